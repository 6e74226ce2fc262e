set_option maxRecDepth 100000 in
theorem ok83 : okM mi83 = true := by decide +kernel
set_option maxRecDepth 100000 in
theorem ok84 : okM mi84 = true := by decide +kernel
set_option maxRecDepth 100000 in
theorem ok85 : okM mi85 = true := by decide +kernel
set_option maxRecDepth 100000 in
theorem ok86 : okM mi86 = true := by decide +kernel
set_option maxRecDepth 100000 in
theorem ok87 : okM mi87 = true := by decide +kernel
set_option maxRecDepth 100000 in
theorem ok88 : okM mi88 = true := by decide +kernel
set_option maxRecDepth 100000 in
theorem ok89 : okM mi89 = true := by decide +kernel
set_option maxRecDepth 100000 in
theorem ok90 : okM mi90 = true := by decide +kernel
set_option maxRecDepth 100000 in
theorem ok91 : okM mi91 = true := by decide +kernel
set_option maxRecDepth 100000 in
theorem ok92 : okM mi92 = true := by decide +kernel
set_option maxRecDepth 100000 in
theorem ok93 : okM mi93 = true := by decide +kernel
set_option maxRecDepth 100000 in
theorem ok94 : okM mi94 = true := by decide +kernel
set_option maxRecDepth 100000 in
theorem ok95 : okM mi95 = true := by decide +kernel
set_option maxRecDepth 100000 in
theorem ok96 : okM mi96 = true := by decide +kernel
set_option maxRecDepth 100000 in
theorem ok97 : okM mi97 = true := by decide +kernel
set_option maxRecDepth 100000 in
theorem ok98 : okM mi98 = true := by decide +kernel
set_option maxRecDepth 100000 in
theorem ok99 : okM mi99 = true := by decide +kernel
set_option maxRecDepth 100000 in
theorem ok100 : okM mi100 = true := by decide +kernel
set_option maxRecDepth 100000 in
theorem ok101 : okM mi101 = true := by decide +kernel
set_option maxRecDepth 100000 in
theorem ok102 : okM mi102 = true := by decide +kernel
set_option maxRecDepth 100000 in
theorem ok103 : okM mi103 = true := by decide +kernel
set_option maxRecDepth 100000 in
theorem ok104 : okM mi104 = true := by decide +kernel
set_option maxRecDepth 100000 in
theorem ok105 : okM mi105 = true := by decide +kernel
set_option maxRecDepth 100000 in
theorem ok106 : okM mi106 = true := by decide +kernel
set_option maxRecDepth 100000 in
theorem ok107 : okM mi107 = true := by decide +kernel
set_option maxRecDepth 100000 in
theorem ok108 : okM mi108 = true := by decide +kernel
set_option maxRecDepth 100000 in
theorem ok109 : okM mi109 = true := by decide +kernel
set_option maxRecDepth 100000 in
theorem ok110 : okM mi110 = true := by decide +kernel
set_option maxRecDepth 100000 in
theorem ok111 : okM mi111 = true := by decide +kernel
set_option maxRecDepth 100000 in
theorem ok112 : okM mi112 = true := by decide +kernel
set_option maxRecDepth 100000 in
theorem ok113 : okM mi113 = true := by decide +kernel
set_option maxRecDepth 100000 in
theorem ok114 : okM mi114 = true := by decide +kernel
set_option maxRecDepth 100000 in
theorem ok115 : okM mi115 = true := by decide +kernel
set_option maxRecDepth 100000 in
theorem ok116 : okM mi116 = true := by decide +kernel
set_option maxRecDepth 100000 in
theorem ok117 : okM mi117 = true := by decide +kernel
set_option maxRecDepth 100000 in
theorem ok118 : okM mi118 = true := by decide +kernel
set_option maxRecDepth 100000 in
theorem ok119 : okM mi119 = true := by decide +kernel
set_option maxRecDepth 100000 in
theorem ok120 : okM mi120 = true := by decide +kernel
set_option maxRecDepth 100000 in
theorem ok121 : okM mi121 = true := by decide +kernel
