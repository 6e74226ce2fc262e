set_option maxRecDepth 100000 in
theorem ok122 : okM mi122 = true := by decide +kernel
set_option maxRecDepth 100000 in
theorem ok123 : okM mi123 = true := by decide +kernel
set_option maxRecDepth 100000 in
theorem ok124 : okM mi124 = true := by decide +kernel
set_option maxRecDepth 100000 in
theorem ok125 : okM mi125 = true := by decide +kernel
set_option maxRecDepth 100000 in
theorem ok126 : okM mi126 = true := by decide +kernel
set_option maxRecDepth 100000 in
theorem ok127 : okM mi127 = true := by decide +kernel
set_option maxRecDepth 100000 in
theorem ok128 : okM mi128 = true := by decide +kernel
set_option maxRecDepth 100000 in
theorem ok129 : okM mi129 = true := by decide +kernel
set_option maxRecDepth 100000 in
theorem ok130 : okM mi130 = true := by decide +kernel
set_option maxRecDepth 100000 in
theorem ok131 : okM mi131 = true := by decide +kernel
set_option maxRecDepth 100000 in
theorem ok132 : okM mi132 = true := by decide +kernel
set_option maxRecDepth 100000 in
theorem ok133 : okM mi133 = true := by decide +kernel
set_option maxRecDepth 100000 in
theorem ok134 : okM mi134 = true := by decide +kernel
set_option maxRecDepth 100000 in
theorem ok135 : okM mi135 = true := by decide +kernel
set_option maxRecDepth 100000 in
theorem ok136 : okM mi136 = true := by decide +kernel
set_option maxRecDepth 100000 in
theorem ok137 : okM mi137 = true := by decide +kernel
set_option maxRecDepth 100000 in
theorem ok138 : okM mi138 = true := by decide +kernel
set_option maxRecDepth 100000 in
theorem ok139 : okM mi139 = true := by decide +kernel
set_option maxRecDepth 100000 in
theorem ok140 : okM mi140 = true := by decide +kernel
set_option maxRecDepth 100000 in
theorem ok141 : okM mi141 = true := by decide +kernel
set_option maxRecDepth 100000 in
theorem ok142 : okM mi142 = true := by decide +kernel
set_option maxRecDepth 100000 in
theorem ok143 : okM mi143 = true := by decide +kernel
set_option maxRecDepth 100000 in
theorem ok144 : okM mi144 = true := by decide +kernel
set_option maxRecDepth 100000 in
theorem ok145 : okM mi145 = true := by decide +kernel
set_option maxRecDepth 100000 in
theorem ok146 : okM mi146 = true := by decide +kernel
set_option maxRecDepth 100000 in
theorem ok147 : okM mi147 = true := by decide +kernel
set_option maxRecDepth 100000 in
theorem ok148 : okM mi148 = true := by decide +kernel
set_option maxRecDepth 100000 in
theorem ok149 : okM mi149 = true := by decide +kernel
set_option maxRecDepth 100000 in
theorem ok150 : okM mi150 = true := by decide +kernel
