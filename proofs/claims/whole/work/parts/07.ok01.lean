set_option maxRecDepth 100000 in
theorem ok43 : okM mi43 = true := by decide +kernel
set_option maxRecDepth 100000 in
theorem ok44 : okM mi44 = true := by decide +kernel
set_option maxRecDepth 100000 in
theorem ok45 : okM mi45 = true := by decide +kernel
set_option maxRecDepth 100000 in
theorem ok46 : okM mi46 = true := by decide +kernel
set_option maxRecDepth 100000 in
theorem ok47 : okM mi47 = true := by decide +kernel
set_option maxRecDepth 100000 in
theorem ok48 : okM mi48 = true := by decide +kernel
set_option maxRecDepth 100000 in
theorem ok49 : okM mi49 = true := by decide +kernel
set_option maxRecDepth 100000 in
theorem ok50 : okM mi50 = true := by decide +kernel
set_option maxRecDepth 100000 in
theorem ok51 : okM mi51 = true := by decide +kernel
set_option maxRecDepth 100000 in
theorem ok52 : okM mi52 = true := by decide +kernel
set_option maxRecDepth 100000 in
theorem ok53 : okM mi53 = true := by decide +kernel
set_option maxRecDepth 100000 in
theorem ok54 : okM mi54 = true := by decide +kernel
set_option maxRecDepth 100000 in
theorem ok55 : okM mi55 = true := by decide +kernel
set_option maxRecDepth 100000 in
theorem ok56 : okM mi56 = true := by decide +kernel
set_option maxRecDepth 100000 in
theorem ok57 : okM mi57 = true := by decide +kernel
set_option maxRecDepth 100000 in
theorem ok58 : okM mi58 = true := by decide +kernel
set_option maxRecDepth 100000 in
theorem ok59 : okM mi59 = true := by decide +kernel
set_option maxRecDepth 100000 in
theorem ok60 : okM mi60 = true := by decide +kernel
set_option maxRecDepth 100000 in
theorem ok61 : okM mi61 = true := by decide +kernel
set_option maxRecDepth 100000 in
theorem ok62 : okM mi62 = true := by decide +kernel
set_option maxRecDepth 100000 in
theorem ok63 : okM mi63 = true := by decide +kernel
set_option maxRecDepth 100000 in
theorem ok64 : okM mi64 = true := by decide +kernel
set_option maxRecDepth 100000 in
theorem ok65 : okM mi65 = true := by decide +kernel
set_option maxRecDepth 100000 in
theorem ok66 : okM mi66 = true := by decide +kernel
set_option maxRecDepth 100000 in
theorem ok67 : okM mi67 = true := by decide +kernel
set_option maxRecDepth 100000 in
theorem ok68 : okM mi68 = true := by decide +kernel
set_option maxRecDepth 100000 in
theorem ok69 : okM mi69 = true := by decide +kernel
set_option maxRecDepth 100000 in
theorem ok70 : okM mi70 = true := by decide +kernel
set_option maxRecDepth 100000 in
theorem ok71 : okM mi71 = true := by decide +kernel
set_option maxRecDepth 100000 in
theorem ok72 : okM mi72 = true := by decide +kernel
set_option maxRecDepth 100000 in
theorem ok73 : okM mi73 = true := by decide +kernel
set_option maxRecDepth 100000 in
theorem ok74 : okM mi74 = true := by decide +kernel
set_option maxRecDepth 100000 in
theorem ok75 : okM mi75 = true := by decide +kernel
set_option maxRecDepth 100000 in
theorem ok76 : okM mi76 = true := by decide +kernel
set_option maxRecDepth 100000 in
theorem ok77 : okM mi77 = true := by decide +kernel
set_option maxRecDepth 100000 in
theorem ok78 : okM mi78 = true := by decide +kernel
set_option maxRecDepth 100000 in
theorem ok79 : okM mi79 = true := by decide +kernel
set_option maxRecDepth 100000 in
theorem ok80 : okM mi80 = true := by decide +kernel
set_option maxRecDepth 100000 in
theorem ok81 : okM mi81 = true := by decide +kernel
set_option maxRecDepth 100000 in
theorem ok82 : okM mi82 = true := by decide +kernel
