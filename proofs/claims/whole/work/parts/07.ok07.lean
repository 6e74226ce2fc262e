set_option maxRecDepth 100000 in
theorem ok231 : okM mi231 = true := by decide +kernel
set_option maxRecDepth 100000 in
theorem ok232 : okM mi232 = true := by decide +kernel
set_option maxRecDepth 100000 in
theorem ok233 : okM mi233 = true := by decide +kernel
set_option maxRecDepth 100000 in
theorem ok234 : okM mi234 = true := by decide +kernel
set_option maxRecDepth 100000 in
theorem ok235 : okM mi235 = true := by decide +kernel
set_option maxRecDepth 100000 in
theorem ok236 : okM mi236 = true := by decide +kernel
set_option maxRecDepth 100000 in
theorem ok237 : okM mi237 = true := by decide +kernel
set_option maxRecDepth 100000 in
theorem ok238 : okM mi238 = true := by decide +kernel
set_option maxRecDepth 100000 in
theorem ok239 : okM mi239 = true := by decide +kernel
set_option maxRecDepth 100000 in
theorem ok240 : okM mi240 = true := by decide +kernel
set_option maxRecDepth 100000 in
theorem ok241 : okM mi241 = true := by decide +kernel
set_option maxRecDepth 100000 in
theorem ok242 : okM mi242 = true := by decide +kernel
set_option maxRecDepth 100000 in
theorem ok243 : okM mi243 = true := by decide +kernel
