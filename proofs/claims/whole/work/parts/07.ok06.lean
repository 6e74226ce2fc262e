set_option maxRecDepth 100000 in
theorem ok210 : okM mi210 = true := by decide +kernel
set_option maxRecDepth 100000 in
theorem ok211 : okM mi211 = true := by decide +kernel
set_option maxRecDepth 100000 in
theorem ok212 : okM mi212 = true := by decide +kernel
set_option maxRecDepth 100000 in
theorem ok213 : okM mi213 = true := by decide +kernel
set_option maxRecDepth 100000 in
theorem ok214 : okM mi214 = true := by decide +kernel
set_option maxRecDepth 100000 in
theorem ok215 : okM mi215 = true := by decide +kernel
set_option maxRecDepth 100000 in
theorem ok216 : okM mi216 = true := by decide +kernel
set_option maxRecDepth 100000 in
theorem ok217 : okM mi217 = true := by decide +kernel
set_option maxRecDepth 100000 in
theorem ok218 : okM mi218 = true := by decide +kernel
set_option maxRecDepth 100000 in
theorem ok219 : okM mi219 = true := by decide +kernel
set_option maxRecDepth 100000 in
theorem ok220 : okM mi220 = true := by decide +kernel
set_option maxRecDepth 100000 in
theorem ok221 : okM mi221 = true := by decide +kernel
set_option maxRecDepth 100000 in
theorem ok222 : okM mi222 = true := by decide +kernel
set_option maxRecDepth 100000 in
theorem ok223 : okM mi223 = true := by decide +kernel
set_option maxRecDepth 100000 in
theorem ok224 : okM mi224 = true := by decide +kernel
set_option maxRecDepth 100000 in
theorem ok225 : okM mi225 = true := by decide +kernel
set_option maxRecDepth 100000 in
theorem ok226 : okM mi226 = true := by decide +kernel
set_option maxRecDepth 100000 in
theorem ok227 : okM mi227 = true := by decide +kernel
set_option maxRecDepth 100000 in
theorem ok228 : okM mi228 = true := by decide +kernel
set_option maxRecDepth 100000 in
theorem ok229 : okM mi229 = true := by decide +kernel
set_option maxRecDepth 100000 in
theorem ok230 : okM mi230 = true := by decide +kernel
