set_option maxRecDepth 100000 in
theorem ok182 : okM mi182 = true := by decide +kernel
set_option maxRecDepth 100000 in
theorem ok183 : okM mi183 = true := by decide +kernel
set_option maxRecDepth 100000 in
theorem ok184 : okM mi184 = true := by decide +kernel
set_option maxRecDepth 100000 in
theorem ok185 : okM mi185 = true := by decide +kernel
set_option maxRecDepth 100000 in
theorem ok186 : okM mi186 = true := by decide +kernel
set_option maxRecDepth 100000 in
theorem ok187 : okM mi187 = true := by decide +kernel
set_option maxRecDepth 100000 in
theorem ok188 : okM mi188 = true := by decide +kernel
set_option maxRecDepth 100000 in
theorem ok189 : okM mi189 = true := by decide +kernel
set_option maxRecDepth 100000 in
theorem ok190 : okM mi190 = true := by decide +kernel
set_option maxRecDepth 100000 in
theorem ok191 : okM mi191 = true := by decide +kernel
set_option maxRecDepth 100000 in
theorem ok192 : okM mi192 = true := by decide +kernel
set_option maxRecDepth 100000 in
theorem ok193 : okM mi193 = true := by decide +kernel
set_option maxRecDepth 100000 in
theorem ok194 : okM mi194 = true := by decide +kernel
set_option maxRecDepth 100000 in
theorem ok195 : okM mi195 = true := by decide +kernel
set_option maxRecDepth 100000 in
theorem ok196 : okM mi196 = true := by decide +kernel
set_option maxRecDepth 100000 in
theorem ok197 : okM mi197 = true := by decide +kernel
set_option maxRecDepth 100000 in
theorem ok198 : okM mi198 = true := by decide +kernel
set_option maxRecDepth 100000 in
theorem ok199 : okM mi199 = true := by decide +kernel
set_option maxRecDepth 100000 in
theorem ok200 : okM mi200 = true := by decide +kernel
set_option maxRecDepth 100000 in
theorem ok201 : okM mi201 = true := by decide +kernel
set_option maxRecDepth 100000 in
theorem ok202 : okM mi202 = true := by decide +kernel
set_option maxRecDepth 100000 in
theorem ok203 : okM mi203 = true := by decide +kernel
set_option maxRecDepth 100000 in
theorem ok204 : okM mi204 = true := by decide +kernel
set_option maxRecDepth 100000 in
theorem ok205 : okM mi205 = true := by decide +kernel
set_option maxRecDepth 100000 in
theorem ok206 : okM mi206 = true := by decide +kernel
set_option maxRecDepth 100000 in
theorem ok207 : okM mi207 = true := by decide +kernel
set_option maxRecDepth 100000 in
theorem ok208 : okM mi208 = true := by decide +kernel
set_option maxRecDepth 100000 in
theorem ok209 : okM mi209 = true := by decide +kernel
