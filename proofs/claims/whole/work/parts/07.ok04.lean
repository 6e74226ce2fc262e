set_option maxRecDepth 100000 in
theorem ok151 : okM mi151 = true := by decide +kernel
set_option maxRecDepth 100000 in
theorem ok152 : okM mi152 = true := by decide +kernel
set_option maxRecDepth 100000 in
theorem ok153 : okM mi153 = true := by decide +kernel
set_option maxRecDepth 100000 in
theorem ok154 : okM mi154 = true := by decide +kernel
set_option maxRecDepth 100000 in
theorem ok155 : okM mi155 = true := by decide +kernel
set_option maxRecDepth 100000 in
theorem ok156 : okM mi156 = true := by decide +kernel
set_option maxRecDepth 100000 in
theorem ok157 : okM mi157 = true := by decide +kernel
set_option maxRecDepth 100000 in
theorem ok158 : okM mi158 = true := by decide +kernel
set_option maxRecDepth 100000 in
theorem ok159 : okM mi159 = true := by decide +kernel
set_option maxRecDepth 100000 in
theorem ok160 : okM mi160 = true := by decide +kernel
set_option maxRecDepth 100000 in
theorem ok161 : okM mi161 = true := by decide +kernel
set_option maxRecDepth 100000 in
theorem ok162 : okM mi162 = true := by decide +kernel
set_option maxRecDepth 100000 in
theorem ok163 : okM mi163 = true := by decide +kernel
set_option maxRecDepth 100000 in
theorem ok164 : okM mi164 = true := by decide +kernel
set_option maxRecDepth 100000 in
theorem ok165 : okM mi165 = true := by decide +kernel
set_option maxRecDepth 100000 in
theorem ok166 : okM mi166 = true := by decide +kernel
set_option maxRecDepth 100000 in
theorem ok167 : okM mi167 = true := by decide +kernel
set_option maxRecDepth 100000 in
theorem ok168 : okM mi168 = true := by decide +kernel
set_option maxRecDepth 100000 in
theorem ok169 : okM mi169 = true := by decide +kernel
set_option maxRecDepth 100000 in
theorem ok170 : okM mi170 = true := by decide +kernel
set_option maxRecDepth 100000 in
theorem ok171 : okM mi171 = true := by decide +kernel
set_option maxRecDepth 100000 in
theorem ok172 : okM mi172 = true := by decide +kernel
set_option maxRecDepth 100000 in
theorem ok173 : okM mi173 = true := by decide +kernel
set_option maxRecDepth 100000 in
theorem ok174 : okM mi174 = true := by decide +kernel
set_option maxRecDepth 100000 in
theorem ok175 : okM mi175 = true := by decide +kernel
set_option maxRecDepth 100000 in
theorem ok176 : okM mi176 = true := by decide +kernel
set_option maxRecDepth 100000 in
theorem ok177 : okM mi177 = true := by decide +kernel
set_option maxRecDepth 100000 in
theorem ok178 : okM mi178 = true := by decide +kernel
set_option maxRecDepth 100000 in
theorem ok179 : okM mi179 = true := by decide +kernel
set_option maxRecDepth 100000 in
theorem ok180 : okM mi180 = true := by decide +kernel
set_option maxRecDepth 100000 in
theorem ok181 : okM mi181 = true := by decide +kernel
