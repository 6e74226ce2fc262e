set_option maxRecDepth 100000 in
theorem ok0 : okM mi0 = true := by decide +kernel
set_option maxRecDepth 100000 in
theorem ok1 : okM mi1 = true := by decide +kernel
set_option maxRecDepth 100000 in
theorem ok2 : okM mi2 = true := by decide +kernel
set_option maxRecDepth 100000 in
theorem ok3 : okM mi3 = true := by decide +kernel
set_option maxRecDepth 100000 in
theorem ok4 : okM mi4 = true := by decide +kernel
set_option maxRecDepth 100000 in
theorem ok5 : okM mi5 = true := by decide +kernel
set_option maxRecDepth 100000 in
theorem ok6 : okM mi6 = true := by decide +kernel
set_option maxRecDepth 100000 in
theorem ok7 : okM mi7 = true := by decide +kernel
set_option maxRecDepth 100000 in
theorem ok8 : okM mi8 = true := by decide +kernel
set_option maxRecDepth 100000 in
theorem ok9 : okM mi9 = true := by decide +kernel
set_option maxRecDepth 100000 in
theorem ok10 : okM mi10 = true := by decide +kernel
set_option maxRecDepth 100000 in
theorem ok11 : okM mi11 = true := by decide +kernel
set_option maxRecDepth 100000 in
theorem ok12 : okM mi12 = true := by decide +kernel
set_option maxRecDepth 100000 in
theorem ok13 : okM mi13 = true := by decide +kernel
set_option maxRecDepth 100000 in
theorem ok14 : okM mi14 = true := by decide +kernel
set_option maxRecDepth 100000 in
theorem ok15 : okM mi15 = true := by decide +kernel
set_option maxRecDepth 100000 in
theorem ok16 : okM mi16 = true := by decide +kernel
set_option maxRecDepth 100000 in
theorem ok17 : okM mi17 = true := by decide +kernel
set_option maxRecDepth 100000 in
theorem ok18 : okM mi18 = true := by decide +kernel
set_option maxRecDepth 100000 in
theorem ok19 : okM mi19 = true := by decide +kernel
set_option maxRecDepth 100000 in
theorem ok20 : okM mi20 = true := by decide +kernel
set_option maxRecDepth 100000 in
theorem ok21 : okM mi21 = true := by decide +kernel
set_option maxRecDepth 100000 in
theorem ok22 : okM mi22 = true := by decide +kernel
set_option maxRecDepth 100000 in
theorem ok23 : okM mi23 = true := by decide +kernel
set_option maxRecDepth 100000 in
theorem ok24 : okM mi24 = true := by decide +kernel
set_option maxRecDepth 100000 in
theorem ok25 : okM mi25 = true := by decide +kernel
set_option maxRecDepth 100000 in
theorem ok26 : okM mi26 = true := by decide +kernel
set_option maxRecDepth 100000 in
theorem ok27 : okM mi27 = true := by decide +kernel
set_option maxRecDepth 100000 in
theorem ok28 : okM mi28 = true := by decide +kernel
set_option maxRecDepth 100000 in
theorem ok29 : okM mi29 = true := by decide +kernel
set_option maxRecDepth 100000 in
theorem ok30 : okM mi30 = true := by decide +kernel
set_option maxRecDepth 100000 in
theorem ok31 : okM mi31 = true := by decide +kernel
set_option maxRecDepth 100000 in
theorem ok32 : okM mi32 = true := by decide +kernel
set_option maxRecDepth 100000 in
theorem ok33 : okM mi33 = true := by decide +kernel
set_option maxRecDepth 100000 in
theorem ok34 : okM mi34 = true := by decide +kernel
set_option maxRecDepth 100000 in
theorem ok35 : okM mi35 = true := by decide +kernel
set_option maxRecDepth 100000 in
theorem ok36 : okM mi36 = true := by decide +kernel
set_option maxRecDepth 100000 in
theorem ok37 : okM mi37 = true := by decide +kernel
set_option maxRecDepth 100000 in
theorem ok38 : okM mi38 = true := by decide +kernel
set_option maxRecDepth 100000 in
theorem ok39 : okM mi39 = true := by decide +kernel
set_option maxRecDepth 100000 in
theorem ok40 : okM mi40 = true := by decide +kernel
set_option maxRecDepth 100000 in
theorem ok41 : okM mi41 = true := by decide +kernel
set_option maxRecDepth 100000 in
theorem ok42 : okM mi42 = true := by decide +kernel
