/-! METHOD 244: its first rows -/
set_option maxRecDepth 20000 in
theorem ck244_a : ((mi244.2.2.2.2.2.2.2.2.zipIdx.drop 0).take 21).all fk244 = true := by decide +kernel
set_option maxRecDepth 20000 in
theorem ck244_c : ((mi244.2.2.2.2.2.2.2.2.zipIdx.drop 22).take 27).all fk244 = true := by decide +kernel
set_option maxRecDepth 20000 in
theorem ck244_b1 : (match mi244.2.2.2.2.2.2.2.2[21]? with | some r => decide (decode code r.1 = .ok (rlI (pcz mi244.2.2.2.2.2.2.2.2) r.1 r.2.1 r.2.2.1 r.2.2.2.1, lnI r.2.1 r.2.2.1 r.2.2.2.1)) | none => false) = true := by decide +kernel
set_option maxRecDepth 20000 in
theorem ck244_b2 : (match mi244.2.2.2.2.2.2.2.2[21]? with | some r => wdI mi244.1.cls (mi244.1.name == "<init>") mi244.2.2.2.2.2.1 mi244.2.2.2.2.2.2.1 (pcz mi244.2.2.2.2.2.2.2.2) r.1 r.2.1 r.2.2.1 r.2.2.2.1 r.2.2.2.2 | none => false) = true := by decide +kernel
