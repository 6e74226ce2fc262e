/-! METHOD 244, the law: its rows (printed) -/
def fk244 (r : Ie × Nat) : Bool := okR mi244.1.cls (mi244.1.name == "<init>") mi244.2.1 mi244.2.2.2.2.2.1 mi244.2.2.2.2.2.2.1 (pcz mi244.2.2.2.2.2.2.2.2) r.2 r.1
theorem all_cut {α : Type} {f : α → Bool} (l : List α) (n : Nat) (h1 : (l.take n).all f = true) (h2 : (l.drop n).all f = true) : l.all f = true := by
  rw [← List.take_append_drop n l, List.all_append, h1, h2]; rfl
set_option maxRecDepth 20000 in
theorem ck244_1 : ((mi244.2.2.2.2.2.2.2.2.zipIdx.drop 49).take 49).all fk244 = true := by decide +kernel
set_option maxRecDepth 20000 in
theorem ck244_2 : ((mi244.2.2.2.2.2.2.2.2.zipIdx.drop 98).take 49).all fk244 = true := by decide +kernel
set_option maxRecDepth 20000 in
theorem ck244_3 : ((mi244.2.2.2.2.2.2.2.2.zipIdx.drop 147).take 49).all fk244 = true := by decide +kernel
set_option maxRecDepth 20000 in
theorem ck244_4 : ((mi244.2.2.2.2.2.2.2.2.zipIdx.drop 196).take 49).all fk244 = true := by decide +kernel
set_option maxRecDepth 20000 in
theorem ck244_5 : ((mi244.2.2.2.2.2.2.2.2.zipIdx.drop 245).take 49).all fk244 = true := by decide +kernel
set_option maxRecDepth 20000 in
theorem ck244_6 : ((mi244.2.2.2.2.2.2.2.2.zipIdx.drop 294).take 49).all fk244 = true := by decide +kernel
set_option maxRecDepth 20000 in
theorem ck244_7 : ((mi244.2.2.2.2.2.2.2.2.zipIdx.drop 343).take 49).all fk244 = true := by decide +kernel
set_option maxRecDepth 20000 in
theorem ck244_8 : ((mi244.2.2.2.2.2.2.2.2.zipIdx.drop 392).take 49).all fk244 = true := by decide +kernel
set_option maxRecDepth 20000 in
theorem ck244_9 : ((mi244.2.2.2.2.2.2.2.2.zipIdx.drop 441).take 49).all fk244 = true := by decide +kernel
set_option maxRecDepth 20000 in
theorem ck244_10 : ((mi244.2.2.2.2.2.2.2.2.zipIdx.drop 490).take 49).all fk244 = true := by decide +kernel
set_option maxRecDepth 20000 in
theorem ck244_11 : ((mi244.2.2.2.2.2.2.2.2.zipIdx.drop 539).take 49).all fk244 = true := by decide +kernel
set_option maxRecDepth 20000 in
theorem ck244_12 : ((mi244.2.2.2.2.2.2.2.2.zipIdx.drop 588).take 49).all fk244 = true := by decide +kernel
set_option maxRecDepth 20000 in
theorem ck244_13 : ((mi244.2.2.2.2.2.2.2.2.zipIdx.drop 637).take 49).all fk244 = true := by decide +kernel
set_option maxRecDepth 20000 in
theorem ck244_14 : ((mi244.2.2.2.2.2.2.2.2.zipIdx.drop 686).take 49).all fk244 = true := by decide +kernel
set_option maxRecDepth 20000 in
theorem ck244_15 : ((mi244.2.2.2.2.2.2.2.2.zipIdx.drop 735).take 49).all fk244 = true := by decide +kernel
set_option maxRecDepth 20000 in
theorem ck244_16 : ((mi244.2.2.2.2.2.2.2.2.zipIdx.drop 784).take 49).all fk244 = true := by decide +kernel
set_option maxRecDepth 20000 in
theorem ck244_17 : ((mi244.2.2.2.2.2.2.2.2.zipIdx.drop 833).take 49).all fk244 = true := by decide +kernel
set_option maxRecDepth 20000 in
theorem ck244_18 : ((mi244.2.2.2.2.2.2.2.2.zipIdx.drop 882).take 49).all fk244 = true := by decide +kernel
set_option maxRecDepth 20000 in
theorem ck244_19 : ((mi244.2.2.2.2.2.2.2.2.zipIdx.drop 931).take 49).all fk244 = true := by decide +kernel
