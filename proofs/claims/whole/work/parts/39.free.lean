/-! FREED: gathered (printed by p39.py) -/
def ga_wl (I : Nat → Nat → Int32) (L : Nat → Nat → Int64) (m : Nat) : Nat → Nat → ((Nat → Int32) × Int32 × (Nat → Int64)) → (Nat → Int32) × Int32 × (Nat → Int64)
  | 0, _, s => s
  | f + 1, j, s =>
  if (8 : Int32) ≤ s.2.1 then (s.1, s.2.1, s.2.2) else
  if (isHeld I (nI j)) = 0 then (ga_wl I L m f (j + 1) (s.1, s.2.1, s.2.2)) else
  ga_wl I L m f (j + 1) ((upr s.1 s.2.1.toNatClampNeg (nI j)), (s.2.1 + (1 : Int32)), (upr s.2.2 s.2.1.toNatClampNeg ((((dueBy_it (up2 (up2 (up1 I 57 s.1) 56 3 s.2.1) 57 s.2.1.toNatClampNeg (nI j)) (up1 L 58 s.2.2) (nI j) m).toInt64) + ((I 7 ((nI j).toNatClampNeg)).toInt64)) - ((I 3 ((nI j).toNatClampNeg)).toInt64))))

set_option maxRecDepth 20000 in
theorem l_ga (tl : List (Nat × Nat)) (I : Nat → Nat → Int32) (L : Nat → Nat → Int64) (rd : Nat → Nat → Option Nat) (m q : Nat) (hm : I 16 0 = nI m) (hb : m ≤ 40) (hq : I 2 0 = nI q) (hqb : q ≤ 12) (rr : Option Value) (Me : Mm) : ∀ f j (s : (Nat → Int32) × Int32 × (Nat → Int64)), j + f = q → (0 ≤ (s.2.1).toInt ∧ (s.2.1).toInt ≤ 8) → (∀ cc : Option Value, Runs 20 55 [some (.ref 56), some (.ref 1), some (.ref 2), cc, none, none] [] (mk tl (up2 (up1 I 57 ((ga_wl I L m f j s).1)) 56 3 ((ga_wl I L m f j s).2.1)) (up1 L 58 ((ga_wl I L m f j s).2.2)) rd) rr Me) → Runs 20 8 [some (.ref 56), some (.ref 1), some (.ref 2), some (.int (nI j)), none, none] [] (mk tl (up2 (up1 I 57 s.1) 56 3 s.2.1) (up1 L 58 s.2.2) rd) rr Me := by
  intro f
  induction f with
  | zero =>
    intro j s hj hi hK
    refine Runs.bl 4 (g := true) (i' := if decide ((I 2 0) ≤ (nI j)) = true then 55 else 12) (ls' := [some (.ref 56), some (.ref 1), some (.ref 2), some (.int (nI j)), none, none]) (st' := []) (M' := mk tl (up2 (up1 I 57 s.1) 56 3 s.2.1) (up1 L 58 s.2.2) rd) rfl rfl ?_
    refine Runs.brT (by show I 2 0 ≤ nI j; rw [hq]; exact nI_le (by omega) (by omega)) ?_
    exact hK _
  | succ f ih =>
    intro j s hj hi hK
    refine Runs.bl 4 (g := true) (i' := if decide ((I 2 0) ≤ (nI j)) = true then 55 else 12) (ls' := [some (.ref 56), some (.ref 1), some (.ref 2), some (.int (nI j)), none, none]) (st' := []) (M' := mk tl (up2 (up1 I 57 s.1) 56 3 s.2.1) (up1 L 58 s.2.2) rd) rfl rfl ?_
    refine Runs.brF (by show ¬ I 2 0 ≤ nI j; rw [hq]; exact nI_ge (by omega) (by omega)) ?_
    refine Runs.bl 4 (g := true) (i' := if decide ((8 : Int32) ≤ s.2.1) = true then 55 else 16) (ls' := [some (.ref 56), some (.ref 1), some (.ref 2), some (.int (nI j)), none, none]) (st' := []) (M' := mk tl (up2 (up1 I 57 s.1) 56 3 s.2.1) (up1 L 58 s.2.2) rd) rfl rfl ?_
    refine Runs.brP (fun h1 => ?_) (fun h1 => ?_)
    · skip
      have hx := hK (some (.int (nI j)))
      rw [ga_wl, if_pos h1] at hx
      exact hx
    · skip
      refine Runs.bl 2 (g := true) (i' := 18) (ls' := [some (.ref 56), some (.ref 1), some (.ref 2), some (.int (nI j)), none, none]) (st' := [.int (nI j), .ref 2]) (M' := mk tl (up2 (up1 I 57 s.1) 56 3 s.2.1) (up1 L 58 s.2.2) rd) rfl rfl ?_
      refine Runs.call (k' := 56) (as := [.ref 2, .int (nI j)]) (rest := []) (r1 := some (.int (isHeld I (nI j)))) (M1 := mk tl (up2 (up1 I 57 s.1) 56 3 s.2.1) (up1 L 58 s.2.2) rd) rfl rfl rfl (c_isHeld tl (up2 (up1 I 57 s.1) 56 3 s.2.1) (up1 L 58 s.2.2) rd (nI j) ) ?_
      refine Runs.bl 1 (g := true) (i' := if decide ((isHeld I (nI j)) = 0) = true then 53 else 20) (ls' := [some (.ref 56), some (.ref 1), some (.ref 2), some (.int (nI j)), none, none]) (st' := []) (M' := mk tl (up2 (up1 I 57 s.1) 56 3 s.2.1) (up1 L 58 s.2.2) rd) rfl rfl ?_
      refine Runs.brP (fun h2 => ?_) (fun h2 => ?_)
      · skip
        refine Runs.bl 2 (g := true) (i' := 8) (ls' := [some (.ref 56), some (.ref 1), some (.ref 2), some (.int ((nI j) + 1)), none, none]) (st' := []) (M' := mk tl (up2 (up1 I 57 s.1) 56 3 s.2.1) (up1 L 58 s.2.2) rd) rfl rfl ?_
        refine Runs.cg (M := mk tl (up2 (up1 I 57 s.1) 56 3 s.2.1) (up1 L 58 s.2.2) rd) (by rw [nI_1]) (rfl) (ih (j + 1) (s.1, s.2.1, s.2.2) (by omega) (hi) (fun cc => ?_))
        have hx := hK cc
        rw [ga_wl, if_neg h1, if_pos h2] at hx
        exact hx
      · skip
        refine Runs.bl 12 (g := inb s.2.1 8 && true) (i' := 32) (ls' := [some (.ref 56), some (.ref 1), some (.ref 2), some (.int (nI j)), none, none]) (st' := [.int (nI j), .ref 1, .int s.2.1, .ref 58]) (M' := mk tl (up2 (up2 (up1 I 57 s.1) 56 3 s.2.1) 57 s.2.1.toNatClampNeg (nI j)) (up1 L 58 s.2.2) rd) rfl (by have q1 := isHeld_rng h2; have q2 := nI_toInt (n := j) (by omega); have q3 := (show 0 ≤ (nI j).toInt ∧ (nI j).toInt < 12 from by rw [nI_toInt (by omega)]; omega); simp only [Bool.and_true, Bool.true_and, Bool.and_eq_true, inb_iff, Int32.lt_iff_toInt_lt, Int32.le_iff_toInt_le, toI_0, toI_1, toI_2, toI_3, toI_4, toI_5, toI_6, toI_7, toI_8, toI_9, toI_10, toI_12, toI_16, toI_18, toI_20, toI_21, toI_23, toI_24, toI_32, toI_36, toI_39, toI_40, toI_48, toI_50, toI_60, toI_64, toI_75, toI_80, toI_100, toI_144, toI_160, toI_200, toI_256, toI_320, toI_380, toI_576, toI_600, toI_1000, toI_1280, toI_2400, toI_9999, toI_10000, toI_100000, toI_1000000, toI_m1, toI_m100000, toI_s9, toI_s8] at hm hb hq hqb hi h1 q1 q2 q3 ⊢; omega) ?_
        refine Runs.call (k' := 32) (as := [.ref 1, .int (nI j)]) (rest := [.int s.2.1, .ref 58]) (r1 := some (.int (dueBy_it (up2 (up2 (up1 I 57 s.1) 56 3 s.2.1) 57 s.2.1.toNatClampNeg (nI j)) (up1 L 58 s.2.2) (nI j) m))) (M1 := mk tl (up2 (up2 (up1 I 57 s.1) 56 3 s.2.1) 57 s.2.1.toNatClampNeg (nI j)) (up1 L 58 s.2.2) rd) rfl rfl rfl (c_dueBy tl (up2 (up2 (up1 I 57 s.1) 56 3 s.2.1) 57 s.2.1.toNatClampNeg (nI j)) (up1 L 58 s.2.2) rd (nI j) m hm hb) ?_
        refine Runs.bl 22 (g := inb (nI j) 12 && (inb (nI j) 12 && (inb s.2.1 8 && true))) (i' := 8) (ls' := [some (.ref 56), some (.ref 1), some (.ref 2), some (.int ((nI j) + 1)), none, none]) (st' := []) (M' := mk tl (up2 (up2 (up2 (up1 I 57 s.1) 56 3 s.2.1) 57 s.2.1.toNatClampNeg (nI j)) 56 3 (s.2.1 + (1 : Int32))) (up2 (up1 L 58 s.2.2) 58 s.2.1.toNatClampNeg ((((dueBy_it (up2 (up2 (up1 I 57 s.1) 56 3 s.2.1) 57 s.2.1.toNatClampNeg (nI j)) (up1 L 58 s.2.2) (nI j) m).toInt64) + ((I 7 ((nI j).toNatClampNeg)).toInt64)) - ((I 3 ((nI j).toNatClampNeg)).toInt64))) rd) rfl (by have q1 := isHeld_rng h2; have q2 := nI_toInt (n := j) (by omega); have q3 := (show 0 ≤ (nI j).toInt ∧ (nI j).toInt < 12 from by rw [nI_toInt (by omega)]; omega); simp only [Bool.and_true, Bool.true_and, Bool.and_eq_true, inb_iff, Int32.lt_iff_toInt_lt, Int32.le_iff_toInt_le, toI_0, toI_1, toI_2, toI_3, toI_4, toI_5, toI_6, toI_7, toI_8, toI_9, toI_10, toI_12, toI_16, toI_18, toI_20, toI_21, toI_23, toI_24, toI_32, toI_36, toI_39, toI_40, toI_48, toI_50, toI_60, toI_64, toI_75, toI_80, toI_100, toI_144, toI_160, toI_200, toI_256, toI_320, toI_380, toI_576, toI_600, toI_1000, toI_1280, toI_2400, toI_9999, toI_10000, toI_100000, toI_1000000, toI_m1, toI_m100000, toI_s9, toI_s8] at hm hb hq hqb hi h1 q1 q2 q3 ⊢; omega) ?_
        refine Runs.cg (M := mk tl (up2 (up1 I 57 (upr s.1 s.2.1.toNatClampNeg (nI j))) 56 3 (s.2.1 + (1 : Int32))) (up1 L 58 (upr s.2.2 s.2.1.toNatClampNeg ((((dueBy_it (up2 (up2 (up1 I 57 s.1) 56 3 s.2.1) 57 s.2.1.toNatClampNeg (nI j)) (up1 L 58 s.2.2) (nI j) m).toInt64) + ((I 7 ((nI j).toNatClampNeg)).toInt64)) - ((I 3 ((nI j).toNatClampNeg)).toInt64)))) rd) (by rw [nI_1]) (by refine mk_cg ?_ ?_; (funext x; by_cases e0 : x = 57; (subst e0; first | focus (simp (disch := decide) only [up1_ne, up2_ne, su2, up1_at]; done) | rfl); by_cases e1 : x = 56; (subst e1; funext y; by_cases f0 : y = 3; (subst f0; rfl); simp [up1, up2, upr, f0]); simp only [up1_ne e0, up2_ne e0, up1_ne e1, up2_ne e1]); (funext x; by_cases e0 : x = 58; (subst e0; first | focus (simp (disch := decide) only [up1_ne, up2_ne, su2, up1_at]; done) | rfl); simp only [up1_ne e0, up2_ne e0])) (ih (j + 1) ((upr s.1 s.2.1.toNatClampNeg (nI j)), (s.2.1 + (1 : Int32)), (upr s.2.2 s.2.1.toNatClampNeg ((((dueBy_it (up2 (up2 (up1 I 57 s.1) 56 3 s.2.1) 57 s.2.1.toNatClampNeg (nI j)) (up1 L 58 s.2.2) (nI j) m).toInt64) + ((I 7 ((nI j).toNatClampNeg)).toInt64)) - ((I 3 ((nI j).toNatClampNeg)).toInt64)))) (by omega) (by have h8 := h1; simp only [Bool.and_true, Bool.true_and, Bool.and_eq_true, inb_iff, Int32.lt_iff_toInt_lt, Int32.le_iff_toInt_le, toI_0, toI_1, toI_2, toI_3, toI_4, toI_5, toI_6, toI_7, toI_8, toI_9, toI_10, toI_12, toI_16, toI_18, toI_20, toI_21, toI_23, toI_24, toI_32, toI_36, toI_39, toI_40, toI_48, toI_50, toI_60, toI_64, toI_75, toI_80, toI_100, toI_144, toI_160, toI_200, toI_256, toI_320, toI_380, toI_576, toI_600, toI_1000, toI_1280, toI_2400, toI_9999, toI_10000, toI_100000, toI_1000000, toI_m1, toI_m100000, toI_s9, toI_s8] at h8 hi ⊢; rw [add_toI (by rw [toI_1]; omega) (by rw [toI_1]; omega), toI_1]; omega) (fun cc => ?_))
        have hx := hK cc
        rw [ga_wl, if_neg h1, if_neg h2] at hx
        exact hx

