/-! FREED: gathered (printed by p39.py) -/
def ga_wl (I : Nat → Nat → Int32) (L : Nat → Nat → Int64) (m : Nat) : Nat → Nat → ((Nat → Int32) × Int32 × (Nat → Int64)) → (Nat → Int32) × Int32 × (Nat → Int64)
  | 0, _, s => s
  | f + 1, j, s =>
  if (8 : Int32) ≤ s.2.1 then (s.1, s.2.1, s.2.2) else
  if (isHeld I (nI j)) = 0 then (ga_wl I L m f (j + 1) (s.1, s.2.1, s.2.2)) else
  ga_wl I L m f (j + 1) ((upr s.1 s.2.1.toNatClampNeg (nI j)), (s.2.1 + (1 : Int32)), (upr s.2.2 s.2.1.toNatClampNeg ((((dueBy_it (up2 (up2 (up1 I 57 s.1) 56 3 s.2.1) 57 s.2.1.toNatClampNeg (nI j)) (up1 L 58 s.2.2) (nI j) m).toInt64) + ((I 7 ((nI j).toNatClampNeg)).toInt64)) - ((I 3 ((nI j).toNatClampNeg)).toInt64))))

set_option maxRecDepth 20000 in
theorem l_ga (tl : List (Nat × Nat)) (I : Nat → Nat → Int32) (L : Nat → Nat → Int64) (rd : Nat → Nat → Option Nat) (m q : Nat) (hm : I 16 0 = nI m) (hb : m ≤ 40) (hq : I 2 0 = nI q) (hqb : q ≤ 12) (rr : Option Value) (Me : Mm) : ∀ f j (s : (Nat → Int32) × Int32 × (Nat → Int64)), j + f = q → (0 ≤ (s.2.1).toInt ∧ (s.2.1).toInt ≤ 8) → (∀ cc : Option Value, Runs 20 55 [some (.ref 56), some (.ref 1), some (.ref 2), cc, none, none] [] (mk tl (up2 (up1 I 57 ((ga_wl I L m f j s).1)) 56 3 ((ga_wl I L m f j s).2.1)) (up1 L 58 ((ga_wl I L m f j s).2.2)) rd) rr Me) → Runs 20 8 [some (.ref 56), some (.ref 1), some (.ref 2), some (.int (nI j)), none, none] [] (mk tl (up2 (up1 I 57 s.1) 56 3 s.2.1) (up1 L 58 s.2.2) rd) rr Me := by
  intro f
  induction f with
  | zero =>
    intro j s hj hi hK
    refine Runs.bl 4 (g := true) (i' := if decide ((I 2 0) ≤ (nI j)) = true then 55 else 12) (ls' := [some (.ref 56), some (.ref 1), some (.ref 2), some (.int (nI j)), none, none]) (st' := []) (M' := mk tl (up2 (up1 I 57 s.1) 56 3 s.2.1) (up1 L 58 s.2.2) rd) rfl rfl ?_
    refine Runs.brT (by show I 2 0 ≤ nI j; rw [hq]; exact nI_le (by omega) (by omega)) ?_
    exact hK _
  | succ f ih =>
    intro j s hj hi hK
    refine Runs.bl 4 (g := true) (i' := if decide ((I 2 0) ≤ (nI j)) = true then 55 else 12) (ls' := [some (.ref 56), some (.ref 1), some (.ref 2), some (.int (nI j)), none, none]) (st' := []) (M' := mk tl (up2 (up1 I 57 s.1) 56 3 s.2.1) (up1 L 58 s.2.2) rd) rfl rfl ?_
    refine Runs.brF (by show ¬ I 2 0 ≤ nI j; rw [hq]; exact nI_ge (by omega) (by omega)) ?_
    refine Runs.bl 4 (g := true) (i' := if decide ((8 : Int32) ≤ s.2.1) = true then 55 else 16) (ls' := [some (.ref 56), some (.ref 1), some (.ref 2), some (.int (nI j)), none, none]) (st' := []) (M' := mk tl (up2 (up1 I 57 s.1) 56 3 s.2.1) (up1 L 58 s.2.2) rd) rfl rfl ?_
    refine Runs.brP (fun h1 => ?_) (fun h1 => ?_)
    · skip
      have hx := hK (some (.int (nI j)))
      rw [ga_wl, if_pos h1] at hx
      exact hx
    · skip
      refine Runs.bl 2 (g := true) (i' := 18) (ls' := [some (.ref 56), some (.ref 1), some (.ref 2), some (.int (nI j)), none, none]) (st' := [.int (nI j), .ref 2]) (M' := mk tl (up2 (up1 I 57 s.1) 56 3 s.2.1) (up1 L 58 s.2.2) rd) rfl rfl ?_
      refine Runs.call (k' := 56) (as := [.ref 2, .int (nI j)]) (rest := []) (r1 := some (.int (isHeld I (nI j)))) (M1 := mk tl (up2 (up1 I 57 s.1) 56 3 s.2.1) (up1 L 58 s.2.2) rd) rfl rfl rfl (c_isHeld tl (up2 (up1 I 57 s.1) 56 3 s.2.1) (up1 L 58 s.2.2) rd (nI j) ) ?_
      refine Runs.bl 1 (g := true) (i' := if decide ((isHeld I (nI j)) = 0) = true then 53 else 20) (ls' := [some (.ref 56), some (.ref 1), some (.ref 2), some (.int (nI j)), none, none]) (st' := []) (M' := mk tl (up2 (up1 I 57 s.1) 56 3 s.2.1) (up1 L 58 s.2.2) rd) rfl rfl ?_
      refine Runs.brP (fun h2 => ?_) (fun h2 => ?_)
      · skip
        refine Runs.bl 2 (g := true) (i' := 8) (ls' := [some (.ref 56), some (.ref 1), some (.ref 2), some (.int ((nI j) + 1)), none, none]) (st' := []) (M' := mk tl (up2 (up1 I 57 s.1) 56 3 s.2.1) (up1 L 58 s.2.2) rd) rfl rfl ?_
        refine Runs.cg (M := mk tl (up2 (up1 I 57 s.1) 56 3 s.2.1) (up1 L 58 s.2.2) rd) (by rw [nI_1]) (rfl) (ih (j + 1) (s.1, s.2.1, s.2.2) (by omega) (hi) (fun cc => ?_))
        have hx := hK cc
        rw [ga_wl, if_neg h1, if_pos h2] at hx
        exact hx
      · skip
        refine Runs.bl 12 (g := inb s.2.1 8 && true) (i' := 32) (ls' := [some (.ref 56), some (.ref 1), some (.ref 2), some (.int (nI j)), none, none]) (st' := [.int (nI j), .ref 1, .int s.2.1, .ref 58]) (M' := mk tl (up2 (up2 (up1 I 57 s.1) 56 3 s.2.1) 57 s.2.1.toNatClampNeg (nI j)) (up1 L 58 s.2.2) rd) rfl (by have q1 := isHeld_rng h2; have q2 := nI_toInt (n := j) (by omega); have q3 := (show 0 ≤ (nI j).toInt ∧ (nI j).toInt < 12 from by rw [nI_toInt (by omega)]; omega); simp only [Bool.and_true, Bool.true_and, Bool.and_eq_true, inb_iff, Int32.lt_iff_toInt_lt, Int32.le_iff_toInt_le, toI_0, toI_1, toI_2, toI_3, toI_4, toI_5, toI_6, toI_7, toI_8, toI_9, toI_10, toI_12, toI_16, toI_18, toI_20, toI_21, toI_23, toI_24, toI_32, toI_36, toI_39, toI_40, toI_48, toI_50, toI_60, toI_64, toI_75, toI_80, toI_100, toI_144, toI_160, toI_200, toI_256, toI_320, toI_380, toI_576, toI_600, toI_1000, toI_1280, toI_2400, toI_9999, toI_10000, toI_100000, toI_1000000, toI_m1, toI_m100000, toI_s9, toI_s8] at hm hb hq hqb hi h1 q1 q2 q3 ⊢; omega) ?_
        refine Runs.call (k' := 32) (as := [.ref 1, .int (nI j)]) (rest := [.int s.2.1, .ref 58]) (r1 := some (.int (dueBy_it (up2 (up2 (up1 I 57 s.1) 56 3 s.2.1) 57 s.2.1.toNatClampNeg (nI j)) (up1 L 58 s.2.2) (nI j) m))) (M1 := mk tl (up2 (up2 (up1 I 57 s.1) 56 3 s.2.1) 57 s.2.1.toNatClampNeg (nI j)) (up1 L 58 s.2.2) rd) rfl rfl rfl (c_dueBy tl (up2 (up2 (up1 I 57 s.1) 56 3 s.2.1) 57 s.2.1.toNatClampNeg (nI j)) (up1 L 58 s.2.2) rd (nI j) m hm hb) ?_
        refine Runs.bl 22 (g := inb (nI j) 12 && (inb (nI j) 12 && (inb s.2.1 8 && true))) (i' := 8) (ls' := [some (.ref 56), some (.ref 1), some (.ref 2), some (.int ((nI j) + 1)), none, none]) (st' := []) (M' := mk tl (up2 (up2 (up2 (up1 I 57 s.1) 56 3 s.2.1) 57 s.2.1.toNatClampNeg (nI j)) 56 3 (s.2.1 + (1 : Int32))) (up2 (up1 L 58 s.2.2) 58 s.2.1.toNatClampNeg ((((dueBy_it (up2 (up2 (up1 I 57 s.1) 56 3 s.2.1) 57 s.2.1.toNatClampNeg (nI j)) (up1 L 58 s.2.2) (nI j) m).toInt64) + ((I 7 ((nI j).toNatClampNeg)).toInt64)) - ((I 3 ((nI j).toNatClampNeg)).toInt64))) rd) rfl (by have q1 := isHeld_rng h2; have q2 := nI_toInt (n := j) (by omega); have q3 := (show 0 ≤ (nI j).toInt ∧ (nI j).toInt < 12 from by rw [nI_toInt (by omega)]; omega); simp only [Bool.and_true, Bool.true_and, Bool.and_eq_true, inb_iff, Int32.lt_iff_toInt_lt, Int32.le_iff_toInt_le, toI_0, toI_1, toI_2, toI_3, toI_4, toI_5, toI_6, toI_7, toI_8, toI_9, toI_10, toI_12, toI_16, toI_18, toI_20, toI_21, toI_23, toI_24, toI_32, toI_36, toI_39, toI_40, toI_48, toI_50, toI_60, toI_64, toI_75, toI_80, toI_100, toI_144, toI_160, toI_200, toI_256, toI_320, toI_380, toI_576, toI_600, toI_1000, toI_1280, toI_2400, toI_9999, toI_10000, toI_100000, toI_1000000, toI_m1, toI_m100000, toI_s9, toI_s8] at hm hb hq hqb hi h1 q1 q2 q3 ⊢; omega) ?_
        refine Runs.cg (M := mk tl (up2 (up1 I 57 (upr s.1 s.2.1.toNatClampNeg (nI j))) 56 3 (s.2.1 + (1 : Int32))) (up1 L 58 (upr s.2.2 s.2.1.toNatClampNeg ((((dueBy_it (up2 (up2 (up1 I 57 s.1) 56 3 s.2.1) 57 s.2.1.toNatClampNeg (nI j)) (up1 L 58 s.2.2) (nI j) m).toInt64) + ((I 7 ((nI j).toNatClampNeg)).toInt64)) - ((I 3 ((nI j).toNatClampNeg)).toInt64)))) rd) (by rw [nI_1]) (by refine mk_cg ?_ ?_; (funext x; by_cases e0 : x = 57; (subst e0; first | focus (simp (disch := decide) only [up1_ne, up2_ne, su2, up1_at]; done) | rfl); by_cases e1 : x = 56; (subst e1; funext y; by_cases f0 : y = 3; (subst f0; rfl); simp [up1, up2, upr, f0]); simp only [up1_ne e0, up2_ne e0, up1_ne e1, up2_ne e1]); (funext x; by_cases e0 : x = 58; (subst e0; first | focus (simp (disch := decide) only [up1_ne, up2_ne, su2, up1_at]; done) | rfl); simp only [up1_ne e0, up2_ne e0])) (ih (j + 1) ((upr s.1 s.2.1.toNatClampNeg (nI j)), (s.2.1 + (1 : Int32)), (upr s.2.2 s.2.1.toNatClampNeg ((((dueBy_it (up2 (up2 (up1 I 57 s.1) 56 3 s.2.1) 57 s.2.1.toNatClampNeg (nI j)) (up1 L 58 s.2.2) (nI j) m).toInt64) + ((I 7 ((nI j).toNatClampNeg)).toInt64)) - ((I 3 ((nI j).toNatClampNeg)).toInt64)))) (by omega) (by have h8 := h1; simp only [Bool.and_true, Bool.true_and, Bool.and_eq_true, inb_iff, Int32.lt_iff_toInt_lt, Int32.le_iff_toInt_le, toI_0, toI_1, toI_2, toI_3, toI_4, toI_5, toI_6, toI_7, toI_8, toI_9, toI_10, toI_12, toI_16, toI_18, toI_20, toI_21, toI_23, toI_24, toI_32, toI_36, toI_39, toI_40, toI_48, toI_50, toI_60, toI_64, toI_75, toI_80, toI_100, toI_144, toI_160, toI_200, toI_256, toI_320, toI_380, toI_576, toI_600, toI_1000, toI_1280, toI_2400, toI_9999, toI_10000, toI_100000, toI_1000000, toI_m1, toI_m100000, toI_s9, toI_s8] at h8 hi ⊢; rw [add_toI (by rw [toI_1]; omega) (by rw [toI_1]; omega), toI_1]; omega) (fun cc => ?_))
        have hx := hK cc
        rw [ga_wl, if_neg h1, if_neg h2] at hx
        exact hx

theorem inb8 {a b : Int32} (ha : 0 ≤ a.toInt ∧ a.toInt < 8) (hb : 0 ≤ b.toInt ∧ b.toInt < 8) : inb (a * 8 + b) 64 = true := by
  obtain ⟨x, hx, rfl⟩ := rng_nI (N := 8) ha
  obtain ⟨y, hy, rfl⟩ := rng_nI (N := 8) hb
  rw [show nI x * 8 = nI (x * 8) from nI_mul x 8, nI_add]
  exact inb_nI (by omega) (by decide)
theorem ga_inv (I : Nat → Nat → Int32) (L : Nat → Nat → Int64) (m : Nat) : ∀ f j s, 0 ≤ s.2.1.toInt ∧ s.2.1.toInt ≤ 8 → 0 ≤ (ga_wl I L m f j s).2.1.toInt ∧ (ga_wl I L m f j s).2.1.toInt ≤ 8 := by
  intro f
  induction f with
  | zero => intro j s h; exact h
  | succ f ih =>
    intro j s h
    rw [ga_wl]
    split
    · exact h
    · split
      · exact ih _ _ h
      · rename_i h8 _
        refine ih _ _ ?_
        show 0 ≤ (s.2.1 + 1).toInt ∧ (s.2.1 + 1).toInt ≤ 8
        rw [Int32.le_iff_toInt_le, toI_8] at h8
        rw [add_toI (by rw [toI_1]; omega) (by rw [toI_1]; omega), toI_1]
        omega

def gb_st (I : Nat → Nat → Int32) (L : Nat → Nat → Int64)  (j : Nat) (s : (Nat → Int64)) : (Nat → Int64) :=
  ((upr s ((nI j).toNatClampNeg) (0 : Int64)))

def gb_it (I : Nat → Nat → Int32) (L : Nat → Nat → Int64)  (j : Nat) : (Nat → Int64) := itr (gb_st I L ) (L 59) j
theorem gb_it_s (I : Nat → Nat → Int32) (L : Nat → Nat → Int64)  (j : Nat) : (gb_it I L  (j + 1)) = gb_st I L  j (gb_it I L  j) := itr_s _ _ _
set_option maxRecDepth 20000 in
theorem l_gb (tl : List (Nat × Nat)) (I : Nat → Nat → Int32) (L : Nat → Nat → Int64) (rd : Nat → Nat → Option Nat) (z : Nat) (hz : I 56 3 = nI z) (hz8 : z ≤ 8) (rr : Option Value) (Me : Mm) (hK : Runs 20 70 [some (.ref 56), some (.ref 1), some (.ref 2), some (.int (nI ((z * 8)))), none, none] [] (mk tl I (up1 L 59 (gb_it I L  ((z * 8)))) rd) rr Me) : ∀ j, j ≤ (z * 8) → Runs 20 57 [some (.ref 56), some (.ref 1), some (.ref 2), some (.int (nI j)), none, none] [] (mk tl I (up1 L 59 (gb_it I L  j)) rd) rr (Me) := by
  refine loopU (z * 8) (P := fun j => Runs 20 57 [some (.ref 56), some (.ref 1), some (.ref 2), some (.int (nI j)), none, none] [] (mk tl I (up1 L 59 (gb_it I L  j)) rd) rr (Me)) (fun j hj ih => ?_) ?_
  · show Runs 20 57 [some (.ref 56), some (.ref 1), some (.ref 2), some (.int (nI j)), none, none] [] (mk tl I (up1 L 59 (gb_it I L  j)) rd) rr (Me)
    refine Runs.bl 6 (g := true) (i' := if decide (((I 56 3) * (8 : Int32)) ≤ (nI j)) = true then 70 else 63) (ls' := [some (.ref 56), some (.ref 1), some (.ref 2), some (.int (nI j)), none, none]) (st' := []) (M' := mk tl I (up1 L 59 (gb_it I L  j)) rd) rfl rfl ?_
    refine Runs.brF (by show ¬ I 56 3 * 8 ≤ nI j; rw [hz, show nI z * 8 = nI (z * 8) from nI_mul z 8]; exact nI_ge hj (by omega)) ?_
    refine Runs.bl 7 (g := inb (nI j) 64 && true) (i' := 57) (ls' := [some (.ref 56), some (.ref 1), some (.ref 2), some (.int ((nI j) + 1)), none, none]) (st' := []) (M' := mk tl I (up2 (up1 L 59 (gb_it I L  j)) 59 ((nI j).toNatClampNeg) (0 : Int64)) rd) rfl (by have q1 := nI_toInt (n := j) (by omega); simp only [Bool.and_true, Bool.true_and, Bool.and_eq_true, inb_iff, Int32.lt_iff_toInt_lt, Int32.le_iff_toInt_le, toI_0, toI_1, toI_2, toI_3, toI_4, toI_5, toI_6, toI_7, toI_8, toI_9, toI_10, toI_12, toI_16, toI_18, toI_20, toI_21, toI_23, toI_24, toI_32, toI_36, toI_39, toI_40, toI_48, toI_50, toI_60, toI_64, toI_75, toI_80, toI_100, toI_144, toI_160, toI_200, toI_256, toI_320, toI_380, toI_576, toI_600, toI_1000, toI_1280, toI_2400, toI_9999, toI_10000, toI_100000, toI_1000000, toI_m1, toI_m100000, toI_s9, toI_s8] at hz hz8 q1 ⊢; omega) ?_
    refine Runs.cg (ls := [some (.ref 56), some (.ref 1), some (.ref 2), some (.int (nI (j + 1))), none, none]) (M := mk tl I (up1 L 59 (gb_it I L  (j + 1))) rd) (by rw [nI_1]) (by rw [gb_it_s, gb_st] <;> (refine mk_cg ?_ ?_; rfl; (funext x; by_cases e0 : x = 59; (subst e0; first | focus (simp (disch := decide) only [up1_ne, up2_ne, su2, up1_at]; done) | rfl); simp only [up1_ne e0, up2_ne e0]))) ih
  · show Runs 20 57 [some (.ref 56), some (.ref 1), some (.ref 2), some (.int (nI (z * 8))), none, none] [] (mk tl I (up1 L 59 (gb_it I L  (z * 8))) rd) rr (Me)
    refine Runs.bl 6 (g := true) (i' := if decide (((I 56 3) * (8 : Int32)) ≤ (nI (z * 8))) = true then 70 else 63) (ls' := [some (.ref 56), some (.ref 1), some (.ref 2), some (.int (nI (z * 8))), none, none]) (st' := []) (M' := mk tl I (up1 L 59 (gb_it I L  (z * 8))) rd) rfl rfl ?_
    refine Runs.brT (by show I 56 3 * 8 ≤ nI (z * 8); rw [hz, show nI z * 8 = nI (z * 8) from nI_mul z 8]; exact nI_le (Nat.le_refl _) (by omega)) ?_
    exact hK

set_option maxRecDepth 20000 in
theorem l0_gb (tl : List (Nat × Nat)) (I : Nat → Nat → Int32) (L : Nat → Nat → Int64) (rd : Nat → Nat → Option Nat) (z : Nat) (hz : I 56 3 = nI z) (hz8 : z ≤ 8) (rr : Option Value) (Me : Mm) (hK : Runs 20 70 [some (.ref 56), some (.ref 1), some (.ref 2), some (.int (nI ((z * 8)))), none, none] [] (mk tl I (up1 L 59 (gb_it I L  ((z * 8)))) rd) rr Me) : Runs 20 57 [some (.ref 56), some (.ref 1), some (.ref 2), some (.int (nI 0)), none, none] [] (mk tl I (up1 L 59 (L 59)) rd) rr (Me) := l_gb tl I L rd z hz hz8 rr Me hK 0 (Nat.zero_le _)
def plc_sr (I : Nat → Nat → Int32) (L : Nat → Nat → Int64) (p : Int32) : Nat → Nat → Int32
  | 0, j => (-1 : Int32)
  | f + 1, j =>
  if ¬ (I 57 ((nI j).toNatClampNeg)) = p then (plc_sr I L p f (j + 1)) else
  nI j

set_option maxRecDepth 20000 in
theorem l_plc (tl : List (Nat × Nat)) (I : Nat → Nat → Int32) (L : Nat → Nat → Int64) (rd : Nat → Nat → Option Nat) (p : Int32) (m : Nat) (hz : I 56 3 = nI m) (hz8 : m ≤ 8) : ∀ f j, j + f = m → Runs 21 2 [some (.ref 56), some (.int p), some (.int (nI j))] [] (mk tl I L rd) (some (.int (plc_sr I L p f j))) (mk tl I L rd) := by
  intro f
  induction f with
  | zero =>
    intro j hj
    obtain rfl : j = m := hj
    refine Runs.bl 4 (g := true) (i' := if decide ((I 56 3) ≤ (nI j)) = true then 16 else 6) (ls' := [some (.ref 56), some (.int p), some (.int (nI j))]) (st' := []) (M' := mk tl I L rd) rfl rfl ?_
    refine Runs.brT (by show I 56 3 ≤ nI _; rw [hz]; exact nI_le (Nat.le_refl _) (by omega)) ?_
    refine Runs.bl 1 (g := true) (i' := 17) (ls' := [some (.ref 56), some (.int p), some (.int (nI j))]) (st' := [.int (-1 : Int32)]) (M' := mk tl I L rd) rfl rfl ?_
    exact Runs.ri rfl rfl (by rw [plc_sr] <;> rfl) (rfl)
  | succ f ih =>
    intro j hj
    refine Runs.bl 4 (g := true) (i' := if decide ((I 56 3) ≤ (nI j)) = true then 16 else 6) (ls' := [some (.ref 56), some (.int p), some (.int (nI j))]) (st' := []) (M' := mk tl I L rd) rfl rfl ?_
    refine Runs.brF (by show ¬ I 56 3 ≤ nI j; rw [hz]; exact nI_ge (by omega) (by omega)) ?_
    refine Runs.bl 6 (g := inb (nI j) 8 && true) (i' := if decide (¬ (I 57 ((nI j).toNatClampNeg)) = p) = true then 14 else 12) (ls' := [some (.ref 56), some (.int p), some (.int (nI j))]) (st' := []) (M' := mk tl I L rd) rfl (by have q1 := nI_toInt (n := j) (by omega); simp only [Bool.and_true, Bool.true_and, Bool.and_eq_true, inb_iff, Int32.lt_iff_toInt_lt, Int32.le_iff_toInt_le, toI_0, toI_1, toI_2, toI_3, toI_4, toI_5, toI_6, toI_7, toI_8, toI_9, toI_10, toI_12, toI_16, toI_18, toI_20, toI_21, toI_23, toI_24, toI_32, toI_36, toI_39, toI_40, toI_48, toI_50, toI_60, toI_64, toI_75, toI_80, toI_100, toI_144, toI_160, toI_200, toI_256, toI_320, toI_380, toI_576, toI_600, toI_1000, toI_1280, toI_2400, toI_9999, toI_10000, toI_100000, toI_1000000, toI_m1, toI_m100000, toI_s9, toI_s8] at hz hz8 q1 ⊢; omega) ?_
    refine Runs.brP (fun h1 => ?_) (fun h1 => ?_)
    · skip
      refine Runs.bl 2 (g := true) (i' := 2) (ls' := [some (.ref 56), some (.int p), some (.int ((nI j) + 1))]) (st' := []) (M' := mk tl I L rd) rfl rfl ?_
      rw [show plc_sr I L p (f + 1) j = plc_sr I L p f (j + 1) from by rw [plc_sr, if_pos h1]]
      exact Runs.cg (by rw [nI_1]) rfl (ih (j + 1) (by omega))
    · skip
      refine Runs.bl 1 (g := true) (i' := 13) (ls' := [some (.ref 56), some (.int p), some (.int (nI j))]) (st' := [.int (nI j)]) (M' := mk tl I L rd) rfl rfl ?_
      exact Runs.ri rfl rfl (by rw [plc_sr, if_neg h1] <;> rfl) (rfl)

set_option maxRecDepth 20000 in
theorem c_plc (tl : List (Nat × Nat)) (I : Nat → Nat → Int32) (L : Nat → Nat → Int64) (rd : Nat → Nat → Option Nat) (p : Int32) (z : Nat) (hz : I 56 3 = nI z) (hz8 : z ≤ 8) : Call 21 [.ref 56, .int p] (mk tl I L rd) (some (.int (plc_sr I L p z 0))) (mk tl I L rd) := by
  show Runs 21 0 [some (.ref 56), some (.int p), none] [] (mk tl I L rd) (some (.int (plc_sr I L p z 0))) (mk tl I L rd)
  refine Runs.bl 2 (g := true) (i' := 2) (ls' := [some (.ref 56), some (.int p), some (.int (0 : Int32))]) (st' := []) (M' := mk tl I L rd) rfl rfl ?_
  exact l_plc tl I L rd p z hz hz8 z 0 (Nat.zero_add _)

theorem plc_cs (I : Nat → Nat → Int32) (L : Nat → Nat → Int64) (p : Int32) (m : Nat) : ∀ f j, j + f = m → plc_sr I L p f j = -1 ∨ ∃ a, a < m ∧ plc_sr I L p f j = nI a := by
  intro f
  induction f with
  | zero => intro j _; exact Or.inl rfl
  | succ f ih =>
    intro j hj
    rw [plc_sr]
    split
    · exact ih (j + 1) (by omega)
    · exact Or.inr ⟨j, by omega, rfl⟩
theorem plc_rng {I : Nat → Nat → Int32} {L : Nat → Nat → Int64} {p : Int32} {z : Nat} (hz8 : z ≤ 8) (h : ¬ plc_sr I L p z 0 = -1) : 0 ≤ (plc_sr I L p z 0).toInt ∧ (plc_sr I L p z 0).toInt < 8 := by
  rcases plc_cs I L p z z 0 (Nat.zero_add _) with e | ⟨a, ha, e⟩
  · exact absurd e h
  · rw [e, nI_toInt (by omega)]; omega

theorem plc_L (I : Nat → Nat → Int32) (L L2 : Nat → Nat → Int64) (p : Int32) (f j : Nat) : plc_sr I L2 p f j = plc_sr I L p f j := by
  induction f generalizing j with
  | zero => rfl
  | succ f ih => rw [plc_sr, plc_sr, ih]

def gc_st (I : Nat → Nat → Int32) (L : Nat → Nat → Int64) (w0 : Nat → Int64) (z : Nat) (j : Nat) (s : (Nat → Int64)) : (Nat → Int64) :=
  if (plc_sr I L (I 17 ((nI j).toNatClampNeg)) z 0) = (-1 : Int32) then (s) else
  if (plc_sr I L (I 18 ((nI j).toNatClampNeg)) z 0) = (-1 : Int32) then (s) else
  ((upr s ((((plc_sr I L (I 17 ((nI j).toNatClampNeg)) z 0) * (8 : Int32)) + (plc_sr I L (I 18 ((nI j).toNatClampNeg)) z 0)).toNatClampNeg) ((s ((((plc_sr I L (I 17 ((nI j).toNatClampNeg)) z 0) * (8 : Int32)) + (plc_sr I L (I 18 ((nI j).toNatClampNeg)) z 0)).toNatClampNeg)) + ((due I (nI j) (I 1 4)).toInt64))))

def gc_it (I : Nat → Nat → Int32) (L : Nat → Nat → Int64) (w0 : Nat → Int64) (z : Nat) (j : Nat) : (Nat → Int64) := itr (gc_st I L w0 z) (w0) j
theorem gc_it_s (I : Nat → Nat → Int32) (L : Nat → Nat → Int64) (w0 : Nat → Int64) (z : Nat) (j : Nat) : (gc_it I L w0 z (j + 1)) = gc_st I L w0 z j (gc_it I L w0 z j) := itr_s _ _ _
set_option maxRecDepth 20000 in
theorem l_gc (tl : List (Nat × Nat)) (I : Nat → Nat → Int32) (L : Nat → Nat → Int64) (rd : Nat → Nat → Option Nat) (w0 : Nat → Int64) (z m : Nat) (hm : I 16 0 = nI m) (hb : m ≤ 40) (hz : I 56 3 = nI z) (hz8 : z ≤ 8) : ∀ j, j ≤ m → ∀ o4 : Option Value, ∀ o5 : Option Value, Runs 20 72 [some (.ref 56), some (.ref 1), some (.ref 2), some (.int (nI j)), o4, o5] [] (mk tl I (up1 L 59 (gc_it I L w0 z j)) rd) none (mk tl I (up1 L 59 (gc_it I L w0 z (m))) rd) := by
  refine loopU m (P := fun j => ∀ o4 : Option Value, ∀ o5 : Option Value, Runs 20 72 [some (.ref 56), some (.ref 1), some (.ref 2), some (.int (nI j)), o4, o5] [] (mk tl I (up1 L 59 (gc_it I L w0 z j)) rd) none (mk tl I (up1 L 59 (gc_it I L w0 z (m))) rd)) (fun j hj ih => ?_) ?_
  · intro o4 o5
    show Runs 20 72 [some (.ref 56), some (.ref 1), some (.ref 2), some (.int (nI j)), o4, o5] [] (mk tl I (up1 L 59 (gc_it I L w0 z j)) rd) none (mk tl I (up1 L 59 (gc_it I L w0 z (m))) rd)
    refine Runs.bl 5 (g := true) (i' := if decide ((I 16 0) ≤ (nI j)) = true then 119 else 77) (ls' := [some (.ref 56), some (.ref 1), some (.ref 2), some (.int (nI j)), o4, o5]) (st' := []) (M' := mk tl I (up1 L 59 (gc_it I L w0 z j)) rd) rfl rfl ?_
    refine Runs.brF (by show ¬ I 16 0 ≤ nI j; rw [hm]; exact nI_ge hj (by omega)) ?_
    refine Runs.bl 6 (g := inb (nI j) 40 && true) (i' := 83) (ls' := [some (.ref 56), some (.ref 1), some (.ref 2), some (.int (nI j)), o4, o5]) (st' := [.int (I 17 ((nI j).toNatClampNeg)), .ref 56]) (M' := mk tl I (up1 L 59 (gc_it I L w0 z j)) rd) rfl (by simp only [Bool.and_true, Bool.true_and, Bool.and_eq_true]; (repeat' apply And.intro) <;> first | exact inb_nI (by omega) (by decide) | exact inb8 (plc_rng hz8 (by assumption)) (plc_rng hz8 (by assumption))) ?_
    refine Runs.call (k' := 21) (as := [.ref 56, .int (I 17 ((nI j).toNatClampNeg))]) (rest := []) (r1 := some (.int (plc_sr I L (I 17 ((nI j).toNatClampNeg)) z 0))) (M1 := mk tl I (up1 L 59 (gc_it I L w0 z j)) rd) rfl rfl rfl (by have hh := c_plc tl I (up1 L 59 (gc_it I L w0 z j)) rd (I 17 ((nI j).toNatClampNeg)) z hz hz8; rw [plc_L I L] at hh; exact hh) ?_
    refine Runs.bl 7 (g := inb (nI j) 40 && true) (i' := 91) (ls' := [some (.ref 56), some (.ref 1), some (.ref 2), some (.int (nI j)), some (.int (plc_sr I L (I 17 ((nI j).toNatClampNeg)) z 0)), o5]) (st' := [.int (I 18 ((nI j).toNatClampNeg)), .ref 56]) (M' := mk tl I (up1 L 59 (gc_it I L w0 z j)) rd) rfl (by simp only [Bool.and_true, Bool.true_and, Bool.and_eq_true]; (repeat' apply And.intro) <;> first | exact inb_nI (by omega) (by decide) | exact inb8 (plc_rng hz8 (by assumption)) (plc_rng hz8 (by assumption))) ?_
    refine Runs.call (k' := 21) (as := [.ref 56, .int (I 18 ((nI j).toNatClampNeg))]) (rest := []) (r1 := some (.int (plc_sr I L (I 18 ((nI j).toNatClampNeg)) z 0))) (M1 := mk tl I (up1 L 59 (gc_it I L w0 z j)) rd) rfl rfl rfl (by have hh := c_plc tl I (up1 L 59 (gc_it I L w0 z j)) rd (I 18 ((nI j).toNatClampNeg)) z hz hz8; rw [plc_L I L] at hh; exact hh) ?_
    refine Runs.bl 4 (g := true) (i' := if decide ((plc_sr I L (I 17 ((nI j).toNatClampNeg)) z 0) = (-1 : Int32)) = true then 117 else 96) (ls' := [some (.ref 56), some (.ref 1), some (.ref 2), some (.int (nI j)), some (.int (plc_sr I L (I 17 ((nI j).toNatClampNeg)) z 0)), some (.int (plc_sr I L (I 18 ((nI j).toNatClampNeg)) z 0))]) (st' := []) (M' := mk tl I (up1 L 59 (gc_it I L w0 z j)) rd) rfl rfl ?_
    refine Runs.brP (fun h1 => ?_) (fun h1 => ?_)
    · skip
      refine Runs.bl 2 (g := true) (i' := 72) (ls' := [some (.ref 56), some (.ref 1), some (.ref 2), some (.int ((nI j) + 1)), some (.int (plc_sr I L (I 17 ((nI j).toNatClampNeg)) z 0)), some (.int (plc_sr I L (I 18 ((nI j).toNatClampNeg)) z 0))]) (st' := []) (M' := mk tl I (up1 L 59 (gc_it I L w0 z j)) rd) rfl rfl ?_
      refine Runs.cg (ls := [some (.ref 56), some (.ref 1), some (.ref 2), some (.int (nI (j + 1))), _, _]) (M := mk tl I (up1 L 59 (gc_it I L w0 z (j + 1))) rd) (by rw [nI_1]) (by rw [gc_it_s, gc_st, if_pos h1] <;> (refine mk_cg ?_ ?_; rfl; (funext x; by_cases e0 : x = 59; (subst e0; first | focus (simp (disch := decide) only [up1_ne, up2_ne, su2, up1_at]; done) | rfl); simp only [up1_ne e0, up2_ne e0]))) (ih (some (.int (plc_sr I L (I 17 ((nI j).toNatClampNeg)) z 0))) (some (.int (plc_sr I L (I 18 ((nI j).toNatClampNeg)) z 0))))
    · skip
      refine Runs.bl 3 (g := true) (i' := if decide ((plc_sr I L (I 18 ((nI j).toNatClampNeg)) z 0) = (-1 : Int32)) = true then 117 else 99) (ls' := [some (.ref 56), some (.ref 1), some (.ref 2), some (.int (nI j)), some (.int (plc_sr I L (I 17 ((nI j).toNatClampNeg)) z 0)), some (.int (plc_sr I L (I 18 ((nI j).toNatClampNeg)) z 0))]) (st' := []) (M' := mk tl I (up1 L 59 (gc_it I L w0 z j)) rd) rfl rfl ?_
      refine Runs.brP (fun h2 => ?_) (fun h2 => ?_)
      · skip
        refine Runs.bl 2 (g := true) (i' := 72) (ls' := [some (.ref 56), some (.ref 1), some (.ref 2), some (.int ((nI j) + 1)), some (.int (plc_sr I L (I 17 ((nI j).toNatClampNeg)) z 0)), some (.int (plc_sr I L (I 18 ((nI j).toNatClampNeg)) z 0))]) (st' := []) (M' := mk tl I (up1 L 59 (gc_it I L w0 z j)) rd) rfl rfl ?_
        refine Runs.cg (ls := [some (.ref 56), some (.ref 1), some (.ref 2), some (.int (nI (j + 1))), _, _]) (M := mk tl I (up1 L 59 (gc_it I L w0 z (j + 1))) rd) (by rw [nI_1]) (by rw [gc_it_s, gc_st, if_neg h1, if_pos h2] <;> (refine mk_cg ?_ ?_; rfl; (funext x; by_cases e0 : x = 59; (subst e0; first | focus (simp (disch := decide) only [up1_ne, up2_ne, su2, up1_at]; done) | rfl); simp only [up1_ne e0, up2_ne e0]))) (ih (some (.int (plc_sr I L (I 17 ((nI j).toNatClampNeg)) z 0))) (some (.int (plc_sr I L (I 18 ((nI j).toNatClampNeg)) z 0))))
      · skip
        refine Runs.bl 14 (g := inb (((plc_sr I L (I 17 ((nI j).toNatClampNeg)) z 0) * (8 : Int32)) + (plc_sr I L (I 18 ((nI j).toNatClampNeg)) z 0)) 64 && true) (i' := 113) (ls' := [some (.ref 56), some (.ref 1), some (.ref 2), some (.int (nI j)), some (.int (plc_sr I L (I 17 ((nI j).toNatClampNeg)) z 0)), some (.int (plc_sr I L (I 18 ((nI j).toNatClampNeg)) z 0))]) (st' := [.int (I 1 4), .int (nI j), .ref 16, .long ((gc_it I L w0 z j) ((((plc_sr I L (I 17 ((nI j).toNatClampNeg)) z 0) * (8 : Int32)) + (plc_sr I L (I 18 ((nI j).toNatClampNeg)) z 0)).toNatClampNeg)), .int (((plc_sr I L (I 17 ((nI j).toNatClampNeg)) z 0) * (8 : Int32)) + (plc_sr I L (I 18 ((nI j).toNatClampNeg)) z 0)), .ref 59]) (M' := mk tl I (up1 L 59 (gc_it I L w0 z j)) rd) rfl (by simp only [Bool.and_true, Bool.true_and, Bool.and_eq_true]; (repeat' apply And.intro) <;> first | exact inb_nI (by omega) (by decide) | exact inb8 (plc_rng hz8 (by assumption)) (plc_rng hz8 (by assumption))) ?_
        refine Runs.call (k' := 11) (as := [.ref 16, .int (nI j), .int (I 1 4)]) (rest := [.long ((gc_it I L w0 z j) ((((plc_sr I L (I 17 ((nI j).toNatClampNeg)) z 0) * (8 : Int32)) + (plc_sr I L (I 18 ((nI j).toNatClampNeg)) z 0)).toNatClampNeg)), .int (((plc_sr I L (I 17 ((nI j).toNatClampNeg)) z 0) * (8 : Int32)) + (plc_sr I L (I 18 ((nI j).toNatClampNeg)) z 0)), .ref 59]) (r1 := some (.int (due I (nI j) (I 1 4)))) (M1 := mk tl I (up1 L 59 (gc_it I L w0 z j)) rd) rfl rfl rfl (c_due tl I (up1 L 59 (gc_it I L w0 z j)) rd (nI j) (I 1 4) ) ?_
        refine Runs.bl 5 (g := inb (((plc_sr I L (I 17 ((nI j).toNatClampNeg)) z 0) * (8 : Int32)) + (plc_sr I L (I 18 ((nI j).toNatClampNeg)) z 0)) 64 && true) (i' := 72) (ls' := [some (.ref 56), some (.ref 1), some (.ref 2), some (.int ((nI j) + 1)), some (.int (plc_sr I L (I 17 ((nI j).toNatClampNeg)) z 0)), some (.int (plc_sr I L (I 18 ((nI j).toNatClampNeg)) z 0))]) (st' := []) (M' := mk tl I (up2 (up1 L 59 (gc_it I L w0 z j)) 59 ((((plc_sr I L (I 17 ((nI j).toNatClampNeg)) z 0) * (8 : Int32)) + (plc_sr I L (I 18 ((nI j).toNatClampNeg)) z 0)).toNatClampNeg) (((gc_it I L w0 z j) ((((plc_sr I L (I 17 ((nI j).toNatClampNeg)) z 0) * (8 : Int32)) + (plc_sr I L (I 18 ((nI j).toNatClampNeg)) z 0)).toNatClampNeg)) + ((due I (nI j) (I 1 4)).toInt64))) rd) rfl (by simp only [Bool.and_true, Bool.true_and, Bool.and_eq_true]; (repeat' apply And.intro) <;> first | exact inb_nI (by omega) (by decide) | exact inb8 (plc_rng hz8 (by assumption)) (plc_rng hz8 (by assumption))) ?_
        refine Runs.cg (ls := [some (.ref 56), some (.ref 1), some (.ref 2), some (.int (nI (j + 1))), _, _]) (M := mk tl I (up1 L 59 (gc_it I L w0 z (j + 1))) rd) (by rw [nI_1]) (by rw [gc_it_s, gc_st, if_neg h1, if_neg h2] <;> (refine mk_cg ?_ ?_; rfl; (funext x; by_cases e0 : x = 59; (subst e0; first | focus (simp (disch := decide) only [up1_ne, up2_ne, su2, up1_at]; done) | rfl); simp only [up1_ne e0, up2_ne e0]))) (ih (some (.int (plc_sr I L (I 17 ((nI j).toNatClampNeg)) z 0))) (some (.int (plc_sr I L (I 18 ((nI j).toNatClampNeg)) z 0))))
  · intro o4 o5
    show Runs 20 72 [some (.ref 56), some (.ref 1), some (.ref 2), some (.int (nI m)), o4, o5] [] (mk tl I (up1 L 59 (gc_it I L w0 z m)) rd) none (mk tl I (up1 L 59 (gc_it I L w0 z (m))) rd)
    refine Runs.bl 5 (g := true) (i' := if decide ((I 16 0) ≤ (nI m)) = true then 119 else 77) (ls' := [some (.ref 56), some (.ref 1), some (.ref 2), some (.int (nI m)), o4, o5]) (st' := []) (M' := mk tl I (up1 L 59 (gc_it I L w0 z m)) rd) rfl rfl ?_
    refine Runs.brT (by show I 16 0 ≤ nI m; rw [hm]; exact nI_le (Nat.le_refl _) (by omega)) ?_
    exact Runs.rv rfl rfl (rfl)

set_option maxRecDepth 20000 in
theorem l0_gc (tl : List (Nat × Nat)) (I : Nat → Nat → Int32) (L : Nat → Nat → Int64) (rd : Nat → Nat → Option Nat) (w0 : Nat → Int64) (z m : Nat) (hm : I 16 0 = nI m) (hb : m ≤ 40) (hz : I 56 3 = nI z) (hz8 : z ≤ 8) : ∀ o4 : Option Value, ∀ o5 : Option Value, Runs 20 72 [some (.ref 56), some (.ref 1), some (.ref 2), some (.int (nI 0)), o4, o5] [] (mk tl I (up1 L 59 w0) rd) none (mk tl I (up1 L 59 (gc_it I L w0 z (m))) rd) := l_gc tl I L rd w0 z m hm hb hz hz8 0 (Nat.zero_le _)
/-- whom a purse might free, what each needs, who pays whom -/
def gaS (I : Nat → Nat → Int32) (L : Nat → Nat → Int64) (m q : Nat) : (Nat → Int32) × Int32 × (Nat → Int64) := ga_wl I L m q 0 (I 57, 0, L 58)
def gaI (I : Nat → Nat → Int32) (L : Nat → Nat → Int64) (m q : Nat) : Nat → Nat → Int32 := up2 (up1 I 57 (gaS I L m q).1) 56 3 (gaS I L m q).2.1
def gaL (I : Nat → Nat → Int32) (L : Nat → Nat → Int64) (m q : Nat) : Nat → Nat → Int64 := up1 (up1 L 58 (gaS I L m q).2.2) 59 (gc_it (gaI I L m q) (up1 L 58 (gaS I L m q).2.2) (gb_it (gaI I L m q) (up1 L 58 (gaS I L m q).2.2) ((gaS I L m q).2.1.toNatClampNeg * 8)) (gaS I L m q).2.1.toNatClampNeg m)
theorem gaS_z (I : Nat → Nat → Int32) (L : Nat → Nat → Int64) (m q : Nat) : ∃ z, z ≤ 8 ∧ (gaS I L m q).2.1 = nI z := by
  have h := ga_inv I L m q 0 (I 57, 0, L 58) (by show 0 ≤ (0 : Int32).toInt ∧ (0 : Int32).toInt ≤ 8; decide)
  obtain ⟨z, hz, e⟩ := rng_nI (x := (gaS I L m q).2.1) (N := 9) (by unfold gaS; omega)
  exact ⟨z, by omega, e⟩

set_option maxRecDepth 20000 in
theorem c_ga (tl : List (Nat × Nat)) (I : Nat → Nat → Int32) (L : Nat → Nat → Int64) (rd : Nat → Nat → Option Nat) (m q : Nat) (hm : I 16 0 = nI m) (hb : m ≤ 40) (hq : I 2 0 = nI q) (hqb : q ≤ 12) : Call 20 [.ref 56, .ref 1] (mk tl I L rd) none (mk tl (gaI I L m q) (gaL I L m q) rd) := by
  show Runs 20 0 [some (.ref 56), some (.ref 1), none, none, none, none] [] (mk tl I L rd) none (mk tl (gaI I L m q) (gaL I L m q) rd)
  refine Runs.bl 8 (g := true) (i' := 8) (ls' := [some (.ref 56), some (.ref 1), some (.ref 2), some (.int (0 : Int32)), none, none]) (st' := []) (M' := mk tl (up2 I 56 3 (0 : Int32)) L rd) rfl rfl ?_
  refine Runs.cg (M := mk tl (up2 (up1 I 57 (I 57)) 56 3 0) (up1 L 58 (L 58)) rd) rfl (mk_cg (by rw [up1_self]) (up1_self L 58).symm) ?_
  refine l_ga tl I L rd m q hm hb hq hqb _ _ q 0 (I 57, 0, L 58) (Nat.zero_add _) (by show 0 ≤ (0 : Int32).toInt ∧ (0 : Int32).toInt ≤ 8; decide) (fun cc => ?_)
  obtain ⟨z, hz8, e⟩ := gaS_z I L m q
  have ez : gaI I L m q 56 3 = nI z := e
  unfold gaL; rw [e, nI_clamp (by omega)]
  show Runs 20 55 [some (.ref 56), some (.ref 1), some (.ref 2), cc, none, none] [] (mk tl (gaI I L m q) (up1 L 58 (gaS I L m q).2.2) rd) none (mk tl (gaI I L m q) (up1 (up1 L 58 (gaS I L m q).2.2) 59 (gc_it (gaI I L m q) (up1 L 58 (gaS I L m q).2.2) (gb_it (gaI I L m q) (up1 L 58 (gaS I L m q).2.2) (z * 8)) z m)) rd)
  refine Runs.bl 2 (g := true) (i' := 57) (ls' := [some (.ref 56), some (.ref 1), some (.ref 2), some (.int (0 : Int32)), none, none]) (st' := []) (M' := mk tl (gaI I L m q) (up1 L 58 (gaS I L m q).2.2) rd) rfl rfl ?_
  refine Runs.cg (M := mk tl (gaI I L m q) (up1 (up1 L 58 (gaS I L m q).2.2) 59 (L 59)) rd) rfl (mk_cg rfl (up1_self (up1 L 58 (gaS I L m q).2.2) 59).symm) ?_
  refine l0_gb tl (gaI I L m q) (up1 L 58 (gaS I L m q).2.2) rd z ez hz8 _ _ ?_
  refine Runs.bl 2 (g := true) (i' := 72) (ls' := [some (.ref 56), some (.ref 1), some (.ref 2), some (.int (0 : Int32)), none, none]) (st' := []) (M' := mk tl (gaI I L m q) (up1 (up1 L 58 (gaS I L m q).2.2) 59 (gb_it (gaI I L m q) (up1 L 58 (gaS I L m q).2.2) (z * 8))) rd) rfl rfl ?_
  exact l0_gc tl (gaI I L m q) (up1 L 58 (gaS I L m q).2.2) rd _ z m hm hb ez hz8 _ _

