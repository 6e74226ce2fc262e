/-! THE REFERENCE: what TOPICS tell (printed by p52.py) -/
theorem and7 (v : Int32) : 0 ≤ (v &&& 7).toInt ∧ (v &&& 7).toInt < 8 := by
  rw [Int32.and_comm]
  exact and_rng (N := 8) (by decide)

def hol_sr (I : Nat → Nat → Int32) (L : Nat → Nat → Int64) (l : Nat) : Nat → Nat → Int32
  | 0, j => (1 : Int32)
  | f + 1, j =>
  if ¬ (I 112 ((nI (4 * l + j)).toNatClampNeg)) = (60 : Int32) then (if ¬ (I 112 ((nI (4 * l + j)).toNatClampNeg)) = (62 : Int32) then (if ¬ (I 121 (((I 111 ((nI (4 * l + j)).toNatClampNeg)) &&& (7 : Int32)).toNatClampNeg)) = (I 113 ((nI (4 * l + j)).toNatClampNeg)) then (if (I 111 ((nI (4 * l + j)).toNatClampNeg)) ≤ (7 : Int32) then (0 : Int32) else
        hol_sr I L l f (j + 1)) else
      if (I 111 ((nI (4 * l + j)).toNatClampNeg)) ≤ (7 : Int32) then (hol_sr I L l f (j + 1)) else
      (0 : Int32)) else
    if (I 121 (((I 111 ((nI (4 * l + j)).toNatClampNeg)) &&& (7 : Int32)).toNatClampNeg)) ≤ (I 113 ((nI (4 * l + j)).toNatClampNeg)) then (if (I 111 ((nI (4 * l + j)).toNatClampNeg)) ≤ (7 : Int32) then (0 : Int32) else
      hol_sr I L l f (j + 1)) else
    if (I 111 ((nI (4 * l + j)).toNatClampNeg)) ≤ (7 : Int32) then (hol_sr I L l f (j + 1)) else
    (0 : Int32)) else
  if (I 113 ((nI (4 * l + j)).toNatClampNeg)) ≤ (I 121 (((I 111 ((nI (4 * l + j)).toNatClampNeg)) &&& (7 : Int32)).toNatClampNeg)) then (if (I 111 ((nI (4 * l + j)).toNatClampNeg)) ≤ (7 : Int32) then (0 : Int32) else
    hol_sr I L l f (j + 1)) else
  if (I 111 ((nI (4 * l + j)).toNatClampNeg)) ≤ (7 : Int32) then (hol_sr I L l f (j + 1)) else
  (0 : Int32)

set_option maxRecDepth 20000 in
theorem l_hol (tl : List (Nat × Nat)) (I : Nat → Nat → Int32) (L : Nat → Nat → Int64) (rd : Nat → Nat → Option Nat) (l : Nat) (m : Nat) (hl : l < 80) (ht : I 109 l = nI m) (hm4 : m ≤ 4) : ∀ f j o3 o4 o5, j + f = m → Runs 196 4 [some (.ref 61), some (.int (nI l)), some (.int (nI (4 * l + j))), o3, o4, o5] [] (mk tl I L rd) (some (.int (hol_sr I L l f j))) (mk tl I L rd) := by
  intro f
  induction f with
  | zero =>
    intro j o3 o4 o5 hj
    obtain rfl : j = m := hj
    refine Runs.bl 10 (g := inb (nI l) 320 && true) (i' := if decide ((((4 : Int32) * (nI l)) + (I 109 ((nI l).toNatClampNeg))) ≤ (nI (4 * l + j))) = true then 77 else 14) (ls' := [some (.ref 61), some (.int (nI l)), some (.int (nI (4 * l + j))), o3, o4, o5]) (st' := []) (M' := mk tl I L rd) rfl (by have q1 := (show (nI (4 * l + j)).toInt = ((4 * l + j : Nat) : Int) from nI_toInt (by omega)); have q2 := nI_toInt (n := l) (by omega); have q3 := and7 (I 111 (nI (4 * l + j)).toNatClampNeg); simp only [Bool.and_true, Bool.true_and, Bool.and_eq_true, inb_iff, Int32.lt_iff_toInt_lt, Int32.le_iff_toInt_le, toI_0, toI_1, toI_2, toI_3, toI_4, toI_5, toI_6, toI_7, toI_8, toI_9, toI_10, toI_12, toI_16, toI_18, toI_20, toI_21, toI_23, toI_24, toI_32, toI_36, toI_39, toI_40, toI_48, toI_50, toI_60, toI_64, toI_75, toI_80, toI_100, toI_144, toI_160, toI_200, toI_256, toI_320, toI_380, toI_576, toI_600, toI_1000, toI_1280, toI_2400, toI_9999, toI_10000, toI_100000, toI_1000000, toI_m1, toI_m100000, toI_s9, toI_s8] at hl ht hm4 q1 q2 q3 ⊢; omega) ?_
    refine Runs.brT (by show ((4 : Int32) * nI l) + I 109 (nI l).toNatClampNeg ≤ nI (4 * l + _); rw [nI_clamp (by omega), ht, show ((4 : Int32) * nI l) = nI (4 * l) from nI_mul 4 l, nI_add]; exact nI_le (Nat.le_refl _) (by omega)) ?_
    refine Runs.bl 1 (g := true) (i' := 78) (ls' := [some (.ref 61), some (.int (nI l)), some (.int (nI (4 * l + j))), o3, o4, o5]) (st' := [.int (1 : Int32)]) (M' := mk tl I L rd) rfl rfl ?_
    exact Runs.rz rfl rfl (by decide) (by rw [hol_sr] <;> rfl) (rfl)
  | succ f ih =>
    intro j o3 o4 o5 hj
    refine Runs.bl 10 (g := inb (nI l) 320 && true) (i' := if decide ((((4 : Int32) * (nI l)) + (I 109 ((nI l).toNatClampNeg))) ≤ (nI (4 * l + j))) = true then 77 else 14) (ls' := [some (.ref 61), some (.int (nI l)), some (.int (nI (4 * l + j))), o3, o4, o5]) (st' := []) (M' := mk tl I L rd) rfl (by have q1 := (show (nI (4 * l + j)).toInt = ((4 * l + j : Nat) : Int) from nI_toInt (by omega)); have q2 := nI_toInt (n := l) (by omega); have q3 := and7 (I 111 (nI (4 * l + j)).toNatClampNeg); simp only [Bool.and_true, Bool.true_and, Bool.and_eq_true, inb_iff, Int32.lt_iff_toInt_lt, Int32.le_iff_toInt_le, toI_0, toI_1, toI_2, toI_3, toI_4, toI_5, toI_6, toI_7, toI_8, toI_9, toI_10, toI_12, toI_16, toI_18, toI_20, toI_21, toI_23, toI_24, toI_32, toI_36, toI_39, toI_40, toI_48, toI_50, toI_60, toI_64, toI_75, toI_80, toI_100, toI_144, toI_160, toI_200, toI_256, toI_320, toI_380, toI_576, toI_600, toI_1000, toI_1280, toI_2400, toI_9999, toI_10000, toI_100000, toI_1000000, toI_m1, toI_m100000, toI_s9, toI_s8] at hl ht hm4 q1 q2 q3 ⊢; omega) ?_
    refine Runs.brF (by show ¬ ((4 : Int32) * nI l) + I 109 (nI l).toNatClampNeg ≤ nI (4 * l + j); rw [nI_clamp (by omega), ht, show ((4 : Int32) * nI l) = nI (4 * l) from nI_mul 4 l, nI_add]; exact nI_ge (by omega) (by omega)) ?_
    refine Runs.bl 21 (g := inb (nI (4 * l + j)) 1280 && (inb ((I 111 ((nI (4 * l + j)).toNatClampNeg)) &&& (7 : Int32)) 8 && (inb (nI (4 * l + j)) 1280 && (inb (nI (4 * l + j)) 1280 && true)))) (i' := if decide (¬ (I 112 ((nI (4 * l + j)).toNatClampNeg)) = (60 : Int32)) = true then 42 else 35) (ls' := [some (.ref 61), some (.int (nI l)), some (.int (nI (4 * l + j))), some (.int (I 121 (((I 111 ((nI (4 * l + j)).toNatClampNeg)) &&& (7 : Int32)).toNatClampNeg))), some (.int (I 113 ((nI (4 * l + j)).toNatClampNeg))), o5]) (st' := []) (M' := mk tl I L rd) rfl (by have q1 := (show (nI (4 * l + j)).toInt = ((4 * l + j : Nat) : Int) from nI_toInt (by omega)); have q2 := nI_toInt (n := l) (by omega); have q3 := and7 (I 111 (nI (4 * l + j)).toNatClampNeg); simp only [Bool.and_true, Bool.true_and, Bool.and_eq_true, inb_iff, Int32.lt_iff_toInt_lt, Int32.le_iff_toInt_le, toI_0, toI_1, toI_2, toI_3, toI_4, toI_5, toI_6, toI_7, toI_8, toI_9, toI_10, toI_12, toI_16, toI_18, toI_20, toI_21, toI_23, toI_24, toI_32, toI_36, toI_39, toI_40, toI_48, toI_50, toI_60, toI_64, toI_75, toI_80, toI_100, toI_144, toI_160, toI_200, toI_256, toI_320, toI_380, toI_576, toI_600, toI_1000, toI_1280, toI_2400, toI_9999, toI_10000, toI_100000, toI_1000000, toI_m1, toI_m100000, toI_s9, toI_s8] at hl ht hm4 q1 q2 q3 ⊢; omega) ?_
    refine Runs.brP (fun h1 => ?_) (fun h1 => ?_)
    · skip
      refine Runs.bl 6 (g := inb (nI (4 * l + j)) 1280 && true) (i' := if decide (¬ (I 112 ((nI (4 * l + j)).toNatClampNeg)) = (62 : Int32)) = true then 55 else 48) (ls' := [some (.ref 61), some (.int (nI l)), some (.int (nI (4 * l + j))), some (.int (I 121 (((I 111 ((nI (4 * l + j)).toNatClampNeg)) &&& (7 : Int32)).toNatClampNeg))), some (.int (I 113 ((nI (4 * l + j)).toNatClampNeg))), o5]) (st' := []) (M' := mk tl I L rd) rfl (by have q1 := (show (nI (4 * l + j)).toInt = ((4 * l + j : Nat) : Int) from nI_toInt (by omega)); have q2 := nI_toInt (n := l) (by omega); have q3 := and7 (I 111 (nI (4 * l + j)).toNatClampNeg); simp only [Bool.and_true, Bool.true_and, Bool.and_eq_true, inb_iff, Int32.lt_iff_toInt_lt, Int32.le_iff_toInt_le, toI_0, toI_1, toI_2, toI_3, toI_4, toI_5, toI_6, toI_7, toI_8, toI_9, toI_10, toI_12, toI_16, toI_18, toI_20, toI_21, toI_23, toI_24, toI_32, toI_36, toI_39, toI_40, toI_48, toI_50, toI_60, toI_64, toI_75, toI_80, toI_100, toI_144, toI_160, toI_200, toI_256, toI_320, toI_380, toI_576, toI_600, toI_1000, toI_1280, toI_2400, toI_9999, toI_10000, toI_100000, toI_1000000, toI_m1, toI_m100000, toI_s9, toI_s8] at hl ht hm4 h1 q1 q2 q3 ⊢; omega) ?_
      refine Runs.brP (fun h2 => ?_) (fun h2 => ?_)
      · skip
        refine Runs.bl 3 (g := true) (i' := if decide (¬ (I 121 (((I 111 ((nI (4 * l + j)).toNatClampNeg)) &&& (7 : Int32)).toNatClampNeg)) = (I 113 ((nI (4 * l + j)).toNatClampNeg))) = true then 60 else 58) (ls' := [some (.ref 61), some (.int (nI l)), some (.int (nI (4 * l + j))), some (.int (I 121 (((I 111 ((nI (4 * l + j)).toNatClampNeg)) &&& (7 : Int32)).toNatClampNeg))), some (.int (I 113 ((nI (4 * l + j)).toNatClampNeg))), o5]) (st' := []) (M' := mk tl I L rd) rfl rfl ?_
        refine Runs.brP (fun h3 => ?_) (fun h3 => ?_)
        · skip
          refine Runs.bl 9 (g := inb (nI (4 * l + j)) 1280 && true) (i' := if decide ((I 111 ((nI (4 * l + j)).toNatClampNeg)) ≤ (7 : Int32)) = true then 71 else 69) (ls' := [some (.ref 61), some (.int (nI l)), some (.int (nI (4 * l + j))), some (.int (I 121 (((I 111 ((nI (4 * l + j)).toNatClampNeg)) &&& (7 : Int32)).toNatClampNeg))), some (.int (I 113 ((nI (4 * l + j)).toNatClampNeg))), some (.int (0 : Int32))]) (st' := [.int (0 : Int32)]) (M' := mk tl I L rd) rfl (by have q1 := (show (nI (4 * l + j)).toInt = ((4 * l + j : Nat) : Int) from nI_toInt (by omega)); have q2 := nI_toInt (n := l) (by omega); have q3 := and7 (I 111 (nI (4 * l + j)).toNatClampNeg); simp only [Bool.and_true, Bool.true_and, Bool.and_eq_true, inb_iff, Int32.lt_iff_toInt_lt, Int32.le_iff_toInt_le, toI_0, toI_1, toI_2, toI_3, toI_4, toI_5, toI_6, toI_7, toI_8, toI_9, toI_10, toI_12, toI_16, toI_18, toI_20, toI_21, toI_23, toI_24, toI_32, toI_36, toI_39, toI_40, toI_48, toI_50, toI_60, toI_64, toI_75, toI_80, toI_100, toI_144, toI_160, toI_200, toI_256, toI_320, toI_380, toI_576, toI_600, toI_1000, toI_1280, toI_2400, toI_9999, toI_10000, toI_100000, toI_1000000, toI_m1, toI_m100000, toI_s9, toI_s8] at hl ht hm4 h1 h2 h3 q1 q2 q3 ⊢; omega) ?_
          refine Runs.brP (fun h4 => ?_) (fun h4 => ?_)
          · skip
            refine Runs.bl 3 (g := true) (i' := 74) (ls' := [some (.ref 61), some (.int (nI l)), some (.int (nI (4 * l + j))), some (.int (I 121 (((I 111 ((nI (4 * l + j)).toNatClampNeg)) &&& (7 : Int32)).toNatClampNeg))), some (.int (I 113 ((nI (4 * l + j)).toNatClampNeg))), some (.int (0 : Int32))]) (st' := [.int (0 : Int32)]) (M' := mk tl I L rd) rfl rfl ?_
            exact Runs.rz rfl rfl (by decide) (by rw [hol_sr, if_pos h1, if_pos h2, if_pos h3, if_pos h4] <;> rfl) (rfl)
          · skip
            refine Runs.bl 5 (g := true) (i' := 4) (ls' := [some (.ref 61), some (.int (nI l)), some (.int ((nI (4 * l + j)) + 1)), some (.int (I 121 (((I 111 ((nI (4 * l + j)).toNatClampNeg)) &&& (7 : Int32)).toNatClampNeg))), some (.int (I 113 ((nI (4 * l + j)).toNatClampNeg))), some (.int (0 : Int32))]) (st' := []) (M' := mk tl I L rd) rfl rfl ?_
            rw [show hol_sr I L l (f + 1) j = hol_sr I L l f (j + 1) from by rw [hol_sr, if_pos h1, if_pos h2, if_pos h3, if_neg h4]]
            exact Runs.cg (by rw [nI_1] <;> rfl) rfl (ih (j + 1) _ _ _ (by omega))
        · skip
          refine Runs.bl 10 (g := inb (nI (4 * l + j)) 1280 && true) (i' := if decide ((I 111 ((nI (4 * l + j)).toNatClampNeg)) ≤ (7 : Int32)) = true then 71 else 69) (ls' := [some (.ref 61), some (.int (nI l)), some (.int (nI (4 * l + j))), some (.int (I 121 (((I 111 ((nI (4 * l + j)).toNatClampNeg)) &&& (7 : Int32)).toNatClampNeg))), some (.int (I 113 ((nI (4 * l + j)).toNatClampNeg))), some (.int (1 : Int32))]) (st' := [.int (1 : Int32)]) (M' := mk tl I L rd) rfl (by have q1 := (show (nI (4 * l + j)).toInt = ((4 * l + j : Nat) : Int) from nI_toInt (by omega)); have q2 := nI_toInt (n := l) (by omega); have q3 := and7 (I 111 (nI (4 * l + j)).toNatClampNeg); simp only [Bool.and_true, Bool.true_and, Bool.and_eq_true, inb_iff, Int32.lt_iff_toInt_lt, Int32.le_iff_toInt_le, toI_0, toI_1, toI_2, toI_3, toI_4, toI_5, toI_6, toI_7, toI_8, toI_9, toI_10, toI_12, toI_16, toI_18, toI_20, toI_21, toI_23, toI_24, toI_32, toI_36, toI_39, toI_40, toI_48, toI_50, toI_60, toI_64, toI_75, toI_80, toI_100, toI_144, toI_160, toI_200, toI_256, toI_320, toI_380, toI_576, toI_600, toI_1000, toI_1280, toI_2400, toI_9999, toI_10000, toI_100000, toI_1000000, toI_m1, toI_m100000, toI_s9, toI_s8] at hl ht hm4 h1 h2 h3 q1 q2 q3 ⊢; omega) ?_
          refine Runs.brP (fun h5 => ?_) (fun h5 => ?_)
          · skip
            refine Runs.bl 4 (g := true) (i' := 4) (ls' := [some (.ref 61), some (.int (nI l)), some (.int ((nI (4 * l + j)) + 1)), some (.int (I 121 (((I 111 ((nI (4 * l + j)).toNatClampNeg)) &&& (7 : Int32)).toNatClampNeg))), some (.int (I 113 ((nI (4 * l + j)).toNatClampNeg))), some (.int (1 : Int32))]) (st' := []) (M' := mk tl I L rd) rfl rfl ?_
            rw [show hol_sr I L l (f + 1) j = hol_sr I L l f (j + 1) from by rw [hol_sr, if_pos h1, if_pos h2, if_neg h3, if_pos h5]]
            exact Runs.cg (by rw [nI_1] <;> rfl) rfl (ih (j + 1) _ _ _ (by omega))
          · skip
            refine Runs.bl 4 (g := true) (i' := 74) (ls' := [some (.ref 61), some (.int (nI l)), some (.int (nI (4 * l + j))), some (.int (I 121 (((I 111 ((nI (4 * l + j)).toNatClampNeg)) &&& (7 : Int32)).toNatClampNeg))), some (.int (I 113 ((nI (4 * l + j)).toNatClampNeg))), some (.int (1 : Int32))]) (st' := [.int (0 : Int32)]) (M' := mk tl I L rd) rfl rfl ?_
            exact Runs.rz rfl rfl (by decide) (by rw [hol_sr, if_pos h1, if_pos h2, if_neg h3, if_neg h5] <;> rfl) (rfl)
      · skip
        refine Runs.bl 3 (g := true) (i' := if decide ((I 121 (((I 111 ((nI (4 * l + j)).toNatClampNeg)) &&& (7 : Int32)).toNatClampNeg)) ≤ (I 113 ((nI (4 * l + j)).toNatClampNeg))) = true then 53 else 51) (ls' := [some (.ref 61), some (.int (nI l)), some (.int (nI (4 * l + j))), some (.int (I 121 (((I 111 ((nI (4 * l + j)).toNatClampNeg)) &&& (7 : Int32)).toNatClampNeg))), some (.int (I 113 ((nI (4 * l + j)).toNatClampNeg))), o5]) (st' := []) (M' := mk tl I L rd) rfl rfl ?_
        refine Runs.brP (fun h6 => ?_) (fun h6 => ?_)
        · skip
          refine Runs.bl 10 (g := inb (nI (4 * l + j)) 1280 && true) (i' := if decide ((I 111 ((nI (4 * l + j)).toNatClampNeg)) ≤ (7 : Int32)) = true then 71 else 69) (ls' := [some (.ref 61), some (.int (nI l)), some (.int (nI (4 * l + j))), some (.int (I 121 (((I 111 ((nI (4 * l + j)).toNatClampNeg)) &&& (7 : Int32)).toNatClampNeg))), some (.int (I 113 ((nI (4 * l + j)).toNatClampNeg))), some (.int (0 : Int32))]) (st' := [.int (0 : Int32)]) (M' := mk tl I L rd) rfl (by have q1 := (show (nI (4 * l + j)).toInt = ((4 * l + j : Nat) : Int) from nI_toInt (by omega)); have q2 := nI_toInt (n := l) (by omega); have q3 := and7 (I 111 (nI (4 * l + j)).toNatClampNeg); simp only [Bool.and_true, Bool.true_and, Bool.and_eq_true, inb_iff, Int32.lt_iff_toInt_lt, Int32.le_iff_toInt_le, toI_0, toI_1, toI_2, toI_3, toI_4, toI_5, toI_6, toI_7, toI_8, toI_9, toI_10, toI_12, toI_16, toI_18, toI_20, toI_21, toI_23, toI_24, toI_32, toI_36, toI_39, toI_40, toI_48, toI_50, toI_60, toI_64, toI_75, toI_80, toI_100, toI_144, toI_160, toI_200, toI_256, toI_320, toI_380, toI_576, toI_600, toI_1000, toI_1280, toI_2400, toI_9999, toI_10000, toI_100000, toI_1000000, toI_m1, toI_m100000, toI_s9, toI_s8] at hl ht hm4 h1 h2 h6 q1 q2 q3 ⊢; omega) ?_
          refine Runs.brP (fun h7 => ?_) (fun h7 => ?_)
          · skip
            refine Runs.bl 3 (g := true) (i' := 74) (ls' := [some (.ref 61), some (.int (nI l)), some (.int (nI (4 * l + j))), some (.int (I 121 (((I 111 ((nI (4 * l + j)).toNatClampNeg)) &&& (7 : Int32)).toNatClampNeg))), some (.int (I 113 ((nI (4 * l + j)).toNatClampNeg))), some (.int (0 : Int32))]) (st' := [.int (0 : Int32)]) (M' := mk tl I L rd) rfl rfl ?_
            exact Runs.rz rfl rfl (by decide) (by rw [hol_sr, if_pos h1, if_neg h2, if_pos h6, if_pos h7] <;> rfl) (rfl)
          · skip
            refine Runs.bl 5 (g := true) (i' := 4) (ls' := [some (.ref 61), some (.int (nI l)), some (.int ((nI (4 * l + j)) + 1)), some (.int (I 121 (((I 111 ((nI (4 * l + j)).toNatClampNeg)) &&& (7 : Int32)).toNatClampNeg))), some (.int (I 113 ((nI (4 * l + j)).toNatClampNeg))), some (.int (0 : Int32))]) (st' := []) (M' := mk tl I L rd) rfl rfl ?_
            rw [show hol_sr I L l (f + 1) j = hol_sr I L l f (j + 1) from by rw [hol_sr, if_pos h1, if_neg h2, if_pos h6, if_neg h7]]
            exact Runs.cg (by rw [nI_1] <;> rfl) rfl (ih (j + 1) _ _ _ (by omega))
        · skip
          refine Runs.bl 10 (g := inb (nI (4 * l + j)) 1280 && true) (i' := if decide ((I 111 ((nI (4 * l + j)).toNatClampNeg)) ≤ (7 : Int32)) = true then 71 else 69) (ls' := [some (.ref 61), some (.int (nI l)), some (.int (nI (4 * l + j))), some (.int (I 121 (((I 111 ((nI (4 * l + j)).toNatClampNeg)) &&& (7 : Int32)).toNatClampNeg))), some (.int (I 113 ((nI (4 * l + j)).toNatClampNeg))), some (.int (1 : Int32))]) (st' := [.int (1 : Int32)]) (M' := mk tl I L rd) rfl (by have q1 := (show (nI (4 * l + j)).toInt = ((4 * l + j : Nat) : Int) from nI_toInt (by omega)); have q2 := nI_toInt (n := l) (by omega); have q3 := and7 (I 111 (nI (4 * l + j)).toNatClampNeg); simp only [Bool.and_true, Bool.true_and, Bool.and_eq_true, inb_iff, Int32.lt_iff_toInt_lt, Int32.le_iff_toInt_le, toI_0, toI_1, toI_2, toI_3, toI_4, toI_5, toI_6, toI_7, toI_8, toI_9, toI_10, toI_12, toI_16, toI_18, toI_20, toI_21, toI_23, toI_24, toI_32, toI_36, toI_39, toI_40, toI_48, toI_50, toI_60, toI_64, toI_75, toI_80, toI_100, toI_144, toI_160, toI_200, toI_256, toI_320, toI_380, toI_576, toI_600, toI_1000, toI_1280, toI_2400, toI_9999, toI_10000, toI_100000, toI_1000000, toI_m1, toI_m100000, toI_s9, toI_s8] at hl ht hm4 h1 h2 h6 q1 q2 q3 ⊢; omega) ?_
          refine Runs.brP (fun h8 => ?_) (fun h8 => ?_)
          · skip
            refine Runs.bl 4 (g := true) (i' := 4) (ls' := [some (.ref 61), some (.int (nI l)), some (.int ((nI (4 * l + j)) + 1)), some (.int (I 121 (((I 111 ((nI (4 * l + j)).toNatClampNeg)) &&& (7 : Int32)).toNatClampNeg))), some (.int (I 113 ((nI (4 * l + j)).toNatClampNeg))), some (.int (1 : Int32))]) (st' := []) (M' := mk tl I L rd) rfl rfl ?_
            rw [show hol_sr I L l (f + 1) j = hol_sr I L l f (j + 1) from by rw [hol_sr, if_pos h1, if_neg h2, if_neg h6, if_pos h8]]
            exact Runs.cg (by rw [nI_1] <;> rfl) rfl (ih (j + 1) _ _ _ (by omega))
          · skip
            refine Runs.bl 4 (g := true) (i' := 74) (ls' := [some (.ref 61), some (.int (nI l)), some (.int (nI (4 * l + j))), some (.int (I 121 (((I 111 ((nI (4 * l + j)).toNatClampNeg)) &&& (7 : Int32)).toNatClampNeg))), some (.int (I 113 ((nI (4 * l + j)).toNatClampNeg))), some (.int (1 : Int32))]) (st' := [.int (0 : Int32)]) (M' := mk tl I L rd) rfl rfl ?_
            exact Runs.rz rfl rfl (by decide) (by rw [hol_sr, if_pos h1, if_neg h2, if_neg h6, if_neg h8] <;> rfl) (rfl)
    · skip
      refine Runs.bl 3 (g := true) (i' := if decide ((I 113 ((nI (4 * l + j)).toNatClampNeg)) ≤ (I 121 (((I 111 ((nI (4 * l + j)).toNatClampNeg)) &&& (7 : Int32)).toNatClampNeg))) = true then 40 else 38) (ls' := [some (.ref 61), some (.int (nI l)), some (.int (nI (4 * l + j))), some (.int (I 121 (((I 111 ((nI (4 * l + j)).toNatClampNeg)) &&& (7 : Int32)).toNatClampNeg))), some (.int (I 113 ((nI (4 * l + j)).toNatClampNeg))), o5]) (st' := []) (M' := mk tl I L rd) rfl rfl ?_
      refine Runs.brP (fun h9 => ?_) (fun h9 => ?_)
      · skip
        refine Runs.bl 10 (g := inb (nI (4 * l + j)) 1280 && true) (i' := if decide ((I 111 ((nI (4 * l + j)).toNatClampNeg)) ≤ (7 : Int32)) = true then 71 else 69) (ls' := [some (.ref 61), some (.int (nI l)), some (.int (nI (4 * l + j))), some (.int (I 121 (((I 111 ((nI (4 * l + j)).toNatClampNeg)) &&& (7 : Int32)).toNatClampNeg))), some (.int (I 113 ((nI (4 * l + j)).toNatClampNeg))), some (.int (0 : Int32))]) (st' := [.int (0 : Int32)]) (M' := mk tl I L rd) rfl (by have q1 := (show (nI (4 * l + j)).toInt = ((4 * l + j : Nat) : Int) from nI_toInt (by omega)); have q2 := nI_toInt (n := l) (by omega); have q3 := and7 (I 111 (nI (4 * l + j)).toNatClampNeg); simp only [Bool.and_true, Bool.true_and, Bool.and_eq_true, inb_iff, Int32.lt_iff_toInt_lt, Int32.le_iff_toInt_le, toI_0, toI_1, toI_2, toI_3, toI_4, toI_5, toI_6, toI_7, toI_8, toI_9, toI_10, toI_12, toI_16, toI_18, toI_20, toI_21, toI_23, toI_24, toI_32, toI_36, toI_39, toI_40, toI_48, toI_50, toI_60, toI_64, toI_75, toI_80, toI_100, toI_144, toI_160, toI_200, toI_256, toI_320, toI_380, toI_576, toI_600, toI_1000, toI_1280, toI_2400, toI_9999, toI_10000, toI_100000, toI_1000000, toI_m1, toI_m100000, toI_s9, toI_s8] at hl ht hm4 h1 h9 q1 q2 q3 ⊢; omega) ?_
        refine Runs.brP (fun h10 => ?_) (fun h10 => ?_)
        · skip
          refine Runs.bl 3 (g := true) (i' := 74) (ls' := [some (.ref 61), some (.int (nI l)), some (.int (nI (4 * l + j))), some (.int (I 121 (((I 111 ((nI (4 * l + j)).toNatClampNeg)) &&& (7 : Int32)).toNatClampNeg))), some (.int (I 113 ((nI (4 * l + j)).toNatClampNeg))), some (.int (0 : Int32))]) (st' := [.int (0 : Int32)]) (M' := mk tl I L rd) rfl rfl ?_
          exact Runs.rz rfl rfl (by decide) (by rw [hol_sr, if_neg h1, if_pos h9, if_pos h10] <;> rfl) (rfl)
        · skip
          refine Runs.bl 5 (g := true) (i' := 4) (ls' := [some (.ref 61), some (.int (nI l)), some (.int ((nI (4 * l + j)) + 1)), some (.int (I 121 (((I 111 ((nI (4 * l + j)).toNatClampNeg)) &&& (7 : Int32)).toNatClampNeg))), some (.int (I 113 ((nI (4 * l + j)).toNatClampNeg))), some (.int (0 : Int32))]) (st' := []) (M' := mk tl I L rd) rfl rfl ?_
          rw [show hol_sr I L l (f + 1) j = hol_sr I L l f (j + 1) from by rw [hol_sr, if_neg h1, if_pos h9, if_neg h10]]
          exact Runs.cg (by rw [nI_1] <;> rfl) rfl (ih (j + 1) _ _ _ (by omega))
      · skip
        refine Runs.bl 10 (g := inb (nI (4 * l + j)) 1280 && true) (i' := if decide ((I 111 ((nI (4 * l + j)).toNatClampNeg)) ≤ (7 : Int32)) = true then 71 else 69) (ls' := [some (.ref 61), some (.int (nI l)), some (.int (nI (4 * l + j))), some (.int (I 121 (((I 111 ((nI (4 * l + j)).toNatClampNeg)) &&& (7 : Int32)).toNatClampNeg))), some (.int (I 113 ((nI (4 * l + j)).toNatClampNeg))), some (.int (1 : Int32))]) (st' := [.int (1 : Int32)]) (M' := mk tl I L rd) rfl (by have q1 := (show (nI (4 * l + j)).toInt = ((4 * l + j : Nat) : Int) from nI_toInt (by omega)); have q2 := nI_toInt (n := l) (by omega); have q3 := and7 (I 111 (nI (4 * l + j)).toNatClampNeg); simp only [Bool.and_true, Bool.true_and, Bool.and_eq_true, inb_iff, Int32.lt_iff_toInt_lt, Int32.le_iff_toInt_le, toI_0, toI_1, toI_2, toI_3, toI_4, toI_5, toI_6, toI_7, toI_8, toI_9, toI_10, toI_12, toI_16, toI_18, toI_20, toI_21, toI_23, toI_24, toI_32, toI_36, toI_39, toI_40, toI_48, toI_50, toI_60, toI_64, toI_75, toI_80, toI_100, toI_144, toI_160, toI_200, toI_256, toI_320, toI_380, toI_576, toI_600, toI_1000, toI_1280, toI_2400, toI_9999, toI_10000, toI_100000, toI_1000000, toI_m1, toI_m100000, toI_s9, toI_s8] at hl ht hm4 h1 h9 q1 q2 q3 ⊢; omega) ?_
        refine Runs.brP (fun h11 => ?_) (fun h11 => ?_)
        · skip
          refine Runs.bl 4 (g := true) (i' := 4) (ls' := [some (.ref 61), some (.int (nI l)), some (.int ((nI (4 * l + j)) + 1)), some (.int (I 121 (((I 111 ((nI (4 * l + j)).toNatClampNeg)) &&& (7 : Int32)).toNatClampNeg))), some (.int (I 113 ((nI (4 * l + j)).toNatClampNeg))), some (.int (1 : Int32))]) (st' := []) (M' := mk tl I L rd) rfl rfl ?_
          rw [show hol_sr I L l (f + 1) j = hol_sr I L l f (j + 1) from by rw [hol_sr, if_neg h1, if_neg h9, if_pos h11]]
          exact Runs.cg (by rw [nI_1] <;> rfl) rfl (ih (j + 1) _ _ _ (by omega))
        · skip
          refine Runs.bl 4 (g := true) (i' := 74) (ls' := [some (.ref 61), some (.int (nI l)), some (.int (nI (4 * l + j))), some (.int (I 121 (((I 111 ((nI (4 * l + j)).toNatClampNeg)) &&& (7 : Int32)).toNatClampNeg))), some (.int (I 113 ((nI (4 * l + j)).toNatClampNeg))), some (.int (1 : Int32))]) (st' := [.int (0 : Int32)]) (M' := mk tl I L rd) rfl rfl ?_
          exact Runs.rz rfl rfl (by decide) (by rw [hol_sr, if_neg h1, if_neg h9, if_neg h11] <;> rfl) (rfl)

def hol (I : Nat → Nat → Int32) (L : Nat → Nat → Int64) (l : Nat) : Int32 := hol_sr I L l (I 109 l).toNatClampNeg 0
set_option maxRecDepth 20000 in
theorem c_hol (tl : List (Nat × Nat)) (I : Nat → Nat → Int32) (L : Nat → Nat → Int64) (rd : Nat → Nat → Option Nat) (l : Nat) (hl : l < 80) (hx : ∃ m, m ≤ 4 ∧ I 109 l = nI m) : Call 196 [.ref 61, .int (nI l)] (mk tl I L rd) (some (.int (hol I L l))) (mk tl I L rd) := by
  show Runs 196 0 [some (.ref 61), some (.int (nI l)), none, none, none, none] [] (mk tl I L rd) (some (.int (hol I L l))) (mk tl I L rd)
  refine Runs.bl 4 (g := true) (i' := 4) (ls' := [some (.ref 61), some (.int (nI l)), some (.int ((4 : Int32) * (nI l))), none, none, none]) (st' := []) (M' := mk tl I L rd) rfl rfl ?_
  obtain ⟨m, hm4, ht⟩ := hx
  unfold hol; rw [ht, nI_clamp (by omega)]
  exact Runs.cg (by rw [show ((4 : Int32) * nI l) = nI (4 * l) from nI_mul 4 l]; rfl) rfl (l_hol tl I L rd l m hl ht hm4 m 0 _ _ _ (Nat.zero_add _))

def tel_sr (I : Nat → Nat → Int32) (L : Nat → Nat → Int64) (a : Nat) (w : Int32) : Nat → Nat → Int32
  | 0, j => plain I w
  | f + 1, j =>
  if ¬ (I 108 ((nI (20 * a + j)).toNatClampNeg)) = w then (tel_sr I L a w f (j + 1)) else
  if (hol I L (20 * a + j)) = 0 then (tel_sr I L a w f (j + 1)) else
  I 110 ((nI (20 * a + j)).toNatClampNeg)

set_option maxRecDepth 20000 in
theorem l_tel (tl : List (Nat × Nat)) (I : Nat → Nat → Int32) (L : Nat → Nat → Int64) (rd : Nat → Nat → Option Nat) (a : Nat) (w : Int32) (m : Nat) (ha : a < 4) (hc : I 107 a = nI m) (hm20 : m ≤ 20) (hT : ∀ i, i < m → ∃ t, t ≤ 4 ∧ I 109 (20 * a + i) = nI t) : ∀ f j, j + f = m → Runs 198 7 [some (.ref 61), some (.int w), some (.int (nI a)), some (.int (nI (20 * a + j)))] [] (mk tl I L rd) (some (.int (tel_sr I L a w f j))) (mk tl I L rd) := by
  intro f
  induction f with
  | zero =>
    intro j hj
    obtain rfl : j = m := hj
    refine Runs.bl 10 (g := inb (nI a) 16 && true) (i' := if decide ((((20 : Int32) * (nI a)) + (I 107 ((nI a).toNatClampNeg))) ≤ (nI (20 * a + j))) = true then 34 else 17) (ls' := [some (.ref 61), some (.int w), some (.int (nI a)), some (.int (nI (20 * a + j)))]) (st' := []) (M' := mk tl I L rd) rfl (by have q1 := (show (nI (20 * a + j)).toInt = ((20 * a + j : Nat) : Int) from nI_toInt (by omega)); have q2 := nI_toInt (n := a) (by omega); simp only [Bool.and_true, Bool.true_and, Bool.and_eq_true, inb_iff, Int32.lt_iff_toInt_lt, Int32.le_iff_toInt_le, toI_0, toI_1, toI_2, toI_3, toI_4, toI_5, toI_6, toI_7, toI_8, toI_9, toI_10, toI_12, toI_16, toI_18, toI_20, toI_21, toI_23, toI_24, toI_32, toI_36, toI_39, toI_40, toI_48, toI_50, toI_60, toI_64, toI_75, toI_80, toI_100, toI_144, toI_160, toI_200, toI_256, toI_320, toI_380, toI_576, toI_600, toI_1000, toI_1280, toI_2400, toI_9999, toI_10000, toI_100000, toI_1000000, toI_m1, toI_m100000, toI_s9, toI_s8] at ha hc hm20 hT q1 q2 ⊢; omega) ?_
    refine Runs.brT (by show ((20 : Int32) * nI a) + I 107 (nI a).toNatClampNeg ≤ nI (20 * a + _); rw [nI_clamp (by omega), hc, show ((20 : Int32) * nI a) = nI (20 * a) from nI_mul 20 a, nI_add]; exact nI_le (Nat.le_refl _) (by omega)) ?_
    refine Runs.bl 1 (g := true) (i' := 35) (ls' := [some (.ref 61), some (.int w), some (.int (nI a)), some (.int (nI (20 * a + j)))]) (st' := [.int w]) (M' := mk tl I L rd) rfl rfl ?_
    refine Runs.call (k' := 197) (as := [.int w]) (rest := []) (r1 := some (.int (plain I w))) (M1 := mk tl I L rd) rfl rfl rfl (c_plain tl I L rd w ) ?_
    exact Runs.ri rfl rfl (by rw [tel_sr] <;> rfl) (rfl)
  | succ f ih =>
    intro j hj
    refine Runs.bl 10 (g := inb (nI a) 16 && true) (i' := if decide ((((20 : Int32) * (nI a)) + (I 107 ((nI a).toNatClampNeg))) ≤ (nI (20 * a + j))) = true then 34 else 17) (ls' := [some (.ref 61), some (.int w), some (.int (nI a)), some (.int (nI (20 * a + j)))]) (st' := []) (M' := mk tl I L rd) rfl (by have q1 := (show (nI (20 * a + j)).toInt = ((20 * a + j : Nat) : Int) from nI_toInt (by omega)); have q2 := nI_toInt (n := a) (by omega); simp only [Bool.and_true, Bool.true_and, Bool.and_eq_true, inb_iff, Int32.lt_iff_toInt_lt, Int32.le_iff_toInt_le, toI_0, toI_1, toI_2, toI_3, toI_4, toI_5, toI_6, toI_7, toI_8, toI_9, toI_10, toI_12, toI_16, toI_18, toI_20, toI_21, toI_23, toI_24, toI_32, toI_36, toI_39, toI_40, toI_48, toI_50, toI_60, toI_64, toI_75, toI_80, toI_100, toI_144, toI_160, toI_200, toI_256, toI_320, toI_380, toI_576, toI_600, toI_1000, toI_1280, toI_2400, toI_9999, toI_10000, toI_100000, toI_1000000, toI_m1, toI_m100000, toI_s9, toI_s8] at ha hc hm20 hT q1 q2 ⊢; omega) ?_
    refine Runs.brF (by show ¬ ((20 : Int32) * nI a) + I 107 (nI a).toNatClampNeg ≤ nI (20 * a + j); rw [nI_clamp (by omega), hc, show ((20 : Int32) * nI a) = nI (20 * a) from nI_mul 20 a, nI_add]; exact nI_ge (by omega) (by omega)) ?_
    refine Runs.bl 6 (g := inb (nI (20 * a + j)) 320 && true) (i' := if decide (¬ (I 108 ((nI (20 * a + j)).toNatClampNeg)) = w) = true then 32 else 23) (ls' := [some (.ref 61), some (.int w), some (.int (nI a)), some (.int (nI (20 * a + j)))]) (st' := []) (M' := mk tl I L rd) rfl (by have q1 := (show (nI (20 * a + j)).toInt = ((20 * a + j : Nat) : Int) from nI_toInt (by omega)); have q2 := nI_toInt (n := a) (by omega); simp only [Bool.and_true, Bool.true_and, Bool.and_eq_true, inb_iff, Int32.lt_iff_toInt_lt, Int32.le_iff_toInt_le, toI_0, toI_1, toI_2, toI_3, toI_4, toI_5, toI_6, toI_7, toI_8, toI_9, toI_10, toI_12, toI_16, toI_18, toI_20, toI_21, toI_23, toI_24, toI_32, toI_36, toI_39, toI_40, toI_48, toI_50, toI_60, toI_64, toI_75, toI_80, toI_100, toI_144, toI_160, toI_200, toI_256, toI_320, toI_380, toI_576, toI_600, toI_1000, toI_1280, toI_2400, toI_9999, toI_10000, toI_100000, toI_1000000, toI_m1, toI_m100000, toI_s9, toI_s8] at ha hc hm20 hT q1 q2 ⊢; omega) ?_
    refine Runs.brP (fun h1 => ?_) (fun h1 => ?_)
    · skip
      refine Runs.bl 2 (g := true) (i' := 7) (ls' := [some (.ref 61), some (.int w), some (.int (nI a)), some (.int ((nI (20 * a + j)) + 1))]) (st' := []) (M' := mk tl I L rd) rfl rfl ?_
      rw [show tel_sr I L a w (f + 1) j = tel_sr I L a w f (j + 1) from by rw [tel_sr, if_pos h1]]
      exact Runs.cg (by rw [nI_1] <;> rfl) rfl (ih (j + 1) (by omega))
    · skip
      refine Runs.bl 2 (g := true) (i' := 25) (ls' := [some (.ref 61), some (.int w), some (.int (nI a)), some (.int (nI (20 * a + j)))]) (st' := [.int (nI (20 * a + j)), .ref 61]) (M' := mk tl I L rd) rfl rfl ?_
      refine Runs.call (k' := 196) (as := [.ref 61, .int (nI (20 * a + j))]) (rest := []) (r1 := some (.int (hol I L (20 * a + j)))) (M1 := mk tl I L rd) rfl rfl rfl (c_hol tl I L rd (20 * a + j) (by omega) (hT j (by omega))) ?_
      refine Runs.bl 1 (g := true) (i' := if decide ((hol I L (20 * a + j)) = 0) = true then 32 else 27) (ls' := [some (.ref 61), some (.int w), some (.int (nI a)), some (.int (nI (20 * a + j)))]) (st' := []) (M' := mk tl I L rd) rfl rfl ?_
      refine Runs.brP (fun h2 => ?_) (fun h2 => ?_)
      · skip
        refine Runs.bl 2 (g := true) (i' := 7) (ls' := [some (.ref 61), some (.int w), some (.int (nI a)), some (.int ((nI (20 * a + j)) + 1))]) (st' := []) (M' := mk tl I L rd) rfl rfl ?_
        rw [show tel_sr I L a w (f + 1) j = tel_sr I L a w f (j + 1) from by rw [tel_sr, if_neg h1, if_pos h2]]
        exact Runs.cg (by rw [nI_1] <;> rfl) rfl (ih (j + 1) (by omega))
      · skip
        refine Runs.bl 4 (g := inb (nI (20 * a + j)) 320 && true) (i' := 31) (ls' := [some (.ref 61), some (.int w), some (.int (nI a)), some (.int (nI (20 * a + j)))]) (st' := [.int (I 110 ((nI (20 * a + j)).toNatClampNeg))]) (M' := mk tl I L rd) rfl (by have q1 := (show (nI (20 * a + j)).toInt = ((20 * a + j : Nat) : Int) from nI_toInt (by omega)); have q2 := nI_toInt (n := a) (by omega); simp only [Bool.and_true, Bool.true_and, Bool.and_eq_true, inb_iff, Int32.lt_iff_toInt_lt, Int32.le_iff_toInt_le, toI_0, toI_1, toI_2, toI_3, toI_4, toI_5, toI_6, toI_7, toI_8, toI_9, toI_10, toI_12, toI_16, toI_18, toI_20, toI_21, toI_23, toI_24, toI_32, toI_36, toI_39, toI_40, toI_48, toI_50, toI_60, toI_64, toI_75, toI_80, toI_100, toI_144, toI_160, toI_200, toI_256, toI_320, toI_380, toI_576, toI_600, toI_1000, toI_1280, toI_2400, toI_9999, toI_10000, toI_100000, toI_1000000, toI_m1, toI_m100000, toI_s9, toI_s8] at ha hc hm20 hT h1 h2 q1 q2 ⊢; omega) ?_
        exact Runs.ri rfl rfl (by rw [tel_sr, if_neg h1, if_neg h2] <;> rfl) (rfl)

/-- the ACTS of the reference are in order -/
def RA (I : Nat → Nat → Int32) (n : Nat) : Prop := ∀ a, a < n → ∃ c, c ≤ 20 ∧ I 107 a = nI c ∧ ∀ i, i < c → ∃ t, t ≤ 4 ∧ I 109 (20 * a + i) = nI t
def tlBy (I : Nat → Nat → Int32) (L : Nat → Nat → Int64) (w x : Int32) : Int32 := if x = -1 then plain I w else tel_sr I L x.toNatClampNeg w (I 107 x.toNatClampNeg).toNatClampNeg 0

set_option maxRecDepth 20000 in
theorem c_tlBy0 (tl : List (Nat × Nat)) (I : Nat → Nat → Int32) (L : Nat → Nat → Int64) (rd : Nat → Nat → Option Nat) (w : Int32)  : Call 198 [.ref 61, .int w, .int (-1 : Int32)] (mk tl I L rd) (some (.int (plain I w))) (mk tl I L rd) := by
  show Runs 198 0 [some (.ref 61), some (.int w), some (.int (-1 : Int32)), none] [] (mk tl I L rd) (some (.int (plain I w))) (mk tl I L rd)
  refine Runs.bl 4 (g := true) (i' := 35) (ls' := [some (.ref 61), some (.int w), some (.int (-1 : Int32)), none]) (st' := [.int w]) (M' := mk tl I L rd) rfl rfl ?_
  refine Runs.call (k' := 197) (as := [.int w]) (rest := []) (r1 := some (.int (plain I w))) (M1 := mk tl I L rd) rfl rfl rfl (c_plain tl I L rd w ) ?_
  exact Runs.ri rfl rfl (rfl) (rfl)

set_option maxRecDepth 20000 in
theorem c_tlBy1 (tl : List (Nat × Nat)) (I : Nat → Nat → Int32) (L : Nat → Nat → Int64) (rd : Nat → Nat → Option Nat) (a : Nat) (w : Int32) (m : Nat) (ha : a < 4) (hc : I 107 a = nI m) (hm20 : m ≤ 20) (hT : ∀ i, i < m → ∃ t, t ≤ 4 ∧ I 109 (20 * a + i) = nI t) : Call 198 [.ref 61, .int w, .int (nI a)] (mk tl I L rd) (some (.int (tel_sr I L a w m 0))) (mk tl I L rd) := by
  show Runs 198 0 [some (.ref 61), some (.int w), some (.int (nI a)), none] [] (mk tl I L rd) (some (.int (tel_sr I L a w m 0))) (mk tl I L rd)
  refine Runs.bl 3 (g := true) (i' := if decide ((nI a) = (-1 : Int32)) = true then 34 else 3) (ls' := [some (.ref 61), some (.int w), some (.int (nI a)), none]) (st' := []) (M' := mk tl I L rd) rfl rfl ?_
  refine Runs.brF (by rw [← Int32.toInt_inj, nI_toInt (by omega), toI_m1]; omega) ?_
  refine Runs.bl 4 (g := true) (i' := 7) (ls' := [some (.ref 61), some (.int w), some (.int (nI a)), some (.int ((20 : Int32) * (nI a)))]) (st' := []) (M' := mk tl I L rd) rfl rfl ?_
  exact Runs.cg (by rw [show ((20 : Int32) * nI a) = nI (20 * a) from nI_mul 20 a]; rfl) rfl (l_tel tl I L rd a w m ha hc hm20 hT m 0 (Nat.zero_add _))

theorem c_tlBy (tl : List (Nat × Nat)) (I : Nat → Nat → Int32) (L : Nat → Nat → Int64) (rd : Nat → Nat → Option Nat) (w x : Int32) {n : Nat} (hn4 : n ≤ 4) (hR : RA I n) (hx : x = -1 ∨ ∃ a, a < n ∧ x = nI a) : Call 198 [.ref 61, .int w, .int x] (mk tl I L rd) (some (.int (tlBy I L w x))) (mk tl I L rd) := by
  rcases hx with rfl | ⟨a, ha, rfl⟩
  · rw [tlBy, if_pos rfl]; exact c_tlBy0 tl I L rd w
  · obtain ⟨c, hc20, hc, hT⟩ := hR a ha
    rw [tlBy, if_neg (by rw [← Int32.toInt_inj, nI_toInt (by omega), toI_m1]; omega), nI_clamp (by omega), hc, nI_clamp (by omega)]
    exact c_tlBy1 tl I L rd a w c (by omega) hc hc20 hT
/-- what a TOPIC tells now, of the reference -/
def tlNow (I : Nat → Nat → Int32) (L : Nat → Nat → Int64) (n m : Nat) (p w : Int32) : Int32 := tlBy (up1 I 121 (lookR I L p m)) L w (gon_it I L (I 66 0) (I 66 0) n)

set_option maxRecDepth 20000 in
theorem c_tlNow (tl : List (Nat × Nat)) (I : Nat → Nat → Int32) (L : Nat → Nat → Int64) (rd : Nat → Nat → Option Nat) (p w : Int32) (n m : Nat) (hm : I 86 0 = nI m) (hb : m ≤ 40) (hn : I 104 0 = nI n) (hn4 : n ≤ 4) (hR : RA I n) (hp : 0 ≤ p.toInt ∧ p.toInt < 12) : Call 199 [.ref 61, .int p, .int w] (mk tl I L rd) (some (.int (tlNow I L n m p w))) (mk tl (up1 I 121 (lookR I L p m)) L rd) := by
  show Runs 199 0 [some (.ref 61), some (.int p), some (.int w)] [] (mk tl I L rd) (some (.int (tlNow I L n m p w))) (mk tl (up1 I 121 (lookR I L p m)) L rd)
  refine Runs.bl 2 (g := true) (i' := 2) (ls' := [some (.ref 61), some (.int p), some (.int w)]) (st' := [.int p, .ref 61]) (M' := mk tl I L rd) rfl rfl ?_
  refine Runs.call (k' := 195) (as := [.ref 61, .int p]) (rest := []) (r1 := none) (M1 := mk tl (up1 I 121 (lookR I L p m)) L rd) rfl rfl rfl (c_lk tl I L rd p m hm hb (by first | assumption | (skip; (try simp only [Bool.and_true, Bool.true_and, Bool.and_eq_true, inb_iff, Int32.lt_iff_toInt_lt, Int32.le_iff_toInt_le, toI_0, toI_1, toI_2, toI_3, toI_4, toI_5, toI_6, toI_7, toI_8, toI_9, toI_10, toI_12, toI_16, toI_18, toI_20, toI_21, toI_23, toI_24, toI_32, toI_36, toI_39, toI_40, toI_48, toI_50, toI_60, toI_64, toI_75, toI_80, toI_100, toI_144, toI_160, toI_200, toI_256, toI_320, toI_380, toI_576, toI_600, toI_1000, toI_1280, toI_2400, toI_9999, toI_10000, toI_100000, toI_1000000, toI_m1, toI_m100000, toI_s9, toI_s8] at hm hb hn hn4 hR hp  ⊢); omega))) ?_
  refine Runs.bl 11 (g := true && (true && true)) (i' := 14) (ls' := [some (.ref 61), some (.int p), some (.int w)]) (st' := [.int (I 66 0), .int (I 66 0), .ref 61, .int w, .ref 61]) (M' := mk tl (up1 I 121 (lookR I L p m)) L rd) rfl rfl ?_
  refine Runs.call (k' := 193) (as := [.ref 61, .int (I 66 0), .int (I 66 0)]) (rest := [.int w, .ref 61]) (r1 := some (.int (gon_it I L (I 66 0) (I 66 0) n))) (M1 := mk tl (up1 I 121 (lookR I L p m)) L rd) rfl rfl rfl (c_gon tl (up1 I 121 (lookR I L p m)) L rd (I 66 0) (I 66 0) n hn hn4) ?_
  refine Runs.call (k' := 198) (as := [.ref 61, .int w, .int (gon_it I L (I 66 0) (I 66 0) n)]) (rest := []) (r1 := some (.int (tlBy (up1 I 121 (lookR I L p m)) L w (gon_it I L (I 66 0) (I 66 0) n)))) (M1 := mk tl (up1 I 121 (lookR I L p m)) L rd) rfl rfl rfl (c_tlBy tl (up1 I 121 (lookR I L p m)) L rd w (gon_it I L (I 66 0) (I 66 0) n) hn4 hR (gon_cs _ _ _ _ _)) ?_
  exact Runs.ri rfl rfl (rfl) (rfl)

