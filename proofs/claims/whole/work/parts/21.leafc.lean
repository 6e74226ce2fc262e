/-! leaves of the class: answers and contracts (printed by p21.py) -/
def hasD (I : Nat → Nat → Int32) (d : Int32) : Int32 :=
  if d < 0 then (0 : Int32) else
  if (I 16 0) ≤ d then (0 : Int32) else
  if (40 : Int32) ≤ d then (0 : Int32) else
  (1 : Int32)

set_option maxRecDepth 20000 in
theorem c_hasD (tl : List (Nat × Nat)) (I : Nat → Nat → Int32) (L : Nat → Nat → Int64) (rd : Nat → Nat → Option Nat) (d : Int32)  : Call 6 [.ref 16, .int d] (mk tl I L rd) (some (.int (hasD I d))) (mk tl I L rd) := by
  show Runs 6 0 [some (.ref 16), some (.int d)] [] (mk tl I L rd) (some (.int (hasD I d))) (mk tl I L rd)
  refine Runs.bl 2 (g := true) (i' := if decide (d < 0) = true then 11 else 2) (ls' := [some (.ref 16), some (.int d)]) (st' := []) (M' := mk tl I L rd) rfl rfl ?_
  refine Runs.brP (fun h1 => ?_) (fun h1 => ?_)
  · skip
    refine Runs.bl 1 (g := true) (i' := 12) (ls' := [some (.ref 16), some (.int d)]) (st' := [.int (0 : Int32)]) (M' := mk tl I L rd) rfl rfl ?_
    exact Runs.rz rfl rfl (by decide) (by rw [hasD, if_pos h1] <;> rfl) (rfl)
  · skip
    refine Runs.bl 4 (g := true) (i' := if decide ((I 16 0) ≤ d) = true then 11 else 6) (ls' := [some (.ref 16), some (.int d)]) (st' := []) (M' := mk tl I L rd) rfl rfl ?_
    refine Runs.brP (fun h2 => ?_) (fun h2 => ?_)
    · skip
      refine Runs.bl 1 (g := true) (i' := 12) (ls' := [some (.ref 16), some (.int d)]) (st' := [.int (0 : Int32)]) (M' := mk tl I L rd) rfl rfl ?_
      exact Runs.rz rfl rfl (by decide) (by rw [hasD, if_neg h1, if_pos h2] <;> rfl) (rfl)
    · skip
      refine Runs.bl 3 (g := true) (i' := if decide ((40 : Int32) ≤ d) = true then 11 else 9) (ls' := [some (.ref 16), some (.int d)]) (st' := []) (M' := mk tl I L rd) rfl rfl ?_
      refine Runs.brP (fun h3 => ?_) (fun h3 => ?_)
      · skip
        refine Runs.bl 1 (g := true) (i' := 12) (ls' := [some (.ref 16), some (.int d)]) (st' := [.int (0 : Int32)]) (M' := mk tl I L rd) rfl rfl ?_
        exact Runs.rz rfl rfl (by decide) (by rw [hasD, if_neg h1, if_neg h2, if_pos h3] <;> rfl) (rfl)
      · skip
        refine Runs.bl 2 (g := true) (i' := 12) (ls' := [some (.ref 16), some (.int d)]) (st' := [.int (1 : Int32)]) (M' := mk tl I L rd) rfl rfl ?_
        exact Runs.rz rfl rfl (by decide) (by rw [hasD, if_neg h1, if_neg h2, if_neg h3] <;> rfl) (rfl)

theorem hasD_rng {I : Nat → Nat → Int32} {d : Int32} (h : ¬ hasD I d = 0) : 0 ≤ d.toInt ∧ d.toInt < 40 := by
  unfold hasD at h
  split at h
  · exact absurd rfl h
  split at h
  · exact absurd rfl h
  split at h
  · exact absurd rfl h
  rename_i h1 _ h3
  simp only [Bool.and_true, Bool.true_and, Bool.and_eq_true, inb_iff, Int32.lt_iff_toInt_lt, Int32.le_iff_toInt_le, toI_0, toI_1, toI_2, toI_3, toI_4, toI_5, toI_6, toI_7, toI_8, toI_9, toI_10, toI_12, toI_16, toI_18, toI_20, toI_21, toI_23, toI_24, toI_32, toI_36, toI_39, toI_40, toI_48, toI_50, toI_60, toI_64, toI_75, toI_80, toI_100, toI_144, toI_160, toI_200, toI_256, toI_320, toI_380, toI_576, toI_600, toI_1000, toI_1280, toI_2400, toI_9999, toI_10000, toI_100000, toI_1000000, toI_m1, toI_m100000, toI_s9, toI_s8] at h1 h3
  omega

def isLive (I : Nat → Nat → Int32) (d : Int32) : Int32 :=
  if d < 0 then (0 : Int32) else
  if (I 16 0) ≤ d then (0 : Int32) else
  if (40 : Int32) ≤ d then (0 : Int32) else
  if ¬ (I 24 d.toNatClampNeg) = 0 then (0 : Int32) else
  (1 : Int32)

set_option maxRecDepth 20000 in
theorem c_isLive (tl : List (Nat × Nat)) (I : Nat → Nat → Int32) (L : Nat → Nat → Int64) (rd : Nat → Nat → Option Nat) (d : Int32)  : Call 7 [.ref 16, .int d] (mk tl I L rd) (some (.int (isLive I d))) (mk tl I L rd) := by
  show Runs 7 0 [some (.ref 16), some (.int d)] [] (mk tl I L rd) (some (.int (isLive I d))) (mk tl I L rd)
  refine Runs.bl 2 (g := true) (i' := if decide (d < 0) = true then 16 else 2) (ls' := [some (.ref 16), some (.int d)]) (st' := []) (M' := mk tl I L rd) rfl rfl ?_
  refine Runs.brP (fun h1 => ?_) (fun h1 => ?_)
  · skip
    refine Runs.bl 1 (g := true) (i' := 17) (ls' := [some (.ref 16), some (.int d)]) (st' := [.int (0 : Int32)]) (M' := mk tl I L rd) rfl rfl ?_
    exact Runs.rz rfl rfl (by decide) (by rw [isLive, if_pos h1] <;> rfl) (rfl)
  · skip
    refine Runs.bl 4 (g := true) (i' := if decide ((I 16 0) ≤ d) = true then 16 else 6) (ls' := [some (.ref 16), some (.int d)]) (st' := []) (M' := mk tl I L rd) rfl rfl ?_
    refine Runs.brP (fun h2 => ?_) (fun h2 => ?_)
    · skip
      refine Runs.bl 1 (g := true) (i' := 17) (ls' := [some (.ref 16), some (.int d)]) (st' := [.int (0 : Int32)]) (M' := mk tl I L rd) rfl rfl ?_
      exact Runs.rz rfl rfl (by decide) (by rw [isLive, if_neg h1, if_pos h2] <;> rfl) (rfl)
    · skip
      refine Runs.bl 3 (g := true) (i' := if decide ((40 : Int32) ≤ d) = true then 16 else 9) (ls' := [some (.ref 16), some (.int d)]) (st' := []) (M' := mk tl I L rd) rfl rfl ?_
      refine Runs.brP (fun h3 => ?_) (fun h3 => ?_)
      · skip
        refine Runs.bl 1 (g := true) (i' := 17) (ls' := [some (.ref 16), some (.int d)]) (st' := [.int (0 : Int32)]) (M' := mk tl I L rd) rfl rfl ?_
        exact Runs.rz rfl rfl (by decide) (by rw [isLive, if_neg h1, if_neg h2, if_pos h3] <;> rfl) (rfl)
      · skip
        refine Runs.bl 5 (g := inb d 40 && true) (i' := if decide (¬ (I 24 d.toNatClampNeg) = 0) = true then 16 else 14) (ls' := [some (.ref 16), some (.int d)]) (st' := []) (M' := mk tl I L rd) rfl (by skip; simp only [Bool.and_true, Bool.true_and, Bool.and_eq_true, inb_iff, Int32.lt_iff_toInt_lt, Int32.le_iff_toInt_le, toI_0, toI_1, toI_2, toI_3, toI_4, toI_5, toI_6, toI_7, toI_8, toI_9, toI_10, toI_12, toI_16, toI_18, toI_20, toI_21, toI_23, toI_24, toI_32, toI_36, toI_39, toI_40, toI_48, toI_50, toI_60, toI_64, toI_75, toI_80, toI_100, toI_144, toI_160, toI_200, toI_256, toI_320, toI_380, toI_576, toI_600, toI_1000, toI_1280, toI_2400, toI_9999, toI_10000, toI_100000, toI_1000000, toI_m1, toI_m100000, toI_s9, toI_s8] at h1 h2 h3 ⊢; omega) ?_
        refine Runs.brP (fun h4 => ?_) (fun h4 => ?_)
        · skip
          refine Runs.bl 1 (g := true) (i' := 17) (ls' := [some (.ref 16), some (.int d)]) (st' := [.int (0 : Int32)]) (M' := mk tl I L rd) rfl rfl ?_
          exact Runs.rz rfl rfl (by decide) (by rw [isLive, if_neg h1, if_neg h2, if_neg h3, if_pos h4] <;> rfl) (rfl)
        · skip
          refine Runs.bl 2 (g := true) (i' := 17) (ls' := [some (.ref 16), some (.int d)]) (st' := [.int (1 : Int32)]) (M' := mk tl I L rd) rfl rfl ?_
          exact Runs.rz rfl rfl (by decide) (by rw [isLive, if_neg h1, if_neg h2, if_neg h3, if_neg h4] <;> rfl) (rfl)

theorem isLive_rng {I : Nat → Nat → Int32} {d : Int32} (h : ¬ isLive I d = 0) : 0 ≤ d.toInt ∧ d.toInt < 40 := by
  unfold isLive at h
  split at h
  · exact absurd rfl h
  split at h
  · exact absurd rfl h
  split at h
  · exact absurd rfl h
  rename_i h1 _ h3
  simp only [Bool.and_true, Bool.true_and, Bool.and_eq_true, inb_iff, Int32.lt_iff_toInt_lt, Int32.le_iff_toInt_le, toI_0, toI_1, toI_2, toI_3, toI_4, toI_5, toI_6, toI_7, toI_8, toI_9, toI_10, toI_12, toI_16, toI_18, toI_20, toI_21, toI_23, toI_24, toI_32, toI_36, toI_39, toI_40, toI_48, toI_50, toI_60, toI_64, toI_75, toI_80, toI_100, toI_144, toI_160, toI_200, toI_256, toI_320, toI_380, toI_576, toI_600, toI_1000, toI_1280, toI_2400, toI_9999, toI_10000, toI_100000, toI_1000000, toI_m1, toI_m100000, toI_s9, toI_s8] at h1 h3
  omega

def hasP (I : Nat → Nat → Int32) (p : Int32) : Int32 :=
  if p < 0 then (0 : Int32) else
  if (I 2 0) ≤ p then (0 : Int32) else
  if (12 : Int32) ≤ p then (0 : Int32) else
  (1 : Int32)

set_option maxRecDepth 20000 in
theorem c_hasP (tl : List (Nat × Nat)) (I : Nat → Nat → Int32) (L : Nat → Nat → Int64) (rd : Nat → Nat → Option Nat) (p : Int32)  : Call 55 [.ref 2, .int p] (mk tl I L rd) (some (.int (hasP I p))) (mk tl I L rd) := by
  show Runs 55 0 [some (.ref 2), some (.int p)] [] (mk tl I L rd) (some (.int (hasP I p))) (mk tl I L rd)
  refine Runs.bl 2 (g := true) (i' := if decide (p < 0) = true then 11 else 2) (ls' := [some (.ref 2), some (.int p)]) (st' := []) (M' := mk tl I L rd) rfl rfl ?_
  refine Runs.brP (fun h1 => ?_) (fun h1 => ?_)
  · skip
    refine Runs.bl 1 (g := true) (i' := 12) (ls' := [some (.ref 2), some (.int p)]) (st' := [.int (0 : Int32)]) (M' := mk tl I L rd) rfl rfl ?_
    exact Runs.rz rfl rfl (by decide) (by rw [hasP, if_pos h1] <;> rfl) (rfl)
  · skip
    refine Runs.bl 4 (g := true) (i' := if decide ((I 2 0) ≤ p) = true then 11 else 6) (ls' := [some (.ref 2), some (.int p)]) (st' := []) (M' := mk tl I L rd) rfl rfl ?_
    refine Runs.brP (fun h2 => ?_) (fun h2 => ?_)
    · skip
      refine Runs.bl 1 (g := true) (i' := 12) (ls' := [some (.ref 2), some (.int p)]) (st' := [.int (0 : Int32)]) (M' := mk tl I L rd) rfl rfl ?_
      exact Runs.rz rfl rfl (by decide) (by rw [hasP, if_neg h1, if_pos h2] <;> rfl) (rfl)
    · skip
      refine Runs.bl 3 (g := true) (i' := if decide ((12 : Int32) ≤ p) = true then 11 else 9) (ls' := [some (.ref 2), some (.int p)]) (st' := []) (M' := mk tl I L rd) rfl rfl ?_
      refine Runs.brP (fun h3 => ?_) (fun h3 => ?_)
      · skip
        refine Runs.bl 1 (g := true) (i' := 12) (ls' := [some (.ref 2), some (.int p)]) (st' := [.int (0 : Int32)]) (M' := mk tl I L rd) rfl rfl ?_
        exact Runs.rz rfl rfl (by decide) (by rw [hasP, if_neg h1, if_neg h2, if_pos h3] <;> rfl) (rfl)
      · skip
        refine Runs.bl 2 (g := true) (i' := 12) (ls' := [some (.ref 2), some (.int p)]) (st' := [.int (1 : Int32)]) (M' := mk tl I L rd) rfl rfl ?_
        exact Runs.rz rfl rfl (by decide) (by rw [hasP, if_neg h1, if_neg h2, if_neg h3] <;> rfl) (rfl)

def isHeld (I : Nat → Nat → Int32) (p : Int32) : Int32 :=
  if p < 0 then (0 : Int32) else
  if (I 2 0) ≤ p then (0 : Int32) else
  if (12 : Int32) ≤ p then (0 : Int32) else
  if (I 5 p.toNatClampNeg) = (-1 : Int32) then (0 : Int32) else
  (1 : Int32)

set_option maxRecDepth 20000 in
theorem c_isHeld (tl : List (Nat × Nat)) (I : Nat → Nat → Int32) (L : Nat → Nat → Int64) (rd : Nat → Nat → Option Nat) (p : Int32)  : Call 56 [.ref 2, .int p] (mk tl I L rd) (some (.int (isHeld I p))) (mk tl I L rd) := by
  show Runs 56 0 [some (.ref 2), some (.int p)] [] (mk tl I L rd) (some (.int (isHeld I p))) (mk tl I L rd)
  refine Runs.bl 2 (g := true) (i' := if decide (p < 0) = true then 17 else 2) (ls' := [some (.ref 2), some (.int p)]) (st' := []) (M' := mk tl I L rd) rfl rfl ?_
  refine Runs.brP (fun h1 => ?_) (fun h1 => ?_)
  · skip
    refine Runs.bl 1 (g := true) (i' := 18) (ls' := [some (.ref 2), some (.int p)]) (st' := [.int (0 : Int32)]) (M' := mk tl I L rd) rfl rfl ?_
    exact Runs.rz rfl rfl (by decide) (by rw [isHeld, if_pos h1] <;> rfl) (rfl)
  · skip
    refine Runs.bl 4 (g := true) (i' := if decide ((I 2 0) ≤ p) = true then 17 else 6) (ls' := [some (.ref 2), some (.int p)]) (st' := []) (M' := mk tl I L rd) rfl rfl ?_
    refine Runs.brP (fun h2 => ?_) (fun h2 => ?_)
    · skip
      refine Runs.bl 1 (g := true) (i' := 18) (ls' := [some (.ref 2), some (.int p)]) (st' := [.int (0 : Int32)]) (M' := mk tl I L rd) rfl rfl ?_
      exact Runs.rz rfl rfl (by decide) (by rw [isHeld, if_neg h1, if_pos h2] <;> rfl) (rfl)
    · skip
      refine Runs.bl 3 (g := true) (i' := if decide ((12 : Int32) ≤ p) = true then 17 else 9) (ls' := [some (.ref 2), some (.int p)]) (st' := []) (M' := mk tl I L rd) rfl rfl ?_
      refine Runs.brP (fun h3 => ?_) (fun h3 => ?_)
      · skip
        refine Runs.bl 1 (g := true) (i' := 18) (ls' := [some (.ref 2), some (.int p)]) (st' := [.int (0 : Int32)]) (M' := mk tl I L rd) rfl rfl ?_
        exact Runs.rz rfl rfl (by decide) (by rw [isHeld, if_neg h1, if_neg h2, if_pos h3] <;> rfl) (rfl)
      · skip
        refine Runs.bl 6 (g := inb p 12 && true) (i' := if decide ((I 5 p.toNatClampNeg) = (-1 : Int32)) = true then 17 else 15) (ls' := [some (.ref 2), some (.int p)]) (st' := []) (M' := mk tl I L rd) rfl (by skip; simp only [Bool.and_true, Bool.true_and, Bool.and_eq_true, inb_iff, Int32.lt_iff_toInt_lt, Int32.le_iff_toInt_le, toI_0, toI_1, toI_2, toI_3, toI_4, toI_5, toI_6, toI_7, toI_8, toI_9, toI_10, toI_12, toI_16, toI_18, toI_20, toI_21, toI_23, toI_24, toI_32, toI_36, toI_39, toI_40, toI_48, toI_50, toI_60, toI_64, toI_75, toI_80, toI_100, toI_144, toI_160, toI_200, toI_256, toI_320, toI_380, toI_576, toI_600, toI_1000, toI_1280, toI_2400, toI_9999, toI_10000, toI_100000, toI_1000000, toI_m1, toI_m100000, toI_s9, toI_s8] at h1 h2 h3 ⊢; omega) ?_
        refine Runs.brP (fun h4 => ?_) (fun h4 => ?_)
        · skip
          refine Runs.bl 1 (g := true) (i' := 18) (ls' := [some (.ref 2), some (.int p)]) (st' := [.int (0 : Int32)]) (M' := mk tl I L rd) rfl rfl ?_
          exact Runs.rz rfl rfl (by decide) (by rw [isHeld, if_neg h1, if_neg h2, if_neg h3, if_pos h4] <;> rfl) (rfl)
        · skip
          refine Runs.bl 2 (g := true) (i' := 18) (ls' := [some (.ref 2), some (.int p)]) (st' := [.int (1 : Int32)]) (M' := mk tl I L rd) rfl rfl ?_
          exact Runs.rz rfl rfl (by decide) (by rw [isHeld, if_neg h1, if_neg h2, if_neg h3, if_neg h4] <;> rfl) (rfl)

theorem hasP_rng {I : Nat → Nat → Int32} {p : Int32} (h : ¬ hasP I p = 0) : 0 ≤ p.toInt ∧ p.toInt < 12 := by
  unfold hasP at h
  split at h
  · exact absurd rfl h
  split at h
  · exact absurd rfl h
  split at h
  · exact absurd rfl h
  rename_i h1 _ h3
  simp only [Bool.and_true, Bool.true_and, Bool.and_eq_true, inb_iff, Int32.lt_iff_toInt_lt, Int32.le_iff_toInt_le, toI_0, toI_1, toI_2, toI_3, toI_4, toI_5, toI_6, toI_7, toI_8, toI_9, toI_10, toI_12, toI_16, toI_18, toI_20, toI_21, toI_23, toI_24, toI_32, toI_36, toI_39, toI_40, toI_48, toI_50, toI_60, toI_64, toI_75, toI_80, toI_100, toI_144, toI_160, toI_200, toI_256, toI_320, toI_380, toI_576, toI_600, toI_1000, toI_1280, toI_2400, toI_9999, toI_10000, toI_100000, toI_1000000, toI_m1, toI_m100000, toI_s9, toI_s8] at h1 h3
  omega

theorem isHeld_rng {I : Nat → Nat → Int32} {p : Int32} (h : ¬ isHeld I p = 0) : 0 ≤ p.toInt ∧ p.toInt < 12 := by
  unfold isHeld at h
  split at h
  · exact absurd rfl h
  split at h
  · exact absurd rfl h
  split at h
  · exact absurd rfl h
  rename_i h1 _ h3
  simp only [Bool.and_true, Bool.true_and, Bool.and_eq_true, inb_iff, Int32.lt_iff_toInt_lt, Int32.le_iff_toInt_le, toI_0, toI_1, toI_2, toI_3, toI_4, toI_5, toI_6, toI_7, toI_8, toI_9, toI_10, toI_12, toI_16, toI_18, toI_20, toI_21, toI_23, toI_24, toI_32, toI_36, toI_39, toI_40, toI_48, toI_50, toI_60, toI_64, toI_75, toI_80, toI_100, toI_144, toI_160, toI_200, toI_256, toI_320, toI_380, toI_576, toI_600, toI_1000, toI_1280, toI_2400, toI_9999, toI_10000, toI_100000, toI_1000000, toI_m1, toI_m100000, toI_s9, toI_s8] at h1 h3
  omega

def outside (I : Nat → Nat → Int32) (n : Int32) (a : Int32) (b : Int32) : Int32 :=
  if n < a then (1 : Int32) else
  if n ≤ b then (0 : Int32) else
  (1 : Int32)

set_option maxRecDepth 20000 in
theorem c_outside (tl : List (Nat × Nat)) (I : Nat → Nat → Int32) (L : Nat → Nat → Int64) (rd : Nat → Nat → Option Nat) (n : Int32) (a : Int32) (b : Int32)  : Call 147 [.int n, .int a, .int b] (mk tl I L rd) (some (.int (outside I n a b))) (mk tl I L rd) := by
  show Runs 147 0 [some (.int n), some (.int a), some (.int b)] [] (mk tl I L rd) (some (.int (outside I n a b))) (mk tl I L rd)
  refine Runs.bl 3 (g := true) (i' := if decide (n < a) = true then 6 else 3) (ls' := [some (.int n), some (.int a), some (.int b)]) (st' := []) (M' := mk tl I L rd) rfl rfl ?_
  refine Runs.brP (fun h1 => ?_) (fun h1 => ?_)
  · skip
    refine Runs.bl 2 (g := true) (i' := 9) (ls' := [some (.int n), some (.int a), some (.int b)]) (st' := [.int (1 : Int32)]) (M' := mk tl I L rd) rfl rfl ?_
    exact Runs.rz rfl rfl (by decide) (by rw [outside, if_pos h1] <;> rfl) (rfl)
  · skip
    refine Runs.bl 3 (g := true) (i' := if decide (n ≤ b) = true then 8 else 6) (ls' := [some (.int n), some (.int a), some (.int b)]) (st' := []) (M' := mk tl I L rd) rfl rfl ?_
    refine Runs.brP (fun h2 => ?_) (fun h2 => ?_)
    · skip
      refine Runs.bl 1 (g := true) (i' := 9) (ls' := [some (.int n), some (.int a), some (.int b)]) (st' := [.int (0 : Int32)]) (M' := mk tl I L rd) rfl rfl ?_
      exact Runs.rz rfl rfl (by decide) (by rw [outside, if_neg h1, if_pos h2] <;> rfl) (rfl)
    · skip
      refine Runs.bl 2 (g := true) (i' := 9) (ls' := [some (.int n), some (.int a), some (.int b)]) (st' := [.int (1 : Int32)]) (M' := mk tl I L rd) rfl rfl ?_
      exact Runs.rz rfl rfl (by decide) (by rw [outside, if_neg h1, if_neg h2] <;> rfl) (rfl)

theorem outside_rng {I : Nat → Nat → Int32} {n a b : Int32} (h : outside I n a b = 0) : a.toInt ≤ n.toInt ∧ n.toInt ≤ b.toInt := by
  unfold outside at h
  split at h
  · exact absurd h (by decide)
  split at h
  · rename_i h1 h2
    simp only [Int32.lt_iff_toInt_lt, Int32.le_iff_toInt_le] at h1 h2
    omega
  · exact absurd h (by decide)

theorem outside_rng' {I : Nat → Nat → Int32} {n a b : Int32} (h : ¬ ¬ outside I n a b = 0) : a.toInt ≤ n.toInt ∧ n.toInt ≤ b.toInt := outside_rng (Decidable.not_not.mp h)
def intrOn (I : Nat → Nat → Int32) (d : Int32) (day : Int32) : Int32 :=
  (I 26 d.toNatClampNeg) + ((((((I 25 d.toNatClampNeg).toInt64) * ((I 21 d.toNatClampNeg).toInt64)) * ((day - (I 27 d.toNatClampNeg)).toInt64)) / (360000 : Int64)).toInt32)

set_option maxRecDepth 20000 in
theorem c_intrOn (tl : List (Nat × Nat)) (I : Nat → Nat → Int32) (L : Nat → Nat → Int64) (rd : Nat → Nat → Option Nat) (d : Int32) (day : Int32) (hd : 0 ≤ d.toInt ∧ d.toInt < 40) : Call 10 [.ref 16, .int d, .int day] (mk tl I L rd) (some (.int (intrOn I d day))) (mk tl I L rd) := by
  show Runs 10 0 [some (.ref 16), some (.int d), some (.int day), none, none] [] (mk tl I L rd) (some (.int (intrOn I d day))) (mk tl I L rd)
  refine Runs.bl 29 (g := inb d 40 && (inb d 40 && (inb d 40 && (true && (inb d 40 && true))))) (i' := 29) (ls' := [some (.ref 16), some (.int d), some (.int day), some (.long (((((I 25 d.toNatClampNeg).toInt64) * ((I 21 d.toNatClampNeg).toInt64)) * ((day - (I 27 d.toNatClampNeg)).toInt64)) / (360000 : Int64))), none]) (st' := [.int ((I 26 d.toNatClampNeg) + ((((((I 25 d.toNatClampNeg).toInt64) * ((I 21 d.toNatClampNeg).toInt64)) * ((day - (I 27 d.toNatClampNeg)).toInt64)) / (360000 : Int64)).toInt32))]) (M' := mk tl I L rd) rfl (by skip; simp only [Bool.and_true, Bool.true_and, Bool.and_eq_true, inb_iff, Int32.lt_iff_toInt_lt, Int32.le_iff_toInt_le, toI_0, toI_1, toI_2, toI_3, toI_4, toI_5, toI_6, toI_7, toI_8, toI_9, toI_10, toI_12, toI_16, toI_18, toI_20, toI_21, toI_23, toI_24, toI_32, toI_36, toI_39, toI_40, toI_48, toI_50, toI_60, toI_64, toI_75, toI_80, toI_100, toI_144, toI_160, toI_200, toI_256, toI_320, toI_380, toI_576, toI_600, toI_1000, toI_1280, toI_2400, toI_9999, toI_10000, toI_100000, toI_1000000, toI_m1, toI_m100000, toI_s9, toI_s8] at hd ⊢; omega) ?_
  exact Runs.ri rfl rfl (rfl) (rfl)

def due (I : Nat → Nat → Int32) (d : Int32) (day : Int32) : Int32 :=
  if (isLive I d) = 0 then (0 : Int32) else
  ((I 28 d.toNatClampNeg) + (intrOn I d day)) + (I 25 d.toNatClampNeg)

set_option maxRecDepth 20000 in
theorem c_due (tl : List (Nat × Nat)) (I : Nat → Nat → Int32) (L : Nat → Nat → Int64) (rd : Nat → Nat → Option Nat) (d : Int32) (day : Int32)  : Call 11 [.ref 16, .int d, .int day] (mk tl I L rd) (some (.int (due I d day))) (mk tl I L rd) := by
  show Runs 11 0 [some (.ref 16), some (.int d), some (.int day)] [] (mk tl I L rd) (some (.int (due I d day))) (mk tl I L rd)
  refine Runs.bl 2 (g := true) (i' := 2) (ls' := [some (.ref 16), some (.int d), some (.int day)]) (st' := [.int d, .ref 16]) (M' := mk tl I L rd) rfl rfl ?_
  refine Runs.call (k' := 7) (as := [.ref 16, .int d]) (rest := []) (r1 := some (.int (isLive I d))) (M1 := mk tl I L rd) rfl rfl rfl (c_isLive tl I L rd d ) ?_
  refine Runs.bl 1 (g := true) (i' := if decide ((isLive I d) = 0) = true then 19 else 4) (ls' := [some (.ref 16), some (.int d), some (.int day)]) (st' := []) (M' := mk tl I L rd) rfl rfl ?_
  refine Runs.brP (fun h1 => ?_) (fun h1 => ?_)
  · skip
    refine Runs.bl 1 (g := true) (i' := 20) (ls' := [some (.ref 16), some (.int d), some (.int day)]) (st' := [.int (0 : Int32)]) (M' := mk tl I L rd) rfl rfl ?_
    exact Runs.ri rfl rfl (by rw [due, if_pos h1] <;> rfl) (rfl)
  · skip
    refine Runs.bl 7 (g := inb d 40 && true) (i' := 11) (ls' := [some (.ref 16), some (.int d), some (.int day)]) (st' := [.int day, .int d, .ref 16, .int (I 28 d.toNatClampNeg)]) (M' := mk tl I L rd) rfl (by have q1 := isLive_rng h1; simp only [Bool.and_true, Bool.true_and, Bool.and_eq_true, inb_iff, Int32.lt_iff_toInt_lt, Int32.le_iff_toInt_le, toI_0, toI_1, toI_2, toI_3, toI_4, toI_5, toI_6, toI_7, toI_8, toI_9, toI_10, toI_12, toI_16, toI_18, toI_20, toI_21, toI_23, toI_24, toI_32, toI_36, toI_39, toI_40, toI_48, toI_50, toI_60, toI_64, toI_75, toI_80, toI_100, toI_144, toI_160, toI_200, toI_256, toI_320, toI_380, toI_576, toI_600, toI_1000, toI_1280, toI_2400, toI_9999, toI_10000, toI_100000, toI_1000000, toI_m1, toI_m100000, toI_s9, toI_s8] at q1 ⊢; omega) ?_
    refine Runs.call (k' := 10) (as := [.ref 16, .int d, .int day]) (rest := [.int (I 28 d.toNatClampNeg)]) (r1 := some (.int (intrOn I d day))) (M1 := mk tl I L rd) rfl rfl rfl (c_intrOn tl I L rd d day (by first | assumption | (have q1 := isLive_rng h1; (try simp only [Bool.and_true, Bool.true_and, Bool.and_eq_true, inb_iff, Int32.lt_iff_toInt_lt, Int32.le_iff_toInt_le, toI_0, toI_1, toI_2, toI_3, toI_4, toI_5, toI_6, toI_7, toI_8, toI_9, toI_10, toI_12, toI_16, toI_18, toI_20, toI_21, toI_23, toI_24, toI_32, toI_36, toI_39, toI_40, toI_48, toI_50, toI_60, toI_64, toI_75, toI_80, toI_100, toI_144, toI_160, toI_200, toI_256, toI_320, toI_380, toI_576, toI_600, toI_1000, toI_1280, toI_2400, toI_9999, toI_10000, toI_100000, toI_1000000, toI_m1, toI_m100000, toI_s9, toI_s8] at q1  ⊢); omega))) ?_
    refine Runs.bl 7 (g := inb d 40 && true) (i' := 20) (ls' := [some (.ref 16), some (.int d), some (.int day)]) (st' := [.int (((I 28 d.toNatClampNeg) + (intrOn I d day)) + (I 25 d.toNatClampNeg))]) (M' := mk tl I L rd) rfl (by have q1 := isLive_rng h1; simp only [Bool.and_true, Bool.true_and, Bool.and_eq_true, inb_iff, Int32.lt_iff_toInt_lt, Int32.le_iff_toInt_le, toI_0, toI_1, toI_2, toI_3, toI_4, toI_5, toI_6, toI_7, toI_8, toI_9, toI_10, toI_12, toI_16, toI_18, toI_20, toI_21, toI_23, toI_24, toI_32, toI_36, toI_39, toI_40, toI_48, toI_50, toI_60, toI_64, toI_75, toI_80, toI_100, toI_144, toI_160, toI_200, toI_256, toI_320, toI_380, toI_576, toI_600, toI_1000, toI_1280, toI_2400, toI_9999, toI_10000, toI_100000, toI_1000000, toI_m1, toI_m100000, toI_s9, toI_s8] at q1 ⊢; omega) ?_
    exact Runs.ri rfl rfl (by rw [due, if_neg h1] <;> rfl) (rfl)

def owes (I : Nat → Nat → Int32) (p : Int32) (d : Int32) : Int32 :=
  if (isLive I d) = 0 then (0 : Int32) else
  if ¬ (I 17 d.toNatClampNeg) = p then (0 : Int32) else
  (1 : Int32)

set_option maxRecDepth 20000 in
theorem c_owes (tl : List (Nat × Nat)) (I : Nat → Nat → Int32) (L : Nat → Nat → Int64) (rd : Nat → Nat → Option Nat) (p : Int32) (d : Int32)  : Call 31 [.ref 1, .int p, .int d] (mk tl I L rd) (some (.int (owes I p d))) (mk tl I L rd) := by
  show Runs 31 0 [some (.ref 1), some (.int p), some (.int d)] [] (mk tl I L rd) (some (.int (owes I p d))) (mk tl I L rd)
  refine Runs.bl 3 (g := true) (i' := 3) (ls' := [some (.ref 1), some (.int p), some (.int d)]) (st' := [.int d, .ref 16]) (M' := mk tl I L rd) rfl rfl ?_
  refine Runs.call (k' := 7) (as := [.ref 16, .int d]) (rest := []) (r1 := some (.int (isLive I d))) (M1 := mk tl I L rd) rfl rfl rfl (c_isLive tl I L rd d ) ?_
  refine Runs.bl 1 (g := true) (i' := if decide ((isLive I d) = 0) = true then 14 else 5) (ls' := [some (.ref 1), some (.int p), some (.int d)]) (st' := []) (M' := mk tl I L rd) rfl rfl ?_
  refine Runs.brP (fun h1 => ?_) (fun h1 => ?_)
  · skip
    refine Runs.bl 1 (g := true) (i' := 15) (ls' := [some (.ref 1), some (.int p), some (.int d)]) (st' := [.int (0 : Int32)]) (M' := mk tl I L rd) rfl rfl ?_
    exact Runs.rz rfl rfl (by decide) (by rw [owes, if_pos h1] <;> rfl) (rfl)
  · skip
    refine Runs.bl 7 (g := inb d 40 && true) (i' := if decide (¬ (I 17 d.toNatClampNeg) = p) = true then 14 else 12) (ls' := [some (.ref 1), some (.int p), some (.int d)]) (st' := []) (M' := mk tl I L rd) rfl (by have q1 := isLive_rng h1; simp only [Bool.and_true, Bool.true_and, Bool.and_eq_true, inb_iff, Int32.lt_iff_toInt_lt, Int32.le_iff_toInt_le, toI_0, toI_1, toI_2, toI_3, toI_4, toI_5, toI_6, toI_7, toI_8, toI_9, toI_10, toI_12, toI_16, toI_18, toI_20, toI_21, toI_23, toI_24, toI_32, toI_36, toI_39, toI_40, toI_48, toI_50, toI_60, toI_64, toI_75, toI_80, toI_100, toI_144, toI_160, toI_200, toI_256, toI_320, toI_380, toI_576, toI_600, toI_1000, toI_1280, toI_2400, toI_9999, toI_10000, toI_100000, toI_1000000, toI_m1, toI_m100000, toI_s9, toI_s8] at q1 ⊢; omega) ?_
    refine Runs.brP (fun h2 => ?_) (fun h2 => ?_)
    · skip
      refine Runs.bl 1 (g := true) (i' := 15) (ls' := [some (.ref 1), some (.int p), some (.int d)]) (st' := [.int (0 : Int32)]) (M' := mk tl I L rd) rfl rfl ?_
      exact Runs.rz rfl rfl (by decide) (by rw [owes, if_neg h1, if_pos h2] <;> rfl) (rfl)
    · skip
      refine Runs.bl 2 (g := true) (i' := 15) (ls' := [some (.ref 1), some (.int p), some (.int d)]) (st' := [.int (1 : Int32)]) (M' := mk tl I L rd) rfl rfl ?_
      exact Runs.rz rfl rfl (by decide) (by rw [owes, if_neg h1, if_neg h2] <;> rfl) (rfl)

theorem owes_rng {I : Nat → Nat → Int32} {p d : Int32} (h : ¬ owes I p d = 0) : 0 ≤ d.toInt ∧ d.toInt < 40 := by
  unfold owes at h
  split at h
  · exact absurd rfl h
  · rename_i h1
    exact isLive_rng h1

def leastOf (I : Nat → Nat → Int32) (n : Int32) (d : Int32) : Int32 :=
  (1000 : Int32) - (I 33 (((n * (12 : Int32)) + d).toNatClampNeg))

set_option maxRecDepth 20000 in
theorem c_leastOf (tl : List (Nat × Nat)) (I : Nat → Nat → Int32) (L : Nat → Nat → Int64) (rd : Nat → Nat → Option Nat) (n : Int32) (d : Int32) (hn : inb (n * 12 + d) 144 = true) : Call 27 [.ref 1, .int n, .int d] (mk tl I L rd) (some (.int (leastOf I n d))) (mk tl I L rd) := by
  show Runs 27 0 [some (.ref 1), some (.int n), some (.int d)] [] (mk tl I L rd) (some (.int (leastOf I n d))) (mk tl I L rd)
  refine Runs.bl 10 (g := inb ((n * (12 : Int32)) + d) 144 && true) (i' := 10) (ls' := [some (.ref 1), some (.int n), some (.int d)]) (st' := [.int ((1000 : Int32) - (I 33 (((n * (12 : Int32)) + d).toNatClampNeg)))]) (M' := mk tl I L rd) rfl (by rw [Bool.and_true]; exact hn) ?_
  exact Runs.ri rfl rfl (rfl) (rfl)

def detains (I : Nat → Nat → Int32) (n : Int32) (d : Int32) : Int32 :=
  if ((I 12 d.toNatClampNeg) &&& ((1 : Int32) <<< (n &&& 31))) = 0 then (0 : Int32) else
  (1 : Int32)

set_option maxRecDepth 20000 in
theorem c_detains (tl : List (Nat × Nat)) (I : Nat → Nat → Int32) (L : Nat → Nat → Int64) (rd : Nat → Nat → Option Nat) (n : Int32) (d : Int32) (hd : 0 ≤ d.toInt ∧ d.toInt < 12) : Call 35 [.ref 1, .int n, .int d] (mk tl I L rd) (some (.int (detains I n d))) (mk tl I L rd) := by
  show Runs 35 0 [some (.ref 1), some (.int n), some (.int d)] [] (mk tl I L rd) (some (.int (detains I n d))) (mk tl I L rd)
  refine Runs.bl 10 (g := inb d 12 && true) (i' := if decide (((I 12 d.toNatClampNeg) &&& ((1 : Int32) <<< (n &&& 31))) = 0) = true then 12 else 10) (ls' := [some (.ref 1), some (.int n), some (.int d)]) (st' := []) (M' := mk tl I L rd) rfl (by skip; simp only [Bool.and_true, Bool.true_and, Bool.and_eq_true, inb_iff, Int32.lt_iff_toInt_lt, Int32.le_iff_toInt_le, toI_0, toI_1, toI_2, toI_3, toI_4, toI_5, toI_6, toI_7, toI_8, toI_9, toI_10, toI_12, toI_16, toI_18, toI_20, toI_21, toI_23, toI_24, toI_32, toI_36, toI_39, toI_40, toI_48, toI_50, toI_60, toI_64, toI_75, toI_80, toI_100, toI_144, toI_160, toI_200, toI_256, toI_320, toI_380, toI_576, toI_600, toI_1000, toI_1280, toI_2400, toI_9999, toI_10000, toI_100000, toI_1000000, toI_m1, toI_m100000, toI_s9, toI_s8] at hd ⊢; omega) ?_
  refine Runs.brP (fun h1 => ?_) (fun h1 => ?_)
  · skip
    refine Runs.bl 1 (g := true) (i' := 13) (ls' := [some (.ref 1), some (.int n), some (.int d)]) (st' := [.int (0 : Int32)]) (M' := mk tl I L rd) rfl rfl ?_
    exact Runs.rz rfl rfl (by decide) (by rw [detains, if_pos h1] <;> rfl) (rfl)
  · skip
    refine Runs.bl 2 (g := true) (i' := 13) (ls' := [some (.ref 1), some (.int n), some (.int d)]) (st' := [.int (1 : Int32)]) (M' := mk tl I L rd) rfl rfl ?_
    exact Runs.rz rfl rfl (by decide) (by rw [detains, if_neg h1] <;> rfl) (rfl)

def thouOf (I : Nat → Nat → Int32) (n : Int32) (t : Int32) : Int32 :=
  ((n.toInt64 * t.toInt64) / (1000 : Int64)).toInt32

set_option maxRecDepth 20000 in
theorem c_thouOf (tl : List (Nat × Nat)) (I : Nat → Nat → Int32) (L : Nat → Nat → Int64) (rd : Nat → Nat → Option Nat) (n : Int32) (t : Int32)  : Call 148 [.int n, .int t] (mk tl I L rd) (some (.int (thouOf I n t))) (mk tl I L rd) := by
  show Runs 148 0 [some (.int n), some (.int t)] [] (mk tl I L rd) (some (.int (thouOf I n t))) (mk tl I L rd)
  refine Runs.bl 8 (g := true && true) (i' := 8) (ls' := [some (.int n), some (.int t)]) (st' := [.int (((n.toInt64 * t.toInt64) / (1000 : Int64)).toInt32)]) (M' := mk tl I L rd) rfl rfl ?_
  exact Runs.ri rfl rfl (rfl) (rfl)

def areTwo (I : Nat → Nat → Int32) (a : Int32) (b : Int32) : Int32 :=
  if a = b then (0 : Int32) else
  if (hasP I a) = 0 then (0 : Int32) else
  if (hasP I b) = 0 then (0 : Int32) else
  (1 : Int32)

set_option maxRecDepth 20000 in
theorem c_areTwo (tl : List (Nat × Nat)) (I : Nat → Nat → Int32) (L : Nat → Nat → Int64) (rd : Nat → Nat → Option Nat) (a : Int32) (b : Int32)  : Call 146 [.ref 0, .int a, .int b] (mk tl I L rd) (some (.int (areTwo I a b))) (mk tl I L rd) := by
  show Runs 146 0 [some (.ref 0), some (.int a), some (.int b)] [] (mk tl I L rd) (some (.int (areTwo I a b))) (mk tl I L rd)
  refine Runs.bl 3 (g := true) (i' := if decide (a = b) = true then 17 else 3) (ls' := [some (.ref 0), some (.int a), some (.int b)]) (st' := []) (M' := mk tl I L rd) rfl rfl ?_
  refine Runs.brP (fun h1 => ?_) (fun h1 => ?_)
  · skip
    refine Runs.bl 1 (g := true) (i' := 18) (ls' := [some (.ref 0), some (.int a), some (.int b)]) (st' := [.int (0 : Int32)]) (M' := mk tl I L rd) rfl rfl ?_
    exact Runs.rz rfl rfl (by decide) (by rw [areTwo, if_pos h1] <;> rfl) (rfl)
  · skip
    refine Runs.bl 4 (g := true) (i' := 7) (ls' := [some (.ref 0), some (.int a), some (.int b)]) (st' := [.int a, .ref 2]) (M' := mk tl I L rd) rfl rfl ?_
    refine Runs.call (k' := 55) (as := [.ref 2, .int a]) (rest := []) (r1 := some (.int (hasP I a))) (M1 := mk tl I L rd) rfl rfl rfl (c_hasP tl I L rd a ) ?_
    refine Runs.bl 1 (g := true) (i' := if decide ((hasP I a) = 0) = true then 17 else 9) (ls' := [some (.ref 0), some (.int a), some (.int b)]) (st' := []) (M' := mk tl I L rd) rfl rfl ?_
    refine Runs.brP (fun h2 => ?_) (fun h2 => ?_)
    · skip
      refine Runs.bl 1 (g := true) (i' := 18) (ls' := [some (.ref 0), some (.int a), some (.int b)]) (st' := [.int (0 : Int32)]) (M' := mk tl I L rd) rfl rfl ?_
      exact Runs.rz rfl rfl (by decide) (by rw [areTwo, if_neg h1, if_pos h2] <;> rfl) (rfl)
    · skip
      refine Runs.bl 4 (g := true) (i' := 13) (ls' := [some (.ref 0), some (.int a), some (.int b)]) (st' := [.int b, .ref 2]) (M' := mk tl I L rd) rfl rfl ?_
      refine Runs.call (k' := 55) (as := [.ref 2, .int b]) (rest := []) (r1 := some (.int (hasP I b))) (M1 := mk tl I L rd) rfl rfl rfl (c_hasP tl I L rd b ) ?_
      refine Runs.bl 1 (g := true) (i' := if decide ((hasP I b) = 0) = true then 17 else 15) (ls' := [some (.ref 0), some (.int a), some (.int b)]) (st' := []) (M' := mk tl I L rd) rfl rfl ?_
      refine Runs.brP (fun h3 => ?_) (fun h3 => ?_)
      · skip
        refine Runs.bl 1 (g := true) (i' := 18) (ls' := [some (.ref 0), some (.int a), some (.int b)]) (st' := [.int (0 : Int32)]) (M' := mk tl I L rd) rfl rfl ?_
        exact Runs.rz rfl rfl (by decide) (by rw [areTwo, if_neg h1, if_neg h2, if_pos h3] <;> rfl) (rfl)
      · skip
        refine Runs.bl 2 (g := true) (i' := 18) (ls' := [some (.ref 0), some (.int a), some (.int b)]) (st' := [.int (1 : Int32)]) (M' := mk tl I L rd) rfl rfl ?_
        exact Runs.rz rfl rfl (by decide) (by rw [areTwo, if_neg h1, if_neg h2, if_neg h3] <;> rfl) (rfl)

theorem areTwo_rng {I : Nat → Nat → Int32} {a b : Int32} (h : ¬ areTwo I a b = 0) : ¬ a = b ∧ (0 ≤ a.toInt ∧ a.toInt < 12) ∧ (0 ≤ b.toInt ∧ b.toInt < 12) := by
  unfold areTwo at h
  split at h
  · exact absurd rfl h
  split at h
  · exact absurd rfl h
  split at h
  · exact absurd rfl h
  rename_i h1 h2 h3
  exact ⟨h1, hasP_rng h2, hasP_rng h3⟩

def ahead (I : Nat → Nat → Int32) (a : Int32) (b : Int32) : Int32 :=
  if (I 10 a.toNatClampNeg) = (I 10 b.toNatClampNeg) then (if (I 5 b.toNatClampNeg) ≤ (I 5 a.toNatClampNeg) then (0 : Int32) else
    (1 : Int32)) else
  if (I 10 b.toNatClampNeg) ≤ (I 10 a.toNatClampNeg) then (0 : Int32) else
  (1 : Int32)

set_option maxRecDepth 20000 in
theorem c_ahead (tl : List (Nat × Nat)) (I : Nat → Nat → Int32) (L : Nat → Nat → Int64) (rd : Nat → Nat → Option Nat) (a : Int32) (b : Int32) (ha : 0 ≤ a.toInt ∧ a.toInt < 12) (hb : 0 ≤ b.toInt ∧ b.toInt < 12) : Call 61 [.ref 2, .int a, .int b] (mk tl I L rd) (some (.int (ahead I a b))) (mk tl I L rd) := by
  show Runs 61 0 [some (.ref 2), some (.int a), some (.int b)] [] (mk tl I L rd) (some (.int (ahead I a b))) (mk tl I L rd)
  refine Runs.bl 9 (g := inb a 12 && (inb b 12 && true)) (i' := if decide ((I 10 a.toNatClampNeg) = (I 10 b.toNatClampNeg)) = true then 22 else 9) (ls' := [some (.ref 2), some (.int a), some (.int b)]) (st' := []) (M' := mk tl I L rd) rfl (by skip; simp only [Bool.and_true, Bool.true_and, Bool.and_eq_true, inb_iff, Int32.lt_iff_toInt_lt, Int32.le_iff_toInt_le, toI_0, toI_1, toI_2, toI_3, toI_4, toI_5, toI_6, toI_7, toI_8, toI_9, toI_10, toI_12, toI_16, toI_18, toI_20, toI_21, toI_23, toI_24, toI_32, toI_36, toI_39, toI_40, toI_48, toI_50, toI_60, toI_64, toI_75, toI_80, toI_100, toI_144, toI_160, toI_200, toI_256, toI_320, toI_380, toI_576, toI_600, toI_1000, toI_1280, toI_2400, toI_9999, toI_10000, toI_100000, toI_1000000, toI_m1, toI_m100000, toI_s9, toI_s8] at ha hb ⊢; omega) ?_
  refine Runs.brP (fun h1 => ?_) (fun h1 => ?_)
  · skip
    refine Runs.bl 9 (g := inb a 12 && (inb b 12 && true)) (i' := if decide ((I 5 b.toNatClampNeg) ≤ (I 5 a.toNatClampNeg)) = true then 33 else 31) (ls' := [some (.ref 2), some (.int a), some (.int b)]) (st' := []) (M' := mk tl I L rd) rfl (by skip; simp only [Bool.and_true, Bool.true_and, Bool.and_eq_true, inb_iff, Int32.lt_iff_toInt_lt, Int32.le_iff_toInt_le, toI_0, toI_1, toI_2, toI_3, toI_4, toI_5, toI_6, toI_7, toI_8, toI_9, toI_10, toI_12, toI_16, toI_18, toI_20, toI_21, toI_23, toI_24, toI_32, toI_36, toI_39, toI_40, toI_48, toI_50, toI_60, toI_64, toI_75, toI_80, toI_100, toI_144, toI_160, toI_200, toI_256, toI_320, toI_380, toI_576, toI_600, toI_1000, toI_1280, toI_2400, toI_9999, toI_10000, toI_100000, toI_1000000, toI_m1, toI_m100000, toI_s9, toI_s8] at ha hb h1 ⊢; omega) ?_
    refine Runs.brP (fun h2 => ?_) (fun h2 => ?_)
    · skip
      refine Runs.bl 1 (g := true) (i' := 34) (ls' := [some (.ref 2), some (.int a), some (.int b)]) (st' := [.int (0 : Int32)]) (M' := mk tl I L rd) rfl rfl ?_
      exact Runs.rz rfl rfl (by decide) (by rw [ahead, if_pos h1, if_pos h2] <;> rfl) (rfl)
    · skip
      refine Runs.bl 2 (g := true) (i' := 34) (ls' := [some (.ref 2), some (.int a), some (.int b)]) (st' := [.int (1 : Int32)]) (M' := mk tl I L rd) rfl rfl ?_
      exact Runs.rz rfl rfl (by decide) (by rw [ahead, if_pos h1, if_neg h2] <;> rfl) (rfl)
  · skip
    refine Runs.bl 9 (g := inb a 12 && (inb b 12 && true)) (i' := if decide ((I 10 b.toNatClampNeg) ≤ (I 10 a.toNatClampNeg)) = true then 20 else 18) (ls' := [some (.ref 2), some (.int a), some (.int b)]) (st' := []) (M' := mk tl I L rd) rfl (by skip; simp only [Bool.and_true, Bool.true_and, Bool.and_eq_true, inb_iff, Int32.lt_iff_toInt_lt, Int32.le_iff_toInt_le, toI_0, toI_1, toI_2, toI_3, toI_4, toI_5, toI_6, toI_7, toI_8, toI_9, toI_10, toI_12, toI_16, toI_18, toI_20, toI_21, toI_23, toI_24, toI_32, toI_36, toI_39, toI_40, toI_48, toI_50, toI_60, toI_64, toI_75, toI_80, toI_100, toI_144, toI_160, toI_200, toI_256, toI_320, toI_380, toI_576, toI_600, toI_1000, toI_1280, toI_2400, toI_9999, toI_10000, toI_100000, toI_1000000, toI_m1, toI_m100000, toI_s9, toI_s8] at ha hb h1 ⊢; omega) ?_
    refine Runs.brP (fun h3 => ?_) (fun h3 => ?_)
    · skip
      refine Runs.bl 1 (g := true) (i' := 21) (ls' := [some (.ref 2), some (.int a), some (.int b)]) (st' := [.int (0 : Int32)]) (M' := mk tl I L rd) rfl rfl ?_
      exact Runs.rz rfl rfl (by decide) (by rw [ahead, if_neg h1, if_pos h3] <;> rfl) (rfl)
    · skip
      refine Runs.bl 2 (g := true) (i' := 21) (ls' := [some (.ref 2), some (.int a), some (.int b)]) (st' := [.int (1 : Int32)]) (M' := mk tl I L rd) rfl rfl ?_
      exact Runs.rz rfl rfl (by decide) (by rw [ahead, if_neg h1, if_neg h3] <;> rfl) (rfl)

def termOf (I : Nat → Nat → Int32) (d : Int32) (w : Int32) : Int32 :=
  if w = (0 : Int32) then (I 17 d.toNatClampNeg) else
  if w = (1 : Int32) then (I 18 d.toNatClampNeg) else
  if w = (2 : Int32) then (I 19 d.toNatClampNeg) else
  if w = (3 : Int32) then (I 20 d.toNatClampNeg) else
  if w = (4 : Int32) then (I 21 d.toNatClampNeg) else
  if w = (5 : Int32) then (I 22 d.toNatClampNeg) else
  if w = (6 : Int32) then (I 23 d.toNatClampNeg) else
  if w = (7 : Int32) then (I 24 d.toNatClampNeg) else
  (-100 : Int32)

set_option maxRecDepth 20000 in
theorem c_termOf (tl : List (Nat × Nat)) (I : Nat → Nat → Int32) (L : Nat → Nat → Int64) (rd : Nat → Nat → Option Nat) (d : Int32) (w : Int32) (hd : 0 ≤ d.toInt ∧ d.toInt < 40) : Call 14 [.ref 16, .int d, .int w] (mk tl I L rd) (some (.int (termOf I d w))) (mk tl I L rd) := by
  show Runs 14 0 [some (.ref 16), some (.int d), some (.int w)] [] (mk tl I L rd) (some (.int (termOf I d w))) (mk tl I L rd)
  refine Runs.bl 2 (g := true) (i' := swT 42 0 7 [2, 7, 12, 17, 22, 27, 32, 37] w.toInt) (ls' := [some (.ref 16), some (.int d), some (.int w)]) (st' := []) (M' := mk tl I L rd) rfl rfl ?_
  by_cases h1 : w = (0 : Int32)
  · refine Runs.sw (c := 2) (by rw [h1]; decide) ?_
    refine Runs.bl 4 (g := inb d 40 && true) (i' := 6) (ls' := [some (.ref 16), some (.int d), some (.int w)]) (st' := [.int (I 17 d.toNatClampNeg)]) (M' := mk tl I L rd) rfl (by skip; simp only [Bool.and_true, Bool.true_and, Bool.and_eq_true, inb_iff, Int32.lt_iff_toInt_lt, Int32.le_iff_toInt_le, toI_0, toI_1, toI_2, toI_3, toI_4, toI_5, toI_6, toI_7, toI_8, toI_9, toI_10, toI_12, toI_16, toI_18, toI_20, toI_21, toI_23, toI_24, toI_32, toI_36, toI_39, toI_40, toI_48, toI_50, toI_60, toI_64, toI_75, toI_80, toI_100, toI_144, toI_160, toI_200, toI_256, toI_320, toI_380, toI_576, toI_600, toI_1000, toI_1280, toI_2400, toI_9999, toI_10000, toI_100000, toI_1000000, toI_m1, toI_m100000, toI_s9, toI_s8] at hd h1 ⊢; omega) ?_
    exact Runs.ri rfl rfl (by rw [termOf, if_pos h1] <;> rfl) (rfl)
  by_cases h2 : w = (1 : Int32)
  · refine Runs.sw (c := 7) (by rw [h2]; decide) ?_
    refine Runs.bl 4 (g := inb d 40 && true) (i' := 11) (ls' := [some (.ref 16), some (.int d), some (.int w)]) (st' := [.int (I 18 d.toNatClampNeg)]) (M' := mk tl I L rd) rfl (by skip; simp only [Bool.and_true, Bool.true_and, Bool.and_eq_true, inb_iff, Int32.lt_iff_toInt_lt, Int32.le_iff_toInt_le, toI_0, toI_1, toI_2, toI_3, toI_4, toI_5, toI_6, toI_7, toI_8, toI_9, toI_10, toI_12, toI_16, toI_18, toI_20, toI_21, toI_23, toI_24, toI_32, toI_36, toI_39, toI_40, toI_48, toI_50, toI_60, toI_64, toI_75, toI_80, toI_100, toI_144, toI_160, toI_200, toI_256, toI_320, toI_380, toI_576, toI_600, toI_1000, toI_1280, toI_2400, toI_9999, toI_10000, toI_100000, toI_1000000, toI_m1, toI_m100000, toI_s9, toI_s8] at hd h1 h2 ⊢; omega) ?_
    exact Runs.ri rfl rfl (by rw [termOf, if_neg h1, if_pos h2] <;> rfl) (rfl)
  by_cases h3 : w = (2 : Int32)
  · refine Runs.sw (c := 12) (by rw [h3]; decide) ?_
    refine Runs.bl 4 (g := inb d 40 && true) (i' := 16) (ls' := [some (.ref 16), some (.int d), some (.int w)]) (st' := [.int (I 19 d.toNatClampNeg)]) (M' := mk tl I L rd) rfl (by skip; simp only [Bool.and_true, Bool.true_and, Bool.and_eq_true, inb_iff, Int32.lt_iff_toInt_lt, Int32.le_iff_toInt_le, toI_0, toI_1, toI_2, toI_3, toI_4, toI_5, toI_6, toI_7, toI_8, toI_9, toI_10, toI_12, toI_16, toI_18, toI_20, toI_21, toI_23, toI_24, toI_32, toI_36, toI_39, toI_40, toI_48, toI_50, toI_60, toI_64, toI_75, toI_80, toI_100, toI_144, toI_160, toI_200, toI_256, toI_320, toI_380, toI_576, toI_600, toI_1000, toI_1280, toI_2400, toI_9999, toI_10000, toI_100000, toI_1000000, toI_m1, toI_m100000, toI_s9, toI_s8] at hd h1 h2 h3 ⊢; omega) ?_
    exact Runs.ri rfl rfl (by rw [termOf, if_neg h1, if_neg h2, if_pos h3] <;> rfl) (rfl)
  by_cases h4 : w = (3 : Int32)
  · refine Runs.sw (c := 17) (by rw [h4]; decide) ?_
    refine Runs.bl 4 (g := inb d 40 && true) (i' := 21) (ls' := [some (.ref 16), some (.int d), some (.int w)]) (st' := [.int (I 20 d.toNatClampNeg)]) (M' := mk tl I L rd) rfl (by skip; simp only [Bool.and_true, Bool.true_and, Bool.and_eq_true, inb_iff, Int32.lt_iff_toInt_lt, Int32.le_iff_toInt_le, toI_0, toI_1, toI_2, toI_3, toI_4, toI_5, toI_6, toI_7, toI_8, toI_9, toI_10, toI_12, toI_16, toI_18, toI_20, toI_21, toI_23, toI_24, toI_32, toI_36, toI_39, toI_40, toI_48, toI_50, toI_60, toI_64, toI_75, toI_80, toI_100, toI_144, toI_160, toI_200, toI_256, toI_320, toI_380, toI_576, toI_600, toI_1000, toI_1280, toI_2400, toI_9999, toI_10000, toI_100000, toI_1000000, toI_m1, toI_m100000, toI_s9, toI_s8] at hd h1 h2 h3 h4 ⊢; omega) ?_
    exact Runs.ri rfl rfl (by rw [termOf, if_neg h1, if_neg h2, if_neg h3, if_pos h4] <;> rfl) (rfl)
  by_cases h5 : w = (4 : Int32)
  · refine Runs.sw (c := 22) (by rw [h5]; decide) ?_
    refine Runs.bl 4 (g := inb d 40 && true) (i' := 26) (ls' := [some (.ref 16), some (.int d), some (.int w)]) (st' := [.int (I 21 d.toNatClampNeg)]) (M' := mk tl I L rd) rfl (by skip; simp only [Bool.and_true, Bool.true_and, Bool.and_eq_true, inb_iff, Int32.lt_iff_toInt_lt, Int32.le_iff_toInt_le, toI_0, toI_1, toI_2, toI_3, toI_4, toI_5, toI_6, toI_7, toI_8, toI_9, toI_10, toI_12, toI_16, toI_18, toI_20, toI_21, toI_23, toI_24, toI_32, toI_36, toI_39, toI_40, toI_48, toI_50, toI_60, toI_64, toI_75, toI_80, toI_100, toI_144, toI_160, toI_200, toI_256, toI_320, toI_380, toI_576, toI_600, toI_1000, toI_1280, toI_2400, toI_9999, toI_10000, toI_100000, toI_1000000, toI_m1, toI_m100000, toI_s9, toI_s8] at hd h1 h2 h3 h4 h5 ⊢; omega) ?_
    exact Runs.ri rfl rfl (by rw [termOf, if_neg h1, if_neg h2, if_neg h3, if_neg h4, if_pos h5] <;> rfl) (rfl)
  by_cases h6 : w = (5 : Int32)
  · refine Runs.sw (c := 27) (by rw [h6]; decide) ?_
    refine Runs.bl 4 (g := inb d 40 && true) (i' := 31) (ls' := [some (.ref 16), some (.int d), some (.int w)]) (st' := [.int (I 22 d.toNatClampNeg)]) (M' := mk tl I L rd) rfl (by skip; simp only [Bool.and_true, Bool.true_and, Bool.and_eq_true, inb_iff, Int32.lt_iff_toInt_lt, Int32.le_iff_toInt_le, toI_0, toI_1, toI_2, toI_3, toI_4, toI_5, toI_6, toI_7, toI_8, toI_9, toI_10, toI_12, toI_16, toI_18, toI_20, toI_21, toI_23, toI_24, toI_32, toI_36, toI_39, toI_40, toI_48, toI_50, toI_60, toI_64, toI_75, toI_80, toI_100, toI_144, toI_160, toI_200, toI_256, toI_320, toI_380, toI_576, toI_600, toI_1000, toI_1280, toI_2400, toI_9999, toI_10000, toI_100000, toI_1000000, toI_m1, toI_m100000, toI_s9, toI_s8] at hd h1 h2 h3 h4 h5 h6 ⊢; omega) ?_
    exact Runs.ri rfl rfl (by rw [termOf, if_neg h1, if_neg h2, if_neg h3, if_neg h4, if_neg h5, if_pos h6] <;> rfl) (rfl)
  by_cases h7 : w = (6 : Int32)
  · refine Runs.sw (c := 32) (by rw [h7]; decide) ?_
    refine Runs.bl 4 (g := inb d 40 && true) (i' := 36) (ls' := [some (.ref 16), some (.int d), some (.int w)]) (st' := [.int (I 23 d.toNatClampNeg)]) (M' := mk tl I L rd) rfl (by skip; simp only [Bool.and_true, Bool.true_and, Bool.and_eq_true, inb_iff, Int32.lt_iff_toInt_lt, Int32.le_iff_toInt_le, toI_0, toI_1, toI_2, toI_3, toI_4, toI_5, toI_6, toI_7, toI_8, toI_9, toI_10, toI_12, toI_16, toI_18, toI_20, toI_21, toI_23, toI_24, toI_32, toI_36, toI_39, toI_40, toI_48, toI_50, toI_60, toI_64, toI_75, toI_80, toI_100, toI_144, toI_160, toI_200, toI_256, toI_320, toI_380, toI_576, toI_600, toI_1000, toI_1280, toI_2400, toI_9999, toI_10000, toI_100000, toI_1000000, toI_m1, toI_m100000, toI_s9, toI_s8] at hd h1 h2 h3 h4 h5 h6 h7 ⊢; omega) ?_
    exact Runs.ri rfl rfl (by rw [termOf, if_neg h1, if_neg h2, if_neg h3, if_neg h4, if_neg h5, if_neg h6, if_pos h7] <;> rfl) (rfl)
  by_cases h8 : w = (7 : Int32)
  · refine Runs.sw (c := 37) (by rw [h8]; decide) ?_
    refine Runs.bl 4 (g := inb d 40 && true) (i' := 41) (ls' := [some (.ref 16), some (.int d), some (.int w)]) (st' := [.int (I 24 d.toNatClampNeg)]) (M' := mk tl I L rd) rfl (by skip; simp only [Bool.and_true, Bool.true_and, Bool.and_eq_true, inb_iff, Int32.lt_iff_toInt_lt, Int32.le_iff_toInt_le, toI_0, toI_1, toI_2, toI_3, toI_4, toI_5, toI_6, toI_7, toI_8, toI_9, toI_10, toI_12, toI_16, toI_18, toI_20, toI_21, toI_23, toI_24, toI_32, toI_36, toI_39, toI_40, toI_48, toI_50, toI_60, toI_64, toI_75, toI_80, toI_100, toI_144, toI_160, toI_200, toI_256, toI_320, toI_380, toI_576, toI_600, toI_1000, toI_1280, toI_2400, toI_9999, toI_10000, toI_100000, toI_1000000, toI_m1, toI_m100000, toI_s9, toI_s8] at hd h1 h2 h3 h4 h5 h6 h7 h8 ⊢; omega) ?_
    exact Runs.ri rfl rfl (by rw [termOf, if_neg h1, if_neg h2, if_neg h3, if_neg h4, if_neg h5, if_neg h6, if_neg h7, if_pos h8] <;> rfl) (rfl)
  refine Runs.sw (c := 42) (swT_out (by have z0 : ¬ w.toInt = 0 := fun e => h1 (Int32.toInt_inj.mp (by rw [e]; decide)); have z1 : ¬ w.toInt = 1 := fun e => h2 (Int32.toInt_inj.mp (by rw [e]; decide)); have z2 : ¬ w.toInt = 2 := fun e => h3 (Int32.toInt_inj.mp (by rw [e]; decide)); have z3 : ¬ w.toInt = 3 := fun e => h4 (Int32.toInt_inj.mp (by rw [e]; decide)); have z4 : ¬ w.toInt = 4 := fun e => h5 (Int32.toInt_inj.mp (by rw [e]; decide)); have z5 : ¬ w.toInt = 5 := fun e => h6 (Int32.toInt_inj.mp (by rw [e]; decide)); have z6 : ¬ w.toInt = 6 := fun e => h7 (Int32.toInt_inj.mp (by rw [e]; decide)); have z7 : ¬ w.toInt = 7 := fun e => h8 (Int32.toInt_inj.mp (by rw [e]; decide)); omega)) ?_
  refine Runs.bl 1 (g := true) (i' := 43) (ls' := [some (.ref 16), some (.int d), some (.int w)]) (st' := [.int (-100 : Int32)]) (M' := mk tl I L rd) rfl rfl ?_
  exact Runs.ri rfl rfl (by rw [termOf, if_neg h1, if_neg h2, if_neg h3, if_neg h4, if_neg h5, if_neg h6, if_neg h7, if_neg h8] <;> rfl) (rfl)

def dStand (I : Nat → Nat → Int32) (d : Int32) (w : Int32) (day : Int32) : Int32 :=
  if w = (8 : Int32) then (if (isLive I d) = 0 then (0 : Int32) else I 25 d.toNatClampNeg) else
  if w = (9 : Int32) then (if (isLive I d) = 0 then (0 : Int32) else
    intrOn I d day) else
  if w = (10 : Int32) then (if (isLive I d) = 0 then (0 : Int32) else I 28 d.toNatClampNeg) else
  if w = (11 : Int32) then (due I d day) else
  if w = (12 : Int32) then (I 29 d.toNatClampNeg) else
  if w = (13 : Int32) then (I 30 d.toNatClampNeg) else
  if w = (14 : Int32) then (I 31 d.toNatClampNeg) else
  (-100 : Int32)

set_option maxRecDepth 20000 in
theorem c_dStand (tl : List (Nat × Nat)) (I : Nat → Nat → Int32) (L : Nat → Nat → Int64) (rd : Nat → Nat → Option Nat) (d : Int32) (w : Int32) (day : Int32) (hd : 0 ≤ d.toInt ∧ d.toInt < 40) : Call 15 [.ref 16, .int d, .int w, .int day] (mk tl I L rd) (some (.int (dStand I d w day))) (mk tl I L rd) := by
  show Runs 15 0 [some (.ref 16), some (.int d), some (.int w), some (.int day), none] [] (mk tl I L rd) (some (.int (dStand I d w day))) (mk tl I L rd)
  refine Runs.bl 2 (g := true) (i' := 2) (ls' := [some (.ref 16), some (.int d), some (.int w), some (.int day), none]) (st' := [.int d, .ref 16]) (M' := mk tl I L rd) rfl rfl ?_
  refine Runs.call (k' := 7) (as := [.ref 16, .int d]) (rest := []) (r1 := some (.int (isLive I d))) (M1 := mk tl I L rd) rfl rfl rfl (c_isLive tl I L rd d ) ?_
  refine Runs.bl 3 (g := true) (i' := swT 53 8 14 [6, 15, 24, 33, 38, 43, 48] w.toInt) (ls' := [some (.ref 16), some (.int d), some (.int w), some (.int day), some (.int (isLive I d))]) (st' := []) (M' := mk tl I L rd) rfl rfl ?_
  by_cases h1 : w = (8 : Int32)
  · refine Runs.sw (c := 6) (by rw [h1]; decide) ?_
    refine Runs.bl 2 (g := true) (i' := if decide ((isLive I d) = 0) = true then 13 else 8) (ls' := [some (.ref 16), some (.int d), some (.int w), some (.int day), some (.int (isLive I d))]) (st' := []) (M' := mk tl I L rd) rfl rfl ?_
    refine Runs.dia (P := (isLive I d) = 0) (vT := (0 : Int32)) (vF := I 25 d.toNatClampNeg) (e := 14) (fun h2 K => ?_) (fun h2 K => ?_) ?_
    · exact Runs.bl 1 (g := true) (i' := 14) (ls' := [some (.ref 16), some (.int d), some (.int w), some (.int day), some (.int (isLive I d))]) (st' := [.int (0 : Int32)]) (M' := mk tl I L rd) rfl rfl K
    · exact Runs.bl 5 (g := inb d 40 && true) (i' := 14) (ls' := [some (.ref 16), some (.int d), some (.int w), some (.int day), some (.int (isLive I d))]) (st' := [.int (I 25 d.toNatClampNeg)]) (M' := mk tl I L rd) rfl (by have q1 := isLive_rng h2; simp only [Bool.and_true, Bool.true_and, Bool.and_eq_true, inb_iff, Int32.lt_iff_toInt_lt, Int32.le_iff_toInt_le, toI_0, toI_1, toI_2, toI_3, toI_4, toI_5, toI_6, toI_7, toI_8, toI_9, toI_10, toI_12, toI_16, toI_18, toI_20, toI_21, toI_23, toI_24, toI_32, toI_36, toI_39, toI_40, toI_48, toI_50, toI_60, toI_64, toI_75, toI_80, toI_100, toI_144, toI_160, toI_200, toI_256, toI_320, toI_380, toI_576, toI_600, toI_1000, toI_1280, toI_2400, toI_9999, toI_10000, toI_100000, toI_1000000, toI_m1, toI_m100000, toI_s9, toI_s8] at hd h1 q1 ⊢; omega) K
    exact Runs.ri rfl rfl (by rw [dStand, if_pos h1] <;> rfl) (rfl)
  by_cases h3 : w = (9 : Int32)
  · refine Runs.sw (c := 15) (by rw [h3]; decide) ?_
    refine Runs.bl 2 (g := true) (i' := if decide ((isLive I d) = 0) = true then 22 else 17) (ls' := [some (.ref 16), some (.int d), some (.int w), some (.int day), some (.int (isLive I d))]) (st' := []) (M' := mk tl I L rd) rfl rfl ?_
    refine Runs.brP (fun h4 => ?_) (fun h4 => ?_)
    · skip
      refine Runs.bl 1 (g := true) (i' := 23) (ls' := [some (.ref 16), some (.int d), some (.int w), some (.int day), some (.int (isLive I d))]) (st' := [.int (0 : Int32)]) (M' := mk tl I L rd) rfl rfl ?_
      exact Runs.ri rfl rfl (by rw [dStand, if_neg h1, if_pos h3, if_pos h4] <;> rfl) (rfl)
    · skip
      refine Runs.bl 3 (g := true) (i' := 20) (ls' := [some (.ref 16), some (.int d), some (.int w), some (.int day), some (.int (isLive I d))]) (st' := [.int day, .int d, .ref 16]) (M' := mk tl I L rd) rfl rfl ?_
      refine Runs.call (k' := 10) (as := [.ref 16, .int d, .int day]) (rest := []) (r1 := some (.int (intrOn I d day))) (M1 := mk tl I L rd) rfl rfl rfl (c_intrOn tl I L rd d day (by first | assumption | (have q1 := isLive_rng h4; (try simp only [Bool.and_true, Bool.true_and, Bool.and_eq_true, inb_iff, Int32.lt_iff_toInt_lt, Int32.le_iff_toInt_le, toI_0, toI_1, toI_2, toI_3, toI_4, toI_5, toI_6, toI_7, toI_8, toI_9, toI_10, toI_12, toI_16, toI_18, toI_20, toI_21, toI_23, toI_24, toI_32, toI_36, toI_39, toI_40, toI_48, toI_50, toI_60, toI_64, toI_75, toI_80, toI_100, toI_144, toI_160, toI_200, toI_256, toI_320, toI_380, toI_576, toI_600, toI_1000, toI_1280, toI_2400, toI_9999, toI_10000, toI_100000, toI_1000000, toI_m1, toI_m100000, toI_s9, toI_s8] at hd h1 h3 q1  ⊢); omega))) ?_
      refine Runs.bl 1 (g := true) (i' := 23) (ls' := [some (.ref 16), some (.int d), some (.int w), some (.int day), some (.int (isLive I d))]) (st' := [.int (intrOn I d day)]) (M' := mk tl I L rd) rfl rfl ?_
      exact Runs.ri rfl rfl (by rw [dStand, if_neg h1, if_pos h3, if_neg h4] <;> rfl) (rfl)
  by_cases h5 : w = (10 : Int32)
  · refine Runs.sw (c := 24) (by rw [h5]; decide) ?_
    refine Runs.bl 2 (g := true) (i' := if decide ((isLive I d) = 0) = true then 31 else 26) (ls' := [some (.ref 16), some (.int d), some (.int w), some (.int day), some (.int (isLive I d))]) (st' := []) (M' := mk tl I L rd) rfl rfl ?_
    refine Runs.dia (P := (isLive I d) = 0) (vT := (0 : Int32)) (vF := I 28 d.toNatClampNeg) (e := 32) (fun h6 K => ?_) (fun h6 K => ?_) ?_
    · exact Runs.bl 1 (g := true) (i' := 32) (ls' := [some (.ref 16), some (.int d), some (.int w), some (.int day), some (.int (isLive I d))]) (st' := [.int (0 : Int32)]) (M' := mk tl I L rd) rfl rfl K
    · exact Runs.bl 5 (g := inb d 40 && true) (i' := 32) (ls' := [some (.ref 16), some (.int d), some (.int w), some (.int day), some (.int (isLive I d))]) (st' := [.int (I 28 d.toNatClampNeg)]) (M' := mk tl I L rd) rfl (by have q1 := isLive_rng h6; simp only [Bool.and_true, Bool.true_and, Bool.and_eq_true, inb_iff, Int32.lt_iff_toInt_lt, Int32.le_iff_toInt_le, toI_0, toI_1, toI_2, toI_3, toI_4, toI_5, toI_6, toI_7, toI_8, toI_9, toI_10, toI_12, toI_16, toI_18, toI_20, toI_21, toI_23, toI_24, toI_32, toI_36, toI_39, toI_40, toI_48, toI_50, toI_60, toI_64, toI_75, toI_80, toI_100, toI_144, toI_160, toI_200, toI_256, toI_320, toI_380, toI_576, toI_600, toI_1000, toI_1280, toI_2400, toI_9999, toI_10000, toI_100000, toI_1000000, toI_m1, toI_m100000, toI_s9, toI_s8] at hd h1 h3 h5 q1 ⊢; omega) K
    exact Runs.ri rfl rfl (by rw [dStand, if_neg h1, if_neg h3, if_pos h5] <;> rfl) (rfl)
  by_cases h7 : w = (11 : Int32)
  · refine Runs.sw (c := 33) (by rw [h7]; decide) ?_
    refine Runs.bl 3 (g := true) (i' := 36) (ls' := [some (.ref 16), some (.int d), some (.int w), some (.int day), some (.int (isLive I d))]) (st' := [.int day, .int d, .ref 16]) (M' := mk tl I L rd) rfl rfl ?_
    refine Runs.call (k' := 11) (as := [.ref 16, .int d, .int day]) (rest := []) (r1 := some (.int (due I d day))) (M1 := mk tl I L rd) rfl rfl rfl (c_due tl I L rd d day ) ?_
    exact Runs.ri rfl rfl (by rw [dStand, if_neg h1, if_neg h3, if_neg h5, if_pos h7] <;> rfl) (rfl)
  by_cases h8 : w = (12 : Int32)
  · refine Runs.sw (c := 38) (by rw [h8]; decide) ?_
    refine Runs.bl 4 (g := inb d 40 && true) (i' := 42) (ls' := [some (.ref 16), some (.int d), some (.int w), some (.int day), some (.int (isLive I d))]) (st' := [.int (I 29 d.toNatClampNeg)]) (M' := mk tl I L rd) rfl (by skip; simp only [Bool.and_true, Bool.true_and, Bool.and_eq_true, inb_iff, Int32.lt_iff_toInt_lt, Int32.le_iff_toInt_le, toI_0, toI_1, toI_2, toI_3, toI_4, toI_5, toI_6, toI_7, toI_8, toI_9, toI_10, toI_12, toI_16, toI_18, toI_20, toI_21, toI_23, toI_24, toI_32, toI_36, toI_39, toI_40, toI_48, toI_50, toI_60, toI_64, toI_75, toI_80, toI_100, toI_144, toI_160, toI_200, toI_256, toI_320, toI_380, toI_576, toI_600, toI_1000, toI_1280, toI_2400, toI_9999, toI_10000, toI_100000, toI_1000000, toI_m1, toI_m100000, toI_s9, toI_s8] at hd h1 h3 h5 h7 h8 ⊢; omega) ?_
    exact Runs.ri rfl rfl (by rw [dStand, if_neg h1, if_neg h3, if_neg h5, if_neg h7, if_pos h8] <;> rfl) (rfl)
  by_cases h9 : w = (13 : Int32)
  · refine Runs.sw (c := 43) (by rw [h9]; decide) ?_
    refine Runs.bl 4 (g := inb d 40 && true) (i' := 47) (ls' := [some (.ref 16), some (.int d), some (.int w), some (.int day), some (.int (isLive I d))]) (st' := [.int (I 30 d.toNatClampNeg)]) (M' := mk tl I L rd) rfl (by skip; simp only [Bool.and_true, Bool.true_and, Bool.and_eq_true, inb_iff, Int32.lt_iff_toInt_lt, Int32.le_iff_toInt_le, toI_0, toI_1, toI_2, toI_3, toI_4, toI_5, toI_6, toI_7, toI_8, toI_9, toI_10, toI_12, toI_16, toI_18, toI_20, toI_21, toI_23, toI_24, toI_32, toI_36, toI_39, toI_40, toI_48, toI_50, toI_60, toI_64, toI_75, toI_80, toI_100, toI_144, toI_160, toI_200, toI_256, toI_320, toI_380, toI_576, toI_600, toI_1000, toI_1280, toI_2400, toI_9999, toI_10000, toI_100000, toI_1000000, toI_m1, toI_m100000, toI_s9, toI_s8] at hd h1 h3 h5 h7 h8 h9 ⊢; omega) ?_
    exact Runs.ri rfl rfl (by rw [dStand, if_neg h1, if_neg h3, if_neg h5, if_neg h7, if_neg h8, if_pos h9] <;> rfl) (rfl)
  by_cases h10 : w = (14 : Int32)
  · refine Runs.sw (c := 48) (by rw [h10]; decide) ?_
    refine Runs.bl 4 (g := inb d 40 && true) (i' := 52) (ls' := [some (.ref 16), some (.int d), some (.int w), some (.int day), some (.int (isLive I d))]) (st' := [.int (I 31 d.toNatClampNeg)]) (M' := mk tl I L rd) rfl (by skip; simp only [Bool.and_true, Bool.true_and, Bool.and_eq_true, inb_iff, Int32.lt_iff_toInt_lt, Int32.le_iff_toInt_le, toI_0, toI_1, toI_2, toI_3, toI_4, toI_5, toI_6, toI_7, toI_8, toI_9, toI_10, toI_12, toI_16, toI_18, toI_20, toI_21, toI_23, toI_24, toI_32, toI_36, toI_39, toI_40, toI_48, toI_50, toI_60, toI_64, toI_75, toI_80, toI_100, toI_144, toI_160, toI_200, toI_256, toI_320, toI_380, toI_576, toI_600, toI_1000, toI_1280, toI_2400, toI_9999, toI_10000, toI_100000, toI_1000000, toI_m1, toI_m100000, toI_s9, toI_s8] at hd h1 h3 h5 h7 h8 h9 h10 ⊢; omega) ?_
    exact Runs.ri rfl rfl (by rw [dStand, if_neg h1, if_neg h3, if_neg h5, if_neg h7, if_neg h8, if_neg h9, if_pos h10] <;> rfl) (rfl)
  refine Runs.sw (c := 53) (swT_out (by have z0 : ¬ w.toInt = 8 := fun e => h1 (Int32.toInt_inj.mp (by rw [e]; decide)); have z1 : ¬ w.toInt = 9 := fun e => h3 (Int32.toInt_inj.mp (by rw [e]; decide)); have z2 : ¬ w.toInt = 10 := fun e => h5 (Int32.toInt_inj.mp (by rw [e]; decide)); have z3 : ¬ w.toInt = 11 := fun e => h7 (Int32.toInt_inj.mp (by rw [e]; decide)); have z4 : ¬ w.toInt = 12 := fun e => h8 (Int32.toInt_inj.mp (by rw [e]; decide)); have z5 : ¬ w.toInt = 13 := fun e => h9 (Int32.toInt_inj.mp (by rw [e]; decide)); have z6 : ¬ w.toInt = 14 := fun e => h10 (Int32.toInt_inj.mp (by rw [e]; decide)); omega)) ?_
  refine Runs.bl 1 (g := true) (i' := 54) (ls' := [some (.ref 16), some (.int d), some (.int w), some (.int day), some (.int (isLive I d))]) (st' := [.int (-100 : Int32)]) (M' := mk tl I L rd) rfl rfl ?_
  exact Runs.ri rfl rfl (by rw [dStand, if_neg h1, if_neg h3, if_neg h5, if_neg h7, if_neg h8, if_neg h9, if_neg h10] <;> rfl) (rfl)

def pStand (I : Nat → Nat → Int32) (p : Int32) (w : Int32) : Int32 :=
  if w = (0 : Int32) then (I 3 p.toNatClampNeg) else
  if w = (1 : Int32) then (I 4 p.toNatClampNeg) else
  if w = (2 : Int32) then (if (isHeld I p) = 0 then (0 : Int32) else
    (1 : Int32)) else
  if w = (3 : Int32) then (I 5 p.toNatClampNeg) else
  if w = (4 : Int32) then (if (isHeld I p) = 0 then (-1 : Int32) else I 6 p.toNatClampNeg) else
  if w = (5 : Int32) then (I 7 p.toNatClampNeg) else
  if w = (6 : Int32) then (I 8 p.toNatClampNeg) else
  if w = (7 : Int32) then (I 9 p.toNatClampNeg) else
  if w = (8 : Int32) then (I 10 p.toNatClampNeg) else
  if w = (9 : Int32) then (I 11 p.toNatClampNeg) else
  if w = (10 : Int32) then (I 12 p.toNatClampNeg) else
  if w = (11 : Int32) then (-100 : Int32) else
  if w = (12 : Int32) then (-100 : Int32) else
  if w = (13 : Int32) then (I 13 p.toNatClampNeg) else
  if w = (14 : Int32) then (I 15 p.toNatClampNeg) else
  (-100 : Int32)

set_option maxRecDepth 20000 in
theorem c_pStand (tl : List (Nat × Nat)) (I : Nat → Nat → Int32) (L : Nat → Nat → Int64) (rd : Nat → Nat → Option Nat) (p : Int32) (w : Int32) (hp : 0 ≤ p.toInt ∧ p.toInt < 12) : Call 62 [.ref 2, .int p, .int w] (mk tl I L rd) (some (.int (pStand I p w))) (mk tl I L rd) := by
  show Runs 62 0 [some (.ref 2), some (.int p), some (.int w)] [] (mk tl I L rd) (some (.int (pStand I p w))) (mk tl I L rd)
  refine Runs.bl 2 (g := true) (i' := swT 76 0 14 [2, 7, 12, 20, 25, 36, 41, 46, 51, 56, 61, 76, 76, 66, 71] w.toInt) (ls' := [some (.ref 2), some (.int p), some (.int w)]) (st' := []) (M' := mk tl I L rd) rfl rfl ?_
  by_cases h1 : w = (0 : Int32)
  · refine Runs.sw (c := 2) (by rw [h1]; decide) ?_
    refine Runs.bl 4 (g := inb p 12 && true) (i' := 6) (ls' := [some (.ref 2), some (.int p), some (.int w)]) (st' := [.int (I 3 p.toNatClampNeg)]) (M' := mk tl I L rd) rfl (by skip; simp only [Bool.and_true, Bool.true_and, Bool.and_eq_true, inb_iff, Int32.lt_iff_toInt_lt, Int32.le_iff_toInt_le, toI_0, toI_1, toI_2, toI_3, toI_4, toI_5, toI_6, toI_7, toI_8, toI_9, toI_10, toI_12, toI_16, toI_18, toI_20, toI_21, toI_23, toI_24, toI_32, toI_36, toI_39, toI_40, toI_48, toI_50, toI_60, toI_64, toI_75, toI_80, toI_100, toI_144, toI_160, toI_200, toI_256, toI_320, toI_380, toI_576, toI_600, toI_1000, toI_1280, toI_2400, toI_9999, toI_10000, toI_100000, toI_1000000, toI_m1, toI_m100000, toI_s9, toI_s8] at hp h1 ⊢; omega) ?_
    exact Runs.ri rfl rfl (by rw [pStand, if_pos h1] <;> rfl) (rfl)
  by_cases h2 : w = (1 : Int32)
  · refine Runs.sw (c := 7) (by rw [h2]; decide) ?_
    refine Runs.bl 4 (g := inb p 12 && true) (i' := 11) (ls' := [some (.ref 2), some (.int p), some (.int w)]) (st' := [.int (I 4 p.toNatClampNeg)]) (M' := mk tl I L rd) rfl (by skip; simp only [Bool.and_true, Bool.true_and, Bool.and_eq_true, inb_iff, Int32.lt_iff_toInt_lt, Int32.le_iff_toInt_le, toI_0, toI_1, toI_2, toI_3, toI_4, toI_5, toI_6, toI_7, toI_8, toI_9, toI_10, toI_12, toI_16, toI_18, toI_20, toI_21, toI_23, toI_24, toI_32, toI_36, toI_39, toI_40, toI_48, toI_50, toI_60, toI_64, toI_75, toI_80, toI_100, toI_144, toI_160, toI_200, toI_256, toI_320, toI_380, toI_576, toI_600, toI_1000, toI_1280, toI_2400, toI_9999, toI_10000, toI_100000, toI_1000000, toI_m1, toI_m100000, toI_s9, toI_s8] at hp h1 h2 ⊢; omega) ?_
    exact Runs.ri rfl rfl (by rw [pStand, if_neg h1, if_pos h2] <;> rfl) (rfl)
  by_cases h3 : w = (2 : Int32)
  · refine Runs.sw (c := 12) (by rw [h3]; decide) ?_
    refine Runs.bl 2 (g := true) (i' := 14) (ls' := [some (.ref 2), some (.int p), some (.int w)]) (st' := [.int p, .ref 2]) (M' := mk tl I L rd) rfl rfl ?_
    refine Runs.call (k' := 56) (as := [.ref 2, .int p]) (rest := []) (r1 := some (.int (isHeld I p))) (M1 := mk tl I L rd) rfl rfl rfl (c_isHeld tl I L rd p ) ?_
    refine Runs.bl 1 (g := true) (i' := if decide ((isHeld I p) = 0) = true then 18 else 16) (ls' := [some (.ref 2), some (.int p), some (.int w)]) (st' := []) (M' := mk tl I L rd) rfl rfl ?_
    refine Runs.brP (fun h4 => ?_) (fun h4 => ?_)
    · skip
      refine Runs.bl 1 (g := true) (i' := 19) (ls' := [some (.ref 2), some (.int p), some (.int w)]) (st' := [.int (0 : Int32)]) (M' := mk tl I L rd) rfl rfl ?_
      exact Runs.ri rfl rfl (by rw [pStand, if_neg h1, if_neg h2, if_pos h3, if_pos h4] <;> rfl) (rfl)
    · skip
      refine Runs.bl 2 (g := true) (i' := 19) (ls' := [some (.ref 2), some (.int p), some (.int w)]) (st' := [.int (1 : Int32)]) (M' := mk tl I L rd) rfl rfl ?_
      exact Runs.ri rfl rfl (by rw [pStand, if_neg h1, if_neg h2, if_pos h3, if_neg h4] <;> rfl) (rfl)
  by_cases h5 : w = (3 : Int32)
  · refine Runs.sw (c := 20) (by rw [h5]; decide) ?_
    refine Runs.bl 4 (g := inb p 12 && true) (i' := 24) (ls' := [some (.ref 2), some (.int p), some (.int w)]) (st' := [.int (I 5 p.toNatClampNeg)]) (M' := mk tl I L rd) rfl (by skip; simp only [Bool.and_true, Bool.true_and, Bool.and_eq_true, inb_iff, Int32.lt_iff_toInt_lt, Int32.le_iff_toInt_le, toI_0, toI_1, toI_2, toI_3, toI_4, toI_5, toI_6, toI_7, toI_8, toI_9, toI_10, toI_12, toI_16, toI_18, toI_20, toI_21, toI_23, toI_24, toI_32, toI_36, toI_39, toI_40, toI_48, toI_50, toI_60, toI_64, toI_75, toI_80, toI_100, toI_144, toI_160, toI_200, toI_256, toI_320, toI_380, toI_576, toI_600, toI_1000, toI_1280, toI_2400, toI_9999, toI_10000, toI_100000, toI_1000000, toI_m1, toI_m100000, toI_s9, toI_s8] at hp h1 h2 h3 h5 ⊢; omega) ?_
    exact Runs.ri rfl rfl (by rw [pStand, if_neg h1, if_neg h2, if_neg h3, if_pos h5] <;> rfl) (rfl)
  by_cases h6 : w = (4 : Int32)
  · refine Runs.sw (c := 25) (by rw [h6]; decide) ?_
    refine Runs.bl 2 (g := true) (i' := 27) (ls' := [some (.ref 2), some (.int p), some (.int w)]) (st' := [.int p, .ref 2]) (M' := mk tl I L rd) rfl rfl ?_
    refine Runs.call (k' := 56) (as := [.ref 2, .int p]) (rest := []) (r1 := some (.int (isHeld I p))) (M1 := mk tl I L rd) rfl rfl rfl (c_isHeld tl I L rd p ) ?_
    refine Runs.bl 1 (g := true) (i' := if decide ((isHeld I p) = 0) = true then 34 else 29) (ls' := [some (.ref 2), some (.int p), some (.int w)]) (st' := []) (M' := mk tl I L rd) rfl rfl ?_
    refine Runs.dia (P := (isHeld I p) = 0) (vT := (-1 : Int32)) (vF := I 6 p.toNatClampNeg) (e := 35) (fun h7 K => ?_) (fun h7 K => ?_) ?_
    · exact Runs.bl 1 (g := true) (i' := 35) (ls' := [some (.ref 2), some (.int p), some (.int w)]) (st' := [.int (-1 : Int32)]) (M' := mk tl I L rd) rfl rfl K
    · exact Runs.bl 5 (g := inb p 12 && true) (i' := 35) (ls' := [some (.ref 2), some (.int p), some (.int w)]) (st' := [.int (I 6 p.toNatClampNeg)]) (M' := mk tl I L rd) rfl (by have q1 := isHeld_rng h7; simp only [Bool.and_true, Bool.true_and, Bool.and_eq_true, inb_iff, Int32.lt_iff_toInt_lt, Int32.le_iff_toInt_le, toI_0, toI_1, toI_2, toI_3, toI_4, toI_5, toI_6, toI_7, toI_8, toI_9, toI_10, toI_12, toI_16, toI_18, toI_20, toI_21, toI_23, toI_24, toI_32, toI_36, toI_39, toI_40, toI_48, toI_50, toI_60, toI_64, toI_75, toI_80, toI_100, toI_144, toI_160, toI_200, toI_256, toI_320, toI_380, toI_576, toI_600, toI_1000, toI_1280, toI_2400, toI_9999, toI_10000, toI_100000, toI_1000000, toI_m1, toI_m100000, toI_s9, toI_s8] at hp h1 h2 h3 h5 h6 q1 ⊢; omega) K
    exact Runs.ri rfl rfl (by rw [pStand, if_neg h1, if_neg h2, if_neg h3, if_neg h5, if_pos h6] <;> rfl) (rfl)
  by_cases h8 : w = (5 : Int32)
  · refine Runs.sw (c := 36) (by rw [h8]; decide) ?_
    refine Runs.bl 4 (g := inb p 12 && true) (i' := 40) (ls' := [some (.ref 2), some (.int p), some (.int w)]) (st' := [.int (I 7 p.toNatClampNeg)]) (M' := mk tl I L rd) rfl (by skip; simp only [Bool.and_true, Bool.true_and, Bool.and_eq_true, inb_iff, Int32.lt_iff_toInt_lt, Int32.le_iff_toInt_le, toI_0, toI_1, toI_2, toI_3, toI_4, toI_5, toI_6, toI_7, toI_8, toI_9, toI_10, toI_12, toI_16, toI_18, toI_20, toI_21, toI_23, toI_24, toI_32, toI_36, toI_39, toI_40, toI_48, toI_50, toI_60, toI_64, toI_75, toI_80, toI_100, toI_144, toI_160, toI_200, toI_256, toI_320, toI_380, toI_576, toI_600, toI_1000, toI_1280, toI_2400, toI_9999, toI_10000, toI_100000, toI_1000000, toI_m1, toI_m100000, toI_s9, toI_s8] at hp h1 h2 h3 h5 h6 h8 ⊢; omega) ?_
    exact Runs.ri rfl rfl (by rw [pStand, if_neg h1, if_neg h2, if_neg h3, if_neg h5, if_neg h6, if_pos h8] <;> rfl) (rfl)
  by_cases h9 : w = (6 : Int32)
  · refine Runs.sw (c := 41) (by rw [h9]; decide) ?_
    refine Runs.bl 4 (g := inb p 12 && true) (i' := 45) (ls' := [some (.ref 2), some (.int p), some (.int w)]) (st' := [.int (I 8 p.toNatClampNeg)]) (M' := mk tl I L rd) rfl (by skip; simp only [Bool.and_true, Bool.true_and, Bool.and_eq_true, inb_iff, Int32.lt_iff_toInt_lt, Int32.le_iff_toInt_le, toI_0, toI_1, toI_2, toI_3, toI_4, toI_5, toI_6, toI_7, toI_8, toI_9, toI_10, toI_12, toI_16, toI_18, toI_20, toI_21, toI_23, toI_24, toI_32, toI_36, toI_39, toI_40, toI_48, toI_50, toI_60, toI_64, toI_75, toI_80, toI_100, toI_144, toI_160, toI_200, toI_256, toI_320, toI_380, toI_576, toI_600, toI_1000, toI_1280, toI_2400, toI_9999, toI_10000, toI_100000, toI_1000000, toI_m1, toI_m100000, toI_s9, toI_s8] at hp h1 h2 h3 h5 h6 h8 h9 ⊢; omega) ?_
    exact Runs.ri rfl rfl (by rw [pStand, if_neg h1, if_neg h2, if_neg h3, if_neg h5, if_neg h6, if_neg h8, if_pos h9] <;> rfl) (rfl)
  by_cases h10 : w = (7 : Int32)
  · refine Runs.sw (c := 46) (by rw [h10]; decide) ?_
    refine Runs.bl 4 (g := inb p 12 && true) (i' := 50) (ls' := [some (.ref 2), some (.int p), some (.int w)]) (st' := [.int (I 9 p.toNatClampNeg)]) (M' := mk tl I L rd) rfl (by skip; simp only [Bool.and_true, Bool.true_and, Bool.and_eq_true, inb_iff, Int32.lt_iff_toInt_lt, Int32.le_iff_toInt_le, toI_0, toI_1, toI_2, toI_3, toI_4, toI_5, toI_6, toI_7, toI_8, toI_9, toI_10, toI_12, toI_16, toI_18, toI_20, toI_21, toI_23, toI_24, toI_32, toI_36, toI_39, toI_40, toI_48, toI_50, toI_60, toI_64, toI_75, toI_80, toI_100, toI_144, toI_160, toI_200, toI_256, toI_320, toI_380, toI_576, toI_600, toI_1000, toI_1280, toI_2400, toI_9999, toI_10000, toI_100000, toI_1000000, toI_m1, toI_m100000, toI_s9, toI_s8] at hp h1 h2 h3 h5 h6 h8 h9 h10 ⊢; omega) ?_
    exact Runs.ri rfl rfl (by rw [pStand, if_neg h1, if_neg h2, if_neg h3, if_neg h5, if_neg h6, if_neg h8, if_neg h9, if_pos h10] <;> rfl) (rfl)
  by_cases h11 : w = (8 : Int32)
  · refine Runs.sw (c := 51) (by rw [h11]; decide) ?_
    refine Runs.bl 4 (g := inb p 12 && true) (i' := 55) (ls' := [some (.ref 2), some (.int p), some (.int w)]) (st' := [.int (I 10 p.toNatClampNeg)]) (M' := mk tl I L rd) rfl (by skip; simp only [Bool.and_true, Bool.true_and, Bool.and_eq_true, inb_iff, Int32.lt_iff_toInt_lt, Int32.le_iff_toInt_le, toI_0, toI_1, toI_2, toI_3, toI_4, toI_5, toI_6, toI_7, toI_8, toI_9, toI_10, toI_12, toI_16, toI_18, toI_20, toI_21, toI_23, toI_24, toI_32, toI_36, toI_39, toI_40, toI_48, toI_50, toI_60, toI_64, toI_75, toI_80, toI_100, toI_144, toI_160, toI_200, toI_256, toI_320, toI_380, toI_576, toI_600, toI_1000, toI_1280, toI_2400, toI_9999, toI_10000, toI_100000, toI_1000000, toI_m1, toI_m100000, toI_s9, toI_s8] at hp h1 h2 h3 h5 h6 h8 h9 h10 h11 ⊢; omega) ?_
    exact Runs.ri rfl rfl (by rw [pStand, if_neg h1, if_neg h2, if_neg h3, if_neg h5, if_neg h6, if_neg h8, if_neg h9, if_neg h10, if_pos h11] <;> rfl) (rfl)
  by_cases h12 : w = (9 : Int32)
  · refine Runs.sw (c := 56) (by rw [h12]; decide) ?_
    refine Runs.bl 4 (g := inb p 12 && true) (i' := 60) (ls' := [some (.ref 2), some (.int p), some (.int w)]) (st' := [.int (I 11 p.toNatClampNeg)]) (M' := mk tl I L rd) rfl (by skip; simp only [Bool.and_true, Bool.true_and, Bool.and_eq_true, inb_iff, Int32.lt_iff_toInt_lt, Int32.le_iff_toInt_le, toI_0, toI_1, toI_2, toI_3, toI_4, toI_5, toI_6, toI_7, toI_8, toI_9, toI_10, toI_12, toI_16, toI_18, toI_20, toI_21, toI_23, toI_24, toI_32, toI_36, toI_39, toI_40, toI_48, toI_50, toI_60, toI_64, toI_75, toI_80, toI_100, toI_144, toI_160, toI_200, toI_256, toI_320, toI_380, toI_576, toI_600, toI_1000, toI_1280, toI_2400, toI_9999, toI_10000, toI_100000, toI_1000000, toI_m1, toI_m100000, toI_s9, toI_s8] at hp h1 h2 h3 h5 h6 h8 h9 h10 h11 h12 ⊢; omega) ?_
    exact Runs.ri rfl rfl (by rw [pStand, if_neg h1, if_neg h2, if_neg h3, if_neg h5, if_neg h6, if_neg h8, if_neg h9, if_neg h10, if_neg h11, if_pos h12] <;> rfl) (rfl)
  by_cases h13 : w = (10 : Int32)
  · refine Runs.sw (c := 61) (by rw [h13]; decide) ?_
    refine Runs.bl 4 (g := inb p 12 && true) (i' := 65) (ls' := [some (.ref 2), some (.int p), some (.int w)]) (st' := [.int (I 12 p.toNatClampNeg)]) (M' := mk tl I L rd) rfl (by skip; simp only [Bool.and_true, Bool.true_and, Bool.and_eq_true, inb_iff, Int32.lt_iff_toInt_lt, Int32.le_iff_toInt_le, toI_0, toI_1, toI_2, toI_3, toI_4, toI_5, toI_6, toI_7, toI_8, toI_9, toI_10, toI_12, toI_16, toI_18, toI_20, toI_21, toI_23, toI_24, toI_32, toI_36, toI_39, toI_40, toI_48, toI_50, toI_60, toI_64, toI_75, toI_80, toI_100, toI_144, toI_160, toI_200, toI_256, toI_320, toI_380, toI_576, toI_600, toI_1000, toI_1280, toI_2400, toI_9999, toI_10000, toI_100000, toI_1000000, toI_m1, toI_m100000, toI_s9, toI_s8] at hp h1 h2 h3 h5 h6 h8 h9 h10 h11 h12 h13 ⊢; omega) ?_
    exact Runs.ri rfl rfl (by rw [pStand, if_neg h1, if_neg h2, if_neg h3, if_neg h5, if_neg h6, if_neg h8, if_neg h9, if_neg h10, if_neg h11, if_neg h12, if_pos h13] <;> rfl) (rfl)
  by_cases h14 : w = (11 : Int32)
  · refine Runs.sw (c := 76) (by rw [h14]; decide) ?_
    refine Runs.bl 1 (g := true) (i' := 77) (ls' := [some (.ref 2), some (.int p), some (.int w)]) (st' := [.int (-100 : Int32)]) (M' := mk tl I L rd) rfl rfl ?_
    exact Runs.ri rfl rfl (by rw [pStand, if_neg h1, if_neg h2, if_neg h3, if_neg h5, if_neg h6, if_neg h8, if_neg h9, if_neg h10, if_neg h11, if_neg h12, if_neg h13, if_pos h14] <;> rfl) (rfl)
  by_cases h15 : w = (12 : Int32)
  · refine Runs.sw (c := 76) (by rw [h15]; decide) ?_
    refine Runs.bl 1 (g := true) (i' := 77) (ls' := [some (.ref 2), some (.int p), some (.int w)]) (st' := [.int (-100 : Int32)]) (M' := mk tl I L rd) rfl rfl ?_
    exact Runs.ri rfl rfl (by rw [pStand, if_neg h1, if_neg h2, if_neg h3, if_neg h5, if_neg h6, if_neg h8, if_neg h9, if_neg h10, if_neg h11, if_neg h12, if_neg h13, if_neg h14, if_pos h15] <;> rfl) (rfl)
  by_cases h16 : w = (13 : Int32)
  · refine Runs.sw (c := 66) (by rw [h16]; decide) ?_
    refine Runs.bl 4 (g := inb p 12 && true) (i' := 70) (ls' := [some (.ref 2), some (.int p), some (.int w)]) (st' := [.int (I 13 p.toNatClampNeg)]) (M' := mk tl I L rd) rfl (by skip; simp only [Bool.and_true, Bool.true_and, Bool.and_eq_true, inb_iff, Int32.lt_iff_toInt_lt, Int32.le_iff_toInt_le, toI_0, toI_1, toI_2, toI_3, toI_4, toI_5, toI_6, toI_7, toI_8, toI_9, toI_10, toI_12, toI_16, toI_18, toI_20, toI_21, toI_23, toI_24, toI_32, toI_36, toI_39, toI_40, toI_48, toI_50, toI_60, toI_64, toI_75, toI_80, toI_100, toI_144, toI_160, toI_200, toI_256, toI_320, toI_380, toI_576, toI_600, toI_1000, toI_1280, toI_2400, toI_9999, toI_10000, toI_100000, toI_1000000, toI_m1, toI_m100000, toI_s9, toI_s8] at hp h1 h2 h3 h5 h6 h8 h9 h10 h11 h12 h13 h14 h15 h16 ⊢; omega) ?_
    exact Runs.ri rfl rfl (by rw [pStand, if_neg h1, if_neg h2, if_neg h3, if_neg h5, if_neg h6, if_neg h8, if_neg h9, if_neg h10, if_neg h11, if_neg h12, if_neg h13, if_neg h14, if_neg h15, if_pos h16] <;> rfl) (rfl)
  by_cases h17 : w = (14 : Int32)
  · refine Runs.sw (c := 71) (by rw [h17]; decide) ?_
    refine Runs.bl 4 (g := inb p 12 && true) (i' := 75) (ls' := [some (.ref 2), some (.int p), some (.int w)]) (st' := [.int (I 15 p.toNatClampNeg)]) (M' := mk tl I L rd) rfl (by skip; simp only [Bool.and_true, Bool.true_and, Bool.and_eq_true, inb_iff, Int32.lt_iff_toInt_lt, Int32.le_iff_toInt_le, toI_0, toI_1, toI_2, toI_3, toI_4, toI_5, toI_6, toI_7, toI_8, toI_9, toI_10, toI_12, toI_16, toI_18, toI_20, toI_21, toI_23, toI_24, toI_32, toI_36, toI_39, toI_40, toI_48, toI_50, toI_60, toI_64, toI_75, toI_80, toI_100, toI_144, toI_160, toI_200, toI_256, toI_320, toI_380, toI_576, toI_600, toI_1000, toI_1280, toI_2400, toI_9999, toI_10000, toI_100000, toI_1000000, toI_m1, toI_m100000, toI_s9, toI_s8] at hp h1 h2 h3 h5 h6 h8 h9 h10 h11 h12 h13 h14 h15 h16 h17 ⊢; omega) ?_
    exact Runs.ri rfl rfl (by rw [pStand, if_neg h1, if_neg h2, if_neg h3, if_neg h5, if_neg h6, if_neg h8, if_neg h9, if_neg h10, if_neg h11, if_neg h12, if_neg h13, if_neg h14, if_neg h15, if_neg h16, if_pos h17] <;> rfl) (rfl)
  refine Runs.sw (c := 76) (swT_out (by have z0 : ¬ w.toInt = 0 := fun e => h1 (Int32.toInt_inj.mp (by rw [e]; decide)); have z1 : ¬ w.toInt = 1 := fun e => h2 (Int32.toInt_inj.mp (by rw [e]; decide)); have z2 : ¬ w.toInt = 2 := fun e => h3 (Int32.toInt_inj.mp (by rw [e]; decide)); have z3 : ¬ w.toInt = 3 := fun e => h5 (Int32.toInt_inj.mp (by rw [e]; decide)); have z4 : ¬ w.toInt = 4 := fun e => h6 (Int32.toInt_inj.mp (by rw [e]; decide)); have z5 : ¬ w.toInt = 5 := fun e => h8 (Int32.toInt_inj.mp (by rw [e]; decide)); have z6 : ¬ w.toInt = 6 := fun e => h9 (Int32.toInt_inj.mp (by rw [e]; decide)); have z7 : ¬ w.toInt = 7 := fun e => h10 (Int32.toInt_inj.mp (by rw [e]; decide)); have z8 : ¬ w.toInt = 8 := fun e => h11 (Int32.toInt_inj.mp (by rw [e]; decide)); have z9 : ¬ w.toInt = 9 := fun e => h12 (Int32.toInt_inj.mp (by rw [e]; decide)); have z10 : ¬ w.toInt = 10 := fun e => h13 (Int32.toInt_inj.mp (by rw [e]; decide)); have z11 : ¬ w.toInt = 11 := fun e => h14 (Int32.toInt_inj.mp (by rw [e]; decide)); have z12 : ¬ w.toInt = 12 := fun e => h15 (Int32.toInt_inj.mp (by rw [e]; decide)); have z13 : ¬ w.toInt = 13 := fun e => h16 (Int32.toInt_inj.mp (by rw [e]; decide)); have z14 : ¬ w.toInt = 14 := fun e => h17 (Int32.toInt_inj.mp (by rw [e]; decide)); omega)) ?_
  refine Runs.bl 1 (g := true) (i' := 77) (ls' := [some (.ref 2), some (.int p), some (.int w)]) (st' := [.int (-100 : Int32)]) (M' := mk tl I L rd) rfl rfl ?_
  exact Runs.ri rfl rfl (by rw [pStand, if_neg h1, if_neg h2, if_neg h3, if_neg h5, if_neg h6, if_neg h8, if_neg h9, if_neg h10, if_neg h11, if_neg h12, if_neg h13, if_neg h14, if_neg h15, if_neg h16, if_neg h17] <;> rfl) (rfl)

def stepsBack (I : Nat → Nat → Int32) (x : Int32) (y : Int32) : Int32 :=
  I 43 ((((I 18 x.toNatClampNeg) * (12 : Int32)) + (I 17 y.toNatClampNeg)).toNatClampNeg)

set_option maxRecDepth 20000 in
theorem c_stepsBack (tl : List (Nat × Nat)) (I : Nat → Nat → Int32) (L : Nat → Nat → Int64) (rd : Nat → Nat → Option Nat) (x : Int32) (y : Int32) (hx : 0 ≤ x.toInt ∧ x.toInt < 40) (hy : 0 ≤ y.toInt ∧ y.toInt < 40) (hn : inb (I 18 x.toNatClampNeg * 12 + I 17 y.toNatClampNeg) 144 = true) : Call 87 [.ref 42, .ref 16, .int x, .int y] (mk tl I L rd) (some (.int (stepsBack I x y))) (mk tl I L rd) := by
  show Runs 87 0 [some (.ref 42), some (.ref 16), some (.int x), some (.int y)] [] (mk tl I L rd) (some (.int (stepsBack I x y))) (mk tl I L rd)
  refine Runs.bl 14 (g := inb x 40 && (inb y 40 && (inb (((I 18 x.toNatClampNeg) * (12 : Int32)) + (I 17 y.toNatClampNeg)) 144 && true))) (i' := 14) (ls' := [some (.ref 42), some (.ref 16), some (.int x), some (.int y)]) (st' := [.int (I 43 ((((I 18 x.toNatClampNeg) * (12 : Int32)) + (I 17 y.toNatClampNeg)).toNatClampNeg))]) (M' := mk tl I L rd) rfl (by simp only [Bool.and_true, Bool.and_eq_true, inb_iff] at *; omega) ?_
  exact Runs.ri rfl rfl (rfl) (rfl)

def vCounts (I : Nat → Nat → Int32) (d : Int32) : Int32 :=
  if ¬ (I 44 1) = 0 then (1 : Int32) else
  if ¬ (I 29 d.toNatClampNeg) = 0 then (0 : Int32) else
  (1 : Int32)

set_option maxRecDepth 20000 in
theorem c_vCounts (tl : List (Nat × Nat)) (I : Nat → Nat → Int32) (L : Nat → Nat → Int64) (rd : Nat → Nat → Option Nat) (d : Int32) (hd : 0 ≤ d.toInt ∧ d.toInt < 40) : Call 99 [.ref 44, .ref 1, .int d] (mk tl I L rd) (some (.int (vCounts I d))) (mk tl I L rd) := by
  show Runs 99 0 [some (.ref 44), some (.ref 1), some (.int d)] [] (mk tl I L rd) (some (.int (vCounts I d))) (mk tl I L rd)
  refine Runs.bl 3 (g := true) (i' := if decide (¬ (I 44 1) = 0) = true then 9 else 3) (ls' := [some (.ref 44), some (.ref 1), some (.int d)]) (st' := []) (M' := mk tl I L rd) rfl rfl ?_
  refine Runs.brP (fun h1 => ?_) (fun h1 => ?_)
  · skip
    refine Runs.bl 2 (g := true) (i' := 12) (ls' := [some (.ref 44), some (.ref 1), some (.int d)]) (st' := [.int (1 : Int32)]) (M' := mk tl I L rd) rfl rfl ?_
    exact Runs.rz rfl rfl (by decide) (by rw [vCounts, if_pos h1] <;> rfl) (rfl)
  · skip
    refine Runs.bl 6 (g := inb d 40 && true) (i' := if decide (¬ (I 29 d.toNatClampNeg) = 0) = true then 11 else 9) (ls' := [some (.ref 44), some (.ref 1), some (.int d)]) (st' := []) (M' := mk tl I L rd) rfl (by skip; simp only [Bool.and_true, Bool.true_and, Bool.and_eq_true, inb_iff, Int32.lt_iff_toInt_lt, Int32.le_iff_toInt_le, toI_0, toI_1, toI_2, toI_3, toI_4, toI_5, toI_6, toI_7, toI_8, toI_9, toI_10, toI_12, toI_16, toI_18, toI_20, toI_21, toI_23, toI_24, toI_32, toI_36, toI_39, toI_40, toI_48, toI_50, toI_60, toI_64, toI_75, toI_80, toI_100, toI_144, toI_160, toI_200, toI_256, toI_320, toI_380, toI_576, toI_600, toI_1000, toI_1280, toI_2400, toI_9999, toI_10000, toI_100000, toI_1000000, toI_m1, toI_m100000, toI_s9, toI_s8] at hd h1 ⊢; omega) ?_
    refine Runs.brP (fun h2 => ?_) (fun h2 => ?_)
    · skip
      refine Runs.bl 1 (g := true) (i' := 12) (ls' := [some (.ref 44), some (.ref 1), some (.int d)]) (st' := [.int (0 : Int32)]) (M' := mk tl I L rd) rfl rfl ?_
      exact Runs.rz rfl rfl (by decide) (by rw [vCounts, if_neg h1, if_pos h2] <;> rfl) (rfl)
    · skip
      refine Runs.bl 2 (g := true) (i' := 12) (ls' := [some (.ref 44), some (.ref 1), some (.int d)]) (st' := [.int (1 : Int32)]) (M' := mk tl I L rd) rfl rfl ?_
      exact Runs.rz rfl rfl (by decide) (by rw [vCounts, if_neg h1, if_neg h2] <;> rfl) (rfl)

