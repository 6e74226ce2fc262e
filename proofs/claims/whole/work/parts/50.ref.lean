/-! THE REFERENCE: leaves (printed by p50.py) -/
def inR (I : Nat → Nat → Int32) (v : Int32) (a : Int32) (b : Int32) : Int32 :=
  if v < a then (0 : Int32) else
  if b < v then (0 : Int32) else
  (1 : Int32)

set_option maxRecDepth 20000 in
theorem c_inR (tl : List (Nat × Nat)) (I : Nat → Nat → Int32) (L : Nat → Nat → Int64) (rd : Nat → Nat → Option Nat) (v : Int32) (a : Int32) (b : Int32)  : Call 151 [.int v, .int a, .int b] (mk tl I L rd) (some (.int (inR I v a b))) (mk tl I L rd) := by
  show Runs 151 0 [some (.int v), some (.int a), some (.int b)] [] (mk tl I L rd) (some (.int (inR I v a b))) (mk tl I L rd)
  refine Runs.bl 3 (g := true) (i' := if decide (v < a) = true then 8 else 3) (ls' := [some (.int v), some (.int a), some (.int b)]) (st' := []) (M' := mk tl I L rd) rfl rfl ?_
  refine Runs.brP (fun h1 => ?_) (fun h1 => ?_)
  · skip
    refine Runs.bl 1 (g := true) (i' := 9) (ls' := [some (.int v), some (.int a), some (.int b)]) (st' := [.int (0 : Int32)]) (M' := mk tl I L rd) rfl rfl ?_
    exact Runs.rz rfl rfl (by decide) (by rw [inR, if_pos h1] <;> rfl) (rfl)
  · skip
    refine Runs.bl 3 (g := true) (i' := if decide (b < v) = true then 8 else 6) (ls' := [some (.int v), some (.int a), some (.int b)]) (st' := []) (M' := mk tl I L rd) rfl rfl ?_
    refine Runs.brP (fun h2 => ?_) (fun h2 => ?_)
    · skip
      refine Runs.bl 1 (g := true) (i' := 9) (ls' := [some (.int v), some (.int a), some (.int b)]) (st' := [.int (0 : Int32)]) (M' := mk tl I L rd) rfl rfl ?_
      exact Runs.rz rfl rfl (by decide) (by rw [inR, if_neg h1, if_pos h2] <;> rfl) (rfl)
    · skip
      refine Runs.bl 2 (g := true) (i' := 9) (ls' := [some (.int v), some (.int a), some (.int b)]) (st' := [.int (1 : Int32)]) (M' := mk tl I L rd) rfl rfl ?_
      exact Runs.rz rfl rfl (by decide) (by rw [inR, if_neg h1, if_neg h2] <;> rfl) (rfl)

theorem inR_rng {I : Nat → Nat → Int32} {v a b : Int32} (h : ¬ inR I v a b = 0) : a.toInt ≤ v.toInt ∧ v.toInt ≤ b.toInt := by
  unfold inR at h
  split at h
  · exact absurd rfl h
  · split at h
    · exact absurd rfl h
    · rename_i h1 h2
      simp only [Int32.lt_iff_toInt_lt, Int32.le_iff_toInt_le] at h1 h2
      omega
theorem inR_01 (I : Nat → Nat → Int32) (v a b : Int32) : inR I v a b = 0 ∨ inR I v a b = 1 := by
  unfold inR
  repeat' split
  all_goals first | exact Or.inl rfl | exact Or.inr rfl

def isPer (I : Nat → Nat → Int32) (p : Int32) : Int32 :=
  inR I p (0 : Int32) ((I 69 0) - (1 : Int32))

set_option maxRecDepth 20000 in
theorem c_isPer (tl : List (Nat × Nat)) (I : Nat → Nat → Int32) (L : Nat → Nat → Int64) (rd : Nat → Nat → Option Nat) (p : Int32)  : Call 156 [.ref 61, .int p] (mk tl I L rd) (some (.int (isPer I p))) (mk tl I L rd) := by
  show Runs 156 0 [some (.ref 61), some (.int p)] [] (mk tl I L rd) (some (.int (isPer I p))) (mk tl I L rd)
  refine Runs.bl 8 (g := true && true) (i' := 8) (ls' := [some (.ref 61), some (.int p)]) (st' := [.int ((I 69 0) - (1 : Int32)), .int (0 : Int32), .int p]) (M' := mk tl I L rd) rfl rfl ?_
  refine Runs.call (k' := 151) (as := [.int p, .int (0 : Int32), .int ((I 69 0) - (1 : Int32))]) (rest := []) (r1 := some (.int (inR I p (0 : Int32) ((I 69 0) - (1 : Int32))))) (M1 := mk tl I L rd) rfl rfl rfl (c_inR tl I L rd p (0 : Int32) ((I 69 0) - (1 : Int32)) ) ?_
  exact Runs.rz rfl rfl (inR_01 _ _ _ _) (rfl) (rfl)

theorem isPer_01 (I : Nat → Nat → Int32) (p : Int32) : isPer I p = 0 ∨ isPer I p = 1 := inR_01 _ _ _ _
theorem isPer_rng {I : Nat → Nat → Int32} {p : Int32} {q : Nat} (hq : I 69 0 = nI q) (hqb : q ≤ 12) (h : ¬ isPer I p = 0) : 0 ≤ p.toInt ∧ p.toInt < q := by
  have h1 := inR_rng (I := I) (v := p) (a := 0) (b := I 69 0 - 1) h
  rw [hq, nI_m1 (by omega), toI_0] at h1
  omega

def areTwoR (I : Nat → Nat → Int32) (a : Int32) (b : Int32) : Int32 :=
  if (isPer I a) = 0 then (0 : Int32) else
  if (isPer I b) = 0 then (0 : Int32) else
  if a = b then (0 : Int32) else
  (1 : Int32)

set_option maxRecDepth 20000 in
theorem c_areTwoR (tl : List (Nat × Nat)) (I : Nat → Nat → Int32) (L : Nat → Nat → Int64) (rd : Nat → Nat → Option Nat) (a : Int32) (b : Int32)  : Call 157 [.ref 61, .int a, .int b] (mk tl I L rd) (some (.int (areTwoR I a b))) (mk tl I L rd) := by
  show Runs 157 0 [some (.ref 61), some (.int a), some (.int b)] [] (mk tl I L rd) (some (.int (areTwoR I a b))) (mk tl I L rd)
  refine Runs.bl 2 (g := true) (i' := 2) (ls' := [some (.ref 61), some (.int a), some (.int b)]) (st' := [.int a, .ref 61]) (M' := mk tl I L rd) rfl rfl ?_
  refine Runs.call (k' := 156) (as := [.ref 61, .int a]) (rest := []) (r1 := some (.int (isPer I a))) (M1 := mk tl I L rd) rfl rfl rfl (c_isPer tl I L rd a ) ?_
  refine Runs.bl 1 (g := true) (i' := if decide ((isPer I a) = 0) = true then 13 else 4) (ls' := [some (.ref 61), some (.int a), some (.int b)]) (st' := []) (M' := mk tl I L rd) rfl rfl ?_
  refine Runs.brP (fun h1 => ?_) (fun h1 => ?_)
  · skip
    refine Runs.bl 1 (g := true) (i' := 14) (ls' := [some (.ref 61), some (.int a), some (.int b)]) (st' := [.int (0 : Int32)]) (M' := mk tl I L rd) rfl rfl ?_
    exact Runs.rz rfl rfl (by decide) (by rw [areTwoR, if_pos h1] <;> rfl) (rfl)
  · skip
    refine Runs.bl 2 (g := true) (i' := 6) (ls' := [some (.ref 61), some (.int a), some (.int b)]) (st' := [.int b, .ref 61]) (M' := mk tl I L rd) rfl rfl ?_
    refine Runs.call (k' := 156) (as := [.ref 61, .int b]) (rest := []) (r1 := some (.int (isPer I b))) (M1 := mk tl I L rd) rfl rfl rfl (c_isPer tl I L rd b ) ?_
    refine Runs.bl 1 (g := true) (i' := if decide ((isPer I b) = 0) = true then 13 else 8) (ls' := [some (.ref 61), some (.int a), some (.int b)]) (st' := []) (M' := mk tl I L rd) rfl rfl ?_
    refine Runs.brP (fun h2 => ?_) (fun h2 => ?_)
    · skip
      refine Runs.bl 1 (g := true) (i' := 14) (ls' := [some (.ref 61), some (.int a), some (.int b)]) (st' := [.int (0 : Int32)]) (M' := mk tl I L rd) rfl rfl ?_
      exact Runs.rz rfl rfl (by decide) (by rw [areTwoR, if_neg h1, if_pos h2] <;> rfl) (rfl)
    · skip
      refine Runs.bl 3 (g := true) (i' := if decide (a = b) = true then 13 else 11) (ls' := [some (.ref 61), some (.int a), some (.int b)]) (st' := []) (M' := mk tl I L rd) rfl rfl ?_
      refine Runs.brP (fun h3 => ?_) (fun h3 => ?_)
      · skip
        refine Runs.bl 1 (g := true) (i' := 14) (ls' := [some (.ref 61), some (.int a), some (.int b)]) (st' := [.int (0 : Int32)]) (M' := mk tl I L rd) rfl rfl ?_
        exact Runs.rz rfl rfl (by decide) (by rw [areTwoR, if_neg h1, if_neg h2, if_pos h3] <;> rfl) (rfl)
      · skip
        refine Runs.bl 2 (g := true) (i' := 14) (ls' := [some (.ref 61), some (.int a), some (.int b)]) (st' := [.int (1 : Int32)]) (M' := mk tl I L rd) rfl rfl ?_
        exact Runs.rz rfl rfl (by decide) (by rw [areTwoR, if_neg h1, if_neg h2, if_neg h3] <;> rfl) (rfl)

theorem areTwoR_rng {I : Nat → Nat → Int32} {a b : Int32} {q : Nat} (hq : I 69 0 = nI q) (hqb : q ≤ 12) (h : ¬ areTwoR I a b = 0) : ¬ a = b ∧ (0 ≤ a.toInt ∧ a.toInt < q) ∧ (0 ≤ b.toInt ∧ b.toInt < q) := by
  unfold areTwoR at h
  split at h
  · exact absurd rfl h
  split at h
  · exact absurd rfl h
  split at h
  · exact absurd rfl h
  rename_i h1 h2 h3
  exact ⟨h3, isPer_rng hq hqb h1, isPer_rng hq hqb h2⟩

def isDbt (I : Nat → Nat → Int32) (d : Int32) : Int32 :=
  inR I d (0 : Int32) ((I 86 0) - (1 : Int32))

set_option maxRecDepth 20000 in
theorem c_isDbt (tl : List (Nat × Nat)) (I : Nat → Nat → Int32) (L : Nat → Nat → Int64) (rd : Nat → Nat → Option Nat) (d : Int32)  : Call 158 [.ref 61, .int d] (mk tl I L rd) (some (.int (isDbt I d))) (mk tl I L rd) := by
  show Runs 158 0 [some (.ref 61), some (.int d)] [] (mk tl I L rd) (some (.int (isDbt I d))) (mk tl I L rd)
  refine Runs.bl 8 (g := true && true) (i' := 8) (ls' := [some (.ref 61), some (.int d)]) (st' := [.int ((I 86 0) - (1 : Int32)), .int (0 : Int32), .int d]) (M' := mk tl I L rd) rfl rfl ?_
  refine Runs.call (k' := 151) (as := [.int d, .int (0 : Int32), .int ((I 86 0) - (1 : Int32))]) (rest := []) (r1 := some (.int (inR I d (0 : Int32) ((I 86 0) - (1 : Int32))))) (M1 := mk tl I L rd) rfl rfl rfl (c_inR tl I L rd d (0 : Int32) ((I 86 0) - (1 : Int32)) ) ?_
  exact Runs.rz rfl rfl (inR_01 _ _ _ _) (rfl) (rfl)

theorem isDbt_01 (I : Nat → Nat → Int32) (p : Int32) : isDbt I p = 0 ∨ isDbt I p = 1 := inR_01 _ _ _ _
theorem isDbt_rng {I : Nat → Nat → Int32} {p : Int32} {m : Nat} (hm : I 86 0 = nI m) (hb : m ≤ 40) (h : ¬ isDbt I p = 0) : 0 ≤ p.toInt ∧ p.toInt < m := by
  have h1 := inR_rng (I := I) (v := p) (a := 0) (b := I 86 0 - 1) h
  rw [hm, nI_m1 (by omega), toI_0] at h1
  omega

def isLiveR (I : Nat → Nat → Int32) (d : Int32) : Int32 :=
  if (isDbt I d) = 0 then (0 : Int32) else
  if ¬ (I 94 d.toNatClampNeg) = 0 then (0 : Int32) else
  (1 : Int32)

set_option maxRecDepth 20000 in
theorem c_isLiveR (tl : List (Nat × Nat)) (I : Nat → Nat → Int32) (L : Nat → Nat → Int64) (rd : Nat → Nat → Option Nat) (d : Int32) (m : Nat) (hm : I 86 0 = nI m) (hb : m ≤ 40) : Call 159 [.ref 61, .int d] (mk tl I L rd) (some (.int (isLiveR I d))) (mk tl I L rd) := by
  show Runs 159 0 [some (.ref 61), some (.int d)] [] (mk tl I L rd) (some (.int (isLiveR I d))) (mk tl I L rd)
  refine Runs.bl 2 (g := true) (i' := 2) (ls' := [some (.ref 61), some (.int d)]) (st' := [.int d, .ref 61]) (M' := mk tl I L rd) rfl rfl ?_
  refine Runs.call (k' := 158) (as := [.ref 61, .int d]) (rest := []) (r1 := some (.int (isDbt I d))) (M1 := mk tl I L rd) rfl rfl rfl (c_isDbt tl I L rd d ) ?_
  refine Runs.bl 1 (g := true) (i' := if decide ((isDbt I d) = 0) = true then 11 else 4) (ls' := [some (.ref 61), some (.int d)]) (st' := []) (M' := mk tl I L rd) rfl rfl ?_
  refine Runs.brP (fun h1 => ?_) (fun h1 => ?_)
  · skip
    refine Runs.bl 1 (g := true) (i' := 12) (ls' := [some (.ref 61), some (.int d)]) (st' := [.int (0 : Int32)]) (M' := mk tl I L rd) rfl rfl ?_
    exact Runs.rz rfl rfl (by decide) (by rw [isLiveR, if_pos h1] <;> rfl) (rfl)
  · skip
    refine Runs.bl 5 (g := inb d 160 && true) (i' := if decide (¬ (I 94 d.toNatClampNeg) = 0) = true then 11 else 9) (ls' := [some (.ref 61), some (.int d)]) (st' := []) (M' := mk tl I L rd) rfl (by have q1 := isDbt_rng hm hb h1; simp only [Bool.and_true, Bool.true_and, Bool.and_eq_true, inb_iff, Int32.lt_iff_toInt_lt, Int32.le_iff_toInt_le, toI_0, toI_1, toI_2, toI_3, toI_4, toI_5, toI_6, toI_7, toI_8, toI_9, toI_10, toI_12, toI_16, toI_18, toI_20, toI_21, toI_23, toI_24, toI_32, toI_36, toI_39, toI_40, toI_48, toI_50, toI_60, toI_64, toI_75, toI_80, toI_100, toI_144, toI_160, toI_200, toI_256, toI_320, toI_380, toI_576, toI_600, toI_1000, toI_1280, toI_2400, toI_9999, toI_10000, toI_100000, toI_1000000, toI_m1, toI_m100000, toI_s9, toI_s8] at hm hb q1 ⊢; omega) ?_
    refine Runs.brP (fun h2 => ?_) (fun h2 => ?_)
    · skip
      refine Runs.bl 1 (g := true) (i' := 12) (ls' := [some (.ref 61), some (.int d)]) (st' := [.int (0 : Int32)]) (M' := mk tl I L rd) rfl rfl ?_
      exact Runs.rz rfl rfl (by decide) (by rw [isLiveR, if_neg h1, if_pos h2] <;> rfl) (rfl)
    · skip
      refine Runs.bl 2 (g := true) (i' := 12) (ls' := [some (.ref 61), some (.int d)]) (st' := [.int (1 : Int32)]) (M' := mk tl I L rd) rfl rfl ?_
      exact Runs.rz rfl rfl (by decide) (by rw [isLiveR, if_neg h1, if_neg h2] <;> rfl) (rfl)

theorem isLiveR_rng {I : Nat → Nat → Int32} {d : Int32} {m : Nat} (hm : I 86 0 = nI m) (hb : m ≤ 40) (h : ¬ isLiveR I d = 0) : 0 ≤ d.toInt ∧ d.toInt < m := by
  unfold isLiveR at h
  split at h
  · exact absurd rfl h
  · rename_i h1; exact isDbt_rng hm hb h1

def isDay (I : Nat → Nat → Int32) (d : Int32) : Int32 :=
  inR I d (0 : Int32) (9999 : Int32)

set_option maxRecDepth 20000 in
theorem c_isDay (tl : List (Nat × Nat)) (I : Nat → Nat → Int32) (L : Nat → Nat → Int64) (rd : Nat → Nat → Option Nat) (d : Int32)  : Call 160 [.int d] (mk tl I L rd) (some (.int (isDay I d))) (mk tl I L rd) := by
  show Runs 160 0 [some (.int d)] [] (mk tl I L rd) (some (.int (isDay I d))) (mk tl I L rd)
  refine Runs.bl 3 (g := true) (i' := 3) (ls' := [some (.int d)]) (st' := [.int (9999 : Int32), .int (0 : Int32), .int d]) (M' := mk tl I L rd) rfl rfl ?_
  refine Runs.call (k' := 151) (as := [.int d, .int (0 : Int32), .int (9999 : Int32)]) (rest := []) (r1 := some (.int (inR I d (0 : Int32) (9999 : Int32)))) (M1 := mk tl I L rd) rfl rfl rfl (c_inR tl I L rd d (0 : Int32) (9999 : Int32) ) ?_
  exact Runs.rz rfl rfl (inR_01 _ _ _ _) (rfl) (rfl)

def intrR (I : Nat → Nat → Int32) (d : Int32) : Int32 :=
  (I 96 d.toNatClampNeg) + ((((((I 95 d.toNatClampNeg).toInt64) * ((I 91 d.toNatClampNeg).toInt64)) * (((I 66 0) - (I 97 d.toNatClampNeg)).toInt64)) / (360000 : Int64)).toInt32)

set_option maxRecDepth 20000 in
theorem c_intrR (tl : List (Nat × Nat)) (I : Nat → Nat → Int32) (L : Nat → Nat → Int64) (rd : Nat → Nat → Option Nat) (d : Int32) (hd : 0 ≤ d.toInt ∧ d.toInt < 40) : Call 163 [.ref 61, .int d] (mk tl I L rd) (some (.int (intrR I d))) (mk tl I L rd) := by
  show Runs 163 0 [some (.ref 61), some (.int d)] [] (mk tl I L rd) (some (.int (intrR I d))) (mk tl I L rd)
  refine Runs.bl 30 (g := inb d 160 && (inb d 160 && (inb d 160 && (true && (inb d 160 && (true && true)))))) (i' := 30) (ls' := [some (.ref 61), some (.int d)]) (st' := [.int ((I 96 d.toNatClampNeg) + ((((((I 95 d.toNatClampNeg).toInt64) * ((I 91 d.toNatClampNeg).toInt64)) * (((I 66 0) - (I 97 d.toNatClampNeg)).toInt64)) / (360000 : Int64)).toInt32))]) (M' := mk tl I L rd) rfl (by skip; simp only [Bool.and_true, Bool.true_and, Bool.and_eq_true, inb_iff, Int32.lt_iff_toInt_lt, Int32.le_iff_toInt_le, toI_0, toI_1, toI_2, toI_3, toI_4, toI_5, toI_6, toI_7, toI_8, toI_9, toI_10, toI_12, toI_16, toI_18, toI_20, toI_21, toI_23, toI_24, toI_32, toI_36, toI_39, toI_40, toI_48, toI_50, toI_60, toI_64, toI_75, toI_80, toI_100, toI_144, toI_160, toI_200, toI_256, toI_320, toI_380, toI_576, toI_600, toI_1000, toI_1280, toI_2400, toI_9999, toI_10000, toI_100000, toI_1000000, toI_m1, toI_m100000, toI_s9, toI_s8] at hd ⊢; omega) ?_
  exact Runs.ri rfl rfl (rfl) (rfl)

def dueR (I : Nat → Nat → Int32) (d : Int32) : Int32 :=
  if ¬ (I 94 d.toNatClampNeg) = 0 then (0 : Int32) else
  ((I 98 d.toNatClampNeg) + (intrR I d)) + (I 95 d.toNatClampNeg)

set_option maxRecDepth 20000 in
theorem c_dueR (tl : List (Nat × Nat)) (I : Nat → Nat → Int32) (L : Nat → Nat → Int64) (rd : Nat → Nat → Option Nat) (d : Int32) (hd : 0 ≤ d.toInt ∧ d.toInt < 40) : Call 164 [.ref 61, .int d] (mk tl I L rd) (some (.int (dueR I d))) (mk tl I L rd) := by
  show Runs 164 0 [some (.ref 61), some (.int d)] [] (mk tl I L rd) (some (.int (dueR I d))) (mk tl I L rd)
  refine Runs.bl 5 (g := inb d 160 && true) (i' := if decide (¬ (I 94 d.toNatClampNeg) = 0) = true then 19 else 5) (ls' := [some (.ref 61), some (.int d)]) (st' := []) (M' := mk tl I L rd) rfl (by skip; simp only [Bool.and_true, Bool.true_and, Bool.and_eq_true, inb_iff, Int32.lt_iff_toInt_lt, Int32.le_iff_toInt_le, toI_0, toI_1, toI_2, toI_3, toI_4, toI_5, toI_6, toI_7, toI_8, toI_9, toI_10, toI_12, toI_16, toI_18, toI_20, toI_21, toI_23, toI_24, toI_32, toI_36, toI_39, toI_40, toI_48, toI_50, toI_60, toI_64, toI_75, toI_80, toI_100, toI_144, toI_160, toI_200, toI_256, toI_320, toI_380, toI_576, toI_600, toI_1000, toI_1280, toI_2400, toI_9999, toI_10000, toI_100000, toI_1000000, toI_m1, toI_m100000, toI_s9, toI_s8] at hd ⊢; omega) ?_
  refine Runs.brP (fun h1 => ?_) (fun h1 => ?_)
  · skip
    refine Runs.bl 1 (g := true) (i' := 20) (ls' := [some (.ref 61), some (.int d)]) (st' := [.int (0 : Int32)]) (M' := mk tl I L rd) rfl rfl ?_
    exact Runs.ri rfl rfl (by rw [dueR, if_pos h1] <;> rfl) (rfl)
  · skip
    refine Runs.bl 6 (g := inb d 160 && true) (i' := 11) (ls' := [some (.ref 61), some (.int d)]) (st' := [.int d, .ref 61, .int (I 98 d.toNatClampNeg)]) (M' := mk tl I L rd) rfl (by skip; simp only [Bool.and_true, Bool.true_and, Bool.and_eq_true, inb_iff, Int32.lt_iff_toInt_lt, Int32.le_iff_toInt_le, toI_0, toI_1, toI_2, toI_3, toI_4, toI_5, toI_6, toI_7, toI_8, toI_9, toI_10, toI_12, toI_16, toI_18, toI_20, toI_21, toI_23, toI_24, toI_32, toI_36, toI_39, toI_40, toI_48, toI_50, toI_60, toI_64, toI_75, toI_80, toI_100, toI_144, toI_160, toI_200, toI_256, toI_320, toI_380, toI_576, toI_600, toI_1000, toI_1280, toI_2400, toI_9999, toI_10000, toI_100000, toI_1000000, toI_m1, toI_m100000, toI_s9, toI_s8] at hd h1 ⊢; omega) ?_
    refine Runs.call (k' := 163) (as := [.ref 61, .int d]) (rest := [.int (I 98 d.toNatClampNeg)]) (r1 := some (.int (intrR I d))) (M1 := mk tl I L rd) rfl rfl rfl (c_intrR tl I L rd d (by first | assumption | (skip; (try simp only [Bool.and_true, Bool.true_and, Bool.and_eq_true, inb_iff, Int32.lt_iff_toInt_lt, Int32.le_iff_toInt_le, toI_0, toI_1, toI_2, toI_3, toI_4, toI_5, toI_6, toI_7, toI_8, toI_9, toI_10, toI_12, toI_16, toI_18, toI_20, toI_21, toI_23, toI_24, toI_32, toI_36, toI_39, toI_40, toI_48, toI_50, toI_60, toI_64, toI_75, toI_80, toI_100, toI_144, toI_160, toI_200, toI_256, toI_320, toI_380, toI_576, toI_600, toI_1000, toI_1280, toI_2400, toI_9999, toI_10000, toI_100000, toI_1000000, toI_m1, toI_m100000, toI_s9, toI_s8] at hd h1  ⊢); omega))) ?_
    refine Runs.bl 7 (g := inb d 160 && true) (i' := 20) (ls' := [some (.ref 61), some (.int d)]) (st' := [.int (((I 98 d.toNatClampNeg) + (intrR I d)) + (I 95 d.toNatClampNeg))]) (M' := mk tl I L rd) rfl (by skip; simp only [Bool.and_true, Bool.true_and, Bool.and_eq_true, inb_iff, Int32.lt_iff_toInt_lt, Int32.le_iff_toInt_le, toI_0, toI_1, toI_2, toI_3, toI_4, toI_5, toI_6, toI_7, toI_8, toI_9, toI_10, toI_12, toI_16, toI_18, toI_20, toI_21, toI_23, toI_24, toI_32, toI_36, toI_39, toI_40, toI_48, toI_50, toI_60, toI_64, toI_75, toI_80, toI_100, toI_144, toI_160, toI_200, toI_256, toI_320, toI_380, toI_576, toI_600, toI_1000, toI_1280, toI_2400, toI_9999, toI_10000, toI_100000, toI_1000000, toI_m1, toI_m100000, toI_s9, toI_s8] at hd h1 ⊢; omega) ?_
    exact Runs.ri rfl rfl (by rw [dueR, if_neg h1] <;> rfl) (rfl)

def ends (I : Nat → Nat → Int32) (d : Int32) (how : Int32) : Nat → Nat → Int32 :=
  (up2 (up2 I 94 d.toNatClampNeg how) 101 d.toNatClampNeg (I 66 0))

set_option maxRecDepth 20000 in
theorem c_ends (tl : List (Nat × Nat)) (I : Nat → Nat → Int32) (L : Nat → Nat → Int64) (rd : Nat → Nat → Option Nat) (d : Int32) (how : Int32) (hd : 0 ≤ d.toInt ∧ d.toInt < 40) : Call 165 [.ref 61, .int d, .int how] (mk tl I L rd) none (mk tl (ends I d how) L rd) := by
  show Runs 165 0 [some (.ref 61), some (.int d), some (.int how)] [] (mk tl I L rd) none (mk tl (ends I d how) L rd)
  refine Runs.bl 13 (g := inb d 160 && (true && (inb d 160 && true))) (i' := 13) (ls' := [some (.ref 61), some (.int d), some (.int how)]) (st' := []) (M' := mk tl (up2 (up2 I 94 d.toNatClampNeg how) 101 d.toNatClampNeg (I 66 0)) L rd) rfl (by skip; simp only [Bool.and_true, Bool.true_and, Bool.and_eq_true, inb_iff, Int32.lt_iff_toInt_lt, Int32.le_iff_toInt_le, toI_0, toI_1, toI_2, toI_3, toI_4, toI_5, toI_6, toI_7, toI_8, toI_9, toI_10, toI_12, toI_16, toI_18, toI_20, toI_21, toI_23, toI_24, toI_32, toI_36, toI_39, toI_40, toI_48, toI_50, toI_60, toI_64, toI_75, toI_80, toI_100, toI_144, toI_160, toI_200, toI_256, toI_320, toI_380, toI_576, toI_600, toI_1000, toI_1280, toI_2400, toI_9999, toI_10000, toI_100000, toI_1000000, toI_m1, toI_m100000, toI_s9, toI_s8] at hd ⊢; omega) ?_
  exact Runs.rv rfl rfl (rfl)

def goes (I : Nat → Nat → Int32) (p : Int32) : Nat → Nat → Int32 :=
  (up2 (up2 (up2 (up2 (up2 (up2 I 72 p.toNatClampNeg (0 : Int32)) 73 p.toNatClampNeg (-1 : Int32)) 74 p.toNatClampNeg (-1 : Int32)) 75 p.toNatClampNeg (0 : Int32)) 76 p.toNatClampNeg (0 : Int32)) 80 p.toNatClampNeg (0 : Int32))

set_option maxRecDepth 20000 in
theorem c_goes (tl : List (Nat × Nat)) (I : Nat → Nat → Int32) (L : Nat → Nat → Int64) (rd : Nat → Nat → Option Nat) (p : Int32) (hp : 0 ≤ p.toInt ∧ p.toInt < 12) : Call 205 [.ref 61, .int p] (mk tl I L rd) none (mk tl (goes I p) L rd) := by
  show Runs 205 0 [some (.ref 61), some (.int p)] [] (mk tl I L rd) none (mk tl (goes I p) L rd)
  refine Runs.bl 30 (g := inb p 48 && (inb p 48 && (inb p 48 && (inb p 48 && (inb p 48 && (inb p 48 && true)))))) (i' := 30) (ls' := [some (.ref 61), some (.int p)]) (st' := []) (M' := mk tl (up2 (up2 (up2 (up2 (up2 (up2 I 72 p.toNatClampNeg (0 : Int32)) 73 p.toNatClampNeg (-1 : Int32)) 74 p.toNatClampNeg (-1 : Int32)) 75 p.toNatClampNeg (0 : Int32)) 76 p.toNatClampNeg (0 : Int32)) 80 p.toNatClampNeg (0 : Int32)) L rd) rfl (by skip; simp only [Bool.and_true, Bool.true_and, Bool.and_eq_true, inb_iff, Int32.lt_iff_toInt_lt, Int32.le_iff_toInt_le, toI_0, toI_1, toI_2, toI_3, toI_4, toI_5, toI_6, toI_7, toI_8, toI_9, toI_10, toI_12, toI_16, toI_18, toI_20, toI_21, toI_23, toI_24, toI_32, toI_36, toI_39, toI_40, toI_48, toI_50, toI_60, toI_64, toI_75, toI_80, toI_100, toI_144, toI_160, toI_200, toI_256, toI_320, toI_380, toI_576, toI_600, toI_1000, toI_1280, toI_2400, toI_9999, toI_10000, toI_100000, toI_1000000, toI_m1, toI_m100000, toI_s9, toI_s8] at hp ⊢; omega) ?_
  exact Runs.rv rfl rfl (rfl)

def plain (I : Nat → Nat → Int32) (w : Int32) : Int32 :=
  if ¬ w = (4 : Int32) then (if ¬ w = (5 : Int32) then (if w = 0 then (1 : Int32) else
      if w = (6 : Int32) then (1 : Int32) else
      if ¬ w = (8 : Int32) then (0 : Int32) else
      (1 : Int32)) else
    (75 : Int32)) else
  (50 : Int32)

set_option maxRecDepth 20000 in
theorem c_plain (tl : List (Nat × Nat)) (I : Nat → Nat → Int32) (L : Nat → Nat → Int64) (rd : Nat → Nat → Option Nat) (w : Int32)  : Call 197 [.int w] (mk tl I L rd) (some (.int (plain I w))) (mk tl I L rd) := by
  show Runs 197 0 [some (.int w)] [] (mk tl I L rd) (some (.int (plain I w))) (mk tl I L rd)
  refine Runs.bl 3 (g := true) (i' := if decide (¬ w = (4 : Int32)) = true then 5 else 3) (ls' := [some (.int w)]) (st' := []) (M' := mk tl I L rd) rfl rfl ?_
  refine Runs.brP (fun h1 => ?_) (fun h1 => ?_)
  · skip
    refine Runs.bl 3 (g := true) (i' := if decide (¬ w = (5 : Int32)) = true then 10 else 8) (ls' := [some (.int w)]) (st' := []) (M' := mk tl I L rd) rfl rfl ?_
    refine Runs.brP (fun h2 => ?_) (fun h2 => ?_)
    · skip
      refine Runs.bl 2 (g := true) (i' := if decide (w = 0) = true then 18 else 12) (ls' := [some (.int w)]) (st' := []) (M' := mk tl I L rd) rfl rfl ?_
      refine Runs.brP (fun h3 => ?_) (fun h3 => ?_)
      · skip
        refine Runs.bl 2 (g := true) (i' := 21) (ls' := [some (.int w)]) (st' := [.int (1 : Int32)]) (M' := mk tl I L rd) rfl rfl ?_
        exact Runs.ri rfl rfl (by rw [plain, if_pos h1, if_pos h2, if_pos h3] <;> rfl) (rfl)
      · skip
        refine Runs.bl 3 (g := true) (i' := if decide (w = (6 : Int32)) = true then 18 else 15) (ls' := [some (.int w)]) (st' := []) (M' := mk tl I L rd) rfl rfl ?_
        refine Runs.brP (fun h4 => ?_) (fun h4 => ?_)
        · skip
          refine Runs.bl 2 (g := true) (i' := 21) (ls' := [some (.int w)]) (st' := [.int (1 : Int32)]) (M' := mk tl I L rd) rfl rfl ?_
          exact Runs.ri rfl rfl (by rw [plain, if_pos h1, if_pos h2, if_neg h3, if_pos h4] <;> rfl) (rfl)
        · skip
          refine Runs.bl 3 (g := true) (i' := if decide (¬ w = (8 : Int32)) = true then 20 else 18) (ls' := [some (.int w)]) (st' := []) (M' := mk tl I L rd) rfl rfl ?_
          refine Runs.brP (fun h5 => ?_) (fun h5 => ?_)
          · skip
            refine Runs.bl 1 (g := true) (i' := 21) (ls' := [some (.int w)]) (st' := [.int (0 : Int32)]) (M' := mk tl I L rd) rfl rfl ?_
            exact Runs.ri rfl rfl (by rw [plain, if_pos h1, if_pos h2, if_neg h3, if_neg h4, if_pos h5] <;> rfl) (rfl)
          · skip
            refine Runs.bl 2 (g := true) (i' := 21) (ls' := [some (.int w)]) (st' := [.int (1 : Int32)]) (M' := mk tl I L rd) rfl rfl ?_
            exact Runs.ri rfl rfl (by rw [plain, if_pos h1, if_pos h2, if_neg h3, if_neg h4, if_neg h5] <;> rfl) (rfl)
    · skip
      refine Runs.bl 2 (g := true) (i' := 21) (ls' := [some (.int w)]) (st' := [.int (75 : Int32)]) (M' := mk tl I L rd) rfl rfl ?_
      exact Runs.ri rfl rfl (by rw [plain, if_pos h1, if_neg h2] <;> rfl) (rfl)
  · skip
    refine Runs.bl 2 (g := true) (i' := 21) (ls' := [some (.int w)]) (st' := [.int (50 : Int32)]) (M' := mk tl I L rd) rfl rfl ?_
    exact Runs.ri rfl rfl (by rw [plain, if_neg h1] <;> rfl) (rfl)

def dueFrom_st (I : Nat → Nat → Int32) (L : Nat → Nat → Int64) (p : Int32) (j : Nat) (s : Int32) : Int32 :=
  if ¬ (I 87 ((nI j).toNatClampNeg)) = p then (s + (0 : Int32)) else
  (s + (dueR I (nI j)))

def dueFrom_it (I : Nat → Nat → Int32) (L : Nat → Nat → Int64) (p : Int32) (j : Nat) : Int32 := itr (dueFrom_st I L p) (0) j
theorem dueFrom_it_s (I : Nat → Nat → Int32) (L : Nat → Nat → Int64) (p : Int32) (j : Nat) : (dueFrom_it I L p (j + 1)) = dueFrom_st I L p j (dueFrom_it I L p j) := itr_s _ _ _
set_option maxRecDepth 20000 in
theorem l_dueFrom (tl : List (Nat × Nat)) (I : Nat → Nat → Int32) (L : Nat → Nat → Int64) (rd : Nat → Nat → Option Nat) (p : Int32) (m : Nat) (hm : I 86 0 = nI m) (hb : m ≤ 40) : ∀ j, j ≤ m → Runs 214 4 [some (.ref 61), some (.int p), some (.int (dueFrom_it I L p j)), some (.int (nI j))] [] (mk tl I L rd) (some (.int ((dueFrom_it I L p (m))))) (mk tl I L rd) := by
  refine loopU m (P := fun j => Runs 214 4 [some (.ref 61), some (.int p), some (.int (dueFrom_it I L p j)), some (.int (nI j))] [] (mk tl I L rd) (some (.int ((dueFrom_it I L p (m))))) (mk tl I L rd)) (fun j hj ih => ?_) ?_
  · show Runs 214 4 [some (.ref 61), some (.int p), some (.int (dueFrom_it I L p j)), some (.int (nI j))] [] (mk tl I L rd) (some (.int ((dueFrom_it I L p (m))))) (mk tl I L rd)
    refine Runs.bl 6 (g := true && true) (i' := if decide ((I 86 0) ≤ (nI j)) = true then 26 else 10) (ls' := [some (.ref 61), some (.int p), some (.int (dueFrom_it I L p j)), some (.int (nI j))]) (st' := []) (M' := mk tl I L rd) rfl rfl ?_
    refine Runs.brF (by show ¬ I 86 0 ≤ nI j; rw [hm]; exact nI_ge hj (by omega)) ?_
    refine Runs.bl 7 (g := inb (nI j) 160 && true) (i' := if decide (¬ (I 87 ((nI j).toNatClampNeg)) = p) = true then 21 else 17) (ls' := [some (.ref 61), some (.int p), some (.int (dueFrom_it I L p j)), some (.int (nI j))]) (st' := [.int (dueFrom_it I L p j)]) (M' := mk tl I L rd) rfl (by have q1 := nI_toInt (n := j) (by omega); simp only [Bool.and_true, Bool.true_and, Bool.and_eq_true, inb_iff, Int32.lt_iff_toInt_lt, Int32.le_iff_toInt_le, toI_0, toI_1, toI_2, toI_3, toI_4, toI_5, toI_6, toI_7, toI_8, toI_9, toI_10, toI_12, toI_16, toI_18, toI_20, toI_21, toI_23, toI_24, toI_32, toI_36, toI_39, toI_40, toI_48, toI_50, toI_60, toI_64, toI_75, toI_80, toI_100, toI_144, toI_160, toI_200, toI_256, toI_320, toI_380, toI_576, toI_600, toI_1000, toI_1280, toI_2400, toI_9999, toI_10000, toI_100000, toI_1000000, toI_m1, toI_m100000, toI_s9, toI_s8] at hm hb q1 ⊢; omega) ?_
    refine Runs.brP (fun h1 => ?_) (fun h1 => ?_)
    · skip
      refine Runs.bl 5 (g := true) (i' := 4) (ls' := [some (.ref 61), some (.int p), some (.int ((dueFrom_it I L p j) + (0 : Int32))), some (.int ((nI j) + 1))]) (st' := []) (M' := mk tl I L rd) rfl rfl ?_
      refine Runs.cg (ls := [some (.ref 61), some (.int p), some (.int (dueFrom_it I L p (j + 1))), some (.int (nI (j + 1)))]) (M := mk tl I L rd) (by rw [nI_1, dueFrom_it_s, dueFrom_st, if_pos h1]) (rfl) ih
    · skip
      refine Runs.bl 2 (g := true) (i' := 19) (ls' := [some (.ref 61), some (.int p), some (.int (dueFrom_it I L p j)), some (.int (nI j))]) (st' := [.int (nI j), .ref 61, .int (dueFrom_it I L p j)]) (M' := mk tl I L rd) rfl rfl ?_
      refine Runs.call (k' := 164) (as := [.ref 61, .int (nI j)]) (rest := [.int (dueFrom_it I L p j)]) (r1 := some (.int (dueR I (nI j)))) (M1 := mk tl I L rd) rfl rfl rfl (c_dueR tl I L rd (nI j) (by first | assumption | (have q1 := nI_toInt (n := j) (by omega); (try simp only [Bool.and_true, Bool.true_and, Bool.and_eq_true, inb_iff, Int32.lt_iff_toInt_lt, Int32.le_iff_toInt_le, toI_0, toI_1, toI_2, toI_3, toI_4, toI_5, toI_6, toI_7, toI_8, toI_9, toI_10, toI_12, toI_16, toI_18, toI_20, toI_21, toI_23, toI_24, toI_32, toI_36, toI_39, toI_40, toI_48, toI_50, toI_60, toI_64, toI_75, toI_80, toI_100, toI_144, toI_160, toI_200, toI_256, toI_320, toI_380, toI_576, toI_600, toI_1000, toI_1280, toI_2400, toI_9999, toI_10000, toI_100000, toI_1000000, toI_m1, toI_m100000, toI_s9, toI_s8] at hm hb h1 q1  ⊢); omega))) ?_
      refine Runs.bl 5 (g := true) (i' := 4) (ls' := [some (.ref 61), some (.int p), some (.int ((dueFrom_it I L p j) + (dueR I (nI j)))), some (.int ((nI j) + 1))]) (st' := []) (M' := mk tl I L rd) rfl rfl ?_
      refine Runs.cg (ls := [some (.ref 61), some (.int p), some (.int (dueFrom_it I L p (j + 1))), some (.int (nI (j + 1)))]) (M := mk tl I L rd) (by rw [nI_1, dueFrom_it_s, dueFrom_st, if_neg h1]) (rfl) ih
  · show Runs 214 4 [some (.ref 61), some (.int p), some (.int (dueFrom_it I L p m)), some (.int (nI m))] [] (mk tl I L rd) (some (.int ((dueFrom_it I L p (m))))) (mk tl I L rd)
    refine Runs.bl 6 (g := true && true) (i' := if decide ((I 86 0) ≤ (nI m)) = true then 26 else 10) (ls' := [some (.ref 61), some (.int p), some (.int (dueFrom_it I L p m)), some (.int (nI m))]) (st' := []) (M' := mk tl I L rd) rfl rfl ?_
    refine Runs.brT (by show I 86 0 ≤ nI m; rw [hm]; exact nI_le (Nat.le_refl _) (by omega)) ?_
    refine Runs.bl 1 (g := true) (i' := 27) (ls' := [some (.ref 61), some (.int p), some (.int (dueFrom_it I L p m)), some (.int (nI m))]) (st' := [.int (dueFrom_it I L p m)]) (M' := mk tl I L rd) rfl rfl ?_
    exact Runs.ri rfl rfl (rfl) (rfl)

set_option maxRecDepth 20000 in
theorem l0_dueFrom (tl : List (Nat × Nat)) (I : Nat → Nat → Int32) (L : Nat → Nat → Int64) (rd : Nat → Nat → Option Nat) (p : Int32) (m : Nat) (hm : I 86 0 = nI m) (hb : m ≤ 40) : Runs 214 4 [some (.ref 61), some (.int p), some (.int 0), some (.int (nI 0))] [] (mk tl I L rd) (some (.int ((dueFrom_it I L p (m))))) (mk tl I L rd) := l_dueFrom tl I L rd p m hm hb 0 (Nat.zero_le _)
set_option maxRecDepth 20000 in
theorem c_dueFrom (tl : List (Nat × Nat)) (I : Nat → Nat → Int32) (L : Nat → Nat → Int64) (rd : Nat → Nat → Option Nat) (p : Int32) (m : Nat) (hm : I 86 0 = nI m) (hb : m ≤ 40) : Call 214 [.ref 61, .int p] (mk tl I L rd) (some (.int (dueFrom_it I L p m))) (mk tl I L rd) := by
  show Runs 214 0 [some (.ref 61), some (.int p), none, none] [] (mk tl I L rd) (some (.int (dueFrom_it I L p m))) (mk tl I L rd)
  refine Runs.bl 4 (g := true) (i' := 4) (ls' := [some (.ref 61), some (.int p), some (.int (0 : Int32)), some (.int (0 : Int32))]) (st' := []) (M' := mk tl I L rd) rfl rfl ?_
  exact l_dueFrom tl I L rd p m hm hb 0 (Nat.zero_le _)

def dueToR_st (I : Nat → Nat → Int32) (L : Nat → Nat → Int64) (p : Int32) (j : Nat) (s : Int32) : Int32 :=
  if ¬ (I 88 ((nI j).toNatClampNeg)) = p then (s + (0 : Int32)) else
  (s + (dueR I (nI j)))

def dueToR_it (I : Nat → Nat → Int32) (L : Nat → Nat → Int64) (p : Int32) (j : Nat) : Int32 := itr (dueToR_st I L p) (0) j
theorem dueToR_it_s (I : Nat → Nat → Int32) (L : Nat → Nat → Int64) (p : Int32) (j : Nat) : (dueToR_it I L p (j + 1)) = dueToR_st I L p j (dueToR_it I L p j) := itr_s _ _ _
set_option maxRecDepth 20000 in
theorem l_dueToR (tl : List (Nat × Nat)) (I : Nat → Nat → Int32) (L : Nat → Nat → Int64) (rd : Nat → Nat → Option Nat) (p : Int32) (m : Nat) (hm : I 86 0 = nI m) (hb : m ≤ 40) : ∀ j, j ≤ m → Runs 215 4 [some (.ref 61), some (.int p), some (.int (dueToR_it I L p j)), some (.int (nI j))] [] (mk tl I L rd) (some (.int ((dueToR_it I L p (m))))) (mk tl I L rd) := by
  refine loopU m (P := fun j => Runs 215 4 [some (.ref 61), some (.int p), some (.int (dueToR_it I L p j)), some (.int (nI j))] [] (mk tl I L rd) (some (.int ((dueToR_it I L p (m))))) (mk tl I L rd)) (fun j hj ih => ?_) ?_
  · show Runs 215 4 [some (.ref 61), some (.int p), some (.int (dueToR_it I L p j)), some (.int (nI j))] [] (mk tl I L rd) (some (.int ((dueToR_it I L p (m))))) (mk tl I L rd)
    refine Runs.bl 6 (g := true && true) (i' := if decide ((I 86 0) ≤ (nI j)) = true then 26 else 10) (ls' := [some (.ref 61), some (.int p), some (.int (dueToR_it I L p j)), some (.int (nI j))]) (st' := []) (M' := mk tl I L rd) rfl rfl ?_
    refine Runs.brF (by show ¬ I 86 0 ≤ nI j; rw [hm]; exact nI_ge hj (by omega)) ?_
    refine Runs.bl 7 (g := inb (nI j) 160 && true) (i' := if decide (¬ (I 88 ((nI j).toNatClampNeg)) = p) = true then 21 else 17) (ls' := [some (.ref 61), some (.int p), some (.int (dueToR_it I L p j)), some (.int (nI j))]) (st' := [.int (dueToR_it I L p j)]) (M' := mk tl I L rd) rfl (by have q1 := nI_toInt (n := j) (by omega); simp only [Bool.and_true, Bool.true_and, Bool.and_eq_true, inb_iff, Int32.lt_iff_toInt_lt, Int32.le_iff_toInt_le, toI_0, toI_1, toI_2, toI_3, toI_4, toI_5, toI_6, toI_7, toI_8, toI_9, toI_10, toI_12, toI_16, toI_18, toI_20, toI_21, toI_23, toI_24, toI_32, toI_36, toI_39, toI_40, toI_48, toI_50, toI_60, toI_64, toI_75, toI_80, toI_100, toI_144, toI_160, toI_200, toI_256, toI_320, toI_380, toI_576, toI_600, toI_1000, toI_1280, toI_2400, toI_9999, toI_10000, toI_100000, toI_1000000, toI_m1, toI_m100000, toI_s9, toI_s8] at hm hb q1 ⊢; omega) ?_
    refine Runs.brP (fun h1 => ?_) (fun h1 => ?_)
    · skip
      refine Runs.bl 5 (g := true) (i' := 4) (ls' := [some (.ref 61), some (.int p), some (.int ((dueToR_it I L p j) + (0 : Int32))), some (.int ((nI j) + 1))]) (st' := []) (M' := mk tl I L rd) rfl rfl ?_
      refine Runs.cg (ls := [some (.ref 61), some (.int p), some (.int (dueToR_it I L p (j + 1))), some (.int (nI (j + 1)))]) (M := mk tl I L rd) (by rw [nI_1, dueToR_it_s, dueToR_st, if_pos h1]) (rfl) ih
    · skip
      refine Runs.bl 2 (g := true) (i' := 19) (ls' := [some (.ref 61), some (.int p), some (.int (dueToR_it I L p j)), some (.int (nI j))]) (st' := [.int (nI j), .ref 61, .int (dueToR_it I L p j)]) (M' := mk tl I L rd) rfl rfl ?_
      refine Runs.call (k' := 164) (as := [.ref 61, .int (nI j)]) (rest := [.int (dueToR_it I L p j)]) (r1 := some (.int (dueR I (nI j)))) (M1 := mk tl I L rd) rfl rfl rfl (c_dueR tl I L rd (nI j) (by first | assumption | (have q1 := nI_toInt (n := j) (by omega); (try simp only [Bool.and_true, Bool.true_and, Bool.and_eq_true, inb_iff, Int32.lt_iff_toInt_lt, Int32.le_iff_toInt_le, toI_0, toI_1, toI_2, toI_3, toI_4, toI_5, toI_6, toI_7, toI_8, toI_9, toI_10, toI_12, toI_16, toI_18, toI_20, toI_21, toI_23, toI_24, toI_32, toI_36, toI_39, toI_40, toI_48, toI_50, toI_60, toI_64, toI_75, toI_80, toI_100, toI_144, toI_160, toI_200, toI_256, toI_320, toI_380, toI_576, toI_600, toI_1000, toI_1280, toI_2400, toI_9999, toI_10000, toI_100000, toI_1000000, toI_m1, toI_m100000, toI_s9, toI_s8] at hm hb h1 q1  ⊢); omega))) ?_
      refine Runs.bl 5 (g := true) (i' := 4) (ls' := [some (.ref 61), some (.int p), some (.int ((dueToR_it I L p j) + (dueR I (nI j)))), some (.int ((nI j) + 1))]) (st' := []) (M' := mk tl I L rd) rfl rfl ?_
      refine Runs.cg (ls := [some (.ref 61), some (.int p), some (.int (dueToR_it I L p (j + 1))), some (.int (nI (j + 1)))]) (M := mk tl I L rd) (by rw [nI_1, dueToR_it_s, dueToR_st, if_neg h1]) (rfl) ih
  · show Runs 215 4 [some (.ref 61), some (.int p), some (.int (dueToR_it I L p m)), some (.int (nI m))] [] (mk tl I L rd) (some (.int ((dueToR_it I L p (m))))) (mk tl I L rd)
    refine Runs.bl 6 (g := true && true) (i' := if decide ((I 86 0) ≤ (nI m)) = true then 26 else 10) (ls' := [some (.ref 61), some (.int p), some (.int (dueToR_it I L p m)), some (.int (nI m))]) (st' := []) (M' := mk tl I L rd) rfl rfl ?_
    refine Runs.brT (by show I 86 0 ≤ nI m; rw [hm]; exact nI_le (Nat.le_refl _) (by omega)) ?_
    refine Runs.bl 1 (g := true) (i' := 27) (ls' := [some (.ref 61), some (.int p), some (.int (dueToR_it I L p m)), some (.int (nI m))]) (st' := [.int (dueToR_it I L p m)]) (M' := mk tl I L rd) rfl rfl ?_
    exact Runs.ri rfl rfl (rfl) (rfl)

set_option maxRecDepth 20000 in
theorem l0_dueToR (tl : List (Nat × Nat)) (I : Nat → Nat → Int32) (L : Nat → Nat → Int64) (rd : Nat → Nat → Option Nat) (p : Int32) (m : Nat) (hm : I 86 0 = nI m) (hb : m ≤ 40) : Runs 215 4 [some (.ref 61), some (.int p), some (.int 0), some (.int (nI 0))] [] (mk tl I L rd) (some (.int ((dueToR_it I L p (m))))) (mk tl I L rd) := l_dueToR tl I L rd p m hm hb 0 (Nat.zero_le _)
set_option maxRecDepth 20000 in
theorem c_dueToR (tl : List (Nat × Nat)) (I : Nat → Nat → Int32) (L : Nat → Nat → Int64) (rd : Nat → Nat → Option Nat) (p : Int32) (m : Nat) (hm : I 86 0 = nI m) (hb : m ≤ 40) : Call 215 [.ref 61, .int p] (mk tl I L rd) (some (.int (dueToR_it I L p m))) (mk tl I L rd) := by
  show Runs 215 0 [some (.ref 61), some (.int p), none, none] [] (mk tl I L rd) (some (.int (dueToR_it I L p m))) (mk tl I L rd)
  refine Runs.bl 4 (g := true) (i' := 4) (ls' := [some (.ref 61), some (.int p), some (.int (0 : Int32)), some (.int (0 : Int32))]) (st' := []) (M' := mk tl I L rd) rfl rfl ?_
  exact l_dueToR tl I L rd p m hm hb 0 (Nat.zero_le _)

