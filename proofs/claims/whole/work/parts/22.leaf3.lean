/-! leaves of the reference -/
def inP (v a b : Int32) : Prop := ¬ v < a ∧ ¬ b < v
def isQ (I : Nat → Nat → Int32) (p : Int32) : Prop := inP p 0 (I 69 0 - 1)
def isDb (I : Nat → Nat → Int32) (d : Int32) : Prop := inP d 0 (I 86 0 - 1)
def liveR (I : Nat → Nat → Int32) (d : Int32) : Prop := isDb I d ∧ I 94 d.toNatClampNeg = 0
def twoR (I : Nat → Nat → Int32) (a b : Int32) : Prop := isQ I a ∧ isQ I b ∧ ¬ a = b
def intR (I : Nat → Nat → Int32) (d : Nat) : Int32 := I 96 d + ((I 95 d).toInt64 * (I 91 d).toInt64 * (I 66 0 - I 97 d).toInt64 / 360000).toInt32
def dueR (I : Nat → Nat → Int32) (d : Nat) : Int32 := if I 94 d = 0 then I 98 d + intR I d + I 95 d else 0
def endR (I : Nat → Nat → Int32) (d : Nat) (how : Int32) : Nat → Nat → Int32 := up2 (up2 I 94 d how) 101 d (I 66 0)
def goR (I : Nat → Nat → Int32) (p : Nat) : Nat → Nat → Int32 := up2 (up2 (up2 (up2 (up2 (up2 I 72 p 0) 73 p (-1)) 74 p (-1)) 75 p 0) 76 p 0) 80 p 0

set_option maxRecDepth 20000 in
theorem c_in (tl : List (Nat × Nat)) (I : Nat → Nat → Int32) (L : Nat → Nat → Int64) (rd : Nat → Nat → Option Nat) (v a b : Int32) (r : Int32) (hr : (inP v a b → r = 1) ∧ (¬ (inP v a b) → r = 0)) : Call 151 [.int v, .int a, .int b] (mk tl I L rd) (some (.int r)) (mk tl I L rd) := by
  show Runs 151 0 [some (.int v), some (.int a), some (.int b)] [] (mk tl I L rd) (some (.int r)) (mk tl I L rd)
  refine Runs.bl 3 (g := true) (i' := if decide (v < a) = true then 8 else 3) (ls' := [some (.int v), some (.int a), some (.int b)]) (st' := []) (M' := mk tl I L rd) rfl rfl ?_
  refine Runs.brP (fun h1 => ?_) (fun h1 => ?_)
  · skip
    refine Runs.bl 1 (g := true) (i' := 9) (ls' := [some (.int v), some (.int a), some (.int b)]) (st' := [.int (0 : Int32)]) (M' := mk tl I L rd) rfl rfl ?_
    exact Runs.re rfl rfl (by rw [hr.2 (by simp_all [inP])]) rfl
  · skip
    refine Runs.bl 3 (g := true) (i' := if decide (b < v) = true then 8 else 6) (ls' := [some (.int v), some (.int a), some (.int b)]) (st' := []) (M' := mk tl I L rd) rfl rfl ?_
    refine Runs.brP (fun h2 => ?_) (fun h2 => ?_)
    · skip
      refine Runs.bl 1 (g := true) (i' := 9) (ls' := [some (.int v), some (.int a), some (.int b)]) (st' := [.int (0 : Int32)]) (M' := mk tl I L rd) rfl rfl ?_
      exact Runs.re rfl rfl (by rw [hr.2 (by simp_all [inP])]) rfl
    · skip
      refine Runs.bl 2 (g := true) (i' := 9) (ls' := [some (.int v), some (.int a), some (.int b)]) (st' := [.int (1 : Int32)]) (M' := mk tl I L rd) rfl rfl ?_
      exact Runs.re rfl rfl (by rw [hr.1 (by simp_all [inP])]) rfl

set_option maxRecDepth 20000 in
theorem c_isPerson (tl : List (Nat × Nat)) (I : Nat → Nat → Int32) (L : Nat → Nat → Int64) (rd : Nat → Nat → Option Nat) (p : Int32) (r : Int32) (hr : (isQ I p → r = 1) ∧ (¬ (isQ I p) → r = 0)) : Call 156 [.ref 61, .int p] (mk tl I L rd) (some (.int r)) (mk tl I L rd) := by
  show Runs 156 0 [some (.ref 61), some (.int p)] [] (mk tl I L rd) (some (.int r)) (mk tl I L rd)
  refine Runs.bl 8 (g := true) (i' := 8) (ls' := [some (.ref 61), some (.int p)]) (st' := [.int ((I 69 0) - (1 : Int32)), .int (0 : Int32), .int p]) (M' := mk tl I L rd) rfl rfl ?_
  by_cases h1 : inP p (0 : Int32) ((I 69 0) - (1 : Int32))
  · skip
    refine Runs.call (k' := 151) (as := [.int p, .int (0 : Int32), .int ((I 69 0) - (1 : Int32))]) (rest := []) (r1 := some (.int (1 : Int32))) (M1 := mk tl I L rd) rfl rfl rfl (c_in tl I L rd p (0 : Int32) ((I 69 0) - (1 : Int32)) 1 (bt h1)) ?_
    exact Runs.re rfl rfl (by rw [hr.1 (by simp_all [isQ])]) rfl
  · skip
    refine Runs.call (k' := 151) (as := [.int p, .int (0 : Int32), .int ((I 69 0) - (1 : Int32))]) (rest := []) (r1 := some (.int (0 : Int32))) (M1 := mk tl I L rd) rfl rfl rfl (c_in tl I L rd p (0 : Int32) ((I 69 0) - (1 : Int32)) 0 (bf h1)) ?_
    exact Runs.re rfl rfl (by rw [hr.2 (by simp_all [isQ])]) rfl

set_option maxRecDepth 20000 in
theorem c_isDebt (tl : List (Nat × Nat)) (I : Nat → Nat → Int32) (L : Nat → Nat → Int64) (rd : Nat → Nat → Option Nat) (d : Int32) (r : Int32) (hr : (isDb I d → r = 1) ∧ (¬ (isDb I d) → r = 0)) : Call 158 [.ref 61, .int d] (mk tl I L rd) (some (.int r)) (mk tl I L rd) := by
  show Runs 158 0 [some (.ref 61), some (.int d)] [] (mk tl I L rd) (some (.int r)) (mk tl I L rd)
  refine Runs.bl 8 (g := true) (i' := 8) (ls' := [some (.ref 61), some (.int d)]) (st' := [.int ((I 86 0) - (1 : Int32)), .int (0 : Int32), .int d]) (M' := mk tl I L rd) rfl rfl ?_
  by_cases h1 : inP d (0 : Int32) ((I 86 0) - (1 : Int32))
  · skip
    refine Runs.call (k' := 151) (as := [.int d, .int (0 : Int32), .int ((I 86 0) - (1 : Int32))]) (rest := []) (r1 := some (.int (1 : Int32))) (M1 := mk tl I L rd) rfl rfl rfl (c_in tl I L rd d (0 : Int32) ((I 86 0) - (1 : Int32)) 1 (bt h1)) ?_
    exact Runs.re rfl rfl (by rw [hr.1 (by simp_all [isDb])]) rfl
  · skip
    refine Runs.call (k' := 151) (as := [.int d, .int (0 : Int32), .int ((I 86 0) - (1 : Int32))]) (rest := []) (r1 := some (.int (0 : Int32))) (M1 := mk tl I L rd) rfl rfl rfl (c_in tl I L rd d (0 : Int32) ((I 86 0) - (1 : Int32)) 0 (bf h1)) ?_
    exact Runs.re rfl rfl (by rw [hr.2 (by simp_all [isDb])]) rfl

set_option maxRecDepth 20000 in
theorem c_isDay (tl : List (Nat × Nat)) (I : Nat → Nat → Int32) (L : Nat → Nat → Int64) (rd : Nat → Nat → Option Nat) (d : Int32) (r : Int32) (hr : (inP d 0 9999 → r = 1) ∧ (¬ (inP d 0 9999) → r = 0)) : Call 160 [.int d] (mk tl I L rd) (some (.int r)) (mk tl I L rd) := by
  show Runs 160 0 [some (.int d)] [] (mk tl I L rd) (some (.int r)) (mk tl I L rd)
  refine Runs.bl 3 (g := true) (i' := 3) (ls' := [some (.int d)]) (st' := [.int (9999 : Int32), .int (0 : Int32), .int d]) (M' := mk tl I L rd) rfl rfl ?_
  by_cases h1 : inP d (0 : Int32) (9999 : Int32)
  · skip
    refine Runs.call (k' := 151) (as := [.int d, .int (0 : Int32), .int (9999 : Int32)]) (rest := []) (r1 := some (.int (1 : Int32))) (M1 := mk tl I L rd) rfl rfl rfl (c_in tl I L rd d (0 : Int32) (9999 : Int32) 1 (bt h1)) ?_
    exact Runs.re rfl rfl (by rw [hr.1 (by assumption)]) rfl
  · skip
    refine Runs.call (k' := 151) (as := [.int d, .int (0 : Int32), .int (9999 : Int32)]) (rest := []) (r1 := some (.int (0 : Int32))) (M1 := mk tl I L rd) rfl rfl rfl (c_in tl I L rd d (0 : Int32) (9999 : Int32) 0 (bf h1)) ?_
    exact Runs.re rfl rfl (by rw [hr.2 (by assumption)]) rfl

set_option maxRecDepth 20000 in
theorem c_areTwoR (tl : List (Nat × Nat)) (I : Nat → Nat → Int32) (L : Nat → Nat → Int64) (rd : Nat → Nat → Option Nat) (a b : Int32) (r : Int32) (hr : (twoR I a b → r = 1) ∧ (¬ (twoR I a b) → r = 0)) : Call 157 [.ref 61, .int a, .int b] (mk tl I L rd) (some (.int r)) (mk tl I L rd) := by
  show Runs 157 0 [some (.ref 61), some (.int a), some (.int b)] [] (mk tl I L rd) (some (.int r)) (mk tl I L rd)
  refine Runs.bl 2 (g := true) (i' := 2) (ls' := [some (.ref 61), some (.int a), some (.int b)]) (st' := [.int a, .ref 61]) (M' := mk tl I L rd) rfl rfl ?_
  by_cases h1 : isQ I a
  · skip
    refine Runs.call (k' := 156) (as := [.ref 61, .int a]) (rest := []) (r1 := some (.int (1 : Int32))) (M1 := mk tl I L rd) rfl rfl rfl (c_isPerson tl I L rd a 1 (bt h1)) ?_
    refine Runs.bl 3 (g := true) (i' := 6) (ls' := [some (.ref 61), some (.int a), some (.int b)]) (st' := [.int b, .ref 61]) (M' := mk tl I L rd) rfl rfl ?_
    by_cases h2 : isQ I b
    · skip
      refine Runs.call (k' := 156) (as := [.ref 61, .int b]) (rest := []) (r1 := some (.int (1 : Int32))) (M1 := mk tl I L rd) rfl rfl rfl (c_isPerson tl I L rd b 1 (bt h2)) ?_
      refine Runs.bl 4 (g := true) (i' := if decide (a = b) = true then 13 else 11) (ls' := [some (.ref 61), some (.int a), some (.int b)]) (st' := []) (M' := mk tl I L rd) rfl rfl ?_
      refine Runs.brP (fun h3 => ?_) (fun h3 => ?_)
      · skip
        refine Runs.bl 1 (g := true) (i' := 14) (ls' := [some (.ref 61), some (.int a), some (.int b)]) (st' := [.int (0 : Int32)]) (M' := mk tl I L rd) rfl rfl ?_
        exact Runs.re rfl rfl (by rw [hr.2 (by simp_all [twoR])]) rfl
      · skip
        refine Runs.bl 2 (g := true) (i' := 14) (ls' := [some (.ref 61), some (.int a), some (.int b)]) (st' := [.int (1 : Int32)]) (M' := mk tl I L rd) rfl rfl ?_
        exact Runs.re rfl rfl (by rw [hr.1 (by simp_all [twoR])]) rfl
    · skip
      refine Runs.call (k' := 156) (as := [.ref 61, .int b]) (rest := []) (r1 := some (.int (0 : Int32))) (M1 := mk tl I L rd) rfl rfl rfl (c_isPerson tl I L rd b 0 (bf h2)) ?_
      refine Runs.bl 2 (g := true) (i' := 14) (ls' := [some (.ref 61), some (.int a), some (.int b)]) (st' := [.int (0 : Int32)]) (M' := mk tl I L rd) rfl rfl ?_
      exact Runs.re rfl rfl (by rw [hr.2 (by simp_all [twoR])]) rfl
  · skip
    refine Runs.call (k' := 156) (as := [.ref 61, .int a]) (rest := []) (r1 := some (.int (0 : Int32))) (M1 := mk tl I L rd) rfl rfl rfl (c_isPerson tl I L rd a 0 (bf h1)) ?_
    refine Runs.bl 2 (g := true) (i' := 14) (ls' := [some (.ref 61), some (.int a), some (.int b)]) (st' := [.int (0 : Int32)]) (M' := mk tl I L rd) rfl rfl ?_
    exact Runs.re rfl rfl (by rw [hr.2 (by simp_all [twoR])]) rfl

set_option maxRecDepth 20000 in
theorem c_isLiveR (tl : List (Nat × Nat)) (I : Nat → Nat → Int32) (L : Nat → Nat → Int64) (rd : Nat → Nat → Option Nat) (d : Int32) (r : Int32) (hm : inb d 160 = true ∨ ¬ isDb I d) (hr : (liveR I d → r = 1) ∧ (¬ (liveR I d) → r = 0)) : Call 159 [.ref 61, .int d] (mk tl I L rd) (some (.int r)) (mk tl I L rd) := by
  show Runs 159 0 [some (.ref 61), some (.int d)] [] (mk tl I L rd) (some (.int r)) (mk tl I L rd)
  refine Runs.bl 2 (g := true) (i' := 2) (ls' := [some (.ref 61), some (.int d)]) (st' := [.int d, .ref 61]) (M' := mk tl I L rd) rfl rfl ?_
  by_cases h1 : isDb I d
  · skip
    refine Runs.call (k' := 158) (as := [.ref 61, .int d]) (rest := []) (r1 := some (.int (1 : Int32))) (M1 := mk tl I L rd) rfl rfl rfl (c_isDebt tl I L rd d 1 (bt h1)) ?_
    refine Runs.bl 6 (g := inb d 160 && true) (i' := if decide (¬ (I 94 d.toNatClampNeg) = 0) = true then 11 else 9) (ls' := [some (.ref 61), some (.int d)]) (st' := []) (M' := mk tl I L rd) rfl (by rw [Bool.and_true]; exact hm.elim id (fun z => absurd h1 z)) ?_
    refine Runs.brP (fun h2 => ?_) (fun h2 => ?_)
    · skip
      refine Runs.bl 1 (g := true) (i' := 12) (ls' := [some (.ref 61), some (.int d)]) (st' := [.int (0 : Int32)]) (M' := mk tl I L rd) rfl rfl ?_
      exact Runs.re rfl rfl (by rw [hr.2 (by simp_all [liveR])]) rfl
    · skip
      refine Runs.bl 2 (g := true) (i' := 12) (ls' := [some (.ref 61), some (.int d)]) (st' := [.int (1 : Int32)]) (M' := mk tl I L rd) rfl rfl ?_
      exact Runs.re rfl rfl (by rw [hr.1 (by simp_all [liveR])]) rfl
  · skip
    refine Runs.call (k' := 158) (as := [.ref 61, .int d]) (rest := []) (r1 := some (.int (0 : Int32))) (M1 := mk tl I L rd) rfl rfl rfl (c_isDebt tl I L rd d 0 (bf h1)) ?_
    refine Runs.bl 2 (g := true) (i' := 12) (ls' := [some (.ref 61), some (.int d)]) (st' := [.int (0 : Int32)]) (M' := mk tl I L rd) rfl rfl ?_
    exact Runs.re rfl rfl (by rw [hr.2 (by simp_all [liveR])]) rfl

set_option maxRecDepth 20000 in
theorem c_interestOf (tl : List (Nat × Nat)) (I : Nat → Nat → Int32) (L : Nat → Nat → Int64) (rd : Nat → Nat → Option Nat) (d : Int32) (hd : 0 ≤ d.toInt ∧ d.toInt < 160) : Call 163 [.ref 61, .int d] (mk tl I L rd) (some (.int (intR I d.toNatClampNeg))) (mk tl I L rd) := by
  show Runs 163 0 [some (.ref 61), some (.int d)] [] (mk tl I L rd) (some (.int (intR I d.toNatClampNeg))) (mk tl I L rd)
  refine Runs.bl 30 (g := inb d 160 && inb d 160 && inb d 160 && inb d 160 && true) (i' := 30) (ls' := [some (.ref 61), some (.int d)]) (st' := [.int ((I 96 d.toNatClampNeg) + ((((((I 95 d.toNatClampNeg).toInt64) * ((I 91 d.toNatClampNeg).toInt64)) * (((I 66 0) - (I 97 d.toNatClampNeg)).toInt64)) / (360000 : Int64)).toInt32))]) (M' := mk tl I L rd) rfl (by simp only [Bool.and_true, Bool.and_eq_true, inb_iff, Int32.lt_iff_toInt_lt, Int32.le_iff_toInt_le, toI_0, toI_1, toI_2, toI_3, toI_4, toI_8, toI_9, toI_12, toI_20, toI_23, toI_39, toI_40, toI_60, toI_100, toI_200, toI_600, toI_1000, toI_9999, toI_10000, toI_100000, toI_1000000, toI_m1, toI_m100000] at hd ⊢; omega) ?_
  exact Runs.re rfl rfl rfl rfl

set_option maxRecDepth 20000 in
theorem c_dueOf (tl : List (Nat × Nat)) (I : Nat → Nat → Int32) (L : Nat → Nat → Int64) (rd : Nat → Nat → Option Nat) (d : Int32) (hd : 0 ≤ d.toInt ∧ d.toInt < 160) : Call 164 [.ref 61, .int d] (mk tl I L rd) (some (.int (dueR I d.toNatClampNeg))) (mk tl I L rd) := by
  show Runs 164 0 [some (.ref 61), some (.int d)] [] (mk tl I L rd) (some (.int (dueR I d.toNatClampNeg))) (mk tl I L rd)
  refine Runs.bl 5 (g := inb d 160 && true) (i' := if decide (¬ (I 94 d.toNatClampNeg) = 0) = true then 19 else 5) (ls' := [some (.ref 61), some (.int d)]) (st' := []) (M' := mk tl I L rd) rfl (by simp only [Bool.and_true, Bool.and_eq_true, inb_iff, Int32.lt_iff_toInt_lt, Int32.le_iff_toInt_le, toI_0, toI_1, toI_2, toI_3, toI_4, toI_8, toI_9, toI_12, toI_20, toI_23, toI_39, toI_40, toI_60, toI_100, toI_200, toI_600, toI_1000, toI_9999, toI_10000, toI_100000, toI_1000000, toI_m1, toI_m100000] at hd ⊢; omega) ?_
  refine Runs.brP (fun h1 => ?_) (fun h1 => ?_)
  · skip
    refine Runs.bl 1 (g := true) (i' := 20) (ls' := [some (.ref 61), some (.int d)]) (st' := [.int (0 : Int32)]) (M' := mk tl I L rd) rfl rfl ?_
    exact Runs.re rfl rfl (by unfold dueR; rw [if_neg h1]) rfl
  · skip
    refine Runs.bl 6 (g := inb d 160 && true) (i' := 11) (ls' := [some (.ref 61), some (.int d)]) (st' := [.int d, .ref 61, .int (I 98 d.toNatClampNeg)]) (M' := mk tl I L rd) rfl (by simp only [Bool.and_true, Bool.and_eq_true, inb_iff, Int32.lt_iff_toInt_lt, Int32.le_iff_toInt_le, toI_0, toI_1, toI_2, toI_3, toI_4, toI_8, toI_9, toI_12, toI_20, toI_23, toI_39, toI_40, toI_60, toI_100, toI_200, toI_600, toI_1000, toI_9999, toI_10000, toI_100000, toI_1000000, toI_m1, toI_m100000] at h1 hd ⊢; omega) ?_
    refine Runs.call (k' := 163) (as := [.ref 61, .int d]) (rest := [.int (I 98 d.toNatClampNeg)]) (r1 := some (.int (intR I d.toNatClampNeg))) (M1 := mk tl I L rd) rfl rfl rfl (c_interestOf tl I L rd d hd) ?_
    refine Runs.bl 7 (g := inb d 160 && true) (i' := 20) (ls' := [some (.ref 61), some (.int d)]) (st' := [.int (((I 98 d.toNatClampNeg) + (intR I d.toNatClampNeg)) + (I 95 d.toNatClampNeg))]) (M' := mk tl I L rd) rfl (by simp only [Bool.and_true, Bool.and_eq_true, inb_iff, Int32.lt_iff_toInt_lt, Int32.le_iff_toInt_le, toI_0, toI_1, toI_2, toI_3, toI_4, toI_8, toI_9, toI_12, toI_20, toI_23, toI_39, toI_40, toI_60, toI_100, toI_200, toI_600, toI_1000, toI_9999, toI_10000, toI_100000, toI_1000000, toI_m1, toI_m100000] at h1 hd ⊢; omega) ?_
    exact Runs.re rfl rfl (by unfold dueR; rw [if_pos (Decidable.not_not.mp h1)]) rfl

set_option maxRecDepth 20000 in
theorem c_ends (tl : List (Nat × Nat)) (I : Nat → Nat → Int32) (L : Nat → Nat → Int64) (rd : Nat → Nat → Option Nat) (d how : Int32) (hd : 0 ≤ d.toInt ∧ d.toInt < 160) : Call 165 [.ref 61, .int d, .int how] (mk tl I L rd) none (mk tl (endR I d.toNatClampNeg how) L rd) := by
  show Runs 165 0 [some (.ref 61), some (.int d), some (.int how)] [] (mk tl I L rd) none (mk tl (endR I d.toNatClampNeg how) L rd)
  refine Runs.bl 13 (g := inb d 160 && inb d 160 && true) (i' := 13) (ls' := [some (.ref 61), some (.int d), some (.int how)]) (st' := []) (M' := mk tl (up2 (up2 I 94 d.toNatClampNeg how) 101 d.toNatClampNeg (I 66 0)) L rd) rfl (by simp only [Bool.and_true, Bool.and_eq_true, inb_iff, Int32.lt_iff_toInt_lt, Int32.le_iff_toInt_le, toI_0, toI_1, toI_2, toI_3, toI_4, toI_8, toI_9, toI_12, toI_20, toI_23, toI_39, toI_40, toI_60, toI_100, toI_200, toI_600, toI_1000, toI_9999, toI_10000, toI_100000, toI_1000000, toI_m1, toI_m100000] at hd ⊢; omega) ?_
  exact Runs.re rfl rfl rfl rfl

set_option maxRecDepth 20000 in
theorem c_goes (tl : List (Nat × Nat)) (I : Nat → Nat → Int32) (L : Nat → Nat → Int64) (rd : Nat → Nat → Option Nat) (p : Int32) (hp : 0 ≤ p.toInt ∧ p.toInt < 48) : Call 205 [.ref 61, .int p] (mk tl I L rd) none (mk tl (goR I p.toNatClampNeg) L rd) := by
  show Runs 205 0 [some (.ref 61), some (.int p)] [] (mk tl I L rd) none (mk tl (goR I p.toNatClampNeg) L rd)
  refine Runs.bl 30 (g := inb p 48 && inb p 48 && inb p 48 && inb p 48 && inb p 48 && inb p 48 && true) (i' := 30) (ls' := [some (.ref 61), some (.int p)]) (st' := []) (M' := mk tl (up2 (up2 (up2 (up2 (up2 (up2 I 72 p.toNatClampNeg (0 : Int32)) 73 p.toNatClampNeg (-1 : Int32)) 74 p.toNatClampNeg (-1 : Int32)) 75 p.toNatClampNeg (0 : Int32)) 76 p.toNatClampNeg (0 : Int32)) 80 p.toNatClampNeg (0 : Int32)) L rd) rfl (by simp only [Bool.and_true, Bool.and_eq_true, inb_iff, Int32.lt_iff_toInt_lt, Int32.le_iff_toInt_le, toI_0, toI_1, toI_2, toI_3, toI_4, toI_8, toI_9, toI_12, toI_20, toI_23, toI_39, toI_40, toI_60, toI_100, toI_200, toI_600, toI_1000, toI_9999, toI_10000, toI_100000, toI_1000000, toI_m1, toI_m100000] at hp ⊢; omega) ?_
  exact Runs.re rfl rfl rfl rfl

