/-! effects on the ints -/
def finI (I : Nat → Nat → Int32) (d : Nat) (how day : Int32) : Nat → Nat → Int32 := up2 (up2 I 24 d how) 31 d day
def mvI (I : Nat → Nat → Int32) (f t : Nat) (c : Int32) : Nat → Nat → Int32 := up2 (up2 I 3 f (I 3 f - c)) 3 t (up2 I 3 f (I 3 f - c) 3 t + c)
def lgI (I : Nat → Nat → Int32) (p : Nat) : Nat → Nat → Int32 := up2 (up2 (up2 (up2 (up2 I 5 p (-1)) 6 p 0) 7 p 0) 8 p 0) 12 p 0
def enI (I : Nat → Nat → Int32) (p : Nat) (day fee : Int32) : Nat → Nat → Int32 := up2 (up2 (up2 (up2 I 5 p day) 6 p 0) 7 p fee) 8 p 0
def lsN (c d : Int32) : Nat := (c * 12 + d).toNatClampNeg
def detP (I : Nat → Nat → Int32) (c d : Int32) : Prop := ¬ I 12 d.toNatClampNeg &&& ((1 : Int32) <<< (c &&& 31)) = 0
def thF (c t : Int32) : Int32 := (c.toInt64 * t.toInt64 / 1000).toInt32
def twoP (I : Nat → Nat → Int32) (a b : Int32) : Prop := ¬ a = b ∧ hasQ I a ∧ hasQ I b
def ahdP (I : Nat → Nat → Int32) (a b : Int32) : Prop := (¬ I 10 a.toNatClampNeg = I 10 b.toNatClampNeg ∧ I 10 a.toNatClampNeg < I 10 b.toNatClampNeg) ∨ (I 10 a.toNatClampNeg = I 10 b.toNatClampNeg ∧ I 5 a.toNatClampNeg < I 5 b.toNatClampNeg)
theorem has_rng {I : Nat → Nat → Int32} {p : Int32} (h : hasQ I p) : 0 ≤ p.toInt ∧ p.toInt < 12 := by
  obtain ⟨h1, -, h2⟩ := h
  simp only [Bool.and_true, Bool.and_eq_true, inb_iff, Int32.lt_iff_toInt_lt, Int32.le_iff_toInt_le, toI_0, toI_1, toI_2, toI_3, toI_4, toI_8, toI_9, toI_12, toI_20, toI_23, toI_39, toI_40, toI_60, toI_100, toI_200, toI_600, toI_1000, toI_9999, toI_10000, toI_100000, toI_1000000, toI_m1, toI_m100000] at h1 h2
  omega
theorem hasD_rng {I : Nat → Nat → Int32} {p : Int32} (h : hasD I p) : 0 ≤ p.toInt ∧ p.toInt < 40 := by
  obtain ⟨h1, -, h2⟩ := h
  simp only [Bool.and_true, Bool.and_eq_true, inb_iff, Int32.lt_iff_toInt_lt, Int32.le_iff_toInt_le, toI_0, toI_1, toI_2, toI_3, toI_4, toI_8, toI_9, toI_12, toI_20, toI_23, toI_39, toI_40, toI_60, toI_100, toI_200, toI_600, toI_1000, toI_9999, toI_10000, toI_100000, toI_1000000, toI_m1, toI_m100000] at h1 h2
  omega
theorem held_rng {I : Nat → Nat → Int32} {p : Int32} (h : heldP I p) : 0 ≤ p.toInt ∧ p.toInt < 12 := by
  obtain ⟨h1, -, h2, -⟩ := h
  simp only [Bool.and_true, Bool.and_eq_true, inb_iff, Int32.lt_iff_toInt_lt, Int32.le_iff_toInt_le, toI_0, toI_1, toI_2, toI_3, toI_4, toI_8, toI_9, toI_12, toI_20, toI_23, toI_39, toI_40, toI_60, toI_100, toI_200, toI_600, toI_1000, toI_9999, toI_10000, toI_100000, toI_1000000, toI_m1, toI_m100000] at h1 h2
  omega

set_option maxRecDepth 20000 in
theorem c_finish (tl : List (Nat × Nat)) (I : Nat → Nat → Int32) (L : Nat → Nat → Int64) (rd : Nat → Nat → Option Nat) (d how day : Int32) (hd : 0 ≤ d.toInt ∧ d.toInt < 40) : Call 13 [.ref 16, .int d, .int how, .int day] (mk tl I L rd) none (mk tl (finI I d.toNatClampNeg how day) L rd) := by
  show Runs 13 0 [some (.ref 16), some (.int d), some (.int how), some (.int day)] [] (mk tl I L rd) none (mk tl (finI I d.toNatClampNeg how day) L rd)
  refine Runs.bl 10 (g := inb d 40 && inb d 40 && true) (i' := 10) (ls' := [some (.ref 16), some (.int d), some (.int how), some (.int day)]) (st' := []) (M' := mk tl (up2 (up2 I 24 d.toNatClampNeg how) 31 d.toNatClampNeg day) L rd) rfl (by simp only [Bool.and_true, Bool.and_eq_true, inb_iff, Int32.lt_iff_toInt_lt, Int32.le_iff_toInt_le, toI_0, toI_1, toI_2, toI_3, toI_4, toI_8, toI_9, toI_12, toI_20, toI_23, toI_39, toI_40, toI_60, toI_100, toI_200, toI_600, toI_1000, toI_9999, toI_10000, toI_100000, toI_1000000, toI_m1, toI_m100000] at hd ⊢; omega) ?_
  exact Runs.re rfl rfl rfl rfl

set_option maxRecDepth 20000 in
theorem c_moveCoins (tl : List (Nat × Nat)) (I : Nat → Nat → Int32) (L : Nat → Nat → Int64) (rd : Nat → Nat → Option Nat) (f t n : Int32) (hf : 0 ≤ f.toInt ∧ f.toInt < 12) (ht : 0 ≤ t.toInt ∧ t.toInt < 12) : Call 37 [.ref 1, .int f, .int t, .int n] (mk tl I L rd) none (mk tl (mvI I f.toNatClampNeg t.toNatClampNeg n) L rd) := by
  show Runs 37 0 [some (.ref 1), some (.int f), some (.int t), some (.int n)] [] (mk tl I L rd) none (mk tl (mvI I f.toNatClampNeg t.toNatClampNeg n) L rd)
  refine Runs.bl 18 (g := inb f 12 && inb f 12 && inb t 12 && inb t 12 && true) (i' := 18) (ls' := [some (.ref 1), some (.int f), some (.int t), some (.int n)]) (st' := []) (M' := mk tl (up2 (up2 I 3 f.toNatClampNeg ((I 3 f.toNatClampNeg) - n)) 3 t.toNatClampNeg (((up2 I 3 f.toNatClampNeg ((I 3 f.toNatClampNeg) - n)) 3 t.toNatClampNeg) + n)) L rd) rfl (by simp only [Bool.and_true, Bool.and_eq_true, inb_iff, Int32.lt_iff_toInt_lt, Int32.le_iff_toInt_le, toI_0, toI_1, toI_2, toI_3, toI_4, toI_8, toI_9, toI_12, toI_20, toI_23, toI_39, toI_40, toI_60, toI_100, toI_200, toI_600, toI_1000, toI_9999, toI_10000, toI_100000, toI_1000000, toI_m1, toI_m100000] at hf ht ⊢; omega) ?_
  exact Runs.re rfl rfl rfl rfl

set_option maxRecDepth 20000 in
theorem c_letGo (tl : List (Nat × Nat)) (I : Nat → Nat → Int32) (L : Nat → Nat → Int64) (rd : Nat → Nat → Option Nat) (p : Int32) (hp : 0 ≤ p.toInt ∧ p.toInt < 12) : Call 59 [.ref 2, .int p] (mk tl I L rd) none (mk tl (lgI I p.toNatClampNeg) L rd) := by
  show Runs 59 0 [some (.ref 2), some (.int p)] [] (mk tl I L rd) none (mk tl (lgI I p.toNatClampNeg) L rd)
  refine Runs.bl 25 (g := inb p 12 && inb p 12 && inb p 12 && inb p 12 && inb p 12 && true) (i' := 25) (ls' := [some (.ref 2), some (.int p)]) (st' := []) (M' := mk tl (up2 (up2 (up2 (up2 (up2 I 5 p.toNatClampNeg (-1 : Int32)) 6 p.toNatClampNeg (0 : Int32)) 7 p.toNatClampNeg (0 : Int32)) 8 p.toNatClampNeg (0 : Int32)) 12 p.toNatClampNeg (0 : Int32)) L rd) rfl (by simp only [Bool.and_true, Bool.and_eq_true, inb_iff, Int32.lt_iff_toInt_lt, Int32.le_iff_toInt_le, toI_0, toI_1, toI_2, toI_3, toI_4, toI_8, toI_9, toI_12, toI_20, toI_23, toI_39, toI_40, toI_60, toI_100, toI_200, toI_600, toI_1000, toI_9999, toI_10000, toI_100000, toI_1000000, toI_m1, toI_m100000] at hp ⊢; omega) ?_
  exact Runs.re rfl rfl rfl rfl

set_option maxRecDepth 20000 in
theorem c_enter (tl : List (Nat × Nat)) (I : Nat → Nat → Int32) (L : Nat → Nat → Int64) (rd : Nat → Nat → Option Nat) (p day fee : Int32) (hp : 0 ≤ p.toInt ∧ p.toInt < 12) : Call 58 [.ref 2, .int p, .int day, .int fee] (mk tl I L rd) none (mk tl (enI I p.toNatClampNeg day fee) L rd) := by
  show Runs 58 0 [some (.ref 2), some (.int p), some (.int day), some (.int fee)] [] (mk tl I L rd) none (mk tl (enI I p.toNatClampNeg day fee) L rd)
  refine Runs.bl 20 (g := inb p 12 && inb p 12 && inb p 12 && inb p 12 && true) (i' := 20) (ls' := [some (.ref 2), some (.int p), some (.int day), some (.int fee)]) (st' := []) (M' := mk tl (up2 (up2 (up2 (up2 I 5 p.toNatClampNeg day) 6 p.toNatClampNeg (0 : Int32)) 7 p.toNatClampNeg fee) 8 p.toNatClampNeg (0 : Int32)) L rd) rfl (by simp only [Bool.and_true, Bool.and_eq_true, inb_iff, Int32.lt_iff_toInt_lt, Int32.le_iff_toInt_le, toI_0, toI_1, toI_2, toI_3, toI_4, toI_8, toI_9, toI_12, toI_20, toI_23, toI_39, toI_40, toI_60, toI_100, toI_200, toI_600, toI_1000, toI_9999, toI_10000, toI_100000, toI_1000000, toI_m1, toI_m100000] at hp ⊢; omega) ?_
  exact Runs.re rfl rfl rfl rfl

set_option maxRecDepth 20000 in
theorem c_leastOf (tl : List (Nat × Nat)) (I : Nat → Nat → Int32) (L : Nat → Nat → Int64) (rd : Nat → Nat → Option Nat) (n d : Int32) (hn : inb (n * 12 + d) 144 = true) : Call 27 [.ref 1, .int n, .int d] (mk tl I L rd) (some (.int (1000 - I 33 (lsN n d)))) (mk tl I L rd) := by
  show Runs 27 0 [some (.ref 1), some (.int n), some (.int d)] [] (mk tl I L rd) (some (.int (1000 - I 33 (lsN n d)))) (mk tl I L rd)
  refine Runs.bl 10 (g := inb ((n * (12 : Int32)) + d) 144 && true) (i' := 10) (ls' := [some (.ref 1), some (.int n), some (.int d)]) (st' := [.int ((1000 : Int32) - (I 33 (((n * (12 : Int32)) + d).toNatClampNeg)))]) (M' := mk tl I L rd) rfl (by rw [Bool.and_true]; exact hn) ?_
  exact Runs.re rfl rfl rfl rfl

set_option maxRecDepth 20000 in
theorem c_setLeast (tl : List (Nat × Nat)) (I : Nat → Nat → Int32) (L : Nat → Nat → Int64) (rd : Nat → Nat → Option Nat) (n d t : Int32) (hn : inb (n * 12 + d) 144 = true) : Call 28 [.ref 1, .int n, .int d, .int t] (mk tl I L rd) none (mk tl (up2 I 33 (lsN n d) (1000 - t)) L rd) := by
  show Runs 28 0 [some (.ref 1), some (.int n), some (.int d), some (.int t)] [] (mk tl I L rd) none (mk tl (up2 I 33 (lsN n d) (1000 - t)) L rd)
  refine Runs.bl 11 (g := inb ((n * (12 : Int32)) + d) 144 && true) (i' := 11) (ls' := [some (.ref 1), some (.int n), some (.int d), some (.int t)]) (st' := []) (M' := mk tl (up2 I 33 (((n * (12 : Int32)) + d).toNatClampNeg) ((1000 : Int32) - t)) L rd) rfl (by rw [Bool.and_true]; exact hn) ?_
  exact Runs.re rfl rfl rfl rfl

set_option maxRecDepth 20000 in
theorem c_detains (tl : List (Nat × Nat)) (I : Nat → Nat → Int32) (L : Nat → Nat → Int64) (rd : Nat → Nat → Option Nat) (n d : Int32) (r : Int32) (hd : 0 ≤ d.toInt ∧ d.toInt < 12) (hr : (detP I n d → r = 1) ∧ (¬ (detP I n d) → r = 0)) : Call 35 [.ref 1, .int n, .int d] (mk tl I L rd) (some (.int r)) (mk tl I L rd) := by
  show Runs 35 0 [some (.ref 1), some (.int n), some (.int d)] [] (mk tl I L rd) (some (.int r)) (mk tl I L rd)
  refine Runs.bl 10 (g := inb d 12 && true) (i' := if decide (((I 12 d.toNatClampNeg) &&& ((1 : Int32) <<< (n &&& 31))) = 0) = true then 12 else 10) (ls' := [some (.ref 1), some (.int n), some (.int d)]) (st' := []) (M' := mk tl I L rd) rfl (by simp only [Bool.and_true, Bool.and_eq_true, inb_iff, Int32.lt_iff_toInt_lt, Int32.le_iff_toInt_le, toI_0, toI_1, toI_2, toI_3, toI_4, toI_8, toI_9, toI_12, toI_20, toI_23, toI_39, toI_40, toI_60, toI_100, toI_200, toI_600, toI_1000, toI_9999, toI_10000, toI_100000, toI_1000000, toI_m1, toI_m100000] at hd ⊢; omega) ?_
  refine Runs.brP (fun h1 => ?_) (fun h1 => ?_)
  · skip
    refine Runs.bl 1 (g := true) (i' := 13) (ls' := [some (.ref 1), some (.int n), some (.int d)]) (st' := [.int (0 : Int32)]) (M' := mk tl I L rd) rfl rfl ?_
    exact Runs.re rfl rfl (by rw [hr.2 (by simp_all [detP])]) rfl
  · skip
    refine Runs.bl 2 (g := true) (i' := 13) (ls' := [some (.ref 1), some (.int n), some (.int d)]) (st' := [.int (1 : Int32)]) (M' := mk tl I L rd) rfl rfl ?_
    exact Runs.re rfl rfl (by rw [hr.1 (by simp_all [detP])]) rfl

set_option maxRecDepth 20000 in
theorem c_thousandths (tl : List (Nat × Nat)) (I : Nat → Nat → Int32) (L : Nat → Nat → Int64) (rd : Nat → Nat → Option Nat) (n t : Int32)  : Call 148 [.int n, .int t] (mk tl I L rd) (some (.int (thF n t))) (mk tl I L rd) := by
  show Runs 148 0 [some (.int n), some (.int t)] [] (mk tl I L rd) (some (.int (thF n t))) (mk tl I L rd)
  refine Runs.bl 8 (g := true) (i' := 8) (ls' := [some (.int n), some (.int t)]) (st' := [.int (((n.toInt64 * t.toInt64) / (1000 : Int64)).toInt32)]) (M' := mk tl I L rd) rfl rfl ?_
  exact Runs.re rfl rfl rfl rfl

set_option maxRecDepth 20000 in
theorem c_areTwo (tl : List (Nat × Nat)) (I : Nat → Nat → Int32) (L : Nat → Nat → Int64) (rd : Nat → Nat → Option Nat) (a b : Int32) (r : Int32) (hr : (twoP I a b → r = 1) ∧ (¬ (twoP I a b) → r = 0)) : Call 146 [.ref 0, .int a, .int b] (mk tl I L rd) (some (.int r)) (mk tl I L rd) := by
  show Runs 146 0 [some (.ref 0), some (.int a), some (.int b)] [] (mk tl I L rd) (some (.int r)) (mk tl I L rd)
  refine Runs.bl 3 (g := true) (i' := if decide (a = b) = true then 17 else 3) (ls' := [some (.ref 0), some (.int a), some (.int b)]) (st' := []) (M' := mk tl I L rd) rfl rfl ?_
  refine Runs.brP (fun h1 => ?_) (fun h1 => ?_)
  · skip
    refine Runs.bl 1 (g := true) (i' := 18) (ls' := [some (.ref 0), some (.int a), some (.int b)]) (st' := [.int (0 : Int32)]) (M' := mk tl I L rd) rfl rfl ?_
    exact Runs.re rfl rfl (by rw [hr.2 (by simp_all [twoP])]) rfl
  · skip
    refine Runs.bl 4 (g := true) (i' := 7) (ls' := [some (.ref 0), some (.int a), some (.int b)]) (st' := [.int a, .ref 2]) (M' := mk tl I L rd) rfl rfl ?_
    by_cases h2 : hasQ I a
    · skip
      refine Runs.call (k' := 55) (as := [.ref 2, .int a]) (rest := []) (r1 := some (.int (1 : Int32))) (M1 := mk tl I L rd) rfl rfl rfl (c_hasQ tl I L rd a 1 (bt h2)) ?_
      refine Runs.bl 5 (g := true) (i' := 13) (ls' := [some (.ref 0), some (.int a), some (.int b)]) (st' := [.int b, .ref 2]) (M' := mk tl I L rd) rfl rfl ?_
      by_cases h3 : hasQ I b
      · skip
        refine Runs.call (k' := 55) (as := [.ref 2, .int b]) (rest := []) (r1 := some (.int (1 : Int32))) (M1 := mk tl I L rd) rfl rfl rfl (c_hasQ tl I L rd b 1 (bt h3)) ?_
        refine Runs.bl 3 (g := true) (i' := 18) (ls' := [some (.ref 0), some (.int a), some (.int b)]) (st' := [.int (1 : Int32)]) (M' := mk tl I L rd) rfl rfl ?_
        exact Runs.re rfl rfl (by rw [hr.1 (by simp_all [twoP])]) rfl
      · skip
        refine Runs.call (k' := 55) (as := [.ref 2, .int b]) (rest := []) (r1 := some (.int (0 : Int32))) (M1 := mk tl I L rd) rfl rfl rfl (c_hasQ tl I L rd b 0 (bf h3)) ?_
        refine Runs.bl 2 (g := true) (i' := 18) (ls' := [some (.ref 0), some (.int a), some (.int b)]) (st' := [.int (0 : Int32)]) (M' := mk tl I L rd) rfl rfl ?_
        exact Runs.re rfl rfl (by rw [hr.2 (by simp_all [twoP])]) rfl
    · skip
      refine Runs.call (k' := 55) (as := [.ref 2, .int a]) (rest := []) (r1 := some (.int (0 : Int32))) (M1 := mk tl I L rd) rfl rfl rfl (c_hasQ tl I L rd a 0 (bf h2)) ?_
      refine Runs.bl 2 (g := true) (i' := 18) (ls' := [some (.ref 0), some (.int a), some (.int b)]) (st' := [.int (0 : Int32)]) (M' := mk tl I L rd) rfl rfl ?_
      exact Runs.re rfl rfl (by rw [hr.2 (by simp_all [twoP])]) rfl

set_option maxRecDepth 20000 in
theorem c_comesAhead (tl : List (Nat × Nat)) (I : Nat → Nat → Int32) (L : Nat → Nat → Int64) (rd : Nat → Nat → Option Nat) (a b : Int32) (r : Int32) (ha : 0 ≤ a.toInt ∧ a.toInt < 12) (hb : 0 ≤ b.toInt ∧ b.toInt < 12) (hr : (ahdP I a b → r = 1) ∧ (¬ (ahdP I a b) → r = 0)) : Call 61 [.ref 2, .int a, .int b] (mk tl I L rd) (some (.int r)) (mk tl I L rd) := by
  show Runs 61 0 [some (.ref 2), some (.int a), some (.int b)] [] (mk tl I L rd) (some (.int r)) (mk tl I L rd)
  refine Runs.bl 9 (g := inb a 12 && inb b 12 && true) (i' := if decide ((I 10 a.toNatClampNeg) = (I 10 b.toNatClampNeg)) = true then 22 else 9) (ls' := [some (.ref 2), some (.int a), some (.int b)]) (st' := []) (M' := mk tl I L rd) rfl (by simp only [Bool.and_true, Bool.and_eq_true, inb_iff, Int32.lt_iff_toInt_lt, Int32.le_iff_toInt_le, toI_0, toI_1, toI_2, toI_3, toI_4, toI_8, toI_9, toI_12, toI_20, toI_23, toI_39, toI_40, toI_60, toI_100, toI_200, toI_600, toI_1000, toI_9999, toI_10000, toI_100000, toI_1000000, toI_m1, toI_m100000] at ha hb ⊢; omega) ?_
  refine Runs.brP (fun h1 => ?_) (fun h1 => ?_)
  · skip
    refine Runs.bl 9 (g := inb a 12 && inb b 12 && true) (i' := if decide ((I 5 b.toNatClampNeg) ≤ (I 5 a.toNatClampNeg)) = true then 33 else 31) (ls' := [some (.ref 2), some (.int a), some (.int b)]) (st' := []) (M' := mk tl I L rd) rfl (by simp only [Bool.and_true, Bool.and_eq_true, inb_iff, Int32.lt_iff_toInt_lt, Int32.le_iff_toInt_le, toI_0, toI_1, toI_2, toI_3, toI_4, toI_8, toI_9, toI_12, toI_20, toI_23, toI_39, toI_40, toI_60, toI_100, toI_200, toI_600, toI_1000, toI_9999, toI_10000, toI_100000, toI_1000000, toI_m1, toI_m100000] at h1 ha hb ⊢; omega) ?_
    refine Runs.brP (fun h2 => ?_) (fun h2 => ?_)
    · skip
      refine Runs.bl 1 (g := true) (i' := 34) (ls' := [some (.ref 2), some (.int a), some (.int b)]) (st' := [.int (0 : Int32)]) (M' := mk tl I L rd) rfl rfl ?_
      exact Runs.re rfl rfl (by rw [hr.2 (by simp only [ahdP]; simp_all)]) rfl
    · skip
      refine Runs.bl 2 (g := true) (i' := 34) (ls' := [some (.ref 2), some (.int a), some (.int b)]) (st' := [.int (1 : Int32)]) (M' := mk tl I L rd) rfl rfl ?_
      exact Runs.re rfl rfl (by rw [hr.1 (by simp only [ahdP]; simp_all)]) rfl
  · skip
    refine Runs.bl 9 (g := inb a 12 && inb b 12 && true) (i' := if decide ((I 10 b.toNatClampNeg) ≤ (I 10 a.toNatClampNeg)) = true then 20 else 18) (ls' := [some (.ref 2), some (.int a), some (.int b)]) (st' := []) (M' := mk tl I L rd) rfl (by simp only [Bool.and_true, Bool.and_eq_true, inb_iff, Int32.lt_iff_toInt_lt, Int32.le_iff_toInt_le, toI_0, toI_1, toI_2, toI_3, toI_4, toI_8, toI_9, toI_12, toI_20, toI_23, toI_39, toI_40, toI_60, toI_100, toI_200, toI_600, toI_1000, toI_9999, toI_10000, toI_100000, toI_1000000, toI_m1, toI_m100000] at h1 ha hb ⊢; omega) ?_
    refine Runs.brP (fun h3 => ?_) (fun h3 => ?_)
    · skip
      refine Runs.bl 1 (g := true) (i' := 21) (ls' := [some (.ref 2), some (.int a), some (.int b)]) (st' := [.int (0 : Int32)]) (M' := mk tl I L rd) rfl rfl ?_
      exact Runs.re rfl rfl (by rw [hr.2 (by simp only [ahdP]; simp_all)]) rfl
    · skip
      refine Runs.bl 2 (g := true) (i' := 21) (ls' := [some (.ref 2), some (.int a), some (.int b)]) (st' := [.int (1 : Int32)]) (M' := mk tl I L rd) rfl rfl ?_
      exact Runs.re rfl rfl (by rw [hr.1 (by simp only [ahdP]; simp_all)]) rfl

