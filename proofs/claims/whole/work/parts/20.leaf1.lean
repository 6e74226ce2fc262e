/-! leaves of the class: contracts -/
theorem bt {P : Prop} (h : P) : (P → (1 : Int32) = 1) ∧ (¬ P → (1 : Int32) = 0) := ⟨fun _ => rfl, fun z => absurd h z⟩
theorem bf {P : Prop} (h : ¬ P) : (P → (0 : Int32) = 1) ∧ (¬ P → (0 : Int32) = 0) := ⟨fun z => absurd z h, fun _ => rfl⟩
theorem Runs.brT {k a b : Nat} {P : Prop} [Decidable P] {ls : Lz} {st : List Value} {M : Mm} {r : Option Value} {Me : Mm} (h : P) (h1 : Runs k a ls st M r Me) : Runs k (if decide P = true then a else b) ls st M r Me := by rw [if_pos (decide_eq_true h)]; exact h1
theorem Runs.brF {k a b : Nat} {P : Prop} [Decidable P] {ls : Lz} {st : List Value} {M : Mm} {r : Option Value} {Me : Mm} (h : ¬ P) (h1 : Runs k b ls st M r Me) : Runs k (if decide P = true then a else b) ls st M r Me := by rw [if_neg (fun z => h (of_decide_eq_true z))]; exact h1
theorem inb_iff {j : Int32} {n : Nat} : inb j n = true ↔ 0 ≤ j.toInt ∧ j.toInt < n := by
  rw [← vp_in_iff]
  unfold inb vp_in
  simp only [Bool.and_eq_true, decide_eq_true_eq, not_or, Nat.not_le]
theorem toI_0 : (0 : Int32).toInt = 0 := by decide

theorem toI_1 : (1 : Int32).toInt = 1 := by decide
theorem toI_2 : (2 : Int32).toInt = 2 := by decide
theorem toI_3 : (3 : Int32).toInt = 3 := by decide
theorem toI_4 : (4 : Int32).toInt = 4 := by decide
theorem toI_8 : (8 : Int32).toInt = 8 := by decide
theorem toI_9 : (9 : Int32).toInt = 9 := by decide
theorem toI_12 : (12 : Int32).toInt = 12 := by decide
theorem toI_20 : (20 : Int32).toInt = 20 := by decide
theorem toI_23 : (23 : Int32).toInt = 23 := by decide
theorem toI_39 : (39 : Int32).toInt = 39 := by decide
theorem toI_40 : (40 : Int32).toInt = 40 := by decide
theorem toI_60 : (60 : Int32).toInt = 60 := by decide
theorem toI_100 : (100 : Int32).toInt = 100 := by decide
theorem toI_200 : (200 : Int32).toInt = 200 := by decide
theorem toI_600 : (600 : Int32).toInt = 600 := by decide
theorem toI_1000 : (1000 : Int32).toInt = 1000 := by decide
theorem toI_9999 : (9999 : Int32).toInt = 9999 := by decide
theorem toI_10000 : (10000 : Int32).toInt = 10000 := by decide
theorem toI_100000 : (100000 : Int32).toInt = 100000 := by decide
theorem toI_1000000 : (1000000 : Int32).toInt = 1000000 := by decide
theorem toI_m1 : (-1 : Int32).toInt = -1 := by decide
theorem toI_m100000 : (-100000 : Int32).toInt = -100000 := by decide
def hasP (I : Nat → Nat → Int32) (a N : Nat) (d : Int32) : Prop := ¬ d < 0 ∧ ¬ I a 0 ≤ d ∧ ¬ nI N ≤ d
def liveP (I : Nat → Nat → Int32) (d : Int32) : Prop := ¬ d < 0 ∧ ¬ I 16 0 ≤ d ∧ ¬ 40 ≤ d ∧ I 24 d.toNatClampNeg = 0
def hasD (I : Nat → Nat → Int32) (d : Int32) : Prop := ¬ d < 0 ∧ ¬ I 16 0 ≤ d ∧ ¬ 40 ≤ d
def hasQ (I : Nat → Nat → Int32) (p : Int32) : Prop := ¬ p < 0 ∧ ¬ I 2 0 ≤ p ∧ ¬ 12 ≤ p
def heldP (I : Nat → Nat → Int32) (p : Int32) : Prop := ¬ p < 0 ∧ ¬ I 2 0 ≤ p ∧ ¬ 12 ≤ p ∧ ¬ I 5 p.toNatClampNeg = -1
def outP (n a b : Int32) : Prop := n < a ∨ b < n

set_option maxRecDepth 20000 in
theorem c_hasD (tl : List (Nat × Nat)) (I : Nat → Nat → Int32) (L : Nat → Nat → Int64) (rd : Nat → Nat → Option Nat) (d : Int32) (r : Int32) (hr : (hasD I d → r = 1) ∧ (¬ (hasD I d) → r = 0)) : Call 6 [.ref 16, .int d] (mk tl I L rd) (some (.int r)) (mk tl I L rd) := by
  show Runs 6 0 [some (.ref 16), some (.int d)] [] (mk tl I L rd) (some (.int r)) (mk tl I L rd)
  refine Runs.bl 2 (g := true) (i' := if decide (d < 0) = true then 11 else 2) (ls' := [some (.ref 16), some (.int d)]) (st' := []) (M' := mk tl I L rd) rfl rfl ?_
  refine Runs.brP (fun h1 => ?_) (fun h1 => ?_)
  · skip
    refine Runs.bl 1 (g := true) (i' := 12) (ls' := [some (.ref 16), some (.int d)]) (st' := [.int (0 : Int32)]) (M' := mk tl I L rd) rfl rfl ?_
    exact Runs.re rfl rfl (by rw [hr.2 (by simp_all [hasD])]) rfl
  · skip
    refine Runs.bl 4 (g := true) (i' := if decide ((I 16 0) ≤ d) = true then 11 else 6) (ls' := [some (.ref 16), some (.int d)]) (st' := []) (M' := mk tl I L rd) rfl rfl ?_
    refine Runs.brP (fun h2 => ?_) (fun h2 => ?_)
    · skip
      refine Runs.bl 1 (g := true) (i' := 12) (ls' := [some (.ref 16), some (.int d)]) (st' := [.int (0 : Int32)]) (M' := mk tl I L rd) rfl rfl ?_
      exact Runs.re rfl rfl (by rw [hr.2 (by simp_all [hasD])]) rfl
    · skip
      refine Runs.bl 3 (g := true) (i' := if decide ((40 : Int32) ≤ d) = true then 11 else 9) (ls' := [some (.ref 16), some (.int d)]) (st' := []) (M' := mk tl I L rd) rfl rfl ?_
      refine Runs.brP (fun h3 => ?_) (fun h3 => ?_)
      · skip
        refine Runs.bl 1 (g := true) (i' := 12) (ls' := [some (.ref 16), some (.int d)]) (st' := [.int (0 : Int32)]) (M' := mk tl I L rd) rfl rfl ?_
        exact Runs.re rfl rfl (by rw [hr.2 (by simp_all [hasD])]) rfl
      · skip
        refine Runs.bl 2 (g := true) (i' := 12) (ls' := [some (.ref 16), some (.int d)]) (st' := [.int (1 : Int32)]) (M' := mk tl I L rd) rfl rfl ?_
        exact Runs.re rfl rfl (by rw [hr.1 (by simp_all [hasD])]) rfl

set_option maxRecDepth 20000 in
theorem c_isLive (tl : List (Nat × Nat)) (I : Nat → Nat → Int32) (L : Nat → Nat → Int64) (rd : Nat → Nat → Option Nat) (d : Int32) (r : Int32) (hr : (liveP I d → r = 1) ∧ (¬ (liveP I d) → r = 0)) : Call 7 [.ref 16, .int d] (mk tl I L rd) (some (.int r)) (mk tl I L rd) := by
  show Runs 7 0 [some (.ref 16), some (.int d)] [] (mk tl I L rd) (some (.int r)) (mk tl I L rd)
  refine Runs.bl 2 (g := true) (i' := if decide (d < 0) = true then 16 else 2) (ls' := [some (.ref 16), some (.int d)]) (st' := []) (M' := mk tl I L rd) rfl rfl ?_
  refine Runs.brP (fun h1 => ?_) (fun h1 => ?_)
  · skip
    refine Runs.bl 1 (g := true) (i' := 17) (ls' := [some (.ref 16), some (.int d)]) (st' := [.int (0 : Int32)]) (M' := mk tl I L rd) rfl rfl ?_
    exact Runs.re rfl rfl (by rw [hr.2 (by simp_all [liveP])]) rfl
  · skip
    refine Runs.bl 4 (g := true) (i' := if decide ((I 16 0) ≤ d) = true then 16 else 6) (ls' := [some (.ref 16), some (.int d)]) (st' := []) (M' := mk tl I L rd) rfl rfl ?_
    refine Runs.brP (fun h2 => ?_) (fun h2 => ?_)
    · skip
      refine Runs.bl 1 (g := true) (i' := 17) (ls' := [some (.ref 16), some (.int d)]) (st' := [.int (0 : Int32)]) (M' := mk tl I L rd) rfl rfl ?_
      exact Runs.re rfl rfl (by rw [hr.2 (by simp_all [liveP])]) rfl
    · skip
      refine Runs.bl 3 (g := true) (i' := if decide ((40 : Int32) ≤ d) = true then 16 else 9) (ls' := [some (.ref 16), some (.int d)]) (st' := []) (M' := mk tl I L rd) rfl rfl ?_
      refine Runs.brP (fun h3 => ?_) (fun h3 => ?_)
      · skip
        refine Runs.bl 1 (g := true) (i' := 17) (ls' := [some (.ref 16), some (.int d)]) (st' := [.int (0 : Int32)]) (M' := mk tl I L rd) rfl rfl ?_
        exact Runs.re rfl rfl (by rw [hr.2 (by simp_all [liveP])]) rfl
      · skip
        refine Runs.bl 5 (g := inb d 40 && true) (i' := if decide (¬ (I 24 d.toNatClampNeg) = 0) = true then 16 else 14) (ls' := [some (.ref 16), some (.int d)]) (st' := []) (M' := mk tl I L rd) rfl (by simp only [Bool.and_true, Bool.and_eq_true, inb_iff, Int32.lt_iff_toInt_lt, Int32.le_iff_toInt_le, toI_0, toI_1, toI_2, toI_3, toI_4, toI_8, toI_9, toI_12, toI_20, toI_23, toI_39, toI_40, toI_60, toI_100, toI_200, toI_600, toI_1000, toI_9999, toI_10000, toI_100000, toI_1000000, toI_m1, toI_m100000] at h1 h2 h3 ⊢; omega) ?_
        refine Runs.brP (fun h4 => ?_) (fun h4 => ?_)
        · skip
          refine Runs.bl 1 (g := true) (i' := 17) (ls' := [some (.ref 16), some (.int d)]) (st' := [.int (0 : Int32)]) (M' := mk tl I L rd) rfl rfl ?_
          exact Runs.re rfl rfl (by rw [hr.2 (by simp_all [liveP])]) rfl
        · skip
          refine Runs.bl 2 (g := true) (i' := 17) (ls' := [some (.ref 16), some (.int d)]) (st' := [.int (1 : Int32)]) (M' := mk tl I L rd) rfl rfl ?_
          exact Runs.re rfl rfl (by rw [hr.1 (by simp_all [liveP])]) rfl

set_option maxRecDepth 20000 in
theorem c_hasQ (tl : List (Nat × Nat)) (I : Nat → Nat → Int32) (L : Nat → Nat → Int64) (rd : Nat → Nat → Option Nat) (p : Int32) (r : Int32) (hr : (hasQ I p → r = 1) ∧ (¬ (hasQ I p) → r = 0)) : Call 55 [.ref 2, .int p] (mk tl I L rd) (some (.int r)) (mk tl I L rd) := by
  show Runs 55 0 [some (.ref 2), some (.int p)] [] (mk tl I L rd) (some (.int r)) (mk tl I L rd)
  refine Runs.bl 2 (g := true) (i' := if decide (p < 0) = true then 11 else 2) (ls' := [some (.ref 2), some (.int p)]) (st' := []) (M' := mk tl I L rd) rfl rfl ?_
  refine Runs.brP (fun h1 => ?_) (fun h1 => ?_)
  · skip
    refine Runs.bl 1 (g := true) (i' := 12) (ls' := [some (.ref 2), some (.int p)]) (st' := [.int (0 : Int32)]) (M' := mk tl I L rd) rfl rfl ?_
    exact Runs.re rfl rfl (by rw [hr.2 (by simp_all [hasQ])]) rfl
  · skip
    refine Runs.bl 4 (g := true) (i' := if decide ((I 2 0) ≤ p) = true then 11 else 6) (ls' := [some (.ref 2), some (.int p)]) (st' := []) (M' := mk tl I L rd) rfl rfl ?_
    refine Runs.brP (fun h2 => ?_) (fun h2 => ?_)
    · skip
      refine Runs.bl 1 (g := true) (i' := 12) (ls' := [some (.ref 2), some (.int p)]) (st' := [.int (0 : Int32)]) (M' := mk tl I L rd) rfl rfl ?_
      exact Runs.re rfl rfl (by rw [hr.2 (by simp_all [hasQ])]) rfl
    · skip
      refine Runs.bl 3 (g := true) (i' := if decide ((12 : Int32) ≤ p) = true then 11 else 9) (ls' := [some (.ref 2), some (.int p)]) (st' := []) (M' := mk tl I L rd) rfl rfl ?_
      refine Runs.brP (fun h3 => ?_) (fun h3 => ?_)
      · skip
        refine Runs.bl 1 (g := true) (i' := 12) (ls' := [some (.ref 2), some (.int p)]) (st' := [.int (0 : Int32)]) (M' := mk tl I L rd) rfl rfl ?_
        exact Runs.re rfl rfl (by rw [hr.2 (by simp_all [hasQ])]) rfl
      · skip
        refine Runs.bl 2 (g := true) (i' := 12) (ls' := [some (.ref 2), some (.int p)]) (st' := [.int (1 : Int32)]) (M' := mk tl I L rd) rfl rfl ?_
        exact Runs.re rfl rfl (by rw [hr.1 (by simp_all [hasQ])]) rfl

set_option maxRecDepth 20000 in
theorem c_isHeld (tl : List (Nat × Nat)) (I : Nat → Nat → Int32) (L : Nat → Nat → Int64) (rd : Nat → Nat → Option Nat) (p : Int32) (r : Int32) (hr : (heldP I p → r = 1) ∧ (¬ (heldP I p) → r = 0)) : Call 56 [.ref 2, .int p] (mk tl I L rd) (some (.int r)) (mk tl I L rd) := by
  show Runs 56 0 [some (.ref 2), some (.int p)] [] (mk tl I L rd) (some (.int r)) (mk tl I L rd)
  refine Runs.bl 2 (g := true) (i' := if decide (p < 0) = true then 17 else 2) (ls' := [some (.ref 2), some (.int p)]) (st' := []) (M' := mk tl I L rd) rfl rfl ?_
  refine Runs.brP (fun h1 => ?_) (fun h1 => ?_)
  · skip
    refine Runs.bl 1 (g := true) (i' := 18) (ls' := [some (.ref 2), some (.int p)]) (st' := [.int (0 : Int32)]) (M' := mk tl I L rd) rfl rfl ?_
    exact Runs.re rfl rfl (by rw [hr.2 (by simp_all [heldP])]) rfl
  · skip
    refine Runs.bl 4 (g := true) (i' := if decide ((I 2 0) ≤ p) = true then 17 else 6) (ls' := [some (.ref 2), some (.int p)]) (st' := []) (M' := mk tl I L rd) rfl rfl ?_
    refine Runs.brP (fun h2 => ?_) (fun h2 => ?_)
    · skip
      refine Runs.bl 1 (g := true) (i' := 18) (ls' := [some (.ref 2), some (.int p)]) (st' := [.int (0 : Int32)]) (M' := mk tl I L rd) rfl rfl ?_
      exact Runs.re rfl rfl (by rw [hr.2 (by simp_all [heldP])]) rfl
    · skip
      refine Runs.bl 3 (g := true) (i' := if decide ((12 : Int32) ≤ p) = true then 17 else 9) (ls' := [some (.ref 2), some (.int p)]) (st' := []) (M' := mk tl I L rd) rfl rfl ?_
      refine Runs.brP (fun h3 => ?_) (fun h3 => ?_)
      · skip
        refine Runs.bl 1 (g := true) (i' := 18) (ls' := [some (.ref 2), some (.int p)]) (st' := [.int (0 : Int32)]) (M' := mk tl I L rd) rfl rfl ?_
        exact Runs.re rfl rfl (by rw [hr.2 (by simp_all [heldP])]) rfl
      · skip
        refine Runs.bl 6 (g := inb p 12 && true) (i' := if decide ((I 5 p.toNatClampNeg) = (-1 : Int32)) = true then 17 else 15) (ls' := [some (.ref 2), some (.int p)]) (st' := []) (M' := mk tl I L rd) rfl (by simp only [Bool.and_true, Bool.and_eq_true, inb_iff, Int32.lt_iff_toInt_lt, Int32.le_iff_toInt_le, toI_0, toI_1, toI_2, toI_3, toI_4, toI_8, toI_9, toI_12, toI_20, toI_23, toI_39, toI_40, toI_60, toI_100, toI_200, toI_600, toI_1000, toI_9999, toI_10000, toI_100000, toI_1000000, toI_m1, toI_m100000] at h1 h2 h3 ⊢; omega) ?_
        refine Runs.brP (fun h4 => ?_) (fun h4 => ?_)
        · skip
          refine Runs.bl 1 (g := true) (i' := 18) (ls' := [some (.ref 2), some (.int p)]) (st' := [.int (0 : Int32)]) (M' := mk tl I L rd) rfl rfl ?_
          exact Runs.re rfl rfl (by rw [hr.2 (by simp_all [heldP])]) rfl
        · skip
          refine Runs.bl 2 (g := true) (i' := 18) (ls' := [some (.ref 2), some (.int p)]) (st' := [.int (1 : Int32)]) (M' := mk tl I L rd) rfl rfl ?_
          exact Runs.re rfl rfl (by rw [hr.1 (by simp_all [heldP])]) rfl

set_option maxRecDepth 20000 in
theorem c_outside (tl : List (Nat × Nat)) (I : Nat → Nat → Int32) (L : Nat → Nat → Int64) (rd : Nat → Nat → Option Nat) (n a b : Int32) (r : Int32) (hr : (outP n a b → r = 1) ∧ (¬ (outP n a b) → r = 0)) : Call 147 [.int n, .int a, .int b] (mk tl I L rd) (some (.int r)) (mk tl I L rd) := by
  show Runs 147 0 [some (.int n), some (.int a), some (.int b)] [] (mk tl I L rd) (some (.int r)) (mk tl I L rd)
  refine Runs.bl 3 (g := true) (i' := if decide (n < a) = true then 6 else 3) (ls' := [some (.int n), some (.int a), some (.int b)]) (st' := []) (M' := mk tl I L rd) rfl rfl ?_
  refine Runs.brP (fun h1 => ?_) (fun h1 => ?_)
  · skip
    refine Runs.bl 2 (g := true) (i' := 9) (ls' := [some (.int n), some (.int a), some (.int b)]) (st' := [.int (1 : Int32)]) (M' := mk tl I L rd) rfl rfl ?_
    exact Runs.re rfl rfl (by rw [hr.1 (by simp_all [outP])]) rfl
  · skip
    refine Runs.bl 3 (g := true) (i' := if decide (n ≤ b) = true then 8 else 6) (ls' := [some (.int n), some (.int a), some (.int b)]) (st' := []) (M' := mk tl I L rd) rfl rfl ?_
    refine Runs.brP (fun h2 => ?_) (fun h2 => ?_)
    · skip
      refine Runs.bl 1 (g := true) (i' := 9) (ls' := [some (.int n), some (.int a), some (.int b)]) (st' := [.int (0 : Int32)]) (M' := mk tl I L rd) rfl rfl ?_
      exact Runs.re rfl rfl (by rw [hr.2 (by simp_all [outP])]) rfl
    · skip
      refine Runs.bl 2 (g := true) (i' := 9) (ls' := [some (.int n), some (.int a), some (.int b)]) (st' := [.int (1 : Int32)]) (M' := mk tl I L rd) rfl rfl ?_
      exact Runs.re rfl rfl (by rw [hr.1 (by simp_all [outP])]) rfl

def intF (I : Nat → Nat → Int32) (d : Nat) (day : Int32) : Int32 := I 26 d + ((I 25 d).toInt64 * (I 21 d).toInt64 * (day - I 27 d).toInt64 / 360000).toInt32
theorem live_rng {I : Nat → Nat → Int32} {d : Int32} (h : liveP I d) : 0 ≤ d.toInt ∧ d.toInt < 40 := by
  obtain ⟨h1, -, h2, -⟩ := h
  simp only [Bool.and_true, Bool.and_eq_true, inb_iff, Int32.lt_iff_toInt_lt, Int32.le_iff_toInt_le, toI_0, toI_1, toI_2, toI_3, toI_4, toI_8, toI_9, toI_12, toI_20, toI_23, toI_39, toI_40, toI_60, toI_100, toI_200, toI_600, toI_1000, toI_9999, toI_10000, toI_100000, toI_1000000, toI_m1, toI_m100000] at h1 h2
  omega

set_option maxRecDepth 20000 in
theorem c_interestOn (tl : List (Nat × Nat)) (I : Nat → Nat → Int32) (L : Nat → Nat → Int64) (rd : Nat → Nat → Option Nat) (d day : Int32) (hd : 0 ≤ d.toInt ∧ d.toInt < 40) : Call 10 [.ref 16, .int d, .int day] (mk tl I L rd) (some (.int (intF I d.toNatClampNeg day))) (mk tl I L rd) := by
  show Runs 10 0 [some (.ref 16), some (.int d), some (.int day), none, none] [] (mk tl I L rd) (some (.int (intF I d.toNatClampNeg day))) (mk tl I L rd)
  refine Runs.bl 29 (g := inb d 40 && inb d 40 && inb d 40 && inb d 40 && true) (i' := 29) (ls' := [some (.ref 16), some (.int d), some (.int day), some (.long (((((I 25 d.toNatClampNeg).toInt64) * ((I 21 d.toNatClampNeg).toInt64)) * ((day - (I 27 d.toNatClampNeg)).toInt64)) / (360000 : Int64))), none]) (st' := [.int ((I 26 d.toNatClampNeg) + ((((((I 25 d.toNatClampNeg).toInt64) * ((I 21 d.toNatClampNeg).toInt64)) * ((day - (I 27 d.toNatClampNeg)).toInt64)) / (360000 : Int64)).toInt32))]) (M' := mk tl I L rd) rfl (by simp only [Bool.and_true, Bool.and_eq_true, inb_iff, Int32.lt_iff_toInt_lt, Int32.le_iff_toInt_le, toI_0, toI_1, toI_2, toI_3, toI_4, toI_8, toI_9, toI_12, toI_20, toI_23, toI_39, toI_40, toI_60, toI_100, toI_200, toI_600, toI_1000, toI_9999, toI_10000, toI_100000, toI_1000000, toI_m1, toI_m100000] at hd ⊢; omega) ?_
  exact Runs.re rfl rfl (by rfl) rfl

theorem loopU {P : Nat → Prop} (N : Nat) (hs : ∀ j, j < N → P (j + 1) → P j) (he : P N) : ∀ j, j ≤ N → P j := by
  have key : ∀ d j, j + d = N → P j := by
    intro d
    induction d with
    | zero => intro j hj; rw [Nat.add_zero] at hj; rw [hj]; exact he
    | succ d ih => intro j hj; exact hs j (by omega) (ih (j + 1) (by omega))
  exact fun j hj => key (N - j) j (by omega)
theorem Runs.cg {k i : Nat} {ls ls' : Lz} {st : List Value} {M M' : Mm} {r : Option Value} {Me : Mm} (e : ls' = ls) (eM : M' = M) (h : Runs k i ls st M r Me) : Runs k i ls' st M' r Me := by subst e; subst eM; exact h
def sumI (f : Nat → Int32) : Nat → Int32
  | 0 => 0
  | n + 1 => sumI f n + f n
theorem v_ls {a b c d : Value} {l l' : Lz} (h : a = c) (h2 : l = l') : (some a :: l) = (some c :: l') := by rw [h, h2]
def owesP (I : Nat → Nat → Int32) (p d : Int32) : Prop := liveP I d ∧ I 17 d.toNatClampNeg = p
noncomputable def dueI (I : Nat → Nat → Int32) (d day : Int32) : Int32 := by
  classical exact if liveP I d then I 28 d.toNatClampNeg + intF I d.toNatClampNeg day + I 25 d.toNatClampNeg else 0
theorem dueI_t {I : Nat → Nat → Int32} {d day : Int32} (h : liveP I d) : dueI I d day = I 28 d.toNatClampNeg + intF I d.toNatClampNeg day + I 25 d.toNatClampNeg := by unfold dueI; rw [if_pos h]
theorem dueI_f {I : Nat → Nat → Int32} {d day : Int32} (h : ¬ liveP I d) : dueI I d day = 0 := by unfold dueI; rw [if_neg h]

set_option maxRecDepth 20000 in
theorem c_due (tl : List (Nat × Nat)) (I : Nat → Nat → Int32) (L : Nat → Nat → Int64) (rd : Nat → Nat → Option Nat) (d day : Int32)  : Call 11 [.ref 16, .int d, .int day] (mk tl I L rd) (some (.int (dueI I d day))) (mk tl I L rd) := by
  show Runs 11 0 [some (.ref 16), some (.int d), some (.int day)] [] (mk tl I L rd) (some (.int (dueI I d day))) (mk tl I L rd)
  refine Runs.bl 2 (g := true) (i' := 2) (ls' := [some (.ref 16), some (.int d), some (.int day)]) (st' := [.int d, .ref 16]) (M' := mk tl I L rd) rfl rfl ?_
  by_cases h1 : liveP I d
  · skip
    refine Runs.call (k' := 7) (as := [.ref 16, .int d]) (rest := []) (r1 := some (.int (1 : Int32))) (M1 := mk tl I L rd) rfl rfl rfl (c_isLive tl I L rd d 1 (bt h1)) ?_
    refine Runs.bl 8 (g := inb d 40 && true) (i' := 11) (ls' := [some (.ref 16), some (.int d), some (.int day)]) (st' := [.int day, .int d, .ref 16, .int (I 28 d.toNatClampNeg)]) (M' := mk tl I L rd) rfl (by have hq := live_rng h1; simp only [Bool.and_true, Bool.and_eq_true, inb_iff, Int32.lt_iff_toInt_lt, Int32.le_iff_toInt_le, toI_0, toI_1, toI_2, toI_3, toI_4, toI_8, toI_9, toI_12, toI_20, toI_23, toI_39, toI_40, toI_60, toI_100, toI_200, toI_600, toI_1000, toI_9999, toI_10000, toI_100000, toI_1000000, toI_m1, toI_m100000]; omega) ?_
    refine Runs.call (k' := 10) (as := [.ref 16, .int d, .int day]) (rest := [.int (I 28 d.toNatClampNeg)]) (r1 := some (.int (intF I d.toNatClampNeg day))) (M1 := mk tl I L rd) rfl rfl rfl (c_interestOn tl I L rd d day (live_rng h1)) ?_
    refine Runs.bl 7 (g := inb d 40 && true) (i' := 20) (ls' := [some (.ref 16), some (.int d), some (.int day)]) (st' := [.int (((I 28 d.toNatClampNeg) + (intF I d.toNatClampNeg day)) + (I 25 d.toNatClampNeg))]) (M' := mk tl I L rd) rfl (by have hq := live_rng h1; simp only [Bool.and_true, Bool.and_eq_true, inb_iff, Int32.lt_iff_toInt_lt, Int32.le_iff_toInt_le, toI_0, toI_1, toI_2, toI_3, toI_4, toI_8, toI_9, toI_12, toI_20, toI_23, toI_39, toI_40, toI_60, toI_100, toI_200, toI_600, toI_1000, toI_9999, toI_10000, toI_100000, toI_1000000, toI_m1, toI_m100000]; omega) ?_
    exact Runs.re rfl rfl (by rw [dueI_t h1]) rfl
  · skip
    refine Runs.call (k' := 7) (as := [.ref 16, .int d]) (rest := []) (r1 := some (.int (0 : Int32))) (M1 := mk tl I L rd) rfl rfl rfl (c_isLive tl I L rd d 0 (bf h1)) ?_
    refine Runs.bl 2 (g := true) (i' := 20) (ls' := [some (.ref 16), some (.int d), some (.int day)]) (st' := [.int (0 : Int32)]) (M' := mk tl I L rd) rfl rfl ?_
    exact Runs.re rfl rfl (by rw [dueI_f h1]) rfl

set_option maxRecDepth 20000 in
theorem c_owes (tl : List (Nat × Nat)) (I : Nat → Nat → Int32) (L : Nat → Nat → Int64) (rd : Nat → Nat → Option Nat) (p d : Int32) (r : Int32) (hr : (owesP I p d → r = 1) ∧ (¬ (owesP I p d) → r = 0)) : Call 31 [.ref 1, .int p, .int d] (mk tl I L rd) (some (.int r)) (mk tl I L rd) := by
  show Runs 31 0 [some (.ref 1), some (.int p), some (.int d)] [] (mk tl I L rd) (some (.int r)) (mk tl I L rd)
  refine Runs.bl 3 (g := true) (i' := 3) (ls' := [some (.ref 1), some (.int p), some (.int d)]) (st' := [.int d, .ref 16]) (M' := mk tl I L rd) rfl rfl ?_
  by_cases h1 : liveP I d
  · skip
    refine Runs.call (k' := 7) (as := [.ref 16, .int d]) (rest := []) (r1 := some (.int (1 : Int32))) (M1 := mk tl I L rd) rfl rfl rfl (c_isLive tl I L rd d 1 (bt h1)) ?_
    refine Runs.bl 8 (g := inb d 40 && true) (i' := if decide (¬ (I 17 d.toNatClampNeg) = p) = true then 14 else 12) (ls' := [some (.ref 1), some (.int p), some (.int d)]) (st' := []) (M' := mk tl I L rd) rfl (by have hq := live_rng h1; simp only [Bool.and_true, Bool.and_eq_true, inb_iff, Int32.lt_iff_toInt_lt, Int32.le_iff_toInt_le, toI_0, toI_1, toI_2, toI_3, toI_4, toI_8, toI_9, toI_12, toI_20, toI_23, toI_39, toI_40, toI_60, toI_100, toI_200, toI_600, toI_1000, toI_9999, toI_10000, toI_100000, toI_1000000, toI_m1, toI_m100000]; omega) ?_
    refine Runs.brP (fun h2 => ?_) (fun h2 => ?_)
    · skip
      refine Runs.bl 1 (g := true) (i' := 15) (ls' := [some (.ref 1), some (.int p), some (.int d)]) (st' := [.int (0 : Int32)]) (M' := mk tl I L rd) rfl rfl ?_
      exact Runs.re rfl rfl (by rw [hr.2 (by simp_all [owesP])]) rfl
    · skip
      refine Runs.bl 2 (g := true) (i' := 15) (ls' := [some (.ref 1), some (.int p), some (.int d)]) (st' := [.int (1 : Int32)]) (M' := mk tl I L rd) rfl rfl ?_
      exact Runs.re rfl rfl (by rw [hr.1 (by simp_all [owesP])]) rfl
  · skip
    refine Runs.call (k' := 7) (as := [.ref 16, .int d]) (rest := []) (r1 := some (.int (0 : Int32))) (M1 := mk tl I L rd) rfl rfl rfl (c_isLive tl I L rd d 0 (bf h1)) ?_
    refine Runs.bl 2 (g := true) (i' := 15) (ls' := [some (.ref 1), some (.int p), some (.int d)]) (st' := [.int (0 : Int32)]) (M' := mk tl I L rd) rfl rfl ?_
    exact Runs.re rfl rfl (by rw [hr.2 (by simp_all [owesP])]) rfl

noncomputable def oweF (I : Nat → Nat → Int32) (p : Int32) (d : Nat) : Int32 := by
  classical exact if owesP I p (nI d) then dueI I (nI d) (I 1 4) else 0
theorem oweF_t {I : Nat → Nat → Int32} {p : Int32} {d : Nat} (h : owesP I p (nI d)) : oweF I p d = dueI I (nI d) (I 1 4) := by unfold oweF; rw [if_pos h]
theorem oweF_f {I : Nat → Nat → Int32} {p : Int32} {d : Nat} (h : ¬ owesP I p (nI d)) : oweF I p d = 0 := by unfold oweF; rw [if_neg h]

set_option maxRecDepth 20000 in
theorem l_dueBy (tl : List (Nat × Nat)) (I : Nat → Nat → Int32) (L : Nat → Nat → Int64) (rd : Nat → Nat → Option Nat) (p : Int32) (m : Nat) (hm : I 16 0 = nI m) (h40 : m ≤ 40) : ∀ j, j ≤ m → Runs 32 4 [some (.ref 1), some (.int p), some (.int (sumI (oweF I p) j)), some (.int (nI j))] [] (mk tl I L rd) (some (.int (sumI (oweF I p) m))) (mk tl I L rd) := by
  refine loopU m (P := fun j => Runs 32 4 [some (.ref 1), some (.int p), some (.int (sumI (oweF I p) j)), some (.int (nI j))] [] (mk tl I L rd) (some (.int (sumI (oweF I p) m))) (mk tl I L rd)) (fun j hj ih => ?_) ?_
  · show Runs 32 4 [some (.ref 1), some (.int p), some (.int (sumI (oweF I p) j)), some (.int (nI j))] [] (mk tl I L rd) (some (.int (sumI (oweF I p) m))) (mk tl I L rd)
    refine Runs.bl 5 (g := true) (i' := if decide ((I 16 0) ≤ (nI j)) = true then 27 else 9) (ls' := [some (.ref 1), some (.int p), some (.int (sumI (oweF I p) j)), some (.int (nI j))]) (st' := []) (M' := mk tl I L rd) rfl rfl ?_
    refine Runs.brF (by rw [hm]; exact nI_ge hj (by omega)) ?_
    refine Runs.bl 4 (g := true) (i' := 13) (ls' := [some (.ref 1), some (.int p), some (.int (sumI (oweF I p) j)), some (.int (nI j))]) (st' := [.int (nI j), .int p, .ref 1, .int (sumI (oweF I p) j)]) (M' := mk tl I L rd) rfl rfl ?_
    by_cases h1 : owesP I p (nI j)
    · skip
      refine Runs.call (k' := 31) (as := [.ref 1, .int p, .int (nI j)]) (rest := [.int (sumI (oweF I p) j)]) (r1 := some (.int (1 : Int32))) (M1 := mk tl I L rd) rfl rfl rfl (c_owes tl I L rd p (nI j) 1 (bt h1)) ?_
      refine Runs.bl 6 (g := true) (i' := 20) (ls' := [some (.ref 1), some (.int p), some (.int (sumI (oweF I p) j)), some (.int (nI j))]) (st' := [.int (I 1 4), .int (nI j), .ref 16, .int (sumI (oweF I p) j)]) (M' := mk tl I L rd) rfl rfl ?_
      refine Runs.call (k' := 11) (as := [.ref 16, .int (nI j), .int (I 1 4)]) (rest := [.int (sumI (oweF I p) j)]) (r1 := some (.int (dueI I (nI j) (I 1 4)))) (M1 := mk tl I L rd) rfl rfl rfl (c_due tl I L rd (nI j) (I 1 4)) ?_
      refine Runs.bl 5 (g := true) (i' := 4) (ls' := [some (.ref 1), some (.int p), some (.int ((sumI (oweF I p) j) + (dueI I (nI j) (I 1 4)))), some (.int ((nI j) + 1))]) (st' := []) (M' := mk tl I L rd) rfl rfl ?_
      refine Runs.cg (ls := [some (.ref 1), some (.int p), some (.int (sumI (oweF I p) (j + 1))), some (.int (nI (j + 1)))]) (M := mk tl I L rd) (by first | (rw [nI_1, sumI, oweF_t h1]) | (rw [nI_1, sumI, oweF_f h1])) (rfl) ih
    · skip
      refine Runs.call (k' := 31) (as := [.ref 1, .int p, .int (nI j)]) (rest := [.int (sumI (oweF I p) j)]) (r1 := some (.int (0 : Int32))) (M1 := mk tl I L rd) rfl rfl rfl (c_owes tl I L rd p (nI j) 0 (bf h1)) ?_
      refine Runs.bl 6 (g := true) (i' := 4) (ls' := [some (.ref 1), some (.int p), some (.int ((sumI (oweF I p) j) + (0 : Int32))), some (.int ((nI j) + 1))]) (st' := []) (M' := mk tl I L rd) rfl rfl ?_
      refine Runs.cg (ls := [some (.ref 1), some (.int p), some (.int (sumI (oweF I p) (j + 1))), some (.int (nI (j + 1)))]) (M := mk tl I L rd) (by first | (rw [nI_1, sumI, oweF_t h1]) | (rw [nI_1, sumI, oweF_f h1])) (rfl) ih
  · show Runs 32 4 [some (.ref 1), some (.int p), some (.int (sumI (oweF I p) m)), some (.int (nI m))] [] (mk tl I L rd) (some (.int (sumI (oweF I p) m))) (mk tl I L rd)
    refine Runs.bl 5 (g := true) (i' := if decide ((I 16 0) ≤ (nI m)) = true then 27 else 9) (ls' := [some (.ref 1), some (.int p), some (.int (sumI (oweF I p) m)), some (.int (nI m))]) (st' := []) (M' := mk tl I L rd) rfl rfl ?_
    refine Runs.brT (by rw [hm]; exact nI_le (Nat.le_refl _) (by omega)) ?_
    refine Runs.bl 1 (g := true) (i' := 28) (ls' := [some (.ref 1), some (.int p), some (.int (sumI (oweF I p) m)), some (.int (nI m))]) (st' := [.int (sumI (oweF I p) m)]) (M' := mk tl I L rd) rfl rfl ?_
    exact Runs.re rfl rfl rfl rfl

set_option maxRecDepth 20000 in
theorem c_dueBy (tl : List (Nat × Nat)) (I : Nat → Nat → Int32) (L : Nat → Nat → Int64) (rd : Nat → Nat → Option Nat) (p : Int32) (m : Nat) (hm : I 16 0 = nI m) (h40 : m ≤ 40) : Call 32 [.ref 1, .int p] (mk tl I L rd) (some (.int (sumI (oweF I p) m))) (mk tl I L rd) := by
  show Runs 32 0 [some (.ref 1), some (.int p), none, none] [] (mk tl I L rd) (some (.int (sumI (oweF I p) m))) (mk tl I L rd)
  refine Runs.bl 4 (g := true) (i' := 4) (ls' := [some (.ref 1), some (.int p), some (.int (0 : Int32)), some (.int (0 : Int32))]) (st' := []) (M' := mk tl I L rd) rfl rfl ?_
  exact l_dueBy tl I L rd p m hm h40 0 (Nat.zero_le _)

