/-! what TOPICS tell (printed by p24.py) -/
theorem row_of {α : Type} {F I : Nat → Nat → α} {c : Nat} (h : ∀ x, x ≠ c → F x = I x) : F = up1 I c (F c) := by
  funext x
  by_cases e : x = c
  · subst e; rw [up1_at]
  · rw [h x e, up1_ne e]
theorem startFacts_row (I : Nat → Nat → Int32) (p : Int32) : startFacts I p = up1 I 38 (startFacts I p 38) := row_of fun x hx => by
  unfold startFacts
  simp only [up2_ne hx]
def addRow (g : Nat → Int32) (n r : Int32) : Nat → Int32 := addDebt (up1 (fun _ _ => 0) 38 g) n r 38
theorem addDebt_row (I : Nat → Nat → Int32) (g : Nat → Int32) (n r : Int32) : addDebt (up1 I 38 g) n r = up1 I 38 (addRow g n r) := by
  have h : addDebt (up1 I 38 g) n r = up1 (up1 I 38 g) 38 (addDebt (up1 I 38 g) n r 38) := row_of fun x hx => by
    unfold addDebt
    simp only [up2_ne hx]
  rw [h, up1_up1]
  rfl
theorem c_addRow (tl : List (Nat × Nat)) (I : Nat → Nat → Int32) (L : Nat → Nat → Int64) (rd : Nat → Nat → Option Nat) (g : Nat → Int32) (n r : Int32) : Call 46 [.ref 37, .int n, .int r] (mk tl (up1 I 38 g) L rd) none (mk tl (up1 I 38 (addRow g n r)) L rd) := by
  have h := c_addDebt tl (up1 I 38 g) L rd n r
  rw [addDebt_row] at h
  exact h

def gath_st (I : Nat → Nat → Int32) (L : Nat → Nat → Int64) (p : Int32) (j : Nat) (s : (Nat → Int32)) : (Nat → Int32) :=
  if (owes I p (nI j)) = 0 then (s) else
  ((addRow s (due I (nI j) (I 1 4)) (I 20 ((nI j).toNatClampNeg))))

def gath_it (I : Nat → Nat → Int32) (L : Nat → Nat → Int64) (p : Int32) (j : Nat) : (Nat → Int32) := itr (gath_st I L p) (startFacts I p 38) j
theorem gath_it_s (I : Nat → Nat → Int32) (L : Nat → Nat → Int64) (p : Int32) (j : Nat) : (gath_it I L p (j + 1)) = gath_st I L p j (gath_it I L p j) := itr_s _ _ _
def gathRow (I : Nat → Nat → Int32) (L : Nat → Nat → Int64) (p : Int32) (m : Nat) : Nat → Int32 := upr (if isHeld I p = 0 then gath_it I L p m else upr (upr (gath_it I L p m) 3 (I 1 4 - I 5 p.toNatClampNeg)) 5 (I 6 p.toNatClampNeg)) 6 (I 1 5)

set_option maxRecDepth 20000 in
theorem l_gath (tl : List (Nat × Nat)) (I : Nat → Nat → Int32) (L : Nat → Nat → Int64) (rd : Nat → Nat → Option Nat) (p : Int32) (m : Nat) (hm : I 16 0 = nI m) (hb : m ≤ 40) (hp : 0 ≤ p.toInt ∧ p.toInt < 12) : ∀ j, j ≤ m → Runs 43 6 [some (.ref 37), some (.ref 1), some (.int p), some (.int (nI j))] [] (mk tl (up1 I 38 (gath_it I L p j)) L rd) none (mk tl (up1 I 38 (gathRow I L p m)) L rd) := by
  refine loopU m (P := fun j => Runs 43 6 [some (.ref 37), some (.ref 1), some (.int p), some (.int (nI j))] [] (mk tl (up1 I 38 (gath_it I L p j)) L rd) none (mk tl (up1 I 38 (gathRow I L p m)) L rd)) (fun j hj ih => ?_) ?_
  · show Runs 43 6 [some (.ref 37), some (.ref 1), some (.int p), some (.int (nI j))] [] (mk tl (up1 I 38 (gath_it I L p j)) L rd) none (mk tl (up1 I 38 (gathRow I L p m)) L rd)
    refine Runs.bl 5 (g := true) (i' := if decide ((I 16 0) ≤ (nI j)) = true then 31 else 11) (ls' := [some (.ref 37), some (.ref 1), some (.int p), some (.int (nI j))]) (st' := []) (M' := mk tl (up1 I 38 (gath_it I L p j)) L rd) rfl rfl ?_
    refine Runs.brF (by show ¬ I 16 0 ≤ nI j; rw [hm]; exact nI_ge hj (by omega)) ?_
    refine Runs.bl 3 (g := true) (i' := 14) (ls' := [some (.ref 37), some (.ref 1), some (.int p), some (.int (nI j))]) (st' := [.int (nI j), .int p, .ref 1]) (M' := mk tl (up1 I 38 (gath_it I L p j)) L rd) rfl rfl ?_
    refine Runs.call (k' := 31) (as := [.ref 1, .int p, .int (nI j)]) (rest := []) (r1 := some (.int (owes I p (nI j)))) (M1 := mk tl (up1 I 38 (gath_it I L p j)) L rd) rfl rfl rfl (c_owes tl (up1 I 38 (gath_it I L p j)) L rd p (nI j) ) ?_
    refine Runs.bl 1 (g := true) (i' := if decide ((owes I p (nI j)) = 0) = true then 29 else 16) (ls' := [some (.ref 37), some (.ref 1), some (.int p), some (.int (nI j))]) (st' := []) (M' := mk tl (up1 I 38 (gath_it I L p j)) L rd) rfl rfl ?_
    refine Runs.brP (fun h1 => ?_) (fun h1 => ?_)
    · skip
      refine Runs.bl 2 (g := true) (i' := 6) (ls' := [some (.ref 37), some (.ref 1), some (.int p), some (.int ((nI j) + 1))]) (st' := []) (M' := mk tl (up1 I 38 (gath_it I L p j)) L rd) rfl rfl ?_
      refine Runs.cg (ls := [some (.ref 37), some (.ref 1), some (.int p), some (.int (nI (j + 1)))]) (M := mk tl (up1 I 38 (gath_it I L p (j + 1))) L rd) (by rw [nI_1]) (by rw [gath_it_s, gath_st, if_pos h1] <;> rfl) ih
    · skip
      refine Runs.bl 6 (g := true) (i' := 22) (ls' := [some (.ref 37), some (.ref 1), some (.int p), some (.int (nI j))]) (st' := [.int (I 1 4), .int (nI j), .ref 16, .ref 37]) (M' := mk tl (up1 I 38 (gath_it I L p j)) L rd) rfl rfl ?_
      refine Runs.call (k' := 11) (as := [.ref 16, .int (nI j), .int (I 1 4)]) (rest := [.ref 37]) (r1 := some (.int (due I (nI j) (I 1 4)))) (M1 := mk tl (up1 I 38 (gath_it I L p j)) L rd) rfl rfl rfl (c_due tl (up1 I 38 (gath_it I L p j)) L rd (nI j) (I 1 4) ) ?_
      refine Runs.bl 5 (g := inb (nI j) 40 && true) (i' := 28) (ls' := [some (.ref 37), some (.ref 1), some (.int p), some (.int (nI j))]) (st' := [.int (I 20 ((nI j).toNatClampNeg)), .int (due I (nI j) (I 1 4)), .ref 37]) (M' := mk tl (up1 I 38 (gath_it I L p j)) L rd) rfl (by have q1 := owes_rng h1; have q2 := nI_toInt (n := j) (by omega); simp only [Bool.and_true, Bool.true_and, Bool.and_eq_true, inb_iff, Int32.lt_iff_toInt_lt, Int32.le_iff_toInt_le, toI_0, toI_1, toI_2, toI_3, toI_4, toI_5, toI_6, toI_7, toI_8, toI_9, toI_10, toI_12, toI_16, toI_18, toI_20, toI_21, toI_23, toI_24, toI_32, toI_36, toI_39, toI_40, toI_48, toI_50, toI_60, toI_64, toI_75, toI_80, toI_100, toI_144, toI_160, toI_200, toI_256, toI_320, toI_380, toI_576, toI_600, toI_1000, toI_1280, toI_2400, toI_9999, toI_10000, toI_100000, toI_1000000, toI_m1, toI_m100000, toI_s9, toI_s8] at hm hb hp q1 q2 ⊢; omega) ?_
      refine Runs.call (k' := 46) (as := [.ref 37, .int (due I (nI j) (I 1 4)), .int (I 20 ((nI j).toNatClampNeg))]) (rest := []) (r1 := none) (M1 := mk tl (up1 I 38 (addRow (gath_it I L p j) (due I (nI j) (I 1 4)) (I 20 ((nI j).toNatClampNeg)))) L rd) rfl rfl rfl (c_addRow tl I L rd (gath_it I L p j) (due I (nI j) (I 1 4)) (I 20 ((nI j).toNatClampNeg))) ?_
      refine Runs.bl 2 (g := true) (i' := 6) (ls' := [some (.ref 37), some (.ref 1), some (.int p), some (.int ((nI j) + 1))]) (st' := []) (M' := mk tl (up1 I 38 (addRow (gath_it I L p j) (due I (nI j) (I 1 4)) (I 20 ((nI j).toNatClampNeg)))) L rd) rfl rfl ?_
      refine Runs.cg (ls := [some (.ref 37), some (.ref 1), some (.int p), some (.int (nI (j + 1)))]) (M := mk tl (up1 I 38 (gath_it I L p (j + 1))) L rd) (by rw [nI_1]) (by rw [gath_it_s, gath_st, if_neg h1] <;> rfl) ih
  · show Runs 43 6 [some (.ref 37), some (.ref 1), some (.int p), some (.int (nI m))] [] (mk tl (up1 I 38 (gath_it I L p m)) L rd) none (mk tl (up1 I 38 (gathRow I L p m)) L rd)
    refine Runs.bl 5 (g := true) (i' := if decide ((I 16 0) ≤ (nI m)) = true then 31 else 11) (ls' := [some (.ref 37), some (.ref 1), some (.int p), some (.int (nI m))]) (st' := []) (M' := mk tl (up1 I 38 (gath_it I L p m)) L rd) rfl rfl ?_
    refine Runs.brT (by show I 16 0 ≤ nI m; rw [hm]; exact nI_le (Nat.le_refl _) (by omega)) ?_
    refine Runs.bl 3 (g := true) (i' := 34) (ls' := [some (.ref 37), some (.ref 1), some (.int p), some (.int (nI m))]) (st' := [.int p, .ref 2]) (M' := mk tl (up1 I 38 (gath_it I L p m)) L rd) rfl rfl ?_
    refine Runs.call (k' := 56) (as := [.ref 2, .int p]) (rest := []) (r1 := some (.int (isHeld I p))) (M1 := mk tl (up1 I 38 (gath_it I L p m)) L rd) rfl rfl rfl (c_isHeld tl (up1 I 38 (gath_it I L p m)) L rd p ) ?_
    refine Runs.bl 1 (g := true) (i' := if decide ((isHeld I p) = 0) = true then 57 else 36) (ls' := [some (.ref 37), some (.ref 1), some (.int p), some (.int (nI m))]) (st' := []) (M' := mk tl (up1 I 38 (gath_it I L p m)) L rd) rfl rfl ?_
    refine Runs.brP (fun h1 => ?_) (fun h1 => ?_)
    · skip
      refine Runs.bl 6 (g := true && true) (i' := 63) (ls' := [some (.ref 37), some (.ref 1), some (.int p), some (.int (nI m))]) (st' := []) (M' := mk tl (up2 (up1 I 38 (gath_it I L p m)) 38 6 (I 1 5)) L rd) rfl rfl ?_
      exact Runs.rv rfl rfl (by rw [gathRow, if_pos h1, row_up2])
    · skip
      refine Runs.bl 27 (g := inb p 12 && (true && (inb p 12 && (true && (true && true))))) (i' := 63) (ls' := [some (.ref 37), some (.ref 1), some (.int p), some (.int (nI m))]) (st' := []) (M' := mk tl (up2 (up2 (up2 (up1 I 38 (gath_it I L p m)) 38 3 ((I 1 4) - (I 5 p.toNatClampNeg))) 38 5 (I 6 p.toNatClampNeg)) 38 6 (I 1 5)) L rd) rfl (by have q1 := isHeld_rng h1; simp only [Bool.and_true, Bool.true_and, Bool.and_eq_true, inb_iff, Int32.lt_iff_toInt_lt, Int32.le_iff_toInt_le, toI_0, toI_1, toI_2, toI_3, toI_4, toI_5, toI_6, toI_7, toI_8, toI_9, toI_10, toI_12, toI_16, toI_18, toI_20, toI_21, toI_23, toI_24, toI_32, toI_36, toI_39, toI_40, toI_48, toI_50, toI_60, toI_64, toI_75, toI_80, toI_100, toI_144, toI_160, toI_200, toI_256, toI_320, toI_380, toI_576, toI_600, toI_1000, toI_1280, toI_2400, toI_9999, toI_10000, toI_100000, toI_1000000, toI_m1, toI_m100000, toI_s9, toI_s8] at hm hb hp q1 ⊢; omega) ?_
      exact Runs.rv rfl rfl (by rw [gathRow, if_neg h1, row_up2, row_up2, row_up2])

set_option maxRecDepth 20000 in
theorem l0_gath (tl : List (Nat × Nat)) (I : Nat → Nat → Int32) (L : Nat → Nat → Int64) (rd : Nat → Nat → Option Nat) (p : Int32) (m : Nat) (hm : I 16 0 = nI m) (hb : m ≤ 40) (hp : 0 ≤ p.toInt ∧ p.toInt < 12) : Runs 43 6 [some (.ref 37), some (.ref 1), some (.int p), some (.int (nI 0))] [] (mk tl (up1 I 38 (startFacts I p 38)) L rd) none (mk tl (up1 I 38 (gathRow I L p m)) L rd) := l_gath tl I L rd p m hm hb hp 0 (Nat.zero_le _)
set_option maxRecDepth 20000 in
theorem c_gath (tl : List (Nat × Nat)) (I : Nat → Nat → Int32) (L : Nat → Nat → Int64) (rd : Nat → Nat → Option Nat) (p : Int32) (m : Nat) (hm : I 16 0 = nI m) (hb : m ≤ 40) (hp : 0 ≤ p.toInt ∧ p.toInt < 12) : Call 43 [.ref 37, .ref 1, .int p] (mk tl I L rd) none (mk tl (up1 I 38 (gathRow I L p m)) L rd) := by
  show Runs 43 0 [some (.ref 37), some (.ref 1), some (.int p), none] [] (mk tl I L rd) none (mk tl (up1 I 38 (gathRow I L p m)) L rd)
  refine Runs.bl 3 (g := true) (i' := 3) (ls' := [some (.ref 37), some (.ref 1), some (.int p), none]) (st' := [.int p, .ref 1, .ref 37]) (M' := mk tl I L rd) rfl rfl ?_
  refine Runs.call (k' := 45) (as := [.ref 37, .ref 1, .int p]) (rest := []) (r1 := none) (M1 := mk tl (startFacts I p) L rd) rfl rfl rfl (c_startFacts tl I L rd p (by first | assumption | (skip; (try simp only [Bool.and_true, Bool.true_and, Bool.and_eq_true, inb_iff, Int32.lt_iff_toInt_lt, Int32.le_iff_toInt_le, toI_0, toI_1, toI_2, toI_3, toI_4, toI_5, toI_6, toI_7, toI_8, toI_9, toI_10, toI_12, toI_16, toI_18, toI_20, toI_21, toI_23, toI_24, toI_32, toI_36, toI_39, toI_40, toI_48, toI_50, toI_60, toI_64, toI_75, toI_80, toI_100, toI_144, toI_160, toI_200, toI_256, toI_320, toI_380, toI_576, toI_600, toI_1000, toI_1280, toI_2400, toI_9999, toI_10000, toI_100000, toI_1000000, toI_m1, toI_m100000, toI_s9, toI_s8] at hm hb hp  ⊢); omega))) ?_
  refine Runs.bl 2 (g := true) (i' := 6) (ls' := [some (.ref 37), some (.ref 1), some (.int p), some (.int (0 : Int32))]) (st' := []) (M' := mk tl (startFacts I p) L rd) rfl rfl ?_
  exact Runs.cg rfl (congrArg (fun z => mk tl z L rd) (startFacts_row I p)) (l_gath tl I L rd p m hm hb hp 0 (Nat.zero_le _))

set_option maxRecDepth 20000 in
theorem c_tellsBy0 (tl : List (Nat × Nat)) (I : Nat → Nat → Int32) (L : Nat → Nat → Int64) (rd : Nat → Nat → Option Nat) (p w : Int32)  : Call 41 [.ref 37, .ref 1, .int (-1 : Int32), .int p, .int w] (mk tl I L rd) (some (.int (without I w))) (mk tl I L rd) := by
  show Runs 41 0 [some (.ref 37), some (.ref 1), some (.int (-1 : Int32)), some (.int p), some (.int w)] [] (mk tl I L rd) (some (.int (without I w))) (mk tl I L rd)
  refine Runs.bl 3 (g := true) (i' := 3) (ls' := [some (.ref 37), some (.ref 1), some (.int (-1 : Int32)), some (.int p), some (.int w)]) (st' := [.int (3 : Int32), .int (0 : Int32), .int (-1 : Int32)]) (M' := mk tl I L rd) rfl rfl ?_
  refine Runs.call (k' := 147) (as := [.int (-1 : Int32), .int (0 : Int32), .int (3 : Int32)]) (rest := []) (r1 := some (.int (outside I (-1 : Int32) (0 : Int32) (3 : Int32)))) (M1 := mk tl I L rd) rfl rfl rfl (c_outside tl I L rd (-1 : Int32) (0 : Int32) (3 : Int32) ) ?_
  refine Runs.bl 1 (g := true) (i' := if decide (¬ (outside I (-1 : Int32) (0 : Int32) (3 : Int32)) = 0) = true then 10 else 5) (ls' := [some (.ref 37), some (.ref 1), some (.int (-1 : Int32)), some (.int p), some (.int w)]) (st' := []) (M' := mk tl I L rd) rfl rfl ?_
  refine Runs.brT ((by rw [outside, if_pos (by decide)]; decide)) ?_
  refine Runs.bl 1 (g := true) (i' := 11) (ls' := [some (.ref 37), some (.ref 1), some (.int (-1 : Int32)), some (.int p), some (.int w)]) (st' := [.int w]) (M' := mk tl I L rd) rfl rfl ?_
  refine Runs.call (k' := 39) (as := [.int w]) (rest := []) (r1 := some (.int (without I w))) (M1 := mk tl I L rd) rfl rfl rfl (c_without tl I L rd w ) ?_
  exact Runs.ri rfl rfl (rfl) (rfl)

set_option maxRecDepth 20000 in
theorem c_tellsBy1 (tl : List (Nat × Nat)) (I : Nat → Nat → Int32) (L : Nat → Nat → Int64) (rd : Nat → Nat → Option Nat) (p w : Int32) (a m : Nat) (n : Nat) (xa xl N : Nat → Nat) (ha : a < n) (hm : I 16 0 = nI m) (hb : m ≤ 40) (hn : I 1 3 = nI n) (hn4 : n ≤ 4) (hA : AO tl rd n xa xl N) (hC : AC I n xa N) (hp : 0 ≤ p.toInt ∧ p.toInt < 12) : Call 41 [.ref 37, .ref 1, .int (nI a), .int p, .int w] (mk tl I L rd) (some (.int (tells_sr (up1 I 38 (gathRow I L p m)) L (xl a) w (I (xa a) 3).toNatClampNeg 0))) (mk tl (up1 I 38 (gathRow I L p m)) L rd) := by
  show Runs 41 0 [some (.ref 37), some (.ref 1), some (.int (nI a)), some (.int p), some (.int w)] [] (mk tl I L rd) (some (.int (tells_sr (up1 I 38 (gathRow I L p m)) L (xl a) w (I (xa a) 3).toNatClampNeg 0))) (mk tl (up1 I 38 (gathRow I L p m)) L rd)
  refine Runs.bl 3 (g := true) (i' := 3) (ls' := [some (.ref 37), some (.ref 1), some (.int (nI a)), some (.int p), some (.int w)]) (st' := [.int (3 : Int32), .int (0 : Int32), .int (nI a)]) (M' := mk tl I L rd) rfl rfl ?_
  refine Runs.call (k' := 147) (as := [.int (nI a), .int (0 : Int32), .int (3 : Int32)]) (rest := []) (r1 := some (.int (outside I (nI a) (0 : Int32) (3 : Int32)))) (M1 := mk tl I L rd) rfl rfl rfl (c_outside tl I L rd (nI a) (0 : Int32) (3 : Int32) ) ?_
  refine Runs.bl 1 (g := true) (i' := if decide (¬ (outside I (nI a) (0 : Int32) (3 : Int32)) = 0) = true then 10 else 5) (ls' := [some (.ref 37), some (.ref 1), some (.int (nI a)), some (.int p), some (.int w)]) (st' := []) (M' := mk tl I L rd) rfl rfl ?_
  refine Runs.brF ((fun z => z (by rw [outside, if_neg (nI_pos (by omega)), if_pos (show nI a ≤ (3 : Int32) from nI_le (b := 3) (by omega) (by decide))]))) ?_
  refine Runs.bl 3 (g := true) (i' := 8) (ls' := [some (.ref 37), some (.ref 1), some (.int (nI a)), some (.int p), some (.int w)]) (st' := [.int (nI a), .ref 32]) (M' := mk tl I L rd) rfl rfl ?_
  refine Runs.st rfl rfl rfl (daa (x := xa a) rfl (inb_nI (by omega) (by decide)) (by rw [nI_clamp (by omega)]; exact (hA a ha).1) (hA a ha).2.1) ?_
  refine Runs.bl 4 (g := decide (xa a < mx) && true) (i' := 16) (ls' := [some (.ref 37), some (.ref 1), some (.int (nI a)), some (.int p), some (.int w)]) (st' := [.int p, .ref 1, .ref 37]) (M' := mk tl I L rd) rfl (by rw [Bool.and_true]; exact decide_eq_true (hA a ha).2.1) ?_
  refine Runs.call (k' := 43) (as := [.ref 37, .ref 1, .int p]) (rest := []) (r1 := none) (M1 := mk tl (up1 I 38 (gathRow I L p m)) L rd) rfl rfl rfl (c_gath tl I L rd p m hm hb hp) ?_
  refine Runs.bl 3 (g := true) (i' := 20) (ls' := [some (.ref 37), some (.ref 1), some (.int (nI a)), some (.int p), some (.int w)]) (st' := [.int (nI a), .ref 32]) (M' := mk tl (up1 I 38 (gathRow I L p m)) L rd) rfl rfl ?_
  refine Runs.st rfl rfl rfl (daa (x := xa a) rfl (inb_nI (by omega) (by decide)) (by rw [nI_clamp (by omega)]; exact (hA a ha).1) (hA a ha).2.1) ?_
  refine Runs.bl 3 (g := true) (i' := 24) (ls' := [some (.ref 37), some (.ref 1), some (.int (nI a)), some (.int p), some (.int w)]) (st' := [.ref 38, .int w, .ref (xa a)]) (M' := mk tl (up1 I 38 (gathRow I L p m)) L rd) rfl rfl ?_
  have hC2 := hC.u1 (c := 38) (g := gathRow I L p m) (by decide)
  have e3 : up1 I 38 (gathRow I L p m) (xa a) = I (xa a) := up1_ne (by have := (hC a ha).1; omega)
  have hT := c_tells tl (up1 I 38 (gathRow I L p m)) L rd (xl a) w (xa a) (N a) (hA a ha).2.1 (hA a ha).2.2.1 (hA a ha).2.2.2.2.1 (hA a ha).2.2.2.2.2.1 (hA a ha).2.2.2.1 (hA a ha).2.2.2.2.2.2.1 (hC2 a ha).2
  rw [e3] at hT
  refine Runs.call (k' := 1) (as := [.ref (xa a), .int w, .ref 38]) (rest := []) (r1 := some (.int (tells_sr (up1 I 38 (gathRow I L p m)) L (xl a) w (I (xa a) 3).toNatClampNeg 0))) (M1 := mk tl (up1 I 38 (gathRow I L p m)) L rd) rfl rfl (cal2_v rfl rfl rfl (rcv_of (hA a ha).2.1 (hA a ha).2.2.1 rfl)) (hT) ?_
  exact Runs.ri rfl rfl (rfl) (rfl)

/-- what a TOPIC tells by an ACT (none: without one), and what is gathered then -/
def tellA (I : Nat → Nat → Int32) (L : Nat → Nat → Int64) (xa xl : Nat → Nat) (p : Int32) (m : Nat) (w : Int32) : Option Nat → Int32
  | none => without I w
  | some a => tells_sr (up1 I 38 (gathRow I L p m)) L (xl a) w (I (xa a) 3).toNatClampNeg 0
def tellR (I : Nat → Nat → Int32) (L : Nat → Nat → Int64) (p : Int32) (m : Nat) : Option Nat → Nat → Int32
  | none => I 38
  | some _ => gathRow I L p m
def nowT (I : Nat → Nat → Int32) (L : Nat → Nat → Int64) (xa xl : Nat → Nat) (n m : Nat) (p w : Int32) : Int32 := tellA I L xa xl p m w (gdO I xa (I 1 4) (I 1 4) n)
def nowR (I : Nat → Nat → Int32) (L : Nat → Nat → Int64) (xa : Nat → Nat) (n m : Nat) (p : Int32) : Nat → Int32 := tellR I L p m (gdO I xa (I 1 4) (I 1 4) n)
theorem c_tellsBy (tl : List (Nat × Nat)) (I : Nat → Nat → Int32) (L : Nat → Nat → Int64) (rd : Nat → Nat → Option Nat) (p w : Int32) (o : Option Nat) (m : Nat) (n : Nat) (xa xl N : Nat → Nat) (ho : ∀ a, o = some a → a < n) (hm : I 16 0 = nI m) (hb : m ≤ 40) (hn : I 1 3 = nI n) (hn4 : n ≤ 4) (hA : AO tl rd n xa xl N) (hC : AC I n xa N) (hp : 0 ≤ p.toInt ∧ p.toInt < 12) : Call 41 [.ref 37, .ref 1, .int (og o), .int p, .int w] (mk tl I L rd) (some (.int (tellA I L xa xl p m w o))) (mk tl (up1 I 38 (tellR I L p m o)) L rd) := by
  cases o with
  | none => rw [tellR, up1_self]; exact c_tellsBy0 tl I L rd p w
  | some a => exact c_tellsBy1 tl I L rd p w a m n xa xl N (ho a rfl) hm hb hn hn4 hA hC hp

set_option maxRecDepth 20000 in
theorem c_nowTells (tl : List (Nat × Nat)) (I : Nat → Nat → Int32) (L : Nat → Nat → Int64) (rd : Nat → Nat → Option Nat) (p w : Int32) (m : Nat) (n : Nat) (xa xl N : Nat → Nat) (hm : I 16 0 = nI m) (hb : m ≤ 40) (hn : I 1 3 = nI n) (hn4 : n ≤ 4) (hA : AO tl rd n xa xl N) (hC : AC I n xa N) (hp : 0 ≤ p.toInt ∧ p.toInt < 12) : Call 40 [.ref 37, .ref 1, .int p, .int w] (mk tl I L rd) (some (.int (nowT I L xa xl n m p w))) (mk tl (up1 I 38 (nowR I L xa n m p)) L rd) := by
  show Runs 40 0 [some (.ref 37), some (.ref 1), some (.int p), some (.int w)] [] (mk tl I L rd) (some (.int (nowT I L xa xl n m p w))) (mk tl (up1 I 38 (nowR I L xa n m p)) L rd)
  refine Runs.bl 7 (g := true) (i' := 7) (ls' := [some (.ref 37), some (.ref 1), some (.int p), some (.int w)]) (st' := [.int (I 1 4), .int (I 1 4), .ref 1, .ref 1, .ref 37]) (M' := mk tl I L rd) rfl rfl ?_
  refine Runs.call (k' := 30) (as := [.ref 1, .int (I 1 4), .int (I 1 4)]) (rest := [.ref 1, .ref 37]) (r1 := some (.int (og (gdO I xa (I 1 4) (I 1 4) n)))) (M1 := mk tl I L rd) rfl rfl rfl (c_goodAct tl I L rd (I 1 4) (I 1 4) n xa xl N hn hn4 hA) ?_
  refine Runs.bl 2 (g := true) (i' := 10) (ls' := [some (.ref 37), some (.ref 1), some (.int p), some (.int w)]) (st' := [.int w, .int p, .int (og (gdO I xa (I 1 4) (I 1 4) n)), .ref 1, .ref 37]) (M' := mk tl I L rd) rfl rfl ?_
  refine Runs.call (k' := 41) (as := [.ref 37, .ref 1, .int (og (gdO I xa (I 1 4) (I 1 4) n)), .int p, .int w]) (rest := []) (r1 := some (.int (tellA I L xa xl p m w (gdO I xa (I 1 4) (I 1 4) n)))) (M1 := mk tl (up1 I 38 (tellR I L p m (gdO I xa (I 1 4) (I 1 4) n))) L rd) rfl rfl rfl (c_tellsBy tl I L rd p w (gdO I xa (I 1 4) (I 1 4) n) m n xa xl N (fun a h => gdO_lt h) hm hb hn hn4 hA hC hp) ?_
  exact Runs.ri rfl rfl (rfl) (rfl)

/-- the cells that what TOPICS tell of a PERSON rests on -/
def rel (a : Nat) : Prop := (1 ≤ a ∧ a ≤ 6) ∨ (16 ≤ a ∧ a ≤ 31) ∨ 131 ≤ a
theorem rel_lit {I J : Nat → Nat → Int32} (h : ∀ a, rel a → J a = I a) (c : Nat) (hc : ((Nat.ble 1 c && Nat.ble c 6) || (Nat.ble 16 c && Nat.ble c 31)) = true) : J c = I c := by
  refine h c ?_
  simp only [Bool.or_eq_true, Bool.and_eq_true, Nat.ble_eq] at hc
  unfold rel
  omega
theorem gath_st_cg {I J : Nat → Nat → Int32} (h : ∀ a, rel a → J a = I a) (L : Nat → Nat → Int64) (p : Int32) : gath_st J L p = gath_st I L p := by
  funext j s
  unfold gath_st owes due isLive intrOn
  simp only [rel_lit h 1 rfl, rel_lit h 16 rfl, rel_lit h 17 rfl, rel_lit h 20 rfl, rel_lit h 21 rfl, rel_lit h 24 rfl, rel_lit h 25 rfl, rel_lit h 26 rfl, rel_lit h 27 rfl, rel_lit h 28 rfl]
theorem isHeld_cg {I J : Nat → Nat → Int32} (h : ∀ a, rel a → J a = I a) (p : Int32) : isHeld J p = isHeld I p := by
  unfold isHeld
  simp only [rel_lit h 2 rfl, rel_lit h 5 rfl]
theorem lt8 {y : Nat} (h : y < 8) : y = 0 ∨ y = 1 ∨ y = 2 ∨ y = 3 ∨ y = 4 ∨ y = 5 ∨ y = 6 ∨ y = 7 := by omega
theorem startF_cg {I J : Nat → Nat → Int32} (h : ∀ a, rel a → J a = I a) (p : Int32) {y : Nat} (hy : y < 8) : startFacts J p 38 y = startFacts I p 38 y := by
  have e3 := rel_lit h 3 rfl
  have e4 := rel_lit h 4 rfl
  rcases lt8 hy with rfl | rfl | rfl | rfl | rfl | rfl | rfl | rfl
  · rfl
  · rfl
  · rfl
  · rfl
  · show J 4 p.toNatClampNeg = I 4 p.toNatClampNeg; rw [e4]
  · rfl
  · rfl
  · show J 3 p.toNatClampNeg = I 3 p.toNatClampNeg; rw [e3]
theorem addRow_cg {g g' : Nat → Int32} (h : ∀ y, y < 8 → g y = g' y) (n r : Int32) {y : Nat} (hy : y < 8) : addRow g n r y = addRow g' n r y := by
  have e : ∀ g : Nat → Int32, addRow g n r y = if y = 2 then (if r < g 2 then r else g 2) else if y = 1 then g 1 + 1 else if y = 0 then g 0 + n else g y := fun g => rfl
  rw [e, e, h 2 (by omega), h 1 (by omega), h 0 (by omega), h y hy]
theorem gath_cg {I J : Nat → Nat → Int32} (h : ∀ a, rel a → J a = I a) (L : Nat → Nat → Int64) (p : Int32) (m : Nat) : ∀ y, y < 8 → gath_it J L p m y = gath_it I L p m y := by
  unfold gath_it
  rw [gath_st_cg h]
  induction m with
  | zero => intro y hy; exact startF_cg h p hy
  | succ j ih =>
    intro y hy
    show gath_st I L p j (itr (gath_st I L p) (startFacts J p 38) j) y = gath_st I L p j (itr (gath_st I L p) (startFacts I p 38) j) y
    unfold gath_st
    split
    · exact ih y hy
    · exact addRow_cg ih _ _ hy
theorem gathRow_cg {I J : Nat → Nat → Int32} (h : ∀ a, rel a → J a = I a) (L : Nat → Nat → Int64) (p : Int32) (m : Nat) : ∀ y, y < 8 → gathRow J L p m y = gathRow I L p m y := by
  intro y hy
  unfold gathRow
  rw [isHeld_cg h]
  simp only [upr, rel_lit h 1 rfl, rel_lit h 5 rfl, rel_lit h 6 rfl]
  split
  · rfl
  · split
    · exact gath_cg h L p m y hy
    · show (if y = 5 then _ else if y = 3 then _ else _) = (if y = 5 then _ else if y = 3 then _ else _)
      rw [gath_cg h L p m y hy]
theorem gdO_cg {I J : Nat → Nat → Int32} {n : Nat} {xa : Nat → Nat} (h : ∀ a, a < n → J (xa a) = I (xa a)) (d k : Int32) : gdO J xa d k n = gdO I xa d k n := by
  induction n with
  | zero => rfl
  | succ j ih => rw [gdO, gdO, h j (by omega), ih (fun a ha => h a (by omega))]
theorem testsH_cg {I J : Nat → Nat → Int32} {L : Nat → Nat → Int64} {y : Nat} (h : J y = I y) (h2 : ∀ z, z < 8 → J 38 z = I 38 z) (b : Nat) : testsH J L y b = testsH I L y b := by
  have e : ∀ b, testH J y b = testH I y b := by
    intro b
    have eo : ∀ n a c, outside J n a c = outside I n a c := fun _ _ _ => rfl
    unfold testH
    rw [h]
    simp only [eo]
    by_cases ho : outside I (I y (nI b + 1).toNatClampNeg) 0 (8 - 1) = 0
    · have hr := outside_rng ho
      rw [toI_0, toI_s8] at hr
      have e : J 38 (I y (nI b + 1).toNatClampNeg).toNatClampNeg = I 38 (I y (nI b + 1).toNatClampNeg).toNatClampNeg := h2 _ (by show Int.toNat _ < 8; omega)
      simp only [if_pos ho, e]
    · simp only [if_neg ho]
  have e2 : ∀ f j, testsH_sr J L y b f j = testsH_sr I L y b f j := by
    intro f
    induction f with
    | zero => intro j; rfl
    | succ f ih => intro j; rw [testsH_sr, testsH_sr, e, ih]
  unfold testsH tcnt
  rw [e2, h]
theorem tells_cg {I J : Nat → Nat → Int32} {L : Nat → Nat → Int64} {y : Nat} {w : Int32} (h : J y = I y) (h2 : ∀ z, z < 8 → J 38 z = I 38 z) (f j : Nat) : tells_sr J L y w f j = tells_sr I L y w f j := by
  induction f generalizing j with
  | zero => rfl
  | succ f ih => rw [tells_sr, tells_sr, h, ih, testsH_cg h h2]
theorem nowT_cg {tl : List (Nat × Nat)} {I J : Nat → Nat → Int32} {L : Nat → Nat → Int64} {rd : Nat → Nat → Option Nat} {xa xl N : Nat → Nat} {n m : Nat} {p w : Int32} (hA : AO tl rd n xa xl N) (hC : AC I n xa N) (h : ∀ a, rel a → J a = I a) : nowT J L xa xl n m p w = nowT I L xa xl n m p w := by
  have hg := gathRow_cg h L p m
  have hx : ∀ a, a < n → J (xa a) = I (xa a) := fun a ha => h _ (Or.inr (Or.inr (hC a ha).1))
  unfold nowT
  rw [gdO_cg hx, h 1 (Or.inl ⟨by omega, by omega⟩)]
  cases ho : gdO I xa (I 1 4) (I 1 4) n with
  | none => rfl
  | some a =>
    have ha := gdO_lt ho
    have hl := (hA a ha).2.2.2.2.2.2.2
    show tells_sr (up1 J 38 (gathRow J L p m)) L (xl a) w (J (xa a) 3).toNatClampNeg 0 = tells_sr (up1 I 38 (gathRow I L p m)) L (xl a) w (I (xa a) 3).toNatClampNeg 0
    rw [hx a ha]
    refine tells_cg ?_ (fun z hz => ?_) _ _
    · rw [up1_ne (by omega), up1_ne (by omega), h _ (Or.inr (Or.inr hl))]
    · rw [up1_at, up1_at]; exact hg z hz
/-- the same over a row as it was -/
def gathG (g : Nat → Int32) (I : Nat → Nat → Int32) (L : Nat → Nat → Int64) (p : Int32) (m : Nat) : Nat → Int32 := gathRow (up1 I 38 g) L p m
theorem gathRow_G {I J : Nat → Nat → Int32} (h : ∀ a, rel a → J a = I a) (L : Nat → Nat → Int64) (p : Int32) (m : Nat) : gathRow J L p m = gathG (J 38) I L p m := by
  have h' : ∀ a, rel a → J a = (up1 I 38 (J 38)) a := fun a ha => by rw [up1_ne (by unfold rel at ha; omega)]; exact h a ha
  have es : startFacts J p 38 = startFacts (up1 I 38 (J 38)) p 38 := by
    funext y
    by_cases hy : y < 8
    · exact startF_cg h' p hy
    · show (if y = 7 then _ else if y = 6 then _ else if y = 5 then _ else if y = 4 then _ else if y = 3 then _ else if y = 2 then _ else if y = 1 then _ else if y = 0 then _ else J 38 y) = (if y = 7 then _ else if y = 6 then _ else if y = 5 then _ else if y = 4 then _ else if y = 3 then _ else if y = 2 then _ else if y = 1 then _ else if y = 0 then _ else J 38 y)
      simp only [if_neg (show ¬ y = 0 by omega), if_neg (show ¬ y = 1 by omega), if_neg (show ¬ y = 2 by omega), if_neg (show ¬ y = 3 by omega), if_neg (show ¬ y = 4 by omega), if_neg (show ¬ y = 5 by omega), if_neg (show ¬ y = 6 by omega), if_neg (show ¬ y = 7 by omega)]
  unfold gathG gathRow gath_it
  rw [isHeld_cg h', gath_st_cg h', es, rel_lit h' 1 rfl, rel_lit h' 5 rfl, rel_lit h' 6 rfl]
def nowG (g : Nat → Int32) (I : Nat → Nat → Int32) (L : Nat → Nat → Int64) (xa : Nat → Nat) (n m : Nat) (p : Int32) : Nat → Int32 := match gdO I xa (I 1 4) (I 1 4) n with
  | none => g
  | some _ => gathG g I L p m
/-- nowTells at a memory that agrees with I where it matters -/
theorem c_now (tl : List (Nat × Nat)) (I : Nat → Nat → Int32) (L : Nat → Nat → Int64) (rd : Nat → Nat → Option Nat) (p w : Int32) (m : Nat) (n : Nat) (xa xl N : Nat → Nat) (J : Nat → Nat → Int32) (g : Nat → Int32) (hJ : ∀ a, rel a → J a = I a) (hg : J 38 = g) (hm : I 16 0 = nI m) (hb : m ≤ 40) (hn : I 1 3 = nI n) (hn4 : n ≤ 4) (hA : AO tl rd n xa xl N) (hC : AC I n xa N) (hp : 0 ≤ p.toInt ∧ p.toInt < 12) : Call 40 [.ref 37, .ref 1, .int p, .int w] (mk tl J L rd) (some (.int (nowT I L xa xl n m p w))) (mk tl (up1 J 38 (nowG g I L xa n m p)) L rd) := by
  have h1 : J 1 = I 1 := hJ 1 (Or.inl ⟨by omega, by omega⟩)
  have h16 : J 16 = I 16 := hJ 16 (Or.inr (Or.inl ⟨by omega, by omega⟩))
  have hc := c_nowTells tl J L rd p w m n xa xl N (by rw [h16]; exact hm) hb (by rw [h1]; exact hn) hn4 hA (hC.cg fun a ha => hJ a (Or.inr (Or.inr ha))) hp
  rw [nowT_cg hA hC hJ] at hc
  have e : nowR J L xa n m p = nowG g I L xa n m p := by
    unfold nowR nowG
    rw [gdO_cg (fun a ha => hJ _ (Or.inr (Or.inr (hC a ha).1))), h1]
    cases gdO I xa (I 1 4) (I 1 4) n with
    | none => exact hg
    | some a => subst hg; exact gathRow_G hJ L p m
  rw [e] at hc
  exact hc

