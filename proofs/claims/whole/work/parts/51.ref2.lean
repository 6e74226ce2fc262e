/-! THE REFERENCE: turns, ACTS, what TOPICS tell (printed by p51.py) -/
def gon_st (I : Nat → Nat → Int32) (L : Nat → Nat → Int64) (d k : Int32) (j : Nat) (s : Int32) : Int32 :=
  if k < (I 106 ((nI j).toNatClampNeg)) then (s) else
  (if d < (I 105 ((nI j).toNatClampNeg)) then s else nI j)

def gon_it (I : Nat → Nat → Int32) (L : Nat → Nat → Int64) (d k : Int32) (j : Nat) : Int32 := itr (gon_st I L d k) (-1) j
theorem gon_it_s (I : Nat → Nat → Int32) (L : Nat → Nat → Int64) (d k : Int32) (j : Nat) : (gon_it I L d k (j + 1)) = gon_st I L d k j (gon_it I L d k j) := itr_s _ _ _
set_option maxRecDepth 20000 in
theorem l_gon (tl : List (Nat × Nat)) (I : Nat → Nat → Int32) (L : Nat → Nat → Int64) (rd : Nat → Nat → Option Nat) (d k : Int32) (n : Nat) (hn : I 104 0 = nI n) (hn4 : n ≤ 4) : ∀ j, j ≤ n → Runs 193 4 [some (.ref 61), some (.int d), some (.int k), some (.int (gon_it I L d k j)), some (.int (nI j))] [] (mk tl I L rd) (some (.int ((gon_it I L d k (n))))) (mk tl I L rd) := by
  refine loopU n (P := fun j => Runs 193 4 [some (.ref 61), some (.int d), some (.int k), some (.int (gon_it I L d k j)), some (.int (nI j))] [] (mk tl I L rd) (some (.int ((gon_it I L d k (n))))) (mk tl I L rd)) (fun j hj ih => ?_) ?_
  · show Runs 193 4 [some (.ref 61), some (.int d), some (.int k), some (.int (gon_it I L d k j)), some (.int (nI j))] [] (mk tl I L rd) (some (.int ((gon_it I L d k (n))))) (mk tl I L rd)
    refine Runs.bl 6 (g := true && true) (i' := if decide ((I 104 0) ≤ (nI j)) = true then 28 else 10) (ls' := [some (.ref 61), some (.int d), some (.int k), some (.int (gon_it I L d k j)), some (.int (nI j))]) (st' := []) (M' := mk tl I L rd) rfl rfl ?_
    refine Runs.brF (by show ¬ I 104 0 ≤ nI j; rw [hn]; exact nI_ge hj (by omega)) ?_
    refine Runs.bl 6 (g := inb (nI j) 16 && true) (i' := if decide (k < (I 106 ((nI j).toNatClampNeg))) = true then 24 else 16) (ls' := [some (.ref 61), some (.int d), some (.int k), some (.int (gon_it I L d k j)), some (.int (nI j))]) (st' := []) (M' := mk tl I L rd) rfl (by have q1 := nI_toInt (n := j) (by omega); simp only [Bool.and_true, Bool.true_and, Bool.and_eq_true, inb_iff, Int32.lt_iff_toInt_lt, Int32.le_iff_toInt_le, toI_0, toI_1, toI_2, toI_3, toI_4, toI_5, toI_6, toI_7, toI_8, toI_9, toI_10, toI_12, toI_16, toI_18, toI_20, toI_21, toI_23, toI_24, toI_32, toI_36, toI_39, toI_40, toI_48, toI_50, toI_60, toI_64, toI_75, toI_80, toI_100, toI_144, toI_160, toI_200, toI_256, toI_320, toI_380, toI_576, toI_600, toI_1000, toI_1280, toI_2400, toI_9999, toI_10000, toI_100000, toI_1000000, toI_m1, toI_m100000, toI_s9, toI_s8] at hn hn4 q1 ⊢; omega) ?_
    refine Runs.brP (fun h1 => ?_) (fun h1 => ?_)
    · skip
      refine Runs.bl 4 (g := true) (i' := 4) (ls' := [some (.ref 61), some (.int d), some (.int k), some (.int (gon_it I L d k j)), some (.int ((nI j) + 1))]) (st' := []) (M' := mk tl I L rd) rfl rfl ?_
      refine Runs.cg (ls := [some (.ref 61), some (.int d), some (.int k), some (.int (gon_it I L d k (j + 1))), some (.int (nI (j + 1)))]) (M := mk tl I L rd) (by rw [nI_1, gon_it_s, gon_st, if_pos h1]) (rfl) ih
    · skip
      refine Runs.bl 6 (g := inb (nI j) 16 && true) (i' := if decide (d < (I 105 ((nI j).toNatClampNeg))) = true then 24 else 22) (ls' := [some (.ref 61), some (.int d), some (.int k), some (.int (gon_it I L d k j)), some (.int (nI j))]) (st' := []) (M' := mk tl I L rd) rfl (by have q1 := nI_toInt (n := j) (by omega); simp only [Bool.and_true, Bool.true_and, Bool.and_eq_true, inb_iff, Int32.lt_iff_toInt_lt, Int32.le_iff_toInt_le, toI_0, toI_1, toI_2, toI_3, toI_4, toI_5, toI_6, toI_7, toI_8, toI_9, toI_10, toI_12, toI_16, toI_18, toI_20, toI_21, toI_23, toI_24, toI_32, toI_36, toI_39, toI_40, toI_48, toI_50, toI_60, toI_64, toI_75, toI_80, toI_100, toI_144, toI_160, toI_200, toI_256, toI_320, toI_380, toI_576, toI_600, toI_1000, toI_1280, toI_2400, toI_9999, toI_10000, toI_100000, toI_1000000, toI_m1, toI_m100000, toI_s9, toI_s8] at hn hn4 h1 q1 ⊢; omega) ?_
      refine Runs.dia (P := d < (I 105 ((nI j).toNatClampNeg))) (vT := (gon_it I L d k j)) (vF := nI j) (e := 25) (fun h2 K => ?_) (fun h2 K => ?_) ?_
      · exact Runs.bl 1 (g := true) (i' := 25) (ls' := [some (.ref 61), some (.int d), some (.int k), some (.int (gon_it I L d k j)), some (.int (nI j))]) (st' := [.int (gon_it I L d k j)]) (M' := mk tl I L rd) rfl rfl K
      · exact Runs.bl 2 (g := true) (i' := 25) (ls' := [some (.ref 61), some (.int d), some (.int k), some (.int (gon_it I L d k j)), some (.int (nI j))]) (st' := [.int (nI j)]) (M' := mk tl I L rd) rfl rfl K
      refine Runs.bl 3 (g := true) (i' := 4) (ls' := [some (.ref 61), some (.int d), some (.int k), some (.int (if d < (I 105 ((nI j).toNatClampNeg)) then (gon_it I L d k j) else nI j)), some (.int ((nI j) + 1))]) (st' := []) (M' := mk tl I L rd) rfl rfl ?_
      refine Runs.cg (ls := [some (.ref 61), some (.int d), some (.int k), some (.int (gon_it I L d k (j + 1))), some (.int (nI (j + 1)))]) (M := mk tl I L rd) (by rw [nI_1, gon_it_s, gon_st, if_neg h1]) (rfl) ih
  · show Runs 193 4 [some (.ref 61), some (.int d), some (.int k), some (.int (gon_it I L d k n)), some (.int (nI n))] [] (mk tl I L rd) (some (.int ((gon_it I L d k (n))))) (mk tl I L rd)
    refine Runs.bl 6 (g := true && true) (i' := if decide ((I 104 0) ≤ (nI n)) = true then 28 else 10) (ls' := [some (.ref 61), some (.int d), some (.int k), some (.int (gon_it I L d k n)), some (.int (nI n))]) (st' := []) (M' := mk tl I L rd) rfl rfl ?_
    refine Runs.brT (by show I 104 0 ≤ nI n; rw [hn]; exact nI_le (Nat.le_refl _) (by omega)) ?_
    refine Runs.bl 1 (g := true) (i' := 29) (ls' := [some (.ref 61), some (.int d), some (.int k), some (.int (gon_it I L d k n)), some (.int (nI n))]) (st' := [.int (gon_it I L d k n)]) (M' := mk tl I L rd) rfl rfl ?_
    exact Runs.ri rfl rfl (rfl) (rfl)

set_option maxRecDepth 20000 in
theorem l0_gon (tl : List (Nat × Nat)) (I : Nat → Nat → Int32) (L : Nat → Nat → Int64) (rd : Nat → Nat → Option Nat) (d k : Int32) (n : Nat) (hn : I 104 0 = nI n) (hn4 : n ≤ 4) : Runs 193 4 [some (.ref 61), some (.int d), some (.int k), some (.int (-1)), some (.int (nI 0))] [] (mk tl I L rd) (some (.int ((gon_it I L d k (n))))) (mk tl I L rd) := l_gon tl I L rd d k n hn hn4 0 (Nat.zero_le _)
set_option maxRecDepth 20000 in
theorem c_gon (tl : List (Nat × Nat)) (I : Nat → Nat → Int32) (L : Nat → Nat → Int64) (rd : Nat → Nat → Option Nat) (d k : Int32) (n : Nat) (hn : I 104 0 = nI n) (hn4 : n ≤ 4) : Call 193 [.ref 61, .int d, .int k] (mk tl I L rd) (some (.int (gon_it I L d k n))) (mk tl I L rd) := by
  show Runs 193 0 [some (.ref 61), some (.int d), some (.int k), none, none] [] (mk tl I L rd) (some (.int (gon_it I L d k n))) (mk tl I L rd)
  refine Runs.bl 4 (g := true) (i' := 4) (ls' := [some (.ref 61), some (.int d), some (.int k), some (.int (-1 : Int32)), some (.int (0 : Int32))]) (st' := []) (M' := mk tl I L rd) rfl rfl ?_
  exact l0_gon tl I L rd d k n hn hn4

theorem gon_cs (I : Nat → Nat → Int32) (L : Nat → Nat → Int64) (d k : Int32) (j : Nat) : gon_it I L d k j = -1 ∨ ∃ a, a < j ∧ gon_it I L d k j = nI a := by
  induction j with
  | zero => exact Or.inl rfl
  | succ j ih =>
    have up : gon_it I L d k j = -1 ∨ ∃ a, a < j + 1 ∧ gon_it I L d k j = nI a := ih.imp id (fun ⟨a, h, e⟩ => ⟨a, by omega, e⟩)
    rw [gon_it_s, gon_st]
    repeat' split
    all_goals first | exact up | exact Or.inr ⟨j, by omega, rfl⟩

def trn_st (I : Nat → Nat → Int32) (L : Nat → Nat → Int64)  (j : Nat) (s : Int32) : Int32 :=
  if ¬ (I 72 ((nI j).toNatClampNeg)) = 0 then (if s = (-1 : Int32) then (nI j) else
    if (I 78 ((nI j).toNatClampNeg)) < (I 78 s.toNatClampNeg) then (nI j) else
    if ¬ (I 78 ((nI j).toNatClampNeg)) = (I 78 s.toNatClampNeg) then (s) else
    if (I 73 s.toNatClampNeg) ≤ (I 73 ((nI j).toNatClampNeg)) then (s) else
    (nI j)) else
  (s)

def trn_it (I : Nat → Nat → Int32) (L : Nat → Nat → Int64)  (j : Nat) : Int32 := itr (trn_st I L ) (-1) j
theorem trn_it_s (I : Nat → Nat → Int32) (L : Nat → Nat → Int64)  (j : Nat) : (trn_it I L  (j + 1)) = trn_st I L  j (trn_it I L  j) := itr_s _ _ _
theorem trn_cs (I : Nat → Nat → Int32) (L : Nat → Nat → Int64) (j : Nat) : trn_it I L j = -1 ∨ ∃ a, a < j ∧ trn_it I L j = nI a := by
  induction j with
  | zero => exact Or.inl rfl
  | succ j ih =>
    have up : trn_it I L j = -1 ∨ ∃ a, a < j + 1 ∧ trn_it I L j = nI a := ih.imp id (fun ⟨a, h, e⟩ => ⟨a, by omega, e⟩)
    rw [trn_it_s, trn_st]
    repeat' split
    all_goals first | exact up | exact Or.inr ⟨j, by omega, rfl⟩
theorem trn_rng {I : Nat → Nat → Int32} {L : Nat → Nat → Int64} {j : Nat} (hj : j ≤ 12) (h : ¬ trn_it I L j = -1) : 0 ≤ (trn_it I L j).toInt ∧ (trn_it I L j).toInt < 12 := by
  rcases trn_cs I L j with e | ⟨a, ha, e⟩
  · exact absurd e h
  · rw [e, nI_toInt (by omega)]; omega

set_option maxRecDepth 20000 in
theorem l_trn (tl : List (Nat × Nat)) (I : Nat → Nat → Int32) (L : Nat → Nat → Int64) (rd : Nat → Nat → Option Nat) (q : Nat)  (hq : I 69 0 = nI q) (hqb : q ≤ 12) : ∀ j, j ≤ q → ∀ o3 : Option Value, Runs 210 4 [some (.ref 61), some (.int (trn_it I L  j)), some (.int (nI j)), o3] [] (mk tl I L rd) (some (.int ((trn_it I L  (q))))) (mk tl I L rd) := by
  refine loopU q (P := fun j => ∀ o3 : Option Value, Runs 210 4 [some (.ref 61), some (.int (trn_it I L  j)), some (.int (nI j)), o3] [] (mk tl I L rd) (some (.int ((trn_it I L  (q))))) (mk tl I L rd)) (fun j hj ih => ?_) ?_
  · intro o3
    show Runs 210 4 [some (.ref 61), some (.int (trn_it I L  j)), some (.int (nI j)), o3] [] (mk tl I L rd) (some (.int ((trn_it I L  (q))))) (mk tl I L rd)
    refine Runs.bl 6 (g := true && true) (i' := if decide ((I 69 0) ≤ (nI j)) = true then 58 else 10) (ls' := [some (.ref 61), some (.int (trn_it I L  j)), some (.int (nI j)), o3]) (st' := []) (M' := mk tl I L rd) rfl rfl ?_
    refine Runs.brF (by show ¬ I 69 0 ≤ nI j; rw [hq]; exact nI_ge hj (by omega)) ?_
    refine Runs.bl 5 (g := inb (nI j) 48 && true) (i' := if decide (¬ (I 72 ((nI j).toNatClampNeg)) = 0) = true then 16 else 15) (ls' := [some (.ref 61), some (.int (trn_it I L  j)), some (.int (nI j)), o3]) (st' := []) (M' := mk tl I L rd) rfl (by have q1 := nI_toInt (n := j) (by omega); simp only [Bool.and_true, Bool.true_and, Bool.and_eq_true, inb_iff, Int32.lt_iff_toInt_lt, Int32.le_iff_toInt_le, toI_0, toI_1, toI_2, toI_3, toI_4, toI_5, toI_6, toI_7, toI_8, toI_9, toI_10, toI_12, toI_16, toI_18, toI_20, toI_21, toI_23, toI_24, toI_32, toI_36, toI_39, toI_40, toI_48, toI_50, toI_60, toI_64, toI_75, toI_80, toI_100, toI_144, toI_160, toI_200, toI_256, toI_320, toI_380, toI_576, toI_600, toI_1000, toI_1280, toI_2400, toI_9999, toI_10000, toI_100000, toI_1000000, toI_m1, toI_m100000, toI_s9, toI_s8] at hq hqb q1 ⊢; omega) ?_
    refine Runs.brP (fun h1 => ?_) (fun h1 => ?_)
    · skip
      refine Runs.bl 3 (g := true) (i' := if decide ((trn_it I L  j) = (-1 : Int32)) = true then 46 else 19) (ls' := [some (.ref 61), some (.int (trn_it I L  j)), some (.int (nI j)), o3]) (st' := []) (M' := mk tl I L rd) rfl rfl ?_
      refine Runs.brP (fun h2 => ?_) (fun h2 => ?_)
      · skip
        refine Runs.bl 10 (g := true) (i' := 4) (ls' := [some (.ref 61), some (.int (nI j)), some (.int ((nI j) + 1)), some (.int (1 : Int32))]) (st' := []) (M' := mk tl I L rd) rfl rfl ?_
        refine Runs.cg (ls := [some (.ref 61), some (.int (trn_it I L  (j + 1))), some (.int (nI (j + 1))), _]) (M := mk tl I L rd) (by rw [nI_1, trn_it_s, trn_st, if_pos h1, if_pos h2]) (rfl) (ih (some (.int (1 : Int32))))
      · skip
        refine Runs.bl 9 (g := inb (nI j) 48 && (inb (trn_it I L  j) 48 && true)) (i' := if decide ((I 78 ((nI j).toNatClampNeg)) < (I 78 ((trn_it I L  j).toNatClampNeg))) = true then 46 else 28) (ls' := [some (.ref 61), some (.int (trn_it I L  j)), some (.int (nI j)), o3]) (st' := []) (M' := mk tl I L rd) rfl (by have q1 := trn_rng (by omega) h2; have q2 := nI_toInt (n := j) (by omega); simp only [Bool.and_true, Bool.true_and, Bool.and_eq_true, inb_iff, Int32.lt_iff_toInt_lt, Int32.le_iff_toInt_le, toI_0, toI_1, toI_2, toI_3, toI_4, toI_5, toI_6, toI_7, toI_8, toI_9, toI_10, toI_12, toI_16, toI_18, toI_20, toI_21, toI_23, toI_24, toI_32, toI_36, toI_39, toI_40, toI_48, toI_50, toI_60, toI_64, toI_75, toI_80, toI_100, toI_144, toI_160, toI_200, toI_256, toI_320, toI_380, toI_576, toI_600, toI_1000, toI_1280, toI_2400, toI_9999, toI_10000, toI_100000, toI_1000000, toI_m1, toI_m100000, toI_s9, toI_s8] at hq hqb h1 q1 q2 ⊢; omega) ?_
        refine Runs.brP (fun h3 => ?_) (fun h3 => ?_)
        · skip
          refine Runs.bl 10 (g := true) (i' := 4) (ls' := [some (.ref 61), some (.int (nI j)), some (.int ((nI j) + 1)), some (.int (1 : Int32))]) (st' := []) (M' := mk tl I L rd) rfl rfl ?_
          refine Runs.cg (ls := [some (.ref 61), some (.int (trn_it I L  (j + 1))), some (.int (nI (j + 1))), _]) (M := mk tl I L rd) (by rw [nI_1, trn_it_s, trn_st, if_pos h1, if_neg h2, if_pos h3]) (rfl) (ih (some (.int (1 : Int32))))
        · skip
          refine Runs.bl 9 (g := inb (nI j) 48 && (inb (trn_it I L  j) 48 && true)) (i' := if decide (¬ (I 78 ((nI j).toNatClampNeg)) = (I 78 ((trn_it I L  j).toNatClampNeg))) = true then 48 else 37) (ls' := [some (.ref 61), some (.int (trn_it I L  j)), some (.int (nI j)), o3]) (st' := []) (M' := mk tl I L rd) rfl (by have q1 := trn_rng (by omega) h2; have q2 := nI_toInt (n := j) (by omega); simp only [Bool.and_true, Bool.true_and, Bool.and_eq_true, inb_iff, Int32.lt_iff_toInt_lt, Int32.le_iff_toInt_le, toI_0, toI_1, toI_2, toI_3, toI_4, toI_5, toI_6, toI_7, toI_8, toI_9, toI_10, toI_12, toI_16, toI_18, toI_20, toI_21, toI_23, toI_24, toI_32, toI_36, toI_39, toI_40, toI_48, toI_50, toI_60, toI_64, toI_75, toI_80, toI_100, toI_144, toI_160, toI_200, toI_256, toI_320, toI_380, toI_576, toI_600, toI_1000, toI_1280, toI_2400, toI_9999, toI_10000, toI_100000, toI_1000000, toI_m1, toI_m100000, toI_s9, toI_s8] at hq hqb h1 q1 h3 q2 ⊢; omega) ?_
          refine Runs.brP (fun h4 => ?_) (fun h4 => ?_)
          · skip
            refine Runs.bl 8 (g := true) (i' := 4) (ls' := [some (.ref 61), some (.int (trn_it I L  j)), some (.int ((nI j) + 1)), some (.int (0 : Int32))]) (st' := []) (M' := mk tl I L rd) rfl rfl ?_
            refine Runs.cg (ls := [some (.ref 61), some (.int (trn_it I L  (j + 1))), some (.int (nI (j + 1))), _]) (M := mk tl I L rd) (by rw [nI_1, trn_it_s, trn_st, if_pos h1, if_neg h2, if_neg h3, if_pos h4]) (rfl) (ih (some (.int (0 : Int32))))
          · skip
            refine Runs.bl 9 (g := inb (nI j) 48 && (inb (trn_it I L  j) 48 && true)) (i' := if decide ((I 73 ((trn_it I L  j).toNatClampNeg)) ≤ (I 73 ((nI j).toNatClampNeg))) = true then 48 else 46) (ls' := [some (.ref 61), some (.int (trn_it I L  j)), some (.int (nI j)), o3]) (st' := []) (M' := mk tl I L rd) rfl (by have q1 := trn_rng (by omega) h2; have q2 := nI_toInt (n := j) (by omega); simp only [Bool.and_true, Bool.true_and, Bool.and_eq_true, inb_iff, Int32.lt_iff_toInt_lt, Int32.le_iff_toInt_le, toI_0, toI_1, toI_2, toI_3, toI_4, toI_5, toI_6, toI_7, toI_8, toI_9, toI_10, toI_12, toI_16, toI_18, toI_20, toI_21, toI_23, toI_24, toI_32, toI_36, toI_39, toI_40, toI_48, toI_50, toI_60, toI_64, toI_75, toI_80, toI_100, toI_144, toI_160, toI_200, toI_256, toI_320, toI_380, toI_576, toI_600, toI_1000, toI_1280, toI_2400, toI_9999, toI_10000, toI_100000, toI_1000000, toI_m1, toI_m100000, toI_s9, toI_s8] at hq hqb h1 q1 h3 h4 q2 ⊢; omega) ?_
            refine Runs.brP (fun h5 => ?_) (fun h5 => ?_)
            · skip
              refine Runs.bl 8 (g := true) (i' := 4) (ls' := [some (.ref 61), some (.int (trn_it I L  j)), some (.int ((nI j) + 1)), some (.int (0 : Int32))]) (st' := []) (M' := mk tl I L rd) rfl rfl ?_
              refine Runs.cg (ls := [some (.ref 61), some (.int (trn_it I L  (j + 1))), some (.int (nI (j + 1))), _]) (M := mk tl I L rd) (by rw [nI_1, trn_it_s, trn_st, if_pos h1, if_neg h2, if_neg h3, if_neg h4, if_pos h5]) (rfl) (ih (some (.int (0 : Int32))))
            · skip
              refine Runs.bl 10 (g := true) (i' := 4) (ls' := [some (.ref 61), some (.int (nI j)), some (.int ((nI j) + 1)), some (.int (1 : Int32))]) (st' := []) (M' := mk tl I L rd) rfl rfl ?_
              refine Runs.cg (ls := [some (.ref 61), some (.int (trn_it I L  (j + 1))), some (.int (nI (j + 1))), _]) (M := mk tl I L rd) (by rw [nI_1, trn_it_s, trn_st, if_pos h1, if_neg h2, if_neg h3, if_neg h4, if_neg h5]) (rfl) (ih (some (.int (1 : Int32))))
    · skip
      refine Runs.bl 3 (g := true) (i' := 4) (ls' := [some (.ref 61), some (.int (trn_it I L  j)), some (.int ((nI j) + 1)), o3]) (st' := []) (M' := mk tl I L rd) rfl rfl ?_
      refine Runs.cg (ls := [some (.ref 61), some (.int (trn_it I L  (j + 1))), some (.int (nI (j + 1))), _]) (M := mk tl I L rd) (by rw [nI_1, trn_it_s, trn_st, if_neg h1]) (rfl) (ih o3)
  · intro o3
    show Runs 210 4 [some (.ref 61), some (.int (trn_it I L  q)), some (.int (nI q)), o3] [] (mk tl I L rd) (some (.int ((trn_it I L  (q))))) (mk tl I L rd)
    refine Runs.bl 6 (g := true && true) (i' := if decide ((I 69 0) ≤ (nI q)) = true then 58 else 10) (ls' := [some (.ref 61), some (.int (trn_it I L  q)), some (.int (nI q)), o3]) (st' := []) (M' := mk tl I L rd) rfl rfl ?_
    refine Runs.brT (by show I 69 0 ≤ nI q; rw [hq]; exact nI_le (Nat.le_refl _) (by omega)) ?_
    refine Runs.bl 1 (g := true) (i' := 59) (ls' := [some (.ref 61), some (.int (trn_it I L  q)), some (.int (nI q)), o3]) (st' := [.int (trn_it I L  q)]) (M' := mk tl I L rd) rfl rfl ?_
    exact Runs.ri rfl rfl (rfl) (rfl)

set_option maxRecDepth 20000 in
theorem l0_trn (tl : List (Nat × Nat)) (I : Nat → Nat → Int32) (L : Nat → Nat → Int64) (rd : Nat → Nat → Option Nat) (q : Nat)  (hq : I 69 0 = nI q) (hqb : q ≤ 12) : ∀ o3 : Option Value, Runs 210 4 [some (.ref 61), some (.int (-1)), some (.int (nI 0)), o3] [] (mk tl I L rd) (some (.int ((trn_it I L  (q))))) (mk tl I L rd) := l_trn tl I L rd q  hq hqb 0 (Nat.zero_le _)
set_option maxRecDepth 20000 in
theorem c_trn (tl : List (Nat × Nat)) (I : Nat → Nat → Int32) (L : Nat → Nat → Int64) (rd : Nat → Nat → Option Nat) (q : Nat) (hq : I 69 0 = nI q) (hqb : q ≤ 12) : Call 210 [.ref 61] (mk tl I L rd) (some (.int (trn_it I L q))) (mk tl I L rd) := by
  show Runs 210 0 [some (.ref 61), none, none, none] [] (mk tl I L rd) (some (.int (trn_it I L q))) (mk tl I L rd)
  refine Runs.bl 4 (g := true) (i' := 4) (ls' := [some (.ref 61), some (.int (-1 : Int32)), some (.int (0 : Int32)), none]) (st' := []) (M' := mk tl I L rd) rfl rfl ?_
  exact l0_trn tl I L rd q hq hqb _

def lb_st (I : Nat → Nat → Int32) (L : Nat → Nat → Int64) (i : Nat) (j : Nat) (s : Int32) : Int32 :=
  if ¬ (I 94 ((nI j).toNatClampNeg)) = 0 then (s ||| (0 : Int32)) else
  (s ||| (if ¬ (I 87 ((nI j).toNatClampNeg)) = (nI i) then (0 : Int32) else (1 : Int32) <<< ((I 88 ((nI j).toNatClampNeg)) &&& 31)))

def lb_it (I : Nat → Nat → Int32) (L : Nat → Nat → Int64) (i : Nat) (j : Nat) : Int32 := itr (lb_st I L i) (0) j
theorem lb_it_s (I : Nat → Nat → Int32) (L : Nat → Nat → Int64) (i : Nat) (j : Nat) : (lb_it I L i (j + 1)) = lb_st I L i j (lb_it I L i j) := itr_s _ _ _
set_option maxRecDepth 20000 in
theorem l_lb (tl : List (Nat × Nat)) (I : Nat → Nat → Int32) (L : Nat → Nat → Int64) (rd : Nat → Nat → Option Nat) (i : Nat) (g : Nat → Int32) (m : Nat) (hm : I 86 0 = nI m) (hb : m ≤ 40) (rr : Option Value) (Me : Mm) (hK : Runs 167 42 [some (.ref 61), some (.int (nI i)), some (.int (lb_it I L i (m))), some (.int (nI (m)))] [] (mk tl (up1 I 80 g) L rd) rr Me) : ∀ j, j ≤ m → Runs 167 12 [some (.ref 61), some (.int (nI i)), some (.int (lb_it I L i j)), some (.int (nI j))] [] (mk tl (up1 I 80 g) L rd) rr (Me) := by
  refine loopU m (P := fun j => Runs 167 12 [some (.ref 61), some (.int (nI i)), some (.int (lb_it I L i j)), some (.int (nI j))] [] (mk tl (up1 I 80 g) L rd) rr (Me)) (fun j hj ih => ?_) ?_
  · show Runs 167 12 [some (.ref 61), some (.int (nI i)), some (.int (lb_it I L i j)), some (.int (nI j))] [] (mk tl (up1 I 80 g) L rd) rr (Me)
    refine Runs.bl 6 (g := true && true) (i' := if decide ((I 86 0) ≤ (nI j)) = true then 42 else 18) (ls' := [some (.ref 61), some (.int (nI i)), some (.int (lb_it I L i j)), some (.int (nI j))]) (st' := []) (M' := mk tl (up1 I 80 g) L rd) rfl rfl ?_
    refine Runs.brF (by show ¬ I 86 0 ≤ nI j; rw [hm]; exact nI_ge hj (by omega)) ?_
    refine Runs.bl 6 (g := inb (nI j) 160 && true) (i' := if decide (¬ (I 94 ((nI j).toNatClampNeg)) = 0) = true then 37 else 24) (ls' := [some (.ref 61), some (.int (nI i)), some (.int (lb_it I L i j)), some (.int (nI j))]) (st' := [.int (lb_it I L i j)]) (M' := mk tl (up1 I 80 g) L rd) rfl (by have q1 := nI_toInt (n := j) (by omega); simp only [Bool.and_true, Bool.true_and, Bool.and_eq_true, inb_iff, Int32.lt_iff_toInt_lt, Int32.le_iff_toInt_le, toI_0, toI_1, toI_2, toI_3, toI_4, toI_5, toI_6, toI_7, toI_8, toI_9, toI_10, toI_12, toI_16, toI_18, toI_20, toI_21, toI_23, toI_24, toI_32, toI_36, toI_39, toI_40, toI_48, toI_50, toI_60, toI_64, toI_75, toI_80, toI_100, toI_144, toI_160, toI_200, toI_256, toI_320, toI_380, toI_576, toI_600, toI_1000, toI_1280, toI_2400, toI_9999, toI_10000, toI_100000, toI_1000000, toI_m1, toI_m100000, toI_s9, toI_s8] at hm hb q1 ⊢; omega) ?_
    refine Runs.brP (fun h1 => ?_) (fun h1 => ?_)
    · skip
      refine Runs.bl 5 (g := true) (i' := 12) (ls' := [some (.ref 61), some (.int (nI i)), some (.int ((lb_it I L i j) ||| (0 : Int32))), some (.int ((nI j) + 1))]) (st' := []) (M' := mk tl (up1 I 80 g) L rd) rfl rfl ?_
      refine Runs.cg (ls := [some (.ref 61), some (.int (nI i)), some (.int (lb_it I L i (j + 1))), some (.int (nI (j + 1)))]) (M := mk tl (up1 I 80 g) L rd) (by rw [nI_1, lb_it_s, lb_st, if_pos h1]) (rfl) ih
    · skip
      refine Runs.bl 6 (g := inb (nI j) 160 && true) (i' := if decide (¬ (I 87 ((nI j).toNatClampNeg)) = (nI i)) = true then 37 else 30) (ls' := [some (.ref 61), some (.int (nI i)), some (.int (lb_it I L i j)), some (.int (nI j))]) (st' := [.int (lb_it I L i j)]) (M' := mk tl (up1 I 80 g) L rd) rfl (by have q1 := nI_toInt (n := j) (by omega); simp only [Bool.and_true, Bool.true_and, Bool.and_eq_true, inb_iff, Int32.lt_iff_toInt_lt, Int32.le_iff_toInt_le, toI_0, toI_1, toI_2, toI_3, toI_4, toI_5, toI_6, toI_7, toI_8, toI_9, toI_10, toI_12, toI_16, toI_18, toI_20, toI_21, toI_23, toI_24, toI_32, toI_36, toI_39, toI_40, toI_48, toI_50, toI_60, toI_64, toI_75, toI_80, toI_100, toI_144, toI_160, toI_200, toI_256, toI_320, toI_380, toI_576, toI_600, toI_1000, toI_1280, toI_2400, toI_9999, toI_10000, toI_100000, toI_1000000, toI_m1, toI_m100000, toI_s9, toI_s8] at hm hb h1 q1 ⊢; omega) ?_
      refine Runs.dia (P := ¬ (I 87 ((nI j).toNatClampNeg)) = (nI i)) (vT := (0 : Int32)) (vF := (1 : Int32) <<< ((I 88 ((nI j).toNatClampNeg)) &&& 31)) (e := 38) (fun h2 K => ?_) (fun h2 K => ?_) ?_
      · exact Runs.bl 1 (g := true) (i' := 38) (ls' := [some (.ref 61), some (.int (nI i)), some (.int (lb_it I L i j)), some (.int (nI j))]) (st' := [.int (0 : Int32), .int (lb_it I L i j)]) (M' := mk tl (up1 I 80 g) L rd) rfl rfl K
      · exact Runs.bl 7 (g := inb (nI j) 160 && true) (i' := 38) (ls' := [some (.ref 61), some (.int (nI i)), some (.int (lb_it I L i j)), some (.int (nI j))]) (st' := [.int ((1 : Int32) <<< ((I 88 ((nI j).toNatClampNeg)) &&& 31)), .int (lb_it I L i j)]) (M' := mk tl (up1 I 80 g) L rd) rfl (by have q1 := nI_toInt (n := j) (by omega); simp only [Bool.and_true, Bool.true_and, Bool.and_eq_true, inb_iff, Int32.lt_iff_toInt_lt, Int32.le_iff_toInt_le, toI_0, toI_1, toI_2, toI_3, toI_4, toI_5, toI_6, toI_7, toI_8, toI_9, toI_10, toI_12, toI_16, toI_18, toI_20, toI_21, toI_23, toI_24, toI_32, toI_36, toI_39, toI_40, toI_48, toI_50, toI_60, toI_64, toI_75, toI_80, toI_100, toI_144, toI_160, toI_200, toI_256, toI_320, toI_380, toI_576, toI_600, toI_1000, toI_1280, toI_2400, toI_9999, toI_10000, toI_100000, toI_1000000, toI_m1, toI_m100000, toI_s9, toI_s8] at hm hb h1 h2 q1 ⊢; omega) K
      refine Runs.bl 4 (g := true) (i' := 12) (ls' := [some (.ref 61), some (.int (nI i)), some (.int ((lb_it I L i j) ||| (if ¬ (I 87 ((nI j).toNatClampNeg)) = (nI i) then (0 : Int32) else (1 : Int32) <<< ((I 88 ((nI j).toNatClampNeg)) &&& 31)))), some (.int ((nI j) + 1))]) (st' := []) (M' := mk tl (up1 I 80 g) L rd) rfl rfl ?_
      refine Runs.cg (ls := [some (.ref 61), some (.int (nI i)), some (.int (lb_it I L i (j + 1))), some (.int (nI (j + 1)))]) (M := mk tl (up1 I 80 g) L rd) (by rw [nI_1, lb_it_s, lb_st, if_neg h1]) (rfl) ih
  · show Runs 167 12 [some (.ref 61), some (.int (nI i)), some (.int (lb_it I L i m)), some (.int (nI m))] [] (mk tl (up1 I 80 g) L rd) rr (Me)
    refine Runs.bl 6 (g := true && true) (i' := if decide ((I 86 0) ≤ (nI m)) = true then 42 else 18) (ls' := [some (.ref 61), some (.int (nI i)), some (.int (lb_it I L i m)), some (.int (nI m))]) (st' := []) (M' := mk tl (up1 I 80 g) L rd) rfl rfl ?_
    refine Runs.brT (by show I 86 0 ≤ nI m; rw [hm]; exact nI_le (Nat.le_refl _) (by omega)) ?_
    exact hK

set_option maxRecDepth 20000 in
theorem l0_lb (tl : List (Nat × Nat)) (I : Nat → Nat → Int32) (L : Nat → Nat → Int64) (rd : Nat → Nat → Option Nat) (i : Nat) (g : Nat → Int32) (m : Nat) (hm : I 86 0 = nI m) (hb : m ≤ 40) (rr : Option Value) (Me : Mm) (hK : Runs 167 42 [some (.ref 61), some (.int (nI i)), some (.int (lb_it I L i (m))), some (.int (nI (m)))] [] (mk tl (up1 I 80 g) L rd) rr Me) : Runs 167 12 [some (.ref 61), some (.int (nI i)), some (.int 0), some (.int (nI 0))] [] (mk tl (up1 I 80 g) L rd) rr (Me) := l_lb tl I L rd i g m hm hb rr Me hK 0 (Nat.zero_le _)
def lgo_st (I : Nat → Nat → Int32) (L : Nat → Nat → Int64) (m : Nat) (j : Nat) (s : (Nat → Int32)) : (Nat → Int32) :=
  ((upr s ((nI j).toNatClampNeg) ((s ((nI j).toNatClampNeg)) &&& (lb_it I L j (m)))))

def lgo_it (I : Nat → Nat → Int32) (L : Nat → Nat → Int64) (m : Nat) (j : Nat) : (Nat → Int32) := itr (lgo_st I L m) (I 80) j
theorem lgo_it_s (I : Nat → Nat → Int32) (L : Nat → Nat → Int64) (m : Nat) (j : Nat) : (lgo_it I L m (j + 1)) = lgo_st I L m j (lgo_it I L m j) := itr_s _ _ _
set_option maxRecDepth 20000 in
theorem l_lgo (tl : List (Nat × Nat)) (I : Nat → Nat → Int32) (L : Nat → Nat → Int64) (rd : Nat → Nat → Option Nat) (m q : Nat) (hm : I 86 0 = nI m) (hb : m ≤ 40) (hq : I 69 0 = nI q) (hqb : q ≤ 12) : ∀ j, j ≤ q → ∀ o2 : Option Value, ∀ o3 : Option Value, Runs 167 2 [some (.ref 61), some (.int (nI j)), o2, o3] [] (mk tl (up1 I 80 (lgo_it I L m j)) L rd) none (mk tl (up1 I 80 (lgo_it I L m q)) L rd) := by
  refine loopU q (P := fun j => ∀ o2 : Option Value, ∀ o3 : Option Value, Runs 167 2 [some (.ref 61), some (.int (nI j)), o2, o3] [] (mk tl (up1 I 80 (lgo_it I L m j)) L rd) none (mk tl (up1 I 80 (lgo_it I L m q)) L rd)) (fun j hj ih => ?_) ?_
  · intro o2 o3
    show Runs 167 2 [some (.ref 61), some (.int (nI j)), o2, o3] [] (mk tl (up1 I 80 (lgo_it I L m j)) L rd) none (mk tl (up1 I 80 (lgo_it I L m q)) L rd)
    refine Runs.bl 6 (g := true && true) (i' := if decide ((I 69 0) ≤ (nI j)) = true then 52 else 8) (ls' := [some (.ref 61), some (.int (nI j)), o2, o3]) (st' := []) (M' := mk tl (up1 I 80 (lgo_it I L m j)) L rd) rfl rfl ?_
    refine Runs.brF (by show ¬ I 69 0 ≤ nI j; rw [hq]; exact nI_ge hj (by omega)) ?_
    refine Runs.bl 4 (g := true) (i' := 12) (ls' := [some (.ref 61), some (.int (nI j)), some (.int (0 : Int32)), some (.int (0 : Int32))]) (st' := []) (M' := mk tl (up1 I 80 (lgo_it I L m j)) L rd) rfl rfl ?_
    refine l0_lb tl I L rd j (lgo_it I L m j) m hm hb _ _ ?_
    refine Runs.bl 10 (g := inb (nI j) 48 && (inb (nI j) 48 && true)) (i' := 2) (ls' := [some (.ref 61), some (.int ((nI j) + 1)), some (.int (lb_it I L j (m))), some (.int (nI (m)))]) (st' := []) (M' := mk tl (up2 (up1 I 80 (lgo_it I L m j)) 80 ((nI j).toNatClampNeg) (((lgo_it I L m j) ((nI j).toNatClampNeg)) &&& (lb_it I L j (m)))) L rd) rfl (by have q1 := nI_toInt (n := j) (by omega); simp only [Bool.and_true, Bool.true_and, Bool.and_eq_true, inb_iff, Int32.lt_iff_toInt_lt, Int32.le_iff_toInt_le, toI_0, toI_1, toI_2, toI_3, toI_4, toI_5, toI_6, toI_7, toI_8, toI_9, toI_10, toI_12, toI_16, toI_18, toI_20, toI_21, toI_23, toI_24, toI_32, toI_36, toI_39, toI_40, toI_48, toI_50, toI_60, toI_64, toI_75, toI_80, toI_100, toI_144, toI_160, toI_200, toI_256, toI_320, toI_380, toI_576, toI_600, toI_1000, toI_1280, toI_2400, toI_9999, toI_10000, toI_100000, toI_1000000, toI_m1, toI_m100000, toI_s9, toI_s8] at hm hb hq hqb q1 ⊢; omega) ?_
    refine Runs.cg (ls := [some (.ref 61), some (.int (nI (j + 1))), _, _]) (M := mk tl (up1 I 80 (lgo_it I L m (j + 1))) L rd) (by rw [nI_1]) (by rw [lgo_it_s, lgo_st, row_up2] <;> rfl) (ih (some (.int (lb_it I L j (m)))) (some (.int (nI (m)))))
  · intro o2 o3
    show Runs 167 2 [some (.ref 61), some (.int (nI q)), o2, o3] [] (mk tl (up1 I 80 (lgo_it I L m q)) L rd) none (mk tl (up1 I 80 (lgo_it I L m q)) L rd)
    refine Runs.bl 6 (g := true && true) (i' := if decide ((I 69 0) ≤ (nI q)) = true then 52 else 8) (ls' := [some (.ref 61), some (.int (nI q)), o2, o3]) (st' := []) (M' := mk tl (up1 I 80 (lgo_it I L m q)) L rd) rfl rfl ?_
    refine Runs.brT (by show I 69 0 ≤ nI q; rw [hq]; exact nI_le (Nat.le_refl _) (by omega)) ?_
    exact Runs.rv rfl rfl (rfl)

set_option maxRecDepth 20000 in
theorem l0_lgo (tl : List (Nat × Nat)) (I : Nat → Nat → Int32) (L : Nat → Nat → Int64) (rd : Nat → Nat → Option Nat) (m q : Nat) (hm : I 86 0 = nI m) (hb : m ≤ 40) (hq : I 69 0 = nI q) (hqb : q ≤ 12) : ∀ o2 : Option Value, ∀ o3 : Option Value, Runs 167 2 [some (.ref 61), some (.int (nI 0)), o2, o3] [] (mk tl (up1 I 80 (I 80)) L rd) none (mk tl (up1 I 80 (lgo_it I L m q)) L rd) := l_lgo tl I L rd m q hm hb hq hqb 0 (Nat.zero_le _)
set_option maxRecDepth 20000 in
theorem c_lgo (tl : List (Nat × Nat)) (I : Nat → Nat → Int32) (L : Nat → Nat → Int64) (rd : Nat → Nat → Option Nat) (m q : Nat) (hm : I 86 0 = nI m) (hb : m ≤ 40) (hq : I 69 0 = nI q) (hqb : q ≤ 12) : Call 167 [.ref 61] (mk tl I L rd) none (mk tl (up1 I 80 (lgo_it I L m q)) L rd) := by
  show Runs 167 0 [some (.ref 61), none, none, none] [] (mk tl I L rd) none (mk tl (up1 I 80 (lgo_it I L m q)) L rd)
  refine Runs.bl 2 (g := true) (i' := 2) (ls' := [some (.ref 61), some (.int (0 : Int32)), none, none]) (st' := []) (M' := mk tl I L rd) rfl rfl ?_
  exact Runs.cg rfl (mk_cg (up1_self I 80).symm rfl) (l0_lgo tl I L rd m q hm hb hq hqb _ _)

def owe_sr (I : Nat → Nat → Int32) (L : Nat → Nat → Int64) (p t : Int32) : Nat → Nat → Int32
  | 0, j => (0 : Int32)
  | f + 1, j =>
  if ¬ (I 94 ((nI j).toNatClampNeg)) = 0 then (owe_sr I L p t f (j + 1)) else
  if ¬ (I 87 ((nI j).toNatClampNeg)) = p then (owe_sr I L p t f (j + 1)) else
  if ¬ (I 88 ((nI j).toNatClampNeg)) = t then (owe_sr I L p t f (j + 1)) else
  (1 : Int32)

set_option maxRecDepth 20000 in
theorem l_owe (tl : List (Nat × Nat)) (I : Nat → Nat → Int32) (L : Nat → Nat → Int64) (rd : Nat → Nat → Option Nat) (p t : Int32) (m : Nat) (hm : I 86 0 = nI m) (hb : m ≤ 40) : ∀ f j, j + f = m → Runs 202 2 [some (.ref 61), some (.int p), some (.int t), some (.int (nI j))] [] (mk tl I L rd) (some (.int (owe_sr I L p t f j))) (mk tl I L rd) := by
  intro f
  induction f with
  | zero =>
    intro j hj
    obtain rfl : j = m := hj
    refine Runs.bl 6 (g := true && true) (i' := if decide ((I 86 0) ≤ (nI j)) = true then 29 else 8) (ls' := [some (.ref 61), some (.int p), some (.int t), some (.int (nI j))]) (st' := []) (M' := mk tl I L rd) rfl rfl ?_
    refine Runs.brT (by show I 86 0 ≤ nI _; rw [hm]; exact nI_le (Nat.le_refl _) (by omega)) ?_
    refine Runs.bl 1 (g := true) (i' := 30) (ls' := [some (.ref 61), some (.int p), some (.int t), some (.int (nI j))]) (st' := [.int (0 : Int32)]) (M' := mk tl I L rd) rfl rfl ?_
    exact Runs.rz rfl rfl (by decide) (by rw [owe_sr] <;> rfl) (rfl)
  | succ f ih =>
    intro j hj
    refine Runs.bl 6 (g := true && true) (i' := if decide ((I 86 0) ≤ (nI j)) = true then 29 else 8) (ls' := [some (.ref 61), some (.int p), some (.int t), some (.int (nI j))]) (st' := []) (M' := mk tl I L rd) rfl rfl ?_
    refine Runs.brF (by show ¬ I 86 0 ≤ nI j; rw [hm]; exact nI_ge (by omega) (by omega)) ?_
    refine Runs.bl 5 (g := inb (nI j) 160 && true) (i' := if decide (¬ (I 94 ((nI j).toNatClampNeg)) = 0) = true then 27 else 13) (ls' := [some (.ref 61), some (.int p), some (.int t), some (.int (nI j))]) (st' := []) (M' := mk tl I L rd) rfl (by have q1 := nI_toInt (n := j) (by omega); simp only [Bool.and_true, Bool.true_and, Bool.and_eq_true, inb_iff, Int32.lt_iff_toInt_lt, Int32.le_iff_toInt_le, toI_0, toI_1, toI_2, toI_3, toI_4, toI_5, toI_6, toI_7, toI_8, toI_9, toI_10, toI_12, toI_16, toI_18, toI_20, toI_21, toI_23, toI_24, toI_32, toI_36, toI_39, toI_40, toI_48, toI_50, toI_60, toI_64, toI_75, toI_80, toI_100, toI_144, toI_160, toI_200, toI_256, toI_320, toI_380, toI_576, toI_600, toI_1000, toI_1280, toI_2400, toI_9999, toI_10000, toI_100000, toI_1000000, toI_m1, toI_m100000, toI_s9, toI_s8] at hm hb q1 ⊢; omega) ?_
    refine Runs.brP (fun h1 => ?_) (fun h1 => ?_)
    · skip
      refine Runs.bl 2 (g := true) (i' := 2) (ls' := [some (.ref 61), some (.int p), some (.int t), some (.int ((nI j) + 1))]) (st' := []) (M' := mk tl I L rd) rfl rfl ?_
      rw [show owe_sr I L p t (f + 1) j = owe_sr I L p t f (j + 1) from by rw [owe_sr, if_pos h1]]
      exact Runs.cg (by rw [nI_1]) rfl (ih (j + 1) (by omega))
    · skip
      refine Runs.bl 6 (g := inb (nI j) 160 && true) (i' := if decide (¬ (I 87 ((nI j).toNatClampNeg)) = p) = true then 27 else 19) (ls' := [some (.ref 61), some (.int p), some (.int t), some (.int (nI j))]) (st' := []) (M' := mk tl I L rd) rfl (by have q1 := nI_toInt (n := j) (by omega); simp only [Bool.and_true, Bool.true_and, Bool.and_eq_true, inb_iff, Int32.lt_iff_toInt_lt, Int32.le_iff_toInt_le, toI_0, toI_1, toI_2, toI_3, toI_4, toI_5, toI_6, toI_7, toI_8, toI_9, toI_10, toI_12, toI_16, toI_18, toI_20, toI_21, toI_23, toI_24, toI_32, toI_36, toI_39, toI_40, toI_48, toI_50, toI_60, toI_64, toI_75, toI_80, toI_100, toI_144, toI_160, toI_200, toI_256, toI_320, toI_380, toI_576, toI_600, toI_1000, toI_1280, toI_2400, toI_9999, toI_10000, toI_100000, toI_1000000, toI_m1, toI_m100000, toI_s9, toI_s8] at hm hb h1 q1 ⊢; omega) ?_
      refine Runs.brP (fun h2 => ?_) (fun h2 => ?_)
      · skip
        refine Runs.bl 2 (g := true) (i' := 2) (ls' := [some (.ref 61), some (.int p), some (.int t), some (.int ((nI j) + 1))]) (st' := []) (M' := mk tl I L rd) rfl rfl ?_
        rw [show owe_sr I L p t (f + 1) j = owe_sr I L p t f (j + 1) from by rw [owe_sr, if_neg h1, if_pos h2]]
        exact Runs.cg (by rw [nI_1]) rfl (ih (j + 1) (by omega))
      · skip
        refine Runs.bl 6 (g := inb (nI j) 160 && true) (i' := if decide (¬ (I 88 ((nI j).toNatClampNeg)) = t) = true then 27 else 25) (ls' := [some (.ref 61), some (.int p), some (.int t), some (.int (nI j))]) (st' := []) (M' := mk tl I L rd) rfl (by have q1 := nI_toInt (n := j) (by omega); simp only [Bool.and_true, Bool.true_and, Bool.and_eq_true, inb_iff, Int32.lt_iff_toInt_lt, Int32.le_iff_toInt_le, toI_0, toI_1, toI_2, toI_3, toI_4, toI_5, toI_6, toI_7, toI_8, toI_9, toI_10, toI_12, toI_16, toI_18, toI_20, toI_21, toI_23, toI_24, toI_32, toI_36, toI_39, toI_40, toI_48, toI_50, toI_60, toI_64, toI_75, toI_80, toI_100, toI_144, toI_160, toI_200, toI_256, toI_320, toI_380, toI_576, toI_600, toI_1000, toI_1280, toI_2400, toI_9999, toI_10000, toI_100000, toI_1000000, toI_m1, toI_m100000, toI_s9, toI_s8] at hm hb h1 h2 q1 ⊢; omega) ?_
        refine Runs.brP (fun h3 => ?_) (fun h3 => ?_)
        · skip
          refine Runs.bl 2 (g := true) (i' := 2) (ls' := [some (.ref 61), some (.int p), some (.int t), some (.int ((nI j) + 1))]) (st' := []) (M' := mk tl I L rd) rfl rfl ?_
          rw [show owe_sr I L p t (f + 1) j = owe_sr I L p t f (j + 1) from by rw [owe_sr, if_neg h1, if_neg h2, if_pos h3]]
          exact Runs.cg (by rw [nI_1]) rfl (ih (j + 1) (by omega))
        · skip
          refine Runs.bl 1 (g := true) (i' := 26) (ls' := [some (.ref 61), some (.int p), some (.int t), some (.int (nI j))]) (st' := [.int (1 : Int32)]) (M' := mk tl I L rd) rfl rfl ?_
          exact Runs.rz rfl rfl (by decide) (by rw [owe_sr, if_neg h1, if_neg h2, if_neg h3] <;> rfl) (rfl)

set_option maxRecDepth 20000 in
theorem c_owe (tl : List (Nat × Nat)) (I : Nat → Nat → Int32) (L : Nat → Nat → Int64) (rd : Nat → Nat → Option Nat) (p t : Int32) (m : Nat) (hm : I 86 0 = nI m) (hb : m ≤ 40) : Call 202 [.ref 61, .int p, .int t] (mk tl I L rd) (some (.int (owe_sr I L p t m 0))) (mk tl I L rd) := by
  show Runs 202 0 [some (.ref 61), some (.int p), some (.int t), none] [] (mk tl I L rd) (some (.int (owe_sr I L p t m 0))) (mk tl I L rd)
  refine Runs.bl 2 (g := true) (i' := 2) (ls' := [some (.ref 61), some (.int p), some (.int t), some (.int (0 : Int32))]) (st' := []) (M' := mk tl I L rd) rfl rfl ?_
  exact l_owe tl I L rd p t m hm hb m 0 (Nat.zero_add _)

def lk_st (I : Nat → Nat → Int32) (L : Nat → Nat → Int64) (p : Int32) (j : Nat) (s : (Nat → Int32)) : (Nat → Int32) :=
  if ¬ (I 94 ((nI j).toNatClampNeg)) = 0 then (s) else
  if ¬ (I 87 ((nI j).toNatClampNeg)) = p then (s) else
  ((upr (upr (upr s 0 ((s 0) + (dueR I (nI j)))) 1 ((s 1) + (1 : Int32))) 2 (if (s 2) ≤ (I 90 ((nI j).toNatClampNeg)) then s 2 else I 90 ((nI j).toNatClampNeg))))

def lk_it (I : Nat → Nat → Int32) (L : Nat → Nat → Int64) (p : Int32) (j : Nat) : (Nat → Int32) := itr (lk_st I L p) (upr (upr (upr (I 121) 0 0) 1 0) 2 9) j
theorem lk_it_s (I : Nat → Nat → Int32) (L : Nat → Nat → Int64) (p : Int32) (j : Nat) : (lk_it I L p (j + 1)) = lk_st I L p j (lk_it I L p j) := itr_s _ _ _
def lookR (I : Nat → Nat → Int32) (L : Nat → Nat → Int64) (p : Int32) (m : Nat) : Nat → Int32 := (upr (upr (upr (upr (upr (lk_it I L p m) 3 (if (I 72 p.toNatClampNeg) = 0 then (0 : Int32) else (I 66 0) - (I 73 p.toNatClampNeg))) 4 (I 71 p.toNatClampNeg)) 5 (if (I 72 p.toNatClampNeg) = 0 then (0 : Int32) else I 74 p.toNatClampNeg)) 6 (I 67 0)) 7 (I 70 p.toNatClampNeg))

set_option maxRecDepth 20000 in
theorem l_lk (tl : List (Nat × Nat)) (I : Nat → Nat → Int32) (L : Nat → Nat → Int64) (rd : Nat → Nat → Option Nat) (p : Int32) (m : Nat) (hm : I 86 0 = nI m) (hb : m ≤ 40) (hp : 0 ≤ p.toInt ∧ p.toInt < 12) : ∀ j, j ≤ m → Runs 195 17 [some (.ref 61), some (.int p), some (.int (nI j))] [] (mk tl (up1 I 121 (lk_it I L p j)) L rd) none (mk tl (up1 I 121 (lookR I L p m)) L rd) := by
  refine loopU m (P := fun j => Runs 195 17 [some (.ref 61), some (.int p), some (.int (nI j))] [] (mk tl (up1 I 121 (lk_it I L p j)) L rd) none (mk tl (up1 I 121 (lookR I L p m)) L rd)) (fun j hj ih => ?_) ?_
  · show Runs 195 17 [some (.ref 61), some (.int p), some (.int (nI j))] [] (mk tl (up1 I 121 (lk_it I L p j)) L rd) none (mk tl (up1 I 121 (lookR I L p m)) L rd)
    refine Runs.bl 6 (g := true && true) (i' := if decide ((I 86 0) ≤ (nI j)) = true then 76 else 23) (ls' := [some (.ref 61), some (.int p), some (.int (nI j))]) (st' := []) (M' := mk tl (up1 I 121 (lk_it I L p j)) L rd) rfl rfl ?_
    refine Runs.brF (by show ¬ I 86 0 ≤ nI j; rw [hm]; exact nI_ge hj (by omega)) ?_
    refine Runs.bl 5 (g := inb (nI j) 160 && true) (i' := if decide (¬ (I 94 ((nI j).toNatClampNeg)) = 0) = true then 74 else 28) (ls' := [some (.ref 61), some (.int p), some (.int (nI j))]) (st' := []) (M' := mk tl (up1 I 121 (lk_it I L p j)) L rd) rfl (by have q1 := nI_toInt (n := j) (by omega); simp only [Bool.and_true, Bool.true_and, Bool.and_eq_true, inb_iff, Int32.lt_iff_toInt_lt, Int32.le_iff_toInt_le, toI_0, toI_1, toI_2, toI_3, toI_4, toI_5, toI_6, toI_7, toI_8, toI_9, toI_10, toI_12, toI_16, toI_18, toI_20, toI_21, toI_23, toI_24, toI_32, toI_36, toI_39, toI_40, toI_48, toI_50, toI_60, toI_64, toI_75, toI_80, toI_100, toI_144, toI_160, toI_200, toI_256, toI_320, toI_380, toI_576, toI_600, toI_1000, toI_1280, toI_2400, toI_9999, toI_10000, toI_100000, toI_1000000, toI_m1, toI_m100000, toI_s9, toI_s8] at hm hb hp q1 ⊢; omega) ?_
    refine Runs.brP (fun h1 => ?_) (fun h1 => ?_)
    · skip
      refine Runs.bl 2 (g := true) (i' := 17) (ls' := [some (.ref 61), some (.int p), some (.int ((nI j) + 1))]) (st' := []) (M' := mk tl (up1 I 121 (lk_it I L p j)) L rd) rfl rfl ?_
      refine Runs.cg (ls := [some (.ref 61), some (.int p), some (.int (nI (j + 1)))]) (M := mk tl (up1 I 121 (lk_it I L p (j + 1))) L rd) (by rw [nI_1]) (by rw [lk_it_s, lk_st, if_pos h1] <;> rfl) ih
    · skip
      refine Runs.bl 6 (g := inb (nI j) 160 && true) (i' := if decide (¬ (I 87 ((nI j).toNatClampNeg)) = p) = true then 74 else 34) (ls' := [some (.ref 61), some (.int p), some (.int (nI j))]) (st' := []) (M' := mk tl (up1 I 121 (lk_it I L p j)) L rd) rfl (by have q1 := nI_toInt (n := j) (by omega); simp only [Bool.and_true, Bool.true_and, Bool.and_eq_true, inb_iff, Int32.lt_iff_toInt_lt, Int32.le_iff_toInt_le, toI_0, toI_1, toI_2, toI_3, toI_4, toI_5, toI_6, toI_7, toI_8, toI_9, toI_10, toI_12, toI_16, toI_18, toI_20, toI_21, toI_23, toI_24, toI_32, toI_36, toI_39, toI_40, toI_48, toI_50, toI_60, toI_64, toI_75, toI_80, toI_100, toI_144, toI_160, toI_200, toI_256, toI_320, toI_380, toI_576, toI_600, toI_1000, toI_1280, toI_2400, toI_9999, toI_10000, toI_100000, toI_1000000, toI_m1, toI_m100000, toI_s9, toI_s8] at hm hb hp h1 q1 ⊢; omega) ?_
      refine Runs.brP (fun h2 => ?_) (fun h2 => ?_)
      · skip
        refine Runs.bl 2 (g := true) (i' := 17) (ls' := [some (.ref 61), some (.int p), some (.int ((nI j) + 1))]) (st' := []) (M' := mk tl (up1 I 121 (lk_it I L p j)) L rd) rfl rfl ?_
        refine Runs.cg (ls := [some (.ref 61), some (.int p), some (.int (nI (j + 1)))]) (M := mk tl (up1 I 121 (lk_it I L p (j + 1))) L rd) (by rw [nI_1]) (by rw [lk_it_s, lk_st, if_neg h1, if_pos h2] <;> rfl) ih
      · skip
        refine Runs.bl 7 (g := true && true) (i' := 41) (ls' := [some (.ref 61), some (.int p), some (.int (nI j))]) (st' := [.int (nI j), .ref 61, .int ((lk_it I L p j) 0), .int (0 : Int32), .ref 121]) (M' := mk tl (up1 I 121 (lk_it I L p j)) L rd) rfl rfl ?_
        refine Runs.call (k' := 164) (as := [.ref 61, .int (nI j)]) (rest := [.int ((lk_it I L p j) 0), .int (0 : Int32), .ref 121]) (r1 := some (.int (dueR I (nI j)))) (M1 := mk tl (up1 I 121 (lk_it I L p j)) L rd) rfl rfl rfl (c_dueR tl (up1 I 121 (lk_it I L p j)) L rd (nI j) (by first | assumption | (have q1 := nI_toInt (n := j) (by omega); (try simp only [Bool.and_true, Bool.true_and, Bool.and_eq_true, inb_iff, Int32.lt_iff_toInt_lt, Int32.le_iff_toInt_le, toI_0, toI_1, toI_2, toI_3, toI_4, toI_5, toI_6, toI_7, toI_8, toI_9, toI_10, toI_12, toI_16, toI_18, toI_20, toI_21, toI_23, toI_24, toI_32, toI_36, toI_39, toI_40, toI_48, toI_50, toI_60, toI_64, toI_75, toI_80, toI_100, toI_144, toI_160, toI_200, toI_256, toI_320, toI_380, toI_576, toI_600, toI_1000, toI_1280, toI_2400, toI_9999, toI_10000, toI_100000, toI_1000000, toI_m1, toI_m100000, toI_s9, toI_s8] at hm hb hp h1 h2 q1  ⊢); omega))) ?_
        refine Runs.bl 22 (g := true && (true && (true && (inb (nI j) 160 && (true && true))))) (i' := if decide (((lk_it I L p j) 2) ≤ (I 90 ((nI j).toNatClampNeg))) = true then 69 else 64) (ls' := [some (.ref 61), some (.int p), some (.int (nI j))]) (st' := [.int (2 : Int32), .ref 121]) (M' := mk tl (up2 (up2 (up1 I 121 (lk_it I L p j)) 121 0 (((lk_it I L p j) 0) + (dueR I (nI j)))) 121 1 (((lk_it I L p j) 1) + (1 : Int32))) L rd) rfl (by have q1 := nI_toInt (n := j) (by omega); simp only [Bool.and_true, Bool.true_and, Bool.and_eq_true, inb_iff, Int32.lt_iff_toInt_lt, Int32.le_iff_toInt_le, toI_0, toI_1, toI_2, toI_3, toI_4, toI_5, toI_6, toI_7, toI_8, toI_9, toI_10, toI_12, toI_16, toI_18, toI_20, toI_21, toI_23, toI_24, toI_32, toI_36, toI_39, toI_40, toI_48, toI_50, toI_60, toI_64, toI_75, toI_80, toI_100, toI_144, toI_160, toI_200, toI_256, toI_320, toI_380, toI_576, toI_600, toI_1000, toI_1280, toI_2400, toI_9999, toI_10000, toI_100000, toI_1000000, toI_m1, toI_m100000, toI_s9, toI_s8] at hm hb hp h1 h2 q1 ⊢; omega) ?_
        refine Runs.dia (P := ((lk_it I L p j) 2) ≤ (I 90 ((nI j).toNatClampNeg))) (vT := (lk_it I L p j) 2) (vF := I 90 ((nI j).toNatClampNeg)) (e := 73) (fun h3 K => ?_) (fun h3 K => ?_) ?_
        · exact Runs.bl 4 (g := true && true) (i' := 73) (ls' := [some (.ref 61), some (.int p), some (.int (nI j))]) (st' := [.int ((lk_it I L p j) 2), .int (2 : Int32), .ref 121]) (M' := mk tl (up2 (up2 (up1 I 121 (lk_it I L p j)) 121 0 (((lk_it I L p j) 0) + (dueR I (nI j)))) 121 1 (((lk_it I L p j) 1) + (1 : Int32))) L rd) rfl rfl K
        · exact Runs.bl 5 (g := inb (nI j) 160 && true) (i' := 73) (ls' := [some (.ref 61), some (.int p), some (.int (nI j))]) (st' := [.int (I 90 ((nI j).toNatClampNeg)), .int (2 : Int32), .ref 121]) (M' := mk tl (up2 (up2 (up1 I 121 (lk_it I L p j)) 121 0 (((lk_it I L p j) 0) + (dueR I (nI j)))) 121 1 (((lk_it I L p j) 1) + (1 : Int32))) L rd) rfl (by have q1 := nI_toInt (n := j) (by omega); simp only [Bool.and_true, Bool.true_and, Bool.and_eq_true, inb_iff, Int32.lt_iff_toInt_lt, Int32.le_iff_toInt_le, toI_0, toI_1, toI_2, toI_3, toI_4, toI_5, toI_6, toI_7, toI_8, toI_9, toI_10, toI_12, toI_16, toI_18, toI_20, toI_21, toI_23, toI_24, toI_32, toI_36, toI_39, toI_40, toI_48, toI_50, toI_60, toI_64, toI_75, toI_80, toI_100, toI_144, toI_160, toI_200, toI_256, toI_320, toI_380, toI_576, toI_600, toI_1000, toI_1280, toI_2400, toI_9999, toI_10000, toI_100000, toI_1000000, toI_m1, toI_m100000, toI_s9, toI_s8] at hm hb hp h1 h2 h3 q1 ⊢; omega) K
        refine Runs.bl 3 (g := true && true) (i' := 17) (ls' := [some (.ref 61), some (.int p), some (.int ((nI j) + 1))]) (st' := []) (M' := mk tl (up2 (up2 (up2 (up1 I 121 (lk_it I L p j)) 121 0 (((lk_it I L p j) 0) + (dueR I (nI j)))) 121 1 (((lk_it I L p j) 1) + (1 : Int32))) 121 2 (if ((lk_it I L p j) 2) ≤ (I 90 ((nI j).toNatClampNeg)) then (lk_it I L p j) 2 else I 90 ((nI j).toNatClampNeg))) L rd) rfl rfl ?_
        refine Runs.cg (ls := [some (.ref 61), some (.int p), some (.int (nI (j + 1)))]) (M := mk tl (up1 I 121 (lk_it I L p (j + 1))) L rd) (by rw [nI_1]) (by rw [lk_it_s, lk_st, if_neg h1, if_neg h2, row_up2, row_up2, row_up2] <;> rfl) ih
  · show Runs 195 17 [some (.ref 61), some (.int p), some (.int (nI m))] [] (mk tl (up1 I 121 (lk_it I L p m)) L rd) none (mk tl (up1 I 121 (lookR I L p m)) L rd)
    refine Runs.bl 6 (g := true && true) (i' := if decide ((I 86 0) ≤ (nI m)) = true then 76 else 23) (ls' := [some (.ref 61), some (.int p), some (.int (nI m))]) (st' := []) (M' := mk tl (up1 I 121 (lk_it I L p m)) L rd) rfl rfl ?_
    refine Runs.brT (by show I 86 0 ≤ nI m; rw [hm]; exact nI_le (Nat.le_refl _) (by omega)) ?_
    refine Runs.bl 8 (g := inb p 48 && true) (i' := if decide ((I 72 p.toNatClampNeg) = 0) = true then 94 else 84) (ls' := [some (.ref 61), some (.int p), some (.int (nI m))]) (st' := [.int (3 : Int32), .ref 121]) (M' := mk tl (up1 I 121 (lk_it I L p m)) L rd) rfl (by skip; simp only [Bool.and_true, Bool.true_and, Bool.and_eq_true, inb_iff, Int32.lt_iff_toInt_lt, Int32.le_iff_toInt_le, toI_0, toI_1, toI_2, toI_3, toI_4, toI_5, toI_6, toI_7, toI_8, toI_9, toI_10, toI_12, toI_16, toI_18, toI_20, toI_21, toI_23, toI_24, toI_32, toI_36, toI_39, toI_40, toI_48, toI_50, toI_60, toI_64, toI_75, toI_80, toI_100, toI_144, toI_160, toI_200, toI_256, toI_320, toI_380, toI_576, toI_600, toI_1000, toI_1280, toI_2400, toI_9999, toI_10000, toI_100000, toI_1000000, toI_m1, toI_m100000, toI_s9, toI_s8] at hm hb hp ⊢; omega) ?_
    refine Runs.dia (P := (I 72 p.toNatClampNeg) = 0) (vT := (0 : Int32)) (vF := (I 66 0) - (I 73 p.toNatClampNeg)) (e := 95) (fun h1 K => ?_) (fun h1 K => ?_) ?_
    · exact Runs.bl 1 (g := true) (i' := 95) (ls' := [some (.ref 61), some (.int p), some (.int (nI m))]) (st' := [.int (0 : Int32), .int (3 : Int32), .ref 121]) (M' := mk tl (up1 I 121 (lk_it I L p m)) L rd) rfl rfl K
    · exact Runs.bl 10 (g := true && (inb p 48 && true)) (i' := 95) (ls' := [some (.ref 61), some (.int p), some (.int (nI m))]) (st' := [.int ((I 66 0) - (I 73 p.toNatClampNeg)), .int (3 : Int32), .ref 121]) (M' := mk tl (up1 I 121 (lk_it I L p m)) L rd) rfl (by skip; simp only [Bool.and_true, Bool.true_and, Bool.and_eq_true, inb_iff, Int32.lt_iff_toInt_lt, Int32.le_iff_toInt_le, toI_0, toI_1, toI_2, toI_3, toI_4, toI_5, toI_6, toI_7, toI_8, toI_9, toI_10, toI_12, toI_16, toI_18, toI_20, toI_21, toI_23, toI_24, toI_32, toI_36, toI_39, toI_40, toI_48, toI_50, toI_60, toI_64, toI_75, toI_80, toI_100, toI_144, toI_160, toI_200, toI_256, toI_320, toI_380, toI_576, toI_600, toI_1000, toI_1280, toI_2400, toI_9999, toI_10000, toI_100000, toI_1000000, toI_m1, toI_m100000, toI_s9, toI_s8] at hm hb hp h1 ⊢; omega) K
    refine Runs.bl 17 (g := true && (inb p 48 && (true && (inb p 48 && true)))) (i' := if decide ((I 72 p.toNatClampNeg) = 0) = true then 117 else 112) (ls' := [some (.ref 61), some (.int p), some (.int (nI m))]) (st' := [.int (5 : Int32), .ref 121]) (M' := mk tl (up2 (up2 (up1 I 121 (lk_it I L p m)) 121 3 (if (I 72 p.toNatClampNeg) = 0 then (0 : Int32) else (I 66 0) - (I 73 p.toNatClampNeg))) 121 4 (I 71 p.toNatClampNeg)) L rd) rfl (by skip; simp only [Bool.and_true, Bool.true_and, Bool.and_eq_true, inb_iff, Int32.lt_iff_toInt_lt, Int32.le_iff_toInt_le, toI_0, toI_1, toI_2, toI_3, toI_4, toI_5, toI_6, toI_7, toI_8, toI_9, toI_10, toI_12, toI_16, toI_18, toI_20, toI_21, toI_23, toI_24, toI_32, toI_36, toI_39, toI_40, toI_48, toI_50, toI_60, toI_64, toI_75, toI_80, toI_100, toI_144, toI_160, toI_200, toI_256, toI_320, toI_380, toI_576, toI_600, toI_1000, toI_1280, toI_2400, toI_9999, toI_10000, toI_100000, toI_1000000, toI_m1, toI_m100000, toI_s9, toI_s8] at hm hb hp ⊢; omega) ?_
    refine Runs.dia (P := (I 72 p.toNatClampNeg) = 0) (vT := (0 : Int32)) (vF := I 74 p.toNatClampNeg) (e := 118) (fun h2 K => ?_) (fun h2 K => ?_) ?_
    · exact Runs.bl 1 (g := true) (i' := 118) (ls' := [some (.ref 61), some (.int p), some (.int (nI m))]) (st' := [.int (0 : Int32), .int (5 : Int32), .ref 121]) (M' := mk tl (up2 (up2 (up1 I 121 (lk_it I L p m)) 121 3 (if (I 72 p.toNatClampNeg) = 0 then (0 : Int32) else (I 66 0) - (I 73 p.toNatClampNeg))) 121 4 (I 71 p.toNatClampNeg)) L rd) rfl rfl K
    · exact Runs.bl 5 (g := inb p 48 && true) (i' := 118) (ls' := [some (.ref 61), some (.int p), some (.int (nI m))]) (st' := [.int (I 74 p.toNatClampNeg), .int (5 : Int32), .ref 121]) (M' := mk tl (up2 (up2 (up1 I 121 (lk_it I L p m)) 121 3 (if (I 72 p.toNatClampNeg) = 0 then (0 : Int32) else (I 66 0) - (I 73 p.toNatClampNeg))) 121 4 (I 71 p.toNatClampNeg)) L rd) rfl (by skip; simp only [Bool.and_true, Bool.true_and, Bool.and_eq_true, inb_iff, Int32.lt_iff_toInt_lt, Int32.le_iff_toInt_le, toI_0, toI_1, toI_2, toI_3, toI_4, toI_5, toI_6, toI_7, toI_8, toI_9, toI_10, toI_12, toI_16, toI_18, toI_20, toI_21, toI_23, toI_24, toI_32, toI_36, toI_39, toI_40, toI_48, toI_50, toI_60, toI_64, toI_75, toI_80, toI_100, toI_144, toI_160, toI_200, toI_256, toI_320, toI_380, toI_576, toI_600, toI_1000, toI_1280, toI_2400, toI_9999, toI_10000, toI_100000, toI_1000000, toI_m1, toI_m100000, toI_s9, toI_s8] at hm hb hp h2 ⊢; omega) K
    refine Runs.bl 17 (g := true && (true && (true && (inb p 48 && (true && true))))) (i' := 135) (ls' := [some (.ref 61), some (.int p), some (.int (nI m))]) (st' := []) (M' := mk tl (up2 (up2 (up2 (up2 (up2 (up1 I 121 (lk_it I L p m)) 121 3 (if (I 72 p.toNatClampNeg) = 0 then (0 : Int32) else (I 66 0) - (I 73 p.toNatClampNeg))) 121 4 (I 71 p.toNatClampNeg)) 121 5 (if (I 72 p.toNatClampNeg) = 0 then (0 : Int32) else I 74 p.toNatClampNeg)) 121 6 (I 67 0)) 121 7 (I 70 p.toNatClampNeg)) L rd) rfl (by skip; simp only [Bool.and_true, Bool.true_and, Bool.and_eq_true, inb_iff, Int32.lt_iff_toInt_lt, Int32.le_iff_toInt_le, toI_0, toI_1, toI_2, toI_3, toI_4, toI_5, toI_6, toI_7, toI_8, toI_9, toI_10, toI_12, toI_16, toI_18, toI_20, toI_21, toI_23, toI_24, toI_32, toI_36, toI_39, toI_40, toI_48, toI_50, toI_60, toI_64, toI_75, toI_80, toI_100, toI_144, toI_160, toI_200, toI_256, toI_320, toI_380, toI_576, toI_600, toI_1000, toI_1280, toI_2400, toI_9999, toI_10000, toI_100000, toI_1000000, toI_m1, toI_m100000, toI_s9, toI_s8] at hm hb hp ⊢; omega) ?_
    exact Runs.rv rfl rfl (by simp only [lookR, row_up2])

set_option maxRecDepth 20000 in
theorem l0_lk (tl : List (Nat × Nat)) (I : Nat → Nat → Int32) (L : Nat → Nat → Int64) (rd : Nat → Nat → Option Nat) (p : Int32) (m : Nat) (hm : I 86 0 = nI m) (hb : m ≤ 40) (hp : 0 ≤ p.toInt ∧ p.toInt < 12) : Runs 195 17 [some (.ref 61), some (.int p), some (.int (nI 0))] [] (mk tl (up1 I 121 (upr (upr (upr (I 121) 0 0) 1 0) 2 9)) L rd) none (mk tl (up1 I 121 (lookR I L p m)) L rd) := l_lk tl I L rd p m hm hb hp 0 (Nat.zero_le _)
set_option maxRecDepth 20000 in
theorem c_lk (tl : List (Nat × Nat)) (I : Nat → Nat → Int32) (L : Nat → Nat → Int64) (rd : Nat → Nat → Option Nat) (p : Int32) (m : Nat) (hm : I 86 0 = nI m) (hb : m ≤ 40) (hp : 0 ≤ p.toInt ∧ p.toInt < 12) : Call 195 [.ref 61, .int p] (mk tl I L rd) none (mk tl (up1 I 121 (lookR I L p m)) L rd) := by
  show Runs 195 0 [some (.ref 61), some (.int p), none] [] (mk tl I L rd) none (mk tl (up1 I 121 (lookR I L p m)) L rd)
  refine Runs.bl 17 (g := true && (true && (true && true))) (i' := 17) (ls' := [some (.ref 61), some (.int p), some (.int (0 : Int32))]) (st' := []) (M' := mk tl (up2 (up2 (up2 I 121 0 (0 : Int32)) 121 1 (0 : Int32)) 121 2 (9 : Int32)) L rd) rfl rfl ?_
  exact Runs.cg rfl (mk_cg (by rw [show up1 I 121 (upr (upr (upr (I 121) 0 0) 1 0) 2 9) = _ from rfl]; simp only [up2_up1]; rw [up1_up1, up1_up1]; rfl) rfl) (l0_lk tl I L rd p m hm hb hp)

