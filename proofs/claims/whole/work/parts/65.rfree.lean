/-! THE REFERENCE: FREED (printed by p65.py) -/
def li_wl (I : Nat → Nat → Int32) (L : Nat → Nat → Int64) (x : Int32) (i k : Nat) : Nat → Nat → (Int64) → Int64
  | 0, _, s => s
  | f + 1, j, s =>
  if ((x >>> ((nI k) &&& 31)) &&& (1 : Int32)) = 0 then (s) else
  if ¬ (I 87 ((nI j).toNatClampNeg)) = (I 128 ((nI k).toNatClampNeg)) then (li_wl I L x i k f (j + 1) (s + (0 : Int64))) else
  if ¬ (I 88 ((nI j).toNatClampNeg)) = (I 128 (nI i).toNatClampNeg) then (li_wl I L x i k f (j + 1) (s + (0 : Int64))) else
  li_wl I L x i k f (j + 1) (s + ((dueR I (nI j)).toInt64))

set_option maxRecDepth 20000 in
theorem l_li (tl : List (Nat × Nat)) (I : Nat → Nat → Int32) (L : Nat → Nat → Int64) (rd : Nat → Nat → Option Nat) (x : Int32) (i z k m : Nat) (hm : I 86 0 = nI m) (hb : m ≤ 40) (hz8 : z ≤ 8) (hi : i < z) (hw : ∀ k, k < z → 0 ≤ (I 128 k).toInt ∧ (I 128 k).toInt < 12) (hk : k < z) (rr : Option Value) (Me : Mm) : ∀ f j (s : Int64), j + f = m → (∀ cc : Option Value, Runs 231 56 [some (.ref 61), some (.int (nI i)), some (.int x), some (.int (nI z)), some (.int (I 128 (nI i).toNatClampNeg)), some (.long (li_wl I L x i k f j s)), none, some (.int (nI k)), cc] [] (mk tl I L rd) rr Me) → Runs 231 18 [some (.ref 61), some (.int (nI i)), some (.int x), some (.int (nI z)), some (.int (I 128 (nI i).toNatClampNeg)), some (.long s), none, some (.int (nI k)), some (.int (nI j))] [] (mk tl I L rd) rr Me := by
  intro f
  induction f with
  | zero =>
    intro j s hj hK
    refine Runs.bl 6 (g := true && true) (i' := if decide ((I 86 0) ≤ (nI j)) = true then 56 else 24) (ls' := [some (.ref 61), some (.int (nI i)), some (.int x), some (.int (nI z)), some (.int (I 128 (nI i).toNatClampNeg)), some (.long s), none, some (.int (nI k)), some (.int (nI j))]) (st' := []) (M' := mk tl I L rd) rfl rfl ?_
    refine Runs.brT (by show I 86 0 ≤ nI j; rw [hm]; exact nI_le (by omega) (by omega)) ?_
    exact hK _
  | succ f ih =>
    intro j s hj hK
    refine Runs.bl 6 (g := true && true) (i' := if decide ((I 86 0) ≤ (nI j)) = true then 56 else 24) (ls' := [some (.ref 61), some (.int (nI i)), some (.int x), some (.int (nI z)), some (.int (I 128 (nI i).toNatClampNeg)), some (.long s), none, some (.int (nI k)), some (.int (nI j))]) (st' := []) (M' := mk tl I L rd) rfl rfl ?_
    refine Runs.brF (by show ¬ I 86 0 ≤ nI j; rw [hm]; exact nI_ge (by omega) (by omega)) ?_
    refine Runs.bl 6 (g := true) (i' := if decide (((x >>> ((nI k) &&& 31)) &&& (1 : Int32)) = 0) = true then 56 else 30) (ls' := [some (.ref 61), some (.int (nI i)), some (.int x), some (.int (nI z)), some (.int (I 128 (nI i).toNatClampNeg)), some (.long s), none, some (.int (nI k)), some (.int (nI j))]) (st' := []) (M' := mk tl I L rd) rfl rfl ?_
    refine Runs.brP (fun h1 => ?_) (fun h1 => ?_)
    · skip
      have hx := hK (some (.int (nI j)))
      rw [li_wl, if_pos h1] at hx
      exact hx
    · skip
      refine Runs.bl 10 (g := inb (nI j) 160 && (inb (nI k) 8 && true)) (i' := if decide (¬ (I 87 ((nI j).toNatClampNeg)) = (I 128 ((nI k).toNatClampNeg))) = true then 51 else 40) (ls' := [some (.ref 61), some (.int (nI i)), some (.int x), some (.int (nI z)), some (.int (I 128 (nI i).toNatClampNeg)), some (.long s), none, some (.int (nI k)), some (.int (nI j))]) (st' := [.long s]) (M' := mk tl I L rd) rfl (by have q1 := nI_toInt (n := j) (by omega); have q2 := nI_toInt (n := k) (by omega); simp only [Bool.and_true, Bool.true_and, Bool.and_eq_true, inb_iff, Int32.lt_iff_toInt_lt, Int32.le_iff_toInt_le, toI_0, toI_1, toI_2, toI_3, toI_4, toI_5, toI_6, toI_7, toI_8, toI_9, toI_10, toI_12, toI_16, toI_18, toI_20, toI_21, toI_23, toI_24, toI_32, toI_36, toI_39, toI_40, toI_48, toI_50, toI_60, toI_64, toI_75, toI_80, toI_100, toI_144, toI_160, toI_200, toI_256, toI_320, toI_380, toI_576, toI_600, toI_1000, toI_1280, toI_2400, toI_9999, toI_10000, toI_100000, toI_1000000, toI_m1, toI_m100000, toI_s9, toI_s8] at hm hb hz8 hi hw hk h1 q1 q2 ⊢; omega) ?_
      refine Runs.brP (fun h2 => ?_) (fun h2 => ?_)
      · skip
        refine Runs.bl 5 (g := true) (i' := 18) (ls' := [some (.ref 61), some (.int (nI i)), some (.int x), some (.int (nI z)), some (.int (I 128 (nI i).toNatClampNeg)), some (.long (s + (0 : Int64))), none, some (.int (nI k)), some (.int ((nI j) + 1))]) (st' := []) (M' := mk tl I L rd) rfl rfl ?_
        refine Runs.cg (M := mk tl I L rd) (by rw [nI_1]) (rfl) (ih (j + 1) (s + (0 : Int64)) (by omega) (fun cc => ?_))
        have hx := hK cc
        rw [li_wl, if_neg h1, if_pos h2] at hx
        exact hx
      · skip
        refine Runs.bl 6 (g := inb (nI j) 160 && true) (i' := if decide (¬ (I 88 ((nI j).toNatClampNeg)) = (I 128 (nI i).toNatClampNeg)) = true then 51 else 46) (ls' := [some (.ref 61), some (.int (nI i)), some (.int x), some (.int (nI z)), some (.int (I 128 (nI i).toNatClampNeg)), some (.long s), none, some (.int (nI k)), some (.int (nI j))]) (st' := [.long s]) (M' := mk tl I L rd) rfl (by have q1 := nI_toInt (n := j) (by omega); have q2 := nI_toInt (n := k) (by omega); simp only [Bool.and_true, Bool.true_and, Bool.and_eq_true, inb_iff, Int32.lt_iff_toInt_lt, Int32.le_iff_toInt_le, toI_0, toI_1, toI_2, toI_3, toI_4, toI_5, toI_6, toI_7, toI_8, toI_9, toI_10, toI_12, toI_16, toI_18, toI_20, toI_21, toI_23, toI_24, toI_32, toI_36, toI_39, toI_40, toI_48, toI_50, toI_60, toI_64, toI_75, toI_80, toI_100, toI_144, toI_160, toI_200, toI_256, toI_320, toI_380, toI_576, toI_600, toI_1000, toI_1280, toI_2400, toI_9999, toI_10000, toI_100000, toI_1000000, toI_m1, toI_m100000, toI_s9, toI_s8] at hm hb hz8 hi hw hk h1 h2 q1 q2 ⊢; omega) ?_
        refine Runs.brP (fun h3 => ?_) (fun h3 => ?_)
        · skip
          refine Runs.bl 5 (g := true) (i' := 18) (ls' := [some (.ref 61), some (.int (nI i)), some (.int x), some (.int (nI z)), some (.int (I 128 (nI i).toNatClampNeg)), some (.long (s + (0 : Int64))), none, some (.int (nI k)), some (.int ((nI j) + 1))]) (st' := []) (M' := mk tl I L rd) rfl rfl ?_
          refine Runs.cg (M := mk tl I L rd) (by rw [nI_1]) (rfl) (ih (j + 1) (s + (0 : Int64)) (by omega) (fun cc => ?_))
          have hx := hK cc
          rw [li_wl, if_neg h1, if_neg h2, if_pos h3] at hx
          exact hx
        · skip
          refine Runs.bl 2 (g := true) (i' := 48) (ls' := [some (.ref 61), some (.int (nI i)), some (.int x), some (.int (nI z)), some (.int (I 128 (nI i).toNatClampNeg)), some (.long s), none, some (.int (nI k)), some (.int (nI j))]) (st' := [.int (nI j), .ref 61, .long s]) (M' := mk tl I L rd) rfl rfl ?_
          refine Runs.call (k' := 164) (as := [.ref 61, .int (nI j)]) (rest := [.long s]) (r1 := some (.int (dueR I (nI j)))) (M1 := mk tl I L rd) rfl rfl rfl (c_dueR tl I L rd (nI j) (by first | assumption | (have q1 := nI_toInt (n := j) (by omega); have q2 := nI_toInt (n := k) (by omega); (try simp only [Bool.and_true, Bool.true_and, Bool.and_eq_true, inb_iff, Int32.lt_iff_toInt_lt, Int32.le_iff_toInt_le, toI_0, toI_1, toI_2, toI_3, toI_4, toI_5, toI_6, toI_7, toI_8, toI_9, toI_10, toI_12, toI_16, toI_18, toI_20, toI_21, toI_23, toI_24, toI_32, toI_36, toI_39, toI_40, toI_48, toI_50, toI_60, toI_64, toI_75, toI_80, toI_100, toI_144, toI_160, toI_200, toI_256, toI_320, toI_380, toI_576, toI_600, toI_1000, toI_1280, toI_2400, toI_9999, toI_10000, toI_100000, toI_1000000, toI_m1, toI_m100000, toI_s9, toI_s8] at hm hb hz8 hi hw hk h1 h2 h3 q1 q2  ⊢); omega))) ?_
          refine Runs.bl 6 (g := true) (i' := 18) (ls' := [some (.ref 61), some (.int (nI i)), some (.int x), some (.int (nI z)), some (.int (I 128 (nI i).toNatClampNeg)), some (.long (s + ((dueR I (nI j)).toInt64))), none, some (.int (nI k)), some (.int ((nI j) + 1))]) (st' := []) (M' := mk tl I L rd) rfl rfl ?_
          refine Runs.cg (M := mk tl I L rd) (by rw [nI_1]) (rfl) (ih (j + 1) (s + ((dueR I (nI j)).toInt64)) (by omega) (fun cc => ?_))
          have hx := hK cc
          rw [li_wl, if_neg h1, if_neg h2, if_neg h3] at hx
          exact hx

def lo2_st (I : Nat → Nat → Int32) (L : Nat → Nat → Int64) (x : Int32) (i m : Nat) (j : Nat) (s : Int64) : Int64 :=
  (li_wl I L x i j m 0 s)

def lo2_it (I : Nat → Nat → Int32) (L : Nat → Nat → Int64) (x : Int32) (i m : Nat) (j : Nat) : Int64 := itr (lo2_st I L x i m) ((I 70 (I 128 (nI i).toNatClampNeg).toNatClampNeg).toInt64) j
theorem lo2_it_s (I : Nat → Nat → Int32) (L : Nat → Nat → Int64) (x : Int32) (i m : Nat) (j : Nat) : (lo2_it I L x i m (j + 1)) = lo2_st I L x i m j (lo2_it I L x i m j) := itr_s _ _ _
set_option maxRecDepth 20000 in
theorem l_lo2 (tl : List (Nat × Nat)) (I : Nat → Nat → Int32) (L : Nat → Nat → Int64) (rd : Nat → Nat → Option Nat) (x : Int32) (i z m : Nat) (hm : I 86 0 = nI m) (hb : m ≤ 40) (hz8 : z ≤ 8) (hi : i < z) (hw : ∀ k, k < z → 0 ≤ (I 128 k).toInt ∧ (I 128 k).toInt < 12) (rr : Option Value) (Me : Mm) (hK : ∀ o8 : Option Value, Runs 231 58 [some (.ref 61), some (.int (nI i)), some (.int x), some (.int (nI z)), some (.int (I 128 (nI i).toNatClampNeg)), some (.long (lo2_it I L x i m (z))), none, some (.int (nI (z))), o8] [] (mk tl I L rd) rr Me) : ∀ j, j ≤ z → ∀ o8 : Option Value, Runs 231 13 [some (.ref 61), some (.int (nI i)), some (.int x), some (.int (nI z)), some (.int (I 128 (nI i).toNatClampNeg)), some (.long (lo2_it I L x i m j)), none, some (.int (nI j)), o8] [] (mk tl I L rd) rr (Me) := by
  refine loopU z (P := fun j => ∀ o8 : Option Value, Runs 231 13 [some (.ref 61), some (.int (nI i)), some (.int x), some (.int (nI z)), some (.int (I 128 (nI i).toNatClampNeg)), some (.long (lo2_it I L x i m j)), none, some (.int (nI j)), o8] [] (mk tl I L rd) rr (Me)) (fun j hj ih => ?_) ?_
  · intro o8
    show Runs 231 13 [some (.ref 61), some (.int (nI i)), some (.int x), some (.int (nI z)), some (.int (I 128 (nI i).toNatClampNeg)), some (.long (lo2_it I L x i m j)), none, some (.int (nI j)), o8] [] (mk tl I L rd) rr (Me)
    refine Runs.bl 3 (g := true) (i' := if decide ((nI z) ≤ (nI j)) = true then 58 else 16) (ls' := [some (.ref 61), some (.int (nI i)), some (.int x), some (.int (nI z)), some (.int (I 128 (nI i).toNatClampNeg)), some (.long (lo2_it I L x i m j)), none, some (.int (nI j)), o8]) (st' := []) (M' := mk tl I L rd) rfl rfl ?_
    refine Runs.brF (nI_ge hj (by omega)) ?_
    refine Runs.bl 2 (g := true) (i' := 18) (ls' := [some (.ref 61), some (.int (nI i)), some (.int x), some (.int (nI z)), some (.int (I 128 (nI i).toNatClampNeg)), some (.long (lo2_it I L x i m j)), none, some (.int (nI j)), some (.int (0 : Int32))]) (st' := []) (M' := mk tl I L rd) rfl rfl ?_
    refine l_li tl I L rd x i z j m hm hb hz8 hi hw (by omega) _ _ m 0 (lo2_it I L x i m j) (Nat.zero_add _) (fun cc => ?_)
    refine Runs.bl 2 (g := true) (i' := 13) (ls' := [some (.ref 61), some (.int (nI i)), some (.int x), some (.int (nI z)), some (.int (I 128 (nI i).toNatClampNeg)), some (.long (li_wl I L x i j m 0 (lo2_it I L x i m j))), none, some (.int ((nI j) + 1)), cc]) (st' := []) (M' := mk tl I L rd) rfl rfl ?_
    refine Runs.cg (ls := [some (.ref 61), some (.int (nI i)), some (.int x), some (.int (nI z)), some (.int (I 128 (nI i).toNatClampNeg)), some (.long (lo2_it I L x i m (j + 1))), none, some (.int (nI (j + 1))), _]) (M := mk tl I L rd) (by rw [nI_1, lo2_it_s, lo2_st]) (rfl) (ih cc)
  · intro o8
    show Runs 231 13 [some (.ref 61), some (.int (nI i)), some (.int x), some (.int (nI z)), some (.int (I 128 (nI i).toNatClampNeg)), some (.long (lo2_it I L x i m z)), none, some (.int (nI z)), o8] [] (mk tl I L rd) rr (Me)
    refine Runs.bl 3 (g := true) (i' := if decide ((nI z) ≤ (nI z)) = true then 58 else 16) (ls' := [some (.ref 61), some (.int (nI i)), some (.int x), some (.int (nI z)), some (.int (I 128 (nI i).toNatClampNeg)), some (.long (lo2_it I L x i m z)), none, some (.int (nI z)), o8]) (st' := []) (M' := mk tl I L rd) rfl rfl ?_
    refine Runs.brT (nI_le (Nat.le_refl _) (by omega)) ?_
    exact hK _

set_option maxRecDepth 20000 in
theorem l0_lo2 (tl : List (Nat × Nat)) (I : Nat → Nat → Int32) (L : Nat → Nat → Int64) (rd : Nat → Nat → Option Nat) (x : Int32) (i z m : Nat) (hm : I 86 0 = nI m) (hb : m ≤ 40) (hz8 : z ≤ 8) (hi : i < z) (hw : ∀ k, k < z → 0 ≤ (I 128 k).toInt ∧ (I 128 k).toInt < 12) (rr : Option Value) (Me : Mm) (hK : ∀ o8 : Option Value, Runs 231 58 [some (.ref 61), some (.int (nI i)), some (.int x), some (.int (nI z)), some (.int (I 128 (nI i).toNatClampNeg)), some (.long (lo2_it I L x i m (z))), none, some (.int (nI (z))), o8] [] (mk tl I L rd) rr Me) : ∀ o8 : Option Value, Runs 231 13 [some (.ref 61), some (.int (nI i)), some (.int x), some (.int (nI z)), some (.int (I 128 (nI i).toNatClampNeg)), some (.long ((I 70 (I 128 (nI i).toNatClampNeg).toNatClampNeg).toInt64)), none, some (.int (nI 0)), o8] [] (mk tl I L rd) rr (Me) := l_lo2 tl I L rd x i z m hm hb hz8 hi hw rr Me hK 0 (Nat.zero_le _)
def lacks (I : Nat → Nat → Int32) (L : Nat → Nat → Int64) (i : Nat) (x : Int32) (z m : Nat) : Int32 := if lg_cmp ((dueFrom_it I L (I 128 (nI i).toNatClampNeg) m).toInt64 + (I 75 (I 128 (nI i).toNatClampNeg).toNatClampNeg).toInt64) (lo2_it I L x i m z) ≤ 0 then 0 else (((dueFrom_it I L (I 128 (nI i).toNatClampNeg) m).toInt64 + (I 75 (I 128 (nI i).toNatClampNeg).toNatClampNeg).toInt64) - (lo2_it I L x i m z)).toInt32

set_option maxRecDepth 20000 in
theorem c_lacks (tl : List (Nat × Nat)) (I : Nat → Nat → Int32) (L : Nat → Nat → Int64) (rd : Nat → Nat → Option Nat) (i : Nat) (x : Int32) (z m : Nat) (hm : I 86 0 = nI m) (hb : m ≤ 40) (hz8 : z ≤ 8) (hi : i < z) (hw : ∀ k, k < z → 0 ≤ (I 128 k).toInt ∧ (I 128 k).toInt < 12) : Call 231 [.ref 61, .int (nI i), .int x, .int (nI z)] (mk tl I L rd) (some (.int (lacks I L i x z m))) (mk tl I L rd) := by
  show Runs 231 0 [some (.ref 61), some (.int (nI i)), some (.int x), some (.int (nI z)), none, none, none, none, none] [] (mk tl I L rd) (some (.int (lacks I L i x z m))) (mk tl I L rd)
  refine Runs.bl 13 (g := inb (nI i) 8 && (inb (I 128 ((nI i).toNatClampNeg)) 48 && true)) (i' := 13) (ls' := [some (.ref 61), some (.int (nI i)), some (.int x), some (.int (nI z)), some (.int (I 128 ((nI i).toNatClampNeg))), some (.long ((I 70 ((I 128 ((nI i).toNatClampNeg)).toNatClampNeg)).toInt64)), none, some (.int (0 : Int32)), none]) (st' := []) (M' := mk tl I L rd) rfl (by have q1 := (show 0 ≤ (I 128 (nI i).toNatClampNeg).toInt ∧ (I 128 (nI i).toNatClampNeg).toInt < 12 from by rw [nI_clamp (by omega)]; exact hw i hi); have q2 := nI_toInt (n := i) (by omega); simp only [Bool.and_true, Bool.true_and, Bool.and_eq_true, inb_iff, Int32.lt_iff_toInt_lt, Int32.le_iff_toInt_le, toI_0, toI_1, toI_2, toI_3, toI_4, toI_5, toI_6, toI_7, toI_8, toI_9, toI_10, toI_12, toI_16, toI_18, toI_20, toI_21, toI_23, toI_24, toI_32, toI_36, toI_39, toI_40, toI_48, toI_50, toI_60, toI_64, toI_75, toI_80, toI_100, toI_144, toI_160, toI_200, toI_256, toI_320, toI_380, toI_576, toI_600, toI_1000, toI_1280, toI_2400, toI_9999, toI_10000, toI_100000, toI_1000000, toI_m1, toI_m100000, toI_s9, toI_s8] at hm hb hz8 hi hw q1 q2 ⊢; omega) ?_
  refine l0_lo2 tl I L rd x i z m hm hb hz8 hi hw _ _ (fun o8 => ?_) _
  refine Runs.bl 2 (g := true) (i' := 60) (ls' := [some (.ref 61), some (.int (nI i)), some (.int x), some (.int (nI z)), some (.int (I 128 ((nI i).toNatClampNeg))), some (.long (lo2_it I L x i m (z))), none, some (.int (nI (z))), o8]) (st' := [.int (I 128 ((nI i).toNatClampNeg)), .ref 61]) (M' := mk tl I L rd) rfl rfl ?_
  refine Runs.call (k' := 214) (as := [.ref 61, .int (I 128 ((nI i).toNatClampNeg))]) (rest := []) (r1 := some (.int (dueFrom_it I L (I 128 ((nI i).toNatClampNeg)) m))) (M1 := mk tl I L rd) rfl rfl rfl (c_dueFrom tl I L rd (I 128 ((nI i).toNatClampNeg)) m hm hb) ?_
  refine Runs.bl 12 (g := inb (I 128 ((nI i).toNatClampNeg)) 48 && true) (i' := if decide ((lg_cmp (((dueFrom_it I L (I 128 ((nI i).toNatClampNeg)) m).toInt64) + ((I 75 ((I 128 ((nI i).toNatClampNeg)).toNatClampNeg)).toInt64)) (lo2_it I L x i m (z))) ≤ 0) = true then 78 else 73) (ls' := [some (.ref 61), some (.int (nI i)), some (.int x), some (.int (nI z)), some (.int (I 128 ((nI i).toNatClampNeg))), some (.long (lo2_it I L x i m (z))), none, some (.long (((dueFrom_it I L (I 128 ((nI i).toNatClampNeg)) m).toInt64) + ((I 75 ((I 128 ((nI i).toNatClampNeg)).toNatClampNeg)).toInt64))), none]) (st' := []) (M' := mk tl I L rd) rfl (by have q1 := (show 0 ≤ (I 128 (nI i).toNatClampNeg).toInt ∧ (I 128 (nI i).toNatClampNeg).toInt < 12 from by rw [nI_clamp (by omega)]; exact hw i hi); have q2 := nI_toInt (n := i) (by omega); simp only [Bool.and_true, Bool.true_and, Bool.and_eq_true, inb_iff, Int32.lt_iff_toInt_lt, Int32.le_iff_toInt_le, toI_0, toI_1, toI_2, toI_3, toI_4, toI_5, toI_6, toI_7, toI_8, toI_9, toI_10, toI_12, toI_16, toI_18, toI_20, toI_21, toI_23, toI_24, toI_32, toI_36, toI_39, toI_40, toI_48, toI_50, toI_60, toI_64, toI_75, toI_80, toI_100, toI_144, toI_160, toI_200, toI_256, toI_320, toI_380, toI_576, toI_600, toI_1000, toI_1280, toI_2400, toI_9999, toI_10000, toI_100000, toI_1000000, toI_m1, toI_m100000, toI_s9, toI_s8] at hm hb hz8 hi hw q1 q2 ⊢; omega) ?_
  refine Runs.dia (P := (lg_cmp (((dueFrom_it I L (I 128 ((nI i).toNatClampNeg)) m).toInt64) + ((I 75 ((I 128 ((nI i).toNatClampNeg)).toNatClampNeg)).toInt64)) (lo2_it I L x i m (z))) ≤ 0) (vT := (0 : Int32)) (vF := ((((dueFrom_it I L (I 128 ((nI i).toNatClampNeg)) m).toInt64) + ((I 75 ((I 128 ((nI i).toNatClampNeg)).toNatClampNeg)).toInt64)) - (lo2_it I L x i m (z))).toInt32) (e := 79) (fun h1 K => ?_) (fun h1 K => ?_) ?_
  · exact Runs.bl 1 (g := true) (i' := 79) (ls' := [some (.ref 61), some (.int (nI i)), some (.int x), some (.int (nI z)), some (.int (I 128 ((nI i).toNatClampNeg))), some (.long (lo2_it I L x i m (z))), none, some (.long (((dueFrom_it I L (I 128 ((nI i).toNatClampNeg)) m).toInt64) + ((I 75 ((I 128 ((nI i).toNatClampNeg)).toNatClampNeg)).toInt64))), none]) (st' := [.int (0 : Int32)]) (M' := mk tl I L rd) rfl rfl K
  · exact Runs.bl 5 (g := true) (i' := 79) (ls' := [some (.ref 61), some (.int (nI i)), some (.int x), some (.int (nI z)), some (.int (I 128 ((nI i).toNatClampNeg))), some (.long (lo2_it I L x i m (z))), none, some (.long (((dueFrom_it I L (I 128 ((nI i).toNatClampNeg)) m).toInt64) + ((I 75 ((I 128 ((nI i).toNatClampNeg)).toNatClampNeg)).toInt64))), none]) (st' := [.int (((((dueFrom_it I L (I 128 ((nI i).toNatClampNeg)) m).toInt64) + ((I 75 ((I 128 ((nI i).toNatClampNeg)).toNatClampNeg)).toInt64)) - (lo2_it I L x i m (z))).toInt32)]) (M' := mk tl I L rd) rfl rfl K
  exact Runs.ri rfl rfl (rfl) (rfl)

