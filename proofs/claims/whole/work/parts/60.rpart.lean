/-! THE REFERENCE: COINS PARTED (printed by p60.py) -/
theorem lg_lt0 {x : Int32} {A : Int64} (h0 : 0 ≤ x.toInt) (h : lg_cmp x.toInt64 A < 0) : ¬ A = 0 := by
  intro e
  subst e
  unfold lg_cmp at h
  split at h
  · exact absurd h (by decide)
  · rename_i h1
    split at h
    · exact absurd h (by decide)
    · rename_i h2
      have h3 : x.toInt64.toInt = x.toInt := Int32.toInt_toInt64 x
      have h4 : ¬ x.toInt64.toInt = (0 : Int64).toInt := fun z => h2 (Int64.toInt_inj.mp z)
      have h5 : ¬ (0 : Int64).toInt < x.toInt64.toInt := fun z => h1 (Int64.lt_iff_toInt_lt.mpr z)
      rw [show (0 : Int64).toInt = 0 from rfl] at h4 h5
      omega

def pa_st (I : Nat → Nat → Int32) (L : Nat → Nat → Int64) (r : Int32) (j : Nat) (s : Int64) : Int64 :=
  (s + (if ¬ (I 90 ((nI j).toNatClampNeg)) = r then (0 : Int64) else (I 125 ((nI j).toNatClampNeg)).toInt64))

def pa_it (I : Nat → Nat → Int32) (L : Nat → Nat → Int64) (r : Int32) (j : Nat) : Int64 := itr (pa_st I L r) (0) j
theorem pa_it_s (I : Nat → Nat → Int32) (L : Nat → Nat → Int64) (r : Int32) (j : Nat) : (pa_it I L r (j + 1)) = pa_st I L r j (pa_it I L r j) := itr_s _ _ _
set_option maxRecDepth 20000 in
theorem l_pa (tl : List (Nat × Nat)) (I : Nat → Nat → Int32) (L : Nat → Nat → Int64) (rd : Nat → Nat → Option Nat) (r n : Int32) (m : Nat) (hm : I 86 0 = nI m) (hb : m ≤ 40) (rr : Option Value) (Me : Mm) (hK : Runs 226 28 [some (.ref 61), some (.int r), some (.int n), some (.long (pa_it I L r (m))), none, some (.int (nI (m))), none, none] [] (mk tl I L rd) rr Me) : ∀ j, j ≤ m → Runs 226 4 [some (.ref 61), some (.int r), some (.int n), some (.long (pa_it I L r j)), none, some (.int (nI j)), none, none] [] (mk tl I L rd) rr (Me) := by
  refine loopU m (P := fun j => Runs 226 4 [some (.ref 61), some (.int r), some (.int n), some (.long (pa_it I L r j)), none, some (.int (nI j)), none, none] [] (mk tl I L rd) rr (Me)) (fun j hj ih => ?_) ?_
  · show Runs 226 4 [some (.ref 61), some (.int r), some (.int n), some (.long (pa_it I L r j)), none, some (.int (nI j)), none, none] [] (mk tl I L rd) rr (Me)
    refine Runs.bl 6 (g := true && true) (i' := if decide ((I 86 0) ≤ (nI j)) = true then 28 else 10) (ls' := [some (.ref 61), some (.int r), some (.int n), some (.long (pa_it I L r j)), none, some (.int (nI j)), none, none]) (st' := []) (M' := mk tl I L rd) rfl rfl ?_
    refine Runs.brF (by show ¬ I 86 0 ≤ nI j; rw [hm]; exact nI_ge hj (by omega)) ?_
    refine Runs.bl 7 (g := inb (nI j) 160 && true) (i' := if decide (¬ (I 90 ((nI j).toNatClampNeg)) = r) = true then 23 else 17) (ls' := [some (.ref 61), some (.int r), some (.int n), some (.long (pa_it I L r j)), none, some (.int (nI j)), none, none]) (st' := [.long (pa_it I L r j)]) (M' := mk tl I L rd) rfl (by have q1 := nI_toInt (n := j) (by omega); simp only [Bool.and_true, Bool.true_and, Bool.and_eq_true, inb_iff, Int32.lt_iff_toInt_lt, Int32.le_iff_toInt_le, toI_0, toI_1, toI_2, toI_3, toI_4, toI_5, toI_6, toI_7, toI_8, toI_9, toI_10, toI_12, toI_16, toI_18, toI_20, toI_21, toI_23, toI_24, toI_32, toI_36, toI_39, toI_40, toI_48, toI_50, toI_60, toI_64, toI_75, toI_80, toI_100, toI_144, toI_160, toI_200, toI_256, toI_320, toI_380, toI_576, toI_600, toI_1000, toI_1280, toI_2400, toI_9999, toI_10000, toI_100000, toI_1000000, toI_m1, toI_m100000, toI_s9, toI_s8] at hm hb q1 ⊢; omega) ?_
    refine Runs.diaL (P := ¬ (I 90 ((nI j).toNatClampNeg)) = r) (vT := (0 : Int64)) (vF := (I 125 ((nI j).toNatClampNeg)).toInt64) (e := 24) (fun h1 K => ?_) (fun h1 K => ?_) ?_
    · exact Runs.bl 1 (g := true) (i' := 24) (ls' := [some (.ref 61), some (.int r), some (.int n), some (.long (pa_it I L r j)), none, some (.int (nI j)), none, none]) (st' := [.long (0 : Int64), .long (pa_it I L r j)]) (M' := mk tl I L rd) rfl rfl K
    · exact Runs.bl 6 (g := inb (nI j) 40 && true) (i' := 24) (ls' := [some (.ref 61), some (.int r), some (.int n), some (.long (pa_it I L r j)), none, some (.int (nI j)), none, none]) (st' := [.long ((I 125 ((nI j).toNatClampNeg)).toInt64), .long (pa_it I L r j)]) (M' := mk tl I L rd) rfl (by have q1 := nI_toInt (n := j) (by omega); simp only [Bool.and_true, Bool.true_and, Bool.and_eq_true, inb_iff, Int32.lt_iff_toInt_lt, Int32.le_iff_toInt_le, toI_0, toI_1, toI_2, toI_3, toI_4, toI_5, toI_6, toI_7, toI_8, toI_9, toI_10, toI_12, toI_16, toI_18, toI_20, toI_21, toI_23, toI_24, toI_32, toI_36, toI_39, toI_40, toI_48, toI_50, toI_60, toI_64, toI_75, toI_80, toI_100, toI_144, toI_160, toI_200, toI_256, toI_320, toI_380, toI_576, toI_600, toI_1000, toI_1280, toI_2400, toI_9999, toI_10000, toI_100000, toI_1000000, toI_m1, toI_m100000, toI_s9, toI_s8] at hm hb h1 q1 ⊢; omega) K
    refine Runs.bl 4 (g := true) (i' := 4) (ls' := [some (.ref 61), some (.int r), some (.int n), some (.long ((pa_it I L r j) + (if ¬ (I 90 ((nI j).toNatClampNeg)) = r then (0 : Int64) else (I 125 ((nI j).toNatClampNeg)).toInt64))), none, some (.int ((nI j) + 1)), none, none]) (st' := []) (M' := mk tl I L rd) rfl rfl ?_
    refine Runs.cg (ls := [some (.ref 61), some (.int r), some (.int n), some (.long (pa_it I L r (j + 1))), none, some (.int (nI (j + 1))), none, none]) (M := mk tl I L rd) (by rw [nI_1, pa_it_s, pa_st]) (rfl) ih
  · show Runs 226 4 [some (.ref 61), some (.int r), some (.int n), some (.long (pa_it I L r m)), none, some (.int (nI m)), none, none] [] (mk tl I L rd) rr (Me)
    refine Runs.bl 6 (g := true && true) (i' := if decide ((I 86 0) ≤ (nI m)) = true then 28 else 10) (ls' := [some (.ref 61), some (.int r), some (.int n), some (.long (pa_it I L r m)), none, some (.int (nI m)), none, none]) (st' := []) (M' := mk tl I L rd) rfl rfl ?_
    refine Runs.brT (by show I 86 0 ≤ nI m; rw [hm]; exact nI_le (Nat.le_refl _) (by omega)) ?_
    exact hK

set_option maxRecDepth 20000 in
theorem l0_pa (tl : List (Nat × Nat)) (I : Nat → Nat → Int32) (L : Nat → Nat → Int64) (rd : Nat → Nat → Option Nat) (r n : Int32) (m : Nat) (hm : I 86 0 = nI m) (hb : m ≤ 40) (rr : Option Value) (Me : Mm) (hK : Runs 226 28 [some (.ref 61), some (.int r), some (.int n), some (.long (pa_it I L r (m))), none, some (.int (nI (m))), none, none] [] (mk tl I L rd) rr Me) : Runs 226 4 [some (.ref 61), some (.int r), some (.int n), some (.long 0), none, some (.int (nI 0)), none, none] [] (mk tl I L rd) rr (Me) := l_pa tl I L rd r n m hm hb rr Me hK 0 (Nat.zero_le _)
def pb_st (I : Nat → Nat → Int32) (L : Nat → Nat → Int64) (g : Nat → Int32) (w : Nat → Int64) (r n : Int32) (A : Int64) (j : Nat) (s : Int32 × (Nat → Int32) × (Nat → Int64)) : Int32 × (Nat → Int32) × (Nat → Int64) :=
  if ¬ (I 90 ((nI j).toNatClampNeg)) = r then (s.1, s.2.1, (upr s.2.2 ((nI j).toNatClampNeg) (-1 : Int64))) else
  if (I 125 ((nI j).toNatClampNeg)) ≤ 0 then (s.1, s.2.1, (upr s.2.2 ((nI j).toNatClampNeg) (-1 : Int64))) else
  if (lg_cmp n.toInt64 A) < 0 then (s.1 - ((up2 (up1 I 126 s.2.1) 126 ((nI j).toNatClampNeg) (((((I 125 ((nI j).toNatClampNeg)).toInt64) * n.toInt64) / A).toInt32)) 126 ((nI j).toNatClampNeg)), (upr s.2.1 ((nI j).toNatClampNeg) (((((I 125 ((nI j).toNatClampNeg)).toInt64) * n.toInt64) / A).toInt32)), (upr (upr s.2.2 ((nI j).toNatClampNeg) (-1 : Int64)) ((nI j).toNatClampNeg) ((((I 125 ((nI j).toNatClampNeg)).toInt64) * n.toInt64) - (((I 125 ((nI j).toNatClampNeg)).toInt64) * n.toInt64) / A * A))) else
  (s.1 - ((up2 (up1 I 126 s.2.1) 126 ((nI j).toNatClampNeg) (I 125 ((nI j).toNatClampNeg))) 126 ((nI j).toNatClampNeg)), (upr s.2.1 ((nI j).toNatClampNeg) (I 125 ((nI j).toNatClampNeg))), (upr (upr s.2.2 ((nI j).toNatClampNeg) (-1 : Int64)) ((nI j).toNatClampNeg) (-1 : Int64)))

def pb_it (I : Nat → Nat → Int32) (L : Nat → Nat → Int64) (g : Nat → Int32) (w : Nat → Int64) (r n : Int32) (A : Int64) (j : Nat) : Int32 × (Nat → Int32) × (Nat → Int64) := itr (pb_st I L g w r n A) (n, g, w) j
theorem pb_it_s (I : Nat → Nat → Int32) (L : Nat → Nat → Int64) (g : Nat → Int32) (w : Nat → Int64) (r n : Int32) (A : Int64) (j : Nat) : (pb_it I L g w r n A (j + 1)) = pb_st I L g w r n A j (pb_it I L g w r n A j) := itr_s _ _ _
set_option maxRecDepth 20000 in
theorem l_pb (tl : List (Nat × Nat)) (I : Nat → Nat → Int32) (L : Nat → Nat → Int64) (rd : Nat → Nat → Option Nat) (g : Nat → Int32) (w : Nat → Int64) (r n : Int32) (A : Int64) (m : Nat) (hm : I 86 0 = nI m) (hb : m ≤ 40) (hn0 : 0 ≤ n.toInt) (rr : Option Value) (Me : Mm) (hK : ∀ o7 : Option Value, Runs 226 112 [some (.ref 61), some (.int r), some (.int n), some (.long A), none, some (.int ((pb_it I L g w r n A (m)).1)), some (.int (nI (m))), o7] [] (mk tl (up1 I 126 ((pb_it I L g w r n A (m)).2.1)) (up1 L 127 ((pb_it I L g w r n A (m)).2.2)) rd) rr Me) : ∀ j, j ≤ m → ∀ o7 : Option Value, Runs 226 32 [some (.ref 61), some (.int r), some (.int n), some (.long A), none, some (.int ((pb_it I L g w r n A j).1)), some (.int (nI j)), o7] [] (mk tl (up1 I 126 ((pb_it I L g w r n A j).2.1)) (up1 L 127 ((pb_it I L g w r n A j).2.2)) rd) rr (Me) := by
  refine loopU m (P := fun j => ∀ o7 : Option Value, Runs 226 32 [some (.ref 61), some (.int r), some (.int n), some (.long A), none, some (.int ((pb_it I L g w r n A j).1)), some (.int (nI j)), o7] [] (mk tl (up1 I 126 ((pb_it I L g w r n A j).2.1)) (up1 L 127 ((pb_it I L g w r n A j).2.2)) rd) rr (Me)) (fun j hj ih => ?_) ?_
  · intro o7
    show Runs 226 32 [some (.ref 61), some (.int r), some (.int n), some (.long A), none, some (.int ((pb_it I L g w r n A j).1)), some (.int (nI j)), o7] [] (mk tl (up1 I 126 ((pb_it I L g w r n A j).2.1)) (up1 L 127 ((pb_it I L g w r n A j).2.2)) rd) rr (Me)
    refine Runs.bl 6 (g := true && true) (i' := if decide ((I 86 0) ≤ (nI j)) = true then 112 else 38) (ls' := [some (.ref 61), some (.int r), some (.int n), some (.long A), none, some (.int ((pb_it I L g w r n A j).1)), some (.int (nI j)), o7]) (st' := []) (M' := mk tl (up1 I 126 ((pb_it I L g w r n A j).2.1)) (up1 L 127 ((pb_it I L g w r n A j).2.2)) rd) rfl rfl ?_
    refine Runs.brF (by show ¬ I 86 0 ≤ nI j; rw [hm]; exact nI_ge hj (by omega)) ?_
    refine Runs.bl 11 (g := inb (nI j) 40 && (inb (nI j) 160 && true)) (i' := if decide (¬ (I 90 ((nI j).toNatClampNeg)) = r) = true then 110 else 49) (ls' := [some (.ref 61), some (.int r), some (.int n), some (.long A), none, some (.int ((pb_it I L g w r n A j).1)), some (.int (nI j)), o7]) (st' := []) (M' := mk tl (up1 I 126 ((pb_it I L g w r n A j).2.1)) (up2 (up1 L 127 ((pb_it I L g w r n A j).2.2)) 127 ((nI j).toNatClampNeg) (-1 : Int64)) rd) rfl (by simp only [Bool.and_true, Bool.true_and, Bool.and_eq_true, decide_eq_true_eq]; (repeat' apply And.intro) <;> first | exact inb_nI (by omega) (by decide) | exact lg_lt0 hn0 (by assumption)) ?_
    refine Runs.brP (fun h1 => ?_) (fun h1 => ?_)
    · skip
      refine Runs.bl 2 (g := true) (i' := 32) (ls' := [some (.ref 61), some (.int r), some (.int n), some (.long A), none, some (.int ((pb_it I L g w r n A j).1)), some (.int ((nI j) + 1)), o7]) (st' := []) (M' := mk tl (up1 I 126 ((pb_it I L g w r n A j).2.1)) (up2 (up1 L 127 ((pb_it I L g w r n A j).2.2)) 127 ((nI j).toNatClampNeg) (-1 : Int64)) rd) rfl rfl ?_
      refine Runs.cg (ls := [some (.ref 61), some (.int r), some (.int n), some (.long A), none, some (.int ((pb_it I L g w r n A (j + 1)).1)), some (.int (nI (j + 1))), _]) (M := mk tl (up1 I 126 ((pb_it I L g w r n A (j + 1)).2.1)) (up1 L 127 ((pb_it I L g w r n A (j + 1)).2.2)) rd) (by rw [nI_1, pb_it_s, pb_st, if_pos h1]) (by rw [pb_it_s, pb_st, if_pos h1] <;> (refine mk_cg ?_ ?_; (funext x; by_cases e0 : x = 126; (subst e0; first | focus (simp (disch := decide) only [up1_ne, up2_ne, su2, up1_at]; done) | rfl); simp only [up1_ne e0, up2_ne e0]); (funext x; by_cases e0 : x = 127; (subst e0; first | focus (simp (disch := decide) only [up1_ne, up2_ne, su2, up1_at]; done) | rfl); simp only [up1_ne e0, up2_ne e0]))) (ih o7)
    · skip
      refine Runs.bl 5 (g := inb (nI j) 40 && true) (i' := if decide ((I 125 ((nI j).toNatClampNeg)) ≤ 0) = true then 110 else 54) (ls' := [some (.ref 61), some (.int r), some (.int n), some (.long A), none, some (.int ((pb_it I L g w r n A j).1)), some (.int (nI j)), o7]) (st' := []) (M' := mk tl (up1 I 126 ((pb_it I L g w r n A j).2.1)) (up2 (up1 L 127 ((pb_it I L g w r n A j).2.2)) 127 ((nI j).toNatClampNeg) (-1 : Int64)) rd) rfl (by simp only [Bool.and_true, Bool.true_and, Bool.and_eq_true, decide_eq_true_eq]; (repeat' apply And.intro) <;> first | exact inb_nI (by omega) (by decide) | exact lg_lt0 hn0 (by assumption)) ?_
      refine Runs.brP (fun h2 => ?_) (fun h2 => ?_)
      · skip
        refine Runs.bl 2 (g := true) (i' := 32) (ls' := [some (.ref 61), some (.int r), some (.int n), some (.long A), none, some (.int ((pb_it I L g w r n A j).1)), some (.int ((nI j) + 1)), o7]) (st' := []) (M' := mk tl (up1 I 126 ((pb_it I L g w r n A j).2.1)) (up2 (up1 L 127 ((pb_it I L g w r n A j).2.2)) 127 ((nI j).toNatClampNeg) (-1 : Int64)) rd) rfl rfl ?_
        refine Runs.cg (ls := [some (.ref 61), some (.int r), some (.int n), some (.long A), none, some (.int ((pb_it I L g w r n A (j + 1)).1)), some (.int (nI (j + 1))), _]) (M := mk tl (up1 I 126 ((pb_it I L g w r n A (j + 1)).2.1)) (up1 L 127 ((pb_it I L g w r n A (j + 1)).2.2)) rd) (by rw [nI_1, pb_it_s, pb_st, if_neg h1, if_pos h2]) (by rw [pb_it_s, pb_st, if_neg h1, if_pos h2] <;> (refine mk_cg ?_ ?_; (funext x; by_cases e0 : x = 126; (subst e0; first | focus (simp (disch := decide) only [up1_ne, up2_ne, su2, up1_at]; done) | rfl); simp only [up1_ne e0, up2_ne e0]); (funext x; by_cases e0 : x = 127; (subst e0; first | focus (simp (disch := decide) only [up1_ne, up2_ne, su2, up1_at]; done) | rfl); simp only [up1_ne e0, up2_ne e0]))) (ih o7)
      · skip
        refine Runs.bl 5 (g := true) (i' := if decide ((lg_cmp n.toInt64 A) < 0) = true then 61 else 59) (ls' := [some (.ref 61), some (.int r), some (.int n), some (.long A), none, some (.int ((pb_it I L g w r n A j).1)), some (.int (nI j)), o7]) (st' := []) (M' := mk tl (up1 I 126 ((pb_it I L g w r n A j).2.1)) (up2 (up1 L 127 ((pb_it I L g w r n A j).2.2)) 127 ((nI j).toNatClampNeg) (-1 : Int64)) rd) rfl rfl ?_
        refine Runs.brP (fun h3 => ?_) (fun h3 => ?_)
        · skip
          refine Runs.bl 44 (g := inb (nI j) 40 && (decide (¬ A = 0) && (inb (nI j) 40 && (inb (nI j) 40 && (decide (¬ A = 0) && (inb (nI j) 40 && (inb (nI j) 40 && true))))))) (i' := 32) (ls' := [some (.ref 61), some (.int r), some (.int n), some (.long A), none, some (.int (((pb_it I L g w r n A j).1) - ((up2 (up1 I 126 ((pb_it I L g w r n A j).2.1)) 126 ((nI j).toNatClampNeg) (((((I 125 ((nI j).toNatClampNeg)).toInt64) * n.toInt64) / A).toInt32)) 126 ((nI j).toNatClampNeg)))), some (.int ((nI j) + 1)), some (.int (0 : Int32))]) (st' := []) (M' := mk tl (up2 (up1 I 126 ((pb_it I L g w r n A j).2.1)) 126 ((nI j).toNatClampNeg) (((((I 125 ((nI j).toNatClampNeg)).toInt64) * n.toInt64) / A).toInt32)) (up2 (up2 (up1 L 127 ((pb_it I L g w r n A j).2.2)) 127 ((nI j).toNatClampNeg) (-1 : Int64)) 127 ((nI j).toNatClampNeg) ((((I 125 ((nI j).toNatClampNeg)).toInt64) * n.toInt64) - (((I 125 ((nI j).toNatClampNeg)).toInt64) * n.toInt64) / A * A)) rd) rfl (by simp only [Bool.and_true, Bool.true_and, Bool.and_eq_true, decide_eq_true_eq]; (repeat' apply And.intro) <;> first | exact inb_nI (by omega) (by decide) | exact lg_lt0 hn0 (by assumption)) ?_
          refine Runs.cg (ls := [some (.ref 61), some (.int r), some (.int n), some (.long A), none, some (.int ((pb_it I L g w r n A (j + 1)).1)), some (.int (nI (j + 1))), _]) (M := mk tl (up1 I 126 ((pb_it I L g w r n A (j + 1)).2.1)) (up1 L 127 ((pb_it I L g w r n A (j + 1)).2.2)) rd) (by rw [nI_1, pb_it_s, pb_st, if_neg h1, if_neg h2, if_pos h3]) (by rw [pb_it_s, pb_st, if_neg h1, if_neg h2, if_pos h3] <;> (refine mk_cg ?_ ?_; (funext x; by_cases e0 : x = 126; (subst e0; first | focus (simp (disch := decide) only [up1_ne, up2_ne, su2, up1_at]; done) | rfl); simp only [up1_ne e0, up2_ne e0]); (funext x; by_cases e0 : x = 127; (subst e0; first | focus (simp (disch := decide) only [up1_ne, up2_ne, su2, up1_at]; done) | rfl); simp only [up1_ne e0, up2_ne e0]))) (ih (some (.int (0 : Int32))))
        · skip
          refine Runs.bl 31 (g := inb (nI j) 40 && (inb (nI j) 40 && (inb (nI j) 40 && (inb (nI j) 40 && true)))) (i' := 32) (ls' := [some (.ref 61), some (.int r), some (.int n), some (.long A), none, some (.int (((pb_it I L g w r n A j).1) - ((up2 (up1 I 126 ((pb_it I L g w r n A j).2.1)) 126 ((nI j).toNatClampNeg) (I 125 ((nI j).toNatClampNeg))) 126 ((nI j).toNatClampNeg)))), some (.int ((nI j) + 1)), some (.int (1 : Int32))]) (st' := []) (M' := mk tl (up2 (up1 I 126 ((pb_it I L g w r n A j).2.1)) 126 ((nI j).toNatClampNeg) (I 125 ((nI j).toNatClampNeg))) (up2 (up2 (up1 L 127 ((pb_it I L g w r n A j).2.2)) 127 ((nI j).toNatClampNeg) (-1 : Int64)) 127 ((nI j).toNatClampNeg) (-1 : Int64)) rd) rfl (by simp only [Bool.and_true, Bool.true_and, Bool.and_eq_true, decide_eq_true_eq]; (repeat' apply And.intro) <;> first | exact inb_nI (by omega) (by decide) | exact lg_lt0 hn0 (by assumption)) ?_
          refine Runs.cg (ls := [some (.ref 61), some (.int r), some (.int n), some (.long A), none, some (.int ((pb_it I L g w r n A (j + 1)).1)), some (.int (nI (j + 1))), _]) (M := mk tl (up1 I 126 ((pb_it I L g w r n A (j + 1)).2.1)) (up1 L 127 ((pb_it I L g w r n A (j + 1)).2.2)) rd) (by rw [nI_1, pb_it_s, pb_st, if_neg h1, if_neg h2, if_neg h3]) (by rw [pb_it_s, pb_st, if_neg h1, if_neg h2, if_neg h3] <;> (refine mk_cg ?_ ?_; (funext x; by_cases e0 : x = 126; (subst e0; first | focus (simp (disch := decide) only [up1_ne, up2_ne, su2, up1_at]; done) | rfl); simp only [up1_ne e0, up2_ne e0]); (funext x; by_cases e0 : x = 127; (subst e0; first | focus (simp (disch := decide) only [up1_ne, up2_ne, su2, up1_at]; done) | rfl); simp only [up1_ne e0, up2_ne e0]))) (ih (some (.int (1 : Int32))))
  · intro o7
    show Runs 226 32 [some (.ref 61), some (.int r), some (.int n), some (.long A), none, some (.int ((pb_it I L g w r n A m).1)), some (.int (nI m)), o7] [] (mk tl (up1 I 126 ((pb_it I L g w r n A m).2.1)) (up1 L 127 ((pb_it I L g w r n A m).2.2)) rd) rr (Me)
    refine Runs.bl 6 (g := true && true) (i' := if decide ((I 86 0) ≤ (nI m)) = true then 112 else 38) (ls' := [some (.ref 61), some (.int r), some (.int n), some (.long A), none, some (.int ((pb_it I L g w r n A m).1)), some (.int (nI m)), o7]) (st' := []) (M' := mk tl (up1 I 126 ((pb_it I L g w r n A m).2.1)) (up1 L 127 ((pb_it I L g w r n A m).2.2)) rd) rfl rfl ?_
    refine Runs.brT (by show I 86 0 ≤ nI m; rw [hm]; exact nI_le (Nat.le_refl _) (by omega)) ?_
    exact hK _

set_option maxRecDepth 20000 in
theorem l0_pb (tl : List (Nat × Nat)) (I : Nat → Nat → Int32) (L : Nat → Nat → Int64) (rd : Nat → Nat → Option Nat) (g : Nat → Int32) (w : Nat → Int64) (r n : Int32) (A : Int64) (m : Nat) (hm : I 86 0 = nI m) (hb : m ≤ 40) (hn0 : 0 ≤ n.toInt) (rr : Option Value) (Me : Mm) (hK : ∀ o7 : Option Value, Runs 226 112 [some (.ref 61), some (.int r), some (.int n), some (.long A), none, some (.int ((pb_it I L g w r n A (m)).1)), some (.int (nI (m))), o7] [] (mk tl (up1 I 126 ((pb_it I L g w r n A (m)).2.1)) (up1 L 127 ((pb_it I L g w r n A (m)).2.2)) rd) rr Me) : ∀ o7 : Option Value, Runs 226 32 [some (.ref 61), some (.int r), some (.int n), some (.long A), none, some (.int n), some (.int (nI 0)), o7] [] (mk tl (up1 I 126 g) (up1 L 127 w) rd) rr (Me) := l_pb tl I L rd g w r n A m hm hb hn0 rr Me hK 0 (Nat.zero_le _)
def pd_st (I : Nat → Nat → Int32) (L : Nat → Nat → Int64) (w : Nat → Int64) (j : Nat) (s : Int32) : Int32 :=
  if (lg_cmp (w ((nI j).toNatClampNeg)) (0 : Int64)) < 0 then (s) else
  if s = (-1 : Int32) then (nI j) else
  (if (lg_cmp (w ((nI j).toNatClampNeg)) (w s.toNatClampNeg)) ≤ 0 then s else nI j)

def pd_it (I : Nat → Nat → Int32) (L : Nat → Nat → Int64) (w : Nat → Int64) (j : Nat) : Int32 := itr (pd_st I L w) (-1) j
theorem pd_it_s (I : Nat → Nat → Int32) (L : Nat → Nat → Int64) (w : Nat → Int64) (j : Nat) : (pd_it I L w (j + 1)) = pd_st I L w j (pd_it I L w j) := itr_s _ _ _
theorem pd_cs (I : Nat → Nat → Int32) (L : Nat → Nat → Int64) (w : Nat → Int64) (j : Nat) : pd_it I L w j = -1 ∨ ∃ a, a < j ∧ pd_it I L w j = nI a := by
  induction j with
  | zero => exact Or.inl rfl
  | succ j ih =>
    have up : pd_it I L w j = -1 ∨ ∃ a, a < j + 1 ∧ pd_it I L w j = nI a := ih.imp id (fun ⟨a, h, e⟩ => ⟨a, by omega, e⟩)
    rw [pd_it_s, pd_st]
    repeat' split
    all_goals first | exact up | exact Or.inr ⟨j, by omega, rfl⟩
theorem pd_rng {I : Nat → Nat → Int32} {L : Nat → Nat → Int64} {w : Nat → Int64} {j : Nat} (hj : j ≤ 40) (h : ¬ pd_it I L w j = -1) : 0 ≤ (pd_it I L w j).toInt ∧ (pd_it I L w j).toInt < 40 := by
  rcases pd_cs I L w j with e | ⟨a, ha, e⟩
  · exact absurd e h
  · rw [e, nI_toInt (by omega)]; omega

set_option maxRecDepth 20000 in
theorem l_pd (tl : List (Nat × Nat)) (I : Nat → Nat → Int32) (L : Nat → Nat → Int64) (rd : Nat → Nat → Option Nat) (g : Nat → Int32) (w : Nat → Int64) (r n lf : Int32) (A : Int64) (m : Nat) (hm : I 86 0 = nI m) (hb : m ≤ 40) (rr : Option Value) (Me : Mm) (hK : Runs 226 155 [some (.ref 61), some (.int r), some (.int n), some (.long A), none, some (.int lf), some (.int (pd_it I L w (m))), some (.int (nI (m)))] [] (mk tl (up1 I 126 g) (up1 L 127 w) rd) rr Me) : ∀ j, j ≤ m → Runs 226 123 [some (.ref 61), some (.int r), some (.int n), some (.long A), none, some (.int lf), some (.int (pd_it I L w j)), some (.int (nI j))] [] (mk tl (up1 I 126 g) (up1 L 127 w) rd) rr (Me) := by
  refine loopU m (P := fun j => Runs 226 123 [some (.ref 61), some (.int r), some (.int n), some (.long A), none, some (.int lf), some (.int (pd_it I L w j)), some (.int (nI j))] [] (mk tl (up1 I 126 g) (up1 L 127 w) rd) rr (Me)) (fun j hj ih => ?_) ?_
  · show Runs 226 123 [some (.ref 61), some (.int r), some (.int n), some (.long A), none, some (.int lf), some (.int (pd_it I L w j)), some (.int (nI j))] [] (mk tl (up1 I 126 g) (up1 L 127 w) rd) rr (Me)
    refine Runs.bl 6 (g := true && true) (i' := if decide ((I 86 0) ≤ (nI j)) = true then 155 else 129) (ls' := [some (.ref 61), some (.int r), some (.int n), some (.long A), none, some (.int lf), some (.int (pd_it I L w j)), some (.int (nI j))]) (st' := []) (M' := mk tl (up1 I 126 g) (up1 L 127 w) rd) rfl rfl ?_
    refine Runs.brF (by show ¬ I 86 0 ≤ nI j; rw [hm]; exact nI_ge hj (by omega)) ?_
    refine Runs.bl 7 (g := inb (nI j) 40 && true) (i' := if decide ((lg_cmp (w ((nI j).toNatClampNeg)) (0 : Int64)) < 0) = true then 151 else 136) (ls' := [some (.ref 61), some (.int r), some (.int n), some (.long A), none, some (.int lf), some (.int (pd_it I L w j)), some (.int (nI j))]) (st' := []) (M' := mk tl (up1 I 126 g) (up1 L 127 w) rd) rfl (by have q1 := nI_toInt (n := j) (by omega); simp only [Bool.and_true, Bool.true_and, Bool.and_eq_true, inb_iff, Int32.lt_iff_toInt_lt, Int32.le_iff_toInt_le, toI_0, toI_1, toI_2, toI_3, toI_4, toI_5, toI_6, toI_7, toI_8, toI_9, toI_10, toI_12, toI_16, toI_18, toI_20, toI_21, toI_23, toI_24, toI_32, toI_36, toI_39, toI_40, toI_48, toI_50, toI_60, toI_64, toI_75, toI_80, toI_100, toI_144, toI_160, toI_200, toI_256, toI_320, toI_380, toI_576, toI_600, toI_1000, toI_1280, toI_2400, toI_9999, toI_10000, toI_100000, toI_1000000, toI_m1, toI_m100000, toI_s9, toI_s8] at hm hb q1 ⊢; omega) ?_
    refine Runs.brP (fun h1 => ?_) (fun h1 => ?_)
    · skip
      refine Runs.bl 4 (g := true) (i' := 123) (ls' := [some (.ref 61), some (.int r), some (.int n), some (.long A), none, some (.int lf), some (.int (pd_it I L w j)), some (.int ((nI j) + 1))]) (st' := []) (M' := mk tl (up1 I 126 g) (up1 L 127 w) rd) rfl rfl ?_
      refine Runs.cg (ls := [some (.ref 61), some (.int r), some (.int n), some (.long A), none, some (.int lf), some (.int (pd_it I L w (j + 1))), some (.int (nI (j + 1)))]) (M := mk tl (up1 I 126 g) (up1 L 127 w) rd) (by rw [nI_1, pd_it_s, pd_st, if_pos h1]) (rfl) ih
    · skip
      refine Runs.bl 3 (g := true) (i' := if decide ((pd_it I L w j) = (-1 : Int32)) = true then 149 else 139) (ls' := [some (.ref 61), some (.int r), some (.int n), some (.long A), none, some (.int lf), some (.int (pd_it I L w j)), some (.int (nI j))]) (st' := []) (M' := mk tl (up1 I 126 g) (up1 L 127 w) rd) rfl rfl ?_
      refine Runs.brP (fun h2 => ?_) (fun h2 => ?_)
      · skip
        refine Runs.bl 5 (g := true) (i' := 123) (ls' := [some (.ref 61), some (.int r), some (.int n), some (.long A), none, some (.int lf), some (.int (nI j)), some (.int ((nI j) + 1))]) (st' := []) (M' := mk tl (up1 I 126 g) (up1 L 127 w) rd) rfl rfl ?_
        refine Runs.cg (ls := [some (.ref 61), some (.int r), some (.int n), some (.long A), none, some (.int lf), some (.int (pd_it I L w (j + 1))), some (.int (nI (j + 1)))]) (M := mk tl (up1 I 126 g) (up1 L 127 w) rd) (by rw [nI_1, pd_it_s, pd_st, if_neg h1, if_pos h2]) (rfl) ih
      · skip
        refine Runs.bl 10 (g := inb (nI j) 40 && (inb (pd_it I L w j) 40 && true)) (i' := if decide ((lg_cmp (w ((nI j).toNatClampNeg)) (w ((pd_it I L w j).toNatClampNeg))) ≤ 0) = true then 151 else 149) (ls' := [some (.ref 61), some (.int r), some (.int n), some (.long A), none, some (.int lf), some (.int (pd_it I L w j)), some (.int (nI j))]) (st' := []) (M' := mk tl (up1 I 126 g) (up1 L 127 w) rd) rfl (by have q1 := pd_rng (by omega) h2; have q2 := nI_toInt (n := j) (by omega); simp only [Bool.and_true, Bool.true_and, Bool.and_eq_true, inb_iff, Int32.lt_iff_toInt_lt, Int32.le_iff_toInt_le, toI_0, toI_1, toI_2, toI_3, toI_4, toI_5, toI_6, toI_7, toI_8, toI_9, toI_10, toI_12, toI_16, toI_18, toI_20, toI_21, toI_23, toI_24, toI_32, toI_36, toI_39, toI_40, toI_48, toI_50, toI_60, toI_64, toI_75, toI_80, toI_100, toI_144, toI_160, toI_200, toI_256, toI_320, toI_380, toI_576, toI_600, toI_1000, toI_1280, toI_2400, toI_9999, toI_10000, toI_100000, toI_1000000, toI_m1, toI_m100000, toI_s9, toI_s8] at hm hb h1 q1 q2 ⊢; omega) ?_
        refine Runs.dia (P := (lg_cmp (w ((nI j).toNatClampNeg)) (w ((pd_it I L w j).toNatClampNeg))) ≤ 0) (vT := (pd_it I L w j)) (vF := nI j) (e := 152) (fun h3 K => ?_) (fun h3 K => ?_) ?_
        · exact Runs.bl 1 (g := true) (i' := 152) (ls' := [some (.ref 61), some (.int r), some (.int n), some (.long A), none, some (.int lf), some (.int (pd_it I L w j)), some (.int (nI j))]) (st' := [.int (pd_it I L w j)]) (M' := mk tl (up1 I 126 g) (up1 L 127 w) rd) rfl rfl K
        · exact Runs.bl 2 (g := true) (i' := 152) (ls' := [some (.ref 61), some (.int r), some (.int n), some (.long A), none, some (.int lf), some (.int (pd_it I L w j)), some (.int (nI j))]) (st' := [.int (nI j)]) (M' := mk tl (up1 I 126 g) (up1 L 127 w) rd) rfl rfl K
        refine Runs.bl 3 (g := true) (i' := 123) (ls' := [some (.ref 61), some (.int r), some (.int n), some (.long A), none, some (.int lf), some (.int (if (lg_cmp (w ((nI j).toNatClampNeg)) (w ((pd_it I L w j).toNatClampNeg))) ≤ 0 then (pd_it I L w j) else nI j)), some (.int ((nI j) + 1))]) (st' := []) (M' := mk tl (up1 I 126 g) (up1 L 127 w) rd) rfl rfl ?_
        refine Runs.cg (ls := [some (.ref 61), some (.int r), some (.int n), some (.long A), none, some (.int lf), some (.int (pd_it I L w (j + 1))), some (.int (nI (j + 1)))]) (M := mk tl (up1 I 126 g) (up1 L 127 w) rd) (by rw [nI_1, pd_it_s, pd_st, if_neg h1, if_neg h2]) (rfl) ih
  · show Runs 226 123 [some (.ref 61), some (.int r), some (.int n), some (.long A), none, some (.int lf), some (.int (pd_it I L w m)), some (.int (nI m))] [] (mk tl (up1 I 126 g) (up1 L 127 w) rd) rr (Me)
    refine Runs.bl 6 (g := true && true) (i' := if decide ((I 86 0) ≤ (nI m)) = true then 155 else 129) (ls' := [some (.ref 61), some (.int r), some (.int n), some (.long A), none, some (.int lf), some (.int (pd_it I L w m)), some (.int (nI m))]) (st' := []) (M' := mk tl (up1 I 126 g) (up1 L 127 w) rd) rfl rfl ?_
    refine Runs.brT (by show I 86 0 ≤ nI m; rw [hm]; exact nI_le (Nat.le_refl _) (by omega)) ?_
    exact hK

set_option maxRecDepth 20000 in
theorem l0_pd (tl : List (Nat × Nat)) (I : Nat → Nat → Int32) (L : Nat → Nat → Int64) (rd : Nat → Nat → Option Nat) (g : Nat → Int32) (w : Nat → Int64) (r n lf : Int32) (A : Int64) (m : Nat) (hm : I 86 0 = nI m) (hb : m ≤ 40) (rr : Option Value) (Me : Mm) (hK : Runs 226 155 [some (.ref 61), some (.int r), some (.int n), some (.long A), none, some (.int lf), some (.int (pd_it I L w (m))), some (.int (nI (m)))] [] (mk tl (up1 I 126 g) (up1 L 127 w) rd) rr Me) : Runs 226 123 [some (.ref 61), some (.int r), some (.int n), some (.long A), none, some (.int lf), some (.int (-1)), some (.int (nI 0))] [] (mk tl (up1 I 126 g) (up1 L 127 w) rd) rr (Me) := l_pd tl I L rd g w r n lf A m hm hb rr Me hK 0 (Nat.zero_le _)
/-- the pennies, one by one, to the greatest rest; there is always one -/
def pcS (I : Nat → Nat → Int32) (L : Nat → Nat → Int64) (m : Nat) (s : (Nat → Int32) × (Nat → Int64)) : (Nat → Int32) × (Nat → Int64) := (upr s.1 (pd_it I L s.2 m).toNatClampNeg (s.1 (pd_it I L s.2 m).toNatClampNeg + 1), upr s.2 (pd_it I L s.2 m).toNatClampNeg (-1))
def pcF (I : Nat → Nat → Int32) (L : Nat → Nat → Int64) (m : Nat) : Nat → (Nat → Int32) × (Nat → Int64) → (Nat → Int32) × (Nat → Int64)
  | 0, s => s
  | k + 1, s => pcF I L m k (pcS I L m s)
def pcSafe (I : Nat → Nat → Int32) (L : Nat → Nat → Int64) (m : Nat) : Nat → (Nat → Int32) × (Nat → Int64) → Prop
  | 0, _ => True
  | k + 1, s => ¬ pd_it I L s.2 m = -1 ∧ pcSafe I L m k (pcS I L m s)

set_option maxRecDepth 20000 in
theorem l_pc (tl : List (Nat × Nat)) (I : Nat → Nat → Int32) (L : Nat → Nat → Int64) (rd : Nat → Nat → Option Nat) (r n : Int32) (A : Int64) (m : Nat) (hm : I 86 0 = nI m) (hb : m ≤ 40) (hA : ¬ lg_cmp A n.toInt64 ≤ 0) : ∀ k, k < 2 ^ 31 → ∀ s : (Nat → Int32) × (Nat → Int64), pcSafe I L m k s → ∀ o6 o7 : Option Value, Runs 226 112 [some (.ref 61), some (.int r), some (.int n), some (.long A), none, some (.int (nI k)), o6, o7] [] (mk tl (up1 I 126 s.1) (up1 L 127 s.2) rd) none (mk tl (up1 I 126 (pcF I L m k s).1) (up1 L 127 (pcF I L m k s).2) rd) := by
  intro k
  induction k with
  | zero =>
    intro _ s _ o6 o7
    refine Runs.bl 5 (g := true) (i' := if decide ((lg_cmp A n.toInt64) ≤ 0) = true then 170 else 117) (ls' := [some (.ref 61), some (.int r), some (.int n), some (.long A), none, some (.int (nI 0)), o6, o7]) (st' := []) (M' := mk tl (up1 I 126 s.1) (up1 L 127 s.2) rd) rfl rfl ?_
    refine Runs.brF (hA) ?_
    refine Runs.bl 2 (g := true) (i' := if decide ((nI 0) ≤ 0) = true then 170 else 119) (ls' := [some (.ref 61), some (.int r), some (.int n), some (.long A), none, some (.int (nI 0)), o6, o7]) (st' := []) (M' := mk tl (up1 I 126 s.1) (up1 L 127 s.2) rd) rfl rfl ?_
    refine Runs.brT (by decide) ?_
    exact Runs.rv rfl rfl (rfl)
  | succ k ih =>
    intro hk s hs o6 o7
    have hr := pd_rng (by omega) hs.1
    refine Runs.bl 5 (g := true) (i' := if decide ((lg_cmp A n.toInt64) ≤ 0) = true then 170 else 117) (ls' := [some (.ref 61), some (.int r), some (.int n), some (.long A), none, some (.int (nI (k + 1))), o6, o7]) (st' := []) (M' := mk tl (up1 I 126 s.1) (up1 L 127 s.2) rd) rfl rfl ?_
    refine Runs.brF (hA) ?_
    refine Runs.bl 2 (g := true) (i' := if decide ((nI (k + 1)) ≤ 0) = true then 170 else 119) (ls' := [some (.ref 61), some (.int r), some (.int n), some (.long A), none, some (.int (nI (k + 1))), o6, o7]) (st' := []) (M' := mk tl (up1 I 126 s.1) (up1 L 127 s.2) rd) rfl rfl ?_
    refine Runs.brF (nI_nle (by omega) hk) ?_
    refine Runs.bl 4 (g := true) (i' := 123) (ls' := [some (.ref 61), some (.int r), some (.int n), some (.long A), none, some (.int (nI (k + 1))), some (.int (-1 : Int32)), some (.int (0 : Int32))]) (st' := []) (M' := mk tl (up1 I 126 s.1) (up1 L 127 s.2) rd) rfl rfl ?_
    refine l0_pd tl I L rd s.1 s.2 r n (nI (k + 1)) A m hm hb _ _ ?_
    refine Runs.bl 15 (g := inb (pd_it I L s.2 (m)) 40 && (inb (pd_it I L s.2 (m)) 40 && (inb (pd_it I L s.2 (m)) 40 && true))) (i' := 112) (ls' := [some (.ref 61), some (.int r), some (.int n), some (.long A), none, some (.int ((nI (k + 1)) + (-1))), some (.int (pd_it I L s.2 (m))), some (.int (nI (m)))]) (st' := []) (M' := mk tl (up2 (up1 I 126 s.1) 126 ((pd_it I L s.2 (m)).toNatClampNeg) ((s.1 ((pd_it I L s.2 (m)).toNatClampNeg)) + (1 : Int32))) (up2 (up1 L 127 s.2) 127 ((pd_it I L s.2 (m)).toNatClampNeg) (-1 : Int64)) rd) rfl (by skip; simp only [Bool.and_true, Bool.true_and, Bool.and_eq_true, inb_iff, Int32.lt_iff_toInt_lt, Int32.le_iff_toInt_le, toI_0, toI_1, toI_2, toI_3, toI_4, toI_5, toI_6, toI_7, toI_8, toI_9, toI_10, toI_12, toI_16, toI_18, toI_20, toI_21, toI_23, toI_24, toI_32, toI_36, toI_39, toI_40, toI_48, toI_50, toI_60, toI_64, toI_75, toI_80, toI_100, toI_144, toI_160, toI_200, toI_256, toI_320, toI_380, toI_576, toI_600, toI_1000, toI_1280, toI_2400, toI_9999, toI_10000, toI_100000, toI_1000000, toI_m1, toI_m100000, toI_s9, toI_s8] at hr ⊢; omega) ?_
    refine Runs.cg (M := mk tl (up1 I 126 (pcS I L m s).1) (up1 L 127 (pcS I L m s).2) rd) (by rw [show nI (k + 1) + (-1) = nI k from by rw [← Int32.sub_eq_add_neg, nI_pred]]) (by refine mk_cg ?_ ?_; (funext x; by_cases e0 : x = 126; (subst e0; first | focus (simp (disch := decide) only [up1_ne, up2_ne, su2, up1_at]; done) | rfl); simp only [up1_ne e0, up2_ne e0]); (funext x; by_cases e0 : x = 127; (subst e0; first | focus (simp (disch := decide) only [up1_ne, up2_ne, su2, up1_at]; done) | rfl); simp only [up1_ne e0, up2_ne e0])) (ih (by omega) (pcS I L m s) hs.2 _ _)

