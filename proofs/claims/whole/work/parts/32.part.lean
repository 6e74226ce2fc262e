/-! COINS PARTED (printed by p32.py) -/
theorem lg_ne {A : Int64} (h : ¬ lg_cmp A 0 ≤ 0) : ¬ A = 0 := by
  intro e
  subst e
  exact h (by decide)
theorem up1_comm {α : Type} {F : Nat → Nat → α} {a b : Nat} {g h : Nat → α} (hn : ¬ a = b) : up1 (up1 F a g) b h = up1 (up1 F b h) a g := by
  funext x
  by_cases e : x = a
  · subst e; rw [up1_ne hn, up1_at, up1_at]
  · rw [up1_ne (f := up1 F b h) e]
    by_cases e2 : x = b
    · subst e2; rw [up1_at, up1_at]
    · rw [up1_ne e2, up1_ne e2, up1_ne e]

def clr_st (I : Nat → Nat → Int32) (L : Nat → Nat → Int64)  (j : Nat) (s : (Nat → Int32) × (Nat → Int32) × (Nat → Int64)) : (Nat → Int32) × (Nat → Int32) × (Nat → Int64) :=
  ((upr s.1 ((nI j).toNatClampNeg) (0 : Int32)), (upr s.2.1 ((nI j).toNatClampNeg) (0 : Int32)), (upr s.2.2 ((nI j).toNatClampNeg) (0 : Int64)))

def clr_it (I : Nat → Nat → Int32) (L : Nat → Nat → Int64)  (j : Nat) : (Nat → Int32) × (Nat → Int32) × (Nat → Int64) := itr (clr_st I L ) (I 54, I 53, L 55) j
theorem clr_it_s (I : Nat → Nat → Int32) (L : Nat → Nat → Int64)  (j : Nat) : (clr_it I L  (j + 1)) = clr_st I L  j (clr_it I L  j) := itr_s _ _ _
set_option maxRecDepth 20000 in
theorem l_clr (tl : List (Nat × Nat)) (I : Nat → Nat → Int32) (L : Nat → Nat → Int64) (rd : Nat → Nat → Option Nat)   : ∀ j, j ≤ 40 → Runs 48 2 [some (.ref 52), some (.int (nI j))] [] (mk tl (up1 (up1 I 54 ((clr_it I L  j).1)) 53 ((clr_it I L  j).2.1)) (up1 L 55 ((clr_it I L  j).2.2)) rd) none (mk tl (up1 (up1 I 54 ((clr_it I L  (40)).1)) 53 ((clr_it I L  (40)).2.1)) (up1 L 55 ((clr_it I L  (40)).2.2)) rd) := by
  refine loopU 40 (P := fun j => Runs 48 2 [some (.ref 52), some (.int (nI j))] [] (mk tl (up1 (up1 I 54 ((clr_it I L  j).1)) 53 ((clr_it I L  j).2.1)) (up1 L 55 ((clr_it I L  j).2.2)) rd) none (mk tl (up1 (up1 I 54 ((clr_it I L  (40)).1)) 53 ((clr_it I L  (40)).2.1)) (up1 L 55 ((clr_it I L  (40)).2.2)) rd)) (fun j hj ih => ?_) ?_
  · show Runs 48 2 [some (.ref 52), some (.int (nI j))] [] (mk tl (up1 (up1 I 54 ((clr_it I L  j).1)) 53 ((clr_it I L  j).2.1)) (up1 L 55 ((clr_it I L  j).2.2)) rd) none (mk tl (up1 (up1 I 54 ((clr_it I L  (40)).1)) 53 ((clr_it I L  (40)).2.1)) (up1 L 55 ((clr_it I L  (40)).2.2)) rd)
    refine Runs.bl 3 (g := true) (i' := if decide ((40 : Int32) ≤ (nI j)) = true then 22 else 5) (ls' := [some (.ref 52), some (.int (nI j))]) (st' := []) (M' := mk tl (up1 (up1 I 54 ((clr_it I L  j).1)) 53 ((clr_it I L  j).2.1)) (up1 L 55 ((clr_it I L  j).2.2)) rd) rfl rfl ?_
    refine Runs.brF (nI_ge (b := 40) hj (by decide)) ?_
    refine Runs.bl 17 (g := inb (nI j) 40 && (inb (nI j) 40 && (inb (nI j) 40 && true))) (i' := 2) (ls' := [some (.ref 52), some (.int ((nI j) + 1))]) (st' := []) (M' := mk tl (up2 (up2 (up1 (up1 I 54 ((clr_it I L  j).1)) 53 ((clr_it I L  j).2.1)) 53 ((nI j).toNatClampNeg) (0 : Int32)) 54 ((nI j).toNatClampNeg) (0 : Int32)) (up2 (up1 L 55 ((clr_it I L  j).2.2)) 55 ((nI j).toNatClampNeg) (0 : Int64)) rd) rfl (by have q1 := nI_toInt (n := j) (by omega); simp only [Bool.and_true, Bool.true_and, Bool.and_eq_true, inb_iff, Int32.lt_iff_toInt_lt, Int32.le_iff_toInt_le, toI_0, toI_1, toI_2, toI_3, toI_4, toI_5, toI_6, toI_7, toI_8, toI_9, toI_10, toI_12, toI_16, toI_18, toI_20, toI_21, toI_23, toI_24, toI_32, toI_36, toI_39, toI_40, toI_48, toI_50, toI_60, toI_64, toI_75, toI_80, toI_100, toI_144, toI_160, toI_200, toI_256, toI_320, toI_380, toI_576, toI_600, toI_1000, toI_1280, toI_2400, toI_9999, toI_10000, toI_100000, toI_1000000, toI_m1, toI_m100000, toI_s9, toI_s8] at q1 ⊢; omega) ?_
    refine Runs.cg (ls := [some (.ref 52), some (.int (nI (j + 1)))]) (M := mk tl (up1 (up1 I 54 ((clr_it I L  (j + 1)).1)) 53 ((clr_it I L  (j + 1)).2.1)) (up1 L 55 ((clr_it I L  (j + 1)).2.2)) rd) (by rw [nI_1]) (by rw [clr_it_s, clr_st] <;> (refine mk_cg ?_ ?_; (funext x; by_cases e0 : x = 54; (subst e0; first | focus (simp (disch := decide) only [up1_ne, up2_ne, su2, up1_at]; done) | rfl); by_cases e1 : x = 53; (subst e1; first | focus (simp (disch := decide) only [up1_ne, up2_ne, su2, up1_at]; done) | rfl); simp only [up1_ne e0, up2_ne e0, up1_ne e1, up2_ne e1]); (funext x; by_cases e0 : x = 55; (subst e0; first | focus (simp (disch := decide) only [up1_ne, up2_ne, su2, up1_at]; done) | rfl); simp only [up1_ne e0, up2_ne e0]))) ih
  · show Runs 48 2 [some (.ref 52), some (.int (nI 40))] [] (mk tl (up1 (up1 I 54 ((clr_it I L  40).1)) 53 ((clr_it I L  40).2.1)) (up1 L 55 ((clr_it I L  40).2.2)) rd) none (mk tl (up1 (up1 I 54 ((clr_it I L  (40)).1)) 53 ((clr_it I L  (40)).2.1)) (up1 L 55 ((clr_it I L  (40)).2.2)) rd)
    refine Runs.bl 3 (g := true) (i' := if decide ((40 : Int32) ≤ (nI 40)) = true then 22 else 5) (ls' := [some (.ref 52), some (.int (nI 40))]) (st' := []) (M' := mk tl (up1 (up1 I 54 ((clr_it I L  40).1)) 53 ((clr_it I L  40).2.1)) (up1 L 55 ((clr_it I L  40).2.2)) rd) rfl rfl ?_
    refine Runs.brT (by decide) ?_
    exact Runs.rv rfl rfl (rfl)

set_option maxRecDepth 20000 in
theorem l0_clr (tl : List (Nat × Nat)) (I : Nat → Nat → Int32) (L : Nat → Nat → Int64) (rd : Nat → Nat → Option Nat)   : Runs 48 2 [some (.ref 52), some (.int (nI 0))] [] (mk tl (up1 (up1 I 54 (I 54)) 53 (I 53)) (up1 L 55 (L 55)) rd) none (mk tl (up1 (up1 I 54 ((clr_it I L  (40)).1)) 53 ((clr_it I L  (40)).2.1)) (up1 L 55 ((clr_it I L  (40)).2.2)) rd) := l_clr tl I L rd   0 (Nat.zero_le _)
set_option maxRecDepth 20000 in
theorem c_clr (tl : List (Nat × Nat)) (I : Nat → Nat → Int32) (L : Nat → Nat → Int64) (rd : Nat → Nat → Option Nat)   : Call 48 [.ref 52] (mk tl I L rd) none (mk tl (up1 (up1 I 54 ((clr_it I L 40).1)) 53 ((clr_it I L 40).2.1)) (up1 L 55 ((clr_it I L 40).2.2)) rd) := by
  show Runs 48 0 [some (.ref 52), none] [] (mk tl I L rd) none (mk tl (up1 (up1 I 54 ((clr_it I L 40).1)) 53 ((clr_it I L 40).2.1)) (up1 L 55 ((clr_it I L 40).2.2)) rd)
  refine Runs.bl 2 (g := true) (i' := 2) (ls' := [some (.ref 52), some (.int (0 : Int32))]) (st' := []) (M' := mk tl I L rd) rfl rfl ?_
  refine Runs.cg (M := mk tl (up1 (up1 I 54 (I 54)) 53 (I 53)) (up1 L 55 (L 55)) rd) rfl (mk_cg (by rw [up1_self, up1_self]) (by rw [up1_self])) ?_
  exact l_clr tl I L rd 0 (Nat.zero_le _)

def cut_st (I : Nat → Nat → Int32) (L : Nat → Nat → Int64) (g : Nat → Int32) (w : Nat → Int64) (k x : Int32) (A : Int64) (j : Nat) (s : Int32 × (Nat → Int32) × (Nat → Int64)) : Int32 × (Nat → Int32) × (Nat → Int64) :=
  if ¬ (I 20 ((nI j).toNatClampNeg)) = k then (s.1, s.2.1, (upr s.2.2 ((nI j).toNatClampNeg) (0 : Int64))) else
  if (lg_cmp A (0 : Int64)) ≤ 0 then (s.1, s.2.1, (upr s.2.2 ((nI j).toNatClampNeg) (0 : Int64))) else
  (s.1 + ((up2 (up1 I 54 s.2.1) 54 ((nI j).toNatClampNeg) (((((I 53 ((nI j).toNatClampNeg)).toInt64) * x.toInt64) / A).toInt32)) 54 ((nI j).toNatClampNeg)), (upr s.2.1 ((nI j).toNatClampNeg) (((((I 53 ((nI j).toNatClampNeg)).toInt64) * x.toInt64) / A).toInt32)), (upr (upr s.2.2 ((nI j).toNatClampNeg) (0 : Int64)) ((nI j).toNatClampNeg) ((((I 53 ((nI j).toNatClampNeg)).toInt64) * x.toInt64) - (((I 53 ((nI j).toNatClampNeg)).toInt64) * x.toInt64) / A * A)))

def cut_it (I : Nat → Nat → Int32) (L : Nat → Nat → Int64) (g : Nat → Int32) (w : Nat → Int64) (k x : Int32) (A : Int64) (j : Nat) : Int32 × (Nat → Int32) × (Nat → Int64) := itr (cut_st I L g w k x A) (0, g, w) j
theorem cut_it_s (I : Nat → Nat → Int32) (L : Nat → Nat → Int64) (g : Nat → Int32) (w : Nat → Int64) (k x : Int32) (A : Int64) (j : Nat) : (cut_it I L g w k x A (j + 1)) = cut_st I L g w k x A j (cut_it I L g w k x A j) := itr_s _ _ _
set_option maxRecDepth 20000 in
theorem l_cut (tl : List (Nat × Nat)) (I : Nat → Nat → Int32) (L : Nat → Nat → Int64) (rd : Nat → Nat → Option Nat) (g : Nat → Int32) (w : Nat → Int64) (k x : Int32) (A : Int64) (m : Nat) (hm : I 16 0 = nI m) (hb : m ≤ 40) : ∀ j, j ≤ m → ∀ o8 : Option Value, ∀ o9 : Option Value, Runs 51 4 [some (.ref 52), some (.ref 16), some (.int k), some (.int x), some (.long A), none, some (.int ((cut_it I L g w k x A j).1)), some (.int (nI j)), o8, o9] [] (mk tl (up1 I 54 ((cut_it I L g w k x A j).2.1)) (up1 L 55 ((cut_it I L g w k x A j).2.2)) rd) (some (.int ((cut_it I L g w k x A (m)).1))) (mk tl (up1 I 54 ((cut_it I L g w k x A (m)).2.1)) (up1 L 55 ((cut_it I L g w k x A (m)).2.2)) rd) := by
  refine loopU m (P := fun j => ∀ o8 : Option Value, ∀ o9 : Option Value, Runs 51 4 [some (.ref 52), some (.ref 16), some (.int k), some (.int x), some (.long A), none, some (.int ((cut_it I L g w k x A j).1)), some (.int (nI j)), o8, o9] [] (mk tl (up1 I 54 ((cut_it I L g w k x A j).2.1)) (up1 L 55 ((cut_it I L g w k x A j).2.2)) rd) (some (.int ((cut_it I L g w k x A (m)).1))) (mk tl (up1 I 54 ((cut_it I L g w k x A (m)).2.1)) (up1 L 55 ((cut_it I L g w k x A (m)).2.2)) rd)) (fun j hj ih => ?_) ?_
  · intro o8 o9
    show Runs 51 4 [some (.ref 52), some (.ref 16), some (.int k), some (.int x), some (.long A), none, some (.int ((cut_it I L g w k x A j).1)), some (.int (nI j)), o8, o9] [] (mk tl (up1 I 54 ((cut_it I L g w k x A j).2.1)) (up1 L 55 ((cut_it I L g w k x A j).2.2)) rd) (some (.int ((cut_it I L g w k x A (m)).1))) (mk tl (up1 I 54 ((cut_it I L g w k x A (m)).2.1)) (up1 L 55 ((cut_it I L g w k x A (m)).2.2)) rd)
    refine Runs.bl 4 (g := true) (i' := if decide ((I 16 0) ≤ (nI j)) = true then 56 else 8) (ls' := [some (.ref 52), some (.ref 16), some (.int k), some (.int x), some (.long A), none, some (.int ((cut_it I L g w k x A j).1)), some (.int (nI j)), o8, o9]) (st' := []) (M' := mk tl (up1 I 54 ((cut_it I L g w k x A j).2.1)) (up1 L 55 ((cut_it I L g w k x A j).2.2)) rd) rfl rfl ?_
    refine Runs.brF (by show ¬ I 16 0 ≤ nI j; rw [hm]; exact nI_ge hj (by omega)) ?_
    refine Runs.bl 11 (g := inb (nI j) 40 && (inb (nI j) 40 && true)) (i' := if decide (¬ (I 20 ((nI j).toNatClampNeg)) = k) = true then 54 else 19) (ls' := [some (.ref 52), some (.ref 16), some (.int k), some (.int x), some (.long A), none, some (.int ((cut_it I L g w k x A j).1)), some (.int (nI j)), o8, o9]) (st' := []) (M' := mk tl (up1 I 54 ((cut_it I L g w k x A j).2.1)) (up2 (up1 L 55 ((cut_it I L g w k x A j).2.2)) 55 ((nI j).toNatClampNeg) (0 : Int64)) rd) rfl (by simp only [Bool.and_true, Bool.true_and, Bool.and_eq_true, decide_eq_true_eq]; (repeat' apply And.intro) <;> first | exact inb_nI (by omega) (by decide) | exact lg_ne (by assumption)) ?_
    refine Runs.brP (fun h1 => ?_) (fun h1 => ?_)
    · skip
      refine Runs.bl 2 (g := true) (i' := 4) (ls' := [some (.ref 52), some (.ref 16), some (.int k), some (.int x), some (.long A), none, some (.int ((cut_it I L g w k x A j).1)), some (.int ((nI j) + 1)), o8, o9]) (st' := []) (M' := mk tl (up1 I 54 ((cut_it I L g w k x A j).2.1)) (up2 (up1 L 55 ((cut_it I L g w k x A j).2.2)) 55 ((nI j).toNatClampNeg) (0 : Int64)) rd) rfl rfl ?_
      refine Runs.cg (ls := [some (.ref 52), some (.ref 16), some (.int k), some (.int x), some (.long A), none, some (.int ((cut_it I L g w k x A (j + 1)).1)), some (.int (nI (j + 1))), _, _]) (M := mk tl (up1 I 54 ((cut_it I L g w k x A (j + 1)).2.1)) (up1 L 55 ((cut_it I L g w k x A (j + 1)).2.2)) rd) (by rw [nI_1, cut_it_s, cut_st, if_pos h1]) (by rw [cut_it_s, cut_st, if_pos h1] <;> (refine mk_cg ?_ ?_; (funext x; by_cases e0 : x = 54; (subst e0; first | focus (simp (disch := decide) only [up1_ne, up2_ne, su2, up1_at]; done) | rfl); simp only [up1_ne e0, up2_ne e0]); (funext x; by_cases e0 : x = 55; (subst e0; first | focus (simp (disch := decide) only [up1_ne, up2_ne, su2, up1_at]; done) | rfl); simp only [up1_ne e0, up2_ne e0]))) (ih o8 o9)
    · skip
      refine Runs.bl 4 (g := true) (i' := if decide ((lg_cmp A (0 : Int64)) ≤ 0) = true then 54 else 23) (ls' := [some (.ref 52), some (.ref 16), some (.int k), some (.int x), some (.long A), none, some (.int ((cut_it I L g w k x A j).1)), some (.int (nI j)), o8, o9]) (st' := []) (M' := mk tl (up1 I 54 ((cut_it I L g w k x A j).2.1)) (up2 (up1 L 55 ((cut_it I L g w k x A j).2.2)) 55 ((nI j).toNatClampNeg) (0 : Int64)) rd) rfl rfl ?_
      refine Runs.brP (fun h2 => ?_) (fun h2 => ?_)
      · skip
        refine Runs.bl 2 (g := true) (i' := 4) (ls' := [some (.ref 52), some (.ref 16), some (.int k), some (.int x), some (.long A), none, some (.int ((cut_it I L g w k x A j).1)), some (.int ((nI j) + 1)), o8, o9]) (st' := []) (M' := mk tl (up1 I 54 ((cut_it I L g w k x A j).2.1)) (up2 (up1 L 55 ((cut_it I L g w k x A j).2.2)) 55 ((nI j).toNatClampNeg) (0 : Int64)) rd) rfl rfl ?_
        refine Runs.cg (ls := [some (.ref 52), some (.ref 16), some (.int k), some (.int x), some (.long A), none, some (.int ((cut_it I L g w k x A (j + 1)).1)), some (.int (nI (j + 1))), _, _]) (M := mk tl (up1 I 54 ((cut_it I L g w k x A (j + 1)).2.1)) (up1 L 55 ((cut_it I L g w k x A (j + 1)).2.2)) rd) (by rw [nI_1, cut_it_s, cut_st, if_neg h1, if_pos h2]) (by rw [cut_it_s, cut_st, if_neg h1, if_pos h2] <;> (refine mk_cg ?_ ?_; (funext x; by_cases e0 : x = 54; (subst e0; first | focus (simp (disch := decide) only [up1_ne, up2_ne, su2, up1_at]; done) | rfl); simp only [up1_ne e0, up2_ne e0]); (funext x; by_cases e0 : x = 55; (subst e0; first | focus (simp (disch := decide) only [up1_ne, up2_ne, su2, up1_at]; done) | rfl); simp only [up1_ne e0, up2_ne e0]))) (ih o8 o9)
      · skip
        refine Runs.bl 33 (g := inb (nI j) 40 && (decide (¬ A = 0) && (inb (nI j) 40 && (decide (¬ A = 0) && (inb (nI j) 40 && (inb (nI j) 40 && true)))))) (i' := 4) (ls' := [some (.ref 52), some (.ref 16), some (.int k), some (.int x), some (.long A), none, some (.int (((cut_it I L g w k x A j).1) + ((up2 (up1 I 54 ((cut_it I L g w k x A j).2.1)) 54 ((nI j).toNatClampNeg) (((((I 53 ((nI j).toNatClampNeg)).toInt64) * x.toInt64) / A).toInt32)) 54 ((nI j).toNatClampNeg)))), some (.int ((nI j) + 1)), some (.long (((I 53 ((nI j).toNatClampNeg)).toInt64) * x.toInt64)), none]) (st' := []) (M' := mk tl (up2 (up1 I 54 ((cut_it I L g w k x A j).2.1)) 54 ((nI j).toNatClampNeg) (((((I 53 ((nI j).toNatClampNeg)).toInt64) * x.toInt64) / A).toInt32)) (up2 (up2 (up1 L 55 ((cut_it I L g w k x A j).2.2)) 55 ((nI j).toNatClampNeg) (0 : Int64)) 55 ((nI j).toNatClampNeg) ((((I 53 ((nI j).toNatClampNeg)).toInt64) * x.toInt64) - (((I 53 ((nI j).toNatClampNeg)).toInt64) * x.toInt64) / A * A)) rd) rfl (by simp only [Bool.and_true, Bool.true_and, Bool.and_eq_true, decide_eq_true_eq]; (repeat' apply And.intro) <;> first | exact inb_nI (by omega) (by decide) | exact lg_ne (by assumption)) ?_
        refine Runs.cg (ls := [some (.ref 52), some (.ref 16), some (.int k), some (.int x), some (.long A), none, some (.int ((cut_it I L g w k x A (j + 1)).1)), some (.int (nI (j + 1))), _, _]) (M := mk tl (up1 I 54 ((cut_it I L g w k x A (j + 1)).2.1)) (up1 L 55 ((cut_it I L g w k x A (j + 1)).2.2)) rd) (by rw [nI_1, cut_it_s, cut_st, if_neg h1, if_neg h2]) (by rw [cut_it_s, cut_st, if_neg h1, if_neg h2] <;> (refine mk_cg ?_ ?_; (funext x; by_cases e0 : x = 54; (subst e0; first | focus (simp (disch := decide) only [up1_ne, up2_ne, su2, up1_at]; done) | rfl); simp only [up1_ne e0, up2_ne e0]); (funext x; by_cases e0 : x = 55; (subst e0; first | focus (simp (disch := decide) only [up1_ne, up2_ne, su2, up1_at]; done) | rfl); simp only [up1_ne e0, up2_ne e0]))) (ih (some (.long (((I 53 ((nI j).toNatClampNeg)).toInt64) * x.toInt64))) none)
  · intro o8 o9
    show Runs 51 4 [some (.ref 52), some (.ref 16), some (.int k), some (.int x), some (.long A), none, some (.int ((cut_it I L g w k x A m).1)), some (.int (nI m)), o8, o9] [] (mk tl (up1 I 54 ((cut_it I L g w k x A m).2.1)) (up1 L 55 ((cut_it I L g w k x A m).2.2)) rd) (some (.int ((cut_it I L g w k x A (m)).1))) (mk tl (up1 I 54 ((cut_it I L g w k x A (m)).2.1)) (up1 L 55 ((cut_it I L g w k x A (m)).2.2)) rd)
    refine Runs.bl 4 (g := true) (i' := if decide ((I 16 0) ≤ (nI m)) = true then 56 else 8) (ls' := [some (.ref 52), some (.ref 16), some (.int k), some (.int x), some (.long A), none, some (.int ((cut_it I L g w k x A m).1)), some (.int (nI m)), o8, o9]) (st' := []) (M' := mk tl (up1 I 54 ((cut_it I L g w k x A m).2.1)) (up1 L 55 ((cut_it I L g w k x A m).2.2)) rd) rfl rfl ?_
    refine Runs.brT (by show I 16 0 ≤ nI m; rw [hm]; exact nI_le (Nat.le_refl _) (by omega)) ?_
    refine Runs.bl 1 (g := true) (i' := 57) (ls' := [some (.ref 52), some (.ref 16), some (.int k), some (.int x), some (.long A), none, some (.int ((cut_it I L g w k x A m).1)), some (.int (nI m)), o8, o9]) (st' := [.int ((cut_it I L g w k x A m).1)]) (M' := mk tl (up1 I 54 ((cut_it I L g w k x A m).2.1)) (up1 L 55 ((cut_it I L g w k x A m).2.2)) rd) rfl rfl ?_
    exact Runs.ri rfl rfl (rfl) (rfl)

set_option maxRecDepth 20000 in
theorem l0_cut (tl : List (Nat × Nat)) (I : Nat → Nat → Int32) (L : Nat → Nat → Int64) (rd : Nat → Nat → Option Nat) (g : Nat → Int32) (w : Nat → Int64) (k x : Int32) (A : Int64) (m : Nat) (hm : I 16 0 = nI m) (hb : m ≤ 40) : ∀ o8 : Option Value, ∀ o9 : Option Value, Runs 51 4 [some (.ref 52), some (.ref 16), some (.int k), some (.int x), some (.long A), none, some (.int 0), some (.int (nI 0)), o8, o9] [] (mk tl (up1 I 54 g) (up1 L 55 w) rd) (some (.int ((cut_it I L g w k x A (m)).1))) (mk tl (up1 I 54 ((cut_it I L g w k x A (m)).2.1)) (up1 L 55 ((cut_it I L g w k x A (m)).2.2)) rd) := l_cut tl I L rd g w k x A m hm hb 0 (Nat.zero_le _)
set_option maxRecDepth 20000 in
theorem c_cut (tl : List (Nat × Nat)) (I : Nat → Nat → Int32) (L : Nat → Nat → Int64) (rd : Nat → Nat → Option Nat) (g : Nat → Int32) (w : Nat → Int64) (k x : Int32) (A : Int64) (m : Nat) (hm : I 16 0 = nI m) (hb : m ≤ 40) : Call 51 [.ref 52, .ref 16, .int k, .int x, .long A] (mk tl (up1 I 54 g) (up1 L 55 w) rd) (some (.int ((cut_it I L g w k x A m).1))) (mk tl (up1 I 54 ((cut_it I L g w k x A m).2.1)) (up1 L 55 ((cut_it I L g w k x A m).2.2)) rd) := by
  show Runs 51 0 [some (.ref 52), some (.ref 16), some (.int k), some (.int x), some (.long A), none, none, none, none, none] [] (mk tl (up1 I 54 g) (up1 L 55 w) rd) (some (.int ((cut_it I L g w k x A m).1))) (mk tl (up1 I 54 ((cut_it I L g w k x A m).2.1)) (up1 L 55 ((cut_it I L g w k x A m).2.2)) rd)
  refine Runs.bl 4 (g := true) (i' := 4) (ls' := [some (.ref 52), some (.ref 16), some (.int k), some (.int x), some (.long A), none, some (.int (0 : Int32)), some (.int (0 : Int32)), none, none]) (st' := []) (M' := mk tl (up1 I 54 g) (up1 L 55 w) rd) rfl rfl ?_
  exact l_cut tl I L rd g w k x A m hm hb 0 (Nat.zero_le _) _ _

def gp_st (I : Nat → Nat → Int32) (L : Nat → Nat → Int64) (w : Nat → Int64) (j : Nat) (s : Int32) : Int32 :=
  if (lg_cmp (w ((nI (j + 1)).toNatClampNeg)) (w s.toNatClampNeg)) ≤ 0 then (s) else
  (nI (j + 1))

def gp_it (I : Nat → Nat → Int32) (L : Nat → Nat → Int64) (w : Nat → Int64) (j : Nat) : Int32 := itr (gp_st I L w) (0) j
theorem gp_it_s (I : Nat → Nat → Int32) (L : Nat → Nat → Int64) (w : Nat → Int64) (j : Nat) : (gp_it I L w (j + 1)) = gp_st I L w j (gp_it I L w j) := itr_s _ _ _
theorem gp_cs (I : Nat → Nat → Int32) (L : Nat → Nat → Int64) (w : Nat → Int64) (j : Nat) : ∃ a, a ≤ j ∧ gp_it I L w j = nI a := by
  induction j with
  | zero => exact ⟨0, Nat.le_refl _, rfl⟩
  | succ j ih =>
    obtain ⟨a, ha, e⟩ := ih
    rw [gp_it_s, gp_st]
    split
    · exact ⟨a, by omega, e⟩
    · exact ⟨j + 1, by omega, rfl⟩
theorem gp_rng (I : Nat → Nat → Int32) (L : Nat → Nat → Int64) (w : Nat → Int64) (j : Nat) (hj : j < 40) : 0 ≤ (gp_it I L w j).toInt ∧ (gp_it I L w j).toInt < 40 := by
  obtain ⟨a, ha, e⟩ := gp_cs I L w j
  rw [e, nI_toInt (by omega)]
  omega

set_option maxRecDepth 20000 in
theorem l_gp (tl : List (Nat × Nat)) (I : Nat → Nat → Int32) (L : Nat → Nat → Int64) (rd : Nat → Nat → Option Nat) (g : Nat → Int32) (w : Nat → Int64) (pn : Int32) (i : Nat)  (rr : Option Value) (Me : Mm) (hK : Runs 52 29 [some (.ref 52), some (.int pn), some (.int (nI i)), some (.int (gp_it I L w (39))), some (.int (nI ((39) + 1)))] [] (mk tl (up1 I 54 g) (up1 L 55 w) rd) rr Me) : ∀ j, j ≤ 39 → Runs 52 12 [some (.ref 52), some (.int pn), some (.int (nI i)), some (.int (gp_it I L w j)), some (.int (nI (j + 1)))] [] (mk tl (up1 I 54 g) (up1 L 55 w) rd) rr (Me) := by
  refine loopU 39 (P := fun j => Runs 52 12 [some (.ref 52), some (.int pn), some (.int (nI i)), some (.int (gp_it I L w j)), some (.int (nI (j + 1)))] [] (mk tl (up1 I 54 g) (up1 L 55 w) rd) rr (Me)) (fun j hj ih => ?_) ?_
  · show Runs 52 12 [some (.ref 52), some (.int pn), some (.int (nI i)), some (.int (gp_it I L w j)), some (.int (nI (j + 1)))] [] (mk tl (up1 I 54 g) (up1 L 55 w) rd) rr (Me)
    refine Runs.bl 3 (g := true) (i' := if decide ((40 : Int32) ≤ (nI (j + 1))) = true then 29 else 15) (ls' := [some (.ref 52), some (.int pn), some (.int (nI i)), some (.int (gp_it I L w j)), some (.int (nI (j + 1)))]) (st' := []) (M' := mk tl (up1 I 54 g) (up1 L 55 w) rd) rfl rfl ?_
    refine Runs.brF (nI_ge (b := 40) (by omega) (by decide)) ?_
    refine Runs.bl 10 (g := inb (nI (j + 1)) 40 && (inb (gp_it I L w j) 40 && true)) (i' := if decide ((lg_cmp (w ((nI (j + 1)).toNatClampNeg)) (w ((gp_it I L w j).toNatClampNeg))) ≤ 0) = true then 27 else 25) (ls' := [some (.ref 52), some (.int pn), some (.int (nI i)), some (.int (gp_it I L w j)), some (.int (nI (j + 1)))]) (st' := []) (M' := mk tl (up1 I 54 g) (up1 L 55 w) rd) rfl (by have q1 := nI_toInt (n := j + 1) (by omega); have q2 := gp_rng I L w j (by omega); simp only [Bool.and_true, Bool.true_and, Bool.and_eq_true, inb_iff, Int32.lt_iff_toInt_lt, Int32.le_iff_toInt_le, toI_0, toI_1, toI_2, toI_3, toI_4, toI_5, toI_6, toI_7, toI_8, toI_9, toI_10, toI_12, toI_16, toI_18, toI_20, toI_21, toI_23, toI_24, toI_32, toI_36, toI_39, toI_40, toI_48, toI_50, toI_60, toI_64, toI_75, toI_80, toI_100, toI_144, toI_160, toI_200, toI_256, toI_320, toI_380, toI_576, toI_600, toI_1000, toI_1280, toI_2400, toI_9999, toI_10000, toI_100000, toI_1000000, toI_m1, toI_m100000, toI_s9, toI_s8] at q1 q2 ⊢; omega) ?_
    refine Runs.brP (fun h1 => ?_) (fun h1 => ?_)
    · skip
      refine Runs.bl 2 (g := true) (i' := 12) (ls' := [some (.ref 52), some (.int pn), some (.int (nI i)), some (.int (gp_it I L w j)), some (.int ((nI (j + 1)) + 1))]) (st' := []) (M' := mk tl (up1 I 54 g) (up1 L 55 w) rd) rfl rfl ?_
      refine Runs.cg (ls := [some (.ref 52), some (.int pn), some (.int (nI i)), some (.int (gp_it I L w (j + 1))), some (.int (nI ((j + 1) + 1)))]) (M := mk tl (up1 I 54 g) (up1 L 55 w) rd) (by rw [nI_1, gp_it_s, gp_st, if_pos h1]) (rfl) ih
    · skip
      refine Runs.bl 4 (g := true) (i' := 12) (ls' := [some (.ref 52), some (.int pn), some (.int (nI i)), some (.int (nI (j + 1))), some (.int ((nI (j + 1)) + 1))]) (st' := []) (M' := mk tl (up1 I 54 g) (up1 L 55 w) rd) rfl rfl ?_
      refine Runs.cg (ls := [some (.ref 52), some (.int pn), some (.int (nI i)), some (.int (gp_it I L w (j + 1))), some (.int (nI ((j + 1) + 1)))]) (M := mk tl (up1 I 54 g) (up1 L 55 w) rd) (by rw [nI_1, gp_it_s, gp_st, if_neg h1]) (rfl) ih
  · show Runs 52 12 [some (.ref 52), some (.int pn), some (.int (nI i)), some (.int (gp_it I L w 39)), some (.int (nI (39 + 1)))] [] (mk tl (up1 I 54 g) (up1 L 55 w) rd) rr (Me)
    refine Runs.bl 3 (g := true) (i' := if decide ((40 : Int32) ≤ (nI (39 + 1))) = true then 29 else 15) (ls' := [some (.ref 52), some (.int pn), some (.int (nI i)), some (.int (gp_it I L w 39)), some (.int (nI (39 + 1)))]) (st' := []) (M' := mk tl (up1 I 54 g) (up1 L 55 w) rd) rfl rfl ?_
    refine Runs.brT (by decide) ?_
    exact hK

set_option maxRecDepth 20000 in
theorem l0_gp (tl : List (Nat × Nat)) (I : Nat → Nat → Int32) (L : Nat → Nat → Int64) (rd : Nat → Nat → Option Nat) (g : Nat → Int32) (w : Nat → Int64) (pn : Int32) (i : Nat)  (rr : Option Value) (Me : Mm) (hK : Runs 52 29 [some (.ref 52), some (.int pn), some (.int (nI i)), some (.int (gp_it I L w (39))), some (.int (nI ((39) + 1)))] [] (mk tl (up1 I 54 g) (up1 L 55 w) rd) rr Me) : Runs 52 12 [some (.ref 52), some (.int pn), some (.int (nI i)), some (.int 0), some (.int (nI (0 + 1)))] [] (mk tl (up1 I 54 g) (up1 L 55 w) rd) rr (Me) := l_gp tl I L rd g w pn i rr Me hK 0 (Nat.zero_le _)
def pen_st (I : Nat → Nat → Int32) (L : Nat → Nat → Int64) (g : Nat → Int32) (w : Nat → Int64) (pn : Int32) (j : Nat) (s : (Nat → Int32) × (Nat → Int64)) : (Nat → Int32) × (Nat → Int64) :=
  ((upr s.1 ((gp_it I L s.2 (39)).toNatClampNeg) ((s.1 ((gp_it I L s.2 (39)).toNatClampNeg)) + (1 : Int32))), (upr s.2 ((gp_it I L s.2 (39)).toNatClampNeg) (0 : Int64)))

def pen_it (I : Nat → Nat → Int32) (L : Nat → Nat → Int64) (g : Nat → Int32) (w : Nat → Int64) (pn : Int32) (j : Nat) : (Nat → Int32) × (Nat → Int64) := itr (pen_st I L g w pn) (g, w) j
theorem pen_it_s (I : Nat → Nat → Int32) (L : Nat → Nat → Int64) (g : Nat → Int32) (w : Nat → Int64) (pn : Int32) (j : Nat) : (pen_it I L g w pn (j + 1)) = pen_st I L g w pn j (pen_it I L g w pn j) := itr_s _ _ _
theorem pen_end {pn : Int32} (h : ¬ pn ≤ nI (min pn.toNatClampNeg 40)) : (40 : Int32) ≤ nI (min pn.toNatClampNeg 40) := by
  rcases Nat.le_total pn.toNatClampNeg 40 with h1 | h1
  · rw [Nat.min_eq_left h1] at h; exact absurd (clamp_ge pn) h
  · rw [Nat.min_eq_right h1]; decide

set_option maxRecDepth 20000 in
theorem l_pen (tl : List (Nat × Nat)) (I : Nat → Nat → Int32) (L : Nat → Nat → Int64) (rd : Nat → Nat → Option Nat) (g : Nat → Int32) (w : Nat → Int64) (pn : Int32)  : ∀ j, j ≤ (min pn.toNatClampNeg 40) → ∀ o3 : Option Value, ∀ o4 : Option Value, Runs 52 2 [some (.ref 52), some (.int pn), some (.int (nI j)), o3, o4] [] (mk tl (up1 I 54 ((pen_it I L g w pn j).1)) (up1 L 55 ((pen_it I L g w pn j).2)) rd) none (mk tl (up1 I 54 ((pen_it I L g w pn ((min pn.toNatClampNeg 40))).1)) (up1 L 55 ((pen_it I L g w pn ((min pn.toNatClampNeg 40))).2)) rd) := by
  refine loopU (min pn.toNatClampNeg 40) (P := fun j => ∀ o3 : Option Value, ∀ o4 : Option Value, Runs 52 2 [some (.ref 52), some (.int pn), some (.int (nI j)), o3, o4] [] (mk tl (up1 I 54 ((pen_it I L g w pn j).1)) (up1 L 55 ((pen_it I L g w pn j).2)) rd) none (mk tl (up1 I 54 ((pen_it I L g w pn ((min pn.toNatClampNeg 40))).1)) (up1 L 55 ((pen_it I L g w pn ((min pn.toNatClampNeg 40))).2)) rd)) (fun j hj ih => ?_) ?_
  · intro o3 o4
    show Runs 52 2 [some (.ref 52), some (.int pn), some (.int (nI j)), o3, o4] [] (mk tl (up1 I 54 ((pen_it I L g w pn j).1)) (up1 L 55 ((pen_it I L g w pn j).2)) rd) none (mk tl (up1 I 54 ((pen_it I L g w pn ((min pn.toNatClampNeg 40))).1)) (up1 L 55 ((pen_it I L g w pn ((min pn.toNatClampNeg 40))).2)) rd)
    refine Runs.bl 3 (g := true) (i' := if decide (pn ≤ (nI j)) = true then 44 else 5) (ls' := [some (.ref 52), some (.int pn), some (.int (nI j)), o3, o4]) (st' := []) (M' := mk tl (up1 I 54 ((pen_it I L g w pn j).1)) (up1 L 55 ((pen_it I L g w pn j).2)) rd) rfl rfl ?_
    refine Runs.brF (clamp_lt (by omega)) ?_
    refine Runs.bl 3 (g := true) (i' := if decide ((40 : Int32) ≤ (nI j)) = true then 44 else 8) (ls' := [some (.ref 52), some (.int pn), some (.int (nI j)), o3, o4]) (st' := []) (M' := mk tl (up1 I 54 ((pen_it I L g w pn j).1)) (up1 L 55 ((pen_it I L g w pn j).2)) rd) rfl rfl ?_
    refine Runs.brF (nI_ge (b := 40) (by omega) (by decide)) ?_
    refine Runs.bl 4 (g := true) (i' := 12) (ls' := [some (.ref 52), some (.int pn), some (.int (nI j)), some (.int (0 : Int32)), some (.int (1 : Int32))]) (st' := []) (M' := mk tl (up1 I 54 ((pen_it I L g w pn j).1)) (up1 L 55 ((pen_it I L g w pn j).2)) rd) rfl rfl ?_
    refine l_gp tl I L rd ((pen_it I L g w pn j).1) ((pen_it I L g w pn j).2) pn j _ _ ?_ 0 (Nat.zero_le _)
    refine Runs.bl 15 (g := inb (gp_it I L ((pen_it I L g w pn j).2) (39)) 40 && (inb (gp_it I L ((pen_it I L g w pn j).2) (39)) 40 && (inb (gp_it I L ((pen_it I L g w pn j).2) (39)) 40 && true))) (i' := 2) (ls' := [some (.ref 52), some (.int pn), some (.int ((nI j) + 1)), some (.int (gp_it I L ((pen_it I L g w pn j).2) (39))), some (.int (nI (39 + 1)))]) (st' := []) (M' := mk tl (up2 (up1 I 54 ((pen_it I L g w pn j).1)) 54 ((gp_it I L ((pen_it I L g w pn j).2) (39)).toNatClampNeg) ((((pen_it I L g w pn j).1) ((gp_it I L ((pen_it I L g w pn j).2) (39)).toNatClampNeg)) + (1 : Int32))) (up2 (up1 L 55 ((pen_it I L g w pn j).2)) 55 ((gp_it I L ((pen_it I L g w pn j).2) (39)).toNatClampNeg) (0 : Int64)) rd) rfl (by have q1 := nI_toInt (n := j) (by omega); have q2 := gp_rng I L (pen_it I L g w pn j).2 39 (by decide); simp only [Bool.and_true, Bool.true_and, Bool.and_eq_true, inb_iff, Int32.lt_iff_toInt_lt, Int32.le_iff_toInt_le, toI_0, toI_1, toI_2, toI_3, toI_4, toI_5, toI_6, toI_7, toI_8, toI_9, toI_10, toI_12, toI_16, toI_18, toI_20, toI_21, toI_23, toI_24, toI_32, toI_36, toI_39, toI_40, toI_48, toI_50, toI_60, toI_64, toI_75, toI_80, toI_100, toI_144, toI_160, toI_200, toI_256, toI_320, toI_380, toI_576, toI_600, toI_1000, toI_1280, toI_2400, toI_9999, toI_10000, toI_100000, toI_1000000, toI_m1, toI_m100000, toI_s9, toI_s8] at q1 q2 ⊢; omega) ?_
    refine Runs.cg (ls := [some (.ref 52), some (.int pn), some (.int (nI (j + 1))), _, _]) (M := mk tl (up1 I 54 ((pen_it I L g w pn (j + 1)).1)) (up1 L 55 ((pen_it I L g w pn (j + 1)).2)) rd) (by rw [nI_1]) (by rw [pen_it_s, pen_st] <;> (refine mk_cg ?_ ?_; (funext x; by_cases e0 : x = 54; (subst e0; first | focus (simp (disch := decide) only [up1_ne, up2_ne, su2, up1_at]; done) | rfl); simp only [up1_ne e0, up2_ne e0]); (funext x; by_cases e0 : x = 55; (subst e0; first | focus (simp (disch := decide) only [up1_ne, up2_ne, su2, up1_at]; done) | rfl); simp only [up1_ne e0, up2_ne e0]))) (ih (some (.int (gp_it I L ((pen_it I L g w pn j).2) (39)))) (some (.int (nI (39 + 1)))))
  · intro o3 o4
    show Runs 52 2 [some (.ref 52), some (.int pn), some (.int (nI (min pn.toNatClampNeg 40))), o3, o4] [] (mk tl (up1 I 54 ((pen_it I L g w pn (min pn.toNatClampNeg 40)).1)) (up1 L 55 ((pen_it I L g w pn (min pn.toNatClampNeg 40)).2)) rd) none (mk tl (up1 I 54 ((pen_it I L g w pn ((min pn.toNatClampNeg 40))).1)) (up1 L 55 ((pen_it I L g w pn ((min pn.toNatClampNeg 40))).2)) rd)
    refine Runs.bl 3 (g := true) (i' := if decide (pn ≤ (nI (min pn.toNatClampNeg 40))) = true then 44 else 5) (ls' := [some (.ref 52), some (.int pn), some (.int (nI (min pn.toNatClampNeg 40))), o3, o4]) (st' := []) (M' := mk tl (up1 I 54 ((pen_it I L g w pn (min pn.toNatClampNeg 40)).1)) (up1 L 55 ((pen_it I L g w pn (min pn.toNatClampNeg 40)).2)) rd) rfl rfl ?_
    refine Runs.brP (fun h1 => ?_) (fun h1 => ?_)
    · skip
      exact Runs.rv rfl rfl (rfl)
    · skip
      refine Runs.bl 3 (g := true) (i' := if decide ((40 : Int32) ≤ (nI (min pn.toNatClampNeg 40))) = true then 44 else 8) (ls' := [some (.ref 52), some (.int pn), some (.int (nI (min pn.toNatClampNeg 40))), o3, o4]) (st' := []) (M' := mk tl (up1 I 54 ((pen_it I L g w pn (min pn.toNatClampNeg 40)).1)) (up1 L 55 ((pen_it I L g w pn (min pn.toNatClampNeg 40)).2)) rd) rfl rfl ?_
      refine Runs.brT (pen_end h1) ?_
      exact Runs.rv rfl rfl (rfl)

set_option maxRecDepth 20000 in
theorem l0_pen (tl : List (Nat × Nat)) (I : Nat → Nat → Int32) (L : Nat → Nat → Int64) (rd : Nat → Nat → Option Nat) (g : Nat → Int32) (w : Nat → Int64) (pn : Int32)  : ∀ o3 : Option Value, ∀ o4 : Option Value, Runs 52 2 [some (.ref 52), some (.int pn), some (.int (nI 0)), o3, o4] [] (mk tl (up1 I 54 g) (up1 L 55 w) rd) none (mk tl (up1 I 54 ((pen_it I L g w pn ((min pn.toNatClampNeg 40))).1)) (up1 L 55 ((pen_it I L g w pn ((min pn.toNatClampNeg 40))).2)) rd) := l_pen tl I L rd g w pn  0 (Nat.zero_le _)
