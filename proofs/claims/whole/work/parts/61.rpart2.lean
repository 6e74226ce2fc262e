/-! THE REFERENCE: part (printed by p61.py) -/
def rkF (I : Nat → Nat → Int32) (L : Nat → Nat → Int64) (m : Nat) (g : Nat → Int32) (w : Nat → Int64) (r n : Int32) : (Nat → Int32) × (Nat → Int64) := if lg_cmp (pa_it I L r m) n.toInt64 ≤ 0 then ((pb_it I L g w r n (pa_it I L r m) m).2.1, (pb_it I L g w r n (pa_it I L r m) m).2.2) else pcF I L m (pb_it I L g w r n (pa_it I L r m) m).1.toNatClampNeg ((pb_it I L g w r n (pa_it I L r m) m).2.1, (pb_it I L g w r n (pa_it I L r m) m).2.2)
def rkSafe (I : Nat → Nat → Int32) (L : Nat → Nat → Int64) (m : Nat) (g : Nat → Int32) (w : Nat → Int64) (r n : Int32) : Prop := 0 ≤ n.toInt ∧ (¬ lg_cmp (pa_it I L r m) n.toInt64 ≤ 0 → pcSafe I L m (pb_it I L g w r n (pa_it I L r m) m).1.toNatClampNeg ((pb_it I L g w r n (pa_it I L r m) m).2.1, (pb_it I L g w r n (pa_it I L r m) m).2.2))

theorem pa_cg (I : Nat → Nat → Int32) (L : Nat → Nat → Int64) (g : Nat → Int32) (w : Nat → Int64) (r : Int32) (j : Nat) : pa_it (up1 I 126 g) (up1 L 127 w) r j = pa_it I L r j := by
  induction j with
  | zero => rfl
  | succ j ih => rw [pa_it_s, pa_it_s, ih]; rfl

set_option maxRecDepth 20000 in
theorem c_rk (tl : List (Nat × Nat)) (I : Nat → Nat → Int32) (L : Nat → Nat → Int64) (rd : Nat → Nat → Option Nat) (m : Nat) (g : Nat → Int32) (w : Nat → Int64) (r n : Int32) (hm : I 86 0 = nI m) (hb : m ≤ 40) (hs : rkSafe I L m g w r n) : Call 226 [.ref 61, .int r, .int n] (mk tl (up1 I 126 g) (up1 L 127 w) rd) none (mk tl (up1 I 126 ((rkF I L m g w r n).1)) (up1 L 127 ((rkF I L m g w r n).2)) rd) := by
  show Runs 226 0 [some (.ref 61), some (.int r), some (.int n), none, none, none, none, none] [] (mk tl (up1 I 126 g) (up1 L 127 w) rd) none (mk tl (up1 I 126 ((rkF I L m g w r n).1)) (up1 L 127 ((rkF I L m g w r n).2)) rd)
  refine Runs.bl 4 (g := true) (i' := 4) (ls' := [some (.ref 61), some (.int r), some (.int n), some (.long (0 : Int64)), none, some (.int (0 : Int32)), none, none]) (st' := []) (M' := mk tl (up1 I 126 g) (up1 L 127 w) rd) rfl rfl ?_
  have hpa := l0_pa tl (up1 I 126 g) (up1 L 127 w) rd r n m hm hb
  refine hpa _ _ ?_
  refine Runs.cg (ls := [some (.ref 61), some (.int r), some (.int n), some (.long (pa_it I L r m)), none, some (.int (nI (m))), none, none]) (by rw [pa_cg]) rfl ?_
  refine Runs.bl 4 (g := true) (i' := 32) (ls' := [some (.ref 61), some (.int r), some (.int n), some (.long (pa_it I L r m)), none, some (.int n), some (.int (0 : Int32)), none]) (st' := []) (M' := mk tl (up1 I 126 g) (up1 L 127 w) rd) rfl rfl ?_
  refine l0_pb tl I L rd g w r n _ m hm hb hs.1 _ _ (fun o7 => ?_) _
  by_cases hA : lg_cmp (pa_it I L r m) n.toInt64 ≤ 0
  · rw [rkF, if_pos hA]
    refine Runs.bl 5 (g := true) (i' := if decide ((lg_cmp (pa_it I L r m) n.toInt64) ≤ 0) = true then 170 else 117) (ls' := [some (.ref 61), some (.int r), some (.int n), some (.long (pa_it I L r m)), none, some (.int ((pb_it I L g w r n (pa_it I L r m) (m)).1)), some (.int (nI (m))), o7]) (st' := []) (M' := mk tl (up1 I 126 ((pb_it I L g w r n (pa_it I L r m) (m)).2.1)) (up1 L 127 ((pb_it I L g w r n (pa_it I L r m) (m)).2.2)) rd) rfl rfl ?_
    refine Runs.brT (hA) ?_
    exact Runs.rv rfl rfl (rfl)
  rw [rkF, if_neg hA]
  have hS := hs.2 hA
  by_cases hneg : 0 ≤ (pb_it I L g w r n (pa_it I L r m) m).1.toInt
  · obtain ⟨k, hk, ek⟩ := rng_nI (x := (pb_it I L g w r n (pa_it I L r m) m).1) (N := 2 ^ 31) ⟨hneg, by have := Int32.toInt_lt (pb_it I L g w r n (pa_it I L r m) m).1; omega⟩
    have ec : (pb_it I L g w r n (pa_it I L r m) m).1.toNatClampNeg = k := by rw [ek, nI_clamp hk]
    rw [ec] at hS ⊢
    have hz := l_pc tl I L rd r n (pa_it I L r m) m hm hb hA k hk ((pb_it I L g w r n (pa_it I L r m) m).2.1, (pb_it I L g w r n (pa_it I L r m) m).2.2) hS (some (.int (nI (m)))) o7
    rw [← ek] at hz
    exact hz
  rw [show (pb_it I L g w r n (pa_it I L r m) m).1.toNatClampNeg = 0 from by show Int.toNat _ = 0; omega, pcF]
  refine Runs.bl 5 (g := true) (i' := if decide ((lg_cmp (pa_it I L r m) n.toInt64) ≤ 0) = true then 170 else 117) (ls' := [some (.ref 61), some (.int r), some (.int n), some (.long (pa_it I L r m)), none, some (.int ((pb_it I L g w r n (pa_it I L r m) (m)).1)), some (.int (nI (m))), o7]) (st' := []) (M' := mk tl (up1 I 126 ((pb_it I L g w r n (pa_it I L r m) (m)).2.1)) (up1 L 127 ((pb_it I L g w r n (pa_it I L r m) (m)).2.2)) rd) rfl rfl ?_
  refine Runs.brF (hA) ?_
  refine Runs.bl 2 (g := true) (i' := if decide (((pb_it I L g w r n (pa_it I L r m) (m)).1) ≤ 0) = true then 170 else 119) (ls' := [some (.ref 61), some (.int r), some (.int n), some (.long (pa_it I L r m)), none, some (.int ((pb_it I L g w r n (pa_it I L r m) (m)).1)), some (.int (nI (m))), o7]) (st' := []) (M' := mk tl (up1 I 126 ((pb_it I L g w r n (pa_it I L r m) (m)).2.1)) (up1 L 127 ((pb_it I L g w r n (pa_it I L r m) (m)).2.2)) rd) rfl rfl ?_
  refine Runs.brT (by rw [Int32.le_iff_toInt_le, toI_0]; omega) ?_
  exact Runs.rv rfl rfl (rfl)

