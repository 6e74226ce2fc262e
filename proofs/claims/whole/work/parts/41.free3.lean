/-! free (printed by p41.py) -/
def ffS (I : Nat → Nat → Int32) (L : Nat → Nat → Int64) (m q : Nat) (pu : Int32) : Int32 × Int32 × (Nat → Int64) × Int64 := (ff_it (gaI I L m q) (gaL I L m q) (upr ((gaL I L m q) 60) 0 0) pu (gaS I L m q).2.1.toNatClampNeg (2 ^ (gaS I L m q).2.1.toNatClampNeg - 1))
def frI (I : Nat → Nat → Int32) (L : Nat → Nat → Int64) (m q : Nat) (pu : Int32) : Nat → Nat → Int32 := (up2 (up2 (up2 (gaI I L m q) 56 0 ((ffS I L m q pu).1)) 56 1 ((ffS I L m q pu).2.1)) 56 1 (bp_it (up2 (up2 (gaI I L m q) 56 0 ((ffS I L m q pu).1)) 56 1 ((ffS I L m q pu).2.1)) (up2 (up1 (gaL I L m q) 60 ((ffS I L m q pu).2.2.1)) 56 2 ((ffS I L m q pu).2.2.2)) (ffS I L m q pu).2.1 ((gaS I L m q).2.1.toNatClampNeg)))
def frL (I : Nat → Nat → Int32) (L : Nat → Nat → Int64) (m q : Nat) (pu : Int32) : Nat → Nat → Int64 := (up2 (up1 (gaL I L m q) 60 ((ffS I L m q pu).2.2.1)) 56 2 ((ffS I L m q pu).2.2.2))

set_option maxRecDepth 20000 in
theorem c_ff (tl : List (Nat × Nat)) (I : Nat → Nat → Int32) (L : Nat → Nat → Int64) (rd : Nat → Nat → Option Nat) (m q : Nat) (pu : Int32) (hm : I 16 0 = nI m) (hb : m ≤ 40) (hq : I 2 0 = nI q) (hqb : q ≤ 12) : Call 19 [.ref 56, .ref 1, .int pu] (mk tl I L rd) none (mk tl (frI I L m q pu) (frL I L m q pu) rd) := by
  show Runs 19 0 [some (.ref 56), some (.ref 1), some (.int pu), none, none, none] [] (mk tl I L rd) none (mk tl (frI I L m q pu) (frL I L m q pu) rd)
  refine Runs.bl 2 (g := true) (i' := 2) (ls' := [some (.ref 56), some (.ref 1), some (.int pu), none, none, none]) (st' := [.ref 1, .ref 56]) (M' := mk tl I L rd) rfl rfl ?_
  refine Runs.call (k' := 20) (as := [.ref 56, .ref 1]) (rest := []) (r1 := none) (M1 := mk tl (gaI I L m q) (gaL I L m q) rd) rfl rfl rfl (c_ga tl I L rd m q hm hb hq hqb) ?_
  refine Runs.bl 16 (g := true && true) (i' := 19) (ls' := [some (.ref 56), some (.ref 1), some (.int pu), some (.int (1 : Int32)), none, none]) (st' := []) (M' := mk tl (up2 (up2 (gaI I L m q) 56 0 (0 : Int32)) 56 1 (0 : Int32)) (up2 (up2 (gaL I L m q) 56 2 (0 : Int64)) 60 0 (0 : Int64)) rd) rfl rfl ?_
  refine Runs.cg (M := mk tl (up2 (up2 (gaI I L m q) 56 0 (0 : Int32)) 56 1 (0 : Int32)) (up2 (up1 (gaL I L m q) 60 (upr ((gaL I L m q) 60) 0 0)) 56 2 (0 : Int64)) rd) rfl (by refine mk_cg ?_ ?_; rfl; (funext x; by_cases e0 : x = 60; (subst e0; first | focus (simp (disch := decide) only [up1_ne, up2_ne, su2, up1_at]; done) | rfl); by_cases e1 : x = 56; (subst e1; funext y; by_cases f0 : y = 2; (subst f0; rfl); simp [up1, up2, upr, f0]); simp only [up1_ne e0, up2_ne e0, up1_ne e1, up2_ne e1])) ?_
  obtain ⟨z, hz8, e⟩ := gaS_z I L m q
  have ez : gaI I L m q 56 3 = nI z := e
  have hp2 : 2 ^ z ≤ 256 := (Nat.pow_le_pow_right (n := 2) (by decide) hz8 : 2 ^ z ≤ 2 ^ 8)
  unfold frI frL ffS; rw [e, nI_clamp (by omega)]
  exact l0_ff tl (gaI I L m q) (gaL I L m q) rd _ pu z ez hz8 hp2 _ _

def xFree (I : Nat → Nat → Int32) (L : Nat → Nat → Int64) (xa xl : Nat → Nat) (n m q : Nat) (pu : Int32) (w : Int32) : Int32 × (Nat → Nat → Int32) × (Nat → Nat → Int64) :=
  if ¬ (outside I pu (0 : Int32) (1000000 : Int32)) = 0 then ((-1 : Int32), I, L) else
  if (outside I w (0 : Int32) (2 : Int32)) = 0 then (if w = (0 : Int32) then ((frI I L m q pu) 56 0, (frI I L m q pu), (frL I L m q pu)) else
    if w = (1 : Int32) then ((frI I L m q pu) 56 1, (frI I L m q pu), (frL I L m q pu)) else
    (((frL I L m q pu) 56 2).toInt32, (frI I L m q pu), (frL I L m q pu))) else
  ((-1 : Int32), I, L)

set_option maxRecDepth 20000 in
theorem c_xFree (tl : List (Nat × Nat)) (I : Nat → Nat → Int32) (L : Nat → Nat → Int64) (rd : Nat → Nat → Option Nat) (xa xl N : Nat → Nat) (n m q : Nat) (pu : Int32) (w : Int32) (hm : I 16 0 = nI m) (hb : m ≤ 40) (hq : I 2 0 = nI q) (hqb : q ≤ 12) (hn : I 1 3 = nI n) (hn4 : n ≤ 4) (hA : AO tl rd n xa xl N) (hC : AC I n xa N) (hcr : ∀ d, d < m → 0 ≤ (I 18 d).toInt ∧ (I 18 d).toInt < 12) (hdr : ∀ d, d < m → 0 ≤ (I 17 d).toInt ∧ (I 17 d).toInt < 12) : Call 140 [.ref 0, .int pu, .int w] (mk tl I L rd) (some (.int ((xFree I L xa xl n m q pu w).1))) (mk tl ((xFree I L xa xl n m q pu w).2.1) ((xFree I L xa xl n m q pu w).2.2) rd) := by
  show Runs 140 0 [some (.ref 0), some (.int pu), some (.int w)] [] (mk tl I L rd) (some (.int ((xFree I L xa xl n m q pu w).1))) (mk tl ((xFree I L xa xl n m q pu w).2.1) ((xFree I L xa xl n m q pu w).2.2) rd)
  refine Runs.bl 3 (g := true) (i' := 3) (ls' := [some (.ref 0), some (.int pu), some (.int w)]) (st' := [.int (1000000 : Int32), .int (0 : Int32), .int pu]) (M' := mk tl I L rd) rfl rfl ?_
  refine Runs.call (k' := 147) (as := [.int pu, .int (0 : Int32), .int (1000000 : Int32)]) (rest := []) (r1 := some (.int (outside I pu (0 : Int32) (1000000 : Int32)))) (M1 := mk tl I L rd) rfl rfl rfl (c_outside tl I L rd pu (0 : Int32) (1000000 : Int32) ) ?_
  refine Runs.bl 1 (g := true) (i' := if decide (¬ (outside I pu (0 : Int32) (1000000 : Int32)) = 0) = true then 10 else 5) (ls' := [some (.ref 0), some (.int pu), some (.int w)]) (st' := []) (M' := mk tl I L rd) rfl rfl ?_
  refine Runs.brP (fun h1 => ?_) (fun h1 => ?_)
  · skip
    refine Runs.bl 1 (g := true) (i' := 11) (ls' := [some (.ref 0), some (.int pu), some (.int w)]) (st' := [.int (-1 : Int32)]) (M' := mk tl I L rd) rfl rfl ?_
    exact Runs.ri rfl rfl (by rw [xFree, if_pos h1] <;> rfl) (by rw [xFree, if_pos h1] <;> rfl)
  · skip
    refine Runs.bl 3 (g := true) (i' := 8) (ls' := [some (.ref 0), some (.int pu), some (.int w)]) (st' := [.int (2 : Int32), .int (0 : Int32), .int w]) (M' := mk tl I L rd) rfl rfl ?_
    refine Runs.call (k' := 147) (as := [.int w, .int (0 : Int32), .int (2 : Int32)]) (rest := []) (r1 := some (.int (outside I w (0 : Int32) (2 : Int32)))) (M1 := mk tl I L rd) rfl rfl rfl (c_outside tl I L rd w (0 : Int32) (2 : Int32) ) ?_
    refine Runs.bl 1 (g := true) (i' := if decide ((outside I w (0 : Int32) (2 : Int32)) = 0) = true then 12 else 10) (ls' := [some (.ref 0), some (.int pu), some (.int w)]) (st' := []) (M' := mk tl I L rd) rfl rfl ?_
    refine Runs.brP (fun h2 => ?_) (fun h2 => ?_)
    · skip
      refine Runs.bl 5 (g := true) (i' := 17) (ls' := [some (.ref 0), some (.int pu), some (.int w)]) (st' := [.int pu, .ref 1, .ref 56]) (M' := mk tl I L rd) rfl rfl ?_
      refine Runs.call (k' := 19) (as := [.ref 56, .ref 1, .int pu]) (rest := []) (r1 := none) (M1 := mk tl (frI I L m q pu) (frL I L m q pu) rd) rfl rfl rfl (c_ff tl I L rd m q pu hm hb hq hqb) ?_
      refine Runs.bl 2 (g := true) (i' := swL [(0, 20), (1, 24)] 28 w.toInt) (ls' := [some (.ref 0), some (.int pu), some (.int w)]) (st' := []) (M' := mk tl (frI I L m q pu) (frL I L m q pu) rd) rfl rfl ?_
      by_cases h3 : w = (0 : Int32)
      · refine Runs.sw (c := 20) (by rw [h3]; decide) ?_
        refine Runs.bl 3 (g := true) (i' := 23) (ls' := [some (.ref 0), some (.int pu), some (.int w)]) (st' := [.int ((frI I L m q pu) 56 0)]) (M' := mk tl (frI I L m q pu) (frL I L m q pu) rd) rfl rfl ?_
        exact Runs.ri rfl rfl (by rw [xFree, if_neg h1, if_pos h2, if_pos h3] <;> rfl) (by rw [xFree, if_neg h1, if_pos h2, if_pos h3] <;> rfl)
      by_cases h4 : w = (1 : Int32)
      · refine Runs.sw (c := 24) (by rw [h4]; decide) ?_
        refine Runs.bl 3 (g := true) (i' := 27) (ls' := [some (.ref 0), some (.int pu), some (.int w)]) (st' := [.int ((frI I L m q pu) 56 1)]) (M' := mk tl (frI I L m q pu) (frL I L m q pu) rd) rfl rfl ?_
        exact Runs.ri rfl rfl (by rw [xFree, if_neg h1, if_pos h2, if_neg h3, if_pos h4] <;> rfl) (by rw [xFree, if_neg h1, if_pos h2, if_neg h3, if_pos h4] <;> rfl)
      refine Runs.sw (c := 28) (by unfold swL; rw [Op.lookupswitch.offset_cons, if_neg (swn h3 (c := 0) (by decide)), Op.lookupswitch.offset_cons, if_neg (swn h4 (c := 1) (by decide))]; rfl) ?_
      refine Runs.bl 4 (g := true) (i' := 32) (ls' := [some (.ref 0), some (.int pu), some (.int w)]) (st' := [.int (((frL I L m q pu) 56 2).toInt32)]) (M' := mk tl (frI I L m q pu) (frL I L m q pu) rd) rfl rfl ?_
      exact Runs.ri rfl rfl (by rw [xFree, if_neg h1, if_pos h2, if_neg h3, if_neg h4] <;> rfl) (by rw [xFree, if_neg h1, if_pos h2, if_neg h3, if_neg h4] <;> rfl)
    · skip
      refine Runs.bl 1 (g := true) (i' := 11) (ls' := [some (.ref 0), some (.int pu), some (.int w)]) (st' := [.int (-1 : Int32)]) (M' := mk tl I L rd) rfl rfl ?_
      exact Runs.ri rfl rfl (by rw [xFree, if_neg h1, if_neg h2] <;> rfl) (by rw [xFree, if_neg h1, if_neg h2] <;> rfl)

