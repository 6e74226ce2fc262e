def liveP (I : Nat → Nat → Int32) (d : Int32) : Prop := ¬ d < 0 ∧ ¬ I 16 0 ≤ d ∧ ¬ 40 ≤ d ∧ I 24 d.toNatClampNeg = 0
theorem c_isLive (tl : List (Nat × Nat)) (I : Nat → Nat → Int32) (L : Nat → Nat → Int64) (rd : Nat → Nat → Option Nat) (d r : Int32) (hr : (liveP I d → r = 1) ∧ (¬ liveP I d → r = 0)) : Call 7 [.ref 16, .int d] (mk tl I L rd) (some (.int r)) (mk tl I L rd) := by
  have no : ¬ liveP I d → Runs 7 16 [some (.ref 16), some (.int d)] [] (mk tl I L rd) (some (.int r)) (mk tl I L rd) := by
    intro h
    refine Runs.bl 1 (g := true) (i' := 17) (ls' := [some (.ref 16), some (.int d)]) (st' := [.int 0]) (M' := mk tl I L rd) rfl rfl ?_
    exact Runs.re rfl rfl (by rw [hr.2 h]) rfl
  refine Runs.bl 2 (g := true) (i' := if decide (d < 0) = true then 16 else 2) (ls' := [some (.ref 16), some (.int d)]) (st' := []) (M' := mk tl I L rd) rfl rfl (Runs.brP (fun h1 => no (fun z => z.1 h1)) (fun h1 => ?_))
  refine Runs.bl 4 (g := true) (i' := if decide (I 16 0 ≤ d) = true then 16 else 6) (ls' := [some (.ref 16), some (.int d)]) (st' := []) (M' := mk tl I L rd) rfl rfl (Runs.brP (fun h2 => no (fun z => z.2.1 h2)) (fun h2 => ?_))
  refine Runs.bl 3 (g := true) (i' := if decide (40 ≤ d) = true then 16 else 9) (ls' := [some (.ref 16), some (.int d)]) (st' := []) (M' := mk tl I L rd) rfl rfl (Runs.brP (fun h3 => no (fun z => z.2.2.1 h3)) (fun h3 => ?_))
  refine Runs.bl 5 (g := inb d 40 && true) (i' := if decide (¬ I 24 d.toNatClampNeg = 0) = true then 16 else 14) (ls' := [some (.ref 16), some (.int d)]) (st' := []) (M' := mk tl I L rd) rfl ?_ (Runs.brP (fun h4 => no (fun z => h4 z.2.2.2)) (fun h4 => ?_))
  · sorry
  refine Runs.bl 2 (g := true) (i' := 17) (ls' := [some (.ref 16), some (.int d)]) (st' := [.int 1]) (M' := mk tl I L rd) rfl rfl ?_
  exact Runs.re rfl rfl (by rw [hr.1 ⟨h1, h2, h3, Decidable.not_not.mp h4⟩]) rfl
