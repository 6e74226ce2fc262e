/-! THE CLASS: a fault stays; lines are few without one (printed by p81.py) -/
theorem one_nz : ¬ (1 : Int32) = 0 := by decide
theorem nz1 {g : Int32} (h : ¬ g = 0) : ¬ (if g = 1 then g else 1) = 0 := by
  split
  · exact h
  · decide
theorem nz2 {g : Int32} (h : ¬ g = 0) (w : Int32) : ¬ (if g = 0 then w else g) = 0 := by rw [if_neg h]; exact h

theorem tsg_nz (I : Nat → Nat → Int32) {g0 : Int32} (g1 g2 : Int32) (r4 : Nat → Int32) (g6 g7 g8 g9 : Int32) (x : Int32) (h : ¬ g0 = 0) : ¬ (tsg I g0 g1 g2 r4 g6 g7 g8 g9 x).1 = 0 := by
  unfold tsg
  repeat' split
  all_goals (try dsimp only)
  all_goals first | with_reducible exact h | with_reducible exact one_nz | with_reducible exact nz1 h | with_reducible exact nz2 h _

theorem rto_44_nz (I : Nat → Nat → Int32) {g0 : Int32} (g1 g2 : Int32) (r4 : Nat → Int32) (g6 g7 g8 g9 : Int32) (y : Int32) (h : ¬ g0 = 0) : ¬ (rto_44 I g0 g1 g2 r4 g6 g7 g8 g9 y).2.1 = 0 := by
  unfold rto_44
  repeat' split
  all_goals (try dsimp only)
  all_goals first | with_reducible exact h | with_reducible exact one_nz | with_reducible exact nz1 h | with_reducible exact nz2 h _

theorem rto_22_nz (I : Nat → Nat → Int32) {g0 : Int32} (g1 g2 : Int32) (r4 : Nat → Int32) (g6 g7 g8 g9 : Int32) (x : Int32) (y : Int32) (h : ¬ g0 = 0) : ¬ (rto_22 I g0 g1 g2 r4 g6 g7 g8 g9 x y).2.1 = 0 := by
  unfold rto_22
  repeat' split
  all_goals (try dsimp only)
  all_goals first | with_reducible exact h | with_reducible exact one_nz | with_reducible exact nz1 h | with_reducible exact nz2 h _ | with_reducible exact rto_44_nz _ _ _ _ _ _ _ _ _ h | with_reducible exact rto_44_nz _ _ _ _ _ _ _ _ _ (nz2 h _)

theorem rto_15_nz (I : Nat → Nat → Int32) {g0 : Int32} (g1 g2 : Int32) (r4 : Nat → Int32) (g6 g7 g8 g9 : Int32) (x : Int32) (y : Int32) (h : ¬ g0 = 0) : ¬ (rto_15 I g0 g1 g2 r4 g6 g7 g8 g9 x y).2.1 = 0 := by
  unfold rto_15
  repeat' split
  all_goals (try dsimp only)
  all_goals first | with_reducible exact h | with_reducible exact one_nz | with_reducible exact nz1 h | with_reducible exact nz2 h _ | with_reducible exact rto_22_nz _ _ _ _ _ _ _ _ _ _ h

theorem rto_nz (I : Nat → Nat → Int32) {g0 : Int32} (g1 g2 : Int32) (r4 : Nat → Int32) (g6 g7 g8 g9 : Int32) (x : Int32) (h : ¬ g0 = 0) : ¬ (rto I g0 g1 g2 r4 g6 g7 g8 g9 x).2.1 = 0 := by
  unfold rto
  repeat' split
  all_goals (try dsimp only)
  all_goals first | with_reducible exact h | with_reducible exact one_nz | with_reducible exact nz1 h | with_reducible exact nz2 h _ | with_reducible exact rto_15_nz _ _ _ _ _ _ _ _ _ _ h

theorem rte_47_nz (I : Nat → Nat → Int32) {g0 : Int32} (g1 g2 : Int32) (r4 : Nat → Int32) (g6 g7 g8 g9 : Int32) (t : Int32) (x : Int32) (y : Int32) (z : Int32) (h : ¬ g0 = 0) : ¬ (rte_47 I g0 g1 g2 r4 g6 g7 g8 g9 t x y z).1 = 0 := by
  unfold rte_47
  repeat' split
  all_goals (try dsimp only)
  all_goals first | with_reducible exact h | with_reducible exact one_nz | with_reducible exact nz1 h | with_reducible exact nz2 h _

theorem rte_33_nz (I : Nat → Nat → Int32) {g0 : Int32} (g1 g2 : Int32) (r4 : Nat → Int32) (g6 g7 g8 g9 : Int32) (t : Int32) (x : Int32) (y : Int32) (z : Int32) (h : ¬ g0 = 0) : ¬ (rte_33 I g0 g1 g2 r4 g6 g7 g8 g9 t x y z).1 = 0 := by
  unfold rte_33
  repeat' split
  all_goals (try dsimp only)
  all_goals first | with_reducible exact h | with_reducible exact one_nz | with_reducible exact nz1 h | with_reducible exact nz2 h _ | with_reducible exact rte_47_nz _ _ _ _ _ _ _ _ _ _ _ _ h

theorem rte_24_nz (I : Nat → Nat → Int32) {g0 : Int32} (g1 g2 : Int32) (r4 : Nat → Int32) (g6 g7 g8 g9 : Int32) (t : Int32) (x : Int32) (y : Int32) (h : ¬ g0 = 0) : ¬ (rte_24 I g0 g1 g2 r4 g6 g7 g8 g9 t x y).1 = 0 := by
  unfold rte_24
  repeat' split
  all_goals (try dsimp only)
  all_goals first | with_reducible exact h | with_reducible exact one_nz | with_reducible exact nz1 h | with_reducible exact nz2 h _ | with_reducible exact rte_33_nz _ _ _ _ _ _ _ _ _ _ _ _ h

theorem rte_12_nz (I : Nat → Nat → Int32) {g0 : Int32} (g1 g2 : Int32) (r4 : Nat → Int32) (g6 g7 g8 g9 : Int32) (t : Int32) (x : Int32) (h : ¬ g0 = 0) : ¬ (rte_12 I g0 g1 g2 r4 g6 g7 g8 g9 t x).1 = 0 := by
  unfold rte_12
  repeat' split
  all_goals (try dsimp only)
  all_goals first | with_reducible exact h | with_reducible exact one_nz | with_reducible exact nz1 h | with_reducible exact nz2 h _ | with_reducible exact rte_24_nz _ _ _ _ _ _ _ _ _ _ _ h

theorem rte_nz (I : Nat → Nat → Int32) {g0 : Int32} (g1 g2 : Int32) (r4 : Nat → Int32) (g6 g7 g8 g9 : Int32) (t : Int32) (h : ¬ g0 = 0) : ¬ (rte I g0 g1 g2 r4 g6 g7 g8 g9 t).1 = 0 := by
  unfold rte
  repeat' split
  all_goals (try dsimp only)
  all_goals first | with_reducible exact h | with_reducible exact one_nz | with_reducible exact nz1 h | with_reducible exact nz2 h _ | with_reducible exact rte_12_nz _ _ _ _ _ _ _ _ _ _ h

theorem rts_nz (I : Nat → Nat → Int32) : ∀ f j s, ¬ s.1 = 0 → ¬ (rts I f j s).2.1 = 0 := by
  intro f
  induction f with
  | zero => intro j s h; exact h
  | succ f ih =>
    intro j s h
    rw [rts]
    repeat' split
    all_goals first | with_reducible exact h | with_reducible exact ih _ _ (rte_nz _ _ _ _ _ _ _ _ _ h) | with_reducible exact ih _ _ (rte_nz _ _ _ _ _ _ _ _ _ (nz2 h _))

theorem rdl_32_nz (I : Nat → Nat → Int32) {g0 : Int32} (g1 g2 : Int32) (r4 : Nat → Int32) (g6 g7 g8 g9 : Int32) (x : Int32) (y : Int32) (z : Int32) (h : ¬ g0 = 0) : ¬ (rdl_32 I g0 g1 g2 r4 g6 g7 g8 g9 x y z).1 = 0 := by
  unfold rdl_32
  repeat' split
  all_goals (try dsimp only)
  all_goals first | with_reducible exact h | with_reducible exact one_nz | with_reducible exact nz1 h | with_reducible exact nz2 h _

theorem rdl_29_nz (I : Nat → Nat → Int32) {g0 : Int32} (g1 g2 : Int32) (r4 : Nat → Int32) (g6 g7 g8 g9 : Int32) (x : Int32) (y : Int32) (z : Int32) (h : ¬ g0 = 0) : ¬ (rdl_29 I g0 g1 g2 r4 g6 g7 g8 g9 x y z).1 = 0 := by
  unfold rdl_29
  repeat' split
  all_goals (try dsimp only)
  all_goals first | with_reducible exact h | with_reducible exact one_nz | with_reducible exact nz1 h | with_reducible exact nz2 h _ | with_reducible exact rdl_32_nz _ _ _ _ _ _ _ _ _ _ _ (tsg_nz _ _ _ _ _ _ _ _ _ h)

theorem rdl_25_nz (I : Nat → Nat → Int32) {g0 : Int32} (g1 g2 : Int32) (r4 : Nat → Int32) (g6 g7 g8 g9 : Int32) (x : Int32) (y : Int32) (h : ¬ g0 = 0) : ¬ (rdl_25 I g0 g1 g2 r4 g6 g7 g8 g9 x y).1 = 0 := by
  unfold rdl_25
  repeat' split
  all_goals (try dsimp only)
  all_goals first | with_reducible exact h | with_reducible exact one_nz | with_reducible exact nz1 h | with_reducible exact nz2 h _ | with_reducible exact rdl_29_nz _ _ _ _ _ _ _ _ _ _ _ (rto_nz _ _ _ _ _ _ _ _ _ h)

theorem rdl_22_nz (I : Nat → Nat → Int32) {g0 : Int32} (g1 g2 : Int32) (r4 : Nat → Int32) (g6 g7 g8 g9 : Int32) (x : Int32) (y : Int32) (h : ¬ g0 = 0) : ¬ (rdl_22 I g0 g1 g2 r4 g6 g7 g8 g9 x y).1 = 0 := by
  unfold rdl_22
  repeat' split
  all_goals (try dsimp only)
  all_goals first | with_reducible exact h | with_reducible exact one_nz | with_reducible exact nz1 h | with_reducible exact nz2 h _ | with_reducible exact rdl_25_nz _ _ _ _ _ _ _ _ _ _ (tsg_nz _ _ _ _ _ _ _ _ _ h)

theorem rdl_19_nz (I : Nat → Nat → Int32) {g0 : Int32} (g1 g2 : Int32) (r4 : Nat → Int32) (g6 g7 g8 g9 : Int32) (x : Int32) (h : ¬ g0 = 0) : ¬ (rdl_19 I g0 g1 g2 r4 g6 g7 g8 g9 x).1 = 0 := by
  unfold rdl_19
  repeat' split
  all_goals (try dsimp only)
  all_goals first | with_reducible exact h | with_reducible exact one_nz | with_reducible exact nz1 h | with_reducible exact nz2 h _ | with_reducible exact rdl_22_nz _ _ _ _ _ _ _ _ _ _ (rts_nz I 600 0 _ h)

theorem rdl_17_nz (I : Nat → Nat → Int32) {g0 : Int32} (g1 g2 : Int32) (r4 : Nat → Int32) (g6 g7 g8 g9 : Int32) (x : Int32) (h : ¬ g0 = 0) : ¬ (rdl_17 I g0 g1 g2 r4 g6 g7 g8 g9 x).1 = 0 := by
  unfold rdl_17
  repeat' split
  all_goals (try dsimp only)
  all_goals first | with_reducible exact h | with_reducible exact one_nz | with_reducible exact nz1 h | with_reducible exact nz2 h _ | with_reducible exact rdl_19_nz _ _ _ _ _ _ _ _ _ h

theorem rdl_nz (I : Nat → Nat → Int32) {g0 : Int32} (g1 g2 : Int32) (r4 : Nat → Int32) (g6 g7 g8 g9 : Int32) (h : ¬ g0 = 0) : ¬ (rdl I g0 g1 g2 r4 g6 g7 g8 g9).1 = 0 := by
  unfold rdl
  repeat' split
  all_goals (try dsimp only)
  all_goals first | with_reducible exact h | with_reducible exact one_nz | with_reducible exact nz1 h | with_reducible exact nz2 h _ | with_reducible exact rdl_17_nz _ _ _ _ _ _ _ _ _ h | with_reducible exact rdl_17_nz _ _ _ _ _ _ _ _ _ (nz2 h _)

theorem rdl_20 (I : Nat → Nat → Int32) {g0 : Int32} (g1 g2 : Int32) (r4 : Nat → Int32) (g6 g7 g8 g9 : Int32) (h : (rdl I g0 g1 g2 r4 g6 g7 g8 g9).1 = 0) : ¬ (20 : Int32) ≤ g2 ∨ (rdl I g0 g1 g2 r4 g6 g7 g8 g9).2.2.1 = g2 := by
  refine Decidable.or_iff_not_imp_left.mpr (fun h2 => ?_)
  have h2 := Decidable.not_not.mp h2
  unfold rdl at h ⊢
  have h3 : ¬ g2 < (20 : Int32) := by rw [Int32.lt_iff_toInt_lt]; rw [Int32.le_iff_toInt_le] at h2; omega
  have key : ∀ v w, ¬ v = 0 → ¬ (rdl_17 I v w g2 r4 g6 g7 g8 g9 (wI0 (I 34) g6 g7 g8)).1 = 0 := fun v w hv => rdl_17_nz _ _ _ _ _ _ _ _ _ hv
  split
  · rename_i h4
    rw [if_pos h4, if_neg h3] at h
    exact absurd h (key _ _ (by by_cases e : g0 = 0; (rw [if_pos e]; decide); (rw [if_neg e]; exact e)))
  · rfl
theorem rdF_20 (I : Nat → Nat → Int32) (hl : 0 ≤ (I 39 5).toInt ∧ (I 39 5).toInt ≤ 600) : ∀ f j s, j + f = 600 → RJ (I 39 5) s.2.2.2.2.2.1 s.2.2.2.2.2.2.1 s.2.2.1 j → (s.1 = 0 → s.2.2.1.toInt ≤ 20) → RJ (I 39 5) (rdF I f j s).2.2.2.2.2.1 (rdF I f j s).2.2.2.2.2.2.1 (rdF I f j s).2.2.1 600 ∧ ((rdF I f j s).1 = 0 → (rdF I f j s).2.2.1.toInt ≤ 20) := by
  have wk : ∀ s : S8, ∀ j, j ≤ 600 → RJ (I 39 5) s.2.2.2.2.2.1 s.2.2.2.2.2.2.1 s.2.2.1 j → RJ (I 39 5) s.2.2.2.2.2.1 s.2.2.2.2.2.2.1 s.2.2.1 600 := fun s j hj h => ⟨h.1, h.2.1, h.2.2.1, h.2.2.2.1, by have := h.2.2.2.2; omega⟩
  intro f
  induction f with
  | zero => intro j s hj hr h; exact ⟨wk s j (by omega) hr, h⟩
  | succ f ih =>
    intro j s hj hr h
    rw [rdF]
    repeat' split
    · exact ⟨wk s j (by omega) hr, h⟩
    · exact ⟨wk s j (by omega) hr, h⟩
    · have hg := hr.g (show j < 600 by omega)
      have hh := rdl_rh (g0 := s.1) (g1 := s.2.1) (r4 := s.2.2.2.1) (g6 := s.2.2.2.2.1) (g9 := s.2.2.2.2.2.2.2) hl hg
      refine ih (j + 1) _ (by omega) (RH.j hh hr.2.2.2.2) (fun e => ?_)
      have e0 : s.1 = 0 := Decidable.byContradiction (fun n0 => rdl_nz _ _ _ _ _ _ _ _ n0 e)
      rcases rdl_20 I _ _ _ _ _ _ _ e with h2 | h2
      · have h3 := hh.2.2.2.2
        rw [Int32.le_iff_toInt_le, toI_20] at h2
        omega
      · rw [h2]; exact h e0

theorem rdS_20 (I : Nat → Nat → Int32) {x : Int32} (hx : 0 ≤ x.toInt ∧ x.toInt ≤ 600) (h : (rdS I x).1 = 0) : ∃ c, c ≤ 20 ∧ (rdS I x).2.2.1 = nI c := by
  have hr0 := stp_rng (T := I 34) (len := x) (bh := 0) (va := I 39 9) hx (by rw [toI_0]; omega)
  obtain ⟨h1, h2⟩ := rdF_20 (up2 I 39 5 x) hx 600 0 ((0 : Int32), (-1 : Int32), (0 : Int32), I 40, (stp (I 34) x 0 (I 39 9)).1, (stp (I 34) x 0 (I 39 9)).2.1, (stp (I 34) x 0 (I 39 9)).2.2.1, (stp (I 34) x 0 (I 39 9)).2.2.2) (Nat.zero_add _) ⟨hr0.1, hr0.2.1, hr0.2.2, (show 0 ≤ (0 : Int32).toInt by decide), (show (0 : Int32).toInt ≤ ((0 : Nat) : Int) by decide)⟩ (fun _ => show (0 : Int32).toInt ≤ 20 by decide)
  have h3 := h2 h
  have h4 := h1.2.2.2.1
  obtain ⟨c, hc, e⟩ := rng_nI (x := (rdS I x).2.2.1) (N := 21) ⟨h4, by show (rdS I x).2.2.1.toInt < 21; have : (rdS I x).2.2.1.toInt ≤ 20 := h3; omega⟩
  exact ⟨c, by omega, e⟩

