/-! day -/
theorem AR.fr {n : Nat} {xa xl N : Nat → Nat} {X Y X' Y' : Nat → Nat → Int32} (h : AR n xa xl N X Y) (hB : XB n xa xl) (hx : FX X X') (hy : FY Y Y') : AR n xa xl N X' Y' := by
  intro a ha
  have w := h a ha
  have b := hB a ha
  rw [hx (xa a) (by omega), hx (xl a) (by omega), hy.1 105 (by omega), hy.1 106 (by omega), hy.1 107 (by omega), hy.1 108 (by omega), hy.1 109 (by omega), hy.1 110 (by omega), hy.1 111 (by omega), hy.1 112 (by omega), hy.1 113 (by omega)]
  exact w
section
variable {c q m n D H B l h : Nat} {X Y : Nat → Nat → Int32} {xa xl N : Nat → Nat}
theorem St.dayT (z : St c q m n D H B l h X Y) (L L' : Nat → Nat → Int64) : St c q m n D H B l h (xDayT X L q) (yDayT Y L' q) ∧ FX X (xDayT X L q) ∧ FY Y (yDayT Y L' q) := by
  have h12 := z.hq.2.1
  unfold xDayT yDayT
  rw [← z.turn L L' q (Nat.le_refl _)]
  by_cases a : turn_it X L q = -1
  · rw [if_pos a, if_pos a]; exact ⟨z.c61 0 0, FX.rfl, FY.rfl.u2 n61 0⟩
  · rw [if_neg a, if_neg a]
    obtain ⟨j, hj, e⟩ := (turn_rn2 X L q h12).resolve_left a
    rw [e, nI_clamp (by omega)]
    obtain ⟨e70, e71, e72, e73, e74, e75, e76, e77, e78, bb⟩ := z.2.1
    rw [e78 j hj]
    exact ⟨⟨z.1, ⟨e70, e71, e72, e73, e74, e75, e76, e77, e78.up j _, bb⟩, z.2.2⟩, FX.rfl.u2 (by decide) _ _, (FY.rfl.u2 n61 0).u2 (nwr (N := 12) (by decide) rfl (by omega)) _⟩
/-- the nights' end, over the rows -/
theorem St.night (z : St c q m n D H B l h X Y) (hA : AR n xa xl N X Y) (hB : XB n xa xl) (hc : c ≤ 512) (L L' : Nat → Nat → Int64) : St (c + 1) q m n (D + 1) 0 B l h (xDay0 X L xa xl n m q) (yDay2 (yDay1 Y L' q) L' n m q) ∧ FX X (xDay0 X L xa xl n m q) ∧ FY Y (yDay2 (yDay1 Y L' q) L' n m q) := by
  have h12 := z.hq.2.1
  obtain ⟨h1, h2, h3, h4, h5, h6, h7, h8, h9, h10, h11, hD, h13, h14, g1, g2, g3, g4, g5, g6, g7, g8, g9, g10, g11⟩ := z.1
  have dx := day_rows (X := X) (m := m) L hB z.hq.1 h12 q (Nat.le_refl _)
  have dy := y1_rows (Y := Y) L' q h12
  have d2 := y2_rows (Y := yDay1 Y L' q) (n := n) (m := m) L' q h12
  have hT : ∀ j, j < q → nowT X L xa xl n m (nI j) 2 = tlNow Y L' n m (nI j) 2 := fun j hj => z.tells hA hB L L' hj (k := 2) (by decide)
  have rg : ∀ j, 0 ≤ (nowT X L xa xl n m (nI j) 2).toInt ∧ (nowT X L xa xl n m (nI j) 2).toInt ≤ 99999 := fun j => ⟨(z.tell_rg hA hB L (nI j) (k := 2) (by decide)).1, (z.tell_rg hA hB L (nI j) (k := 2) (by decide)).2.1⟩
  have h1p : ∀ j, j < q → ¬ (yDay1 Y L' q) 72 j = 0 → tlNow (yDay1 Y L' q) L' n m (nI j) 2 = tlNow Y L' n m (nI j) 2 := by
    intro j hj hne
    have w := dy j
    have w72 : (yDay1 Y L' q) 72 j = if j < q ∧ ¬ Y 72 j = 0 ∧ ¬ Y 76 j = 0 then 0 else Y 72 j := w.1
    have np : ¬ (j < q ∧ ¬ Y 72 j = 0 ∧ ¬ Y 76 j = 0) := fun y => hne (by rw [w72, if_pos y])
    exact tlNow_pt L' _ _ _ _ _ _ _ (by omega) (w.1.trans (if_neg np)) (w.2.1.trans (if_neg np)) (w.2.2.1.trans (if_neg np)) 2
  obtain ⟨e70, e71, e72, e73, e74, e75, e76, e77, e78, e79, e80, e81, e82, e83, b3, b5, b7, b8, b13, b14, b15⟩ := z.2.1
  obtain ⟨f87, f88, f89, f90, f91, f92, f93, f94, f95, f96, f97, f98, f99, f100, f101, r1, r2, r3, r4, r5⟩ := z.2.2.1.nx
  have e75' : Rw q (y2_it (yDay1 Y L' q) L' n m q).1 (day_it X L xa xl n m q).2.2.1 := by
    intro j hj
    have w := dx j hj
    have v := dy j
    have v72 : (yDay1 Y L' q) 72 j = if j < q ∧ ¬ Y 72 j = 0 ∧ ¬ Y 76 j = 0 then 0 else Y 72 j := v.1
    have v75 : (yDay1 Y L' q) 75 j = if j < q ∧ ¬ Y 72 j = 0 ∧ ¬ Y 76 j = 0 then 0 else Y 75 j := v.2.2.2.1
    rw [d2 j, w.2.2.1]
    by_cases a : X 5 j = -1
    · have y0 : Y 72 j = 0 := by rw [e72 j hj, if_pos a]
      rw [if_neg (fun y => y.2 (by rw [v72, if_neg (fun u => u.2.1 y0), y0])), if_neg (fun y => y.2 a), v75, if_neg (fun u => u.2.1 y0)]
      exact e75 j hj
    · have y0 : ¬ Y 72 j = 0 := by rw [e72 j hj, if_neg a]; exact one_nz
      rw [if_pos (show j < q ∧ ¬ X 5 j = -1 from ⟨hj, a⟩)]
      by_cases b : X 8 j = 0
      · have nn : ¬ (j < q ∧ ¬ Y 72 j = 0 ∧ ¬ Y 76 j = 0) := fun u => u.2.2 (by rw [e76 j hj]; exact b)
        have hne : ¬ (yDay1 Y L' q) 72 j = 0 := by rw [v72, if_neg nn]; exact y0
        rw [if_pos b, if_pos (show j < q ∧ ¬ (yDay1 Y L' q) 72 j = 0 from ⟨hj, hne⟩), h1p j hj hne, v75, if_neg nn, ← hT j hj, e75 j hj]
      · have pp : j < q ∧ ¬ Y 72 j = 0 ∧ ¬ Y 76 j = 0 := ⟨hj, y0, by rw [e76 j hj]; exact b⟩
        rw [if_neg b, if_neg (fun y => y.2 (by rw [v72, if_pos pp])), v75, if_pos pp]
  have i2 : ∀ j, j < q → ((j < q ∧ ¬ Y 72 j = 0 ∧ ¬ Y 76 j = 0) ↔ (j < q ∧ ¬ X 5 j = -1 ∧ ¬ X 8 j = 0)) := by
    intro j hj
    rw [e72 j hj, e76 j hj]
    by_cases a : X 5 j = -1
    · rw [if_pos a]; exact ⟨fun y => absurd rfl y.2.1, fun y => absurd a y.2.1⟩
    · rw [if_neg a]; exact ⟨fun y => ⟨hj, a, y.2.2⟩, fun y => ⟨hj, one_nz, y.2.2⟩⟩
  refine ⟨⟨⟨h1, h2, h3, ?_, rfl, h6, h7, h8, h9, h10, h11, by omega, by omega, h14, g1, g2, g3, ?_, rfl, g6, g7, g8, g9, g10, g11⟩, ⟨e70, e71, ?_, ?_, ?_, e75', ?_, e77, e78, ?_, ?_, e81, e82, e83, b3.le, ?_, ?_, ?_, b13, b14, b15⟩, ⟨f87, f88, f89, f90, f91, f92, f93, f94, f95, f96, f97, f98, f99, f100, f101, r1, r2, r3, r4.le (by omega), r5⟩, z.2.2.2⟩, ?_, ?_⟩
  · show X 1 4 + 1 = nI (D + 1)
    rw [h4, nI_1]
  · show Y 66 0 + 1 = nI (D + 1)
    rw [g4, nI_1]
  · intro j hj
    show (y1_it Y L' q).1 j = if (day_it X L xa xl n m q).1 j = -1 then 0 else 1
    rw [(dy j).1, (dx j hj).1]
    simp only [i2 j hj]
    by_cases p : j < q ∧ ¬ X 5 j = -1 ∧ ¬ X 8 j = 0
    · rw [if_pos p, if_pos p, if_pos rfl]
    · rw [if_neg p, if_neg p]; exact e72 j hj
  · intro j hj
    show (y1_it Y L' q).2.1 j = (day_it X L xa xl n m q).1 j
    rw [(dy j).2.1, (dx j hj).1]
    simp only [i2 j hj]
    by_cases p : j < q ∧ ¬ X 5 j = -1 ∧ ¬ X 8 j = 0
    · rw [if_pos p, if_pos p]
    · rw [if_neg p, if_neg p]; exact e73 j hj
  · intro j hj
    show (y1_it Y L' q).2.2.1 j = if (day_it X L xa xl n m q).1 j = -1 then -1 else (day_it X L xa xl n m q).2.1 j
    rw [(dy j).2.2.1, (dx j hj).1, (dx j hj).2.1]
    simp only [i2 j hj]
    by_cases p : j < q ∧ ¬ X 5 j = -1 ∧ ¬ X 8 j = 0
    · rw [if_pos p, if_pos p, if_pos rfl]
    · rw [if_neg p, if_neg p, if_neg p]; exact e74 j hj
  · intro j hj
    show (y1_it Y L' q).2.2.2.2.1 j = (day_it X L xa xl n m q).2.2.2.1 j
    rw [(dy j).2.2.2.2.1, (dx j hj).2.2.2.1]
    simp only [i2 j hj]
    by_cases p : j < q ∧ ¬ X 5 j = -1 ∧ ¬ X 8 j = 0
    · rw [if_pos p, if_pos p]
    · rw [if_neg p, if_neg p]; exact e76 j hj
  · intro j hj
    show (y1_it Y L' q).2.2.2.2.2.2 j = (day_it X L xa xl n m q).2.2.2.2.2.1 j
    rw [(dy j).2.2.2.2.2.2, (dx j hj).2.2.2.2.2]
    simp only [i2 j hj]
    by_cases p : j < q ∧ ¬ X 5 j = -1 ∧ ¬ X 8 j = 0
    · rw [if_pos p, if_pos p, e79 j hj]
    · rw [if_neg p, if_neg p]; exact e79 j hj
  · intro j hj
    show (y1_it Y L' q).2.2.2.2.2.1 j = (day_it X L xa xl n m q).2.2.2.2.1 j
    rw [(dy j).2.2.2.2.2.1, (dx j hj).2.2.2.2.1]
    simp only [i2 j hj]
    by_cases p : j < q ∧ ¬ X 5 j = -1 ∧ ¬ X 8 j = 0
    · rw [if_pos p, if_pos p]
    · rw [if_neg p, if_neg p]; exact e80 j hj
  · intro j hj
    show -1 ≤ ((day_it X L xa xl n m q).1 j).toInt ∧ ((day_it X L xa xl n m q).1 j).toInt ≤ ((D + 1 : Nat) : Int)
    rw [(dx j hj).1]
    have w := b5 j hj
    split
    · rw [toI_m1]; omega
    · omega
  · intro j hj
    show 0 ≤ ((day_it X L xa xl n m q).2.2.1 j).toInt ∧ ((day_it X L xa xl n m q).2.2.1 j).toInt ≤ 100000 * ((c + 1 : Nat) : Int)
    rw [(dx j hj).2.2.1]
    have w := b7 j hj
    have v := rg j
    split
    · split
      · show 0 ≤ (X 7 j + nowT X L xa xl n m (nI j) 2).toInt ∧ (X 7 j + nowT X L xa xl n m (nI j) 2).toInt ≤ 100000 * ((c + 1 : Nat) : Int)
        rw [add_toInt (by omega) (by omega)]; omega
      · rw [toI_0]; omega
    · omega
  · intro j hj
    show 0 ≤ ((day_it X L xa xl n m q).2.2.2.1 j).toInt ∧ ((day_it X L xa xl n m q).2.2.2.1 j).toInt ≤ 1
    rw [(dx j hj).2.2.2.1]
    have w := b8 j hj
    split
    · rw [toI_0]; omega
    · omega
  · exact ((((((((FX.rfl.u1 (by decide) _).u1 (by decide) _).u1 (by decide) _).u1 (by decide) _).u1 (by decide) _).u1 (by decide) _).u1 (by decide) _).u2 (by decide) _ _).u2 (by decide) _ _
  · have np : ∀ k, 12 ≤ k → ¬ (k < q ∧ ¬ Y 72 k = 0 ∧ ¬ Y 76 k = 0) := fun k hk y => by omega
    have y1f : FY Y (yDay1 Y L' q) := by
      unfold yDay1
      refine FY.u1r (b := 79) (N := 12) (FY.u1r (b := 80) (N := 12) (FY.u1r (b := 76) (N := 12) (FY.u1r (b := 75) (N := 12) (FY.u1r (b := 74) (N := 12) (FY.u1r (b := 73) (N := 12) (FY.u1r (b := 72) (N := 12) FY.rfl (by decide) rfl (fun k hk => ?_)) (by decide) rfl (fun k hk => ?_)) (by decide) rfl (fun k hk => ?_)) (by decide) rfl (fun k hk => ?_)) (by decide) rfl (fun k hk => ?_)) (by decide) rfl (fun k hk => ?_)) (by decide) rfl (fun k hk => ?_)
      · exact (dy k).1.trans (if_neg (np k hk))
      · exact (dy k).2.1.trans (if_neg (np k hk))
      · exact (dy k).2.2.1.trans (if_neg (np k hk))
      · exact (dy k).2.2.2.1.trans (if_neg (np k hk))
      · exact (dy k).2.2.2.2.1.trans (if_neg (np k hk))
      · exact (dy k).2.2.2.2.2.1.trans (if_neg (np k hk))
      · exact (dy k).2.2.2.2.2.2.trans (if_neg (np k hk))
    unfold yDay2
    exact (((FY.u1r (b := 75) (N := 12) y1f (by decide) rfl (fun k hk => (d2 k).trans (if_neg (fun y => by omega)))).u121 _).u2 (nwr (N := 1) (by decide) rfl (by omega)) _).u2 (nwr (N := 1) (by decide) rfl (by omega)) _
theorem pp_day (z : St c q m n D H B l h X Y) (hA : AR n xa xl N X Y) (hB : XB n xa xl) (hc : c ≤ 512) (L L' : Nat → Nat → Int64) : Ok c n X Y (xDay X L xa xl n m q).2 (yDay Y L' n m q).2 (xDay X L xa xl n m q).1 (yDay Y L' n m q).1 := by
  have h4 := z.hy.2.2.2.2.2.1
  have g4 := z.hy.2.2.2.1
  have hD := z.1.2.2.2.2.2.2.2.2.2.2.2.1
  unfold xDay yDay
  rw [h4, g4, if_pos (show nI D < 9999 by rw [Int32.lt_iff_toInt_lt, nI_toInt (by omega), toI_9999]; omega), if_neg (show ¬ nI D = 9999 by rw [← Int32.toInt_inj, nI_toInt (by omega), toI_9999]; omega)]
  obtain ⟨z0, x0, y0⟩ := z.dayT L L'
  obtain ⟨z1, x1, y1⟩ := z0.night (hA.fr hB x0 y0) hB hc L L'
  exact ⟨rfl, x0.trans x1, y0.trans y1, q, m, D + 1, 0, B, l, h, z1⟩
end
