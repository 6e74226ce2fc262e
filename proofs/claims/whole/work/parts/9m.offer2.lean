/-! offer -/
/-- the greatest of the leasts up to r -/
theorem least_to (g : Nat → Nat) (r : Nat) : ∀ k, ∃ r0, r0 ≤ r ∧ (r0 = 0 ∨ ∃ p, p < k ∧ g p = r0) ∧ ∀ p, p < k → g p ≤ r → g p ≤ r0 := by
  intro k
  induction k with
  | zero => exact ⟨0, Nat.zero_le _, Or.inl rfl, fun p hp => by omega⟩
  | succ k ih =>
    obtain ⟨r0, h1, h2, h3⟩ := ih
    by_cases e : g k ≤ r ∧ r0 < g k
    · refine ⟨g k, e.1, Or.inr ⟨k, by omega, rfl⟩, fun p hp hg => ?_⟩
      by_cases e2 : p = k
      · subst e2; exact Nat.le_refl _
      · have := h3 p (by omega) hg; omega
    · refine ⟨r0, h1, ?_, fun p hp hg => ?_⟩
      · rcases h2 with y | ⟨p, hp, y⟩
        · exact Or.inl y
        · exact Or.inr ⟨p, by omega, y⟩
      · by_cases e2 : p = k
        · subst e2; omega
        · exact h3 p (by omega) hg
section
variable {c q m n D H B l h : Nat} {X Y : Nat → Nat → Int32} {xa xl N : Nat → Nat}
theorem St.offers (z : St c q m n D H B l h X Y) (L L' : Nat → Nat → Int64) {P : Nat} (hP : P < q) (hV : VC X Y L' n m P) (g0 g1 : Nat → Int32) (u0 u1 : Int32) (w0 w1 : Int64) {b0 : Int32} (hb0 : b0 = if (bNow Y L' n m q (nI P) 0).1 = 0 then -1 else 0) : (lo_it X L b0 g0 g1 u0 u1 w0 w1 m q).1 = (ofF L' n m q (nI P) 1001 0 Y).1 ∧ (∀ a, a ≤ 113 → (ofF L' n m q (nI P) 1001 0 Y).2 a = Y a) ∧ FY Y (ofF L' n m q (nI P) 1001 0 Y).2 := by
  have h12 := z.hq.2.1
  have hbJ : ∀ J, (∀ a, a ≤ 113 → J a = Y a) → ∀ r, (bNow J L' n m q (nI P) r).1 = (bNow Y L' n m q (nI P) r).1 := by
    intro J hJ r
    rw [← z.votedC L L' hP hV r, (z.cgY (fun a _ g2 => hJ a (by omega))).votedC L L' hP (hV.cg ⟨rfl, rfl, rfl, rfl⟩ hJ) r]
  obtain ⟨i1, i2, i3⟩ := of_eq (b := fun r => ¬ (bNow Y L' n m q (nI P) (nI r)).1 = 0) (L' := L') (n := n) (m := m) (q := q) (P := P) (Y := Y) (fun J hJ r _ => by rw [hbJ J hJ]; exact (Decidable.not_not).symm) 1001 0 Y (fun _ _ => rfl) FY.rfl (by omega)
  refine ⟨?_, i1, i2⟩
  have cl := z.offered L L' hP hV b0 g0 g1 u0 u1 w0 w1 hb0 q (Nat.le_refl _)
  -- leasts as numbers
  have hl : ∀ p, p < q → ∃ t, t ≤ 1000 ∧ (1000 : Int32) - X 33 (12 * p + P) = nI t := by
    intro p hp
    have w := (z.2.2.2.1 p P (by omega) (by omega)).2.2
    have er : ((1000 : Int32) - X 33 (12 * p + P)).toInt = 1000 - (X 33 (12 * p + P)).toInt := by rw [sub_toInt (by rw [toI_1000]; omega) (by rw [toI_1000]; omega), toI_1000]
    obtain ⟨t, ht, et⟩ := rng_nI (x := (1000 : Int32) - X 33 (12 * p + P)) (N := 1001) ⟨by omega, by omega⟩
    exact ⟨t, by omega, et⟩
  have cand : ∀ r, r ≤ 1000 → ¬ (bNow Y L' n m q (nI P) (nI r)).1 = 0 → ∃ r0, r0 ≤ r ∧ ¬ (bNow Y L' n m q (nI P) (nI r0)).1 = 0 ∧ (r0 = 0 ∨ ∃ p, p < q ∧ (1000 : Int32) - X 33 (12 * p + P) = nI r0) := by
    intro r hr hb
    obtain ⟨r0, k1, k2, k3⟩ := least_to (fun p => ((1000 : Int32) - X 33 (12 * p + P)).toNatClampNeg) r q
    refine ⟨r0, k1, ?_, ?_⟩
    · rw [← z.votedC L L' hP hV (nI r0)]
      rw [← z.votedC L L' hP hV (nI r)] at hb
      have e := z.vsame L hP hV.1 (r := nI r0) (r' := nI r) (fun p hp => by
        obtain ⟨t, ht, et⟩ := hl p hp
        have k3p := k3 p hp
        rw [et, nI_clamp (by omega)] at k3p
        rw [et, Int32.lt_iff_toInt_lt, Int32.lt_iff_toInt_lt, nI_toInt (by omega), nI_toInt (by omega), nI_toInt (by omega)]
        constructor
        · intro y
          refine Classical.byContradiction fun w => ?_
          have := k3p (by omega)
          omega
        · intro y; omega)
      rw [e]; exact hb
    · rcases k2 with y | ⟨p, hp, y⟩
      · exact Or.inl y
      · right
        obtain ⟨t, ht, et⟩ := hl p hp
        rw [et, nI_clamp (by omega)] at y
        exact ⟨p, hp, by rw [et, y]⟩
  rcases i3 with ⟨e, w⟩ | ⟨r, -, r2, r3, r4, r5⟩
  · rcases cl with ⟨c1, -, -⟩ | ⟨r', q1, q2, q3, -, -⟩
    · rw [c1, e]
    · exact absurd q3 (w r' (Nat.zero_le _) q1)
  · obtain ⟨r0, k1, k2, k3⟩ := cand r r2 r4
    have e0 : r0 = r := by
      refine Classical.byContradiction fun y => ?_
      exact r5 r0 (Nat.zero_le _) (by omega) k2
    subst e0
    rcases cl with ⟨c1, c2, c3⟩ | ⟨r', q1, q2, q3, q4, q5⟩
    · exfalso
      rcases k3 with y | ⟨p, hp, y⟩
      · subst y; exact k2 c2
      · exact k2 (by rw [← y]; exact c3 p hp)
    · rw [q2, r3]
      have g1' : r0 ≤ r' := by
        refine Classical.byContradiction fun y => ?_
        exact r5 r' (Nat.zero_le _) (by omega) q3
      have g2' : r' ≤ r0 := by
        rcases k3 with y | ⟨p, hp, y⟩
        · subst y
          rcases q4 with u | u
          · exact absurd u k2
          · omega
        · have := q5 p hp (by rw [y]; exact k2)
          rw [y, nI_toInt (by omega)] at this; omega
      rw [show r' = r0 by omega]
theorem pp_offer (z : St c q m n D H B l h X Y) (hA : AR n xa xl N X Y) (hB : XB n xa xl) (L L' : Nat → Nat → Int64) (p : Int32) : Ok c n X Y (xOffer X L xa xl n m q p).2.1 (yOffer Y L' n m q p).2 (xOffer X L xa xl n m q p).1 (yOffer Y L' n m q p).1 := by
  unfold xOffer yOffer
  by_cases h1 : hasP X p = 0
  · rw [if_neg (not_not_intro h1), if_pos ((z.per p).mp h1)]; exact z.ok0 rfl
  · rw [if_pos h1, if_neg (fun y => h1 ((z.per p).mpr y))]
    obtain ⟨P, hP, rfl⟩ := z.per_ex h1
    obtain ⟨z1, hV⟩ := (z.c61 0 0).called hA hB L L' hP
    have ev0 := z1.votedC L L' hP hV 0
    obtain ⟨o1, o2, o3⟩ := z1.offers L L' hP hV (vsS (vCall X L xa xl n m (nI P)) L 0 (-1)) (vtk (vCall X L xa xl n m (nI P)) L 0 (-1) m).1 (vtk (vCall X L xa xl n m (nI P)) L 0 (-1) m).2.1 (vtk (vCall X L xa xl n m (nI P)) L 0 (-1) m).2.2.1 (vtk (vCall X L xa xl n m (nI P)) L 0 (-1) m).2.2.2.1 (vtk (vCall X L xa xl n m (nI P)) L 0 (-1) m).2.2.2.2 (b0 := if vAt (vCall X L xa xl n m (nI P)) L 0 m = 0 then -1 else 0) (by rw [ev0])
    refine ⟨o1, (vCall_fr X L xa xl n m (nI P)).1.trans ?_, (FY.rfl.u2 n61 0).trans o3, q, m, D, H, B, l, h, (z1.nx.cgX ?_).cgY (fun a g1 g2 => o2 a (by omega))⟩
    · unfold loI
      exact (((FX.rfl.u1 (by decide) _).u1 (by decide) _).u2 (by decide) _ _).u2 (by decide) _ _
    · intro a ha
      unfold loI
      simp (disch := omega) only [up1_ne, up2_ne]
end
