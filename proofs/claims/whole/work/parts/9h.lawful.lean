/-! lawful -/
theorem then_c {X : Nat → Nat → Int32} (L : Nat → Nat → Int64) (p d k : Int32) {j : Nat} (hj : j < 2 ^ 31) (s : Nat → Int32) : then_st X L p d k j s = if (X 24 j = 0 ∨ (if k < d then k else d) < X 31 j) ∧ X 17 j = p ∧ ¬ d < X 22 j ∧ ¬ k < X 23 j then addRow s (X 19 j) (X 20 j) else s := by
  unfold then_st
  rw [nI_clamp hj]
  by_cases a1 : X 24 j = 0 <;> by_cases a2 : (if k < d then k else d) < X 31 j <;> by_cases a3 : X 17 j = p <;> by_cases a4 : d < X 22 j <;> by_cases a5 : k < X 23 j <;> simp [a1, a2, a3, a4, a5]
theorem lw_c {Y : Nat → Nat → Int32} (L : Nat → Nat → Int64) (s0 : Nat → Int32) (p d k bo : Int32) {j : Nat} (hj : j < 2 ^ 31) (s : Nat → Int32) : lw_st Y L s0 p d k bo j s = if (Y 101 j = -1 ∨ ¬ Y 101 j ≤ bo) ∧ Y 87 j = p ∧ ¬ d < Y 92 j ∧ ¬ k < Y 93 j then upr (upr (upr s 0 (s 0 + Y 89 j)) 1 (s 1 + 1)) 2 (if s 2 ≤ Y 90 j then s 2 else Y 90 j) else s := by
  unfold lw_st
  rw [nI_clamp hj]
  by_cases a1 : Y 101 j = -1 <;> by_cases a2 : Y 101 j ≤ bo <;> by_cases a3 : Y 87 j = p <;> by_cases a4 : d < Y 92 j <;> by_cases a5 : k < Y 93 j <;> simp [a1, a2, a3, a4, a5]
section
variable {c q m n D H B l h : Nat} {X Y : Nat → Nat → Int32} {xa xl N : Nat → Nat}
theorem St.thens (z : St c q m n D H B l h X Y) (L L' : Nat → Nat → Int64) (s0 : Nat → Int32) (p d k bo : Int32) (hbo : (if k < d then k else d) = bo) (hb0 : 0 ≤ bo.toInt) (h0 : s0 0 = 0) (h1 : s0 1 = 0) (h2 : s0 2 = 9) : ∀ j, j ≤ m → (then_it X L p d k j 0 = lw_it Y L' s0 p d k bo j 0 ∧ then_it X L p d k j 1 = lw_it Y L' s0 p d k bo j 1 ∧ then_it X L p d k j 2 = lw_it Y L' s0 p d k bo j 2) ∧ (∀ i, 3 ≤ i → then_it X L p d k j i = startFacts X p 38 i) ∧ (∀ i, 3 ≤ i → lw_it Y L' s0 p d k bo j i = s0 i) ∧ ∃ t, t ≤ j ∧ then_it X L p d k j 1 = nI t := by
  have h40 := z.hq.2.2.2.1
  obtain ⟨e87, e88, e89, e90, e91, e92, e93, e94, e95, e96, e97, e98, e99, e100, e101, b1, b2, b3, b4, b5, b6, b7, b8, b9, b10, b11⟩ := z.2.2.1
  intro j
  induction j with
  | zero => intro _; exact ⟨⟨h0.symm, h1.symm, h2.symm⟩, fun i _ => rfl, fun i _ => rfl, 0, Nat.le_refl _, rfl⟩
  | succ j ih =>
    intro hj
    obtain ⟨⟨i0, i1, i2⟩, i3, i4, t, ht, i5⟩ := ih (by omega)
    rw [show then_it X L p d k (j + 1) = then_st X L p d k j (then_it X L p d k j) from rfl, show lw_it Y L' s0 p d k bo (j + 1) = lw_st Y L' s0 p d k bo j (lw_it Y L' s0 p d k bo j) from rfl, then_c L p d k (by omega), lw_c L' s0 p d k bo (by omega), e87 j (by omega), e89 j (by omega), e90 j (by omega), e92 j (by omega), e93 j (by omega), e101 j (by omega), hbo]
    have hc : (X 24 j = 0 ∨ bo < X 31 j) ↔ (X 31 j = -1 ∨ ¬ X 31 j ≤ bo) := by
      have w := b11 j (by omega)
      rw [le_n, Decidable.not_not]
      constructor
      · rintro (e | e)
        · exact Or.inl (w.1 e).1
        · exact Or.inr e
      · rintro (e | e)
        · left
          refine Classical.byContradiction fun y => ?_
          have := w.2 y
          rw [e, toI_m1] at this; omega
        · exact Or.inr e
    simp only [hc]
    by_cases P : (X 31 j = -1 ∨ ¬ X 31 j ≤ bo) ∧ X 17 j = p ∧ ¬ d < X 22 j ∧ ¬ k < X 23 j
    · rw [if_pos P, if_pos P]
      have e : ∀ g : Nat → Int32, addRow g (X 19 j) (X 20 j) = upr (upr (upr g 0 (g 0 + X 19 j)) 1 (g 1 + 1)) 2 (if X 20 j < g 2 then X 20 j else g 2) := fun g => rfl
      rw [e]
      refine ⟨⟨?_, ?_, ?_⟩, fun i hi => ?_, fun i hi => ?_, t + 1, by omega, ?_⟩
      · rw [upr_ne (by decide), upr_ne (by decide), upr_at, upr_ne (by decide), upr_ne (by decide), upr_at, i0]
      · rw [upr_ne (by decide), upr_at, upr_ne (by decide), upr_at, i1]
      · rw [upr_at, upr_at, ← i2]
        by_cases g : X 20 j < then_it X L p d k j 2
        · rw [if_pos g, if_neg (show ¬ then_it X L p d k j 2 ≤ X 20 j by rw [le_n]; exact not_not_intro g)]
        · rw [if_neg g, if_pos (show then_it X L p d k j 2 ≤ X 20 j by rw [le_n]; exact g)]
      · rw [upr_ne (by omega), upr_ne (by omega), upr_ne (by omega)]; exact i3 i hi
      · rw [upr_ne (by omega), upr_ne (by omega), upr_ne (by omega)]; exact i4 i hi
      · rw [upr_ne (by decide), upr_at, i5, nI_1]
    · rw [if_neg P, if_neg P]
      exact ⟨⟨i0, i1, i2⟩, i3, i4, t, by omega, i5⟩
theorem pp_lawful (z : St c q m n D H B l h X Y) (hA : AR n xa xl N X Y) (hB : XB n xa xl) (L L' : Nat → Nat → Int64) (p d k : Int32) : Ok c n X Y (xLawful X L xa xl n m q p d k).2 (yLawful Y L' n m q p d k).2 (xLawful X L xa xl n m q p d k).1 (yLawful Y L' n m q p d k).1 := by
  unfold xLawful yLawful isDay
  by_cases h1 : hasP X p = 0
  · rw [if_pos h1, if_pos ((z.per p).mp h1)]; exact z.ok0 rfl
  · rw [if_neg h1, if_neg (fun y => h1 ((z.per p).mpr y))]
    by_cases h2 : outside X d 0 9999 = 0
    · rw [if_neg (not_not_intro h2), if_neg (fun w => (inR_o Y X d 0 9999).mp w h2)]
      by_cases h3 : outside X k 0 9999 = 0
      · rw [if_pos h3, if_pos (fun w => (inR_o Y X k 0 9999).mp w h3)]
        rw [out_iff, toI_0, toI_9999] at h2 h3
        obtain ⟨j, hj, rfl⟩ := z.per_ex h1
        have h12 := z.hq.2.1
        have h40 := z.hq.2.2.2.1
        have hn4 := z.hq.2.2.2.2.2
        have hbo : (if k < d then k else d) = (if k ≤ d then k else d) := (min_eq2 k d).symm
        have hb0 : 0 ≤ (if k ≤ d then k else d).toInt := by split <;> omega
        obtain ⟨⟨t0, t1, t2⟩, t3, t4, t, ht, t5⟩ := (z.c61 0 0).thens L L' (upr (la_it (up2 Y 61 0 0) L' 8) 2 9) (nI j) d k (if k ≤ d then k else d) hbo hb0 rfl rfl rfl m (Nat.le_refl _)
        have gz : ∀ i, i < 8 → la_it (up2 Y 61 0 0) L' 8 i = 0 := by
          intro i hi
          match i, hi with
          | 0, _ => rfl
          | 1, _ => rfl
          | 2, _ => rfl
          | 3, _ => rfl
          | 4, _ => rfl
          | 5, _ => rfl
          | 6, _ => rfl
          | 7, _ => rfl
        rw [nI_clamp (by omega)]
        generalize hG : lw_it (up2 Y 61 0 0) L' (upr (la_it (up2 Y 61 0 0) L' 8) 2 9) (nI j) d k (if k ≤ d then k else d) m = G at t0 t1 t2 t4
        have frX : FX X (up1 X 38 (then_it X L (nI j) d k m)) := FX.rfl.u38 _
        have frY : FY Y (up2 (up2 (up1 (up2 Y 61 0 0) 121 G) 121 4 (Y 71 j)) 121 7 (Y 70 j)) := ((((FY.rfl.u2 n61 0).u121 _).u2 (Or.inr (Or.inl (by decide))) _).u2 (Or.inr (Or.inl (by decide))) _)
        have zz : St (c + 1) q m n D H B l h (up1 X 38 (then_it X L (nI j) d k m)) (up2 (up2 (up1 (up2 Y 61 0 0) 121 G) 121 4 (Y 71 j)) 121 7 (Y 70 j)) := ⟨z.nx.1, z.nx.2.1, z.nx.2.2.1, z.nx.2.2.2.1, z.nx.2.2.2.2.1, z.nx.2.2.2.2.2⟩
        have facts : ∀ w, w < 8 → (up1 X 38 (then_it X L (nI j) d k m)) 38 w = (up2 (up2 (up1 (up2 Y 61 0 0) 121 G) 121 4 (Y 71 j)) 121 7 (Y 70 j)) 121 w := by
          intro w hw
          show then_it X L (nI j) d k m w = upr (upr G 4 (Y 71 j)) 7 (Y 70 j) w
          have s4 : startFacts X (nI j) 38 4 = X 4 j := by show X 4 (nI j).toNatClampNeg = _; rw [nI_clamp (by omega)]
          have s7 : startFacts X (nI j) 38 7 = X 3 j := by show X 3 (nI j).toNatClampNeg = _; rw [nI_clamp (by omega)]
          match w, hw with
          | 0, _ => exact t0
          | 1, _ => exact t1
          | 2, _ => exact t2
          | 3, _ => rw [t3 3 (by decide), upr_ne (by decide), upr_ne (by decide), t4 3 (by decide), upr_ne (by decide), gz 3 (by decide)]; rfl
          | 4, _ => rw [t3 4 (by decide), upr_ne (by decide), upr_at, s4, z.2.1.2.1 j hj]
          | 5, _ => rw [t3 5 (by decide), upr_ne (by decide), upr_ne (by decide), t4 5 (by decide), upr_ne (by decide), gz 5 (by decide)]; rfl
          | 6, _ => rw [t3 6 (by decide), upr_ne (by decide), upr_ne (by decide), t4 6 (by decide), upr_ne (by decide), gz 6 (by decide)]; rfl
          | 7, _ => rw [t3 7 (by decide), upr_at, s7, z.2.1.1 j hj]
        have et : G 1 = nI t := by rw [← t1]; exact t5
        rw [et]
        unfold lawT
        rw [t5]
        by_cases e0 : t = 0
        · subst e0
          rw [if_pos (show nI 0 = 0 from rfl), if_pos (show nI 0 ≤ 0 by decide)]
          exact ⟨rfl, frX, frY, q, m, D, H, B, l, h, zz⟩
        · rw [if_neg (show ¬ nI t = 0 by rw [← Int32.toInt_inj, nI_toInt (by omega), toI_0]; omega), if_neg (show ¬ nI t ≤ 0 by rw [Int32.le_iff_toInt_le, nI_toInt (by omega), toI_0]; omega)]
          have eg : gon_it Y L' d k n = og (gdO X xa d k n) := (good_eq hA hn4 L' d k n (Nat.le_refl _)).symm
          rw [eg]
          have key : (match gdO X xa d k n with | none => if without X 0 = 0 then (0 : Int32) else 1 | some a => if tells_sr (up1 X 38 (then_it X L (nI j) d k m)) L (xl a) 0 (X (xa a) 3).toNatClampNeg 0 = 0 then 0 else 1) = if tlBy (up2 (up2 (up1 (up2 Y 61 0 0) 121 G) 121 4 (Y 71 j)) 121 7 (Y 70 j)) L' 0 (og (gdO X xa d k n)) = 0 then 0 else 1 := by
            cases ho : gdO X xa d k n with
            | none => rfl
            | some a =>
              have ha := gdO_lt ho
              have hbl := (hB a ha).2
              obtain ⟨-, -, c1, hc20, -, hc1, hc2, -⟩ := hA a ha
              have ea := act_eq L L' hA hn4 ha (X' := up1 X 38 (then_it X L (nI j) d k m)) (Y' := up2 (up2 (up1 (up2 Y 61 0 0) 121 G) 121 4 (Y 71 j)) 121 7 (Y 70 j)) (up1_ne (by omega)) (fun w g1 g2 => by rw [up2_ne (by omega), up2_ne (by omega), up1_ne (by omega), up2_ne (by omega)]) facts (k := 0) (by decide) c1 (by omega) hc1 c1 0 (by omega)
              unfold tlBy
              rw [show og (some a) = nI a from rfl, if_neg (show ¬ nI a = -1 by rw [← Int32.toInt_inj, nI_toInt (by omega), toI_m1]; omega), nI_clamp (by omega)]
              show (if tells_sr (up1 X 38 (then_it X L (nI j) d k m)) L (xl a) 0 (X (xa a) 3).toNatClampNeg 0 = 0 then (0 : Int32) else 1) = if tel_sr (up2 (up2 (up1 (up2 Y 61 0 0) 121 G) 121 4 (Y 71 j)) 121 7 (Y 70 j)) L' a 0 (Y 107 a).toNatClampNeg 0 = 0 then 0 else 1
              rw [hc1, hc2, nI_clamp (by omega)]
              have ea' : tells_sr (up1 X 38 (then_it X L (nI j) d k m)) L (xl a) 0 c1 0 = tel_sr (up2 (up2 (up1 (up2 Y 61 0 0) 121 G) 121 4 (Y 71 j)) 121 7 (Y 70 j)) L' a 0 c1 0 := ea
              rw [ea']
          by_cases w : tlBy (up2 (up2 (up1 (up2 Y 61 0 0) 121 G) 121 4 (Y 71 j)) 121 7 (Y 70 j)) L' 0 (og (gdO X xa d k n)) = 0
          · rw [if_pos w] at key ⊢
            exact ⟨key, frX, frY, q, m, D, H, B, l, h, zz⟩
          · rw [if_neg w] at key ⊢
            exact ⟨key, frX, frY, q, m, D, H, B, l, h, zz⟩
      · rw [if_neg h3, if_neg (not_not_intro ((inR_o Y X k 0 9999).mpr h3))]; exact z.ok0 rfl
    · rw [if_pos h2, if_pos ((inR_o Y X d 0 9999).mpr h2)]; exact z.ok0 rfl
end
