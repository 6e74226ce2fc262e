/-! METHODS that change little: both sides alike -/
def nn (a : Nat) : Nat := if a = 62 then 600 else if a ≤ 69 then 1 else if a ≤ 83 then 12 else if a = 84 then 1 else if a = 85 then 144 else if a = 86 then 1 else if a ≤ 101 then 40 else if a = 102 then 1 else if a = 103 then 12 else if a = 104 then 1 else if a ≤ 107 then 4 else if a ≤ 110 then 80 else 320
/-- what a call of the class leaves as it is: the reference's cells, what is behind -/
def FX (X X' : Nat → Nat → Int32) : Prop := ∀ a, 61 ≤ a → X' a = X a
/-- what a call of the reference leaves as it is: the class's cells, ACTS, what is behind; the images' places -/
def FY (Y Y' : Nat → Nat → Int32) : Prop := (∀ a, (a < 61 ∨ (105 ≤ a ∧ a ≤ 113) ∨ 130 ≤ a) → Y' a = Y a) ∧ ∀ a j, 62 ≤ a → a ≤ 104 → nn a ≤ j → Y' a j = Y a j
theorem FX.rfl {X : Nat → Nat → Int32} : FX X X := fun _ _ => Eq.refl _
theorem FX.u2 {X X' : Nat → Nat → Int32} (h : FX X X') {b : Nat} (hb : b < 61) (k : Nat) (v : Int32) : FX X (up2 X' b k v) := fun a ha => by rw [up2_ne (by omega)]; exact h a ha
theorem FX.u1 {X X' : Nat → Nat → Int32} (h : FX X X') {b : Nat} (hb : b < 61) (g : Nat → Int32) : FX X (up1 X' b g) := fun a ha => by rw [up1_ne (by omega)]; exact h a ha
theorem FY.rfl {Y : Nat → Nat → Int32} : FY Y Y := ⟨fun _ _ => Eq.refl _, fun _ _ _ _ _ => Eq.refl _⟩
theorem FY.trans {Y Y' Y'' : Nat → Nat → Int32} (h : FY Y Y') (g : FY Y' Y'') : FY Y Y'' := ⟨fun a ha => by rw [g.1 a ha, h.1 a ha], fun a j h1 h2 h3 => by rw [g.2 a j h1 h2 h3, h.2 a j h1 h2 h3]⟩
/-- a place of now, or one of no image -/
def now_ (b k : Nat) : Prop := b = 61 ∨ (114 ≤ b ∧ b ≤ 129) ∨ (62 ≤ b ∧ b ≤ 104 ∧ k < nn b)
theorem FY.u2 {Y Y' : Nat → Nat → Int32} (h : FY Y Y') {b k : Nat} (hb : now_ b k) (v : Int32) : FY Y (up2 Y' b k v) := by
  unfold now_ at hb
  refine ⟨fun a ha => ?_, fun a j h1 h2 h3 => ?_⟩
  · rw [up2_ne (by omega)]; exact h.1 a ha
  · by_cases e : a = b
    · subst e
      rw [wup2_at, if_neg (by intro e; subst e; omega)]; exact h.2 a j h1 h2 h3
    · rw [up2_ne e]; exact h.2 a j h1 h2 h3
theorem FY.u1 {Y Y' : Nat → Nat → Int32} (h : FY Y Y') {b : Nat} {g : Nat → Int32} (hb : (114 ≤ b ∧ b ≤ 129) ∨ (62 ≤ b ∧ b ≤ 104 ∧ ∀ k, nn b ≤ k → g k = Y' b k)) : FY Y (up1 Y' b g) := by
  refine ⟨fun a ha => ?_, fun a j h1 h2 h3 => ?_⟩
  · rw [up1_ne (by omega)]; exact h.1 a ha
  · by_cases e : a = b
    · subst e
      rw [up1_at]
      rcases hb with hb | ⟨-, -, hb⟩
      · omega
      · rw [hb j h3]; exact h.2 a j h1 h2 h3
    · rw [up1_ne e]; exact h.2 a j h1 h2 h3
/-- both sides' answers are alike, the relation holds behind -/
def Ok (c n : Nat) (X Y X' Y' : Nat → Nat → Int32) (vx vy : Int32) : Prop := vx = vy ∧ FX X X' ∧ FY Y Y' ∧ ∃ q m D H B l h, St (c + 1) q m n D H B l h X' Y'
section
variable {c q m n D H B l h : Nat} {X Y : Nat → Nat → Int32}
theorem St.ok0 (z : St c q m n D H B l h X Y) {v w : Int32} (e : v = w) : Ok c n X Y X (up2 Y 61 0 0) v w := ⟨e, FX.rfl, FY.rfl.u2 (Or.inl rfl) 0, q, m, D, H, B, l, h, z.nx.c61 0 0⟩
theorem pp_about (z : St c q m n D H B l h X Y) (L L' : Nat → Nat → Int64) (xa xl : Nat → Nat) (d w : Int32) : Ok c n X Y (xAbout X L xa xl n m q d w).2 (yAbout Y L' n m q d w).2 (xAbout X L xa xl n m q d w).1 (yAbout Y L' n m q d w).1 := by
  by_cases h1 : hasD X d = 0
  · have h2 := (z.dbt d).mp h1
    unfold xAbout yAbout
    rw [if_neg (fun z => z h1), if_neg (fun z => z h2)]
    exact z.ok0 rfl
  · have h2 : ¬ isDbt Y d = 0 := fun e => h1 ((z.dbt d).mpr e)
    obtain ⟨j, hj, rfl⟩ := z.dbt_ex h1
    have hm := z.hq.2.2.1
    have h40 := z.hq.2.2.2.1
    have e1 : (xAbout X L xa xl n m q (nI j) w).2 = X := by unfold xAbout; simp only [apply_ite Prod.snd, ite_self]
    have e2 : (yAbout Y L' n m q (nI j) w).2 = up2 Y 61 0 0 := by unfold yAbout; simp only [apply_ite Prod.snd, ite_self]
    rw [e1, e2]
    refine z.ok0 ?_
    unfold xAbout yAbout
    have hdu := z.dueE hj
    have hin := z.intr hj
    obtain ⟨e87, e88, e89, e90, e91, e92, e93, e94, e95, e96, e97, e98, e99, e100, e101, hB⟩ := z.2.2.1
    have h29 := hB.2.2.2.2.2.2.2.2.1 j hj
    have f29 : (if X 29 j = 0 then (0 : Int32) else 1) = X 29 j := by
      by_cases e : X 29 j = 0
      · rw [if_pos e, e]
      · rw [if_neg e]
        apply Int32.toInt_inj.mp
        have : ¬ (X 29 j).toInt = 0 := fun e2 => e (Int32.toInt_inj.mp (by rw [e2, toI_0]))
        rw [toI_1]; omega
    rw [if_pos h1, if_pos h2]
    unfold dStand termOf
    rw [isLive_at hm h40 hj, hdu, hin, nI_clamp (by omega), e87 j hj, e88 j hj, e89 j hj, e90 j hj, e91 j hj, e92 j hj, e93 j hj, e94 j hj, e95 j hj, e98 j hj, e99 j hj, e100 j hj, e101 j hj]
    by_cases h8 : (8 : Int32) ≤ w
    · have g : ∀ k : Int32, k.toInt < 8 → ¬ w = k := fun k hk e => by subst e; rw [Int32.le_iff_toInt_le, toI_8] at h8; omega
      rw [if_pos h8, if_neg (g 0 (by decide)), if_neg (g 0 (by decide)), if_neg (g 1 (by decide)), if_neg (g 1 (by decide)), if_neg (g 2 (by decide)), if_neg (g 2 (by decide)), if_neg (g 3 (by decide)), if_neg (g 3 (by decide)), if_neg (g 4 (by decide)), if_neg (g 4 (by decide)), if_neg (g 5 (by decide)), if_neg (g 5 (by decide)), if_neg (g 6 (by decide)), if_neg (g 6 (by decide)), if_neg (g 7 (by decide)), if_neg (g 7 (by decide))]
      by_cases e : X 24 j = 0
      · simp only [e, eq_self_iff_true, not_true_eq_false, not_false_eq_true, if_true, if_false, one_nz]
        by_cases w8 : w = 8
        · subst w8; rfl
        by_cases w9 : w = 9
        · subst w9; rfl
        by_cases w10 : w = 10
        · subst w10; rfl
        by_cases w11 : w = 11
        · subst w11; rfl
        by_cases w12 : w = 12
        · subst w12; rw [← f29]; by_cases e5 : X 29 j = 0 <;> simp [e5]
        by_cases w13 : w = 13
        · subst w13; rfl
        by_cases w14 : w = 14
        · subst w14; rfl
        simp only [w8, w9, w10, w11, w12, w13, w14, if_false]
      · simp only [e, eq_self_iff_true, not_true_eq_false, not_false_eq_true, if_true, if_false, one_nz]
        by_cases w8 : w = 8
        · subst w8; rfl
        by_cases w9 : w = 9
        · subst w9; rfl
        by_cases w10 : w = 10
        · subst w10; rfl
        by_cases w11 : w = 11
        · subst w11; rfl
        by_cases w12 : w = 12
        · subst w12; rw [← f29]; by_cases e5 : X 29 j = 0 <;> simp [e5]
        by_cases w13 : w = 13
        · subst w13; rfl
        by_cases w14 : w = 14
        · subst w14; rfl
        simp only [w8, w9, w10, w11, w12, w13, w14, if_false]
    · have g : ∀ k : Int32, 8 ≤ k.toInt → ¬ w = k := fun k hk e => by subst e; rw [Int32.le_iff_toInt_le, toI_8] at h8; omega
      have g8 := g 8 (by decide); have g9 := g 9 (by decide); have g10 := g 10 (by decide); have g11 := g 11 (by decide); have g12 := g 12 (by decide); have g13 := g 13 (by decide); have g14 := g 14 (by decide)
      rw [if_neg h8]
      by_cases e : X 24 j = 0
      · simp only [e, eq_self_iff_true, not_true_eq_false, not_false_eq_true, if_true, if_false, one_nz]
        simp only [g8, g9, g10, g11, g12, g13, g14, if_false, apply_ite Prod.fst]
      · simp only [e, eq_self_iff_true, not_true_eq_false, not_false_eq_true, if_true, if_false, one_nz]
        simp only [g8, g9, g10, g11, g12, g13, g14, if_false, apply_ite Prod.fst]
theorem pp_row (z : St c q m n D H B l h X Y) (L L' : Nat → Nat → Int64) (xa xl : Nat → Nat) (k : Int32) : Ok c n X Y (xRow X L xa xl n m q k).2 (yRow Y L' n m q k).2 (xRow X L xa xl n m q k).1 (yRow Y L' n m q k).1 := by
  have e1 : (xRow X L xa xl n m q k).2 = X := by unfold xRow; simp only [apply_ite Prod.snd, ite_self]
  rw [e1]
  refine z.ok0 ?_
  obtain ⟨h12, hR⟩ := z.2.2.2.2.2
  obtain ⟨⟨-, -, -, -, -, -, -, h1, -, -, -, -, -, -, -, -, -, -, -, -, -, h2, -⟩, -⟩ := z
  unfold xRow yRow inR
  dsimp only
  rw [h1, h2]
  have e : (nI h - 1).toInt = (h : Int) - 1 := nI_m1 (by omega)
  by_cases a1 : k < 0
  · rw [if_pos a1, if_pos a1, if_pos rfl]
  · rw [if_neg a1, if_neg a1]
    rw [Int32.lt_iff_toInt_lt, toI_0] at a1
    by_cases a2 : nI h ≤ k
    · rw [if_pos a2]
      rw [Int32.le_iff_toInt_le, nI_toInt (by omega)] at a2
      rw [if_pos (show nI h - 1 < k by rw [Int32.lt_iff_toInt_lt, e]; omega), if_pos rfl]
    · rw [if_neg a2]
      rw [Int32.le_iff_toInt_le, nI_toInt (by omega)] at a2
      obtain ⟨j, hj, rfl⟩ := rng_nI (x := k) (N := h) ⟨by omega, by omega⟩
      rw [if_neg (show ¬ nI h - 1 < nI j by rw [Int32.lt_iff_toInt_lt, e, nI_toInt (by omega)]; omega), if_neg (show ¬ (12 : Int32) ≤ nI j by rw [Int32.le_iff_toInt_le, toI_12, nI_toInt (by omega)]; omega), if_neg (show ¬ (1 : Int32) = 0 by decide), nI_clamp (by omega)]
      exact (hR j hj).symm
theorem pp_fault (z : St c q m n D H B l h X Y) (L L' : Nat → Nat → Int64) (xa xl : Nat → Nat) (w : Int32) : Ok c n X Y (xFault X L xa xl n m q w).2 (yFault Y L' n m q w).2 (xFault X L xa xl n m q w).1 (yFault Y L' n m q w).1 := by
  have e1 : (xFault X L xa xl n m q w).2 = X := by unfold xFault; simp only [apply_ite Prod.snd, ite_self]
  have e2 : (yFault Y L' n m q w).2 = up2 Y 61 0 0 := by unfold yFault; simp only [apply_ite Prod.snd, ite_self]
  rw [e1, e2]
  refine z.ok0 ?_
  obtain ⟨⟨-, -, -, -, -, -, -, -, -, -, -, -, -, -, -, -, -, -, -, -, -, -, h1, h2, -⟩, -⟩ := z
  unfold xFault yFault
  by_cases w0 : w = 0
  · subst w0; exact h1.symm
  by_cases w1 : w = 1
  · subst w1; exact h2.symm
  simp [w0, w1]
theorem pp_turn (z : St c q m n D H B l h X Y) (L L' : Nat → Nat → Int64) (xa xl : Nat → Nat) : Ok c n X Y (xTurn X L xa xl n m q).2 (yTurn Y L' n m q).2 (xTurn X L xa xl n m q).1 (yTurn Y L' n m q).1 := z.ok0 (z.turn L L' q (Nat.le_refl _))
theorem pp_count (z : St c q m n D H B l h X Y) (L L' : Nat → Nat → Int64) (xa xl : Nat → Nat) (w : Int32) : Ok c n X Y (xCount X L xa xl n m q w).2 (up2 Y 61 0 0) (xCount X L xa xl n m q w).1 (yCount Y L' n m q w) := by
  have e1 : (xCount X L xa xl n m q w).2 = X := by unfold xCount; simp only [apply_ite Prod.snd, ite_self]
  rw [e1]
  refine z.ok0 ?_
  have a1 := z.lives L L'
  have a2 := z.helds L L'
  have a3 := z.coinsAll L L'
  have a4 := z.dueAll L L'
  obtain ⟨⟨h1, h2, h3, h4, h5, h6, h7, h8, -, -, -, -, -, -, g1, g2, g3, g4, g5, g6, g7, g8, -, -, g11⟩, -⟩ := z
  unfold xCount yCount
  simp only [apply_ite Prod.fst]
  rw [a1, a2, a3, a4, h1, h2, h3, h4, h5, h6, h8, g1, g2, g3, g4, g5, g6, g8, g11]
theorem pp_tell (z : St c q m n D H B l h X Y) (L L' : Nat → Nat → Int64) (xa xl : Nat → Nat) (p w : Int32) : Ok c n X Y (xTell X L xa xl n m q p w).2 (yTell Y L' n m q p w).2 (xTell X L xa xl n m q p w).1 (yTell Y L' n m q p w).1 := by
  have e1 : (xTell X L xa xl n m q p w).2 = X := by unfold xTell; simp only [apply_ite Prod.snd, ite_self]
  have e2 : (yTell Y L' n m q p w).2 = up2 Y 61 0 0 := by unfold yTell; simp only [apply_ite Prod.snd, ite_self]
  rw [e1, e2]
  refine z.ok0 ?_
  unfold xTell yTell
  by_cases h1 : hasP X p = 0
  · rw [if_neg (fun z => z h1), if_neg (fun y => y ((z.per p).mp h1))]
  · rw [if_pos h1, if_pos (fun y => h1 ((z.per p).mpr y)), z.dueBy L L' p, z.dueTo L L' p]
    obtain ⟨j, hj, rfl⟩ := z.per_ex h1
    have h12 := z.hq.2.1
    unfold pStand
    rw [isHeld_at z.hq.1 h12 hj, nI_clamp (by omega)]
    obtain ⟨e70, e71, e72, e73, e74, e75, e76, e77, e78, e79, e80, e81, e82, e83, -, -, -, b8, b13, -⟩ := z.2.1
    rw [e70 j hj, e71 j hj, e72 j hj, e73 j hj, e74 j hj, e75 j hj, e76 j hj, e77 j hj, e78 j hj, e79 j hj, e80 j hj, e81 j hj, e83 j hj]
    have f01 : ∀ x : Int32, (0 ≤ x.toInt ∧ x.toInt ≤ 1) → (x = 0 ∨ x = 1) := by
      intro x hx
      by_cases e : x.toInt = 0
      · exact Or.inl (Int32.toInt_inj.mp (by rw [e, toI_0]))
      · exact Or.inr (Int32.toInt_inj.mp (by rw [toI_1]; omega))
    have f8 := f01 _ (b8 j hj)
    have f13 := f01 _ (b13 j hj)
    by_cases w2 : w = 2
    · subst w2; by_cases e : X 5 j = -1 <;> simp [e]
    by_cases w4 : w = 4
    · subst w4; by_cases e : X 5 j = -1 <;> simp [e]
    by_cases w6 : w = 6
    · subst w6; rcases f8 with e | e <;> simp [e]
    by_cases w11 : w = 11
    · subst w11; rfl
    by_cases w12 : w = 12
    · subst w12; rfl
    by_cases w13 : w = 13
    · subst w13; rcases f13 with e | e <;> simp [e]
    by_cases w14 : w = 14
    · subst w14; simp [Int32.neg_neg]
    simp only [w2, w4, w6, w11, w12, w13, w14, if_false, apply_ite Prod.fst]
end
