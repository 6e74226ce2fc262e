/-! hour, day -/
theorem yh_big {Y : Nat → Nat → Int32} {n m : Nat} (L' : Nat → Nat → Int64) {j : Nat} : ∀ k, k ≤ 12 → k ≤ j → (yh_it Y L' n m k).1 j = Y 77 j := by
  intro k
  induction k with
  | zero => intro _ _; rfl
  | succ k ih =>
    intro hk hj
    rw [yh_it_s]
    unfold yh_st
    rw [nI_clamp (by omega)]
    have h := ih (by omega) (by omega)
    repeat' split
    all_goals (dsimp only; rw [upr_ne (by omega)]; exact h)
/-- DAILY of one is told by its own rows alone -/
theorem nowT_pt {I : Nat → Nat → Int32} {xa xl : Nat → Nat} {n m : Nat} (L : Nat → Nat → Int64) (hB : XB n xa xl) (g5 g6 : Nat → Int32) {p : Nat} (hp : p < 12) (h5 : g5 p = I 5 p) (h6 : g6 p = I 6 p) (w : Int32) : nowT (up1 (up1 I 5 g5) 6 g6) L xa xl n m (nI p) w = nowT I L xa xl n m (nI p) w := by
  have eg : gathRow (up1 (up1 I 5 g5) 6 g6) L (nI p) m = gathRow I L (nI p) m := by
    unfold gathRow
    have e1 : gath_it (up1 (up1 I 5 g5) 6 g6) L (nI p) m = gath_it I L (nI p) m := rfl
    have e2 : isHeld (up1 (up1 I 5 g5) 6 g6) (nI p) = isHeld I (nI p) := by
      unfold isHeld
      show (if nI p < 0 then (0 : Int32) else if I 2 0 ≤ nI p then 0 else if (12 : Int32) ≤ nI p then 0 else if g5 (nI p).toNatClampNeg = -1 then 0 else 1) = _
      rw [nI_clamp (by omega), h5]
    have e3 : (up1 (up1 I 5 g5) 6 g6) 5 (nI p).toNatClampNeg = I 5 (nI p).toNatClampNeg := by show g5 _ = _; rw [nI_clamp (by omega)]; exact h5
    have e4 : (up1 (up1 I 5 g5) 6 g6) 6 (nI p).toNatClampNeg = I 6 (nI p).toNatClampNeg := by show g6 _ = _; rw [nI_clamp (by omega)]; exact h6
    rw [e1, e2, e3, e4]
    rfl
  have e0 : ∀ a, 131 ≤ a → (up1 (up1 I 5 g5) 6 g6) a = I a := fun a ha => by rw [up1_ne (by omega), up1_ne (by omega)]
  unfold nowT
  show tellA (up1 (up1 I 5 g5) 6 g6) L xa xl (nI p) m w (gdO (up1 (up1 I 5 g5) 6 g6) xa (I 1 4) (I 1 4) n) = _
  rw [gdO_cg (I := I) (fun a ha => e0 _ (hB a ha).1)]
  cases ho : gdO I xa (I 1 4) (I 1 4) n with
  | none => rfl
  | some a =>
    have ha := gdO_lt ho
    show tells_sr (up1 (up1 (up1 I 5 g5) 6 g6) 38 (gathRow (up1 (up1 I 5 g5) 6 g6) L (nI p) m)) L (xl a) w ((up1 (up1 I 5 g5) 6 g6) (xa a) 3).toNatClampNeg 0 = tells_sr (up1 I 38 (gathRow I L (nI p) m)) L (xl a) w (I (xa a) 3).toNatClampNeg 0
    rw [eg, e0 _ (hB a ha).1]
    have := (hB a ha).2
    exact tells_cg ((up1_ne (show xl a ≠ 38 by omega)).trans ((e0 (xl a) (by omega)).trans (up1_ne (show xl a ≠ 38 by omega)).symm)) (fun z hz => by rw [up1_at, up1_at]) _ _
theorem hol_c2 {I J : Nat → Nat → Int32} (L : Nat → Nat → Int64) (h : ∀ a, 104 ≤ a → a ≤ 113 → J a = I a) (h8 : J 121 = I 121) (l : Nat) : ∀ f j, hol_sr J L l f j = hol_sr I L l f j := by
  intro f
  induction f with
  | zero => intro j; rfl
  | succ f ih => intro j; rw [hol_sr, hol_sr, h 111 (by decide) (by decide), h 112 (by decide) (by decide), h 113 (by decide) (by decide), h8, ih]
theorem tlBy_c2 {I J : Nat → Nat → Int32} (L : Nat → Nat → Int64) (w x : Int32) (h : ∀ a, 104 ≤ a → a ≤ 113 → J a = I a) (h8 : J 121 = I 121) : tlBy J L w x = tlBy I L w x := by
  have key : ∀ a f j, tel_sr J L a w f j = tel_sr I L a w f j := by
    intro a f
    induction f with
    | zero => intro j; rfl
    | succ f ih =>
      intro j
      have e : hol J L (20 * a + j) = hol I L (20 * a + j) := by unfold hol; rw [h 109 (by decide) (by decide)]; exact hol_c2 L h h8 _ _ _
      rw [tel_sr, tel_sr, h 108 (by decide) (by decide), h 110 (by decide) (by decide), e, ih]
  unfold tlBy
  rw [h 107 (by decide) (by decide), key]
  rfl
theorem tlNow_pt {Y : Nat → Nat → Int32} {n m : Nat} (L' : Nat → Nat → Int64) (g72 g73 g74 g75 g76 g80 g79 : Nat → Int32) {p : Nat} (hp : p < 12) (h2 : g72 p = Y 72 p) (h3 : g73 p = Y 73 p) (h4 : g74 p = Y 74 p) (w : Int32) : tlNow (up1 (up1 (up1 (up1 (up1 (up1 (up1 Y 72 g72) 73 g73) 74 g74) 75 g75) 76 g76) 80 g80) 79 g79) L' n m (nI p) w = tlNow Y L' n m (nI p) w := by
  have el : lookR (up1 (up1 (up1 (up1 (up1 (up1 (up1 Y 72 g72) 73 g73) 74 g74) 75 g75) 76 g76) 80 g80) 79 g79) L' (nI p) m = lookR Y L' (nI p) m := by
    unfold lookR
    have e1 : lk_it (up1 (up1 (up1 (up1 (up1 (up1 (up1 Y 72 g72) 73 g73) 74 g74) 75 g75) 76 g76) 80 g80) 79 g79) L' (nI p) m = lk_it Y L' (nI p) m := rfl
    have e2 : (up1 (up1 (up1 (up1 (up1 (up1 (up1 Y 72 g72) 73 g73) 74 g74) 75 g75) 76 g76) 80 g80) 79 g79) 72 (nI p).toNatClampNeg = Y 72 (nI p).toNatClampNeg := by show g72 _ = _; rw [nI_clamp (by omega)]; exact h2
    have e3 : (up1 (up1 (up1 (up1 (up1 (up1 (up1 Y 72 g72) 73 g73) 74 g74) 75 g75) 76 g76) 80 g80) 79 g79) 73 (nI p).toNatClampNeg = Y 73 (nI p).toNatClampNeg := by show g73 _ = _; rw [nI_clamp (by omega)]; exact h3
    have e4 : (up1 (up1 (up1 (up1 (up1 (up1 (up1 Y 72 g72) 73 g73) 74 g74) 75 g75) 76 g76) 80 g80) 79 g79) 74 (nI p).toNatClampNeg = Y 74 (nI p).toNatClampNeg := by show g74 _ = _; rw [nI_clamp (by omega)]; exact h4
    rw [e1, e2, e3, e4]
    rfl
  unfold tlNow
  rw [el]
  have e5 := tlBy_c2 (J := up1 (up1 (up1 (up1 (up1 (up1 (up1 (up1 Y 72 g72) 73 g73) 74 g74) 75 g75) 76 g76) 80 g80) 79 g79) 121 (lookR Y L' (nI p) m)) (I := up1 Y 121 (lookR Y L' (nI p) m)) L' w (gon_it Y L' (Y 66 0) (Y 66 0) n) (fun a h1 h2 => by simp (disch := omega) only [up1_ne]) rfl
  exact e5
/-- the class's rows along the day's loop -/
def dyI (X : Nat → Nat → Int32) (T : Nat → Int32) (q k : Nat) (s5 s6 s7 s8 s12 s11 : Nat → Int32) : Prop := ∀ j, j < q → s5 j = (if j < k ∧ ¬ X 5 j = -1 ∧ ¬ X 8 j = 0 then -1 else X 5 j) ∧ s6 j = (if j < k ∧ ¬ X 5 j = -1 ∧ ¬ X 8 j = 0 then 0 else X 6 j) ∧ s7 j = (if j < k ∧ ¬ X 5 j = -1 then (if X 8 j = 0 then X 7 j + T j else 0) else X 7 j) ∧ s8 j = (if j < k ∧ ¬ X 5 j = -1 ∧ ¬ X 8 j = 0 then 0 else X 8 j) ∧ s12 j = (if j < k ∧ ¬ X 5 j = -1 ∧ ¬ X 8 j = 0 then 0 else X 12 j) ∧ s11 j = (if j < k ∧ ¬ X 5 j = -1 ∧ ¬ X 8 j = 0 then X 11 j + 1 else X 11 j)
theorem day_rows {X : Nat → Nat → Int32} {xa xl : Nat → Nat} {n m q : Nat} (L : Nat → Nat → Int64) (hB : XB n xa xl) (hq : X 2 0 = nI q) (h12 : q ≤ 12) : ∀ k, k ≤ q → dyI X (fun j => nowT X L xa xl n m (nI j) 2) q k (day_it X L xa xl n m k).1 (day_it X L xa xl n m k).2.1 (day_it X L xa xl n m k).2.2.1 (day_it X L xa xl n m k).2.2.2.1 (day_it X L xa xl n m k).2.2.2.2.1 (day_it X L xa xl n m k).2.2.2.2.2.1 := by
  intro k
  induction k with
  | zero =>
    intro _ j hj
    refine ⟨?_, ?_, ?_, ?_, ?_, ?_⟩ <;> (rw [if_neg (by omega)]; rfl)
  | succ k ih =>
    intro hk
    have h := ih (by omega)
    rw [day_it_s]
    generalize day_it X L xa xl n m k = s at h
    obtain ⟨s5, s6, s7, s8, s12, s11, s38⟩ := s
    dsimp only at h ⊢
    have hk0 := h k (by omega)
    rw [if_neg (by omega), if_neg (by omega), if_neg (by omega), if_neg (by omega), if_neg (by omega), if_neg (by omega)] at hk0
    obtain ⟨c5, c6, c7, c8, c12, c11⟩ := hk0
    unfold day_st
    dsimp only
    have c5' : (up1 X 5 s5) 5 k = X 5 k := c5
    rw [nI_clamp (by omega), isHeld_at (X := up1 X 5 s5) (q := q) hq h12 (by omega)]
    simp only [c5', c8]
    have hT : nowT (up1 (up1 X 5 s5) 6 s6) L xa xl n m (nI k) 2 = nowT X L xa xl n m (nI k) 2 := nowT_pt L hB s5 s6 (by omega) c5 c6 2
    by_cases a : X 5 k = -1
    · rw [if_pos a, if_pos rfl]
      intro j hj
      have w := h j hj
      dsimp only
      by_cases e : j = k
      · subst e
        rw [if_neg (fun y => y.2.1 a), if_neg (fun y => y.2.1 a), if_neg (fun y => y.2 a), if_neg (fun y => y.2.1 a), if_neg (fun y => y.2.1 a), if_neg (fun y => y.2.1 a)]
        exact ⟨c5, c6, c7, c8, c12, c11⟩
      · have i1 : (j < k + 1 ∧ ¬ X 5 j = -1 ∧ ¬ X 8 j = 0) ↔ (j < k ∧ ¬ X 5 j = -1 ∧ ¬ X 8 j = 0) := ⟨fun y => ⟨by omega, y.2⟩, fun y => ⟨by omega, y.2⟩⟩
        have i2 : (j < k + 1 ∧ ¬ X 5 j = -1) ↔ (j < k ∧ ¬ X 5 j = -1) := ⟨fun y => ⟨by omega, y.2⟩, fun y => ⟨by omega, y.2⟩⟩
        simp only [i1, i2]; exact w
    · rw [if_neg a, if_neg one_nz]
      by_cases b : X 8 k = 0
      · rw [if_pos b]
        intro j hj
        have w := h j hj
        dsimp only
        by_cases e : j = k
        · subst e
          rw [if_neg (fun y => y.2.2 b), if_neg (fun y => y.2.2 b), if_pos (show j < j + 1 ∧ ¬ X 5 j = -1 from ⟨by omega, a⟩), if_pos b, if_neg (fun y => y.2.2 b), if_neg (fun y => y.2.2 b), if_neg (fun y => y.2.2 b)]
          exact ⟨c5, c6, by rw [upr_at, c7, hT], c8, c12, c11⟩
        · have i1 : (j < k + 1 ∧ ¬ X 5 j = -1 ∧ ¬ X 8 j = 0) ↔ (j < k ∧ ¬ X 5 j = -1 ∧ ¬ X 8 j = 0) := ⟨fun y => ⟨by omega, y.2⟩, fun y => ⟨by omega, y.2⟩⟩
          have i2 : (j < k + 1 ∧ ¬ X 5 j = -1) ↔ (j < k ∧ ¬ X 5 j = -1) := ⟨fun y => ⟨by omega, y.2⟩, fun y => ⟨by omega, y.2⟩⟩
          rw [upr_ne e]
          simp only [i1, i2]; exact w
      · rw [if_neg b]
        intro j hj
        have w := h j hj
        dsimp only
        by_cases e : j = k
        · subst e
          have p1 : j < j + 1 ∧ ¬ X 5 j = -1 ∧ ¬ X 8 j = 0 := ⟨by omega, a, b⟩
          rw [if_pos p1, if_pos p1, if_pos (show j < j + 1 ∧ ¬ X 5 j = -1 from ⟨by omega, a⟩), if_neg b, if_pos p1, if_pos p1, if_pos p1]
          exact ⟨upr_at _ _ _, upr_at _ _ _, upr_at _ _ _, upr_at _ _ _, upr_at _ _ _, by rw [upr_at, c11]⟩
        · have i1 : (j < k + 1 ∧ ¬ X 5 j = -1 ∧ ¬ X 8 j = 0) ↔ (j < k ∧ ¬ X 5 j = -1 ∧ ¬ X 8 j = 0) := ⟨fun y => ⟨by omega, y.2⟩, fun y => ⟨by omega, y.2⟩⟩
          have i2 : (j < k + 1 ∧ ¬ X 5 j = -1) ↔ (j < k ∧ ¬ X 5 j = -1) := ⟨fun y => ⟨by omega, y.2⟩, fun y => ⟨by omega, y.2⟩⟩
          rw [upr_ne e, upr_ne e, upr_ne e, upr_ne e, upr_ne e, upr_ne e]
          simp only [i1, i2]; exact w
/-- the reference's rows along the first loop -/
def eI (Y : Nat → Nat → Int32) (k : Nat) (s72 s73 s74 s75 s76 s80 s79 : Nat → Int32) : Prop := ∀ j, (s72 j = if j < k ∧ ¬ Y 72 j = 0 ∧ ¬ Y 76 j = 0 then 0 else Y 72 j) ∧ (s73 j = if j < k ∧ ¬ Y 72 j = 0 ∧ ¬ Y 76 j = 0 then -1 else Y 73 j) ∧ (s74 j = if j < k ∧ ¬ Y 72 j = 0 ∧ ¬ Y 76 j = 0 then -1 else Y 74 j) ∧ (s75 j = if j < k ∧ ¬ Y 72 j = 0 ∧ ¬ Y 76 j = 0 then 0 else Y 75 j) ∧ (s76 j = if j < k ∧ ¬ Y 72 j = 0 ∧ ¬ Y 76 j = 0 then 0 else Y 76 j) ∧ (s80 j = if j < k ∧ ¬ Y 72 j = 0 ∧ ¬ Y 76 j = 0 then 0 else Y 80 j) ∧ (s79 j = if j < k ∧ ¬ Y 72 j = 0 ∧ ¬ Y 76 j = 0 then Y 79 j + 1 else Y 79 j)
theorem y1_rows {Y : Nat → Nat → Int32} (L' : Nat → Nat → Int64) : ∀ k, k ≤ 12 → eI Y k (y1_it Y L' k).1 (y1_it Y L' k).2.1 (y1_it Y L' k).2.2.1 (y1_it Y L' k).2.2.2.1 (y1_it Y L' k).2.2.2.2.1 (y1_it Y L' k).2.2.2.2.2.1 (y1_it Y L' k).2.2.2.2.2.2 := by
  intro k
  induction k with
  | zero =>
    intro _ j
    refine ⟨?_, ?_, ?_, ?_, ?_, ?_, ?_⟩ <;> (rw [if_neg (by omega)]; rfl)
  | succ k ih =>
    intro hk
    have h := ih (by omega)
    rw [y1_it_s]
    generalize y1_it Y L' k = s at h
    obtain ⟨s72, s73, s74, s75, s76, s80, s79⟩ := s
    dsimp only at h ⊢
    have hk0 := h k
    rw [if_neg (by omega), if_neg (by omega), if_neg (by omega), if_neg (by omega), if_neg (by omega), if_neg (by omega), if_neg (by omega)] at hk0
    obtain ⟨c72, c73, c74, c75, c76, c80, c79⟩ := hk0
    unfold y1_st
    dsimp only
    rw [nI_clamp (by omega)]
    simp only [c72, c76]
    by_cases p1 : ¬ Y 72 k = 0 ∧ ¬ Y 76 k = 0
    · rw [if_neg p1.1, if_neg p1.2]
      intro j
      have w := h j
      dsimp only
      by_cases e : j = k
      · subst e
        have p2 : j < j + 1 ∧ ¬ Y 72 j = 0 ∧ ¬ Y 76 j = 0 := ⟨by omega, p1⟩
        rw [if_pos p2, if_pos p2, if_pos p2, if_pos p2, if_pos p2, if_pos p2, if_pos p2]
        exact ⟨upr_at _ _ _, upr_at _ _ _, upr_at _ _ _, upr_at _ _ _, upr_at _ _ _, upr_at _ _ _, by rw [upr_at, c79]⟩
      · have i1 : (j < k + 1 ∧ ¬ Y 72 j = 0 ∧ ¬ Y 76 j = 0) ↔ (j < k ∧ ¬ Y 72 j = 0 ∧ ¬ Y 76 j = 0) := ⟨fun y => ⟨by omega, y.2⟩, fun y => ⟨by omega, y.2⟩⟩
        rw [upr_ne e, upr_ne e, upr_ne e, upr_ne e, upr_ne e, upr_ne e, upr_ne e]
        simp only [i1]; exact w
    · have e0 : ∀ (A C : (Nat → Int32) × (Nat → Int32) × (Nat → Int32) × (Nat → Int32) × (Nat → Int32) × (Nat → Int32) × (Nat → Int32)), (if Y 72 k = 0 then A else if Y 76 k = 0 then A else C) = A := by
        intro A C
        by_cases g : Y 72 k = 0
        · rw [if_pos g]
        · rw [if_neg g]
          by_cases g2 : Y 76 k = 0
          · rw [if_pos g2]
          · exact absurd ⟨g, g2⟩ p1
      rw [e0]
      intro j
      have w := h j
      dsimp only
      by_cases e : j = k
      · subst e
        have p2 : ¬ (j < j + 1 ∧ ¬ Y 72 j = 0 ∧ ¬ Y 76 j = 0) := fun y => p1 y.2
        rw [if_neg p2, if_neg p2, if_neg p2, if_neg p2, if_neg p2, if_neg p2, if_neg p2]
        exact ⟨c72, c73, c74, c75, c76, c80, c79⟩
      · have i1 : (j < k + 1 ∧ ¬ Y 72 j = 0 ∧ ¬ Y 76 j = 0) ↔ (j < k ∧ ¬ Y 72 j = 0 ∧ ¬ Y 76 j = 0) := ⟨fun y => ⟨by omega, y.2⟩, fun y => ⟨by omega, y.2⟩⟩
        simp only [i1]; exact w
theorem y2_rows {Y : Nat → Nat → Int32} {n m : Nat} (L' : Nat → Nat → Int64) : ∀ k, k ≤ 12 → ∀ j, (y2_it Y L' n m k).1 j = if j < k ∧ ¬ Y 72 j = 0 then Y 75 j + tlNow Y L' n m (nI j) 2 else Y 75 j := by
  intro k
  induction k with
  | zero => intro _ j; rw [if_neg (by omega)]; rfl
  | succ k ih =>
    intro hk j
    have h := ih (by omega)
    rw [y2_it_s]
    unfold y2_st
    rw [nI_clamp (by omega)]
    have hk0 := h k
    rw [if_neg (by omega)] at hk0
    by_cases a : Y 72 k = 0
    · rw [if_pos a]
      dsimp only
      by_cases e : j = k
      · subst e; rw [upr_at, hk0, if_neg (fun y => y.2 a), Int32.add_zero]
      · rw [upr_ne e, h j]
        have i1 : (j < k + 1 ∧ ¬ Y 72 j = 0) ↔ (j < k ∧ ¬ Y 72 j = 0) := ⟨fun y => ⟨by omega, y.2⟩, fun y => ⟨by omega, y.2⟩⟩
        simp only [i1]
    · rw [if_neg a]
      dsimp only
      by_cases e : j = k
      · subst e; rw [upr_at, hk0, if_pos (show j < j + 1 ∧ ¬ Y 72 j = 0 from ⟨by omega, a⟩)]
      · rw [upr_ne e, h j]
        have i1 : (j < k + 1 ∧ ¬ Y 72 j = 0) ↔ (j < k ∧ ¬ Y 72 j = 0) := ⟨fun y => ⟨by omega, y.2⟩, fun y => ⟨by omega, y.2⟩⟩
        simp only [i1]
section
variable {c q m n D H B l h : Nat} {X Y : Nat → Nat → Int32} {xa xl N : Nat → Nat}
theorem St.hours (z : St c q m n D H B l h X Y) (hA : AR n xa xl N X Y) (hB : XB n xa xl) (L L' : Nat → Nat → Int64) : ∀ k, k ≤ q → Rw q (yh_it Y L' n m k).1 (hour_it X L xa xl n m k).1 := by
  have h12 := z.hq.2.1
  have e77 := z.2.1.2.2.2.2.2.2.2.1
  have e76 := z.2.1.2.2.2.2.2.2.1
  intro k
  induction k with
  | zero => intro _; exact e77
  | succ k ih =>
    intro hk
    have h := ih (by omega)
    rw [yh_it_s, hour_it_s]
    unfold yh_st hour_st
    have et := z.tells hA hB L L' (p := k) (by omega) (k := 3) (by decide)
    rw [show (3 : Int32) = nI 3 from rfl, z.held_at (show k < q by omega), nI_clamp (by omega), e76 k (by omega), et]
    have hz : Rw q (upr (yh_it Y L' n m k).1 k ((yh_it Y L' n m k).1 k + 0)) (hour_it X L xa xl n m k).1 := by
      intro j hj
      by_cases e : j = k
      · subst e; rw [upr_at, Int32.add_zero]; exact h j hj
      · rw [upr_ne e]; exact h j hj
    by_cases a : Y 72 k = 0
    · rw [if_pos a, if_pos a]; exact hz
    · rw [if_neg a, if_neg a]
      by_cases b : X 8 k = 0
      · rw [if_pos b, if_pos b]; exact hz
      · rw [if_neg b, if_neg b]
        by_cases w : tlNow Y L' n m (nI k) (nI 3) = 0
        · rw [if_neg (not_not_intro w), if_neg (not_not_intro w)]
          exact h.up2 (by rw [h k (by omega)])
        · rw [if_pos w, if_pos w]; exact hz
theorem pp_hour (z : St c q m n D H B l h X Y) (hA : AR n xa xl N X Y) (hB : XB n xa xl) (L L' : Nat → Nat → Int64) : Ok c n X Y (xHour X L xa xl n m q).2 (yHour Y L' n m q).2 (xHour X L xa xl n m q).1 (yHour Y L' n m q).1 := by
  obtain ⟨h1, h2, h3, h4, h5, h6, h7, h8, h9, h10, h11, h12, h13, h14, g1, g2, g3, g4, g5, g6, g7, g8, g9, g10, g11⟩ := z.1.nx
  unfold xHour yHour
  rw [h5, g5]
  by_cases a : nI H < 23
  · rw [if_pos a, if_neg (show ¬ nI H = 23 from fun e => by rw [e, Int32.lt_iff_toInt_lt] at a; omega)]
    rw [Int32.lt_iff_toInt_lt, nI_toInt (by omega), toI_23] at a
    have eh := (z.c61 0 0).hours hA hB L L' q (Nat.le_refl _)
    obtain ⟨e70, e71, e72, e73, e74, e75, e76, e77, bb⟩ := z.2.1.nx
    refine ⟨rfl, ((FX.rfl.u1 (by decide) _).u38 _).u2 (by decide) _ _, ((FY.u1r (b := 77) (N := 12) (FY.rfl.u2 n61 0) (by decide) rfl (fun k hk => yh_big L' q h9 (Nat.le_trans h9 hk))).u121 _).u2 (nwr (N := 1) (by decide) rfl (by omega)) _, q, m, D, H + 1, B, l, h, ⟨h1, h2, h3, h4, nI_1 H, h6, h7, h8, h9, h10, h11, h12, by omega, h14, g1, g2, g3, g4, nI_1 H, g6, g7, g8, g9, g10, g11⟩, ⟨e70, e71, e72, e73, e74, e75, e76, eh, bb⟩, z.2.2.1.nx, z.2.2.2⟩
  · rw [if_neg a]
    rw [Int32.lt_iff_toInt_lt, nI_toInt (by omega), toI_23] at a
    have : H = 23 := by omega
    subst this
    rw [if_pos (show nI 23 = 23 from rfl)]; exact z.ok0 rfl
end
