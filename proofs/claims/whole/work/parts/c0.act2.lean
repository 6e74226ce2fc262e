/-! act: its copies, its end, on both sides -/
theorem ct_at (I : Nat → Nat → Int32) (L : Nat → Nat → Int64) {a i : Nat} (ha : a < 4) (hi : i < 20) (g0 g1 g2 : Nat → Int32) : ∀ j, j ≤ 4 → ∀ k, ((ct_it I L a i g0 g1 g2 j).1 k = if 4 * (20 * a + i) ≤ k ∧ k < 4 * (20 * a + i) + j then I 118 (4 * i + (k - 4 * (20 * a + i))) else g0 k) ∧ ((ct_it I L a i g0 g1 g2 j).2.1 k = if 4 * (20 * a + i) ≤ k ∧ k < 4 * (20 * a + i) + j then I 119 (4 * i + (k - 4 * (20 * a + i))) else g1 k) ∧ ((ct_it I L a i g0 g1 g2 j).2.2 k = if 4 * (20 * a + i) ≤ k ∧ k < 4 * (20 * a + i) + j then I 120 (4 * i + (k - 4 * (20 * a + i))) else g2 k) := by
  intro j
  induction j with
  | zero =>
    intro _ k
    have h : ¬ (4 * (20 * a + i) ≤ k ∧ k < 4 * (20 * a + i) + 0) := by omega
    rw [if_neg h, if_neg h, if_neg h]
    exact ⟨rfl, rfl, rfl⟩
  | succ j ih =>
    intro hj k
    obtain ⟨h0, h1, h2⟩ := ih (by omega) k
    rw [ct_it_s]
    unfold ct_st
    rw [k4n, k4n, nI_clamp (show 4 * (20 * a + i) + j < 2 ^ 31 by omega), nI_clamp (show 4 * i + j < 2 ^ 31 by omega)]
    show (upr _ _ _ k = _) ∧ (upr _ _ _ k = _) ∧ (upr _ _ _ k = _)
    by_cases e : k = 4 * (20 * a + i) + j
    · have c : 4 * (20 * a + i) ≤ k ∧ k < 4 * (20 * a + i) + (j + 1) := by omega
      rw [if_pos c, if_pos c, if_pos c, e, upr_at, upr_at, upr_at, show 4 * i + (4 * (20 * a + i) + j - 4 * (20 * a + i)) = 4 * i + j by omega]
      exact ⟨rfl, rfl, rfl⟩
    · rw [upr_ne e, upr_ne e, upr_ne e, h0, h1, h2]
      by_cases d : 4 * (20 * a + i) ≤ k ∧ k < 4 * (20 * a + i) + j
      · have c : 4 * (20 * a + i) ≤ k ∧ k < 4 * (20 * a + i) + (j + 1) := by omega
        rw [if_pos d, if_pos d, if_pos d, if_pos c, if_pos c, if_pos c]
        exact ⟨rfl, rfl, rfl⟩
      · have c : ¬ (4 * (20 * a + i) ≤ k ∧ k < 4 * (20 * a + i) + (j + 1)) := by omega
        rw [if_neg d, if_neg d, if_neg d, if_neg c, if_neg c, if_neg c]
        exact ⟨rfl, rfl, rfl⟩
/-- all lines' copies -/
theorem cl_at (K : Nat → Nat → Int32) (L : Nat → Nat → Int64) {a : Nat} (ha : a < 4) {c : Nat} (hc : c ≤ 20) (hT : ∀ i, i < c → ∃ t, t ≤ 4 ∧ K 116 i = nI t) : ∀ j, j ≤ c → (∀ k, ((cl_it K L a j).1 k = if 20 * a ≤ k ∧ k < 20 * a + j then K 115 (k - 20 * a) else K 108 k) ∧ ((cl_it K L a j).2.1 k = if 20 * a ≤ k ∧ k < 20 * a + j then K 116 (k - 20 * a) else K 109 k) ∧ ((cl_it K L a j).2.2.1 k = if 20 * a ≤ k ∧ k < 20 * a + j then K 117 (k - 20 * a) else K 110 k)) ∧ (∀ i, i < j → ∀ t, K 116 i = nI t → t ≤ 4 → ∀ u, u < t → (cl_it K L a j).2.2.2.1 (4 * (20 * a + i) + u) = K 118 (4 * i + u) ∧ (cl_it K L a j).2.2.2.2.1 (4 * (20 * a + i) + u) = K 119 (4 * i + u) ∧ (cl_it K L a j).2.2.2.2.2 (4 * (20 * a + i) + u) = K 120 (4 * i + u)) ∧ (∀ k, ¬ (4 * (20 * a) ≤ k ∧ k < 4 * (20 * a + 20)) → (cl_it K L a j).2.2.2.1 k = K 111 k ∧ (cl_it K L a j).2.2.2.2.1 k = K 112 k ∧ (cl_it K L a j).2.2.2.2.2 k = K 113 k) := by
  intro j
  induction j with
  | zero =>
    intro _
    refine ⟨fun k => ?_, fun i hi => by omega, fun k _ => ⟨rfl, rfl, rfl⟩⟩
    have h : ¬ (20 * a ≤ k ∧ k < 20 * a + 0) := by omega
    rw [if_neg h, if_neg h, if_neg h]
    exact ⟨rfl, rfl, rfl⟩
  | succ j ih =>
    intro hj
    obtain ⟨i1, i2, i3⟩ := ih (by omega)
    obtain ⟨t, ht, e116⟩ := hT j (by omega)
    rw [cl_it_s]
    unfold cl_st
    rw [k20n, nI_clamp (show 20 * a + j < 2 ^ 31 by omega), nI_clamp (show j < 2 ^ 31 by omega), e116, nI_clamp (show t < 2 ^ 31 by omega)]
    generalize hR : (up1 (up1 (up1 K 108 (upr (cl_it K L a j).1 (20 * a + j) (K 115 j))) 109 (upr (cl_it K L a j).2.1 (20 * a + j) (nI t))) 110 (upr (cl_it K L a j).2.2.1 (20 * a + j) (K 117 j))) = R
    have eR : ∀ z, 111 ≤ z → R z = K z := fun z hz => by rw [← hR, up1_ne (by omega), up1_ne (by omega), up1_ne (by omega)]
    have Q := ct_at R L ha (show j < 20 by omega) (cl_it K L a j).2.2.2.1 (cl_it K L a j).2.2.2.2.1 (cl_it K L a j).2.2.2.2.2 t ht
    rw [eR 118 (by decide), eR 119 (by decide), eR 120 (by decide)] at Q
    dsimp only
    refine ⟨fun k => ?_, fun i hi t' e' ht' u hu => ?_, fun k hk => ?_⟩
    · obtain ⟨h0, h1, h2⟩ := i1 k
      by_cases e : k = 20 * a + j
      · have c : 20 * a ≤ k ∧ k < 20 * a + (j + 1) := by omega
        rw [if_pos c, if_pos c, if_pos c, e, upr_at, upr_at, upr_at, show 20 * a + j - 20 * a = j by omega, e116]
        exact ⟨rfl, rfl, rfl⟩
      · rw [upr_ne e, upr_ne e, upr_ne e, h0, h1, h2]
        by_cases d : 20 * a ≤ k ∧ k < 20 * a + j
        · have c : 20 * a ≤ k ∧ k < 20 * a + (j + 1) := by omega
          rw [if_pos d, if_pos d, if_pos d, if_pos c, if_pos c, if_pos c]
          exact ⟨rfl, rfl, rfl⟩
        · have c : ¬ (20 * a ≤ k ∧ k < 20 * a + (j + 1)) := by omega
          rw [if_neg d, if_neg d, if_neg d, if_neg c, if_neg c, if_neg c]
          exact ⟨rfl, rfl, rfl⟩
    · obtain ⟨h0, h1, h2⟩ := Q (4 * (20 * a + i) + u)
      rw [h0, h1, h2]
      by_cases e : i = j
      · subst e
        have tt : t' = t := nI_inj (by omega) (by omega) (e'.symm.trans e116)
        subst tt
        have c : 4 * (20 * a + i) ≤ 4 * (20 * a + i) + u ∧ 4 * (20 * a + i) + u < 4 * (20 * a + i) + t' := by omega
        rw [if_pos c, if_pos c, if_pos c, show 4 * (20 * a + i) + u - 4 * (20 * a + i) = u by omega]
        exact ⟨rfl, rfl, rfl⟩
      · have c : ¬ (4 * (20 * a + j) ≤ 4 * (20 * a + i) + u ∧ 4 * (20 * a + i) + u < 4 * (20 * a + j) + t) := by omega
        rw [if_neg c, if_neg c, if_neg c]
        exact i2 i (by omega) t' e' ht' u hu
    · obtain ⟨h0, h1, h2⟩ := Q k
      have c : ¬ (4 * (20 * a + j) ≤ k ∧ k < 4 * (20 * a + j) + t) := by omega
      rw [h0, h1, h2, if_neg c, if_neg c, if_neg c]
      exact i3 k hk
/-- what an act leaves as it is -/
def FXn (N : Nat) (X X' : Nat → Nat → Int32) : Prop := ∀ a, 61 ≤ a → a ≠ N → a ≠ N + 1 → X' a = X a
def FYa (Y Y' : Nat → Nat → Int32) : Prop := (∀ a, (a < 61 ∨ 130 ≤ a) → Y' a = Y a) ∧ ∀ a j, 62 ≤ a → a ≤ 113 → nn a ≤ j → Y' a j = Y a j
section
variable {c q m n D H B l h : Nat} {X Y : Nat → Nat → Int32}
/-- the tape is empty behind an act; the fault and the place are alike -/
theorem St.actS (z : St c q m n D H B l h X Y) {X' Y' : Nat → Nat → Int32} (hx : ∀ a, a ≤ 35 → a ≠ 1 → X' a = X a) (hy : ∀ a, 62 ≤ a → a ≤ 104 → a ≠ 63 → a ≠ 64 → a ≠ 65 → Y' a = Y a) (h1 : ∀ j, j ≠ 10 → j ≠ 11 → j ≠ 12 → X' 1 j = X 1 j) (h10 : X' 1 10 = 0) (h63 : Y' 63 0 = 0) (e64 : Y' 64 0 = X' 1 11) (e65 : Y' 65 0 = X' 1 12) : St (c + 1) q m n D H B 0 h X' Y' := by
  have z := z.nx
  obtain ⟨⟨a1, a2, a3, a4, a5, a6, a7, a8, a9, a10, a11, a12, a13, a14, a15, a16, a17, a18, a19, a20, a21, a22, a23, a24, a25⟩, hp, hd, hl, ht, hh⟩ := z
  unfold St
  rw [hx 2 (by decide) (by decide), hx 3 (by decide) (by decide), hx 4 (by decide) (by decide), hx 5 (by decide) (by decide), hx 6 (by decide) (by decide), hx 7 (by decide) (by decide), hx 8 (by decide) (by decide), hx 9 (by decide) (by decide), hx 10 (by decide) (by decide), hx 11 (by decide) (by decide), hx 12 (by decide) (by decide), hx 13 (by decide) (by decide), hx 14 (by decide) (by decide), hx 15 (by decide) (by decide), hx 16 (by decide) (by decide), hx 17 (by decide) (by decide), hx 18 (by decide) (by decide), hx 19 (by decide) (by decide), hx 20 (by decide) (by decide), hx 21 (by decide) (by decide), hx 22 (by decide) (by decide), hx 23 (by decide) (by decide), hx 24 (by decide) (by decide), hx 25 (by decide) (by decide), hx 26 (by decide) (by decide), hx 27 (by decide) (by decide), hx 28 (by decide) (by decide), hx 29 (by decide) (by decide), hx 30 (by decide) (by decide), hx 31 (by decide) (by decide), hx 33 (by decide) (by decide), hx 34 (by decide) (by decide), hx 35 (by decide) (by decide)]
  rw [hy 62 (by decide) (by decide) (by decide) (by decide) (by decide), hy 66 (by decide) (by decide) (by decide) (by decide) (by decide), hy 67 (by decide) (by decide) (by decide) (by decide) (by decide), hy 68 (by decide) (by decide) (by decide) (by decide) (by decide), hy 69 (by decide) (by decide) (by decide) (by decide) (by decide), hy 84 (by decide) (by decide) (by decide) (by decide) (by decide), hy 86 (by decide) (by decide) (by decide) (by decide) (by decide), hy 102 (by decide) (by decide) (by decide) (by decide) (by decide), hy 104 (by decide) (by decide) (by decide) (by decide) (by decide)]
  rw [hy 70 (by decide) (by decide) (by decide) (by decide) (by decide), hy 71 (by decide) (by decide) (by decide) (by decide) (by decide), hy 72 (by decide) (by decide) (by decide) (by decide) (by decide), hy 73 (by decide) (by decide) (by decide) (by decide) (by decide), hy 74 (by decide) (by decide) (by decide) (by decide) (by decide), hy 75 (by decide) (by decide) (by decide) (by decide) (by decide), hy 76 (by decide) (by decide) (by decide) (by decide) (by decide), hy 77 (by decide) (by decide) (by decide) (by decide) (by decide), hy 78 (by decide) (by decide) (by decide) (by decide) (by decide), hy 79 (by decide) (by decide) (by decide) (by decide) (by decide), hy 80 (by decide) (by decide) (by decide) (by decide) (by decide), hy 81 (by decide) (by decide) (by decide) (by decide) (by decide), hy 82 (by decide) (by decide) (by decide) (by decide) (by decide), hy 83 (by decide) (by decide) (by decide) (by decide) (by decide), hy 85 (by decide) (by decide) (by decide) (by decide) (by decide), hy 87 (by decide) (by decide) (by decide) (by decide) (by decide), hy 88 (by decide) (by decide) (by decide) (by decide) (by decide), hy 89 (by decide) (by decide) (by decide) (by decide) (by decide), hy 90 (by decide) (by decide) (by decide) (by decide) (by decide), hy 91 (by decide) (by decide) (by decide) (by decide) (by decide), hy 92 (by decide) (by decide) (by decide) (by decide) (by decide), hy 93 (by decide) (by decide) (by decide) (by decide) (by decide), hy 94 (by decide) (by decide) (by decide) (by decide) (by decide), hy 95 (by decide) (by decide) (by decide) (by decide) (by decide), hy 96 (by decide) (by decide) (by decide) (by decide) (by decide), hy 97 (by decide) (by decide) (by decide) (by decide) (by decide), hy 98 (by decide) (by decide) (by decide) (by decide) (by decide), hy 99 (by decide) (by decide) (by decide) (by decide) (by decide), hy 100 (by decide) (by decide) (by decide) (by decide) (by decide), hy 101 (by decide) (by decide) (by decide) (by decide) (by decide), hy 103 (by decide) (by decide) (by decide) (by decide) (by decide)]
  unfold SC
  rw [h1 3 (by decide) (by decide) (by decide), h1 4 (by decide) (by decide) (by decide), h1 5 (by decide) (by decide) (by decide), h1 6 (by decide) (by decide) (by decide), h1 7 (by decide) (by decide) (by decide), h1 14 (by decide) (by decide) (by decide), h10, h63, e64, e65]
  exact ⟨⟨a1, a2, a3, a4, a5, a6, rfl, a8, a9, a10, a11, a12, a13, a14, a15, a16, a17, a18, a19, a20, rfl, a22, rfl, rfl, a25⟩, hp, hd, hl, ⟨Nat.zero_le _, fun j hj => by omega, ht.2.2⟩, hh⟩
end
