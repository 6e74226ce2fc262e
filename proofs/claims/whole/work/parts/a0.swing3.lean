/-! THE SWING: the DEBTS that might be bought, on both sides -/
def GI (A X : Nat → Nat → Int32) (P hi : Nat) (s : (Nat → Int32) × (Nat → Int32) × (Nat → Int32) × (Nat → Int32) × Int32) (t : Int32 × (Nat → Int32)) : Prop := ∃ (k : Nat) (dd : Nat → Nat), k ≤ 10 ∧ s.2.2.2.2 = nI k ∧ t.1 = nI k ∧ (∀ i, i < k → dd i < hi ∧ X 24 (dd i) = 0 ∧ X 17 (dd i) = nI P ∧ t.2 i = nI (dd i) ∧ s.1 i = X 18 (dd i) ∧ s.2.1 i = due X (nI (dd i)) (X 1 4) ∧ s.2.2.1 i = thouOf X (due X (nI (dd i)) (X 1 4)) (leastOf X (X 18 (dd i)) (nI P)) ∧ s.2.2.2.1 i = vp_nar .boolean (vCounts A (nI (dd i)))) ∧ (∀ i i', i < k → i' < k → dd i = dd i' → i = i')
theorem GI.mono {A X : Nat → Nat → Int32} {P hi hi' : Nat} {s : (Nat → Int32) × (Nat → Int32) × (Nat → Int32) × (Nat → Int32) × Int32} {t : Int32 × (Nat → Int32)} (h : GI A X P hi s t) (e : hi ≤ hi') : GI A X P hi' s t := by
  obtain ⟨k, dd, h1, h2, h3, h4, h5⟩ := h
  exact ⟨k, dd, h1, h2, h3, fun i hi => ⟨by have := (h4 i hi).1; omega, (h4 i hi).2⟩, h5⟩
theorem GI.snoc {A X : Nat → Nat → Int32} {P hi : Nat} {s : (Nat → Int32) × (Nat → Int32) × (Nat → Int32) × (Nat → Int32) × Int32} {t : Int32 × (Nat → Int32)} (h : GI A X P hi s t) (h10 : ¬ (10 : Int32) ≤ s.2.2.2.2) (h24 : X 24 hi = 0) (h17 : X 17 hi = nI P) : GI A X P (hi + 1) (upr s.1 s.2.2.2.2.toNatClampNeg (X 18 hi), upr s.2.1 s.2.2.2.2.toNatClampNeg (due X (nI hi) (X 1 4)), upr s.2.2.1 s.2.2.2.2.toNatClampNeg (thouOf X (due X (nI hi) (X 1 4)) (leastOf X (X 18 hi) (nI P))), upr s.2.2.2.1 s.2.2.2.2.toNatClampNeg (vp_nar .boolean (vCounts A (nI hi))), s.2.2.2.2 + 1) (t.1 + 1, upr t.2 t.1.toNatClampNeg (nI hi)) := by
  obtain ⟨k, dd, h1, h2, h3, h4, h5⟩ := h
  rw [h2] at h10
  rw [Int32.le_iff_toInt_le, toI_10, nI_toInt (by omega)] at h10
  rw [h2, h3, nI_clamp (by omega), nI_1]
  refine ⟨k + 1, upr dd k hi, by omega, rfl, rfl, fun i hi' => ?_, fun i i' g1 g2 e => ?_⟩
  · by_cases e : i = k
    · subst e; dsimp only; rw [upr_at, upr_at, upr_at, upr_at, upr_at, upr_at]; exact ⟨by omega, h24, h17, rfl, rfl, rfl, rfl, rfl⟩
    · dsimp only; rw [upr_ne e, upr_ne e, upr_ne e, upr_ne e, upr_ne e, upr_ne e]
      have w := h4 i (by omega)
      exact ⟨by have := w.1; omega, w.2⟩
  · by_cases e1 : i = k
    · by_cases e2 : i' = k
      · rw [e1, e2]
      · rw [e1, upr_at, upr_ne e2] at e
        have := (h4 i' (by omega)).1; omega
    · by_cases e2 : i' = k
      · rw [e2, upr_at, upr_ne e1] at e
        have := (h4 i (by omega)).1; omega
      · rw [upr_ne e1, upr_ne e2] at e; exact h5 i i' (by omega) (by omega) e
theorem gath2 {A X Y' : Nat → Nat → Int32} {m P : Nat} {F : Int32} (L L' : Nat → Nat → Int64) (hA : ∀ a, a ≤ 35 → A a = X a) (hm0 : X 16 0 = nI m) (hm : m ≤ 40) (e440 : A 44 0 = nI P) (e473 : A 47 3 = F) (e87 : Rw m (Y' 87) (X 17)) (e88 : Rw m (Y' 88) (X 18)) (e94 : Rw m (Y' 94) (X 24)) : ∀ f j s t, j + f = m → GI A X P j s t → GI A X P m (sg_wl A L m f j s) (mg_wl Y' L' (nI P) F f j t) := by
  intro f
  induction f with
  | zero => intro j s t hj h; rw [show j = m by omega] at h; exact h
  | succ f ih =>
    intro j s t hj h
    rw [sg_wl, mg_wl]
    have es : s.2.2.2.2 = t.1 := by obtain ⟨k, dd, -, h2, h3, -⟩ := h; rw [h2, h3]
    by_cases c0 : (10 : Int32) ≤ s.2.2.2.2
    · rw [if_pos c0, if_pos (show (10 : Int32) ≤ t.1 by rw [← es]; exact c0)]; exact h.mono (by omega)
    · rw [if_neg c0, if_neg (show ¬ (10 : Int32) ≤ t.1 by rw [← es]; exact c0), owes_cg hA, e440, owes_at hm0 hm (by omega), hA 18 (by decide), e473, nI_clamp (by omega), e94 j (by omega), e87 j (by omega), e88 j (by omega)]
      by_cases c1 : X 24 j = 0
      · rw [if_neg (show ¬ ¬ X 24 j = 0 from not_not_intro c1)]
        by_cases c2 : X 17 j = nI P
        · rw [if_pos (⟨c1, c2⟩ : X 24 j = 0 ∧ X 17 j = nI P), if_neg one_nz, if_neg (show ¬ ¬ X 17 j = nI P from not_not_intro c2)]
          by_cases c3 : X 18 j = F
          · rw [if_pos c3, if_pos c3]; exact ih (j + 1) _ _ (by omega) (h.mono (by omega))
          · rw [if_neg c3, if_neg c3, up2_at, due_cg hA, hA 1 (by decide)]
            have el : leastOf A (X 18 j) (nI P) = leastOf X (X 18 j) (nI P) := by unfold leastOf; rw [hA 33 (by decide)]
            rw [el]
            exact ih (j + 1) _ _ (by omega) (h.snoc c0 c1 c2)
        · rw [if_neg (show ¬ (X 24 j = 0 ∧ X 17 j = nI P) from fun y => c2 y.2), if_pos rfl, if_pos c2]
          exact ih (j + 1) _ _ (by omega) (h.mono (by omega))
      · rw [if_neg (show ¬ (X 24 j = 0 ∧ X 17 j = nI P) from fun y => c1 y.1), if_pos rfl, if_pos c1]
        exact ih (j + 1) _ _ (by omega) (h.mono (by omega))
/-! THE SWING: the class's step, the reference's step -/
def chs (I : Nat → Nat → Int32) (L : Nat → Nat → Int64) (z j : Nat) (s : Int32 × Int32 × (Nat → Int32) × Int32 × Int32 × Int64 × Int64 × Int64 × Int64) : (Nat → Int32) × Int32 × Int32 × Int64 × Int64 × Int64 := if (nI j) ≤ 0 then (s.2.2.1, s.2.2.2.1, s.2.2.2.2.1, s.2.2.2.2.2.2.1, s.2.2.2.2.2.2.2.1, s.2.2.2.2.2.2.2.2) else ch_it (up2 I 47 1 s.2.1) (up2 L 47 0 s.2.2.2.2.2.1) s.2.2.1 s.2.2.2.1 s.2.2.2.2.1 s.2.2.2.2.2.2.1 s.2.2.2.2.2.2.2.1 s.2.2.2.2.2.2.2.2 ((nI j) - (1 : Int32)) (nI j) z
def pick (s : Int32 × Int32 × (Nat → Int32) × Int32 × Int32 × Int64 × Int64 × Int64 × Int64) (c : (Nat → Int32) × Int32 × Int32 × Int64 × Int64 × Int64) (j : Nat) (B : Int32) : Int32 × Int32 × (Nat → Int32) × Int32 × Int32 × Int64 × Int64 × Int64 × Int64 := if s.1 = 0 then (if B = 0 then (s.1, s.2.1, c.1, c.2.1, c.2.2.1, s.2.2.2.2.2.1, c.2.2.2.1, c.2.2.2.2.1, c.2.2.2.2.2) else (1, nI j, c.1, c.2.1, c.2.2.1, c.2.2.2.1, c.2.2.2.1, c.2.2.2.2.1, c.2.2.2.2.2)) else if 0 ≤ lg_cmp c.2.2.2.1 s.2.2.2.2.2.1 then (s.1, s.2.1, c.1, c.2.1, c.2.2.1, s.2.2.2.2.2.1, c.2.2.2.1, c.2.2.2.2.1, c.2.2.2.2.2) else if B = 0 then (s.1, s.2.1, c.1, c.2.1, c.2.2.1, s.2.2.2.2.2.1, c.2.2.2.1, c.2.2.2.2.1, c.2.2.2.2.2) else (1, nI j, c.1, c.2.1, c.2.2.1, c.2.2.2.1, c.2.2.2.1, c.2.2.2.2.1, c.2.2.2.2.2)
theorem sf_eq (I : Nat → Nat → Int32) (L : Nat → Nat → Int64) (c0 : Int32) (g0 : Nat → Int32) (u0 u1 : Int32) (q0 p0 w0 w1 : Int64) (z j : Nat) (s : Int32 × Int32 × (Nat → Int32) × Int32 × Int32 × Int64 × Int64 × Int64 × Int64) : sf_st I L c0 g0 u0 u1 q0 p0 w0 w1 z j s = pick s (chs I L z j s) j (bnd (chs I L z j s).2.1 (chs I L z j s).2.2.1 (I 44 2) (I 44 3) (chs I L z j s).2.2.2.2.1 (chs I L z j s).2.2.2.2.2) := by
  unfold sf_st chs
  by_cases c : nI j ≤ 0
  · rw [if_pos c, if_pos c]; rfl
  · rw [if_neg c, if_neg c]; rfl
theorem zwF_s (L : Nat → Nat → Int64) (n m q : Nat) (p fd r b : Int32) (z : Nat) : ∀ k st s, zwF L n m q p fd r b z (k + 1) st s = zwN L n m q p fd r b z (st + k) (zwF L n m q p fd r b z k st s) := by
  intro k
  induction k with
  | zero => intro st s; rfl
  | succ k ih =>
    intro st s
    rw [show zwF L n m q p fd r b z (k + 1 + 1) st s = zwF L n m q p fd r b z (k + 1) (st + 1) (zwN L n m q p fd r b z st s) from rfl, ih, show st + 1 + k = st + (k + 1) by omega]
    rfl
/-- the sets so far, on both sides -/
def SWI (Y : Nat → Nat → Int32) (z q m : Nat) (dd : Nat → Nat) (cn0 : Nat → Bool) (wh0 : Nat → Nat) (bu : Bool) (F : Nat) (du : Nat → Int64) (sg : Nat → Bool) (co : Nat → Int64) (k : Nat) (s : Int32 × Int32 × (Nat → Int32) × Int32 × Int32 × Int64 × Int64 × Int64 × Int64) (T : Int32 × Int64 × (Nat → Nat → Int32)) : Prop := (∃ cn wh, SB m z dd cn0 wh0 bu F (bt (nI (k - 1))) cn wh ∧ Tally q m cn wh du sg s.2.2.1 s.2.2.2.1 s.2.2.2.2.1 s.2.2.2.2.2.2.2.1 s.2.2.2.2.2.2.2.2 ∧ s.2.2.2.2.2.2.1 = cstB co (bt (nI (k - 1))) z) ∧ ((s.1 = 0 ∧ T.1 = -1) ∨ (s.1 = 1 ∧ (∃ w, w < 1024 ∧ T.1 = nI w) ∧ s.2.1 = T.1 ∧ s.2.2.2.2.2.1 = T.2.1)) ∧ (∀ a, a ≤ 113 → T.2.2 a = Y a) ∧ (∀ i, i < z → T.2.2 124 i = nI (dd i)) ∧ FY Y T.2.2
