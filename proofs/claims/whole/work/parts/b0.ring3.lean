/-! ring -/
section
variable {X J : Nat → Nat → Int32} {m q : Nat} {f : Nat → Nat → Nat}
theorem RNG.t114 (h : RNG X J m q) (t : Nat → Int32) : RNG X (up1 J 114 t) m q := ⟨h.1, h.2.1, h.2.2.1, fun d hd => h.2.2.2 d hd⟩
/-- live DEBTS of other debtors each -/
def LV (X : Nat → Nat → Int32) (m n : Nat) (t : Nat → Int32) : Prop := ∃ tt : Nat → Nat, (∀ i, i < n → t i = nI (tt i) ∧ tt i < m ∧ X 24 (tt i) = 0) ∧ ∀ i j, i < n → j < n → i ≠ j → daX X (tt i) ≠ daX X (tt j)
theorem dfs_lv (h : RNG X J m q) (L' : Nat → Nat → Int64) {b : Nat} (hb : b < m) : ∀ r n t, 1 ≤ n → n + r ≤ 12 → LV X m n t → (dfs J L' b m r n t).1 = true → LV X m (n + r) (dfs J L' b m r n t).2 := by
  intro r
  induction r with
  | zero => intro n t _ _ hl _; exact hl
  | succ r ih =>
    intro n t hn hn2 hl hd
    have inner : ∀ k d t, d + k = m → LV X m n t → (dfl J L' b (dfs J L' b m r (n + 1)) n k d t).1 = true → LV X m (n + (r + 1)) (dfl J L' b (dfs J L' b m r (n + 1)) n k d t).2 := by
      intro k
      induction k with
      | zero => intro d t _ _ y; exact absurd y (by simp [dfl])
      | succ k ihk =>
        intro d t hd2 hl2 y
        rw [dfl] at y ⊢
        have hdm : d < m := by omega
        by_cases g : goR (up1 J 114 t) L' n d b = 0
        · rw [if_pos g] at y ⊢; exact ihk (d + 1) t (by omega) hl2 y
        · rw [if_neg g] at y ⊢
          obtain ⟨tt, t1, t2⟩ := hl2
          obtain ⟨g1, g2, g3, g4⟩ := (goR_at h L' hn (by omega) (fun i hi => ⟨(t1 i hi).1, (t1 i hi).2.1⟩) hdm hb).mp g
          by_cases F : (dfs J L' b m r (n + 1) (upr t n (nI d))).1 = true
          · rw [if_pos F]
            have w := ih (n + 1) (upr t n (nI d)) (by omega) (by omega) ⟨upr tt n d, fun i hi => by
              by_cases e : i = n
              · subst e; rw [upr_at, upr_at]; exact ⟨rfl, hdm, g1⟩
              · rw [upr_ne e, upr_ne e]; exact t1 i (by omega), fun i j hi hj hij => by
              by_cases e1 : i = n
              · by_cases e2 : j = n
                · exact absurd (e1.trans e2.symm) hij
                · rw [e1, upr_at, upr_ne e2]; exact fun z => g4 j (by omega) z.symm
              · by_cases e2 : j = n
                · rw [e2, upr_at, upr_ne e1]; exact g4 i (by omega)
                · rw [upr_ne e1, upr_ne e2]; exact t2 i j (by omega) (by omega) hij⟩ F
            rw [show n + (r + 1) = n + 1 + r by omega]; exact w
          · rw [if_neg F] at y ⊢
            have keep : ∀ i, i < n → (dfs J L' b m r (n + 1) (upr t n (nI d))).2 i = t i := fun i hi => by
              rw [dfs_keep J L' b m r (n + 1) _ i (by omega), upr_ne (by omega)]
            exact ihk (d + 1) _ (by omega) ⟨tt, fun i hi => by rw [keep i hi]; exact t1 i hi, t2⟩ y
    exact inner (m - (b + 1)) (b + 1) t (by omega) hl hd
/-- a row of THE RING, by the class's followers -/
def ROW (X : Nat → Nat → Int32) (L : Nat → Nat → Int64) (M : Nat → Int32) (m e ln : Nat) (t : Nat → Int32) : Prop := t 0 = nI e ∧ ∀ i, 1 ≤ i → i < ln → t i = fol_sr (up1 X 43 M) L (t (i - 1)).toNatClampNeg e (nI (ln - i - 1)) m 0
theorem fR_low (h : RNG X J m q) (hf : DL (ED X m) f) (L' : Nat → Nat → Int64) (t : Nat → Int32) {b mn : Nat} (hb : b < m) (h2 : 2 ≤ mn) (h12 : mn ≤ 12) (hd : (fR (up1 J 114 t) L' b m mn).1 = true) : f (whX X b) (daX X b) ≤ mn - 1 := by
  refine dfs_low (h.t114 t) hf L' hb (mn - 1) 1 (upr ((up1 J 114 t) 114) 0 (nI b)) b (Nat.le_refl _) (by omega) (fun i hi => ⟨b, hb, ?_⟩) (upr_at _ _ _) hb hd
  have : i = 0 := by omega
  subst this; rw [upr_at]
theorem fR_row (h : RNG X J m q) (hf : DL (ED X m) f) (L L' : Nat → Nat → Int64) {M : Nat → Int32} (hM : ∀ u v, u < 12 → v < 12 → M (12 * u + v) = nI (f u v)) (t : Nat → Int32) {e ln : Nat} (hR : MR X m f e ln) (h2 : 2 ≤ ln) (h12 : ln ≤ 12) : (fR (up1 J 114 t) L' e m ln).1 = true ∧ ROW X L M m e ln (fR (up1 J 114 t) L' e m ln).2 ∧ LV X m ln (fR (up1 J 114 t) L' e m ln).2 := by
  have hR' := hR
  obtain ⟨m1, m2, m3, m4, m5, m6⟩ := hR'
  obtain ⟨a1, a2⟩ := (dfs_t (h.t114 t) hf L L' hM hR h12 (ln - 1) 1 (upr ((up1 J 114 t) 114) 0 (nI e)) (fun _ => e) (Nat.le_refl _) (by omega) (fun i hi => by
    have : i = 0 := by omega
    subst this; rw [upr_at]) ⟨rfl, fun i hi => ⟨m1, m2, fun y => by omega⟩⟩).1 (by show f (whX X e) (daX X e) ≤ _; omega)
  refine ⟨a1, ⟨?_, a2⟩, ?_⟩
  · show (dfs (up1 J 114 t) L' e m (ln - 1) 1 (upr ((up1 J 114 t) 114) 0 (nI e))).2 0 = nI e
    rw [dfs_keep (up1 J 114 t) L' e m (ln - 1) 1 _ 0 (by omega), upr_at]
  · have w := dfs_lv (h.t114 t) L' m1 (ln - 1) 1 (upr ((up1 J 114 t) 114) 0 (nI e)) (Nat.le_refl _) (by omega) ⟨fun _ => e, fun i hi => by
      have : i = 0 := by omega
      subst this; rw [upr_at]; exact ⟨rfl, m1, m2⟩, fun i j hi hj hij => by omega⟩ a1
    rw [show 1 + (ln - 1) = ln by omega] at w
    exact w
theorem ftB_no (h : RNG X J m q) (hf : DL (ED X m) f) (L' : Nat → Nat → Int64) {mn : Nat} (h2 : 2 ≤ mn) (h12 : mn ≤ 12) (hn : ∀ d, d < m → X 24 d = 0 → mn ≤ f (whX X d) (daX X d)) : ∀ k b t, b + k = m → (ftB J L' m mn k b t).1 = false := by
  have h' := h
  obtain ⟨h40, hq, hm, hr⟩ := h'
  intro k
  induction k with
  | zero => intro b t _; rfl
  | succ k ih =>
    intro b t hb
    rw [ftB]
    have e94 : J 94 b = X 24 b := (hr b (by omega)).2.2.2.2.2.2.2
    rw [e94]
    by_cases c : X 24 b = 0
    · rw [if_neg (not_not_intro c)]
      by_cases F : (fR (up1 J 114 t) L' b m mn).1 = true
      · have w := fR_low h hf L' t (b := b) (by omega) h2 h12 F
        have := hn b (by omega) c
        omega
      · rw [if_neg F]; exact ih (b + 1) _ (by omega)
    · rw [if_pos c]; exact ih (b + 1) t (by omega)
theorem ftB_yes (h : RNG X J m q) (hf : DL (ED X m) f) (L L' : Nat → Nat → Int64) {M : Nat → Int32} (hM : ∀ u v, u < 12 → v < 12 → M (12 * u + v) = nI (f u v)) {e ln : Nat} (hR : MR X m f e ln) (h2 : 2 ≤ ln) (h12 : ln ≤ 12) : ∀ k b t, b + k = m → b ≤ e → (ftB J L' m ln k b t).1 = true ∧ ROW X L M m e ln (ftB J L' m ln k b t).2 ∧ LV X m ln (ftB J L' m ln k b t).2 := by
  have h' := h
  obtain ⟨h40, hq, hm, hr⟩ := h'
  have hR' := hR
  obtain ⟨m1, m2, m3, m4, m5, m6⟩ := hR'
  intro k
  induction k with
  | zero => intro b t hb hbe; omega
  | succ k ih =>
    intro b t hb hbe
    rw [ftB]
    have e94 : J 94 b = X 24 b := (hr b (by omega)).2.2.2.2.2.2.2
    rw [e94]
    by_cases y : b = e
    · subst y
      rw [if_neg (not_not_intro m2)]
      obtain ⟨a1, a2, a3⟩ := fR_row h hf L L' hM t hR h2 h12
      rw [if_pos a1]
      exact ⟨a1, a2, a3⟩
    · by_cases c : X 24 b = 0
      · rw [if_neg (not_not_intro c)]
        by_cases F : (fR (up1 J 114 t) L' b m ln).1 = true
        · have w := fR_low h hf L' t (b := b) (by omega) h2 h12 F
          have := m6 b (by omega) c
          omega
        · rw [if_neg F]; exact ih (b + 1) _ (by omega) (by omega)
      · rw [if_pos c]; exact ih (b + 1) t (by omega) (by omega)
theorem ftM_no (h : RNG X J m q) (hf : DL (ED X m) f) (L' : Nat → Nat → Int64) (hn : ∀ d, d < m → X 24 d = 0 → 999 ≤ f (whX X d) (daX X d)) : ∀ k mn t, 2 ≤ mn → mn + k ≤ 13 → (ftM J L' m k mn t).1 = 0 := by
  intro k
  induction k with
  | zero => intro mn t _ _; rfl
  | succ k ih =>
    intro mn t h2 h13
    rw [ftM, if_neg (show ¬ (ftB J L' m mn m 0 t).1 = true by rw [ftB_no h hf L' h2 (by omega) (fun d hd h0 => by have := hn d hd h0; omega) m 0 t (by omega)]; simp)]
    exact ih (mn + 1) _ (by omega) (by omega)
theorem ftM_yes (h : RNG X J m q) (hf : DL (ED X m) f) (L L' : Nat → Nat → Int64) {M : Nat → Int32} (hM : ∀ u v, u < 12 → v < 12 → M (12 * u + v) = nI (f u v)) {e ln : Nat} (hR : MR X m f e ln) (h2 : 2 ≤ ln) (h12 : ln ≤ 12) : ∀ k mn t, 2 ≤ mn → mn ≤ ln → ln < mn + k → (ftM J L' m k mn t).1 = ln ∧ ROW X L M m e ln (ftM J L' m k mn t).2 ∧ LV X m ln (ftM J L' m k mn t).2 := by
  have hR' := hR
  obtain ⟨m1, m2, m3, m4, m5, m6⟩ := hR'
  intro k
  induction k with
  | zero => intro mn t _ _ _; omega
  | succ k ih =>
    intro mn t g2 gl gk
    rw [ftM]
    by_cases y : mn = ln
    · subst y
      obtain ⟨a1, a2, a3⟩ := ftB_yes h hf L L' hM hR h2 h12 m 0 t (by omega) (by omega)
      rw [if_pos a1]
      exact ⟨rfl, a2, a3⟩
    · rw [if_neg (show ¬ (ftB J L' m mn m 0 t).1 = true by rw [ftB_no h hf L' g2 (by omega) (fun d hd h0 => by have := m5 d hd h0; omega) m 0 t (by omega)]; simp)]
      exact ih (mn + 1) _ (by omega) (by omega) (by omega)
/-- the class's row is that -/
theorem rf_row (L : Nat → Nat → Int64) {M : Nat → Int32} {e ln : Nat} (hl : ln ≤ 12) {t : Nat → Int32} (hR : ROW X L M m e ln t) : ∀ k, k < ln → ∀ i, i ≤ k → rf_it (up1 X 43 M) L e ln m k i = t i := by
  intro k
  induction k with
  | zero =>
    intro _ i hi
    have : i = 0 := by omega
    subst this
    show upr ((up1 X 43 M) 35) 0 (nI e) 0 = _
    rw [upr_at]; exact hR.1.symm
  | succ k ih =>
    intro hk i hi
    rw [rf_it_s]
    unfold rf_st
    rw [nI_clamp (show k + 1 < 2 ^ 31 by omega), nI_p1 (show 1 ≤ k + 1 by omega), Nat.add_sub_cancel, nI_clamp (show k < 2 ^ 31 by omega), nI_sb (show k + 1 ≤ ln by omega) (by omega), nI_p1 (show 1 ≤ ln - (k + 1) by omega)]
    by_cases y : i = k + 1
    · subst y
      rw [upr_at, ih (by omega) k (Nat.le_refl _)]
      have w := hR.2 (k + 1) (by omega) hk
      rw [Nat.add_sub_cancel] at w
      exact w.symm
    · rw [upr_ne y]; exact ih (by omega) i (by omega)
end
section
variable {c q m n D H B l h : Nat} {X Y : Nat → Nat → Int32}
theorem St.rng (z : St c q m n D H B l h X Y) : RNG X Y m q := by
  have h40 := z.hq.2.2.2.1
  have h12 := z.hq.2.1
  refine ⟨h40, h12, z.hq.2.2.1, fun d hd => ?_⟩
  obtain ⟨f, t, hf, ht, hft, ef, et⟩ := z.ends hd
  have e1 : daX X d = f := by unfold daX; rw [ef, nI_clamp (by omega)]
  have e2 : whX X d = t := by unfold whX; rw [et, nI_clamp (by omega)]
  rw [e1, e2]
  exact ⟨ef, et, hf, ht, hft, z.2.2.1.1 d hd, z.2.2.1.2.1 d hd, z.2.2.1.2.2.2.2.2.2.2.1 d hd⟩
/-- THE RING, on both sides -/
theorem St.rings (z : St c q m n D H B l h X Y) (L L' : Nat → Nat → Int64) : (rgF X L m = (0, X 35) ∧ (fT (up2 Y 61 0 0) L' m q).1 = 0) ∨ ∃ ln, 2 ≤ ln ∧ ln ≤ 12 ∧ (rgF X L m).1 = nI ln ∧ (fT (up2 Y 61 0 0) L' m q).1 = ln ∧ (∀ i, i < ln → (rgF X L m).2 i = (fT (up2 Y 61 0 0) L' m q).2 i) ∧ LV X m ln (fT (up2 Y 61 0 0) L' m q).2 := by
  have h40 := z.hq.2.2.2.1
  have h12 := z.hq.2.1
  have hm := z.hq.2.2.1
  have hG := (z.c61 0 0).rng
  obtain ⟨f, hf, hM⟩ := meas_t (X := X) L hm h40 (fun d hd => by
    obtain ⟨f, t, hf, ht, hft, ef, et⟩ := z.ends hd
    exact ⟨f, t, by omega, by omega, hft, ef, et⟩)
  rcases fd_t hG hf L hM m (Nat.le_refl _) with ⟨a1, a2⟩ | ⟨e, ln, a1, a2, a3, a4, a5, a6, a7⟩
  · left
    refine ⟨?_, ?_⟩
    · unfold rgF
      rw [a1, if_pos rfl]
    · exact ftM_no hG hf L' (fun d hd h0 => by have := a2 d hd h0; omega) (q - 1) 2 _ (Nat.le_refl _) (by omega)
  · right
    have hR : MR X m f e ln := ⟨a2, a3, a4, a5, a6, a7⟩
    obtain ⟨b1, b2, b3, b4, b5, -⟩ := hG.2.2.2 e a2
    have sm := hf.small h12 (hG.eq) (u := whX X e) (v := daX X e) b4 (by omega) (by omega)
    have l2 : 2 ≤ ln := by
      have := hf.2.1 (whX X e) (daX X e) (by omega) (by omega)
      by_cases y : f (whX X e) (daX X e) = 0
      · exact absurd (this.mp y).symm b5
      · omega
    have hl12 : ln ≤ 12 := by omega
    have ft := ftM_yes hG hf L L' hM hR l2 hl12 (q - 1) 2 ((up2 Y 61 0 0) 114) (Nat.le_refl _) l2 (by omega)
    have ft' : (fT (up2 Y 61 0 0) L' m q).1 = ln ∧ ROW X L (meas X L m) m e ln (fT (up2 Y 61 0 0) L' m q).2 ∧ LV X m ln (fT (up2 Y 61 0 0) L' m q).2 := ft
    refine ⟨ln, l2, hl12, ?_, ft'.1, ?_, ft'.2.2⟩
    · unfold rgF
      rw [a1]
      dsimp only
      rw [if_neg (show ¬ nI e = -1 by rw [← Int32.toInt_inj, nI_toInt (by omega), toI_m1]; omega), if_pos (show nI ln ≤ 12 by rw [Int32.le_iff_toInt_le, nI_toInt (by omega), toI_12]; omega)]
    · intro i hi
      unfold rgF
      rw [a1]
      dsimp only
      rw [if_neg (show ¬ nI e = -1 by rw [← Int32.toInt_inj, nI_toInt (by omega), toI_m1]; omega), if_pos (show nI ln ≤ 12 by rw [Int32.le_iff_toInt_le, nI_toInt (by omega), toI_12]; omega), nI_clamp (by omega), nI_clamp (by omega)]
      exact rf_row L hl12 ft'.2.1 (ln - 1) (by omega) i (by omega)
theorem hc_big (I : Nat → Nat → Int32) (L : Nat → Nat → Int64) (t : Nat → Int32) {j : Nat} : ∀ k, k ≤ 12 → k ≤ j → hc_it I L t k j = I 103 j := by
  intro k
  induction k with
  | zero => intro _ _; rfl
  | succ k ih =>
    intro hk hj
    rw [hc_it_s]
    unfold hc_st
    rw [nI_clamp (by omega), upr_ne (by omega)]
    exact ih (by omega) (by omega)
theorem St.hand (z : St c q m n D H B l h X Y) {k : Nat} (hk : k ≤ 12) {x y : Nat → Int32} (e : Rw k y x) : St c q m n D H B l k (up2 (up1 X 35 x) 1 14 (nI k)) (up1 (up2 Y 102 0 (nI k)) 103 y) := by
  obtain ⟨h1, h2, h3, h4, h5, h6, h7, h8, h9, h10, h11, h12, h13, h14, g1, g2, g3, g4, g5, g6, g7, g8, g9, g10, g11⟩ := z.1
  exact ⟨⟨h1, h2, h3, h4, h5, h6, h7, rfl, h9, h10, h11, h12, h13, h14, g1, g2, g3, g4, g5, g6, g7, rfl, g9, g10, g11⟩, z.2.1, z.2.2.1, z.2.2.2.1, z.2.2.2.2.1, ⟨hk, e⟩⟩
/-- behind ring(), on both sides -/
theorem St.rung (z : St c q m n D H B l h X Y) (L L' : Nat → Nat → Int64) : FX X (rgI X L m) ∧ FY Y (ftI (up2 Y 61 0 0) L' m q) ∧ ((rgF X L m).1 = 0 ∧ ftA (up2 Y 61 0 0) L' m q = 0 ∧ St c q m n D H B l 0 (rgI X L m) (ftI (up2 Y 61 0 0) L' m q) ∨ ∃ ln, 2 ≤ ln ∧ ln ≤ 12 ∧ (rgF X L m).1 = nI ln ∧ (fT (up2 Y 61 0 0) L' m q).1 = ln ∧ ftA (up2 Y 61 0 0) L' m q = 1 ∧ (ftI (up2 Y 61 0 0) L' m q) 102 0 = nI ln ∧ St c q m n D H B l ln (rgI X L m) (ftI (up2 Y 61 0 0) L' m q) ∧ LV X m ln ((rgI X L m) 35) ∧ LV X m ln ((ftI (up2 Y 61 0 0) L' m q) 103)) := by
  have fX : FX X (rgI X L m) := by unfold rgI; exact ((FX.rfl.u1 (by decide) _).u1 (by decide) _).u2 (by decide) _ _
  rcases z.rings L L' with ⟨a1, a2⟩ | ⟨ln, l2, l12, a1, a2, a3, a4⟩
  · have eI : ftI (up2 Y 61 0 0) L' m q = up2 (up1 (up2 Y 61 0 0) 114 (fT (up2 Y 61 0 0) L' m q).2) 102 0 0 := by unfold ftI; rw [if_pos a2]
    have eA : ftA (up2 Y 61 0 0) L' m q = 0 := by unfold ftA; rw [if_pos a2]
    rw [eI, eA]
    refine ⟨fX, ((FY.rfl.u2 n61 0).u1 (Or.inl (by decide))).u2 (nwr (N := 1) (by decide) rfl (by decide)) 0, Or.inl ⟨by rw [a1], rfl, ?_⟩⟩
    have w := z.hand (k := 0) (by omega) (x := X 35) (y := Y 103) (fun j hj => by omega)
    unfold rgI
    rw [a1]
    exact ⟨w.1, w.2.1, w.2.2.1, w.2.2.2.1, w.2.2.2.2.1, w.2.2.2.2.2⟩
  · have ne : ¬ (fT (up2 Y 61 0 0) L' m q).1 = 0 := by omega
    have eI : ftI (up2 Y 61 0 0) L' m q = up1 (up2 (up1 (up2 Y 61 0 0) 114 (fT (up2 Y 61 0 0) L' m q).2) 102 0 (nI ln)) 103 (hc_it (up2 Y 61 0 0) L' (fT (up2 Y 61 0 0) L' m q).2 ln) := by unfold ftI; rw [if_neg ne, a2]
    have eA : ftA (up2 Y 61 0 0) L' m q = 1 := by unfold ftA; rw [if_neg ne]
    have hc := hc_at (up2 Y 61 0 0) L' (fT (up2 Y 61 0 0) L' m q).2 ln l12
    rw [eI, eA]
    have w := z.hand (k := ln) l12 (x := (rgF X L m).2) (y := hc_it (up2 Y 61 0 0) L' (fT (up2 Y 61 0 0) L' m q).2 ln) (fun j hj => by rw [hc j hj, a3 j hj])
    obtain ⟨tt, t1, t2⟩ := a4
    refine ⟨fX, FY.u1r (b := 103) (N := 12) (((FY.rfl.u2 n61 0).u1 (Or.inl (by decide))).u2 (nwr (N := 1) (by decide) rfl (by decide)) _) (by decide) rfl (fun k hk => hc_big _ _ _ ln l12 (by omega)), Or.inr ⟨ln, l2, l12, a1, a2, rfl, rfl, ?_, ⟨tt, fun i hi => ?_, t2⟩, ⟨tt, fun i hi => ?_, t2⟩⟩⟩
    · unfold rgI
      rw [a1]
      exact ⟨w.1, w.2.1, w.2.2.1, w.2.2.2.1, w.2.2.2.2.1, w.2.2.2.2.2⟩
    · show (rgF X L m).2 i = _ ∧ _
      rw [a3 i hi]; exact t1 i hi
    · show hc_it (up2 Y 61 0 0) L' (fT (up2 Y 61 0 0) L' m q).2 ln i = _ ∧ _
      rw [hc i hi]; exact t1 i hi
theorem pp_ring (z : St c q m n D H B l h X Y) (L L' : Nat → Nat → Int64) (xa xl : Nat → Nat) : Ok c n X Y (xRing X L xa xl n m q).2 (yRing Y L' n m q).2 (xRing X L xa xl n m q).1 (yRing Y L' n m q).1 := by
  obtain ⟨fX, fY, hh⟩ := z.rung L L'
  have eX : (xRing X L xa xl n m q).2 = rgI X L m := rfl
  have eY : (yRing Y L' n m q).2 = ftI (up2 Y 61 0 0) L' m q := rfl
  rw [eX, eY]
  rcases hh with ⟨h1, h2, h3⟩ | ⟨ln, l2, l12, h1, h2, h3, h4, h5, -, -⟩
  · refine ⟨?_, fX, fY, q, m, D, H, B, l, 0, h3.nx⟩
    show (if (rgF X L m).1 ≤ 0 then (-1 : Int32) else (rgF X L m).1) = (if ftA (up2 Y 61 0 0) L' m q = 0 then (-1 : Int32) else (ftI (up2 Y 61 0 0) L' m q) 102 0)
    rw [h1, h2, if_pos (show (0 : Int32) ≤ 0 by decide), if_pos rfl]
  · refine ⟨?_, fX, fY, q, m, D, H, B, l, ln, h5.nx⟩
    show (if (rgF X L m).1 ≤ 0 then (-1 : Int32) else (rgF X L m).1) = (if ftA (up2 Y 61 0 0) L' m q = 0 then (-1 : Int32) else (ftI (up2 Y 61 0 0) L' m q) 102 0)
    rw [h1, h3, h4, if_neg (show ¬ nI ln ≤ 0 by rw [le0_Z, nI_toInt (by omega)]; omega), if_neg one_nz]
end
