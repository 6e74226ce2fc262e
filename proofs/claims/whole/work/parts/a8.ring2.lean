/-! RINGS: the class's row, and that the reference's search finds it -/
section
variable {X J : Nat → Nat → Int32} {m q : Nat} {f : Nat → Nat → Nat}
theorem sbk_at (h : RNG X J m q) {M : Nat → Int32} (hM : ∀ u v, u < 12 → v < 12 → M (12 * u + v) = nI (f u v)) {d e : Nat} (hd : d < m) (he : e < m) : stepsBack (up1 X 43 M) (nI d) (nI e) = nI (f (whX X d) (daX X e)) := by
  obtain ⟨h40, h12, hm, hr⟩ := h
  obtain ⟨a1, a2, a3, a4, a5, -⟩ := hr d hd
  obtain ⟨b1, b2, b3, b4, b5, -⟩ := hr e he
  unfold stepsBack
  rw [nI_clamp (show d < 2 ^ 31 by omega), nI_clamp (show e < 2 ^ 31 by omega)]
  show (up1 X 43 M) 43 ((X 18 d * 12 + X 17 e).toNatClampNeg) = _
  rw [up1_at, a2, b1, k12, nI_clamp (by omega)]
  exact hM _ _ (by omega) (by omega)
theorem fd_t (h : RNG X J m q) (hf : DL (ED X m) f) (L : Nat → Nat → Int64) {M : Nat → Int32} (hM : ∀ u v, u < 12 → v < 12 → M (12 * u + v) = nI (f u v)) : ∀ k, k ≤ m → (fd_it (up1 X 43 M) L k = (1000, -1) ∧ ∀ d, d < k → X 24 d = 0 → 1000 ≤ 1 + f (whX X d) (daX X d)) ∨ ∃ e ln, fd_it (up1 X 43 M) L k = (nI ln, nI e) ∧ e < k ∧ X 24 e = 0 ∧ ln = 1 + f (whX X e) (daX X e) ∧ ln < 1000 ∧ (∀ d, d < k → X 24 d = 0 → ln ≤ 1 + f (whX X d) (daX X d)) ∧ ∀ d, d < e → X 24 d = 0 → ln < 1 + f (whX X d) (daX X d) := by
  have h' := h
  obtain ⟨h40, h12, hm, hr⟩ := h'
  intro k
  induction k with
  | zero => intro _; exact Or.inl ⟨rfl, fun d hd => by omega⟩
  | succ k ih =>
    intro hk
    have i := ih (by omega)
    obtain ⟨a1, a2, a3, a4, a5, -⟩ := hr k (by omega)
    have fb := hf.1 (whX X k) (daX X k) (by omega) (by omega)
    rw [fd_it_s]
    unfold fd_st
    rw [show isLive (up1 X 43 M) (nI k) = isLive X (nI k) from rfl, isLive_at hm h40 (by omega), sbk_at h hM (show k < m by omega) (show k < m by omega), show (1 : Int32) + nI (f (whX X k) (daX X k)) = nI (1 + f (whX X k) (daX X k)) from nI_add 1 _]
    by_cases c : X 24 k = 0
    · rw [if_pos c, if_neg one_nz]
      rcases i with ⟨i1, i2⟩ | ⟨e, ln, i1, i2, i3, i4, i5, i6, i7⟩
      · rw [i1]
        dsimp only
        by_cases g : 1000 ≤ 1 + f (whX X k) (daX X k)
        · rw [if_pos (show (1000 : Int32) ≤ nI (1 + f (whX X k) (daX X k)) by rw [Int32.le_iff_toInt_le, toI_1000, nI_toInt (by omega)]; omega)]
          refine Or.inl ⟨rfl, fun d hd h0 => ?_⟩
          by_cases e : d = k
          · subst e; exact g
          · exact i2 d (by omega) h0
        · rw [if_neg (show ¬ (1000 : Int32) ≤ nI (1 + f (whX X k) (daX X k)) by rw [Int32.le_iff_toInt_le, toI_1000, nI_toInt (by omega)]; omega)]
          refine Or.inr ⟨k, _, rfl, by omega, c, rfl, by omega, fun d hd h0 => ?_, fun d hd h0 => ?_⟩
          · by_cases e : d = k
            · subst e; exact Nat.le_refl _
            · have := i2 d (by omega) h0; omega
          · have := i2 d (by omega) h0; omega
      · rw [i1]
        dsimp only
        have cc : nI ln ≤ nI (1 + f (whX X k) (daX X k)) ↔ ln ≤ 1 + f (whX X k) (daX X k) := by rw [Int32.le_iff_toInt_le, nI_toInt (by omega), nI_toInt (by omega)]; omega
        by_cases g : ln ≤ 1 + f (whX X k) (daX X k)
        · rw [if_pos (cc.mpr g)]
          refine Or.inr ⟨e, ln, rfl, by omega, i3, i4, i5, fun d hd h0 => ?_, i7⟩
          by_cases y : d = k
          · subst y; exact g
          · exact i6 d (by omega) h0
        · rw [if_neg (fun y => g (cc.mp y))]
          refine Or.inr ⟨k, _, rfl, by omega, c, rfl, by omega, fun d hd h0 => ?_, fun d hd h0 => ?_⟩
          · by_cases y : d = k
            · subst y; exact Nat.le_refl _
            · have := i6 d (by omega) h0; omega
          · have := i6 d (by omega) h0; omega
    · rw [if_neg c, if_pos rfl]
      rcases i with ⟨i1, i2⟩ | ⟨e, ln, i1, i2, i3, i4, i5, i6, i7⟩
      · refine Or.inl ⟨i1, fun d hd h0 => ?_⟩
        by_cases y : d = k
        · subst y; exact absurd h0 c
        · exact i2 d (by omega) h0
      · refine Or.inr ⟨e, ln, i1, by omega, i3, i4, i5, fun d hd h0 => ?_, i7⟩
        by_cases y : d = k
        · subst y; exact absurd h0 c
        · exact i6 d (by omega) h0
/-- the follower -/
theorem fol_t (h : RNG X J m q) (hf : DL (ED X m) f) (L : Nat → Nat → Int64) {M : Nat → Int32} (hM : ∀ u v, u < 12 → v < 12 → M (12 * u + v) = nI (f u v)) {a e d r : Nat} (ha : a < m) (he : e < m) (hd : d < m) (hr : r < 2000) (h0 : X 24 d = 0) (h1 : daX X d = whX X a) (h2 : f (whX X d) (daX X e) = r) (hn : ∀ d', d' < d → X 24 d' = 0 → daX X d' = whX X a → f (whX X d') (daX X e) ≠ r) : ∀ k j, j + k = m → j ≤ d → fol_sr (up1 X 43 M) L a e (nI r) k j = nI d := by
  have h' := h
  obtain ⟨h40, h12, hm, hrr⟩ := h'
  intro k
  induction k with
  | zero => intro j hj hd2; omega
  | succ k ih =>
    intro j hj hd2
    obtain ⟨a1, a2, a3, a4, a5, -⟩ := hrr j (by omega)
    obtain ⟨b1, b2, b3, b4, b5, -⟩ := hrr a ha
    obtain ⟨e1, e2, e3, e4, e5, -⟩ := hrr e he
    have fb := hf.1 (whX X j) (daX X e) (by omega) (by omega)
    have c1 : (nI (daX X j) = nI (whX X a)) ↔ daX X j = whX X a := ⟨fun y => nI_inj (by omega) (by omega) y, fun y => by rw [y]⟩
    have c2 : (nI (f (whX X j) (daX X e)) = nI r) ↔ f (whX X j) (daX X e) = r := ⟨fun y => nI_inj (by omega) (by omega) y, fun y => by rw [y]⟩
    rw [fol_sr, show isLive (up1 X 43 M) (nI j) = isLive X (nI j) from rfl, isLive_at hm h40 (by omega), sbk_at h hM (show j < m by omega) he, nI_clamp (show j < 2 ^ 31 by omega), nI_clamp (show a < 2 ^ 31 by omega)]
    rw [show (up1 X 43 M) 17 j = X 17 j from rfl, show (up1 X 43 M) 18 a = X 18 a from rfl, a1, b2]
    by_cases y : j = d
    · subst y
      rw [if_pos h0, if_neg one_nz, if_neg (not_not_intro (c1.mpr h1)), if_neg (not_not_intro (c2.mpr h2))]
    · by_cases g0 : X 24 j = 0
      · rw [if_pos g0, if_neg one_nz]
        by_cases g1 : daX X j = whX X a
        · rw [if_neg (not_not_intro (c1.mpr g1)), if_pos (fun y2 => hn j (by omega) g0 g1 (c2.mp y2))]
          exact ih (j + 1) (by omega) (by omega)
        · rw [if_pos (fun y2 => g1 (c1.mp y2))]
          exact ih (j + 1) (by omega) (by omega)
      · rw [if_neg g0, if_pos rfl]
        exact ih (j + 1) (by omega) (by omega)
/-- what was found leads back in so many steps -/
theorem dfs_low (h : RNG X J m q) (hf : DL (ED X m) f) (L' : Nat → Nat → Int64) {b : Nat} (hb : b < m) : ∀ r n t dl, 1 ≤ n → n + r ≤ 12 → (∀ i, i < n → ∃ a, a < m ∧ t i = nI a) → t (n - 1) = nI dl → dl < m → (dfs J L' b m r n t).1 = true → f (whX X dl) (daX X b) ≤ r := by
  have h' := h
  obtain ⟨h40, h12, hm, hr⟩ := h'
  obtain ⟨b1, b2, b3, b4, b5, b6, b7, b8⟩ := hr b hb
  intro r
  induction r with
  | zero =>
    intro n t dl hn hn2 ht hl hdl hd
    obtain ⟨a1, a2, a3, a4, a5, a6, a7, a8⟩ := hr dl hdl
    have hd' : decide (J 88 (t (n - 1)).toNatClampNeg = J 87 b) = true := hd
    rw [decide_eq_true_iff, hl, nI_clamp (by omega), a7, b6, a2, b1] at hd'
    have := nI_inj (by omega) (by omega) hd'
    have := (hf.2.1 (whX X dl) (daX X b) (by omega) (by omega)).mpr this
    omega
  | succ r ih =>
    intro n t dl hn hn2 ht hl hdl hd
    obtain ⟨a1, a2, a3, a4, a5, a6, a7, a8⟩ := hr dl hdl
    have inner : ∀ k d t, d + k = m → (∀ i, i < n → ∃ a, a < m ∧ t i = nI a) → t (n - 1) = nI dl → (dfl J L' b (dfs J L' b m r (n + 1)) n k d t).1 = true → f (whX X dl) (daX X b) ≤ r + 1 := by
      intro k
      induction k with
      | zero => intro d t _ _ _ y; exact absurd y (by simp [dfl])
      | succ k ihk =>
        intro d t hd2 ht2 hl2 y
        rw [dfl] at y
        have hdm : d < m := by omega
        by_cases g : goR (up1 J 114 t) L' n d b = 0
        · rw [if_pos g] at y; exact ihk (d + 1) t (by omega) ht2 hl2 y
        · rw [if_neg g] at y
          have tch : ∃ tt : Nat → Nat, ∀ i, i < n → t i = nI (tt i) ∧ tt i < m := ⟨fun i => (t i).toNatClampNeg, fun i hi => by obtain ⟨a, ha, ea⟩ := ht2 i hi; dsimp only; rw [ea, nI_clamp (by omega)]; exact ⟨rfl, ha⟩⟩
          obtain ⟨tt, htt⟩ := tch
          obtain ⟨g1, g2, g3, g4⟩ := (goR_at h L' hn (by omega) htt hdm hb).mp g
          have el : tt (n - 1) = dl := by
            have := (htt (n - 1) (by omega))
            exact nI_inj (by omega) (by omega) (this.1.symm.trans hl2)
          rw [el] at g3
          by_cases F : (dfs J L' b m r (n + 1) (upr t n (nI d))).1 = true
          · have := ih (n + 1) (upr t n (nI d)) d (by omega) (by omega) (fun i hi => by
              by_cases e : i = n
              · subst e; exact ⟨d, hdm, upr_at _ _ _⟩
              · rw [upr_ne e]; exact ht2 i (by omega)) (by rw [Nat.add_sub_cancel, upr_at]) hdm F
            have := hf.2.2.1 _ _ (daX X b) (h.ed hdm g1) (by omega)
            rw [g3] at this
            omega
          · rw [if_neg F] at y
            have keep : ∀ i, i < n → (dfs J L' b m r (n + 1) (upr t n (nI d))).2 i = t i := fun i hi => by
              rw [dfs_keep J L' b m r (n + 1) _ i (by omega), upr_ne (by omega)]
            exact ihk (d + 1) _ (by omega) (fun i hi => by rw [keep i hi]; exact ht2 i hi) (by rw [keep _ (by omega)]; exact hl2) y
    exact inner (m - (b + 1)) (b + 1) t (by omega) ht hl hd
set_option maxHeartbeats 1000000 in
/-- the search, from a trail of THE RING -/
theorem dfs_t (h : RNG X J m q) (hf : DL (ED X m) f) (L L' : Nat → Nat → Int64) {M : Nat → Int32} (hM : ∀ u v, u < 12 → v < 12 → M (12 * u + v) = nI (f u v)) {e ln : Nat} (hR : MR X m f e ln) (hl12 : ln ≤ 12) : ∀ r n t tt, 1 ≤ n → n + r = ln → (∀ i, i < n → t i = nI (tt i)) → CH X m e tt n → (f (whX X (tt (n - 1))) (daX X e) ≤ r → (dfs J L' e m r n t).1 = true ∧ ∀ i, n ≤ i → i < ln → (dfs J L' e m r n t).2 i = fol_sr (up1 X 43 M) L ((dfs J L' e m r n t).2 (i - 1)).toNatClampNeg e (nI (ln - i - 1)) m 0) ∧ (r < f (whX X (tt (n - 1))) (daX X e) → (dfs J L' e m r n t).1 = false) := by
  have h' := h
  obtain ⟨h40, h12, hm, hr⟩ := h'
  have hR' := hR
  obtain ⟨m1, m2, m3, m4, m5, m6⟩ := hR'
  obtain ⟨b1, b2, b3, b4, b5, b6, b7, b8⟩ := hr e m1
  have hE : ∀ u w, ED X m u w → u < 12 ∧ w < 12 := fun u w y => by have := h.eq u w y; omega
  intro r
  induction r with
  | zero =>
    intro n t tt hn hnr ht hc
    obtain ⟨c1, c2, -⟩ := hc.2 (n - 1) (by omega)
    obtain ⟨a1, a2, a3, a4, a5, a6, a7, a8⟩ := hr _ c1
    have e1 : J 88 (t (n - 1)).toNatClampNeg = nI (whX X (tt (n - 1))) := by rw [ht (n - 1) (by omega), nI_clamp (by omega), a7, a2]
    have e2 : J 87 e = nI (daX X e) := by rw [b6, b1]
    have z := hf.2.1 (whX X (tt (n - 1))) (daX X e) (by omega) (by omega)
    refine ⟨fun y => ⟨?_, fun i h1 h2 => by omega⟩, fun y => ?_⟩
    · show decide (J 88 (t (n - 1)).toNatClampNeg = J 87 e) = true
      rw [e1, e2, z.mp (by omega)]
      exact decide_eq_true rfl
    · show decide (J 88 (t (n - 1)).toNatClampNeg = J 87 e) = false
      rw [e1, e2]
      exact decide_eq_false (fun y2 => by have := z.mpr (nI_inj (by omega) (by omega) y2); omega)
  | succ r ih =>
    intro n t tt hn hnr ht hc
    obtain ⟨c1, c2, -⟩ := hc.2 (n - 1) (by omega)
    obtain ⟨a1, a2, a3, a4, a5, a6, a7, a8⟩ := hr _ c1
    have ttm : ∀ i, i < n → tt i < m := fun i hi => (hc.2 i hi).1
    have inner : ∀ k d t', d + k = m → (∀ i, i < n → t' i = nI (tt i)) → (∀ d', d' < d → d' < m → X 24 d' = 0 → daX X d' = whX X (tt (n - 1)) → r < f (whX X d') (daX X e)) → (f (whX X (tt (n - 1))) (daX X e) ≤ r + 1 → (dfl J L' e (dfs J L' e m r (n + 1)) n k d t').1 = true ∧ ∀ i, n ≤ i → i < ln → (dfl J L' e (dfs J L' e m r (n + 1)) n k d t').2 i = fol_sr (up1 X 43 M) L ((dfl J L' e (dfs J L' e m r (n + 1)) n k d t').2 (i - 1)).toNatClampNeg e (nI (ln - i - 1)) m 0) ∧ (r + 1 < f (whX X (tt (n - 1))) (daX X e) → (dfl J L' e (dfs J L' e m r (n + 1)) n k d t').1 = false) := by
      intro k
      induction k with
      | zero =>
        intro d t' hdk ht' hrej
        refine ⟨fun y => ?_, fun _ => rfl⟩
        exfalso
        have pos : 0 < f (whX X (tt (n - 1))) (daX X e) := by
          refine Classical.byContradiction fun y0 => ?_
          have e0 := (hf.2.1 (whX X (tt (n - 1))) (daX X e) (by omega) (by omega)).mp (by omega)
          have cd := (hc.dist h hf (n - 1) 0 (by omega)).2
          rw [hc.1, Nat.zero_add, e0] at cd
          omega
        obtain ⟨w, w1, w2⟩ := hf.2.2.2 _ _ (by omega) (by omega) pos (by omega)
        obtain ⟨d', d1, d2, d3, d4⟩ := h.de w1
        have := hrej d' (by omega) d1 d2 d3
        rw [d4] at this; omega
      | succ k ihk =>
        intro d t' hdk ht' hrej
        have hdm : d < m := by omega
        have gg := goR_at h L' hn (by omega) (t := t') (tt := tt) (fun i hi => ⟨ht' i hi, ttm i hi⟩) hdm m1
        rw [dfl]
        by_cases g : goR (up1 J 114 t') L' n d e = 0
        · rw [if_pos g]
          refine ihk (d + 1) t' (by omega) ht' (fun d' h1 h2 h3 h4 => ?_)
          by_cases y : d' = d
          · subst y
            refine Classical.byContradiction fun y2 => ?_
            obtain ⟨k1, k2, -⟩ := cand h hf hR hn hc (by omega) hdm h3 h4 (Nat.le_of_not_lt y2)
            exact gg.mpr ⟨h3, by omega, h4, k2⟩ g
          · exact hrej d' (by omega) h2 h3 h4
        · rw [if_neg g]
          obtain ⟨g1, g2, g3, g4⟩ := gg.mp g
          have hc2 : CH X m e (upr tt n d) (n + 1) := by
            refine ⟨by rw [upr_ne (by omega)]; exact hc.1, fun i hi => ?_⟩
            by_cases y : i = n
            · subst y; rw [upr_at]; exact ⟨hdm, g1, fun y => by omega⟩
            · rw [upr_ne y]
              obtain ⟨k1, k2, k3⟩ := hc.2 i (by omega)
              refine ⟨k1, k2, fun y2 => ?_⟩
              by_cases y3 : i + 1 = n
              · rw [y3, upr_at, g3]; congr 1; congr 1; omega
              · rw [upr_ne y3]; exact k3 (by omega)
          obtain ⟨iA, iB⟩ := ih (n + 1) (upr t' n (nI d)) (upr tt n d) (by omega) (by omega) (fun i hi => by
            by_cases y : i = n
            · subst y; rw [upr_at, upr_at]
            · rw [upr_ne y, upr_ne y]; exact ht' i (by omega)) hc2
          rw [Nat.add_sub_cancel, upr_at] at iA iB
          have keep : ∀ i, i < n + 1 → (dfs J L' e m r (n + 1) (upr t' n (nI d))).2 i = upr t' n (nI d) i := fun i hi => dfs_keep J L' e m r (n + 1) _ i hi
          have ed1 := hf.2.2.1 _ _ (daX X e) (h.ed hdm g1) (by omega)
          rw [g3] at ed1
          by_cases y : f (whX X d) (daX X e) ≤ r
          · obtain ⟨iA1, iA2⟩ := iA y
            rw [if_pos iA1]
            refine ⟨fun _ => ⟨iA1, fun i h1 h2 => ?_⟩, fun y2 => by omega⟩
            by_cases y3 : i = n
            · subst y3
              rw [keep i (by omega), upr_at, keep (i - 1) (by omega), upr_ne (by omega), ht' (i - 1) (by omega), nI_clamp (by have := ttm (i - 1) (by omega); omega)]
              obtain ⟨k1, k2, k3⟩ := cand h hf hR hn hc (by omega) hdm g1 g3 y
              have er : ln - i - 1 = r := by omega
              rw [er]
              exact (fol_t h hf L hM (a := tt (i - 1)) (e := e) (d := d) (r := r) c1 m1 hdm (by omega) g1 g3 (by omega) (fun d' q1 q2 q3 => by have := hrej d' q1 (by omega) q2 q3; omega) m 0 (by omega) (by omega)).symm
            · exact iA2 i (by omega) h2
          · rw [if_neg (by rw [iB (by omega)]; simp)]
            refine ihk (d + 1) _ (by omega) (fun i hi => by rw [keep i (by omega), upr_ne (by omega)]; exact ht' i hi) (fun d' h1 h2 h3 h4 => ?_)
            by_cases y2 : d' = d
            · subst y2; omega
            · exact hrej d' (by omega) h2 h3 h4
    refine inner (m - (e + 1)) (e + 1) t (by omega) ht (fun d' h1 h2 h3 h4 => ?_)
    refine Classical.byContradiction fun y2 => ?_
    obtain ⟨k1, -, -⟩ := cand h hf hR hn hc (by omega) h2 h3 h4 (Nat.le_of_not_lt y2)
    omega
end
