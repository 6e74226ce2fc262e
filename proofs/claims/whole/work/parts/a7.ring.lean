/-! RINGS: the class's choice, the reference's search -/
theorem pig : ∀ (q n : Nat) (g : Nat → Nat), (∀ i, i < n → g i < q) → (∀ i j, i < n → j < n → g i = g j → i = j) → n ≤ q := by
  intro q
  induction q with
  | zero =>
    intro n g h _
    cases n with
    | zero => exact Nat.le_refl _
    | succ n => exact absurd (h 0 (by omega)) (by omega)
  | succ q ih =>
    intro n g h inj
    by_cases e : ∃ i, i < n ∧ g i = q
    · obtain ⟨i0, hi0, e0⟩ := e
      have r := ih (n - 1) (fun i => if i < i0 then g i else g (i + 1)) (fun i hi => by
        by_cases c : i < i0
        · rw [if_pos c]
          have a := h i (by omega)
          have b : g i ≠ q := fun y => by have := inj i i0 (by omega) hi0 (y.trans e0.symm); omega
          omega
        · rw [if_neg c]
          have a := h (i + 1) (by omega)
          have b : g (i + 1) ≠ q := fun y => by have := inj (i + 1) i0 (by omega) hi0 (y.trans e0.symm); omega
          omega) (fun i j hi hj y => by
        by_cases c : i < i0
        · by_cases d : j < i0
          · rw [if_pos c, if_pos d] at y; exact inj i j (by omega) (by omega) y
          · rw [if_pos c, if_neg d] at y
            have := inj i (j + 1) (by omega) (by omega) y; omega
        · by_cases d : j < i0
          · rw [if_neg c, if_pos d] at y
            have := inj (i + 1) j (by omega) (by omega) y; omega
          · rw [if_neg c, if_neg d] at y
            have := inj (i + 1) (j + 1) (by omega) (by omega) y; omega)
      omega
    · have := ih n g (fun i hi => by
        have a := h i hi
        have b : g i ≠ q := fun y => e ⟨i, hi, y⟩
        omega) inj
      omega
theorem DL.tri {E : Nat → Nat → Prop} {f : Nat → Nat → Nat} (h : DL E f) (hE : ∀ u w, E u w → u < 12 ∧ w < 12) {w v : Nat} (hw : w < 12) (hv : v < 12) : ∀ n u, u < 12 → f u w = n → f u v ≤ f u w + f w v := by
  intro n
  induction n with
  | zero => intro u hu e; have := (h.2.1 u w hu hw).mp e; subst this; omega
  | succ n ih =>
    intro u hu e
    by_cases g : f u w < 1000
    · obtain ⟨x, x1, x2⟩ := h.2.2.2 u w hu hw (by omega) g
      have a := h.2.2.1 u x v x1 hv
      have b := ih x (hE u x x1).2 (by omega)
      omega
    · have := h.1 u v hu hv
      omega
theorem DL.chain {E : Nat → Nat → Prop} {f : Nat → Nat → Nat} (h : DL E f) {q : Nat} (hq : q ≤ 12) (hE : ∀ u w, E u w → u < q ∧ w < q) {v : Nat} (hv : v < 12) : ∀ n u, u < q → f u v = n → n < 1000 → ∀ k, k ≤ n → ∃ w, w < q ∧ f w v = k := by
  intro n
  induction n with
  | zero => intro u hu e _ k hk; exact ⟨u, hu, by omega⟩
  | succ n ih =>
    intro u hu e hn k hk
    by_cases c : k = n + 1
    · exact ⟨u, hu, by omega⟩
    · obtain ⟨x, x1, x2⟩ := h.2.2.2 u v (by omega) hv (by omega) (by omega)
      exact ih x (hE u x x1).2 (by omega) (by omega) k (by omega)
theorem DL.small {E : Nat → Nat → Prop} {f : Nat → Nat → Nat} (h : DL E f) {q : Nat} (hq : q ≤ 12) (hE : ∀ u w, E u w → u < q ∧ w < q) {u v : Nat} (hu : u < q) (hv : v < 12) (hf : f u v < 1000) : f u v + 1 ≤ q := by
  have ch := h.chain hq hE hv (f u v) u hu rfl hf
  have g : ∀ k, ∃ w, k ≤ f u v → w < q ∧ f w v = k := by
    intro k
    by_cases c : k ≤ f u v
    · obtain ⟨w, h1, h2⟩ := ch k c; exact ⟨w, fun _ => ⟨h1, h2⟩⟩
    · exact ⟨0, fun y => absurd y c⟩
  have g2 : ∃ w : Nat → Nat, ∀ k, k ≤ f u v → w k < q ∧ f (w k) v = k := ⟨fun k => Classical.choose (g k), fun k => Classical.choose_spec (g k)⟩
  obtain ⟨w, hw⟩ := g2
  exact pig q (f u v + 1) w (fun i hi => (hw i (by omega)).1) (fun i j hi hj e => by
    have a := (hw i (by omega)).2
    have b := (hw j (by omega)).2
    rw [e] at a; omega)
/-- debtor and creditor of a DEBT, as numbers -/
def daX (X : Nat → Nat → Int32) : Nat → Nat := fun j => (X 17 j).toNatClampNeg
/-- the rows of both sides that a ring reads -/
def RNG (X J : Nat → Nat → Int32) (m q : Nat) : Prop := m ≤ 40 ∧ q ≤ 12 ∧ X 16 0 = nI m ∧ ∀ d, d < m → X 17 d = nI (daX X d) ∧ X 18 d = nI (whX X d) ∧ daX X d < q ∧ whX X d < q ∧ daX X d ≠ whX X d ∧ J 87 d = X 17 d ∧ J 88 d = X 18 d ∧ J 94 d = X 24 d
/-- e begins THE RING, of ln DEBTS -/
def MR (X : Nat → Nat → Int32) (m : Nat) (f : Nat → Nat → Nat) (e ln : Nat) : Prop := e < m ∧ X 24 e = 0 ∧ ln = 1 + f (whX X e) (daX X e) ∧ ln < 1000 ∧ (∀ d, d < m → X 24 d = 0 → ln ≤ 1 + f (whX X d) (daX X d)) ∧ ∀ d, d < e → X 24 d = 0 → ln < 1 + f (whX X d) (daX X d)
section
variable {X J : Nat → Nat → Int32} {m q : Nat} {f : Nat → Nat → Nat}
theorem RNG.ed (h : RNG X J m q) {d : Nat} (hd : d < m) (h0 : X 24 d = 0) : ED X m (daX X d) (whX X d) := by
  obtain ⟨h40, h12, hm, hr⟩ := h
  obtain ⟨a1, a2, a3, a4, a5, -⟩ := hr d hd
  exact ⟨d, hd, h0, a1, a2, by omega, by omega, a5⟩
theorem RNG.de (h : RNG X J m q) {u w : Nat} (e : ED X m u w) : ∃ d, d < m ∧ X 24 d = 0 ∧ daX X d = u ∧ whX X d = w := by
  obtain ⟨h40, h12, hm, hr⟩ := h
  obtain ⟨d, d1, d2, d3, d4, d5, d6, d7⟩ := e
  obtain ⟨a1, a2, a3, a4, a5, -⟩ := hr d d1
  exact ⟨d, d1, d2, nI_inj (by omega) (by omega) (a1.symm.trans d3), nI_inj (by omega) (by omega) (a2.symm.trans d4)⟩
theorem RNG.eq (h : RNG X J m q) : ∀ u w, ED X m u w → u < q ∧ w < q := by
  intro u w e
  obtain ⟨d, d1, d2, d3, d4⟩ := h.de e
  obtain ⟨-, -, -, hr⟩ := h
  obtain ⟨a1, a2, a3, a4, -⟩ := hr d d1
  omega
/-- the DEBTS of a trail, one behind another -/
def CH (X : Nat → Nat → Int32) (m e : Nat) (t : Nat → Nat) (n : Nat) : Prop := t 0 = e ∧ ∀ i, i < n → t i < m ∧ X 24 (t i) = 0 ∧ (i + 1 < n → daX X (t (i + 1)) = whX X (t i))
theorem CH.dist (h : RNG X J m q) (hf : DL (ED X m) f) {e : Nat} {t : Nat → Nat} {n : Nat} (c : CH X m e t n) : ∀ k i, i + k < n → f (daX X (t i)) (whX X (t (i + k))) ≤ k + 1 ∧ f (whX X (t i)) (whX X (t (i + k))) ≤ k := by
  have tr : ∀ d, d < m → X 24 d = 0 → ED X m (daX X d) (whX X d) := fun d hd h0 => h.ed hd h0
  obtain ⟨h40, h12, hm, hr⟩ := h
  intro k
  induction k with
  | zero =>
    intro i hi
    obtain ⟨c1, c2, -⟩ := c.2 i (by omega)
    obtain ⟨a1, a2, a3, a4, a5, -⟩ := hr _ c1
    have z : f (whX X (t i)) (whX X (t i)) = 0 := (hf.2.1 _ _ (by omega) (by omega)).mpr rfl
    have := hf.2.2.1 _ _ (whX X (t i)) (tr _ c1 c2) (by omega)
    rw [Nat.add_zero]
    omega
  | succ k ih =>
    intro i hi
    obtain ⟨c1, c2, c3⟩ := c.2 i (by omega)
    obtain ⟨c4, c5, -⟩ := c.2 (i + (k + 1)) (by omega)
    obtain ⟨a1, a2, a3, a4, a5, -⟩ := hr _ c1
    obtain ⟨b1, b2, b3, b4, b5, -⟩ := hr _ c4
    have i1 := ih (i + 1) (by omega)
    rw [show i + 1 + k = i + (k + 1) by omega, c3 (by omega)] at i1
    have := hf.2.2.1 _ _ (whX X (t (i + (k + 1)))) (tr _ c1 c2) (by omega)
    omega
/-- one that leads back in time comes behind e, and owes otherwise than those before -/
theorem cand (h : RNG X J m q) (hf : DL (ED X m) f) {e ln : Nat} (hM : MR X m f e ln) {t : Nat → Nat} {n r d : Nat} (hn : 1 ≤ n) (c : CH X m e t n) (hr : n + r + 1 = ln) (hd : d < m) (h0 : X 24 d = 0) (ha : daX X d = whX X (t (n - 1))) (hl : f (whX X d) (daX X e) ≤ r) : e < d ∧ (∀ i, i < n → daX X (t i) ≠ daX X d) ∧ r ≤ f (whX X d) (daX X e) := by
  obtain ⟨m1, m2, m3, m4, m5, m6⟩ := hM
  have h' := h
  obtain ⟨h40, h12, hm, hrr⟩ := h'
  obtain ⟨a1, a2, a3, a4, a5, -⟩ := hrr d hd
  obtain ⟨e1, e2, e3, e4, e5, -⟩ := hrr e m1
  have hE : ∀ u w, ED X m u w → u < 12 ∧ w < 12 := fun u w y => by have := h.eq u w y; omega
  have dif : ∀ i, i < n → daX X (t i) ≠ daX X d := by
    intro i hi y
    obtain ⟨c1, c2, c3⟩ := c.2 i hi
    have cd := (c.dist h hf (n - 1 - i) i (by omega)).2
    rw [show i + (n - 1 - i) = n - 1 by omega, ← ha, ← y] at cd
    have := m5 (t i) c1 c2
    omega
  have cd := (c.dist h hf (n - 1) 0 (by omega)).1
  rw [c.1, Nat.zero_add, ← ha] at cd
  have tri := hf.tri hE (w := daX X e) (v := daX X d) (by omega) (by omega) _ (whX X d) (by omega) rfl
  have m5d := m5 d hd h0
  refine ⟨?_, dif, by omega⟩
  refine Classical.byContradiction fun y => ?_
  by_cases g : d = e
  · have := dif 0 (by omega); rw [c.1, g] at this; exact this rfl
  · have := m6 d (by omega) h0; omega
/-- what the search asks of the next -/
theorem go_at {Y : Nat → Nat → Int32} (L' : Nat → Nat → Int64) (d : Nat) (hd : d < 2 ^ 31) : ∀ f j, j + f < 2 ^ 31 → (go_sr Y L' d f j = 0 ∨ go_sr Y L' d f j = 1) ∧ (go_sr Y L' d f j = 0 ↔ ∃ i, j ≤ i ∧ i < j + f ∧ Y 87 (Y 114 i).toNatClampNeg = Y 87 d) := by
  intro f
  induction f with
  | zero => intro j _; exact ⟨Or.inr rfl, ⟨fun y => absurd y one_nz, fun ⟨i, h1, h2, _⟩ => by omega⟩⟩
  | succ f ih =>
    intro j hj
    obtain ⟨i1, i2⟩ := ih (j + 1) (by omega)
    rw [go_sr, nI_clamp (by omega), nI_clamp hd]
    by_cases c : Y 87 (Y 114 j).toNatClampNeg = Y 87 d
    · rw [if_neg (not_not_intro c)]
      exact ⟨Or.inl rfl, ⟨fun _ => ⟨j, Nat.le_refl _, by omega, c⟩, fun _ => rfl⟩⟩
    · rw [if_pos c]
      refine ⟨i1, i2.trans ⟨fun ⟨i, h1, h2, h3⟩ => ⟨i, by omega, by omega, h3⟩, fun ⟨i, h1, h2, h3⟩ => ?_⟩⟩
      by_cases e : i = j
      · subst e; exact absurd h3 c
      · exact ⟨i, by omega, by omega, h3⟩
theorem goR_at (h : RNG X J m q) (L' : Nat → Nat → Int64) {t : Nat → Int32} {tt : Nat → Nat} {n d b : Nat} (hn : 1 ≤ n) (hn2 : n ≤ 12) (ht : ∀ i, i < n → t i = nI (tt i) ∧ tt i < m) (hd : d < m) (hb : b < m) : ¬ goR (up1 J 114 t) L' n d b = 0 ↔ (X 24 d = 0 ∧ b ≤ d ∧ daX X d = whX X (tt (n - 1)) ∧ ∀ i, i < n → daX X (tt i) ≠ daX X d) := by
  obtain ⟨h40, h12, hm, hr⟩ := h
  obtain ⟨a1, a2, a3, a4, a5, a6, a7, a8⟩ := hr d hd
  have tl := ht (n - 1) (by omega)
  obtain ⟨b1, b2, b3, b4, b5, b6, b7, b8⟩ := hr _ tl.2
  obtain ⟨g1, g2⟩ := go_at (Y := up1 J 114 t) L' d (by omega) n 0 (by omega)
  have e1 : (up1 J 114 t) 94 d = X 24 d := a8
  have e2 : (up1 J 114 t) 87 d = nI (daX X d) := by show J 87 d = _; rw [a6, a1]
  have e3 : (up1 J 114 t) 88 ((up1 J 114 t) 114 (n - 1)).toNatClampNeg = nI (whX X (tt (n - 1))) := by
    show J 88 ((up1 J 114 t) 114 (n - 1)).toNatClampNeg = _
    rw [up1_at, tl.1, nI_clamp (by omega), b7, b2]
  have e4 : ∀ i, i < n → ((up1 J 114 t) 87 ((up1 J 114 t) 114 i).toNatClampNeg = (up1 J 114 t) 87 d ↔ daX X (tt i) = daX X d) := by
    intro i hi
    have w := ht i hi
    obtain ⟨c1, c2, c3, c4, c5, c6, c7, c8⟩ := hr _ w.2
    rw [e2]
    show J 87 ((up1 J 114 t) 114 i).toNatClampNeg = _ ↔ _
    rw [up1_at, w.1, nI_clamp (by omega), c6, c1]
    exact ⟨fun y => nI_inj (by omega) (by omega) y, fun y => by rw [y]⟩
  have e5 : nI d < nI b ↔ d < b := by rw [Int32.lt_iff_toInt_lt, nI_toInt (by omega), nI_toInt (by omega)]; omega
  have e6 : nI (daX X d) = nI (whX X (tt (n - 1))) ↔ daX X d = whX X (tt (n - 1)) := ⟨fun y => nI_inj (by omega) (by omega) y, fun y => by rw [y]⟩
  unfold goR
  rw [e1, e3, e2]
  by_cases c1 : X 24 d = 0
  · rw [if_neg (not_not_intro c1)]
    by_cases c2 : d < b
    · rw [if_pos (e5.mpr c2)]
      exact ⟨fun y => absurd rfl y, fun y => by omega⟩
    · rw [if_neg (fun y => c2 (e5.mp y))]
      by_cases c3 : daX X d = whX X (tt (n - 1))
      · rw [if_pos (e6.mpr c3), g2]
        constructor
        · intro y; exact ⟨c1, by omega, c3, fun i hi z => y ⟨i, by omega, by omega, (e4 i hi).mpr z⟩⟩
        · rintro ⟨-, -, -, y⟩ ⟨i, i1, i2, i3⟩; exact y i (by omega) ((e4 i (by omega)).mp i3)
      · rw [if_neg (fun y => c3 (e6.mp y))]
        exact ⟨fun y => absurd rfl y, fun y => absurd y.2.2.1 c3⟩
  · rw [if_pos c1]
    exact ⟨fun y => absurd rfl y, fun y => absurd y.1 c1⟩
end
