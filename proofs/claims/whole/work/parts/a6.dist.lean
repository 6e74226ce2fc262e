/-! RINGS: the least numbers of steps -/
def PW (E : Nat → Nat → Prop) : Nat → Nat → Nat → Prop
  | 0, u, v => u = v
  | n + 1, u, v => ∃ w, E u w ∧ PW E n w v
/-- inner ones below k alone -/
def WK (E : Nat → Nat → Prop) (k : Nat) : Nat → Nat → Nat → Prop
  | 0, u, v => u = v
  | n + 1, u, v => ∃ w, E u w ∧ WK E k n w v ∧ (n = 0 ∨ w < k)
theorem PW.cat {E : Nat → Nat → Prop} : ∀ {n1 : Nat} {n2 u w v : Nat}, PW E n1 u w → PW E n2 w v → PW E (n1 + n2) u v := by
  intro n1
  induction n1 with
  | zero => intro n2 u w v h1 h2; have e : u = w := h1; subst e; rw [Nat.zero_add]; exact h2
  | succ n1 ih =>
    intro n2 u w v h1 h2
    obtain ⟨y, g1, g2⟩ := h1
    rw [show n1 + 1 + n2 = (n1 + n2) + 1 by omega]
    exact ⟨y, g1, ih g2 h2⟩
theorem PW.wk {E : Nat → Nat → Prop} {k : Nat} (hE : ∀ u w, E u w → w < k) : ∀ {n u v : Nat}, PW E n u v → WK E k n u v := by
  intro n
  induction n with
  | zero => intro u v h; exact h
  | succ n ih =>
    intro u v h
    obtain ⟨w, g1, g2⟩ := h
    exact ⟨w, g1, ih g2, Or.inr (hE u w g1)⟩
theorem WK.split {E : Nat → Nat → Prop} {k : Nat} : ∀ {n u v : Nat}, WK E (k + 1) n u v → WK E k n u v ∨ ∃ n1 n2, n1 + n2 ≤ n ∧ WK E k n1 u k ∧ WK E k n2 k v := by
  intro n
  induction n with
  | zero => intro u v h; exact Or.inl h
  | succ n ih =>
    intro u v h
    obtain ⟨w, g1, g2, g3⟩ := h
    by_cases n0 : n = 0
    · subst n0; exact Or.inl ⟨w, g1, g2, Or.inl rfl⟩
    · have wk : w < k + 1 := by rcases g3 with y | y; exact absurd y n0; exact y
      rcases ih g2 with y | ⟨n1, n2, y1, y2, y3⟩
      · by_cases e : w = k
        · subst e; exact Or.inr ⟨1, n, by omega, ⟨w, g1, rfl, Or.inl rfl⟩, y⟩
        · exact Or.inl ⟨w, g1, y, Or.inr (by omega)⟩
      · by_cases e : w = k
        · subst e; exact Or.inr ⟨1, n2, by omega, ⟨w, g1, rfl, Or.inl rfl⟩, y3⟩
        · exact Or.inr ⟨n1 + 1, n2, by omega, ⟨w, g1, y2, Or.inr (by omega)⟩, y3⟩
def SND (E : Nat → Nat → Prop) (s : Nat → Int32) : Prop := ∀ u v, u < 12 → v < 12 → (s (12 * u + v)).toInt < 1000 → PW E (s (12 * u + v)).toInt.toNat u v
def LEs (s t : Nat → Int32) : Prop := ∀ i, i < 144 → (s i).toInt ≤ (t i).toInt
def CMP (E : Nat → Nat → Prop) (k : Nat) (s : Nat → Int32) : Prop := ∀ u v n, u < 12 → v < 12 → n < 1000 → WK E k n u v → (s (12 * u + v)).toInt ≤ (n : Int)
theorem m1_c : ∀ j, j < 144 → ((nI j / 12 = nI j - nI j / 12 * 12) ↔ j / 12 = j % 12) := by decide +kernel
theorem m1_at (I : Nat → Nat → Int32) (L : Nat → Nat → Int64) : ∀ k, k ≤ 144 → ∀ i, i < k → m1_it I L k i = if i / 12 = i % 12 then 0 else 1000 := by
  intro k
  induction k with
  | zero => intro _ i hi; omega
  | succ k ih =>
    intro hk i hi
    rw [m1_it_s]
    unfold m1_st
    rw [nI_clamp (by omega)]
    have c := m1_c k (by omega)
    by_cases e : k / 12 = k % 12
    · rw [if_neg (not_not_intro (c.mpr e))]
      by_cases y : i = k
      · subst y; rw [upr_at, if_pos e]
      · rw [upr_ne y]; exact ih (by omega) i (by omega)
    · rw [if_pos (fun y => e (c.mp y))]
      by_cases y : i = k
      · subst y; rw [upr_at, if_neg e]
      · rw [upr_ne y]; exact ih (by omega) i (by omega)
/-- the DEBTS as steps -/
def ED (X : Nat → Nat → Int32) (m : Nat) (u w : Nat) : Prop := ∃ d, d < m ∧ X 24 d = 0 ∧ X 17 d = nI u ∧ X 18 d = nI w ∧ u < 12 ∧ w < 12 ∧ u ≠ w
theorem m2_at {X : Nat → Nat → Int32} {m : Nat} (L : Nat → Nat → Int64) (hm0 : X 16 0 = nI m) (hm : m ≤ 40) (hd : ∀ d, d < m → ∃ u w, u < 12 ∧ w < 12 ∧ u ≠ w ∧ X 17 d = nI u ∧ X 18 d = nI w) {s0 : Nat → Int32} (h0 : ∀ i, i < 144 → s0 i = if i / 12 = i % 12 then 0 else 1000) : ∀ k, k ≤ m → SND (ED X m) (m2_it X L s0 k) ∧ (∀ u, u < 12 → m2_it X L s0 k (12 * u + u) = 0) ∧ ∀ d u w, d < k → X 24 d = 0 → u < 12 → w < 12 → X 17 d = nI u → X 18 d = nI w → m2_it X L s0 k (12 * u + w) = 1 := by
  intro k
  induction k with
  | zero =>
    intro _
    refine ⟨fun u v hu hv h => ?_, fun u hu => ?_, fun d u w hd => by omega⟩
    · have e : m2_it X L s0 0 (12 * u + v) = if (12 * u + v) / 12 = (12 * u + v) % 12 then 0 else 1000 := h0 _ (by omega)
      rw [e] at h ⊢
      by_cases c : (12 * u + v) / 12 = (12 * u + v) % 12
      · rw [if_pos c, toI_0]
        show u = v
        omega
      · rw [if_neg c, toI_1000] at h; omega
    · show s0 (12 * u + u) = 0
      rw [h0 _ (by omega), if_pos (by omega)]
  | succ k ih =>
    intro hk
    obtain ⟨i1, i2, i3⟩ := ih (by omega)
    obtain ⟨a, b, ha, hb, hab, ea, eb⟩ := hd k (by omega)
    rw [m2_it_s]
    unfold m2_st
    rw [isLive_at hm0 hm (by omega), nI_clamp (by omega), ea, eb, k12, nI_clamp (by omega)]
    by_cases c : X 24 k = 0
    · rw [if_pos c, if_neg one_nz]
      refine ⟨fun u v hu hv h => ?_, fun u hu => ?_, fun d u w hd' h24 hu hw eu ew => ?_⟩
      · by_cases e : 12 * u + v = 12 * a + b
        · have e1 : u = a := by omega
          have e2 : v = b := by omega
          subst e1; subst e2
          rw [upr_at, toI_1]
          exact ⟨v, ⟨k, by omega, c, ea, eb, ha, hb, hab⟩, rfl⟩
        · rw [upr_ne e] at h ⊢; exact i1 u v hu hv h
      · rw [upr_ne (by omega)]; exact i2 u hu
      · by_cases e : 12 * u + w = 12 * a + b
        · rw [e, upr_at]
        · rw [upr_ne e]
          by_cases e2 : d = k
          · subst e2
            have e3 : u = a := nI_inj (by omega) (by omega) (eu.symm.trans ea)
            have e4 : w = b := nI_inj (by omega) (by omega) (ew.symm.trans eb)
            exact absurd (by rw [e3, e4]) e
          · exact i3 d u w (by omega) h24 hu hw eu ew
    · rw [if_neg c, if_pos rfl]
      refine ⟨i1, i2, fun d u w hd' h24 hu hw eu ew => ?_⟩
      by_cases e2 : d = k
      · subst e2; exact absurd h24 c
      · exact i3 d u w (by omega) h24 hu hw eu ew
theorem sh_t {E : Nat → Nat → Prop} (I : Nat → Nat → Int32) (L : Nat → Nat → Int64) {s : Nat → Int32} (hR : R43 s) (hS : SND E s) {a b : Nat} (ha : a < 12) (hb : b < 12) (hT : (s (12 * a + b)).toInt < 1000) : ∀ j, j ≤ 12 → R43 (sh_it I L s a b (s (12 * a + b)) j) ∧ SND E (sh_it I L s a b (s (12 * a + b)) j) ∧ LEs (sh_it I L s a b (s (12 * a + b)) j) s ∧ ∀ i, i < j → (sh_it I L s a b (s (12 * a + b)) j (12 * a + i)).toInt ≤ (s (12 * a + b)).toInt + (s (12 * b + i)).toInt := by
  have T0 := hR (12 * a + b) (by omega)
  intro j
  induction j with
  | zero => intro _; exact ⟨hR, hS, fun i _ => Int.le_refl _, fun i hi => by omega⟩
  | succ j ih =>
    intro hj
    obtain ⟨i1, i2, i3, i4⟩ := ih (by omega)
    rw [sh_it_s]
    unfold sh_st
    rw [k12, k12, nI_clamp (by omega), nI_clamp (by omega)]
    generalize sh_it I L s a b (s (12 * a + b)) j = g at *
    have ra := i1 (12 * a + j) (by omega)
    have rb := i1 (12 * b + j) (by omega)
    have lb := i3 (12 * b + j) (by omega)
    have la := i3 (12 * a + j) (by omega)
    have es : (s (12 * a + b) + g (12 * b + j)).toInt = (s (12 * a + b)).toInt + (g (12 * b + j)).toInt := add_toInt (by omega) (by omega)
    obtain ⟨v, hv, hv2⟩ : ∃ v : Int32, (if s (12 * a + b) + g (12 * b + j) < g (12 * a + j) then s (12 * a + b) + g (12 * b + j) else g (12 * a + j)) = v ∧ ((v.toInt = (s (12 * a + b)).toInt + (g (12 * b + j)).toInt ∧ v.toInt < (g (12 * a + j)).toInt) ∨ (v = g (12 * a + j) ∧ v.toInt ≤ (s (12 * a + b)).toInt + (g (12 * b + j)).toInt)) := by
      by_cases c : s (12 * a + b) + g (12 * b + j) < g (12 * a + j)
      · rw [if_pos c]
        rw [Int32.lt_iff_toInt_lt, es] at c
        exact ⟨_, rfl, Or.inl ⟨es, by rw [es]; exact c⟩⟩
      · rw [if_neg c]
        rw [Int32.lt_iff_toInt_lt, es] at c
        exact ⟨_, rfl, Or.inr ⟨rfl, by omega⟩⟩
    rw [hv]
    have vle : v.toInt ≤ (g (12 * a + j)).toInt := by rcases hv2 with y | y; omega; rw [y.1]; exact Int.le_refl _
    have v0 : 0 ≤ v.toInt := by rcases hv2 with y | y; omega; rw [y.1]; exact ra.1
    have vb : v.toInt ≤ (s (12 * a + b)).toInt + (g (12 * b + j)).toInt := by rcases hv2 with y | y; omega; exact y.2
    refine ⟨fun i hi => ?_, fun u w hu hw h => ?_, fun i hi => ?_, fun i hi => ?_⟩
    · by_cases e : i = 12 * a + j
      · subst e; rw [upr_at]; omega
      · rw [upr_ne e]; exact i1 i hi
    · by_cases e : 12 * u + w = 12 * a + j
      · have e1 : u = a := by omega
        have e2 : w = j := by omega
        subst e1; subst e2
        rw [upr_at] at h ⊢
        rcases hv2 with y | y
        · have p1 := hS u b hu hb hT
          have p2 := i2 b w hb hw (by omega)
          have p3 := p1.cat p2
          have en : v.toInt.toNat = (s (12 * u + b)).toInt.toNat + (g (12 * b + w)).toInt.toNat := by rw [y.1]; omega
          rw [en]; exact p3
        · rw [y.1] at h ⊢; exact i2 u w hu hw h
      · rw [upr_ne e] at h ⊢; exact i2 u w hu hw h
    · by_cases e : i = 12 * a + j
      · subst e; rw [upr_at]; omega
      · rw [upr_ne e]; exact i3 i hi
    · by_cases e : i = j
      · subst e; rw [upr_at]; omega
      · rw [upr_ne (by omega)]; exact i4 i (by omega)
theorem short_t {E : Nat → Nat → Prop} (I : Nat → Nat → Int32) (L : Nat → Nat → Int64) {s : Nat → Int32} (hR : R43 s) (hS : SND E s) {a b : Nat} (ha : a < 12) (hb : b < 12) : R43 (short I L s a b) ∧ SND E (short I L s a b) ∧ LEs (short I L s a b) s ∧ ((s (12 * a + b)).toInt < 1000 → ∀ i, i < 12 → (short I L s a b (12 * a + i)).toInt ≤ (s (12 * a + b)).toInt + (s (12 * b + i)).toInt) := by
  unfold short
  rw [k12, nI_clamp (by omega)]
  by_cases c : (1000 : Int32) ≤ s (12 * a + b)
  · rw [if_pos c]
    rw [Int32.le_iff_toInt_le, toI_1000] at c
    exact ⟨hR, hS, fun i _ => Int.le_refl _, fun h => by omega⟩
  · rw [if_neg c]
    rw [Int32.le_iff_toInt_le, toI_1000] at c
    obtain ⟨h1, h2, h3, h4⟩ := sh_t I L hR hS ha hb (by omega) 12 (Nat.le_refl _)
    exact ⟨h1, h2, h3, fun _ => h4⟩
theorem m3_t {E : Nat → Nat → Prop} (I : Nat → Nat → Int32) (L : Nat → Nat → Int64) {s : Nat → Int32} (hR : R43 s) (hS : SND E s) {k : Nat} (hk : k < 12) : ∀ j, j ≤ 12 → R43 (m3_it I L s k j) ∧ SND E (m3_it I L s k j) ∧ LEs (m3_it I L s k j) s ∧ ∀ a, a < j → (s (12 * a + k)).toInt < 1000 → ∀ v, v < 12 → (m3_it I L s k j (12 * a + v)).toInt ≤ (s (12 * a + k)).toInt + (s (12 * k + v)).toInt := by
  intro j
  induction j with
  | zero => intro _; exact ⟨hR, hS, fun i _ => Int.le_refl _, fun i hi => by omega⟩
  | succ j ih =>
    intro hj
    obtain ⟨i1, i2, i3, i4⟩ := ih (by omega)
    rw [m3_it_s]
    unfold m3_st
    obtain ⟨h1, h2, h3, h4⟩ := short_t I L i1 i2 (a := j) (b := k) (by omega) hk
    refine ⟨h1, h2, fun i hi => Int.le_trans (h3 i hi) (i3 i hi), fun a ha hT v hv => ?_⟩
    by_cases e : a = j
    · subst e
      have l1 := i3 (12 * a + k) (by omega)
      have l2 := i3 (12 * k + v) (by omega)
      have := h4 (by omega) v hv
      omega
    · exact Int.le_trans (h3 (12 * a + v) (by omega)) (i4 a (by omega) hT v hv)
theorem m4_t {E : Nat → Nat → Prop} (I : Nat → Nat → Int32) (L : Nat → Nat → Int64) {s : Nat → Int32} (hR : R43 s) (hS : SND E s) (hC : CMP E 0 s) : ∀ j, j ≤ 12 → R43 (m4_it I L s j) ∧ SND E (m4_it I L s j) ∧ CMP E j (m4_it I L s j) := by
  intro j
  induction j with
  | zero => intro _; exact ⟨hR, hS, hC⟩
  | succ j ih =>
    intro hj
    obtain ⟨i1, i2, i3⟩ := ih (by omega)
    rw [m4_it_s]
    unfold m4_st
    obtain ⟨h1, h2, h3, h4⟩ := m3_t I L i1 i2 (k := j) (by omega) 12 (Nat.le_refl _)
    generalize m3_it I L (m4_it I L s j) j 12 = g at h1 h2 h3 h4 ⊢
    refine ⟨h1, h2, ?_⟩
    intro u v n hu hv hn hw
    rcases hw.split with y | ⟨n1, n2, y1, y2, y3⟩
    · exact Int.le_trans (h3 (12 * u + v) (by omega)) (i3 u v n hu hv hn y)
    · have g1 := i3 u j n1 hu (by omega) (by omega) y2
      have g2 := i3 j v n2 (by omega) hv (by omega) y3
      have := h4 u hu (by omega) v hv
      omega
/-- what the least numbers of steps are -/
def DL (E : Nat → Nat → Prop) (f : Nat → Nat → Nat) : Prop := (∀ u v, u < 12 → v < 12 → f u v ≤ 1000) ∧ (∀ u v, u < 12 → v < 12 → (f u v = 0 ↔ u = v)) ∧ (∀ u w v, E u w → v < 12 → f u v ≤ 1 + f w v) ∧ ∀ u v, u < 12 → v < 12 → 0 < f u v → f u v < 1000 → ∃ w, E u w ∧ 1 + f w v = f u v
theorem meas_t {X : Nat → Nat → Int32} {m : Nat} (L : Nat → Nat → Int64) (hm0 : X 16 0 = nI m) (hm : m ≤ 40) (hd : ∀ d, d < m → ∃ u w, u < 12 ∧ w < 12 ∧ u ≠ w ∧ X 17 d = nI u ∧ X 18 d = nI w) : ∃ f : Nat → Nat → Nat, DL (ED X m) f ∧ ∀ u v, u < 12 → v < 12 → meas X L m (12 * u + v) = nI (f u v) := by
  have a1 := m1_at X L 144 (Nat.le_refl _)
  obtain ⟨b1, b2, b3⟩ := m2_at L hm0 hm hd a1 m (Nat.le_refl _)
  have bR : R43 (m2_it X L (m1_it X L 144) m) := m2_R X L (fun i hi => m1_R X L 144 (Nat.le_refl _) i hi) m
  have bC : CMP (ED X m) 0 (m2_it X L (m1_it X L 144) m) := by
    intro u v n hu hv hn hw
    cases n with
    | zero =>
      have e : u = v := hw
      subst e; rw [b2 u hu, toI_0]; omega
    | succ n =>
      obtain ⟨w, ⟨d, d1, d2, d3, d4, d5, d6, d7⟩, g2, g3⟩ := hw
      have n0 : n = 0 := by rcases g3 with y | y; exact y; omega
      subst n0
      have e : w = v := g2
      subst e
      rw [b3 d u w d1 d2 d5 d6 d3 d4, toI_1]; omega
  obtain ⟨c1, c2, c3⟩ := m4_t X L bR b1 bC 12 (Nat.le_refl _)
  have hmeas : meas X L m = m4_it X L (m2_it X L (m1_it X L 144) m) 12 := rfl
  rw [hmeas]
  generalize m4_it X L (m2_it X L (m1_it X L 144) m) 12 = s at c1 c2 c3
  have hE : ∀ u w, ED X m u w → w < 12 := fun u w ⟨d, _, _, _, _, _, h, _⟩ => h
  have hE2 : ∀ u w, ED X m u w → u < 12 := fun u w ⟨d, _, _, _, _, h, _, _⟩ => h
  have nn : ∀ u v, u < 12 → v < 12 → ((s (12 * u + v)).toInt.toNat : Int) = (s (12 * u + v)).toInt := fun u v hu hv => by have := c1 (12 * u + v) (by omega); omega
  refine ⟨fun u v => (s (12 * u + v)).toInt.toNat, ⟨fun u v hu hv => ?_, fun u v hu hv => ⟨fun h => ?_, fun h => ?_⟩, fun u w v hw hv => ?_, fun u v hu hv h0 h1 => ?_⟩, fun u v hu hv => ?_⟩
  · have := c1 (12 * u + v) (by omega)
    have := nn u v hu hv
    show (s (12 * u + v)).toInt.toNat ≤ 1000
    omega
  · have h' : (s (12 * u + v)).toInt.toNat = 0 := h
    have p := c2 u v hu hv (by have := nn u v hu hv; omega)
    rw [h'] at p; exact p
  · subst h
    have := c3 u u 0 hu hu (by omega) rfl
    show (s (12 * u + u)).toInt.toNat = 0
    omega
  · show (s (12 * u + v)).toInt.toNat ≤ 1 + (s (12 * w + v)).toInt.toNat
    have hw2 := hE u w hw
    have hu2 := hE2 u w hw
    have r := c1 (12 * u + v) (by omega)
    have r2 := c1 (12 * w + v) (by omega)
    by_cases g : (s (12 * w + v)).toInt < 999
    · have p := c2 w v hw2 hv (by omega)
      have p2 : PW (ED X m) ((s (12 * w + v)).toInt.toNat + 1) u v := ⟨w, hw, p⟩
      have := c3 u v _ hu2 hv (by omega) (p2.wk hE)
      omega
    · omega
  · have h0' : 0 < (s (12 * u + v)).toInt.toNat := h0
    have h1' : (s (12 * u + v)).toInt.toNat < 1000 := h1
    have p := c2 u v hu hv (by have := nn u v hu hv; omega)
    generalize hk : (s (12 * u + v)).toInt.toNat = k at h0' h1' p
    obtain ⟨k', rfl⟩ : ∃ k', k = k' + 1 := ⟨k - 1, by omega⟩
    obtain ⟨w, g1, g2⟩ := p
    refine ⟨w, g1, ?_⟩
    show 1 + (s (12 * w + v)).toInt.toNat = (s (12 * u + v)).toInt.toNat
    have hw2 := hE u w g1
    have r2 := c1 (12 * w + v) (by omega)
    have q1 := c3 w v k' hw2 hv (by omega) (g2.wk hE)
    have p1 := c2 w v hw2 hv (by omega)
    have p2 : PW (ED X m) ((s (12 * w + v)).toInt.toNat + 1) u v := ⟨w, g1, p1⟩
    have q2 := c3 u v _ hu hv (by omega) (p2.wk hE)
    have := nn u v hu hv
    omega
  · have := c1 (12 * u + v) (by omega)
    have n1 := nn u v hu hv
    show s (12 * u + v) = nI (s (12 * u + v)).toInt.toNat
    refine Int32.toInt_inj.mp ?_
    rw [nI_toInt (by omega)]; exact n1.symm
