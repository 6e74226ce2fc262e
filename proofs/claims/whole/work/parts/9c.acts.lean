/-! what TOPICS tell: both sides alike -/
theorem plain_eq (X Y : Nat → Nat → Int32) {k : Nat} (hk : k < 9) : without X (nI k) = plain Y (nI k) := by
  match k, hk with
  | 0, _ => rfl
  | 1, _ => rfl
  | 2, _ => rfl
  | 3, _ => rfl
  | 4, _ => rfl
  | 5, _ => rfl
  | 6, _ => rfl
  | 7, _ => rfl
  | 8, _ => rfl
theorem good_eq {n : Nat} {xa xl N : Nat → Nat} {X Y : Nat → Nat → Int32} (hA : AR n xa xl N X Y) (hn : n ≤ 4) (L' : Nat → Nat → Int64) (d k : Int32) : ∀ j, j ≤ n → og (gdO X xa d k j) = gon_it Y L' d k j := by
  intro j
  induction j with
  | zero => intro _; rfl
  | succ j ih =>
    intro hj
    have h := hA j (by omega)
    rw [gon_it_s, gdO]
    unfold gon_st
    rw [nI_clamp (by omega), ← h.1, ← h.2.1, ← ih (by omega)]
    by_cases h1 : k < X (xa j) 1
    · rw [if_pos h1, if_pos h1]
    · rw [if_neg h1, if_neg h1]
      by_cases h2 : d < X (xa j) 0
      · rw [if_pos h2, if_pos h2]
      · rw [if_neg h2, if_neg h2]; rfl
theorem and7_w {w : Nat} (hw : w < 8) : (nI w &&& 7) = nI w ∧ (nI (w + 8) &&& 7) = nI w := by
  match w, hw with
  | 0, _ => decide
  | 1, _ => decide
  | 2, _ => decide
  | 3, _ => decide
  | 4, _ => decide
  | 5, _ => decide
  | 6, _ => decide
  | 7, _ => decide
theorem le_n {a b : Int32} : a ≤ b ↔ ¬ b < a := by rw [Int32.le_iff_toInt_le, Int32.lt_iff_toInt_lt]; omega
/-- one test -/
theorem test_eq (X Y : Nat → Nat → Int32) (L' : Nat → Nat → Int64) {y b i f u : Nat} (hb : b + 4 < 2 ^ 31) (hi : 4 * i + u < 2 ^ 31) (hf : ∀ w, w < 8 → X 38 w = Y 121 w) {w : Nat} (hw : w < 8) (e1 : X y (b + 1) = nI w) (e0 : (X y b = 0 ∧ Y 111 (4 * i + u) = nI w) ∨ (X y b = 1 ∧ Y 111 (4 * i + u) = nI (w + 8))) (e2 : X y (b + 2) = Y 112 (4 * i + u)) (e3 : X y (b + 3) = Y 113 (4 * i + u)) : hol_sr Y L' i (f + 1) u = if testH X y b = 0 then 0 else hol_sr Y L' i f (u + 1) := by
  rw [hol_sr]
  unfold testH
  rw [show nI b + (1 : Int32) = nI (b + 1) from nI_1 b, show nI b + (2 : Int32) = nI (b + 2) from nI_add b 2, show nI b + (3 : Int32) = nI (b + 3) from nI_add b 3, show nI b + (0 : Int32) = nI b from nI_add b 0, nI_clamp (show b < 2 ^ 31 by omega), nI_clamp (show b + 1 < 2 ^ 31 by omega), nI_clamp (show b + 2 < 2 ^ 31 by omega), nI_clamp (show b + 3 < 2 ^ 31 by omega), nI_clamp hi, e1, nI_clamp (show w < 2 ^ 31 by omega), hf w hw, e2, e3]
  have ho : outside X (nI w) 0 ((8 : Int32) - 1) = 0 := by rw [out_iff, nI_toInt (by omega), toI_0, toI_s8]; omega
  rw [if_pos ho]
  rcases e0 with ⟨n0, n1⟩ | ⟨n0, n1⟩
  · have h7 : nI w ≤ (7 : Int32) := by rw [Int32.le_iff_toInt_le, nI_toInt (by omega), toI_7]; omega
    rw [n0, n1, (and7_w hw).1, nI_clamp (show w < 2 ^ 31 by omega)]
    by_cases s1 : Y 112 (4 * i + u) = 60
    · by_cases c1 : Y 113 (4 * i + u) ≤ Y 121 w <;> simp [s1, c1, h7]
    · by_cases s2 : Y 112 (4 * i + u) = 62
      · by_cases c1 : Y 121 w ≤ Y 113 (4 * i + u) <;> simp [s2, c1, h7]
      · by_cases c1 : Y 121 w = Y 113 (4 * i + u) <;> simp [s1, s2, c1, h7]
  · have h7 : ¬ nI (w + 8) ≤ (7 : Int32) := by rw [Int32.le_iff_toInt_le, nI_toInt (by omega), toI_7]; omega
    rw [n0, n1, (and7_w hw).2, nI_clamp (show w < 2 ^ 31 by omega)]
    by_cases s1 : Y 112 (4 * i + u) = 60
    · by_cases c1 : Y 113 (4 * i + u) ≤ Y 121 w <;> simp [s1, c1, h7]
    · by_cases s2 : Y 112 (4 * i + u) = 62
      · by_cases c1 : Y 121 w ≤ Y 113 (4 * i + u) <;> simp [s2, c1, h7]
      · by_cases c1 : Y 121 w = Y 113 (4 * i + u) <;> simp [s1, s2, c1, h7]
/-- all tests of a line -/
theorem tests_eq (X Y : Nat → Nat → Int32) (L L' : Nat → Nat → Int64) {y b i t : Nat} (hb : b < 1000) (hi : i < 80) (ht : t ≤ 4) (hf : ∀ w, w < 8 → X 38 w = Y 121 w) (h : ∀ u, u < t → ∃ w, w < 8 ∧ X y (b + 3 + 4 * u + 1) = nI w ∧ ((X y (b + 3 + 4 * u) = 0 ∧ Y 111 (4 * i + u) = nI w) ∨ (X y (b + 3 + 4 * u) = 1 ∧ Y 111 (4 * i + u) = nI (w + 8))) ∧ X y (b + 3 + 4 * u + 2) = Y 112 (4 * i + u) ∧ X y (b + 3 + 4 * u + 3) = Y 113 (4 * i + u)) : ∀ f u, f + u = t → testsH_sr X L y b f u = hol_sr Y L' i f u := by
  intro f
  induction f with
  | zero => intro u _; rfl
  | succ f ih =>
    intro u hu
    obtain ⟨w, hw, e1, e0, e2, e3⟩ := h u (by omega)
    rw [test_eq X Y L' (b := b + 3 + 4 * u) (by omega) (by omega) hf hw e1 e0 e2 e3, testsH_sr, ih (u + 1) (by omega)]
    by_cases g : testH X y (b + 3 + 4 * u) = 0
    · rw [if_neg (not_not_intro g), if_pos g]
    · rw [if_pos g, if_neg g]
theorem k19 (j k : Nat) : (nI j * 19) + nI k = nI (19 * j + k) := by rw [show nI j * 19 = nI (j * 19) from nI_mul j 19, nI_add, Nat.mul_comm]
/-- what an ACT tells, by the facts -/
theorem act_eq {n : Nat} {xa xl N : Nat → Nat} {X Y X' Y' : Nat → Nat → Int32} (L L' : Nat → Nat → Int64) (hA : AR n xa xl N X Y) (hn : n ≤ 4) {a : Nat} (ha : a < n) (hX : X' (xl a) = X (xl a)) (hY : ∀ z, 108 ≤ z → z ≤ 113 → Y' z = Y z) (hf : ∀ w, w < 8 → X' 38 w = Y' 121 w) {k : Nat} (hk : k < 9) (cnt : Nat) (hcb : cnt < 2 ^ 31) (hc : X (xa a) 3 = nI cnt) : ∀ f j, f + j = cnt → tells_sr X' L (xl a) (nI k) f j = tel_sr Y' L' a (nI k) f j := by
  obtain ⟨-, -, c, hc20, hN, hc1, hc2, hl⟩ := hA a ha
  intro f
  induction f with
  | zero => intro j _; exact plain_eq _ _ hk
  | succ f ih =>
    intro j hj
    have ecc : cnt = c := by
      rw [hc1] at hc
      exact (nI_inj (by omega) hcb hc).symm
    obtain ⟨e0, e1, -, -, t, ht, e2, e3, hu⟩ := hl j (by omega)
    rw [tells_sr, tel_sr, show (nI j * 19) + (0 : Int32) = nI (19 * j + 0) from k19 j 0, show (nI j * 19) + (1 : Int32) = nI (19 * j + 1) from k19 j 1, nI_clamp (show 19 * j + 0 < 2 ^ 31 by omega), nI_clamp (show 19 * j + 1 < 2 ^ 31 by omega), nI_clamp (show 20 * a + j < 2 ^ 31 by omega), hX, hY 108 (by omega) (by omega), hY 110 (by omega) (by omega), Nat.add_zero, e0, e1, ih (j + 1) (by omega)]
    have htst : testsH X' L (xl a) (j * 19) = hol Y' L' (20 * a + j) := by
      unfold testsH hol tcnt
      rw [show nI (j * 19) + (2 : Int32) = nI (j * 19 + 2) from nI_add _ 2, nI_clamp (show j * 19 + 2 < 2 ^ 31 by omega), Nat.mul_comm j 19, hX, e2, hY 109 (by omega) (by omega), e3, nI_clamp (show t < 2 ^ 31 by omega)]
      have e4 : (if nI t < (4 : Int32) then nI t else 4).toNatClampNeg = t := by
        by_cases g : nI t < (4 : Int32)
        · rw [if_pos g, nI_clamp (by omega)]
        · rw [if_neg g]
          rw [Int32.lt_iff_toInt_lt, nI_toInt (by omega), toI_4] at g
          have : t = 4 := by omega
          subst this; rfl
      rw [e4]
      refine tests_eq X' Y' L L' (by omega) (by omega) ht hf (fun u hu' => ?_) t 0 (by omega)
      rw [hX, hY 111 (by omega) (by omega), hY 112 (by omega) (by omega), hY 113 (by omega) (by omega)]
      exact hu u hu'
    rw [htst]
/-- the facts of one, by the DEBTS so far -/
theorem fact_loop {X Y : Nat → Nat → Int32} {m : Nat} (L L' : Nat → Nat → Int64) (hm : X 16 0 = nI m) (hb : m ≤ 40) (e87 : Rw m (Y 87) (X 17)) (e90 : Rw m (Y 90) (X 20)) (e94 : Rw m (Y 94) (X 24)) (hd : ∀ j, j < m → due X (nI j) (X 1 4) = dueR Y (nI j)) (p : Int32) : ∀ k, k ≤ m → (gath_it X L p k 0 = lk_it Y L' p k 0 ∧ gath_it X L p k 1 = lk_it Y L' p k 1 ∧ gath_it X L p k 2 = lk_it Y L' p k 2) ∧ ∀ i, 3 ≤ i → gath_it X L p k i = startFacts X p 38 i := by
  intro k
  induction k with
  | zero => intro _; exact ⟨⟨rfl, rfl, rfl⟩, fun i hi => rfl⟩
  | succ k ih =>
    intro hk
    obtain ⟨⟨h0, h1, h2⟩, h3⟩ := ih (by omega)
    rw [gath_it_s, lk_it_s]
    unfold gath_st lk_st
    rw [owes_at hm hb (by omega), nI_clamp (by omega), e87 k (by omega), e94 k (by omega), e90 k (by omega), hd k (by omega)]
    by_cases a1 : X 24 k = 0
    · by_cases a2 : X 17 k = p
      · rw [if_pos (And.intro a1 a2), if_neg one_nz, if_neg (not_not_intro a1), if_neg (not_not_intro a2)]
        have e : ∀ g : Nat → Int32, addRow g (dueR Y (nI k)) (X 20 k) = upr (upr (upr g 0 (g 0 + dueR Y (nI k))) 1 (g 1 + 1)) 2 (if X 20 k < g 2 then X 20 k else g 2) := fun g => rfl
        rw [e]
        refine ⟨⟨?_, ?_, ?_⟩, fun i hi => ?_⟩
        · rw [upr_ne (by decide), upr_ne (by decide), upr_at, upr_ne (by decide), upr_ne (by decide), upr_at, h0]
        · rw [upr_ne (by decide), upr_at, upr_ne (by decide), upr_at, h1]
        · rw [upr_at, upr_at, ← h2]
          by_cases g : X 20 k < gath_it X L p k 2
          · rw [if_pos g, if_neg (show ¬ gath_it X L p k 2 ≤ X 20 k by rw [le_n]; exact not_not_intro g)]
          · rw [if_neg g, if_pos (show gath_it X L p k 2 ≤ X 20 k by rw [le_n]; exact g)]
        · rw [upr_ne (by omega), upr_ne (by omega), upr_ne (by omega)]; exact h3 i hi
      · rw [if_neg (show ¬ (X 24 k = 0 ∧ X 17 k = p) from fun y => a2 y.2), if_pos rfl, if_neg (not_not_intro a1), if_pos a2]
        exact ⟨⟨h0, h1, h2⟩, h3⟩
    · rw [if_neg (show ¬ (X 24 k = 0 ∧ X 17 k = p) from fun y => a1 y.1), if_pos rfl, if_pos a1]
      exact ⟨⟨h0, h1, h2⟩, h3⟩
section
variable {c q m n D H B l h : Nat} {X Y : Nat → Nat → Int32}
theorem St.facts (z : St c q m n D H B l h X Y) (L L' : Nat → Nat → Int64) {p : Nat} (hp : p < q) : ∀ w, w < 8 → gathRow X L (nI p) m w = lookR Y L' (nI p) m w := by
  have h12 := z.hq.2.1
  have hm := z.hq.2.2.1
  have h40 := z.hq.2.2.2.1
  obtain ⟨-, -, -, hd1, hh1, hd2, hh2⟩ := z.hy
  obtain ⟨e87, e88, e89, e90, e91, e92, e93, e94, -⟩ := z.2.2.1
  obtain ⟨e70, e71, e72, e73, e74, -⟩ := z.2.1
  obtain ⟨⟨f0, f1, f2⟩, f3⟩ := fact_loop L L' hm h40 e87 e90 e94 (fun j hj => z.dueE hj) (nI p) m (Nat.le_refl _)
  unfold gathRow lookR
  rw [isHeld_at z.hq.1 h12 hp, nI_clamp (by omega), e70 p hp, e71 p hp, e72 p hp, e73 p hp, e74 p hp, hd1, hd2, hh1, hh2]
  have s4 : startFacts X (nI p) 38 4 = X 4 p := by show X 4 (nI p).toNatClampNeg = _; rw [nI_clamp (by omega)]
  have s7 : startFacts X (nI p) 38 7 = X 3 p := by show X 3 (nI p).toNatClampNeg = _; rw [nI_clamp (by omega)]
  have s3 : startFacts X (nI p) 38 3 = 0 := rfl
  have s5 : startFacts X (nI p) 38 5 = 0 := rfl
  have g3 := f3 3 (by decide)
  have g4 := f3 4 (by decide)
  have g5 := f3 5 (by decide)
  have g7 := f3 7 (by decide)
  rw [s3] at g3
  rw [s4] at g4
  rw [s5] at g5
  rw [s7] at g7
  generalize gath_it X L (nI p) m = G at *
  generalize lk_it Y L' (nI p) m = K at *
  intro w hw
  by_cases a : X 5 p = -1
  · match w, hw with
    | 0, _ => simp [a, upr, f0]
    | 1, _ => simp [a, upr, f1]
    | 2, _ => simp [a, upr, f2]
    | 3, _ => simp [a, upr, g3]
    | 4, _ => simp [a, upr, g4]
    | 5, _ => simp [a, upr, g5]
    | 6, _ => simp [a, upr]
    | 7, _ => simp [a, upr, g7]
  · match w, hw with
    | 0, _ => simp [a, upr, f0]
    | 1, _ => simp [a, upr, f1]
    | 2, _ => simp [a, upr, f2]
    | 3, _ => simp [a, upr]
    | 4, _ => simp [a, upr, g4]
    | 5, _ => simp [a, upr]
    | 6, _ => simp [a, upr]
    | 7, _ => simp [a, upr, g7]
/-- ids of ACTS' cells are behind the others -/
def XB (n : Nat) (xa xl : Nat → Nat) : Prop := ∀ a, a < n → 131 ≤ xa a ∧ 131 ≤ xl a
/-- by a given ACT -/
theorem St.tellA (z : St c q m n D H B l h X Y) {xa xl N : Nat → Nat} (hA : AR n xa xl N X Y) (hB : XB n xa xl) (L L' : Nat → Nat → Int64) {p : Nat} (hp : p < q) {k : Nat} (hk : k < 9) {o : Option Nat} (ho : ∀ a, o = some a → a < n) : tellA X L xa xl (nI p) m (nI k) o = tlBy (up1 Y 121 (lookR Y L' (nI p) m)) L' (nI k) (og o) := by
  have hn := z.hq.2.2.2.2.2
  cases o with
  | none => unfold tlBy; rw [show og none = -1 from rfl, if_pos rfl]; exact plain_eq _ _ hk
  | some a =>
    have ha := ho a rfl
    unfold tlBy
    rw [show og (some a) = nI a from rfl, if_neg (show ¬ nI a = -1 by rw [← Int32.toInt_inj, nI_toInt (by omega), toI_m1]; omega), nI_clamp (by omega)]
    show tells_sr (up1 X 38 (gathRow X L (nI p) m)) L (xl a) (nI k) (X (xa a) 3).toNatClampNeg 0 = tel_sr (up1 Y 121 (lookR Y L' (nI p) m)) L' a (nI k) (Y 107 a).toNatClampNeg 0
    obtain ⟨-, -, c1, hc20, -, hc1, hc2, -⟩ := hA a ha
    rw [hc1, hc2, nI_clamp (by omega)]
    exact act_eq L L' hA hn ha (up1_ne (by have := (hB a ha).2; omega)) (fun z1 g1 g2 => up1_ne (by omega)) (fun w hw => by rw [up1_at, up1_at]; exact z.facts L L' hp w hw) hk c1 (by omega) hc1 c1 0 (by omega)
theorem St.tells (z : St c q m n D H B l h X Y) {xa xl N : Nat → Nat} (hA : AR n xa xl N X Y) (hB : XB n xa xl) (L L' : Nat → Nat → Int64) {p : Nat} (hp : p < q) {k : Nat} (hk : k < 9) : nowT X L xa xl n m (nI p) (nI k) = tlNow Y L' n m (nI p) (nI k) := by
  unfold nowT tlNow
  rw [z.tellA hA hB L L' hp hk (fun a e => gdO_lt e), good_eq hA z.hq.2.2.2.2.2 L' _ _ n (Nat.le_refl _), z.hy.2.2.2.1, z.hy.2.2.2.2.2.1]
end
