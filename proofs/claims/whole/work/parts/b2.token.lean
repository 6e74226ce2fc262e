/-! TOKENS: both readers see the same -/
theorem byt_k {x : Int32} (h : byt x) : ∃ k, k < 256 ∧ x = nI k - 128 := by
  unfold byt at h
  obtain ⟨k, hk, ek⟩ := rng_nI (x := x + 128) (N := 256) (by
    have e : (x + 128).toInt = x.toInt + 128 := by rw [add_toInt (by rw [show (128 : Int32).toInt = 128 from rfl]; omega) (by rw [show (128 : Int32).toInt = 128 from rfl]; omega)]; rfl
    omega)
  refine ⟨k, hk, ?_⟩
  rw [← ek]
  refine Int32.toInt_inj.mp ?_
  have e : (x + 128).toInt = x.toInt + 128 := by rw [add_toInt (by rw [show (128 : Int32).toInt = 128 from rfl]; omega) (by rw [show (128 : Int32).toInt = 128 from rfl]; omega)]; rfl
  have e128 : (128 : Int32).toInt = 128 := rfl
  rw [sub_toInt (by rw [e, e128]; omega) (by rw [e, e128]; omega), e, e128]; omega
set_option maxRecDepth 100000 in
theorem byt_all : ∀ k, k < 256 → spc (nI k - 128) = spc ((nI k - 128) &&& 255) ∧ ltr (nI k - 128) = rlt ((nI k - 128) &&& 255) ∧ dgt (nI k - 128) = rdg ((nI k - 128) &&& 255) ∧ (ltr (nI k - 128) = true → (nI k - 128) &&& 255 = nI k - 128 ∧ 97 ≤ (nI k - 128).toInt ∧ (nI k - 128).toInt ≤ 122) ∧ (dgt (nI k - 128) = true → (nI k - 128) &&& 255 = nI k - 128 ∧ 48 ≤ (nI k - 128).toInt ∧ (nI k - 128).toInt ≤ 57) ∧ ((sgk (nI k - 128) = 3 ∧ sgr ((nI k - 128) &&& 255) = 4 ∧ (nI k - 128) &&& 255 = nI k - 128) ∨ (sgk (nI k - 128) = 4 ∧ sgr ((nI k - 128) &&& 255) = 1)) := by decide +kernel
/-- a byte on both sides -/
def BB (x y : Int32) : Prop := spc x = spc y ∧ ltr x = rlt y ∧ dgt x = rdg y ∧ (ltr x = true → y = x ∧ 97 ≤ x.toInt ∧ x.toInt ≤ 122) ∧ (dgt x = true → y = x ∧ 48 ≤ x.toInt ∧ x.toInt ≤ 57) ∧ ((sgk x = 3 ∧ sgr y = 4 ∧ y = x) ∨ (sgk x = 4 ∧ sgr y = 1))
theorem byt_B {x : Int32} (h : byt x) : BB x (x &&& 255) := by
  obtain ⟨k, hk, rfl⟩ := byt_k h
  exact byt_all k hk
theorem ltr_iff (x : Int32) : ltr x = true ↔ ¬ isLet dI x = 0 := by unfold ltr; exact decide_eq_true_iff
theorem dgt_iff (x : Int32) : dgt x = true ↔ ¬ isDig dI x = 0 := by unfold dgt; exact decide_eq_true_iff
theorem rlt_iff (x : Int32) : rlt x = true ↔ ¬ inR dI x 97 122 = 0 := by unfold rlt; exact decide_eq_true_iff
theorem rdg_iff (x : Int32) : rdg x = true ↔ ¬ inR dI x 48 57 = 0 := by unfold rdg; exact decide_eq_true_iff
theorem rn_cg {P P' : Int32 → Bool} {T T' : Nat → Int32} : ∀ k p, (∀ i, p ≤ i → i < p + k → P (T i) = P' (T' i)) → rn P T k p = rn P' T' k p := by
  intro k
  induction k with
  | zero => intro p _; rfl
  | succ k ih =>
    intro p h
    rw [rn, rn, h p (Nat.le_refl _) (by omega), ih (p + 1) (fun i h1 h2 => h i (by omega) (by omega))]
theorem rn_all (P : Int32 → Bool) (T : Nat → Int32) : ∀ k p i, p ≤ i → i < rn P T k p → P (T i) = true := by
  intro k
  induction k with
  | zero => intro p i h1 h2; have h2' : i < p := h2; omega
  | succ k ih =>
    intro p i h1 h2
    rw [rn] at h2
    by_cases c : P (T p) = true
    · rw [if_pos c] at h2
      by_cases e : i = p
      · subst e; exact c
      · exact ih (p + 1) i (by omega) h2
    · rw [if_neg c] at h2; omega
/-- the number that is read -/
theorem nv_eq {T T' : Nat → Int32} {s : Nat} : ∀ k p v, (∀ i, p ≤ i → i < p + k → BB (T i) (T' i)) → s ≤ p → p + k < 2 ^ 30 → nv T s k p v = rnv T' s k p v := by
  intro k
  induction k with
  | zero => intro p v _ _ _; rfl
  | succ k ih =>
    intro p v h hs hp
    have b := h p (Nat.le_refl _) (by omega)
    rw [nv, rnv, b.2.2.1, nI_sb hs (by omega)]
    by_cases c : rdg (T' p) = true
    · rw [if_pos c, if_pos c, (b.2.2.2.2.1 (by rw [b.2.2.1]; exact c)).1, Int32.mul_comm v 10]
      exact ih (p + 1) _ (fun i h1 h2 => h i (by omega) (by omega)) (by omega) (by omega)
    · rw [if_neg c, if_neg c]
theorem nv_rg {T T' : Nat → Int32} {s : Nat} : ∀ k p v, (∀ i, p ≤ i → i < p + k → BB (T i) (T' i)) → s ≤ p → p + k < 2 ^ 30 → 0 ≤ v.toInt → v.toInt + 1 ≤ ((10 ^ (min (p - s) 5) : Nat) : Int) → 0 ≤ (nv T s k p v).toInt ∧ (nv T s k p v).toInt ≤ 99999 := by
  intro k
  induction k with
  | zero =>
    intro p v _ _ _ h0 h1
    have : (10 ^ (min (p - s) 5) : Nat) ≤ 10 ^ 5 := Nat.pow_le_pow_right (by omega) (Nat.min_le_right _ _)
    show 0 ≤ v.toInt ∧ v.toInt ≤ _
    omega
  | succ k ih =>
    intro p v h hs hp h0 h1
    have b := h p (Nat.le_refl _) (by omega)
    have le5 : (10 ^ (min (p - s) 5) : Nat) ≤ 10 ^ 5 := Nat.pow_le_pow_right (by omega) (Nat.min_le_right _ _)
    rw [nv]
    by_cases c : dgt (T p) = true
    · rw [if_pos c, nI_sb hs (by omega)]
      have d := (b.2.2.2.2.1 c).2
      refine ih (p + 1) _ (fun i h1 h2 => h i (by omega) (by omega)) (by omega) (by omega) ?_ ?_
      · by_cases g : (5 : Int32) ≤ nI (p - s)
        · rw [if_pos g]; exact h0
        · rw [if_neg g]
          rw [Int32.le_iff_toInt_le, toI_5, nI_toInt (by omega)] at g
          have hm : min (p - s) 5 = p - s := Nat.min_eq_left (by omega)
          rw [hm] at h1
          have le4 : (10 ^ (p - s) : Nat) ≤ 10 ^ 4 := Nat.pow_le_pow_right (by omega) (by omega)
          have e1 : (v * 10).toInt = v.toInt * 10 := by rw [Int32.toInt_mul]; exact Int.bmod_eq_of_le (by rw [toI_10]; omega) (by rw [toI_10]; omega)
          have e2 : (v * 10 + T p).toInt = v.toInt * 10 + (T p).toInt := by rw [add_toInt (by omega) (by omega), e1]
          rw [sub_toInt (by rw [e2, toI_48]; omega) (by rw [e2, toI_48]; omega), e2, toI_48]; omega
      · by_cases g : (5 : Int32) ≤ nI (p - s)
        · rw [if_pos g]
          rw [Int32.le_iff_toInt_le, toI_5, nI_toInt (by omega)] at g
          rw [Nat.min_eq_right (by omega)] at h1
          rw [Nat.min_eq_right (by omega)]; exact h1
        · rw [if_neg g]
          rw [Int32.le_iff_toInt_le, toI_5, nI_toInt (by omega)] at g
          have hm : min (p - s) 5 = p - s := Nat.min_eq_left (by omega)
          rw [hm] at h1
          have le4 : (10 ^ (p - s) : Nat) ≤ 10 ^ 4 := Nat.pow_le_pow_right (by omega) (by omega)
          have e1 : (v * 10).toInt = v.toInt * 10 := by rw [Int32.toInt_mul]; exact Int.bmod_eq_of_le (by rw [toI_10]; omega) (by rw [toI_10]; omega)
          have e2 : (v * 10 + T p).toInt = v.toInt * 10 + (T p).toInt := by rw [add_toInt (by omega) (by omega), e1]
          rw [sub_toInt (by rw [e2, toI_48]; omega) (by rw [e2, toI_48]; omega), e2, toI_48]
          have hm2 : min (p + 1 - s) 5 = (p - s) + 1 := by rw [show p + 1 - s = (p - s) + 1 by omega]; exact Nat.min_eq_left (by omega)
          rw [hm2, Nat.pow_succ]; omega
    · rw [if_neg c]; omega
/-! WORDS as numbers -/
def pkT (T : Nat → Int32) (s : Nat) : Nat → Nat
  | 0 => 0
  | k + 1 => pkT T s k * 256 + (T (s + k)).toInt.toNat
theorem pkT_lt {T : Nat → Int32} {s : Nat} : ∀ k, (∀ i, i < k → 0 ≤ (T (s + i)).toInt ∧ (T (s + i)).toInt < 256) → pkT T s k < 256 ^ k := by
  intro k
  induction k with
  | zero => intro _; show 0 < 1; omega
  | succ k ih =>
    intro h
    have h1 := ih (fun i hi => h i (by omega))
    have h2 := h k (by omega)
    rw [pkT, Nat.pow_succ]; omega
theorem pkT_inj {T X : Nat → Int32} {s a : Nat} : ∀ k k', (∀ i, i < k → 1 ≤ (T (s + i)).toInt ∧ (T (s + i)).toInt < 256) → (∀ i, i < k' → 1 ≤ (X (a + i)).toInt ∧ (X (a + i)).toInt < 256) → pkT T s k = pkT X a k' → k = k' ∧ ∀ i, i < k → T (s + i) = X (a + i) := by
  intro k
  induction k with
  | zero =>
    intro k' _ hX e
    cases k' with
    | zero => exact ⟨rfl, fun i hi => by omega⟩
    | succ k' =>
      have e' : 0 = pkT X a k' * 256 + (X (a + k')).toInt.toNat := e
      have := hX k' (by omega)
      omega
  | succ k ih =>
    intro k' hT hX e
    have t := hT k (by omega)
    cases k' with
    | zero =>
      have e' : pkT T s k * 256 + (T (s + k)).toInt.toNat = 0 := e
      omega
    | succ k' =>
      have x := hX k' (by omega)
      have e' : pkT T s k * 256 + (T (s + k)).toInt.toNat = pkT X a k' * 256 + (X (a + k')).toInt.toNat := e
      obtain ⟨h1, h2⟩ := ih k' (fun i hi => hT i (by omega)) (fun i hi => hX i (by omega)) (by omega)
      subst h1
      refine ⟨rfl, fun i hi => ?_⟩
      by_cases y : i = k
      · subst y; exact Int32.toInt_inj.mp (by omega)
      · exact h2 i (by omega)
theorem pkT_cg {T X : Nat → Int32} {s a : Nat} : ∀ k, (∀ i, i < k → T (s + i) = X (a + i)) → pkT T s k = pkT X a k := by
  intro k
  induction k with
  | zero => intro _; rfl
  | succ k ih => intro h; rw [pkT, pkT, ih (fun i hi => h i (by omega)), h k (by omega)]
theorem i64_app {N k : Nat} (hN : N < 2 ^ 56) (hk : k < 256) : (Int64.ofNat N <<< ((8 : Int32).toInt64 &&& 63)) ||| (nI k).toInt64 = Int64.ofNat (N * 256 + k) := by
  have ek : (nI k).toInt64 = Int64.ofNat k := by
    apply Int64.toInt_inj.mp
    rw [i64_of, nI_toInt (by omega), Int64.toInt_ofNat_of_lt (by omega)]
  rw [ek]
  apply Int64.toBitVec_inj.mp
  have e8 : (((8 : Int32).toInt64 &&& 63).toBitVec.smod 64) = 8#64 := by decide
  rw [Int64.toBitVec_or, Int64.toBitVec_shiftLeft, e8]
  show (BitVec.ofNat 64 N <<< 8#64 ||| BitVec.ofNat 64 k) = BitVec.ofNat 64 (N * 256 + k)
  apply BitVec.eq_of_toNat_eq
  rw [BitVec.toNat_or, BitVec.shiftLeft_eq', BitVec.toNat_shiftLeft, BitVec.toNat_ofNat, BitVec.toNat_ofNat, BitVec.toNat_ofNat, BitVec.toNat_ofNat, show 8 % 2 ^ 64 = 8 from rfl, Nat.mod_eq_of_lt (show N < 2 ^ 64 by omega), Nat.mod_eq_of_lt (show k < 2 ^ 64 by omega), Nat.mod_eq_of_lt (show N * 256 + k < 2 ^ 64 by omega), Nat.mod_eq_of_lt (show N <<< 8 < 2 ^ 64 by rw [Nat.shiftLeft_eq]; omega), ← Nat.shiftLeft_add_eq_or_of_lt (show k < 2 ^ 8 by omega), Nat.shiftLeft_eq]
theorem wv_eq {T T' : Nat → Int32} {s : Nat} : ∀ k p, (∀ i, p ≤ i → i < p + k → BB (T i) (T' i)) → (∀ i, s ≤ i → i < p → 97 ≤ (T i).toInt ∧ (T i).toInt ≤ 122) → s ≤ p → rn ltr T k p ≤ s + 8 → wv T' k p (Int64.ofNat (pkT T s (p - s))) = Int64.ofNat (pkT T s (rn ltr T k p - s)) := by
  intro k
  induction k with
  | zero => intro p _ _ _ _; rfl
  | succ k ih =>
    intro p h hl hs h8
    have b := h p (Nat.le_refl _) (by omega)
    rw [wv, ← b.2.1]
    rw [rn] at h8 ⊢
    by_cases c : ltr (T p) = true
    · rw [if_pos c] at h8 ⊢
      rw [if_pos c]
      obtain ⟨d1, d2, d3⟩ := b.2.2.2.1 c
      have rle := (rn_le ltr T k (p + 1)).1
      obtain ⟨x, hx, ex⟩ := rng_nI (x := T p) (N := 256) ⟨by omega, by omega⟩
      have pl := pkT_lt (T := T) (s := s) (p - s) (fun i hi => by have := hl (s + i) (by omega) (by omega); omega)
      have p7 : 256 ^ (p - s) ≤ 256 ^ 7 := Nat.pow_le_pow_right (by omega) (by omega)
      have e7 : (256 : Nat) ^ 7 = 2 ^ 56 := by decide
      rw [d1, ex, i64_app (by omega) hx]
      have e1 : pkT T s (p - s) * 256 + x = pkT T s (p + 1 - s) := by
        rw [show p + 1 - s = (p - s) + 1 by omega, pkT, show s + (p - s) = p by omega, ex, nI_toInt (by omega)]; rfl
      rw [e1]
      exact ih (p + 1) (fun i h1 h2 => h i (by omega) (by omega)) (fun i h1 h2 => by
        by_cases y : i = p
        · subst y; exact ⟨d2, d3⟩
        · exact hl i h1 (by omega)) (by omega) h8
    · rw [if_neg c, if_neg c]
theorem ipF_iff (X T : Nat → Int32) (s a : Nat) : ∀ f i, ¬ ipF X T s a f i = 0 ↔ ∀ j, i ≤ j → j < i + f → X j = T (s + j - a) := by
  intro f
  induction f with
  | zero => intro i; exact ⟨fun _ j h1 h2 => by omega, fun _ => one_nz⟩
  | succ f ih =>
    intro i
    rw [ipF]
    by_cases c : X i = T (s + i - a)
    · rw [if_pos c, ih]
      constructor
      · intro y j h1 h2
        by_cases e : j = i
        · subst e; exact c
        · exact y j (by omega) (by omega)
      · intro y j h1 h2; exact y j (by omega) (by omega)
    · rw [if_neg c]
      exact ⟨fun y => absurd rfl y, fun y => absurd (y i (Nat.le_refl _) (by omega)) c⟩
/-- a word is that one, on both sides -/
theorem kw_eq {T X : Nat → Int32} {s e a b : Nat} {w0 W : Int64} (hs : s < e) (hT : ∀ i, s ≤ i → i < e → 97 ≤ (T i).toInt ∧ (T i).toInt ≤ 122) (hw : w0 = if e - s ≤ 8 then Int64.ofNat (pkT T s (e - s)) else 0) (hb : b - a ≤ 8) (hX : ∀ i, i < b - a → 1 ≤ (X (a + i)).toInt ∧ (X (a + i)).toInt < 256) (hW : W = Int64.ofNat (pkT X a (b - a))) (hW0 : ¬ W = 0) : iw 2 w0 W = isP X T s e a b := by
  have p64 : ∀ k, k ≤ 8 → (256 : Nat) ^ k ≤ 2 ^ 64 := fun k hk => Nat.le_trans (Nat.pow_le_pow_right (by omega) hk) (by decide)
  have on : ∀ A B : Nat, A < 2 ^ 64 → B < 2 ^ 64 → Int64.ofNat A = Int64.ofNat B → A = B := by
    intro A B hA hB h
    have h2 := congrArg (fun z : Int64 => z.toBitVec.toNat) h
    have h3 : (BitVec.ofNat 64 A).toNat = (BitVec.ofNat 64 B).toNat := h2
    rw [BitVec.toNat_ofNat, BitVec.toNat_ofNat, Nat.mod_eq_of_lt hA, Nat.mod_eq_of_lt hB] at h3
    exact h3
  have key : w0 = W ↔ ¬ isP X T s e a b = 0 := by
    unfold isP
    by_cases c : b - a = e - s
    · rw [if_pos c, ipF_iff]
      rw [if_pos (by omega)] at hw
      constructor
      · intro y j h1 h2
        rw [hw, hW] at y
        have := on _ _ (Nat.lt_of_lt_of_le (pkT_lt _ (fun i hi => by have := hT (s + i) (by omega) (by omega); omega)) (p64 _ (by omega))) (Nat.lt_of_lt_of_le (pkT_lt _ (fun i hi => by have := hX i (by omega); omega)) (p64 _ hb)) y
        have w := (pkT_inj _ _ (fun i hi => by have := hT (s + i) (by omega) (by omega); omega) hX this).2 (j - a) (by omega)
        rw [show a + (j - a) = j by omega, show s + (j - a) = s + j - a by omega] at w
        exact w.symm
      · intro y
        rw [hw, hW, c]
        congr 1
        exact pkT_cg _ (fun i hi => by
          have := y (a + i) (by omega) (by omega)
          rw [show s + (a + i) - a = s + i by omega] at this
          exact this.symm)
    · rw [if_neg c]
      refine ⟨fun y => ?_, fun y => absurd rfl y⟩
      exfalso
      by_cases g : e - s ≤ 8
      · rw [if_pos g] at hw
        rw [hw, hW] at y
        have := on _ _ (Nat.lt_of_lt_of_le (pkT_lt _ (fun i hi => by have := hT (s + i) (by omega) (by omega); omega)) (p64 _ (by omega))) (Nat.lt_of_lt_of_le (pkT_lt _ (fun i hi => by have := hX i (by omega); omega)) (p64 _ hb)) y
        exact c (pkT_inj _ _ (fun i hi => by have := hT (s + i) (by omega) (by omega); omega) hX this).1.symm
      · rw [if_neg g] at hw
        exact hW0 (by rw [← y, hw])
  have i01 : isP X T s e a b = 0 ∨ isP X T s e a b = 1 := by
    unfold isP
    split
    · exact ipF_01 _ _ _ _ _ _
    · exact Or.inl rfl
  unfold iw
  rw [if_neg (not_not_intro rfl)]
  by_cases g : w0 = W
  · rw [if_neg (not_not_intro ((lg_cmp_eq w0 W).mpr g))]
    rcases i01 with y | y
    · exact absurd y (key.mp g)
    · exact y.symm
  · rw [if_pos (fun y => g ((lg_cmp_eq w0 W).mp y))]
    rcases i01 with y | y
    · exact y.symm
    · exact absurd (key.mpr (by rw [y]; exact one_nz)) g
