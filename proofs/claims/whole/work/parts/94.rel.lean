/-! THE RELATION between the class's cells (X) and the reference's (Y) -/
def Rw (n : Nat) (f g : Nat → Int32) : Prop := ∀ j, j < n → f j = g j
def Bw (n : Nat) (f : Nat → Int32) (lo hi : Int) : Prop := ∀ j, j < n → lo ≤ (f j).toInt ∧ (f j).toInt ≤ hi
def sumZ (f : Nat → Int32) : Nat → Int
  | 0 => 0
  | n + 1 => sumZ f n + (f n).toInt
/-- coins: none is below 0, all together -/
def CO (c q : Nat) (x : Nat → Int32) : Prop := (∀ j, j < q → 0 ≤ (x j).toInt) ∧ sumZ x q ≤ 1000000 * (c : Int)
def PE (c q : Nat) (D B : Int) (x3 x4 x5 x6 x7 x8 x9 x10 x11 x12 x13 x14 x15 y70 y71 y72 y73 y74 y75 y76 y77 y78 y79 y80 y81 y82 y83 : Nat → Int32) : Prop :=
  Rw q y70 x3 ∧ Rw q y71 x4 ∧ (∀ j, j < q → y72 j = if x5 j = -1 then 0 else 1) ∧ Rw q y73 x5 ∧ (∀ j, j < q → y74 j = if x5 j = -1 then -1 else x6 j) ∧ Rw q y75 x7 ∧ Rw q y76 x8 ∧ Rw q y77 x9 ∧ Rw q y78 x10 ∧ Rw q y79 x11 ∧ Rw q y80 x12 ∧ Rw q y81 x13 ∧ Rw q y82 x14 ∧ (∀ j, j < q → y83 j = - x15 j) ∧
  CO c q x3 ∧ Bw q x5 (-1) D ∧ Bw q x7 0 (100000 * (c : Int)) ∧ Bw q x8 0 1 ∧ Bw q x13 0 1 ∧ Bw q x14 (-(100000 * B)) (100000 * B) ∧ Bw q x15 0 (100000 * B)
/-- bounds of debts -/
def DB (c m q : Nat) (D : Int) (x17 x18 x20 x21 x24 x25 x26 x27 x28 x29 x30 x31 : Nat → Int32) : Prop :=
  (∀ j, j < m → 0 ≤ (x17 j).toInt ∧ (x17 j).toInt < q ∧ 0 ≤ (x18 j).toInt ∧ (x18 j).toInt < q ∧ x17 j ≠ x18 j) ∧ Bw m x20 0 3 ∧ Bw m x21 0 200 ∧ Bw m x27 0 D ∧ Bw m x24 0 3 ∧ Bw m x25 0 100000 ∧ Bw m x26 0 (28445 * (c : Int)) ∧ Bw m x28 0 (10000 * (c : Int)) ∧ Bw m x29 0 1 ∧ Bw m x30 0 (200000 + 40000 * (c : Int)) ∧ (∀ j, j < m → (x24 j = 0 → x31 j = -1 ∧ 0 < (x25 j).toInt + (x26 j).toInt + (x28 j).toInt) ∧ (x24 j ≠ 0 → 0 ≤ (x31 j).toInt))
def DE (c m q : Nat) (D : Int) (x17 x18 x19 x20 x21 x22 x23 x24 x25 x26 x27 x28 x29 x30 x31 y87 y88 y89 y90 y91 y92 y93 y94 y95 y96 y97 y98 y99 y100 y101 : Nat → Int32) : Prop :=
  Rw m y87 x17 ∧ Rw m y88 x18 ∧ Rw m y89 x19 ∧ Rw m y90 x20 ∧ Rw m y91 x21 ∧ Rw m y92 x22 ∧ Rw m y93 x23 ∧ Rw m y94 x24 ∧ Rw m y95 x25 ∧ Rw m y96 x26 ∧ Rw m y97 x27 ∧ Rw m y98 x28 ∧ Rw m y99 x29 ∧ Rw m y100 x30 ∧ Rw m y101 x31 ∧ DB c m q D x17 x18 x20 x21 x24 x25 x26 x27 x28 x29 x30 x31
def LE (q : Nat) (x33 y85 : Nat → Int32) : Prop := ∀ p r, p < 12 → r < 12 → (p < q → r < q → y85 (12 * p + r) = 1000 - x33 (12 * p + r)) ∧ (¬ (p < q ∧ r < q) → x33 (12 * p + r) = 0) ∧ 0 ≤ (x33 (12 * p + r)).toInt ∧ (x33 (12 * p + r)).toInt ≤ 1000
def byt (x : Int32) : Prop := -128 ≤ x.toInt ∧ x.toInt ≤ 127
def TA (l : Nat) (x34 y62 : Nat → Int32) : Prop := l ≤ 600 ∧ (∀ j, j < l → y62 j = x34 j) ∧ (∀ j, j < 600 → byt (x34 j) ∧ byt (y62 j))
def HA (h : Nat) (x35 y103 : Nat → Int32) : Prop := h ≤ 12 ∧ Rw h y103 x35
/-- numbers: how many persons, debts, acts; day, hour, fees, rows; tape, fault, place; the row at hand -/
def SC (c q m n D H B l h : Nat) (x1 x2 x16 : Nat → Int32) (y63 y64 y65 y66 y67 y68 y69 y84 y86 y102 y104 : Nat → Int32) : Prop :=
  x2 0 = nI q ∧ x16 0 = nI m ∧ x1 3 = nI n ∧ x1 4 = nI D ∧ x1 5 = nI H ∧ x1 7 = nI B ∧ x1 10 = nI l ∧ x1 14 = nI h ∧ q ≤ 12 ∧ m ≤ 40 ∧ n ≤ 4 ∧ D ≤ c ∧ H ≤ 23 ∧ B ≤ 60 ∧
  y69 0 = nI q ∧ y86 0 = nI m ∧ y104 0 = nI n ∧ y66 0 = nI D ∧ y67 0 = nI H ∧ y84 0 = nI B ∧ y63 0 = nI l ∧ y102 0 = nI h ∧ y64 0 = x1 11 ∧ y65 0 = x1 12 ∧ y68 0 = x1 6
/-- the ACTS: the class's cells xa, xl against the reference's rows -/
def AR (n : Nat) (xa xl N : Nat → Nat) (I Y : Nat → Nat → Int32) : Prop := ∀ a, a < n → I (xa a) 0 = Y 105 a ∧ I (xa a) 1 = Y 106 a ∧ ∃ k, k ≤ 20 ∧ N a = 19 * k ∧ I (xa a) 3 = nI k ∧ Y 107 a = nI k ∧ ∀ i, i < k → I (xl a) (19 * i) = Y 108 (20 * a + i) ∧ I (xl a) (19 * i + 1) = Y 110 (20 * a + i) ∧ (0 ≤ (I (xl a) (19 * i + 1)).toInt ∧ (I (xl a) (19 * i + 1)).toInt ≤ 99999) ∧ (I (xl a) (19 * i) = 7 → (I (xl a) (19 * i + 1)).toInt ≤ 100) ∧ ∃ t, t ≤ 4 ∧ I (xl a) (19 * i + 2) = nI t ∧ Y 109 (20 * a + i) = nI t ∧ ∀ u, u < t → ∃ w, w < 8 ∧ I (xl a) (19 * i + 3 + 4 * u + 1) = nI w ∧ ((I (xl a) (19 * i + 3 + 4 * u) = 0 ∧ Y 111 (4 * (20 * a + i) + u) = nI w) ∨ (I (xl a) (19 * i + 3 + 4 * u) = 1 ∧ Y 111 (4 * (20 * a + i) + u) = nI (w + 8))) ∧ I (xl a) (19 * i + 3 + 4 * u + 2) = Y 112 (4 * (20 * a + i) + u) ∧ I (xl a) (19 * i + 3 + 4 * u + 3) = Y 113 (4 * (20 * a + i) + u)
/-- all that an image keeps, but the ACTS -/
def St (c q m n D H B l h : Nat) (X Y : Nat → Nat → Int32) : Prop :=
  SC c q m n D H B l h (X 1) (X 2) (X 16) (Y 63) (Y 64) (Y 65) (Y 66) (Y 67) (Y 68) (Y 69) (Y 84) (Y 86) (Y 102) (Y 104) ∧
  PE c q D B (X 3) (X 4) (X 5) (X 6) (X 7) (X 8) (X 9) (X 10) (X 11) (X 12) (X 13) (X 14) (X 15) (Y 70) (Y 71) (Y 72) (Y 73) (Y 74) (Y 75) (Y 76) (Y 77) (Y 78) (Y 79) (Y 80) (Y 81) (Y 82) (Y 83) ∧
  DE c m q D (X 17) (X 18) (X 19) (X 20) (X 21) (X 22) (X 23) (X 24) (X 25) (X 26) (X 27) (X 28) (X 29) (X 30) (X 31) (Y 87) (Y 88) (Y 89) (Y 90) (Y 91) (Y 92) (Y 93) (Y 94) (Y 95) (Y 96) (Y 97) (Y 98) (Y 99) (Y 100) (Y 101) ∧
  LE q (X 33) (Y 85) ∧ TA l (X 34) (Y 62) ∧ HA h (X 35) (Y 103)
theorem Rw.up {n : Nat} {f g : Nat → Int32} (h : Rw n f g) (k : Nat) (v : Int32) : Rw n (upr f k v) (upr g k v) := by
  intro j hj
  unfold upr
  by_cases e : j = k
  · rw [if_pos e, if_pos e]
  · rw [if_neg e, if_neg e]; exact h j hj
theorem Rw.up2 {n : Nat} {f g : Nat → Int32} (h : Rw n f g) {k : Nat} {v w : Int32} (e : v = w) : Rw n (upr f k v) (upr g k w) := by rw [e]; exact h.up k w
theorem Bw.up {n : Nat} {f : Nat → Int32} {lo hi : Int} (h : Bw n f lo hi) {k : Nat} {v : Int32} (hv : lo ≤ v.toInt ∧ v.toInt ≤ hi) : Bw n (upr f k v) lo hi := by
  intro j hj
  unfold upr
  by_cases e : j = k
  · rw [if_pos e]; exact hv
  · rw [if_neg e]; exact h j hj
theorem Bw.le {n : Nat} {f : Nat → Int32} {lo hi hi' : Int} (h : Bw n f lo hi) (e : hi ≤ hi') : Bw n f lo hi' := fun j hj => ⟨(h j hj).1, Int.le_trans (h j hj).2 e⟩
theorem Bw.le2 {n : Nat} {f : Nat → Int32} {lo hi lo' hi' : Int} (h : Bw n f lo hi) (e1 : lo' ≤ lo) (e : hi ≤ hi') : Bw n f lo' hi' := fun j hj => ⟨Int.le_trans e1 (h j hj).1, Int.le_trans (h j hj).2 e⟩
theorem CO.le {c q : Nat} {x : Nat → Int32} (h : CO c q x) : CO (c + 1) q x := ⟨h.1, by have := h.2; omega⟩
/-- a call more -/
theorem PE.nx {c q : Nat} {D B : Int} {x3 x4 x5 x6 x7 x8 x9 x10 x11 x12 x13 x14 x15 y70 y71 y72 y73 y74 y75 y76 y77 y78 y79 y80 y81 y82 y83 : Nat → Int32} (h : PE c q D B x3 x4 x5 x6 x7 x8 x9 x10 x11 x12 x13 x14 x15 y70 y71 y72 y73 y74 y75 y76 y77 y78 y79 y80 y81 y82 y83) : PE (c + 1) q D B x3 x4 x5 x6 x7 x8 x9 x10 x11 x12 x13 x14 x15 y70 y71 y72 y73 y74 y75 y76 y77 y78 y79 y80 y81 y82 y83 := by
  obtain ⟨h1, h2, h3, h4, h5, h6, h7, h8, h9, h10, h11, h12, h13, h14, h15, h16, h17, h18, h19, h20, h21⟩ := h
  exact ⟨h1, h2, h3, h4, h5, h6, h7, h8, h9, h10, h11, h12, h13, h14, h15.le, h16, h17.le (by omega), h18, h19, h20, h21⟩
theorem DB.nx {c m q : Nat} {D : Int} {x17 x18 x20 x21 x24 x25 x26 x27 x28 x29 x30 x31 : Nat → Int32} (h : DB c m q D x17 x18 x20 x21 x24 x25 x26 x27 x28 x29 x30 x31) : DB (c + 1) m q D x17 x18 x20 x21 x24 x25 x26 x27 x28 x29 x30 x31 := by
  obtain ⟨h1, h2, h3, h4, h5, h6, h7, h8, h9, h10, h11⟩ := h
  exact ⟨h1, h2, h3, h4, h5, h6, h7.le (by omega), h8.le (by omega), h9, h10.le (by omega), h11⟩
theorem DE.nx {c m q : Nat} {D : Int} {x17 x18 x19 x20 x21 x22 x23 x24 x25 x26 x27 x28 x29 x30 x31 y87 y88 y89 y90 y91 y92 y93 y94 y95 y96 y97 y98 y99 y100 y101 : Nat → Int32} (h : DE c m q D x17 x18 x19 x20 x21 x22 x23 x24 x25 x26 x27 x28 x29 x30 x31 y87 y88 y89 y90 y91 y92 y93 y94 y95 y96 y97 y98 y99 y100 y101) : DE (c + 1) m q D x17 x18 x19 x20 x21 x22 x23 x24 x25 x26 x27 x28 x29 x30 x31 y87 y88 y89 y90 y91 y92 y93 y94 y95 y96 y97 y98 y99 y100 y101 := by
  obtain ⟨h1, h2, h3, h4, h5, h6, h7, h8, h9, h10, h11, h12, h13, h14, h15, h16⟩ := h
  exact ⟨h1, h2, h3, h4, h5, h6, h7, h8, h9, h10, h11, h12, h13, h14, h15, h16.nx⟩
theorem SC.nx {c q m n D H B l h : Nat} {x1 x2 x16 y63 y64 y65 y66 y67 y68 y69 y84 y86 y102 y104 : Nat → Int32} (z : SC c q m n D H B l h x1 x2 x16 y63 y64 y65 y66 y67 y68 y69 y84 y86 y102 y104) : SC (c + 1) q m n D H B l h x1 x2 x16 y63 y64 y65 y66 y67 y68 y69 y84 y86 y102 y104 := by
  obtain ⟨h1, h2, h3, h4, h5, h6, h7, h8, h9, h10, h11, h12, h13⟩ := z
  exact ⟨h1, h2, h3, h4, h5, h6, h7, h8, h9, h10, h11, by omega, h13⟩
theorem St.nx {c q m n D H B l h : Nat} {X Y : Nat → Nat → Int32} (z : St c q m n D H B l h X Y) : St (c + 1) q m n D H B l h X Y := ⟨z.1.nx, z.2.1.nx, z.2.2.1.nx, z.2.2.2⟩
/-- what a state's pieces give -/
theorem St.hq {c q m n D H B l h : Nat} {X Y : Nat → Nat → Int32} (z : St c q m n D H B l h X Y) : X 2 0 = nI q ∧ q ≤ 12 ∧ X 16 0 = nI m ∧ m ≤ 40 ∧ X 1 3 = nI n ∧ n ≤ 4 := ⟨z.1.1, z.1.2.2.2.2.2.2.2.2.1, z.1.2.1, z.1.2.2.2.2.2.2.2.2.2.1, z.1.2.2.1, z.1.2.2.2.2.2.2.2.2.2.2.1⟩
theorem St.hy {c q m n D H B l h : Nat} {X Y : Nat → Nat → Int32} (z : St c q m n D H B l h X Y) : Y 69 0 = nI q ∧ Y 86 0 = nI m ∧ Y 104 0 = nI n ∧ Y 66 0 = nI D ∧ Y 67 0 = nI H ∧ X 1 4 = nI D ∧ X 1 5 = nI H := by
  obtain ⟨⟨h1, h2, h3, h4, h5, h6, h7, h8, h9, h10, h11, h12, h13, h14, h15, h16, h17, h18, h19, h20⟩, -⟩ := z
  exact ⟨h15, h16, h17, h18, h19, h4, h5⟩
/-- numbers in a row: inside, and which -/
theorem inR_o (I J : Nat → Nat → Int32) (v a b : Int32) : (inR I v a b = 0) ↔ ¬ outside J v a b = 0 := by
  unfold inR outside
  by_cases h1 : v < a
  · rw [if_pos h1, if_pos h1]; decide
  · rw [if_neg h1, if_neg h1]
    by_cases h2 : b < v
    · rw [if_pos h2, if_neg (by rw [Int32.le_iff_toInt_le]; rw [Int32.lt_iff_toInt_lt] at h2; omega)]; decide
    · rw [if_neg h2, if_pos (by rw [Int32.le_iff_toInt_le]; rw [Int32.lt_iff_toInt_lt] at h2; omega)]; decide
theorem out_iff (I : Nat → Nat → Int32) (v a b : Int32) : outside I v a b = 0 ↔ (a.toInt ≤ v.toInt ∧ v.toInt ≤ b.toInt) := by
  unfold outside
  by_cases h1 : v < a
  · rw [if_pos h1]; rw [Int32.lt_iff_toInt_lt] at h1; constructor
    · intro h; exact absurd h (by decide)
    · intro h; omega
  · rw [if_neg h1]
    rw [Int32.lt_iff_toInt_lt] at h1
    by_cases h2 : v ≤ b
    · rw [if_pos h2]; rw [Int32.le_iff_toInt_le] at h2; constructor
      · intro _; omega
      · intro _; rfl
    · rw [if_neg h2]; rw [Int32.le_iff_toInt_le] at h2; constructor
      · intro h; exact absurd h (by decide)
      · intro h; omega
theorem hasP_iff {X : Nat → Nat → Int32} {q : Nat} {p : Int32} (hq : X 2 0 = nI q) (hb : q ≤ 12) : ¬ hasP X p = 0 ↔ ∃ j, j < q ∧ p = nI j := by
  unfold hasP
  rw [hq]
  constructor
  · intro h
    by_cases h1 : p < 0
    · rw [if_pos h1] at h; exact absurd rfl h
    · rw [if_neg h1] at h
      by_cases h2 : nI q ≤ p
      · rw [if_pos h2] at h; exact absurd rfl h
      · rw [Int32.lt_iff_toInt_lt, toI_0] at h1; rw [Int32.le_iff_toInt_le, nI_toInt (by omega)] at h2
        exact rng_nI ⟨by omega, by omega⟩
  · rintro ⟨j, hj, rfl⟩
    rw [if_neg (by rw [Int32.lt_iff_toInt_lt, nI_toInt (by omega), toI_0]; omega), if_neg (nI_ge hj (by omega)), if_neg (by rw [Int32.le_iff_toInt_le, nI_toInt (by omega), toI_12]; omega)]
    decide
theorem isPer_iff {Y : Nat → Nat → Int32} {q : Nat} {p : Int32} (hq : Y 69 0 = nI q) (hb : q ≤ 12) : ¬ isPer Y p = 0 ↔ ∃ j, j < q ∧ p = nI j := by
  unfold isPer inR
  rw [hq]
  have e : (nI q - 1).toInt = (q : Int) - 1 := nI_m1 (by omega)
  constructor
  · intro h
    by_cases h1 : p < 0
    · rw [if_pos h1] at h; exact absurd rfl h
    · rw [if_neg h1] at h
      by_cases h2 : nI q - 1 < p
      · rw [if_pos h2] at h; exact absurd rfl h
      · rw [Int32.lt_iff_toInt_lt, toI_0] at h1; rw [Int32.lt_iff_toInt_lt, e] at h2
        exact rng_nI ⟨by omega, by omega⟩
  · rintro ⟨j, hj, rfl⟩
    rw [if_neg (by rw [Int32.lt_iff_toInt_lt, nI_toInt (by omega), toI_0]; omega), if_neg (by rw [Int32.lt_iff_toInt_lt, nI_toInt (by omega), e]; omega)]
    decide
theorem isLive_iff {X : Nat → Nat → Int32} {m : Nat} {d : Int32} (hm : X 16 0 = nI m) (hb : m ≤ 40) : ¬ isLive X d = 0 ↔ ∃ j, j < m ∧ d = nI j ∧ X 24 j = 0 := by
  unfold isLive
  rw [hm]
  constructor
  · intro h
    by_cases h1 : d < 0
    · rw [if_pos h1] at h; exact absurd rfl h
    · rw [if_neg h1] at h
      by_cases h2 : nI m ≤ d
      · rw [if_pos h2] at h; exact absurd rfl h
      · rw [if_neg h2] at h
        by_cases h3 : (40 : Int32) ≤ d
        · rw [if_pos h3] at h; exact absurd rfl h
        · rw [if_neg h3] at h
          rw [Int32.lt_iff_toInt_lt, toI_0] at h1; rw [Int32.le_iff_toInt_le, nI_toInt (by omega)] at h2
          obtain ⟨j, hj, rfl⟩ := rng_nI (x := d) (N := m) ⟨by omega, by omega⟩
          refine ⟨j, hj, rfl, ?_⟩
          rw [nI_clamp (by omega)] at h
          by_cases h4 : X 24 j = 0
          · exact h4
          · rw [if_pos h4] at h; exact absurd rfl h
  · rintro ⟨j, hj, rfl, h⟩
    rw [if_neg (by rw [Int32.lt_iff_toInt_lt, nI_toInt (by omega), toI_0]; omega), if_neg (nI_ge hj (by omega)), if_neg (by rw [Int32.le_iff_toInt_le, nI_toInt (by omega), toI_40]; omega), nI_clamp (by omega), if_neg (fun z => z h)]
    decide
theorem isDbt_iff {Y : Nat → Nat → Int32} {m : Nat} {d : Int32} (hm : Y 86 0 = nI m) (hb : m ≤ 40) : ¬ isDbt Y d = 0 ↔ ∃ j, j < m ∧ d = nI j := by
  unfold isDbt inR
  rw [hm]
  have e : (nI m - 1).toInt = (m : Int) - 1 := nI_m1 (by omega)
  constructor
  · intro h
    by_cases h1 : d < 0
    · rw [if_pos h1] at h; exact absurd rfl h
    · rw [if_neg h1] at h
      by_cases h2 : nI m - 1 < d
      · rw [if_pos h2] at h; exact absurd rfl h
      · rw [Int32.lt_iff_toInt_lt, toI_0] at h1; rw [Int32.lt_iff_toInt_lt, e] at h2
        exact rng_nI ⟨by omega, by omega⟩
  · rintro ⟨j, hj, rfl⟩
    rw [if_neg (by rw [Int32.lt_iff_toInt_lt, nI_toInt (by omega), toI_0]; omega), if_neg (by rw [Int32.lt_iff_toInt_lt, nI_toInt (by omega), e]; omega)]
    decide
theorem isLiveR_iff {Y : Nat → Nat → Int32} {m : Nat} {d : Int32} (hm : Y 86 0 = nI m) (hb : m ≤ 40) : ¬ isLiveR Y d = 0 ↔ ∃ j, j < m ∧ d = nI j ∧ Y 94 j = 0 := by
  unfold isLiveR
  by_cases h0 : isDbt Y d = 0
  · rw [if_pos h0]
    constructor
    · intro h; exact absurd rfl h
    · rintro ⟨j, hj, rfl, -⟩; exact absurd h0 ((isDbt_iff hm hb).mpr ⟨j, hj, rfl⟩)
  · rw [if_neg h0]
    obtain ⟨j, hj, rfl⟩ := (isDbt_iff hm hb).mp h0
    rw [nI_clamp (by omega)]
    by_cases h1 : Y 94 j = 0
    · rw [if_neg (fun z => z h1)]
      constructor
      · intro _; exact ⟨j, hj, rfl, h1⟩
      · intro _; decide
    · rw [if_pos h1]
      constructor
      · intro h; exact absurd rfl h
      · rintro ⟨i, hi, e, h2⟩
        have e2 : i = j := by
          have := congrArg Int32.toInt e
          rw [nI_toInt (by omega), nI_toInt (by omega)] at this; omega
        subst e2; exact absurd h2 h1
