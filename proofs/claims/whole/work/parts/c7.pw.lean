/-! IMAGES: places alike, the relation alike -/
theorem Rw.pw {n : Nat} {f g f' g' : Nat → Int32} (h : Rw n f g) (e1 : ∀ j, j < n → f' j = f j) (e2 : ∀ j, j < n → g' j = g j) : Rw n f' g' := fun j hj => by rw [e1 j hj, e2 j hj]; exact h j hj
theorem Bw.pw {n : Nat} {f f' : Nat → Int32} {lo hi : Int} (h : Bw n f lo hi) (e1 : ∀ j, j < n → f' j = f j) : Bw n f' lo hi := fun j hj => by rw [e1 j hj]; exact h j hj
theorem CO.pw {c q : Nat} {x x' : Nat → Int32} (h : CO c q x) (e : ∀ j, j < q → x' j = x j) : CO c q x' := ⟨fun j hj => by rw [e j hj]; exact h.1 j hj, by rw [sumZ_cg e]; exact h.2⟩
theorem PE.pw {c q : Nat} {D B : Int} {x3 x4 x5 x6 x7 x8 x9 x10 x11 x12 x13 x14 x15 y70 y71 y72 y73 y74 y75 y76 y77 y78 y79 y80 y81 y82 y83 : Nat → Int32} (h : PE c q D B x3 x4 x5 x6 x7 x8 x9 x10 x11 x12 x13 x14 x15 y70 y71 y72 y73 y74 y75 y76 y77 y78 y79 y80 y81 y82 y83) {X' Y' : Nat → Nat → Int32} (p3 : ∀ j, j < q → X' 3 j = x3 j) (p4 : ∀ j, j < q → X' 4 j = x4 j) (p5 : ∀ j, j < q → X' 5 j = x5 j) (p6 : ∀ j, j < q → X' 6 j = x6 j) (p7 : ∀ j, j < q → X' 7 j = x7 j) (p8 : ∀ j, j < q → X' 8 j = x8 j) (p9 : ∀ j, j < q → X' 9 j = x9 j) (p10 : ∀ j, j < q → X' 10 j = x10 j) (p11 : ∀ j, j < q → X' 11 j = x11 j) (p12 : ∀ j, j < q → X' 12 j = x12 j) (p13 : ∀ j, j < q → X' 13 j = x13 j) (p14 : ∀ j, j < q → X' 14 j = x14 j) (p15 : ∀ j, j < q → X' 15 j = x15 j) (p70 : ∀ j, j < q → Y' 70 j = y70 j) (p71 : ∀ j, j < q → Y' 71 j = y71 j) (p72 : ∀ j, j < q → Y' 72 j = y72 j) (p73 : ∀ j, j < q → Y' 73 j = y73 j) (p74 : ∀ j, j < q → Y' 74 j = y74 j) (p75 : ∀ j, j < q → Y' 75 j = y75 j) (p76 : ∀ j, j < q → Y' 76 j = y76 j) (p77 : ∀ j, j < q → Y' 77 j = y77 j) (p78 : ∀ j, j < q → Y' 78 j = y78 j) (p79 : ∀ j, j < q → Y' 79 j = y79 j) (p80 : ∀ j, j < q → Y' 80 j = y80 j) (p81 : ∀ j, j < q → Y' 81 j = y81 j) (p82 : ∀ j, j < q → Y' 82 j = y82 j) (p83 : ∀ j, j < q → Y' 83 j = y83 j) : PE c q D B (X' 3) (X' 4) (X' 5) (X' 6) (X' 7) (X' 8) (X' 9) (X' 10) (X' 11) (X' 12) (X' 13) (X' 14) (X' 15) (Y' 70) (Y' 71) (Y' 72) (Y' 73) (Y' 74) (Y' 75) (Y' 76) (Y' 77) (Y' 78) (Y' 79) (Y' 80) (Y' 81) (Y' 82) (Y' 83) := by
  obtain ⟨h1, h2, h3, h4, h5, h6, h7, h8, h9, h10, h11, h12, h13, h14, h15, h16, h17, h18, h19, h20, h21⟩ := h
  exact ⟨h1.pw p70 p3, h2.pw p71 p4, fun j hj => by rw [p72 j hj, p5 j hj]; exact h3 j hj, h4.pw p73 p5, fun j hj => by rw [p74 j hj, p5 j hj, p6 j hj]; exact h5 j hj, h6.pw p75 p7, h7.pw p76 p8, h8.pw p77 p9, h9.pw p78 p10, h10.pw p79 p11, h11.pw p80 p12, h12.pw p81 p13, h13.pw p82 p14, fun j hj => by rw [p83 j hj, p15 j hj]; exact h14 j hj, h15.pw p3, h16.pw p5, h17.pw p7, h18.pw p8, h19.pw p13, h20.pw p14, h21.pw p15⟩
section
variable {c q m n D H B l h : Nat} {X Y : Nat → Nat → Int32}
theorem St.pw (z : St c q m n D H B l h X Y) {X' Y' : Nat → Nat → Int32} (h1 : ∀ j, (3 ≤ j ∧ j ≤ 7) ∨ (10 ≤ j ∧ j ≤ 12) ∨ j = 14 → X' 1 j = X 1 j) (h2 : X' 2 0 = X 2 0) (h16 : X' 16 0 = X 16 0) (hp : ∀ a, 3 ≤ a → a ≤ 15 → ∀ j, j < 12 → X' a j = X a j) (hd : ∀ a, 17 ≤ a → a ≤ 31 → ∀ j, j < 40 → X' a j = X a j) (h33 : ∀ j, j < 144 → X' 33 j = X 33 j) (h34 : ∀ j, j < 600 → X' 34 j = X 34 j) (h35 : ∀ j, j < 12 → X' 35 j = X 35 j) (k62 : ∀ j, j < 600 → Y' 62 j = Y 62 j) (ks : ∀ a, 63 ≤ a → a ≤ 69 → Y' a 0 = Y a 0) (k84 : Y' 84 0 = Y 84 0) (k86 : Y' 86 0 = Y 86 0) (k102 : Y' 102 0 = Y 102 0) (k104 : Y' 104 0 = Y 104 0) (kp : ∀ a, 70 ≤ a → a ≤ 83 → ∀ j, j < q → Y' a j = Y a j) (kd : ∀ a, 87 ≤ a → a ≤ 101 → ∀ j, j < m → Y' a j = Y a j) (k85 : ∀ j, j < 144 → Y' 85 j = Y 85 j) (k103 : ∀ j, j < 12 → Y' 103 j = Y 103 j) : St c q m n D H B l h X' Y' := by
  obtain ⟨s, p, d, e, t, g⟩ := z
  have hq : q ≤ 12 := s.2.2.2.2.2.2.2.2.1
  have hm : m ≤ 40 := s.2.2.2.2.2.2.2.2.2.1
  have hp' : ∀ a, 3 ≤ a → a ≤ 15 → ∀ j, j < q → X' a j = X a j := fun a e1 e2 j hj => hp a e1 e2 j (by omega)
  have hd' : ∀ a, 17 ≤ a → a ≤ 31 → ∀ j, j < m → X' a j = X a j := fun a e1 e2 j hj => hd a e1 e2 j (by omega)
  refine ⟨?_, ?_, ?_, ?_, ?_, ?_⟩
  · unfold SC
    rw [h2, h16, h1 3 (by decide), h1 4 (by decide), h1 5 (by decide), h1 7 (by decide), h1 10 (by decide), h1 14 (by decide), h1 11 (by decide), h1 12 (by decide), h1 6 (by decide), ks 63 (by decide) (by decide), ks 64 (by decide) (by decide), ks 65 (by decide) (by decide), ks 66 (by decide) (by decide), ks 67 (by decide) (by decide), ks 68 (by decide) (by decide), ks 69 (by decide) (by decide), k84, k86, k102, k104]
    exact s
  · exact p.pw (X' := X') (Y' := Y') (hp' 3 (by decide) (by decide)) (hp' 4 (by decide) (by decide)) (hp' 5 (by decide) (by decide)) (hp' 6 (by decide) (by decide)) (hp' 7 (by decide) (by decide)) (hp' 8 (by decide) (by decide)) (hp' 9 (by decide) (by decide)) (hp' 10 (by decide) (by decide)) (hp' 11 (by decide) (by decide)) (hp' 12 (by decide) (by decide)) (hp' 13 (by decide) (by decide)) (hp' 14 (by decide) (by decide)) (hp' 15 (by decide) (by decide)) (kp 70 (by decide) (by decide)) (kp 71 (by decide) (by decide)) (kp 72 (by decide) (by decide)) (kp 73 (by decide) (by decide)) (kp 74 (by decide) (by decide)) (kp 75 (by decide) (by decide)) (kp 76 (by decide) (by decide)) (kp 77 (by decide) (by decide)) (kp 78 (by decide) (by decide)) (kp 79 (by decide) (by decide)) (kp 80 (by decide) (by decide)) (kp 81 (by decide) (by decide)) (kp 82 (by decide) (by decide)) (kp 83 (by decide) (by decide))
  · obtain ⟨e1, e2, e3, e4, e5, e6, e7, e8, e9, e10, e11, e12, e13, e14, e15, b1, b2, b3, b4, b5, b6, b7, b8, b9, b10, b11⟩ := d
    have d17 := hd' 17 (by decide) (by decide)
    have d18 := hd' 18 (by decide) (by decide)
    have d20 := hd' 20 (by decide) (by decide)
    have d21 := hd' 21 (by decide) (by decide)
    have d24 := hd' 24 (by decide) (by decide)
    have d25 := hd' 25 (by decide) (by decide)
    have d26 := hd' 26 (by decide) (by decide)
    have d27 := hd' 27 (by decide) (by decide)
    have d28 := hd' 28 (by decide) (by decide)
    have d29 := hd' 29 (by decide) (by decide)
    have d30 := hd' 30 (by decide) (by decide)
    have d31 := hd' 31 (by decide) (by decide)
    refine ⟨e1.pw (kd 87 (by decide) (by decide)) d17, e2.pw (kd 88 (by decide) (by decide)) d18, e3.pw (kd 89 (by decide) (by decide)) (hd' 19 (by decide) (by decide)), e4.pw (kd 90 (by decide) (by decide)) d20, e5.pw (kd 91 (by decide) (by decide)) d21, e6.pw (kd 92 (by decide) (by decide)) (hd' 22 (by decide) (by decide)), e7.pw (kd 93 (by decide) (by decide)) (hd' 23 (by decide) (by decide)), e8.pw (kd 94 (by decide) (by decide)) d24, e9.pw (kd 95 (by decide) (by decide)) d25, e10.pw (kd 96 (by decide) (by decide)) d26, e11.pw (kd 97 (by decide) (by decide)) d27, e12.pw (kd 98 (by decide) (by decide)) d28, e13.pw (kd 99 (by decide) (by decide)) d29, e14.pw (kd 100 (by decide) (by decide)) d30, e15.pw (kd 101 (by decide) (by decide)) d31, fun j hj => ?_, b2.pw d20, b3.pw d21, b4.pw d27, b5.pw d24, b6.pw d25, b7.pw d26, b8.pw d28, b9.pw d29, b10.pw d30, fun j hj => ?_⟩
    · rw [d17 j hj, d18 j hj]; exact b1 j hj
    · rw [d24 j hj, d25 j hj, d26 j hj, d28 j hj, d31 j hj]; exact b11 j hj
  · intro p r hp1 hr1
    rw [k85 _ (by omega), h33 _ (by omega)]
    exact e p r hp1 hr1
  · exact ⟨t.1, fun j hj => by have := t.1; rw [k62 j (by omega), h34 j (by omega)]; exact t.2.1 j hj, fun j hj => by rw [k62 j hj, h34 j hj]; exact t.2.2 j hj⟩
  · exact ⟨g.1, g.2.pw (fun j hj => k103 j (by have := g.1; omega)) (fun j hj => h35 j (by have := g.1; omega))⟩
end
theorem AR.pw {n : Nat} {xa xl N : Nat → Nat} {I I' Y Y' : Nat → Nat → Int32} (h : AR n xa xl N I Y) (hn : n ≤ 4) (hx : ∀ a, a < n → I' (xa a) = I (xa a) ∧ I' (xl a) = I (xl a)) (hy : ∀ a, 105 ≤ a → a ≤ 113 → ∀ j, j < nn a → Y' a j = Y a j) : AR n xa xl N I' Y' := by
  have v5 : nn 105 = 4 := rfl
  have v6 : nn 106 = 4 := rfl
  have v7 : nn 107 = 4 := rfl
  have v8 : nn 108 = 80 := rfl
  have v9 : nn 109 = 80 := rfl
  have v10 : nn 110 = 80 := rfl
  have v11 : nn 111 = 320 := rfl
  have v12 : nn 112 = 320 := rfl
  have v13 : nn 113 = 320 := rfl
  intro a ha
  obtain ⟨o0, o1, k, ok, o2, o3, o4, o5⟩ := h a ha
  rw [(hx a ha).1, (hx a ha).2, hy 105 (by decide) (by decide) a (by omega), hy 106 (by decide) (by decide) a (by omega), hy 107 (by decide) (by decide) a (by omega)]
  refine ⟨o0, o1, k, ok, o2, o3, o4, fun i hi => ?_⟩
  obtain ⟨h0, h1, h2, h3, t, ht, h4, h5, h6⟩ := o5 i hi
  rw [hy 108 (by decide) (by decide) _ (by omega), hy 109 (by decide) (by decide) _ (by omega), hy 110 (by decide) (by decide) _ (by omega)]
  refine ⟨h0, h1, h2, h3, t, ht, h4, h5, fun u hu => ?_⟩
  rw [hy 111 (by decide) (by decide) _ (by omega), hy 112 (by decide) (by decide) _ (by omega), hy 113 (by decide) (by decide) _ (by omega)]
  exact h6 u hu
/-- houses and ACTS lie apart -/
theorem hsh_0 : ∀ c, c < 35 → hsh[c]? = some (13, 15) → c = 0 := by decide
theorem hsh_a : ∀ c, c < 35 → ¬ hsh[c]? = some (10, 4) := by decide
theorem hsh_r : ∀ q ∈ hsh, q.1 = 0 → q.2 = 12 ∨ q.2 = 40 ∨ q.2 = 144 := by decide
theorem HL.apart {tl : List (Nat × Nat)} {rd : Nat → Nat → Option Nat} {b b' : Nat} (h : HL tl rd b) (h' : HL tl rd b') (hn : b ≠ b') : b + 35 ≤ b' ∨ b' + 35 ≤ b := by
  have e := h.1 0 (by decide)
  have e' := h'.1 0 (by decide)
  by_cases a : b < b'
  · by_cases o : b + 35 ≤ b'
    · exact Or.inl o
    · have k := h.1 (b' - b) (by omega)
      rw [show b + (b' - b) = b' + 0 by omega, e'] at k
      have := hsh_0 (b' - b) (by omega) k.symm
      omega
  · by_cases o : b' + 35 ≤ b
    · exact Or.inr o
    · have k := h'.1 (b - b') (by omega)
      rw [show b' + (b - b') = b + 0 by omega, e] at k
      have := hsh_0 (b - b') (by omega) k.symm
      omega
theorem HL.actO {tl : List (Nat × Nat)} {rd : Nat → Nat → Option Nat} {b x : Nat} (h : HL tl rd b) (hx : (Sst ++ tl)[x]? = some (10, 4)) : x < b ∨ b + 35 ≤ x := by
  by_cases a : x < b ∨ b + 35 ≤ x
  · exact a
  · have k := h.1 (x - b) (by omega)
    rw [show b + (x - b) = x by omega, hx] at k
    exact absurd k.symm (hsh_a (x - b) (by omega))
theorem HL.actL {tl : List (Nat × Nat)} {rd : Nat → Nat → Option Nat} {b x k : Nat} (h : HL tl rd b) (hx : (Sst ++ tl)[x]? = some (0, 19 * k)) : x < b ∨ b + 35 ≤ x := by
  by_cases a : x < b ∨ b + 35 ≤ x
  · exact a
  · have e := h.1 (x - b) (by omega)
    rw [show b + (x - b) = x by omega, hx] at e
    have := hsh_r _ (List.mem_of_getElem? e.symm) rfl
    have : 19 * k = 12 ∨ 19 * k = 40 ∨ 19 * k = 144 := this
    omega
