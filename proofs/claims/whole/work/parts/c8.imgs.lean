/-! IMAGES: kept, copied -/
theorem IM.nx {c : Nat} {tl : List (Nat × Nat)} {I : Nat → Nat → Int32} {rd : Nat → Nat → Option Nat} {b f : Nat} (h : IM c tl I rd b f) : IM (c + 1) tl I rd b f := by
  obtain ⟨n, xa, xl, N, q, m, D, H, B, l, h', z, A, J, R, K⟩ := h
  exact ⟨n, xa, xl, N, q, m, D, H, B, l, h', z.nx, A, J, R, K⟩
/-- an image whose places are as before -/
theorem IM.pw {c : Nat} {tl u : List (Nat × Nat)} {I I' : Nat → Nat → Int32} {rd rd' : Nat → Nat → Option Nat} {b f : Nat} (h : IM c tl I rd b f) (hx : ∀ a, b ≤ a → a < b + 35 → I' a = I a) (hxa : ∀ a, 131 ≤ a → ((Sst ++ tl)[a]? = some (10, 4) ∨ ∃ k, (Sst ++ tl)[a]? = some (0, 19 * k)) → I' a = I a) (hy : ∀ a, 62 ≤ a → a ≤ 113 → ∀ j, j < nn a → I' a (nn a * f + j) = I a (nn a * f + j)) (hr : ∀ a k, b ≤ a → a < b + 35 → rst rd' a k = rst rd a k) (hra : ∀ a k, 131 ≤ a → (Sst ++ tl)[a]? = some (10, 4) → rst rd' a k = rst rd a k) : IM c (tl ++ u) I' rd' b f := by
  obtain ⟨n, xa, xl, N, q, m, D, H, B, l, h', z, A, J, R, K⟩ := h
  have n4 : n ≤ 4 := z.hq.2.2.2.2.2
  have hz : ∀ a, 62 ≤ a → a ≤ 113 → ∀ j, j < nn a → vy I' f a j = vy I f a j := fun a h1 h2 j hj => hy a h1 h2 j hj
  have v62 : nn 62 = 600 := rfl
  refine ⟨n, xa, xl, N, q, m, D, H, B, l, h', ?_, ?_, J.fr (fun k => hr _ k (by omega) (by omega)) (fun a k h1 h2 h3 => hra a k h1 h3), R.fr (fun k => hr _ k (by omega) (by omega)), K.fr hr⟩
  · have z1 : St c q m n D H B l h' (vx I' b) (vy I f) := z.cgX1 (fun a h1 h2 => by
      show (fun j => I' (b + a - 1) j) = fun j => I (b + a - 1) j
      rw [hx (b + a - 1) (by omega) (by omega)])
    have np : ∀ a, 70 ≤ a → a ≤ 83 → nn a = 12 := fun a h1 h2 => by unfold nn; rw [if_neg (by omega), if_neg (by omega), if_pos h2]
    have nd : ∀ a, 87 ≤ a → a ≤ 101 → nn a = 40 := fun a h1 h2 => by unfold nn; rw [if_neg (by omega), if_neg (by omega), if_neg (by omega), if_neg (by omega), if_neg (by omega), if_neg (by omega), if_pos h2]
    have q12 := z.hq.2.1
    have m40 := z.hq.2.2.2.1
    exact z1.pw (X' := vx I' b) (Y' := vy I' f) (fun _ _ => rfl) rfl rfl (fun _ _ _ _ _ => rfl) (fun _ _ _ _ _ => rfl) (fun _ _ => rfl) (fun _ _ => rfl) (fun _ _ => rfl) (hz 62 (by decide) (by decide)) (fun a h1 h2 => hz a (by omega) (by omega) 0 nn_pos) (hz 84 (by decide) (by decide) 0 nn_pos) (hz 86 (by decide) (by decide) 0 nn_pos) (hz 102 (by decide) (by decide) 0 nn_pos) (hz 104 (by decide) (by decide) 0 nn_pos) (fun a h1 h2 j hj => hz a (by omega) (by omega) j (by rw [np a h1 h2]; omega)) (fun a h1 h2 j hj => hz a (by omega) (by omega) j (by rw [nd a h1 h2]; omega)) (hz 85 (by decide) (by decide)) (hz 103 (by decide) (by decide))
  · refine A.pw n4 (fun a ha => ?_) (fun a h1 h2 j hj => hz a (by omega) h2 j hj)
    obtain ⟨⟨e1, e2, e3, e4, e5, e6, e7, e8⟩, e9⟩ := J a ha
    obtain ⟨-, -, k, -, eN, -⟩ := A a ha
    exact ⟨hxa _ e9 (Or.inl e3), hxa _ e8 (Or.inr ⟨k, by rw [e6, eN]⟩)⟩
theorem cty_0 {a : Nat} (h : a ≠ 62) (h2 : a ≠ 72) (h3 : a ≠ 76) (h4 : a ≠ 81) (h5 : a ≠ 99) : cty a = 0 := by
  unfold cty
  rw [if_neg h, if_neg (by omega)]
/-- a copy of an image is an image -/
theorem IM.copy {c : Nat} {tl : List (Nat × Nat)} {I I2 J : Nat → Nat → Int32} {rd : Nat → Nat → Option Nat} {b b' f f' : Nat} (h : IM c tl I rd b' f') (hB : HL tl rd b) (hd : b + 35 ≤ b' ∨ b' + 35 ≤ b) (hb : b + 35 ≤ 61 ∨ 131 ≤ b) (hx : ∀ a, a < 61 ∨ 131 ≤ a → I2 a = h_7 I b b' a) (hJ : ∀ a, 62 ≤ a → a ≤ 113 → J a = I a) (hy : ∀ a, 62 ≤ a → a ≤ 113 → I2 a = cpyR J f' f a) : IM (c + 1) tl I2 (rdC rd b b' 4) b f := by
  obtain ⟨n, xa, xl, N, q, m, D, H, B, l, h', z, A, Ja, R, K⟩ := h
  have n4 : n ≤ 4 := z.hq.2.2.2.2.2
  have q12 := z.hq.2.1
  have m40 := z.hq.2.2.2.1
  have hz : ∀ a, 62 ≤ a → a ≤ 113 → ∀ j, j < nn a → vy I2 f a j = hb3 (cty a) (vy I f' a j) := fun a h1 h2 j hj => by
    show I2 a (nn a * f + j) = hb3 (cty a) (I a (nn a * f' + j))
    rw [hy a h1 h2, cpyR_at J f' f h1 h2, if_pos (by omega), hJ a h1 h2, show nn a * f + j - nn a * f = j by omega]
  have hz0 : ∀ a, 62 ≤ a → a ≤ 113 → (a ≠ 62 ∧ a ≠ 72 ∧ a ≠ 76 ∧ a ≠ 81 ∧ a ≠ 99) → ∀ j, j < nn a → vy I2 f a j = vy I f' a j := fun a h1 h2 h3 j hj => by
    rw [hz a h1 h2 j hj, cty_0 h3.1 h3.2.1 h3.2.2.1 h3.2.2.2.1 h3.2.2.2.2]; rfl
  have np : ∀ a, 70 ≤ a → a ≤ 83 → nn a = 12 := fun a h1 h2 => by unfold nn; rw [if_neg (by omega), if_neg (by omega), if_pos h2]
  have nd : ∀ a, 87 ≤ a → a ≤ 101 → nn a = 40 := fun a h1 h2 => by unfold nn; rw [if_neg (by omega), if_neg (by omega), if_neg (by omega), if_neg (by omega), if_neg (by omega), if_neg (by omega), if_pos h2]
  have v62 : nn 62 = 600 := rfl
  have eX : ∀ a j, 1 ≤ a → a ≤ 35 → vx I2 b a j = h_7 I b b' (b + (a - 1)) j := fun a j h1 h2 => by
    show I2 (b + a - 1) j = _
    rw [hx _ (by omega), show b + a - 1 = b + (a - 1) by omega]
  have eV : ∀ a j, 1 ≤ a → vx I b' a j = I (b' + (a - 1)) j := fun a j h1 => by
    show I (b' + a - 1) j = _
    rw [show b' + a - 1 = b' + (a - 1) by omega]
  obtain ⟨e70, e71, e72, e73, e74, e75, e76, e77, e78, e79, e80, e81, e82, e83, -, -, -, b8, b13, -, -⟩ := z.2.1
  obtain ⟨-, -, -, -, -, -, -, -, -, -, -, -, e99, -, -, dB⟩ := z.2.2.1
  have b29 := dB.2.2.2.2.2.2.2.2.1
  refine ⟨n, xa, xl, N, q, m, D, H, B, l, h', ?_, ?_, ?_, ?_, hB.rdC (Or.inr (Or.inr rfl))⟩
  · refine z.nx.pw (X' := vx I2 b) (Y' := vy I2 f) ?_ ?_ ?_ ?_ ?_ ?_ ?_ ?_ ?_ ?_ ?_ ?_ ?_ ?_ ?_ ?_ ?_ ?_
    · intro j hj; rw [eX 1 j (by decide) (by decide), eV 1 j (by decide)]; exact h7_0 I hd hj
    · rw [eX 2 0 (by decide) (by decide), eV 2 0 (by decide)]; exact h7_1 I hd
    · rw [eX 16 0 (by decide) (by decide), eV 16 0 (by decide)]; exact h7_15 I hd
    · intro a h1 h2 j hj; rw [eX a j (by omega) (by omega), eV a j (by omega)]; exact h7_P I hd (by omega) (by omega) hj
    · intro a h1 h2 j hj; rw [eX a j (by omega) (by omega), eV a j (by omega)]; exact h7_B I hd (by omega) (by omega) hj
    · intro j hj; rw [eX 33 j (by decide) (by decide), eV 33 j (by decide)]; exact h7_32 I hd hj
    · intro j hj; rw [eX 34 j (by decide) (by decide), eV 34 j (by decide)]; exact h7_33 I hd hj
    · intro j hj; rw [eX 35 j (by decide) (by decide), eV 35 j (by decide)]; exact h7_34 I hd hj
    · intro j hj
      rw [hz 62 (by decide) (by decide) j hj]
      exact byt_nar1 (z.2.2.2.2.1.2.2 j hj).2
    · exact fun a h1 h2 => hz0 a (by omega) (by omega) (by omega) 0 nn_pos
    · exact hz0 84 (by decide) (by decide) (by decide) 0 nn_pos
    · exact hz0 86 (by decide) (by decide) (by decide) 0 nn_pos
    · exact hz0 102 (by decide) (by decide) (by decide) 0 nn_pos
    · exact hz0 104 (by decide) (by decide) (by decide) 0 nn_pos
    · intro a h1 h2 j hj
      have hj' : j < nn a := by rw [np a h1 h2]; omega
      by_cases g72 : a = 72
      · subst g72
        rw [hz 72 (by decide) (by decide) j hj']
        refine boo_nar ?_
        rw [e72 j hj]
        by_cases y : vx I b' 5 j = -1
        · rw [if_pos y]; decide
        · rw [if_neg y]; decide
      by_cases g76 : a = 76
      · subst g76
        rw [hz 76 (by decide) (by decide) j hj']
        exact boo_nar (by rw [e76 j hj]; exact b8 j hj)
      by_cases g81 : a = 81
      · subst g81
        rw [hz 81 (by decide) (by decide) j hj']
        exact boo_nar (by rw [e81 j hj]; exact b13 j hj)
      exact hz0 a (by omega) (by omega) ⟨by omega, g72, g76, g81, by omega⟩ j hj'
    · intro a h1 h2 j hj
      have hj' : j < nn a := by rw [nd a h1 h2]; omega
      by_cases g99 : a = 99
      · subst g99
        rw [hz 99 (by decide) (by decide) j hj']
        exact boo_nar (by rw [e99 j hj]; exact b29 j hj)
      exact hz0 a (by omega) (by omega) ⟨by omega, by omega, by omega, by omega, g99⟩ j hj'
    · exact hz0 85 (by decide) (by decide) (by decide)
    · exact hz0 103 (by decide) (by decide) (by decide)
  · refine A.pw n4 (fun a ha => ?_) (fun a h1 h2 j hj => hz0 a (by omega) h2 (by omega) j hj)
    obtain ⟨⟨e1, e2, e3, e4, e5, e6, e7, e8⟩, e9⟩ := Ja a ha
    obtain ⟨-, -, k, -, eN, -⟩ := A a ha
    rw [hx _ (Or.inr e9), hx _ (Or.inr e8), h7_out I (hB.actO e3), h7_out I (hB.actL (k := k) (by rw [e6, eN]))]
    exact ⟨rfl, rfl⟩
  · intro a ha
    obtain ⟨⟨e1, e2, e3, e4, e5, e6, e7, e8⟩, e9⟩ := Ja a ha
    have ho := hB.actO e3
    refine ⟨⟨?_, e2, e3, ?_, e5, e6, e7, e8⟩, e9⟩
    · rw [hB.2.2.2.2.2]
      show (if b + 31 = b + 31 ∧ a < 4 then rst rd (b' + 31) a else rd (b + 31) a) = _
      rw [if_pos ⟨rfl, by omega⟩]; exact e1
    · rw [rdC_ne _ _ (by omega)]; exact e4
  · intro a ha
    rw [hB.2.2.2.2.2]
    show (if b + 31 = b + 31 ∧ a < 4 then rst rd (b' + 31) a else rd (b + 31) a) = none ∨ ∃ x, (if b + 31 = b + 31 ∧ a < 4 then rst rd (b' + 31) a else rd (b + 31) a) = some x ∧ _
    rw [if_pos ⟨rfl, ha⟩]
    exact R a ha
