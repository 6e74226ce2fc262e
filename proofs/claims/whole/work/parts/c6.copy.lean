/-! COPIES: what they leave -/
theorem byt_nar1 {x : Int32} (h : byt x) : vp_nar .byte x = x := by
  unfold byt at h
  rw [vp_nar_byte]
  apply Int32.toInt_inj.mp
  rw [Int8.toInt_toInt32, Int32.toInt_toInt8]
  exact Int.bmod_eq_of_le (by omega) (by omega)
theorem byt_fits {x : Int32} (h : byt x) : fits .byte (.int x) = true := by
  unfold byt at h
  show (decide ((-128 : Int32) ≤ x) && decide (x ≤ (127 : Int32))) = true
  rw [decide_eq_true (show (-128 : Int32) ≤ x by rw [Int32.le_iff_toInt_le, show (-128 : Int32).toInt = -128 by decide]; exact h.1), decide_eq_true (show x ≤ (127 : Int32) by rw [Int32.le_iff_toInt_le, show (127 : Int32).toInt = 127 by decide]; exact h.2)]
  rfl
theorem boo_nar {x : Int32} (h : 0 ≤ x.toInt ∧ x.toInt ≤ 1) : vp_nar .boolean x = x := by
  have : x = 0 ∨ x = 1 := by
    by_cases e : x.toInt = 0
    · exact Or.inl (Int32.toInt_inj.mp (by rw [e, toI_0]))
    · exact Or.inr (Int32.toInt_inj.mp (by rw [toI_1]; omega))
  rcases this with e | e
  · rw [e]; rfl
  · rw [e]; rfl
theorem cpN_ne (I : Nat → Nat → Int32) {a b n x : Nat} (h : x ≠ a) : cpN I a b n x = I x := up1_ne h
theorem cpN_at (I : Nat → Nat → Int32) {a b n j : Nat} (hj : j < n) : cpN I a b n a j = I b j := by
  unfold cpN
  rw [up1_at]
  unfold va_cpy
  rw [if_pos (by omega), show 0 + (j - 0) = j by omega]
section
variable {b b' : Nat}
theorem cpH_ne (x : Nat) : ∀ (l : List (Nat × Nat)) (K : Nat → Nat → Int32), (∀ q ∈ l, x ≠ b + q.1) → cpH b b' l K x = K x := by
  intro l
  induction l with
  | nil => intro K _; rfl
  | cons p t ih =>
    intro K h
    show cpH b b' t (cpN K (b + p.1) (b' + p.1) p.2) x = K x
    rw [ih _ (fun q hq => h q (List.mem_cons_of_mem _ hq)), cpN_ne _ (h p List.mem_cons_self)]
theorem cpH_in {c n j : Nat} (hj : j < n) : ∀ (l : List (Nat × Nat)) (K : Nat → Nat → Int32), (c, n) ∈ l → (l.map (fun q => q.1)).Nodup → (∀ q ∈ l, b' + c ≠ b + q.1) → cpH b b' l K (b + c) j = K (b' + c) j := by
  intro l
  induction l with
  | nil => intro K h; cases h
  | cons p t ih =>
    intro K h hn hd
    rw [List.map_cons, List.nodup_cons] at hn
    show cpH b b' t (cpN K (b + p.1) (b' + p.1) p.2) (b + c) j = K (b' + c) j
    rcases List.mem_cons.mp h with e | e
    · subst e
      rw [cpH_ne _ t _ (fun q hq y => hn.1 (List.mem_map.mpr ⟨q, hq, by show q.1 = c; omega⟩)), cpN_at _ hj]
    · rw [ih _ e hn.2 (fun q hq => hd q (List.mem_cons_of_mem _ hq)), cpN_ne _ (hd p List.mem_cons_self)]
theorem P_l_b : ∀ q ∈ cpP_l, 2 ≤ q.1 ∧ q.1 ≤ 14 := by decide
theorem B_l_b : ∀ q ∈ cpB_l, 16 ≤ q.1 ∧ q.1 ≤ 30 := by decide
theorem P_l_m : ∀ c, c < 15 → 2 ≤ c → (c, 12) ∈ cpP_l := by decide
theorem B_l_m : ∀ c, c < 31 → 16 ≤ c → (c, 40) ∈ cpB_l := by decide
theorem hF_ne {f : Nat} (J : Nat → Nat → Int32) {x : Nat} (h : x ≠ b) : hF f b b' J x = J x := up2_ne h
theorem hF_at (f : Nat) (J : Nat → Nat → Int32) : hF f b b' J b f = J b' f := up2_at
theorem hF_j {f j : Nat} (J : Nat → Nat → Int32) (h : j ≠ f) : hF f b b' J b j = J b j := by
  unfold hF
  rw [wup2_at, if_neg h]
variable (I : Nat → Nat → Int32)
theorem h1_ne {x : Nat} (h : x ≤ b ∨ b + 15 ≤ x) : h_1 I b b' x = I x := by
  unfold h_1
  rw [cpH_ne x _ _ (fun q hq => by have := P_l_b q hq; omega), up2_ne (by omega)]
theorem h2_ne {x : Nat} (h : x ≤ b + 14 ∨ b + 31 ≤ x) : h_2 I b b' x = h_1 I b b' x := by
  unfold h_2
  rw [cpH_ne x _ _ (fun q hq => by have := B_l_b q hq; omega), up2_ne (by omega)]
theorem h3_ne {x : Nat} (h : x ≠ b) : h_3 I b b' x = h_2 I b b' x := by
  unfold h_3
  rw [hF_ne _ h, hF_ne _ h, hF_ne _ h, hF_ne _ h, hF_ne _ h]
theorem h4_ne {x : Nat} (h : x ≠ b + 32) : h_4 I b b' x = h_3 I b b' x := cpN_ne _ h
theorem h5_ne {x : Nat} (h : x ≠ b + 33) : h_5 I b b' x = h_4 I b b' x := cpN_ne _ h
theorem h6_ne {x : Nat} (h : x ≠ b) : h_6 I b b' x = h_5 I b b' x := by
  unfold h_6
  rw [hF_ne _ h, hF_ne _ h, hF_ne _ h]
theorem h7_ne {x : Nat} (h : x ≠ b) (h2 : x ≠ b + 34) : h_7 I b b' x = h_6 I b b' x := by
  unfold h_7
  rw [hF_ne _ h, cpN_ne _ h2]
theorem h4_out {x : Nat} (h : x < b ∨ b + 35 ≤ x) : h_4 I b b' x = I x := by rw [h4_ne I (by omega), h3_ne I (by omega), h2_ne I (by omega), h1_ne I (by omega)]
theorem h7_out {x : Nat} (h : x < b ∨ b + 35 ≤ x) : h_7 I b b' x = I x := by rw [h7_ne I (by omega) (by omega), h6_ne I (by omega), h5_ne I (by omega), h4_out I h]
theorem h7_P (hd : b + 35 ≤ b' ∨ b' + 35 ≤ b) {c : Nat} (h1 : 2 ≤ c) (h2 : c ≤ 14) {j : Nat} (hj : j < 12) : h_7 I b b' (b + c) j = I (b' + c) j := by
  rw [h7_ne I (by omega) (by omega), h6_ne I (by omega), h5_ne I (by omega), h4_ne I (by omega), h3_ne I (by omega), h2_ne I (by omega)]
  unfold h_1
  rw [cpH_in hj _ _ (P_l_m c (by omega) h1) (by decide) (fun q hq => by have := P_l_b q hq; omega), up2_ne (by omega)]
theorem h7_B (hd : b + 35 ≤ b' ∨ b' + 35 ≤ b) {c : Nat} (h1 : 16 ≤ c) (h2 : c ≤ 30) {j : Nat} (hj : j < 40) : h_7 I b b' (b + c) j = I (b' + c) j := by
  rw [h7_ne I (by omega) (by omega), h6_ne I (by omega), h5_ne I (by omega), h4_ne I (by omega), h3_ne I (by omega)]
  unfold h_2
  rw [cpH_in hj _ _ (B_l_m c (by omega) h1) (by decide) (fun q hq => by have := B_l_b q hq; omega), up2_ne (by omega), h1_ne I (by omega)]
theorem h7_1 (hd : b + 35 ≤ b' ∨ b' + 35 ≤ b) : h_7 I b b' (b + 1) 0 = I (b' + 1) 0 := by
  rw [h7_ne I (by omega) (by omega), h6_ne I (by omega), h5_ne I (by omega), h4_ne I (by omega), h3_ne I (by omega), h2_ne I (by omega)]
  unfold h_1
  rw [cpH_ne _ _ _ (fun q hq => by have := P_l_b q hq; omega), up2_at]
theorem h7_15 (hd : b + 35 ≤ b' ∨ b' + 35 ≤ b) : h_7 I b b' (b + 15) 0 = I (b' + 15) 0 := by
  rw [h7_ne I (by omega) (by omega), h6_ne I (by omega), h5_ne I (by omega), h4_ne I (by omega), h3_ne I (by omega)]
  unfold h_2
  rw [cpH_ne _ _ _ (fun q hq => by have := B_l_b q hq; omega), up2_at, h1_ne I (by omega)]
theorem h7_32 (hd : b + 35 ≤ b' ∨ b' + 35 ≤ b) {j : Nat} (hj : j < 144) : h_7 I b b' (b + 32) j = I (b' + 32) j := by
  rw [h7_ne I (by omega) (by omega), h6_ne I (by omega), h5_ne I (by omega)]
  unfold h_4
  rw [cpN_at _ hj, h3_ne I (by omega), h2_ne I (by omega), h1_ne I (by omega)]
theorem h7_33 (hd : b + 35 ≤ b' ∨ b' + 35 ≤ b) {j : Nat} (hj : j < 600) : h_7 I b b' (b + 33) j = I (b' + 33) j := by
  rw [h7_ne I (by omega) (by omega), h6_ne I (by omega)]
  unfold h_5
  rw [cpN_at _ hj, h4_out I (by omega)]
theorem h7_34 (hd : b + 35 ≤ b' ∨ b' + 35 ≤ b) {j : Nat} (hj : j < 12) : h_7 I b b' (b + 34) j = I (b' + 34) j := by
  unfold h_7
  rw [hF_ne _ (by omega), cpN_at _ hj, h6_ne I (by omega), h5_ne I (by omega), h4_out I (by omega)]
theorem h7_0 (hd : b + 35 ≤ b' ∨ b' + 35 ≤ b) {j : Nat} (hj : (3 ≤ j ∧ j ≤ 7) ∨ (10 ≤ j ∧ j ≤ 12) ∨ j = 14) : h_7 I b b' b j = I b' j := by
  have s : ∀ x, x = b' → h_2 I b b' x = I x := fun x e => by rw [h2_ne I (by omega), h1_ne I (by omega)]
  have s3 : ∀ x, x = b' → h_5 I b b' x = I x := fun x e => by rw [h5_ne I (by omega), h4_out I (by omega)]
  have s6 : h_6 I b b' b' = I b' := by rw [h6_ne I (by omega), s3 _ rfl]
  have n : b' ≠ b := by omega
  unfold h_7
  by_cases e14 : j = 14
  · rw [e14, hF_at, cpN_ne _ (by omega), s6]
  rw [hF_j _ e14, cpN_ne _ (by omega)]
  unfold h_6
  by_cases e12 : j = 12
  · rw [e12, hF_at, hF_ne _ n, hF_ne _ n, s3 _ rfl]
  rw [hF_j _ e12]
  by_cases e11 : j = 11
  · rw [e11, hF_at, hF_ne _ n, s3 _ rfl]
  rw [hF_j _ e11]
  by_cases e10 : j = 10
  · rw [e10, hF_at, s3 _ rfl]
  rw [hF_j _ e10, h5_ne I (by omega), h4_ne I (by omega)]
  unfold h_3
  by_cases e7 : j = 7
  · rw [e7, hF_at, hF_ne _ n, hF_ne _ n, hF_ne _ n, hF_ne _ n, s _ rfl]
  rw [hF_j _ e7]
  by_cases e6 : j = 6
  · rw [e6, hF_at, hF_ne _ n, hF_ne _ n, hF_ne _ n, s _ rfl]
  rw [hF_j _ e6]
  by_cases e5 : j = 5
  · rw [e5, hF_at, hF_ne _ n, hF_ne _ n, s _ rfl]
  rw [hF_j _ e5]
  by_cases e4 : j = 4
  · rw [e4, hF_at, hF_ne _ n, s _ rfl]
  rw [hF_j _ e4]
  have e3 : j = 3 := by omega
  rw [e3, hF_at, s _ rfl]
end
/-- the reference's copies -/
def cty (a : Nat) : Nat := if a = 62 then 2 else if a = 72 ∨ a = 76 ∨ a = 81 ∨ a = 99 then 1 else 0
section
variable (I : Nat → Nat → Int32) (f t : Nat)
theorem cpL_ne (x : Nat) : ∀ (l : List (Nat × Nat × Nat)) (K : Nat → Nat → Int32), (∀ q ∈ l, x ≠ q.1) → cpL I f t l K x = K x := by
  intro l
  induction l with
  | nil => intro K _; rfl
  | cons p r ih =>
    intro K h
    show cpL I f t r (up1 K p.1 (cpK (hb3 p.2.2) (I p.1) p.2.1 f t p.2.1)) x = K x
    rw [ih _ (fun q hq => h q (List.mem_cons_of_mem _ hq)), up1_ne (h p List.mem_cons_self)]
theorem cpL_in {a n y : Nat} : ∀ (l : List (Nat × Nat × Nat)) (K : Nat → Nat → Int32), (a, n, y) ∈ l → (l.map (fun q => q.1)).Nodup → cpL I f t l K a = cpK (hb3 y) (I a) n f t n := by
  intro l
  induction l with
  | nil => intro K h; cases h
  | cons p r ih =>
    intro K h hn
    rw [List.map_cons, List.nodup_cons] at hn
    show cpL I f t r (up1 K p.1 (cpK (hb3 p.2.2) (I p.1) p.2.1 f t p.2.1)) a = _
    rcases List.mem_cons.mp h with e | e
    · subst e
      rw [cpL_ne _ _ _ _ r _ (fun q hq y => hn.1 (List.mem_map.mpr ⟨q, hq, y.symm⟩)), up1_at]
    · exact ih _ e hn.2
theorem cpA_b : ∀ q ∈ cpA, 62 ≤ q.1 ∧ q.1 ≤ 113 := by decide
theorem cpA_m : ∀ a, a < 114 → 62 ≤ a → (a, nn a, cty a) ∈ cpA := by decide
theorem cpA_n : (cpA.map (fun q => q.1)).Nodup := by decide
theorem cpyR_ne {a : Nat} (h : a < 62 ∨ 113 < a) : cpyR I f t a = I a := cpL_ne I f t a _ _ (fun q hq => by have := cpA_b q hq; omega)
theorem cpyR_at {a : Nat} (h1 : 62 ≤ a) (h2 : a ≤ 113) (j : Nat) : cpyR I f t a j = if nn a * t ≤ j ∧ j < nn a * t + nn a then hb3 (cty a) (I a (nn a * f + (j - nn a * t))) else I a j := by
  unfold cpyR
  rw [cpL_in I f t _ _ (cpA_m a (by omega) h1) cpA_n]
  rfl
end
