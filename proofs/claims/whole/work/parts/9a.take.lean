/-! what is taken off a DEBT; pay, buy -/
theorem i64_of (x : Int32) : x.toInt64.toInt = x.toInt := Int32.toInt_toInt64 x
theorem mul_toInt64 {a b : Int64} (h1 : -9223372036854775808 ≤ a.toInt * b.toInt) (h2 : a.toInt * b.toInt < 9223372036854775808) : (a * b).toInt = a.toInt * b.toInt := by
  rw [Int64.toInt_mul]; exact Int.bmod_eq_of_le (by omega) (by omega)
theorem div_toInt64 {a b : Int64} (h0 : 0 ≤ a.toInt) (hb : 0 < b.toInt) : (a / b).toInt = a.toInt / b.toInt := by
  have h1 := Int64.toInt_lt a
  rw [Int64.toInt_div, Int.tdiv_eq_ediv_of_nonneg h0]
  have h2 : a.toInt / b.toInt ≤ a.toInt := Int.ediv_le_self _ h0
  have h3 : 0 ≤ a.toInt / b.toInt := Int.ediv_nonneg h0 (by omega)
  exact Int.bmod_eq_of_le (by omega) (by omega)
theorem to32 {a : Int64} (h1 : -2147483648 ≤ a.toInt) (h2 : a.toInt < 2147483648) : a.toInt32.toInt = a.toInt := by
  rw [Int64.toInt_toInt32]; exact Int.bmod_eq_of_le (by omega) (by omega)
theorem mul_b {a b A B : Int} (h0 : 0 ≤ a) (h1 : a ≤ A) (h2 : 0 ≤ b) (h3 : b ≤ B) : 0 ≤ a * b ∧ a * b ≤ A * B := ⟨Int.mul_nonneg h0 h2, Int.mul_le_mul h1 h3 h2 (by omega)⟩
/-- what has grown -/
theorem grow_toInt {p r t : Int32} (hp : 0 ≤ p.toInt ∧ p.toInt ≤ 100000) (hr : 0 ≤ r.toInt ∧ r.toInt ≤ 200) (ht : 0 ≤ t.toInt ∧ t.toInt ≤ 512) : 0 ≤ (((p.toInt64 * r.toInt64) * t.toInt64) / (360000 : Int64)).toInt32.toInt ∧ (((p.toInt64 * r.toInt64) * t.toInt64) / (360000 : Int64)).toInt32.toInt ≤ 28445 := by
  have h1 := mul_b hp.1 hp.2 hr.1 hr.2
  have e1 : (p.toInt64 * r.toInt64).toInt = p.toInt * r.toInt := by rw [mul_toInt64 (by rw [i64_of, i64_of]; omega) (by rw [i64_of, i64_of]; omega), i64_of, i64_of]
  have h2 := mul_b h1.1 h1.2 ht.1 ht.2
  have e2 : ((p.toInt64 * r.toInt64) * t.toInt64).toInt = p.toInt * r.toInt * t.toInt := by rw [mul_toInt64 (by rw [e1, i64_of]; omega) (by rw [e1, i64_of]; omega), e1, i64_of]
  have e3 : (((p.toInt64 * r.toInt64) * t.toInt64) / (360000 : Int64)).toInt = (p.toInt * r.toInt * t.toInt) / 360000 := by rw [div_toInt64 (by rw [e2]; exact h2.1) (by decide), e2]; rfl
  generalize p.toInt * r.toInt * t.toInt = w at h2 e3
  rw [to32 (by rw [e3]; omega) (by rw [e3]; omega), e3]
  omega
theorem grow_0 (p r t : Int32) : (((p.toInt64 * r.toInt64) * (t - t).toInt64) / (360000 : Int64)).toInt32 = 0 := by
  rw [Int32.sub_self, show (0 : Int32).toInt64 = 0 from rfl, Int64.mul_zero]
  decide
theorem tkR_eq (Y : Nat → Nat → Int32) (L : Nat → Nat → Int64) (g94 g95 g96 g97 g98 g101 : Nat → Int32) {j : Nat} (hj : j < 2 ^ 31) (a C I0 P fc fi : Int32) (hC : g98 j = C) (hI : intrR (up1 (up1 (up1 Y 95 g95) 96 g96) 97 g97) (nI j) = I0) (hP : g95 j = P) (hfc : (if C ≤ a then C else a) = fc) (hfi : (if I0 ≤ a - fc then I0 else a - fc) = fi) : tkR Y L g94 g95 g96 g97 g98 g101 (nI j) a = (if C - fc = 0 ∧ I0 - fi = 0 ∧ P - (a - fc - fi) = 0 then upr g94 j 1 else g94, upr g95 j (P - (a - fc - fi)), upr g96 j (I0 - fi), upr g97 j (Y 66 0), upr g98 j (C - fc), if C - fc = 0 ∧ I0 - fi = 0 ∧ P - (a - fc - fi) = 0 then upr g101 j (Y 66 0) else g101) := by
  unfold tkR
  rw [nI_clamp hj, hC, hI, hP, hfc, hfi, up2_at, up2_at, up2_at]
  by_cases h1 : C - fc = 0 <;> by_cases h2 : I0 - fi = 0 <;> by_cases h3 : P - (a - fc - fi) = 0 <;> simp [h1, h2, h3]
theorem FY.u1r {Y Y' : Nat → Nat → Int32} {b N : Nat} {g : Nat → Int32} (h : FY Y Y') (hb : 62 ≤ b ∧ b ≤ 104) (hN : nn b = N) (hg : ∀ k, N ≤ k → g k = Y' b k) : FY Y (up1 Y' b g) := h.u1 (Or.inr ⟨hb.1, hb.2, fun k hk => hg k (by rw [← hN]; exact hk)⟩)
/-- the reference's memory behind takeOff -/
def tkY (Y : Nat → Nat → Int32) (L : Nat → Nat → Int64) (d a : Int32) : Nat → Nat → Int32 := up1 (up1 (up1 (up1 (up1 (up1 Y 94 (tkR Y L (Y 94) (Y 95) (Y 96) (Y 97) (Y 98) (Y 101) d a).1) 95 (tkR Y L (Y 94) (Y 95) (Y 96) (Y 97) (Y 98) (Y 101) d a).2.1) 96 (tkR Y L (Y 94) (Y 95) (Y 96) (Y 97) (Y 98) (Y 101) d a).2.2.1) 97 (tkR Y L (Y 94) (Y 95) (Y 96) (Y 97) (Y 98) (Y 101) d a).2.2.2.1) 98 (tkR Y L (Y 94) (Y 95) (Y 96) (Y 97) (Y 98) (Y 101) d a).2.2.2.2.1) 101 (tkR Y L (Y 94) (Y 95) (Y 96) (Y 97) (Y 98) (Y 101) d a).2.2.2.2.2
theorem min_eq2 (C a : Int32) : (if C ≤ a then C else a) = (if C < a then C else a) := by
  by_cases h : C < a
  · rw [if_pos h, if_pos (by rw [Int32.le_iff_toInt_le]; rw [Int32.lt_iff_toInt_lt] at h; omega)]
  · rw [if_neg h]
    by_cases h2 : C ≤ a
    · rw [if_pos h2]; apply Int32.toInt_inj.mp; rw [Int32.lt_iff_toInt_lt] at h; rw [Int32.le_iff_toInt_le] at h2; omega
    · rw [if_neg h2]
section
variable {c q m n D H B l h : Nat} {X Y : Nat → Nat → Int32}
/-- INTEREST and DUE as numbers -/
theorem St.dueZ (z : St c q m n D H B l h X Y) (hc : c ≤ 512) {j : Nat} (hj : j < m) : (X 26 j).toInt ≤ (intrOn X (nI j) (X 1 4)).toInt ∧ (intrOn X (nI j) (X 1 4)).toInt ≤ (X 26 j).toInt + 28445 ∧ (X 24 j = 0 → (due X (nI j) (X 1 4)).toInt = (X 28 j).toInt + (intrOn X (nI j) (X 1 4)).toInt + (X 25 j).toInt) := by
  have hm := z.hq.2.2.1
  have h40 := z.hq.2.2.2.1
  have h4 := z.hy.2.2.2.2.2.1
  have hD := z.1.2.2.2.2.2.2.2.2.2.2.2.1
  obtain ⟨-, -, -, -, -, -, -, -, -, -, -, -, -, -, -, b1, b2, b3, b4, b5, b6, b7, b8, b9, b10, b11⟩ := z.2.2.1
  have c3 := b3 j hj
  have c4 := b4 j hj
  have c6 := b6 j hj
  have c7 := b7 j hj
  have c8 := b8 j hj
  have e : (intrOn X (nI j) (X 1 4)).toInt = (X 26 j).toInt + (((((X 25 j).toInt64 * (X 21 j).toInt64) * ((X 1 4) - (X 27 j)).toInt64)) / (360000 : Int64)).toInt32.toInt ∧ 0 ≤ (((((X 25 j).toInt64 * (X 21 j).toInt64) * ((X 1 4) - (X 27 j)).toInt64)) / (360000 : Int64)).toInt32.toInt ∧ (((((X 25 j).toInt64 * (X 21 j).toInt64) * ((X 1 4) - (X 27 j)).toInt64)) / (360000 : Int64)).toInt32.toInt ≤ 28445 := by
    have ed : ((X 1 4) - (X 27 j)).toInt = (D : Int) - (X 27 j).toInt := by rw [h4, sub_toInt (by rw [nI_toInt (by omega)]; omega) (by rw [nI_toInt (by omega)]; omega), nI_toInt (by omega)]
    have g := grow_toInt (p := X 25 j) (r := X 21 j) (t := (X 1 4) - (X 27 j)) c6 c3 (by rw [ed]; omega)
    refine ⟨?_, g⟩
    unfold intrOn
    rw [nI_clamp (by omega), add_toInt (by omega) (by omega)]
  refine ⟨by omega, by omega, fun h0 => ?_⟩
  rw [due_at hm h40 hj, if_pos h0]
  have e1 : (X 28 j + intrOn X (nI j) (X 1 4)).toInt = (X 28 j).toInt + (intrOn X (nI j) (X 1 4)).toInt := add_toInt (by omega) (by omega)
  rw [add_toInt (by rw [e1]; omega) (by rw [e1]; omega), e1]
/-- what is taken off, on both sides -/
theorem St.take (z : St c q m n D H B l h X Y) (hc : c ≤ 512) (L' : Nat → Nat → Int64) {j : Nat} (hj : j < m) (h0 : X 24 j = 0) {a : Int32} (ha0 : 0 ≤ a.toInt) (ha : a.toInt ≤ (due X (nI j) (X 1 4)).toInt) : St (c + 1) q m n D H B l h (takeOff X (nI j) a (X 1 4)) (tkY Y L' (nI j) a) ∧ FX X (takeOff X (nI j) a (X 1 4)) ∧ FY Y (tkY Y L' (nI j) a) := by
  have hm := z.hq.2.2.1
  have h40 := z.hq.2.2.2.1
  have hDc := z.1.2.2.2.2.2.2.2.2.2.2.2.1
  obtain ⟨-, -, -, hd1, -, hd2, -⟩ := z.hy
  obtain ⟨d1, d2, d3⟩ := z.dueZ hc hj
  have d3 := d3 h0
  obtain ⟨e87, e88, e89, e90, e91, e92, e93, e94, e95, e96, e97, e98, e99, e100, e101, b1, b2, b3, b4, b5, b6, b7, b8, b9, b10, b11⟩ := z.2.2.1
  have c6 := b6 j hj
  have c7 := b7 j hj
  have c8 := b8 j hj
  have hin := z.intr hj
  generalize hI0 : intrOn X (nI j) (X 1 4) = I0 at d1 d2 d3 hin
  generalize hfc : (if X 28 j < a then X 28 j else a) = fc
  have zc : fc.toInt = (X 28 j).toInt ∧ (X 28 j).toInt ≤ a.toInt ∨ fc = a ∧ a.toInt ≤ (X 28 j).toInt := by
    rw [← hfc]
    by_cases e : X 28 j < a
    · rw [if_pos e]; rw [Int32.lt_iff_toInt_lt] at e; left; omega
    · rw [if_neg e]; rw [Int32.lt_iff_toInt_lt] at e; right; exact ⟨rfl, by omega⟩
  have zc2 : 0 ≤ fc.toInt ∧ fc.toInt ≤ a.toInt ∧ fc.toInt ≤ (X 28 j).toInt ∧ (fc.toInt < a.toInt → fc.toInt = (X 28 j).toInt) := by
    rcases zc with ⟨e1, e2⟩ | ⟨rfl, e2⟩
    · omega
    · omega
  have ea : (a - fc).toInt = a.toInt - fc.toInt := sub_toInt (by omega) (by omega)
  generalize hfi : (if I0 < a - fc then I0 else a - fc) = fi
  have zi : 0 ≤ fi.toInt ∧ fi.toInt ≤ a.toInt - fc.toInt ∧ fi.toInt ≤ I0.toInt ∧ (fi.toInt < a.toInt - fc.toInt → fi.toInt = I0.toInt) := by
    rw [← hfi]
    by_cases e : I0 < a - fc
    · rw [if_pos e]; rw [Int32.lt_iff_toInt_lt, ea] at e; omega
    · rw [if_neg e, ea]; rw [Int32.lt_iff_toInt_lt, ea] at e; omega
  have eC : (X 28 j - fc).toInt = (X 28 j).toInt - fc.toInt := sub_toInt (by omega) (by omega)
  have eI : (I0 - fi).toInt = I0.toInt - fi.toInt := sub_toInt (by omega) (by omega)
  have er : (a - fc - fi).toInt = a.toInt - fc.toInt - fi.toInt := by rw [sub_toInt (by omega) (by omega), ea]
  have eP : (X 25 j - (a - fc - fi)).toInt = (X 25 j).toInt - (a.toInt - fc.toInt - fi.toInt) := by rw [sub_toInt (by omega) (by omega), er]
  have hP0 : 0 ≤ (X 25 j).toInt - (a.toInt - fc.toInt - fi.toInt) := by omega
  have hT := tkR_eq Y L' (Y 94) (Y 95) (Y 96) (Y 97) (Y 98) (Y 101) (j := j) (by omega) a (X 28 j) I0 (X 25 j) fc fi (e98 j hj) (by show intrR Y (nI j) = I0; exact hin.symm) (e95 j hj) (by rw [min_eq2]; exact hfc) (by rw [min_eq2]; exact hfi)
  -- the class: rows
  have k26 : (up2 X 26 j I0) 26 j = I0 := up2_at
  have hk : tk4 X (nI j) a (X 1 4) = up2 (up2 (up2 (up2 (up2 X 26 j I0) 27 j (X 1 4)) 28 j (X 28 j - fc)) 26 j (I0 - fi)) 25 j (X 25 j - (a - fc - fi)) := by
    unfold tk4
    rw [nI_clamp (by omega), hI0, k26, hfc, hfi]
  have hdu : due (tk4 X (nI j) a (X 1 4)) (nI j) (X 1 4) = 0 ↔ (X 28 j - fc = 0 ∧ I0 - fi = 0 ∧ X 25 j - (a - fc - fi) = 0) := by
    have e24 : (tk4 X (nI j) a (X 1 4)) 24 j = 0 := by rw [hk]; exact h0
    rw [due_at (X := tk4 X (nI j) a (X 1 4)) (m := m) (by rw [hk]; exact hm) h40 hj, if_pos e24]
    have e1 : intrOn (tk4 X (nI j) a (X 1 4)) (nI j) (X 1 4) = I0 - fi := by
      unfold intrOn
      rw [nI_clamp (by omega), hk]
      show upr (upr (X 26) j I0) j (I0 - fi) j + ((((upr (X 25) j (X 25 j - (a - fc - fi)) j).toInt64 * (X 21 j).toInt64) * (X 1 4 - upr (X 27) j (X 1 4) j).toInt64) / (360000 : Int64)).toInt32 = _
      rw [upr_at, upr_at, upr_at, grow_0, Int32.add_zero]
    have e2 : (tk4 X (nI j) a (X 1 4)) 28 j = X 28 j - fc := by rw [hk]; show upr (X 28) j (X 28 j - fc) j = _; rw [upr_at]
    have e3 : (tk4 X (nI j) a (X 1 4)) 25 j = X 25 j - (a - fc - fi) := by rw [hk]; show upr (X 25) j (X 25 j - (a - fc - fi)) j = _; rw [upr_at]
    rw [e1, e2, e3]
    have s1 : (X 28 j - fc + (I0 - fi)).toInt = (X 28 j).toInt - fc.toInt + (I0.toInt - fi.toInt) := by rw [add_toInt (by omega) (by omega), eC, eI]
    have s2 : (X 28 j - fc + (I0 - fi) + (X 25 j - (a - fc - fi))).toInt = (X 28 j).toInt - fc.toInt + (I0.toInt - fi.toInt) + ((X 25 j).toInt - (a.toInt - fc.toInt - fi.toInt)) := by rw [add_toInt (by omega) (by omega), s1, eP]
    rw [← Int32.toInt_inj, ← Int32.toInt_inj, ← Int32.toInt_inj, ← Int32.toInt_inj, s2, eC, eI, eP, toI_0]
    omega
  have hX : takeOff X (nI j) a (X 1 4) = up2 (up2 (up2 (up2 (up2 (up2 (up2 X 26 j I0) 27 j (X 1 4)) 28 j (X 28 j - fc)) 26 j (I0 - fi)) 25 j (X 25 j - (a - fc - fi))) 24 j (if X 28 j - fc = 0 ∧ I0 - fi = 0 ∧ X 25 j - (a - fc - fi) = 0 then 1 else X 24 j)) 31 j (if X 28 j - fc = 0 ∧ I0 - fi = 0 ∧ X 25 j - (a - fc - fi) = 0 then X 1 4 else X 31 j) := by
    unfold takeOff
    rw [nI_clamp (by omega)]
    simp only [hdu]
    rw [hk]
    rfl
  have hY : tkY Y L' (nI j) a = up1 (up1 (up1 (up1 (up1 (up1 Y 94 (if X 28 j - fc = 0 ∧ I0 - fi = 0 ∧ X 25 j - (a - fc - fi) = 0 then upr (Y 94) j 1 else Y 94)) 95 (upr (Y 95) j (X 25 j - (a - fc - fi)))) 96 (upr (Y 96) j (I0 - fi))) 97 (upr (Y 97) j (Y 66 0))) 98 (upr (Y 98) j (X 28 j - fc))) 101 (if X 28 j - fc = 0 ∧ I0 - fi = 0 ∧ X 25 j - (a - fc - fi) = 0 then upr (Y 101) j (Y 66 0) else Y 101) := by
    unfold tkY
    rw [hT]
  rw [hX, hY]
  refine ⟨⟨z.1.nx, z.2.1.nx, ⟨e87, e88, e89, e90, e91, e92, e93, ?_, e95.up _ _, ?_, ?_, e98.up _ _, e99, e100, ?_, b1, b2, b3, ?_, ?_, ?_, ?_, ?_, b9, b10.le (by omega), ?_⟩, z.2.2.2⟩, ?_, ?_⟩
  · show Rw m (if X 28 j - fc = 0 ∧ I0 - fi = 0 ∧ X 25 j - (a - fc - fi) = 0 then upr (Y 94) j 1 else Y 94) (upr (X 24) j (if X 28 j - fc = 0 ∧ I0 - fi = 0 ∧ X 25 j - (a - fc - fi) = 0 then 1 else X 24 j))
    split
    · exact e94.up _ _
    · intro i hi
      by_cases e : i = j
      · subst e; rw [upr_at]; exact e94 i hi
      · rw [upr_ne e]; exact e94 i hi
  · show Rw m (upr (Y 96) j (I0 - fi)) (upr (upr (X 26) j I0) j (I0 - fi))
    intro i hi
    by_cases e : i = j
    · subst e; rw [upr_at, upr_at]
    · rw [upr_ne e, upr_ne e, upr_ne e]; exact e96 i hi
  · show Rw m (upr (Y 97) j (Y 66 0)) (upr (X 27) j (X 1 4))
    rw [hd1, hd2]; exact e97.up _ _
  · show Rw m (if X 28 j - fc = 0 ∧ I0 - fi = 0 ∧ X 25 j - (a - fc - fi) = 0 then upr (Y 101) j (Y 66 0) else Y 101) (upr (X 31) j (if X 28 j - fc = 0 ∧ I0 - fi = 0 ∧ X 25 j - (a - fc - fi) = 0 then X 1 4 else X 31 j))
    split
    · rw [hd1, hd2]; exact e101.up _ _
    · intro i hi
      by_cases e : i = j
      · subst e; rw [upr_at]; exact e101 i hi
      · rw [upr_ne e]; exact e101 i hi
  · show Bw m (upr (X 27) j (X 1 4)) 0 D
    exact b4.up (by rw [hd2, nI_toInt (by omega)]; omega)
  · show Bw m (upr (X 24) j (if X 28 j - fc = 0 ∧ I0 - fi = 0 ∧ X 25 j - (a - fc - fi) = 0 then 1 else X 24 j)) 0 3
    refine b5.up ?_
    split
    · rw [toI_1]; omega
    · exact b5 j hj
  · show Bw m (upr (X 25) j (X 25 j - (a - fc - fi))) 0 100000
    exact b6.up (by rw [eP]; omega)
  · show Bw m (upr (upr (X 26) j I0) j (I0 - fi)) 0 (28445 * ((c + 1 : Nat) : Int))
    refine Bw.up (Bw.up (b7.le (by omega)) ?_) ?_
    · omega
    · rw [eI]; omega
  · show Bw m (upr (X 28) j (X 28 j - fc)) 0 (10000 * ((c + 1 : Nat) : Int))
    exact (b8.le (by omega)).up (by rw [eC]; omega)
  · intro i hi
    show (upr (X 24) j (if X 28 j - fc = 0 ∧ I0 - fi = 0 ∧ X 25 j - (a - fc - fi) = 0 then 1 else X 24 j) i = 0 → upr (X 31) j (if X 28 j - fc = 0 ∧ I0 - fi = 0 ∧ X 25 j - (a - fc - fi) = 0 then X 1 4 else X 31 j) i = -1 ∧ 0 < (upr (X 25) j (X 25 j - (a - fc - fi)) i).toInt + (upr (upr (X 26) j I0) j (I0 - fi) i).toInt + (upr (X 28) j (X 28 j - fc) i).toInt) ∧ (upr (X 24) j (if X 28 j - fc = 0 ∧ I0 - fi = 0 ∧ X 25 j - (a - fc - fi) = 0 then 1 else X 24 j) i ≠ 0 → 0 ≤ (upr (X 31) j (if X 28 j - fc = 0 ∧ I0 - fi = 0 ∧ X 25 j - (a - fc - fi) = 0 then X 1 4 else X 31 j) i).toInt)
    by_cases e : i = j
    · subst e
      rw [upr_at, upr_at, upr_at, upr_at, upr_at]
      by_cases w : X 28 i - fc = 0 ∧ I0 - fi = 0 ∧ X 25 i - (a - fc - fi) = 0
      · rw [if_pos w, if_pos w]
        exact ⟨fun y => absurd y (by decide), fun _ => by rw [hd2, nI_toInt (by omega)]; omega⟩
      · rw [if_neg w, if_neg w]
        refine ⟨fun _ => ⟨((b11 i hi).1 h0).1, ?_⟩, fun y => absurd h0 y⟩
        rw [eC, eI, eP]
        have : ¬ ((X 28 i).toInt - fc.toInt = 0 ∧ I0.toInt - fi.toInt = 0 ∧ (X 25 i).toInt - (a.toInt - fc.toInt - fi.toInt) = 0) := fun y => w ⟨Int32.toInt_inj.mp (by rw [eC, y.1, toI_0]), Int32.toInt_inj.mp (by rw [eI, y.2.1, toI_0]), Int32.toInt_inj.mp (by rw [eP, y.2.2, toI_0])⟩
        omega
    · rw [upr_ne e, upr_ne e, upr_ne e, upr_ne e, upr_ne e, upr_ne e]; exact b11 i hi
  · exact ((((((FX.rfl.u2 (by decide) _ _).u2 (by decide) _ _).u2 (by decide) _ _).u2 (by decide) _ _).u2 (by decide) _ _).u2 (by decide) _ _).u2 (by decide) _ _
  · have big : ∀ (g : Nat → Int32) (v : Int32), ∀ k, 40 ≤ k → upr g j v k = g k := fun g v k hk => upr_ne (by omega)
    refine FY.u1r (b := 101) (N := 40) (FY.u1r (b := 98) (N := 40) (FY.u1r (b := 97) (N := 40) (FY.u1r (b := 96) (N := 40) (FY.u1r (b := 95) (N := 40) (FY.u1r (b := 94) (N := 40) (FY.rfl) (by decide) rfl (fun k hk => ?_)) (by decide) rfl (fun k hk => big _ _ k hk)) (by decide) rfl (fun k hk => big _ _ k hk)) (by decide) rfl (fun k hk => big _ _ k hk)) (by decide) rfl (fun k hk => big _ _ k hk)) (by decide) rfl (fun k hk => ?_)
    · split
      · exact big _ _ k hk
      · rfl
    · split
      · exact big _ _ k hk
      · rfl
end
