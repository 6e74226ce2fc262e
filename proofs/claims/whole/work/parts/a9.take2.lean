/-! net: what is taken off, within the bound of a call -/
section
variable {c q m n D H B l h : Nat} {X Y : Nat → Nat → Int32}
/-- what is taken off, on both sides, within the bound -/
theorem St.take2 (z : St c q m n D H B l h X Y) (hc : c ≤ 512) (L' : Nat → Nat → Int64) {j : Nat} (hj : j < m) (h0 : X 24 j = 0) {a : Int32} (ha0 : 0 ≤ a.toInt) (ha : a.toInt ≤ (due X (nI j) (X 1 4)).toInt) (h26 : (X 26 j).toInt + 28445 ≤ 28445 * (c : Int)) : St c q m n D H B l h (takeOff X (nI j) a (X 1 4)) (tkY Y L' (nI j) a) ∧ FX X (takeOff X (nI j) a (X 1 4)) ∧ FY Y (tkY Y L' (nI j) a) := by
  have hm := z.hq.2.2.1
  have h40 := z.hq.2.2.2.1
  have hDc := z.1.2.2.2.2.2.2.2.2.2.2.2.1
  obtain ⟨-, -, -, hd1, -, hd2, -⟩ := z.hy
  obtain ⟨d1, d2, d3⟩ := z.dueZ hc hj
  have d3 := d3 h0
  obtain ⟨e87, e88, e89, e90, e91, e92, e93, e94, e95, e96, e97, e98, e99, e100, e101, b1, b2, b3, b4, b5, b6, b7, b8, b9, b10, b11⟩ := z.2.2.1
  have c6 := b6 j hj
  have c7 := b7 j hj
  have c8 := b8 j hj
  have hin := z.intr hj
  generalize hI0 : intrOn X (nI j) (X 1 4) = I0 at d1 d2 d3 hin
  generalize hfc : (if X 28 j < a then X 28 j else a) = fc
  have zc : fc.toInt = (X 28 j).toInt ∧ (X 28 j).toInt ≤ a.toInt ∨ fc = a ∧ a.toInt ≤ (X 28 j).toInt := by
    rw [← hfc]
    by_cases e : X 28 j < a
    · rw [if_pos e]; rw [Int32.lt_iff_toInt_lt] at e; left; omega
    · rw [if_neg e]; rw [Int32.lt_iff_toInt_lt] at e; right; exact ⟨rfl, by omega⟩
  have zc2 : 0 ≤ fc.toInt ∧ fc.toInt ≤ a.toInt ∧ fc.toInt ≤ (X 28 j).toInt ∧ (fc.toInt < a.toInt → fc.toInt = (X 28 j).toInt) := by
    rcases zc with ⟨e1, e2⟩ | ⟨rfl, e2⟩
    · omega
    · omega
  have ea : (a - fc).toInt = a.toInt - fc.toInt := sub_toInt (by omega) (by omega)
  generalize hfi : (if I0 < a - fc then I0 else a - fc) = fi
  have zi : 0 ≤ fi.toInt ∧ fi.toInt ≤ a.toInt - fc.toInt ∧ fi.toInt ≤ I0.toInt ∧ (fi.toInt < a.toInt - fc.toInt → fi.toInt = I0.toInt) := by
    rw [← hfi]
    by_cases e : I0 < a - fc
    · rw [if_pos e]; rw [Int32.lt_iff_toInt_lt, ea] at e; omega
    · rw [if_neg e, ea]; rw [Int32.lt_iff_toInt_lt, ea] at e; omega
  have eC : (X 28 j - fc).toInt = (X 28 j).toInt - fc.toInt := sub_toInt (by omega) (by omega)
  have eI : (I0 - fi).toInt = I0.toInt - fi.toInt := sub_toInt (by omega) (by omega)
  have er : (a - fc - fi).toInt = a.toInt - fc.toInt - fi.toInt := by rw [sub_toInt (by omega) (by omega), ea]
  have eP : (X 25 j - (a - fc - fi)).toInt = (X 25 j).toInt - (a.toInt - fc.toInt - fi.toInt) := by rw [sub_toInt (by omega) (by omega), er]
  have hP0 : 0 ≤ (X 25 j).toInt - (a.toInt - fc.toInt - fi.toInt) := by omega
  have hT := tkR_eq Y L' (Y 94) (Y 95) (Y 96) (Y 97) (Y 98) (Y 101) (j := j) (by omega) a (X 28 j) I0 (X 25 j) fc fi (e98 j hj) (by show intrR Y (nI j) = I0; exact hin.symm) (e95 j hj) (by rw [min_eq2]; exact hfc) (by rw [min_eq2]; exact hfi)
  -- the class: rows
  have k26 : (up2 X 26 j I0) 26 j = I0 := up2_at
  have hk : tk4 X (nI j) a (X 1 4) = up2 (up2 (up2 (up2 (up2 X 26 j I0) 27 j (X 1 4)) 28 j (X 28 j - fc)) 26 j (I0 - fi)) 25 j (X 25 j - (a - fc - fi)) := by
    unfold tk4
    rw [nI_clamp (by omega), hI0, k26, hfc, hfi]
  have hdu : due (tk4 X (nI j) a (X 1 4)) (nI j) (X 1 4) = 0 ↔ (X 28 j - fc = 0 ∧ I0 - fi = 0 ∧ X 25 j - (a - fc - fi) = 0) := by
    have e24 : (tk4 X (nI j) a (X 1 4)) 24 j = 0 := by rw [hk]; exact h0
    rw [due_at (X := tk4 X (nI j) a (X 1 4)) (m := m) (by rw [hk]; exact hm) h40 hj, if_pos e24]
    have e1 : intrOn (tk4 X (nI j) a (X 1 4)) (nI j) (X 1 4) = I0 - fi := by
      unfold intrOn
      rw [nI_clamp (by omega), hk]
      show upr (upr (X 26) j I0) j (I0 - fi) j + ((((upr (X 25) j (X 25 j - (a - fc - fi)) j).toInt64 * (X 21 j).toInt64) * (X 1 4 - upr (X 27) j (X 1 4) j).toInt64) / (360000 : Int64)).toInt32 = _
      rw [upr_at, upr_at, upr_at, grow_0, Int32.add_zero]
    have e2 : (tk4 X (nI j) a (X 1 4)) 28 j = X 28 j - fc := by rw [hk]; show upr (X 28) j (X 28 j - fc) j = _; rw [upr_at]
    have e3 : (tk4 X (nI j) a (X 1 4)) 25 j = X 25 j - (a - fc - fi) := by rw [hk]; show upr (X 25) j (X 25 j - (a - fc - fi)) j = _; rw [upr_at]
    rw [e1, e2, e3]
    have s1 : (X 28 j - fc + (I0 - fi)).toInt = (X 28 j).toInt - fc.toInt + (I0.toInt - fi.toInt) := by rw [add_toInt (by omega) (by omega), eC, eI]
    have s2 : (X 28 j - fc + (I0 - fi) + (X 25 j - (a - fc - fi))).toInt = (X 28 j).toInt - fc.toInt + (I0.toInt - fi.toInt) + ((X 25 j).toInt - (a.toInt - fc.toInt - fi.toInt)) := by rw [add_toInt (by omega) (by omega), s1, eP]
    rw [← Int32.toInt_inj, ← Int32.toInt_inj, ← Int32.toInt_inj, ← Int32.toInt_inj, s2, eC, eI, eP, toI_0]
    omega
  have hX : takeOff X (nI j) a (X 1 4) = up2 (up2 (up2 (up2 (up2 (up2 (up2 X 26 j I0) 27 j (X 1 4)) 28 j (X 28 j - fc)) 26 j (I0 - fi)) 25 j (X 25 j - (a - fc - fi))) 24 j (if X 28 j - fc = 0 ∧ I0 - fi = 0 ∧ X 25 j - (a - fc - fi) = 0 then 1 else X 24 j)) 31 j (if X 28 j - fc = 0 ∧ I0 - fi = 0 ∧ X 25 j - (a - fc - fi) = 0 then X 1 4 else X 31 j) := by
    unfold takeOff
    rw [nI_clamp (by omega)]
    simp only [hdu]
    rw [hk]
    rfl
  have hY : tkY Y L' (nI j) a = up1 (up1 (up1 (up1 (up1 (up1 Y 94 (if X 28 j - fc = 0 ∧ I0 - fi = 0 ∧ X 25 j - (a - fc - fi) = 0 then upr (Y 94) j 1 else Y 94)) 95 (upr (Y 95) j (X 25 j - (a - fc - fi)))) 96 (upr (Y 96) j (I0 - fi))) 97 (upr (Y 97) j (Y 66 0))) 98 (upr (Y 98) j (X 28 j - fc))) 101 (if X 28 j - fc = 0 ∧ I0 - fi = 0 ∧ X 25 j - (a - fc - fi) = 0 then upr (Y 101) j (Y 66 0) else Y 101) := by
    unfold tkY
    rw [hT]
  rw [hX, hY]
  refine ⟨⟨z.1, z.2.1, ⟨e87, e88, e89, e90, e91, e92, e93, ?_, e95.up _ _, ?_, ?_, e98.up _ _, e99, e100, ?_, b1, b2, b3, ?_, ?_, ?_, ?_, ?_, b9, b10, ?_⟩, z.2.2.2⟩, ?_, ?_⟩
  · show Rw m (if X 28 j - fc = 0 ∧ I0 - fi = 0 ∧ X 25 j - (a - fc - fi) = 0 then upr (Y 94) j 1 else Y 94) (upr (X 24) j (if X 28 j - fc = 0 ∧ I0 - fi = 0 ∧ X 25 j - (a - fc - fi) = 0 then 1 else X 24 j))
    split
    · exact e94.up _ _
    · intro i hi
      by_cases e : i = j
      · subst e; rw [upr_at]; exact e94 i hi
      · rw [upr_ne e]; exact e94 i hi
  · show Rw m (upr (Y 96) j (I0 - fi)) (upr (upr (X 26) j I0) j (I0 - fi))
    intro i hi
    by_cases e : i = j
    · subst e; rw [upr_at, upr_at]
    · rw [upr_ne e, upr_ne e, upr_ne e]; exact e96 i hi
  · show Rw m (upr (Y 97) j (Y 66 0)) (upr (X 27) j (X 1 4))
    rw [hd1, hd2]; exact e97.up _ _
  · show Rw m (if X 28 j - fc = 0 ∧ I0 - fi = 0 ∧ X 25 j - (a - fc - fi) = 0 then upr (Y 101) j (Y 66 0) else Y 101) (upr (X 31) j (if X 28 j - fc = 0 ∧ I0 - fi = 0 ∧ X 25 j - (a - fc - fi) = 0 then X 1 4 else X 31 j))
    split
    · rw [hd1, hd2]; exact e101.up _ _
    · intro i hi
      by_cases e : i = j
      · subst e; rw [upr_at]; exact e101 i hi
      · rw [upr_ne e]; exact e101 i hi
  · show Bw m (upr (X 27) j (X 1 4)) 0 D
    exact b4.up (by rw [hd2, nI_toInt (by omega)]; omega)
  · show Bw m (upr (X 24) j (if X 28 j - fc = 0 ∧ I0 - fi = 0 ∧ X 25 j - (a - fc - fi) = 0 then 1 else X 24 j)) 0 3
    refine b5.up ?_
    split
    · rw [toI_1]; omega
    · exact b5 j hj
  · show Bw m (upr (X 25) j (X 25 j - (a - fc - fi))) 0 100000
    exact b6.up (by rw [eP]; omega)
  · show Bw m (upr (upr (X 26) j I0) j (I0 - fi)) 0 (28445 * (c : Int))
    refine Bw.up (Bw.up b7 ?_) ?_
    · omega
    · rw [eI]; omega
  · show Bw m (upr (X 28) j (X 28 j - fc)) 0 (10000 * (c : Int))
    exact b8.up (by rw [eC]; omega)
  · intro i hi
    show (upr (X 24) j (if X 28 j - fc = 0 ∧ I0 - fi = 0 ∧ X 25 j - (a - fc - fi) = 0 then 1 else X 24 j) i = 0 → upr (X 31) j (if X 28 j - fc = 0 ∧ I0 - fi = 0 ∧ X 25 j - (a - fc - fi) = 0 then X 1 4 else X 31 j) i = -1 ∧ 0 < (upr (X 25) j (X 25 j - (a - fc - fi)) i).toInt + (upr (upr (X 26) j I0) j (I0 - fi) i).toInt + (upr (X 28) j (X 28 j - fc) i).toInt) ∧ (upr (X 24) j (if X 28 j - fc = 0 ∧ I0 - fi = 0 ∧ X 25 j - (a - fc - fi) = 0 then 1 else X 24 j) i ≠ 0 → 0 ≤ (upr (X 31) j (if X 28 j - fc = 0 ∧ I0 - fi = 0 ∧ X 25 j - (a - fc - fi) = 0 then X 1 4 else X 31 j) i).toInt)
    by_cases e : i = j
    · subst e
      rw [upr_at, upr_at, upr_at, upr_at, upr_at]
      by_cases w : X 28 i - fc = 0 ∧ I0 - fi = 0 ∧ X 25 i - (a - fc - fi) = 0
      · rw [if_pos w, if_pos w]
        exact ⟨fun y => absurd y (by decide), fun _ => by rw [hd2, nI_toInt (by omega)]; omega⟩
      · rw [if_neg w, if_neg w]
        refine ⟨fun _ => ⟨((b11 i hi).1 h0).1, ?_⟩, fun y => absurd h0 y⟩
        rw [eC, eI, eP]
        have : ¬ ((X 28 i).toInt - fc.toInt = 0 ∧ I0.toInt - fi.toInt = 0 ∧ (X 25 i).toInt - (a.toInt - fc.toInt - fi.toInt) = 0) := fun y => w ⟨Int32.toInt_inj.mp (by rw [eC, y.1, toI_0]), Int32.toInt_inj.mp (by rw [eI, y.2.1, toI_0]), Int32.toInt_inj.mp (by rw [eP, y.2.2, toI_0])⟩
        omega
    · rw [upr_ne e, upr_ne e, upr_ne e, upr_ne e, upr_ne e, upr_ne e]; exact b11 i hi
  · exact ((((((FX.rfl.u2 (by decide) _ _).u2 (by decide) _ _).u2 (by decide) _ _).u2 (by decide) _ _).u2 (by decide) _ _).u2 (by decide) _ _).u2 (by decide) _ _
  · have big : ∀ (g : Nat → Int32) (v : Int32), ∀ k, 40 ≤ k → upr g j v k = g k := fun g v k hk => upr_ne (by omega)
    refine FY.u1r (b := 101) (N := 40) (FY.u1r (b := 98) (N := 40) (FY.u1r (b := 97) (N := 40) (FY.u1r (b := 96) (N := 40) (FY.u1r (b := 95) (N := 40) (FY.u1r (b := 94) (N := 40) (FY.rfl) (by decide) rfl (fun k hk => ?_)) (by decide) rfl (fun k hk => big _ _ k hk)) (by decide) rfl (fun k hk => big _ _ k hk)) (by decide) rfl (fun k hk => big _ _ k hk)) (by decide) rfl (fun k hk => big _ _ k hk)) (by decide) rfl (fun k hk => ?_)
    · split
      · exact big _ _ k hk
      · rfl
    · split
      · exact big _ _ k hk
      · rfl
end
