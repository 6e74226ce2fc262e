/-! compose -/
theorem thou_toInt {x r : Int32} (hx : 0 ≤ x.toInt ∧ x.toInt ≤ 100000000) (hr : 0 ≤ r.toInt ∧ r.toInt ≤ 1000) (I : Nat → Nat → Int32) : (thouOf I x r).toInt = x.toInt * r.toInt / 1000 ∧ 0 ≤ x.toInt * r.toInt / 1000 ∧ x.toInt * r.toInt / 1000 ≤ x.toInt ∧ ((x.toInt64 * r.toInt64) / (1000 : Int64)).toInt = x.toInt * r.toInt / 1000 := by
  have h1 := mul_b hx.1 hx.2 hr.1 hr.2
  have e1 : (x.toInt64 * r.toInt64).toInt = x.toInt * r.toInt := by rw [mul_toInt64 (by rw [i64_of, i64_of]; omega) (by rw [i64_of, i64_of]; omega), i64_of, i64_of]
  have e2 : ((x.toInt64 * r.toInt64) / (1000 : Int64)).toInt = x.toInt * r.toInt / 1000 := by rw [div_toInt64 (by rw [e1]; exact h1.1) (by decide), e1]; rfl
  have h2 : x.toInt * r.toInt ≤ x.toInt * 1000 := Int.mul_le_mul_of_nonneg_left hr.2 hx.1
  have h3 : 0 ≤ x.toInt * r.toInt / 1000 ∧ x.toInt * r.toInt / 1000 ≤ x.toInt := by
    generalize x.toInt * r.toInt = w at h1 h2
    omega
  refine ⟨?_, h3.1, h3.2, e2⟩
  unfold thouOf
  rw [to32 (by rw [e2]; omega) (by rw [e2]; omega), e2]
theorem add_toInt64 {a b : Int64} (h1 : -9223372036854775808 ≤ a.toInt + b.toInt) (h2 : a.toInt + b.toInt < 9223372036854775808) : (a + b).toInt = a.toInt + b.toInt := by
  rw [Int64.toInt_add]; exact Int.bmod_eq_of_le (by omega) (by omega)
theorem lg_le (a b : Int64) : lg_cmp a b ≤ 0 ↔ a.toInt ≤ b.toInt := by
  rw [lg_cmp_le, Int64.le_iff_toInt_le]
section
variable {c q m n D H B l h : Nat} {X Y : Nat → Nat → Int32}
theorem St.dueB (z : St c q m n D H B l h X Y) (hc : c ≤ 512) {j : Nat} (hj : j < m) : 0 ≤ (due X (nI j) (X 1 4)).toInt ∧ (due X (nI j) (X 1 4)).toInt ≤ 200000 + 40000 * (c : Int) := by
  have hm := z.hq.2.2.1
  have h40 := z.hq.2.2.2.1
  obtain ⟨d1, d2, d3⟩ := z.dueZ hc hj
  obtain ⟨-, -, -, -, -, -, -, -, -, -, -, -, -, -, -, b1, b2, b3, b4, b5, b6, b7, b8, b9, b10, b11⟩ := z.2.2.1
  have c6 := b6 j hj
  have c7 := b7 j hj
  have c8 := b8 j hj
  by_cases e : X 24 j = 0
  · rw [d3 e]; omega
  · rw [due_at hm h40 hj, if_neg e, toI_0]; omega
/-- a DEBT ends, on both sides -/
theorem St.fin (z : St c q m n D H B l h X Y) (hc : c ≤ 600) {j : Nat} (hj : j < m) {v : Int32} (hv : 1 ≤ v.toInt ∧ v.toInt ≤ 3) : St c q m n D H B l h (up2 (up2 X 24 j v) 31 j (X 1 4)) (up2 (up2 Y 94 j v) 101 j (Y 66 0)) ∧ FX X (up2 (up2 X 24 j v) 31 j (X 1 4)) ∧ FY Y (up2 (up2 Y 94 j v) 101 j (Y 66 0)) := by
  have h40 := z.hq.2.2.2.1
  obtain ⟨-, -, -, hd1, -, hd2, -⟩ := z.hy
  have hDc := z.1.2.2.2.2.2.2.2.2.2.2.2.1
  obtain ⟨e87, e88, e89, e90, e91, e92, e93, e94, e95, e96, e97, e98, e99, e100, e101, b1, b2, b3, b4, b5, b6, b7, b8, b9, b10, b11⟩ := z.2.2.1
  rw [hd1, hd2]
  refine ⟨⟨z.1, z.2.1, ⟨e87, e88, e89, e90, e91, e92, e93, e94.up j v, e95, e96, e97, e98, e99, e100, e101.up j (nI D), b1, b2, b3, b4, b5.up ⟨by omega, by omega⟩, b6, b7, b8, b9, b10, ?_⟩, z.2.2.2⟩, (FX.rfl.u2 (by decide) _ _).u2 (by decide) _ _, (FY.rfl.u2 (nwr (N := 40) (by decide) rfl (by omega)) _).u2 (nwr (N := 40) (by decide) rfl (by omega)) _⟩
  intro i hi
  show (upr (X 24) j v i = 0 → upr (X 31) j (nI D) i = -1 ∧ 0 < (X 25 i).toInt + (X 26 i).toInt + (X 28 i).toInt) ∧ (upr (X 24) j v i ≠ 0 → 0 ≤ (upr (X 31) j (nI D) i).toInt)
  by_cases e : i = j
  · subst e
    rw [upr_at, upr_at]
    exact ⟨fun y => by rw [y, toI_0] at hv; omega, fun _ => by rw [nI_toInt (by omega)]; omega⟩
  · rw [upr_ne e, upr_ne e]; exact b11 i hi
/-- what is paid of one, of the first ones -/
def parZ (X : Nat → Nat → Int32) (P : Nat) (r : Int32) (j : Nat) : Int := if X 24 j = 0 ∧ X 17 j = nI P then (due X (nI j) (X 1 4)).toInt * r.toInt / 1000 else 0
def sumP (X : Nat → Nat → Int32) (P : Nat) (r : Int32) : Nat → Int
  | 0 => 0
  | k + 1 => sumP X P r k + parZ X P r k
theorem St.parB (z : St c q m n D H B l h X Y) (hc : c ≤ 512) {P : Nat} {r : Int32} (hr : 0 ≤ r.toInt ∧ r.toInt ≤ 1000) {j : Nat} (hj : j < m) : 0 ≤ parZ X P r j ∧ parZ X P r j ≤ 200000 + 40000 * (c : Int) := by
  have d := z.dueB hc hj
  have t := thou_toInt (x := due X (nI j) (X 1 4)) (r := r) ⟨d.1, by omega⟩ hr X
  unfold parZ
  split
  · omega
  · omega
theorem St.sumB (z : St c q m n D H B l h X Y) (hc : c ≤ 512) {P : Nat} {r : Int32} (hr : 0 ≤ r.toInt ∧ r.toInt ≤ 1000) : ∀ k, k ≤ m → 0 ≤ sumP X P r k ∧ sumP X P r k ≤ (k : Int) * 30000000 := by
  intro k
  induction k with
  | zero => intro _; exact ⟨Int.le_refl _, by show (0 : Int) ≤ _; omega⟩
  | succ k ih =>
    intro hk
    have := ih (by omega)
    have := z.parB (P := P) hc hr (j := k) (by omega)
    rw [sumP]; omega
theorem St.sumM (z : St c q m n D H B l h X Y) (hc : c ≤ 512) {P : Nat} {r : Int32} (hr : 0 ≤ r.toInt ∧ r.toInt ≤ 1000) : ∀ d k, k + d ≤ m → sumP X P r k ≤ sumP X P r (k + d) := by
  intro d
  induction d with
  | zero => intro k _; exact Int.le_refl _
  | succ d ih =>
    intro k hk
    have := ih k (by omega)
    have := z.parB (P := P) hc hr (j := k + d) (by omega)
    rw [show k + (d + 1) = (k + d) + 1 from rfl, sumP]; omega
theorem St.css (z : St c q m n D H B l h X Y) (hc : c ≤ 512) (L L' : Nat → Nat → Int64) {P : Nat} {r : Int32} (hr : 0 ≤ r.toInt ∧ r.toInt ≤ 1000) : ∀ k, k ≤ m → cs_it X L (nI P) r k = ys_it Y L' (nI P) r k ∧ (cs_it X L (nI P) r k).toInt = sumP X P r k := by
  have hm := z.hq.2.2.1
  have h40 := z.hq.2.2.2.1
  intro k
  induction k with
  | zero => intro _; exact ⟨rfl, rfl⟩
  | succ k ih =>
    intro hk
    obtain ⟨i1, i2⟩ := ih (by omega)
    have sb := z.sumB (P := P) hc hr k (by omega)
    have pb := z.parB (P := P) hc hr (j := k) (by omega)
    have d := z.dueB hc (j := k) (by omega)
    have t := thou_toInt (x := due X (nI k) (X 1 4)) (r := r) ⟨d.1, by omega⟩ hr X
    rw [show cs_it X L (nI P) r (k + 1) = cs_st X L (nI P) r k (cs_it X L (nI P) r k) from rfl, show ys_it Y L' (nI P) r (k + 1) = ys_st Y L' (nI P) r k (ys_it Y L' (nI P) r k) from rfl, ← i1]
    unfold cs_st ys_st
    rw [owes_at hm h40 (by omega), nI_clamp (by omega), z.2.2.1.1 k (by omega), ← z.dueE (show k < m by omega), sumP]
    unfold parZ at pb ⊢
    have e64 : (thouOf X (due X (nI k) (X 1 4)) r).toInt64 = ((due X (nI k) (X 1 4)).toInt64 * r.toInt64) / (1000 : Int64) := Int64.toInt_inj.mp (by rw [i64_of, t.1, t.2.2.2])
    by_cases a1 : X 17 k = nI P
    · rw [if_neg (not_not_intro a1)]
      by_cases a2 : X 24 k = 0
      · have pp : X 24 k = 0 ∧ X 17 k = nI P := ⟨a2, a1⟩
        rw [if_pos pp, if_neg one_nz, e64]
        rw [if_pos pp] at pb ⊢
        exact ⟨rfl, by rw [add_toInt64 (by rw [i2, t.2.2.2]; omega) (by rw [i2, t.2.2.2]; omega), i2, t.2.2.2]⟩
      · have np : ¬ (X 24 k = 0 ∧ X 17 k = nI P) := fun y => a2 y.1
        rw [if_neg np, if_pos rfl, if_neg np]
        have ed : due X (nI k) (X 1 4) = 0 := by rw [due_at hm h40 (by omega), if_neg a2]
        have e0 : ((due X (nI k) (X 1 4)).toInt64 * r.toInt64) / (1000 : Int64) = 0 := Int64.toInt_inj.mp (by rw [t.2.2.2, ed, toI_0, Int.zero_mul]; decide)
        rw [e0, Int64.add_zero]
        exact ⟨rfl, by rw [i2]; omega⟩
    · have np : ¬ (X 24 k = 0 ∧ X 17 k = nI P) := fun y => a1 y.2
      rw [if_neg np, if_pos rfl, if_neg np, if_pos a1, Int64.add_zero]
      exact ⟨rfl, by rw [i2]; omega⟩
/-- the loop that pays -/
theorem St.cmp (z : St c q m n D H B l h X Y) (hc : c ≤ 512) (L L' : Nat → Nat → Int64) {P : Nat} (hP : P < q) {r : Int32} (hr : 0 ≤ r.toInt ∧ r.toInt ≤ 1000) (hs : sumP X P r m ≤ (X 3 P).toInt) : ∀ k, k ≤ m → St c q m n D H B l h (up1 (up1 (up1 X 24 (cm_it X L (nI P) r k).1) 31 (cm_it X L (nI P) r k).2.1) 3 (cm_it X L (nI P) r k).2.2) (up1 (up1 (up1 Y 94 (yc_it Y L' (nI P) r k).1) 101 (yc_it Y L' (nI P) r k).2.1) 70 (yc_it Y L' (nI P) r k).2.2) ∧ (∀ j, k ≤ j → j < m → (cm_it X L (nI P) r k).1 j = X 24 j) ∧ ((cm_it X L (nI P) r k).2.2 P).toInt = (X 3 P).toInt - sumP X P r k ∧ FY Y (up1 (up1 (up1 Y 94 (yc_it Y L' (nI P) r k).1) 101 (yc_it Y L' (nI P) r k).2.1) 70 (yc_it Y L' (nI P) r k).2.2) := by
  have hm := z.hq.2.2.1
  have h40 := z.hq.2.2.2.1
  have h12 := z.hq.2.1
  intro k
  induction k with
  | zero =>
    intro _
    refine ⟨⟨z.1, z.2.1, z.2.2.1, z.2.2.2.1, z.2.2.2.2.1, z.2.2.2.2.2⟩, fun j _ _ => rfl, by show (X 3 P).toInt = _ - 0; omega, ?_⟩
    exact FY.u1r (b := 70) (N := 12) (FY.u1r (b := 101) (N := 40) (FY.u1r (b := 94) (N := 40) FY.rfl (by decide) rfl (fun _ _ => rfl)) (by decide) rfl (fun _ _ => rfl)) (by decide) rfl (fun _ _ => rfl)
  | succ k ih =>
    intro hk
    obtain ⟨zk, i1, i2, i3⟩ := ih (by omega)
    rw [show cm_it X L (nI P) r (k + 1) = cm_st X L (nI P) r k (cm_it X L (nI P) r k) from rfl, show yc_it Y L' (nI P) r (k + 1) = yc_st Y L' (nI P) r k (yc_it Y L' (nI P) r k) from rfl]
    generalize cm_it X L (nI P) r k = s at zk i1 i2
    generalize yc_it Y L' (nI P) r k = t at zk i3
    obtain ⟨s24, s31, s3⟩ := s
    obtain ⟨t94, t101, t70⟩ := t
    dsimp only at zk i1 i2 i3
    have ek := i1 k (Nat.le_refl _) (by omega)
    have e94 : t94 k = s24 k := zk.2.2.1.2.2.2.2.2.2.2.1 k (by omega)
    have e87 : Y 87 k = X 17 k := z.2.2.1.1 k (by omega)
    have e88 : Y 88 k = X 18 k := z.2.2.1.2.1 k (by omega)
    have edd : due (up1 X 24 s24) (nI k) (X 1 4) = due X (nI k) (X 1 4) := by
      rw [due_at (X := up1 X 24 s24) hm h40 (by omega), due_at hm h40 (by omega)]
      show (if s24 k = 0 then _ else _) = _
      rw [ek]; rfl
    have eyy : dueR (up1 Y 94 t94) (nI k) = due X (nI k) (X 1 4) := by
      rw [← edd]
      exact (zk.dueE (show k < m by omega)).symm
    have d := z.dueB hc (j := k) (by omega)
    have th := thou_toInt (x := due X (nI k) (X 1 4)) (r := r) ⟨d.1, by omega⟩ hr X
    by_cases C : X 24 k = 0 ∧ X 17 k = nI P
    · obtain ⟨f, t, hf, ht, hft, ef, et⟩ := z.ends (show k < m by omega)
      have efP : f = P := nI_inj (by omega) (by omega) (ef.symm.trans C.2)
      subst efP
      generalize hdd : due X (nI k) (X 1 4) = dd at edd eyy d th
      generalize ha : thouOf X dd r = a at th
      have ha' : ((dd.toInt64 * r.toInt64) / (1000 : Int64)).toInt32 = a := ha
      have hX : cm_st X L (nI f) r k (s24, s31, s3) = (upr s24 k (if ¬ a = dd then 2 else 1), upr s31 k (X 1 4), upr (upr s3 f (s3 f - a)) t (upr s3 f (s3 f - a) t + a)) := by
        unfold cm_st
        have eo : owes (up1 X 24 s24) (nI f) (nI k) = 1 := by rw [owes_at (X := up1 X 24 s24) hm h40 (by omega)]; exact if_pos ⟨ek.trans C.1, C.2⟩
        rw [if_neg (show ¬ owes (up1 X 24 s24) (nI f) (nI k) = 0 by rw [eo]; exact one_nz)]
        unfold comp1
        rw [nI_clamp (show k < 2 ^ 31 by omega), edd, ha, C.2, et, nI_clamp (show f < 2 ^ 31 by omega), nI_clamp (show t < 2 ^ 31 by omega)]
        rfl
      have hY : yc_st Y L' (nI f) r k (t94, t101, t70) = (upr t94 k (if ¬ a = dd then 2 else 1), upr t101 k (Y 66 0), upr (upr t70 f (t70 f - a)) t (upr t70 f (t70 f - a) t + a)) := by
        unfold yc_st
        rw [nI_clamp (show k < 2 ^ 31 by omega), if_neg (show ¬ ¬ t94 k = 0 from not_not_intro (e94.trans (ek.trans C.1))), if_neg (show ¬ ¬ Y 87 k = nI f from not_not_intro (e87.trans C.2)), eyy, ha', e88, et, nI_clamp (show f < 2 ^ 31 by omega), nI_clamp (show t < 2 ^ 31 by omega)]
        by_cases g : a = dd
        · rw [if_neg (not_not_intro g), if_neg (not_not_intro g)]; rfl
        · rw [if_pos g, if_pos g]; rfl
      rw [hX, hY]
      have hp : parZ X f r k = a.toInt := by unfold parZ; rw [if_pos C, hdd]; exact th.1.symm
      have hsm := z.sumM (P := f) hc hr (m - (k + 1)) (k + 1) (by omega)
      rw [show k + 1 + (m - (k + 1)) = m by omega, sumP, hp] at hsm
      obtain ⟨z1, x1, y1⟩ := zk.move (by omega) hf ht (a := a) (by rw [th.1]; exact th.2.1) (by show a.toInt ≤ (s3 f).toInt; rw [i2]; omega)
      obtain ⟨z2, x2, y2⟩ := z1.fin (by omega) (show k < m by omega) (v := if ¬ a = dd then 2 else 1) (by split <;> decide)
      unfold moveCoins at z2
      rw [nI_clamp (show f < 2 ^ 31 by omega), nI_clamp (show t < 2 ^ 31 by omega)] at z2
      refine ⟨⟨z2.1, z2.2.1, z2.2.2.1, z2.2.2.2.1, z2.2.2.2.2.1, z2.2.2.2.2.2⟩, fun j h1 h2 => ?_, ?_, ?_⟩
      · show upr s24 k _ j = _
        rw [upr_ne (by omega)]; exact i1 j (by omega) h2
      · show (upr (upr s3 f (s3 f - a)) t (upr s3 f (s3 f - a) t + a) f).toInt = _
        have hlt := Int32.toInt_lt (s3 f)
        have ha0 : 0 ≤ a.toInt := by rw [th.1]; exact th.2.1
        rw [upr_ne (fun y => hft y), upr_at, sumP, hp, sub_toInt (by rw [i2]; omega) (by omega), i2]; omega
      · exact FY.u1r (b := 70) (N := 12) (FY.u1r (b := 101) (N := 40) (FY.u1r (b := 94) (N := 40) FY.rfl (by decide) rfl (fun j hj => (upr_ne (by omega)).trans (i3.2 94 j (by decide) (by decide) hj))) (by decide) rfl (fun j hj => (upr_ne (by omega)).trans (i3.2 101 j (by decide) (by decide) hj))) (by decide) rfl (fun j hj => (upr_ne (by omega)).trans ((upr_ne (by omega)).trans (i3.2 70 j (by decide) (by decide) hj)))
    · have hX : cm_st X L (nI P) r k (s24, s31, s3) = (s24, s31, s3) := by
        unfold cm_st
        have eo : owes (up1 X 24 s24) (nI P) (nI k) = 0 := by rw [owes_at (X := up1 X 24 s24) hm h40 (by omega)]; exact if_neg (fun y => C ⟨ek.symm.trans y.1, y.2⟩)
        rw [if_pos eo]
      have hY : yc_st Y L' (nI P) r k (t94, t101, t70) = (t94, t101, t70) := by
        unfold yc_st
        rw [nI_clamp (show k < 2 ^ 31 by omega)]
        by_cases g1 : t94 k = 0
        · rw [if_neg (show ¬ ¬ t94 k = 0 from not_not_intro g1), if_pos (show ¬ Y 87 k = nI P from fun y => C ⟨ek.symm.trans (e94.symm.trans g1), e87.symm.trans y⟩)]
        · rw [if_pos (show ¬ t94 k = 0 from g1)]
      rw [hX, hY]
      refine ⟨zk, fun j h1 h2 => i1 j (by omega) h2, ?_, i3⟩
      rw [sumP, i2]
      unfold parZ
      rw [if_neg C]; omega
end
