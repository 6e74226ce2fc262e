/-! compose -/
theorem thou_toInt {x r : Int32} (hx : 0 ≤ x.toInt ∧ x.toInt ≤ 100000000) (hr : 0 ≤ r.toInt ∧ r.toInt ≤ 1000) (I : Nat → Nat → Int32) : (thouOf I x r).toInt = x.toInt * r.toInt / 1000 ∧ 0 ≤ x.toInt * r.toInt / 1000 ∧ x.toInt * r.toInt / 1000 ≤ x.toInt ∧ ((x.toInt64 * r.toInt64) / (1000 : Int64)).toInt = x.toInt * r.toInt / 1000 := by
  have h1 := mul_b hx.1 hx.2 hr.1 hr.2
  have e1 : (x.toInt64 * r.toInt64).toInt = x.toInt * r.toInt := by rw [mul_toInt64 (by rw [i64_of, i64_of]; omega) (by rw [i64_of, i64_of]; omega), i64_of, i64_of]
  have e2 : ((x.toInt64 * r.toInt64) / (1000 : Int64)).toInt = x.toInt * r.toInt / 1000 := by rw [div_toInt64 (by rw [e1]; exact h1.1) (by decide), e1]; rfl
  have h2 : x.toInt * r.toInt ≤ x.toInt * 1000 := Int.mul_le_mul_of_nonneg_left hr.2 hx.1
  have h3 : 0 ≤ x.toInt * r.toInt / 1000 ∧ x.toInt * r.toInt / 1000 ≤ x.toInt := by
    generalize x.toInt * r.toInt = w at h1 h2
    omega
  refine ⟨?_, h3.1, h3.2, e2⟩
  unfold thouOf
  rw [to32 (by rw [e2]; omega) (by rw [e2]; omega), e2]
theorem add_toInt64 {a b : Int64} (h1 : -9223372036854775808 ≤ a.toInt + b.toInt) (h2 : a.toInt + b.toInt < 9223372036854775808) : (a + b).toInt = a.toInt + b.toInt := by
  rw [Int64.toInt_add]; exact Int.bmod_eq_of_le (by omega) (by omega)
theorem lg_le (a b : Int64) : lg_cmp a b ≤ 0 ↔ a.toInt ≤ b.toInt := by
  unfold lg_cmp
  sorry
section
variable {c q m n D H B l h : Nat} {X Y : Nat → Nat → Int32}
theorem St.dueB (z : St c q m n D H B l h X Y) (hc : c ≤ 512) {j : Nat} (hj : j < m) : 0 ≤ (due X (nI j) (X 1 4)).toInt ∧ (due X (nI j) (X 1 4)).toInt ≤ 200000 + 40000 * (c : Int) := by
  have hm := z.hq.2.2.1
  have h40 := z.hq.2.2.2.1
  obtain ⟨d1, d2, d3⟩ := z.dueZ hc hj
  obtain ⟨-, -, -, -, -, -, -, -, -, -, -, -, -, -, -, b1, b2, b3, b4, b5, b6, b7, b8, b9, b10, b11⟩ := z.2.2.1
  have c6 := b6 j hj
  have c7 := b7 j hj
  have c8 := b8 j hj
  by_cases e : X 24 j = 0
  · rw [d3 e]; omega
  · rw [due_at hm h40 hj, if_neg e, toI_0]; omega
/-- a DEBT ends, on both sides -/
theorem St.fin (z : St c q m n D H B l h X Y) (hc : c ≤ 600) {j : Nat} (hj : j < m) {v : Int32} (hv : 1 ≤ v.toInt ∧ v.toInt ≤ 3) : St c q m n D H B l h (up2 (up2 X 24 j v) 31 j (X 1 4)) (up2 (up2 Y 94 j v) 101 j (Y 66 0)) ∧ FX X (up2 (up2 X 24 j v) 31 j (X 1 4)) ∧ FY Y (up2 (up2 Y 94 j v) 101 j (Y 66 0)) := by
  have h40 := z.hq.2.2.2.1
  obtain ⟨-, -, -, hd1, -, hd2, -⟩ := z.hy
  have hDc := z.1.2.2.2.2.2.2.2.2.2.2.2.1
  obtain ⟨e87, e88, e89, e90, e91, e92, e93, e94, e95, e96, e97, e98, e99, e100, e101, b1, b2, b3, b4, b5, b6, b7, b8, b9, b10, b11⟩ := z.2.2.1
  rw [hd1, hd2]
  refine ⟨⟨z.1, z.2.1, ⟨e87, e88, e89, e90, e91, e92, e93, e94.up j v, e95, e96, e97, e98, e99, e100, e101.up j (nI D), b1, b2, b3, b4, b5.up ⟨by omega, by omega⟩, b6, b7, b8, b9, b10, ?_⟩, z.2.2.2⟩, (FX.rfl.u2 (by decide) _ _).u2 (by decide) _ _, (FY.rfl.u2 (nwr (N := 40) (by decide) rfl (by omega)) _).u2 (nwr (N := 40) (by decide) rfl (by omega)) _⟩
  intro i hi
  show (upr (X 24) j v i = 0 → upr (X 31) j (nI D) i = -1 ∧ 0 < (X 25 i).toInt + (X 26 i).toInt + (X 28 i).toInt) ∧ (upr (X 24) j v i ≠ 0 → 0 ≤ (upr (X 31) j (nI D) i).toInt)
  by_cases e : i = j
  · subst e
    rw [upr_at, upr_at]
    exact ⟨fun y => by rw [y, toI_0] at hv; omega, fun _ => by rw [nI_toInt (by omega)]; omega⟩
  · rw [upr_ne e, upr_ne e]; exact b11 i hi
end
