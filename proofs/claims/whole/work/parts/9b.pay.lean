/-! pay, buy -/
section
variable {c q m n D H B l h : Nat} {X Y : Nat → Nat → Int32}
/-- coins go from one to another, on both sides -/
theorem St.move (z : St c q m n D H B l h X Y) (hc : c ≤ 600) {f t : Nat} (hf : f < q) (ht : t < q) {a : Int32} (h0 : 0 ≤ a.toInt) (h1 : a.toInt ≤ (X 3 f).toInt) : St c q m n D H B l h (moveCoins X (nI f) (nI t) a) (up2 (up2 Y 70 f (Y 70 f - a)) 70 t ((up2 Y 70 f (Y 70 f - a)) 70 t + a)) ∧ FX X (moveCoins X (nI f) (nI t) a) ∧ FY Y (up2 (up2 Y 70 f (Y 70 f - a)) 70 t ((up2 Y 70 f (Y 70 f - a)) 70 t + a)) := by
  have h12 := z.hq.2.1
  have e70 := z.2.1.1
  have b3 := z.2.1.2.2.2.2.2.2.2.2.2.2.2.2.2.2.1
  unfold moveCoins
  rw [nI_clamp (by omega), nI_clamp (by omega)]
  refine ⟨⟨z.1, z.2.1.coin (Nat.le_refl c) ?_ (b3.mv hc hf ht h0 h1), z.2.2⟩, (FX.rfl.u2 (by decide) _ _).u2 (by decide) _ _, (FY.rfl.u2 (nwr (N := 12) (by decide) rfl (by omega)) _).u2 (nwr (N := 12) (by decide) rfl (by omega)) _⟩
  show Rw q (upr (upr (Y 70) f (Y 70 f - a)) t (upr (Y 70) f (Y 70 f - a) t + a)) (upr (upr (X 3) f (X 3 f - a)) t (upr (X 3) f (X 3 f - a) t + a))
  have e1 : Rw q (upr (Y 70) f (Y 70 f - a)) (upr (X 3) f (X 3 f - a)) := e70.up2 (by rw [e70 f hf])
  exact e1.up2 (by rw [e1 t ht])
theorem St.ends (z : St c q m n D H B l h X Y) {j : Nat} (hj : j < m) : ∃ f t, f < q ∧ t < q ∧ f ≠ t ∧ X 17 j = nI f ∧ X 18 j = nI t := by
  have w := z.2.2.1.2.2.2.2.2.2.2.2.2.2.2.2.2.2.2.1 j hj
  obtain ⟨f, hf, ef⟩ := rng_nI (x := X 17 j) (N := q) ⟨w.1, w.2.1⟩
  obtain ⟨t, ht, et⟩ := rng_nI (x := X 18 j) (N := q) ⟨w.2.2.1, w.2.2.2.1⟩
  exact ⟨f, t, hf, ht, fun e => w.2.2.2.2 (by rw [ef, et, e]), ef, et⟩
theorem pp_pay (z : St c q m n D H B l h X Y) (hc : c ≤ 512) (L L' : Nat → Nat → Int64) (xa xl : Nat → Nat) (d k : Int32) : Ok c n X Y (xPay X L xa xl n m q d k).2 (yPay Y L' n m q d k).2 (xPay X L xa xl n m q d k).1 (yPay Y L' n m q d k).1 := by
  unfold xPay yPay
  by_cases h1 : isLive X d = 0
  · rw [if_pos h1, if_pos ((z.live d).mp h1)]; exact z.ok0 rfl
  · rw [if_neg h1, if_neg (fun y => h1 ((z.live d).mpr y))]
    by_cases h2 : k < 1
    · rw [if_pos h2, if_pos h2]; exact z.ok0 rfl
    · rw [if_neg h2, if_neg h2]
      obtain ⟨j, hj, rfl, h24⟩ := z.live_ex h1
      have h40 := z.hq.2.2.2.1
      have h12 := z.hq.2.1
      obtain ⟨f, t, hf, ht, hft, ef, et⟩ := z.ends hj
      have e87 := z.2.2.1.1 j hj
      have e88 := z.2.2.1.2.1 j hj
      rw [nI_clamp (by omega), e87, e88, ef, et, nI_clamp (by omega), nI_clamp (by omega), z.2.1.1 f hf, ← z.dueE hj]
      by_cases h3 : k ≤ due X (nI j) (X 1 4)
      · rw [if_pos h3]
        by_cases h4 : k ≤ X 3 f
        · rw [if_pos h4, if_neg (show ¬ X 3 f < k by rw [Int32.lt_iff_toInt_lt]; rw [Int32.le_iff_toInt_le] at h4; omega), if_pos h3]
          rw [Int32.lt_iff_toInt_lt, toI_1] at h2
          rw [Int32.le_iff_toInt_le] at h3 h4
          obtain ⟨z1, x1, y1⟩ := (z.c61 0 0).move (by omega) hf ht (a := k) (by omega) h4
          obtain ⟨z2, x2, y2⟩ := z1.take hc L' hj h24 (a := k) (by omega) h3
          obtain ⟨z3, x3, y3⟩ := z2.drop L L'
          have e70 : (up2 Y 61 0 0) 70 f = X 3 f := z.2.1.1 f hf
          rw [e70] at z3 y1 y2 y3
          refine ⟨?_, x1.trans (x2.trans x3), (FY.rfl.u2 n61 0).trans (y1.trans (y2.trans y3)), q, m, D, H, B, l, h, z3⟩
          exact z3.dueE hj
        · rw [if_neg h4, if_pos (show X 3 f < k by rw [Int32.lt_iff_toInt_lt]; rw [Int32.le_iff_toInt_le] at h4; omega)]; exact z.ok0 rfl
      · rw [if_neg h3]
        by_cases h4 : X 3 f < k
        · rw [if_pos h4]; exact z.ok0 rfl
        · rw [if_neg h4, if_neg h3]; exact z.ok0 rfl
theorem St.bought (z : St c q m n D H B l h X Y) {j i : Nat} (hj : j < m) (hi : i < q) (h5 : ¬ X 17 j = nI i) : St (c + 1) q m n D H B l h (up2 (up2 X 18 j (nI i)) 29 j 1) (up2 (up2 Y 88 j (nI i)) 99 j 1) ∧ FX X (up2 (up2 X 18 j (nI i)) 29 j 1) ∧ FY Y (up2 (up2 Y 88 j (nI i)) 99 j 1) := by
  have h12 := z.hq.2.1
  have h40 := z.hq.2.2.2.1
  obtain ⟨e87, e88, e89, e90, e91, e92, e93, e94, e95, e96, e97, e98, e99, e100, e101, b1, b2, b3, b4, b5, b6, b7, b8, b9, b10⟩ := z.nx.2.2.1
  refine ⟨⟨z.nx.1, z.nx.2.1, ⟨e87, e88.up j (nI i), e89, e90, e91, e92, e93, e94, e95, e96, e97, e98, e99.up j 1, e100, e101, ?_, b2, b3, b4, b5, b6, b7, b8, b9.up (by rw [toI_1]; omega), b10⟩, z.2.2.2⟩, (FX.rfl.u2 (by decide) _ _).u2 (by decide) _ _, (FY.rfl.u2 (nwr (N := 40) (by decide) rfl (by omega)) _).u2 (nwr (N := 40) (by decide) rfl (by omega)) _⟩
  intro w hw
  have g := b1 w hw
  show 0 ≤ (X 17 w).toInt ∧ (X 17 w).toInt < q ∧ 0 ≤ (upr (X 18) j (nI i) w).toInt ∧ (upr (X 18) j (nI i) w).toInt < q ∧ X 17 w ≠ upr (X 18) j (nI i) w
  by_cases e : w = j
  · subst e; rw [upr_at, nI_toInt (by omega)]
    exact ⟨g.1, g.2.1, by omega, by omega, h5⟩
  · rw [upr_ne e]; exact g
theorem pp_buy (z : St c q m n D H B l h X Y) (hc : c ≤ 512) (L L' : Nat → Nat → Int64) (xa xl : Nat → Nat) (d b k : Int32) : Ok c n X Y (xBuy X L xa xl n m q d b k).2 (yBuy Y L' n m q d b k).2 (xBuy X L xa xl n m q d b k).1 (yBuy Y L' n m q d b k).1 := by
  unfold xBuy yBuy
  by_cases h1 : isLive X d = 0
  · rw [if_pos h1, if_pos ((z.live d).mp h1)]; exact z.ok0 rfl
  · rw [if_neg h1, if_neg (fun y => h1 ((z.live d).mpr y))]
    by_cases h2 : hasP X b = 0
    · rw [if_pos h2, if_pos ((z.per b).mp h2)]; exact z.ok0 rfl
    · rw [if_neg h2, if_neg (fun y => h2 ((z.per b).mpr y))]
      obtain ⟨j, hj, rfl, h24⟩ := z.live_ex h1
      obtain ⟨i, hi, rfl⟩ := z.per_ex h2
      have h40 := z.hq.2.2.2.1
      have h12 := z.hq.2.1
      obtain ⟨f, t, hf, ht, hft, ef, et⟩ := z.ends hj
      have e87 := z.2.2.1.1 j hj
      have e88 := z.2.2.1.2.1 j hj
      rw [nI_clamp (by omega), e87, e88, ef, et, nI_clamp (by omega), nI_clamp (by omega), z.2.1.1 i hi]
      by_cases h3 : outside X k 0 100000 = 0
      · rw [if_pos h3, if_neg (fun w => (inR_o Y X k 0 100000).mp w h3)]
        by_cases h4 : nI i = nI t
        · rw [if_pos h4, if_pos h4]
          by_cases h5 : nI i = nI f
          · rw [if_pos h5]; exact z.ok0 rfl
          · rw [if_neg h5]; exact z.ok0 rfl
        · rw [if_neg h4, if_neg h4]
          by_cases h5 : nI i = nI f
          · rw [if_pos h5, if_pos h5]; exact z.ok0 rfl
          · rw [if_neg h5, if_neg h5]
            by_cases h6 : k ≤ X 3 i
            · rw [if_pos h6, if_pos h6]
              rw [out_iff, toI_0, toI_100000] at h3
              rw [Int32.le_iff_toInt_le] at h6
              obtain ⟨z1, x1, y1⟩ := (z.c61 0 0).move (by omega) hi ht (a := k) (by omega) h6
              obtain ⟨z2, x2, y2⟩ := z1.bought hj hi (fun y => h5 (by rw [← ef]; exact y.symm))
              obtain ⟨z3, x3, y3⟩ := z2.drop L L'
              have e70 : (up2 Y 61 0 0) 70 i = X 3 i := z.2.1.1 i hi
              rw [e70] at z3 y1 y2 y3
              exact ⟨rfl, x1.trans (x2.trans x3), (FY.rfl.u2 n61 0).trans (y1.trans (y2.trans y3)), q, m, D, H, B, l, h, z3⟩
            · rw [if_neg h6, if_neg h6]; exact z.ok0 rfl
      · rw [if_neg h3]
        by_cases h5 : nI i = nI f
        · rw [if_pos h5]; exact z.ok0 rfl
        · rw [if_neg h5]
          by_cases h4 : nI i = nI t
          · rw [if_pos h4]; exact z.ok0 rfl
          · rw [if_neg h4, if_pos ((inR_o Y X k 0 100000).mpr h3)]; exact z.ok0 rfl
end
