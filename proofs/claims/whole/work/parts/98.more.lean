/-! METHODS that add a row, or change one -/
theorem Rw.snoc {n : Nat} {f g : Nat → Int32} (h : Rw n f g) (v : Int32) : Rw (n + 1) (upr f n v) (upr g n v) := by
  intro j hj
  by_cases e : j = n
  · subst e; rw [upr_at, upr_at]
  · rw [upr_ne e, upr_ne e]; exact h j (by omega)
theorem Bw.snoc {n : Nat} {f : Nat → Int32} {lo hi : Int} (h : Bw n f lo hi) {v : Int32} (hv : lo ≤ v.toInt ∧ v.toInt ≤ hi) : Bw (n + 1) (upr f n v) lo hi := by
  intro j hj
  by_cases e : j = n
  · subst e; rw [upr_at]; exact hv
  · rw [upr_ne e]; exact h j (by omega)
theorem k12 (i j : Nat) : (nI i * 12) + nI j = nI (12 * i + j) := by rw [show nI i * 12 = nI (i * 12) from nI_mul i 12, nI_add, Nat.mul_comm]
theorem k12' (i j : Nat) : (12 * nI i) + nI j = nI (12 * i + j) := by rw [show (12 : Int32) * nI i = nI (12 * i) from nI_mul 12 i, nI_add]
section
variable {c q m n D H B l h : Nat} {X Y : Nat → Nat → Int32}
theorem pp_costs (z : St c q m n D H B l h X Y) (hc : c ≤ 600) (L L' : Nat → Nat → Int64) (xa xl : Nat → Nat) (d k : Int32) : Ok c n X Y (xCosts X L xa xl n m q d k).2 (yCosts Y L' n m q d k).2 (xCosts X L xa xl n m q d k).1 (yCosts Y L' n m q d k).1 := by
  unfold xCosts yCosts
  by_cases h1 : isLive X d = 0
  · rw [if_pos h1, if_pos ((z.live d).mp h1)]; exact z.ok0 rfl
  · rw [if_neg h1, if_neg (fun y => h1 ((z.live d).mpr y))]
    by_cases b : outside X k 1 10000 = 0
    · rw [if_pos b, if_pos (fun y => (inR_o Y X k 1 10000).mp y b)]
      rw [out_iff, toI_1, toI_10000] at b
      obtain ⟨j, hj, rfl, h24⟩ := z.live_ex h1
      have hm := z.hq.2.2.1
      have h40 := z.hq.2.2.2.1
      obtain ⟨-, -, -, hd1, -, hd2, -⟩ := z.hy
      obtain ⟨e87, e88, e89, e90, e91, e92, e93, e94, e95, e96, e97, e98, e99, e100, e101, b1, b2, b3, b4, b5, b6, b7, b8, b9, b10, b11⟩ := z.2.2.1
      rw [nI_clamp (by omega), e98 j hj]
      have g := b8 j hj
      have ek : (X 28 j + k).toInt = (X 28 j).toInt + k.toInt := add_toInt (by omega) (by omega)
      have e98' : Rw m (upr (Y 98) j (X 28 j + k)) (upr (X 28) j (X 28 j + k)) := e98.up _ _
      refine ⟨?_, FX.rfl.u2 (by decide) _ _, (FY.rfl.u2 n61 _).u2 (nwr (N := 40) (by decide) rfl (by omega)) _, q, m, D, H, B, l, h, z.1.nx, z.2.1.nx, ⟨e87, e88, e89, e90, e91, e92, e93, e94, e95, e96, e97, e98', e99, e100, e101, b1, b2, b3, b4, b5, b6, b7.le (by omega), ?_, b9, b10.le (by omega), ?_⟩, z.2.2.2⟩
      · exact due_eq (X := up2 X 28 j (X 28 j + k)) (Y := up2 Y 98 j (X 28 j + k)) hm h40 hj e91 e94 e95 e96 e97 e98' (by show Y 66 0 = X 1 4; rw [hd1, hd2])
      · exact (b8.le (by omega)).up (by rw [ek]; omega)
      · intro i hi
        refine ⟨fun e => ⟨((b11 i hi).1 e).1, ?_⟩, (b11 i hi).2⟩
        have g2 := ((b11 i hi).1 e).2
        show 0 < (X 25 i).toInt + (X 26 i).toInt + (upr (X 28) j (X 28 j + k) i).toInt
        by_cases e2 : i = j
        · subst e2; rw [upr_at, ek]; omega
        · rw [upr_ne e2]; exact g2
    · rw [if_neg b, if_neg (fun y => y ((inR_o Y X k 1 10000).mpr b))]; exact z.ok0 rfl
theorem pp_least (z : St c q m n D H B l h X Y) (L L' : Nat → Nat → Int64) (xa xl : Nat → Nat) (a b t : Int32) : Ok c n X Y (xLeast X L xa xl n m q a b t).2 (yLeast Y L' n m q a b t).2 (xLeast X L xa xl n m q a b t).1 (yLeast Y L' n m q a b t).1 := by
  unfold xLeast yLeast
  by_cases h1 : areTwo X a b = 0
  · rw [if_pos h1, if_pos ((z.two a b).mp h1)]; exact z.ok0 rfl
  · rw [if_neg h1, if_neg (fun y => h1 ((z.two a b).mpr y))]
    by_cases g : outside X t 0 1000 = 0
    · rw [if_pos g, if_pos (fun y => (inR_o Y X t 0 1000).mp y g)]
      rw [out_iff, toI_0, toI_1000] at g
      obtain ⟨i, j, hi, hj, hij, rfl, rfl⟩ := z.two_ex h1
      have h12 := z.hq.2.1
      have hL := z.2.2.2.1
      unfold setLeast
      rw [k12, k12', nI_clamp (by omega)]
      refine ⟨rfl, FX.rfl.u2 (by decide) _ _, (FY.rfl.u2 n61 _).u2 (nwr (N := 144) (by decide) rfl (by omega)) _, q, m, D, H, B, l, h, z.1.nx, z.2.1.nx, z.2.2.1.nx, ?_, z.2.2.2.2⟩
      intro p r hp hr
      show (p < q → r < q → upr (Y 85) (12 * i + j) t (12 * p + r) = 1000 - upr (X 33) (12 * i + j) (1000 - t) (12 * p + r)) ∧ (¬ (p < q ∧ r < q) → upr (X 33) (12 * i + j) (1000 - t) (12 * p + r) = 0) ∧ 0 ≤ (upr (X 33) (12 * i + j) (1000 - t) (12 * p + r)).toInt ∧ (upr (X 33) (12 * i + j) (1000 - t) (12 * p + r)).toInt ≤ 1000
      by_cases e : 12 * p + r = 12 * i + j
      · rw [e, upr_at, upr_at]
        have et : ((1000 : Int32) - t).toInt = 1000 - t.toInt := by rw [sub_toInt (by rw [toI_1000]; omega) (by rw [toI_1000]; omega), toI_1000]
        refine ⟨fun _ _ => ?_, fun y => absurd ⟨by omega, by omega⟩ y, by omega, by omega⟩
        apply Int32.toInt_inj.mp
        rw [sub_toInt (by rw [toI_1000]; omega) (by rw [toI_1000]; omega), toI_1000, et]; omega
      · rw [upr_ne e, upr_ne e]; exact hL p r hp hr
    · rw [if_neg g, if_neg (fun y => y ((inR_o Y X t 0 1000).mpr g))]; exact z.ok0 rfl
theorem pp_book (z : St c q m n D H B l h X Y) (L L' : Nat → Nat → Int64) (xa xl : Nat → Nat) (p k : Int32) : Ok c n X Y (xBook X L xa xl n m q p k).2 (yBook Y L' n m q p k).2 (xBook X L xa xl n m q p k).1 (yBook Y L' n m q p k).1 := by
  unfold xBook yBook
  obtain ⟨h1, h2, h3, h4, h5, h6, h7, h8, h9, h10, h11, h12, h13, h14, g1, g2, g3, g4, g5, g6, g7, g8, g9, g10, g11⟩ := z.1.nx
  by_cases a1 : hasP X p = 0
  · rw [if_pos a1, if_pos ((z.per p).mp a1)]; exact z.ok0 rfl
  · rw [if_neg a1, if_neg (fun y => a1 ((z.per p).mpr y)), h6, g6]
    by_cases a2 : (60 : Int32) ≤ nI B
    · have : B = 60 := by rw [Int32.le_iff_toInt_le, toI_60, nI_toInt (by omega)] at a2; omega
      subst this
      rw [if_pos a2, if_pos (show nI 60 = 60 from rfl)]; exact z.ok0 rfl
    · rw [if_neg a2, if_neg (show ¬ nI B = 60 from fun e => a2 (by rw [e, Int32.le_iff_toInt_le]; omega))]
      rw [Int32.le_iff_toInt_le, toI_60, nI_toInt (by omega)] at a2
      by_cases a3 : k = 0
      · rw [if_pos a3, if_pos a3]; exact z.ok0 rfl
      · rw [if_neg a3, if_neg a3]
        by_cases b : outside X k (-100000) 100000 = 0
        · rw [if_pos b, if_pos (fun y => (inR_o Y X k (-100000) 100000).mp y b)]
          rw [out_iff, toI_m100000, toI_100000] at b
          obtain ⟨j, hj, rfl⟩ := z.per_ex a1
          obtain ⟨e70, e71, e72, e73, e74, e75, e76, e77, e78, e79, e80, e81, e82, e83, b3, b5, b7, b8, b13, b14, b15⟩ := z.2.1.nx
          rw [nI_clamp (by omega), e82 j hj, e83 j hj]
          have c14 := b14 j hj
          have c15 := b15 j hj
          have es : (X 14 j + k).toInt = (X 14 j).toInt + k.toInt := add_toInt (by omega) (by omega)
          have en : (-(X 14 j + k)).toInt = -((X 14 j).toInt + k.toInt) := by rw [neg_toInt (by omega), es]
          have e15 : (-(X 15 j)).toInt = -(X 15 j).toInt := neg_toInt (by omega)
          have ex : (up2 (up2 X 1 7 (nI B + 1)) 14 j (X 14 j + k)) 14 j = X 14 j + k := up2_at
          have ey : (up2 (up2 (up2 Y 61 0 0) 84 0 (nI B + 1)) 82 j (X 14 j + k)) 82 j = X 14 j + k := up2_at
          rw [ex, ey]
          -- the least sum: its opposite
          have key : (if -(X 15 j) ≤ X 14 j + k then -(X 15 j) else X 14 j + k) = -(if X 15 j < -(X 14 j + k) then -(X 14 j + k) else X 15 j) := by
            by_cases e : X 15 j < -(X 14 j + k)
            · rw [if_pos e]
              rw [Int32.lt_iff_toInt_lt, en] at e
              rw [if_neg (show ¬ -(X 15 j) ≤ X 14 j + k by rw [Int32.le_iff_toInt_le, e15, es]; omega), Int32.neg_neg]
            · rw [if_neg e]
              rw [Int32.lt_iff_toInt_lt, en] at e
              rw [if_pos (show -(X 15 j) ≤ X 14 j + k by rw [Int32.le_iff_toInt_le, e15, es]; omega)]
          have hv : 0 ≤ (if X 15 j < -(X 14 j + k) then -(X 14 j + k) else X 15 j).toInt ∧ (if X 15 j < -(X 14 j + k) then -(X 14 j + k) else X 15 j).toInt ≤ 100000 * ((B + 1 : Nat) : Int) := by
            by_cases e : X 15 j < -(X 14 j + k)
            · rw [if_pos e]
              rw [Int32.lt_iff_toInt_lt, en] at e
              rw [en]; omega
            · rw [if_neg e]; omega
          rw [key]
          generalize (if X 15 j < -(X 14 j + k) then -(X 14 j + k) else X 15 j) = V at hv
          refine ⟨?_, ((FX.rfl.u2 (by decide) _ _).u2 (by decide) _ _).u2 (by decide) _ _, (((FY.rfl.u2 n61 _).u2 (nwr (N := 1) (by decide) rfl (by omega)) _).u2 (nwr (N := 12) (by decide) rfl (by omega)) _).u2 (nwr (N := 12) (by decide) rfl (by omega)) _, q, m, D, H, B + 1, l, h, ⟨h1, h2, h3, h4, h5, nI_1 B, h7, h8, h9, h10, h11, h12, h13, by omega, g1, g2, g3, g4, g5, nI_1 B, g7, g8, g9, g10, g11⟩, ⟨e70, e71, e72, e73, e74, e75, e76, e77, e78, e79, e80, e81, e82.up _ _, ?_, b3, b5, b7, b8, b13, ?_, ?_⟩, z.2.2.1.nx, z.2.2.2⟩
          · show up2 (up2 (up2 X 1 7 (nI B + 1)) 14 j (X 14 j + k)) 15 j V 15 j = -(up2 (up2 (up2 (up2 Y 61 0 0) 84 0 (nI B + 1)) 82 j (X 14 j + k)) 83 j (-V) 83 j)
            rw [up2_at, up2_at, Int32.neg_neg]
          · intro i hi
            show upr (Y 83) j (-V) i = -(upr (X 15) j V i)
            by_cases e : i = j
            · subst e; rw [upr_at, upr_at]
            · rw [upr_ne e, upr_ne e]; exact e83 i hi
          · exact (b14.le2 (by omega) (by omega)).up (by rw [es]; omega)
          · exact (b15.le (by omega)).up hv
        · rw [if_neg b, if_neg (fun y => y ((inR_o Y X k (-100000) 100000).mpr b))]; exact z.ok0 rfl
theorem pp_debt (z : St c q m n D H B l h X Y) (L L' : Nat → Nat → Int64) (xa xl : Nat → Nat) (x y s k a t : Int32) : Ok c n X Y (xDebt X L xa xl n m q x y s k a t).2 (yDebt Y L' n m q x y s k a t).2 (xDebt X L xa xl n m q x y s k a t).1 (yDebt Y L' n m q x y s k a t).1 := by
  unfold xDebt yDebt
  obtain ⟨h1, h2, h3, h4, h5, h6, h7, h8, h9, h10, h11, h12, h13, h14, g1, g2, g3, g4, g5, g6, g7, g8, g9, g10, g11⟩ := z.1.nx
  rw [h2, g2]
  by_cases a1 : (40 : Int32) ≤ nI m
  · have : m = 40 := by rw [Int32.le_iff_toInt_le, toI_40, nI_toInt (by omega)] at a1; omega
    subst this
    rw [if_pos a1, if_pos (show nI 40 = 40 from rfl)]; exact z.ok0 rfl
  · rw [if_neg a1, if_neg (show ¬ nI m = 40 from fun e => a1 (by rw [e, Int32.le_iff_toInt_le]; omega))]
    rw [Int32.le_iff_toInt_le, toI_40, nI_toInt (by omega)] at a1
    by_cases a2 : areTwo X x y = 0
    · rw [if_neg (not_not_intro a2), if_pos ((z.two x y).mp a2)]; exact z.ok0 rfl
    · rw [if_pos a2, if_neg (fun w => a2 ((z.two x y).mpr w))]
      by_cases a3 : outside X s 1 100000 = 0
      · rw [if_neg (not_not_intro a3), if_neg (fun w => (inR_o Y X s 1 100000).mp w a3)]
        by_cases a4 : outside X k 0 3 = 0
        · rw [if_neg (not_not_intro a4), if_neg (fun w => (inR_o Y X k 0 3).mp w a4)]
          by_cases a5 : outside X a 0 200 = 0
          · rw [if_neg (not_not_intro a5), if_neg (fun w => (inR_o Y X a 0 200).mp w a5), h4, g4]
            by_cases a6 : outside X t 0 (nI D) = 0
            · rw [if_pos a6, if_pos (fun w => (inR_o Y X t 0 (nI D)).mp w a6)]
              rw [out_iff, toI_1, toI_100000] at a3
              rw [out_iff, toI_0, toI_3] at a4
              rw [out_iff, toI_0, toI_200] at a5
              rw [out_iff, toI_0] at a6
              have hDn : (nI D).toInt ≤ (D : Int) := by
                rcases Nat.lt_or_ge D (2 ^ 31) with w | w
                · rw [nI_toInt w]; exact Int.le_refl _
                · have := Int32.toInt_lt (nI D); omega
              obtain ⟨i, j, hi, hj, hij, rfl, rfl⟩ := z.two_ex a2
              obtain ⟨e87, e88, e89, e90, e91, e92, e93, e94, e95, e96, e97, e98, e99, e100, e101, b1, b2, b3, b4, b5, b6, b7, b8, b9, b10, b11⟩ := z.2.2.1.nx
              unfold setTerms dAdd
              rw [h2, nI_clamp (by omega)]
              refine ⟨rfl, (((((((((((((((FX.rfl.u2 (by decide) _ _).u2 (by decide) _ _).u2 (by decide) _ _).u2 (by decide) _ _).u2 (by decide) _ _).u2 (by decide) _ _).u2 (by decide) _ _).u2 (by decide) _ _).u2 (by decide) _ _).u2 (by decide) _ _).u2 (by decide) _ _).u2 (by decide) _ _).u2 (by decide) _ _).u2 (by decide) _ _).u2 (by decide) _ _).u2 (by decide) _ _, ?_, q, m + 1, D, H, B, l, h, ⟨h1, nI_1 m, h3, h4, h5, h6, h7, h8, h9, by omega, h11, h12, h13, h14, g1, nI_1 m, g3, g4, g5, g6, g7, g8, g9, g10, g11⟩, z.2.1.nx, ⟨e87.snoc _, e88.snoc _, e89.snoc _, e90.snoc _, e91.snoc _, e92.snoc _, e93.snoc _, e94.snoc _, e95.snoc _, e96.snoc _, e97.snoc _, e98.snoc _, e99.snoc _, e100.snoc _, e101.snoc _, ?_, b2.snoc (by omega), b3.snoc (by omega), b4.snoc (by omega), b5.snoc (by rw [toI_0]; omega), b6.snoc (by omega), b7.snoc (by rw [toI_0]; omega), b8.snoc (by rw [toI_0]; omega), b9.snoc (by rw [toI_0]; omega), b10.snoc (by rw [toI_0]; omega), ?_⟩, z.2.2.2⟩
              · exact ((((((((((((((((FY.rfl.u2 n61 _).u2 (nwr (N := 1) (by decide) rfl (by omega)) _).u2 (nwr (N := 40) (by decide) rfl (by omega)) _).u2 (nwr (N := 40) (by decide) rfl (by omega)) _).u2 (nwr (N := 40) (by decide) rfl (by omega)) _).u2 (nwr (N := 40) (by decide) rfl (by omega)) _).u2 (nwr (N := 40) (by decide) rfl (by omega)) _).u2 (nwr (N := 40) (by decide) rfl (by omega)) _).u2 (nwr (N := 40) (by decide) rfl (by omega)) _).u2 (nwr (N := 40) (by decide) rfl (by omega)) _).u2 (nwr (N := 40) (by decide) rfl (by omega)) _).u2 (nwr (N := 40) (by decide) rfl (by omega)) _).u2 (nwr (N := 40) (by decide) rfl (by omega)) _).u2 (nwr (N := 40) (by decide) rfl (by omega)) _).u2 (nwr (N := 40) (by decide) rfl (by omega)) _).u2 (nwr (N := 40) (by decide) rfl (by omega)) _).u2 (nwr (N := 40) (by decide) rfl (by omega)) _
              · intro d hd
                show 0 ≤ (upr (X 17) m (nI i) d).toInt ∧ (upr (X 17) m (nI i) d).toInt < q ∧ 0 ≤ (upr (X 18) m (nI j) d).toInt ∧ (upr (X 18) m (nI j) d).toInt < q ∧ upr (X 17) m (nI i) d ≠ upr (X 18) m (nI j) d
                by_cases e : d = m
                · subst e
                  rw [upr_at, upr_at, nI_toInt (by omega), nI_toInt (by omega)]
                  exact ⟨by omega, by omega, by omega, by omega, fun w => hij (nI_inj (by omega) (by omega) w)⟩
                · rw [upr_ne e, upr_ne e]; exact b1 d (by omega)
              · intro d hd
                show (upr (X 24) m 0 d = 0 → upr (X 31) m (-1) d = -1 ∧ 0 < (upr (X 25) m s d).toInt + (upr (X 26) m 0 d).toInt + (upr (X 28) m 0 d).toInt) ∧ (upr (X 24) m 0 d ≠ 0 → 0 ≤ (upr (X 31) m (-1) d).toInt)
                by_cases e : d = m
                · subst e
                  rw [upr_at, upr_at, upr_at, upr_at, upr_at]
                  exact ⟨fun _ => ⟨rfl, by rw [toI_0]; omega⟩, fun w => absurd rfl w⟩
                · rw [upr_ne e, upr_ne e, upr_ne e, upr_ne e, upr_ne e]; exact b11 d (by omega)
            · rw [if_neg a6, if_neg (fun w => w ((inR_o Y X t 0 (nI D)).mpr a6))]; exact z.ok0 rfl
          · rw [if_pos a5, if_pos ((inR_o Y X a 0 200).mpr a5)]; exact z.ok0 rfl
        · rw [if_pos a4, if_pos ((inR_o Y X k 0 3).mpr a4)]; exact z.ok0 rfl
      · rw [if_pos a3, if_pos ((inR_o Y X s 1 100000).mpr a3)]; exact z.ok0 rfl
end
