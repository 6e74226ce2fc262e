/-! hold, hour, day -/
section
variable {c q m n D H B l h : Nat} {X Y : Nat → Nat → Int32} {xa xl N : Nat → Nat}
theorem St.det (z : St c q m n D H B l h X Y) {j : Nat} (hj : j < q) (v : Int32) : St c q m n D H B l h (up2 X 12 j v) (up2 Y 80 j v) ∧ FX X (up2 X 12 j v) ∧ FY Y (up2 Y 80 j v) := by
  have h12 := z.hq.2.1
  have e80 := z.2.1.2.2.2.2.2.2.2.2.2.2.1
  exact ⟨⟨z.1, z.2.1.det (e80.up j v), z.2.2⟩, FX.rfl.u2 (by decide) _ _, FY.rfl.u2 (nwr (N := 12) (by decide) rfl (by omega)) _⟩
/-- one comes in -/
theorem St.comes (z : St c q m n D H B l h X Y) {j : Nat} (hj : j < q) {fee : Int32} (hf : 0 ≤ fee.toInt ∧ fee.toInt ≤ 99999) (hc1 : 1 ≤ c) (hc : c ≤ 600) : St c q m n D H B l h (enter X (nI j) (X 1 4) fee) (up2 (up2 (up2 (up2 (up2 Y 75 j fee) 72 j 1) 73 j (Y 66 0)) 74 j 0) 76 j 0) ∧ FX X (enter X (nI j) (X 1 4) fee) ∧ FY Y (up2 (up2 (up2 (up2 (up2 Y 75 j fee) 72 j 1) 73 j (Y 66 0)) 74 j 0) 76 j 0) := by
  have h12 := z.hq.2.1
  obtain ⟨-, -, -, hd1, -, hd2, -⟩ := z.hy
  have hDc := z.1.2.2.2.2.2.2.2.2.2.2.2.1
  obtain ⟨e70, e71, e72, e73, e74, e75, e76, e77, e78, e79, e80, e81, e82, e83, b3, b5, b7, b8, b13, b14, b15⟩ := z.2.1
  unfold enter
  rw [nI_clamp (by omega), hd1, hd2]
  have hne : ¬ nI D = -1 := by rw [← Int32.toInt_inj, nI_toInt (by omega), toI_m1]; omega
  refine ⟨⟨z.1, ⟨e70, e71, ?_, e73.up j (nI D), ?_, e75.up j fee, e76.up j 0, e77, e78, e79, e80, e81, e82, e83, b3, b5.up (by rw [nI_toInt (by omega)]; omega), b7.up (by omega), b8.up (by rw [toI_0]; omega), b13, b14, b15⟩, z.2.2⟩, (((FX.rfl.u2 (by decide) _ _).u2 (by decide) _ _).u2 (by decide) _ _).u2 (by decide) _ _, ((((FY.rfl.u2 (nwr (N := 12) (by decide) rfl (by omega)) _).u2 (nwr (N := 12) (by decide) rfl (by omega)) _).u2 (nwr (N := 12) (by decide) rfl (by omega)) _).u2 (nwr (N := 12) (by decide) rfl (by omega)) _).u2 (nwr (N := 12) (by decide) rfl (by omega)) _⟩
  · intro i hi
    show upr (Y 72) j 1 i = if upr (X 5) j (nI D) i = -1 then 0 else 1
    by_cases e : i = j
    · subst e; rw [upr_at, upr_at, if_neg hne]
    · rw [upr_ne e, upr_ne e]; exact e72 i hi
  · intro i hi
    show upr (Y 74) j 0 i = if upr (X 5) j (nI D) i = -1 then -1 else upr (X 6) j 0 i
    by_cases e : i = j
    · subst e; rw [upr_at, upr_at, upr_at, if_neg hne]
    · rw [upr_ne e, upr_ne e, upr_ne e]; exact e74 i hi
theorem pp_hold (z : St c q m n D H B l h X Y) (hA : AR n xa xl N X Y) (hB : XB n xa xl) (hc : c ≤ 512) (L L' : Nat → Nat → Int64) (a b : Int32) : Ok c n X Y (xHold X L xa xl n m q a b).2 (yHold Y L' n m q a b).2 (xHold X L xa xl n m q a b).1 (yHold Y L' n m q a b).1 := by
  unfold xHold yHold
  by_cases h1 : areTwo X a b = 0
  · rw [if_pos h1, if_pos ((z.two a b).mp h1)]; exact z.ok0 rfl
  · rw [if_neg h1, if_neg (fun y => h1 ((z.two a b).mpr y))]
    obtain ⟨i, j, hi, hj, hij, rfl, rfl⟩ := z.two_ex h1
    have h12 := z.hq.2.1
    have h40 := z.hq.2.2.2.1
    have hm := z.hq.2.2.1
    have eb := bit_eq (X 12 j) (k := i) (by omega)
    obtain ⟨e87, e88, e89, e90, e91, e92, e93, e94, -, -, -, -, -, -, -, b1, -⟩ := z.2.2.1
    have cb := cred_bit L hm h40 (fun d hd => ⟨(b1 d hd).2.2.1, by have := (b1 d hd).2.2.2.1; omega⟩) (nI j) (i := i) (by omega) m (Nat.le_refl _)
    have ow := owe_ex (Y := up2 Y 61 0 0) L' (nI j) (nI i) m 0 (by omega)
    have eo : (credOf_it X L (nI j) m &&& ((1 : Int32) <<< (nI i &&& 31))) = 0 ↔ owe_sr (up2 Y 61 0 0) L' (nI j) (nI i) m 0 = 0 := by
      rw [b_tst _ (by omega), ow]
      constructor
      · intro e; rintro ⟨d, g1, g2, g3, g4, g5⟩
        have g2 : d < m := by omega
        have := cb.mpr ⟨d, g2, by rw [← e94 d g2]; exact g3, by rw [← e87 d g2]; exact g4, by rw [← e88 d g2]; exact g5⟩
        rw [e] at this; cases this
      · intro e
        cases g : bt (credOf_it X L (nI j) m) i with
        | false => rfl
        | true =>
          obtain ⟨d, g2, g3, g4, g5⟩ := cb.mp g
          exact absurd ⟨d, by omega, by omega, by show Y 94 d = 0; rw [e94 d g2]; exact g3, by show Y 87 d = _; rw [e87 d g2]; exact g4, by show Y 88 d = _; rw [e88 d g2]; exact g5⟩ e
    rw [nI_clamp (by omega), z.2.1.2.2.2.2.2.2.2.2.2.2.1 j hj]
    unfold detains
    rw [nI_clamp (by omega)]
    by_cases h2 : (X 12 j &&& ((1 : Int32) <<< (nI i &&& 31))) = 0
    · rw [if_pos h2, if_pos rfl]
      by_cases h3 : owe_sr (up2 Y 61 0 0) L' (nI j) (nI i) m 0 = 0
      · rw [if_pos (eo.mpr h3), if_pos h3]; exact z.ok0 rfl
      · rw [if_neg (fun y => h3 (eo.mp y)), if_neg h3, if_neg (not_not_intro (eb.mp h2))]
        have et := z.tells hA hB L L' hj (k := 0) (by decide)
        rw [show (0 : Int32) = nI 0 from rfl] at *
        rw [← et]
        by_cases h4 : nowT X L xa xl n m (nI j) (nI 0) = nI 0
        · rw [if_neg (not_not_intro h4), if_neg (not_not_intro h4)]
          exact ⟨rfl, FX.rfl.u38 _, (FY.rfl.u2 n61 0).u121 _, q, m, D, H, B, l, h, (z.nx.c61 0 0).c38 _ |>.c121 _⟩
        · rw [if_pos h4, if_pos h4, z.held_at hj]
          by_cases h5 : Y 72 j = nI 0
          · rw [if_neg (not_not_intro h5), if_neg (not_not_intro h5)]
            have ee := z.tells hA hB L L' hj (k := 1) (by decide)
            rw [show (1 : Int32) = nI 1 from rfl]
            rw [← ee]
            have rg := z.tell_rg hA hB L (nI j) (k := 1) (by decide)
            obtain ⟨z1, x1, y1⟩ := ((((z.nx.c61 0 0).c38 (nowG (X 38) X L xa n m (nI j))).c38 (nowG (nowG (X 38) X L xa n m (nI j)) X L xa n m (nI j))).c121 (lookG (Y 121) Y L' (nI j) m) |>.c121 (lookG (lookG (Y 121) Y L' (nI j) m) Y L' (nI j) m)).comes hj (fee := nowT X L xa xl n m (nI j) (nI 1)) ⟨rg.1, rg.2.1⟩ (by omega) (by omega)
            obtain ⟨z2, x2, y2⟩ := z1.det hj (X 12 j ||| ((1 : Int32) <<< (nI i &&& 31)))
            exact ⟨rfl, ((FX.rfl.u38 _).u38 _).trans (x1.trans x2), (((FY.rfl.u2 n61 0).u121 _).u121 _).trans (y1.trans y2), q, m, D, H, B, l, h, z2⟩
          · rw [if_pos h5, if_pos h5]
            obtain ⟨z1, x1, y1⟩ := (((z.nx.c61 0 0).c38 (nowG (X 38) X L xa n m (nI j))).c121 (lookG (Y 121) Y L' (nI j) m)).det hj (X 12 j ||| ((1 : Int32) <<< (nI i &&& 31)))
            exact ⟨rfl, (FX.rfl.u38 _).trans x1, ((FY.rfl.u2 n61 0).u121 _).trans y1, q, m, D, H, B, l, h, z1⟩
    · rw [if_neg h2, if_neg one_nz]
      by_cases h3 : owe_sr (up2 Y 61 0 0) L' (nI j) (nI i) m 0 = 0
      · rw [if_pos h3]; exact z.ok0 rfl
      · rw [if_neg h3, if_pos (fun y => h2 (eb.mpr y))]; exact z.ok0 rfl
end
