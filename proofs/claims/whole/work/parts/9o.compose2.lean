/-! compose -/
section
variable {c q m n D H B l h : Nat} {X Y : Nat → Nat → Int32} {xa xl N : Nat → Nat}
theorem St.composed (z : St c q m n D H B l h X Y) (hc : c ≤ 512) (L L' : Nat → Nat → Int64) {P : Nat} (hP : P < q) {r : Int32} (hr : 0 ≤ r.toInt ∧ r.toInt ≤ 1000) : Ok c n X Y (cmpoF X L m q (nI P) r).2 (ycF Y L' m q (nI P) r).2 (cmpoF X L m q (nI P) r).1 (ycF Y L' m q (nI P) r).1 := by
  have h12 := z.hq.2.1
  obtain ⟨cs, cz⟩ := z.css (P := P) hc L L' hr m (Nat.le_refl _)
  unfold cmpoF ycF
  rw [← cs, nI_clamp (by omega), z.2.1.1 P hP]
  by_cases g : lg_cmp (cs_it X L (nI P) r m) (X 3 P).toInt64 ≤ 0
  · rw [if_pos g, if_pos g]
    rw [lg_le, cz, i64_of] at g
    obtain ⟨zm, -, -, fy⟩ := z.cmp hc L L' hP hr g m (Nat.le_refl _)
    obtain ⟨zd, xd, yd⟩ := zm.nx.drop L L'
    exact ⟨rfl, (((FX.rfl.u1 (by decide) _).u1 (by decide) _).u1 (by decide) _).trans xd, fy.trans yd, q, m, D, H, B, l, h, zd⟩
  · rw [if_neg g, if_neg g]
    exact ⟨rfl, FX.rfl, FY.rfl, q, m, D, H, B, l, h, z.nx⟩
theorem pp_compose (z : St c q m n D H B l h X Y) (hA : AR n xa xl N X Y) (hB : XB n xa xl) (hc : c ≤ 512) (L L' : Nat → Nat → Int64) (p r : Int32) : Ok c n X Y (xCompose X L xa xl n m q p r).2.1 (yCompose Y L' n m q p r).2 (xCompose X L xa xl n m q p r).1 (yCompose Y L' n m q p r).1 := by
  unfold xCompose yCompose
  by_cases h1 : hasP X p = 0
  · rw [if_pos h1, if_pos ((z.per p).mp h1)]; exact z.ok0 rfl
  · rw [if_neg h1, if_neg (fun y => h1 ((z.per p).mpr y))]
    by_cases h2 : outside X r 0 1000 = 0
    · rw [if_pos h2, if_neg (fun w => (inR_o Y X r 0 1000).mp w h2)]
      rw [out_iff, toI_0, toI_1000] at h2
      obtain ⟨P, hP, rfl⟩ := z.per_ex h1
      obtain ⟨z1, hV⟩ := (z.c61 0 0).called hA hB L L' hP
      have ev := z1.votedC L L' hP hV r
      have fb := bNow_f2 (up2 Y 61 0 0) L' n m q (nI P) r
      have fv := vt_fr (vCall X L xa xl n m (nI P)) (vsS (vCall X L xa xl n m (nI P)) L r (-1)) (vtk (vCall X L xa xl n m (nI P)) L r (-1) m)
      have zz := ((z1.cgX fv.2).cgY (fun a g1 g2 => fb.2 a (by omega)))
      have fX := (vCall_fr X L xa xl n m (nI P)).1.trans fv.1
      have fY := (FY.rfl.u2 n61 0).trans fb.1
      rw [ev]
      by_cases g : (bNow (up2 Y 61 0 0) L' n m q (nI P) r).1 = 0
      · rw [if_pos g, if_pos g]
        exact ⟨rfl, fX, fY, q, m, D, H, B, l, h, zz.nx⟩
      · rw [if_neg g, if_neg g]
        obtain ⟨o1, o2, o3, o4⟩ := zz.composed hc (vtL L (vtk (vCall X L xa xl n m (nI P)) L r (-1) m)) L' hP h2
        exact ⟨o1, fX.trans o2, fY.trans o3, o4⟩
    · rw [if_neg h2, if_pos ((inR_o Y X r 0 1000).mpr h2)]; exact z.ok0 rfl
end
