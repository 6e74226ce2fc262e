/-! net -/
theorem rows6 {X T : Nat → Nat → Int32} (h : ∀ a, a ≠ 24 → a ≠ 25 → a ≠ 26 → a ≠ 27 → a ≠ 28 → a ≠ 31 → T a = X a) : up1 (up1 (up1 (up1 (up1 (up1 X 24 (T 24)) 25 (T 25)) 26 (T 26)) 27 (T 27)) 28 (T 28)) 31 (T 31) = T := by
  funext a
  by_cases e1 : a = 31
  · subst e1; rw [up1_at]
  rw [up1_ne e1]
  by_cases e2 : a = 28
  · subst e2; rw [up1_at]
  rw [up1_ne e2]
  by_cases e3 : a = 27
  · subst e3; rw [up1_at]
  rw [up1_ne e3]
  by_cases e4 : a = 26
  · subst e4; rw [up1_at]
  rw [up1_ne e4]
  by_cases e5 : a = 25
  · subst e5; rw [up1_at]
  rw [up1_ne e5]
  by_cases e6 : a = 24
  · subst e6; rw [up1_at]
  rw [up1_ne e6]
  exact (h a e6 e5 e4 e3 e2 e1).symm
theorem six_six (Y : Nat → Nat → Int32) (s1 s2 s3 s4 s5 s6 r1 r2 r3 r4 r5 r6 : Nat → Int32) : up1 (up1 (up1 (up1 (up1 (up1 (up1 (up1 (up1 (up1 (up1 (up1 Y 94 s1) 95 s2) 96 s3) 97 s4) 98 s5) 101 s6) 94 r1) 95 r2) 96 r3) 97 r4) 98 r5) 101 r6 = up1 (up1 (up1 (up1 (up1 (up1 Y 94 r1) 95 r2) 96 r3) 97 r4) 98 r5) 101 r6 := by
  funext a
  by_cases e1 : a = 101
  · subst e1; rw [up1_at, up1_at]
  rw [up1_ne e1, up1_ne e1]
  by_cases e2 : a = 98
  · subst e2; rw [up1_at, up1_at]
  rw [up1_ne e2, up1_ne e2]
  by_cases e3 : a = 97
  · subst e3; rw [up1_at, up1_at]
  rw [up1_ne e3, up1_ne e3]
  by_cases e4 : a = 96
  · subst e4; rw [up1_at, up1_at]
  rw [up1_ne e4, up1_ne e4]
  by_cases e5 : a = 95
  · subst e5; rw [up1_at, up1_at]
  rw [up1_ne e5, up1_ne e5]
  by_cases e6 : a = 94
  · subst e6; rw [up1_at, up1_at]
  rw [up1_ne e6, up1_ne e6, up1_ne e1, up1_ne e2, up1_ne e3, up1_ne e4, up1_ne e5, up1_ne e6]
theorem takeOff_ne {X : Nat → Nat → Int32} {d a t : Int32} : ∀ x, x ≠ 24 → x ≠ 25 → x ≠ 26 → x ≠ 27 → x ≠ 28 → x ≠ 31 → takeOff X d a t x = X x := by
  intro x e1 e2 e3 e4 e5 e6
  unfold takeOff
  rw [up2_ne e6, up2_ne e1]
  unfold tk4
  rw [up2_ne e2, up2_ne e3, up2_ne e5, up2_ne e4, up2_ne e3]
/-- other DEBTS stay as they are -/
theorem takeOff_at {X : Nat → Nat → Int32} {j i : Nat} {a t : Int32} (hj : j < 2 ^ 31) (hi : i ≠ j) : ∀ x, takeOff X (nI j) a t x i = X x i := by
  intro x
  have u : ∀ (Z : Nat → Nat → Int32) (b : Nat) (v : Int32), up2 Z b j v x i = Z x i := by
    intro Z b v
    by_cases e : x = b
    · subst e; rw [su2, upr_ne hi]
    · rw [up2_ne e]
  unfold takeOff
  rw [nI_clamp hj, u, u]
  unfold tk4
  rw [nI_clamp hj, u, u, u, u, u]
section
variable {c q m n D H B l h : Nat} {X Y : Nat → Nat → Int32}
/-- the least DUE of the row -/
theorem St.leastE (z : St c q m n D H B l h X Y) (L L' : Nat → Nat → Int64) {ln : Nat} (hl : ln ≤ 12) {tt : Nat → Nat} (ht : ∀ i, i < ln → X 35 i = nI (tt i) ∧ Y 103 i = nI (tt i) ∧ tt i < m) {l0 : Int32} : ∀ k, k + 1 ≤ ln → nl_it X L l0 k = rl_it Y L' l0 k := by
  intro k
  induction k with
  | zero => intro _; exact Eq.trans (b := l0) rfl rfl
  | succ k ih =>
    intro hk
    obtain ⟨t1, t2, t3⟩ := ht (k + 1) (by omega)
    rw [nl_it_s, rl_it_s, ← ih (by omega)]
    unfold nl_st rl_st
    rw [nI_clamp (by omega), t1, t2, z.dueE t3]
    generalize nl_it X L l0 k = s
    by_cases g : dueR Y (nI (tt (k + 1))) < s
    · rw [if_pos g, if_neg (show ¬ s ≤ dueR Y (nI (tt (k + 1))) by rw [Int32.le_iff_toInt_le]; rw [Int32.lt_iff_toInt_lt] at g; omega)]
    · rw [if_neg g, if_pos (show s ≤ dueR Y (nI (tt (k + 1))) by rw [Int32.le_iff_toInt_le]; rw [Int32.lt_iff_toInt_lt] at g; omega)]
theorem St.leastZ (z : St c q m n D H B l h X Y) (hc : c ≤ 512) (L : Nat → Nat → Int64) {ln : Nat} (hl : ln ≤ 12) {tt : Nat → Nat} (ht : ∀ i, i < ln → X 35 i = nI (tt i) ∧ tt i < m) {l0 : Int32} (h0 : 1 ≤ ln) (hl0 : l0 = due X (nI (tt 0)) (X 1 4)) : ∀ k, k + 1 ≤ ln → 0 ≤ (nl_it X L l0 k).toInt ∧ ∀ i, i ≤ k → (nl_it X L l0 k).toInt ≤ (due X (nI (tt i)) (X 1 4)).toInt := by
  intro k
  induction k with
  | zero =>
    intro _
    refine ⟨?_, fun i hi => ?_⟩
    · show 0 ≤ l0.toInt
      rw [hl0]; exact (z.dueB hc (ht 0 (by omega)).2).1
    · have : i = 0 := by omega
      subst this
      show l0.toInt ≤ _
      rw [hl0]; exact Int.le_refl _
  | succ k ih =>
    intro hk
    obtain ⟨i1, i2⟩ := ih (by omega)
    obtain ⟨t1, t3⟩ := ht (k + 1) (by omega)
    have db := z.dueB hc t3
    rw [nl_it_s]
    unfold nl_st
    rw [nI_clamp (by omega), t1]
    by_cases g : due X (nI (tt (k + 1))) (X 1 4) < nl_it X L l0 k
    · rw [if_pos g]
      rw [Int32.lt_iff_toInt_lt] at g
      refine ⟨db.1, fun i hi => ?_⟩
      by_cases e : i = k + 1
      · subst e; exact Int.le_refl _
      · have := i2 i (by omega); omega
    · rw [if_neg g]
      rw [Int32.lt_iff_toInt_lt] at g
      refine ⟨i1, fun i hi => ?_⟩
      by_cases e : i = k + 1
      · subst e; omega
      · exact i2 i (by omega)
set_option maxHeartbeats 1000000 in
theorem St.netL (z : St c q m n D H B l h X Y) (hc : c ≤ 512) (L L' : Nat → Nat → Int64) {ln : Nat} (hl : ln ≤ 12) {tt : Nat → Nat} (ht : ∀ i, i < ln → X 35 i = nI (tt i) ∧ Y 103 i = nI (tt i) ∧ tt i < m ∧ X 24 (tt i) = 0) (hd : ∀ i j, i < ln → j < ln → i ≠ j → tt i ≠ tt j) {a : Int32} (ha0 : 0 ≤ a.toInt) (ha : ∀ i, i < ln → a.toInt ≤ (due X (nI (tt i)) (X 1 4)).toInt) (h26 : ∀ j, j < m → (X 26 j).toInt + 28445 ≤ 28445 * (c : Int)) : ∀ k, k ≤ ln → St c q m n D H B l h (up1 (up1 (up1 (up1 (up1 (up1 X 24 (nt_it X L a k).1) 25 (nt_it X L a k).2.1) 26 (nt_it X L a k).2.2.1) 27 (nt_it X L a k).2.2.2.1) 28 (nt_it X L a k).2.2.2.2.1) 31 (nt_it X L a k).2.2.2.2.2) (up1 (up1 (up1 (up1 (up1 (up1 Y 94 (rt_it Y L' a k).1) 95 (rt_it Y L' a k).2.1) 96 (rt_it Y L' a k).2.2.1) 97 (rt_it Y L' a k).2.2.2.1) 98 (rt_it Y L' a k).2.2.2.2.1) 101 (rt_it Y L' a k).2.2.2.2.2) ∧ (∀ j, (∀ i, i < k → tt i ≠ j) → (nt_it X L a k).1 j = X 24 j ∧ (nt_it X L a k).2.1 j = X 25 j ∧ (nt_it X L a k).2.2.1 j = X 26 j ∧ (nt_it X L a k).2.2.2.1 j = X 27 j ∧ (nt_it X L a k).2.2.2.2.1 j = X 28 j) ∧ FY Y (up1 (up1 (up1 (up1 (up1 (up1 Y 94 (rt_it Y L' a k).1) 95 (rt_it Y L' a k).2.1) 96 (rt_it Y L' a k).2.2.1) 97 (rt_it Y L' a k).2.2.2.1) 98 (rt_it Y L' a k).2.2.2.2.1) 101 (rt_it Y L' a k).2.2.2.2.2) := by
  have hm := z.hq.2.2.1
  have h40 := z.hq.2.2.2.1
  intro k
  induction k with
  | zero =>
    intro _
    refine ⟨⟨z.1, z.2.1, z.2.2.1, z.2.2.2.1, z.2.2.2.2.1, z.2.2.2.2.2⟩, fun j _ => ⟨rfl, rfl, rfl, rfl, rfl⟩, ?_⟩
    exact FY.u1r (b := 101) (N := 40) (FY.u1r (b := 98) (N := 40) (FY.u1r (b := 97) (N := 40) (FY.u1r (b := 96) (N := 40) (FY.u1r (b := 95) (N := 40) (FY.u1r (b := 94) (N := 40) FY.rfl (by decide) rfl (fun _ _ => rfl)) (by decide) rfl (fun _ _ => rfl)) (by decide) rfl (fun _ _ => rfl)) (by decide) rfl (fun _ _ => rfl)) (by decide) rfl (fun _ _ => rfl)) (by decide) rfl (fun _ _ => rfl)
  | succ k ih =>
    intro hk
    obtain ⟨zk, i1, i2⟩ := ih (by omega)
    obtain ⟨t1, t2, t3, t4⟩ := ht k (by omega)
    rw [nt_it_s, rt_it_s]
    generalize nt_it X L a k = s at zk i1
    generalize rt_it Y L' a k = r at zk i2
    obtain ⟨s24, s25, s26, s27, s28, s31⟩ := s
    obtain ⟨r94, r95, r96, r97, r98, r101⟩ := r
    dsimp only at zk i1 i2
    unfold nt_st rt_st
    dsimp only
    rw [nI_clamp (by omega), t1, t2]
    obtain ⟨Xk, hXk⟩ : ∃ v, v = up1 (up1 (up1 (up1 (up1 (up1 X 24 s24) 25 s25) 26 s26) 27 s27) 28 s28) 31 s31 := ⟨_, rfl⟩
    obtain ⟨Yk, hYk⟩ : ∃ v, v = up1 (up1 (up1 (up1 (up1 (up1 Y 94 r94) 95 r95) 96 r96) 97 r97) 98 r98) 101 r101 := ⟨_, rfl⟩
    rw [← hXk, ← hYk] at zk
    rw [← hYk] at i2
    rw [← hXk]
    have keep := i1 (tt k) (fun i hi => hd i k (by omega) (by omega) (by omega))
    have ek4 : Xk 1 4 = X 1 4 := by rw [hXk]; rfl
    have e24 : Xk 24 (tt k) = 0 := by rw [hXk]; show s24 (tt k) = 0; rw [keep.1]; exact t4
    have e26 : Xk 26 (tt k) = X 26 (tt k) := by rw [hXk]; exact keep.2.2.1
    have edue : due Xk (nI (tt k)) (Xk 1 4) = due X (nI (tt k)) (X 1 4) := by
      rw [ek4, due_at (X := Xk) (by rw [hXk]; exact hm) h40 t3, due_at hm h40 t3, e24, t4]
      have e1 : Xk 28 (tt k) = X 28 (tt k) := by rw [hXk]; exact keep.2.2.2.2
      have e2 : Xk 25 (tt k) = X 25 (tt k) := by rw [hXk]; exact keep.2.1
      have e3 : Xk 27 (tt k) = X 27 (tt k) := by rw [hXk]; exact keep.2.2.2.1
      have e4 : Xk 21 = X 21 := by rw [hXk]; rfl
      have e5 : intrOn Xk (nI (tt k)) (X 1 4) = intrOn X (nI (tt k)) (X 1 4) := by
        unfold intrOn
        rw [nI_clamp (by omega), e26, e2, e3, e4]
      rw [e1, e2, e5]
    obtain ⟨z2, x2, y2⟩ := zk.take2 hc L' t3 e24 ha0 (by rw [edue]; exact ha k (by omega)) (by rw [e26]; exact h26 _ t3)
    have eT : up1 (up1 (up1 (up1 (up1 (up1 X 24 (takeOff Xk (nI (tt k)) a (X 1 4) 24)) 25 (takeOff Xk (nI (tt k)) a (X 1 4) 25)) 26 (takeOff Xk (nI (tt k)) a (X 1 4) 26)) 27 (takeOff Xk (nI (tt k)) a (X 1 4) 27)) 28 (takeOff Xk (nI (tt k)) a (X 1 4) 28)) 31 (takeOff Xk (nI (tt k)) a (X 1 4) 31) = takeOff Xk (nI (tt k)) a (Xk 1 4) := by
      rw [ek4]
      exact rows6 (fun x e1 e2 e3 e4 e5 e6 => by rw [takeOff_ne x e1 e2 e3 e4 e5 e6, hXk, up1_ne e6, up1_ne e5, up1_ne e4, up1_ne e3, up1_ne e2, up1_ne e1])
    have eY : up1 (up1 (up1 (up1 (up1 (up1 Y 94 (tkR Y L' r94 r95 r96 r97 r98 r101 (nI (tt k)) a).1) 95 (tkR Y L' r94 r95 r96 r97 r98 r101 (nI (tt k)) a).2.1) 96 (tkR Y L' r94 r95 r96 r97 r98 r101 (nI (tt k)) a).2.2.1) 97 (tkR Y L' r94 r95 r96 r97 r98 r101 (nI (tt k)) a).2.2.2.1) 98 (tkR Y L' r94 r95 r96 r97 r98 r101 (nI (tt k)) a).2.2.2.2.1) 101 (tkR Y L' r94 r95 r96 r97 r98 r101 (nI (tt k)) a).2.2.2.2.2 = tkY Yk L' (nI (tt k)) a := by
      have er : tkR Yk L' (Yk 94) (Yk 95) (Yk 96) (Yk 97) (Yk 98) (Yk 101) (nI (tt k)) a = tkR Y L' r94 r95 r96 r97 r98 r101 (nI (tt k)) a := by rw [hYk]; rfl
      unfold tkY
      rw [er]
      rw [hYk, six_six]
    refine ⟨?_, fun j hj => ?_, ?_⟩
    · rw [eT, eY]; exact z2
    · have nj : j ≠ tt k := fun e => hj k (by omega) e.symm
      have w := i1 j (fun i hi => hj i (by omega))
      have u := takeOff_at (X := Xk) (j := tt k) (i := j) (a := a) (t := X 1 4) (by omega) nj
      show takeOff Xk (nI (tt k)) a (X 1 4) 24 j = _ ∧ takeOff Xk (nI (tt k)) a (X 1 4) 25 j = _ ∧ takeOff Xk (nI (tt k)) a (X 1 4) 26 j = _ ∧ takeOff Xk (nI (tt k)) a (X 1 4) 27 j = _ ∧ takeOff Xk (nI (tt k)) a (X 1 4) 28 j = _
      rw [u, u, u, u, u, hXk]
      exact w
    · rw [eY]; exact i2.trans y2
theorem pp_net (z : St c q m n D H B l h X Y) (hc : c < 512) (L L' : Nat → Nat → Int64) (xa xl : Nat → Nat) : Ok c n X Y (xNet X L xa xl n m q).2 (yNet Y L' n m q).2 (xNet X L xa xl n m q).1 (yNet Y L' n m q).1 := by
  obtain ⟨fX, fY, hh⟩ := z.rung L L'
  unfold xNet yNet
  rcases hh with ⟨h1, h2, h3⟩ | ⟨ln, l2, l12, h1, g1, h2, h3, h4, ⟨tx, a1, a2⟩, ⟨ty, b1, b2⟩⟩
  · rw [h1, h2, if_pos (show (0 : Int32) ≤ 0 by decide), if_pos rfl]
    exact ⟨rfl, fX, fY, q, m, D, H, B, l, 0, h3.nx⟩
  · rw [h1, h2, g1, if_neg (show ¬ nI ln ≤ 0 by rw [le0_Z, nI_toInt (by omega)]; omega), if_neg one_nz, nI_clamp (by omega)]
    have h40 := z.hq.2.2.2.1
    have hHA := h4.2.2.2.2.2.2
    have b26 := z.2.2.1.2.2.2.2.2.2.2.2.2.2.2.2.2.2.2.2.2.2.2.2.2.1
    have e0 : (rgF X L m).2 0 = (rgI X L m) 35 0 := rfl
    have r26 : (rgI X L m) 26 = X 26 := rfl
    have r14 : X 1 4 = (rgI X L m) 1 4 := rfl
    have r24 : (rgI X L m) 24 = X 24 := rfl
    have txy : ∀ i, i < ln → tx i = ty i := fun i hi => nI_inj (by have := (a1 i hi).2.1; omega) (by have := (b1 i hi).2.1; omega) ((a1 i hi).1.symm.trans ((hHA i hi).symm.trans (b1 i hi).1))
    have eV : nlV X L m = nl_it (rgI X L m) L (due (rgI X L m) (nI (tx 0)) ((rgI X L m) 1 4)) (ln - 1) := by
      unfold nlV
      rw [h1, nI_clamp (by omega), e0, (a1 0 (by omega)).1, r14]
    have eW : rlV (ftI (up2 Y 61 0 0) L' m q) L' ln = rl_it (ftI (up2 Y 61 0 0) L' m q) L' (due (rgI X L m) (nI (tx 0)) ((rgI X L m) 1 4)) (ln - 1) := by
      unfold rlV
      rw [(b1 0 (by omega)).1, ← txy 0 (by omega), h4.dueE (a1 0 (by omega)).2.1]
    generalize rgI X L m = XR at *
    generalize ftI (up2 Y 61 0 0) L' m q = YR at *
    have hrow : ∀ i, i < ln → XR 35 i = nI (tx i) ∧ YR 103 i = nI (tx i) ∧ tx i < m := fun i hi => ⟨(a1 i hi).1, by rw [txy i hi]; exact (b1 i hi).1, (a1 i hi).2.1⟩
    have eq1 : nlV X L m = rlV YR L' ln := by rw [eV, eW]; exact h4.leastE L L' l12 hrow (ln - 1) (by omega)
    have lz := h4.leastZ (by omega) L l12 (fun i hi => ⟨(hrow i hi).1, (hrow i hi).2.2⟩) (by omega) rfl (ln - 1) (by omega)
    rw [← eV] at lz
    rw [← eq1]
    obtain ⟨z1, -, y1⟩ := h4.nx.netL (by omega) L L' l12 (tt := tx) (fun i hi => ⟨(hrow i hi).1, (hrow i hi).2.1, (hrow i hi).2.2, by rw [r24]; exact (a1 i hi).2.2⟩) (fun i j hi hj hij e => a2 i j hi hj hij (by rw [e])) lz.1 (fun i hi => lz.2 i (by omega)) (fun j hj => by have := b26 j hj; rw [r26]; omega) ln (Nat.le_refl _)
    obtain ⟨z2, x2, y2⟩ := z1.drop L L'
    refine ⟨rfl, fX.trans (FX.trans ?_ x2), fY.trans (y1.trans y2), q, m, D, H, B, l, ln, z2⟩
    exact (((((FX.rfl.u1 (by decide) _).u1 (by decide) _).u1 (by decide) _).u1 (by decide) _).u1 (by decide) _).u1 (by decide) _
end
