/-! surrender -/
theorem keep_Z {x k : Int32} (hx : 0 ≤ x.toInt ∧ x.toInt ≤ 1000000000) (hk : 0 ≤ k.toInt ∧ k.toInt ≤ 100) : 0 ≤ (((x.toInt64 * k.toInt64) / (100 : Int64)).toInt32).toInt ∧ (((x.toInt64 * k.toInt64) / (100 : Int64)).toInt32).toInt ≤ x.toInt := by
  have h1 := mul_b hx.1 hx.2 hk.1 hk.2
  have e1 : (x.toInt64 * k.toInt64).toInt = x.toInt * k.toInt := by rw [mul_toInt64 (by rw [i64_of, i64_of]; omega) (by rw [i64_of, i64_of]; omega), i64_of, i64_of]
  have e2 : ((x.toInt64 * k.toInt64) / (100 : Int64)).toInt = x.toInt * k.toInt / 100 := by rw [div_toInt64 (by rw [e1]; exact h1.1) (by decide), e1]; rfl
  have h2 : x.toInt * k.toInt ≤ x.toInt * 100 := Int.mul_le_mul_of_nonneg_left hk.2 hx.1
  have h3 : 0 ≤ x.toInt * k.toInt / 100 ∧ x.toInt * k.toInt / 100 ≤ x.toInt := by
    generalize x.toInt * k.toInt = w at h1 h2
    omega
  rw [to32 (by rw [e2]; omega) (by rw [e2]; omega), e2]
  exact h3
theorem i6432 (x : Int32) : x.toInt64.toInt32 = x := by
  have h1 := Int32.toInt_lt x
  have h2 := Int32.le_toInt x
  exact Int32.toInt_inj.mp (by rw [to32 (by rw [i64_of]; omega) (by rw [i64_of]; omega), i64_of])
theorem PE.surd {c q : Nat} {D B : Int} {x3 x4 x5 x6 x7 x8 x9 x10 x11 x12 x13 x14 x15 y70 y71 y72 y73 y74 y75 y76 y77 y78 y79 y80 y81 y82 y83 : Nat → Int32} (h : PE c q D B x3 x4 x5 x6 x7 x8 x9 x10 x11 x12 x13 x14 x15 y70 y71 y72 y73 y74 y75 y76 y77 y78 y79 y80 y81 y82 y83) (P : Nat) : PE c q D B x3 x4 x5 x6 x7 x8 x9 x10 x11 x12 (upr x13 P 1) x14 x15 y70 y71 y72 y73 y74 y75 y76 y77 y78 y79 y80 (upr y81 P 1) y82 y83 := by
  obtain ⟨e70, e71, e72, e73, e74, e75, e76, e77, e78, e79, e80, e81, e82, e83, b3, b5, b7, b8, b13, b14, b15⟩ := h
  exact ⟨e70, e71, e72, e73, e74, e75, e76, e77, e78, e79, e80, e81.up P 1, e82, e83, b3, b5, b7, b8, b13.up (by rw [toI_1]; omega), b14, b15⟩
theorem cred_z {X : Nat → Nat → Int32} {m : Nat} (L : Nat → Nat → Int64) (hm : X 16 0 = nI m) (hb : m ≤ 40) (hcr : ∀ d, d < m → 0 ≤ (X 18 d).toInt ∧ (X 18 d).toInt < 12) (p : Int32) : ∀ k, k ≤ m → (credOf_it X L p k = 0 ↔ ∀ j, j < k → ¬ (X 24 j = 0 ∧ X 17 j = p)) := by
  intro k
  induction k with
  | zero => intro _; exact ⟨fun _ j hj => by omega, fun _ => rfl⟩
  | succ k ih =>
    intro hk
    have h := ih (by omega)
    rw [credOf_it_s]
    unfold credOf_st
    rw [owes_at hm hb (by omega), nI_clamp (by omega)]
    obtain ⟨t, ht, et⟩ := rng_nI (x := X 18 k) (N := 12) (hcr k (by omega))
    by_cases C : X 24 k = 0 ∧ X 17 k = p
    · rw [if_pos C, if_neg one_nz]
      constructor
      · intro y
        have g := (or_z y).2
        rw [et] at g
        have g2 := b_bit (k := t) (by omega) (i := t) (by omega)
        rw [g, b_0, decide_eq_true rfl] at g2
        cases g2
      · intro y; exact absurd C (y k (by omega))
    · rw [if_neg C, if_pos rfl, Int32.or_zero, h]
      constructor
      · intro y j hj
        by_cases e : j = k
        · subst e; exact C
        · exact y j (by omega)
      · intro y j hj; exact y j (by omega)
section
variable {c q m n D H B l h : Nat} {X Y : Nat → Nat → Int32} {xa xl N : Nat → Nat}
set_option maxHeartbeats 2000000 in
theorem St.surrC (z : St c q m n D H B l h X Y) (hA : AR n xa xl N X Y) (hB : XB n xa xl) (hc : c ≤ 512) (L L' : Nat → Nat → Int64) {P : Nat} (hP : P < q) : ptSafe (ySK Y L' n m q (nI P)) L' m (ySN Y L' n m q (nI P)) ∧ Ok c n X Y (soI (suI X L xa xl n m q (nI P)) (suL X L xa xl n m q (nI P)) m q (nI P)) (s2I (ySI Y L' n m q (nI P)) (ySL Y L' n m q (nI P)) m q) (suV X L xa xl n m q (nI P)) (ySV Y L' n m q (nI P)) := by
  have hm := z.hq.2.2.1
  have h40 := z.hq.2.2.2.1
  have h12 := z.hq.2.1
  have rg := z.tell_rg hA hB L (nI P) (k := 7) (by decide)
  have tl : nowT X L xa xl n m (nI P) 7 = tlNow Y L' n m (nI P) 7 := z.tells hA hB L L' hP (k := 7) (by decide)
  have e3P := z.2.1.1 P hP
  have co := z.2.1.2.2.2.2.2.2.2.2.2.2.2.2.2.2.1
  have nP : (nI P).toNatClampNeg = P := nI_clamp (by omega)
  obtain ⟨G, hG⟩ : ∃ v, v = nowG (X 38) X L xa n m (nI P) := ⟨_, rfl⟩
  obtain ⟨GY, hGY⟩ : ∃ v, v = lookG (Y 121) Y L' (nI P) m := ⟨_, rfl⟩
  obtain ⟨CL, hCL⟩ : ∃ v, v = clr_it (up1 X 38 G) L 40 := ⟨_, rfl⟩
  obtain ⟨C53, hC53⟩ : ∃ v, v = sc_it (up1 (up1 X 38 G) 54 CL.1) (up1 L 55 CL.2.2) CL.2.1 (nI P) m := ⟨_, rfl⟩
  obtain ⟨x0, hx0⟩ : ∃ v, v = ((((X 3 P).toInt64).toInt32) - (((((X 3 P).toInt64) * ((nowT X L xa xl n m (nI P) (7 : Int32)).toInt64)) / (100 : Int64)).toInt32)) := ⟨_, rfl⟩
  obtain ⟨s, hs⟩ : ∃ v, v = dv_it (up1 (up1 X 38 G) 53 C53) L m CL.1 CL.2.2 x0 4 := ⟨_, rfl⟩
  have a1 : suI X L xa xl n m q (nI P) = up1 (up1 (up1 X 38 G) 53 C53) 54 s.2.1 := by
    unfold suI
    rw [nP, ← hG, ← hCL, ← hC53, ← hx0, ← hs]
  have a2 : suL X L xa xl n m q (nI P) = up1 L 55 s.2.2 := by
    unfold suL
    rw [nP, ← hG, ← hCL, ← hC53, ← hx0, ← hs]
  have a3 : suV X L xa xl n m q (nI P) = x0 - s.1 := by
    unfold suV
    rw [nP, ← hG, ← hCL, ← hC53, ← hx0, ← hs]
  obtain ⟨W, hW⟩ : ∃ v, v = (s1_it (up2 Y 61 0 0) L' (nI P) m).2 := ⟨_, rfl⟩
  obtain ⟨K, hK⟩ : ∃ v, v = up1 (up1 (up2 Y 61 0 0) 125 W) 121 GY := ⟨_, rfl⟩
  obtain ⟨t, ht⟩ : ∃ v, v = ptS K L' m x0 := ⟨_, rfl⟩
  obtain ⟨p3, hp3⟩ : ∃ v, v = p3_it (up1 K 126 t.2.1) (up1 L' 127 t.2.2) m := ⟨_, rfl⟩
  have f1 : ySK Y L' n m q (nI P) = K := by rw [hK, hW, hGY]; rfl
  have f2 : ySN Y L' n m q (nI P) = x0 := by
    unfold ySN
    rw [nP, e3P, ← tl, hx0, i6432]
  have f3 : ySI Y L' n m q (nI P) = up2 (up2 (up1 (up1 K 126 t.2.1) 70 p3) 70 P (p3 P - (x0 - t.1))) 81 P 1 := by
    show up2 (up2 (ptI (ySK Y L' n m q (nI P)) L' m (ySN Y L' n m q (nI P))) 70 (nI P).toNatClampNeg ((ptI (ySK Y L' n m q (nI P)) L' m (ySN Y L' n m q (nI P))) 70 (nI P).toNatClampNeg - (ySN Y L' n m q (nI P) - (ptS (ySK Y L' n m q (nI P)) L' m (ySN Y L' n m q (nI P))).1))) 81 (nI P).toNatClampNeg 1 = _
    rw [f1, f2, nP]
    unfold ptI
    rw [← ht, ← hp3, up1_at]
  have f4 : ySL Y L' n m q (nI P) = up1 L' 127 t.2.2 := by
    show up1 L' 127 (ptS (ySK Y L' n m q (nI P)) L' m (ySN Y L' n m q (nI P))).2.2 = _
    rw [f1, f2, ← ht]
  have f5 : ySV Y L' n m q (nI P) = x0 - t.1 := by
    show ySN Y L' n m q (nI P) - (ptS (ySK Y L' n m q (nI P)) L' m (ySN Y L' n m q (nI P))).1 = _
    rw [f1, f2, ← ht]
  have hxb : ∀ a, a ≤ 35 → (up1 (up1 X 38 G) 54 CL.1) a = X a := fun a ha => by rw [up1_ne (by omega), up1_ne (by omega)]
  have cl53 : ∀ j, j < m → C53 j = if X 24 j = 0 ∧ X 17 j = nI P then due X (nI j) (X 1 4) else 0 := fun j hj => by rw [hC53]; exact sc_at hxb hm h40 _ _ (nI P) m (Nat.le_refl _) j hj
  have clW : ∀ j, j < m → W j = C53 j := by
    intro j hj
    rw [hW, (s1_at L' (nI P) m h40).1 j hj, cl53 j hj]
    show (if Y 87 j = nI P then dueR Y (nI j) else 0) = _
    rw [z.2.2.1.1 j hj, ← z.dueE hj]
    by_cases e1 : X 17 j = nI P
    · by_cases e2 : X 24 j = 0
      · rw [if_pos e1, if_pos ⟨e2, e1⟩]
      · rw [if_pos e1, if_neg (fun y => e2 y.1), due_at hm h40 hj, if_neg e2]
    · rw [if_neg e1, if_neg (fun y => e1 y.2)]
  have hb : Bw m C53 0 50000000 := by
    intro j hj
    rw [cl53 j hj]
    have := z.dueB hc hj
    split
    · omega
    · rw [toI_0]; omega
  have c3 := co.1 P hP
  have c4 := co.lt hP
  have kz := keep_Z (x := X 3 P) (k := nowT X L xa xl n m (nI P) 7) ⟨c3, by omega⟩ ⟨rg.1, rg.2.2 rfl⟩
  have x0Z : x0.toInt = (X 3 P).toInt - (((X 3 P).toInt64 * (nowT X L xa xl n m (nI P) 7).toInt64) / (100 : Int64)).toInt32.toInt := by rw [hx0, i6432, sub_toInt (by omega) (by omega)]
  have ca := clr_at (up1 X 38 G) L 40 (Nat.le_refl _)
  rw [← hCL] at ca
  obtain ⟨⟨p1, p2, p3', p4, p5, -, -, p8⟩, safe⟩ := parted_eq (up1 (up1 X 38 G) 53 C53) K L L' h40 (by rw [hK]; exact z.2.2.1.2.2.2.1) (fun j hj => by rw [hK]; exact clW j hj) hb x0 (by omega) (g := CL.1) (g' := p0_it K L' m) (w := CL.2.2) (L' 127) (fun j hj => (ca j (by omega)).1) (fun j hj => p0_at K L' m h40 j hj) (fun j _ h2 => (ca j h2).2.2) 4 (Nat.le_refl _)
  rw [← hs] at p1 p2 p3' p4 p5 p8
  have ht' : p2_it K L' m (p0_it K L' m) (L' 127) x0 4 = t := ht.symm
  rw [ht'] at p1 p4
  rw [f1, f2]
  refine ⟨safe, ?_⟩
  rw [a1, a2, a3, f3, f4, f5]
  have hpos : ∀ j, j < m → 0 ≤ (s.2.1 j).toInt := fun j hj => (p5 j hj).1
  have hsn := sumZ_nn hpos
  obtain ⟨w, -, v2, v3, v4, v5, v6⟩ := z.surrL hc (up1 L 55 s.2.2) (up1 L' 127 t.2.2) (up1 L' 127 t.2.2) hP (X1 := up1 (up1 (up1 X 38 G) 53 C53) 54 s.2.1) (Y1 := up2 (up2 (up1 (up1 K 126 t.2.1) 70 p3) 70 P (p3 P - (x0 - t.1))) 81 P 1) (J := up1 K 126 t.2.1) (fun a ha => by rw [up1_ne (by omega), up1_ne (by omega), up1_ne (by omega)]) (fun a g1 g2 g3 g4 => by rw [up2_ne g4, up2_ne g3, up1_ne g3, up1_ne (by omega), hK, up1_ne (by omega), up1_ne (by omega), up2_ne (by omega)]) (fun a g1 g2 => by rw [up1_ne (by omega), hK, up1_ne (by omega), up1_ne (by omega), up2_ne (by omega)]) (fun j hj => by
      show K 125 j = C53 j
      rw [hK]; exact clW j hj) (fun j hj => p4 j hj) (fun j hj => p4 j hj) cl53 p5 (by show sumZ s.2.1 m ≤ _; omega) m (Nat.le_refl _)
  rw [← hp3] at v3 v4 v6
  unfold soI s2I
  rw [nP]
  generalize so_it (up1 (up1 (up1 X 38 G) 53 C53) 54 s.2.1) (up1 L 55 s.2.2) (nI P) m = so at w v2 v3
  generalize s2_it (up2 (up2 (up1 (up1 K 126 t.2.1) 70 p3) 70 P (p3 P - (x0 - t.1))) 81 P 1) (up1 L' 127 t.2.2) m = sr at w v5
  obtain ⟨s24, s31, s3, s30⟩ := so
  obtain ⟨t94, t101, t100⟩ := sr
  dsimp only at w v2 v3 v5 ⊢
  have vz : (x0 - t.1).toInt = sumZ s.2.1 m := by rw [← p1, sub_toInt (by omega) (by omega)]; omega
  have hR : Rw q (upr p3 P (p3 P - (x0 - t.1))) s3 := by
    intro j hj
    by_cases e : j = P
    · subst e
      rw [upr_at]
      refine Int32.toInt_inj.mp ?_
      have v2' : (s3 j).toInt = (X 3 j).toInt - sumZ s.2.1 m := v2
      rw [sub_toInt (by rw [v4, vz]; omega) (by rw [v4, vz]; omega), v4, vz, v2']
    · rw [upr_ne e]; exact (v3 j hj e).symm
  have w2 : St c q m n D H B l h (up2 (up1 (up1 (up1 (up1 (up1 (up1 (up1 X 38 G) 53 C53) 54 s.2.1) 24 s24) 31 s31) 3 s3) 30 s30) 13 P 1) (up1 (up1 (up1 (up2 (up2 (up1 (up1 K 126 t.2.1) 70 p3) 70 P (p3 P - (x0 - t.1))) 81 P 1) 94 t94) 101 t101) 100 t100) := by
    have co2 := w.2.1.2.2.2.2.2.2.2.2.2.2.2.2.2.2.1
    have w1 := (w.2.1.coin (Nat.le_refl c) hR co2).surd P
    rw [hK]
    exact ⟨w.1, w1, w.2.2.1, w.2.2.2.1, w.2.2.2.2.1, w.2.2.2.2.2⟩
  obtain ⟨w3, x3, y3⟩ := w2.nx.drop (up1 L 55 s.2.2) (up1 L' 127 t.2.2)
  refine ⟨by rw [p1], FX.trans ?_ x3, FY.trans ?_ y3, q, m, D, H, B, l, h, w3⟩
  · exact (((((((FX.rfl.u1 (by decide) _).u1 (by decide) _).u1 (by decide) _).u1 (by decide) _).u1 (by decide) _).u1 (by decide) _).u1 (by decide) _).u2 (by decide) _ _
  · have fK : FY Y K := by rw [hK]; exact ((FY.rfl.u2 n61 0).u1 (Or.inl (by decide))).u1 (Or.inl (by decide))
    have f70 : FY Y (up1 (up1 K 126 t.2.1) 70 p3) := FY.u1r (b := 70) (N := 12) (fK.u1 (Or.inl (by decide))) (by decide) rfl (fun k hk => by rw [v6 k hk, up1_ne (by decide), hK]; rfl)
    have f81 := (f70.u2 (nwr (b := 70) (k := P) (N := 12) (by decide) rfl (by omega)) (p3 P - (x0 - t.1))).u2 (nwr (b := 81) (k := P) (N := 12) (by decide) rfl (by omega)) 1
    exact FY.u1r (b := 100) (N := 40) (FY.u1r (b := 101) (N := 40) (FY.u1r (b := 94) (N := 40) f81 (by decide) rfl (fun k hk => by rw [(v5 k hk).1, hK]; rfl)) (by decide) rfl (fun k hk => by rw [(v5 k hk).2.1, hK]; rfl)) (by decide) rfl (fun k hk => by rw [(v5 k hk).2.2, hK]; rfl)
theorem St.some (z : St c q m n D H B l h X Y) (hc : c ≤ 512) (L L' : Nat → Nat → Int64) (p : Int32) : credOf_it X L p m = 0 ↔ (s1_it (up2 Y 61 0 0) L' p m).1 = 0 := by
  have hm := z.hq.2.2.1
  have h40 := z.hq.2.2.2.1
  have h12 := z.hq.2.1
  have b1 := z.2.2.1.2.2.2.2.2.2.2.2.2.2.2.2.2.2.2.1
  rw [cred_z L hm h40 (fun d hd => ⟨(b1 d hd).2.2.1, by have := (b1 d hd).2.2.2.1; omega⟩) p m (Nat.le_refl _), (s1_at (J := up2 Y 61 0 0) L' p m h40).2]
  constructor
  · intro y j hj hp
    have hp' : X 17 j = p := by rw [← z.2.2.1.1 j hj]; exact hp
    show dueR Y (nI j) ≤ 0
    rw [← z.dueE hj, due_at hm h40 hj, if_neg (fun e => y j hj ⟨e, hp'⟩)]; decide
  · rintro y j hj ⟨e1, e2⟩
    have w : dueR Y (nI j) ≤ 0 := y j hj (by show Y 87 j = p; rw [z.2.2.1.1 j hj]; exact e2)
    rw [← z.dueE hj, le0_Z] at w
    have := z.dueP hc hj e1
    omega
theorem surr_safe (z : St c q m n D H B l h X Y) (hA : AR n xa xl N X Y) (hB : XB n xa xl) (hc : c ≤ 512) (L' : Nat → Nat → Int64) (p : Int32) (hs : ¬ (s1_it (up2 Y 61 0 0) L' p m).1 = 0) : ptSafe (ySK Y L' n m q p) L' m (ySN Y L' n m q p) := by
  have h40 := z.hq.2.2.2.1
  have e : ∃ f, f < q ∧ p = nI f := by
    refine Classical.byContradiction fun y => hs ?_
    rw [(s1_at (J := up2 Y 61 0 0) L' p m h40).2]
    intro j hj hp
    obtain ⟨f, t, hf, ht, hft, ef, et⟩ := z.ends hj
    exact absurd ⟨f, hf, by rw [← ef, ← z.2.2.1.1 j hj]; exact hp.symm⟩ y
  obtain ⟨P, hP, rfl⟩ := e
  exact (z.surrC hA hB hc (fun _ _ => 0) L' hP).1
theorem pp_surr (z : St c q m n D H B l h X Y) (hA : AR n xa xl N X Y) (hB : XB n xa xl) (hc : c ≤ 512) (L L' : Nat → Nat → Int64) (p : Int32) : Ok c n X Y (xSurr X L xa xl n m q p).2.1 (ySurr Y L' n m q p).2.1 (xSurr X L xa xl n m q p).1 (ySurr Y L' n m q p).1 := by
  unfold xSurr ySurr
  by_cases h1 : hasP X p = 0
  · rw [if_pos h1, if_pos ((z.per p).mp h1)]; exact z.ok0 rfl
  · rw [if_neg h1, if_neg (fun y => h1 ((z.per p).mpr y))]
    by_cases h2 : credOf_it X L p m = 0
    · rw [if_pos h2, if_pos ((z.some hc L L' p).mp h2)]
      exact ⟨rfl, FX.rfl, (FY.rfl.u2 n61 0).u1 (Or.inl (by decide)), q, m, D, H, B, l, h, z.nx.cgY (fun a g1 g2 => by show up1 (up2 Y 61 0 0) 125 _ a = _; rw [up1_ne (by omega), up2_ne (by omega)])⟩
    · rw [if_neg h2, if_neg (fun y => h2 ((z.some hc L L' p).mpr y))]
      obtain ⟨P, hP, rfl⟩ := z.per_ex h1
      exact (z.surrC hA hB hc L L' hP).2
end
