/-! found -/
theorem fc_at {A X : Nat → Nat → Int32} {m : Nat} (h17 : A 17 = X 17) (h30 : A 30 = X 30) (hb : m ≤ 40) (L : Nat → Nat → Int64) (c0 : Nat → Int32) (p : Int32) : ∀ k, k ≤ m → ∀ j, j < k → fc_it A L c0 p k j = if X 17 j = p then X 30 j else 0 := by
  intro k
  induction k with
  | zero => intro _ j hj; omega
  | succ k ih =>
    intro hk j hj
    rw [fc_it_s]
    unfold fc_st
    rw [h17, h30, nI_clamp (by omega)]
    by_cases e : j = k
    · subst e
      rw [upr_at]
      by_cases C : X 17 j = p
      · rw [if_neg (not_not_intro C), if_pos C]
      · rw [if_pos C, if_neg C]
    · rw [upr_ne e]; exact ih (by omega) j (by omega)
theorem f1_at {J : Nat → Nat → Int32} (L' : Nat → Nat → Int64) (p : Int32) : ∀ k, k ≤ 40 → ∀ j, j < k → f1_it J L' p k j = if J 87 j = p then J 100 j else 0 := by
  intro k
  induction k with
  | zero => intro _ j hj; omega
  | succ k ih =>
    intro hk j hj
    rw [f1_it_s]
    unfold f1_st
    rw [nI_clamp (by omega)]
    by_cases e : j = k
    · subst e
      rw [upr_at]
      by_cases C : J 87 j = p
      · rw [if_neg (not_not_intro C), if_pos C]
      · rw [if_pos C, if_neg C]
    · rw [upr_ne e]; exact ih (by omega) j (by omega)
section
variable {c q m n D H B l h : Nat} {X Y : Nat → Nat → Int32} {xa xl N : Nat → Nat}
set_option maxHeartbeats 1000000 in
theorem St.fndL (z : St c q m n D H B l h X Y) (hc : c ≤ 600) (L L' L3 : Nat → Nat → Int64) {P : Nat} (hP : P < q) {X1 Y1 J : Nat → Nat → Int32} (hx : ∀ a, a ≤ 35 → X1 a = X a) (hy : Y1 100 = Y 100) (h88 : J 88 = Y 88) (h70 : ∀ j, j < q → j ≠ P → J 70 j = X 3 j) (e126 : ∀ j, j < m → Y1 126 j = X1 54 j) (eJ : ∀ j, j < m → J 126 j = X1 54 j) (hcl : ∀ j, j < m → X1 53 j = if X 17 j = nI P then X 30 j else 0) (hsh : ∀ j, j < m → 0 ≤ (X1 54 j).toInt ∧ (X1 54 j).toInt ≤ (X1 53 j).toInt) (hs : sumZ (X1 54) m ≤ (X 3 P).toInt) : ∀ k, k ≤ m → St c q m n D H B l h (up1 (up1 X 3 (fo_it X1 L (nI P) k).1) 30 (fo_it X1 L (nI P) k).2) (up1 (up1 Y 70 (fo_it X1 L (nI P) k).1) 100 (f2_it Y1 L' k)) ∧ (∀ j, k ≤ j → j < m → (fo_it X1 L (nI P) k).2 j = X 30 j) ∧ ((fo_it X1 L (nI P) k).1 P).toInt = (X 3 P).toInt - sumZ (X1 54) k ∧ (∀ j, j < q → j ≠ P → (fo_it X1 L (nI P) k).1 j = p3_it J L3 k j) ∧ p3_it J L3 k P = J 70 P ∧ (∀ j, 40 ≤ j → f2_it Y1 L' k j = Y 100 j) ∧ (∀ j, 12 ≤ j → p3_it J L3 k j = J 70 j) := by
  have hm := z.hq.2.2.1
  have h40 := z.hq.2.2.2.1
  have h12 := z.hq.2.1
  have b10 := z.2.2.1.2.2.2.2.2.2.2.2.2.2.2.2.2.2.2.2.2.2.2.2.2.2.2.2.1
  intro k
  induction k with
  | zero =>
    intro _
    show St c q m n D H B l h (up1 (up1 X 3 (X1 3)) 30 (X1 30)) (up1 (up1 Y 70 (X1 3)) 100 (Y1 100)) ∧ (∀ j, 0 ≤ j → j < m → X1 30 j = X 30 j) ∧ (X1 3 P).toInt = (X 3 P).toInt - 0 ∧ (∀ j, j < q → j ≠ P → X1 3 j = J 70 j) ∧ J 70 P = J 70 P ∧ (∀ j, 40 ≤ j → Y1 100 j = Y 100 j) ∧ (∀ j, 12 ≤ j → J 70 j = J 70 j)
    rw [hx 3 (by decide), hx 30 (by decide), hy]
    have b3 := z.2.1.2.2.2.2.2.2.2.2.2.2.2.2.2.2.1
    exact ⟨⟨z.1, z.2.1.coin (Nat.le_refl c) (fun _ _ => rfl) b3, z.2.2.1, z.2.2.2.1, z.2.2.2.2.1, z.2.2.2.2.2⟩, fun j _ _ => rfl, by omega, fun j hj e => (h70 j hj e).symm, rfl, fun j _ => rfl, fun j _ => rfl⟩
  | succ k ih =>
    intro hk
    obtain ⟨zk, i1, i2, i3, i4, i5, i6⟩ := ih (by omega)
    rw [fo_it_s, f2_it_s, p3_it_s]
    generalize fo_it X1 L (nI P) k = s at zk i1 i2 i3
    generalize f2_it Y1 L' k = t100 at zk i5
    generalize p3_it J L3 k = pp at i3 i4 i6
    obtain ⟨s3, s30⟩ := s
    dsimp only at zk i1 i2 i3
    have ek := i1 k (Nat.le_refl _) (by omega)
    have e100 : t100 k = s30 k := zk.2.2.1.2.2.2.2.2.2.2.2.2.2.2.2.2.1 k (by omega)
    obtain ⟨f, t, hf, ht, hft, ef, et⟩ := z.ends (show k < m by omega)
    have eJ88 : J 88 k = nI t := by rw [h88, z.2.2.1.2.1 k (by omega), et]
    have hp3 : p3_st J L3 k pp = upr pp t (pp t + X1 54 k) := by
      unfold p3_st
      rw [nI_clamp (show k < 2 ^ 31 by omega), eJ88, nI_clamp (show t < 2 ^ 31 by omega), eJ k (by omega)]
    have cl := hcl k (by omega)
    have sh := hsh k (by omega)
    have hY : f2_st Y1 L' k t100 = upr t100 k (t100 k - X1 54 k) := by
      unfold f2_st
      rw [nI_clamp (show k < 2 ^ 31 by omega), e126 k (by omega)]
    rw [hp3, hY]
    by_cases C : X 17 k = nI P
    · have efP : f = P := nI_inj (by omega) (by omega) (ef.symm.trans C)
      subst efP
      rw [if_pos C] at cl
      rw [cl] at sh
      have bb := b10 k (by omega)
      generalize ha : X1 54 k = a at sh
      have hX : fo_st X1 L (nI f) k (s3, s30) = (upr (upr s3 f (s3 f - a)) t (upr s3 f (s3 f - a) t + a), upr s30 k (s30 k - a)) := by
        unfold fo_st
        rw [nI_clamp (show k < 2 ^ 31 by omega), hx 17 (by decide), hx 18 (by decide), C, et, nI_clamp (show f < 2 ^ 31 by omega), nI_clamp (show t < 2 ^ 31 by omega), if_neg (not_not_intro rfl), ha]
        rfl
      rw [hX, e100]
      have hsm := sumZ_mono (fun j hj => (hsh j hj).1) (m - (k + 1)) (k + 1) (by omega)
      rw [show k + 1 + (m - (k + 1)) = m by omega, sumZ, ha] at hsm
      have eba : (s30 k - a).toInt = (X 30 k).toInt - a.toInt := by rw [ek]; exact sub_toInt (by omega) (by omega)
      obtain ⟨z1, -, -⟩ := zk.move (by omega) hf ht (a := a) sh.1 (by show a.toInt ≤ (s3 f).toInt; rw [i2]; omega)
      have z3 := z1.lackd (j := k) (v := s30 k - a) (by rw [eba]; omega)
      unfold moveCoins at z3
      rw [nI_clamp (show f < 2 ^ 31 by omega), nI_clamp (show t < 2 ^ 31 by omega)] at z3
      refine ⟨⟨z3.1, z3.2.1, z3.2.2.1, z3.2.2.2.1, z3.2.2.2.2.1, z3.2.2.2.2.2⟩, fun j h1 h2 => ?_, ?_, fun j h1 h2 => ?_, ?_, fun j h1 => ?_, fun j h1 => ?_⟩
      · show upr s30 k _ j = _
        rw [upr_ne (by omega)]; exact i1 j (by omega) h2
      · show (upr (upr s3 f (s3 f - a)) t (upr s3 f (s3 f - a) t + a) f).toInt = _
        have hlt := Int32.toInt_lt (s3 f)
        rw [upr_ne (fun y => hft y), upr_at, sumZ, ha, sub_toInt (by rw [i2]; omega) (by omega), i2]; omega
      · show upr (upr s3 f (s3 f - a)) t (upr s3 f (s3 f - a) t + a) j = upr pp t (pp t + a) j
        by_cases e : j = t
        · subst e; rw [upr_at, upr_at, upr_ne (fun y => hft y.symm), i3 j h1 h2]
        · rw [upr_ne e, upr_ne e, upr_ne h2]; exact i3 j h1 h2
      · rw [upr_ne hft]; exact i4
      · rw [upr_ne (by omega)]; exact i5 j h1
      · rw [upr_ne (by omega)]; exact i6 j h1
    · rw [if_neg C] at cl
      rw [cl, toI_0] at sh
      have ha : X1 54 k = 0 := Int32.toInt_inj.mp (by rw [toI_0]; omega)
      have hX : fo_st X1 L (nI P) k (s3, s30) = (s3, s30) := by
        unfold fo_st
        rw [nI_clamp (show k < 2 ^ 31 by omega), hx 17 (by decide), if_pos C]
      have hpp : upr pp t (pp t + X1 54 k) = pp := by
        funext j
        by_cases e : j = t
        · subst e; rw [upr_at, ha, Int32.add_zero]
        · rw [upr_ne e]
      have htt : upr t100 k (t100 k - X1 54 k) = t100 := by
        funext j
        by_cases e : j = k
        · subst e; rw [upr_at, ha, Int32.sub_zero]
        · rw [upr_ne e]
      rw [hX, hpp, htt]
      refine ⟨zk, fun j h1 h2 => i1 j (by omega) h2, ?_, i3, i4, i5, i6⟩
      rw [sumZ, ha, toI_0, i2]; omega
theorem St.gain (z : St c q m n D H B l h X Y) (hc : c ≤ 600) {P : Nat} (hP : P < q) {v : Int32} (hv : 1 ≤ v.toInt ∧ v.toInt ≤ 1000000) : St (c + 1) q m n D H B l h (up2 X 3 P (X 3 P + v)) (up2 Y 70 P (X 3 P + v)) := by
  have b3 := z.2.1.2.2.2.2.2.2.2.2.2.2.2.2.2.2.1
  exact ⟨z.nx.1, z.2.1.coin (Nat.le_succ c) (z.2.1.1.up P (X 3 P + v)) (b3.add hc hP (by omega) hv.2), z.nx.2.2⟩
set_option maxHeartbeats 2000000 in
theorem St.foundC (z : St c q m n D H B l h X Y) (hA : AR n xa xl N X Y) (hB : XB n xa xl) (hc : c ≤ 512) (L L' : Nat → Nat → Int64) {P : Nat} (hP : P < q) {v : Int32} (hv : 1 ≤ v.toInt ∧ v.toInt ≤ 1000000) : ptSafe (yFK Y L' n m q (nI P) v) L' m v ∧ Ok c n X Y (foI (fuI X L xa xl n m q (nI P) v) (fuL X L xa xl n m q (nI P) v) m (nI P)) (f2I (yFI Y L' n m q (nI P) v) (yFL Y L' n m q (nI P) v) m (nI P) v (yFV Y L' n m q (nI P) v)) (fuV X L xa xl n m q (nI P) v) (yFV Y L' n m q (nI P) v) := by
  have hm := z.hq.2.2.1
  have h40 := z.hq.2.2.2.1
  have h12 := z.hq.2.1
  have e3P := z.2.1.1 P hP
  have co := z.2.1.2.2.2.2.2.2.2.2.2.2.2.2.2.2.1
  have b10 := z.2.2.1.2.2.2.2.2.2.2.2.2.2.2.2.2.2.2.2.2.2.2.2.2.2.2.2.1
  have nP : (nI P).toNatClampNeg = P := nI_clamp (by omega)
  have zg := z.gain (by omega) hP hv
  obtain ⟨G, hG⟩ : ∃ v, v = nowG (X 38) X L xa n m (nI P) := ⟨_, rfl⟩
  obtain ⟨GY, hGY⟩ : ∃ v, v = lookG (Y 121) Y L' (nI P) m := ⟨_, rfl⟩
  obtain ⟨A, hAA⟩ : ∃ w, w = up2 (up1 X 38 G) 3 P (X 3 P + v) := ⟨_, rfl⟩
  obtain ⟨CL, hCL⟩ : ∃ w, w = clr_it A L 40 := ⟨_, rfl⟩
  obtain ⟨C53, hC53⟩ : ∃ w, w = fc_it (up1 A 54 CL.1) (up1 L 55 CL.2.2) CL.2.1 (nI P) m := ⟨_, rfl⟩
  obtain ⟨s, hs⟩ : ∃ w, w = dv_it (up1 A 53 C53) L m CL.1 CL.2.2 v 4 := ⟨_, rfl⟩
  have a1 : fuI X L xa xl n m q (nI P) v = up1 (up1 A 53 C53) 54 s.2.1 := by
    unfold fuI
    rw [nP, ← hG, ← hAA, ← hCL, ← hC53, ← hs]
  have a2 : fuL X L xa xl n m q (nI P) v = up1 L 55 s.2.2 := by
    unfold fuL
    rw [nP, ← hG, ← hAA, ← hCL, ← hC53, ← hs]
  have a3 : fuV X L xa xl n m q (nI P) v = v - s.1 := by
    unfold fuV
    rw [nP, ← hG, ← hAA, ← hCL, ← hC53, ← hs]
  obtain ⟨W, hW⟩ : ∃ w, w = f1_it (up1 (up2 Y 61 0 0) 121 GY) L' (nI P) m := ⟨_, rfl⟩
  obtain ⟨K, hK⟩ : ∃ w, w = up1 (up1 (up2 Y 61 0 0) 121 GY) 125 W := ⟨_, rfl⟩
  obtain ⟨t, ht⟩ : ∃ w, w = ptS K L' m v := ⟨_, rfl⟩
  obtain ⟨p3, hp3⟩ : ∃ w, w = p3_it (up1 K 126 t.2.1) (up1 L' 127 t.2.2) m := ⟨_, rfl⟩
  have f1 : yFK Y L' n m q (nI P) v = K := by unfold yFK; rw [← hGY, ← hW, ← hK]
  have f3 : yFI Y L' n m q (nI P) v = up1 (up1 K 126 t.2.1) 70 p3 := by
    unfold yFI
    rw [← hGY, ← hW, ← hK]
    unfold ptI
    rw [← ht, ← hp3]
  have f4 : yFL Y L' n m q (nI P) v = up1 L' 127 t.2.2 := by
    unfold yFL
    rw [← hGY, ← hW, ← hK, ← ht]
  have f5 : yFV Y L' n m q (nI P) v = v - t.1 := by
    unfold yFV
    rw [← hGY, ← hW, ← hK, ← ht]
  have cl53 : ∀ j, j < m → C53 j = if X 17 j = nI P then X 30 j else 0 := fun j hj => by
    rw [hC53]
    exact fc_at (by rw [hAA]; rfl) (by rw [hAA]; rfl) h40 _ _ (nI P) m (Nat.le_refl _) j hj
  have clW : ∀ j, j < m → W j = C53 j := by
    intro j hj
    rw [hW, f1_at L' (nI P) m h40 j hj, cl53 j hj]
    show (if Y 87 j = nI P then Y 100 j else 0) = _
    rw [z.2.2.1.1 j hj, z.2.2.1.2.2.2.2.2.2.2.2.2.2.2.2.2.1 j hj]
  have hb : Bw m C53 0 50000000 := by
    intro j hj
    rw [cl53 j hj]
    have := b10 j hj
    split
    · omega
    · rw [toI_0]; omega
  have c3 := co.1 P hP
  have c4 := co.lt hP
  have ca := clr_at A L 40 (Nat.le_refl _)
  rw [← hCL] at ca
  obtain ⟨⟨p1, p2, p3', p4, p5, -, -, p8⟩, safe⟩ := parted_eq (up1 A 53 C53) K L L' h40 (by rw [hK, hAA]; exact z.2.2.1.2.2.2.1) (fun j hj => by rw [hK]; exact clW j hj) hb v (by omega) (g := CL.1) (g' := p0_it K L' m) (w := CL.2.2) (L' 127) (fun j hj => (ca j (by omega)).1) (fun j hj => p0_at K L' m h40 j hj) (fun j _ h2 => (ca j h2).2.2) 4 (Nat.le_refl _)
  rw [← hs] at p1 p2 p3' p4 p5 p8
  have ht' : p2_it K L' m (p0_it K L' m) (L' 127) v 4 = t := ht.symm
  rw [ht'] at p1 p4
  rw [f1]
  refine ⟨safe, ?_⟩
  rw [a1, a2, a3, f3, f4, f5]
  have hpos : ∀ j, j < m → 0 ≤ (s.2.1 j).toInt := fun j hj => (p5 j hj).1
  have hsn := sumZ_nn hpos
  have e3v : (X 3 P + v).toInt = (X 3 P).toInt + v.toInt := add_toInt (by omega) (by omega)
  have a3P : (up2 X 3 P (X 3 P + v)) 3 P = X 3 P + v := up2_at
  obtain ⟨w, -, v2, v3, v4, v5, v6⟩ := zg.fndL (by omega) (up1 L 55 s.2.2) (up1 L' 127 t.2.2) (up1 L' 127 t.2.2) hP (X1 := up1 (up1 A 53 C53) 54 s.2.1) (Y1 := up1 (up1 K 126 t.2.1) 70 p3) (J := up1 K 126 t.2.1) (fun a ha => by
      rw [up1_ne (by omega), up1_ne (by omega), hAA]
      by_cases e : a = 3
      · subst e; rfl
      · rw [up2_ne e, up1_ne (by omega), up2_ne e]) (by rw [hK]; rfl) (by rw [hK]; rfl) (fun j hj e => by
      show K 70 j = upr (X 3) P (X 3 P + v) j
      rw [hK, upr_ne e]; exact z.2.1.1 j hj) (fun j hj => p4 j hj) (fun j hj => p4 j hj) cl53 p5 (by rw [a3P]; show sumZ s.2.1 m ≤ _; omega) m (Nat.le_refl _)
  rw [← hp3] at v3 v4 v6
  unfold foI f2I
  rw [nP]
  generalize fo_it (up1 (up1 A 53 C53) 54 s.2.1) (up1 L 55 s.2.2) (nI P) m = so at w v2 v3
  generalize f2_it (up1 (up1 K 126 t.2.1) 70 p3) (up1 L' 127 t.2.2) m = t100 at w v5
  obtain ⟨s3, s30⟩ := so
  dsimp only at w v2 v3 v5 ⊢
  rw [a3P] at v2
  have vz : (v - t.1).toInt = sumZ s.2.1 m := by rw [← p1, sub_toInt (by omega) (by omega)]; omega
  have v4' : p3 P = X 3 P := by
    rw [v4]
    show K 70 P = _
    rw [hK]; exact e3P
  have evv : (v - (v - t.1)).toInt = v.toInt - sumZ s.2.1 m := by rw [sub_toInt (by rw [vz]; omega) (by rw [vz]; omega), vz]
  have hR : Rw q (upr p3 P (p3 P + (v - (v - t.1)))) s3 := by
    intro j hj
    by_cases e : j = P
    · subst e
      rw [upr_at]
      refine Int32.toInt_inj.mp ?_
      have v2' : (s3 j).toInt = (X 3 j + v).toInt - sumZ s.2.1 m := v2
      rw [add_toInt (by rw [v4', evv]; omega) (by rw [v4', evv]; omega), v4', evv, v2', e3v]; omega
    · rw [upr_ne e]; exact (v3 j hj e).symm
  have co2 := w.2.1.2.2.2.2.2.2.2.2.2.2.2.2.2.2.1
  have w1 := w.2.1.coin (Nat.le_refl (c + 1)) hR co2
  refine ⟨by rw [p1], ?_, ?_, q, m, D, H, B, l, h, ?_⟩
  · rw [hAA]
    exact (((((FX.rfl.u1 (by decide) _).u2 (by decide) _ _).u1 (by decide) _).u1 (by decide) _).u1 (by decide) _).u1 (by decide) _
  · have fK : FY Y K := by rw [hK]; exact ((FY.rfl.u2 n61 0).u1 (Or.inl (by decide))).u1 (Or.inl (by decide))
    have f70 : FY Y (up1 (up1 K 126 t.2.1) 70 p3) := FY.u1r (b := 70) (N := 12) (fK.u1 (Or.inl (by decide))) (by decide) rfl (fun k hk => by rw [v6 k hk])
    have f100 : FY Y (up1 (up1 (up1 K 126 t.2.1) 70 p3) 100 t100) := FY.u1r (b := 100) (N := 40) f70 (by decide) rfl (fun k hk => by rw [v5 k hk, hK]; rfl)
    exact f100.u2 (nwr (b := 70) (k := P) (N := 12) (by decide) rfl (by omega)) _
  · rw [hAA, hK]
    exact ⟨w.1, w1, w.2.2.1, w.2.2.2.1, w.2.2.2.2.1, w.2.2.2.2.2⟩
theorem found_safe (z : St c q m n D H B l h X Y) (hA : AR n xa xl N X Y) (hB : XB n xa xl) (hc : c ≤ 512) (L' : Nat → Nat → Int64) {P : Nat} (hP : P < q) {v : Int32} (hv : 1 ≤ v.toInt ∧ v.toInt ≤ 1000000) : ptSafe (yFK Y L' n m q (nI P) v) L' m v := (z.foundC hA hB hc (fun _ _ => 0) L' hP hv).1
theorem pp_found (z : St c q m n D H B l h X Y) (hA : AR n xa xl N X Y) (hB : XB n xa xl) (hc : c ≤ 512) (L L' : Nat → Nat → Int64) (p v : Int32) : Ok c n X Y (xFound X L xa xl n m q p v).2.1 (yFound Y L' n m q p v).2.1 (xFound X L xa xl n m q p v).1 (yFound Y L' n m q p v).1 := by
  unfold xFound yFound
  by_cases h1 : hasP X p = 0
  · rw [if_pos h1, if_pos ((z.per p).mp h1)]; exact z.ok0 rfl
  · rw [if_neg h1, if_neg (fun y => h1 ((z.per p).mpr y))]
    by_cases h2 : outside X v 1 1000000 = 0
    · rw [if_pos h2, if_neg (fun w => (inR_o Y X v 1 1000000).mp w h2)]
      rw [out_iff, toI_1, toI_1000000] at h2
      obtain ⟨P, hP, rfl⟩ := z.per_ex h1
      have h12 := z.hq.2.1
      have nP : (nI P).toNatClampNeg = P := nI_clamp (by omega)
      have e81 : Y 81 P = X 13 P := z.2.1.2.2.2.2.2.2.2.2.2.2.2.1 P hP
      have e70 := z.2.1.1 P hP
      have tl : nowT X L xa xl n m (nI P) 8 = tlNow Y L' n m (nI P) 8 := z.tells hA hB L L' hP (k := 8) (by decide)
      have zg := z.gain (by omega) hP h2
      rw [nP, e81, tl, e70, Int32.sub_zero]
      by_cases h3 : X 13 P = 0
      · rw [if_pos h3, if_pos h3]
        exact ⟨rfl, FX.rfl.u2 (by decide) _ _, (FY.rfl.u2 n61 0).u2 (nwr (N := 12) (by decide) rfl (by omega)) _, q, m, D, H, B, l, h, ⟨zg.1, zg.2.1, zg.2.2.1, zg.2.2.2.1, zg.2.2.2.2.1, zg.2.2.2.2.2⟩⟩
      · rw [if_neg h3, if_neg h3]
        by_cases h4 : tlNow Y L' n m (nI P) 8 = 0
        · rw [if_pos h4, if_pos h4]
          exact ⟨rfl, (FX.rfl.u1 (by decide) _).u2 (by decide) _ _, ((FY.rfl.u2 n61 0).u1 (Or.inl (by decide))).u2 (nwr (N := 12) (by decide) rfl (by omega)) _, q, m, D, H, B, l, h, ⟨zg.1, zg.2.1, zg.2.2.1, zg.2.2.2.1, zg.2.2.2.2.1, zg.2.2.2.2.2⟩⟩
        · rw [if_neg h4, if_neg h4]
          exact (z.foundC hA hB hc L L' hP h2).2
    · rw [if_neg h2, if_pos ((inR_o Y X v 1 1000000).mpr h2)]; exact z.ok0 rfl
end
