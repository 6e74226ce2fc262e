/-! free -/
def FV (pu : Int32) (j : Nat) (s : Int32 × Int32 × (Nat → Int64) × Int64) (t : Int32 × Int32 × (Nat → Int32)) : Prop := (∀ y, y ≤ j → 0 ≤ (s.2.2.1 y).toInt ∧ (s.2.2.1 y).toInt ≤ 1000000000 * (y : Int) ∧ RL pu.toInt (t.2.2 y).toInt (s.2.2.1 y).toInt ∧ 0 ≤ (t.2.2 y).toInt ∧ (t.2.2 y).toInt ≤ 2000000000) ∧ ∃ b a : Nat, b ≤ j ∧ a ≤ 8 ∧ t.1 = nI b ∧ s.2.1 = nI b ∧ s.1 = nI a ∧ t.2.1 = nI a ∧ s.2.2.2 = s.2.2.1 b ∧ s.2.2.2.toInt ≤ pu.toInt
section
variable {c q m n D H B l h : Nat} {X Y : Nat → Nat → Int32} {xa xl N : Nat → Nat}
set_option maxHeartbeats 1000000 in
theorem St.freeS (z : St c q m n D H B l h X Y) (hc : c ≤ 512) (L L1 L' : Nat → Nat → Int64) (I : Nat → Nat → Int32) {J : Nat → Nat → Int32} (hJ : ∀ a, 62 ≤ a → a ≤ 104 → J a = Y a) {k : Nat} (hk : k ≤ 8) {w : Nat → Nat} (hw : ∀ i, i < k → w i < q ∧ J 128 i = nI (w i)) (h58 : ∀ la, la < k → (L1 58 la).toInt = needZ X L m (w la)) (h59 : ∀ u v, u < k → v < k → (L1 59 (8 * u + v)).toInt = sumQ (payZ X w u v) m) {pu : Int32} (hp : 0 ≤ pu.toInt ∧ pu.toInt ≤ 1000000) (w0 : Nat → Int64) (g0 : Nat → Int32) (h0 : w0 0 = 0) (h1 : g0 0 = 0) : ∀ j, j ≤ 2 ^ k - 1 → FV pu j (ff_it I L1 w0 pu k j) (fs_it J L' g0 pu k m j) := by
  have p256 : 2 ^ k ≤ 256 := Nat.le_trans (Nat.pow_le_pow_right (by omega) hk) (by decide)
  intro j
  induction j with
  | zero =>
    intro _
    refine ⟨fun y hy => ?_, 0, 0, Nat.le_refl _, by omega, rfl, rfl, rfl, rfl, h0.symm, by show (0 : Int64).toInt ≤ _; rw [toL_0]; omega⟩
    have y0 : y = 0 := by omega
    subst y0
    show 0 ≤ (w0 0).toInt ∧ (w0 0).toInt ≤ _ ∧ RL pu.toInt (g0 0).toInt (w0 0).toInt ∧ 0 ≤ (g0 0).toInt ∧ (g0 0).toInt ≤ _
    rw [h0, h1, toL_0, toI_0]
    exact ⟨by omega, by omega, Or.inl rfl, by omega, by omega⟩
  | succ j ih =>
    intro hj
    obtain ⟨i1, b, a, i2, i3, i4, i5, i6, i7, i8, i9⟩ := ih (by omega)
    rw [ff_it_s, fs_it_s]
    generalize ff_it I L1 w0 pu k j = s at i1 i5 i6 i8 i9
    generalize fs_it J L' g0 pu k m j = t at i1 i4 i7
    obtain ⟨s1, s2, s3, s4⟩ := s
    obtain ⟨t1, t2, t3⟩ := t
    dsimp only at i1 i4 i5 i6 i7 i8 i9
    subst i4 i5 i6 i7
    have O := z.oneS hc L (up2 (up1 L1 60 s3) 56 2 s4) L' (up2 (up2 I 56 0 (nI a)) 56 1 (nI b)) hJ hk hw h58 h59 hp (i := j) (by omega) (g := upr t3 (j + 1) 2000000000) (upr_at _ _ _) (fun y hy => by
      have w := i1 y (by omega)
      rw [upr_ne (by omega)]
      exact w) k (Nat.le_refl _)
    obtain ⟨bc1, bc2⟩ := bitC_eq I k (by omega) (j + 1) (by omega)
    have hbc : bitC I (nI (j + 1)) = nI (popc k (j + 1)) := bc1
    have ple := popc_le (j + 1) k
    have pp : 0 < popc k (j + 1) := by rcases bc2 with y | y; omega; exact y
    unfold ff_st fs_st
    dsimp only
    rw [nI_clamp (show j + 1 < 2 ^ 31 by omega), nI_clamp (show b < 2 ^ 31 by omega), up2_at, hbc]
    generalize lp_it (up2 (up2 I 56 0 (nI a)) 56 1 (nI b)) (up2 (up1 L1 60 s3) 56 2 s4) (nI (j + 1)) k k = V at O
    generalize fi_it J L' (upr t3 (j + 1) 2000000000) pu j k m k = T at O
    obtain ⟨T1, T2⟩ := T
    obtain ⟨o1, o2, o3, o4, o5⟩ := O
    dsimp only at o1 o2 o3 o4 o5
    rw [o1]
    rcases o5 with ⟨q1, -, -⟩ | ⟨q1, q2, q3, q4⟩
    · omega
    generalize hpc : popc k (j + 1) = pc at ple pp o1 q1
    have rows : ∀ y, y ≤ j + 1 → 0 ≤ (upr s3 (j + 1) V y).toInt ∧ (upr s3 (j + 1) V y).toInt ≤ 1000000000 * (y : Int) ∧ RL pu.toInt (T2 y).toInt (upr s3 (j + 1) V y).toInt ∧ 0 ≤ (T2 y).toInt ∧ (T2 y).toInt ≤ 2000000000 := by
      intro y hy
      by_cases e : y = j + 1
      · subst e; rw [upr_at]; exact ⟨q2, q3, q4, o3, o4⟩
      · rw [upr_ne e, o2 y e, upr_ne e]; exact i1 y (by omega)
    have rb := i1 b i2
    have ub : upr s3 (j + 1) V b = s3 b := upr_ne (by omega)
    have Tb : T2 b = t3 b := by rw [o2 b (by omega), upr_ne (by omega)]
    have keep : FV pu (j + 1) (nI a, nI b, upr s3 (j + 1) V, s4) (nI b, nI a, T2) := ⟨rows, b, a, by omega, i3, rfl, rfl, rfl, rfl, by show s4 = upr s3 (j + 1) V b; rw [ub]; exact i8, i9⟩
    have take : V.toInt ≤ pu.toInt → FV pu (j + 1) (nI pc, nI (j + 1), upr s3 (j + 1) V, V) (nI (j + 1), nI pc, T2) := fun g => ⟨rows, j + 1, pc, Nat.le_refl _, by omega, rfl, rfl, rfl, rfl, (upr_at _ _ _).symm, g⟩
    have cV : 0 < lg_cmp V pu.toInt64 ↔ pu.toInt < V.toInt := by rw [lg_cmp_gt, Int64.lt_iff_toInt_lt, i64_of]
    have cT : pu < T2 (j + 1) ↔ pu.toInt < V.toInt := by
      rw [Int32.lt_iff_toInt_lt]
      unfold RL at q4
      constructor
      · intro y; omega
      · intro y; omega
    have ca : nI a < nI pc ↔ a < pc := by rw [Int32.lt_iff_toInt_lt, nI_toInt (by omega), nI_toInt (by omega)]; omega
    have ce : nI pc = nI a ↔ pc = a := ⟨fun y => nI_inj (by omega) (by omega) y, fun y => by rw [y]⟩
    by_cases g1 : pu.toInt < V.toInt
    · rw [if_pos (cT.mpr g1), if_pos (cV.mpr g1), if_pos (cV.mpr g1), ite_self, ite_self, ite_self]
      exact keep
    · have n1 : ¬ 0 < lg_cmp V pu.toInt64 := fun y => g1 (cV.mp y)
      rw [if_neg (fun y => g1 (cT.mp y)), if_neg n1, if_neg n1]
      dsimp only
      have TV : (T2 (j + 1)).toInt = V.toInt := by unfold RL at q4; omega
      by_cases g2 : a < pc
      · rw [if_pos (ca.mpr g2), if_pos (ca.mpr g2)]
        exact take (by omega)
      · rw [if_neg (fun y => g2 (ca.mp y)), if_neg (fun y => g2 (ca.mp y))]
        by_cases g3 : pc = a
        · rw [if_neg (not_not_intro (ce.mpr g3)), if_neg (not_not_intro (ce.mpr g3))]
          have rb3 : (t3 b).toInt = (s3 b).toInt := by
            have := rb.2.2.1
            unfold RL at this
            rw [i8] at i9
            omega
          have cc : 0 ≤ lg_cmp V s4 ↔ T2 b ≤ T2 (j + 1) := by rw [lg_cmp_ge, Int64.le_iff_toInt_le, Int32.le_iff_toInt_le, TV, Tb, rb3, i8]
          by_cases g4 : T2 b ≤ T2 (j + 1)
          · rw [if_pos g4, if_pos (cc.mpr g4)]; exact keep
          · rw [if_neg g4, if_neg (fun y => g4 (cc.mp y))]; exact take (by omega)
        · rw [if_pos (fun y => g3 (ce.mp y)), if_pos (fun y => g3 (ce.mp y))]
          exact keep
theorem bits_eq {I J : Nat → Nat → Int32} (L L' : Nat → Nat → Int64) (x : Int32) {k : Nat} (hk : k ≤ 8) (hr : ∀ i, i < k → I 57 i = J 128 i) : bp_it I L x k = fb_it J L' x k := by
  refine itr_cg (fun j s hj => ?_)
  unfold bp_st fb_st
  rw [nI_clamp (by omega), hr j hj]
theorem pp_free (z : St c q m n D H B l h X Y) (hc : c ≤ 512) (L L' : Nat → Nat → Int64) (xa xl : Nat → Nat) (pu w : Int32) : Ok c n X Y (xFree X L xa xl n m q pu w).2.1 (yFree Y L' n m q pu w).2 (xFree X L xa xl n m q pu w).1 (yFree Y L' n m q pu w).1 := by
  unfold xFree yFree
  by_cases h1 : outside X pu 0 1000000 = 0
  · rw [if_neg (not_not_intro h1), if_neg (fun w => (inR_o Y X pu 0 1000000).mp w h1)]
    by_cases h2 : outside X w 0 2 = 0
    · rw [if_pos h2, if_neg (fun y => (inR_o Y X w 0 2).mp y h2)]
      have h12 := z.hq.2.1
      have hpu := h1
      rw [out_iff, toI_0, toI_1000000] at hpu
      have G := z.gath3 hc L L' (Y' := up2 Y 61 0 0) rfl q 0 (X 57, 0, L 58) (0, (up2 Y 61 0 0) 128) (by omega) ⟨0, fun _ => 0, by omega, rfl, rfl, fun i hi => by omega, fun i i' hi => by omega⟩
      have G' : FW X L m q q (gaS X L m q) (whS (up2 Y 61 0 0) L' q) := G
      obtain ⟨k, ww, hk, g1, g2, g3, g4⟩ := G'
      have ez1 : (gaS X L m q).2.1.toNatClampNeg = k := by rw [g1, nI_clamp (by omega)]
      have ez2 : (whS (up2 Y 61 0 0) L' q).1.toNatClampNeg = k := by rw [g2, nI_clamp (by omega)]
      have gI35 : ∀ a, a ≤ 35 → gaI X L m q a = X a := fun a ha => by unfold gaI; rw [up2_ne (by omega), up1_ne (by omega)]
      have h58 : ∀ la, la < k → (gaL X L m q 58 la).toInt = needZ X L m (ww la) := fun la hla => (g3 la hla).2.2.2.2
      have h59 : ∀ u v, u < k → v < k → (gaL X L m q 59 (8 * u + v)).toInt = sumQ (payZ X ww u v) m := by
        intro u v hu hv
        show (gc_it (gaI X L m q) (up1 L 58 (gaS X L m q).2.2) (gb_it (gaI X L m q) (up1 L 58 (gaS X L m q).2.2) ((gaS X L m q).2.1.toNatClampNeg * 8)) (gaS X L m q).2.1.toNatClampNeg m (8 * u + v)).toInt = _
        rw [ez1]
        exact z.pays hc _ gI35 hk (w := ww) (fun i hi => ⟨(g3 i hi).2.1, (g3 i hi).2.2.1⟩) g4 (fun j hj => gb_at _ _ (k * 8) (by omega) j hj) m (Nat.le_refl _) u v hu hv
      obtain ⟨J, hJ⟩ : ∃ v, v = up1 (up2 Y 61 0 0) 128 (whS (up2 Y 61 0 0) L' q).2 := ⟨_, rfl⟩
      have J104 : ∀ a, 62 ≤ a → a ≤ 104 → J a = Y a := fun a g1 g2 => by rw [hJ, up1_ne (by omega), up2_ne (by omega)]
      have hw : ∀ i, i < k → ww i < q ∧ J 128 i = nI (ww i) := fun i hi => ⟨(g3 i hi).2.1, by rw [hJ, up1_at]; exact (g3 i hi).2.2.2.1⟩
      have F := z.freeS hc L (gaL X L m q) L' (gaI X L m q) J104 hk hw h58 h59 hpu (upr ((gaL X L m q) 60) 0 0) (upr (J 129) 0 0) (upr_at _ _ _) (upr_at _ _ _) (2 ^ k - 1) (Nat.le_refl _)
      have p256 : 2 ^ k ≤ 256 := Nat.le_trans (Nat.pow_le_pow_right (by omega) hk) (by decide)
      have hS : ffS X L m q pu = ff_it (gaI X L m q) (gaL X L m q) (upr ((gaL X L m q) 60) 0 0) pu k (2 ^ k - 1) := by unfold ffS; rw [ez1]
      rw [ez2, ← hJ]
      unfold yFr
      rw [← hS] at F
      generalize hT : fs_it J L' (upr (J 129) 0 0) pu k m (2 ^ k - 1) = T at F
      obtain ⟨F1, b, a, f2, f3, f4, f5, f6, f7, f8, f9⟩ := F
      have fX : FX X (frI X L m q pu) := by
        unfold frI gaI
        exact ((((FX.rfl.u1 (by decide) _).u2 (by decide) _ _).u2 (by decide) _ _).u2 (by decide) _ _).u2 (by decide) _ _
      have f35 : ∀ a, a ≤ 35 → frI X L m q pu a = X a := fun a ha => by
        unfold frI
        rw [up2_ne (by omega), up2_ne (by omega), up2_ne (by omega)]
        exact gI35 a ha
      have fY : FY Y (up1 J 129 T.2.2) := by
        rw [hJ]
        exact ((FY.rfl.u2 n61 0).u1 (Or.inl (by decide))).u1 (Or.inl (by decide))
      have zz := (z.nx.cgX f35).cgY (Y' := up1 J 129 T.2.2) (fun a g1 g2 => by rw [up1_ne (by omega)]; exact J104 a g1 g2)
      by_cases w0 : w = 0
      · rw [if_pos w0, if_pos w0]
        refine ⟨?_, fX, fY, q, m, D, H, B, l, h, zz⟩
        show (ffS X L m q pu).1 = T.2.1
        rw [f6, f7]
      · rw [if_neg w0, if_neg w0]
        by_cases w1 : w = 1
        · rw [if_pos w1, if_pos w1]
          refine ⟨?_, fX, fY, q, m, D, H, B, l, h, zz⟩
          have e1 : (frI X L m q pu) 56 1 = bp_it (up2 (up2 (gaI X L m q) 56 0 ((ffS X L m q pu).1)) 56 1 ((ffS X L m q pu).2.1)) (up2 (up1 (gaL X L m q) 60 ((ffS X L m q pu).2.2.1)) 56 2 ((ffS X L m q pu).2.2.2)) (ffS X L m q pu).2.1 k := by
            unfold frI
            rw [up2_at, ez1]
          show (frI X L m q pu) 56 1 = _
          rw [e1, f5, f4]
          exact bits_eq _ _ (nI b) hk (fun i hi => ((g3 i hi).2.2.1).trans (hw i hi).2.symm)
        · rw [if_neg w1, if_neg w1]
          refine ⟨?_, fX, fY, q, m, D, H, B, l, h, zz⟩
          show ((ffS X L m q pu).2.2.2).toInt32 = T.2.2 T.1.toNatClampNeg
          have r := F1 b f2
          rw [f4, nI_clamp (by omega), f8]
          rw [f8] at f9
          refine Int32.toInt_inj.mp ?_
          rw [to32 (by omega) (by omega)]
          have := r.2.2.1
          unfold RL at this
          omega
    · rw [if_neg h2, if_pos ((inR_o Y X w 0 2).mpr h2)]; exact z.ok0 rfl
  · rw [if_pos h1, if_pos ((inR_o Y X pu 0 1000000).mpr h1)]; exact z.ok0 rfl
end
