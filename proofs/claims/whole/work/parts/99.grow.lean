/-! person, feed; who detains no more -/
theorem pl_at (I : Nat → Nat → Int32) (L : Nat → Nat → Int64) {q : Nat} (hq : q < 12) : ∀ k, k ≤ 12 → ∀ p r, p < 12 → r < 12 → pl_it I L q k (12 * p + r) = if (p = q ∧ r < k) ∨ (r = q ∧ p < k) then 1000 else I 85 (12 * p + r) := by
  intro k
  induction k with
  | zero => intro _ p r hp hr; rw [if_neg (by omega)]; rfl
  | succ k ih =>
    intro hk p r hp hr
    rw [pl_it_s]
    unfold pl_st
    rw [k12', k12', nI_clamp (by omega), nI_clamp (by omega)]
    by_cases e : 12 * p + r = 12 * k + q
    · rw [e, upr_at, if_pos (by omega)]
    · rw [upr_ne e]
      by_cases e2 : 12 * p + r = 12 * q + k
      · rw [e2, upr_at, if_pos (by omega)]
      · rw [upr_ne e2, ih (by omega) p r hp hr]
        by_cases e3 : (p = q ∧ r < k) ∨ (r = q ∧ p < k)
        · rw [if_pos e3, if_pos (by omega)]
        · rw [if_neg e3, if_neg (by omega)]
theorem pl_big (I : Nat → Nat → Int32) (L : Nat → Nat → Int64) {q : Nat} (hq : q < 12) {j : Nat} (hj : 144 ≤ j) : ∀ k, k ≤ 12 → pl_it I L q k j = I 85 j := by
  intro k
  induction k with
  | zero => intro _; rfl
  | succ k ih =>
    intro hk
    rw [pl_it_s]
    unfold pl_st
    rw [k12', k12', nI_clamp (by omega), nI_clamp (by omega), upr_ne (by omega), upr_ne (by omega)]
    exact ih (by omega)
theorem sumZ_cg {f g : Nat → Int32} : ∀ {q : Nat}, (∀ j, j < q → f j = g j) → sumZ f q = sumZ g q := by
  intro q
  induction q with
  | zero => intro _; rfl
  | succ q ih => intro h; rw [sumZ, sumZ, ih (fun j hj => h j (by omega)), h q (by omega)]
theorem CO.snoc {c q : Nat} {x : Nat → Int32} (h : CO c q x) {v : Int32} (h0 : 0 ≤ v.toInt) (h1 : v.toInt ≤ 1000000) : CO (c + 1) (q + 1) (upr x q v) := by
  refine ⟨fun j hj => ?_, ?_⟩
  · by_cases e : j = q
    · subst e; rw [upr_at]; exact h0
    · rw [upr_ne e]; exact h.1 j (by omega)
  · rw [sumZ, upr_at, sumZ_cg (g := x) (fun j hj => upr_ne (by omega))]
    have := h.2
    omega
theorem u_s8 (s : Nat) (hs : s ≤ 24) (v : Int32) : ((v.toUInt32 >>> ((nI s).toUInt32 &&& Int32.toUInt32 31)).toInt32).toInt8 = (v >>> (nI s &&& 31)).toInt8 := by
  apply Int8.toBitVec_inj.mp
  rw [Int32.toBitVec_toInt8, Int32.toBitVec_toInt8]
  apply BitVec.eq_of_getLsbD_eq
  intro i hi
  rw [BitVec.getLsbD_signExtend, BitVec.getLsbD_signExtend, if_pos (by omega), if_pos (by omega)]
  have h1 := b_ushr s (by omega) v i
  have h2 := b_sshr s (by omega) v (i := i) (by omega)
  rw [if_pos (by omega)] at h2
  unfold bt at h1 h2
  rw [h1, h2]
theorem byt_nar (x : Int32) : byt (vp_nar .byte x) := by
  rw [vp_nar_byte]
  unfold byt
  rw [Int8.toInt_toInt32]
  have h1 := Int8.toInt_lt x.toInt8
  have h2 := Int8.le_toInt x.toInt8
  omega
theorem TA.snoc {l : Nat} {x y : Nat → Int32} (h : TA l x y) (hl : l < 600) {v w : Int32} (e : v = w) (hv : byt v) : TA (l + 1) (upr x l v) (upr y l w) := by
  subst e
  obtain ⟨h1, h2, h3⟩ := h
  refine ⟨by omega, fun j hj => ?_, fun j hj => ?_⟩
  · by_cases e : j = l
    · subst e; rw [upr_at, upr_at]
    · rw [upr_ne e, upr_ne e]; exact h2 j (by omega)
  · by_cases e : j = l
    · subst e; rw [upr_at, upr_at]; exact ⟨hv, hv⟩
    · rw [upr_ne e, upr_ne e]; exact h3 j hj
section
variable {c q m n D H B l h : Nat} {X Y : Nat → Nat → Int32}
theorem pp_person (z : St c q m n D H B l h X Y) (L L' : Nat → Nat → Int64) (xa xl : Nat → Nat) (k g : Int32) : Ok c n X Y (xPerson X L xa xl n m q k g).2 (yPerson Y L' n m q k g).2 (xPerson X L xa xl n m q k g).1 (yPerson Y L' n m q k g).1 := by
  unfold xPerson yPerson
  obtain ⟨h1, h2, h3, h4, h5, h6, h7, h8, h9, h10, h11, h12, h13, h14, g1, g2, g3, g4, g5, g6, g7, g8, g9, g10, g11⟩ := z.1.nx
  rw [h1, g1]
  by_cases a1 : (12 : Int32) ≤ nI q
  · have : q = 12 := by rw [Int32.le_iff_toInt_le, toI_12, nI_toInt (by omega)] at a1; omega
    subst this
    rw [if_pos a1, if_pos (show nI 12 = 12 from rfl)]; exact z.ok0 rfl
  · rw [if_neg a1, if_neg (show ¬ nI q = 12 from fun e => a1 (by rw [e, Int32.le_iff_toInt_le]; omega))]
    rw [Int32.le_iff_toInt_le, toI_12, nI_toInt (by omega)] at a1
    by_cases a2 : outside X k 0 1000000 = 0
    · rw [if_neg (not_not_intro a2), if_neg (fun w => (inR_o Y X k 0 1000000).mp w a2)]
      by_cases a3 : outside X g 0 9 = 0
      · rw [if_pos a3, if_neg (fun w => (inR_o Y X g 0 9).mp w a3)]
        rw [out_iff, toI_0, toI_1000000] at a2
        obtain ⟨e70, e71, e72, e73, e74, e75, e76, e77, e78, e79, e80, e81, e82, e83, b3, b5, b7, b8, b13, b14, b15⟩ := z.2.1
        obtain ⟨e87, e88, e89, e90, e91, e92, e93, e94, e95, e96, e97, e98, e99, e100, e101, d1, d2⟩ := z.2.2.1.nx
        have hL := z.2.2.2.1
        unfold pAdd letGo
        rw [h1, nI_clamp (by omega)]
        refine ⟨rfl, ?_, ?_, q + 1, m, D, H, B, l, h, ⟨nI_1 q, h2, h3, h4, h5, h6, h7, h8, by omega, h10, h11, h12, h13, h14, nI_1 q, g2, g3, g4, g5, g6, g7, g8, g9, g10, g11⟩, ⟨e70.snoc _, e71.snoc _, ?_, e73.snoc _, ?_, e75.snoc _, e76.snoc _, e77.snoc _, e78.snoc _, e79.snoc _, e80.snoc _, e81.snoc _, e82.snoc _, ?_, b3.snoc a2.1 a2.2, b5.snoc (by rw [toI_m1]; omega), (b7.le (by omega)).snoc (by rw [toI_0]; omega), b8.snoc (by rw [toI_0]; omega), b13.snoc (by rw [toI_0]; omega), b14.snoc (by rw [toI_0]; omega), b15.snoc (by rw [toI_0]; omega)⟩, ⟨e87, e88, e89, e90, e91, e92, e93, e94, e95, e96, e97, e98, e99, e100, e101, ?_, d2⟩, ?_, z.2.2.2.2.1, z.2.2.2.2.2⟩
        · exact (((((((((((((FX.rfl.u2 (by decide) _ _).u2 (by decide) _ _).u2 (by decide) _ _).u2 (by decide) _ _).u2 (by decide) _ _).u2 (by decide) _ _).u2 (by decide) _ _).u2 (by decide) _ _).u2 (by decide) _ _).u2 (by decide) _ _).u2 (by decide) _ _).u2 (by decide) _ _).u2 (by decide) _ _).u2 (by decide) _ _
        · refine FY.u1 (((((((((((((((((FY.rfl).u2 n61 _).u2 (nwr (N := 1) (by decide) rfl (by omega)) _).u2 (nwr (N := 12) (by decide) rfl (by omega)) _).u2 (nwr (N := 12) (by decide) rfl (by omega)) _).u2 (nwr (N := 12) (by decide) rfl (by omega)) _).u2 (nwr (N := 12) (by decide) rfl (by omega)) _).u2 (nwr (N := 12) (by decide) rfl (by omega)) _).u2 (nwr (N := 12) (by decide) rfl (by omega)) _).u2 (nwr (N := 12) (by decide) rfl (by omega)) _).u2 (nwr (N := 12) (by decide) rfl (by omega)) _).u2 (nwr (N := 12) (by decide) rfl (by omega)) _).u2 (nwr (N := 12) (by decide) rfl (by omega)) _).u2 (nwr (N := 12) (by decide) rfl (by omega)) _).u2 (nwr (N := 12) (by decide) rfl (by omega)) _).u2 (nwr (N := 12) (by decide) rfl (by omega)) _).u2 (nwr (N := 12) (by decide) rfl (by omega)) _) (Or.inr ⟨by decide, by decide, fun j hj => ?_⟩)
          exact pl_big _ L' (by omega) hj 12 (Nat.le_refl _)
        · intro j hj
          show upr (Y 72) q 0 j = if upr (X 5) q (-1) j = -1 then 0 else 1
          by_cases e : j = q
          · subst e; rw [upr_at, upr_at, if_pos rfl]
          · rw [upr_ne e, upr_ne e]; exact e72 j (by omega)
        · intro j hj
          show upr (Y 74) q (-1) j = if upr (X 5) q (-1) j = -1 then -1 else upr (X 6) q 0 j
          by_cases e : j = q
          · subst e; rw [upr_at, upr_at, if_pos rfl]
          · rw [upr_ne e, upr_ne e, upr_ne e]; exact e74 j (by omega)
        · intro j hj
          show upr (Y 83) q 0 j = - upr (X 15) q 0 j
          by_cases e : j = q
          · subst e; rw [upr_at, upr_at]; decide
          · rw [upr_ne e, upr_ne e]; exact e83 j (by omega)
        · intro j hj
          have w := d1 j hj
          exact ⟨w.1, Int.lt_trans w.2.1 (by omega), w.2.2.1, Int.lt_trans w.2.2.2.1 (by omega), w.2.2.2.2⟩
        · intro p r hp hr
          have w := hL p r hp hr
          refine ⟨fun i1 i2 => ?_, fun i1 => ?_, w.2.2⟩
          · show pl_it _ L' q 12 (12 * p + r) = 1000 - X 33 (12 * p + r)
            rw [pl_at _ L' (by omega) 12 (Nat.le_refl _) p r hp hr]
            by_cases e : (p = q ∧ r < 12) ∨ (r = q ∧ p < 12)
            · rw [if_pos e, w.2.1 (by omega)]; decide
            · rw [if_neg e]; exact w.1 (by omega) (by omega)
          · exact w.2.1 (by omega)
      · rw [if_neg a3, if_pos ((inR_o Y X g 0 9).mpr a3)]; exact z.ok0 rfl
    · rw [if_pos a2, if_pos ((inR_o Y X k 0 1000000).mpr a2)]; exact z.ok0 rfl
/-- four bytes -/
theorem St.fd4 (z : St c q m n D H B l h X Y) (hl : l + 4 ≤ 600) (v : Int32) : St c q m n D H B (l + 4) h (feed4 X v) (four Y v) ∧ FX X (feed4 X v) ∧ FY Y (four Y v) := by
  obtain ⟨h1, h2, h3, h4, h5, h6, h7, h8, h9, h10, h11, h12, h13, h14, g1, g2, g3, g4, g5, g6, g7, g8, g9, g10, g11⟩ := z.1
  unfold feed4 four
  rw [h7, g7, nI_1, nI_1, nI_1, nI_1, nI_clamp (by omega), nI_clamp (by omega), nI_clamp (by omega), nI_clamp (by omega)]
  have t := z.2.2.2.2.1
  refine ⟨⟨⟨h1, h2, h3, h4, h5, h6, rfl, h8, h9, h10, h11, h12, h13, h14, g1, g2, g3, g4, g5, g6, rfl, g8, g9, g10, g11⟩, z.2.1, z.2.2.1, z.2.2.2.1, ?_, z.2.2.2.2.2⟩, ?_, ?_⟩
  · have t1 := t.snoc (v := vp_nar .byte (((v.toUInt32 >>> ((24 : Int32).toUInt32 &&& Int32.toUInt32 31)).toInt32).toInt8.toInt32)) (w := vp_nar .byte ((v >>> ((24 : Int32) &&& 31)).toInt8.toInt32)) (by omega) (by rw [show ((v.toUInt32 >>> ((24 : Int32).toUInt32 &&& Int32.toUInt32 31)).toInt32).toInt8 = (v >>> ((24 : Int32) &&& 31)).toInt8 from u_s8 24 (by omega) v]) (byt_nar _)
    have t2 := t1.snoc (v := vp_nar .byte (((v.toUInt32 >>> ((16 : Int32).toUInt32 &&& Int32.toUInt32 31)).toInt32).toInt8.toInt32)) (w := vp_nar .byte ((v >>> ((16 : Int32) &&& 31)).toInt8.toInt32)) (by omega) (by rw [show ((v.toUInt32 >>> ((16 : Int32).toUInt32 &&& Int32.toUInt32 31)).toInt32).toInt8 = (v >>> ((16 : Int32) &&& 31)).toInt8 from u_s8 16 (by omega) v]) (byt_nar _)
    have t3 := t2.snoc (v := vp_nar .byte (((v.toUInt32 >>> ((8 : Int32).toUInt32 &&& Int32.toUInt32 31)).toInt32).toInt8.toInt32)) (w := vp_nar .byte ((v >>> ((8 : Int32) &&& 31)).toInt8.toInt32)) (by omega) (by rw [show ((v.toUInt32 >>> ((8 : Int32).toUInt32 &&& Int32.toUInt32 31)).toInt32).toInt8 = (v >>> ((8 : Int32) &&& 31)).toInt8 from u_s8 8 (by omega) v]) (byt_nar _)
    have t4 := t3.snoc (v := vp_nar .byte (((v.toUInt32 >>> ((0 : Int32).toUInt32 &&& Int32.toUInt32 31)).toInt32).toInt8.toInt32)) (w := vp_nar .byte ((v >>> ((0 : Int32) &&& 31)).toInt8.toInt32)) (by omega) (by rw [show ((v.toUInt32 >>> ((0 : Int32).toUInt32 &&& Int32.toUInt32 31)).toInt32).toInt8 = (v >>> ((0 : Int32) &&& 31)).toInt8 from u_s8 0 (by omega) v]) (byt_nar _)
    exact t4
  · exact (((((((FX.rfl.u2 (by decide) _ _).u2 (by decide) _ _).u2 (by decide) _ _).u2 (by decide) _ _).u2 (by decide) _ _).u2 (by decide) _ _).u2 (by decide) _ _).u2 (by decide) _ _
  · exact ((((((((FY.rfl).u2 (nwr (N := 600) (by decide) rfl (by omega)) _).u2 (nwr (N := 1) (by decide) rfl (by omega)) _).u2 (nwr (N := 600) (by decide) rfl (by omega)) _).u2 (nwr (N := 1) (by decide) rfl (by omega)) _).u2 (nwr (N := 600) (by decide) rfl (by omega)) _).u2 (nwr (N := 1) (by decide) rfl (by omega)) _).u2 (nwr (N := 600) (by decide) rfl (by omega)) _).u2 (nwr (N := 1) (by decide) rfl (by omega)) _
theorem FX.trans {X X' X'' : Nat → Nat → Int32} (h : FX X X') (g : FX X' X'') : FX X X'' := fun a ha => by rw [g a ha, h a ha]
theorem pp_feed (z : St c q m n D H B l h X Y) (L L' : Nat → Nat → Int64) (xa xl : Nat → Nat) (a b d e f : Int32) : Ok c n X Y (xFeed X L xa xl n m q a b d e f).2 (yFeed Y L' n m q a b d e f).2 (xFeed X L xa xl n m q a b d e f).1 (yFeed Y L' n m q a b d e f).1 := by
  obtain ⟨h1, h2, h3, h4, h5, h6, h7, h8, h9, h10, h11, h12, h13, h14, g1, g2, g3, g4, g5, g6, g7, g8, g9, g10, g11⟩ := z.1
  have h600 := z.2.2.2.2.1.1
  unfold xFeed yFeed
  rw [h7, g7, show nI l + 20 = nI (l + 20) from nI_add l 20]
  by_cases i : nI (l + 20) ≤ (600 : Int32)
  · rw [if_pos i, if_pos i]
    rw [Int32.le_iff_toInt_le, nI_toInt (by omega), toI_600] at i
    obtain ⟨z1, x1, y1⟩ := (z.nx.c61 0 0).fd4 (by omega) a
    obtain ⟨z2, x2, y2⟩ := z1.fd4 (by omega) b
    obtain ⟨z3, x3, y3⟩ := z2.fd4 (by omega) d
    obtain ⟨z4, x4, y4⟩ := z3.fd4 (by omega) e
    obtain ⟨z5, x5, y5⟩ := z4.fd4 (by omega) f
    refine ⟨?_, x1.trans (x2.trans (x3.trans (x4.trans x5))), (FY.rfl.u2 n61 0).trans (y1.trans (y2.trans (y3.trans (y4.trans y5)))), q, m, D, H, B, _, h, z5⟩
    have w := z5.1
    rw [w.2.2.2.2.2.2.1]
    exact (w.2.2.2.2.2.2.2.2.2.2.2.2.2.2.2.2.2.2.2.2.1).symm
  · rw [if_neg i, if_neg i]; exact z.ok0 rfl
/-- the creditors of one, by LIVE DEBTS -/
theorem cred_eq {X Y : Nat → Nat → Int32} {m : Nat} (L L' : Nat → Nat → Int64) (hm : X 16 0 = nI m) (hb : m ≤ 40) (e87 : Rw m (Y 87) (X 17)) (e88 : Rw m (Y 88) (X 18)) (e94 : Rw m (Y 94) (X 24)) (p : Nat) : credOf_it X L (nI p) m = lb_it Y L' p m := by
  refine itr_cg (fun j s hj => ?_)
  unfold credOf_st lb_st
  rw [owes_at hm hb hj, nI_clamp (by omega), e87 j hj, e88 j hj, e94 j hj]
  by_cases e : X 24 j = 0 <;> by_cases e2 : X 17 j = nI p <;> simp [e, e2]
theorem drop_eq {X Y : Nat → Nat → Int32} {m q : Nat} (L L' : Nat → Nat → Int64) (hm : X 16 0 = nI m) (hb : m ≤ 40) (hq : q ≤ 12) (e80 : Rw q (Y 80) (X 12)) (e87 : Rw m (Y 87) (X 17)) (e88 : Rw m (Y 88) (X 18)) (e94 : Rw m (Y 94) (X 24)) : ∀ k, k ≤ q → Rw q (lgo_it Y L' m k) (drop_it X L m k) := by
  intro k
  induction k with
  | zero => intro _; exact e80
  | succ k ih =>
    intro hk
    have h := ih (by omega)
    rw [lgo_it_s, drop_it_s]
    unfold lgo_st drop_st
    rw [nI_clamp (by omega), show credOf_it (up1 X 12 (drop_it X L m k)) L (nI k) m = credOf_it X L (nI k) m from rfl, cred_eq L L' hm hb e87 e88 e94 k, h k (by omega)]
    by_cases e : drop_it X L m k k = 0
    · rw [if_pos e, e]
      intro j hj
      by_cases e2 : j = k
      · subst e2; rw [upr_at, e, Int32.zero_and]
      · rw [upr_ne e2]; exact h j hj
    · rw [if_neg e]; exact h.up _ _
theorem lgo_big {Y : Nat → Nat → Int32} {m : Nat} (L' : Nat → Nat → Int64) {j : Nat} : ∀ k, k ≤ 12 → k ≤ j → lgo_it Y L' m k j = Y 80 j := by
  intro k
  induction k with
  | zero => intro _ _; rfl
  | succ k ih =>
    intro hk hj
    rw [lgo_it_s]
    unfold lgo_st
    rw [nI_clamp (by omega), upr_ne (by omega)]
    exact ih (by omega) (by omega)
theorem PE.det {c q : Nat} {D B : Int} {x3 x4 x5 x6 x7 x8 x9 x10 x11 x12 x13 x14 x15 y70 y71 y72 y73 y74 y75 y76 y77 y78 y79 y80 y81 y82 y83 x y : Nat → Int32} (h : PE c q D B x3 x4 x5 x6 x7 x8 x9 x10 x11 x12 x13 x14 x15 y70 y71 y72 y73 y74 y75 y76 y77 y78 y79 y80 y81 y82 y83) (e : Rw q y x) : PE c q D B x3 x4 x5 x6 x7 x8 x9 x10 x11 x x13 x14 x15 y70 y71 y72 y73 y74 y75 y76 y77 y78 y79 y y81 y82 y83 := by
  obtain ⟨e70, e71, e72, e73, e74, e75, e76, e77, e78, e79, e80, bb⟩ := h
  exact ⟨e70, e71, e72, e73, e74, e75, e76, e77, e78, e79, e, bb⟩
/-- the drop on both sides -/
theorem St.drop (z : St c q m n D H B l h X Y) (L L' : Nat → Nat → Int64) : St c q m n D H B l h (up1 X 12 (drop_it X L m q)) (up1 Y 80 (lgo_it Y L' m q)) ∧ FX X (up1 X 12 (drop_it X L m q)) ∧ FY Y (up1 Y 80 (lgo_it Y L' m q)) := by
  have h12 := z.hq.2.1
  obtain ⟨e87, e88, e89, e90, e91, e92, e93, e94, -⟩ := z.2.2.1
  have e := drop_eq L L' z.hq.2.2.1 z.hq.2.2.2.1 h12 z.2.1.2.2.2.2.2.2.2.2.2.2.1 e87 e88 e94 q (Nat.le_refl _)
  exact ⟨⟨z.1, z.2.1.det e, z.2.2.1, z.2.2.2⟩, FX.rfl.u1 (by decide) _, FY.rfl.u1 (Or.inr ⟨by decide, by decide, fun j hj => lgo_big L' q h12 (Nat.le_trans h12 hj)⟩)⟩
end
