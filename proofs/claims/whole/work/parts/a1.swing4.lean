/-! THE SWING: a set more, on both sides -/
section
variable {c q m n D H B l h : Nat} {X Y : Nat → Nat → Int32} {xa xl N : Nat → Nat}
theorem bos_mem (Y : Nat → Nat → Int32) (L : Nat → Nat → Int64) (n m q : Nat) (p r f : Int32) : FY Y (bSo Y L n m q p r f).2 ∧ (∀ a, a ≤ 113 → (bSo Y L n m q p r f).2 a = Y a) ∧ (bSo Y L n m q p r f).2 124 = Y 124 := by
  rw [bSo_mem]
  exact ⟨(FY.rfl.u1 (Or.inl (by decide))).u1 (Or.inl (by decide)), fun a ha => by rw [up1_ne (by omega), up1_ne (by omega)], rfl⟩
theorem zwJ_mem (J : Nat → Nat → Int32) (L : Nat → Nat → Int64) (n m : Nat) (p f b : Int32) (z st : Nat) : FY J (zwJ J L n m p f b z st) ∧ (∀ a, a ≤ 113 → zwJ J L n m p f b z st a = J a) ∧ zwJ J L n m p f b z st 124 = J 124 := by
  obtain ⟨f1, f2⟩ := asI_f2 J L n m p
  unfold zwJ
  exact ⟨(f1.u1 (Or.inl (by decide))).u1 (Or.inl (by decide)), fun a ha => by rw [up1_ne (by omega), up1_ne (by omega)]; exact f2 a ha, rfl⟩
theorem zwB_mem (J : Nat → Nat → Int32) (L : Nat → Nat → Int64) (n m q : Nat) (p f r b : Int32) (z st : Nat) : FY J (zwB J L n m q p f r b z st).2 ∧ (∀ a, a ≤ 113 → (zwB J L n m q p f r b z st).2 a = J a) ∧ (zwB J L n m q p f r b z st).2 124 = J 124 := by
  obtain ⟨f1, f2, f3⟩ := zwJ_mem J L n m p f b z st
  obtain ⟨g1, g2, g3⟩ := bos_mem (zwJ J L n m p f b z st) L n m q p r f
  exact ⟨f1.trans g1, fun a ha => (g2 a ha).trans (f2 a ha), g3.trans f3⟩
theorem SB.low {m z : Nat} {dd : Nat → Nat} {cn0 : Nat → Bool} {wh0 : Nat → Nat} {bu : Bool} {fr : Nat} {b cn : Nat → Bool} {wh : Nat → Nat} (hS : SB m z dd cn0 wh0 bu fr b cn wh) (h0 : ∀ j, j < m → wh0 j < 100) (hf : fr < 100) {j : Nat} (hj : j < m) : wh j < 100 := by
  by_cases e : ∃ i, i < z ∧ dd i = j
  · obtain ⟨i, hi, hd⟩ := e
    rw [((hS j hj).1 i hi hd).2]
    split
    · exact hf
    · exact h0 j hj
  · rw [((hS j hj).2 (fun i hi hd => e ⟨i, hi, hd⟩)).2]; exact h0 j hj
set_option maxHeartbeats 2000000 in
theorem St.swings (z : St c q m n D H B l h X Y) (hc : c ≤ 512) (L L' : Nat → Nat → Int64) {P F : Nat} (hP : P < q) (hF : F < q) (r : Int32) {I : Nat → Nat → Int32} {zz : Nat} {dd : Nat → Nat} (hG : GD I X m q P F zz dd) (e47 : I 47 3 = nI F) (hV1 : I 44 1 = if tlNow Y L' n m (nI P) 6 = 0 then 0 else 1) (hV2 : I 44 2 = tlNow Y L' n m (nI P) 4) (hV3 : I 44 3 = tlNow Y L' n m (nI P) 5) (hs : ∀ p, p < q → (I 46 p = 0 ↔ (decide (nI p = nI F ∨ ¬ r < 1000 - X 33 (12 * p + P))) = false)) (hco : ∀ i, i < zz → I 50 i = thouOf X (due X (nI (dd i)) (X 1 4)) (leastOf X (X 18 (dd i)) (nI P))) (c0 : Int32) (g0 : Nat → Int32) (u0 u1 : Int32) (q0 p0 w0 w1 : Int64) {k : Nat} (hk : k < 1024) {s : Int32 × Int32 × (Nat → Int32) × Int32 × Int32 × Int64 × Int64 × Int64 × Int64} {T : Int32 × Int64 × (Nat → Nat → Int32)} (hI : SWI Y zz q m dd (cnX X P (I 44 1)) (whX X) (decide (¬ I 44 1 = 0)) F (duX X) (fun p => decide (nI p = nI F ∨ ¬ r < 1000 - X 33 (12 * p + P))) (fun i => (I 50 i).toInt64) k s T) : SWI Y zz q m dd (cnX X P (I 44 1)) (whX X) (decide (¬ I 44 1 = 0)) F (duX X) (fun p => decide (nI p = nI F ∨ ¬ r < 1000 - X 33 (12 * p + P))) (fun i => (I 50 i).toInt64) (k + 1) (sf_st I L c0 g0 u0 u1 q0 p0 w0 w1 zz k s) (zwN L' n m q (nI P) (nI F) r (if tlNow Y L' n m (nI P) 6 = 0 then 0 else 1) zz k T) := by
  have h40 := z.hq.2.2.2.1
  have h12 := z.hq.2.1
  have b1 := z.2.2.1.2.2.2.2.2.2.2.2.2.2.2.2.2.2.2.1
  have hcr : ∀ j, j < m → 0 ≤ (X 18 j).toInt ∧ (X 18 j).toInt < q := fun j hj => ⟨(b1 j hj).2.2.1, (b1 j hj).2.2.2.1⟩
  have hw0 : ∀ j, j < m → whX X j < 100 := fun j hj => by
    obtain ⟨w, hw, ew⟩ := rng_nI (x := X 18 j) (N := q) (hcr j hj)
    unfold whX; rw [ew, nI_clamp (by omega)]; omega
  have e44 : I 44 1 = 0 ↔ decide (¬ I 44 1 = 0) = false := by
    by_cases e : I 44 1 = 0
    · simp [e]
    · simp [e]
  obtain ⟨⟨cn, wh, s1, s2, s3⟩, s4, s5, s6, s7⟩ := hI
  -- the class
  have A : ∃ cn wh, SB m zz dd (cnX X P (I 44 1)) (whX X) (decide (¬ I 44 1 = 0)) F (bt (nI k)) cn wh ∧ Tally q m cn wh (duX X) (fun p => decide (nI p = nI F ∨ ¬ r < 1000 - X 33 (12 * p + P))) (chs I L zz k s).1 (chs I L zz k s).2.1 (chs I L zz k s).2.2.1 (chs I L zz k s).2.2.2.2.1 (chs I L zz k s).2.2.2.2.2 ∧ (chs I L zz k s).2.2.2.1 = cstB (fun i => (I 50 i).toInt64) (bt (nI k)) zz := by
    unfold chs
    by_cases cc : nI k ≤ 0
    · have k0 : k = 0 := by rw [le0_Z, nI_toInt (by omega)] at cc; omega
      subst k0
      rw [if_pos cc]
      exact ⟨cn, wh, s1, s2, s3⟩
    · have k1 : 1 ≤ k := by rw [le0_Z, nI_toInt (by omega)] at cc; omega
      rw [if_neg cc, nI_p1 k1]
      obtain ⟨cn2, wh2, w1, w2, w3⟩ := ch_t (I := up2 I 47 1 s.2.1) (X := X) (m := m) (q := q) (P := P) (fr := F) (z := zz) (dd := dd) (up2 L 47 0 s.2.2.2.2.2.1) hG h12 h40 hF e47 hcr hs (bu := decide (¬ I 44 1 = 0)) e44 (a := nI (k - 1)) (b := nI k) s1 s2 s3 zz (Nat.le_refl _)
      exact ⟨cn2, wh2, w1.cgb (fun i hi => by rw [if_pos hi]), w2, w3.trans (cstB_cg (fun i hi => ⟨by rw [if_pos hi], rfl⟩))⟩
  obtain ⟨cn2, wh2, a1, a2, a3⟩ := A
  -- the reference
  have hrel : ∀ a, relR a → T.2.2 a = Y a := fun a ha => s5 a (by unfold relR at ha; omega)
  have tJ : ∀ w, tlNow T.2.2 L' n m (nI P) w = tlNow Y L' n m (nI P) w := fun w => tlNow_cg hrel L' n m (nI P) w
  obtain ⟨f1, f2⟩ := asI_f2 T.2.2 L' n m (nI P)
  have fA : ∀ a, a ≤ 113 → asI T.2.2 L' n m (nI P) a = Y a := fun a ha => (f2 a ha).trans (s5 a ha)
  have zA := z.cgY (Y' := asI T.2.2 L' n m (nI P)) (fun a _ g2 => fA a (by omega))
  obtain ⟨hz, hd, inj⟩ := hG
  have aa := as_at (Y := up1 T.2.2 121 (lookG (T.2.2 121) T.2.2 L' (nI P) m)) L' (nI P) (if tlNow T.2.2 L' n m (nI P) 6 = 0 then 0 else 1) m h40
  have e87 : Rw m (T.2.2 87) (X 17) := fun j hj => by rw [s5 87 (by decide)]; exact z.2.2.1.1 j hj
  have e88 : Rw m (T.2.2 88) (X 18) := fun j hj => by rw [s5 88 (by decide)]; exact z.2.2.1.2.1 j hj
  have e94 : Rw m (T.2.2 94) (X 24) := fun j hj => by rw [s5 94 (by decide)]; exact z.2.2.1.2.2.2.2.2.2.2.1 j hj
  have e99 : Rw m (T.2.2 99) (X 29) := fun j hj => by rw [s5 99 (by decide)]; exact z.2.2.1.2.2.2.2.2.2.2.2.2.2.2.2.1 j hj
  have h0 : ∀ j, j < m → (asI T.2.2 L' n m (nI P) 123 j = 0 ↔ cnX X P (I 44 1) j = false) ∧ asI T.2.2 L' n m (nI P) 122 j = nI (whX X j) := by
    intro j hj
    obtain ⟨v1, v2⟩ := aa j hj
    refine ⟨?_, ?_⟩
    · show (as_it (up1 T.2.2 121 (lookG (T.2.2 121) T.2.2 L' (nI P) m)) L' (nI P) (if tlNow T.2.2 L' n m (nI P) 6 = 0 then 0 else 1) m).2 j = 0 ↔ _
      rw [v2]
      show (if T.2.2 94 j = 0 ∧ T.2.2 87 j = nI P ∧ (¬ (if tlNow T.2.2 L' n m (nI P) 6 = 0 then (0 : Int32) else 1) = 0 ∨ T.2.2 99 j = 0) then (1 : Int32) else 0) = 0 ↔ decide (X 24 j = 0 ∧ X 17 j = nI P ∧ (¬ I 44 1 = 0 ∨ X 29 j = 0)) = false
      rw [e94 j hj, e87 j hj, e99 j hj, tJ, ← hV1]
      by_cases C : X 24 j = 0 ∧ X 17 j = nI P ∧ (¬ I 44 1 = 0 ∨ X 29 j = 0)
      · rw [if_pos C, decide_eq_true C]; exact ⟨fun y => absurd y one_nz, fun y => by cases y⟩
      · rw [if_neg C, decide_eq_false C]; exact ⟨fun _ => rfl, fun _ => rfl⟩
    · show (as_it (up1 T.2.2 121 (lookG (T.2.2 121) T.2.2 L' (nI P) m)) L' (nI P) (if tlNow T.2.2 L' n m (nI P) 6 = 0 then 0 else 1) m).1 j = _
      rw [v1]
      show T.2.2 88 j = nI (X 18 j).toNatClampNeg
      rw [e88 j hj]
      obtain ⟨w, hw, ew⟩ := rng_nI (x := X 18 j) (N := q) (hcr j hj)
      rw [ew, nI_clamp (by omega)]
  have hcost : ∀ i, i < zz → (((dueR (asI T.2.2 L' n m (nI P)) (nI (dd i))).toInt64) * ((asI T.2.2 L' n m (nI P) 85 ((((12 : Int32) * (asI T.2.2 L' n m (nI P) 88 (dd i))) + nI P).toNatClampNeg)).toInt64)) / (1000 : Int64) = (I 50 i).toInt64 := by
    intro i hi
    have d1 := (hd i hi).1
    obtain ⟨w, hw, ew⟩ := rng_nI (x := X 18 (dd i)) (N := q) (hcr _ d1)
    have db := z.dueB hc d1
    have le := (z.2.2.2.1 w P (by omega) (by omega))
    rw [← zA.dueE d1, fA 88 (by decide), fA 85 (by decide), z.2.2.1.2.1 _ d1, ew, k12', nI_clamp (by omega), le.1 hw hP, hco i hi, ew]
    have el : leastOf X (nI w) (nI P) = 1000 - X 33 (12 * w + P) := by unfold leastOf; rw [k12, nI_clamp (by omega)]
    rw [el]
    have er : ((1000 : Int32) - X 33 (12 * w + P)).toInt = 1000 - (X 33 (12 * w + P)).toInt := by rw [sub_toInt (by rw [toI_1000]; omega) (by rw [toI_1000]; omega), toI_1000]
    have th := thou_toInt (x := due X (nI (dd i)) (X 1 4)) (r := (1000 : Int32) - X 33 (12 * w + P)) ⟨db.1, by omega⟩ (by rw [er]; omega) X
    exact Int64.toInt_inj.mp (by rw [th.2.2.2, i64_of, th.1])
  obtain ⟨cn3, wh3, r1, r2, r3⟩ := si_t (J := asI T.2.2 L' n m (nI P)) (X := X) (m := m) (P := P) (fr := F) (z := zz) (st := k) (dd := dd) L' hz (fun i hi => ⟨(hd i hi).1, s6 i hi⟩) inj h40 h0 (bu := decide (¬ I 44 1 = 0)) (bv := if tlNow Y L' n m (nI P) 6 = 0 then 0 else 1) (by
    rw [hV1]
    by_cases e : tlNow Y L' n m (nI P) 6 = 0
    · rw [if_pos e]; decide
    · rw [if_neg e]; decide) hcost zz (Nat.le_refl _)
  have r1' := r1.cgb (b' := bt (nI k)) (fun i hi => by rw [decide_eq_true hi, Bool.true_and])
  have r3' : (zwC T.2.2 L' n m (nI P) (nI F) (if tlNow Y L' n m (nI P) 6 = 0 then 0 else 1) zz k).1 = cstB (fun i => (I 50 i).toInt64) (bt (nI k)) zz := r3.trans (cstB_cg (fun i hi => ⟨by rw [decide_eq_true hi, Bool.true_and], rfl⟩))
  have ecost : (zwC T.2.2 L' n m (nI P) (nI F) (if tlNow Y L' n m (nI P) 6 = 0 then 0 else 1) zz k).1 = (chs I L zz k s).2.2.2.1 := r3'.trans a3.symm
  have a2' := a2.cg (cn' := cn3) (wh' := wh3) (fun j hj => ⟨(a1.uniq r1' hj).1, fun _ => (a1.uniq r1' hj).2⟩)
  obtain ⟨zj1, zj2, zj3⟩ := zwJ_mem T.2.2 L' n m (nI P) (nI F) (if tlNow Y L' n m (nI P) 6 = 0 then 0 else 1) zz k
  obtain ⟨zb1, zb2, zb3⟩ := zwB_mem T.2.2 L' n m q (nI P) (nI F) r (if tlNow Y L' n m (nI P) 6 = 0 then 0 else 1) zz k
  have eB : (zwB T.2.2 L' n m q (nI P) (nI F) r (if tlNow Y L' n m (nI P) 6 = 0 then 0 else 1) zz k).1 = bnd (chs I L zz k s).2.1 (chs I L zz k s).2.2.1 (I 44 2) (I 44 3) (chs I L zz k s).2.2.2.2.1 (chs I L zz k s).2.2.2.2.2 := by
    obtain ⟨-, t2, t3, t4, t5⟩ := a2'
    rw [t2, t3, t4, t5, hV2, hV3]
    unfold zwB
    rw [bSo_bnd]
    have tz : ∀ w, tlNow (zwJ T.2.2 L' n m (nI P) (nI F) (if tlNow Y L' n m (nI P) 6 = 0 then 0 else 1) zz k) L' n m (nI P) w = tlNow Y L' n m (nI P) w := fun w => tlNow_cg (fun a ha => (zj2 a (by unfold relR at ha; omega)).trans (s5 a (by unfold relR at ha; omega))) L' n m (nI P) w
    rw [tz, tz]
    rw [z.bos L' hP r (nI F) (Y' := up1 (up1 (zwJ T.2.2 L' n m (nI P) (nI F) (if tlNow Y L' n m (nI P) 6 = 0 then 0 else 1) zz k) 121 (lookG ((zwJ T.2.2 L' n m (nI P) (nI F) (if tlNow Y L' n m (nI P) 6 = 0 then 0 else 1) zz k) 121) (zwJ T.2.2 L' n m (nI P) (nI F) (if tlNow Y L' n m (nI P) 6 = 0 then 0 else 1) zz k) L' (nI P) m)) 121 (lookG (lookG ((zwJ T.2.2 L' n m (nI P) (nI F) (if tlNow Y L' n m (nI P) 6 = 0 then 0 else 1) zz k) 121) (zwJ T.2.2 L' n m (nI P) (nI F) (if tlNow Y L' n m (nI P) 6 = 0 then 0 else 1) zz k) L' (nI P) m) (zwJ T.2.2 L' n m (nI P) (nI F) (if tlNow Y L' n m (nI P) 6 = 0 then 0 else 1) zz k) L' (nI P) m)) (fun a g1 g2 => by rw [up1_ne (by omega), up1_ne (by omega)]; exact (zj2 a (by omega)).trans (s5 a (by omega))) (cn := cn3) (wh := wh3) (fun j hj => (r2 j hj).1) (fun j hj _ => ⟨(r2 j hj).2, r1.low hw0 (by omega) hj⟩)]
  rw [sf_eq, ← eB]
  unfold zwN
  generalize hB : (zwB T.2.2 L' n m q (nI P) (nI F) r (if tlNow Y L' n m (nI P) 6 = 0 then 0 else 1) zz k) = Bz at zb1 zb2 zb3
  generalize hC : (zwC T.2.2 L' n m (nI P) (nI F) (if tlNow Y L' n m (nI P) 6 = 0 then 0 else 1) zz k) = Cz at ecost
  generalize hZ : (zwJ T.2.2 L' n m (nI P) (nI F) (if tlNow Y L' n m (nI P) 6 = 0 then 0 else 1) zz k) = Jz at zj1 zj2 zj3
  generalize hch : chs I L zz k s = ch at a1 a2 a3 ecost
  have fin : ∀ (x1 x2 : Int32) (x3 : Int64) (t1 : Int32) (t2 : Int64) (J : Nat → Nat → Int32), ((x1 = 0 ∧ t1 = -1) ∨ (x1 = 1 ∧ (∃ w, w < 1024 ∧ t1 = nI w) ∧ x2 = t1 ∧ x3 = t2)) → FY T.2.2 J → (∀ a, a ≤ 113 → J a = T.2.2 a) → J 124 = T.2.2 124 → SWI Y zz q m dd (cnX X P (I 44 1)) (whX X) (decide (¬ I 44 1 = 0)) F (duX X) (fun p => decide (nI p = nI F ∨ ¬ r < 1000 - X 33 (12 * p + P))) (fun i => (I 50 i).toInt64) (k + 1) (x1, x2, ch.1, ch.2.1, ch.2.2.1, x3, ch.2.2.2.1, ch.2.2.2.2.1, ch.2.2.2.2.2) (t1, t2, J) := fun x1 x2 x3 t1 t2 J g1 g2 g3 g4 => ⟨⟨cn2, wh2, a1, a2, a3⟩, g1, fun a ha => (g3 a ha).trans (s5 a ha), fun i hi => by show J 124 i = _; rw [g4]; exact s6 i hi, s7.trans g2⟩
  unfold pick
  rcases s4 with ⟨y1, y2⟩ | ⟨y1, ⟨w, hw, y2⟩, y3, y4⟩
  · rw [if_pos y1, if_pos y2]
    by_cases g : Bz.1 = 0
    · rw [if_pos g, if_pos g]
      exact fin _ _ _ _ _ _ (Or.inl ⟨y1, y2⟩) zb1 zb2 zb3
    · rw [if_neg g, if_neg g]
      exact fin _ _ _ _ _ _ (Or.inr ⟨rfl, ⟨k, hk, rfl⟩, rfl, ecost.symm⟩) zb1 zb2 zb3
  · rw [if_neg (show ¬ s.1 = 0 by rw [y1]; exact one_nz), if_neg (show ¬ T.1 = -1 by rw [y2, ← Int32.toInt_inj, nI_toInt (by omega), toI_m1]; omega), ecost, y4]
    by_cases g0 : 0 ≤ lg_cmp ch.2.2.2.1 T.2.1
    · rw [if_pos g0, if_pos g0]
      exact fin _ _ _ _ _ _ (Or.inr ⟨y1, ⟨w, hw, y2⟩, y3, rfl⟩) zj1 zj2 zj3
    · rw [if_neg g0, if_neg g0]
      by_cases g : Bz.1 = 0
      · rw [if_pos g, if_pos g]
        exact fin _ _ _ _ _ _ (Or.inr ⟨y1, ⟨w, hw, y2⟩, y3, rfl⟩) zb1 zb2 zb3
      · rw [if_neg g, if_neg g]
        exact fin _ _ _ _ _ _ (Or.inr ⟨rfl, ⟨k, hk, rfl⟩, rfl, rfl⟩) zb1 zb2 zb3
end
