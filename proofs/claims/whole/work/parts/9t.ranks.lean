/-! PARTED: all ranks -/
theorem sh_lt {c x : Int32} {A : Int64} (hc : 0 ≤ c.toInt ∧ c.toInt ≤ 50000000) (hx : 0 ≤ x.toInt) (hA : x.toInt < A.toInt) (hA2 : A.toInt ≤ 2000000000) (h : 0 < (RS c x A).toInt) : (SH c x A).toInt + 1 ≤ c.toInt := by
  obtain ⟨h1, h2, h3, h4, h5⟩ := sh_val hc hx hA hA2
  refine Classical.byContradiction fun y => ?_
  have e : (SH c x A).toInt = c.toInt := by omega
  rw [e] at h5
  have h6 : c.toInt * x.toInt ≤ c.toInt * A.toInt := Int.mul_le_mul_of_nonneg_left (by omega) hc.1
  omega
theorem sumW_le {w : Nat → Int64} {B : Int} : ∀ {m : Nat}, (∀ j, j < m → (w j).toInt ≤ B) → sumW w m ≤ B * (m : Int) := by
  intro m
  induction m with
  | zero => intro _; show (0 : Int) ≤ _; simp
  | succ m ih =>
    intro h
    have h1 := ih (fun j hj => h j (by omega))
    have h2 := h m (by omega)
    rw [sumW, Int.natCast_succ, Int.mul_add, Int.mul_one]; omega
theorem sumW_nn {w : Nat → Int64} : ∀ {m : Nat}, (∀ j, j < m → 0 ≤ (w j).toInt) → 0 ≤ sumW w m := by
  intro m
  induction m with
  | zero => intro _; exact Int.le_refl _
  | succ m ih =>
    intro h
    have h1 := ih (fun j hj => h j (by omega))
    have h2 := h m (by omega)
    rw [sumW]; omega
def RK (I : Nat → Nat → Int32) (m : Nat) (k x : Int32) (g : Nat → Int32) (R : Int32 × (Nat → Int32) × (Nat → Int64)) (F : Nat → Int32) : Prop := Rw m F R.2.1 ∧ (∀ j, j < m → ¬ I 20 j = k → R.2.1 j = g j) ∧ (∀ j, j < m → I 20 j = k → 0 ≤ (R.2.1 j).toInt ∧ (R.2.1 j).toInt ≤ (I 53 j).toInt) ∧ (∀ j, m ≤ j → j < 40 → R.2.2 j = 0) ∧ R.1.toInt = sumR (I 20) k R.2.1 m ∧ R.1.toInt ≤ x.toInt
theorem rank_eq (I J : Nat → Nat → Int32) (L L' : Nat → Nat → Int64) {m : Nat} (hm : m ≤ 40) (e90 : Rw m (J 90) (I 20)) (e125 : Rw m (J 125) (I 53)) (hb : Bw m (I 53) 0 50000000) (k x : Int32) (hx : 0 ≤ x.toInt) {g g' : Nat → Int32} {w : Nat → Int64} (v : Nat → Int64) (hg : Rw m g' g) (h0 : ∀ j, j < m → I 20 j = k → g j = 0) (hw : ∀ j, m ≤ j → j < 40 → w j = 0) : rkSafe J L' m g' v k x ∧ RK I m k x g (pRank I L m g w k x) (rkF J L' m g' v k x).1 := by
  have eA := pa_dr I J L L' k m hm e90 e125
  have sA := dr_sum I L k m hm hb
  have sB := sumR_b (I 20) k (I 53) 50000000 (by omega) m hb
  have hb' : Bw m (J 125) 0 50000000 := fun j hj => by rw [e125 j hj]; exact hb j hj
  unfold rkSafe pRank rkF
  rw [eA]
  generalize dr_it I L k m = A at sA
  by_cases a : A.toInt ≤ x.toInt
  · have a1 : lg_cmp A x.toInt64 ≤ 0 := by rw [lg_le, i64_of]; exact a
    have a2 : ¬ 0 < lg_cmp A x.toInt64 := by rw [lg_cmp_gt, Int64.lt_iff_toInt_lt, i64_of]; omega
    have a3 : ¬ lg_cmp x.toInt64 A < 0 := by rw [lg_ltz, i64_of]; omega
    rw [if_pos a1, if_neg a2]
    refine ⟨⟨hx, fun y => absurd a1 y⟩, ?_, ?_, ?_, hw, ?_, ?_⟩
    · intro j hj
      show (pb_it J L' g' v k x A m).2.1 j = de_it I L g k m j
      rw [pb_en J L' g' v k x A a3 m hm j, de_at I L g k m hm j, e90 j hj, e125 j hj]
      by_cases e : I 20 j = k
      · rw [if_pos (show j < m ∧ I 20 j = k from ⟨hj, e⟩)]
        by_cases c : I 53 j ≤ 0
        · rw [if_neg (show ¬ (j < m ∧ I 20 j = k ∧ ¬ I 53 j ≤ 0) from fun y => y.2.2 c), hg j hj, h0 j hj e]
          rw [le0_Z] at c
          exact Int32.toInt_inj.mp (by have := (hb j hj).1; rw [toI_0]; omega)
        · rw [if_pos (show j < m ∧ I 20 j = k ∧ ¬ I 53 j ≤ 0 from ⟨hj, e, c⟩)]
      · rw [if_neg (show ¬ (j < m ∧ I 20 j = k) from fun y => e y.2), if_neg (show ¬ (j < m ∧ I 20 j = k ∧ ¬ I 53 j ≤ 0) from fun y => e y.2.1)]
        exact hg j hj
    · intro j hj e
      show de_it I L g k m j = g j
      rw [de_at I L g k m hm j, if_neg (fun y => e y.2)]
    · intro j hj e
      show 0 ≤ (de_it I L g k m j).toInt ∧ (de_it I L g k m j).toInt ≤ _
      rw [de_at I L g k m hm j, if_pos ⟨hj, e⟩]
      exact ⟨(hb j hj).1, Int.le_refl _⟩
    · show A.toInt32.toInt = sumR (I 20) k (de_it I L g k m) m
      rw [to32 (by omega) (by omega), sA]
      exact sumR_cg (fun j hj => ⟨rfl, fun e => by rw [de_at I L g k m hm j, if_pos ⟨hj, e⟩]⟩)
    · show A.toInt32.toInt ≤ _
      rw [to32 (by omega) (by omega)]; exact a
  · have a1 : ¬ lg_cmp A x.toInt64 ≤ 0 := by rw [lg_le, i64_of]; exact a
    have a2 : 0 < lg_cmp A x.toInt64 := by rw [lg_cmp_gt, Int64.lt_iff_toInt_lt, i64_of]; omega
    have a3 : lg_cmp x.toInt64 A < 0 := by rw [lg_ltz, i64_of]; omega
    have a4 : ¬ lg_cmp A 0 ≤ 0 := by rw [lg_le, toL_0]; omega
    have hA : x.toInt < A.toInt := by omega
    have hA2 : A.toInt ≤ 2000000000 := by omega
    rw [if_neg a1, if_pos a2]
    have c1 := cut_sum I L g w k x A hx hA hA2 m hm hb
    have c2 := cut_at I L g w k x A a4 m hm
    have c3 := pb_sum J L' g' v k x A hx hA hA2 m hm hb'
    have c4 := pb_at J L' g' v k x A a3 m hm
    have c5 := cut_id (I 20) (I 53) k x A hx hA hA2 m hb
    have c6 : sumR (J 90) k (fun j => SH (J 125 j) x A) m = sumR (I 20) k (fun j => SH (I 53 j) x A) m := sumR_cg (fun j hj => ⟨e90 j hj, fun _ => by rw [e125 j hj]⟩)
    rw [c6] at c3
    rw [← sA] at c5
    have c7 : sumW (cut_it I L g w k x A m).2.2 m = sumW (fun j => if I 20 j = k then RS (I 53 j) x A else 0) m := sumW_cg (fun j hj => by rw [c2.2 j, if_pos hj])
    have c8 : sumR (I 20) k (cut_it I L g w k x A m).2.1 m = sumR (I 20) k (fun j => SH (I 53 j) x A) m := sumR_cg (fun j hj => ⟨rfl, fun e => by rw [c2.1 j, if_pos ⟨hj, e⟩]⟩)
    rw [← c7] at c5
    have w0 : ∀ j, j < m → 0 ≤ ((cut_it I L g w k x A m).2.2 j).toInt ∧ ((cut_it I L g w k x A m).2.2 j).toInt < A.toInt ∧ (0 < ((cut_it I L g w k x A m).2.2 j).toInt → I 20 j = k ∧ ((cut_it I L g w k x A m).2.1 j).toInt + 1 ≤ (I 53 j).toInt) := by
      intro j hj
      have s := sh_val (hb j hj) hx hA hA2
      rw [c2.2 j, if_pos hj, c2.1 j]
      by_cases e : I 20 j = k
      · rw [if_pos e, if_pos (⟨hj, e⟩ : j < m ∧ I 20 j = k)]
        exact ⟨s.2.2.1, s.2.2.2.1, fun y => ⟨e, sh_lt (hb j hj) hx hA hA2 y⟩⟩
      · rw [if_neg e, toL_0]
        exact ⟨by omega, by omega, fun y => by omega⟩
    have g1 : ∀ j, j < m → I 20 j = k → 0 ≤ ((cut_it I L g w k x A m).2.1 j).toInt ∧ ((cut_it I L g w k x A m).2.1 j).toInt ≤ (I 53 j).toInt := by
      intro j hj e
      have s := sh_val (hb j hj) hx hA hA2
      rw [c2.1 j, if_pos ⟨hj, e⟩]
      exact ⟨s.1, s.2.1⟩
    have g2 : ∀ j, j < m → ¬ I 20 j = k → (cut_it I L g w k x A m).2.1 j = g j := fun j hj e => by rw [c2.1 j, if_neg (fun y => e y.2)]
    have rst : RST m (cut_it I L g w k x A m).2.2 (pb_it J L' g' v k x A m).2.2 := by
      refine ⟨fun j hj => ⟨(w0 j hj).1, ?_⟩, fun j h1 h2 => by rw [c2.2 j, if_neg (by omega)]; exact hw j h1 h2⟩
      rw [c4.2 j hj, c2.2 j, if_pos hj, e90 j hj, e125 j hj]
      by_cases e : I 20 j = k
      · rw [if_pos e]
        by_cases c : I 53 j ≤ 0
        · right
          rw [if_neg (fun y => y.2 c)]
          refine ⟨rfl, ?_⟩
          have s := sh_val (hb j hj) hx hA hA2
          rw [le0_Z] at c
          have z : (I 53 j).toInt = 0 := by have := (hb j hj).1; omega
          have s5 := s.2.2.2.2
          have s6 : (SH (I 53 j) x A).toInt = 0 := by omega
          rw [s6, z] at s5
          apply Int64.toInt_inj.mp
          rw [toL_0]; simpa using s5
        · left; rw [if_pos ⟨e, c⟩]
      · right; rw [if_neg e, if_neg (fun y => e y.1)]; exact ⟨rfl, rfl⟩
    have rwg : Rw m (pb_it J L' g' v k x A m).2.1 (cut_it I L g w k x A m).2.1 := by
      intro j hj
      rw [c4.1 j, c2.1 j, e90 j hj, e125 j hj]
      by_cases e : I 20 j = k
      · rw [if_pos (⟨hj, e⟩ : j < m ∧ I 20 j = k)]
        by_cases c : I 53 j ≤ 0
        · rw [if_neg (fun y => y.2.2 c), hg j hj, h0 j hj e]
          have s := sh_val (hb j hj) hx hA hA2
          rw [le0_Z] at c
          exact Int32.toInt_inj.mp (by rw [toI_0]; omega)
        · rw [if_pos ⟨hj, e, c⟩]
      · rw [if_neg (fun y => e y.2.1), if_neg (fun y => e y.2)]
        exact hg j hj
    generalize hS : sumR (I 20) k (fun j => SH (I 53 j) x A) m = S at c1 c3 c5 c8
    have u1 := sumW_nn (w := (cut_it I L g w k x A m).2.2) (m := m) (fun j hj => (w0 j hj).1)
    have u2 := sumW_le (w := (cut_it I L g w k x A m).2.2) (m := m) (B := A.toInt - 1) (fun j hj => by have := (w0 j hj).2.1; omega)
    have u3 : sumW (cut_it I L g w k x A m).2.2 m = A.toInt * (x.toInt - S) := by rw [Int.mul_sub, Int.mul_comm A.toInt S]; omega
    have u4 : 0 ≤ x.toInt - S := by
      refine Classical.byContradiction fun y => ?_
      have : A.toInt * (x.toInt - S) ≤ A.toInt * (-1) := Int.mul_le_mul_of_nonneg_left (by omega) (by omega)
      omega
    have u5 : x.toInt - S ≤ 40 := by
      refine Classical.byContradiction fun y => ?_
      have q1 : A.toInt * 41 ≤ A.toInt * (x.toInt - S) := Int.mul_le_mul_of_nonneg_left (by omega) (by omega)
      have q2 : (A.toInt - 1) * (m : Int) ≤ (A.toInt - 1) * 40 := Int.mul_le_mul_of_nonneg_left (by omega) (by omega)
      omega
    have hxl := Int32.toInt_lt x
    have p1 : (x - (cut_it I L g w k x A m).1).toInt = x.toInt - S := by rw [sub_toInt (by rw [c1]; omega) (by rw [c1]; omega), c1]
    obtain ⟨N, hN, eN⟩ := rng_nI (x := x - (cut_it I L g w k x A m).1) (N := 41) ⟨by omega, by omega⟩
    have p2 : (pb_it J L' g' v k x A m).1 = nI N := by rw [← eN]; exact Int32.toInt_inj.mp (by rw [c3, p1])
    have p3 : (N : Int) = x.toInt - S := by rw [← p1, eN, nI_toInt (by omega)]
    rw [p2, nI_clamp (by omega)]
    obtain ⟨b1, b2, b3, b4, b5, b6⟩ := pennies I J L L' hm (A := A.toInt) (by omega) (c := I 20) (r := k) (nI N) rst rwg (fun j hj => (w0 j hj).2.1) (fun j hj hp => by
      have y := (w0 j hj).2.2 hp
      have z := g1 j hj y.1
      have z2 := hb j hj
      exact ⟨y.1, z.1, by omega⟩) N (by rw [u3, p3]; exact Int.le_refl _)
    have pe : pen I L (cut_it I L g w k x A m).2.1 (cut_it I L g w k x A m).2.2 (x - (cut_it I L g w k x A m).1) = pen_it I L (cut_it I L g w k x A m).2.1 (cut_it I L g w k x A m).2.2 (nI N) N := by
      unfold pen
      rw [eN, nI_clamp (by omega), Nat.min_eq_left (by omega)]
    rw [pe]
    refine ⟨⟨hx, fun _ => b1⟩, b3, ?_, ?_, b2.2, ?_, Int.le_refl _⟩
    · intro j hj e
      show (pen_it I L _ _ (nI N) N).1 j = g j
      rcases b4 j with y | y
      · rw [y.1]; exact g2 j hj e
      · exact absurd ((w0 j hj).2.2 y.2.1).1 e
    · intro j hj e
      show 0 ≤ ((pen_it I L _ _ (nI N) N).1 j).toInt ∧ ((pen_it I L _ _ (nI N) N).1 j).toInt ≤ _
      have z := g1 j hj e
      have z2 := hb j hj
      rcases b4 j with y | y
      · rw [y.1]; exact z
      · have y2 := ((w0 j hj).2.2 y.2.1).2
        rw [y.2.2.1, inc_toInt z.1 (by omega)]
        omega
    · show x.toInt = sumR (I 20) k (pen_it I L _ _ (nI N) N).1 m
      rw [b6, c8]; omega
theorem p1_sum (J : Nat → Nat → Int32) (L' : Nat → Nat → Int64) (g : Nat → Int32) (x : Int32) (i : Nat) (hx : 0 ≤ x.toInt) : ∀ m : Nat, m ≤ 40 → Bw m g 0 50000000 → (p1_it J L' g x i m).toInt = x.toInt - sumR (J 90) (nI i) g m := by
  intro m
  induction m with
  | zero => intro _ _; show x.toInt = _ - 0; omega
  | succ m ih =>
    intro hm h
    have hb : Bw m g 0 50000000 := fun j hj => h j (by omega)
    have h1 := ih (by omega) hb
    have h2 := sumR_b (J 90) (nI i) g 50000000 (by omega) m hb
    have h3 := h m (by omega)
    have hxl := Int32.toInt_lt x
    rw [p1_it_s, sumR]
    unfold p1_st
    rw [nI_clamp (by omega)]
    by_cases e : J 90 m = nI i
    · rw [if_neg (not_not_intro e), if_pos e, sub_toInt (by rw [h1]; omega) (by rw [h1]; omega), h1]; omega
    · rw [if_pos e, if_neg e, sub_toInt (by rw [h1, toI_0]; omega) (by rw [h1, toI_0]; omega), h1, toI_0]; omega
/-- both sides, behind k ranks -/
def PT (I : Nat → Nat → Int32) (m k : Nat) (x : Int32) (s t : Int32 × (Nat → Int32) × (Nat → Int64)) : Prop := s.1 = t.1 ∧ 0 ≤ s.1.toInt ∧ s.1.toInt ≤ x.toInt ∧ Rw m t.2.1 s.2.1 ∧ (∀ j, j < m → 0 ≤ (s.2.1 j).toInt ∧ (s.2.1 j).toInt ≤ (I 53 j).toInt) ∧ (∀ j, j < m → (k : Int) ≤ (I 20 j).toInt → s.2.1 j = 0) ∧ (∀ j, m ≤ j → j < 40 → s.2.2 j = 0) ∧ s.1.toInt + sumZ s.2.1 m = x.toInt
theorem sumZ_0 {g : Nat → Int32} : ∀ {m : Nat}, (∀ j, j < m → g j = 0) → sumZ g m = 0 := by
  intro m
  induction m with
  | zero => intro _; rfl
  | succ m ih => intro h; rw [sumZ, ih (fun j hj => h j (by omega)), h m (by omega), toI_0]; rfl
theorem parted_eq (I J : Nat → Nat → Int32) (L L' : Nat → Nat → Int64) {m : Nat} (hm : m ≤ 40) (e90 : Rw m (J 90) (I 20)) (e125 : Rw m (J 125) (I 53)) (hb : Bw m (I 53) 0 50000000) (x : Int32) (hx : 0 ≤ x.toInt) {g g' : Nat → Int32} {w : Nat → Int64} (v : Nat → Int64) (hg : ∀ j, j < m → g j = 0) (hg' : ∀ j, j < m → g' j = 0) (hw : ∀ j, m ≤ j → j < 40 → w j = 0) : ∀ k, k ≤ 4 → PT I m k x (dv_it I L m g w x k) (p2_it J L' m g' v x k) ∧ ∀ i, i < k → rkSafe J L' m (p2_it J L' m g' v x i).2.1 (p2_it J L' m g' v x i).2.2 (nI i) (p2_it J L' m g' v x i).1 := by
  intro k
  induction k with
  | zero =>
    intro _
    refine ⟨⟨rfl, hx, Int.le_refl _, fun j hj => (hg' j hj).trans (hg j hj).symm, fun j hj => ?_, fun j hj _ => hg j hj, hw, ?_⟩, fun i hi => by omega⟩
    · show 0 ≤ (g j).toInt ∧ (g j).toInt ≤ _
      rw [hg j hj, toI_0]; exact ⟨Int.le_refl _, (hb j hj).1⟩
    · show x.toInt + sumZ g m = _
      rw [sumZ_0 hg]; omega
  | succ k ih =>
    intro hk
    obtain ⟨⟨i1, i2, i3, i4, i5, i6, i7, i8⟩, is⟩ := ih (by omega)
    rw [dv_it_s, p2_it_s]
    have hkk : (nI k).toInt = (k : Int) := nI_toInt (by omega)
    have R := rank_eq I J L L' hm e90 e125 hb (nI k) (dv_it I L m g w x k).1 i2 (v := (p2_it J L' m g' v x k).2.2) i4 (fun j hj e => i6 j hj (by rw [e, hkk]; exact Int.le_refl _)) i7
    rw [i1] at R
    obtain ⟨rs, r1, r2, r3, r4, r5, r6⟩ := R
    unfold dv_st p2_st
    rw [i1]
    have hsh : ∀ j, j < m → 0 ≤ ((pRank I L m (dv_it I L m g w x k).2.1 (dv_it I L m g w x k).2.2 (nI k) (p2_it J L' m g' v x k).1).2.1 j).toInt ∧ ((pRank I L m (dv_it I L m g w x k).2.1 (dv_it I L m g w x k).2.2 (nI k) (p2_it J L' m g' v x k).1).2.1 j).toInt ≤ (I 53 j).toInt := by
      intro j hj
      by_cases e : I 20 j = nI k
      · exact r3 j hj e
      · rw [r2 j hj e]; exact i5 j hj
    have bw : Bw m (rkF J L' m (p2_it J L' m g' v x k).2.1 (p2_it J L' m g' v x k).2.2 (nI k) (p2_it J L' m g' v x k).1).1 0 50000000 := fun j hj => by
      rw [r1 j hj]
      have := hsh j hj
      have := hb j hj
      exact ⟨by omega, by omega⟩
    have p1s := p1_sum J L' (rkF J L' m (p2_it J L' m g' v x k).2.1 (p2_it J L' m g' v x k).2.2 (nI k) (p2_it J L' m g' v x k).1).1 (p2_it J L' m g' v x k).1 k (by rw [← i1]; exact i2) m hm bw
    have sr : sumR (J 90) (nI k) (rkF J L' m (p2_it J L' m g' v x k).2.1 (p2_it J L' m g' v x k).2.2 (nI k) (p2_it J L' m g' v x k).1).1 m = sumR (I 20) (nI k) (pRank I L m (dv_it I L m g w x k).2.1 (dv_it I L m g w x k).2.2 (nI k) (p2_it J L' m g' v x k).1).2.1 m := sumR_cg (fun j hj => ⟨e90 j hj, fun _ => r1 j hj⟩)
    have zr := sumZ_rank (c := I 20) (r := nI k) (g := (pRank I L m (dv_it I L m g w x k).2.1 (dv_it I L m g w x k).2.2 (nI k) (p2_it J L' m g' v x k).1).2.1) (g0 := (dv_it I L m g w x k).2.1) (m := m) (fun j hj => ⟨fun e => i6 j hj (by rw [e, hkk]; exact Int.le_refl _), fun e => r2 j hj e⟩)
    have sn : 0 ≤ sumR (I 20) (nI k) (pRank I L m (dv_it I L m g w x k).2.1 (dv_it I L m g w x k).2.2 (nI k) (p2_it J L' m g' v x k).1).2.1 m := (sumR_b (I 20) (nI k) _ 50000000 (by omega) m (fun j hj => by
      have := hsh j hj
      have := hb j hj
      exact ⟨by omega, by omega⟩)).1
    rw [sr, ← r5] at p1s
    rw [i1] at i2 i3 i8
    have hxl := Int32.toInt_lt x
    generalize hR : pRank I L m (dv_it I L m g w x k).2.1 (dv_it I L m g w x k).2.2 (nI k) (p2_it J L' m g' v x k).1 = R at *
    generalize hF : rkF J L' m (p2_it J L' m g' v x k).2.1 (p2_it J L' m g' v x k).2.2 (nI k) (p2_it J L' m g' v x k).1 = F at *
    have d1 : ((p2_it J L' m g' v x k).1 - R.1).toInt = (p2_it J L' m g' v x k).1.toInt - R.1.toInt := sub_toInt (by omega) (by omega)
    refine ⟨⟨Int32.toInt_inj.mp (d1.trans p1s.symm), ?_, ?_, r1, hsh, ?_, r4, ?_⟩, ?_⟩
    · show 0 ≤ ((p2_it J L' m g' v x k).1 - R.1).toInt
      rw [d1]; omega
    · show ((p2_it J L' m g' v x k).1 - R.1).toInt ≤ _
      rw [d1]; omega
    · intro j hj hg
      show R.2.1 j = 0
      rw [r2 j hj (fun e => by rw [e, hkk] at hg; omega)]
      exact i6 j hj (by omega)
    · show ((p2_it J L' m g' v x k).1 - R.1).toInt + sumZ R.2.1 m = _
      rw [d1, zr, ← r5]; omega
    · intro i hi
      by_cases e : i = k
      · subst e; exact rs
      · exact is i (by omega)
theorem clr_at (I : Nat → Nat → Int32) (L : Nat → Nat → Int64) : ∀ k, k ≤ 40 → ∀ j, j < k → (clr_it I L k).1 j = 0 ∧ (clr_it I L k).2.1 j = 0 ∧ (clr_it I L k).2.2 j = 0 := by
  intro k
  induction k with
  | zero => intro _ j hj; omega
  | succ k ih =>
    intro hk j hj
    rw [clr_it_s]
    unfold clr_st
    rw [nI_clamp (by omega)]
    dsimp only
    by_cases e : j = k
    · subst e; rw [upr_at, upr_at, upr_at]; exact ⟨rfl, rfl, rfl⟩
    · rw [upr_ne e, upr_ne e, upr_ne e]; exact ih (by omega) j (by omega)
theorem p0_at (J : Nat → Nat → Int32) (L' : Nat → Nat → Int64) : ∀ k, k ≤ 40 → ∀ j, j < k → p0_it J L' k j = 0 := by
  intro k
  induction k with
  | zero => intro _ j hj; omega
  | succ k ih =>
    intro hk j hj
    rw [p0_it_s]
    unfold p0_st
    rw [nI_clamp (by omega)]
    by_cases e : j = k
    · subst e; rw [upr_at]
    · rw [upr_ne e]; exact ih (by omega) j (by omega)
