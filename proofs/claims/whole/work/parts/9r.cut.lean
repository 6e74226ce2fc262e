/-! PARTED: the shares of a rank that is cut -/
def SH (c x : Int32) (A : Int64) : Int32 := ((c.toInt64 * x.toInt64) / A).toInt32
def RS (c x : Int32) (A : Int64) : Int64 := (c.toInt64 * x.toInt64) - (c.toInt64 * x.toInt64) / A * A
theorem sh_val {c x : Int32} {A : Int64} (hc : 0 ≤ c.toInt ∧ c.toInt ≤ 50000000) (hx : 0 ≤ x.toInt) (hA : x.toInt < A.toInt) (hA2 : A.toInt ≤ 2000000000) : 0 ≤ (SH c x A).toInt ∧ (SH c x A).toInt ≤ c.toInt ∧ 0 ≤ (RS c x A).toInt ∧ (RS c x A).toInt < A.toInt ∧ (SH c x A).toInt * A.toInt + (RS c x A).toInt = c.toInt * x.toInt := by
  have h1 := mul_b hc.1 hc.2 hx (show x.toInt ≤ 2000000000 by omega)
  have e1 : (c.toInt64 * x.toInt64).toInt = c.toInt * x.toInt := by
    rw [mul_toInt64 (by rw [i64_of, i64_of]; omega) (by rw [i64_of, i64_of]; omega), i64_of, i64_of]
  have e2 : ((c.toInt64 * x.toInt64) / A).toInt = c.toInt * x.toInt / A.toInt := by
    rw [div_toInt64 (by rw [e1]; exact h1.1) (by omega), e1]
  have q0 : 0 ≤ c.toInt * x.toInt / A.toInt := Int.ediv_nonneg h1.1 (by omega)
  have q1 : c.toInt * x.toInt / A.toInt ≤ c.toInt := Int.ediv_le_of_le_mul (by omega) (Int.mul_le_mul_of_nonneg_left (by omega) hc.1)
  have q2 : 0 ≤ c.toInt * x.toInt / A.toInt * A.toInt := Int.mul_nonneg q0 (by omega)
  have q3 : A.toInt * (c.toInt * x.toInt / A.toInt) + c.toInt * x.toInt % A.toInt = c.toInt * x.toInt := Int.mul_ediv_add_emod _ _
  have q4 : 0 ≤ c.toInt * x.toInt % A.toInt := Int.emod_nonneg _ (by omega)
  have q5 : c.toInt * x.toInt % A.toInt < A.toInt := Int.emod_lt_of_pos _ (by omega)
  have q6 : A.toInt * (c.toInt * x.toInt / A.toInt) = c.toInt * x.toInt / A.toInt * A.toInt := Int.mul_comm _ _
  have e3 : ((c.toInt64 * x.toInt64) / A * A).toInt = c.toInt * x.toInt / A.toInt * A.toInt := by
    rw [mul_toInt64 (by rw [e2]; omega) (by rw [e2]; omega), e2]
  have e4 : (SH c x A).toInt = c.toInt * x.toInt / A.toInt := by
    unfold SH
    rw [to32 (by rw [e2]; omega) (by rw [e2]; omega), e2]
  have e5 : (RS c x A).toInt = c.toInt * x.toInt % A.toInt := by
    unfold RS
    rw [Int64.toInt_sub, e1, e3]
    rw [show c.toInt * x.toInt - c.toInt * x.toInt / A.toInt * A.toInt = c.toInt * x.toInt % A.toInt by omega]
    exact Int.bmod_eq_of_le (by omega) (by omega)
  rw [e4, e5]
  exact ⟨q0, q1, q4, q5, by omega⟩
/-- the sum of what is asked in a rank -/
theorem sumR_b (c : Nat → Int32) (r : Int32) (g : Nat → Int32) (B : Int) (hB : 0 ≤ B) : ∀ n : Nat, Bw n g 0 B → 0 ≤ sumR c r g n ∧ sumR c r g n ≤ B * (n : Int) := by
  intro n
  induction n with
  | zero => intro _; exact ⟨Int.le_refl _, by show (0 : Int) ≤ _; simp⟩
  | succ n ih =>
    intro h
    have h1 := ih (fun j hj => h j (by omega))
    have h2 := h n (by omega)
    rw [sumR, Int.natCast_succ, Int.mul_add, Int.mul_one]
    by_cases e : c n = r
    · rw [if_pos e]; omega
    · rw [if_neg e]; omega
theorem dr_sum (I : Nat → Nat → Int32) (L : Nat → Nat → Int64) (k : Int32) : ∀ m : Nat, m ≤ 40 → Bw m (I 53) 0 50000000 → (dr_it I L k m).toInt = sumR (I 20) k (I 53) m := by
  intro m
  induction m with
  | zero => intro _ _; exact toL_0
  | succ m ih =>
    intro hm h
    have h1 := ih (by omega) (fun j hj => h j (by omega))
    have h2 := sumR_b (I 20) k (I 53) 50000000 (by omega) m (fun j hj => h j (by omega))
    have h3 := h m (by omega)
    rw [dr_it_s, sumR]
    unfold dr_st
    rw [nI_clamp (by omega)]
    by_cases e : I 20 m = k
    · rw [if_neg (not_not_intro e), if_pos e, add_toInt64 (by rw [h1, i64_of]; omega) (by rw [h1, i64_of]; omega), h1, i64_of]
    · rw [if_pos e, if_neg e, add_toInt64 (by rw [h1, toL_0]; omega) (by rw [h1, toL_0]; omega), h1, toL_0]
theorem pa_dr (I J : Nat → Nat → Int32) (L L' : Nat → Nat → Int64) (k : Int32) : ∀ m : Nat, m ≤ 40 → Rw m (J 90) (I 20) → Rw m (J 125) (I 53) → pa_it J L' k m = dr_it I L k m := by
  intro m
  induction m with
  | zero => intro _ _ _; exact Eq.trans (b := (0 : Int64)) rfl rfl
  | succ m ih =>
    intro hm h1 h2
    rw [pa_it_s, dr_it_s, ih (by omega) (fun j hj => h1 j (by omega)) (fun j hj => h2 j (by omega))]
    have h3 := h1 m (by omega)
    have h4 := h2 m (by omega)
    unfold pa_st dr_st
    rw [nI_clamp (show m < 2 ^ 31 by omega)]
    by_cases e : I 20 m = k
    · rw [if_neg (not_not_intro e), if_neg (not_not_intro (h3.trans e)), h4]
    · rw [if_pos e, if_pos (fun y => e (h3.symm.trans y))]
/-- the cut, place by place -/
theorem cut_at (I : Nat → Nat → Int32) (L : Nat → Nat → Int64) (g : Nat → Int32) (w : Nat → Int64) (k x : Int32) (A : Int64) (hA : ¬ lg_cmp A 0 ≤ 0) : ∀ q : Nat, q ≤ 40 → (∀ j, (cut_it I L g w k x A q).2.1 j = if j < q ∧ I 20 j = k then SH (I 53 j) x A else g j) ∧ (∀ j, (cut_it I L g w k x A q).2.2 j = if j < q then (if I 20 j = k then RS (I 53 j) x A else 0) else w j) := by
  intro q
  induction q with
  | zero => intro _; exact ⟨fun j => by rw [if_neg (show ¬ (j < 0 ∧ _) from fun y => by omega)]; rfl, fun j => by rw [if_neg (show ¬ j < 0 by omega)]; rfl⟩
  | succ q ih =>
    intro hq
    obtain ⟨h1, h2⟩ := ih (by omega)
    rw [cut_it_s]
    unfold cut_st
    rw [nI_clamp (by omega)]
    by_cases e : I 20 q = k
    · rw [if_neg (not_not_intro e), if_neg hA]
      refine ⟨fun j => ?_, fun j => ?_⟩
      · show upr (cut_it I L g w k x A q).2.1 q (SH (I 53 q) x A) j = _
        by_cases y : j = q
        · subst y; rw [upr_at, if_pos (show j < j + 1 ∧ I 20 j = k from ⟨by omega, e⟩)]
        · rw [upr_ne y, h1 j]
          by_cases z : j < q ∧ I 20 j = k
          · rw [if_pos z, if_pos (show j < q + 1 ∧ I 20 j = k from ⟨by omega, z.2⟩)]
          · rw [if_neg z, if_neg (show ¬ (j < q + 1 ∧ I 20 j = k) from fun u => z ⟨by omega, u.2⟩)]
      · show upr (upr (cut_it I L g w k x A q).2.2 q 0) q (RS (I 53 q) x A) j = _
        by_cases y : j = q
        · subst y; rw [upr_at, if_pos (show j < j + 1 by omega), if_pos e]
        · rw [upr_ne y, upr_ne y, h2 j]
          by_cases z : j < q
          · rw [if_pos z, if_pos (show j < q + 1 by omega)]
          · rw [if_neg z, if_neg (show ¬ j < q + 1 by omega)]
    · rw [if_pos e]
      refine ⟨fun j => ?_, fun j => ?_⟩
      · show (cut_it I L g w k x A q).2.1 j = _
        rw [h1 j]
        by_cases z : j < q ∧ I 20 j = k
        · rw [if_pos z, if_pos (show j < q + 1 ∧ I 20 j = k from ⟨by omega, z.2⟩)]
        · rw [if_neg z, if_neg (show ¬ (j < q + 1 ∧ I 20 j = k) from fun u => z ⟨by rcases Nat.lt_or_ge j q with v | v; exact v; exact absurd ((show j = q by omega) ▸ u.2) e, u.2⟩)]
      · show upr (cut_it I L g w k x A q).2.2 q 0 j = _
        by_cases y : j = q
        · subst y; rw [upr_at, if_pos (show j < j + 1 by omega), if_neg e]
        · rw [upr_ne y, h2 j]
          by_cases z : j < q
          · rw [if_pos z, if_pos (show j < q + 1 by omega)]
          · rw [if_neg z, if_neg (show ¬ j < q + 1 by omega)]
