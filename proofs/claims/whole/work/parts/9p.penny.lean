/-! PARTED: pennies to the greatest rests, on both sides -/
theorem gp_max (I : Nat → Nat → Int32) (L : Nat → Nat → Int64) (w : Nat → Int64) : ∀ k, k ≤ 39 → ∃ i, i ≤ k ∧ gp_it I L w k = nI i ∧ (∀ j, j ≤ k → (w j).toInt ≤ (w i).toInt) ∧ ∀ j, j < i → (w j).toInt < (w i).toInt := by
  intro k
  induction k with
  | zero => intro _; exact ⟨0, Nat.le_refl _, rfl, fun j hj => by rw [show j = 0 by omega]; exact Int.le_refl _, fun j hj => by omega⟩
  | succ k ih =>
    intro hk
    obtain ⟨i, h1, h2, h3, h4⟩ := ih (by omega)
    rw [show gp_it I L w (k + 1) = gp_st I L w k (gp_it I L w k) from rfl, h2]
    unfold gp_st
    rw [nI_clamp (by omega), nI_clamp (by omega)]
    by_cases g : lg_cmp (w (k + 1)) (w i) ≤ 0
    · rw [if_pos g]
      rw [lg_le] at g
      refine ⟨i, by omega, rfl, fun j hj => ?_, h4⟩
      by_cases e : j = k + 1
      · subst e; exact g
      · exact h3 j (by omega)
    · rw [if_neg g]
      rw [lg_le] at g
      refine ⟨k + 1, Nat.le_refl _, rfl, fun j hj => ?_, fun j hj => ?_⟩
      · by_cases e : j = k + 1
        · subst e; exact Int.le_refl _
        · have := h3 j (by omega); omega
      · have := h3 j (by omega); omega
theorem lg_ltz (a b : Int64) : lg_cmp a b < 0 ↔ a.toInt < b.toInt := by rw [lg_cmp_lt, Int64.lt_iff_toInt_lt]
theorem toL_0 : (0 : Int64).toInt = 0 := by decide
theorem pd_max (I : Nat → Nat → Int32) (L : Nat → Nat → Int64) (w : Nat → Int64) : ∀ k, k ≤ 40 → (pd_it I L w k = -1 ∧ ∀ j, j < k → (w j).toInt < 0) ∨ ∃ i, i < k ∧ pd_it I L w k = nI i ∧ 0 ≤ (w i).toInt ∧ (∀ j, j < k → (w j).toInt ≤ (w i).toInt) ∧ ∀ j, j < i → (w j).toInt < (w i).toInt := by
  intro k
  induction k with
  | zero => intro _; exact Or.inl ⟨rfl, fun j hj => by omega⟩
  | succ k ih =>
    intro hk
    have h := ih (by omega)
    rw [show pd_it I L w (k + 1) = pd_st I L w k (pd_it I L w k) from rfl]
    unfold pd_st
    rw [nI_clamp (by omega)]
    by_cases g : lg_cmp (w k) 0 < 0
    · rw [if_pos g]
      rw [lg_ltz, toL_0] at g
      rcases h with ⟨h1, h2⟩ | ⟨i, h1, h2, h3, h4, h5⟩
      · left
        refine ⟨h1, fun j hj => ?_⟩
        by_cases e : j = k
        · subst e; exact g
        · exact h2 j (by omega)
      · right
        refine ⟨i, by omega, h2, h3, fun j hj => ?_, h5⟩
        by_cases e : j = k
        · subst e; omega
        · exact h4 j (by omega)
    · rw [if_neg g]
      rw [lg_ltz, toL_0] at g
      rcases h with ⟨h1, h2⟩ | ⟨i, h1, h2, h3, h4, h5⟩
      · rw [if_pos h1]
        right
        refine ⟨k, by omega, rfl, by omega, fun j hj => ?_, fun j hj => ?_⟩
        · by_cases e : j = k
          · subst e; exact Int.le_refl _
          · have := h2 j (by omega); omega
        · have := h2 j (by omega); omega
      · rw [h2, if_neg (show ¬ nI i = -1 by rw [← Int32.toInt_inj, nI_toInt (by omega), toI_m1]; omega), nI_clamp (by omega)]
        right
        by_cases g2 : lg_cmp (w k) (w i) ≤ 0
        · rw [if_pos g2]
          rw [lg_le] at g2
          refine ⟨i, by omega, rfl, h3, fun j hj => ?_, h5⟩
          by_cases e : j = k
          · subst e; exact g2
          · exact h4 j (by omega)
        · rw [if_neg g2]
          rw [lg_le] at g2
          refine ⟨k, by omega, rfl, by omega, fun j hj => ?_, fun j hj => ?_⟩
          · by_cases e : j = k
            · subst e; exact Int.le_refl _
            · have := h4 j (by omega); omega
          · have := h4 j (by omega); omega
/-- rests of both sides: class w (none: 0), reference v (none: -1) -/
def RST (m : Nat) (w v : Nat → Int64) : Prop := (∀ j, j < m → (0 ≤ (w j).toInt ∧ (v j = w j ∨ (v j = -1 ∧ w j = 0)))) ∧ ∀ j, m ≤ j → j < 40 → w j = 0
def sumW (w : Nat → Int64) : Nat → Int
  | 0 => 0
  | n + 1 => sumW w n + (w n).toInt
theorem sumW_up (x : Nat → Int64) (k : Nat) (v : Int64) : ∀ q, sumW (upr x k v) q = sumW x q + (if k < q then v.toInt - (x k).toInt else 0) := by
  intro q
  induction q with
  | zero => rw [if_neg (by omega)]; rfl
  | succ q ih =>
    rw [sumW, sumW, ih]
    by_cases e : q = k
    · subst e; rw [upr_at, if_neg (by omega), if_pos (by omega)]; omega
    · rw [upr_ne e]
      by_cases e2 : k < q
      · rw [if_pos e2, if_pos (by omega)]; omega
      · rw [if_neg e2, if_neg (by omega)]; omega
theorem sumW_pos {w : Nat → Int64} : ∀ {m : Nat}, 0 < sumW w m → ∃ j, j < m ∧ 0 < (w j).toInt := by
  intro m
  induction m with
  | zero => intro h; exact absurd h (Int.lt_irrefl 0)
  | succ m ih =>
    intro h
    rw [sumW] at h
    by_cases e : 0 < (w m).toInt
    · exact ⟨m, by omega, e⟩
    · obtain ⟨j, hj, g⟩ := ih (by omega)
      exact ⟨j, by omega, g⟩
/-- both sides take the same one -/
theorem same_one (I J : Nat → Nat → Int32) (L L' : Nat → Nat → Int64) {m : Nat} (hm : m ≤ 40) {w v : Nat → Int64} (h : RST m w v) (hp : 0 < sumW w m) : ∃ i, i < m ∧ gp_it I L w 39 = nI i ∧ pd_it J L' v m = nI i ∧ 0 < (w i).toInt := by
  obtain ⟨j0, hj0, g0⟩ := sumW_pos hp
  obtain ⟨i, a1, a2, a3, a4⟩ := gp_max I L w 39 (Nat.le_refl _)
  have gi : 0 < (w i).toInt := by have := a3 j0 (by omega); omega
  have him : i < m := by
    refine Classical.byContradiction fun y => ?_
    have := h.2 i (by omega) (by omega)
    rw [this, toL_0] at gi; omega
  have vi : v i = w i := by
    rcases (h.1 i him).2 with y | y
    · exact y
    · rw [y.2, toL_0] at gi; omega
  refine ⟨i, him, a2, ?_, gi⟩
  have vle : ∀ j, j < m → (v j).toInt ≤ (w j).toInt := by
    intro j hj
    rcases (h.1 j hj).2 with y | y
    · rw [y]; exact Int.le_refl _
    · rw [y.1, y.2]; decide
  rcases pd_max J L' v m hm with ⟨b1, b2⟩ | ⟨i', b1, b2, b3, b4, b5⟩
  · have := b2 i him; rw [vi] at this; omega
  · rw [b2]
    have e : i' = i := by
      have c1 := b4 i him
      rw [vi] at c1
      have c2 := vle i' b1
      have c3 := a3 i' (by omega)
      refine Classical.byContradiction fun y => ?_
      rcases Nat.lt_or_ge i' i with u | u
      · have := a4 i' u; omega
      · have := b5 i (by omega); rw [vi] at this; omega
    rw [e]
