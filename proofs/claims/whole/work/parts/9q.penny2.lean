/-! PARTED: all pennies of a rank -/
theorem pcF_s (J : Nat → Nat → Int32) (L' : Nat → Nat → Int64) (m : Nat) : ∀ (k : Nat) (s : (Nat → Int32) × (Nat → Int64)), pcF J L' m (k + 1) s = pcS J L' m (pcF J L' m k s) := by
  intro k
  induction k with
  | zero => intro s; rfl
  | succ k ih => intro s; rw [show pcF J L' m (k + 1 + 1) s = pcF J L' m (k + 1) (pcS J L' m s) from rfl, ih]; rfl
theorem pcSafe_s (J : Nat → Nat → Int32) (L' : Nat → Nat → Int64) (m : Nat) : ∀ (k : Nat) (s : (Nat → Int32) × (Nat → Int64)), pcSafe J L' m k s → ¬ pd_it J L' (pcF J L' m k s).2 m = -1 → pcSafe J L' m (k + 1) s := by
  intro k
  induction k with
  | zero => intro s _ h; exact ⟨h, trivial⟩
  | succ k ih => intro s h1 h2; exact ⟨h1.1, ih _ h1.2 h2⟩
/-- the sum over the places of one rank -/
def sumR (c : Nat → Int32) (r : Int32) (g : Nat → Int32) : Nat → Int
  | 0 => 0
  | n + 1 => sumR c r g n + (if c n = r then (g n).toInt else 0)
theorem sumR_up (c : Nat → Int32) (r : Int32) (x : Nat → Int32) (k : Nat) (v : Int32) (hk : c k = r) : ∀ q, sumR c r (upr x k v) q = sumR c r x q + (if k < q then v.toInt - (x k).toInt else 0) := by
  intro q
  induction q with
  | zero => rw [if_neg (by omega)]; rfl
  | succ q ih =>
    rw [sumR, sumR, ih]
    by_cases e : q = k
    · subst e; rw [upr_at, if_neg (show ¬ q < q by omega), if_pos hk, if_pos hk, if_pos (show q < q + 1 by omega)]; omega
    · rw [upr_ne e]
      by_cases e2 : k < q
      · rw [if_pos e2, if_pos (show k < q + 1 by omega)]; omega
      · rw [if_neg e2, if_neg (show ¬ k < q + 1 by omega)]; omega
theorem inc_toInt {a : Int32} (h0 : 0 ≤ a.toInt) (h1 : a.toInt < 2 ^ 30) : (a + 1).toInt = a.toInt + 1 := by
  rw [Int32.toInt_add, toI_1]
  exact Int.bmod_eq_of_le (by omega) (by omega)
/-- k pennies -/
def PNY (I J : Nat → Nat → Int32) (L L' : Nat → Nat → Int64) (m : Nat) (A : Int) (c : Nat → Int32) (r : Int32) (g g' : Nat → Int32) (w v : Nat → Int64) (pn : Int32) (k : Nat) : Prop :=
  pcSafe J L' m k (g', v) ∧ RST m (pen_it I L g w pn k).2 (pcF J L' m k (g', v)).2 ∧ Rw m (pcF J L' m k (g', v)).1 (pen_it I L g w pn k).1 ∧ (∀ j, (pen_it I L g w pn k).1 j = g j ∧ (pen_it I L g w pn k).2 j = w j ∨ j < m ∧ 0 < (w j).toInt ∧ (pen_it I L g w pn k).1 j = g j + 1 ∧ (pen_it I L g w pn k).2 j = 0) ∧ sumW w m - A * (k : Int) ≤ sumW (pen_it I L g w pn k).2 m ∧ sumR c r (pen_it I L g w pn k).1 m = sumR c r g m + (k : Int)
theorem pennies (I J : Nat → Nat → Int32) (L L' : Nat → Nat → Int64) {m : Nat} (hm : m ≤ 40) {A : Int} (hA : 0 < A) {c : Nat → Int32} {r : Int32} {g g' : Nat → Int32} {w v : Nat → Int64} (pn : Int32) (h : RST m w v) (hg : Rw m g' g) (hb : ∀ j, j < m → (w j).toInt < A) (hc : ∀ j, j < m → 0 < (w j).toInt → c j = r ∧ 0 ≤ (g j).toInt ∧ (g j).toInt < 2 ^ 30) : ∀ k : Nat, A * (k : Int) ≤ sumW w m → PNY I J L L' m A c r g g' w v pn k := by
  intro k
  induction k with
  | zero => intro _; exact ⟨trivial, h, hg, fun j => Or.inl ⟨rfl, rfl⟩, by show _ ≤ sumW w m; simp, by show sumR c r g m = _; simp⟩
  | succ k ih =>
    intro hk
    have e1 : A * ((k + 1 : Nat) : Int) = A * (k : Int) + A := by rw [Int.natCast_succ, Int.mul_add, Int.mul_one]
    obtain ⟨b1, b2, b3, b4, b5, b6⟩ := ih (by omega)
    obtain ⟨i, c1, c2, c3, c4⟩ := same_one I J L L' hm b2 (by omega)
    have ei : (pen_it I L g w pn k).1 i = g i ∧ (pen_it I L g w pn k).2 i = w i := by
      rcases b4 i with y | y
      · exact y
      · rw [y.2.2.2, toL_0] at c4; omega
    have wi : 0 < (w i).toInt := by rw [← ei.2]; exact c4
    obtain ⟨d1, d2, d3⟩ := hc i c1 wi
    have nci : (nI i).toNatClampNeg = i := nI_clamp (by omega)
    have sP : pen_it I L g w pn (k + 1) = (upr (pen_it I L g w pn k).1 i ((pen_it I L g w pn k).1 i + 1), upr (pen_it I L g w pn k).2 i 0) := by
      rw [pen_it_s]; unfold pen_st; rw [c2, nci]
    have sF : pcF J L' m (k + 1) (g', v) = (upr (pcF J L' m k (g', v)).1 i ((pcF J L' m k (g', v)).1 i + 1), upr (pcF J L' m k (g', v)).2 i (-1)) := by
      rw [pcF_s]; unfold pcS; rw [c3, nci]
    unfold PNY
    rw [sP, sF]
    refine ⟨pcSafe_s J L' m k _ b1 ?_, ⟨fun j hj => ?_, fun j hj hj2 => ?_⟩, ?_, fun j => ?_, ?_, ?_⟩
    · rw [c3, ← Int32.toInt_inj, nI_toInt (by omega), toI_m1]; omega
    · show 0 ≤ (upr (pen_it I L g w pn k).2 i 0 j).toInt ∧ (upr (pcF J L' m k (g', v)).2 i (-1) j = upr (pen_it I L g w pn k).2 i 0 j ∨ _)
      by_cases e : j = i
      · subst e; rw [upr_at, upr_at]; exact ⟨by decide, Or.inr ⟨upr_at _ _ _, upr_at _ _ _⟩⟩
      · have q := b2.1 j hj
        show _ ∧ (_ ∨ (upr (pcF J L' m k (g', v)).2 i (-1) j = -1 ∧ upr (pen_it I L g w pn k).2 i 0 j = 0))
        rw [upr_ne e, upr_ne e]; exact q
    · show upr (pen_it I L g w pn k).2 i 0 j = 0
      rw [upr_ne (by omega)]; exact b2.2 j hj hj2
    · exact b3.up2 (by rw [b3 i c1])
    · show upr (pen_it I L g w pn k).1 i ((pen_it I L g w pn k).1 i + 1) j = g j ∧ upr (pen_it I L g w pn k).2 i 0 j = w j ∨ j < m ∧ 0 < (w j).toInt ∧ upr (pen_it I L g w pn k).1 i ((pen_it I L g w pn k).1 i + 1) j = g j + 1 ∧ upr (pen_it I L g w pn k).2 i 0 j = 0
      by_cases e : j = i
      · subst e; right; rw [upr_at, upr_at, ei.1]; exact ⟨c1, wi, rfl, rfl⟩
      · rw [upr_ne e, upr_ne e]; exact b4 j
    · show _ ≤ sumW (upr (pen_it I L g w pn k).2 i 0) m
      rw [sumW_up, if_pos c1, toL_0, ei.2]
      have := hb i c1
      omega
    · show sumR c r (upr (pen_it I L g w pn k).1 i ((pen_it I L g w pn k).1 i + 1)) m = _
      rw [sumR_up c r _ i _ d1, if_pos c1, b6, ei.1, inc_toInt d2 d3, Int.natCast_succ]
      omega
