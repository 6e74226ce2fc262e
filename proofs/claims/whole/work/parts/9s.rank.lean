/-! PARTED: a rank, on both sides -/
theorem sumZ_rank {c : Nat → Int32} {r : Int32} {g g0 : Nat → Int32} : ∀ {m : Nat}, (∀ j, j < m → (c j = r → g0 j = 0) ∧ (¬ c j = r → g j = g0 j)) → sumZ g m = sumZ g0 m + sumR c r g m := by
  intro m
  induction m with
  | zero => intro _; rfl
  | succ m ih =>
    intro h
    have h1 := h m (by omega)
    rw [sumZ, sumZ, sumR, ih (fun j hj => h j (by omega))]
    by_cases e : c m = r
    · rw [if_pos e, h1.1 e, toI_0]; omega
    · rw [if_neg e, h1.2 e]; omega
theorem sumR_cg {c c' : Nat → Int32} {r : Int32} {f g : Nat → Int32} : ∀ {m : Nat}, (∀ j, j < m → c j = c' j ∧ (c j = r → f j = g j)) → sumR c r f m = sumR c' r g m := by
  intro m
  induction m with
  | zero => intro _; rfl
  | succ m ih =>
    intro h
    have h1 := h m (by omega)
    rw [sumR, sumR, ih (fun j hj => h j (by omega)), ← h1.1]
    by_cases e : c m = r
    · rw [if_pos e, if_pos e, h1.2 e]
    · rw [if_neg e, if_neg e]
theorem sumW_cg {f g : Nat → Int64} : ∀ {m : Nat}, (∀ j, j < m → f j = g j) → sumW f m = sumW g m := by
  intro m
  induction m with
  | zero => intro _; rfl
  | succ m ih => intro h; rw [sumW, sumW, ih (fun j hj => h j (by omega)), h m (by omega)]
/-- the cut loses only what the rests hold -/
theorem cut_id (c cl : Nat → Int32) (k x : Int32) (A : Int64) (hx : 0 ≤ x.toInt) (hA : x.toInt < A.toInt) (hA2 : A.toInt ≤ 2000000000) : ∀ n : Nat, Bw n cl 0 50000000 → sumR c k (fun j => SH (cl j) x A) n * A.toInt + sumW (fun j => if c j = k then RS (cl j) x A else 0) n = sumR c k cl n * x.toInt := by
  intro n
  induction n with
  | zero => intro _; show (0 : Int) * _ + 0 = 0 * _; simp
  | succ n ih =>
    intro h
    have h1 := ih (fun j hj => h j (by omega))
    obtain ⟨-, -, -, -, v⟩ := sh_val (h n (by omega)) hx hA hA2
    rw [sumR, sumR, sumW]
    by_cases e : c n = k
    · rw [if_pos e, if_pos e, if_pos e, Int.add_mul, Int.add_mul]; omega
    · rw [if_neg e, if_neg e, if_neg e, toL_0, Int.add_zero, Int.add_zero, Int.add_zero]; exact h1
theorem sh_Bw {cl : Nat → Int32} {x : Int32} {A : Int64} (hx : 0 ≤ x.toInt) (hA : x.toInt < A.toInt) (hA2 : A.toInt ≤ 2000000000) {n : Nat} (h : Bw n cl 0 50000000) : Bw n (fun j => SH (cl j) x A) 0 50000000 := fun j hj => by
  have a := sh_val (h j hj) hx hA hA2
  exact ⟨a.1, Int.le_trans a.2.1 (h j hj).2⟩
theorem cut_sum (I : Nat → Nat → Int32) (L : Nat → Nat → Int64) (g : Nat → Int32) (w : Nat → Int64) (k x : Int32) (A : Int64) (hx : 0 ≤ x.toInt) (hA : x.toInt < A.toInt) (hA2 : A.toInt ≤ 2000000000) : ∀ n : Nat, n ≤ 40 → Bw n (I 53) 0 50000000 → (cut_it I L g w k x A n).1.toInt = sumR (I 20) k (fun j => SH (I 53 j) x A) n := by
  intro n
  induction n with
  | zero => intro _ _; exact toI_0
  | succ n ih =>
    intro hn h
    have hb : Bw n (I 53) 0 50000000 := fun j hj => h j (by omega)
    have h1 := ih (by omega) hb
    have h2 := sumR_b (I 20) k (fun j => SH (I 53 j) x A) 50000000 (by omega) n (sh_Bw hx hA hA2 hb)
    have h3 := sh_val (h n (by omega)) hx hA hA2
    have h4 := (h n (by omega)).2
    have hA3 : ¬ lg_cmp A 0 ≤ 0 := by rw [lg_le, toL_0]; omega
    rw [cut_it_s, sumR]
    unfold cut_st
    rw [nI_clamp (by omega)]
    by_cases e : I 20 n = k
    · rw [if_neg (not_not_intro e), if_neg hA3, if_pos e]
      show ((cut_it I L g w k x A n).1 + (up2 (up1 I 54 _) 54 n (SH (I 53 n) x A)) 54 n).toInt = _
      rw [up2_at, add_toInt (by rw [h1]; omega) (by rw [h1]; omega), h1]
    · rw [if_pos e, if_neg e, Int.add_zero]; exact h1
theorem de_at (I : Nat → Nat → Int32) (L : Nat → Nat → Int64) (g : Nat → Int32) (k : Int32) : ∀ q : Nat, q ≤ 40 → ∀ j, de_it I L g k q j = if j < q ∧ I 20 j = k then I 53 j else g j := by
  intro q
  induction q with
  | zero => intro _ j; rw [if_neg (show ¬ (j < 0 ∧ _) from fun y => by omega)]; rfl
  | succ q ih =>
    intro hq j
    have h := ih (by omega)
    rw [de_it_s]
    unfold de_st
    rw [nI_clamp (by omega)]
    by_cases y : j = q
    · subst y
      rw [upr_at, h j, if_neg (show ¬ (j < j ∧ I 20 j = k) from fun u => by omega)]
      by_cases e : I 20 j = k
      · rw [if_neg (not_not_intro e), if_pos (show j < j + 1 ∧ I 20 j = k from ⟨by omega, e⟩)]
      · rw [if_pos e, if_neg (show ¬ (j < j + 1 ∧ I 20 j = k) from fun u => e u.2)]
    · rw [upr_ne y, h j]
      by_cases z : j < q ∧ I 20 j = k
      · rw [if_pos z, if_pos (show j < q + 1 ∧ I 20 j = k from ⟨by omega, z.2⟩)]
      · rw [if_neg z, if_neg (show ¬ (j < q + 1 ∧ I 20 j = k) from fun u => z ⟨by omega, u.2⟩)]
/-- the reference's cut, place by place -/
theorem pb_at (J : Nat → Nat → Int32) (L' : Nat → Nat → Int64) (g : Nat → Int32) (v : Nat → Int64) (r n : Int32) (A : Int64) (hA : lg_cmp n.toInt64 A < 0) : ∀ q : Nat, q ≤ 40 → (∀ j, (pb_it J L' g v r n A q).2.1 j = if j < q ∧ J 90 j = r ∧ ¬ J 125 j ≤ 0 then SH (J 125 j) n A else g j) ∧ (∀ j, j < q → (pb_it J L' g v r n A q).2.2 j = if J 90 j = r ∧ ¬ J 125 j ≤ 0 then RS (J 125 j) n A else -1) := by
  intro q
  induction q with
  | zero => intro _; exact ⟨fun j => by rw [if_neg (show ¬ (j < 0 ∧ _) from fun y => by omega)]; rfl, fun j hj => by omega⟩
  | succ q ih =>
    intro hq
    obtain ⟨h1, h2⟩ := ih (by omega)
    rw [pb_it_s]
    unfold pb_st
    rw [nI_clamp (by omega)]
    by_cases C : J 90 q = r ∧ ¬ J 125 q ≤ 0
    · rw [if_neg (not_not_intro C.1), if_neg C.2, if_pos hA]
      refine ⟨fun j => ?_, fun j hj => ?_⟩
      · show upr (pb_it J L' g v r n A q).2.1 q (SH (J 125 q) n A) j = _
        by_cases y : j = q
        · subst y; rw [upr_at, if_pos (show j < j + 1 ∧ J 90 j = r ∧ ¬ J 125 j ≤ 0 from ⟨by omega, C⟩)]
        · rw [upr_ne y, h1 j]
          by_cases z : j < q ∧ J 90 j = r ∧ ¬ J 125 j ≤ 0
          · rw [if_pos z, if_pos (show j < q + 1 ∧ J 90 j = r ∧ ¬ J 125 j ≤ 0 from ⟨by omega, z.2⟩)]
          · rw [if_neg z, if_neg (show ¬ (j < q + 1 ∧ J 90 j = r ∧ ¬ J 125 j ≤ 0) from fun u => z ⟨by omega, u.2⟩)]
      · show upr (upr (pb_it J L' g v r n A q).2.2 q (-1)) q (RS (J 125 q) n A) j = _
        by_cases y : j = q
        · subst y; rw [upr_at, if_pos C]
        · rw [upr_ne y, upr_ne y, h2 j (by omega)]
    · have e : (if ¬ J 90 q = r then ((pb_it J L' g v r n A q).1, (pb_it J L' g v r n A q).2.1, upr (pb_it J L' g v r n A q).2.2 q (-1 : Int64)) else if J 125 q ≤ 0 then ((pb_it J L' g v r n A q).1, (pb_it J L' g v r n A q).2.1, upr (pb_it J L' g v r n A q).2.2 q (-1 : Int64)) else if lg_cmp n.toInt64 A < 0 then ((pb_it J L' g v r n A q).1 - (up2 (up1 J 126 (pb_it J L' g v r n A q).2.1) 126 q (SH (J 125 q) n A)) 126 q, upr (pb_it J L' g v r n A q).2.1 q (SH (J 125 q) n A), upr (upr (pb_it J L' g v r n A q).2.2 q (-1 : Int64)) q (RS (J 125 q) n A)) else ((pb_it J L' g v r n A q).1 - (up2 (up1 J 126 (pb_it J L' g v r n A q).2.1) 126 q (J 125 q)) 126 q, upr (pb_it J L' g v r n A q).2.1 q (J 125 q), upr (upr (pb_it J L' g v r n A q).2.2 q (-1 : Int64)) q (-1 : Int64))) = ((pb_it J L' g v r n A q).1, (pb_it J L' g v r n A q).2.1, upr (pb_it J L' g v r n A q).2.2 q (-1 : Int64)) := by
        by_cases c1 : J 90 q = r
        · rw [if_neg (not_not_intro c1), if_pos (Classical.byContradiction fun y => C ⟨c1, y⟩)]
        · rw [if_pos c1]
      refine (fun (P : Int32 × (Nat → Int32) × (Nat → Int64) → Prop) (a b) (hab : a = b) (hb : P b) => (show P a from hab ▸ hb)) (fun s => (∀ j, s.2.1 j = if j < q + 1 ∧ J 90 j = r ∧ ¬ J 125 j ≤ 0 then SH (J 125 j) n A else g j) ∧ (∀ j, j < q + 1 → s.2.2 j = if J 90 j = r ∧ ¬ J 125 j ≤ 0 then RS (J 125 j) n A else -1)) _ _ e ?_
      refine ⟨fun j => ?_, fun j hj => ?_⟩
      · show (pb_it J L' g v r n A q).2.1 j = _
        rw [h1 j]
        by_cases z : j < q ∧ J 90 j = r ∧ ¬ J 125 j ≤ 0
        · rw [if_pos z, if_pos (show j < q + 1 ∧ J 90 j = r ∧ ¬ J 125 j ≤ 0 from ⟨by omega, z.2⟩)]
        · rw [if_neg z, if_neg (show ¬ (j < q + 1 ∧ J 90 j = r ∧ ¬ J 125 j ≤ 0) from fun u => z ⟨by rcases Nat.lt_or_ge j q with v | v; exact v; exact absurd ((show j = q by omega) ▸ u.2) C, u.2⟩)]
      · show upr (pb_it J L' g v r n A q).2.2 q (-1) j = _
        by_cases y : j = q
        · subst y; rw [upr_at, if_neg C]
        · rw [upr_ne y, h2 j (by omega)]
theorem pb_en (J : Nat → Nat → Int32) (L' : Nat → Nat → Int64) (g : Nat → Int32) (v : Nat → Int64) (r n : Int32) (A : Int64) (hA : ¬ lg_cmp n.toInt64 A < 0) : ∀ q : Nat, q ≤ 40 → ∀ j, (pb_it J L' g v r n A q).2.1 j = if j < q ∧ J 90 j = r ∧ ¬ J 125 j ≤ 0 then J 125 j else g j := by
  intro q
  induction q with
  | zero => intro _ j; rw [if_neg (show ¬ (j < 0 ∧ _) from fun y => by omega)]; rfl
  | succ q ih =>
    intro hq j
    have h1 := ih (by omega)
    rw [pb_it_s]
    unfold pb_st
    rw [nI_clamp (by omega)]
    by_cases c1 : J 90 q = r
    · by_cases c2 : J 125 q ≤ 0
      · rw [if_neg (not_not_intro c1), if_pos c2]
        show (pb_it J L' g v r n A q).2.1 j = _
        rw [h1 j]
        by_cases z : j < q ∧ J 90 j = r ∧ ¬ J 125 j ≤ 0
        · rw [if_pos z, if_pos (show j < q + 1 ∧ J 90 j = r ∧ ¬ J 125 j ≤ 0 from ⟨by omega, z.2⟩)]
        · rw [if_neg z, if_neg (show ¬ (j < q + 1 ∧ J 90 j = r ∧ ¬ J 125 j ≤ 0) from fun u => z ⟨by rcases Nat.lt_or_ge j q with v | v; exact v; exact absurd c2 ((show j = q by omega) ▸ u.2.2), u.2⟩)]
      · rw [if_neg (not_not_intro c1), if_neg c2, if_neg hA]
        show upr (pb_it J L' g v r n A q).2.1 q (J 125 q) j = _
        by_cases y : j = q
        · subst y; rw [upr_at, if_pos (show j < j + 1 ∧ J 90 j = r ∧ ¬ J 125 j ≤ 0 from ⟨by omega, c1, c2⟩)]
        · rw [upr_ne y, h1 j]
          by_cases z : j < q ∧ J 90 j = r ∧ ¬ J 125 j ≤ 0
          · rw [if_pos z, if_pos (show j < q + 1 ∧ J 90 j = r ∧ ¬ J 125 j ≤ 0 from ⟨by omega, z.2⟩)]
          · rw [if_neg z, if_neg (show ¬ (j < q + 1 ∧ J 90 j = r ∧ ¬ J 125 j ≤ 0) from fun u => z ⟨by omega, u.2⟩)]
    · rw [if_pos c1]
      show (pb_it J L' g v r n A q).2.1 j = _
      rw [h1 j]
      by_cases z : j < q ∧ J 90 j = r ∧ ¬ J 125 j ≤ 0
      · rw [if_pos z, if_pos (show j < q + 1 ∧ J 90 j = r ∧ ¬ J 125 j ≤ 0 from ⟨by omega, z.2⟩)]
      · rw [if_neg z, if_neg (show ¬ (j < q + 1 ∧ J 90 j = r ∧ ¬ J 125 j ≤ 0) from fun u => z ⟨by rcases Nat.lt_or_ge j q with v | v; exact v; exact absurd ((show j = q by omega) ▸ u.2.1) c1, u.2⟩)]
theorem le0_Z {a : Int32} : a ≤ 0 ↔ a.toInt ≤ 0 := by rw [Int32.le_iff_toInt_le, toI_0]
/-- the reference's pennies -/
theorem pb_sum (J : Nat → Nat → Int32) (L' : Nat → Nat → Int64) (g : Nat → Int32) (v : Nat → Int64) (r n : Int32) (A : Int64) (hx : 0 ≤ n.toInt) (hA : n.toInt < A.toInt) (hA2 : A.toInt ≤ 2000000000) : ∀ q : Nat, q ≤ 40 → Bw q (J 125) 0 50000000 → (pb_it J L' g v r n A q).1.toInt = n.toInt - sumR (J 90) r (fun j => SH (J 125 j) n A) q := by
  intro q
  induction q with
  | zero => intro _ _; show n.toInt = _ - 0; omega
  | succ q ih =>
    intro hq h
    have hb : Bw q (J 125) 0 50000000 := fun j hj => h j (by omega)
    have h1 := ih (by omega) hb
    have h2 := sumR_b (J 90) r (fun j => SH (J 125 j) n A) 50000000 (by omega) q (sh_Bw hx hA hA2 hb)
    have h3 := sh_val (h q (by omega)) hx hA hA2
    have h4 := (h q (by omega)).2
    have hA3 : lg_cmp n.toInt64 A < 0 := by rw [lg_ltz, i64_of]; exact hA
    rw [pb_it_s, sumR]
    unfold pb_st
    rw [nI_clamp (by omega)]
    by_cases e : J 90 q = r
    · rw [if_neg (not_not_intro e), if_pos e]
      by_cases c2 : J 125 q ≤ 0
      · rw [if_pos c2]
        rw [le0_Z] at c2
        show (pb_it J L' g v r n A q).1.toInt = _
        rw [h1]; omega
      · rw [if_neg c2, if_pos hA3]
        show ((pb_it J L' g v r n A q).1 - (up2 (up1 J 126 _) 126 q (SH (J 125 q) n A)) 126 q).toInt = _
        rw [up2_at, sub_toInt (by rw [h1]; omega) (by rw [h1]; omega), h1]; omega
    · rw [if_pos e, if_neg e, Int.add_zero]; exact h1
