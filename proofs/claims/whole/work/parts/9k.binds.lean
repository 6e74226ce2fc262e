/-! binds -/
theorem St.cgY {c q m n D H B l h : Nat} {X Y Y' : Nat → Nat → Int32} (z : St c q m n D H B l h X Y) (e : ∀ a, 62 ≤ a → a ≤ 104 → Y' a = Y a) : St c q m n D H B l h X Y' := by
  unfold St
  rw [e 62 (by decide) (by decide), e 63 (by decide) (by decide), e 64 (by decide) (by decide), e 65 (by decide) (by decide), e 66 (by decide) (by decide), e 67 (by decide) (by decide), e 68 (by decide) (by decide), e 69 (by decide) (by decide), e 70 (by decide) (by decide), e 71 (by decide) (by decide), e 72 (by decide) (by decide), e 73 (by decide) (by decide), e 74 (by decide) (by decide), e 75 (by decide) (by decide), e 76 (by decide) (by decide), e 77 (by decide) (by decide), e 78 (by decide) (by decide), e 79 (by decide) (by decide), e 80 (by decide) (by decide), e 81 (by decide) (by decide), e 82 (by decide) (by decide), e 83 (by decide) (by decide), e 84 (by decide) (by decide), e 85 (by decide) (by decide), e 86 (by decide) (by decide), e 87 (by decide) (by decide), e 88 (by decide) (by decide), e 89 (by decide) (by decide), e 90 (by decide) (by decide), e 91 (by decide) (by decide), e 92 (by decide) (by decide), e 93 (by decide) (by decide), e 94 (by decide) (by decide), e 95 (by decide) (by decide), e 96 (by decide) (by decide), e 97 (by decide) (by decide), e 98 (by decide) (by decide), e 99 (by decide) (by decide), e 100 (by decide) (by decide), e 101 (by decide) (by decide), e 102 (by decide) (by decide), e 103 (by decide) (by decide), e 104 (by decide) (by decide)]
  exact z
theorem St.cgX {c q m n D H B l h : Nat} {X Y X' : Nat → Nat → Int32} (z : St c q m n D H B l h X Y) (e : ∀ a, a ≤ 35 → X' a = X a) : St c q m n D H B l h X' Y := by
  unfold St
  rw [e 1 (by decide), e 2 (by decide), e 3 (by decide), e 4 (by decide), e 5 (by decide), e 6 (by decide), e 7 (by decide), e 8 (by decide), e 9 (by decide), e 10 (by decide), e 11 (by decide), e 12 (by decide), e 13 (by decide), e 14 (by decide), e 15 (by decide), e 16 (by decide), e 17 (by decide), e 18 (by decide), e 19 (by decide), e 20 (by decide), e 21 (by decide), e 22 (by decide), e 23 (by decide), e 24 (by decide), e 25 (by decide), e 26 (by decide), e 27 (by decide), e 28 (by decide), e 29 (by decide), e 30 (by decide), e 31 (by decide), e 33 (by decide), e 34 (by decide), e 35 (by decide)]
  exact z
theorem as_at {Y : Nat → Nat → Int32} (L : Nat → Nat → Int64) (p b : Int32) : ∀ k, k ≤ 40 → (∀ j, j < k → (as_it Y L p b k).1 j = Y 88 j ∧ (as_it Y L p b k).2 j = if Y 94 j = 0 ∧ Y 87 j = p ∧ (¬ b = 0 ∨ Y 99 j = 0) then 1 else 0) := by
  intro k
  induction k with
  | zero => intro _ j hj; omega
  | succ k ih =>
    intro hk j hj
    have h := ih (by omega)
    rw [as_it_s]
    have e : as_st Y L p b k (as_it Y L p b k) = (upr (as_it Y L p b k).1 k (Y 88 k), upr (as_it Y L p b k).2 k (if Y 94 k = 0 ∧ Y 87 k = p ∧ (¬ b = 0 ∨ Y 99 k = 0) then 1 else 0)) := by
      unfold as_st
      rw [nI_clamp (by omega)]
      by_cases a1 : Y 94 k = 0 <;> by_cases a2 : Y 87 k = p <;> by_cases a3 : b = 0 <;> by_cases a4 : Y 99 k = 0 <;> simp [a1, a2, a3, a4]
    rw [e]
    dsimp only
    by_cases g : j = k
    · subst g; rw [upr_at, upr_at]; exact ⟨rfl, rfl⟩
    · rw [upr_ne g, upr_ne g]; exact h j (by omega)
section
variable {c q m n D H B l h : Nat} {X Y : Nat → Nat → Int32}
/-- the class's tally under the relation -/
theorem St.tal (z : St c q m n D H B l h X Y) (L : Nat → Nat → Int64) {P : Nat} (hP : P < q) (h0 : X 44 0 = nI P) (r f : Int32) : Tally q m (fun j => cnX X P (X 44 1) j && decide (j < m)) (whX X) (duX X) (fun p => decide (nI p = f ∨ ¬ r < 1000 - X 33 (12 * p + P))) (vtk X L r f m).1 (vtk X L r f m).2.1 (vtk X L r f m).2.2.1 (vtk X L r f m).2.2.2.1 (vtk X L r f m).2.2.2.2 := by
  have h12 := z.hq.2.1
  have vs := vs_at (X := X) L r f h0 (by omega) 12 (Nat.le_refl _)
  have b1 := z.2.2.1.2.2.2.2.2.2.2.2.2.2.2.2.2.2.2.1
  refine vt_tally (X := up1 X 46 (vsS X L r f)) L h12 z.hq.2.2.1 z.hq.2.2.2.1 h0 (fun p hp => ?_) (fun j hj => ⟨(b1 j hj).2.2.1, (b1 j hj).2.2.2.1⟩) (fun p hp => (vs p (by omega)).1) m (Nat.le_refl _)
  show vsS X L r f p = 0 ↔ _
  unfold vsS
  rw [(vs p (by omega)).2]
  by_cases e : nI p = f ∨ ¬ r < 1000 - X 33 (12 * p + P)
  · rw [if_pos e, decide_eq_true e]; exact ⟨fun y => absurd y one_nz, fun y => by cases y⟩
  · rw [if_neg e, decide_eq_false e]; exact ⟨fun _ => rfl, fun _ => rfl⟩
/-- the reference's count, over rows 122 and 123 that stand for the same -/
theorem St.bos (z : St c q m n D H B l h X Y) (L' : Nat → Nat → Int64) {P : Nat} (hP : P < q) (r f : Int32) {Y' : Nat → Nat → Int32} (hY : ∀ a, 62 ≤ a → a ≤ 104 → Y' a = Y a) {cn : Nat → Bool} {wh : Nat → Nat} (h1 : ∀ j, j < m → (Y' 123 j = 0 ↔ cn j = false)) (h2 : ∀ j, j < m → cn j = true → Y' 122 j = nI (wh j) ∧ wh j < 100) : bo_it Y' L' (nI P) r f m q = (nI (tVo cn wh q m), nI (tSi cn wh (fun p => decide (nI p = f ∨ ¬ r < 1000 - X 33 (12 * p + P))) q m), tAw cn wh (duX X) q m, tSw cn wh (duX X) (fun p => decide (nI p = f ∨ ¬ r < 1000 - X 33 (12 * p + P))) q m) := by
  have h12 := z.hq.2.1
  have z' := z.cgY hY
  refine bo_eq L' z.hq.2.2.2.1 h1 h2 (fun j hj => ?_) (by omega) r f h12 (fun j hj => ?_) q (Nat.le_refl _)
  · show _ = (due X (nI j) (X 1 4)).toInt64
    rw [z'.dueE hj]
  · rw [decide_eq_true_iff, (z'.2.2.2.1 j P (by omega) (by omega)).1 hj hP]
theorem bSo_bnd (Y : Nat → Nat → Int32) (L : Nat → Nat → Int64) (n m q : Nat) (p r f : Int32) : (bSo Y L n m q p r f).1 = bnd (bo_it (up1 (up1 Y 121 (lookG (Y 121) Y L p m)) 121 (lookG (lookG (Y 121) Y L p m) Y L p m)) L p r f m q).1 (bo_it (up1 (up1 Y 121 (lookG (Y 121) Y L p m)) 121 (lookG (lookG (Y 121) Y L p m) Y L p m)) L p r f m q).2.1 (tlNow Y L n m p 4) (tlNow Y L n m p 5) (bo_it (up1 (up1 Y 121 (lookG (Y 121) Y L p m)) 121 (lookG (lookG (Y 121) Y L p m) Y L p m)) L p r f m q).2.2.1 (bo_it (up1 (up1 Y 121 (lookG (Y 121) Y L p m)) 121 (lookG (lookG (Y 121) Y L p m) Y L p m)) L p r f m q).2.2.2 := by
  unfold bSo bnd
  simp only [apply_ite Prod.fst]
theorem bSo_mem (Y : Nat → Nat → Int32) (L : Nat → Nat → Int64) (n m q : Nat) (p r f : Int32) : (bSo Y L n m q p r f).2 = up1 (up1 Y 121 (lookG (Y 121) Y L p m)) 121 (lookG (lookG (Y 121) Y L p m) Y L p m) := by
  unfold bSo
  simp only [apply_ite Prod.snd, ite_self]
/-- a vote, now -/
theorem St.voted (z : St c q m n D H B l h X Y) (L L' : Nat → Nat → Int64) {P : Nat} (hP : P < q) (h0 : X 44 0 = nI P) (h1 : X 44 1 = if tlNow Y L' n m (nI P) 6 = 0 then 0 else 1) (h2 : X 44 2 = tlNow Y L' n m (nI P) 4) (h3 : X 44 3 = tlNow Y L' n m (nI P) 5) (r : Int32) : vAt X L r m = (bNow Y L' n m q (nI P) r).1 := by
  have h12 := z.hq.2.1
  have h40 := z.hq.2.2.2.1
  obtain ⟨t1, t2, t3, t4, t5⟩ := z.tal L hP h0 r (-1)
  have hv : vAt X L r m = bnd (vtk X L r (-1) m).2.1 (vtk X L r (-1) m).2.2.1 (X 44 2) (X 44 3) (vtk X L r (-1) m).2.2.2.1 (vtk X L r (-1) m).2.2.2.2 := rfl
  rw [hv, t2, t3, t4, t5]
  show _ = (bSo (asI Y L' n m (nI P)) L' n m q (nI P) r (-1)).1
  rw [bSo_bnd, tlNow_cg (asI_rel Y L' n m (nI P)), tlNow_cg (asI_rel Y L' n m (nI P))]
  have e87 := z.2.2.1.1
  have e88 := z.2.2.1.2.1
  have e94 := z.2.2.1.2.2.2.2.2.2.2.1
  have e99 := z.2.2.1.2.2.2.2.2.2.2.2.2.2.2.2.1
  have b1 := z.2.2.1.2.2.2.2.2.2.2.2.2.2.2.2.2.2.2.1
  have aa := as_at (Y := up1 Y 121 (lookG (Y 121) Y L' (nI P) m)) L' (nI P) (if tlNow Y L' n m (nI P) 6 = 0 then 0 else 1) m h40
  rw [z.bos L' hP r (-1) (Y' := up1 (up1 (asI Y L' n m (nI P)) 121 (lookG ((asI Y L' n m (nI P)) 121) (asI Y L' n m (nI P)) L' (nI P) m)) 121 (lookG (lookG ((asI Y L' n m (nI P)) 121) (asI Y L' n m (nI P)) L' (nI P) m) (asI Y L' n m (nI P)) L' (nI P) m)) (fun a g1 g2 => by unfold asI; rw [up1_ne (by omega), up1_ne (by omega), up1_ne (by omega), up1_ne (by omega), up1_ne (by omega)]) (cn := fun j => cnX X P (X 44 1) j && decide (j < m)) (wh := whX X) (fun j hj => ?_) (fun j hj ec => ?_), h2, h3]
  · show (as_it (up1 Y 121 (lookG (Y 121) Y L' (nI P) m)) L' (nI P) (if tlNow Y L' n m (nI P) 6 = 0 then 0 else 1) m).2 j = 0 ↔ _
    rw [(aa j hj).2, decide_eq_true hj, Bool.and_true]
    show (if Y 94 j = 0 ∧ Y 87 j = nI P ∧ (¬ (if tlNow Y L' n m (nI P) 6 = 0 then (0 : Int32) else 1) = 0 ∨ Y 99 j = 0) then (1 : Int32) else 0) = 0 ↔ decide (X 24 j = 0 ∧ X 17 j = nI P ∧ (¬ X 44 1 = 0 ∨ X 29 j = 0)) = false
    rw [e94 j hj, e87 j hj, e99 j hj, ← h1]
    by_cases C : X 24 j = 0 ∧ X 17 j = nI P ∧ (¬ X 44 1 = 0 ∨ X 29 j = 0)
    · rw [if_pos C, decide_eq_true C]; exact ⟨fun y => absurd y one_nz, fun y => by cases y⟩
    · rw [if_neg C, decide_eq_false C]; exact ⟨fun _ => rfl, fun _ => rfl⟩
  · refine ⟨?_, ?_⟩
    · show (as_it (up1 Y 121 (lookG (Y 121) Y L' (nI P) m)) L' (nI P) (if tlNow Y L' n m (nI P) 6 = 0 then 0 else 1) m).1 j = nI (X 18 j).toNatClampNeg
      rw [(aa j hj).1]
      show Y 88 j = _
      rw [e88 j hj]
      obtain ⟨w, hw, ew⟩ := rng_nI (x := X 18 j) (N := q) ⟨(b1 j hj).2.2.1, (b1 j hj).2.2.2.1⟩
      rw [ew, nI_clamp (by omega)]
    · show (X 18 j).toNatClampNeg < 100
      obtain ⟨w, hw, ew⟩ := rng_nI (x := X 18 j) (N := q) ⟨(b1 j hj).2.2.1, (b1 j hj).2.2.2.1⟩
      rw [ew, nI_clamp (by omega)]; omega
end
