/-! LEAVES of both sides under the relation -/
theorem nI_inj {a b : Nat} (ha : a < 2 ^ 31) (hb : b < 2 ^ 31) (e : nI a = nI b) : a = b := by
  have := congrArg Int32.toInt e
  rw [nI_toInt ha, nI_toInt hb] at this; omega
theorem iff_z {P Q : Prop} (h : ¬ P ↔ ¬ Q) : P ↔ Q := by
  constructor
  · intro p; exact Classical.byContradiction fun nq => (h.mpr nq) p
  · intro q; exact Classical.byContradiction fun np => (h.mp np) q
section
variable {c q m n D H B l h : Nat} {X Y : Nat → Nat → Int32}
theorem St.c61 (z : St c q m n D H B l h X Y) (k : Nat) (v : Int32) : St c q m n D H B l h X (up2 Y 61 k v) := ⟨z.1, z.2.1, z.2.2.1, z.2.2.2.1, z.2.2.2.2.1, z.2.2.2.2.2⟩
theorem St.per (z : St c q m n D H B l h X Y) (p : Int32) : hasP X p = 0 ↔ isPer Y p = 0 := by
  obtain ⟨h1, h2, -⟩ := z.hq
  obtain ⟨h3, -⟩ := z.hy
  exact iff_z ((hasP_iff h1 h2).trans (isPer_iff h3 h2).symm)
theorem St.per_ex (z : St c q m n D H B l h X Y) {p : Int32} (hp : ¬ hasP X p = 0) : ∃ j, j < q ∧ p = nI j := (hasP_iff z.hq.1 z.hq.2.1).mp hp
theorem St.live (z : St c q m n D H B l h X Y) (d : Int32) : isLive X d = 0 ↔ isLiveR Y d = 0 := by
  obtain ⟨-, -, h1, h2, -⟩ := z.hq
  obtain ⟨-, h3, -⟩ := z.hy
  refine iff_z ((isLive_iff h1 h2).trans (Iff.trans ?_ (isLiveR_iff h3 h2).symm))
  have e : Rw m (Y 94) (X 24) := z.2.2.1.2.2.2.2.2.2.2.1
  constructor
  · rintro ⟨j, hj, e1, e2⟩; exact ⟨j, hj, e1, by rw [e j hj]; exact e2⟩
  · rintro ⟨j, hj, e1, e2⟩; exact ⟨j, hj, e1, by rw [← e j hj]; exact e2⟩
theorem St.live_ex (z : St c q m n D H B l h X Y) {d : Int32} (hd : ¬ isLive X d = 0) : ∃ j, j < m ∧ d = nI j ∧ X 24 j = 0 := (isLive_iff z.hq.2.2.1 z.hq.2.2.2.1).mp hd
theorem St.dbt (z : St c q m n D H B l h X Y) (d : Int32) : hasD X d = 0 ↔ isDbt Y d = 0 := by
  obtain ⟨-, -, h1, h2, -⟩ := z.hq
  obtain ⟨-, h3, -⟩ := z.hy
  refine iff_z (Iff.trans ?_ (isDbt_iff h3 h2).symm)
  unfold hasD
  rw [h1]
  constructor
  · intro h
    by_cases h4 : d < 0
    · rw [if_pos h4] at h; exact absurd rfl h
    · rw [if_neg h4] at h
      by_cases h5 : nI m ≤ d
      · rw [if_pos h5] at h; exact absurd rfl h
      · rw [Int32.lt_iff_toInt_lt, toI_0] at h4; rw [Int32.le_iff_toInt_le, nI_toInt (by omega)] at h5
        exact rng_nI ⟨by omega, by omega⟩
  · rintro ⟨j, hj, rfl⟩
    rw [if_neg (by rw [Int32.lt_iff_toInt_lt, nI_toInt (by omega), toI_0]; omega), if_neg (nI_ge hj (by omega)), if_neg (by rw [Int32.le_iff_toInt_le, nI_toInt (by omega), toI_40]; omega)]
    decide
theorem St.dbt_ex (z : St c q m n D H B l h X Y) {d : Int32} (hd : ¬ hasD X d = 0) : ∃ j, j < m ∧ d = nI j := (isDbt_iff z.hy.2.1 z.hq.2.2.2.1).mp (fun e => hd ((z.dbt d).mpr e))
theorem St.two (z : St c q m n D H B l h X Y) (a b : Int32) : areTwo X a b = 0 ↔ areTwoR Y a b = 0 := by
  unfold areTwo areTwoR
  simp only [z.per a, z.per b]
  by_cases h1 : a = b
  · rw [if_pos h1]
    by_cases h2 : isPer Y a = 0
    · rw [if_pos h2]
    · rw [if_neg h2]
      by_cases h3 : isPer Y b = 0
      · rw [if_pos h3]
      · rw [if_neg h3, if_pos h1]
  · rw [if_neg h1]
    by_cases h2 : isPer Y a = 0
    · rw [if_pos h2, if_pos h2]
    · rw [if_neg h2, if_neg h2]
      by_cases h3 : isPer Y b = 0
      · rw [if_pos h3, if_pos h3]
      · rw [if_neg h3, if_neg h3, if_neg h1]
theorem St.two_ex (z : St c q m n D H B l h X Y) {a b : Int32} (hh : ¬ areTwo X a b = 0) : ∃ i j, i < q ∧ j < q ∧ i ≠ j ∧ a = nI i ∧ b = nI j := by
  unfold areTwo at hh
  by_cases h1 : a = b
  · rw [if_pos h1] at hh; exact absurd rfl hh
  · rw [if_neg h1] at hh
    by_cases h2 : hasP X a = 0
    · rw [if_pos h2] at hh; exact absurd rfl hh
    · rw [if_neg h2] at hh
      by_cases h3 : hasP X b = 0
      · rw [if_pos h3] at hh; exact absurd rfl hh
      · obtain ⟨i, hi, rfl⟩ := z.per_ex h2
        obtain ⟨j, hj, rfl⟩ := z.per_ex h3
        exact ⟨i, j, hi, hj, fun e => h1 (by rw [e]), rfl, rfl⟩
theorem isHeld_at {X : Nat → Nat → Int32} {q j : Nat} (hq : X 2 0 = nI q) (hb : q ≤ 12) (hj : j < q) : isHeld X (nI j) = if X 5 j = -1 then 0 else 1 := by
  unfold isHeld
  rw [hq, if_neg (by rw [Int32.lt_iff_toInt_lt, nI_toInt (by omega), toI_0]; omega), if_neg (nI_ge hj (by omega)), if_neg (by rw [Int32.le_iff_toInt_le, nI_toInt (by omega), toI_12]; omega), nI_clamp (by omega)]
theorem St.held_at (z : St c q m n D H B l h X Y) {j : Nat} (hj : j < q) : isHeld X (nI j) = Y 72 j := by
  rw [isHeld_at z.hq.1 z.hq.2.1 hj, z.2.1.2.2.1 j hj]
theorem St.held_ex (z : St c q m n D H B l h X Y) {p : Int32} (hh : ¬ isHeld X p = 0) : ∃ j, j < q ∧ p = nI j ∧ ¬ X 5 j = -1 := by
  have hp : ¬ hasP X p = 0 := by
    intro e
    apply hh
    unfold hasP at e
    unfold isHeld
    by_cases h1 : p < 0
    · rw [if_pos h1]
    · rw [if_neg h1] at e ⊢
      by_cases h2 : X 2 0 ≤ p
      · rw [if_pos h2]
      · rw [if_neg h2] at e ⊢
        by_cases h3 : (12 : Int32) ≤ p
        · rw [if_pos h3]
        · rw [if_neg h3] at e; exact absurd e (by decide)
  obtain ⟨j, hj, rfl⟩ := z.per_ex hp
  refine ⟨j, hj, rfl, fun e => hh ?_⟩
  rw [isHeld_at z.hq.1 z.hq.2.1 hj, if_pos e]
/-- held: both say so -/
theorem St.held (z : St c q m n D H B l h X Y) (p : Int32) : isHeld X p = 0 ↔ (isPer Y p = 0 ∨ Y 72 p.toNatClampNeg = 0) := by
  have h12 := z.hq.2.1
  constructor
  · intro e
    by_cases h1 : isPer Y p = 0
    · exact Or.inl h1
    · obtain ⟨j, hj, rfl⟩ := (isPer_iff z.hy.1 z.hq.2.1).mp h1
      right
      rw [nI_clamp (by omega), ← z.held_at hj]; exact e
  · intro e
    refine Classical.byContradiction fun hh => ?_
    obtain ⟨j, hj, rfl, -⟩ := z.held_ex hh
    rcases e with e | e
    · exact (isPer_iff z.hy.1 z.hq.2.1).mpr ⟨j, hj, rfl⟩ e
    · rw [nI_clamp (by omega), ← z.held_at hj] at e; exact hh e
theorem isLive_at {X : Nat → Nat → Int32} {m j : Nat} (hm : X 16 0 = nI m) (hb : m ≤ 40) (hj : j < m) : isLive X (nI j) = if X 24 j = 0 then 1 else 0 := by
  unfold isLive
  rw [hm, if_neg (by rw [Int32.lt_iff_toInt_lt, nI_toInt (by omega), toI_0]; omega), if_neg (nI_ge hj (by omega)), if_neg (by rw [Int32.le_iff_toInt_le, nI_toInt (by omega), toI_40]; omega), nI_clamp (by omega)]
  by_cases e : X 24 j = 0
  · rw [if_neg (fun z => z e), if_pos e]
  · rw [if_pos e, if_neg e]
theorem intr_eq {X Y : Nat → Nat → Int32} {m j : Nat} {dy : Int32} (hb : m ≤ 40) (hj : j < m) (e91 : Rw m (Y 91) (X 21)) (e95 : Rw m (Y 95) (X 25)) (e96 : Rw m (Y 96) (X 26)) (e97 : Rw m (Y 97) (X 27)) (hd : Y 66 0 = dy) : intrOn X (nI j) dy = intrR Y (nI j) := by
  unfold intrOn intrR
  rw [nI_clamp (by omega), e91 j hj, e95 j hj, e96 j hj, e97 j hj, hd]
theorem due_at {X : Nat → Nat → Int32} {m j : Nat} (hm : X 16 0 = nI m) (hb : m ≤ 40) (hj : j < m) (dy : Int32) : due X (nI j) dy = if X 24 j = 0 then X 28 j + intrOn X (nI j) dy + X 25 j else 0 := by
  unfold due
  rw [isLive_at hm hb hj, nI_clamp (by omega)]
  by_cases e : X 24 j = 0
  · rw [if_pos e, if_pos e, if_neg (by decide)]
  · rw [if_neg e, if_neg e, if_pos rfl]
theorem due_eq {X Y : Nat → Nat → Int32} {m j : Nat} {dy : Int32} (hm : X 16 0 = nI m) (hb : m ≤ 40) (hj : j < m) (e91 : Rw m (Y 91) (X 21)) (e94 : Rw m (Y 94) (X 24)) (e95 : Rw m (Y 95) (X 25)) (e96 : Rw m (Y 96) (X 26)) (e97 : Rw m (Y 97) (X 27)) (e98 : Rw m (Y 98) (X 28)) (hd : Y 66 0 = dy) : due X (nI j) dy = dueR Y (nI j) := by
  rw [due_at hm hb hj, intr_eq hb hj e91 e95 e96 e97 hd]
  unfold dueR
  rw [nI_clamp (by omega), e94 j hj, e95 j hj, e98 j hj]
  by_cases e : X 24 j = 0
  · rw [if_pos e, if_neg (fun z => z e)]
  · rw [if_neg e, if_pos e]
theorem St.dueE (z : St c q m n D H B l h X Y) {j : Nat} (hj : j < m) : due X (nI j) (X 1 4) = dueR Y (nI j) := by
  obtain ⟨-, -, h1, h2, -⟩ := z.hq
  obtain ⟨-, -, -, h3, -, h4, -⟩ := z.hy
  obtain ⟨e87, e88, e89, e90, e91, e92, e93, e94, e95, e96, e97, e98, -⟩ := z.2.2.1
  exact due_eq h1 h2 hj e91 e94 e95 e96 e97 e98 (by rw [h3, h4])
theorem St.intr (z : St c q m n D H B l h X Y) {j : Nat} (hj : j < m) : intrOn X (nI j) (X 1 4) = intrR Y (nI j) := by
  obtain ⟨-, -, h1, h2, -⟩ := z.hq
  obtain ⟨-, -, -, h3, -, h4, -⟩ := z.hy
  obtain ⟨e87, e88, e89, e90, e91, e92, e93, e94, e95, e96, e97, e98, -⟩ := z.2.2.1
  exact intr_eq h2 hj e91 e95 e96 e97 (by rw [h3, h4])
theorem owes_at {X : Nat → Nat → Int32} {m j : Nat} (hm : X 16 0 = nI m) (hb : m ≤ 40) (hj : j < m) (p : Int32) : owes X p (nI j) = if X 24 j = 0 ∧ X 17 j = p then 1 else 0 := by
  unfold owes
  rw [isLive_at hm hb hj, nI_clamp (by omega)]
  by_cases e : X 24 j = 0
  · rw [if_pos e, if_neg (by decide)]
    by_cases e2 : X 17 j = p
    · rw [if_neg (fun z => z e2), if_pos ⟨e, e2⟩]
    · rw [if_pos e2, if_neg (fun z => e2 z.2)]
  · rw [if_neg e, if_pos rfl, if_neg (fun z => e z.1)]
theorem itr_cg {S : Type} {f g : Nat → S → S} {s : S} : ∀ {k : Nat}, (∀ j x, j < k → f j x = g j x) → itr f s k = itr g s k := by
  intro k
  induction k with
  | zero => intro _; rfl
  | succ k ih => intro h; rw [itr_s, itr_s, ih (fun j x hj => h j x (by omega)), h k _ (by omega)]
theorem St.dueBy (z : St c q m n D H B l h X Y) (L L' : Nat → Nat → Int64) (p : Int32) : dueBy_it X L p m = dueFrom_it Y L' p m := by
  obtain ⟨-, -, h1, h2, -⟩ := z.hq
  obtain ⟨e87, e88, e89, e90, e91, e92, e93, e94, -⟩ := z.2.2.1
  refine itr_cg (fun j s hj => ?_)
  unfold dueBy_st dueFrom_st
  rw [owes_at h1 h2 hj, nI_clamp (by omega), e87 j hj, z.dueE hj]
  by_cases e2 : X 17 j = p <;> by_cases e : X 24 j = 0
  · simp [e, e2]
  · have : dueR Y (nI j) = 0 := by unfold dueR; rw [nI_clamp (by omega), e94 j hj, if_pos e]
    simp [e, e2, this]
  · simp [e, e2]
  · simp [e, e2]
theorem St.dueTo (z : St c q m n D H B l h X Y) (L L' : Nat → Nat → Int64) (p : Int32) : dueTo_it X L p m = dueToR_it Y L' p m := by
  obtain ⟨-, -, h1, h2, -⟩ := z.hq
  obtain ⟨e87, e88, -⟩ := z.2.2.1
  refine itr_cg (fun j s hj => ?_)
  unfold dueTo_st dueToR_st
  rw [nI_clamp (by omega), e88 j hj, z.dueE hj]
theorem St.lives (z : St c q m n D H B l h X Y) (L L' : Nat → Nat → Int64) : liveOnes_it X L m = q2_it Y L' m := by
  obtain ⟨-, -, h1, h2, -⟩ := z.hq
  obtain ⟨e87, e88, e89, e90, e91, e92, e93, e94, -⟩ := z.2.2.1
  refine itr_cg (fun j s hj => ?_)
  unfold liveOnes_st q2_st
  rw [isLive_at h1 h2 hj, nI_clamp (by omega), e94 j hj]
  by_cases e : X 24 j = 0 <;> simp [e]
theorem St.helds (z : St c q m n D H B l h X Y) (L L' : Nat → Nat → Int64) : heldOnes_it X L q = q6_it Y L' q := by
  have h2 := z.hq.2.1
  refine itr_cg (fun j s hj => ?_)
  unfold heldOnes_st q6_st
  rw [z.held_at hj, nI_clamp (by omega)]
theorem St.coinsAll (z : St c q m n D H B l h X Y) (L L' : Nat → Nat → Int64) : allCoins_it X L q = q9_it Y L' q := by
  have h2 := z.hq.2.1
  refine itr_cg (fun j s hj => ?_)
  unfold allCoins_st q9_st
  rw [nI_clamp (by omega), z.2.1.1 j hj]
theorem St.dueAll (z : St c q m n D H B l h X Y) (L L' : Nat → Nat → Int64) : allDue_it X L (X 1 4) m = q10_it Y L' m := by
  refine itr_cg (fun j s hj => ?_)
  unfold allDue_st q10_st
  rw [z.dueE hj]
/-- the TURN -/
theorem turn_rn2 (X : Nat → Nat → Int32) (L : Nat → Nat → Int64) : ∀ k, k ≤ 12 → turn_it X L k = -1 ∨ ∃ i, i < k ∧ turn_it X L k = nI i := by
  intro k
  induction k with
  | zero => intro _; exact Or.inl rfl
  | succ k ih =>
    intro hk
    have h1 := ih (by omega)
    rw [turn_it_s]
    have h2 : turn_it X L k = -1 ∨ ∃ i, i < k + 1 ∧ turn_it X L k = nI i := by
      rcases h1 with h | ⟨i, hi, h⟩
      · exact Or.inl h
      · exact Or.inr ⟨i, by omega, h⟩
    unfold turn_st
    split
    · exact h2
    · split
      · exact Or.inr ⟨k, by omega, rfl⟩
      · split
        · exact h2
        · exact Or.inr ⟨k, by omega, rfl⟩
theorem St.turn (z : St c q m n D H B l h X Y) (L L' : Nat → Nat → Int64) : ∀ k, k ≤ q → turn_it X L k = trn_it Y L' k := by
  have h12 := z.hq.2.1
  obtain ⟨-, -, e72, e73, -, -, -, -, e78, -⟩ := z.2.1
  intro k
  induction k with
  | zero => intro _; rfl
  | succ k ih =>
    intro hk
    rw [turn_it_s, trn_it_s, ← ih (by omega)]
    have hr := turn_rn2 X L k (by omega)
    unfold turn_st trn_st
    rw [z.held_at (show k < q by omega), nI_clamp (by omega)]
    by_cases h1 : Y 72 k = 0
    · rw [if_pos h1, if_neg (fun z => z h1)]
    · rw [if_neg h1, if_pos h1]
      by_cases h2 : turn_it X L k = -1
      · rw [if_pos h2, if_pos h2]
      · rw [if_neg h2, if_neg h2]
        rcases hr with h | ⟨i, hi, h⟩
        · exact absurd h h2
        · rw [h]
          unfold ahead
          rw [nI_clamp (show k < 2 ^ 31 by omega), nI_clamp (show i < 2 ^ 31 by omega), e78 k (by omega), e78 i (by omega), e73 k (by omega), e73 i (by omega)]
          by_cases h3 : X 10 k = X 10 i
          · have h6 : ¬ X 10 k < X 10 i := by rw [h3, Int32.lt_iff_toInt_lt]; omega
            rw [if_neg h6]
            by_cases h4 : X 5 i ≤ X 5 k <;> simp [h3, h4]
          · have h5 : ¬ (X 10 k).toInt = (X 10 i).toInt := fun e => h3 (Int32.toInt_inj.mp e)
            by_cases h4 : X 10 i ≤ X 10 k
            · have h6 : ¬ X 10 k < X 10 i := by rw [Int32.lt_iff_toInt_lt]; rw [Int32.le_iff_toInt_le] at h4; omega
              rw [if_neg h6]
              simp [h3, h4]
            · have h6 : X 10 k < X 10 i := by rw [Int32.lt_iff_toInt_lt]; rw [Int32.le_iff_toInt_le] at h4; omega
              rw [if_pos h6]
              simp [h3, h4]
end
