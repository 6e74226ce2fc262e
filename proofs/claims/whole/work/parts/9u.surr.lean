/-! surrender: the loops on both sides -/
theorem due_cg {A X : Nat → Nat → Int32} (h : ∀ a, a ≤ 35 → A a = X a) (d t : Int32) : due A d t = due X d t := by
  unfold due isLive intrOn
  rw [h 16 (by decide), h 24 (by decide), h 28 (by decide), h 25 (by decide), h 26 (by decide), h 21 (by decide), h 27 (by decide)]
theorem owes_cg {A X : Nat → Nat → Int32} (h : ∀ a, a ≤ 35 → A a = X a) (p d : Int32) : owes A p d = owes X p d := by
  unfold owes isLive
  rw [h 16 (by decide), h 24 (by decide), h 17 (by decide)]
theorem sc_at {A X : Nat → Nat → Int32} {m : Nat} (hA : ∀ a, a ≤ 35 → A a = X a) (hm : X 16 0 = nI m) (hb : m ≤ 40) (L : Nat → Nat → Int64) (c0 : Nat → Int32) (p : Int32) : ∀ k, k ≤ m → ∀ j, j < k → sc_it A L c0 p k j = if X 24 j = 0 ∧ X 17 j = p then due X (nI j) (X 1 4) else 0 := by
  intro k
  induction k with
  | zero => intro _ j hj; omega
  | succ k ih =>
    intro hk j hj
    rw [sc_it_s]
    unfold sc_st
    rw [owes_cg hA, owes_at hm hb (by omega), due_cg hA, hA 1 (by decide), nI_clamp (by omega)]
    by_cases C : X 24 k = 0 ∧ X 17 k = p
    · rw [if_pos C, if_neg one_nz]
      by_cases e : j = k
      · subst e; rw [upr_at, if_pos C]
      · rw [upr_ne e]; exact ih (by omega) j (by omega)
    · rw [if_neg C, if_pos rfl]
      by_cases e : j = k
      · subst e; rw [upr_at, if_neg C]
      · rw [upr_ne e]; exact ih (by omega) j (by omega)
theorem or_z {a b : Int32} (h : (a ||| b) = 0) : a = 0 ∧ b = 0 := by
  have g : ∀ i, bt a i = false ∧ bt b i = false := by
    intro i
    have := b_or a b i
    rw [h, b_0] at this
    cases ha : bt a i <;> cases hb : bt b i <;> simp_all
  exact ⟨b_ext (fun i _ => by rw [(g i).1, b_0]), b_ext (fun i _ => by rw [(g i).2, b_0])⟩
theorem s1_at {J : Nat → Nat → Int32} (L' : Nat → Nat → Int64) (p : Int32) : ∀ k, k ≤ 40 → (∀ j, j < k → (s1_it J L' p k).2 j = if J 87 j = p then dueR J (nI j) else 0) ∧ ((s1_it J L' p k).1 = 0 ↔ ∀ j, j < k → J 87 j = p → dueR J (nI j) ≤ 0) := by
  intro k
  induction k with
  | zero => intro _; exact ⟨fun j hj => by omega, ⟨fun _ j hj => by omega, fun _ => rfl⟩⟩
  | succ k ih =>
    intro hk
    obtain ⟨h1, h2⟩ := ih (by omega)
    rw [s1_it_s]
    unfold s1_st
    rw [nI_clamp (by omega), up2_at, up2_at]
    by_cases C : J 87 k = p
    · rw [if_neg (not_not_intro C)]
      have r2 : ∀ j, j < k + 1 → upr (s1_it J L' p k).2 k (dueR J (nI k)) j = if J 87 j = p then dueR J (nI j) else 0 := by
        intro j hj
        by_cases e : j = k
        · subst e; rw [upr_at, if_pos C]
        · rw [upr_ne e]; exact h1 j (by omega)
      by_cases g : dueR J (nI k) ≤ 0
      · rw [if_pos g]
        refine ⟨r2, ?_⟩
        show (s1_it J L' p k).1 ||| 0 = 0 ↔ _
        rw [Int32.or_zero, h2]
        constructor
        · intro y j hj hp
          by_cases e : j = k
          · subst e; exact g
          · exact y j (by omega) hp
        · intro y j hj hp; exact y j (by omega) hp
      · rw [if_neg g]
        refine ⟨r2, ?_⟩
        show (s1_it J L' p k).1 ||| 1 = 0 ↔ _
        constructor
        · intro y; exact absurd (or_z y).2 (by decide)
        · intro y; exact absurd (y k (by omega) C) g
    · rw [if_pos C, if_pos (show (0 : Int32) ≤ 0 by decide)]
      refine ⟨fun j hj => ?_, ?_⟩
      · show upr (s1_it J L' p k).2 k 0 j = _
        by_cases e : j = k
        · subst e; rw [upr_at, if_neg C]
        · rw [upr_ne e]; exact h1 j (by omega)
      · show (s1_it J L' p k).1 ||| 0 = 0 ↔ _
        rw [Int32.or_zero, h2]
        constructor
        · intro y j hj hp
          by_cases e : j = k
          · subst e; exact absurd hp C
          · exact y j (by omega) hp
        · intro y j hj hp; exact y j (by omega) hp
theorem sumZ_mono {f : Nat → Int32} {m : Nat} (h : ∀ j, j < m → 0 ≤ (f j).toInt) : ∀ d k, k + d ≤ m → sumZ f k ≤ sumZ f (k + d) := by
  intro d
  induction d with
  | zero => intro k _; exact Int.le_refl _
  | succ d ih =>
    intro k hk
    have h1 := ih k (by omega)
    have h2 := h (k + d) (by omega)
    rw [show k + (d + 1) = (k + d) + 1 from rfl, sumZ]; omega
section
variable {c q m n D H B l h : Nat} {X Y : Nat → Nat → Int32} {xa xl N : Nat → Nat}
theorem St.lackd (z : St c q m n D H B l h X Y) {j : Nat} {v : Int32} (hv : 0 ≤ v.toInt ∧ v.toInt ≤ 200000 + 40000 * (c : Int)) : St c q m n D H B l h (up2 X 30 j v) (up2 Y 100 j v) := by
  obtain ⟨e87, e88, e89, e90, e91, e92, e93, e94, e95, e96, e97, e98, e99, e100, e101, b1, b2, b3, b4, b5, b6, b7, b8, b9, b10, b11⟩ := z.2.2.1
  exact ⟨z.1, z.2.1, ⟨e87, e88, e89, e90, e91, e92, e93, e94, e95, e96, e97, e98, e99, e100.up j v, e101, b1, b2, b3, b4, b5, b6, b7, b8, b9, b10.up hv, b11⟩, z.2.2.2⟩
theorem St.dueP (z : St c q m n D H B l h X Y) (hc : c ≤ 512) {j : Nat} (hj : j < m) (h0 : X 24 j = 0) : 0 < (due X (nI j) (X 1 4)).toInt := by
  obtain ⟨d1, d2, d3⟩ := z.dueZ hc hj
  have d4 := d3 h0
  obtain ⟨-, -, -, -, -, -, -, -, -, -, -, -, -, -, -, b1, b2, b3, b4, b5, b6, b7, b8, b9, b10, b11⟩ := z.2.2.1
  have := ((b11 j hj).1 h0).2
  omega
set_option maxHeartbeats 1000000 in
theorem St.surrL (z : St c q m n D H B l h X Y) (hc : c ≤ 512) (L L' L3 : Nat → Nat → Int64) {P : Nat} (hP : P < q) {X1 Y1 J : Nat → Nat → Int32} (hx : ∀ a, a ≤ 35 → X1 a = X a) (hy : ∀ a, 62 ≤ a → a ≤ 104 → a ≠ 70 → a ≠ 81 → Y1 a = Y a) (hJ : ∀ a, 62 ≤ a → a ≤ 104 → J a = Y a) (e125 : ∀ j, j < m → Y1 125 j = X1 53 j) (e126 : ∀ j, j < m → Y1 126 j = X1 54 j) (eJ : ∀ j, j < m → J 126 j = X1 54 j) (hcl : ∀ j, j < m → X1 53 j = if X 24 j = 0 ∧ X 17 j = nI P then due X (nI j) (X 1 4) else 0) (hsh : ∀ j, j < m → 0 ≤ (X1 54 j).toInt ∧ (X1 54 j).toInt ≤ (X1 53 j).toInt) (hs : sumZ (X1 54) m ≤ (X 3 P).toInt) : ∀ k, k ≤ m → St c q m n D H B l h (up1 (up1 (up1 (up1 X 24 (so_it X1 L (nI P) k).1) 31 (so_it X1 L (nI P) k).2.1) 3 (so_it X1 L (nI P) k).2.2.1) 30 (so_it X1 L (nI P) k).2.2.2) (up1 (up1 (up1 (up1 Y 94 (s2_it Y1 L' k).1) 101 (s2_it Y1 L' k).2.1) 70 (so_it X1 L (nI P) k).2.2.1) 100 (s2_it Y1 L' k).2.2) ∧ (∀ j, k ≤ j → j < m → (so_it X1 L (nI P) k).1 j = X 24 j) ∧ ((so_it X1 L (nI P) k).2.2.1 P).toInt = (X 3 P).toInt - sumZ (X1 54) k ∧ (∀ j, j < q → j ≠ P → (so_it X1 L (nI P) k).2.2.1 j = p3_it J L3 k j) ∧ p3_it J L3 k P = X 3 P ∧ (∀ j, 40 ≤ j → (s2_it Y1 L' k).1 j = Y 94 j ∧ (s2_it Y1 L' k).2.1 j = Y 101 j ∧ (s2_it Y1 L' k).2.2 j = Y 100 j) ∧ (∀ j, 12 ≤ j → p3_it J L3 k j = Y 70 j) := by
  have hm := z.hq.2.2.1
  have h40 := z.hq.2.2.2.1
  have h12 := z.hq.2.1
  intro k
  induction k with
  | zero =>
    intro _
    show St c q m n D H B l h (up1 (up1 (up1 (up1 X 24 (X1 24)) 31 (X1 31)) 3 (X1 3)) 30 (X1 30)) (up1 (up1 (up1 (up1 Y 94 (Y1 94)) 101 (Y1 101)) 70 (X1 3)) 100 (Y1 100)) ∧ (∀ j, 0 ≤ j → j < m → X1 24 j = X 24 j) ∧ (X1 3 P).toInt = (X 3 P).toInt - 0 ∧ (∀ j, j < q → j ≠ P → X1 3 j = J 70 j) ∧ J 70 P = X 3 P ∧ (∀ j, 40 ≤ j → Y1 94 j = Y 94 j ∧ Y1 101 j = Y 101 j ∧ Y1 100 j = Y 100 j) ∧ (∀ j, 12 ≤ j → J 70 j = Y 70 j)
    rw [hx 24 (by decide), hx 31 (by decide), hx 3 (by decide), hx 30 (by decide), hy 94 (by decide) (by decide) (by decide) (by decide), hy 101 (by decide) (by decide) (by decide) (by decide), hy 100 (by decide) (by decide) (by decide) (by decide), hJ 70 (by decide) (by decide)]
    have e70 := z.2.1.1
    have b3 := z.2.1.2.2.2.2.2.2.2.2.2.2.2.2.2.2.1
    exact ⟨⟨z.1, z.2.1.coin (Nat.le_refl c) (fun _ _ => rfl) b3, z.2.2.1, z.2.2.2.1, z.2.2.2.2.1, z.2.2.2.2.2⟩, fun j _ _ => rfl, by omega, fun j hj _ => (e70 j hj).symm, e70 P hP, fun j _ => ⟨rfl, rfl, rfl⟩, fun j _ => rfl⟩
  | succ k ih =>
    intro hk
    obtain ⟨zk, i1, i2, i3, i4, i5, i6⟩ := ih (by omega)
    rw [so_it_s, s2_it_s, p3_it_s]
    generalize so_it X1 L (nI P) k = s at zk i1 i2 i3
    generalize s2_it Y1 L' k = t at zk i5
    generalize p3_it J L3 k = pp at i3 i4 i6
    obtain ⟨s24, s31, s3, s30⟩ := s
    obtain ⟨t94, t101, t100⟩ := t
    dsimp only at zk i1 i2 i3 i5
    have ek := i1 k (Nat.le_refl _) (by omega)
    obtain ⟨f, t, hf, ht, hft, ef, et⟩ := z.ends (show k < m by omega)
    have eJ88 : J 88 k = nI t := by rw [hJ 88 (by decide) (by decide), z.2.2.1.2.1 k (by omega), et]
    have hp3 : p3_st J L3 k pp = upr pp t (pp t + X1 54 k) := by
      unfold p3_st
      rw [nI_clamp (show k < 2 ^ 31 by omega), eJ88, nI_clamp (show t < 2 ^ 31 by omega), eJ k (by omega)]
    have eo : owes (up1 X1 24 s24) (nI P) (nI k) = if s24 k = 0 ∧ X1 17 k = nI P then 1 else 0 := owes_at (X := up1 X1 24 s24) (by show X1 16 0 = _; rw [hx 16 (by decide)]; exact hm) h40 (by omega) (nI P)
    rw [ek, hx 17 (by decide)] at eo
    have cl := hcl k (by omega)
    have sh := hsh k (by omega)
    rw [hp3]
    by_cases C : X 24 k = 0 ∧ X 17 k = nI P
    · have efP : f = P := nI_inj (by omega) (by omega) (ef.symm.trans C.2)
      subst efP
      rw [if_pos C] at eo cl
      have dp := z.dueP hc (show k < m by omega) C.1
      have db := z.dueB hc (show k < m by omega)
      rw [← cl] at dp db
      generalize ha : X1 54 k = a at sh
      generalize hb : X1 53 k = b at sh dp db
      have hX : so_st X1 L (nI f) k (s24, s31, s3, s30) = (upr s24 k (if ¬ b - a = 0 then 3 else 1), upr s31 k (X 1 4), upr (upr s3 f (s3 f - a)) t (upr s3 f (s3 f - a) t + a), upr s30 k (b - a)) := by
        unfold so_st
        rw [if_neg (show ¬ owes (up1 X1 24 s24) (nI f) (nI k) = 0 by rw [eo]; exact one_nz)]
        unfold sur1
        rw [nI_clamp (show k < 2 ^ 31 by omega), hx 17 (by decide), hx 18 (by decide), C.2, et, nI_clamp (show f < 2 ^ 31 by omega), nI_clamp (show t < 2 ^ 31 by omega), hx 1 (by decide), up2_at, ha, hb]
        rfl
      have hY : s2_st Y1 L' k (t94, t101, t100) = (upr t94 k (if ¬ b - a = 0 then 3 else 1), upr t101 k (Y 66 0), upr t100 k (b - a)) := by
        unfold s2_st
        rw [nI_clamp (show k < 2 ^ 31 by omega), e125 k (by omega), e126 k (by omega), hb, ha, up2_at, if_neg (show ¬ b ≤ 0 by rw [le0_Z]; omega), hy 66 (by decide) (by decide) (by decide) (by decide)]
        by_cases g : b - a = 0
        · rw [if_neg (not_not_intro g), if_neg (not_not_intro g)]
        · rw [if_pos g, if_pos g]
      rw [hX, hY]
      have hsm := sumZ_mono (fun j hj => (hsh j hj).1) (m - (k + 1)) (k + 1) (by omega)
      rw [show k + 1 + (m - (k + 1)) = m by omega, sumZ, ha] at hsm
      have eba : (b - a).toInt = b.toInt - a.toInt := sub_toInt (by omega) (by omega)
      obtain ⟨z1, -, -⟩ := zk.move (by omega) hf ht (a := a) sh.1 (by show a.toInt ≤ (s3 f).toInt; rw [i2]; omega)
      obtain ⟨z2, -, -⟩ := z1.fin (by omega) (show k < m by omega) (v := if ¬ b - a = 0 then 3 else 1) (by split <;> decide)
      have z3 := z2.lackd (j := k) (v := b - a) (by rw [eba]; omega)
      unfold moveCoins at z3
      rw [nI_clamp (show f < 2 ^ 31 by omega), nI_clamp (show t < 2 ^ 31 by omega)] at z3
      refine ⟨⟨z3.1, z3.2.1, z3.2.2.1, z3.2.2.2.1, z3.2.2.2.2.1, z3.2.2.2.2.2⟩, fun j h1 h2 => ?_, ?_, fun j h1 h2 => ?_, ?_, fun j h1 => ?_, fun j h1 => ?_⟩
      · show upr s24 k _ j = _
        rw [upr_ne (by omega)]; exact i1 j (by omega) h2
      · show (upr (upr s3 f (s3 f - a)) t (upr s3 f (s3 f - a) t + a) f).toInt = _
        have hlt := Int32.toInt_lt (s3 f)
        rw [upr_ne (fun y => hft y), upr_at, sumZ, ha, sub_toInt (by rw [i2]; omega) (by omega), i2]; omega
      · show upr (upr s3 f (s3 f - a)) t (upr s3 f (s3 f - a) t + a) j = upr pp t (pp t + a) j
        by_cases e : j = t
        · subst e; rw [upr_at, upr_at, upr_ne (fun y => hft y.symm), i3 j h1 h2]
        · rw [upr_ne e, upr_ne e, upr_ne h2]; exact i3 j h1 h2
      · rw [upr_ne hft]; exact i4
      · show upr t94 k _ j = _ ∧ upr t101 k _ j = _ ∧ upr t100 k _ j = _
        rw [upr_ne (by omega), upr_ne (by omega), upr_ne (by omega)]; exact i5 j h1
      · rw [upr_ne (by omega)]; exact i6 j h1
    · rw [if_neg C] at eo cl
      rw [cl, toI_0] at sh
      have ha : X1 54 k = 0 := Int32.toInt_inj.mp (by rw [toI_0]; omega)
      have hX : so_st X1 L (nI P) k (s24, s31, s3, s30) = (s24, s31, s3, s30) := by
        unfold so_st
        rw [if_pos eo]
      have hY : s2_st Y1 L' k (t94, t101, t100) = (t94, t101, t100) := by
        unfold s2_st
        rw [nI_clamp (show k < 2 ^ 31 by omega), e125 k (by omega), cl, if_pos (show (0 : Int32) ≤ 0 by decide)]
      have hpp : upr pp t (pp t + X1 54 k) = pp := by
        funext j
        by_cases e : j = t
        · subst e; rw [upr_at, ha, Int32.add_zero]
        · rw [upr_ne e]
      rw [hX, hY, hpp]
      refine ⟨zk, fun j h1 h2 => i1 j (by omega) h2, ?_, i3, i4, i5, i6⟩
      rw [sumZ, ha, toI_0, i2]; omega
end
