/-! good, tells, walk, hold, hour -/
theorem FX.u38 {X X' : Nat → Nat → Int32} (h : FX X X') (g : Nat → Int32) : FX X (up1 X' 38 g) := h.u1 (by decide) g
theorem FY.u121 {Y Y' : Nat → Nat → Int32} (h : FY Y Y') (g : Nat → Int32) : FY Y (up1 Y' 121 g) := h.u1 (Or.inl (by decide))
theorem wo_rg (X : Nat → Nat → Int32) {k : Nat} (hk : k < 9) : 0 ≤ (without X (nI k)).toInt ∧ (without X (nI k)).toInt ≤ 99999 ∧ (k = 7 → (without X (nI k)).toInt ≤ 100) := by
  have e : without X (nI k) = without (fun _ _ => 0) (nI k) := rfl
  rw [e]
  exact (by decide : ∀ k, k < 9 → 0 ≤ (without (fun _ _ => 0) (nI k)).toInt ∧ (without (fun _ _ => 0) (nI k)).toInt ≤ 99999 ∧ (k = 7 → (without (fun _ _ => 0) (nI k)).toInt ≤ 100)) k hk
/-- what lines tell lies between -/
theorem tells_rg {n : Nat} {xa xl N : Nat → Nat} {X Y X' : Nat → Nat → Int32} (L : Nat → Nat → Int64) (hA : AR n xa xl N X Y) {a : Nat} (ha : a < n) (hX : X' (xl a) = X (xl a)) {k : Nat} (hk : k < 9) (cnt : Nat) (hcb : cnt < 2 ^ 31) (hc : X (xa a) 3 = nI cnt) : ∀ f j, f + j = cnt → 0 ≤ (tells_sr X' L (xl a) (nI k) f j).toInt ∧ (tells_sr X' L (xl a) (nI k) f j).toInt ≤ 99999 ∧ (k = 7 → (tells_sr X' L (xl a) (nI k) f j).toInt ≤ 100) := by
  obtain ⟨-, -, c, hc20, hN, hc1, hc2, hl⟩ := hA a ha
  have ecc : cnt = c := by rw [hc1] at hc; exact (nI_inj (by omega) hcb hc).symm
  intro f
  induction f with
  | zero =>
    intro j _
    rw [tells_sr]
    exact wo_rg _ hk
  | succ f ih =>
    intro j hj
    have h := ih (j + 1) (by omega)
    obtain ⟨e0, e1, e2, e3, -⟩ := hl j (by omega)
    rw [tells_sr, show (nI j * 19) + (0 : Int32) = nI (19 * j + 0) from k19 j 0, show (nI j * 19) + (1 : Int32) = nI (19 * j + 1) from k19 j 1, nI_clamp (show 19 * j + 0 < 2 ^ 31 by omega), nI_clamp (show 19 * j + 1 < 2 ^ 31 by omega), hX, Nat.add_zero]
    by_cases g1 : X (xl a) (19 * j) = nI k
    · rw [if_neg (not_not_intro g1)]
      by_cases g2 : testsH X' L (xl a) (j * 19) = 0
      · rw [if_pos g2]; exact h
      · rw [if_neg g2]
        exact ⟨e2.1, e2.2, fun e => e3 (by rw [g1, e]; rfl)⟩
    · rw [if_pos g1]; exact h
section
variable {c q m n D H B l h : Nat} {X Y : Nat → Nat → Int32} {xa xl N : Nat → Nat}
theorem St.c38 (z : St c q m n D H B l h X Y) (g : Nat → Int32) : St c q m n D H B l h (up1 X 38 g) Y := ⟨z.1, z.2.1, z.2.2.1, z.2.2.2.1, z.2.2.2.2.1, z.2.2.2.2.2⟩
theorem St.c121 (z : St c q m n D H B l h X Y) (g : Nat → Int32) : St c q m n D H B l h X (up1 Y 121 g) := ⟨z.1, z.2.1, z.2.2.1, z.2.2.2.1, z.2.2.2.2.1, z.2.2.2.2.2⟩
theorem St.tell_rg (z : St c q m n D H B l h X Y) (hA : AR n xa xl N X Y) (hB : XB n xa xl) (L : Nat → Nat → Int64) (p : Int32) {k : Nat} (hk : k < 9) : 0 ≤ (nowT X L xa xl n m p (nI k)).toInt ∧ (nowT X L xa xl n m p (nI k)).toInt ≤ 99999 ∧ (k = 7 → (nowT X L xa xl n m p (nI k)).toInt ≤ 100) := by
  unfold nowT
  cases ho : gdO X xa (X 1 4) (X 1 4) n with
  | none =>
    show 0 ≤ (without X (nI k)).toInt ∧ (without X (nI k)).toInt ≤ 99999 ∧ (k = 7 → (without X (nI k)).toInt ≤ 100)
    exact wo_rg _ hk
  | some a =>
    have ha := gdO_lt ho
    obtain ⟨-, -, c1, hc20, -, hc1, -, -⟩ := hA a ha
    show 0 ≤ (tells_sr (up1 X 38 (gathRow X L p m)) L (xl a) (nI k) (X (xa a) 3).toNatClampNeg 0).toInt ∧ (tells_sr (up1 X 38 (gathRow X L p m)) L (xl a) (nI k) (X (xa a) 3).toNatClampNeg 0).toInt ≤ 99999 ∧ (k = 7 → (tells_sr (up1 X 38 (gathRow X L p m)) L (xl a) (nI k) (X (xa a) 3).toNatClampNeg 0).toInt ≤ 100)
    rw [hc1, nI_clamp (by omega)]
    exact tells_rg L hA ha (up1_ne (by have := (hB a ha).2; omega)) hk c1 (by omega) hc1 c1 0 (by omega)
theorem pp_good (z : St c q m n D H B l h X Y) (hA : AR n xa xl N X Y) (L L' : Nat → Nat → Int64) (d k : Int32) : Ok c n X Y (xGood X L xa xl n m q d k).2 (yGood Y L' n m q d k).2 (xGood X L xa xl n m q d k).1 (yGood Y L' n m q d k).1 := by
  unfold xGood yGood isDay
  by_cases h1 : outside X d 0 9999 = 0
  · rw [if_neg (not_not_intro h1), if_neg (fun w => (inR_o Y X d 0 9999).mp w h1)]
    by_cases h2 : outside X k 0 9999 = 0
    · rw [if_pos h2, if_neg (fun w => (inR_o Y X k 0 9999).mp w h2)]
      exact z.ok0 (good_eq hA z.hq.2.2.2.2.2 L' d k n (Nat.le_refl _))
    · rw [if_neg h2, if_pos ((inR_o Y X k 0 9999).mpr h2)]; exact z.ok0 rfl
  · rw [if_pos h1, if_pos ((inR_o Y X d 0 9999).mpr h1)]; exact z.ok0 rfl
theorem pp_tells (z : St c q m n D H B l h X Y) (hA : AR n xa xl N X Y) (hB : XB n xa xl) (L L' : Nat → Nat → Int64) (p t a : Int32) : Ok c n X Y (xTells X L xa xl n m q p t a).2 (yTells Y L' n m q p t a).2 (xTells X L xa xl n m q p t a).1 (yTells Y L' n m q p t a).1 := by
  unfold xTells yTells
  have hn4 := z.hq.2.2.2.2.2
  by_cases h1 : hasP X p = 0
  · rw [if_pos h1, if_pos ((z.per p).mp h1)]; exact z.ok0 rfl
  · rw [if_neg h1, if_neg (fun y => h1 ((z.per p).mpr y))]
    obtain ⟨j, hj, rfl⟩ := z.per_ex h1
    by_cases h2 : outside X t 0 8 = 0
    · rw [if_pos h2, if_neg (fun w => (inR_o Y X t 0 8).mp w h2)]
      rw [out_iff, toI_0, toI_8] at h2
      obtain ⟨k, hk, rfl⟩ := rng_nI (x := t) (N := 9) ⟨h2.1, by omega⟩
      rw [z.hq.2.2.2.2.1, z.hy.2.2.1]
      have en : (nI n - 1).toInt = (n : Int) - 1 := nI_m1 (by omega)
      have fr : FY Y (up1 (up2 Y 61 0 0) 121 (lookR (up2 Y 61 0 0) L' (nI j) m)) := (FY.rfl.u2 n61 0).u121 _
      by_cases h3 : a = -1
      · subst h3
        rw [if_neg (not_not_intro rfl), if_pos (show ¬ inR Y (-1) (-1) (nI n - 1) = 0 from fun w => (inR_o Y X (-1) (-1) (nI n - 1)).mp w ((out_iff X _ _ _).mpr ⟨Int.le_refl _, by rw [en, toI_m1]; omega⟩)), if_neg (not_not_intro rfl)]
        refine ⟨?_, FX.rfl.u38 _, fr, q, m, D, H, B, l, h, (z.nx.c61 0 0).c38 _ |>.c121 _⟩
        exact (z.c61 0 0).tells hA hB L L' hj hk
      · rw [if_pos h3]
        by_cases h4 : outside X a 0 (nI n - 1) = 0
        · have h4' := h4
          rw [out_iff, toI_0, en] at h4'
          obtain ⟨i, hi, rfl⟩ := rng_nI (x := a) (N := n) ⟨h4'.1, by omega⟩
          rw [if_pos h4, if_pos (show ¬ inR Y (nI i) (-1) (nI n - 1) = 0 from fun w => (inR_o Y X (nI i) (-1) (nI n - 1)).mp w ((out_iff X _ _ _).mpr ⟨by rw [toI_m1]; omega, by rw [en]; omega⟩)), if_pos h3, nI_clamp (by omega)]
          refine ⟨?_, FX.rfl.u38 _, fr, q, m, D, H, B, l, h, (z.nx.c61 0 0).c38 _ |>.c121 _⟩
          exact (z.c61 0 0).tellA hA hB L L' hj hk (o := some i) (fun b e => by cases e; exact hi)
        · rw [if_neg h4]
          have h5 : inR Y a (-1) (nI n - 1) = 0 := by
            refine (inR_o Y X a (-1) (nI n - 1)).mpr (fun w => h4 ?_)
            rw [out_iff, toI_m1, en] at w
            rw [out_iff, toI_0, en]
            have : ¬ a.toInt = -1 := fun e => h3 (Int32.toInt_inj.mp (by rw [e, toI_m1]))
            omega
          rw [if_neg (not_not_intro h5)]; exact z.ok0 rfl
    · rw [if_neg h2, if_pos ((inR_o Y X t 0 8).mpr h2)]; exact z.ok0 rfl
/-- OUT or back -/
theorem St.out (z : St c q m n D H B l h X Y) {j : Nat} (hj : j < q) {v : Int32} (hv : 0 ≤ v.toInt ∧ v.toInt ≤ 1) : St (c + 1) q m n D H B l h (up2 X 8 j v) (up2 Y 76 j v) ∧ FX X (up2 X 8 j v) ∧ FY Y (up2 Y 76 j v) := by
  have h12 := z.hq.2.1
  obtain ⟨e70, e71, e72, e73, e74, e75, e76, e77, e78, e79, e80, e81, e82, e83, b3, b5, b7, b8, b13, b14, b15⟩ := z.2.1.nx
  exact ⟨⟨z.1.nx, ⟨e70, e71, e72, e73, e74, e75, e76.up _ _, e77, e78, e79, e80, e81, e82, e83, b3, b5, b7, b8.up hv, b13, b14, b15⟩, z.2.2.1.nx, z.2.2.2⟩, FX.rfl.u2 (by decide) _ _, FY.rfl.u2 (nwr (N := 12) (by decide) rfl (by omega)) _⟩
theorem pp_walk (z : St c q m n D H B l h X Y) (hA : AR n xa xl N X Y) (hB : XB n xa xl) (L L' : Nat → Nat → Int64) (p o : Int32) (ho : o = 0 ∨ o = 1) : Ok c n X Y (xWalk X L xa xl n m q p o).2 (yWalk Y L' n m q p o).2 (xWalk X L xa xl n m q p o).1 (yWalk Y L' n m q p o).1 := by
  unfold xWalk yWalk
  have hh := z.held p
  have h12 := z.hq.2.1
  by_cases a : isHeld X p = 0
  · have e : ∀ (A B C : Int32 × (Nat → Nat → Int32)), (if o = 0 then (if isHeld X p = 0 then A else B) else (if isHeld X p = 0 then A else C)) = A := by
      intro A B C
      rw [if_pos a, if_pos a, ite_self]
    rw [e]
    by_cases b : isPer Y p = 0
    · rw [if_pos b]; exact z.ok0 rfl
    · rw [if_neg b, if_pos ((hh.mp a).resolve_left b)]; exact z.ok0 rfl
  · rw [if_neg a, if_neg a, if_neg (fun y => a (hh.mpr (Or.inl y))), if_neg (fun y => a (hh.mpr (Or.inr y)))]
    obtain ⟨j, hj, rfl, h5⟩ := z.held_ex a
    rw [nI_clamp (by omega), z.2.1.2.2.2.2.2.2.1 j hj]
    have f8 := f01 (z.2.1.2.2.2.2.2.2.2.2.2.2.2.2.2.2.2.2.2.1 j hj)
    rcases ho with rfl | rfl
    · rw [if_pos rfl]
      by_cases g : X 8 j = 0
      · rw [if_neg (not_not_intro g), if_pos g]; exact z.ok0 rfl
      · rw [if_pos g, if_neg g, if_pos rfl, show vp_nar .boolean (0 : Int32) = 0 from rfl]
        obtain ⟨z1, x1, y1⟩ := (z.c61 0 0).out hj (v := 0) (by decide)
        exact ⟨rfl, x1, (FY.rfl.u2 n61 0).trans y1, q, m, D, H, B, l, h, z1⟩
    · rw [if_neg one_nz]
      by_cases g : X 8 j = 1
      · rw [if_neg (not_not_intro g), if_pos g]; exact z.ok0 rfl
      · rw [if_pos g, if_neg g, if_neg one_nz]
        have et := (z.tells hA hB L L' hj (k := 3) (by decide))
        rw [show (3 : Int32) = nI 3 from rfl, ← et]
        by_cases w : nowT X L xa xl n m (nI j) (nI 3) = 0
        · rw [if_neg (not_not_intro w), if_neg (not_not_intro w)]
          exact ⟨rfl, FX.rfl.u38 _, (FY.rfl.u2 n61 0).u121 _, q, m, D, H, B, l, h, (z.nx.c61 0 0).c38 _ |>.c121 _⟩
        · rw [if_pos w, if_pos w, show vp_nar .boolean (1 : Int32) = 1 from rfl]
          obtain ⟨z1, x1, y1⟩ := (((z.c61 0 0).c38 (nowG (X 38) X L xa n m (nI j))).c121 (lookG (Y 121) Y L' (nI j) m)).out hj (v := 1) (by decide)
          exact ⟨rfl, (FX.rfl.u38 _).trans x1, ((FY.rfl.u2 n61 0).u121 _).trans y1, q, m, D, H, B, l, h, z1⟩
/-- who owes whom -/
theorem cred_bit {X : Nat → Nat → Int32} {m : Nat} (L : Nat → Nat → Int64) (hm : X 16 0 = nI m) (hb : m ≤ 40) (hcr : ∀ d, d < m → 0 ≤ (X 18 d).toInt ∧ (X 18 d).toInt < 12) (p : Int32) {i : Nat} (hi : i < 12) : ∀ k, k ≤ m → (bt (credOf_it X L p k) i = true ↔ ∃ d, d < k ∧ X 24 d = 0 ∧ X 17 d = p ∧ X 18 d = nI i) := by
  intro k
  induction k with
  | zero =>
    intro _
    constructor
    · intro e; rw [show credOf_it X L p 0 = 0 from rfl, b_0] at e; cases e
    · rintro ⟨d, hd, -⟩; omega
  | succ k ih =>
    intro hk
    rw [credOf_it_s]
    unfold credOf_st
    rw [owes_at hm hb (by omega), nI_clamp (by omega), b_or, Bool.or_eq_true, ih (by omega)]
    obtain ⟨w, hw, ew⟩ := rng_nI (x := X 18 k) (N := 12) (hcr k (by omega))
    constructor
    · rintro (⟨d, hd, e⟩ | e)
      · exact ⟨d, by omega, e⟩
      · by_cases g : X 24 k = 0 ∧ X 17 k = p
        · rw [if_pos g, if_neg one_nz, ew, b_bit (by omega) (by omega)] at e
          exact ⟨k, by omega, g.1, g.2, by rw [ew, of_decide_eq_true e]⟩
        · rw [if_neg g, if_pos rfl, b_0] at e; cases e
    · rintro ⟨d, hd, e1, e2, e3⟩
      by_cases g : d = k
      · subst g
        right
        rw [if_pos (And.intro e1 e2), if_neg one_nz, e3, b_bit (by omega) (by omega), decide_eq_true rfl]
      · exact Or.inl ⟨d, by omega, e1, e2, e3⟩
theorem owe_ex {Y : Nat → Nat → Int32} (L' : Nat → Nat → Int64) (p t : Int32) : ∀ f j, f + j < 2 ^ 31 → (owe_sr Y L' p t f j = 0 ↔ ¬ ∃ d, j ≤ d ∧ d < j + f ∧ Y 94 d = 0 ∧ Y 87 d = p ∧ Y 88 d = t) := by
  intro f
  induction f with
  | zero => intro j _; exact ⟨fun _ => by rintro ⟨d, h1, h2, -⟩; omega, fun _ => rfl⟩
  | succ f ih =>
    intro j hj
    rw [owe_sr, nI_clamp (by omega)]
    by_cases g : Y 94 j = 0 ∧ Y 87 j = p ∧ Y 88 j = t
    · rw [if_neg (not_not_intro g.1), if_neg (not_not_intro g.2.1), if_neg (not_not_intro g.2.2)]
      exact ⟨fun e => absurd e one_nz, fun e => absurd ⟨j, by omega, by omega, g⟩ e⟩
    · have e : (if ¬ Y 94 j = 0 then owe_sr Y L' p t f (j + 1) else if ¬ Y 87 j = p then owe_sr Y L' p t f (j + 1) else if ¬ Y 88 j = t then owe_sr Y L' p t f (j + 1) else (1 : Int32)) = owe_sr Y L' p t f (j + 1) := by
        by_cases g1 : Y 94 j = 0
        · rw [if_neg (not_not_intro g1)]
          by_cases g2 : Y 87 j = p
          · rw [if_neg (not_not_intro g2), if_pos (fun g3 => g ⟨g1, g2, g3⟩)]
          · rw [if_pos g2]
        · rw [if_pos g1]
      rw [e, ih (j + 1) (by omega)]
      constructor
      · intro w; rintro ⟨d, h1, h2, h3⟩
        by_cases e2 : d = j
        · subst e2; exact g h3
        · exact w ⟨d, by omega, by omega, h3⟩
      · intro w; rintro ⟨d, h1, h2, h3⟩
        exact w ⟨d, by omega, by omega, h3⟩
end
