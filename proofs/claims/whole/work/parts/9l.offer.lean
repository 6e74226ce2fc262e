/-! binds, offer -/
theorem bnd_01 (vo si nu wo : Int32) (aw sw : Int64) : bnd vo si nu wo aw sw = 0 ∨ bnd vo si nu wo aw sw = 1 := by
  unfold bnd
  repeat' split
  all_goals first | exact Or.inl rfl | exact Or.inr rfl
theorem asI_f2 (Y : Nat → Nat → Int32) (L : Nat → Nat → Int64) (n m : Nat) (p : Int32) : FY Y (asI Y L n m p) ∧ ∀ a, a ≤ 113 → asI Y L n m p a = Y a := by
  refine ⟨?_, fun a ha => ?_⟩
  · unfold asI
    exact ((FY.rfl.u121 _).u1 (Or.inl (by decide))).u1 (Or.inl (by decide))
  · unfold asI; rw [up1_ne (by omega), up1_ne (by omega), up1_ne (by omega)]
theorem bNow_f2 (Y : Nat → Nat → Int32) (L : Nat → Nat → Int64) (n m q : Nat) (p r : Int32) : FY Y (bNow Y L n m q p r).2 ∧ ∀ a, a ≤ 113 → (bNow Y L n m q p r).2 a = Y a := by
  have e : (bNow Y L n m q p r).2 = up1 (up1 (asI Y L n m p) 121 (lookG ((asI Y L n m p) 121) (asI Y L n m p) L p m)) 121 (lookG (lookG ((asI Y L n m p) 121) (asI Y L n m p) L p m) (asI Y L n m p) L p m) := bSo_mem _ _ _ _ _ _ _ _
  rw [e]
  obtain ⟨h1, h2⟩ := asI_f2 Y L n m p
  exact ⟨(h1.u121 _).u121 _, fun a ha => by rw [up1_ne (by omega), up1_ne (by omega)]; exact h2 a ha⟩
theorem vCall_fr (X : Nat → Nat → Int32) (L : Nat → Nat → Int64) (xa xl : Nat → Nat) (n m : Nat) (p : Int32) : FX X (vCall X L xa xl n m p) ∧ ∀ a, a ≤ 35 → vCall X L xa xl n m p a = X a := by
  unfold vCall
  exact ⟨((((((FX.rfl.u2 (by decide) _ _).u38 _).u2 (by decide) _ _).u38 _).u2 (by decide) _ _).u38 _).u2 (by decide) _ _, fun a ha => by simp (disch := omega) only [up1_ne, up2_ne]⟩
section
variable {c q m n D H B l h : Nat} {X Y : Nat → Nat → Int32} {xa xl N : Nat → Nat}
/-- what the vote is called with -/
def VC (X Y : Nat → Nat → Int32) (L' : Nat → Nat → Int64) (n m P : Nat) : Prop := X 44 0 = nI P ∧ (X 44 1 = if tlNow Y L' n m (nI P) 6 = 0 then 0 else 1) ∧ X 44 2 = tlNow Y L' n m (nI P) 4 ∧ X 44 3 = tlNow Y L' n m (nI P) 5
theorem St.called (z : St c q m n D H B l h X Y) (hA : AR n xa xl N X Y) (hB : XB n xa xl) (L L' : Nat → Nat → Int64) {P : Nat} (hP : P < q) : St c q m n D H B l h (vCall X L xa xl n m (nI P)) Y ∧ VC (vCall X L xa xl n m (nI P)) Y L' n m P := by
  refine ⟨z.cgX (vCall_fr X L xa xl n m (nI P)).2, rfl, ?_, ?_, ?_⟩
  · show (if nowT X L xa xl n m (nI P) 6 = 0 then (0 : Int32) else 1) = _
    rw [show nowT X L xa xl n m (nI P) 6 = tlNow Y L' n m (nI P) 6 from z.tells hA hB L L' hP (k := 6) (by decide)]
  · exact z.tells hA hB L L' hP (k := 4) (by decide)
  · exact z.tells hA hB L L' hP (k := 5) (by decide)
theorem St.votedC (z : St c q m n D H B l h X Y) (L L' : Nat → Nat → Int64) {P : Nat} (hP : P < q) (hV : VC X Y L' n m P) (r : Int32) : vAt X L r m = (bNow Y L' n m q (nI P) r).1 := z.voted L L' hP hV.1 hV.2.1 hV.2.2.1 hV.2.2.2 r
theorem VC.cg {X X' Y Y' : Nat → Nat → Int32} {L' : Nat → Nat → Int64} {n m P : Nat} (hV : VC X Y L' n m P) (hx : X' 44 0 = X 44 0 ∧ X' 44 1 = X 44 1 ∧ X' 44 2 = X 44 2 ∧ X' 44 3 = X 44 3) (hy : ∀ a, a ≤ 113 → Y' a = Y a) : VC X' Y' L' n m P := by
  have e : ∀ w, tlNow Y' L' n m (nI P) w = tlNow Y L' n m (nI P) w := fun w => tlNow_cg (fun a ha => hy a (by unfold relR at ha; omega)) L' n m (nI P) w
  exact ⟨hx.1.trans hV.1, by rw [e, hx.2.1]; exact hV.2.1, by rw [e, hx.2.2.1]; exact hV.2.2.1, by rw [e, hx.2.2.2]; exact hV.2.2.2⟩
theorem vt_fr (X : Nat → Nat → Int32) (S : Nat → Int32) (v : (Nat → Int32) × Int32 × Int32 × Int64 × Int64) : FX X (vtI X S v) ∧ ∀ a, a ≤ 35 → vtI X S v a = X a := by
  unfold vtI
  exact ⟨(((FX.rfl.u1 (by decide) _).u1 (by decide) _).u2 (by decide) _ _).u2 (by decide) _ _, fun a ha => by simp (disch := omega) only [up1_ne, up2_ne]⟩
theorem pp_binds (z : St c q m n D H B l h X Y) (hA : AR n xa xl N X Y) (hB : XB n xa xl) (L L' : Nat → Nat → Int64) (p r : Int32) : Ok c n X Y (xBinds X L xa xl n m q p r).2.1 (yBinds Y L' n m q p r).2 (xBinds X L xa xl n m q p r).1 (yBinds Y L' n m q p r).1 := by
  unfold xBinds yBinds
  by_cases h1 : hasP X p = 0
  · rw [if_pos h1, if_pos ((z.per p).mp h1)]; exact z.ok0 rfl
  · rw [if_neg h1, if_neg (fun y => h1 ((z.per p).mpr y))]
    by_cases h2 : outside X r 0 1000 = 0
    · rw [if_pos h2, if_neg (fun w => (inR_o Y X r 0 1000).mp w h2)]
      obtain ⟨P, hP, rfl⟩ := z.per_ex h1
      obtain ⟨z1, hV⟩ := (z.c61 0 0).called hA hB L L' hP
      have ev := z1.votedC L L' hP hV r
      have fb := bNow_f2 (up2 Y 61 0 0) L' n m q (nI P) r
      have fv := vt_fr (vCall X L xa xl n m (nI P)) (vsS (vCall X L xa xl n m (nI P)) L r (-1)) (vtk (vCall X L xa xl n m (nI P)) L r (-1) m)
      have zz := ((z1.nx.cgX fv.2).cgY (fun a g1 g2 => fb.2 a (by omega)))
      have v01 := vAt_01 (vCall X L xa xl n m (nI P)) L r m
      by_cases g : (bNow (up2 Y 61 0 0) L' n m q (nI P) r).1 = 0
      · rw [if_pos g]
        exact ⟨ev.trans g, (vCall_fr X L xa xl n m (nI P)).1.trans fv.1, (FY.rfl.u2 n61 0).trans fb.1, q, m, D, H, B, l, h, zz⟩
      · rw [if_neg g]
        exact ⟨v01.resolve_left (fun y => g (ev.symm.trans y)), (vCall_fr X L xa xl n m (nI P)).1.trans fv.1, (FY.rfl.u2 n61 0).trans fb.1, q, m, D, H, B, l, h, zz⟩
    · rw [if_neg h2, if_pos ((inR_o Y X r 0 1000).mpr h2)]; exact z.ok0 rfl
theorem tSi_sg {cn : Nat → Bool} {wh : Nat → Nat} {sg sg' : Nat → Bool} {q m : Nat} (e : ∀ p, p < q → sg p = sg' p) : tSi cn wh sg q m = tSi cn wh sg' q m := sumN_cg (fun p hp => by simp only [e p hp])
theorem tSw_sg {cn : Nat → Bool} {wh : Nat → Nat} {du : Nat → Int64} {sg sg' : Nat → Bool} {q m : Nat} (e : ∀ p, p < q → sg p = sg' p) : tSw cn wh du sg q m = tSw cn wh du sg' q m := sumL_cg (fun p hp => by simp only [e p hp])
/-- who SIGNS decides -/
theorem St.vsame (z : St c q m n D H B l h X Y) (L : Nat → Nat → Int64) {P : Nat} (hP : P < q) (h0 : X 44 0 = nI P) {r r' : Int32} (hr : ∀ p, p < q → ((r < 1000 - X 33 (12 * p + P)) ↔ (r' < 1000 - X 33 (12 * p + P)))) : vAt X L r m = vAt X L r' m := by
  have h12 := z.hq.2.1
  obtain ⟨t1, t2, t3, t4, t5⟩ := z.tal L hP h0 r (-1)
  obtain ⟨u1, u2, u3, u4, u5⟩ := z.tal L hP h0 r' (-1)
  have hv : ∀ r, vAt X L r m = bnd (vtk X L r (-1) m).2.1 (vtk X L r (-1) m).2.2.1 (X 44 2) (X 44 3) (vtk X L r (-1) m).2.2.2.1 (vtk X L r (-1) m).2.2.2.2 := fun r => rfl
  have es : ∀ p, p < q → decide (nI p = (-1 : Int32) ∨ ¬ r < 1000 - X 33 (12 * p + P)) = decide (nI p = (-1 : Int32) ∨ ¬ r' < 1000 - X 33 (12 * p + P)) := fun p hp => decide_eq_decide.mpr (by rw [hr p hp])
  rw [hv, hv, t2, t3, t4, t5, u2, u3, u4, u5]
  have e1 : tSi (fun j => cnX X P (X 44 1) j && decide (j < m)) (whX X) (fun p => decide (nI p = (-1 : Int32) ∨ ¬ r < 1000 - X 33 (12 * p + P))) q m = tSi (fun j => cnX X P (X 44 1) j && decide (j < m)) (whX X) (fun p => decide (nI p = (-1 : Int32) ∨ ¬ r' < 1000 - X 33 (12 * p + P))) q m := tSi_sg es
  have e2 : tSw (fun j => cnX X P (X 44 1) j && decide (j < m)) (whX X) (duX X) (fun p => decide (nI p = (-1 : Int32) ∨ ¬ r < 1000 - X 33 (12 * p + P))) q m = tSw (fun j => cnX X P (X 44 1) j && decide (j < m)) (whX X) (duX X) (fun p => decide (nI p = (-1 : Int32) ∨ ¬ r' < 1000 - X 33 (12 * p + P))) q m := tSw_sg es
  rw [e1, e2]
/-- the reference's search: the first offer that binds -/
theorem of_eq {b : Nat → Prop} {L' : Nat → Nat → Int64} {n m q P : Nat} {Y : Nat → Nat → Int32} (hb : ∀ J, (∀ a, a ≤ 113 → J a = Y a) → ∀ r, r ≤ 1000 → ((bNow J L' n m q (nI P) (nI r)).1 = 0 ↔ ¬ b r)) : ∀ f j J, (∀ a, a ≤ 113 → J a = Y a) → FY Y J → f + j = 1001 → (∀ a, a ≤ 113 → (ofF L' n m q (nI P) f j J).2 a = Y a) ∧ FY Y (ofF L' n m q (nI P) f j J).2 ∧ (((ofF L' n m q (nI P) f j J).1 = -1 ∧ ∀ r, j ≤ r → r ≤ 1000 → ¬ b r) ∨ ∃ r, j ≤ r ∧ r ≤ 1000 ∧ (ofF L' n m q (nI P) f j J).1 = nI r ∧ b r ∧ ∀ r', j ≤ r' → r' < r → ¬ b r') := by
  intro f
  induction f with
  | zero => intro j J hJ hF hj; exact ⟨hJ, hF, Or.inl ⟨rfl, fun r h1 h2 => by omega⟩⟩
  | succ f ih =>
    intro j J hJ hF hj
    have fr := bNow_f2 J L' n m q (nI P) (nI j)
    have hJ' : ∀ a, a ≤ 113 → (bNow J L' n m q (nI P) (nI j)).2 a = Y a := fun a ha => (fr.2 a ha).trans (hJ a ha)
    have hbj := hb J hJ j (by omega)
    rw [ofF]
    by_cases g : (bNow J L' n m q (nI P) (nI j)).1 = 0
    · rw [if_pos g]
      obtain ⟨i1, i2, i3⟩ := ih (j + 1) _ hJ' (hF.trans fr.1) (by omega)
      refine ⟨i1, i2, ?_⟩
      rcases i3 with ⟨e, w⟩ | ⟨r, r1, r2, r3, r4, r5⟩
      · left
        refine ⟨e, fun r h1 h2 => ?_⟩
        by_cases e2 : r = j
        · subst e2; exact hbj.mp g
        · exact w r (by omega) h2
      · right
        refine ⟨r, by omega, r2, r3, r4, fun r' h1 h2 => ?_⟩
        by_cases e2 : r' = j
        · subst e2; exact hbj.mp g
        · exact r5 r' (by omega) h2
    · rw [if_neg g]
      exact ⟨hJ', hF.trans fr.1, Or.inr ⟨j, Nat.le_refl _, by omega, rfl, Classical.byContradiction (fun y => g (hbj.mpr y)), fun r' h1 h2 => by omega⟩⟩
/-- the class's search -/
theorem St.offered (z : St c q m n D H B l h X Y) (L L' : Nat → Nat → Int64) {P : Nat} (hP : P < q) (hV : VC X Y L' n m P) (b0 : Int32) (g0 g1 : Nat → Int32) (u0 u1 : Int32) (w0 w1 : Int64) (hb0 : b0 = if (bNow Y L' n m q (nI P) 0).1 = 0 then -1 else 0) : ∀ k, k ≤ q → ((lo_it X L b0 g0 g1 u0 u1 w0 w1 m k).1 = -1 ∧ (bNow Y L' n m q (nI P) 0).1 = 0 ∧ ∀ p, p < k → (bNow Y L' n m q (nI P) (1000 - X 33 (12 * p + P))).1 = 0) ∨ ∃ r, r ≤ 1000 ∧ (lo_it X L b0 g0 g1 u0 u1 w0 w1 m k).1 = nI r ∧ ¬ (bNow Y L' n m q (nI P) (nI r)).1 = 0 ∧ ((bNow Y L' n m q (nI P) 0).1 = 0 ∨ r = 0) ∧ ∀ p, p < k → ¬ (bNow Y L' n m q (nI P) (1000 - X 33 (12 * p + P))).1 = 0 → (r : Int) ≤ ((1000 : Int32) - X 33 (12 * p + P)).toInt := by
  have h12 := z.hq.2.1
  intro k
  induction k with
  | zero =>
    intro _
    show (b0 = -1 ∧ _) ∨ ∃ r, r ≤ 1000 ∧ b0 = nI r ∧ _
    by_cases e : (bNow Y L' n m q (nI P) 0).1 = 0
    · left; rw [hb0, if_pos e]; exact ⟨rfl, e, fun p hp => by omega⟩
    · right; rw [hb0, if_neg e]; exact ⟨0, by omega, rfl, e, Or.inr rfl, fun p hp => by omega⟩
  | succ k ih =>
    intro hk
    have hL := z.2.2.2.1 k P (by omega) (by omega)
    have er : ((1000 : Int32) - X 33 (12 * k + P)).toInt = 1000 - (X 33 (12 * k + P)).toInt := by rw [sub_toInt (by rw [toI_1000]; omega) (by rw [toI_1000]; omega), toI_1000]
    obtain ⟨t, ht, et⟩ := rng_nI (x := (1000 : Int32) - X 33 (12 * k + P)) (N := 1001) ⟨by omega, by omega⟩
    have hk2 := ih (by omega)
    rw [lo_it_s]
    generalize lo_it X L b0 g0 g1 u0 u1 w0 w1 m k = s at hk2
    obtain ⟨s0, s1, s2, s3, s4, s5, s6⟩ := s
    dsimp only at hk2
    unfold lo_st
    dsimp only
    have el : leastOf X (nI k) (X 44 0) = nI t := by unfold leastOf; rw [hV.1, k12, nI_clamp (by omega)]; exact et
    rw [el]
    have zz : St c q m n D H B l h (up2 (up2 (up1 (up1 X 46 s1) 45 s2) 44 6 s3) 44 7 s4) Y := z.cgX (fun a ha => by simp (disch := omega) only [up1_ne, up2_ne])
    have ev := zz.votedC (up2 (up2 L 44 8 s5) 44 9 s6) L' hP (hV.cg ⟨rfl, rfl, rfl, rfl⟩ (fun a _ => rfl)) (nI t)
    rw [ev]
    have lp : ∀ p, p < k + 1 → p < k ∨ p = k := fun p hp => by omega
    rcases hk2 with ⟨a1, a2, a3⟩ | ⟨r, r1, r2, r3, r4, r5⟩
    · rw [if_pos a1]
      by_cases g : (bNow Y L' n m q (nI P) (nI t)).1 = 0
      · rw [if_pos g]
        left
        refine ⟨a1, a2, fun p hp => ?_⟩
        rcases lp p hp with y | y
        · exact a3 p y
        · subst y; rw [et]; exact g
      · rw [if_neg g]
        right
        refine ⟨t, by omega, rfl, g, Or.inl a2, fun p hp hn => ?_⟩
        rcases lp p hp with y | y
        · exact absurd (a3 p y) hn
        · subst y; rw [et, nI_toInt (by omega)]; exact Int.le_refl _
    · rw [if_neg (show ¬ s0 = -1 by rw [r2, ← Int32.toInt_inj, nI_toInt (by omega), toI_m1]; omega)]
      by_cases g1 : s0 ≤ nI t
      · rw [if_pos g1]
        right
        refine ⟨r, r1, r2, r3, r4, fun p hp hn => ?_⟩
        rcases lp p hp with y | y
        · exact r5 p y hn
        · subst y; rw [et]; rw [r2, Int32.le_iff_toInt_le, nI_toInt (by omega)] at g1; exact g1
      · rw [if_neg g1]
        rw [r2, Int32.le_iff_toInt_le, nI_toInt (by omega), nI_toInt (by omega)] at g1
        by_cases g : (bNow Y L' n m q (nI P) (nI t)).1 = 0
        · rw [if_pos g]
          right
          refine ⟨r, r1, r2, r3, r4, fun p hp hn => ?_⟩
          rcases lp p hp with y | y
          · exact r5 p y hn
          · subst y; rw [et] at hn; exact absurd g hn
        · rw [if_neg g]
          right
          refine ⟨t, by omega, rfl, g, ?_, fun p hp hn => ?_⟩
          · rcases r4 with y | y
            · exact Or.inl y
            · omega
          · rcases lp p hp with y | y
            · have := r5 p y hn; omega
            · subst y; rw [et, nI_toInt (by omega)]; exact Int.le_refl _
end
