/-! THE SWING: the tally when one DEBT is bought, or given back -/
theorem l_asc (a b : Int64) : a + b - b = a := by
  apply Int64.toBitVec_inj.mp
  rw [Int64.toBitVec_sub, Int64.toBitVec_add]
  exact BitVec.add_sub_cancel _ _
theorem Tally.cg {q m : Nat} {cn cn' : Nat → Bool} {wh wh' : Nat → Nat} {du : Nat → Int64} {sg : Nat → Bool} {g : Nat → Int32} {vo si : Int32} {aw sw : Int64} (h : Tally q m cn wh du sg g vo si aw sw) (e : ∀ j, j < m → cn j = cn' j ∧ (cn j = true → wh j = wh' j)) : Tally q m cn' wh' du sg g vo si aw sw := by
  have ec : ∀ p, cntN cn wh p m = cntN cn' wh' p m := fun p => cntN_cg e
  have eo : ∀ p, ownN cn wh du p m = ownN cn' wh' du p m := fun p => ownN_cg (fun j hj => ⟨(e j hj).1, fun y => ⟨(e j hj).2 y, rfl⟩⟩)
  unfold Tally tVo tSi tAw tSw at h ⊢
  simp only [ec, eo] at h
  exact h
theorem Tally.drop {q m : Nat} {cn : Nat → Bool} {wh : Nat → Nat} {du : Nat → Int64} {sg : Nat → Bool} {g : Nat → Int32} {vo si : Int32} {aw sw : Int64} (h : Tally q m cn wh du sg g vo si aw sw) {I : Nat → Nat → Int32} (L : Nat → Nat → Int64) (hq : q ≤ 12) (hm : m ≤ 40) (hs : ∀ p, p < q → (I 46 p = 0 ↔ sg p = false)) {k p0 : Nat} (hk : k < m) (hc : cn k = true) (hw : wh k = p0) (hp : p0 < q) {x : Int32} (hx : x.toInt64 = du k) : Tally q m (upr cn k false) wh du sg (vDrop I L g vo si aw sw (nI p0) x).1 (vDrop I L g vo si aw sw (nI p0) x).2.1 (vDrop I L g vo si aw sw (nI p0) x).2.2.1 (vDrop I L g vo si aw sw (nI p0) x).2.2.2.1 (vDrop I L g vo si aw sw (nI p0) x).2.2.2.2 := by
  obtain ⟨h1, h2, h3, h4, h5⟩ := h
  have back1 : upr (upr cn k false) k true = cn := by
    funext j
    by_cases e : j = k
    · subst e; rw [upr_at]; exact hc.symm
    · rw [upr_ne e, upr_ne e]
  have back2 : upr wh k p0 = wh := by
    funext j
    by_cases e : j = k
    · subst e; rw [upr_at]; exact hw.symm
    · rw [upr_ne e]
  have hc' : upr cn k false k = false := upr_at _ _ _
  have c1 : ∀ p, cntN cn wh p m = cntN (upr cn k false) wh p m + (if p0 = p then 1 else 0) := fun p => by
    have w := cntN_add (wh := wh) (p := p) (p0 := p0) hc' (m := m)
    rw [back1, back2] at w
    rw [w]; congr 1; by_cases e : p0 = p
    · rw [if_pos (show k < m ∧ p0 = p from ⟨hk, e⟩), if_pos e]
    · rw [if_neg (show ¬ (k < m ∧ p0 = p) from fun y => e y.2), if_neg e]
  have o1 : ∀ p, ownN cn wh du p m = ownN (upr cn k false) wh du p m + (if p0 = p then du k else 0) := fun p => by
    have w := ownN_add (wh := wh) (du := du) (p := p) (p0 := p0) hc' (m := m)
    rw [back1, back2] at w
    rw [w]; congr 1; by_cases e : p0 = p
    · rw [if_pos (show k < m ∧ p0 = p from ⟨hk, e⟩), if_pos e]
    · rw [if_neg (show ¬ (k < m ∧ p0 = p) from fun y => e y.2), if_neg e]
  have le := cntN_le (upr cn k false) wh p0 m
  have ep0 : cntN cn wh p0 m = cntN (upr cn k false) wh p0 m + 1 := by rw [c1, if_pos rfl]
  have gv : g p0 - 1 = nI (cntN (upr cn k false) wh p0 m) := by rw [h1 p0 hp, ep0, nI_p1 (by omega)]; rfl
  have gA : ∀ p, p < q → upr g p0 (g p0 - 1) p = nI (cntN (upr cn k false) wh p m) := by
    intro p hp'
    by_cases e : p = p0
    · subst e; rw [upr_at]; exact gv
    · rw [upr_ne e, h1 p hp', c1, if_neg (fun y => e y.symm), Nat.add_zero]
  have aA : aw - x.toInt64 = tAw (upr cn k false) wh du q m := by
    have w : tAw cn wh du q m = tAw (upr cn k false) wh du q m + du k := by
      unfold tAw
      rw [sumL_at (f := fun p => ownN (upr cn k false) wh du p m) (g := fun p => ownN cn wh du p m) (k := p0) (a := du k) (fun j hj => by show ownN cn wh du j m = _; rw [o1, if_neg (fun y => hj y.symm), Int64.add_zero]) (by show ownN cn wh du p0 m = _; rw [o1, if_pos rfl]), if_pos hp]
    rw [h4, hx, w, l_asc]
  have sT : sg p0 = true → sw - x.toInt64 = tSw (upr cn k false) wh du sg q m := by
    intro e
    have w : tSw cn wh du sg q m = tSw (upr cn k false) wh du sg q m + du k := by
      unfold tSw
      rw [sumL_at (f := fun p => if sg p = true then ownN (upr cn k false) wh du p m else 0) (g := fun p => if sg p = true then ownN cn wh du p m else 0) (k := p0) (a := du k) (fun j hj => by rw [o1, if_neg (show ¬ p0 = j from fun y => hj y.symm), Int64.add_zero]) (by rw [if_pos e, if_pos e, o1, if_pos rfl]), if_pos hp]
    rw [h5, hx, w, l_asc]
  have sF : sg p0 = false → sw = tSw (upr cn k false) wh du sg q m := by
    intro e
    rw [h5]
    unfold tSw
    refine sumL_cg (fun j hj => ?_)
    rw [o1]
    by_cases e2 : p0 = j
    · subst e2; rw [e]; simp
    · rw [if_neg e2, Int64.add_zero]
  unfold vDrop
  rw [nI_clamp (by omega), up2_at, gv]
  by_cases z0 : 0 < cntN (upr cn k false) wh p0 m
  · have vA : tVo cn wh q m = tVo (upr cn k false) wh q m := sumN_cg (fun j hj => by
      rw [c1]
      by_cases e : p0 = j
      · subst e; rw [if_pos rfl, if_pos z0, if_pos (by omega)]
      · rw [if_neg e, Nat.add_zero])
    have sA : tSi cn wh sg q m = tSi (upr cn k false) wh sg q m := sumN_cg (fun j hj => by
      rw [c1]
      by_cases e : p0 = j
      · subst e
        by_cases e2 : sg p0 = true
        · rw [if_pos (⟨by omega, e2⟩ : 0 < cntN (upr cn k false) wh p0 m + _ ∧ _), if_pos ⟨z0, e2⟩]
        · rw [if_neg (fun y => e2 y.2), if_neg (fun y => e2 y.2)]
      · rw [if_neg e, Nat.add_zero])
    rw [if_pos (show ¬ nI (cntN (upr cn k false) wh p0 m) = 0 by rw [← Int32.toInt_inj, nI_toInt (by omega), toI_0]; omega)]
    refine ⟨by rw [← gv]; exact gA, by rw [← vA]; exact h2, by rw [← sA]; exact h3, aA, ?_⟩
    show sw - (if I 46 p0 = 0 then 0 else x.toInt64) = _
    cases e : sg p0 with
    | false => rw [if_pos ((hs p0 hp).mpr e), Int64.sub_zero]; exact sF e
    | true => rw [if_neg (fun y => by rw [(hs p0 hp).mp y] at e; cases e)]; exact sT e
  · have z1 : cntN (upr cn k false) wh p0 m = 0 := by omega
    have vA : tVo cn wh q m = tVo (upr cn k false) wh q m + 1 := by
      unfold tVo
      rw [sumN_at (f := fun p => if 0 < cntN (upr cn k false) wh p m then 1 else 0) (g := fun p => if 0 < cntN cn wh p m then 1 else 0) (k := p0) (a := 1) (fun j hj => by rw [c1, if_neg (show ¬ p0 = j from fun y => hj y.symm), Nat.add_zero]) (by rw [c1, if_pos rfl, if_neg z0, if_pos (by omega)]), if_pos hp]
    have vB : vo - 1 = nI (tVo (upr cn k false) wh q m) := by rw [h2, vA, nI_p1 (by omega)]; rfl
    rw [if_neg (not_not_intro (show nI (cntN (upr cn k false) wh p0 m) = 0 by rw [z1]; rfl))]
    have sA0 : sg p0 = false → tSi cn wh sg q m = tSi (upr cn k false) wh sg q m := fun es => sumN_cg (fun j hj => by
      rw [c1]
      by_cases e : p0 = j
      · subst e; rw [if_neg (fun y => by rw [es] at y; exact absurd y.2 (by decide)), if_neg (fun y => by rw [es] at y; exact absurd y.2 (by decide))]
      · rw [if_neg e, Nat.add_zero])
    have sA1 : sg p0 = true → tSi cn wh sg q m = tSi (upr cn k false) wh sg q m + 1 := by
      intro es
      unfold tSi
      rw [sumN_at (f := fun p => if 0 < cntN (upr cn k false) wh p m ∧ sg p = true then 1 else 0) (g := fun p => if 0 < cntN cn wh p m ∧ sg p = true then 1 else 0) (k := p0) (a := 1) (fun j hj => by rw [c1, if_neg (show ¬ p0 = j from fun y => hj y.symm), Nat.add_zero]) (by rw [c1, if_pos rfl, if_pos (show 0 < cntN (upr cn k false) wh p0 m + 1 ∧ sg p0 = true from ⟨by omega, es⟩), if_neg (show ¬ (0 < cntN (upr cn k false) wh p0 m ∧ sg p0 = true) from fun y => z0 y.1)]), if_pos hp]
    cases e : sg p0 with
    | false =>
      rw [if_pos ((hs p0 hp).mpr e)]
      refine ⟨by rw [← gv]; exact gA, vB, ?_, aA, ?_⟩
      · show si - 0 = _
        rw [Int32.sub_zero, ← sA0 e]; exact h3
      · show sw - 0 = _
        rw [Int64.sub_zero]; exact sF e
    | true =>
      rw [if_neg (fun y => by rw [(hs p0 hp).mp y] at e; cases e)]
      exact ⟨by rw [← gv]; exact gA, vB, by rw [h3, sA1 e, nI_p1 (by omega)]; rfl, aA, sT e⟩
/-- one is bought -/
theorem sgT_t {q m : Nat} {cn : Nat → Bool} {wh : Nat → Nat} {du : Nat → Int64} {sg : Nat → Bool} {g : Nat → Int32} {vo si : Int32} {aw sw : Int64} (h : Tally q m cn wh du sg g vo si aw sw) {I : Nat → Nat → Int32} (L : Nat → Nat → Int64) (hq : q ≤ 12) (hm : m ≤ 40) (hs : ∀ p, p < q → (I 46 p = 0 ↔ sg p = false)) {i k ps fr : Nat} (hi : i < 100) (hk : k < m) (hps : ps < q) (hfr : fr < q) (e47 : I 47 3 = nI fr) (e48 : I 48 i = nI ps) (e49 : (I 49 i).toInt64 = du k) (e51 : I 51 i = 0 ↔ cn k = false) (hw : cn k = true → wh k = ps) {bu : Bool} (e44 : I 44 1 = 0 ↔ bu = false) (pr : Int64) : Tally q m (upr cn k bu) (upr wh k fr) du sg (sgT I L g vo si pr aw sw (nI i)).1 (sgT I L g vo si pr aw sw (nI i)).2.1 (sgT I L g vo si pr aw sw (nI i)).2.2.1 (sgT I L g vo si pr aw sw (nI i)).2.2.2.2.1 (sgT I L g vo si pr aw sw (nI i)).2.2.2.2.2 ∧ (sgT I L g vo si pr aw sw (nI i)).2.2.2.1 = pr + (I 50 i).toInt64 := by
  unfold sgT
  rw [nI_clamp (by omega), e47, e48]
  cases c : cn k with
  | false =>
    rw [if_pos (e51.mpr c)]
    cases b : bu with
    | false =>
      rw [if_pos (e44.mpr b)]
      refine ⟨h.cg (fun j hj => ?_), rfl⟩
      by_cases e : j = k
      · subst e; rw [upr_at, c]; exact ⟨rfl, fun y => by cases y⟩
      · rw [upr_ne e, upr_ne e]; exact ⟨rfl, fun _ => rfl⟩
    | true =>
      rw [if_neg (fun y => by rw [e44.mp y] at b; cases b)]
      exact ⟨h.add _ hq hm hs hk c hfr e49, rfl⟩
  | true =>
    rw [if_neg (fun y => by rw [e51.mp y] at c; cases c)]
    have d := h.drop (I := I) (up2 L 47 5 (pr + (I 50 i).toInt64)) hq hm hs hk c (hw c) hps e49
    cases b : bu with
    | false =>
      rw [if_pos (e44.mpr b)]
      refine ⟨d.cg (fun j hj => ?_), rfl⟩
      by_cases e : j = k
      · subst e; rw [upr_at, upr_at]; exact ⟨rfl, fun y => by cases y⟩
      · rw [upr_ne e, upr_ne e]; exact ⟨rfl, fun _ => rfl⟩
    | true =>
      rw [if_neg (fun y => by rw [e44.mp y] at b; cases b)]
      have a := d.add (I := I) (up2 L 47 5 (pr + (I 50 i).toInt64)) hq hm hs hk (upr_at _ _ _) hfr e49
      refine ⟨a.cg (fun j hj => ?_), rfl⟩
      by_cases e : j = k
      · subst e; rw [upr_at, upr_at, upr_at]; exact ⟨rfl, fun _ => rfl⟩
      · rw [upr_ne e, upr_ne e, upr_ne e, upr_ne e]; exact ⟨rfl, fun _ => rfl⟩
/-- one is given back -/
theorem sgG_t {q m : Nat} {cn : Nat → Bool} {wh : Nat → Nat} {du : Nat → Int64} {sg : Nat → Bool} {g : Nat → Int32} {vo si : Int32} {aw sw : Int64} (h : Tally q m cn wh du sg g vo si aw sw) {I : Nat → Nat → Int32} (L : Nat → Nat → Int64) (hq : q ≤ 12) (hm : m ≤ 40) (hs : ∀ p, p < q → (I 46 p = 0 ↔ sg p = false)) {i k ps fr : Nat} (hi : i < 100) (hk : k < m) (hps : ps < q) (hfr : fr < q) (e47 : I 47 3 = nI fr) (e48 : I 48 i = nI ps) (e49 : (I 49 i).toInt64 = du k) {co : Bool} (e51 : I 51 i = 0 ↔ co = false) (hw : cn k = true → wh k = fr) (e44 : I 44 1 = 0 ↔ cn k = false) (pr : Int64) : Tally q m (upr cn k co) (upr wh k ps) du sg (sgG I L g vo si pr aw sw (nI i)).1 (sgG I L g vo si pr aw sw (nI i)).2.1 (sgG I L g vo si pr aw sw (nI i)).2.2.1 (sgG I L g vo si pr aw sw (nI i)).2.2.2.2.1 (sgG I L g vo si pr aw sw (nI i)).2.2.2.2.2 ∧ (sgG I L g vo si pr aw sw (nI i)).2.2.2.1 = pr - (I 50 i).toInt64 := by
  unfold sgG
  rw [nI_clamp (by omega), e47, e48]
  cases c : cn k with
  | false =>
    rw [if_pos (e44.mpr c)]
    cases b : co with
    | false =>
      rw [if_pos (e51.mpr b)]
      refine ⟨h.cg (fun j hj => ?_), rfl⟩
      by_cases e : j = k
      · subst e; rw [upr_at, c]; exact ⟨rfl, fun y => by cases y⟩
      · rw [upr_ne e, upr_ne e]; exact ⟨rfl, fun _ => rfl⟩
    | true =>
      rw [if_neg (fun y => by rw [e51.mp y] at b; cases b)]
      exact ⟨h.add _ hq hm hs hk c hps e49, rfl⟩
  | true =>
    rw [if_neg (fun y => by rw [e44.mp y] at c; cases c)]
    have d := h.drop (I := I) (up2 L 47 5 (pr - (I 50 i).toInt64)) hq hm hs hk c (hw c) hfr e49
    cases b : co with
    | false =>
      rw [if_pos (e51.mpr b)]
      refine ⟨d.cg (fun j hj => ?_), rfl⟩
      by_cases e : j = k
      · subst e; rw [upr_at, upr_at]; exact ⟨rfl, fun y => by cases y⟩
      · rw [upr_ne e, upr_ne e]; exact ⟨rfl, fun _ => rfl⟩
    | true =>
      rw [if_neg (fun y => by rw [e51.mp y] at b; cases b)]
      have a := d.add (I := I) (up2 L 47 5 (pr - (I 50 i).toInt64)) hq hm hs hk (upr_at _ _ _) hps e49
      refine ⟨a.cg (fun j hj => ?_), rfl⟩
      by_cases e : j = k
      · subst e; rw [upr_at, upr_at, upr_at]; exact ⟨rfl, fun _ => rfl⟩
      · rw [upr_ne e, upr_ne e, upr_ne e, upr_ne e]; exact ⟨rfl, fun _ => rfl⟩
