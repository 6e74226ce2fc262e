/-! THE VOTE's tally: whose DEBTS count, who SIGNS, their WORTH -/
def updB {α : Type} (f : Nat → α) (k : Nat) (v : α) : Nat → α := upr f k v
/-- how many DEBTS below m count for p; their WORTH -/
def cntN (cn : Nat → Bool) (wh : Nat → Nat) (p : Nat) : Nat → Nat
  | 0 => 0
  | m + 1 => cntN cn wh p m + (if cn m = true ∧ wh m = p then 1 else 0)
def ownN (cn : Nat → Bool) (wh : Nat → Nat) (du : Nat → Int64) (p : Nat) : Nat → Int64
  | 0 => 0
  | m + 1 => ownN cn wh du p m + (if cn m = true ∧ wh m = p then du m else 0)
def sumN (f : Nat → Nat) : Nat → Nat
  | 0 => 0
  | n + 1 => sumN f n + f n
theorem cntN_cg {cn cn' : Nat → Bool} {wh wh' : Nat → Nat} {p : Nat} : ∀ {m : Nat}, (∀ j, j < m → cn j = cn' j ∧ (cn j = true → wh j = wh' j)) → cntN cn wh p m = cntN cn' wh' p m := by
  intro m
  induction m with
  | zero => intro _; rfl
  | succ m ih =>
    intro h
    rw [cntN, cntN, ih (fun j hj => h j (by omega))]
    obtain ⟨h1, h2⟩ := h m (by omega)
    by_cases e : cn m = true
    · rw [← h1, h2 e]
    · rw [if_neg (fun y => e y.1), if_neg (fun y => e (by rw [h1]; exact y.1))]
theorem ownN_cg {cn cn' : Nat → Bool} {wh wh' : Nat → Nat} {du du' : Nat → Int64} {p : Nat} : ∀ {m : Nat}, (∀ j, j < m → cn j = cn' j ∧ (cn j = true → wh j = wh' j ∧ du j = du' j)) → ownN cn wh du p m = ownN cn' wh' du' p m := by
  intro m
  induction m with
  | zero => intro _; rfl
  | succ m ih =>
    intro h
    rw [ownN, ownN, ih (fun j hj => h j (by omega))]
    obtain ⟨h1, h2⟩ := h m (by omega)
    by_cases e : cn m = true
    · rw [← h1, (h2 e).1, (h2 e).2]
    · rw [if_neg (fun y => e y.1), if_neg (fun y => e (by rw [h1]; exact y.1))]
/-- one DEBT more -/
theorem cntN_add {cn : Nat → Bool} {wh : Nat → Nat} {p p0 k : Nat} (hk : cn k = false) : ∀ {m : Nat}, cntN (upr cn k true) (upr wh k p0) p m = cntN cn wh p m + (if k < m ∧ p0 = p then 1 else 0) := by
  intro m
  induction m with
  | zero => rw [if_neg (by omega)]; rfl
  | succ m ih =>
    rw [cntN, cntN, ih]
    by_cases e : m = k
    · subst e
      rw [upr_at, upr_at, hk, if_neg (show ¬ (m < m ∧ p0 = p) by omega)]
      by_cases e2 : p0 = p
      · rw [if_pos (show true = true ∧ p0 = p from ⟨rfl, e2⟩), if_neg (show ¬ (false = true ∧ wh m = p) by simp), if_pos (show m < m + 1 ∧ p0 = p from ⟨by omega, e2⟩)]
      · rw [if_neg (show ¬ (true = true ∧ p0 = p) from fun y => e2 y.2), if_neg (show ¬ (false = true ∧ wh m = p) by simp), if_neg (show ¬ (m < m + 1 ∧ p0 = p) from fun y => e2 y.2)]
    · rw [upr_ne e, upr_ne e]
      by_cases e2 : k < m ∧ p0 = p
      · rw [if_pos e2, if_pos (show k < m + 1 ∧ p0 = p from ⟨by omega, e2.2⟩)]; omega
      · rw [if_neg e2, if_neg (show ¬ (k < m + 1 ∧ p0 = p) from fun y => e2 ⟨by omega, y.2⟩)]; omega
theorem ownN_add {cn : Nat → Bool} {wh : Nat → Nat} {du : Nat → Int64} {p p0 k : Nat} (hk : cn k = false) : ∀ {m : Nat}, ownN (upr cn k true) (upr wh k p0) du p m = ownN cn wh du p m + (if k < m ∧ p0 = p then du k else 0) := by
  intro m
  induction m with
  | zero => rw [if_neg (by omega)]; rfl
  | succ m ih =>
    rw [ownN, ownN, ih]
    by_cases e : m = k
    · subst e
      rw [upr_at, upr_at, hk, if_neg (show ¬ (m < m ∧ p0 = p) by omega), Int64.add_zero]
      by_cases e2 : p0 = p
      · rw [if_pos ⟨rfl, e2⟩, if_neg (show ¬ (false = true ∧ wh m = p) by simp), if_pos (show m < m + 1 ∧ p0 = p from ⟨by omega, e2⟩), Int64.add_zero]
      · rw [if_neg (show ¬ (true = true ∧ p0 = p) from fun y => e2 y.2), if_neg (show ¬ (false = true ∧ wh m = p) by simp), if_neg (show ¬ (m < m + 1 ∧ p0 = p) from fun y => e2 y.2), Int64.add_zero, Int64.add_zero]
    · rw [upr_ne e, upr_ne e]
      by_cases e2 : k < m ∧ p0 = p
      · rw [if_pos e2, if_pos (show k < m + 1 ∧ p0 = p from ⟨by omega, e2.2⟩), Int64.add_assoc, Int64.add_assoc, Int64.add_comm (du k)]
      · rw [if_neg e2, if_neg (show ¬ (k < m + 1 ∧ p0 = p) from fun y => e2 ⟨by omega, y.2⟩), Int64.add_zero, Int64.add_zero]
theorem sumN_cg {f g : Nat → Nat} : ∀ {q : Nat}, (∀ j, j < q → f j = g j) → sumN f q = sumN g q := by
  intro q
  induction q with
  | zero => intro _; rfl
  | succ q ih => intro h; rw [sumN, sumN, ih (fun j hj => h j (by omega)), h q (by omega)]
theorem sumL_cg {f g : Nat → Int64} : ∀ {q : Nat}, (∀ j, j < q → f j = g j) → sumL f q = sumL g q := by
  intro q
  induction q with
  | zero => intro _; rfl
  | succ q ih => intro h; rw [sumL, sumL, ih (fun j hj => h j (by omega)), h q (by omega)]
/-- one place of a sum changes -/
theorem sumN_at {f g : Nat → Nat} {k a : Nat} (hg : ∀ j, j ≠ k → g j = f j) (ha : g k = f k + a) : ∀ {q : Nat}, sumN g q = sumN f q + (if k < q then a else 0) := by
  intro q
  induction q with
  | zero => rw [if_neg (by omega)]; rfl
  | succ q ih =>
    rw [sumN, sumN, ih]
    by_cases e : q = k
    · subst e; rw [ha, if_neg (by omega), if_pos (by omega)]; omega
    · rw [hg q e]
      by_cases e2 : k < q
      · rw [if_pos e2, if_pos (by omega)]; omega
      · rw [if_neg e2, if_neg (by omega)]; omega
theorem sumL_at {f g : Nat → Int64} {k : Nat} {a : Int64} (hg : ∀ j, j ≠ k → g j = f j) (ha : g k = f k + a) : ∀ {q : Nat}, sumL g q = sumL f q + (if k < q then a else 0) := by
  intro q
  induction q with
  | zero => rw [if_neg (by omega)]; rfl
  | succ q ih =>
    rw [sumL, sumL, ih]
    by_cases e : q = k
    · subst e; rw [ha, if_neg (by omega), if_pos (by omega), Int64.add_zero, Int64.add_assoc]
    · rw [hg q e]
      by_cases e2 : k < q
      · rw [if_pos e2, if_pos (show k < q + 1 by omega), Int64.add_assoc, Int64.add_assoc, Int64.add_comm a]
      · rw [if_neg e2, if_neg (show ¬ k < q + 1 by omega), Int64.add_zero, Int64.add_zero]
/-- the tally: how many vote, how many SIGN, all WORTH, signed WORTH -/
def tVo (cn : Nat → Bool) (wh : Nat → Nat) (q m : Nat) : Nat := sumN (fun p => if 0 < cntN cn wh p m then 1 else 0) q
def tSi (cn : Nat → Bool) (wh : Nat → Nat) (sg : Nat → Bool) (q m : Nat) : Nat := sumN (fun p => if 0 < cntN cn wh p m ∧ sg p = true then 1 else 0) q
def tAw (cn : Nat → Bool) (wh : Nat → Nat) (du : Nat → Int64) (q m : Nat) : Int64 := sumL (fun p => ownN cn wh du p m) q
def tSw (cn : Nat → Bool) (wh : Nat → Nat) (du : Nat → Int64) (sg : Nat → Bool) (q m : Nat) : Int64 := sumL (fun p => if sg p = true then ownN cn wh du p m else 0) q
def Tally (q m : Nat) (cn : Nat → Bool) (wh : Nat → Nat) (du : Nat → Int64) (sg : Nat → Bool) (g : Nat → Int32) (vo si : Int32) (aw sw : Int64) : Prop := (∀ p, p < q → g p = nI (cntN cn wh p m)) ∧ vo = nI (tVo cn wh q m) ∧ si = nI (tSi cn wh sg q m) ∧ aw = tAw cn wh du q m ∧ sw = tSw cn wh du sg q m
theorem cntN_le (cn : Nat → Bool) (wh : Nat → Nat) (p : Nat) : ∀ m, cntN cn wh p m ≤ m := by
  intro m
  induction m with
  | zero => exact Nat.le_refl _
  | succ m ih => rw [cntN]; split <;> omega
/-- add, on the tally -/
theorem Tally.add {q m : Nat} {cn : Nat → Bool} {wh : Nat → Nat} {du : Nat → Int64} {sg : Nat → Bool} {g : Nat → Int32} {vo si : Int32} {aw sw : Int64} (h : Tally q m cn wh du sg g vo si aw sw) {I : Nat → Nat → Int32} (L : Nat → Nat → Int64) (hq : q ≤ 12) (hm : m ≤ 40) (hs : ∀ p, p < q → (I 46 p = 0 ↔ sg p = false)) {k p0 : Nat} (hk : k < m) (hc : cn k = false) (hp : p0 < q) {x : Int32} (hx : x.toInt64 = du k) : Tally q m (upr cn k true) (upr wh k p0) du sg (vAdd I L g vo si aw sw (nI p0) x).1 (vAdd I L g vo si aw sw (nI p0) x).2.1 (vAdd I L g vo si aw sw (nI p0) x).2.2.1 (vAdd I L g vo si aw sw (nI p0) x).2.2.2.1 (vAdd I L g vo si aw sw (nI p0) x).2.2.2.2 := by
  obtain ⟨h1, h2, h3, h4, h5⟩ := h
  have c1 : ∀ p, cntN (upr cn k true) (upr wh k p0) p m = cntN cn wh p m + (if p0 = p then 1 else 0) := fun p => by
    rw [cntN_add hc]; congr 1; by_cases e : p0 = p
    · rw [if_pos (show k < m ∧ p0 = p from ⟨hk, e⟩), if_pos e]
    · rw [if_neg (show ¬ (k < m ∧ p0 = p) from fun y => e y.2), if_neg e]
  have o1 : ∀ p, ownN (upr cn k true) (upr wh k p0) du p m = ownN cn wh du p m + (if p0 = p then du k else 0) := fun p => by
    rw [ownN_add hc]; congr 1; by_cases e : p0 = p
    · rw [if_pos (show k < m ∧ p0 = p from ⟨hk, e⟩), if_pos e]
    · rw [if_neg (show ¬ (k < m ∧ p0 = p) from fun y => e y.2), if_neg e]
  have le := cntN_le cn wh p0 m
  have gA : ∀ p, p < q → upr g p0 (g p0 + 1) p = nI (cntN (upr cn k true) (upr wh k p0) p m) := by
    intro p hp'
    rw [c1]
    by_cases e : p = p0
    · subst e; rw [upr_at, h1 p hp, nI_1, if_pos rfl]
    · rw [upr_ne e, if_neg (fun y => e y.symm), Nat.add_zero]; exact h1 p hp'
  have aA : aw + x.toInt64 = tAw (upr cn k true) (upr wh k p0) du q m := by
    unfold tAw
    rw [h4, hx]
    unfold tAw
    rw [sumL_at (f := fun p => ownN cn wh du p m) (g := fun p => ownN (upr cn k true) (upr wh k p0) du p m) (k := p0) (a := du k) (fun j hj => by show ownN _ _ _ j m = _; rw [o1, if_neg (fun y => hj y.symm), Int64.add_zero]) (by show ownN _ _ _ p0 m = _; rw [o1, if_pos rfl]), if_pos hp]
  have sT : sg p0 = true → sw + x.toInt64 = tSw (upr cn k true) (upr wh k p0) du sg q m := by
    intro e
    rw [h5, hx]
    unfold tSw
    rw [sumL_at (f := fun p => if sg p = true then ownN cn wh du p m else 0) (g := fun p => if sg p = true then ownN (upr cn k true) (upr wh k p0) du p m else 0) (k := p0) (a := du k) (fun j hj => by rw [o1, if_neg (show ¬ p0 = j from fun y => hj y.symm), Int64.add_zero]) (by rw [if_pos e, if_pos e, o1, if_pos rfl]), if_pos hp]
  have sF : sg p0 = false → sw = tSw (upr cn k true) (upr wh k p0) du sg q m := by
    intro e
    rw [h5]
    unfold tSw
    refine sumL_cg (fun j hj => ?_)
    rw [o1]
    by_cases e2 : p0 = j
    · subst e2; rw [e]; simp
    · rw [if_neg e2, Int64.add_zero]
  unfold vAdd
  rw [nI_clamp (by omega), h1 p0 hp]
  by_cases z0 : 0 < cntN cn wh p0 m
  · -- voted already
    have vA : tVo (upr cn k true) (upr wh k p0) q m = tVo cn wh q m := sumN_cg (fun j hj => by
      rw [c1]
      by_cases e : p0 = j
      · subst e; rw [if_pos rfl, if_pos z0, if_pos (by omega)]
      · rw [if_neg e, Nat.add_zero])
    have sA : tSi (upr cn k true) (upr wh k p0) sg q m = tSi cn wh sg q m := sumN_cg (fun j hj => by
      rw [c1]
      by_cases e : p0 = j
      · subst e
        by_cases e2 : sg p0 = true
        · rw [if_pos (⟨by omega, e2⟩ : 0 < cntN cn wh p0 m + _ ∧ _), if_pos ⟨z0, e2⟩]
        · rw [if_neg (fun y => e2 y.2), if_neg (fun y => e2 y.2)]
      · rw [if_neg e, Nat.add_zero])
    rw [if_pos (show ¬ nI (cntN cn wh p0 m) = 0 by rw [← Int32.toInt_inj, nI_toInt (by omega), toI_0]; omega)]
    refine ⟨by rw [← h1 p0 hp]; exact gA, by rw [vA]; exact h2, by rw [sA]; exact h3, aA, ?_⟩
    show sw + (if I 46 p0 = 0 then 0 else x.toInt64) = _
    cases e : sg p0 with
    | false => rw [if_pos ((hs p0 hp).mpr e), Int64.add_zero]; exact sF e
    | true => rw [if_neg (fun y => by rw [(hs p0 hp).mp y] at e; cases e)]; exact sT e
  · have z1 : cntN cn wh p0 m = 0 := by omega
    have vA : nI (tVo cn wh q m) + 1 = nI (tVo (upr cn k true) (upr wh k p0) q m) := by
      unfold tVo
      rw [nI_1, sumN_at (f := fun p => if 0 < cntN cn wh p m then 1 else 0) (g := fun p => if 0 < cntN (upr cn k true) (upr wh k p0) p m then 1 else 0) (k := p0) (a := 1) (fun j hj => by rw [c1, if_neg (show ¬ p0 = j from fun y => hj y.symm), Nat.add_zero]) (by rw [c1, if_pos rfl, if_neg z0, if_pos (by omega)]), if_pos hp]
    rw [if_neg (not_not_intro (show nI (cntN cn wh p0 m) = 0 by rw [z1]; rfl))]
    have sA0 : sg p0 = false → tSi (upr cn k true) (upr wh k p0) sg q m = tSi cn wh sg q m := fun es => sumN_cg (fun j hj => by
      rw [c1]
      by_cases e : p0 = j
      · subst e; rw [if_neg (fun y => by rw [es] at y; exact absurd y.2 (by decide)), if_neg (fun y => by rw [es] at y; exact absurd y.2 (by decide))]
      · rw [if_neg e, Nat.add_zero])
    have sA1 : sg p0 = true → nI (tSi cn wh sg q m) + 1 = nI (tSi (upr cn k true) (upr wh k p0) sg q m) := by
      intro es
      unfold tSi
      rw [nI_1, sumN_at (f := fun p => if 0 < cntN cn wh p m ∧ sg p = true then 1 else 0) (g := fun p => if 0 < cntN (upr cn k true) (upr wh k p0) p m ∧ sg p = true then 1 else 0) (k := p0) (a := 1) (fun j hj => by rw [c1, if_neg (show ¬ p0 = j from fun y => hj y.symm), Nat.add_zero]) (by rw [c1, if_pos rfl, if_pos (show 0 < cntN cn wh p0 m + 1 ∧ sg p0 = true from ⟨by omega, es⟩), if_neg (show ¬ (0 < cntN cn wh p0 m ∧ sg p0 = true) from fun y => z0 y.1)]), if_pos hp]
    cases e : sg p0 with
    | false =>
      rw [if_pos ((hs p0 hp).mpr e)]
      refine ⟨by rw [← h1 p0 hp]; exact gA, by rw [h2]; exact vA, ?_, aA, ?_⟩
      · show si + 0 = _
        rw [Int32.add_zero, sA0 e]; exact h3
      · show sw + 0 = _
        rw [Int64.add_zero]; exact sF e
    | true =>
      rw [if_neg (fun y => by rw [(hs p0 hp).mp y] at e; cases e)]
      exact ⟨by rw [← h1 p0 hp]; exact gA, by rw [h2]; exact vA, by rw [h3]; exact sA1 e, aA, sT e⟩
