/-! THE VOTE on both sides -/
def bnd (vo si nu wo : Int32) (aw sw : Int64) : Int32 := if vo ≤ 0 then 0 else if (100 : Int32) * si < nu * vo then 0 else if lg_cmp ((100 : Int64) * sw) (wo.toInt64 * aw) < 0 then 0 else 1
theorem own_0 {cn : Nat → Bool} {wh : Nat → Nat} {du : Nat → Int64} {p : Nat} : ∀ {m : Nat}, cntN cn wh p m = 0 → ownN cn wh du p m = 0 := by
  intro m
  induction m with
  | zero => intro _; rfl
  | succ m ih =>
    intro h
    rw [cntN] at h
    rw [ownN, ih (by omega)]
    by_cases e : cn m = true ∧ wh m = p
    · rw [if_pos e] at h; omega
    · rw [if_neg e, Int64.add_zero]
/-- the reference: what one person has in it -/
theorem bi_eq {Y : Nat → Nat → Int32} (L : Nat → Nat → Int64) {m : Nat} (hm : m ≤ 40) {cn : Nat → Bool} {wh : Nat → Nat} {du : Nat → Int64} (h1 : ∀ j, j < m → (Y 123 j = 0 ↔ cn j = false)) (h2 : ∀ j, j < m → cn j = true → Y 122 j = nI (wh j) ∧ wh j < 100) (h3 : ∀ j, j < m → (dueR Y (nI j)).toInt64 = du j) {i : Nat} (hi : i < 100) : ∀ k, k ≤ m → bi_it Y L i k = (ownN cn wh du i k, if 0 < cntN cn wh i k then 1 else 0) := by
  intro k
  induction k with
  | zero => intro _; rfl
  | succ k ih =>
    intro hk
    rw [bi_it_s, ih (by omega)]
    unfold bi_st
    rw [nI_clamp (by omega), h3 k (by omega), ownN, cntN]
    cases e : cn k with
    | false => rw [if_pos ((h1 k (by omega)).mpr e), if_neg (show ¬ (false = true ∧ wh k = i) by simp), if_neg (show ¬ (false = true ∧ wh k = i) by simp), Int64.add_zero, Nat.add_zero]
    | true =>
      obtain ⟨g1, g2⟩ := h2 k (by omega) e
      rw [if_neg (fun y => by rw [(h1 k (by omega)).mp y] at e; cases e), g1]
      by_cases e2 : wh k = i
      · rw [if_neg (not_not_intro (show nI (wh k) = nI i by rw [e2])), if_pos (show true = true ∧ wh k = i from ⟨rfl, e2⟩), if_pos (show true = true ∧ wh k = i from ⟨rfl, e2⟩), if_pos (show 0 < cntN cn wh i k + 1 by omega)]
      · rw [if_pos (show ¬ nI (wh k) = nI i from fun y => e2 (nI_inj (by omega) (by omega) y)), if_neg (show ¬ (true = true ∧ wh k = i) from fun y => e2 y.2), if_neg (show ¬ (true = true ∧ wh k = i) from fun y => e2 y.2), Int64.add_zero, Nat.add_zero]
/-- the reference: all -/
theorem bo_eq {Y : Nat → Nat → Int32} (L : Nat → Nat → Int64) {m : Nat} (hm : m ≤ 40) {cn : Nat → Bool} {wh : Nat → Nat} {du : Nat → Int64} {sg : Nat → Bool} (h1 : ∀ j, j < m → (Y 123 j = 0 ↔ cn j = false)) (h2 : ∀ j, j < m → cn j = true → Y 122 j = nI (wh j) ∧ wh j < 100) (h3 : ∀ j, j < m → (dueR Y (nI j)).toInt64 = du j) {p : Nat} (hp : p < 12) (r f : Int32) {q : Nat} (hq : q ≤ 12) (hs : ∀ j, j < q → (sg j = true ↔ (nI j = f ∨ ¬ r < Y 85 (12 * j + p)))) : ∀ k, k ≤ q → bo_it Y L (nI p) r f m k = (nI (tVo cn wh k m), nI (tSi cn wh sg k m), tAw cn wh du k m, tSw cn wh du sg k m) := by
  intro k
  induction k with
  | zero => intro _; rfl
  | succ k ih =>
    intro hk
    rw [bo_it_s, ih (by omega)]
    unfold bo_st
    rw [bi_eq L hm h1 h2 h3 (i := k) (by omega) m (Nat.le_refl _), k12', nI_clamp (by omega)]
    dsimp only
    have v1 : tVo cn wh (k + 1) m = tVo cn wh k m + (if 0 < cntN cn wh k m then 1 else 0) := rfl
    have v2 : tSi cn wh sg (k + 1) m = tSi cn wh sg k m + (if 0 < cntN cn wh k m ∧ sg k = true then 1 else 0) := rfl
    have v3 : tAw cn wh du (k + 1) m = tAw cn wh du k m + ownN cn wh du k m := rfl
    have v4 : tSw cn wh du sg (k + 1) m = tSw cn wh du sg k m + (if sg k = true then ownN cn wh du k m else 0) := rfl
    rw [v1, v2, v3, v4]
    by_cases z0 : 0 < cntN cn wh k m
    · rw [if_pos z0, if_neg one_nz, if_pos z0]
      have sk := hs k (by omega)
      by_cases e1 : nI k = f
      · have st := sk.mpr (Or.inl e1)
        rw [if_pos e1, if_pos (show 0 < cntN cn wh k m ∧ sg k = true from ⟨z0, st⟩), if_pos st, nI_1, nI_1]
      · rw [if_neg e1]
        by_cases e2 : r < Y 85 (12 * k + p)
        · have sf : ¬ sg k = true := fun y => (sk.mp y).elim (fun w => e1 w) (fun w => w e2)
          rw [if_pos e2, if_neg (show ¬ (0 < cntN cn wh k m ∧ sg k = true) from fun y => sf y.2), if_neg sf, nI_1, Int32.add_zero]
          rfl
        · have st := sk.mpr (Or.inr e2)
          rw [if_neg e2, if_pos (show 0 < cntN cn wh k m ∧ sg k = true from ⟨z0, st⟩), if_pos st, nI_1, nI_1]
    · rw [if_neg z0, if_pos rfl, if_neg (show ¬ (0 < cntN cn wh k m ∧ sg k = true) from fun y => z0 y.1), own_0 (show cntN cn wh k m = 0 by omega), ite_self, Int64.add_zero, Int64.add_zero, if_neg z0]
      rfl
/-- the class: who SIGNS -/
theorem vs_at {X : Nat → Nat → Int32} (L : Nat → Nat → Int64) (r f : Int32) {P : Nat} (hP : X 44 0 = nI P) (hP2 : P < 12) : ∀ k, k ≤ 12 → ∀ j, j < k → (vs_it X L r f k).1 j = 0 ∧ (vs_it X L r f k).2 j = if nI j = f ∨ ¬ r < 1000 - X 33 (12 * j + P) then 1 else 0 := by
  intro k
  induction k with
  | zero => intro _ j hj; omega
  | succ k ih =>
    intro hk j hj
    have h := ih (by omega)
    rw [show vs_it X L r f (k + 1) = vs_st X L r f k (vs_it X L r f k) from rfl]
    unfold vs_st leastOf
    rw [hP, k12, nI_clamp (by omega), nI_clamp (by omega)]
    by_cases e : j = k
    · subst e
      by_cases g1 : nI j = f
      · rw [if_pos g1, if_pos (Or.inl g1)]; exact ⟨upr_at _ _ _, upr_at _ _ _⟩
      · rw [if_neg g1]
        by_cases g2 : r < 1000 - X 33 (12 * j + P)
        · rw [if_pos g2, if_neg (fun y => y.elim g1 (fun w => w g2))]; exact ⟨upr_at _ _ _, upr_at _ _ _⟩
        · rw [if_neg g2, if_pos (Or.inr g2)]; exact ⟨upr_at _ _ _, upr_at _ _ _⟩
    · have w := h j (by omega)
      by_cases g1 : nI k = f
      · rw [if_pos g1]; dsimp only; rw [upr_ne e, upr_ne e]; exact w
      · rw [if_neg g1]
        by_cases g2 : r < 1000 - X 33 (12 * k + P)
        · rw [if_pos g2]; dsimp only; rw [upr_ne e, upr_ne e]; exact w
        · rw [if_neg g2]; dsimp only; rw [upr_ne e, upr_ne e]; exact w
/-- the class: the tally -/
def cnX (X : Nat → Nat → Int32) (P : Nat) (bc : Int32) : Nat → Bool := fun j => decide (X 24 j = 0 ∧ X 17 j = nI P ∧ (¬ bc = 0 ∨ X 29 j = 0))
def whX (X : Nat → Nat → Int32) : Nat → Nat := fun j => (X 18 j).toNatClampNeg
def duX (X : Nat → Nat → Int32) : Nat → Int64 := fun j => (due X (nI j) (X 1 4)).toInt64
theorem tally_0 (q m : Nat) (wh : Nat → Nat) (du : Nat → Int64) (sg : Nat → Bool) {g : Nat → Int32} (hg : ∀ p, p < q → g p = 0) : Tally q m (fun _ => false) wh du sg g 0 0 0 0 := by
  have c0 : ∀ p, cntN (fun _ => false) wh p m = 0 := by
    intro p
    induction m with
    | zero => rfl
    | succ m ih => rw [cntN, ih, if_neg (by simp)]
  have s0 : ∀ f : Nat → Nat, (∀ j, f j = 0) → ∀ q, sumN f q = 0 := by
    intro f hf q
    induction q with
    | zero => rfl
    | succ q ih => rw [sumN, ih, hf]
  have l0 : ∀ f : Nat → Int64, (∀ j, f j = 0) → ∀ q, sumL f q = 0 := by
    intro f hf q
    induction q with
    | zero => rfl
    | succ q ih => rw [sumL, ih, hf]; rfl
  refine ⟨fun p hp => by rw [hg p hp, c0]; rfl, ?_, ?_, ?_, ?_⟩
  · unfold tVo; rw [s0 _ (fun j => by rw [c0, if_neg (by omega)])]; rfl
  · unfold tSi; rw [s0 _ (fun j => by rw [c0, if_neg (by omega)])]; rfl
  · unfold tAw; rw [l0 _ (fun j => own_0 (c0 j))]
  · unfold tSw; rw [l0 _ (fun j => by rw [own_0 (c0 j), ite_self])]
theorem vt_tally {X : Nat → Nat → Int32} (L : Nat → Nat → Int64) {q m P : Nat} (hq : q ≤ 12) (hm0 : X 16 0 = nI m) (hm : m ≤ 40) (hP : X 44 0 = nI P) {sg : Nat → Bool} (hs : ∀ p, p < q → (X 46 p = 0 ↔ sg p = false)) (hcr : ∀ j, j < m → 0 ≤ (X 18 j).toInt ∧ (X 18 j).toInt < q) {g0 : Nat → Int32} (hg : ∀ p, p < q → g0 p = 0) : ∀ k, k ≤ m → Tally q m (fun j => cnX X P (X 44 1) j && decide (j < k)) (whX X) (duX X) sg (vt_it X L g0 k).1 (vt_it X L g0 k).2.1 (vt_it X L g0 k).2.2.1 (vt_it X L g0 k).2.2.2.1 (vt_it X L g0 k).2.2.2.2 := by
  intro k
  induction k with
  | zero =>
    intro _
    have e : (fun j => cnX X P (X 44 1) j && decide (j < 0)) = (fun _ => false) := by
      funext j; rw [decide_eq_false (by omega), Bool.and_false]
    rw [e]
    exact tally_0 q m _ _ _ hg
  | succ k ih =>
    intro hk
    have h := ih (by omega)
    rw [vt_it_s]
    unfold vt_st
    rw [hP, owes_at hm0 hm (by omega), nI_clamp (by omega)]
    have ev : vCounts X (nI k) = if ¬ X 44 1 = 0 ∨ X 29 k = 0 then 1 else 0 := by
      unfold vCounts
      rw [nI_clamp (by omega)]
      by_cases a1 : X 44 1 = 0 <;> by_cases a2 : X 29 k = 0 <;> simp [a1, a2]
    rw [ev]
    by_cases C : X 24 k = 0 ∧ X 17 k = nI P ∧ (¬ X 44 1 = 0 ∨ X 29 k = 0)
    · rw [if_pos (show X 24 k = 0 ∧ X 17 k = nI P from ⟨C.1, C.2.1⟩), if_neg one_nz, if_pos C.2.2, if_neg one_nz]
      have cr := hcr k (by omega)
      obtain ⟨p0, hp0, ep⟩ := rng_nI (x := X 18 k) (N := q) cr
      have ck : (fun j => cnX X P (X 44 1) j && decide (j < k)) k = false := by dsimp only; rw [decide_eq_false (by omega), Bool.and_false]
      have w := h.add (I := X) L hq hm hs (k := k) (p0 := p0) (by omega) ck hp0 (x := due X (nI k) (X 1 4)) rfl
      have e1 : upr (fun j => cnX X P (X 44 1) j && decide (j < k)) k true = (fun j => cnX X P (X 44 1) j && decide (j < k + 1)) := by
        funext j
        by_cases e : j = k
        · subst e; rw [upr_at, decide_eq_true (show j < j + 1 by omega), Bool.and_true]; exact (decide_eq_true C).symm
        · rw [upr_ne e]; congr 1; exact decide_eq_decide.mpr ⟨fun y => by omega, fun y => by omega⟩
      have e2 : upr (whX X) k p0 = whX X := by
        funext j
        by_cases e : j = k
        · subst e; rw [upr_at]; unfold whX; rw [ep, nI_clamp (by omega)]
        · rw [upr_ne e]
      rw [e1, e2] at w
      rw [ep]
      exact w
    · have e1 : (fun j => cnX X P (X 44 1) j && decide (j < k + 1)) = (fun j => cnX X P (X 44 1) j && decide (j < k)) := by
        funext j
        by_cases e : j = k
        · subst e; rw [show cnX X P (X 44 1) j = false from decide_eq_false C, Bool.false_and, Bool.false_and]
        · congr 1; exact decide_eq_decide.mpr ⟨fun y => by omega, fun y => by omega⟩
      rw [e1]
      by_cases a1 : X 24 k = 0 ∧ X 17 k = nI P
      · rw [if_pos a1, if_neg one_nz, if_neg (show ¬ (¬ X 44 1 = 0 ∨ X 29 k = 0) from fun y => C ⟨a1.1, a1.2, y⟩), if_pos rfl]; exact h
      · rw [if_neg a1, if_pos rfl]; exact h
