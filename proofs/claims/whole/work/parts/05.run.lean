/-! all methods, in the order of their numbers; the run -/
def mRow (k i : Nat) : Option Ie := match mt[k]? with
  | some q => q.2.2.2.2.2.2.2.2[i]?
  | none => none
def mIns (k i : Nat) : Option Instr := (mRow k i).map (fun r => r.2.1)
def mArg (k : Nat) : Nat := match mt[k]? with
  | some q => q.2.2.2.2.1
  | none => 0
def mLoc (k : Nat) : Nat := match mt[k]? with
  | some q => q.2.2.1
  | none => 0
def mRet (k : Nat) : Option FieldType := match mt[k]? with
  | some q => q.2.2.2.1
  | none => none
def mCls (k : Nat) : String := match mt[k]? with
  | some q => q.1.cls
  | none => ""
/-- locals at a method's entry -/
def eArg : List Value → Lz
  | [] => []
  | .long x :: vs => some (.long x) :: none :: eArg vs
  | .double _ :: vs => none :: none :: eArg vs
  | .int x :: vs => some (.int x) :: eArg vs
  | .ref x :: vs => some (.ref x) :: eArg vs
  | .null :: vs => some .null :: eArg vs
  | _ :: vs => none :: eArg vs
def eLz (n : Nat) (vs : List Value) : Lz := eArg vs ++ List.replicate (n - (eArg vs).length) none
/-- the receiver's class: that of the method (String: what was there before) -/
def rcv (k : Nat) (M : Mm) (as : List Value) : Bool := match as with
  | .ref a :: _ => if a < mx then (match M.1[a]? with
      | some (t, _) => decide (10 ≤ t) && decide ((clz[t - 10]?).map (fun q => q.1) = some (mCls k))
      | none => false) else decide (mx < a) && decide (a ≤ mx + 6) && decide (mCls k = "java/lang/String")
  | _ => false
/-- a return: what is answered -/
def rtn (k : Nat) (ins : Instr) (st : List Value) : Option (Option Value) := match ins, st with
  | .ireturn, [.int v] => match mRet k with
    | some ty => if narrow ty (.int v) = .int v then some (some (.int v)) else none
    | none => none
  | .lreturn, [.long v] => if mRet k = some .long then some (some (.long v)) else none
  | .return_, [] => if mRet k = none then some none else none
  | _, _ => none
def rcI (as : List Value) : Bool := match as with
  | .ref a :: _ => decide (a < mx)
  | _ => false
/-- a call: callee, arguments (the receiver first), what is left of the stack -/
def cal2 (ins : Instr) (st : List Value) (M : Mm) : Option (Nat × List Value × List Value) := match ins with
  | .invokestatic k => if mArg k ≤ st.length ∧ (eArg (st.take (mArg k)).reverse).length ≤ mLoc k ∧ ((st.drop (mArg k)).map fun v => v.category).sum ≤ 8 then some (k, (st.take (mArg k)).reverse, st.drop (mArg k)) else none
  | .invokespecial k => if mArg k ≤ st.length ∧ (eArg (st.take (mArg k)).reverse).length ≤ mLoc k ∧ ((st.drop (mArg k)).map fun v => v.category).sum ≤ 8 ∧ rcI (st.take (mArg k)).reverse = true then some (k, (st.take (mArg k)).reverse, st.drop (mArg k)) else none
  | .invokevirtual k => if mArg k ≤ st.length ∧ (eArg (st.take (mArg k)).reverse).length ≤ mLoc k ∧ ((st.drop (mArg k)).map fun v => v.category).sum ≤ 8 ∧ rcv k M (st.take (mArg k)).reverse = true then some (k, (st.take (mArg k)).reverse, st.drop (mArg k)) else none
  | _ => none
def runF (rec : Nat → Nat → Lz → List Value → Mm → Option (Option Value × Mm)) (k i : Nat) (ls : Lz) (st : List Value) (M : Mm) : Option (Option Value × Mm) := match mIns k i with
  | none => none
  | some ins => match rtn k ins st with
    | some r => some (r, M)
    | none => match cal2 ins st M with
      | some q => match rec q.1 0 (eLz (mLoc q.1) q.2.1) [] M with
        | some x => rec k (i + 1) ls (x.1.toList ++ q.2.2) x.2
        | none => none
      | none => match st2 ins i ls st M with
        | some q => if q.1 = true then rec k q.2.1 q.2.2.1 q.2.2.2.1 q.2.2.2.2 else none
        | none => none
def run : Nat → Nat → Nat → Lz → List Value → Mm → Option (Option Value × Mm)
  | 0 => fun _ _ _ _ _ => none
  | n + 1 => runF (run n)
def Runs (k i : Nat) (ls : Lz) (st : List Value) (M : Mm) (r : Option Value) (M' : Mm) : Prop := ∃ n, run n k i ls st M = some (r, M')
/-- a method's contract at these arguments and this memory -/
def Call (k : Nat) (as : List Value) (M : Mm) (r : Option Value) (M' : Mm) : Prop := Runs k 0 (eLz (mLoc k) as) [] M r M'
theorem run_s {n k i : Nat} {ls : Lz} {st : List Value} {M : Mm} : run (n + 1) k i ls st M = runF (run n) k i ls st M := rfl
theorem runF_mono {f g : Nat → Nat → Lz → List Value → Mm → Option (Option Value × Mm)} (h : ∀ k i ls st M x, f k i ls st M = some x → g k i ls st M = some x) {k i : Nat} {ls : Lz} {st : List Value} {M : Mm} {x : Option Value × Mm} (hx : runF f k i ls st M = some x) : runF g k i ls st M = some x := by
  unfold runF at hx ⊢
  cases hi : mIns k i with
  | none => rw [hi] at hx; exact hx
  | some ins =>
    rw [hi] at hx
    dsimp only at hx ⊢
    cases hr : rtn k ins st with
    | some r => rw [hr] at hx; exact hx
    | none =>
      rw [hr] at hx
      dsimp only at hx ⊢
      cases hc : cal2 ins st M with
      | some q =>
        rw [hc] at hx
        dsimp only at hx ⊢
        cases hf : f q.1 0 (eLz (mLoc q.1) q.2.1) [] M with
        | none => rw [hf] at hx; cases hx
        | some y => rw [hf] at hx; rw [h _ _ _ _ _ _ hf]; exact h _ _ _ _ _ _ hx
      | none =>
        rw [hc] at hx
        dsimp only at hx ⊢
        cases hs : st2 ins i ls st M with
        | none => rw [hs] at hx; cases hx
        | some q =>
          rw [hs] at hx
          dsimp only at hx ⊢
          by_cases hg : q.1 = true
          · rw [if_pos hg] at hx ⊢; exact h _ _ _ _ _ _ hx
          · rw [if_neg hg] at hx; cases hx
theorem run_mono : ∀ {n k i : Nat} {ls : Lz} {st : List Value} {M : Mm} {x : Option Value × Mm}, run n k i ls st M = some x → run (n + 1) k i ls st M = some x := by
  intro n
  induction n with
  | zero => intro k i ls st M x h; cases h
  | succ n ih => intro k i ls st M x h; exact runF_mono (fun _ _ _ _ _ _ h => ih h) h
theorem run_le {n m k i : Nat} {ls : Lz} {st : List Value} {M : Mm} {x : Option Value × Mm} (h : run n k i ls st M = some x) (hm : n ≤ m) : run m k i ls st M = some x := by
  induction hm with
  | refl => exact h
  | step _ ih => exact run_mono ih
/-- THE STEPS of a run -/
theorem Runs.st {k i : Nat} {ls : Lz} {st : List Value} {M : Mm} {ins : Instr} {i' : Nat} {ls' : Lz} {st' : List Value} {M' : Mm} {r : Option Value} {Me : Mm} (hi : mIns k i = some ins) (hr : rtn k ins st = none) (hc : cal2 ins st M = none) (h : st2 ins i ls st M = some (true, i', ls', st', M')) (kk : Runs k i' ls' st' M' r Me) : Runs k i ls st M r Me := by
  obtain ⟨n, hn⟩ := kk
  refine ⟨n + 1, ?_⟩
  rw [run_s, runF, hi]
  dsimp only
  rw [hr]
  dsimp only
  rw [hc]
  dsimp only
  rw [h]
  exact hn
theorem Runs.call {k i : Nat} {ls : Lz} {st : List Value} {M : Mm} {ins : Instr} {k' : Nat} {as rest : List Value} {r1 : Option Value} {M1 : Mm} {r : Option Value} {Me : Mm} (hi : mIns k i = some ins) (hr : rtn k ins st = none) (hc : cal2 ins st M = some (k', as, rest)) (h : Call k' as M r1 M1) (kk : Runs k (i + 1) ls (r1.toList ++ rest) M1 r Me) : Runs k i ls st M r Me := by
  obtain ⟨n, hn⟩ := kk
  obtain ⟨n1, hn1⟩ := h
  refine ⟨n + n1 + 1, ?_⟩
  rw [run_s, runF, hi]
  dsimp only
  rw [hr]
  dsimp only
  rw [hc]
  dsimp only
  rw [run_le hn1 (by omega)]
  exact run_le hn (by omega)
theorem Runs.ret {k i : Nat} {ls : Lz} {st : List Value} {M : Mm} {ins : Instr} {r : Option Value} (hi : mIns k i = some ins) (hr : rtn k ins st = some r) : Runs k i ls st M r M := by
  refine ⟨1, ?_⟩
  rw [run_s, runF, hi]
  dsimp only
  rw [hr]
/-- many steps at once: the guards gathered -/
def sts (k : Nat) : Nat → Nat → Lz → List Value → Mm → Option Sz
  | 0, i, ls, st, M => some (true, i, ls, st, M)
  | n + 1, i, ls, st, M => match mIns k i with
    | none => none
    | some ins => match rtn k ins st, cal2 ins st M, st2 ins i ls st M with
      | none, none, some q => match sts k n q.2.1 q.2.2.1 q.2.2.2.1 q.2.2.2.2 with
        | some y => some (q.1 && y.1, y.2)
        | none => none
      | _, _, _ => none
theorem Runs.bl {k : Nat} (n : Nat) {i : Nat} {ls : Lz} {st : List Value} {M : Mm} {g : Bool} {i' : Nat} {ls' : Lz} {st' : List Value} {M' : Mm} {r : Option Value} {Me : Mm} (h : sts k n i ls st M = some (g, i', ls', st', M')) (hg : g = true) (kk : Runs k i' ls' st' M' r Me) : Runs k i ls st M r Me := by
  induction n generalizing i ls st M g with
  | zero => simp only [sts, Option.some.injEq, Prod.mk.injEq] at h; obtain ⟨-, rfl, rfl, rfl, rfl⟩ := h; exact kk
  | succ n ih =>
    unfold sts at h
    cases hi : mIns k i with
    | none => rw [hi] at h; cases h
    | some ins =>
      rw [hi] at h
      dsimp only at h
      cases hr : rtn k ins st with
      | some r => rw [hr] at h; cases h
      | none =>
        rw [hr] at h
        cases hc : cal2 ins st M with
        | some q => rw [hc] at h; cases h
        | none =>
          rw [hc] at h
          cases hs : st2 ins i ls st M with
          | none => rw [hs] at h; cases h
          | some q =>
            rw [hs] at h
            dsimp only at h
            cases hy : sts k n q.2.1 q.2.2.1 q.2.2.2.1 q.2.2.2.2 with
            | none => rw [hy] at h; cases h
            | some y =>
              rw [hy] at h
              simp only [Option.some.injEq, Prod.mk.injEq] at h
              obtain ⟨h1, h2⟩ := h
              subst hg
              obtain ⟨g1, g2⟩ := Bool.and_eq_true_iff.mp h1
              obtain ⟨q1, q2, q3, q4, q5⟩ := q
              dsimp only at g1 hy
              subst g1
              refine Runs.st hi hr hc hs ?_
              obtain ⟨y1, y2⟩ := y
              dsimp only at g2 h2
              subst h2
              exact ih hy g2
