/-! what a run keeps; what a call needs -/
theorem st2_grow {ins : Instr} {i : Nat} {ls : Lz} {st : List Value} {M : Mm} {q : Sz} (h : st2 ins i ls st M = some q) : q.2.2.2.2.1 = M.1 ∨ ∃ t n, q.2.2.2.2 = mNew M t n := by
  unfold st2 at h
  split at h
  all_goals (repeat' split at h)
  all_goals first
    | (obtain rfl := Option.some.inj h; exact Or.inl rfl)
    | (obtain rfl := Option.some.inj h; exact Or.inr ⟨_, _, rfl⟩)
    | (cases h; done)
theorem run_grow : ∀ {n k i : Nat} {ls : Lz} {st : List Value} {M : Mm} {x : Option Value × Mm}, run n k i ls st M = some x → M.1.length ≤ x.2.1.length ∧ mSl M ≤ mSl x.2 := by
  intro n
  induction n with
  | zero => intro k i ls st M x h; cases h
  | succ n ih =>
    intro k i ls st M x h
    rw [run_s, runF] at h
    cases hi : mIns k i with
    | none => rw [hi] at h; cases h
    | some ins =>
      rw [hi] at h
      dsimp only at h
      cases hr : rtn k ins st with
      | some r => rw [hr] at h; obtain rfl := Option.some.inj h; exact ⟨Nat.le_refl _, Nat.le_refl _⟩
      | none =>
        rw [hr] at h
        dsimp only at h
        cases hc : cal2 ins st M with
        | some q =>
          rw [hc] at h
          dsimp only at h
          cases hf : run n q.1 0 (eLz (mLoc q.1) q.2.1) [] M with
          | none => rw [hf] at h; cases h
          | some y =>
            rw [hf] at h
            have h1 := ih hf
            have h2 := ih h
            exact ⟨Nat.le_trans h1.1 h2.1, Nat.le_trans h1.2 h2.2⟩
        | none =>
          rw [hc] at h
          dsimp only at h
          cases hs : st2 ins i ls st M with
          | none => rw [hs] at h; cases h
          | some q =>
            rw [hs] at h
            dsimp only at h
            by_cases hg : q.1 = true
            · rw [if_pos hg] at h
              have h2 := ih h
              rcases st2_grow hs with e | ⟨t, m, e⟩
              · unfold mSl at h2 ⊢
                rw [e] at h2
                exact h2
              · rw [e, mSl_new] at h2
                have e2 : (mNew M t m).1.length = M.1.length + 1 := by show (M.1 ++ [_]).length = _; rw [List.length_append]; rfl
                rw [e2] at h2
                exact ⟨by omega, by omega⟩
            · rw [if_neg hg] at h; cases h
