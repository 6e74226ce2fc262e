/-! ACTS: LINES, on both sides -/
theorem w_kind {T : Nat → Int32} {c : Int32 × Int32 × Int32 × Int32} (h : wI1 T c.1 c.2.1 c.2.2.1 = 0 ∨ wI2 T c.1 c.2.1 c.2.2.1 = 0) : ¬ c.1 = 0 := by
  intro y
  rcases h with u | u
  · unfold wI1 at u; rw [if_neg (by rw [y]; decide)] at u; exact absurd u (by decide)
  · unfold wI2 at u; rw [if_neg (by rw [y]; decide)] at u; exact absurd u (by decide)
section
variable {I J : Nat → Nat → Int32} {l : Nat}
set_option maxHeartbeats 1000000 in
theorem tests_t (h : CX I J l) {cn : Nat} (hcn : cn < 1000) : ∀ (f f' j p : Nat) (g0 g1 : Int32) (r4 : Nat → Int32) (k0 k1 k2 : Int32) (q0 q1 q2 q3 q4 q5 : Nat → Int32) (c : Int32 × Int32 × Int32 × Int32) (r : Int32 × Int32 × Int32 × Int32 × Int64), LI (I 34) l p cn j g0 g1 r4 k1 k2 q0 q1 q2 q3 q4 q5 c r → (if j = 0 then wI1 (I 34) c.1 c.2.1 c.2.2.1 = 0 else wI2 (I 34) c.1 c.2.1 c.2.2.1 = 0) → l - p ≤ f → l - p ≤ f' → j + f ≤ 700 → ((tsl J (xx cn) f' j (k0, k1, k2, nI cn, q0, q1, q2, q3, q4, q5, r.1, r.2.1, r.2.2.1, r.2.2.2.1, r.2.2.2.2)).1 = 0 ∧ (rts I f j (g0, g1, nI cn, r4, c.1, c.2.1, c.2.2.1, c.2.2.2)).2.1 = 1 ∧ (rts I f j (g0, g1, nI cn, r4, c.1, c.2.1, c.2.2.1, c.2.2.2)).2.2.1 = (tsl J (xx cn) f' j (k0, k1, k2, nI cn, q0, q1, q2, q3, q4, q5, r.1, r.2.1, r.2.2.1, r.2.2.2.1, r.2.2.2.2)).2.1) ∨ ∃ j' p' g0' g1' r4' k1' k2' q1' q3' q4' q5' c' r', p < p' ∧ j < j' ∧ j' ≤ 700 ∧ LI (I 34) l p' cn j' g0' g1' r4' k1' k2' q0 q1' q2 q3' q4' q5' c' r' ∧ rts I f j (g0, g1, nI cn, r4, c.1, c.2.1, c.2.2.1, c.2.2.2) = (nI j', (g0', g1', nI cn, r4', c'.1, c'.2.1, c'.2.2.1, c'.2.2.2)) ∧ tsl J (xx cn) f' j (k0, k1, k2, nI cn, q0, q1, q2, q3, q4, q5, r.1, r.2.1, r.2.2.1, r.2.2.2.1, r.2.2.2.2) = (1, (k0, k1', k2', nI cn, q0, q1', q2, q3', q4', q5', r'.1, r'.2.1, r'.2.2.1, r'.2.2.2.1, r'.2.2.2.2)) := by
  intro f
  induction f with
  | zero =>
    intro f' j p g0 g1 r4 k0 k1 k2 q0 q1 q2 q3 q4 q5 c r H hw hf hf' hj
    obtain ⟨p', p1, k2⟩ := H.1.next h (w_kind (by by_cases e : j = 0; rw [if_pos e] at hw; exact Or.inl hw; rw [if_neg e] at hw; exact Or.inr hw)) c.2.2.2
    obtain ⟨⟨s, e, -, -, -, -, e5, e6, e7, -⟩, -⟩ := k2
    omega
  | succ f ih =>
    intro f' j p g0 g1 r4 k0 k1 k2 q0 q1 q2 q3 q4 q5 c r H hw hf hf' hj
    have ck : ¬ c.1 = 0 := w_kind (by by_cases e : j = 0; rw [if_pos e] at hw; exact Or.inl hw; rw [if_neg e] at hw; exact Or.inr hw)
    obtain ⟨p1, p1', k2'⟩ := H.1.next h ck c.2.2.2
    have pl : p1 ≤ l := by
      obtain ⟨⟨s, e, -, -, -, -, e5, e6, e7, -⟩, -⟩ := k2'
      omega
    obtain ⟨-, hg, h1, h2, h3, h4, h5, h6⟩ := H
    have H' : LI (I 34) l p1 cn j g0 g1 r4 k1 k2 q0 q1 q2 q3 q4 q5 (stp (I 34) (I 39 5) c.2.2.1 c.2.2.2) (nxt (J 62) (J 61 55) r.1) := ⟨k2', hg, h1, h2, h3, h4, h5, h6⟩
    obtain ⟨f'', rfl⟩ : ∃ f'', f' = f'' + 1 := ⟨f' - 1, by omega⟩
    have g1n := g_ne1 hg
    -- the class's round
    have eS : rts I (f + 1) j (g0, g1, nI cn, r4, c.1, c.2.1, c.2.2.1, c.2.2.2) = rts I f (j + 1) (rte I (if nI j < (4 : Int32) then g0 else nt0 g0 3) (if nI j < (4 : Int32) then g1 else if g0 = 0 then (stp (I 34) (I 39 5) c.2.2.1 c.2.2.2).2.1 else g1) (nI cn) r4 (stp (I 34) (I 39 5) c.2.2.1 c.2.2.2).1 (stp (I 34) (I 39 5) c.2.2.1 c.2.2.2).2.1 (stp (I 34) (I 39 5) c.2.2.1 c.2.2.2).2.2.1 (stp (I 34) (I 39 5) c.2.2.1 c.2.2.2).2.2.2 (nI j)) := by
      rw [rts]
      dsimp only
      rw [if_neg g1n]
      by_cases e : j = 0
      · rw [if_pos e] at hw
        rw [if_neg (not_not_intro (show nI j = 0 by rw [e]; rfl)), if_pos hw, if_neg one_nz, if_pos (show nI j < 4 by rw [e]; decide), if_pos (show nI j < 4 by rw [e]; decide), if_pos (show nI j < 4 by rw [e]; decide)]
      · rw [if_neg e] at hw
        rw [if_pos (show ¬ nI j = 0 from fun y => e (nI_inj (by omega) (by omega) y)), if_pos hw, if_neg one_nz]
        by_cases g : nI j < (4 : Int32)
        · rw [if_pos g, if_pos g, if_pos g]
        · rw [if_neg g, if_neg g, if_neg g]; rfl
    rw [eS, tsl]
    dsimp only
    rcases test_t h hcn (by omega) (k0 := k0) H' with ⟨t1, t2, t3⟩ | ⟨p2, G0, G1, R4, K1, K2, Q1, Q3, Q4, Q5, c', r', u1, u2, u3, u4⟩
    · left
      rw [if_pos t1]
      refine ⟨rfl, ?_, ?_⟩
      · cases f with
        | zero => exact t2
        | succ f => rw [rts, if_pos t2]; exact t2
      · cases f with
        | zero => exact t3
        | succ f => rw [rts, if_pos t2]; exact t3
    · rw [u3, u4]
      dsimp only
      rw [if_neg one_nz]
      have w2 := u2.1.2.2.2.2.1
      have gn := g_ne1 u2.2.1
      have pl2 : p2 ≤ l := by
        obtain ⟨⟨⟨s, e, -, -, -, -, e5, e6, e7, -⟩, -⟩, -⟩ := u2
        omega
      by_cases ca : iw r'.2.2.1 r'.2.2.2.2 6385252 = 0
      · rw [if_pos ca]
        have nw := w2.mp ca
        have eR : rts I f (j + 1) (G0, G1, nI cn, R4, c'.1, c'.2.1, c'.2.2.1, c'.2.2.2) = (nI (j + 1), (G0, G1, nI cn, R4, c'.1, c'.2.1, c'.2.2.1, c'.2.2.2)) := by
          cases f with
          | zero => rfl
          | succ f =>
            rw [rts]
            dsimp only
            rw [if_neg gn, if_pos (show ¬ nI (j + 1) = 0 from fun y => by have := nI_inj (a := j + 1) (b := 0) (by omega) (by omega) y; omega), if_neg nw, if_pos rfl]
        exact Or.inr ⟨j + 1, p2, G0, G1, R4, K1, K2, Q1, Q3, Q4, Q5, c', r', by omega, by omega, by omega, u2, eR, rfl⟩
      · rw [if_neg ca]
        have iw2 : wI2 (I 34) c'.1 c'.2.1 c'.2.2.1 = 0 := Classical.byContradiction fun y => ca (w2.mpr y)
        rcases ih f'' (j + 1) p2 G0 G1 R4 k0 K1 K2 q0 Q1 q2 Q3 Q4 Q5 c' r' u2 (by rw [if_neg (by omega)]; exact iw2) (by omega) (by omega) (by omega) with v | ⟨j', p', g0', g1', r4', k1', k2', q1', q3', q4', q5', c2, r2, v1, v2, v3, v4, v5, v6⟩
        · exact Or.inl v
        · exact Or.inr ⟨j', p', g0', g1', r4', k1', k2', q1', q3', q4', q5', c2, r2, by omega, by omega, v3, v4, v5, v6⟩
end
