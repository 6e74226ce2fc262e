/-! ACTS: one TEST, on both sides -/
/-- the tape of both readers -/
def CX (I J : Nat → Nat → Int32) (l : Nat) : Prop := l ≤ 600 ∧ I 39 5 = nI l ∧ J 61 55 = nI l ∧ (∀ j, j < l → byt (I 34 j)) ∧ ∀ j, j < l → J 62 j = I 34 j
theorem TKN.next {I J : Nat → Nat → Int32} {l p : Nat} (h : CX I J l) {c : Int32 × Int32 × Int32 × Int32} {r : Int32 × Int32 × Int32 × Int32 × Int64} (k : TKN (I 34) l p c r) (hc : ¬ c.1 = 0) (va : Int32) : ∃ p', p < p' ∧ TKN (I 34) l p' (stp (I 34) (I 39 5) c.2.2.1 va) (nxt (J 62) (J 61 55) r.1) := by
  obtain ⟨h1, h2, h3, h4, h5⟩ := h
  obtain ⟨⟨s, e, e1, e2, e3, e4, e5, e6, e7, e8⟩, -⟩ := k
  have se : s < e := by
    rcases e8 with y | y
    · exact absurd y.1 hc
    · exact y.1
  rw [h2, h3, e2, e3]
  exact ⟨e, by omega, next_t h1 e7 h4 h5 va⟩
theorem tsw_cs (so : Int32) (wo : Int64) : tsw so wo = -1 ∨ ∃ w, w < 8 ∧ tsw so wo = nI w := by
  unfold tsw
  by_cases c0 : iw so wo 7566701 = 0
  · rw [if_pos c0]
    by_cases c1 : iw so wo 431197680755 = 0
    · rw [if_pos c1]
      by_cases c2 : iw so wo 1918987883 = 0
      · rw [if_pos c2]
        by_cases c3 : iw so wo 1684109683 = 0
        · rw [if_pos c3]
          by_cases c4 : iw so wo 7163091121595377006 = 0
          · rw [if_pos c4]
            by_cases c5 : iw so wo 1919905645 = 0
            · rw [if_pos c5]
              by_cases c6 : iw so wo 1752135026 = 0
              · rw [if_pos c6]
                by_cases c7 : iw so wo 427070942835 = 0
                · rw [if_pos c7]; exact Or.inl rfl
                · rw [if_neg c7]; exact Or.inr ⟨7, by decide, rfl⟩
              · rw [if_neg c6]; exact Or.inr ⟨6, by decide, rfl⟩
            · rw [if_neg c5]; exact Or.inr ⟨5, by decide, rfl⟩
          · rw [if_neg c4]; exact Or.inr ⟨4, by decide, rfl⟩
        · rw [if_neg c3]; exact Or.inr ⟨3, by decide, rfl⟩
      · rw [if_neg c2]; exact Or.inr ⟨2, by decide, rfl⟩
    · rw [if_neg c1]; exact Or.inr ⟨1, by decide, rfl⟩
  · rw [if_neg c0]; exact Or.inr ⟨0, by decide, rfl⟩
theorem tpw_cs (so : Int32) (wo : Int64) : tpw so wo = -1 ∨ ∃ w, w < 9 ∧ tpw so wo = nI w := by
  unfold tpw
  by_cases c0 : iw so wo 1751477348 = 0
  · rw [if_pos c0]
    by_cases c1 : iw so wo 435644822137 = 0
    · rw [if_pos c1]
      by_cases c2 : iw so wo 431131028601 = 0
      · rw [if_pos c2]
        by_cases c3 : iw so wo 2002873451 = 0
        · rw [if_pos c3]
          by_cases c4 : iw so wo 121450625394034 = 0
          · rw [if_pos c4]
            by_cases c5 : iw so wo 512970880104 = 0
            · rw [if_pos c5]
              by_cases c6 : iw so wo 422877685106 = 0
              · rw [if_pos c6]
                by_cases c7 : iw so wo 1801807216 = 0
                · rw [if_pos c7]
                  by_cases c8 : iw so wo 478627065459 = 0
                  · rw [if_pos c8]; exact Or.inl rfl
                  · rw [if_neg c8]; exact Or.inr ⟨8, by decide, rfl⟩
                · rw [if_neg c7]; exact Or.inr ⟨7, by decide, rfl⟩
              · rw [if_neg c6]; exact Or.inr ⟨6, by decide, rfl⟩
            · rw [if_neg c5]; exact Or.inr ⟨5, by decide, rfl⟩
          · rw [if_neg c4]; exact Or.inr ⟨4, by decide, rfl⟩
        · rw [if_neg c3]; exact Or.inr ⟨3, by decide, rfl⟩
      · rw [if_neg c2]; exact Or.inr ⟨2, by decide, rfl⟩
    · rw [if_neg c1]; exact Or.inr ⟨1, by decide, rfl⟩
  · rw [if_neg c0]; exact Or.inr ⟨0, by decide, rfl⟩
theorem iw_01 (so : Int32) (a b : Int64) : iw so a b = 0 ∨ iw so a b = 1 := by
  unfold iw
  split
  · exact Or.inl rfl
  · split
    · exact Or.inl rfl
    · exact Or.inr rfl
abbrev S16 : Type := Int32 × S15
/-- what a TEST leaves, on both sides -/
def RT (I : Nat → Nat → Int32) (l p : Nat) (g0 g1 g2 : Int32) (r4 : Nat → Int32) (k0 k1 k2 k3 : Int32) (q0 q1 q2 q3 q4 q5 : Nat → Int32) (x t : Int32) (S : S8) (R : S16) : Prop := (R.1 = 0 ∧ S.1 = 1 ∧ S.2.1 = R.2.1) ∨ ∃ (p' w : Nat) (y z v : Int32) (c : Int32 × Int32 × Int32 × Int32) (r : Int32 × Int32 × Int32 × Int32 × Int64), p < p' ∧ TKN (I 34) l p' c r ∧ w < 8 ∧ (y = 0 ∨ y = 1) ∧ S = (g0, g1, g2, ktR g0 g2 v r4 t y (nI w) z, c.1, c.2.1, c.2.2.1, c.2.2.2) ∧ R = (if (4 : Int32) ≤ t then (1, k0, k1, k2, k3, q0, q1, q2, q3, q4, q5, r.1, r.2.1, r.2.2.1, r.2.2.2.1, r.2.2.2.2) else if (20 : Int32) ≤ x then (1, k0, k1, k2, k3, q0, q1, q2, q3, q4, q5, r.1, r.2.1, r.2.2.1, r.2.2.2.1, r.2.2.2.2) else (1, k0, k1, k2, k3, q0, upr q1 x.toNatClampNeg (t + 1), q2, upr q3 (4 * x + t).toNatClampNeg (if y = 0 then nI w else nI w + 8), upr q4 (4 * x + t).toNatClampNeg z, upr q5 (4 * x + t).toNatClampNeg v, r.1, r.2.1, r.2.2.1, r.2.2.2.1, r.2.2.2.2))
theorem rf1 {g0 : Int32} (h : ¬ g0 = 1) : (if g0 = 1 then g0 else 1) = 1 := by rw [if_neg h]
section
variable {I J : Nat → Nat → Int32} {l p : Nat} {g0 g1 g2 : Int32} {r4 : Nat → Int32} {k0 k1 k2 k3 : Int32} {q0 q1 q2 q3 q4 q5 : Nat → Int32} {x t : Int32}
/-- the NUMBER -/
theorem test3 (h : CX I J l) (hg : ¬ g0 = 1) {c : Int32 × Int32 × Int32 × Int32} {r : Int32 × Int32 × Int32 × Int32 × Int64} (k : TKN (I 34) l p c r) {w : Nat} (hw : w < 8) {y z : Int32} (hy : y = 0 ∨ y = 1) : RT I l p g0 g1 g2 r4 k0 k1 k2 k3 q0 q1 q2 q3 q4 q5 x t (rte_47 I g0 g1 g2 r4 c.1 c.2.1 c.2.2.1 c.2.2.2 t y (nI w) z) (tst_48 J k0 k1 k2 k3 q0 q1 q2 q3 q4 q5 r.1 r.2.1 r.2.2.1 r.2.2.2.1 r.2.2.2.2 x t y (nI w) z) := by
  have k' := k
  obtain ⟨⟨s, e, e1, e2, e3, e4, e5, e6, e7, e8⟩, -⟩ := k'
  unfold rte_47 tst_48
  by_cases c2 : c.1 = 2
  · have r3 : r.2.2.1 = 3 ∧ c.2.2.2 = r.2.2.2.1 := by
      rcases e8 with y | ⟨-, y | y | y | y⟩
      · rw [y.1] at c2; exact absurd c2 (by decide)
      · rw [y.1] at c2; exact absurd c2 (by decide)
      · exact ⟨y.2.1, y.2.2.1⟩
      · rw [y.1] at c2; exact absurd c2 (by decide)
      · rw [y.1] at c2; exact absurd c2 (by decide)
    rw [if_pos c2, if_pos r3.1]
    obtain ⟨p', p1, k2'⟩ := k.next h (by rw [c2]; decide) c.2.2.2
    refine Or.inr ⟨p', w, y, z, c.2.2.2, _, _, p1, k2', hw, hy, rfl, ?_⟩
    unfold tst_60
    rw [← r3.2]
  · have r3 : ¬ r.2.2.1 = 3 := by
      rcases e8 with y | ⟨-, y | y | y | y⟩
      · rw [y.2]; decide
      · rw [y.2]; decide
      · exact absurd y.1 c2
      · rw [y.2.1]; decide
      · rw [y.2]; decide
    rw [if_neg c2, if_neg r3]
    refine Or.inl ⟨rfl, rf1 hg, ?_⟩
    show (if g0 = 1 then g1 else c.2.1) = r.2.1
    rw [if_neg hg, e1, e4]
/-- the sign -/
theorem test2 (h : CX I J l) (hg : ¬ g0 = 1) {c : Int32 × Int32 × Int32 × Int32} {r : Int32 × Int32 × Int32 × Int32 × Int64} (k : TKN (I 34) l p c r) {w : Nat} (hw : w < 8) {y : Int32} (hy : y = 0 ∨ y = 1) : RT I l p g0 g1 g2 r4 k0 k1 k2 k3 q0 q1 q2 q3 q4 q5 x t (rte_24 I g0 g1 g2 r4 c.1 c.2.1 c.2.2.1 c.2.2.2 t y (nI w)) (tst_27 J k0 k1 k2 k3 q0 q1 q2 q3 q4 q5 r.1 r.2.1 r.2.2.1 r.2.2.2.1 r.2.2.2.2 x t y (nI w)) := by
  have k' := k
  obtain ⟨⟨s, e, e1, e2, e3, e4, e5, e6, e7, e8⟩, -⟩ := k'
  have bad : RT I l p g0 g1 g2 r4 k0 k1 k2 k3 q0 q1 q2 q3 q4 q5 x t ((if g0 = 1 then g0 else 1), (if g0 = 1 then g1 else c.2.1), g2, r4, c.1, c.2.1, c.2.2.1, c.2.2.2) (0, r.2.1, k1, k2, k3, q0, q1, q2, q3, q4, q5, r.1, r.2.1, r.2.2.1, r.2.2.2.1, r.2.2.2.2) := by
    refine Or.inl ⟨rfl, rf1 hg, ?_⟩
    show (if g0 = 1 then g1 else c.2.1) = r.2.1
    rw [if_neg hg, e1, e4]
  unfold rte_24 rte_33 tst_27
  by_cases c3 : c.1 = 3
  · have r3 : r.2.2.1 = 4 ∧ c.2.2.2 = r.2.2.2.1 := by
      rcases e8 with y | ⟨-, y | y | y | y⟩
      · rw [y.1] at c3; exact absurd c3 (by decide)
      · rw [y.1] at c3; exact absurd c3 (by decide)
      · rw [y.1] at c3; exact absurd c3 (by decide)
      · exact ⟨y.2.1, y.2.2⟩
      · rw [y.1] at c3; exact absurd c3 (by decide)
    obtain ⟨p', p1, k2'⟩ := k.next h (by rw [c3]; decide) c.2.2.2
    have good : ∀ z, RT I l p g0 g1 g2 r4 k0 k1 k2 k3 q0 q1 q2 q3 q4 q5 x t (rte_47 I g0 g1 g2 r4 (stp (I 34) (I 39 5) c.2.2.1 c.2.2.2).1 (stp (I 34) (I 39 5) c.2.2.1 c.2.2.2).2.1 (stp (I 34) (I 39 5) c.2.2.1 c.2.2.2).2.2.1 (stp (I 34) (I 39 5) c.2.2.1 c.2.2.2).2.2.2 t y (nI w) z) (tst_48 J k0 k1 k2 k3 q0 q1 q2 q3 q4 q5 (nxt (J 62) (J 61 55) r.1).1 (nxt (J 62) (J 61 55) r.1).2.1 (nxt (J 62) (J 61 55) r.1).2.2.1 (nxt (J 62) (J 61 55) r.1).2.2.2.1 (nxt (J 62) (J 61 55) r.1).2.2.2.2 x t y (nI w) z) := by
      intro z
      rcases test3 (x := x) (t := t) (g1 := g1) (g2 := g2) (r4 := r4) (k0 := k0) (k1 := k1) (k2 := k2) (k3 := k3) (q0 := q0) (q1 := q1) (q2 := q2) (q3 := q3) (q4 := q4) (q5 := q5) h hg k2' hw (z := z) hy with u | ⟨p2, w2, y2, z2, v2, c2, r2, u1, u2, u3⟩
      · exact Or.inl u
      · exact Or.inr ⟨p2, w2, y2, z2, v2, c2, r2, by omega, u2, u3⟩
    rw [if_neg (not_not_intro c3), if_neg (not_not_intro r3.1), ← r3.2]
    by_cases z1 : c.2.2.2 = 60
    · rw [if_pos z1, if_pos z1]; exact good _
    · rw [if_neg z1, if_neg z1]
      by_cases z2 : c.2.2.2 = 62
      · rw [if_pos z2, if_pos z2]; exact good _
      · rw [if_neg z2, if_neg z2]
        by_cases z3 : c.2.2.2 = 61
        · rw [if_pos z3, if_pos z3]; exact good _
        · rw [if_neg z3, if_neg z3]; rw [← r3.2] at bad; exact bad
  · have r3 : ¬ r.2.2.1 = 4 := by
      rcases e8 with y | ⟨-, y | y | y | y⟩
      · rw [y.2]; decide
      · rw [y.2]; decide
      · rw [y.2.1]; decide
      · exact absurd y.1 c3
      · rw [y.2]; decide
    rw [if_pos c3, if_pos r3, if_neg (by decide), if_neg (by decide), if_neg (by decide)]
    exact bad
/-- what it is about -/
theorem test1 (h : CX I J l) (hg : ¬ g0 = 1) {c : Int32 × Int32 × Int32 × Int32} {r : Int32 × Int32 × Int32 × Int32 × Int64} (k : TKN (I 34) l p c r) {y : Int32} (hy : y = 0 ∨ y = 1) : RT I l p g0 g1 g2 r4 k0 k1 k2 k3 q0 q1 q2 q3 q4 q5 x t (rte_12 I g0 g1 g2 r4 c.1 c.2.1 c.2.2.1 c.2.2.2 t y) (tst_16 J k0 k1 k2 k3 q0 q1 q2 q3 q4 q5 r.1 r.2.1 r.2.2.1 r.2.2.2.1 r.2.2.2.2 x t y) := by
  have k' := k
  obtain ⟨⟨s, e, e1, e2, e3, e4, e5, e6, e7, e8⟩, -, w4, -⟩ := k'
  unfold rte_12 tst_16
  rw [← w4]
  rcases tsw_cs r.2.2.1 r.2.2.2.2 with u | ⟨w, hw, u⟩
  · rw [if_neg (not_not_intro u), if_neg (not_not_intro u)]
    refine Or.inl ⟨rfl, rf1 hg, ?_⟩
    show (if g0 = 1 then g1 else c.2.1) = r.2.1
    rw [if_neg hg, e1, e4]
  · have nz : ¬ tsw r.2.2.1 r.2.2.2.2 = -1 := by rw [u, ← Int32.toInt_inj, nI_toInt (by omega), toI_m1]; omega
    have c1 : ¬ c.1 = 0 := by
      intro y
      rw [w4] at nz
      apply nz
      unfold wI4
      rw [if_neg (by rw [y]; decide)]
    rw [if_pos nz, if_pos nz, u]
    obtain ⟨p', p1, k2'⟩ := k.next h c1 c.2.2.2
    rcases test2 (x := x) (t := t) (g1 := g1) (g2 := g2) (r4 := r4) (k0 := k0) (k1 := k1) (k2 := k2) (k3 := k3) (q0 := q0) (q1 := q1) (q2 := q2) (q3 := q3) (q4 := q4) (q5 := q5) h hg k2' hw hy with u | ⟨p2, w2, y2, z2, v2, c2, r2, u1, u2, u3⟩
    · exact Or.inl u
    · exact Or.inr ⟨p2, w2, y2, z2, v2, c2, r2, by omega, u2, u3⟩
/-- a TEST -/
theorem test0 (h : CX I J l) (hg : ¬ g0 = 1) {c : Int32 × Int32 × Int32 × Int32} {r : Int32 × Int32 × Int32 × Int32 × Int64} (k : TKN (I 34) l p c r) : RT I l p g0 g1 g2 r4 k0 k1 k2 k3 q0 q1 q2 q3 q4 q5 x t (rte I g0 g1 g2 r4 c.1 c.2.1 c.2.2.1 c.2.2.2 t) (tst_8 J k0 k1 k2 k3 q0 q1 q2 q3 q4 q5 r.1 r.2.1 r.2.2.1 r.2.2.2.1 r.2.2.2.2 x t) := by
  have k' := k
  obtain ⟨-, -, -, -, -, w3, -⟩ := k'
  unfold rte tst_8
  have e : (if ¬ wI3 (I 34) c.1 c.2.1 c.2.2.1 = 0 then (0 : Int32) else 1) = iw r.2.2.1 r.2.2.2.2 7237492 := by
    rcases iw_01 r.2.2.1 r.2.2.2.2 7237492 with u | u
    · rw [u, if_pos (w3.mp u)]
    · rw [u, if_neg (fun y => by rw [w3.mpr y] at u; exact absurd u (by decide))]
  rw [e]
  by_cases u : iw r.2.2.1 r.2.2.2.2 7237492 = 0
  · rw [if_pos u, if_pos u]
    exact test1 h hg k (iw_01 _ _ _)
  · rw [if_neg u, if_neg u]
    have c1 : ¬ c.1 = 0 := by
      intro y
      apply u
      apply w3.mpr
      unfold wI3
      rw [if_neg (by rw [y]; decide)]; decide
    obtain ⟨p', p1, k2'⟩ := k.next h c1 c.2.2.2
    rcases test1 (x := x) (t := t) (g1 := g1) (g2 := g2) (r4 := r4) (k0 := k0) (k1 := k1) (k2 := k2) (k3 := k3) (q0 := q0) (q1 := q1) (q2 := q2) (q3 := q3) (q4 := q4) (q5 := q5) h hg k2' (iw_01 r.2.2.1 r.2.2.2.2 7237492) with u | ⟨p2, w2, y2, z2, v2, c2, r2, u1, u2, u3⟩
    · exact Or.inl u
    · exact Or.inr ⟨p2, w2, y2, z2, v2, c2, r2, by omega, u2, u3⟩
end
