/-! ACTS: the rest of a LINE, on both sides -/
theorem klR_at {cn : Nat} (hc : cn < 20) (x y z : Int32) (r : Nat → Int32) : klR 0 (nI cn) r x y z = upr (upr (upr r (19 * cn) x) (19 * cn + 1) y) (19 * cn + 2) z := by
  have k : ∀ b : Nat, b < 3 → (nI cn * 19 + nI b).toNatClampNeg = 19 * cn + b := by
    intro b hb
    rw [k19, nI_clamp (by omega)]
  have k0 : (nI cn * 19 + 0).toNatClampNeg = 19 * cn := k 0 (by decide)
  have k1 : (nI cn * 19 + 1).toNatClampNeg = 19 * cn + 1 := k 1 (by decide)
  have k2 : (nI cn * 19 + 2).toNatClampNeg = 19 * cn + 2 := k 2 (by decide)
  unfold klR
  rw [if_pos rfl, if_neg (show ¬ (20 : Int32) ≤ nI cn by rw [Int32.le_iff_toInt_le, toI_20, nI_toInt (by omega)]; omega), k0, k1, k2]
theorem klR_ne {g0 : Int32} (h : ¬ g0 = 0) (g2 : Int32) (r : Nat → Int32) (x y z : Int32) : klR g0 g2 r x y z = r := by unfold klR; rw [if_neg h]
section
variable {I J : Nat → Nat → Int32} {l : Nat}
theorem dead29 {g0 g1 g2 : Int32} {r4 : Nat → Int32} {g6 g7 g8 g9 x y z : Int32} (h : g0 = 1) : (rdl_29 I g0 g1 g2 r4 g6 g7 g8 g9 x y z).1 = 1 ∧ (rdl_29 I g0 g1 g2 r4 g6 g7 g8 g9 x y z).2.1 = g1 := by
  have e : tsg I g0 g1 g2 r4 g6 g7 g8 g9 59 = (g0, g1, g2, r4, g6, g7, g8, g9) := by unfold tsg; rw [if_neg (not_not_intro h)]
  unfold rdl_29
  rw [e]
  exact ⟨h, rfl⟩
theorem dead25 {g0 g1 g2 : Int32} {r4 : Nat → Int32} {g6 g7 g8 g9 x y : Int32} (h : g0 = 1) : (rdl_25 I g0 g1 g2 r4 g6 g7 g8 g9 x y).1 = 1 ∧ (rdl_25 I g0 g1 g2 r4 g6 g7 g8 g9 x y).2.1 = g1 := by
  have e : rto I g0 g1 g2 r4 g6 g7 g8 g9 x = (0, g0, g1, g2, r4, g6, g7, g8, g9) := by unfold rto; rw [if_neg (not_not_intro h)]
  unfold rdl_25
  rw [e]
  exact dead29 h
theorem dead22 {g0 g1 g2 : Int32} {r4 : Nat → Int32} {g6 g7 g8 g9 x y : Int32} (h : g0 = 1) : (rdl_22 I g0 g1 g2 r4 g6 g7 g8 g9 x y).1 = 1 ∧ (rdl_22 I g0 g1 g2 r4 g6 g7 g8 g9 x y).2.1 = g1 := by
  have e : tsg I g0 g1 g2 r4 g6 g7 g8 g9 58 = (g0, g1, g2, r4, g6, g7, g8, g9) := by unfold tsg; rw [if_neg (not_not_intro h)]
  unfold rdl_22
  rw [e]
  exact dead25 h
/-- a sign -/
theorem sign_t (h : CX I J l) {p : Nat} {g0 g1 g2 : Int32} (hg : ¬ g0 = 1) (r4 : Nat → Int32) (k0 k1 k2 k3 : Int32) (q0 q1 q2 q3 q4 q5 : Nat → Int32) {c : Int32 × Int32 × Int32 × Int32} {r : Int32 × Int32 × Int32 × Int32 × Int64} (k : TKN (I 34) l p c r) (v : Int32) : ((ned J k0 k1 k2 k3 q0 q1 q2 q3 q4 q5 r.1 r.2.1 r.2.2.1 r.2.2.2.1 r.2.2.2.2 v).1 = 0 ∧ (tsg I g0 g1 g2 r4 c.1 c.2.1 c.2.2.1 c.2.2.2 v).1 = 1 ∧ (tsg I g0 g1 g2 r4 c.1 c.2.1 c.2.2.1 c.2.2.2 v).2.1 = (ned J k0 k1 k2 k3 q0 q1 q2 q3 q4 q5 r.1 r.2.1 r.2.2.1 r.2.2.2.1 r.2.2.2.2 v).2.1) ∨ ∃ p' c' r', p < p' ∧ TKN (I 34) l p' c' r' ∧ tsg I g0 g1 g2 r4 c.1 c.2.1 c.2.2.1 c.2.2.2 v = (g0, g1, g2, r4, c'.1, c'.2.1, c'.2.2.1, c'.2.2.2) ∧ ned J k0 k1 k2 k3 q0 q1 q2 q3 q4 q5 r.1 r.2.1 r.2.2.1 r.2.2.2.1 r.2.2.2.2 v = (1, k0, k1, k2, k3, q0, q1, q2, q3, q4, q5, r'.1, r'.2.1, r'.2.2.1, r'.2.2.2.1, r'.2.2.2.2) := by
  have k' := k
  obtain ⟨⟨s, e, e1, e2, e3, e4, e5, e6, e7, e8⟩, -⟩ := k'
  have e21 : c.2.1 = r.2.1 := by rw [e1, e4]
  unfold tsg ned
  rw [if_pos hg]
  by_cases c3 : c.1 = 3
  · have r3 : r.2.2.1 = 4 ∧ c.2.2.2 = r.2.2.2.1 := by
      rcases e8 with y | ⟨-, y | y | y | y⟩
      · rw [y.1] at c3; exact absurd c3 (by decide)
      · rw [y.1] at c3; exact absurd c3 (by decide)
      · rw [y.1] at c3; exact absurd c3 (by decide)
      · exact ⟨y.2.1, y.2.2⟩
      · rw [y.1] at c3; exact absurd c3 (by decide)
    rw [if_neg (not_not_intro c3)]
    by_cases g : c.2.2.2 = v
    · have i1 : ¬ isg r.2.2.1 r.2.2.2.1 v = 0 := by unfold isg; rw [if_neg (not_not_intro r3.1), if_neg (not_not_intro (r3.2.symm.trans g))]; exact one_nz
      rw [if_neg (not_not_intro g), if_pos i1]
      obtain ⟨p', p1, k2'⟩ := k.next h (by rw [c3]; decide) c.2.2.2
      exact Or.inr ⟨p', _, _, p1, k2', rfl, rfl⟩
    · have i1 : isg r.2.2.1 r.2.2.2.1 v = 0 := by unfold isg; rw [if_neg (not_not_intro r3.1), if_pos (fun y => g (r3.2.trans y))]
      rw [if_pos g, if_neg (not_not_intro i1)]
      refine Or.inl ⟨rfl, rf1 hg, ?_⟩
      show (if g0 = 1 then g1 else c.2.1) = r.2.1
      rw [if_neg hg, e21]
  · have r3 : ¬ r.2.2.1 = 4 := by
      rcases e8 with y | ⟨-, y | y | y | y⟩
      · rw [y.2]; decide
      · rw [y.2]; decide
      · rw [y.2.1]; decide
      · exact absurd y.1 c3
      · rw [y.2]; decide
    have i1 : isg r.2.2.1 r.2.2.2.1 v = 0 := by unfold isg; rw [if_pos r3]
    rw [if_pos c3, if_neg (not_not_intro i1)]
    refine Or.inl ⟨rfl, rf1 hg, ?_⟩
    show (if g0 = 1 then g1 else c.2.1) = r.2.1
    rw [if_neg hg, e21]
/-- the notes of both sides agree -/
def NT (g0 g1 k1 k2 : Int32) : Prop := (g0 = 0 ∨ g0 = 2 ∨ g0 = 3) ∧ k1 = g0 ∧ (g0 = 0 → g1 = -1) ∧ (¬ g0 = 0 → g1 = k2)
theorem NT.note {g0 g1 k1 k2 a v : Int32} (h : NT g0 g1 k1 k2) (hv : v = 2 ∨ v = 3) : NT (nt0 g0 v) (if g0 = 0 then a else g1) (if k1 = 0 then v else k1) (if k1 = 0 then a else k2) ∧ ¬ nt0 g0 v = 0 := by
  obtain ⟨h1, h2, h3, h4⟩ := h
  have n := nt_in h1 hv
  refine ⟨⟨n.2.1, by rw [h2]; rfl, fun y => absurd y n.2.2, fun _ => ?_⟩, n.2.2⟩
  rw [h2]
  by_cases y : g0 = 0
  · rw [if_pos y, if_pos y]
  · rw [if_neg y, if_neg y]; exact h4 y
/-- what is told -/
theorem told_t (h : CX I J l) {p tp : Nat} (htp : tp < 9) {g0 g1 g2 : Int32} (r4 : Nat → Int32) (k0 : Int32) {k1 k2 : Int32} (k3 : Int32) (hn : NT g0 g1 k1 k2) {q0 : Nat → Int32} (q1 q2 q3 q4 q5 : Nat → Int32) {c : Int32 × Int32 × Int32 × Int32} {r : Int32 × Int32 × Int32 × Int32 × Int64} (k : TKN (I 34) l p c r) {x : Int32} (hq : q0 x.toNatClampNeg = nI tp) : ((onl_71 J k0 k1 k2 k3 q0 q1 q2 q3 q4 q5 r.1 r.2.1 r.2.2.1 r.2.2.2.1 r.2.2.2.2 x).1 = 0 ∧ (rto I g0 g1 g2 r4 c.1 c.2.1 c.2.2.1 c.2.2.2 (nI tp)).2.1 = 1 ∧ (rto I g0 g1 g2 r4 c.1 c.2.1 c.2.2.1 c.2.2.2 (nI tp)).2.2.1 = (onl_71 J k0 k1 k2 k3 q0 q1 q2 q3 q4 q5 r.1 r.2.1 r.2.2.1 r.2.2.2.1 r.2.2.2.2 x).2.1) ∨ ∃ p' y g0' g1' k1' k2' c' r', p < p' ∧ TKN (I 34) l p' c' r' ∧ NT g0' g1' k1' k2' ∧ (g0' = 0 → g0 = 0 ∧ (tp = 7 → y.toInt ≤ 100)) ∧ (0 ≤ y.toInt ∧ y.toInt ≤ 99999) ∧ rto I g0 g1 g2 r4 c.1 c.2.1 c.2.2.1 c.2.2.2 (nI tp) = (y, g0', g1', g2, r4, c'.1, c'.2.1, c'.2.2.1, c'.2.2.2) ∧ onl_71 J k0 k1 k2 k3 q0 q1 q2 q3 q4 q5 r.1 r.2.1 r.2.2.1 r.2.2.2.1 r.2.2.2.2 x = onl_140 J k0 k1' k2' k3 q0 q1 (upr q2 x.toNatClampNeg y) q3 q4 q5 r'.1 r'.2.1 r'.2.2.1 r'.2.2.2.1 r'.2.2.2.2 x := by
  have k' := k
  obtain ⟨⟨s, e, e1, e2, e3, e4, e5, e6, e7, e8⟩, -, -, -, -, -, w5⟩ := k'
  have e21 : c.2.1 = r.2.1 := by rw [e1, e4]
  have hg := g_ne1 hn.1
  unfold rto rto_15 onl_71
  rw [if_pos hg]
  by_cases c2 : c.1 = 2
  · have r3 : r.2.2.1 = 3 ∧ c.2.2.2 = r.2.2.2.1 ∧ 0 ≤ c.2.2.2.toInt ∧ c.2.2.2.toInt ≤ 99999 := by
      rcases e8 with y | ⟨-, y | y | y | y⟩
      · rw [y.1] at c2; exact absurd c2 (by decide)
      · rw [y.1] at c2; exact absurd c2 (by decide)
      · exact y.2
      · rw [y.1] at c2; exact absurd c2 (by decide)
      · rw [y.1] at c2; exact absurd c2 (by decide)
    obtain ⟨p', p1, k2'⟩ := k.next h (by rw [c2]; decide) c.2.2.2
    have ym : ¬ c.2.2.2 = -1 := fun y => by rw [y, toI_m1] at r3; omega
    rw [if_neg (not_not_intro c2), if_pos ym, if_neg (not_not_intro r3.1), hq, ← r3.2.1]
    unfold rto_22
    rw [if_pos ym]
    have c100 : c.2.2.2 ≤ 100 ↔ c.2.2.2.toInt ≤ 100 := by rw [Int32.le_iff_toInt_le, toI_100]
    by_cases g : c.2.2.2 ≤ 100
    · rw [if_pos g, if_pos g]
      refine Or.inr ⟨p', c.2.2.2, g0, g1, k1, k2, _, _, p1, k2', hn, fun y => ⟨y, fun _ => c100.mp g⟩, r3.2.2, rfl, ?_⟩
      simp only [ite_self]
      rfl
    · rw [if_neg g, if_neg g]
      have nn := hn.note (a := c.2.1) (v := 2) (Or.inl rfl)
      rw [← e21]
      by_cases t4 : nI tp = 4
      · rw [if_pos t4, if_pos t4]
        exact Or.inr ⟨p', c.2.2.2, nt0 g0 2, _, _, _, _, _, p1, k2', nn.1, fun y => absurd y nn.2, r3.2.2, rfl, rfl⟩
      · rw [if_neg t4, if_neg t4]
        by_cases t5 : nI tp = 5
        · rw [if_pos t5, if_pos t5]
          exact Or.inr ⟨p', c.2.2.2, nt0 g0 2, _, _, _, _, _, p1, k2', nn.1, fun y => absurd y nn.2, r3.2.2, rfl, rfl⟩
        · rw [if_neg t5, if_neg t5]
          by_cases t7 : nI tp = 7
          · rw [if_neg (not_not_intro t7), if_neg (not_not_intro t7)]
            exact Or.inr ⟨p', c.2.2.2, nt0 g0 2, _, _, _, _, _, p1, k2', nn.1, fun y => absurd y nn.2, r3.2.2, rfl, rfl⟩
          · rw [if_pos t7, if_pos t7]
            exact Or.inr ⟨p', c.2.2.2, g0, g1, k1, k2, _, _, p1, k2', hn, fun y => ⟨y, fun y2 => absurd (by rw [y2]; rfl) t7⟩, r3.2.2, rfl, rfl⟩
  · have r3 : ¬ r.2.2.1 = 3 := by
      rcases e8 with y | ⟨-, y | y | y | y⟩
      · rw [y.2]; decide
      · rw [y.2]; decide
      · exact absurd y.1 c2
      · rw [y.2.1]; decide
      · rw [y.2]; decide
    rw [if_pos c2, if_neg (show ¬ ¬ (-1 : Int32) = -1 from not_not_intro rfl), if_pos r3]
    have ck : ¬ wI5 (I 34) c.1 c.2.1 c.2.2.1 = -1 → ¬ c.1 = 0 := fun y y2 => y (by unfold wI5; rw [if_neg (by rw [y2]; decide)])
    unfold rto_22
    rcases w5 with ⟨a1, a2, a3⟩ | ⟨a1, a2, a3⟩ | ⟨a1, a2⟩
    · rw [a1, if_neg (show ¬ ¬ (-1 : Int32) = -1 from not_not_intro rfl), if_neg (not_not_intro a2), if_pos a3]
      refine Or.inl ⟨rfl, rf1 hg, ?_⟩
      show (if g0 = 1 then g1 else c.2.1) = r.2.1
      rw [if_neg hg, e21]
    · obtain ⟨p', p1, k2'⟩ := k.next h (ck (by rw [a1]; decide)) c.2.2.2
      rw [a1, if_pos (show ¬ (0 : Int32) = -1 by decide), if_pos (show (0 : Int32) ≤ 100 by decide), if_neg (not_not_intro a2), if_neg a3, if_pos a2]
      exact Or.inr ⟨p', 0, g0, g1, k1, k2, _, _, p1, k2', hn, fun y => ⟨y, fun _ => by rw [toI_0]; omega⟩, by rw [toI_0]; omega, rfl, rfl⟩
    · obtain ⟨p', p1, k2'⟩ := k.next h (ck (by rw [a1]; decide)) c.2.2.2
      rw [a1, if_pos (show ¬ (1 : Int32) = -1 by decide), if_pos (show (1 : Int32) ≤ 100 by decide), if_pos a2, if_neg a2]
      exact Or.inr ⟨p', 1, g0, g1, k1, k2, _, _, p1, k2', hn, fun y => ⟨y, fun _ => by rw [toI_1]; omega⟩, by rw [toI_1]; omega, rfl, rfl⟩
/-- between LINES, on both sides -/
def GLn (T : Nat → Int32) (l p cn : Nat) (g0 g1 : Int32) (r4 : Nat → Int32) (k1 k2 : Int32) (q0 q1 q2 q3 q4 q5 : Nat → Int32) (c : Int32 × Int32 × Int32 × Int32) (r : Int32 × Int32 × Int32 × Int32 × Int64) : Prop := TKN T l p c r ∧ NT g0 g1 k1 k2 ∧ (20 < cn → ¬ g0 = 0) ∧ (g0 = 0 → LNS r4 q0 q1 q2 q3 q4 q5 cn)
set_option maxHeartbeats 1000000 in
theorem rest_t (h : CX I J l) {p cn j tp : Nat} (hcn : cn < 1000) (hj : j ≤ 700) (htp : tp < 9) {g0 g1 : Int32} {r4 : Nat → Int32} (k0 : Int32) {k1 k2 : Int32} {q0 q1 q2 q3 q4 q5 : Nat → Int32} {c : Int32 × Int32 × Int32 × Int32} {r : Int32 × Int32 × Int32 × Int32 × Int64} (H : LI (I 34) l p cn j g0 g1 r4 k1 k2 q0 q1 q2 q3 q4 q5 c r) (hq : q0 (xx cn).toNatClampNeg = nI tp) : ((onl_65 J k0 k1 k2 (nI cn) q0 q1 q2 q3 q4 q5 r.1 r.2.1 r.2.2.1 r.2.2.2.1 r.2.2.2.2 (xx cn)).1 = 0 ∧ (rdl_22 I g0 g1 (nI cn) r4 c.1 c.2.1 c.2.2.1 c.2.2.2 (nI tp) (nI j)).1 = 1 ∧ (rdl_22 I g0 g1 (nI cn) r4 c.1 c.2.1 c.2.2.1 c.2.2.2 (nI tp) (nI j)).2.1 = (onl_65 J k0 k1 k2 (nI cn) q0 q1 q2 q3 q4 q5 r.1 r.2.1 r.2.2.1 r.2.2.2.1 r.2.2.2.2 (xx cn)).2.1) ∨ ∃ p' g0' g1' r4' k1' k2' q2' c' r', p < p' ∧ GLn (I 34) l p' (cn + 1) g0' g1' r4' k1' k2' q0 q1 q2' q3 q4 q5 c' r' ∧ rdl_22 I g0 g1 (nI cn) r4 c.1 c.2.1 c.2.2.1 c.2.2.2 (nI tp) (nI j) = (g0', g1', nI (cn + 1), r4', c'.1, c'.2.1, c'.2.2.1, c'.2.2.2) ∧ onl_65 J k0 k1 k2 (nI cn) q0 q1 q2 q3 q4 q5 r.1 r.2.1 r.2.2.1 r.2.2.2.1 r.2.2.2.2 (xx cn) = (1, k0, k1', k2', nI (cn + 1), q0, q1, q2', q3, q4, q5, r'.1, r'.2.1, r'.2.2.1, r'.2.2.2.1, r'.2.2.2.2) := by
  obtain ⟨hk, hg, h1, h2, h3, h4, h5, h6⟩ := H
  have hn : NT g0 g1 k1 k2 := ⟨hg, h1, h2, h3⟩
  unfold rdl_22 onl_65
  rcases sign_t (g2 := nI cn) h (g_ne1 hg) r4 k0 k1 k2 (nI cn) q0 q1 q2 q3 q4 q5 hk 58 with ⟨u1, u2, u3⟩ | ⟨p1, c1, r1, u1, u2, u3, u4⟩
  · left
    rw [if_neg (not_not_intro u1)]
    obtain ⟨d1, d2⟩ := dead25 (I := I) (g1 := (tsg I g0 g1 (nI cn) r4 c.1 c.2.1 c.2.2.1 c.2.2.2 58).2.1) (g2 := (tsg I g0 g1 (nI cn) r4 c.1 c.2.1 c.2.2.1 c.2.2.2 58).2.2.1) (r4 := (tsg I g0 g1 (nI cn) r4 c.1 c.2.1 c.2.2.1 c.2.2.2 58).2.2.2.1) (g6 := (tsg I g0 g1 (nI cn) r4 c.1 c.2.1 c.2.2.1 c.2.2.2 58).2.2.2.2.1) (g7 := (tsg I g0 g1 (nI cn) r4 c.1 c.2.1 c.2.2.1 c.2.2.2 58).2.2.2.2.2.1) (g8 := (tsg I g0 g1 (nI cn) r4 c.1 c.2.1 c.2.2.1 c.2.2.2 58).2.2.2.2.2.2.1) (g9 := (tsg I g0 g1 (nI cn) r4 c.1 c.2.1 c.2.2.1 c.2.2.2 58).2.2.2.2.2.2.2) (x := nI tp) (y := nI j) u2
    exact ⟨rfl, d1, d2.trans u3⟩
  · rw [u3, u4]
    dsimp only
    rw [if_pos one_nz]
    unfold rdl_25
    rcases told_t (g2 := nI cn) h htp r4 k0 (nI cn) hn q1 q2 q3 q4 q5 u2 hq with ⟨v1, v2, v3⟩ | ⟨p2, y, G0, G1, K1, K2, c2, r2, v1, v2, v3, v4, v5, v6, v7⟩
    · left
      obtain ⟨d1, d2⟩ := dead29 (I := I) (g1 := (rto I g0 g1 (nI cn) r4 c1.1 c1.2.1 c1.2.2.1 c1.2.2.2 (nI tp)).2.2.1) (g2 := (rto I g0 g1 (nI cn) r4 c1.1 c1.2.1 c1.2.2.1 c1.2.2.2 (nI tp)).2.2.2.1) (r4 := (rto I g0 g1 (nI cn) r4 c1.1 c1.2.1 c1.2.2.1 c1.2.2.2 (nI tp)).2.2.2.2.1) (g6 := (rto I g0 g1 (nI cn) r4 c1.1 c1.2.1 c1.2.2.1 c1.2.2.2 (nI tp)).2.2.2.2.2.1) (g7 := (rto I g0 g1 (nI cn) r4 c1.1 c1.2.1 c1.2.2.1 c1.2.2.2 (nI tp)).2.2.2.2.2.2.1) (g8 := (rto I g0 g1 (nI cn) r4 c1.1 c1.2.1 c1.2.2.1 c1.2.2.2 (nI tp)).2.2.2.2.2.2.2.1) (g9 := (rto I g0 g1 (nI cn) r4 c1.1 c1.2.1 c1.2.2.1 c1.2.2.2 (nI tp)).2.2.2.2.2.2.2.2) (x := nI tp) (y := nI j) (z := (rto I g0 g1 (nI cn) r4 c1.1 c1.2.1 c1.2.2.1 c1.2.2.2 (nI tp)).1) v2
      exact ⟨v1, d1, d2.trans v3⟩
    · rw [v6, v7]
      dsimp only
      unfold rdl_29 onl_140
      rcases sign_t (g1 := G1) (g2 := nI cn) h (g_ne1 v3.1) r4 k0 K1 K2 (nI cn + 1) q0 q1 (upr q2 (xx cn).toNatClampNeg y) q3 q4 q5 v2 59 with ⟨z1, z2, z3⟩ | ⟨p3, c3, r3, z1, z2, z3, z4⟩
      · left
        exact ⟨z1, z2, z3⟩
      · right
        rw [z3, z4]
        dsimp only
        unfold rdl_32
        rw [nI_1]
        by_cases g : G0 = 0
        · obtain ⟨g00, y100⟩ := v4 g
          have cn20 : cn < 20 := by
            refine Classical.byContradiction fun yy => h4 (by omega) g00
          obtain ⟨l1, l2, l3, l4⟩ := h6 g00
          rw [g, klR_at cn20, xx_lt cn20, nI_clamp (by omega)]
          rw [xx_lt cn20, nI_clamp (by omega)] at hq
          refine ⟨p3, 0, G1, _, K1, K2, _, c3, r3, by omega, ⟨z2, by rw [← g]; exact v3, fun yy => by omega, fun _ i hi => ?_⟩, rfl, rfl⟩
          by_cases e : i = cn
          · subst e
            unfold FLn
            have b0 : upr (upr (upr r4 (19 * i) (nI tp)) (19 * i + 1) y) (19 * i + 2) (nI j) (19 * i) = nI tp := by rw [upr_ne (by omega), upr_ne (by omega), upr_at]
            have b1 : upr (upr (upr r4 (19 * i) (nI tp)) (19 * i + 1) y) (19 * i + 2) (nI j) (19 * i + 1) = y := by rw [upr_ne (by omega), upr_at]
            rw [b0, b1, upr_at, upr_at]
            refine ⟨hq.symm, rfl, v5, fun yy => y100 (nI_inj (a := tp) (b := 7) (by omega) (by omega) yy), j, l3, rfl, l2, fun u hu => (l4 u hu).cg (fun k hk => ?_) rfl rfl rfl⟩
            rw [upr_ne (by omega), upr_ne (by omega), upr_ne (by omega)]
          · refine (l1 i (by omega)).cg (fun k hk => ?_) rfl rfl (upr_ne (by omega)) (fun _ _ => rfl) (fun _ _ => rfl) (fun _ _ => rfl)
            rw [upr_ne (by omega), upr_ne (by omega), upr_ne (by omega)]
        · rw [klR_ne g]
          exact ⟨p3, G0, G1, r4, K1, K2, _, c3, r3, by omega, ⟨z2, v3, fun _ => g, fun yy => absurd yy g⟩, rfl, rfl⟩
end
