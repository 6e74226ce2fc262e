/-! ACTS: all LINES, on both sides -/
section
variable {I J : Nat → Nat → Int32} {l : Nat}
set_option maxHeartbeats 1000000 in
theorem line_t (h : CX I J l) {p cn : Nat} (hcn : cn < 900) {g0 g1 : Int32} {r4 : Nat → Int32} (k0 : Int32) {k1 k2 : Int32} {q0 q1 q2 q3 q4 q5 : Nat → Int32} {c : Int32 × Int32 × Int32 × Int32} {r : Int32 × Int32 × Int32 × Int32 × Int64} (H : GLn (I 34) l p cn g0 g1 r4 k1 k2 q0 q1 q2 q3 q4 q5 c r) : ((onl J k0 k1 k2 (nI cn) q0 q1 q2 q3 q4 q5 r.1 r.2.1 r.2.2.1 r.2.2.2.1 r.2.2.2.2).1 = 0 ∧ (rdl I g0 g1 (nI cn) r4 c.1 c.2.1 c.2.2.1 c.2.2.2).1 = 1 ∧ (rdl I g0 g1 (nI cn) r4 c.1 c.2.1 c.2.2.1 c.2.2.2).2.1 = (onl J k0 k1 k2 (nI cn) q0 q1 q2 q3 q4 q5 r.1 r.2.1 r.2.2.1 r.2.2.2.1 r.2.2.2.2).2.1) ∨ ∃ p' g0' g1' r4' k1' k2' q0' q1' q2' q3' q4' q5' c' r', p < p' ∧ GLn (I 34) l p' (cn + 1) g0' g1' r4' k1' k2' q0' q1' q2' q3' q4' q5' c' r' ∧ rdl I g0 g1 (nI cn) r4 c.1 c.2.1 c.2.2.1 c.2.2.2 = (g0', g1', nI (cn + 1), r4', c'.1, c'.2.1, c'.2.2.1, c'.2.2.2) ∧ onl J k0 k1 k2 (nI cn) q0 q1 q2 q3 q4 q5 r.1 r.2.1 r.2.2.1 r.2.2.2.1 r.2.2.2.2 = (1, k0, k1', k2', nI (cn + 1), q0', q1', q2', q3', q4', q5', r'.1, r'.2.1, r'.2.2.1, r'.2.2.2.1, r'.2.2.2.2) := by
  obtain ⟨hk, hn, hb, hl⟩ := H
  have hk' := hk
  obtain ⟨⟨s, e, e1, e2, e3, e4, e5, e6, e7, e8⟩, w0, -⟩ := hk'
  have e21 : c.2.1 = r.2.1 := by rw [e1, e4]
  have hg := g_ne1 hn.1
  -- the notes
  obtain ⟨G0, G1, K1, K2, eG, eT, n1, n5, n6⟩ : ∃ G0 G1 K1 K2 : Int32, (∀ x, (if nI cn < (20 : Int32) then rdl_17 I g0 g1 (nI cn) r4 c.1 c.2.1 c.2.2.1 c.2.2.2 x else rdl_17 I (if g0 = 0 then (3 : Int32) else g0) (if g0 = 0 then c.2.1 else g1) (nI cn) r4 c.1 c.2.1 c.2.2.1 c.2.2.2 x) = rdl_17 I G0 G1 (nI cn) r4 c.1 c.2.1 c.2.2.1 c.2.2.2 x) ∧ onl_9 J k0 k1 k2 (nI cn) q0 q1 q2 q3 q4 q5 r.1 r.2.1 r.2.2.1 r.2.2.2.1 r.2.2.2.2 (xx cn) = onl_18 J k0 K1 K2 (nI cn) q0 q1 q2 q3 q4 q5 r.1 r.2.1 r.2.2.1 r.2.2.2.1 r.2.2.2.2 (xx cn) ∧ NT G0 G1 K1 K2 ∧ (G0 = 0 → g0 = 0 ∧ cn < 20) ∧ (20 ≤ cn → ¬ G0 = 0) := by
    have c20 : nI cn < (20 : Int32) ↔ cn < 20 := by rw [Int32.lt_iff_toInt_lt, toI_20, nI_toInt (by omega)]; omega
    by_cases cj : cn < 20
    · refine ⟨g0, g1, k1, k2, fun x => by rw [if_pos (c20.mpr cj)], ?_, hn, fun y => ⟨y, cj⟩, fun y => by omega⟩
      unfold onl_9
      rw [if_pos (show ¬ nI cn = 20 from fun y => by have := nI_inj (a := cn) (b := 20) (by omega) (by omega) y; omega)]
    · have nn := hn.note (a := c.2.1) (v := 3) (Or.inr rfl)
      by_cases c4 : cn = 20
      · refine ⟨nt0 g0 3, if g0 = 0 then c.2.1 else g1, if k1 = 0 then 3 else k1, if k1 = 0 then c.2.1 else k2, fun x => by rw [if_neg (fun y => cj (c20.mp y))]; rfl, ?_, nn.1, fun y => absurd y nn.2, fun _ => nn.2⟩
        unfold onl_9
        rw [if_neg (not_not_intro (show nI cn = 20 by rw [c4]; rfl)), e21]
      · have gn := hb (by omega)
        refine ⟨g0, g1, k1, k2, fun x => by rw [if_neg (fun y => cj (c20.mp y)), if_neg gn, if_neg gn], ?_, hn, fun y => absurd y gn, fun _ => gn⟩
        unfold onl_9
        rw [if_pos (show ¬ nI cn = 20 from fun y => by have := nI_inj (a := cn) (b := 20) (by omega) (by omega) y; omega)]
  have eO : onl J k0 k1 k2 (nI cn) q0 q1 q2 q3 q4 q5 r.1 r.2.1 r.2.2.1 r.2.2.2.1 r.2.2.2.2 = onl_18 J k0 K1 K2 (nI cn) q0 q1 q2 q3 q4 q5 r.1 r.2.1 r.2.2.1 r.2.2.2.1 r.2.2.2.2 (xx cn) := eT
  rw [eO]
  unfold rdl onl_18
  rw [up2_at, ← w0, eG]
  rcases tpw_cs r.2.2.1 r.2.2.2.2 with u | ⟨tp, htp, u⟩
  · left
    rw [if_neg (not_not_intro u), if_neg (not_not_intro u)]
    refine ⟨rfl, rf1 hg, ?_⟩
    show (if g0 = 1 then g1 else c.2.1) = r.2.1
    rw [if_neg hg, e21]
  · have nz : ¬ tpw r.2.2.1 r.2.2.2.2 = -1 := by rw [u, ← Int32.toInt_inj, nI_toInt (by omega), toI_m1]; omega
    have ck : ¬ c.1 = 0 := by
      intro y
      rw [w0] at nz
      apply nz
      unfold wI0
      rw [if_neg (by rw [y]; decide)]
    rw [if_pos nz, if_pos nz, u]
    obtain ⟨p1, p1', k2'⟩ := hk.next h ck c.2.2.2
    have pl : p1 ≤ l := by
      obtain ⟨⟨s, e, -, -, -, -, e5, e6, e7, -⟩, -⟩ := k2'
      omega
    have w1 := k2'.2.2.2.1
    have Gn := g_ne1 n1.1
    have hq : upr q0 (xx cn).toNatClampNeg (nI tp) (xx cn).toNatClampNeg = nI tp := upr_at _ _ _
    have H' : LI (I 34) l p1 cn 0 G0 G1 r4 K1 K2 (upr q0 (xx cn).toNatClampNeg (nI tp)) (upr q1 (xx cn).toNatClampNeg 0) q2 q3 q4 q5 (stp (I 34) (I 39 5) c.2.2.1 c.2.2.2) (nxt (J 62) (J 61 55) r.1) := by
      refine ⟨k2', n1.1, n1.2.1, n1.2.2.1, n1.2.2.2, n6, fun y => by omega, fun y => ?_⟩
      obtain ⟨y1, y2⟩ := n5 y
      rw [xx_lt y2, nI_clamp (by omega)]
      refine ⟨fun i hi => (hl y1 i hi).cg (fun _ _ => rfl) (upr_ne (by omega)) (upr_ne (by omega)) rfl (fun _ _ => rfl) (fun _ _ => rfl) (fun _ _ => rfl), upr_at _ _ _, by omega, fun u hu => by omega⟩
    unfold rdl_17 rdl_19 onl_40
    by_cases ci : iw (nxt (J 62) (J 61 55) r.1).2.2.1 (nxt (J 62) (J 61 55) r.1).2.2.2.2 26982 = 0
    · rw [if_pos ci]
      have nw := w1.mp ci
      have eR : rts I 600 0 (G0, G1, nI cn, r4, (stp (I 34) (I 39 5) c.2.2.1 c.2.2.2).1, (stp (I 34) (I 39 5) c.2.2.1 c.2.2.2).2.1, (stp (I 34) (I 39 5) c.2.2.1 c.2.2.2).2.2.1, (stp (I 34) (I 39 5) c.2.2.1 c.2.2.2).2.2.2) = (nI 0, (G0, G1, nI cn, r4, (stp (I 34) (I 39 5) c.2.2.1 c.2.2.2).1, (stp (I 34) (I 39 5) c.2.2.1 c.2.2.2).2.1, (stp (I 34) (I 39 5) c.2.2.1 c.2.2.2).2.2.1, (stp (I 34) (I 39 5) c.2.2.1 c.2.2.2).2.2.2)) := by
        rw [show (600 : Nat) = 599 + 1 from rfl, rts]
        dsimp only
        rw [if_neg Gn, if_neg (show ¬ ¬ nI 0 = 0 from not_not_intro rfl), if_neg nw, if_pos rfl]
      rw [eR]
      dsimp only
      rcases rest_t h (by omega) (show 0 ≤ 700 by omega) htp k0 H' hq with v | ⟨p', g0', g1', r4', k1', k2'', q2', c', r', v1, v2, v3, v4⟩
      · exact Or.inl v
      · exact Or.inr ⟨p', g0', g1', r4', k1', k2'', _, _, q2', q3, q4, q5, c', r', by omega, v2, v3, v4⟩
    · rw [if_neg ci]
      unfold onl_48
      have iw1 : wI1 (I 34) (stp (I 34) (I 39 5) c.2.2.1 c.2.2.2).1 (stp (I 34) (I 39 5) c.2.2.1 c.2.2.2).2.1 (stp (I 34) (I 39 5) c.2.2.1 c.2.2.2).2.2.1 = 0 := Classical.byContradiction fun y => ci (w1.mpr y)
      have hl6 : l ≤ 600 := h.1
      have hJ5 : (J 61 55).toNatClampNeg = l := by rw [h.2.2.1, nI_clamp (by omega)]
      rw [hJ5]
      rcases tests_t h (show cn < 1000 by omega) 600 (1 + l) 0 p1 G0 G1 r4 k0 K1 K2 _ _ q2 q3 q4 q5 _ _ H' (by rw [if_pos rfl]; exact iw1) (by omega) (by omega) (by omega) with ⟨v1, v2, v3⟩ | ⟨j', p2, g0', g1', r4', k1', k2'', q1', q3', q4', q5', c', r', v1, v2, v3, v4, v5, v6⟩
      · left
        rw [if_pos v1]
        generalize rts I 600 0 (G0, G1, nI cn, r4, (stp (I 34) (I 39 5) c.2.2.1 c.2.2.2).1, (stp (I 34) (I 39 5) c.2.2.1 c.2.2.2).2.1, (stp (I 34) (I 39 5) c.2.2.1 c.2.2.2).2.2.1, (stp (I 34) (I 39 5) c.2.2.1 c.2.2.2).2.2.2) = S at v2 v3
        obtain ⟨d1, d2⟩ := dead22 (I := I) (g1 := S.2.2.1) (g2 := S.2.2.2.1) (r4 := S.2.2.2.2.1) (g6 := S.2.2.2.2.2.1) (g7 := S.2.2.2.2.2.2.1) (g8 := S.2.2.2.2.2.2.2.1) (g9 := S.2.2.2.2.2.2.2.2) (x := nI tp) (y := S.1) v2
        exact ⟨rfl, d1, d2.trans v3⟩
      · rw [v5, v6]
        dsimp only
        rw [if_neg one_nz]
        rcases rest_t h (by omega) v3 htp k0 v4 hq with z | ⟨p', g0', g1', r4', k1', k2'', q2', c', r', z1, z2, z3, z4⟩
        · exact Or.inl z
        · exact Or.inr ⟨p', g0', g1', r4', k1', k2'', _, _, q2', _, _, _, c', r', by omega, z2, z3, z4⟩
theorem lines_t (h : CX I J l) : ∀ (f f' jj p cn : Nat) (g0 g1 : Int32) (r4 : Nat → Int32) (k0 k1 k2 : Int32) (q0 q1 q2 q3 q4 q5 : Nat → Int32) (c : Int32 × Int32 × Int32 × Int32) (r : Int32 × Int32 × Int32 × Int32 × Int64), GLn (I 34) l p cn g0 g1 r4 k1 k2 q0 q1 q2 q3 q4 q5 c r → l - p ≤ f → l - p ≤ f' → cn + f ≤ 800 → ((rll J f' 1 (k0, k1, k2, nI cn, q0, q1, q2, q3, q4, q5, r.1, r.2.1, r.2.2.1, r.2.2.2.1, r.2.2.2.2)).1 = 0 ∧ (rdF I f jj (g0, g1, nI cn, r4, c.1, c.2.1, c.2.2.1, c.2.2.2)).1 = 1 ∧ (rdF I f jj (g0, g1, nI cn, r4, c.1, c.2.1, c.2.2.1, c.2.2.2)).2.1 = (rll J f' 1 (k0, k1, k2, nI cn, q0, q1, q2, q3, q4, q5, r.1, r.2.1, r.2.2.1, r.2.2.2.1, r.2.2.2.2)).2.1) ∨ ∃ p' cn' g0' g1' r4' k1' k2' q0' q1' q2' q3' q4' q5' c' r', cn' ≤ 800 ∧ GLn (I 34) l p' cn' g0' g1' r4' k1' k2' q0' q1' q2' q3' q4' q5' c' r' ∧ rdF I f jj (g0, g1, nI cn, r4, c.1, c.2.1, c.2.2.1, c.2.2.2) = (g0', g1', nI cn', r4', c'.1, c'.2.1, c'.2.2.1, c'.2.2.2) ∧ rll J f' 1 (k0, k1, k2, nI cn, q0, q1, q2, q3, q4, q5, r.1, r.2.1, r.2.2.1, r.2.2.2.1, r.2.2.2.2) = (1, (k0, k1', k2', nI cn', q0', q1', q2', q3', q4', q5', r'.1, r'.2.1, r'.2.2.1, r'.2.2.2.1, r'.2.2.2.2)) := by
  intro f
  induction f with
  | zero =>
    intro f' jj p cn g0 g1 r4 k0 k1 k2 q0 q1 q2 q3 q4 q5 c r H hf hf' hc
    have H1 := H.1.1
    obtain ⟨s, e, e1, e2, e3, e4, e5, e6, e7, e8⟩ := H1
    have r0 : r.2.2.1 = 0 := by
      rcases e8 with y | y
      · exact y.2
      · have := y.1; omega
    refine Or.inr ⟨p, cn, g0, g1, r4, k1, k2, q0, q1, q2, q3, q4, q5, c, r, by omega, H, rfl, ?_⟩
    cases f' with
    | zero => rfl
    | succ f' => rw [rll, if_neg one_nz, if_pos r0]
  | succ f ih =>
    intro f' jj p cn g0 g1 r4 k0 k1 k2 q0 q1 q2 q3 q4 q5 c r H hf hf' hc
    have H1 := H.1.1
    obtain ⟨s, e, e1, e2, e3, e4, e5, e6, e7, e8⟩ := H1
    by_cases c0 : c.1 = 0
    · have r0 : r.2.2.1 = 0 := by
        rcases e8 with y | ⟨-, y | y | y | y⟩
        · exact y.2
        · rw [y.1] at c0; exact absurd c0 (by decide)
        · rw [y.1] at c0; exact absurd c0 (by decide)
        · rw [y.1] at c0; exact absurd c0 (by decide)
        · rw [y.1] at c0; exact absurd c0 (by decide)
      refine Or.inr ⟨p, cn, g0, g1, r4, k1, k2, q0, q1, q2, q3, q4, q5, c, r, by omega, H, ?_, ?_⟩
      · rw [rdF, if_pos c0]
      · cases f' with
        | zero => rfl
        | succ f' => rw [rll, if_neg one_nz, if_pos r0]
    · have r0 : ¬ r.2.2.1 = 0 := by
        rcases e8 with y | ⟨-, y | y | y | y⟩
        · exact absurd y.1 c0
        · rw [y.2]; decide
        · rw [y.2.1]; decide
        · rw [y.2.1]; decide
        · rw [y.2]; decide
      have se : s < e := by
        rcases e8 with y | y
        · exact absurd y.1 c0
        · exact y.1
      obtain ⟨f'', rfl⟩ : ∃ f'', f' = f'' + 1 := ⟨f' - 1, by omega⟩
      rw [rdF, rll]
      dsimp only
      rw [if_neg c0, if_neg (g_ne1 H.2.1.1), if_neg one_nz, if_neg r0]
      rcases line_t h (by omega) k0 H with ⟨u1, u2, u3⟩ | ⟨p', g0', g1', r4', k1', k2', q0', q1', q2', q3', q4', q5', c', r', u1, u2, u3, u4⟩
      · left
        rw [u1]
        have e1 : ∀ f s, rll J f 0 s = (0, s) := by
          intro f s
          cases f with
          | zero => rfl
          | succ f => rw [rll, if_pos rfl]
        have e2 : ∀ f j (s : S8), s.1 = 1 → rdF I f j s = s := by
          intro f j s hs
          cases f with
          | zero => rfl
          | succ f =>
            rw [rdF]
            by_cases y : s.2.2.2.2.1 = 0
            · rw [if_pos y]
            · rw [if_neg y, if_pos hs]
        rw [e1, e2 _ _ _ u2]
        exact ⟨rfl, u2, u3⟩
      · rw [u3, u4]
        dsimp only
        have pl : p' ≤ l := by
          obtain ⟨⟨⟨s, e, -, -, -, -, e5, e6, e7, -⟩, -⟩, -⟩ := u2
          omega
        exact ih f'' (jj + 1) p' (cn + 1) g0' g1' r4' k0 k1' k2' q0' q1' q2' q3' q4' q5' c' r' u2 (by omega) (by omega) (by omega)
end
