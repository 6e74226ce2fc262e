/-! ACTS: the TESTS of a LINE, on both sides -/
def LN (r4 q3 q4 q5 : Nat → Int32) (i u : Nat) : Prop := ∃ w, w < 8 ∧ r4 (19 * i + 3 + 4 * u + 1) = nI w ∧ ((r4 (19 * i + 3 + 4 * u) = 0 ∧ q3 (4 * i + u) = nI w) ∨ (r4 (19 * i + 3 + 4 * u) = 1 ∧ q3 (4 * i + u) = nI (w + 8))) ∧ r4 (19 * i + 3 + 4 * u + 2) = q4 (4 * i + u) ∧ r4 (19 * i + 3 + 4 * u + 3) = q5 (4 * i + u)
def FLn (r4 q0 q1 q2 q3 q4 q5 : Nat → Int32) (i : Nat) : Prop := r4 (19 * i) = q0 i ∧ r4 (19 * i + 1) = q2 i ∧ (0 ≤ (r4 (19 * i + 1)).toInt ∧ (r4 (19 * i + 1)).toInt ≤ 99999) ∧ (r4 (19 * i) = 7 → (r4 (19 * i + 1)).toInt ≤ 100) ∧ ∃ t, t ≤ 4 ∧ r4 (19 * i + 2) = nI t ∧ q1 i = nI t ∧ ∀ u, u < t → LN r4 q3 q4 q5 i u
theorem LN.cg {r4 r4' q3 q3' q4 q4' q5 q5' : Nat → Int32} {i u : Nat} (h : LN r4 q3 q4 q5 i u) (e : ∀ k, k < 4 → r4' (19 * i + 3 + 4 * u + k) = r4 (19 * i + 3 + 4 * u + k)) (e3 : q3' (4 * i + u) = q3 (4 * i + u)) (e4 : q4' (4 * i + u) = q4 (4 * i + u)) (e5 : q5' (4 * i + u) = q5 (4 * i + u)) : LN r4' q3' q4' q5' i u := by
  obtain ⟨w, h1, h2, h3, h4, h5⟩ := h
  have k0 : r4' (19 * i + 3 + 4 * u) = r4 (19 * i + 3 + 4 * u) := e 0 (by decide)
  have k1 : r4' (19 * i + 3 + 4 * u + 1) = r4 (19 * i + 3 + 4 * u + 1) := e 1 (by decide)
  have k2 : r4' (19 * i + 3 + 4 * u + 2) = r4 (19 * i + 3 + 4 * u + 2) := e 2 (by decide)
  have k3 : r4' (19 * i + 3 + 4 * u + 3) = r4 (19 * i + 3 + 4 * u + 3) := e 3 (by decide)
  unfold LN
  rw [k0, k1, k2, k3, e3, e4, e5]
  exact ⟨w, h1, h2, h3, h4, h5⟩
theorem FLn.cg {r4 r4' q0 q0' q1 q1' q2 q2' q3 q3' q4 q4' q5 q5' : Nat → Int32} {i : Nat} (h : FLn r4 q0 q1 q2 q3 q4 q5 i) (e : ∀ k, k < 19 → r4' (19 * i + k) = r4 (19 * i + k)) (e0 : q0' i = q0 i) (e1 : q1' i = q1 i) (e2 : q2' i = q2 i) (e3 : ∀ u, u < 4 → q3' (4 * i + u) = q3 (4 * i + u)) (e4 : ∀ u, u < 4 → q4' (4 * i + u) = q4 (4 * i + u)) (e5 : ∀ u, u < 4 → q5' (4 * i + u) = q5 (4 * i + u)) : FLn r4' q0' q1' q2' q3' q4' q5' i := by
  obtain ⟨h1, h2, h3, h4, t, h5, h6, h7, h8⟩ := h
  have k0 : r4' (19 * i) = r4 (19 * i) := e 0 (by decide)
  have k1 : r4' (19 * i + 1) = r4 (19 * i + 1) := e 1 (by decide)
  have k2 : r4' (19 * i + 2) = r4 (19 * i + 2) := e 2 (by decide)
  unfold FLn
  rw [k0, k1, k2, e0, e1, e2]
  refine ⟨h1, h2, h3, h4, t, h5, h6, h7, fun u hu => (h8 u hu).cg (fun k hk => ?_) (e3 u (by omega)) (e4 u (by omega)) (e5 u (by omega))⟩
  have := e (3 + 4 * u + k) (by omega)
  rw [show 19 * i + (3 + 4 * u + k) = 19 * i + 3 + 4 * u + k by omega] at this
  exact this
theorem ktR_at {cn j : Nat} (hc : cn < 20) (hj : j < 4) (v y z : Int32) (w : Nat) (r4 : Nat → Int32) : ktR 0 (nI cn) v r4 (nI j) y (nI w) z = upr (upr (upr (upr r4 (19 * cn + 3 + 4 * j) (if y = 0 then 0 else 1)) (19 * cn + 3 + 4 * j + 1) (nI w)) (19 * cn + 3 + 4 * j + 2) z) (19 * cn + 3 + 4 * j + 3) v := by
  have k : ∀ b : Nat, b < 4 → (nI cn * 19 + 3 + nI j * 4 + nI b).toNatClampNeg = 19 * cn + 3 + 4 * j + b := by
    intro b hb
    have e1 : nI cn * 19 + 3 + nI j * 4 + nI b = nI (19 * cn + 3 + 4 * j + b) := by
      rw [show nI cn * 19 = nI (cn * 19) from nI_mul cn 19, show nI j * 4 = nI (j * 4) from nI_mul j 4, show nI (cn * 19) + (3 : Int32) = nI (cn * 19 + 3) from nI_add _ 3, nI_add, nI_add]
      congr 1; omega
    rw [e1]
    exact nI_clamp (by omega)
  have k0 : (nI cn * 19 + 3 + nI j * 4 + 0).toNatClampNeg = 19 * cn + 3 + 4 * j := k 0 (by decide)
  have k1 : (nI cn * 19 + 3 + nI j * 4 + 1).toNatClampNeg = 19 * cn + 3 + 4 * j + 1 := k 1 (by decide)
  have k2 : (nI cn * 19 + 3 + nI j * 4 + 2).toNatClampNeg = 19 * cn + 3 + 4 * j + 2 := k 2 (by decide)
  have k3 : (nI cn * 19 + 3 + nI j * 4 + 3).toNatClampNeg = 19 * cn + 3 + 4 * j + 3 := k 3 (by decide)
  unfold ktR
  rw [if_pos rfl, if_neg (show ¬ (20 : Int32) ≤ nI cn by rw [Int32.le_iff_toInt_le, toI_20, nI_toInt (by omega)]; omega), if_neg (show ¬ (4 : Int32) ≤ nI j by rw [Int32.le_iff_toInt_le, toI_4, nI_toInt (by omega)]; omega), k0, k1, k2, k3]
def LNS (r4 q0 q1 q2 q3 q4 q5 : Nat → Int32) (cn : Nat) : Prop := ∀ i, i < cn → FLn r4 q0 q1 q2 q3 q4 q5 i
/-- the LINE that is being read: its TESTS so far -/
def CUR (r4 q1 q3 q4 q5 : Nat → Int32) (cn j : Nat) : Prop := q1 cn = nI j ∧ j ≤ 4 ∧ ∀ u, u < j → LN r4 q3 q4 q5 cn u
/-- within a LINE, on both sides -/
def LI (T : Nat → Int32) (l p cn j : Nat) (g0 g1 : Int32) (r4 : Nat → Int32) (k1 k2 : Int32) (q0 q1 q2 q3 q4 q5 : Nat → Int32) (c : Int32 × Int32 × Int32 × Int32) (r : Int32 × Int32 × Int32 × Int32 × Int64) : Prop := TKN T l p c r ∧ (g0 = 0 ∨ g0 = 2 ∨ g0 = 3) ∧ k1 = g0 ∧ (g0 = 0 → g1 = -1) ∧ (¬ g0 = 0 → g1 = k2) ∧ (20 ≤ cn → ¬ g0 = 0) ∧ (4 < j → ¬ g0 = 0) ∧ (g0 = 0 → LNS r4 q0 q1 q2 q3 q4 q5 cn ∧ CUR r4 q1 q3 q4 q5 cn j)
/-- a note: both sides take the first -/
def nt0 (g v : Int32) : Int32 := if g = 0 then v else g
theorem nt_in {g0 v : Int32} (h : g0 = 0 ∨ g0 = 2 ∨ g0 = 3) (hv : v = 2 ∨ v = 3) : (nt0 g0 v = 2 ∨ nt0 g0 v = 3) ∧ (nt0 g0 v = 0 ∨ nt0 g0 v = 2 ∨ nt0 g0 v = 3) ∧ ¬ nt0 g0 v = 0 := by
  unfold nt0
  rcases h with y | y | y
  · rw [if_pos y]; rcases hv with u | u <;> rw [u] <;> decide
  · rw [y]; rcases hv with u | u <;> rw [u] <;> decide
  · rw [y]; rcases hv with u | u <;> rw [u] <;> decide
theorem g_ne1 {g0 : Int32} (h : g0 = 0 ∨ g0 = 2 ∨ g0 = 3) : ¬ g0 = 1 := by rcases h with y | y | y <;> rw [y] <;> decide
def xx (cn : Nat) : Int32 := if (20 : Int32) ≤ nI cn then 20 else nI cn
theorem xx_lt {cn : Nat} (h : cn < 20) : xx cn = nI cn := by unfold xx; rw [if_neg (show ¬ (20 : Int32) ≤ nI cn by rw [Int32.le_iff_toInt_le, toI_20, nI_toInt (by omega)]; omega)]
theorem xx_ge {cn : Nat} (h : 20 ≤ cn) (h2 : cn < 2 ^ 30) : xx cn = 20 := by unfold xx; rw [if_pos (show (20 : Int32) ≤ nI cn by rw [Int32.le_iff_toInt_le, toI_20, nI_toInt (by omega)]; omega)]
theorem le4 {j : Nat} (hj : j < 2 ^ 30) : (4 : Int32) ≤ nI j ↔ 4 ≤ j := by rw [Int32.le_iff_toInt_le, toI_4, nI_toInt (by omega)]; omega
theorem lt4 {j : Nat} (hj : j < 2 ^ 30) : nI j < (4 : Int32) ↔ j < 4 := by rw [Int32.lt_iff_toInt_lt, toI_4, nI_toInt (by omega)]; omega
section
variable {I J : Nat → Nat → Int32} {l : Nat}
/-- a TEST more -/
theorem test_t (h : CX I J l) {p cn j : Nat} (hcn : cn < 1000) (hj : j < 1000) {g0 g1 : Int32} {r4 : Nat → Int32} {k0 k1 k2 : Int32} {q0 q1 q2 q3 q4 q5 : Nat → Int32} {c : Int32 × Int32 × Int32 × Int32} {r : Int32 × Int32 × Int32 × Int32 × Int64} (H : LI (I 34) l p cn j g0 g1 r4 k1 k2 q0 q1 q2 q3 q4 q5 c r) : ((tst J k0 k1 k2 (nI cn) q0 q1 q2 q3 q4 q5 r.1 r.2.1 r.2.2.1 r.2.2.2.1 r.2.2.2.2 (xx cn) (nI j)).1 = 0 ∧ (rte I (if nI j < (4 : Int32) then g0 else nt0 g0 3) (if nI j < (4 : Int32) then g1 else if g0 = 0 then c.2.1 else g1) (nI cn) r4 c.1 c.2.1 c.2.2.1 c.2.2.2 (nI j)).1 = 1 ∧ (rte I (if nI j < (4 : Int32) then g0 else nt0 g0 3) (if nI j < (4 : Int32) then g1 else if g0 = 0 then c.2.1 else g1) (nI cn) r4 c.1 c.2.1 c.2.2.1 c.2.2.2 (nI j)).2.1 = (tst J k0 k1 k2 (nI cn) q0 q1 q2 q3 q4 q5 r.1 r.2.1 r.2.2.1 r.2.2.2.1 r.2.2.2.2 (xx cn) (nI j)).2.1) ∨ ∃ p' g0' g1' r4' k1' k2' q1' q3' q4' q5' c' r', p < p' ∧ LI (I 34) l p' cn (j + 1) g0' g1' r4' k1' k2' q0 q1' q2 q3' q4' q5' c' r' ∧ rte I (if nI j < (4 : Int32) then g0 else nt0 g0 3) (if nI j < (4 : Int32) then g1 else if g0 = 0 then c.2.1 else g1) (nI cn) r4 c.1 c.2.1 c.2.2.1 c.2.2.2 (nI j) = (g0', g1', nI cn, r4', c'.1, c'.2.1, c'.2.2.1, c'.2.2.2) ∧ tst J k0 k1 k2 (nI cn) q0 q1 q2 q3 q4 q5 r.1 r.2.1 r.2.2.1 r.2.2.2.1 r.2.2.2.2 (xx cn) (nI j) = (1, k0, k1', k2', nI cn, q0, q1', q2, q3', q4', q5', r'.1, r'.2.1, r'.2.2.1, r'.2.2.2.1, r'.2.2.2.2) := by
  obtain ⟨hk, hg, h1, h2, h3, h4, h5, h6⟩ := H
  have e21 : c.2.1 = r.2.1 := by
    obtain ⟨⟨s, e, e1, e2, e3, e4, -⟩, -⟩ := hk
    rw [e1, e4]
  -- the notes
  obtain ⟨G0, G1, K1, K2, eG0, eG1, eT, n1, n2, n3, n4, n5, n6⟩ : ∃ G0 G1 K1 K2 : Int32, (if nI j < (4 : Int32) then g0 else nt0 g0 3) = G0 ∧ (if nI j < (4 : Int32) then g1 else if g0 = 0 then c.2.1 else g1) = G1 ∧ tst J k0 k1 k2 (nI cn) q0 q1 q2 q3 q4 q5 r.1 r.2.1 r.2.2.1 r.2.2.2.1 r.2.2.2.2 (xx cn) (nI j) = tst_8 J k0 K1 K2 (nI cn) q0 q1 q2 q3 q4 q5 r.1 r.2.1 r.2.2.1 r.2.2.2.1 r.2.2.2.2 (xx cn) (nI j) ∧ (G0 = 0 ∨ G0 = 2 ∨ G0 = 3) ∧ K1 = G0 ∧ (G0 = 0 → G1 = -1) ∧ (¬ G0 = 0 → G1 = K2) ∧ (G0 = 0 → g0 = 0 ∧ j < 4) ∧ (¬ g0 = 0 → ¬ G0 = 0) := by
    by_cases cj : j < 4
    · rw [if_pos ((lt4 (by omega)).mpr cj), if_pos ((lt4 (by omega)).mpr cj)]
      refine ⟨g0, g1, k1, k2, rfl, rfl, ?_, hg, h1, h2, h3, fun y => ⟨y, cj⟩, fun y => y⟩
      unfold tst
      rw [if_pos (show ¬ nI j = 4 from fun y => by have := nI_inj (a := j) (b := 4) (by omega) (by omega) y; omega)]
    · rw [if_neg (fun y => cj ((lt4 (by omega)).mp y)), if_neg (fun y => cj ((lt4 (by omega)).mp y))]
      have nn := nt_in hg (Or.inr rfl : (3 : Int32) = 2 ∨ (3 : Int32) = 3)
      by_cases c4 : j = 4
      · refine ⟨nt0 g0 3, if g0 = 0 then c.2.1 else g1, nt0 g0 3, if g0 = 0 then r.2.1 else k2, rfl, rfl, ?_, nn.2.1, rfl, fun y => absurd y nn.2.2, fun _ => ?_, fun y => absurd y nn.2.2, fun _ => nn.2.2⟩
        · unfold tst
          rw [if_neg (not_not_intro (show nI j = 4 by rw [c4]; rfl)), h1]
          rfl
        · by_cases y : g0 = 0
          · rw [if_pos y, if_pos y]; exact e21
          · rw [if_neg y, if_neg y]; exact h3 y
      · have gn := h5 (by omega)
        have en : nt0 g0 3 = g0 := by unfold nt0; rw [if_neg gn]
        refine ⟨nt0 g0 3, if g0 = 0 then c.2.1 else g1, k1, k2, rfl, rfl, ?_, nn.2.1, by rw [en]; exact h1, fun y => absurd y nn.2.2, fun _ => by rw [if_neg gn]; exact h3 gn, fun y => absurd y nn.2.2, fun _ => nn.2.2⟩
        unfold tst
        rw [if_pos (show ¬ nI j = 4 from fun y => by have := nI_inj (a := j) (b := 4) (by omega) (by omega) y; omega)]
  rw [eG0, eG1, eT]
  rcases test0 (l := l) (p := p) (g1 := G1) (g2 := nI cn) (r4 := r4) (k0 := k0) (k1 := K1) (k2 := K2) (k3 := nI cn) (q0 := q0) (q1 := q1) (q2 := q2) (q3 := q3) (q4 := q4) (q5 := q5) (x := xx cn) (t := nI j) h (g_ne1 n1) hk with u | ⟨p', w, y, z, v, c', r', u1, u2, u3, u4, u5, u6⟩
  · exact Or.inl u
  · right
    rw [u5, u6]
    by_cases g : G0 = 0
    · obtain ⟨g00, j4⟩ := n5 g
      have cn20 : cn < 20 := by
        refine Classical.byContradiction fun yy => h4 (by omega) g00
      obtain ⟨l1, l2, l3, l4⟩ := h6 g00
      rw [if_neg (fun yy => by have := (le4 (by omega)).mp yy; omega), xx_lt cn20, if_neg (show ¬ (20 : Int32) ≤ nI cn by rw [Int32.le_iff_toInt_le, toI_20, nI_toInt (by omega)]; omega), g, ktR_at cn20 j4, nI_clamp (by omega), k4n, nI_clamp (by omega), nI_1]
      refine ⟨p', 0, G1, _, K1, K2, _, _, _, _, c', r', u1, ⟨u2, Or.inl rfl, by rw [n2, g], fun _ => n3 g, fun yy => absurd rfl yy, fun yy => by omega, fun yy => by omega, fun _ => ⟨fun i hi => ?_, ?_⟩⟩, rfl, rfl⟩
      · refine (l1 i hi).cg (fun k hk => ?_) rfl (upr_ne (by omega)) rfl (fun u hu => upr_ne (by omega)) (fun u hu => upr_ne (by omega)) (fun u hu => upr_ne (by omega))
        rw [upr_ne (by omega), upr_ne (by omega), upr_ne (by omega), upr_ne (by omega)]
      · refine ⟨upr_at _ _ _, by omega, fun u hu => ?_⟩
        by_cases e : u = j
        · subst e
          generalize hb : 19 * cn + 3 + 4 * u = b
          have e0 : upr (upr (upr (upr r4 b (if y = 0 then 0 else 1)) (b + 1) (nI w)) (b + 2) z) (b + 3) v b = if y = 0 then 0 else 1 := by rw [upr_ne (by omega), upr_ne (by omega), upr_ne (by omega), upr_at]
          have e1 : upr (upr (upr (upr r4 b (if y = 0 then 0 else 1)) (b + 1) (nI w)) (b + 2) z) (b + 3) v (b + 1) = nI w := by rw [upr_ne (by omega), upr_ne (by omega), upr_at]
          have e2 : upr (upr (upr (upr r4 b (if y = 0 then 0 else 1)) (b + 1) (nI w)) (b + 2) z) (b + 3) v (b + 2) = z := by rw [upr_ne (by omega), upr_at]
          unfold LN
          rw [hb, e0, e1, e2, upr_at, upr_at, upr_at, upr_at]
          refine ⟨w, u3, rfl, ?_, rfl, rfl⟩
          rcases u4 with y0 | y1
          · left; rw [if_pos y0, if_pos y0]; exact ⟨rfl, rfl⟩
          · right
            rw [if_neg (by rw [y1]; decide), if_neg (by rw [y1]; decide)]
            exact ⟨rfl, nI_add w 8⟩
        · exact (l4 u (by omega)).cg (fun k hk => by rw [upr_ne (by omega), upr_ne (by omega), upr_ne (by omega), upr_ne (by omega)]) (upr_ne (by omega)) (upr_ne (by omega)) (upr_ne (by omega))
    · by_cases cj : (4 : Int32) ≤ nI j
      · rw [if_pos cj]
        exact ⟨p', G0, G1, _, K1, K2, q1, q3, q4, q5, c', r', u1, ⟨u2, n1, n2, n3, n4, fun _ => g, fun _ => g, fun yy => absurd yy g⟩, rfl, rfl⟩
      · rw [if_neg cj]
        by_cases cx : (20 : Int32) ≤ xx cn
        · rw [if_pos cx]
          exact ⟨p', G0, G1, _, K1, K2, q1, q3, q4, q5, c', r', u1, ⟨u2, n1, n2, n3, n4, fun _ => g, fun _ => g, fun yy => absurd yy g⟩, rfl, rfl⟩
        · rw [if_neg cx]
          exact ⟨p', G0, G1, _, K1, K2, _, _, _, _, c', r', u1, ⟨u2, n1, n2, n3, n4, fun _ => g, fun _ => g, fun yy => absurd yy g⟩, rfl, rfl⟩
end
