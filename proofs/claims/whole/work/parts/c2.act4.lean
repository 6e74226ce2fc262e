/-! act: a new ACT, both sides alike -/
theorem anI_o (I : Nat → Nat → Int32) {N : Nat} (fr t c : Int32) {a : Nat} (h : a ≠ N) (h1 : a ≠ N + 1) : anI I N fr t c a = I a := by
  unfold anI
  rw [up1_ne h1, up1_ne h1, up2_ne h, up2_ne h, up2_ne h, up1_ne h]
theorem anI_N (I : Nat → Nat → Int32) (N : Nat) (fr t c : Int32) : anI I N fr t c N 0 = fr ∧ anI I N fr t c N 1 = t ∧ anI I N fr t c N 3 = c := by
  unfold anI
  rw [up1_ne (by omega), up1_ne (by omega)]
  refine ⟨?_, ?_, ?_⟩
  · rw [wup2_at, if_neg (by decide), wup2_at, if_neg (by decide), up2_at]
  · rw [wup2_at, if_neg (by decide), up2_at]
  · rw [up2_at]
theorem anI_L (I : Nat → Nat → Int32) (N : Nat) (fr t : Int32) {cn : Nat} (hc : cn ≤ 20) {j : Nat} (hj : j < 19 * cn) : anI I N fr t (nI cn) (N + 1) j = I 40 j := by
  unfold anI
  rw [up1_at]
  have e : ((nI cn) * 19).toNatClampNeg = 19 * cn := by
    rw [show nI cn * 19 = nI (cn * 19) from nI_mul cn 19, nI_clamp (by omega)]; omega
  rw [e]
  unfold va_cpy
  rw [if_pos (by omega), show 0 + (j - 0) = j by omega]
def addN (f : Nat → Nat) (n v : Nat) : Nat → Nat := fun a => if a = n then v else f a
theorem addN_at (f : Nat → Nat) (n v : Nat) : addN f n v n = v := if_pos rfl
theorem addN_ne (f : Nat → Nat) {n v a : Nat} (h : a ≠ n) : addN f n v a = f a := if_neg h
/-- the memories behind -/
def acX (X : Nat → Nat → Int32) (N : Nat) (x : Int32) : Nat → Nat → Int32 := up2 (anI (actQ X) N x (actQ X 1 4) (rdS (actJ X) (X 1 10)).2.2.1) 1 3 (X 1 3 + 1)
theorem yaC_108 (J : Nat → Nat → Int32) (L : Nat → Nat → Int64) (x : Int32) (n c : Nat) : yaC J L x n c 108 = (cl_it (yaC0 J x) (yaL J L) n c).1 ∧ yaC J L x n c 109 = (cl_it (yaC0 J x) (yaL J L) n c).2.1 ∧ yaC J L x n c 110 = (cl_it (yaC0 J x) (yaL J L) n c).2.2.1 ∧ yaC J L x n c 111 = (cl_it (yaC0 J x) (yaL J L) n c).2.2.2.1 ∧ yaC J L x n c 112 = (cl_it (yaC0 J x) (yaL J L) n c).2.2.2.2.1 ∧ yaC J L x n c 113 = (cl_it (yaC0 J x) (yaL J L) n c).2.2.2.2.2 := by
  unfold yaC
  refine ⟨?_, ?_, ?_, ?_, ?_, ?_⟩
  · rw [up1_ne (by decide), up1_ne (by decide), up1_ne (by decide), up1_ne (by decide), up1_ne (by decide), up1_at]
  · rw [up1_ne (by decide), up1_ne (by decide), up1_ne (by decide), up1_ne (by decide), up1_at]
  · rw [up1_ne (by decide), up1_ne (by decide), up1_ne (by decide), up1_at]
  · rw [up1_ne (by decide), up1_ne (by decide), up1_at]
  · rw [up1_ne (by decide), up1_at]
  · rw [up1_at]
theorem yaC_ne (J : Nat → Nat → Int32) (L : Nat → Nat → Int64) (x : Int32) (n c : Nat) {a : Nat} (h : a < 108 ∨ 113 < a) : yaC J L x n c a = yaC0 J x a := by
  unfold yaC
  rw [up1_ne (by omega), up1_ne (by omega), up1_ne (by omega), up1_ne (by omega), up1_ne (by omega), up1_ne (by omega)]
theorem yaC0_ne (J : Nat → Nat → Int32) (x : Int32) {a : Nat} (h : a < 104 ∨ 107 < a) : yaC0 J x a = yaK J a := by
  unfold yaC0
  rw [up2_ne (by omega), up2_ne (by omega), up2_ne (by omega), up2_ne (by omega)]
section
variable {c q m n D H B l h : Nat} {X Y : Nat → Nat → Int32}
set_option maxHeartbeats 1000000 in
theorem St.actNew (z : St c q m n D H B l h X Y) {xa xl Nn : Nat → Nat} (hA : AR n xa xl Nn X Y) (hB : XB n xa xl) {N : Nat} (hN : 131 ≤ N) (hfr : ∀ a, a < n → xa a < N ∧ xl a < N) (hn : n < 4) (x : Int32) (L' : Nat → Nat → Int64) {cn : Nat} (hS0 : (rdS (actJ X) (X 1 10)).1 = 0) (hS1 : (rdS (actJ X) (X 1 10)).2.1 = -1) (hSc : (rdS (actJ X) (X 1 10)).2.2.1 = nI cn) (hRc : (rlA (yaJ Y)).2.2.2.2.1 = nI cn) (hcn : cn ≤ 20) (hL : LNS (rdS (actJ X) (X 1 10)).2.2.2.1 (rlA (yaJ Y)).2.2.2.2.2.1 (rlA (yaJ Y)).2.2.2.2.2.2.1 (rlA (yaJ Y)).2.2.2.2.2.2.2.1 (rlA (yaJ Y)).2.2.2.2.2.2.2.2.1 (rlA (yaJ Y)).2.2.2.2.2.2.2.2.2.1 (rlA (yaJ Y)).2.2.2.2.2.2.2.2.2.2.1 cn) : St (c + 1) q m (n + 1) D H B 0 h (acX X N x) (yaC (yaJ Y) L' x n cn) ∧ AR (n + 1) (addN xa n N) (addN xl n (N + 1)) (addN Nn n (19 * cn)) (acX X N x) (yaC (yaJ Y) L' x n cn) ∧ FXn N X (acX X N x) ∧ FYa Y (yaC (yaJ Y) L' x n cn) := by
  have e3 : X 1 3 = nI n := z.hq.2.2.2.2.1
  have e4 : X 1 4 = nI D := z.hy.2.2.2.2.2.1
  have y4 : Y 104 0 = nI n := z.hy.2.2.1
  have y6 : Y 66 0 = nI D := z.hy.2.2.2.1
  have eX : ∀ a, a ≠ 1 → a ≠ N → a ≠ N + 1 → acX X N x a = actQ X a := fun a h1 h2 h3 => by unfold acX; rw [up2_ne h1, anI_o _ _ _ _ h2 h3]
  have k104 : yaK (yaJ Y) 104 = Y 104 := by rw [yaK_ne _ (by decide) (by decide), yaJ_ne _ (by decide) (by decide) (by decide) (by decide)]
  have k66 : yaK (yaJ Y) 66 = Y 66 := by rw [yaK_ne _ (by decide) (by decide), yaJ_ne _ (by decide) (by decide) (by decide) (by decide)]
  have kc : (yaK (yaJ Y) 104 0).toNatClampNeg = n := by rw [k104, y4, nI_clamp (by omega)]
  have k63 : yaK (yaJ Y) 61 63 = nI cn := hRc
  have c104 : yaC0 (yaJ Y) x 104 = upr (Y 104) 0 (nI (n + 1)) := by
    unfold yaC0
    rw [up2_ne (by decide), up2_ne (by decide), up2_ne (by decide), su2, k104, y4, nI_1]
  have c105 : yaC0 (yaJ Y) x 105 = upr (Y 105) n x := by
    unfold yaC0
    rw [up2_ne (by decide), up2_ne (by decide), su2, up2_ne (by decide), kc, yaK_ne _ (by decide) (by decide), yaJ_ne _ (by decide) (by decide) (by decide) (by decide)]
  have c106 : yaC0 (yaJ Y) x 106 = upr (Y 106) n (nI D) := by
    unfold yaC0
    rw [up2_ne (by decide), su2, up2_ne (by decide), up2_ne (by decide), kc, k66, y6, yaK_ne _ (by decide) (by decide), yaJ_ne _ (by decide) (by decide) (by decide) (by decide)]
  have c107 : yaC0 (yaJ Y) x 107 = upr (Y 107) n (nI cn) := by
    unfold yaC0
    rw [su2, up2_ne (by decide), up2_ne (by decide), up2_ne (by decide), kc, k63, yaK_ne _ (by decide) (by decide), yaJ_ne _ (by decide) (by decide) (by decide) (by decide)]
  have cQ : ∀ a, 108 ≤ a → a ≤ 113 → yaC0 (yaJ Y) x a = Y a := fun a h1 h2 => by rw [yaC0_ne _ _ (by omega), yaK_ne _ (by omega) (by omega), yaJ_ne _ (by omega) (by omega) (by omega) (by omega)]
  obtain ⟨q0, q1, q2, q3, q4, q5⟩ := ktw_q (J := yaJ Y) (v0 := (rlA (yaJ Y)).2.1) (v1 := (rlA (yaJ Y)).2.2.1) (v2 := (rlA (yaJ Y)).2.2.2.1) (v3 := (rlA (yaJ Y)).2.2.2.2.1) (q0 := (rlA (yaJ Y)).2.2.2.2.2.1) (q1 := (rlA (yaJ Y)).2.2.2.2.2.2.1) (q2 := (rlA (yaJ Y)).2.2.2.2.2.2.2.1) (q3 := (rlA (yaJ Y)).2.2.2.2.2.2.2.2.1) (q4 := (rlA (yaJ Y)).2.2.2.2.2.2.2.2.2.1) (q5 := (rlA (yaJ Y)).2.2.2.2.2.2.2.2.2.2.1) (w0 := (rlA (yaJ Y)).2.2.2.2.2.2.2.2.2.2.2.1) (w1 := (rlA (yaJ Y)).2.2.2.2.2.2.2.2.2.2.2.2.1) (w2 := (rlA (yaJ Y)).2.2.2.2.2.2.2.2.2.2.2.2.2.1) (w3 := (rlA (yaJ Y)).2.2.2.2.2.2.2.2.2.2.2.2.2.2.1)
  rw [← yaK_eq, ← yaC0_ne (yaJ Y) x (by decide)] at q0 q1 q2 q3 q4 q5
  have hT : ∀ i, i < cn → ∃ t, t ≤ 4 ∧ yaC0 (yaJ Y) x 116 i = nI t := fun i hi => by
    obtain ⟨-, -, -, -, t, ht, -, h2, -⟩ := hL i hi
    exact ⟨t, ht, by rw [q1]; exact h2⟩
  obtain ⟨p1, p2, p3⟩ := cl_at (yaC0 (yaJ Y) x) (yaL (yaJ Y) L') hn hcn hT cn (Nat.le_refl _)
  obtain ⟨r0, r1, r2, r3, r4, r5⟩ := yaC_108 (yaJ Y) L' x n cn
  refine ⟨?_, ?_, ?_, ?_⟩
  · have z1 : St (c + 1) q m n D H B 0 h (actQ X) (yaK (yaJ Y)) := z.actS (fun a h0 h1 => actQ_ne X h1 (by omega) (by omega)) (fun a h1 h2 h3 h4 h5 => by rw [yaK_ne _ (by omega) (by omega), yaJ_ne Y (by omega) h3 h4 h5]) (fun j h0 h1 h2 => actQ_1 X h0 h1 h2) (actQ_10 X) (by rw [yaK_ne _ (by decide) (by decide)]; rfl) (by rw [yaK_ne _ (by decide) (by decide), actQ_11, hS0]; rfl) (by rw [yaK_ne _ (by decide) (by decide), actQ_12, hS1]; rfl)
    have z2 := (z1.nUp hn)
    refine (z2.cgX (fun a ha => ?_)).cgY (fun a h1 h2 => ?_)
    · by_cases e : a = 1
      · subst e
        unfold acX
        rw [su2, su2, anI_o _ _ _ _ (by omega) (by omega), e3, nI_1]
      · rw [eX a e (by omega) (by omega), up2_ne e]
    · rw [yaC_ne _ _ _ _ _ (by omega)]
      by_cases e : a = 104
      · subst e; rw [c104, su2, k104]
      · rw [yaC0_ne _ _ (by omega), up2_ne e]
  · intro a ha
    by_cases e : a = n
    · subst e
      obtain ⟨m0, m1, m2⟩ := anI_N (actQ X) N x (actQ X 1 4) (nI cn)
      have eN : acX X N x N = anI (actQ X) N x (actQ X 1 4) (nI cn) N := by unfold acX; rw [up2_ne (by omega), hSc]
      have eL : ∀ j, j < 19 * cn → acX X N x (N + 1) j = (rdS (actJ X) (X 1 10)).2.2.2.1 j := fun j hj => by
        unfold acX; rw [up2_ne (by omega), hSc, anI_L _ _ _ _ hcn hj, actQ_40]
      rw [addN_at, addN_at, addN_at, eN, m0, m1, m2, yaC_ne _ _ _ _ _ (by decide), yaC_ne _ _ _ _ _ (by decide), yaC_ne _ _ _ _ _ (by decide), c105, c106, c107, upr_at, upr_at, upr_at, actQ_1 X (by decide) (by decide) (by decide), e4]
      refine ⟨rfl, rfl, cn, hcn, rfl, rfl, rfl, fun i hi => ?_⟩
      obtain ⟨h0, h1, h2, h3, t, ht, h4, h5, h6⟩ := hL i hi
      have c1 : 20 * a ≤ 20 * a + i ∧ 20 * a + i < 20 * a + cn := by omega
      have d1 : 20 * a + i - 20 * a = i := by omega
      rw [eL _ (by omega), eL _ (by omega), eL _ (by omega), r0, r1, r2, r3, r4, r5, (p1 _).1, (p1 _).2.1, (p1 _).2.2, if_pos c1, if_pos c1, if_pos c1, d1, q0, q1, q2]
      refine ⟨h0, h1, h2, h3, t, ht, h4, h5, fun u hu => ?_⟩
      obtain ⟨w, hw, g0, g1, g2, g3⟩ := h6 u hu
      obtain ⟨s0, s1, s2⟩ := p2 i hi t (by rw [q1]; exact h5) ht u hu
      rw [eL _ (by omega), eL _ (by omega), eL _ (by omega), eL _ (by omega), s0, s1, s2, q3, q4, q5]
      exact ⟨w, hw, g0, g1, g2, g3⟩
    · have han : a < n := by omega
      obtain ⟨f1, f2⟩ := hfr a han
      obtain ⟨b1, b2⟩ := hB a han
      have o := hA a han
      rw [addN_ne _ e, addN_ne _ e, addN_ne _ e, eX _ (by omega) (by omega) (by omega), eX _ (by omega) (by omega) (by omega), actQ_ne X (by omega) (by omega) (by omega), actQ_ne X (by omega) (by omega) (by omega), yaC_ne _ _ _ _ _ (by decide), yaC_ne _ _ _ _ _ (by decide), yaC_ne _ _ _ _ _ (by decide), c105, c106, c107, upr_ne e, upr_ne e, upr_ne e]
      obtain ⟨o0, o1, k, ok, o2, o3, o4, o5⟩ := o
      refine ⟨o0, o1, k, ok, o2, o3, o4, fun i hi => ?_⟩
      obtain ⟨h0, h1, h2, h3, t, ht, h4, h5, h6⟩ := o5 i hi
      have c1 : ¬ (20 * n ≤ 20 * a + i ∧ 20 * a + i < 20 * n + cn) := by omega
      rw [r0, r1, r2, r3, r4, r5, (p1 _).1, (p1 _).2.1, (p1 _).2.2, if_neg c1, if_neg c1, if_neg c1, cQ 108 (by decide) (by decide), cQ 109 (by decide) (by decide), cQ 110 (by decide) (by decide)]
      refine ⟨h0, h1, h2, h3, t, ht, h4, h5, fun u hu => ?_⟩
      obtain ⟨s0, s1, s2⟩ := p3 (4 * (20 * a + i) + u) (by omega)
      rw [s0, s1, s2, cQ 111 (by decide) (by decide), cQ 112 (by decide) (by decide), cQ 113 (by decide) (by decide)]
      exact h6 u hu
  · intro a h1 h2 h3
    rw [eX a (by omega) h2 h3, actQ_ne X (by omega) (by omega) (by omega)]
  · have fy := z.actNo.2.2
    refine ⟨fun a ha => ?_, fun a j h1 h2 h3 => ?_⟩
    · rw [yaC_ne _ _ _ _ _ (by omega), yaC0_ne _ _ (by omega), yaK_ne _ (by omega) (by omega), fy.1 a (by omega)]
    · have v4 : nn 104 = 1 := rfl
      have v5 : nn 105 = 4 := rfl
      have v6 : nn 106 = 4 := rfl
      have v7 : nn 107 = 4 := rfl
      have v8 : nn 108 = 80 := rfl
      have v9 : nn 109 = 80 := rfl
      have v10 : nn 110 = 80 := rfl
      have v11 : nn 111 = 320 := rfl
      have v12 : nn 112 = 320 := rfl
      have v13 : nn 113 = 320 := rfl
      by_cases e104 : a < 104
      · rw [yaC_ne _ _ _ _ _ (by omega), yaC0_ne _ _ (by omega), yaK_ne _ (by omega) (by omega), fy.2 a j h1 (by omega) h3]
      by_cases g4 : a = 104
      · subst g4; rw [yaC_ne _ _ _ _ _ (by omega), c104, upr_ne (by omega)]
      by_cases g5 : a = 105
      · subst g5; rw [yaC_ne _ _ _ _ _ (by omega), c105, upr_ne (by omega)]
      by_cases g6 : a = 106
      · subst g6; rw [yaC_ne _ _ _ _ _ (by omega), c106, upr_ne (by omega)]
      by_cases g7 : a = 107
      · subst g7; rw [yaC_ne _ _ _ _ _ (by omega), c107, upr_ne (by omega)]
      have t1 := p1 j
      have t3 := p3 j
      by_cases g8 : a = 108
      · subst g8; rw [r0, t1.1, if_neg (by omega), cQ 108 (by decide) (by decide)]
      by_cases g9 : a = 109
      · subst g9; rw [r1, t1.2.1, if_neg (by omega), cQ 109 (by decide) (by decide)]
      by_cases g10 : a = 110
      · subst g10; rw [r2, t1.2.2, if_neg (by omega), cQ 110 (by decide) (by decide)]
      by_cases g11 : a = 111
      · subst g11; rw [r3, (t3 (by omega)).1, cQ 111 (by decide) (by decide)]
      by_cases g12 : a = 112
      · subst g12; rw [r4, (t3 (by omega)).2.1, cQ 112 (by decide) (by decide)]
      by_cases g13 : a = 113
      · subst g13; rw [r5, (t3 (by omega)).2.2, cQ 113 (by decide) (by decide)]
      omega
end
