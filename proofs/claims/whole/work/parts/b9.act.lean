/-! act: its top, on both sides -/
def ktw (J : Nat → Nat → Int32) (v0 v1 v2 v3 : Int32) (q0 q1 q2 q3 q4 q5 : Nat → Int32) (w0 w1 w2 w3 : Int32) : Nat → Nat → Int32 := up2 (up2 (up2 (up2 (up1 (up1 (up1 (up1 (up1 (up1 (up2 (up2 (up2 (up2 J 61 60 v0) 61 61 v1) 61 62 v2) 61 63 v3) 115 q0) 116 q1) 117 q2) 118 q3) 119 q4) 120 q5) 61 54 w0) 61 56 w1) 61 57 w2) 61 58 w3
section
variable {J : Nat → Nat → Int32} {v0 v1 v2 v3 : Int32} {q0 q1 q2 q3 q4 q5 : Nat → Int32} {w0 w1 w2 w3 : Int32}
theorem ktw_ne {a : Nat} (h : a ≠ 61) (h2 : a < 115 ∨ 120 < a) : ktw J v0 v1 v2 v3 q0 q1 q2 q3 q4 q5 w0 w1 w2 w3 a = J a := by
  unfold ktw
  rw [up2_ne h, up2_ne h, up2_ne h, up2_ne h, up1_ne (by omega), up1_ne (by omega), up1_ne (by omega), up1_ne (by omega), up1_ne (by omega), up1_ne (by omega), up2_ne h, up2_ne h, up2_ne h, up2_ne h]
theorem ktw_q : ktw J v0 v1 v2 v3 q0 q1 q2 q3 q4 q5 w0 w1 w2 w3 115 = q0 ∧ ktw J v0 v1 v2 v3 q0 q1 q2 q3 q4 q5 w0 w1 w2 w3 116 = q1 ∧ ktw J v0 v1 v2 v3 q0 q1 q2 q3 q4 q5 w0 w1 w2 w3 117 = q2 ∧ ktw J v0 v1 v2 v3 q0 q1 q2 q3 q4 q5 w0 w1 w2 w3 118 = q3 ∧ ktw J v0 v1 v2 v3 q0 q1 q2 q3 q4 q5 w0 w1 w2 w3 119 = q4 ∧ ktw J v0 v1 v2 v3 q0 q1 q2 q3 q4 q5 w0 w1 w2 w3 120 = q5 := by
  unfold ktw
  refine ⟨?_, ?_, ?_, ?_, ?_, ?_⟩
  · rw [up2_ne (by decide), up2_ne (by decide), up2_ne (by decide), up2_ne (by decide), up1_ne (by decide), up1_ne (by decide), up1_ne (by decide), up1_ne (by decide), up1_ne (by decide), up1_at]
  · rw [up2_ne (by decide), up2_ne (by decide), up2_ne (by decide), up2_ne (by decide), up1_ne (by decide), up1_ne (by decide), up1_ne (by decide), up1_ne (by decide), up1_at]
  · rw [up2_ne (by decide), up2_ne (by decide), up2_ne (by decide), up2_ne (by decide), up1_ne (by decide), up1_ne (by decide), up1_ne (by decide), up1_at]
  · rw [up2_ne (by decide), up2_ne (by decide), up2_ne (by decide), up2_ne (by decide), up1_ne (by decide), up1_ne (by decide), up1_at]
  · rw [up2_ne (by decide), up2_ne (by decide), up2_ne (by decide), up2_ne (by decide), up1_ne (by decide), up1_at]
  · rw [up2_ne (by decide), up2_ne (by decide), up2_ne (by decide), up2_ne (by decide), up1_at]
end
theorem yaK_eq (I : Nat → Nat → Int32) : yaK I = ktw I (rlA I).2.1 (rlA I).2.2.1 (rlA I).2.2.2.1 (rlA I).2.2.2.2.1 (rlA I).2.2.2.2.2.1 (rlA I).2.2.2.2.2.2.1 (rlA I).2.2.2.2.2.2.2.1 (rlA I).2.2.2.2.2.2.2.2.1 (rlA I).2.2.2.2.2.2.2.2.2.1 (rlA I).2.2.2.2.2.2.2.2.2.2.1 (rlA I).2.2.2.2.2.2.2.2.2.2.2.1 (rlA I).2.2.2.2.2.2.2.2.2.2.2.2.1 (rlA I).2.2.2.2.2.2.2.2.2.2.2.2.2.1 (rlA I).2.2.2.2.2.2.2.2.2.2.2.2.2.2.1 := rfl
section
variable {c q m n D H B l h : Nat} {X Y : Nat → Nat → Int32}
theorem yaJ_ne (Y : Nat → Nat → Int32) {a : Nat} (h1 : a ≠ 61) (h2 : a ≠ 63) (h3 : a ≠ 64) (h4 : a ≠ 65) : yaJ Y a = Y a := by
  unfold yaJ
  rw [up2_ne h4, up2_ne h3, up2_ne h2, up2_ne h1, up2_ne h1]
theorem actJ_ne (X : Nat → Nat → Int32) {a : Nat} (h1 : a ≠ 1) : actJ X a = X a := by
  unfold actJ
  rw [up2_ne h1, up2_ne h1, up2_ne h1]
theorem St.cx (z : St c q m n D H B l h X Y) : CX (up2 (actJ X) 39 5 (X 1 10)) (yaJ Y) l := by
  obtain ⟨⟨-, -, -, -, -, -, e10, -, -, -, -, -, -, -, -, -, -, -, -, -, e63, -⟩, -, -, -, ⟨hl, h62, hb⟩, -⟩ := z
  refine ⟨hl, by rw [up2_at, e10], ?_, fun j hj => ?_, fun j hj => ?_⟩
  · show Y 63 0 = nI l
    exact e63
  · rw [up2_ne (by decide), actJ_ne _ (by decide)]
    exact (hb j (by omega)).1
  · rw [up2_ne (by decide), actJ_ne _ (by decide), yaJ_ne _ (by decide) (by decide) (by decide) (by decide)]
    exact h62 j hj
theorem St.actRd (z : St c q m n D H B l h X Y) : ((rlA (yaJ Y)).1 = 0 ∧ (rdS (actJ X) (X 1 10)).1 = 1 ∧ (rdS (actJ X) (X 1 10)).2.1 = (rlA (yaJ Y)).2.1) ∨ ∃ cn, ¬ (rlA (yaJ Y)).1 = 0 ∧ (rdS (actJ X) (X 1 10)).2.2.1 = nI cn ∧ (rlA (yaJ Y)).2.2.2.2.1 = nI cn ∧ ((¬ (rdS (actJ X) (X 1 10)).1 = 0 ∧ ¬ (rlA (yaJ Y)).2.2.1 ≤ 0 ∧ (rdS (actJ X) (X 1 10)).1 = (rlA (yaJ Y)).2.2.1 ∧ (rdS (actJ X) (X 1 10)).2.1 = (rlA (yaJ Y)).2.2.2.1) ∨ ((rdS (actJ X) (X 1 10)).1 = 0 ∧ (rdS (actJ X) (X 1 10)).2.1 = -1 ∧ (rlA (yaJ Y)).2.2.1 ≤ 0 ∧ cn ≤ 20 ∧ LNS (rdS (actJ X) (X 1 10)).2.2.2.1 (rlA (yaJ Y)).2.2.2.2.2.1 (rlA (yaJ Y)).2.2.2.2.2.2.1 (rlA (yaJ Y)).2.2.2.2.2.2.2.1 (rlA (yaJ Y)).2.2.2.2.2.2.2.2.1 (rlA (yaJ Y)).2.2.2.2.2.2.2.2.2.1 (rlA (yaJ Y)).2.2.2.2.2.2.2.2.2.2.1 cn)) := by
  have hx := z.cx
  have e10 : X 1 10 = nI l := z.1.2.2.2.2.2.2.1
  have hl : l ≤ 600 := hx.1
  have e63 : yaJ Y 61 55 = nI l := hx.2.2.1
  have T := next_t (T := X 34) (T' := yaJ Y 62) (len := l) (p := 0) hl (Nat.zero_le _) (fun j hj => (hx.2.2.2.1 j hj)) (fun j hj => hx.2.2.2.2 j hj) (actJ X 39 9)
  have G : GLn ((up2 (actJ X) 39 5 (X 1 10)) 34) l 0 0 0 (-1) (actJ X 40) 0 (yaJ Y 61 62) (yaJ Y 115) (yaJ Y 116) (yaJ Y 117) (yaJ Y 118) (yaJ Y 119) (yaJ Y 120) (stp (X 34) (nI l) (nI 0) (actJ X 39 9)) (nxt (yaJ Y 62) (nI l) (nI 0)) := by
    refine ⟨T, ⟨Or.inl rfl, rfl, fun _ => rfl, fun y => absurd rfl y⟩, fun y => by omega, fun _ i hi => by omega⟩
  have K := lines_t hx 600 700 0 0 0 0 (-1) (actJ X 40) (-1) 0 (yaJ Y 61 62) _ _ _ _ _ _ _ _ G (by omega) (by omega) (by omega)
  have eS : rdS (actJ X) (X 1 10) = rdF (up2 (actJ X) 39 5 (X 1 10)) 600 0 (0, -1, nI 0, actJ X 40, (stp (X 34) (nI l) (nI 0) (actJ X 39 9)).1, (stp (X 34) (nI l) (nI 0) (actJ X 39 9)).2.1, (stp (X 34) (nI l) (nI 0) (actJ X 39 9)).2.2.1, (stp (X 34) (nI l) (nI 0) (actJ X 39 9)).2.2.2) := by
    rw [← e10]; rfl
  have eR : rlA (yaJ Y) = rll (yaJ Y) 700 1 (-1, 0, yaJ Y 61 62, nI 0, yaJ Y 115, yaJ Y 116, yaJ Y 117, yaJ Y 118, yaJ Y 119, yaJ Y 120, (nxt (yaJ Y 62) (nI l) (nI 0)).1, (nxt (yaJ Y 62) (nI l) (nI 0)).2.1, (nxt (yaJ Y 62) (nI l) (nI 0)).2.2.1, (nxt (yaJ Y 62) (nI l) (nI 0)).2.2.2.1, (nxt (yaJ Y 62) (nI l) (nI 0)).2.2.2.2) := by
    rw [← e63]; rfl
  rw [← eS, ← eR] at K
  rcases K with K | ⟨p', cn', g0', g1', r4', k1', k2', q0', q1', q2', q3', q4', q5', c', r', hc8, ⟨-, ⟨n1, n2, n3, n4⟩, n5, n6⟩, k1, k2⟩
  · exact Or.inl K
  · right
    rw [k1, k2]
    refine ⟨cn', one_nz, rfl, rfl, ?_⟩
    show (¬ g0' = 0 ∧ ¬ k1' ≤ 0 ∧ g0' = k1' ∧ g1' = k2') ∨ (g0' = 0 ∧ g1' = -1 ∧ k1' ≤ 0 ∧ cn' ≤ 20 ∧ LNS r4' q0' q1' q2' q3' q4' q5' cn')
    by_cases e : g0' = 0
    · right
      refine ⟨e, n3 e, ?_, ?_, n6 e⟩
      · rw [n2, e]; exact Int32.le_refl _
      · by_cases y : cn' ≤ 20
        · exact y
        · exact absurd e (n5 (by omega))
    · left
      refine ⟨e, ?_, n2.symm, n4 e⟩
      rw [n2]
      rcases n1 with y | y | y
      · exact absurd y e
      · rw [y]; decide
      · rw [y]; decide
end
