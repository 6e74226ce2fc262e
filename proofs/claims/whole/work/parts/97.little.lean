/-! METHODS that change a place or two -/
theorem add_toInt {a b : Int32} (h1 : -2147483648 ≤ a.toInt + b.toInt) (h2 : a.toInt + b.toInt < 2147483648) : (a + b).toInt = a.toInt + b.toInt := by
  rw [Int32.toInt_add]; exact Int.bmod_eq_of_le (by omega) (by omega)
theorem sub_toInt {a b : Int32} (h1 : -2147483648 ≤ a.toInt - b.toInt) (h2 : a.toInt - b.toInt < 2147483648) : (a - b).toInt = a.toInt - b.toInt := by
  rw [Int32.toInt_sub]; exact Int.bmod_eq_of_le (by omega) (by omega)
theorem neg_toInt {a : Int32} (h1 : -2147483648 < a.toInt) : (-a).toInt = -a.toInt := by
  have := Int32.toInt_lt a
  rw [Int32.toInt_neg]; exact Int.bmod_eq_of_le (by omega) (by omega)
theorem upr_at {α : Type} (g : Nat → α) (k : Nat) (v : α) : upr g k v k = v := by unfold upr; rw [if_pos rfl]
theorem upr_ne {α : Type} {g : Nat → α} {k : Nat} {v : α} {j : Nat} (h : j ≠ k) : upr g k v j = g j := by unfold upr; rw [if_neg h]
theorem sumZ_up (x : Nat → Int32) (k : Nat) (v : Int32) : ∀ q, sumZ (upr x k v) q = sumZ x q + (if k < q then v.toInt - (x k).toInt else 0) := by
  intro q
  induction q with
  | zero => rw [if_neg (by omega)]; rfl
  | succ q ih =>
    rw [sumZ, sumZ, ih]
    by_cases e : q = k
    · subst e; rw [upr_at, if_neg (by omega), if_pos (by omega)]; omega
    · rw [upr_ne e]
      by_cases e2 : k < q
      · rw [if_pos e2, if_pos (by omega)]; omega
      · rw [if_neg e2, if_neg (by omega)]; omega
theorem sumZ_nn {x : Nat → Int32} : ∀ {q : Nat}, (∀ j, j < q → 0 ≤ (x j).toInt) → 0 ≤ sumZ x q := by
  intro q
  induction q with
  | zero => intro _; exact Int.le_refl _
  | succ q ih => intro h; have := ih (fun j hj => h j (by omega)); have := h q (by omega); rw [sumZ]; omega
theorem sumZ_ge {x : Nat → Int32} : ∀ {q : Nat}, (∀ j, j < q → 0 ≤ (x j).toInt) → ∀ k, k < q → (x k).toInt ≤ sumZ x q := by
  intro q
  induction q with
  | zero => intro _ k hk; omega
  | succ q ih =>
    intro h k hk
    rw [sumZ]
    by_cases e : k = q
    · subst e; have := sumZ_nn (x := x) (q := k) (fun j hj => h j (by omega)); omega
    · have := ih (fun j hj => h j (by omega)) k (by omega); have := h q (by omega); omega
theorem CO.lt {c q : Nat} {x : Nat → Int32} (h : CO c q x) {k : Nat} (hk : k < q) : (x k).toInt ≤ 1000000 * (c : Int) := Int.le_trans (sumZ_ge h.1 k hk) h.2
theorem CO.add {c q : Nat} {x : Nat → Int32} (h : CO c q x) (hc : c ≤ 600) {k : Nat} (hk : k < q) {a : Int32} (h0 : 0 ≤ a.toInt) (h1 : a.toInt ≤ 1000000) : CO (c + 1) q (upr x k (x k + a)) := by
  have h2 := h.lt hk
  have h3 := h.1 k hk
  have e : (x k + a).toInt = (x k).toInt + a.toInt := add_toInt (by omega) (by omega)
  refine ⟨fun j hj => ?_, ?_⟩
  · by_cases e2 : j = k
    · subst e2; rw [upr_at, e]; omega
    · rw [upr_ne e2]; exact h.1 j hj
  · rw [sumZ_up, if_pos hk, e]; have := h.2; omega
theorem CO.sub {c q : Nat} {x : Nat → Int32} (h : CO c q x) (hc : c ≤ 600) {k : Nat} (hk : k < q) {a : Int32} (h0 : 0 ≤ a.toInt) (h1 : a.toInt ≤ (x k).toInt) : CO c q (upr x k (x k - a)) ∧ sumZ (upr x k (x k - a)) q = sumZ x q - a.toInt := by
  have h2 := h.lt hk
  have h3 := h.1 k hk
  have e : (x k - a).toInt = (x k).toInt - a.toInt := sub_toInt (by omega) (by omega)
  have e3 : sumZ (upr x k (x k - a)) q = sumZ x q - a.toInt := by rw [sumZ_up, if_pos hk, e]; omega
  refine ⟨⟨fun j hj => ?_, ?_⟩, e3⟩
  · by_cases e2 : j = k
    · subst e2; rw [upr_at, e]; omega
    · rw [upr_ne e2]; exact h.1 j hj
  · rw [e3]; have := h.2; omega
/-- coins go from one to another -/
theorem CO.mv {c q : Nat} {x : Nat → Int32} (h : CO c q x) (hc : c ≤ 600) {f t : Nat} (hf : f < q) (ht : t < q) {a : Int32} (h0 : 0 ≤ a.toInt) (h1 : a.toInt ≤ (x f).toInt) : CO c q (upr (upr x f (x f - a)) t (upr x f (x f - a) t + a)) := by
  obtain ⟨g, gs⟩ := h.sub hc hf h0 h1
  have h2 := sumZ_ge g.1 t ht
  have h3 := g.1 t ht
  have h4 := h.2
  have e : (upr x f (x f - a) t + a).toInt = (upr x f (x f - a) t).toInt + a.toInt := add_toInt (by omega) (by omega)
  refine ⟨fun j hj => ?_, ?_⟩
  · by_cases e2 : j = t
    · subst e2; rw [upr_at, e]; omega
    · rw [upr_ne e2]; exact g.1 j hj
  · rw [sumZ_up, if_pos ht, e]; omega
theorem f01 {x : Int32} (hx : 0 ≤ x.toInt ∧ x.toInt ≤ 1) : x = 0 ∨ x = 1 := by
  by_cases e : x.toInt = 0
  · exact Or.inl (Int32.toInt_inj.mp (by rw [e, toI_0]))
  · exact Or.inr (Int32.toInt_inj.mp (by rw [toI_1]; omega))
theorem n61 : now_ 61 0 := Or.inl rfl
theorem nwr {b k N : Nat} (h1 : 62 ≤ b ∧ b ≤ 104) (h2 : nn b = N) (h3 : k < N) : now_ b k := Or.inr (Or.inr ⟨h1.1, h1.2, by rw [h2]; exact h3⟩)
section
variable {c q m n D H B l h : Nat} {X Y : Nat → Nat → Int32}
theorem pp_end (z : St c q m n D H B l h X Y) (L L' : Nat → Nat → Int64) (xa xl : Nat → Nat) (e : Int32) : Ok c n X Y (xEnd X L xa xl n m q e).2 (yEnd Y L' n m q e).2 (xEnd X L xa xl n m q e).1 (yEnd Y L' n m q e).1 := by
  obtain ⟨h1, h2, h3, h4, h5, h6, h7, h8, h9, h10, h11, h12, h13, h14, g1, g2, g3, g4, g5, g6, g7, g8, g9, g10, g11⟩ := z.1.nx
  obtain ⟨t1, t2, t3⟩ := z.2.2.2.2.1
  unfold xEnd yEnd
  rw [h7, g7]
  by_cases a : outside X e 0 (nI l) = 0
  · rw [if_pos a, if_pos (fun y => (inR_o Y X e 0 (nI l)).mp y a)]
    rw [out_iff, toI_0, nI_toInt (by omega)] at a
    obtain ⟨j, hj, rfl⟩ := rng_nI (x := e) (N := l + 1) ⟨a.1, by omega⟩
    exact ⟨rfl, FX.rfl.u2 (by decide) _ _, (FY.rfl.u2 n61 _).u2 (nwr (by decide) rfl (by decide)) _, q, m, D, H, B, j, h, ⟨h1, h2, h3, h4, h5, h6, rfl, h8, h9, h10, h11, h12, h13, h14, g1, g2, g3, g4, g5, g6, rfl, g8, g9, g10, g11⟩, z.2.1.nx, z.2.2.1.nx, z.2.2.2.1, ⟨by omega, fun i hi => t2 i (by omega), t3⟩, z.2.2.2.2.2⟩
  · rw [if_neg a, if_neg (fun y => y ((inR_o Y X e 0 (nI l)).mpr a))]
    exact z.ok0 rfl
theorem pp_room (z : St c q m n D H B l h X Y) (L L' : Nat → Nat → Int64) (xa xl : Nat → Nat) (p r : Int32) : Ok c n X Y (xRoom X L xa xl n m q p r).2 (yRoom Y L' n m q p r).2 (xRoom X L xa xl n m q p r).1 (yRoom Y L' n m q p r).1 := by
  unfold xRoom yRoom
  have hh := z.held p
  by_cases a : isHeld X p = 0
  · rw [if_pos a]
    by_cases b : isPer Y p = 0
    · rw [if_pos b]; exact z.ok0 rfl
    · rw [if_neg b, if_pos ((hh.mp a).resolve_left b)]; exact z.ok0 rfl
  · rw [if_neg a, if_neg (fun y => a (hh.mpr (Or.inl y))), if_neg (fun y => a (hh.mpr (Or.inr y)))]
    obtain ⟨j, hj, rfl, h5⟩ := z.held_ex a
    have h12 := z.hq.2.1
    rw [nI_clamp (by omega)]
    by_cases b : outside X r 0 3 = 0
    · rw [if_pos b, if_pos (fun y => (inR_o Y X r 0 3).mp y b)]
      obtain ⟨e70, e71, e72, e73, e74, e75, e76, e77, e78, e79, e80, e81, e82, e83, b3, b5, b7, b8, b13, b14, b15⟩ := z.2.1.nx
      refine ⟨rfl, FX.rfl.u2 (by decide) _ _, (FY.rfl.u2 n61 _).u2 (nwr (N := 12) (by decide) rfl (by omega)) _, q, m, D, H, B, l, h, z.1.nx, ⟨e70, e71, e72, e73, ?_, e75, e76, e77, e78, e79, e80, e81, e82, e83, b3, b5, b7, b8, b13, b14, b15⟩, z.2.2.1.nx, z.2.2.2⟩
      intro i hi
      show upr (Y 74) j r i = if X 5 i = -1 then -1 else upr (X 6) j r i
      by_cases e : i = j
      · subst e; rw [upr_at, upr_at, if_neg h5]
      · rw [upr_ne e, upr_ne e]; exact e74 i hi
    · rw [if_neg b, if_neg (fun y => y ((inR_o Y X r 0 3).mpr b))]
      exact z.ok0 rfl
theorem pp_tire (z : St c q m n D H B l h X Y) (L L' : Nat → Nat → Int64) (xa xl : Nat → Nat) (a b : Int32) : Ok c n X Y (xTire X L xa xl n m q a b).2 (yTire Y L' n m q a b).2 (xTire X L xa xl n m q a b).1 (yTire Y L' n m q a b).1 := by
  unfold xTire yTire
  by_cases h1 : areTwo X a b = 0
  · rw [if_pos h1, if_pos ((z.two a b).mp h1)]; exact z.ok0 rfl
  · rw [if_neg h1, if_neg (fun y => h1 ((z.two a b).mpr y))]
    obtain ⟨i, j, hi, hj, hij, rfl, rfl⟩ := z.two_ex h1
    have h12 := z.hq.2.1
    obtain ⟨e70, e71, e72, e73, e74, e75, e76, e77, e78, e79, e80, e81, e82, e83, bb⟩ := z.2.1.nx
    rw [nI_clamp (by omega), e80 j hj]
    have e := bit_eq (X 12 j) (k := i) (by omega)
    unfold detains
    rw [nI_clamp (by omega)]
    by_cases h2 : (X 12 j &&& ((1 : Int32) <<< (nI i &&& 31))) = 0
    · rw [if_pos h2, if_neg (fun y => y rfl), if_neg (fun y => y (e.mp h2))]; exact z.ok0 rfl
    · rw [if_neg h2, if_pos one_nz, if_pos (fun y => h2 (e.mpr y))]
      exact ⟨rfl, FX.rfl.u2 (by decide) _ _, (FY.rfl.u2 n61 _).u2 (nwr (N := 12) (by decide) rfl (by omega)) _, q, m, D, H, B, l, h, z.1.nx, ⟨e70, e71, e72, e73, e74, e75, e76, e77, e78, e79, e80.up _ _, e81, e82, e83, bb⟩, z.2.2.1.nx, z.2.2.2⟩
/-- the letting go of one, in the relation -/
theorem PE.goes {c q : Nat} {D B : Int} {x3 x4 x5 x6 x7 x8 x9 x10 x11 x12 x13 x14 x15 y70 y71 y72 y73 y74 y75 y76 y77 y78 y79 y80 y81 y82 y83 : Nat → Int32} (h : PE c q D B x3 x4 x5 x6 x7 x8 x9 x10 x11 x12 x13 x14 x15 y70 y71 y72 y73 y74 y75 y76 y77 y78 y79 y80 y81 y82 y83) (hD : 0 ≤ D) (j : Nat) : PE c q D B x3 x4 (upr x5 j (-1)) (upr x6 j 0) (upr x7 j 0) (upr x8 j 0) x9 x10 x11 (upr x12 j 0) x13 x14 x15 y70 y71 (upr y72 j 0) (upr y73 j (-1)) (upr y74 j (-1)) (upr y75 j 0) (upr y76 j 0) y77 y78 y79 (upr y80 j 0) y81 y82 y83 := by
  obtain ⟨e70, e71, e72, e73, e74, e75, e76, e77, e78, e79, e80, e81, e82, e83, b3, b5, b7, b8, b13, b14, b15⟩ := h
  refine ⟨e70, e71, ?_, e73.up _ _, ?_, e75.up _ _, e76.up _ _, e77, e78, e79, e80.up _ _, e81, e82, e83, b3, b5.up ?_, b7.up ?_, b8.up ?_, b13, b14, b15⟩
  · intro i hi
    by_cases e : i = j
    · subst e; rw [upr_at, upr_at, if_pos rfl]
    · rw [upr_ne e, upr_ne e]; exact e72 i hi
  · intro i hi
    by_cases e : i = j
    · subst e; rw [upr_at, upr_at, if_pos rfl]
    · rw [upr_ne e, upr_ne e, upr_ne e]; exact e74 i hi
  · rw [toI_m1]; omega
  · rw [toI_0]; omega
  · rw [toI_0]; omega
theorem PE.coin {c c' q : Nat} {D B : Int} {x3 x4 x5 x6 x7 x8 x9 x10 x11 x12 x13 x14 x15 y70 y71 y72 y73 y74 y75 y76 y77 y78 y79 y80 y81 y82 y83 x y : Nat → Int32} (h : PE c q D B x3 x4 x5 x6 x7 x8 x9 x10 x11 x12 x13 x14 x15 y70 y71 y72 y73 y74 y75 y76 y77 y78 y79 y80 y81 y82 y83) (hc : c ≤ c') (e : Rw q y x) (hx : CO c' q x) : PE c' q D B x x4 x5 x6 x7 x8 x9 x10 x11 x12 x13 x14 x15 y y71 y72 y73 y74 y75 y76 y77 y78 y79 y80 y81 y82 y83 := by
  obtain ⟨e70, e71, e72, e73, e74, e75, e76, e77, e78, e79, e80, e81, e82, e83, b3, b5, b7, b8, b13, b14, b15⟩ := h
  exact ⟨e, e71, e72, e73, e74, e75, e76, e77, e78, e79, e80, e81, e82, e83, hx, b5, b7.le (by omega), b8, b13, b14, b15⟩
theorem pp_leave (z : St c q m n D H B l h X Y) (hc : c ≤ 600) (L L' : Nat → Nat → Int64) (xa xl : Nat → Nat) (p : Int32) : Ok c n X Y (xLeave X L xa xl n m q p).2 (yLeave Y L' n m q p).2 (xLeave X L xa xl n m q p).1 (yLeave Y L' n m q p).1 := by
  unfold xLeave yLeave
  have hh := z.held p
  by_cases a : isHeld X p = 0
  · rw [if_pos a]
    by_cases b : isPer Y p = 0
    · rw [if_pos b]; exact z.ok0 rfl
    · rw [if_neg b, if_pos ((hh.mp a).resolve_left b)]; exact z.ok0 rfl
  · rw [if_neg a, if_neg (fun y => a (hh.mpr (Or.inl y))), if_neg (fun y => a (hh.mpr (Or.inr y)))]
    obtain ⟨j, hj, rfl, h5⟩ := z.held_ex a
    have h12 := z.hq.2.1
    have hP := z.2.1
    obtain ⟨e70, e71, e72, e73, e74, e75, e76, e77, e78, e79, e80, e81, e82, e83, b3, b5, b7, b8, b13, b14, b15⟩ := z.2.1
    rw [nI_clamp (by omega), e80 j hj, e76 j hj, e75 j hj, e70 j hj]
    by_cases g1 : X 12 j = 0
    · rw [if_neg (not_not_intro g1), if_neg (not_not_intro g1)]
      by_cases g2 : X 8 j = 0
      · rw [if_pos g2, if_neg (not_not_intro g2)]
        by_cases g3 : X 7 j ≤ X 3 j
        · rw [if_pos g3, if_pos g3]
          have g4 := b7 j hj
          rw [Int32.le_iff_toInt_le] at g3
          have hco := (b3.sub hc hj g4.1 g3).1
          obtain ⟨h1, h2, h3, h4, h5', h6, h7, h8, h9, h10, h11, h12', h13, h14, k1, k2, k3, k4, k5, k6, k7, k8, k9, k10, k11⟩ := z.1.nx
          refine ⟨rfl, (((((((FX.rfl.u2 (by decide) _ _).u2 (by decide) _ _).u2 (by decide) _ _).u2 (by decide) _ _).u2 (by decide) _ _).u2 (by decide) _ _).u2 (by decide) _ _), ?_, q, m, D, H, B, l, h, ⟨h1, h2, h3, h4, h5', h6, h7, h8, h9, h10, h11, h12', h13, h14, k1, k2, k3, k4, k5, k6, k7, k8, k9, k10, ?_⟩, ?_, z.2.2.1.nx, z.2.2.2⟩
          · unfold goes
            rw [nI_clamp (by omega)]
            exact ((((((((FY.rfl.u2 n61 _).u2 (nwr (N := 12) (by decide) rfl (by omega)) _).u2 (nwr (N := 1) (by decide) rfl (by omega)) _).u2 (nwr (N := 12) (by decide) rfl (by omega)) _).u2 (nwr (N := 12) (by decide) rfl (by omega)) _).u2 (nwr (N := 12) (by decide) rfl (by omega)) _).u2 (nwr (N := 12) (by decide) rfl (by omega)) _).u2 (nwr (N := 12) (by decide) rfl (by omega)) _).u2 (nwr (N := 12) (by decide) rfl (by omega)) _
          · show Y 68 0 + X 7 j = X 1 6 + X 7 j
            rw [k11]
          · have := (PE.coin hP (Nat.le_refl c) (e70.up j (X 3 j - X 7 j)) hco).nx.goes (Int.natCast_nonneg D) j
            unfold letGo goes
            rw [nI_clamp (by omega)]
            exact this
        · rw [if_neg g3, if_neg g3]; exact z.ok0 rfl
      · rw [if_neg g2, if_pos g2]; exact z.ok0 rfl
    · rw [if_pos g1, if_pos g1]; exact z.ok0 rfl
theorem pp_alms (z : St c q m n D H B l h X Y) (hc : c ≤ 600) (L L' : Nat → Nat → Int64) (xa xl : Nat → Nat) (a : Int32) : Ok c n X Y (xAlms X L xa xl n m q a).2 (yAlms Y L' n m q a).2 (xAlms X L xa xl n m q a).1 (yAlms Y L' n m q a).1 := by
  unfold xAlms yAlms
  rw [← z.turn L L' q (Nat.le_refl _)]
  have h12 := z.hq.2.1
  by_cases h1 : turn_it X L q = -1
  · rw [if_pos h1, if_pos h1]; exact z.ok0 rfl
  · rw [if_neg h1, if_neg h1]
    by_cases b : outside X a 1 10000 = 0
    · rw [if_pos b, if_pos (fun y => (inR_o Y X a 1 10000).mp y b)]
      rw [out_iff, toI_1, toI_10000] at b
      obtain ⟨j, hj, e⟩ := (turn_rn2 X L q h12).resolve_left h1
      rw [e, nI_clamp (by omega)]
      have e70 := z.2.1.1
      rw [e70 j hj]
      exact ⟨rfl, FX.rfl.u2 (by decide) _ _, (FY.rfl.u2 n61 _).u2 (nwr (N := 12) (by decide) rfl (by omega)) _, q, m, D, H, B, l, h, z.1.nx, z.2.1.coin (Nat.le_succ c) (e70.up j _) (z.2.1.2.2.2.2.2.2.2.2.2.2.2.2.2.2.1.add hc hj (by omega) (by omega)), z.2.2.1.nx, z.2.2.2⟩
    · rw [if_neg b, if_neg (fun y => y ((inR_o Y X a 1 10000).mpr b))]; exact z.ok0 rfl
end
