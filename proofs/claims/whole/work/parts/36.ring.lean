/-! THE RING: found and netted (printed by p36.py) -/
def fol_sr (I : Nat → Nat → Int32) (L : Nat → Nat → Int64) (a e : Nat) (l : Int32) : Nat → Nat → Int32
  | 0, j => nI e
  | f + 1, j =>
  if (isLive I (nI j)) = 0 then (fol_sr I L a e l f (j + 1)) else
  if ¬ (I 17 ((nI j).toNatClampNeg)) = (I 18 ((nI a).toNatClampNeg)) then (fol_sr I L a e l f (j + 1)) else
  if ¬ (stepsBack I (nI j) (nI e)) = l then (fol_sr I L a e l f (j + 1)) else
  nI j

set_option maxRecDepth 20000 in
theorem l_fol (tl : List (Nat × Nat)) (I : Nat → Nat → Int32) (L : Nat → Nat → Int64) (rd : Nat → Nat → Option Nat) (a e : Nat) (l : Int32) (m : Nat) (hm : I 16 0 = nI m) (hb : m ≤ 40) (hcr : ∀ d, d < m → 0 ≤ (I 18 d).toInt ∧ (I 18 d).toInt < 12) (hdr : ∀ d, d < m → 0 ≤ (I 17 d).toInt ∧ (I 17 d).toInt < 12) (ha : a < m) (he : e < m) : ∀ f j, j + f = m → Runs 86 2 [some (.ref 42), some (.ref 16), some (.int (nI a)), some (.int (nI e)), some (.int l), some (.int (nI j))] [] (mk tl I L rd) (some (.int (fol_sr I L a e l f j))) (mk tl I L rd) := by
  intro f
  induction f with
  | zero =>
    intro j hj
    obtain rfl : j = m := hj
    refine Runs.bl 4 (g := true) (i' := if decide ((I 16 0) ≤ (nI j)) = true then 30 else 6) (ls' := [some (.ref 42), some (.ref 16), some (.int (nI a)), some (.int (nI e)), some (.int l), some (.int (nI j))]) (st' := []) (M' := mk tl I L rd) rfl rfl ?_
    refine Runs.brT (by show I 16 0 ≤ nI _; rw [hm]; exact nI_le (Nat.le_refl _) (by omega)) ?_
    refine Runs.bl 1 (g := true) (i' := 31) (ls' := [some (.ref 42), some (.ref 16), some (.int (nI a)), some (.int (nI e)), some (.int l), some (.int (nI j))]) (st' := [.int (nI e)]) (M' := mk tl I L rd) rfl rfl ?_
    exact Runs.ri rfl rfl (by rw [fol_sr] <;> rfl) (rfl)
  | succ f ih =>
    intro j hj
    refine Runs.bl 4 (g := true) (i' := if decide ((I 16 0) ≤ (nI j)) = true then 30 else 6) (ls' := [some (.ref 42), some (.ref 16), some (.int (nI a)), some (.int (nI e)), some (.int l), some (.int (nI j))]) (st' := []) (M' := mk tl I L rd) rfl rfl ?_
    refine Runs.brF (by show ¬ I 16 0 ≤ nI j; rw [hm]; exact nI_ge (by omega) (by omega)) ?_
    refine Runs.bl 2 (g := true) (i' := 8) (ls' := [some (.ref 42), some (.ref 16), some (.int (nI a)), some (.int (nI e)), some (.int l), some (.int (nI j))]) (st' := [.int (nI j), .ref 16]) (M' := mk tl I L rd) rfl rfl ?_
    refine Runs.call (k' := 7) (as := [.ref 16, .int (nI j)]) (rest := []) (r1 := some (.int (isLive I (nI j)))) (M1 := mk tl I L rd) rfl rfl rfl (c_isLive tl I L rd (nI j) ) ?_
    refine Runs.bl 1 (g := true) (i' := if decide ((isLive I (nI j)) = 0) = true then 28 else 10) (ls' := [some (.ref 42), some (.ref 16), some (.int (nI a)), some (.int (nI e)), some (.int l), some (.int (nI j))]) (st' := []) (M' := mk tl I L rd) rfl rfl ?_
    refine Runs.brP (fun h1 => ?_) (fun h1 => ?_)
    · skip
      refine Runs.bl 2 (g := true) (i' := 2) (ls' := [some (.ref 42), some (.ref 16), some (.int (nI a)), some (.int (nI e)), some (.int l), some (.int ((nI j) + 1))]) (st' := []) (M' := mk tl I L rd) rfl rfl ?_
      rw [show fol_sr I L a e l (f + 1) j = fol_sr I L a e l f (j + 1) from by rw [fol_sr, if_pos h1]]
      exact Runs.cg (by rw [nI_1]) rfl (ih (j + 1) (by omega))
    · skip
      refine Runs.bl 9 (g := inb (nI j) 40 && (inb (nI a) 40 && true)) (i' := if decide (¬ (I 17 ((nI j).toNatClampNeg)) = (I 18 ((nI a).toNatClampNeg))) = true then 28 else 19) (ls' := [some (.ref 42), some (.ref 16), some (.int (nI a)), some (.int (nI e)), some (.int l), some (.int (nI j))]) (st' := []) (M' := mk tl I L rd) rfl (by have q1 := isLive_rng h1; have q2 := live_dr hm hb hdr h1; have q3 := live_cr hm hb hcr h1; have q4 := nI_toInt (n := j) (by omega); have q5 := (show 0 ≤ (nI a).toInt ∧ (nI a).toInt < 40 from by rw [nI_toInt (by omega)]; omega); simp only [Bool.and_true, Bool.true_and, Bool.and_eq_true, inb_iff, Int32.lt_iff_toInt_lt, Int32.le_iff_toInt_le, toI_0, toI_1, toI_2, toI_3, toI_4, toI_5, toI_6, toI_7, toI_8, toI_9, toI_10, toI_12, toI_16, toI_18, toI_20, toI_21, toI_23, toI_24, toI_32, toI_36, toI_39, toI_40, toI_48, toI_50, toI_60, toI_64, toI_75, toI_80, toI_100, toI_144, toI_160, toI_200, toI_256, toI_320, toI_380, toI_576, toI_600, toI_1000, toI_1280, toI_2400, toI_9999, toI_10000, toI_100000, toI_1000000, toI_m1, toI_m100000, toI_s9, toI_s8] at hm hb hcr hdr ha he q1 q2 q3 q4 q5 ⊢; omega) ?_
      refine Runs.brP (fun h2 => ?_) (fun h2 => ?_)
      · skip
        refine Runs.bl 2 (g := true) (i' := 2) (ls' := [some (.ref 42), some (.ref 16), some (.int (nI a)), some (.int (nI e)), some (.int l), some (.int ((nI j) + 1))]) (st' := []) (M' := mk tl I L rd) rfl rfl ?_
        rw [show fol_sr I L a e l (f + 1) j = fol_sr I L a e l f (j + 1) from by rw [fol_sr, if_neg h1, if_pos h2]]
        exact Runs.cg (by rw [nI_1]) rfl (ih (j + 1) (by omega))
      · skip
        refine Runs.bl 4 (g := true) (i' := 23) (ls' := [some (.ref 42), some (.ref 16), some (.int (nI a)), some (.int (nI e)), some (.int l), some (.int (nI j))]) (st' := [.int (nI e), .int (nI j), .ref 16, .ref 42]) (M' := mk tl I L rd) rfl rfl ?_
        refine Runs.call (k' := 87) (as := [.ref 42, .ref 16, .int (nI j), .int (nI e)]) (rest := []) (r1 := some (.int (stepsBack I (nI j) (nI e)))) (M1 := mk tl I L rd) rfl rfl rfl (c_stepsBack tl I L rd (nI j) (nI e) (by rw [nI_toInt (by omega)]; omega) (by rw [nI_toInt (by omega)]; omega) (inb12 (show 0 ≤ (I 18 (nI j).toNatClampNeg).toInt ∧ (I 18 (nI j).toNatClampNeg).toInt < 12 from by rw [nI_clamp (by omega)]; exact hcr j (by omega)) (show 0 ≤ (I 17 (nI e).toNatClampNeg).toInt ∧ (I 17 (nI e).toNatClampNeg).toInt < 12 from by rw [nI_clamp (by omega)]; exact hdr e (by omega)))) ?_
        refine Runs.bl 2 (g := true) (i' := if decide (¬ (stepsBack I (nI j) (nI e)) = l) = true then 28 else 26) (ls' := [some (.ref 42), some (.ref 16), some (.int (nI a)), some (.int (nI e)), some (.int l), some (.int (nI j))]) (st' := []) (M' := mk tl I L rd) rfl rfl ?_
        refine Runs.brP (fun h3 => ?_) (fun h3 => ?_)
        · skip
          refine Runs.bl 2 (g := true) (i' := 2) (ls' := [some (.ref 42), some (.ref 16), some (.int (nI a)), some (.int (nI e)), some (.int l), some (.int ((nI j) + 1))]) (st' := []) (M' := mk tl I L rd) rfl rfl ?_
          rw [show fol_sr I L a e l (f + 1) j = fol_sr I L a e l f (j + 1) from by rw [fol_sr, if_neg h1, if_neg h2, if_pos h3]]
          exact Runs.cg (by rw [nI_1]) rfl (ih (j + 1) (by omega))
        · skip
          refine Runs.bl 1 (g := true) (i' := 27) (ls' := [some (.ref 42), some (.ref 16), some (.int (nI a)), some (.int (nI e)), some (.int l), some (.int (nI j))]) (st' := [.int (nI j)]) (M' := mk tl I L rd) rfl rfl ?_
          exact Runs.ri rfl rfl (by rw [fol_sr, if_neg h1, if_neg h2, if_neg h3] <;> rfl) (rfl)

theorem fol_cs (I : Nat → Nat → Int32) (L : Nat → Nat → Int64) (a e : Nat) (l : Int32) {m : Nat} (he : e < m) : ∀ f j, j + f = m → ∃ x, x < m ∧ fol_sr I L a e l f j = nI x := by
  intro f
  induction f with
  | zero => intro j _; exact ⟨e, he, rfl⟩
  | succ f ih =>
    intro j hj
    rw [fol_sr]
    repeat' split
    all_goals first | exact ih (j + 1) (by omega) | exact ⟨j, by omega, rfl⟩

set_option maxRecDepth 20000 in
theorem c_fol (tl : List (Nat × Nat)) (I : Nat → Nat → Int32) (L : Nat → Nat → Int64) (rd : Nat → Nat → Option Nat) (a e : Nat) (l : Int32) (m : Nat) (hm : I 16 0 = nI m) (hb : m ≤ 40) (hcr : ∀ d, d < m → 0 ≤ (I 18 d).toInt ∧ (I 18 d).toInt < 12) (hdr : ∀ d, d < m → 0 ≤ (I 17 d).toInt ∧ (I 17 d).toInt < 12) (ha : a < m) (he : e < m) : Call 86 [.ref 42, .ref 16, .int (nI a), .int (nI e), .int l] (mk tl I L rd) (some (.int (fol_sr I L a e l m 0))) (mk tl I L rd) := by
  show Runs 86 0 [some (.ref 42), some (.ref 16), some (.int (nI a)), some (.int (nI e)), some (.int l), none] [] (mk tl I L rd) (some (.int (fol_sr I L a e l m 0))) (mk tl I L rd)
  refine Runs.bl 2 (g := true) (i' := 2) (ls' := [some (.ref 42), some (.ref 16), some (.int (nI a)), some (.int (nI e)), some (.int l), some (.int (0 : Int32))]) (st' := []) (M' := mk tl I L rd) rfl rfl ?_
  exact l_fol tl I L rd a e l m hm hb hcr hdr ha he m 0 (Nat.zero_add _)

theorem c_folI (tl : List (Nat × Nat)) (I : Nat → Nat → Int32) (L : Nat → Nat → Int64) (rd : Nat → Nat → Option Nat) (x : Int32) (e : Nat) (l : Int32) (m : Nat) (hm : I 16 0 = nI m) (hb : m ≤ 40) (hcr : ∀ d, d < m → 0 ≤ (I 18 d).toInt ∧ (I 18 d).toInt < 12) (hdr : ∀ d, d < m → 0 ≤ (I 17 d).toInt ∧ (I 17 d).toInt < 12) (hx : ∃ a, a < m ∧ x = nI a) (he : e < m) : Call 86 [.ref 42, .ref 16, .int x, .int (nI e), .int l] (mk tl I L rd) (some (.int (fol_sr I L x.toNatClampNeg e l m 0))) (mk tl I L rd) := by
  obtain ⟨a, ha, rfl⟩ := hx
  rw [nI_clamp (by omega)]
  exact c_fol tl I L rd a e l m hm hb hcr hdr ha he

def fd_st (I : Nat → Nat → Int32) (L : Nat → Nat → Int64)  (j : Nat) (s : Int32 × Int32) : Int32 × Int32 :=
  if (isLive I (nI j)) = 0 then (s.1, s.2) else
  if s.1 ≤ ((1 : Int32) + (stepsBack I (nI j) (nI j))) then (s.1, s.2) else
  ((1 : Int32) + (stepsBack I (nI j) (nI j)), nI j)

def fd_it (I : Nat → Nat → Int32) (L : Nat → Nat → Int64)  (j : Nat) : Int32 × Int32 := itr (fd_st I L ) (1000, -1) j
theorem fd_it_s (I : Nat → Nat → Int32) (L : Nat → Nat → Int64)  (j : Nat) : (fd_it I L  (j + 1)) = fd_st I L  j (fd_it I L  j) := itr_s _ _ _
set_option maxRecDepth 20000 in
theorem l_fd (tl : List (Nat × Nat)) (I : Nat → Nat → Int32) (L : Nat → Nat → Int64) (rd : Nat → Nat → Option Nat) (m : Nat)  (hm : I 16 0 = nI m) (hb : m ≤ 40) (hcr : ∀ d, d < m → 0 ≤ (I 18 d).toInt ∧ (I 18 d).toInt < 12) (hdr : ∀ d, d < m → 0 ≤ (I 17 d).toInt ∧ (I 17 d).toInt < 12) (rr : Option Value) (Me : Mm) (hK : Runs 85 38 [some (.ref 42), some (.ref 16), some (.ref 35), some (.int ((fd_it I L  (m)).1)), some (.int ((fd_it I L  (m)).2)), some (.int (nI (m)))] [] (mk tl I L rd) rr Me) : ∀ j, j ≤ m → Runs 85 9 [some (.ref 42), some (.ref 16), some (.ref 35), some (.int ((fd_it I L  j).1)), some (.int ((fd_it I L  j).2)), some (.int (nI j))] [] (mk tl I L rd) rr (Me) := by
  refine loopU m (P := fun j => Runs 85 9 [some (.ref 42), some (.ref 16), some (.ref 35), some (.int ((fd_it I L  j).1)), some (.int ((fd_it I L  j).2)), some (.int (nI j))] [] (mk tl I L rd) rr (Me)) (fun j hj ih => ?_) ?_
  · show Runs 85 9 [some (.ref 42), some (.ref 16), some (.ref 35), some (.int ((fd_it I L  j).1)), some (.int ((fd_it I L  j).2)), some (.int (nI j))] [] (mk tl I L rd) rr (Me)
    refine Runs.bl 4 (g := true) (i' := if decide ((I 16 0) ≤ (nI j)) = true then 38 else 13) (ls' := [some (.ref 42), some (.ref 16), some (.ref 35), some (.int ((fd_it I L  j).1)), some (.int ((fd_it I L  j).2)), some (.int (nI j))]) (st' := []) (M' := mk tl I L rd) rfl rfl ?_
    refine Runs.brF (by show ¬ I 16 0 ≤ nI j; rw [hm]; exact nI_ge hj (by omega)) ?_
    refine Runs.bl 2 (g := true) (i' := 15) (ls' := [some (.ref 42), some (.ref 16), some (.ref 35), some (.int ((fd_it I L  j).1)), some (.int ((fd_it I L  j).2)), some (.int (nI j))]) (st' := [.int (nI j), .ref 16]) (M' := mk tl I L rd) rfl rfl ?_
    refine Runs.call (k' := 7) (as := [.ref 16, .int (nI j)]) (rest := []) (r1 := some (.int (isLive I (nI j)))) (M1 := mk tl I L rd) rfl rfl rfl (c_isLive tl I L rd (nI j) ) ?_
    refine Runs.bl 1 (g := true) (i' := if decide ((isLive I (nI j)) = 0) = true then 36 else 17) (ls' := [some (.ref 42), some (.ref 16), some (.ref 35), some (.int ((fd_it I L  j).1)), some (.int ((fd_it I L  j).2)), some (.int (nI j))]) (st' := []) (M' := mk tl I L rd) rfl rfl ?_
    refine Runs.brP (fun h1 => ?_) (fun h1 => ?_)
    · skip
      refine Runs.bl 2 (g := true) (i' := 9) (ls' := [some (.ref 42), some (.ref 16), some (.ref 35), some (.int ((fd_it I L  j).1)), some (.int ((fd_it I L  j).2)), some (.int ((nI j) + 1))]) (st' := []) (M' := mk tl I L rd) rfl rfl ?_
      refine Runs.cg (ls := [some (.ref 42), some (.ref 16), some (.ref 35), some (.int ((fd_it I L  (j + 1)).1)), some (.int ((fd_it I L  (j + 1)).2)), some (.int (nI (j + 1)))]) (M := mk tl I L rd) (by rw [nI_1, fd_it_s, fd_st, if_pos h1]) (rfl) ih
    · skip
      refine Runs.bl 5 (g := true) (i' := 22) (ls' := [some (.ref 42), some (.ref 16), some (.ref 35), some (.int ((fd_it I L  j).1)), some (.int ((fd_it I L  j).2)), some (.int (nI j))]) (st' := [.int (nI j), .int (nI j), .ref 16, .ref 42, .int (1 : Int32)]) (M' := mk tl I L rd) rfl rfl ?_
      refine Runs.call (k' := 87) (as := [.ref 42, .ref 16, .int (nI j), .int (nI j)]) (rest := [.int (1 : Int32)]) (r1 := some (.int (stepsBack I (nI j) (nI j)))) (M1 := mk tl I L rd) rfl rfl rfl (c_stepsBack tl I L rd (nI j) (nI j) (by rw [nI_toInt (by omega)]; omega) (by rw [nI_toInt (by omega)]; omega) (inb12 (show 0 ≤ (I 18 (nI j).toNatClampNeg).toInt ∧ (I 18 (nI j).toNatClampNeg).toInt < 12 from by rw [nI_clamp (by omega)]; exact hcr j (by omega)) (show 0 ≤ (I 17 (nI j).toNatClampNeg).toInt ∧ (I 17 (nI j).toNatClampNeg).toInt < 12 from by rw [nI_clamp (by omega)]; exact hdr j (by omega)))) ?_
      refine Runs.bl 3 (g := true) (i' := if decide (((fd_it I L  j).1) ≤ ((1 : Int32) + (stepsBack I (nI j) (nI j)))) = true then 36 else 26) (ls' := [some (.ref 42), some (.ref 16), some (.ref 35), some (.int ((fd_it I L  j).1)), some (.int ((fd_it I L  j).2)), some (.int (nI j))]) (st' := []) (M' := mk tl I L rd) rfl rfl ?_
      refine Runs.brP (fun h2 => ?_) (fun h2 => ?_)
      · skip
        refine Runs.bl 2 (g := true) (i' := 9) (ls' := [some (.ref 42), some (.ref 16), some (.ref 35), some (.int ((fd_it I L  j).1)), some (.int ((fd_it I L  j).2)), some (.int ((nI j) + 1))]) (st' := []) (M' := mk tl I L rd) rfl rfl ?_
        refine Runs.cg (ls := [some (.ref 42), some (.ref 16), some (.ref 35), some (.int ((fd_it I L  (j + 1)).1)), some (.int ((fd_it I L  (j + 1)).2)), some (.int (nI (j + 1)))]) (M := mk tl I L rd) (by rw [nI_1, fd_it_s, fd_st, if_neg h1, if_pos h2]) (rfl) ih
      · skip
        refine Runs.bl 5 (g := true) (i' := 31) (ls' := [some (.ref 42), some (.ref 16), some (.ref 35), some (.int ((fd_it I L  j).1)), some (.int ((fd_it I L  j).2)), some (.int (nI j))]) (st' := [.int (nI j), .int (nI j), .ref 16, .ref 42, .int (1 : Int32)]) (M' := mk tl I L rd) rfl rfl ?_
        refine Runs.call (k' := 87) (as := [.ref 42, .ref 16, .int (nI j), .int (nI j)]) (rest := [.int (1 : Int32)]) (r1 := some (.int (stepsBack I (nI j) (nI j)))) (M1 := mk tl I L rd) rfl rfl rfl (c_stepsBack tl I L rd (nI j) (nI j) (by rw [nI_toInt (by omega)]; omega) (by rw [nI_toInt (by omega)]; omega) (inb12 (show 0 ≤ (I 18 (nI j).toNatClampNeg).toInt ∧ (I 18 (nI j).toNatClampNeg).toInt < 12 from by rw [nI_clamp (by omega)]; exact hcr j (by omega)) (show 0 ≤ (I 17 (nI j).toNatClampNeg).toInt ∧ (I 17 (nI j).toNatClampNeg).toInt < 12 from by rw [nI_clamp (by omega)]; exact hdr j (by omega)))) ?_
        refine Runs.bl 6 (g := true) (i' := 9) (ls' := [some (.ref 42), some (.ref 16), some (.ref 35), some (.int ((1 : Int32) + (stepsBack I (nI j) (nI j)))), some (.int (nI j)), some (.int ((nI j) + 1))]) (st' := []) (M' := mk tl I L rd) rfl rfl ?_
        refine Runs.cg (ls := [some (.ref 42), some (.ref 16), some (.ref 35), some (.int ((fd_it I L  (j + 1)).1)), some (.int ((fd_it I L  (j + 1)).2)), some (.int (nI (j + 1)))]) (M := mk tl I L rd) (by rw [nI_1, fd_it_s, fd_st, if_neg h1, if_neg h2]) (rfl) ih
  · show Runs 85 9 [some (.ref 42), some (.ref 16), some (.ref 35), some (.int ((fd_it I L  m).1)), some (.int ((fd_it I L  m).2)), some (.int (nI m))] [] (mk tl I L rd) rr (Me)
    refine Runs.bl 4 (g := true) (i' := if decide ((I 16 0) ≤ (nI m)) = true then 38 else 13) (ls' := [some (.ref 42), some (.ref 16), some (.ref 35), some (.int ((fd_it I L  m).1)), some (.int ((fd_it I L  m).2)), some (.int (nI m))]) (st' := []) (M' := mk tl I L rd) rfl rfl ?_
    refine Runs.brT (by show I 16 0 ≤ nI m; rw [hm]; exact nI_le (Nat.le_refl _) (by omega)) ?_
    exact hK

set_option maxRecDepth 20000 in
theorem l0_fd (tl : List (Nat × Nat)) (I : Nat → Nat → Int32) (L : Nat → Nat → Int64) (rd : Nat → Nat → Option Nat) (m : Nat)  (hm : I 16 0 = nI m) (hb : m ≤ 40) (hcr : ∀ d, d < m → 0 ≤ (I 18 d).toInt ∧ (I 18 d).toInt < 12) (hdr : ∀ d, d < m → 0 ≤ (I 17 d).toInt ∧ (I 17 d).toInt < 12) (rr : Option Value) (Me : Mm) (hK : Runs 85 38 [some (.ref 42), some (.ref 16), some (.ref 35), some (.int ((fd_it I L  (m)).1)), some (.int ((fd_it I L  (m)).2)), some (.int (nI (m)))] [] (mk tl I L rd) rr Me) : Runs 85 9 [some (.ref 42), some (.ref 16), some (.ref 35), some (.int 1000), some (.int (-1)), some (.int (nI 0))] [] (mk tl I L rd) rr (Me) := l_fd tl I L rd m  hm hb hcr hdr rr Me hK 0 (Nat.zero_le _)
theorem fd_cs (I : Nat → Nat → Int32) (L : Nat → Nat → Int64) (j : Nat) : ((fd_it I L j).2 = -1 ∧ (fd_it I L j).1 = 1000) ∨ ∃ a, a < j ∧ (fd_it I L j).2 = nI a ∧ ¬ isLive I (nI a) = 0 ∧ (fd_it I L j).1 = 1 + stepsBack I (nI a) (nI a) := by
  induction j with
  | zero => exact Or.inl ⟨rfl, rfl⟩
  | succ j ih =>
    have up : ((fd_it I L j).2 = -1 ∧ (fd_it I L j).1 = 1000) ∨ ∃ a, a < j + 1 ∧ (fd_it I L j).2 = nI a ∧ ¬ isLive I (nI a) = 0 ∧ (fd_it I L j).1 = 1 + stepsBack I (nI a) (nI a) := ih.imp id (fun ⟨a, h, e⟩ => ⟨a, by omega, e⟩)
    rw [fd_it_s, fd_st]
    split
    · exact up
    · split
      · exact up
      · rename_i h1 h2
        exact Or.inr ⟨j, by omega, rfl, h1, rfl⟩

