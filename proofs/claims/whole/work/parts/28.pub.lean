/-! public methods of the class (printed by p28.py) -/
theorem live_lt {I : Nat → Nat → Int32} {d : Int32} {m : Nat} (hm : I 16 0 = nI m) (hb : m ≤ 40) (h : ¬ isLive I d = 0) : ∃ n, n < m ∧ d = nI n := by
  have hr := isLive_rng h
  unfold isLive at h
  split at h
  · exact absurd rfl h
  split at h
  · exact absurd rfl h
  · rename_i h1 h2
    rw [hm] at h2
    obtain ⟨n, hn, rfl⟩ := rng_nI (N := 40) hr
    refine ⟨n, ?_, rfl⟩
    rw [nI_leI (by omega) (by omega)] at h2
    omega
theorem live_dr {I : Nat → Nat → Int32} {d : Int32} {m : Nat} (hm : I 16 0 = nI m) (hb : m ≤ 40) (hdr : ∀ d, d < m → 0 ≤ (I 17 d).toInt ∧ (I 17 d).toInt < 12) (h : ¬ isLive I d = 0) : 0 ≤ (I 17 d.toNatClampNeg).toInt ∧ (I 17 d.toNatClampNeg).toInt < 12 := by
  obtain ⟨n, hn, rfl⟩ := live_lt hm hb h
  rw [nI_clamp (by omega)]
  exact hdr n hn
theorem live_cr {I : Nat → Nat → Int32} {d : Int32} {m : Nat} (hm : I 16 0 = nI m) (hb : m ≤ 40) (hcr : ∀ d, d < m → 0 ≤ (I 18 d).toInt ∧ (I 18 d).toInt < 12) (h : ¬ isLive I d = 0) : 0 ≤ (I 18 d.toNatClampNeg).toInt ∧ (I 18 d.toNatClampNeg).toInt < 12 := by
  obtain ⟨n, hn, rfl⟩ := live_lt hm hb h
  rw [nI_clamp (by omega)]
  exact hcr n hn
theorem dAdd_has {I : Nat → Nat → Int32} {x y z t : Int32} {m : Nat} (hm : I 16 0 = nI m) (h : ¬ (40 : Int32) ≤ I 16 0) (hb : m ≤ 40) : ¬ hasD (dAdd I x y z t) (I 16 0) = 0 := by
  have hm40 : m < 40 := by
    rw [hm] at h
    rcases Nat.lt_or_ge m 40 with h1 | h1
    · exact h1
    · exact absurd (nI_le (a := 40) h1 (by omega)) h
  have e : dAdd I x y z t 16 0 = nI (m + 1) := by
    show I 16 0 + 1 = nI (m + 1)
    rw [hm, nI_1]
  unfold hasD
  rw [e, hm, if_neg (nI_pos (by omega)), if_neg (nI_ge (by omega) (by omega)), if_neg (show ¬ (40 : Int32) ≤ nI m from nI_ge (b := 40) hm40 (by decide))]
  decide

def xPerson (I : Nat → Nat → Int32) (L : Nat → Nat → Int64) (xa xl : Nat → Nat) (n m q : Nat) (c : Int32) (h : Int32) : Int32 × (Nat → Nat → Int32) :=
  if (12 : Int32) ≤ (I 2 0) then ((-1 : Int32), I) else
  if ¬ (outside I c (0 : Int32) (1000000 : Int32)) = 0 then ((-1 : Int32), I) else
  if (outside I h (0 : Int32) (9 : Int32)) = 0 then (I 2 0, (pAdd I c h)) else
  ((-1 : Int32), I)

set_option maxRecDepth 20000 in
theorem c_xPerson (tl : List (Nat × Nat)) (I : Nat → Nat → Int32) (L : Nat → Nat → Int64) (rd : Nat → Nat → Option Nat) (xa xl N : Nat → Nat) (n m q : Nat) (c : Int32) (h : Int32) (hm : I 16 0 = nI m) (hb : m ≤ 40) (hq : I 2 0 = nI q) (hqb : q ≤ 12) (hn : I 1 3 = nI n) (hn4 : n ≤ 4) (hA : AO tl rd n xa xl N) (hC : AC I n xa N) (hcr : ∀ d, d < m → 0 ≤ (I 18 d).toInt ∧ (I 18 d).toInt < 12) (hdr : ∀ d, d < m → 0 ≤ (I 17 d).toInt ∧ (I 17 d).toInt < 12) : Call 106 [.ref 0, .int c, .int h] (mk tl I L rd) (some (.int ((xPerson I L xa xl n m q c h).1))) (mk tl ((xPerson I L xa xl n m q c h).2) L rd) := by
  show Runs 106 0 [some (.ref 0), some (.int c), some (.int h)] [] (mk tl I L rd) (some (.int ((xPerson I L xa xl n m q c h).1))) (mk tl ((xPerson I L xa xl n m q c h).2) L rd)
  refine Runs.bl 6 (g := true) (i' := if decide ((12 : Int32) ≤ (I 2 0)) = true then 16 else 6) (ls' := [some (.ref 0), some (.int c), some (.int h)]) (st' := []) (M' := mk tl I L rd) rfl rfl ?_
  refine Runs.brP (fun h1 => ?_) (fun h1 => ?_)
  · skip
    refine Runs.bl 1 (g := true) (i' := 17) (ls' := [some (.ref 0), some (.int c), some (.int h)]) (st' := [.int (-1 : Int32)]) (M' := mk tl I L rd) rfl rfl ?_
    exact Runs.ri rfl rfl (by rw [xPerson, if_pos h1] <;> rfl) (by rw [xPerson, if_pos h1] <;> rfl)
  · skip
    refine Runs.bl 3 (g := true) (i' := 9) (ls' := [some (.ref 0), some (.int c), some (.int h)]) (st' := [.int (1000000 : Int32), .int (0 : Int32), .int c]) (M' := mk tl I L rd) rfl rfl ?_
    refine Runs.call (k' := 147) (as := [.int c, .int (0 : Int32), .int (1000000 : Int32)]) (rest := []) (r1 := some (.int (outside I c (0 : Int32) (1000000 : Int32)))) (M1 := mk tl I L rd) rfl rfl rfl (c_outside tl I L rd c (0 : Int32) (1000000 : Int32) ) ?_
    refine Runs.bl 1 (g := true) (i' := if decide (¬ (outside I c (0 : Int32) (1000000 : Int32)) = 0) = true then 16 else 11) (ls' := [some (.ref 0), some (.int c), some (.int h)]) (st' := []) (M' := mk tl I L rd) rfl rfl ?_
    refine Runs.brP (fun h2 => ?_) (fun h2 => ?_)
    · skip
      refine Runs.bl 1 (g := true) (i' := 17) (ls' := [some (.ref 0), some (.int c), some (.int h)]) (st' := [.int (-1 : Int32)]) (M' := mk tl I L rd) rfl rfl ?_
      exact Runs.ri rfl rfl (by rw [xPerson, if_neg h1, if_pos h2] <;> rfl) (by rw [xPerson, if_neg h1, if_pos h2] <;> rfl)
    · skip
      refine Runs.bl 3 (g := true) (i' := 14) (ls' := [some (.ref 0), some (.int c), some (.int h)]) (st' := [.int (9 : Int32), .int (0 : Int32), .int h]) (M' := mk tl I L rd) rfl rfl ?_
      refine Runs.call (k' := 147) (as := [.int h, .int (0 : Int32), .int (9 : Int32)]) (rest := []) (r1 := some (.int (outside I h (0 : Int32) (9 : Int32)))) (M1 := mk tl I L rd) rfl rfl rfl (c_outside tl I L rd h (0 : Int32) (9 : Int32) ) ?_
      refine Runs.bl 1 (g := true) (i' := if decide ((outside I h (0 : Int32) (9 : Int32)) = 0) = true then 18 else 16) (ls' := [some (.ref 0), some (.int c), some (.int h)]) (st' := []) (M' := mk tl I L rd) rfl rfl ?_
      refine Runs.brP (fun h3 => ?_) (fun h3 => ?_)
      · skip
        refine Runs.bl 5 (g := true) (i' := 23) (ls' := [some (.ref 0), some (.int c), some (.int h)]) (st' := [.int h, .int c, .ref 2]) (M' := mk tl I L rd) rfl rfl ?_
        refine Runs.call (k' := 57) (as := [.ref 2, .int c, .int h]) (rest := []) (r1 := some (.int (I 2 0))) (M1 := mk tl (pAdd I c h) L rd) rfl rfl rfl (c_pAdd tl I L rd c h (by first | assumption | (have q1 := outside_rng'  h2; have q2 := outside_rng h3; have q3 := (show 0 ≤ (I 16 0).toInt ∧ (I 16 0).toInt ≤ 40 from by rw [hm, nI_toInt (by omega)]; omega); have q4 := (show 0 ≤ (I 2 0).toInt ∧ (I 2 0).toInt ≤ 12 from by rw [hq, nI_toInt (by omega)]; omega); (try simp only [Bool.and_true, Bool.true_and, Bool.and_eq_true, inb_iff, Int32.lt_iff_toInt_lt, Int32.le_iff_toInt_le, toI_0, toI_1, toI_2, toI_3, toI_4, toI_5, toI_6, toI_7, toI_8, toI_9, toI_10, toI_12, toI_16, toI_18, toI_20, toI_21, toI_23, toI_24, toI_32, toI_36, toI_39, toI_40, toI_48, toI_50, toI_60, toI_64, toI_75, toI_80, toI_100, toI_144, toI_160, toI_200, toI_256, toI_320, toI_380, toI_576, toI_600, toI_1000, toI_1280, toI_2400, toI_9999, toI_10000, toI_100000, toI_1000000, toI_m1, toI_m100000, toI_s9, toI_s8] at hm hb hq hqb hn hn4 hA hC hcr hdr h1 q1 q2 q3 q4  ⊢); omega)) (by first | assumption | (have q1 := outside_rng'  h2; have q2 := outside_rng h3; have q3 := (show 0 ≤ (I 16 0).toInt ∧ (I 16 0).toInt ≤ 40 from by rw [hm, nI_toInt (by omega)]; omega); have q4 := (show 0 ≤ (I 2 0).toInt ∧ (I 2 0).toInt ≤ 12 from by rw [hq, nI_toInt (by omega)]; omega); (try simp only [Bool.and_true, Bool.true_and, Bool.and_eq_true, inb_iff, Int32.lt_iff_toInt_lt, Int32.le_iff_toInt_le, toI_0, toI_1, toI_2, toI_3, toI_4, toI_5, toI_6, toI_7, toI_8, toI_9, toI_10, toI_12, toI_16, toI_18, toI_20, toI_21, toI_23, toI_24, toI_32, toI_36, toI_39, toI_40, toI_48, toI_50, toI_60, toI_64, toI_75, toI_80, toI_100, toI_144, toI_160, toI_200, toI_256, toI_320, toI_380, toI_576, toI_600, toI_1000, toI_1280, toI_2400, toI_9999, toI_10000, toI_100000, toI_1000000, toI_m1, toI_m100000, toI_s9, toI_s8] at hm hb hq hqb hn hn4 hA hC hcr hdr h1 q1 q2 q3 q4  ⊢); omega))) ?_
        exact Runs.ri rfl rfl (by rw [xPerson, if_neg h1, if_neg h2, if_pos h3] <;> rfl) (by rw [xPerson, if_neg h1, if_neg h2, if_pos h3] <;> rfl)
      · skip
        refine Runs.bl 1 (g := true) (i' := 17) (ls' := [some (.ref 0), some (.int c), some (.int h)]) (st' := [.int (-1 : Int32)]) (M' := mk tl I L rd) rfl rfl ?_
        exact Runs.ri rfl rfl (by rw [xPerson, if_neg h1, if_neg h2, if_neg h3] <;> rfl) (by rw [xPerson, if_neg h1, if_neg h2, if_neg h3] <;> rfl)

def xDebt (I : Nat → Nat → Int32) (L : Nat → Nat → Int64) (xa xl : Nat → Nat) (n m q : Nat) (x : Int32) (y : Int32) (s : Int32) (k : Int32) (a : Int32) (t : Int32) : Int32 × (Nat → Nat → Int32) :=
  if (40 : Int32) ≤ (I 16 0) then ((-1 : Int32), I) else
  if ¬ (areTwo I x y) = 0 then (if ¬ (outside I s (1 : Int32) (100000 : Int32)) = 0 then ((-1 : Int32), I) else
    if ¬ (outside I k (0 : Int32) (3 : Int32)) = 0 then ((-1 : Int32), I) else
    if ¬ (outside I a (0 : Int32) (200 : Int32)) = 0 then ((-1 : Int32), I) else
    if (outside I t (0 : Int32) (I 1 4)) = 0 then (I 16 0, (setTerms (dAdd I x y s (I 1 4)) (I 16 0) k a t)) else
    ((-1 : Int32), I)) else
  ((-1 : Int32), I)

set_option maxRecDepth 20000 in
theorem c_xDebt (tl : List (Nat × Nat)) (I : Nat → Nat → Int32) (L : Nat → Nat → Int64) (rd : Nat → Nat → Option Nat) (xa xl N : Nat → Nat) (n m q : Nat) (x : Int32) (y : Int32) (s : Int32) (k : Int32) (a : Int32) (t : Int32) (hm : I 16 0 = nI m) (hb : m ≤ 40) (hq : I 2 0 = nI q) (hqb : q ≤ 12) (hn : I 1 3 = nI n) (hn4 : n ≤ 4) (hA : AO tl rd n xa xl N) (hC : AC I n xa N) (hcr : ∀ d, d < m → 0 ≤ (I 18 d).toInt ∧ (I 18 d).toInt < 12) (hdr : ∀ d, d < m → 0 ≤ (I 17 d).toInt ∧ (I 17 d).toInt < 12) : Call 107 [.ref 0, .int x, .int y, .int s, .int k, .int a, .int t] (mk tl I L rd) (some (.int ((xDebt I L xa xl n m q x y s k a t).1))) (mk tl ((xDebt I L xa xl n m q x y s k a t).2) L rd) := by
  show Runs 107 0 [some (.ref 0), some (.int x), some (.int y), some (.int s), some (.int k), some (.int a), some (.int t), none] [] (mk tl I L rd) (some (.int ((xDebt I L xa xl n m q x y s k a t).1))) (mk tl ((xDebt I L xa xl n m q x y s k a t).2) L rd)
  refine Runs.bl 6 (g := true) (i' := if decide ((40 : Int32) ≤ (I 16 0)) = true then 11 else 6) (ls' := [some (.ref 0), some (.int x), some (.int y), some (.int s), some (.int k), some (.int a), some (.int t), none]) (st' := []) (M' := mk tl I L rd) rfl rfl ?_
  refine Runs.brP (fun h1 => ?_) (fun h1 => ?_)
  · skip
    refine Runs.bl 1 (g := true) (i' := 12) (ls' := [some (.ref 0), some (.int x), some (.int y), some (.int s), some (.int k), some (.int a), some (.int t), none]) (st' := [.int (-1 : Int32)]) (M' := mk tl I L rd) rfl rfl ?_
    exact Runs.ri rfl rfl (by rw [xDebt, if_pos h1] <;> rfl) (by rw [xDebt, if_pos h1] <;> rfl)
  · skip
    refine Runs.bl 3 (g := true) (i' := 9) (ls' := [some (.ref 0), some (.int x), some (.int y), some (.int s), some (.int k), some (.int a), some (.int t), none]) (st' := [.int y, .int x, .ref 0]) (M' := mk tl I L rd) rfl rfl ?_
    refine Runs.call (k' := 146) (as := [.ref 0, .int x, .int y]) (rest := []) (r1 := some (.int (areTwo I x y))) (M1 := mk tl I L rd) rfl rfl rfl (c_areTwo tl I L rd x y ) ?_
    refine Runs.bl 1 (g := true) (i' := if decide (¬ (areTwo I x y) = 0) = true then 13 else 11) (ls' := [some (.ref 0), some (.int x), some (.int y), some (.int s), some (.int k), some (.int a), some (.int t), none]) (st' := []) (M' := mk tl I L rd) rfl rfl ?_
    refine Runs.brP (fun h2 => ?_) (fun h2 => ?_)
    · skip
      refine Runs.bl 3 (g := true) (i' := 16) (ls' := [some (.ref 0), some (.int x), some (.int y), some (.int s), some (.int k), some (.int a), some (.int t), none]) (st' := [.int (100000 : Int32), .int (1 : Int32), .int s]) (M' := mk tl I L rd) rfl rfl ?_
      refine Runs.call (k' := 147) (as := [.int s, .int (1 : Int32), .int (100000 : Int32)]) (rest := []) (r1 := some (.int (outside I s (1 : Int32) (100000 : Int32)))) (M1 := mk tl I L rd) rfl rfl rfl (c_outside tl I L rd s (1 : Int32) (100000 : Int32) ) ?_
      refine Runs.bl 1 (g := true) (i' := if decide (¬ (outside I s (1 : Int32) (100000 : Int32)) = 0) = true then 35 else 18) (ls' := [some (.ref 0), some (.int x), some (.int y), some (.int s), some (.int k), some (.int a), some (.int t), none]) (st' := []) (M' := mk tl I L rd) rfl rfl ?_
      refine Runs.brP (fun h3 => ?_) (fun h3 => ?_)
      · skip
        refine Runs.bl 1 (g := true) (i' := 36) (ls' := [some (.ref 0), some (.int x), some (.int y), some (.int s), some (.int k), some (.int a), some (.int t), none]) (st' := [.int (-1 : Int32)]) (M' := mk tl I L rd) rfl rfl ?_
        exact Runs.ri rfl rfl (by rw [xDebt, if_neg h1, if_pos h2, if_pos h3] <;> rfl) (by rw [xDebt, if_neg h1, if_pos h2, if_pos h3] <;> rfl)
      · skip
        refine Runs.bl 3 (g := true) (i' := 21) (ls' := [some (.ref 0), some (.int x), some (.int y), some (.int s), some (.int k), some (.int a), some (.int t), none]) (st' := [.int (3 : Int32), .int (0 : Int32), .int k]) (M' := mk tl I L rd) rfl rfl ?_
        refine Runs.call (k' := 147) (as := [.int k, .int (0 : Int32), .int (3 : Int32)]) (rest := []) (r1 := some (.int (outside I k (0 : Int32) (3 : Int32)))) (M1 := mk tl I L rd) rfl rfl rfl (c_outside tl I L rd k (0 : Int32) (3 : Int32) ) ?_
        refine Runs.bl 1 (g := true) (i' := if decide (¬ (outside I k (0 : Int32) (3 : Int32)) = 0) = true then 35 else 23) (ls' := [some (.ref 0), some (.int x), some (.int y), some (.int s), some (.int k), some (.int a), some (.int t), none]) (st' := []) (M' := mk tl I L rd) rfl rfl ?_
        refine Runs.brP (fun h4 => ?_) (fun h4 => ?_)
        · skip
          refine Runs.bl 1 (g := true) (i' := 36) (ls' := [some (.ref 0), some (.int x), some (.int y), some (.int s), some (.int k), some (.int a), some (.int t), none]) (st' := [.int (-1 : Int32)]) (M' := mk tl I L rd) rfl rfl ?_
          exact Runs.ri rfl rfl (by rw [xDebt, if_neg h1, if_pos h2, if_neg h3, if_pos h4] <;> rfl) (by rw [xDebt, if_neg h1, if_pos h2, if_neg h3, if_pos h4] <;> rfl)
        · skip
          refine Runs.bl 3 (g := true) (i' := 26) (ls' := [some (.ref 0), some (.int x), some (.int y), some (.int s), some (.int k), some (.int a), some (.int t), none]) (st' := [.int (200 : Int32), .int (0 : Int32), .int a]) (M' := mk tl I L rd) rfl rfl ?_
          refine Runs.call (k' := 147) (as := [.int a, .int (0 : Int32), .int (200 : Int32)]) (rest := []) (r1 := some (.int (outside I a (0 : Int32) (200 : Int32)))) (M1 := mk tl I L rd) rfl rfl rfl (c_outside tl I L rd a (0 : Int32) (200 : Int32) ) ?_
          refine Runs.bl 1 (g := true) (i' := if decide (¬ (outside I a (0 : Int32) (200 : Int32)) = 0) = true then 35 else 28) (ls' := [some (.ref 0), some (.int x), some (.int y), some (.int s), some (.int k), some (.int a), some (.int t), none]) (st' := []) (M' := mk tl I L rd) rfl rfl ?_
          refine Runs.brP (fun h5 => ?_) (fun h5 => ?_)
          · skip
            refine Runs.bl 1 (g := true) (i' := 36) (ls' := [some (.ref 0), some (.int x), some (.int y), some (.int s), some (.int k), some (.int a), some (.int t), none]) (st' := [.int (-1 : Int32)]) (M' := mk tl I L rd) rfl rfl ?_
            exact Runs.ri rfl rfl (by rw [xDebt, if_neg h1, if_pos h2, if_neg h3, if_neg h4, if_pos h5] <;> rfl) (by rw [xDebt, if_neg h1, if_pos h2, if_neg h3, if_neg h4, if_pos h5] <;> rfl)
          · skip
            refine Runs.bl 5 (g := true) (i' := 33) (ls' := [some (.ref 0), some (.int x), some (.int y), some (.int s), some (.int k), some (.int a), some (.int t), none]) (st' := [.int (I 1 4), .int (0 : Int32), .int t]) (M' := mk tl I L rd) rfl rfl ?_
            refine Runs.call (k' := 147) (as := [.int t, .int (0 : Int32), .int (I 1 4)]) (rest := []) (r1 := some (.int (outside I t (0 : Int32) (I 1 4)))) (M1 := mk tl I L rd) rfl rfl rfl (c_outside tl I L rd t (0 : Int32) (I 1 4) ) ?_
            refine Runs.bl 1 (g := true) (i' := if decide ((outside I t (0 : Int32) (I 1 4)) = 0) = true then 37 else 35) (ls' := [some (.ref 0), some (.int x), some (.int y), some (.int s), some (.int k), some (.int a), some (.int t), none]) (st' := []) (M' := mk tl I L rd) rfl rfl ?_
            refine Runs.brP (fun h6 => ?_) (fun h6 => ?_)
            · skip
              refine Runs.bl 9 (g := true) (i' := 46) (ls' := [some (.ref 0), some (.int x), some (.int y), some (.int s), some (.int k), some (.int a), some (.int t), none]) (st' := [.int (I 1 4), .int s, .int y, .int x, .ref 16]) (M' := mk tl I L rd) rfl rfl ?_
              refine Runs.call (k' := 8) (as := [.ref 16, .int x, .int y, .int s, .int (I 1 4)]) (rest := []) (r1 := some (.int (I 16 0))) (M1 := mk tl (dAdd I x y s (I 1 4)) L rd) rfl rfl rfl (c_dAdd tl I L rd x y s (I 1 4) (by first | assumption | (have q1 := areTwo_rng h2; have q2 := outside_rng'  h3; have q3 := outside_rng'  h4; have q4 := outside_rng'  h5; have q5 := outside_rng h6; have q6 := (show 0 ≤ (I 16 0).toInt ∧ (I 16 0).toInt ≤ 40 from by rw [hm, nI_toInt (by omega)]; omega); have q7 := (show 0 ≤ (I 2 0).toInt ∧ (I 2 0).toInt ≤ 12 from by rw [hq, nI_toInt (by omega)]; omega); (try simp only [Bool.and_true, Bool.true_and, Bool.and_eq_true, inb_iff, Int32.lt_iff_toInt_lt, Int32.le_iff_toInt_le, toI_0, toI_1, toI_2, toI_3, toI_4, toI_5, toI_6, toI_7, toI_8, toI_9, toI_10, toI_12, toI_16, toI_18, toI_20, toI_21, toI_23, toI_24, toI_32, toI_36, toI_39, toI_40, toI_48, toI_50, toI_60, toI_64, toI_75, toI_80, toI_100, toI_144, toI_160, toI_200, toI_256, toI_320, toI_380, toI_576, toI_600, toI_1000, toI_1280, toI_2400, toI_9999, toI_10000, toI_100000, toI_1000000, toI_m1, toI_m100000, toI_s9, toI_s8] at hm hb hq hqb hn hn4 hA hC hcr hdr h1 q1 q2 q3 q4 q5 q6 q7  ⊢); omega)) (by first | assumption | (have q1 := areTwo_rng h2; have q2 := outside_rng'  h3; have q3 := outside_rng'  h4; have q4 := outside_rng'  h5; have q5 := outside_rng h6; have q6 := (show 0 ≤ (I 16 0).toInt ∧ (I 16 0).toInt ≤ 40 from by rw [hm, nI_toInt (by omega)]; omega); have q7 := (show 0 ≤ (I 2 0).toInt ∧ (I 2 0).toInt ≤ 12 from by rw [hq, nI_toInt (by omega)]; omega); (try simp only [Bool.and_true, Bool.true_and, Bool.and_eq_true, inb_iff, Int32.lt_iff_toInt_lt, Int32.le_iff_toInt_le, toI_0, toI_1, toI_2, toI_3, toI_4, toI_5, toI_6, toI_7, toI_8, toI_9, toI_10, toI_12, toI_16, toI_18, toI_20, toI_21, toI_23, toI_24, toI_32, toI_36, toI_39, toI_40, toI_48, toI_50, toI_60, toI_64, toI_75, toI_80, toI_100, toI_144, toI_160, toI_200, toI_256, toI_320, toI_380, toI_576, toI_600, toI_1000, toI_1280, toI_2400, toI_9999, toI_10000, toI_100000, toI_1000000, toI_m1, toI_m100000, toI_s9, toI_s8] at hm hb hq hqb hn hn4 hA hC hcr hdr h1 q1 q2 q3 q4 q5 q6 q7  ⊢); omega))) ?_
              refine Runs.bl 8 (g := true) (i' := 55) (ls' := [some (.ref 0), some (.int x), some (.int y), some (.int s), some (.int k), some (.int a), some (.int t), some (.int (I 16 0))]) (st' := [.int t, .int a, .int k, .int (I 16 0), .ref 16]) (M' := mk tl (dAdd I x y s (I 1 4)) L rd) rfl rfl ?_
              refine Runs.call (k' := 9) (as := [.ref 16, .int (I 16 0), .int k, .int a, .int t]) (rest := []) (r1 := none) (M1 := mk tl (setTerms (dAdd I x y s (I 1 4)) (I 16 0) k a t) L rd) rfl rfl rfl (c_setTerms tl (dAdd I x y s (I 1 4)) L rd (I 16 0) k a t (dAdd_has hm h1 hb) (hasD_rng (I := (dAdd I x y s (I 1 4))) (dAdd_has hm h1 hb))) ?_
              refine Runs.bl 1 (g := true) (i' := 57) (ls' := [some (.ref 0), some (.int x), some (.int y), some (.int s), some (.int k), some (.int a), some (.int t), some (.int (I 16 0))]) (st' := [.int (I 16 0)]) (M' := mk tl (setTerms (dAdd I x y s (I 1 4)) (I 16 0) k a t) L rd) rfl rfl ?_
              exact Runs.ri rfl rfl (by rw [xDebt, if_neg h1, if_pos h2, if_neg h3, if_neg h4, if_neg h5, if_pos h6] <;> rfl) (by rw [xDebt, if_neg h1, if_pos h2, if_neg h3, if_neg h4, if_neg h5, if_pos h6] <;> rfl)
            · skip
              refine Runs.bl 1 (g := true) (i' := 36) (ls' := [some (.ref 0), some (.int x), some (.int y), some (.int s), some (.int k), some (.int a), some (.int t), none]) (st' := [.int (-1 : Int32)]) (M' := mk tl I L rd) rfl rfl ?_
              exact Runs.ri rfl rfl (by rw [xDebt, if_neg h1, if_pos h2, if_neg h3, if_neg h4, if_neg h5, if_neg h6] <;> rfl) (by rw [xDebt, if_neg h1, if_pos h2, if_neg h3, if_neg h4, if_neg h5, if_neg h6] <;> rfl)
    · skip
      refine Runs.bl 1 (g := true) (i' := 12) (ls' := [some (.ref 0), some (.int x), some (.int y), some (.int s), some (.int k), some (.int a), some (.int t), none]) (st' := [.int (-1 : Int32)]) (M' := mk tl I L rd) rfl rfl ?_
      exact Runs.ri rfl rfl (by rw [xDebt, if_neg h1, if_neg h2] <;> rfl) (by rw [xDebt, if_neg h1, if_neg h2] <;> rfl)

def xCosts (I : Nat → Nat → Int32) (L : Nat → Nat → Int64) (xa xl : Nat → Nat) (n m q : Nat) (d : Int32) (c : Int32) : Int32 × (Nat → Nat → Int32) :=
  if (isLive I d) = 0 then ((-1 : Int32), I) else
  if (outside I c (1 : Int32) (10000 : Int32)) = 0 then (due (up2 I 28 d.toNatClampNeg ((I 28 d.toNatClampNeg) + c)) d (I 1 4), (up2 I 28 d.toNatClampNeg ((I 28 d.toNatClampNeg) + c))) else
  ((-1 : Int32), I)

set_option maxRecDepth 20000 in
theorem c_xCosts (tl : List (Nat × Nat)) (I : Nat → Nat → Int32) (L : Nat → Nat → Int64) (rd : Nat → Nat → Option Nat) (xa xl N : Nat → Nat) (n m q : Nat) (d : Int32) (c : Int32) (hm : I 16 0 = nI m) (hb : m ≤ 40) (hq : I 2 0 = nI q) (hqb : q ≤ 12) (hn : I 1 3 = nI n) (hn4 : n ≤ 4) (hA : AO tl rd n xa xl N) (hC : AC I n xa N) (hcr : ∀ d, d < m → 0 ≤ (I 18 d).toInt ∧ (I 18 d).toInt < 12) (hdr : ∀ d, d < m → 0 ≤ (I 17 d).toInt ∧ (I 17 d).toInt < 12) : Call 108 [.ref 0, .int d, .int c] (mk tl I L rd) (some (.int ((xCosts I L xa xl n m q d c).1))) (mk tl ((xCosts I L xa xl n m q d c).2) L rd) := by
  show Runs 108 0 [some (.ref 0), some (.int d), some (.int c)] [] (mk tl I L rd) (some (.int ((xCosts I L xa xl n m q d c).1))) (mk tl ((xCosts I L xa xl n m q d c).2) L rd)
  refine Runs.bl 4 (g := true) (i' := 4) (ls' := [some (.ref 0), some (.int d), some (.int c)]) (st' := [.int d, .ref 16]) (M' := mk tl I L rd) rfl rfl ?_
  refine Runs.call (k' := 7) (as := [.ref 16, .int d]) (rest := []) (r1 := some (.int (isLive I d))) (M1 := mk tl I L rd) rfl rfl rfl (c_isLive tl I L rd d ) ?_
  refine Runs.bl 1 (g := true) (i' := if decide ((isLive I d) = 0) = true then 11 else 6) (ls' := [some (.ref 0), some (.int d), some (.int c)]) (st' := []) (M' := mk tl I L rd) rfl rfl ?_
  refine Runs.brP (fun h1 => ?_) (fun h1 => ?_)
  · skip
    refine Runs.bl 1 (g := true) (i' := 12) (ls' := [some (.ref 0), some (.int d), some (.int c)]) (st' := [.int (-1 : Int32)]) (M' := mk tl I L rd) rfl rfl ?_
    exact Runs.ri rfl rfl (by rw [xCosts, if_pos h1] <;> rfl) (by rw [xCosts, if_pos h1] <;> rfl)
  · skip
    refine Runs.bl 3 (g := true) (i' := 9) (ls' := [some (.ref 0), some (.int d), some (.int c)]) (st' := [.int (10000 : Int32), .int (1 : Int32), .int c]) (M' := mk tl I L rd) rfl rfl ?_
    refine Runs.call (k' := 147) (as := [.int c, .int (1 : Int32), .int (10000 : Int32)]) (rest := []) (r1 := some (.int (outside I c (1 : Int32) (10000 : Int32)))) (M1 := mk tl I L rd) rfl rfl rfl (c_outside tl I L rd c (1 : Int32) (10000 : Int32) ) ?_
    refine Runs.bl 1 (g := true) (i' := if decide ((outside I c (1 : Int32) (10000 : Int32)) = 0) = true then 13 else 11) (ls' := [some (.ref 0), some (.int d), some (.int c)]) (st' := []) (M' := mk tl I L rd) rfl rfl ?_
    refine Runs.brP (fun h2 => ?_) (fun h2 => ?_)
    · skip
      refine Runs.bl 17 (g := inb d 40 && (inb d 40 && true)) (i' := 30) (ls' := [some (.ref 0), some (.int d), some (.int c)]) (st' := [.int (I 1 4), .int d, .ref 16]) (M' := mk tl (up2 I 28 d.toNatClampNeg ((I 28 d.toNatClampNeg) + c)) L rd) rfl (by have q1 := isLive_rng h1; have q2 := live_dr hm hb hdr h1; have q3 := live_cr hm hb hcr h1; have q4 := outside_rng h2; have q5 := (show 0 ≤ (I 16 0).toInt ∧ (I 16 0).toInt ≤ 40 from by rw [hm, nI_toInt (by omega)]; omega); have q6 := (show 0 ≤ (I 2 0).toInt ∧ (I 2 0).toInt ≤ 12 from by rw [hq, nI_toInt (by omega)]; omega); simp only [Bool.and_true, Bool.true_and, Bool.and_eq_true, inb_iff, Int32.lt_iff_toInt_lt, Int32.le_iff_toInt_le, toI_0, toI_1, toI_2, toI_3, toI_4, toI_5, toI_6, toI_7, toI_8, toI_9, toI_10, toI_12, toI_16, toI_18, toI_20, toI_21, toI_23, toI_24, toI_32, toI_36, toI_39, toI_40, toI_48, toI_50, toI_60, toI_64, toI_75, toI_80, toI_100, toI_144, toI_160, toI_200, toI_256, toI_320, toI_380, toI_576, toI_600, toI_1000, toI_1280, toI_2400, toI_9999, toI_10000, toI_100000, toI_1000000, toI_m1, toI_m100000, toI_s9, toI_s8] at hm hb hq hqb hn hn4 hA hC hcr hdr q1 q2 q3 q4 q5 q6 ⊢; omega) ?_
      refine Runs.call (k' := 11) (as := [.ref 16, .int d, .int (I 1 4)]) (rest := []) (r1 := some (.int (due (up2 I 28 d.toNatClampNeg ((I 28 d.toNatClampNeg) + c)) d (I 1 4)))) (M1 := mk tl (up2 I 28 d.toNatClampNeg ((I 28 d.toNatClampNeg) + c)) L rd) rfl rfl rfl (c_due tl (up2 I 28 d.toNatClampNeg ((I 28 d.toNatClampNeg) + c)) L rd d (I 1 4) ) ?_
      exact Runs.ri rfl rfl (by rw [xCosts, if_neg h1, if_pos h2] <;> rfl) (by rw [xCosts, if_neg h1, if_pos h2] <;> rfl)
    · skip
      refine Runs.bl 1 (g := true) (i' := 12) (ls' := [some (.ref 0), some (.int d), some (.int c)]) (st' := [.int (-1 : Int32)]) (M' := mk tl I L rd) rfl rfl ?_
      exact Runs.ri rfl rfl (by rw [xCosts, if_neg h1, if_neg h2] <;> rfl) (by rw [xCosts, if_neg h1, if_neg h2] <;> rfl)

def xPay (I : Nat → Nat → Int32) (L : Nat → Nat → Int64) (xa xl : Nat → Nat) (n m q : Nat) (d : Int32) (c : Int32) : Int32 × (Nat → Nat → Int32) :=
  if (isLive I d) = 0 then ((-1 : Int32), I) else
  if c < (1 : Int32) then ((-1 : Int32), I) else
  if c ≤ (due I d (I 1 4)) then (if c ≤ (I 3 ((I 17 d.toNatClampNeg).toNatClampNeg)) then (due (up1 (takeOff (moveCoins I (I 17 d.toNatClampNeg) (I 18 d.toNatClampNeg) c) d c (I 1 4)) 12 (drop_it (takeOff (moveCoins I (I 17 d.toNatClampNeg) (I 18 d.toNatClampNeg) c) d c (I 1 4)) L m q)) d (I 1 4), (up1 (takeOff (moveCoins I (I 17 d.toNatClampNeg) (I 18 d.toNatClampNeg) c) d c (I 1 4)) 12 (drop_it (takeOff (moveCoins I (I 17 d.toNatClampNeg) (I 18 d.toNatClampNeg) c) d c (I 1 4)) L m q))) else
    ((-1 : Int32), I)) else
  ((-1 : Int32), I)

set_option maxRecDepth 20000 in
theorem c_xPay (tl : List (Nat × Nat)) (I : Nat → Nat → Int32) (L : Nat → Nat → Int64) (rd : Nat → Nat → Option Nat) (xa xl N : Nat → Nat) (n m q : Nat) (d : Int32) (c : Int32) (hm : I 16 0 = nI m) (hb : m ≤ 40) (hq : I 2 0 = nI q) (hqb : q ≤ 12) (hn : I 1 3 = nI n) (hn4 : n ≤ 4) (hA : AO tl rd n xa xl N) (hC : AC I n xa N) (hcr : ∀ d, d < m → 0 ≤ (I 18 d).toInt ∧ (I 18 d).toInt < 12) (hdr : ∀ d, d < m → 0 ≤ (I 17 d).toInt ∧ (I 17 d).toInt < 12) : Call 109 [.ref 0, .int d, .int c] (mk tl I L rd) (some (.int ((xPay I L xa xl n m q d c).1))) (mk tl ((xPay I L xa xl n m q d c).2) L rd) := by
  show Runs 109 0 [some (.ref 0), some (.int d), some (.int c), none] [] (mk tl I L rd) (some (.int ((xPay I L xa xl n m q d c).1))) (mk tl ((xPay I L xa xl n m q d c).2) L rd)
  refine Runs.bl 4 (g := true) (i' := 4) (ls' := [some (.ref 0), some (.int d), some (.int c), none]) (st' := [.int d, .ref 16]) (M' := mk tl I L rd) rfl rfl ?_
  refine Runs.call (k' := 7) (as := [.ref 16, .int d]) (rest := []) (r1 := some (.int (isLive I d))) (M1 := mk tl I L rd) rfl rfl rfl (c_isLive tl I L rd d ) ?_
  refine Runs.bl 1 (g := true) (i' := if decide ((isLive I d) = 0) = true then 19 else 6) (ls' := [some (.ref 0), some (.int d), some (.int c), none]) (st' := []) (M' := mk tl I L rd) rfl rfl ?_
  refine Runs.brP (fun h1 => ?_) (fun h1 => ?_)
  · skip
    refine Runs.bl 1 (g := true) (i' := 20) (ls' := [some (.ref 0), some (.int d), some (.int c), none]) (st' := [.int (-1 : Int32)]) (M' := mk tl I L rd) rfl rfl ?_
    exact Runs.ri rfl rfl (by rw [xPay, if_pos h1] <;> rfl) (by rw [xPay, if_pos h1] <;> rfl)
  · skip
    refine Runs.bl 3 (g := true) (i' := if decide (c < (1 : Int32)) = true then 19 else 9) (ls' := [some (.ref 0), some (.int d), some (.int c), none]) (st' := []) (M' := mk tl I L rd) rfl rfl ?_
    refine Runs.brP (fun h2 => ?_) (fun h2 => ?_)
    · skip
      refine Runs.bl 1 (g := true) (i' := 20) (ls' := [some (.ref 0), some (.int d), some (.int c), none]) (st' := [.int (-1 : Int32)]) (M' := mk tl I L rd) rfl rfl ?_
      exact Runs.ri rfl rfl (by rw [xPay, if_neg h1, if_pos h2] <;> rfl) (by rw [xPay, if_neg h1, if_pos h2] <;> rfl)
    · skip
      refine Runs.bl 8 (g := true) (i' := 17) (ls' := [some (.ref 0), some (.int d), some (.int c), none]) (st' := [.int (I 1 4), .int d, .ref 16, .int c]) (M' := mk tl I L rd) rfl rfl ?_
      refine Runs.call (k' := 11) (as := [.ref 16, .int d, .int (I 1 4)]) (rest := [.int c]) (r1 := some (.int (due I d (I 1 4)))) (M1 := mk tl I L rd) rfl rfl rfl (c_due tl I L rd d (I 1 4) ) ?_
      refine Runs.bl 1 (g := true) (i' := if decide (c ≤ (due I d (I 1 4))) = true then 21 else 19) (ls' := [some (.ref 0), some (.int d), some (.int c), none]) (st' := []) (M' := mk tl I L rd) rfl rfl ?_
      refine Runs.brP (fun h3 => ?_) (fun h3 => ?_)
      · skip
        refine Runs.bl 15 (g := inb d 40 && (inb (I 17 d.toNatClampNeg) 12 && true)) (i' := if decide (c ≤ (I 3 ((I 17 d.toNatClampNeg).toNatClampNeg))) = true then 38 else 36) (ls' := [some (.ref 0), some (.int d), some (.int c), some (.int (I 17 d.toNatClampNeg))]) (st' := []) (M' := mk tl I L rd) rfl (by have q1 := isLive_rng h1; have q2 := live_dr hm hb hdr h1; have q3 := live_cr hm hb hcr h1; have q4 := (show 0 ≤ (I 16 0).toInt ∧ (I 16 0).toInt ≤ 40 from by rw [hm, nI_toInt (by omega)]; omega); have q5 := (show 0 ≤ (I 2 0).toInt ∧ (I 2 0).toInt ≤ 12 from by rw [hq, nI_toInt (by omega)]; omega); simp only [Bool.and_true, Bool.true_and, Bool.and_eq_true, inb_iff, Int32.lt_iff_toInt_lt, Int32.le_iff_toInt_le, toI_0, toI_1, toI_2, toI_3, toI_4, toI_5, toI_6, toI_7, toI_8, toI_9, toI_10, toI_12, toI_16, toI_18, toI_20, toI_21, toI_23, toI_24, toI_32, toI_36, toI_39, toI_40, toI_48, toI_50, toI_60, toI_64, toI_75, toI_80, toI_100, toI_144, toI_160, toI_200, toI_256, toI_320, toI_380, toI_576, toI_600, toI_1000, toI_1280, toI_2400, toI_9999, toI_10000, toI_100000, toI_1000000, toI_m1, toI_m100000, toI_s9, toI_s8] at hm hb hq hqb hn hn4 hA hC hcr hdr q1 q2 q3 h2 h3 q4 q5 ⊢; omega) ?_
        refine Runs.brP (fun h4 => ?_) (fun h4 => ?_)
        · skip
          refine Runs.bl 10 (g := inb d 40 && true) (i' := 48) (ls' := [some (.ref 0), some (.int d), some (.int c), some (.int (I 17 d.toNatClampNeg))]) (st' := [.int c, .int (I 18 d.toNatClampNeg), .int (I 17 d.toNatClampNeg), .ref 1]) (M' := mk tl I L rd) rfl (by have q1 := isLive_rng h1; have q2 := live_dr hm hb hdr h1; have q3 := live_cr hm hb hcr h1; have q4 := (show 0 ≤ (I 16 0).toInt ∧ (I 16 0).toInt ≤ 40 from by rw [hm, nI_toInt (by omega)]; omega); have q5 := (show 0 ≤ (I 2 0).toInt ∧ (I 2 0).toInt ≤ 12 from by rw [hq, nI_toInt (by omega)]; omega); simp only [Bool.and_true, Bool.true_and, Bool.and_eq_true, inb_iff, Int32.lt_iff_toInt_lt, Int32.le_iff_toInt_le, toI_0, toI_1, toI_2, toI_3, toI_4, toI_5, toI_6, toI_7, toI_8, toI_9, toI_10, toI_12, toI_16, toI_18, toI_20, toI_21, toI_23, toI_24, toI_32, toI_36, toI_39, toI_40, toI_48, toI_50, toI_60, toI_64, toI_75, toI_80, toI_100, toI_144, toI_160, toI_200, toI_256, toI_320, toI_380, toI_576, toI_600, toI_1000, toI_1280, toI_2400, toI_9999, toI_10000, toI_100000, toI_1000000, toI_m1, toI_m100000, toI_s9, toI_s8] at hm hb hq hqb hn hn4 hA hC hcr hdr q1 q2 q3 h2 h3 h4 q4 q5 ⊢; omega) ?_
          refine Runs.call (k' := 37) (as := [.ref 1, .int (I 17 d.toNatClampNeg), .int (I 18 d.toNatClampNeg), .int c]) (rest := []) (r1 := none) (M1 := mk tl (moveCoins I (I 17 d.toNatClampNeg) (I 18 d.toNatClampNeg) c) L rd) rfl rfl rfl (c_moveCoins tl I L rd (I 17 d.toNatClampNeg) (I 18 d.toNatClampNeg) c (by first | assumption | (have q1 := isLive_rng h1; have q2 := live_dr hm hb hdr h1; have q3 := live_cr hm hb hcr h1; have q4 := (show 0 ≤ (I 16 0).toInt ∧ (I 16 0).toInt ≤ 40 from by rw [hm, nI_toInt (by omega)]; omega); have q5 := (show 0 ≤ (I 2 0).toInt ∧ (I 2 0).toInt ≤ 12 from by rw [hq, nI_toInt (by omega)]; omega); (try simp only [Bool.and_true, Bool.true_and, Bool.and_eq_true, inb_iff, Int32.lt_iff_toInt_lt, Int32.le_iff_toInt_le, toI_0, toI_1, toI_2, toI_3, toI_4, toI_5, toI_6, toI_7, toI_8, toI_9, toI_10, toI_12, toI_16, toI_18, toI_20, toI_21, toI_23, toI_24, toI_32, toI_36, toI_39, toI_40, toI_48, toI_50, toI_60, toI_64, toI_75, toI_80, toI_100, toI_144, toI_160, toI_200, toI_256, toI_320, toI_380, toI_576, toI_600, toI_1000, toI_1280, toI_2400, toI_9999, toI_10000, toI_100000, toI_1000000, toI_m1, toI_m100000, toI_s9, toI_s8] at hm hb hq hqb hn hn4 hA hC hcr hdr q1 q2 q3 h2 h3 h4 q4 q5  ⊢); omega)) (by first | assumption | (have q1 := isLive_rng h1; have q2 := live_dr hm hb hdr h1; have q3 := live_cr hm hb hcr h1; have q4 := (show 0 ≤ (I 16 0).toInt ∧ (I 16 0).toInt ≤ 40 from by rw [hm, nI_toInt (by omega)]; omega); have q5 := (show 0 ≤ (I 2 0).toInt ∧ (I 2 0).toInt ≤ 12 from by rw [hq, nI_toInt (by omega)]; omega); (try simp only [Bool.and_true, Bool.true_and, Bool.and_eq_true, inb_iff, Int32.lt_iff_toInt_lt, Int32.le_iff_toInt_le, toI_0, toI_1, toI_2, toI_3, toI_4, toI_5, toI_6, toI_7, toI_8, toI_9, toI_10, toI_12, toI_16, toI_18, toI_20, toI_21, toI_23, toI_24, toI_32, toI_36, toI_39, toI_40, toI_48, toI_50, toI_60, toI_64, toI_75, toI_80, toI_100, toI_144, toI_160, toI_200, toI_256, toI_320, toI_380, toI_576, toI_600, toI_1000, toI_1280, toI_2400, toI_9999, toI_10000, toI_100000, toI_1000000, toI_m1, toI_m100000, toI_s9, toI_s8] at hm hb hq hqb hn hn4 hA hC hcr hdr q1 q2 q3 h2 h3 h4 q4 q5  ⊢); omega))) ?_
          refine Runs.bl 8 (g := true) (i' := 57) (ls' := [some (.ref 0), some (.int d), some (.int c), some (.int (I 17 d.toNatClampNeg))]) (st' := [.int (I 1 4), .int c, .int d, .ref 16]) (M' := mk tl (moveCoins I (I 17 d.toNatClampNeg) (I 18 d.toNatClampNeg) c) L rd) rfl rfl ?_
          refine Runs.call (k' := 12) (as := [.ref 16, .int d, .int c, .int (I 1 4)]) (rest := []) (r1 := none) (M1 := mk tl (takeOff (moveCoins I (I 17 d.toNatClampNeg) (I 18 d.toNatClampNeg) c) d c (I 1 4)) L rd) rfl rfl rfl (c_takeOff tl (moveCoins I (I 17 d.toNatClampNeg) (I 18 d.toNatClampNeg) c) L rd d c (I 1 4) (by first | assumption | (have q1 := isLive_rng h1; have q2 := live_dr hm hb hdr h1; have q3 := live_cr hm hb hcr h1; have q4 := (show 0 ≤ (I 16 0).toInt ∧ (I 16 0).toInt ≤ 40 from by rw [hm, nI_toInt (by omega)]; omega); have q5 := (show 0 ≤ (I 2 0).toInt ∧ (I 2 0).toInt ≤ 12 from by rw [hq, nI_toInt (by omega)]; omega); (try simp only [Bool.and_true, Bool.true_and, Bool.and_eq_true, inb_iff, Int32.lt_iff_toInt_lt, Int32.le_iff_toInt_le, toI_0, toI_1, toI_2, toI_3, toI_4, toI_5, toI_6, toI_7, toI_8, toI_9, toI_10, toI_12, toI_16, toI_18, toI_20, toI_21, toI_23, toI_24, toI_32, toI_36, toI_39, toI_40, toI_48, toI_50, toI_60, toI_64, toI_75, toI_80, toI_100, toI_144, toI_160, toI_200, toI_256, toI_320, toI_380, toI_576, toI_600, toI_1000, toI_1280, toI_2400, toI_9999, toI_10000, toI_100000, toI_1000000, toI_m1, toI_m100000, toI_s9, toI_s8] at hm hb hq hqb hn hn4 hA hC hcr hdr q1 q2 q3 h2 h3 h4 q4 q5  ⊢); omega))) ?_
          refine Runs.bl 2 (g := true) (i' := 60) (ls' := [some (.ref 0), some (.int d), some (.int c), some (.int (I 17 d.toNatClampNeg))]) (st' := [.ref 1]) (M' := mk tl (takeOff (moveCoins I (I 17 d.toNatClampNeg) (I 18 d.toNatClampNeg) c) d c (I 1 4)) L rd) rfl rfl ?_
          refine Runs.call (k' := 36) (as := [.ref 1]) (rest := []) (r1 := none) (M1 := mk tl (up1 (takeOff (moveCoins I (I 17 d.toNatClampNeg) (I 18 d.toNatClampNeg) c) d c (I 1 4)) 12 (drop_it (takeOff (moveCoins I (I 17 d.toNatClampNeg) (I 18 d.toNatClampNeg) c) d c (I 1 4)) L m q)) L rd) rfl rfl rfl (c_drop tl (takeOff (moveCoins I (I 17 d.toNatClampNeg) (I 18 d.toNatClampNeg) c) d c (I 1 4)) L rd m q hm hb hq hqb) ?_
          refine Runs.bl 7 (g := true) (i' := 68) (ls' := [some (.ref 0), some (.int d), some (.int c), some (.int (I 17 d.toNatClampNeg))]) (st' := [.int (I 1 4), .int d, .ref 16]) (M' := mk tl (up1 (takeOff (moveCoins I (I 17 d.toNatClampNeg) (I 18 d.toNatClampNeg) c) d c (I 1 4)) 12 (drop_it (takeOff (moveCoins I (I 17 d.toNatClampNeg) (I 18 d.toNatClampNeg) c) d c (I 1 4)) L m q)) L rd) rfl rfl ?_
          refine Runs.call (k' := 11) (as := [.ref 16, .int d, .int (I 1 4)]) (rest := []) (r1 := some (.int (due (up1 (takeOff (moveCoins I (I 17 d.toNatClampNeg) (I 18 d.toNatClampNeg) c) d c (I 1 4)) 12 (drop_it (takeOff (moveCoins I (I 17 d.toNatClampNeg) (I 18 d.toNatClampNeg) c) d c (I 1 4)) L m q)) d (I 1 4)))) (M1 := mk tl (up1 (takeOff (moveCoins I (I 17 d.toNatClampNeg) (I 18 d.toNatClampNeg) c) d c (I 1 4)) 12 (drop_it (takeOff (moveCoins I (I 17 d.toNatClampNeg) (I 18 d.toNatClampNeg) c) d c (I 1 4)) L m q)) L rd) rfl rfl rfl (c_due tl (up1 (takeOff (moveCoins I (I 17 d.toNatClampNeg) (I 18 d.toNatClampNeg) c) d c (I 1 4)) 12 (drop_it (takeOff (moveCoins I (I 17 d.toNatClampNeg) (I 18 d.toNatClampNeg) c) d c (I 1 4)) L m q)) L rd d (I 1 4) ) ?_
          exact Runs.ri rfl rfl (by rw [xPay, if_neg h1, if_neg h2, if_pos h3, if_pos h4] <;> rfl) (by rw [xPay, if_neg h1, if_neg h2, if_pos h3, if_pos h4] <;> rfl)
        · skip
          refine Runs.bl 1 (g := true) (i' := 37) (ls' := [some (.ref 0), some (.int d), some (.int c), some (.int (I 17 d.toNatClampNeg))]) (st' := [.int (-1 : Int32)]) (M' := mk tl I L rd) rfl rfl ?_
          exact Runs.ri rfl rfl (by rw [xPay, if_neg h1, if_neg h2, if_pos h3, if_neg h4] <;> rfl) (by rw [xPay, if_neg h1, if_neg h2, if_pos h3, if_neg h4] <;> rfl)
      · skip
        refine Runs.bl 1 (g := true) (i' := 20) (ls' := [some (.ref 0), some (.int d), some (.int c), none]) (st' := [.int (-1 : Int32)]) (M' := mk tl I L rd) rfl rfl ?_
        exact Runs.ri rfl rfl (by rw [xPay, if_neg h1, if_neg h2, if_neg h3] <;> rfl) (by rw [xPay, if_neg h1, if_neg h2, if_neg h3] <;> rfl)

def xAbout (I : Nat → Nat → Int32) (L : Nat → Nat → Int64) (xa xl : Nat → Nat) (n m q : Nat) (d : Int32) (w : Int32) : Int32 × (Nat → Nat → Int32) :=
  if ¬ (hasD I d) = 0 then (if (8 : Int32) ≤ w then (dStand I d w (I 1 4), I) else
    (termOf I d w, I)) else
  ((-100 : Int32), I)

set_option maxRecDepth 20000 in
theorem c_xAbout (tl : List (Nat × Nat)) (I : Nat → Nat → Int32) (L : Nat → Nat → Int64) (rd : Nat → Nat → Option Nat) (xa xl N : Nat → Nat) (n m q : Nat) (d : Int32) (w : Int32) (hm : I 16 0 = nI m) (hb : m ≤ 40) (hq : I 2 0 = nI q) (hqb : q ≤ 12) (hn : I 1 3 = nI n) (hn4 : n ≤ 4) (hA : AO tl rd n xa xl N) (hC : AC I n xa N) (hcr : ∀ d, d < m → 0 ≤ (I 18 d).toInt ∧ (I 18 d).toInt < 12) (hdr : ∀ d, d < m → 0 ≤ (I 17 d).toInt ∧ (I 17 d).toInt < 12) : Call 110 [.ref 0, .int d, .int w] (mk tl I L rd) (some (.int ((xAbout I L xa xl n m q d w).1))) (mk tl ((xAbout I L xa xl n m q d w).2) L rd) := by
  show Runs 110 0 [some (.ref 0), some (.int d), some (.int w)] [] (mk tl I L rd) (some (.int ((xAbout I L xa xl n m q d w).1))) (mk tl ((xAbout I L xa xl n m q d w).2) L rd)
  refine Runs.bl 4 (g := true) (i' := 4) (ls' := [some (.ref 0), some (.int d), some (.int w)]) (st' := [.int d, .ref 16]) (M' := mk tl I L rd) rfl rfl ?_
  refine Runs.call (k' := 6) (as := [.ref 16, .int d]) (rest := []) (r1 := some (.int (hasD I d))) (M1 := mk tl I L rd) rfl rfl rfl (c_hasD tl I L rd d ) ?_
  refine Runs.bl 1 (g := true) (i' := if decide (¬ (hasD I d) = 0) = true then 8 else 6) (ls' := [some (.ref 0), some (.int d), some (.int w)]) (st' := []) (M' := mk tl I L rd) rfl rfl ?_
  refine Runs.brP (fun h1 => ?_) (fun h1 => ?_)
  · skip
    refine Runs.bl 3 (g := true) (i' := if decide ((8 : Int32) ≤ w) = true then 18 else 11) (ls' := [some (.ref 0), some (.int d), some (.int w)]) (st' := []) (M' := mk tl I L rd) rfl rfl ?_
    refine Runs.brP (fun h2 => ?_) (fun h2 => ?_)
    · skip
      refine Runs.bl 8 (g := true) (i' := 26) (ls' := [some (.ref 0), some (.int d), some (.int w)]) (st' := [.int (I 1 4), .int w, .int d, .ref 16]) (M' := mk tl I L rd) rfl rfl ?_
      refine Runs.call (k' := 15) (as := [.ref 16, .int d, .int w, .int (I 1 4)]) (rest := []) (r1 := some (.int (dStand I d w (I 1 4)))) (M1 := mk tl I L rd) rfl rfl rfl (c_dStand tl I L rd d w (I 1 4) (by first | assumption | (have q1 := hasD_rng h1; have q2 := (show 0 ≤ (I 16 0).toInt ∧ (I 16 0).toInt ≤ 40 from by rw [hm, nI_toInt (by omega)]; omega); have q3 := (show 0 ≤ (I 2 0).toInt ∧ (I 2 0).toInt ≤ 12 from by rw [hq, nI_toInt (by omega)]; omega); (try simp only [Bool.and_true, Bool.true_and, Bool.and_eq_true, inb_iff, Int32.lt_iff_toInt_lt, Int32.le_iff_toInt_le, toI_0, toI_1, toI_2, toI_3, toI_4, toI_5, toI_6, toI_7, toI_8, toI_9, toI_10, toI_12, toI_16, toI_18, toI_20, toI_21, toI_23, toI_24, toI_32, toI_36, toI_39, toI_40, toI_48, toI_50, toI_60, toI_64, toI_75, toI_80, toI_100, toI_144, toI_160, toI_200, toI_256, toI_320, toI_380, toI_576, toI_600, toI_1000, toI_1280, toI_2400, toI_9999, toI_10000, toI_100000, toI_1000000, toI_m1, toI_m100000, toI_s9, toI_s8] at hm hb hq hqb hn hn4 hA hC hcr hdr q1 h2 q2 q3  ⊢); omega))) ?_
      exact Runs.ri rfl rfl (by rw [xAbout, if_pos h1, if_pos h2] <;> rfl) (by rw [xAbout, if_pos h1, if_pos h2] <;> rfl)
    · skip
      refine Runs.bl 5 (g := true) (i' := 16) (ls' := [some (.ref 0), some (.int d), some (.int w)]) (st' := [.int w, .int d, .ref 16]) (M' := mk tl I L rd) rfl rfl ?_
      refine Runs.call (k' := 14) (as := [.ref 16, .int d, .int w]) (rest := []) (r1 := some (.int (termOf I d w))) (M1 := mk tl I L rd) rfl rfl rfl (c_termOf tl I L rd d w (by first | assumption | (have q1 := hasD_rng h1; have q2 := (show 0 ≤ (I 16 0).toInt ∧ (I 16 0).toInt ≤ 40 from by rw [hm, nI_toInt (by omega)]; omega); have q3 := (show 0 ≤ (I 2 0).toInt ∧ (I 2 0).toInt ≤ 12 from by rw [hq, nI_toInt (by omega)]; omega); (try simp only [Bool.and_true, Bool.true_and, Bool.and_eq_true, inb_iff, Int32.lt_iff_toInt_lt, Int32.le_iff_toInt_le, toI_0, toI_1, toI_2, toI_3, toI_4, toI_5, toI_6, toI_7, toI_8, toI_9, toI_10, toI_12, toI_16, toI_18, toI_20, toI_21, toI_23, toI_24, toI_32, toI_36, toI_39, toI_40, toI_48, toI_50, toI_60, toI_64, toI_75, toI_80, toI_100, toI_144, toI_160, toI_200, toI_256, toI_320, toI_380, toI_576, toI_600, toI_1000, toI_1280, toI_2400, toI_9999, toI_10000, toI_100000, toI_1000000, toI_m1, toI_m100000, toI_s9, toI_s8] at hm hb hq hqb hn hn4 hA hC hcr hdr q1 h2 q2 q3  ⊢); omega))) ?_
      refine Runs.bl 1 (g := true) (i' := 27) (ls' := [some (.ref 0), some (.int d), some (.int w)]) (st' := [.int (termOf I d w)]) (M' := mk tl I L rd) rfl rfl ?_
      exact Runs.ri rfl rfl (by rw [xAbout, if_pos h1, if_neg h2] <;> rfl) (by rw [xAbout, if_pos h1, if_neg h2] <;> rfl)
  · skip
    refine Runs.bl 1 (g := true) (i' := 7) (ls' := [some (.ref 0), some (.int d), some (.int w)]) (st' := [.int (-100 : Int32)]) (M' := mk tl I L rd) rfl rfl ?_
    exact Runs.ri rfl rfl (by rw [xAbout, if_neg h1] <;> rfl) (by rw [xAbout, if_neg h1] <;> rfl)

def xRow (I : Nat → Nat → Int32) (L : Nat → Nat → Int64) (xa xl : Nat → Nat) (n m q : Nat) (k : Int32) : Int32 × (Nat → Nat → Int32) :=
  if k < 0 then ((-1 : Int32), I) else
  if (I 1 14) ≤ k then ((-1 : Int32), I) else
  (if (12 : Int32) ≤ k then (-1 : Int32) else I 35 k.toNatClampNeg, I)

set_option maxRecDepth 20000 in
theorem c_xRow (tl : List (Nat × Nat)) (I : Nat → Nat → Int32) (L : Nat → Nat → Int64) (rd : Nat → Nat → Option Nat) (xa xl N : Nat → Nat) (n m q : Nat) (k : Int32) (hm : I 16 0 = nI m) (hb : m ≤ 40) (hq : I 2 0 = nI q) (hqb : q ≤ 12) (hn : I 1 3 = nI n) (hn4 : n ≤ 4) (hA : AO tl rd n xa xl N) (hC : AC I n xa N) (hcr : ∀ d, d < m → 0 ≤ (I 18 d).toInt ∧ (I 18 d).toInt < 12) (hdr : ∀ d, d < m → 0 ≤ (I 17 d).toInt ∧ (I 17 d).toInt < 12) : Call 112 [.ref 0, .int k] (mk tl I L rd) (some (.int ((xRow I L xa xl n m q k).1))) (mk tl ((xRow I L xa xl n m q k).2) L rd) := by
  show Runs 112 0 [some (.ref 0), some (.int k)] [] (mk tl I L rd) (some (.int ((xRow I L xa xl n m q k).1))) (mk tl ((xRow I L xa xl n m q k).2) L rd)
  refine Runs.bl 2 (g := true) (i' := if decide (k < 0) = true then 19 else 2) (ls' := [some (.ref 0), some (.int k)]) (st' := []) (M' := mk tl I L rd) rfl rfl ?_
  refine Runs.brP (fun h1 => ?_) (fun h1 => ?_)
  · skip
    refine Runs.bl 1 (g := true) (i' := 20) (ls' := [some (.ref 0), some (.int k)]) (st' := [.int (-1 : Int32)]) (M' := mk tl I L rd) rfl rfl ?_
    exact Runs.ri rfl rfl (by rw [xRow, if_pos h1] <;> rfl) (by rw [xRow, if_pos h1] <;> rfl)
  · skip
    refine Runs.bl 5 (g := true) (i' := if decide ((I 1 14) ≤ k) = true then 19 else 7) (ls' := [some (.ref 0), some (.int k)]) (st' := []) (M' := mk tl I L rd) rfl rfl ?_
    refine Runs.brP (fun h2 => ?_) (fun h2 => ?_)
    · skip
      refine Runs.bl 1 (g := true) (i' := 20) (ls' := [some (.ref 0), some (.int k)]) (st' := [.int (-1 : Int32)]) (M' := mk tl I L rd) rfl rfl ?_
      exact Runs.ri rfl rfl (by rw [xRow, if_neg h1, if_pos h2] <;> rfl) (by rw [xRow, if_neg h1, if_pos h2] <;> rfl)
    · skip
      refine Runs.bl 6 (g := true) (i' := if decide ((12 : Int32) ≤ k) = true then 19 else 13) (ls' := [some (.ref 0), some (.int k)]) (st' := []) (M' := mk tl I L rd) rfl rfl ?_
      refine Runs.dia (P := (12 : Int32) ≤ k) (vT := (-1 : Int32)) (vF := I 35 k.toNatClampNeg) (e := 20) (fun h3 K => ?_) (fun h3 K => ?_) ?_
      · exact Runs.bl 1 (g := true) (i' := 20) (ls' := [some (.ref 0), some (.int k)]) (st' := [.int (-1 : Int32)]) (M' := mk tl I L rd) rfl rfl K
      · exact Runs.bl 6 (g := inb k 12 && true) (i' := 20) (ls' := [some (.ref 0), some (.int k)]) (st' := [.int (I 35 k.toNatClampNeg)]) (M' := mk tl I L rd) rfl (by have q1 := (show 0 ≤ (I 16 0).toInt ∧ (I 16 0).toInt ≤ 40 from by rw [hm, nI_toInt (by omega)]; omega); have q2 := (show 0 ≤ (I 2 0).toInt ∧ (I 2 0).toInt ≤ 12 from by rw [hq, nI_toInt (by omega)]; omega); simp only [Bool.and_true, Bool.true_and, Bool.and_eq_true, inb_iff, Int32.lt_iff_toInt_lt, Int32.le_iff_toInt_le, toI_0, toI_1, toI_2, toI_3, toI_4, toI_5, toI_6, toI_7, toI_8, toI_9, toI_10, toI_12, toI_16, toI_18, toI_20, toI_21, toI_23, toI_24, toI_32, toI_36, toI_39, toI_40, toI_48, toI_50, toI_60, toI_64, toI_75, toI_80, toI_100, toI_144, toI_160, toI_200, toI_256, toI_320, toI_380, toI_576, toI_600, toI_1000, toI_1280, toI_2400, toI_9999, toI_10000, toI_100000, toI_1000000, toI_m1, toI_m100000, toI_s9, toI_s8] at hm hb hq hqb hn hn4 hA hC hcr hdr h1 h2 h3 q1 q2 ⊢; omega) K
      exact Runs.ri rfl rfl (by rw [xRow, if_neg h1, if_neg h2] <;> rfl) (by rw [xRow, if_neg h1, if_neg h2] <;> rfl)

def xEnd (I : Nat → Nat → Int32) (L : Nat → Nat → Int64) (xa xl : Nat → Nat) (n m q : Nat) (e : Int32) : Int32 × (Nat → Nat → Int32) :=
  if (outside I e (0 : Int32) (I 1 10)) = 0 then (e, (up2 I 1 10 e)) else
  ((-1 : Int32), I)

set_option maxRecDepth 20000 in
theorem c_xEnd (tl : List (Nat × Nat)) (I : Nat → Nat → Int32) (L : Nat → Nat → Int64) (rd : Nat → Nat → Option Nat) (xa xl N : Nat → Nat) (n m q : Nat) (e : Int32) (hm : I 16 0 = nI m) (hb : m ≤ 40) (hq : I 2 0 = nI q) (hqb : q ≤ 12) (hn : I 1 3 = nI n) (hn4 : n ≤ 4) (hA : AO tl rd n xa xl N) (hC : AC I n xa N) (hcr : ∀ d, d < m → 0 ≤ (I 18 d).toInt ∧ (I 18 d).toInt < 12) (hdr : ∀ d, d < m → 0 ≤ (I 17 d).toInt ∧ (I 17 d).toInt < 12) : Call 115 [.ref 0, .int e] (mk tl I L rd) (some (.int ((xEnd I L xa xl n m q e).1))) (mk tl ((xEnd I L xa xl n m q e).2) L rd) := by
  show Runs 115 0 [some (.ref 0), some (.int e)] [] (mk tl I L rd) (some (.int ((xEnd I L xa xl n m q e).1))) (mk tl ((xEnd I L xa xl n m q e).2) L rd)
  refine Runs.bl 5 (g := true) (i' := 5) (ls' := [some (.ref 0), some (.int e)]) (st' := [.int (I 1 10), .int (0 : Int32), .int e]) (M' := mk tl I L rd) rfl rfl ?_
  refine Runs.call (k' := 147) (as := [.int e, .int (0 : Int32), .int (I 1 10)]) (rest := []) (r1 := some (.int (outside I e (0 : Int32) (I 1 10)))) (M1 := mk tl I L rd) rfl rfl rfl (c_outside tl I L rd e (0 : Int32) (I 1 10) ) ?_
  refine Runs.bl 1 (g := true) (i' := if decide ((outside I e (0 : Int32) (I 1 10)) = 0) = true then 9 else 7) (ls' := [some (.ref 0), some (.int e)]) (st' := []) (M' := mk tl I L rd) rfl rfl ?_
  refine Runs.brP (fun h1 => ?_) (fun h1 => ?_)
  · skip
    refine Runs.bl 5 (g := true) (i' := 14) (ls' := [some (.ref 0), some (.int e)]) (st' := [.int e]) (M' := mk tl (up2 I 1 10 e) L rd) rfl rfl ?_
    exact Runs.ri rfl rfl (by rw [xEnd, if_pos h1] <;> rfl) (by rw [xEnd, if_pos h1] <;> rfl)
  · skip
    refine Runs.bl 1 (g := true) (i' := 8) (ls' := [some (.ref 0), some (.int e)]) (st' := [.int (-1 : Int32)]) (M' := mk tl I L rd) rfl rfl ?_
    exact Runs.ri rfl rfl (by rw [xEnd, if_neg h1] <;> rfl) (by rw [xEnd, if_neg h1] <;> rfl)

def xFault (I : Nat → Nat → Int32) (L : Nat → Nat → Int64) (xa xl : Nat → Nat) (n m q : Nat) (w : Int32) : Int32 × (Nat → Nat → Int32) :=
  if w = (0 : Int32) then (I 1 11, I) else
  if w = (1 : Int32) then (I 1 12, I) else
  ((-1 : Int32), I)

set_option maxRecDepth 20000 in
theorem c_xFault (tl : List (Nat × Nat)) (I : Nat → Nat → Int32) (L : Nat → Nat → Int64) (rd : Nat → Nat → Option Nat) (xa xl N : Nat → Nat) (n m q : Nat) (w : Int32) (hm : I 16 0 = nI m) (hb : m ≤ 40) (hq : I 2 0 = nI q) (hqb : q ≤ 12) (hn : I 1 3 = nI n) (hn4 : n ≤ 4) (hA : AO tl rd n xa xl N) (hC : AC I n xa N) (hcr : ∀ d, d < m → 0 ≤ (I 18 d).toInt ∧ (I 18 d).toInt < 12) (hdr : ∀ d, d < m → 0 ≤ (I 17 d).toInt ∧ (I 17 d).toInt < 12) : Call 117 [.ref 0, .int w] (mk tl I L rd) (some (.int ((xFault I L xa xl n m q w).1))) (mk tl ((xFault I L xa xl n m q w).2) L rd) := by
  show Runs 117 0 [some (.ref 0), some (.int w)] [] (mk tl I L rd) (some (.int ((xFault I L xa xl n m q w).1))) (mk tl ((xFault I L xa xl n m q w).2) L rd)
  refine Runs.bl 2 (g := true) (i' := swL [(0, 2), (1, 6)] 10 w.toInt) (ls' := [some (.ref 0), some (.int w)]) (st' := []) (M' := mk tl I L rd) rfl rfl ?_
  by_cases h1 : w = (0 : Int32)
  · refine Runs.sw (c := 2) (by rw [h1]; decide) ?_
    refine Runs.bl 3 (g := true) (i' := 5) (ls' := [some (.ref 0), some (.int w)]) (st' := [.int (I 1 11)]) (M' := mk tl I L rd) rfl rfl ?_
    exact Runs.ri rfl rfl (by rw [xFault, if_pos h1] <;> rfl) (by rw [xFault, if_pos h1] <;> rfl)
  by_cases h2 : w = (1 : Int32)
  · refine Runs.sw (c := 6) (by rw [h2]; decide) ?_
    refine Runs.bl 3 (g := true) (i' := 9) (ls' := [some (.ref 0), some (.int w)]) (st' := [.int (I 1 12)]) (M' := mk tl I L rd) rfl rfl ?_
    exact Runs.ri rfl rfl (by rw [xFault, if_neg h1, if_pos h2] <;> rfl) (by rw [xFault, if_neg h1, if_pos h2] <;> rfl)
  refine Runs.sw (c := 10) (by unfold swL; rw [Op.lookupswitch.offset_cons, if_neg (swn h1 (c := 0) (by decide)), Op.lookupswitch.offset_cons, if_neg (swn h2 (c := 1) (by decide))]; rfl) ?_
  refine Runs.bl 1 (g := true) (i' := 11) (ls' := [some (.ref 0), some (.int w)]) (st' := [.int (-1 : Int32)]) (M' := mk tl I L rd) rfl rfl ?_
  exact Runs.ri rfl rfl (by rw [xFault, if_neg h1, if_neg h2] <;> rfl) (by rw [xFault, if_neg h1, if_neg h2] <;> rfl)

def xGood (I : Nat → Nat → Int32) (L : Nat → Nat → Int64) (xa xl : Nat → Nat) (n m q : Nat) (d : Int32) (k : Int32) : Int32 × (Nat → Nat → Int32) :=
  if ¬ (outside I d (0 : Int32) (9999 : Int32)) = 0 then ((-1 : Int32), I) else
  if (outside I k (0 : Int32) (9999 : Int32)) = 0 then (og (gdO I xa d k n), I) else
  ((-1 : Int32), I)

set_option maxRecDepth 20000 in
theorem c_xGood (tl : List (Nat × Nat)) (I : Nat → Nat → Int32) (L : Nat → Nat → Int64) (rd : Nat → Nat → Option Nat) (xa xl N : Nat → Nat) (n m q : Nat) (d : Int32) (k : Int32) (hm : I 16 0 = nI m) (hb : m ≤ 40) (hq : I 2 0 = nI q) (hqb : q ≤ 12) (hn : I 1 3 = nI n) (hn4 : n ≤ 4) (hA : AO tl rd n xa xl N) (hC : AC I n xa N) (hcr : ∀ d, d < m → 0 ≤ (I 18 d).toInt ∧ (I 18 d).toInt < 12) (hdr : ∀ d, d < m → 0 ≤ (I 17 d).toInt ∧ (I 17 d).toInt < 12) : Call 118 [.ref 0, .int d, .int k] (mk tl I L rd) (some (.int ((xGood I L xa xl n m q d k).1))) (mk tl ((xGood I L xa xl n m q d k).2) L rd) := by
  show Runs 118 0 [some (.ref 0), some (.int d), some (.int k)] [] (mk tl I L rd) (some (.int ((xGood I L xa xl n m q d k).1))) (mk tl ((xGood I L xa xl n m q d k).2) L rd)
  refine Runs.bl 3 (g := true) (i' := 3) (ls' := [some (.ref 0), some (.int d), some (.int k)]) (st' := [.int (9999 : Int32), .int (0 : Int32), .int d]) (M' := mk tl I L rd) rfl rfl ?_
  refine Runs.call (k' := 147) (as := [.int d, .int (0 : Int32), .int (9999 : Int32)]) (rest := []) (r1 := some (.int (outside I d (0 : Int32) (9999 : Int32)))) (M1 := mk tl I L rd) rfl rfl rfl (c_outside tl I L rd d (0 : Int32) (9999 : Int32) ) ?_
  refine Runs.bl 1 (g := true) (i' := if decide (¬ (outside I d (0 : Int32) (9999 : Int32)) = 0) = true then 10 else 5) (ls' := [some (.ref 0), some (.int d), some (.int k)]) (st' := []) (M' := mk tl I L rd) rfl rfl ?_
  refine Runs.brP (fun h1 => ?_) (fun h1 => ?_)
  · skip
    refine Runs.bl 1 (g := true) (i' := 11) (ls' := [some (.ref 0), some (.int d), some (.int k)]) (st' := [.int (-1 : Int32)]) (M' := mk tl I L rd) rfl rfl ?_
    exact Runs.ri rfl rfl (by rw [xGood, if_pos h1] <;> rfl) (by rw [xGood, if_pos h1] <;> rfl)
  · skip
    refine Runs.bl 3 (g := true) (i' := 8) (ls' := [some (.ref 0), some (.int d), some (.int k)]) (st' := [.int (9999 : Int32), .int (0 : Int32), .int k]) (M' := mk tl I L rd) rfl rfl ?_
    refine Runs.call (k' := 147) (as := [.int k, .int (0 : Int32), .int (9999 : Int32)]) (rest := []) (r1 := some (.int (outside I k (0 : Int32) (9999 : Int32)))) (M1 := mk tl I L rd) rfl rfl rfl (c_outside tl I L rd k (0 : Int32) (9999 : Int32) ) ?_
    refine Runs.bl 1 (g := true) (i' := if decide ((outside I k (0 : Int32) (9999 : Int32)) = 0) = true then 12 else 10) (ls' := [some (.ref 0), some (.int d), some (.int k)]) (st' := []) (M' := mk tl I L rd) rfl rfl ?_
    refine Runs.brP (fun h2 => ?_) (fun h2 => ?_)
    · skip
      refine Runs.bl 4 (g := true) (i' := 16) (ls' := [some (.ref 0), some (.int d), some (.int k)]) (st' := [.int k, .int d, .ref 1]) (M' := mk tl I L rd) rfl rfl ?_
      refine Runs.call (k' := 30) (as := [.ref 1, .int d, .int k]) (rest := []) (r1 := some (.int (og (gdO I xa d k n)))) (M1 := mk tl I L rd) rfl rfl rfl (c_goodAct tl I L rd d k n xa xl N hn hn4 hA) ?_
      exact Runs.ri rfl rfl (by rw [xGood, if_neg h1, if_pos h2] <;> rfl) (by rw [xGood, if_neg h1, if_pos h2] <;> rfl)
    · skip
      refine Runs.bl 1 (g := true) (i' := 11) (ls' := [some (.ref 0), some (.int d), some (.int k)]) (st' := [.int (-1 : Int32)]) (M' := mk tl I L rd) rfl rfl ?_
      exact Runs.ri rfl rfl (by rw [xGood, if_neg h1, if_neg h2] <;> rfl) (by rw [xGood, if_neg h1, if_neg h2] <;> rfl)

def xTire (I : Nat → Nat → Int32) (L : Nat → Nat → Int64) (xa xl : Nat → Nat) (n m q : Nat) (c : Int32) (d : Int32) : Int32 × (Nat → Nat → Int32) :=
  if (areTwo I c d) = 0 then ((0 : Int32), I) else
  if ¬ (detains I c d) = 0 then ((1 : Int32), (up2 I 12 d.toNatClampNeg ((I 12 d.toNatClampNeg) &&& (((1 : Int32) <<< (c &&& 31)) ^^^ (-1 : Int32))))) else
  ((0 : Int32), I)

set_option maxRecDepth 20000 in
theorem c_xTire (tl : List (Nat × Nat)) (I : Nat → Nat → Int32) (L : Nat → Nat → Int64) (rd : Nat → Nat → Option Nat) (xa xl N : Nat → Nat) (n m q : Nat) (c : Int32) (d : Int32) (hm : I 16 0 = nI m) (hb : m ≤ 40) (hq : I 2 0 = nI q) (hqb : q ≤ 12) (hn : I 1 3 = nI n) (hn4 : n ≤ 4) (hA : AO tl rd n xa xl N) (hC : AC I n xa N) (hcr : ∀ d, d < m → 0 ≤ (I 18 d).toInt ∧ (I 18 d).toInt < 12) (hdr : ∀ d, d < m → 0 ≤ (I 17 d).toInt ∧ (I 17 d).toInt < 12) : Call 122 [.ref 0, .int c, .int d] (mk tl I L rd) (some (.int ((xTire I L xa xl n m q c d).1))) (mk tl ((xTire I L xa xl n m q c d).2) L rd) := by
  show Runs 122 0 [some (.ref 0), some (.int c), some (.int d)] [] (mk tl I L rd) (some (.int ((xTire I L xa xl n m q c d).1))) (mk tl ((xTire I L xa xl n m q c d).2) L rd)
  refine Runs.bl 3 (g := true) (i' := 3) (ls' := [some (.ref 0), some (.int c), some (.int d)]) (st' := [.int d, .int c, .ref 0]) (M' := mk tl I L rd) rfl rfl ?_
  refine Runs.call (k' := 146) (as := [.ref 0, .int c, .int d]) (rest := []) (r1 := some (.int (areTwo I c d))) (M1 := mk tl I L rd) rfl rfl rfl (c_areTwo tl I L rd c d ) ?_
  refine Runs.bl 1 (g := true) (i' := if decide ((areTwo I c d) = 0) = true then 11 else 5) (ls' := [some (.ref 0), some (.int c), some (.int d)]) (st' := []) (M' := mk tl I L rd) rfl rfl ?_
  refine Runs.brP (fun h1 => ?_) (fun h1 => ?_)
  · skip
    refine Runs.bl 1 (g := true) (i' := 12) (ls' := [some (.ref 0), some (.int c), some (.int d)]) (st' := [.int (0 : Int32)]) (M' := mk tl I L rd) rfl rfl ?_
    exact Runs.rz rfl rfl (by decide) (by rw [xTire, if_pos h1] <;> rfl) (by rw [xTire, if_pos h1] <;> rfl)
  · skip
    refine Runs.bl 4 (g := true) (i' := 9) (ls' := [some (.ref 0), some (.int c), some (.int d)]) (st' := [.int d, .int c, .ref 1]) (M' := mk tl I L rd) rfl rfl ?_
    refine Runs.call (k' := 35) (as := [.ref 1, .int c, .int d]) (rest := []) (r1 := some (.int (detains I c d))) (M1 := mk tl I L rd) rfl rfl rfl (c_detains tl I L rd c d (by first | assumption | (have q1 := areTwo_rng h1; have q2 := (show 0 ≤ (I 16 0).toInt ∧ (I 16 0).toInt ≤ 40 from by rw [hm, nI_toInt (by omega)]; omega); have q3 := (show 0 ≤ (I 2 0).toInt ∧ (I 2 0).toInt ≤ 12 from by rw [hq, nI_toInt (by omega)]; omega); (try simp only [Bool.and_true, Bool.true_and, Bool.and_eq_true, inb_iff, Int32.lt_iff_toInt_lt, Int32.le_iff_toInt_le, toI_0, toI_1, toI_2, toI_3, toI_4, toI_5, toI_6, toI_7, toI_8, toI_9, toI_10, toI_12, toI_16, toI_18, toI_20, toI_21, toI_23, toI_24, toI_32, toI_36, toI_39, toI_40, toI_48, toI_50, toI_60, toI_64, toI_75, toI_80, toI_100, toI_144, toI_160, toI_200, toI_256, toI_320, toI_380, toI_576, toI_600, toI_1000, toI_1280, toI_2400, toI_9999, toI_10000, toI_100000, toI_1000000, toI_m1, toI_m100000, toI_s9, toI_s8] at hm hb hq hqb hn hn4 hA hC hcr hdr q1 q2 q3  ⊢); omega))) ?_
    refine Runs.bl 1 (g := true) (i' := if decide (¬ (detains I c d) = 0) = true then 13 else 11) (ls' := [some (.ref 0), some (.int c), some (.int d)]) (st' := []) (M' := mk tl I L rd) rfl rfl ?_
    refine Runs.brP (fun h2 => ?_) (fun h2 => ?_)
    · skip
      refine Runs.bl 15 (g := inb d 12 && (inb d 12 && true)) (i' := 28) (ls' := [some (.ref 0), some (.int c), some (.int d)]) (st' := [.int (1 : Int32)]) (M' := mk tl (up2 I 12 d.toNatClampNeg ((I 12 d.toNatClampNeg) &&& (((1 : Int32) <<< (c &&& 31)) ^^^ (-1 : Int32)))) L rd) rfl (by have q1 := areTwo_rng h1; have q2 := (show 0 ≤ (I 16 0).toInt ∧ (I 16 0).toInt ≤ 40 from by rw [hm, nI_toInt (by omega)]; omega); have q3 := (show 0 ≤ (I 2 0).toInt ∧ (I 2 0).toInt ≤ 12 from by rw [hq, nI_toInt (by omega)]; omega); simp only [Bool.and_true, Bool.true_and, Bool.and_eq_true, inb_iff, Int32.lt_iff_toInt_lt, Int32.le_iff_toInt_le, toI_0, toI_1, toI_2, toI_3, toI_4, toI_5, toI_6, toI_7, toI_8, toI_9, toI_10, toI_12, toI_16, toI_18, toI_20, toI_21, toI_23, toI_24, toI_32, toI_36, toI_39, toI_40, toI_48, toI_50, toI_60, toI_64, toI_75, toI_80, toI_100, toI_144, toI_160, toI_200, toI_256, toI_320, toI_380, toI_576, toI_600, toI_1000, toI_1280, toI_2400, toI_9999, toI_10000, toI_100000, toI_1000000, toI_m1, toI_m100000, toI_s9, toI_s8] at hm hb hq hqb hn hn4 hA hC hcr hdr q1 h2 q2 q3 ⊢; omega) ?_
      exact Runs.rz rfl rfl (by decide) (by rw [xTire, if_neg h1, if_pos h2] <;> rfl) (by rw [xTire, if_neg h1, if_pos h2] <;> rfl)
    · skip
      refine Runs.bl 1 (g := true) (i' := 12) (ls' := [some (.ref 0), some (.int c), some (.int d)]) (st' := [.int (0 : Int32)]) (M' := mk tl I L rd) rfl rfl ?_
      exact Runs.rz rfl rfl (by decide) (by rw [xTire, if_neg h1, if_neg h2] <;> rfl) (by rw [xTire, if_neg h1, if_neg h2] <;> rfl)

def xLeave (I : Nat → Nat → Int32) (L : Nat → Nat → Int64) (xa xl : Nat → Nat) (n m q : Nat) (p : Int32) : Int32 × (Nat → Nat → Int32) :=
  if (isHeld I p) = 0 then ((0 : Int32), I) else
  if ¬ (I 12 p.toNatClampNeg) = 0 then ((0 : Int32), I) else
  if (I 8 p.toNatClampNeg) = 0 then (if (I 7 p.toNatClampNeg) ≤ (I 3 p.toNatClampNeg) then ((1 : Int32), (letGo (up2 (up2 I 3 p.toNatClampNeg ((I 3 p.toNatClampNeg) - (I 7 p.toNatClampNeg))) 1 6 ((I 1 6) + (I 7 p.toNatClampNeg))) p)) else
    ((0 : Int32), I)) else
  ((0 : Int32), I)

set_option maxRecDepth 20000 in
theorem c_xLeave (tl : List (Nat × Nat)) (I : Nat → Nat → Int32) (L : Nat → Nat → Int64) (rd : Nat → Nat → Option Nat) (xa xl N : Nat → Nat) (n m q : Nat) (p : Int32) (hm : I 16 0 = nI m) (hb : m ≤ 40) (hq : I 2 0 = nI q) (hqb : q ≤ 12) (hn : I 1 3 = nI n) (hn4 : n ≤ 4) (hA : AO tl rd n xa xl N) (hC : AC I n xa N) (hcr : ∀ d, d < m → 0 ≤ (I 18 d).toInt ∧ (I 18 d).toInt < 12) (hdr : ∀ d, d < m → 0 ≤ (I 17 d).toInt ∧ (I 17 d).toInt < 12) : Call 123 [.ref 0, .int p] (mk tl I L rd) (some (.int ((xLeave I L xa xl n m q p).1))) (mk tl ((xLeave I L xa xl n m q p).2) L rd) := by
  show Runs 123 0 [some (.ref 0), some (.int p), none, none] [] (mk tl I L rd) (some (.int ((xLeave I L xa xl n m q p).1))) (mk tl ((xLeave I L xa xl n m q p).2) L rd)
  refine Runs.bl 6 (g := true) (i' := 6) (ls' := [some (.ref 0), some (.int p), some (.ref 2), none]) (st' := [.int p, .ref 2]) (M' := mk tl I L rd) rfl rfl ?_
  refine Runs.call (k' := 56) (as := [.ref 2, .int p]) (rest := []) (r1 := some (.int (isHeld I p))) (M1 := mk tl I L rd) rfl rfl rfl (c_isHeld tl I L rd p ) ?_
  refine Runs.bl 1 (g := true) (i' := if decide ((isHeld I p) = 0) = true then 18 else 8) (ls' := [some (.ref 0), some (.int p), some (.ref 2), none]) (st' := []) (M' := mk tl I L rd) rfl rfl ?_
  refine Runs.brP (fun h1 => ?_) (fun h1 => ?_)
  · skip
    refine Runs.bl 1 (g := true) (i' := 19) (ls' := [some (.ref 0), some (.int p), some (.ref 2), none]) (st' := [.int (0 : Int32)]) (M' := mk tl I L rd) rfl rfl ?_
    exact Runs.rz rfl rfl (by decide) (by rw [xLeave, if_pos h1] <;> rfl) (by rw [xLeave, if_pos h1] <;> rfl)
  · skip
    refine Runs.bl 5 (g := inb p 12 && true) (i' := if decide (¬ (I 12 p.toNatClampNeg) = 0) = true then 18 else 13) (ls' := [some (.ref 0), some (.int p), some (.ref 2), none]) (st' := []) (M' := mk tl I L rd) rfl (by have q1 := isHeld_rng h1; have q2 := (show 0 ≤ (I 16 0).toInt ∧ (I 16 0).toInt ≤ 40 from by rw [hm, nI_toInt (by omega)]; omega); have q3 := (show 0 ≤ (I 2 0).toInt ∧ (I 2 0).toInt ≤ 12 from by rw [hq, nI_toInt (by omega)]; omega); simp only [Bool.and_true, Bool.true_and, Bool.and_eq_true, inb_iff, Int32.lt_iff_toInt_lt, Int32.le_iff_toInt_le, toI_0, toI_1, toI_2, toI_3, toI_4, toI_5, toI_6, toI_7, toI_8, toI_9, toI_10, toI_12, toI_16, toI_18, toI_20, toI_21, toI_23, toI_24, toI_32, toI_36, toI_39, toI_40, toI_48, toI_50, toI_60, toI_64, toI_75, toI_80, toI_100, toI_144, toI_160, toI_200, toI_256, toI_320, toI_380, toI_576, toI_600, toI_1000, toI_1280, toI_2400, toI_9999, toI_10000, toI_100000, toI_1000000, toI_m1, toI_m100000, toI_s9, toI_s8] at hm hb hq hqb hn hn4 hA hC hcr hdr q1 q2 q3 ⊢; omega) ?_
    refine Runs.brP (fun h2 => ?_) (fun h2 => ?_)
    · skip
      refine Runs.bl 1 (g := true) (i' := 19) (ls' := [some (.ref 0), some (.int p), some (.ref 2), none]) (st' := [.int (0 : Int32)]) (M' := mk tl I L rd) rfl rfl ?_
      exact Runs.rz rfl rfl (by decide) (by rw [xLeave, if_neg h1, if_pos h2] <;> rfl) (by rw [xLeave, if_neg h1, if_pos h2] <;> rfl)
    · skip
      refine Runs.bl 5 (g := inb p 12 && true) (i' := if decide ((I 8 p.toNatClampNeg) = 0) = true then 20 else 18) (ls' := [some (.ref 0), some (.int p), some (.ref 2), none]) (st' := []) (M' := mk tl I L rd) rfl (by have q1 := isHeld_rng h1; have q2 := (show 0 ≤ (I 16 0).toInt ∧ (I 16 0).toInt ≤ 40 from by rw [hm, nI_toInt (by omega)]; omega); have q3 := (show 0 ≤ (I 2 0).toInt ∧ (I 2 0).toInt ≤ 12 from by rw [hq, nI_toInt (by omega)]; omega); simp only [Bool.and_true, Bool.true_and, Bool.and_eq_true, inb_iff, Int32.lt_iff_toInt_lt, Int32.le_iff_toInt_le, toI_0, toI_1, toI_2, toI_3, toI_4, toI_5, toI_6, toI_7, toI_8, toI_9, toI_10, toI_12, toI_16, toI_18, toI_20, toI_21, toI_23, toI_24, toI_32, toI_36, toI_39, toI_40, toI_48, toI_50, toI_60, toI_64, toI_75, toI_80, toI_100, toI_144, toI_160, toI_200, toI_256, toI_320, toI_380, toI_576, toI_600, toI_1000, toI_1280, toI_2400, toI_9999, toI_10000, toI_100000, toI_1000000, toI_m1, toI_m100000, toI_s9, toI_s8] at hm hb hq hqb hn hn4 hA hC hcr hdr q1 h2 q2 q3 ⊢; omega) ?_
      refine Runs.brP (fun h3 => ?_) (fun h3 => ?_)
      · skip
        refine Runs.bl 11 (g := inb p 12 && (inb p 12 && true)) (i' := if decide ((I 7 p.toNatClampNeg) ≤ (I 3 p.toNatClampNeg)) = true then 33 else 31) (ls' := [some (.ref 0), some (.int p), some (.ref 2), some (.int (I 7 p.toNatClampNeg))]) (st' := []) (M' := mk tl I L rd) rfl (by have q1 := isHeld_rng h1; have q2 := (show 0 ≤ (I 16 0).toInt ∧ (I 16 0).toInt ≤ 40 from by rw [hm, nI_toInt (by omega)]; omega); have q3 := (show 0 ≤ (I 2 0).toInt ∧ (I 2 0).toInt ≤ 12 from by rw [hq, nI_toInt (by omega)]; omega); simp only [Bool.and_true, Bool.true_and, Bool.and_eq_true, inb_iff, Int32.lt_iff_toInt_lt, Int32.le_iff_toInt_le, toI_0, toI_1, toI_2, toI_3, toI_4, toI_5, toI_6, toI_7, toI_8, toI_9, toI_10, toI_12, toI_16, toI_18, toI_20, toI_21, toI_23, toI_24, toI_32, toI_36, toI_39, toI_40, toI_48, toI_50, toI_60, toI_64, toI_75, toI_80, toI_100, toI_144, toI_160, toI_200, toI_256, toI_320, toI_380, toI_576, toI_600, toI_1000, toI_1280, toI_2400, toI_9999, toI_10000, toI_100000, toI_1000000, toI_m1, toI_m100000, toI_s9, toI_s8] at hm hb hq hqb hn hn4 hA hC hcr hdr q1 h2 h3 q2 q3 ⊢; omega) ?_
        refine Runs.brP (fun h4 => ?_) (fun h4 => ?_)
        · skip
          refine Runs.bl 17 (g := inb p 12 && (inb p 12 && true)) (i' := 50) (ls' := [some (.ref 0), some (.int p), some (.ref 2), some (.int (I 7 p.toNatClampNeg))]) (st' := [.int p, .ref 2]) (M' := mk tl (up2 (up2 I 3 p.toNatClampNeg ((I 3 p.toNatClampNeg) - (I 7 p.toNatClampNeg))) 1 6 ((I 1 6) + (I 7 p.toNatClampNeg))) L rd) rfl (by have q1 := isHeld_rng h1; have q2 := (show 0 ≤ (I 16 0).toInt ∧ (I 16 0).toInt ≤ 40 from by rw [hm, nI_toInt (by omega)]; omega); have q3 := (show 0 ≤ (I 2 0).toInt ∧ (I 2 0).toInt ≤ 12 from by rw [hq, nI_toInt (by omega)]; omega); simp only [Bool.and_true, Bool.true_and, Bool.and_eq_true, inb_iff, Int32.lt_iff_toInt_lt, Int32.le_iff_toInt_le, toI_0, toI_1, toI_2, toI_3, toI_4, toI_5, toI_6, toI_7, toI_8, toI_9, toI_10, toI_12, toI_16, toI_18, toI_20, toI_21, toI_23, toI_24, toI_32, toI_36, toI_39, toI_40, toI_48, toI_50, toI_60, toI_64, toI_75, toI_80, toI_100, toI_144, toI_160, toI_200, toI_256, toI_320, toI_380, toI_576, toI_600, toI_1000, toI_1280, toI_2400, toI_9999, toI_10000, toI_100000, toI_1000000, toI_m1, toI_m100000, toI_s9, toI_s8] at hm hb hq hqb hn hn4 hA hC hcr hdr q1 h2 h3 h4 q2 q3 ⊢; omega) ?_
          refine Runs.call (k' := 59) (as := [.ref 2, .int p]) (rest := []) (r1 := none) (M1 := mk tl (letGo (up2 (up2 I 3 p.toNatClampNeg ((I 3 p.toNatClampNeg) - (I 7 p.toNatClampNeg))) 1 6 ((I 1 6) + (I 7 p.toNatClampNeg))) p) L rd) rfl rfl rfl (c_letGo tl (up2 (up2 I 3 p.toNatClampNeg ((I 3 p.toNatClampNeg) - (I 7 p.toNatClampNeg))) 1 6 ((I 1 6) + (I 7 p.toNatClampNeg))) L rd p (by first | assumption | (have q1 := isHeld_rng h1; have q2 := (show 0 ≤ (I 16 0).toInt ∧ (I 16 0).toInt ≤ 40 from by rw [hm, nI_toInt (by omega)]; omega); have q3 := (show 0 ≤ (I 2 0).toInt ∧ (I 2 0).toInt ≤ 12 from by rw [hq, nI_toInt (by omega)]; omega); (try simp only [Bool.and_true, Bool.true_and, Bool.and_eq_true, inb_iff, Int32.lt_iff_toInt_lt, Int32.le_iff_toInt_le, toI_0, toI_1, toI_2, toI_3, toI_4, toI_5, toI_6, toI_7, toI_8, toI_9, toI_10, toI_12, toI_16, toI_18, toI_20, toI_21, toI_23, toI_24, toI_32, toI_36, toI_39, toI_40, toI_48, toI_50, toI_60, toI_64, toI_75, toI_80, toI_100, toI_144, toI_160, toI_200, toI_256, toI_320, toI_380, toI_576, toI_600, toI_1000, toI_1280, toI_2400, toI_9999, toI_10000, toI_100000, toI_1000000, toI_m1, toI_m100000, toI_s9, toI_s8] at hm hb hq hqb hn hn4 hA hC hcr hdr q1 h2 h3 h4 q2 q3  ⊢); omega))) ?_
          refine Runs.bl 1 (g := true) (i' := 52) (ls' := [some (.ref 0), some (.int p), some (.ref 2), some (.int (I 7 p.toNatClampNeg))]) (st' := [.int (1 : Int32)]) (M' := mk tl (letGo (up2 (up2 I 3 p.toNatClampNeg ((I 3 p.toNatClampNeg) - (I 7 p.toNatClampNeg))) 1 6 ((I 1 6) + (I 7 p.toNatClampNeg))) p) L rd) rfl rfl ?_
          exact Runs.rz rfl rfl (by decide) (by rw [xLeave, if_neg h1, if_neg h2, if_pos h3, if_pos h4] <;> rfl) (by rw [xLeave, if_neg h1, if_neg h2, if_pos h3, if_pos h4] <;> rfl)
        · skip
          refine Runs.bl 1 (g := true) (i' := 32) (ls' := [some (.ref 0), some (.int p), some (.ref 2), some (.int (I 7 p.toNatClampNeg))]) (st' := [.int (0 : Int32)]) (M' := mk tl I L rd) rfl rfl ?_
          exact Runs.rz rfl rfl (by decide) (by rw [xLeave, if_neg h1, if_neg h2, if_pos h3, if_neg h4] <;> rfl) (by rw [xLeave, if_neg h1, if_neg h2, if_pos h3, if_neg h4] <;> rfl)
      · skip
        refine Runs.bl 1 (g := true) (i' := 19) (ls' := [some (.ref 0), some (.int p), some (.ref 2), none]) (st' := [.int (0 : Int32)]) (M' := mk tl I L rd) rfl rfl ?_
        exact Runs.rz rfl rfl (by decide) (by rw [xLeave, if_neg h1, if_neg h2, if_neg h3] <;> rfl) (by rw [xLeave, if_neg h1, if_neg h2, if_neg h3] <;> rfl)

def xRoom (I : Nat → Nat → Int32) (L : Nat → Nat → Int64) (xa xl : Nat → Nat) (n m q : Nat) (p : Int32) (r : Int32) : Int32 × (Nat → Nat → Int32) :=
  if (isHeld I p) = 0 then ((0 : Int32), I) else
  if (outside I r (0 : Int32) (3 : Int32)) = 0 then ((1 : Int32), (up2 I 6 p.toNatClampNeg r)) else
  ((0 : Int32), I)

set_option maxRecDepth 20000 in
theorem c_xRoom (tl : List (Nat × Nat)) (I : Nat → Nat → Int32) (L : Nat → Nat → Int64) (rd : Nat → Nat → Option Nat) (xa xl N : Nat → Nat) (n m q : Nat) (p : Int32) (r : Int32) (hm : I 16 0 = nI m) (hb : m ≤ 40) (hq : I 2 0 = nI q) (hqb : q ≤ 12) (hn : I 1 3 = nI n) (hn4 : n ≤ 4) (hA : AO tl rd n xa xl N) (hC : AC I n xa N) (hcr : ∀ d, d < m → 0 ≤ (I 18 d).toInt ∧ (I 18 d).toInt < 12) (hdr : ∀ d, d < m → 0 ≤ (I 17 d).toInt ∧ (I 17 d).toInt < 12) : Call 124 [.ref 0, .int p, .int r] (mk tl I L rd) (some (.int ((xRoom I L xa xl n m q p r).1))) (mk tl ((xRoom I L xa xl n m q p r).2) L rd) := by
  show Runs 124 0 [some (.ref 0), some (.int p), some (.int r)] [] (mk tl I L rd) (some (.int ((xRoom I L xa xl n m q p r).1))) (mk tl ((xRoom I L xa xl n m q p r).2) L rd)
  refine Runs.bl 4 (g := true) (i' := 4) (ls' := [some (.ref 0), some (.int p), some (.int r)]) (st' := [.int p, .ref 2]) (M' := mk tl I L rd) rfl rfl ?_
  refine Runs.call (k' := 56) (as := [.ref 2, .int p]) (rest := []) (r1 := some (.int (isHeld I p))) (M1 := mk tl I L rd) rfl rfl rfl (c_isHeld tl I L rd p ) ?_
  refine Runs.bl 1 (g := true) (i' := if decide ((isHeld I p) = 0) = true then 11 else 6) (ls' := [some (.ref 0), some (.int p), some (.int r)]) (st' := []) (M' := mk tl I L rd) rfl rfl ?_
  refine Runs.brP (fun h1 => ?_) (fun h1 => ?_)
  · skip
    refine Runs.bl 1 (g := true) (i' := 12) (ls' := [some (.ref 0), some (.int p), some (.int r)]) (st' := [.int (0 : Int32)]) (M' := mk tl I L rd) rfl rfl ?_
    exact Runs.rz rfl rfl (by decide) (by rw [xRoom, if_pos h1] <;> rfl) (by rw [xRoom, if_pos h1] <;> rfl)
  · skip
    refine Runs.bl 3 (g := true) (i' := 9) (ls' := [some (.ref 0), some (.int p), some (.int r)]) (st' := [.int (3 : Int32), .int (0 : Int32), .int r]) (M' := mk tl I L rd) rfl rfl ?_
    refine Runs.call (k' := 147) (as := [.int r, .int (0 : Int32), .int (3 : Int32)]) (rest := []) (r1 := some (.int (outside I r (0 : Int32) (3 : Int32)))) (M1 := mk tl I L rd) rfl rfl rfl (c_outside tl I L rd r (0 : Int32) (3 : Int32) ) ?_
    refine Runs.bl 1 (g := true) (i' := if decide ((outside I r (0 : Int32) (3 : Int32)) = 0) = true then 13 else 11) (ls' := [some (.ref 0), some (.int p), some (.int r)]) (st' := []) (M' := mk tl I L rd) rfl rfl ?_
    refine Runs.brP (fun h2 => ?_) (fun h2 => ?_)
    · skip
      refine Runs.bl 8 (g := inb p 12 && true) (i' := 21) (ls' := [some (.ref 0), some (.int p), some (.int r)]) (st' := [.int (1 : Int32)]) (M' := mk tl (up2 I 6 p.toNatClampNeg r) L rd) rfl (by have q1 := isHeld_rng h1; have q2 := outside_rng h2; have q3 := (show 0 ≤ (I 16 0).toInt ∧ (I 16 0).toInt ≤ 40 from by rw [hm, nI_toInt (by omega)]; omega); have q4 := (show 0 ≤ (I 2 0).toInt ∧ (I 2 0).toInt ≤ 12 from by rw [hq, nI_toInt (by omega)]; omega); simp only [Bool.and_true, Bool.true_and, Bool.and_eq_true, inb_iff, Int32.lt_iff_toInt_lt, Int32.le_iff_toInt_le, toI_0, toI_1, toI_2, toI_3, toI_4, toI_5, toI_6, toI_7, toI_8, toI_9, toI_10, toI_12, toI_16, toI_18, toI_20, toI_21, toI_23, toI_24, toI_32, toI_36, toI_39, toI_40, toI_48, toI_50, toI_60, toI_64, toI_75, toI_80, toI_100, toI_144, toI_160, toI_200, toI_256, toI_320, toI_380, toI_576, toI_600, toI_1000, toI_1280, toI_2400, toI_9999, toI_10000, toI_100000, toI_1000000, toI_m1, toI_m100000, toI_s9, toI_s8] at hm hb hq hqb hn hn4 hA hC hcr hdr q1 q2 q3 q4 ⊢; omega) ?_
      exact Runs.rz rfl rfl (by decide) (by rw [xRoom, if_neg h1, if_pos h2] <;> rfl) (by rw [xRoom, if_neg h1, if_pos h2] <;> rfl)
    · skip
      refine Runs.bl 1 (g := true) (i' := 12) (ls' := [some (.ref 0), some (.int p), some (.int r)]) (st' := [.int (0 : Int32)]) (M' := mk tl I L rd) rfl rfl ?_
      exact Runs.rz rfl rfl (by decide) (by rw [xRoom, if_neg h1, if_neg h2] <;> rfl) (by rw [xRoom, if_neg h1, if_neg h2] <;> rfl)

def xTurn (I : Nat → Nat → Int32) (L : Nat → Nat → Int64) (xa xl : Nat → Nat) (n m q : Nat) : Int32 × (Nat → Nat → Int32) :=
  (turn_it I L q, I)

set_option maxRecDepth 20000 in
theorem c_xTurn (tl : List (Nat × Nat)) (I : Nat → Nat → Int32) (L : Nat → Nat → Int64) (rd : Nat → Nat → Option Nat) (xa xl N : Nat → Nat) (n m q : Nat) (hm : I 16 0 = nI m) (hb : m ≤ 40) (hq : I 2 0 = nI q) (hqb : q ≤ 12) (hn : I 1 3 = nI n) (hn4 : n ≤ 4) (hA : AO tl rd n xa xl N) (hC : AC I n xa N) (hcr : ∀ d, d < m → 0 ≤ (I 18 d).toInt ∧ (I 18 d).toInt < 12) (hdr : ∀ d, d < m → 0 ≤ (I 17 d).toInt ∧ (I 17 d).toInt < 12) : Call 128 [.ref 0] (mk tl I L rd) (some (.int ((xTurn I L xa xl n m q).1))) (mk tl ((xTurn I L xa xl n m q).2) L rd) := by
  show Runs 128 0 [some (.ref 0)] [] (mk tl I L rd) (some (.int ((xTurn I L xa xl n m q).1))) (mk tl ((xTurn I L xa xl n m q).2) L rd)
  refine Runs.bl 3 (g := true) (i' := 3) (ls' := [some (.ref 0)]) (st' := [.ref 2]) (M' := mk tl I L rd) rfl rfl ?_
  refine Runs.call (k' := 60) (as := [.ref 2]) (rest := []) (r1 := some (.int (turn_it I L q))) (M1 := mk tl I L rd) rfl rfl rfl (c_turn tl I L rd q hq hqb) ?_
  exact Runs.ri rfl rfl (rfl) (rfl)

def xAlms (I : Nat → Nat → Int32) (L : Nat → Nat → Int64) (xa xl : Nat → Nat) (n m q : Nat) (c : Int32) : Int32 × (Nat → Nat → Int32) :=
  if (turn_it I L q) = (-1 : Int32) then ((-1 : Int32), I) else
  if (outside I c (1 : Int32) (10000 : Int32)) = 0 then (turn_it I L q, (up2 I 3 ((turn_it I L q).toNatClampNeg) ((I 3 ((turn_it I L q).toNatClampNeg)) + c))) else
  ((-1 : Int32), I)

set_option maxRecDepth 20000 in
theorem c_xAlms (tl : List (Nat × Nat)) (I : Nat → Nat → Int32) (L : Nat → Nat → Int64) (rd : Nat → Nat → Option Nat) (xa xl N : Nat → Nat) (n m q : Nat) (c : Int32) (hm : I 16 0 = nI m) (hb : m ≤ 40) (hq : I 2 0 = nI q) (hqb : q ≤ 12) (hn : I 1 3 = nI n) (hn4 : n ≤ 4) (hA : AO tl rd n xa xl N) (hC : AC I n xa N) (hcr : ∀ d, d < m → 0 ≤ (I 18 d).toInt ∧ (I 18 d).toInt < 12) (hdr : ∀ d, d < m → 0 ≤ (I 17 d).toInt ∧ (I 17 d).toInt < 12) : Call 129 [.ref 0, .int c] (mk tl I L rd) (some (.int ((xAlms I L xa xl n m q c).1))) (mk tl ((xAlms I L xa xl n m q c).2) L rd) := by
  show Runs 129 0 [some (.ref 0), some (.int c), none] [] (mk tl I L rd) (some (.int ((xAlms I L xa xl n m q c).1))) (mk tl ((xAlms I L xa xl n m q c).2) L rd)
  refine Runs.bl 3 (g := true) (i' := 3) (ls' := [some (.ref 0), some (.int c), none]) (st' := [.ref 2]) (M' := mk tl I L rd) rfl rfl ?_
  refine Runs.call (k' := 60) (as := [.ref 2]) (rest := []) (r1 := some (.int (turn_it I L q))) (M1 := mk tl I L rd) rfl rfl rfl (c_turn tl I L rd q hq hqb) ?_
  refine Runs.bl 4 (g := true) (i' := if decide ((turn_it I L q) = (-1 : Int32)) = true then 13 else 8) (ls' := [some (.ref 0), some (.int c), some (.int (turn_it I L q))]) (st' := []) (M' := mk tl I L rd) rfl rfl ?_
  refine Runs.brP (fun h1 => ?_) (fun h1 => ?_)
  · skip
    refine Runs.bl 1 (g := true) (i' := 14) (ls' := [some (.ref 0), some (.int c), some (.int (turn_it I L q))]) (st' := [.int (-1 : Int32)]) (M' := mk tl I L rd) rfl rfl ?_
    exact Runs.ri rfl rfl (by rw [xAlms, if_pos h1] <;> rfl) (by rw [xAlms, if_pos h1] <;> rfl)
  · skip
    refine Runs.bl 3 (g := true) (i' := 11) (ls' := [some (.ref 0), some (.int c), some (.int (turn_it I L q))]) (st' := [.int (10000 : Int32), .int (1 : Int32), .int c]) (M' := mk tl I L rd) rfl rfl ?_
    refine Runs.call (k' := 147) (as := [.int c, .int (1 : Int32), .int (10000 : Int32)]) (rest := []) (r1 := some (.int (outside I c (1 : Int32) (10000 : Int32)))) (M1 := mk tl I L rd) rfl rfl rfl (c_outside tl I L rd c (1 : Int32) (10000 : Int32) ) ?_
    refine Runs.bl 1 (g := true) (i' := if decide ((outside I c (1 : Int32) (10000 : Int32)) = 0) = true then 15 else 13) (ls' := [some (.ref 0), some (.int c), some (.int (turn_it I L q))]) (st' := []) (M' := mk tl I L rd) rfl rfl ?_
    refine Runs.brP (fun h2 => ?_) (fun h2 => ?_)
    · skip
      refine Runs.bl 11 (g := inb (turn_it I L q) 12 && (inb (turn_it I L q) 12 && true)) (i' := 26) (ls' := [some (.ref 0), some (.int c), some (.int (turn_it I L q))]) (st' := [.int (turn_it I L q)]) (M' := mk tl (up2 I 3 ((turn_it I L q).toNatClampNeg) ((I 3 ((turn_it I L q).toNatClampNeg)) + c)) L rd) rfl (by have q1 := turn_rng (by omega) h1; have q2 := outside_rng h2; have q3 := (show 0 ≤ (I 16 0).toInt ∧ (I 16 0).toInt ≤ 40 from by rw [hm, nI_toInt (by omega)]; omega); have q4 := (show 0 ≤ (I 2 0).toInt ∧ (I 2 0).toInt ≤ 12 from by rw [hq, nI_toInt (by omega)]; omega); simp only [Bool.and_true, Bool.true_and, Bool.and_eq_true, inb_iff, Int32.lt_iff_toInt_lt, Int32.le_iff_toInt_le, toI_0, toI_1, toI_2, toI_3, toI_4, toI_5, toI_6, toI_7, toI_8, toI_9, toI_10, toI_12, toI_16, toI_18, toI_20, toI_21, toI_23, toI_24, toI_32, toI_36, toI_39, toI_40, toI_48, toI_50, toI_60, toI_64, toI_75, toI_80, toI_100, toI_144, toI_160, toI_200, toI_256, toI_320, toI_380, toI_576, toI_600, toI_1000, toI_1280, toI_2400, toI_9999, toI_10000, toI_100000, toI_1000000, toI_m1, toI_m100000, toI_s9, toI_s8] at hm hb hq hqb hn hn4 hA hC hcr hdr q1 q2 q3 q4 ⊢; omega) ?_
      exact Runs.ri rfl rfl (by rw [xAlms, if_neg h1, if_pos h2] <;> rfl) (by rw [xAlms, if_neg h1, if_pos h2] <;> rfl)
    · skip
      refine Runs.bl 1 (g := true) (i' := 14) (ls' := [some (.ref 0), some (.int c), some (.int (turn_it I L q))]) (st' := [.int (-1 : Int32)]) (M' := mk tl I L rd) rfl rfl ?_
      exact Runs.ri rfl rfl (by rw [xAlms, if_neg h1, if_neg h2] <;> rfl) (by rw [xAlms, if_neg h1, if_neg h2] <;> rfl)

def xTell (I : Nat → Nat → Int32) (L : Nat → Nat → Int64) (xa xl : Nat → Nat) (n m q : Nat) (p : Int32) (w : Int32) : Int32 × (Nat → Nat → Int32) :=
  if ¬ (hasP I p) = 0 then (if w = (11 : Int32) then (dueBy_it I L p m, I) else
    if w = (12 : Int32) then (dueTo_it I L p m, I) else
    (pStand I p w, I)) else
  ((-100 : Int32), I)

set_option maxRecDepth 20000 in
theorem c_xTell (tl : List (Nat × Nat)) (I : Nat → Nat → Int32) (L : Nat → Nat → Int64) (rd : Nat → Nat → Option Nat) (xa xl N : Nat → Nat) (n m q : Nat) (p : Int32) (w : Int32) (hm : I 16 0 = nI m) (hb : m ≤ 40) (hq : I 2 0 = nI q) (hqb : q ≤ 12) (hn : I 1 3 = nI n) (hn4 : n ≤ 4) (hA : AO tl rd n xa xl N) (hC : AC I n xa N) (hcr : ∀ d, d < m → 0 ≤ (I 18 d).toInt ∧ (I 18 d).toInt < 12) (hdr : ∀ d, d < m → 0 ≤ (I 17 d).toInt ∧ (I 17 d).toInt < 12) : Call 130 [.ref 0, .int p, .int w] (mk tl I L rd) (some (.int ((xTell I L xa xl n m q p w).1))) (mk tl ((xTell I L xa xl n m q p w).2) L rd) := by
  show Runs 130 0 [some (.ref 0), some (.int p), some (.int w)] [] (mk tl I L rd) (some (.int ((xTell I L xa xl n m q p w).1))) (mk tl ((xTell I L xa xl n m q p w).2) L rd)
  refine Runs.bl 4 (g := true) (i' := 4) (ls' := [some (.ref 0), some (.int p), some (.int w)]) (st' := [.int p, .ref 2]) (M' := mk tl I L rd) rfl rfl ?_
  refine Runs.call (k' := 55) (as := [.ref 2, .int p]) (rest := []) (r1 := some (.int (hasP I p))) (M1 := mk tl I L rd) rfl rfl rfl (c_hasP tl I L rd p ) ?_
  refine Runs.bl 1 (g := true) (i' := if decide (¬ (hasP I p) = 0) = true then 8 else 6) (ls' := [some (.ref 0), some (.int p), some (.int w)]) (st' := []) (M' := mk tl I L rd) rfl rfl ?_
  refine Runs.brP (fun h1 => ?_) (fun h1 => ?_)
  · skip
    refine Runs.bl 2 (g := true) (i' := swL [(11, 10), (12, 15)] 20 w.toInt) (ls' := [some (.ref 0), some (.int p), some (.int w)]) (st' := []) (M' := mk tl I L rd) rfl rfl ?_
    by_cases h2 : w = (11 : Int32)
    · refine Runs.sw (c := 10) (by rw [h2]; decide) ?_
      refine Runs.bl 3 (g := true) (i' := 13) (ls' := [some (.ref 0), some (.int p), some (.int w)]) (st' := [.int p, .ref 1]) (M' := mk tl I L rd) rfl rfl ?_
      refine Runs.call (k' := 32) (as := [.ref 1, .int p]) (rest := []) (r1 := some (.int (dueBy_it I L p m))) (M1 := mk tl I L rd) rfl rfl rfl (c_dueBy tl I L rd p m hm hb) ?_
      exact Runs.ri rfl rfl (by rw [xTell, if_pos h1, if_pos h2] <;> rfl) (by rw [xTell, if_pos h1, if_pos h2] <;> rfl)
    by_cases h3 : w = (12 : Int32)
    · refine Runs.sw (c := 15) (by rw [h3]; decide) ?_
      refine Runs.bl 3 (g := true) (i' := 18) (ls' := [some (.ref 0), some (.int p), some (.int w)]) (st' := [.int p, .ref 1]) (M' := mk tl I L rd) rfl rfl ?_
      refine Runs.call (k' := 33) (as := [.ref 1, .int p]) (rest := []) (r1 := some (.int (dueTo_it I L p m))) (M1 := mk tl I L rd) rfl rfl rfl (c_dueTo tl I L rd p m hm hb) ?_
      exact Runs.ri rfl rfl (by rw [xTell, if_pos h1, if_neg h2, if_pos h3] <;> rfl) (by rw [xTell, if_pos h1, if_neg h2, if_pos h3] <;> rfl)
    refine Runs.sw (c := 20) (by unfold swL; rw [Op.lookupswitch.offset_cons, if_neg (swn h2 (c := 11) (by decide)), Op.lookupswitch.offset_cons, if_neg (swn h3 (c := 12) (by decide))]; rfl) ?_
    refine Runs.bl 5 (g := true) (i' := 25) (ls' := [some (.ref 0), some (.int p), some (.int w)]) (st' := [.int w, .int p, .ref 2]) (M' := mk tl I L rd) rfl rfl ?_
    refine Runs.call (k' := 62) (as := [.ref 2, .int p, .int w]) (rest := []) (r1 := some (.int (pStand I p w))) (M1 := mk tl I L rd) rfl rfl rfl (c_pStand tl I L rd p w (by first | assumption | (have q1 := hasP_rng h1; have q2 := (show 0 ≤ (I 16 0).toInt ∧ (I 16 0).toInt ≤ 40 from by rw [hm, nI_toInt (by omega)]; omega); have q3 := (show 0 ≤ (I 2 0).toInt ∧ (I 2 0).toInt ≤ 12 from by rw [hq, nI_toInt (by omega)]; omega); (try simp only [Bool.and_true, Bool.true_and, Bool.and_eq_true, inb_iff, Int32.lt_iff_toInt_lt, Int32.le_iff_toInt_le, toI_0, toI_1, toI_2, toI_3, toI_4, toI_5, toI_6, toI_7, toI_8, toI_9, toI_10, toI_12, toI_16, toI_18, toI_20, toI_21, toI_23, toI_24, toI_32, toI_36, toI_39, toI_40, toI_48, toI_50, toI_60, toI_64, toI_75, toI_80, toI_100, toI_144, toI_160, toI_200, toI_256, toI_320, toI_380, toI_576, toI_600, toI_1000, toI_1280, toI_2400, toI_9999, toI_10000, toI_100000, toI_1000000, toI_m1, toI_m100000, toI_s9, toI_s8] at hm hb hq hqb hn hn4 hA hC hcr hdr q1 h2 h3 q2 q3  ⊢); omega))) ?_
    exact Runs.ri rfl rfl (by rw [xTell, if_pos h1, if_neg h2, if_neg h3] <;> rfl) (by rw [xTell, if_pos h1, if_neg h2, if_neg h3] <;> rfl)
  · skip
    refine Runs.bl 1 (g := true) (i' := 7) (ls' := [some (.ref 0), some (.int p), some (.int w)]) (st' := [.int (-100 : Int32)]) (M' := mk tl I L rd) rfl rfl ?_
    exact Runs.ri rfl rfl (by rw [xTell, if_neg h1] <;> rfl) (by rw [xTell, if_neg h1] <;> rfl)

def xLeast (I : Nat → Nat → Int32) (L : Nat → Nat → Int64) (xa xl : Nat → Nat) (n m q : Nat) (c : Int32) (d : Int32) (t : Int32) : Int32 × (Nat → Nat → Int32) :=
  if (areTwo I c d) = 0 then ((0 : Int32), I) else
  if (outside I t (0 : Int32) (1000 : Int32)) = 0 then ((1 : Int32), (setLeast I c d t)) else
  ((0 : Int32), I)

set_option maxRecDepth 20000 in
theorem c_xLeast (tl : List (Nat × Nat)) (I : Nat → Nat → Int32) (L : Nat → Nat → Int64) (rd : Nat → Nat → Option Nat) (xa xl N : Nat → Nat) (n m q : Nat) (c : Int32) (d : Int32) (t : Int32) (hm : I 16 0 = nI m) (hb : m ≤ 40) (hq : I 2 0 = nI q) (hqb : q ≤ 12) (hn : I 1 3 = nI n) (hn4 : n ≤ 4) (hA : AO tl rd n xa xl N) (hC : AC I n xa N) (hcr : ∀ d, d < m → 0 ≤ (I 18 d).toInt ∧ (I 18 d).toInt < 12) (hdr : ∀ d, d < m → 0 ≤ (I 17 d).toInt ∧ (I 17 d).toInt < 12) : Call 131 [.ref 0, .int c, .int d, .int t] (mk tl I L rd) (some (.int ((xLeast I L xa xl n m q c d t).1))) (mk tl ((xLeast I L xa xl n m q c d t).2) L rd) := by
  show Runs 131 0 [some (.ref 0), some (.int c), some (.int d), some (.int t)] [] (mk tl I L rd) (some (.int ((xLeast I L xa xl n m q c d t).1))) (mk tl ((xLeast I L xa xl n m q c d t).2) L rd)
  refine Runs.bl 3 (g := true) (i' := 3) (ls' := [some (.ref 0), some (.int c), some (.int d), some (.int t)]) (st' := [.int d, .int c, .ref 0]) (M' := mk tl I L rd) rfl rfl ?_
  refine Runs.call (k' := 146) (as := [.ref 0, .int c, .int d]) (rest := []) (r1 := some (.int (areTwo I c d))) (M1 := mk tl I L rd) rfl rfl rfl (c_areTwo tl I L rd c d ) ?_
  refine Runs.bl 1 (g := true) (i' := if decide ((areTwo I c d) = 0) = true then 10 else 5) (ls' := [some (.ref 0), some (.int c), some (.int d), some (.int t)]) (st' := []) (M' := mk tl I L rd) rfl rfl ?_
  refine Runs.brP (fun h1 => ?_) (fun h1 => ?_)
  · skip
    refine Runs.bl 1 (g := true) (i' := 11) (ls' := [some (.ref 0), some (.int c), some (.int d), some (.int t)]) (st' := [.int (0 : Int32)]) (M' := mk tl I L rd) rfl rfl ?_
    exact Runs.rz rfl rfl (by decide) (by rw [xLeast, if_pos h1] <;> rfl) (by rw [xLeast, if_pos h1] <;> rfl)
  · skip
    refine Runs.bl 3 (g := true) (i' := 8) (ls' := [some (.ref 0), some (.int c), some (.int d), some (.int t)]) (st' := [.int (1000 : Int32), .int (0 : Int32), .int t]) (M' := mk tl I L rd) rfl rfl ?_
    refine Runs.call (k' := 147) (as := [.int t, .int (0 : Int32), .int (1000 : Int32)]) (rest := []) (r1 := some (.int (outside I t (0 : Int32) (1000 : Int32)))) (M1 := mk tl I L rd) rfl rfl rfl (c_outside tl I L rd t (0 : Int32) (1000 : Int32) ) ?_
    refine Runs.bl 1 (g := true) (i' := if decide ((outside I t (0 : Int32) (1000 : Int32)) = 0) = true then 12 else 10) (ls' := [some (.ref 0), some (.int c), some (.int d), some (.int t)]) (st' := []) (M' := mk tl I L rd) rfl rfl ?_
    refine Runs.brP (fun h2 => ?_) (fun h2 => ?_)
    · skip
      refine Runs.bl 5 (g := true) (i' := 17) (ls' := [some (.ref 0), some (.int c), some (.int d), some (.int t)]) (st' := [.int t, .int d, .int c, .ref 1]) (M' := mk tl I L rd) rfl rfl ?_
      refine Runs.call (k' := 28) (as := [.ref 1, .int c, .int d, .int t]) (rest := []) (r1 := none) (M1 := mk tl (setLeast I c d t) L rd) rfl rfl rfl (c_setLeast tl I L rd c d t (inb12 (by first | assumption | (have q1 := areTwo_rng h1; have q2 := outside_rng h2; have q3 := (show 0 ≤ (I 16 0).toInt ∧ (I 16 0).toInt ≤ 40 from by rw [hm, nI_toInt (by omega)]; omega); have q4 := (show 0 ≤ (I 2 0).toInt ∧ (I 2 0).toInt ≤ 12 from by rw [hq, nI_toInt (by omega)]; omega); (try simp only [Bool.and_true, Bool.true_and, Bool.and_eq_true, inb_iff, Int32.lt_iff_toInt_lt, Int32.le_iff_toInt_le, toI_0, toI_1, toI_2, toI_3, toI_4, toI_5, toI_6, toI_7, toI_8, toI_9, toI_10, toI_12, toI_16, toI_18, toI_20, toI_21, toI_23, toI_24, toI_32, toI_36, toI_39, toI_40, toI_48, toI_50, toI_60, toI_64, toI_75, toI_80, toI_100, toI_144, toI_160, toI_200, toI_256, toI_320, toI_380, toI_576, toI_600, toI_1000, toI_1280, toI_2400, toI_9999, toI_10000, toI_100000, toI_1000000, toI_m1, toI_m100000, toI_s9, toI_s8] at hm hb hq hqb hn hn4 hA hC hcr hdr q1 q2 q3 q4  ⊢); omega)) (by first | assumption | (have q1 := areTwo_rng h1; have q2 := outside_rng h2; have q3 := (show 0 ≤ (I 16 0).toInt ∧ (I 16 0).toInt ≤ 40 from by rw [hm, nI_toInt (by omega)]; omega); have q4 := (show 0 ≤ (I 2 0).toInt ∧ (I 2 0).toInt ≤ 12 from by rw [hq, nI_toInt (by omega)]; omega); (try simp only [Bool.and_true, Bool.true_and, Bool.and_eq_true, inb_iff, Int32.lt_iff_toInt_lt, Int32.le_iff_toInt_le, toI_0, toI_1, toI_2, toI_3, toI_4, toI_5, toI_6, toI_7, toI_8, toI_9, toI_10, toI_12, toI_16, toI_18, toI_20, toI_21, toI_23, toI_24, toI_32, toI_36, toI_39, toI_40, toI_48, toI_50, toI_60, toI_64, toI_75, toI_80, toI_100, toI_144, toI_160, toI_200, toI_256, toI_320, toI_380, toI_576, toI_600, toI_1000, toI_1280, toI_2400, toI_9999, toI_10000, toI_100000, toI_1000000, toI_m1, toI_m100000, toI_s9, toI_s8] at hm hb hq hqb hn hn4 hA hC hcr hdr q1 q2 q3 q4  ⊢); omega)))) ?_
      refine Runs.bl 1 (g := true) (i' := 19) (ls' := [some (.ref 0), some (.int c), some (.int d), some (.int t)]) (st' := [.int (1 : Int32)]) (M' := mk tl (setLeast I c d t) L rd) rfl rfl ?_
      exact Runs.rz rfl rfl (by decide) (by rw [xLeast, if_neg h1, if_pos h2] <;> rfl) (by rw [xLeast, if_neg h1, if_pos h2] <;> rfl)
    · skip
      refine Runs.bl 1 (g := true) (i' := 11) (ls' := [some (.ref 0), some (.int c), some (.int d), some (.int t)]) (st' := [.int (0 : Int32)]) (M' := mk tl I L rd) rfl rfl ?_
      exact Runs.rz rfl rfl (by decide) (by rw [xLeast, if_neg h1, if_neg h2] <;> rfl) (by rw [xLeast, if_neg h1, if_neg h2] <;> rfl)

def xBuy (I : Nat → Nat → Int32) (L : Nat → Nat → Int64) (xa xl : Nat → Nat) (n m q : Nat) (d : Int32) (b : Int32) (c : Int32) : Int32 × (Nat → Nat → Int32) :=
  if (isLive I d) = 0 then ((0 : Int32), I) else
  if (hasP I b) = 0 then ((0 : Int32), I) else
  if (outside I c (0 : Int32) (100000 : Int32)) = 0 then (if b = (I 18 d.toNatClampNeg) then ((0 : Int32), I) else
    if b = (I 17 d.toNatClampNeg) then ((0 : Int32), I) else
    if c ≤ (I 3 b.toNatClampNeg) then ((1 : Int32), (up1 (up2 (up2 (moveCoins I b (I 18 d.toNatClampNeg) c) 18 d.toNatClampNeg b) 29 d.toNatClampNeg (1 : Int32)) 12 (drop_it (up2 (up2 (moveCoins I b (I 18 d.toNatClampNeg) c) 18 d.toNatClampNeg b) 29 d.toNatClampNeg (1 : Int32)) L m q))) else
    ((0 : Int32), I)) else
  ((0 : Int32), I)

set_option maxRecDepth 20000 in
theorem c_xBuy (tl : List (Nat × Nat)) (I : Nat → Nat → Int32) (L : Nat → Nat → Int64) (rd : Nat → Nat → Option Nat) (xa xl N : Nat → Nat) (n m q : Nat) (d : Int32) (b : Int32) (c : Int32) (hm : I 16 0 = nI m) (hb : m ≤ 40) (hq : I 2 0 = nI q) (hqb : q ≤ 12) (hn : I 1 3 = nI n) (hn4 : n ≤ 4) (hA : AO tl rd n xa xl N) (hC : AC I n xa N) (hcr : ∀ d, d < m → 0 ≤ (I 18 d).toInt ∧ (I 18 d).toInt < 12) (hdr : ∀ d, d < m → 0 ≤ (I 17 d).toInt ∧ (I 17 d).toInt < 12) : Call 135 [.ref 0, .int d, .int b, .int c] (mk tl I L rd) (some (.int ((xBuy I L xa xl n m q d b c).1))) (mk tl ((xBuy I L xa xl n m q d b c).2) L rd) := by
  show Runs 135 0 [some (.ref 0), some (.int d), some (.int b), some (.int c), none] [] (mk tl I L rd) (some (.int ((xBuy I L xa xl n m q d b c).1))) (mk tl ((xBuy I L xa xl n m q d b c).2) L rd)
  refine Runs.bl 4 (g := true) (i' := 4) (ls' := [some (.ref 0), some (.int d), some (.int b), some (.int c), none]) (st' := [.int d, .ref 16]) (M' := mk tl I L rd) rfl rfl ?_
  refine Runs.call (k' := 7) (as := [.ref 16, .int d]) (rest := []) (r1 := some (.int (isLive I d))) (M1 := mk tl I L rd) rfl rfl rfl (c_isLive tl I L rd d ) ?_
  refine Runs.bl 1 (g := true) (i' := if decide ((isLive I d) = 0) = true then 17 else 6) (ls' := [some (.ref 0), some (.int d), some (.int b), some (.int c), none]) (st' := []) (M' := mk tl I L rd) rfl rfl ?_
  refine Runs.brP (fun h1 => ?_) (fun h1 => ?_)
  · skip
    refine Runs.bl 1 (g := true) (i' := 18) (ls' := [some (.ref 0), some (.int d), some (.int b), some (.int c), none]) (st' := [.int (0 : Int32)]) (M' := mk tl I L rd) rfl rfl ?_
    exact Runs.rz rfl rfl (by decide) (by rw [xBuy, if_pos h1] <;> rfl) (by rw [xBuy, if_pos h1] <;> rfl)
  · skip
    refine Runs.bl 4 (g := true) (i' := 10) (ls' := [some (.ref 0), some (.int d), some (.int b), some (.int c), none]) (st' := [.int b, .ref 2]) (M' := mk tl I L rd) rfl rfl ?_
    refine Runs.call (k' := 55) (as := [.ref 2, .int b]) (rest := []) (r1 := some (.int (hasP I b))) (M1 := mk tl I L rd) rfl rfl rfl (c_hasP tl I L rd b ) ?_
    refine Runs.bl 1 (g := true) (i' := if decide ((hasP I b) = 0) = true then 17 else 12) (ls' := [some (.ref 0), some (.int d), some (.int b), some (.int c), none]) (st' := []) (M' := mk tl I L rd) rfl rfl ?_
    refine Runs.brP (fun h2 => ?_) (fun h2 => ?_)
    · skip
      refine Runs.bl 1 (g := true) (i' := 18) (ls' := [some (.ref 0), some (.int d), some (.int b), some (.int c), none]) (st' := [.int (0 : Int32)]) (M' := mk tl I L rd) rfl rfl ?_
      exact Runs.rz rfl rfl (by decide) (by rw [xBuy, if_neg h1, if_pos h2] <;> rfl) (by rw [xBuy, if_neg h1, if_pos h2] <;> rfl)
    · skip
      refine Runs.bl 3 (g := true) (i' := 15) (ls' := [some (.ref 0), some (.int d), some (.int b), some (.int c), none]) (st' := [.int (100000 : Int32), .int (0 : Int32), .int c]) (M' := mk tl I L rd) rfl rfl ?_
      refine Runs.call (k' := 147) (as := [.int c, .int (0 : Int32), .int (100000 : Int32)]) (rest := []) (r1 := some (.int (outside I c (0 : Int32) (100000 : Int32)))) (M1 := mk tl I L rd) rfl rfl rfl (c_outside tl I L rd c (0 : Int32) (100000 : Int32) ) ?_
      refine Runs.bl 1 (g := true) (i' := if decide ((outside I c (0 : Int32) (100000 : Int32)) = 0) = true then 19 else 17) (ls' := [some (.ref 0), some (.int d), some (.int b), some (.int c), none]) (st' := []) (M' := mk tl I L rd) rfl rfl ?_
      refine Runs.brP (fun h3 => ?_) (fun h3 => ?_)
      · skip
        refine Runs.bl 10 (g := inb d 40 && true) (i' := if decide (b = (I 18 d.toNatClampNeg)) = true then 45 else 29) (ls' := [some (.ref 0), some (.int d), some (.int b), some (.int c), some (.int (I 18 d.toNatClampNeg))]) (st' := []) (M' := mk tl I L rd) rfl (by have q1 := isLive_rng h1; have q2 := live_dr hm hb hdr h1; have q3 := live_cr hm hb hcr h1; have q4 := hasP_rng h2; have q5 := outside_rng h3; have q6 := (show 0 ≤ (I 16 0).toInt ∧ (I 16 0).toInt ≤ 40 from by rw [hm, nI_toInt (by omega)]; omega); have q7 := (show 0 ≤ (I 2 0).toInt ∧ (I 2 0).toInt ≤ 12 from by rw [hq, nI_toInt (by omega)]; omega); simp only [Bool.and_true, Bool.true_and, Bool.and_eq_true, inb_iff, Int32.lt_iff_toInt_lt, Int32.le_iff_toInt_le, toI_0, toI_1, toI_2, toI_3, toI_4, toI_5, toI_6, toI_7, toI_8, toI_9, toI_10, toI_12, toI_16, toI_18, toI_20, toI_21, toI_23, toI_24, toI_32, toI_36, toI_39, toI_40, toI_48, toI_50, toI_60, toI_64, toI_75, toI_80, toI_100, toI_144, toI_160, toI_200, toI_256, toI_320, toI_380, toI_576, toI_600, toI_1000, toI_1280, toI_2400, toI_9999, toI_10000, toI_100000, toI_1000000, toI_m1, toI_m100000, toI_s9, toI_s8] at hm hb hq hqb hn hn4 hA hC hcr hdr q1 q2 q3 q4 q5 q6 q7 ⊢; omega) ?_
        refine Runs.brP (fun h4 => ?_) (fun h4 => ?_)
        · skip
          refine Runs.bl 1 (g := true) (i' := 46) (ls' := [some (.ref 0), some (.int d), some (.int b), some (.int c), some (.int (I 18 d.toNatClampNeg))]) (st' := [.int (0 : Int32)]) (M' := mk tl I L rd) rfl rfl ?_
          exact Runs.rz rfl rfl (by decide) (by rw [xBuy, if_neg h1, if_neg h2, if_pos h3, if_pos h4] <;> rfl) (by rw [xBuy, if_neg h1, if_neg h2, if_pos h3, if_pos h4] <;> rfl)
        · skip
          refine Runs.bl 8 (g := inb d 40 && true) (i' := if decide (b = (I 17 d.toNatClampNeg)) = true then 45 else 37) (ls' := [some (.ref 0), some (.int d), some (.int b), some (.int c), some (.int (I 18 d.toNatClampNeg))]) (st' := []) (M' := mk tl I L rd) rfl (by have q1 := isLive_rng h1; have q2 := live_dr hm hb hdr h1; have q3 := live_cr hm hb hcr h1; have q4 := hasP_rng h2; have q5 := outside_rng h3; have q6 := (show 0 ≤ (I 16 0).toInt ∧ (I 16 0).toInt ≤ 40 from by rw [hm, nI_toInt (by omega)]; omega); have q7 := (show 0 ≤ (I 2 0).toInt ∧ (I 2 0).toInt ≤ 12 from by rw [hq, nI_toInt (by omega)]; omega); simp only [Bool.and_true, Bool.true_and, Bool.and_eq_true, inb_iff, Int32.lt_iff_toInt_lt, Int32.le_iff_toInt_le, toI_0, toI_1, toI_2, toI_3, toI_4, toI_5, toI_6, toI_7, toI_8, toI_9, toI_10, toI_12, toI_16, toI_18, toI_20, toI_21, toI_23, toI_24, toI_32, toI_36, toI_39, toI_40, toI_48, toI_50, toI_60, toI_64, toI_75, toI_80, toI_100, toI_144, toI_160, toI_200, toI_256, toI_320, toI_380, toI_576, toI_600, toI_1000, toI_1280, toI_2400, toI_9999, toI_10000, toI_100000, toI_1000000, toI_m1, toI_m100000, toI_s9, toI_s8] at hm hb hq hqb hn hn4 hA hC hcr hdr q1 q2 q3 q4 q5 h4 q6 q7 ⊢; omega) ?_
          refine Runs.brP (fun h5 => ?_) (fun h5 => ?_)
          · skip
            refine Runs.bl 1 (g := true) (i' := 46) (ls' := [some (.ref 0), some (.int d), some (.int b), some (.int c), some (.int (I 18 d.toNatClampNeg))]) (st' := [.int (0 : Int32)]) (M' := mk tl I L rd) rfl rfl ?_
            exact Runs.rz rfl rfl (by decide) (by rw [xBuy, if_neg h1, if_neg h2, if_pos h3, if_neg h4, if_pos h5] <;> rfl) (by rw [xBuy, if_neg h1, if_neg h2, if_pos h3, if_neg h4, if_pos h5] <;> rfl)
          · skip
            refine Runs.bl 8 (g := inb b 12 && true) (i' := if decide (c ≤ (I 3 b.toNatClampNeg)) = true then 47 else 45) (ls' := [some (.ref 0), some (.int d), some (.int b), some (.int c), some (.int (I 18 d.toNatClampNeg))]) (st' := []) (M' := mk tl I L rd) rfl (by have q1 := isLive_rng h1; have q2 := live_dr hm hb hdr h1; have q3 := live_cr hm hb hcr h1; have q4 := hasP_rng h2; have q5 := outside_rng h3; have q6 := (show 0 ≤ (I 16 0).toInt ∧ (I 16 0).toInt ≤ 40 from by rw [hm, nI_toInt (by omega)]; omega); have q7 := (show 0 ≤ (I 2 0).toInt ∧ (I 2 0).toInt ≤ 12 from by rw [hq, nI_toInt (by omega)]; omega); simp only [Bool.and_true, Bool.true_and, Bool.and_eq_true, inb_iff, Int32.lt_iff_toInt_lt, Int32.le_iff_toInt_le, toI_0, toI_1, toI_2, toI_3, toI_4, toI_5, toI_6, toI_7, toI_8, toI_9, toI_10, toI_12, toI_16, toI_18, toI_20, toI_21, toI_23, toI_24, toI_32, toI_36, toI_39, toI_40, toI_48, toI_50, toI_60, toI_64, toI_75, toI_80, toI_100, toI_144, toI_160, toI_200, toI_256, toI_320, toI_380, toI_576, toI_600, toI_1000, toI_1280, toI_2400, toI_9999, toI_10000, toI_100000, toI_1000000, toI_m1, toI_m100000, toI_s9, toI_s8] at hm hb hq hqb hn hn4 hA hC hcr hdr q1 q2 q3 q4 q5 h4 h5 q6 q7 ⊢; omega) ?_
            refine Runs.brP (fun h6 => ?_) (fun h6 => ?_)
            · skip
              refine Runs.bl 5 (g := true) (i' := 52) (ls' := [some (.ref 0), some (.int d), some (.int b), some (.int c), some (.int (I 18 d.toNatClampNeg))]) (st' := [.int c, .int (I 18 d.toNatClampNeg), .int b, .ref 1]) (M' := mk tl I L rd) rfl rfl ?_
              refine Runs.call (k' := 37) (as := [.ref 1, .int b, .int (I 18 d.toNatClampNeg), .int c]) (rest := []) (r1 := none) (M1 := mk tl (moveCoins I b (I 18 d.toNatClampNeg) c) L rd) rfl rfl rfl (c_moveCoins tl I L rd b (I 18 d.toNatClampNeg) c (by first | assumption | (have q1 := isLive_rng h1; have q2 := live_dr hm hb hdr h1; have q3 := live_cr hm hb hcr h1; have q4 := hasP_rng h2; have q5 := outside_rng h3; have q6 := (show 0 ≤ (I 16 0).toInt ∧ (I 16 0).toInt ≤ 40 from by rw [hm, nI_toInt (by omega)]; omega); have q7 := (show 0 ≤ (I 2 0).toInt ∧ (I 2 0).toInt ≤ 12 from by rw [hq, nI_toInt (by omega)]; omega); (try simp only [Bool.and_true, Bool.true_and, Bool.and_eq_true, inb_iff, Int32.lt_iff_toInt_lt, Int32.le_iff_toInt_le, toI_0, toI_1, toI_2, toI_3, toI_4, toI_5, toI_6, toI_7, toI_8, toI_9, toI_10, toI_12, toI_16, toI_18, toI_20, toI_21, toI_23, toI_24, toI_32, toI_36, toI_39, toI_40, toI_48, toI_50, toI_60, toI_64, toI_75, toI_80, toI_100, toI_144, toI_160, toI_200, toI_256, toI_320, toI_380, toI_576, toI_600, toI_1000, toI_1280, toI_2400, toI_9999, toI_10000, toI_100000, toI_1000000, toI_m1, toI_m100000, toI_s9, toI_s8] at hm hb hq hqb hn hn4 hA hC hcr hdr q1 q2 q3 q4 q5 h4 h5 h6 q6 q7  ⊢); omega)) (by first | assumption | (have q1 := isLive_rng h1; have q2 := live_dr hm hb hdr h1; have q3 := live_cr hm hb hcr h1; have q4 := hasP_rng h2; have q5 := outside_rng h3; have q6 := (show 0 ≤ (I 16 0).toInt ∧ (I 16 0).toInt ≤ 40 from by rw [hm, nI_toInt (by omega)]; omega); have q7 := (show 0 ≤ (I 2 0).toInt ∧ (I 2 0).toInt ≤ 12 from by rw [hq, nI_toInt (by omega)]; omega); (try simp only [Bool.and_true, Bool.true_and, Bool.and_eq_true, inb_iff, Int32.lt_iff_toInt_lt, Int32.le_iff_toInt_le, toI_0, toI_1, toI_2, toI_3, toI_4, toI_5, toI_6, toI_7, toI_8, toI_9, toI_10, toI_12, toI_16, toI_18, toI_20, toI_21, toI_23, toI_24, toI_32, toI_36, toI_39, toI_40, toI_48, toI_50, toI_60, toI_64, toI_75, toI_80, toI_100, toI_144, toI_160, toI_200, toI_256, toI_320, toI_380, toI_576, toI_600, toI_1000, toI_1280, toI_2400, toI_9999, toI_10000, toI_100000, toI_1000000, toI_m1, toI_m100000, toI_s9, toI_s8] at hm hb hq hqb hn hn4 hA hC hcr hdr q1 q2 q3 q4 q5 h4 h5 h6 q6 q7  ⊢); omega))) ?_
              refine Runs.bl 16 (g := inb d 40 && (inb d 40 && true)) (i' := 69) (ls' := [some (.ref 0), some (.int d), some (.int b), some (.int c), some (.int (I 18 d.toNatClampNeg))]) (st' := [.ref 1]) (M' := mk tl (up2 (up2 (moveCoins I b (I 18 d.toNatClampNeg) c) 18 d.toNatClampNeg b) 29 d.toNatClampNeg (1 : Int32)) L rd) rfl (by have q1 := isLive_rng h1; have q2 := live_dr hm hb hdr h1; have q3 := live_cr hm hb hcr h1; have q4 := hasP_rng h2; have q5 := outside_rng h3; have q6 := (show 0 ≤ (I 16 0).toInt ∧ (I 16 0).toInt ≤ 40 from by rw [hm, nI_toInt (by omega)]; omega); have q7 := (show 0 ≤ (I 2 0).toInt ∧ (I 2 0).toInt ≤ 12 from by rw [hq, nI_toInt (by omega)]; omega); simp only [Bool.and_true, Bool.true_and, Bool.and_eq_true, inb_iff, Int32.lt_iff_toInt_lt, Int32.le_iff_toInt_le, toI_0, toI_1, toI_2, toI_3, toI_4, toI_5, toI_6, toI_7, toI_8, toI_9, toI_10, toI_12, toI_16, toI_18, toI_20, toI_21, toI_23, toI_24, toI_32, toI_36, toI_39, toI_40, toI_48, toI_50, toI_60, toI_64, toI_75, toI_80, toI_100, toI_144, toI_160, toI_200, toI_256, toI_320, toI_380, toI_576, toI_600, toI_1000, toI_1280, toI_2400, toI_9999, toI_10000, toI_100000, toI_1000000, toI_m1, toI_m100000, toI_s9, toI_s8] at hm hb hq hqb hn hn4 hA hC hcr hdr q1 q2 q3 q4 q5 h4 h5 h6 q6 q7 ⊢; omega) ?_
              refine Runs.call (k' := 36) (as := [.ref 1]) (rest := []) (r1 := none) (M1 := mk tl (up1 (up2 (up2 (moveCoins I b (I 18 d.toNatClampNeg) c) 18 d.toNatClampNeg b) 29 d.toNatClampNeg (1 : Int32)) 12 (drop_it (up2 (up2 (moveCoins I b (I 18 d.toNatClampNeg) c) 18 d.toNatClampNeg b) 29 d.toNatClampNeg (1 : Int32)) L m q)) L rd) rfl rfl rfl (c_drop tl (up2 (up2 (moveCoins I b (I 18 d.toNatClampNeg) c) 18 d.toNatClampNeg b) 29 d.toNatClampNeg (1 : Int32)) L rd m q hm hb hq hqb) ?_
              refine Runs.bl 1 (g := true) (i' := 71) (ls' := [some (.ref 0), some (.int d), some (.int b), some (.int c), some (.int (I 18 d.toNatClampNeg))]) (st' := [.int (1 : Int32)]) (M' := mk tl (up1 (up2 (up2 (moveCoins I b (I 18 d.toNatClampNeg) c) 18 d.toNatClampNeg b) 29 d.toNatClampNeg (1 : Int32)) 12 (drop_it (up2 (up2 (moveCoins I b (I 18 d.toNatClampNeg) c) 18 d.toNatClampNeg b) 29 d.toNatClampNeg (1 : Int32)) L m q)) L rd) rfl rfl ?_
              exact Runs.rz rfl rfl (by decide) (by rw [xBuy, if_neg h1, if_neg h2, if_pos h3, if_neg h4, if_neg h5, if_pos h6] <;> rfl) (by rw [xBuy, if_neg h1, if_neg h2, if_pos h3, if_neg h4, if_neg h5, if_pos h6] <;> rfl)
            · skip
              refine Runs.bl 1 (g := true) (i' := 46) (ls' := [some (.ref 0), some (.int d), some (.int b), some (.int c), some (.int (I 18 d.toNatClampNeg))]) (st' := [.int (0 : Int32)]) (M' := mk tl I L rd) rfl rfl ?_
              exact Runs.rz rfl rfl (by decide) (by rw [xBuy, if_neg h1, if_neg h2, if_pos h3, if_neg h4, if_neg h5, if_neg h6] <;> rfl) (by rw [xBuy, if_neg h1, if_neg h2, if_pos h3, if_neg h4, if_neg h5, if_neg h6] <;> rfl)
      · skip
        refine Runs.bl 1 (g := true) (i' := 18) (ls' := [some (.ref 0), some (.int d), some (.int b), some (.int c), none]) (st' := [.int (0 : Int32)]) (M' := mk tl I L rd) rfl rfl ?_
        exact Runs.rz rfl rfl (by decide) (by rw [xBuy, if_neg h1, if_neg h2, if_neg h3] <;> rfl) (by rw [xBuy, if_neg h1, if_neg h2, if_neg h3] <;> rfl)

def xBook (I : Nat → Nat → Int32) (L : Nat → Nat → Int64) (xa xl : Nat → Nat) (n m q : Nat) (p : Int32) (c : Int32) : Int32 × (Nat → Nat → Int32) :=
  if (hasP I p) = 0 then ((-1 : Int32), I) else
  if (60 : Int32) ≤ (I 1 7) then ((-1 : Int32), I) else
  if c = 0 then ((-1 : Int32), I) else
  if (outside I c (-100000 : Int32) (100000 : Int32)) = 0 then ((up2 (up2 (up2 I 1 7 ((I 1 7) + (1 : Int32))) 14 p.toNatClampNeg ((I 14 p.toNatClampNeg) + c)) 15 p.toNatClampNeg (if (I 15 p.toNatClampNeg) < (-((up2 (up2 I 1 7 ((I 1 7) + (1 : Int32))) 14 p.toNatClampNeg ((I 14 p.toNatClampNeg) + c)) 14 p.toNatClampNeg)) then -((up2 (up2 I 1 7 ((I 1 7) + (1 : Int32))) 14 p.toNatClampNeg ((I 14 p.toNatClampNeg) + c)) 14 p.toNatClampNeg) else I 15 p.toNatClampNeg)) 15 p.toNatClampNeg, (up2 (up2 (up2 I 1 7 ((I 1 7) + (1 : Int32))) 14 p.toNatClampNeg ((I 14 p.toNatClampNeg) + c)) 15 p.toNatClampNeg (if (I 15 p.toNatClampNeg) < (-((up2 (up2 I 1 7 ((I 1 7) + (1 : Int32))) 14 p.toNatClampNeg ((I 14 p.toNatClampNeg) + c)) 14 p.toNatClampNeg)) then -((up2 (up2 I 1 7 ((I 1 7) + (1 : Int32))) 14 p.toNatClampNeg ((I 14 p.toNatClampNeg) + c)) 14 p.toNatClampNeg) else I 15 p.toNatClampNeg))) else
  ((-1 : Int32), I)

set_option maxRecDepth 20000 in
theorem c_xBook (tl : List (Nat × Nat)) (I : Nat → Nat → Int32) (L : Nat → Nat → Int64) (rd : Nat → Nat → Option Nat) (xa xl N : Nat → Nat) (n m q : Nat) (p : Int32) (c : Int32) (hm : I 16 0 = nI m) (hb : m ≤ 40) (hq : I 2 0 = nI q) (hqb : q ≤ 12) (hn : I 1 3 = nI n) (hn4 : n ≤ 4) (hA : AO tl rd n xa xl N) (hC : AC I n xa N) (hcr : ∀ d, d < m → 0 ≤ (I 18 d).toInt ∧ (I 18 d).toInt < 12) (hdr : ∀ d, d < m → 0 ≤ (I 17 d).toInt ∧ (I 17 d).toInt < 12) : Call 139 [.ref 0, .int p, .int c] (mk tl I L rd) (some (.int ((xBook I L xa xl n m q p c).1))) (mk tl ((xBook I L xa xl n m q p c).2) L rd) := by
  show Runs 139 0 [some (.ref 0), some (.int p), some (.int c), none] [] (mk tl I L rd) (some (.int ((xBook I L xa xl n m q p c).1))) (mk tl ((xBook I L xa xl n m q p c).2) L rd)
  refine Runs.bl 4 (g := true) (i' := 4) (ls' := [some (.ref 0), some (.int p), some (.int c), none]) (st' := [.int p, .ref 2]) (M' := mk tl I L rd) rfl rfl ?_
  refine Runs.call (k' := 55) (as := [.ref 2, .int p]) (rest := []) (r1 := some (.int (hasP I p))) (M1 := mk tl I L rd) rfl rfl rfl (c_hasP tl I L rd p ) ?_
  refine Runs.bl 1 (g := true) (i' := if decide ((hasP I p) = 0) = true then 18 else 6) (ls' := [some (.ref 0), some (.int p), some (.int c), none]) (st' := []) (M' := mk tl I L rd) rfl rfl ?_
  refine Runs.brP (fun h1 => ?_) (fun h1 => ?_)
  · skip
    refine Runs.bl 1 (g := true) (i' := 19) (ls' := [some (.ref 0), some (.int p), some (.int c), none]) (st' := [.int (-1 : Int32)]) (M' := mk tl I L rd) rfl rfl ?_
    exact Runs.ri rfl rfl (by rw [xBook, if_pos h1] <;> rfl) (by rw [xBook, if_pos h1] <;> rfl)
  · skip
    refine Runs.bl 5 (g := true) (i' := if decide ((60 : Int32) ≤ (I 1 7)) = true then 18 else 11) (ls' := [some (.ref 0), some (.int p), some (.int c), none]) (st' := []) (M' := mk tl I L rd) rfl rfl ?_
    refine Runs.brP (fun h2 => ?_) (fun h2 => ?_)
    · skip
      refine Runs.bl 1 (g := true) (i' := 19) (ls' := [some (.ref 0), some (.int p), some (.int c), none]) (st' := [.int (-1 : Int32)]) (M' := mk tl I L rd) rfl rfl ?_
      exact Runs.ri rfl rfl (by rw [xBook, if_neg h1, if_pos h2] <;> rfl) (by rw [xBook, if_neg h1, if_pos h2] <;> rfl)
    · skip
      refine Runs.bl 2 (g := true) (i' := if decide (c = 0) = true then 18 else 13) (ls' := [some (.ref 0), some (.int p), some (.int c), none]) (st' := []) (M' := mk tl I L rd) rfl rfl ?_
      refine Runs.brP (fun h3 => ?_) (fun h3 => ?_)
      · skip
        refine Runs.bl 1 (g := true) (i' := 19) (ls' := [some (.ref 0), some (.int p), some (.int c), none]) (st' := [.int (-1 : Int32)]) (M' := mk tl I L rd) rfl rfl ?_
        exact Runs.ri rfl rfl (by rw [xBook, if_neg h1, if_neg h2, if_pos h3] <;> rfl) (by rw [xBook, if_neg h1, if_neg h2, if_pos h3] <;> rfl)
      · skip
        refine Runs.bl 3 (g := true) (i' := 16) (ls' := [some (.ref 0), some (.int p), some (.int c), none]) (st' := [.int (100000 : Int32), .int (-100000 : Int32), .int c]) (M' := mk tl I L rd) rfl rfl ?_
        refine Runs.call (k' := 147) (as := [.int c, .int (-100000 : Int32), .int (100000 : Int32)]) (rest := []) (r1 := some (.int (outside I c (-100000 : Int32) (100000 : Int32)))) (M1 := mk tl I L rd) rfl rfl rfl (c_outside tl I L rd c (-100000 : Int32) (100000 : Int32) ) ?_
        refine Runs.bl 1 (g := true) (i' := if decide ((outside I c (-100000 : Int32) (100000 : Int32)) = 0) = true then 20 else 18) (ls' := [some (.ref 0), some (.int p), some (.int c), none]) (st' := []) (M' := mk tl I L rd) rfl rfl ?_
        refine Runs.brP (fun h4 => ?_) (fun h4 => ?_)
        · skip
          refine Runs.bl 37 (g := inb p 12 && (inb p 12 && (inb p 12 && (inb p 12 && (true && (inb p 12 && (inb p 12 && true))))))) (i' := 57) (ls' := [some (.ref 0), some (.int p), some (.int c), some (.ref 2)]) (st' := [.int ((up2 (up2 (up2 I 1 7 ((I 1 7) + (1 : Int32))) 14 p.toNatClampNeg ((I 14 p.toNatClampNeg) + c)) 15 p.toNatClampNeg (if (I 15 p.toNatClampNeg) < (-((up2 (up2 I 1 7 ((I 1 7) + (1 : Int32))) 14 p.toNatClampNeg ((I 14 p.toNatClampNeg) + c)) 14 p.toNatClampNeg)) then -((up2 (up2 I 1 7 ((I 1 7) + (1 : Int32))) 14 p.toNatClampNeg ((I 14 p.toNatClampNeg) + c)) 14 p.toNatClampNeg) else I 15 p.toNatClampNeg)) 15 p.toNatClampNeg)]) (M' := mk tl (up2 (up2 (up2 I 1 7 ((I 1 7) + (1 : Int32))) 14 p.toNatClampNeg ((I 14 p.toNatClampNeg) + c)) 15 p.toNatClampNeg (if (I 15 p.toNatClampNeg) < (-((up2 (up2 I 1 7 ((I 1 7) + (1 : Int32))) 14 p.toNatClampNeg ((I 14 p.toNatClampNeg) + c)) 14 p.toNatClampNeg)) then -((up2 (up2 I 1 7 ((I 1 7) + (1 : Int32))) 14 p.toNatClampNeg ((I 14 p.toNatClampNeg) + c)) 14 p.toNatClampNeg) else I 15 p.toNatClampNeg)) L rd) rfl (by have q1 := hasP_rng h1; have q2 := outside_rng h4; have q3 := (show 0 ≤ (I 16 0).toInt ∧ (I 16 0).toInt ≤ 40 from by rw [hm, nI_toInt (by omega)]; omega); have q4 := (show 0 ≤ (I 2 0).toInt ∧ (I 2 0).toInt ≤ 12 from by rw [hq, nI_toInt (by omega)]; omega); simp only [Bool.and_true, Bool.true_and, Bool.and_eq_true, inb_iff, Int32.lt_iff_toInt_lt, Int32.le_iff_toInt_le, toI_0, toI_1, toI_2, toI_3, toI_4, toI_5, toI_6, toI_7, toI_8, toI_9, toI_10, toI_12, toI_16, toI_18, toI_20, toI_21, toI_23, toI_24, toI_32, toI_36, toI_39, toI_40, toI_48, toI_50, toI_60, toI_64, toI_75, toI_80, toI_100, toI_144, toI_160, toI_200, toI_256, toI_320, toI_380, toI_576, toI_600, toI_1000, toI_1280, toI_2400, toI_9999, toI_10000, toI_100000, toI_1000000, toI_m1, toI_m100000, toI_s9, toI_s8] at hm hb hq hqb hn hn4 hA hC hcr hdr q1 h2 h3 q2 q3 q4 ⊢; omega) ?_
          exact Runs.ri rfl rfl (by rw [xBook, if_neg h1, if_neg h2, if_neg h3, if_pos h4] <;> rfl) (by rw [xBook, if_neg h1, if_neg h2, if_neg h3, if_pos h4] <;> rfl)
        · skip
          refine Runs.bl 1 (g := true) (i' := 19) (ls' := [some (.ref 0), some (.int p), some (.int c), none]) (st' := [.int (-1 : Int32)]) (M' := mk tl I L rd) rfl rfl ?_
          exact Runs.ri rfl rfl (by rw [xBook, if_neg h1, if_neg h2, if_neg h3, if_neg h4] <;> rfl) (by rw [xBook, if_neg h1, if_neg h2, if_neg h3, if_neg h4] <;> rfl)

def xCount (I : Nat → Nat → Int32) (L : Nat → Nat → Int64) (xa xl : Nat → Nat) (n m q : Nat) (w : Int32) : Int32 × (Nat → Nat → Int32) :=
  if w = (0 : Int32) then (I 2 0, I) else
  if w = (1 : Int32) then (I 16 0, I) else
  if w = (2 : Int32) then (liveOnes_it I L  m, I) else
  if w = (3 : Int32) then (I 1 3, I) else
  if w = (4 : Int32) then (I 1 4, I) else
  if w = (5 : Int32) then (I 1 5, I) else
  if w = (6 : Int32) then (heldOnes_it I L  q, I) else
  if w = (7 : Int32) then (I 1 14, I) else
  if w = (8 : Int32) then (I 1 6, I) else
  if w = (9 : Int32) then (allCoins_it I L  q, I) else
  if w = (10 : Int32) then (allDue_it I L (I 1 4) m, I) else
  if w = (11 : Int32) then (I 1 7, I) else
  ((-1 : Int32), I)

set_option maxRecDepth 20000 in
theorem c_xCount (tl : List (Nat × Nat)) (I : Nat → Nat → Int32) (L : Nat → Nat → Int64) (rd : Nat → Nat → Option Nat) (xa xl N : Nat → Nat) (n m q : Nat) (w : Int32) (hm : I 16 0 = nI m) (hb : m ≤ 40) (hq : I 2 0 = nI q) (hqb : q ≤ 12) (hn : I 1 3 = nI n) (hn4 : n ≤ 4) (hA : AO tl rd n xa xl N) (hC : AC I n xa N) (hcr : ∀ d, d < m → 0 ≤ (I 18 d).toInt ∧ (I 18 d).toInt < 12) (hdr : ∀ d, d < m → 0 ≤ (I 17 d).toInt ∧ (I 17 d).toInt < 12) : Call 141 [.ref 0, .int w] (mk tl I L rd) (some (.int ((xCount I L xa xl n m q w).1))) (mk tl ((xCount I L xa xl n m q w).2) L rd) := by
  show Runs 141 0 [some (.ref 0), some (.int w)] [] (mk tl I L rd) (some (.int ((xCount I L xa xl n m q w).1))) (mk tl ((xCount I L xa xl n m q w).2) L rd)
  refine Runs.bl 2 (g := true) (i' := swT 59 0 11 [2, 7, 12, 17, 21, 25, 29, 34, 38, 42, 47, 55] w.toInt) (ls' := [some (.ref 0), some (.int w)]) (st' := []) (M' := mk tl I L rd) rfl rfl ?_
  by_cases h1 : w = (0 : Int32)
  · refine Runs.sw (c := 2) (by rw [h1]; decide) ?_
    refine Runs.bl 4 (g := true) (i' := 6) (ls' := [some (.ref 0), some (.int w)]) (st' := [.int (I 2 0)]) (M' := mk tl I L rd) rfl rfl ?_
    exact Runs.ri rfl rfl (by rw [xCount, if_pos h1] <;> rfl) (by rw [xCount, if_pos h1] <;> rfl)
  by_cases h2 : w = (1 : Int32)
  · refine Runs.sw (c := 7) (by rw [h2]; decide) ?_
    refine Runs.bl 4 (g := true) (i' := 11) (ls' := [some (.ref 0), some (.int w)]) (st' := [.int (I 16 0)]) (M' := mk tl I L rd) rfl rfl ?_
    exact Runs.ri rfl rfl (by rw [xCount, if_neg h1, if_pos h2] <;> rfl) (by rw [xCount, if_neg h1, if_pos h2] <;> rfl)
  by_cases h3 : w = (2 : Int32)
  · refine Runs.sw (c := 12) (by rw [h3]; decide) ?_
    refine Runs.bl 3 (g := true) (i' := 15) (ls' := [some (.ref 0), some (.int w)]) (st' := [.ref 16]) (M' := mk tl I L rd) rfl rfl ?_
    refine Runs.call (k' := 16) (as := [.ref 16]) (rest := []) (r1 := some (.int (liveOnes_it I L  m))) (M1 := mk tl I L rd) rfl rfl rfl (c_liveOnes tl I L rd  m hm hb) ?_
    exact Runs.ri rfl rfl (by rw [xCount, if_neg h1, if_neg h2, if_pos h3] <;> rfl) (by rw [xCount, if_neg h1, if_neg h2, if_pos h3] <;> rfl)
  by_cases h4 : w = (3 : Int32)
  · refine Runs.sw (c := 17) (by rw [h4]; decide) ?_
    refine Runs.bl 3 (g := true) (i' := 20) (ls' := [some (.ref 0), some (.int w)]) (st' := [.int (I 1 3)]) (M' := mk tl I L rd) rfl rfl ?_
    exact Runs.ri rfl rfl (by rw [xCount, if_neg h1, if_neg h2, if_neg h3, if_pos h4] <;> rfl) (by rw [xCount, if_neg h1, if_neg h2, if_neg h3, if_pos h4] <;> rfl)
  by_cases h5 : w = (4 : Int32)
  · refine Runs.sw (c := 21) (by rw [h5]; decide) ?_
    refine Runs.bl 3 (g := true) (i' := 24) (ls' := [some (.ref 0), some (.int w)]) (st' := [.int (I 1 4)]) (M' := mk tl I L rd) rfl rfl ?_
    exact Runs.ri rfl rfl (by rw [xCount, if_neg h1, if_neg h2, if_neg h3, if_neg h4, if_pos h5] <;> rfl) (by rw [xCount, if_neg h1, if_neg h2, if_neg h3, if_neg h4, if_pos h5] <;> rfl)
  by_cases h6 : w = (5 : Int32)
  · refine Runs.sw (c := 25) (by rw [h6]; decide) ?_
    refine Runs.bl 3 (g := true) (i' := 28) (ls' := [some (.ref 0), some (.int w)]) (st' := [.int (I 1 5)]) (M' := mk tl I L rd) rfl rfl ?_
    exact Runs.ri rfl rfl (by rw [xCount, if_neg h1, if_neg h2, if_neg h3, if_neg h4, if_neg h5, if_pos h6] <;> rfl) (by rw [xCount, if_neg h1, if_neg h2, if_neg h3, if_neg h4, if_neg h5, if_pos h6] <;> rfl)
  by_cases h7 : w = (6 : Int32)
  · refine Runs.sw (c := 29) (by rw [h7]; decide) ?_
    refine Runs.bl 3 (g := true) (i' := 32) (ls' := [some (.ref 0), some (.int w)]) (st' := [.ref 2]) (M' := mk tl I L rd) rfl rfl ?_
    refine Runs.call (k' := 63) (as := [.ref 2]) (rest := []) (r1 := some (.int (heldOnes_it I L  q))) (M1 := mk tl I L rd) rfl rfl rfl (c_heldOnes tl I L rd  q hq hqb) ?_
    exact Runs.ri rfl rfl (by rw [xCount, if_neg h1, if_neg h2, if_neg h3, if_neg h4, if_neg h5, if_neg h6, if_pos h7] <;> rfl) (by rw [xCount, if_neg h1, if_neg h2, if_neg h3, if_neg h4, if_neg h5, if_neg h6, if_pos h7] <;> rfl)
  by_cases h8 : w = (7 : Int32)
  · refine Runs.sw (c := 34) (by rw [h8]; decide) ?_
    refine Runs.bl 3 (g := true) (i' := 37) (ls' := [some (.ref 0), some (.int w)]) (st' := [.int (I 1 14)]) (M' := mk tl I L rd) rfl rfl ?_
    exact Runs.ri rfl rfl (by rw [xCount, if_neg h1, if_neg h2, if_neg h3, if_neg h4, if_neg h5, if_neg h6, if_neg h7, if_pos h8] <;> rfl) (by rw [xCount, if_neg h1, if_neg h2, if_neg h3, if_neg h4, if_neg h5, if_neg h6, if_neg h7, if_pos h8] <;> rfl)
  by_cases h9 : w = (8 : Int32)
  · refine Runs.sw (c := 38) (by rw [h9]; decide) ?_
    refine Runs.bl 3 (g := true) (i' := 41) (ls' := [some (.ref 0), some (.int w)]) (st' := [.int (I 1 6)]) (M' := mk tl I L rd) rfl rfl ?_
    exact Runs.ri rfl rfl (by rw [xCount, if_neg h1, if_neg h2, if_neg h3, if_neg h4, if_neg h5, if_neg h6, if_neg h7, if_neg h8, if_pos h9] <;> rfl) (by rw [xCount, if_neg h1, if_neg h2, if_neg h3, if_neg h4, if_neg h5, if_neg h6, if_neg h7, if_neg h8, if_pos h9] <;> rfl)
  by_cases h10 : w = (9 : Int32)
  · refine Runs.sw (c := 42) (by rw [h10]; decide) ?_
    refine Runs.bl 3 (g := true) (i' := 45) (ls' := [some (.ref 0), some (.int w)]) (st' := [.ref 2]) (M' := mk tl I L rd) rfl rfl ?_
    refine Runs.call (k' := 64) (as := [.ref 2]) (rest := []) (r1 := some (.int (allCoins_it I L  q))) (M1 := mk tl I L rd) rfl rfl rfl (c_allCoins tl I L rd  q hq hqb) ?_
    exact Runs.ri rfl rfl (by rw [xCount, if_neg h1, if_neg h2, if_neg h3, if_neg h4, if_neg h5, if_neg h6, if_neg h7, if_neg h8, if_neg h9, if_pos h10] <;> rfl) (by rw [xCount, if_neg h1, if_neg h2, if_neg h3, if_neg h4, if_neg h5, if_neg h6, if_neg h7, if_neg h8, if_neg h9, if_pos h10] <;> rfl)
  by_cases h11 : w = (10 : Int32)
  · refine Runs.sw (c := 47) (by rw [h11]; decide) ?_
    refine Runs.bl 6 (g := true) (i' := 53) (ls' := [some (.ref 0), some (.int w)]) (st' := [.int (I 1 4), .ref 16]) (M' := mk tl I L rd) rfl rfl ?_
    refine Runs.call (k' := 17) (as := [.ref 16, .int (I 1 4)]) (rest := []) (r1 := some (.int (allDue_it I L (I 1 4) m))) (M1 := mk tl I L rd) rfl rfl rfl (c_allDue tl I L rd (I 1 4) m hm hb) ?_
    exact Runs.ri rfl rfl (by rw [xCount, if_neg h1, if_neg h2, if_neg h3, if_neg h4, if_neg h5, if_neg h6, if_neg h7, if_neg h8, if_neg h9, if_neg h10, if_pos h11] <;> rfl) (by rw [xCount, if_neg h1, if_neg h2, if_neg h3, if_neg h4, if_neg h5, if_neg h6, if_neg h7, if_neg h8, if_neg h9, if_neg h10, if_pos h11] <;> rfl)
  by_cases h12 : w = (11 : Int32)
  · refine Runs.sw (c := 55) (by rw [h12]; decide) ?_
    refine Runs.bl 3 (g := true) (i' := 58) (ls' := [some (.ref 0), some (.int w)]) (st' := [.int (I 1 7)]) (M' := mk tl I L rd) rfl rfl ?_
    exact Runs.ri rfl rfl (by rw [xCount, if_neg h1, if_neg h2, if_neg h3, if_neg h4, if_neg h5, if_neg h6, if_neg h7, if_neg h8, if_neg h9, if_neg h10, if_neg h11, if_pos h12] <;> rfl) (by rw [xCount, if_neg h1, if_neg h2, if_neg h3, if_neg h4, if_neg h5, if_neg h6, if_neg h7, if_neg h8, if_neg h9, if_neg h10, if_neg h11, if_pos h12] <;> rfl)
  refine Runs.sw (c := 59) (swT_out (by have z0 : ¬ w.toInt = 0 := fun e => h1 (Int32.toInt_inj.mp (by rw [e]; decide)); have z1 : ¬ w.toInt = 1 := fun e => h2 (Int32.toInt_inj.mp (by rw [e]; decide)); have z2 : ¬ w.toInt = 2 := fun e => h3 (Int32.toInt_inj.mp (by rw [e]; decide)); have z3 : ¬ w.toInt = 3 := fun e => h4 (Int32.toInt_inj.mp (by rw [e]; decide)); have z4 : ¬ w.toInt = 4 := fun e => h5 (Int32.toInt_inj.mp (by rw [e]; decide)); have z5 : ¬ w.toInt = 5 := fun e => h6 (Int32.toInt_inj.mp (by rw [e]; decide)); have z6 : ¬ w.toInt = 6 := fun e => h7 (Int32.toInt_inj.mp (by rw [e]; decide)); have z7 : ¬ w.toInt = 7 := fun e => h8 (Int32.toInt_inj.mp (by rw [e]; decide)); have z8 : ¬ w.toInt = 8 := fun e => h9 (Int32.toInt_inj.mp (by rw [e]; decide)); have z9 : ¬ w.toInt = 9 := fun e => h10 (Int32.toInt_inj.mp (by rw [e]; decide)); have z10 : ¬ w.toInt = 10 := fun e => h11 (Int32.toInt_inj.mp (by rw [e]; decide)); have z11 : ¬ w.toInt = 11 := fun e => h12 (Int32.toInt_inj.mp (by rw [e]; decide)); omega)) ?_
  refine Runs.bl 1 (g := true) (i' := 60) (ls' := [some (.ref 0), some (.int w)]) (st' := [.int (-1 : Int32)]) (M' := mk tl I L rd) rfl rfl ?_
  exact Runs.ri rfl rfl (by rw [xCount, if_neg h1, if_neg h2, if_neg h3, if_neg h4, if_neg h5, if_neg h6, if_neg h7, if_neg h8, if_neg h9, if_neg h10, if_neg h11, if_neg h12] <;> rfl) (by rw [xCount, if_neg h1, if_neg h2, if_neg h3, if_neg h4, if_neg h5, if_neg h6, if_neg h7, if_neg h8, if_neg h9, if_neg h10, if_neg h11, if_neg h12] <;> rfl)

def xHold (I : Nat → Nat → Int32) (L : Nat → Nat → Int64) (xa xl : Nat → Nat) (n m q : Nat) (c : Int32) (d : Int32) : Int32 × (Nat → Nat → Int32) :=
  if (areTwo I c d) = 0 then ((0 : Int32), I) else
  if (detains I c d) = 0 then (if ((credOf_it I L d m) &&& ((1 : Int32) <<< (c &&& 31))) = 0 then ((0 : Int32), I) else
    if ¬ (nowT I L xa xl n m d (0 : Int32)) = 0 then (if ¬ (isHeld I d) = 0 then ((1 : Int32), (up2 (up1 I 38 (nowG (I 38) I L xa n m d)) 12 d.toNatClampNeg ((I 12 d.toNatClampNeg) ||| ((1 : Int32) <<< (c &&& 31))))) else
      ((1 : Int32), (up2 (enter (up1 (up1 I 38 (nowG (I 38) I L xa n m d)) 38 (nowG (nowG (I 38) I L xa n m d) I L xa n m d)) d (I 1 4) (nowT I L xa xl n m d (1 : Int32))) 12 d.toNatClampNeg ((I 12 d.toNatClampNeg) ||| ((1 : Int32) <<< (c &&& 31)))))) else
    ((0 : Int32), (up1 I 38 (nowG (I 38) I L xa n m d)))) else
  ((0 : Int32), I)

set_option maxRecDepth 20000 in
theorem c_xHold (tl : List (Nat × Nat)) (I : Nat → Nat → Int32) (L : Nat → Nat → Int64) (rd : Nat → Nat → Option Nat) (xa xl N : Nat → Nat) (n m q : Nat) (c : Int32) (d : Int32) (hm : I 16 0 = nI m) (hb : m ≤ 40) (hq : I 2 0 = nI q) (hqb : q ≤ 12) (hn : I 1 3 = nI n) (hn4 : n ≤ 4) (hA : AO tl rd n xa xl N) (hC : AC I n xa N) (hcr : ∀ d, d < m → 0 ≤ (I 18 d).toInt ∧ (I 18 d).toInt < 12) (hdr : ∀ d, d < m → 0 ≤ (I 17 d).toInt ∧ (I 17 d).toInt < 12) : Call 121 [.ref 0, .int c, .int d] (mk tl I L rd) (some (.int ((xHold I L xa xl n m q c d).1))) (mk tl ((xHold I L xa xl n m q c d).2) L rd) := by
  show Runs 121 0 [some (.ref 0), some (.int c), some (.int d)] [] (mk tl I L rd) (some (.int ((xHold I L xa xl n m q c d).1))) (mk tl ((xHold I L xa xl n m q c d).2) L rd)
  refine Runs.bl 3 (g := true) (i' := 3) (ls' := [some (.ref 0), some (.int c), some (.int d)]) (st' := [.int d, .int c, .ref 0]) (M' := mk tl I L rd) rfl rfl ?_
  refine Runs.call (k' := 146) (as := [.ref 0, .int c, .int d]) (rest := []) (r1 := some (.int (areTwo I c d))) (M1 := mk tl I L rd) rfl rfl rfl (c_areTwo tl I L rd c d ) ?_
  refine Runs.bl 1 (g := true) (i' := if decide ((areTwo I c d) = 0) = true then 11 else 5) (ls' := [some (.ref 0), some (.int c), some (.int d)]) (st' := []) (M' := mk tl I L rd) rfl rfl ?_
  refine Runs.brP (fun h1 => ?_) (fun h1 => ?_)
  · skip
    refine Runs.bl 1 (g := true) (i' := 12) (ls' := [some (.ref 0), some (.int c), some (.int d)]) (st' := [.int (0 : Int32)]) (M' := mk tl I L rd) rfl rfl ?_
    exact Runs.rz rfl rfl (by decide) (by rw [xHold, if_pos h1] <;> rfl) (by rw [xHold, if_pos h1] <;> rfl)
  · skip
    refine Runs.bl 4 (g := true) (i' := 9) (ls' := [some (.ref 0), some (.int c), some (.int d)]) (st' := [.int d, .int c, .ref 1]) (M' := mk tl I L rd) rfl rfl ?_
    refine Runs.call (k' := 35) (as := [.ref 1, .int c, .int d]) (rest := []) (r1 := some (.int (detains I c d))) (M1 := mk tl I L rd) rfl rfl rfl (c_detains tl I L rd c d (by first | assumption | (have q1 := areTwo_rng h1; have q2 := (show 0 ≤ (I 16 0).toInt ∧ (I 16 0).toInt ≤ 40 from by rw [hm, nI_toInt (by omega)]; omega); have q3 := (show 0 ≤ (I 2 0).toInt ∧ (I 2 0).toInt ≤ 12 from by rw [hq, nI_toInt (by omega)]; omega); (try simp only [Bool.and_true, Bool.true_and, Bool.and_eq_true, inb_iff, Int32.lt_iff_toInt_lt, Int32.le_iff_toInt_le, toI_0, toI_1, toI_2, toI_3, toI_4, toI_5, toI_6, toI_7, toI_8, toI_9, toI_10, toI_12, toI_16, toI_18, toI_20, toI_21, toI_23, toI_24, toI_32, toI_36, toI_39, toI_40, toI_48, toI_50, toI_60, toI_64, toI_75, toI_80, toI_100, toI_144, toI_160, toI_200, toI_256, toI_320, toI_380, toI_576, toI_600, toI_1000, toI_1280, toI_2400, toI_9999, toI_10000, toI_100000, toI_1000000, toI_m1, toI_m100000, toI_s9, toI_s8] at hm hb hq hqb hn hn4 hA hC hcr hdr q1 q2 q3  ⊢); omega))) ?_
    refine Runs.bl 1 (g := true) (i' := if decide ((detains I c d) = 0) = true then 13 else 11) (ls' := [some (.ref 0), some (.int c), some (.int d)]) (st' := []) (M' := mk tl I L rd) rfl rfl ?_
    refine Runs.brP (fun h2 => ?_) (fun h2 => ?_)
    · skip
      refine Runs.bl 3 (g := true) (i' := 16) (ls' := [some (.ref 0), some (.int c), some (.int d)]) (st' := [.int d, .ref 1]) (M' := mk tl I L rd) rfl rfl ?_
      refine Runs.call (k' := 34) (as := [.ref 1, .int d]) (rest := []) (r1 := some (.int (credOf_it I L d m))) (M1 := mk tl I L rd) rfl rfl rfl (c_credOf tl I L rd d m hm hb) ?_
      refine Runs.bl 5 (g := true) (i' := if decide (((credOf_it I L d m) &&& ((1 : Int32) <<< (c &&& 31))) = 0) = true then 30 else 22) (ls' := [some (.ref 0), some (.int c), some (.int d)]) (st' := []) (M' := mk tl I L rd) rfl rfl ?_
      refine Runs.brP (fun h3 => ?_) (fun h3 => ?_)
      · skip
        refine Runs.bl 1 (g := true) (i' := 31) (ls' := [some (.ref 0), some (.int c), some (.int d)]) (st' := [.int (0 : Int32)]) (M' := mk tl I L rd) rfl rfl ?_
        exact Runs.rz rfl rfl (by decide) (by rw [xHold, if_neg h1, if_pos h2, if_pos h3] <;> rfl) (by rw [xHold, if_neg h1, if_pos h2, if_pos h3] <;> rfl)
      · skip
        refine Runs.bl 6 (g := true) (i' := 28) (ls' := [some (.ref 0), some (.int c), some (.int d)]) (st' := [.int (0 : Int32), .int d, .ref 1, .ref 37]) (M' := mk tl I L rd) rfl rfl ?_
        refine Runs.call (k' := 40) (as := [.ref 37, .ref 1, .int d, .int (0 : Int32)]) (rest := []) (r1 := some (.int (nowT I L xa xl n m d (0 : Int32)))) (M1 := mk tl (up1 I 38 (nowG (I 38) I L xa n m d)) L rd) rfl rfl rfl (c_now tl I L rd d (0 : Int32) m n xa xl N I (I 38) (fun a _ => rfl) rfl hm hb hn hn4 hA hC (by first | assumption | (have q1 := areTwo_rng h1; have q2 := (show 0 ≤ (I 16 0).toInt ∧ (I 16 0).toInt ≤ 40 from by rw [hm, nI_toInt (by omega)]; omega); have q3 := (show 0 ≤ (I 2 0).toInt ∧ (I 2 0).toInt ≤ 12 from by rw [hq, nI_toInt (by omega)]; omega); (try simp only [Bool.and_true, Bool.true_and, Bool.and_eq_true, inb_iff, Int32.lt_iff_toInt_lt, Int32.le_iff_toInt_le, toI_0, toI_1, toI_2, toI_3, toI_4, toI_5, toI_6, toI_7, toI_8, toI_9, toI_10, toI_12, toI_16, toI_18, toI_20, toI_21, toI_23, toI_24, toI_32, toI_36, toI_39, toI_40, toI_48, toI_50, toI_60, toI_64, toI_75, toI_80, toI_100, toI_144, toI_160, toI_200, toI_256, toI_320, toI_380, toI_576, toI_600, toI_1000, toI_1280, toI_2400, toI_9999, toI_10000, toI_100000, toI_1000000, toI_m1, toI_m100000, toI_s9, toI_s8] at hm hb hq hqb hn hn4 hA hC hcr hdr q1 h2 h3 q2 q3  ⊢); omega))) ?_
        refine Runs.bl 1 (g := true) (i' := if decide (¬ (nowT I L xa xl n m d (0 : Int32)) = 0) = true then 32 else 30) (ls' := [some (.ref 0), some (.int c), some (.int d)]) (st' := []) (M' := mk tl (up1 I 38 (nowG (I 38) I L xa n m d)) L rd) rfl rfl ?_
        refine Runs.brP (fun h4 => ?_) (fun h4 => ?_)
        · skip
          refine Runs.bl 4 (g := true) (i' := 36) (ls' := [some (.ref 0), some (.int c), some (.int d)]) (st' := [.int d, .ref 2]) (M' := mk tl (up1 I 38 (nowG (I 38) I L xa n m d)) L rd) rfl rfl ?_
          refine Runs.call (k' := 56) (as := [.ref 2, .int d]) (rest := []) (r1 := some (.int (isHeld I d))) (M1 := mk tl (up1 I 38 (nowG (I 38) I L xa n m d)) L rd) rfl rfl rfl (c_isHeld tl (up1 I 38 (nowG (I 38) I L xa n m d)) L rd d ) ?_
          refine Runs.bl 1 (g := true) (i' := if decide (¬ (isHeld I d) = 0) = true then 53 else 38) (ls' := [some (.ref 0), some (.int c), some (.int d)]) (st' := []) (M' := mk tl (up1 I 38 (nowG (I 38) I L xa n m d)) L rd) rfl rfl ?_
          refine Runs.brP (fun h5 => ?_) (fun h5 => ?_)
          · skip
            refine Runs.bl 13 (g := inb d 12 && (inb d 12 && true)) (i' := 66) (ls' := [some (.ref 0), some (.int c), some (.int d)]) (st' := [.int (1 : Int32)]) (M' := mk tl (up2 (up1 I 38 (nowG (I 38) I L xa n m d)) 12 d.toNatClampNeg ((I 12 d.toNatClampNeg) ||| ((1 : Int32) <<< (c &&& 31)))) L rd) rfl (by have q1 := areTwo_rng h1; have q2 := isHeld_rng h5; have q3 := (show 0 ≤ (I 16 0).toInt ∧ (I 16 0).toInt ≤ 40 from by rw [hm, nI_toInt (by omega)]; omega); have q4 := (show 0 ≤ (I 2 0).toInt ∧ (I 2 0).toInt ≤ 12 from by rw [hq, nI_toInt (by omega)]; omega); simp only [Bool.and_true, Bool.true_and, Bool.and_eq_true, inb_iff, Int32.lt_iff_toInt_lt, Int32.le_iff_toInt_le, toI_0, toI_1, toI_2, toI_3, toI_4, toI_5, toI_6, toI_7, toI_8, toI_9, toI_10, toI_12, toI_16, toI_18, toI_20, toI_21, toI_23, toI_24, toI_32, toI_36, toI_39, toI_40, toI_48, toI_50, toI_60, toI_64, toI_75, toI_80, toI_100, toI_144, toI_160, toI_200, toI_256, toI_320, toI_380, toI_576, toI_600, toI_1000, toI_1280, toI_2400, toI_9999, toI_10000, toI_100000, toI_1000000, toI_m1, toI_m100000, toI_s9, toI_s8] at hm hb hq hqb hn hn4 hA hC hcr hdr q1 h2 h3 h4 q2 q3 q4 ⊢; omega) ?_
            exact Runs.rz rfl rfl (by decide) (by rw [xHold, if_neg h1, if_pos h2, if_neg h3, if_pos h4, if_pos h5] <;> rfl) (by rw [xHold, if_neg h1, if_pos h2, if_neg h3, if_pos h4, if_pos h5] <;> rfl)
          · skip
            refine Runs.bl 13 (g := true) (i' := 51) (ls' := [some (.ref 0), some (.int c), some (.int d)]) (st' := [.int (1 : Int32), .int d, .ref 1, .ref 37, .int (I 1 4), .int d, .ref 2]) (M' := mk tl (up1 I 38 (nowG (I 38) I L xa n m d)) L rd) rfl rfl ?_
            refine Runs.call (k' := 40) (as := [.ref 37, .ref 1, .int d, .int (1 : Int32)]) (rest := [.int (I 1 4), .int d, .ref 2]) (r1 := some (.int (nowT I L xa xl n m d (1 : Int32)))) (M1 := mk tl (up1 (up1 I 38 (nowG (I 38) I L xa n m d)) 38 (nowG (nowG (I 38) I L xa n m d) I L xa n m d)) L rd) rfl rfl rfl (c_now tl I L rd d (1 : Int32) m n xa xl N (up1 I 38 (nowG (I 38) I L xa n m d)) (nowG (I 38) I L xa n m d) (fun a ha => by unfold rel at ha; simp (disch := omega) only [up1_ne, up2_ne]) rfl hm hb hn hn4 hA hC (by first | assumption | (have q1 := areTwo_rng h1; have q2 := (show 0 ≤ (I 16 0).toInt ∧ (I 16 0).toInt ≤ 40 from by rw [hm, nI_toInt (by omega)]; omega); have q3 := (show 0 ≤ (I 2 0).toInt ∧ (I 2 0).toInt ≤ 12 from by rw [hq, nI_toInt (by omega)]; omega); (try simp only [Bool.and_true, Bool.true_and, Bool.and_eq_true, inb_iff, Int32.lt_iff_toInt_lt, Int32.le_iff_toInt_le, toI_0, toI_1, toI_2, toI_3, toI_4, toI_5, toI_6, toI_7, toI_8, toI_9, toI_10, toI_12, toI_16, toI_18, toI_20, toI_21, toI_23, toI_24, toI_32, toI_36, toI_39, toI_40, toI_48, toI_50, toI_60, toI_64, toI_75, toI_80, toI_100, toI_144, toI_160, toI_200, toI_256, toI_320, toI_380, toI_576, toI_600, toI_1000, toI_1280, toI_2400, toI_9999, toI_10000, toI_100000, toI_1000000, toI_m1, toI_m100000, toI_s9, toI_s8] at hm hb hq hqb hn hn4 hA hC hcr hdr q1 h2 h3 h4 h5 q2 q3  ⊢); omega))) ?_
            refine Runs.call (k' := 58) (as := [.ref 2, .int d, .int (I 1 4), .int (nowT I L xa xl n m d (1 : Int32))]) (rest := []) (r1 := none) (M1 := mk tl (enter (up1 (up1 I 38 (nowG (I 38) I L xa n m d)) 38 (nowG (nowG (I 38) I L xa n m d) I L xa n m d)) d (I 1 4) (nowT I L xa xl n m d (1 : Int32))) L rd) rfl rfl rfl (c_enter tl (up1 (up1 I 38 (nowG (I 38) I L xa n m d)) 38 (nowG (nowG (I 38) I L xa n m d) I L xa n m d)) L rd d (I 1 4) (nowT I L xa xl n m d (1 : Int32)) (by first | assumption | (have q1 := areTwo_rng h1; have q2 := (show 0 ≤ (I 16 0).toInt ∧ (I 16 0).toInt ≤ 40 from by rw [hm, nI_toInt (by omega)]; omega); have q3 := (show 0 ≤ (I 2 0).toInt ∧ (I 2 0).toInt ≤ 12 from by rw [hq, nI_toInt (by omega)]; omega); (try simp only [Bool.and_true, Bool.true_and, Bool.and_eq_true, inb_iff, Int32.lt_iff_toInt_lt, Int32.le_iff_toInt_le, toI_0, toI_1, toI_2, toI_3, toI_4, toI_5, toI_6, toI_7, toI_8, toI_9, toI_10, toI_12, toI_16, toI_18, toI_20, toI_21, toI_23, toI_24, toI_32, toI_36, toI_39, toI_40, toI_48, toI_50, toI_60, toI_64, toI_75, toI_80, toI_100, toI_144, toI_160, toI_200, toI_256, toI_320, toI_380, toI_576, toI_600, toI_1000, toI_1280, toI_2400, toI_9999, toI_10000, toI_100000, toI_1000000, toI_m1, toI_m100000, toI_s9, toI_s8] at hm hb hq hqb hn hn4 hA hC hcr hdr q1 h2 h3 h4 h5 q2 q3  ⊢); omega))) ?_
            refine Runs.bl 13 (g := inb d 12 && (inb d 12 && true)) (i' := 66) (ls' := [some (.ref 0), some (.int c), some (.int d)]) (st' := [.int (1 : Int32)]) (M' := mk tl (up2 (enter (up1 (up1 I 38 (nowG (I 38) I L xa n m d)) 38 (nowG (nowG (I 38) I L xa n m d) I L xa n m d)) d (I 1 4) (nowT I L xa xl n m d (1 : Int32))) 12 d.toNatClampNeg ((I 12 d.toNatClampNeg) ||| ((1 : Int32) <<< (c &&& 31)))) L rd) rfl (by have q1 := areTwo_rng h1; have q2 := (show 0 ≤ (I 16 0).toInt ∧ (I 16 0).toInt ≤ 40 from by rw [hm, nI_toInt (by omega)]; omega); have q3 := (show 0 ≤ (I 2 0).toInt ∧ (I 2 0).toInt ≤ 12 from by rw [hq, nI_toInt (by omega)]; omega); simp only [Bool.and_true, Bool.true_and, Bool.and_eq_true, inb_iff, Int32.lt_iff_toInt_lt, Int32.le_iff_toInt_le, toI_0, toI_1, toI_2, toI_3, toI_4, toI_5, toI_6, toI_7, toI_8, toI_9, toI_10, toI_12, toI_16, toI_18, toI_20, toI_21, toI_23, toI_24, toI_32, toI_36, toI_39, toI_40, toI_48, toI_50, toI_60, toI_64, toI_75, toI_80, toI_100, toI_144, toI_160, toI_200, toI_256, toI_320, toI_380, toI_576, toI_600, toI_1000, toI_1280, toI_2400, toI_9999, toI_10000, toI_100000, toI_1000000, toI_m1, toI_m100000, toI_s9, toI_s8] at hm hb hq hqb hn hn4 hA hC hcr hdr q1 h2 h3 h4 h5 q2 q3 ⊢; omega) ?_
            exact Runs.rz rfl rfl (by decide) (by rw [xHold, if_neg h1, if_pos h2, if_neg h3, if_pos h4, if_neg h5] <;> rfl) (by rw [xHold, if_neg h1, if_pos h2, if_neg h3, if_pos h4, if_neg h5] <;> rfl)
        · skip
          refine Runs.bl 1 (g := true) (i' := 31) (ls' := [some (.ref 0), some (.int c), some (.int d)]) (st' := [.int (0 : Int32)]) (M' := mk tl (up1 I 38 (nowG (I 38) I L xa n m d)) L rd) rfl rfl ?_
          exact Runs.rz rfl rfl (by decide) (by rw [xHold, if_neg h1, if_pos h2, if_neg h3, if_neg h4] <;> rfl) (by rw [xHold, if_neg h1, if_pos h2, if_neg h3, if_neg h4] <;> rfl)
    · skip
      refine Runs.bl 1 (g := true) (i' := 12) (ls' := [some (.ref 0), some (.int c), some (.int d)]) (st' := [.int (0 : Int32)]) (M' := mk tl I L rd) rfl rfl ?_
      exact Runs.rz rfl rfl (by decide) (by rw [xHold, if_neg h1, if_neg h2] <;> rfl) (by rw [xHold, if_neg h1, if_neg h2] <;> rfl)

def xWalk (I : Nat → Nat → Int32) (L : Nat → Nat → Int64) (xa xl : Nat → Nat) (n m q : Nat) (p : Int32) (o : Int32) : Int32 × (Nat → Nat → Int32) :=
  if o = 0 then (if (isHeld I p) = 0 then ((0 : Int32), I) else
    if ¬ (I 8 p.toNatClampNeg) = (0 : Int32) then ((1 : Int32), (up2 I 8 p.toNatClampNeg (0 : Int32))) else
    ((0 : Int32), I)) else
  if (isHeld I p) = 0 then ((0 : Int32), I) else
  if ¬ (I 8 p.toNatClampNeg) = (1 : Int32) then (if ¬ (nowT I L xa xl n m p (3 : Int32)) = 0 then ((1 : Int32), (up2 (up1 I 38 (nowG (I 38) I L xa n m p)) 8 p.toNatClampNeg (1 : Int32))) else
    ((0 : Int32), (up1 I 38 (nowG (I 38) I L xa n m p)))) else
  ((0 : Int32), I)

set_option maxRecDepth 20000 in
theorem c_xWalk (tl : List (Nat × Nat)) (I : Nat → Nat → Int32) (L : Nat → Nat → Int64) (rd : Nat → Nat → Option Nat) (xa xl N : Nat → Nat) (n m q : Nat) (p : Int32) (o : Int32) (hm : I 16 0 = nI m) (hb : m ≤ 40) (hq : I 2 0 = nI q) (hqb : q ≤ 12) (hn : I 1 3 = nI n) (hn4 : n ≤ 4) (hA : AO tl rd n xa xl N) (hC : AC I n xa N) (hcr : ∀ d, d < m → 0 ≤ (I 18 d).toInt ∧ (I 18 d).toInt < 12) (hdr : ∀ d, d < m → 0 ≤ (I 17 d).toInt ∧ (I 17 d).toInt < 12) : Call 125 [.ref 0, .int p, .int o] (mk tl I L rd) (some (.int ((xWalk I L xa xl n m q p o).1))) (mk tl ((xWalk I L xa xl n m q p o).2) L rd) := by
  show Runs 125 0 [some (.ref 0), some (.int p), some (.int o), none] [] (mk tl I L rd) (some (.int ((xWalk I L xa xl n m q p o).1))) (mk tl ((xWalk I L xa xl n m q p o).2) L rd)
  refine Runs.bl 2 (g := true) (i' := if decide (o = 0) = true then 4 else 2) (ls' := [some (.ref 0), some (.int p), some (.int o), none]) (st' := []) (M' := mk tl I L rd) rfl rfl ?_
  refine Runs.brP (fun h1 => ?_) (fun h1 => ?_)
  · skip
    refine Runs.bl 6 (g := true) (i' := 10) (ls' := [some (.ref 0), some (.int p), some (.int o), some (.int (0 : Int32))]) (st' := [.int p, .ref 2]) (M' := mk tl I L rd) rfl rfl ?_
    refine Runs.call (k' := 56) (as := [.ref 2, .int p]) (rest := []) (r1 := some (.int (isHeld I p))) (M1 := mk tl I L rd) rfl rfl rfl (c_isHeld tl I L rd p ) ?_
    refine Runs.bl 1 (g := true) (i' := if decide ((isHeld I p) = 0) = true then 20 else 12) (ls' := [some (.ref 0), some (.int p), some (.int o), some (.int (0 : Int32))]) (st' := []) (M' := mk tl I L rd) rfl rfl ?_
    refine Runs.brP (fun h2 => ?_) (fun h2 => ?_)
    · skip
      refine Runs.bl 1 (g := true) (i' := 21) (ls' := [some (.ref 0), some (.int p), some (.int o), some (.int (0 : Int32))]) (st' := [.int (0 : Int32)]) (M' := mk tl I L rd) rfl rfl ?_
      exact Runs.rz rfl rfl (by decide) (by rw [xWalk, if_pos h1, if_pos h2] <;> rfl) (by rw [xWalk, if_pos h1, if_pos h2] <;> rfl)
    · skip
      refine Runs.bl 8 (g := inb p 12 && true) (i' := if decide (¬ (I 8 p.toNatClampNeg) = (0 : Int32)) = true then 22 else 20) (ls' := [some (.ref 0), some (.int p), some (.int o), some (.int (0 : Int32))]) (st' := []) (M' := mk tl I L rd) rfl (by have q1 := isHeld_rng h2; have q2 := (show 0 ≤ (I 16 0).toInt ∧ (I 16 0).toInt ≤ 40 from by rw [hm, nI_toInt (by omega)]; omega); have q3 := (show 0 ≤ (I 2 0).toInt ∧ (I 2 0).toInt ≤ 12 from by rw [hq, nI_toInt (by omega)]; omega); simp only [Bool.and_true, Bool.true_and, Bool.and_eq_true, inb_iff, Int32.lt_iff_toInt_lt, Int32.le_iff_toInt_le, toI_0, toI_1, toI_2, toI_3, toI_4, toI_5, toI_6, toI_7, toI_8, toI_9, toI_10, toI_12, toI_16, toI_18, toI_20, toI_21, toI_23, toI_24, toI_32, toI_36, toI_39, toI_40, toI_48, toI_50, toI_60, toI_64, toI_75, toI_80, toI_100, toI_144, toI_160, toI_200, toI_256, toI_320, toI_380, toI_576, toI_600, toI_1000, toI_1280, toI_2400, toI_9999, toI_10000, toI_100000, toI_1000000, toI_m1, toI_m100000, toI_s9, toI_s8] at hm hb hq hqb hn hn4 hA hC hcr hdr h1 q1 q2 q3 ⊢; omega) ?_
      refine Runs.brP (fun h3 => ?_) (fun h3 => ?_)
      · skip
        refine Runs.bl 2 (g := true) (i' := if decide (o = 0) = true then 34 else 24) (ls' := [some (.ref 0), some (.int p), some (.int o), some (.int (0 : Int32))]) (st' := []) (M' := mk tl I L rd) rfl rfl ?_
        refine Runs.brT h1 ?_
        refine Runs.bl 8 (g := inb p 12 && true) (i' := 42) (ls' := [some (.ref 0), some (.int p), some (.int o), some (.int (0 : Int32))]) (st' := [.int (1 : Int32)]) (M' := mk tl (up2 I 8 p.toNatClampNeg (0 : Int32)) L rd) rfl (by have q1 := isHeld_rng h2; have q2 := (show 0 ≤ (I 16 0).toInt ∧ (I 16 0).toInt ≤ 40 from by rw [hm, nI_toInt (by omega)]; omega); have q3 := (show 0 ≤ (I 2 0).toInt ∧ (I 2 0).toInt ≤ 12 from by rw [hq, nI_toInt (by omega)]; omega); simp only [Bool.and_true, Bool.true_and, Bool.and_eq_true, inb_iff, Int32.lt_iff_toInt_lt, Int32.le_iff_toInt_le, toI_0, toI_1, toI_2, toI_3, toI_4, toI_5, toI_6, toI_7, toI_8, toI_9, toI_10, toI_12, toI_16, toI_18, toI_20, toI_21, toI_23, toI_24, toI_32, toI_36, toI_39, toI_40, toI_48, toI_50, toI_60, toI_64, toI_75, toI_80, toI_100, toI_144, toI_160, toI_200, toI_256, toI_320, toI_380, toI_576, toI_600, toI_1000, toI_1280, toI_2400, toI_9999, toI_10000, toI_100000, toI_1000000, toI_m1, toI_m100000, toI_s9, toI_s8] at hm hb hq hqb hn hn4 hA hC hcr hdr h1 q1 h3 q2 q3 ⊢; omega) ?_
        exact Runs.rz rfl rfl (by decide) (by rw [xWalk, if_pos h1, if_neg h2, if_pos h3] <;> rfl) (by rw [xWalk, if_pos h1, if_neg h2, if_pos h3] <;> rfl)
      · skip
        refine Runs.bl 1 (g := true) (i' := 21) (ls' := [some (.ref 0), some (.int p), some (.int o), some (.int (0 : Int32))]) (st' := [.int (0 : Int32)]) (M' := mk tl I L rd) rfl rfl ?_
        exact Runs.rz rfl rfl (by decide) (by rw [xWalk, if_pos h1, if_neg h2, if_neg h3] <;> rfl) (by rw [xWalk, if_pos h1, if_neg h2, if_neg h3] <;> rfl)
  · skip
    refine Runs.bl 7 (g := true) (i' := 10) (ls' := [some (.ref 0), some (.int p), some (.int o), some (.int (1 : Int32))]) (st' := [.int p, .ref 2]) (M' := mk tl I L rd) rfl rfl ?_
    refine Runs.call (k' := 56) (as := [.ref 2, .int p]) (rest := []) (r1 := some (.int (isHeld I p))) (M1 := mk tl I L rd) rfl rfl rfl (c_isHeld tl I L rd p ) ?_
    refine Runs.bl 1 (g := true) (i' := if decide ((isHeld I p) = 0) = true then 20 else 12) (ls' := [some (.ref 0), some (.int p), some (.int o), some (.int (1 : Int32))]) (st' := []) (M' := mk tl I L rd) rfl rfl ?_
    refine Runs.brP (fun h4 => ?_) (fun h4 => ?_)
    · skip
      refine Runs.bl 1 (g := true) (i' := 21) (ls' := [some (.ref 0), some (.int p), some (.int o), some (.int (1 : Int32))]) (st' := [.int (0 : Int32)]) (M' := mk tl I L rd) rfl rfl ?_
      exact Runs.rz rfl rfl (by decide) (by rw [xWalk, if_neg h1, if_pos h4] <;> rfl) (by rw [xWalk, if_neg h1, if_pos h4] <;> rfl)
    · skip
      refine Runs.bl 8 (g := inb p 12 && true) (i' := if decide (¬ (I 8 p.toNatClampNeg) = (1 : Int32)) = true then 22 else 20) (ls' := [some (.ref 0), some (.int p), some (.int o), some (.int (1 : Int32))]) (st' := []) (M' := mk tl I L rd) rfl (by have q1 := isHeld_rng h4; have q2 := (show 0 ≤ (I 16 0).toInt ∧ (I 16 0).toInt ≤ 40 from by rw [hm, nI_toInt (by omega)]; omega); have q3 := (show 0 ≤ (I 2 0).toInt ∧ (I 2 0).toInt ≤ 12 from by rw [hq, nI_toInt (by omega)]; omega); simp only [Bool.and_true, Bool.true_and, Bool.and_eq_true, inb_iff, Int32.lt_iff_toInt_lt, Int32.le_iff_toInt_le, toI_0, toI_1, toI_2, toI_3, toI_4, toI_5, toI_6, toI_7, toI_8, toI_9, toI_10, toI_12, toI_16, toI_18, toI_20, toI_21, toI_23, toI_24, toI_32, toI_36, toI_39, toI_40, toI_48, toI_50, toI_60, toI_64, toI_75, toI_80, toI_100, toI_144, toI_160, toI_200, toI_256, toI_320, toI_380, toI_576, toI_600, toI_1000, toI_1280, toI_2400, toI_9999, toI_10000, toI_100000, toI_1000000, toI_m1, toI_m100000, toI_s9, toI_s8] at hm hb hq hqb hn hn4 hA hC hcr hdr h1 q1 q2 q3 ⊢; omega) ?_
      refine Runs.brP (fun h5 => ?_) (fun h5 => ?_)
      · skip
        refine Runs.bl 2 (g := true) (i' := if decide (o = 0) = true then 34 else 24) (ls' := [some (.ref 0), some (.int p), some (.int o), some (.int (1 : Int32))]) (st' := []) (M' := mk tl I L rd) rfl rfl ?_
        refine Runs.brF h1 ?_
        refine Runs.bl 6 (g := true) (i' := 30) (ls' := [some (.ref 0), some (.int p), some (.int o), some (.int (1 : Int32))]) (st' := [.int (3 : Int32), .int p, .ref 1, .ref 37]) (M' := mk tl I L rd) rfl rfl ?_
        refine Runs.call (k' := 40) (as := [.ref 37, .ref 1, .int p, .int (3 : Int32)]) (rest := []) (r1 := some (.int (nowT I L xa xl n m p (3 : Int32)))) (M1 := mk tl (up1 I 38 (nowG (I 38) I L xa n m p)) L rd) rfl rfl rfl (c_now tl I L rd p (3 : Int32) m n xa xl N I (I 38) (fun a _ => rfl) rfl hm hb hn hn4 hA hC (by first | assumption | (have q1 := isHeld_rng h4; have q2 := (show 0 ≤ (I 16 0).toInt ∧ (I 16 0).toInt ≤ 40 from by rw [hm, nI_toInt (by omega)]; omega); have q3 := (show 0 ≤ (I 2 0).toInt ∧ (I 2 0).toInt ≤ 12 from by rw [hq, nI_toInt (by omega)]; omega); (try simp only [Bool.and_true, Bool.true_and, Bool.and_eq_true, inb_iff, Int32.lt_iff_toInt_lt, Int32.le_iff_toInt_le, toI_0, toI_1, toI_2, toI_3, toI_4, toI_5, toI_6, toI_7, toI_8, toI_9, toI_10, toI_12, toI_16, toI_18, toI_20, toI_21, toI_23, toI_24, toI_32, toI_36, toI_39, toI_40, toI_48, toI_50, toI_60, toI_64, toI_75, toI_80, toI_100, toI_144, toI_160, toI_200, toI_256, toI_320, toI_380, toI_576, toI_600, toI_1000, toI_1280, toI_2400, toI_9999, toI_10000, toI_100000, toI_1000000, toI_m1, toI_m100000, toI_s9, toI_s8] at hm hb hq hqb hn hn4 hA hC hcr hdr h1 q1 h5 q2 q3  ⊢); omega))) ?_
        refine Runs.bl 1 (g := true) (i' := if decide (¬ (nowT I L xa xl n m p (3 : Int32)) = 0) = true then 34 else 32) (ls' := [some (.ref 0), some (.int p), some (.int o), some (.int (1 : Int32))]) (st' := []) (M' := mk tl (up1 I 38 (nowG (I 38) I L xa n m p)) L rd) rfl rfl ?_
        refine Runs.brP (fun h6 => ?_) (fun h6 => ?_)
        · skip
          refine Runs.bl 8 (g := inb p 12 && true) (i' := 42) (ls' := [some (.ref 0), some (.int p), some (.int o), some (.int (1 : Int32))]) (st' := [.int (1 : Int32)]) (M' := mk tl (up2 (up1 I 38 (nowG (I 38) I L xa n m p)) 8 p.toNatClampNeg (1 : Int32)) L rd) rfl (by have q1 := isHeld_rng h4; have q2 := (show 0 ≤ (I 16 0).toInt ∧ (I 16 0).toInt ≤ 40 from by rw [hm, nI_toInt (by omega)]; omega); have q3 := (show 0 ≤ (I 2 0).toInt ∧ (I 2 0).toInt ≤ 12 from by rw [hq, nI_toInt (by omega)]; omega); simp only [Bool.and_true, Bool.true_and, Bool.and_eq_true, inb_iff, Int32.lt_iff_toInt_lt, Int32.le_iff_toInt_le, toI_0, toI_1, toI_2, toI_3, toI_4, toI_5, toI_6, toI_7, toI_8, toI_9, toI_10, toI_12, toI_16, toI_18, toI_20, toI_21, toI_23, toI_24, toI_32, toI_36, toI_39, toI_40, toI_48, toI_50, toI_60, toI_64, toI_75, toI_80, toI_100, toI_144, toI_160, toI_200, toI_256, toI_320, toI_380, toI_576, toI_600, toI_1000, toI_1280, toI_2400, toI_9999, toI_10000, toI_100000, toI_1000000, toI_m1, toI_m100000, toI_s9, toI_s8] at hm hb hq hqb hn hn4 hA hC hcr hdr h1 q1 h5 h6 q2 q3 ⊢; omega) ?_
          exact Runs.rz rfl rfl (by decide) (by rw [xWalk, if_neg h1, if_neg h4, if_pos h5, if_pos h6] <;> rfl) (by rw [xWalk, if_neg h1, if_neg h4, if_pos h5, if_pos h6] <;> rfl)
        · skip
          refine Runs.bl 1 (g := true) (i' := 33) (ls' := [some (.ref 0), some (.int p), some (.int o), some (.int (1 : Int32))]) (st' := [.int (0 : Int32)]) (M' := mk tl (up1 I 38 (nowG (I 38) I L xa n m p)) L rd) rfl rfl ?_
          exact Runs.rz rfl rfl (by decide) (by rw [xWalk, if_neg h1, if_neg h4, if_pos h5, if_neg h6] <;> rfl) (by rw [xWalk, if_neg h1, if_neg h4, if_pos h5, if_neg h6] <;> rfl)
      · skip
        refine Runs.bl 1 (g := true) (i' := 21) (ls' := [some (.ref 0), some (.int p), some (.int o), some (.int (1 : Int32))]) (st' := [.int (0 : Int32)]) (M' := mk tl I L rd) rfl rfl ?_
        exact Runs.rz rfl rfl (by decide) (by rw [xWalk, if_neg h1, if_neg h4, if_neg h5] <;> rfl) (by rw [xWalk, if_neg h1, if_neg h4, if_neg h5] <;> rfl)

