/-! public methods of the class, second part (printed by p29.py) -/
theorem nI_m1 {n : Nat} (h : n < 2 ^ 31) : (nI n - 1).toInt = (n : Int) - 1 := by
  cases n with
  | zero => decide
  | succ k => rw [nI_pred, nI_toInt (by omega)]; omega
theorem c_tellsByI (tl : List (Nat × Nat)) (I : Nat → Nat → Int32) (L : Nat → Nat → Int64) (rd : Nat → Nat → Option Nat) (p w a : Int32) (m : Nat) (n : Nat) (xa xl N : Nat → Nat) (ha : 0 ≤ a.toInt ∧ a.toInt < n) (hm : I 16 0 = nI m) (hb : m ≤ 40) (hn : I 1 3 = nI n) (hn4 : n ≤ 4) (hA : AO tl rd n xa xl N) (hC : AC I n xa N) (hp : 0 ≤ p.toInt ∧ p.toInt < 12) : Call 41 [.ref 37, .ref 1, .int a, .int p, .int w] (mk tl I L rd) (some (.int (tellA I L xa xl p m w (some a.toNatClampNeg)))) (mk tl (up1 I 38 (tellR I L p m (some a.toNatClampNeg))) L rd) := by
  obtain ⟨x, hx, rfl⟩ := rng_nI ha
  rw [nI_clamp (by omega)]
  exact c_tellsBy tl I L rd p w (some x) m n xa xl N (fun _ h => by cases h; exact hx) hm hb hn hn4 hA hC hp

def xTells (I : Nat → Nat → Int32) (L : Nat → Nat → Int64) (xa xl : Nat → Nat) (n m q : Nat) (p : Int32) (t : Int32) (a : Int32) : Int32 × (Nat → Nat → Int32) :=
  if (hasP I p) = 0 then ((-1 : Int32), I) else
  if (outside I t (0 : Int32) (8 : Int32)) = 0 then (if ¬ a = (-1 : Int32) then (if (outside I a (0 : Int32) ((I 1 3) - (1 : Int32))) = 0 then (tellA I L xa xl p m t (some a.toNatClampNeg), (up1 I 38 (tellR I L p m (some a.toNatClampNeg)))) else
      ((-1 : Int32), I)) else
    (nowT I L xa xl n m p t, (up1 I 38 (nowG (I 38) I L xa n m p)))) else
  ((-1 : Int32), I)

set_option maxRecDepth 20000 in
theorem c_xTells (tl : List (Nat × Nat)) (I : Nat → Nat → Int32) (L : Nat → Nat → Int64) (rd : Nat → Nat → Option Nat) (xa xl N : Nat → Nat) (n m q : Nat) (p : Int32) (t : Int32) (a : Int32) (hm : I 16 0 = nI m) (hb : m ≤ 40) (hq : I 2 0 = nI q) (hqb : q ≤ 12) (hn : I 1 3 = nI n) (hn4 : n ≤ 4) (hA : AO tl rd n xa xl N) (hC : AC I n xa N) (hcr : ∀ d, d < m → 0 ≤ (I 18 d).toInt ∧ (I 18 d).toInt < 12) (hdr : ∀ d, d < m → 0 ≤ (I 17 d).toInt ∧ (I 17 d).toInt < 12) : Call 119 [.ref 0, .int p, .int t, .int a] (mk tl I L rd) (some (.int ((xTells I L xa xl n m q p t a).1))) (mk tl ((xTells I L xa xl n m q p t a).2) L rd) := by
  show Runs 119 0 [some (.ref 0), some (.int p), some (.int t), some (.int a)] [] (mk tl I L rd) (some (.int ((xTells I L xa xl n m q p t a).1))) (mk tl ((xTells I L xa xl n m q p t a).2) L rd)
  refine Runs.bl 4 (g := true) (i' := 4) (ls' := [some (.ref 0), some (.int p), some (.int t), some (.int a)]) (st' := [.int p, .ref 2]) (M' := mk tl I L rd) rfl rfl ?_
  refine Runs.call (k' := 55) (as := [.ref 2, .int p]) (rest := []) (r1 := some (.int (hasP I p))) (M1 := mk tl I L rd) rfl rfl rfl (c_hasP tl I L rd p ) ?_
  refine Runs.bl 1 (g := true) (i' := if decide ((hasP I p) = 0) = true then 11 else 6) (ls' := [some (.ref 0), some (.int p), some (.int t), some (.int a)]) (st' := []) (M' := mk tl I L rd) rfl rfl ?_
  refine Runs.brP (fun h1 => ?_) (fun h1 => ?_)
  · skip
    refine Runs.bl 1 (g := true) (i' := 12) (ls' := [some (.ref 0), some (.int p), some (.int t), some (.int a)]) (st' := [.int (-1 : Int32)]) (M' := mk tl I L rd) rfl rfl ?_
    exact Runs.ri rfl rfl (by rw [xTells, if_pos h1] <;> rfl) (by rw [xTells, if_pos h1] <;> rfl)
  · skip
    refine Runs.bl 3 (g := true) (i' := 9) (ls' := [some (.ref 0), some (.int p), some (.int t), some (.int a)]) (st' := [.int (8 : Int32), .int (0 : Int32), .int t]) (M' := mk tl I L rd) rfl rfl ?_
    refine Runs.call (k' := 147) (as := [.int t, .int (0 : Int32), .int (8 : Int32)]) (rest := []) (r1 := some (.int (outside I t (0 : Int32) (8 : Int32)))) (M1 := mk tl I L rd) rfl rfl rfl (c_outside tl I L rd t (0 : Int32) (8 : Int32) ) ?_
    refine Runs.bl 1 (g := true) (i' := if decide ((outside I t (0 : Int32) (8 : Int32)) = 0) = true then 13 else 11) (ls' := [some (.ref 0), some (.int p), some (.int t), some (.int a)]) (st' := []) (M' := mk tl I L rd) rfl rfl ?_
    refine Runs.brP (fun h2 => ?_) (fun h2 => ?_)
    · skip
      refine Runs.bl 3 (g := true) (i' := if decide (¬ a = (-1 : Int32)) = true then 24 else 16) (ls' := [some (.ref 0), some (.int p), some (.int t), some (.int a)]) (st' := []) (M' := mk tl I L rd) rfl rfl ?_
      refine Runs.brP (fun h3 => ?_) (fun h3 => ?_)
      · skip
        refine Runs.bl 7 (g := true) (i' := 31) (ls' := [some (.ref 0), some (.int p), some (.int t), some (.int a)]) (st' := [.int ((I 1 3) - (1 : Int32)), .int (0 : Int32), .int a]) (M' := mk tl I L rd) rfl rfl ?_
        refine Runs.call (k' := 147) (as := [.int a, .int (0 : Int32), .int ((I 1 3) - (1 : Int32))]) (rest := []) (r1 := some (.int (outside I a (0 : Int32) ((I 1 3) - (1 : Int32))))) (M1 := mk tl I L rd) rfl rfl rfl (c_outside tl I L rd a (0 : Int32) ((I 1 3) - (1 : Int32)) ) ?_
        refine Runs.bl 1 (g := true) (i' := if decide ((outside I a (0 : Int32) ((I 1 3) - (1 : Int32))) = 0) = true then 35 else 33) (ls' := [some (.ref 0), some (.int p), some (.int t), some (.int a)]) (st' := []) (M' := mk tl I L rd) rfl rfl ?_
        refine Runs.brP (fun h4 => ?_) (fun h4 => ?_)
        · skip
          refine Runs.bl 7 (g := true) (i' := 42) (ls' := [some (.ref 0), some (.int p), some (.int t), some (.int a)]) (st' := [.int t, .int p, .int a, .ref 1, .ref 37]) (M' := mk tl I L rd) rfl rfl ?_
          refine Runs.call (k' := 41) (as := [.ref 37, .ref 1, .int a, .int p, .int t]) (rest := []) (r1 := some (.int (tellA I L xa xl p m t (some a.toNatClampNeg)))) (M1 := mk tl (up1 I 38 (tellR I L p m (some a.toNatClampNeg))) L rd) rfl rfl rfl (c_tellsByI tl I L rd p t a m n xa xl N (by first | assumption | (have q1 := hasP_rng h1; have q2 := outside_rng h2; have q3 := outside_rng h4; have q4 := (show 0 ≤ (I 16 0).toInt ∧ (I 16 0).toInt ≤ 40 from by rw [hm, nI_toInt (by omega)]; omega); have q5 := (show 0 ≤ (I 2 0).toInt ∧ (I 2 0).toInt ≤ 12 from by rw [hq, nI_toInt (by omega)]; omega); have q6 := (show (I 1 3 - 1).toInt = (n : Int) - 1 from by rw [hn]; exact nI_m1 (by omega)); (try simp only [Bool.and_true, Bool.true_and, Bool.and_eq_true, inb_iff, Int32.lt_iff_toInt_lt, Int32.le_iff_toInt_le, toI_0, toI_1, toI_2, toI_3, toI_4, toI_5, toI_6, toI_7, toI_8, toI_9, toI_10, toI_12, toI_16, toI_18, toI_20, toI_21, toI_23, toI_24, toI_32, toI_36, toI_39, toI_40, toI_48, toI_50, toI_60, toI_64, toI_75, toI_80, toI_100, toI_144, toI_160, toI_200, toI_256, toI_320, toI_380, toI_576, toI_600, toI_1000, toI_1280, toI_2400, toI_9999, toI_10000, toI_100000, toI_1000000, toI_m1, toI_m100000, toI_s9, toI_s8] at hm hb hq hqb hn hn4 hA hC hcr hdr q1 q2 h3 q3 q4 q5 q6  ⊢); omega)) hm hb hn hn4 hA hC (by first | assumption | (have q1 := hasP_rng h1; have q2 := outside_rng h2; have q3 := outside_rng h4; have q4 := (show 0 ≤ (I 16 0).toInt ∧ (I 16 0).toInt ≤ 40 from by rw [hm, nI_toInt (by omega)]; omega); have q5 := (show 0 ≤ (I 2 0).toInt ∧ (I 2 0).toInt ≤ 12 from by rw [hq, nI_toInt (by omega)]; omega); have q6 := (show (I 1 3 - 1).toInt = (n : Int) - 1 from by rw [hn]; exact nI_m1 (by omega)); (try simp only [Bool.and_true, Bool.true_and, Bool.and_eq_true, inb_iff, Int32.lt_iff_toInt_lt, Int32.le_iff_toInt_le, toI_0, toI_1, toI_2, toI_3, toI_4, toI_5, toI_6, toI_7, toI_8, toI_9, toI_10, toI_12, toI_16, toI_18, toI_20, toI_21, toI_23, toI_24, toI_32, toI_36, toI_39, toI_40, toI_48, toI_50, toI_60, toI_64, toI_75, toI_80, toI_100, toI_144, toI_160, toI_200, toI_256, toI_320, toI_380, toI_576, toI_600, toI_1000, toI_1280, toI_2400, toI_9999, toI_10000, toI_100000, toI_1000000, toI_m1, toI_m100000, toI_s9, toI_s8] at hm hb hq hqb hn hn4 hA hC hcr hdr q1 q2 h3 q3 q4 q5 q6  ⊢); omega))) ?_
          exact Runs.ri rfl rfl (by rw [xTells, if_neg h1, if_pos h2, if_pos h3, if_pos h4] <;> rfl) (by rw [xTells, if_neg h1, if_pos h2, if_pos h3, if_pos h4] <;> rfl)
        · skip
          refine Runs.bl 2 (g := true) (i' := 43) (ls' := [some (.ref 0), some (.int p), some (.int t), some (.int a)]) (st' := [.int (-1 : Int32)]) (M' := mk tl I L rd) rfl rfl ?_
          exact Runs.ri rfl rfl (by rw [xTells, if_neg h1, if_pos h2, if_pos h3, if_neg h4] <;> rfl) (by rw [xTells, if_neg h1, if_pos h2, if_pos h3, if_neg h4] <;> rfl)
      · skip
        refine Runs.bl 6 (g := true) (i' := 22) (ls' := [some (.ref 0), some (.int p), some (.int t), some (.int a)]) (st' := [.int t, .int p, .ref 1, .ref 37]) (M' := mk tl I L rd) rfl rfl ?_
        refine Runs.call (k' := 40) (as := [.ref 37, .ref 1, .int p, .int t]) (rest := []) (r1 := some (.int (nowT I L xa xl n m p t))) (M1 := mk tl (up1 I 38 (nowG (I 38) I L xa n m p)) L rd) rfl rfl rfl (c_now tl I L rd p t m n xa xl N I (I 38) (fun a _ => rfl) rfl hm hb hn hn4 hA hC (by first | assumption | (have q1 := hasP_rng h1; have q2 := outside_rng h2; have q3 := (show 0 ≤ (I 16 0).toInt ∧ (I 16 0).toInt ≤ 40 from by rw [hm, nI_toInt (by omega)]; omega); have q4 := (show 0 ≤ (I 2 0).toInt ∧ (I 2 0).toInt ≤ 12 from by rw [hq, nI_toInt (by omega)]; omega); have q5 := (show (I 1 3 - 1).toInt = (n : Int) - 1 from by rw [hn]; exact nI_m1 (by omega)); (try simp only [Bool.and_true, Bool.true_and, Bool.and_eq_true, inb_iff, Int32.lt_iff_toInt_lt, Int32.le_iff_toInt_le, toI_0, toI_1, toI_2, toI_3, toI_4, toI_5, toI_6, toI_7, toI_8, toI_9, toI_10, toI_12, toI_16, toI_18, toI_20, toI_21, toI_23, toI_24, toI_32, toI_36, toI_39, toI_40, toI_48, toI_50, toI_60, toI_64, toI_75, toI_80, toI_100, toI_144, toI_160, toI_200, toI_256, toI_320, toI_380, toI_576, toI_600, toI_1000, toI_1280, toI_2400, toI_9999, toI_10000, toI_100000, toI_1000000, toI_m1, toI_m100000, toI_s9, toI_s8] at hm hb hq hqb hn hn4 hA hC hcr hdr q1 q2 h3 q3 q4 q5  ⊢); omega))) ?_
        exact Runs.ri rfl rfl (by rw [xTells, if_neg h1, if_pos h2, if_neg h3] <;> rfl) (by rw [xTells, if_neg h1, if_pos h2, if_neg h3] <;> rfl)
    · skip
      refine Runs.bl 1 (g := true) (i' := 12) (ls' := [some (.ref 0), some (.int p), some (.int t), some (.int a)]) (st' := [.int (-1 : Int32)]) (M' := mk tl I L rd) rfl rfl ?_
      exact Runs.ri rfl rfl (by rw [xTells, if_neg h1, if_neg h2] <;> rfl) (by rw [xTells, if_neg h1, if_neg h2] <;> rfl)

def xFeed (I : Nat → Nat → Int32) (L : Nat → Nat → Int64) (xa xl : Nat → Nat) (n m q : Nat) (a b c d e : Int32) : Int32 × (Nat → Nat → Int32) :=
  if ((I 1 10) + (20 : Int32)) ≤ (600 : Int32) then ((feed4 (feed4 (feed4 (feed4 (feed4 I a) b) c) d) e) 1 10, (feed4 (feed4 (feed4 (feed4 (feed4 I a) b) c) d) e)) else
  ((-1 : Int32), I)

set_option maxRecDepth 20000 in
theorem c_xFeed (tl : List (Nat × Nat)) (I : Nat → Nat → Int32) (L : Nat → Nat → Int64) (rd : Nat → Nat → Option Nat) (xa xl N : Nat → Nat) (n m q : Nat) (t : Nat) (a b c d e : Int32) (hm : I 16 0 = nI m) (hb : m ≤ 40) (hq : I 2 0 = nI q) (hqb : q ≤ 12) (hn : I 1 3 = nI n) (hn4 : n ≤ 4) (hA : AO tl rd n xa xl N) (hC : AC I n xa N) (hcr : ∀ d, d < m → 0 ≤ (I 18 d).toInt ∧ (I 18 d).toInt < 12) (hdr : ∀ d, d < m → 0 ≤ (I 17 d).toInt ∧ (I 17 d).toInt < 12) (ht : I 1 10 = nI t) (ht6 : t ≤ 600) : Call 114 [.ref 0, .int a, .int b, .int c, .int d, .int e] (mk tl I L rd) (some (.int ((xFeed I L xa xl n m q a b c d e).1))) (mk tl ((xFeed I L xa xl n m q a b c d e).2) L rd) := by
  show Runs 114 0 [some (.ref 0), some (.int a), some (.int b), some (.int c), some (.int d), some (.int e)] [] (mk tl I L rd) (some (.int ((xFeed I L xa xl n m q a b c d e).1))) (mk tl ((xFeed I L xa xl n m q a b c d e).2) L rd)
  refine Runs.bl 7 (g := true) (i' := if decide (((I 1 10) + (20 : Int32)) ≤ (600 : Int32)) = true then 9 else 7) (ls' := [some (.ref 0), some (.int a), some (.int b), some (.int c), some (.int d), some (.int e)]) (st' := []) (M' := mk tl I L rd) rfl rfl ?_
  refine Runs.brP (fun h1 => ?_) (fun h1 => ?_)
  · skip
    refine Runs.bl 3 (g := true) (i' := 12) (ls' := [some (.ref 0), some (.int a), some (.int b), some (.int c), some (.int d), some (.int e)]) (st' := [.int a, .ref 1]) (M' := mk tl I L rd) rfl rfl ?_
    refine Runs.call (k' := 29) (as := [.ref 1, .int a]) (rest := []) (r1 := none) (M1 := mk tl (feed4 I a) L rd) rfl rfl rfl (c_feed4 tl I L rd a (t + 0) ht (by have ht20 : t + 20 ≤ 600 := (by have e : (I 1 10 + 20).toInt = t + 20 := (by rw [ht]; exact (by rw [show nI t + 20 = nI (t + 20) from nI_add t 20, nI_toInt (by omega)]; rfl)); simp only [Bool.and_true, Bool.true_and, Bool.and_eq_true, inb_iff, Int32.lt_iff_toInt_lt, Int32.le_iff_toInt_le, toI_0, toI_1, toI_2, toI_3, toI_4, toI_5, toI_6, toI_7, toI_8, toI_9, toI_10, toI_12, toI_16, toI_18, toI_20, toI_21, toI_23, toI_24, toI_32, toI_36, toI_39, toI_40, toI_48, toI_50, toI_60, toI_64, toI_75, toI_80, toI_100, toI_144, toI_160, toI_200, toI_256, toI_320, toI_380, toI_576, toI_600, toI_1000, toI_1280, toI_2400, toI_9999, toI_10000, toI_100000, toI_1000000, toI_m1, toI_m100000, toI_s9, toI_s8] at h1; omega); omega)) ?_
    refine Runs.bl 3 (g := true) (i' := 16) (ls' := [some (.ref 0), some (.int a), some (.int b), some (.int c), some (.int d), some (.int e)]) (st' := [.int b, .ref 1]) (M' := mk tl (feed4 I a) L rd) rfl rfl ?_
    refine Runs.call (k' := 29) (as := [.ref 1, .int b]) (rest := []) (r1 := none) (M1 := mk tl (feed4 (feed4 I a) b) L rd) rfl rfl rfl (c_feed4 tl (feed4 I a) L rd b (t + 4) (by show I 1 10 + 1 + 1 + 1 + 1 = nI (t + 4); simp only [ht, nI_1, nIp_0, nIp_1, nIp_2, nIp_3, nIp_4, nIp_5, nIp_6, nIp_7, nIp_8, nIp_9, nIp_10, nIp_11, nIp_12, nIp_13, nIp_14, nIp_15, nIp_16, nIp_17, nIp_18, nIp_19]) (by have ht20 : t + 20 ≤ 600 := (by have e : (I 1 10 + 20).toInt = t + 20 := (by rw [ht]; exact (by rw [show nI t + 20 = nI (t + 20) from nI_add t 20, nI_toInt (by omega)]; rfl)); simp only [Bool.and_true, Bool.true_and, Bool.and_eq_true, inb_iff, Int32.lt_iff_toInt_lt, Int32.le_iff_toInt_le, toI_0, toI_1, toI_2, toI_3, toI_4, toI_5, toI_6, toI_7, toI_8, toI_9, toI_10, toI_12, toI_16, toI_18, toI_20, toI_21, toI_23, toI_24, toI_32, toI_36, toI_39, toI_40, toI_48, toI_50, toI_60, toI_64, toI_75, toI_80, toI_100, toI_144, toI_160, toI_200, toI_256, toI_320, toI_380, toI_576, toI_600, toI_1000, toI_1280, toI_2400, toI_9999, toI_10000, toI_100000, toI_1000000, toI_m1, toI_m100000, toI_s9, toI_s8] at h1; omega); omega)) ?_
    refine Runs.bl 3 (g := true) (i' := 20) (ls' := [some (.ref 0), some (.int a), some (.int b), some (.int c), some (.int d), some (.int e)]) (st' := [.int c, .ref 1]) (M' := mk tl (feed4 (feed4 I a) b) L rd) rfl rfl ?_
    refine Runs.call (k' := 29) (as := [.ref 1, .int c]) (rest := []) (r1 := none) (M1 := mk tl (feed4 (feed4 (feed4 I a) b) c) L rd) rfl rfl rfl (c_feed4 tl (feed4 (feed4 I a) b) L rd c (t + 8) (by show I 1 10 + 1 + 1 + 1 + 1 + 1 + 1 + 1 + 1 = nI (t + 8); simp only [ht, nI_1, nIp_0, nIp_1, nIp_2, nIp_3, nIp_4, nIp_5, nIp_6, nIp_7, nIp_8, nIp_9, nIp_10, nIp_11, nIp_12, nIp_13, nIp_14, nIp_15, nIp_16, nIp_17, nIp_18, nIp_19]) (by have ht20 : t + 20 ≤ 600 := (by have e : (I 1 10 + 20).toInt = t + 20 := (by rw [ht]; exact (by rw [show nI t + 20 = nI (t + 20) from nI_add t 20, nI_toInt (by omega)]; rfl)); simp only [Bool.and_true, Bool.true_and, Bool.and_eq_true, inb_iff, Int32.lt_iff_toInt_lt, Int32.le_iff_toInt_le, toI_0, toI_1, toI_2, toI_3, toI_4, toI_5, toI_6, toI_7, toI_8, toI_9, toI_10, toI_12, toI_16, toI_18, toI_20, toI_21, toI_23, toI_24, toI_32, toI_36, toI_39, toI_40, toI_48, toI_50, toI_60, toI_64, toI_75, toI_80, toI_100, toI_144, toI_160, toI_200, toI_256, toI_320, toI_380, toI_576, toI_600, toI_1000, toI_1280, toI_2400, toI_9999, toI_10000, toI_100000, toI_1000000, toI_m1, toI_m100000, toI_s9, toI_s8] at h1; omega); omega)) ?_
    refine Runs.bl 3 (g := true) (i' := 24) (ls' := [some (.ref 0), some (.int a), some (.int b), some (.int c), some (.int d), some (.int e)]) (st' := [.int d, .ref 1]) (M' := mk tl (feed4 (feed4 (feed4 I a) b) c) L rd) rfl rfl ?_
    refine Runs.call (k' := 29) (as := [.ref 1, .int d]) (rest := []) (r1 := none) (M1 := mk tl (feed4 (feed4 (feed4 (feed4 I a) b) c) d) L rd) rfl rfl rfl (c_feed4 tl (feed4 (feed4 (feed4 I a) b) c) L rd d (t + 12) (by show I 1 10 + 1 + 1 + 1 + 1 + 1 + 1 + 1 + 1 + 1 + 1 + 1 + 1 = nI (t + 12); simp only [ht, nI_1, nIp_0, nIp_1, nIp_2, nIp_3, nIp_4, nIp_5, nIp_6, nIp_7, nIp_8, nIp_9, nIp_10, nIp_11, nIp_12, nIp_13, nIp_14, nIp_15, nIp_16, nIp_17, nIp_18, nIp_19]) (by have ht20 : t + 20 ≤ 600 := (by have e : (I 1 10 + 20).toInt = t + 20 := (by rw [ht]; exact (by rw [show nI t + 20 = nI (t + 20) from nI_add t 20, nI_toInt (by omega)]; rfl)); simp only [Bool.and_true, Bool.true_and, Bool.and_eq_true, inb_iff, Int32.lt_iff_toInt_lt, Int32.le_iff_toInt_le, toI_0, toI_1, toI_2, toI_3, toI_4, toI_5, toI_6, toI_7, toI_8, toI_9, toI_10, toI_12, toI_16, toI_18, toI_20, toI_21, toI_23, toI_24, toI_32, toI_36, toI_39, toI_40, toI_48, toI_50, toI_60, toI_64, toI_75, toI_80, toI_100, toI_144, toI_160, toI_200, toI_256, toI_320, toI_380, toI_576, toI_600, toI_1000, toI_1280, toI_2400, toI_9999, toI_10000, toI_100000, toI_1000000, toI_m1, toI_m100000, toI_s9, toI_s8] at h1; omega); omega)) ?_
    refine Runs.bl 3 (g := true) (i' := 28) (ls' := [some (.ref 0), some (.int a), some (.int b), some (.int c), some (.int d), some (.int e)]) (st' := [.int e, .ref 1]) (M' := mk tl (feed4 (feed4 (feed4 (feed4 I a) b) c) d) L rd) rfl rfl ?_
    refine Runs.call (k' := 29) (as := [.ref 1, .int e]) (rest := []) (r1 := none) (M1 := mk tl (feed4 (feed4 (feed4 (feed4 (feed4 I a) b) c) d) e) L rd) rfl rfl rfl (c_feed4 tl (feed4 (feed4 (feed4 (feed4 I a) b) c) d) L rd e (t + 16) (by show I 1 10 + 1 + 1 + 1 + 1 + 1 + 1 + 1 + 1 + 1 + 1 + 1 + 1 + 1 + 1 + 1 + 1 = nI (t + 16); simp only [ht, nI_1, nIp_0, nIp_1, nIp_2, nIp_3, nIp_4, nIp_5, nIp_6, nIp_7, nIp_8, nIp_9, nIp_10, nIp_11, nIp_12, nIp_13, nIp_14, nIp_15, nIp_16, nIp_17, nIp_18, nIp_19]) (by have ht20 : t + 20 ≤ 600 := (by have e : (I 1 10 + 20).toInt = t + 20 := (by rw [ht]; exact (by rw [show nI t + 20 = nI (t + 20) from nI_add t 20, nI_toInt (by omega)]; rfl)); simp only [Bool.and_true, Bool.true_and, Bool.and_eq_true, inb_iff, Int32.lt_iff_toInt_lt, Int32.le_iff_toInt_le, toI_0, toI_1, toI_2, toI_3, toI_4, toI_5, toI_6, toI_7, toI_8, toI_9, toI_10, toI_12, toI_16, toI_18, toI_20, toI_21, toI_23, toI_24, toI_32, toI_36, toI_39, toI_40, toI_48, toI_50, toI_60, toI_64, toI_75, toI_80, toI_100, toI_144, toI_160, toI_200, toI_256, toI_320, toI_380, toI_576, toI_600, toI_1000, toI_1280, toI_2400, toI_9999, toI_10000, toI_100000, toI_1000000, toI_m1, toI_m100000, toI_s9, toI_s8] at h1; omega); omega)) ?_
    refine Runs.bl 3 (g := true) (i' := 32) (ls' := [some (.ref 0), some (.int a), some (.int b), some (.int c), some (.int d), some (.int e)]) (st' := [.int ((feed4 (feed4 (feed4 (feed4 (feed4 I a) b) c) d) e) 1 10)]) (M' := mk tl (feed4 (feed4 (feed4 (feed4 (feed4 I a) b) c) d) e) L rd) rfl rfl ?_
    exact Runs.ri rfl rfl (by rw [xFeed, if_pos h1] <;> rfl) (by rw [xFeed, if_pos h1] <;> rfl)
  · skip
    refine Runs.bl 1 (g := true) (i' := 8) (ls' := [some (.ref 0), some (.int a), some (.int b), some (.int c), some (.int d), some (.int e)]) (st' := [.int (-1 : Int32)]) (M' := mk tl I L rd) rfl rfl ?_
    exact Runs.ri rfl rfl (by rw [xFeed, if_neg h1] <;> rfl) (by rw [xFeed, if_neg h1] <;> rfl)

set_option maxRecDepth 20000 in
theorem c_then (tl : List (Nat × Nat)) (I : Nat → Nat → Int32) (L : Nat → Nat → Int64) (rd : Nat → Nat → Option Nat) (p d k : Int32) (m : Nat) (hm : I 16 0 = nI m) (hb : m ≤ 40) (hp : 0 ≤ p.toInt ∧ p.toInt < 12) : Call 44 [.ref 37, .ref 1, .int p, .int d, .int k] (mk tl I L rd) none (mk tl (up1 I 38 (then_it I L p d k m)) L rd) := by
  show Runs 44 0 [some (.ref 37), some (.ref 1), some (.int p), some (.int d), some (.int k), none, none, none] [] (mk tl I L rd) none (mk tl (up1 I 38 (then_it I L p d k m)) L rd)
  refine Runs.bl 6 (g := true) (i' := 6) (ls' := [some (.ref 37), some (.ref 1), some (.int p), some (.int d), some (.int k), some (.ref 16), none, none]) (st' := [.int p, .ref 1, .ref 37]) (M' := mk tl I L rd) rfl rfl ?_
  refine Runs.call (k' := 45) (as := [.ref 37, .ref 1, .int p]) (rest := []) (r1 := none) (M1 := mk tl (startFacts I p) L rd) rfl rfl rfl (c_startFacts tl I L rd p (by first | assumption | (skip; (try simp only [Bool.and_true, Bool.true_and, Bool.and_eq_true, inb_iff, Int32.lt_iff_toInt_lt, Int32.le_iff_toInt_le, toI_0, toI_1, toI_2, toI_3, toI_4, toI_5, toI_6, toI_7, toI_8, toI_9, toI_10, toI_12, toI_16, toI_18, toI_20, toI_21, toI_23, toI_24, toI_32, toI_36, toI_39, toI_40, toI_48, toI_50, toI_60, toI_64, toI_75, toI_80, toI_100, toI_144, toI_160, toI_200, toI_256, toI_320, toI_380, toI_576, toI_600, toI_1000, toI_1280, toI_2400, toI_9999, toI_10000, toI_100000, toI_1000000, toI_m1, toI_m100000, toI_s9, toI_s8] at hm hb hp  ⊢); omega))) ?_
  refine Runs.bl 2 (g := true) (i' := 9) (ls' := [some (.ref 37), some (.ref 1), some (.int p), some (.int d), some (.int k), some (.ref 16), some (.int (0 : Int32)), none]) (st' := []) (M' := mk tl (startFacts I p) L rd) rfl rfl ?_
  exact Runs.cg rfl (congrArg (fun z => mk tl z L rd) (startFacts_row I p)) (l_then tl I L rd p d k m hm hb hp 0 (Nat.zero_le _) _)

def lawT (I : Nat → Nat → Int32) (L : Nat → Nat → Int64) (xa xl : Nat → Nat) (n m : Nat) (p d k : Int32) : Int32 :=
  if then_it I L p d k m 1 = 0 then 0 else match gdO I xa d k n with
  | none => if without I 0 = 0 then 0 else 1
  | some a => if tells_sr (up1 I 38 (then_it I L p d k m)) L (xl a) 0 (I (xa a) 3).toNatClampNeg 0 = 0 then 0 else 1

set_option maxRecDepth 20000 in
theorem c_law0 (tl : List (Nat × Nat)) (I : Nat → Nat → Int32) (L : Nat → Nat → Int64) (rd : Nat → Nat → Option Nat) (p d k : Int32) (m n : Nat) (xa xl N : Nat → Nat) (hm : I 16 0 = nI m) (hb : m ≤ 40) (hn : I 1 3 = nI n) (hn4 : n ≤ 4) (hA : AO tl rd n xa xl N) (hC : AC I n xa N) (hp : 0 ≤ p.toInt ∧ p.toInt < 12) (hg : gdO I xa d k n = none) : Call 42 [.ref 37, .ref 1, .int p, .int d, .int k] (mk tl I L rd) (some (.int (lawT I L xa xl n m p d k))) (mk tl (up1 I 38 (then_it I L p d k m)) L rd) := by
  show Runs 42 0 [some (.ref 37), some (.ref 1), some (.int p), some (.int d), some (.int k), none] [] (mk tl I L rd) (some (.int (lawT I L xa xl n m p d k))) (mk tl (up1 I 38 (then_it I L p d k m)) L rd)
  have hg0 : gdO (up1 I 38 (then_it I L p d k m)) xa d k n = none := (gdO_cg (fun a ha => up1_ne (by have := (hC a ha).1; omega)) d k).trans hg
  refine Runs.bl 5 (g := true) (i' := 5) (ls' := [some (.ref 37), some (.ref 1), some (.int p), some (.int d), some (.int k), none]) (st' := [.int k, .int d, .int p, .ref 1, .ref 37]) (M' := mk tl I L rd) rfl rfl ?_
  refine Runs.call (k' := 44) (as := [.ref 37, .ref 1, .int p, .int d, .int k]) (rest := []) (r1 := none) (M1 := mk tl (up1 I 38 (then_it I L p d k m)) L rd) rfl rfl rfl (c_then tl I L rd p d k m hm hb hp) ?_
  refine Runs.bl 5 (g := true && true) (i' := if decide (¬ ((then_it I L p d k m) 1) = 0) = true then 13 else 11) (ls' := [some (.ref 37), some (.ref 1), some (.int p), some (.int d), some (.int k), none]) (st' := []) (M' := mk tl (up1 I 38 (then_it I L p d k m)) L rd) rfl rfl ?_
  refine Runs.brP (fun h1 => ?_) (fun h1 => ?_)
  · skip
    refine Runs.bl 3 (g := true) (i' := 16) (ls' := [some (.ref 37), some (.ref 1), some (.int p), some (.int d), some (.int k), none]) (st' := [.int k, .int d, .ref 1]) (M' := mk tl (up1 I 38 (then_it I L p d k m)) L rd) rfl rfl ?_
    refine Runs.call (k' := 30) (as := [.ref 1, .int d, .int k]) (rest := []) (r1 := some (.int (-1 : Int32))) (M1 := mk tl (up1 I 38 (then_it I L p d k m)) L rd) rfl rfl rfl (by have hh := c_goodAct tl (up1 I 38 (then_it I L p d k m)) L rd d k n xa xl N hn hn4 hA; rw [hg0] at hh; exact hh) ?_
    refine Runs.bl 4 (g := true) (i' := 21) (ls' := [some (.ref 37), some (.ref 1), some (.int p), some (.int d), some (.int k), some (.int (-1 : Int32))]) (st' := [.int (3 : Int32), .int (0 : Int32), .int (-1 : Int32)]) (M' := mk tl (up1 I 38 (then_it I L p d k m)) L rd) rfl rfl ?_
    refine Runs.call (k' := 147) (as := [.int (-1 : Int32), .int (0 : Int32), .int (3 : Int32)]) (rest := []) (r1 := some (.int (outside I (-1 : Int32) (0 : Int32) (3 : Int32)))) (M1 := mk tl (up1 I 38 (then_it I L p d k m)) L rd) rfl rfl rfl (c_outside tl (up1 I 38 (then_it I L p d k m)) L rd (-1 : Int32) (0 : Int32) (3 : Int32) ) ?_
    refine Runs.bl 1 (g := true) (i' := if decide (¬ (outside I (-1 : Int32) (0 : Int32) (3 : Int32)) = 0) = true then 28 else 23) (ls' := [some (.ref 37), some (.ref 1), some (.int p), some (.int d), some (.int k), some (.int (-1 : Int32))]) (st' := []) (M' := mk tl (up1 I 38 (then_it I L p d k m)) L rd) rfl rfl ?_
    refine Runs.brT ((by rw [outside, if_pos (by decide)]; decide)) ?_
    refine Runs.bl 1 (g := true) (i' := 29) (ls' := [some (.ref 37), some (.ref 1), some (.int p), some (.int d), some (.int k), some (.int (-1 : Int32))]) (st' := [.int (0 : Int32)]) (M' := mk tl (up1 I 38 (then_it I L p d k m)) L rd) rfl rfl ?_
    refine Runs.call (k' := 39) (as := [.int (0 : Int32)]) (rest := []) (r1 := some (.int (without I (0 : Int32)))) (M1 := mk tl (up1 I 38 (then_it I L p d k m)) L rd) rfl rfl rfl (c_without tl (up1 I 38 (then_it I L p d k m)) L rd (0 : Int32) ) ?_
    refine Runs.bl 1 (g := true) (i' := if decide ((without I (0 : Int32)) = 0) = true then 33 else 31) (ls' := [some (.ref 37), some (.ref 1), some (.int p), some (.int d), some (.int k), some (.int (-1 : Int32))]) (st' := []) (M' := mk tl (up1 I 38 (then_it I L p d k m)) L rd) rfl rfl ?_
    refine Runs.brP (fun h2 => ?_) (fun h2 => ?_)
    · skip
      refine Runs.bl 1 (g := true) (i' := 34) (ls' := [some (.ref 37), some (.ref 1), some (.int p), some (.int d), some (.int k), some (.int (-1 : Int32))]) (st' := [.int (0 : Int32)]) (M' := mk tl (up1 I 38 (then_it I L p d k m)) L rd) rfl rfl ?_
      exact Runs.rz rfl rfl (by decide) (by simp only [lawT, hg, if_neg h1, if_pos h2]) (rfl)
    · skip
      refine Runs.bl 2 (g := true) (i' := 34) (ls' := [some (.ref 37), some (.ref 1), some (.int p), some (.int d), some (.int k), some (.int (-1 : Int32))]) (st' := [.int (1 : Int32)]) (M' := mk tl (up1 I 38 (then_it I L p d k m)) L rd) rfl rfl ?_
      exact Runs.rz rfl rfl (by decide) (by simp only [lawT, hg, if_neg h1, if_neg h2]) (rfl)
  · skip
    refine Runs.bl 1 (g := true) (i' := 12) (ls' := [some (.ref 37), some (.ref 1), some (.int p), some (.int d), some (.int k), none]) (st' := [.int (0 : Int32)]) (M' := mk tl (up1 I 38 (then_it I L p d k m)) L rd) rfl rfl ?_
    exact Runs.rz rfl rfl (by decide) (by simp only [lawT, hg, if_pos (Decidable.not_not.mp h1)]) (rfl)

set_option maxRecDepth 20000 in
theorem c_law1 (tl : List (Nat × Nat)) (I : Nat → Nat → Int32) (L : Nat → Nat → Int64) (rd : Nat → Nat → Option Nat) (p d k : Int32) (m n : Nat) (xa xl N : Nat → Nat) (a : Nat) (hm : I 16 0 = nI m) (hb : m ≤ 40) (hn : I 1 3 = nI n) (hn4 : n ≤ 4) (hA : AO tl rd n xa xl N) (hC : AC I n xa N) (hp : 0 ≤ p.toInt ∧ p.toInt < 12) (ha : a < n) (hg : gdO I xa d k n = some a) : Call 42 [.ref 37, .ref 1, .int p, .int d, .int k] (mk tl I L rd) (some (.int (lawT I L xa xl n m p d k))) (mk tl (up1 I 38 (then_it I L p d k m)) L rd) := by
  show Runs 42 0 [some (.ref 37), some (.ref 1), some (.int p), some (.int d), some (.int k), none] [] (mk tl I L rd) (some (.int (lawT I L xa xl n m p d k))) (mk tl (up1 I 38 (then_it I L p d k m)) L rd)
  have hg0 : gdO (up1 I 38 (then_it I L p d k m)) xa d k n = some a := (gdO_cg (fun a ha => up1_ne (by have := (hC a ha).1; omega)) d k).trans hg
  refine Runs.bl 5 (g := true) (i' := 5) (ls' := [some (.ref 37), some (.ref 1), some (.int p), some (.int d), some (.int k), none]) (st' := [.int k, .int d, .int p, .ref 1, .ref 37]) (M' := mk tl I L rd) rfl rfl ?_
  refine Runs.call (k' := 44) (as := [.ref 37, .ref 1, .int p, .int d, .int k]) (rest := []) (r1 := none) (M1 := mk tl (up1 I 38 (then_it I L p d k m)) L rd) rfl rfl rfl (c_then tl I L rd p d k m hm hb hp) ?_
  refine Runs.bl 5 (g := true && true) (i' := if decide (¬ ((then_it I L p d k m) 1) = 0) = true then 13 else 11) (ls' := [some (.ref 37), some (.ref 1), some (.int p), some (.int d), some (.int k), none]) (st' := []) (M' := mk tl (up1 I 38 (then_it I L p d k m)) L rd) rfl rfl ?_
  refine Runs.brP (fun h1 => ?_) (fun h1 => ?_)
  · skip
    refine Runs.bl 3 (g := true) (i' := 16) (ls' := [some (.ref 37), some (.ref 1), some (.int p), some (.int d), some (.int k), none]) (st' := [.int k, .int d, .ref 1]) (M' := mk tl (up1 I 38 (then_it I L p d k m)) L rd) rfl rfl ?_
    refine Runs.call (k' := 30) (as := [.ref 1, .int d, .int k]) (rest := []) (r1 := some (.int (nI a))) (M1 := mk tl (up1 I 38 (then_it I L p d k m)) L rd) rfl rfl rfl (by have hh := c_goodAct tl (up1 I 38 (then_it I L p d k m)) L rd d k n xa xl N hn hn4 hA; rw [hg0] at hh; exact hh) ?_
    refine Runs.bl 4 (g := true) (i' := 21) (ls' := [some (.ref 37), some (.ref 1), some (.int p), some (.int d), some (.int k), some (.int (nI a))]) (st' := [.int (3 : Int32), .int (0 : Int32), .int (nI a)]) (M' := mk tl (up1 I 38 (then_it I L p d k m)) L rd) rfl rfl ?_
    refine Runs.call (k' := 147) (as := [.int (nI a), .int (0 : Int32), .int (3 : Int32)]) (rest := []) (r1 := some (.int (outside I (nI a) (0 : Int32) (3 : Int32)))) (M1 := mk tl (up1 I 38 (then_it I L p d k m)) L rd) rfl rfl rfl (c_outside tl (up1 I 38 (then_it I L p d k m)) L rd (nI a) (0 : Int32) (3 : Int32) ) ?_
    refine Runs.bl 1 (g := true) (i' := if decide (¬ (outside I (nI a) (0 : Int32) (3 : Int32)) = 0) = true then 28 else 23) (ls' := [some (.ref 37), some (.ref 1), some (.int p), some (.int d), some (.int k), some (.int (nI a))]) (st' := []) (M' := mk tl (up1 I 38 (then_it I L p d k m)) L rd) rfl rfl ?_
    refine Runs.brF ((fun z => z (by rw [outside, if_neg (nI_pos (by omega)), if_pos (show nI a ≤ (3 : Int32) from nI_le (b := 3) (by omega) (by decide))]))) ?_
    refine Runs.bl 3 (g := true) (i' := 26) (ls' := [some (.ref 37), some (.ref 1), some (.int p), some (.int d), some (.int k), some (.int (nI a))]) (st' := [.int (nI a), .ref 32]) (M' := mk tl (up1 I 38 (then_it I L p d k m)) L rd) rfl rfl ?_
    refine Runs.st rfl rfl rfl (daa (x := xa a) rfl (inb_nI (by omega) (by decide)) (by rw [nI_clamp (by omega)]; exact (hA a ha).1) (hA a ha).2.1) ?_
    refine Runs.bl 4 (g := decide (xa a < mx) && true) (i' := 38) (ls' := [some (.ref 37), some (.ref 1), some (.int p), some (.int d), some (.int k), some (.int (nI a))]) (st' := [.int (nI a), .ref 32]) (M' := mk tl (up1 I 38 (then_it I L p d k m)) L rd) rfl (by rw [Bool.and_true]; exact decide_eq_true (hA a ha).2.1) ?_
    refine Runs.st rfl rfl rfl (daa (x := xa a) rfl (inb_nI (by omega) (by decide)) (by rw [nI_clamp (by omega)]; exact (hA a ha).1) (hA a ha).2.1) ?_
    refine Runs.bl 3 (g := true) (i' := 42) (ls' := [some (.ref 37), some (.ref 1), some (.int p), some (.int d), some (.int k), some (.int (nI a))]) (st' := [.ref 38, .int (0 : Int32), .ref (xa a)]) (M' := mk tl (up1 I 38 (then_it I L p d k m)) L rd) rfl rfl ?_
    have hC2 := hC.u1 (c := 38) (g := then_it I L p d k m) (by decide)
    have e3 : (up1 I 38 (then_it I L p d k m)) (xa a) = I (xa a) := up1_ne (by have := (hC a ha).1; omega)
    have hT := c_tells tl (up1 I 38 (then_it I L p d k m)) L rd (xl a) 0 (xa a) (N a) (hA a ha).2.1 (hA a ha).2.2.1 (hA a ha).2.2.2.2.1 (hA a ha).2.2.2.2.2.1 (hA a ha).2.2.2.1 (hA a ha).2.2.2.2.2.2.1 (hC2 a ha).2
    rw [e3] at hT
    refine Runs.call (k' := 1) (as := [.ref (xa a), .int (0 : Int32), .ref 38]) (rest := []) (r1 := some (.int (tells_sr (up1 I 38 (then_it I L p d k m)) L (xl a) (0 : Int32) (I (xa a) 3).toNatClampNeg 0))) (M1 := mk tl (up1 I 38 (then_it I L p d k m)) L rd) rfl rfl (cal2_v rfl rfl rfl (rcv_of (hA a ha).2.1 (hA a ha).2.2.1 rfl)) (hT) ?_
    refine Runs.bl 1 (g := true) (i' := if decide ((tells_sr (up1 I 38 (then_it I L p d k m)) L (xl a) (0 : Int32) (I (xa a) 3).toNatClampNeg 0) = 0) = true then 46 else 44) (ls' := [some (.ref 37), some (.ref 1), some (.int p), some (.int d), some (.int k), some (.int (nI a))]) (st' := []) (M' := mk tl (up1 I 38 (then_it I L p d k m)) L rd) rfl rfl ?_
    refine Runs.brP (fun h2 => ?_) (fun h2 => ?_)
    · skip
      refine Runs.bl 1 (g := true) (i' := 47) (ls' := [some (.ref 37), some (.ref 1), some (.int p), some (.int d), some (.int k), some (.int (nI a))]) (st' := [.int (0 : Int32)]) (M' := mk tl (up1 I 38 (then_it I L p d k m)) L rd) rfl rfl ?_
      exact Runs.rz rfl rfl (by decide) (by simp only [lawT, hg, if_neg h1, if_pos h2]) (rfl)
    · skip
      refine Runs.bl 2 (g := true) (i' := 47) (ls' := [some (.ref 37), some (.ref 1), some (.int p), some (.int d), some (.int k), some (.int (nI a))]) (st' := [.int (1 : Int32)]) (M' := mk tl (up1 I 38 (then_it I L p d k m)) L rd) rfl rfl ?_
      exact Runs.rz rfl rfl (by decide) (by simp only [lawT, hg, if_neg h1, if_neg h2]) (rfl)
  · skip
    refine Runs.bl 1 (g := true) (i' := 12) (ls' := [some (.ref 37), some (.ref 1), some (.int p), some (.int d), some (.int k), none]) (st' := [.int (0 : Int32)]) (M' := mk tl (up1 I 38 (then_it I L p d k m)) L rd) rfl rfl ?_
    exact Runs.rz rfl rfl (by decide) (by simp only [lawT, hg, if_pos (Decidable.not_not.mp h1)]) (rfl)

theorem c_law (tl : List (Nat × Nat)) (I : Nat → Nat → Int32) (L : Nat → Nat → Int64) (rd : Nat → Nat → Option Nat) (p d k : Int32) (m n : Nat) (xa xl N : Nat → Nat) (hm : I 16 0 = nI m) (hb : m ≤ 40) (hn : I 1 3 = nI n) (hn4 : n ≤ 4) (hA : AO tl rd n xa xl N) (hC : AC I n xa N) (hp : 0 ≤ p.toInt ∧ p.toInt < 12) : Call 42 [.ref 37, .ref 1, .int p, .int d, .int k] (mk tl I L rd) (some (.int (lawT I L xa xl n m p d k))) (mk tl (up1 I 38 (then_it I L p d k m)) L rd) := by
  cases hg : gdO I xa d k n with
  | none => exact c_law0 tl I L rd p d k m n xa xl N hm hb hn hn4 hA hC hp hg
  | some a => exact c_law1 tl I L rd p d k m n xa xl N a hm hb hn hn4 hA hC hp (gdO_lt hg) hg
theorem lawT_01 (I : Nat → Nat → Int32) (L : Nat → Nat → Int64) (xa xl : Nat → Nat) (n m : Nat) (p d k : Int32) : lawT I L xa xl n m p d k = 0 ∨ lawT I L xa xl n m p d k = 1 := by
  unfold lawT
  repeat' split
  all_goals first | exact Or.inl rfl | exact Or.inr rfl

def xLawful (I : Nat → Nat → Int32) (L : Nat → Nat → Int64) (xa xl : Nat → Nat) (n m q : Nat) (p : Int32) (d : Int32) (k : Int32) : Int32 × (Nat → Nat → Int32) :=
  if (hasP I p) = 0 then ((0 : Int32), I) else
  if ¬ (outside I d (0 : Int32) (9999 : Int32)) = 0 then ((0 : Int32), I) else
  if (outside I k (0 : Int32) (9999 : Int32)) = 0 then (lawT I L xa xl n m p d k, (up1 I 38 (then_it I L p d k m))) else
  ((0 : Int32), I)

set_option maxRecDepth 20000 in
theorem c_xLawful (tl : List (Nat × Nat)) (I : Nat → Nat → Int32) (L : Nat → Nat → Int64) (rd : Nat → Nat → Option Nat) (xa xl N : Nat → Nat) (n m q : Nat) (p : Int32) (d : Int32) (k : Int32) (hm : I 16 0 = nI m) (hb : m ≤ 40) (hq : I 2 0 = nI q) (hqb : q ≤ 12) (hn : I 1 3 = nI n) (hn4 : n ≤ 4) (hA : AO tl rd n xa xl N) (hC : AC I n xa N) (hcr : ∀ d, d < m → 0 ≤ (I 18 d).toInt ∧ (I 18 d).toInt < 12) (hdr : ∀ d, d < m → 0 ≤ (I 17 d).toInt ∧ (I 17 d).toInt < 12) : Call 120 [.ref 0, .int p, .int d, .int k] (mk tl I L rd) (some (.int ((xLawful I L xa xl n m q p d k).1))) (mk tl ((xLawful I L xa xl n m q p d k).2) L rd) := by
  show Runs 120 0 [some (.ref 0), some (.int p), some (.int d), some (.int k)] [] (mk tl I L rd) (some (.int ((xLawful I L xa xl n m q p d k).1))) (mk tl ((xLawful I L xa xl n m q p d k).2) L rd)
  refine Runs.bl 4 (g := true) (i' := 4) (ls' := [some (.ref 0), some (.int p), some (.int d), some (.int k)]) (st' := [.int p, .ref 2]) (M' := mk tl I L rd) rfl rfl ?_
  refine Runs.call (k' := 55) (as := [.ref 2, .int p]) (rest := []) (r1 := some (.int (hasP I p))) (M1 := mk tl I L rd) rfl rfl rfl (c_hasP tl I L rd p ) ?_
  refine Runs.bl 1 (g := true) (i' := if decide ((hasP I p) = 0) = true then 16 else 6) (ls' := [some (.ref 0), some (.int p), some (.int d), some (.int k)]) (st' := []) (M' := mk tl I L rd) rfl rfl ?_
  refine Runs.brP (fun h1 => ?_) (fun h1 => ?_)
  · skip
    refine Runs.bl 1 (g := true) (i' := 17) (ls' := [some (.ref 0), some (.int p), some (.int d), some (.int k)]) (st' := [.int (0 : Int32)]) (M' := mk tl I L rd) rfl rfl ?_
    exact Runs.rz rfl rfl (by decide) (by rw [xLawful, if_pos h1] <;> rfl) (by rw [xLawful, if_pos h1] <;> rfl)
  · skip
    refine Runs.bl 3 (g := true) (i' := 9) (ls' := [some (.ref 0), some (.int p), some (.int d), some (.int k)]) (st' := [.int (9999 : Int32), .int (0 : Int32), .int d]) (M' := mk tl I L rd) rfl rfl ?_
    refine Runs.call (k' := 147) (as := [.int d, .int (0 : Int32), .int (9999 : Int32)]) (rest := []) (r1 := some (.int (outside I d (0 : Int32) (9999 : Int32)))) (M1 := mk tl I L rd) rfl rfl rfl (c_outside tl I L rd d (0 : Int32) (9999 : Int32) ) ?_
    refine Runs.bl 1 (g := true) (i' := if decide (¬ (outside I d (0 : Int32) (9999 : Int32)) = 0) = true then 16 else 11) (ls' := [some (.ref 0), some (.int p), some (.int d), some (.int k)]) (st' := []) (M' := mk tl I L rd) rfl rfl ?_
    refine Runs.brP (fun h2 => ?_) (fun h2 => ?_)
    · skip
      refine Runs.bl 1 (g := true) (i' := 17) (ls' := [some (.ref 0), some (.int p), some (.int d), some (.int k)]) (st' := [.int (0 : Int32)]) (M' := mk tl I L rd) rfl rfl ?_
      exact Runs.rz rfl rfl (by decide) (by rw [xLawful, if_neg h1, if_pos h2] <;> rfl) (by rw [xLawful, if_neg h1, if_pos h2] <;> rfl)
    · skip
      refine Runs.bl 3 (g := true) (i' := 14) (ls' := [some (.ref 0), some (.int p), some (.int d), some (.int k)]) (st' := [.int (9999 : Int32), .int (0 : Int32), .int k]) (M' := mk tl I L rd) rfl rfl ?_
      refine Runs.call (k' := 147) (as := [.int k, .int (0 : Int32), .int (9999 : Int32)]) (rest := []) (r1 := some (.int (outside I k (0 : Int32) (9999 : Int32)))) (M1 := mk tl I L rd) rfl rfl rfl (c_outside tl I L rd k (0 : Int32) (9999 : Int32) ) ?_
      refine Runs.bl 1 (g := true) (i' := if decide ((outside I k (0 : Int32) (9999 : Int32)) = 0) = true then 18 else 16) (ls' := [some (.ref 0), some (.int p), some (.int d), some (.int k)]) (st' := []) (M' := mk tl I L rd) rfl rfl ?_
      refine Runs.brP (fun h3 => ?_) (fun h3 => ?_)
      · skip
        refine Runs.bl 7 (g := true) (i' := 25) (ls' := [some (.ref 0), some (.int p), some (.int d), some (.int k)]) (st' := [.int k, .int d, .int p, .ref 1, .ref 37]) (M' := mk tl I L rd) rfl rfl ?_
        refine Runs.call (k' := 42) (as := [.ref 37, .ref 1, .int p, .int d, .int k]) (rest := []) (r1 := some (.int (lawT I L xa xl n m p d k))) (M1 := mk tl (up1 I 38 (then_it I L p d k m)) L rd) rfl rfl rfl (c_law tl I L rd p d k m n xa xl N hm hb hn hn4 hA hC (by first | assumption | (have q1 := hasP_rng h1; have q2 := outside_rng'  h2; have q3 := outside_rng h3; have q4 := (show 0 ≤ (I 16 0).toInt ∧ (I 16 0).toInt ≤ 40 from by rw [hm, nI_toInt (by omega)]; omega); have q5 := (show 0 ≤ (I 2 0).toInt ∧ (I 2 0).toInt ≤ 12 from by rw [hq, nI_toInt (by omega)]; omega); (try simp only [Bool.and_true, Bool.true_and, Bool.and_eq_true, inb_iff, Int32.lt_iff_toInt_lt, Int32.le_iff_toInt_le, toI_0, toI_1, toI_2, toI_3, toI_4, toI_5, toI_6, toI_7, toI_8, toI_9, toI_10, toI_12, toI_16, toI_18, toI_20, toI_21, toI_23, toI_24, toI_32, toI_36, toI_39, toI_40, toI_48, toI_50, toI_60, toI_64, toI_75, toI_80, toI_100, toI_144, toI_160, toI_200, toI_256, toI_320, toI_380, toI_576, toI_600, toI_1000, toI_1280, toI_2400, toI_9999, toI_10000, toI_100000, toI_1000000, toI_m1, toI_m100000, toI_s9, toI_s8] at hm hb hq hqb hn hn4 hA hC hcr hdr q1 q2 q3 q4 q5  ⊢); omega))) ?_
        exact Runs.rz rfl rfl (lawT_01 _ _ _ _ _ _ _ _ _) (by rw [xLawful, if_neg h1, if_neg h2, if_pos h3] <;> rfl) (by rw [xLawful, if_neg h1, if_neg h2, if_pos h3] <;> rfl)
      · skip
        refine Runs.bl 1 (g := true) (i' := 17) (ls' := [some (.ref 0), some (.int p), some (.int d), some (.int k)]) (st' := [.int (0 : Int32)]) (M' := mk tl I L rd) rfl rfl ?_
        exact Runs.rz rfl rfl (by decide) (by rw [xLawful, if_neg h1, if_neg h2, if_neg h3] <;> rfl) (by rw [xLawful, if_neg h1, if_neg h2, if_neg h3] <;> rfl)

