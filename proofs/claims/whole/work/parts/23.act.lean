/-! cells whose place is not fixed: steps; Act, the good ACT, what TOPICS tell (printed by p23.py) -/
theorem dg_i {n f i : Nat} {ls : Lz} {st : List Value} {M : Mm} {x m : Nat} (hf : n / 4 % 100 = f) (hx : x < mx) (hs : M.1[x]? = some (10 + n / 400, m)) (hk : n % 4 = 0) : st2 (.getfield n) i ls (.ref x :: st) M = some (true, i + 1, ls, .int (M.2.1 x f) :: st, M) := by
  subst hf
  simp only [st2, if_pos hx, hs, if_true, hk]
theorem dg_r {n f i : Nat} {ls : Lz} {st : List Value} {M : Mm} {x m y : Nat} (hf : n / 4 % 100 = f) (hx : x < mx) (hs : M.1[x]? = some (10 + n / 400, m)) (hk : n % 4 = 2) (hr : M.2.2.2 x f = some y) : st2 (.getfield n) i ls (.ref x :: st) M = some (true, i + 1, ls, .ref y :: st, M) := by
  subst hf
  simp only [st2, if_pos hx, hs, if_true, hk, hr, mrf]
theorem dal_i {i : Nat} {ls : Lz} {st : List Value} {M : Mm} {x n : Nat} {j : Int32} (hx : x < mx) (hs : M.1[x]? = some (0, n)) (hb : inb j n = true) : st2 .iaload i ls (.int j :: .ref x :: st) M = some (true, i + 1, ls, .int (M.2.1 x j.toNatClampNeg) :: st, M) := by
  simp only [st2, aSh, if_pos hx, hs, hb, aRd]
theorem daa {i : Nat} {ls : Lz} {st : List Value} {M : Mm} {a n x : Nat} {j : Int32} (hs : M.1[a]? = some (5, n)) (hb : inb j n = true) (hr : M.2.2.2 a j.toNatClampNeg = some x) (hx : x < mx) : st2 .aaload i ls (.int j :: .ref a :: st) M = some (true, i + 1, ls, .ref x :: st, M) := by
  simp only [st2, hs, hb, hr, rok, mrf, Bool.true_and, decide_eq_true hx]
theorem daa0 {i : Nat} {ls : Lz} {st : List Value} {M : Mm} {a n : Nat} {j : Int32} (hs : M.1[a]? = some (5, n)) (hb : inb j n = true) (hr : M.2.2.2 a j.toNatClampNeg = none) : st2 .aaload i ls (.int j :: .ref a :: st) M = some (true, i + 1, ls, .null :: st, M) := by
  simp only [st2, hs, hb, hr, rok, mrf, Bool.true_and]
theorem rcv_of {k : Nat} {M : Mm} {x t n : Nat} {as : List Value} (hx : x < mx) (hs : M.1[x]? = some (t, n)) (ht : (decide (10 ≤ t) && decide ((clz[t - 10]?).map (fun q => q.1) = some (mCls k))) = true) : rcv k M (.ref x :: as) = true := by
  simp only [rcv, if_pos hx, hs]
  exact ht
theorem cal2_v {k : Nat} {M : Mm} {st : List Value} (h1 : Nat.ble (mArg k) st.length = true) (h2 : Nat.ble (eArg (st.take (mArg k)).reverse).length (mLoc k) = true) (h3 : Nat.ble ((st.drop (mArg k)).map fun v => v.category).sum 8 = true) (h4 : rcv k M (st.take (mArg k)).reverse = true) : cal2 (.invokevirtual k) st M = some (k, (st.take (mArg k)).reverse, st.drop (mArg k)) := by
  unfold cal2
  exact if_pos ⟨Nat.le_of_ble_eq_true h1, Nat.le_of_ble_eq_true h2, Nat.le_of_ble_eq_true h3, h4⟩

theorem nIp_0 (b : Nat) : nI b + 0 = nI (b + 0) := nI_add b 0
theorem nIp_1 (b : Nat) : nI b + 1 = nI (b + 1) := nI_add b 1
theorem nIp_2 (b : Nat) : nI b + 2 = nI (b + 2) := nI_add b 2
theorem nIp_3 (b : Nat) : nI b + 3 = nI (b + 3) := nI_add b 3
theorem nIp_4 (b : Nat) : nI b + 4 = nI (b + 4) := nI_add b 4
theorem nIp_5 (b : Nat) : nI b + 5 = nI (b + 5) := nI_add b 5
theorem nIp_6 (b : Nat) : nI b + 6 = nI (b + 6) := nI_add b 6
theorem nIp_7 (b : Nat) : nI b + 7 = nI (b + 7) := nI_add b 7
theorem nIp_8 (b : Nat) : nI b + 8 = nI (b + 8) := nI_add b 8
theorem nIp_9 (b : Nat) : nI b + 9 = nI (b + 9) := nI_add b 9
theorem nIp_10 (b : Nat) : nI b + 10 = nI (b + 10) := nI_add b 10
theorem nIp_11 (b : Nat) : nI b + 11 = nI (b + 11) := nI_add b 11
theorem nIp_12 (b : Nat) : nI b + 12 = nI (b + 12) := nI_add b 12
theorem nIp_13 (b : Nat) : nI b + 13 = nI (b + 13) := nI_add b 13
theorem nIp_14 (b : Nat) : nI b + 14 = nI (b + 14) := nI_add b 14
theorem nIp_15 (b : Nat) : nI b + 15 = nI (b + 15) := nI_add b 15
theorem nIp_16 (b : Nat) : nI b + 16 = nI (b + 16) := nI_add b 16
theorem nIp_17 (b : Nat) : nI b + 17 = nI (b + 17) := nI_add b 17
theorem nIp_18 (b : Nat) : nI b + 18 = nI (b + 18) := nI_add b 18
theorem nIp_19 (b : Nat) : nI b + 19 = nI (b + 19) := nI_add b 19
def without (I : Nat → Nat → Int32) (w : Int32) : Int32 :=
  if (outside I w (0 : Int32) ((9 : Int32) - (1 : Int32))) = 0 then (xWL.getD w.toNatClampNeg 0) else
  (0 : Int32)

set_option maxRecDepth 20000 in
theorem c_without (tl : List (Nat × Nat)) (I : Nat → Nat → Int32) (L : Nat → Nat → Int64) (rd : Nat → Nat → Option Nat) (w : Int32)  : Call 39 [.int w] (mk tl I L rd) (some (.int (without I w))) (mk tl I L rd) := by
  show Runs 39 0 [some (.int w)] [] (mk tl I L rd) (some (.int (without I w))) (mk tl I L rd)
  refine Runs.bl 6 (g := true) (i' := 6) (ls' := [some (.int w)]) (st' := [.int ((9 : Int32) - (1 : Int32)), .int (0 : Int32), .int w]) (M' := mk tl I L rd) rfl rfl ?_
  refine Runs.call (k' := 147) (as := [.int w, .int (0 : Int32), .int ((9 : Int32) - (1 : Int32))]) (rest := []) (r1 := some (.int (outside I w (0 : Int32) ((9 : Int32) - (1 : Int32))))) (M1 := mk tl I L rd) rfl rfl rfl (c_outside tl I L rd w (0 : Int32) ((9 : Int32) - (1 : Int32)) ) ?_
  refine Runs.bl 1 (g := true) (i' := if decide ((outside I w (0 : Int32) ((9 : Int32) - (1 : Int32))) = 0) = true then 10 else 8) (ls' := [some (.int w)]) (st' := []) (M' := mk tl I L rd) rfl rfl ?_
  refine Runs.brP (fun h1 => ?_) (fun h1 => ?_)
  · skip
    refine Runs.bl 3 (g := inb w 9 && true) (i' := 13) (ls' := [some (.int w)]) (st' := [.int (xWL.getD w.toNatClampNeg 0)]) (M' := mk tl I L rd) rfl (by have q1 := outside_rng h1; simp only [Bool.and_true, Bool.true_and, Bool.and_eq_true, inb_iff, Int32.lt_iff_toInt_lt, Int32.le_iff_toInt_le, toI_0, toI_1, toI_2, toI_3, toI_4, toI_5, toI_6, toI_7, toI_8, toI_9, toI_10, toI_12, toI_16, toI_18, toI_20, toI_21, toI_23, toI_24, toI_32, toI_36, toI_39, toI_40, toI_48, toI_50, toI_60, toI_64, toI_75, toI_80, toI_100, toI_144, toI_160, toI_200, toI_256, toI_320, toI_380, toI_576, toI_600, toI_1000, toI_1280, toI_2400, toI_9999, toI_10000, toI_100000, toI_1000000, toI_m1, toI_m100000, toI_s9, toI_s8] at q1 ⊢; omega) ?_
    exact Runs.ri rfl rfl (by rw [without, if_pos h1] <;> rfl) (rfl)
  · skip
    refine Runs.bl 2 (g := true) (i' := 13) (ls' := [some (.int w)]) (st' := [.int (0 : Int32)]) (M' := mk tl I L rd) rfl rfl ?_
    exact Runs.ri rfl rfl (by rw [without, if_neg h1] <;> rfl) (rfl)

def testH (I : Nat → Nat → Int32) (y b : Nat) : Int32 :=
  if (outside I (I y (((nI b) + (1 : Int32)).toNatClampNeg)) (0 : Int32) ((8 : Int32) - (1 : Int32))) = 0 then (if (I y (((nI b) + (2 : Int32)).toNatClampNeg)) = (60 : Int32) then (if (I y (((nI b) + (3 : Int32)).toNatClampNeg)) ≤ (I 38 ((I y (((nI b) + (1 : Int32)).toNatClampNeg)).toNatClampNeg)) then (if (I y (((nI b) + (0 : Int32)).toNatClampNeg)) = 0 then (0 : Int32) else
        (1 : Int32)) else
      if (I y (((nI b) + (0 : Int32)).toNatClampNeg)) = 0 then (1 : Int32) else
      (0 : Int32)) else
    if (I y (((nI b) + (2 : Int32)).toNatClampNeg)) = (62 : Int32) then (if (I 38 ((I y (((nI b) + (1 : Int32)).toNatClampNeg)).toNatClampNeg)) ≤ (I y (((nI b) + (3 : Int32)).toNatClampNeg)) then (if (I y (((nI b) + (0 : Int32)).toNatClampNeg)) = 0 then (0 : Int32) else
        (1 : Int32)) else
      if (I y (((nI b) + (0 : Int32)).toNatClampNeg)) = 0 then (1 : Int32) else
      (0 : Int32)) else
    if ¬ (I 38 ((I y (((nI b) + (1 : Int32)).toNatClampNeg)).toNatClampNeg)) = (I y (((nI b) + (3 : Int32)).toNatClampNeg)) then (if (I y (((nI b) + (0 : Int32)).toNatClampNeg)) = 0 then (0 : Int32) else
      (1 : Int32)) else
    if (I y (((nI b) + (0 : Int32)).toNatClampNeg)) = 0 then (1 : Int32) else
    (0 : Int32)) else
  (0 : Int32)

set_option maxRecDepth 20000 in
theorem c_testH (tl : List (Nat × Nat)) (I : Nat → Nat → Int32) (L : Nat → Nat → Int64) (rd : Nat → Nat → Option Nat) (y b : Nat) (x N : Nat) (hx : x < mx) (hsx : (Sst ++ tl)[x]? = some (10, 4)) (hy : y < mx) (hsy : (Sst ++ tl)[y]? = some (0, N)) (hr : rst rd x 2 = some y) (hN : N < 1000) (hb : b + 3 < N) : Call 3 [.ref x, .int (nI b), .ref 38] (mk tl I L rd) (some (.int (testH I y b))) (mk tl I L rd) := by
  show Runs 3 0 [some (.ref x), some (.int (nI b)), some (.ref 38), none, none, none, none] [] (mk tl I L rd) (some (.int (testH I y b))) (mk tl I L rd)
  refine Runs.bl 1 (g := true) (i' := 1) (ls' := [some (.ref x), some (.int (nI b)), some (.ref 38), none, none, none, none]) (st' := [.ref x]) (M' := mk tl I L rd) rfl rfl ?_
  refine Runs.st rfl rfl rfl (dg_r (f := 2) (y := y) rfl hx hsx rfl hr) ?_
  refine Runs.bl 3 (g := true) (i' := 5) (ls' := [some (.ref x), some (.int (nI b)), some (.ref 38), none, none, none, none]) (st' := [.int ((nI b) + (1 : Int32)), .ref y]) (M' := mk tl I L rd) rfl rfl ?_
  refine Runs.st rfl rfl rfl (dal_i hy hsy (by simp only [nIp_0, nIp_1, nIp_2, nIp_3, nIp_4, nIp_5, nIp_6, nIp_7, nIp_8, nIp_9, nIp_10, nIp_11, nIp_12, nIp_13, nIp_14, nIp_15, nIp_16, nIp_17, nIp_18, nIp_19]; exact inb_nI (by omega) (by omega))) ?_
  refine Runs.bl 7 (g := true) (i' := 13) (ls' := [some (.ref x), some (.int (nI b)), some (.ref 38), some (.int (I y (((nI b) + (1 : Int32)).toNatClampNeg))), none, none, none]) (st' := [.int ((8 : Int32) - (1 : Int32)), .int (0 : Int32), .int (I y (((nI b) + (1 : Int32)).toNatClampNeg))]) (M' := mk tl I L rd) rfl rfl ?_
  refine Runs.call (k' := 147) (as := [.int (I y (((nI b) + (1 : Int32)).toNatClampNeg)), .int (0 : Int32), .int ((8 : Int32) - (1 : Int32))]) (rest := []) (r1 := some (.int (outside I (I y (((nI b) + (1 : Int32)).toNatClampNeg)) (0 : Int32) ((8 : Int32) - (1 : Int32))))) (M1 := mk tl I L rd) rfl rfl rfl (c_outside tl I L rd (I y (((nI b) + (1 : Int32)).toNatClampNeg)) (0 : Int32) ((8 : Int32) - (1 : Int32)) ) ?_
  refine Runs.bl 1 (g := true) (i' := if decide ((outside I (I y (((nI b) + (1 : Int32)).toNatClampNeg)) (0 : Int32) ((8 : Int32) - (1 : Int32))) = 0) = true then 17 else 15) (ls' := [some (.ref x), some (.int (nI b)), some (.ref 38), some (.int (I y (((nI b) + (1 : Int32)).toNatClampNeg))), none, none, none]) (st' := []) (M' := mk tl I L rd) rfl rfl ?_
  refine Runs.brP (fun h1 => ?_) (fun h1 => ?_)
  · skip
    refine Runs.bl 5 (g := inb (I y (((nI b) + (1 : Int32)).toNatClampNeg)) 8 && true) (i' := 22) (ls' := [some (.ref x), some (.int (nI b)), some (.ref 38), some (.int (I y (((nI b) + (1 : Int32)).toNatClampNeg))), some (.int (I 38 ((I y (((nI b) + (1 : Int32)).toNatClampNeg)).toNatClampNeg))), none, none]) (st' := [.ref x]) (M' := mk tl I L rd) rfl (by have q1 := outside_rng h1; simp only [Bool.and_true, Bool.true_and, Bool.and_eq_true, inb_iff, Int32.lt_iff_toInt_lt, Int32.le_iff_toInt_le, toI_0, toI_1, toI_2, toI_3, toI_4, toI_5, toI_6, toI_7, toI_8, toI_9, toI_10, toI_12, toI_16, toI_18, toI_20, toI_21, toI_23, toI_24, toI_32, toI_36, toI_39, toI_40, toI_48, toI_50, toI_60, toI_64, toI_75, toI_80, toI_100, toI_144, toI_160, toI_200, toI_256, toI_320, toI_380, toI_576, toI_600, toI_1000, toI_1280, toI_2400, toI_9999, toI_10000, toI_100000, toI_1000000, toI_m1, toI_m100000, toI_s9, toI_s8] at hb q1 ⊢; omega) ?_
    refine Runs.st rfl rfl rfl (dg_r (f := 2) (y := y) rfl hx hsx rfl hr) ?_
    refine Runs.bl 3 (g := true) (i' := 26) (ls' := [some (.ref x), some (.int (nI b)), some (.ref 38), some (.int (I y (((nI b) + (1 : Int32)).toNatClampNeg))), some (.int (I 38 ((I y (((nI b) + (1 : Int32)).toNatClampNeg)).toNatClampNeg))), none, none]) (st' := [.int ((nI b) + (3 : Int32)), .ref y]) (M' := mk tl I L rd) rfl rfl ?_
    refine Runs.st rfl rfl rfl (dal_i hy hsy (by simp only [nIp_0, nIp_1, nIp_2, nIp_3, nIp_4, nIp_5, nIp_6, nIp_7, nIp_8, nIp_9, nIp_10, nIp_11, nIp_12, nIp_13, nIp_14, nIp_15, nIp_16, nIp_17, nIp_18, nIp_19]; exact inb_nI (by omega) (by omega))) ?_
    refine Runs.bl 2 (g := true) (i' := 29) (ls' := [some (.ref x), some (.int (nI b)), some (.ref 38), some (.int (I y (((nI b) + (1 : Int32)).toNatClampNeg))), some (.int (I 38 ((I y (((nI b) + (1 : Int32)).toNatClampNeg)).toNatClampNeg))), some (.int (I y (((nI b) + (3 : Int32)).toNatClampNeg))), none]) (st' := [.ref x]) (M' := mk tl I L rd) rfl rfl ?_
    refine Runs.st rfl rfl rfl (dg_r (f := 2) (y := y) rfl hx hsx rfl hr) ?_
    refine Runs.bl 3 (g := true) (i' := 33) (ls' := [some (.ref x), some (.int (nI b)), some (.ref 38), some (.int (I y (((nI b) + (1 : Int32)).toNatClampNeg))), some (.int (I 38 ((I y (((nI b) + (1 : Int32)).toNatClampNeg)).toNatClampNeg))), some (.int (I y (((nI b) + (3 : Int32)).toNatClampNeg))), none]) (st' := [.int ((nI b) + (2 : Int32)), .ref y]) (M' := mk tl I L rd) rfl rfl ?_
    refine Runs.st rfl rfl rfl (dal_i hy hsy (by simp only [nIp_0, nIp_1, nIp_2, nIp_3, nIp_4, nIp_5, nIp_6, nIp_7, nIp_8, nIp_9, nIp_10, nIp_11, nIp_12, nIp_13, nIp_14, nIp_15, nIp_16, nIp_17, nIp_18, nIp_19]; exact inb_nI (by omega) (by omega))) ?_
    refine Runs.bl 1 (g := true) (i' := swL [(60, 35), (62, 43)] 51 (I y (((nI b) + (2 : Int32)).toNatClampNeg)).toInt) (ls' := [some (.ref x), some (.int (nI b)), some (.ref 38), some (.int (I y (((nI b) + (1 : Int32)).toNatClampNeg))), some (.int (I 38 ((I y (((nI b) + (1 : Int32)).toNatClampNeg)).toNatClampNeg))), some (.int (I y (((nI b) + (3 : Int32)).toNatClampNeg))), none]) (st' := []) (M' := mk tl I L rd) rfl rfl ?_
    by_cases h2 : (I y (((nI b) + (2 : Int32)).toNatClampNeg)) = (60 : Int32)
    · refine Runs.sw (c := 35) (by rw [h2]; decide) ?_
      refine Runs.bl 3 (g := true) (i' := if decide ((I y (((nI b) + (3 : Int32)).toNatClampNeg)) ≤ (I 38 ((I y (((nI b) + (1 : Int32)).toNatClampNeg)).toNatClampNeg))) = true then 40 else 38) (ls' := [some (.ref x), some (.int (nI b)), some (.ref 38), some (.int (I y (((nI b) + (1 : Int32)).toNatClampNeg))), some (.int (I 38 ((I y (((nI b) + (1 : Int32)).toNatClampNeg)).toNatClampNeg))), some (.int (I y (((nI b) + (3 : Int32)).toNatClampNeg))), none]) (st' := []) (M' := mk tl I L rd) rfl rfl ?_
      refine Runs.brP (fun h3 => ?_) (fun h3 => ?_)
      · skip
        refine Runs.bl 5 (g := true) (i' := 60) (ls' := [some (.ref x), some (.int (nI b)), some (.ref 38), some (.int (I y (((nI b) + (1 : Int32)).toNatClampNeg))), some (.int (I 38 ((I y (((nI b) + (1 : Int32)).toNatClampNeg)).toNatClampNeg))), some (.int (I y (((nI b) + (3 : Int32)).toNatClampNeg))), some (.int (0 : Int32))]) (st' := [.ref x, .int (0 : Int32)]) (M' := mk tl I L rd) rfl rfl ?_
        refine Runs.st rfl rfl rfl (dg_r (f := 2) (y := y) rfl hx hsx rfl hr) ?_
        refine Runs.bl 3 (g := true) (i' := 64) (ls' := [some (.ref x), some (.int (nI b)), some (.ref 38), some (.int (I y (((nI b) + (1 : Int32)).toNatClampNeg))), some (.int (I 38 ((I y (((nI b) + (1 : Int32)).toNatClampNeg)).toNatClampNeg))), some (.int (I y (((nI b) + (3 : Int32)).toNatClampNeg))), some (.int (0 : Int32))]) (st' := [.int ((nI b) + (0 : Int32)), .ref y, .int (0 : Int32)]) (M' := mk tl I L rd) rfl rfl ?_
        refine Runs.st rfl rfl rfl (dal_i hy hsy (by simp only [nIp_0, nIp_1, nIp_2, nIp_3, nIp_4, nIp_5, nIp_6, nIp_7, nIp_8, nIp_9, nIp_10, nIp_11, nIp_12, nIp_13, nIp_14, nIp_15, nIp_16, nIp_17, nIp_18, nIp_19]; exact inb_nI (by omega) (by omega))) ?_
        refine Runs.bl 1 (g := true) (i' := if decide ((I y (((nI b) + (0 : Int32)).toNatClampNeg)) = 0) = true then 68 else 66) (ls' := [some (.ref x), some (.int (nI b)), some (.ref 38), some (.int (I y (((nI b) + (1 : Int32)).toNatClampNeg))), some (.int (I 38 ((I y (((nI b) + (1 : Int32)).toNatClampNeg)).toNatClampNeg))), some (.int (I y (((nI b) + (3 : Int32)).toNatClampNeg))), some (.int (0 : Int32))]) (st' := [.int (0 : Int32)]) (M' := mk tl I L rd) rfl rfl ?_
        refine Runs.brP (fun h4 => ?_) (fun h4 => ?_)
        · skip
          refine Runs.bl 3 (g := true) (i' := 73) (ls' := [some (.ref x), some (.int (nI b)), some (.ref 38), some (.int (I y (((nI b) + (1 : Int32)).toNatClampNeg))), some (.int (I 38 ((I y (((nI b) + (1 : Int32)).toNatClampNeg)).toNatClampNeg))), some (.int (I y (((nI b) + (3 : Int32)).toNatClampNeg))), some (.int (0 : Int32))]) (st' := [.int (0 : Int32)]) (M' := mk tl I L rd) rfl rfl ?_
          exact Runs.rz rfl rfl (by decide) (by rw [testH, if_pos h1, if_pos h2, if_pos h3, if_pos h4] <;> rfl) (rfl)
        · skip
          refine Runs.bl 5 (g := true) (i' := 73) (ls' := [some (.ref x), some (.int (nI b)), some (.ref 38), some (.int (I y (((nI b) + (1 : Int32)).toNatClampNeg))), some (.int (I 38 ((I y (((nI b) + (1 : Int32)).toNatClampNeg)).toNatClampNeg))), some (.int (I y (((nI b) + (3 : Int32)).toNatClampNeg))), some (.int (0 : Int32))]) (st' := [.int (1 : Int32)]) (M' := mk tl I L rd) rfl rfl ?_
          exact Runs.rz rfl rfl (by decide) (by rw [testH, if_pos h1, if_pos h2, if_pos h3, if_neg h4] <;> rfl) (rfl)
      · skip
        refine Runs.bl 6 (g := true) (i' := 60) (ls' := [some (.ref x), some (.int (nI b)), some (.ref 38), some (.int (I y (((nI b) + (1 : Int32)).toNatClampNeg))), some (.int (I 38 ((I y (((nI b) + (1 : Int32)).toNatClampNeg)).toNatClampNeg))), some (.int (I y (((nI b) + (3 : Int32)).toNatClampNeg))), some (.int (1 : Int32))]) (st' := [.ref x, .int (1 : Int32)]) (M' := mk tl I L rd) rfl rfl ?_
        refine Runs.st rfl rfl rfl (dg_r (f := 2) (y := y) rfl hx hsx rfl hr) ?_
        refine Runs.bl 3 (g := true) (i' := 64) (ls' := [some (.ref x), some (.int (nI b)), some (.ref 38), some (.int (I y (((nI b) + (1 : Int32)).toNatClampNeg))), some (.int (I 38 ((I y (((nI b) + (1 : Int32)).toNatClampNeg)).toNatClampNeg))), some (.int (I y (((nI b) + (3 : Int32)).toNatClampNeg))), some (.int (1 : Int32))]) (st' := [.int ((nI b) + (0 : Int32)), .ref y, .int (1 : Int32)]) (M' := mk tl I L rd) rfl rfl ?_
        refine Runs.st rfl rfl rfl (dal_i hy hsy (by simp only [nIp_0, nIp_1, nIp_2, nIp_3, nIp_4, nIp_5, nIp_6, nIp_7, nIp_8, nIp_9, nIp_10, nIp_11, nIp_12, nIp_13, nIp_14, nIp_15, nIp_16, nIp_17, nIp_18, nIp_19]; exact inb_nI (by omega) (by omega))) ?_
        refine Runs.bl 1 (g := true) (i' := if decide ((I y (((nI b) + (0 : Int32)).toNatClampNeg)) = 0) = true then 68 else 66) (ls' := [some (.ref x), some (.int (nI b)), some (.ref 38), some (.int (I y (((nI b) + (1 : Int32)).toNatClampNeg))), some (.int (I 38 ((I y (((nI b) + (1 : Int32)).toNatClampNeg)).toNatClampNeg))), some (.int (I y (((nI b) + (3 : Int32)).toNatClampNeg))), some (.int (1 : Int32))]) (st' := [.int (1 : Int32)]) (M' := mk tl I L rd) rfl rfl ?_
        refine Runs.brP (fun h5 => ?_) (fun h5 => ?_)
        · skip
          refine Runs.bl 4 (g := true) (i' := 73) (ls' := [some (.ref x), some (.int (nI b)), some (.ref 38), some (.int (I y (((nI b) + (1 : Int32)).toNatClampNeg))), some (.int (I 38 ((I y (((nI b) + (1 : Int32)).toNatClampNeg)).toNatClampNeg))), some (.int (I y (((nI b) + (3 : Int32)).toNatClampNeg))), some (.int (1 : Int32))]) (st' := [.int (1 : Int32)]) (M' := mk tl I L rd) rfl rfl ?_
          exact Runs.rz rfl rfl (by decide) (by rw [testH, if_pos h1, if_pos h2, if_neg h3, if_pos h5] <;> rfl) (rfl)
        · skip
          refine Runs.bl 4 (g := true) (i' := 73) (ls' := [some (.ref x), some (.int (nI b)), some (.ref 38), some (.int (I y (((nI b) + (1 : Int32)).toNatClampNeg))), some (.int (I 38 ((I y (((nI b) + (1 : Int32)).toNatClampNeg)).toNatClampNeg))), some (.int (I y (((nI b) + (3 : Int32)).toNatClampNeg))), some (.int (1 : Int32))]) (st' := [.int (0 : Int32)]) (M' := mk tl I L rd) rfl rfl ?_
          exact Runs.rz rfl rfl (by decide) (by rw [testH, if_pos h1, if_pos h2, if_neg h3, if_neg h5] <;> rfl) (rfl)
    by_cases h6 : (I y (((nI b) + (2 : Int32)).toNatClampNeg)) = (62 : Int32)
    · refine Runs.sw (c := 43) (by rw [h6]; decide) ?_
      refine Runs.bl 3 (g := true) (i' := if decide ((I 38 ((I y (((nI b) + (1 : Int32)).toNatClampNeg)).toNatClampNeg)) ≤ (I y (((nI b) + (3 : Int32)).toNatClampNeg))) = true then 48 else 46) (ls' := [some (.ref x), some (.int (nI b)), some (.ref 38), some (.int (I y (((nI b) + (1 : Int32)).toNatClampNeg))), some (.int (I 38 ((I y (((nI b) + (1 : Int32)).toNatClampNeg)).toNatClampNeg))), some (.int (I y (((nI b) + (3 : Int32)).toNatClampNeg))), none]) (st' := []) (M' := mk tl I L rd) rfl rfl ?_
      refine Runs.brP (fun h7 => ?_) (fun h7 => ?_)
      · skip
        refine Runs.bl 5 (g := true) (i' := 60) (ls' := [some (.ref x), some (.int (nI b)), some (.ref 38), some (.int (I y (((nI b) + (1 : Int32)).toNatClampNeg))), some (.int (I 38 ((I y (((nI b) + (1 : Int32)).toNatClampNeg)).toNatClampNeg))), some (.int (I y (((nI b) + (3 : Int32)).toNatClampNeg))), some (.int (0 : Int32))]) (st' := [.ref x, .int (0 : Int32)]) (M' := mk tl I L rd) rfl rfl ?_
        refine Runs.st rfl rfl rfl (dg_r (f := 2) (y := y) rfl hx hsx rfl hr) ?_
        refine Runs.bl 3 (g := true) (i' := 64) (ls' := [some (.ref x), some (.int (nI b)), some (.ref 38), some (.int (I y (((nI b) + (1 : Int32)).toNatClampNeg))), some (.int (I 38 ((I y (((nI b) + (1 : Int32)).toNatClampNeg)).toNatClampNeg))), some (.int (I y (((nI b) + (3 : Int32)).toNatClampNeg))), some (.int (0 : Int32))]) (st' := [.int ((nI b) + (0 : Int32)), .ref y, .int (0 : Int32)]) (M' := mk tl I L rd) rfl rfl ?_
        refine Runs.st rfl rfl rfl (dal_i hy hsy (by simp only [nIp_0, nIp_1, nIp_2, nIp_3, nIp_4, nIp_5, nIp_6, nIp_7, nIp_8, nIp_9, nIp_10, nIp_11, nIp_12, nIp_13, nIp_14, nIp_15, nIp_16, nIp_17, nIp_18, nIp_19]; exact inb_nI (by omega) (by omega))) ?_
        refine Runs.bl 1 (g := true) (i' := if decide ((I y (((nI b) + (0 : Int32)).toNatClampNeg)) = 0) = true then 68 else 66) (ls' := [some (.ref x), some (.int (nI b)), some (.ref 38), some (.int (I y (((nI b) + (1 : Int32)).toNatClampNeg))), some (.int (I 38 ((I y (((nI b) + (1 : Int32)).toNatClampNeg)).toNatClampNeg))), some (.int (I y (((nI b) + (3 : Int32)).toNatClampNeg))), some (.int (0 : Int32))]) (st' := [.int (0 : Int32)]) (M' := mk tl I L rd) rfl rfl ?_
        refine Runs.brP (fun h8 => ?_) (fun h8 => ?_)
        · skip
          refine Runs.bl 3 (g := true) (i' := 73) (ls' := [some (.ref x), some (.int (nI b)), some (.ref 38), some (.int (I y (((nI b) + (1 : Int32)).toNatClampNeg))), some (.int (I 38 ((I y (((nI b) + (1 : Int32)).toNatClampNeg)).toNatClampNeg))), some (.int (I y (((nI b) + (3 : Int32)).toNatClampNeg))), some (.int (0 : Int32))]) (st' := [.int (0 : Int32)]) (M' := mk tl I L rd) rfl rfl ?_
          exact Runs.rz rfl rfl (by decide) (by rw [testH, if_pos h1, if_neg h2, if_pos h6, if_pos h7, if_pos h8] <;> rfl) (rfl)
        · skip
          refine Runs.bl 5 (g := true) (i' := 73) (ls' := [some (.ref x), some (.int (nI b)), some (.ref 38), some (.int (I y (((nI b) + (1 : Int32)).toNatClampNeg))), some (.int (I 38 ((I y (((nI b) + (1 : Int32)).toNatClampNeg)).toNatClampNeg))), some (.int (I y (((nI b) + (3 : Int32)).toNatClampNeg))), some (.int (0 : Int32))]) (st' := [.int (1 : Int32)]) (M' := mk tl I L rd) rfl rfl ?_
          exact Runs.rz rfl rfl (by decide) (by rw [testH, if_pos h1, if_neg h2, if_pos h6, if_pos h7, if_neg h8] <;> rfl) (rfl)
      · skip
        refine Runs.bl 6 (g := true) (i' := 60) (ls' := [some (.ref x), some (.int (nI b)), some (.ref 38), some (.int (I y (((nI b) + (1 : Int32)).toNatClampNeg))), some (.int (I 38 ((I y (((nI b) + (1 : Int32)).toNatClampNeg)).toNatClampNeg))), some (.int (I y (((nI b) + (3 : Int32)).toNatClampNeg))), some (.int (1 : Int32))]) (st' := [.ref x, .int (1 : Int32)]) (M' := mk tl I L rd) rfl rfl ?_
        refine Runs.st rfl rfl rfl (dg_r (f := 2) (y := y) rfl hx hsx rfl hr) ?_
        refine Runs.bl 3 (g := true) (i' := 64) (ls' := [some (.ref x), some (.int (nI b)), some (.ref 38), some (.int (I y (((nI b) + (1 : Int32)).toNatClampNeg))), some (.int (I 38 ((I y (((nI b) + (1 : Int32)).toNatClampNeg)).toNatClampNeg))), some (.int (I y (((nI b) + (3 : Int32)).toNatClampNeg))), some (.int (1 : Int32))]) (st' := [.int ((nI b) + (0 : Int32)), .ref y, .int (1 : Int32)]) (M' := mk tl I L rd) rfl rfl ?_
        refine Runs.st rfl rfl rfl (dal_i hy hsy (by simp only [nIp_0, nIp_1, nIp_2, nIp_3, nIp_4, nIp_5, nIp_6, nIp_7, nIp_8, nIp_9, nIp_10, nIp_11, nIp_12, nIp_13, nIp_14, nIp_15, nIp_16, nIp_17, nIp_18, nIp_19]; exact inb_nI (by omega) (by omega))) ?_
        refine Runs.bl 1 (g := true) (i' := if decide ((I y (((nI b) + (0 : Int32)).toNatClampNeg)) = 0) = true then 68 else 66) (ls' := [some (.ref x), some (.int (nI b)), some (.ref 38), some (.int (I y (((nI b) + (1 : Int32)).toNatClampNeg))), some (.int (I 38 ((I y (((nI b) + (1 : Int32)).toNatClampNeg)).toNatClampNeg))), some (.int (I y (((nI b) + (3 : Int32)).toNatClampNeg))), some (.int (1 : Int32))]) (st' := [.int (1 : Int32)]) (M' := mk tl I L rd) rfl rfl ?_
        refine Runs.brP (fun h9 => ?_) (fun h9 => ?_)
        · skip
          refine Runs.bl 4 (g := true) (i' := 73) (ls' := [some (.ref x), some (.int (nI b)), some (.ref 38), some (.int (I y (((nI b) + (1 : Int32)).toNatClampNeg))), some (.int (I 38 ((I y (((nI b) + (1 : Int32)).toNatClampNeg)).toNatClampNeg))), some (.int (I y (((nI b) + (3 : Int32)).toNatClampNeg))), some (.int (1 : Int32))]) (st' := [.int (1 : Int32)]) (M' := mk tl I L rd) rfl rfl ?_
          exact Runs.rz rfl rfl (by decide) (by rw [testH, if_pos h1, if_neg h2, if_pos h6, if_neg h7, if_pos h9] <;> rfl) (rfl)
        · skip
          refine Runs.bl 4 (g := true) (i' := 73) (ls' := [some (.ref x), some (.int (nI b)), some (.ref 38), some (.int (I y (((nI b) + (1 : Int32)).toNatClampNeg))), some (.int (I 38 ((I y (((nI b) + (1 : Int32)).toNatClampNeg)).toNatClampNeg))), some (.int (I y (((nI b) + (3 : Int32)).toNatClampNeg))), some (.int (1 : Int32))]) (st' := [.int (0 : Int32)]) (M' := mk tl I L rd) rfl rfl ?_
          exact Runs.rz rfl rfl (by decide) (by rw [testH, if_pos h1, if_neg h2, if_pos h6, if_neg h7, if_neg h9] <;> rfl) (rfl)
    refine Runs.sw (c := 51) (by unfold swL; rw [Op.lookupswitch.offset_cons, if_neg (swn h2 (c := 60) (by decide)), Op.lookupswitch.offset_cons, if_neg (swn h6 (c := 62) (by decide))]; rfl) ?_
    refine Runs.bl 3 (g := true) (i' := if decide (¬ (I 38 ((I y (((nI b) + (1 : Int32)).toNatClampNeg)).toNatClampNeg)) = (I y (((nI b) + (3 : Int32)).toNatClampNeg))) = true then 56 else 54) (ls' := [some (.ref x), some (.int (nI b)), some (.ref 38), some (.int (I y (((nI b) + (1 : Int32)).toNatClampNeg))), some (.int (I 38 ((I y (((nI b) + (1 : Int32)).toNatClampNeg)).toNatClampNeg))), some (.int (I y (((nI b) + (3 : Int32)).toNatClampNeg))), none]) (st' := []) (M' := mk tl I L rd) rfl rfl ?_
    refine Runs.brP (fun h10 => ?_) (fun h10 => ?_)
    · skip
      refine Runs.bl 4 (g := true) (i' := 60) (ls' := [some (.ref x), some (.int (nI b)), some (.ref 38), some (.int (I y (((nI b) + (1 : Int32)).toNatClampNeg))), some (.int (I 38 ((I y (((nI b) + (1 : Int32)).toNatClampNeg)).toNatClampNeg))), some (.int (I y (((nI b) + (3 : Int32)).toNatClampNeg))), some (.int (0 : Int32))]) (st' := [.ref x, .int (0 : Int32)]) (M' := mk tl I L rd) rfl rfl ?_
      refine Runs.st rfl rfl rfl (dg_r (f := 2) (y := y) rfl hx hsx rfl hr) ?_
      refine Runs.bl 3 (g := true) (i' := 64) (ls' := [some (.ref x), some (.int (nI b)), some (.ref 38), some (.int (I y (((nI b) + (1 : Int32)).toNatClampNeg))), some (.int (I 38 ((I y (((nI b) + (1 : Int32)).toNatClampNeg)).toNatClampNeg))), some (.int (I y (((nI b) + (3 : Int32)).toNatClampNeg))), some (.int (0 : Int32))]) (st' := [.int ((nI b) + (0 : Int32)), .ref y, .int (0 : Int32)]) (M' := mk tl I L rd) rfl rfl ?_
      refine Runs.st rfl rfl rfl (dal_i hy hsy (by simp only [nIp_0, nIp_1, nIp_2, nIp_3, nIp_4, nIp_5, nIp_6, nIp_7, nIp_8, nIp_9, nIp_10, nIp_11, nIp_12, nIp_13, nIp_14, nIp_15, nIp_16, nIp_17, nIp_18, nIp_19]; exact inb_nI (by omega) (by omega))) ?_
      refine Runs.bl 1 (g := true) (i' := if decide ((I y (((nI b) + (0 : Int32)).toNatClampNeg)) = 0) = true then 68 else 66) (ls' := [some (.ref x), some (.int (nI b)), some (.ref 38), some (.int (I y (((nI b) + (1 : Int32)).toNatClampNeg))), some (.int (I 38 ((I y (((nI b) + (1 : Int32)).toNatClampNeg)).toNatClampNeg))), some (.int (I y (((nI b) + (3 : Int32)).toNatClampNeg))), some (.int (0 : Int32))]) (st' := [.int (0 : Int32)]) (M' := mk tl I L rd) rfl rfl ?_
      refine Runs.brP (fun h11 => ?_) (fun h11 => ?_)
      · skip
        refine Runs.bl 3 (g := true) (i' := 73) (ls' := [some (.ref x), some (.int (nI b)), some (.ref 38), some (.int (I y (((nI b) + (1 : Int32)).toNatClampNeg))), some (.int (I 38 ((I y (((nI b) + (1 : Int32)).toNatClampNeg)).toNatClampNeg))), some (.int (I y (((nI b) + (3 : Int32)).toNatClampNeg))), some (.int (0 : Int32))]) (st' := [.int (0 : Int32)]) (M' := mk tl I L rd) rfl rfl ?_
        exact Runs.rz rfl rfl (by decide) (by rw [testH, if_pos h1, if_neg h2, if_neg h6, if_pos h10, if_pos h11] <;> rfl) (rfl)
      · skip
        refine Runs.bl 5 (g := true) (i' := 73) (ls' := [some (.ref x), some (.int (nI b)), some (.ref 38), some (.int (I y (((nI b) + (1 : Int32)).toNatClampNeg))), some (.int (I 38 ((I y (((nI b) + (1 : Int32)).toNatClampNeg)).toNatClampNeg))), some (.int (I y (((nI b) + (3 : Int32)).toNatClampNeg))), some (.int (0 : Int32))]) (st' := [.int (1 : Int32)]) (M' := mk tl I L rd) rfl rfl ?_
        exact Runs.rz rfl rfl (by decide) (by rw [testH, if_pos h1, if_neg h2, if_neg h6, if_pos h10, if_neg h11] <;> rfl) (rfl)
    · skip
      refine Runs.bl 5 (g := true) (i' := 60) (ls' := [some (.ref x), some (.int (nI b)), some (.ref 38), some (.int (I y (((nI b) + (1 : Int32)).toNatClampNeg))), some (.int (I 38 ((I y (((nI b) + (1 : Int32)).toNatClampNeg)).toNatClampNeg))), some (.int (I y (((nI b) + (3 : Int32)).toNatClampNeg))), some (.int (1 : Int32))]) (st' := [.ref x, .int (1 : Int32)]) (M' := mk tl I L rd) rfl rfl ?_
      refine Runs.st rfl rfl rfl (dg_r (f := 2) (y := y) rfl hx hsx rfl hr) ?_
      refine Runs.bl 3 (g := true) (i' := 64) (ls' := [some (.ref x), some (.int (nI b)), some (.ref 38), some (.int (I y (((nI b) + (1 : Int32)).toNatClampNeg))), some (.int (I 38 ((I y (((nI b) + (1 : Int32)).toNatClampNeg)).toNatClampNeg))), some (.int (I y (((nI b) + (3 : Int32)).toNatClampNeg))), some (.int (1 : Int32))]) (st' := [.int ((nI b) + (0 : Int32)), .ref y, .int (1 : Int32)]) (M' := mk tl I L rd) rfl rfl ?_
      refine Runs.st rfl rfl rfl (dal_i hy hsy (by simp only [nIp_0, nIp_1, nIp_2, nIp_3, nIp_4, nIp_5, nIp_6, nIp_7, nIp_8, nIp_9, nIp_10, nIp_11, nIp_12, nIp_13, nIp_14, nIp_15, nIp_16, nIp_17, nIp_18, nIp_19]; exact inb_nI (by omega) (by omega))) ?_
      refine Runs.bl 1 (g := true) (i' := if decide ((I y (((nI b) + (0 : Int32)).toNatClampNeg)) = 0) = true then 68 else 66) (ls' := [some (.ref x), some (.int (nI b)), some (.ref 38), some (.int (I y (((nI b) + (1 : Int32)).toNatClampNeg))), some (.int (I 38 ((I y (((nI b) + (1 : Int32)).toNatClampNeg)).toNatClampNeg))), some (.int (I y (((nI b) + (3 : Int32)).toNatClampNeg))), some (.int (1 : Int32))]) (st' := [.int (1 : Int32)]) (M' := mk tl I L rd) rfl rfl ?_
      refine Runs.brP (fun h12 => ?_) (fun h12 => ?_)
      · skip
        refine Runs.bl 4 (g := true) (i' := 73) (ls' := [some (.ref x), some (.int (nI b)), some (.ref 38), some (.int (I y (((nI b) + (1 : Int32)).toNatClampNeg))), some (.int (I 38 ((I y (((nI b) + (1 : Int32)).toNatClampNeg)).toNatClampNeg))), some (.int (I y (((nI b) + (3 : Int32)).toNatClampNeg))), some (.int (1 : Int32))]) (st' := [.int (1 : Int32)]) (M' := mk tl I L rd) rfl rfl ?_
        exact Runs.rz rfl rfl (by decide) (by rw [testH, if_pos h1, if_neg h2, if_neg h6, if_neg h10, if_pos h12] <;> rfl) (rfl)
      · skip
        refine Runs.bl 4 (g := true) (i' := 73) (ls' := [some (.ref x), some (.int (nI b)), some (.ref 38), some (.int (I y (((nI b) + (1 : Int32)).toNatClampNeg))), some (.int (I 38 ((I y (((nI b) + (1 : Int32)).toNatClampNeg)).toNatClampNeg))), some (.int (I y (((nI b) + (3 : Int32)).toNatClampNeg))), some (.int (1 : Int32))]) (st' := [.int (0 : Int32)]) (M' := mk tl I L rd) rfl rfl ?_
        exact Runs.rz rfl rfl (by decide) (by rw [testH, if_pos h1, if_neg h2, if_neg h6, if_neg h10, if_neg h12] <;> rfl) (rfl)
  · skip
    refine Runs.bl 1 (g := true) (i' := 16) (ls' := [some (.ref x), some (.int (nI b)), some (.ref 38), some (.int (I y (((nI b) + (1 : Int32)).toNatClampNeg))), none, none, none]) (st' := [.int (0 : Int32)]) (M' := mk tl I L rd) rfl rfl ?_
    exact Runs.rz rfl rfl (by decide) (by rw [testH, if_neg h1] <;> rfl) (rfl)

theorem nI_mul (a b : Nat) : nI a * nI b = nI (a * b) := (Int32.ofNat_mul a b).symm
def testsH_sr (I : Nat → Nat → Int32) (L : Nat → Nat → Int64) (y b : Nat) : Nat → Nat → Int32
  | 0, j => (1 : Int32)
  | f + 1, j =>
  if ¬ (testH I y (b + 3 + 4 * j)) = 0 then (testsH_sr I L y b f (j + 1)) else
  (0 : Int32)

set_option maxRecDepth 20000 in
theorem l_testsH (tl : List (Nat × Nat)) (I : Nat → Nat → Int32) (L : Nat → Nat → Int64) (rd : Nat → Nat → Option Nat) (y b : Nat) (T : Int32) (m : Nat) (x N : Nat) (hx : x < mx) (hsx : (Sst ++ tl)[x]? = some (10, 4)) (hy : y < mx) (hsy : (Sst ++ tl)[y]? = some (0, N)) (hr : rst rd x 2 = some y) (hN : N < 1000) (hT : m ≤ 4) (hm : m = T.toNatClampNeg) (hb : b + 18 < N) : ∀ f j, j + f = m → Runs 2 11 [some (.ref x), some (.int (nI b)), some (.ref 38), some (.int T), some (.int (nI j))] [] (mk tl I L rd) (some (.int (testsH_sr I L y b f j))) (mk tl I L rd) := by
  intro f
  induction f with
  | zero =>
    intro j hj
    obtain rfl : j = m := hj
    refine Runs.bl 3 (g := true) (i' := if decide (T ≤ (nI j)) = true then 29 else 14) (ls' := [some (.ref x), some (.int (nI b)), some (.ref 38), some (.int T), some (.int (nI j))]) (st' := []) (M' := mk tl I L rd) rfl rfl ?_
    refine Runs.brT (by rw [hm]; exact clamp_ge T) ?_
    refine Runs.bl 1 (g := true) (i' := 30) (ls' := [some (.ref x), some (.int (nI b)), some (.ref 38), some (.int T), some (.int (nI j))]) (st' := [.int (1 : Int32)]) (M' := mk tl I L rd) rfl rfl ?_
    exact Runs.rz rfl rfl (by decide) (by rw [testsH_sr] <;> rfl) (rfl)
  | succ f ih =>
    intro j hj
    refine Runs.bl 3 (g := true) (i' := if decide (T ≤ (nI j)) = true then 29 else 14) (ls' := [some (.ref x), some (.int (nI b)), some (.ref 38), some (.int T), some (.int (nI j))]) (st' := []) (M' := mk tl I L rd) rfl rfl ?_
    refine Runs.brF (clamp_lt (by omega)) ?_
    refine Runs.bl 9 (g := true) (i' := 23) (ls' := [some (.ref x), some (.int (nI b)), some (.ref 38), some (.int T), some (.int (nI j))]) (st' := [.ref 38, .int (((nI b) + (3 : Int32)) + ((nI j) * (4 : Int32))), .ref x]) (M' := mk tl I L rd) rfl rfl ?_
    refine Runs.call (k' := 3) (as := [.ref x, .int (((nI b) + (3 : Int32)) + ((nI j) * (4 : Int32))), .ref 38]) (rest := []) (r1 := some (.int (testH I y (b + 3 + 4 * j)))) (M1 := mk tl I L rd) rfl rfl (cal2_v rfl rfl rfl (rcv_of hx hsx rfl)) (by rw [show (((nI b) + (3 : Int32)) + ((nI j) * (4 : Int32))) = nI (b + 3 + 4 * j) from by rw [nIp_3, Int32.mul_comm]; exact (by rw [show ((4 : Int32) * nI j) = nI (4 * j) from nI_mul 4 j, nI_add])]; exact c_testH tl I L rd y (b + 3 + 4 * j) x N hx hsx hy hsy hr hN (by omega)) ?_
    refine Runs.bl 1 (g := true) (i' := if decide (¬ (testH I y (b + 3 + 4 * j)) = 0) = true then 27 else 25) (ls' := [some (.ref x), some (.int (nI b)), some (.ref 38), some (.int T), some (.int (nI j))]) (st' := []) (M' := mk tl I L rd) rfl rfl ?_
    refine Runs.brP (fun h1 => ?_) (fun h1 => ?_)
    · skip
      refine Runs.bl 2 (g := true) (i' := 11) (ls' := [some (.ref x), some (.int (nI b)), some (.ref 38), some (.int T), some (.int ((nI j) + 1))]) (st' := []) (M' := mk tl I L rd) rfl rfl ?_
      rw [show testsH_sr I L y b (f + 1) j = testsH_sr I L y b f (j + 1) from by rw [testsH_sr, if_pos h1]]
      exact Runs.cg (by rw [nI_1]) rfl (ih (j + 1) (by omega))
    · skip
      refine Runs.bl 1 (g := true) (i' := 26) (ls' := [some (.ref x), some (.int (nI b)), some (.ref 38), some (.int T), some (.int (nI j))]) (st' := [.int (0 : Int32)]) (M' := mk tl I L rd) rfl rfl ?_
      exact Runs.rz rfl rfl (by decide) (by rw [testsH_sr, if_neg h1] <;> rfl) (rfl)

def tcnt (I : Nat → Nat → Int32) (y b : Nat) : Nat := ((if (I y (((nI b) + (2 : Int32)).toNatClampNeg)) < (4 : Int32) then I y (((nI b) + (2 : Int32)).toNatClampNeg) else (4 : Int32))).toNatClampNeg
theorem tcnt_le (I : Nat → Nat → Int32) (y b : Nat) : tcnt I y b ≤ 4 := by
  unfold tcnt
  split
  · rename_i h
    rw [Int32.lt_iff_toInt_lt, toI_4] at h
    show Int.toNat _ ≤ 4
    omega
  · decide
def testsH (I : Nat → Nat → Int32) (L : Nat → Nat → Int64) (y b : Nat) : Int32 := testsH_sr I L y b (tcnt I y b) 0

set_option maxRecDepth 20000 in
theorem c_testsH (tl : List (Nat × Nat)) (I : Nat → Nat → Int32) (L : Nat → Nat → Int64) (rd : Nat → Nat → Option Nat) (y b : Nat) (x N : Nat) (hx : x < mx) (hsx : (Sst ++ tl)[x]? = some (10, 4)) (hy : y < mx) (hsy : (Sst ++ tl)[y]? = some (0, N)) (hr : rst rd x 2 = some y) (hN : N < 1000) (hb : b + 18 < N) : Call 2 [.ref x, .int (nI b), .ref 38] (mk tl I L rd) (some (.int (testsH I L y b))) (mk tl I L rd) := by
  show Runs 2 0 [some (.ref x), some (.int (nI b)), some (.ref 38), none, none] [] (mk tl I L rd) (some (.int (testsH I L y b))) (mk tl I L rd)
  refine Runs.bl 2 (g := true) (i' := 2) (ls' := [some (.ref x), some (.int (nI b)), some (.ref 38), none, none]) (st' := [.ref x, .int (4 : Int32)]) (M' := mk tl I L rd) rfl rfl ?_
  refine Runs.st rfl rfl rfl (dg_r (f := 2) (y := y) rfl hx hsx rfl hr) ?_
  refine Runs.bl 3 (g := true) (i' := 6) (ls' := [some (.ref x), some (.int (nI b)), some (.ref 38), none, none]) (st' := [.int ((nI b) + (2 : Int32)), .ref y, .int (4 : Int32)]) (M' := mk tl I L rd) rfl rfl ?_
  refine Runs.st rfl rfl rfl (dal_i hy hsy (by simp only [nIp_0, nIp_1, nIp_2, nIp_3, nIp_4, nIp_5, nIp_6, nIp_7, nIp_8, nIp_9, nIp_10, nIp_11, nIp_12, nIp_13, nIp_14, nIp_15, nIp_16, nIp_17, nIp_18, nIp_19]; exact inb_nI (by omega) (by omega))) ?_
  refine Runs.bl 4 (g := true && true) (i' := 11) (ls' := [some (.ref x), some (.int (nI b)), some (.ref 38), some (.int (if (I y (((nI b) + (2 : Int32)).toNatClampNeg)) < (4 : Int32) then I y (((nI b) + (2 : Int32)).toNatClampNeg) else (4 : Int32))), some (.int (0 : Int32))]) (st' := []) (M' := mk tl I L rd) rfl rfl ?_
  exact l_testsH tl I L rd y b _ (tcnt I y b) x N hx hsx hy hsy hr hN (tcnt_le I y b) rfl hb _ 0 (Nat.zero_add _)

def tells_sr (I : Nat → Nat → Int32) (L : Nat → Nat → Int64) (y : Nat) (w : Int32) : Nat → Nat → Int32
  | 0, j => without I w
  | f + 1, j =>
  if ¬ (I y ((((nI j) * (19 : Int32)) + (0 : Int32)).toNatClampNeg)) = w then (tells_sr I L y w f (j + 1)) else
  if (testsH I L y (j * 19)) = 0 then (tells_sr I L y w f (j + 1)) else
  I y ((((nI j) * (19 : Int32)) + (1 : Int32)).toNatClampNeg)

set_option maxRecDepth 20000 in
theorem l_tells (tl : List (Nat × Nat)) (I : Nat → Nat → Int32) (L : Nat → Nat → Int64) (rd : Nat → Nat → Option Nat) (y : Nat) (w : Int32) (m : Nat) (x N : Nat) (hx : x < mx) (hsx : (Sst ++ tl)[x]? = some (10, 4)) (hy : y < mx) (hsy : (Sst ++ tl)[y]? = some (0, N)) (hr : rst rd x 2 = some y) (hN : N < 1000) (hm : m = (I x 3).toNatClampNeg) (hc : m * 19 ≤ N) : ∀ f j o4, j + f = m → Runs 1 2 [some (.ref x), some (.int w), some (.ref 38), some (.int (nI j)), o4] [] (mk tl I L rd) (some (.int (tells_sr I L y w f j))) (mk tl I L rd) := by
  intro f
  induction f with
  | zero =>
    intro j o4 hj
    obtain rfl : j = m := hj
    refine Runs.bl 2 (g := true) (i' := 4) (ls' := [some (.ref x), some (.int w), some (.ref 38), some (.int (nI j)), o4]) (st' := [.ref x, .int (nI j)]) (M' := mk tl I L rd) rfl rfl ?_
    refine Runs.st rfl rfl rfl (dg_i (f := 3) rfl hx hsx rfl) ?_
    refine Runs.bl 1 (g := true) (i' := if decide ((I x 3) ≤ (nI j)) = true then 32 else 6) (ls' := [some (.ref x), some (.int w), some (.ref 38), some (.int (nI j)), o4]) (st' := []) (M' := mk tl I L rd) rfl rfl ?_
    refine Runs.brT (by rw [hm]; exact clamp_ge _) ?_
    refine Runs.bl 1 (g := true) (i' := 33) (ls' := [some (.ref x), some (.int w), some (.ref 38), some (.int (nI j)), o4]) (st' := [.int w]) (M' := mk tl I L rd) rfl rfl ?_
    refine Runs.call (k' := 39) (as := [.int w]) (rest := []) (r1 := some (.int (without I w))) (M1 := mk tl I L rd) rfl rfl rfl (c_without tl I L rd w ) ?_
    exact Runs.ri rfl rfl (by rw [tells_sr] <;> rfl) (rfl)
  | succ f ih =>
    intro j o4 hj
    refine Runs.bl 2 (g := true) (i' := 4) (ls' := [some (.ref x), some (.int w), some (.ref 38), some (.int (nI j)), o4]) (st' := [.ref x, .int (nI j)]) (M' := mk tl I L rd) rfl rfl ?_
    refine Runs.st rfl rfl rfl (dg_i (f := 3) rfl hx hsx rfl) ?_
    refine Runs.bl 1 (g := true) (i' := if decide ((I x 3) ≤ (nI j)) = true then 32 else 6) (ls' := [some (.ref x), some (.int w), some (.ref 38), some (.int (nI j)), o4]) (st' := []) (M' := mk tl I L rd) rfl rfl ?_
    refine Runs.brF (clamp_lt (by omega)) ?_
    refine Runs.bl 5 (g := true) (i' := 11) (ls' := [some (.ref x), some (.int w), some (.ref 38), some (.int (nI j)), some (.int ((nI j) * (19 : Int32)))]) (st' := [.ref x]) (M' := mk tl I L rd) rfl rfl ?_
    refine Runs.st rfl rfl rfl (dg_r (f := 2) (y := y) rfl hx hsx rfl hr) ?_
    refine Runs.bl 3 (g := true) (i' := 15) (ls' := [some (.ref x), some (.int w), some (.ref 38), some (.int (nI j)), some (.int ((nI j) * (19 : Int32)))]) (st' := [.int (((nI j) * (19 : Int32)) + (0 : Int32)), .ref y]) (M' := mk tl I L rd) rfl rfl ?_
    refine Runs.st rfl rfl rfl (dal_i hy hsy (by rw [show ((nI j) * (19 : Int32)) = nI (j * 19) from nI_mul j 19]; simp only [nIp_0, nIp_1, nIp_2, nIp_3, nIp_4, nIp_5, nIp_6, nIp_7, nIp_8, nIp_9, nIp_10, nIp_11, nIp_12, nIp_13, nIp_14, nIp_15, nIp_16, nIp_17, nIp_18, nIp_19]; exact inb_nI (by omega) (by omega))) ?_
    refine Runs.bl 2 (g := true) (i' := if decide (¬ (I y ((((nI j) * (19 : Int32)) + (0 : Int32)).toNatClampNeg)) = w) = true then 30 else 18) (ls' := [some (.ref x), some (.int w), some (.ref 38), some (.int (nI j)), some (.int ((nI j) * (19 : Int32)))]) (st' := []) (M' := mk tl I L rd) rfl rfl ?_
    refine Runs.brP (fun h1 => ?_) (fun h1 => ?_)
    · skip
      refine Runs.bl 2 (g := true) (i' := 2) (ls' := [some (.ref x), some (.int w), some (.ref 38), some (.int ((nI j) + 1)), some (.int ((nI j) * (19 : Int32)))]) (st' := []) (M' := mk tl I L rd) rfl rfl ?_
      rw [show tells_sr I L y w (f + 1) j = tells_sr I L y w f (j + 1) from by rw [tells_sr, if_pos h1]]
      exact Runs.cg (by rw [nI_1]) rfl (ih (j + 1) _ (by omega))
    · skip
      refine Runs.bl 3 (g := true) (i' := 21) (ls' := [some (.ref x), some (.int w), some (.ref 38), some (.int (nI j)), some (.int ((nI j) * (19 : Int32)))]) (st' := [.ref 38, .int ((nI j) * (19 : Int32)), .ref x]) (M' := mk tl I L rd) rfl rfl ?_
      refine Runs.call (k' := 2) (as := [.ref x, .int ((nI j) * (19 : Int32)), .ref 38]) (rest := []) (r1 := some (.int (testsH I L y (j * 19)))) (M1 := mk tl I L rd) rfl rfl (cal2_v rfl rfl rfl (rcv_of hx hsx rfl)) (by rw [show ((nI j) * (19 : Int32)) = nI (j * 19) from nI_mul j 19]; exact c_testsH tl I L rd y (j * 19) x N hx hsx hy hsy hr hN (by omega)) ?_
      refine Runs.bl 1 (g := true) (i' := if decide ((testsH I L y (j * 19)) = 0) = true then 30 else 23) (ls' := [some (.ref x), some (.int w), some (.ref 38), some (.int (nI j)), some (.int ((nI j) * (19 : Int32)))]) (st' := []) (M' := mk tl I L rd) rfl rfl ?_
      refine Runs.brP (fun h2 => ?_) (fun h2 => ?_)
      · skip
        refine Runs.bl 2 (g := true) (i' := 2) (ls' := [some (.ref x), some (.int w), some (.ref 38), some (.int ((nI j) + 1)), some (.int ((nI j) * (19 : Int32)))]) (st' := []) (M' := mk tl I L rd) rfl rfl ?_
        rw [show tells_sr I L y w (f + 1) j = tells_sr I L y w f (j + 1) from by rw [tells_sr, if_neg h1, if_pos h2]]
        exact Runs.cg (by rw [nI_1]) rfl (ih (j + 1) _ (by omega))
      · skip
        refine Runs.bl 1 (g := true) (i' := 24) (ls' := [some (.ref x), some (.int w), some (.ref 38), some (.int (nI j)), some (.int ((nI j) * (19 : Int32)))]) (st' := [.ref x]) (M' := mk tl I L rd) rfl rfl ?_
        refine Runs.st rfl rfl rfl (dg_r (f := 2) (y := y) rfl hx hsx rfl hr) ?_
        refine Runs.bl 3 (g := true) (i' := 28) (ls' := [some (.ref x), some (.int w), some (.ref 38), some (.int (nI j)), some (.int ((nI j) * (19 : Int32)))]) (st' := [.int (((nI j) * (19 : Int32)) + (1 : Int32)), .ref y]) (M' := mk tl I L rd) rfl rfl ?_
        refine Runs.st rfl rfl rfl (dal_i hy hsy (by rw [show ((nI j) * (19 : Int32)) = nI (j * 19) from nI_mul j 19]; simp only [nIp_0, nIp_1, nIp_2, nIp_3, nIp_4, nIp_5, nIp_6, nIp_7, nIp_8, nIp_9, nIp_10, nIp_11, nIp_12, nIp_13, nIp_14, nIp_15, nIp_16, nIp_17, nIp_18, nIp_19]; exact inb_nI (by omega) (by omega))) ?_
        exact Runs.ri rfl rfl (by rw [tells_sr, if_neg h1, if_neg h2] <;> rfl) (rfl)

set_option maxRecDepth 20000 in
theorem c_tells (tl : List (Nat × Nat)) (I : Nat → Nat → Int32) (L : Nat → Nat → Int64) (rd : Nat → Nat → Option Nat) (y : Nat) (w : Int32) (x N : Nat) (hx : x < mx) (hsx : (Sst ++ tl)[x]? = some (10, 4)) (hy : y < mx) (hsy : (Sst ++ tl)[y]? = some (0, N)) (hr : rst rd x 2 = some y) (hN : N < 1000) (hc : (I x 3).toNatClampNeg * 19 ≤ N) : Call 1 [.ref x, .int w, .ref 38] (mk tl I L rd) (some (.int (tells_sr I L y w (I x 3).toNatClampNeg 0))) (mk tl I L rd) := by
  show Runs 1 0 [some (.ref x), some (.int w), some (.ref 38), none, none] [] (mk tl I L rd) (some (.int (tells_sr I L y w (I x 3).toNatClampNeg 0))) (mk tl I L rd)
  refine Runs.bl 2 (g := true) (i' := 2) (ls' := [some (.ref x), some (.int w), some (.ref 38), some (.int (0 : Int32)), none]) (st' := []) (M' := mk tl I L rd) rfl rfl ?_
  exact l_tells tl I L rd y w _ x N hx hsx hy hsy hr hN rfl hc _ 0 _ (Nat.zero_add _)

def AO (tl : List (Nat × Nat)) (rd : Nat → Nat → Option Nat) (n : Nat) (xa xl N : Nat → Nat) : Prop := ∀ a, a < n → rst rd 32 a = some (xa a) ∧ xa a < mx ∧ (Sst ++ tl)[xa a]? = some (10, 4) ∧ rst rd (xa a) 2 = some (xl a) ∧ xl a < mx ∧ (Sst ++ tl)[xl a]? = some (0, N a) ∧ N a < 1000 ∧ 131 ≤ xl a
def AC (I : Nat → Nat → Int32) (n : Nat) (xa N : Nat → Nat) : Prop := ∀ a, a < n → 131 ≤ xa a ∧ (I (xa a) 3).toNatClampNeg * 19 ≤ N a
theorem AC.cg {I I' : Nat → Nat → Int32} {n : Nat} {xa N : Nat → Nat} (h : AC I n xa N) (e : ∀ a, 131 ≤ a → I' a = I a) : AC I' n xa N := fun a ha => ⟨(h a ha).1, by rw [e _ (h a ha).1]; exact (h a ha).2⟩
theorem AC.u1 {I : Nat → Nat → Int32} {n : Nat} {xa N : Nat → Nat} {c : Nat} {g : Nat → Int32} (h : AC I n xa N) (hc : c < 131) : AC (up1 I c g) n xa N := h.cg fun a ha => up1_ne (by omega)
theorem AC.u2 {I : Nat → Nat → Int32} {n : Nat} {xa N : Nat → Nat} {c k : Nat} {v : Int32} (h : AC I n xa N) (hc : c < 131) : AC (up2 I c k v) n xa N := h.cg fun a ha => up2_ne (by omega)
theorem finish_fr {I : Nat → Nat → Int32} {d : Int32} {how : Int32} {day : Int32} {z : Nat} (hz : 61 ≤ z) : finish I d how day z = I z := by simp (disch := omega) only [finish, moveCoins, letGo, enter, setLeast, startFacts, addDebt, pAdd, dAdd, setTerms, takeOff, tk4, up2_ne]
theorem finish_ac {I : Nat → Nat → Int32} {n : Nat} {xa N : Nat → Nat} {d : Int32} {how : Int32} {day : Int32} (h : AC I n xa N) : AC (finish I d how day) n xa N := h.cg fun a ha => finish_fr (by omega)
theorem moveCoins_fr {I : Nat → Nat → Int32} {f : Int32} {t : Int32} {n : Int32} {z : Nat} (hz : 61 ≤ z) : moveCoins I f t n z = I z := by simp (disch := omega) only [finish, moveCoins, letGo, enter, setLeast, startFacts, addDebt, pAdd, dAdd, setTerms, takeOff, tk4, up2_ne]
theorem moveCoins_ac {I : Nat → Nat → Int32} {n : Nat} {xa N : Nat → Nat} {f : Int32} {t : Int32} {n_ : Int32} (h : AC I n xa N) : AC (moveCoins I f t n_) n xa N := h.cg fun a ha => moveCoins_fr (by omega)
theorem letGo_fr {I : Nat → Nat → Int32} {p : Int32} {z : Nat} (hz : 61 ≤ z) : letGo I p z = I z := by simp (disch := omega) only [finish, moveCoins, letGo, enter, setLeast, startFacts, addDebt, pAdd, dAdd, setTerms, takeOff, tk4, up2_ne]
theorem letGo_ac {I : Nat → Nat → Int32} {n : Nat} {xa N : Nat → Nat} {p : Int32} (h : AC I n xa N) : AC (letGo I p) n xa N := h.cg fun a ha => letGo_fr (by omega)
theorem enter_fr {I : Nat → Nat → Int32} {p : Int32} {day : Int32} {fee : Int32} {z : Nat} (hz : 61 ≤ z) : enter I p day fee z = I z := by simp (disch := omega) only [finish, moveCoins, letGo, enter, setLeast, startFacts, addDebt, pAdd, dAdd, setTerms, takeOff, tk4, up2_ne]
theorem enter_ac {I : Nat → Nat → Int32} {n : Nat} {xa N : Nat → Nat} {p : Int32} {day : Int32} {fee : Int32} (h : AC I n xa N) : AC (enter I p day fee) n xa N := h.cg fun a ha => enter_fr (by omega)
theorem setLeast_fr {I : Nat → Nat → Int32} {n : Int32} {d : Int32} {t : Int32} {z : Nat} (hz : 61 ≤ z) : setLeast I n d t z = I z := by simp (disch := omega) only [finish, moveCoins, letGo, enter, setLeast, startFacts, addDebt, pAdd, dAdd, setTerms, takeOff, tk4, up2_ne]
theorem setLeast_ac {I : Nat → Nat → Int32} {n : Nat} {xa N : Nat → Nat} {n_ : Int32} {d : Int32} {t : Int32} (h : AC I n xa N) : AC (setLeast I n_ d t) n xa N := h.cg fun a ha => setLeast_fr (by omega)
theorem startFacts_fr {I : Nat → Nat → Int32} {p : Int32} {z : Nat} (hz : 61 ≤ z) : startFacts I p z = I z := by simp (disch := omega) only [finish, moveCoins, letGo, enter, setLeast, startFacts, addDebt, pAdd, dAdd, setTerms, takeOff, tk4, up2_ne]
theorem startFacts_ac {I : Nat → Nat → Int32} {n : Nat} {xa N : Nat → Nat} {p : Int32} (h : AC I n xa N) : AC (startFacts I p) n xa N := h.cg fun a ha => startFacts_fr (by omega)
theorem addDebt_fr {I : Nat → Nat → Int32} {n : Int32} {r : Int32} {z : Nat} (hz : 61 ≤ z) : addDebt I n r z = I z := by simp (disch := omega) only [finish, moveCoins, letGo, enter, setLeast, startFacts, addDebt, pAdd, dAdd, setTerms, takeOff, tk4, up2_ne]
theorem addDebt_ac {I : Nat → Nat → Int32} {n : Nat} {xa N : Nat → Nat} {n_ : Int32} {r : Int32} (h : AC I n xa N) : AC (addDebt I n_ r) n xa N := h.cg fun a ha => addDebt_fr (by omega)
theorem pAdd_fr {I : Nat → Nat → Int32} {n : Int32} {c : Int32} {z : Nat} (hz : 61 ≤ z) : pAdd I n c z = I z := by simp (disch := omega) only [finish, moveCoins, letGo, enter, setLeast, startFacts, addDebt, pAdd, dAdd, setTerms, takeOff, tk4, up2_ne]
theorem pAdd_ac {I : Nat → Nat → Int32} {n : Nat} {xa N : Nat → Nat} {n_ : Int32} {c : Int32} (h : AC I n xa N) : AC (pAdd I n_ c) n xa N := h.cg fun a ha => pAdd_fr (by omega)
theorem dAdd_fr {I : Nat → Nat → Int32} {x : Int32} {y : Int32} {n : Int32} {t : Int32} {z : Nat} (hz : 61 ≤ z) : dAdd I x y n t z = I z := by simp (disch := omega) only [finish, moveCoins, letGo, enter, setLeast, startFacts, addDebt, pAdd, dAdd, setTerms, takeOff, tk4, up2_ne]
theorem dAdd_ac {I : Nat → Nat → Int32} {n : Nat} {xa N : Nat → Nat} {x : Int32} {y : Int32} {n_ : Int32} {t : Int32} (h : AC I n xa N) : AC (dAdd I x y n_ t) n xa N := h.cg fun a ha => dAdd_fr (by omega)
theorem setTerms_fr {I : Nat → Nat → Int32} {d : Int32} {r : Int32} {a : Int32} {s : Int32} {z : Nat} (hz : 61 ≤ z) : setTerms I d r a s z = I z := by simp (disch := omega) only [finish, moveCoins, letGo, enter, setLeast, startFacts, addDebt, pAdd, dAdd, setTerms, takeOff, tk4, up2_ne]
theorem setTerms_ac {I : Nat → Nat → Int32} {n : Nat} {xa N : Nat → Nat} {d : Int32} {r : Int32} {a : Int32} {s : Int32} (h : AC I n xa N) : AC (setTerms I d r a s) n xa N := h.cg fun a ha => setTerms_fr (by omega)
theorem takeOff_fr {I : Nat → Nat → Int32} {d n day : Int32} {z : Nat} (hz : 61 ≤ z) : takeOff I d n day z = I z := by simp (disch := omega) only [finish, moveCoins, letGo, enter, setLeast, startFacts, addDebt, pAdd, dAdd, setTerms, takeOff, tk4, up2_ne]
theorem takeOff_ac {I : Nat → Nat → Int32} {n : Nat} {xa N : Nat → Nat} {d n_ day : Int32} (h : AC I n xa N) : AC (takeOff I d n_ day) n xa N := h.cg fun a ha => takeOff_fr (by omega)
def gdO (I : Nat → Nat → Int32) (xa : Nat → Nat) (d k : Int32) : Nat → Option Nat
  | 0 => none
  | j + 1 => if k < I (xa j) 1 then gdO I xa d k j else if d < I (xa j) 0 then gdO I xa d k j else some j
def og : Option Nat → Int32
  | none => -1
  | some a => nI a
theorem gdO_lt {I : Nat → Nat → Int32} {xa : Nat → Nat} {d k : Int32} {n a : Nat} (h : gdO I xa d k n = some a) : a < n := by
  induction n with
  | zero => cases h
  | succ j ih =>
    rw [gdO] at h
    split at h
    · have := ih h; omega
    · split at h
      · have := ih h; omega
      · cases h; omega

set_option maxRecDepth 20000 in
theorem l_good (tl : List (Nat × Nat)) (I : Nat → Nat → Int32) (L : Nat → Nat → Int64) (rd : Nat → Nat → Option Nat) (d k : Int32) (n : Nat) (xa xl N : Nat → Nat) (hn : n ≤ 4) (hA : AO tl rd n xa xl N) : ∀ j, j ≤ n → ∀ v o, v = nI j - 1 → Runs 30 7 [some (.ref 1), some (.int d), some (.int k), some (.int v), o] [] (mk tl I L rd) (some (.int (og (gdO I xa d k j)))) (mk tl I L rd) := by
  intro j
  induction j with
  | zero =>
    intro hj v o hv
    subst hv
    refine Runs.bl 2 (g := true) (i' := if decide ((nI 0 - 1) < 0) = true then 28 else 9) (ls' := [some (.ref 1), some (.int d), some (.int k), some (.int (nI 0 - 1)), o]) (st' := []) (M' := mk tl I L rd) rfl rfl ?_
    refine Runs.brT (by decide) ?_
    refine Runs.bl 1 (g := true) (i' := 29) (ls' := [some (.ref 1), some (.int d), some (.int k), some (.int (nI 0 - 1)), o]) (st' := [.int (-1 : Int32)]) (M' := mk tl I L rd) rfl rfl ?_
    exact Runs.ri rfl rfl (by rfl) (rfl)
  | succ j ih =>
    intro hj v o hv
    obtain rfl : v = nI j := by rw [hv, nI_pred]
    refine Runs.bl 2 (g := true) (i' := if decide ((nI j) < 0) = true then 28 else 9) (ls' := [some (.ref 1), some (.int d), some (.int k), some (.int (nI j)), o]) (st' := []) (M' := mk tl I L rd) rfl rfl ?_
    refine Runs.brF (nI_pos (by omega)) ?_
    refine Runs.bl 3 (g := true) (i' := 12) (ls' := [some (.ref 1), some (.int d), some (.int k), some (.int (nI j)), o]) (st' := [.int (nI j), .ref 32]) (M' := mk tl I L rd) rfl rfl ?_
    refine Runs.st rfl rfl rfl (daa (x := xa j) rfl (inb_nI (by omega) (by decide)) (by rw [nI_clamp (by omega)]; exact (hA j (by omega)).1) (hA j (by omega)).2.1) ?_
    refine Runs.bl 4 (g := decide (xa j < mx) && true) (i' := 17) (ls' := [some (.ref 1), some (.int d), some (.int k), some (.int (nI j)), some (.ref (xa j))]) (st' := [.ref (xa j)]) (M' := mk tl I L rd) rfl (by rw [Bool.and_true]; exact decide_eq_true (hA j (by omega)).2.1) ?_
    refine Runs.st rfl rfl rfl (dg_i (f := 1) rfl (hA j (by omega)).2.1 (hA j (by omega)).2.2.1 rfl) ?_
    refine Runs.bl 2 (g := true) (i' := if decide (k < (I (xa j) 1)) = true then 26 else 20) (ls' := [some (.ref 1), some (.int d), some (.int k), some (.int (nI j)), some (.ref (xa j))]) (st' := []) (M' := mk tl I L rd) rfl rfl ?_
    refine Runs.brP (fun h1 => ?_) (fun h1 => ?_)
    · skip
      refine Runs.bl 2 (g := true) (i' := 7) (ls' := [some (.ref 1), some (.int d), some (.int k), some (.int ((nI j) + (-1))), some (.ref (xa j))]) (st' := []) (M' := mk tl I L rd) rfl rfl ?_
      rw [show og (gdO I xa d k (j + 1)) = og (gdO I xa d k j) from by rw [gdO, if_pos h1]]
      exact ih (by omega) _ _ (Int32.sub_eq_add_neg _ _).symm
    · skip
      refine Runs.bl 1 (g := true) (i' := 21) (ls' := [some (.ref 1), some (.int d), some (.int k), some (.int (nI j)), some (.ref (xa j))]) (st' := [.ref (xa j)]) (M' := mk tl I L rd) rfl rfl ?_
      refine Runs.st rfl rfl rfl (dg_i (f := 0) rfl (hA j (by omega)).2.1 (hA j (by omega)).2.2.1 rfl) ?_
      refine Runs.bl 2 (g := true) (i' := if decide (d < (I (xa j) 0)) = true then 26 else 24) (ls' := [some (.ref 1), some (.int d), some (.int k), some (.int (nI j)), some (.ref (xa j))]) (st' := []) (M' := mk tl I L rd) rfl rfl ?_
      refine Runs.brP (fun h2 => ?_) (fun h2 => ?_)
      · skip
        refine Runs.bl 2 (g := true) (i' := 7) (ls' := [some (.ref 1), some (.int d), some (.int k), some (.int ((nI j) + (-1))), some (.ref (xa j))]) (st' := []) (M' := mk tl I L rd) rfl rfl ?_
        rw [show og (gdO I xa d k (j + 1)) = og (gdO I xa d k j) from by rw [gdO, if_neg h1, if_pos h2]]
        exact ih (by omega) _ _ (Int32.sub_eq_add_neg _ _).symm
      · skip
        refine Runs.bl 1 (g := true) (i' := 25) (ls' := [some (.ref 1), some (.int d), some (.int k), some (.int (nI j)), some (.ref (xa j))]) (st' := [.int (nI j)]) (M' := mk tl I L rd) rfl rfl ?_
        exact Runs.ri rfl rfl (by rw [gdO, if_neg h1, if_neg h2]; rfl) (rfl)

set_option maxRecDepth 20000 in
theorem c_goodAct (tl : List (Nat × Nat)) (I : Nat → Nat → Int32) (L : Nat → Nat → Int64) (rd : Nat → Nat → Option Nat) (d k : Int32) (n : Nat) (xa xl N : Nat → Nat) (hn : I 1 3 = nI n) (hn4 : n ≤ 4) (hA : AO tl rd n xa xl N) : Call 30 [.ref 1, .int d, .int k] (mk tl I L rd) (some (.int (og (gdO I xa d k n)))) (mk tl I L rd) := by
  show Runs 30 0 [some (.ref 1), some (.int d), some (.int k), none, none] [] (mk tl I L rd) (some (.int (og (gdO I xa d k n)))) (mk tl I L rd)
  refine Runs.bl 7 (g := true && true) (i' := 7) (ls' := [some (.ref 1), some (.int d), some (.int k), some (.int ((if (4 : Int32) < (I 1 3) then (4 : Int32) else I 1 3) - (1 : Int32))), none]) (st' := []) (M' := mk tl I L rd) rfl rfl ?_
  exact l_good tl I L rd d k n xa xl N hn4 hA n (Nat.le_refl _) _ _ (by rw [hn, if_neg (show ¬ (4 : Int32) < nI n from nI_nlt (a := 4) (b := n) hn4 (by decide))])

