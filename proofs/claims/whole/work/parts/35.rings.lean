/-! THE RING: the measure (printed by p35.py) -/
def sh_st (I : Nat → Nat → Int32) (L : Nat → Nat → Int64) (s : Nat → Int32) (a b : Nat) (T : Int32) (j : Nat) (s : (Nat → Int32)) : (Nat → Int32) :=
  ((upr s ((((nI a) * (12 : Int32)) + (nI j)).toNatClampNeg) (if (T + (s ((((nI b) * (12 : Int32)) + (nI j)).toNatClampNeg))) < (s ((((nI a) * (12 : Int32)) + (nI j)).toNatClampNeg)) then T + (s ((((nI b) * (12 : Int32)) + (nI j)).toNatClampNeg)) else s ((((nI a) * (12 : Int32)) + (nI j)).toNatClampNeg))))

def sh_it (I : Nat → Nat → Int32) (L : Nat → Nat → Int64) (s : Nat → Int32) (a b : Nat) (T : Int32) (j : Nat) : (Nat → Int32) := itr (sh_st I L s a b T) (s) j
theorem sh_it_s (I : Nat → Nat → Int32) (L : Nat → Nat → Int64) (s : Nat → Int32) (a b : Nat) (T : Int32) (j : Nat) : (sh_it I L s a b T (j + 1)) = sh_st I L s a b T j (sh_it I L s a b T j) := itr_s _ _ _
set_option maxRecDepth 20000 in
theorem l_sh (tl : List (Nat × Nat)) (I : Nat → Nat → Int32) (L : Nat → Nat → Int64) (rd : Nat → Nat → Option Nat) (s : Nat → Int32) (a b : Nat) (T : Int32) (ha : a < 12) (hb : b < 12) (hT : ¬ (1000 : Int32) ≤ T) : ∀ j, j ≤ 12 → ∀ o5 : Option Value, Runs 89 11 [some (.ref 42), some (.int (nI a)), some (.int (nI b)), some (.int T), some (.int (nI j)), o5] [] (mk tl (up1 I 43 (sh_it I L s a b T j)) L rd) none (mk tl (up1 I 43 (sh_it I L s a b T (12))) L rd) := by
  refine loopU 12 (P := fun j => ∀ o5 : Option Value, Runs 89 11 [some (.ref 42), some (.int (nI a)), some (.int (nI b)), some (.int T), some (.int (nI j)), o5] [] (mk tl (up1 I 43 (sh_it I L s a b T j)) L rd) none (mk tl (up1 I 43 (sh_it I L s a b T (12))) L rd)) (fun j hj ih => ?_) ?_
  · intro o5
    show Runs 89 11 [some (.ref 42), some (.int (nI a)), some (.int (nI b)), some (.int T), some (.int (nI j)), o5] [] (mk tl (up1 I 43 (sh_it I L s a b T j)) L rd) none (mk tl (up1 I 43 (sh_it I L s a b T (12))) L rd)
    refine Runs.bl 3 (g := true) (i' := if decide ((12 : Int32) ≤ (nI j)) = true then 44 else 14) (ls' := [some (.ref 42), some (.int (nI a)), some (.int (nI b)), some (.int T), some (.int (nI j)), o5]) (st' := []) (M' := mk tl (up1 I 43 (sh_it I L s a b T j)) L rd) rfl rfl ?_
    refine Runs.brF (nI_ge (b := 12) hj (by decide)) ?_
    refine Runs.bl 3 (g := true) (i' := if decide ((1000 : Int32) ≤ T) = true then 44 else 17) (ls' := [some (.ref 42), some (.int (nI a)), some (.int (nI b)), some (.int T), some (.int (nI j)), o5]) (st' := []) (M' := mk tl (up1 I 43 (sh_it I L s a b T j)) L rd) rfl rfl ?_
    refine Runs.brF (hT) ?_
    refine Runs.bl 27 (g := inb (((nI a) * (12 : Int32)) + (nI j)) 144 && (inb (((nI b) * (12 : Int32)) + (nI j)) 144 && (true && (inb (((nI a) * (12 : Int32)) + (nI j)) 144 && true)))) (i' := 11) (ls' := [some (.ref 42), some (.int (nI a)), some (.int (nI b)), some (.int T), some (.int ((nI j) + 1)), some (.int (((nI a) * (12 : Int32)) + (nI j)))]) (st' := []) (M' := mk tl (up2 (up1 I 43 (sh_it I L s a b T j)) 43 ((((nI a) * (12 : Int32)) + (nI j)).toNatClampNeg) (if (T + ((sh_it I L s a b T j) ((((nI b) * (12 : Int32)) + (nI j)).toNatClampNeg))) < ((sh_it I L s a b T j) ((((nI a) * (12 : Int32)) + (nI j)).toNatClampNeg)) then T + ((sh_it I L s a b T j) ((((nI b) * (12 : Int32)) + (nI j)).toNatClampNeg)) else (sh_it I L s a b T j) ((((nI a) * (12 : Int32)) + (nI j)).toNatClampNeg))) L rd) rfl (by have q1 := nI_toInt (n := j) (by omega); have q2 := (inb12 (show 0 ≤ (nI a).toInt ∧ (nI a).toInt < 12 from by rw [nI_toInt (by omega)]; omega) (show 0 ≤ (nI j).toInt ∧ (nI j).toInt < 12 from by rw [nI_toInt (by omega)]; omega)); have q3 := (inb12 (show 0 ≤ (nI b).toInt ∧ (nI b).toInt < 12 from by rw [nI_toInt (by omega)]; omega) (show 0 ≤ (nI j).toInt ∧ (nI j).toInt < 12 from by rw [nI_toInt (by omega)]; omega)); simp only [Bool.and_true, Bool.true_and, Bool.and_eq_true, inb_iff, Int32.lt_iff_toInt_lt, Int32.le_iff_toInt_le, toI_0, toI_1, toI_2, toI_3, toI_4, toI_5, toI_6, toI_7, toI_8, toI_9, toI_10, toI_12, toI_16, toI_18, toI_20, toI_21, toI_23, toI_24, toI_32, toI_36, toI_39, toI_40, toI_48, toI_50, toI_60, toI_64, toI_75, toI_80, toI_100, toI_144, toI_160, toI_200, toI_256, toI_320, toI_380, toI_576, toI_600, toI_1000, toI_1280, toI_2400, toI_9999, toI_10000, toI_100000, toI_1000000, toI_m1, toI_m100000, toI_s9, toI_s8] at ha hb hT q1 q2 q3 ⊢; omega) ?_
    refine Runs.cg (ls := [some (.ref 42), some (.int (nI a)), some (.int (nI b)), some (.int T), some (.int (nI (j + 1))), _]) (M := mk tl (up1 I 43 (sh_it I L s a b T (j + 1))) L rd) (by rw [nI_1]) (by rw [sh_it_s, sh_st, row_up2] <;> rfl) (ih (some (.int (((nI a) * (12 : Int32)) + (nI j)))))
  · intro o5
    show Runs 89 11 [some (.ref 42), some (.int (nI a)), some (.int (nI b)), some (.int T), some (.int (nI 12)), o5] [] (mk tl (up1 I 43 (sh_it I L s a b T 12)) L rd) none (mk tl (up1 I 43 (sh_it I L s a b T (12))) L rd)
    refine Runs.bl 3 (g := true) (i' := if decide ((12 : Int32) ≤ (nI 12)) = true then 44 else 14) (ls' := [some (.ref 42), some (.int (nI a)), some (.int (nI b)), some (.int T), some (.int (nI 12)), o5]) (st' := []) (M' := mk tl (up1 I 43 (sh_it I L s a b T 12)) L rd) rfl rfl ?_
    refine Runs.brT (by decide) ?_
    exact Runs.rv rfl rfl (rfl)

set_option maxRecDepth 20000 in
theorem l0_sh (tl : List (Nat × Nat)) (I : Nat → Nat → Int32) (L : Nat → Nat → Int64) (rd : Nat → Nat → Option Nat) (s : Nat → Int32) (a b : Nat) (T : Int32) (ha : a < 12) (hb : b < 12) (hT : ¬ (1000 : Int32) ≤ T) : ∀ o5 : Option Value, Runs 89 11 [some (.ref 42), some (.int (nI a)), some (.int (nI b)), some (.int T), some (.int (nI 0)), o5] [] (mk tl (up1 I 43 s) L rd) none (mk tl (up1 I 43 (sh_it I L s a b T (12))) L rd) := l_sh tl I L rd s a b T ha hb hT 0 (Nat.zero_le _)
def short (I : Nat → Nat → Int32) (L : Nat → Nat → Int64) (s : Nat → Int32) (a b : Nat) : Nat → Int32 := if (1000 : Int32) ≤ s ((nI a * 12 + nI b).toNatClampNeg) then s else sh_it I L s a b (s ((nI a * 12 + nI b).toNatClampNeg)) 12

set_option maxRecDepth 20000 in
theorem c_short (tl : List (Nat × Nat)) (I : Nat → Nat → Int32) (L : Nat → Nat → Int64) (rd : Nat → Nat → Option Nat) (s : Nat → Int32) (a b : Nat) (ha : a < 12) (hb : b < 12) : Call 89 [.ref 42, .int (nI a), .int (nI b)] (mk tl (up1 I 43 s) L rd) none (mk tl (up1 I 43 (short I L s a b)) L rd) := by
  show Runs 89 0 [some (.ref 42), some (.int (nI a)), some (.int (nI b)), none, none, none] [] (mk tl (up1 I 43 s) L rd) none (mk tl (up1 I 43 (short I L s a b)) L rd)
  refine Runs.bl 11 (g := inb (((nI a) * (12 : Int32)) + (nI b)) 144 && true) (i' := 11) (ls' := [some (.ref 42), some (.int (nI a)), some (.int (nI b)), some (.int (s ((((nI a) * (12 : Int32)) + (nI b)).toNatClampNeg))), some (.int (0 : Int32)), none]) (st' := []) (M' := mk tl (up1 I 43 s) L rd) rfl (by have q1 := (inb12 (show 0 ≤ (nI a).toInt ∧ (nI a).toInt < 12 from by rw [nI_toInt (by omega)]; omega) (show 0 ≤ (nI b).toInt ∧ (nI b).toInt < 12 from by rw [nI_toInt (by omega)]; omega)); simp only [Bool.and_true, Bool.true_and, Bool.and_eq_true, inb_iff, Int32.lt_iff_toInt_lt, Int32.le_iff_toInt_le, toI_0, toI_1, toI_2, toI_3, toI_4, toI_5, toI_6, toI_7, toI_8, toI_9, toI_10, toI_12, toI_16, toI_18, toI_20, toI_21, toI_23, toI_24, toI_32, toI_36, toI_39, toI_40, toI_48, toI_50, toI_60, toI_64, toI_75, toI_80, toI_100, toI_144, toI_160, toI_200, toI_256, toI_320, toI_380, toI_576, toI_600, toI_1000, toI_1280, toI_2400, toI_9999, toI_10000, toI_100000, toI_1000000, toI_m1, toI_m100000, toI_s9, toI_s8] at ha hb q1 ⊢; omega) ?_
  by_cases hT : (1000 : Int32) ≤ s ((((nI a) * (12 : Int32)) + (nI b)).toNatClampNeg)
  · skip
    refine Runs.bl 6 (g := true) (i' := if decide ((1000 : Int32) ≤ (s ((((nI a) * (12 : Int32)) + (nI b)).toNatClampNeg))) = true then 44 else 17) (ls' := [some (.ref 42), some (.int (nI a)), some (.int (nI b)), some (.int (s ((((nI a) * (12 : Int32)) + (nI b)).toNatClampNeg))), some (.int (0 : Int32)), none]) (st' := []) (M' := mk tl (up1 I 43 s) L rd) rfl rfl ?_
    refine Runs.brT (hT) ?_
    exact Runs.rv rfl rfl (by rw [short, if_pos hT])
  · rw [short, if_neg hT]; exact l_sh tl I L rd s a b _ ha hb hT 0 (Nat.zero_le _) _

def m1_st (I : Nat → Nat → Int32) (L : Nat → Nat → Int64)  (j : Nat) (s : (Nat → Int32)) : (Nat → Int32) :=
  if ¬ ((nI j) / (12 : Int32)) = ((nI j) - (nI j) / (12 : Int32) * (12 : Int32)) then ((upr s ((nI j).toNatClampNeg) (1000 : Int32))) else
  ((upr s ((nI j).toNatClampNeg) (0 : Int32)))

def m1_it (I : Nat → Nat → Int32) (L : Nat → Nat → Int64)  (j : Nat) : (Nat → Int32) := itr (m1_st I L ) (I 43) j
theorem m1_it_s (I : Nat → Nat → Int32) (L : Nat → Nat → Int64)  (j : Nat) : (m1_it I L  (j + 1)) = m1_st I L  j (m1_it I L  j) := itr_s _ _ _
set_option maxRecDepth 20000 in
theorem l_m1 (tl : List (Nat × Nat)) (I : Nat → Nat → Int32) (L : Nat → Nat → Int64) (rd : Nat → Nat → Option Nat)   (rr : Option Value) (Me : Mm) (hK : Runs 88 23 [some (.ref 42), some (.ref 16), some (.int (nI (144))), none] [] (mk tl (up1 I 43 (m1_it I L  (144))) L rd) rr Me) : ∀ j, j ≤ 144 → Runs 88 2 [some (.ref 42), some (.ref 16), some (.int (nI j)), none] [] (mk tl (up1 I 43 (m1_it I L  j)) L rd) rr (Me) := by
  refine loopU 144 (P := fun j => Runs 88 2 [some (.ref 42), some (.ref 16), some (.int (nI j)), none] [] (mk tl (up1 I 43 (m1_it I L  j)) L rd) rr (Me)) (fun j hj ih => ?_) ?_
  · show Runs 88 2 [some (.ref 42), some (.ref 16), some (.int (nI j)), none] [] (mk tl (up1 I 43 (m1_it I L  j)) L rd) rr (Me)
    refine Runs.bl 5 (g := true) (i' := if decide ((144 : Int32) ≤ (nI j)) = true then 23 else 7) (ls' := [some (.ref 42), some (.ref 16), some (.int (nI j)), none]) (st' := []) (M' := mk tl (up1 I 43 (m1_it I L  j)) L rd) rfl rfl ?_
    refine Runs.brF (nI_ge (b := 144) hj (by decide)) ?_
    refine Runs.bl 10 (g := true && (true && true)) (i' := if decide (¬ ((nI j) / (12 : Int32)) = ((nI j) - (nI j) / (12 : Int32) * (12 : Int32))) = true then 19 else 17) (ls' := [some (.ref 42), some (.ref 16), some (.int (nI j)), none]) (st' := [.int (nI j), .ref 43]) (M' := mk tl (up1 I 43 (m1_it I L  j)) L rd) rfl rfl ?_
    refine Runs.brP (fun h1 => ?_) (fun h1 => ?_)
    · skip
      refine Runs.bl 4 (g := inb (nI j) 144 && true) (i' := 2) (ls' := [some (.ref 42), some (.ref 16), some (.int ((nI j) + 1)), none]) (st' := []) (M' := mk tl (up2 (up1 I 43 (m1_it I L  j)) 43 ((nI j).toNatClampNeg) (1000 : Int32)) L rd) rfl (by have q1 := nI_toInt (n := j) (by omega); simp only [Bool.and_true, Bool.true_and, Bool.and_eq_true, inb_iff, Int32.lt_iff_toInt_lt, Int32.le_iff_toInt_le, toI_0, toI_1, toI_2, toI_3, toI_4, toI_5, toI_6, toI_7, toI_8, toI_9, toI_10, toI_12, toI_16, toI_18, toI_20, toI_21, toI_23, toI_24, toI_32, toI_36, toI_39, toI_40, toI_48, toI_50, toI_60, toI_64, toI_75, toI_80, toI_100, toI_144, toI_160, toI_200, toI_256, toI_320, toI_380, toI_576, toI_600, toI_1000, toI_1280, toI_2400, toI_9999, toI_10000, toI_100000, toI_1000000, toI_m1, toI_m100000, toI_s9, toI_s8] at h1 q1 ⊢; omega) ?_
      refine Runs.cg (ls := [some (.ref 42), some (.ref 16), some (.int (nI (j + 1))), none]) (M := mk tl (up1 I 43 (m1_it I L  (j + 1))) L rd) (by rw [nI_1]) (by rw [m1_it_s, m1_st, if_pos h1, row_up2] <;> rfl) ih
    · skip
      refine Runs.bl 5 (g := inb (nI j) 144 && true) (i' := 2) (ls' := [some (.ref 42), some (.ref 16), some (.int ((nI j) + 1)), none]) (st' := []) (M' := mk tl (up2 (up1 I 43 (m1_it I L  j)) 43 ((nI j).toNatClampNeg) (0 : Int32)) L rd) rfl (by have q1 := nI_toInt (n := j) (by omega); simp only [Bool.and_true, Bool.true_and, Bool.and_eq_true, inb_iff, Int32.lt_iff_toInt_lt, Int32.le_iff_toInt_le, toI_0, toI_1, toI_2, toI_3, toI_4, toI_5, toI_6, toI_7, toI_8, toI_9, toI_10, toI_12, toI_16, toI_18, toI_20, toI_21, toI_23, toI_24, toI_32, toI_36, toI_39, toI_40, toI_48, toI_50, toI_60, toI_64, toI_75, toI_80, toI_100, toI_144, toI_160, toI_200, toI_256, toI_320, toI_380, toI_576, toI_600, toI_1000, toI_1280, toI_2400, toI_9999, toI_10000, toI_100000, toI_1000000, toI_m1, toI_m100000, toI_s9, toI_s8] at h1 q1 ⊢; omega) ?_
      refine Runs.cg (ls := [some (.ref 42), some (.ref 16), some (.int (nI (j + 1))), none]) (M := mk tl (up1 I 43 (m1_it I L  (j + 1))) L rd) (by rw [nI_1]) (by rw [m1_it_s, m1_st, if_neg h1, row_up2] <;> rfl) ih
  · show Runs 88 2 [some (.ref 42), some (.ref 16), some (.int (nI 144)), none] [] (mk tl (up1 I 43 (m1_it I L  144)) L rd) rr (Me)
    refine Runs.bl 5 (g := true) (i' := if decide ((144 : Int32) ≤ (nI 144)) = true then 23 else 7) (ls' := [some (.ref 42), some (.ref 16), some (.int (nI 144)), none]) (st' := []) (M' := mk tl (up1 I 43 (m1_it I L  144)) L rd) rfl rfl ?_
    refine Runs.brT (by decide) ?_
    exact hK

set_option maxRecDepth 20000 in
theorem l0_m1 (tl : List (Nat × Nat)) (I : Nat → Nat → Int32) (L : Nat → Nat → Int64) (rd : Nat → Nat → Option Nat)   (rr : Option Value) (Me : Mm) (hK : Runs 88 23 [some (.ref 42), some (.ref 16), some (.int (nI (144))), none] [] (mk tl (up1 I 43 (m1_it I L  (144))) L rd) rr Me) : Runs 88 2 [some (.ref 42), some (.ref 16), some (.int (nI 0)), none] [] (mk tl (up1 I 43 (I 43)) L rd) rr (Me) := l_m1 tl I L rd  rr Me hK 0 (Nat.zero_le _)
def m2_st (I : Nat → Nat → Int32) (L : Nat → Nat → Int64) (s0 : Nat → Int32) (j : Nat) (s : (Nat → Int32)) : (Nat → Int32) :=
  if (isLive I (nI j)) = 0 then (s) else
  ((upr s ((((I 17 ((nI j).toNatClampNeg)) * (12 : Int32)) + (I 18 ((nI j).toNatClampNeg))).toNatClampNeg) (1 : Int32)))

def m2_it (I : Nat → Nat → Int32) (L : Nat → Nat → Int64) (s0 : Nat → Int32) (j : Nat) : (Nat → Int32) := itr (m2_st I L s0) (s0) j
theorem m2_it_s (I : Nat → Nat → Int32) (L : Nat → Nat → Int64) (s0 : Nat → Int32) (j : Nat) : (m2_it I L s0 (j + 1)) = m2_st I L s0 j (m2_it I L s0 j) := itr_s _ _ _
set_option maxRecDepth 20000 in
theorem l_m2 (tl : List (Nat × Nat)) (I : Nat → Nat → Int32) (L : Nat → Nat → Int64) (rd : Nat → Nat → Option Nat) (s0 : Nat → Int32) (m : Nat) (hm : I 16 0 = nI m) (hb : m ≤ 40) (hcr : ∀ d, d < m → 0 ≤ (I 18 d).toInt ∧ (I 18 d).toInt < 12) (hdr : ∀ d, d < m → 0 ≤ (I 17 d).toInt ∧ (I 17 d).toInt < 12) (rr : Option Value) (Me : Mm) (hK : Runs 88 50 [some (.ref 42), some (.ref 16), some (.int (nI (m))), none] [] (mk tl (up1 I 43 (m2_it I L s0 (m))) L rd) rr Me) : ∀ j, j ≤ m → Runs 88 25 [some (.ref 42), some (.ref 16), some (.int (nI j)), none] [] (mk tl (up1 I 43 (m2_it I L s0 j)) L rd) rr (Me) := by
  refine loopU m (P := fun j => Runs 88 25 [some (.ref 42), some (.ref 16), some (.int (nI j)), none] [] (mk tl (up1 I 43 (m2_it I L s0 j)) L rd) rr (Me)) (fun j hj ih => ?_) ?_
  · show Runs 88 25 [some (.ref 42), some (.ref 16), some (.int (nI j)), none] [] (mk tl (up1 I 43 (m2_it I L s0 j)) L rd) rr (Me)
    refine Runs.bl 4 (g := true) (i' := if decide ((I 16 0) ≤ (nI j)) = true then 50 else 29) (ls' := [some (.ref 42), some (.ref 16), some (.int (nI j)), none]) (st' := []) (M' := mk tl (up1 I 43 (m2_it I L s0 j)) L rd) rfl rfl ?_
    refine Runs.brF (by show ¬ I 16 0 ≤ nI j; rw [hm]; exact nI_ge hj (by omega)) ?_
    refine Runs.bl 2 (g := true) (i' := 31) (ls' := [some (.ref 42), some (.ref 16), some (.int (nI j)), none]) (st' := [.int (nI j), .ref 16]) (M' := mk tl (up1 I 43 (m2_it I L s0 j)) L rd) rfl rfl ?_
    refine Runs.call (k' := 7) (as := [.ref 16, .int (nI j)]) (rest := []) (r1 := some (.int (isLive I (nI j)))) (M1 := mk tl (up1 I 43 (m2_it I L s0 j)) L rd) rfl rfl rfl (c_isLive tl (up1 I 43 (m2_it I L s0 j)) L rd (nI j) ) ?_
    refine Runs.bl 1 (g := true) (i' := if decide ((isLive I (nI j)) = 0) = true then 48 else 33) (ls' := [some (.ref 42), some (.ref 16), some (.int (nI j)), none]) (st' := []) (M' := mk tl (up1 I 43 (m2_it I L s0 j)) L rd) rfl rfl ?_
    refine Runs.brP (fun h1 => ?_) (fun h1 => ?_)
    · skip
      refine Runs.bl 2 (g := true) (i' := 25) (ls' := [some (.ref 42), some (.ref 16), some (.int ((nI j) + 1)), none]) (st' := []) (M' := mk tl (up1 I 43 (m2_it I L s0 j)) L rd) rfl rfl ?_
      refine Runs.cg (ls := [some (.ref 42), some (.ref 16), some (.int (nI (j + 1))), none]) (M := mk tl (up1 I 43 (m2_it I L s0 (j + 1))) L rd) (by rw [nI_1]) (by rw [m2_it_s, m2_st, if_pos h1] <;> rfl) ih
    · skip
      refine Runs.bl 17 (g := inb (nI j) 40 && (inb (nI j) 40 && (inb (((I 17 ((nI j).toNatClampNeg)) * (12 : Int32)) + (I 18 ((nI j).toNatClampNeg))) 144 && true))) (i' := 25) (ls' := [some (.ref 42), some (.ref 16), some (.int ((nI j) + 1)), none]) (st' := []) (M' := mk tl (up2 (up1 I 43 (m2_it I L s0 j)) 43 ((((I 17 ((nI j).toNatClampNeg)) * (12 : Int32)) + (I 18 ((nI j).toNatClampNeg))).toNatClampNeg) (1 : Int32)) L rd) rfl (by have q1 := isLive_rng h1; have q2 := live_dr hm hb hdr h1; have q3 := live_cr hm hb hcr h1; have q4 := nI_toInt (n := j) (by omega); have q5 := (inb12 (show 0 ≤ (I 17 (nI j).toNatClampNeg).toInt ∧ (I 17 (nI j).toNatClampNeg).toInt < 12 from by rw [nI_clamp (by omega)]; exact hdr j (by omega)) (show 0 ≤ (I 18 (nI j).toNatClampNeg).toInt ∧ (I 18 (nI j).toNatClampNeg).toInt < 12 from by rw [nI_clamp (by omega)]; exact hcr j (by omega))); simp only [Bool.and_true, Bool.true_and, Bool.and_eq_true, inb_iff, Int32.lt_iff_toInt_lt, Int32.le_iff_toInt_le, toI_0, toI_1, toI_2, toI_3, toI_4, toI_5, toI_6, toI_7, toI_8, toI_9, toI_10, toI_12, toI_16, toI_18, toI_20, toI_21, toI_23, toI_24, toI_32, toI_36, toI_39, toI_40, toI_48, toI_50, toI_60, toI_64, toI_75, toI_80, toI_100, toI_144, toI_160, toI_200, toI_256, toI_320, toI_380, toI_576, toI_600, toI_1000, toI_1280, toI_2400, toI_9999, toI_10000, toI_100000, toI_1000000, toI_m1, toI_m100000, toI_s9, toI_s8] at hm hb hcr hdr q1 q2 q3 q4 q5 ⊢; omega) ?_
      refine Runs.cg (ls := [some (.ref 42), some (.ref 16), some (.int (nI (j + 1))), none]) (M := mk tl (up1 I 43 (m2_it I L s0 (j + 1))) L rd) (by rw [nI_1]) (by rw [m2_it_s, m2_st, if_neg h1, row_up2] <;> rfl) ih
  · show Runs 88 25 [some (.ref 42), some (.ref 16), some (.int (nI m)), none] [] (mk tl (up1 I 43 (m2_it I L s0 m)) L rd) rr (Me)
    refine Runs.bl 4 (g := true) (i' := if decide ((I 16 0) ≤ (nI m)) = true then 50 else 29) (ls' := [some (.ref 42), some (.ref 16), some (.int (nI m)), none]) (st' := []) (M' := mk tl (up1 I 43 (m2_it I L s0 m)) L rd) rfl rfl ?_
    refine Runs.brT (by show I 16 0 ≤ nI m; rw [hm]; exact nI_le (Nat.le_refl _) (by omega)) ?_
    exact hK

set_option maxRecDepth 20000 in
theorem l0_m2 (tl : List (Nat × Nat)) (I : Nat → Nat → Int32) (L : Nat → Nat → Int64) (rd : Nat → Nat → Option Nat) (s0 : Nat → Int32) (m : Nat) (hm : I 16 0 = nI m) (hb : m ≤ 40) (hcr : ∀ d, d < m → 0 ≤ (I 18 d).toInt ∧ (I 18 d).toInt < 12) (hdr : ∀ d, d < m → 0 ≤ (I 17 d).toInt ∧ (I 17 d).toInt < 12) (rr : Option Value) (Me : Mm) (hK : Runs 88 50 [some (.ref 42), some (.ref 16), some (.int (nI (m))), none] [] (mk tl (up1 I 43 (m2_it I L s0 (m))) L rd) rr Me) : Runs 88 25 [some (.ref 42), some (.ref 16), some (.int (nI 0)), none] [] (mk tl (up1 I 43 s0) L rd) rr (Me) := l_m2 tl I L rd s0 m hm hb hcr hdr rr Me hK 0 (Nat.zero_le _)
def m3_st (I : Nat → Nat → Int32) (L : Nat → Nat → Int64) (s0 : Nat → Int32) (i : Nat) (j : Nat) (s : (Nat → Int32)) : (Nat → Int32) :=
  ((short I L s j i))

def m3_it (I : Nat → Nat → Int32) (L : Nat → Nat → Int64) (s0 : Nat → Int32) (i : Nat) (j : Nat) : (Nat → Int32) := itr (m3_st I L s0 i) (s0) j
theorem m3_it_s (I : Nat → Nat → Int32) (L : Nat → Nat → Int64) (s0 : Nat → Int32) (i : Nat) (j : Nat) : (m3_it I L s0 i (j + 1)) = m3_st I L s0 i j (m3_it I L s0 i j) := itr_s _ _ _
set_option maxRecDepth 20000 in
theorem l_m3 (tl : List (Nat × Nat)) (I : Nat → Nat → Int32) (L : Nat → Nat → Int64) (rd : Nat → Nat → Option Nat) (s0 : Nat → Int32) (i : Nat) (hi : i < 12) (rr : Option Value) (Me : Mm) (hK : Runs 88 66 [some (.ref 42), some (.ref 16), some (.int (nI i)), some (.int (nI (12)))] [] (mk tl (up1 I 43 (m3_it I L s0 i (12))) L rd) rr Me) : ∀ j, j ≤ 12 → Runs 88 57 [some (.ref 42), some (.ref 16), some (.int (nI i)), some (.int (nI j))] [] (mk tl (up1 I 43 (m3_it I L s0 i j)) L rd) rr (Me) := by
  refine loopU 12 (P := fun j => Runs 88 57 [some (.ref 42), some (.ref 16), some (.int (nI i)), some (.int (nI j))] [] (mk tl (up1 I 43 (m3_it I L s0 i j)) L rd) rr (Me)) (fun j hj ih => ?_) ?_
  · show Runs 88 57 [some (.ref 42), some (.ref 16), some (.int (nI i)), some (.int (nI j))] [] (mk tl (up1 I 43 (m3_it I L s0 i j)) L rd) rr (Me)
    refine Runs.bl 3 (g := true) (i' := if decide ((12 : Int32) ≤ (nI j)) = true then 66 else 60) (ls' := [some (.ref 42), some (.ref 16), some (.int (nI i)), some (.int (nI j))]) (st' := []) (M' := mk tl (up1 I 43 (m3_it I L s0 i j)) L rd) rfl rfl ?_
    refine Runs.brF (nI_ge (b := 12) hj (by decide)) ?_
    refine Runs.bl 3 (g := true) (i' := 63) (ls' := [some (.ref 42), some (.ref 16), some (.int (nI i)), some (.int (nI j))]) (st' := [.int (nI i), .int (nI j), .ref 42]) (M' := mk tl (up1 I 43 (m3_it I L s0 i j)) L rd) rfl rfl ?_
    refine Runs.call (k' := 89) (as := [.ref 42, .int (nI j), .int (nI i)]) (rest := []) (r1 := none) (M1 := mk tl (up1 I 43 (short I L (m3_it I L s0 i j) j i)) L rd) rfl rfl rfl (c_short tl I L rd (m3_it I L s0 i j) j i (by omega) hi) ?_
    refine Runs.bl 2 (g := true) (i' := 57) (ls' := [some (.ref 42), some (.ref 16), some (.int (nI i)), some (.int ((nI j) + 1))]) (st' := []) (M' := mk tl (up1 I 43 (short I L (m3_it I L s0 i j) j i)) L rd) rfl rfl ?_
    refine Runs.cg (ls := [some (.ref 42), some (.ref 16), some (.int (nI i)), some (.int (nI (j + 1)))]) (M := mk tl (up1 I 43 (m3_it I L s0 i (j + 1))) L rd) (by rw [nI_1]) (by rw [m3_it_s, m3_st] <;> rfl) ih
  · show Runs 88 57 [some (.ref 42), some (.ref 16), some (.int (nI i)), some (.int (nI 12))] [] (mk tl (up1 I 43 (m3_it I L s0 i 12)) L rd) rr (Me)
    refine Runs.bl 3 (g := true) (i' := if decide ((12 : Int32) ≤ (nI 12)) = true then 66 else 60) (ls' := [some (.ref 42), some (.ref 16), some (.int (nI i)), some (.int (nI 12))]) (st' := []) (M' := mk tl (up1 I 43 (m3_it I L s0 i 12)) L rd) rfl rfl ?_
    refine Runs.brT (by decide) ?_
    exact hK

set_option maxRecDepth 20000 in
theorem l0_m3 (tl : List (Nat × Nat)) (I : Nat → Nat → Int32) (L : Nat → Nat → Int64) (rd : Nat → Nat → Option Nat) (s0 : Nat → Int32) (i : Nat) (hi : i < 12) (rr : Option Value) (Me : Mm) (hK : Runs 88 66 [some (.ref 42), some (.ref 16), some (.int (nI i)), some (.int (nI (12)))] [] (mk tl (up1 I 43 (m3_it I L s0 i (12))) L rd) rr Me) : Runs 88 57 [some (.ref 42), some (.ref 16), some (.int (nI i)), some (.int (nI 0))] [] (mk tl (up1 I 43 s0) L rd) rr (Me) := l_m3 tl I L rd s0 i hi rr Me hK 0 (Nat.zero_le _)
def m4_st (I : Nat → Nat → Int32) (L : Nat → Nat → Int64) (s0 : Nat → Int32) (j : Nat) (s : (Nat → Int32)) : (Nat → Int32) :=
  ((m3_it I L s j (12)))

def m4_it (I : Nat → Nat → Int32) (L : Nat → Nat → Int64) (s0 : Nat → Int32) (j : Nat) : (Nat → Int32) := itr (m4_st I L s0) (s0) j
theorem m4_it_s (I : Nat → Nat → Int32) (L : Nat → Nat → Int64) (s0 : Nat → Int32) (j : Nat) : (m4_it I L s0 (j + 1)) = m4_st I L s0 j (m4_it I L s0 j) := itr_s _ _ _
set_option maxRecDepth 20000 in
theorem l_m4 (tl : List (Nat × Nat)) (I : Nat → Nat → Int32) (L : Nat → Nat → Int64) (rd : Nat → Nat → Option Nat) (s0 : Nat → Int32)  : ∀ j, j ≤ 12 → ∀ o3 : Option Value, Runs 88 52 [some (.ref 42), some (.ref 16), some (.int (nI j)), o3] [] (mk tl (up1 I 43 (m4_it I L s0 j)) L rd) none (mk tl (up1 I 43 (m4_it I L s0 (12))) L rd) := by
  refine loopU 12 (P := fun j => ∀ o3 : Option Value, Runs 88 52 [some (.ref 42), some (.ref 16), some (.int (nI j)), o3] [] (mk tl (up1 I 43 (m4_it I L s0 j)) L rd) none (mk tl (up1 I 43 (m4_it I L s0 (12))) L rd)) (fun j hj ih => ?_) ?_
  · intro o3
    show Runs 88 52 [some (.ref 42), some (.ref 16), some (.int (nI j)), o3] [] (mk tl (up1 I 43 (m4_it I L s0 j)) L rd) none (mk tl (up1 I 43 (m4_it I L s0 (12))) L rd)
    refine Runs.bl 3 (g := true) (i' := if decide ((12 : Int32) ≤ (nI j)) = true then 68 else 55) (ls' := [some (.ref 42), some (.ref 16), some (.int (nI j)), o3]) (st' := []) (M' := mk tl (up1 I 43 (m4_it I L s0 j)) L rd) rfl rfl ?_
    refine Runs.brF (nI_ge (b := 12) hj (by decide)) ?_
    refine Runs.bl 2 (g := true) (i' := 57) (ls' := [some (.ref 42), some (.ref 16), some (.int (nI j)), some (.int (0 : Int32))]) (st' := []) (M' := mk tl (up1 I 43 (m4_it I L s0 j)) L rd) rfl rfl ?_
    refine l0_m3 tl I L rd (m4_it I L s0 j) j (by omega) _ _ ?_
    refine Runs.bl 2 (g := true) (i' := 52) (ls' := [some (.ref 42), some (.ref 16), some (.int ((nI j) + 1)), some (.int (nI (12)))]) (st' := []) (M' := mk tl (up1 I 43 (m3_it I L (m4_it I L s0 j) j (12))) L rd) rfl rfl ?_
    refine Runs.cg (ls := [some (.ref 42), some (.ref 16), some (.int (nI (j + 1))), _]) (M := mk tl (up1 I 43 (m4_it I L s0 (j + 1))) L rd) (by rw [nI_1]) (by rw [m4_it_s, m4_st] <;> rfl) (ih (some (.int (nI (12)))))
  · intro o3
    show Runs 88 52 [some (.ref 42), some (.ref 16), some (.int (nI 12)), o3] [] (mk tl (up1 I 43 (m4_it I L s0 12)) L rd) none (mk tl (up1 I 43 (m4_it I L s0 (12))) L rd)
    refine Runs.bl 3 (g := true) (i' := if decide ((12 : Int32) ≤ (nI 12)) = true then 68 else 55) (ls' := [some (.ref 42), some (.ref 16), some (.int (nI 12)), o3]) (st' := []) (M' := mk tl (up1 I 43 (m4_it I L s0 12)) L rd) rfl rfl ?_
    refine Runs.brT (by decide) ?_
    exact Runs.rv rfl rfl (rfl)

set_option maxRecDepth 20000 in
theorem l0_m4 (tl : List (Nat × Nat)) (I : Nat → Nat → Int32) (L : Nat → Nat → Int64) (rd : Nat → Nat → Option Nat) (s0 : Nat → Int32)  : ∀ o3 : Option Value, Runs 88 52 [some (.ref 42), some (.ref 16), some (.int (nI 0)), o3] [] (mk tl (up1 I 43 s0) L rd) none (mk tl (up1 I 43 (m4_it I L s0 (12))) L rd) := l_m4 tl I L rd s0  0 (Nat.zero_le _)
/-- how many DEBTS lead from one PERSON to another at least, by Floyd and Warshall -/
def meas (I : Nat → Nat → Int32) (L : Nat → Nat → Int64) (m : Nat) : Nat → Int32 := m4_it I L (m2_it I L (m1_it I L 144) m) 12

set_option maxRecDepth 20000 in
theorem c_meas (tl : List (Nat × Nat)) (I : Nat → Nat → Int32) (L : Nat → Nat → Int64) (rd : Nat → Nat → Option Nat) (m : Nat) (hm : I 16 0 = nI m) (hb : m ≤ 40) (hcr : ∀ d, d < m → 0 ≤ (I 18 d).toInt ∧ (I 18 d).toInt < 12) (hdr : ∀ d, d < m → 0 ≤ (I 17 d).toInt ∧ (I 17 d).toInt < 12) : Call 88 [.ref 42, .ref 16] (mk tl I L rd) none (mk tl (up1 I 43 (meas I L m)) L rd) := by
  show Runs 88 0 [some (.ref 42), some (.ref 16), none, none] [] (mk tl I L rd) none (mk tl (up1 I 43 (meas I L m)) L rd)
  refine Runs.bl 2 (g := true) (i' := 2) (ls' := [some (.ref 42), some (.ref 16), some (.int (0 : Int32)), none]) (st' := []) (M' := mk tl I L rd) rfl rfl ?_
  refine Runs.cg (M := mk tl (up1 I 43 (I 43)) L rd) rfl (mk_cg (up1_self I 43).symm rfl) (l0_m1 tl I L rd _ _ ?_)
  refine Runs.bl 2 (g := true) (i' := 25) (ls' := [some (.ref 42), some (.ref 16), some (.int (0 : Int32)), none]) (st' := []) (M' := mk tl (up1 I 43 (m1_it I L (144))) L rd) rfl rfl ?_
  refine l0_m2 tl I L rd _ m hm hb hcr hdr _ _ ?_
  refine Runs.bl 2 (g := true) (i' := 52) (ls' := [some (.ref 42), some (.ref 16), some (.int (0 : Int32)), none]) (st' := []) (M' := mk tl (up1 I 43 (m2_it I L (m1_it I L (144)) (m))) L rd) rfl rfl ?_
  exact l0_m4 tl I L rd _ _

