/-! effects and plain loops of the class (printed by p22.py) -/
theorem inb_nI {n N : Nat} (h : n < N) (hN : N < 2 ^ 31) : inb (nI n) N = true := inb_iff.mpr (by rw [nI_toInt (by omega)]; omega)
def finish (I : Nat → Nat → Int32) (d : Int32) (how : Int32) (day : Int32) : Nat → Nat → Int32 :=
  (up2 (up2 I 24 d.toNatClampNeg how) 31 d.toNatClampNeg day)

set_option maxRecDepth 20000 in
theorem c_finish (tl : List (Nat × Nat)) (I : Nat → Nat → Int32) (L : Nat → Nat → Int64) (rd : Nat → Nat → Option Nat) (d : Int32) (how : Int32) (day : Int32) (hd : 0 ≤ d.toInt ∧ d.toInt < 40) : Call 13 [.ref 16, .int d, .int how, .int day] (mk tl I L rd) none (mk tl (finish I d how day) L rd) := by
  show Runs 13 0 [some (.ref 16), some (.int d), some (.int how), some (.int day)] [] (mk tl I L rd) none (mk tl (finish I d how day) L rd)
  refine Runs.bl 10 (g := inb d 40 && (inb d 40 && true)) (i' := 10) (ls' := [some (.ref 16), some (.int d), some (.int how), some (.int day)]) (st' := []) (M' := mk tl (up2 (up2 I 24 d.toNatClampNeg how) 31 d.toNatClampNeg day) L rd) rfl (by skip; simp only [Bool.and_true, Bool.true_and, Bool.and_eq_true, inb_iff, Int32.lt_iff_toInt_lt, Int32.le_iff_toInt_le, toI_0, toI_1, toI_2, toI_3, toI_4, toI_5, toI_6, toI_7, toI_8, toI_9, toI_10, toI_12, toI_16, toI_18, toI_20, toI_21, toI_23, toI_24, toI_32, toI_36, toI_39, toI_40, toI_48, toI_50, toI_60, toI_64, toI_75, toI_80, toI_100, toI_144, toI_160, toI_200, toI_256, toI_320, toI_380, toI_576, toI_600, toI_1000, toI_1280, toI_2400, toI_9999, toI_10000, toI_100000, toI_1000000, toI_m1, toI_m100000, toI_s9, toI_s8] at hd ⊢; omega) ?_
  exact Runs.rv rfl rfl (rfl)

def moveCoins (I : Nat → Nat → Int32) (f : Int32) (t : Int32) (n : Int32) : Nat → Nat → Int32 :=
  (up2 (up2 I 3 f.toNatClampNeg ((I 3 f.toNatClampNeg) - n)) 3 t.toNatClampNeg (((up2 I 3 f.toNatClampNeg ((I 3 f.toNatClampNeg) - n)) 3 t.toNatClampNeg) + n))

set_option maxRecDepth 20000 in
theorem c_moveCoins (tl : List (Nat × Nat)) (I : Nat → Nat → Int32) (L : Nat → Nat → Int64) (rd : Nat → Nat → Option Nat) (f : Int32) (t : Int32) (n : Int32) (hf : 0 ≤ f.toInt ∧ f.toInt < 12) (ht : 0 ≤ t.toInt ∧ t.toInt < 12) : Call 37 [.ref 1, .int f, .int t, .int n] (mk tl I L rd) none (mk tl (moveCoins I f t n) L rd) := by
  show Runs 37 0 [some (.ref 1), some (.int f), some (.int t), some (.int n)] [] (mk tl I L rd) none (mk tl (moveCoins I f t n) L rd)
  refine Runs.bl 18 (g := inb f 12 && (inb f 12 && (inb t 12 && (inb t 12 && true)))) (i' := 18) (ls' := [some (.ref 1), some (.int f), some (.int t), some (.int n)]) (st' := []) (M' := mk tl (up2 (up2 I 3 f.toNatClampNeg ((I 3 f.toNatClampNeg) - n)) 3 t.toNatClampNeg (((up2 I 3 f.toNatClampNeg ((I 3 f.toNatClampNeg) - n)) 3 t.toNatClampNeg) + n)) L rd) rfl (by skip; simp only [Bool.and_true, Bool.true_and, Bool.and_eq_true, inb_iff, Int32.lt_iff_toInt_lt, Int32.le_iff_toInt_le, toI_0, toI_1, toI_2, toI_3, toI_4, toI_5, toI_6, toI_7, toI_8, toI_9, toI_10, toI_12, toI_16, toI_18, toI_20, toI_21, toI_23, toI_24, toI_32, toI_36, toI_39, toI_40, toI_48, toI_50, toI_60, toI_64, toI_75, toI_80, toI_100, toI_144, toI_160, toI_200, toI_256, toI_320, toI_380, toI_576, toI_600, toI_1000, toI_1280, toI_2400, toI_9999, toI_10000, toI_100000, toI_1000000, toI_m1, toI_m100000, toI_s9, toI_s8] at hf ht ⊢; omega) ?_
  exact Runs.rv rfl rfl (rfl)

def letGo (I : Nat → Nat → Int32) (p : Int32) : Nat → Nat → Int32 :=
  (up2 (up2 (up2 (up2 (up2 I 5 p.toNatClampNeg (-1 : Int32)) 6 p.toNatClampNeg (0 : Int32)) 7 p.toNatClampNeg (0 : Int32)) 8 p.toNatClampNeg (0 : Int32)) 12 p.toNatClampNeg (0 : Int32))

set_option maxRecDepth 20000 in
theorem c_letGo (tl : List (Nat × Nat)) (I : Nat → Nat → Int32) (L : Nat → Nat → Int64) (rd : Nat → Nat → Option Nat) (p : Int32) (hp : 0 ≤ p.toInt ∧ p.toInt < 12) : Call 59 [.ref 2, .int p] (mk tl I L rd) none (mk tl (letGo I p) L rd) := by
  show Runs 59 0 [some (.ref 2), some (.int p)] [] (mk tl I L rd) none (mk tl (letGo I p) L rd)
  refine Runs.bl 25 (g := inb p 12 && (inb p 12 && (inb p 12 && (inb p 12 && (inb p 12 && true))))) (i' := 25) (ls' := [some (.ref 2), some (.int p)]) (st' := []) (M' := mk tl (up2 (up2 (up2 (up2 (up2 I 5 p.toNatClampNeg (-1 : Int32)) 6 p.toNatClampNeg (0 : Int32)) 7 p.toNatClampNeg (0 : Int32)) 8 p.toNatClampNeg (0 : Int32)) 12 p.toNatClampNeg (0 : Int32)) L rd) rfl (by skip; simp only [Bool.and_true, Bool.true_and, Bool.and_eq_true, inb_iff, Int32.lt_iff_toInt_lt, Int32.le_iff_toInt_le, toI_0, toI_1, toI_2, toI_3, toI_4, toI_5, toI_6, toI_7, toI_8, toI_9, toI_10, toI_12, toI_16, toI_18, toI_20, toI_21, toI_23, toI_24, toI_32, toI_36, toI_39, toI_40, toI_48, toI_50, toI_60, toI_64, toI_75, toI_80, toI_100, toI_144, toI_160, toI_200, toI_256, toI_320, toI_380, toI_576, toI_600, toI_1000, toI_1280, toI_2400, toI_9999, toI_10000, toI_100000, toI_1000000, toI_m1, toI_m100000, toI_s9, toI_s8] at hp ⊢; omega) ?_
  exact Runs.rv rfl rfl (rfl)

def enter (I : Nat → Nat → Int32) (p : Int32) (day : Int32) (fee : Int32) : Nat → Nat → Int32 :=
  (up2 (up2 (up2 (up2 I 5 p.toNatClampNeg day) 6 p.toNatClampNeg (0 : Int32)) 7 p.toNatClampNeg fee) 8 p.toNatClampNeg (0 : Int32))

set_option maxRecDepth 20000 in
theorem c_enter (tl : List (Nat × Nat)) (I : Nat → Nat → Int32) (L : Nat → Nat → Int64) (rd : Nat → Nat → Option Nat) (p : Int32) (day : Int32) (fee : Int32) (hp : 0 ≤ p.toInt ∧ p.toInt < 12) : Call 58 [.ref 2, .int p, .int day, .int fee] (mk tl I L rd) none (mk tl (enter I p day fee) L rd) := by
  show Runs 58 0 [some (.ref 2), some (.int p), some (.int day), some (.int fee)] [] (mk tl I L rd) none (mk tl (enter I p day fee) L rd)
  refine Runs.bl 20 (g := inb p 12 && (inb p 12 && (inb p 12 && (inb p 12 && true)))) (i' := 20) (ls' := [some (.ref 2), some (.int p), some (.int day), some (.int fee)]) (st' := []) (M' := mk tl (up2 (up2 (up2 (up2 I 5 p.toNatClampNeg day) 6 p.toNatClampNeg (0 : Int32)) 7 p.toNatClampNeg fee) 8 p.toNatClampNeg (0 : Int32)) L rd) rfl (by skip; simp only [Bool.and_true, Bool.true_and, Bool.and_eq_true, inb_iff, Int32.lt_iff_toInt_lt, Int32.le_iff_toInt_le, toI_0, toI_1, toI_2, toI_3, toI_4, toI_5, toI_6, toI_7, toI_8, toI_9, toI_10, toI_12, toI_16, toI_18, toI_20, toI_21, toI_23, toI_24, toI_32, toI_36, toI_39, toI_40, toI_48, toI_50, toI_60, toI_64, toI_75, toI_80, toI_100, toI_144, toI_160, toI_200, toI_256, toI_320, toI_380, toI_576, toI_600, toI_1000, toI_1280, toI_2400, toI_9999, toI_10000, toI_100000, toI_1000000, toI_m1, toI_m100000, toI_s9, toI_s8] at hp ⊢; omega) ?_
  exact Runs.rv rfl rfl (rfl)

def setLeast (I : Nat → Nat → Int32) (n : Int32) (d : Int32) (t : Int32) : Nat → Nat → Int32 :=
  (up2 I 33 (((n * (12 : Int32)) + d).toNatClampNeg) ((1000 : Int32) - t))

set_option maxRecDepth 20000 in
theorem c_setLeast (tl : List (Nat × Nat)) (I : Nat → Nat → Int32) (L : Nat → Nat → Int64) (rd : Nat → Nat → Option Nat) (n : Int32) (d : Int32) (t : Int32) (hn : inb (n * 12 + d) 144 = true) : Call 28 [.ref 1, .int n, .int d, .int t] (mk tl I L rd) none (mk tl (setLeast I n d t) L rd) := by
  show Runs 28 0 [some (.ref 1), some (.int n), some (.int d), some (.int t)] [] (mk tl I L rd) none (mk tl (setLeast I n d t) L rd)
  refine Runs.bl 11 (g := inb ((n * (12 : Int32)) + d) 144 && true) (i' := 11) (ls' := [some (.ref 1), some (.int n), some (.int d), some (.int t)]) (st' := []) (M' := mk tl (up2 I 33 (((n * (12 : Int32)) + d).toNatClampNeg) ((1000 : Int32) - t)) L rd) rfl (by rw [Bool.and_true]; exact hn) ?_
  exact Runs.rv rfl rfl (rfl)

def startFacts (I : Nat → Nat → Int32) (p : Int32) : Nat → Nat → Int32 :=
  (up2 (up2 (up2 (up2 (up2 (up2 (up2 (up2 I 38 0 (0 : Int32)) 38 1 (0 : Int32)) 38 2 (9 : Int32)) 38 3 (0 : Int32)) 38 4 (I 4 p.toNatClampNeg)) 38 5 (0 : Int32)) 38 6 (0 : Int32)) 38 7 (I 3 p.toNatClampNeg))

set_option maxRecDepth 20000 in
theorem c_startFacts (tl : List (Nat × Nat)) (I : Nat → Nat → Int32) (L : Nat → Nat → Int64) (rd : Nat → Nat → Option Nat) (p : Int32) (hp : 0 ≤ p.toInt ∧ p.toInt < 12) : Call 45 [.ref 37, .ref 1, .int p] (mk tl I L rd) none (mk tl (startFacts I p) L rd) := by
  show Runs 45 0 [some (.ref 37), some (.ref 1), some (.int p)] [] (mk tl I L rd) none (mk tl (startFacts I p) L rd)
  refine Runs.bl 48 (g := true && (true && (true && (true && (inb p 12 && (true && (true && (true && (inb p 12 && (true && true)))))))))) (i' := 48) (ls' := [some (.ref 37), some (.ref 1), some (.int p)]) (st' := []) (M' := mk tl (up2 (up2 (up2 (up2 (up2 (up2 (up2 (up2 I 38 0 (0 : Int32)) 38 1 (0 : Int32)) 38 2 (9 : Int32)) 38 3 (0 : Int32)) 38 4 (I 4 p.toNatClampNeg)) 38 5 (0 : Int32)) 38 6 (0 : Int32)) 38 7 (I 3 p.toNatClampNeg)) L rd) rfl (by skip; simp only [Bool.and_true, Bool.true_and, Bool.and_eq_true, inb_iff, Int32.lt_iff_toInt_lt, Int32.le_iff_toInt_le, toI_0, toI_1, toI_2, toI_3, toI_4, toI_5, toI_6, toI_7, toI_8, toI_9, toI_10, toI_12, toI_16, toI_18, toI_20, toI_21, toI_23, toI_24, toI_32, toI_36, toI_39, toI_40, toI_48, toI_50, toI_60, toI_64, toI_75, toI_80, toI_100, toI_144, toI_160, toI_200, toI_256, toI_320, toI_380, toI_576, toI_600, toI_1000, toI_1280, toI_2400, toI_9999, toI_10000, toI_100000, toI_1000000, toI_m1, toI_m100000, toI_s9, toI_s8] at hp ⊢; omega) ?_
  exact Runs.rv rfl rfl (rfl)

def addDebt (I : Nat → Nat → Int32) (n : Int32) (r : Int32) : Nat → Nat → Int32 :=
  (up2 (up2 (up2 I 38 0 ((I 38 0) + n)) 38 1 ((I 38 1) + (1 : Int32))) 38 2 (if r < (I 38 2) then r else I 38 2))

set_option maxRecDepth 20000 in
theorem c_addDebt (tl : List (Nat × Nat)) (I : Nat → Nat → Int32) (L : Nat → Nat → Int64) (rd : Nat → Nat → Option Nat) (n : Int32) (r : Int32)  : Call 46 [.ref 37, .int n, .int r] (mk tl I L rd) none (mk tl (addDebt I n r) L rd) := by
  show Runs 46 0 [some (.ref 37), some (.int n), some (.int r)] [] (mk tl I L rd) none (mk tl (addDebt I n r) L rd)
  refine Runs.bl 26 (g := true && (true && (true && (true && (true && (true && (true && true))))))) (i' := 26) (ls' := [some (.ref 37), some (.int n), some (.int r)]) (st' := []) (M' := mk tl (up2 (up2 (up2 I 38 0 ((I 38 0) + n)) 38 1 ((I 38 1) + (1 : Int32))) 38 2 (if r < (I 38 2) then r else I 38 2)) L rd) rfl rfl ?_
  exact Runs.rv rfl rfl (rfl)

def pAdd (I : Nat → Nat → Int32) (n : Int32) (c : Int32) : Nat → Nat → Int32 :=
  (up2 (up2 (up2 (up2 (up2 (up2 (letGo (up2 (up2 (up2 I 2 0 ((I 2 0) + (1 : Int32))) 3 ((I 2 0).toNatClampNeg) n) 4 ((I 2 0).toNatClampNeg) c) (I 2 0)) 9 ((I 2 0).toNatClampNeg) (0 : Int32)) 10 ((I 2 0).toNatClampNeg) (0 : Int32)) 11 ((I 2 0).toNatClampNeg) (0 : Int32)) 13 ((I 2 0).toNatClampNeg) (0 : Int32)) 14 ((I 2 0).toNatClampNeg) (0 : Int32)) 15 ((I 2 0).toNatClampNeg) (0 : Int32))

set_option maxRecDepth 20000 in
theorem c_pAdd (tl : List (Nat × Nat)) (I : Nat → Nat → Int32) (L : Nat → Nat → Int64) (rd : Nat → Nat → Option Nat) (n : Int32) (c : Int32) (hs : I 2 0 < 12) (hp : 0 ≤ (I 2 0).toInt ∧ (I 2 0).toInt < 12) : Call 57 [.ref 2, .int n, .int c] (mk tl I L rd) (some (.int (I 2 0))) (mk tl (pAdd I n c) L rd) := by
  show Runs 57 0 [some (.ref 2), some (.int n), some (.int c), none] [] (mk tl I L rd) (some (.int (I 2 0))) (mk tl (pAdd I n c) L rd)
  refine Runs.bl 4 (g := true) (i' := if decide ((I 2 0) < (12 : Int32)) = true then 6 else 4) (ls' := [some (.ref 2), some (.int n), some (.int c), none]) (st' := []) (M' := mk tl I L rd) rfl rfl ?_
  refine Runs.brT (hs) ?_
  refine Runs.bl 21 (g := inb (I 2 0) 12 && (inb (I 2 0) 12 && true)) (i' := 27) (ls' := [some (.ref 2), some (.int n), some (.int c), some (.int (I 2 0))]) (st' := [.int (I 2 0), .ref 2]) (M' := mk tl (up2 (up2 (up2 I 2 0 ((I 2 0) + (1 : Int32))) 3 ((I 2 0).toNatClampNeg) n) 4 ((I 2 0).toNatClampNeg) c) L rd) rfl (by skip; simp only [Bool.and_true, Bool.true_and, Bool.and_eq_true, inb_iff, Int32.lt_iff_toInt_lt, Int32.le_iff_toInt_le, toI_0, toI_1, toI_2, toI_3, toI_4, toI_5, toI_6, toI_7, toI_8, toI_9, toI_10, toI_12, toI_16, toI_18, toI_20, toI_21, toI_23, toI_24, toI_32, toI_36, toI_39, toI_40, toI_48, toI_50, toI_60, toI_64, toI_75, toI_80, toI_100, toI_144, toI_160, toI_200, toI_256, toI_320, toI_380, toI_576, toI_600, toI_1000, toI_1280, toI_2400, toI_9999, toI_10000, toI_100000, toI_1000000, toI_m1, toI_m100000, toI_s9, toI_s8] at hs hp ⊢; omega) ?_
  refine Runs.call (k' := 59) (as := [.ref 2, .int (I 2 0)]) (rest := []) (r1 := none) (M1 := mk tl (letGo (up2 (up2 (up2 I 2 0 ((I 2 0) + (1 : Int32))) 3 ((I 2 0).toNatClampNeg) n) 4 ((I 2 0).toNatClampNeg) c) (I 2 0)) L rd) rfl rfl rfl (c_letGo tl (up2 (up2 (up2 I 2 0 ((I 2 0) + (1 : Int32))) 3 ((I 2 0).toNatClampNeg) n) 4 ((I 2 0).toNatClampNeg) c) L rd (I 2 0) (by first | assumption | (skip; (try simp only [Bool.and_true, Bool.true_and, Bool.and_eq_true, inb_iff, Int32.lt_iff_toInt_lt, Int32.le_iff_toInt_le, toI_0, toI_1, toI_2, toI_3, toI_4, toI_5, toI_6, toI_7, toI_8, toI_9, toI_10, toI_12, toI_16, toI_18, toI_20, toI_21, toI_23, toI_24, toI_32, toI_36, toI_39, toI_40, toI_48, toI_50, toI_60, toI_64, toI_75, toI_80, toI_100, toI_144, toI_160, toI_200, toI_256, toI_320, toI_380, toI_576, toI_600, toI_1000, toI_1280, toI_2400, toI_9999, toI_10000, toI_100000, toI_1000000, toI_m1, toI_m100000, toI_s9, toI_s8] at hs hp  ⊢); omega))) ?_
  refine Runs.bl 31 (g := inb (I 2 0) 12 && (inb (I 2 0) 12 && (inb (I 2 0) 12 && (inb (I 2 0) 12 && (inb (I 2 0) 12 && (inb (I 2 0) 12 && true)))))) (i' := 59) (ls' := [some (.ref 2), some (.int n), some (.int c), some (.int (I 2 0))]) (st' := [.int (I 2 0)]) (M' := mk tl (up2 (up2 (up2 (up2 (up2 (up2 (letGo (up2 (up2 (up2 I 2 0 ((I 2 0) + (1 : Int32))) 3 ((I 2 0).toNatClampNeg) n) 4 ((I 2 0).toNatClampNeg) c) (I 2 0)) 9 ((I 2 0).toNatClampNeg) (0 : Int32)) 10 ((I 2 0).toNatClampNeg) (0 : Int32)) 11 ((I 2 0).toNatClampNeg) (0 : Int32)) 13 ((I 2 0).toNatClampNeg) (0 : Int32)) 14 ((I 2 0).toNatClampNeg) (0 : Int32)) 15 ((I 2 0).toNatClampNeg) (0 : Int32)) L rd) rfl (by skip; simp only [Bool.and_true, Bool.true_and, Bool.and_eq_true, inb_iff, Int32.lt_iff_toInt_lt, Int32.le_iff_toInt_le, toI_0, toI_1, toI_2, toI_3, toI_4, toI_5, toI_6, toI_7, toI_8, toI_9, toI_10, toI_12, toI_16, toI_18, toI_20, toI_21, toI_23, toI_24, toI_32, toI_36, toI_39, toI_40, toI_48, toI_50, toI_60, toI_64, toI_75, toI_80, toI_100, toI_144, toI_160, toI_200, toI_256, toI_320, toI_380, toI_576, toI_600, toI_1000, toI_1280, toI_2400, toI_9999, toI_10000, toI_100000, toI_1000000, toI_m1, toI_m100000, toI_s9, toI_s8] at hs hp ⊢; omega) ?_
  exact Runs.ri rfl rfl (rfl) (rfl)

def dAdd (I : Nat → Nat → Int32) (x : Int32) (y : Int32) (n : Int32) (t : Int32) : Nat → Nat → Int32 :=
  (up2 (up2 (up2 (up2 (up2 (up2 (up2 (up2 (up2 (up2 (up2 (up2 I 16 0 ((I 16 0) + (1 : Int32))) 17 ((I 16 0).toNatClampNeg) x) 18 ((I 16 0).toNatClampNeg) y) 19 ((I 16 0).toNatClampNeg) n) 25 ((I 16 0).toNatClampNeg) n) 23 ((I 16 0).toNatClampNeg) t) 24 ((I 16 0).toNatClampNeg) (0 : Int32)) 26 ((I 16 0).toNatClampNeg) (0 : Int32)) 28 ((I 16 0).toNatClampNeg) (0 : Int32)) 29 ((I 16 0).toNatClampNeg) (0 : Int32)) 30 ((I 16 0).toNatClampNeg) (0 : Int32)) 31 ((I 16 0).toNatClampNeg) (-1 : Int32))

set_option maxRecDepth 20000 in
theorem c_dAdd (tl : List (Nat × Nat)) (I : Nat → Nat → Int32) (L : Nat → Nat → Int64) (rd : Nat → Nat → Option Nat) (x : Int32) (y : Int32) (n : Int32) (t : Int32) (hs : I 16 0 < 40) (hp : 0 ≤ (I 16 0).toInt ∧ (I 16 0).toInt < 40) : Call 8 [.ref 16, .int x, .int y, .int n, .int t] (mk tl I L rd) (some (.int (I 16 0))) (mk tl (dAdd I x y n t) L rd) := by
  show Runs 8 0 [some (.ref 16), some (.int x), some (.int y), some (.int n), some (.int t), none] [] (mk tl I L rd) (some (.int (I 16 0))) (mk tl (dAdd I x y n t) L rd)
  refine Runs.bl 4 (g := true) (i' := if decide ((I 16 0) < (40 : Int32)) = true then 6 else 4) (ls' := [some (.ref 16), some (.int x), some (.int y), some (.int n), some (.int t), none]) (st' := []) (M' := mk tl I L rd) rfl rfl ?_
  refine Runs.brT (hs) ?_
  refine Runs.bl 65 (g := inb (I 16 0) 40 && (inb (I 16 0) 40 && (inb (I 16 0) 40 && (inb (I 16 0) 40 && (inb (I 16 0) 40 && (inb (I 16 0) 40 && (inb (I 16 0) 40 && (inb (I 16 0) 40 && (inb (I 16 0) 40 && (inb (I 16 0) 40 && (inb (I 16 0) 40 && true))))))))))) (i' := 71) (ls' := [some (.ref 16), some (.int x), some (.int y), some (.int n), some (.int t), some (.int (I 16 0))]) (st' := [.int (I 16 0)]) (M' := mk tl (up2 (up2 (up2 (up2 (up2 (up2 (up2 (up2 (up2 (up2 (up2 (up2 I 16 0 ((I 16 0) + (1 : Int32))) 17 ((I 16 0).toNatClampNeg) x) 18 ((I 16 0).toNatClampNeg) y) 19 ((I 16 0).toNatClampNeg) n) 25 ((I 16 0).toNatClampNeg) n) 23 ((I 16 0).toNatClampNeg) t) 24 ((I 16 0).toNatClampNeg) (0 : Int32)) 26 ((I 16 0).toNatClampNeg) (0 : Int32)) 28 ((I 16 0).toNatClampNeg) (0 : Int32)) 29 ((I 16 0).toNatClampNeg) (0 : Int32)) 30 ((I 16 0).toNatClampNeg) (0 : Int32)) 31 ((I 16 0).toNatClampNeg) (-1 : Int32)) L rd) rfl (by skip; simp only [Bool.and_true, Bool.true_and, Bool.and_eq_true, inb_iff, Int32.lt_iff_toInt_lt, Int32.le_iff_toInt_le, toI_0, toI_1, toI_2, toI_3, toI_4, toI_5, toI_6, toI_7, toI_8, toI_9, toI_10, toI_12, toI_16, toI_18, toI_20, toI_21, toI_23, toI_24, toI_32, toI_36, toI_39, toI_40, toI_48, toI_50, toI_60, toI_64, toI_75, toI_80, toI_100, toI_144, toI_160, toI_200, toI_256, toI_320, toI_380, toI_576, toI_600, toI_1000, toI_1280, toI_2400, toI_9999, toI_10000, toI_100000, toI_1000000, toI_m1, toI_m100000, toI_s9, toI_s8] at hs hp ⊢; omega) ?_
  exact Runs.ri rfl rfl (rfl) (rfl)

def setTerms (I : Nat → Nat → Int32) (d : Int32) (r : Int32) (a : Int32) (s : Int32) : Nat → Nat → Int32 :=
  (up2 (up2 (up2 (up2 I 20 d.toNatClampNeg r) 21 d.toNatClampNeg a) 22 d.toNatClampNeg s) 27 d.toNatClampNeg s)

set_option maxRecDepth 20000 in
theorem c_setTerms (tl : List (Nat × Nat)) (I : Nat → Nat → Int32) (L : Nat → Nat → Int64) (rd : Nat → Nat → Option Nat) (d : Int32) (r : Int32) (a : Int32) (s : Int32) (hh : ¬ hasD I d = 0) (hd : 0 ≤ d.toInt ∧ d.toInt < 40) : Call 9 [.ref 16, .int d, .int r, .int a, .int s] (mk tl I L rd) none (mk tl (setTerms I d r a s) L rd) := by
  show Runs 9 0 [some (.ref 16), some (.int d), some (.int r), some (.int a), some (.int s)] [] (mk tl I L rd) none (mk tl (setTerms I d r a s) L rd)
  refine Runs.bl 2 (g := true) (i' := 2) (ls' := [some (.ref 16), some (.int d), some (.int r), some (.int a), some (.int s)]) (st' := [.int d, .ref 16]) (M' := mk tl I L rd) rfl rfl ?_
  refine Runs.call (k' := 6) (as := [.ref 16, .int d]) (rest := []) (r1 := some (.int (hasD I d))) (M1 := mk tl I L rd) rfl rfl rfl (c_hasD tl I L rd d ) ?_
  refine Runs.bl 1 (g := true) (i' := if decide ((hasD I d) = 0) = true then 24 else 4) (ls' := [some (.ref 16), some (.int d), some (.int r), some (.int a), some (.int s)]) (st' := []) (M' := mk tl I L rd) rfl rfl ?_
  refine Runs.brF (hh) ?_
  refine Runs.bl 20 (g := inb d 40 && (inb d 40 && (inb d 40 && (inb d 40 && true)))) (i' := 24) (ls' := [some (.ref 16), some (.int d), some (.int r), some (.int a), some (.int s)]) (st' := []) (M' := mk tl (up2 (up2 (up2 (up2 I 20 d.toNatClampNeg r) 21 d.toNatClampNeg a) 22 d.toNatClampNeg s) 27 d.toNatClampNeg s) L rd) rfl (by skip; simp only [Bool.and_true, Bool.true_and, Bool.and_eq_true, inb_iff, Int32.lt_iff_toInt_lt, Int32.le_iff_toInt_le, toI_0, toI_1, toI_2, toI_3, toI_4, toI_5, toI_6, toI_7, toI_8, toI_9, toI_10, toI_12, toI_16, toI_18, toI_20, toI_21, toI_23, toI_24, toI_32, toI_36, toI_39, toI_40, toI_48, toI_50, toI_60, toI_64, toI_75, toI_80, toI_100, toI_144, toI_160, toI_200, toI_256, toI_320, toI_380, toI_576, toI_600, toI_1000, toI_1280, toI_2400, toI_9999, toI_10000, toI_100000, toI_1000000, toI_m1, toI_m100000, toI_s9, toI_s8] at hh hd ⊢; omega) ?_
  exact Runs.rv rfl rfl (rfl)

def tk4 (I : Nat → Nat → Int32) (d n day : Int32) : Nat → Nat → Int32 :=
  (up2 (up2 (up2 (up2 (up2 I 26 d.toNatClampNeg (intrOn I d day)) 27 d.toNatClampNeg day) 28 d.toNatClampNeg ((I 28 d.toNatClampNeg) - (if (I 28 d.toNatClampNeg) < n then I 28 d.toNatClampNeg else n))) 26 d.toNatClampNeg (((up2 I 26 d.toNatClampNeg (intrOn I d day)) 26 d.toNatClampNeg) - (if ((up2 I 26 d.toNatClampNeg (intrOn I d day)) 26 d.toNatClampNeg) < (n - (if (I 28 d.toNatClampNeg) < n then I 28 d.toNatClampNeg else n)) then (up2 I 26 d.toNatClampNeg (intrOn I d day)) 26 d.toNatClampNeg else n - (if (I 28 d.toNatClampNeg) < n then I 28 d.toNatClampNeg else n)))) 25 d.toNatClampNeg ((I 25 d.toNatClampNeg) - ((n - (if (I 28 d.toNatClampNeg) < n then I 28 d.toNatClampNeg else n)) - (if ((up2 I 26 d.toNatClampNeg (intrOn I d day)) 26 d.toNatClampNeg) < (n - (if (I 28 d.toNatClampNeg) < n then I 28 d.toNatClampNeg else n)) then (up2 I 26 d.toNatClampNeg (intrOn I d day)) 26 d.toNatClampNeg else n - (if (I 28 d.toNatClampNeg) < n then I 28 d.toNatClampNeg else n)))))

def takeOff (I : Nat → Nat → Int32) (d n day : Int32) : Nat → Nat → Int32 := up2 (up2 (tk4 I d n day) 24 d.toNatClampNeg (if due (tk4 I d n day) d day = 0 then 1 else tk4 I d n day 24 d.toNatClampNeg)) 31 d.toNatClampNeg (if due (tk4 I d n day) d day = 0 then day else tk4 I d n day 31 d.toNatClampNeg)

theorem takeOff_t {I : Nat → Nat → Int32} {d n day : Int32} (h : due (tk4 I d n day) d day = 0) : takeOff I d n day = finish (tk4 I d n day) d 1 day := by rw [takeOff, if_pos h, if_pos h]; rfl
theorem takeOff_f {I : Nat → Nat → Int32} {d n day : Int32} (h : ¬ due (tk4 I d n day) d day = 0) : takeOff I d n day = tk4 I d n day := by rw [takeOff, if_neg h, if_neg h, wup2_self, wup2_self]

set_option maxRecDepth 20000 in
theorem c_takeOff (tl : List (Nat × Nat)) (I : Nat → Nat → Int32) (L : Nat → Nat → Int64) (rd : Nat → Nat → Option Nat) (d n day : Int32) (hd : 0 ≤ d.toInt ∧ d.toInt < 40) : Call 12 [.ref 16, .int d, .int n, .int day] (mk tl I L rd) none (mk tl (takeOff I d n day) L rd) := by
  show Runs 12 0 [some (.ref 16), some (.int d), some (.int n), some (.int day), none, none] [] (mk tl I L rd) none (mk tl (takeOff I d n day) L rd)
  refine Runs.bl 6 (g := true) (i' := 6) (ls' := [some (.ref 16), some (.int d), some (.int n), some (.int day), none, none]) (st' := [.int day, .int d, .ref 16, .int d, .ref 26]) (M' := mk tl I L rd) rfl rfl ?_
  refine Runs.call (k' := 10) (as := [.ref 16, .int d, .int day]) (rest := [.int d, .ref 26]) (r1 := some (.int (intrOn I d day))) (M1 := mk tl I L rd) rfl rfl rfl (c_intrOn tl I L rd d day (by first | assumption | (skip; (try simp only [Bool.and_true, Bool.true_and, Bool.and_eq_true, inb_iff, Int32.lt_iff_toInt_lt, Int32.le_iff_toInt_le, toI_0, toI_1, toI_2, toI_3, toI_4, toI_5, toI_6, toI_7, toI_8, toI_9, toI_10, toI_12, toI_16, toI_18, toI_20, toI_21, toI_23, toI_24, toI_32, toI_36, toI_39, toI_40, toI_48, toI_50, toI_60, toI_64, toI_75, toI_80, toI_100, toI_144, toI_160, toI_200, toI_256, toI_320, toI_380, toI_576, toI_600, toI_1000, toI_1280, toI_2400, toI_9999, toI_10000, toI_100000, toI_1000000, toI_m1, toI_m100000, toI_s9, toI_s8] at hd  ⊢); omega))) ?_
  refine Runs.bl 53 (g := inb d 40 && (inb d 40 && (inb d 40 && (true && (inb d 40 && (true && (inb d 40 && (inb d 40 && (inb d 40 && (inb d 40 && (inb d 40 && (inb d 40 && true)))))))))))) (i' := 60) (ls' := [some (.ref 16), some (.int d), some (.int n), some (.int day), some (.int (if (I 28 d.toNatClampNeg) < n then I 28 d.toNatClampNeg else n)), some (.int (if ((up2 I 26 d.toNatClampNeg (intrOn I d day)) 26 d.toNatClampNeg) < (n - (if (I 28 d.toNatClampNeg) < n then I 28 d.toNatClampNeg else n)) then (up2 I 26 d.toNatClampNeg (intrOn I d day)) 26 d.toNatClampNeg else n - (if (I 28 d.toNatClampNeg) < n then I 28 d.toNatClampNeg else n)))]) (st' := [.int day, .int d, .ref 16]) (M' := mk tl (up2 (up2 (up2 (up2 (up2 I 26 d.toNatClampNeg (intrOn I d day)) 27 d.toNatClampNeg day) 28 d.toNatClampNeg ((I 28 d.toNatClampNeg) - (if (I 28 d.toNatClampNeg) < n then I 28 d.toNatClampNeg else n))) 26 d.toNatClampNeg (((up2 I 26 d.toNatClampNeg (intrOn I d day)) 26 d.toNatClampNeg) - (if ((up2 I 26 d.toNatClampNeg (intrOn I d day)) 26 d.toNatClampNeg) < (n - (if (I 28 d.toNatClampNeg) < n then I 28 d.toNatClampNeg else n)) then (up2 I 26 d.toNatClampNeg (intrOn I d day)) 26 d.toNatClampNeg else n - (if (I 28 d.toNatClampNeg) < n then I 28 d.toNatClampNeg else n)))) 25 d.toNatClampNeg ((I 25 d.toNatClampNeg) - ((n - (if (I 28 d.toNatClampNeg) < n then I 28 d.toNatClampNeg else n)) - (if ((up2 I 26 d.toNatClampNeg (intrOn I d day)) 26 d.toNatClampNeg) < (n - (if (I 28 d.toNatClampNeg) < n then I 28 d.toNatClampNeg else n)) then (up2 I 26 d.toNatClampNeg (intrOn I d day)) 26 d.toNatClampNeg else n - (if (I 28 d.toNatClampNeg) < n then I 28 d.toNatClampNeg else n))))) L rd) rfl (by skip; simp only [Bool.and_true, Bool.true_and, Bool.and_eq_true, inb_iff, Int32.lt_iff_toInt_lt, Int32.le_iff_toInt_le, toI_0, toI_1, toI_2, toI_3, toI_4, toI_5, toI_6, toI_7, toI_8, toI_9, toI_10, toI_12, toI_16, toI_18, toI_20, toI_21, toI_23, toI_24, toI_32, toI_36, toI_39, toI_40, toI_48, toI_50, toI_60, toI_64, toI_75, toI_80, toI_100, toI_144, toI_160, toI_200, toI_256, toI_320, toI_380, toI_576, toI_600, toI_1000, toI_1280, toI_2400, toI_9999, toI_10000, toI_100000, toI_1000000, toI_m1, toI_m100000, toI_s9, toI_s8] at hd ⊢; omega) ?_
  refine Runs.call (k' := 11) (as := [.ref 16, .int d, .int day]) (rest := []) (r1 := some (.int (due (up2 (up2 (up2 (up2 (up2 I 26 d.toNatClampNeg (intrOn I d day)) 27 d.toNatClampNeg day) 28 d.toNatClampNeg ((I 28 d.toNatClampNeg) - (if (I 28 d.toNatClampNeg) < n then I 28 d.toNatClampNeg else n))) 26 d.toNatClampNeg (((up2 I 26 d.toNatClampNeg (intrOn I d day)) 26 d.toNatClampNeg) - (if ((up2 I 26 d.toNatClampNeg (intrOn I d day)) 26 d.toNatClampNeg) < (n - (if (I 28 d.toNatClampNeg) < n then I 28 d.toNatClampNeg else n)) then (up2 I 26 d.toNatClampNeg (intrOn I d day)) 26 d.toNatClampNeg else n - (if (I 28 d.toNatClampNeg) < n then I 28 d.toNatClampNeg else n)))) 25 d.toNatClampNeg ((I 25 d.toNatClampNeg) - ((n - (if (I 28 d.toNatClampNeg) < n then I 28 d.toNatClampNeg else n)) - (if ((up2 I 26 d.toNatClampNeg (intrOn I d day)) 26 d.toNatClampNeg) < (n - (if (I 28 d.toNatClampNeg) < n then I 28 d.toNatClampNeg else n)) then (up2 I 26 d.toNatClampNeg (intrOn I d day)) 26 d.toNatClampNeg else n - (if (I 28 d.toNatClampNeg) < n then I 28 d.toNatClampNeg else n))))) d day))) (M1 := mk tl (up2 (up2 (up2 (up2 (up2 I 26 d.toNatClampNeg (intrOn I d day)) 27 d.toNatClampNeg day) 28 d.toNatClampNeg ((I 28 d.toNatClampNeg) - (if (I 28 d.toNatClampNeg) < n then I 28 d.toNatClampNeg else n))) 26 d.toNatClampNeg (((up2 I 26 d.toNatClampNeg (intrOn I d day)) 26 d.toNatClampNeg) - (if ((up2 I 26 d.toNatClampNeg (intrOn I d day)) 26 d.toNatClampNeg) < (n - (if (I 28 d.toNatClampNeg) < n then I 28 d.toNatClampNeg else n)) then (up2 I 26 d.toNatClampNeg (intrOn I d day)) 26 d.toNatClampNeg else n - (if (I 28 d.toNatClampNeg) < n then I 28 d.toNatClampNeg else n)))) 25 d.toNatClampNeg ((I 25 d.toNatClampNeg) - ((n - (if (I 28 d.toNatClampNeg) < n then I 28 d.toNatClampNeg else n)) - (if ((up2 I 26 d.toNatClampNeg (intrOn I d day)) 26 d.toNatClampNeg) < (n - (if (I 28 d.toNatClampNeg) < n then I 28 d.toNatClampNeg else n)) then (up2 I 26 d.toNatClampNeg (intrOn I d day)) 26 d.toNatClampNeg else n - (if (I 28 d.toNatClampNeg) < n then I 28 d.toNatClampNeg else n))))) L rd) rfl rfl rfl (c_due tl (up2 (up2 (up2 (up2 (up2 I 26 d.toNatClampNeg (intrOn I d day)) 27 d.toNatClampNeg day) 28 d.toNatClampNeg ((I 28 d.toNatClampNeg) - (if (I 28 d.toNatClampNeg) < n then I 28 d.toNatClampNeg else n))) 26 d.toNatClampNeg (((up2 I 26 d.toNatClampNeg (intrOn I d day)) 26 d.toNatClampNeg) - (if ((up2 I 26 d.toNatClampNeg (intrOn I d day)) 26 d.toNatClampNeg) < (n - (if (I 28 d.toNatClampNeg) < n then I 28 d.toNatClampNeg else n)) then (up2 I 26 d.toNatClampNeg (intrOn I d day)) 26 d.toNatClampNeg else n - (if (I 28 d.toNatClampNeg) < n then I 28 d.toNatClampNeg else n)))) 25 d.toNatClampNeg ((I 25 d.toNatClampNeg) - ((n - (if (I 28 d.toNatClampNeg) < n then I 28 d.toNatClampNeg else n)) - (if ((up2 I 26 d.toNatClampNeg (intrOn I d day)) 26 d.toNatClampNeg) < (n - (if (I 28 d.toNatClampNeg) < n then I 28 d.toNatClampNeg else n)) then (up2 I 26 d.toNatClampNeg (intrOn I d day)) 26 d.toNatClampNeg else n - (if (I 28 d.toNatClampNeg) < n then I 28 d.toNatClampNeg else n))))) L rd d day ) ?_
  refine Runs.bl 1 (g := true) (i' := if decide (¬ (due (up2 (up2 (up2 (up2 (up2 I 26 d.toNatClampNeg (intrOn I d day)) 27 d.toNatClampNeg day) 28 d.toNatClampNeg ((I 28 d.toNatClampNeg) - (if (I 28 d.toNatClampNeg) < n then I 28 d.toNatClampNeg else n))) 26 d.toNatClampNeg (((up2 I 26 d.toNatClampNeg (intrOn I d day)) 26 d.toNatClampNeg) - (if ((up2 I 26 d.toNatClampNeg (intrOn I d day)) 26 d.toNatClampNeg) < (n - (if (I 28 d.toNatClampNeg) < n then I 28 d.toNatClampNeg else n)) then (up2 I 26 d.toNatClampNeg (intrOn I d day)) 26 d.toNatClampNeg else n - (if (I 28 d.toNatClampNeg) < n then I 28 d.toNatClampNeg else n)))) 25 d.toNatClampNeg ((I 25 d.toNatClampNeg) - ((n - (if (I 28 d.toNatClampNeg) < n then I 28 d.toNatClampNeg else n)) - (if ((up2 I 26 d.toNatClampNeg (intrOn I d day)) 26 d.toNatClampNeg) < (n - (if (I 28 d.toNatClampNeg) < n then I 28 d.toNatClampNeg else n)) then (up2 I 26 d.toNatClampNeg (intrOn I d day)) 26 d.toNatClampNeg else n - (if (I 28 d.toNatClampNeg) < n then I 28 d.toNatClampNeg else n))))) d day) = 0) = true then 67 else 62) (ls' := [some (.ref 16), some (.int d), some (.int n), some (.int day), some (.int (if (I 28 d.toNatClampNeg) < n then I 28 d.toNatClampNeg else n)), some (.int (if ((up2 I 26 d.toNatClampNeg (intrOn I d day)) 26 d.toNatClampNeg) < (n - (if (I 28 d.toNatClampNeg) < n then I 28 d.toNatClampNeg else n)) then (up2 I 26 d.toNatClampNeg (intrOn I d day)) 26 d.toNatClampNeg else n - (if (I 28 d.toNatClampNeg) < n then I 28 d.toNatClampNeg else n)))]) (st' := []) (M' := mk tl (up2 (up2 (up2 (up2 (up2 I 26 d.toNatClampNeg (intrOn I d day)) 27 d.toNatClampNeg day) 28 d.toNatClampNeg ((I 28 d.toNatClampNeg) - (if (I 28 d.toNatClampNeg) < n then I 28 d.toNatClampNeg else n))) 26 d.toNatClampNeg (((up2 I 26 d.toNatClampNeg (intrOn I d day)) 26 d.toNatClampNeg) - (if ((up2 I 26 d.toNatClampNeg (intrOn I d day)) 26 d.toNatClampNeg) < (n - (if (I 28 d.toNatClampNeg) < n then I 28 d.toNatClampNeg else n)) then (up2 I 26 d.toNatClampNeg (intrOn I d day)) 26 d.toNatClampNeg else n - (if (I 28 d.toNatClampNeg) < n then I 28 d.toNatClampNeg else n)))) 25 d.toNatClampNeg ((I 25 d.toNatClampNeg) - ((n - (if (I 28 d.toNatClampNeg) < n then I 28 d.toNatClampNeg else n)) - (if ((up2 I 26 d.toNatClampNeg (intrOn I d day)) 26 d.toNatClampNeg) < (n - (if (I 28 d.toNatClampNeg) < n then I 28 d.toNatClampNeg else n)) then (up2 I 26 d.toNatClampNeg (intrOn I d day)) 26 d.toNatClampNeg else n - (if (I 28 d.toNatClampNeg) < n then I 28 d.toNatClampNeg else n))))) L rd) rfl rfl ?_
  refine Runs.brP (fun h1 => ?_) (fun h1 => ?_)
  · skip
    exact Runs.rv rfl rfl (congrArg (fun z => mk tl z L rd) (takeOff_f h1).symm)
  · skip
    refine Runs.bl 4 (g := true) (i' := 66) (ls' := [some (.ref 16), some (.int d), some (.int n), some (.int day), some (.int (if (I 28 d.toNatClampNeg) < n then I 28 d.toNatClampNeg else n)), some (.int (if ((up2 I 26 d.toNatClampNeg (intrOn I d day)) 26 d.toNatClampNeg) < (n - (if (I 28 d.toNatClampNeg) < n then I 28 d.toNatClampNeg else n)) then (up2 I 26 d.toNatClampNeg (intrOn I d day)) 26 d.toNatClampNeg else n - (if (I 28 d.toNatClampNeg) < n then I 28 d.toNatClampNeg else n)))]) (st' := [.int day, .int (1 : Int32), .int d, .ref 16]) (M' := mk tl (up2 (up2 (up2 (up2 (up2 I 26 d.toNatClampNeg (intrOn I d day)) 27 d.toNatClampNeg day) 28 d.toNatClampNeg ((I 28 d.toNatClampNeg) - (if (I 28 d.toNatClampNeg) < n then I 28 d.toNatClampNeg else n))) 26 d.toNatClampNeg (((up2 I 26 d.toNatClampNeg (intrOn I d day)) 26 d.toNatClampNeg) - (if ((up2 I 26 d.toNatClampNeg (intrOn I d day)) 26 d.toNatClampNeg) < (n - (if (I 28 d.toNatClampNeg) < n then I 28 d.toNatClampNeg else n)) then (up2 I 26 d.toNatClampNeg (intrOn I d day)) 26 d.toNatClampNeg else n - (if (I 28 d.toNatClampNeg) < n then I 28 d.toNatClampNeg else n)))) 25 d.toNatClampNeg ((I 25 d.toNatClampNeg) - ((n - (if (I 28 d.toNatClampNeg) < n then I 28 d.toNatClampNeg else n)) - (if ((up2 I 26 d.toNatClampNeg (intrOn I d day)) 26 d.toNatClampNeg) < (n - (if (I 28 d.toNatClampNeg) < n then I 28 d.toNatClampNeg else n)) then (up2 I 26 d.toNatClampNeg (intrOn I d day)) 26 d.toNatClampNeg else n - (if (I 28 d.toNatClampNeg) < n then I 28 d.toNatClampNeg else n))))) L rd) rfl rfl ?_
    refine Runs.call (k' := 13) (as := [.ref 16, .int d, .int (1 : Int32), .int day]) (rest := []) (r1 := none) (M1 := mk tl (finish (up2 (up2 (up2 (up2 (up2 I 26 d.toNatClampNeg (intrOn I d day)) 27 d.toNatClampNeg day) 28 d.toNatClampNeg ((I 28 d.toNatClampNeg) - (if (I 28 d.toNatClampNeg) < n then I 28 d.toNatClampNeg else n))) 26 d.toNatClampNeg (((up2 I 26 d.toNatClampNeg (intrOn I d day)) 26 d.toNatClampNeg) - (if ((up2 I 26 d.toNatClampNeg (intrOn I d day)) 26 d.toNatClampNeg) < (n - (if (I 28 d.toNatClampNeg) < n then I 28 d.toNatClampNeg else n)) then (up2 I 26 d.toNatClampNeg (intrOn I d day)) 26 d.toNatClampNeg else n - (if (I 28 d.toNatClampNeg) < n then I 28 d.toNatClampNeg else n)))) 25 d.toNatClampNeg ((I 25 d.toNatClampNeg) - ((n - (if (I 28 d.toNatClampNeg) < n then I 28 d.toNatClampNeg else n)) - (if ((up2 I 26 d.toNatClampNeg (intrOn I d day)) 26 d.toNatClampNeg) < (n - (if (I 28 d.toNatClampNeg) < n then I 28 d.toNatClampNeg else n)) then (up2 I 26 d.toNatClampNeg (intrOn I d day)) 26 d.toNatClampNeg else n - (if (I 28 d.toNatClampNeg) < n then I 28 d.toNatClampNeg else n))))) d (1 : Int32) day) L rd) rfl rfl rfl (c_finish tl (up2 (up2 (up2 (up2 (up2 I 26 d.toNatClampNeg (intrOn I d day)) 27 d.toNatClampNeg day) 28 d.toNatClampNeg ((I 28 d.toNatClampNeg) - (if (I 28 d.toNatClampNeg) < n then I 28 d.toNatClampNeg else n))) 26 d.toNatClampNeg (((up2 I 26 d.toNatClampNeg (intrOn I d day)) 26 d.toNatClampNeg) - (if ((up2 I 26 d.toNatClampNeg (intrOn I d day)) 26 d.toNatClampNeg) < (n - (if (I 28 d.toNatClampNeg) < n then I 28 d.toNatClampNeg else n)) then (up2 I 26 d.toNatClampNeg (intrOn I d day)) 26 d.toNatClampNeg else n - (if (I 28 d.toNatClampNeg) < n then I 28 d.toNatClampNeg else n)))) 25 d.toNatClampNeg ((I 25 d.toNatClampNeg) - ((n - (if (I 28 d.toNatClampNeg) < n then I 28 d.toNatClampNeg else n)) - (if ((up2 I 26 d.toNatClampNeg (intrOn I d day)) 26 d.toNatClampNeg) < (n - (if (I 28 d.toNatClampNeg) < n then I 28 d.toNatClampNeg else n)) then (up2 I 26 d.toNatClampNeg (intrOn I d day)) 26 d.toNatClampNeg else n - (if (I 28 d.toNatClampNeg) < n then I 28 d.toNatClampNeg else n))))) L rd d (1 : Int32) day (by first | assumption | (skip; (try simp only [Bool.and_true, Bool.true_and, Bool.and_eq_true, inb_iff, Int32.lt_iff_toInt_lt, Int32.le_iff_toInt_le, toI_0, toI_1, toI_2, toI_3, toI_4, toI_5, toI_6, toI_7, toI_8, toI_9, toI_10, toI_12, toI_16, toI_18, toI_20, toI_21, toI_23, toI_24, toI_32, toI_36, toI_39, toI_40, toI_48, toI_50, toI_60, toI_64, toI_75, toI_80, toI_100, toI_144, toI_160, toI_200, toI_256, toI_320, toI_380, toI_576, toI_600, toI_1000, toI_1280, toI_2400, toI_9999, toI_10000, toI_100000, toI_1000000, toI_m1, toI_m100000, toI_s9, toI_s8] at hd h1  ⊢); omega))) ?_
    exact Runs.rv rfl rfl (congrArg (fun z => mk tl z L rd) (takeOff_t (Decidable.not_not.mp h1)).symm)

def dueBy_st (I : Nat → Nat → Int32) (L : Nat → Nat → Int64) (p : Int32) (j : Nat) (s : Int32) : Int32 :=
  if (owes I p (nI j)) = 0 then (s + (0 : Int32)) else
  (s + (due I (nI j) (I 1 4)))

def dueBy_it (I : Nat → Nat → Int32) (L : Nat → Nat → Int64) (p : Int32) (j : Nat) : Int32 := itr (dueBy_st I L p) (0) j
theorem dueBy_it_s (I : Nat → Nat → Int32) (L : Nat → Nat → Int64) (p : Int32) (j : Nat) : (dueBy_it I L p (j + 1)) = dueBy_st I L p j (dueBy_it I L p j) := itr_s _ _ _
set_option maxRecDepth 20000 in
theorem l_dueBy (tl : List (Nat × Nat)) (I : Nat → Nat → Int32) (L : Nat → Nat → Int64) (rd : Nat → Nat → Option Nat) (p : Int32) (m : Nat) (hm : I 16 0 = nI m) (hb : m ≤ 40) : ∀ j, j ≤ m → Runs 32 4 [some (.ref 1), some (.int p), some (.int (dueBy_it I L p j)), some (.int (nI j))] [] (mk tl I L rd) (some (.int ((dueBy_it I L p (m))))) (mk tl I L rd) := by
  refine loopU m (P := fun j => Runs 32 4 [some (.ref 1), some (.int p), some (.int (dueBy_it I L p j)), some (.int (nI j))] [] (mk tl I L rd) (some (.int ((dueBy_it I L p (m))))) (mk tl I L rd)) (fun j hj ih => ?_) ?_
  · show Runs 32 4 [some (.ref 1), some (.int p), some (.int (dueBy_it I L p j)), some (.int (nI j))] [] (mk tl I L rd) (some (.int ((dueBy_it I L p (m))))) (mk tl I L rd)
    refine Runs.bl 5 (g := true) (i' := if decide ((I 16 0) ≤ (nI j)) = true then 27 else 9) (ls' := [some (.ref 1), some (.int p), some (.int (dueBy_it I L p j)), some (.int (nI j))]) (st' := []) (M' := mk tl I L rd) rfl rfl ?_
    refine Runs.brF (by rw [hm]; exact nI_ge hj (by omega)) ?_
    refine Runs.bl 4 (g := true) (i' := 13) (ls' := [some (.ref 1), some (.int p), some (.int (dueBy_it I L p j)), some (.int (nI j))]) (st' := [.int (nI j), .int p, .ref 1, .int (dueBy_it I L p j)]) (M' := mk tl I L rd) rfl rfl ?_
    refine Runs.call (k' := 31) (as := [.ref 1, .int p, .int (nI j)]) (rest := [.int (dueBy_it I L p j)]) (r1 := some (.int (owes I p (nI j)))) (M1 := mk tl I L rd) rfl rfl rfl (c_owes tl I L rd p (nI j) ) ?_
    refine Runs.bl 1 (g := true) (i' := if decide ((owes I p (nI j)) = 0) = true then 22 else 15) (ls' := [some (.ref 1), some (.int p), some (.int (dueBy_it I L p j)), some (.int (nI j))]) (st' := [.int (dueBy_it I L p j)]) (M' := mk tl I L rd) rfl rfl ?_
    refine Runs.brP (fun h1 => ?_) (fun h1 => ?_)
    · skip
      refine Runs.bl 5 (g := true) (i' := 4) (ls' := [some (.ref 1), some (.int p), some (.int ((dueBy_it I L p j) + (0 : Int32))), some (.int ((nI j) + 1))]) (st' := []) (M' := mk tl I L rd) rfl rfl ?_
      refine Runs.cg (ls := [some (.ref 1), some (.int p), some (.int (dueBy_it I L p (j + 1))), some (.int (nI (j + 1)))]) (M := mk tl I L rd) (by rw [nI_1, dueBy_it_s, dueBy_st, if_pos h1]) (rfl) ih
    · skip
      refine Runs.bl 5 (g := true) (i' := 20) (ls' := [some (.ref 1), some (.int p), some (.int (dueBy_it I L p j)), some (.int (nI j))]) (st' := [.int (I 1 4), .int (nI j), .ref 16, .int (dueBy_it I L p j)]) (M' := mk tl I L rd) rfl rfl ?_
      refine Runs.call (k' := 11) (as := [.ref 16, .int (nI j), .int (I 1 4)]) (rest := [.int (dueBy_it I L p j)]) (r1 := some (.int (due I (nI j) (I 1 4)))) (M1 := mk tl I L rd) rfl rfl rfl (c_due tl I L rd (nI j) (I 1 4) ) ?_
      refine Runs.bl 5 (g := true) (i' := 4) (ls' := [some (.ref 1), some (.int p), some (.int ((dueBy_it I L p j) + (due I (nI j) (I 1 4)))), some (.int ((nI j) + 1))]) (st' := []) (M' := mk tl I L rd) rfl rfl ?_
      refine Runs.cg (ls := [some (.ref 1), some (.int p), some (.int (dueBy_it I L p (j + 1))), some (.int (nI (j + 1)))]) (M := mk tl I L rd) (by rw [nI_1, dueBy_it_s, dueBy_st, if_neg h1]) (rfl) ih
  · show Runs 32 4 [some (.ref 1), some (.int p), some (.int (dueBy_it I L p m)), some (.int (nI m))] [] (mk tl I L rd) (some (.int ((dueBy_it I L p (m))))) (mk tl I L rd)
    refine Runs.bl 5 (g := true) (i' := if decide ((I 16 0) ≤ (nI m)) = true then 27 else 9) (ls' := [some (.ref 1), some (.int p), some (.int (dueBy_it I L p m)), some (.int (nI m))]) (st' := []) (M' := mk tl I L rd) rfl rfl ?_
    refine Runs.brT (by rw [hm]; exact nI_le (Nat.le_refl _) (by omega)) ?_
    refine Runs.bl 1 (g := true) (i' := 28) (ls' := [some (.ref 1), some (.int p), some (.int (dueBy_it I L p m)), some (.int (nI m))]) (st' := [.int (dueBy_it I L p m)]) (M' := mk tl I L rd) rfl rfl ?_
    exact Runs.ri rfl rfl (rfl) (rfl)

set_option maxRecDepth 20000 in
theorem c_dueBy (tl : List (Nat × Nat)) (I : Nat → Nat → Int32) (L : Nat → Nat → Int64) (rd : Nat → Nat → Option Nat) (p : Int32) (m : Nat) (hm : I 16 0 = nI m) (hb : m ≤ 40) : Call 32 [.ref 1, .int p] (mk tl I L rd) (some (.int (dueBy_it I L p m))) (mk tl I L rd) := by
  show Runs 32 0 [some (.ref 1), some (.int p), none, none] [] (mk tl I L rd) (some (.int (dueBy_it I L p m))) (mk tl I L rd)
  refine Runs.bl 4 (g := true) (i' := 4) (ls' := [some (.ref 1), some (.int p), some (.int (0 : Int32)), some (.int (0 : Int32))]) (st' := []) (M' := mk tl I L rd) rfl rfl ?_
  exact l_dueBy tl I L rd p m hm hb 0 (Nat.zero_le _)

def dueTo_st (I : Nat → Nat → Int32) (L : Nat → Nat → Int64) (p : Int32) (j : Nat) (s : Int32) : Int32 :=
  if ¬ (I 18 ((nI j).toNatClampNeg)) = p then (s + (0 : Int32)) else
  (s + (due I (nI j) (I 1 4)))

def dueTo_it (I : Nat → Nat → Int32) (L : Nat → Nat → Int64) (p : Int32) (j : Nat) : Int32 := itr (dueTo_st I L p) (0) j
theorem dueTo_it_s (I : Nat → Nat → Int32) (L : Nat → Nat → Int64) (p : Int32) (j : Nat) : (dueTo_it I L p (j + 1)) = dueTo_st I L p j (dueTo_it I L p j) := itr_s _ _ _
set_option maxRecDepth 20000 in
theorem l_dueTo (tl : List (Nat × Nat)) (I : Nat → Nat → Int32) (L : Nat → Nat → Int64) (rd : Nat → Nat → Option Nat) (p : Int32) (m : Nat) (hm : I 16 0 = nI m) (hb : m ≤ 40) : ∀ j, j ≤ m → Runs 33 4 [some (.ref 1), some (.int p), some (.int (dueTo_it I L p j)), some (.int (nI j))] [] (mk tl I L rd) (some (.int ((dueTo_it I L p (m))))) (mk tl I L rd) := by
  refine loopU m (P := fun j => Runs 33 4 [some (.ref 1), some (.int p), some (.int (dueTo_it I L p j)), some (.int (nI j))] [] (mk tl I L rd) (some (.int ((dueTo_it I L p (m))))) (mk tl I L rd)) (fun j hj ih => ?_) ?_
  · show Runs 33 4 [some (.ref 1), some (.int p), some (.int (dueTo_it I L p j)), some (.int (nI j))] [] (mk tl I L rd) (some (.int ((dueTo_it I L p (m))))) (mk tl I L rd)
    refine Runs.bl 5 (g := true) (i' := if decide ((I 16 0) ≤ (nI j)) = true then 29 else 9) (ls' := [some (.ref 1), some (.int p), some (.int (dueTo_it I L p j)), some (.int (nI j))]) (st' := []) (M' := mk tl I L rd) rfl rfl ?_
    refine Runs.brF (by rw [hm]; exact nI_ge hj (by omega)) ?_
    refine Runs.bl 8 (g := inb (nI j) 40 && true) (i' := if decide (¬ (I 18 ((nI j).toNatClampNeg)) = p) = true then 24 else 17) (ls' := [some (.ref 1), some (.int p), some (.int (dueTo_it I L p j)), some (.int (nI j))]) (st' := [.int (dueTo_it I L p j)]) (M' := mk tl I L rd) rfl (by have q1 := nI_toInt (n := j) (by omega); simp only [Bool.and_true, Bool.true_and, Bool.and_eq_true, inb_iff, Int32.lt_iff_toInt_lt, Int32.le_iff_toInt_le, toI_0, toI_1, toI_2, toI_3, toI_4, toI_5, toI_6, toI_7, toI_8, toI_9, toI_10, toI_12, toI_16, toI_18, toI_20, toI_21, toI_23, toI_24, toI_32, toI_36, toI_39, toI_40, toI_48, toI_50, toI_60, toI_64, toI_75, toI_80, toI_100, toI_144, toI_160, toI_200, toI_256, toI_320, toI_380, toI_576, toI_600, toI_1000, toI_1280, toI_2400, toI_9999, toI_10000, toI_100000, toI_1000000, toI_m1, toI_m100000, toI_s9, toI_s8] at hm hb q1 ⊢; omega) ?_
    refine Runs.brP (fun h1 => ?_) (fun h1 => ?_)
    · skip
      refine Runs.bl 5 (g := true) (i' := 4) (ls' := [some (.ref 1), some (.int p), some (.int ((dueTo_it I L p j) + (0 : Int32))), some (.int ((nI j) + 1))]) (st' := []) (M' := mk tl I L rd) rfl rfl ?_
      refine Runs.cg (ls := [some (.ref 1), some (.int p), some (.int (dueTo_it I L p (j + 1))), some (.int (nI (j + 1)))]) (M := mk tl I L rd) (by rw [nI_1, dueTo_it_s, dueTo_st, if_pos h1]) (rfl) ih
    · skip
      refine Runs.bl 5 (g := true) (i' := 22) (ls' := [some (.ref 1), some (.int p), some (.int (dueTo_it I L p j)), some (.int (nI j))]) (st' := [.int (I 1 4), .int (nI j), .ref 16, .int (dueTo_it I L p j)]) (M' := mk tl I L rd) rfl rfl ?_
      refine Runs.call (k' := 11) (as := [.ref 16, .int (nI j), .int (I 1 4)]) (rest := [.int (dueTo_it I L p j)]) (r1 := some (.int (due I (nI j) (I 1 4)))) (M1 := mk tl I L rd) rfl rfl rfl (c_due tl I L rd (nI j) (I 1 4) ) ?_
      refine Runs.bl 5 (g := true) (i' := 4) (ls' := [some (.ref 1), some (.int p), some (.int ((dueTo_it I L p j) + (due I (nI j) (I 1 4)))), some (.int ((nI j) + 1))]) (st' := []) (M' := mk tl I L rd) rfl rfl ?_
      refine Runs.cg (ls := [some (.ref 1), some (.int p), some (.int (dueTo_it I L p (j + 1))), some (.int (nI (j + 1)))]) (M := mk tl I L rd) (by rw [nI_1, dueTo_it_s, dueTo_st, if_neg h1]) (rfl) ih
  · show Runs 33 4 [some (.ref 1), some (.int p), some (.int (dueTo_it I L p m)), some (.int (nI m))] [] (mk tl I L rd) (some (.int ((dueTo_it I L p (m))))) (mk tl I L rd)
    refine Runs.bl 5 (g := true) (i' := if decide ((I 16 0) ≤ (nI m)) = true then 29 else 9) (ls' := [some (.ref 1), some (.int p), some (.int (dueTo_it I L p m)), some (.int (nI m))]) (st' := []) (M' := mk tl I L rd) rfl rfl ?_
    refine Runs.brT (by rw [hm]; exact nI_le (Nat.le_refl _) (by omega)) ?_
    refine Runs.bl 1 (g := true) (i' := 30) (ls' := [some (.ref 1), some (.int p), some (.int (dueTo_it I L p m)), some (.int (nI m))]) (st' := [.int (dueTo_it I L p m)]) (M' := mk tl I L rd) rfl rfl ?_
    exact Runs.ri rfl rfl (rfl) (rfl)

set_option maxRecDepth 20000 in
theorem c_dueTo (tl : List (Nat × Nat)) (I : Nat → Nat → Int32) (L : Nat → Nat → Int64) (rd : Nat → Nat → Option Nat) (p : Int32) (m : Nat) (hm : I 16 0 = nI m) (hb : m ≤ 40) : Call 33 [.ref 1, .int p] (mk tl I L rd) (some (.int (dueTo_it I L p m))) (mk tl I L rd) := by
  show Runs 33 0 [some (.ref 1), some (.int p), none, none] [] (mk tl I L rd) (some (.int (dueTo_it I L p m))) (mk tl I L rd)
  refine Runs.bl 4 (g := true) (i' := 4) (ls' := [some (.ref 1), some (.int p), some (.int (0 : Int32)), some (.int (0 : Int32))]) (st' := []) (M' := mk tl I L rd) rfl rfl ?_
  exact l_dueTo tl I L rd p m hm hb 0 (Nat.zero_le _)

def credOf_st (I : Nat → Nat → Int32) (L : Nat → Nat → Int64) (p : Int32) (j : Nat) (s : Int32) : Int32 :=
  (s ||| (if (owes I p (nI j)) = 0 then (0 : Int32) else (1 : Int32) <<< ((I 18 ((nI j).toNatClampNeg)) &&& 31)))

def credOf_it (I : Nat → Nat → Int32) (L : Nat → Nat → Int64) (p : Int32) (j : Nat) : Int32 := itr (credOf_st I L p) (0) j
theorem credOf_it_s (I : Nat → Nat → Int32) (L : Nat → Nat → Int64) (p : Int32) (j : Nat) : (credOf_it I L p (j + 1)) = credOf_st I L p j (credOf_it I L p j) := itr_s _ _ _
set_option maxRecDepth 20000 in
theorem l_credOf (tl : List (Nat × Nat)) (I : Nat → Nat → Int32) (L : Nat → Nat → Int64) (rd : Nat → Nat → Option Nat) (p : Int32) (m : Nat) (hm : I 16 0 = nI m) (hb : m ≤ 40) : ∀ j, j ≤ m → Runs 34 4 [some (.ref 1), some (.int p), some (.int (credOf_it I L p j)), some (.int (nI j))] [] (mk tl I L rd) (some (.int ((credOf_it I L p (m))))) (mk tl I L rd) := by
  refine loopU m (P := fun j => Runs 34 4 [some (.ref 1), some (.int p), some (.int (credOf_it I L p j)), some (.int (nI j))] [] (mk tl I L rd) (some (.int ((credOf_it I L p (m))))) (mk tl I L rd)) (fun j hj ih => ?_) ?_
  · show Runs 34 4 [some (.ref 1), some (.int p), some (.int (credOf_it I L p j)), some (.int (nI j))] [] (mk tl I L rd) (some (.int ((credOf_it I L p (m))))) (mk tl I L rd)
    refine Runs.bl 5 (g := true) (i' := if decide ((I 16 0) ≤ (nI j)) = true then 28 else 9) (ls' := [some (.ref 1), some (.int p), some (.int (credOf_it I L p j)), some (.int (nI j))]) (st' := []) (M' := mk tl I L rd) rfl rfl ?_
    refine Runs.brF (by rw [hm]; exact nI_ge hj (by omega)) ?_
    refine Runs.bl 4 (g := true) (i' := 13) (ls' := [some (.ref 1), some (.int p), some (.int (credOf_it I L p j)), some (.int (nI j))]) (st' := [.int (nI j), .int p, .ref 1, .int (credOf_it I L p j)]) (M' := mk tl I L rd) rfl rfl ?_
    refine Runs.call (k' := 31) (as := [.ref 1, .int p, .int (nI j)]) (rest := [.int (credOf_it I L p j)]) (r1 := some (.int (owes I p (nI j)))) (M1 := mk tl I L rd) rfl rfl rfl (c_owes tl I L rd p (nI j) ) ?_
    refine Runs.bl 1 (g := true) (i' := if decide ((owes I p (nI j)) = 0) = true then 23 else 15) (ls' := [some (.ref 1), some (.int p), some (.int (credOf_it I L p j)), some (.int (nI j))]) (st' := [.int (credOf_it I L p j)]) (M' := mk tl I L rd) rfl rfl ?_
    refine Runs.dia (P := (owes I p (nI j)) = 0) (vT := (0 : Int32)) (vF := (1 : Int32) <<< ((I 18 ((nI j).toNatClampNeg)) &&& 31)) (e := 24) (fun h1 K => ?_) (fun h1 K => ?_) ?_
    · exact Runs.bl 1 (g := true) (i' := 24) (ls' := [some (.ref 1), some (.int p), some (.int (credOf_it I L p j)), some (.int (nI j))]) (st' := [.int (0 : Int32), .int (credOf_it I L p j)]) (M' := mk tl I L rd) rfl rfl K
    · exact Runs.bl 8 (g := inb (nI j) 40 && true) (i' := 24) (ls' := [some (.ref 1), some (.int p), some (.int (credOf_it I L p j)), some (.int (nI j))]) (st' := [.int ((1 : Int32) <<< ((I 18 ((nI j).toNatClampNeg)) &&& 31)), .int (credOf_it I L p j)]) (M' := mk tl I L rd) rfl (by have q1 := owes_rng h1; have q2 := nI_toInt (n := j) (by omega); simp only [Bool.and_true, Bool.true_and, Bool.and_eq_true, inb_iff, Int32.lt_iff_toInt_lt, Int32.le_iff_toInt_le, toI_0, toI_1, toI_2, toI_3, toI_4, toI_5, toI_6, toI_7, toI_8, toI_9, toI_10, toI_12, toI_16, toI_18, toI_20, toI_21, toI_23, toI_24, toI_32, toI_36, toI_39, toI_40, toI_48, toI_50, toI_60, toI_64, toI_75, toI_80, toI_100, toI_144, toI_160, toI_200, toI_256, toI_320, toI_380, toI_576, toI_600, toI_1000, toI_1280, toI_2400, toI_9999, toI_10000, toI_100000, toI_1000000, toI_m1, toI_m100000, toI_s9, toI_s8] at hm hb q1 q2 ⊢; omega) K
    refine Runs.bl 4 (g := true) (i' := 4) (ls' := [some (.ref 1), some (.int p), some (.int ((credOf_it I L p j) ||| (if (owes I p (nI j)) = 0 then (0 : Int32) else (1 : Int32) <<< ((I 18 ((nI j).toNatClampNeg)) &&& 31)))), some (.int ((nI j) + 1))]) (st' := []) (M' := mk tl I L rd) rfl rfl ?_
    refine Runs.cg (ls := [some (.ref 1), some (.int p), some (.int (credOf_it I L p (j + 1))), some (.int (nI (j + 1)))]) (M := mk tl I L rd) (by rw [nI_1, credOf_it_s, credOf_st]) (rfl) ih
  · show Runs 34 4 [some (.ref 1), some (.int p), some (.int (credOf_it I L p m)), some (.int (nI m))] [] (mk tl I L rd) (some (.int ((credOf_it I L p (m))))) (mk tl I L rd)
    refine Runs.bl 5 (g := true) (i' := if decide ((I 16 0) ≤ (nI m)) = true then 28 else 9) (ls' := [some (.ref 1), some (.int p), some (.int (credOf_it I L p m)), some (.int (nI m))]) (st' := []) (M' := mk tl I L rd) rfl rfl ?_
    refine Runs.brT (by rw [hm]; exact nI_le (Nat.le_refl _) (by omega)) ?_
    refine Runs.bl 1 (g := true) (i' := 29) (ls' := [some (.ref 1), some (.int p), some (.int (credOf_it I L p m)), some (.int (nI m))]) (st' := [.int (credOf_it I L p m)]) (M' := mk tl I L rd) rfl rfl ?_
    exact Runs.ri rfl rfl (rfl) (rfl)

set_option maxRecDepth 20000 in
theorem c_credOf (tl : List (Nat × Nat)) (I : Nat → Nat → Int32) (L : Nat → Nat → Int64) (rd : Nat → Nat → Option Nat) (p : Int32) (m : Nat) (hm : I 16 0 = nI m) (hb : m ≤ 40) : Call 34 [.ref 1, .int p] (mk tl I L rd) (some (.int (credOf_it I L p m))) (mk tl I L rd) := by
  show Runs 34 0 [some (.ref 1), some (.int p), none, none] [] (mk tl I L rd) (some (.int (credOf_it I L p m))) (mk tl I L rd)
  refine Runs.bl 4 (g := true) (i' := 4) (ls' := [some (.ref 1), some (.int p), some (.int (0 : Int32)), some (.int (0 : Int32))]) (st' := []) (M' := mk tl I L rd) rfl rfl ?_
  exact l_credOf tl I L rd p m hm hb 0 (Nat.zero_le _)

def liveOnes_st (I : Nat → Nat → Int32) (L : Nat → Nat → Int64)  (j : Nat) (s : Int32) : Int32 :=
  if (isLive I (nI j)) = 0 then (s + (0 : Int32)) else
  (s + (1 : Int32))

def liveOnes_it (I : Nat → Nat → Int32) (L : Nat → Nat → Int64)  (j : Nat) : Int32 := itr (liveOnes_st I L ) (0) j
theorem liveOnes_it_s (I : Nat → Nat → Int32) (L : Nat → Nat → Int64)  (j : Nat) : (liveOnes_it I L  (j + 1)) = liveOnes_st I L  j (liveOnes_it I L  j) := itr_s _ _ _
set_option maxRecDepth 20000 in
theorem l_liveOnes (tl : List (Nat × Nat)) (I : Nat → Nat → Int32) (L : Nat → Nat → Int64) (rd : Nat → Nat → Option Nat)  (m : Nat) (hm : I 16 0 = nI m) (hb : m ≤ 40) : ∀ j, j ≤ m → Runs 16 4 [some (.ref 16), some (.int (liveOnes_it I L  j)), some (.int (nI j))] [] (mk tl I L rd) (some (.int ((liveOnes_it I L  (m))))) (mk tl I L rd) := by
  refine loopU m (P := fun j => Runs 16 4 [some (.ref 16), some (.int (liveOnes_it I L  j)), some (.int (nI j))] [] (mk tl I L rd) (some (.int ((liveOnes_it I L  (m))))) (mk tl I L rd)) (fun j hj ih => ?_) ?_
  · show Runs 16 4 [some (.ref 16), some (.int (liveOnes_it I L  j)), some (.int (nI j))] [] (mk tl I L rd) (some (.int ((liveOnes_it I L  (m))))) (mk tl I L rd)
    refine Runs.bl 4 (g := true) (i' := if decide ((I 16 0) ≤ (nI j)) = true then 20 else 8) (ls' := [some (.ref 16), some (.int (liveOnes_it I L  j)), some (.int (nI j))]) (st' := []) (M' := mk tl I L rd) rfl rfl ?_
    refine Runs.brF (by rw [hm]; exact nI_ge hj (by omega)) ?_
    refine Runs.bl 3 (g := true) (i' := 11) (ls' := [some (.ref 16), some (.int (liveOnes_it I L  j)), some (.int (nI j))]) (st' := [.int (nI j), .ref 16, .int (liveOnes_it I L  j)]) (M' := mk tl I L rd) rfl rfl ?_
    refine Runs.call (k' := 7) (as := [.ref 16, .int (nI j)]) (rest := [.int (liveOnes_it I L  j)]) (r1 := some (.int (isLive I (nI j)))) (M1 := mk tl I L rd) rfl rfl rfl (c_isLive tl I L rd (nI j) ) ?_
    refine Runs.bl 1 (g := true) (i' := if decide ((isLive I (nI j)) = 0) = true then 15 else 13) (ls' := [some (.ref 16), some (.int (liveOnes_it I L  j)), some (.int (nI j))]) (st' := [.int (liveOnes_it I L  j)]) (M' := mk tl I L rd) rfl rfl ?_
    refine Runs.brP (fun h1 => ?_) (fun h1 => ?_)
    · skip
      refine Runs.bl 5 (g := true) (i' := 4) (ls' := [some (.ref 16), some (.int ((liveOnes_it I L  j) + (0 : Int32))), some (.int ((nI j) + 1))]) (st' := []) (M' := mk tl I L rd) rfl rfl ?_
      refine Runs.cg (ls := [some (.ref 16), some (.int (liveOnes_it I L  (j + 1))), some (.int (nI (j + 1)))]) (M := mk tl I L rd) (by rw [nI_1, liveOnes_it_s, liveOnes_st, if_pos h1]) (rfl) ih
    · skip
      refine Runs.bl 6 (g := true) (i' := 4) (ls' := [some (.ref 16), some (.int ((liveOnes_it I L  j) + (1 : Int32))), some (.int ((nI j) + 1))]) (st' := []) (M' := mk tl I L rd) rfl rfl ?_
      refine Runs.cg (ls := [some (.ref 16), some (.int (liveOnes_it I L  (j + 1))), some (.int (nI (j + 1)))]) (M := mk tl I L rd) (by rw [nI_1, liveOnes_it_s, liveOnes_st, if_neg h1]) (rfl) ih
  · show Runs 16 4 [some (.ref 16), some (.int (liveOnes_it I L  m)), some (.int (nI m))] [] (mk tl I L rd) (some (.int ((liveOnes_it I L  (m))))) (mk tl I L rd)
    refine Runs.bl 4 (g := true) (i' := if decide ((I 16 0) ≤ (nI m)) = true then 20 else 8) (ls' := [some (.ref 16), some (.int (liveOnes_it I L  m)), some (.int (nI m))]) (st' := []) (M' := mk tl I L rd) rfl rfl ?_
    refine Runs.brT (by rw [hm]; exact nI_le (Nat.le_refl _) (by omega)) ?_
    refine Runs.bl 1 (g := true) (i' := 21) (ls' := [some (.ref 16), some (.int (liveOnes_it I L  m)), some (.int (nI m))]) (st' := [.int (liveOnes_it I L  m)]) (M' := mk tl I L rd) rfl rfl ?_
    exact Runs.ri rfl rfl (rfl) (rfl)

set_option maxRecDepth 20000 in
theorem c_liveOnes (tl : List (Nat × Nat)) (I : Nat → Nat → Int32) (L : Nat → Nat → Int64) (rd : Nat → Nat → Option Nat)  (m : Nat) (hm : I 16 0 = nI m) (hb : m ≤ 40) : Call 16 [.ref 16] (mk tl I L rd) (some (.int (liveOnes_it I L  m))) (mk tl I L rd) := by
  show Runs 16 0 [some (.ref 16), none, none] [] (mk tl I L rd) (some (.int (liveOnes_it I L  m))) (mk tl I L rd)
  refine Runs.bl 4 (g := true) (i' := 4) (ls' := [some (.ref 16), some (.int (0 : Int32)), some (.int (0 : Int32))]) (st' := []) (M' := mk tl I L rd) rfl rfl ?_
  exact l_liveOnes tl I L rd  m hm hb 0 (Nat.zero_le _)

def allDue_st (I : Nat → Nat → Int32) (L : Nat → Nat → Int64) (day : Int32) (j : Nat) (s : Int32) : Int32 :=
  (s + (due I (nI j) day))

def allDue_it (I : Nat → Nat → Int32) (L : Nat → Nat → Int64) (day : Int32) (j : Nat) : Int32 := itr (allDue_st I L day) (0) j
theorem allDue_it_s (I : Nat → Nat → Int32) (L : Nat → Nat → Int64) (day : Int32) (j : Nat) : (allDue_it I L day (j + 1)) = allDue_st I L day j (allDue_it I L day j) := itr_s _ _ _
set_option maxRecDepth 20000 in
theorem l_allDue (tl : List (Nat × Nat)) (I : Nat → Nat → Int32) (L : Nat → Nat → Int64) (rd : Nat → Nat → Option Nat) (day : Int32) (m : Nat) (hm : I 16 0 = nI m) (hb : m ≤ 40) : ∀ j, j ≤ m → Runs 17 4 [some (.ref 16), some (.int day), some (.int (allDue_it I L day j)), some (.int (nI j))] [] (mk tl I L rd) (some (.int ((allDue_it I L day (m))))) (mk tl I L rd) := by
  refine loopU m (P := fun j => Runs 17 4 [some (.ref 16), some (.int day), some (.int (allDue_it I L day j)), some (.int (nI j))] [] (mk tl I L rd) (some (.int ((allDue_it I L day (m))))) (mk tl I L rd)) (fun j hj ih => ?_) ?_
  · show Runs 17 4 [some (.ref 16), some (.int day), some (.int (allDue_it I L day j)), some (.int (nI j))] [] (mk tl I L rd) (some (.int ((allDue_it I L day (m))))) (mk tl I L rd)
    refine Runs.bl 4 (g := true) (i' := if decide ((I 16 0) ≤ (nI j)) = true then 17 else 8) (ls' := [some (.ref 16), some (.int day), some (.int (allDue_it I L day j)), some (.int (nI j))]) (st' := []) (M' := mk tl I L rd) rfl rfl ?_
    refine Runs.brF (by rw [hm]; exact nI_ge hj (by omega)) ?_
    refine Runs.bl 4 (g := true) (i' := 12) (ls' := [some (.ref 16), some (.int day), some (.int (allDue_it I L day j)), some (.int (nI j))]) (st' := [.int day, .int (nI j), .ref 16, .int (allDue_it I L day j)]) (M' := mk tl I L rd) rfl rfl ?_
    refine Runs.call (k' := 11) (as := [.ref 16, .int (nI j), .int day]) (rest := [.int (allDue_it I L day j)]) (r1 := some (.int (due I (nI j) day))) (M1 := mk tl I L rd) rfl rfl rfl (c_due tl I L rd (nI j) day ) ?_
    refine Runs.bl 4 (g := true) (i' := 4) (ls' := [some (.ref 16), some (.int day), some (.int ((allDue_it I L day j) + (due I (nI j) day))), some (.int ((nI j) + 1))]) (st' := []) (M' := mk tl I L rd) rfl rfl ?_
    refine Runs.cg (ls := [some (.ref 16), some (.int day), some (.int (allDue_it I L day (j + 1))), some (.int (nI (j + 1)))]) (M := mk tl I L rd) (by rw [nI_1, allDue_it_s, allDue_st]) (rfl) ih
  · show Runs 17 4 [some (.ref 16), some (.int day), some (.int (allDue_it I L day m)), some (.int (nI m))] [] (mk tl I L rd) (some (.int ((allDue_it I L day (m))))) (mk tl I L rd)
    refine Runs.bl 4 (g := true) (i' := if decide ((I 16 0) ≤ (nI m)) = true then 17 else 8) (ls' := [some (.ref 16), some (.int day), some (.int (allDue_it I L day m)), some (.int (nI m))]) (st' := []) (M' := mk tl I L rd) rfl rfl ?_
    refine Runs.brT (by rw [hm]; exact nI_le (Nat.le_refl _) (by omega)) ?_
    refine Runs.bl 1 (g := true) (i' := 18) (ls' := [some (.ref 16), some (.int day), some (.int (allDue_it I L day m)), some (.int (nI m))]) (st' := [.int (allDue_it I L day m)]) (M' := mk tl I L rd) rfl rfl ?_
    exact Runs.ri rfl rfl (rfl) (rfl)

set_option maxRecDepth 20000 in
theorem c_allDue (tl : List (Nat × Nat)) (I : Nat → Nat → Int32) (L : Nat → Nat → Int64) (rd : Nat → Nat → Option Nat) (day : Int32) (m : Nat) (hm : I 16 0 = nI m) (hb : m ≤ 40) : Call 17 [.ref 16, .int day] (mk tl I L rd) (some (.int (allDue_it I L day m))) (mk tl I L rd) := by
  show Runs 17 0 [some (.ref 16), some (.int day), none, none] [] (mk tl I L rd) (some (.int (allDue_it I L day m))) (mk tl I L rd)
  refine Runs.bl 4 (g := true) (i' := 4) (ls' := [some (.ref 16), some (.int day), some (.int (0 : Int32)), some (.int (0 : Int32))]) (st' := []) (M' := mk tl I L rd) rfl rfl ?_
  exact l_allDue tl I L rd day m hm hb 0 (Nat.zero_le _)

def heldOnes_st (I : Nat → Nat → Int32) (L : Nat → Nat → Int64)  (j : Nat) (s : Int32) : Int32 :=
  if (isHeld I (nI j)) = 0 then (s + (0 : Int32)) else
  (s + (1 : Int32))

def heldOnes_it (I : Nat → Nat → Int32) (L : Nat → Nat → Int64)  (j : Nat) : Int32 := itr (heldOnes_st I L ) (0) j
theorem heldOnes_it_s (I : Nat → Nat → Int32) (L : Nat → Nat → Int64)  (j : Nat) : (heldOnes_it I L  (j + 1)) = heldOnes_st I L  j (heldOnes_it I L  j) := itr_s _ _ _
set_option maxRecDepth 20000 in
theorem l_heldOnes (tl : List (Nat × Nat)) (I : Nat → Nat → Int32) (L : Nat → Nat → Int64) (rd : Nat → Nat → Option Nat)  (m : Nat) (hm : I 2 0 = nI m) (hb : m ≤ 12) : ∀ j, j ≤ m → Runs 63 4 [some (.ref 2), some (.int (heldOnes_it I L  j)), some (.int (nI j))] [] (mk tl I L rd) (some (.int ((heldOnes_it I L  (m))))) (mk tl I L rd) := by
  refine loopU m (P := fun j => Runs 63 4 [some (.ref 2), some (.int (heldOnes_it I L  j)), some (.int (nI j))] [] (mk tl I L rd) (some (.int ((heldOnes_it I L  (m))))) (mk tl I L rd)) (fun j hj ih => ?_) ?_
  · show Runs 63 4 [some (.ref 2), some (.int (heldOnes_it I L  j)), some (.int (nI j))] [] (mk tl I L rd) (some (.int ((heldOnes_it I L  (m))))) (mk tl I L rd)
    refine Runs.bl 4 (g := true) (i' := if decide ((I 2 0) ≤ (nI j)) = true then 20 else 8) (ls' := [some (.ref 2), some (.int (heldOnes_it I L  j)), some (.int (nI j))]) (st' := []) (M' := mk tl I L rd) rfl rfl ?_
    refine Runs.brF (by rw [hm]; exact nI_ge hj (by omega)) ?_
    refine Runs.bl 3 (g := true) (i' := 11) (ls' := [some (.ref 2), some (.int (heldOnes_it I L  j)), some (.int (nI j))]) (st' := [.int (nI j), .ref 2, .int (heldOnes_it I L  j)]) (M' := mk tl I L rd) rfl rfl ?_
    refine Runs.call (k' := 56) (as := [.ref 2, .int (nI j)]) (rest := [.int (heldOnes_it I L  j)]) (r1 := some (.int (isHeld I (nI j)))) (M1 := mk tl I L rd) rfl rfl rfl (c_isHeld tl I L rd (nI j) ) ?_
    refine Runs.bl 1 (g := true) (i' := if decide ((isHeld I (nI j)) = 0) = true then 15 else 13) (ls' := [some (.ref 2), some (.int (heldOnes_it I L  j)), some (.int (nI j))]) (st' := [.int (heldOnes_it I L  j)]) (M' := mk tl I L rd) rfl rfl ?_
    refine Runs.brP (fun h1 => ?_) (fun h1 => ?_)
    · skip
      refine Runs.bl 5 (g := true) (i' := 4) (ls' := [some (.ref 2), some (.int ((heldOnes_it I L  j) + (0 : Int32))), some (.int ((nI j) + 1))]) (st' := []) (M' := mk tl I L rd) rfl rfl ?_
      refine Runs.cg (ls := [some (.ref 2), some (.int (heldOnes_it I L  (j + 1))), some (.int (nI (j + 1)))]) (M := mk tl I L rd) (by rw [nI_1, heldOnes_it_s, heldOnes_st, if_pos h1]) (rfl) ih
    · skip
      refine Runs.bl 6 (g := true) (i' := 4) (ls' := [some (.ref 2), some (.int ((heldOnes_it I L  j) + (1 : Int32))), some (.int ((nI j) + 1))]) (st' := []) (M' := mk tl I L rd) rfl rfl ?_
      refine Runs.cg (ls := [some (.ref 2), some (.int (heldOnes_it I L  (j + 1))), some (.int (nI (j + 1)))]) (M := mk tl I L rd) (by rw [nI_1, heldOnes_it_s, heldOnes_st, if_neg h1]) (rfl) ih
  · show Runs 63 4 [some (.ref 2), some (.int (heldOnes_it I L  m)), some (.int (nI m))] [] (mk tl I L rd) (some (.int ((heldOnes_it I L  (m))))) (mk tl I L rd)
    refine Runs.bl 4 (g := true) (i' := if decide ((I 2 0) ≤ (nI m)) = true then 20 else 8) (ls' := [some (.ref 2), some (.int (heldOnes_it I L  m)), some (.int (nI m))]) (st' := []) (M' := mk tl I L rd) rfl rfl ?_
    refine Runs.brT (by rw [hm]; exact nI_le (Nat.le_refl _) (by omega)) ?_
    refine Runs.bl 1 (g := true) (i' := 21) (ls' := [some (.ref 2), some (.int (heldOnes_it I L  m)), some (.int (nI m))]) (st' := [.int (heldOnes_it I L  m)]) (M' := mk tl I L rd) rfl rfl ?_
    exact Runs.ri rfl rfl (rfl) (rfl)

set_option maxRecDepth 20000 in
theorem c_heldOnes (tl : List (Nat × Nat)) (I : Nat → Nat → Int32) (L : Nat → Nat → Int64) (rd : Nat → Nat → Option Nat)  (m : Nat) (hm : I 2 0 = nI m) (hb : m ≤ 12) : Call 63 [.ref 2] (mk tl I L rd) (some (.int (heldOnes_it I L  m))) (mk tl I L rd) := by
  show Runs 63 0 [some (.ref 2), none, none] [] (mk tl I L rd) (some (.int (heldOnes_it I L  m))) (mk tl I L rd)
  refine Runs.bl 4 (g := true) (i' := 4) (ls' := [some (.ref 2), some (.int (0 : Int32)), some (.int (0 : Int32))]) (st' := []) (M' := mk tl I L rd) rfl rfl ?_
  exact l_heldOnes tl I L rd  m hm hb 0 (Nat.zero_le _)

def allCoins_st (I : Nat → Nat → Int32) (L : Nat → Nat → Int64)  (j : Nat) (s : Int32) : Int32 :=
  (s + (I 3 ((nI j).toNatClampNeg)))

def allCoins_it (I : Nat → Nat → Int32) (L : Nat → Nat → Int64)  (j : Nat) : Int32 := itr (allCoins_st I L ) (0) j
theorem allCoins_it_s (I : Nat → Nat → Int32) (L : Nat → Nat → Int64)  (j : Nat) : (allCoins_it I L  (j + 1)) = allCoins_st I L  j (allCoins_it I L  j) := itr_s _ _ _
set_option maxRecDepth 20000 in
theorem l_allCoins (tl : List (Nat × Nat)) (I : Nat → Nat → Int32) (L : Nat → Nat → Int64) (rd : Nat → Nat → Option Nat)  (m : Nat) (hm : I 2 0 = nI m) (hb : m ≤ 12) : ∀ j, j ≤ m → Runs 64 4 [some (.ref 2), some (.int (allCoins_it I L  j)), some (.int (nI j))] [] (mk tl I L rd) (some (.int ((allCoins_it I L  (m))))) (mk tl I L rd) := by
  refine loopU m (P := fun j => Runs 64 4 [some (.ref 2), some (.int (allCoins_it I L  j)), some (.int (nI j))] [] (mk tl I L rd) (some (.int ((allCoins_it I L  (m))))) (mk tl I L rd)) (fun j hj ih => ?_) ?_
  · show Runs 64 4 [some (.ref 2), some (.int (allCoins_it I L  j)), some (.int (nI j))] [] (mk tl I L rd) (some (.int ((allCoins_it I L  (m))))) (mk tl I L rd)
    refine Runs.bl 4 (g := true) (i' := if decide ((I 2 0) ≤ (nI j)) = true then 17 else 8) (ls' := [some (.ref 2), some (.int (allCoins_it I L  j)), some (.int (nI j))]) (st' := []) (M' := mk tl I L rd) rfl rfl ?_
    refine Runs.brF (by rw [hm]; exact nI_ge hj (by omega)) ?_
    refine Runs.bl 9 (g := inb (nI j) 12 && true) (i' := 4) (ls' := [some (.ref 2), some (.int ((allCoins_it I L  j) + (I 3 ((nI j).toNatClampNeg)))), some (.int ((nI j) + 1))]) (st' := []) (M' := mk tl I L rd) rfl (by have q1 := nI_toInt (n := j) (by omega); simp only [Bool.and_true, Bool.true_and, Bool.and_eq_true, inb_iff, Int32.lt_iff_toInt_lt, Int32.le_iff_toInt_le, toI_0, toI_1, toI_2, toI_3, toI_4, toI_5, toI_6, toI_7, toI_8, toI_9, toI_10, toI_12, toI_16, toI_18, toI_20, toI_21, toI_23, toI_24, toI_32, toI_36, toI_39, toI_40, toI_48, toI_50, toI_60, toI_64, toI_75, toI_80, toI_100, toI_144, toI_160, toI_200, toI_256, toI_320, toI_380, toI_576, toI_600, toI_1000, toI_1280, toI_2400, toI_9999, toI_10000, toI_100000, toI_1000000, toI_m1, toI_m100000, toI_s9, toI_s8] at hm hb q1 ⊢; omega) ?_
    refine Runs.cg (ls := [some (.ref 2), some (.int (allCoins_it I L  (j + 1))), some (.int (nI (j + 1)))]) (M := mk tl I L rd) (by rw [nI_1, allCoins_it_s, allCoins_st]) (rfl) ih
  · show Runs 64 4 [some (.ref 2), some (.int (allCoins_it I L  m)), some (.int (nI m))] [] (mk tl I L rd) (some (.int ((allCoins_it I L  (m))))) (mk tl I L rd)
    refine Runs.bl 4 (g := true) (i' := if decide ((I 2 0) ≤ (nI m)) = true then 17 else 8) (ls' := [some (.ref 2), some (.int (allCoins_it I L  m)), some (.int (nI m))]) (st' := []) (M' := mk tl I L rd) rfl rfl ?_
    refine Runs.brT (by rw [hm]; exact nI_le (Nat.le_refl _) (by omega)) ?_
    refine Runs.bl 1 (g := true) (i' := 18) (ls' := [some (.ref 2), some (.int (allCoins_it I L  m)), some (.int (nI m))]) (st' := [.int (allCoins_it I L  m)]) (M' := mk tl I L rd) rfl rfl ?_
    exact Runs.ri rfl rfl (rfl) (rfl)

set_option maxRecDepth 20000 in
theorem c_allCoins (tl : List (Nat × Nat)) (I : Nat → Nat → Int32) (L : Nat → Nat → Int64) (rd : Nat → Nat → Option Nat)  (m : Nat) (hm : I 2 0 = nI m) (hb : m ≤ 12) : Call 64 [.ref 2] (mk tl I L rd) (some (.int (allCoins_it I L  m))) (mk tl I L rd) := by
  show Runs 64 0 [some (.ref 2), none, none] [] (mk tl I L rd) (some (.int (allCoins_it I L  m))) (mk tl I L rd)
  refine Runs.bl 4 (g := true) (i' := 4) (ls' := [some (.ref 2), some (.int (0 : Int32)), some (.int (0 : Int32))]) (st' := []) (M' := mk tl I L rd) rfl rfl ?_
  exact l_allCoins tl I L rd  m hm hb 0 (Nat.zero_le _)

