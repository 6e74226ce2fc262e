/-! STRINGS and words of the class (printed by p74.py) -/
def isLet (I : Nat → Nat → Int32) (x : Int32) : Int32 :=
  if x < (97 : Int32) then (0 : Int32) else
  if (122 : Int32) < x then (0 : Int32) else
  (1 : Int32)

set_option maxRecDepth 20000 in
theorem c_isLet (tl : List (Nat × Nat)) (I : Nat → Nat → Int32) (L : Nat → Nat → Int64) (rd : Nat → Nat → Option Nat) (x : Int32)  : Call 79 [.int x] (mk tl I L rd) (some (.int (isLet I x))) (mk tl I L rd) := by
  show Runs 79 0 [some (.int x)] [] (mk tl I L rd) (some (.int (isLet I x))) (mk tl I L rd)
  refine Runs.bl 3 (g := true) (i' := if decide (x < (97 : Int32)) = true then 8 else 3) (ls' := [some (.int x)]) (st' := []) (M' := mk tl I L rd) rfl rfl ?_
  refine Runs.brP (fun h1 => ?_) (fun h1 => ?_)
  · skip
    refine Runs.bl 1 (g := true) (i' := 9) (ls' := [some (.int x)]) (st' := [.int (0 : Int32)]) (M' := mk tl I L rd) rfl rfl ?_
    exact Runs.rz rfl rfl (by decide) (by rw [isLet, if_pos h1] <;> rfl) (rfl)
  · skip
    refine Runs.bl 3 (g := true) (i' := if decide ((122 : Int32) < x) = true then 8 else 6) (ls' := [some (.int x)]) (st' := []) (M' := mk tl I L rd) rfl rfl ?_
    refine Runs.brP (fun h2 => ?_) (fun h2 => ?_)
    · skip
      refine Runs.bl 1 (g := true) (i' := 9) (ls' := [some (.int x)]) (st' := [.int (0 : Int32)]) (M' := mk tl I L rd) rfl rfl ?_
      exact Runs.rz rfl rfl (by decide) (by rw [isLet, if_neg h1, if_pos h2] <;> rfl) (rfl)
    · skip
      refine Runs.bl 2 (g := true) (i' := 9) (ls' := [some (.int x)]) (st' := [.int (1 : Int32)]) (M' := mk tl I L rd) rfl rfl ?_
      exact Runs.rz rfl rfl (by decide) (by rw [isLet, if_neg h1, if_neg h2] <;> rfl) (rfl)

def isDig (I : Nat → Nat → Int32) (x : Int32) : Int32 :=
  if x < (48 : Int32) then (0 : Int32) else
  if (57 : Int32) < x then (0 : Int32) else
  (1 : Int32)

set_option maxRecDepth 20000 in
theorem c_isDig (tl : List (Nat × Nat)) (I : Nat → Nat → Int32) (L : Nat → Nat → Int64) (rd : Nat → Nat → Option Nat) (x : Int32)  : Call 80 [.int x] (mk tl I L rd) (some (.int (isDig I x))) (mk tl I L rd) := by
  show Runs 80 0 [some (.int x)] [] (mk tl I L rd) (some (.int (isDig I x))) (mk tl I L rd)
  refine Runs.bl 3 (g := true) (i' := if decide (x < (48 : Int32)) = true then 8 else 3) (ls' := [some (.int x)]) (st' := []) (M' := mk tl I L rd) rfl rfl ?_
  refine Runs.brP (fun h1 => ?_) (fun h1 => ?_)
  · skip
    refine Runs.bl 1 (g := true) (i' := 9) (ls' := [some (.int x)]) (st' := [.int (0 : Int32)]) (M' := mk tl I L rd) rfl rfl ?_
    exact Runs.rz rfl rfl (by decide) (by rw [isDig, if_pos h1] <;> rfl) (rfl)
  · skip
    refine Runs.bl 3 (g := true) (i' := if decide ((57 : Int32) < x) = true then 8 else 6) (ls' := [some (.int x)]) (st' := []) (M' := mk tl I L rd) rfl rfl ?_
    refine Runs.brP (fun h2 => ?_) (fun h2 => ?_)
    · skip
      refine Runs.bl 1 (g := true) (i' := 9) (ls' := [some (.int x)]) (st' := [.int (0 : Int32)]) (M' := mk tl I L rd) rfl rfl ?_
      exact Runs.rz rfl rfl (by decide) (by rw [isDig, if_neg h1, if_pos h2] <;> rfl) (rfl)
    · skip
      refine Runs.bl 2 (g := true) (i' := 9) (ls' := [some (.int x)]) (st' := [.int (1 : Int32)]) (M' := mk tl I L rd) rfl rfl ?_
      exact Runs.rz rfl rfl (by decide) (by rw [isDig, if_neg h1, if_neg h2] <;> rfl) (rfl)

set_option maxRecDepth 20000 in
theorem c_ck3 (tl : List (Nat × Nat)) (I : Nat → Nat → Int32) (L : Nat → Nat → Int64) (rd : Nat → Nat → Option Nat) (x y : Int32) (h1 : ¬ x < 0) (h2 : x < y) : Call 243 [.int x, .int y, .ref (mx + 30)] (mk tl I L rd) (some (.int x)) (mk tl I L rd) := by
  show Runs 243 0 [some (.int x), some (.int y), some (.ref (mx + 30))] [] (mk tl I L rd) (some (.int x)) (mk tl I L rd)
  refine Runs.bl 2 (g := true) (i' := if decide (x < 0) = true then 5 else 2) (ls' := [some (.int x), some (.int y), some (.ref (mx + 30))]) (st' := []) (M' := mk tl I L rd) rfl rfl ?_
  refine Runs.brF h1 ?_
  refine Runs.bl 3 (g := true) (i' := if decide (x < y) = true then 10 else 5) (ls' := [some (.int x), some (.int y), some (.ref (mx + 30))]) (st' := []) (M' := mk tl I L rd) rfl rfl ?_
  refine Runs.brT h2 ?_
  refine Runs.bl 1 (g := true) (i' := 11) (ls' := [some (.int x), some (.int y), some (.ref (mx + 30))]) (st' := [.int x]) (M' := mk tl I L rd) rfl rfl ?_
  exact Runs.ri rfl rfl rfl rfl
set_option maxRecDepth 20000 in
theorem c_ck1 (tl : List (Nat × Nat)) (I : Nat → Nat → Int32) (L : Nat → Nat → Int64) (rd : Nat → Nat → Option Nat) (x y : Int32) (h1 : ¬ x < 0) (h2 : x < y) : Call 241 [.int x, .int y] (mk tl I L rd) none (mk tl I L rd) := by
  show Runs 241 0 [some (.int x), some (.int y)] [] (mk tl I L rd) none (mk tl I L rd)
  refine Runs.bl 3 (g := true) (i' := 3) (ls' := [some (.int x), some (.int y)]) (st' := [.ref (mx + 30), .int y, .int x]) (M' := mk tl I L rd) rfl rfl ?_
  refine Runs.call (k' := 243) (as := [.int x, .int y, .ref (mx + 30)]) (rest := []) (r1 := some (.int x)) (M1 := mk tl I L rd) rfl rfl rfl (c_ck3 tl I L rd x y h1 h2) ?_
  refine Runs.bl 1 (g := true) (i' := 5) (ls' := [some (.int x), some (.int y)]) (st' := []) (M' := mk tl I L rd) rfl rfl ?_
  exact Runs.rv rfl rfl rfl
def cho (x : Int32) : Int32 := ((x &&& 255).toUInt32 % 65536).toInt32

theorem ch_0 : ∀ i, i < 51 → cho ((xBy 0).getD i 0) = (xBy 0).getD i 0 ∧ narrow .char (.int (cho ((xBy 0).getD i 0))) = .int (cho ((xBy 0).getD i 0)) := by decide +kernel
set_option maxRecDepth 20000 in
theorem c_lat0 (tl : List (Nat × Nat)) (I : Nat → Nat → Int32) (L : Nat → Nat → Int64) (rd : Nat → Nat → Option Nat) : Call 240 [.ref (mx + 1 + 0)] (mk tl I L rd) (some (.int 1)) (mk tl I L rd) := by
  show Runs 240 0 [some (.ref (mx + 1 + 0))] [] (mk tl I L rd) (some (.int 1)) (mk tl I L rd)
  refine Runs.bl 7 (g := true) (i' := 8) (ls' := [some (.ref (mx + 1 + 0))]) (st' := [.int 1]) (M' := mk tl I L rd) rfl rfl ?_
  exact Runs.rz rfl rfl (by decide) rfl rfl
set_option maxRecDepth 20000 in
theorem c_cod0 (tl : List (Nat × Nat)) (I : Nat → Nat → Int32) (L : Nat → Nat → Int64) (rd : Nat → Nat → Option Nat) : Call 239 [.ref (mx + 1 + 0)] (mk tl I L rd) (some (.int 0)) (mk tl I L rd) := by
  show Runs 239 0 [some (.ref (mx + 1 + 0))] [] (mk tl I L rd) (some (.int 0)) (mk tl I L rd)
  refine Runs.bl 5 (g := true) (i' := 6) (ls' := [some (.ref (mx + 1 + 0))]) (st' := [.int 0]) (M' := mk tl I L rd) rfl rfl ?_
  exact Runs.re rfl rfl rfl rfl
set_option maxRecDepth 20000 in
theorem c_len0 (tl : List (Nat × Nat)) (I : Nat → Nat → Int32) (L : Nat → Nat → Int64) (rd : Nat → Nat → Option Nat) : Call 237 [.ref (mx + 1 + 0)] (mk tl I L rd) (some (.int 51)) (mk tl I L rd) := by
  show Runs 237 0 [some (.ref (mx + 1 + 0))] [] (mk tl I L rd) (some (.int 51)) (mk tl I L rd)
  refine Runs.bl 4 (g := true) (i' := 4) (ls' := [some (.ref (mx + 1 + 0))]) (st' := [.ref (mx + 1 + 0), .int (Int32.ofNat 51)]) (M' := mk tl I L rd) rfl rfl ?_
  refine Runs.call (k' := 239) (as := [.ref (mx + 1 + 0)]) (rest := [.int (Int32.ofNat 51)]) (r1 := some (.int 0)) (M1 := mk tl I L rd) rfl rfl rfl (c_cod0 tl I L rd) ?_
  refine Runs.bl 1 (g := true) (i' := 6) (ls' := [some (.ref (mx + 1 + 0))]) (st' := [.int (Int32.ofNat 51 >>> (0 &&& 31))]) (M' := mk tl I L rd) rfl rfl ?_
  exact Runs.ri rfl rfl (by decide) rfl
set_option maxRecDepth 20000 in
theorem c_sch0 (tl : List (Nat × Nat)) (I : Nat → Nat → Int32) (L : Nat → Nat → Int64) (rd : Nat → Nat → Option Nat) (i : Nat) (hi : i < 51) : Call 242 [.ref (mx + 11 + 0), .int (nI i)] (mk tl I L rd) (some (.int (cho ((xBy 0).getD i 0)))) (mk tl I L rd) := by
  show Runs 242 0 [some (.ref (mx + 11 + 0)), some (.int (nI i))] [] (mk tl I L rd) (some (.int (cho ((xBy 0).getD i 0)))) (mk tl I L rd)
  refine Runs.bl 3 (g := true) (i' := 3) (ls' := [some (.ref (mx + 11 + 0)), some (.int (nI i))]) (st' := [.int (Int32.ofNat 51), .int (nI i)]) (M' := mk tl I L rd) rfl rfl ?_
  refine Runs.call (k' := 241) (as := [.int (nI i), .int (Int32.ofNat 51)]) (rest := []) (r1 := none) (M1 := mk tl I L rd) rfl rfl rfl (c_ck1 tl I L rd (nI i) (Int32.ofNat 51) (nI_pos (by omega)) (nI_lt hi (by omega))) ?_
  refine Runs.bl 6 (g := inb (nI i) 51 && true) (i' := 10) (ls' := [some (.ref (mx + 11 + 0)), some (.int (nI i))]) (st' := [.int (cho ((xBy 0).getD (nI i).toNatClampNeg 0))]) (M' := mk tl I L rd) rfl (by rw [Bool.and_true]; exact inb_nI hi (by decide)) ?_
  rw [nI_clamp (show i < 2 ^ 31 by omega)]
  refine Runs.ret rfl ?_
  show (if narrow .char (.int (cho ((xBy 0).getD i 0))) = .int (cho ((xBy 0).getD i 0)) then some (some (Value.int (cho ((xBy 0).getD i 0)))) else none) = _
  rw [if_pos (ch_0 i hi).2]
set_option maxRecDepth 20000 in
theorem c_chr0 (tl : List (Nat × Nat)) (I : Nat → Nat → Int32) (L : Nat → Nat → Int64) (rd : Nat → Nat → Option Nat) (i : Nat) (hi : i < 51) : Call 238 [.ref (mx + 1 + 0), .int (nI i)] (mk tl I L rd) (some (.int ((xBy 0).getD i 0))) (mk tl I L rd) := by
  show Runs 238 0 [some (.ref (mx + 1 + 0)), some (.int (nI i))] [] (mk tl I L rd) (some (.int ((xBy 0).getD i 0))) (mk tl I L rd)
  refine Runs.bl 1 (g := true) (i' := 1) (ls' := [some (.ref (mx + 1 + 0)), some (.int (nI i))]) (st' := [.ref (mx + 1 + 0)]) (M' := mk tl I L rd) rfl rfl ?_
  refine Runs.call (k' := 240) (as := [.ref (mx + 1 + 0)]) (rest := []) (r1 := some (.int 1)) (M1 := mk tl I L rd) rfl rfl rfl (c_lat0 tl I L rd) ?_
  refine Runs.bl 4 (g := true) (i' := 6) (ls' := [some (.ref (mx + 1 + 0)), some (.int (nI i))]) (st' := [.int (nI i), .ref (mx + 11 + 0)]) (M' := mk tl I L rd) rfl rfl ?_
  refine Runs.call (k' := 242) (as := [.ref (mx + 11 + 0), .int (nI i)]) (rest := []) (r1 := some (.int (cho ((xBy 0).getD i 0)))) (M1 := mk tl I L rd) rfl rfl rfl (c_sch0 tl I L rd i hi) ?_
  refine Runs.re (r' := some (.int (cho ((xBy 0).getD i 0)))) rfl ?_ (by rw [(ch_0 i hi).1]) rfl
  show (if narrow .char (.int (cho ((xBy 0).getD i 0))) = .int (cho ((xBy 0).getD i 0)) then some (some (Value.int (cho ((xBy 0).getD i 0)))) else none) = _
  rw [if_pos (ch_0 i hi).2]

theorem ch_1 : ∀ i, i < 2 → cho ((xBy 1).getD i 0) = (xBy 1).getD i 0 ∧ narrow .char (.int (cho ((xBy 1).getD i 0))) = .int (cho ((xBy 1).getD i 0)) := by decide +kernel
set_option maxRecDepth 20000 in
theorem c_lat1 (tl : List (Nat × Nat)) (I : Nat → Nat → Int32) (L : Nat → Nat → Int64) (rd : Nat → Nat → Option Nat) : Call 240 [.ref (mx + 1 + 1)] (mk tl I L rd) (some (.int 1)) (mk tl I L rd) := by
  show Runs 240 0 [some (.ref (mx + 1 + 1))] [] (mk tl I L rd) (some (.int 1)) (mk tl I L rd)
  refine Runs.bl 7 (g := true) (i' := 8) (ls' := [some (.ref (mx + 1 + 1))]) (st' := [.int 1]) (M' := mk tl I L rd) rfl rfl ?_
  exact Runs.rz rfl rfl (by decide) rfl rfl
set_option maxRecDepth 20000 in
theorem c_cod1 (tl : List (Nat × Nat)) (I : Nat → Nat → Int32) (L : Nat → Nat → Int64) (rd : Nat → Nat → Option Nat) : Call 239 [.ref (mx + 1 + 1)] (mk tl I L rd) (some (.int 0)) (mk tl I L rd) := by
  show Runs 239 0 [some (.ref (mx + 1 + 1))] [] (mk tl I L rd) (some (.int 0)) (mk tl I L rd)
  refine Runs.bl 5 (g := true) (i' := 6) (ls' := [some (.ref (mx + 1 + 1))]) (st' := [.int 0]) (M' := mk tl I L rd) rfl rfl ?_
  exact Runs.re rfl rfl rfl rfl
set_option maxRecDepth 20000 in
theorem c_len1 (tl : List (Nat × Nat)) (I : Nat → Nat → Int32) (L : Nat → Nat → Int64) (rd : Nat → Nat → Option Nat) : Call 237 [.ref (mx + 1 + 1)] (mk tl I L rd) (some (.int 2)) (mk tl I L rd) := by
  show Runs 237 0 [some (.ref (mx + 1 + 1))] [] (mk tl I L rd) (some (.int 2)) (mk tl I L rd)
  refine Runs.bl 4 (g := true) (i' := 4) (ls' := [some (.ref (mx + 1 + 1))]) (st' := [.ref (mx + 1 + 1), .int (Int32.ofNat 2)]) (M' := mk tl I L rd) rfl rfl ?_
  refine Runs.call (k' := 239) (as := [.ref (mx + 1 + 1)]) (rest := [.int (Int32.ofNat 2)]) (r1 := some (.int 0)) (M1 := mk tl I L rd) rfl rfl rfl (c_cod1 tl I L rd) ?_
  refine Runs.bl 1 (g := true) (i' := 6) (ls' := [some (.ref (mx + 1 + 1))]) (st' := [.int (Int32.ofNat 2 >>> (0 &&& 31))]) (M' := mk tl I L rd) rfl rfl ?_
  exact Runs.ri rfl rfl (by decide) rfl
set_option maxRecDepth 20000 in
theorem c_sch1 (tl : List (Nat × Nat)) (I : Nat → Nat → Int32) (L : Nat → Nat → Int64) (rd : Nat → Nat → Option Nat) (i : Nat) (hi : i < 2) : Call 242 [.ref (mx + 11 + 1), .int (nI i)] (mk tl I L rd) (some (.int (cho ((xBy 1).getD i 0)))) (mk tl I L rd) := by
  show Runs 242 0 [some (.ref (mx + 11 + 1)), some (.int (nI i))] [] (mk tl I L rd) (some (.int (cho ((xBy 1).getD i 0)))) (mk tl I L rd)
  refine Runs.bl 3 (g := true) (i' := 3) (ls' := [some (.ref (mx + 11 + 1)), some (.int (nI i))]) (st' := [.int (Int32.ofNat 2), .int (nI i)]) (M' := mk tl I L rd) rfl rfl ?_
  refine Runs.call (k' := 241) (as := [.int (nI i), .int (Int32.ofNat 2)]) (rest := []) (r1 := none) (M1 := mk tl I L rd) rfl rfl rfl (c_ck1 tl I L rd (nI i) (Int32.ofNat 2) (nI_pos (by omega)) (nI_lt hi (by omega))) ?_
  refine Runs.bl 6 (g := inb (nI i) 2 && true) (i' := 10) (ls' := [some (.ref (mx + 11 + 1)), some (.int (nI i))]) (st' := [.int (cho ((xBy 1).getD (nI i).toNatClampNeg 0))]) (M' := mk tl I L rd) rfl (by rw [Bool.and_true]; exact inb_nI hi (by decide)) ?_
  rw [nI_clamp (show i < 2 ^ 31 by omega)]
  refine Runs.ret rfl ?_
  show (if narrow .char (.int (cho ((xBy 1).getD i 0))) = .int (cho ((xBy 1).getD i 0)) then some (some (Value.int (cho ((xBy 1).getD i 0)))) else none) = _
  rw [if_pos (ch_1 i hi).2]
set_option maxRecDepth 20000 in
theorem c_chr1 (tl : List (Nat × Nat)) (I : Nat → Nat → Int32) (L : Nat → Nat → Int64) (rd : Nat → Nat → Option Nat) (i : Nat) (hi : i < 2) : Call 238 [.ref (mx + 1 + 1), .int (nI i)] (mk tl I L rd) (some (.int ((xBy 1).getD i 0))) (mk tl I L rd) := by
  show Runs 238 0 [some (.ref (mx + 1 + 1)), some (.int (nI i))] [] (mk tl I L rd) (some (.int ((xBy 1).getD i 0))) (mk tl I L rd)
  refine Runs.bl 1 (g := true) (i' := 1) (ls' := [some (.ref (mx + 1 + 1)), some (.int (nI i))]) (st' := [.ref (mx + 1 + 1)]) (M' := mk tl I L rd) rfl rfl ?_
  refine Runs.call (k' := 240) (as := [.ref (mx + 1 + 1)]) (rest := []) (r1 := some (.int 1)) (M1 := mk tl I L rd) rfl rfl rfl (c_lat1 tl I L rd) ?_
  refine Runs.bl 4 (g := true) (i' := 6) (ls' := [some (.ref (mx + 1 + 1)), some (.int (nI i))]) (st' := [.int (nI i), .ref (mx + 11 + 1)]) (M' := mk tl I L rd) rfl rfl ?_
  refine Runs.call (k' := 242) (as := [.ref (mx + 11 + 1), .int (nI i)]) (rest := []) (r1 := some (.int (cho ((xBy 1).getD i 0)))) (M1 := mk tl I L rd) rfl rfl rfl (c_sch1 tl I L rd i hi) ?_
  refine Runs.re (r' := some (.int (cho ((xBy 1).getD i 0)))) rfl ?_ (by rw [(ch_1 i hi).1]) rfl
  show (if narrow .char (.int (cho ((xBy 1).getD i 0))) = .int (cho ((xBy 1).getD i 0)) then some (some (Value.int (cho ((xBy 1).getD i 0)))) else none) = _
  rw [if_pos (ch_1 i hi).2]

theorem ch_2 : ∀ i, i < 3 → cho ((xBy 2).getD i 0) = (xBy 2).getD i 0 ∧ narrow .char (.int (cho ((xBy 2).getD i 0))) = .int (cho ((xBy 2).getD i 0)) := by decide +kernel
set_option maxRecDepth 20000 in
theorem c_lat2 (tl : List (Nat × Nat)) (I : Nat → Nat → Int32) (L : Nat → Nat → Int64) (rd : Nat → Nat → Option Nat) : Call 240 [.ref (mx + 1 + 2)] (mk tl I L rd) (some (.int 1)) (mk tl I L rd) := by
  show Runs 240 0 [some (.ref (mx + 1 + 2))] [] (mk tl I L rd) (some (.int 1)) (mk tl I L rd)
  refine Runs.bl 7 (g := true) (i' := 8) (ls' := [some (.ref (mx + 1 + 2))]) (st' := [.int 1]) (M' := mk tl I L rd) rfl rfl ?_
  exact Runs.rz rfl rfl (by decide) rfl rfl
set_option maxRecDepth 20000 in
theorem c_cod2 (tl : List (Nat × Nat)) (I : Nat → Nat → Int32) (L : Nat → Nat → Int64) (rd : Nat → Nat → Option Nat) : Call 239 [.ref (mx + 1 + 2)] (mk tl I L rd) (some (.int 0)) (mk tl I L rd) := by
  show Runs 239 0 [some (.ref (mx + 1 + 2))] [] (mk tl I L rd) (some (.int 0)) (mk tl I L rd)
  refine Runs.bl 5 (g := true) (i' := 6) (ls' := [some (.ref (mx + 1 + 2))]) (st' := [.int 0]) (M' := mk tl I L rd) rfl rfl ?_
  exact Runs.re rfl rfl rfl rfl
set_option maxRecDepth 20000 in
theorem c_len2 (tl : List (Nat × Nat)) (I : Nat → Nat → Int32) (L : Nat → Nat → Int64) (rd : Nat → Nat → Option Nat) : Call 237 [.ref (mx + 1 + 2)] (mk tl I L rd) (some (.int 3)) (mk tl I L rd) := by
  show Runs 237 0 [some (.ref (mx + 1 + 2))] [] (mk tl I L rd) (some (.int 3)) (mk tl I L rd)
  refine Runs.bl 4 (g := true) (i' := 4) (ls' := [some (.ref (mx + 1 + 2))]) (st' := [.ref (mx + 1 + 2), .int (Int32.ofNat 3)]) (M' := mk tl I L rd) rfl rfl ?_
  refine Runs.call (k' := 239) (as := [.ref (mx + 1 + 2)]) (rest := [.int (Int32.ofNat 3)]) (r1 := some (.int 0)) (M1 := mk tl I L rd) rfl rfl rfl (c_cod2 tl I L rd) ?_
  refine Runs.bl 1 (g := true) (i' := 6) (ls' := [some (.ref (mx + 1 + 2))]) (st' := [.int (Int32.ofNat 3 >>> (0 &&& 31))]) (M' := mk tl I L rd) rfl rfl ?_
  exact Runs.ri rfl rfl (by decide) rfl
set_option maxRecDepth 20000 in
theorem c_sch2 (tl : List (Nat × Nat)) (I : Nat → Nat → Int32) (L : Nat → Nat → Int64) (rd : Nat → Nat → Option Nat) (i : Nat) (hi : i < 3) : Call 242 [.ref (mx + 11 + 2), .int (nI i)] (mk tl I L rd) (some (.int (cho ((xBy 2).getD i 0)))) (mk tl I L rd) := by
  show Runs 242 0 [some (.ref (mx + 11 + 2)), some (.int (nI i))] [] (mk tl I L rd) (some (.int (cho ((xBy 2).getD i 0)))) (mk tl I L rd)
  refine Runs.bl 3 (g := true) (i' := 3) (ls' := [some (.ref (mx + 11 + 2)), some (.int (nI i))]) (st' := [.int (Int32.ofNat 3), .int (nI i)]) (M' := mk tl I L rd) rfl rfl ?_
  refine Runs.call (k' := 241) (as := [.int (nI i), .int (Int32.ofNat 3)]) (rest := []) (r1 := none) (M1 := mk tl I L rd) rfl rfl rfl (c_ck1 tl I L rd (nI i) (Int32.ofNat 3) (nI_pos (by omega)) (nI_lt hi (by omega))) ?_
  refine Runs.bl 6 (g := inb (nI i) 3 && true) (i' := 10) (ls' := [some (.ref (mx + 11 + 2)), some (.int (nI i))]) (st' := [.int (cho ((xBy 2).getD (nI i).toNatClampNeg 0))]) (M' := mk tl I L rd) rfl (by rw [Bool.and_true]; exact inb_nI hi (by decide)) ?_
  rw [nI_clamp (show i < 2 ^ 31 by omega)]
  refine Runs.ret rfl ?_
  show (if narrow .char (.int (cho ((xBy 2).getD i 0))) = .int (cho ((xBy 2).getD i 0)) then some (some (Value.int (cho ((xBy 2).getD i 0)))) else none) = _
  rw [if_pos (ch_2 i hi).2]
set_option maxRecDepth 20000 in
theorem c_chr2 (tl : List (Nat × Nat)) (I : Nat → Nat → Int32) (L : Nat → Nat → Int64) (rd : Nat → Nat → Option Nat) (i : Nat) (hi : i < 3) : Call 238 [.ref (mx + 1 + 2), .int (nI i)] (mk tl I L rd) (some (.int ((xBy 2).getD i 0))) (mk tl I L rd) := by
  show Runs 238 0 [some (.ref (mx + 1 + 2)), some (.int (nI i))] [] (mk tl I L rd) (some (.int ((xBy 2).getD i 0))) (mk tl I L rd)
  refine Runs.bl 1 (g := true) (i' := 1) (ls' := [some (.ref (mx + 1 + 2)), some (.int (nI i))]) (st' := [.ref (mx + 1 + 2)]) (M' := mk tl I L rd) rfl rfl ?_
  refine Runs.call (k' := 240) (as := [.ref (mx + 1 + 2)]) (rest := []) (r1 := some (.int 1)) (M1 := mk tl I L rd) rfl rfl rfl (c_lat2 tl I L rd) ?_
  refine Runs.bl 4 (g := true) (i' := 6) (ls' := [some (.ref (mx + 1 + 2)), some (.int (nI i))]) (st' := [.int (nI i), .ref (mx + 11 + 2)]) (M' := mk tl I L rd) rfl rfl ?_
  refine Runs.call (k' := 242) (as := [.ref (mx + 11 + 2), .int (nI i)]) (rest := []) (r1 := some (.int (cho ((xBy 2).getD i 0)))) (M1 := mk tl I L rd) rfl rfl rfl (c_sch2 tl I L rd i hi) ?_
  refine Runs.re (r' := some (.int (cho ((xBy 2).getD i 0)))) rfl ?_ (by rw [(ch_2 i hi).1]) rfl
  show (if narrow .char (.int (cho ((xBy 2).getD i 0))) = .int (cho ((xBy 2).getD i 0)) then some (some (Value.int (cho ((xBy 2).getD i 0)))) else none) = _
  rw [if_pos (ch_2 i hi).2]

theorem ch_3 : ∀ i, i < 3 → cho ((xBy 3).getD i 0) = (xBy 3).getD i 0 ∧ narrow .char (.int (cho ((xBy 3).getD i 0))) = .int (cho ((xBy 3).getD i 0)) := by decide +kernel
set_option maxRecDepth 20000 in
theorem c_lat3 (tl : List (Nat × Nat)) (I : Nat → Nat → Int32) (L : Nat → Nat → Int64) (rd : Nat → Nat → Option Nat) : Call 240 [.ref (mx + 1 + 3)] (mk tl I L rd) (some (.int 1)) (mk tl I L rd) := by
  show Runs 240 0 [some (.ref (mx + 1 + 3))] [] (mk tl I L rd) (some (.int 1)) (mk tl I L rd)
  refine Runs.bl 7 (g := true) (i' := 8) (ls' := [some (.ref (mx + 1 + 3))]) (st' := [.int 1]) (M' := mk tl I L rd) rfl rfl ?_
  exact Runs.rz rfl rfl (by decide) rfl rfl
set_option maxRecDepth 20000 in
theorem c_cod3 (tl : List (Nat × Nat)) (I : Nat → Nat → Int32) (L : Nat → Nat → Int64) (rd : Nat → Nat → Option Nat) : Call 239 [.ref (mx + 1 + 3)] (mk tl I L rd) (some (.int 0)) (mk tl I L rd) := by
  show Runs 239 0 [some (.ref (mx + 1 + 3))] [] (mk tl I L rd) (some (.int 0)) (mk tl I L rd)
  refine Runs.bl 5 (g := true) (i' := 6) (ls' := [some (.ref (mx + 1 + 3))]) (st' := [.int 0]) (M' := mk tl I L rd) rfl rfl ?_
  exact Runs.re rfl rfl rfl rfl
set_option maxRecDepth 20000 in
theorem c_len3 (tl : List (Nat × Nat)) (I : Nat → Nat → Int32) (L : Nat → Nat → Int64) (rd : Nat → Nat → Option Nat) : Call 237 [.ref (mx + 1 + 3)] (mk tl I L rd) (some (.int 3)) (mk tl I L rd) := by
  show Runs 237 0 [some (.ref (mx + 1 + 3))] [] (mk tl I L rd) (some (.int 3)) (mk tl I L rd)
  refine Runs.bl 4 (g := true) (i' := 4) (ls' := [some (.ref (mx + 1 + 3))]) (st' := [.ref (mx + 1 + 3), .int (Int32.ofNat 3)]) (M' := mk tl I L rd) rfl rfl ?_
  refine Runs.call (k' := 239) (as := [.ref (mx + 1 + 3)]) (rest := [.int (Int32.ofNat 3)]) (r1 := some (.int 0)) (M1 := mk tl I L rd) rfl rfl rfl (c_cod3 tl I L rd) ?_
  refine Runs.bl 1 (g := true) (i' := 6) (ls' := [some (.ref (mx + 1 + 3))]) (st' := [.int (Int32.ofNat 3 >>> (0 &&& 31))]) (M' := mk tl I L rd) rfl rfl ?_
  exact Runs.ri rfl rfl (by decide) rfl
set_option maxRecDepth 20000 in
theorem c_sch3 (tl : List (Nat × Nat)) (I : Nat → Nat → Int32) (L : Nat → Nat → Int64) (rd : Nat → Nat → Option Nat) (i : Nat) (hi : i < 3) : Call 242 [.ref (mx + 11 + 3), .int (nI i)] (mk tl I L rd) (some (.int (cho ((xBy 3).getD i 0)))) (mk tl I L rd) := by
  show Runs 242 0 [some (.ref (mx + 11 + 3)), some (.int (nI i))] [] (mk tl I L rd) (some (.int (cho ((xBy 3).getD i 0)))) (mk tl I L rd)
  refine Runs.bl 3 (g := true) (i' := 3) (ls' := [some (.ref (mx + 11 + 3)), some (.int (nI i))]) (st' := [.int (Int32.ofNat 3), .int (nI i)]) (M' := mk tl I L rd) rfl rfl ?_
  refine Runs.call (k' := 241) (as := [.int (nI i), .int (Int32.ofNat 3)]) (rest := []) (r1 := none) (M1 := mk tl I L rd) rfl rfl rfl (c_ck1 tl I L rd (nI i) (Int32.ofNat 3) (nI_pos (by omega)) (nI_lt hi (by omega))) ?_
  refine Runs.bl 6 (g := inb (nI i) 3 && true) (i' := 10) (ls' := [some (.ref (mx + 11 + 3)), some (.int (nI i))]) (st' := [.int (cho ((xBy 3).getD (nI i).toNatClampNeg 0))]) (M' := mk tl I L rd) rfl (by rw [Bool.and_true]; exact inb_nI hi (by decide)) ?_
  rw [nI_clamp (show i < 2 ^ 31 by omega)]
  refine Runs.ret rfl ?_
  show (if narrow .char (.int (cho ((xBy 3).getD i 0))) = .int (cho ((xBy 3).getD i 0)) then some (some (Value.int (cho ((xBy 3).getD i 0)))) else none) = _
  rw [if_pos (ch_3 i hi).2]
set_option maxRecDepth 20000 in
theorem c_chr3 (tl : List (Nat × Nat)) (I : Nat → Nat → Int32) (L : Nat → Nat → Int64) (rd : Nat → Nat → Option Nat) (i : Nat) (hi : i < 3) : Call 238 [.ref (mx + 1 + 3), .int (nI i)] (mk tl I L rd) (some (.int ((xBy 3).getD i 0))) (mk tl I L rd) := by
  show Runs 238 0 [some (.ref (mx + 1 + 3)), some (.int (nI i))] [] (mk tl I L rd) (some (.int ((xBy 3).getD i 0))) (mk tl I L rd)
  refine Runs.bl 1 (g := true) (i' := 1) (ls' := [some (.ref (mx + 1 + 3)), some (.int (nI i))]) (st' := [.ref (mx + 1 + 3)]) (M' := mk tl I L rd) rfl rfl ?_
  refine Runs.call (k' := 240) (as := [.ref (mx + 1 + 3)]) (rest := []) (r1 := some (.int 1)) (M1 := mk tl I L rd) rfl rfl rfl (c_lat3 tl I L rd) ?_
  refine Runs.bl 4 (g := true) (i' := 6) (ls' := [some (.ref (mx + 1 + 3)), some (.int (nI i))]) (st' := [.int (nI i), .ref (mx + 11 + 3)]) (M' := mk tl I L rd) rfl rfl ?_
  refine Runs.call (k' := 242) (as := [.ref (mx + 11 + 3), .int (nI i)]) (rest := []) (r1 := some (.int (cho ((xBy 3).getD i 0)))) (M1 := mk tl I L rd) rfl rfl rfl (c_sch3 tl I L rd i hi) ?_
  refine Runs.re (r' := some (.int (cho ((xBy 3).getD i 0)))) rfl ?_ (by rw [(ch_3 i hi).1]) rfl
  show (if narrow .char (.int (cho ((xBy 3).getD i 0))) = .int (cho ((xBy 3).getD i 0)) then some (some (Value.int (cho ((xBy 3).getD i 0)))) else none) = _
  rw [if_pos (ch_3 i hi).2]

theorem ch_4 : ∀ i, i < 44 → cho ((xBy 4).getD i 0) = (xBy 4).getD i 0 ∧ narrow .char (.int (cho ((xBy 4).getD i 0))) = .int (cho ((xBy 4).getD i 0)) := by decide +kernel
set_option maxRecDepth 20000 in
theorem c_lat4 (tl : List (Nat × Nat)) (I : Nat → Nat → Int32) (L : Nat → Nat → Int64) (rd : Nat → Nat → Option Nat) : Call 240 [.ref (mx + 1 + 4)] (mk tl I L rd) (some (.int 1)) (mk tl I L rd) := by
  show Runs 240 0 [some (.ref (mx + 1 + 4))] [] (mk tl I L rd) (some (.int 1)) (mk tl I L rd)
  refine Runs.bl 7 (g := true) (i' := 8) (ls' := [some (.ref (mx + 1 + 4))]) (st' := [.int 1]) (M' := mk tl I L rd) rfl rfl ?_
  exact Runs.rz rfl rfl (by decide) rfl rfl
set_option maxRecDepth 20000 in
theorem c_cod4 (tl : List (Nat × Nat)) (I : Nat → Nat → Int32) (L : Nat → Nat → Int64) (rd : Nat → Nat → Option Nat) : Call 239 [.ref (mx + 1 + 4)] (mk tl I L rd) (some (.int 0)) (mk tl I L rd) := by
  show Runs 239 0 [some (.ref (mx + 1 + 4))] [] (mk tl I L rd) (some (.int 0)) (mk tl I L rd)
  refine Runs.bl 5 (g := true) (i' := 6) (ls' := [some (.ref (mx + 1 + 4))]) (st' := [.int 0]) (M' := mk tl I L rd) rfl rfl ?_
  exact Runs.re rfl rfl rfl rfl
set_option maxRecDepth 20000 in
theorem c_len4 (tl : List (Nat × Nat)) (I : Nat → Nat → Int32) (L : Nat → Nat → Int64) (rd : Nat → Nat → Option Nat) : Call 237 [.ref (mx + 1 + 4)] (mk tl I L rd) (some (.int 44)) (mk tl I L rd) := by
  show Runs 237 0 [some (.ref (mx + 1 + 4))] [] (mk tl I L rd) (some (.int 44)) (mk tl I L rd)
  refine Runs.bl 4 (g := true) (i' := 4) (ls' := [some (.ref (mx + 1 + 4))]) (st' := [.ref (mx + 1 + 4), .int (Int32.ofNat 44)]) (M' := mk tl I L rd) rfl rfl ?_
  refine Runs.call (k' := 239) (as := [.ref (mx + 1 + 4)]) (rest := [.int (Int32.ofNat 44)]) (r1 := some (.int 0)) (M1 := mk tl I L rd) rfl rfl rfl (c_cod4 tl I L rd) ?_
  refine Runs.bl 1 (g := true) (i' := 6) (ls' := [some (.ref (mx + 1 + 4))]) (st' := [.int (Int32.ofNat 44 >>> (0 &&& 31))]) (M' := mk tl I L rd) rfl rfl ?_
  exact Runs.ri rfl rfl (by decide) rfl
set_option maxRecDepth 20000 in
theorem c_sch4 (tl : List (Nat × Nat)) (I : Nat → Nat → Int32) (L : Nat → Nat → Int64) (rd : Nat → Nat → Option Nat) (i : Nat) (hi : i < 44) : Call 242 [.ref (mx + 11 + 4), .int (nI i)] (mk tl I L rd) (some (.int (cho ((xBy 4).getD i 0)))) (mk tl I L rd) := by
  show Runs 242 0 [some (.ref (mx + 11 + 4)), some (.int (nI i))] [] (mk tl I L rd) (some (.int (cho ((xBy 4).getD i 0)))) (mk tl I L rd)
  refine Runs.bl 3 (g := true) (i' := 3) (ls' := [some (.ref (mx + 11 + 4)), some (.int (nI i))]) (st' := [.int (Int32.ofNat 44), .int (nI i)]) (M' := mk tl I L rd) rfl rfl ?_
  refine Runs.call (k' := 241) (as := [.int (nI i), .int (Int32.ofNat 44)]) (rest := []) (r1 := none) (M1 := mk tl I L rd) rfl rfl rfl (c_ck1 tl I L rd (nI i) (Int32.ofNat 44) (nI_pos (by omega)) (nI_lt hi (by omega))) ?_
  refine Runs.bl 6 (g := inb (nI i) 44 && true) (i' := 10) (ls' := [some (.ref (mx + 11 + 4)), some (.int (nI i))]) (st' := [.int (cho ((xBy 4).getD (nI i).toNatClampNeg 0))]) (M' := mk tl I L rd) rfl (by rw [Bool.and_true]; exact inb_nI hi (by decide)) ?_
  rw [nI_clamp (show i < 2 ^ 31 by omega)]
  refine Runs.ret rfl ?_
  show (if narrow .char (.int (cho ((xBy 4).getD i 0))) = .int (cho ((xBy 4).getD i 0)) then some (some (Value.int (cho ((xBy 4).getD i 0)))) else none) = _
  rw [if_pos (ch_4 i hi).2]
set_option maxRecDepth 20000 in
theorem c_chr4 (tl : List (Nat × Nat)) (I : Nat → Nat → Int32) (L : Nat → Nat → Int64) (rd : Nat → Nat → Option Nat) (i : Nat) (hi : i < 44) : Call 238 [.ref (mx + 1 + 4), .int (nI i)] (mk tl I L rd) (some (.int ((xBy 4).getD i 0))) (mk tl I L rd) := by
  show Runs 238 0 [some (.ref (mx + 1 + 4)), some (.int (nI i))] [] (mk tl I L rd) (some (.int ((xBy 4).getD i 0))) (mk tl I L rd)
  refine Runs.bl 1 (g := true) (i' := 1) (ls' := [some (.ref (mx + 1 + 4)), some (.int (nI i))]) (st' := [.ref (mx + 1 + 4)]) (M' := mk tl I L rd) rfl rfl ?_
  refine Runs.call (k' := 240) (as := [.ref (mx + 1 + 4)]) (rest := []) (r1 := some (.int 1)) (M1 := mk tl I L rd) rfl rfl rfl (c_lat4 tl I L rd) ?_
  refine Runs.bl 4 (g := true) (i' := 6) (ls' := [some (.ref (mx + 1 + 4)), some (.int (nI i))]) (st' := [.int (nI i), .ref (mx + 11 + 4)]) (M' := mk tl I L rd) rfl rfl ?_
  refine Runs.call (k' := 242) (as := [.ref (mx + 11 + 4), .int (nI i)]) (rest := []) (r1 := some (.int (cho ((xBy 4).getD i 0)))) (M1 := mk tl I L rd) rfl rfl rfl (c_sch4 tl I L rd i hi) ?_
  refine Runs.re (r' := some (.int (cho ((xBy 4).getD i 0)))) rfl ?_ (by rw [(ch_4 i hi).1]) rfl
  show (if narrow .char (.int (cho ((xBy 4).getD i 0))) = .int (cho ((xBy 4).getD i 0)) then some (some (Value.int (cho ((xBy 4).getD i 0)))) else none) = _
  rw [if_pos (ch_4 i hi).2]

theorem ch_5 : ∀ i, i < 6 → cho ((xBy 5).getD i 0) = (xBy 5).getD i 0 ∧ narrow .char (.int (cho ((xBy 5).getD i 0))) = .int (cho ((xBy 5).getD i 0)) := by decide +kernel
set_option maxRecDepth 20000 in
theorem c_lat5 (tl : List (Nat × Nat)) (I : Nat → Nat → Int32) (L : Nat → Nat → Int64) (rd : Nat → Nat → Option Nat) : Call 240 [.ref (mx + 1 + 5)] (mk tl I L rd) (some (.int 1)) (mk tl I L rd) := by
  show Runs 240 0 [some (.ref (mx + 1 + 5))] [] (mk tl I L rd) (some (.int 1)) (mk tl I L rd)
  refine Runs.bl 7 (g := true) (i' := 8) (ls' := [some (.ref (mx + 1 + 5))]) (st' := [.int 1]) (M' := mk tl I L rd) rfl rfl ?_
  exact Runs.rz rfl rfl (by decide) rfl rfl
set_option maxRecDepth 20000 in
theorem c_cod5 (tl : List (Nat × Nat)) (I : Nat → Nat → Int32) (L : Nat → Nat → Int64) (rd : Nat → Nat → Option Nat) : Call 239 [.ref (mx + 1 + 5)] (mk tl I L rd) (some (.int 0)) (mk tl I L rd) := by
  show Runs 239 0 [some (.ref (mx + 1 + 5))] [] (mk tl I L rd) (some (.int 0)) (mk tl I L rd)
  refine Runs.bl 5 (g := true) (i' := 6) (ls' := [some (.ref (mx + 1 + 5))]) (st' := [.int 0]) (M' := mk tl I L rd) rfl rfl ?_
  exact Runs.re rfl rfl rfl rfl
set_option maxRecDepth 20000 in
theorem c_len5 (tl : List (Nat × Nat)) (I : Nat → Nat → Int32) (L : Nat → Nat → Int64) (rd : Nat → Nat → Option Nat) : Call 237 [.ref (mx + 1 + 5)] (mk tl I L rd) (some (.int 6)) (mk tl I L rd) := by
  show Runs 237 0 [some (.ref (mx + 1 + 5))] [] (mk tl I L rd) (some (.int 6)) (mk tl I L rd)
  refine Runs.bl 4 (g := true) (i' := 4) (ls' := [some (.ref (mx + 1 + 5))]) (st' := [.ref (mx + 1 + 5), .int (Int32.ofNat 6)]) (M' := mk tl I L rd) rfl rfl ?_
  refine Runs.call (k' := 239) (as := [.ref (mx + 1 + 5)]) (rest := [.int (Int32.ofNat 6)]) (r1 := some (.int 0)) (M1 := mk tl I L rd) rfl rfl rfl (c_cod5 tl I L rd) ?_
  refine Runs.bl 1 (g := true) (i' := 6) (ls' := [some (.ref (mx + 1 + 5))]) (st' := [.int (Int32.ofNat 6 >>> (0 &&& 31))]) (M' := mk tl I L rd) rfl rfl ?_
  exact Runs.ri rfl rfl (by decide) rfl
set_option maxRecDepth 20000 in
theorem c_sch5 (tl : List (Nat × Nat)) (I : Nat → Nat → Int32) (L : Nat → Nat → Int64) (rd : Nat → Nat → Option Nat) (i : Nat) (hi : i < 6) : Call 242 [.ref (mx + 11 + 5), .int (nI i)] (mk tl I L rd) (some (.int (cho ((xBy 5).getD i 0)))) (mk tl I L rd) := by
  show Runs 242 0 [some (.ref (mx + 11 + 5)), some (.int (nI i))] [] (mk tl I L rd) (some (.int (cho ((xBy 5).getD i 0)))) (mk tl I L rd)
  refine Runs.bl 3 (g := true) (i' := 3) (ls' := [some (.ref (mx + 11 + 5)), some (.int (nI i))]) (st' := [.int (Int32.ofNat 6), .int (nI i)]) (M' := mk tl I L rd) rfl rfl ?_
  refine Runs.call (k' := 241) (as := [.int (nI i), .int (Int32.ofNat 6)]) (rest := []) (r1 := none) (M1 := mk tl I L rd) rfl rfl rfl (c_ck1 tl I L rd (nI i) (Int32.ofNat 6) (nI_pos (by omega)) (nI_lt hi (by omega))) ?_
  refine Runs.bl 6 (g := inb (nI i) 6 && true) (i' := 10) (ls' := [some (.ref (mx + 11 + 5)), some (.int (nI i))]) (st' := [.int (cho ((xBy 5).getD (nI i).toNatClampNeg 0))]) (M' := mk tl I L rd) rfl (by rw [Bool.and_true]; exact inb_nI hi (by decide)) ?_
  rw [nI_clamp (show i < 2 ^ 31 by omega)]
  refine Runs.ret rfl ?_
  show (if narrow .char (.int (cho ((xBy 5).getD i 0))) = .int (cho ((xBy 5).getD i 0)) then some (some (Value.int (cho ((xBy 5).getD i 0)))) else none) = _
  rw [if_pos (ch_5 i hi).2]
set_option maxRecDepth 20000 in
theorem c_chr5 (tl : List (Nat × Nat)) (I : Nat → Nat → Int32) (L : Nat → Nat → Int64) (rd : Nat → Nat → Option Nat) (i : Nat) (hi : i < 6) : Call 238 [.ref (mx + 1 + 5), .int (nI i)] (mk tl I L rd) (some (.int ((xBy 5).getD i 0))) (mk tl I L rd) := by
  show Runs 238 0 [some (.ref (mx + 1 + 5)), some (.int (nI i))] [] (mk tl I L rd) (some (.int ((xBy 5).getD i 0))) (mk tl I L rd)
  refine Runs.bl 1 (g := true) (i' := 1) (ls' := [some (.ref (mx + 1 + 5)), some (.int (nI i))]) (st' := [.ref (mx + 1 + 5)]) (M' := mk tl I L rd) rfl rfl ?_
  refine Runs.call (k' := 240) (as := [.ref (mx + 1 + 5)]) (rest := []) (r1 := some (.int 1)) (M1 := mk tl I L rd) rfl rfl rfl (c_lat5 tl I L rd) ?_
  refine Runs.bl 4 (g := true) (i' := 6) (ls' := [some (.ref (mx + 1 + 5)), some (.int (nI i))]) (st' := [.int (nI i), .ref (mx + 11 + 5)]) (M' := mk tl I L rd) rfl rfl ?_
  refine Runs.call (k' := 242) (as := [.ref (mx + 11 + 5), .int (nI i)]) (rest := []) (r1 := some (.int (cho ((xBy 5).getD i 0)))) (M1 := mk tl I L rd) rfl rfl rfl (c_sch5 tl I L rd i hi) ?_
  refine Runs.re (r' := some (.int (cho ((xBy 5).getD i 0)))) rfl ?_ (by rw [(ch_5 i hi).1]) rfl
  show (if narrow .char (.int (cho ((xBy 5).getD i 0))) = .int (cho ((xBy 5).getD i 0)) then some (some (Value.int (cho ((xBy 5).getD i 0)))) else none) = _
  rw [if_pos (ch_5 i hi).2]

theorem nI_sb {x y : Nat} (h : y ≤ x) (hx : x < 2 ^ 30) : nI x - nI y = nI (x - y) := by
  rw [← Int32.toInt_inj, sub_toI (by rw [nI_toInt (by omega), nI_toInt (by omega)]; omega) (by rw [nI_toInt (by omega), nI_toInt (by omega)]; omega), nI_toInt (by omega), nI_toInt (by omega), nI_toInt (by omega)]
  omega
def ipF (X T : Nat → Int32) (s a : Nat) : Nat → Nat → Int32
  | 0, _ => 1
  | f + 1, i => if X i = T (s + i - a) then ipF X T s a f (i + 1) else 0
/-- the word from s to e is what stands from a to b in X -/
def isP (X T : Nat → Int32) (s e a b : Nat) : Int32 := if b - a = e - s then ipF X T s a (b - a) a else 0
theorem ipF_01 (X T : Nat → Int32) (s a : Nat) : ∀ f i, ipF X T s a f i = 0 ∨ ipF X T s a f i = 1 := by
  intro f
  induction f with
  | zero => intro i; exact Or.inr rfl
  | succ f ih =>
    intro i
    rw [ipF]
    split
    · exact ih _
    · exact Or.inl rfl

set_option maxRecDepth 20000 in
theorem l_ip0 (tl : List (Nat × Nat)) (I : Nat → Nat → Int32) (L : Nat → Nat → Int64) (rd : Nat → Nat → Option Nat) (a b s : Nat) (hab : a ≤ b) (hb : b ≤ 51) (hs : s + (b - a) ≤ 600) (hs7 : I 39 7 = nI s) : ∀ f i, i + f = b → a ≤ i → Runs 83 13 [some (.ref 39), some (.ref (mx + 1 + 0)), some (.int (nI a)), some (.int (nI b)), some (.int (nI i))] [] (mk tl I L (up2 rd 39 4 (some 34))) (some (.int (ipF (fun i => (xBy 0).getD i 0) (I 34) s a f i))) (mk tl I L (up2 rd 39 4 (some 34))) := by
  intro f
  induction f with
  | zero =>
    intro i hi ha
    obtain rfl : i = b := hi
    refine Runs.bl 3 (g := true) (i' := if decide ((nI i) ≤ (nI i)) = true then 33 else 16) (ls' := [some (.ref 39), some (.ref (mx + 1 + 0)), some (.int (nI a)), some (.int (nI i)), some (.int (nI i))]) (st' := []) (M' := mk tl I L (up2 rd 39 4 (some 34))) rfl rfl ?_
    refine Runs.brT (nI_le (Nat.le_refl _) (by omega)) ?_
    refine Runs.bl 1 (g := true) (i' := 34) (ls' := [some (.ref 39), some (.ref (mx + 1 + 0)), some (.int (nI a)), some (.int (nI i)), some (.int (nI i))]) (st' := [.int (1 : Int32)]) (M' := mk tl I L (up2 rd 39 4 (some 34))) rfl rfl ?_
    exact Runs.rz rfl rfl (by decide) (rfl) (rfl)
  | succ f ih =>
    intro i hi ha
    refine Runs.bl 3 (g := true) (i' := if decide ((nI b) ≤ (nI i)) = true then 33 else 16) (ls' := [some (.ref 39), some (.ref (mx + 1 + 0)), some (.int (nI a)), some (.int (nI b)), some (.int (nI i))]) (st' := []) (M' := mk tl I L (up2 rd 39 4 (some 34))) rfl rfl ?_
    refine Runs.brF (nI_ge (by omega) (by omega)) ?_
    refine Runs.bl 2 (g := true) (i' := 18) (ls' := [some (.ref 39), some (.ref (mx + 1 + 0)), some (.int (nI a)), some (.int (nI b)), some (.int (nI i))]) (st' := [.int (nI i), .ref (mx + 1 + 0)]) (M' := mk tl I L (up2 rd 39 4 (some 34))) rfl rfl ?_
    refine Runs.call (k' := 238) (as := [.ref (mx + 1 + 0), .int (nI i)]) (rest := []) (r1 := some (.int ((xBy 0).getD i 0))) (M1 := mk tl I L (up2 rd 39 4 (some 34))) rfl rfl rfl (c_chr0 tl I L (up2 rd 39 4 (some 34)) i (by omega)) ?_
    refine Runs.bl 10 (g := inb (((I 39 7) + (nI i)) - (nI a)) 600 && true) (i' := if decide (((xBy 0).getD i 0) = (I 34 ((((I 39 7) + (nI i)) - (nI a)).toNatClampNeg))) = true then 31 else 29) (ls' := [some (.ref 39), some (.ref (mx + 1 + 0)), some (.int (nI a)), some (.int (nI b)), some (.int (nI i))]) (st' := []) (M' := mk tl I L (up2 rd 39 4 (some 34))) rfl (by have q1 := (show ((I 39 7) + (nI i) - (nI a)).toInt = ((s + i - a : Nat) : Int) from by rw [hs7, nI_add, nI_sb (by omega) (by omega), nI_toInt (by omega)]); simp only [Bool.and_true, Bool.true_and, Bool.and_eq_true, inb_iff, Int32.lt_iff_toInt_lt, Int32.le_iff_toInt_le, toI_0, toI_1, toI_2, toI_3, toI_4, toI_5, toI_6, toI_7, toI_8, toI_9, toI_10, toI_12, toI_16, toI_18, toI_20, toI_21, toI_23, toI_24, toI_32, toI_36, toI_39, toI_40, toI_48, toI_50, toI_60, toI_64, toI_75, toI_80, toI_100, toI_144, toI_160, toI_200, toI_256, toI_320, toI_380, toI_576, toI_600, toI_1000, toI_1280, toI_2400, toI_9999, toI_10000, toI_100000, toI_1000000, toI_m1, toI_m100000, toI_s9, toI_s8] at q1 ⊢; omega) ?_
    refine Runs.brP (fun h1 => ?_) (fun h1 => ?_)
    · skip
      refine Runs.bl 2 (g := true) (i' := 13) (ls' := [some (.ref 39), some (.ref (mx + 1 + 0)), some (.int (nI a)), some (.int (nI b)), some (.int ((nI i) + 1))]) (st' := []) (M' := mk tl I L (up2 rd 39 4 (some 34))) rfl rfl ?_
      have h9 := h1
      rw [hs7, nI_add, nI_sb (by omega) (by omega), nI_clamp (by omega)] at h9
      rw [ipF, if_pos h9]
      exact Runs.cg (by rw [nI_1]) rfl (ih (i + 1) (by omega) (by omega))
    · skip
      refine Runs.bl 1 (g := true) (i' := 30) (ls' := [some (.ref 39), some (.ref (mx + 1 + 0)), some (.int (nI a)), some (.int (nI b)), some (.int (nI i))]) (st' := [.int (0 : Int32)]) (M' := mk tl I L (up2 rd 39 4 (some 34))) rfl rfl ?_
      exact Runs.rz rfl rfl (by decide) (by have h9 := h1; rw [hs7, nI_add, nI_sb (by omega) (by omega), nI_clamp (by omega)] at h9; rw [ipF, if_neg h9]) (rfl)

set_option maxRecDepth 20000 in
theorem c_isP0 (tl : List (Nat × Nat)) (I : Nat → Nat → Int32) (L : Nat → Nat → Int64) (rd : Nat → Nat → Option Nat) (a b s e : Nat) (hab : a ≤ b) (hb : b ≤ 51) (hse : s ≤ e) (he : e ≤ 600) (hs7 : I 39 7 = nI s) (he8 : I 39 8 = nI e) : Call 83 [.ref 39, .ref (mx + 1 + 0), .int (nI a), .int (nI b)] (mk tl I L (up2 rd 39 4 (some 34))) (some (.int (isP (fun i => (xBy 0).getD i 0) (I 34) s e a b))) (mk tl I L (up2 rd 39 4 (some 34))) := by
  show Runs 83 0 [some (.ref 39), some (.ref (mx + 1 + 0)), some (.int (nI a)), some (.int (nI b)), none] [] (mk tl I L (up2 rd 39 4 (some 34))) (some (.int (isP (fun i => (xBy 0).getD i 0) (I 34) s e a b))) (mk tl I L (up2 rd 39 4 (some 34)))
  refine Runs.bl 9 (g := true) (i' := if decide (((nI b) - (nI a)) = ((I 39 8) - (I 39 7))) = true then 11 else 9) (ls' := [some (.ref 39), some (.ref (mx + 1 + 0)), some (.int (nI a)), some (.int (nI b)), none]) (st' := []) (M' := mk tl I L (up2 rd 39 4 (some 34))) rfl rfl ?_
  refine Runs.brP (fun h1 => ?_) (fun h1 => ?_)
  · skip
    refine Runs.bl 2 (g := true) (i' := 13) (ls' := [some (.ref 39), some (.ref (mx + 1 + 0)), some (.int (nI a)), some (.int (nI b)), some (.int (nI a))]) (st' := []) (M' := mk tl I L (up2 rd 39 4 (some 34))) rfl rfl ?_
    have h9 := h1
    rw [he8, hs7, nI_sb hab (by omega), nI_sb hse (by omega)] at h9
    have h10 : b - a = e - s := by have h11 := congrArg Int32.toInt h9; rw [nI_toInt (by omega), nI_toInt (by omega)] at h11; omega
    rw [isP, if_pos h10]
    exact l_ip0 tl I L rd a b s hab hb (by omega) hs7 (b - a) a (by omega) (Nat.le_refl _)
  · skip
    refine Runs.bl 1 (g := true) (i' := 10) (ls' := [some (.ref 39), some (.ref (mx + 1 + 0)), some (.int (nI a)), some (.int (nI b)), none]) (st' := [.int (0 : Int32)]) (M' := mk tl I L (up2 rd 39 4 (some 34))) rfl rfl ?_
    exact Runs.rz rfl rfl (by decide) (by have h9 := h1; rw [he8, hs7, nI_sb hab (by omega), nI_sb hse (by omega)] at h9; rw [isP, if_neg (fun e9 => h9 (by rw [e9]))]) (rfl)

set_option maxRecDepth 20000 in
theorem l_ip1 (tl : List (Nat × Nat)) (I : Nat → Nat → Int32) (L : Nat → Nat → Int64) (rd : Nat → Nat → Option Nat) (a b s : Nat) (hab : a ≤ b) (hb : b ≤ 2) (hs : s + (b - a) ≤ 600) (hs7 : I 39 7 = nI s) : ∀ f i, i + f = b → a ≤ i → Runs 83 13 [some (.ref 39), some (.ref (mx + 1 + 1)), some (.int (nI a)), some (.int (nI b)), some (.int (nI i))] [] (mk tl I L (up2 rd 39 4 (some 34))) (some (.int (ipF (fun i => (xBy 1).getD i 0) (I 34) s a f i))) (mk tl I L (up2 rd 39 4 (some 34))) := by
  intro f
  induction f with
  | zero =>
    intro i hi ha
    obtain rfl : i = b := hi
    refine Runs.bl 3 (g := true) (i' := if decide ((nI i) ≤ (nI i)) = true then 33 else 16) (ls' := [some (.ref 39), some (.ref (mx + 1 + 1)), some (.int (nI a)), some (.int (nI i)), some (.int (nI i))]) (st' := []) (M' := mk tl I L (up2 rd 39 4 (some 34))) rfl rfl ?_
    refine Runs.brT (nI_le (Nat.le_refl _) (by omega)) ?_
    refine Runs.bl 1 (g := true) (i' := 34) (ls' := [some (.ref 39), some (.ref (mx + 1 + 1)), some (.int (nI a)), some (.int (nI i)), some (.int (nI i))]) (st' := [.int (1 : Int32)]) (M' := mk tl I L (up2 rd 39 4 (some 34))) rfl rfl ?_
    exact Runs.rz rfl rfl (by decide) (rfl) (rfl)
  | succ f ih =>
    intro i hi ha
    refine Runs.bl 3 (g := true) (i' := if decide ((nI b) ≤ (nI i)) = true then 33 else 16) (ls' := [some (.ref 39), some (.ref (mx + 1 + 1)), some (.int (nI a)), some (.int (nI b)), some (.int (nI i))]) (st' := []) (M' := mk tl I L (up2 rd 39 4 (some 34))) rfl rfl ?_
    refine Runs.brF (nI_ge (by omega) (by omega)) ?_
    refine Runs.bl 2 (g := true) (i' := 18) (ls' := [some (.ref 39), some (.ref (mx + 1 + 1)), some (.int (nI a)), some (.int (nI b)), some (.int (nI i))]) (st' := [.int (nI i), .ref (mx + 1 + 1)]) (M' := mk tl I L (up2 rd 39 4 (some 34))) rfl rfl ?_
    refine Runs.call (k' := 238) (as := [.ref (mx + 1 + 1), .int (nI i)]) (rest := []) (r1 := some (.int ((xBy 1).getD i 0))) (M1 := mk tl I L (up2 rd 39 4 (some 34))) rfl rfl rfl (c_chr1 tl I L (up2 rd 39 4 (some 34)) i (by omega)) ?_
    refine Runs.bl 10 (g := inb (((I 39 7) + (nI i)) - (nI a)) 600 && true) (i' := if decide (((xBy 1).getD i 0) = (I 34 ((((I 39 7) + (nI i)) - (nI a)).toNatClampNeg))) = true then 31 else 29) (ls' := [some (.ref 39), some (.ref (mx + 1 + 1)), some (.int (nI a)), some (.int (nI b)), some (.int (nI i))]) (st' := []) (M' := mk tl I L (up2 rd 39 4 (some 34))) rfl (by have q1 := (show ((I 39 7) + (nI i) - (nI a)).toInt = ((s + i - a : Nat) : Int) from by rw [hs7, nI_add, nI_sb (by omega) (by omega), nI_toInt (by omega)]); simp only [Bool.and_true, Bool.true_and, Bool.and_eq_true, inb_iff, Int32.lt_iff_toInt_lt, Int32.le_iff_toInt_le, toI_0, toI_1, toI_2, toI_3, toI_4, toI_5, toI_6, toI_7, toI_8, toI_9, toI_10, toI_12, toI_16, toI_18, toI_20, toI_21, toI_23, toI_24, toI_32, toI_36, toI_39, toI_40, toI_48, toI_50, toI_60, toI_64, toI_75, toI_80, toI_100, toI_144, toI_160, toI_200, toI_256, toI_320, toI_380, toI_576, toI_600, toI_1000, toI_1280, toI_2400, toI_9999, toI_10000, toI_100000, toI_1000000, toI_m1, toI_m100000, toI_s9, toI_s8] at q1 ⊢; omega) ?_
    refine Runs.brP (fun h1 => ?_) (fun h1 => ?_)
    · skip
      refine Runs.bl 2 (g := true) (i' := 13) (ls' := [some (.ref 39), some (.ref (mx + 1 + 1)), some (.int (nI a)), some (.int (nI b)), some (.int ((nI i) + 1))]) (st' := []) (M' := mk tl I L (up2 rd 39 4 (some 34))) rfl rfl ?_
      have h9 := h1
      rw [hs7, nI_add, nI_sb (by omega) (by omega), nI_clamp (by omega)] at h9
      rw [ipF, if_pos h9]
      exact Runs.cg (by rw [nI_1]) rfl (ih (i + 1) (by omega) (by omega))
    · skip
      refine Runs.bl 1 (g := true) (i' := 30) (ls' := [some (.ref 39), some (.ref (mx + 1 + 1)), some (.int (nI a)), some (.int (nI b)), some (.int (nI i))]) (st' := [.int (0 : Int32)]) (M' := mk tl I L (up2 rd 39 4 (some 34))) rfl rfl ?_
      exact Runs.rz rfl rfl (by decide) (by have h9 := h1; rw [hs7, nI_add, nI_sb (by omega) (by omega), nI_clamp (by omega)] at h9; rw [ipF, if_neg h9]) (rfl)

set_option maxRecDepth 20000 in
theorem c_isP1 (tl : List (Nat × Nat)) (I : Nat → Nat → Int32) (L : Nat → Nat → Int64) (rd : Nat → Nat → Option Nat) (a b s e : Nat) (hab : a ≤ b) (hb : b ≤ 2) (hse : s ≤ e) (he : e ≤ 600) (hs7 : I 39 7 = nI s) (he8 : I 39 8 = nI e) : Call 83 [.ref 39, .ref (mx + 1 + 1), .int (nI a), .int (nI b)] (mk tl I L (up2 rd 39 4 (some 34))) (some (.int (isP (fun i => (xBy 1).getD i 0) (I 34) s e a b))) (mk tl I L (up2 rd 39 4 (some 34))) := by
  show Runs 83 0 [some (.ref 39), some (.ref (mx + 1 + 1)), some (.int (nI a)), some (.int (nI b)), none] [] (mk tl I L (up2 rd 39 4 (some 34))) (some (.int (isP (fun i => (xBy 1).getD i 0) (I 34) s e a b))) (mk tl I L (up2 rd 39 4 (some 34)))
  refine Runs.bl 9 (g := true) (i' := if decide (((nI b) - (nI a)) = ((I 39 8) - (I 39 7))) = true then 11 else 9) (ls' := [some (.ref 39), some (.ref (mx + 1 + 1)), some (.int (nI a)), some (.int (nI b)), none]) (st' := []) (M' := mk tl I L (up2 rd 39 4 (some 34))) rfl rfl ?_
  refine Runs.brP (fun h1 => ?_) (fun h1 => ?_)
  · skip
    refine Runs.bl 2 (g := true) (i' := 13) (ls' := [some (.ref 39), some (.ref (mx + 1 + 1)), some (.int (nI a)), some (.int (nI b)), some (.int (nI a))]) (st' := []) (M' := mk tl I L (up2 rd 39 4 (some 34))) rfl rfl ?_
    have h9 := h1
    rw [he8, hs7, nI_sb hab (by omega), nI_sb hse (by omega)] at h9
    have h10 : b - a = e - s := by have h11 := congrArg Int32.toInt h9; rw [nI_toInt (by omega), nI_toInt (by omega)] at h11; omega
    rw [isP, if_pos h10]
    exact l_ip1 tl I L rd a b s hab hb (by omega) hs7 (b - a) a (by omega) (Nat.le_refl _)
  · skip
    refine Runs.bl 1 (g := true) (i' := 10) (ls' := [some (.ref 39), some (.ref (mx + 1 + 1)), some (.int (nI a)), some (.int (nI b)), none]) (st' := [.int (0 : Int32)]) (M' := mk tl I L (up2 rd 39 4 (some 34))) rfl rfl ?_
    exact Runs.rz rfl rfl (by decide) (by have h9 := h1; rw [he8, hs7, nI_sb hab (by omega), nI_sb hse (by omega)] at h9; rw [isP, if_neg (fun e9 => h9 (by rw [e9]))]) (rfl)

set_option maxRecDepth 20000 in
theorem l_ip2 (tl : List (Nat × Nat)) (I : Nat → Nat → Int32) (L : Nat → Nat → Int64) (rd : Nat → Nat → Option Nat) (a b s : Nat) (hab : a ≤ b) (hb : b ≤ 3) (hs : s + (b - a) ≤ 600) (hs7 : I 39 7 = nI s) : ∀ f i, i + f = b → a ≤ i → Runs 83 13 [some (.ref 39), some (.ref (mx + 1 + 2)), some (.int (nI a)), some (.int (nI b)), some (.int (nI i))] [] (mk tl I L (up2 rd 39 4 (some 34))) (some (.int (ipF (fun i => (xBy 2).getD i 0) (I 34) s a f i))) (mk tl I L (up2 rd 39 4 (some 34))) := by
  intro f
  induction f with
  | zero =>
    intro i hi ha
    obtain rfl : i = b := hi
    refine Runs.bl 3 (g := true) (i' := if decide ((nI i) ≤ (nI i)) = true then 33 else 16) (ls' := [some (.ref 39), some (.ref (mx + 1 + 2)), some (.int (nI a)), some (.int (nI i)), some (.int (nI i))]) (st' := []) (M' := mk tl I L (up2 rd 39 4 (some 34))) rfl rfl ?_
    refine Runs.brT (nI_le (Nat.le_refl _) (by omega)) ?_
    refine Runs.bl 1 (g := true) (i' := 34) (ls' := [some (.ref 39), some (.ref (mx + 1 + 2)), some (.int (nI a)), some (.int (nI i)), some (.int (nI i))]) (st' := [.int (1 : Int32)]) (M' := mk tl I L (up2 rd 39 4 (some 34))) rfl rfl ?_
    exact Runs.rz rfl rfl (by decide) (rfl) (rfl)
  | succ f ih =>
    intro i hi ha
    refine Runs.bl 3 (g := true) (i' := if decide ((nI b) ≤ (nI i)) = true then 33 else 16) (ls' := [some (.ref 39), some (.ref (mx + 1 + 2)), some (.int (nI a)), some (.int (nI b)), some (.int (nI i))]) (st' := []) (M' := mk tl I L (up2 rd 39 4 (some 34))) rfl rfl ?_
    refine Runs.brF (nI_ge (by omega) (by omega)) ?_
    refine Runs.bl 2 (g := true) (i' := 18) (ls' := [some (.ref 39), some (.ref (mx + 1 + 2)), some (.int (nI a)), some (.int (nI b)), some (.int (nI i))]) (st' := [.int (nI i), .ref (mx + 1 + 2)]) (M' := mk tl I L (up2 rd 39 4 (some 34))) rfl rfl ?_
    refine Runs.call (k' := 238) (as := [.ref (mx + 1 + 2), .int (nI i)]) (rest := []) (r1 := some (.int ((xBy 2).getD i 0))) (M1 := mk tl I L (up2 rd 39 4 (some 34))) rfl rfl rfl (c_chr2 tl I L (up2 rd 39 4 (some 34)) i (by omega)) ?_
    refine Runs.bl 10 (g := inb (((I 39 7) + (nI i)) - (nI a)) 600 && true) (i' := if decide (((xBy 2).getD i 0) = (I 34 ((((I 39 7) + (nI i)) - (nI a)).toNatClampNeg))) = true then 31 else 29) (ls' := [some (.ref 39), some (.ref (mx + 1 + 2)), some (.int (nI a)), some (.int (nI b)), some (.int (nI i))]) (st' := []) (M' := mk tl I L (up2 rd 39 4 (some 34))) rfl (by have q1 := (show ((I 39 7) + (nI i) - (nI a)).toInt = ((s + i - a : Nat) : Int) from by rw [hs7, nI_add, nI_sb (by omega) (by omega), nI_toInt (by omega)]); simp only [Bool.and_true, Bool.true_and, Bool.and_eq_true, inb_iff, Int32.lt_iff_toInt_lt, Int32.le_iff_toInt_le, toI_0, toI_1, toI_2, toI_3, toI_4, toI_5, toI_6, toI_7, toI_8, toI_9, toI_10, toI_12, toI_16, toI_18, toI_20, toI_21, toI_23, toI_24, toI_32, toI_36, toI_39, toI_40, toI_48, toI_50, toI_60, toI_64, toI_75, toI_80, toI_100, toI_144, toI_160, toI_200, toI_256, toI_320, toI_380, toI_576, toI_600, toI_1000, toI_1280, toI_2400, toI_9999, toI_10000, toI_100000, toI_1000000, toI_m1, toI_m100000, toI_s9, toI_s8] at q1 ⊢; omega) ?_
    refine Runs.brP (fun h1 => ?_) (fun h1 => ?_)
    · skip
      refine Runs.bl 2 (g := true) (i' := 13) (ls' := [some (.ref 39), some (.ref (mx + 1 + 2)), some (.int (nI a)), some (.int (nI b)), some (.int ((nI i) + 1))]) (st' := []) (M' := mk tl I L (up2 rd 39 4 (some 34))) rfl rfl ?_
      have h9 := h1
      rw [hs7, nI_add, nI_sb (by omega) (by omega), nI_clamp (by omega)] at h9
      rw [ipF, if_pos h9]
      exact Runs.cg (by rw [nI_1]) rfl (ih (i + 1) (by omega) (by omega))
    · skip
      refine Runs.bl 1 (g := true) (i' := 30) (ls' := [some (.ref 39), some (.ref (mx + 1 + 2)), some (.int (nI a)), some (.int (nI b)), some (.int (nI i))]) (st' := [.int (0 : Int32)]) (M' := mk tl I L (up2 rd 39 4 (some 34))) rfl rfl ?_
      exact Runs.rz rfl rfl (by decide) (by have h9 := h1; rw [hs7, nI_add, nI_sb (by omega) (by omega), nI_clamp (by omega)] at h9; rw [ipF, if_neg h9]) (rfl)

set_option maxRecDepth 20000 in
theorem c_isP2 (tl : List (Nat × Nat)) (I : Nat → Nat → Int32) (L : Nat → Nat → Int64) (rd : Nat → Nat → Option Nat) (a b s e : Nat) (hab : a ≤ b) (hb : b ≤ 3) (hse : s ≤ e) (he : e ≤ 600) (hs7 : I 39 7 = nI s) (he8 : I 39 8 = nI e) : Call 83 [.ref 39, .ref (mx + 1 + 2), .int (nI a), .int (nI b)] (mk tl I L (up2 rd 39 4 (some 34))) (some (.int (isP (fun i => (xBy 2).getD i 0) (I 34) s e a b))) (mk tl I L (up2 rd 39 4 (some 34))) := by
  show Runs 83 0 [some (.ref 39), some (.ref (mx + 1 + 2)), some (.int (nI a)), some (.int (nI b)), none] [] (mk tl I L (up2 rd 39 4 (some 34))) (some (.int (isP (fun i => (xBy 2).getD i 0) (I 34) s e a b))) (mk tl I L (up2 rd 39 4 (some 34)))
  refine Runs.bl 9 (g := true) (i' := if decide (((nI b) - (nI a)) = ((I 39 8) - (I 39 7))) = true then 11 else 9) (ls' := [some (.ref 39), some (.ref (mx + 1 + 2)), some (.int (nI a)), some (.int (nI b)), none]) (st' := []) (M' := mk tl I L (up2 rd 39 4 (some 34))) rfl rfl ?_
  refine Runs.brP (fun h1 => ?_) (fun h1 => ?_)
  · skip
    refine Runs.bl 2 (g := true) (i' := 13) (ls' := [some (.ref 39), some (.ref (mx + 1 + 2)), some (.int (nI a)), some (.int (nI b)), some (.int (nI a))]) (st' := []) (M' := mk tl I L (up2 rd 39 4 (some 34))) rfl rfl ?_
    have h9 := h1
    rw [he8, hs7, nI_sb hab (by omega), nI_sb hse (by omega)] at h9
    have h10 : b - a = e - s := by have h11 := congrArg Int32.toInt h9; rw [nI_toInt (by omega), nI_toInt (by omega)] at h11; omega
    rw [isP, if_pos h10]
    exact l_ip2 tl I L rd a b s hab hb (by omega) hs7 (b - a) a (by omega) (Nat.le_refl _)
  · skip
    refine Runs.bl 1 (g := true) (i' := 10) (ls' := [some (.ref 39), some (.ref (mx + 1 + 2)), some (.int (nI a)), some (.int (nI b)), none]) (st' := [.int (0 : Int32)]) (M' := mk tl I L (up2 rd 39 4 (some 34))) rfl rfl ?_
    exact Runs.rz rfl rfl (by decide) (by have h9 := h1; rw [he8, hs7, nI_sb hab (by omega), nI_sb hse (by omega)] at h9; rw [isP, if_neg (fun e9 => h9 (by rw [e9]))]) (rfl)

set_option maxRecDepth 20000 in
theorem l_ip3 (tl : List (Nat × Nat)) (I : Nat → Nat → Int32) (L : Nat → Nat → Int64) (rd : Nat → Nat → Option Nat) (a b s : Nat) (hab : a ≤ b) (hb : b ≤ 3) (hs : s + (b - a) ≤ 600) (hs7 : I 39 7 = nI s) : ∀ f i, i + f = b → a ≤ i → Runs 83 13 [some (.ref 39), some (.ref (mx + 1 + 3)), some (.int (nI a)), some (.int (nI b)), some (.int (nI i))] [] (mk tl I L (up2 rd 39 4 (some 34))) (some (.int (ipF (fun i => (xBy 3).getD i 0) (I 34) s a f i))) (mk tl I L (up2 rd 39 4 (some 34))) := by
  intro f
  induction f with
  | zero =>
    intro i hi ha
    obtain rfl : i = b := hi
    refine Runs.bl 3 (g := true) (i' := if decide ((nI i) ≤ (nI i)) = true then 33 else 16) (ls' := [some (.ref 39), some (.ref (mx + 1 + 3)), some (.int (nI a)), some (.int (nI i)), some (.int (nI i))]) (st' := []) (M' := mk tl I L (up2 rd 39 4 (some 34))) rfl rfl ?_
    refine Runs.brT (nI_le (Nat.le_refl _) (by omega)) ?_
    refine Runs.bl 1 (g := true) (i' := 34) (ls' := [some (.ref 39), some (.ref (mx + 1 + 3)), some (.int (nI a)), some (.int (nI i)), some (.int (nI i))]) (st' := [.int (1 : Int32)]) (M' := mk tl I L (up2 rd 39 4 (some 34))) rfl rfl ?_
    exact Runs.rz rfl rfl (by decide) (rfl) (rfl)
  | succ f ih =>
    intro i hi ha
    refine Runs.bl 3 (g := true) (i' := if decide ((nI b) ≤ (nI i)) = true then 33 else 16) (ls' := [some (.ref 39), some (.ref (mx + 1 + 3)), some (.int (nI a)), some (.int (nI b)), some (.int (nI i))]) (st' := []) (M' := mk tl I L (up2 rd 39 4 (some 34))) rfl rfl ?_
    refine Runs.brF (nI_ge (by omega) (by omega)) ?_
    refine Runs.bl 2 (g := true) (i' := 18) (ls' := [some (.ref 39), some (.ref (mx + 1 + 3)), some (.int (nI a)), some (.int (nI b)), some (.int (nI i))]) (st' := [.int (nI i), .ref (mx + 1 + 3)]) (M' := mk tl I L (up2 rd 39 4 (some 34))) rfl rfl ?_
    refine Runs.call (k' := 238) (as := [.ref (mx + 1 + 3), .int (nI i)]) (rest := []) (r1 := some (.int ((xBy 3).getD i 0))) (M1 := mk tl I L (up2 rd 39 4 (some 34))) rfl rfl rfl (c_chr3 tl I L (up2 rd 39 4 (some 34)) i (by omega)) ?_
    refine Runs.bl 10 (g := inb (((I 39 7) + (nI i)) - (nI a)) 600 && true) (i' := if decide (((xBy 3).getD i 0) = (I 34 ((((I 39 7) + (nI i)) - (nI a)).toNatClampNeg))) = true then 31 else 29) (ls' := [some (.ref 39), some (.ref (mx + 1 + 3)), some (.int (nI a)), some (.int (nI b)), some (.int (nI i))]) (st' := []) (M' := mk tl I L (up2 rd 39 4 (some 34))) rfl (by have q1 := (show ((I 39 7) + (nI i) - (nI a)).toInt = ((s + i - a : Nat) : Int) from by rw [hs7, nI_add, nI_sb (by omega) (by omega), nI_toInt (by omega)]); simp only [Bool.and_true, Bool.true_and, Bool.and_eq_true, inb_iff, Int32.lt_iff_toInt_lt, Int32.le_iff_toInt_le, toI_0, toI_1, toI_2, toI_3, toI_4, toI_5, toI_6, toI_7, toI_8, toI_9, toI_10, toI_12, toI_16, toI_18, toI_20, toI_21, toI_23, toI_24, toI_32, toI_36, toI_39, toI_40, toI_48, toI_50, toI_60, toI_64, toI_75, toI_80, toI_100, toI_144, toI_160, toI_200, toI_256, toI_320, toI_380, toI_576, toI_600, toI_1000, toI_1280, toI_2400, toI_9999, toI_10000, toI_100000, toI_1000000, toI_m1, toI_m100000, toI_s9, toI_s8] at q1 ⊢; omega) ?_
    refine Runs.brP (fun h1 => ?_) (fun h1 => ?_)
    · skip
      refine Runs.bl 2 (g := true) (i' := 13) (ls' := [some (.ref 39), some (.ref (mx + 1 + 3)), some (.int (nI a)), some (.int (nI b)), some (.int ((nI i) + 1))]) (st' := []) (M' := mk tl I L (up2 rd 39 4 (some 34))) rfl rfl ?_
      have h9 := h1
      rw [hs7, nI_add, nI_sb (by omega) (by omega), nI_clamp (by omega)] at h9
      rw [ipF, if_pos h9]
      exact Runs.cg (by rw [nI_1]) rfl (ih (i + 1) (by omega) (by omega))
    · skip
      refine Runs.bl 1 (g := true) (i' := 30) (ls' := [some (.ref 39), some (.ref (mx + 1 + 3)), some (.int (nI a)), some (.int (nI b)), some (.int (nI i))]) (st' := [.int (0 : Int32)]) (M' := mk tl I L (up2 rd 39 4 (some 34))) rfl rfl ?_
      exact Runs.rz rfl rfl (by decide) (by have h9 := h1; rw [hs7, nI_add, nI_sb (by omega) (by omega), nI_clamp (by omega)] at h9; rw [ipF, if_neg h9]) (rfl)

set_option maxRecDepth 20000 in
theorem c_isP3 (tl : List (Nat × Nat)) (I : Nat → Nat → Int32) (L : Nat → Nat → Int64) (rd : Nat → Nat → Option Nat) (a b s e : Nat) (hab : a ≤ b) (hb : b ≤ 3) (hse : s ≤ e) (he : e ≤ 600) (hs7 : I 39 7 = nI s) (he8 : I 39 8 = nI e) : Call 83 [.ref 39, .ref (mx + 1 + 3), .int (nI a), .int (nI b)] (mk tl I L (up2 rd 39 4 (some 34))) (some (.int (isP (fun i => (xBy 3).getD i 0) (I 34) s e a b))) (mk tl I L (up2 rd 39 4 (some 34))) := by
  show Runs 83 0 [some (.ref 39), some (.ref (mx + 1 + 3)), some (.int (nI a)), some (.int (nI b)), none] [] (mk tl I L (up2 rd 39 4 (some 34))) (some (.int (isP (fun i => (xBy 3).getD i 0) (I 34) s e a b))) (mk tl I L (up2 rd 39 4 (some 34)))
  refine Runs.bl 9 (g := true) (i' := if decide (((nI b) - (nI a)) = ((I 39 8) - (I 39 7))) = true then 11 else 9) (ls' := [some (.ref 39), some (.ref (mx + 1 + 3)), some (.int (nI a)), some (.int (nI b)), none]) (st' := []) (M' := mk tl I L (up2 rd 39 4 (some 34))) rfl rfl ?_
  refine Runs.brP (fun h1 => ?_) (fun h1 => ?_)
  · skip
    refine Runs.bl 2 (g := true) (i' := 13) (ls' := [some (.ref 39), some (.ref (mx + 1 + 3)), some (.int (nI a)), some (.int (nI b)), some (.int (nI a))]) (st' := []) (M' := mk tl I L (up2 rd 39 4 (some 34))) rfl rfl ?_
    have h9 := h1
    rw [he8, hs7, nI_sb hab (by omega), nI_sb hse (by omega)] at h9
    have h10 : b - a = e - s := by have h11 := congrArg Int32.toInt h9; rw [nI_toInt (by omega), nI_toInt (by omega)] at h11; omega
    rw [isP, if_pos h10]
    exact l_ip3 tl I L rd a b s hab hb (by omega) hs7 (b - a) a (by omega) (Nat.le_refl _)
  · skip
    refine Runs.bl 1 (g := true) (i' := 10) (ls' := [some (.ref 39), some (.ref (mx + 1 + 3)), some (.int (nI a)), some (.int (nI b)), none]) (st' := [.int (0 : Int32)]) (M' := mk tl I L (up2 rd 39 4 (some 34))) rfl rfl ?_
    exact Runs.rz rfl rfl (by decide) (by have h9 := h1; rw [he8, hs7, nI_sb hab (by omega), nI_sb hse (by omega)] at h9; rw [isP, if_neg (fun e9 => h9 (by rw [e9]))]) (rfl)

set_option maxRecDepth 20000 in
theorem l_ip4 (tl : List (Nat × Nat)) (I : Nat → Nat → Int32) (L : Nat → Nat → Int64) (rd : Nat → Nat → Option Nat) (a b s : Nat) (hab : a ≤ b) (hb : b ≤ 44) (hs : s + (b - a) ≤ 600) (hs7 : I 39 7 = nI s) : ∀ f i, i + f = b → a ≤ i → Runs 83 13 [some (.ref 39), some (.ref (mx + 1 + 4)), some (.int (nI a)), some (.int (nI b)), some (.int (nI i))] [] (mk tl I L (up2 rd 39 4 (some 34))) (some (.int (ipF (fun i => (xBy 4).getD i 0) (I 34) s a f i))) (mk tl I L (up2 rd 39 4 (some 34))) := by
  intro f
  induction f with
  | zero =>
    intro i hi ha
    obtain rfl : i = b := hi
    refine Runs.bl 3 (g := true) (i' := if decide ((nI i) ≤ (nI i)) = true then 33 else 16) (ls' := [some (.ref 39), some (.ref (mx + 1 + 4)), some (.int (nI a)), some (.int (nI i)), some (.int (nI i))]) (st' := []) (M' := mk tl I L (up2 rd 39 4 (some 34))) rfl rfl ?_
    refine Runs.brT (nI_le (Nat.le_refl _) (by omega)) ?_
    refine Runs.bl 1 (g := true) (i' := 34) (ls' := [some (.ref 39), some (.ref (mx + 1 + 4)), some (.int (nI a)), some (.int (nI i)), some (.int (nI i))]) (st' := [.int (1 : Int32)]) (M' := mk tl I L (up2 rd 39 4 (some 34))) rfl rfl ?_
    exact Runs.rz rfl rfl (by decide) (rfl) (rfl)
  | succ f ih =>
    intro i hi ha
    refine Runs.bl 3 (g := true) (i' := if decide ((nI b) ≤ (nI i)) = true then 33 else 16) (ls' := [some (.ref 39), some (.ref (mx + 1 + 4)), some (.int (nI a)), some (.int (nI b)), some (.int (nI i))]) (st' := []) (M' := mk tl I L (up2 rd 39 4 (some 34))) rfl rfl ?_
    refine Runs.brF (nI_ge (by omega) (by omega)) ?_
    refine Runs.bl 2 (g := true) (i' := 18) (ls' := [some (.ref 39), some (.ref (mx + 1 + 4)), some (.int (nI a)), some (.int (nI b)), some (.int (nI i))]) (st' := [.int (nI i), .ref (mx + 1 + 4)]) (M' := mk tl I L (up2 rd 39 4 (some 34))) rfl rfl ?_
    refine Runs.call (k' := 238) (as := [.ref (mx + 1 + 4), .int (nI i)]) (rest := []) (r1 := some (.int ((xBy 4).getD i 0))) (M1 := mk tl I L (up2 rd 39 4 (some 34))) rfl rfl rfl (c_chr4 tl I L (up2 rd 39 4 (some 34)) i (by omega)) ?_
    refine Runs.bl 10 (g := inb (((I 39 7) + (nI i)) - (nI a)) 600 && true) (i' := if decide (((xBy 4).getD i 0) = (I 34 ((((I 39 7) + (nI i)) - (nI a)).toNatClampNeg))) = true then 31 else 29) (ls' := [some (.ref 39), some (.ref (mx + 1 + 4)), some (.int (nI a)), some (.int (nI b)), some (.int (nI i))]) (st' := []) (M' := mk tl I L (up2 rd 39 4 (some 34))) rfl (by have q1 := (show ((I 39 7) + (nI i) - (nI a)).toInt = ((s + i - a : Nat) : Int) from by rw [hs7, nI_add, nI_sb (by omega) (by omega), nI_toInt (by omega)]); simp only [Bool.and_true, Bool.true_and, Bool.and_eq_true, inb_iff, Int32.lt_iff_toInt_lt, Int32.le_iff_toInt_le, toI_0, toI_1, toI_2, toI_3, toI_4, toI_5, toI_6, toI_7, toI_8, toI_9, toI_10, toI_12, toI_16, toI_18, toI_20, toI_21, toI_23, toI_24, toI_32, toI_36, toI_39, toI_40, toI_48, toI_50, toI_60, toI_64, toI_75, toI_80, toI_100, toI_144, toI_160, toI_200, toI_256, toI_320, toI_380, toI_576, toI_600, toI_1000, toI_1280, toI_2400, toI_9999, toI_10000, toI_100000, toI_1000000, toI_m1, toI_m100000, toI_s9, toI_s8] at q1 ⊢; omega) ?_
    refine Runs.brP (fun h1 => ?_) (fun h1 => ?_)
    · skip
      refine Runs.bl 2 (g := true) (i' := 13) (ls' := [some (.ref 39), some (.ref (mx + 1 + 4)), some (.int (nI a)), some (.int (nI b)), some (.int ((nI i) + 1))]) (st' := []) (M' := mk tl I L (up2 rd 39 4 (some 34))) rfl rfl ?_
      have h9 := h1
      rw [hs7, nI_add, nI_sb (by omega) (by omega), nI_clamp (by omega)] at h9
      rw [ipF, if_pos h9]
      exact Runs.cg (by rw [nI_1]) rfl (ih (i + 1) (by omega) (by omega))
    · skip
      refine Runs.bl 1 (g := true) (i' := 30) (ls' := [some (.ref 39), some (.ref (mx + 1 + 4)), some (.int (nI a)), some (.int (nI b)), some (.int (nI i))]) (st' := [.int (0 : Int32)]) (M' := mk tl I L (up2 rd 39 4 (some 34))) rfl rfl ?_
      exact Runs.rz rfl rfl (by decide) (by have h9 := h1; rw [hs7, nI_add, nI_sb (by omega) (by omega), nI_clamp (by omega)] at h9; rw [ipF, if_neg h9]) (rfl)

set_option maxRecDepth 20000 in
theorem c_isP4 (tl : List (Nat × Nat)) (I : Nat → Nat → Int32) (L : Nat → Nat → Int64) (rd : Nat → Nat → Option Nat) (a b s e : Nat) (hab : a ≤ b) (hb : b ≤ 44) (hse : s ≤ e) (he : e ≤ 600) (hs7 : I 39 7 = nI s) (he8 : I 39 8 = nI e) : Call 83 [.ref 39, .ref (mx + 1 + 4), .int (nI a), .int (nI b)] (mk tl I L (up2 rd 39 4 (some 34))) (some (.int (isP (fun i => (xBy 4).getD i 0) (I 34) s e a b))) (mk tl I L (up2 rd 39 4 (some 34))) := by
  show Runs 83 0 [some (.ref 39), some (.ref (mx + 1 + 4)), some (.int (nI a)), some (.int (nI b)), none] [] (mk tl I L (up2 rd 39 4 (some 34))) (some (.int (isP (fun i => (xBy 4).getD i 0) (I 34) s e a b))) (mk tl I L (up2 rd 39 4 (some 34)))
  refine Runs.bl 9 (g := true) (i' := if decide (((nI b) - (nI a)) = ((I 39 8) - (I 39 7))) = true then 11 else 9) (ls' := [some (.ref 39), some (.ref (mx + 1 + 4)), some (.int (nI a)), some (.int (nI b)), none]) (st' := []) (M' := mk tl I L (up2 rd 39 4 (some 34))) rfl rfl ?_
  refine Runs.brP (fun h1 => ?_) (fun h1 => ?_)
  · skip
    refine Runs.bl 2 (g := true) (i' := 13) (ls' := [some (.ref 39), some (.ref (mx + 1 + 4)), some (.int (nI a)), some (.int (nI b)), some (.int (nI a))]) (st' := []) (M' := mk tl I L (up2 rd 39 4 (some 34))) rfl rfl ?_
    have h9 := h1
    rw [he8, hs7, nI_sb hab (by omega), nI_sb hse (by omega)] at h9
    have h10 : b - a = e - s := by have h11 := congrArg Int32.toInt h9; rw [nI_toInt (by omega), nI_toInt (by omega)] at h11; omega
    rw [isP, if_pos h10]
    exact l_ip4 tl I L rd a b s hab hb (by omega) hs7 (b - a) a (by omega) (Nat.le_refl _)
  · skip
    refine Runs.bl 1 (g := true) (i' := 10) (ls' := [some (.ref 39), some (.ref (mx + 1 + 4)), some (.int (nI a)), some (.int (nI b)), none]) (st' := [.int (0 : Int32)]) (M' := mk tl I L (up2 rd 39 4 (some 34))) rfl rfl ?_
    exact Runs.rz rfl rfl (by decide) (by have h9 := h1; rw [he8, hs7, nI_sb hab (by omega), nI_sb hse (by omega)] at h9; rw [isP, if_neg (fun e9 => h9 (by rw [e9]))]) (rfl)

set_option maxRecDepth 20000 in
theorem l_ip5 (tl : List (Nat × Nat)) (I : Nat → Nat → Int32) (L : Nat → Nat → Int64) (rd : Nat → Nat → Option Nat) (a b s : Nat) (hab : a ≤ b) (hb : b ≤ 6) (hs : s + (b - a) ≤ 600) (hs7 : I 39 7 = nI s) : ∀ f i, i + f = b → a ≤ i → Runs 83 13 [some (.ref 39), some (.ref (mx + 1 + 5)), some (.int (nI a)), some (.int (nI b)), some (.int (nI i))] [] (mk tl I L (up2 rd 39 4 (some 34))) (some (.int (ipF (fun i => (xBy 5).getD i 0) (I 34) s a f i))) (mk tl I L (up2 rd 39 4 (some 34))) := by
  intro f
  induction f with
  | zero =>
    intro i hi ha
    obtain rfl : i = b := hi
    refine Runs.bl 3 (g := true) (i' := if decide ((nI i) ≤ (nI i)) = true then 33 else 16) (ls' := [some (.ref 39), some (.ref (mx + 1 + 5)), some (.int (nI a)), some (.int (nI i)), some (.int (nI i))]) (st' := []) (M' := mk tl I L (up2 rd 39 4 (some 34))) rfl rfl ?_
    refine Runs.brT (nI_le (Nat.le_refl _) (by omega)) ?_
    refine Runs.bl 1 (g := true) (i' := 34) (ls' := [some (.ref 39), some (.ref (mx + 1 + 5)), some (.int (nI a)), some (.int (nI i)), some (.int (nI i))]) (st' := [.int (1 : Int32)]) (M' := mk tl I L (up2 rd 39 4 (some 34))) rfl rfl ?_
    exact Runs.rz rfl rfl (by decide) (rfl) (rfl)
  | succ f ih =>
    intro i hi ha
    refine Runs.bl 3 (g := true) (i' := if decide ((nI b) ≤ (nI i)) = true then 33 else 16) (ls' := [some (.ref 39), some (.ref (mx + 1 + 5)), some (.int (nI a)), some (.int (nI b)), some (.int (nI i))]) (st' := []) (M' := mk tl I L (up2 rd 39 4 (some 34))) rfl rfl ?_
    refine Runs.brF (nI_ge (by omega) (by omega)) ?_
    refine Runs.bl 2 (g := true) (i' := 18) (ls' := [some (.ref 39), some (.ref (mx + 1 + 5)), some (.int (nI a)), some (.int (nI b)), some (.int (nI i))]) (st' := [.int (nI i), .ref (mx + 1 + 5)]) (M' := mk tl I L (up2 rd 39 4 (some 34))) rfl rfl ?_
    refine Runs.call (k' := 238) (as := [.ref (mx + 1 + 5), .int (nI i)]) (rest := []) (r1 := some (.int ((xBy 5).getD i 0))) (M1 := mk tl I L (up2 rd 39 4 (some 34))) rfl rfl rfl (c_chr5 tl I L (up2 rd 39 4 (some 34)) i (by omega)) ?_
    refine Runs.bl 10 (g := inb (((I 39 7) + (nI i)) - (nI a)) 600 && true) (i' := if decide (((xBy 5).getD i 0) = (I 34 ((((I 39 7) + (nI i)) - (nI a)).toNatClampNeg))) = true then 31 else 29) (ls' := [some (.ref 39), some (.ref (mx + 1 + 5)), some (.int (nI a)), some (.int (nI b)), some (.int (nI i))]) (st' := []) (M' := mk tl I L (up2 rd 39 4 (some 34))) rfl (by have q1 := (show ((I 39 7) + (nI i) - (nI a)).toInt = ((s + i - a : Nat) : Int) from by rw [hs7, nI_add, nI_sb (by omega) (by omega), nI_toInt (by omega)]); simp only [Bool.and_true, Bool.true_and, Bool.and_eq_true, inb_iff, Int32.lt_iff_toInt_lt, Int32.le_iff_toInt_le, toI_0, toI_1, toI_2, toI_3, toI_4, toI_5, toI_6, toI_7, toI_8, toI_9, toI_10, toI_12, toI_16, toI_18, toI_20, toI_21, toI_23, toI_24, toI_32, toI_36, toI_39, toI_40, toI_48, toI_50, toI_60, toI_64, toI_75, toI_80, toI_100, toI_144, toI_160, toI_200, toI_256, toI_320, toI_380, toI_576, toI_600, toI_1000, toI_1280, toI_2400, toI_9999, toI_10000, toI_100000, toI_1000000, toI_m1, toI_m100000, toI_s9, toI_s8] at q1 ⊢; omega) ?_
    refine Runs.brP (fun h1 => ?_) (fun h1 => ?_)
    · skip
      refine Runs.bl 2 (g := true) (i' := 13) (ls' := [some (.ref 39), some (.ref (mx + 1 + 5)), some (.int (nI a)), some (.int (nI b)), some (.int ((nI i) + 1))]) (st' := []) (M' := mk tl I L (up2 rd 39 4 (some 34))) rfl rfl ?_
      have h9 := h1
      rw [hs7, nI_add, nI_sb (by omega) (by omega), nI_clamp (by omega)] at h9
      rw [ipF, if_pos h9]
      exact Runs.cg (by rw [nI_1]) rfl (ih (i + 1) (by omega) (by omega))
    · skip
      refine Runs.bl 1 (g := true) (i' := 30) (ls' := [some (.ref 39), some (.ref (mx + 1 + 5)), some (.int (nI a)), some (.int (nI b)), some (.int (nI i))]) (st' := [.int (0 : Int32)]) (M' := mk tl I L (up2 rd 39 4 (some 34))) rfl rfl ?_
      exact Runs.rz rfl rfl (by decide) (by have h9 := h1; rw [hs7, nI_add, nI_sb (by omega) (by omega), nI_clamp (by omega)] at h9; rw [ipF, if_neg h9]) (rfl)

set_option maxRecDepth 20000 in
theorem c_isP5 (tl : List (Nat × Nat)) (I : Nat → Nat → Int32) (L : Nat → Nat → Int64) (rd : Nat → Nat → Option Nat) (a b s e : Nat) (hab : a ≤ b) (hb : b ≤ 6) (hse : s ≤ e) (he : e ≤ 600) (hs7 : I 39 7 = nI s) (he8 : I 39 8 = nI e) : Call 83 [.ref 39, .ref (mx + 1 + 5), .int (nI a), .int (nI b)] (mk tl I L (up2 rd 39 4 (some 34))) (some (.int (isP (fun i => (xBy 5).getD i 0) (I 34) s e a b))) (mk tl I L (up2 rd 39 4 (some 34))) := by
  show Runs 83 0 [some (.ref 39), some (.ref (mx + 1 + 5)), some (.int (nI a)), some (.int (nI b)), none] [] (mk tl I L (up2 rd 39 4 (some 34))) (some (.int (isP (fun i => (xBy 5).getD i 0) (I 34) s e a b))) (mk tl I L (up2 rd 39 4 (some 34)))
  refine Runs.bl 9 (g := true) (i' := if decide (((nI b) - (nI a)) = ((I 39 8) - (I 39 7))) = true then 11 else 9) (ls' := [some (.ref 39), some (.ref (mx + 1 + 5)), some (.int (nI a)), some (.int (nI b)), none]) (st' := []) (M' := mk tl I L (up2 rd 39 4 (some 34))) rfl rfl ?_
  refine Runs.brP (fun h1 => ?_) (fun h1 => ?_)
  · skip
    refine Runs.bl 2 (g := true) (i' := 13) (ls' := [some (.ref 39), some (.ref (mx + 1 + 5)), some (.int (nI a)), some (.int (nI b)), some (.int (nI a))]) (st' := []) (M' := mk tl I L (up2 rd 39 4 (some 34))) rfl rfl ?_
    have h9 := h1
    rw [he8, hs7, nI_sb hab (by omega), nI_sb hse (by omega)] at h9
    have h10 : b - a = e - s := by have h11 := congrArg Int32.toInt h9; rw [nI_toInt (by omega), nI_toInt (by omega)] at h11; omega
    rw [isP, if_pos h10]
    exact l_ip5 tl I L rd a b s hab hb (by omega) hs7 (b - a) a (by omega) (Nat.le_refl _)
  · skip
    refine Runs.bl 1 (g := true) (i' := 10) (ls' := [some (.ref 39), some (.ref (mx + 1 + 5)), some (.int (nI a)), some (.int (nI b)), none]) (st' := [.int (0 : Int32)]) (M' := mk tl I L (up2 rd 39 4 (some 34))) rfl rfl ?_
    exact Runs.rz rfl rfl (by decide) (by have h9 := h1; rw [he8, hs7, nI_sb hab (by omega), nI_sb hse (by omega)] at h9; rw [isP, if_neg (fun e9 => h9 (by rw [e9]))]) (rfl)

