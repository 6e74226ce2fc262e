/-! COPIES of a house (printed by p92.py) -/
def hsh : List (Nat × Nat) := [(13, 15), (16, 14), (0, 12), (0, 12), (0, 12), (0, 12), (0, 12), (0, 12), (0, 12), (0, 12), (0, 12), (0, 12), (0, 12), (0, 12), (0, 12), (11, 16), (0, 40), (0, 40), (0, 40), (0, 40), (0, 40), (0, 40), (0, 40), (0, 40), (0, 40), (0, 40), (0, 40), (0, 40), (0, 40), (0, 40), (0, 40), (5, 4), (0, 144), (2, 600), (0, 12)]
/-- a house at b: its cells b .. b + 34 and their references -/
def HL (tl : List (Nat × Nat)) (rd : Nat → Nat → Option Nat) (b : Nat) : Prop :=
  (∀ c, c < 35 → (Sst ++ tl)[b + c]? = hsh[c]?) ∧ (rst rd b 0 = some (b + 1) ∧ rst rd b 1 = some (b + 15) ∧ rst rd b 2 = some (b + 31) ∧ rst rd b 8 = some (b + 32) ∧ rst rd b 9 = some (b + 33) ∧ rst rd b 13 = some (b + 34)) ∧ (∀ k, 1 ≤ k → k ≤ 13 → rst rd (b + 1) k = some (b + 1 + k)) ∧ (∀ k, 1 ≤ k → k ≤ 15 → rst rd (b + 15) k = some (b + 15 + k)) ∧ b + 35 ≤ mx ∧ (∀ r : Nat → Nat → Option Nat, ∀ k, rst r (b + 31) k = r (b + 31) k)
def cpN (I : Nat → Nat → Int32) (a b n : Nat) : Nat → Nat → Int32 := up1 I a (va_cpy (I b) (I a) 0 0 n)
set_option maxRecDepth 20000 in
theorem c_cpN (tl : List (Nat × Nat)) (I : Nat → Nat → Int32) (L : Nat → Nat → Int64) (rd : Nat → Nat → Option Nat) (a b n : Nat) (ha : (Sst ++ tl)[a]? = some (0, n)) (hb : (Sst ++ tl)[b]? = some (0, n)) (hax : a < mx) (hbx : b < mx) (hn : n < 10000) : Call 149 [.ref b, .ref a] (mk tl I L rd) none (mk tl (cpN I a b n) L rd) := by
  show Runs 149 0 [some (.ref b), some (.ref a)] [] (mk tl I L rd) none _
  refine Runs.bl 5 (g := true) (i' := 5) (ls' := [some (.ref b), some (.ref a)]) (st' := [.ref b, .int 0, .ref a, .int 0, .ref b]) (M' := mk tl I L rd) rfl rfl ?_
  refine Runs.st rfl rfl rfl (s_al (t := 0) hbx hb (by omega)) ?_
  refine Runs.st rfl rfl rfl rfl ?_
  refine Runs.st rfl rfl rfl (s_al (t := 0) hax ha (by omega)) ?_
  refine Runs.st (i' := 9) (ls' := [some (.ref b), some (.ref a)]) (st' := [.int (nI n), .int 0, .ref a, .int 0, .ref b]) (M' := mk tl I L rd) rfl rfl rfl (by show some (true, 9, _, Value.int (if nI n < nI n then nI n else nI n) :: _, _) = _; rw [ite_self]) ?_
  refine Runs.st rfl rfl rfl (s_cpy (n1 := n) (n0 := n) ha hb (by rw [Int32.lt_iff_toInt_lt, nI_toInt (by omega), toI_0]; omega) (by rw [nI_clamp (by omega)]; exact Nat.le_refl _) (by rw [nI_clamp (by omega)]; exact Nat.le_refl _)) ?_
  refine Runs.rv rfl rfl ?_
  rw [nI_clamp (by omega)]
  rfl

def cpH (b b' : Nat) (l : List (Nat × Nat)) (I : Nat → Nat → Int32) : Nat → Nat → Int32 := l.foldl (fun K q => cpN K (b + q.1) (b' + q.1) q.2) I

def cpP_l : List (Nat × Nat) := [(2, 12), (3, 12), (4, 12), (5, 12), (6, 12), (7, 12), (8, 12), (9, 12), (10, 12), (11, 12), (12, 12), (13, 12), (14, 12)]
set_option maxRecDepth 20000 in
theorem c_cpP (tl : List (Nat × Nat)) (I : Nat → Nat → Int32) (L : Nat → Nat → Int64) (rd : Nat → Nat → Option Nat) (b b' : Nat) (hB : HL tl rd b) (hB' : HL tl rd b') : Call 54 [.ref (b + 1), .ref (b' + 1)] (mk tl I L rd) none (mk tl (cpH b b' cpP_l (up2 I (b + 1) 0 (I (b' + 1) 0))) L rd) := by
  have hX : (Sst ++ tl)[b + 1]? = some (16, 14) := hB.1 1 (by decide)
  have hY : (Sst ++ tl)[b' + 1]? = some (16, 14) := hB'.1 1 (by decide)
  have hbx := hB.2.2.2.2.1
  have hbx' := hB'.2.2.2.2.1
  show Runs 54 0 [some (.ref (b + 1)), some (.ref (b' + 1))] [] (mk tl I L rd) none _
  refine Runs.st rfl rfl rfl rfl ?_
  refine Runs.st rfl rfl rfl rfl ?_
  refine Runs.st rfl rfl rfl (dg_i (f := 0) (m := 14) rfl (by omega) hY rfl) ?_
  refine Runs.st rfl rfl rfl (pi_dyn (f := 0) (m := 14) rfl (by omega) hX rfl) ?_
  show Runs 54 4 _ _ (mk tl (up2 I (b + 1) 0 (I (b' + 1) 0)) L rd) _ _
  refine Runs.st rfl rfl rfl rfl ?_
  refine Runs.st rfl rfl rfl (dg_r (f := 1) (m := 14) (y := b' + 2) rfl (by omega) hY rfl (hB'.2.2.1 1 (by decide) (by decide))) ?_
  refine Runs.st rfl rfl rfl rfl ?_
  refine Runs.st rfl rfl rfl (dg_r (f := 1) (m := 14) (y := b + 2) rfl (by omega) hX rfl (hB.2.2.1 1 (by decide) (by decide))) ?_
  refine Runs.call (k' := 149) (as := [.ref (b' + 2), .ref (b + 2)]) (rest := []) (r1 := none) rfl rfl rfl (c_cpN tl _ L rd (b + 2) (b' + 2) 12 (hB.1 2 (by decide)) (hB'.1 2 (by decide)) (by omega) (by omega) (by decide)) ?_
  show Runs 54 9 _ [] _ _ _
  refine Runs.st rfl rfl rfl rfl ?_
  refine Runs.st rfl rfl rfl (dg_r (f := 2) (m := 14) (y := b' + 3) rfl (by omega) hY rfl (hB'.2.2.1 2 (by decide) (by decide))) ?_
  refine Runs.st rfl rfl rfl rfl ?_
  refine Runs.st rfl rfl rfl (dg_r (f := 2) (m := 14) (y := b + 3) rfl (by omega) hX rfl (hB.2.2.1 2 (by decide) (by decide))) ?_
  refine Runs.call (k' := 149) (as := [.ref (b' + 3), .ref (b + 3)]) (rest := []) (r1 := none) rfl rfl rfl (c_cpN tl _ L rd (b + 3) (b' + 3) 12 (hB.1 3 (by decide)) (hB'.1 3 (by decide)) (by omega) (by omega) (by decide)) ?_
  show Runs 54 14 _ [] _ _ _
  refine Runs.st rfl rfl rfl rfl ?_
  refine Runs.st rfl rfl rfl (dg_r (f := 3) (m := 14) (y := b' + 4) rfl (by omega) hY rfl (hB'.2.2.1 3 (by decide) (by decide))) ?_
  refine Runs.st rfl rfl rfl rfl ?_
  refine Runs.st rfl rfl rfl (dg_r (f := 3) (m := 14) (y := b + 4) rfl (by omega) hX rfl (hB.2.2.1 3 (by decide) (by decide))) ?_
  refine Runs.call (k' := 149) (as := [.ref (b' + 4), .ref (b + 4)]) (rest := []) (r1 := none) rfl rfl rfl (c_cpN tl _ L rd (b + 4) (b' + 4) 12 (hB.1 4 (by decide)) (hB'.1 4 (by decide)) (by omega) (by omega) (by decide)) ?_
  show Runs 54 19 _ [] _ _ _
  refine Runs.st rfl rfl rfl rfl ?_
  refine Runs.st rfl rfl rfl (dg_r (f := 4) (m := 14) (y := b' + 5) rfl (by omega) hY rfl (hB'.2.2.1 4 (by decide) (by decide))) ?_
  refine Runs.st rfl rfl rfl rfl ?_
  refine Runs.st rfl rfl rfl (dg_r (f := 4) (m := 14) (y := b + 5) rfl (by omega) hX rfl (hB.2.2.1 4 (by decide) (by decide))) ?_
  refine Runs.call (k' := 149) (as := [.ref (b' + 5), .ref (b + 5)]) (rest := []) (r1 := none) rfl rfl rfl (c_cpN tl _ L rd (b + 5) (b' + 5) 12 (hB.1 5 (by decide)) (hB'.1 5 (by decide)) (by omega) (by omega) (by decide)) ?_
  show Runs 54 24 _ [] _ _ _
  refine Runs.st rfl rfl rfl rfl ?_
  refine Runs.st rfl rfl rfl (dg_r (f := 5) (m := 14) (y := b' + 6) rfl (by omega) hY rfl (hB'.2.2.1 5 (by decide) (by decide))) ?_
  refine Runs.st rfl rfl rfl rfl ?_
  refine Runs.st rfl rfl rfl (dg_r (f := 5) (m := 14) (y := b + 6) rfl (by omega) hX rfl (hB.2.2.1 5 (by decide) (by decide))) ?_
  refine Runs.call (k' := 149) (as := [.ref (b' + 6), .ref (b + 6)]) (rest := []) (r1 := none) rfl rfl rfl (c_cpN tl _ L rd (b + 6) (b' + 6) 12 (hB.1 6 (by decide)) (hB'.1 6 (by decide)) (by omega) (by omega) (by decide)) ?_
  show Runs 54 29 _ [] _ _ _
  refine Runs.st rfl rfl rfl rfl ?_
  refine Runs.st rfl rfl rfl (dg_r (f := 6) (m := 14) (y := b' + 7) rfl (by omega) hY rfl (hB'.2.2.1 6 (by decide) (by decide))) ?_
  refine Runs.st rfl rfl rfl rfl ?_
  refine Runs.st rfl rfl rfl (dg_r (f := 6) (m := 14) (y := b + 7) rfl (by omega) hX rfl (hB.2.2.1 6 (by decide) (by decide))) ?_
  refine Runs.call (k' := 149) (as := [.ref (b' + 7), .ref (b + 7)]) (rest := []) (r1 := none) rfl rfl rfl (c_cpN tl _ L rd (b + 7) (b' + 7) 12 (hB.1 7 (by decide)) (hB'.1 7 (by decide)) (by omega) (by omega) (by decide)) ?_
  show Runs 54 34 _ [] _ _ _
  refine Runs.st rfl rfl rfl rfl ?_
  refine Runs.st rfl rfl rfl (dg_r (f := 7) (m := 14) (y := b' + 8) rfl (by omega) hY rfl (hB'.2.2.1 7 (by decide) (by decide))) ?_
  refine Runs.st rfl rfl rfl rfl ?_
  refine Runs.st rfl rfl rfl (dg_r (f := 7) (m := 14) (y := b + 8) rfl (by omega) hX rfl (hB.2.2.1 7 (by decide) (by decide))) ?_
  refine Runs.call (k' := 149) (as := [.ref (b' + 8), .ref (b + 8)]) (rest := []) (r1 := none) rfl rfl rfl (c_cpN tl _ L rd (b + 8) (b' + 8) 12 (hB.1 8 (by decide)) (hB'.1 8 (by decide)) (by omega) (by omega) (by decide)) ?_
  show Runs 54 39 _ [] _ _ _
  refine Runs.st rfl rfl rfl rfl ?_
  refine Runs.st rfl rfl rfl (dg_r (f := 8) (m := 14) (y := b' + 9) rfl (by omega) hY rfl (hB'.2.2.1 8 (by decide) (by decide))) ?_
  refine Runs.st rfl rfl rfl rfl ?_
  refine Runs.st rfl rfl rfl (dg_r (f := 8) (m := 14) (y := b + 9) rfl (by omega) hX rfl (hB.2.2.1 8 (by decide) (by decide))) ?_
  refine Runs.call (k' := 149) (as := [.ref (b' + 9), .ref (b + 9)]) (rest := []) (r1 := none) rfl rfl rfl (c_cpN tl _ L rd (b + 9) (b' + 9) 12 (hB.1 9 (by decide)) (hB'.1 9 (by decide)) (by omega) (by omega) (by decide)) ?_
  show Runs 54 44 _ [] _ _ _
  refine Runs.st rfl rfl rfl rfl ?_
  refine Runs.st rfl rfl rfl (dg_r (f := 9) (m := 14) (y := b' + 10) rfl (by omega) hY rfl (hB'.2.2.1 9 (by decide) (by decide))) ?_
  refine Runs.st rfl rfl rfl rfl ?_
  refine Runs.st rfl rfl rfl (dg_r (f := 9) (m := 14) (y := b + 10) rfl (by omega) hX rfl (hB.2.2.1 9 (by decide) (by decide))) ?_
  refine Runs.call (k' := 149) (as := [.ref (b' + 10), .ref (b + 10)]) (rest := []) (r1 := none) rfl rfl rfl (c_cpN tl _ L rd (b + 10) (b' + 10) 12 (hB.1 10 (by decide)) (hB'.1 10 (by decide)) (by omega) (by omega) (by decide)) ?_
  show Runs 54 49 _ [] _ _ _
  refine Runs.st rfl rfl rfl rfl ?_
  refine Runs.st rfl rfl rfl (dg_r (f := 10) (m := 14) (y := b' + 11) rfl (by omega) hY rfl (hB'.2.2.1 10 (by decide) (by decide))) ?_
  refine Runs.st rfl rfl rfl rfl ?_
  refine Runs.st rfl rfl rfl (dg_r (f := 10) (m := 14) (y := b + 11) rfl (by omega) hX rfl (hB.2.2.1 10 (by decide) (by decide))) ?_
  refine Runs.call (k' := 149) (as := [.ref (b' + 11), .ref (b + 11)]) (rest := []) (r1 := none) rfl rfl rfl (c_cpN tl _ L rd (b + 11) (b' + 11) 12 (hB.1 11 (by decide)) (hB'.1 11 (by decide)) (by omega) (by omega) (by decide)) ?_
  show Runs 54 54 _ [] _ _ _
  refine Runs.st rfl rfl rfl rfl ?_
  refine Runs.st rfl rfl rfl (dg_r (f := 11) (m := 14) (y := b' + 12) rfl (by omega) hY rfl (hB'.2.2.1 11 (by decide) (by decide))) ?_
  refine Runs.st rfl rfl rfl rfl ?_
  refine Runs.st rfl rfl rfl (dg_r (f := 11) (m := 14) (y := b + 12) rfl (by omega) hX rfl (hB.2.2.1 11 (by decide) (by decide))) ?_
  refine Runs.call (k' := 149) (as := [.ref (b' + 12), .ref (b + 12)]) (rest := []) (r1 := none) rfl rfl rfl (c_cpN tl _ L rd (b + 12) (b' + 12) 12 (hB.1 12 (by decide)) (hB'.1 12 (by decide)) (by omega) (by omega) (by decide)) ?_
  show Runs 54 59 _ [] _ _ _
  refine Runs.st rfl rfl rfl rfl ?_
  refine Runs.st rfl rfl rfl (dg_r (f := 12) (m := 14) (y := b' + 13) rfl (by omega) hY rfl (hB'.2.2.1 12 (by decide) (by decide))) ?_
  refine Runs.st rfl rfl rfl rfl ?_
  refine Runs.st rfl rfl rfl (dg_r (f := 12) (m := 14) (y := b + 13) rfl (by omega) hX rfl (hB.2.2.1 12 (by decide) (by decide))) ?_
  refine Runs.call (k' := 149) (as := [.ref (b' + 13), .ref (b + 13)]) (rest := []) (r1 := none) rfl rfl rfl (c_cpN tl _ L rd (b + 13) (b' + 13) 12 (hB.1 13 (by decide)) (hB'.1 13 (by decide)) (by omega) (by omega) (by decide)) ?_
  show Runs 54 64 _ [] _ _ _
  refine Runs.st rfl rfl rfl rfl ?_
  refine Runs.st rfl rfl rfl (dg_r (f := 13) (m := 14) (y := b' + 14) rfl (by omega) hY rfl (hB'.2.2.1 13 (by decide) (by decide))) ?_
  refine Runs.st rfl rfl rfl rfl ?_
  refine Runs.st rfl rfl rfl (dg_r (f := 13) (m := 14) (y := b + 14) rfl (by omega) hX rfl (hB.2.2.1 13 (by decide) (by decide))) ?_
  refine Runs.call (k' := 149) (as := [.ref (b' + 14), .ref (b + 14)]) (rest := []) (r1 := none) rfl rfl rfl (c_cpN tl _ L rd (b + 14) (b' + 14) 12 (hB.1 14 (by decide)) (hB'.1 14 (by decide)) (by omega) (by omega) (by decide)) ?_
  show Runs 54 69 _ [] _ _ _
  exact Runs.rv rfl rfl rfl

def cpB_l : List (Nat × Nat) := [(16, 40), (17, 40), (18, 40), (19, 40), (20, 40), (21, 40), (22, 40), (23, 40), (24, 40), (25, 40), (26, 40), (27, 40), (28, 40), (29, 40), (30, 40)]
set_option maxRecDepth 20000 in
theorem c_cpB (tl : List (Nat × Nat)) (I : Nat → Nat → Int32) (L : Nat → Nat → Int64) (rd : Nat → Nat → Option Nat) (b b' : Nat) (hB : HL tl rd b) (hB' : HL tl rd b') : Call 5 [.ref (b + 15), .ref (b' + 15)] (mk tl I L rd) none (mk tl (cpH b b' cpB_l (up2 I (b + 15) 0 (I (b' + 15) 0))) L rd) := by
  have hX : (Sst ++ tl)[b + 15]? = some (11, 16) := hB.1 15 (by decide)
  have hY : (Sst ++ tl)[b' + 15]? = some (11, 16) := hB'.1 15 (by decide)
  have hbx := hB.2.2.2.2.1
  have hbx' := hB'.2.2.2.2.1
  show Runs 5 0 [some (.ref (b + 15)), some (.ref (b' + 15))] [] (mk tl I L rd) none _
  refine Runs.st rfl rfl rfl rfl ?_
  refine Runs.st rfl rfl rfl rfl ?_
  refine Runs.st rfl rfl rfl (dg_i (f := 0) (m := 16) rfl (by omega) hY rfl) ?_
  refine Runs.st rfl rfl rfl (pi_dyn (f := 0) (m := 16) rfl (by omega) hX rfl) ?_
  show Runs 5 4 _ _ (mk tl (up2 I (b + 15) 0 (I (b' + 15) 0)) L rd) _ _
  refine Runs.st rfl rfl rfl rfl ?_
  refine Runs.st rfl rfl rfl (dg_r (f := 1) (m := 16) (y := b' + 16) rfl (by omega) hY rfl (hB'.2.2.2.1 1 (by decide) (by decide))) ?_
  refine Runs.st rfl rfl rfl rfl ?_
  refine Runs.st rfl rfl rfl (dg_r (f := 1) (m := 16) (y := b + 16) rfl (by omega) hX rfl (hB.2.2.2.1 1 (by decide) (by decide))) ?_
  refine Runs.call (k' := 149) (as := [.ref (b' + 16), .ref (b + 16)]) (rest := []) (r1 := none) rfl rfl rfl (c_cpN tl _ L rd (b + 16) (b' + 16) 40 (hB.1 16 (by decide)) (hB'.1 16 (by decide)) (by omega) (by omega) (by decide)) ?_
  show Runs 5 9 _ [] _ _ _
  refine Runs.st rfl rfl rfl rfl ?_
  refine Runs.st rfl rfl rfl (dg_r (f := 2) (m := 16) (y := b' + 17) rfl (by omega) hY rfl (hB'.2.2.2.1 2 (by decide) (by decide))) ?_
  refine Runs.st rfl rfl rfl rfl ?_
  refine Runs.st rfl rfl rfl (dg_r (f := 2) (m := 16) (y := b + 17) rfl (by omega) hX rfl (hB.2.2.2.1 2 (by decide) (by decide))) ?_
  refine Runs.call (k' := 149) (as := [.ref (b' + 17), .ref (b + 17)]) (rest := []) (r1 := none) rfl rfl rfl (c_cpN tl _ L rd (b + 17) (b' + 17) 40 (hB.1 17 (by decide)) (hB'.1 17 (by decide)) (by omega) (by omega) (by decide)) ?_
  show Runs 5 14 _ [] _ _ _
  refine Runs.st rfl rfl rfl rfl ?_
  refine Runs.st rfl rfl rfl (dg_r (f := 3) (m := 16) (y := b' + 18) rfl (by omega) hY rfl (hB'.2.2.2.1 3 (by decide) (by decide))) ?_
  refine Runs.st rfl rfl rfl rfl ?_
  refine Runs.st rfl rfl rfl (dg_r (f := 3) (m := 16) (y := b + 18) rfl (by omega) hX rfl (hB.2.2.2.1 3 (by decide) (by decide))) ?_
  refine Runs.call (k' := 149) (as := [.ref (b' + 18), .ref (b + 18)]) (rest := []) (r1 := none) rfl rfl rfl (c_cpN tl _ L rd (b + 18) (b' + 18) 40 (hB.1 18 (by decide)) (hB'.1 18 (by decide)) (by omega) (by omega) (by decide)) ?_
  show Runs 5 19 _ [] _ _ _
  refine Runs.st rfl rfl rfl rfl ?_
  refine Runs.st rfl rfl rfl (dg_r (f := 4) (m := 16) (y := b' + 19) rfl (by omega) hY rfl (hB'.2.2.2.1 4 (by decide) (by decide))) ?_
  refine Runs.st rfl rfl rfl rfl ?_
  refine Runs.st rfl rfl rfl (dg_r (f := 4) (m := 16) (y := b + 19) rfl (by omega) hX rfl (hB.2.2.2.1 4 (by decide) (by decide))) ?_
  refine Runs.call (k' := 149) (as := [.ref (b' + 19), .ref (b + 19)]) (rest := []) (r1 := none) rfl rfl rfl (c_cpN tl _ L rd (b + 19) (b' + 19) 40 (hB.1 19 (by decide)) (hB'.1 19 (by decide)) (by omega) (by omega) (by decide)) ?_
  show Runs 5 24 _ [] _ _ _
  refine Runs.st rfl rfl rfl rfl ?_
  refine Runs.st rfl rfl rfl (dg_r (f := 5) (m := 16) (y := b' + 20) rfl (by omega) hY rfl (hB'.2.2.2.1 5 (by decide) (by decide))) ?_
  refine Runs.st rfl rfl rfl rfl ?_
  refine Runs.st rfl rfl rfl (dg_r (f := 5) (m := 16) (y := b + 20) rfl (by omega) hX rfl (hB.2.2.2.1 5 (by decide) (by decide))) ?_
  refine Runs.call (k' := 149) (as := [.ref (b' + 20), .ref (b + 20)]) (rest := []) (r1 := none) rfl rfl rfl (c_cpN tl _ L rd (b + 20) (b' + 20) 40 (hB.1 20 (by decide)) (hB'.1 20 (by decide)) (by omega) (by omega) (by decide)) ?_
  show Runs 5 29 _ [] _ _ _
  refine Runs.st rfl rfl rfl rfl ?_
  refine Runs.st rfl rfl rfl (dg_r (f := 6) (m := 16) (y := b' + 21) rfl (by omega) hY rfl (hB'.2.2.2.1 6 (by decide) (by decide))) ?_
  refine Runs.st rfl rfl rfl rfl ?_
  refine Runs.st rfl rfl rfl (dg_r (f := 6) (m := 16) (y := b + 21) rfl (by omega) hX rfl (hB.2.2.2.1 6 (by decide) (by decide))) ?_
  refine Runs.call (k' := 149) (as := [.ref (b' + 21), .ref (b + 21)]) (rest := []) (r1 := none) rfl rfl rfl (c_cpN tl _ L rd (b + 21) (b' + 21) 40 (hB.1 21 (by decide)) (hB'.1 21 (by decide)) (by omega) (by omega) (by decide)) ?_
  show Runs 5 34 _ [] _ _ _
  refine Runs.st rfl rfl rfl rfl ?_
  refine Runs.st rfl rfl rfl (dg_r (f := 7) (m := 16) (y := b' + 22) rfl (by omega) hY rfl (hB'.2.2.2.1 7 (by decide) (by decide))) ?_
  refine Runs.st rfl rfl rfl rfl ?_
  refine Runs.st rfl rfl rfl (dg_r (f := 7) (m := 16) (y := b + 22) rfl (by omega) hX rfl (hB.2.2.2.1 7 (by decide) (by decide))) ?_
  refine Runs.call (k' := 149) (as := [.ref (b' + 22), .ref (b + 22)]) (rest := []) (r1 := none) rfl rfl rfl (c_cpN tl _ L rd (b + 22) (b' + 22) 40 (hB.1 22 (by decide)) (hB'.1 22 (by decide)) (by omega) (by omega) (by decide)) ?_
  show Runs 5 39 _ [] _ _ _
  refine Runs.st rfl rfl rfl rfl ?_
  refine Runs.st rfl rfl rfl (dg_r (f := 8) (m := 16) (y := b' + 23) rfl (by omega) hY rfl (hB'.2.2.2.1 8 (by decide) (by decide))) ?_
  refine Runs.st rfl rfl rfl rfl ?_
  refine Runs.st rfl rfl rfl (dg_r (f := 8) (m := 16) (y := b + 23) rfl (by omega) hX rfl (hB.2.2.2.1 8 (by decide) (by decide))) ?_
  refine Runs.call (k' := 149) (as := [.ref (b' + 23), .ref (b + 23)]) (rest := []) (r1 := none) rfl rfl rfl (c_cpN tl _ L rd (b + 23) (b' + 23) 40 (hB.1 23 (by decide)) (hB'.1 23 (by decide)) (by omega) (by omega) (by decide)) ?_
  show Runs 5 44 _ [] _ _ _
  refine Runs.st rfl rfl rfl rfl ?_
  refine Runs.st rfl rfl rfl (dg_r (f := 9) (m := 16) (y := b' + 24) rfl (by omega) hY rfl (hB'.2.2.2.1 9 (by decide) (by decide))) ?_
  refine Runs.st rfl rfl rfl rfl ?_
  refine Runs.st rfl rfl rfl (dg_r (f := 9) (m := 16) (y := b + 24) rfl (by omega) hX rfl (hB.2.2.2.1 9 (by decide) (by decide))) ?_
  refine Runs.call (k' := 149) (as := [.ref (b' + 24), .ref (b + 24)]) (rest := []) (r1 := none) rfl rfl rfl (c_cpN tl _ L rd (b + 24) (b' + 24) 40 (hB.1 24 (by decide)) (hB'.1 24 (by decide)) (by omega) (by omega) (by decide)) ?_
  show Runs 5 49 _ [] _ _ _
  refine Runs.st rfl rfl rfl rfl ?_
  refine Runs.st rfl rfl rfl (dg_r (f := 10) (m := 16) (y := b' + 25) rfl (by omega) hY rfl (hB'.2.2.2.1 10 (by decide) (by decide))) ?_
  refine Runs.st rfl rfl rfl rfl ?_
  refine Runs.st rfl rfl rfl (dg_r (f := 10) (m := 16) (y := b + 25) rfl (by omega) hX rfl (hB.2.2.2.1 10 (by decide) (by decide))) ?_
  refine Runs.call (k' := 149) (as := [.ref (b' + 25), .ref (b + 25)]) (rest := []) (r1 := none) rfl rfl rfl (c_cpN tl _ L rd (b + 25) (b' + 25) 40 (hB.1 25 (by decide)) (hB'.1 25 (by decide)) (by omega) (by omega) (by decide)) ?_
  show Runs 5 54 _ [] _ _ _
  refine Runs.st rfl rfl rfl rfl ?_
  refine Runs.st rfl rfl rfl (dg_r (f := 11) (m := 16) (y := b' + 26) rfl (by omega) hY rfl (hB'.2.2.2.1 11 (by decide) (by decide))) ?_
  refine Runs.st rfl rfl rfl rfl ?_
  refine Runs.st rfl rfl rfl (dg_r (f := 11) (m := 16) (y := b + 26) rfl (by omega) hX rfl (hB.2.2.2.1 11 (by decide) (by decide))) ?_
  refine Runs.call (k' := 149) (as := [.ref (b' + 26), .ref (b + 26)]) (rest := []) (r1 := none) rfl rfl rfl (c_cpN tl _ L rd (b + 26) (b' + 26) 40 (hB.1 26 (by decide)) (hB'.1 26 (by decide)) (by omega) (by omega) (by decide)) ?_
  show Runs 5 59 _ [] _ _ _
  refine Runs.st rfl rfl rfl rfl ?_
  refine Runs.st rfl rfl rfl (dg_r (f := 12) (m := 16) (y := b' + 27) rfl (by omega) hY rfl (hB'.2.2.2.1 12 (by decide) (by decide))) ?_
  refine Runs.st rfl rfl rfl rfl ?_
  refine Runs.st rfl rfl rfl (dg_r (f := 12) (m := 16) (y := b + 27) rfl (by omega) hX rfl (hB.2.2.2.1 12 (by decide) (by decide))) ?_
  refine Runs.call (k' := 149) (as := [.ref (b' + 27), .ref (b + 27)]) (rest := []) (r1 := none) rfl rfl rfl (c_cpN tl _ L rd (b + 27) (b' + 27) 40 (hB.1 27 (by decide)) (hB'.1 27 (by decide)) (by omega) (by omega) (by decide)) ?_
  show Runs 5 64 _ [] _ _ _
  refine Runs.st rfl rfl rfl rfl ?_
  refine Runs.st rfl rfl rfl (dg_r (f := 13) (m := 16) (y := b' + 28) rfl (by omega) hY rfl (hB'.2.2.2.1 13 (by decide) (by decide))) ?_
  refine Runs.st rfl rfl rfl rfl ?_
  refine Runs.st rfl rfl rfl (dg_r (f := 13) (m := 16) (y := b + 28) rfl (by omega) hX rfl (hB.2.2.2.1 13 (by decide) (by decide))) ?_
  refine Runs.call (k' := 149) (as := [.ref (b' + 28), .ref (b + 28)]) (rest := []) (r1 := none) rfl rfl rfl (c_cpN tl _ L rd (b + 28) (b' + 28) 40 (hB.1 28 (by decide)) (hB'.1 28 (by decide)) (by omega) (by omega) (by decide)) ?_
  show Runs 5 69 _ [] _ _ _
  refine Runs.st rfl rfl rfl rfl ?_
  refine Runs.st rfl rfl rfl (dg_r (f := 14) (m := 16) (y := b' + 29) rfl (by omega) hY rfl (hB'.2.2.2.1 14 (by decide) (by decide))) ?_
  refine Runs.st rfl rfl rfl rfl ?_
  refine Runs.st rfl rfl rfl (dg_r (f := 14) (m := 16) (y := b + 29) rfl (by omega) hX rfl (hB.2.2.2.1 14 (by decide) (by decide))) ?_
  refine Runs.call (k' := 149) (as := [.ref (b' + 29), .ref (b + 29)]) (rest := []) (r1 := none) rfl rfl rfl (c_cpN tl _ L rd (b + 29) (b' + 29) 40 (hB.1 29 (by decide)) (hB'.1 29 (by decide)) (by omega) (by omega) (by decide)) ?_
  show Runs 5 74 _ [] _ _ _
  refine Runs.st rfl rfl rfl rfl ?_
  refine Runs.st rfl rfl rfl (dg_r (f := 15) (m := 16) (y := b' + 30) rfl (by omega) hY rfl (hB'.2.2.2.1 15 (by decide) (by decide))) ?_
  refine Runs.st rfl rfl rfl rfl ?_
  refine Runs.st rfl rfl rfl (dg_r (f := 15) (m := 16) (y := b + 30) rfl (by omega) hX rfl (hB.2.2.2.1 15 (by decide) (by decide))) ?_
  refine Runs.call (k' := 149) (as := [.ref (b' + 30), .ref (b + 30)]) (rest := []) (r1 := none) rfl rfl rfl (c_cpN tl _ L rd (b + 30) (b' + 30) 40 (hB.1 30 (by decide)) (hB'.1 30 (by decide)) (by omega) (by omega) (by decide)) ?_
  show Runs 5 79 _ [] _ _ _
  exact Runs.rv rfl rfl rfl

def rdC (rd : Nat → Nat → Option Nat) (b b' n : Nat) : Nat → Nat → Option Nat := fun x y => if x = b + 31 ∧ y < n then rst rd (b' + 31) y else rd x y
theorem rst_cg {r r' : Nat → Nat → Option Nat} {x k : Nat} (h : r x k = r' x k) : rst r x k = rst r' x k := by
  unfold rst; rw [h]
theorem rdC_0 (rd : Nat → Nat → Option Nat) (b b' : Nat) : rdC rd b b' 0 = rd := by
  funext x y; unfold rdC; rw [if_neg (by omega)]
theorem rdC_s (rd : Nat → Nat → Option Nat) (b b' n : Nat) : up2 (rdC rd b b' n) (b + 31) n (rst rd (b' + 31) n) = rdC rd b b' (n + 1) := by
  funext x y
  by_cases e : x = b + 31
  · subst e
    rw [wup2_at]
    unfold rdC
    by_cases e2 : y = n
    · rw [if_pos e2, if_pos (by omega), e2]
    · rw [if_neg e2]
      by_cases e3 : y < n
      · rw [if_pos ⟨rfl, e3⟩, if_pos (by omega)]
      · rw [if_neg (by omega), if_neg (by omega)]
  · rw [up2_ne e]; unfold rdC; rw [if_neg (by omega), if_neg (by omega)]
theorem rdC_ne (rd : Nat → Nat → Option Nat) {b b' n x : Nat} (k : Nat) (h : x ≠ b + 31) : rst (rdC rd b b' n) x k = rst rd x k := rst_cg (by unfold rdC; rw [if_neg (by omega)])
theorem HL.rdC {tl : List (Nat × Nat)} {rd : Nat → Nat → Option Nat} {b b' n c : Nat} (h : HL tl rd c) (h1 : c + 35 ≤ b ∨ b + 35 ≤ c ∨ b = c) : HL tl (rdC rd b b' n) c := by
  obtain ⟨e1, ⟨e2, e3, e4, e5, e6, e7⟩, e8, e9, e10, e11⟩ := h
  refine ⟨e1, ⟨?_, ?_, ?_, ?_, ?_, ?_⟩, fun k a1 a2 => ?_, fun k a1 a2 => ?_, e10, e11⟩
  · rw [rdC_ne _ _ (by omega)]; exact e2
  · rw [rdC_ne _ _ (by omega)]; exact e3
  · rw [rdC_ne _ _ (by omega)]; exact e4
  · rw [rdC_ne _ _ (by omega)]; exact e5
  · rw [rdC_ne _ _ (by omega)]; exact e6
  · rw [rdC_ne _ _ (by omega)]; exact e7
  · rw [rdC_ne _ _ (by omega)]; exact e8 k a1 a2
  · rw [rdC_ne _ _ (by omega)]; exact e9 k a1 a2
/-- the references of a row of ACTS -/
def RF (tl : List (Nat × Nat)) (rd : Nat → Nat → Option Nat) (b : Nat) : Prop := ∀ a, a < 4 → rst rd (b + 31) a = none ∨ ∃ x, rst rd (b + 31) a = some x ∧ x < mx ∧ (Sst ++ tl)[x]? = some (10, 4)
theorem aal5 {i : Nat} {ls : Lz} {st : List Value} {M : Mm} {a n : Nat} {j : Nat} (hs : M.1[a]? = some (5, n)) (hj : j < n) (hn : n < 10000) (hr : rok (M.2.2.2 a j) = true) : st2 .aaload i ls (.int (nI j) :: .ref a :: st) M = some (true, i + 1, ls, mrf (M.2.2.2 a j) :: st, M) := by
  have e3 : inb (nI j) n = true := inb_iff.mpr (by rw [nI_toInt (by omega)]; omega)
  simp only [st2, hs, nI_clamp (show j < 2 ^ 31 by omega), e3, hr, Bool.and_true]
theorem aas5 {i : Nat} {ls : Lz} {st : List Value} {M : Mm} {a n : Nat} {j : Nat} {v : Option Nat} (hs : M.1[a]? = some (5, n)) (hj : j < n) (hn : n < 10000) (hv : v = none ∨ ∃ x, v = some x ∧ x < mx ∧ M.1[x]? = some (10, 4)) : st2 .aastore i ls (mrf v :: .int (nI j) :: .ref a :: st) M = some (true, i + 1, ls, st, wR M a j v) := by
  have e3 : inb (nI j) n = true := inb_iff.mpr (by rw [nI_toInt (by omega)]; omega)
  rcases hv with rfl | ⟨x, rfl, -, h⟩
  · simp only [mrf, st2, hs, nI_clamp (show j < 2 ^ 31 by omega), e3]
  · simp only [mrf, st2, hs, h, nI_clamp (show j < 2 ^ 31 by omega), e3]
set_option maxRecDepth 20000 in
theorem l_acts (tl : List (Nat × Nat)) (I : Nat → Nat → Int32) (L : Nat → Nat → Int64) (rd : Nat → Nat → Option Nat) (b b' : Nat) (hB : HL tl rd b) (hB' : HL tl rd b') (hd : b + 35 ≤ b' ∨ b' + 35 ≤ b) (hF : RF tl rd b') (rr : Option Value) (Me : Mm) (hK : Runs 26 25 [some (.ref b), some (.ref b'), some (.int (nI 4))] [] (mk tl I L (rdC rd b b' 4)) rr Me) : ∀ j, j ≤ 4 → Runs 26 12 [some (.ref b), some (.ref b'), some (.int (nI j))] [] (mk tl I L (rdC rd b b' j)) rr Me := by
  have hbx := hB.2.2.2.2.1
  have hbx' := hB'.2.2.2.2.1
  have hX : (Sst ++ tl)[b + 0]? = some (13, 15) := hB.1 0 (by decide)
  have hY : (Sst ++ tl)[b' + 0]? = some (13, 15) := hB'.1 0 (by decide)
  refine loopU 4 (P := fun j => Runs 26 12 [some (.ref b), some (.ref b'), some (.int (nI j))] [] (mk tl I L (rdC rd b b' j)) rr Me) (fun j hj ih => ?_) ?_
  · show Runs 26 12 [some (.ref b), some (.ref b'), some (.int (nI j))] [] (mk tl I L (rdC rd b b' j)) rr Me
    refine Runs.bl 3 (g := true) (i' := if decide ((4 : Int32) ≤ nI j) = true then 25 else 15) (ls' := [some (.ref b), some (.ref b'), some (.int (nI j))]) (st' := []) (M' := mk tl I L (rdC rd b b' j)) rfl rfl ?_
    refine Runs.brF (show ¬ nI 4 ≤ nI j from nI_ge hj (by omega)) ?_
    refine Runs.st rfl rfl rfl rfl ?_
    refine Runs.st rfl rfl rfl (dg_r (f := 2) (m := 15) (y := b + 31) rfl (by omega) hX rfl ((hB.rdC (Or.inr (Or.inr rfl))).2.1.2.2.1)) ?_
    refine Runs.st rfl rfl rfl rfl ?_
    refine Runs.st rfl rfl rfl rfl ?_
    refine Runs.st rfl rfl rfl (dg_r (f := 2) (m := 15) (y := b' + 31) rfl (by omega) hY rfl ((hB'.rdC (by omega)).2.1.2.2.1)) ?_
    refine Runs.st rfl rfl rfl rfl ?_
    have e5 : (mk tl I L (rdC rd b b' j)).2.2.2 (b' + 31) j = rst rd (b' + 31) j := rdC_ne rd j (by omega)
    have hv := hF j hj
    refine Runs.st rfl rfl rfl (aal5 (n := 4) (hB'.1 31 (by decide)) hj (by decide) (by rw [e5]; rcases hv with h | ⟨x, h, hx, -⟩; (rw [h]; rfl); (rw [h]; exact decide_eq_true hx))) ?_
    rw [e5]
    refine Runs.st rfl rfl rfl (aas5 (n := 4) (hB.1 31 (by decide)) hj (by decide) hv) ?_
    rw [mk_wR (fun r => hB.2.2.2.2.2 r j), rdC_s]
    refine Runs.bl 2 (g := true) (i' := 12) (ls' := [some (.ref b), some (.ref b'), some (.int (nI j + 1))]) (st' := []) (M' := mk tl I L (rdC rd b b' (j + 1))) rfl rfl ?_
    rw [nI_1]
    exact ih
  · show Runs 26 12 [some (.ref b), some (.ref b'), some (.int (nI 4))] [] (mk tl I L (rdC rd b b' 4)) rr Me
    refine Runs.bl 3 (g := true) (i' := if decide ((4 : Int32) ≤ nI 4) = true then 25 else 15) (ls' := [some (.ref b), some (.ref b'), some (.int (nI 4))]) (st' := []) (M' := mk tl I L (rdC rd b b' 4)) rfl rfl ?_
    refine Runs.brT (show nI 4 ≤ nI 4 from nI_le (Nat.le_refl _) (by omega)) ?_
    exact hK
theorem s_cpb {i : Nat} {ls : Lz} {M : Mm} {a b : Nat} (ha : M.1[a]? = some (2, 600)) (hb : M.1[b]? = some (2, 600)) (hf : ∀ j, j < 600 → fits .byte (.int (M.2.1 b j)) = true) : st2 (.invokedynamic 2) i ls [.int 600, .int 0, .ref a, .int 0, .ref b] M = some (true, i + 1, ls, [], wA M a (va_cpy (M.2.1 b) (M.2.1 a) 0 0 600)) := by
  have e : ((List.range (600 : Int32).toNatClampNeg).all (fun i => fits .byte (.int (M.2.1 b ((0 : Int32).toNatClampNeg + i))))) = true := by
    rw [List.all_eq_true]
    intro j hj
    rw [List.mem_range] at hj
    rw [show (0 : Int32).toNatClampNeg + j = j from Nat.zero_add j]
    exact hf j hj
  simp only [st2, ha, hb, e]
  rfl

def h_1 (I : Nat → Nat → Int32) (b b' : Nat) : Nat → Nat → Int32 := cpH b b' cpP_l (up2 I (b + 1) 0 (I (b' + 1) 0))
def h_2 (I : Nat → Nat → Int32) (b b' : Nat) : Nat → Nat → Int32 := cpH b b' cpB_l (up2 (h_1 I b b') (b + 15) 0 (h_1 I b b' (b' + 15) 0))
def hF (f b b' : Nat) (J : Nat → Nat → Int32) : Nat → Nat → Int32 := up2 J b f (J b' f)
def h_3 (I : Nat → Nat → Int32) (b b' : Nat) : Nat → Nat → Int32 := hF 7 b b' (hF 6 b b' (hF 5 b b' (hF 4 b b' (hF 3 b b' (h_2 I b b')))))
def h_4 (I : Nat → Nat → Int32) (b b' : Nat) : Nat → Nat → Int32 := cpN (h_3 I b b') (b + 32) (b' + 32) 144
def h_5 (I : Nat → Nat → Int32) (b b' : Nat) : Nat → Nat → Int32 := cpN (h_4 I b b') (b + 33) (b' + 33) 600
def h_6 (I : Nat → Nat → Int32) (b b' : Nat) : Nat → Nat → Int32 := hF 12 b b' (hF 11 b b' (hF 10 b b' (h_5 I b b')))
def h_7 (I : Nat → Nat → Int32) (b b' : Nat) : Nat → Nat → Int32 := hF 14 b b' (cpN (h_6 I b b') (b + 34) (b' + 34) 12)

set_option maxRecDepth 20000 in
theorem c_cpHouse (tl : List (Nat × Nat)) (I : Nat → Nat → Int32) (L : Nat → Nat → Int64) (rd : Nat → Nat → Option Nat) (b b' : Nat) (hB : HL tl rd b) (hB' : HL tl rd b') (hd : b + 35 ≤ b' ∨ b' + 35 ≤ b) (hF : RF tl rd b') (hT : ∀ j, j < 600 → fits .byte (.int (h_4 I b b' (b' + 33) j)) = true) : Call 26 [.ref b, .ref b'] (mk tl I L rd) none (mk tl (h_7 I b b') L (rdC rd b b' 4)) := by
  have hbx := hB.2.2.2.2.1
  have hbx' := hB'.2.2.2.2.1
  have hX : (Sst ++ tl)[b + 0]? = some (13, 15) := hB.1 0 (by decide)
  have hY : (Sst ++ tl)[b' + 0]? = some (13, 15) := hB'.1 0 (by decide)
  show Runs 26 0 [some (.ref b), some (.ref b'), none] [] (mk tl I L rd) none _
  refine Runs.st rfl rfl rfl rfl ?_
  refine Runs.st rfl rfl rfl (dg_r (f := 0) (m := 15) (y := b + 1) rfl (by omega) hX rfl (hB.2.1.1)) ?_
  refine Runs.st rfl rfl rfl rfl ?_
  refine Runs.st rfl rfl rfl (dg_r (f := 0) (m := 15) (y := b' + 1) rfl (by omega) hY rfl (hB'.2.1.1)) ?_
  refine Runs.call (k' := 54) (as := [.ref (b + 1), .ref (b' + 1)]) (rest := []) (r1 := none) rfl rfl (cal2_v rfl rfl rfl (rcv_of (by omega) (hB.1 1 (by decide)) rfl)) (c_cpP tl I L rd b b' hB hB') ?_
  refine Runs.st rfl rfl rfl rfl ?_
  refine Runs.st rfl rfl rfl (dg_r (f := 1) (m := 15) (y := b + 15) rfl (by omega) hX rfl (hB.2.1.2.1)) ?_
  refine Runs.st rfl rfl rfl rfl ?_
  refine Runs.st rfl rfl rfl (dg_r (f := 1) (m := 15) (y := b' + 15) rfl (by omega) hY rfl (hB'.2.1.2.1)) ?_
  refine Runs.call (k' := 5) (as := [.ref (b + 15), .ref (b' + 15)]) (rest := []) (r1 := none) rfl rfl (cal2_v rfl rfl rfl (rcv_of (by omega) (hB.1 15 (by decide)) rfl)) (c_cpB tl _ L rd b b' hB hB') ?_
  refine Runs.bl 2 (g := true) (i' := 12) (ls' := [some (.ref b), some (.ref b'), some (.int (nI 0))]) (st' := []) (M' := mk tl (h_2 I b b') L rd) rfl rfl ?_
  refine Runs.cg (M := mk tl (h_2 I b b') L (rdC rd b b' 0)) rfl (by rw [rdC_0]) ?_
  refine l_acts tl (h_2 I b b') L rd b b' hB hB' hd hF _ _ ?_ 0 (Nat.zero_le _)
  refine Runs.st rfl rfl rfl rfl ?_
  refine Runs.st rfl rfl rfl rfl ?_
  refine Runs.st rfl rfl rfl (dg_i (f := 3) (m := 15) rfl (by omega) hY rfl) ?_
  refine Runs.st rfl rfl rfl (pi_dyn (f := 3) (m := 15) rfl (by omega) hX rfl) ?_
  refine Runs.st rfl rfl rfl rfl ?_
  refine Runs.st rfl rfl rfl rfl ?_
  refine Runs.st rfl rfl rfl (dg_i (f := 4) (m := 15) rfl (by omega) hY rfl) ?_
  refine Runs.st rfl rfl rfl (pi_dyn (f := 4) (m := 15) rfl (by omega) hX rfl) ?_
  refine Runs.st rfl rfl rfl rfl ?_
  refine Runs.st rfl rfl rfl rfl ?_
  refine Runs.st rfl rfl rfl (dg_i (f := 5) (m := 15) rfl (by omega) hY rfl) ?_
  refine Runs.st rfl rfl rfl (pi_dyn (f := 5) (m := 15) rfl (by omega) hX rfl) ?_
  refine Runs.st rfl rfl rfl rfl ?_
  refine Runs.st rfl rfl rfl rfl ?_
  refine Runs.st rfl rfl rfl (dg_i (f := 6) (m := 15) rfl (by omega) hY rfl) ?_
  refine Runs.st rfl rfl rfl (pi_dyn (f := 6) (m := 15) rfl (by omega) hX rfl) ?_
  refine Runs.st rfl rfl rfl rfl ?_
  refine Runs.st rfl rfl rfl rfl ?_
  refine Runs.st rfl rfl rfl (dg_i (f := 7) (m := 15) rfl (by omega) hY rfl) ?_
  refine Runs.st rfl rfl rfl (pi_dyn (f := 7) (m := 15) rfl (by omega) hX rfl) ?_
  show Runs 26 45 _ _ (mk tl (h_3 I b b') L (rdC rd b b' 4)) _ _
  refine Runs.st rfl rfl rfl rfl ?_
  refine Runs.st rfl rfl rfl (dg_r (f := 8) (m := 15) (y := b' + 32) rfl (by omega) hY rfl ((hB'.rdC (by omega)).2.1.2.2.2.1)) ?_
  refine Runs.st rfl rfl rfl rfl ?_
  refine Runs.st rfl rfl rfl (dg_r (f := 8) (m := 15) (y := b + 32) rfl (by omega) hX rfl ((hB.rdC (Or.inr (Or.inr rfl))).2.1.2.2.2.1)) ?_
  refine Runs.call (k' := 149) (as := [.ref (b' + 32), .ref (b + 32)]) (rest := []) (r1 := none) rfl rfl rfl (c_cpN tl _ L _ (b + 32) (b' + 32) 144 (hB.1 32 (by decide)) (hB'.1 32 (by decide)) (by omega) (by omega) (by decide)) ?_
  show Runs 26 50 _ _ (mk tl (h_4 I b b') L (rdC rd b b' 4)) _ _
  refine Runs.st rfl rfl rfl rfl ?_
  refine Runs.st rfl rfl rfl (dg_r (f := 9) (m := 15) (y := b' + 33) rfl (by omega) hY rfl ((hB'.rdC (by omega)).2.1.2.2.2.2.1)) ?_
  refine Runs.st rfl rfl rfl rfl ?_
  refine Runs.st rfl rfl rfl rfl ?_
  refine Runs.st rfl rfl rfl (dg_r (f := 9) (m := 15) (y := b + 33) rfl (by omega) hX rfl ((hB.rdC (Or.inr (Or.inr rfl))).2.1.2.2.2.2.1)) ?_
  refine Runs.st rfl rfl rfl rfl ?_
  refine Runs.st rfl rfl rfl rfl ?_
  refine Runs.st rfl rfl rfl (s_cpb (hB.1 33 (by decide)) (hB'.1 33 (by decide)) hT) ?_
  show Runs 26 58 _ _ (mk tl (h_5 I b b') L (rdC rd b b' 4)) _ _
  refine Runs.st rfl rfl rfl rfl ?_
  refine Runs.st rfl rfl rfl rfl ?_
  refine Runs.st rfl rfl rfl (dg_i (f := 10) (m := 15) rfl (by omega) hY rfl) ?_
  refine Runs.st rfl rfl rfl (pi_dyn (f := 10) (m := 15) rfl (by omega) hX rfl) ?_
  refine Runs.st rfl rfl rfl rfl ?_
  refine Runs.st rfl rfl rfl rfl ?_
  refine Runs.st rfl rfl rfl (dg_i (f := 11) (m := 15) rfl (by omega) hY rfl) ?_
  refine Runs.st rfl rfl rfl (pi_dyn (f := 11) (m := 15) rfl (by omega) hX rfl) ?_
  refine Runs.st rfl rfl rfl rfl ?_
  refine Runs.st rfl rfl rfl rfl ?_
  refine Runs.st rfl rfl rfl (dg_i (f := 12) (m := 15) rfl (by omega) hY rfl) ?_
  refine Runs.st rfl rfl rfl (pi_dyn (f := 12) (m := 15) rfl (by omega) hX rfl) ?_
  show Runs 26 70 _ _ (mk tl (h_6 I b b') L (rdC rd b b' 4)) _ _
  refine Runs.st rfl rfl rfl rfl ?_
  refine Runs.st rfl rfl rfl (dg_r (f := 13) (m := 15) (y := b' + 34) rfl (by omega) hY rfl ((hB'.rdC (by omega)).2.1.2.2.2.2.2)) ?_
  refine Runs.st rfl rfl rfl rfl ?_
  refine Runs.st rfl rfl rfl (dg_r (f := 13) (m := 15) (y := b + 34) rfl (by omega) hX rfl ((hB.rdC (Or.inr (Or.inr rfl))).2.1.2.2.2.2.2)) ?_
  refine Runs.call (k' := 149) (as := [.ref (b' + 34), .ref (b + 34)]) (rest := []) (r1 := none) rfl rfl rfl (c_cpN tl _ L _ (b + 34) (b' + 34) 12 (hB.1 34 (by decide)) (hB'.1 34 (by decide)) (by omega) (by omega) (by decide)) ?_
  refine Runs.st rfl rfl rfl rfl ?_
  refine Runs.st rfl rfl rfl rfl ?_
  refine Runs.st rfl rfl rfl (dg_i (f := 14) (m := 15) rfl (by omega) hY rfl) ?_
  refine Runs.st rfl rfl rfl (pi_dyn (f := 14) (m := 15) rfl (by omega) hX rfl) ?_
  exact Runs.rv rfl rfl rfl

