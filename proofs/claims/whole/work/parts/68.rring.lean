/-! THE REFERENCE: rings by trails (printed by p68.py) -/
theorem okr {x : Int32} {m : Nat} (hb : m ≤ 40) (h : ∃ a, a < m ∧ x = nI a) : 0 ≤ x.toInt ∧ x.toInt < 40 := by
  obtain ⟨a, ha, rfl⟩ := h
  rw [nI_toInt (by omega)]
  omega
theorem nI_p1 {n : Nat} (h : 1 ≤ n) : nI n - 1 = nI (n - 1) := by
  obtain ⟨j, rfl⟩ : ∃ j, n = j + 1 := ⟨n - 1, by omega⟩
  exact nI_pred j

def go_sr (I : Nat → Nat → Int32) (L : Nat → Nat → Int64) (d : Nat) : Nat → Nat → Int32
  | 0, j => (1 : Int32)
  | f + 1, j =>
  if ¬ (I 87 ((I 114 ((nI j).toNatClampNeg)).toNatClampNeg)) = (I 87 ((nI d).toNatClampNeg)) then (go_sr I L d f (j + 1)) else
  (0 : Int32)

set_option maxRecDepth 20000 in
theorem l_go (tl : List (Nat × Nat)) (I : Nat → Nat → Int32) (L : Nat → Nat → Int64) (rd : Nat → Nat → Option Nat) (d : Nat) (b : Int32) (m M : Nat) (hn : m ≤ 12) (hM : M ≤ 40) (hd : d < M) (ht : ∀ k, k < m → ∃ a, a < M ∧ I 114 k = nI a) : ∀ f j, j + f = m → Runs 171 26 [some (.ref 61), some (.int (nI m)), some (.int (nI d)), some (.int b), some (.int (nI j))] [] (mk tl I L rd) (some (.int (go_sr I L d f j))) (mk tl I L rd) := by
  intro f
  induction f with
  | zero =>
    intro j hj
    obtain rfl : j = m := hj
    refine Runs.bl 3 (g := true) (i' := if decide ((nI j) ≤ (nI j)) = true then 45 else 29) (ls' := [some (.ref 61), some (.int (nI j)), some (.int (nI d)), some (.int b), some (.int (nI j))]) (st' := []) (M' := mk tl I L rd) rfl rfl ?_
    refine Runs.brT (nI_le (Nat.le_refl _) (by omega)) ?_
    refine Runs.bl 1 (g := true) (i' := 46) (ls' := [some (.ref 61), some (.int (nI j)), some (.int (nI d)), some (.int b), some (.int (nI j))]) (st' := [.int (1 : Int32)]) (M' := mk tl I L rd) rfl rfl ?_
    exact Runs.rz rfl rfl (by decide) (by rw [go_sr] <;> rfl) (rfl)
  | succ f ih =>
    intro j hj
    refine Runs.bl 3 (g := true) (i' := if decide ((nI m) ≤ (nI j)) = true then 45 else 29) (ls' := [some (.ref 61), some (.int (nI m)), some (.int (nI d)), some (.int b), some (.int (nI j))]) (st' := []) (M' := mk tl I L rd) rfl rfl ?_
    refine Runs.brF (nI_ge (by omega) (by omega)) ?_
    refine Runs.bl 12 (g := inb (nI j) 12 && (inb (I 114 ((nI j).toNatClampNeg)) 160 && (inb (nI d) 160 && true))) (i' := if decide (¬ (I 87 ((I 114 ((nI j).toNatClampNeg)).toNatClampNeg)) = (I 87 ((nI d).toNatClampNeg))) = true then 43 else 41) (ls' := [some (.ref 61), some (.int (nI m)), some (.int (nI d)), some (.int b), some (.int (nI j))]) (st' := []) (M' := mk tl I L rd) rfl (by have q1 := nI_toInt (n := j) (by omega); have q2 := nI_toInt (n := d) (by omega); have q3 := (show 0 ≤ (I 114 (nI j).toNatClampNeg).toInt ∧ (I 114 (nI j).toNatClampNeg).toInt < 40 from by rw [nI_clamp (by omega)]; exact okr hM (ht j (by omega))); simp only [Bool.and_true, Bool.true_and, Bool.and_eq_true, inb_iff, Int32.lt_iff_toInt_lt, Int32.le_iff_toInt_le, toI_0, toI_1, toI_2, toI_3, toI_4, toI_5, toI_6, toI_7, toI_8, toI_9, toI_10, toI_12, toI_16, toI_18, toI_20, toI_21, toI_23, toI_24, toI_32, toI_36, toI_39, toI_40, toI_48, toI_50, toI_60, toI_64, toI_75, toI_80, toI_100, toI_144, toI_160, toI_200, toI_256, toI_320, toI_380, toI_576, toI_600, toI_1000, toI_1280, toI_2400, toI_9999, toI_10000, toI_100000, toI_1000000, toI_m1, toI_m100000, toI_s9, toI_s8] at hn hM hd ht q1 q2 q3 ⊢; omega) ?_
    refine Runs.brP (fun h1 => ?_) (fun h1 => ?_)
    · skip
      refine Runs.bl 2 (g := true) (i' := 26) (ls' := [some (.ref 61), some (.int (nI m)), some (.int (nI d)), some (.int b), some (.int ((nI j) + 1))]) (st' := []) (M' := mk tl I L rd) rfl rfl ?_
      rw [show go_sr I L d (f + 1) j = go_sr I L d f (j + 1) from by rw [go_sr, if_pos h1]]
      exact Runs.cg (by rw [nI_1]) rfl (ih (j + 1) (by omega))
    · skip
      refine Runs.bl 1 (g := true) (i' := 42) (ls' := [some (.ref 61), some (.int (nI m)), some (.int (nI d)), some (.int b), some (.int (nI j))]) (st' := [.int (0 : Int32)]) (M' := mk tl I L rd) rfl rfl ?_
      exact Runs.rz rfl rfl (by decide) (by rw [go_sr, if_neg h1] <;> rfl) (rfl)

def goR (I : Nat → Nat → Int32) (L : Nat → Nat → Int64) (n d b : Nat) : Int32 := if ¬ I 94 d = 0 then 0 else if nI d < nI b then 0 else if I 87 d = I 88 (I 114 (n - 1)).toNatClampNeg then go_sr I L d n 0 else 0

set_option maxRecDepth 20000 in
theorem c_goR (tl : List (Nat × Nat)) (I : Nat → Nat → Int32) (L : Nat → Nat → Int64) (rd : Nat → Nat → Option Nat) (n d b m : Nat) (hb : m ≤ 40) (hn : n ≤ 12) (hn1 : 1 ≤ n) (hd : d < m) (ht : ∀ k, k < n → ∃ a, a < m ∧ I 114 k = nI a) : Call 171 [.ref 61, .int (nI n), .int (nI d), .int (nI b)] (mk tl I L rd) (some (.int (goR I L n d b))) (mk tl I L rd) := by
  show Runs 171 0 [some (.ref 61), some (.int (nI n)), some (.int (nI d)), some (.int (nI b)), none] [] (mk tl I L rd) (some (.int (goR I L n d b))) (mk tl I L rd)
  refine Runs.bl 5 (g := inb (nI d) 160 && true) (i' := if decide (¬ (I 94 ((nI d).toNatClampNeg)) = 0) = true then 22 else 5) (ls' := [some (.ref 61), some (.int (nI n)), some (.int (nI d)), some (.int (nI b)), none]) (st' := []) (M' := mk tl I L rd) rfl (by have q1 := nI_toInt (n := d) (by omega); have q2 := nI_toInt (n := n) (by omega); have q3 := nI_m1 (n := n) (by omega); have q4 := (show 0 ≤ (I 114 (nI n - 1).toNatClampNeg).toInt ∧ (I 114 (nI n - 1).toNatClampNeg).toInt < 40 from by rw [nI_p1 hn1, nI_clamp (by omega)]; exact okr hb (ht (n - 1) (by omega))); simp only [Bool.and_true, Bool.true_and, Bool.and_eq_true, inb_iff, Int32.lt_iff_toInt_lt, Int32.le_iff_toInt_le, toI_0, toI_1, toI_2, toI_3, toI_4, toI_5, toI_6, toI_7, toI_8, toI_9, toI_10, toI_12, toI_16, toI_18, toI_20, toI_21, toI_23, toI_24, toI_32, toI_36, toI_39, toI_40, toI_48, toI_50, toI_60, toI_64, toI_75, toI_80, toI_100, toI_144, toI_160, toI_200, toI_256, toI_320, toI_380, toI_576, toI_600, toI_1000, toI_1280, toI_2400, toI_9999, toI_10000, toI_100000, toI_1000000, toI_m1, toI_m100000, toI_s9, toI_s8] at hb hn hn1 hd ht q1 q2 q3 q4 ⊢; omega) ?_
  refine Runs.brP (fun h1 => ?_) (fun h1 => ?_)
  · skip
    refine Runs.bl 1 (g := true) (i' := 23) (ls' := [some (.ref 61), some (.int (nI n)), some (.int (nI d)), some (.int (nI b)), none]) (st' := [.int (0 : Int32)]) (M' := mk tl I L rd) rfl rfl ?_
    exact Runs.rz rfl rfl (by decide) (by rw [goR]; simp only [nI_clamp (show d < 2 ^ 31 from by omega), nI_p1 hn1, nI_clamp (show n - 1 < 2 ^ 31 from by omega)] at h1; simp only [h1, not_true_eq_false, not_false_eq_true, if_true, if_false, ite_self]) (rfl)
  · skip
    refine Runs.bl 3 (g := true) (i' := if decide ((nI d) < (nI b)) = true then 22 else 8) (ls' := [some (.ref 61), some (.int (nI n)), some (.int (nI d)), some (.int (nI b)), none]) (st' := []) (M' := mk tl I L rd) rfl rfl ?_
    refine Runs.brP (fun h2 => ?_) (fun h2 => ?_)
    · skip
      refine Runs.bl 1 (g := true) (i' := 23) (ls' := [some (.ref 61), some (.int (nI n)), some (.int (nI d)), some (.int (nI b)), none]) (st' := [.int (0 : Int32)]) (M' := mk tl I L rd) rfl rfl ?_
      exact Runs.rz rfl rfl (by decide) (by rw [goR]; simp only [nI_clamp (show d < 2 ^ 31 from by omega), nI_p1 hn1, nI_clamp (show n - 1 < 2 ^ 31 from by omega)] at h1 h2; simp only [h1, h2, not_true_eq_false, not_false_eq_true, if_true, if_false, ite_self]) (rfl)
    · skip
      refine Runs.bl 14 (g := inb (nI d) 160 && (inb ((nI n) - (1 : Int32)) 12 && (inb (I 114 (((nI n) - (1 : Int32)).toNatClampNeg)) 160 && true))) (i' := if decide ((I 87 ((nI d).toNatClampNeg)) = (I 88 ((I 114 (((nI n) - (1 : Int32)).toNatClampNeg)).toNatClampNeg))) = true then 24 else 22) (ls' := [some (.ref 61), some (.int (nI n)), some (.int (nI d)), some (.int (nI b)), none]) (st' := []) (M' := mk tl I L rd) rfl (by have q1 := nI_toInt (n := d) (by omega); have q2 := nI_toInt (n := n) (by omega); have q3 := nI_m1 (n := n) (by omega); have q4 := (show 0 ≤ (I 114 (nI n - 1).toNatClampNeg).toInt ∧ (I 114 (nI n - 1).toNatClampNeg).toInt < 40 from by rw [nI_p1 hn1, nI_clamp (by omega)]; exact okr hb (ht (n - 1) (by omega))); simp only [Bool.and_true, Bool.true_and, Bool.and_eq_true, inb_iff, Int32.lt_iff_toInt_lt, Int32.le_iff_toInt_le, toI_0, toI_1, toI_2, toI_3, toI_4, toI_5, toI_6, toI_7, toI_8, toI_9, toI_10, toI_12, toI_16, toI_18, toI_20, toI_21, toI_23, toI_24, toI_32, toI_36, toI_39, toI_40, toI_48, toI_50, toI_60, toI_64, toI_75, toI_80, toI_100, toI_144, toI_160, toI_200, toI_256, toI_320, toI_380, toI_576, toI_600, toI_1000, toI_1280, toI_2400, toI_9999, toI_10000, toI_100000, toI_1000000, toI_m1, toI_m100000, toI_s9, toI_s8] at hb hn hn1 hd ht h1 h2 q1 q2 q3 q4 ⊢; omega) ?_
      refine Runs.brP (fun h3 => ?_) (fun h3 => ?_)
      · skip
        refine Runs.bl 2 (g := true) (i' := 26) (ls' := [some (.ref 61), some (.int (nI n)), some (.int (nI d)), some (.int (nI b)), some (.int (0 : Int32))]) (st' := []) (M' := mk tl I L rd) rfl rfl ?_
        rw [nI_clamp (show d < 2 ^ 31 from by omega)] at h1
        rw [nI_clamp (show d < 2 ^ 31 from by omega), nI_p1 hn1, nI_clamp (show n - 1 < 2 ^ 31 from by omega)] at h3
        rw [show goR I L n d b = go_sr I L d n 0 from by rw [goR, if_neg h1, if_neg h2, if_pos h3]]
        exact l_go tl I L rd d (nI b) n m hn hb hd ht n 0 (Nat.zero_add _)
      · skip
        refine Runs.bl 1 (g := true) (i' := 23) (ls' := [some (.ref 61), some (.int (nI n)), some (.int (nI d)), some (.int (nI b)), none]) (st' := [.int (0 : Int32)]) (M' := mk tl I L rd) rfl rfl ?_
        exact Runs.rz rfl rfl (by decide) (by rw [goR]; simp only [nI_clamp (show d < 2 ^ 31 from by omega), nI_p1 hn1, nI_clamp (show n - 1 < 2 ^ 31 from by omega)] at h1 h2 h3; simp only [h1, h2, h3, not_true_eq_false, not_false_eq_true, if_true, if_false, ite_self]) (rfl)

