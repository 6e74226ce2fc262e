/-! THE REFERENCE: a ring of so many, by trails (printed by p68.py) -/
/-- the places from d on, at depth n; F: one deeper -/
def dfl (I : Nat → Nat → Int32) (L : Nat → Nat → Int64) (b : Nat) (F : (Nat → Int32) → Bool × (Nat → Int32)) (n : Nat) : Nat → Nat → (Nat → Int32) → Bool × (Nat → Int32)
  | 0, _, t => (false, t)
  | k + 1, d, t => if goR (up1 I 114 t) L n d b = 0 then dfl I L b F n k (d + 1) t else if (F (upr t n (nI d))).1 = true then F (upr t n (nI d)) else dfl I L b F n k (d + 1) (F (upr t n (nI d))).2
def dfs (I : Nat → Nat → Int32) (L : Nat → Nat → Int64) (b m : Nat) : Nat → Nat → (Nat → Int32) → Bool × (Nat → Int32)
  | 0, n, t => (decide (I 88 (t (n - 1)).toNatClampNeg = I 87 b), t)
  | r + 1, n, t => dfl I L b (dfs I L b m r (n + 1)) n (m - (b + 1)) (b + 1) t
theorem dfl_keep (I : Nat → Nat → Int32) (L : Nat → Nat → Int64) (b : Nat) {F : (Nat → Int32) → Bool × (Nat → Int32)} {n : Nat} (hF : ∀ t i, i < n + 1 → (F t).2 i = t i) : ∀ k d t i, i < n → (dfl I L b F n k d t).2 i = t i := by
  intro k
  induction k with
  | zero => intro d t i _; rfl
  | succ k ih =>
    intro d t i hi
    have e : (F (upr t n (nI d))).2 i = t i := by
      rw [hF _ i (by omega)]
      exact if_neg (by omega)
    rw [dfl]
    split
    · exact ih _ _ i hi
    · split
      · exact e
      · rw [ih _ _ i hi]; exact e
theorem dfs_keep (I : Nat → Nat → Int32) (L : Nat → Nat → Int64) (b m : Nat) : ∀ r n t i, i < n → (dfs I L b m r n t).2 i = t i := by
  intro r
  induction r with
  | zero => intro n t i _; rfl
  | succ r ih => intro n t i hi; rw [dfs]; exact dfl_keep I L b (fun t i hi => ih (n + 1) t i hi) _ _ _ i hi

theorem nI_cl1 {n : Nat} (h : 1 ≤ n) (h2 : n ≤ 12) : (nI n - 1).toNatClampNeg = n - 1 := by rw [nI_p1 h, nI_clamp (by omega)]
theorem okt {t t' : Nat → Int32} {n m : Nat} (ht : ∀ k, k < n → ∃ a, a < m ∧ t k = nI a) (hk : ∀ i, i < n → t' i = t i) : ∀ k, k < n → ∃ a, a < m ∧ t' k = nI a := fun k hk' => by rw [hk k hk']; exact ht k hk'

set_option maxRecDepth 20000 in
theorem fr_11 (tl : List (Nat × Nat)) (I : Nat → Nat → Int32) (L : Nat → Nat → Int64) (rd : Nat → Nat → Option Nat) (b mn n : Nat) (x : Int32) (t : Nat → Int32) (rr : Option Value) (Me : Mm) (hmn : mn ≤ 12) (hn1 : 1 ≤ n) (hn : n < mn) (h : Runs 172 34 [some (.ref 61), some (.int (nI b)), some (.int (nI mn)), some (.int (nI n)), some (.int x), some (.int x)] [] (mk tl (up1 I 114 t) L rd) rr Me) : ∀ o5 : Option Value, Runs 172 11 [some (.ref 61), some (.int (nI b)), some (.int (nI mn)), some (.int (nI n)), some (.int x), o5] [] (mk tl (up1 I 114 t) L rd) rr Me := by
  intro o5
  refine Runs.bl 2 (g := true) (i' := if decide ((nI n) ≤ 0) = true then 80 else 13) (ls' := [some (.ref 61), some (.int (nI b)), some (.int (nI mn)), some (.int (nI n)), some (.int x), o5]) (st' := []) (M' := mk tl (up1 I 114 t) L rd) rfl rfl ?_
  refine Runs.brF (by show ¬ nI n ≤ nI 0; exact nI_ge (by omega) (by omega)) ?_
  refine Runs.bl 3 (g := true) (i' := if decide (¬ (nI n) = (nI mn)) = true then 32 else 16) (ls' := [some (.ref 61), some (.int (nI b)), some (.int (nI mn)), some (.int (nI n)), some (.int x), o5]) (st' := []) (M' := mk tl (up1 I 114 t) L rd) rfl rfl ?_
  refine Runs.brT (by show ¬ nI n = nI mn; intro e; have e2 := congrArg Int32.toInt e; rw [nI_toInt (by omega), nI_toInt (by omega)] at e2; omega) ?_
  refine Runs.bl 2 (g := true) (i' := 34) (ls' := [some (.ref 61), some (.int (nI b)), some (.int (nI mn)), some (.int (nI n)), some (.int x), some (.int x)]) (st' := []) (M' := mk tl (up1 I 114 t) L rd) rfl rfl ?_
  exact h

theorem nI_m1' {n : Nat} (h : 1 ≤ n) : nI n + (-1) = nI (n - 1) := by
  obtain ⟨j, rfl⟩ : ∃ j, n = j + 1 := ⟨n - 1, by omega⟩
  rw [← Int32.sub_eq_add_neg]
  exact nI_pred j

set_option maxRecDepth 20000 in
theorem dfl_run (tl : List (Nat × Nat)) (I : Nat → Nat → Int32) (L : Nat → Nat → Int64) (rd : Nat → Nat → Option Nat) (b mn m : Nat) (hm : I 86 0 = nI m) (hb : m ≤ 40) (hmn : mn ≤ 12) (hbm : b < m) (rr : Option Value) (Me : Mm) (n : Nat) (hn1 : 1 ≤ n) (hn : n < mn) (F : (Nat → Int32) → Bool × (Nat → Int32)) (hFk : ∀ t i, i < n + 1 → (F t).2 i = t i)
    (hFr : ∀ t, (∀ k, k < n + 1 → ∃ a, a < m ∧ t k = nI a) → ((F t).1 = true → rr = some (.int 1) ∧ Me = mk tl (up1 I 114 ((F t).2)) L rd) → ((F t).1 = false → ∀ o5 : Option Value, Runs 172 11 [some (.ref 61), some (.int (nI b)), some (.int (nI mn)), some (.int (nI ((n + 1) - 1))), some (.int ((F t).2 ((n + 1) - 1) + 1)), o5] [] (mk tl (up1 I 114 (F t).2) L rd) rr Me) → ∀ o5 : Option Value, Runs 172 11 [some (.ref 61), some (.int (nI b)), some (.int (nI mn)), some (.int (nI (n + 1))), some (.int (nI (b + 1))), o5] [] (mk tl (up1 I 114 t) L rd) rr Me) : ∀ k d t, d + k = m → (∀ k, k < n → ∃ a, a < m ∧ t k = nI a) → ((dfl I L b F n k d t).1 = true → rr = some (.int 1) ∧ Me = mk tl (up1 I 114 ((dfl I L b F n k d t).2)) L rd) → ((dfl I L b F n k d t).1 = false → ∀ o5 : Option Value, Runs 172 11 [some (.ref 61), some (.int (nI b)), some (.int (nI mn)), some (.int (nI (n - 1))), some (.int ((dfl I L b F n k d t).2 (n - 1) + 1)), o5] [] (mk tl (up1 I 114 (dfl I L b F n k d t).2) L rd) rr Me) → ∀ x4 : Int32, Runs 172 34 [some (.ref 61), some (.int (nI b)), some (.int (nI mn)), some (.int (nI n)), some (.int x4), some (.int (nI d))] [] (mk tl (up1 I 114 t) L rd) rr Me := by
  intro k
  induction k with
  | zero =>
    intro d t hd ht hT hF x4
    obtain rfl : d = m := hd
    refine Runs.bl 3 (g := true) (i' := if decide ((nI mn) ≤ (nI n)) = true then 51 else 37) (ls' := [some (.ref 61), some (.int (nI b)), some (.int (nI mn)), some (.int (nI n)), some (.int x4), some (.int (nI d))]) (st' := []) (M' := mk tl (up1 I 114 t) L rd) rfl rfl ?_
    refine Runs.brF (nI_ge (by omega) (by omega)) ?_
    refine Runs.bl 6 (g := true && true) (i' := if decide ((I 86 0) ≤ (nI d)) = true then 51 else 43) (ls' := [some (.ref 61), some (.int (nI b)), some (.int (nI mn)), some (.int (nI n)), some (.int x4), some (.int (nI d))]) (st' := []) (M' := mk tl (up1 I 114 t) L rd) rfl rfl ?_
    refine Runs.brT (by show I 86 0 ≤ nI d; rw [hm]; exact nI_le (by omega) (by omega)) ?_
    refine Runs.bl 3 (g := true) (i' := if decide ((nI mn) ≤ (nI n)) = true then 71 else 54) (ls' := [some (.ref 61), some (.int (nI b)), some (.int (nI mn)), some (.int (nI n)), some (.int x4), some (.int (nI d))]) (st' := []) (M' := mk tl (up1 I 114 t) L rd) rfl rfl ?_
    refine Runs.brF (nI_ge (by omega) (by omega)) ?_
    refine Runs.bl 6 (g := true && true) (i' := if decide ((I 86 0) ≤ (nI d)) = true then 71 else 60) (ls' := [some (.ref 61), some (.int (nI b)), some (.int (nI mn)), some (.int (nI n)), some (.int x4), some (.int (nI d))]) (st' := []) (M' := mk tl (up1 I 114 t) L rd) rfl rfl ?_
    refine Runs.brT (by show I 86 0 ≤ nI d; rw [hm]; exact nI_le (by omega) (by omega)) ?_
    refine Runs.bl 1 (g := true) (i' := 72) (ls' := [some (.ref 61), some (.int (nI b)), some (.int (nI mn)), some (.int ((nI n) + (-1))), some (.int x4), some (.int (nI d))]) (st' := []) (M' := mk tl (up1 I 114 t) L rd) rfl rfl ?_
    refine Runs.cg (ls := [some (.ref 61), some (.int (nI b)), some (.int (nI mn)), some (.int (nI (n - 1))), some (.int x4), some (.int (nI d))]) (by rw [nI_m1' (by omega)]) rfl ?_
    refine Runs.bl 8 (g := inb (nI (n - 1)) 12 && true) (i' := 11) (ls' := [some (.ref 61), some (.int (nI b)), some (.int (nI mn)), some (.int (nI (n - 1))), some (.int ((t ((nI (n - 1)).toNatClampNeg)) + (1 : Int32))), some (.int (nI d))]) (st' := []) (M' := mk tl (up1 I 114 t) L rd) rfl (by have q1 := nI_toInt (n := n) (by omega); have q2 := nI_toInt (n := d) (by omega); have q3 := nI_toInt (n := n - 1) (by omega); have q4 := hn1; have q5 := hn; simp only [Bool.and_true, Bool.true_and, Bool.and_eq_true, inb_iff, Int32.lt_iff_toInt_lt, Int32.le_iff_toInt_le, toI_0, toI_1, toI_2, toI_3, toI_4, toI_5, toI_6, toI_7, toI_8, toI_9, toI_10, toI_12, toI_16, toI_18, toI_20, toI_21, toI_23, toI_24, toI_32, toI_36, toI_39, toI_40, toI_48, toI_50, toI_60, toI_64, toI_75, toI_80, toI_100, toI_144, toI_160, toI_200, toI_256, toI_320, toI_380, toI_576, toI_600, toI_1000, toI_1280, toI_2400, toI_9999, toI_10000, toI_100000, toI_1000000, toI_m1, toI_m100000, toI_s9, toI_s8] at q1 q2 q3 q4 q5 ⊢; omega) ?_
    exact Runs.cg (by rw [nI_clamp (by omega)]; rfl) rfl (hF rfl _)
  | succ k ih =>
    intro d t hd ht hT hF x4
    refine Runs.bl 3 (g := true) (i' := if decide ((nI mn) ≤ (nI n)) = true then 51 else 37) (ls' := [some (.ref 61), some (.int (nI b)), some (.int (nI mn)), some (.int (nI n)), some (.int x4), some (.int (nI d))]) (st' := []) (M' := mk tl (up1 I 114 t) L rd) rfl rfl ?_
    refine Runs.brF (nI_ge (by omega) (by omega)) ?_
    refine Runs.bl 6 (g := true && true) (i' := if decide ((I 86 0) ≤ (nI d)) = true then 51 else 43) (ls' := [some (.ref 61), some (.int (nI b)), some (.int (nI mn)), some (.int (nI n)), some (.int x4), some (.int (nI d))]) (st' := []) (M' := mk tl (up1 I 114 t) L rd) rfl rfl ?_
    refine Runs.brF (by show ¬ I 86 0 ≤ nI d; rw [hm]; exact nI_ge (by omega) (by omega)) ?_
    refine Runs.bl 4 (g := true) (i' := 47) (ls' := [some (.ref 61), some (.int (nI b)), some (.int (nI mn)), some (.int (nI n)), some (.int x4), some (.int (nI d))]) (st' := [.int (nI b), .int (nI d), .int (nI n), .ref 61]) (M' := mk tl (up1 I 114 t) L rd) rfl rfl ?_
    refine Runs.call (k' := 171) (as := [.ref 61, .int (nI n), .int (nI d), .int (nI b)]) (rest := []) (r1 := some (.int (goR (up1 I 114 t) L n d b))) (M1 := mk tl (up1 I 114 t) L rd) rfl rfl rfl (c_goR tl (up1 I 114 t) L rd n d b m hb (by omega) hn1 (by omega) ht) ?_
    refine Runs.bl 1 (g := true) (i' := if decide (¬ (goR (up1 I 114 t) L n d b) = 0) = true then 51 else 49) (ls' := [some (.ref 61), some (.int (nI b)), some (.int (nI mn)), some (.int (nI n)), some (.int x4), some (.int (nI d))]) (st' := []) (M' := mk tl (up1 I 114 t) L rd) rfl rfl ?_
    refine Runs.brP (fun h1 => ?_) (fun h1 => ?_)
    · skip
      refine Runs.bl 3 (g := true) (i' := if decide ((nI mn) ≤ (nI n)) = true then 71 else 54) (ls' := [some (.ref 61), some (.int (nI b)), some (.int (nI mn)), some (.int (nI n)), some (.int x4), some (.int (nI d))]) (st' := []) (M' := mk tl (up1 I 114 t) L rd) rfl rfl ?_
      refine Runs.brF (nI_ge (by omega) (by omega)) ?_
      refine Runs.bl 6 (g := true && true) (i' := if decide ((I 86 0) ≤ (nI d)) = true then 71 else 60) (ls' := [some (.ref 61), some (.int (nI b)), some (.int (nI mn)), some (.int (nI n)), some (.int x4), some (.int (nI d))]) (st' := []) (M' := mk tl (up1 I 114 t) L rd) rfl rfl ?_
      refine Runs.brF (by show ¬ I 86 0 ≤ nI d; rw [hm]; exact nI_ge (by omega) (by omega)) ?_
      refine Runs.bl 12 (g := inb (nI n) 12 && true) (i' := 11) (ls' := [some (.ref 61), some (.int (nI b)), some (.int (nI mn)), some (.int ((nI n) + 1)), some (.int ((nI b) + (1 : Int32))), some (.int (nI d))]) (st' := []) (M' := mk tl (up2 (up1 I 114 t) 114 ((nI n).toNatClampNeg) (nI d)) L rd) rfl (by have q1 := nI_toInt (n := n) (by omega); have q2 := nI_toInt (n := d) (by omega); have q3 := hn1; have q4 := hn; simp only [Bool.and_true, Bool.true_and, Bool.and_eq_true, inb_iff, Int32.lt_iff_toInt_lt, Int32.le_iff_toInt_le, toI_0, toI_1, toI_2, toI_3, toI_4, toI_5, toI_6, toI_7, toI_8, toI_9, toI_10, toI_12, toI_16, toI_18, toI_20, toI_21, toI_23, toI_24, toI_32, toI_36, toI_39, toI_40, toI_48, toI_50, toI_60, toI_64, toI_75, toI_80, toI_100, toI_144, toI_160, toI_200, toI_256, toI_320, toI_380, toI_576, toI_600, toI_1000, toI_1280, toI_2400, toI_9999, toI_10000, toI_100000, toI_1000000, toI_m1, toI_m100000, toI_s9, toI_s8] at h1 q1 q2 q3 q4 ⊢; omega) ?_
      rw [show dfl I L b F n (k + 1) d t = if (F (upr t n (nI d))).1 = true then F (upr t n (nI d)) else dfl I L b F n k (d + 1) (F (upr t n (nI d))).2 from by rw [dfl, if_neg h1]] at hT hF
      refine Runs.cg (ls := [some (.ref 61), some (.int (nI b)), some (.int (nI mn)), some (.int (nI (n + 1))), some (.int (nI (b + 1))), some (.int (nI d))]) (M := mk tl (up1 I 114 (upr t n (nI d))) L rd) (by rw [nI_1, nI_1]) (by rw [nI_clamp (by omega), row_up2]) ?_
      have hk := hFk (upr t n (nI d))
      have ht1 : ∀ i, i < n + 1 → ∃ a, a < m ∧ upr t n (nI d) i = nI a := by
        intro i hi
        show ∃ a, a < m ∧ (if i = n then nI d else t i) = nI a
        split
        · exact ⟨d, by omega, rfl⟩
        · exact ht i (by omega)
      refine hFr (upr t n (nI d)) ht1 (fun e => ?_) (fun e => ?_) _
      · rw [if_pos e] at hT; exact hT e
      · have en : ¬ (F (upr t n (nI d))).1 = true := by rw [e]; decide
        rw [if_neg en] at hT hF
        have hkn : (F (upr t n (nI d))).2 n = nI d := by rw [hk n (by omega)]; exact if_pos rfl
        have ht2 : ∀ i, i < n → ∃ a, a < m ∧ (F (upr t n (nI d))).2 i = nI a := fun i hi => by rw [hk i (by omega)]; exact ht1 i (by omega)
        intro o5
        rw [Nat.add_sub_cancel, hkn, nI_1]
        exact fr_11 tl I L rd b mn n _ _ rr Me hmn hn1 hn (ih (d + 1) _ (by omega) ht2 hT hF _) o5
    · skip
      refine Runs.bl 2 (g := true) (i' := 34) (ls' := [some (.ref 61), some (.int (nI b)), some (.int (nI mn)), some (.int (nI n)), some (.int x4), some (.int ((nI d) + 1))]) (st' := []) (M' := mk tl (up1 I 114 t) L rd) rfl rfl ?_
      rw [show dfl I L b F n (k + 1) d t = dfl I L b F n k (d + 1) t from by rw [dfl, if_pos (Decidable.not_not.mp h1)]] at hT hF
      exact Runs.cg (by rw [nI_1]) rfl (ih (d + 1) t (by omega) ht hT hF _)

set_option maxRecDepth 20000 in
theorem dfs_run (tl : List (Nat × Nat)) (I : Nat → Nat → Int32) (L : Nat → Nat → Int64) (rd : Nat → Nat → Option Nat) (b mn m : Nat) (hm : I 86 0 = nI m) (hb : m ≤ 40) (hmn : mn ≤ 12) (hbm : b < m) (rr : Option Value) (Me : Mm) : ∀ r n t, n + r = mn → 1 ≤ n → (∀ k, k < n → ∃ a, a < m ∧ t k = nI a) → ((dfs I L b m r n t).1 = true → rr = some (.int 1) ∧ Me = mk tl (up1 I 114 ((dfs I L b m r n t).2)) L rd) → ((dfs I L b m r n t).1 = false → ∀ o5 : Option Value, Runs 172 11 [some (.ref 61), some (.int (nI b)), some (.int (nI mn)), some (.int (nI (n - 1))), some (.int ((dfs I L b m r n t).2 (n - 1) + 1)), o5] [] (mk tl (up1 I 114 (dfs I L b m r n t).2) L rd) rr Me) → ∀ o5 : Option Value, Runs 172 11 [some (.ref 61), some (.int (nI b)), some (.int (nI mn)), some (.int (nI n)), some (.int (nI (b + 1))), o5] [] (mk tl (up1 I 114 t) L rd) rr Me := by
  intro r
  induction r with
  | zero =>
    intro n t hn hn1 ht hT hF o5
    obtain rfl : n = mn := hn
    have hn := hmn
    refine Runs.bl 2 (g := true) (i' := if decide ((nI n) ≤ 0) = true then 80 else 13) (ls' := [some (.ref 61), some (.int (nI b)), some (.int (nI n)), some (.int (nI n)), some (.int (nI (b + 1))), o5]) (st' := []) (M' := mk tl (up1 I 114 t) L rd) rfl rfl ?_
    refine Runs.brF (by show ¬ nI n ≤ nI 0; exact nI_ge (by omega) (by omega)) ?_
    refine Runs.bl 3 (g := true) (i' := if decide (¬ (nI n) = (nI n)) = true then 32 else 16) (ls' := [some (.ref 61), some (.int (nI b)), some (.int (nI n)), some (.int (nI n)), some (.int (nI (b + 1))), o5]) (st' := []) (M' := mk tl (up1 I 114 t) L rd) rfl rfl ?_
    refine Runs.brF (by intro h; exact h rfl) ?_
    refine Runs.bl 14 (g := inb ((nI n) - (1 : Int32)) 12 && (inb (t (((nI n) - (1 : Int32)).toNatClampNeg)) 160 && (inb (nI b) 160 && true))) (i' := if decide (¬ (I 88 ((t (((nI n) - (1 : Int32)).toNatClampNeg)).toNatClampNeg)) = (I 87 ((nI b).toNatClampNeg))) = true then 32 else 30) (ls' := [some (.ref 61), some (.int (nI b)), some (.int (nI n)), some (.int (nI n)), some (.int (nI (b + 1))), o5]) (st' := []) (M' := mk tl (up1 I 114 t) L rd) rfl (by have q1 := nI_toInt (n := n) (by omega); have q2 := nI_toInt (n := b) (by omega); have q3 := nI_toInt (n := n - 1) (by omega); have q4 := nI_m1 (n := n) (by omega); have q5 := (show 0 ≤ (t (nI n - 1).toNatClampNeg).toInt ∧ (t (nI n - 1).toNatClampNeg).toInt < 40 from by rw [nI_cl1 hn1 (by omega)]; exact okr hb (ht (n - 1) (by omega))); have q6 := hn1; have q7 := hn; simp only [Bool.and_true, Bool.true_and, Bool.and_eq_true, inb_iff, Int32.lt_iff_toInt_lt, Int32.le_iff_toInt_le, toI_0, toI_1, toI_2, toI_3, toI_4, toI_5, toI_6, toI_7, toI_8, toI_9, toI_10, toI_12, toI_16, toI_18, toI_20, toI_21, toI_23, toI_24, toI_32, toI_36, toI_39, toI_40, toI_48, toI_50, toI_60, toI_64, toI_75, toI_80, toI_100, toI_144, toI_160, toI_200, toI_256, toI_320, toI_380, toI_576, toI_600, toI_1000, toI_1280, toI_2400, toI_9999, toI_10000, toI_100000, toI_1000000, toI_m1, toI_m100000, toI_s9, toI_s8] at q1 q2 q3 q4 q5 q6 q7 ⊢; omega) ?_
    refine Runs.brP (fun h1 => ?_) (fun h1 => ?_)
    · skip
      refine Runs.bl 5 (g := true) (i' := if decide ((nI n) ≤ (nI n)) = true then 51 else 37) (ls' := [some (.ref 61), some (.int (nI b)), some (.int (nI n)), some (.int (nI n)), some (.int (nI (b + 1))), some (.int (nI (b + 1)))]) (st' := []) (M' := mk tl (up1 I 114 t) L rd) rfl rfl ?_
      refine Runs.brT (nI_le (Nat.le_refl _) (by omega)) ?_
      refine Runs.bl 3 (g := true) (i' := if decide ((nI n) ≤ (nI n)) = true then 71 else 54) (ls' := [some (.ref 61), some (.int (nI b)), some (.int (nI n)), some (.int (nI n)), some (.int (nI (b + 1))), some (.int (nI (b + 1)))]) (st' := []) (M' := mk tl (up1 I 114 t) L rd) rfl rfl ?_
      refine Runs.brT (nI_le (Nat.le_refl _) (by omega)) ?_
      refine Runs.bl 1 (g := true) (i' := 72) (ls' := [some (.ref 61), some (.int (nI b)), some (.int (nI n)), some (.int ((nI n) + (-1))), some (.int (nI (b + 1))), some (.int (nI (b + 1)))]) (st' := []) (M' := mk tl (up1 I 114 t) L rd) rfl rfl ?_
      refine Runs.cg (ls := [some (.ref 61), some (.int (nI b)), some (.int (nI n)), some (.int (nI (n - 1))), some (.int (nI (b + 1))), some (.int (nI (b + 1)))]) (by rw [nI_m1' (by omega)]) rfl ?_
      refine Runs.bl 8 (g := inb (nI (n - 1)) 12 && true) (i' := 11) (ls' := [some (.ref 61), some (.int (nI b)), some (.int (nI n)), some (.int (nI (n - 1))), some (.int ((t ((nI (n - 1)).toNatClampNeg)) + (1 : Int32))), some (.int (nI (b + 1)))]) (st' := []) (M' := mk tl (up1 I 114 t) L rd) rfl (by have q1 := nI_toInt (n := n) (by omega); have q2 := nI_toInt (n := b) (by omega); have q3 := nI_toInt (n := n - 1) (by omega); have q4 := nI_m1 (n := n) (by omega); have q5 := (show 0 ≤ (t (nI n - 1).toNatClampNeg).toInt ∧ (t (nI n - 1).toNatClampNeg).toInt < 40 from by rw [nI_cl1 hn1 (by omega)]; exact okr hb (ht (n - 1) (by omega))); have q6 := hn1; have q7 := hn; simp only [Bool.and_true, Bool.true_and, Bool.and_eq_true, inb_iff, Int32.lt_iff_toInt_lt, Int32.le_iff_toInt_le, toI_0, toI_1, toI_2, toI_3, toI_4, toI_5, toI_6, toI_7, toI_8, toI_9, toI_10, toI_12, toI_16, toI_18, toI_20, toI_21, toI_23, toI_24, toI_32, toI_36, toI_39, toI_40, toI_48, toI_50, toI_60, toI_64, toI_75, toI_80, toI_100, toI_144, toI_160, toI_200, toI_256, toI_320, toI_380, toI_576, toI_600, toI_1000, toI_1280, toI_2400, toI_9999, toI_10000, toI_100000, toI_1000000, toI_m1, toI_m100000, toI_s9, toI_s8] at h1 q1 q2 q3 q4 q5 q6 q7 ⊢; omega) ?_
      exact Runs.cg (by rw [nI_clamp (show n - 1 < 2 ^ 31 by omega)]; rfl) rfl (hF (decide_eq_false (by have e := h1; rw [nI_cl1 hn1 (by omega), nI_clamp (by omega)] at e; exact e)) _)
    · skip
      refine Runs.bl 1 (g := true) (i' := 31) (ls' := [some (.ref 61), some (.int (nI b)), some (.int (nI n)), some (.int (nI n)), some (.int (nI (b + 1))), o5]) (st' := [.int (1 : Int32)]) (M' := mk tl (up1 I 114 t) L rd) rfl rfl ?_
      obtain ⟨e1, e2⟩ := hT (decide_eq_true (by have e := Decidable.not_not.mp h1; rw [nI_cl1 hn1 (by omega), nI_clamp (by omega)] at e; exact e)); subst e1; subst e2; exact Runs.rz rfl rfl (by decide) rfl rfl
  | succ r ih =>
    intro n t hn hn1 ht hT hF o5
    rw [dfs] at hT hF
    exact fr_11 tl I L rd b mn n _ t rr Me hmn hn1 (by omega) (dfl_run tl I L rd b mn m hm hb hmn hbm rr Me n hn1 (by omega) (dfs I L b m r (n + 1)) (fun t i hi => dfs_keep I L b m r (n + 1) t i hi) (fun t ht => ih (n + 1) t (by omega) (by omega) ht) (m - (b + 1)) (b + 1) t (by omega) ht hT hF _) o5

def fR (I : Nat → Nat → Int32) (L : Nat → Nat → Int64) (b m mn : Nat) : Bool × (Nat → Int32) := dfs I L b m (mn - 1) 1 (upr (I 114) 0 (nI b))
def bI (b : Bool) : Int32 := if b = true then 1 else 0

set_option maxRecDepth 20000 in
theorem c_fR (tl : List (Nat × Nat)) (I : Nat → Nat → Int32) (L : Nat → Nat → Int64) (rd : Nat → Nat → Option Nat) (b mn m : Nat) (hm : I 86 0 = nI m) (hb : m ≤ 40) (hmn : mn ≤ 12) (hm2 : 2 ≤ mn) (hbm : b < m) : Call 172 [.ref 61, .int (nI b), .int (nI mn)] (mk tl I L rd) (some (.int (bI (fR I L b m mn).1))) (mk tl (up1 I 114 (fR I L b m mn).2) L rd) := by
  show Runs 172 0 [some (.ref 61), some (.int (nI b)), some (.int (nI mn)), none, none, none] [] (mk tl I L rd) (some (.int (bI (fR I L b m mn).1))) (mk tl (up1 I 114 (fR I L b m mn).2) L rd)
  refine Runs.bl 11 (g := true && true) (i' := 11) (ls' := [some (.ref 61), some (.int (nI b)), some (.int (nI mn)), some (.int (1 : Int32)), some (.int ((nI b) + (1 : Int32))), none]) (st' := []) (M' := mk tl (up2 I 114 0 (nI b)) L rd) rfl rfl ?_
  refine Runs.cg (ls := [some (.ref 61), some (.int (nI b)), some (.int (nI mn)), some (.int (nI 1)), some (.int (nI (b + 1))), none]) (M := mk tl (up1 I 114 (upr (I 114) 0 (nI b))) L rd) (by rw [nI_1]; rfl) rfl ?_
  refine dfs_run tl I L rd b mn m hm hb hmn hbm _ _ (mn - 1) 1 (upr (I 114) 0 (nI b)) (by omega) (by omega) ?_ (fun e => ?_) (fun e => ?_) _
  · intro i hi; exact ⟨b, hbm, if_pos (by omega)⟩
  · refine ⟨?_, rfl⟩; show some (Value.int (bI (fR I L b m mn).1)) = _; rw [show (fR I L b m mn).1 = true from e]; rfl
  · intro o5
    replace e : (fR I L b m mn).1 = false := e
    show Runs 172 11 [some (.ref 61), some (.int (nI b)), some (.int (nI mn)), some (.int (0 : Int32)), some (.int ((fR I L b m mn).2 0 + 1)), o5] [] (mk tl (up1 I 114 (fR I L b m mn).2) L rd) _ _
    refine Runs.bl 3 (g := true) (i' := 81) (ls' := [some (.ref 61), some (.int (nI b)), some (.int (nI mn)), some (.int (0 : Int32)), some (.int ((fR I L b m mn).2 0 + 1)), o5]) (st' := [.int (0 : Int32)]) (M' := mk tl (up1 I 114 ((fR I L b m mn).2)) L rd) rfl rfl ?_
    exact Runs.rz rfl rfl (by decide) (by rw [e]; rfl) (rfl)

