/-! THE REFERENCE: the ring (printed by p70.py) -/
theorem bI_0 {b : Bool} (h : bI b = 0) : b = false := by cases b with
  | true => exact absurd h (by decide)
  | false => rfl
theorem bI_1 {b : Bool} (h : ¬ bI b = 0) : b = true := by cases b with
  | true => rfl
  | false => exact absurd rfl h
def ftB (I : Nat → Nat → Int32) (L : Nat → Nat → Int64) (m mn : Nat) : Nat → Nat → (Nat → Int32) → Bool × (Nat → Int32)
  | 0, _, t => (false, t)
  | k + 1, b, t => if ¬ I 94 b = 0 then ftB I L m mn k (b + 1) t else if (fR (up1 I 114 t) L b m mn).1 = true then (fR (up1 I 114 t) L b m mn) else ftB I L m mn k (b + 1) (fR (up1 I 114 t) L b m mn).2
def ftM (I : Nat → Nat → Int32) (L : Nat → Nat → Int64) (m : Nat) : Nat → Nat → (Nat → Int32) → Nat × (Nat → Int32)
  | 0, _, t => (0, t)
  | k + 1, mn, t => if (ftB I L m mn m 0 t).1 = true then (mn, (ftB I L m mn m 0 t).2) else ftM I L m k (mn + 1) (ftB I L m mn m 0 t).2
def fT (I : Nat → Nat → Int32) (L : Nat → Nat → Int64) (m q : Nat) : Nat × (Nat → Int32) := ftM I L m (q - 1) 2 (I 114)

def hc_st (I : Nat → Nat → Int32) (L : Nat → Nat → Int64) (t : Nat → Int32) (j : Nat) (s : (Nat → Int32)) : (Nat → Int32) :=
  ((upr s ((nI j).toNatClampNeg) (t ((nI j).toNatClampNeg))))

def hc_it (I : Nat → Nat → Int32) (L : Nat → Nat → Int64) (t : Nat → Int32) (j : Nat) : (Nat → Int32) := itr (hc_st I L t) (I 103) j
theorem hc_it_s (I : Nat → Nat → Int32) (L : Nat → Nat → Int64) (t : Nat → Int32) (j : Nat) : (hc_it I L t (j + 1)) = hc_st I L t j (hc_it I L t j) := itr_s _ _ _
set_option maxRecDepth 20000 in
theorem l_hc (tl : List (Nat × Nat)) (I : Nat → Nat → Int32) (L : Nat → Nat → Int64) (rd : Nat → Nat → Option Nat) (t : Nat → Int32) (mn b : Nat) (hmn : mn ≤ 12) : ∀ j, j ≤ mn → Runs 173 33 [some (.ref 61), some (.int (nI mn)), some (.int (nI b)), some (.int (nI j))] [] (mk tl (up1 (up2 (up1 I 114 t) 102 0 (nI mn)) 103 (hc_it I L t j)) L rd) (some (.int 1)) (mk tl (up1 (up2 (up1 I 114 t) 102 0 (nI mn)) 103 (hc_it I L t (mn))) L rd) := by
  refine loopU mn (P := fun j => Runs 173 33 [some (.ref 61), some (.int (nI mn)), some (.int (nI b)), some (.int (nI j))] [] (mk tl (up1 (up2 (up1 I 114 t) 102 0 (nI mn)) 103 (hc_it I L t j)) L rd) (some (.int 1)) (mk tl (up1 (up2 (up1 I 114 t) 102 0 (nI mn)) 103 (hc_it I L t (mn))) L rd)) (fun j hj ih => ?_) ?_
  · show Runs 173 33 [some (.ref 61), some (.int (nI mn)), some (.int (nI b)), some (.int (nI j))] [] (mk tl (up1 (up2 (up1 I 114 t) 102 0 (nI mn)) 103 (hc_it I L t j)) L rd) (some (.int 1)) (mk tl (up1 (up2 (up1 I 114 t) 102 0 (nI mn)) 103 (hc_it I L t (mn))) L rd)
    refine Runs.bl 3 (g := true) (i' := if decide ((nI mn) ≤ (nI j)) = true then 46 else 36) (ls' := [some (.ref 61), some (.int (nI mn)), some (.int (nI b)), some (.int (nI j))]) (st' := []) (M' := mk tl (up1 (up2 (up1 I 114 t) 102 0 (nI mn)) 103 (hc_it I L t j)) L rd) rfl rfl ?_
    refine Runs.brF (nI_ge hj (by omega)) ?_
    refine Runs.bl 10 (g := inb (nI j) 12 && (inb (nI j) 48 && true)) (i' := 33) (ls' := [some (.ref 61), some (.int (nI mn)), some (.int (nI b)), some (.int ((nI j) + 1))]) (st' := []) (M' := mk tl (up2 (up1 (up2 (up1 I 114 t) 102 0 (nI mn)) 103 (hc_it I L t j)) 103 ((nI j).toNatClampNeg) (t ((nI j).toNatClampNeg))) L rd) rfl (by have q1 := nI_toInt (n := j) (by omega); simp only [Bool.and_true, Bool.true_and, Bool.and_eq_true, inb_iff, Int32.lt_iff_toInt_lt, Int32.le_iff_toInt_le, toI_0, toI_1, toI_2, toI_3, toI_4, toI_5, toI_6, toI_7, toI_8, toI_9, toI_10, toI_12, toI_16, toI_18, toI_20, toI_21, toI_23, toI_24, toI_32, toI_36, toI_39, toI_40, toI_48, toI_50, toI_60, toI_64, toI_75, toI_80, toI_100, toI_144, toI_160, toI_200, toI_256, toI_320, toI_380, toI_576, toI_600, toI_1000, toI_1280, toI_2400, toI_9999, toI_10000, toI_100000, toI_1000000, toI_m1, toI_m100000, toI_s9, toI_s8] at hmn q1 ⊢; omega) ?_
    refine Runs.cg (ls := [some (.ref 61), some (.int (nI mn)), some (.int (nI b)), some (.int (nI (j + 1)))]) (M := mk tl (up1 (up2 (up1 I 114 t) 102 0 (nI mn)) 103 (hc_it I L t (j + 1))) L rd) (by rw [nI_1]) (by rw [hc_it_s, hc_st, row_up2] <;> rfl) ih
  · show Runs 173 33 [some (.ref 61), some (.int (nI mn)), some (.int (nI b)), some (.int (nI mn))] [] (mk tl (up1 (up2 (up1 I 114 t) 102 0 (nI mn)) 103 (hc_it I L t mn)) L rd) (some (.int 1)) (mk tl (up1 (up2 (up1 I 114 t) 102 0 (nI mn)) 103 (hc_it I L t (mn))) L rd)
    refine Runs.bl 3 (g := true) (i' := if decide ((nI mn) ≤ (nI mn)) = true then 46 else 36) (ls' := [some (.ref 61), some (.int (nI mn)), some (.int (nI b)), some (.int (nI mn))]) (st' := []) (M' := mk tl (up1 (up2 (up1 I 114 t) 102 0 (nI mn)) 103 (hc_it I L t mn)) L rd) rfl rfl ?_
    refine Runs.brT (nI_le (Nat.le_refl _) (by omega)) ?_
    refine Runs.bl 1 (g := true) (i' := 47) (ls' := [some (.ref 61), some (.int (nI mn)), some (.int (nI b)), some (.int (nI mn))]) (st' := [.int (1 : Int32)]) (M' := mk tl (up1 (up2 (up1 I 114 t) 102 0 (nI mn)) 103 (hc_it I L t mn)) L rd) rfl rfl ?_
    exact Runs.rz rfl rfl (by decide) (rfl) (rfl)

set_option maxRecDepth 20000 in
theorem l0_hc (tl : List (Nat × Nat)) (I : Nat → Nat → Int32) (L : Nat → Nat → Int64) (rd : Nat → Nat → Option Nat) (t : Nat → Int32) (mn b : Nat) (hmn : mn ≤ 12) : Runs 173 33 [some (.ref 61), some (.int (nI mn)), some (.int (nI b)), some (.int (nI 0))] [] (mk tl (up1 (up2 (up1 I 114 t) 102 0 (nI mn)) 103 (I 103)) L rd) (some (.int 1)) (mk tl (up1 (up2 (up1 I 114 t) 102 0 (nI mn)) 103 (hc_it I L t (mn))) L rd) := l_hc tl I L rd t mn b hmn 0 (Nat.zero_le _)
set_option maxRecDepth 20000 in
theorem ftB_run (tl : List (Nat × Nat)) (I : Nat → Nat → Int32) (L : Nat → Nat → Int64) (rd : Nat → Nat → Option Nat) (mn m : Nat) (hm : I 86 0 = nI m) (hb : m ≤ 40) (hmn : mn ≤ 12) (hm2 : 2 ≤ mn) (rr : Option Value) (Me : Mm) : ∀ k b t, b + k = m → ((ftB I L m mn k b t).1 = true → rr = some (.int 1) ∧ Me = mk tl (up1 (up2 (up1 I 114 ((ftB I L m mn k b t).2)) 102 0 (nI mn)) 103 (hc_it I L ((ftB I L m mn k b t).2) mn)) L rd) → ((ftB I L m mn k b t).1 = false → ∀ o2 o3 : Option Value, Runs 173 2 [some (.ref 61), some (.int (nI (mn + 1))), o2, o3] [] (mk tl (up1 I 114 ((ftB I L m mn k b t).2)) L rd) rr Me) → ∀ o3 : Option Value, Runs 173 10 [some (.ref 61), some (.int (nI mn)), some (.int (nI b)), o3] [] (mk tl (up1 I 114 t) L rd) rr Me := by
  intro k
  induction k with
  | zero =>
    intro b t hd hT hF o3
    obtain rfl : b = m := hd
    refine Runs.bl 6 (g := true && true) (i' := if decide ((I 86 0) ≤ (nI b)) = true then 50 else 16) (ls' := [some (.ref 61), some (.int (nI mn)), some (.int (nI b)), o3]) (st' := []) (M' := mk tl (up1 I 114 t) L rd) rfl rfl ?_
    refine Runs.brT (by show I 86 0 ≤ nI b; rw [hm]; exact nI_le (by omega) (by omega)) ?_
    refine Runs.bl 2 (g := true) (i' := 2) (ls' := [some (.ref 61), some (.int ((nI mn) + 1)), some (.int (nI b)), o3]) (st' := []) (M' := mk tl (up1 I 114 t) L rd) rfl rfl ?_
    exact Runs.cg (by rw [nI_1]) rfl (hF rfl _ _)
  | succ k ih =>
    intro b t hd hT hF o3
    refine Runs.bl 6 (g := true && true) (i' := if decide ((I 86 0) ≤ (nI b)) = true then 50 else 16) (ls' := [some (.ref 61), some (.int (nI mn)), some (.int (nI b)), o3]) (st' := []) (M' := mk tl (up1 I 114 t) L rd) rfl rfl ?_
    refine Runs.brF (by show ¬ I 86 0 ≤ nI b; rw [hm]; exact nI_ge (by omega) (by omega)) ?_
    refine Runs.bl 5 (g := inb (nI b) 160 && true) (i' := if decide (¬ (I 94 ((nI b).toNatClampNeg)) = 0) = true then 48 else 21) (ls' := [some (.ref 61), some (.int (nI mn)), some (.int (nI b)), o3]) (st' := []) (M' := mk tl (up1 I 114 t) L rd) rfl (by have q1 := nI_toInt (n := b) (by omega); simp only [Bool.and_true, Bool.true_and, Bool.and_eq_true, inb_iff, Int32.lt_iff_toInt_lt, Int32.le_iff_toInt_le, toI_0, toI_1, toI_2, toI_3, toI_4, toI_5, toI_6, toI_7, toI_8, toI_9, toI_10, toI_12, toI_16, toI_18, toI_20, toI_21, toI_23, toI_24, toI_32, toI_36, toI_39, toI_40, toI_48, toI_50, toI_60, toI_64, toI_75, toI_80, toI_100, toI_144, toI_160, toI_200, toI_256, toI_320, toI_380, toI_576, toI_600, toI_1000, toI_1280, toI_2400, toI_9999, toI_10000, toI_100000, toI_1000000, toI_m1, toI_m100000, toI_s9, toI_s8] at q1 ⊢; omega) ?_
    refine Runs.brP (fun h1 => ?_) (fun h1 => ?_)
    · skip
      refine Runs.bl 2 (g := true) (i' := 10) (ls' := [some (.ref 61), some (.int (nI mn)), some (.int ((nI b) + 1)), o3]) (st' := []) (M' := mk tl (up1 I 114 t) L rd) rfl rfl ?_
      rw [nI_clamp (show b < 2 ^ 31 from by omega)] at h1
      rw [show ftB I L m mn (k + 1) b t = ftB I L m mn k (b + 1) t from by rw [ftB, if_pos h1]] at hT hF
      exact Runs.cg (by rw [nI_1]) rfl (ih (b + 1) t (by omega) hT hF _)
    · skip
      refine Runs.bl 3 (g := true) (i' := 24) (ls' := [some (.ref 61), some (.int (nI mn)), some (.int (nI b)), o3]) (st' := [.int (nI mn), .int (nI b), .ref 61]) (M' := mk tl (up1 I 114 t) L rd) rfl rfl ?_
      refine Runs.call (k' := 172) (as := [.ref 61, .int (nI b), .int (nI mn)]) (rest := []) (r1 := some (.int (bI (fR (up1 I 114 t) L b m mn).1))) (M1 := mk tl (up1 I 114 ((fR (up1 I 114 t) L b m mn).2)) L rd) rfl rfl rfl (by have hh := c_fR tl (up1 I 114 t) L rd b mn m hm hb hmn hm2 (by omega); rw [up1_up1] at hh; exact hh) ?_
      refine Runs.bl 1 (g := true) (i' := if decide ((bI (fR (up1 I 114 t) L b m mn).1) = 0) = true then 48 else 26) (ls' := [some (.ref 61), some (.int (nI mn)), some (.int (nI b)), o3]) (st' := []) (M' := mk tl (up1 I 114 ((fR (up1 I 114 t) L b m mn).2)) L rd) rfl rfl ?_
      refine Runs.brP (fun h2 => ?_) (fun h2 => ?_)
      · skip
        refine Runs.bl 2 (g := true) (i' := 10) (ls' := [some (.ref 61), some (.int (nI mn)), some (.int ((nI b) + 1)), o3]) (st' := []) (M' := mk tl (up1 I 114 ((fR (up1 I 114 t) L b m mn).2)) L rd) rfl rfl ?_
        rw [nI_clamp (show b < 2 ^ 31 from by omega)] at h1
        rw [show ftB I L m mn (k + 1) b t = ftB I L m mn k (b + 1) (fR (up1 I 114 t) L b m mn).2 from by rw [ftB, if_neg h1, if_neg (by rw [bI_0 h2]; decide)]] at hT hF
        exact Runs.cg (by rw [nI_1]) rfl (ih (b + 1) _ (by omega) hT hF _)
      · skip
        refine Runs.bl 7 (g := true && true) (i' := 33) (ls' := [some (.ref 61), some (.int (nI mn)), some (.int (nI b)), some (.int (0 : Int32))]) (st' := []) (M' := mk tl (up2 (up1 I 114 ((fR (up1 I 114 t) L b m mn).2)) 102 0 (nI mn)) L rd) rfl rfl ?_
        rw [nI_clamp (show b < 2 ^ 31 from by omega)] at h1
        rw [show ftB I L m mn (k + 1) b t = (fR (up1 I 114 t) L b m mn) from by rw [ftB, if_neg h1, if_pos (bI_1 h2)]] at hT
        obtain ⟨e1, e2⟩ := hT (bI_1 h2)
        subst e1; subst e2
        refine Runs.cg (M := mk tl (up1 (up2 (up1 I 114 (fR (up1 I 114 t) L b m mn).2) 102 0 (nI mn)) 103 (I 103)) L rd) rfl (mk_cg (show up2 (up1 I 114 (fR (up1 I 114 t) L b m mn).2) 102 0 (nI mn) = up1 (up2 (up1 I 114 (fR (up1 I 114 t) L b m mn).2) 102 0 (nI mn)) 103 (up2 (up1 I 114 (fR (up1 I 114 t) L b m mn).2) 102 0 (nI mn) 103) from (up1_self _ 103).symm) rfl) ?_
        exact l0_hc tl I L rd (fR (up1 I 114 t) L b m mn).2 mn b hmn

set_option maxRecDepth 20000 in
theorem ftM_run (tl : List (Nat × Nat)) (I : Nat → Nat → Int32) (L : Nat → Nat → Int64) (rd : Nat → Nat → Option Nat) (m q : Nat) (hm : I 86 0 = nI m) (hb : m ≤ 40) (hq : I 69 0 = nI q) (hqb : q ≤ 12) (rr : Option Value) (Me : Mm) : ∀ k mn t, (mn + k = q + 1 ∨ (k = 0 ∧ q < mn)) → 2 ≤ mn → mn ≤ 13 → ((ftM I L m k mn t).1 = 0 → rr = some (.int 0) ∧ Me = mk tl (up2 (up1 I 114 (ftM I L m k mn t).2) 102 0 0) L rd) → (¬ (ftM I L m k mn t).1 = 0 → rr = some (.int 1) ∧ Me = mk tl (up1 (up2 (up1 I 114 ((ftM I L m k mn t).2)) 102 0 (nI ((ftM I L m k mn t).1))) 103 (hc_it I L ((ftM I L m k mn t).2) ((ftM I L m k mn t).1))) L rd) → ∀ o2 o3 : Option Value, Runs 173 2 [some (.ref 61), some (.int (nI mn)), o2, o3] [] (mk tl (up1 I 114 t) L rd) rr Me := by
  intro k
  induction k with
  | zero =>
    intro mn t hk h2 h3 hN hS o2 o3
    refine Runs.bl 6 (g := true && true) (i' := if decide ((I 69 0) < (nI mn)) = true then 52 else 8) (ls' := [some (.ref 61), some (.int (nI mn)), o2, o3]) (st' := []) (M' := mk tl (up1 I 114 t) L rd) rfl rfl ?_
    refine Runs.brT (by show I 69 0 < nI mn; rw [hq]; exact nI_lt (by omega) (by omega)) ?_
    refine Runs.bl 6 (g := true && true) (i' := 58) (ls' := [some (.ref 61), some (.int (nI mn)), o2, o3]) (st' := [.int (0 : Int32)]) (M' := mk tl (up2 (up1 I 114 t) 102 0 (0 : Int32)) L rd) rfl rfl ?_
    obtain ⟨e1, e2⟩ := hN rfl; subst e1; subst e2; exact Runs.rz rfl rfl (by decide) rfl rfl
  | succ k ih =>
    intro mn t hk h2 h3 hN hS o2 o3
    refine Runs.bl 6 (g := true && true) (i' := if decide ((I 69 0) < (nI mn)) = true then 52 else 8) (ls' := [some (.ref 61), some (.int (nI mn)), o2, o3]) (st' := []) (M' := mk tl (up1 I 114 t) L rd) rfl rfl ?_
    refine Runs.brF (by show ¬ I 69 0 < nI mn; rw [hq]; exact nI_nlt (by omega) (by omega)) ?_
    refine Runs.bl 2 (g := true) (i' := 10) (ls' := [some (.ref 61), some (.int (nI mn)), some (.int (0 : Int32)), o3]) (st' := []) (M' := mk tl (up1 I 114 t) L rd) rfl rfl ?_
    refine ftB_run tl I L rd mn m hm hb (by omega) h2 rr Me m 0 t (Nat.zero_add _) (fun e => ?_) (fun e => ?_) _
    · rw [show ftM I L m (k + 1) mn t = (mn, (ftB I L m mn m 0 t).2) from by rw [ftM, if_pos e]] at hS; exact hS (by show ¬ mn = 0; omega)
    · rw [show ftM I L m (k + 1) mn t = ftM I L m k (mn + 1) (ftB I L m mn m 0 t).2 from by rw [ftM, if_neg (by rw [e]; decide)]] at hS hN
      exact ih (mn + 1) _ (by omega) (by omega) (by omega) hN hS

/-- what findTheRing answers and leaves -/
def ftI (I : Nat → Nat → Int32) (L : Nat → Nat → Int64) (m q : Nat) : Nat → Nat → Int32 := if (fT I L m q).1 = 0 then up2 (up1 I 114 (fT I L m q).2) 102 0 0 else up1 (up2 (up1 I 114 (fT I L m q).2) 102 0 (nI (fT I L m q).1)) 103 (hc_it I L (fT I L m q).2 (fT I L m q).1)
def ftA (I : Nat → Nat → Int32) (L : Nat → Nat → Int64) (m q : Nat) : Int32 := if (fT I L m q).1 = 0 then 0 else 1

set_option maxRecDepth 20000 in
theorem c_ftI (tl : List (Nat × Nat)) (I : Nat → Nat → Int32) (L : Nat → Nat → Int64) (rd : Nat → Nat → Option Nat) (m q : Nat) (hm : I 86 0 = nI m) (hb : m ≤ 40) (hq : I 69 0 = nI q) (hqb : q ≤ 12) : Call 173 [.ref 61] (mk tl I L rd) (some (.int (ftA I L m q))) (mk tl (ftI I L m q) L rd) := by
  show Runs 173 0 [some (.ref 61), none, none, none] [] (mk tl I L rd) (some (.int (ftA I L m q))) (mk tl (ftI I L m q) L rd)
  refine Runs.bl 2 (g := true) (i' := 2) (ls' := [some (.ref 61), some (.int (2 : Int32)), none, none]) (st' := []) (M' := mk tl I L rd) rfl rfl ?_
  refine Runs.cg (M := mk tl (up1 I 114 (I 114)) L rd) rfl (mk_cg (up1_self _ 114).symm rfl) ?_
  refine ftM_run tl I L rd m q hm hb hq hqb _ _ (q - 1) 2 (I 114) (by omega) (by omega) (by omega) (fun e => ?_) (fun e => ?_) _ _
  · replace e : (fT I L m q).1 = 0 := e; exact ⟨by rw [ftA, if_pos e], by rw [ftI, if_pos e]; rfl⟩
  · replace e : ¬ (fT I L m q).1 = 0 := e; exact ⟨by rw [ftA, if_neg e], by rw [ftI, if_neg e]; rfl⟩

def yRing (I : Nat → Nat → Int32) (L : Nat → Nat → Int64) (n m q : Nat) : Int32 × (Nat → Nat → Int32) :=
  (if (ftA (up2 I 61 0 (0 : Int32)) L m q) = 0 then (-1 : Int32) else (ftI (up2 I 61 0 (0 : Int32)) L m q) 102 0, (ftI (up2 I 61 0 (0 : Int32)) L m q))

set_option maxRecDepth 20000 in
theorem c_yRing (tl : List (Nat × Nat)) (I : Nat → Nat → Int32) (L : Nat → Nat → Int64) (rd : Nat → Nat → Option Nat) (n m q : Nat) (hm : I 86 0 = nI m) (hb : m ≤ 40) (hq : I 69 0 = nI q) (hqb : q ≤ 12) (hn : I 104 0 = nI n) (hn4 : n ≤ 4) (hR : RA I n) (hcr : ∀ d, d < m → 0 ≤ (I 88 d).toInt ∧ (I 88 d).toInt < 12) (hdr : ∀ d, d < m → 0 ≤ (I 87 d).toInt ∧ (I 87 d).toInt < 12) : Call 174 [.ref 61] (mk tl I L rd) (some (.int ((yRing I L n m q).1))) (mk tl ((yRing I L n m q).2) L rd) := by
  show Runs 174 0 [some (.ref 61)] [] (mk tl I L rd) (some (.int ((yRing I L n m q).1))) (mk tl ((yRing I L n m q).2) L rd)
  refine Runs.bl 4 (g := true) (i' := 4) (ls' := [some (.ref 61)]) (st' := [.ref 61]) (M' := mk tl (up2 I 61 0 (0 : Int32)) L rd) rfl rfl ?_
  refine Runs.call (k' := 173) (as := [.ref 61]) (rest := []) (r1 := some (.int (ftA (up2 I 61 0 (0 : Int32)) L m q))) (M1 := mk tl (ftI (up2 I 61 0 (0 : Int32)) L m q) L rd) rfl rfl rfl (c_ftI tl (up2 I 61 0 (0 : Int32)) L rd m q hm hb hq hqb) ?_
  refine Runs.bl 1 (g := true) (i' := if decide ((ftA (up2 I 61 0 (0 : Int32)) L m q) = 0) = true then 11 else 6) (ls' := [some (.ref 61)]) (st' := []) (M' := mk tl (ftI (up2 I 61 0 (0 : Int32)) L m q) L rd) rfl rfl ?_
  refine Runs.dia (P := (ftA (up2 I 61 0 (0 : Int32)) L m q) = 0) (vT := (-1 : Int32)) (vF := (ftI (up2 I 61 0 (0 : Int32)) L m q) 102 0) (e := 12) (fun h1 K => ?_) (fun h1 K => ?_) ?_
  · exact Runs.bl 1 (g := true) (i' := 12) (ls' := [some (.ref 61)]) (st' := [.int (-1 : Int32)]) (M' := mk tl (ftI (up2 I 61 0 (0 : Int32)) L m q) L rd) rfl rfl K
  · exact Runs.bl 5 (g := true && true) (i' := 12) (ls' := [some (.ref 61)]) (st' := [.int ((ftI (up2 I 61 0 (0 : Int32)) L m q) 102 0)]) (M' := mk tl (ftI (up2 I 61 0 (0 : Int32)) L m q) L rd) rfl rfl K
  exact Runs.ri rfl rfl (rfl) (rfl)

