/-! THE RING: the measure's range; the row; ring, net (printed by p37.py) -/
theorem add_toI {x y : Int32} (h1 : -2147483648 ≤ x.toInt + y.toInt) (h2 : x.toInt + y.toInt < 2147483648) : (x + y).toInt = x.toInt + y.toInt := by
  rw [Int32.toInt_add, Int.bmod_eq_of_le (by omega) (by omega)]
theorem sub_toI {x y : Int32} (h1 : -2147483648 ≤ x.toInt - y.toInt) (h2 : x.toInt - y.toInt < 2147483648) : (x - y).toInt = x.toInt - y.toInt := by
  rw [Int32.toInt_sub, Int.bmod_eq_of_le (by omega) (by omega)]
def R43 (s : Nat → Int32) : Prop := ∀ i, i < 144 → 0 ≤ (s i).toInt ∧ (s i).toInt ≤ 1000
theorem R43.upr {s : Nat → Int32} (h : R43 s) {k : Nat} {v : Int32} (hv : 0 ≤ v.toInt ∧ v.toInt ≤ 1000) : R43 (upr s k v) := by
  intro i hi
  show 0 ≤ (if i = k then v else s i).toInt ∧ (if i = k then v else s i).toInt ≤ 1000
  split
  · exact hv
  · exact h i hi
theorem m1_R (I : Nat → Nat → Int32) (L : Nat → Nat → Int64) : ∀ j, j ≤ 144 → ∀ i, i < j → 0 ≤ (m1_it I L j i).toInt ∧ (m1_it I L j i).toInt ≤ 1000 := by
  intro j
  induction j with
  | zero => intro _ i hi; omega
  | succ j ih =>
    intro hj i hi
    have key : ∀ v : Int32, 0 ≤ v.toInt ∧ v.toInt ≤ 1000 → 0 ≤ (upr (m1_it I L j) (nI j).toNatClampNeg v i).toInt ∧ (upr (m1_it I L j) (nI j).toNatClampNeg v i).toInt ≤ 1000 := by
      intro v hv
      rw [nI_clamp (by omega)]
      show 0 ≤ (if i = j then v else m1_it I L j i).toInt ∧ (if i = j then v else m1_it I L j i).toInt ≤ 1000
      split
      · exact hv
      · exact ih (by omega) i (by omega)
    rw [m1_it_s, m1_st]
    split
    all_goals exact key _ (by decide)
theorem m2_R (I : Nat → Nat → Int32) (L : Nat → Nat → Int64) {s : Nat → Int32} (h : R43 s) (j : Nat) : R43 (m2_it I L s j) := by
  induction j with
  | zero => exact h
  | succ j ih =>
    rw [m2_it_s, m2_st]
    split
    · exact ih
    · exact ih.upr (by decide)
theorem idx144 {a b : Nat} (ha : a < 12) (hb : b < 12) : (nI a * 12 + nI b).toNatClampNeg = a * 12 + b := by
  rw [show nI a * 12 = nI (a * 12) from nI_mul a 12, nI_add, nI_clamp (by omega)]
theorem sh_R (I : Nat → Nat → Int32) (L : Nat → Nat → Int64) {s : Nat → Int32} (h : R43 s) {a b : Nat} (ha : a < 12) (hb : b < 12) {T : Int32} (hT : 0 ≤ T.toInt ∧ T.toInt ≤ 1000) : ∀ j, j ≤ 12 → R43 (sh_it I L s a b T j) := by
  intro j
  induction j with
  | zero => intro _; exact h
  | succ j ih =>
    intro hj
    have ih := ih (by omega)
    rw [sh_it_s, sh_st]
    refine ih.upr ?_
    have h1 := ih (a * 12 + j) (by omega)
    have h2 := ih (b * 12 + j) (by omega)
    rw [idx144 ha (by omega), idx144 hb (by omega)]
    split
    · rename_i hlt
      rw [Int32.lt_iff_toInt_lt, add_toI (by omega) (by omega)] at hlt
      rw [add_toI (by omega) (by omega)]
      omega
    · exact h1
theorem short_R (I : Nat → Nat → Int32) (L : Nat → Nat → Int64) {s : Nat → Int32} (h : R43 s) {a b : Nat} (ha : a < 12) (hb : b < 12) : R43 (short I L s a b) := by
  unfold short
  split
  · exact h
  · refine sh_R I L h ha hb ?_ 12 (Nat.le_refl _)
    rw [idx144 ha hb]
    exact h _ (by omega)
theorem m3_R (I : Nat → Nat → Int32) (L : Nat → Nat → Int64) {s : Nat → Int32} (h : R43 s) {i : Nat} (hi : i < 12) : ∀ j, j ≤ 12 → R43 (m3_it I L s i j) := by
  intro j
  induction j with
  | zero => intro _; exact h
  | succ j ih => intro hj; rw [m3_it_s, m3_st]; exact short_R I L (ih (by omega)) (by omega) hi
theorem m4_R (I : Nat → Nat → Int32) (L : Nat → Nat → Int64) {s : Nat → Int32} (h : R43 s) : ∀ j, j ≤ 12 → R43 (m4_it I L s j) := by
  intro j
  induction j with
  | zero => intro _; exact h
  | succ j ih => intro hj; rw [m4_it_s, m4_st]; exact m3_R I L (ih (by omega)) (by omega) 12 (Nat.le_refl _)
theorem meas_R (I : Nat → Nat → Int32) (L : Nat → Nat → Int64) (m : Nat) : R43 (meas I L m) := m4_R I L (m2_R I L (fun i hi => m1_R I L 144 (Nat.le_refl _) i hi) m) 12 (Nat.le_refl _)

theorem fol_35 (I : Nat → Nat → Int32) (L : Nat → Nat → Int64) (g : Nat → Int32) (a e : Nat) (l : Int32) (f j : Nat) : fol_sr (up1 I 35 g) L a e l f j = fol_sr I L a e l f j := by
  induction f generalizing j with
  | zero => rfl
  | succ f ih => rw [fol_sr, fol_sr, ih]; rfl

def rf_st (I : Nat → Nat → Int32) (L : Nat → Nat → Int64) (e ln m : Nat) (j : Nat) (s : (Nat → Int32)) : (Nat → Int32) :=
  ((upr s ((nI (j + 1)).toNatClampNeg) (fol_sr I L (s (((nI (j + 1)) - (1 : Int32)).toNatClampNeg)).toNatClampNeg e (((nI ln) - (nI (j + 1))) - (1 : Int32)) m 0)))

def rf_it (I : Nat → Nat → Int32) (L : Nat → Nat → Int64) (e ln m : Nat) (j : Nat) : (Nat → Int32) := itr (rf_st I L e ln m) (upr (I 35) 0 (nI e)) j
theorem rf_it_s (I : Nat → Nat → Int32) (L : Nat → Nat → Int64) (e ln m : Nat) (j : Nat) : (rf_it I L e ln m (j + 1)) = rf_st I L e ln m j (rf_it I L e ln m j) := itr_s _ _ _
theorem rf_all (I : Nat → Nat → Int32) (L : Nat → Nat → Int64) {e ln m : Nat} (he : e < m) (hln : ln ≤ 12) : ∀ j, j ≤ 12 → ∀ i, i ≤ j → ∃ a, a < m ∧ rf_it I L e ln m j i = nI a := by
  intro j
  induction j with
  | zero => intro _ i hi; obtain rfl : i = 0 := by omega
            exact ⟨e, he, rfl⟩
  | succ j ih =>
    intro hj i hi
    rw [rf_it_s, rf_st, nI_clamp (by omega)]
    show ∃ a, a < m ∧ (if i = j + 1 then _ else rf_it I L e ln m j i) = nI a
    split
    · exact fol_cs I L _ e _ he m 0 (Nat.zero_add _)
    · exact ih (by omega) i (by omega)
theorem rf_inv (I : Nat → Nat → Int32) (L : Nat → Nat → Int64) {e ln m : Nat} (he : e < m) (hln : ln ≤ 12) (j : Nat) (hj : j ≤ 12) : ∃ a, a < m ∧ rf_it I L e ln m j ((nI (j + 1) - 1).toNatClampNeg) = nI a := by
  rw [nI_pred, nI_clamp (by omega)]
  exact rf_all I L he hln j hj j (Nat.le_refl _)

set_option maxRecDepth 20000 in
theorem l_rf (tl : List (Nat × Nat)) (I : Nat → Nat → Int32) (L : Nat → Nat → Int64) (rd : Nat → Nat → Option Nat) (e ln m : Nat) (hm : I 16 0 = nI m) (hb : m ≤ 40) (hcr : ∀ d, d < m → 0 ≤ (I 18 d).toInt ∧ (I 18 d).toInt < 12) (hdr : ∀ d, d < m → 0 ≤ (I 17 d).toInt ∧ (I 17 d).toInt < 12) (he : e < m) (hln : ln ≤ 12) (hl1 : 1 ≤ ln) : ∀ j, j ≤ (ln - 1) → Runs 85 53 [some (.ref 42), some (.ref 16), some (.ref 35), some (.int (nI ln)), some (.int (nI e)), some (.int (nI (j + 1)))] [] (mk tl (up1 I 35 (rf_it I L e ln m j)) L rd) (some (.int (nI ln))) (mk tl (up1 I 35 (rf_it I L e ln m ((ln - 1)))) L rd) := by
  refine loopU (ln - 1) (P := fun j => Runs 85 53 [some (.ref 42), some (.ref 16), some (.ref 35), some (.int (nI ln)), some (.int (nI e)), some (.int (nI (j + 1)))] [] (mk tl (up1 I 35 (rf_it I L e ln m j)) L rd) (some (.int (nI ln))) (mk tl (up1 I 35 (rf_it I L e ln m ((ln - 1)))) L rd)) (fun j hj ih => ?_) ?_
  · show Runs 85 53 [some (.ref 42), some (.ref 16), some (.ref 35), some (.int (nI ln)), some (.int (nI e)), some (.int (nI (j + 1)))] [] (mk tl (up1 I 35 (rf_it I L e ln m j)) L rd) (some (.int (nI ln))) (mk tl (up1 I 35 (rf_it I L e ln m ((ln - 1)))) L rd)
    refine Runs.bl 3 (g := true) (i' := if decide ((nI ln) ≤ (nI (j + 1))) = true then 75 else 56) (ls' := [some (.ref 42), some (.ref 16), some (.ref 35), some (.int (nI ln)), some (.int (nI e)), some (.int (nI (j + 1)))]) (st' := []) (M' := mk tl (up1 I 35 (rf_it I L e ln m j)) L rd) rfl rfl ?_
    refine Runs.brF (nI_ge (by omega) (by omega)) ?_
    refine Runs.bl 15 (g := inb ((nI (j + 1)) - (1 : Int32)) 12 && true) (i' := 71) (ls' := [some (.ref 42), some (.ref 16), some (.ref 35), some (.int (nI ln)), some (.int (nI e)), some (.int (nI (j + 1)))]) (st' := [.int (((nI ln) - (nI (j + 1))) - (1 : Int32)), .int (nI e), .int ((rf_it I L e ln m j) (((nI (j + 1)) - (1 : Int32)).toNatClampNeg)), .ref 16, .ref 42, .int (nI (j + 1)), .ref 35]) (M' := mk tl (up1 I 35 (rf_it I L e ln m j)) L rd) rfl (by have q1 := nI_toInt (n := j + 1) (by omega); have q2 := (show (nI (j + 1) - 1).toInt = (j : Int) from by rw [nI_pred, nI_toInt (by omega)]); simp only [Bool.and_true, Bool.true_and, Bool.and_eq_true, inb_iff, Int32.lt_iff_toInt_lt, Int32.le_iff_toInt_le, toI_0, toI_1, toI_2, toI_3, toI_4, toI_5, toI_6, toI_7, toI_8, toI_9, toI_10, toI_12, toI_16, toI_18, toI_20, toI_21, toI_23, toI_24, toI_32, toI_36, toI_39, toI_40, toI_48, toI_50, toI_60, toI_64, toI_75, toI_80, toI_100, toI_144, toI_160, toI_200, toI_256, toI_320, toI_380, toI_576, toI_600, toI_1000, toI_1280, toI_2400, toI_9999, toI_10000, toI_100000, toI_1000000, toI_m1, toI_m100000, toI_s9, toI_s8] at hm hb hcr hdr he hln hl1 q1 q2 ⊢; omega) ?_
    refine Runs.call (k' := 86) (as := [.ref 42, .ref 16, .int ((rf_it I L e ln m j) (((nI (j + 1)) - (1 : Int32)).toNatClampNeg)), .int (nI e), .int (((nI ln) - (nI (j + 1))) - (1 : Int32))]) (rest := [.int (nI (j + 1)), .ref 35]) (r1 := some (.int (fol_sr I L ((rf_it I L e ln m j) (((nI (j + 1)) - (1 : Int32)).toNatClampNeg)).toNatClampNeg e (((nI ln) - (nI (j + 1))) - (1 : Int32)) m 0))) (M1 := mk tl (up1 I 35 (rf_it I L e ln m j)) L rd) rfl rfl rfl (by have hh := c_folI tl (up1 I 35 (rf_it I L e ln m j)) L rd ((rf_it I L e ln m j) (((nI (j + 1)) - (1 : Int32)).toNatClampNeg)) e (((nI ln) - (nI (j + 1))) - (1 : Int32)) m hm hb hcr hdr (rf_inv I L he hln j (by omega)) he; rw [fol_35] at hh; exact hh) ?_
    refine Runs.bl 3 (g := inb (nI (j + 1)) 12 && true) (i' := 53) (ls' := [some (.ref 42), some (.ref 16), some (.ref 35), some (.int (nI ln)), some (.int (nI e)), some (.int ((nI (j + 1)) + 1))]) (st' := []) (M' := mk tl (up2 (up1 I 35 (rf_it I L e ln m j)) 35 ((nI (j + 1)).toNatClampNeg) (fol_sr I L ((rf_it I L e ln m j) (((nI (j + 1)) - (1 : Int32)).toNatClampNeg)).toNatClampNeg e (((nI ln) - (nI (j + 1))) - (1 : Int32)) m 0)) L rd) rfl (by have q1 := nI_toInt (n := j + 1) (by omega); have q2 := (show (nI (j + 1) - 1).toInt = (j : Int) from by rw [nI_pred, nI_toInt (by omega)]); simp only [Bool.and_true, Bool.true_and, Bool.and_eq_true, inb_iff, Int32.lt_iff_toInt_lt, Int32.le_iff_toInt_le, toI_0, toI_1, toI_2, toI_3, toI_4, toI_5, toI_6, toI_7, toI_8, toI_9, toI_10, toI_12, toI_16, toI_18, toI_20, toI_21, toI_23, toI_24, toI_32, toI_36, toI_39, toI_40, toI_48, toI_50, toI_60, toI_64, toI_75, toI_80, toI_100, toI_144, toI_160, toI_200, toI_256, toI_320, toI_380, toI_576, toI_600, toI_1000, toI_1280, toI_2400, toI_9999, toI_10000, toI_100000, toI_1000000, toI_m1, toI_m100000, toI_s9, toI_s8] at hm hb hcr hdr he hln hl1 q1 q2 ⊢; omega) ?_
    refine Runs.cg (ls := [some (.ref 42), some (.ref 16), some (.ref 35), some (.int (nI ln)), some (.int (nI e)), some (.int (nI ((j + 1) + 1)))]) (M := mk tl (up1 I 35 (rf_it I L e ln m (j + 1))) L rd) (by rw [nI_1]) (by rw [rf_it_s, rf_st, row_up2] <;> rfl) ih
  · show Runs 85 53 [some (.ref 42), some (.ref 16), some (.ref 35), some (.int (nI ln)), some (.int (nI e)), some (.int (nI ((ln - 1) + 1)))] [] (mk tl (up1 I 35 (rf_it I L e ln m (ln - 1))) L rd) (some (.int (nI ln))) (mk tl (up1 I 35 (rf_it I L e ln m ((ln - 1)))) L rd)
    refine Runs.bl 3 (g := true) (i' := if decide ((nI ln) ≤ (nI ((ln - 1) + 1))) = true then 75 else 56) (ls' := [some (.ref 42), some (.ref 16), some (.ref 35), some (.int (nI ln)), some (.int (nI e)), some (.int (nI ((ln - 1) + 1)))]) (st' := []) (M' := mk tl (up1 I 35 (rf_it I L e ln m (ln - 1))) L rd) rfl rfl ?_
    refine Runs.brT (nI_le (by omega) (by omega)) ?_
    refine Runs.bl 1 (g := true) (i' := 76) (ls' := [some (.ref 42), some (.ref 16), some (.ref 35), some (.int (nI ln)), some (.int (nI e)), some (.int (nI ((ln - 1) + 1)))]) (st' := [.int (nI ln)]) (M' := mk tl (up1 I 35 (rf_it I L e ln m (ln - 1))) L rd) rfl rfl ?_
    exact Runs.ri rfl rfl (rfl) (rfl)

set_option maxRecDepth 20000 in
theorem l0_rf (tl : List (Nat × Nat)) (I : Nat → Nat → Int32) (L : Nat → Nat → Int64) (rd : Nat → Nat → Option Nat) (e ln m : Nat) (hm : I 16 0 = nI m) (hb : m ≤ 40) (hcr : ∀ d, d < m → 0 ≤ (I 18 d).toInt ∧ (I 18 d).toInt < 12) (hdr : ∀ d, d < m → 0 ≤ (I 17 d).toInt ∧ (I 17 d).toInt < 12) (he : e < m) (hln : ln ≤ 12) (hl1 : 1 ≤ ln) : Runs 85 53 [some (.ref 42), some (.ref 16), some (.ref 35), some (.int (nI ln)), some (.int (nI e)), some (.int (nI (0 + 1)))] [] (mk tl (up1 I 35 (upr (I 35) 0 (nI e))) L rd) (some (.int (nI ln))) (mk tl (up1 I 35 (rf_it I L e ln m ((ln - 1)))) L rd) := l_rf tl I L rd e ln m hm hb hcr hdr he hln hl1 0 (Nat.zero_le _)
/-- THE RING: its length (0: none) and the row -/
def rgF (I : Nat → Nat → Int32) (L : Nat → Nat → Int64) (m : Nat) : Int32 × (Nat → Int32) :=
  if (fd_it (up1 I 43 (meas I L m)) L m).2 = -1 then (0, I 35) else if (fd_it (up1 I 43 (meas I L m)) L m).1 ≤ 12 then ((fd_it (up1 I 43 (meas I L m)) L m).1, rf_it (up1 I 43 (meas I L m)) L (fd_it (up1 I 43 (meas I L m)) L m).2.toNatClampNeg (fd_it (up1 I 43 (meas I L m)) L m).1.toNatClampNeg m ((fd_it (up1 I 43 (meas I L m)) L m).1.toNatClampNeg - 1)) else (0, I 35)
theorem fd_facts (I : Nat → Nat → Int32) (L : Nat → Nat → Int64) {m : Nat} (hb : m ≤ 40) (hst : R43 (I 43)) (hcr : ∀ d, d < m → 0 ≤ (I 18 d).toInt ∧ (I 18 d).toInt < 12) (hdr : ∀ d, d < m → 0 ≤ (I 17 d).toInt ∧ (I 17 d).toInt < 12) (h1 : ¬ (fd_it I L m).2 = -1) (h2 : (fd_it I L m).1 ≤ 12) : ∃ e ln, e < m ∧ 1 ≤ ln ∧ ln ≤ 12 ∧ (fd_it I L m).2 = nI e ∧ (fd_it I L m).1 = nI ln := by
  rcases fd_cs I L m with ⟨h, _⟩ | ⟨a, ha, e1, _, e2⟩
  · exact absurd h h1
  · have hs : 0 ≤ (stepsBack I (nI a) (nI a)).toInt ∧ (stepsBack I (nI a) (nI a)).toInt ≤ 1000 := by
      unfold stepsBack
      have hc := hcr a ha
      have hd := hdr a ha
      rw [nI_clamp (by omega)]
      obtain ⟨x, hx, ex⟩ := rng_nI (N := 12) hc
      obtain ⟨y, hy, ey⟩ := rng_nI (N := 12) hd
      rw [ex, ey, idx144 hx hy]
      exact hst _ (by omega)
    have h3 : ((1 : Int32) + stepsBack I (nI a) (nI a)).toInt = 1 + (stepsBack I (nI a) (nI a)).toInt := by rw [add_toI (by rw [toI_1]; omega) (by rw [toI_1]; omega), toI_1]
    rw [e2, Int32.le_iff_toInt_le, h3, toI_12] at h2
    obtain ⟨ln, hln, el⟩ := rng_nI (x := (fd_it I L m).1) (N := 13) (by rw [e2, h3]; omega)
    refine ⟨a, ln, ha, ?_, by omega, e1, el⟩
    have : (fd_it I L m).1.toInt = ln := by rw [el, nI_toInt (by omega)]
    rw [e2, h3] at this
    omega

set_option maxRecDepth 20000 in
theorem c_rgF (tl : List (Nat × Nat)) (I : Nat → Nat → Int32) (L : Nat → Nat → Int64) (rd : Nat → Nat → Option Nat) (m : Nat) (hm : I 16 0 = nI m) (hb : m ≤ 40) (hcr : ∀ d, d < m → 0 ≤ (I 18 d).toInt ∧ (I 18 d).toInt < 12) (hdr : ∀ d, d < m → 0 ≤ (I 17 d).toInt ∧ (I 17 d).toInt < 12) : Call 85 [.ref 42, .ref 16, .ref 35] (mk tl I L rd) (some (.int ((rgF I L m).1))) (mk tl (up1 (up1 I 43 (meas I L m)) 35 (rgF I L m).2) L rd) := by
  show Runs 85 0 [some (.ref 42), some (.ref 16), some (.ref 35), none, none, none] [] (mk tl I L rd) (some (.int ((rgF I L m).1))) (mk tl (up1 (up1 I 43 (meas I L m)) 35 (rgF I L m).2) L rd)
  refine Runs.bl 2 (g := true) (i' := 2) (ls' := [some (.ref 42), some (.ref 16), some (.ref 35), none, none, none]) (st' := [.ref 16, .ref 42]) (M' := mk tl I L rd) rfl rfl ?_
  refine Runs.call (k' := 88) (as := [.ref 42, .ref 16]) (rest := []) (r1 := none) (M1 := mk tl (up1 I 43 (meas I L m)) L rd) rfl rfl rfl (c_meas tl I L rd m hm hb hcr hdr) ?_
  refine Runs.bl 6 (g := true) (i' := 9) (ls' := [some (.ref 42), some (.ref 16), some (.ref 35), some (.int (1000 : Int32)), some (.int (-1 : Int32)), some (.int (0 : Int32))]) (st' := []) (M' := mk tl (up1 I 43 (meas I L m)) L rd) rfl rfl ?_
  refine l0_fd tl (up1 I 43 (meas I L m)) L rd m hm hb hcr hdr _ _ ?_
  refine Runs.bl 3 (g := true) (i' := if decide (((fd_it (up1 I 43 (meas I L m)) L (m)).2) = (-1 : Int32)) = true then 45 else 41) (ls' := [some (.ref 42), some (.ref 16), some (.ref 35), some (.int ((fd_it (up1 I 43 (meas I L m)) L (m)).1)), some (.int ((fd_it (up1 I 43 (meas I L m)) L (m)).2)), some (.int (nI (m)))]) (st' := []) (M' := mk tl (up1 I 43 (meas I L m)) L rd) rfl rfl ?_
  refine Runs.brP (fun h1 => ?_) (fun h1 => ?_)
  · skip
    refine Runs.bl 1 (g := true) (i' := 46) (ls' := [some (.ref 42), some (.ref 16), some (.ref 35), some (.int ((fd_it (up1 I 43 (meas I L m)) L (m)).1)), some (.int ((fd_it (up1 I 43 (meas I L m)) L (m)).2)), some (.int (nI (m)))]) (st' := [.int (0 : Int32)]) (M' := mk tl (up1 I 43 (meas I L m)) L rd) rfl rfl ?_
    exact Runs.ri rfl rfl (by rw [rgF, if_pos h1]) (by rw [rgF, if_pos h1]; exact mk_cg (up1_self (up1 I 43 (meas I L m)) 35).symm rfl)
  · skip
    refine Runs.bl 4 (g := true) (i' := if decide (((fd_it (up1 I 43 (meas I L m)) L (m)).1) ≤ (12 : Int32)) = true then 47 else 45) (ls' := [some (.ref 42), some (.ref 16), some (.ref 35), some (.int ((fd_it (up1 I 43 (meas I L m)) L (m)).1)), some (.int ((fd_it (up1 I 43 (meas I L m)) L (m)).2)), some (.int (nI (m)))]) (st' := []) (M' := mk tl (up1 I 43 (meas I L m)) L rd) rfl rfl ?_
    refine Runs.brP (fun h2 => ?_) (fun h2 => ?_)
    · skip
      refine Runs.bl 6 (g := true && true) (i' := 53) (ls' := [some (.ref 42), some (.ref 16), some (.ref 35), some (.int ((fd_it (up1 I 43 (meas I L m)) L (m)).1)), some (.int ((fd_it (up1 I 43 (meas I L m)) L (m)).2)), some (.int (1 : Int32))]) (st' := []) (M' := mk tl (up2 (up1 I 43 (meas I L m)) 35 0 ((fd_it (up1 I 43 (meas I L m)) L (m)).2)) L rd) rfl rfl ?_
      rw [rgF, if_neg h1, if_pos h2]
      obtain ⟨e, ln, he, hl1, hln, e1, e2⟩ := fd_facts (up1 I 43 (meas I L m)) L hb (by rw [up1_at]; exact meas_R I L m) hcr hdr h1 h2
      rw [e1, e2, nI_clamp (by omega), nI_clamp (by omega)]
      refine Runs.cg (M := mk tl (up1 (up1 I 43 (meas I L m)) 35 (upr (I 35) 0 (nI e))) L rd) rfl rfl ?_
      exact l0_rf tl (up1 I 43 (meas I L m)) L rd e ln m hm hb hcr hdr he hln hl1
    · skip
      refine Runs.bl 1 (g := true) (i' := 46) (ls' := [some (.ref 42), some (.ref 16), some (.ref 35), some (.int ((fd_it (up1 I 43 (meas I L m)) L (m)).1)), some (.int ((fd_it (up1 I 43 (meas I L m)) L (m)).2)), some (.int (nI (m)))]) (st' := [.int (0 : Int32)]) (M' := mk tl (up1 I 43 (meas I L m)) L rd) rfl rfl ?_
      exact Runs.ri rfl rfl (by rw [rgF, if_neg h1, if_neg h2]) (by rw [rgF, if_neg h1, if_neg h2]; exact mk_cg (up1_self (up1 I 43 (meas I L m)) 35).symm rfl)

def xRing (I : Nat → Nat → Int32) (L : Nat → Nat → Int64) (xa xl : Nat → Nat) (n m q : Nat) : Int32 × (Nat → Nat → Int32) :=
  (if ((rgF I L m).1) ≤ 0 then (-1 : Int32) else (rgF I L m).1, (up2 (up1 (up1 I 43 (meas I L m)) 35 ((rgF I L m).2)) 1 14 ((rgF I L m).1)))

set_option maxRecDepth 20000 in
theorem c_xRing (tl : List (Nat × Nat)) (I : Nat → Nat → Int32) (L : Nat → Nat → Int64) (rd : Nat → Nat → Option Nat) (xa xl N : Nat → Nat) (n m q : Nat) (hm : I 16 0 = nI m) (hb : m ≤ 40) (hq : I 2 0 = nI q) (hqb : q ≤ 12) (hn : I 1 3 = nI n) (hn4 : n ≤ 4) (hA : AO tl rd n xa xl N) (hC : AC I n xa N) (hcr : ∀ d, d < m → 0 ≤ (I 18 d).toInt ∧ (I 18 d).toInt < 12) (hdr : ∀ d, d < m → 0 ≤ (I 17 d).toInt ∧ (I 17 d).toInt < 12) : Call 111 [.ref 0] (mk tl I L rd) (some (.int ((xRing I L xa xl n m q).1))) (mk tl ((xRing I L xa xl n m q).2) L rd) := by
  show Runs 111 0 [some (.ref 0)] [] (mk tl I L rd) (some (.int ((xRing I L xa xl n m q).1))) (mk tl ((xRing I L xa xl n m q).2) L rd)
  refine Runs.bl 10 (g := true) (i' := 10) (ls' := [some (.ref 0)]) (st' := [.ref 35, .ref 16, .ref 42, .ref 1]) (M' := mk tl I L rd) rfl rfl ?_
  refine Runs.call (k' := 85) (as := [.ref 42, .ref 16, .ref 35]) (rest := [.ref 1]) (r1 := some (.int ((rgF I L m).1))) (M1 := mk tl (up1 (up1 I 43 (meas I L m)) 35 ((rgF I L m).2)) L rd) rfl rfl rfl (c_rgF tl I L rd m hm hb hcr hdr) ?_
  refine Runs.bl 5 (g := true) (i' := if decide (((rgF I L m).1) ≤ 0) = true then 20 else 16) (ls' := [some (.ref 0)]) (st' := []) (M' := mk tl (up2 (up1 (up1 I 43 (meas I L m)) 35 ((rgF I L m).2)) 1 14 ((rgF I L m).1)) L rd) rfl rfl ?_
  refine Runs.dia (P := ((rgF I L m).1) ≤ 0) (vT := (-1 : Int32)) (vF := (rgF I L m).1) (e := 21) (fun h1 K => ?_) (fun h1 K => ?_) ?_
  · exact Runs.bl 1 (g := true) (i' := 21) (ls' := [some (.ref 0)]) (st' := [.int (-1 : Int32)]) (M' := mk tl (up2 (up1 (up1 I 43 (meas I L m)) 35 ((rgF I L m).2)) 1 14 ((rgF I L m).1)) L rd) rfl rfl K
  · exact Runs.bl 4 (g := true) (i' := 21) (ls' := [some (.ref 0)]) (st' := [.int ((rgF I L m).1)]) (M' := mk tl (up2 (up1 (up1 I 43 (meas I L m)) 35 ((rgF I L m).2)) 1 14 ((rgF I L m).1)) L rd) rfl rfl K
  exact Runs.ri rfl rfl (rfl) (rfl)

