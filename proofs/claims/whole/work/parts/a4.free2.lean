/-! FREED: what one needs behind others, on both sides -/
def mx0 (a : Int) : Int := if a < 0 then 0 else a
def parS (X : Nat → Nat → Int32) (w : Nat → Nat) (m la x : Nat) (j : Nat) : Int := if bt (nI x) j = true then sumQ (payZ X w j la) m else 0
def naZ (X : Nat → Nat → Int32) (L : Nat → Nat → Int64) (w : Nat → Nat) (m k la x : Nat) : Int := needZ X L m (w la) - sumQ (parS X w m la x) k
/-- equal, or both above the purse -/
def RL (pu c v : Int) : Prop := c = v ∨ (pu < c ∧ pu < v)
theorem gb_at (I : Nat → Nat → Int32) (L : Nat → Nat → Int64) : ∀ k, k ≤ 64 → ∀ j, j < k → gb_it I L k j = 0 := by
  intro k
  induction k with
  | zero => intro _ j hj; omega
  | succ k ih =>
    intro hk j hj
    rw [gb_it_s]
    unfold gb_st
    rw [nI_clamp (by omega)]
    by_cases e : j = k
    · subst e; rw [upr_at]
    · rw [upr_ne e]; exact ih (by omega) j (by omega)
section
variable {c q m n D H B l h : Nat} {X Y : Nat → Nat → Int32}
theorem St.parB2 (z : St c q m n D H B l h X Y) (hc : c ≤ 512) (w : Nat → Nat) (la x : Nat) : ∀ k, k ≤ 8 → 0 ≤ sumQ (parS X w m la x) k ∧ sumQ (parS X w m la x) k ≤ 6720000000 := by
  intro k hk
  have h1 := sumQ_b (f := parS X w m la x) (B := 840000000) (by omega) (n := k) (fun j hj => by
    have d := z.payB hc w j la m (Nat.le_refl _)
    unfold parS
    split
    · exact d
    · omega)
  omega
theorem St.naS (z : St c q m n D H B l h X Y) (hc : c ≤ 512) (L L1 : Nat → Nat → Int64) {k : Nat} (hk : k ≤ 8) {w : Nat → Nat} (hw : ∀ i, i < k → w i < q) {la : Nat} (hla : la < k) (h58 : (L1 58 la).toInt = needZ X L m (w la)) (h59 : ∀ u, u < k → (L1 59 (8 * u + la)).toInt = sumQ (payZ X w u la) m) (I : Nat → Nat → Int32) (x : Nat) : ∀ j, j ≤ k → (na_it I L1 la (nI x) j).toInt = needZ X L m (w la) - sumQ (parS X w m la x) j := by
  have nb := z.needB hc L (hw la hla)
  intro j
  induction j with
  | zero => intro _; show (L1 58 (nI la).toNatClampNeg).toInt = _ - 0; rw [nI_clamp (by omega), h58]; omega
  | succ j ih =>
    intro hj
    have h1 := ih (by omega)
    have pb := z.parB2 hc w la x j (by omega)
    have py := z.payB hc w j la m (Nat.le_refl _)
    rw [na_it_s, sumQ]
    unfold na_st
    rw [k8, nI_clamp (by omega)]
    have e1 := b_tsr (nI x) (k := j) (by omega)
    unfold needZ at h1 ⊢
    unfold parS
    cases hb : bt (nI x) j with
    | false =>
      rw [if_pos (e1.mpr hb), if_neg (by simp), Int64.sub_zero, h1]
      unfold parS
      omega
    | true =>
      rw [if_neg (fun y => by rw [e1.mp y] at hb; cases hb), if_pos rfl]
      have h9 := h59 j (by omega)
      rw [sub_toInt64 (by rw [h1, h9]; omega) (by rw [h1, h9]; omega), h1, h9]
      unfold parS
      omega
theorem St.needS (z : St c q m n D H B l h X Y) (hc : c ≤ 512) (L L1 : Nat → Nat → Int64) {k : Nat} (hk : k ≤ 8) {w : Nat → Nat} (hw : ∀ i, i < k → w i < q) {la : Nat} (hla : la < k) (h58 : (L1 58 la).toInt = needZ X L m (w la)) (h59 : ∀ u, u < k → (L1 59 (8 * u + la)).toInt = sumQ (payZ X w u la) m) (I : Nat → Nat → Int32) (x : Nat) : (need I L1 la (nI x) k).toInt = mx0 (naZ X L w m k la x) := by
  have h1 := z.naS hc L L1 hk hw hla h58 h59 I x k (Nat.le_refl _)
  unfold need mx0 naZ
  rw [← h1]
  by_cases e : na_it I L1 la (nI x) k < 0
  · rw [if_pos e]
    rw [Int64.lt_iff_toInt_lt, toL_0] at e
    rw [if_pos e]; exact toL_0
  · rw [if_neg e]
    rw [Int64.lt_iff_toInt_lt, toL_0] at e
    rw [if_neg e]
theorem St.naB (z : St c q m n D H B l h X Y) (hc : c ≤ 512) (L : Nat → Nat → Int64) {k : Nat} (hk : k ≤ 8) {w : Nat → Nat} (hw : ∀ i, i < k → w i < q) {la : Nat} (hla : la < k) (x : Nat) : 0 ≤ mx0 (naZ X L w m k la x) ∧ mx0 (naZ X L w m k la x) ≤ 900000000 := by
  have nb := z.needB hc L (hw la hla)
  have pb := z.parB2 hc w la x k hk
  unfold mx0 naZ needZ
  split
  · omega
  · omega
theorem St.liS (z : St c q m n D H B l h X Y) (hc : c ≤ 512) (L' : Nat → Nat → Int64) {J : Nat → Nat → Int32} (hJ : ∀ a, 62 ≤ a → a ≤ 104 → J a = Y a) {k : Nat} (hk : k ≤ 8) {w : Nat → Nat} (hw : ∀ i, i < k → w i < q ∧ J 128 i = nI (w i)) {i u x : Nat} (hi : i < k) (hu : u < k) (hb : bt (nI x) u = true) : ∀ f d s, d + f = m → 0 ≤ s.toInt → s.toInt ≤ 1000000000000 + 21000000 * (d : Int) → (li_wl J L' (nI x) i u f d s).toInt = s.toInt + (sumQ (payZ X w u i) m - sumQ (payZ X w u i) d) := by
  have h40 := z.hq.2.2.2.1
  have h12 := z.hq.2.1
  have zJ := z.cgY hJ
  intro f
  induction f with
  | zero => intro d s hd _ _; rw [show d = m by omega]; show s.toInt = _; omega
  | succ f ih =>
    intro d s hd s0 s1
    have db := z.dueB hc (j := d) (by omega)
    have e1 := b_tsr (nI x) (k := u) (by omega)
    have es : sumQ (payZ X w u i) (d + 1) = sumQ (payZ X w u i) d + payZ X w u i d := rfl
    rw [li_wl, if_neg (fun y => by rw [e1.mp y] at hb; cases hb), nI_clamp (show d < 2 ^ 31 by omega), nI_clamp (show u < 2 ^ 31 by omega), nI_clamp (show i < 2 ^ 31 by omega), (hw u hu).2, (hw i hi).2, zJ.2.2.1.1 d (by omega), zJ.2.2.1.2.1 d (by omega), ← zJ.dueE (show d < m by omega), Int64.add_zero]
    by_cases c1 : X 17 d = nI (w u)
    · rw [if_neg (not_not_intro c1)]
      by_cases c2 : X 18 d = nI (w i)
      · rw [if_neg (not_not_intro c2)]
        have ep : payZ X w u i d = (due X (nI d) (X 1 4)).toInt := if_pos ⟨c1, c2⟩
        have ea : (s + (due X (nI d) (X 1 4)).toInt64).toInt = s.toInt + (due X (nI d) (X 1 4)).toInt := by rw [add_toInt64 (by rw [i64_of]; omega) (by rw [i64_of]; omega), i64_of]
        rw [ih (d + 1) _ (by omega) (by rw [ea]; omega) (by rw [ea]; omega), ea, es, ep]; omega
      · rw [if_pos c2]
        have ep : payZ X w u i d = 0 := if_neg (fun y => c2 y.2)
        rw [ih (d + 1) _ (by omega) s0 (by omega), es, ep]; omega
    · rw [if_pos c1]
      have ep : payZ X w u i d = 0 := if_neg (fun y => c1 y.1)
      rw [ih (d + 1) _ (by omega) s0 (by omega), es, ep]; omega
theorem St.loS (z : St c q m n D H B l h X Y) (hc : c ≤ 512) (L L' : Nat → Nat → Int64) {J : Nat → Nat → Int32} (hJ : ∀ a, 62 ≤ a → a ≤ 104 → J a = Y a) {k : Nat} (hk : k ≤ 8) {w : Nat → Nat} (hw : ∀ i, i < k → w i < q ∧ J 128 i = nI (w i)) {i : Nat} (hi : i < k) (x : Nat) : ∀ u, u ≤ k → (lo2_it J L' (nI x) i m u).toInt = (X 3 (w i)).toInt + sumQ (parS X w m i x) u := by
  have h40 := z.hq.2.2.2.1
  have h12 := z.hq.2.1
  have zJ := z.cgY hJ
  have nb := z.needB hc L (hw i hi).1
  have wi := (hw i hi).1
  intro u
  induction u with
  | zero =>
    intro _
    show ((J 70 (J 128 (nI i).toNatClampNeg).toNatClampNeg).toInt64).toInt = _ + 0
    rw [nI_clamp (by omega), (hw i hi).2, nI_clamp (by omega), zJ.2.1.1 _ wi, i64_of]; omega
  | succ u ih =>
    intro hu
    have h1 := ih (by omega)
    have pb := z.parB2 hc w i x u (by omega)
    rw [lo2_it_s, sumQ]
    unfold lo2_st
    cases hb : bt (nI x) u with
    | false =>
      have e1 := b_tsr (nI x) (k := u) (by omega)
      have e2 : ∀ f d s, li_wl J L' (nI x) i u f d s = s := by
        intro f d s
        cases f with
        | zero => rfl
        | succ f => rw [li_wl, if_pos (e1.mpr hb)]
      rw [e2, h1]
      unfold parS
      rw [hb, if_neg (by simp)]; omega
    | true =>
      rw [z.liS hc L' hJ hk hw hi (by omega) hb m 0 _ (by omega) (by rw [h1]; omega) (by rw [h1]; omega), h1]
      have ep : parS X w m i x u = sumQ (payZ X w u i) m := by unfold parS; rw [hb, if_pos rfl]
      rw [ep]
      show _ + _ + (_ - 0) = _
      omega
theorem St.lackS (z : St c q m n D H B l h X Y) (hc : c ≤ 512) (L L' : Nat → Nat → Int64) {J : Nat → Nat → Int32} (hJ : ∀ a, 62 ≤ a → a ≤ 104 → J a = Y a) {k : Nat} (hk : k ≤ 8) {w : Nat → Nat} (hw : ∀ i, i < k → w i < q ∧ J 128 i = nI (w i)) {i : Nat} (hi : i < k) (x : Nat) : (lacks J L' i (nI x) k m).toInt = mx0 (naZ X L w m k i x) := by
  have h40 := z.hq.2.2.2.1
  have h12 := z.hq.2.1
  have zJ := z.cgY hJ
  have nb := z.needB hc L (hw i hi).1
  have wi := (hw i hi).1
  have h1 := z.loS hc L L' hJ hk hw hi x k (Nat.le_refl _)
  have pb := z.parB2 hc w i x k hk
  unfold lacks
  rw [nI_clamp (show i < 2 ^ 31 by omega), (hw i hi).2, nI_clamp (show w i < 2 ^ 31 by omega), ← zJ.dueBy L L' (nI (w i)), zJ.2.1.2.2.2.2.2.1 _ wi]
  have e1 : ((dueBy_it X L (nI (w i)) m).toInt64 + (X 7 (w i)).toInt64).toInt = (dueBy_it X L (nI (w i)) m).toInt + (X 7 (w i)).toInt := by rw [add_toInt64 (by rw [i64_of, i64_of]; omega) (by rw [i64_of, i64_of]; omega), i64_of, i64_of]
  unfold mx0 naZ needZ
  by_cases g : lg_cmp ((dueBy_it X L (nI (w i)) m).toInt64 + (X 7 (w i)).toInt64) (lo2_it J L' (nI x) i m k) ≤ 0
  · rw [if_pos g, toI_0]
    rw [lg_le, e1, h1] at g
    split
    · rfl
    · omega
  · rw [if_neg g]
    rw [lg_le, e1, h1] at g
    have e2 : ((dueBy_it X L (nI (w i)) m).toInt64 + (X 7 (w i)).toInt64 - lo2_it J L' (nI x) i m k).toInt = (dueBy_it X L (nI (w i)) m).toInt + (X 7 (w i)).toInt - ((X 3 (w i)).toInt + sumQ (parS X w m i x) k) := by rw [sub_toInt64 (by rw [e1, h1]; omega) (by rw [e1, h1]; omega), e1, h1]
    rw [to32 (by rw [e2]; omega) (by rw [e2]; omega), e2, if_neg (by omega)]; omega
theorem RL.min {pu c v d a : Int} (h1 : RL pu c v) (h2 : RL pu d a) : RL pu (if c ≤ d then c else d) (if a < v then a else v) := by
  unfold RL at *
  split <;> split <;> omega
/-- one set, on both sides -/
def OS (pu : Int32) (x : Nat) (g : Nat → Int32) (k : Nat) (v : Int64) (t : Int32 × (Nat → Int32)) : Prop := t.1 = nI (popc k x) ∧ (∀ y, y ≠ x → t.2 y = g y) ∧ 0 ≤ (t.2 x).toInt ∧ (t.2 x).toInt ≤ 2000000000 ∧ ((popc k x = 0 ∧ v = -1 ∧ t.2 x = 2000000000) ∨ (0 < popc k x ∧ 0 ≤ v.toInt ∧ v.toInt ≤ 1000000000 * (x : Int) ∧ RL pu.toInt (t.2 x).toInt v.toInt))
theorem toI_2e9 : (2000000000 : Int32).toInt = 2000000000 := by decide
theorem toL_m1 : (-1 : Int64).toInt = -1 := by decide
set_option maxHeartbeats 1000000 in
theorem St.oneS (z : St c q m n D H B l h X Y) (hc : c ≤ 512) (L L1 L' : Nat → Nat → Int64) (I : Nat → Nat → Int32) {J : Nat → Nat → Int32} (hJ : ∀ a, 62 ≤ a → a ≤ 104 → J a = Y a) {k : Nat} (hk : k ≤ 8) {w : Nat → Nat} (hw : ∀ i, i < k → w i < q ∧ J 128 i = nI (w i)) (h58 : ∀ la, la < k → (L1 58 la).toInt = needZ X L m (w la)) (h59 : ∀ u v, u < k → v < k → (L1 59 (8 * u + v)).toInt = sumQ (payZ X w u v) m) {pu : Int32} (hp : 0 ≤ pu.toInt ∧ pu.toInt ≤ 1000000) {i : Nat} (hi : i + 1 < 256) {g : Nat → Int32} (hg : g (i + 1) = 2000000000) (hr : ∀ y, y < i + 1 → 0 ≤ (L1 60 y).toInt ∧ (L1 60 y).toInt ≤ 1000000000 * (y : Int) ∧ RL pu.toInt (g y).toInt (L1 60 y).toInt ∧ 0 ≤ (g y).toInt ∧ (g y).toInt ≤ 2000000000) : ∀ j, j ≤ k → OS pu (i + 1) g j (lp_it I L1 (nI (i + 1)) k j) (fi_it J L' g pu i k m j) := by
  intro j
  induction j with
  | zero => intro _; exact ⟨rfl, fun _ _ => rfl, by show 0 ≤ (g (i + 1)).toInt; rw [hg, toI_2e9]; omega, by show (g (i + 1)).toInt ≤ _; rw [hg, toI_2e9]; omega, Or.inl ⟨rfl, rfl, hg⟩⟩
  | succ j ih =>
    intro hj
    obtain ⟨i1, i2, i3, i4, i5⟩ := ih (by omega)
    rw [lp_it_s, fi_it_s]
    generalize lp_it I L1 (nI (i + 1)) k j = v at i5
    generalize fi_it J L' g pu i k m j = t at i1 i2 i3 i4 i5
    obtain ⟨t1, t2⟩ := t
    dsimp only at i1 i2 i3 i4 i5
    have e1 := b_tsr (nI (i + 1)) (k := j) (by omega)
    unfold lp_st fi_st
    cases hb : bt (nI (i + 1)) j with
    | false =>
      rw [if_pos (e1.mpr hb), if_pos (e1.mpr hb)]
      have ep : popc (j + 1) (i + 1) = popc j (i + 1) := by rw [popc, hb, if_neg (by simp)]; rfl
      unfold OS
      rw [ep]
      exact ⟨i1, i2, i3, i4, i5⟩
    | true =>
      have nb : ¬ ((nI (i + 1) >>> ((nI j) &&& 31)) &&& (1 : Int32)) = 0 := fun y => by rw [e1.mp y] at hb; cases hb
      rw [if_neg nb, if_neg nb]
      obtain ⟨c1, c2, c3⟩ := clr_bit (i + 1) hi j (by omega) hb
      have ep : popc (j + 1) (i + 1) = popc j (i + 1) + 1 := by rw [popc, hb, if_pos rfl]
      have p2 : 0 < 2 ^ j := Nat.pos_of_ne_zero (by simp)
      rw [c1, c3]
      generalize hy : i + 1 - 2 ^ j = y at c1 c3
      have y1 : y < i + 1 := by omega
      obtain ⟨r1, r2, r3, r4, r5⟩ := hr y y1
      have na := z.needS hc L L1 hk (fun i hi => (hw i hi).1) (la := j) (by omega) (h58 j (by omega)) (fun u hu => h59 u j hu (by omega)) I y
      have nB := z.naB hc L hk (fun i hi => (hw i hi).1) (la := j) (by omega) y
      have la := z.lackS hc L L' (J := up1 J 129 t2) (fun a g1 g2 => by rw [up1_ne (by omega)]; exact hJ a g1 g2) hk (w := w) (fun i hi => ⟨(hw i hi).1, by rw [up1_ne (by decide)]; exact (hw i hi).2⟩) (i := j) (by omega) y
      rw [nI_clamp (show y < 2 ^ 31 by omega), nI_clamp (show i + 1 < 2 ^ 31 by omega)]
      generalize mx0 (naZ X L w m k j y) = NA at na nB la
      generalize hne : need I L1 j (nI y) k = ne at na
      generalize hla : lacks (up1 J 129 t2) L' j (nI y) k m = lk at la
      have ea : (L1 60 y + ne).toInt = (L1 60 y).toInt + NA := by rw [add_toInt64 (by rw [na]; omega) (by rw [na]; omega), na]
      have gy : t2 y = g y := i2 y (by omega)
      -- the class's new one
      have hv : (if ¬ lg_cmp v (-1) = 0 then (if L1 60 y + ne < v then L1 60 y + ne else v) else L1 60 y + ne).toInt = (if v = -1 then (L1 60 y).toInt + NA else if (L1 60 y).toInt + NA < v.toInt then (L1 60 y).toInt + NA else v.toInt) := by
        by_cases e : v = -1
        · rw [if_neg (not_not_intro ((lg_cmp_eq v (-1)).mpr e)), if_pos e, ea]
        · rw [if_pos (fun y => e ((lg_cmp_eq v (-1)).mp y)), if_neg e]
          by_cases e2 : L1 60 y + ne < v
          · rw [if_pos e2, ea]
            rw [Int64.lt_iff_toInt_lt, ea] at e2
            rw [if_pos e2]
          · rw [if_neg e2]
            rw [Int64.lt_iff_toInt_lt, ea] at e2
            rw [if_neg e2]
      -- the reference's
      obtain ⟨cc, hcc, hc1, hc2, hc3⟩ : ∃ cc : Int32, (if t2 y ≤ pu then (t1 + 1, upr t2 (i + 1) (if t2 (i + 1) ≤ t2 y + lk then t2 (i + 1) else t2 y + lk)) else (t1 + 1, upr t2 (i + 1) (if t2 (i + 1) ≤ (2000000000 : Int32) then t2 (i + 1) else (2000000000 : Int32)))) = (t1 + 1, upr t2 (i + 1) (if t2 (i + 1) ≤ cc then t2 (i + 1) else cc)) ∧ RL pu.toInt cc.toInt ((L1 60 y).toInt + NA) ∧ 0 ≤ cc.toInt ∧ cc.toInt ≤ 2000000000 := by
        by_cases e : t2 y ≤ pu
        · have e' := e
          rw [gy, Int32.le_iff_toInt_le] at e'
          have eg : (g y).toInt = (L1 60 y).toInt := by unfold RL at r3; omega
          have es : (t2 y + lk).toInt = (g y).toInt + NA := by rw [gy, add_toInt (by rw [la]; omega) (by rw [la]; omega), la]
          exact ⟨t2 y + lk, by rw [if_pos e], Or.inl (by rw [es, eg]), by rw [es]; omega, by rw [es]; omega⟩
        · have e' := e
          rw [gy, Int32.le_iff_toInt_le] at e'
          refine ⟨2000000000, by rw [if_neg e], Or.inr ⟨by rw [toI_2e9]; omega, ?_⟩, by rw [toI_2e9]; omega, by rw [toI_2e9]; omega⟩
          unfold RL at r3; omega
      rw [hcc]
      have ht : (if t2 (i + 1) ≤ cc then t2 (i + 1) else cc).toInt = if (t2 (i + 1)).toInt ≤ cc.toInt then (t2 (i + 1)).toInt else cc.toInt := by
        by_cases e : t2 (i + 1) ≤ cc
        · rw [if_pos e]; rw [Int32.le_iff_toInt_le] at e; rw [if_pos e]
        · rw [if_neg e]; rw [Int32.le_iff_toInt_le] at e; rw [if_neg e]
      have hx1 : 1000000000 * (y : Int) + 1000000000 ≤ 1000000000 * ((i + 1 : Nat) : Int) := by omega
      refine ⟨by rw [ep, ← nI_1, i1], fun y' hy' => ?_, ?_, ?_, Or.inr ⟨by omega, ?_, ?_, ?_⟩⟩
      · show upr t2 (i + 1) _ y' = _
        rw [upr_ne hy']; exact i2 y' hy'
      · show 0 ≤ (upr t2 (i + 1) _ (i + 1)).toInt
        rw [upr_at, ht]; split <;> omega
      · show (upr t2 (i + 1) _ (i + 1)).toInt ≤ _
        rw [upr_at, ht]; split <;> omega
      · rw [hv]
        rcases i5 with ⟨q1, q2, q3⟩ | ⟨q1, q2, q3, q4⟩
        · rw [if_pos q2]; omega
        · rw [if_neg (fun e => by rw [e, toL_m1] at q2; omega)]; split <;> omega
      · rw [hv]
        rcases i5 with ⟨q1, q2, q3⟩ | ⟨q1, q2, q3, q4⟩
        · rw [if_pos q2]; omega
        · rw [if_neg (fun e => by rw [e, toL_m1] at q2; omega)]; split <;> omega
      · show RL pu.toInt (upr t2 (i + 1) _ (i + 1)).toInt _
        rw [upr_at, ht, hv]
        rcases i5 with ⟨q1, q2, q3⟩ | ⟨q1, q2, q3, q4⟩
        · rw [if_pos q2, q3, toI_2e9]
          unfold RL at hc1 ⊢
          split <;> omega
        · rw [if_neg (show ¬ v = -1 from fun e => by rw [e, toL_m1] at q2; omega)]
          exact q4.min hc1
end
