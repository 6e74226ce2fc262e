/-! FREED: sums, the HELD ones, what they need, on both sides -/
def sumQ (f : Nat → Int) : Nat → Int
  | 0 => 0
  | n + 1 => sumQ f n + f n
theorem sumQ_cg {f g : Nat → Int} : ∀ {n : Nat}, (∀ j, j < n → f j = g j) → sumQ f n = sumQ g n := by
  intro n
  induction n with
  | zero => intro _; rfl
  | succ n ih => intro h; rw [sumQ, sumQ, ih (fun j hj => h j (by omega)), h n (by omega)]
theorem sumQ_b {f : Nat → Int} {B : Int} (hB : 0 ≤ B) : ∀ {n : Nat}, (∀ j, j < n → 0 ≤ f j ∧ f j ≤ B) → 0 ≤ sumQ f n ∧ sumQ f n ≤ B * (n : Int) := by
  intro n
  induction n with
  | zero => intro _; exact ⟨Int.le_refl _, by show (0 : Int) ≤ _; simp⟩
  | succ n ih =>
    intro h
    have h1 := ih (fun j hj => h j (by omega))
    have h2 := h n (by omega)
    rw [sumQ, Int.natCast_succ, Int.mul_add, Int.mul_one]; omega
def popc : Nat → Nat → Nat
  | 0, _ => 0
  | z + 1, x => popc z x + (if bt (nI x) z = true then 1 else 0)
theorem popc_le (x : Nat) : ∀ z, popc z x ≤ z := by
  intro z
  induction z with
  | zero => exact Nat.le_refl _
  | succ z ih => rw [popc]; split <;> omega
theorem popc_pos {x : Nat} : ∀ {z : Nat}, 0 < popc z x → ∃ i, i < z ∧ bt (nI x) i = true := by
  intro z
  induction z with
  | zero => intro h; exact absurd h (Nat.lt_irrefl 0)
  | succ z ih =>
    intro h
    rw [popc] at h
    by_cases e : bt (nI x) z = true
    · exact ⟨z, by omega, e⟩
    · rw [if_neg e] at h
      obtain ⟨i, hi, g⟩ := ih (by omega)
      exact ⟨i, by omega, g⟩
set_option maxRecDepth 100000 in
theorem bitC_eq (I : Nat → Nat → Int32) : ∀ z, z < 9 → ∀ x, x < 2 ^ z → bitC (fun _ _ => 0) (nI x) = nI (popc z x) ∧ (x = 0 ∨ 0 < popc z x) := by decide +kernel
set_option maxRecDepth 100000 in
theorem clr_bit : ∀ x, x < 256 → ∀ i, i < 8 → bt (nI x) i = true → (nI x &&& (((1 : Int32) <<< ((nI i) &&& 31)) ^^^ (-1 : Int32))) = nI (x - 2 ^ i) ∧ 2 ^ i ≤ x ∧ (nI x - ((1 : Int32) <<< (nI i &&& 31))) = nI (x - 2 ^ i) := by decide +kernel
section
variable {c q m n D H B l h : Nat} {X Y : Nat → Nat → Int32}
theorem dueBy_cg {A X : Nat → Nat → Int32} (hA : ∀ a, a ≤ 35 → A a = X a) (L L2 : Nat → Nat → Int64) (p : Int32) (m : Nat) : dueBy_it A L p m = dueBy_it X L2 p m := by
  refine itr_cg (fun j s hj => ?_)
  unfold dueBy_st
  rw [owes_cg hA, due_cg hA, hA 1 (by decide)]
theorem St.dueByZ (z : St c q m n D H B l h X Y) (hc : c ≤ 512) (L : Nat → Nat → Int64) (p : Int32) : ∀ k, k ≤ m → 0 ≤ (dueBy_it X L p k).toInt ∧ (dueBy_it X L p k).toInt ≤ 21000000 * (k : Int) := by
  have hm := z.hq.2.2.1
  have h40 := z.hq.2.2.2.1
  intro k
  induction k with
  | zero => intro _; exact ⟨by show 0 ≤ (0 : Int32).toInt; rw [toI_0]; omega, by show (0 : Int32).toInt ≤ _; rw [toI_0]; omega⟩
  | succ k ih =>
    intro hk
    have h1 := ih (by omega)
    have h2 := z.dueB hc (j := k) (by omega)
    rw [dueBy_it_s]
    unfold dueBy_st
    split
    · rw [Int32.add_zero]; omega
    · rw [add_toInt (by omega) (by omega)]; omega
/-- what one needs of a purse, by itself -/
def needZ (X : Nat → Nat → Int32) (L : Nat → Nat → Int64) (m p : Nat) : Int := (dueBy_it X L (nI p) m).toInt + (X 7 p).toInt - (X 3 p).toInt
theorem St.needB (z : St c q m n D H B l h X Y) (hc : c ≤ 512) (L : Nat → Nat → Int64) {p : Nat} (hp : p < q) : 0 ≤ (X 7 p).toInt ∧ (X 7 p).toInt ≤ 51200000 ∧ 0 ≤ (X 3 p).toInt ∧ (X 3 p).toInt ≤ 512000000 ∧ 0 ≤ (dueBy_it X L (nI p) m).toInt ∧ (dueBy_it X L (nI p) m).toInt ≤ 840000000 := by
  have h40 := z.hq.2.2.2.1
  have d := z.dueByZ hc L (nI p) m (Nat.le_refl _)
  obtain ⟨-, -, -, -, -, -, -, -, -, -, -, -, -, -, b3, b5, b7, -⟩ := z.2.1
  have e1 := b7 p hp
  have e2 := b3.1 p hp
  have e3 := b3.lt hp
  omega
/-- the HELD ones, at most 8, on both sides -/
def FW (X : Nat → Nat → Int32) (L : Nat → Nat → Int64) (m q hi : Nat) (s : (Nat → Int32) × Int32 × (Nat → Int64)) (t : Int32 × (Nat → Int32)) : Prop := ∃ (k : Nat) (w : Nat → Nat), k ≤ 8 ∧ s.2.1 = nI k ∧ t.1 = nI k ∧ (∀ i, i < k → w i < hi ∧ w i < q ∧ s.1 i = nI (w i) ∧ t.2 i = nI (w i) ∧ (s.2.2 i).toInt = needZ X L m (w i)) ∧ (∀ i i', i < k → i' < k → w i = w i' → i = i')
theorem FW.mono {L : Nat → Nat → Int64} {hi hi' : Nat} {s : (Nat → Int32) × Int32 × (Nat → Int64)} {t : Int32 × (Nat → Int32)} (h : FW X L m q hi s t) (e : hi ≤ hi') : FW X L m q hi' s t := by
  obtain ⟨k, w, h1, h2, h3, h4, h5⟩ := h
  exact ⟨k, w, h1, h2, h3, fun i hi => ⟨by have := (h4 i hi).1; omega, (h4 i hi).2⟩, h5⟩
theorem FW.snoc {L : Nat → Nat → Int64} {hi : Nat} {s : (Nat → Int32) × Int32 × (Nat → Int64)} {t : Int32 × (Nat → Int32)} (h : FW X L m q hi s t) (h8 : ¬ (8 : Int32) ≤ s.2.1) (hq : hi < q) {v : Int64} (hv : v.toInt = needZ X L m hi) : FW X L m q (hi + 1) (upr s.1 s.2.1.toNatClampNeg (nI hi), s.2.1 + 1, upr s.2.2 s.2.1.toNatClampNeg v) (t.1 + 1, upr t.2 t.1.toNatClampNeg (nI hi)) := by
  obtain ⟨k, w, h1, h2, h3, h4, h5⟩ := h
  rw [h2] at h8
  rw [Int32.le_iff_toInt_le, toI_8, nI_toInt (by omega)] at h8
  rw [h2, h3, nI_clamp (by omega), nI_1]
  refine ⟨k + 1, upr w k hi, by omega, rfl, rfl, fun i hi' => ?_, fun i i' g1 g2 e => ?_⟩
  · by_cases e : i = k
    · subst e; dsimp only; rw [upr_at, upr_at, upr_at, upr_at]; exact ⟨by omega, hq, rfl, rfl, hv⟩
    · dsimp only; rw [upr_ne e, upr_ne e, upr_ne e, upr_ne e]
      have w := h4 i (by omega)
      exact ⟨by have := w.1; omega, w.2⟩
  · by_cases e1 : i = k
    · by_cases e2 : i' = k
      · rw [e1, e2]
      · rw [e1, upr_at, upr_ne e2] at e
        have := (h4 i' (by omega)).1; omega
    · by_cases e2 : i' = k
      · rw [e2, upr_at, upr_ne e1] at e
        have := (h4 i (by omega)).1; omega
      · rw [upr_ne e1, upr_ne e2] at e; exact h5 i i' (by omega) (by omega) e
theorem sub_toInt64 {a b : Int64} (h1 : -9223372036854775808 ≤ a.toInt - b.toInt) (h2 : a.toInt - b.toInt < 9223372036854775808) : (a - b).toInt = a.toInt - b.toInt := by
  rw [Int64.toInt_sub]; exact Int.bmod_eq_of_le (by omega) (by omega)
theorem St.gath3 (z : St c q m n D H B l h X Y) (hc : c ≤ 512) (L L' : Nat → Nat → Int64) {Y' : Nat → Nat → Int32} (hY : Y' 72 = Y 72) : ∀ f j s t, j + f = q → FW X L m q j s t → FW X L m q q (ga_wl X L m f j s) (wh_wl Y' L' f j t) := by
  have h12 := z.hq.2.1
  intro f
  induction f with
  | zero => intro j s t hj h; rw [show j = q by omega] at h; exact h
  | succ f ih =>
    intro j s t hj h
    rw [ga_wl, wh_wl]
    have es : s.2.1 = t.1 := by obtain ⟨k, w, -, h2, h3, -⟩ := h; rw [h2, h3]
    by_cases c0 : (8 : Int32) ≤ s.2.1
    · rw [if_pos c0, if_pos (show (8 : Int32) ≤ t.1 by rw [← es]; exact c0)]; exact h.mono (by omega)
    · rw [if_neg c0, if_neg (show ¬ (8 : Int32) ≤ t.1 by rw [← es]; exact c0), nI_clamp (by omega), hY, z.held_at (show j < q by omega)]
      by_cases c1 : Y 72 j = 0
      · rw [if_pos c1, if_pos c1]; exact ih (j + 1) _ _ (by omega) (h.mono (by omega))
      · rw [if_neg c1, if_neg c1]
        refine ih (j + 1) _ _ (by omega) (h.snoc c0 (by omega) ?_)
        rw [dueBy_cg (A := up2 (up2 (up1 X 57 s.1) 56 3 s.2.1) 57 s.2.1.toNatClampNeg (nI j)) (X := X) (fun a ha => by rw [up2_ne (by omega), up2_ne (by omega), up1_ne (by omega)]) _ L]
        have b := z.needB hc L (p := j) (by omega)
        unfold needZ
        have e1 : ((dueBy_it X L (nI j) m).toInt64 + (X 7 j).toInt64).toInt = (dueBy_it X L (nI j) m).toInt + (X 7 j).toInt := by rw [add_toInt64 (by rw [i64_of, i64_of]; omega) (by rw [i64_of, i64_of]; omega), i64_of, i64_of]
        rw [sub_toInt64 (by rw [e1, i64_of]; omega) (by rw [e1, i64_of]; omega), e1, i64_of]
/-- what the u-th pays the v-th -/
def payZ (X : Nat → Nat → Int32) (w : Nat → Nat) (u v d : Nat) : Int := if X 17 d = nI (w u) ∧ X 18 d = nI (w v) then (due X (nI d) (X 1 4)).toInt else 0
theorem St.payB (z : St c q m n D H B l h X Y) (hc : c ≤ 512) (w : Nat → Nat) (u v : Nat) : ∀ k, k ≤ m → 0 ≤ sumQ (payZ X w u v) k ∧ sumQ (payZ X w u v) k ≤ 840000000 := by
  have h40 := z.hq.2.2.2.1
  intro k hk
  have h1 := sumQ_b (f := payZ X w u v) (B := 21000000) (by omega) (n := k) (fun j hj => by
    have d := z.dueB hc (j := j) (by omega)
    unfold payZ
    split
    · omega
    · omega)
  omega
/-- the place of one -/
theorem plc_at {A : Nat → Nat → Int32} (L : Nat → Nat → Int64) (p : Int32) {z : Nat} (hz : z ≤ 8) : ∀ f j, j + f = z → (plc_sr A L p f j = -1 ∧ ∀ u, j ≤ u → u < z → ¬ A 57 u = p) ∨ ∃ u, j ≤ u ∧ u < z ∧ A 57 u = p ∧ plc_sr A L p f j = nI u := by
  intro f
  induction f with
  | zero => intro j hj; exact Or.inl ⟨rfl, fun u h1 h2 => by omega⟩
  | succ f ih =>
    intro j hj
    rw [plc_sr, nI_clamp (by omega)]
    by_cases e : A 57 j = p
    · rw [if_neg (not_not_intro e)]
      exact Or.inr ⟨j, Nat.le_refl _, by omega, e, rfl⟩
    · rw [if_pos e]
      rcases ih (j + 1) (by omega) with ⟨g1, g2⟩ | ⟨u, g1, g2, g3, g4⟩
      · left
        refine ⟨g1, fun u h1 h2 => ?_⟩
        by_cases y : u = j
        · subst y; exact e
        · exact g2 u (by omega) h2
      · exact Or.inr ⟨u, by omega, g2, g3, g4⟩
theorem k8 (u v : Nat) : nI u * 8 + nI v = nI (8 * u + v) := by rw [show nI u * 8 = nI (u * 8) from nI_mul u 8, nI_add, Nat.mul_comm]
/-- the class's table of what they pay -/
theorem St.pays (z : St c q m n D H B l h X Y) (hc : c ≤ 512) {A : Nat → Nat → Int32} (L : Nat → Nat → Int64) (hA : ∀ a, a ≤ 35 → A a = X a) {k : Nat} (hk : k ≤ 8) {w : Nat → Nat} (hw : ∀ i, i < k → w i < q ∧ A 57 i = nI (w i)) (inj : ∀ i i', i < k → i' < k → w i = w i' → i = i') {w0 : Nat → Int64} (h0 : ∀ j, j < k * 8 → w0 j = 0) : ∀ d, d ≤ m → ∀ u v, u < k → v < k → (gc_it A L w0 k d (8 * u + v)).toInt = sumQ (payZ X w u v) d := by
  have h40 := z.hq.2.2.2.1
  have h12 := z.hq.2.1
  intro d
  induction d with
  | zero => intro _ u v hu hv; show (w0 (8 * u + v)).toInt = 0; rw [h0 _ (by omega), toL_0]
  | succ d ih =>
    intro hd u v hu hv
    have i0 := ih (by omega) u v hu hv
    have db := z.dueB hc (j := d) (by omega)
    have pb := z.payB hc w u v d (by omega)
    rw [gc_it_s, sumQ]
    unfold gc_st
    rw [nI_clamp (by omega), hA 17 (by decide), hA 18 (by decide), due_cg hA, hA 1 (by decide)]
    have neg1 : ∀ a : Nat, a < 8 → ¬ nI a = -1 := fun a ha => by rw [← Int32.toInt_inj, nI_toInt (by omega), toI_m1]; omega
    unfold payZ
    rcases plc_at (A := A) L (X 17 d) hk k 0 (by omega) with ⟨a1, a2⟩ | ⟨a, -, a2, a3, a4⟩
    · rw [if_pos a1, i0, if_neg (fun y => a2 u (by omega) hu (by rw [(hw u hu).2]; exact y.1.symm))]
      unfold payZ
      omega
    · rcases plc_at (A := A) L (X 18 d) hk k 0 (by omega) with ⟨b1, b2⟩ | ⟨b, -, b2, b3, b4⟩
      · rw [if_neg (show ¬ plc_sr A L (X 17 d) k 0 = -1 by rw [a4]; exact neg1 a (by omega)), if_pos b1, i0, if_neg (fun y => b2 v (by omega) hv (by rw [(hw v hv).2]; exact y.2.symm))]
        unfold payZ
        omega
      · rw [if_neg (show ¬ plc_sr A L (X 17 d) k 0 = -1 by rw [a4]; exact neg1 a (by omega)), if_neg (show ¬ plc_sr A L (X 18 d) k 0 = -1 by rw [b4]; exact neg1 b (by omega)), a4, b4, k8, nI_clamp (by omega)]
        rw [(hw a a2).2] at a3
        rw [(hw b b2).2] at b3
        by_cases e : 8 * u + v = 8 * a + b
        · have ea : u = a := by omega
          have eb : v = b := by omega
          subst ea; subst eb
          rw [upr_at, add_toInt64 (by rw [i0, i64_of]; omega) (by rw [i0, i64_of]; omega), i0, i64_of, if_pos ⟨a3.symm, b3.symm⟩]
          rfl
        · rw [upr_ne e, i0, if_neg (fun y => e (by
            have wa := hw a a2
            have wb := hw b b2
            have wu := hw u hu
            have wv := hw v hv
            have g1 := inj u a hu a2 (nI_inj (by omega) (by omega) (y.1.symm.trans a3.symm))
            have g2 := inj v b hv b2 (nI_inj (by omega) (by omega) (y.2.symm.trans b3.symm))
            rw [g1, g2]))]
          unfold payZ
          omega
end
