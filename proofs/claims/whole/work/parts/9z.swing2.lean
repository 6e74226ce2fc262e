/-! THE SWING: sets of DEBTS -/
def SB (m z : Nat) (dd : Nat → Nat) (cn0 : Nat → Bool) (wh0 : Nat → Nat) (bu : Bool) (fr : Nat) (b cn : Nat → Bool) (wh : Nat → Nat) : Prop := ∀ j, j < m → (∀ i, i < z → dd i = j → cn j = (if b i = true then bu else cn0 j) ∧ wh j = (if b i = true then fr else wh0 j)) ∧ ((∀ i, i < z → dd i ≠ j) → cn j = cn0 j ∧ wh j = wh0 j)
section
variable {m z : Nat} {dd : Nat → Nat} {cn0 : Nat → Bool} {wh0 : Nat → Nat} {bu : Bool} {fr : Nat} {b b' cn cn' : Nat → Bool} {wh wh' : Nat → Nat}
theorem SB.cgb (h : SB m z dd cn0 wh0 bu fr b cn wh) (e : ∀ i, i < z → b i = b' i) : SB m z dd cn0 wh0 bu fr b' cn wh := by
  intro j hj
  refine ⟨fun i hi hd => ?_, (h j hj).2⟩
  rw [← e i hi]; exact (h j hj).1 i hi hd
theorem SB.set (h : SB m z dd cn0 wh0 bu fr b cn wh) (inj : ∀ i i', i < z → i' < z → dd i = dd i' → i = i') {i : Nat} (hi : i < z) (v : Bool) : SB m z dd cn0 wh0 bu fr (upr b i v) (upr cn (dd i) (if v = true then bu else cn0 (dd i))) (upr wh (dd i) (if v = true then fr else wh0 (dd i))) := by
  intro j hj
  refine ⟨fun k hk hd => ?_, fun hn => ?_⟩
  · by_cases e : k = i
    · subst e; rw [← hd, upr_at, upr_at, upr_at]; exact ⟨rfl, rfl⟩
    · rw [upr_ne e, upr_ne (fun y => e (inj k i hk hi (hd.trans y))), upr_ne (fun y => e (inj k i hk hi (hd.trans y)))]
      exact (h j hj).1 k hk hd
  · have := hn i hi
    rw [upr_ne (fun y => this y.symm), upr_ne (fun y => this y.symm)]
    exact (h j hj).2 hn
theorem SB.uniq (h : SB m z dd cn0 wh0 bu fr b cn wh) (h' : SB m z dd cn0 wh0 bu fr b cn' wh') {j : Nat} (hj : j < m) : cn j = cn' j ∧ wh j = wh' j := by
  by_cases e : ∃ i, i < z ∧ dd i = j
  · obtain ⟨i, hi, hd⟩ := e
    have a := (h j hj).1 i hi hd
    have a' := (h' j hj).1 i hi hd
    exact ⟨a.1.trans a'.1.symm, a.2.trans a'.2.symm⟩
  · have n : ∀ i, i < z → dd i ≠ j := fun i hi hd => e ⟨i, hi, hd⟩
    have a := (h j hj).2 n
    have a' := (h' j hj).2 n
    exact ⟨a.1.trans a'.1.symm, a.2.trans a'.2.symm⟩
theorem SB.start : SB m z dd cn0 wh0 bu fr (fun _ => false) cn0 wh0 := fun j _ => ⟨fun i _ _ => ⟨by simp, by simp⟩, fun _ => ⟨rfl, rfl⟩⟩
theorem SB.at (h : SB m z dd cn0 wh0 bu fr b cn wh) {i : Nat} (hi : i < z) (hd : dd i < m) : cn (dd i) = (if b i = true then bu else cn0 (dd i)) ∧ wh (dd i) = (if b i = true then fr else wh0 (dd i)) := (h (dd i) hd).1 i hi rfl
end
/-- what the set costs -/
def cstB (co : Nat → Int64) (b : Nat → Bool) (z : Nat) : Int64 := sumL (fun i => if b i = true then co i else 0) z
theorem cstB_cg {co co' : Nat → Int64} {b b' : Nat → Bool} {z : Nat} (e : ∀ i, i < z → b i = b' i ∧ co i = co' i) : cstB co b z = cstB co' b' z := sumL_cg (fun i hi => by rw [(e i hi).1, (e i hi).2])
theorem cstB_on {co : Nat → Int64} {b : Nat → Bool} {z i : Nat} (hi : i < z) (hb : b i = false) : cstB co (upr b i true) z = cstB co b z + co i := by
  unfold cstB
  rw [sumL_at (f := fun i => if b i = true then co i else 0) (g := fun j => if upr b i true j = true then co j else 0) (k := i) (a := co i) (fun j hj => by rw [upr_ne hj]) (by rw [upr_at, if_pos rfl, hb, if_neg (by simp), Int64.zero_add]), if_pos hi]
theorem cstB_off {co : Nat → Int64} {b : Nat → Bool} {z i : Nat} (hi : i < z) (hb : b i = true) : cstB co (upr b i false) z = cstB co b z - co i := by
  have w : upr (upr b i false) i true = b := by
    funext j
    by_cases e : j = i
    · subst e; rw [upr_at]; exact hb.symm
    · rw [upr_ne e, upr_ne e]
  have v := cstB_on (co := co) (b := upr b i false) hi (upr_at _ _ _)
  rw [w] at v
  rw [v, l_asc]
/-- the DEBTS that might be bought, as the class has them in rows 48 .. 51 -/
def GD (I X : Nat → Nat → Int32) (m q P fr z : Nat) (dd : Nat → Nat) : Prop := z ≤ 10 ∧ (∀ i, i < z → dd i < m ∧ X 24 (dd i) = 0 ∧ X 17 (dd i) = nI P ∧ I 48 i = X 18 (dd i) ∧ I 49 i = due X (nI (dd i)) (X 1 4) ∧ (I 51 i = 0 ↔ cnX X P (I 44 1) (dd i) = false)) ∧ (∀ i i', i < z → i' < z → dd i = dd i' → i = i')
theorem ch_t {I X : Nat → Nat → Int32} {m q P fr z : Nat} {dd : Nat → Nat} (L : Nat → Nat → Int64) (hG : GD I X m q P fr z dd) (hq : q ≤ 12) (hm : m ≤ 40) (hfr : fr < q) (e47 : I 47 3 = nI fr) (hcr : ∀ j, j < m → 0 ≤ (X 18 j).toInt ∧ (X 18 j).toInt < q) {sg : Nat → Bool} (hs : ∀ p, p < q → (I 46 p = 0 ↔ sg p = false)) {bu : Bool} (e44 : I 44 1 = 0 ↔ bu = false) {a b : Int32} {g0 : Nat → Int32} {u0 u1 : Int32} {p0 w0 w1 : Int64} {cn : Nat → Bool} {wh : Nat → Nat} (hS : SB m z dd (cnX X P (I 44 1)) (whX X) bu fr (bt a) cn wh) (hT : Tally q m cn wh (duX X) sg g0 u0 u1 w0 w1) (hp : p0 = cstB (fun i => (I 50 i).toInt64) (bt a) z) : ∀ k, k ≤ z → ∃ cn wh, SB m z dd (cnX X P (I 44 1)) (whX X) bu fr (fun i => if i < k then bt b i else bt a i) cn wh ∧ Tally q m cn wh (duX X) sg (ch_it I L g0 u0 u1 p0 w0 w1 a b k).1 (ch_it I L g0 u0 u1 p0 w0 w1 a b k).2.1 (ch_it I L g0 u0 u1 p0 w0 w1 a b k).2.2.1 (ch_it I L g0 u0 u1 p0 w0 w1 a b k).2.2.2.2.1 (ch_it I L g0 u0 u1 p0 w0 w1 a b k).2.2.2.2.2 ∧ (ch_it I L g0 u0 u1 p0 w0 w1 a b k).2.2.2.1 = cstB (fun i => (I 50 i).toInt64) (fun i => if i < k then bt b i else bt a i) z := by
  intro k
  induction k with
  | zero =>
    intro _
    exact ⟨cn, wh, hS.cgb (fun i hi => by rw [if_neg (by omega)]), hT, hp.trans (cstB_cg (fun i hi => ⟨by rw [if_neg (by omega)], rfl⟩))⟩
  | succ k ih =>
    intro hk
    obtain ⟨cn, wh, i1, i2, i3⟩ := ih (by omega)
    rw [ch_it_s]
    generalize ch_it I L g0 u0 u1 p0 w0 w1 a b k = s at i2 i3
    obtain ⟨s1, s2, s3, s4, s5, s6⟩ := s
    dsimp only at i2 i3
    obtain ⟨hz, hd, inj⟩ := hG
    obtain ⟨d1, d2, d3, d4, d5, d6⟩ := hd k (by omega)
    obtain ⟨ps, hps, eps⟩ := rng_nI (x := X 18 (dd k)) (N := q) (hcr _ d1)
    have ewx : whX X (dd k) = ps := by unfold whX; rw [eps, nI_clamp (by omega)]
    have e49 : (I 49 k).toInt64 = duX X (dd k) := by rw [d5]; rfl
    have c1 : (((a ^^^ b) >>> ((nI k) &&& 31)) &&& (1 : Int32)) = 0 ↔ bt a k = bt b k := by
      rw [b_tsr _ (by omega), b_xor]
      cases bt a k <;> cases bt b k <;> decide
    have c2 : ((b >>> ((nI k) &&& 31)) &&& (1 : Int32)) = 0 ↔ bt b k = false := b_tsr _ (by omega)
    have hat := i1.at (i := k) (by omega) d1
    rw [if_neg (Nat.lt_irrefl k)] at hat
    unfold ch_st
    by_cases C : bt a k = bt b k
    · rw [if_pos (c1.mpr C)]
      have em : ∀ i, i < z → (if i < k then bt b i else bt a i) = (if i < k + 1 then bt b i else bt a i) := by
        intro i hi
        by_cases e : i = k
        · subst e; rw [if_neg (by omega), if_pos (by omega)]; exact C
        · by_cases e2 : i < k
          · rw [if_pos e2, if_pos (by omega)]
          · rw [if_neg e2, if_neg (by omega)]
      exact ⟨cn, wh, i1.cgb em, i2, i3.trans (cstB_cg (fun i hi => ⟨em i hi, rfl⟩))⟩
    · rw [if_neg (fun y => C (c1.mp y))]
      have em : ∀ v, bt b k = v → ∀ i, i < z → upr (fun i => if i < k then bt b i else bt a i) k v i = (if i < k + 1 then bt b i else bt a i) := by
        intro v hv i hi
        by_cases e : i = k
        · subst e; rw [upr_at, if_pos (by omega)]; exact hv.symm
        · rw [upr_ne e]
          by_cases e2 : i < k
          · rw [if_pos e2, if_pos (by omega)]
          · rw [if_neg e2, if_neg (by omega)]
      cases hb : bt b k with
      | false =>
        have ha : bt a k = true := by
          cases h : bt a k with
          | true => rfl
          | false => rw [h, hb] at C; exact absurd rfl C
        rw [ha, if_pos rfl, if_pos rfl] at hat
        rw [if_pos (c2.mpr hb)]
        obtain ⟨t1, t2⟩ := sgG_t i2 (I := I) L hq hm hs (i := k) (k := dd k) (ps := ps) (fr := fr) (by omega) d1 hps hfr e47 (d4.trans eps) e49 (co := cnX X P (I 44 1) (dd k)) d6 (fun _ => hat.2) (by rw [hat.1]; exact e44) s4
        have sb := i1.set inj (i := k) (by omega) false
        rw [if_neg (by simp), if_neg (by simp), ewx] at sb
        refine ⟨_, _, sb.cgb (em false hb), t1, ?_⟩
        show (sgG I L s1 s2 s3 s4 s5 s6 (nI k)).2.2.2.1 = _
        rw [t2, i3, ← cstB_cg (fun i hi => ⟨em false hb i hi, rfl⟩), cstB_off (by omega) (by rw [if_neg (Nat.lt_irrefl k)]; exact ha)]
      | true =>
        have ha : bt a k = false := by
          cases h : bt a k with
          | false => rfl
          | true => rw [h, hb] at C; exact absurd rfl C
        rw [ha, if_neg (by simp), if_neg (by simp)] at hat
        rw [if_neg (fun y => by rw [c2.mp y] at hb; cases hb)]
        obtain ⟨t1, t2⟩ := sgT_t i2 (I := I) L hq hm hs (i := k) (k := dd k) (ps := ps) (fr := fr) (by omega) d1 hps hfr e47 (d4.trans eps) e49 (by rw [hat.1]; exact d6) (fun _ => by rw [hat.2]; exact ewx) e44 s4
        have sb := i1.set inj (i := k) (by omega) true
        rw [if_pos rfl, if_pos rfl] at sb
        refine ⟨_, _, sb.cgb (em true hb), t1, ?_⟩
        show (sgT I L s1 s2 s3 s4 s5 s6 (nI k)).2.2.2.1 = _
        rw [t2, i3, ← cstB_cg (fun i hi => ⟨em true hb i hi, rfl⟩), cstB_on (by omega) (by rw [if_neg (Nat.lt_irrefl k)]; exact ha)]
/-- the reference: one set -/
theorem si_t {J X : Nat → Nat → Int32} {m P fr z st : Nat} {dd : Nat → Nat} (L : Nat → Nat → Int64) (hz : z ≤ 10) (hd : ∀ i, i < z → dd i < m ∧ J 124 i = nI (dd i)) (inj : ∀ i i', i < z → i' < z → dd i = dd i' → i = i') (hm : m ≤ 40) {cn0 : Nat → Bool} {wh0 : Nat → Nat} {bu : Bool} (h0 : ∀ j, j < m → (J 123 j = 0 ↔ cn0 j = false) ∧ J 122 j = nI (wh0 j)) {bv : Int32} (hb : bv = if bu = true then 1 else 0) {co : Nat → Int64} (hco : ∀ i, i < z → (((dueR J (nI (dd i))).toInt64) * ((J 85 ((((12 : Int32) * (J 88 (dd i))) + nI P).toNatClampNeg)).toInt64)) / (1000 : Int64) = co i) : ∀ k, k ≤ z → ∃ cn wh, SB m z dd cn0 wh0 bu fr (fun i => decide (i < k) && bt (nI st) i) cn wh ∧ (∀ j, j < m → ((si_it J L (nI P) (nI fr) bv st k).2.2 j = 0 ↔ cn j = false) ∧ (si_it J L (nI P) (nI fr) bv st k).2.1 j = nI (wh j)) ∧ (si_it J L (nI P) (nI fr) bv st k).1 = cstB co (fun i => decide (i < k) && bt (nI st) i) k := by
  intro k
  induction k with
  | zero => intro _; exact ⟨cn0, wh0, SB.start.cgb (fun i _ => by rw [decide_eq_false (by omega), Bool.false_and]), h0, rfl⟩
  | succ k ih =>
    intro hk
    obtain ⟨cn, wh, i1, i2, i3⟩ := ih (by omega)
    obtain ⟨d1, d2⟩ := hd k (by omega)
    rw [si_it_s]
    unfold si_st
    rw [nI_clamp (show k < 2 ^ 31 by omega), d2, nI_clamp (show dd k < 2 ^ 31 by omega), hco k (by omega)]
    have c2 : (((nI st) >>> ((nI k) &&& 31)) &&& (1 : Int32)) = 0 ↔ bt (nI st) k = false := b_tsr _ (by omega)
    have cs : cstB co (fun i => decide (i < k + 1) && bt (nI st) i) (k + 1) = cstB co (fun i => decide (i < k) && bt (nI st) i) k + (if bt (nI st) k = true then co k else 0) := by
      have e1 : cstB co (fun i => decide (i < k + 1) && bt (nI st) i) (k + 1) = cstB co (fun i => decide (i < k + 1) && bt (nI st) i) k + (if (decide (k < k + 1) && bt (nI st) k) = true then co k else 0) := rfl
      have e2 : cstB co (fun i => decide (i < k + 1) && bt (nI st) i) k = cstB co (fun i => decide (i < k) && bt (nI st) i) k := cstB_cg (fun j hj => ⟨by rw [decide_eq_true (show j < k + 1 by omega), decide_eq_true hj], rfl⟩)
      rw [e1, e2, decide_eq_true (show k < k + 1 by omega), Bool.true_and]
    cases hb' : bt (nI st) k with
    | false =>
      rw [if_pos (c2.mpr hb')]
      refine ⟨cn, wh, i1.cgb (fun i hi => ?_), i2, ?_⟩
      · by_cases e : i = k
        · subst e; rw [hb', Bool.and_false, Bool.and_false]
        · congr 1; exact decide_eq_decide.mpr ⟨fun y => by omega, fun y => by omega⟩
      · show (si_it J L (nI P) (nI fr) bv st k).1 = _
        rw [cs, hb', if_neg (by simp), Int64.add_zero]; exact i3
    | true =>
      rw [if_neg (fun y => by rw [c2.mp y] at hb'; cases hb')]
      have sb := i1.set inj (i := k) (by omega) true
      rw [if_pos rfl, if_pos rfl] at sb
      refine ⟨_, _, sb.cgb (fun i hi => ?_), fun j hj => ?_, ?_⟩
      · by_cases e : i = k
        · subst e; rw [upr_at, hb', decide_eq_true (show i < i + 1 by omega)]; rfl
        · rw [upr_ne e]; congr 1; exact decide_eq_decide.mpr ⟨fun y => by omega, fun y => by omega⟩
      · show (upr (si_it J L (nI P) (nI fr) bv st k).2.2 (dd k) (vp_nar .boolean bv) j = 0 ↔ _) ∧ upr (si_it J L (nI P) (nI fr) bv st k).2.1 (dd k) (nI fr) j = _
        by_cases e : j = dd k
        · subst e
          rw [upr_at, upr_at, upr_at, upr_at, hb]
          refine ⟨?_, rfl⟩
          cases bu <;> decide
        · rw [upr_ne e, upr_ne e, upr_ne e, upr_ne e]; exact i2 j hj
      · show (si_it J L (nI P) (nI fr) bv st k).1 + co k = _
        rw [cs, hb', if_pos rfl, i3]
