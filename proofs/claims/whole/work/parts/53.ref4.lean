/-! THE REFERENCE: what TOPICS tell, at a memory that agrees where it matters (printed by p53.py) -/
def relR (a : Nat) : Prop := (66 ≤ a ∧ a ≤ 67) ∨ (70 ≤ a ∧ a ≤ 74) ∨ (86 ≤ a ∧ a ≤ 101) ∨ (104 ≤ a ∧ a ≤ 113)
theorem relR_lit {I J : Nat → Nat → Int32} (h : ∀ a, relR a → J a = I a) (c : Nat) (hc : ((Nat.ble 66 c && Nat.ble c 67) || (Nat.ble 70 c && Nat.ble c 74) || (Nat.ble 86 c && Nat.ble c 101) || (Nat.ble 104 c && Nat.ble c 113)) = true) : J c = I c := by
  refine h c ?_
  simp only [Bool.or_eq_true, Bool.and_eq_true, Nat.ble_eq] at hc
  unfold relR
  omega
theorem gon_cg {I J : Nat → Nat → Int32} (h : ∀ a, relR a → J a = I a) (L : Nat → Nat → Int64) (d k : Int32) (n : Nat) : gon_it J L d k n = gon_it I L d k n := by
  have e : gon_st J L d k = gon_st I L d k := by
    funext j s
    unfold gon_st
    simp only [relR_lit h 105 rfl, relR_lit h 106 rfl]
  unfold gon_it
  rw [e]
theorem lk_st_cg {I J : Nat → Nat → Int32} (h : ∀ a, relR a → J a = I a) (L : Nat → Nat → Int64) (p : Int32) : lk_st J L p = lk_st I L p := by
  funext j s
  unfold lk_st dueR intrR
  simp only [relR_lit h 66 rfl, relR_lit h 87 rfl, relR_lit h 90 rfl, relR_lit h 91 rfl, relR_lit h 94 rfl, relR_lit h 95 rfl, relR_lit h 96 rfl, relR_lit h 97 rfl, relR_lit h 98 rfl]
theorem lk_cg {I J : Nat → Nat → Int32} (h : ∀ a, relR a → J a = I a) (L : Nat → Nat → Int64) (p : Int32) (m : Nat) : ∀ y, y < 3 → lk_it J L p m y = lk_it I L p m y := by
  unfold lk_it
  rw [lk_st_cg h]
  induction m with
  | zero =>
    intro y hy
    have : y = 0 ∨ y = 1 ∨ y = 2 := by omega
    rcases this with rfl | rfl | rfl <;> rfl
  | succ j ih =>
    intro y hy
    rw [itr_s, itr_s, lk_st]
    have i0 := ih 0 (by omega)
    have i1 := ih 1 (by omega)
    have i2 := ih 2 (by omega)
    split
    · rename_i hx; rw [lk_st, if_pos hx]; exact ih y hy
    · rename_i hx
      split
      · rename_i hx2; rw [lk_st, if_neg hx, if_pos hx2]; exact ih y hy
      · rename_i hx2
        rw [lk_st, if_neg hx, if_neg hx2, i0, i1, i2]
        show (if y = 2 then _ else if y = 1 then _ else if y = 0 then _ else _) = (if y = 2 then _ else if y = 1 then _ else if y = 0 then _ else _)
        rw [ih y hy]
theorem look_cg {I J : Nat → Nat → Int32} (h : ∀ a, relR a → J a = I a) (L : Nat → Nat → Int64) (p : Int32) (m : Nat) : ∀ y, y < 8 → lookR J L p m y = lookR I L p m y := by
  intro y hy
  unfold lookR
  rw [relR_lit h 66 rfl, relR_lit h 67 rfl, relR_lit h 70 rfl, relR_lit h 71 rfl, relR_lit h 72 rfl, relR_lit h 73 rfl, relR_lit h 74 rfl]
  show (if y = 7 then _ else if y = 6 then _ else if y = 5 then _ else if y = 4 then _ else if y = 3 then _ else lk_it J L p m y) = (if y = 7 then _ else if y = 6 then _ else if y = 5 then _ else if y = 4 then _ else if y = 3 then _ else lk_it I L p m y)
  by_cases h3 : y < 3
  · rw [lk_cg h L p m y h3]
  · have : y = 3 ∨ y = 4 ∨ y = 5 ∨ y = 6 ∨ y = 7 := by omega
    rcases this with rfl | rfl | rfl | rfl | rfl <;> rfl
def lookG (g : Nat → Int32) (I : Nat → Nat → Int32) (L : Nat → Nat → Int64) (p : Int32) (m : Nat) : Nat → Int32 := lookR (up1 I 121 g) L p m
theorem look_G {I J : Nat → Nat → Int32} (h : ∀ a, relR a → J a = I a) (L : Nat → Nat → Int64) (p : Int32) (m : Nat) : lookR J L p m = lookG (J 121) I L p m := by
  have h' : ∀ a, relR a → J a = (up1 I 121 (J 121)) a := fun a ha => by rw [up1_ne (by unfold relR at ha; omega)]; exact h a ha
  unfold lookG lookR lk_it
  rw [lk_st_cg h', up1_at]
  have h := h'
  rw [relR_lit h 66 rfl, relR_lit h 67 rfl, relR_lit h 70 rfl, relR_lit h 71 rfl, relR_lit h 72 rfl, relR_lit h 73 rfl, relR_lit h 74 rfl]
theorem hol_cg {I J : Nat → Nat → Int32} (h : ∀ a, relR a → J a = I a) (h8 : ∀ y, y < 8 → J 121 y = I 121 y) (L : Nat → Nat → Int64) (l : Nat) : hol J L l = hol I L l := by
  have e : ∀ f j, hol_sr J L l f j = hol_sr I L l f j := by
    intro f
    induction f with
    | zero => intro j; rfl
    | succ f ih =>
      intro j
      have e8 : J 121 ((I 111 (nI (4 * l + j)).toNatClampNeg) &&& 7).toNatClampNeg = I 121 ((I 111 (nI (4 * l + j)).toNatClampNeg) &&& 7).toNatClampNeg := h8 _ (by have := and7 (I 111 (nI (4 * l + j)).toNatClampNeg); show Int.toNat _ < 8; omega)
      rw [hol_sr, hol_sr, ih, relR_lit h 111 rfl, relR_lit h 112 rfl, relR_lit h 113 rfl, e8]
  unfold hol
  rw [e, relR_lit h 109 rfl]
theorem tel_cg {I J : Nat → Nat → Int32} (h : ∀ a, relR a → J a = I a) (h8 : ∀ y, y < 8 → J 121 y = I 121 y) (L : Nat → Nat → Int64) (a : Nat) (w : Int32) (f j : Nat) : tel_sr J L a w f j = tel_sr I L a w f j := by
  induction f generalizing j with
  | zero => rfl
  | succ f ih => rw [tel_sr, tel_sr, ih, hol_cg h h8, relR_lit h 108 rfl, relR_lit h 110 rfl]
theorem tlBy_cg {I J : Nat → Nat → Int32} (h : ∀ a, relR a → J a = I a) (h8 : ∀ y, y < 8 → J 121 y = I 121 y) (L : Nat → Nat → Int64) (w x : Int32) : tlBy J L w x = tlBy I L w x := by
  unfold tlBy
  rw [tel_cg h h8, relR_lit h 107 rfl]
  rfl
theorem tlNow_cg {I J : Nat → Nat → Int32} (h : ∀ a, relR a → J a = I a) (L : Nat → Nat → Int64) (n m : Nat) (p w : Int32) : tlNow J L n m p w = tlNow I L n m p w := by
  unfold tlNow
  rw [gon_cg h, relR_lit h 66 rfl]
  refine tlBy_cg (fun a ha => ?_) (fun y hy => ?_) L w _
  · rw [up1_ne (by unfold relR at ha; omega), up1_ne (by unfold relR at ha; omega), h a ha]
  · rw [up1_at, up1_at]; exact look_cg h L p m y hy
theorem RA.cg {I J : Nat → Nat → Int32} {n : Nat} (hR : RA I n) (h : ∀ a, relR a → J a = I a) : RA J n := by
  intro a ha
  obtain ⟨c, h1, h2, h3⟩ := hR a ha
  refine ⟨c, h1, by rw [relR_lit h 107 rfl]; exact h2, fun i hi => ?_⟩
  rw [relR_lit h 109 rfl]
  exact h3 i hi
theorem c_tnow (tl : List (Nat × Nat)) (I : Nat → Nat → Int32) (L : Nat → Nat → Int64) (rd : Nat → Nat → Option Nat) (p w : Int32) (n m : Nat) (J : Nat → Nat → Int32) (g : Nat → Int32) (hJ : ∀ a, relR a → J a = I a) (hg : J 121 = g) (hm : I 86 0 = nI m) (hb : m ≤ 40) (hn : I 104 0 = nI n) (hn4 : n ≤ 4) (hR : RA I n) (hp : 0 ≤ p.toInt ∧ p.toInt < 12) : Call 199 [.ref 61, .int p, .int w] (mk tl J L rd) (some (.int (tlNow I L n m p w))) (mk tl (up1 J 121 (lookG g I L p m)) L rd) := by
  have hc := c_tlNow tl J L rd p w n m (by rw [relR_lit hJ 86 rfl]; exact hm) hb (by rw [relR_lit hJ 104 rfl]; exact hn) hn4 (hR.cg hJ) hp
  rw [tlNow_cg hJ, look_G hJ, hg] at hc
  exact hc

