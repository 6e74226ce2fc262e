/-! THE CLASS: one token (printed by p75.py) -/
def dI : Nat → Nat → Int32 := fun _ _ => 0
/-- from p on, as long as P holds -/
def rn (P : Int32 → Bool) (T : Nat → Int32) : Nat → Nat → Nat
  | 0, p => p
  | k + 1, p => if P (T p) = true then rn P T k (p + 1) else p
def spc (x : Int32) : Bool := decide (x = 10) || decide (x = 32)
def ltr (x : Int32) : Bool := decide (¬ isLet dI x = 0)
def dgt (x : Int32) : Bool := decide (¬ isDig dI x = 0)
def nv (T : Nat → Int32) (s : Nat) : Nat → Nat → Int32 → Int32
  | 0, _, v => v
  | k + 1, p, v => if dgt (T p) = true then nv T s k (p + 1) (if (5 : Int32) ≤ nI p - nI s then v else v * 10 + T p - 48) else v
theorem rn_le (P : Int32 → Bool) (T : Nat → Int32) : ∀ k p, p ≤ rn P T k p ∧ rn P T k p ≤ p + k := by
  intro k
  induction k with
  | zero => intro p; exact ⟨Nat.le_refl _, Nat.le_refl _⟩
  | succ k ih =>
    intro p
    rw [rn]
    split
    · have := ih (p + 1); omega
    · omega
def sgk (x : Int32) : Int32 := if x = 58 then 3 else if x = 59 then 3 else if x = 60 then 3 else if x = 62 then 3 else if x = 61 then 3 else 4
/-- the token behind p: kind, from, behind, value -/
def stq (T : Nat → Int32) (n : Nat) (va : Int32) (s : Nat) : Int32 × Int32 × Int32 × Int32 :=
  if n ≤ s then (0, nI s, nI s, va) else if isLet dI (T s) = 0 then (if isDig dI (T s) = 0 then (sgk (T s), nI s, nI (s + 1), T s) else (if nI (rn dgt T (n - s) s) - nI s ≤ 5 then 2 else 4, nI s, nI (rn dgt T (n - s) s), nv T s (n - s) s 0)) else (1, nI s, nI (rn ltr T (n - s) s), va)
def stp (T : Nat → Int32) (len bh va : Int32) : Int32 × Int32 × Int32 × Int32 := stq T len.toNatClampNeg va (rn spc T (len.toNatClampNeg - bh.toNatClampNeg) bh.toNatClampNeg)
theorem stp_rng {T : Nat → Int32} {len bh va : Int32} (hl : 0 ≤ len.toInt ∧ len.toInt ≤ 600) (hb : 0 ≤ bh.toInt ∧ bh.toInt ≤ len.toInt) : 0 ≤ (stp T len bh va).2.1.toInt ∧ (stp T len bh va).2.1.toInt ≤ (stp T len bh va).2.2.1.toInt ∧ (stp T len bh va).2.2.1.toInt ≤ len.toInt := by
  obtain ⟨n, hn, rfl⟩ := rng_nI (x := len) (N := 601) (by omega)
  obtain ⟨p, hp, rfl⟩ := rng_nI (x := bh) (N := 601) (by omega)
  rw [nI_toInt (by omega)] at hb hl
  rw [nI_toInt (by omega)] at hb
  rw [stp, nI_clamp (by omega), nI_clamp (by omega), nI_toInt (show n < 2 ^ 31 by omega)]
  have h1 := rn_le spc T (n - p) p
  generalize rn spc T (n - p) p = s at *
  have h2 := rn_le ltr T (n - s) s
  have h3 := rn_le dgt T (n - s) s
  unfold stq
  repeat' split
  all_goals (dsimp only; rw [nI_toInt (by omega)]; (try rw [nI_toInt (by omega)]); omega)

set_option maxRecDepth 20000 in
theorem l_sk (tl : List (Nat × Nat)) (I : Nat → Nat → Int32) (L : Nat → Nat → Int64) (rd : Nat → Nat → Option Nat) (g6 g8 g9 : Int32) (n : Nat) (hn : I 39 5 = nI n) (hn6 : n ≤ 600) (rr : Option Value) (Me : Mm) : ∀ k s, s + k = n → (Runs 76 30 [some (.ref 39)] [] (mk tl (up2 (up2 (up2 (up2 I 39 6 g6) 39 7 (nI (rn spc (I 34) k s))) 39 8 g8) 39 9 g9) L (up2 rd 39 4 (some 34))) rr Me) → Runs 76 4 [some (.ref 39)] [] (mk tl (up2 (up2 (up2 (up2 I 39 6 g6) 39 7 (nI s)) 39 8 g8) 39 9 g9) L (up2 rd 39 4 (some 34))) rr Me := by
  intro k
  induction k with
  | zero =>
    intro s hs hK
    rw [rn] at hK
    refine Runs.bl 5 (g := true) (i' := if decide ((I 39 5) ≤ (nI s)) = true then 30 else 9) (ls' := [some (.ref 39)]) (st' := []) (M' := mk tl (up2 (up2 (up2 (up2 I 39 6 g6) 39 7 (nI s)) 39 8 g8) 39 9 g9) L (up2 rd 39 4 (some 34))) rfl rfl ?_
    refine Runs.brT (by show I 39 5 ≤ nI s; rw [hn]; exact nI_le (by omega) (by omega)) ?_
    refine Runs.cg (M := mk tl (up2 (up2 (up2 (up2 I 39 6 g6) 39 7 (nI s)) 39 8 g8) 39 9 g9) L (up2 rd 39 4 (some 34))) rfl (by refine mk_cg ?_ ?_; (funext x; by_cases e0 : x = 39; (subst e0; funext y; by_cases f0 : y = 6; (subst f0; rfl); by_cases f1 : y = 7; (subst f1; rfl); by_cases f2 : y = 8; (subst f2; rfl); by_cases f3 : y = 9; (subst f3; rfl); simp [up1, up2, upr, f0, f1, f2, f3]); simp only [up1_ne e0, up2_ne e0]); rfl) ?_
    exact hK
  | succ k ih =>
    intro s hs hK
    refine Runs.bl 5 (g := true) (i' := if decide ((I 39 5) ≤ (nI s)) = true then 30 else 9) (ls' := [some (.ref 39)]) (st' := []) (M' := mk tl (up2 (up2 (up2 (up2 I 39 6 g6) 39 7 (nI s)) 39 8 g8) 39 9 g9) L (up2 rd 39 4 (some 34))) rfl rfl ?_
    refine Runs.brF (by show ¬ I 39 5 ≤ nI s; rw [hn]; exact nI_ge (by omega) (by omega)) ?_
    refine Runs.bl 7 (g := inb (nI s) 600 && true) (i' := if decide ((I 34 ((nI s).toNatClampNeg)) = (10 : Int32)) = true then 23 else 16) (ls' := [some (.ref 39)]) (st' := []) (M' := mk tl (up2 (up2 (up2 (up2 I 39 6 g6) 39 7 (nI s)) 39 8 g8) 39 9 g9) L (up2 rd 39 4 (some 34))) rfl (by have q1 := nI_toInt (n := s) (by omega); simp only [Bool.and_true, Bool.true_and, Bool.and_eq_true, inb_iff, Int32.lt_iff_toInt_lt, Int32.le_iff_toInt_le, toI_0, toI_1, toI_2, toI_3, toI_4, toI_5, toI_6, toI_7, toI_8, toI_9, toI_10, toI_12, toI_16, toI_18, toI_20, toI_21, toI_23, toI_24, toI_32, toI_36, toI_39, toI_40, toI_48, toI_50, toI_60, toI_64, toI_75, toI_80, toI_100, toI_144, toI_160, toI_200, toI_256, toI_320, toI_380, toI_576, toI_600, toI_1000, toI_1280, toI_2400, toI_9999, toI_10000, toI_100000, toI_1000000, toI_m1, toI_m100000, toI_s9, toI_s8] at q1 ⊢; omega) ?_
    refine Runs.brP (fun h1 => ?_) (fun h1 => ?_)
    · skip
      refine Runs.bl 7 (g := true) (i' := 4) (ls' := [some (.ref 39)]) (st' := []) (M' := mk tl (up2 (up2 (up2 (up2 (up2 I 39 6 g6) 39 7 (nI s)) 39 8 g8) 39 9 g9) 39 7 ((nI s) + (1 : Int32))) L (up2 rd 39 4 (some 34))) rfl rfl ?_
      refine Runs.cg (M := mk tl (up2 (up2 (up2 (up2 I 39 6 g6) 39 7 ((nI s) + (1 : Int32))) 39 8 g8) 39 9 g9) L (up2 rd 39 4 (some 34))) rfl (by refine mk_cg ?_ ?_; (funext x; by_cases e0 : x = 39; (subst e0; funext y; by_cases f0 : y = 6; (subst f0; rfl); by_cases f1 : y = 7; (subst f1; rfl); by_cases f2 : y = 8; (subst f2; rfl); by_cases f3 : y = 9; (subst f3; rfl); simp [up1, up2, upr, f0, f1, f2, f3]); simp only [up1_ne e0, up2_ne e0]); rfl) ?_
      rw [rn, if_pos (show spc (I 34 s) = true from by have h9 := h1; rw [nI_clamp (by omega)] at h9; simp only [spc, h9]; decide)] at hK; exact Runs.cg rfl (by rw [nI_1]) (ih (s + 1) (by omega) hK)
    · skip
      refine Runs.bl 7 (g := inb (nI s) 600 && true) (i' := if decide (¬ (I 34 ((nI s).toNatClampNeg)) = (32 : Int32)) = true then 30 else 23) (ls' := [some (.ref 39)]) (st' := []) (M' := mk tl (up2 (up2 (up2 (up2 I 39 6 g6) 39 7 (nI s)) 39 8 g8) 39 9 g9) L (up2 rd 39 4 (some 34))) rfl (by have q1 := nI_toInt (n := s) (by omega); simp only [Bool.and_true, Bool.true_and, Bool.and_eq_true, inb_iff, Int32.lt_iff_toInt_lt, Int32.le_iff_toInt_le, toI_0, toI_1, toI_2, toI_3, toI_4, toI_5, toI_6, toI_7, toI_8, toI_9, toI_10, toI_12, toI_16, toI_18, toI_20, toI_21, toI_23, toI_24, toI_32, toI_36, toI_39, toI_40, toI_48, toI_50, toI_60, toI_64, toI_75, toI_80, toI_100, toI_144, toI_160, toI_200, toI_256, toI_320, toI_380, toI_576, toI_600, toI_1000, toI_1280, toI_2400, toI_9999, toI_10000, toI_100000, toI_1000000, toI_m1, toI_m100000, toI_s9, toI_s8] at h1 q1 ⊢; omega) ?_
      refine Runs.brP (fun h2 => ?_) (fun h2 => ?_)
      · skip
        refine Runs.cg (M := mk tl (up2 (up2 (up2 (up2 I 39 6 g6) 39 7 (nI s)) 39 8 g8) 39 9 g9) L (up2 rd 39 4 (some 34))) rfl (by refine mk_cg ?_ ?_; (funext x; by_cases e0 : x = 39; (subst e0; funext y; by_cases f0 : y = 6; (subst f0; rfl); by_cases f1 : y = 7; (subst f1; rfl); by_cases f2 : y = 8; (subst f2; rfl); by_cases f3 : y = 9; (subst f3; rfl); simp [up1, up2, upr, f0, f1, f2, f3]); simp only [up1_ne e0, up2_ne e0]); rfl) ?_
        have h8 := h1; have h9 := h2; rw [nI_clamp (by omega)] at h8 h9; rw [rn, if_neg (show ¬ spc (I 34 s) = true from by simp only [spc, h8, h9]; decide)] at hK; exact hK
      · skip
        refine Runs.bl 7 (g := true) (i' := 4) (ls' := [some (.ref 39)]) (st' := []) (M' := mk tl (up2 (up2 (up2 (up2 (up2 I 39 6 g6) 39 7 (nI s)) 39 8 g8) 39 9 g9) 39 7 ((nI s) + (1 : Int32))) L (up2 rd 39 4 (some 34))) rfl rfl ?_
        refine Runs.cg (M := mk tl (up2 (up2 (up2 (up2 I 39 6 g6) 39 7 ((nI s) + (1 : Int32))) 39 8 g8) 39 9 g9) L (up2 rd 39 4 (some 34))) rfl (by refine mk_cg ?_ ?_; (funext x; by_cases e0 : x = 39; (subst e0; funext y; by_cases f0 : y = 6; (subst f0; rfl); by_cases f1 : y = 7; (subst f1; rfl); by_cases f2 : y = 8; (subst f2; rfl); by_cases f3 : y = 9; (subst f3; rfl); simp [up1, up2, upr, f0, f1, f2, f3]); simp only [up1_ne e0, up2_ne e0]); rfl) ?_
        rw [rn, if_pos (show spc (I 34 s) = true from by have h9 := (Decidable.not_not.mp h2); rw [nI_clamp (by omega)] at h9; simp only [spc, h9]; decide)] at hK; exact Runs.cg rfl (by rw [nI_1]) (ih (s + 1) (by omega) hK)

set_option maxRecDepth 20000 in
theorem l_wd (tl : List (Nat × Nat)) (I : Nat → Nat → Int32) (L : Nat → Nat → Int64) (rd : Nat → Nat → Option Nat) (g6 g7 g9 : Int32) (n : Nat) (hn : I 39 5 = nI n) (hn6 : n ≤ 600) : ∀ k p, p + k = n → Call 77 [.ref 39] (mk tl (up2 (up2 (up2 (up2 I 39 6 g6) 39 7 g7) 39 8 (nI p)) 39 9 g9) L (up2 rd 39 4 (some 34))) none (mk tl (up2 (up2 (up2 (up2 I 39 6 (1 : Int32)) 39 7 g7) 39 8 (nI (rn ltr (I 34) k p))) 39 9 g9) L (up2 rd 39 4 (some 34))) := by
  intro k
  induction k with
  | zero =>
    intro p hp
    show Runs 77 0 [some (.ref 39)] [] (mk tl (up2 (up2 (up2 (up2 I 39 6 g6) 39 7 g7) 39 8 (nI p)) 39 9 g9) L (up2 rd 39 4 (some 34))) none _
    refine Runs.bl 5 (g := true) (i' := if decide ((I 39 5) ≤ (nI p)) = true then 19 else 5) (ls' := [some (.ref 39)]) (st' := []) (M' := mk tl (up2 (up2 (up2 (up2 I 39 6 g6) 39 7 g7) 39 8 (nI p)) 39 9 g9) L (up2 rd 39 4 (some 34))) rfl rfl ?_
    refine Runs.brT (by show I 39 5 ≤ nI p; rw [hn]; exact nI_le (by omega) (by omega)) ?_
    refine Runs.bl 3 (g := true) (i' := 22) (ls' := [some (.ref 39)]) (st' := []) (M' := mk tl (up2 (up2 (up2 (up2 (up2 I 39 6 g6) 39 7 g7) 39 8 (nI p)) 39 9 g9) 39 6 (1 : Int32)) L (up2 rd 39 4 (some 34))) rfl rfl ?_
    exact Runs.rv rfl rfl (by rw [rn]; refine mk_cg ?_ ?_; (funext x; by_cases e0 : x = 39; (subst e0; funext y; by_cases f0 : y = 6; (subst f0; rfl); by_cases f1 : y = 7; (subst f1; rfl); by_cases f2 : y = 8; (subst f2; rfl); by_cases f3 : y = 9; (subst f3; rfl); simp [up1, up2, upr, f0, f1, f2, f3]); simp only [up1_ne e0, up2_ne e0]); rfl)
  | succ k ih =>
    intro p hp
    show Runs 77 0 [some (.ref 39)] [] (mk tl (up2 (up2 (up2 (up2 I 39 6 g6) 39 7 g7) 39 8 (nI p)) 39 9 g9) L (up2 rd 39 4 (some 34))) none _
    refine Runs.bl 5 (g := true) (i' := if decide ((I 39 5) ≤ (nI p)) = true then 19 else 5) (ls' := [some (.ref 39)]) (st' := []) (M' := mk tl (up2 (up2 (up2 (up2 I 39 6 g6) 39 7 g7) 39 8 (nI p)) 39 9 g9) L (up2 rd 39 4 (some 34))) rfl rfl ?_
    refine Runs.brF (by show ¬ I 39 5 ≤ nI p; rw [hn]; exact nI_ge (by omega) (by omega)) ?_
    refine Runs.bl 5 (g := inb (nI p) 600 && true) (i' := 10) (ls' := [some (.ref 39)]) (st' := [.int (I 34 ((nI p).toNatClampNeg))]) (M' := mk tl (up2 (up2 (up2 (up2 I 39 6 g6) 39 7 g7) 39 8 (nI p)) 39 9 g9) L (up2 rd 39 4 (some 34))) rfl (by have q1 := nI_toInt (n := p) (by omega); simp only [Bool.and_true, Bool.true_and, Bool.and_eq_true, inb_iff, Int32.lt_iff_toInt_lt, Int32.le_iff_toInt_le, toI_0, toI_1, toI_2, toI_3, toI_4, toI_5, toI_6, toI_7, toI_8, toI_9, toI_10, toI_12, toI_16, toI_18, toI_20, toI_21, toI_23, toI_24, toI_32, toI_36, toI_39, toI_40, toI_48, toI_50, toI_60, toI_64, toI_75, toI_80, toI_100, toI_144, toI_160, toI_200, toI_256, toI_320, toI_380, toI_576, toI_600, toI_1000, toI_1280, toI_2400, toI_9999, toI_10000, toI_100000, toI_1000000, toI_m1, toI_m100000, toI_s9, toI_s8] at q1 ⊢; omega) ?_
    refine Runs.call (k' := 79) (as := [.int (I 34 ((nI p).toNatClampNeg))]) (rest := []) (r1 := some (.int (isLet I (I 34 ((nI p).toNatClampNeg))))) (M1 := mk tl (up2 (up2 (up2 (up2 I 39 6 g6) 39 7 g7) 39 8 (nI p)) 39 9 g9) L (up2 rd 39 4 (some 34))) rfl rfl rfl (c_isLet tl (up2 (up2 (up2 (up2 I 39 6 g6) 39 7 g7) 39 8 (nI p)) 39 9 g9) L (up2 rd 39 4 (some 34)) (I 34 ((nI p).toNatClampNeg)) ) ?_
    refine Runs.bl 1 (g := true) (i' := if decide ((isLet I (I 34 ((nI p).toNatClampNeg))) = 0) = true then 19 else 12) (ls' := [some (.ref 39)]) (st' := []) (M' := mk tl (up2 (up2 (up2 (up2 I 39 6 g6) 39 7 g7) 39 8 (nI p)) 39 9 g9) L (up2 rd 39 4 (some 34))) rfl rfl ?_
    refine Runs.brP (fun h1 => ?_) (fun h1 => ?_)
    · skip
      refine Runs.bl 3 (g := true) (i' := 22) (ls' := [some (.ref 39)]) (st' := []) (M' := mk tl (up2 (up2 (up2 (up2 (up2 I 39 6 g6) 39 7 g7) 39 8 (nI p)) 39 9 g9) 39 6 (1 : Int32)) L (up2 rd 39 4 (some 34))) rfl rfl ?_
      exact Runs.rv rfl rfl (by rw [rn, if_neg (show ¬ ltr (I 34 p) = true from by have h9 := h1; rw [nI_clamp (by omega)] at h9; exact fun z => of_decide_eq_true z h9)]; refine mk_cg ?_ ?_; (funext x; by_cases e0 : x = 39; (subst e0; funext y; by_cases f0 : y = 6; (subst f0; rfl); by_cases f1 : y = 7; (subst f1; rfl); by_cases f2 : y = 8; (subst f2; rfl); by_cases f3 : y = 9; (subst f3; rfl); simp [up1, up2, upr, f0, f1, f2, f3]); simp only [up1_ne e0, up2_ne e0]); rfl)
    · skip
      refine Runs.bl 7 (g := true) (i' := 0) (ls' := [some (.ref 39)]) (st' := []) (M' := mk tl (up2 (up2 (up2 (up2 (up2 I 39 6 g6) 39 7 g7) 39 8 (nI p)) 39 9 g9) 39 8 ((nI p) + (1 : Int32))) L (up2 rd 39 4 (some 34))) rfl rfl ?_
      refine Runs.cg (M := mk tl (up2 (up2 (up2 (up2 I 39 6 g6) 39 7 g7) 39 8 ((nI p) + (1 : Int32))) 39 9 g9) L (up2 rd 39 4 (some 34))) rfl (by refine mk_cg ?_ ?_; (funext x; by_cases e0 : x = 39; (subst e0; funext y; by_cases f0 : y = 6; (subst f0; rfl); by_cases f1 : y = 7; (subst f1; rfl); by_cases f2 : y = 8; (subst f2; rfl); by_cases f3 : y = 9; (subst f3; rfl); simp [up1, up2, upr, f0, f1, f2, f3]); simp only [up1_ne e0, up2_ne e0]); rfl) ?_
      rw [rn, if_pos (show ltr (I 34 p) = true from by have h9 := h1; rw [nI_clamp (by omega)] at h9; exact decide_eq_true h9)]; exact Runs.cg rfl (by rw [nI_1]) (ih (p + 1) (by omega))

set_option maxRecDepth 20000 in
theorem l_nb (tl : List (Nat × Nat)) (I : Nat → Nat → Int32) (L : Nat → Nat → Int64) (rd : Nat → Nat → Option Nat) (g6 : Int32) (n s : Nat) (hn : I 39 5 = nI n) (hn6 : n ≤ 600) : ∀ k p v, p + k = n → Runs 78 3 [some (.ref 39)] [] (mk tl (up2 (up2 (up2 (up2 I 39 6 g6) 39 7 (nI s)) 39 8 (nI p)) 39 9 v) L (up2 rd 39 4 (some 34))) none (mk tl (up2 (up2 (up2 (up2 I 39 6 (if nI (rn dgt (I 34) k p) - nI s ≤ 5 then 2 else 4)) 39 7 (nI s)) 39 8 (nI (rn dgt (I 34) k p))) 39 9 (nv (I 34) s k p v)) L (up2 rd 39 4 (some 34))) := by
  intro k
  induction k with
  | zero =>
    intro p v hp
    refine Runs.bl 5 (g := true) (i' := if decide ((I 39 5) ≤ (nI p)) = true then 46 else 8) (ls' := [some (.ref 39)]) (st' := []) (M' := mk tl (up2 (up2 (up2 (up2 I 39 6 g6) 39 7 (nI s)) 39 8 (nI p)) 39 9 v) L (up2 rd 39 4 (some 34))) rfl rfl ?_
    refine Runs.brT (by show I 39 5 ≤ nI p; rw [hn]; exact nI_le (by omega) (by omega)) ?_
    refine Runs.bl 8 (g := true) (i' := if decide (((nI p) - (nI s)) ≤ (5 : Int32)) = true then 56 else 54) (ls' := [some (.ref 39)]) (st' := [.ref 39]) (M' := mk tl (up2 (up2 (up2 (up2 I 39 6 g6) 39 7 (nI s)) 39 8 (nI p)) 39 9 v) L (up2 rd 39 4 (some 34))) rfl rfl ?_
    refine Runs.dia (P := ((nI p) - (nI s)) ≤ (5 : Int32)) (vT := (2 : Int32)) (vF := (4 : Int32)) (e := 57) (fun h1 K => ?_) (fun h1 K => ?_) ?_
    · exact Runs.bl 1 (g := true) (i' := 57) (ls' := [some (.ref 39)]) (st' := [.int (2 : Int32), .ref 39]) (M' := mk tl (up2 (up2 (up2 (up2 I 39 6 g6) 39 7 (nI s)) 39 8 (nI p)) 39 9 v) L (up2 rd 39 4 (some 34))) rfl rfl K
    · exact Runs.bl 2 (g := true) (i' := 57) (ls' := [some (.ref 39)]) (st' := [.int (4 : Int32), .ref 39]) (M' := mk tl (up2 (up2 (up2 (up2 I 39 6 g6) 39 7 (nI s)) 39 8 (nI p)) 39 9 v) L (up2 rd 39 4 (some 34))) rfl rfl K
    refine Runs.bl 1 (g := true) (i' := 58) (ls' := [some (.ref 39)]) (st' := []) (M' := mk tl (up2 (up2 (up2 (up2 (up2 I 39 6 g6) 39 7 (nI s)) 39 8 (nI p)) 39 9 v) 39 6 (if ((nI p) - (nI s)) ≤ (5 : Int32) then (2 : Int32) else (4 : Int32))) L (up2 rd 39 4 (some 34))) rfl rfl ?_
    exact Runs.rv rfl rfl (by rw [rn, nv]; refine mk_cg ?_ ?_; (funext x; by_cases e0 : x = 39; (subst e0; funext y; by_cases f0 : y = 6; (subst f0; rfl); by_cases f1 : y = 7; (subst f1; rfl); by_cases f2 : y = 8; (subst f2; rfl); by_cases f3 : y = 9; (subst f3; rfl); simp [up1, up2, upr, f0, f1, f2, f3]); simp only [up1_ne e0, up2_ne e0]); rfl)
  | succ k ih =>
    intro p v hp
    refine Runs.bl 5 (g := true) (i' := if decide ((I 39 5) ≤ (nI p)) = true then 46 else 8) (ls' := [some (.ref 39)]) (st' := []) (M' := mk tl (up2 (up2 (up2 (up2 I 39 6 g6) 39 7 (nI s)) 39 8 (nI p)) 39 9 v) L (up2 rd 39 4 (some 34))) rfl rfl ?_
    refine Runs.brF (by show ¬ I 39 5 ≤ nI p; rw [hn]; exact nI_ge (by omega) (by omega)) ?_
    refine Runs.bl 5 (g := inb (nI p) 600 && true) (i' := 13) (ls' := [some (.ref 39)]) (st' := [.int (I 34 ((nI p).toNatClampNeg))]) (M' := mk tl (up2 (up2 (up2 (up2 I 39 6 g6) 39 7 (nI s)) 39 8 (nI p)) 39 9 v) L (up2 rd 39 4 (some 34))) rfl (by have q1 := nI_toInt (n := p) (by omega); simp only [Bool.and_true, Bool.true_and, Bool.and_eq_true, inb_iff, Int32.lt_iff_toInt_lt, Int32.le_iff_toInt_le, toI_0, toI_1, toI_2, toI_3, toI_4, toI_5, toI_6, toI_7, toI_8, toI_9, toI_10, toI_12, toI_16, toI_18, toI_20, toI_21, toI_23, toI_24, toI_32, toI_36, toI_39, toI_40, toI_48, toI_50, toI_60, toI_64, toI_75, toI_80, toI_100, toI_144, toI_160, toI_200, toI_256, toI_320, toI_380, toI_576, toI_600, toI_1000, toI_1280, toI_2400, toI_9999, toI_10000, toI_100000, toI_1000000, toI_m1, toI_m100000, toI_s9, toI_s8] at q1 ⊢; omega) ?_
    refine Runs.call (k' := 80) (as := [.int (I 34 ((nI p).toNatClampNeg))]) (rest := []) (r1 := some (.int (isDig I (I 34 ((nI p).toNatClampNeg))))) (M1 := mk tl (up2 (up2 (up2 (up2 I 39 6 g6) 39 7 (nI s)) 39 8 (nI p)) 39 9 v) L (up2 rd 39 4 (some 34))) rfl rfl rfl (c_isDig tl (up2 (up2 (up2 (up2 I 39 6 g6) 39 7 (nI s)) 39 8 (nI p)) 39 9 v) L (up2 rd 39 4 (some 34)) (I 34 ((nI p).toNatClampNeg)) ) ?_
    refine Runs.bl 1 (g := true) (i' := if decide ((isDig I (I 34 ((nI p).toNatClampNeg))) = 0) = true then 46 else 15) (ls' := [some (.ref 39)]) (st' := []) (M' := mk tl (up2 (up2 (up2 (up2 I 39 6 g6) 39 7 (nI s)) 39 8 (nI p)) 39 9 v) L (up2 rd 39 4 (some 34))) rfl rfl ?_
    refine Runs.brP (fun h1 => ?_) (fun h1 => ?_)
    · skip
      refine Runs.bl 8 (g := true) (i' := if decide (((nI p) - (nI s)) ≤ (5 : Int32)) = true then 56 else 54) (ls' := [some (.ref 39)]) (st' := [.ref 39]) (M' := mk tl (up2 (up2 (up2 (up2 I 39 6 g6) 39 7 (nI s)) 39 8 (nI p)) 39 9 v) L (up2 rd 39 4 (some 34))) rfl rfl ?_
      refine Runs.dia (P := ((nI p) - (nI s)) ≤ (5 : Int32)) (vT := (2 : Int32)) (vF := (4 : Int32)) (e := 57) (fun h2 K => ?_) (fun h2 K => ?_) ?_
      · exact Runs.bl 1 (g := true) (i' := 57) (ls' := [some (.ref 39)]) (st' := [.int (2 : Int32), .ref 39]) (M' := mk tl (up2 (up2 (up2 (up2 I 39 6 g6) 39 7 (nI s)) 39 8 (nI p)) 39 9 v) L (up2 rd 39 4 (some 34))) rfl rfl K
      · exact Runs.bl 2 (g := true) (i' := 57) (ls' := [some (.ref 39)]) (st' := [.int (4 : Int32), .ref 39]) (M' := mk tl (up2 (up2 (up2 (up2 I 39 6 g6) 39 7 (nI s)) 39 8 (nI p)) 39 9 v) L (up2 rd 39 4 (some 34))) rfl rfl K
      refine Runs.bl 1 (g := true) (i' := 58) (ls' := [some (.ref 39)]) (st' := []) (M' := mk tl (up2 (up2 (up2 (up2 (up2 I 39 6 g6) 39 7 (nI s)) 39 8 (nI p)) 39 9 v) 39 6 (if ((nI p) - (nI s)) ≤ (5 : Int32) then (2 : Int32) else (4 : Int32))) L (up2 rd 39 4 (some 34))) rfl rfl ?_
      exact Runs.rv rfl rfl (by rw [rn, nv, if_neg (show ¬ dgt (I 34 p) = true from by have h9 := h1; rw [nI_clamp (by omega)] at h9; exact fun z => of_decide_eq_true z h9), if_neg (show ¬ dgt (I 34 p) = true from by have h9 := h1; rw [nI_clamp (by omega)] at h9; exact fun z => of_decide_eq_true z h9)]; refine mk_cg ?_ ?_; (funext x; by_cases e0 : x = 39; (subst e0; funext y; by_cases f0 : y = 6; (subst f0; rfl); by_cases f1 : y = 7; (subst f1; rfl); by_cases f2 : y = 8; (subst f2; rfl); by_cases f3 : y = 9; (subst f3; rfl); simp [up1, up2, upr, f0, f1, f2, f3]); simp only [up1_ne e0, up2_ne e0]); rfl)
    · skip
      refine Runs.bl 8 (g := true) (i' := if decide ((5 : Int32) ≤ ((nI p) - (nI s))) = true then 36 else 23) (ls' := [some (.ref 39)]) (st' := [.ref 39]) (M' := mk tl (up2 (up2 (up2 (up2 I 39 6 g6) 39 7 (nI s)) 39 8 (nI p)) 39 9 v) L (up2 rd 39 4 (some 34))) rfl rfl ?_
      refine Runs.brP (fun h3 => ?_) (fun h3 => ?_)
      · skip
        refine Runs.bl 10 (g := true) (i' := 3) (ls' := [some (.ref 39)]) (st' := []) (M' := mk tl (up2 (up2 (up2 (up2 (up2 (up2 I 39 6 g6) 39 7 (nI s)) 39 8 (nI p)) 39 9 v) 39 9 v) 39 8 ((nI p) + (1 : Int32))) L (up2 rd 39 4 (some 34))) rfl rfl ?_
        refine Runs.cg (M := mk tl (up2 (up2 (up2 (up2 I 39 6 g6) 39 7 (nI s)) 39 8 ((nI p) + (1 : Int32))) 39 9 v) L (up2 rd 39 4 (some 34))) rfl (by refine mk_cg ?_ ?_; (funext x; by_cases e0 : x = 39; (subst e0; funext y; by_cases f0 : y = 6; (subst f0; rfl); by_cases f1 : y = 7; (subst f1; rfl); by_cases f2 : y = 8; (subst f2; rfl); by_cases f3 : y = 9; (subst f3; rfl); simp [up1, up2, upr, f0, f1, f2, f3]); simp only [up1_ne e0, up2_ne e0]); rfl) ?_
        rw [rn, nv, if_pos (show dgt (I 34 p) = true from by have h9 := h1; rw [nI_clamp (by omega)] at h9; exact decide_eq_true h9), if_pos (show dgt (I 34 p) = true from by have h9 := h1; rw [nI_clamp (by omega)] at h9; exact decide_eq_true h9), if_pos h3]; exact Runs.cg rfl (by rw [nI_1]) (ih (p + 1) _ (by omega))
      · skip
        refine Runs.bl 21 (g := inb (nI p) 600 && true) (i' := 3) (ls' := [some (.ref 39)]) (st' := []) (M' := mk tl (up2 (up2 (up2 (up2 (up2 (up2 I 39 6 g6) 39 7 (nI s)) 39 8 (nI p)) 39 9 v) 39 9 (((v * (10 : Int32)) + (I 34 ((nI p).toNatClampNeg))) - (48 : Int32))) 39 8 ((nI p) + (1 : Int32))) L (up2 rd 39 4 (some 34))) rfl (by have q1 := nI_toInt (n := p) (by omega); simp only [Bool.and_true, Bool.true_and, Bool.and_eq_true, inb_iff, Int32.lt_iff_toInt_lt, Int32.le_iff_toInt_le, toI_0, toI_1, toI_2, toI_3, toI_4, toI_5, toI_6, toI_7, toI_8, toI_9, toI_10, toI_12, toI_16, toI_18, toI_20, toI_21, toI_23, toI_24, toI_32, toI_36, toI_39, toI_40, toI_48, toI_50, toI_60, toI_64, toI_75, toI_80, toI_100, toI_144, toI_160, toI_200, toI_256, toI_320, toI_380, toI_576, toI_600, toI_1000, toI_1280, toI_2400, toI_9999, toI_10000, toI_100000, toI_1000000, toI_m1, toI_m100000, toI_s9, toI_s8] at h1 h3 q1 ⊢; omega) ?_
        refine Runs.cg (M := mk tl (up2 (up2 (up2 (up2 I 39 6 g6) 39 7 (nI s)) 39 8 ((nI p) + (1 : Int32))) 39 9 (((v * (10 : Int32)) + (I 34 ((nI p).toNatClampNeg))) - (48 : Int32))) L (up2 rd 39 4 (some 34))) rfl (by refine mk_cg ?_ ?_; (funext x; by_cases e0 : x = 39; (subst e0; funext y; by_cases f0 : y = 6; (subst f0; rfl); by_cases f1 : y = 7; (subst f1; rfl); by_cases f2 : y = 8; (subst f2; rfl); by_cases f3 : y = 9; (subst f3; rfl); simp [up1, up2, upr, f0, f1, f2, f3]); simp only [up1_ne e0, up2_ne e0]); rfl) ?_
        rw [rn, nv, if_pos (show dgt (I 34 p) = true from by have h9 := h1; rw [nI_clamp (by omega)] at h9; exact decide_eq_true h9), if_pos (show dgt (I 34 p) = true from by have h9 := h1; rw [nI_clamp (by omega)] at h9; exact decide_eq_true h9), if_neg h3]; exact Runs.cg rfl (by rw [nI_1, nI_clamp (show p < 2 ^ 31 by omega)]) (ih (p + 1) _ (by omega))

