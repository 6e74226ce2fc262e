/-! THE CLASS: step, and what reads a line (printed by p77.py) -/
set_option maxRecDepth 20000 in
theorem c_nb (tl : List (Nat × Nat)) (I : Nat → Nat → Int32) (L : Nat → Nat → Int64) (rd : Nat → Nat → Option Nat) (g6 g9 : Int32) (n s p : Nat) (hn : I 39 5 = nI n) (hn6 : n ≤ 600) (hp : p ≤ n) : Call 78 [.ref 39] (mk tl (up2 (up2 (up2 (up2 I 39 6 g6) 39 7 (nI s)) 39 8 (nI p)) 39 9 g9) L (up2 rd 39 4 (some 34))) none (mk tl (up2 (up2 (up2 (up2 I 39 6 (if nI (rn dgt (I 34) (n - p) p) - nI s ≤ 5 then 2 else 4)) 39 7 (nI s)) 39 8 (nI (rn dgt (I 34) (n - p) p))) 39 9 (nv (I 34) s (n - p) p 0)) L (up2 rd 39 4 (some 34))) := by
  show Runs 78 0 [some (.ref 39)] [] (mk tl (up2 (up2 (up2 (up2 I 39 6 g6) 39 7 (nI s)) 39 8 (nI p)) 39 9 g9) L (up2 rd 39 4 (some 34))) none _
  refine Runs.bl 3 (g := true) (i' := 3) (ls' := [some (.ref 39)]) (st' := []) (M' := mk tl (up2 (up2 (up2 (up2 (up2 I 39 6 g6) 39 7 (nI s)) 39 8 (nI p)) 39 9 g9) 39 9 (0 : Int32)) L (up2 rd 39 4 (some 34))) rfl rfl ?_
  refine Runs.cg (M := mk tl (up2 (up2 (up2 (up2 I 39 6 g6) 39 7 (nI s)) 39 8 (nI p)) 39 9 (0 : Int32)) L (up2 rd 39 4 (some 34))) rfl (by refine mk_cg ?_ ?_; (funext x; by_cases e0 : x = 39; (subst e0; funext y; by_cases f0 : y = 6; (subst f0; rfl); by_cases f1 : y = 7; (subst f1; rfl); by_cases f2 : y = 8; (subst f2; rfl); by_cases f3 : y = 9; (subst f3; rfl); simp [up1, up2, upr, f0, f1, f2, f3]); simp only [up1_ne e0, up2_ne e0]); rfl) ?_
  exact l_nb tl I L rd g6 n s hn hn6 (n - p) p 0 (by omega)

set_option maxRecDepth 20000 in
theorem c_stN (tl : List (Nat × Nat)) (I : Nat → Nat → Int32) (L : Nat → Nat → Int64) (rd : Nat → Nat → Option Nat) (g6 g7 g9 : Int32) (n p : Nat) (hn : I 39 5 = nI n) (hn6 : n ≤ 600) (hp : p ≤ n) : Call 76 [.ref 39] (mk tl (up2 (up2 (up2 (up2 I 39 6 g6) 39 7 g7) 39 8 (nI p)) 39 9 g9) L (up2 rd 39 4 (some 34))) none (mk tl (up2 (up2 (up2 (up2 I 39 6 ((stq (I 34) n g9 (rn spc (I 34) (n - p) p)).1)) 39 7 ((stq (I 34) n g9 (rn spc (I 34) (n - p) p)).2.1)) 39 8 ((stq (I 34) n g9 (rn spc (I 34) (n - p) p)).2.2.1)) 39 9 ((stq (I 34) n g9 (rn spc (I 34) (n - p) p)).2.2.2)) L (up2 rd 39 4 (some 34))) := by
  show Runs 76 0 [some (.ref 39)] [] (mk tl (up2 (up2 (up2 (up2 I 39 6 g6) 39 7 g7) 39 8 (nI p)) 39 9 g9) L (up2 rd 39 4 (some 34))) none _
  refine Runs.bl 4 (g := true) (i' := 4) (ls' := [some (.ref 39)]) (st' := []) (M' := mk tl (up2 (up2 (up2 (up2 (up2 I 39 6 g6) 39 7 g7) 39 8 (nI p)) 39 9 g9) 39 7 (nI p)) L (up2 rd 39 4 (some 34))) rfl rfl ?_
  refine Runs.cg (M := mk tl (up2 (up2 (up2 (up2 I 39 6 g6) 39 7 (nI p)) 39 8 (nI p)) 39 9 g9) L (up2 rd 39 4 (some 34))) rfl (by refine mk_cg ?_ ?_; (funext x; by_cases e0 : x = 39; (subst e0; funext y; by_cases f0 : y = 6; (subst f0; rfl); by_cases f1 : y = 7; (subst f1; rfl); by_cases f2 : y = 8; (subst f2; rfl); by_cases f3 : y = 9; (subst f3; rfl); simp [up1, up2, upr, f0, f1, f2, f3]); simp only [up1_ne e0, up2_ne e0]); rfl) ?_
  refine l_sk tl I L rd g6 (nI p) g9 n hn hn6 _ _ (n - p) p (by omega) ?_
  have hS := rn_le spc (I 34) (n - p) p
  generalize (rn spc (I 34) (n - p) p) = S at hS ⊢
  refine Runs.bl 9 (g := true) (i' := if decide ((nI S) < (I 39 5)) = true then 43 else 39) (ls' := [some (.ref 39)]) (st' := []) (M' := mk tl (up2 (up2 (up2 (up2 (up2 I 39 6 g6) 39 7 (nI S)) 39 8 (nI p)) 39 9 g9) 39 8 (nI S)) L (up2 rd 39 4 (some 34))) rfl rfl ?_
  refine Runs.brP (fun h1 => ?_) (fun h1 => ?_)
  · skip
    refine Runs.bl 5 (g := inb (nI S) 600 && true) (i' := 48) (ls' := [some (.ref 39)]) (st' := [.int (I 34 ((nI S).toNatClampNeg))]) (M' := mk tl (up2 (up2 (up2 (up2 (up2 I 39 6 g6) 39 7 (nI S)) 39 8 (nI p)) 39 9 g9) 39 8 (nI S)) L (up2 rd 39 4 (some 34))) rfl (by have q1 := nI_toInt (n := S) (by omega); have q2 := (show (I 39 5).toInt = (n : Int) from by rw [hn, nI_toInt (by omega)]); simp only [Bool.and_true, Bool.true_and, Bool.and_eq_true, inb_iff, Int32.lt_iff_toInt_lt, Int32.le_iff_toInt_le, toI_0, toI_1, toI_2, toI_3, toI_4, toI_5, toI_6, toI_7, toI_8, toI_9, toI_10, toI_12, toI_16, toI_18, toI_20, toI_21, toI_23, toI_24, toI_32, toI_36, toI_39, toI_40, toI_48, toI_50, toI_60, toI_64, toI_75, toI_80, toI_100, toI_144, toI_160, toI_200, toI_256, toI_320, toI_380, toI_576, toI_600, toI_1000, toI_1280, toI_2400, toI_9999, toI_10000, toI_100000, toI_1000000, toI_m1, toI_m100000, toI_s9, toI_s8] at h1 q1 q2 ⊢; omega) ?_
    refine Runs.call (k' := 79) (as := [.int (I 34 ((nI S).toNatClampNeg))]) (rest := []) (r1 := some (.int (isLet I (I 34 ((nI S).toNatClampNeg))))) (M1 := mk tl (up2 (up2 (up2 (up2 (up2 I 39 6 g6) 39 7 (nI S)) 39 8 (nI p)) 39 9 g9) 39 8 (nI S)) L (up2 rd 39 4 (some 34))) rfl rfl rfl (c_isLet tl (up2 (up2 (up2 (up2 (up2 I 39 6 g6) 39 7 (nI S)) 39 8 (nI p)) 39 9 g9) 39 8 (nI S)) L (up2 rd 39 4 (some 34)) (I 34 ((nI S).toNatClampNeg)) ) ?_
    refine Runs.bl 1 (g := true) (i' := if decide ((isLet I (I 34 ((nI S).toNatClampNeg))) = 0) = true then 53 else 50) (ls' := [some (.ref 39)]) (st' := []) (M' := mk tl (up2 (up2 (up2 (up2 (up2 I 39 6 g6) 39 7 (nI S)) 39 8 (nI p)) 39 9 g9) 39 8 (nI S)) L (up2 rd 39 4 (some 34))) rfl rfl ?_
    refine Runs.brP (fun h2 => ?_) (fun h2 => ?_)
    · skip
      refine Runs.bl 5 (g := inb (nI S) 600 && true) (i' := 58) (ls' := [some (.ref 39)]) (st' := [.int (I 34 ((nI S).toNatClampNeg))]) (M' := mk tl (up2 (up2 (up2 (up2 (up2 I 39 6 g6) 39 7 (nI S)) 39 8 (nI p)) 39 9 g9) 39 8 (nI S)) L (up2 rd 39 4 (some 34))) rfl (by have q1 := nI_toInt (n := S) (by omega); have q2 := (show (I 39 5).toInt = (n : Int) from by rw [hn, nI_toInt (by omega)]); simp only [Bool.and_true, Bool.true_and, Bool.and_eq_true, inb_iff, Int32.lt_iff_toInt_lt, Int32.le_iff_toInt_le, toI_0, toI_1, toI_2, toI_3, toI_4, toI_5, toI_6, toI_7, toI_8, toI_9, toI_10, toI_12, toI_16, toI_18, toI_20, toI_21, toI_23, toI_24, toI_32, toI_36, toI_39, toI_40, toI_48, toI_50, toI_60, toI_64, toI_75, toI_80, toI_100, toI_144, toI_160, toI_200, toI_256, toI_320, toI_380, toI_576, toI_600, toI_1000, toI_1280, toI_2400, toI_9999, toI_10000, toI_100000, toI_1000000, toI_m1, toI_m100000, toI_s9, toI_s8] at h1 h2 q1 q2 ⊢; omega) ?_
      refine Runs.call (k' := 80) (as := [.int (I 34 ((nI S).toNatClampNeg))]) (rest := []) (r1 := some (.int (isDig I (I 34 ((nI S).toNatClampNeg))))) (M1 := mk tl (up2 (up2 (up2 (up2 (up2 I 39 6 g6) 39 7 (nI S)) 39 8 (nI p)) 39 9 g9) 39 8 (nI S)) L (up2 rd 39 4 (some 34))) rfl rfl rfl (c_isDig tl (up2 (up2 (up2 (up2 (up2 I 39 6 g6) 39 7 (nI S)) 39 8 (nI p)) 39 9 g9) 39 8 (nI S)) L (up2 rd 39 4 (some 34)) (I 34 ((nI S).toNatClampNeg)) ) ?_
      refine Runs.bl 1 (g := true) (i' := if decide ((isDig I (I 34 ((nI S).toNatClampNeg))) = 0) = true then 63 else 60) (ls' := [some (.ref 39)]) (st' := []) (M' := mk tl (up2 (up2 (up2 (up2 (up2 I 39 6 g6) 39 7 (nI S)) 39 8 (nI p)) 39 9 g9) 39 8 (nI S)) L (up2 rd 39 4 (some 34))) rfl rfl ?_
      refine Runs.brP (fun h3 => ?_) (fun h3 => ?_)
      · skip
        refine Runs.bl 12 (g := inb (nI S) 600 && true) (i' := if decide ((I 34 ((nI S).toNatClampNeg)) = (58 : Int32)) = true then 91 else 75) (ls' := [some (.ref 39)]) (st' := [.ref 39]) (M' := mk tl (up2 (up2 (up2 (up2 (up2 (up2 I 39 6 g6) 39 7 (nI S)) 39 8 (nI p)) 39 9 g9) 39 8 (nI S)) 39 9 (I 34 ((nI S).toNatClampNeg))) L (up2 rd 39 4 (some 34))) rfl (by have q1 := nI_toInt (n := S) (by omega); have q2 := (show (I 39 5).toInt = (n : Int) from by rw [hn, nI_toInt (by omega)]); simp only [Bool.and_true, Bool.true_and, Bool.and_eq_true, inb_iff, Int32.lt_iff_toInt_lt, Int32.le_iff_toInt_le, toI_0, toI_1, toI_2, toI_3, toI_4, toI_5, toI_6, toI_7, toI_8, toI_9, toI_10, toI_12, toI_16, toI_18, toI_20, toI_21, toI_23, toI_24, toI_32, toI_36, toI_39, toI_40, toI_48, toI_50, toI_60, toI_64, toI_75, toI_80, toI_100, toI_144, toI_160, toI_200, toI_256, toI_320, toI_380, toI_576, toI_600, toI_1000, toI_1280, toI_2400, toI_9999, toI_10000, toI_100000, toI_1000000, toI_m1, toI_m100000, toI_s9, toI_s8] at h1 h2 h3 q1 q2 ⊢; omega) ?_
        refine Runs.brP (fun h4 => ?_) (fun h4 => ?_)
        · skip
          refine Runs.bl 9 (g := true) (i' := 101) (ls' := [some (.ref 39)]) (st' := []) (M' := mk tl (up2 (up2 (up2 (up2 (up2 (up2 (up2 (up2 I 39 6 g6) 39 7 (nI S)) 39 8 (nI p)) 39 9 g9) 39 8 (nI S)) 39 9 (I 34 ((nI S).toNatClampNeg))) 39 6 (3 : Int32)) 39 8 ((nI S) + (1 : Int32))) L (up2 rd 39 4 (some 34))) rfl rfl ?_
          have hSn : S < n := by have h9 := h1; rw [hn, Int32.lt_iff_toInt_lt, nI_toInt (by omega), nI_toInt (by omega)] at h9; omega
          have g_h2 : isLet dI (I 34 S) = 0 := by have h9 := h2; rw [nI_clamp (by omega)] at h9; exact h9
          have g_h3 : isDig dI (I 34 S) = 0 := by have h9 := h3; rw [nI_clamp (by omega)] at h9; exact h9
          have g_h4 : I 34 S = 58 := by have h9 := h4; rw [nI_clamp (by omega)] at h9; exact h9
          rw [stq, if_neg (show ¬ n ≤ S by omega), if_pos g_h2, if_pos g_h3, sgk, if_pos g_h4]
          exact Runs.rv rfl rfl (by rw [nI_1, nI_clamp (show S < 2 ^ 31 by omega)]; refine mk_cg ?_ ?_; (funext x; by_cases e0 : x = 39; (subst e0; funext y; by_cases f0 : y = 6; (subst f0; rfl); by_cases f1 : y = 7; (subst f1; rfl); by_cases f2 : y = 8; (subst f2; rfl); by_cases f3 : y = 9; (subst f3; rfl); simp [up1, up2, upr, f0, f1, f2, f3]); simp only [up1_ne e0, up2_ne e0]); rfl)
        · skip
          refine Runs.bl 4 (g := true) (i' := if decide ((I 34 ((nI S).toNatClampNeg)) = (59 : Int32)) = true then 91 else 79) (ls' := [some (.ref 39)]) (st' := [.ref 39]) (M' := mk tl (up2 (up2 (up2 (up2 (up2 (up2 I 39 6 g6) 39 7 (nI S)) 39 8 (nI p)) 39 9 g9) 39 8 (nI S)) 39 9 (I 34 ((nI S).toNatClampNeg))) L (up2 rd 39 4 (some 34))) rfl rfl ?_
          refine Runs.brP (fun h5 => ?_) (fun h5 => ?_)
          · skip
            refine Runs.bl 9 (g := true) (i' := 101) (ls' := [some (.ref 39)]) (st' := []) (M' := mk tl (up2 (up2 (up2 (up2 (up2 (up2 (up2 (up2 I 39 6 g6) 39 7 (nI S)) 39 8 (nI p)) 39 9 g9) 39 8 (nI S)) 39 9 (I 34 ((nI S).toNatClampNeg))) 39 6 (3 : Int32)) 39 8 ((nI S) + (1 : Int32))) L (up2 rd 39 4 (some 34))) rfl rfl ?_
            have hSn : S < n := by have h9 := h1; rw [hn, Int32.lt_iff_toInt_lt, nI_toInt (by omega), nI_toInt (by omega)] at h9; omega
            have g_h2 : isLet dI (I 34 S) = 0 := by have h9 := h2; rw [nI_clamp (by omega)] at h9; exact h9
            have g_h3 : isDig dI (I 34 S) = 0 := by have h9 := h3; rw [nI_clamp (by omega)] at h9; exact h9
            have g_h4 : ¬ I 34 S = 58 := by have h9 := h4; rw [nI_clamp (by omega)] at h9; exact h9
            have g_h5 : I 34 S = 59 := by have h9 := h5; rw [nI_clamp (by omega)] at h9; exact h9
            rw [stq, if_neg (show ¬ n ≤ S by omega), if_pos g_h2, if_pos g_h3, sgk, if_neg g_h4, if_pos g_h5]
            exact Runs.rv rfl rfl (by rw [nI_1, nI_clamp (show S < 2 ^ 31 by omega)]; refine mk_cg ?_ ?_; (funext x; by_cases e0 : x = 39; (subst e0; funext y; by_cases f0 : y = 6; (subst f0; rfl); by_cases f1 : y = 7; (subst f1; rfl); by_cases f2 : y = 8; (subst f2; rfl); by_cases f3 : y = 9; (subst f3; rfl); simp [up1, up2, upr, f0, f1, f2, f3]); simp only [up1_ne e0, up2_ne e0]); rfl)
          · skip
            refine Runs.bl 4 (g := true) (i' := if decide ((I 34 ((nI S).toNatClampNeg)) = (60 : Int32)) = true then 91 else 83) (ls' := [some (.ref 39)]) (st' := [.ref 39]) (M' := mk tl (up2 (up2 (up2 (up2 (up2 (up2 I 39 6 g6) 39 7 (nI S)) 39 8 (nI p)) 39 9 g9) 39 8 (nI S)) 39 9 (I 34 ((nI S).toNatClampNeg))) L (up2 rd 39 4 (some 34))) rfl rfl ?_
            refine Runs.brP (fun h6 => ?_) (fun h6 => ?_)
            · skip
              refine Runs.bl 9 (g := true) (i' := 101) (ls' := [some (.ref 39)]) (st' := []) (M' := mk tl (up2 (up2 (up2 (up2 (up2 (up2 (up2 (up2 I 39 6 g6) 39 7 (nI S)) 39 8 (nI p)) 39 9 g9) 39 8 (nI S)) 39 9 (I 34 ((nI S).toNatClampNeg))) 39 6 (3 : Int32)) 39 8 ((nI S) + (1 : Int32))) L (up2 rd 39 4 (some 34))) rfl rfl ?_
              have hSn : S < n := by have h9 := h1; rw [hn, Int32.lt_iff_toInt_lt, nI_toInt (by omega), nI_toInt (by omega)] at h9; omega
              have g_h2 : isLet dI (I 34 S) = 0 := by have h9 := h2; rw [nI_clamp (by omega)] at h9; exact h9
              have g_h3 : isDig dI (I 34 S) = 0 := by have h9 := h3; rw [nI_clamp (by omega)] at h9; exact h9
              have g_h4 : ¬ I 34 S = 58 := by have h9 := h4; rw [nI_clamp (by omega)] at h9; exact h9
              have g_h5 : ¬ I 34 S = 59 := by have h9 := h5; rw [nI_clamp (by omega)] at h9; exact h9
              have g_h6 : I 34 S = 60 := by have h9 := h6; rw [nI_clamp (by omega)] at h9; exact h9
              rw [stq, if_neg (show ¬ n ≤ S by omega), if_pos g_h2, if_pos g_h3, sgk, if_neg g_h4, if_neg g_h5, if_pos g_h6]
              exact Runs.rv rfl rfl (by rw [nI_1, nI_clamp (show S < 2 ^ 31 by omega)]; refine mk_cg ?_ ?_; (funext x; by_cases e0 : x = 39; (subst e0; funext y; by_cases f0 : y = 6; (subst f0; rfl); by_cases f1 : y = 7; (subst f1; rfl); by_cases f2 : y = 8; (subst f2; rfl); by_cases f3 : y = 9; (subst f3; rfl); simp [up1, up2, upr, f0, f1, f2, f3]); simp only [up1_ne e0, up2_ne e0]); rfl)
            · skip
              refine Runs.bl 4 (g := true) (i' := if decide ((I 34 ((nI S).toNatClampNeg)) = (62 : Int32)) = true then 91 else 87) (ls' := [some (.ref 39)]) (st' := [.ref 39]) (M' := mk tl (up2 (up2 (up2 (up2 (up2 (up2 I 39 6 g6) 39 7 (nI S)) 39 8 (nI p)) 39 9 g9) 39 8 (nI S)) 39 9 (I 34 ((nI S).toNatClampNeg))) L (up2 rd 39 4 (some 34))) rfl rfl ?_
              refine Runs.brP (fun h7 => ?_) (fun h7 => ?_)
              · skip
                refine Runs.bl 9 (g := true) (i' := 101) (ls' := [some (.ref 39)]) (st' := []) (M' := mk tl (up2 (up2 (up2 (up2 (up2 (up2 (up2 (up2 I 39 6 g6) 39 7 (nI S)) 39 8 (nI p)) 39 9 g9) 39 8 (nI S)) 39 9 (I 34 ((nI S).toNatClampNeg))) 39 6 (3 : Int32)) 39 8 ((nI S) + (1 : Int32))) L (up2 rd 39 4 (some 34))) rfl rfl ?_
                have hSn : S < n := by have h9 := h1; rw [hn, Int32.lt_iff_toInt_lt, nI_toInt (by omega), nI_toInt (by omega)] at h9; omega
                have g_h2 : isLet dI (I 34 S) = 0 := by have h9 := h2; rw [nI_clamp (by omega)] at h9; exact h9
                have g_h3 : isDig dI (I 34 S) = 0 := by have h9 := h3; rw [nI_clamp (by omega)] at h9; exact h9
                have g_h4 : ¬ I 34 S = 58 := by have h9 := h4; rw [nI_clamp (by omega)] at h9; exact h9
                have g_h5 : ¬ I 34 S = 59 := by have h9 := h5; rw [nI_clamp (by omega)] at h9; exact h9
                have g_h6 : ¬ I 34 S = 60 := by have h9 := h6; rw [nI_clamp (by omega)] at h9; exact h9
                have g_h7 : I 34 S = 62 := by have h9 := h7; rw [nI_clamp (by omega)] at h9; exact h9
                rw [stq, if_neg (show ¬ n ≤ S by omega), if_pos g_h2, if_pos g_h3, sgk, if_neg g_h4, if_neg g_h5, if_neg g_h6, if_pos g_h7]
                exact Runs.rv rfl rfl (by rw [nI_1, nI_clamp (show S < 2 ^ 31 by omega)]; refine mk_cg ?_ ?_; (funext x; by_cases e0 : x = 39; (subst e0; funext y; by_cases f0 : y = 6; (subst f0; rfl); by_cases f1 : y = 7; (subst f1; rfl); by_cases f2 : y = 8; (subst f2; rfl); by_cases f3 : y = 9; (subst f3; rfl); simp [up1, up2, upr, f0, f1, f2, f3]); simp only [up1_ne e0, up2_ne e0]); rfl)
              · skip
                refine Runs.bl 4 (g := true) (i' := if decide (¬ (I 34 ((nI S).toNatClampNeg)) = (61 : Int32)) = true then 93 else 91) (ls' := [some (.ref 39)]) (st' := [.ref 39]) (M' := mk tl (up2 (up2 (up2 (up2 (up2 (up2 I 39 6 g6) 39 7 (nI S)) 39 8 (nI p)) 39 9 g9) 39 8 (nI S)) 39 9 (I 34 ((nI S).toNatClampNeg))) L (up2 rd 39 4 (some 34))) rfl rfl ?_
                refine Runs.brP (fun h8 => ?_) (fun h8 => ?_)
                · skip
                  refine Runs.bl 8 (g := true) (i' := 101) (ls' := [some (.ref 39)]) (st' := []) (M' := mk tl (up2 (up2 (up2 (up2 (up2 (up2 (up2 (up2 I 39 6 g6) 39 7 (nI S)) 39 8 (nI p)) 39 9 g9) 39 8 (nI S)) 39 9 (I 34 ((nI S).toNatClampNeg))) 39 6 (4 : Int32)) 39 8 ((nI S) + (1 : Int32))) L (up2 rd 39 4 (some 34))) rfl rfl ?_
                  have hSn : S < n := by have h9 := h1; rw [hn, Int32.lt_iff_toInt_lt, nI_toInt (by omega), nI_toInt (by omega)] at h9; omega
                  have g_h2 : isLet dI (I 34 S) = 0 := by have h9 := h2; rw [nI_clamp (by omega)] at h9; exact h9
                  have g_h3 : isDig dI (I 34 S) = 0 := by have h9 := h3; rw [nI_clamp (by omega)] at h9; exact h9
                  have g_h4 : ¬ I 34 S = 58 := by have h9 := h4; rw [nI_clamp (by omega)] at h9; exact h9
                  have g_h5 : ¬ I 34 S = 59 := by have h9 := h5; rw [nI_clamp (by omega)] at h9; exact h9
                  have g_h6 : ¬ I 34 S = 60 := by have h9 := h6; rw [nI_clamp (by omega)] at h9; exact h9
                  have g_h7 : ¬ I 34 S = 62 := by have h9 := h7; rw [nI_clamp (by omega)] at h9; exact h9
                  have g_h8 : ¬ I 34 S = 61 := by have h9 := h8; rw [nI_clamp (by omega)] at h9; exact h9
                  rw [stq, if_neg (show ¬ n ≤ S by omega), if_pos g_h2, if_pos g_h3, sgk, if_neg g_h4, if_neg g_h5, if_neg g_h6, if_neg g_h7, if_neg g_h8]
                  exact Runs.rv rfl rfl (by rw [nI_1, nI_clamp (show S < 2 ^ 31 by omega)]; refine mk_cg ?_ ?_; (funext x; by_cases e0 : x = 39; (subst e0; funext y; by_cases f0 : y = 6; (subst f0; rfl); by_cases f1 : y = 7; (subst f1; rfl); by_cases f2 : y = 8; (subst f2; rfl); by_cases f3 : y = 9; (subst f3; rfl); simp [up1, up2, upr, f0, f1, f2, f3]); simp only [up1_ne e0, up2_ne e0]); rfl)
                · skip
                  refine Runs.bl 9 (g := true) (i' := 101) (ls' := [some (.ref 39)]) (st' := []) (M' := mk tl (up2 (up2 (up2 (up2 (up2 (up2 (up2 (up2 I 39 6 g6) 39 7 (nI S)) 39 8 (nI p)) 39 9 g9) 39 8 (nI S)) 39 9 (I 34 ((nI S).toNatClampNeg))) 39 6 (3 : Int32)) 39 8 ((nI S) + (1 : Int32))) L (up2 rd 39 4 (some 34))) rfl rfl ?_
                  have hSn : S < n := by have h9 := h1; rw [hn, Int32.lt_iff_toInt_lt, nI_toInt (by omega), nI_toInt (by omega)] at h9; omega
                  have g_h2 : isLet dI (I 34 S) = 0 := by have h9 := h2; rw [nI_clamp (by omega)] at h9; exact h9
                  have g_h3 : isDig dI (I 34 S) = 0 := by have h9 := h3; rw [nI_clamp (by omega)] at h9; exact h9
                  have g_h4 : ¬ I 34 S = 58 := by have h9 := h4; rw [nI_clamp (by omega)] at h9; exact h9
                  have g_h5 : ¬ I 34 S = 59 := by have h9 := h5; rw [nI_clamp (by omega)] at h9; exact h9
                  have g_h6 : ¬ I 34 S = 60 := by have h9 := h6; rw [nI_clamp (by omega)] at h9; exact h9
                  have g_h7 : ¬ I 34 S = 62 := by have h9 := h7; rw [nI_clamp (by omega)] at h9; exact h9
                  have g_h8 : I 34 S = 61 := by have h9 := (Decidable.not_not.mp h8); rw [nI_clamp (by omega)] at h9; exact h9
                  rw [stq, if_neg (show ¬ n ≤ S by omega), if_pos g_h2, if_pos g_h3, sgk, if_neg g_h4, if_neg g_h5, if_neg g_h6, if_neg g_h7, if_pos g_h8]
                  exact Runs.rv rfl rfl (by rw [nI_1, nI_clamp (show S < 2 ^ 31 by omega)]; refine mk_cg ?_ ?_; (funext x; by_cases e0 : x = 39; (subst e0; funext y; by_cases f0 : y = 6; (subst f0; rfl); by_cases f1 : y = 7; (subst f1; rfl); by_cases f2 : y = 8; (subst f2; rfl); by_cases f3 : y = 9; (subst f3; rfl); simp [up1, up2, upr, f0, f1, f2, f3]); simp only [up1_ne e0, up2_ne e0]); rfl)
      · skip
        refine Runs.bl 1 (g := true) (i' := 61) (ls' := [some (.ref 39)]) (st' := [.ref 39]) (M' := mk tl (up2 (up2 (up2 (up2 (up2 I 39 6 g6) 39 7 (nI S)) 39 8 (nI p)) 39 9 g9) 39 8 (nI S)) L (up2 rd 39 4 (some 34))) rfl rfl ?_
        refine Runs.cg (M := mk tl (up2 (up2 (up2 (up2 I 39 6 g6) 39 7 (nI S)) 39 8 (nI S)) 39 9 g9) L (up2 rd 39 4 (some 34))) rfl (by refine mk_cg ?_ ?_; (funext x; by_cases e0 : x = 39; (subst e0; funext y; by_cases f0 : y = 6; (subst f0; rfl); by_cases f1 : y = 7; (subst f1; rfl); by_cases f2 : y = 8; (subst f2; rfl); by_cases f3 : y = 9; (subst f3; rfl); simp [up1, up2, upr, f0, f1, f2, f3]); simp only [up1_ne e0, up2_ne e0]); rfl) ?_
        have hSn : S < n := by have h9 := h1; rw [hn, Int32.lt_iff_toInt_lt, nI_toInt (by omega), nI_toInt (by omega)] at h9; omega
        refine Runs.call (k' := 78) (as := [.ref 39]) (rest := []) (r1 := none) (M1 := mk tl (up2 (up2 (up2 (up2 I 39 6 (if nI (rn dgt (I 34) (n - S) S) - nI S ≤ 5 then 2 else 4)) 39 7 (nI S)) 39 8 (nI (rn dgt (I 34) (n - S) S))) 39 9 (nv (I 34) S (n - S) S 0)) L (up2 rd 39 4 (some 34))) rfl rfl rfl (c_nb tl I L rd _ _ n S S hn hn6 (by omega)) ?_
        refine Runs.bl 1 (g := true) (i' := 101) (ls' := [some (.ref 39)]) (st' := []) (M' := mk tl (up2 (up2 (up2 (up2 I 39 6 (if nI (rn dgt (I 34) (n - S) S) - nI S ≤ 5 then 2 else 4)) 39 7 (nI S)) 39 8 (nI (rn dgt (I 34) (n - S) S))) 39 9 (nv (I 34) S (n - S) S 0)) L (up2 rd 39 4 (some 34))) rfl rfl ?_
        have g_h2 : isLet dI (I 34 S) = 0 := by have h9 := h2; rw [nI_clamp (by omega)] at h9; exact h9
        have g_h3 : ¬ isDig dI (I 34 S) = 0 := by have h9 := h3; rw [nI_clamp (by omega)] at h9; exact h9
        rw [stq, if_neg (show ¬ n ≤ S by omega), if_pos g_h2, if_neg g_h3]
        exact Runs.rv rfl rfl (by refine mk_cg ?_ ?_; (funext x; by_cases e0 : x = 39; (subst e0; funext y; by_cases f0 : y = 6; (subst f0; rfl); by_cases f1 : y = 7; (subst f1; rfl); by_cases f2 : y = 8; (subst f2; rfl); by_cases f3 : y = 9; (subst f3; rfl); simp [up1, up2, upr, f0, f1, f2, f3]); simp only [up1_ne e0, up2_ne e0]); rfl)
    · skip
      refine Runs.bl 1 (g := true) (i' := 51) (ls' := [some (.ref 39)]) (st' := [.ref 39]) (M' := mk tl (up2 (up2 (up2 (up2 (up2 I 39 6 g6) 39 7 (nI S)) 39 8 (nI p)) 39 9 g9) 39 8 (nI S)) L (up2 rd 39 4 (some 34))) rfl rfl ?_
      refine Runs.cg (M := mk tl (up2 (up2 (up2 (up2 I 39 6 g6) 39 7 (nI S)) 39 8 (nI S)) 39 9 g9) L (up2 rd 39 4 (some 34))) rfl (by refine mk_cg ?_ ?_; (funext x; by_cases e0 : x = 39; (subst e0; funext y; by_cases f0 : y = 6; (subst f0; rfl); by_cases f1 : y = 7; (subst f1; rfl); by_cases f2 : y = 8; (subst f2; rfl); by_cases f3 : y = 9; (subst f3; rfl); simp [up1, up2, upr, f0, f1, f2, f3]); simp only [up1_ne e0, up2_ne e0]); rfl) ?_
      have hSn : S < n := by have h9 := h1; rw [hn, Int32.lt_iff_toInt_lt, nI_toInt (by omega), nI_toInt (by omega)] at h9; omega
      refine Runs.call (k' := 77) (as := [.ref 39]) (rest := []) (r1 := none) (M1 := mk tl (up2 (up2 (up2 (up2 I 39 6 (1 : Int32)) 39 7 (nI S)) 39 8 (nI (rn ltr (I 34) (n - S) S))) 39 9 g9) L (up2 rd 39 4 (some 34))) rfl rfl rfl (l_wd tl I L rd _ _ _ n hn hn6 (n - S) S (by omega)) ?_
      refine Runs.bl 1 (g := true) (i' := 101) (ls' := [some (.ref 39)]) (st' := []) (M' := mk tl (up2 (up2 (up2 (up2 I 39 6 (1 : Int32)) 39 7 (nI S)) 39 8 (nI (rn ltr (I 34) (n - S) S))) 39 9 g9) L (up2 rd 39 4 (some 34))) rfl rfl ?_
      have g_h2 : ¬ isLet dI (I 34 S) = 0 := by have h9 := h2; rw [nI_clamp (by omega)] at h9; exact h9
      rw [stq, if_neg (show ¬ n ≤ S by omega), if_neg g_h2]
      exact Runs.rv rfl rfl (by refine mk_cg ?_ ?_; (funext x; by_cases e0 : x = 39; (subst e0; funext y; by_cases f0 : y = 6; (subst f0; rfl); by_cases f1 : y = 7; (subst f1; rfl); by_cases f2 : y = 8; (subst f2; rfl); by_cases f3 : y = 9; (subst f3; rfl); simp [up1, up2, upr, f0, f1, f2, f3]); simp only [up1_ne e0, up2_ne e0]); rfl)
  · skip
    refine Runs.bl 4 (g := true) (i' := 101) (ls' := [some (.ref 39)]) (st' := []) (M' := mk tl (up2 (up2 (up2 (up2 (up2 (up2 I 39 6 g6) 39 7 (nI S)) 39 8 (nI p)) 39 9 g9) 39 8 (nI S)) 39 6 (0 : Int32)) L (up2 rd 39 4 (some 34))) rfl rfl ?_
    have hSn : n ≤ S := by have h9 := h1; rw [hn, Int32.lt_iff_toInt_lt, nI_toInt (by omega), nI_toInt (by omega)] at h9; omega
    rw [stq, if_pos hSn]; exact Runs.rv rfl rfl (by refine mk_cg ?_ ?_; (funext x; by_cases e0 : x = 39; (subst e0; funext y; by_cases f0 : y = 6; (subst f0; rfl); by_cases f1 : y = 7; (subst f1; rfl); by_cases f2 : y = 8; (subst f2; rfl); by_cases f3 : y = 9; (subst f3; rfl); simp [up1, up2, upr, f0, f1, f2, f3]); simp only [up1_ne e0, up2_ne e0]); rfl)

theorem c_stp (tl : List (Nat × Nat)) (I : Nat → Nat → Int32) (L : Nat → Nat → Int64) (rd : Nat → Nat → Option Nat) (g6 g7 g8 g9 : Int32) (hl : 0 ≤ (I 39 5).toInt ∧ (I 39 5).toInt ≤ 600) (hb8 : 0 ≤ g8.toInt ∧ g8.toInt ≤ (I 39 5).toInt) : Call 76 [.ref 39] (mk tl (up2 (up2 (up2 (up2 I 39 6 g6) 39 7 g7) 39 8 g8) 39 9 g9) L (up2 rd 39 4 (some 34))) none (mk tl (up2 (up2 (up2 (up2 I 39 6 ((stp (I 34) (I 39 5) g8 g9).1)) 39 7 ((stp (I 34) (I 39 5) g8 g9).2.1)) 39 8 ((stp (I 34) (I 39 5) g8 g9).2.2.1)) 39 9 ((stp (I 34) (I 39 5) g8 g9).2.2.2)) L (up2 rd 39 4 (some 34))) := by
  obtain ⟨n, hn, en⟩ := rng_nI (x := I 39 5) (N := 601) (by omega)
  obtain ⟨p, hp, rfl⟩ := rng_nI (x := g8) (N := 601) (by omega)
  have h1 : (I 39 5).toInt = n := by rw [en, nI_toInt (by omega)]
  have h2 : (nI p).toInt = p := nI_toInt (by omega)
  have hh := c_stN tl I L rd g6 g7 g9 n p en (by omega) (by omega)
  rw [stp, en, nI_clamp (by omega), nI_clamp (by omega)]
  exact hh

