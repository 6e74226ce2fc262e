/-! THE CLASS: image, again (printed by p93.py) -/
theorem oNew_Rn {x f t n a : Nat} {l : List (Nat × Nat × Nat)} {M : Mm} (ha : a ≠ x) : (oNew x f t n l M).2.2.2 a = if a = M.1.length then (fun k => cfR l (M.1.length + 1) k) else if M.1.length < a ∧ a < M.1.length + 1 + l.length then (fun _ => none) else M.2.2.2 a := by
  unfold oNew
  show up2 (ctorM M.1.length l (mNew M t n)).2.2.2 x f (some M.1.length) a = _
  rw [up2_ne ha]
  by_cases e : a = M.1.length
  · rw [if_pos e, e, ctorM_R _ _ _ (by rw [ln_new]; omega), ln_new]
    funext k
    show (match cfR l (M.1.length + 1) k with | some y => some y | none => up1 M.2.2.2 M.1.length (fun _ => none) M.1.length k) = _
    rw [up1_at]
    cases cfR l (M.1.length + 1) k <;> rfl
  · rw [if_neg e, ctorM_Rn _ _ _ _ e, ln_new]
    by_cases e2 : M.1.length < a ∧ a < M.1.length + 1 + l.length
    · rw [if_pos (by omega), if_pos e2]
    · rw [if_neg (by omega), if_neg e2]
      show up1 M.2.2.2 M.1.length (fun _ => none) a = _
      rw [up1_ne e]
theorem oNew_Rx {x f t n : Nat} {l : List (Nat × Nat × Nat)} {M : Mm} (hx : x < M.1.length) : (oNew x f t n l M).2.2.2 x = upr (M.2.2.2 x) f (some M.1.length) := by
  unfold oNew
  show up2 (ctorM M.1.length l (mNew M t n)).2.2.2 x f (some M.1.length) x = _
  rw [su2, ctorM_Rn _ _ _ _ (show x ≠ M.1.length by omega), ln_new, if_neg (by omega)]
  show upr (up1 M.2.2.2 M.1.length (fun _ => none) x) f _ = _
  rw [up1_ne (by omega)]
theorem oNew_I {x f t n : Nat} {l : List (Nat × Nat × Nat)} {M : Mm} (a : Nat) : (oNew x f t n l M).2.1 a = if M.1.length ≤ a ∧ a < M.1.length + 1 + l.length then (fun _ => 0) else M.2.1 a := by
  unfold oNew
  show (ctorM M.1.length l (mNew M t n)).2.1 a = _
  rw [ctorM_I, ln_new]
  show (if M.1.length + 1 ≤ a ∧ a < M.1.length + 1 + l.length then (fun _ => 0) else up1 M.2.1 M.1.length (fun _ => 0) a) = _
  by_cases e : a = M.1.length
  · rw [if_neg (by omega), if_pos (by omega), e, up1_at]
  · rw [up1_ne e]
    by_cases e2 : M.1.length ≤ a ∧ a < M.1.length + 1 + l.length
    · rw [if_pos (by omega), if_pos e2]
    · rw [if_neg (by omega), if_neg e2]
theorem aNew_I {x f t n : Nat} {M : Mm} (a : Nat) : (aNew x f t n M).2.1 a = if a = M.1.length then (fun _ => 0) else M.2.1 a := by
  show up1 M.2.1 M.1.length (fun _ => 0) a = _
  by_cases e : a = M.1.length
  · rw [if_pos e, e, up1_at]
  · rw [if_neg e, up1_ne e]
theorem aNew_Rn {x f t n a : Nat} {M : Mm} (ha : a ≠ x) : (aNew x f t n M).2.2.2 a = if a = M.1.length then (fun _ => none) else M.2.2.2 a := by
  show up2 (up1 M.2.2.2 M.1.length (fun _ => none)) x f (some M.1.length) a = _
  rw [up2_ne ha]
  by_cases e : a = M.1.length
  · rw [if_pos e, e, up1_at]
  · rw [if_neg e, up1_ne e]
theorem aNew_Rx {x f t n : Nat} {M : Mm} (hx : x < M.1.length) : (aNew x f t n M).2.2.2 x = upr (M.2.2.2 x) f (some M.1.length) := by
  show up2 (up1 M.2.2.2 M.1.length (fun _ => none)) x f (some M.1.length) x = _
  rw [su2, up1_ne (by omega)]
/-- lengths along the house's constructor -/
theorem ho_l1 (x : Nat) (M : Mm) : (oNew x 0 16 14 ct_people M).1.length = M.1.length + 14 := by rw [oNew_1, List.length_append]; rfl
theorem ho_l2 (x : Nat) (M : Mm) : (oNew x 1 11 16 ct_debts (oNew x 0 16 14 ct_people M)).1.length = M.1.length + 30 := by rw [oNew_1, List.length_append, ho_l1]; rfl
theorem ho_l3 (x : Nat) (M : Mm) : (aNew x 2 5 4 (oNew x 1 11 16 ct_debts (oNew x 0 16 14 ct_people M))).1.length = M.1.length + 31 := by rw [aNew_1, List.length_append, ho_l2]; rfl
theorem ho_l4 (x : Nat) (M : Mm) : (wI (ctorM x [(0, 144, 8), (2, 600, 9)] (aNew x 2 5 4 (oNew x 1 11 16 ct_debts (oNew x 0 16 14 ct_people M)))) x 12 (-1)).1.length = M.1.length + 33 := by
  show (ctorM x [(0, 144, 8), (2, 600, 9)] (aNew x 2 5 4 (oNew x 1 11 16 ct_debts (oNew x 0 16 14 ct_people M)))).1.length = _
  rw [ctorM_1, List.length_append, ho_l3]; rfl
theorem houseM_I (x : Nat) (M : Mm) (hx : x < M.1.length) (a : Nat) : (houseM x M).2.1 a = if M.1.length ≤ a ∧ a < M.1.length + 34 then (fun _ => 0) else if a = x then upr (M.2.1 x) 12 (-1) else M.2.1 a := by
  unfold houseM
  rw [ctorM_I, ho_l4]
  show (if M.1.length + 33 ≤ a ∧ a < M.1.length + 33 + 1 then _ else up2 (ctorM x [(0, 144, 8), (2, 600, 9)] (aNew x 2 5 4 (oNew x 1 11 16 ct_debts (oNew x 0 16 14 ct_people M)))).2.1 x 12 (-1) a) = _
  have key : ∀ a, (ctorM x [(0, 144, 8), (2, 600, 9)] (aNew x 2 5 4 (oNew x 1 11 16 ct_debts (oNew x 0 16 14 ct_people M)))).2.1 a = if M.1.length ≤ a ∧ a < M.1.length + 33 then (fun _ => 0) else M.2.1 a := by
    intro a
    rw [ctorM_I, ho_l3, aNew_I, ho_l2, oNew_I, ho_l1, oNew_I]
    show (if M.1.length + 31 ≤ a ∧ a < M.1.length + 31 + 2 then _ else if a = M.1.length + 30 then _ else if M.1.length + 14 ≤ a ∧ a < M.1.length + 14 + 1 + 15 then _ else if M.1.length ≤ a ∧ a < M.1.length + 1 + 13 then _ else _) = _
    by_cases h : M.1.length ≤ a ∧ a < M.1.length + 33
    · rw [if_pos h]
      by_cases h1 : M.1.length + 31 ≤ a ∧ a < M.1.length + 31 + 2
      · rw [if_pos h1]
      · rw [if_neg h1]
        by_cases h2 : a = M.1.length + 30
        · rw [if_pos h2]
        · rw [if_neg h2]
          by_cases h3 : M.1.length + 14 ≤ a ∧ a < M.1.length + 14 + 1 + 15
          · rw [if_pos h3]
          · rw [if_neg h3, if_pos (by omega)]
    · rw [if_neg h, if_neg (by omega), if_neg (by omega), if_neg (by omega), if_neg (by omega)]
  by_cases e : a = x
  · subst e
    rw [if_neg (by omega), if_neg (by omega), if_pos rfl, su2, key, if_neg (by omega)]
  · rw [up2_ne e, key, if_neg e]
    by_cases h1 : M.1.length + 33 ≤ a ∧ a < M.1.length + 33 + 1
    · rw [if_pos h1, if_pos (by omega)]
    · rw [if_neg h1]
      by_cases h : M.1.length ≤ a ∧ a < M.1.length + 33
      · rw [if_pos h, if_pos (by omega)]
      · rw [if_neg h, if_neg (by omega)]
theorem houseM_Rn (x : Nat) (M : Mm) {a : Nat} (ha : a ≠ x) : (houseM x M).2.2.2 a = if M.1.length + 33 ≤ a ∧ a < M.1.length + 34 then (fun _ => none) else if M.1.length + 31 ≤ a ∧ a < M.1.length + 33 then (fun _ => none) else if a = M.1.length + 30 then (fun _ => none) else if a = M.1.length + 14 then (fun k => cfR ct_debts (M.1.length + 15) k) else if M.1.length + 14 < a ∧ a < M.1.length + 30 then (fun _ => none) else if a = M.1.length then (fun k => cfR ct_people (M.1.length + 1) k) else if M.1.length < a ∧ a < M.1.length + 14 then (fun _ => none) else M.2.2.2 a := by
  unfold houseM
  rw [ctorM_Rn _ _ _ _ ha, ho_l4]
  show (if M.1.length + 33 ≤ a ∧ a < M.1.length + 33 + 1 then _ else (ctorM x [(0, 144, 8), (2, 600, 9)] (aNew x 2 5 4 (oNew x 1 11 16 ct_debts (oNew x 0 16 14 ct_people M)))).2.2.2 a) = _
  rw [ctorM_Rn _ _ _ _ ha, ho_l3, aNew_Rn ha, ho_l2, oNew_Rn ha, ho_l1, oNew_Rn ha]
  rfl
theorem houseM_Rx (x : Nat) (M : Mm) (hx : x < M.1.length) : (houseM x M).2.2.2 x 0 = some M.1.length ∧ (houseM x M).2.2.2 x 1 = some (M.1.length + 14) ∧ (houseM x M).2.2.2 x 2 = some (M.1.length + 30) ∧ (houseM x M).2.2.2 x 8 = some (M.1.length + 31) ∧ (houseM x M).2.2.2 x 9 = some (M.1.length + 32) ∧ (houseM x M).2.2.2 x 13 = some (M.1.length + 33) := by
  have e : (houseM x M).2.2.2 x = fun f => match cfR [(0, 12, 13)] (M.1.length + 33) f with
      | some y => some y
      | none => match cfR [(0, 144, 8), (2, 600, 9)] (M.1.length + 31) f with
        | some y => some y
        | none => upr (upr (upr (M.2.2.2 x) 0 (some M.1.length)) 1 (some (M.1.length + 14))) 2 (some (M.1.length + 30)) f := by
    unfold houseM
    rw [ctorM_R _ _ _ (by rw [ho_l4]; omega), ho_l4]
    funext f
    show (match cfR [(0, 12, 13)] (M.1.length + 33) f with | some y => some y | none => (ctorM x [(0, 144, 8), (2, 600, 9)] (aNew x 2 5 4 (oNew x 1 11 16 ct_debts (oNew x 0 16 14 ct_people M)))).2.2.2 x f) = _
    rw [ctorM_R _ _ _ (by rw [ho_l3]; omega), ho_l3, aNew_Rx (by rw [ho_l2]; omega), ho_l2, oNew_Rx (by rw [ho_l1]; omega), ho_l1, oNew_Rx hx]
    rfl
  rw [e]
  exact ⟨rfl, rfl, rfl, rfl, rfl, rfl⟩
/-- the memory with a new house behind it -/
def nhM (tl : List (Nat × Nat)) (I : Nat → Nat → Int32) (L : Nat → Nat → Int64) (rd : Nat → Nat → Option Nat) : Mm := houseM (131 + tl.length) (mNew (mk tl I L rd) 13 15)
def nhI (I : Nat → Nat → Int32) (N : Nat) : Nat → Nat → Int32 := fun a => if N + 1 ≤ a ∧ a < N + 35 then (fun _ => 0) else if a = N then upr (fun _ => 0) 12 (-1) else I a
theorem nhM_I (tl : List (Nat × Nat)) (I : Nat → Nat → Int32) (L : Nat → Nat → Int64) (rd : Nat → Nat → Option Nat) : (nhM tl I L rd).2.1 = nhI I (131 + tl.length) := by
  funext a
  unfold nhM nhI
  rw [houseM_I _ _ (by rw [ln_new, mk_len]; omega), ln_new, mk_len]
  show (if 131 + tl.length + 1 ≤ a ∧ a < 131 + tl.length + 1 + 34 then _ else if a = 131 + tl.length then upr (up1 I (mk tl I L rd).1.length (fun _ => 0) (131 + tl.length)) 12 (-1) else up1 I (mk tl I L rd).1.length (fun _ => 0) a) = _
  rw [mk_len, up1_at]
  by_cases e : a = 131 + tl.length
  · rw [if_neg (show ¬ (131 + tl.length + 1 ≤ a ∧ a < 131 + tl.length + 1 + 34) by omega), if_neg (show ¬ (131 + tl.length + 1 ≤ a ∧ a < 131 + tl.length + 35) by omega), if_pos e, if_pos e]
  · rw [if_neg e, if_neg e, up1_ne e]
theorem nhM_1 (tl : List (Nat × Nat)) (I : Nat → Nat → Int32) (L : Nat → Nat → Int64) (rd : Nat → Nat → Option Nat) : (nhM tl I L rd).1 = Sst ++ (tl ++ hsh) := by
  unfold nhM
  rw [houseM_1]
  show ((Sst ++ tl) ++ [(13, 15)]) ++ _ = _
  rw [List.append_assoc, List.append_assoc]; rfl
theorem nhM_Rl (tl : List (Nat × Nat)) (I : Nat → Nat → Int32) (L : Nat → Nat → Int64) (rd : Nat → Nat → Option Nat) {a : Nat} (h : a < 131 + tl.length) : (nhM tl I L rd).2.2.2 a = rst rd a := by
  unfold nhM
  rw [houseM_Rn _ _ (by omega), ln_new, mk_len, if_neg (by omega), if_neg (by omega), if_neg (by omega), if_neg (by omega), if_neg (by omega), if_neg (by omega), if_neg (by omega)]
  show up1 (rst rd) (mk tl I L rd).1.length (fun _ => none) a = _
  rw [mk_len, up1_ne (by omega)]
theorem nhM_mk (tl : List (Nat × Nat)) (I : Nat → Nat → Int32) (L : Nat → Nat → Int64) (rd : Nat → Nat → Option Nat) : nhM tl I L rd = mk (tl ++ hsh) (nhI I (131 + tl.length)) (nhM tl I L rd).2.2.1 (nhM tl I L rd).2.2.2 := by
  have e : rst (nhM tl I L rd).2.2.2 = (nhM tl I L rd).2.2.2 := by
    funext a k
    by_cases h : a < 131
    · have e1 := nhM_Rl tl I L rd (show a < 131 + tl.length by omega)
      rw [rst_cg (r' := rst rd) (by rw [e1]), e1]
      unfold rst
      cases h1 : rfz[a]? with
      | none => rfl
      | some row => cases h2 : row[k]? with
        | none => simp only [h2]
        | some y => cases y with
          | none => simp only [h2]
          | some z => simp only [h2]
    · rw [rst_ge _ (by omega)]
  show ((nhM tl I L rd).1, (nhM tl I L rd).2.1, (nhM tl I L rd).2.2.1, (nhM tl I L rd).2.2.2) = (Sst ++ (tl ++ hsh), nhI I (131 + tl.length), (nhM tl I L rd).2.2.1, rst (nhM tl I L rd).2.2.2)
  rw [e, nhM_1, nhM_I]
theorem nhM_HL (tl : List (Nat × Nat)) (I : Nat → Nat → Int32) (L : Nat → Nat → Int64) (rd : Nat → Nat → Option Nat) (hl : 131 + tl.length + 35 ≤ mx) : HL (tl ++ hsh) (nhM tl I L rd).2.2.2 (131 + tl.length) := by
  have hN : (mNew (mk tl I L rd) 13 15).1.length = 131 + tl.length + 1 := by rw [ln_new, mk_len]
  have hx := houseM_Rx (131 + tl.length) (mNew (mk tl I L rd) 13 15) (by rw [hN]; omega)
  rw [hN] at hx
  refine ⟨fun c hc => ?_, ⟨?_, ?_, ?_, ?_, ?_, ?_⟩, fun k h1 h2 => ?_, fun k h1 h2 => ?_, hl, fun r k => rst_ge r (by omega) k⟩
  · rw [← List.append_assoc, List.getElem?_append_right (by rw [List.length_append, Sst_len]; omega), List.length_append, Sst_len, Nat.add_sub_cancel_left]
  · rw [rst_ge _ (by omega)]; exact hx.1
  · rw [rst_ge _ (by omega)]; exact hx.2.1
  · rw [rst_ge _ (by omega)]; exact hx.2.2.1
  · rw [rst_ge _ (by omega)]; exact hx.2.2.2.1
  · rw [rst_ge _ (by omega)]; exact hx.2.2.2.2.1
  · rw [rst_ge _ (by omega)]; exact hx.2.2.2.2.2
  · rw [rst_ge _ (by omega)]
    unfold nhM
    rw [houseM_Rn _ _ (by omega), hN, if_neg (by omega), if_neg (by omega), if_neg (by omega), if_neg (by omega), if_neg (by omega), if_pos rfl]
    match k, h1, h2 with
    | 1, _, _ => rfl
    | 2, _, _ => rfl
    | 3, _, _ => rfl
    | 4, _, _ => rfl
    | 5, _, _ => rfl
    | 6, _, _ => rfl
    | 7, _, _ => rfl
    | 8, _, _ => rfl
    | 9, _, _ => rfl
    | 10, _, _ => rfl
    | 11, _, _ => rfl
    | 12, _, _ => rfl
    | 13, _, _ => rfl
  · rw [rst_ge _ (by omega)]
    unfold nhM
    rw [houseM_Rn _ _ (by omega), hN, if_neg (by omega), if_neg (by omega), if_neg (by omega), if_pos (by omega)]
    match k, h1, h2 with
    | 1, _, _ => rfl
    | 2, _, _ => rfl
    | 3, _, _ => rfl
    | 4, _, _ => rfl
    | 5, _, _ => rfl
    | 6, _, _ => rfl
    | 7, _, _ => rfl
    | 8, _, _ => rfl
    | 9, _, _ => rfl
    | 10, _, _ => rfl
    | 11, _, _ => rfl
    | 12, _, _ => rfl
    | 13, _, _ => rfl
    | 14, _, _ => rfl
    | 15, _, _ => rfl
theorem nhM_ac (tl : List (Nat × Nat)) (I : Nat → Nat → Int32) (L : Nat → Nat → Int64) (rd : Nat → Nat → Option Nat) (k : Nat) : (nhM tl I L rd).2.2.2 (131 + tl.length + 31) k = none := by
  have hN : (mNew (mk tl I L rd) 13 15).1.length = 131 + tl.length + 1 := by rw [ln_new, mk_len]
  unfold nhM
  rw [houseM_Rn _ _ (by omega), hN, if_neg (by omega), if_neg (by omega), if_pos (by omega)]

theorem HL_1 (tl : List (Nat × Nat)) (rd : Nat → Nat → Option Nat) : HL tl rd 1 := by
  refine ⟨fun c hc => ?_, ⟨rfl, rfl, rfl, rfl, rfl, rfl⟩, fun k h1 h2 => ?_, fun k h1 h2 => ?_, by decide, fun r k => rfl⟩
  · rw [List.getElem?_append_left (by rw [Sst_len]; omega)]
    exact (show ∀ c, c < 35 → Sst[1 + c]? = hsh[c]? by decide) c hc
  · match k, h1, h2 with
    | 1, _, _ => rfl
    | 2, _, _ => rfl
    | 3, _, _ => rfl
    | 4, _, _ => rfl
    | 5, _, _ => rfl
    | 6, _, _ => rfl
    | 7, _, _ => rfl
    | 8, _, _ => rfl
    | 9, _, _ => rfl
    | 10, _, _ => rfl
    | 11, _, _ => rfl
    | 12, _, _ => rfl
    | 13, _, _ => rfl
  · match k, h1, h2 with
    | 1, _, _ => rfl
    | 2, _, _ => rfl
    | 3, _, _ => rfl
    | 4, _, _ => rfl
    | 5, _, _ => rfl
    | 6, _, _ => rfl
    | 7, _, _ => rfl
    | 8, _, _ => rfl
    | 9, _, _ => rfl
    | 10, _, _ => rfl
    | 11, _, _ => rfl
    | 12, _, _ => rfl
    | 13, _, _ => rfl
    | 14, _, _ => rfl
    | 15, _, _ => rfl
theorem aal4 {i : Nat} {ls : Lz} {st : List Value} {M : Mm} {a n : Nat} {j : Nat} (hs : M.1[a]? = some (4, n)) (hj : j < n) (hn : n < 10000) (hr : rok (M.2.2.2 a j) = true) : st2 .aaload i ls (.int (nI j) :: .ref a :: st) M = some (true, i + 1, ls, mrf (M.2.2.2 a j) :: st, M) := by
  have e3 : inb (nI j) n = true := inb_iff.mpr (by rw [nI_toInt (by omega)]; omega)
  simp only [st2, hs, nI_clamp (show j < 2 ^ 31 by omega), e3, hr, Bool.and_true]
theorem aas4 {i : Nat} {ls : Lz} {st : List Value} {M : Mm} {a n x m : Nat} {j : Nat} (hs : M.1[a]? = some (4, n)) (hj : j < n) (hn : n < 10000) (hv : M.1[x]? = some (13, m)) : st2 .aastore i ls (.ref x :: .int (nI j) :: .ref a :: st) M = some (true, i + 1, ls, st, wR M a j (some x)) := by
  have e3 : inb (nI j) n = true := inb_iff.mpr (by rw [nI_toInt (by omega)]; omega)
  simp only [st2, hs, hv, nI_clamp (show j < 2 ^ 31 by omega), e3]
theorem out3 (I : Nat → Nat → Int32) {k : Nat} (hk : k < 3) : outside I (nI k) 0 2 = 0 := by
  unfold outside
  rw [if_neg (by rw [Int32.lt_iff_toInt_lt, nI_toInt (by omega), toI_0]; omega), if_pos (by rw [Int32.le_iff_toInt_le, nI_toInt (by omega), toI_2]; omega)]

set_option maxRecDepth 20000 in
theorem c_xImA (tl : List (Nat × Nat)) (I : Nat → Nat → Int32) (L : Nat → Nat → Int64) (rd : Nat → Nat → Option Nat) (x : Int32) (hx : ¬ outside I x 0 2 = 0) : Call 142 [.ref 0, .int x] (mk tl I L rd) (some (.int 0)) (mk tl I L rd) := by
  show Runs 142 0 [some (.ref 0), some (.int x)] [] (mk tl I L rd) _ _
  refine Runs.bl 3 (g := true) (i' := 3) (ls' := [some (.ref 0), some (.int x)]) (st' := [.int (2 : Int32), .int (0 : Int32), .int x]) (M' := mk tl I L rd) rfl rfl ?_
  refine Runs.call (k' := 147) (as := [.int x, .int (0 : Int32), .int (2 : Int32)]) (rest := []) (r1 := some (.int (outside I x (0 : Int32) (2 : Int32)))) (M1 := mk tl I L rd) rfl rfl rfl (c_outside tl I L rd x 0 2) ?_
  refine Runs.bl 1 (g := true) (i' := if decide ((outside I x (0 : Int32) (2 : Int32)) = 0) = true then 7 else 5) (ls' := [some (.ref 0), some (.int x)]) (st' := []) (M' := mk tl I L rd) rfl rfl ?_
  refine Runs.brF (hx) ?_
  refine Runs.bl 1 (g := true) (i' := 6) (ls' := [some (.ref 0), some (.int x)]) (st' := [.int (0 : Int32)]) (M' := mk tl I L rd) rfl rfl ?_
  exact Runs.rz rfl rfl (by decide) rfl rfl

set_option maxRecDepth 20000 in
theorem c_xAgA (tl : List (Nat × Nat)) (I : Nat → Nat → Int32) (L : Nat → Nat → Int64) (rd : Nat → Nat → Option Nat) (x : Int32) (hx : ¬ outside I x 0 2 = 0) : Call 143 [.ref 0, .int x] (mk tl I L rd) (some (.int 0)) (mk tl I L rd) := by
  show Runs 143 0 [some (.ref 0), some (.int x)] [] (mk tl I L rd) _ _
  refine Runs.bl 3 (g := true) (i' := 3) (ls' := [some (.ref 0), some (.int x)]) (st' := [.int (2 : Int32), .int (0 : Int32), .int x]) (M' := mk tl I L rd) rfl rfl ?_
  refine Runs.call (k' := 147) (as := [.int x, .int (0 : Int32), .int (2 : Int32)]) (rest := []) (r1 := some (.int (outside I x (0 : Int32) (2 : Int32)))) (M1 := mk tl I L rd) rfl rfl rfl (c_outside tl I L rd x 0 2) ?_
  refine Runs.bl 1 (g := true) (i' := if decide (¬ (outside I x (0 : Int32) (2 : Int32)) = 0) = true then 10 else 5) (ls' := [some (.ref 0), some (.int x)]) (st' := []) (M' := mk tl I L rd) rfl rfl ?_
  refine Runs.brT (hx) ?_
  refine Runs.bl 1 (g := true) (i' := 11) (ls' := [some (.ref 0), some (.int x)]) (st' := [.int (0 : Int32)]) (M' := mk tl I L rd) rfl rfl ?_
  exact Runs.rz rfl rfl (by decide) rfl rfl

set_option maxRecDepth 20000 in
theorem c_xImB (tl : List (Nat × Nat)) (I : Nat → Nat → Int32) (L : Nat → Nat → Int64) (rd : Nat → Nat → Option Nat) (k b : Nat) (hk : k < 3) (hr : rst rd 36 k = some b) (hB : HL tl rd b) (hb : 36 ≤ b) (hF : RF tl rd 1) (hT : ∀ j, j < 600 → fits .byte (.int (h_4 I b 1 (1 + 33) j)) = true) : Call 142 [.ref 0, .int (nI k)] (mk tl I L rd) (some (.int 1)) (mk tl (h_7 I b 1) L (rdC rd b 1 4)) := by
  have hbx : b < mx := by have := hB.2.2.2.2.1; omega
  have e5 : (mk tl I L rd).2.2.2 36 k = some b := hr
  show Runs 142 0 [some (.ref 0), some (.int (nI k))] [] (mk tl I L rd) _ _
  refine Runs.bl 3 (g := true) (i' := 3) (ls' := [some (.ref 0), some (.int (nI k))]) (st' := [.int 2, .int 0, .int (nI k)]) (M' := mk tl I L rd) rfl rfl ?_
  refine Runs.call (k' := 147) (as := [.int (nI k), .int 0, .int 2]) (rest := []) (r1 := some (.int (outside I (nI k) 0 2))) (M1 := mk tl I L rd) rfl rfl rfl (c_outside tl I L rd (nI k) 0 2) ?_
  rw [out3 I hk]
  refine Runs.bl 4 (g := true) (i' := 10) (ls' := [some (.ref 0), some (.int (nI k))]) (st' := [.int (nI k), .ref 36]) (M' := mk tl I L rd) rfl rfl ?_
  refine Runs.st rfl rfl rfl (aal4 (n := 3) rfl hk (by decide) (by rw [e5]; exact decide_eq_true hbx)) ?_
  rw [e5]
  refine Runs.bl 1 (g := decide (b < mx) && true) (i' := 19) (ls' := [some (.ref 0), some (.int (nI k))]) (st' := []) (M' := mk tl I L rd) rfl (by rw [decide_eq_true hbx]; rfl) ?_
  refine Runs.bl 3 (g := true) (i' := 22) (ls' := [some (.ref 0), some (.int (nI k))]) (st' := [.int (nI k), .ref 36]) (M' := mk tl I L rd) rfl rfl ?_
  refine Runs.st rfl rfl rfl (aal4 (n := 3) rfl hk (by decide) (by rw [e5]; exact decide_eq_true hbx)) ?_
  rw [e5]
  refine Runs.bl 2 (g := true) (i' := 25) (ls' := [some (.ref 0), some (.int (nI k))]) (st' := [.ref 1, .ref b]) (M' := mk tl I L rd) rfl rfl ?_
  refine Runs.call (k' := 26) (as := [.ref b, .ref 1]) (rest := []) (r1 := none) rfl rfl (cal2_v rfl rfl rfl (rcv_of hbx (hB.1 0 (by decide)) rfl)) (c_cpHouse tl I L rd b 1 hB (HL_1 tl rd) (Or.inr hb) hF hT) ?_
  refine Runs.bl 1 (g := true) (i' := 27) (ls' := [some (.ref 0), some (.int (nI k))]) (st' := [.int 1]) (M' := mk tl (h_7 I b 1) L (rdC rd b 1 4)) rfl rfl ?_
  exact Runs.rz rfl rfl (by decide) rfl rfl

theorem HL.u36 {tl : List (Nat × Nat)} {rd : Nat → Nat → Option Nat} {b k : Nat} {v : Option Nat} (h : HL tl rd b) (hb : 37 ≤ b) : HL tl (up2 rd 36 k v) b := by
  have e : ∀ x y, 37 ≤ x → rst (up2 rd 36 k v) x y = rst rd x y := fun x y hx => rst_cg (by rw [up2_ne (show x ≠ 36 by omega)])
  obtain ⟨e1, ⟨e2, e3, e4, e5, e6, e7⟩, e8, e9, e10, e11⟩ := h
  refine ⟨e1, ⟨?_, ?_, ?_, ?_, ?_, ?_⟩, fun k a1 a2 => ?_, fun k a1 a2 => ?_, e10, e11⟩
  · rw [e _ _ (by omega)]; exact e2
  · rw [e _ _ (by omega)]; exact e3
  · rw [e _ _ (by omega)]; exact e4
  · rw [e _ _ (by omega)]; exact e5
  · rw [e _ _ (by omega)]; exact e6
  · rw [e _ _ (by omega)]; exact e7
  · rw [e _ _ (by omega)]; exact e8 k a1 a2
  · rw [e _ _ (by omega)]; exact e9 k a1 a2

set_option maxRecDepth 20000 in
theorem c_xImC (tl : List (Nat × Nat)) (I : Nat → Nat → Int32) (L : Nat → Nat → Int64) (rd : Nat → Nat → Option Nat) (k : Nat) (hk : k < 3) (hr : rst rd 36 k = none) (hl : 131 + tl.length + 50 ≤ mx) (hF : RF (tl ++ hsh) (up2 (nhM tl I L rd).2.2.2 36 k (some (131 + tl.length))) 1) (hT : ∀ j, j < 600 → fits .byte (.int (h_4 (nhI I (131 + tl.length)) (131 + tl.length) 1 (1 + 33) j)) = true) : Call 142 [.ref 0, .int (nI k)] (mk tl I L rd) (some (.int 1)) (mk (tl ++ hsh) (h_7 (nhI I (131 + tl.length)) (131 + tl.length) 1) (nhM tl I L rd).2.2.1 (rdC (up2 (nhM tl I L rd).2.2.2 36 k (some (131 + tl.length))) (131 + tl.length) 1 4)) := by
  have e5 : (mk tl I L rd).2.2.2 36 k = none := hr
  show Runs 142 0 [some (.ref 0), some (.int (nI k))] [] (mk tl I L rd) _ _
  refine Runs.bl 3 (g := true) (i' := 3) (ls' := [some (.ref 0), some (.int (nI k))]) (st' := [.int 2, .int 0, .int (nI k)]) (M' := mk tl I L rd) rfl rfl ?_
  refine Runs.call (k' := 147) (as := [.int (nI k), .int 0, .int 2]) (rest := []) (r1 := some (.int (outside I (nI k) 0 2))) (M1 := mk tl I L rd) rfl rfl rfl (c_outside tl I L rd (nI k) 0 2) ?_
  rw [out3 I hk]
  refine Runs.bl 4 (g := true) (i' := 10) (ls' := [some (.ref 0), some (.int (nI k))]) (st' := [.int (nI k), .ref 36]) (M' := mk tl I L rd) rfl rfl ?_
  refine Runs.st rfl rfl rfl (aal4 (n := 3) rfl hk (by decide) (by rw [e5]; rfl)) ?_
  rw [e5]
  refine Runs.bl 4 (g := true) (i' := 15) (ls' := [some (.ref 0), some (.int (nI k))]) (st' := [.int (nI k), .ref 36]) (M' := mk tl I L rd) rfl rfl ?_
  refine Runs.st rfl rfl rfl (nw_raw (by decide) (by rw [mk_len]; omega)) ?_
  refine Runs.st rfl rfl rfl rfl ?_
  rw [mk_len]
  refine Runs.call (k' := 25) (as := [.ref (131 + tl.length)]) (rest := [.ref (131 + tl.length), .int (nI k), .ref 36]) (r1 := none) rfl rfl (cal2_s rfl rfl rfl (rcI_of (by omega))) (ini_house _ _ (by omega) (by have h := sh_new (mk tl I L rd) 13 15; rw [mk_len] at h; exact h) (by rw [ln_new, mk_len]; omega)) ?_
  show Runs 142 18 _ _ (nhM tl I L rd) _ _
  have hL := nhM_HL tl I L rd (by omega)
  have eM := nhM_mk tl I L rd
  refine Runs.cg (M := mk (tl ++ hsh) (nhI I (131 + tl.length)) (nhM tl I L rd).2.2.1 (nhM tl I L rd).2.2.2) rfl eM ?_
  refine Runs.st rfl rfl rfl (aas4 (n := 3) (m := 15) rfl hk (by decide) (hL.1 0 (by decide))) ?_
  rw [mk_wR (fun r => rfl)]
  have hbx : 131 + tl.length < mx := by omega
  have e6 : (mk (tl ++ hsh) (nhI I (131 + tl.length)) (nhM tl I L rd).2.2.1 (up2 (nhM tl I L rd).2.2.2 36 k (some (131 + tl.length)))).2.2.2 36 k = some (131 + tl.length) := by show up2 (nhM tl I L rd).2.2.2 36 k (some (131 + tl.length)) 36 k = _; exact up2_at
  refine Runs.bl 3 (g := true) (i' := 22) (ls' := [some (.ref 0), some (.int (nI k))]) (st' := [.int (nI k), .ref 36]) (M' := mk (tl ++ hsh) (nhI I (131 + tl.length)) (nhM tl I L rd).2.2.1 (up2 (nhM tl I L rd).2.2.2 36 k (some (131 + tl.length)))) rfl rfl ?_
  refine Runs.st rfl rfl rfl (aal4 (n := 3) rfl hk (by decide) (by rw [e6]; exact decide_eq_true hbx)) ?_
  rw [e6]
  refine Runs.bl 2 (g := true) (i' := 25) (ls' := [some (.ref 0), some (.int (nI k))]) (st' := [.ref 1, .ref (131 + tl.length)]) (M' := mk (tl ++ hsh) (nhI I (131 + tl.length)) (nhM tl I L rd).2.2.1 (up2 (nhM tl I L rd).2.2.2 36 k (some (131 + tl.length)))) rfl rfl ?_
  refine Runs.call (k' := 26) (as := [.ref (131 + tl.length), .ref 1]) (rest := []) (r1 := none) rfl rfl (cal2_v rfl rfl rfl (rcv_of hbx (hL.1 0 (by decide)) rfl)) (c_cpHouse (tl ++ hsh) _ _ _ (131 + tl.length) 1 (hL.u36 (by omega)) (HL_1 _ _) (Or.inr (by omega)) hF hT) ?_
  refine Runs.bl 1 (g := true) (i' := 27) (ls' := [some (.ref 0), some (.int (nI k))]) (st' := [.int 1]) (M' := mk (tl ++ hsh) (h_7 (nhI I (131 + tl.length)) (131 + tl.length) 1) (nhM tl I L rd).2.2.1 (rdC (up2 (nhM tl I L rd).2.2.2 36 k (some (131 + tl.length))) (131 + tl.length) 1 4)) rfl rfl ?_
  exact Runs.rz rfl rfl (by decide) rfl rfl

set_option maxRecDepth 20000 in
theorem c_xAgZ (tl : List (Nat × Nat)) (I : Nat → Nat → Int32) (L : Nat → Nat → Int64) (rd : Nat → Nat → Option Nat) (k : Nat) (hk : k < 3) (hr : rst rd 36 k = none) : Call 143 [.ref 0, .int (nI k)] (mk tl I L rd) (some (.int 0)) (mk tl I L rd) := by
  have e5 : (mk tl I L rd).2.2.2 36 k = none := hr
  show Runs 143 0 [some (.ref 0), some (.int (nI k))] [] (mk tl I L rd) _ _
  refine Runs.bl 3 (g := true) (i' := 3) (ls' := [some (.ref 0), some (.int (nI k))]) (st' := [.int 2, .int 0, .int (nI k)]) (M' := mk tl I L rd) rfl rfl ?_
  refine Runs.call (k' := 147) (as := [.int (nI k), .int 0, .int 2]) (rest := []) (r1 := some (.int (outside I (nI k) 0 2))) (M1 := mk tl I L rd) rfl rfl rfl (c_outside tl I L rd (nI k) 0 2) ?_
  rw [out3 I hk]
  refine Runs.bl 4 (g := true) (i' := 8) (ls' := [some (.ref 0), some (.int (nI k))]) (st' := [.int (nI k), .ref 36]) (M' := mk tl I L rd) rfl rfl ?_
  refine Runs.st rfl rfl rfl (aal4 (n := 3) rfl hk (by decide) (by rw [e5]; rfl)) ?_
  rw [e5]
  refine Runs.bl 2 (g := true) (i' := 11) (ls' := [some (.ref 0), some (.int (nI k))]) (st' := [.int 0]) (M' := mk tl I L rd) rfl rfl ?_
  exact Runs.rz rfl rfl (by decide) rfl rfl

set_option maxRecDepth 20000 in
theorem c_xAgB (tl : List (Nat × Nat)) (I : Nat → Nat → Int32) (L : Nat → Nat → Int64) (rd : Nat → Nat → Option Nat) (k b : Nat) (hk : k < 3) (hr : rst rd 36 k = some b) (hB : HL tl rd b) (hb : 36 ≤ b) (hF : RF tl rd b) (hT : ∀ j, j < 600 → fits .byte (.int (h_4 I 1 b (b + 33) j)) = true) : Call 143 [.ref 0, .int (nI k)] (mk tl I L rd) (some (.int 1)) (mk tl (h_7 I 1 b) L (rdC rd 1 b 4)) := by
  have hbx : b < mx := by have := hB.2.2.2.2.1; omega
  have e5 : (mk tl I L rd).2.2.2 36 k = some b := hr
  show Runs 143 0 [some (.ref 0), some (.int (nI k))] [] (mk tl I L rd) _ _
  refine Runs.bl 3 (g := true) (i' := 3) (ls' := [some (.ref 0), some (.int (nI k))]) (st' := [.int 2, .int 0, .int (nI k)]) (M' := mk tl I L rd) rfl rfl ?_
  refine Runs.call (k' := 147) (as := [.int (nI k), .int 0, .int 2]) (rest := []) (r1 := some (.int (outside I (nI k) 0 2))) (M1 := mk tl I L rd) rfl rfl rfl (c_outside tl I L rd (nI k) 0 2) ?_
  rw [out3 I hk]
  refine Runs.bl 4 (g := true) (i' := 8) (ls' := [some (.ref 0), some (.int (nI k))]) (st' := [.int (nI k), .ref 36]) (M' := mk tl I L rd) rfl rfl ?_
  refine Runs.st rfl rfl rfl (aal4 (n := 3) rfl hk (by decide) (by rw [e5]; exact decide_eq_true hbx)) ?_
  rw [e5]
  refine Runs.bl 6 (g := decide (b < mx) && true) (i' := 17) (ls' := [some (.ref 0), some (.int (nI k))]) (st' := [.int (nI k), .ref 36, .ref 1]) (M' := mk tl I L rd) rfl (by rw [decide_eq_true hbx]; rfl) ?_
  refine Runs.st rfl rfl rfl (aal4 (n := 3) rfl hk (by decide) (by rw [e5]; exact decide_eq_true hbx)) ?_
  rw [e5]
  refine Runs.call (k' := 26) (as := [.ref 1, .ref b]) (rest := []) (r1 := none) rfl rfl rfl (c_cpHouse tl I L rd 1 b (HL_1 tl rd) hB (Or.inl hb) hF hT) ?_
  refine Runs.bl 1 (g := true) (i' := 20) (ls' := [some (.ref 0), some (.int (nI k))]) (st' := [.int 1]) (M' := mk tl (h_7 I 1 b) L (rdC rd 1 b 4)) rfl rfl ?_
  exact Runs.rz rfl rfl (by decide) rfl rfl

