/-! THE START: what holds before the first call -/
def z0 : Nat → Int32 := fun _ => 0
theorem cl_I {M : Mm} (h : M.1.length = 1) (a : Nat) : (classM 0 M).2.1 a = if 2 ≤ a ∧ a < 61 then (fun _ => 0) else if a = 1 then upr (fun _ => 0) 12 (-1) else M.2.1 a := by
  have hN : (mNew M 13 15).1.length = 2 := by rw [ln_new, h]
  have l1 : (hNew 0 0 M).1.length = 36 := by rw [hNew_1, List.length_append, h]; rfl
  have l2 : (aNew 0 1 4 3 (hNew 0 0 M)).1.length = 37 := by rw [aNew_1, List.length_append, l1]; rfl
  have l3 : (oNew 0 2 14 1 ct_law (aNew 0 1 4 3 (hNew 0 0 M))).1.length = 39 := by rw [oNew_1, List.length_append, l2]; rfl
  have l4 : (oNew 0 3 17 10 ct_reader (oNew 0 2 14 1 ct_law (aNew 0 1 4 3 (hNew 0 0 M)))).1.length = 42 := by rw [oNew_1, List.length_append, l3]; rfl
  have l5 : (oNew 0 4 18 1 ct_rings (oNew 0 3 17 10 ct_reader (oNew 0 2 14 1 ct_law (aNew 0 1 4 3 (hNew 0 0 M))))).1.length = 44 := by rw [oNew_1, List.length_append, l4]; rfl
  have l6 : (oNew 0 5 20 10 ct_vote (oNew 0 4 18 1 ct_rings (oNew 0 3 17 10 ct_reader (oNew 0 2 14 1 ct_law (aNew 0 1 4 3 (hNew 0 0 M)))))).1.length = 47 := by rw [oNew_1, List.length_append, l5]; rfl
  have l7 : (oNew 0 6 19 10 ct_swing (oNew 0 5 20 10 ct_vote (oNew 0 4 18 1 ct_rings (oNew 0 3 17 10 ct_reader (oNew 0 2 14 1 ct_law (aNew 0 1 4 3 (hNew 0 0 M))))))).1.length = 52 := by rw [oNew_1, List.length_append, l6]; rfl
  have l8 : (oNew 0 7 15 3 ct_parting (oNew 0 6 19 10 ct_swing (oNew 0 5 20 10 ct_vote (oNew 0 4 18 1 ct_rings (oNew 0 3 17 10 ct_reader (oNew 0 2 14 1 ct_law (aNew 0 1 4 3 (hNew 0 0 M)))))))).1.length = 56 := by rw [oNew_1, List.length_append, l7]; rfl
  have eH : (hNew 0 0 M).2.1 a = if 2 ≤ a ∧ a < 36 then (fun _ => 0) else if a = 1 then upr (fun _ => 0) 12 (-1) else M.2.1 a := by
    unfold hNew
    show (houseM M.1.length (mNew M 13 15)).2.1 a = _
    rw [houseM_I _ _ (by rw [h, hN]; omega), hN, h]
    show (if 2 ≤ a ∧ a < 36 then _ else if a = 1 then upr (up1 M.2.1 M.1.length (fun _ => 0) 1) 12 (-1) else up1 M.2.1 M.1.length (fun _ => 0) a) = _
    rw [h, up1_at]
    by_cases e : a = 1
    · have g : ¬ (2 ≤ a ∧ a < 36) := by omega
      rw [if_neg g, if_neg g, if_pos e, if_pos e]
    · rw [if_neg e, if_neg e, up1_ne e]
  unfold classM
  rw [oNew_I, l8, oNew_I, l7, oNew_I, l6, oNew_I, l5, oNew_I, l4, oNew_I, l3, oNew_I, l2, aNew_I, l1, eH]
  show (if 56 ≤ a ∧ a < 61 then _ else if 52 ≤ a ∧ a < 56 then _ else if 47 ≤ a ∧ a < 52 then _ else if 44 ≤ a ∧ a < 47 then _ else if 42 ≤ a ∧ a < 44 then _ else if 39 ≤ a ∧ a < 42 then _ else if 37 ≤ a ∧ a < 39 then _ else if a = 36 then _ else _) = _
  by_cases c8 : 56 ≤ a ∧ a < 61
  · rw [if_pos c8, if_pos (by omega)]
  rw [if_neg c8]
  by_cases c7 : 52 ≤ a ∧ a < 56
  · rw [if_pos c7, if_pos (by omega)]
  rw [if_neg c7]
  by_cases c6 : 47 ≤ a ∧ a < 52
  · rw [if_pos c6, if_pos (by omega)]
  rw [if_neg c6]
  by_cases c5 : 44 ≤ a ∧ a < 47
  · rw [if_pos c5, if_pos (by omega)]
  rw [if_neg c5]
  by_cases c4 : 42 ≤ a ∧ a < 44
  · rw [if_pos c4, if_pos (by omega)]
  rw [if_neg c4]
  by_cases c3 : 39 ≤ a ∧ a < 42
  · rw [if_pos c3, if_pos (by omega)]
  rw [if_neg c3]
  by_cases c2 : 37 ≤ a ∧ a < 39
  · rw [if_pos c2, if_pos (by omega)]
  rw [if_neg c2]
  by_cases c1 : a = 36
  · rw [if_pos c1, if_pos (by omega)]
  rw [if_neg c1]
  by_cases c0 : 2 ≤ a ∧ a < 36
  · rw [if_pos c0, if_pos (by omega)]
  rw [if_neg c0, if_neg (show ¬ (2 ≤ a ∧ a < 61) by omega)]
theorem cl_len {M : Mm} (h : M.1.length = 1) : (classM 0 M).1.length = 61 := by
  have l1 : (hNew 0 0 M).1.length = 36 := by rw [hNew_1, List.length_append, h]; rfl
  unfold classM
  rw [oNew_1, List.length_append, oNew_1, List.length_append, oNew_1, List.length_append, oNew_1, List.length_append, oNew_1, List.length_append, oNew_1, List.length_append, oNew_1, List.length_append, aNew_1, List.length_append, l1]
  rfl
theorem st_len (Ls : Nat) (xs : Nat → Int32) : (mNew (lwM Ls xs) 21 9).1.length = 1 := rfl
theorem st_len2 (Ls : Nat) (xs : Nat → Int32) : (mNew (classM 0 (mNew (lwM Ls xs) 21 9)) 22 80).1.length = 62 := by rw [ln_new, cl_len (st_len Ls xs)]
theorem stM_I (Ls : Nat) (xs : Nat → Int32) (a : Nat) : (stM Ls xs).2.1 a = if a = 65 then upr (fun _ => 0) 0 (-1) else if a = 1 then upr (fun _ => 0) 12 (-1) else if a < 131 then (fun _ => 0) else (lwM Ls xs).2.1 a := by
  unfold stM modelM
  rw [st_len2]
  show up2 (ctorM 61 ct_model (mNew (classM 0 (mNew (lwM Ls xs) 21 9)) 22 80)).2.1 65 0 (-1) a = _
  have key : ∀ a, (ctorM 61 ct_model (mNew (classM 0 (mNew (lwM Ls xs) 21 9)) 22 80)).2.1 a = if a = 1 then upr (fun _ => 0) 12 (-1) else if a < 131 then (fun _ => 0) else (lwM Ls xs).2.1 a := by
    intro a
    rw [ctorM_I, st_len2]
    show (if 62 ≤ a ∧ a < 131 then _ else up1 (classM 0 (mNew (lwM Ls xs) 21 9)).2.1 (classM 0 (mNew (lwM Ls xs) 21 9)).1.length (fun _ => 0) a) = _
    rw [cl_len (st_len Ls xs)]
    by_cases c1 : 62 ≤ a ∧ a < 131
    · rw [if_pos c1, if_neg (by omega), if_pos (by omega)]
    rw [if_neg c1]
    by_cases c2 : a = 61
    · rw [c2, up1_at, if_neg (by decide), if_pos (by decide)]
    rw [up1_ne c2, cl_I (st_len Ls xs)]
    by_cases c3 : 2 ≤ a ∧ a < 61
    · rw [if_pos c3, if_neg (by omega), if_pos (by omega)]
    rw [if_neg c3]
    by_cases c4 : a = 1
    · rw [if_pos c4, if_pos c4]
    rw [if_neg c4, if_neg c4]
    show up1 (lwM Ls xs).2.1 0 (fun _ => 0) a = _
    by_cases c5 : a = 0
    · rw [c5, up1_at, if_pos (by decide)]
    · rw [up1_ne c5, if_neg (by omega)]
  by_cases e : a = 65
  · subst e
    rw [if_pos rfl, su2, key, if_neg (by decide), if_pos (by decide)]
  · rw [up2_ne e, if_neg e, key]
theorem stM_rd (Ls : Nat) (xs : Nat → Int32) : rst (stM Ls xs).2.2.2 = (stM Ls xs).2.2.2 := by
  rw [(stM_SR Ls xs).2]
  funext a k
  unfold rst
  cases h1 : rfz[a]? with
  | none => rfl
  | some row =>
    cases h2 : row[k]? with
    | none => simp only [h2]
    | some y =>
      cases y with
      | none => simp only [h2]
      | some z =>
        have ha : a < 131 := by
          have := (List.getElem?_eq_some_iff.mp h1).1
          rw [rfz_len] at this; exact this
        have hk : k < 80 := by
          have e1 := (List.getElem?_eq_some_iff.mp h2).1
          have e2 := rfz_80 row (List.mem_of_getElem? h1)
          omega
        have t := rfck_t
        unfold rfck at t
        have t1 := List.all_eq_true.mp t a (List.mem_range.mpr ha)
        have t2 := List.all_eq_true.mp t1 k (List.mem_range.mpr hk)
        rw [h1] at t2
        dsimp only at t2
        rw [h2] at t2
        simp only [h2]
        exact (of_decide_eq_true t2).symm
theorem stM_mk (Ls : Nat) (xs : Nat → Int32) : stM Ls xs = mk [] (stM Ls xs).2.1 (stM Ls xs).2.2.1 (stM Ls xs).2.2.2 := by
  have e1 : (stM Ls xs).1 = Sst ++ [] := by rw [(stM_SR Ls xs).1, stM_0, List.append_nil]
  show ((stM Ls xs).1, (stM Ls xs).2.1, (stM Ls xs).2.2.1, (stM Ls xs).2.2.2) = (Sst ++ [], (stM Ls xs).2.1, (stM Ls xs).2.2.1, rst (stM Ls xs).2.2.2)
  rw [e1, stM_rd]
/-- the start's relation -/
theorem St.zero {X : Nat → Nat → Int32} (h1 : X 1 = upr (fun _ => 0) 12 (-1)) (h65 : X 65 = upr (fun _ => 0) 0 (-1)) (hz : ∀ a, a < 131 → a ≠ 1 → a ≠ 65 → X a = fun _ => 0) : St 0 0 0 0 0 0 0 0 0 X X := by
  have z : ∀ a j, a < 131 → a ≠ 1 → a ≠ 65 → X a j = 0 := fun a j e1 e2 e3 => by rw [hz a e1 e2 e3]
  have o : ∀ j, j ≠ 12 → X 1 j = 0 := fun j hj => by rw [h1, upr_ne hj]
  have n0 : (0 : Int32) = nI 0 := rfl
  refine ⟨⟨z 2 0 (by decide) (by decide) (by decide), z 16 0 (by decide) (by decide) (by decide), o 3 (by decide), o 4 (by decide), o 5 (by decide), o 7 (by decide), o 10 (by decide), o 14 (by decide), by decide, by decide, by decide, by decide, by decide, by decide, z 69 0 (by decide) (by decide) (by decide), z 86 0 (by decide) (by decide) (by decide), z 104 0 (by decide) (by decide) (by decide), z 66 0 (by decide) (by decide) (by decide), z 67 0 (by decide) (by decide) (by decide), z 84 0 (by decide) (by decide) (by decide), z 63 0 (by decide) (by decide) (by decide), z 102 0 (by decide) (by decide) (by decide), ?_, ?_, ?_⟩, ?_, ?_, ?_, ⟨by decide, fun j hj => by omega, fun j hj => ?_⟩, ⟨by decide, fun j hj => by omega⟩⟩
  · rw [z 64 0 (by decide) (by decide) (by decide), o 11 (by decide)]
  · rw [h65, h1, upr_at, upr_at]
  · rw [z 68 0 (by decide) (by decide) (by decide), o 6 (by decide)]
  · refine ⟨?_, ?_, ?_, ?_, ?_, ?_, ?_, ?_, ?_, ?_, ?_, ?_, ?_, ?_, ⟨?_, (by show (0 : Int) ≤ 1000000 * ((0 : Nat) : Int); decide)⟩, ?_, ?_, ?_, ?_, ?_, ?_⟩ <;> (intro j hj; omega)
  · refine ⟨?_, ?_, ?_, ?_, ?_, ?_, ?_, ?_, ?_, ?_, ?_, ?_, ?_, ?_, ?_, ?_, ?_, ?_, ?_, ?_, ?_, ?_, ?_, ?_, ?_, ?_⟩ <;> (intro j hj; omega)
  · intro p r hp hr
    rw [z 33 _ (by decide) (by decide) (by decide)]
    exact ⟨fun y => by omega, fun _ => rfl, by decide, by decide⟩
  · rw [z 34 _ (by decide) (by decide) (by decide), z 62 _ (by decide) (by decide) (by decide)]
    unfold byt
    decide
theorem INV.start (Ls : Nat) (xs : Nat → Int32) : INV xs Ls 0 [] (stM Ls xs).2.1 (stM Ls xs).2.2.2 := by
  have m0 : mx = 1000000 := rfl
  have e1 : (stM Ls xs).2.1 1 = upr (fun _ => 0) 12 (-1) := by rw [stM_I, if_neg (by decide), if_pos rfl]
  have e65 : (stM Ls xs).2.1 65 = upr (fun _ => 0) 0 (-1) := by rw [stM_I, if_pos rfl]
  have ez : ∀ a, a < 131 → a ≠ 1 → a ≠ 65 → (stM Ls xs).2.1 a = fun _ => 0 := fun a h1 h2 h3 => by rw [stM_I, if_neg h3, if_neg h2, if_pos h1]
  have r32 : ∀ a, a < 4 → rst (stM Ls xs).2.2.2 32 a = none := fun a ha => by rw [stM_rd, (stM_SR Ls xs).2]; exact stM_n.1 a ha
  have r36 : ∀ k, k < 3 → rst (stM Ls xs).2.2.2 36 k = none := fun a ha => by rw [stM_rd, (stM_SR Ls xs).2]; exact stM_n.2 a ha
  refine ⟨⟨0, fun _ => 0, fun _ => 0, fun _ => 0, 0, 0, 0, 0, 0, 0, 0, ?_, fun a ha => by omega, fun a ha => by omega, fun a ha => Or.inl (r32 a ha), HL_1 _ _⟩, fun k hk => Or.inl ⟨r36 k hk, by rw [ez 130 (by decide) (by decide) (by decide)]⟩, fun k k' h1 h2 h3 b e => (by rw [r36 k h1] at e; exact absurd e (by simp)), by decide, by decide, ?_, ?_⟩
  · rw [vx_1, vy_0]; exact St.zero e1 e65 ez
  · rw [stM_I, if_neg (by omega), if_neg (by omega), if_neg (by omega)]
    show (if mx + 20 = mx + 20 then xs else if mx + 20 = mx + 21 then (fun _ => Int32.ofNat Ls) else fun _ => 0) = xs
    rw [if_pos rfl]
  · rw [stM_I, if_neg (by omega), if_neg (by omega), if_neg (by omega)]
    show (if mx + 21 = mx + 20 then xs else if mx + 21 = mx + 21 then (fun _ => Int32.ofNat Ls) else fun _ => 0) 0 = _
    rw [if_neg (by omega), if_pos rfl]; rfl
