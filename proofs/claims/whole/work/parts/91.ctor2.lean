/-! CONSTRUCTORS of the house, of both objects (printed by p91.py) -/
def aNew (x f t n : Nat) (M : Mm) : Mm := wR (mNew M t n) x f (some M.1.length)
def oNew (x f t n : Nat) (l : List (Nat × Nat × Nat)) (M : Mm) : Mm := wR (ctorM M.1.length l (mNew M t n)) x f (some M.1.length)
def houseM (x : Nat) (M : Mm) : Mm := ctorM x [(0, 12, 13)] (wI (ctorM x [(0, 144, 8), (2, 600, 9)] (aNew x 2 5 4 (oNew x 1 11 16 ct_debts (oNew x 0 16 14 ct_people M)))) x 12 (-1))
def hNew (x f : Nat) (M : Mm) : Mm := wR (houseM M.1.length (mNew M 13 15)) x f (some M.1.length)
def classM (x : Nat) (M : Mm) : Mm := oNew x 8 12 8 ct_freeing (oNew x 7 15 3 ct_parting (oNew x 6 19 10 ct_swing (oNew x 5 20 10 ct_vote (oNew x 4 18 1 ct_rings (oNew x 3 17 10 ct_reader (oNew x 2 14 1 ct_law (aNew x 1 4 3 (hNew x 0 M))))))))
def modelM (x : Nat) (M : Mm) : Mm := wI (ctorM x ct_model M) (M.1.length + 3) 0 (-1)
theorem nw_raw {n i : Nat} {ls : Lz} {st : List Value} {M : Mm} (h : n / 100 < 13) (hl : M.1.length < mx) : st2 (.new n) i ls st M = some (true, i + 1, ls, .ref M.1.length :: st, mNew M (10 + n / 100) (n % 100)) := by
  show (if n / 100 < 13 then some (decide (M.1.length < mx), i + 1, ls, Value.ref M.1.length :: st, mNew M (10 + n / 100) (n % 100)) else none) = _
  rw [if_pos h, decide_eq_true hl]
theorem sh_new (M : Mm) (t n : Nat) : (mNew M t n).1[M.1.length]? = some (t, n) := by
  show (M.1 ++ [(t, n)])[M.1.length]? = _
  rw [List.getElem?_append_right (Nat.le_refl _), Nat.sub_self]; rfl
theorem ln_new (M : Mm) (t n : Nat) : (mNew M t n).1.length = M.1.length + 1 := by
  show (M.1 ++ [(t, n)]).length = _
  rw [List.length_append]; rfl
/-- new, dup, its constructor, putfield -/
theorem new_blk {k i x n ki pf m f : Nat} {M M2 : Mm} {r : Option Value} {Me : Mm} (hx : x < mx) (h0 : mIns k i = some (.aload 0)) (h1 : mIns k (i + 1) = some (.new n)) (h2 : mIns k (i + 2) = some .dup) (h3 : mIns k (i + 3) = some (.invokespecial ki)) (h4 : mIns k (i + 4) = some (.putfield pf)) (hn : n / 100 < 13) (hl : M.1.length < mx) (hcal : ∀ y M, y < mx → cal2 (.invokespecial ki) [.ref y, .ref y, .ref x] M = some (ki, [.ref y], [.ref y, .ref x])) (hcall : Call ki [.ref M.1.length] (mNew M (10 + n / 100) (n % 100)) none M2) (hs2 : M2.1[x]? = some (10 + pf / 400, m)) (hf : pf / 4 % 100 = f) (hk : pf % 4 = 2) (hK : Runs k (i + 5) [some (.ref x)] [] (wR M2 x f (some M.1.length)) r Me) : Runs k i [some (.ref x)] [] M r Me := by
  refine Runs.st h0 rfl rfl rfl ?_
  refine Runs.st h1 rfl rfl (nw_raw hn hl) ?_
  refine Runs.st h2 rfl rfl rfl ?_
  refine Runs.call h3 rfl (hcal _ _ hl) hcall ?_
  refine Runs.st h4 rfl rfl (pr_dyn (m := m) hf hx hs2 hk) ?_
  exact hK
/-- an array of references -/
theorem ana_blk {k i x t n pf m f : Nat} {M : Mm} {r : Option Value} {Me : Mm} (hx : x < mx) (h0 : mIns k i = some (.aload 0)) (h1 : mIns k (i + 1) = some (.iconst (n : Int))) (h2 : mIns k (i + 2) = some (.anewarray t)) (h3 : mIns k (i + 3) = some (.putfield pf)) (ht : t = 4 ∨ t = 5) (hn : n < 10000) (hl : M.1.length < mx) (hs : M.1[x]? = some (10 + pf / 400, m)) (hf : pf / 4 % 100 = f) (hk : pf % 4 = 2) (hK : Runs k (i + 4) [some (.ref x)] [] (aNew x f t n M) r Me) : Runs k i [some (.ref x)] [] M r Me := by
  refine Runs.st h0 rfl rfl rfl ?_
  refine Runs.st h1 rfl rfl rfl ?_
  have e : (Int32.ofInt (n : Int)) = nI n := rfl
  have h1 : ¬ nI n < 0 := by rw [Int32.lt_iff_toInt_lt, nI_toInt (by omega), toI_0]; omega
  have h2' : (nI n).toNatClampNeg = n := nI_clamp (by omega)
  refine Runs.st (i' := i + 3) (M' := mNew M t n) (st' := [.ref M.1.length, .ref x]) (ls' := [some (.ref x)]) h2 rfl rfl (by rw [e]; simp only [st2, if_pos ht, h2', decide_eq_true h1, decide_eq_true hn, decide_eq_true hl, Bool.and_true]) ?_
  refine Runs.st h3 rfl rfl (pr_dyn (m := m) hf hx (sh_app hs) hk) ?_
  exact hK
theorem wR_1 (M : Mm) (a k : Nat) (v : Option Nat) : (wR M a k v).1 = M.1 := rfl
theorem oNew_1 (x f t n : Nat) (l : List (Nat × Nat × Nat)) (M : Mm) : (oNew x f t n l M).1 = M.1 ++ ((t, n) :: l.map (fun q => (q.1, q.2.1))) := by
  unfold oNew; rw [wR_1, ctorM_1]; show (M.1 ++ [(t, n)]) ++ _ = _; rw [List.append_assoc]; rfl
theorem aNew_1 (x f t n : Nat) (M : Mm) : (aNew x f t n M).1 = M.1 ++ [(t, n)] := rfl

/-- references of what ctorM makes -/
def cfR : List (Nat × Nat × Nat) → Nat → Nat → Option Nat
  | [], _, _ => none
  | q :: r, n, f => match cfR r (n + 1) f with
    | some y => some y
    | none => if q.2.2 = f then some n else none
theorem ctorM_R (x : Nat) : ∀ (l : List (Nat × Nat × Nat)) (M : Mm), x < M.1.length → (ctorM x l M).2.2.2 x = fun f => match cfR l M.1.length f with
    | some y => some y
    | none => M.2.2.2 x f := by
  intro l
  induction l with
  | nil => intro M hx; rfl
  | cons q l ih =>
    intro M hx
    rw [ctorM, ih _ (by rw [wR_1, ln_new]; omega)]
    funext f
    rw [wR_1, ln_new, cfR]
    show (match cfR l (M.1.length + 1) f with | some y => some y | none => up2 (up1 M.2.2.2 M.1.length (fun _ => none)) x q.2.2 (some M.1.length) x f) = _
    cases cfR l (M.1.length + 1) f with
    | some y => rfl
    | none =>
      show up2 (up1 M.2.2.2 M.1.length (fun _ => none)) x q.2.2 (some M.1.length) x f = (match (if q.2.2 = f then some M.1.length else none) with | some y => some y | none => M.2.2.2 x f)
      rw [wup2_at, up1_ne (show x ≠ M.1.length by omega)]
      by_cases e : f = q.2.2
      · rw [if_pos e, if_pos e.symm]
      · rw [if_neg e, if_neg (fun z => e z.symm)]
theorem ctorM_Rn (x : Nat) : ∀ (l : List (Nat × Nat × Nat)) (M : Mm) (a : Nat), a ≠ x → (ctorM x l M).2.2.2 a = if M.1.length ≤ a ∧ a < M.1.length + l.length then (fun _ => none) else M.2.2.2 a := by
  intro l
  induction l with
  | nil => intro M a _; rw [if_neg (by rw [List.length_nil]; omega)]; rfl
  | cons q l ih =>
    intro M a ha
    rw [ctorM, ih _ _ ha, wR_1, ln_new, List.length_cons]
    show (if M.1.length + 1 ≤ a ∧ a < M.1.length + 1 + l.length then (fun _ => none) else up2 (up1 M.2.2.2 M.1.length (fun _ => none)) x q.2.2 (some M.1.length) a) = _
    rw [up2_ne ha]
    by_cases e : a = M.1.length
    · rw [if_neg (by omega), if_pos (by omega), e, up1_at]
    · rw [up1_ne e]
      by_cases e2 : M.1.length ≤ a ∧ a < M.1.length + (l.length + 1)
      · rw [if_pos e2, if_pos (by omega)]
      · rw [if_neg e2, if_neg (by omega)]

set_option maxRecDepth 20000 in
theorem ini_house (M : Mm) (x : Nat) (hx : x < mx) (hs : M.1[x]? = some (13, 15)) (hl : M.1.length + 40 < mx) : Call 25 [.ref x] M none (houseM x M) := by
  show Runs 25 0 [some (.ref x)] [] M none _
  refine Runs.st rfl rfl rfl rfl ?_
  refine Runs.st rfl rfl rfl (s_id0 hx) ?_
  refine new_blk (k := 25) (n := 614) (ki := 53) (m := 15) (f := 0) (M := M) hx rfl rfl rfl rfl rfl (by decide) (by omega) (fun y M hy => cal2_s rfl rfl rfl (rcI_of hy)) (ini_people _ _ 14 (by omega) (sh_new _ _ _) (by rw [ln_new]; omega)) (by rw [ctorM_1]; exact sh_app (sh_app hs)) rfl rfl ?_
  have hs1 : (oNew x 0 16 14 ct_people M).1[x]? = some (13, 15) := by rw [oNew_1]; exact sh_app hs
  have hl1 : (oNew x 0 16 14 ct_people M).1.length = M.1.length + 14 := by rw [oNew_1, List.length_append]; rfl
  show Runs 25 7 _ _ (oNew x 0 16 14 ct_people M) _ _
  generalize hM1 : oNew x 0 16 14 ct_people M = M1 at hs1 hl1
  refine new_blk (k := 25) (n := 116) (ki := 4) (m := 15) (f := 1) (M := M1) hx rfl rfl rfl rfl rfl (by decide) (by omega) (fun y M hy => cal2_s rfl rfl rfl (rcI_of hy)) (ini_debts _ _ 16 (by omega) (sh_new _ _ _) (by rw [ln_new]; omega)) (by rw [ctorM_1]; exact sh_app (sh_app hs1)) rfl rfl ?_
  have hs2 : (oNew x 1 11 16 ct_debts M1).1[x]? = some (13, 15) := by rw [oNew_1]; exact sh_app hs1
  have hl2 : (oNew x 1 11 16 ct_debts M1).1.length = M.1.length + 30 := by rw [oNew_1, List.length_append, hl1]; rfl
  show Runs 25 12 _ _ (oNew x 1 11 16 ct_debts M1) _ _
  generalize hM2 : oNew x 1 11 16 ct_debts M1 = M2 at hs2 hl2
  refine ana_blk (k := 25) (t := 5) (n := 4) (m := 15) (f := 2) (M := M2) hx rfl rfl rfl rfl (Or.inr rfl) (by decide) (by omega) hs2 rfl rfl ?_
  have hs3 : (aNew x 2 5 4 M2).1[x]? = some (13, 15) := by rw [aNew_1]; exact sh_app hs2
  have hl3 : (aNew x 2 5 4 M2).1.length = M.1.length + 31 := by rw [aNew_1, List.length_append, hl2]; rfl
  generalize hM3 : aNew x 2 5 4 M2 = M3 at hs3 hl3
  refine ctor_gen (k := 25) (c := 3) (m := 15) hx (by decide) [(0, 144, 8), (2, 600, 9)] 16 M3 none _ ⟨⟨rfl, rfl, rfl, rfl, by decide, by decide, by decide⟩, ⟨rfl, rfl, rfl, rfl, by decide, by decide, by decide⟩, trivial⟩ hs3 (by rw [hl3]; show _ + 2 < mx; omega) ?_
  have hs4 : (ctorM x [(0, 144, 8), (2, 600, 9)] M3).1[x]? = some (13, 15) := by rw [ctorM_1]; exact sh_app hs3
  have hl4 : (ctorM x [(0, 144, 8), (2, 600, 9)] M3).1.length = M.1.length + 33 := by rw [ctorM_1, List.length_append, hl3]; rfl
  generalize hM4 : ctorM x [(0, 144, 8), (2, 600, 9)] M3 = M4 at hs4 hl4
  refine Runs.st (i' := 25) (k := 25) (i := 24) rfl rfl rfl rfl ?_
  refine Runs.st rfl rfl rfl rfl ?_
  refine Runs.st rfl rfl rfl (pi_dyn (f := 12) (m := 15) rfl hx hs4 rfl) ?_
  refine ctor_gen (k := 25) (c := 3) (m := 15) hx (by decide) [(0, 12, 13)] 27 (wI M4 x 12 (-1)) none _ ⟨⟨rfl, rfl, rfl, rfl, by decide, by decide, by decide⟩, trivial⟩ hs4 (by show M4.1.length + 1 < mx; omega) ?_
  refine Runs.rv rfl rfl ?_
  rw [← hM4, ← hM3, ← hM2, ← hM1]
  rfl
theorem houseM_1 (x : Nat) (M : Mm) : (houseM x M).1 = M.1 ++ [(16, 14), (0, 12), (0, 12), (0, 12), (0, 12), (0, 12), (0, 12), (0, 12), (0, 12), (0, 12), (0, 12), (0, 12), (0, 12), (0, 12), (11, 16), (0, 40), (0, 40), (0, 40), (0, 40), (0, 40), (0, 40), (0, 40), (0, 40), (0, 40), (0, 40), (0, 40), (0, 40), (0, 40), (0, 40), (0, 40), (5, 4), (0, 144), (2, 600), (0, 12)] := by
  unfold houseM
  rw [ctorM_1]
  show (ctorM x [(0, 144, 8), (2, 600, 9)] (aNew x 2 5 4 (oNew x 1 11 16 ct_debts (oNew x 0 16 14 ct_people M)))).1 ++ _ = _
  rw [ctorM_1, aNew_1, oNew_1, oNew_1]
  simp only [List.append_assoc]
  rfl
theorem hNew_1 (x f : Nat) (M : Mm) : (hNew x f M).1 = M.1 ++ [(13, 15), (16, 14), (0, 12), (0, 12), (0, 12), (0, 12), (0, 12), (0, 12), (0, 12), (0, 12), (0, 12), (0, 12), (0, 12), (0, 12), (0, 12), (11, 16), (0, 40), (0, 40), (0, 40), (0, 40), (0, 40), (0, 40), (0, 40), (0, 40), (0, 40), (0, 40), (0, 40), (0, 40), (0, 40), (0, 40), (0, 40), (5, 4), (0, 144), (2, 600), (0, 12)] := by
  unfold hNew
  rw [wR_1, houseM_1]
  show (M.1 ++ [(13, 15)]) ++ _ = _
  rw [List.append_assoc]; rfl

set_option maxRecDepth 20000 in
theorem ini_class (M : Mm) (x : Nat) (hx : x < mx) (hs : M.1[x]? = some (21, 9)) (hl : M.1.length + 100 < mx) : Call 105 [.ref x] M none (classM x M) := by
  show Runs 105 0 [some (.ref x)] [] M none _
  refine Runs.st rfl rfl rfl rfl ?_
  refine Runs.st rfl rfl rfl (s_id0 hx) ?_
  refine new_blk (k := 105) (n := 315) (ki := 25) (m := 9) (f := 0) (M := M) hx rfl rfl rfl rfl rfl (by decide) (by omega) (fun y M hy => cal2_s rfl rfl rfl (rcI_of hy)) (ini_house _ _ (by omega) (sh_new _ _ _) (by rw [ln_new]; omega)) (by rw [houseM_1]; exact sh_app (sh_app hs)) rfl rfl ?_
  have hs1 : (hNew x 0 M).1[x]? = some (21, 9) := by rw [hNew_1]; exact sh_app hs
  have hl1 : (hNew x 0 M).1.length = M.1.length + 35 := by rw [hNew_1, List.length_append]; rfl
  show Runs 105 7 _ _ (hNew x 0 M) _ _
  generalize hM1 : hNew x 0 M = M1 at hs1 hl1
  refine ana_blk (k := 105) (t := 4) (n := 3) (m := 9) (f := 1) (M := M1) hx rfl rfl rfl rfl (Or.inl rfl) (by decide) (by omega) hs1 rfl rfl ?_
  have hs2 : (aNew x 1 4 3 M1).1[x]? = some (21, 9) := by rw [aNew_1]; exact sh_app hs1
  have hl2 : (aNew x 1 4 3 M1).1.length = M.1.length + 36 := by rw [aNew_1, List.length_append, hl1]; rfl
  generalize hM2 : aNew x 1 4 3 M1 = M2 at hs2 hl2
  refine new_blk (k := 105) (n := 401) (ki := 38) (m := 9) (f := 2) (M := M2) hx rfl rfl rfl rfl rfl (by decide) (by omega) (fun y M hy => cal2_s rfl rfl rfl (rcI_of hy)) (ini_law _ _ 1 (by omega) (sh_new _ _ _) (by rw [ln_new]; omega)) (by rw [ctorM_1]; exact sh_app (sh_app hs2)) rfl rfl ?_
  have hs3 : (oNew x 2 14 1 ct_law M2).1[x]? = some (21, 9) := by rw [oNew_1]; exact sh_app hs2
  have hl3 : (oNew x 2 14 1 ct_law M2).1.length = M.1.length + 38 := by rw [oNew_1, List.length_append, hl2]; rfl
  show Runs 105 16 _ _ (oNew x 2 14 1 ct_law M2) _ _
  generalize hM3 : oNew x 2 14 1 ct_law M2 = M3 at hs3 hl3
  refine new_blk (k := 105) (n := 710) (ki := 65) (m := 9) (f := 3) (M := M3) hx rfl rfl rfl rfl rfl (by decide) (by omega) (fun y M hy => cal2_s rfl rfl rfl (rcI_of hy)) (ini_reader _ _ 10 (by omega) (sh_new _ _ _) (by rw [ln_new]; omega)) (by rw [ctorM_1]; exact sh_app (sh_app hs3)) rfl rfl ?_
  have hs4 : (oNew x 3 17 10 ct_reader M3).1[x]? = some (21, 9) := by rw [oNew_1]; exact sh_app hs3
  have hl4 : (oNew x 3 17 10 ct_reader M3).1.length = M.1.length + 41 := by rw [oNew_1, List.length_append, hl3]; rfl
  show Runs 105 21 _ _ (oNew x 3 17 10 ct_reader M3) _ _
  generalize hM4 : oNew x 3 17 10 ct_reader M3 = M4 at hs4 hl4
  refine new_blk (k := 105) (n := 801) (ki := 84) (m := 9) (f := 4) (M := M4) hx rfl rfl rfl rfl rfl (by decide) (by omega) (fun y M hy => cal2_s rfl rfl rfl (rcI_of hy)) (ini_rings _ _ 1 (by omega) (sh_new _ _ _) (by rw [ln_new]; omega)) (by rw [ctorM_1]; exact sh_app (sh_app hs4)) rfl rfl ?_
  have hs5 : (oNew x 4 18 1 ct_rings M4).1[x]? = some (21, 9) := by rw [oNew_1]; exact sh_app hs4
  have hl5 : (oNew x 4 18 1 ct_rings M4).1.length = M.1.length + 43 := by rw [oNew_1, List.length_append, hl4]; rfl
  show Runs 105 26 _ _ (oNew x 4 18 1 ct_rings M4) _ _
  generalize hM5 : oNew x 4 18 1 ct_rings M4 = M5 at hs5 hl5
  refine new_blk (k := 105) (n := 1010) (ki := 96) (m := 9) (f := 5) (M := M5) hx rfl rfl rfl rfl rfl (by decide) (by omega) (fun y M hy => cal2_s rfl rfl rfl (rcI_of hy)) (ini_vote _ _ 10 (by omega) (sh_new _ _ _) (by rw [ln_new]; omega)) (by rw [ctorM_1]; exact sh_app (sh_app hs5)) rfl rfl ?_
  have hs6 : (oNew x 5 20 10 ct_vote M5).1[x]? = some (21, 9) := by rw [oNew_1]; exact sh_app hs5
  have hl6 : (oNew x 5 20 10 ct_vote M5).1.length = M.1.length + 46 := by rw [oNew_1, List.length_append, hl5]; rfl
  show Runs 105 31 _ _ (oNew x 5 20 10 ct_vote M5) _ _
  generalize hM6 : oNew x 5 20 10 ct_vote M5 = M6 at hs6 hl6
  refine new_blk (k := 105) (n := 910) (ki := 90) (m := 9) (f := 6) (M := M6) hx rfl rfl rfl rfl rfl (by decide) (by omega) (fun y M hy => cal2_s rfl rfl rfl (rcI_of hy)) (ini_swing _ _ 10 (by omega) (sh_new _ _ _) (by rw [ln_new]; omega)) (by rw [ctorM_1]; exact sh_app (sh_app hs6)) rfl rfl ?_
  have hs7 : (oNew x 6 19 10 ct_swing M6).1[x]? = some (21, 9) := by rw [oNew_1]; exact sh_app hs6
  have hl7 : (oNew x 6 19 10 ct_swing M6).1.length = M.1.length + 51 := by rw [oNew_1, List.length_append, hl6]; rfl
  show Runs 105 36 _ _ (oNew x 6 19 10 ct_swing M6) _ _
  generalize hM7 : oNew x 6 19 10 ct_swing M6 = M7 at hs7 hl7
  refine new_blk (k := 105) (n := 503) (ki := 47) (m := 9) (f := 7) (M := M7) hx rfl rfl rfl rfl rfl (by decide) (by omega) (fun y M hy => cal2_s rfl rfl rfl (rcI_of hy)) (ini_parting _ _ 3 (by omega) (sh_new _ _ _) (by rw [ln_new]; omega)) (by rw [ctorM_1]; exact sh_app (sh_app hs7)) rfl rfl ?_
  have hs8 : (oNew x 7 15 3 ct_parting M7).1[x]? = some (21, 9) := by rw [oNew_1]; exact sh_app hs7
  have hl8 : (oNew x 7 15 3 ct_parting M7).1.length = M.1.length + 55 := by rw [oNew_1, List.length_append, hl7]; rfl
  show Runs 105 41 _ _ (oNew x 7 15 3 ct_parting M7) _ _
  generalize hM8 : oNew x 7 15 3 ct_parting M7 = M8 at hs8 hl8
  refine new_blk (k := 105) (n := 208) (ki := 18) (m := 9) (f := 8) (M := M8) hx rfl rfl rfl rfl rfl (by decide) (by omega) (fun y M hy => cal2_s rfl rfl rfl (rcI_of hy)) (ini_freeing _ _ 8 (by omega) (sh_new _ _ _) (by rw [ln_new]; omega)) (by rw [ctorM_1]; exact sh_app (sh_app hs8)) rfl rfl ?_
  have hs9 : (oNew x 8 12 8 ct_freeing M8).1[x]? = some (21, 9) := by rw [oNew_1]; exact sh_app hs8
  have hl9 : (oNew x 8 12 8 ct_freeing M8).1.length = M.1.length + 60 := by rw [oNew_1, List.length_append, hl8]; rfl
  show Runs 105 46 _ _ (oNew x 8 12 8 ct_freeing M8) _ _
  generalize hM9 : oNew x 8 12 8 ct_freeing M8 = M9 at hs9 hl9
  refine Runs.rv rfl rfl ?_
  rw [← hM9, ← hM8, ← hM7, ← hM6, ← hM5, ← hM4, ← hM3, ← hM2, ← hM1]
  rfl

set_option maxRecDepth 20000 in
theorem ini_model (M : Mm) (x : Nat) (hx : x < mx) (hs : M.1[x]? = some (22, 80)) (hR : M.2.2.2 x = fun _ => none) (hl : M.1.length + 100 < mx) : Call 150 [.ref x] M none (modelM x M) := by
  show Runs 150 0 [some (.ref x)] [] M none _
  refine Runs.st rfl rfl rfl rfl ?_
  refine Runs.st rfl rfl rfl (s_id0 hx) ?_
  refine ctor_gen (k := 150) (c := 12) (m := 80) hx (by decide) ct_model 2 M none _ bk_model hs (by show M.1.length + 69 < mx; omega) ?_
  show Runs 150 278 _ _ _ _ _
  have h1 : (ctorM x ct_model M).1[x]? = some (22, 80) := by rw [ctorM_1]; exact sh_app hs
  have hxl : x < M.1.length := (List.getElem?_eq_some_iff.mp hs).1
  have h2 : (ctorM x ct_model M).2.2.2 x 4 = some (M.1.length + 3) := by
    rw [ctorM_R _ _ _ hxl, hR]; rfl
  have h3 : (ctorM x ct_model M).1[M.1.length + 3]? = some (0, 4) := by
    rw [ctorM_1, List.getElem?_append_right (by omega), Nat.add_sub_cancel_left]; rfl
  refine Runs.st (i' := 279) (k := 150) (i := 278) rfl rfl rfl rfl ?_
  refine Runs.st rfl rfl rfl (dg_r (f := 4) (m := 80) rfl hx h1 rfl h2) ?_
  refine Runs.st rfl rfl rfl rfl ?_
  refine Runs.st rfl rfl rfl rfl ?_
  refine Runs.st rfl rfl rfl (g_as (j := 0) (n := 4) h3 (by decide) (by decide)) ?_
  exact Runs.rv rfl rfl rfl

