/-! CONSTRUCTORS over any memory (printed by p90.py) -/
def tyA (t : Nat) : ArrayType := if t = 0 then .int else if t = 1 then .boolean else if t = 2 then .byte else .long
/-- arrays made one after the other and put into fields of the object x: type, length, field -/
def ctorM (x : Nat) : List (Nat × Nat × Nat) → Mm → Mm
  | [], M => M
  | q :: r, M => ctorM x r (wR (mNew M q.1 q.2.1) x q.2.2 (some M.1.length))
def blk (k c : Nat) : Nat → List (Nat × Nat × Nat) → Prop
  | _, [] => True
  | i, q :: r => (mIns k i = some (.aload 0) ∧ mIns k (i + 1) = some (.iconst (q.2.1 : Int)) ∧ mIns k (i + 2) = some (.newarray (tyA q.1)) ∧ mIns k (i + 3) = some (.putfield (400 * c + 4 * q.2.2 + 2)) ∧ q.1 < 4 ∧ q.2.1 < 10000 ∧ q.2.2 < 100) ∧ blk k c (i + 4) r
theorem na_raw {i : Nat} {ls : Lz} {st : List Value} {M : Mm} {t n : Nat} (ht : t < 4) (hn : n < 10000) (hl : M.1.length < mx) : st2 (.newarray (tyA t)) i ls (.int (Int32.ofInt (n : Int)) :: st) M = some (true, i + 1, ls, .ref M.1.length :: st, mNew M t n) := by
  have e : (Int32.ofInt (n : Int)) = nI n := rfl
  have h1 : ¬ nI n < 0 := by rw [Int32.lt_iff_toInt_lt, nI_toInt (by omega), toI_0]; omega
  have h2 : (nI n).toNatClampNeg = n := nI_clamp (by omega)
  rw [e]
  match t, ht with
  | 0, _ => simp only [tyA, st2, h2, decide_eq_true h1, decide_eq_true hn, decide_eq_true hl]; rfl
  | 1, _ => simp only [tyA, st2, h2, decide_eq_true h1, decide_eq_true hn, decide_eq_true hl]; rfl
  | 2, _ => simp only [tyA, st2, h2, decide_eq_true h1, decide_eq_true hn, decide_eq_true hl]; rfl
  | 3, _ => simp only [tyA, st2, h2, decide_eq_true h1, decide_eq_true hn, decide_eq_true hl]; rfl
theorem rtn_na {k : Nat} {t : ArrayType} {st : List Value} : rtn k (.newarray t) st = none := by cases st <;> rfl
theorem sh_app {S T : List (Nat × Nat)} {a : Nat} {q : Nat × Nat} (h : S[a]? = some q) : (S ++ T)[a]? = some q := by
  rw [List.getElem?_append_left (List.getElem?_eq_some_iff.mp h).1]; exact h
theorem ctor_gen {k c x m : Nat} (hx : x < mx) (hc : c < 13) : ∀ (l : List (Nat × Nat × Nat)) (i : Nat) (M : Mm) (r : Option Value) (Me : Mm), blk k c i l → M.1[x]? = some (10 + c, m) → M.1.length + l.length < mx → Runs k (i + 4 * l.length) [some (.ref x)] [] (ctorM x l M) r Me → Runs k i [some (.ref x)] [] M r Me := by
  intro l
  induction l with
  | nil => intro i M r Me _ _ _ h; exact h
  | cons q l ih =>
    intro i M r Me hb hs hl hK
    obtain ⟨⟨h0, h1, h2, h3, h4, h5, h6⟩, hb2⟩ := hb
    have hl2 : M.1.length + l.length + 1 < mx := by rw [List.length_cons] at hl; omega
    refine Runs.st h0 rfl rfl rfl ?_
    refine Runs.st h1 rfl rfl rfl ?_
    refine Runs.st h2 rtn_na rfl (na_raw h4 h5 (by omega)) ?_
    have e1 : (400 * c + 4 * q.2.2 + 2) / 4 % 100 = q.2.2 := by omega
    have e2 : (400 * c + 4 * q.2.2 + 2) / 400 = c := by omega
    refine Runs.st h3 rfl rfl (pr_dyn (m := m) e1 hx (by rw [e2]; exact sh_app hs) (by omega)) ?_
    refine ih (i + 4) _ r Me hb2 (sh_app hs) ?_ ?_
    · show (M.1 ++ [(q.1, q.2.1)]).length + l.length < mx
      rw [List.length_append]; show M.1.length + 1 + l.length < mx; omega
    · rw [show i + 4 + 4 * l.length = i + 4 * (q :: l).length by rw [List.length_cons]; omega]; exact hK
/-- shapes, ints, longs of what ctorM makes -/
theorem ctorM_1 (x : Nat) : ∀ (l : List (Nat × Nat × Nat)) (M : Mm), (ctorM x l M).1 = M.1 ++ l.map (fun q => (q.1, q.2.1)) := by
  intro l
  induction l with
  | nil => intro M; exact (List.append_nil _).symm
  | cons q l ih => intro M; rw [ctorM, ih]; show (M.1 ++ [(q.1, q.2.1)]) ++ _ = _; rw [List.append_assoc]; rfl
theorem ctorM_I (x : Nat) : ∀ (l : List (Nat × Nat × Nat)) (M : Mm) (a : Nat), (ctorM x l M).2.1 a = if M.1.length ≤ a ∧ a < M.1.length + l.length then (fun _ => 0) else M.2.1 a := by
  intro l
  induction l with
  | nil => intro M a; rw [if_neg (by rw [List.length_nil]; omega)]; rfl
  | cons q l ih =>
    intro M a
    rw [ctorM, ih]
    show (if (M.1 ++ [(q.1, q.2.1)]).length ≤ a ∧ a < (M.1 ++ [(q.1, q.2.1)]).length + l.length then (fun _ => 0) else up1 M.2.1 M.1.length (fun _ => 0) a) = _
    rw [List.length_append, List.length_cons, List.length_cons, List.length_nil]
    by_cases e : a = M.1.length
    · rw [if_neg (by omega), if_pos (by omega), e, up1_at]
    · rw [up1_ne e]
      by_cases e2 : M.1.length ≤ a ∧ a < M.1.length + (l.length + 1)
      · rw [if_pos e2, if_pos (by omega)]
      · rw [if_neg e2, if_neg (by omega)]
theorem ctorM_L (x : Nat) : ∀ (l : List (Nat × Nat × Nat)) (M : Mm) (a : Nat), (ctorM x l M).2.2.1 a = if M.1.length ≤ a ∧ a < M.1.length + l.length then (fun _ => 0) else M.2.2.1 a := by
  intro l
  induction l with
  | nil => intro M a; rw [if_neg (by rw [List.length_nil]; omega)]; rfl
  | cons q l ih =>
    intro M a
    rw [ctorM, ih]
    show (if (M.1 ++ [(q.1, q.2.1)]).length ≤ a ∧ a < (M.1 ++ [(q.1, q.2.1)]).length + l.length then (fun _ => 0) else up1 M.2.2.1 M.1.length (fun _ => 0) a) = _
    rw [List.length_append, List.length_cons, List.length_cons, List.length_nil]
    by_cases e : a = M.1.length
    · rw [if_neg (by omega), if_pos (by omega), e, up1_at]
    · rw [up1_ne e]
      by_cases e2 : M.1.length ≤ a ∧ a < M.1.length + (l.length + 1)
      · rw [if_pos e2, if_pos (by omega)]
      · rw [if_neg e2, if_neg (by omega)]

def ct_people : List (Nat × Nat × Nat) := [(0, 12, 1), (0, 12, 2), (0, 12, 3), (0, 12, 4), (0, 12, 5), (0, 12, 6), (0, 12, 7), (0, 12, 8), (0, 12, 9), (0, 12, 10), (0, 12, 11), (0, 12, 12), (0, 12, 13)]
theorem bk_people : blk 53 6 2 ct_people := ⟨⟨rfl, rfl, rfl, rfl, by decide, by decide, by decide⟩, ⟨⟨rfl, rfl, rfl, rfl, by decide, by decide, by decide⟩, ⟨⟨rfl, rfl, rfl, rfl, by decide, by decide, by decide⟩, ⟨⟨rfl, rfl, rfl, rfl, by decide, by decide, by decide⟩, ⟨⟨rfl, rfl, rfl, rfl, by decide, by decide, by decide⟩, ⟨⟨rfl, rfl, rfl, rfl, by decide, by decide, by decide⟩, ⟨⟨rfl, rfl, rfl, rfl, by decide, by decide, by decide⟩, ⟨⟨rfl, rfl, rfl, rfl, by decide, by decide, by decide⟩, ⟨⟨rfl, rfl, rfl, rfl, by decide, by decide, by decide⟩, ⟨⟨rfl, rfl, rfl, rfl, by decide, by decide, by decide⟩, ⟨⟨rfl, rfl, rfl, rfl, by decide, by decide, by decide⟩, ⟨⟨rfl, rfl, rfl, rfl, by decide, by decide, by decide⟩, ⟨⟨rfl, rfl, rfl, rfl, by decide, by decide, by decide⟩, trivial⟩⟩⟩⟩⟩⟩⟩⟩⟩⟩⟩⟩⟩
theorem ini_people (M : Mm) (x m : Nat) (hx : x < mx) (hs : M.1[x]? = some (16, m)) (hl : M.1.length + 13 < mx) : Call 53 [.ref x] M none (ctorM x ct_people M) := by
  show Runs 53 0 [some (.ref x)] [] M none _
  refine Runs.st rfl rfl rfl rfl ?_
  refine Runs.st rfl rfl rfl (s_id0 hx) ?_
  refine ctor_gen (c := 6) (m := m) hx (by decide) ct_people 2 M none _ bk_people hs hl ?_
  exact Runs.rv rfl rfl rfl

def ct_debts : List (Nat × Nat × Nat) := [(0, 40, 1), (0, 40, 2), (0, 40, 3), (0, 40, 4), (0, 40, 5), (0, 40, 6), (0, 40, 7), (0, 40, 8), (0, 40, 9), (0, 40, 10), (0, 40, 11), (0, 40, 12), (0, 40, 13), (0, 40, 14), (0, 40, 15)]
theorem bk_debts : blk 4 1 2 ct_debts := ⟨⟨rfl, rfl, rfl, rfl, by decide, by decide, by decide⟩, ⟨⟨rfl, rfl, rfl, rfl, by decide, by decide, by decide⟩, ⟨⟨rfl, rfl, rfl, rfl, by decide, by decide, by decide⟩, ⟨⟨rfl, rfl, rfl, rfl, by decide, by decide, by decide⟩, ⟨⟨rfl, rfl, rfl, rfl, by decide, by decide, by decide⟩, ⟨⟨rfl, rfl, rfl, rfl, by decide, by decide, by decide⟩, ⟨⟨rfl, rfl, rfl, rfl, by decide, by decide, by decide⟩, ⟨⟨rfl, rfl, rfl, rfl, by decide, by decide, by decide⟩, ⟨⟨rfl, rfl, rfl, rfl, by decide, by decide, by decide⟩, ⟨⟨rfl, rfl, rfl, rfl, by decide, by decide, by decide⟩, ⟨⟨rfl, rfl, rfl, rfl, by decide, by decide, by decide⟩, ⟨⟨rfl, rfl, rfl, rfl, by decide, by decide, by decide⟩, ⟨⟨rfl, rfl, rfl, rfl, by decide, by decide, by decide⟩, ⟨⟨rfl, rfl, rfl, rfl, by decide, by decide, by decide⟩, ⟨⟨rfl, rfl, rfl, rfl, by decide, by decide, by decide⟩, trivial⟩⟩⟩⟩⟩⟩⟩⟩⟩⟩⟩⟩⟩⟩⟩
theorem ini_debts (M : Mm) (x m : Nat) (hx : x < mx) (hs : M.1[x]? = some (11, m)) (hl : M.1.length + 15 < mx) : Call 4 [.ref x] M none (ctorM x ct_debts M) := by
  show Runs 4 0 [some (.ref x)] [] M none _
  refine Runs.st rfl rfl rfl rfl ?_
  refine Runs.st rfl rfl rfl (s_id0 hx) ?_
  refine ctor_gen (c := 1) (m := m) hx (by decide) ct_debts 2 M none _ bk_debts hs hl ?_
  exact Runs.rv rfl rfl rfl

def ct_freeing : List (Nat × Nat × Nat) := [(0, 8, 4), (3, 8, 5), (3, 64, 6), (3, 256, 7)]
theorem bk_freeing : blk 18 2 2 ct_freeing := ⟨⟨rfl, rfl, rfl, rfl, by decide, by decide, by decide⟩, ⟨⟨rfl, rfl, rfl, rfl, by decide, by decide, by decide⟩, ⟨⟨rfl, rfl, rfl, rfl, by decide, by decide, by decide⟩, ⟨⟨rfl, rfl, rfl, rfl, by decide, by decide, by decide⟩, trivial⟩⟩⟩⟩
theorem ini_freeing (M : Mm) (x m : Nat) (hx : x < mx) (hs : M.1[x]? = some (12, m)) (hl : M.1.length + 4 < mx) : Call 18 [.ref x] M none (ctorM x ct_freeing M) := by
  show Runs 18 0 [some (.ref x)] [] M none _
  refine Runs.st rfl rfl rfl rfl ?_
  refine Runs.st rfl rfl rfl (s_id0 hx) ?_
  refine ctor_gen (c := 2) (m := m) hx (by decide) ct_freeing 2 M none _ bk_freeing hs hl ?_
  exact Runs.rv rfl rfl rfl

def ct_law : List (Nat × Nat × Nat) := [(0, 8, 0)]
theorem bk_law : blk 38 4 2 ct_law := ⟨⟨rfl, rfl, rfl, rfl, by decide, by decide, by decide⟩, trivial⟩
theorem ini_law (M : Mm) (x m : Nat) (hx : x < mx) (hs : M.1[x]? = some (14, m)) (hl : M.1.length + 1 < mx) : Call 38 [.ref x] M none (ctorM x ct_law M) := by
  show Runs 38 0 [some (.ref x)] [] M none _
  refine Runs.st rfl rfl rfl rfl ?_
  refine Runs.st rfl rfl rfl (s_id0 hx) ?_
  refine ctor_gen (c := 4) (m := m) hx (by decide) ct_law 2 M none _ bk_law hs hl ?_
  exact Runs.rv rfl rfl rfl

def ct_parting : List (Nat × Nat × Nat) := [(0, 40, 0), (0, 40, 1), (3, 40, 2)]
theorem bk_parting : blk 47 5 2 ct_parting := ⟨⟨rfl, rfl, rfl, rfl, by decide, by decide, by decide⟩, ⟨⟨rfl, rfl, rfl, rfl, by decide, by decide, by decide⟩, ⟨⟨rfl, rfl, rfl, rfl, by decide, by decide, by decide⟩, trivial⟩⟩⟩
theorem ini_parting (M : Mm) (x m : Nat) (hx : x < mx) (hs : M.1[x]? = some (15, m)) (hl : M.1.length + 3 < mx) : Call 47 [.ref x] M none (ctorM x ct_parting M) := by
  show Runs 47 0 [some (.ref x)] [] M none _
  refine Runs.st rfl rfl rfl rfl ?_
  refine Runs.st rfl rfl rfl (s_id0 hx) ?_
  refine ctor_gen (c := 5) (m := m) hx (by decide) ct_parting 2 M none _ bk_parting hs hl ?_
  exact Runs.rv rfl rfl rfl

def ct_reader : List (Nat × Nat × Nat) := [(0, 380, 3), (2, 0, 4)]
theorem bk_reader : blk 65 7 2 ct_reader := ⟨⟨rfl, rfl, rfl, rfl, by decide, by decide, by decide⟩, ⟨⟨rfl, rfl, rfl, rfl, by decide, by decide, by decide⟩, trivial⟩⟩
theorem ini_reader (M : Mm) (x m : Nat) (hx : x < mx) (hs : M.1[x]? = some (17, m)) (hl : M.1.length + 2 < mx) : Call 65 [.ref x] M none (ctorM x ct_reader M) := by
  show Runs 65 0 [some (.ref x)] [] M none _
  refine Runs.st rfl rfl rfl rfl ?_
  refine Runs.st rfl rfl rfl (s_id0 hx) ?_
  refine ctor_gen (c := 7) (m := m) hx (by decide) ct_reader 2 M none _ bk_reader hs hl ?_
  exact Runs.rv rfl rfl rfl

def ct_rings : List (Nat × Nat × Nat) := [(0, 144, 0)]
theorem bk_rings : blk 84 8 2 ct_rings := ⟨⟨rfl, rfl, rfl, rfl, by decide, by decide, by decide⟩, trivial⟩
theorem ini_rings (M : Mm) (x m : Nat) (hx : x < mx) (hs : M.1[x]? = some (18, m)) (hl : M.1.length + 1 < mx) : Call 84 [.ref x] M none (ctorM x ct_rings M) := by
  show Runs 84 0 [some (.ref x)] [] M none _
  refine Runs.st rfl rfl rfl rfl ?_
  refine Runs.st rfl rfl rfl (s_id0 hx) ?_
  refine ctor_gen (c := 8) (m := m) hx (by decide) ct_rings 2 M none _ bk_rings hs hl ?_
  exact Runs.rv rfl rfl rfl

def ct_swing : List (Nat × Nat × Nat) := [(0, 10, 6), (0, 10, 7), (0, 10, 8), (1, 10, 9)]
theorem bk_swing : blk 90 9 2 ct_swing := ⟨⟨rfl, rfl, rfl, rfl, by decide, by decide, by decide⟩, ⟨⟨rfl, rfl, rfl, rfl, by decide, by decide, by decide⟩, ⟨⟨rfl, rfl, rfl, rfl, by decide, by decide, by decide⟩, ⟨⟨rfl, rfl, rfl, rfl, by decide, by decide, by decide⟩, trivial⟩⟩⟩⟩
theorem ini_swing (M : Mm) (x m : Nat) (hx : x < mx) (hs : M.1[x]? = some (19, m)) (hl : M.1.length + 4 < mx) : Call 90 [.ref x] M none (ctorM x ct_swing M) := by
  show Runs 90 0 [some (.ref x)] [] M none _
  refine Runs.st rfl rfl rfl rfl ?_
  refine Runs.st rfl rfl rfl (s_id0 hx) ?_
  refine ctor_gen (c := 9) (m := m) hx (by decide) ct_swing 2 M none _ bk_swing hs hl ?_
  exact Runs.rv rfl rfl rfl

def ct_vote : List (Nat × Nat × Nat) := [(0, 12, 4), (1, 12, 5)]
theorem bk_vote : blk 96 10 2 ct_vote := ⟨⟨rfl, rfl, rfl, rfl, by decide, by decide, by decide⟩, ⟨⟨rfl, rfl, rfl, rfl, by decide, by decide, by decide⟩, trivial⟩⟩
theorem ini_vote (M : Mm) (x m : Nat) (hx : x < mx) (hs : M.1[x]? = some (20, m)) (hl : M.1.length + 2 < mx) : Call 96 [.ref x] M none (ctorM x ct_vote M) := by
  show Runs 96 0 [some (.ref x)] [] M none _
  refine Runs.st rfl rfl rfl rfl ?_
  refine Runs.st rfl rfl rfl (s_id0 hx) ?_
  refine ctor_gen (c := 10) (m := m) hx (by decide) ct_vote 2 M none _ bk_vote hs hl ?_
  exact Runs.rv rfl rfl rfl

def ct_model : List (Nat × Nat × Nat) := [(2, 2400, 1), (0, 4, 2), (0, 4, 3), (0, 4, 4), (0, 4, 5), (0, 4, 6), (0, 4, 7), (0, 4, 8), (0, 48, 9), (0, 48, 10), (1, 48, 11), (0, 48, 12), (0, 48, 13), (0, 48, 14), (1, 48, 15), (0, 48, 16), (0, 48, 17), (0, 48, 18), (0, 48, 19), (1, 48, 20), (0, 48, 21), (0, 48, 22), (0, 4, 23), (0, 576, 24), (0, 4, 25), (0, 160, 26), (0, 160, 27), (0, 160, 28), (0, 160, 29), (0, 160, 30), (0, 160, 31), (0, 160, 32), (0, 160, 33), (0, 160, 34), (0, 160, 35), (0, 160, 36), (0, 160, 37), (1, 160, 38), (0, 160, 39), (0, 160, 40), (0, 4, 41), (0, 48, 42), (0, 4, 43), (0, 16, 44), (0, 16, 45), (0, 16, 46), (0, 320, 47), (0, 320, 48), (0, 320, 49), (0, 1280, 50), (0, 1280, 51), (0, 1280, 52), (0, 12, 53), (0, 21, 64), (0, 21, 65), (0, 21, 66), (0, 80, 67), (0, 80, 68), (0, 80, 69), (0, 8, 70), (0, 40, 71), (1, 40, 72), (0, 10, 73), (0, 40, 74), (0, 40, 75), (3, 40, 76), (0, 8, 77), (0, 256, 78), (1, 3, 79)]
theorem bk_model : blk 150 12 2 ct_model := ⟨⟨rfl, rfl, rfl, rfl, by decide, by decide, by decide⟩, ⟨⟨rfl, rfl, rfl, rfl, by decide, by decide, by decide⟩, ⟨⟨rfl, rfl, rfl, rfl, by decide, by decide, by decide⟩, ⟨⟨rfl, rfl, rfl, rfl, by decide, by decide, by decide⟩, ⟨⟨rfl, rfl, rfl, rfl, by decide, by decide, by decide⟩, ⟨⟨rfl, rfl, rfl, rfl, by decide, by decide, by decide⟩, ⟨⟨rfl, rfl, rfl, rfl, by decide, by decide, by decide⟩, ⟨⟨rfl, rfl, rfl, rfl, by decide, by decide, by decide⟩, ⟨⟨rfl, rfl, rfl, rfl, by decide, by decide, by decide⟩, ⟨⟨rfl, rfl, rfl, rfl, by decide, by decide, by decide⟩, ⟨⟨rfl, rfl, rfl, rfl, by decide, by decide, by decide⟩, ⟨⟨rfl, rfl, rfl, rfl, by decide, by decide, by decide⟩, ⟨⟨rfl, rfl, rfl, rfl, by decide, by decide, by decide⟩, ⟨⟨rfl, rfl, rfl, rfl, by decide, by decide, by decide⟩, ⟨⟨rfl, rfl, rfl, rfl, by decide, by decide, by decide⟩, ⟨⟨rfl, rfl, rfl, rfl, by decide, by decide, by decide⟩, ⟨⟨rfl, rfl, rfl, rfl, by decide, by decide, by decide⟩, ⟨⟨rfl, rfl, rfl, rfl, by decide, by decide, by decide⟩, ⟨⟨rfl, rfl, rfl, rfl, by decide, by decide, by decide⟩, ⟨⟨rfl, rfl, rfl, rfl, by decide, by decide, by decide⟩, ⟨⟨rfl, rfl, rfl, rfl, by decide, by decide, by decide⟩, ⟨⟨rfl, rfl, rfl, rfl, by decide, by decide, by decide⟩, ⟨⟨rfl, rfl, rfl, rfl, by decide, by decide, by decide⟩, ⟨⟨rfl, rfl, rfl, rfl, by decide, by decide, by decide⟩, ⟨⟨rfl, rfl, rfl, rfl, by decide, by decide, by decide⟩, ⟨⟨rfl, rfl, rfl, rfl, by decide, by decide, by decide⟩, ⟨⟨rfl, rfl, rfl, rfl, by decide, by decide, by decide⟩, ⟨⟨rfl, rfl, rfl, rfl, by decide, by decide, by decide⟩, ⟨⟨rfl, rfl, rfl, rfl, by decide, by decide, by decide⟩, ⟨⟨rfl, rfl, rfl, rfl, by decide, by decide, by decide⟩, ⟨⟨rfl, rfl, rfl, rfl, by decide, by decide, by decide⟩, ⟨⟨rfl, rfl, rfl, rfl, by decide, by decide, by decide⟩, ⟨⟨rfl, rfl, rfl, rfl, by decide, by decide, by decide⟩, ⟨⟨rfl, rfl, rfl, rfl, by decide, by decide, by decide⟩, ⟨⟨rfl, rfl, rfl, rfl, by decide, by decide, by decide⟩, ⟨⟨rfl, rfl, rfl, rfl, by decide, by decide, by decide⟩, ⟨⟨rfl, rfl, rfl, rfl, by decide, by decide, by decide⟩, ⟨⟨rfl, rfl, rfl, rfl, by decide, by decide, by decide⟩, ⟨⟨rfl, rfl, rfl, rfl, by decide, by decide, by decide⟩, ⟨⟨rfl, rfl, rfl, rfl, by decide, by decide, by decide⟩, ⟨⟨rfl, rfl, rfl, rfl, by decide, by decide, by decide⟩, ⟨⟨rfl, rfl, rfl, rfl, by decide, by decide, by decide⟩, ⟨⟨rfl, rfl, rfl, rfl, by decide, by decide, by decide⟩, ⟨⟨rfl, rfl, rfl, rfl, by decide, by decide, by decide⟩, ⟨⟨rfl, rfl, rfl, rfl, by decide, by decide, by decide⟩, ⟨⟨rfl, rfl, rfl, rfl, by decide, by decide, by decide⟩, ⟨⟨rfl, rfl, rfl, rfl, by decide, by decide, by decide⟩, ⟨⟨rfl, rfl, rfl, rfl, by decide, by decide, by decide⟩, ⟨⟨rfl, rfl, rfl, rfl, by decide, by decide, by decide⟩, ⟨⟨rfl, rfl, rfl, rfl, by decide, by decide, by decide⟩, ⟨⟨rfl, rfl, rfl, rfl, by decide, by decide, by decide⟩, ⟨⟨rfl, rfl, rfl, rfl, by decide, by decide, by decide⟩, ⟨⟨rfl, rfl, rfl, rfl, by decide, by decide, by decide⟩, ⟨⟨rfl, rfl, rfl, rfl, by decide, by decide, by decide⟩, ⟨⟨rfl, rfl, rfl, rfl, by decide, by decide, by decide⟩, ⟨⟨rfl, rfl, rfl, rfl, by decide, by decide, by decide⟩, ⟨⟨rfl, rfl, rfl, rfl, by decide, by decide, by decide⟩, ⟨⟨rfl, rfl, rfl, rfl, by decide, by decide, by decide⟩, ⟨⟨rfl, rfl, rfl, rfl, by decide, by decide, by decide⟩, ⟨⟨rfl, rfl, rfl, rfl, by decide, by decide, by decide⟩, ⟨⟨rfl, rfl, rfl, rfl, by decide, by decide, by decide⟩, ⟨⟨rfl, rfl, rfl, rfl, by decide, by decide, by decide⟩, ⟨⟨rfl, rfl, rfl, rfl, by decide, by decide, by decide⟩, ⟨⟨rfl, rfl, rfl, rfl, by decide, by decide, by decide⟩, ⟨⟨rfl, rfl, rfl, rfl, by decide, by decide, by decide⟩, ⟨⟨rfl, rfl, rfl, rfl, by decide, by decide, by decide⟩, ⟨⟨rfl, rfl, rfl, rfl, by decide, by decide, by decide⟩, ⟨⟨rfl, rfl, rfl, rfl, by decide, by decide, by decide⟩, ⟨⟨rfl, rfl, rfl, rfl, by decide, by decide, by decide⟩, trivial⟩⟩⟩⟩⟩⟩⟩⟩⟩⟩⟩⟩⟩⟩⟩⟩⟩⟩⟩⟩⟩⟩⟩⟩⟩⟩⟩⟩⟩⟩⟩⟩⟩⟩⟩⟩⟩⟩⟩⟩⟩⟩⟩⟩⟩⟩⟩⟩⟩⟩⟩⟩⟩⟩⟩⟩⟩⟩⟩⟩⟩⟩⟩⟩⟩⟩⟩⟩⟩
