/-! CELLS THAT ARE MADE LATER; the constructor of an Act; act (printed by p82.py) -/
set_option maxRecDepth 20000 in
theorem Sst_len : Sst.length = 131 := rfl
set_option maxRecDepth 20000 in
theorem rfz_len : rfz.length = 131 := rfl
theorem rst_ge (rd : Nat → Nat → Option Nat) {a : Nat} (h : 131 ≤ a) (k : Nat) : rst rd a k = rd a k := by
  have e : rfz[a]? = none := List.getElem?_eq_none (by rw [rfz_len]; exact h)
  unfold rst
  rw [e]
theorem rst_u1 (rd : Nat → Nat → Option Nat) {a : Nat} (h : 131 ≤ a) (f : Nat → Option Nat) : up1 (rst rd) a f = rst (up1 rd a f) := by
  funext x
  by_cases e : x = a
  · subst e; rw [up1_at]; funext k; rw [rst_ge _ h, up1_at]
  · rw [up1_ne e]; funext k; unfold rst; rw [up1_ne e]
theorem rst_u2 (rd : Nat → Nat → Option Nat) {a k : Nat} (h : ∀ r : Nat → Nat → Option Nat, rst r a k = r a k) (v : Option Nat) : up2 (rst rd) a k v = rst (up2 rd a k v) := by
  funext x
  by_cases e : x = a
  · subst e; funext y
    by_cases f : y = k
    · subst f; rw [up2_at, h, up2_at]
    · rw [wup2_at, if_neg f]; unfold rst; rw [wup2_at, if_neg f]
  · rw [up2_ne e]; funext y; unfold rst; rw [up2_ne e]
theorem mk_len (tl : List (Nat × Nat)) (I : Nat → Nat → Int32) (L : Nat → Nat → Int64) (rd : Nat → Nat → Option Nat) : (mk tl I L rd).1.length = 131 + tl.length := by
  show (Sst ++ tl).length = _
  rw [List.length_append, Sst_len]
theorem mk_new (tl : List (Nat × Nat)) (I : Nat → Nat → Int32) (L : Nat → Nat → Int64) (rd : Nat → Nat → Option Nat) (t n : Nat) : mNew (mk tl I L rd) t n = mk (tl ++ [(t, n)]) (up1 I (131 + tl.length) (fun _ => 0)) (up1 L (131 + tl.length) (fun _ => 0)) (up1 rd (131 + tl.length) (fun _ => none)) := by
  unfold mNew
  rw [mk_len]
  show ((Sst ++ tl) ++ [(t, n)], _, _, up1 (rst rd) _ _) = (Sst ++ (tl ++ [(t, n)]), _, _, rst (up1 rd _ _))
  rw [List.append_assoc, rst_u1 rd (by omega)]
  rfl
theorem sh_at (tl u : List (Nat × Nat)) (q : Nat × Nat) : (Sst ++ (tl ++ q :: u))[131 + tl.length]? = some q := by
  rw [List.getElem?_append_right (by rw [Sst_len]; omega), Sst_len, Nat.add_sub_cancel_left, List.getElem?_append_right (Nat.le_refl _), Nat.sub_self]; rfl
theorem sh_sn {tl : List (Nat × Nat)} {a : Nat} {q : Nat × Nat} (u : List (Nat × Nat)) (h : (Sst ++ tl)[a]? = some q) : (Sst ++ (tl ++ u))[a]? = some q := by
  rw [← List.append_assoc, List.getElem?_append_left (List.getElem?_eq_some_iff.mp h).1]; exact h
theorem nw_o {n i : Nat} {ls : Lz} {st : List Value} {tl : List (Nat × Nat)} {I : Nat → Nat → Int32} {L : Nat → Nat → Int64} {rd : Nat → Nat → Option Nat} (h : n / 100 < 13) (hl : 131 + tl.length < mx) : st2 (.new n) i ls st (mk tl I L rd) = some (true, i + 1, ls, .ref (131 + tl.length) :: st, mk (tl ++ [(10 + n / 100, n % 100)]) (up1 I (131 + tl.length) (fun _ => 0)) (up1 L (131 + tl.length) (fun _ => 0)) (up1 rd (131 + tl.length) (fun _ => none))) := by
  show (if n / 100 < 13 then some (decide ((mk tl I L rd).1.length < mx), i + 1, ls, Value.ref (mk tl I L rd).1.length :: st, mNew (mk tl I L rd) (10 + n / 100) (n % 100)) else none) = _
  rw [if_pos h, mk_new, mk_len, decide_eq_true hl]
theorem s_newA {i : Nat} {ls : Lz} {st : List Value} {tl : List (Nat × Nat)} {I : Nat → Nat → Int32} {L : Nat → Nat → Int64} {rd : Nat → Nat → Option Nat} {j : Int32} (h : ¬ j < 0) (h2 : j.toNatClampNeg < 10000) (hl : 131 + tl.length < mx) : st2 (.newarray .int) i ls (.int j :: st) (mk tl I L rd) = some (true, i + 1, ls, .ref (131 + tl.length) :: st, mk (tl ++ [(0, j.toNatClampNeg)]) (up1 I (131 + tl.length) (fun _ => 0)) (up1 L (131 + tl.length) (fun _ => 0)) (up1 rd (131 + tl.length) (fun _ => none))) := by
  show some (decide (¬ j < 0) && decide (j.toNatClampNeg < 10000) && decide ((mk tl I L rd).1.length < mx), i + 1, ls, Value.ref (mk tl I L rd).1.length :: st, mNew (mk tl I L rd) 0 j.toNatClampNeg) = _
  rw [mk_new, mk_len, decide_eq_true hl, decide_eq_true h, decide_eq_true h2]
  rfl
theorem pi_dyn {n f i : Nat} {ls : Lz} {st : List Value} {M : Mm} {x m : Nat} {v : Int32} (hf : n / 4 % 100 = f) (hx : x < mx) (hs : M.1[x]? = some (10 + n / 400, m)) (hk : n % 4 = 0) : st2 (.putfield n) i ls (.int v :: .ref x :: st) M = some (true, i + 1, ls, st, wI M x f v) := by
  subst hf
  simp only [st2, hs, hx, hk, and_self, if_true]
theorem pr_dyn {n f i : Nat} {ls : Lz} {st : List Value} {M : Mm} {x m y : Nat} (hf : n / 4 % 100 = f) (hx : x < mx) (hs : M.1[x]? = some (10 + n / 400, m)) (hk : n % 4 = 2) : st2 (.putfield n) i ls (.ref y :: .ref x :: st) M = some (true, i + 1, ls, st, wR M x f (some y)) := by
  subst hf
  simp only [st2, hs, hx, hk, and_self, if_true]
theorem mk_wR {tl : List (Nat × Nat)} {I : Nat → Nat → Int32} {L : Nat → Nat → Int64} {rd : Nat → Nat → Option Nat} {a k : Nat} {v : Option Nat} (h : ∀ r : Nat → Nat → Option Nat, rst r a k = r a k) : wR (mk tl I L rd) a k v = mk tl I L (up2 rd a k v) := by
  show (Sst ++ tl, I, L, up2 (rst rd) a k v) = (Sst ++ tl, I, L, rst (up2 rd a k v))
  rw [rst_u2 rd h]
theorem s_al {i : Nat} {ls : Lz} {st : List Value} {M : Mm} {a t n : Nat} (ha : a < mx) (hs : M.1[a]? = some (t, n)) (ht : t < 6) : st2 .arraylength i ls (.ref a :: st) M = some (true, i + 1, ls, .int (Int32.ofNat n) :: st, M) := by
  have e : aSh M a = some (t, n) := by unfold aSh; rw [if_pos ha]; exact hs
  simp only [st2, e, ht, if_true]
theorem s_id0 {i : Nat} {ls : Lz} {M : Mm} {a : Nat} (ha : a < mx) : st2 (.invokedynamic 0) i ls [.ref a] M = some (true, i + 1, ls, [], M) := by
  show some (decide (a < mx) && true, i + 1, ls, [], M) = _
  rw [decide_eq_true ha]; rfl
theorem s_cpy {i : Nat} {ls : Lz} {M : Mm} {a b n1 n0 : Nat} {n : Int32} (ha : M.1[a]? = some (0, n1)) (hb : M.1[b]? = some (0, n0)) (hn : ¬ n < 0) (h0 : n.toNatClampNeg ≤ n0) (h1 : n.toNatClampNeg ≤ n1) : st2 (.invokedynamic 1) i ls [.int n, .int 0, .ref a, .int 0, .ref b] M = some (true, i + 1, ls, [], wA M a (va_cpy (M.2.1 b) (M.2.1 a) 0 0 n.toNatClampNeg)) := by
  simp only [st2, ha, hb]
  rw [decide_eq_true hn, decide_eq_true (show (0 : Int32).toNatClampNeg + n.toNatClampNeg ≤ n0 by rw [show (0 : Int32).toNatClampNeg = 0 from rfl]; omega), decide_eq_true (show (0 : Int32).toNatClampNeg + n.toNatClampNeg ≤ n1 by rw [show (0 : Int32).toNatClampNeg = 0 from rfl]; omega)]
  rfl
theorem cal2_s {k : Nat} {M : Mm} {st : List Value} (h1 : Nat.ble (mArg k) st.length = true) (h2 : Nat.ble (eArg (st.take (mArg k)).reverse).length (mLoc k) = true) (h3 : Nat.ble ((st.drop (mArg k)).map fun v => v.category).sum 8 = true) (h4 : rcI (st.take (mArg k)).reverse = true) : cal2 (.invokespecial k) st M = some (k, (st.take (mArg k)).reverse, st.drop (mArg k)) := by
  show (if _ then _ else _) = _
  rw [if_pos ⟨Nat.le_of_ble_eq_true h1, Nat.le_of_ble_eq_true h2, Nat.le_of_ble_eq_true h3, h4⟩]
theorem rcI_of {x : Nat} {as : List Value} (h : x < mx) : rcI (.ref x :: as) = true := decide_eq_true h
theorem s_aas {i : Nat} {ls : Lz} {st : List Value} {tl : List (Nat × Nat)} {I : Nat → Nat → Int32} {L : Nat → Nat → Int64} {rd : Nat → Nat → Option Nat} {x m : Nat} {j : Int32} (hx : (Sst ++ tl)[x]? = some (10, m)) (hj : inb j 4 = true) : st2 .aastore i ls (.ref x :: .int j :: .ref 32 :: st) (mk tl I L rd) = some (true, i + 1, ls, st, mk tl I L (up2 rd 32 j.toNatClampNeg (some x))) := by
  have h0 : (mk tl I L rd).1[32]? = some (5, 4) := rfl
  have h1 : (mk tl I L rd).1[x]? = some (10, m) := hx
  simp only [st2, h0, h1, hj]
  rw [mk_wR (fun _ => rfl)]
/-- how many lines an Act keeps -/
theorem act_cnt {c : Int32} (h0 : 0 ≤ c.toInt) (h1 : c.toInt ≤ 20) : (if (0 : Int32) < (if (20 : Int32) < c then 20 else c) then (if (20 : Int32) < c then 20 else c) else 0) = c := by
  rw [if_neg (show ¬ (20 : Int32) < c by rw [Int32.lt_iff_toInt_lt, toI_20]; omega)]
  by_cases e : (0 : Int32) < c
  · rw [if_pos e]
  · rw [if_neg e]
    rw [Int32.lt_iff_toInt_lt, toI_0] at e
    exact Int32.toInt_inj.mp (by rw [toI_0]; omega)
theorem c19 {c : Int32} (h0 : 0 ≤ c.toInt) (h1 : c.toInt ≤ 20) : (c * 19).toInt = c.toInt * 19 := by
  rw [Int32.toInt_mul]
  rw [show (19 : Int32).toInt = 19 by decide]
  exact Int.bmod_eq_of_le (by omega) (by omega)
/-- the cells behind a new Act: its fields, its lines -/
def anI (I : Nat → Nat → Int32) (N : Nat) (fr t c : Int32) : Nat → Nat → Int32 := up1 (up1 (up2 (up2 (up2 (up1 I N (fun _ => 0)) N 0 fr) N 1 t) N 3 c) (N + 1) (fun _ => 0)) (N + 1) (va_cpy (I 40) (fun _ => 0) 0 0 (c * 19).toNatClampNeg)
def anL (L : Nat → Nat → Int64) (N : Nat) : Nat → Nat → Int64 := up1 (up1 L N (fun _ => 0)) (N + 1) (fun _ => 0)
def anR (rd : Nat → Nat → Option Nat) (N : Nat) : Nat → Nat → Option Nat := up2 (up1 (up1 rd N (fun _ => none)) (N + 1) (fun _ => none)) N 2 (some (N + 1))
def anT (tl : List (Nat × Nat)) (c : Int32) : List (Nat × Nat) := tl ++ [(10, 4)] ++ [(0, (c * 19).toNatClampNeg)]

set_option maxRecDepth 20000 in
theorem c_anew (tl : List (Nat × Nat)) (I : Nat → Nat → Int32) (L : Nat → Nat → Int64) (rd : Nat → Nat → Option Nat) (fr t c : Int32) (N : Nat) (hN : N = 131 + tl.length) (hx : N + 1 < mx) (h0 : 0 ≤ c.toInt) (h1 : c.toInt ≤ 20) : Call 0 [.ref N, .int fr, .int t, .ref 40, .int c] (mk (tl ++ [(10, 4)]) (up1 I N (fun _ => 0)) (up1 L N (fun _ => 0)) (up1 rd N (fun _ => none))) none (mk (anT tl c) (anI I N fr t c) (anL L N) (anR rd N)) := by
  have hs : (Sst ++ (tl ++ [(10, 4)]))[N]? = some (10, 4) := by rw [hN]; exact sh_at tl [] (10, 4)
  have hs2 : (Sst ++ (tl ++ [(10, 4)] ++ [(0, (c * 19).toNatClampNeg)]))[N]? = some (10, 4) := sh_sn _ hs
  have hl1 : 131 + (tl ++ [(10, 4)]).length = N + 1 := by rw [List.length_append, hN]; rfl
  have hB : (Sst ++ (tl ++ [(10, 4)] ++ [(0, (c * 19).toNatClampNeg)]))[N + 1]? = some (0, (c * 19).toNatClampNeg) := by rw [← hl1]; exact sh_at (tl ++ [(10, 4)]) [] _
  have e19 := c19 h0 h1
  have en : (c * 19).toNatClampNeg = (c * 19).toInt.toNat := rfl
  have hng : ¬ (c * 19) < 0 := by rw [Int32.lt_iff_toInt_lt, toI_0]; omega
  have h131 : 131 ≤ N := by omega
  show Runs 0 0 [some (.ref N), some (.int fr), some (.int t), some (.ref 40), some (.int c)] [] (mk (tl ++ [(10, 4)]) (up1 I N (fun _ => 0)) (up1 L N (fun _ => 0)) (up1 rd N (fun _ => none))) none _
  refine Runs.st rfl rfl rfl rfl ?_
  refine Runs.st rfl rfl rfl (s_id0 (by omega)) ?_
  refine Runs.st rfl rfl rfl rfl ?_
  refine Runs.st rfl rfl rfl rfl ?_
  refine Runs.st rfl rfl rfl (pi_dyn (f := 0) rfl (by omega) hs rfl) ?_
  refine Runs.st rfl rfl rfl rfl ?_
  refine Runs.st rfl rfl rfl rfl ?_
  refine Runs.st rfl rfl rfl (pi_dyn (f := 1) rfl (by omega) hs rfl) ?_
  refine Runs.bl 10 (g := true && (true && (true && (true && true)))) (i' := 18) (ls' := [some (.ref N), some (.int fr), some (.int t), some (.ref 40), some (.int c)]) (st' := [.int (if (20 : Int32) < c then 20 else c), .int 0, .ref N]) (M' := mk (tl ++ [(10, 4)]) (up2 (up2 (up1 I N (fun _ => 0)) N 0 fr) N 1 t) (up1 L N (fun _ => 0)) (up1 rd N (fun _ => none))) rfl rfl ?_
  refine Runs.st (st' := [.int (if (0 : Int32) < (if (20 : Int32) < c then 20 else c) then (if (20 : Int32) < c then 20 else c) else 0), .ref N]) rfl rfl rfl rfl ?_
  rw [act_cnt h0 h1]
  refine Runs.st rfl rfl rfl (pi_dyn (f := 3) rfl (by omega) hs rfl) ?_
  refine Runs.st rfl rfl rfl rfl ?_
  refine Runs.st rfl rfl rfl rfl ?_
  refine Runs.st (st' := [.int c, .ref N]) rfl rfl rfl (by rw [dg_i (f := 3) rfl (by omega) hs rfl]; show some (true, _, _, Value.int (up2 _ N 3 c N 3) :: _, _) = _; rw [up2_at]) ?_
  refine Runs.st rfl rfl rfl rfl ?_
  refine Runs.st (st' := [.int (c * 19), .ref N]) rfl rfl rfl rfl ?_
  refine Runs.st rfl rfl rfl (s_newA hng (by omega) (by rw [hl1]; exact hx)) ?_
  rw [hl1]
  refine Runs.st rfl rfl rfl (pr_dyn (f := 2) rfl (by omega) hs2 rfl) ?_
  rw [mk_wR (fun r => rst_ge r h131 2)]
  have hr : (mk (tl ++ [(10, 4)] ++ [(0, (c * 19).toNatClampNeg)]) (up1 (up2 (up2 (up2 (up1 I N (fun _ => 0)) N 0 fr) N 1 t) N 3 c) (N + 1) (fun _ => 0)) (anL L N) (anR rd N)).2.2.2 N 2 = some (N + 1) := by
    show rst (anR rd N) N 2 = _
    rw [rst_ge _ h131]; exact up2_at
  refine Runs.st rfl rfl rfl rfl ?_
  refine Runs.st rfl rfl rfl rfl ?_
  refine Runs.st rfl rfl rfl rfl ?_
  refine Runs.st rfl rfl rfl (dg_r (f := 2) (y := N + 1) rfl (by omega) hs2 rfl hr) ?_
  refine Runs.st rfl rfl rfl rfl ?_
  refine Runs.st rfl rfl rfl rfl ?_
  refine Runs.st rfl rfl rfl (dg_r (f := 2) (y := N + 1) rfl (by omega) hs2 rfl hr) ?_
  refine Runs.st rfl rfl rfl (s_al hx hB (by omega)) ?_
  have e3 : Int32.ofNat (c * 19).toNatClampNeg = c * 19 := by
    apply Int32.toInt_inj.mp
    rw [show (Int32.ofNat (c * 19).toNatClampNeg).toInt = (((c * 19).toNatClampNeg : Nat) : Int) from nI_toInt (by omega)]
    omega
  rw [e3]
  refine Runs.st rfl rfl rfl (s_cpy hB (by rfl) hng (n0 := 380) (by omega) (Nat.le_refl _)) ?_
  refine Runs.rv rfl rfl ?_
  refine mk_cg ?_ rfl
  have hA : ¬ (40 : Nat) = N := by omega
  have hA2 : ¬ (40 : Nat) = N + 1 := by omega
  show up1 (up1 (up2 (up2 (up2 (up1 I N (fun _ => 0)) N 0 fr) N 1 t) N 3 c) (N + 1) (fun _ => 0)) (N + 1) (va_cpy (up1 (up2 (up2 (up2 (up1 I N (fun _ => 0)) N 0 fr) N 1 t) N 3 c) (N + 1) (fun _ => 0) 40) (up1 (up2 (up2 (up2 (up1 I N (fun _ => 0)) N 0 fr) N 1 t) N 3 c) (N + 1) (fun _ => 0) (N + 1)) 0 0 (c * 19).toNatClampNeg) = anI I N fr t c
  unfold anI
  rw [up1_ne (b := 40) hA2, up2_ne (b := 40) hA, up2_ne (b := 40) hA, up2_ne (b := 40) hA, up1_ne (b := 40) hA, up1_at]

/-- act: what stands behind its first lines -/
def actJ (I : Nat → Nat → Int32) : Nat → Nat → Int32 := up2 (up2 (up2 I 1 11 0) 1 12 (-1)) 1 10 0
/-- what stands behind the reading; and behind the copy of fault and place -/
def actK (I : Nat → Nat → Int32) : Nat → Nat → Int32 := (up2 (up2 (up2 (up2 (up1 (up2 (up2 (up2 (up2 (actJ I) 39 5 (I 1 10)) 39 0 ((rdS (actJ I) (I 1 10)).1)) 39 1 ((rdS (actJ I) (I 1 10)).2.1)) 39 2 ((rdS (actJ I) (I 1 10)).2.2.1)) 40 ((rdS (actJ I) (I 1 10)).2.2.2.1)) 39 6 ((rdS (actJ I) (I 1 10)).2.2.2.2.1)) 39 7 ((rdS (actJ I) (I 1 10)).2.2.2.2.2.1)) 39 8 ((rdS (actJ I) (I 1 10)).2.2.2.2.2.2.1)) 39 9 ((rdS (actJ I) (I 1 10)).2.2.2.2.2.2.2))
def actQ (I : Nat → Nat → Int32) : Nat → Nat → Int32 := up2 (up2 (actK I) 1 11 (rdS (actJ I) (I 1 10)).1) 1 12 (rdS (actJ I) (I 1 10)).2.1
def actOut (I : Nat → Nat → Int32) (x : Int32) : Prop := (4 : Int32) ≤ I 1 3 ∨ ¬ outside I x 0 9999 = 0

set_option maxRecDepth 20000 in
theorem c_actA1 (tl : List (Nat × Nat)) (I : Nat → Nat → Int32) (L : Nat → Nat → Int64) (rd : Nat → Nat → Option Nat) (x : Int32) (h4 : (4 : Int32) ≤ I 1 3) : Call 116 [.ref 0, .int x] (mk tl I L rd) (some (.int (-2))) (mk tl (actJ I) L rd) := by
  show Runs 116 0 [some (.ref 0), some (.int x), none, none] [] (mk tl I L rd) (some (.int (-2))) (mk tl (actJ I) L rd)
  refine Runs.bl 21 (g := true) (i' := if decide ((4 : Int32) ≤ (I 1 3)) = true then 26 else 21) (ls' := [some (.ref 0), some (.int x), some (.int (I 1 10)), none]) (st' := []) (M' := mk tl (up2 (up2 (up2 I 1 11 (0 : Int32)) 1 12 (-1 : Int32)) 1 10 (0 : Int32)) L rd) rfl rfl ?_
  refine Runs.brT (h4) ?_
  refine Runs.bl 1 (g := true) (i' := 27) (ls' := [some (.ref 0), some (.int x), some (.int (I 1 10)), none]) (st' := [.int (-2 : Int32)]) (M' := mk tl (up2 (up2 (up2 I 1 11 (0 : Int32)) 1 12 (-1 : Int32)) 1 10 (0 : Int32)) L rd) rfl rfl ?_
  exact Runs.ri rfl rfl rfl rfl

set_option maxRecDepth 20000 in
theorem c_actA2 (tl : List (Nat × Nat)) (I : Nat → Nat → Int32) (L : Nat → Nat → Int64) (rd : Nat → Nat → Option Nat) (x : Int32) (h4 : ¬ (4 : Int32) ≤ I 1 3) (ho : ¬ outside I x 0 9999 = 0) : Call 116 [.ref 0, .int x] (mk tl I L rd) (some (.int (-2))) (mk tl (actJ I) L rd) := by
  show Runs 116 0 [some (.ref 0), some (.int x), none, none] [] (mk tl I L rd) (some (.int (-2))) (mk tl (actJ I) L rd)
  refine Runs.bl 21 (g := true) (i' := if decide ((4 : Int32) ≤ (I 1 3)) = true then 26 else 21) (ls' := [some (.ref 0), some (.int x), some (.int (I 1 10)), none]) (st' := []) (M' := mk tl (up2 (up2 (up2 I 1 11 (0 : Int32)) 1 12 (-1 : Int32)) 1 10 (0 : Int32)) L rd) rfl rfl ?_
  refine Runs.brF (h4) ?_
  refine Runs.bl 3 (g := true) (i' := 24) (ls' := [some (.ref 0), some (.int x), some (.int (I 1 10)), none]) (st' := [.int (9999 : Int32), .int (0 : Int32), .int x]) (M' := mk tl (up2 (up2 (up2 I 1 11 (0 : Int32)) 1 12 (-1 : Int32)) 1 10 (0 : Int32)) L rd) rfl rfl ?_
  refine Runs.call (k' := 147) (as := [.int x, .int (0 : Int32), .int (9999 : Int32)]) (rest := []) (r1 := some (.int (outside I x (0 : Int32) (9999 : Int32)))) (M1 := mk tl (up2 (up2 (up2 I 1 11 (0 : Int32)) 1 12 (-1 : Int32)) 1 10 (0 : Int32)) L rd) rfl rfl rfl (c_outside tl (up2 (up2 (up2 I 1 11 (0 : Int32)) 1 12 (-1 : Int32)) 1 10 (0 : Int32)) L rd x 0 9999) ?_
  refine Runs.bl 1 (g := true) (i' := if decide ((outside I x (0 : Int32) (9999 : Int32)) = 0) = true then 28 else 26) (ls' := [some (.ref 0), some (.int x), some (.int (I 1 10)), none]) (st' := []) (M' := mk tl (up2 (up2 (up2 I 1 11 (0 : Int32)) 1 12 (-1 : Int32)) 1 10 (0 : Int32)) L rd) rfl rfl ?_
  refine Runs.brF (ho) ?_
  refine Runs.bl 1 (g := true) (i' := 27) (ls' := [some (.ref 0), some (.int x), some (.int (I 1 10)), none]) (st' := [.int (-2 : Int32)]) (M' := mk tl (up2 (up2 (up2 I 1 11 (0 : Int32)) 1 12 (-1 : Int32)) 1 10 (0 : Int32)) L rd) rfl rfl ?_
  exact Runs.ri rfl rfl rfl rfl

set_option maxRecDepth 20000 in
theorem c_actB (tl : List (Nat × Nat)) (I : Nat → Nat → Int32) (L : Nat → Nat → Int64) (rd : Nat → Nat → Option Nat) (x : Int32) (h4 : ¬ (4 : Int32) ≤ I 1 3) (ho : outside I x 0 9999 = 0) (hlen : 0 ≤ (I 1 10).toInt ∧ (I 1 10).toInt ≤ 600) (hf : ¬ (rdS (actJ I) (I 1 10)).1 = 0) : Call 116 [.ref 0, .int x] (mk tl I L rd) (some (.int (-1))) (mk tl (actQ I) L (up2 rd 39 4 (some 34))) := by
  show Runs 116 0 [some (.ref 0), some (.int x), none, none] [] (mk tl I L rd) (some (.int (-1))) (mk tl (actQ I) L (up2 rd 39 4 (some 34)))
  refine Runs.bl 21 (g := true) (i' := if decide ((4 : Int32) ≤ (I 1 3)) = true then 26 else 21) (ls' := [some (.ref 0), some (.int x), some (.int (I 1 10)), none]) (st' := []) (M' := mk tl (up2 (up2 (up2 I 1 11 (0 : Int32)) 1 12 (-1 : Int32)) 1 10 (0 : Int32)) L rd) rfl rfl ?_
  refine Runs.brF (h4) ?_
  refine Runs.bl 3 (g := true) (i' := 24) (ls' := [some (.ref 0), some (.int x), some (.int (I 1 10)), none]) (st' := [.int (9999 : Int32), .int (0 : Int32), .int x]) (M' := mk tl (up2 (up2 (up2 I 1 11 (0 : Int32)) 1 12 (-1 : Int32)) 1 10 (0 : Int32)) L rd) rfl rfl ?_
  refine Runs.call (k' := 147) (as := [.int x, .int (0 : Int32), .int (9999 : Int32)]) (rest := []) (r1 := some (.int (outside I x (0 : Int32) (9999 : Int32)))) (M1 := mk tl (up2 (up2 (up2 I 1 11 (0 : Int32)) 1 12 (-1 : Int32)) 1 10 (0 : Int32)) L rd) rfl rfl rfl (c_outside tl (up2 (up2 (up2 I 1 11 (0 : Int32)) 1 12 (-1 : Int32)) 1 10 (0 : Int32)) L rd x 0 9999) ?_
  refine Runs.bl 1 (g := true) (i' := if decide ((outside I x (0 : Int32) (9999 : Int32)) = 0) = true then 28 else 26) (ls' := [some (.ref 0), some (.int x), some (.int (I 1 10)), none]) (st' := []) (M' := mk tl (up2 (up2 (up2 I 1 11 (0 : Int32)) 1 12 (-1 : Int32)) 1 10 (0 : Int32)) L rd) rfl rfl ?_
  refine Runs.brT (ho) ?_
  refine Runs.bl 6 (g := true) (i' := 34) (ls' := [some (.ref 0), some (.int x), some (.int (I 1 10)), none]) (st' := [.int (I 1 10), .ref 34, .ref 39]) (M' := mk tl (up2 (up2 (up2 I 1 11 (0 : Int32)) 1 12 (-1 : Int32)) 1 10 (0 : Int32)) L rd) rfl rfl ?_
  refine Runs.call (k' := 66) (as := [.ref 39, .ref 34, .int (I 1 10)]) (rest := []) (r1 := none) (M1 := mk tl (actK I) L (up2 rd 39 4 (some 34))) rfl rfl rfl (by have h := c_read tl (actJ I) L rd (I 1 10) hlen; exact h) ?_
  refine Runs.bl 16 (g := true) (i' := if decide (((actK I) 39 0) = 0) = true then 53 else 51) (ls' := [some (.ref 0), some (.int x), some (.int (I 1 10)), none]) (st' := []) (M' := mk tl (up2 (up2 (actK I) 1 11 ((actK I) 39 0)) 1 12 ((actK I) 39 1)) L (up2 rd 39 4 (some 34))) rfl rfl ?_
  refine Runs.brF (hf) ?_
  refine Runs.bl 1 (g := true) (i' := 52) (ls' := [some (.ref 0), some (.int x), some (.int (I 1 10)), none]) (st' := [.int (-1 : Int32)]) (M' := mk tl (up2 (up2 (actK I) 1 11 ((actK I) 39 0)) 1 12 ((actK I) 39 1)) L (up2 rd 39 4 (some 34))) rfl rfl ?_
  exact Runs.ri rfl rfl rfl rfl

set_option maxRecDepth 20000 in
theorem c_actC (tl : List (Nat × Nat)) (I : Nat → Nat → Int32) (L : Nat → Nat → Int64) (rd : Nat → Nat → Option Nat) (x : Int32) (h4 : ¬ (4 : Int32) ≤ I 1 3) (ho : outside I x 0 9999 = 0) (hlen : 0 ≤ (I 1 10).toInt ∧ (I 1 10).toInt ≤ 600) (hf : (rdS (actJ I) (I 1 10)).1 = 0) (N : Nat) (hN : N = 131 + tl.length) (hx : N + 1 < mx) (hc : 0 ≤ (rdS (actJ I) (I 1 10)).2.2.1.toInt ∧ (rdS (actJ I) (I 1 10)).2.2.1.toInt ≤ 20) (hin : inb (I 1 3) 4 = true) : Call 116 [.ref 0, .int x] (mk tl I L rd) (some (.int (I 1 3))) (mk (anT tl (rdS (actJ I) (I 1 10)).2.2.1) (up2 (anI (actQ I) N x (actQ I 1 4) (rdS (actJ I) (I 1 10)).2.2.1) 1 3 (I 1 3 + 1)) (anL L N) (up2 (anR (up2 rd 39 4 (some 34)) N) 32 (I 1 3).toNatClampNeg (some N))) := by
  show Runs 116 0 [some (.ref 0), some (.int x), none, none] [] (mk tl I L rd) (some (.int (I 1 3))) (mk (anT tl (rdS (actJ I) (I 1 10)).2.2.1) (up2 (anI (actQ I) N x (actQ I 1 4) (rdS (actJ I) (I 1 10)).2.2.1) 1 3 (I 1 3 + 1)) (anL L N) (up2 (anR (up2 rd 39 4 (some 34)) N) 32 (I 1 3).toNatClampNeg (some N)))
  refine Runs.bl 21 (g := true) (i' := if decide ((4 : Int32) ≤ (I 1 3)) = true then 26 else 21) (ls' := [some (.ref 0), some (.int x), some (.int (I 1 10)), none]) (st' := []) (M' := mk tl (up2 (up2 (up2 I 1 11 (0 : Int32)) 1 12 (-1 : Int32)) 1 10 (0 : Int32)) L rd) rfl rfl ?_
  refine Runs.brF (h4) ?_
  refine Runs.bl 3 (g := true) (i' := 24) (ls' := [some (.ref 0), some (.int x), some (.int (I 1 10)), none]) (st' := [.int (9999 : Int32), .int (0 : Int32), .int x]) (M' := mk tl (up2 (up2 (up2 I 1 11 (0 : Int32)) 1 12 (-1 : Int32)) 1 10 (0 : Int32)) L rd) rfl rfl ?_
  refine Runs.call (k' := 147) (as := [.int x, .int (0 : Int32), .int (9999 : Int32)]) (rest := []) (r1 := some (.int (outside I x (0 : Int32) (9999 : Int32)))) (M1 := mk tl (up2 (up2 (up2 I 1 11 (0 : Int32)) 1 12 (-1 : Int32)) 1 10 (0 : Int32)) L rd) rfl rfl rfl (c_outside tl (up2 (up2 (up2 I 1 11 (0 : Int32)) 1 12 (-1 : Int32)) 1 10 (0 : Int32)) L rd x 0 9999) ?_
  refine Runs.bl 1 (g := true) (i' := if decide ((outside I x (0 : Int32) (9999 : Int32)) = 0) = true then 28 else 26) (ls' := [some (.ref 0), some (.int x), some (.int (I 1 10)), none]) (st' := []) (M' := mk tl (up2 (up2 (up2 I 1 11 (0 : Int32)) 1 12 (-1 : Int32)) 1 10 (0 : Int32)) L rd) rfl rfl ?_
  refine Runs.brT (ho) ?_
  refine Runs.bl 6 (g := true) (i' := 34) (ls' := [some (.ref 0), some (.int x), some (.int (I 1 10)), none]) (st' := [.int (I 1 10), .ref 34, .ref 39]) (M' := mk tl (up2 (up2 (up2 I 1 11 (0 : Int32)) 1 12 (-1 : Int32)) 1 10 (0 : Int32)) L rd) rfl rfl ?_
  refine Runs.call (k' := 66) (as := [.ref 39, .ref 34, .int (I 1 10)]) (rest := []) (r1 := none) (M1 := mk tl (actK I) L (up2 rd 39 4 (some 34))) rfl rfl rfl (by have h := c_read tl (actJ I) L rd (I 1 10) hlen; exact h) ?_
  refine Runs.bl 16 (g := true) (i' := if decide (((actK I) 39 0) = 0) = true then 53 else 51) (ls' := [some (.ref 0), some (.int x), some (.int (I 1 10)), none]) (st' := []) (M' := mk tl (up2 (up2 (actK I) 1 11 ((actK I) 39 0)) 1 12 ((actK I) 39 1)) L (up2 rd 39 4 (some 34))) rfl rfl ?_
  refine Runs.brT (hf) ?_
  refine Runs.bl 8 (g := true) (i' := 61) (ls' := [some (.ref 0), some (.int x), some (.int (I 1 10)), some (.int ((actK I) 1 3))]) (st' := [.int ((actK I) 1 3), .ref 32]) (M' := mk tl (up2 (up2 (actK I) 1 11 ((actK I) 39 0)) 1 12 ((actK I) 39 1)) L (up2 rd 39 4 (some 34))) rfl rfl ?_
  refine Runs.st rfl rfl rfl (nw_o (by decide) (by omega)) ?_
  rw [← hN]
  refine Runs.bl 11 (g := true) (i' := 73) (ls' := [some (.ref 0), some (.int x), some (.int (I 1 10)), some (.int ((actK I) 1 3))]) (st' := [.int (rdS (actJ I) (I 1 10)).2.2.1, .ref 40, .int (actQ I 1 4), .int x, .ref N, .ref N, .int (I 1 3), .ref 32]) (M' := mk (tl ++ [(10, 4)]) (up1 (actQ I) N (fun _ => 0)) (up1 L N (fun _ => 0)) (up1 (up2 rd 39 4 (some 34)) N (fun _ => none))) ?_ rfl ?_
  · have e1 : (up1 (actQ I) N (fun _ => 0)) 1 = actQ I 1 := up1_ne (by omega)
    have e39 : (up1 (actQ I) N (fun _ => 0)) 39 = actQ I 39 := up1_ne (by omega)
    have e4 : actQ I 1 4 = (up1 (actQ I) N (fun _ => 0)) 1 4 := by rw [e1]
    have e5 : (rdS (actJ I) (I 1 10)).2.2.1 = (up1 (actQ I) N (fun _ => 0)) 39 2 := by rw [e39]; rfl
    rw [e4, e5]; rfl
  refine Runs.call (k' := 0) (as := [.ref N, .int x, .int (actQ I 1 4), .ref 40, .int (rdS (actJ I) (I 1 10)).2.2.1]) (rest := [.ref N, .int (I 1 3), .ref 32]) (r1 := none) rfl rfl (cal2_s rfl rfl rfl (rcI_of (by omega))) (c_anew tl (actQ I) L (up2 rd 39 4 (some 34)) x (actQ I 1 4) (rdS (actJ I) (I 1 10)).2.2.1 N hN hx hc.1 hc.2) ?_
  refine Runs.st rfl rfl rfl (s_aas (m := 4) (sh_sn _ (by rw [hN]; exact sh_at tl [] (10, 4))) hin) ?_
  have e3 : (anI (actQ I) N x (actQ I 1 4) (rdS (actJ I) (I 1 10)).2.2.1) 1 3 = I 1 3 := by
    unfold anI
    rw [up1_ne (by omega), up1_ne (by omega), up2_ne (by omega), up2_ne (by omega), up2_ne (by omega), up1_ne (by omega)]; rfl
  refine Runs.bl 7 (g := true) (i' := 82) (ls' := [some (.ref 0), some (.int x), some (.int (I 1 10)), some (.int ((actK I) 1 3))]) (st' := []) (M' := mk (anT tl (rdS (actJ I) (I 1 10)).2.2.1) (up2 (anI (actQ I) N x (actQ I 1 4) (rdS (actJ I) (I 1 10)).2.2.1) 1 3 (I 1 3 + 1)) (anL L N) (up2 (anR (up2 rd 39 4 (some 34)) N) 32 (I 1 3).toNatClampNeg (some N))) (by rw [← e3]; rfl) rfl ?_
  refine Runs.bl 1 (g := true) (i' := 83) (ls' := [some (.ref 0), some (.int x), some (.int (I 1 10)), some (.int ((actK I) 1 3))]) (st' := [.int (I 1 3)]) (M' := mk (anT tl (rdS (actJ I) (I 1 10)).2.2.1) (up2 (anI (actQ I) N x (actQ I 1 4) (rdS (actJ I) (I 1 10)).2.2.1) 1 3 (I 1 3 + 1)) (anL L N) (up2 (anR (up2 rd 39 4 (some 34)) N) 32 (I 1 3).toNatClampNeg (some N))) rfl rfl ?_
  exact Runs.ri rfl rfl rfl rfl

