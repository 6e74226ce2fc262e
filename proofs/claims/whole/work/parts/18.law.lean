/-! THE CLAIM OUT OF ONE WALK OF THE LAW'S BODY. Your part is whole_start (and what it stands on); all else here is the same for every law, but numbers. -/
def R_law : String := "DebtorsHouseLaw"
def lw_P (b : Addr) (xs : List Int32) (args : Array Value) (s : State) : Prop := args = #[.ref b] ∧ s.IntsAt b xs ∧ xs.length ≤ 3584 ∧ (Jvm.Cond.and given_1 narrow_1).before args s = true
def lw_Q (_ : Array Value) (s : State) (o : Outcome) (t : State) : Prop := o = .returned (some (.int 1)) ∧ Framed s o t [] room_1.cells room_1.slots
def lw_Z (below : List Frame) (a : Array Value) (s : State) : State → Prop := fun t => ∃ o, t.status = .running ∧ Ended t below o ∧ lw_Q a s o t
/-- the law's own end, with 1 on the stack, nothing written that was there before, its room as the claim has it -/
theorem lw_ret {p : Program} {l : Launch} {e : Env} {s : State} {m : MethodId} {below : List Frame} {meth : Method} {c : Code} {b : Nat} (hx : p.tables.exec = Jvm.exec) (hb : c.code = code) (hr : meth.sig.returnType = ret) (hlocks : meth.locks = false) {pc : Nat} {H : Heap} {ls : Array Slot} (hdg : decode code pc = .ok (.ireturn, 1)) : W p l e room_1 s m #[Value.ref b] below meth c H [] room_1.cells room_1.slots (lw_Z below #[Value.ref b] s) (F0 m pc ls [.int 1]) := by
  intro T hT X
  obtain ⟨fs, hret, hrun, hended, hW, hframe⟩ := X.leave (v := some (.int 1)) (hlocks := hlocks) (fun h => by rw [hr] at h; cases h)
  have hmeth' : T.vm.method? m = some meth := X.method'
  refine ⟨T.setFrames fs, ?_, .returned (some (.int 1)), hrun, hended, rfl, ⟨_, rfl⟩, hW, hframe⟩
  jvm_step X.here [X.here.top, hx, hb, hdg, hmeth', hr, ret, narrow_b1]
  (try refine ⟨rfl, ?_⟩); (try refine ⟨rfl, ?_⟩)
  first | (intro acts; rw [hret _ acts rfl rfl rfl]) | rw [hret _ _ rfl rfl rfl]
  exact Steps.refl _
/-- what holds at the law's entry: the machine, the code, the tables' words (any of lw_tbl by 'hts w (by decide +kernel)'), the script of L ints xs at the cell b, what the Statement gives of the start (any of its parts by flat_of_before) -/
def lw_At (p : Program) (s : State) (m : MethodId) (meth : Method) (c : Code) (b L : Nat) (xs : Nat → Int32) : Prop :=
  p.tables.exec = Jvm.exec ∧ c.code = code ∧ meth.sig.returnType = ret ∧ c.maxLocals = 4 ∧ s.vm.findClass R_law = some m.cls ∧ (∀ w ∈ lw_tbl, w.before #[Value.ref b] s = true) ∧ va_X b L xs s s.heap ∧ b < s.heap.size ∧ meth.locks = false ∧ (Jvm.Cond.and given_1 narrow_1).before #[Value.ref b] s = true
/-! the law's start: what the Statement gives is the picture of an empty memory -/
def lwK : Nat := 244
def lwM (L : Nat) (xs : Nat → Int32) : Mm := ([], fun a => if a = mx + 20 then xs else if a = mx + 21 then (fun _ => Int32.ofNat L) else fun _ => 0, fun _ _ => 0, fun _ _ => none)
abbrev gvF : List Cond := flatC (Jvm.Cond.and given_1 narrow_1)
def sxT (i : Nat) : Term := .string "DebtorsHouse$Reader" (strJS.getD i (0, "")).1
theorem sx_ex : ∀ i, i < 6 → Cond.exactly (sxT i) "java/lang/String" ∈ gvF := by decide +kernel
theorem sx_co : ∀ i, i < 6 → Cond.eq (.field (sxT i) "java/lang/String" "coder" "B") (.int 0) ∈ gvF := by decide +kernel
theorem sx_ar : ∀ i, i < 6 → Cond.arrayOf (.field (sxT i) "java/lang/String" "value" "[B") .byte ∈ gvF := by decide +kernel
theorem sx_le : ∀ i, i < 6 → Cond.eq (.length (.field (sxT i) "java/lang/String" "value" "[B")) (.int (Int32.ofNat (lenJS.getD i 0))) ∈ gvF := by decide +kernel
theorem sx_el : ∀ i, i < 6 → ∀ j, j < lenJS.getD i 0 → Cond.eq (.elem (.field (sxT i) "java/lang/String" "value" "[B") (.int (Int32.ofNat j))) (.int ((bytJS.getD i []).getD j 0)) ∈ gvF := by decide +kernel
theorem sx_ne : ∀ i, i < 6 → ∀ j, j < 6 → i ≠ j → Cond.not (Cond.eq (sxT i) (sxT j)) ∈ gvF ∨ Cond.not (Cond.eq (sxT j) (sxT i)) ∈ gvF := by decide +kernel
theorem sx_ln : ∀ i, i < 6 → lenJS.getD i 0 < 2 ^ 31 := by decide +kernel
theorem sx_lb : ∀ i, i < 6 → lenJS.getD i 0 = (xBy i).length := by decide +kernel
theorem sx_sr : ∀ i, i < 6 → Cond.stringRef "DebtorsHouse$Reader" (strJS.getD i (0, "")).1 (strJS.getD i (0, "")).2 ∈ lw_tbl := by decide +kernel
theorem wl_el : ∀ j, j < 9 → Cond.eq (.elem (.static "DebtorsHouse$Law" "WITHOUT_LINE" "[I") (.int (Int32.ofNat j))) (.int (xWL.getD j 0)) ∈ gvF := by decide +kernel
theorem ws_1 : Cond.laysStatic "java/lang/String" "COMPACT_STRINGS" "Z" ∈ lw_tbl ∧ Cond.initialized "java/lang/String" ∈ lw_tbl := by decide +kernel
theorem ws_2 : Cond.laysStatic "DebtorsHouse$Law" "WITHOUT_LINE" "[I" ∈ lw_tbl ∧ Cond.initialized "DebtorsHouse$Law" ∈ lw_tbl := by decide +kernel
theorem ws_3 : Cond.laysStatic "jdk/internal/util/Preconditions" "SIOOBE_FORMATTER" "Ljava/util/function/BiFunction;" ∈ lw_tbl ∧ Cond.initialized "jdk/internal/util/Preconditions" ∈ lw_tbl := by decide +kernel
theorem ar_prim {args : Array Value} {s : State} {ty : FieldType} (h : (Cond.arrayClass ty).before args s = true) (hp : ∀ C, ty ≠ .object C) : ∃ cA, ArrOfT s cA ty ∧ va_RA s cA ty := by
  obtain ⟨cA, kA, comp, h1, h2, h3⟩ := Cond.arrayClass_spec h
  refine ⟨cA, fun n z => ⟨fun k h => (by cases h), kA, h2, comp, h3⟩, ?_⟩
  cases ty with
  | object C => exact absurd rfl (hp C)
  | _ => exact h1
theorem ar_obj {args : Array Value} {s : State} {C : String} (h : (Cond.arrayOver (.object C)).before args s = true) : ∃ cA, ArrOfT s cA (.object C) ∧ va_RA s cA (.object C) := by
  obtain ⟨comp, cA, kA, h1, -, h2, h3, h4⟩ := Cond.arrayOver_spec h
  exact ⟨cA, fun n z => ⟨fun k h => (by cases h), kA, h2, comp, h3⟩, kA, comp, h2, h3, h1, h4⟩
/-- an environment for the start -/
theorem env_start {p : Program} {s : State} {m : MethodId} {meth : Method} {c : Code} {b L : Nat} {xs : Nat → Int32} (hL : L ≤ 3584) (C0 : lw_At p s m meth c b L xs) : ∃ E : En, E.1 = s.heap.size ∧ TK E s ∧ XF E s s.heap ∧ E.2.2.2.2.1 20 = .ref b ∧ E.2.2.2.2.2.1 = L ∧ E.2.2.2.2.2.2 = xs := by
  obtain ⟨hx, hb, hr, hml, hown, hts, hX, hbl, hlocks, hgv⟩ := C0
  have hgf := flat_of_before _ hgv
  have hts2 : ∀ w ∈ lwt, w.before #[Value.ref b] s = true := fun w hw => hts w (List.mem_filter.mp hw).1
  -- classes
  have hcl : ∀ ci : Nat, ∃ q : ClassId × (Nat → Nat), ∀ z : vw_C, clz[ci]? = some z → u_Kn s z.1 z.2.1 z.2.2 q.1 q.2 := by
    intro ci
    cases hc : clz[ci]? with
    | none => exact ⟨(0, fun _ => 0), fun z hz => by cases hz⟩
    | some z =>
      obtain ⟨C, T, N⟩ := z
      obtain ⟨cC, iS, hk⟩ := u_known hts2 (cz_ok hc).1 (hts2 _ (cz_ini hc).1)
      exact ⟨(cC, iS), fun z hz => by cases hz; exact hk⟩
  obtain ⟨dq, hdq⟩ := Classical.axiomOfChoice hcl
  -- array classes
  obtain ⟨a0, h0⟩ := ar_prim (ty := .int) (hts2 _ w_arI) (fun C => by simp)
  obtain ⟨a1, h1⟩ := ar_prim (ty := .boolean) (hts2 _ w_arZ) (fun C => by simp)
  obtain ⟨a2, h2⟩ := ar_prim (ty := .byte) (hts2 _ w_arB) (fun C => by simp)
  obtain ⟨a3, h3⟩ := ar_prim (ty := .long) (hts2 _ w_arJ) (fun C => by simp)
  obtain ⟨a4, h4⟩ := ar_obj (hts2 _ w_arH)
  obtain ⟨a5, h5⟩ := ar_obj (hts2 _ w_arA)
  -- what was there
  have hA : ∀ a : Nat, a < s.heap.size → ¬ (fun q : Nat => s.heap.size ≤ q) a := fun a ha => Nat.not_le.mpr ha
  have hZ1 := va_Zof (A := fun q : Nat => s.heap.size ≤ q) (hts _ ws_1.1) (hts _ ws_1.2) (va_eqi (hgf (Cond.eq (.static "java/lang/String" "COMPACT_STRINGS" "Z") (.int 1)) (by decide +kernel))) hA
  obtain ⟨t0, ht0, hT0⟩ := va_Tof (A := fun q : Nat => s.heap.size ≤ q) (tm := .static "DebtorsHouse$Law" "WITHOUT_LINE" "[I") (ty := .int) (N := 9) (f := fun j => .int (xWL.getD j 0)) (by decide) (hgf _ (by decide +kernel)) (va_eqt (hgf (Cond.eq (.length (.static "DebtorsHouse$Law" "WITHOUT_LINE" "[I")) (.int (Int32.ofNat 9))) (by decide +kernel))) (fun j hj => va_eqt (hgf _ (wl_el j hj))) hA
  have hZ2 := va_Zof (A := fun q : Nat => s.heap.size ≤ q) (hts _ ws_2.1) (hts _ ws_2.2) ht0 hA
  obtain ⟨v30, hv30, hZ3⟩ : ∃ v : Value, (v = .null ∨ ∃ a, v = .ref a) ∧ va_Z "jdk/internal/util/Preconditions" "SIOOBE_FORMATTER" "Ljava/util/function/BiFunction;" v (fun q : Nat => s.heap.size ≤ q) s s.heap := by
    rcases va_Zqof (A := fun q : Nat => s.heap.size ≤ q) (hts _ ws_3.1) (hts _ ws_3.2) (hgf (Cond.isRef (.static "jdk/internal/util/Preconditions" "SIOOBE_FORMATTER" "Ljava/util/function/BiFunction;")) (by decide +kernel)) hA with h | ⟨t, h⟩
    · exact ⟨_, Or.inl rfl, h⟩
    · exact ⟨_, Or.inr ⟨_, rfl⟩, h⟩
  obtain ⟨adK, adV, hS, hev⟩ := vk_Sof (A := fun q : Nat => s.heap.size ≤ q) (N := 6) (tm := sxT) (len := lenJS) (byt := bytJS) sx_ln (fun i hi => hgf _ (sx_ex i hi)) (fun i hi => hgf _ (sx_co i hi)) (fun i hi => hgf _ (sx_ar i hi)) (fun i hi => hgf _ (sx_le i hi)) (fun i hi j hj => hgf _ (sx_el i hi j hj)) (fun i j hi hj hn => (sx_ne i hi j hj hn).imp (hgf _) (hgf _)) hA
  refine ⟨(s.heap.size, fun ci => (dq ci).1, fun ci => (dq ci).2, fun t => if t = 0 then a0 else if t = 1 then a1 else if t = 2 then a2 else if t = 3 then a3 else if t = 4 then a4 else a5, fun e => if e = 0 then .ref t0 else if e = 30 then v30 else if e = 20 then .ref b else if 1 ≤ e ∧ e < 7 then .ref (adK (e - 1)) else if 11 ≤ e ∧ e < 17 then .ref (adV (e - 11)) else .null, L, xs), rfl, ⟨⟨fun c q hq => hdq c q hq, ?_⟩, fun w hw => twk_of (List.mem_filter.mp hw).2 (hts2 w hw)⟩, ⟨hZ1, hZ2, hZ3, ⟨t0, rfl, hT0⟩, ?_, ⟨b, rfl, Nat.not_le.mpr hbl, hbl, hX⟩, ?_⟩, rfl, rfl, rfl⟩
  · intro k q hq
    match k, hq with
    | 0, hq => cases hq; exact h0
    | 1, hq => cases hq; exact h1
    | 2, hq => cases hq; exact h2
    | 3, hq => cases hq; exact h3
    | 4, hq => cases hq; exact h4
    | 5, hq => cases hq; exact h5
    | k + 6, hq => simp [tyz] at hq
  · intro k hk
    obtain ⟨g1, g2, g3, g4⟩ := hS.1 k hk
    refine ⟨adK k, adV k, ?_, ?_, vk_R.of (hts _ (sx_sr k hk)) (hev k hk), g1, g2, g3, ?_⟩
    · show (if 1 + k = 0 then Value.ref t0 else if 1 + k = 30 then v30 else if 1 + k = 20 then .ref b else if 1 ≤ 1 + k ∧ 1 + k < 7 then .ref (adK (1 + k - 1)) else _) = _
      rw [if_neg (by omega), if_neg (by omega), if_neg (by omega), if_pos (by omega), show 1 + k - 1 = k by omega]
    · show (if 11 + k = 0 then Value.ref t0 else if 11 + k = 30 then v30 else if 11 + k = 20 then .ref b else if 1 ≤ 11 + k ∧ 11 + k < 7 then .ref (adK (11 + k - 1)) else if 11 ≤ 11 + k ∧ 11 + k < 17 then .ref (adV (11 + k - 11)) else .null) = _
      rw [if_neg (by omega), if_neg (by omega), if_neg (by omega), if_neg (by omega), if_pos (by omega), show 11 + k - 11 = k by omega]
    · rw [← sx_lb k hk]
      exact g4
  · intro e
    show (if e = 0 then Value.ref t0 else if e = 30 then v30 else if e = 20 then .ref b else if 1 ≤ e ∧ e < 7 then .ref (adK (e - 1)) else if 11 ≤ e ∧ e < 17 then .ref (adV (e - 11)) else .null) = .null ∨ ∃ a, (if e = 0 then Value.ref t0 else if e = 30 then v30 else if e = 20 then .ref b else if 1 ≤ e ∧ e < 7 then .ref (adK (e - 1)) else if 11 ≤ e ∧ e < 17 then .ref (adV (e - 11)) else .null) = .ref a
    by_cases c0 : e = 0
    · rw [if_pos c0]; exact Or.inr ⟨_, rfl⟩
    · rw [if_neg c0]
      by_cases c1 : e = 30
      · rw [if_pos c1]; exact hv30
      · rw [if_neg c1]
        by_cases c2 : e = 20
        · rw [if_pos c2]; exact Or.inr ⟨_, rfl⟩
        · rw [if_neg c2]
          by_cases c3 : 1 ≤ e ∧ e < 7
          · rw [if_pos c3]; exact Or.inr ⟨_, rfl⟩
          · rw [if_neg c3]
            by_cases c4 : 11 ≤ e ∧ e < 17
            · rw [if_pos c4]; exact Or.inr ⟨_, rfl⟩
            · rw [if_neg c4]; exact Or.inl rfl
/-- THE LAW'S START, out of a run of the small machine -/
theorem law_start (hall : ∀ q ∈ mt, okM q = true) {p : Program} {e : Env} {s : State} {m : MethodId} {below : List Frame} {meth : Method} {c : Code} (l : Launch) {b L : Nat} {xs : Nat → Int32} (hL : L ≤ 3584) (C0 : lw_At p s m meth c b L xs) {Me : Mm} (hrun : Runs lwK 0 (eLz 4 [.ref (mx + 20)]) [] (lwM L xs) (some (.int 1)) Me) (hc : Me.1.length ≤ room_1.cells) (hs : mSl Me ≤ room_1.slots) : W p l e room_1 s m #[Value.ref b] below meth c s.heap [] 0 0 (lw_Z below #[Value.ref b] s) (entryFrame m ([Value.ref b] : List Value).toArray 4) := by
  obtain ⟨E, e1, hTK, hXF, e20, eL, ex⟩ := env_start hL C0
  obtain ⟨hx, hb, hr, hml, hown, hts, hX, hbl, hlocks, hgv⟩ := C0
  have hE := hXF.2.2.2.2.2.2
  obtain ⟨n, hn⟩ := hrun
  have hq : mt[lwK]? = some mi244 := rfl
  have ev : vmp E (.ref (mx + 20)) = .ref b := by rw [vmp_ge (by omega), show mx + 20 - mx = 20 by omega]; exact e20
  have hmap : ([.ref (mx + 20)] : List Value).map (vmp E) = [.ref b] := by rw [List.map_cons, ev]; rfl
  rw [← hmap, lg_entry_eq, hmap]
  have hp0 : (pcz (mRows mi244))[0]? = some 0 := rfl
  have hHx : Hx E s s.heap [] (lwM L xs) := by
    refine ⟨(fun k q hq => by cases hq), va_S.rf, Nat.zero_le _, ?_, ?_⟩
    · rw [ex]
      show (if mx + 20 = mx + 20 then xs else if mx + 20 = mx + 21 then (fun _ => Int32.ofNat L) else fun _ => 0) = xs
      rw [if_pos rfl]
    · rw [eL]
      show ((if mx + 21 = mx + 20 then xs else if mx + 21 = mx + 21 then (fun _ => Int32.ofNat L) else fun _ => 0) 0).toNatClampNeg = L
      rw [if_neg (by omega), if_pos rfl]
      exact nI_clamp (by omega)
  have CX : Cx E mi244.1.cls mi244.2.1 mi244.2.2.1 (mi244.1.name == "<init>") mi244.2.2.2.2.2.1 mi244.2.2.2.2.2.2.1 p room_1 s m #[Value.ref b] meth c := ⟨hx, hb, hml, hown, fun w hw => hts w (List.mem_filter.mp hw).1, hTK, hXF, by rw [e1]; exact Nat.le_refl _, fun h => by exact absurd h (by decide), by decide, by decide⟩
  have hlr : Lr E 4 ((lg_sl ([.ref (mx + 20)].map (vmp E)) ++ List.replicate (4 - (lg_sl ([.ref (mx + 20)].map (vmp E))).length) Slot.unset).toArray) (eLz 4 [.ref (mx + 20)]) := Lr.entry hE (by decide)
  rw [hmap] at hlr
  refine sim hall n hn mi244 hq (ce := Me.1.length) (sl := mSl Me) CX hp0 hHx hlr (eLz_ok _ _) (by rw [e1]; rfl) (by rw [e1]) (by show 0 + mSl Me = mSl Me + 0; omega) (by show Me.1.length ≤ room_1.cells; exact hc) (by show mSl Me ≤ room_1.slots; exact hs) ?_
  intro H' locs' lsA' pc' ins st' hd' hr' hX'
  have hf : ∀ q ∈ locs', s.heap.size ≤ q.base := fun q hq => by have := hX'.2.1.2.2 q hq; rw [← e1]; exact this
  refine va_forget hf ?_
  refine W.widen (k := room_1.cells) (n := room_1.slots) hc hs ?_
  unfold rtn at hr'
  split at hr'
  · rename_i v
    split at hr'
    · split at hr'
      · obtain rfl : v = 1 := by simpa using hr'
        exact lw_ret hx hb hr hlocks hd'
      · cases hr'
    · cases hr'
  · split at hr' <;> cases hr'
  · split at hr' <;> cases hr'
  · cases hr'
