/-! the tables and what was there before, at a callee's start; a method's entry; all steps together -/
theorem TK.warm {E : En} {s U : State} (hW : s.WarmedH U.vm) (h : TK E s) : TK E U := ⟨va_K.moved hW.alike h.1, fun w hw => twk_warm (List.mem_filter.mp hw).2 hW (h.2 w hw)⟩
theorem TK.same {E : En} {s U : State} (hv : s.vm = U.vm) (h : TK E s) : TK E U := by
  refine TK.warm ?_ h
  rw [← hv]
  exact State.WarmedH.refl s
theorem XF.warm {E : En} {s U : State} {H : Heap} (hW : s.WarmedH U.vm) (hq : ∀ a : Nat, a < s.heap.size → ¬ eA E a → H[a]? = s.heap[a]?) (hz : s.heap.size ≤ H.size) (h : XF E s s.heap) : XF E U H := by
  obtain ⟨h1, h2, h3, ⟨t, h4, h5⟩, h6, ⟨b, h7, h8, h9, h10⟩, h11⟩ := h
  refine ⟨(va_Z.moved hW.alike h1).kept hq, (va_Z.moved hW.alike h2).kept hq, (va_Z.moved hW.alike h3).kept hq, ⟨t, h4, (va_T.moved hW.alike h5).kept hq⟩, ?_, ⟨b, h7, h8, Nat.lt_of_lt_of_le h9 hz, (va_X.moved hW.alike h10).kept (hq b h9 h8)⟩, h11⟩
  intro k hk
  obtain ⟨a, v, g1, g2, g3, g4, g5, g6, g7⟩ := h6 k hk
  exact ⟨a, v, g1, g2, g3.warm hW, (va_O.moved hW.alike g4).kept hq, (va_OF.moved hW.alike g5).kept hq, (va_OF.moved hW.alike g6).kept hq, (va_T.moved hW.alike g7).kept hq⟩
/-- the heap's size, by the machine's own count -/
theorem h_size {p : Program} {l : Launch} {e : Env} {R : Room} {s : State} {m : MethodId} {args : Array Value} {below : List Frame} {meth : Method} {c : Code} {E : En} {H : Heap} {locs : List Loc} {cells slots : Nat} {M : Mm} {T : State} (X : Stand p l e R s m args below meth c T locs cells slots) (hT : T.heap = H) (hX : Hx E s H locs M) (hbase : E.1 ≤ s.heap.size) (hcnt : s.heap.size + cells = E.1 + M.1.length) : H.size = E.1 + M.1.length := by
  have h1 : H.size ≤ s.heap.size + cells := by rw [← hT]; exact X.heapSize
  rcases Nat.eq_zero_or_pos M.1.length with h0 | h0
  · have := hX.2.1.1
    omega
  · have hlt : M.1.length - 1 < M.1.length := by omega
    have h2 := (hX.1 _ _ (wsO_get (E := E) (List.getElem?_eq_getElem hlt))).lt
    dsimp only at h2
    omega
/-! a method's entry -/
theorem eArg_len {E : En} (hE : ∀ e, E.2.2.2.2.1 e = .null ∨ ∃ a, E.2.2.2.2.1 e = .ref a) : ∀ as : List Value, (lg_sl (as.map (vmp E))).length = (eArg as).length := by
  intro as
  induction as with
  | nil => rfl
  | cons v vs ih =>
    have e : lg_sl ((v :: vs).map (vmp E)) = (if (vmp E v).category = 2 then [.val (vmp E v), .second] else [.val (vmp E v)]) ++ lg_sl (vs.map (vmp E)) := by
      unfold lg_sl
      rw [List.map_cons, List.flatMap_cons]
    rw [e, List.length_append, ih, vmp_cat E hE]
    cases v <;> simp [eArg, Value.category] <;> omega
theorem eArg_at {E : En} (hE : ∀ e, E.2.2.2.2.1 e = .null ∨ ∃ a, E.2.2.2.2.1 e = .ref a) : ∀ (as : List Value) (j i : Nat) (v : Value), lzg (eArg as) i = some v → (j + i, vmp E v) ∈ lv_args j (as.map (vmp E)) := by
  intro as
  induction as with
  | nil => intro j i v h; simp [eArg, lzg] at h
  | cons w vs ih =>
    intro j i v h
    rw [List.map_cons, lv_args, vmp_cat E hE]
    have key1 : ∀ x : Option Value, (x = none ∨ x = some w) → w.category ≠ 2 → lzg (x :: eArg vs) i = some v → (j + i, vmp E v) ∈ (j, vmp E w) :: lv_args (if w.category = 2 then j + 2 else j + 1) (vs.map (vmp E)) := by
      intro x hx hc h
      rw [if_neg hc]
      cases i with
      | zero =>
        have e : x = some v := h
        rcases hx with rfl | rfl
        · cases e
        · obtain rfl := Option.some.inj e
          exact List.mem_cons_self
      | succ i =>
        have h2 : lzg (eArg vs) i = some v := h
        have := ih (j + 1) i v h2
        rw [show j + (i + 1) = j + 1 + i by omega]
        exact List.mem_cons_of_mem _ this
    have key2 : ∀ x : Option Value, (x = none ∨ x = some w) → w.category = 2 → lzg (x :: none :: eArg vs) i = some v → (j + i, vmp E v) ∈ (j, vmp E w) :: lv_args (if w.category = 2 then j + 2 else j + 1) (vs.map (vmp E)) := by
      intro x hx hc h
      rw [if_pos hc]
      match i, h with
      | 0, h =>
        have e : x = some v := h
        rcases hx with rfl | rfl
        · cases e
        · obtain rfl := Option.some.inj e
          exact List.mem_cons_self
      | 1, h => cases h
      | i + 2, h =>
        have h2 : lzg (eArg vs) i = some v := h
        have := ih (j + 2) i v h2
        rw [show j + (i + 2) = j + 2 + i by omega]
        exact List.mem_cons_of_mem _ this
    cases w with
    | long x => exact key2 _ (Or.inr rfl) rfl h
    | double x => exact key2 _ (Or.inl rfl) rfl h
    | int x => exact key1 _ (Or.inr rfl) (by simp [Value.category]) h
    | ref x => exact key1 _ (Or.inr rfl) (by simp [Value.category]) h
    | null => exact key1 _ (Or.inr rfl) (by simp [Value.category]) h
    | float x => exact key1 _ (Or.inl rfl) (by simp [Value.category]) h
    | retAddr x => exact key1 _ (Or.inl rfl) (by simp [Value.category]) h
theorem eLz_at {n : Nat} {as : List Value} {i : Nat} {v : Value} (h : lzg (eLz n as) i = some v) : lzg (eArg as) i = some v := by
  unfold eLz lzg at h
  unfold lzg
  by_cases hi : i < (eArg as).length
  · rw [List.getElem?_append_left hi] at h
    exact h
  · rw [List.getElem?_append_right (by omega), List.getElem?_replicate] at h
    split at h <;> cases h
theorem eLz_len {n : Nat} {as : List Value} (h : (eArg as).length ≤ n) : (eLz n as).length = n := by
  unfold eLz
  rw [List.length_append, List.length_replicate]
  omega
theorem eArg_ok : ∀ (as : List Value), Lok (eArg as) := by
  intro as
  induction as with
  | nil => intro i v h; simp [eArg, lzg] at h
  | cons w vs ih =>
    intro i v h
    cases w with
    | long x =>
      match i, h with
      | 0, h => obtain rfl := Option.some.inj h; exact Or.inr (Or.inl ⟨_, rfl⟩)
      | 1, h => cases h
      | i + 2, h => exact ih i v h
    | double x =>
      match i, h with
      | 0, h => cases h
      | 1, h => cases h
      | i + 2, h => exact ih i v h
    | int x =>
      match i, h with
      | 0, h => obtain rfl := Option.some.inj h; exact Or.inl ⟨_, rfl⟩
      | i + 1, h => exact ih i v h
    | ref x =>
      match i, h with
      | 0, h => obtain rfl := Option.some.inj h; exact Or.inr (Or.inr (Or.inr ⟨_, rfl⟩))
      | i + 1, h => exact ih i v h
    | null =>
      match i, h with
      | 0, h => obtain rfl := Option.some.inj h; exact Or.inr (Or.inr (Or.inl rfl))
      | i + 1, h => exact ih i v h
    | float x =>
      match i, h with
      | 0, h => cases h
      | i + 1, h => exact ih i v h
    | retAddr x =>
      match i, h with
      | 0, h => cases h
      | i + 1, h => exact ih i v h
theorem eLz_ok (n : Nat) (as : List Value) : Lok (eLz n as) := fun i v h => eArg_ok as i v (eLz_at h)
theorem Lr.entry {E : En} (hE : ∀ e, E.2.2.2.2.1 e = .null ∨ ∃ a, E.2.2.2.2.1 e = .ref a) {n : Nat} {as : List Value} (h : (eArg as).length ≤ n) : Lr E n ((lg_sl (as.map (vmp E)) ++ List.replicate (n - (lg_sl (as.map (vmp E))).length) Slot.unset).toArray) (eLz n as) := by
  refine ⟨eLz_len h, lv_mem (lv_entry (as.map (vmp E)) (n := n) (by rw [eArg_len hE]; exact h)) (fun q hq => ?_)⟩
  obtain ⟨v, h1, h2⟩ := mem_asc.mp hq
  have := eArg_at hE as 0 q.1 v (eLz_at h1)
  rw [Nat.zero_add, ← h2] at this
  exact this
/-! all steps together -/
def noF (res : Instr) : Bool := match res with
  | .goto _ => true
  | .tableswitch .. => true
  | .lookupswitch .. => true
  | .ireturn => true
  | .lreturn => true
  | .return_ => true
  | .nop => true
  | _ => false
section STA
variable {p : Program} {l : Launch} {e : Env} {R : Room} {s : State} {m : MethodId} {args : Array Value} {below : List Frame} {meth : Method} {c : Code} {Q : State → Prop} {E : En} {cc : ByteArray} {own : String}

theorem st_ok {res : Instr} {nL f lw i pc v w i' : Nat} {inI : Bool} {pcs : List Nat} {x : Int} {ls ls' : Lz} {st st' : List Value} {M M' : Mm} {H : Heap} {locs : List Loc} {cells slots : Nat} {lsA : Array Slot} (hcR : cells ≤ R.cells) (hsR : slots ≤ R.slots) (C : Cx E own cc nL inI f lw p R s m args meth c) (hdg : decode cc pc = .ok (rlI pcs pc res v x, lnI res v x)) (hwd : wdI own inI f lw pcs pc res v x w = true) (hnx : noF res = false → pcs[i + 1]? = some (pc + lnI res v x)) (h : st2 res i ls st M = some (true, i', ls', st', M')) (hX : Hx E s H locs M) (hL : Lr E nL lsA ls) (hok : Lok ls) (hsm : M'.1 = M.1) (kk : Kk p l e R s m args below meth c E nL pcs cells slots Q i' ls' st' M') : W p l e R s m args below meth c H locs cells slots Q (F0 m pc lsA (st.map (vmp E))) := by
  have hno : ∀ t n, M' ≠ mNew M t n := by
    intro t n e
    rw [e] at hsm
    have h9 : (M.1 ++ [(t, n)]).length = M.1.length := congrArg List.length hsm
    rw [List.length_append] at h9
    exact absurd h9 (by show M.1.length + 1 ≠ _; omega)
  cases res
  case iadd => exact s_iadd C hdg hwd (hnx rfl) h hX hL hok kk
  case isub => exact s_isub C hdg hwd (hnx rfl) h hX hL hok kk
  case imul => exact s_imul C hdg hwd (hnx rfl) h hX hL hok kk
  case iand => exact s_iand C hdg hwd (hnx rfl) h hX hL hok kk
  case ior => exact s_ior C hdg hwd (hnx rfl) h hX hL hok kk
  case ixor => exact s_ixor C hdg hwd (hnx rfl) h hX hL hok kk
  case ineg => exact s_ineg C hdg hwd (hnx rfl) h hX hL hok kk
  case ishl => exact s_ishl C hdg hwd (hnx rfl) h hX hL hok kk
  case ishr => exact s_ishr C hdg hwd (hnx rfl) h hX hL hok kk
  case ladd => exact s_ladd C hdg hwd (hnx rfl) h hX hL hok kk
  case lsub => exact s_lsub C hdg hwd (hnx rfl) h hX hL hok kk
  case lmul => exact s_lmul C hdg hwd (hnx rfl) h hX hL hok kk
  case lor => exact s_lor C hdg hwd (hnx rfl) h hX hL hok kk
  case idiv => exact s_idiv C hdg hwd (hnx rfl) h hX hL hok kk
  case irem => exact s_irem C hdg hwd (hnx rfl) h hX hL hok kk
  case ldiv => exact s_ldiv C hdg hwd (hnx rfl) h hX hL hok kk
  case lrem => exact s_lrem C hdg hwd (hnx rfl) h hX hL hok kk
  case iushr => exact s_iushr C hdg hwd (hnx rfl) h hX hL hok kk
  case i2l => exact s_i2l C hdg hwd (hnx rfl) h hX hL hok kk
  case l2i => exact s_l2i C hdg hwd (hnx rfl) h hX hL hok kk
  case i2b => exact s_i2b C hdg hwd (hnx rfl) h hX hL hok kk
  case i2c => exact s_i2c C hdg hwd (hnx rfl) h hX hL hok kk
  case lshl => exact s_lshl C hdg hwd (hnx rfl) h hX hL hok kk
  case lcmp => exact s_lcmp C hdg hwd (hnx rfl) h hX hL hok kk
  case dup => exact s_dup C hdg hwd (hnx rfl) h hX hL hok kk
  case pop => exact s_pop C hdg hwd (hnx rfl) h hX hL hok kk
  case dup2 => exact s_dup2 C hdg hwd (hnx rfl) h hX hL hok kk
  case iconst => exact s_iconst C hdg hwd (hnx rfl) h hX hL hok kk
  case sipush => exact s_sipush C hdg hwd (hnx rfl) h hX hL hok kk
  case ldc => exact s_ldc C hdg hwd (hnx rfl) h hX hL hok kk
  case iload => exact s_iload C hdg hwd (hnx rfl) h hX hL hok kk
  case lload => exact s_lload C hdg hwd (hnx rfl) h hX hL hok kk
  case aload => exact s_aload C hdg hwd (hnx rfl) h hX hL hok kk
  case istore => exact s_istore C hdg hwd (hnx rfl) h hX hL hok kk
  case lstore => exact s_lstore C hdg hwd (hnx rfl) h hX hL hok kk
  case astore => exact s_astore C hdg hwd (hnx rfl) h hX hL hok kk
  case iinc => exact s_iinc C hdg hwd (hnx rfl) h hX hL hok kk
  case ifCond => exact s_ifCond C hdg hwd (hnx rfl) h hX hL hok kk
  case if_icmp => exact s_if_icmp C hdg hwd (hnx rfl) h hX hL hok kk
  case getfield => exact s_getfield C hdg hwd (hnx rfl) h hX hL hok kk
  case putfield => exact s_putfield C hdg hwd (hnx rfl) h hX hL hok kk
  case iaload => exact s_iaload C hdg hwd (hnx rfl) h hX hL hok kk
  case baload => exact s_baload C hdg hwd (hnx rfl) h hX hL hok kk
  case laload => exact s_laload C hdg hwd (hnx rfl) h hX hL hok kk
  case aaload => exact s_aaload C hdg hwd (hnx rfl) h hX hL hok kk
  case iastore => exact s_iastore C hdg hwd (hnx rfl) h hX hL hok kk
  case bastore => exact s_bastore C hdg hwd (hnx rfl) h hX hL hok kk
  case lastore => exact s_lastore C hdg hwd (hnx rfl) h hX hL hok kk
  case aastore => exact s_aastore C hdg hwd (hnx rfl) h hX hL hok kk
  case arraylength => exact s_arraylength C hdg hwd (hnx rfl) h hX hL hok kk
  case getstatic => exact s_getstatic C hdg hwd (hnx rfl) h hX hL hok kk
  case ifnull => exact s_ifnull C hdg hwd (hnx rfl) h hX hL hok kk
  case ifnonnull => exact s_ifnonnull C hdg hwd (hnx rfl) h hX hL hok kk
  case invokedynamic => exact s_invokedynamic hcR hsR C hdg hwd (hnx rfl) h hX hL hok kk
  case goto => exact s_goto C hdg hwd h hX hL hok kk
  case tableswitch => exact s_tableswitch C hdg hwd h hX hL hok kk
  case lookupswitch => exact s_lookupswitch C hdg hwd h hX hL hok kk
  case newarray =>
    exfalso
    simp only [st2] at h
    repeat' split at h
    all_goals first
      | (simp only [Option.some.injEq, Prod.mk.injEq] at h; exact hno _ _ h.2.2.2.2.symm)
      | (cases h; done)
  case anewarray =>
    exfalso
    simp only [st2] at h
    repeat' split at h
    all_goals first
      | (simp only [Option.some.injEq, Prod.mk.injEq] at h; exact hno _ _ h.2.2.2.2.symm)
      | (cases h; done)
  case new =>
    exfalso
    simp only [st2] at h
    repeat' split at h
    all_goals first
      | (simp only [Option.some.injEq, Prod.mk.injEq] at h; exact hno _ _ h.2.2.2.2.symm)
      | (cases h; done)
  all_goals (simp only [st2, reduceCtorEq] at h)

theorem al_ok {res : Instr} {nL f lw i pc v w i' z : Nat} {inI : Bool} {pcs : List Nat} {x : Int} {ls ls' : Lz} {st st' : List Value} {M M' : Mm} {H : Heap} {locs : List Loc} {cells slots : Nat} {lsA : Array Slot} (hz : mSl M' = mSl M + z) (hcnt : s.heap.size + cells = E.1 + M.1.length) (hcR : cells + 1 ≤ R.cells) (hsR : slots + z ≤ R.slots) (C : Cx E own cc nL inI f lw p R s m args meth c) (hdg : decode cc pc = .ok (rlI pcs pc res v x, lnI res v x)) (hwd : wdI own inI f lw pcs pc res v x w = true) (hnx : noF res = false → pcs[i + 1]? = some (pc + lnI res v x)) (h : st2 res i ls st M = some (true, i', ls', st', M')) (hX : Hx E s H locs M) (hL : Lr E nL lsA ls) (hok : Lok ls) (hsm : M'.1 ≠ M.1) (kk : Kk p l e R s m args below meth c E nL pcs (cells + 1) (slots + z) Q i' ls' st' M') : W p l e R s m args below meth c H locs cells slots Q (F0 m pc lsA (st.map (vmp E))) := by
  have hal : (∃ t, res = .newarray t) ∨ (∃ t, res = .anewarray t) ∨ ∃ n, res = .new n := by
    cases res
    case newarray => exact Or.inl ⟨_, rfl⟩
    case anewarray => exact Or.inr (Or.inl ⟨_, rfl⟩)
    case new => exact Or.inr (Or.inr ⟨_, rfl⟩)
    all_goals
      exfalso
      simp only [st2, reduceCtorEq] at h
      try (repeat' split at h)
      all_goals first
        | (simp only [Option.some.injEq, Prod.mk.injEq] at h; obtain ⟨-, -, -, -, rfl⟩ := h; exact hsm rfl)
        | (cases h; done)
  rcases hal with ⟨t, rfl⟩ | ⟨t, rfl⟩ | ⟨n, rfl⟩
  · exact s_newarray hz hcnt hcR hsR C hdg hwd (hnx rfl) h hX hL hok kk
  · exact s_anewarray hz hcnt hcR hsR C hdg hwd (hnx rfl) h hX hL hok kk
  · exact s_new hz hcnt hcR hsR C hdg hwd (hnx rfl) h hX hL hok kk

end STA
