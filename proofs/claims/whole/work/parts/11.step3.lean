/-! rows (arrays), statics, switches, what the library does itself -/
theorem ty_get {E : En} {t : Nat} (ht : t < 6) : ∃ ty, (tyz E)[t]? = some (E.2.2.2.1 t, ty) ∧ ty = (match t with
    | 0 => .int
    | 1 => .boolean
    | 2 => .byte
    | 3 => .long
    | 4 => .object "DebtorsHouse$House"
    | _ => .object "DebtorsHouse$Act") := by
  match t, ht with
  | 0, _ => exact ⟨_, rfl, rfl⟩
  | 1, _ => exact ⟨_, rfl, rfl⟩
  | 2, _ => exact ⟨_, rfl, rfl⟩
  | 3, _ => exact ⟨_, rfl, rfl⟩
  | 4, _ => exact ⟨_, rfl, rfl⟩
  | 5, _ => exact ⟨_, rfl, rfl⟩
/-- what was there before, as a row -/
theorem ext_row {E : En} {s : State} {H : Heap} {locs : List Loc} {M : Mm} (hXF : XF E s s.heap) (hX : Hx E s H locs M) {a t n : Nat} (ha : ¬ a < mx) (h : aSh M a = some (t, n)) : (t = 0 ∧ ∃ q, vmp E (.ref a) = .ref q ∧ ((n = 9 ∧ va_T .int q 9 (fun j => .int (aRd M a j)) (eA E) s s.heap) ∨ (n = E.2.2.2.2.2.1 ∧ ¬ eA E q ∧ q < s.heap.size ∧ va_X q n (fun j => aRd M a j) s s.heap))) ∨ (t = 2 ∧ ∃ q, vmp E (.ref a) = .ref q ∧ va_T .byte q n (fun j => .int (aRd M a j)) (eA E) s s.heap) := by
  unfold aSh at h
  rw [if_neg ha] at h
  have er : aRd M a = xRd M (a - mx) := by funext j; unfold aRd; rw [if_neg ha]
  obtain ⟨t', h1, h2⟩ := Option.map_eq_some_iff.mp h
  simp only [Prod.mk.injEq] at h2
  obtain ⟨e1, e2⟩ := h2
  subst e1
  rw [vmp_ge ha]
  unfold xTy at h1
  by_cases h0 : a - mx = 0
  · left
    rw [h0, if_pos (Or.inl rfl)] at h1
    obtain rfl := Option.some.inj h1
    obtain ⟨q, q1, q2⟩ := hXF.2.2.2.1
    refine ⟨rfl, q, by rw [h0]; exact q1, Or.inl ⟨?_, ?_⟩⟩
    · rw [← e2, h0]; rfl
    · rw [er, h0]; exact q2
  · by_cases h20 : a - mx = 20
    · left
      rw [h20, if_pos (Or.inr rfl)] at h1
      obtain rfl := Option.some.inj h1
      obtain ⟨q, q1, q2, q3, q4⟩ := hXF.2.2.2.2.2.1
      have en : n = E.2.2.2.2.2.1 := by
        rw [← e2, h20]
        exact hX.2.2.2.2
      refine ⟨rfl, q, by rw [h20]; exact q1, Or.inr ⟨en, q2, q3, ?_⟩⟩
      rw [er, h20, en]
      have e3 : (fun j => xRd M 20 j) = E.2.2.2.2.2.2 := by
        rw [← hX.2.2.2.1]
        rfl
      rw [e3]
      exact q4
    · right
      rw [if_neg (by omega)] at h1
      by_cases h11 : 11 ≤ a - mx ∧ a - mx < 17
      · rw [if_pos h11] at h1
        obtain rfl := Option.some.inj h1
        obtain ⟨q, q', q1, q2, -, -, -, -, q5⟩ := hXF.2.2.2.2.1 (a - mx - 11) (by omega)
        refine ⟨rfl, q', by rw [show a - mx = 11 + (a - mx - 11) by omega]; exact q2, ?_⟩
        have en : n = (xBy (a - mx - 11)).length := by
          rw [← e2]
          unfold xLn
          rw [if_neg h0, if_neg h20]
        rw [er, en]
        have e3 : (fun j => Value.int (xRd M (a - mx) j)) = fun j => .int ((xBy (a - mx - 11)).getD j 0) := by
          funext j
          unfold xRd
          rw [if_neg h0, if_neg h20]
        rw [e3]
        exact q5
      · rw [if_neg h11] at h1; cases h1
section STR
variable {p : Program} {l : Launch} {e : Env} {R : Room} {s : State} {m : MethodId} {args : Array Value} {below : List Frame} {meth : Method} {c : Code} {Q : State → Prop} {E : En} {cc : ByteArray} {own : String}

theorem s_iaload {nL f lw i pc v w i' : Nat} {inI : Bool} {pcs : List Nat} {x : Int} {ls ls' : Lz} {st st' : List Value} {M M' : Mm} {H : Heap} {locs : List Loc} {cells slots : Nat} {lsA : Array Slot} (C : Cx E own cc nL inI f lw p R s m args meth c) (hdg : decode cc pc = .ok (rlI pcs pc (.iaload) v x, lnI (.iaload) v x)) (hwd : wdI own inI f lw pcs pc (.iaload) v x w = true) (hnx : pcs[i + 1]? = some (pc + lnI (.iaload) v x)) (h : st2 (.iaload) i ls st M = some (true, i', ls', st', M')) (hX : Hx E s H locs M) (hL : Lr E nL lsA ls) (hok : Lok ls) (kk : Kk p l e R s m args below meth c E nL pcs cells slots Q i' ls' st' M') : W p l e R s m args below meth c H locs cells slots Q (F0 m pc lsA (st.map (vmp E))) := by
  obtain ⟨hx, hb, hml, hown, hts, ⟨hK, hNw⟩, hXF, hbase, hini, hfr, hlo⟩ := C
  have hE := hXF.2.2.2.2.2.2
  simp only [st2] at h
  split at h
  · rename_i j a rest
    split at h
    · rename_i n hs
      simp only [Option.some.injEq, Prod.mk.injEq] at h
      obtain ⟨hg, rfl, rfl, rfl, rfl⟩ := h
      have K := kk H locs lsA _ hnx hX hL hok
      by_cases ha : a < mx
      · unfold aSh at hs
        rw [if_pos ha] at hs
        have he := wsO_get (E := E) hs
        rw [cel_0 (by decide)] at he
        have er : aRd M a j.toNatClampNeg = M.2.1 a j.toNatClampNeg := by unfold aRd; rw [if_pos ha]
        rw [er] at K
        rw [List.map_cons, List.map_cons, vmp_lt ha]
        exact va_iald hx hb hK hX.1 a 0 he rfl (inb_in hg) hdg K
      · rcases ext_row hXF hX ha hs with ⟨-, q, e1, h1⟩ | ⟨h1, -⟩
        · rw [List.map_cons, List.map_cons, e1]
          rcases h1 with ⟨rfl, h1⟩ | ⟨-, h2, h3, h4⟩
          · exact va_ti hx hb h1 hX.2.1 (inb_in hg) rfl hdg K
          · exact va_sld hx hb h4 h3 h2 hX.2.1 (inb_in hg) hdg K
        · cases h1
    · cases h
  · cases h

theorem s_baload {nL f lw i pc v w i' : Nat} {inI : Bool} {pcs : List Nat} {x : Int} {ls ls' : Lz} {st st' : List Value} {M M' : Mm} {H : Heap} {locs : List Loc} {cells slots : Nat} {lsA : Array Slot} (C : Cx E own cc nL inI f lw p R s m args meth c) (hdg : decode cc pc = .ok (rlI pcs pc (.baload) v x, lnI (.baload) v x)) (hwd : wdI own inI f lw pcs pc (.baload) v x w = true) (hnx : pcs[i + 1]? = some (pc + lnI (.baload) v x)) (h : st2 (.baload) i ls st M = some (true, i', ls', st', M')) (hX : Hx E s H locs M) (hL : Lr E nL lsA ls) (hok : Lok ls) (kk : Kk p l e R s m args below meth c E nL pcs cells slots Q i' ls' st' M') : W p l e R s m args below meth c H locs cells slots Q (F0 m pc lsA (st.map (vmp E))) := by
  obtain ⟨hx, hb, hml, hown, hts, ⟨hK, hNw⟩, hXF, hbase, hini, hfr, hlo⟩ := C
  have hE := hXF.2.2.2.2.2.2
  simp only [st2] at h
  split at h
  · rename_i j a rest
    split at h
    · rename_i n hs
      simp only [Option.some.injEq, Prod.mk.injEq] at h
      obtain ⟨hg, rfl, rfl, rfl, rfl⟩ := h
      have K := kk H locs lsA _ hnx hX hL hok
      by_cases ha : a < mx
      · unfold aSh at hs
        rw [if_pos ha] at hs
        have he := wsO_get (E := E) hs
        rw [cel_0 (by decide)] at he
        have er : aRd M a j.toNatClampNeg = M.2.1 a j.toNatClampNeg := by unfold aRd; rw [if_pos ha]
        rw [er] at K
        rw [List.map_cons, List.map_cons, vmp_lt ha]
        exact va_zald hx hb hK hX.1 a 1 he rfl (inb_in hg) hdg K
      · rcases ext_row hXF hX ha hs with ⟨h1, -⟩ | ⟨h1, -⟩ <;> cases h1
    · rename_i n hs
      simp only [Option.some.injEq, Prod.mk.injEq] at h
      obtain ⟨hg, rfl, rfl, rfl, rfl⟩ := h
      have K := kk H locs lsA _ hnx hX hL hok
      by_cases ha : a < mx
      · unfold aSh at hs
        rw [if_pos ha] at hs
        have he := wsO_get (E := E) hs
        rw [cel_0 (by decide)] at he
        have er : aRd M a j.toNatClampNeg = M.2.1 a j.toNatClampNeg := by unfold aRd; rw [if_pos ha]
        rw [er] at K
        rw [List.map_cons, List.map_cons, vmp_lt ha]
        exact va_bald hx hb hK hX.1 a 2 he rfl (inb_in hg) hdg K
      · rcases ext_row hXF hX ha hs with ⟨h1, -⟩ | ⟨-, q, e1, h1⟩
        · cases h1
        · rw [List.map_cons, List.map_cons, e1]
          exact va_tb hx hb h1 hX.2.1 (inb_in hg) rfl hdg K
    · cases h
  · cases h

theorem s_laload {nL f lw i pc v w i' : Nat} {inI : Bool} {pcs : List Nat} {x : Int} {ls ls' : Lz} {st st' : List Value} {M M' : Mm} {H : Heap} {locs : List Loc} {cells slots : Nat} {lsA : Array Slot} (C : Cx E own cc nL inI f lw p R s m args meth c) (hdg : decode cc pc = .ok (rlI pcs pc (.laload) v x, lnI (.laload) v x)) (hwd : wdI own inI f lw pcs pc (.laload) v x w = true) (hnx : pcs[i + 1]? = some (pc + lnI (.laload) v x)) (h : st2 (.laload) i ls st M = some (true, i', ls', st', M')) (hX : Hx E s H locs M) (hL : Lr E nL lsA ls) (hok : Lok ls) (kk : Kk p l e R s m args below meth c E nL pcs cells slots Q i' ls' st' M') : W p l e R s m args below meth c H locs cells slots Q (F0 m pc lsA (st.map (vmp E))) := by
  obtain ⟨hx, hb, hml, hown, hts, ⟨hK, hNw⟩, hXF, hbase, hini, hfr, hlo⟩ := C
  have hE := hXF.2.2.2.2.2.2
  simp only [st2] at h
  split at h
  · rename_i j a rest
    split at h
    · rename_i n hs
      simp only [Option.some.injEq, Prod.mk.injEq] at h
      obtain ⟨hg, rfl, rfl, rfl, rfl⟩ := h
      have K := kk H locs lsA _ hnx hX hL hok
      have he := wsO_get (E := E) hs
      rw [cel_3] at he
      rw [List.map_cons, List.map_cons, vmp_lt (len_lt hX.2.2.1 hs)]
      exact va_lald hx hb hK hX.1 a 3 he rfl (inb_in hg) hdg K
    · cases h
  · cases h

theorem s_aaload {nL f lw i pc v w i' : Nat} {inI : Bool} {pcs : List Nat} {x : Int} {ls ls' : Lz} {st st' : List Value} {M M' : Mm} {H : Heap} {locs : List Loc} {cells slots : Nat} {lsA : Array Slot} (C : Cx E own cc nL inI f lw p R s m args meth c) (hdg : decode cc pc = .ok (rlI pcs pc (.aaload) v x, lnI (.aaload) v x)) (hwd : wdI own inI f lw pcs pc (.aaload) v x w = true) (hnx : pcs[i + 1]? = some (pc + lnI (.aaload) v x)) (h : st2 (.aaload) i ls st M = some (true, i', ls', st', M')) (hX : Hx E s H locs M) (hL : Lr E nL lsA ls) (hok : Lok ls) (kk : Kk p l e R s m args below meth c E nL pcs cells slots Q i' ls' st' M') : W p l e R s m args below meth c H locs cells slots Q (F0 m pc lsA (st.map (vmp E))) := by
  obtain ⟨hx, hb, hml, hown, hts, ⟨hK, hNw⟩, hXF, hbase, hini, hfr, hlo⟩ := C
  have hE := hXF.2.2.2.2.2.2
  simp only [st2] at h
  split at h
  · rename_i j a rest
    split at h
    · rename_i n hs
      simp only [Option.some.injEq, Prod.mk.injEq, Bool.and_eq_true] at h
      obtain ⟨⟨hg, hr⟩, rfl, rfl, rfl, rfl⟩ := h
      have K := kk H locs lsA _ hnx hX hL hok
      have he := wsO_get (E := E) hs
      rw [cel_q (by decide)] at he
      rw [List.map_cons, vmp_mrf hr] at K
      rw [List.map_cons, List.map_cons, vmp_lt (len_lt hX.2.2.1 hs)]
      exact va_aldq hx hb hK hX.1 a 4 he rfl (inb_in hg) hdg K
    · rename_i n hs
      simp only [Option.some.injEq, Prod.mk.injEq, Bool.and_eq_true] at h
      obtain ⟨⟨hg, hr⟩, rfl, rfl, rfl, rfl⟩ := h
      have K := kk H locs lsA _ hnx hX hL hok
      have he := wsO_get (E := E) hs
      rw [cel_q (by decide)] at he
      rw [List.map_cons, vmp_mrf hr] at K
      rw [List.map_cons, List.map_cons, vmp_lt (len_lt hX.2.2.1 hs)]
      exact va_aldq hx hb hK hX.1 a 5 he rfl (inb_in hg) hdg K
    · cases h
  · cases h

theorem s_iastore {nL f lw i pc v w i' : Nat} {inI : Bool} {pcs : List Nat} {x : Int} {ls ls' : Lz} {st st' : List Value} {M M' : Mm} {H : Heap} {locs : List Loc} {cells slots : Nat} {lsA : Array Slot} (C : Cx E own cc nL inI f lw p R s m args meth c) (hdg : decode cc pc = .ok (rlI pcs pc (.iastore) v x, lnI (.iastore) v x)) (hwd : wdI own inI f lw pcs pc (.iastore) v x w = true) (hnx : pcs[i + 1]? = some (pc + lnI (.iastore) v x)) (h : st2 (.iastore) i ls st M = some (true, i', ls', st', M')) (hX : Hx E s H locs M) (hL : Lr E nL lsA ls) (hok : Lok ls) (kk : Kk p l e R s m args below meth c E nL pcs cells slots Q i' ls' st' M') : W p l e R s m args below meth c H locs cells slots Q (F0 m pc lsA (st.map (vmp E))) := by
  obtain ⟨hx, hb, hml, hown, hts, ⟨hK, hNw⟩, hXF, hbase, hini, hfr, hlo⟩ := C
  have hE := hXF.2.2.2.2.2.2
  simp only [st2] at h
  split at h
  · rename_i y j a rest
    split at h
    · rename_i n hs
      simp only [Option.some.injEq, Prod.mk.injEq] at h
      obtain ⟨hg, rfl, rfl, rfl, rfl⟩ := h
      have he := wsO_get (E := E) hs
      rw [cel_0 (by decide)] at he
      have ha := len_lt hX.2.2.1 hs
      rw [List.map_cons, List.map_cons, List.map_cons, vmp_lt ha]
      refine va_iast hx hb hK hX.1 (wsO_D E M) hX.2.1 a 0 he rfl (inb_in hg) hdg (fun H1 locs1 hP1 hD1 hS1 => ?_)
      rw [wsO_set (M' := wI M a j.toNatClampNeg y) hs rfl (by rw [cel_0 (by decide)]; show Sum.inl (_, _, Sum.inl (up2 M.2.1 a j.toNatClampNeg y a)) = _; rw [up2_row]) (fun b hb q' => cel_wI b hb q')] at hP1
      exact kk H1 locs1 lsA _ hnx (hX.keep hP1 hS1 rfl (up2_ne (x_20 ha)) (up2_ne (x_21 ha))) hL hok
    · cases h
  · cases h

theorem s_bastore {nL f lw i pc v w i' : Nat} {inI : Bool} {pcs : List Nat} {x : Int} {ls ls' : Lz} {st st' : List Value} {M M' : Mm} {H : Heap} {locs : List Loc} {cells slots : Nat} {lsA : Array Slot} (C : Cx E own cc nL inI f lw p R s m args meth c) (hdg : decode cc pc = .ok (rlI pcs pc (.bastore) v x, lnI (.bastore) v x)) (hwd : wdI own inI f lw pcs pc (.bastore) v x w = true) (hnx : pcs[i + 1]? = some (pc + lnI (.bastore) v x)) (h : st2 (.bastore) i ls st M = some (true, i', ls', st', M')) (hX : Hx E s H locs M) (hL : Lr E nL lsA ls) (hok : Lok ls) (kk : Kk p l e R s m args below meth c E nL pcs cells slots Q i' ls' st' M') : W p l e R s m args below meth c H locs cells slots Q (F0 m pc lsA (st.map (vmp E))) := by
  obtain ⟨hx, hb, hml, hown, hts, ⟨hK, hNw⟩, hXF, hbase, hini, hfr, hlo⟩ := C
  have hE := hXF.2.2.2.2.2.2
  simp only [st2] at h
  split at h
  · rename_i y j a rest
    split at h
    · rename_i n hs
      simp only [Option.some.injEq, Prod.mk.injEq] at h
      obtain ⟨hg, rfl, rfl, rfl, rfl⟩ := h
      have he := wsO_get (E := E) hs
      rw [cel_0 (by decide)] at he
      have ha := len_lt hX.2.2.1 hs
      rw [List.map_cons, List.map_cons, List.map_cons, vmp_lt ha]
      refine va_zast hx hb hK hX.1 (wsO_D E M) hX.2.1 a 1 he rfl (inb_in hg) hdg (fun H1 locs1 hP1 hD1 hS1 => ?_)
      rw [wsO_set (M' := wI M a j.toNatClampNeg (vp_nar .boolean y)) hs rfl (by rw [cel_0 (by decide)]; show Sum.inl (_, _, Sum.inl (up2 M.2.1 a j.toNatClampNeg (vp_nar .boolean y) a)) = _; rw [up2_row]) (fun b hb q' => cel_wI b hb q')] at hP1
      exact kk H1 locs1 lsA _ hnx (hX.keep hP1 hS1 rfl (up2_ne (x_20 ha)) (up2_ne (x_21 ha))) hL hok
    · rename_i n hs
      simp only [Option.some.injEq, Prod.mk.injEq] at h
      obtain ⟨hg, rfl, rfl, rfl, rfl⟩ := h
      have he := wsO_get (E := E) hs
      rw [cel_0 (by decide)] at he
      have ha := len_lt hX.2.2.1 hs
      rw [List.map_cons, List.map_cons, List.map_cons, vmp_lt ha]
      refine va_bast hx hb hK hX.1 (wsO_D E M) hX.2.1 a 2 he rfl (inb_in hg) hdg (fun H1 locs1 hP1 hD1 hS1 => ?_)
      rw [wsO_set (M' := wI M a j.toNatClampNeg (vp_nar .byte y)) hs rfl (by rw [cel_0 (by decide)]; show Sum.inl (_, _, Sum.inl (up2 M.2.1 a j.toNatClampNeg (vp_nar .byte y) a)) = _; rw [up2_row]) (fun b hb q' => cel_wI b hb q')] at hP1
      exact kk H1 locs1 lsA _ hnx (hX.keep hP1 hS1 rfl (up2_ne (x_20 ha)) (up2_ne (x_21 ha))) hL hok
    · cases h
  · cases h

theorem s_lastore {nL f lw i pc v w i' : Nat} {inI : Bool} {pcs : List Nat} {x : Int} {ls ls' : Lz} {st st' : List Value} {M M' : Mm} {H : Heap} {locs : List Loc} {cells slots : Nat} {lsA : Array Slot} (C : Cx E own cc nL inI f lw p R s m args meth c) (hdg : decode cc pc = .ok (rlI pcs pc (.lastore) v x, lnI (.lastore) v x)) (hwd : wdI own inI f lw pcs pc (.lastore) v x w = true) (hnx : pcs[i + 1]? = some (pc + lnI (.lastore) v x)) (h : st2 (.lastore) i ls st M = some (true, i', ls', st', M')) (hX : Hx E s H locs M) (hL : Lr E nL lsA ls) (hok : Lok ls) (kk : Kk p l e R s m args below meth c E nL pcs cells slots Q i' ls' st' M') : W p l e R s m args below meth c H locs cells slots Q (F0 m pc lsA (st.map (vmp E))) := by
  obtain ⟨hx, hb, hml, hown, hts, ⟨hK, hNw⟩, hXF, hbase, hini, hfr, hlo⟩ := C
  have hE := hXF.2.2.2.2.2.2
  simp only [st2] at h
  split at h
  · rename_i y j a rest
    split at h
    · rename_i n hs
      simp only [Option.some.injEq, Prod.mk.injEq] at h
      obtain ⟨hg, rfl, rfl, rfl, rfl⟩ := h
      have he := wsO_get (E := E) hs
      rw [cel_3] at he
      have ha := len_lt hX.2.2.1 hs
      rw [List.map_cons, List.map_cons, List.map_cons, vmp_lt ha]
      refine va_last hx hb hK hX.1 (wsO_D E M) hX.2.1 a 3 he rfl (inb_in hg) hdg (fun H1 locs1 hP1 hD1 hS1 => ?_)
      rw [wsO_set (M' := wL M a j.toNatClampNeg y) hs rfl (by rw [cel_3]; show Sum.inl (_, _, Sum.inr (Sum.inl (up2 M.2.2.1 a j.toNatClampNeg y a))) = _; rw [up2_rowL]) (fun b hb q' => cel_wL b hb q')] at hP1
      exact kk H1 locs1 lsA _ hnx (hX.keep hP1 hS1 rfl rfl rfl) hL hok
    · cases h
  · cases h

theorem up_q {E : En} {M : Mm} {a k : Nat} {v : Option Nat} : (fun j => ((wR M a k v).2.2.2 a j).map (fun x => E.1 + x)) = va_up (fun j => (M.2.2.2 a j).map (fun x => E.1 + x)) k (v.map (fun x => E.1 + x)) := by
  funext j
  show (up2 M.2.2.2 a k v a j).map _ = _
  rw [up2_eq]
  unfold va_up
  by_cases h : j = k
  · simp [h]
  · simp [h]

theorem s_aastore {nL f lw i pc v w i' : Nat} {inI : Bool} {pcs : List Nat} {x : Int} {ls ls' : Lz} {st st' : List Value} {M M' : Mm} {H : Heap} {locs : List Loc} {cells slots : Nat} {lsA : Array Slot} (C : Cx E own cc nL inI f lw p R s m args meth c) (hdg : decode cc pc = .ok (rlI pcs pc (.aastore) v x, lnI (.aastore) v x)) (hwd : wdI own inI f lw pcs pc (.aastore) v x w = true) (hnx : pcs[i + 1]? = some (pc + lnI (.aastore) v x)) (h : st2 (.aastore) i ls st M = some (true, i', ls', st', M')) (hX : Hx E s H locs M) (hL : Lr E nL lsA ls) (hok : Lok ls) (kk : Kk p l e R s m args below meth c E nL pcs cells slots Q i' ls' st' M') : W p l e R s m args below meth c H locs cells slots Q (F0 m pc lsA (st.map (vmp E))) := by
  obtain ⟨hx, hb, hml, hown, hts, ⟨hK, hNw⟩, hXF, hbase, hini, hfr, hlo⟩ := C
  have hE := hXF.2.2.2.2.2.2
  simp only [st2] at h
  split at h
  · rename_i y j a rest
    split at h
    · rename_i n n1 hs hs1
      simp only [Option.some.injEq, Prod.mk.injEq] at h
      obtain ⟨hg, rfl, rfl, rfl, rfl⟩ := h
      have he := wsO_get (E := E) hs
      rw [cel_q (by decide)] at he
      have he1 := wsO_get (E := E) hs1
      rw [cel_obj (by decide) rfl] at he1
      have ha := len_lt hX.2.2.1 hs
      have hy := len_lt hX.2.2.1 hs1
      rw [List.map_cons, List.map_cons, List.map_cons, vmp_lt ha, vmp_lt hy]
      refine va_astq hx hb hK hX.1 (wsO_D E M) hX.2.1 a 4 y 3 he (r := (RX3, TX3, 15)) rfl he1 rfl (inb_in hg) hdg (fun H1 locs1 hP1 hD1 hS1 => ?_)
      rw [wsO_set (M' := wR M a j.toNatClampNeg (some y)) hs rfl (by rw [cel_q (by decide), up_q]; rfl) (fun b hb q' => cel_wR b hb q')] at hP1
      exact kk H1 locs1 lsA _ hnx (hX.keep hP1 hS1 rfl rfl rfl) hL hok
    · rename_i n n1 hs hs1
      simp only [Option.some.injEq, Prod.mk.injEq] at h
      obtain ⟨hg, rfl, rfl, rfl, rfl⟩ := h
      have he := wsO_get (E := E) hs
      rw [cel_q (by decide)] at he
      have he1 := wsO_get (E := E) hs1
      rw [cel_obj (by decide) rfl] at he1
      have ha := len_lt hX.2.2.1 hs
      have hy := len_lt hX.2.2.1 hs1
      rw [List.map_cons, List.map_cons, List.map_cons, vmp_lt ha, vmp_lt hy]
      refine va_astq hx hb hK hX.1 (wsO_D E M) hX.2.1 a 5 y 0 he (r := (RX0, TX0, 4)) rfl he1 rfl (inb_in hg) hdg (fun H1 locs1 hP1 hD1 hS1 => ?_)
      rw [wsO_set (M' := wR M a j.toNatClampNeg (some y)) hs rfl (by rw [cel_q (by decide), up_q]; rfl) (fun b hb q' => cel_wR b hb q')] at hP1
      exact kk H1 locs1 lsA _ hnx (hX.keep hP1 hS1 rfl rfl rfl) hL hok
    · cases h
  · rename_i j a rest
    split at h
    · rename_i n hs
      simp only [Option.some.injEq, Prod.mk.injEq] at h
      obtain ⟨hg, rfl, rfl, rfl, rfl⟩ := h
      have he := wsO_get (E := E) hs
      rw [cel_q (by decide)] at he
      have ha := len_lt hX.2.2.1 hs
      rw [List.map_cons, List.map_cons, List.map_cons, vmp_lt ha]
      refine va_astqN hx hb hK hX.1 (wsO_D E M) hX.2.1 a 4 he rfl (inb_in hg) hdg (fun H1 locs1 hP1 hD1 hS1 => ?_)
      rw [wsO_set (M' := wR M a j.toNatClampNeg none) hs rfl (by rw [cel_q (by decide), up_q]; rfl) (fun b hb q' => cel_wR b hb q')] at hP1
      exact kk H1 locs1 lsA _ hnx (hX.keep hP1 hS1 rfl rfl rfl) hL hok
    · rename_i n hs
      simp only [Option.some.injEq, Prod.mk.injEq] at h
      obtain ⟨hg, rfl, rfl, rfl, rfl⟩ := h
      have he := wsO_get (E := E) hs
      rw [cel_q (by decide)] at he
      have ha := len_lt hX.2.2.1 hs
      rw [List.map_cons, List.map_cons, List.map_cons, vmp_lt ha]
      refine va_astqN hx hb hK hX.1 (wsO_D E M) hX.2.1 a 5 he rfl (inb_in hg) hdg (fun H1 locs1 hP1 hD1 hS1 => ?_)
      rw [wsO_set (M' := wR M a j.toNatClampNeg none) hs rfl (by rw [cel_q (by decide), up_q]; rfl) (fun b hb q' => cel_wR b hb q')] at hP1
      exact kk H1 locs1 lsA _ hnx (hX.keep hP1 hS1 rfl rfl rfl) hL hok
    · cases h
  · cases h

theorem s_arraylength {nL f lw i pc v w i' : Nat} {inI : Bool} {pcs : List Nat} {x : Int} {ls ls' : Lz} {st st' : List Value} {M M' : Mm} {H : Heap} {locs : List Loc} {cells slots : Nat} {lsA : Array Slot} (C : Cx E own cc nL inI f lw p R s m args meth c) (hdg : decode cc pc = .ok (rlI pcs pc (.arraylength) v x, lnI (.arraylength) v x)) (hwd : wdI own inI f lw pcs pc (.arraylength) v x w = true) (hnx : pcs[i + 1]? = some (pc + lnI (.arraylength) v x)) (h : st2 (.arraylength) i ls st M = some (true, i', ls', st', M')) (hX : Hx E s H locs M) (hL : Lr E nL lsA ls) (hok : Lok ls) (kk : Kk p l e R s m args below meth c E nL pcs cells slots Q i' ls' st' M') : W p l e R s m args below meth c H locs cells slots Q (F0 m pc lsA (st.map (vmp E))) := by
  obtain ⟨hx, hb, hml, hown, hts, ⟨hK, hNw⟩, hXF, hbase, hini, hfr, hlo⟩ := C
  have hE := hXF.2.2.2.2.2.2
  simp only [st2] at h
  split at h
  · rename_i a rest
    split at h
    · rename_i t n hs
      by_cases ht : t < 6
      · rw [if_pos ht] at h
        simp only [Option.some.injEq, Prod.mk.injEq, true_and] at h
        obtain ⟨rfl, rfl, rfl, rfl⟩ := h
        have K := kk H locs lsA _ hnx hX hL hok
        by_cases ha : a < mx
        · unfold aSh at hs
          rw [if_pos ha] at hs
          have he := wsO_get (E := E) hs
          rw [List.map_cons, vmp_lt ha]
          obtain ⟨ty, hty, -⟩ := ty_get (E := E) ht
          by_cases h3 : t < 3
          · rw [cel_0 h3] at he
            exact va_alen hx hb hK hX.1 a t he hty rfl hdg K
          · by_cases h4 : t = 3
            · subst h4
              rw [cel_3] at he
              exact va_alen hx hb hK hX.1 a 3 he hty rfl hdg K
            · rw [cel_q (by omega)] at he
              exact va_alen hx hb hK hX.1 a t he hty rfl hdg K
        · rw [List.map_cons]
          rcases ext_row hXF hX ha hs with ⟨-, q, e1, h1⟩ | ⟨-, q, e1, h1⟩
          · rw [e1]
            rcases h1 with ⟨rfl, h1⟩ | ⟨-, h2, h3, h4⟩
            · exact va_tlen hx hb h1 hX.2.1 rfl hdg K
            · exact va_slen hx hb h4 h3 h2 hX.2.1 hdg K
          · rw [e1]
            exact va_tlen hx hb h1 hX.2.1 rfl hdg K
      · rw [if_neg ht] at h; cases h
    · cases h
  · cases h

theorem s_getstatic {k : Nat} {nL f lw i pc v w i' : Nat} {inI : Bool} {pcs : List Nat} {x : Int} {ls ls' : Lz} {st st' : List Value} {M M' : Mm} {H : Heap} {locs : List Loc} {cells slots : Nat} {lsA : Array Slot} (C : Cx E own cc nL inI f lw p R s m args meth c) (hdg : decode cc pc = .ok (rlI pcs pc (.getstatic k) v x, lnI (.getstatic k) v x)) (hwd : wdI own inI f lw pcs pc (.getstatic k) v x w = true) (hnx : pcs[i + 1]? = some (pc + lnI (.getstatic k) v x)) (h : st2 (.getstatic k) i ls st M = some (true, i', ls', st', M')) (hX : Hx E s H locs M) (hL : Lr E nL lsA ls) (hok : Lok ls) (kk : Kk p l e R s m args below meth c E nL pcs cells slots Q i' ls' st' M') : W p l e R s m args below meth c H locs cells slots Q (F0 m pc lsA (st.map (vmp E))) := by
  obtain ⟨hx, hb, hml, hown, hts, ⟨hK, hNw⟩, hXF, hbase, hini, hfr, hlo⟩ := C
  have hE := hXF.2.2.2.2.2.2
  simp only [st2, Option.some.injEq, Prod.mk.injEq, true_and] at h
  obtain ⟨rfl, rfl, rfl, rfl⟩ := h
  have K := kk H locs lsA _ hnx hX hL hok
  have e0 : vmp E (.ref mx) = E.2.2.2.2.1 0 := by rw [vmp_ge (by omega), Nat.sub_self]
  have e30 : vmp E (.ref (mx + 30)) = E.2.2.2.2.1 30 := by rw [vmp_ge (by omega), show mx + 30 - mx = 30 by omega]
  rcases k with _ | _ | k
  · exact va_gets hx hb hXF.1 hX.2.1 hown (hts _ (wAt_in hwd)) (fun _ h9 => h9) hdg K
  · rw [List.map_cons, if_neg (by decide), if_pos rfl, e0] at K
    exact va_gets hx hb hXF.2.1 hX.2.1 hown (hts _ (wAt_in hwd)) (fun _ h9 => h9) hdg K
  · have hw : (decide (k + 2 = 2) && wAt w (.fieldLink own x.toNat "jdk/internal/util/Preconditions" "SIOOBE_FORMATTER" "Ljava/util/function/BiFunction;")) = true := hwd
    rw [Bool.and_eq_true] at hw
    rw [List.map_cons, if_neg (by omega), if_neg (by omega), e30] at K
    exact va_gets hx hb hXF.2.2.1 hX.2.1 hown (hts _ (wAt_in hw.2)) (fun _ h9 => h9) hdg K

theorem s_ifnull {t : Int} {nL f lw i pc v w i' : Nat} {inI : Bool} {pcs : List Nat} {x : Int} {ls ls' : Lz} {st st' : List Value} {M M' : Mm} {H : Heap} {locs : List Loc} {cells slots : Nat} {lsA : Array Slot} (C : Cx E own cc nL inI f lw p R s m args meth c) (hdg : decode cc pc = .ok (rlI pcs pc (.ifnull t) v x, lnI (.ifnull t) v x)) (hwd : wdI own inI f lw pcs pc (.ifnull t) v x w = true) (hnx : pcs[i + 1]? = some (pc + lnI (.ifnull t) v x)) (h : st2 (.ifnull t) i ls st M = some (true, i', ls', st', M')) (hX : Hx E s H locs M) (hL : Lr E nL lsA ls) (hok : Lok ls) (kk : Kk p l e R s m args below meth c E nL pcs cells slots Q i' ls' st' M') : W p l e R s m args below meth c H locs cells slots Q (F0 m pc lsA (st.map (vmp E))) := by
  obtain ⟨hx, hb, hml, hown, hts, ⟨hK, hNw⟩, hXF, hbase, hini, hfr, hlo⟩ := C
  have hE := hXF.2.2.2.2.2.2
  obtain ⟨q, hq, ht⟩ := tgK_of hwd
  simp only [st2] at h
  split at h
  · simp only [Option.some.injEq, Prod.mk.injEq, true_and] at h
    obtain ⟨rfl, rfl, rfl, rfl⟩ := h
    exact lv_ifnullN hx hb hdg ht (kk H locs lsA _ hq hX hL hok)
  · rename_i a rest
    simp only [Option.some.injEq, Prod.mk.injEq] at h
    obtain ⟨hg, rfl, rfl, rfl, rfl⟩ := h
    rw [List.map_cons, vmp_lt (of_decide_eq_true hg)]
    exact lv_ifnull hx hb hdg (kk H locs lsA _ hnx hX hL hok)
  · cases h

theorem s_ifnonnull {t : Int} {nL f lw i pc v w i' : Nat} {inI : Bool} {pcs : List Nat} {x : Int} {ls ls' : Lz} {st st' : List Value} {M M' : Mm} {H : Heap} {locs : List Loc} {cells slots : Nat} {lsA : Array Slot} (C : Cx E own cc nL inI f lw p R s m args meth c) (hdg : decode cc pc = .ok (rlI pcs pc (.ifnonnull t) v x, lnI (.ifnonnull t) v x)) (hwd : wdI own inI f lw pcs pc (.ifnonnull t) v x w = true) (hnx : pcs[i + 1]? = some (pc + lnI (.ifnonnull t) v x)) (h : st2 (.ifnonnull t) i ls st M = some (true, i', ls', st', M')) (hX : Hx E s H locs M) (hL : Lr E nL lsA ls) (hok : Lok ls) (kk : Kk p l e R s m args below meth c E nL pcs cells slots Q i' ls' st' M') : W p l e R s m args below meth c H locs cells slots Q (F0 m pc lsA (st.map (vmp E))) := by
  obtain ⟨hx, hb, hml, hown, hts, ⟨hK, hNw⟩, hXF, hbase, hini, hfr, hlo⟩ := C
  have hE := hXF.2.2.2.2.2.2
  obtain ⟨q, hq, ht⟩ := tgK_of hwd
  simp only [st2] at h
  split at h
  · simp only [Option.some.injEq, Prod.mk.injEq, true_and] at h
    obtain ⟨rfl, rfl, rfl, rfl⟩ := h
    exact lv_ifnonnullN hx hb hdg (kk H locs lsA _ hnx hX hL hok)
  · rename_i a rest
    simp only [Option.some.injEq, Prod.mk.injEq] at h
    obtain ⟨hg, rfl, rfl, rfl, rfl⟩ := h
    rw [List.map_cons, vmp_lt (of_decide_eq_true hg)]
    exact lv_ifnonnull hx hb hdg ht (kk H locs lsA _ hq hX hL hok)
  · cases h

theorem tgE_of {pcs : List Nat} {pc : Nat} {t : Int} (h : tgE pcs t = true) : ∃ q, pcs[t.toNat]? = some q ∧ (pc : Int) + tgO pcs pc t = (q : Int) := by
  unfold tgE at h
  have hl := of_decide_eq_true h
  refine ⟨pcs[t.toNat], List.getElem?_eq_getElem hl, ?_⟩
  unfold tgO
  rw [List.getD_eq_getElem?_getD, List.getElem?_eq_getElem hl]
  show (pc : Int) + (((pcs[t.toNat] : Nat) : Int) - pc) = _
  omega

theorem s_tableswitch {d lo hi : Int} {offs : Array Int} {nL f lw i pc v w i' : Nat} {inI : Bool} {pcs : List Nat} {x : Int} {ls ls' : Lz} {st st' : List Value} {M M' : Mm} {H : Heap} {locs : List Loc} {cells slots : Nat} {lsA : Array Slot} (C : Cx E own cc nL inI f lw p R s m args meth c) (hdg : decode cc pc = .ok (rlI pcs pc (.tableswitch d lo hi offs) v x, lnI (.tableswitch d lo hi offs) v x)) (hwd : wdI own inI f lw pcs pc (.tableswitch d lo hi offs) v x w = true) (h : st2 (.tableswitch d lo hi offs) i ls st M = some (true, i', ls', st', M')) (hX : Hx E s H locs M) (hL : Lr E nL lsA ls) (hok : Lok ls) (kk : Kk p l e R s m args below meth c E nL pcs cells slots Q i' ls' st' M') : W p l e R s m args below meth c H locs cells slots Q (F0 m pc lsA (st.map (vmp E))) := by
  obtain ⟨hx, hb, hml, hown, hts, ⟨hK, hNw⟩, hXF, hbase, hini, hfr, hlo⟩ := C
  have hE := hXF.2.2.2.2.2.2
  have hw : (tgE pcs d && offs.toList.all (tgE pcs) && decide (hi - lo < offs.size)) = true := hwd
  simp only [Bool.and_eq_true, decide_eq_true_eq] at hw
  obtain ⟨⟨hw1, hw2⟩, hw3⟩ := hw
  simp only [st2] at h
  split at h
  · rename_i y rest
    simp only [Option.some.injEq, Prod.mk.injEq, true_and] at h
    obtain ⟨rfl, rfl, rfl, rfl⟩ := h
    by_cases hc : y.toInt < lo ∨ hi < y.toInt
    · obtain ⟨q, hq, ht⟩ := tgE_of (pc := pc) hw1
      exact lv_tableOut hx hb hdg hc ht (kk H locs lsA _ (by unfold swT; rw [if_pos hc]; exact hq) hX hL hok)
    · have h1 : ¬ y.toInt < lo := fun z => hc (Or.inl z)
      have h2 : ¬ hi < y.toInt := fun z => hc (Or.inr z)
      have hlt : (y.toInt - lo).toNat < offs.size := by omega
      have hmem : offs[(y.toInt - lo).toNat] ∈ offs.toList := Array.getElem_mem_toList hlt
      obtain ⟨q, hq, ht⟩ := tgE_of (pc := pc) (List.all_eq_true.mp hw2 _ hmem)
      have ho : (offs.map (tgO pcs pc))[(y.toInt - lo).toNat]? = some (tgO pcs pc offs[(y.toInt - lo).toNat]) := by
        rw [Array.getElem?_map, Array.getElem?_eq_getElem hlt]
        rfl
      refine lv_tableIn hx hb hdg h1 h2 ho ht (kk H locs lsA _ ?_ hX hL hok)
      unfold swT
      have e9 : offs.toList[(y.toInt - lo).toNat]? = some offs[(y.toInt - lo).toNat] := by simp [hlt]
      rw [if_neg hc, List.getD_eq_getElem?_getD, e9]
      exact hq
  · cases h

theorem lk_map (f : Int → Int) (d x : Int) : ∀ ps : List (Int × Int), Op.lookupswitch.offset (ps.map (fun q => (q.1, f q.2))) (f d) x = f (Op.lookupswitch.offset ps d x) := by
  intro ps
  induction ps with
  | nil => simp [Op.lookupswitch.offset]
  | cons q ps ih =>
    obtain ⟨a, b⟩ := q
    simp only [List.map_cons, Op.lookupswitch.offset]
    split
    · rfl
    · exact ih
theorem lk_all {pcs : List Nat} {d x : Int} : ∀ ps : List (Int × Int), tgE pcs d = true → ps.all (fun q => tgE pcs q.2) = true → tgE pcs (Op.lookupswitch.offset ps d x) = true := by
  intro ps
  induction ps with
  | nil => intro h _; simpa [Op.lookupswitch.offset] using h
  | cons q ps ih =>
    obtain ⟨a, b⟩ := q
    intro h h2
    simp only [List.all_cons, Bool.and_eq_true] at h2
    simp only [Op.lookupswitch.offset]
    split
    · exact h2.1
    · exact ih h h2.2
theorem lk_srt (f : Int → Int) (ps : List (Int × Int)) : ((ps.map (fun q => (q.1, f q.2))).zip ((ps.map (fun q => (q.1, f q.2))).drop 1)).all (fun (a, next) => decide (a.1 < next.1)) = (ps.zip (ps.drop 1)).all (fun (a, next) => decide (a.1 < next.1)) := by
  rw [← List.map_drop, List.zip_map, List.all_map]
  rfl

theorem s_lookupswitch {d : Int} {ps : Array (Int × Int)} {nL f lw i pc v w i' : Nat} {inI : Bool} {pcs : List Nat} {x : Int} {ls ls' : Lz} {st st' : List Value} {M M' : Mm} {H : Heap} {locs : List Loc} {cells slots : Nat} {lsA : Array Slot} (C : Cx E own cc nL inI f lw p R s m args meth c) (hdg : decode cc pc = .ok (rlI pcs pc (.lookupswitch d ps) v x, lnI (.lookupswitch d ps) v x)) (hwd : wdI own inI f lw pcs pc (.lookupswitch d ps) v x w = true) (h : st2 (.lookupswitch d ps) i ls st M = some (true, i', ls', st', M')) (hX : Hx E s H locs M) (hL : Lr E nL lsA ls) (hok : Lok ls) (kk : Kk p l e R s m args below meth c E nL pcs cells slots Q i' ls' st' M') : W p l e R s m args below meth c H locs cells slots Q (F0 m pc lsA (st.map (vmp E))) := by
  obtain ⟨hx, hb, hml, hown, hts, ⟨hK, hNw⟩, hXF, hbase, hini, hfr, hlo⟩ := C
  have hE := hXF.2.2.2.2.2.2
  have hw : (tgE pcs d && ps.toList.all (fun q => tgE pcs q.2) && (ps.toList.zip (ps.toList.drop 1)).all (fun (a, next) => a.1 < next.1)) = true := hwd
  rw [Bool.and_eq_true, Bool.and_eq_true] at hw
  obtain ⟨⟨hw1, hw2⟩, hw3⟩ := hw
  simp only [st2] at h
  split at h
  · rename_i y rest
    simp only [Option.some.injEq, Prod.mk.injEq, true_and] at h
    obtain ⟨rfl, rfl, rfl, rfl⟩ := h
    obtain ⟨q, hq, ht⟩ := tgE_of (pc := pc) (lk_all (x := y.toInt) ps.toList hw1 hw2)
    refine lv_lookup (off := tgO pcs pc (Op.lookupswitch.offset ps.toList d y.toInt)) hx hb hdg ?_ ?_ ht (kk H locs lsA _ hq hX hL hok)
    · rw [Array.toList_map]
      rw [lk_srt]
      exact hw3
    · rw [Array.toList_map]
      exact lk_map (tgO pcs pc) d y.toInt ps.toList
  · cases h

end STR
