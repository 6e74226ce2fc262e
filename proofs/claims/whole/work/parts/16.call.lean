/-! calls -/
def mPc (E : En) (M : Mm) (as : List Value) : Array Value → State → Prop := fun v U => v = (as.map (vmp E)).toArray ∧ Hx E U U.heap [] M ∧ TK E U ∧ XF E U U.heap ∧ U.heap.size = E.1 + M.1.length
def mQc (E : En) (M' : Mm) (r : Option Value) : Array Value → State → Outcome → State → Prop := fun _ st o t => o = .returned (r.map (vmp E)) ∧ Hx E st t.heap [] M'
def mRm (q : Mi) (dc ds : Nat) : Room := { frames := q.2.2.2.2.2.1, cells := dc, slots := ds, locals := q.2.2.2.2.2.2.1 }
def mWs (q : Mi) : List Cond := [.code q.1 q.2.1 q.2.2.1 q.2.2.2.1]
theorem mPc_blind (E : En) (M : Mm) (as : List Value) : FrameBlind (mPc E M as) := fun a U g mk h => ⟨h.1, h.2.1, TK.same (s := U) (U := U.calling g mk a) rfl h.2.2.1, XF.warm (s := U) (U := U.calling g mk a) (State.WarmedH.refl U) (fun _ _ _ => rfl) (Nat.le_refl _) h.2.2.2.1, h.2.2.2.2⟩
theorem cLk_spec {own : String} {k v : Nat} {x : Int} {w f lw kind : Nat} {q : Mi} (hq : mt[k]? = some q) (h : cLk own k v x w f lw kind = true) :
    q.2.2.2.2.2.1 + 1 ≤ f ∧ 8 + (q.2.2.1 + 11) + q.2.2.2.2.2.2.1 ≤ lw ∧ Cond.code q.1 q.2.1 q.2.2.1 q.2.2.2.1 ∈ lwt ∧ Cond.initialized q.1.cls ∈ lwt ∧ q.1.cls ≠ "java/lang/invoke/MethodHandle" ∧ q.1.cls ≠ "java/lang/invoke/VarHandle" ∧ (parseMethodDescriptor q.1.desc).map (fun d => d.parameters.length) = some (if kind = 0 then q.2.2.2.2.1 else q.2.2.2.2.1 - 1) ∧ (kind = 0 ∨ 0 < q.2.2.2.2.1) ∧
    ((v = 1 ∧ Cond.methodLinkNest own x.toNat q.1 "DebtorsHouse" ∈ lwt) ∨ (v ≠ 1 ∧ Cond.methodLink own x.toNat q.1 ∈ lwt)) ∧ (kind = 0 → Cond.static q.1 ∈ lwt) ∧ (kind ≠ 0 → Cond.instanceMethod q.1 ∈ lwt) ∧ (kind = 1 → Cond.selects q.1.cls q.1 q.1 ∈ lwt) ∧ (kind = 2 → q.1.name = "<init>" ∧ q.2.2.2.1 = none) ∧ plainName q.1.cls = true := by
  unfold cLk at h
  rw [hq] at h
  obtain ⟨y, bytes, maxL, ret, na, f', l', ws, rows⟩ := q
  dsimp only at h ⊢
  split at h
  · rename_i w1 w2 w3 w4 rws heq
    simp only [Option.some.injEq, Prod.mk.injEq] at heq
    obtain ⟨rfl, rfl, rfl, rfl, rfl, rfl, rfl, -, -⟩ := heq
    simp only [Bool.and_eq_true, decide_eq_true_eq] at h
    obtain ⟨⟨⟨⟨⟨⟨⟨⟨⟨⟨h1, h2⟩, h3⟩, h4⟩, h5⟩, h6⟩, h7⟩, h8⟩, h9⟩, h10⟩, h11⟩ := h
    refine ⟨h1, h2, wAt_in h3, wAt_in h4, h5, h6, h7, h8, ?_, ?_, ?_, ?_, ?_, h11⟩
    · by_cases hv : v = 1
      · rw [if_pos hv] at h9; exact Or.inl ⟨hv, wAt_in h9⟩
      · rw [if_neg hv] at h9; exact Or.inr ⟨hv, wAt_in h9⟩
    · intro e; subst e; exact wAt_in h10
    · intro e
      split at h10
      · exact absurd rfl e
      · rw [Bool.and_eq_true] at h10; exact wAt_in h10.1
      · simp only [Bool.and_eq_true] at h10; exact wAt_in h10.1.1
    · intro e
      subst e
      have h12 : (wAt w2 (Cond.instanceMethod y) && wAt w3 (Cond.selects y.cls y y)) = true := h10
      rw [Bool.and_eq_true] at h12
      exact wAt_in h12.2
    · intro e
      subst e
      have h12 : (wAt w2 (Cond.instanceMethod y) && decide (y.name = "<init>") && decide (ret = none)) = true := h10
      simp only [Bool.and_eq_true, decide_eq_true_eq] at h12
      exact ⟨h12.1.2, h12.2⟩
  · cases h
section CAL
variable {p : Program} {l : Launch} {e : Env} {R : Room} {s : State} {m : MethodId} {args : Array Value} {below : List Frame} {meth : Method} {c : Code} {Q : State → Prop} {E : En} {cc : ByteArray} {own : String}
theorem W.callG {H : Heap} {locs : List Loc} {cells slots mc ms : Nat} {g : JFrame} {rest : List Value} {Qa : State → Outcome → State → Prop} {free : Addr → Prop} (hr : CallRun p l e R s m args below meth c H locs cells slots mc ms g rest Qa free)
    (kk : ∀ (v : Option Value) (st₀ t : State) (L : List Loc), st₀.heap = H → (∀ q ∈ L, free q.base) → Qa st₀ (.returned v) t → W p l e R s m args below meth c t.heap (locs ++ L) (cells + mc) (slots + ms) Q { g with pc := g.pc + 3, stack := v.toList ++ rest }) : W p l e R s m args below meth c H locs cells slots Q g := by
  intro T hT X
  obtain ⟨v, st₀, t, T', L, h0, X', hL, e1, hq, st⟩ := hr T hT X
  obtain ⟨t2, a1, b1⟩ := kk v st₀ t L h0 hL hq T' e1 X'
  exact ⟨t2, st t2 a1, b1⟩
theorem mPc_at {nL f lw : Nat} {inI : Bool} {H : Heap} {locs : List Loc} {M : Mm} {as : List Value} (C : Cx E own cc nL inI f lw p R s m args meth c) (hX : Hx E s H locs M) (hsz : H.size = E.1 + M.1.length) : ∀ U : State, U.heap = H → s.WarmedH U.vm → mPc E M as (as.map (vmp E)).toArray U := by
  intro U hU hW
  obtain ⟨hx, hb, hml, hown, hts, hTK, hXF, hbase, hini, hfr, hlo⟩ := C
  refine ⟨rfl, ⟨by rw [hU]; exact hX.1, va_S.rf, hX.2.2⟩, hTK.warm hW, ?_, by rw [hU]; exact hsz⟩
  rw [hU]
  exact XF.warm hW hX.2.1.2.1 hX.2.1.1 hXF
/-- behind a call -/
theorem Hx.back {H : Heap} {locs L : List Loc} {M M1 : Mm} {st₀ t : State} (hX : Hx E s H locs M) (hbase : E.1 ≤ s.heap.size) (h0 : st₀.heap = H) (hL : ∀ q ∈ L, eA E q.base) (h : Hx E st₀ t.heap [] M1) : Hx E s t.heap (locs ++ L) M1 := by
  refine ⟨h.1, ⟨?_, ?_, ?_⟩, h.2.2⟩
  · have h1 := h.2.1.1
    rw [h0] at h1
    exact Nat.le_trans hX.2.1.1 h1
  · intro q hq hA
    rw [h.2.1.2.1 q (by rw [h0]; exact Nat.lt_of_lt_of_le hq hX.2.1.1) hA, h0]
    exact hX.2.1.2.1 q hq hA
  · intro x hx
    rcases List.mem_append.mp hx with h9 | h9
    · exact hX.2.1.2.2 x h9
    · exact hL x h9
theorem call_ok {k v w nL f lw pc kind dc ds : Nat} {x : Int} {inI : Bool} {q : Mi} {as rest : List Value} {M M1 : Mm} {r1 : Option Value} {H : Heap} {locs : List Loc} {cells slots : Nat} {lsA : Array Slot} {ls : Lz} (hq : mt[k]? = some q) (hM : Met l q.1 (mWs q) (mRm q dc ds) (mPc E M as) (mQc E M1 r1) dc ds (eA E)) (C : Cx E own cc nL inI f lw p R s m args meth c) (hlk : cLk own k v x w f lw kind = true)
    (hdg : (kind = 0 ∧ decode cc pc = .ok (.invokestatic x.toNat, 3)) ∨ (kind = 1 ∧ decode cc pc = .ok (.invokevirtual x.toNat, 3) ∧ rcv k M as = true) ∨ (kind = 2 ∧ decode cc pc = .ok (.invokespecial x.toNat, 3) ∧ rcI as = true))
    (hna : as.length = q.2.2.2.2.1) (hrs : (rest.map fun v => v.category).sum ≤ 8) (hX : Hx E s H locs M) (hL : Lr E nL lsA ls) (hcnt : s.heap.size + cells = E.1 + M.1.length) (hcR : cells + dc ≤ R.cells) (hsR : slots + ds ≤ R.slots)
    (kk : ∀ (H' : Heap) (locs' : List Loc), Hx E s H' locs' M1 → W p l e R s m args below meth c H' locs' (cells + dc) (slots + ds) Q (F0 m (pc + 3) lsA ((r1.toList ++ rest).map (vmp E)))) : W p l e R s m args below meth c H locs cells slots Q (F0 m pc lsA ((as.reverse ++ rest).map (vmp E))) := by
  have C0 := C
  obtain ⟨hx, hb, hml, hown, hts, ⟨hK, hNw⟩, hXF, hbase, hini, hfr, hlo⟩ := C
  have hE := hXF.2.2.2.2.2.2
  obtain ⟨c1, c2, c3, c4, c5, c6, c7, c8, c9, c10, c11, c12, c13, c14⟩ := cLk_spec hq hlk
  intro T hT X
  have hsz := h_size X hT hX hbase hcnt
  refine (?_ : W p l e R s m args below meth c H locs cells slots Q (F0 m pc lsA ((as.reverse ++ rest).map (vmp E)))) T hT X
  clear X hT T
  have S : CallFix p m c cc nL s args lwt own := ⟨hx, hb, hml, hown, hts⟩
  have hws : ∀ w ∈ mWs q, ∀ (a' : Array Value) (U : State), s.WarmedH U.vm → w.before a' U = true := by
    intro w hw a' U hW
    have e9 : w = .code q.1 q.2.1 q.2.2.1 q.2.2.2.1 := by unfold mWs at hw; exact List.mem_singleton.mp hw
    subst e9
    exact twk_use rfl (twk_warm rfl hW (hNw _ c3))
  have hcin : Cond.code q.1 q.2.1 q.2.2.1 q.2.2.2.1 ∈ mWs q := List.mem_singleton.mpr rfl
  have hsig : ∀ n, (parseMethodDescriptor q.1.desc).map (fun d => d.parameters.length) = some n → ∀ sig, parseMethodDescriptor q.1.desc = some sig → n = sig.parameters.length := by
    intro n hn sig hs
    rw [hs] at hn
    exact (Option.some.inj hn).symm
  have hfr2 : (mRm q dc ds).frames + 1 ≤ R.frames := Nat.le_trans c1 hfr
  have hlo2 : 8 + (q.2.2.1 + 11) + (mRm q dc ds).locals ≤ R.locals := Nat.le_trans c2 hlo
  have hrest : 2 * (F0 m pc lsA ((as.reverse ++ rest).map (vmp E))).monitorRoom + ((rest.map (vmp E)).map fun v => v.category).sum ≤ 8 := lv_room (by rw [vmp_cats E hE]; exact hrs)
  have hstk : (as.reverse ++ rest).map (vmp E) = (as.map (vmp E)).reverse ++ rest.map (vmp E) := by rw [List.map_append, List.map_reverse]
  have GO : ∀ {Qa : State → Outcome → State → Prop}, (∀ st o t, Qa st o t → mQc E M1 r1 #[] st o t) → CallRun p l e R s m args below meth c H locs cells slots dc ds (F0 m pc lsA ((as.reverse ++ rest).map (vmp E))) (rest.map (vmp E)) Qa (eA E) → W p l e R s m args below meth c H locs cells slots Q (F0 m pc lsA ((as.reverse ++ rest).map (vmp E))) := by
    intro Qa hQa hr
    refine W.callG hr (fun vv st₀ t L h0 hLL hqq => ?_)
    obtain ⟨e1, hX1⟩ := hQa _ _ _ hqq
    have e2 : vv = r1.map (vmp E) := Outcome.returned.inj e1
    subst e2
    have K := kk t.heap (locs ++ L) (Hx.back hX hbase h0 hLL hX1)
    have e3 : (r1.toList ++ rest).map (vmp E) = (r1.map (vmp E)).toList ++ rest.map (vmp E) := by
      rw [List.map_append]
      cases r1 <;> rfl
    rw [e3] at K
    exact K
  rcases hdg with ⟨rfl, hdg⟩ | ⟨rfl, hdg, hrc⟩ | ⟨rfl, hdg, hrc⟩
  · -- static
    rw [if_pos rfl] at c7
    have hp : PreS s H (mPc E M as) (as.map (vmp E)) := ⟨mPc_blind E M as, mPc_at C0 hX hsz⟩
    rcases c9 with ⟨-, c9⟩ | ⟨-, c9⟩
    · exact GO (fun _ _ _ h => h) (va_runSN (As := as.map (vmp E)) (rest := rest.map (vmp E)) S hM ⟨⟨⟨rfl, rfl, hfr2, hlo2, hws, hcin⟩, hts _ c3, hts _ c4, ⟨c5, c6⟩, hsig _ c7, hts _ c9⟩, hts _ (c10 rfl), trivial⟩ hp rfl (by rw [List.length_map]; exact hna) hL.2.1 hstk hrest hdg ⟨hcR, hsR⟩).run
    · exact GO (fun _ _ _ h => h) (W.runS (As := as.map (vmp E)) (rest := rest.map (vmp E)) S hM ⟨⟨rfl, rfl, hfr2, hlo2, hws, hcin, hts _ c3, hts _ c4, ⟨c5, c6⟩, hsig _ c7, hts _ c9⟩, hts _ (c10 rfl)⟩ hp rfl (by rw [List.length_map]; exact hna) hL.2.1 hstk hrest hdg ⟨hcR, hsR⟩)
  · -- virtual
    rw [if_neg (by decide)] at c7
    cases as with
    | nil => cases hrc
    | cons a0 as =>
      cases a0 with
      | ref a =>
        have hrcv : ∃ b : Nat, vmp E (.ref a) = .ref b ∧ ∃ cell : Cell, H[b]? = some cell ∧ cell.vm.isStatics = false ∧ s.vm.findClass q.1.cls = some cell.cls := by
          have hcls : mCls k = q.1.cls := by unfold mCls; rw [hq]
          unfold rcv at hrc
          dsimp only at hrc
          by_cases ha : a < mx
          · rw [if_pos ha] at hrc
            cases hs : M.1[a]? with
            | none => rw [hs] at hrc; cases hrc
            | some z =>
              obtain ⟨t, n⟩ := z
              rw [hs] at hrc
              simp only [Bool.and_eq_true, decide_eq_true_eq] at hrc
              obtain ⟨h10, hrc⟩ := hrc
              obtain ⟨cq, hcq, ecq⟩ := Option.map_eq_some_iff.mp hrc
              obtain ⟨kd, hkd⟩ := kdz_get hcq
              have he := wsO_get (E := E) hs
              rw [cel_obj h10 hkd] at he
              refine ⟨E.1 + a, vmp_lt ha, ?_⟩
              have h9 := va_recv hK hX.1 hcq he
              rw [ecq, hcls] at h9
              exact h9
          · rw [if_neg ha] at hrc
            simp only [Bool.and_eq_true, decide_eq_true_eq] at hrc
            obtain ⟨⟨h1, h2⟩, h3⟩ := hrc
            obtain ⟨b, vv, g1, g2, -, g4, -⟩ := hXF.2.2.2.2.1 (a - mx - 1) (x_6 h1 h2)
            refine ⟨b, by rw [vmp_ge ha, x_e1 h1]; exact g1, ?_⟩
            obtain ⟨cell, z1, z2, z3, -⟩ := g4.kept hX.2.1.2.1
            rw [← hcls, h3]
            exact ⟨cell, z1, z2, z3⟩
        obtain ⟨b, eb, hcell⟩ := hrcv
        have hp : PreV s H q.1.cls b (mPc E M (.ref a :: as)) (as.map (vmp E)) := ⟨mPc_blind E M _, hcell, fun U hU hW => by
          have := mPc_at (as := .ref a :: as) C0 hX hsz U hU hW
          rw [List.map_cons, eb] at this
          exact this⟩
        have hstk2 : ((.ref a :: as).reverse ++ rest).map (vmp E) = (as.map (vmp E)).reverse ++ .ref b :: rest.map (vmp E) := by
          rw [hstk, List.map_cons, eb, List.reverse_cons, List.append_assoc]
          rfl
        have hlen : (as.map (vmp E)).length = q.2.2.2.2.1 - 1 := by rw [List.length_map]; rw [List.length_cons] at hna; omega
        rcases c9 with ⟨-, c9⟩ | ⟨-, c9⟩
        · exact GO (fun _ _ _ h => h) (va_runVN (As := as.map (vmp E)) (rest := rest.map (vmp E)) S hM ⟨⟨⟨rfl, rfl, hfr2, hlo2, hws, hcin⟩, hts _ c3, hts _ c4, ⟨c5, c6⟩, hsig _ c7, hts _ c9⟩, hts _ (c11 (by decide)), hts _ (c12 rfl)⟩ hp rfl hlen hL.2.1 hstk2 hrest hdg ⟨hcR, hsR⟩).run
        · exact GO (fun _ _ _ h => h) (W.runV (As := as.map (vmp E)) (rest := rest.map (vmp E)) S hM ⟨⟨rfl, rfl, hfr2, hlo2, hws, hcin, hts _ c3, hts _ c4, ⟨c5, c6⟩, hsig _ c7, hts _ c9⟩, hts _ (c11 (by decide)), hts _ (c12 rfl)⟩ hp rfl hlen hL.2.1 hstk2 hrest hdg ⟨hcR, hsR⟩)
      | _ => cases hrc
  · -- special
    rw [if_neg (by decide)] at c7
    obtain ⟨hnm, hret⟩ := c13 rfl
    cases as with
    | nil => cases hrc
    | cons a0 as =>
      cases a0 with
      | ref a =>
        have ha : a < mx := of_decide_eq_true hrc
        have eb := vmp_lt (E := E) ha
        have hp : PreS s H (mPc E M (.ref a :: as)) (.ref (E.1 + a) :: as.map (vmp E)) := ⟨mPc_blind E M _, fun U hU hW => by
          have := mPc_at (as := .ref a :: as) C0 hX hsz U hU hW
          rw [List.map_cons, eb] at this
          exact this⟩
        have hstk2 : ((.ref a :: as).reverse ++ rest).map (vmp E) = (as.map (vmp E)).reverse ++ .ref (E.1 + a) :: rest.map (vmp E) := by
          rw [hstk, List.map_cons, eb, List.reverse_cons, List.append_assoc]
          rfl
        have hlen : (as.map (vmp E)).length = q.2.2.2.2.1 - 1 := by rw [List.length_map]; rw [List.length_cons] at hna; omega
        rw [hret] at hcin c3
        rcases c9 with ⟨-, c9⟩ | ⟨-, c9⟩
        · exact GO (fun _ _ _ h => h) (va_runIN (As := as.map (vmp E)) (rest := rest.map (vmp E)) (b := E.1 + a) S hM ⟨⟨⟨rfl, rfl, hfr2, hlo2, hws, hcin⟩, hts _ c3, hts _ c4, ⟨c5, c6⟩, hsig _ c7, hts _ c9⟩, hnm, hts _ (c11 (by decide))⟩ hp rfl hlen hL.2.1 hstk2 hrest hdg ⟨hcR, hsR⟩).run
        · exact GO (fun _ _ _ h => h) (W.runI (As := as.map (vmp E)) (rest := rest.map (vmp E)) (b := E.1 + a) S hM ⟨⟨rfl, rfl, hfr2, hlo2, hws, hcin, hts _ c3, hts _ c4, ⟨c5, c6⟩, hsig _ c7, hts _ c9⟩, hnm, hts _ (c11 (by decide))⟩ hp rfl hlen hL.2.1 hstk2 hrest hdg ⟨hcR, hsR⟩)
      | _ => cases hrc
end CAL
