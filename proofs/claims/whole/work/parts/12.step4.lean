/-! what the library does itself; what makes cells -/
theorem w_objI : Cond.instanceMethod objectInit ∈ lwt := lwt_of (by decide +kernel) rfl
theorem w_objC : Cond.code objectInit ⟨#[0xb1]⟩ 1 none ∈ lwt := lwt_of (by decide +kernel) rfl
theorem w_cpN : Cond.native arraycopyName ∈ lwt := lwt_of (by decide +kernel) rfl
theorem w_cpS : Cond.static arraycopyName ∈ lwt := lwt_of (by decide +kernel) rfl
theorem w_sys : Cond.initialized "java/lang/System" ∈ lwt := lwt_of (by decide +kernel) rfl
theorem w_mth : Cond.initialized "java/lang/Math" ∈ lwt := lwt_of (by decide +kernel) rfl
theorem w_maS : Cond.static Lib.Math.max.name ∈ lwt := lwt_of (by decide +kernel) rfl
theorem w_miS : Cond.static Lib.Math.min.name ∈ lwt := lwt_of (by decide +kernel) rfl
theorem w_mlS : Cond.static Lib.MathLoose.max_long.x ∈ lwt := lwt_of (by decide +kernel) rfl
theorem w_nlS : Cond.static Lib.MathLoose.min_long.x ∈ lwt := lwt_of (by decide +kernel) rfl
theorem w_maC : Cond.code Lib.Math.max.name Lib.Math.max.code 2 (some .int) ∈ lwt := lwt_of (by decide +kernel) rfl
theorem w_miC : Cond.code Lib.Math.min.name Lib.Math.min.code 2 (some .int) ∈ lwt := lwt_of (by decide +kernel) rfl
theorem w_mlC : Cond.code Lib.MathLoose.max_long.x Lib.MathLoose.max_long.code 4 (some .long) ∈ lwt := lwt_of (by decide +kernel) rfl
theorem w_nlC : Cond.code Lib.MathLoose.min_long.x Lib.MathLoose.min_long.code 4 (some .long) ∈ lwt := lwt_of (by decide +kernel) rfl
section STT
variable {p : Program} {l : Launch} {e : Env} {R : Room} {s : State} {m : MethodId} {args : Array Value} {below : List Frame} {meth : Method} {c : Code} {Q : State → Prop} {E : En} {cc : ByteArray} {own : String}

theorem s_invokedynamic {k : Nat} {nL f lw i pc v w i' : Nat} {inI : Bool} {pcs : List Nat} {x : Int} {ls ls' : Lz} {st st' : List Value} {M M' : Mm} {H : Heap} {locs : List Loc} {cells slots : Nat} {lsA : Array Slot} (hcR : cells ≤ R.cells) (hsR : slots ≤ R.slots) (C : Cx E own cc nL inI f lw p R s m args meth c) (hdg : decode cc pc = .ok (rlI pcs pc (.invokedynamic k) v x, lnI (.invokedynamic k) v x)) (hwd : wdI own inI f lw pcs pc (.invokedynamic k) v x w = true) (hnx : pcs[i + 1]? = some (pc + lnI (.invokedynamic k) v x)) (h : st2 (.invokedynamic k) i ls st M = some (true, i', ls', st', M')) (hX : Hx E s H locs M) (hL : Lr E nL lsA ls) (hok : Lok ls) (kk : Kk p l e R s m args below meth c E nL pcs cells slots Q i' ls' st' M') : W p l e R s m args below meth c H locs cells slots Q (F0 m pc lsA (st.map (vmp E))) := by
  obtain ⟨hx, hb, hml, hown, hts, ⟨hK, hNw⟩, hXF, hbase, hini, hfr, hlo⟩ := C
  have hE := hXF.2.2.2.2.2.2
  have hw : (decide (1 ≤ f) && decide (80 ≤ lw) && idW own x w k) = true := hwd
  rw [Bool.and_eq_true, Bool.and_eq_true, decide_eq_true_eq, decide_eq_true_eq] at hw
  obtain ⟨⟨hf1, hl80⟩, hw⟩ := hw
  have hsz : lsA.size = nL := hL.2.1
  have hmls : c.maxLocals = lsA.size := by rw [hml, hsz]
  have hcat : ∀ r : List Value, ((r.map (vmp E)).map fun v => v.category).sum = (r.map fun v => v.category).sum := fun r => by rw [vmp_cats E hE]
  have hnat : nativeFrameWords "java/lang/System" "arraycopy" 5 = 7 := by decide +kernel
  simp only [st2] at h
  split at h
  · rename_i a rest
    simp only [Option.some.injEq, Prod.mk.injEq, Bool.and_eq_true, decide_eq_true_eq] at h
    obtain ⟨⟨ha, hg⟩, rfl, rfl, rfl, rfl⟩ := h
    have K := kk H locs lsA _ hnx hX hL hok
    rw [List.map_cons, vmp_lt ha]
    exact W.objInit hx hb hown (hts _ (wAt_in hw)) (hts _ w_objI) (hts _ w_objC) (g := F0 m pc lsA (.ref (E.1 + a) :: rest.map (vmp E))) rfl hmls.symm rfl hdg (by omega) (by show 2 * 0 + _ + 12 ≤ _; rw [hcat]; omega) K
  · rename_i n dp a sp b rest
    split at h
    · rename_i n1 n0 hs hs0
      simp only [Option.some.injEq, Prod.mk.injEq, Bool.and_eq_true, decide_eq_true_eq] at h
      obtain ⟨⟨⟨⟨⟨⟨h1, h2⟩, h3⟩, h4⟩, h5⟩, hg⟩, rfl, rfl, rfl, rfl⟩ := h
      have he := wsO_get (E := E) hs
      rw [cel_0 (by decide)] at he
      have he0 := wsO_get (E := E) hs0
      rw [cel_0 (by decide)] at he0
      have ha := len_lt hX.2.2.1 hs
      have hb0 := len_lt hX.2.2.1 hs0
      rw [List.map_cons, List.map_cons, List.map_cons, List.map_cons, List.map_cons, vmp_lt ha, vmp_lt hb0]
      refine va_copyi hx hb hmls hown (hts _ (wAt_in hw)) (hts _ w_cpN) (hts _ w_cpS) (hts _ w_sys) hK hX.1 (wsO_D E M) hX.2.1 b a 0 0 he0 he rfl rfl rfl h1 h2 h3 h4 h5 (fun _ _ => rfl) (by omega) (by rw [hcat, hnat]; omega) hdg (fun H1 locs1 hP1 hD1 hS1 => ?_)
      rw [wsO_set (M' := wA M a (va_cpy (M.2.1 b) (M.2.1 a) sp.toNatClampNeg dp.toNatClampNeg n.toNatClampNeg)) hs rfl (by rw [cel_0 (by decide)]; show Sum.inl (_, _, Sum.inl (up1 M.2.1 a _ a)) = _; rw [up1_eq]) (fun b hb q' => cel_wA b hb q')] at hP1
      exact kk H1 locs1 lsA _ hnx (hX.keep hP1 hS1 rfl (up1_ne (x_20 ha)) (up1_ne (x_21 ha))) hL hok
    · cases h
  · rename_i n dp a sp b rest
    split at h
    · rename_i n1 n0 hs hs0
      simp only [Option.some.injEq, Prod.mk.injEq, Bool.and_eq_true, decide_eq_true_eq] at h
      obtain ⟨⟨⟨⟨⟨⟨⟨hfit, h1⟩, h2⟩, h3⟩, h4⟩, h5⟩, hg⟩, rfl, rfl, rfl, rfl⟩ := h
      have hfit : ∀ i, i < n.toNatClampNeg → fits .byte (.int (M.2.1 b (sp.toNatClampNeg + i))) = true := fun i hi => List.all_eq_true.mp hfit i (List.mem_range.mpr hi)
      have he := wsO_get (E := E) hs
      rw [cel_0 (by decide)] at he
      have he0 := wsO_get (E := E) hs0
      rw [cel_0 (by decide)] at he0
      have ha := len_lt hX.2.2.1 hs
      have hb0 := len_lt hX.2.2.1 hs0
      rw [List.map_cons, List.map_cons, List.map_cons, List.map_cons, List.map_cons, vmp_lt ha, vmp_lt hb0]
      refine va_copyi hx hb hmls hown (hts _ (wAt_in hw)) (hts _ w_cpN) (hts _ w_cpS) (hts _ w_sys) hK hX.1 (wsO_D E M) hX.2.1 b a 2 2 he0 he rfl rfl rfl h1 h2 h3 h4 h5 (fun i hi => hfit i hi) (by omega) (by rw [hcat, hnat]; omega) hdg (fun H1 locs1 hP1 hD1 hS1 => ?_)
      rw [wsO_set (M' := wA M a (va_cpy (M.2.1 b) (M.2.1 a) sp.toNatClampNeg dp.toNatClampNeg n.toNatClampNeg)) hs rfl (by rw [cel_0 (by decide)]; show Sum.inl (_, _, Sum.inl (up1 M.2.1 a _ a)) = _; rw [up1_eq]) (fun b hb q' => cel_wA b hb q')] at hP1
      exact kk H1 locs1 lsA _ hnx (hX.keep hP1 hS1 rfl (up1_ne (x_20 ha)) (up1_ne (x_21 ha))) hL hok
    · cases h
  · rename_i y x' rest
    simp only [Option.some.injEq, Prod.mk.injEq, decide_eq_true_eq] at h
    obtain ⟨hg, rfl, rfl, rfl, rfl⟩ := h
    exact va_mmax hx hb hmls hown (hts _ (wAt_in hw)) (hts _ w_maS) (hts _ w_mth) (hts _ w_maC) (by omega) (by rw [hcat]; omega) hcR hsR hdg (kk H locs lsA _ hnx hX hL hok)
  · rename_i y x' rest
    simp only [Option.some.injEq, Prod.mk.injEq, decide_eq_true_eq] at h
    obtain ⟨hg, rfl, rfl, rfl, rfl⟩ := h
    exact va_mmin hx hb hmls hown (hts _ (wAt_in hw)) (hts _ w_miS) (hts _ w_mth) (hts _ w_miC) (by omega) (by rw [hcat]; omega) hcR hsR hdg (kk H locs lsA _ hnx hX hL hok)
  · rename_i y x' rest
    simp only [Option.some.injEq, Prod.mk.injEq, decide_eq_true_eq] at h
    obtain ⟨hg, rfl, rfl, rfl, rfl⟩ := h
    exact va_mmax_long hx hb hmls hown (hts _ (wAt_in hw)) (hts _ w_mlS) (hts _ w_mth) (hts _ w_mlC) (by omega) (by rw [hcat]; omega) hcR hsR hdg (kk H locs lsA _ hnx hX hL hok)
  · rename_i y x' rest
    simp only [Option.some.injEq, Prod.mk.injEq, decide_eq_true_eq] at h
    obtain ⟨hg, rfl, rfl, rfl, rfl⟩ := h
    exact va_mmin_long hx hb hmls hown (hts _ (wAt_in hw)) (hts _ w_nlS) (hts _ w_mth) (hts _ w_nlC) (by omega) (by rw [hcat]; omega) hcR hsR hdg (kk H locs lsA _ hnx hX hL hok)
  · cases h

end STT
