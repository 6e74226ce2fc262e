/-! THE SIMULATION: what the small machine runs, the real one runs -/
abbrev mRows (q : Mi) : List Ie := q.2.2.2.2.2.2.2.2
theorem okR_spec {own : String} {inI : Bool} {cc : ByteArray} {f lw : Nat} {pcs : List Nat} {i : Nat} {r : Ie} (h : okR own inI cc f lw pcs i r = true) (hn : r.2.1 ≠ .nop) : decode cc r.1 = .ok (rlI pcs r.1 r.2.1 r.2.2.1 r.2.2.2.1, lnI r.2.1 r.2.2.1 r.2.2.2.1) ∧ wdI own inI f lw pcs r.1 r.2.1 r.2.2.1 r.2.2.2.1 r.2.2.2.2 = true ∧ (noF r.2.1 = false → pcs[i + 1]? = some (r.1 + lnI r.2.1 r.2.2.1 r.2.2.2.1)) := by
  unfold okR at h
  rw [Bool.and_eq_true] at h
  obtain ⟨h1, h2⟩ := h
  have h1' : decode cc r.1 = .ok (rlI pcs r.1 r.2.1 r.2.2.1 r.2.2.2.1, lnI r.2.1 r.2.2.1 r.2.2.2.1) ∧ wdI own inI f lw pcs r.1 r.2.1 r.2.2.1 r.2.2.2.1 r.2.2.2.2 = true := by
    split at h1
    · rename_i e; exact absurd e hn
    · rw [Bool.and_eq_true, decide_eq_true_eq] at h1; exact h1
  refine ⟨h1'.1, h1'.2, fun hf => ?_⟩
  split at h2
  · rename_i q hq
    rw [Bool.or_eq_true, decide_eq_true_eq] at h2
    rcases h2 with h2 | h2
    · rw [hq, h2]
    · split at h2
      · rename_i e; exact absurd e hn
      · cases h2
  · split at h2
    · rename_i e; rw [e] at hf; cases hf
    · rename_i e; rw [e] at hf; cases hf
    · rename_i e; rw [e] at hf; cases hf
    · rename_i e; rw [e] at hf; cases hf
    · rename_i e; rw [e] at hf; cases hf
    · cases h2
theorem okM_row {q : Mi} (h : okM q = true) {i : Nat} {r : Ie} (hr : (mRows q)[i]? = some r) : okR q.1.cls (q.1.name == "<init>") q.2.1 q.2.2.2.2.2.1 q.2.2.2.2.2.2.1 (pcz (mRows q)) i r = true := by
  unfold okM at h
  rw [Bool.and_eq_true] at h
  have hm : (r, i) ∈ (mRows q).zipIdx := by
    rw [List.mem_zipIdx_iff_getElem?]
    exact hr
  exact List.all_eq_true.mp h.1 _ hm
theorem mIns_row {k i : Nat} {ins : Instr} {q : Mi} (hq : mt[k]? = some q) (h : mIns k i = some ins) : ∃ r, (mRows q)[i]? = some r ∧ r.2.1 = ins := by
  unfold mIns mRow at h
  rw [hq] at h
  obtain ⟨r, h1, h2⟩ := Option.map_eq_some_iff.mp h
  exact ⟨r, h1, h2⟩
theorem pcz_at {rows : List Ie} {i : Nat} {r : Ie} (h : rows[i]? = some r) : (pcz rows)[i]? = some r.1 := by
  unfold pcz
  rw [List.getElem?_map, h]
  rfl
theorem mt_some {k : Nat} {i : Nat} {ins : Instr} (h : mIns k i = some ins) : ∃ q, mt[k]? = some q := by
  unfold mIns mRow at h
  cases hq : mt[k]? with
  | none => rw [hq] at h; cases h
  | some q => exact ⟨q, rfl⟩
/-- what a run's end needs -/
def Rq (p : Program) (l : Launch) (e : Env) (R : Room) (s : State) (m : MethodId) (args : Array Value) (below : List Frame) (meth : Method) (c : Code) (E : En) (cc : ByteArray) (k : Nat) (Q : State → Prop) (r : Option Value) (M' : Mm) (ce sl : Nat) : Prop :=
  ∀ (H' : Heap) (locs' : List Loc) (lsA' : Array Slot) (pc' : Nat) (ins : Instr) (st' : List Value), decode cc pc' = .ok (ins, 1) → rtn k ins st' = some r → Hx E s H' locs' M' → W p l e R s m args below meth c H' locs' ce sl Q (F0 m pc' lsA' (st'.map (vmp E)))
theorem rtn_one {k : Nat} {ins : Instr} {st : List Value} {r : Option Value} (h : rtn k ins st = some r) (pcs : List Nat) (pc v : Nat) (x : Int) : rlI pcs pc ins v x = ins ∧ lnI ins v x = 1 ∧ ins ≠ .nop := by
  unfold rtn at h
  split at h
  · exact ⟨rfl, rfl, by simp⟩
  · exact ⟨rfl, rfl, by simp⟩
  · exact ⟨rfl, rfl, by simp⟩
  · cases h
theorem cal2_spec {ins : Instr} {st : List Value} {M : Mm} {k' : Nat} {as rest : List Value} (h : cal2 ins st M = some (k', as, rest)) : st = as.reverse ++ rest ∧ as.length = mArg k' ∧ (eArg as).length ≤ mLoc k' ∧ (rest.map fun v => v.category).sum ≤ 8 ∧ (ins = .invokestatic k' ∨ (ins = .invokevirtual k' ∧ rcv k' M as = true) ∨ (ins = .invokespecial k' ∧ rcI as = true)) := by
  have key : ∀ k, mArg k ≤ st.length → as = (st.take (mArg k)).reverse → rest = st.drop (mArg k) → st = as.reverse ++ rest ∧ as.length = mArg k := by
    intro k h1 h2 h3
    subst h2; subst h3
    rw [List.reverse_reverse, List.take_append_drop, List.length_reverse, List.length_take]
    exact ⟨rfl, by omega⟩
  unfold cal2 at h
  split at h
  · split at h
    · rename_i hc
      simp only [Option.some.injEq, Prod.mk.injEq] at h
      obtain ⟨rfl, rfl, rfl⟩ := h
      exact ⟨(key _ hc.1 rfl rfl).1, (key _ hc.1 rfl rfl).2, hc.2.1, hc.2.2, Or.inl rfl⟩
    · cases h
  · split at h
    · rename_i hc
      simp only [Option.some.injEq, Prod.mk.injEq] at h
      obtain ⟨rfl, rfl, rfl⟩ := h
      exact ⟨(key _ hc.1 rfl rfl).1, (key _ hc.1 rfl rfl).2, hc.2.1, hc.2.2.1, Or.inr (Or.inr ⟨rfl, hc.2.2.2⟩)⟩
    · cases h
  · split at h
    · rename_i hc
      simp only [Option.some.injEq, Prod.mk.injEq] at h
      obtain ⟨rfl, rfl, rfl⟩ := h
      exact ⟨(key _ hc.1 rfl rfl).1, (key _ hc.1 rfl rfl).2, hc.2.1, hc.2.2.1, Or.inr (Or.inl ⟨rfl, hc.2.2.2⟩)⟩
    · cases h
  · cases h
set_option maxHeartbeats 1000000 in
theorem sim (hall : ∀ q ∈ mt, okM q = true) : ∀ (n : Nat) {k i : Nat} {ls : Lz} {st : List Value} {M : Mm} {r : Option Value} {M' : Mm}, run n k i ls st M = some (r, M') → ∀ (q : Mi), mt[k]? = some q → ∀ {p : Program} {l : Launch} {e : Env} {R : Room} {s : State} {m : MethodId} {args : Array Value} {below : List Frame} {meth : Method} {c : Code} {Q : State → Prop} {E : En} {H : Heap} {locs : List Loc} {cells slots ce sl pc : Nat} {lsA : Array Slot},
    Cx E q.1.cls q.2.1 q.2.2.1 (q.1.name == "<init>") q.2.2.2.2.2.1 q.2.2.2.2.2.2.1 p R s m args meth c → (pcz (mRows q))[i]? = some pc → Hx E s H locs M → Lr E q.2.2.1 lsA ls → Lok ls → s.heap.size + cells = E.1 + M.1.length → s.heap.size + ce = E.1 + M'.1.length → slots + mSl M' = sl + mSl M → ce ≤ R.cells → sl ≤ R.slots → Rq p l e R s m args below meth c E q.2.1 k Q r M' ce sl → W p l e R s m args below meth c H locs cells slots Q (F0 m pc lsA (st.map (vmp E))) := by
  intro n
  induction n with
  | zero => intro k i ls st M r M' h; cases h
  | succ n ih =>
    intro k i ls st M r M' h q hq p l e R s m args below meth c Q E H locs cells slots ce sl pc lsA C hpc hX hL hok hcnt hce hsl hcR hsR hQ
    have hgrow := run_grow h
    rw [run_s, runF] at h
    cases hi : mIns k i with
    | none => rw [hi] at h; cases h
    | some ins =>
      rw [hi] at h
      dsimp only at h hgrow
      obtain ⟨row, hrow, hins⟩ := mIns_row hq hi
      have hpc1 : pc = row.1 := by
        rw [pcz_at hrow] at hpc
        exact (Option.some.inj hpc).symm
      have hokr := okM_row (hall q (List.mem_of_getElem? hq)) hrow
      cases hr : rtn k ins st with
      | some r' =>
        rw [hr] at h
        obtain ⟨e1, e2, e3⟩ := rtn_one hr (pcz (mRows q)) row.1 row.2.2.1 row.2.2.2.1
        obtain ⟨hd, -, -⟩ := okR_spec hokr (by rw [hins]; exact e3)
        rw [hins, e1, e2] at hd
        simp only [Option.some.injEq, Prod.mk.injEq] at h
        obtain ⟨rfl, rfl⟩ := h
        have ec : cells = ce := by omega
        have es : slots = sl := by omega
        subst ec; subst es; subst hpc1
        exact hQ H locs lsA _ ins st hd hr hX
      | none =>
        rw [hr] at h
        dsimp only at h
        have hnop : ins ≠ .nop := by
          intro e9
          subst e9
          have h9 : cal2 .nop st M = none := rfl
          rw [h9] at h
          have h8 : st2 .nop i ls st M = none := rfl
          dsimp only at h
          rw [h8] at h
          cases h
        obtain ⟨hd, hwd, hnx⟩ := okR_spec hokr (by rw [hins]; exact hnop)
        rw [hins] at hd hwd hnx
        subst hpc1
        cases hc : cal2 ins st M with
        | some qq =>
          obtain ⟨k', as, rest⟩ := qq
          rw [hc] at h
          dsimp only at h
          cases hf : run n k' 0 (eLz (mLoc k') as) [] M with
          | none => rw [hf] at h; cases h
          | some y =>
            obtain ⟨r1, M1⟩ := y
            rw [hf] at h
            dsimp only at h
            obtain ⟨hst, hna, hea, hrs, hkind⟩ := cal2_spec hc
            have hg1 := run_grow hf
            have hg2 := run_grow h
            dsimp only at hg1 hg2
            -- the callee
            have hq' : ∃ q', mt[k']? = some q' := by
              cases hk' : mt[k']? with
              | some q' => exact ⟨q', rfl⟩
              | none =>
                exfalso
                cases n with
                | zero => cases hf
                | succ n =>
                  rw [run_s, runF] at hf
                  have e9 : mIns k' 0 = none := by unfold mIns mRow; rw [hk']; rfl
                  rw [e9] at hf
                  cases hf
            obtain ⟨q', hq'⟩ := hq'
            obtain ⟨hx, hb, hml, hown, hts, hTK, hXF, hbase, hini, hfr, hlo⟩ := id C
            have hE := hXF.2.2.2.2.2.2
            have hlk : ∃ kind, cLk q.1.cls k' row.2.2.1 row.2.2.2.1 row.2.2.2.2 q.2.2.2.2.2.1 q.2.2.2.2.2.2.1 kind = true ∧ ((kind = 0 ∧ decode q.2.1 row.1 = .ok (.invokestatic row.2.2.2.1.toNat, 3)) ∨ (kind = 1 ∧ decode q.2.1 row.1 = .ok (.invokevirtual row.2.2.2.1.toNat, 3) ∧ rcv k' M as = true) ∨ (kind = 2 ∧ decode q.2.1 row.1 = .ok (.invokespecial row.2.2.2.1.toNat, 3) ∧ rcI as = true)) ∧ (pcz (mRows q))[i + 1]? = some (row.1 + 3) := by
              rcases hkind with e9 | ⟨e9, h9⟩ | ⟨e9, h9⟩
              · subst e9; exact ⟨0, hwd, Or.inl ⟨rfl, hd⟩, hnx rfl⟩
              · subst e9; exact ⟨1, hwd, Or.inr (Or.inl ⟨rfl, hd, h9⟩), hnx rfl⟩
              · subst e9; exact ⟨2, hwd, Or.inr (Or.inr ⟨rfl, hd, h9⟩), hnx rfl⟩
            obtain ⟨kind, hlk, hdk, hnx3⟩ := hlk
            have hplain : plainName q'.1.cls = true := (cLk_spec hq' hlk).2.2.2.2.2.2.2.2.2.2.2.2.2
            have hmA : mArg k' = q'.2.2.2.2.1 := by unfold mArg; rw [hq']
            have hmL : mLoc k' = q'.2.2.1 := by unfold mLoc; rw [hq']
            rw [hmL] at hf hea
            have hM : Met l q'.1 (mWs q') (mRm q' (M1.1.length - M.1.length) (mSl M1 - mSl M)) (mPc E M as) (mQc E M1 r1) (M1.1.length - M.1.length) (mSl M1 - mSl M) (eA E) := by
              refine Met.ofW (cc := q'.2.1) (maxL := q'.2.2.1) (ret := q'.2.2.2.1) hplain rfl ?_
              intro p2 e2 s2 m2 args2 below2 meth2 c2 s12 B hml2 hP2
              obtain ⟨ea, hX2, hTK2, hXF2, hsz2⟩ := hP2
              subst ea
              rw [lg_entry_eq]
              have hokq := hall q' (List.mem_of_getElem? hq')
              have hp0 : (pcz (mRows q'))[0]? = some 0 := by
                unfold okM at hokq
                rw [Bool.and_eq_true, decide_eq_true_eq] at hokq
                exact hokq.2
              have C2 : Cx E q'.1.cls q'.2.1 q'.2.2.1 (q'.1.name == "<init>") q'.2.2.2.2.2.1 q'.2.2.2.2.2.2.1 p2 (headSpec (mWs q') (mRm q' (M1.1.length - M.1.length) (mSl M1 - mSl M))).room s2 m2 (as.map (vmp E)).toArray meth2 c2 :=
                ⟨B.exec, B.bytes, hml2, findClass_of_methodNamed B.named, fun w hw => twk_use (List.mem_filter.mp hw).2 (hTK2.2 w hw), hTK2, hXF2, by omega, fun hh => by rw [(name_of_methodNamed B.named B.method).1]; exact eq_of_beq hh, Nat.le_refl _, Nat.le_refl _⟩
              refine ih hf q' hq' (ce := M1.1.length - M.1.length) (sl := mSl M1 - mSl M) C2 hp0 hX2 (Lr.entry hE hea) (eLz_ok _ _) (by omega) (by omega) (by omega) (Nat.le_refl _) (Nat.le_refl _) ?_
              intro H' locs' lsA' pc' ins' st' hd' hr' hX'
              have hfree : ∀ x ∈ locs', eA E x.base := hX'.2.1.2.2
              have hpost : ∀ t : State, t.heap = H' → mQc E M1 r1 (as.map (vmp E)).toArray s2 (.returned (r1.map (vmp E))) t := fun t ht => ⟨rfl, by rw [ht]; exact ⟨hX'.1, ⟨hX'.2.1.1, hX'.2.1.2.1, fun _ h9 => by cases h9⟩, hX'.2.2⟩⟩
              have hlocks := B.notSynchronized
              have hret := B.returns
              unfold rtn at hr'
              split at hr'
              · rename_i v
                have hmr : mRet k' = q'.2.2.2.1 := by unfold mRet; rw [hq']
                rw [hmr] at hr'
                split at hr'
                · rename_i ty hty
                  split at hr'
                  · rename_i hnar
                    obtain rfl := Option.some.inj hr'
                    rw [hty] at hret
                    exact W.zret B.exec B.bytes hret hnar (fun t ht _ => hpost t ht) hfree hd'
                  · cases hr'
                · cases hr'
              · rename_i v
                split at hr'
                · rename_i hlr
                  obtain rfl := Option.some.inj hr'
                  have hmr : mRet k' = q'.2.2.2.1 := by unfold mRet; rw [hq']
                  rw [← hmr, hlr] at hret
                  exact W.lret B.exec B.bytes hret (fun t ht _ => hpost t ht) hfree hd'
                · cases hr'
              · split at hr'
                · rename_i hlr
                  obtain rfl := Option.some.inj hr'
                  have hmr : mRet k' = q'.2.2.2.1 := by unfold mRet; rw [hq']
                  rw [← hmr, hlr] at hret
                  exact W.vret B.exec B.bytes hret (fun t ht _ => hpost t ht) hfree hd'
                · cases hr'
              · cases hr'
            rw [hst]
            refine call_ok hq' hM C hlk hdk (by rw [← hmA]; exact hna) hrs hX hL hcnt (by omega) (by omega) (fun H' locs' hX' => ?_)
            exact ih h q hq (ce := ce) (sl := sl) C hnx3 hX' hL hok (by omega) hce (by omega) hcR hsR hQ
        | none =>
          rw [hc] at h
          dsimp only at h
          cases hs : st2 ins i ls st M with
          | none => rw [hs] at h; cases h
          | some qq =>
            obtain ⟨g, i', ls', st', M1⟩ := qq
            rw [hs] at h
            dsimp only at h
            by_cases hg : g = true
            · subst hg
              rw [if_pos rfl] at h
              have hg2 := run_grow h
              dsimp only at hg2
              by_cases hsm : M1.1 = M.1
              · refine st_ok (by omega) (by omega) C hd hwd hnx hs hX hL hok hsm ?_
                intro H' locs' lsA' pc' hpc' hX' hL' hok'
                have em : mSl M1 = mSl M := by unfold mSl; rw [hsm]
                exact ih h q hq (ce := ce) (sl := sl) C hpc' hX' hL' hok' (by rw [hsm]; exact hcnt) hce (by rw [em]; exact hsl) hcR hsR hQ
              · rcases st2_grow hs with e9 | ⟨t, z, e9⟩
                · exact absurd e9 hsm
                · dsimp only at e9
                  have hl1 : M1.1.length = M.1.length + 1 := by
                    rw [e9]
                    show (M.1 ++ [_]).length = _
                    rw [List.length_append]
                    rfl
                  have hz : mSl M1 = mSl M + z := by rw [e9]; exact mSl_new M t z
                  refine al_ok hz hcnt (by omega) (by omega) C hd hwd hnx hs hX hL hok hsm ?_
                  intro H' locs' lsA' pc' hpc' hX' hL' hok'
                  exact ih h q hq (ce := ce) (sl := sl) C hpc' hX' hL' hok' (by omega) hce (by omega) hcR hsR hQ
            · rw [if_neg hg] at h; cases h
