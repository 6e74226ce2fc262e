/-! one theorem an instruction: a step of the small machine is a step of the real one -/
theorem wAt_in {w : Nat} {c : Cond} (h : wAt w c = true) (hk : twk c = true := by rfl) : c ∈ lwt := lwt_of (List.mem_of_getElem? (of_decide_eq_true h)) hk
def Cx (E : En) (own : String) (cc : ByteArray) (nL : Nat) (inI : Bool) (f lw : Nat) (p : Program) (R : Room) (s : State) (m : MethodId) (args : Array Value) (meth : Method) (c : Code) : Prop :=
  p.tables.exec = Jvm.exec ∧ c.code = cc ∧ c.maxLocals = nL ∧ s.vm.findClass own = some m.cls ∧ (∀ w ∈ lwt, w.before args s = true) ∧ TK E s ∧ XF E s s.heap ∧ E.1 ≤ s.heap.size ∧ (inI = true → meth.name = "<init>") ∧ f ≤ R.frames ∧ lw ≤ R.locals
/-- what is behind the step -/
def Kk (p : Program) (l : Launch) (e : Env) (R : Room) (s : State) (m : MethodId) (args : Array Value) (below : List Frame) (meth : Method) (c : Code) (E : En) (nL : Nat) (pcs : List Nat) (cells slots : Nat) (Q : State → Prop) (i' : Nat) (ls' : Lz) (st' : List Value) (M' : Mm) : Prop :=
  ∀ (H' : Heap) (locs' : List Loc) (lsA' : Array Slot) (pc' : Nat), pcs[i']? = some pc' → Hx E s H' locs' M' → Lr E nL lsA' ls' → Lok ls' → W p l e R s m args below meth c H' locs' cells slots Q (F0 m pc' lsA' (st'.map (vmp E)))
theorem vmp_rn {E : En} (hE : ∀ e, E.2.2.2.2.1 e = .null ∨ ∃ a, E.2.2.2.2.1 e = .ref a) (x : Nat) : vmp E (.ref x) = .null ∨ ∃ a, vmp E (.ref x) = .ref a := by
  unfold vmp
  dsimp only
  split
  · exact Or.inr ⟨_, rfl⟩
  · exact hE _
theorem inb_in {j : Int32} {n : Nat} (h : inb j n = true) : vp_in j n := by
  unfold inb at h
  simp only [Bool.and_eq_true, decide_eq_true_eq] at h
  exact fun q => q.elim h.1 (fun q => absurd h.2 (Nat.not_lt.mpr q))
section STP
variable {p : Program} {l : Launch} {e : Env} {R : Room} {s : State} {m : MethodId} {args : Array Value} {below : List Frame} {meth : Method} {c : Code} {Q : State → Prop} {E : En} {cc : ByteArray} {own : String}

theorem s_iadd {nL f lw i pc v w i' : Nat} {inI : Bool} {pcs : List Nat} {x : Int} {ls ls' : Lz} {st st' : List Value} {M M' : Mm} {H : Heap} {locs : List Loc} {cells slots : Nat} {lsA : Array Slot} (C : Cx E own cc nL inI f lw p R s m args meth c) (hdg : decode cc pc = .ok (rlI pcs pc (.iadd) v x, lnI (.iadd) v x)) (hwd : wdI own inI f lw pcs pc (.iadd) v x w = true) (hnx : pcs[i + 1]? = some (pc + lnI (.iadd) v x)) (h : st2 (.iadd) i ls st M = some (true, i', ls', st', M')) (hX : Hx E s H locs M) (hL : Lr E nL lsA ls) (hok : Lok ls) (kk : Kk p l e R s m args below meth c E nL pcs cells slots Q i' ls' st' M') : W p l e R s m args below meth c H locs cells slots Q (F0 m pc lsA (st.map (vmp E))) := by
  obtain ⟨hx, hb, hml, hown, hts, ⟨hK, hNw⟩, hXF, hbase, hini, hfr, hlo⟩ := C
  have hE := hXF.2.2.2.2.2.2
  simp only [st2] at h
  split at h
  · simp only [Option.some.injEq, Prod.mk.injEq, true_and] at h
    obtain ⟨rfl, rfl, rfl, rfl⟩ := h
    exact lv_iadd hx hb hdg (kk H locs lsA _ hnx hX hL hok)
  · cases h

theorem s_isub {nL f lw i pc v w i' : Nat} {inI : Bool} {pcs : List Nat} {x : Int} {ls ls' : Lz} {st st' : List Value} {M M' : Mm} {H : Heap} {locs : List Loc} {cells slots : Nat} {lsA : Array Slot} (C : Cx E own cc nL inI f lw p R s m args meth c) (hdg : decode cc pc = .ok (rlI pcs pc (.isub) v x, lnI (.isub) v x)) (hwd : wdI own inI f lw pcs pc (.isub) v x w = true) (hnx : pcs[i + 1]? = some (pc + lnI (.isub) v x)) (h : st2 (.isub) i ls st M = some (true, i', ls', st', M')) (hX : Hx E s H locs M) (hL : Lr E nL lsA ls) (hok : Lok ls) (kk : Kk p l e R s m args below meth c E nL pcs cells slots Q i' ls' st' M') : W p l e R s m args below meth c H locs cells slots Q (F0 m pc lsA (st.map (vmp E))) := by
  obtain ⟨hx, hb, hml, hown, hts, ⟨hK, hNw⟩, hXF, hbase, hini, hfr, hlo⟩ := C
  have hE := hXF.2.2.2.2.2.2
  simp only [st2] at h
  split at h
  · simp only [Option.some.injEq, Prod.mk.injEq, true_and] at h
    obtain ⟨rfl, rfl, rfl, rfl⟩ := h
    exact lv_isub hx hb hdg (kk H locs lsA _ hnx hX hL hok)
  · cases h

theorem s_imul {nL f lw i pc v w i' : Nat} {inI : Bool} {pcs : List Nat} {x : Int} {ls ls' : Lz} {st st' : List Value} {M M' : Mm} {H : Heap} {locs : List Loc} {cells slots : Nat} {lsA : Array Slot} (C : Cx E own cc nL inI f lw p R s m args meth c) (hdg : decode cc pc = .ok (rlI pcs pc (.imul) v x, lnI (.imul) v x)) (hwd : wdI own inI f lw pcs pc (.imul) v x w = true) (hnx : pcs[i + 1]? = some (pc + lnI (.imul) v x)) (h : st2 (.imul) i ls st M = some (true, i', ls', st', M')) (hX : Hx E s H locs M) (hL : Lr E nL lsA ls) (hok : Lok ls) (kk : Kk p l e R s m args below meth c E nL pcs cells slots Q i' ls' st' M') : W p l e R s m args below meth c H locs cells slots Q (F0 m pc lsA (st.map (vmp E))) := by
  obtain ⟨hx, hb, hml, hown, hts, ⟨hK, hNw⟩, hXF, hbase, hini, hfr, hlo⟩ := C
  have hE := hXF.2.2.2.2.2.2
  simp only [st2] at h
  split at h
  · simp only [Option.some.injEq, Prod.mk.injEq, true_and] at h
    obtain ⟨rfl, rfl, rfl, rfl⟩ := h
    exact lv_imul hx hb hdg (kk H locs lsA _ hnx hX hL hok)
  · cases h

theorem s_iand {nL f lw i pc v w i' : Nat} {inI : Bool} {pcs : List Nat} {x : Int} {ls ls' : Lz} {st st' : List Value} {M M' : Mm} {H : Heap} {locs : List Loc} {cells slots : Nat} {lsA : Array Slot} (C : Cx E own cc nL inI f lw p R s m args meth c) (hdg : decode cc pc = .ok (rlI pcs pc (.iand) v x, lnI (.iand) v x)) (hwd : wdI own inI f lw pcs pc (.iand) v x w = true) (hnx : pcs[i + 1]? = some (pc + lnI (.iand) v x)) (h : st2 (.iand) i ls st M = some (true, i', ls', st', M')) (hX : Hx E s H locs M) (hL : Lr E nL lsA ls) (hok : Lok ls) (kk : Kk p l e R s m args below meth c E nL pcs cells slots Q i' ls' st' M') : W p l e R s m args below meth c H locs cells slots Q (F0 m pc lsA (st.map (vmp E))) := by
  obtain ⟨hx, hb, hml, hown, hts, ⟨hK, hNw⟩, hXF, hbase, hini, hfr, hlo⟩ := C
  have hE := hXF.2.2.2.2.2.2
  simp only [st2] at h
  split at h
  · simp only [Option.some.injEq, Prod.mk.injEq, true_and] at h
    obtain ⟨rfl, rfl, rfl, rfl⟩ := h
    exact lv_iand hx hb hdg (kk H locs lsA _ hnx hX hL hok)
  · cases h

theorem s_ior {nL f lw i pc v w i' : Nat} {inI : Bool} {pcs : List Nat} {x : Int} {ls ls' : Lz} {st st' : List Value} {M M' : Mm} {H : Heap} {locs : List Loc} {cells slots : Nat} {lsA : Array Slot} (C : Cx E own cc nL inI f lw p R s m args meth c) (hdg : decode cc pc = .ok (rlI pcs pc (.ior) v x, lnI (.ior) v x)) (hwd : wdI own inI f lw pcs pc (.ior) v x w = true) (hnx : pcs[i + 1]? = some (pc + lnI (.ior) v x)) (h : st2 (.ior) i ls st M = some (true, i', ls', st', M')) (hX : Hx E s H locs M) (hL : Lr E nL lsA ls) (hok : Lok ls) (kk : Kk p l e R s m args below meth c E nL pcs cells slots Q i' ls' st' M') : W p l e R s m args below meth c H locs cells slots Q (F0 m pc lsA (st.map (vmp E))) := by
  obtain ⟨hx, hb, hml, hown, hts, ⟨hK, hNw⟩, hXF, hbase, hini, hfr, hlo⟩ := C
  have hE := hXF.2.2.2.2.2.2
  simp only [st2] at h
  split at h
  · simp only [Option.some.injEq, Prod.mk.injEq, true_and] at h
    obtain ⟨rfl, rfl, rfl, rfl⟩ := h
    exact lv_ior hx hb hdg (kk H locs lsA _ hnx hX hL hok)
  · cases h

theorem s_ixor {nL f lw i pc v w i' : Nat} {inI : Bool} {pcs : List Nat} {x : Int} {ls ls' : Lz} {st st' : List Value} {M M' : Mm} {H : Heap} {locs : List Loc} {cells slots : Nat} {lsA : Array Slot} (C : Cx E own cc nL inI f lw p R s m args meth c) (hdg : decode cc pc = .ok (rlI pcs pc (.ixor) v x, lnI (.ixor) v x)) (hwd : wdI own inI f lw pcs pc (.ixor) v x w = true) (hnx : pcs[i + 1]? = some (pc + lnI (.ixor) v x)) (h : st2 (.ixor) i ls st M = some (true, i', ls', st', M')) (hX : Hx E s H locs M) (hL : Lr E nL lsA ls) (hok : Lok ls) (kk : Kk p l e R s m args below meth c E nL pcs cells slots Q i' ls' st' M') : W p l e R s m args below meth c H locs cells slots Q (F0 m pc lsA (st.map (vmp E))) := by
  obtain ⟨hx, hb, hml, hown, hts, ⟨hK, hNw⟩, hXF, hbase, hini, hfr, hlo⟩ := C
  have hE := hXF.2.2.2.2.2.2
  simp only [st2] at h
  split at h
  · simp only [Option.some.injEq, Prod.mk.injEq, true_and] at h
    obtain ⟨rfl, rfl, rfl, rfl⟩ := h
    exact lv_ixor hx hb hdg (kk H locs lsA _ hnx hX hL hok)
  · cases h

theorem s_ineg {nL f lw i pc v w i' : Nat} {inI : Bool} {pcs : List Nat} {x : Int} {ls ls' : Lz} {st st' : List Value} {M M' : Mm} {H : Heap} {locs : List Loc} {cells slots : Nat} {lsA : Array Slot} (C : Cx E own cc nL inI f lw p R s m args meth c) (hdg : decode cc pc = .ok (rlI pcs pc (.ineg) v x, lnI (.ineg) v x)) (hwd : wdI own inI f lw pcs pc (.ineg) v x w = true) (hnx : pcs[i + 1]? = some (pc + lnI (.ineg) v x)) (h : st2 (.ineg) i ls st M = some (true, i', ls', st', M')) (hX : Hx E s H locs M) (hL : Lr E nL lsA ls) (hok : Lok ls) (kk : Kk p l e R s m args below meth c E nL pcs cells slots Q i' ls' st' M') : W p l e R s m args below meth c H locs cells slots Q (F0 m pc lsA (st.map (vmp E))) := by
  obtain ⟨hx, hb, hml, hown, hts, ⟨hK, hNw⟩, hXF, hbase, hini, hfr, hlo⟩ := C
  have hE := hXF.2.2.2.2.2.2
  simp only [st2] at h
  split at h
  · simp only [Option.some.injEq, Prod.mk.injEq, true_and] at h
    obtain ⟨rfl, rfl, rfl, rfl⟩ := h
    exact lv_ineg hx hb hdg (kk H locs lsA _ hnx hX hL hok)
  · cases h

theorem s_ishl {nL f lw i pc v w i' : Nat} {inI : Bool} {pcs : List Nat} {x : Int} {ls ls' : Lz} {st st' : List Value} {M M' : Mm} {H : Heap} {locs : List Loc} {cells slots : Nat} {lsA : Array Slot} (C : Cx E own cc nL inI f lw p R s m args meth c) (hdg : decode cc pc = .ok (rlI pcs pc (.ishl) v x, lnI (.ishl) v x)) (hwd : wdI own inI f lw pcs pc (.ishl) v x w = true) (hnx : pcs[i + 1]? = some (pc + lnI (.ishl) v x)) (h : st2 (.ishl) i ls st M = some (true, i', ls', st', M')) (hX : Hx E s H locs M) (hL : Lr E nL lsA ls) (hok : Lok ls) (kk : Kk p l e R s m args below meth c E nL pcs cells slots Q i' ls' st' M') : W p l e R s m args below meth c H locs cells slots Q (F0 m pc lsA (st.map (vmp E))) := by
  obtain ⟨hx, hb, hml, hown, hts, ⟨hK, hNw⟩, hXF, hbase, hini, hfr, hlo⟩ := C
  have hE := hXF.2.2.2.2.2.2
  simp only [st2] at h
  split at h
  · simp only [Option.some.injEq, Prod.mk.injEq, true_and] at h
    obtain ⟨rfl, rfl, rfl, rfl⟩ := h
    exact lv_ishl hx hb hdg (kk H locs lsA _ hnx hX hL hok)
  · cases h

theorem s_ishr {nL f lw i pc v w i' : Nat} {inI : Bool} {pcs : List Nat} {x : Int} {ls ls' : Lz} {st st' : List Value} {M M' : Mm} {H : Heap} {locs : List Loc} {cells slots : Nat} {lsA : Array Slot} (C : Cx E own cc nL inI f lw p R s m args meth c) (hdg : decode cc pc = .ok (rlI pcs pc (.ishr) v x, lnI (.ishr) v x)) (hwd : wdI own inI f lw pcs pc (.ishr) v x w = true) (hnx : pcs[i + 1]? = some (pc + lnI (.ishr) v x)) (h : st2 (.ishr) i ls st M = some (true, i', ls', st', M')) (hX : Hx E s H locs M) (hL : Lr E nL lsA ls) (hok : Lok ls) (kk : Kk p l e R s m args below meth c E nL pcs cells slots Q i' ls' st' M') : W p l e R s m args below meth c H locs cells slots Q (F0 m pc lsA (st.map (vmp E))) := by
  obtain ⟨hx, hb, hml, hown, hts, ⟨hK, hNw⟩, hXF, hbase, hini, hfr, hlo⟩ := C
  have hE := hXF.2.2.2.2.2.2
  simp only [st2] at h
  split at h
  · simp only [Option.some.injEq, Prod.mk.injEq, true_and] at h
    obtain ⟨rfl, rfl, rfl, rfl⟩ := h
    exact lv_ishr hx hb hdg (kk H locs lsA _ hnx hX hL hok)
  · cases h

theorem s_ladd {nL f lw i pc v w i' : Nat} {inI : Bool} {pcs : List Nat} {x : Int} {ls ls' : Lz} {st st' : List Value} {M M' : Mm} {H : Heap} {locs : List Loc} {cells slots : Nat} {lsA : Array Slot} (C : Cx E own cc nL inI f lw p R s m args meth c) (hdg : decode cc pc = .ok (rlI pcs pc (.ladd) v x, lnI (.ladd) v x)) (hwd : wdI own inI f lw pcs pc (.ladd) v x w = true) (hnx : pcs[i + 1]? = some (pc + lnI (.ladd) v x)) (h : st2 (.ladd) i ls st M = some (true, i', ls', st', M')) (hX : Hx E s H locs M) (hL : Lr E nL lsA ls) (hok : Lok ls) (kk : Kk p l e R s m args below meth c E nL pcs cells slots Q i' ls' st' M') : W p l e R s m args below meth c H locs cells slots Q (F0 m pc lsA (st.map (vmp E))) := by
  obtain ⟨hx, hb, hml, hown, hts, ⟨hK, hNw⟩, hXF, hbase, hini, hfr, hlo⟩ := C
  have hE := hXF.2.2.2.2.2.2
  simp only [st2] at h
  split at h
  · simp only [Option.some.injEq, Prod.mk.injEq, true_and] at h
    obtain ⟨rfl, rfl, rfl, rfl⟩ := h
    exact lv_ladd hx hb hdg (kk H locs lsA _ hnx hX hL hok)
  · cases h

theorem s_lsub {nL f lw i pc v w i' : Nat} {inI : Bool} {pcs : List Nat} {x : Int} {ls ls' : Lz} {st st' : List Value} {M M' : Mm} {H : Heap} {locs : List Loc} {cells slots : Nat} {lsA : Array Slot} (C : Cx E own cc nL inI f lw p R s m args meth c) (hdg : decode cc pc = .ok (rlI pcs pc (.lsub) v x, lnI (.lsub) v x)) (hwd : wdI own inI f lw pcs pc (.lsub) v x w = true) (hnx : pcs[i + 1]? = some (pc + lnI (.lsub) v x)) (h : st2 (.lsub) i ls st M = some (true, i', ls', st', M')) (hX : Hx E s H locs M) (hL : Lr E nL lsA ls) (hok : Lok ls) (kk : Kk p l e R s m args below meth c E nL pcs cells slots Q i' ls' st' M') : W p l e R s m args below meth c H locs cells slots Q (F0 m pc lsA (st.map (vmp E))) := by
  obtain ⟨hx, hb, hml, hown, hts, ⟨hK, hNw⟩, hXF, hbase, hini, hfr, hlo⟩ := C
  have hE := hXF.2.2.2.2.2.2
  simp only [st2] at h
  split at h
  · simp only [Option.some.injEq, Prod.mk.injEq, true_and] at h
    obtain ⟨rfl, rfl, rfl, rfl⟩ := h
    exact lv_lsub hx hb hdg (kk H locs lsA _ hnx hX hL hok)
  · cases h

theorem s_lmul {nL f lw i pc v w i' : Nat} {inI : Bool} {pcs : List Nat} {x : Int} {ls ls' : Lz} {st st' : List Value} {M M' : Mm} {H : Heap} {locs : List Loc} {cells slots : Nat} {lsA : Array Slot} (C : Cx E own cc nL inI f lw p R s m args meth c) (hdg : decode cc pc = .ok (rlI pcs pc (.lmul) v x, lnI (.lmul) v x)) (hwd : wdI own inI f lw pcs pc (.lmul) v x w = true) (hnx : pcs[i + 1]? = some (pc + lnI (.lmul) v x)) (h : st2 (.lmul) i ls st M = some (true, i', ls', st', M')) (hX : Hx E s H locs M) (hL : Lr E nL lsA ls) (hok : Lok ls) (kk : Kk p l e R s m args below meth c E nL pcs cells slots Q i' ls' st' M') : W p l e R s m args below meth c H locs cells slots Q (F0 m pc lsA (st.map (vmp E))) := by
  obtain ⟨hx, hb, hml, hown, hts, ⟨hK, hNw⟩, hXF, hbase, hini, hfr, hlo⟩ := C
  have hE := hXF.2.2.2.2.2.2
  simp only [st2] at h
  split at h
  · simp only [Option.some.injEq, Prod.mk.injEq, true_and] at h
    obtain ⟨rfl, rfl, rfl, rfl⟩ := h
    exact lv_lmul hx hb hdg (kk H locs lsA _ hnx hX hL hok)
  · cases h

theorem s_lor {nL f lw i pc v w i' : Nat} {inI : Bool} {pcs : List Nat} {x : Int} {ls ls' : Lz} {st st' : List Value} {M M' : Mm} {H : Heap} {locs : List Loc} {cells slots : Nat} {lsA : Array Slot} (C : Cx E own cc nL inI f lw p R s m args meth c) (hdg : decode cc pc = .ok (rlI pcs pc (.lor) v x, lnI (.lor) v x)) (hwd : wdI own inI f lw pcs pc (.lor) v x w = true) (hnx : pcs[i + 1]? = some (pc + lnI (.lor) v x)) (h : st2 (.lor) i ls st M = some (true, i', ls', st', M')) (hX : Hx E s H locs M) (hL : Lr E nL lsA ls) (hok : Lok ls) (kk : Kk p l e R s m args below meth c E nL pcs cells slots Q i' ls' st' M') : W p l e R s m args below meth c H locs cells slots Q (F0 m pc lsA (st.map (vmp E))) := by
  obtain ⟨hx, hb, hml, hown, hts, ⟨hK, hNw⟩, hXF, hbase, hini, hfr, hlo⟩ := C
  have hE := hXF.2.2.2.2.2.2
  simp only [st2] at h
  split at h
  · simp only [Option.some.injEq, Prod.mk.injEq, true_and] at h
    obtain ⟨rfl, rfl, rfl, rfl⟩ := h
    exact lv_lor hx hb hdg (kk H locs lsA _ hnx hX hL hok)
  · cases h

theorem s_idiv {nL f lw i pc v w i' : Nat} {inI : Bool} {pcs : List Nat} {x : Int} {ls ls' : Lz} {st st' : List Value} {M M' : Mm} {H : Heap} {locs : List Loc} {cells slots : Nat} {lsA : Array Slot} (C : Cx E own cc nL inI f lw p R s m args meth c) (hdg : decode cc pc = .ok (rlI pcs pc (.idiv) v x, lnI (.idiv) v x)) (hwd : wdI own inI f lw pcs pc (.idiv) v x w = true) (hnx : pcs[i + 1]? = some (pc + lnI (.idiv) v x)) (h : st2 (.idiv) i ls st M = some (true, i', ls', st', M')) (hX : Hx E s H locs M) (hL : Lr E nL lsA ls) (hok : Lok ls) (kk : Kk p l e R s m args below meth c E nL pcs cells slots Q i' ls' st' M') : W p l e R s m args below meth c H locs cells slots Q (F0 m pc lsA (st.map (vmp E))) := by
  obtain ⟨hx, hb, hml, hown, hts, ⟨hK, hNw⟩, hXF, hbase, hini, hfr, hlo⟩ := C
  have hE := hXF.2.2.2.2.2.2
  simp only [st2] at h
  split at h
  · simp only [Option.some.injEq, Prod.mk.injEq, decide_eq_true_eq] at h
    obtain ⟨hg, rfl, rfl, rfl, rfl⟩ := h
    exact lv_idiv hx hb hdg hg (kk H locs lsA _ hnx hX hL hok)
  · cases h

theorem s_irem {nL f lw i pc v w i' : Nat} {inI : Bool} {pcs : List Nat} {x : Int} {ls ls' : Lz} {st st' : List Value} {M M' : Mm} {H : Heap} {locs : List Loc} {cells slots : Nat} {lsA : Array Slot} (C : Cx E own cc nL inI f lw p R s m args meth c) (hdg : decode cc pc = .ok (rlI pcs pc (.irem) v x, lnI (.irem) v x)) (hwd : wdI own inI f lw pcs pc (.irem) v x w = true) (hnx : pcs[i + 1]? = some (pc + lnI (.irem) v x)) (h : st2 (.irem) i ls st M = some (true, i', ls', st', M')) (hX : Hx E s H locs M) (hL : Lr E nL lsA ls) (hok : Lok ls) (kk : Kk p l e R s m args below meth c E nL pcs cells slots Q i' ls' st' M') : W p l e R s m args below meth c H locs cells slots Q (F0 m pc lsA (st.map (vmp E))) := by
  obtain ⟨hx, hb, hml, hown, hts, ⟨hK, hNw⟩, hXF, hbase, hini, hfr, hlo⟩ := C
  have hE := hXF.2.2.2.2.2.2
  simp only [st2] at h
  split at h
  · simp only [Option.some.injEq, Prod.mk.injEq, decide_eq_true_eq] at h
    obtain ⟨hg, rfl, rfl, rfl, rfl⟩ := h
    exact lv_irem hx hb hdg hg (kk H locs lsA _ hnx hX hL hok)
  · cases h

theorem s_ldiv {nL f lw i pc v w i' : Nat} {inI : Bool} {pcs : List Nat} {x : Int} {ls ls' : Lz} {st st' : List Value} {M M' : Mm} {H : Heap} {locs : List Loc} {cells slots : Nat} {lsA : Array Slot} (C : Cx E own cc nL inI f lw p R s m args meth c) (hdg : decode cc pc = .ok (rlI pcs pc (.ldiv) v x, lnI (.ldiv) v x)) (hwd : wdI own inI f lw pcs pc (.ldiv) v x w = true) (hnx : pcs[i + 1]? = some (pc + lnI (.ldiv) v x)) (h : st2 (.ldiv) i ls st M = some (true, i', ls', st', M')) (hX : Hx E s H locs M) (hL : Lr E nL lsA ls) (hok : Lok ls) (kk : Kk p l e R s m args below meth c E nL pcs cells slots Q i' ls' st' M') : W p l e R s m args below meth c H locs cells slots Q (F0 m pc lsA (st.map (vmp E))) := by
  obtain ⟨hx, hb, hml, hown, hts, ⟨hK, hNw⟩, hXF, hbase, hini, hfr, hlo⟩ := C
  have hE := hXF.2.2.2.2.2.2
  simp only [st2] at h
  split at h
  · simp only [Option.some.injEq, Prod.mk.injEq, decide_eq_true_eq] at h
    obtain ⟨hg, rfl, rfl, rfl, rfl⟩ := h
    exact lv_ldiv hx hb hdg hg (kk H locs lsA _ hnx hX hL hok)
  · cases h

theorem s_lrem {nL f lw i pc v w i' : Nat} {inI : Bool} {pcs : List Nat} {x : Int} {ls ls' : Lz} {st st' : List Value} {M M' : Mm} {H : Heap} {locs : List Loc} {cells slots : Nat} {lsA : Array Slot} (C : Cx E own cc nL inI f lw p R s m args meth c) (hdg : decode cc pc = .ok (rlI pcs pc (.lrem) v x, lnI (.lrem) v x)) (hwd : wdI own inI f lw pcs pc (.lrem) v x w = true) (hnx : pcs[i + 1]? = some (pc + lnI (.lrem) v x)) (h : st2 (.lrem) i ls st M = some (true, i', ls', st', M')) (hX : Hx E s H locs M) (hL : Lr E nL lsA ls) (hok : Lok ls) (kk : Kk p l e R s m args below meth c E nL pcs cells slots Q i' ls' st' M') : W p l e R s m args below meth c H locs cells slots Q (F0 m pc lsA (st.map (vmp E))) := by
  obtain ⟨hx, hb, hml, hown, hts, ⟨hK, hNw⟩, hXF, hbase, hini, hfr, hlo⟩ := C
  have hE := hXF.2.2.2.2.2.2
  simp only [st2] at h
  split at h
  · simp only [Option.some.injEq, Prod.mk.injEq, decide_eq_true_eq] at h
    obtain ⟨hg, rfl, rfl, rfl, rfl⟩ := h
    exact lv_lrem hx hb hdg hg (kk H locs lsA _ hnx hX hL hok)
  · cases h

theorem s_iushr {nL f lw i pc v w i' : Nat} {inI : Bool} {pcs : List Nat} {x : Int} {ls ls' : Lz} {st st' : List Value} {M M' : Mm} {H : Heap} {locs : List Loc} {cells slots : Nat} {lsA : Array Slot} (C : Cx E own cc nL inI f lw p R s m args meth c) (hdg : decode cc pc = .ok (rlI pcs pc (.iushr) v x, lnI (.iushr) v x)) (hwd : wdI own inI f lw pcs pc (.iushr) v x w = true) (hnx : pcs[i + 1]? = some (pc + lnI (.iushr) v x)) (h : st2 (.iushr) i ls st M = some (true, i', ls', st', M')) (hX : Hx E s H locs M) (hL : Lr E nL lsA ls) (hok : Lok ls) (kk : Kk p l e R s m args below meth c E nL pcs cells slots Q i' ls' st' M') : W p l e R s m args below meth c H locs cells slots Q (F0 m pc lsA (st.map (vmp E))) := by
  obtain ⟨hx, hb, hml, hown, hts, ⟨hK, hNw⟩, hXF, hbase, hini, hfr, hlo⟩ := C
  have hE := hXF.2.2.2.2.2.2
  simp only [st2] at h
  split at h
  · simp only [Option.some.injEq, Prod.mk.injEq, true_and] at h
    obtain ⟨rfl, rfl, rfl, rfl⟩ := h
    exact lv_iushr hx hb hdg rfl (kk H locs lsA _ hnx hX hL hok)
  · cases h

theorem s_i2l {nL f lw i pc v w i' : Nat} {inI : Bool} {pcs : List Nat} {x : Int} {ls ls' : Lz} {st st' : List Value} {M M' : Mm} {H : Heap} {locs : List Loc} {cells slots : Nat} {lsA : Array Slot} (C : Cx E own cc nL inI f lw p R s m args meth c) (hdg : decode cc pc = .ok (rlI pcs pc (.i2l) v x, lnI (.i2l) v x)) (hwd : wdI own inI f lw pcs pc (.i2l) v x w = true) (hnx : pcs[i + 1]? = some (pc + lnI (.i2l) v x)) (h : st2 (.i2l) i ls st M = some (true, i', ls', st', M')) (hX : Hx E s H locs M) (hL : Lr E nL lsA ls) (hok : Lok ls) (kk : Kk p l e R s m args below meth c E nL pcs cells slots Q i' ls' st' M') : W p l e R s m args below meth c H locs cells slots Q (F0 m pc lsA (st.map (vmp E))) := by
  obtain ⟨hx, hb, hml, hown, hts, ⟨hK, hNw⟩, hXF, hbase, hini, hfr, hlo⟩ := C
  have hE := hXF.2.2.2.2.2.2
  simp only [st2] at h
  split at h
  · simp only [Option.some.injEq, Prod.mk.injEq, true_and] at h
    obtain ⟨rfl, rfl, rfl, rfl⟩ := h
    exact lv_i2l hx hb hdg rfl (kk H locs lsA _ hnx hX hL hok)
  · cases h

theorem s_l2i {nL f lw i pc v w i' : Nat} {inI : Bool} {pcs : List Nat} {x : Int} {ls ls' : Lz} {st st' : List Value} {M M' : Mm} {H : Heap} {locs : List Loc} {cells slots : Nat} {lsA : Array Slot} (C : Cx E own cc nL inI f lw p R s m args meth c) (hdg : decode cc pc = .ok (rlI pcs pc (.l2i) v x, lnI (.l2i) v x)) (hwd : wdI own inI f lw pcs pc (.l2i) v x w = true) (hnx : pcs[i + 1]? = some (pc + lnI (.l2i) v x)) (h : st2 (.l2i) i ls st M = some (true, i', ls', st', M')) (hX : Hx E s H locs M) (hL : Lr E nL lsA ls) (hok : Lok ls) (kk : Kk p l e R s m args below meth c E nL pcs cells slots Q i' ls' st' M') : W p l e R s m args below meth c H locs cells slots Q (F0 m pc lsA (st.map (vmp E))) := by
  obtain ⟨hx, hb, hml, hown, hts, ⟨hK, hNw⟩, hXF, hbase, hini, hfr, hlo⟩ := C
  have hE := hXF.2.2.2.2.2.2
  simp only [st2] at h
  split at h
  · simp only [Option.some.injEq, Prod.mk.injEq, true_and] at h
    obtain ⟨rfl, rfl, rfl, rfl⟩ := h
    exact lv_l2i hx hb hdg rfl (kk H locs lsA _ hnx hX hL hok)
  · cases h

theorem s_i2b {nL f lw i pc v w i' : Nat} {inI : Bool} {pcs : List Nat} {x : Int} {ls ls' : Lz} {st st' : List Value} {M M' : Mm} {H : Heap} {locs : List Loc} {cells slots : Nat} {lsA : Array Slot} (C : Cx E own cc nL inI f lw p R s m args meth c) (hdg : decode cc pc = .ok (rlI pcs pc (.i2b) v x, lnI (.i2b) v x)) (hwd : wdI own inI f lw pcs pc (.i2b) v x w = true) (hnx : pcs[i + 1]? = some (pc + lnI (.i2b) v x)) (h : st2 (.i2b) i ls st M = some (true, i', ls', st', M')) (hX : Hx E s H locs M) (hL : Lr E nL lsA ls) (hok : Lok ls) (kk : Kk p l e R s m args below meth c E nL pcs cells slots Q i' ls' st' M') : W p l e R s m args below meth c H locs cells slots Q (F0 m pc lsA (st.map (vmp E))) := by
  obtain ⟨hx, hb, hml, hown, hts, ⟨hK, hNw⟩, hXF, hbase, hini, hfr, hlo⟩ := C
  have hE := hXF.2.2.2.2.2.2
  simp only [st2] at h
  split at h
  · simp only [Option.some.injEq, Prod.mk.injEq, true_and] at h
    obtain ⟨rfl, rfl, rfl, rfl⟩ := h
    exact lv_i2b hx hb hdg rfl (kk H locs lsA _ hnx hX hL hok)
  · cases h

theorem s_i2c {nL f lw i pc v w i' : Nat} {inI : Bool} {pcs : List Nat} {x : Int} {ls ls' : Lz} {st st' : List Value} {M M' : Mm} {H : Heap} {locs : List Loc} {cells slots : Nat} {lsA : Array Slot} (C : Cx E own cc nL inI f lw p R s m args meth c) (hdg : decode cc pc = .ok (rlI pcs pc (.i2c) v x, lnI (.i2c) v x)) (hwd : wdI own inI f lw pcs pc (.i2c) v x w = true) (hnx : pcs[i + 1]? = some (pc + lnI (.i2c) v x)) (h : st2 (.i2c) i ls st M = some (true, i', ls', st', M')) (hX : Hx E s H locs M) (hL : Lr E nL lsA ls) (hok : Lok ls) (kk : Kk p l e R s m args below meth c E nL pcs cells slots Q i' ls' st' M') : W p l e R s m args below meth c H locs cells slots Q (F0 m pc lsA (st.map (vmp E))) := by
  obtain ⟨hx, hb, hml, hown, hts, ⟨hK, hNw⟩, hXF, hbase, hini, hfr, hlo⟩ := C
  have hE := hXF.2.2.2.2.2.2
  simp only [st2] at h
  split at h
  · simp only [Option.some.injEq, Prod.mk.injEq, true_and] at h
    obtain ⟨rfl, rfl, rfl, rfl⟩ := h
    exact lv_i2c hx hb hdg rfl (kk H locs lsA _ hnx hX hL hok)
  · cases h

theorem s_lshl {nL f lw i pc v w i' : Nat} {inI : Bool} {pcs : List Nat} {x : Int} {ls ls' : Lz} {st st' : List Value} {M M' : Mm} {H : Heap} {locs : List Loc} {cells slots : Nat} {lsA : Array Slot} (C : Cx E own cc nL inI f lw p R s m args meth c) (hdg : decode cc pc = .ok (rlI pcs pc (.lshl) v x, lnI (.lshl) v x)) (hwd : wdI own inI f lw pcs pc (.lshl) v x w = true) (hnx : pcs[i + 1]? = some (pc + lnI (.lshl) v x)) (h : st2 (.lshl) i ls st M = some (true, i', ls', st', M')) (hX : Hx E s H locs M) (hL : Lr E nL lsA ls) (hok : Lok ls) (kk : Kk p l e R s m args below meth c E nL pcs cells slots Q i' ls' st' M') : W p l e R s m args below meth c H locs cells slots Q (F0 m pc lsA (st.map (vmp E))) := by
  obtain ⟨hx, hb, hml, hown, hts, ⟨hK, hNw⟩, hXF, hbase, hini, hfr, hlo⟩ := C
  have hE := hXF.2.2.2.2.2.2
  simp only [st2] at h
  split at h
  · simp only [Option.some.injEq, Prod.mk.injEq, true_and] at h
    obtain ⟨rfl, rfl, rfl, rfl⟩ := h
    exact lv_lshl hx hb hdg rfl (kk H locs lsA _ hnx hX hL hok)
  · cases h

theorem s_lcmp {nL f lw i pc v w i' : Nat} {inI : Bool} {pcs : List Nat} {x : Int} {ls ls' : Lz} {st st' : List Value} {M M' : Mm} {H : Heap} {locs : List Loc} {cells slots : Nat} {lsA : Array Slot} (C : Cx E own cc nL inI f lw p R s m args meth c) (hdg : decode cc pc = .ok (rlI pcs pc (.lcmp) v x, lnI (.lcmp) v x)) (hwd : wdI own inI f lw pcs pc (.lcmp) v x w = true) (hnx : pcs[i + 1]? = some (pc + lnI (.lcmp) v x)) (h : st2 (.lcmp) i ls st M = some (true, i', ls', st', M')) (hX : Hx E s H locs M) (hL : Lr E nL lsA ls) (hok : Lok ls) (kk : Kk p l e R s m args below meth c E nL pcs cells slots Q i' ls' st' M') : W p l e R s m args below meth c H locs cells slots Q (F0 m pc lsA (st.map (vmp E))) := by
  obtain ⟨hx, hb, hml, hown, hts, ⟨hK, hNw⟩, hXF, hbase, hini, hfr, hlo⟩ := C
  have hE := hXF.2.2.2.2.2.2
  simp only [st2] at h
  split at h
  · simp only [Option.some.injEq, Prod.mk.injEq, true_and] at h
    obtain ⟨rfl, rfl, rfl, rfl⟩ := h
    exact W.lcmp hx hb hdg (kk H locs lsA _ hnx hX hL hok)
  · cases h

theorem s_dup {nL f lw i pc v w i' : Nat} {inI : Bool} {pcs : List Nat} {x : Int} {ls ls' : Lz} {st st' : List Value} {M M' : Mm} {H : Heap} {locs : List Loc} {cells slots : Nat} {lsA : Array Slot} (C : Cx E own cc nL inI f lw p R s m args meth c) (hdg : decode cc pc = .ok (rlI pcs pc (.dup) v x, lnI (.dup) v x)) (hwd : wdI own inI f lw pcs pc (.dup) v x w = true) (hnx : pcs[i + 1]? = some (pc + lnI (.dup) v x)) (h : st2 (.dup) i ls st M = some (true, i', ls', st', M')) (hX : Hx E s H locs M) (hL : Lr E nL lsA ls) (hok : Lok ls) (kk : Kk p l e R s m args below meth c E nL pcs cells slots Q i' ls' st' M') : W p l e R s m args below meth c H locs cells slots Q (F0 m pc lsA (st.map (vmp E))) := by
  obtain ⟨hx, hb, hml, hown, hts, ⟨hK, hNw⟩, hXF, hbase, hini, hfr, hlo⟩ := C
  have hE := hXF.2.2.2.2.2.2
  simp only [st2] at h
  split at h
  · simp only [Option.some.injEq, Prod.mk.injEq, decide_eq_true_eq] at h
    obtain ⟨hg, rfl, rfl, rfl, rfl⟩ := h
    exact lv_dup hx hb hdg (by rw [vmp_cat E hE]; exact hg) (kk H locs lsA _ hnx hX hL hok)
  · cases h

theorem s_pop {nL f lw i pc v w i' : Nat} {inI : Bool} {pcs : List Nat} {x : Int} {ls ls' : Lz} {st st' : List Value} {M M' : Mm} {H : Heap} {locs : List Loc} {cells slots : Nat} {lsA : Array Slot} (C : Cx E own cc nL inI f lw p R s m args meth c) (hdg : decode cc pc = .ok (rlI pcs pc (.pop) v x, lnI (.pop) v x)) (hwd : wdI own inI f lw pcs pc (.pop) v x w = true) (hnx : pcs[i + 1]? = some (pc + lnI (.pop) v x)) (h : st2 (.pop) i ls st M = some (true, i', ls', st', M')) (hX : Hx E s H locs M) (hL : Lr E nL lsA ls) (hok : Lok ls) (kk : Kk p l e R s m args below meth c E nL pcs cells slots Q i' ls' st' M') : W p l e R s m args below meth c H locs cells slots Q (F0 m pc lsA (st.map (vmp E))) := by
  obtain ⟨hx, hb, hml, hown, hts, ⟨hK, hNw⟩, hXF, hbase, hini, hfr, hlo⟩ := C
  have hE := hXF.2.2.2.2.2.2
  simp only [st2] at h
  split at h
  · simp only [Option.some.injEq, Prod.mk.injEq, decide_eq_true_eq] at h
    obtain ⟨hg, rfl, rfl, rfl, rfl⟩ := h
    exact lv_pop hx hb hdg (by rw [vmp_cat E hE]; exact hg) (kk H locs lsA _ hnx hX hL hok)
  · cases h

theorem s_dup2 {nL f lw i pc v w i' : Nat} {inI : Bool} {pcs : List Nat} {x : Int} {ls ls' : Lz} {st st' : List Value} {M M' : Mm} {H : Heap} {locs : List Loc} {cells slots : Nat} {lsA : Array Slot} (C : Cx E own cc nL inI f lw p R s m args meth c) (hdg : decode cc pc = .ok (rlI pcs pc (.dup2) v x, lnI (.dup2) v x)) (hwd : wdI own inI f lw pcs pc (.dup2) v x w = true) (hnx : pcs[i + 1]? = some (pc + lnI (.dup2) v x)) (h : st2 (.dup2) i ls st M = some (true, i', ls', st', M')) (hX : Hx E s H locs M) (hL : Lr E nL lsA ls) (hok : Lok ls) (kk : Kk p l e R s m args below meth c E nL pcs cells slots Q i' ls' st' M') : W p l e R s m args below meth c H locs cells slots Q (F0 m pc lsA (st.map (vmp E))) := by
  obtain ⟨hx, hb, hml, hown, hts, ⟨hK, hNw⟩, hXF, hbase, hini, hfr, hlo⟩ := C
  have hE := hXF.2.2.2.2.2.2
  simp only [st2] at h
  split at h
  · simp only [Option.some.injEq, Prod.mk.injEq, Bool.and_eq_true, decide_eq_true_eq] at h
    obtain ⟨⟨hg, hg2⟩, rfl, rfl, rfl, rfl⟩ := h
    exact lv_dup2_11 hx hb hdg (by rw [vmp_cat E hE]; exact hg) (by rw [vmp_cat E hE]; exact hg2) (kk H locs lsA _ hnx hX hL hok)
  · cases h

theorem s_iconst {n : Int} {nL f lw i pc v w i' : Nat} {inI : Bool} {pcs : List Nat} {x : Int} {ls ls' : Lz} {st st' : List Value} {M M' : Mm} {H : Heap} {locs : List Loc} {cells slots : Nat} {lsA : Array Slot} (C : Cx E own cc nL inI f lw p R s m args meth c) (hdg : decode cc pc = .ok (rlI pcs pc (.iconst n) v x, lnI (.iconst n) v x)) (hwd : wdI own inI f lw pcs pc (.iconst n) v x w = true) (hnx : pcs[i + 1]? = some (pc + lnI (.iconst n) v x)) (h : st2 (.iconst n) i ls st M = some (true, i', ls', st', M')) (hX : Hx E s H locs M) (hL : Lr E nL lsA ls) (hok : Lok ls) (kk : Kk p l e R s m args below meth c E nL pcs cells slots Q i' ls' st' M') : W p l e R s m args below meth c H locs cells slots Q (F0 m pc lsA (st.map (vmp E))) := by
  obtain ⟨hx, hb, hml, hown, hts, ⟨hK, hNw⟩, hXF, hbase, hini, hfr, hlo⟩ := C
  have hE := hXF.2.2.2.2.2.2
  simp only [st2, Option.some.injEq, Prod.mk.injEq, true_and] at h
  obtain ⟨rfl, rfl, rfl, rfl⟩ := h
  rcases v with _ | _ | _ | _ | v
  · exact lv_iconst hx hb hdg rfl (kk H locs lsA _ hnx hX hL hok)
  · exact lv_bipush hx hb hdg (of_decide_eq_true hwd) (kk H locs lsA _ hnx hX hL hok)
  · exact lv_sipush hx hb hdg (of_decide_eq_true hwd) (kk H locs lsA _ hnx hX hL hok)
  · exact lv_ldc hx hb hown (hts _ (wAt_in hwd)) hdg (kk H locs lsA _ hnx hX hL hok)
  · exact lv_ldcw hx hb hown (hts _ (wAt_in hwd)) hdg (kk H locs lsA _ hnx hX hL hok)

theorem s_sipush {n : Int} {nL f lw i pc v w i' : Nat} {inI : Bool} {pcs : List Nat} {x : Int} {ls ls' : Lz} {st st' : List Value} {M M' : Mm} {H : Heap} {locs : List Loc} {cells slots : Nat} {lsA : Array Slot} (C : Cx E own cc nL inI f lw p R s m args meth c) (hdg : decode cc pc = .ok (rlI pcs pc (.sipush n) v x, lnI (.sipush n) v x)) (hwd : wdI own inI f lw pcs pc (.sipush n) v x w = true) (hnx : pcs[i + 1]? = some (pc + lnI (.sipush n) v x)) (h : st2 (.sipush n) i ls st M = some (true, i', ls', st', M')) (hX : Hx E s H locs M) (hL : Lr E nL lsA ls) (hok : Lok ls) (kk : Kk p l e R s m args below meth c E nL pcs cells slots Q i' ls' st' M') : W p l e R s m args below meth c H locs cells slots Q (F0 m pc lsA (st.map (vmp E))) := by
  obtain ⟨hx, hb, hml, hown, hts, ⟨hK, hNw⟩, hXF, hbase, hini, hfr, hlo⟩ := C
  have hE := hXF.2.2.2.2.2.2
  simp only [st2, Option.some.injEq, Prod.mk.injEq, true_and] at h
  obtain ⟨rfl, rfl, rfl, rfl⟩ := h
  rcases v with _ | _ | v
  · exact lv_lconst (n := 0) hx hb hdg (of_decide_eq_true hwd).symm (kk H locs lsA _ hnx hX hL hok)
  · exact lv_lconst (n := 1) hx hb hdg (of_decide_eq_true hwd).symm (kk H locs lsA _ hnx hX hL hok)
  · have e : lnI (.sipush n) (v + 2) x = 3 := by show (if v + 2 < 2 then 1 else 3) = 3; rw [if_neg (by omega)]
    rw [e] at hdg hnx
    exact lv_ldc2 hx hb hown (hts _ (wAt_in hwd)) hdg (kk H locs lsA _ hnx hX hL hok)

theorem s_ldc {k : Nat} {nL f lw i pc v w i' : Nat} {inI : Bool} {pcs : List Nat} {x : Int} {ls ls' : Lz} {st st' : List Value} {M M' : Mm} {H : Heap} {locs : List Loc} {cells slots : Nat} {lsA : Array Slot} (C : Cx E own cc nL inI f lw p R s m args meth c) (hdg : decode cc pc = .ok (rlI pcs pc (.ldc k) v x, lnI (.ldc k) v x)) (hwd : wdI own inI f lw pcs pc (.ldc k) v x w = true) (hnx : pcs[i + 1]? = some (pc + lnI (.ldc k) v x)) (h : st2 (.ldc k) i ls st M = some (true, i', ls', st', M')) (hX : Hx E s H locs M) (hL : Lr E nL lsA ls) (hok : Lok ls) (kk : Kk p l e R s m args below meth c E nL pcs cells slots Q i' ls' st' M') : W p l e R s m args below meth c H locs cells slots Q (F0 m pc lsA (st.map (vmp E))) := by
  obtain ⟨hx, hb, hml, hown, hts, ⟨hK, hNw⟩, hXF, hbase, hini, hfr, hlo⟩ := C
  have hE := hXF.2.2.2.2.2.2
  simp only [st2, Option.some.injEq, Prod.mk.injEq, true_and] at h
  obtain ⟨rfl, rfl, rfl, rfl⟩ := h
  have hw : (match strJS[k]? with
    | some q => decide (x.toNat = q.1) && decide (own = "DebtorsHouse$Reader")
    | none => false) = true := hwd
  cases hk : strJS[k]? with
  | none => rw [hk] at hw; cases hw
  | some q =>
    rw [hk] at hw
    simp only [Bool.and_eq_true, decide_eq_true_eq] at hw
    have hk6 : k < 6 := (List.getElem?_eq_some_iff.mp hk).1
    obtain ⟨a, v', e1, e2, hR, -⟩ := hXF.2.2.2.2.1 k hk6
    have eq : strJS.getD k (0, "") = q := by rw [List.getD_eq_getElem?_getD, hk]; rfl
    rw [eq, ← hw.1] at hR
    have ev : vmp E (.ref (mx + 1 + k)) = .ref a := by
      unfold vmp
      dsimp only
      rw [if_neg (show ¬ mx + 1 + k < mx by omega), show mx + 1 + k - mx = 1 + k by omega]
      exact e1
    have K := kk H locs lsA _ hnx hX hL hok
    rw [List.map_cons, ev] at K
    rw [hw.2] at hown
    exact va_ldcS hx hb hown hR hdg K

theorem s_iload {k : Nat} {nL f lw i pc v w i' : Nat} {inI : Bool} {pcs : List Nat} {x : Int} {ls ls' : Lz} {st st' : List Value} {M M' : Mm} {H : Heap} {locs : List Loc} {cells slots : Nat} {lsA : Array Slot} (C : Cx E own cc nL inI f lw p R s m args meth c) (hdg : decode cc pc = .ok (rlI pcs pc (.iload k) v x, lnI (.iload k) v x)) (hwd : wdI own inI f lw pcs pc (.iload k) v x w = true) (hnx : pcs[i + 1]? = some (pc + lnI (.iload k) v x)) (h : st2 (.iload k) i ls st M = some (true, i', ls', st', M')) (hX : Hx E s H locs M) (hL : Lr E nL lsA ls) (hok : Lok ls) (kk : Kk p l e R s m args below meth c E nL pcs cells slots Q i' ls' st' M') : W p l e R s m args below meth c H locs cells slots Q (F0 m pc lsA (st.map (vmp E))) := by
  obtain ⟨hx, hb, hml, hown, hts, ⟨hK, hNw⟩, hXF, hbase, hini, hfr, hlo⟩ := C
  have hE := hXF.2.2.2.2.2.2
  simp only [st2] at h
  split at h
  · rename_i y hy
    simp only [Option.some.injEq, Prod.mk.injEq, true_and] at h
    obtain ⟨rfl, rfl, rfl, rfl⟩ := h
    have hl := hL.at hy
    simp only [wdI, Bool.and_eq_true, Bool.or_eq_true, decide_eq_true_eq] at hwd
    rcases v with _ | _ | _ | _ | _ | v
    · exact lv_iload hx hb hdg hl (kk H locs lsA _ hnx hX hL hok)
    · obtain rfl : k = 0 := by omega
      exact lv_iload_n hx hb hdg rfl hl (kk H locs lsA _ hnx hX hL hok)
    · obtain rfl : k = 1 := by omega
      exact lv_iload_n hx hb hdg rfl hl (kk H locs lsA _ hnx hX hL hok)
    · obtain rfl : k = 2 := by omega
      exact lv_iload_n hx hb hdg rfl hl (kk H locs lsA _ hnx hX hL hok)
    · obtain rfl : k = 3 := by omega
      exact lv_iload_n hx hb hdg rfl hl (kk H locs lsA _ hnx hX hL hok)
    · omega
  · cases h

theorem s_lload {k : Nat} {nL f lw i pc v w i' : Nat} {inI : Bool} {pcs : List Nat} {x : Int} {ls ls' : Lz} {st st' : List Value} {M M' : Mm} {H : Heap} {locs : List Loc} {cells slots : Nat} {lsA : Array Slot} (C : Cx E own cc nL inI f lw p R s m args meth c) (hdg : decode cc pc = .ok (rlI pcs pc (.lload k) v x, lnI (.lload k) v x)) (hwd : wdI own inI f lw pcs pc (.lload k) v x w = true) (hnx : pcs[i + 1]? = some (pc + lnI (.lload k) v x)) (h : st2 (.lload k) i ls st M = some (true, i', ls', st', M')) (hX : Hx E s H locs M) (hL : Lr E nL lsA ls) (hok : Lok ls) (kk : Kk p l e R s m args below meth c E nL pcs cells slots Q i' ls' st' M') : W p l e R s m args below meth c H locs cells slots Q (F0 m pc lsA (st.map (vmp E))) := by
  obtain ⟨hx, hb, hml, hown, hts, ⟨hK, hNw⟩, hXF, hbase, hini, hfr, hlo⟩ := C
  have hE := hXF.2.2.2.2.2.2
  simp only [st2] at h
  split at h
  · rename_i y hy
    simp only [Option.some.injEq, Prod.mk.injEq, true_and] at h
    obtain ⟨rfl, rfl, rfl, rfl⟩ := h
    have hl := hL.at hy
    simp only [wdI, Bool.and_eq_true, Bool.or_eq_true, decide_eq_true_eq] at hwd
    rcases v with _ | _ | _ | _ | _ | v
    · exact lv_lload hx hb hdg hl (kk H locs lsA _ hnx hX hL hok)
    · obtain rfl : k = 0 := by omega
      exact lv_lload_n hx hb hdg rfl hl (kk H locs lsA _ hnx hX hL hok)
    · obtain rfl : k = 1 := by omega
      exact lv_lload_n hx hb hdg rfl hl (kk H locs lsA _ hnx hX hL hok)
    · obtain rfl : k = 2 := by omega
      exact lv_lload_n hx hb hdg rfl hl (kk H locs lsA _ hnx hX hL hok)
    · obtain rfl : k = 3 := by omega
      exact lv_lload_n hx hb hdg rfl hl (kk H locs lsA _ hnx hX hL hok)
    · omega
  · cases h

theorem s_aload {k : Nat} {nL f lw i pc v w i' : Nat} {inI : Bool} {pcs : List Nat} {x : Int} {ls ls' : Lz} {st st' : List Value} {M M' : Mm} {H : Heap} {locs : List Loc} {cells slots : Nat} {lsA : Array Slot} (C : Cx E own cc nL inI f lw p R s m args meth c) (hdg : decode cc pc = .ok (rlI pcs pc (.aload k) v x, lnI (.aload k) v x)) (hwd : wdI own inI f lw pcs pc (.aload k) v x w = true) (hnx : pcs[i + 1]? = some (pc + lnI (.aload k) v x)) (h : st2 (.aload k) i ls st M = some (true, i', ls', st', M')) (hX : Hx E s H locs M) (hL : Lr E nL lsA ls) (hok : Lok ls) (kk : Kk p l e R s m args below meth c E nL pcs cells slots Q i' ls' st' M') : W p l e R s m args below meth c H locs cells slots Q (F0 m pc lsA (st.map (vmp E))) := by
  obtain ⟨hx, hb, hml, hown, hts, ⟨hK, hNw⟩, hXF, hbase, hini, hfr, hlo⟩ := C
  have hE := hXF.2.2.2.2.2.2
  have key : ∀ y : Value, lzg ls k = some y → (vmp E y = .null ∨ ∃ a, vmp E y = .ref a) → i' = i + 1 → ls' = ls → st' = y :: st → M' = M → W p l e R s m args below meth c H locs cells slots Q (F0 m pc lsA (st.map (vmp E))) := by
    intro y hy hyv e1 e2 e3 e4
    subst e1; subst e2; subst e3; subst e4
    have hl := hL.at hy
    have K := kk H locs lsA _ hnx hX hL hok
    rw [List.map_cons] at K
    simp only [wdI, Bool.and_eq_true, Bool.or_eq_true, decide_eq_true_eq] at hwd
    rcases hyv with e | ⟨a, e⟩
    · rw [e] at hl K
      rcases v with _ | _ | _ | _ | _ | v
      · exact lv_aloadN hx hb hdg hl K
      · obtain rfl : k = 0 := by omega
        exact lv_aload_nN hx hb hdg rfl hl K
      · obtain rfl : k = 1 := by omega
        exact lv_aload_nN hx hb hdg rfl hl K
      · obtain rfl : k = 2 := by omega
        exact lv_aload_nN hx hb hdg rfl hl K
      · obtain rfl : k = 3 := by omega
        exact lv_aload_nN hx hb hdg rfl hl K
      · omega
    · rw [e] at hl K
      rcases v with _ | _ | _ | _ | _ | v
      · exact lv_aload hx hb hdg hl K
      · obtain rfl : k = 0 := by omega
        exact lv_aload_n hx hb hdg rfl hl K
      · obtain rfl : k = 1 := by omega
        exact lv_aload_n hx hb hdg rfl hl K
      · obtain rfl : k = 2 := by omega
        exact lv_aload_n hx hb hdg rfl hl K
      · obtain rfl : k = 3 := by omega
        exact lv_aload_n hx hb hdg rfl hl K
      · omega
  simp only [st2] at h
  split at h
  · rename_i y hy
    simp only [Option.some.injEq, Prod.mk.injEq, true_and] at h
    exact key _ hy (vmp_rn hE y) h.1.symm h.2.1.symm h.2.2.1.symm h.2.2.2.symm
  · rename_i hy
    simp only [Option.some.injEq, Prod.mk.injEq, true_and] at h
    exact key _ hy (Or.inl rfl) h.1.symm h.2.1.symm h.2.2.1.symm h.2.2.2.symm
  · cases h

theorem s_istore {k : Nat} {nL f lw i pc v w i' : Nat} {inI : Bool} {pcs : List Nat} {x : Int} {ls ls' : Lz} {st st' : List Value} {M M' : Mm} {H : Heap} {locs : List Loc} {cells slots : Nat} {lsA : Array Slot} (C : Cx E own cc nL inI f lw p R s m args meth c) (hdg : decode cc pc = .ok (rlI pcs pc (.istore k) v x, lnI (.istore k) v x)) (hwd : wdI own inI f lw pcs pc (.istore k) v x w = true) (hnx : pcs[i + 1]? = some (pc + lnI (.istore k) v x)) (h : st2 (.istore k) i ls st M = some (true, i', ls', st', M')) (hX : Hx E s H locs M) (hL : Lr E nL lsA ls) (hok : Lok ls) (kk : Kk p l e R s m args below meth c E nL pcs cells slots Q i' ls' st' M') : W p l e R s m args below meth c H locs cells slots Q (F0 m pc lsA (st.map (vmp E))) := by
  obtain ⟨hx, hb, hml, hown, hts, ⟨hK, hNw⟩, hXF, hbase, hini, hfr, hlo⟩ := C
  have hE := hXF.2.2.2.2.2.2
  simp only [st2] at h
  split at h
  · simp only [Option.some.injEq, Prod.mk.injEq, decide_eq_true_eq] at h
    obtain ⟨hg, rfl, rfl, rfl, rfl⟩ := h
    have hn := hg
    rw [hL.1] at hn
    simp only [wdI, Bool.and_eq_true, Bool.or_eq_true, decide_eq_true_eq] at hwd
    rcases v with _ | _ | _ | _ | _ | v
    · exact lv_istore hx hb hdg hL.2 hn rfl (fun ls' h' => kk H locs ls' _ hnx hX (hL.put1 hE hok hg h') (hok.put hg (Or.inl ⟨_, rfl⟩)))
    · obtain rfl : k = 0 := by omega
      exact lv_istore_n hx hb hdg rfl hL.2 hn rfl (fun ls' h' => kk H locs ls' _ hnx hX (hL.put1 hE hok hg h') (hok.put hg (Or.inl ⟨_, rfl⟩)))
    · obtain rfl : k = 1 := by omega
      exact lv_istore_n hx hb hdg rfl hL.2 hn rfl (fun ls' h' => kk H locs ls' _ hnx hX (hL.put1 hE hok hg h') (hok.put hg (Or.inl ⟨_, rfl⟩)))
    · obtain rfl : k = 2 := by omega
      exact lv_istore_n hx hb hdg rfl hL.2 hn rfl (fun ls' h' => kk H locs ls' _ hnx hX (hL.put1 hE hok hg h') (hok.put hg (Or.inl ⟨_, rfl⟩)))
    · obtain rfl : k = 3 := by omega
      exact lv_istore_n hx hb hdg rfl hL.2 hn rfl (fun ls' h' => kk H locs ls' _ hnx hX (hL.put1 hE hok hg h') (hok.put hg (Or.inl ⟨_, rfl⟩)))
    · omega
  · cases h

theorem s_lstore {k : Nat} {nL f lw i pc v w i' : Nat} {inI : Bool} {pcs : List Nat} {x : Int} {ls ls' : Lz} {st st' : List Value} {M M' : Mm} {H : Heap} {locs : List Loc} {cells slots : Nat} {lsA : Array Slot} (C : Cx E own cc nL inI f lw p R s m args meth c) (hdg : decode cc pc = .ok (rlI pcs pc (.lstore k) v x, lnI (.lstore k) v x)) (hwd : wdI own inI f lw pcs pc (.lstore k) v x w = true) (hnx : pcs[i + 1]? = some (pc + lnI (.lstore k) v x)) (h : st2 (.lstore k) i ls st M = some (true, i', ls', st', M')) (hX : Hx E s H locs M) (hL : Lr E nL lsA ls) (hok : Lok ls) (kk : Kk p l e R s m args below meth c E nL pcs cells slots Q i' ls' st' M') : W p l e R s m args below meth c H locs cells slots Q (F0 m pc lsA (st.map (vmp E))) := by
  obtain ⟨hx, hb, hml, hown, hts, ⟨hK, hNw⟩, hXF, hbase, hini, hfr, hlo⟩ := C
  have hE := hXF.2.2.2.2.2.2
  simp only [st2] at h
  split at h
  · simp only [Option.some.injEq, Prod.mk.injEq, decide_eq_true_eq] at h
    obtain ⟨hg, rfl, rfl, rfl, rfl⟩ := h
    have hn := hg
    rw [hL.1] at hn
    simp only [wdI, Bool.and_eq_true, Bool.or_eq_true, decide_eq_true_eq] at hwd
    rcases v with _ | _ | _ | _ | _ | v
    · exact lv_lstore hx hb hdg hL.2 hn rfl (fun ls' h' => kk H locs ls' _ hnx hX (hL.put2 hE hok hg h') ((hok.put (by omega) (Or.inr (Or.inl ⟨_, rfl⟩))).none _))
    · obtain rfl : k = 0 := by omega
      exact lv_lstore_n hx hb hdg rfl hL.2 hn rfl (fun ls' h' => kk H locs ls' _ hnx hX (hL.put2 hE hok hg h') ((hok.put (by omega) (Or.inr (Or.inl ⟨_, rfl⟩))).none _))
    · obtain rfl : k = 1 := by omega
      exact lv_lstore_n hx hb hdg rfl hL.2 hn rfl (fun ls' h' => kk H locs ls' _ hnx hX (hL.put2 hE hok hg h') ((hok.put (by omega) (Or.inr (Or.inl ⟨_, rfl⟩))).none _))
    · obtain rfl : k = 2 := by omega
      exact lv_lstore_n hx hb hdg rfl hL.2 hn rfl (fun ls' h' => kk H locs ls' _ hnx hX (hL.put2 hE hok hg h') ((hok.put (by omega) (Or.inr (Or.inl ⟨_, rfl⟩))).none _))
    · obtain rfl : k = 3 := by omega
      exact lv_lstore_n hx hb hdg rfl hL.2 hn rfl (fun ls' h' => kk H locs ls' _ hnx hX (hL.put2 hE hok hg h') ((hok.put (by omega) (Or.inr (Or.inl ⟨_, rfl⟩))).none _))
    · omega
  · cases h

theorem s_astore {k : Nat} {nL f lw i pc v w i' : Nat} {inI : Bool} {pcs : List Nat} {x : Int} {ls ls' : Lz} {st st' : List Value} {M M' : Mm} {H : Heap} {locs : List Loc} {cells slots : Nat} {lsA : Array Slot} (C : Cx E own cc nL inI f lw p R s m args meth c) (hdg : decode cc pc = .ok (rlI pcs pc (.astore k) v x, lnI (.astore k) v x)) (hwd : wdI own inI f lw pcs pc (.astore k) v x w = true) (hnx : pcs[i + 1]? = some (pc + lnI (.astore k) v x)) (h : st2 (.astore k) i ls st M = some (true, i', ls', st', M')) (hX : Hx E s H locs M) (hL : Lr E nL lsA ls) (hok : Lok ls) (kk : Kk p l e R s m args below meth c E nL pcs cells slots Q i' ls' st' M') : W p l e R s m args below meth c H locs cells slots Q (F0 m pc lsA (st.map (vmp E))) := by
  obtain ⟨hx, hb, hml, hown, hts, ⟨hK, hNw⟩, hXF, hbase, hini, hfr, hlo⟩ := C
  have hE := hXF.2.2.2.2.2.2
  have key : ∀ (y : Value) (rest : List Value), st = y :: rest → (vmp E y = .null ∨ ∃ a, vmp E y = .ref a) → (y = .null ∨ ∃ z, y = .ref z) → k < ls.length → i' = i + 1 → ls' = lzp ls k y → st' = rest → M' = M → W p l e R s m args below meth c H locs cells slots Q (F0 m pc lsA (st.map (vmp E))) := by
    intro y rest e0 hyv hyf hg e1 e2 e3 e4
    subst e0; subst e1; subst e2; subst e3; subst e4
    have hn := hg
    rw [hL.1] at hn
    have hokp : Lok (lzp ls k y) := hok.put hg (Or.inr (Or.inr hyf))
    rw [List.map_cons]
    have K : ∀ ls' : Array Slot, lv_has ls' nL ((k, vmp E y) :: (asc E ls).filter (fun q => !(q.1 == k) && !(q.1 + 1 == k && q.2.category == 2))) → W p l e R s m args below meth c H locs cells slots Q (F0 m (pc + lnI (.astore k) v x) ls' (st'.map (vmp E))) := fun ls' h' => kk H locs ls' _ hnx hX (hL.put1 hE hok hg h') hokp
    simp only [wdI, Bool.and_eq_true, Bool.or_eq_true, decide_eq_true_eq] at hwd
    rcases hyv with e | ⟨a, e⟩
    · rw [e] at K ⊢
      rcases v with _ | _ | _ | _ | _ | v
      · exact lv_astoreN hx hb hdg hL.2 hn rfl K
      · obtain rfl : k = 0 := by omega
        exact lv_astore_nN hx hb hdg rfl hL.2 hn rfl K
      · obtain rfl : k = 1 := by omega
        exact lv_astore_nN hx hb hdg rfl hL.2 hn rfl K
      · obtain rfl : k = 2 := by omega
        exact lv_astore_nN hx hb hdg rfl hL.2 hn rfl K
      · obtain rfl : k = 3 := by omega
        exact lv_astore_nN hx hb hdg rfl hL.2 hn rfl K
      · omega
    · rw [e] at K ⊢
      rcases v with _ | _ | _ | _ | _ | v
      · exact lv_astore hx hb hdg hL.2 hn rfl K
      · obtain rfl : k = 0 := by omega
        exact lv_astore_n hx hb hdg rfl hL.2 hn rfl K
      · obtain rfl : k = 1 := by omega
        exact lv_astore_n hx hb hdg rfl hL.2 hn rfl K
      · obtain rfl : k = 2 := by omega
        exact lv_astore_n hx hb hdg rfl hL.2 hn rfl K
      · obtain rfl : k = 3 := by omega
        exact lv_astore_n hx hb hdg rfl hL.2 hn rfl K
      · omega
  simp only [st2] at h
  split at h
  · rename_i y rest
    simp only [Option.some.injEq, Prod.mk.injEq, decide_eq_true_eq] at h
    exact key _ _ rfl (vmp_rn hE y) (Or.inr ⟨_, rfl⟩) h.1 h.2.1.symm h.2.2.1.symm h.2.2.2.1.symm h.2.2.2.2.symm
  · simp only [Option.some.injEq, Prod.mk.injEq, decide_eq_true_eq] at h
    exact key _ _ rfl (Or.inl rfl) (Or.inl rfl) h.1 h.2.1.symm h.2.2.1.symm h.2.2.2.1.symm h.2.2.2.2.symm
  · cases h

theorem s_iinc {k : Nat} {n : Int} {nL f lw i pc v w i' : Nat} {inI : Bool} {pcs : List Nat} {x : Int} {ls ls' : Lz} {st st' : List Value} {M M' : Mm} {H : Heap} {locs : List Loc} {cells slots : Nat} {lsA : Array Slot} (C : Cx E own cc nL inI f lw p R s m args meth c) (hdg : decode cc pc = .ok (rlI pcs pc (.iinc k n) v x, lnI (.iinc k n) v x)) (hwd : wdI own inI f lw pcs pc (.iinc k n) v x w = true) (hnx : pcs[i + 1]? = some (pc + lnI (.iinc k n) v x)) (h : st2 (.iinc k n) i ls st M = some (true, i', ls', st', M')) (hX : Hx E s H locs M) (hL : Lr E nL lsA ls) (hok : Lok ls) (kk : Kk p l e R s m args below meth c E nL pcs cells slots Q i' ls' st' M') : W p l e R s m args below meth c H locs cells slots Q (F0 m pc lsA (st.map (vmp E))) := by
  obtain ⟨hx, hb, hml, hown, hts, ⟨hK, hNw⟩, hXF, hbase, hini, hfr, hlo⟩ := C
  have hE := hXF.2.2.2.2.2.2
  simp only [st2] at h
  split at h
  · rename_i y hy
    simp only [Option.some.injEq, Prod.mk.injEq, decide_eq_true_eq] at h
    obtain ⟨hg, rfl, rfl, rfl, rfl⟩ := h
    have hn := hg
    rw [hL.1] at hn
    have hm : (k, Value.int y) ∈ asc E ls := mem_asc.mpr ⟨_, hy, rfl⟩
    obtain ⟨j, hj⟩ := List.getElem?_of_mem hm
    exact lv_iinc hx hb hdg hL.2 hj rfl hn rfl (fun ls' h' => kk H locs ls' _ hnx hX (hL.put1 (v := .int (y + Int32.ofInt n)) hE hok hg h') (hok.put hg (Or.inl ⟨_, rfl⟩)))
  · cases h

theorem tgK_of {pcs : List Nat} {pc : Nat} {t x : Int} (h : tgK pcs pc t x = true) : ∃ q, pcs[t.toNat]? = some q ∧ (pc : Int) + x = (q : Int) := by
  unfold tgK at h
  cases hq : pcs[t.toNat]? with
  | none => rw [hq] at h; cases h
  | some q => rw [hq] at h; exact ⟨q, rfl, of_decide_eq_true h⟩

theorem s_ifCond {cd : ClassFile.Cond} {t : Int} {nL f lw i pc v w i' : Nat} {inI : Bool} {pcs : List Nat} {x : Int} {ls ls' : Lz} {st st' : List Value} {M M' : Mm} {H : Heap} {locs : List Loc} {cells slots : Nat} {lsA : Array Slot} (C : Cx E own cc nL inI f lw p R s m args meth c) (hdg : decode cc pc = .ok (rlI pcs pc (.ifCond cd t) v x, lnI (.ifCond cd t) v x)) (hwd : wdI own inI f lw pcs pc (.ifCond cd t) v x w = true) (hnx : pcs[i + 1]? = some (pc + lnI (.ifCond cd t) v x)) (h : st2 (.ifCond cd t) i ls st M = some (true, i', ls', st', M')) (hX : Hx E s H locs M) (hL : Lr E nL lsA ls) (hok : Lok ls) (kk : Kk p l e R s m args below meth c E nL pcs cells slots Q i' ls' st' M') : W p l e R s m args below meth c H locs cells slots Q (F0 m pc lsA (st.map (vmp E))) := by
  obtain ⟨hx, hb, hml, hown, hts, ⟨hK, hNw⟩, hXF, hbase, hini, hfr, hlo⟩ := C
  have hE := hXF.2.2.2.2.2.2
  simp only [st2] at h
  split at h
  · rename_i y rest
    simp only [Option.some.injEq, Prod.mk.injEq, true_and] at h
    obtain ⟨rfl, rfl, rfl, rfl⟩ := h
    obtain ⟨q, hq, ht⟩ := tgK_of hwd
    cases cd with
    | eq => exact lv_if_eq hx hb hdg ht (fun hc => kk H locs lsA _ (by rw [if_pos (show cmpZ .eq y = true from decide_eq_true hc)]; exact hq) hX hL hok) (fun hc => kk H locs lsA _ (by rw [if_neg (show ¬ cmpZ .eq y = true from fun z => hc (of_decide_eq_true z))]; exact hnx) hX hL hok)
    | ne => exact lv_if_ne hx hb hdg ht (fun hc => kk H locs lsA _ (by rw [if_pos (show cmpZ .ne y = true from decide_eq_true hc)]; exact hq) hX hL hok) (fun hc => kk H locs lsA _ (by rw [if_neg (show ¬ cmpZ .ne y = true from fun z => (of_decide_eq_true z) hc)]; exact hnx) hX hL hok)
    | lt => exact lv_if_lt hx hb hdg ht (fun hc => kk H locs lsA _ (by rw [if_pos (show cmpZ .lt y = true from decide_eq_true hc)]; exact hq) hX hL hok) (fun hc => kk H locs lsA _ (by rw [if_neg (show ¬ cmpZ .lt y = true from fun z => hc (of_decide_eq_true z))]; exact hnx) hX hL hok)
    | ge => exact lv_if_ge hx hb hdg ht (fun hc => kk H locs lsA _ (by rw [if_pos (show cmpZ .ge y = true from decide_eq_true hc)]; exact hq) hX hL hok) (fun hc => kk H locs lsA _ (by rw [if_neg (show ¬ cmpZ .ge y = true from fun z => hc (of_decide_eq_true z))]; exact hnx) hX hL hok)
    | gt => exact lv_if_gt hx hb hdg ht (fun hc => kk H locs lsA _ (by rw [if_pos (show cmpZ .gt y = true from decide_eq_true hc)]; exact hq) hX hL hok) (fun hc => kk H locs lsA _ (by rw [if_neg (show ¬ cmpZ .gt y = true from fun z => hc (of_decide_eq_true z))]; exact hnx) hX hL hok)
    | le => exact lv_if_le hx hb hdg ht (fun hc => kk H locs lsA _ (by rw [if_pos (show cmpZ .le y = true from decide_eq_true hc)]; exact hq) hX hL hok) (fun hc => kk H locs lsA _ (by rw [if_neg (show ¬ cmpZ .le y = true from fun z => hc (of_decide_eq_true z))]; exact hnx) hX hL hok)
  · cases h

theorem s_if_icmp {cd : ClassFile.Cond} {t : Int} {nL f lw i pc v w i' : Nat} {inI : Bool} {pcs : List Nat} {x : Int} {ls ls' : Lz} {st st' : List Value} {M M' : Mm} {H : Heap} {locs : List Loc} {cells slots : Nat} {lsA : Array Slot} (C : Cx E own cc nL inI f lw p R s m args meth c) (hdg : decode cc pc = .ok (rlI pcs pc (.if_icmp cd t) v x, lnI (.if_icmp cd t) v x)) (hwd : wdI own inI f lw pcs pc (.if_icmp cd t) v x w = true) (hnx : pcs[i + 1]? = some (pc + lnI (.if_icmp cd t) v x)) (h : st2 (.if_icmp cd t) i ls st M = some (true, i', ls', st', M')) (hX : Hx E s H locs M) (hL : Lr E nL lsA ls) (hok : Lok ls) (kk : Kk p l e R s m args below meth c E nL pcs cells slots Q i' ls' st' M') : W p l e R s m args below meth c H locs cells slots Q (F0 m pc lsA (st.map (vmp E))) := by
  obtain ⟨hx, hb, hml, hown, hts, ⟨hK, hNw⟩, hXF, hbase, hini, hfr, hlo⟩ := C
  have hE := hXF.2.2.2.2.2.2
  simp only [st2] at h
  split at h
  · rename_i y x' rest
    simp only [Option.some.injEq, Prod.mk.injEq, true_and] at h
    obtain ⟨rfl, rfl, rfl, rfl⟩ := h
    obtain ⟨q, hq, ht⟩ := tgK_of hwd
    cases cd with
    | eq => exact lv_icmp_eq hx hb hdg ht (fun hc => kk H locs lsA _ (by rw [if_pos (show cmpI .eq x' y = true from decide_eq_true hc)]; exact hq) hX hL hok) (fun hc => kk H locs lsA _ (by rw [if_neg (show ¬ cmpI .eq x' y = true from fun z => hc (of_decide_eq_true z))]; exact hnx) hX hL hok)
    | ne => exact lv_icmp_ne hx hb hdg ht (fun hc => kk H locs lsA _ (by rw [if_pos (show cmpI .ne x' y = true from decide_eq_true hc)]; exact hq) hX hL hok) (fun hc => kk H locs lsA _ (by rw [if_neg (show ¬ cmpI .ne x' y = true from fun z => (of_decide_eq_true z) hc)]; exact hnx) hX hL hok)
    | lt => exact lv_icmp_lt hx hb hdg ht (fun hc => kk H locs lsA _ (by rw [if_pos (show cmpI .lt x' y = true from decide_eq_true hc)]; exact hq) hX hL hok) (fun hc => kk H locs lsA _ (by rw [if_neg (show ¬ cmpI .lt x' y = true from fun z => hc (of_decide_eq_true z))]; exact hnx) hX hL hok)
    | ge => exact lv_icmp_ge hx hb hdg ht (fun hc => kk H locs lsA _ (by rw [if_pos (show cmpI .ge x' y = true from decide_eq_true hc)]; exact hq) hX hL hok) (fun hc => kk H locs lsA _ (by rw [if_neg (show ¬ cmpI .ge x' y = true from fun z => hc (of_decide_eq_true z))]; exact hnx) hX hL hok)
    | gt => exact lv_icmp_gt hx hb hdg ht (fun hc => kk H locs lsA _ (by rw [if_pos (show cmpI .gt x' y = true from decide_eq_true hc)]; exact hq) hX hL hok) (fun hc => kk H locs lsA _ (by rw [if_neg (show ¬ cmpI .gt x' y = true from fun z => hc (of_decide_eq_true z))]; exact hnx) hX hL hok)
    | le => exact lv_icmp_le hx hb hdg ht (fun hc => kk H locs lsA _ (by rw [if_pos (show cmpI .le x' y = true from decide_eq_true hc)]; exact hq) hX hL hok) (fun hc => kk H locs lsA _ (by rw [if_neg (show ¬ cmpI .le x' y = true from fun z => hc (of_decide_eq_true z))]; exact hnx) hX hL hok)
  · cases h

theorem s_goto {t : Int} {nL f lw i pc v w i' : Nat} {inI : Bool} {pcs : List Nat} {x : Int} {ls ls' : Lz} {st st' : List Value} {M M' : Mm} {H : Heap} {locs : List Loc} {cells slots : Nat} {lsA : Array Slot} (C : Cx E own cc nL inI f lw p R s m args meth c) (hdg : decode cc pc = .ok (rlI pcs pc (.goto t) v x, lnI (.goto t) v x)) (hwd : wdI own inI f lw pcs pc (.goto t) v x w = true) (h : st2 (.goto t) i ls st M = some (true, i', ls', st', M')) (hX : Hx E s H locs M) (hL : Lr E nL lsA ls) (hok : Lok ls) (kk : Kk p l e R s m args below meth c E nL pcs cells slots Q i' ls' st' M') : W p l e R s m args below meth c H locs cells slots Q (F0 m pc lsA (st.map (vmp E))) := by
  obtain ⟨hx, hb, hml, hown, hts, ⟨hK, hNw⟩, hXF, hbase, hini, hfr, hlo⟩ := C
  have hE := hXF.2.2.2.2.2.2
  simp only [st2, Option.some.injEq, Prod.mk.injEq, true_and] at h
  obtain ⟨rfl, rfl, rfl, rfl⟩ := h
  obtain ⟨q, hq, ht⟩ := tgK_of hwd
  exact lv_goto hx hb hdg ht (kk H locs lsA _ hq hX hL hok)

end STP
