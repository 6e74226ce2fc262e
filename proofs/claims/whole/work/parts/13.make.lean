/-! what makes cells -/
def mSl (M : Mm) : Nat := (M.1.map (fun q => q.2)).sum
theorem mSl_new (M : Mm) (t n : Nat) : mSl (mNew M t n) = mSl M + n := by
  unfold mSl mNew
  simp
theorem wsO_new {E : En} {M : Mm} {t n : Nat} : wsO E (mNew M t n) = wsO E M ++ [(E.1 + M.1.length, cel E (mNew M t n) M.1.length (t, n))] := by
  apply List.ext_getElem?
  intro b
  have hl : (wsO E M).length = M.1.length := by unfold wsO; rw [List.length_mapIdx]
  by_cases hb : b < M.1.length
  · rw [List.getElem?_append_left (by rw [hl]; exact hb)]
    unfold wsO
    rw [List.getElem?_mapIdx, List.getElem?_mapIdx]
    have e : (mNew M t n).1[b]? = M.1[b]? := List.getElem?_append_left hb
    rw [e]
    have hne : b ≠ M.1.length := by omega
    cases M.1[b]? with
    | none => rfl
    | some q =>
      simp only [Option.map_some]
      rw [cel_cong (M := M) (M' := mNew M t n) (up1_ne hne) (up1_ne hne) (up1_ne hne)]
  · rw [List.getElem?_append_right (by rw [hl]; omega), hl]
    by_cases he : b = M.1.length
    · subst he
      rw [Nat.sub_self]
      exact wsO_get (by show (M.1 ++ [(t, n)])[M.1.length]? = _; rw [List.getElem?_append_right (Nat.le_refl _), Nat.sub_self]; rfl)
    · rw [List.getElem?_eq_none (by unfold wsO; rw [List.length_mapIdx]; show (M.1 ++ [(t, n)]).length ≤ b; rw [List.length_append]; show M.1.length + 1 ≤ b; omega), List.getElem?_eq_none (by show 1 ≤ b - M.1.length; omega)]
theorem ra_eq {s : State} {cA cB : ClassId} {ty : FieldType} (h1 : va_RA s cA ty) (h2 : va_RA s cB ty) : cA = cB := by
  cases ty with
  | object C =>
    obtain ⟨_, _, -, -, -, e1⟩ := h1
    obtain ⟨_, _, -, -, -, e2⟩ := h2
    exact Option.some.inj (e1.symm.trans e2)
  | _ => exact Option.some.inj (Eq.trans (Eq.symm h1) h2)
theorem k_last {D : va_G} {cl : List vw_C} {tys : List (ClassId × FieldType)} {q : ClassId × FieldType} {s : State} (h : va_K D cl (tys ++ [q]) s) : va_RA s q.1 q.2 := (h.2 tys.length q (by rw [List.getElem?_append_right (Nat.le_refl _), Nat.sub_self]; rfl)).2
theorem cz_ini {ci : Nat} {C : String} {T : u_T} {N : Nat} (h : clz[ci]? = some (C, T, N)) : Cond.instantiable C N ∈ lwt ∧ Cond.initialized C ∈ lwt := by
  match ci, h with
  | 0, h => cases h; exact ⟨lwt_of (by decide +kernel) rfl, lwt_of (by decide +kernel) rfl⟩
  | 1, h => cases h; exact ⟨lwt_of (by decide +kernel) rfl, lwt_of (by decide +kernel) rfl⟩
  | 2, h => cases h; exact ⟨lwt_of (by decide +kernel) rfl, lwt_of (by decide +kernel) rfl⟩
  | 3, h => cases h; exact ⟨lwt_of (by decide +kernel) rfl, lwt_of (by decide +kernel) rfl⟩
  | 4, h => cases h; exact ⟨lwt_of (by decide +kernel) rfl, lwt_of (by decide +kernel) rfl⟩
  | 5, h => cases h; exact ⟨lwt_of (by decide +kernel) rfl, lwt_of (by decide +kernel) rfl⟩
  | 6, h => cases h; exact ⟨lwt_of (by decide +kernel) rfl, lwt_of (by decide +kernel) rfl⟩
  | 7, h => cases h; exact ⟨lwt_of (by decide +kernel) rfl, lwt_of (by decide +kernel) rfl⟩
  | 8, h => cases h; exact ⟨lwt_of (by decide +kernel) rfl, lwt_of (by decide +kernel) rfl⟩
  | 9, h => cases h; exact ⟨lwt_of (by decide +kernel) rfl, lwt_of (by decide +kernel) rfl⟩
  | 10, h => cases h; exact ⟨lwt_of (by decide +kernel) rfl, lwt_of (by decide +kernel) rfl⟩
  | 11, h => cases h; exact ⟨lwt_of (by decide +kernel) rfl, lwt_of (by decide +kernel) rfl⟩
  | 12, h => cases h; exact ⟨lwt_of (by decide +kernel) rfl, lwt_of (by decide +kernel) rfl⟩
  | k + 13, h => simp [clz] at h
theorem w_arI : Cond.arrayClass .int ∈ lwt := lwt_of (by decide +kernel) rfl
theorem w_arZ : Cond.arrayClass .boolean ∈ lwt := lwt_of (by decide +kernel) rfl
theorem w_arB : Cond.arrayClass .byte ∈ lwt := lwt_of (by decide +kernel) rfl
theorem w_arJ : Cond.arrayClass .long ∈ lwt := lwt_of (by decide +kernel) rfl
theorem w_arH : Cond.arrayOver (.object "DebtorsHouse$House") ∈ lwt := lwt_of (by decide +kernel) rfl
theorem w_arA : Cond.arrayOver (.object "DebtorsHouse$Act") ∈ lwt := lwt_of (by decide +kernel) rfl
theorem fs_new {E : En} {M : Mm} {a : Nat} {C : String} {T : u_T} {N ci : Nat} {kd : List Nat} (hc : clz[ci]? = some (C, T, N)) (hk : kdz[ci]? = some kd) (h1 : M.2.1 a = fun _ => 0) (h2 : M.2.2.1 a = fun _ => 0) (h3 : M.2.2.2 a = fun _ => none) : ∀ j, j < N → defaultValue (tyK (T j).2.2.1) = vp_V (fsv E M a kd) j := by
  intro j hj
  obtain ⟨hl, ht⟩ := kd_ok hc hk
  have hk2 := (ht j hj).2
  unfold vp_V
  rw [List.getD_eq_getElem?_getD, fsv_get hk2, h1, h2, h3]
  have hlt : kdOf (tyK (T j).2.2.1) ≠ 9 := by
    intro z
    rw [z] at hk2
    have hall : ∀ kd ∈ kdz, ∀ t ∈ kd, t ≠ 9 := by decide
    exact hall kd (List.mem_of_getElem? hk) 9 (List.mem_of_getElem? hk2) rfl
  generalize tyK (T j).2.2.1 = ty at hlt
  cases ty <;> first | rfl | exact absurd rfl hlt
section STM
variable {p : Program} {l : Launch} {e : Env} {R : Room} {s : State} {m : MethodId} {args : Array Value} {below : List Frame} {meth : Method} {c : Code} {Q : State → Prop} {E : En} {cc : ByteArray} {own : String}
theorem al_fix {locs : List Loc} {cells slots : Nat} {M : Mm} {q : Nat} {x : va_E} {H1 : Heap} {T : State} (hcnt : s.heap.size + cells = E.1 + M.1.length) (X : Stand p l e R s m args below meth c T locs (cells + 1) slots) (hT : T.heap = H1) (hP1 : va_P (eD E) clz (wsO E M ++ [(q, x)]) H1) (hD1 : va_D (eA E) (wsO E M ++ [(q, x)])) : q = E.1 + M.1.length := by
  have hl : (wsO E M).length = M.1.length := by unfold wsO; rw [List.length_mapIdx]
  have hlast : (wsO E M ++ [(q, x)])[M.1.length]? = some (q, x) := by rw [List.getElem?_append_right (by rw [hl]; exact Nat.le_refl _), hl, Nat.sub_self]; rfl
  have h1 : q < H1.size := (hP1 _ _ hlast).lt
  have h2 : H1.size ≤ s.heap.size + (cells + 1) := by rw [← hT]; exact X.heapSize
  have h3 : E.1 ≤ q := hD1.2 _ _ hlast
  rcases Nat.lt_or_ge q (E.1 + M.1.length) with h4 | h4
  · exfalso
    obtain ⟨j, hj⟩ : ∃ j, q = E.1 + j := ⟨q - E.1, by omega⟩
    have hjl : j < M.1.length := by omega
    have hge : (wsO E M ++ [(q, x)])[j]? = some (E.1 + j, cel E M j M.1[j]) := by
      rw [List.getElem?_append_left (by rw [hl]; exact hjl)]
      exact wsO_get (List.getElem?_eq_getElem hjl)
    have := hD1.1 j M.1.length _ _ hge hlast hj.symm
    omega
  · omega

theorem s_newarray {t : ArrayType} {nL f lw i pc v w i' : Nat} {inI : Bool} {pcs : List Nat} {x : Int} {ls ls' : Lz} {st st' : List Value} {M M' : Mm} {H : Heap} {locs : List Loc} {cells slots : Nat} {lsA : Array Slot} {z : Nat} (hz : mSl M' = mSl M + z) (hcnt : s.heap.size + cells = E.1 + M.1.length) (hcR : cells + 1 ≤ R.cells) (hsR : slots + z ≤ R.slots) (C : Cx E own cc nL inI f lw p R s m args meth c) (hdg : decode cc pc = .ok (rlI pcs pc (.newarray t) v x, lnI (.newarray t) v x)) (hwd : wdI own inI f lw pcs pc (.newarray t) v x w = true) (hnx : pcs[i + 1]? = some (pc + lnI (.newarray t) v x)) (h : st2 (.newarray t) i ls st M = some (true, i', ls', st', M')) (hX : Hx E s H locs M) (hL : Lr E nL lsA ls) (hok : Lok ls) (kk : Kk p l e R s m args below meth c E nL pcs (cells + 1) (slots + z) Q i' ls' st' M') : W p l e R s m args below meth c H locs cells slots Q (F0 m pc lsA (st.map (vmp E))) := by
  obtain ⟨hx, hb, hml, hown, hts, ⟨hK, hNw⟩, hXF, hbase, hini, hfr, hlo⟩ := C
  have hE := hXF.2.2.2.2.2.2
  have hA : ∀ q : Nat, s.heap.size ≤ q → eA E q := fun q hq => Nat.le_trans hbase hq
  simp only [st2] at h
  split at h
  · rename_i j rest
    split at h
    · simp only [Option.some.injEq, Prod.mk.injEq, Bool.and_eq_true, decide_eq_true_eq] at h
      obtain ⟨⟨⟨hn, hn2⟩, hlen⟩, rfl, rfl, rfl, rfl⟩ := h
      rw [mSl_new] at hz
      obtain rfl : z = j.toNatClampNeg := by omega
      refine va_newa (atype := .int) (a0 := (j.toNatClampNeg, .inl (fun _ => 0))) hx hb (hts _ w_arI) (ty := .int) rfl hK hX.1 (wsO_D E M) hX.2.1 hA (fun cA => rfl) hn rfl (by show j.toNatClampNeg * 4 ≤ _; omega) hcR hsR hdg (fun q cA H1 hK1 hP1 hD1 hS1 => ?_)
      have ecA : cA = E.2.2.2.1 0 := ra_eq (k_last hK1) (hK.2 0 _ rfl).2
      intro T hT X
      have eq := al_fix hcnt X hT hP1 hD1
      subst eq
      subst ecA
      have ew : wsO E (mNew M 0 j.toNatClampNeg) = wsO E M ++ [(E.1 + M.1.length, .inl (E.2.2.2.1 0, j.toNatClampNeg, .inl (fun _ => 0)))] := by
        rw [wsO_new]
        have e9 : cel E (mNew M 0 j.toNatClampNeg) M.1.length (0, j.toNatClampNeg) = .inl (E.2.2.2.1 0, j.toNatClampNeg, .inl (fun _ => 0)) := by
          rw [cel_0 (by decide)]
          show Sum.inl (_, _, Sum.inl (up1 M.2.1 M.1.length (fun _ => 0) M.1.length)) = _
          rw [up1_eq]
        rw [e9]
      rw [← ew] at hP1
      have hX' : Hx E s H1 locs (mNew M 0 j.toNatClampNeg) := ⟨hP1, hS1, by show (M.1 ++ [_]).length ≤ mx; rw [List.length_append]; exact hlen, (up1_ne (by omega)).trans hX.2.2.2.1, by show (up1 M.2.1 M.1.length _ (mx + 21) 0).toNatClampNeg = _; rw [up1_ne (by omega)]; exact hX.2.2.2.2⟩
      have K := kk H1 locs lsA _ hnx hX' hL hok
      rw [List.map_cons, vmp_lt hlen] at K
      exact K T hT X
    · simp only [Option.some.injEq, Prod.mk.injEq, Bool.and_eq_true, decide_eq_true_eq] at h
      obtain ⟨⟨⟨hn, hn2⟩, hlen⟩, rfl, rfl, rfl, rfl⟩ := h
      rw [mSl_new] at hz
      obtain rfl : z = j.toNatClampNeg := by omega
      refine va_newa (atype := .boolean) (a0 := (j.toNatClampNeg, .inl (fun _ => 0))) hx hb (hts _ w_arZ) (ty := .boolean) rfl hK hX.1 (wsO_D E M) hX.2.1 hA (fun cA => rfl) hn rfl (by show j.toNatClampNeg * 1 ≤ _; omega) hcR hsR hdg (fun q cA H1 hK1 hP1 hD1 hS1 => ?_)
      have ecA : cA = E.2.2.2.1 1 := ra_eq (k_last hK1) (hK.2 1 _ rfl).2
      intro T hT X
      have eq := al_fix hcnt X hT hP1 hD1
      subst eq
      subst ecA
      have ew : wsO E (mNew M 1 j.toNatClampNeg) = wsO E M ++ [(E.1 + M.1.length, .inl (E.2.2.2.1 1, j.toNatClampNeg, .inl (fun _ => 0)))] := by
        rw [wsO_new]
        have e9 : cel E (mNew M 1 j.toNatClampNeg) M.1.length (1, j.toNatClampNeg) = .inl (E.2.2.2.1 1, j.toNatClampNeg, .inl (fun _ => 0)) := by
          rw [cel_0 (by decide)]
          show Sum.inl (_, _, Sum.inl (up1 M.2.1 M.1.length (fun _ => 0) M.1.length)) = _
          rw [up1_eq]
        rw [e9]
      rw [← ew] at hP1
      have hX' : Hx E s H1 locs (mNew M 1 j.toNatClampNeg) := ⟨hP1, hS1, by show (M.1 ++ [_]).length ≤ mx; rw [List.length_append]; exact hlen, (up1_ne (by omega)).trans hX.2.2.2.1, by show (up1 M.2.1 M.1.length _ (mx + 21) 0).toNatClampNeg = _; rw [up1_ne (by omega)]; exact hX.2.2.2.2⟩
      have K := kk H1 locs lsA _ hnx hX' hL hok
      rw [List.map_cons, vmp_lt hlen] at K
      exact K T hT X
    · simp only [Option.some.injEq, Prod.mk.injEq, Bool.and_eq_true, decide_eq_true_eq] at h
      obtain ⟨⟨⟨hn, hn2⟩, hlen⟩, rfl, rfl, rfl, rfl⟩ := h
      rw [mSl_new] at hz
      obtain rfl : z = j.toNatClampNeg := by omega
      refine va_newa (atype := .byte) (a0 := (j.toNatClampNeg, .inl (fun _ => 0))) hx hb (hts _ w_arB) (ty := .byte) rfl hK hX.1 (wsO_D E M) hX.2.1 hA (fun cA => rfl) hn rfl (by show j.toNatClampNeg * 1 ≤ _; omega) hcR hsR hdg (fun q cA H1 hK1 hP1 hD1 hS1 => ?_)
      have ecA : cA = E.2.2.2.1 2 := ra_eq (k_last hK1) (hK.2 2 _ rfl).2
      intro T hT X
      have eq := al_fix hcnt X hT hP1 hD1
      subst eq
      subst ecA
      have ew : wsO E (mNew M 2 j.toNatClampNeg) = wsO E M ++ [(E.1 + M.1.length, .inl (E.2.2.2.1 2, j.toNatClampNeg, .inl (fun _ => 0)))] := by
        rw [wsO_new]
        have e9 : cel E (mNew M 2 j.toNatClampNeg) M.1.length (2, j.toNatClampNeg) = .inl (E.2.2.2.1 2, j.toNatClampNeg, .inl (fun _ => 0)) := by
          rw [cel_0 (by decide)]
          show Sum.inl (_, _, Sum.inl (up1 M.2.1 M.1.length (fun _ => 0) M.1.length)) = _
          rw [up1_eq]
        rw [e9]
      rw [← ew] at hP1
      have hX' : Hx E s H1 locs (mNew M 2 j.toNatClampNeg) := ⟨hP1, hS1, by show (M.1 ++ [_]).length ≤ mx; rw [List.length_append]; exact hlen, (up1_ne (by omega)).trans hX.2.2.2.1, by show (up1 M.2.1 M.1.length _ (mx + 21) 0).toNatClampNeg = _; rw [up1_ne (by omega)]; exact hX.2.2.2.2⟩
      have K := kk H1 locs lsA _ hnx hX' hL hok
      rw [List.map_cons, vmp_lt hlen] at K
      exact K T hT X
    · simp only [Option.some.injEq, Prod.mk.injEq, Bool.and_eq_true, decide_eq_true_eq] at h
      obtain ⟨⟨⟨hn, hn2⟩, hlen⟩, rfl, rfl, rfl, rfl⟩ := h
      rw [mSl_new] at hz
      obtain rfl : z = j.toNatClampNeg := by omega
      refine va_newa (atype := .long) (a0 := (j.toNatClampNeg, .inr (.inl (fun _ => 0)))) hx hb (hts _ w_arJ) (ty := .long) rfl hK hX.1 (wsO_D E M) hX.2.1 hA (fun cA => rfl) hn rfl (by show j.toNatClampNeg * 8 ≤ _; omega) hcR hsR hdg (fun q cA H1 hK1 hP1 hD1 hS1 => ?_)
      have ecA : cA = E.2.2.2.1 3 := ra_eq (k_last hK1) (hK.2 3 _ rfl).2
      intro T hT X
      have eq := al_fix hcnt X hT hP1 hD1
      subst eq
      subst ecA
      have ew : wsO E (mNew M 3 j.toNatClampNeg) = wsO E M ++ [(E.1 + M.1.length, .inl (E.2.2.2.1 3, j.toNatClampNeg, .inr (.inl (fun _ => 0))))] := by
        rw [wsO_new]
        have e9 : cel E (mNew M 3 j.toNatClampNeg) M.1.length (3, j.toNatClampNeg) = .inl (E.2.2.2.1 3, j.toNatClampNeg, .inr (.inl (fun _ => 0))) := by
          rw [cel_3]
          show Sum.inl (_, _, Sum.inr (Sum.inl (up1 M.2.2.1 M.1.length (fun _ => 0) M.1.length))) = _
          rw [up1_eq]
        rw [e9]
      rw [← ew] at hP1
      have hX' : Hx E s H1 locs (mNew M 3 j.toNatClampNeg) := ⟨hP1, hS1, by show (M.1 ++ [_]).length ≤ mx; rw [List.length_append]; exact hlen, (up1_ne (by omega)).trans hX.2.2.2.1, by show (up1 M.2.1 M.1.length _ (mx + 21) 0).toNatClampNeg = _; rw [up1_ne (by omega)]; exact hX.2.2.2.2⟩
      have K := kk H1 locs lsA _ hnx hX' hL hok
      rw [List.map_cons, vmp_lt hlen] at K
      exact K T hT X
    · cases h
  · cases h

theorem s_anewarray {t : Nat} {nL f lw i pc v w i' : Nat} {inI : Bool} {pcs : List Nat} {x : Int} {ls ls' : Lz} {st st' : List Value} {M M' : Mm} {H : Heap} {locs : List Loc} {cells slots : Nat} {lsA : Array Slot} {z : Nat} (hz : mSl M' = mSl M + z) (hcnt : s.heap.size + cells = E.1 + M.1.length) (hcR : cells + 1 ≤ R.cells) (hsR : slots + z ≤ R.slots) (C : Cx E own cc nL inI f lw p R s m args meth c) (hdg : decode cc pc = .ok (rlI pcs pc (.anewarray t) v x, lnI (.anewarray t) v x)) (hwd : wdI own inI f lw pcs pc (.anewarray t) v x w = true) (hnx : pcs[i + 1]? = some (pc + lnI (.anewarray t) v x)) (h : st2 (.anewarray t) i ls st M = some (true, i', ls', st', M')) (hX : Hx E s H locs M) (hL : Lr E nL lsA ls) (hok : Lok ls) (kk : Kk p l e R s m args below meth c E nL pcs (cells + 1) (slots + z) Q i' ls' st' M') : W p l e R s m args below meth c H locs cells slots Q (F0 m pc lsA (st.map (vmp E))) := by
  obtain ⟨hx, hb, hml, hown, hts, ⟨hK, hNw⟩, hXF, hbase, hini, hfr, hlo⟩ := C
  have hE := hXF.2.2.2.2.2.2
  have hA : ∀ q : Nat, s.heap.size ≤ q → eA E q := fun q hq => Nat.le_trans hbase hq
  simp only [st2] at h
  split at h
  · rename_i j rest
    by_cases ht : t = 4 ∨ t = 5
    · rw [if_pos ht] at h
      simp only [Option.some.injEq, Prod.mk.injEq, Bool.and_eq_true, decide_eq_true_eq] at h
      obtain ⟨⟨⟨hn, hn2⟩, hlen⟩, rfl, rfl, rfl, rfl⟩ := h
      rw [mSl_new] at hz
      obtain rfl : z = j.toNatClampNeg := by omega
      have hw : (if t = 4 then wAt w (.classLink own x.toNat "DebtorsHouse$House") else wAt w (.classLink own x.toNat "DebtorsHouse$Act")) = true := hwd
      have key : ∀ (C : String), va_AO C s → (Cond.classLink own x.toNat C).before args s = true → (tyz E)[t]? = some (E.2.2.2.1 t, .object C) → W p l e R s m args below meth c H locs cells slots Q (F0 m pc lsA ((Value.int j :: rest).map (vmp E))) := by
        intro C hAO hlk htz
        refine va_newq hx hb hown hlk hAO hK hX.1 (wsO_D E M) hX.2.1 hA hn rfl (by omega) hcR hsR hdg (fun q cA H1 hK1 hP1 hD1 hS1 => ?_)
        have ecA : cA = E.2.2.2.1 t := ra_eq (k_last hK1) (hK.2 t _ htz).2
        intro T hT X
        have eq := al_fix hcnt X hT hP1 hD1
        subst eq
        subst ecA
        have ew : wsO E (mNew M t j.toNatClampNeg) = wsO E M ++ [(E.1 + M.1.length, .inl (E.2.2.2.1 t, j.toNatClampNeg, .inr (.inr (.inr (.inr (fun _ => none))))))] := by
          rw [wsO_new]
          have e9 : cel E (mNew M t j.toNatClampNeg) M.1.length (t, j.toNatClampNeg) = .inl (E.2.2.2.1 t, j.toNatClampNeg, .inr (.inr (.inr (.inr (fun _ => none))))) := by
            rw [cel_q ht]
            show Sum.inl (_, _, Sum.inr (Sum.inr (Sum.inr (Sum.inr (fun k => (up1 M.2.2.2 M.1.length (fun _ => none) M.1.length k).map (fun x => E.1 + x)))))) = _
            rw [up1_eq]
            rfl
          rw [e9]
        rw [← ew] at hP1
        have hX' : Hx E s H1 locs (mNew M t j.toNatClampNeg) := ⟨hP1, hS1, by show (M.1 ++ [_]).length ≤ mx; rw [List.length_append]; exact hlen, (up1_ne (by omega)).trans hX.2.2.2.1, by show (up1 M.2.1 M.1.length _ (mx + 21) 0).toNatClampNeg = _; rw [up1_ne (by omega)]; exact hX.2.2.2.2⟩
        have K := kk H1 locs lsA _ hnx hX' hL hok
        rw [List.map_cons, vmp_lt hlen] at K
        exact K T hT X
      rcases ht with rfl | rfl
      · rw [if_pos rfl] at hw
        exact key _ (va_AO.of (hts _ w_arH)) (hts _ (wAt_in hw)) rfl
      · rw [if_neg (by decide)] at hw
        exact key _ (va_AO.of (hts _ w_arA)) (hts _ (wAt_in hw)) rfl
    · rw [if_neg ht] at h; cases h
  · cases h

theorem s_new {n : Nat} {nL f lw i pc v w i' : Nat} {inI : Bool} {pcs : List Nat} {x : Int} {ls ls' : Lz} {st st' : List Value} {M M' : Mm} {H : Heap} {locs : List Loc} {cells slots : Nat} {lsA : Array Slot} {z : Nat} (hz : mSl M' = mSl M + z) (hcnt : s.heap.size + cells = E.1 + M.1.length) (hcR : cells + 1 ≤ R.cells) (hsR : slots + z ≤ R.slots) (C : Cx E own cc nL inI f lw p R s m args meth c) (hdg : decode cc pc = .ok (rlI pcs pc (.new n) v x, lnI (.new n) v x)) (hwd : wdI own inI f lw pcs pc (.new n) v x w = true) (hnx : pcs[i + 1]? = some (pc + lnI (.new n) v x)) (h : st2 (.new n) i ls st M = some (true, i', ls', st', M')) (hX : Hx E s H locs M) (hL : Lr E nL lsA ls) (hok : Lok ls) (kk : Kk p l e R s m args below meth c E nL pcs (cells + 1) (slots + z) Q i' ls' st' M') : W p l e R s m args below meth c H locs cells slots Q (F0 m pc lsA (st.map (vmp E))) := by
  obtain ⟨hx, hb, hml, hown, hts, ⟨hK, hNw⟩, hXF, hbase, hini, hfr, hlo⟩ := C
  have hE := hXF.2.2.2.2.2.2
  have hA : ∀ q : Nat, s.heap.size ≤ q → eA E q := fun q hq => Nat.le_trans hbase hq
  simp only [st2] at h
  by_cases hn13 : n / 100 < 13
  · rw [if_pos hn13] at h
    simp only [Option.some.injEq, Prod.mk.injEq, decide_eq_true_eq] at h
    obtain ⟨hlen, rfl, rfl, rfl, rfl⟩ := h
    rw [mSl_new] at hz
    obtain rfl : z = n % 100 := by omega
    have hw : (match clz[n / 100]? with
      | some (C, _, N) => decide (n % 100 = N) && wAt w (.classLink own x.toNat C)
      | none => false) = true := hwd
    cases hc : clz[n / 100]? with
    | none => rw [hc] at hw; cases hw
    | some q =>
      obtain ⟨C, T, N⟩ := q
      rw [hc] at hw
      dsimp only at hw
      rw [Bool.and_eq_true, decide_eq_true_eq] at hw
      obtain ⟨hN, hw⟩ := hw
      subst hN
      obtain ⟨kd, hkd⟩ := kdz_get hc
      have e9 : cel E (mNew M (10 + n / 100) (n % 100)) M.1.length (10 + n / 100, n % 100) = .inr (n / 100, fsv E (mNew M (10 + n / 100) (n % 100)) M.1.length kd) := by
        rw [cel_obj (by omega) (by rw [show 10 + n / 100 - 10 = n / 100 by omega]; exact hkd), show 10 + n / 100 - 10 = n / 100 by omega]
      have ew : wsO E (mNew M (10 + n / 100) (n % 100)) = wsO E M ++ [(E.1 + M.1.length, .inr (n / 100, fsv E (mNew M (10 + n / 100) (n % 100)) M.1.length kd))] := by rw [wsO_new, e9]
      refine va_new hx hb hts (cz_ok hc).1 (fun k => tyK (T k).2.2.1) (fun k hk => ((kd_ok hc hkd).2 k hk).1) hown (hts _ (wAt_in hw)) (hts _ (cz_ini hc).1) (hts _ (cz_ini hc).2) hK hX.1 (wsO_D E M) hX.2.1 hA hc (fs := fsv E (mNew M (10 + n / 100) (n % 100)) M.1.length kd) (fs_new hc hkd up1_eq up1_eq up1_eq) hcR hsR hdg (fun q H1 hP1 hD1 hS1 => ?_)
      intro T hT X
      have eq := al_fix hcnt X hT hP1 hD1
      subst eq
      rw [← ew] at hP1
      have hX' : Hx E s H1 locs (mNew M (10 + n / 100) (n % 100)) := ⟨hP1, hS1, by show (M.1 ++ [_]).length ≤ mx; rw [List.length_append]; exact hlen, (up1_ne (by omega)).trans hX.2.2.2.1, by show (up1 M.2.1 M.1.length _ (mx + 21) 0).toNatClampNeg = _; rw [up1_ne (by omega)]; exact hX.2.2.2.2⟩
      have K := kk H1 locs lsA _ hnx hX' hL hok
      rw [List.map_cons, vmp_lt hlen] at K
      exact K T hT X
  · rw [if_neg hn13] at h; cases h

end STM
