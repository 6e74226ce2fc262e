/-! fields, rows, statics, switches -/
theorem lay_k {C : String} {T : u_T} {N : Nat} {w : Cond} (h : w ∈ u_ws C T N) : twk w = true := by
  obtain ⟨k, -, rfl⟩ := List.mem_map.mp h
  unfold u_lay
  split <;> rfl
theorem cz_ok {ci : Nat} {C : String} {T : u_T} {N : Nat} (h : clz[ci]? = some (C, T, N)) : (∀ w ∈ u_ws C T N, w ∈ lwt) ∧ (∀ a, a < N → ∀ b, b < N → a ≠ b → (T a).2.1 ≠ (T b).2.1) := by
  match ci, h with

  | 0, h => cases h; exact ⟨fun w h => lwt_of (inX0 w h) (lay_k h), nmX0⟩
  | 1, h => cases h; exact ⟨fun w h => lwt_of (inX1 w h) (lay_k h), nmX1⟩
  | 2, h => cases h; exact ⟨fun w h => lwt_of (inX2 w h) (lay_k h), nmX2⟩
  | 3, h => cases h; exact ⟨fun w h => lwt_of (inX3 w h) (lay_k h), nmX3⟩
  | 4, h => cases h; exact ⟨fun w h => lwt_of (inX4 w h) (lay_k h), nmX4⟩
  | 5, h => cases h; exact ⟨fun w h => lwt_of (inX5 w h) (lay_k h), nmX5⟩
  | 6, h => cases h; exact ⟨fun w h => lwt_of (inX6 w h) (lay_k h), nmX6⟩
  | 7, h => cases h; exact ⟨fun w h => lwt_of (inX7 w h) (lay_k h), nmX7⟩
  | 8, h => cases h; exact ⟨fun w h => lwt_of (inX8 w h) (lay_k h), nmX8⟩
  | 9, h => cases h; exact ⟨fun w h => lwt_of (inX9 w h) (lay_k h), nmX9⟩
  | 10, h => cases h; exact ⟨fun w h => lwt_of (inX10 w h) (lay_k h), nmX10⟩
  | 11, h => cases h; exact ⟨fun w h => lwt_of (inX11 w h) (lay_k h), nmX11⟩
  | 12, h => cases h; exact ⟨fun w h => lwt_of (inX12 w h) (lay_k h), nmX12⟩
  | k + 13, h => simp [clz] at h
/-- the types of a class's fields, by their kinds -/
def tyK (d : String) : FieldType := (parseFieldDescriptor d).getD .int
def kdOf (t : FieldType) : Nat := match t with
  | .long => 1
  | .int => 0
  | .boolean => 3
  | .object _ => 2
  | .array _ => 2
  | _ => 9
def kdA (q : vw_C) (kd : List Nat) : Bool := decide (kd.length = q.2.2) && (List.range q.2.2).all (fun k => decide (parseFieldDescriptor (q.2.1 k).2.2.1 = some (tyK (q.2.1 k).2.2.1)) && decide (kd[k]? = some (kdOf (tyK (q.2.1 k).2.2.1))))
theorem kd_all : ((clz.zip kdz).all (fun q => kdA q.1 q.2)) = true := by decide +kernel
theorem kd_ok {ci : Nat} {C : String} {T : u_T} {N : Nat} {kd : List Nat} (h : clz[ci]? = some (C, T, N)) (hk : kdz[ci]? = some kd) : kd.length = N ∧ ∀ k, k < N → parseFieldDescriptor (T k).2.2.1 = some (tyK (T k).2.2.1) ∧ kd[k]? = some (kdOf (tyK (T k).2.2.1)) := by
  have hz : (clz.zip kdz)[ci]? = some ((C, T, N), kd) := by rw [List.getElem?_zip_eq_some]; exact ⟨h, hk⟩
  have h1 := List.all_eq_true.mp kd_all _ (List.mem_of_getElem? hz)
  unfold kdA at h1
  simp only [Bool.and_eq_true, decide_eq_true_eq] at h1
  refine ⟨h1.1, fun k hk => ?_⟩
  have h2 := List.all_eq_true.mp h1.2 k (List.mem_range.mpr hk)
  simp only [Bool.and_eq_true, decide_eq_true_eq] at h2
  exact h2
theorem kdz_get {ci : Nat} {q : vw_C} (h : clz[ci]? = some q) : ∃ kd, kdz[ci]? = some kd := by
  have h1 : ci < clz.length := (List.getElem?_eq_some_iff.mp h).1
  have h2 : kdz.length = clz.length := rfl
  exact ⟨_, List.getElem?_eq_getElem (by omega)⟩
theorem cel_obj {E : En} {M : Mm} {a t n : Nat} {kd : List Nat} (ht : 10 ≤ t) (hk : kdz[t - 10]? = some kd) : cel E M a (t, n) = .inr (t - 10, fsv E M a kd) := by
  unfold cel
  dsimp only
  rw [if_neg (by omega), if_neg (by omega), if_neg (by omega), List.getD_eq_getElem?_getD, hk]
  rfl
theorem fsv_get {E : En} {M : Mm} {a : Nat} {kd : List Nat} {k t : Nat} (h : kd[k]? = some t) : (fsv E M a kd)[k]? = some (if t = 1 then .long (M.2.2.1 a k) else if t = 2 then vmp E (mrf (M.2.2.2 a k)) else .int (M.2.1 a k)) := by
  unfold fsv
  rw [List.getElem?_mapIdx, h]
  rfl
theorem fsv_len {E : En} {M : Mm} {a : Nat} {kd : List Nat} : (fsv E M a kd).length = kd.length := by unfold fsv; rw [List.length_mapIdx]
/-- one field is put -/
theorem fsv_set {E : En} {M M' : Mm} {a : Nat} {kd : List Nat} {k t : Nat} {v : Value} (h : kd[k]? = some t) (hv : (if t = 1 then .long (M'.2.2.1 a k) else if t = 2 then vmp E (mrf (M'.2.2.2 a k)) else .int (M'.2.1 a k)) = v) (h1 : ∀ j, j ≠ k → M'.2.1 a j = M.2.1 a j) (h2 : ∀ j, j ≠ k → M'.2.2.1 a j = M.2.2.1 a j) (h3 : ∀ j, j ≠ k → M'.2.2.2 a j = M.2.2.2 a j) : (fsv E M a kd).set k v = fsv E M' a kd := by
  have hk : k < kd.length := (List.getElem?_eq_some_iff.mp h).1
  apply List.ext_getElem?
  intro j
  rw [List.getElem?_set]
  by_cases hj : k = j
  · subst hj
    rw [if_pos rfl, if_pos (by rw [fsv_len]; exact hk), fsv_get h, hv]
  · rw [if_neg hj]
    unfold fsv
    rw [List.getElem?_mapIdx, List.getElem?_mapIdx]
    cases kd[j]? with
    | none => rfl
    | some t' =>
      have hj' : j ≠ k := fun q => hj q.symm
      simp only [Option.map_some]
      rw [h1 j hj', h2 j hj', h3 j hj']
theorem Hx.keep {E : En} {s : State} {H H' : Heap} {locs locs' : List Loc} {M M' : Mm} (h : Hx E s H locs M) (hP : va_P (eD E) clz (wsO E M') H') (hS : va_S (eA E) s.heap H' locs') (h1 : M'.1 = M.1) (h2 : M'.2.1 (mx + 20) = M.2.1 (mx + 20)) (h3 : M'.2.1 (mx + 21) = M.2.1 (mx + 21)) : Hx E s H' locs' M' := ⟨hP, hS, by rw [h1]; exact h.2.2.1, by rw [h2]; exact h.2.2.2.1, by rw [h3]; exact h.2.2.2.2⟩
theorem up2_self {α : Type} {f : Nat → Nat → α} {a k j : Nat} {v : α} (h : j ≠ k) : up2 f a k v a j = f a j := by rw [up2_eq]; show (if j = k then v else f a j) = f a j; rw [if_neg h]
theorem up2_at {α : Type} {f : Nat → Nat → α} {a k : Nat} {v : α} : up2 f a k v a k = v := by rw [up2_eq]; show (if k = k then v else f a k) = v; rw [if_pos rfl]
theorem up2_row {f : Nat → Nat → Int32} {a k : Nat} {v : Int32} : up2 f a k v a = upd (f a) k v := up2_eq
theorem up2_rowL {f : Nat → Nat → Int64} {a k : Nat} {v : Int64} : up2 f a k v a = vp_updL (f a) k v := up2_eq
theorem cel_0 {E : En} {M : Mm} {a t n : Nat} (ht : t < 3) : cel E M a (t, n) = .inl (E.2.2.2.1 t, n, .inl (M.2.1 a)) := by unfold cel; dsimp only; rw [if_pos ht]
theorem cel_3 {E : En} {M : Mm} {a n : Nat} : cel E M a (3, n) = .inl (E.2.2.2.1 3, n, .inr (.inl (M.2.2.1 a))) := rfl
theorem cel_q {E : En} {M : Mm} {a t n : Nat} (ht : t = 4 ∨ t = 5) : cel E M a (t, n) = .inl (E.2.2.2.1 t, n, .inr (.inr (.inr (.inr (fun j => (M.2.2.2 a j).map (fun x => E.1 + x)))))) := by rcases ht with rfl | rfl <;> rfl
theorem vmp_lt {E : En} {a : Nat} (h : a < mx) : vmp E (.ref a) = .ref (E.1 + a) := by unfold vmp; dsimp only; rw [if_pos h]
theorem vmp_ge {E : En} {a : Nat} (h : ¬ a < mx) : vmp E (.ref a) = E.2.2.2.2.1 (a - mx) := by unfold vmp; dsimp only; rw [if_neg h]
theorem len_lt {M : Mm} {a : Nat} {q : Nat × Nat} (hm : M.1.length ≤ mx) (h : M.1[a]? = some q) : a < mx := Nat.lt_of_lt_of_le (List.getElem?_eq_some_iff.mp h).1 hm
theorem vmp_mrf {E : En} {r : Option Nat} (h : rok r = true) : vmp E (mrf r) = va_rf (r.map (fun x => E.1 + x)) := by
  cases r with
  | none => rfl
  | some a =>
    show vmp E (.ref a) = .ref (E.1 + a)
    exact vmp_lt (of_decide_eq_true h)
theorem x_20 {a : Nat} (h : a < mx) : mx + 20 ≠ a := by omega
theorem x_21 {a : Nat} (h : a < mx) : mx + 21 ≠ a := by omega
theorem x_6 {a : Nat} (h : mx < a) (h2 : a ≤ mx + 6) : a - mx - 1 < 6 := by omega
theorem x_e1 {a : Nat} (h : mx < a) : a - mx = 1 + (a - mx - 1) := by omega
theorem x_ge {a : Nat} (h : mx < a) : ¬ a + 10 < mx := by omega
theorem x_e2 {a : Nat} (h : mx < a) : a + 10 - mx = 11 + (a - mx - 1) := by omega
section STQ
variable {p : Program} {l : Launch} {e : Env} {R : Room} {s : State} {m : MethodId} {args : Array Value} {below : List Frame} {meth : Method} {c : Code} {Q : State → Prop} {E : En} {cc : ByteArray} {own : String}

theorem s_getfield {n : Nat} {nL f lw i pc v w i' : Nat} {inI : Bool} {pcs : List Nat} {x : Int} {ls ls' : Lz} {st st' : List Value} {M M' : Mm} {H : Heap} {locs : List Loc} {cells slots : Nat} {lsA : Array Slot} (C : Cx E own cc nL inI f lw p R s m args meth c) (hdg : decode cc pc = .ok (rlI pcs pc (.getfield n) v x, lnI (.getfield n) v x)) (hwd : wdI own inI f lw pcs pc (.getfield n) v x w = true) (hnx : pcs[i + 1]? = some (pc + lnI (.getfield n) v x)) (h : st2 (.getfield n) i ls st M = some (true, i', ls', st', M')) (hX : Hx E s H locs M) (hL : Lr E nL lsA ls) (hok : Lok ls) (kk : Kk p l e R s m args below meth c E nL pcs cells slots Q i' ls' st' M') : W p l e R s m args below meth c H locs cells slots Q (F0 m pc lsA (st.map (vmp E))) := by
  obtain ⟨hx, hb, hml, hown, hts, ⟨hK, hNw⟩, hXF, hbase, hini, hfr, hlo⟩ := C
  have hE := hXF.2.2.2.2.2.2
  simp only [st2] at h
  split at h
  · rename_i a rest
    by_cases ha : a < mx
    · rw [if_pos ha] at h
      cases hs : M.1[a]? with
      | none => rw [hs] at h; cases h
      | some q =>
        obtain ⟨t, n0⟩ := q
        rw [hs] at h
        dsimp only at h
        by_cases ht : t = 10 + n / 400
        · rw [if_pos ht] at h
          simp only [Option.some.injEq, Prod.mk.injEq, true_and] at h
          obtain ⟨rfl, rfl, rfl, rfl⟩ := h
          have hw : (fLk own n v x w && fKd n) = true := hwd
          rw [Bool.and_eq_true] at hw
          obtain ⟨hw1, hw2⟩ := hw
          unfold fLk at hw1
          unfold fKd at hw2
          cases hc : clz[n / 400]? with
          | none =>
            exfalso
            have h13 : ¬ n / 400 < 13 := fun q => by
              have := List.getElem?_eq_none_iff.mp hc
              exact absurd q (Nat.not_lt.mpr this)
            have h13' : n / 400 = 13 := by
              rw [hc] at hw1
              simp only [Bool.and_eq_true, decide_eq_true_eq] at hw1
              exact hw1.1.1.1
            have hP := hX.1 a _ (wsO_get hs)
            have e1 : cel E M a (t, n0) = .inr (13, fsv E M a (kdz.getD 13 [])) := by
              subst ht
              rw [h13']
              rfl
            rw [e1] at hP
            obtain ⟨r, h1, -⟩ := hP
            cases h1
          | some q =>
            obtain ⟨C, T, N⟩ := q
            rw [hc] at hw1
            dsimp only at hw1
            rw [Bool.and_eq_true, decide_eq_true_eq] at hw1
            obtain ⟨hkN, hw1⟩ := hw1
            obtain ⟨kd, hkd⟩ := kdz_get hc
            rw [hkd] at hw2
            dsimp only at hw2
            have hk2 : kd[n / 4 % 100]? = some (n % 4) := of_decide_eq_true hw2
            have hcl : cel E M a (t, n0) = .inr (n / 400, fsv E M a kd) := by
              subst ht
              rw [cel_obj (by omega) (by rw [show 10 + n / 400 - 10 = n / 400 by omega]; exact hkd), show 10 + n / 400 - 10 = n / 400 by omega]
            have he := wsO_get (E := E) hs
            rw [hcl] at he
            have hfs := fsv_get (E := E) (M := M) (a := a) hk2
            have ev : vmp E (match n % 4 with
              | 1 => .long (M.2.2.1 a (n / 4 % 100))
              | 2 => mrf (M.2.2.2 a (n / 4 % 100))
              | _ => .int (M.2.1 a (n / 4 % 100))) = (if n % 4 = 1 then .long (M.2.2.1 a (n / 4 % 100)) else if n % 4 = 2 then vmp E (mrf (M.2.2.2 a (n / 4 % 100))) else .int (M.2.1 a (n / 4 % 100))) := by
              rcases (show n % 4 = 0 ∨ n % 4 = 1 ∨ n % 4 = 2 ∨ n % 4 = 3 by omega) with e | e | e | e <;> rw [e] <;> rfl
            have K : W p l e R s m args below meth c H locs cells slots Q (F0 m (pc + 3) lsA ((if n % 4 = 1 then .long (M.2.2.1 a (n / 4 % 100)) else if n % 4 = 2 then vmp E (mrf (M.2.2.2 a (n / 4 % 100))) else .int (M.2.1 a (n / 4 % 100))) :: rest.map (vmp E))) := by
              rw [← ev]
              exact kk H locs lsA _ hnx hX hL hok
            rw [List.map_cons, vmp_lt ha]
            by_cases hv : v = 1
            · rw [if_pos hv] at hw1
              exact va_getN hx hb hts (cz_ok hc).1 hown hK hX.1 a he hc (n / 4 % 100) hkN (hts _ (wAt_in hw1)) (fun _ h9 => h9) hfs hdg K
            · rw [if_neg hv] at hw1
              exact va_get hx hb hts (cz_ok hc).1 hown hK hX.1 a he hc (n / 4 % 100) hkN (hts _ (wAt_in hw1)) (fun _ h9 => h9) hfs hdg K
        · rw [if_neg ht] at h; cases h
    · rw [if_neg ha] at h
      by_cases hg : n / 400 = 13 ∧ mx < a ∧ a ≤ mx + 6
      · rw [if_pos hg] at h
        simp only [Option.some.injEq, Prod.mk.injEq, true_and] at h
        obtain ⟨rfl, rfl, rfl, rfl⟩ := h
        have hw : (fLk own n v x w && fKd n) = true := hwd
        rw [Bool.and_eq_true] at hw
        obtain ⟨hw1, -⟩ := hw
        unfold fLk at hw1
        have hc : clz[n / 400]? = none := by rw [hg.1]; rfl
        rw [hc] at hw1
        dsimp only at hw1
        simp only [Bool.and_eq_true, decide_eq_true_eq] at hw1
        obtain ⟨⟨⟨-, hv⟩, ho⟩, hw1⟩ := hw1
        have hq1 : (mx : Nat) < (a : Nat) := hg.2.1
        have hq2 : (a : Nat) ≤ mx + 6 := hg.2.2
        obtain ⟨q, vv, e1, e2, -, -, hco, hva, -⟩ := hXF.2.2.2.2.1 ((a : Nat) - mx - 1) (x_6 hg.2.1 hg.2.2)
        have ea : vmp E (.ref a) = .ref q := by rw [vmp_ge ha, x_e1 hg.2.1]; exact e1
        have K := kk H locs lsA _ hnx hX hL hok
        rw [List.map_cons] at K
        rw [List.map_cons, ea]
        by_cases h2 : n % 4 = 2
        · rw [if_pos h2] at hw1 K
          have ev : vmp E (.ref (a + 10)) = .ref vv := by rw [vmp_ge (x_ge hg.2.1), x_e2 hg.2.1]; exact e2
          rw [ev] at K
          exact vk_getf hx hb hva hX.2.1 hown (hts _ (wAt_in hw1)) (fun _ h9 => h9) hdg K
        · rw [if_neg h2] at hw1 K
          exact vk_getf hx hb hco hX.2.1 hown (hts _ (wAt_in hw1)) (fun _ h9 => h9) hdg K
      · rw [if_neg hg] at h; cases h
  · cases h

theorem s_putfield {n : Nat} {nL f lw i pc v w i' : Nat} {inI : Bool} {pcs : List Nat} {x : Int} {ls ls' : Lz} {st st' : List Value} {M M' : Mm} {H : Heap} {locs : List Loc} {cells slots : Nat} {lsA : Array Slot} (C : Cx E own cc nL inI f lw p R s m args meth c) (hdg : decode cc pc = .ok (rlI pcs pc (.putfield n) v x, lnI (.putfield n) v x)) (hwd : wdI own inI f lw pcs pc (.putfield n) v x w = true) (hnx : pcs[i + 1]? = some (pc + lnI (.putfield n) v x)) (h : st2 (.putfield n) i ls st M = some (true, i', ls', st', M')) (hX : Hx E s H locs M) (hL : Lr E nL lsA ls) (hok : Lok ls) (kk : Kk p l e R s m args below meth c E nL pcs cells slots Q i' ls' st' M') : W p l e R s m args below meth c H locs cells slots Q (F0 m pc lsA (st.map (vmp E))) := by
  obtain ⟨hx, hb, hml, hown, hts, ⟨hK, hNw⟩, hXF, hbase, hini, hfr, hlo⟩ := C
  have hE := hXF.2.2.2.2.2.2
  simp only [st2] at h
  split at h
  · rename_i vv a rest
    cases hs : M.1[a]? with
    | none => rw [hs] at h; cases h
    | some q =>
      obtain ⟨t, n0⟩ := q
      rw [hs] at h
      dsimp only at h
      by_cases ht : t = 10 + n / 400 ∧ a < mx
      · rw [if_pos ht] at h
        obtain ⟨ht, ha⟩ := ht
        have hw : (fLk own n v x w && fFn own n v inI) = true := hwd
        rw [Bool.and_eq_true] at hw
        obtain ⟨hw1, hw2⟩ := hw
        unfold fLk at hw1
        unfold fFn at hw2
        cases hc : clz[n / 400]? with
        | none => rw [hc] at hw2; cases hw2
        | some q =>
          obtain ⟨C, T, N⟩ := q
          rw [hc] at hw1 hw2
          dsimp only at hw1
          rw [Bool.and_eq_true, decide_eq_true_eq] at hw1
          obtain ⟨hkN, hw1⟩ := hw1
          obtain ⟨kd, hkd⟩ := kdz_get hc
          rw [hkd] at hw2
          dsimp only at hw2
          rw [Bool.and_eq_true, decide_eq_true_eq] at hw2
          obtain ⟨hk2, hw2⟩ := hw2
          obtain ⟨hlen, htyp⟩ := kd_ok hc hkd
          have hcl : ∀ M2 : Mm, cel E M2 a (t, n0) = .inr (n / 400, fsv E M2 a kd) := by
            intro M2
            subst ht
            rw [cel_obj (by omega) (by rw [show 10 + n / 400 - 10 = n / 400 by omega]; exact hkd), show 10 + n / 400 - 10 = n / 400 by omega]
          have he := wsO_get (E := E) hs
          rw [hcl] at he
          have hkd2 : kdOf (tyK (T (n / 4 % 100)).2.2.1) = n % 4 := by
            have h9 := (htyp _ hkN).2
            rw [hk2] at h9
            exact (Option.some.inj h9).symm
          -- what is put
          have key : ∀ (M2 : Mm), i' = i + 1 → ls' = ls → st' = rest → M' = M2 → M2.1 = M.1 → (fsv E M a kd).set (n / 4 % 100) (vmp E vv) = fsv E M2 a kd → (∀ b, b ≠ a → ∀ q', cel E M2 b q' = cel E M b q') → M2.2.1 (mx + 20) = M.2.1 (mx + 20) → M2.2.1 (mx + 21) = M.2.1 (mx + 21) → narrow (tyK (T (n / 4 % 100)).2.2.1) (vmp E vv) = vmp E vv → fits (tyK (T (n / 4 % 100)).2.2.1) (vmp E vv) = true → W p l e R s m args below meth c H locs cells slots Q (F0 m pc lsA ((vv :: .ref a :: rest).map (vmp E))) := by
            intro M2 e1 e2 e3 e4 hM1 hset hoth hm1 hm2 hna hfi
            subst e1; subst e2; subst e3; subst e4
            rw [List.map_cons, List.map_cons, vmp_lt ha]
            have hws : (wsO E M).set a (E.1 + a, .inr (n / 400, (fsv E M a kd).set (n / 4 % 100) (vmp E vv))) = wsO E M' := by
              rw [hset]
              exact wsO_set hs hM1 (hcl M') hoth
            have KK : ∀ (H1 : Heap) (locs1 : List Loc), va_P (eD E) clz ((wsO E M).set a (E.1 + a, .inr (n / 400, (fsv E M a kd).set (n / 4 % 100) (vmp E vv)))) H1 → va_D (eA E) ((wsO E M).set a (E.1 + a, .inr (n / 400, (fsv E M a kd).set (n / 4 % 100) (vmp E vv)))) → va_S (eA E) s.heap H1 locs1 → W p l e R s m args below meth c H1 locs1 cells slots Q (F0 m (pc + 3) lsA (st'.map (vmp E))) := by
              intro H1 locs1 hP1 hD1 hS1
              rw [hws] at hP1
              exact kk H1 locs1 lsA _ hnx (hX.keep hP1 hS1 hM1 hm1 hm2) hL hok
            have hl : n / 4 % 100 < (fsv E M a kd).length := by rw [fsv_len, hlen]; exact hkN
            by_cases hv2 : v = 2
            · rw [if_pos hv2] at hw2
              simp only [Bool.and_eq_true, decide_eq_true_eq] at hw2
              obtain ⟨⟨hfin, hdec⟩, hin⟩ := hw2
              rw [if_neg (by omega)] at hw1
              exact va_putF hx hb hts (cz_ok hc).1 (fun k => tyK (T k).2.2.1) (fun k hk => (htyp k hk).1) (cz_ok hc).2 hown hK hX.1 (wsO_D E M) hX.2.1 a he hc (n / 4 % 100) hkN (hts _ (wAt_in hw1)) (fun _ h9 => h9) hfin (hini hin) hdec (htyp _ hkN).1 hna hfi hl hdg KK
            · rw [if_neg hv2] at hw2
              have hfin : (T (n / 4 % 100)).2.2.2 = false := by simpa using hw2
              by_cases hv1 : v = 1
              · rw [if_pos hv1] at hw1
                exact va_putN hx hb hts (cz_ok hc).1 (fun k => tyK (T k).2.2.1) (fun k hk => (htyp k hk).1) (cz_ok hc).2 hown hK hX.1 (wsO_D E M) hX.2.1 a he hc (n / 4 % 100) hkN (hts _ (wAt_in hw1)) (fun _ h9 => h9) hfin (htyp _ hkN).1 hna hfi hl hdg KK
              · rw [if_neg hv1] at hw1
                exact va_put hx hb hts (cz_ok hc).1 (fun k => tyK (T k).2.2.1) (fun k hk => (htyp k hk).1) (cz_ok hc).2 hown hK hX.1 (wsO_D E M) hX.2.1 a he hc (n / 4 % 100) hkN (hts _ (wAt_in hw1)) (fun _ h9 => h9) hfin (htyp _ hkN).1 hna hfi hl hdg KK
          have n20 := x_20 ha
          have n21 := x_21 ha
          split at h
          · rename_i y hn
            simp only [Option.some.injEq, Prod.mk.injEq, true_and] at h
            obtain ⟨g1, g2, g3, g4⟩ := h
            have hty : tyK (T (n / 4 % 100)).2.2.1 = .int := by
              rw [hn] at hkd2
              generalize tyK (T (n / 4 % 100)).2.2.1 = ty at hkd2
              cases ty <;> simp [kdOf] at hkd2 ⊢
            refine key _ g1.symm g2.symm g3.symm g4.symm rfl ?_ (fun b hb q' => cel_wI b hb q') (up2_ne n20) (up2_ne n21) (by rw [hty]; rfl) (by rw [hty]; rfl)
            refine fsv_set hk2 ?_ (fun j hj => up2_self hj) (fun _ _ => rfl) (fun _ _ => rfl)
            rw [hn, if_neg (by decide), if_neg (by decide)]
            show Value.int (up2 M.2.1 a (n / 4 % 100) y a (n / 4 % 100)) = _
            rw [up2_at]
            rfl
          · rename_i y hn
            simp only [Option.some.injEq, Prod.mk.injEq, Bool.or_eq_true, decide_eq_true_eq] at h
            obtain ⟨hg, g1, g2, g3, g4⟩ := h
            have hty : tyK (T (n / 4 % 100)).2.2.1 = .boolean := by
              rw [hn] at hkd2
              generalize tyK (T (n / 4 % 100)).2.2.1 = ty at hkd2
              cases ty <;> simp [kdOf] at hkd2 ⊢
            refine key _ g1.symm g2.symm g3.symm g4.symm rfl ?_ (fun b hb q' => cel_wI b hb q') (up2_ne n20) (up2_ne n21) (by rw [hty]; show narrow .boolean (.int y) = .int y; rcases hg with rfl | rfl <;> decide) (by rw [hty]; show fits .boolean (.int y) = true; rcases hg with rfl | rfl <;> decide)
            refine fsv_set hk2 ?_ (fun j hj => up2_self hj) (fun _ _ => rfl) (fun _ _ => rfl)
            rw [hn, if_neg (by decide), if_neg (by decide)]
            show Value.int (up2 M.2.1 a (n / 4 % 100) y a (n / 4 % 100)) = _
            rw [up2_at]
            rfl
          · rename_i y hn
            simp only [Option.some.injEq, Prod.mk.injEq, true_and] at h
            obtain ⟨g1, g2, g3, g4⟩ := h
            have hty : tyK (T (n / 4 % 100)).2.2.1 = .long := by
              rw [hn] at hkd2
              generalize tyK (T (n / 4 % 100)).2.2.1 = ty at hkd2
              cases ty <;> simp [kdOf] at hkd2 ⊢
            refine key _ g1.symm g2.symm g3.symm g4.symm rfl ?_ (fun b hb q' => cel_wL b hb q') rfl rfl (by rw [hty]; rfl) (by rw [hty]; rfl)
            refine fsv_set hk2 ?_ (fun _ _ => rfl) (fun j hj => up2_self hj) (fun _ _ => rfl)
            rw [hn, if_pos rfl]
            show Value.long (up2 M.2.2.1 a (n / 4 % 100) y a (n / 4 % 100)) = _
            rw [up2_at]
            rfl
          · rename_i y hn
            simp only [Option.some.injEq, Prod.mk.injEq, true_and] at h
            obtain ⟨g1, g2, g3, g4⟩ := h
            have hty : (∃ C', tyK (T (n / 4 % 100)).2.2.1 = .object C') ∨ ∃ C', tyK (T (n / 4 % 100)).2.2.1 = .array C' := by
              rw [hn] at hkd2
              generalize tyK (T (n / 4 % 100)).2.2.1 = ty at hkd2
              cases ty <;> simp [kdOf] at hkd2 ⊢
            have hrn : vmp E (.ref y) = .null ∨ ∃ a, vmp E (.ref y) = .ref a := vmp_rn hE y
            refine key _ g1.symm g2.symm g3.symm g4.symm rfl ?_ (fun b hb q' => cel_wR b hb q') rfl rfl ?_ ?_
            · refine fsv_set hk2 ?_ (fun _ _ => rfl) (fun _ _ => rfl) (fun j hj => up2_self hj)
              rw [hn, if_neg (by decide), if_pos rfl]
              show vmp E (mrf (up2 M.2.2.2 a (n / 4 % 100) (some y) a (n / 4 % 100))) = _
              rw [up2_at]
              rfl
            · rcases hty with ⟨C', e⟩ | ⟨C', e⟩ <;> rcases hrn with r | ⟨z, r⟩ <;> rw [e, r] <;> rfl
            · rcases hty with ⟨C', e⟩ | ⟨C', e⟩ <;> rcases hrn with r | ⟨z, r⟩ <;> rw [e, r] <;> rfl
          · cases h
      · rw [if_neg ht] at h; cases h
  · cases h

end STQ
