/-! THE LAW RUNS -/
theorem Sst_sum : (Sst.map (fun q => q.2)).sum ≤ 20000 := by decide +kernel
theorem new_none {M : Mm} {x t n : Nat} (h : M.1.length = x) : (mNew M t n).2.2.2 x = fun _ => none := by
  show up1 M.2.2.2 M.1.length (fun _ => none) x = _
  rw [h, up1_at]
theorem new_sh {M : Mm} {x t n : Nat} (h : M.1.length = x) : (mNew M t n).1[x]? = some (t, n) := by
  rw [← h]; exact sh_new M t n
set_option maxRecDepth 20000 in
theorem law_pre {M Mc Mz : Mm} {r : Option Value} {Me : Mm} (h0 : M.1.length = 0) (hMc : Call 105 [.ref 0] (mNew M 21 9) none Mc) (c61 : Mc.1.length = 61) (hMz : Call 150 [.ref 61] (mNew Mc 22 80) none Mz) (hR : Runs 244 10 (lz 0) [] Mz r Me) : Runs 244 0 [some (.ref (mx + 20)), none, none, none] [] M r Me := by
  have m0 : mx = 1000000 := rfl
  refine Runs.st (ins := .new 1109) rfl rfl rfl (nw_raw (by decide) (by rw [h0]; omega)) ?_
  rw [h0]
  refine Runs.st (ins := .dup) (i' := 2) (ls' := [some (.ref (mx + 20)), none, none, none]) (st' := [.ref 0, .ref 0]) (M' := mNew M 21 9) rfl rfl rfl rfl ?_
  refine Runs.call (k' := 105) (as := [.ref 0]) (rest := [.ref 0]) (r1 := none) (M1 := Mc) rfl rfl (cal2_s rfl rfl rfl (rcI_of (by omega))) hMc ?_
  refine Runs.st (ins := .astore 1) (i' := 4) (ls' := [some (.ref (mx + 20)), some (.ref 0), none, none]) (st' := []) (M' := Mc) rfl rfl rfl rfl ?_
  refine Runs.st (ins := .new 1280) rfl rfl rfl (nw_raw (by decide) (by rw [c61]; omega)) ?_
  rw [c61]
  refine Runs.st (ins := .dup) (i' := 6) (ls' := [some (.ref (mx + 20)), some (.ref 0), none, none]) (st' := [.ref 61, .ref 61]) (M' := mNew Mc 22 80) rfl rfl rfl rfl ?_
  refine Runs.call (k' := 150) (as := [.ref 61]) (rest := [.ref 61]) (r1 := none) (M1 := Mz) rfl rfl (cal2_s rfl rfl rfl (rcI_of (by omega))) hMz ?_
  refine Runs.st (ins := .astore 2) (i' := 8) (ls' := [some (.ref (mx + 20)), some (.ref 0), some (.ref 61), none]) (st' := []) (M' := Mz) rfl rfl rfl rfl ?_
  refine Runs.st (ins := .iconst 0) (i' := 9) (ls' := [some (.ref (mx + 20)), some (.ref 0), some (.ref 61), none]) (st' := [.int 0]) (M' := Mz) rfl rfl rfl rfl ?_
  exact Runs.st (ins := .istore 3) (i' := 10) (ls' := lz 0) (st' := []) (M' := Mz) rfl rfl rfl rfl hR
set_option maxRecDepth 20000 in
theorem law_runs (Ls : Nat) (xs : Nat → Int32) (h : Ls ≤ 3584) : ∃ Me, Runs lwK 0 (eLz 4 [.ref (mx + 20)]) [] (lwM Ls xs) (some (.int 1)) Me ∧ Me.1.length ≤ room_1.cells ∧ mSl Me ≤ room_1.slots := by
  have m0 : mx = 1000000 := rfl
  have hP : ∀ (c : Nat) (tl : List (Nat × Nat)) (I : Nat → Nat → Int32) (L : Nat → Nat → Int64) (rd : Nat → Nat → Option Nat), c ≤ 512 → INV xs Ls c tl I rd → (mk tl I L rd).1.length ≤ 600000 ∧ mSl (mk tl I L rd) ≤ 7302250 := fun c tl I L rd hc V => by
    refine ⟨?_, ?_⟩
    · rw [mk_len]
      have := V.2.2.2.1
      omega
    · show ((Sst ++ tl).map (fun q => q.2)).sum ≤ _
      rw [List.map_append, List.sum_append]
      have := V.2.2.2.2.1
      have := Sst_sum
      omega
  obtain ⟨Me, hR, hb⟩ := lw_loop (xs := xs) (Ls := Ls) (P := fun M => M.1.length ≤ 600000 ∧ mSl M ≤ 7302250) h hP 513 0 (by omega) (by omega) [] (stM Ls xs).2.1 (stM Ls xs).2.2.1 (stM Ls xs).2.2.2 (INV.start Ls xs)
  refine ⟨Me, ?_, hb.1, hb.2⟩
  have c61 := cl_len (st_len Ls xs)
  have hMc := ini_class (mNew (lwM Ls xs) 21 9) 0 (by omega) (new_sh (M := lwM Ls xs) rfl) (by rw [st_len]; omega)
  have hMz := ini_model (mNew (classM 0 (mNew (lwM Ls xs) 21 9)) 22 80) 61 (by omega) (new_sh c61) (new_none c61) (by rw [st_len2]; omega)
  have hR2 : Runs 244 10 (lz 0) [] (modelM 61 (mNew (classM 0 (mNew (lwM Ls xs) 21 9)) 22 80)) (some (.int 1)) Me := Runs.cg rfl (stM_mk Ls xs) hR
  exact law_pre (M := lwM Ls xs) rfl hMc c61 hMz hR2
/-- from the entry, for every script of at most 3584 ints, the law comes to its end with true -/
theorem whole_start {p : Program} {e : Env} {s : State} {m : MethodId} {below : List Frame} {meth : Method} {c : Code} (l : Launch) {b L : Nat} {xs : Nat → Int32} (hL : L ≤ 3584) (C0 : lw_At p s m meth c b L xs) : W p l e room_1 s m #[Value.ref b] below meth c s.heap [] 0 0 (lw_Z below #[Value.ref b] s) (entryFrame m ([Value.ref b] : List Value).toArray 4) := by
  obtain ⟨Me, hR, hc, hs⟩ := law_runs L xs hL
  exact law_start hall l hL C0 hR hc hs
