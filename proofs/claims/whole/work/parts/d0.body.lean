/-! THE LAW'S BODY: one call (printed) -/
def lz (c : Nat) : Lz := [some (.ref (mx + 20)), some (.ref 0), some (.ref 61), some (.int (nI (7 * c)))]
theorem rd20 {i : Nat} {ls : Lz} {st : List Value} {M : Mm} {j : Int32} : st2 .iaload i ls (.int j :: .ref (mx + 20) :: st) M = some (inb j (M.2.1 (mx + 21) 0).toNatClampNeg, i + 1, ls, .int (M.2.1 (mx + 20) j.toNatClampNeg) :: st, M) := by
  have m0 : mx = 1000000 := rfl
  have e : aSh M (mx + 20) = some (0, (M.2.1 (mx + 21) 0).toNatClampNeg) := by
    unfold aSh
    rw [if_neg (by omega), show mx + 20 - mx = 20 by omega]; rfl
  have e2 : ∀ k, aRd M (mx + 20) k = M.2.1 (mx + 20) k := fun k => by
    unfold aRd
    rw [if_neg (by omega), show mx + 20 - mx = 20 by omega]; rfl
  simp only [st2, e, e2]
theorem al20 {i : Nat} {ls : Lz} {st : List Value} {M : Mm} : st2 .arraylength i ls (.ref (mx + 20) :: st) M = some (true, i + 1, ls, .int (Int32.ofNat (M.2.1 (mx + 21) 0).toNatClampNeg) :: st, M) := by
  have m0 : mx = 1000000 := rfl
  have e : aSh M (mx + 20) = some (0, (M.2.1 (mx + 21) 0).toNatClampNeg) := by
    unfold aSh
    rw [if_neg (by omega), show mx + 20 - mx = 20 by omega]; rfl
  simp only [st2, e]
  rfl
theorem rtn_il {k : Nat} {st : List Value} {n : Nat} : rtn k (.iload n) st = none := by cases st <;> rfl
section
variable {xs : Nat → Int32} {Ls c : Nat} {tl : List (Nat × Nat)} {I : Nat → Nat → Int32} {L : Nat → Nat → Int64} {rd : Nat → Nat → Option Nat}
theorem lw_rd (S : SCR xs Ls I) (h : Ls ≤ 3584) {j : Nat} (hj : j < Ls) {i : Nat} {ls : Lz} {st : List Value} : st2 .iaload i ls (.int (nI j) :: .ref (mx + 20) :: st) (mk tl I L rd) = some (true, i + 1, ls, .int (xs j) :: st, mk tl I L rd) := by
  rw [rd20]
  show some (inb (nI j) (I (mx + 21) 0).toNatClampNeg, i + 1, ls, Value.int (I (mx + 20) (nI j).toNatClampNeg) :: st, mk tl I L rd) = _
  rw [S.1, S.2, nI_clamp (show Ls < 2 ^ 31 by omega), nI_clamp (show j < 2 ^ 31 by omega), show inb (nI j) Ls = true from inb_iff.mpr (by rw [nI_toInt (by omega)]; omega)]
theorem lw_a (S : SCR xs Ls I) (h : Ls ≤ 3584) (hL : 7 * c + 7 ≤ Ls) (k : Nat) (hk : k < 7) {p : Nat} {kI : Int} {st : List Value} {r : Option Value} {Me : Mm} (h0 : mIns 244 p = some (.aload 0)) (h1 : mIns 244 (p + 1) = some (.iload 3)) (h2 : mIns 244 (p + 2) = some (.iconst kI)) (h3 : mIns 244 (p + 3) = some .iadd) (h4 : mIns 244 (p + 4) = some .iaload) (ek : Int32.ofInt kI = nI k) (hK : Runs 244 (p + 5) (lz c) (.int (xs (7 * c + k)) :: st) (mk tl I L rd) r Me) : Runs 244 p (lz c) st (mk tl I L rd) r Me := by
  refine Runs.st h0 (by cases st <;> rfl) rfl (i' := p + 1) (ls' := lz c) (st' := .ref (mx + 20) :: st) (M' := mk tl I L rd) rfl ?_
  refine Runs.st h1 rfl rfl (i' := p + 2) (ls' := lz c) (st' := .int (nI (7 * c)) :: .ref (mx + 20) :: st) (M' := mk tl I L rd) rfl ?_
  refine Runs.st h2 rfl rfl (i' := p + 3) (ls' := lz c) (st' := .int (Int32.ofInt kI) :: .int (nI (7 * c)) :: .ref (mx + 20) :: st) (M' := mk tl I L rd) rfl ?_
  refine Runs.st h3 rfl rfl (i' := p + 4) (ls' := lz c) (st' := .int (nI (7 * c) + Int32.ofInt kI) :: .ref (mx + 20) :: st) (M' := mk tl I L rd) rfl ?_
  rw [ek, nI_add]
  exact Runs.st h4 rfl rfl (lw_rd S h (by omega)) hK
set_option maxRecDepth 20000 in
theorem lw_eq {p : Nat} {v : Int32} {M : Mm} {r : Option Value} {Me : Mm} (h0 : mIns 244 p = some (.if_icmp .eq 976)) (hK : Runs 244 10 (lz (c + 1)) [] M r Me) : Runs 244 p (lz c) [.int v, .int v] M r Me := by
  refine Runs.st h0 rfl rfl (i' := 976) (ls' := lz c) (st' := []) (M' := M) (by
    show some (true, (if decide (v = v) = true then (976 : Int).toNat else p + 1), lz c, [], M) = _
    rw [if_pos (decide_eq_true rfl)]; rfl) ?_
  refine Runs.st (ins := .iinc 3 7) rfl rfl rfl (i' := 977) (ls' := lz (c + 1)) (st' := []) (M' := M) (by
    have e : nI (7 * c) + Int32.ofInt 7 = nI (7 * (c + 1)) := by
      rw [show Int32.ofInt 7 = nI 7 from rfl, nI_add]; rfl
    show some (true, 977, [some (Value.ref (mx + 20)), some (.ref 0), some (.ref 61), some (.int (nI (7 * c) + Int32.ofInt 7))], [], M) = _
    rw [e]; rfl) ?_
  exact Runs.st (ins := .goto 10) rfl rfl rfl (i' := 10) (ls' := lz (c + 1)) (st' := []) (M' := M) rfl hK
/-- what comes behind a call -/
def NXT (xs : Nat → Int32) (Ls c : Nat) (P : Mm → Prop) : Prop := ∀ tl I L rd, INV xs Ls c tl I rd → ∃ Me, Runs 244 10 (lz c) [] (mk tl I L rd) (some (.int 1)) Me ∧ P Me
set_option maxRecDepth 20000 in
theorem cs_Person {P : Mm → Prop} (S : SCR xs Ls I) (h : Ls ≤ 3584) (hL : 7 * c + 7 ≤ Ls) (hG : SG xs Ls c tl I L rd 106 161 [.int (xs (7 * c + 1)), .int (xs (7 * c + 2))]) (hN : NXT xs Ls (c + 1) P) : ∃ Me, Runs 244 22 (lz c) [] (mk tl I L rd) (some (.int 1)) Me ∧ P Me := by
  obtain ⟨v, tl1, I1, L1, rd1, I2, L2, Cx, Cy, V, S1⟩ := hG
  obtain ⟨Me, hR, hb⟩ := hN tl1 I2 L2 rd1 V
  refine ⟨Me, ?_, hb⟩
  refine Runs.st (i' := 23) (ls' := lz c) (st' := [.ref 0]) (M' := mk tl I L rd) rfl rfl rfl rfl ?_
  refine lw_a S h hL 1 (by decide) (p := 23) (kI := 1) rfl rfl rfl rfl rfl rfl ?_
  refine lw_a S h hL 2 (by decide) (p := 28) (kI := 2) rfl rfl rfl rfl rfl rfl ?_
  refine Runs.call (k' := 106) (as := [.ref 0, .int (xs (7 * c + 1)), .int (xs (7 * c + 2))]) (rest := []) (r1 := some (.int v)) (M1 := mk tl1 I1 L1 rd1) rfl rfl rfl Cx ?_
  refine Runs.st (i' := 35) (ls' := lz c) (st' := [.ref 61, .int v]) (M' := mk tl1 I1 L1 rd1) rfl rfl rfl rfl ?_
  refine lw_a S1 h hL 1 (by decide) (p := 35) (kI := 1) rfl rfl rfl rfl rfl rfl ?_
  refine lw_a S1 h hL 2 (by decide) (p := 40) (kI := 2) rfl rfl rfl rfl rfl rfl ?_
  refine Runs.call (k' := 161) (as := [.ref 61, .int (xs (7 * c + 1)), .int (xs (7 * c + 2))]) (rest := [.int v]) (r1 := some (.int v)) (M1 := mk tl1 I2 L2 rd1) rfl rfl rfl Cy ?_
  exact lw_eq (p := 46) rfl hR
set_option maxRecDepth 20000 in
theorem cs_Debt {P : Mm → Prop} (S : SCR xs Ls I) (h : Ls ≤ 3584) (hL : 7 * c + 7 ≤ Ls) (hG : SG xs Ls c tl I L rd 107 162 [.int (xs (7 * c + 1)), .int (xs (7 * c + 2)), .int (xs (7 * c + 3)), .int (xs (7 * c + 4)), .int (xs (7 * c + 5)), .int (xs (7 * c + 6))]) (hN : NXT xs Ls (c + 1) P) : ∃ Me, Runs 244 49 (lz c) [] (mk tl I L rd) (some (.int 1)) Me ∧ P Me := by
  obtain ⟨v, tl1, I1, L1, rd1, I2, L2, Cx, Cy, V, S1⟩ := hG
  obtain ⟨Me, hR, hb⟩ := hN tl1 I2 L2 rd1 V
  refine ⟨Me, ?_, hb⟩
  refine Runs.st (i' := 50) (ls' := lz c) (st' := [.ref 0]) (M' := mk tl I L rd) rfl rfl rfl rfl ?_
  refine lw_a S h hL 1 (by decide) (p := 50) (kI := 1) rfl rfl rfl rfl rfl rfl ?_
  refine lw_a S h hL 2 (by decide) (p := 55) (kI := 2) rfl rfl rfl rfl rfl rfl ?_
  refine lw_a S h hL 3 (by decide) (p := 60) (kI := 3) rfl rfl rfl rfl rfl rfl ?_
  refine lw_a S h hL 4 (by decide) (p := 65) (kI := 4) rfl rfl rfl rfl rfl rfl ?_
  refine lw_a S h hL 5 (by decide) (p := 70) (kI := 5) rfl rfl rfl rfl rfl rfl ?_
  refine lw_a S h hL 6 (by decide) (p := 75) (kI := 6) rfl rfl rfl rfl rfl rfl ?_
  refine Runs.call (k' := 107) (as := [.ref 0, .int (xs (7 * c + 1)), .int (xs (7 * c + 2)), .int (xs (7 * c + 3)), .int (xs (7 * c + 4)), .int (xs (7 * c + 5)), .int (xs (7 * c + 6))]) (rest := []) (r1 := some (.int v)) (M1 := mk tl1 I1 L1 rd1) rfl rfl rfl Cx ?_
  refine Runs.st (i' := 82) (ls' := lz c) (st' := [.ref 61, .int v]) (M' := mk tl1 I1 L1 rd1) rfl rfl rfl rfl ?_
  refine lw_a S1 h hL 1 (by decide) (p := 82) (kI := 1) rfl rfl rfl rfl rfl rfl ?_
  refine lw_a S1 h hL 2 (by decide) (p := 87) (kI := 2) rfl rfl rfl rfl rfl rfl ?_
  refine lw_a S1 h hL 3 (by decide) (p := 92) (kI := 3) rfl rfl rfl rfl rfl rfl ?_
  refine lw_a S1 h hL 4 (by decide) (p := 97) (kI := 4) rfl rfl rfl rfl rfl rfl ?_
  refine lw_a S1 h hL 5 (by decide) (p := 102) (kI := 5) rfl rfl rfl rfl rfl rfl ?_
  refine lw_a S1 h hL 6 (by decide) (p := 107) (kI := 6) rfl rfl rfl rfl rfl rfl ?_
  refine Runs.call (k' := 162) (as := [.ref 61, .int (xs (7 * c + 1)), .int (xs (7 * c + 2)), .int (xs (7 * c + 3)), .int (xs (7 * c + 4)), .int (xs (7 * c + 5)), .int (xs (7 * c + 6))]) (rest := [.int v]) (r1 := some (.int v)) (M1 := mk tl1 I2 L2 rd1) rfl rfl rfl Cy ?_
  exact lw_eq (p := 113) rfl hR
set_option maxRecDepth 20000 in
theorem cs_Costs {P : Mm → Prop} (S : SCR xs Ls I) (h : Ls ≤ 3584) (hL : 7 * c + 7 ≤ Ls) (hG : SG xs Ls c tl I L rd 108 168 [.int (xs (7 * c + 1)), .int (xs (7 * c + 2))]) (hN : NXT xs Ls (c + 1) P) : ∃ Me, Runs 244 116 (lz c) [] (mk tl I L rd) (some (.int 1)) Me ∧ P Me := by
  obtain ⟨v, tl1, I1, L1, rd1, I2, L2, Cx, Cy, V, S1⟩ := hG
  obtain ⟨Me, hR, hb⟩ := hN tl1 I2 L2 rd1 V
  refine ⟨Me, ?_, hb⟩
  refine Runs.st (i' := 117) (ls' := lz c) (st' := [.ref 0]) (M' := mk tl I L rd) rfl rfl rfl rfl ?_
  refine lw_a S h hL 1 (by decide) (p := 117) (kI := 1) rfl rfl rfl rfl rfl rfl ?_
  refine lw_a S h hL 2 (by decide) (p := 122) (kI := 2) rfl rfl rfl rfl rfl rfl ?_
  refine Runs.call (k' := 108) (as := [.ref 0, .int (xs (7 * c + 1)), .int (xs (7 * c + 2))]) (rest := []) (r1 := some (.int v)) (M1 := mk tl1 I1 L1 rd1) rfl rfl rfl Cx ?_
  refine Runs.st (i' := 129) (ls' := lz c) (st' := [.ref 61, .int v]) (M' := mk tl1 I1 L1 rd1) rfl rfl rfl rfl ?_
  refine lw_a S1 h hL 1 (by decide) (p := 129) (kI := 1) rfl rfl rfl rfl rfl rfl ?_
  refine lw_a S1 h hL 2 (by decide) (p := 134) (kI := 2) rfl rfl rfl rfl rfl rfl ?_
  refine Runs.call (k' := 168) (as := [.ref 61, .int (xs (7 * c + 1)), .int (xs (7 * c + 2))]) (rest := [.int v]) (r1 := some (.int v)) (M1 := mk tl1 I2 L2 rd1) rfl rfl rfl Cy ?_
  exact lw_eq (p := 140) rfl hR
set_option maxRecDepth 20000 in
theorem cs_Pay {P : Mm → Prop} (S : SCR xs Ls I) (h : Ls ≤ 3584) (hL : 7 * c + 7 ≤ Ls) (hG : SG xs Ls c tl I L rd 109 169 [.int (xs (7 * c + 1)), .int (xs (7 * c + 2))]) (hN : NXT xs Ls (c + 1) P) : ∃ Me, Runs 244 143 (lz c) [] (mk tl I L rd) (some (.int 1)) Me ∧ P Me := by
  obtain ⟨v, tl1, I1, L1, rd1, I2, L2, Cx, Cy, V, S1⟩ := hG
  obtain ⟨Me, hR, hb⟩ := hN tl1 I2 L2 rd1 V
  refine ⟨Me, ?_, hb⟩
  refine Runs.st (i' := 144) (ls' := lz c) (st' := [.ref 0]) (M' := mk tl I L rd) rfl rfl rfl rfl ?_
  refine lw_a S h hL 1 (by decide) (p := 144) (kI := 1) rfl rfl rfl rfl rfl rfl ?_
  refine lw_a S h hL 2 (by decide) (p := 149) (kI := 2) rfl rfl rfl rfl rfl rfl ?_
  refine Runs.call (k' := 109) (as := [.ref 0, .int (xs (7 * c + 1)), .int (xs (7 * c + 2))]) (rest := []) (r1 := some (.int v)) (M1 := mk tl1 I1 L1 rd1) rfl rfl rfl Cx ?_
  refine Runs.st (i' := 156) (ls' := lz c) (st' := [.ref 61, .int v]) (M' := mk tl1 I1 L1 rd1) rfl rfl rfl rfl ?_
  refine lw_a S1 h hL 1 (by decide) (p := 156) (kI := 1) rfl rfl rfl rfl rfl rfl ?_
  refine lw_a S1 h hL 2 (by decide) (p := 161) (kI := 2) rfl rfl rfl rfl rfl rfl ?_
  refine Runs.call (k' := 169) (as := [.ref 61, .int (xs (7 * c + 1)), .int (xs (7 * c + 2))]) (rest := [.int v]) (r1 := some (.int v)) (M1 := mk tl1 I2 L2 rd1) rfl rfl rfl Cy ?_
  exact lw_eq (p := 167) rfl hR
set_option maxRecDepth 20000 in
theorem cs_About {P : Mm → Prop} (S : SCR xs Ls I) (h : Ls ≤ 3584) (hL : 7 * c + 7 ≤ Ls) (hG : SG xs Ls c tl I L rd 110 170 [.int (xs (7 * c + 1)), .int (xs (7 * c + 2))]) (hN : NXT xs Ls (c + 1) P) : ∃ Me, Runs 244 170 (lz c) [] (mk tl I L rd) (some (.int 1)) Me ∧ P Me := by
  obtain ⟨v, tl1, I1, L1, rd1, I2, L2, Cx, Cy, V, S1⟩ := hG
  obtain ⟨Me, hR, hb⟩ := hN tl1 I2 L2 rd1 V
  refine ⟨Me, ?_, hb⟩
  refine Runs.st (i' := 171) (ls' := lz c) (st' := [.ref 0]) (M' := mk tl I L rd) rfl rfl rfl rfl ?_
  refine lw_a S h hL 1 (by decide) (p := 171) (kI := 1) rfl rfl rfl rfl rfl rfl ?_
  refine lw_a S h hL 2 (by decide) (p := 176) (kI := 2) rfl rfl rfl rfl rfl rfl ?_
  refine Runs.call (k' := 110) (as := [.ref 0, .int (xs (7 * c + 1)), .int (xs (7 * c + 2))]) (rest := []) (r1 := some (.int v)) (M1 := mk tl1 I1 L1 rd1) rfl rfl rfl Cx ?_
  refine Runs.st (i' := 183) (ls' := lz c) (st' := [.ref 61, .int v]) (M' := mk tl1 I1 L1 rd1) rfl rfl rfl rfl ?_
  refine lw_a S1 h hL 1 (by decide) (p := 183) (kI := 1) rfl rfl rfl rfl rfl rfl ?_
  refine lw_a S1 h hL 2 (by decide) (p := 188) (kI := 2) rfl rfl rfl rfl rfl rfl ?_
  refine Runs.call (k' := 170) (as := [.ref 61, .int (xs (7 * c + 1)), .int (xs (7 * c + 2))]) (rest := [.int v]) (r1 := some (.int v)) (M1 := mk tl1 I2 L2 rd1) rfl rfl rfl Cy ?_
  exact lw_eq (p := 194) rfl hR
set_option maxRecDepth 20000 in
theorem cs_Ring {P : Mm → Prop} (S : SCR xs Ls I) (h : Ls ≤ 3584) (hL : 7 * c + 7 ≤ Ls) (hG : SG xs Ls c tl I L rd 111 174 []) (hN : NXT xs Ls (c + 1) P) : ∃ Me, Runs 244 197 (lz c) [] (mk tl I L rd) (some (.int 1)) Me ∧ P Me := by
  obtain ⟨v, tl1, I1, L1, rd1, I2, L2, Cx, Cy, V, S1⟩ := hG
  obtain ⟨Me, hR, hb⟩ := hN tl1 I2 L2 rd1 V
  refine ⟨Me, ?_, hb⟩
  refine Runs.st (i' := 198) (ls' := lz c) (st' := [.ref 0]) (M' := mk tl I L rd) rfl rfl rfl rfl ?_
  refine Runs.call (k' := 111) (as := [.ref 0]) (rest := []) (r1 := some (.int v)) (M1 := mk tl1 I1 L1 rd1) rfl rfl rfl Cx ?_
  refine Runs.st (i' := 200) (ls' := lz c) (st' := [.ref 61, .int v]) (M' := mk tl1 I1 L1 rd1) rfl rfl rfl rfl ?_
  refine Runs.call (k' := 174) (as := [.ref 61]) (rest := [.int v]) (r1 := some (.int v)) (M1 := mk tl1 I2 L2 rd1) rfl rfl rfl Cy ?_
  exact lw_eq (p := 201) rfl hR
set_option maxRecDepth 20000 in
theorem cs_Row {P : Mm → Prop} (S : SCR xs Ls I) (h : Ls ≤ 3584) (hL : 7 * c + 7 ≤ Ls) (hG : SG xs Ls c tl I L rd 112 175 [.int (xs (7 * c + 1))]) (hN : NXT xs Ls (c + 1) P) : ∃ Me, Runs 244 204 (lz c) [] (mk tl I L rd) (some (.int 1)) Me ∧ P Me := by
  obtain ⟨v, tl1, I1, L1, rd1, I2, L2, Cx, Cy, V, S1⟩ := hG
  obtain ⟨Me, hR, hb⟩ := hN tl1 I2 L2 rd1 V
  refine ⟨Me, ?_, hb⟩
  refine Runs.st (i' := 205) (ls' := lz c) (st' := [.ref 0]) (M' := mk tl I L rd) rfl rfl rfl rfl ?_
  refine lw_a S h hL 1 (by decide) (p := 205) (kI := 1) rfl rfl rfl rfl rfl rfl ?_
  refine Runs.call (k' := 112) (as := [.ref 0, .int (xs (7 * c + 1))]) (rest := []) (r1 := some (.int v)) (M1 := mk tl1 I1 L1 rd1) rfl rfl rfl Cx ?_
  refine Runs.st (i' := 212) (ls' := lz c) (st' := [.ref 61, .int v]) (M' := mk tl1 I1 L1 rd1) rfl rfl rfl rfl ?_
  refine lw_a S1 h hL 1 (by decide) (p := 212) (kI := 1) rfl rfl rfl rfl rfl rfl ?_
  refine Runs.call (k' := 175) (as := [.ref 61, .int (xs (7 * c + 1))]) (rest := [.int v]) (r1 := some (.int v)) (M1 := mk tl1 I2 L2 rd1) rfl rfl rfl Cy ?_
  exact lw_eq (p := 218) rfl hR
set_option maxRecDepth 20000 in
theorem cs_Net {P : Mm → Prop} (S : SCR xs Ls I) (h : Ls ≤ 3584) (hL : 7 * c + 7 ≤ Ls) (hG : SG xs Ls c tl I L rd 113 176 []) (hN : NXT xs Ls (c + 1) P) : ∃ Me, Runs 244 221 (lz c) [] (mk tl I L rd) (some (.int 1)) Me ∧ P Me := by
  obtain ⟨v, tl1, I1, L1, rd1, I2, L2, Cx, Cy, V, S1⟩ := hG
  obtain ⟨Me, hR, hb⟩ := hN tl1 I2 L2 rd1 V
  refine ⟨Me, ?_, hb⟩
  refine Runs.st (i' := 222) (ls' := lz c) (st' := [.ref 0]) (M' := mk tl I L rd) rfl rfl rfl rfl ?_
  refine Runs.call (k' := 113) (as := [.ref 0]) (rest := []) (r1 := some (.int v)) (M1 := mk tl1 I1 L1 rd1) rfl rfl rfl Cx ?_
  refine Runs.st (i' := 224) (ls' := lz c) (st' := [.ref 61, .int v]) (M' := mk tl1 I1 L1 rd1) rfl rfl rfl rfl ?_
  refine Runs.call (k' := 176) (as := [.ref 61]) (rest := [.int v]) (r1 := some (.int v)) (M1 := mk tl1 I2 L2 rd1) rfl rfl rfl Cy ?_
  exact lw_eq (p := 225) rfl hR
set_option maxRecDepth 20000 in
theorem cs_Feed {P : Mm → Prop} (S : SCR xs Ls I) (h : Ls ≤ 3584) (hL : 7 * c + 7 ≤ Ls) (hG : SG xs Ls c tl I L rd 114 177 [.int (xs (7 * c + 1)), .int (xs (7 * c + 2)), .int (xs (7 * c + 3)), .int (xs (7 * c + 4)), .int (xs (7 * c + 5))]) (hN : NXT xs Ls (c + 1) P) : ∃ Me, Runs 244 228 (lz c) [] (mk tl I L rd) (some (.int 1)) Me ∧ P Me := by
  obtain ⟨v, tl1, I1, L1, rd1, I2, L2, Cx, Cy, V, S1⟩ := hG
  obtain ⟨Me, hR, hb⟩ := hN tl1 I2 L2 rd1 V
  refine ⟨Me, ?_, hb⟩
  refine Runs.st (i' := 229) (ls' := lz c) (st' := [.ref 0]) (M' := mk tl I L rd) rfl rfl rfl rfl ?_
  refine lw_a S h hL 1 (by decide) (p := 229) (kI := 1) rfl rfl rfl rfl rfl rfl ?_
  refine lw_a S h hL 2 (by decide) (p := 234) (kI := 2) rfl rfl rfl rfl rfl rfl ?_
  refine lw_a S h hL 3 (by decide) (p := 239) (kI := 3) rfl rfl rfl rfl rfl rfl ?_
  refine lw_a S h hL 4 (by decide) (p := 244) (kI := 4) rfl rfl rfl rfl rfl rfl ?_
  refine lw_a S h hL 5 (by decide) (p := 249) (kI := 5) rfl rfl rfl rfl rfl rfl ?_
  refine Runs.call (k' := 114) (as := [.ref 0, .int (xs (7 * c + 1)), .int (xs (7 * c + 2)), .int (xs (7 * c + 3)), .int (xs (7 * c + 4)), .int (xs (7 * c + 5))]) (rest := []) (r1 := some (.int v)) (M1 := mk tl1 I1 L1 rd1) rfl rfl rfl Cx ?_
  refine Runs.st (i' := 256) (ls' := lz c) (st' := [.ref 61, .int v]) (M' := mk tl1 I1 L1 rd1) rfl rfl rfl rfl ?_
  refine lw_a S1 h hL 1 (by decide) (p := 256) (kI := 1) rfl rfl rfl rfl rfl rfl ?_
  refine lw_a S1 h hL 2 (by decide) (p := 261) (kI := 2) rfl rfl rfl rfl rfl rfl ?_
  refine lw_a S1 h hL 3 (by decide) (p := 266) (kI := 3) rfl rfl rfl rfl rfl rfl ?_
  refine lw_a S1 h hL 4 (by decide) (p := 271) (kI := 4) rfl rfl rfl rfl rfl rfl ?_
  refine lw_a S1 h hL 5 (by decide) (p := 276) (kI := 5) rfl rfl rfl rfl rfl rfl ?_
  refine Runs.call (k' := 177) (as := [.ref 61, .int (xs (7 * c + 1)), .int (xs (7 * c + 2)), .int (xs (7 * c + 3)), .int (xs (7 * c + 4)), .int (xs (7 * c + 5))]) (rest := [.int v]) (r1 := some (.int v)) (M1 := mk tl1 I2 L2 rd1) rfl rfl rfl Cy ?_
  exact lw_eq (p := 282) rfl hR
set_option maxRecDepth 20000 in
theorem cs_End {P : Mm → Prop} (S : SCR xs Ls I) (h : Ls ≤ 3584) (hL : 7 * c + 7 ≤ Ls) (hG : SG xs Ls c tl I L rd 115 179 [.int (xs (7 * c + 1))]) (hN : NXT xs Ls (c + 1) P) : ∃ Me, Runs 244 285 (lz c) [] (mk tl I L rd) (some (.int 1)) Me ∧ P Me := by
  obtain ⟨v, tl1, I1, L1, rd1, I2, L2, Cx, Cy, V, S1⟩ := hG
  obtain ⟨Me, hR, hb⟩ := hN tl1 I2 L2 rd1 V
  refine ⟨Me, ?_, hb⟩
  refine Runs.st (i' := 286) (ls' := lz c) (st' := [.ref 0]) (M' := mk tl I L rd) rfl rfl rfl rfl ?_
  refine lw_a S h hL 1 (by decide) (p := 286) (kI := 1) rfl rfl rfl rfl rfl rfl ?_
  refine Runs.call (k' := 115) (as := [.ref 0, .int (xs (7 * c + 1))]) (rest := []) (r1 := some (.int v)) (M1 := mk tl1 I1 L1 rd1) rfl rfl rfl Cx ?_
  refine Runs.st (i' := 293) (ls' := lz c) (st' := [.ref 61, .int v]) (M' := mk tl1 I1 L1 rd1) rfl rfl rfl rfl ?_
  refine lw_a S1 h hL 1 (by decide) (p := 293) (kI := 1) rfl rfl rfl rfl rfl rfl ?_
  refine Runs.call (k' := 179) (as := [.ref 61, .int (xs (7 * c + 1))]) (rest := [.int v]) (r1 := some (.int v)) (M1 := mk tl1 I2 L2 rd1) rfl rfl rfl Cy ?_
  exact lw_eq (p := 299) rfl hR
set_option maxRecDepth 20000 in
theorem cs_Act {P : Mm → Prop} (S : SCR xs Ls I) (h : Ls ≤ 3584) (hL : 7 * c + 7 ≤ Ls) (hG : SG xs Ls c tl I L rd 116 191 [.int (xs (7 * c + 1))]) (hN : NXT xs Ls (c + 1) P) : ∃ Me, Runs 244 302 (lz c) [] (mk tl I L rd) (some (.int 1)) Me ∧ P Me := by
  obtain ⟨v, tl1, I1, L1, rd1, I2, L2, Cx, Cy, V, S1⟩ := hG
  obtain ⟨Me, hR, hb⟩ := hN tl1 I2 L2 rd1 V
  refine ⟨Me, ?_, hb⟩
  refine Runs.st (i' := 303) (ls' := lz c) (st' := [.ref 0]) (M' := mk tl I L rd) rfl rfl rfl rfl ?_
  refine lw_a S h hL 1 (by decide) (p := 303) (kI := 1) rfl rfl rfl rfl rfl rfl ?_
  refine Runs.call (k' := 116) (as := [.ref 0, .int (xs (7 * c + 1))]) (rest := []) (r1 := some (.int v)) (M1 := mk tl1 I1 L1 rd1) rfl rfl rfl Cx ?_
  refine Runs.st (i' := 310) (ls' := lz c) (st' := [.ref 61, .int v]) (M' := mk tl1 I1 L1 rd1) rfl rfl rfl rfl ?_
  refine lw_a S1 h hL 1 (by decide) (p := 310) (kI := 1) rfl rfl rfl rfl rfl rfl ?_
  refine Runs.call (k' := 191) (as := [.ref 61, .int (xs (7 * c + 1))]) (rest := [.int v]) (r1 := some (.int v)) (M1 := mk tl1 I2 L2 rd1) rfl rfl rfl Cy ?_
  exact lw_eq (p := 316) rfl hR
set_option maxRecDepth 20000 in
theorem cs_Fault {P : Mm → Prop} (S : SCR xs Ls I) (h : Ls ≤ 3584) (hL : 7 * c + 7 ≤ Ls) (hG : SG xs Ls c tl I L rd 117 192 [.int (xs (7 * c + 1))]) (hN : NXT xs Ls (c + 1) P) : ∃ Me, Runs 244 319 (lz c) [] (mk tl I L rd) (some (.int 1)) Me ∧ P Me := by
  obtain ⟨v, tl1, I1, L1, rd1, I2, L2, Cx, Cy, V, S1⟩ := hG
  obtain ⟨Me, hR, hb⟩ := hN tl1 I2 L2 rd1 V
  refine ⟨Me, ?_, hb⟩
  refine Runs.st (i' := 320) (ls' := lz c) (st' := [.ref 0]) (M' := mk tl I L rd) rfl rfl rfl rfl ?_
  refine lw_a S h hL 1 (by decide) (p := 320) (kI := 1) rfl rfl rfl rfl rfl rfl ?_
  refine Runs.call (k' := 117) (as := [.ref 0, .int (xs (7 * c + 1))]) (rest := []) (r1 := some (.int v)) (M1 := mk tl1 I1 L1 rd1) rfl rfl rfl Cx ?_
  refine Runs.st (i' := 327) (ls' := lz c) (st' := [.ref 61, .int v]) (M' := mk tl1 I1 L1 rd1) rfl rfl rfl rfl ?_
  refine lw_a S1 h hL 1 (by decide) (p := 327) (kI := 1) rfl rfl rfl rfl rfl rfl ?_
  refine Runs.call (k' := 192) (as := [.ref 61, .int (xs (7 * c + 1))]) (rest := [.int v]) (r1 := some (.int v)) (M1 := mk tl1 I2 L2 rd1) rfl rfl rfl Cy ?_
  exact lw_eq (p := 333) rfl hR
set_option maxRecDepth 20000 in
theorem cs_Good {P : Mm → Prop} (S : SCR xs Ls I) (h : Ls ≤ 3584) (hL : 7 * c + 7 ≤ Ls) (hG : SG xs Ls c tl I L rd 118 194 [.int (xs (7 * c + 1)), .int (xs (7 * c + 2))]) (hN : NXT xs Ls (c + 1) P) : ∃ Me, Runs 244 336 (lz c) [] (mk tl I L rd) (some (.int 1)) Me ∧ P Me := by
  obtain ⟨v, tl1, I1, L1, rd1, I2, L2, Cx, Cy, V, S1⟩ := hG
  obtain ⟨Me, hR, hb⟩ := hN tl1 I2 L2 rd1 V
  refine ⟨Me, ?_, hb⟩
  refine Runs.st (i' := 337) (ls' := lz c) (st' := [.ref 0]) (M' := mk tl I L rd) rfl rfl rfl rfl ?_
  refine lw_a S h hL 1 (by decide) (p := 337) (kI := 1) rfl rfl rfl rfl rfl rfl ?_
  refine lw_a S h hL 2 (by decide) (p := 342) (kI := 2) rfl rfl rfl rfl rfl rfl ?_
  refine Runs.call (k' := 118) (as := [.ref 0, .int (xs (7 * c + 1)), .int (xs (7 * c + 2))]) (rest := []) (r1 := some (.int v)) (M1 := mk tl1 I1 L1 rd1) rfl rfl rfl Cx ?_
  refine Runs.st (i' := 349) (ls' := lz c) (st' := [.ref 61, .int v]) (M' := mk tl1 I1 L1 rd1) rfl rfl rfl rfl ?_
  refine lw_a S1 h hL 1 (by decide) (p := 349) (kI := 1) rfl rfl rfl rfl rfl rfl ?_
  refine lw_a S1 h hL 2 (by decide) (p := 354) (kI := 2) rfl rfl rfl rfl rfl rfl ?_
  refine Runs.call (k' := 194) (as := [.ref 61, .int (xs (7 * c + 1)), .int (xs (7 * c + 2))]) (rest := [.int v]) (r1 := some (.int v)) (M1 := mk tl1 I2 L2 rd1) rfl rfl rfl Cy ?_
  exact lw_eq (p := 360) rfl hR
set_option maxRecDepth 20000 in
theorem cs_Tells {P : Mm → Prop} (S : SCR xs Ls I) (h : Ls ≤ 3584) (hL : 7 * c + 7 ≤ Ls) (hG : SG xs Ls c tl I L rd 119 200 [.int (xs (7 * c + 1)), .int (xs (7 * c + 2)), .int (xs (7 * c + 3))]) (hN : NXT xs Ls (c + 1) P) : ∃ Me, Runs 244 363 (lz c) [] (mk tl I L rd) (some (.int 1)) Me ∧ P Me := by
  obtain ⟨v, tl1, I1, L1, rd1, I2, L2, Cx, Cy, V, S1⟩ := hG
  obtain ⟨Me, hR, hb⟩ := hN tl1 I2 L2 rd1 V
  refine ⟨Me, ?_, hb⟩
  refine Runs.st (i' := 364) (ls' := lz c) (st' := [.ref 0]) (M' := mk tl I L rd) rfl rfl rfl rfl ?_
  refine lw_a S h hL 1 (by decide) (p := 364) (kI := 1) rfl rfl rfl rfl rfl rfl ?_
  refine lw_a S h hL 2 (by decide) (p := 369) (kI := 2) rfl rfl rfl rfl rfl rfl ?_
  refine lw_a S h hL 3 (by decide) (p := 374) (kI := 3) rfl rfl rfl rfl rfl rfl ?_
  refine Runs.call (k' := 119) (as := [.ref 0, .int (xs (7 * c + 1)), .int (xs (7 * c + 2)), .int (xs (7 * c + 3))]) (rest := []) (r1 := some (.int v)) (M1 := mk tl1 I1 L1 rd1) rfl rfl rfl Cx ?_
  refine Runs.st (i' := 381) (ls' := lz c) (st' := [.ref 61, .int v]) (M' := mk tl1 I1 L1 rd1) rfl rfl rfl rfl ?_
  refine lw_a S1 h hL 1 (by decide) (p := 381) (kI := 1) rfl rfl rfl rfl rfl rfl ?_
  refine lw_a S1 h hL 2 (by decide) (p := 386) (kI := 2) rfl rfl rfl rfl rfl rfl ?_
  refine lw_a S1 h hL 3 (by decide) (p := 391) (kI := 3) rfl rfl rfl rfl rfl rfl ?_
  refine Runs.call (k' := 200) (as := [.ref 61, .int (xs (7 * c + 1)), .int (xs (7 * c + 2)), .int (xs (7 * c + 3))]) (rest := [.int v]) (r1 := some (.int v)) (M1 := mk tl1 I2 L2 rd1) rfl rfl rfl Cy ?_
  exact lw_eq (p := 397) rfl hR
set_option maxRecDepth 20000 in
theorem cs_Lawful {P : Mm → Prop} (S : SCR xs Ls I) (h : Ls ≤ 3584) (hL : 7 * c + 7 ≤ Ls) (hG : SG xs Ls c tl I L rd 120 201 [.int (xs (7 * c + 1)), .int (xs (7 * c + 2)), .int (xs (7 * c + 3))]) (hN : NXT xs Ls (c + 1) P) : ∃ Me, Runs 244 400 (lz c) [] (mk tl I L rd) (some (.int 1)) Me ∧ P Me := by
  obtain ⟨v, tl1, I1, L1, rd1, I2, L2, Cx, Cy, V, S1⟩ := hG
  obtain ⟨Me, hR, hb⟩ := hN tl1 I2 L2 rd1 V
  refine ⟨Me, ?_, hb⟩
  refine Runs.st (i' := 401) (ls' := lz c) (st' := [.ref 0]) (M' := mk tl I L rd) rfl rfl rfl rfl ?_
  refine lw_a S h hL 1 (by decide) (p := 401) (kI := 1) rfl rfl rfl rfl rfl rfl ?_
  refine lw_a S h hL 2 (by decide) (p := 406) (kI := 2) rfl rfl rfl rfl rfl rfl ?_
  refine lw_a S h hL 3 (by decide) (p := 411) (kI := 3) rfl rfl rfl rfl rfl rfl ?_
  refine Runs.call (k' := 120) (as := [.ref 0, .int (xs (7 * c + 1)), .int (xs (7 * c + 2)), .int (xs (7 * c + 3))]) (rest := []) (r1 := some (.int v)) (M1 := mk tl1 I1 L1 rd1) rfl rfl rfl Cx ?_
  refine Runs.st (i' := 418) (ls' := lz c) (st' := [.ref 61, .int v]) (M' := mk tl1 I1 L1 rd1) rfl rfl rfl rfl ?_
  refine lw_a S1 h hL 1 (by decide) (p := 418) (kI := 1) rfl rfl rfl rfl rfl rfl ?_
  refine lw_a S1 h hL 2 (by decide) (p := 423) (kI := 2) rfl rfl rfl rfl rfl rfl ?_
  refine lw_a S1 h hL 3 (by decide) (p := 428) (kI := 3) rfl rfl rfl rfl rfl rfl ?_
  refine Runs.call (k' := 201) (as := [.ref 61, .int (xs (7 * c + 1)), .int (xs (7 * c + 2)), .int (xs (7 * c + 3))]) (rest := [.int v]) (r1 := some (.int v)) (M1 := mk tl1 I2 L2 rd1) rfl rfl rfl Cy ?_
  exact lw_eq (p := 434) rfl hR
set_option maxRecDepth 20000 in
theorem cs_Hold {P : Mm → Prop} (S : SCR xs Ls I) (h : Ls ≤ 3584) (hL : 7 * c + 7 ≤ Ls) (hG : SG xs Ls c tl I L rd 121 203 [.int (xs (7 * c + 1)), .int (xs (7 * c + 2))]) (hN : NXT xs Ls (c + 1) P) : ∃ Me, Runs 244 437 (lz c) [] (mk tl I L rd) (some (.int 1)) Me ∧ P Me := by
  obtain ⟨v, tl1, I1, L1, rd1, I2, L2, Cx, Cy, V, S1⟩ := hG
  obtain ⟨Me, hR, hb⟩ := hN tl1 I2 L2 rd1 V
  refine ⟨Me, ?_, hb⟩
  refine Runs.st (i' := 438) (ls' := lz c) (st' := [.ref 0]) (M' := mk tl I L rd) rfl rfl rfl rfl ?_
  refine lw_a S h hL 1 (by decide) (p := 438) (kI := 1) rfl rfl rfl rfl rfl rfl ?_
  refine lw_a S h hL 2 (by decide) (p := 443) (kI := 2) rfl rfl rfl rfl rfl rfl ?_
  refine Runs.call (k' := 121) (as := [.ref 0, .int (xs (7 * c + 1)), .int (xs (7 * c + 2))]) (rest := []) (r1 := some (.int v)) (M1 := mk tl1 I1 L1 rd1) rfl rfl rfl Cx ?_
  refine Runs.st (i' := 450) (ls' := lz c) (st' := [.ref 61, .int v]) (M' := mk tl1 I1 L1 rd1) rfl rfl rfl rfl ?_
  refine lw_a S1 h hL 1 (by decide) (p := 450) (kI := 1) rfl rfl rfl rfl rfl rfl ?_
  refine lw_a S1 h hL 2 (by decide) (p := 455) (kI := 2) rfl rfl rfl rfl rfl rfl ?_
  refine Runs.call (k' := 203) (as := [.ref 61, .int (xs (7 * c + 1)), .int (xs (7 * c + 2))]) (rest := [.int v]) (r1 := some (.int v)) (M1 := mk tl1 I2 L2 rd1) rfl rfl rfl Cy ?_
  exact lw_eq (p := 461) rfl hR
set_option maxRecDepth 20000 in
theorem cs_Tire {P : Mm → Prop} (S : SCR xs Ls I) (h : Ls ≤ 3584) (hL : 7 * c + 7 ≤ Ls) (hG : SG xs Ls c tl I L rd 122 204 [.int (xs (7 * c + 1)), .int (xs (7 * c + 2))]) (hN : NXT xs Ls (c + 1) P) : ∃ Me, Runs 244 464 (lz c) [] (mk tl I L rd) (some (.int 1)) Me ∧ P Me := by
  obtain ⟨v, tl1, I1, L1, rd1, I2, L2, Cx, Cy, V, S1⟩ := hG
  obtain ⟨Me, hR, hb⟩ := hN tl1 I2 L2 rd1 V
  refine ⟨Me, ?_, hb⟩
  refine Runs.st (i' := 465) (ls' := lz c) (st' := [.ref 0]) (M' := mk tl I L rd) rfl rfl rfl rfl ?_
  refine lw_a S h hL 1 (by decide) (p := 465) (kI := 1) rfl rfl rfl rfl rfl rfl ?_
  refine lw_a S h hL 2 (by decide) (p := 470) (kI := 2) rfl rfl rfl rfl rfl rfl ?_
  refine Runs.call (k' := 122) (as := [.ref 0, .int (xs (7 * c + 1)), .int (xs (7 * c + 2))]) (rest := []) (r1 := some (.int v)) (M1 := mk tl1 I1 L1 rd1) rfl rfl rfl Cx ?_
  refine Runs.st (i' := 477) (ls' := lz c) (st' := [.ref 61, .int v]) (M' := mk tl1 I1 L1 rd1) rfl rfl rfl rfl ?_
  refine lw_a S1 h hL 1 (by decide) (p := 477) (kI := 1) rfl rfl rfl rfl rfl rfl ?_
  refine lw_a S1 h hL 2 (by decide) (p := 482) (kI := 2) rfl rfl rfl rfl rfl rfl ?_
  refine Runs.call (k' := 204) (as := [.ref 61, .int (xs (7 * c + 1)), .int (xs (7 * c + 2))]) (rest := [.int v]) (r1 := some (.int v)) (M1 := mk tl1 I2 L2 rd1) rfl rfl rfl Cy ?_
  exact lw_eq (p := 488) rfl hR
set_option maxRecDepth 20000 in
theorem cs_Leave {P : Mm → Prop} (S : SCR xs Ls I) (h : Ls ≤ 3584) (hL : 7 * c + 7 ≤ Ls) (hG : SG xs Ls c tl I L rd 123 206 [.int (xs (7 * c + 1))]) (hN : NXT xs Ls (c + 1) P) : ∃ Me, Runs 244 491 (lz c) [] (mk tl I L rd) (some (.int 1)) Me ∧ P Me := by
  obtain ⟨v, tl1, I1, L1, rd1, I2, L2, Cx, Cy, V, S1⟩ := hG
  obtain ⟨Me, hR, hb⟩ := hN tl1 I2 L2 rd1 V
  refine ⟨Me, ?_, hb⟩
  refine Runs.st (i' := 492) (ls' := lz c) (st' := [.ref 0]) (M' := mk tl I L rd) rfl rfl rfl rfl ?_
  refine lw_a S h hL 1 (by decide) (p := 492) (kI := 1) rfl rfl rfl rfl rfl rfl ?_
  refine Runs.call (k' := 123) (as := [.ref 0, .int (xs (7 * c + 1))]) (rest := []) (r1 := some (.int v)) (M1 := mk tl1 I1 L1 rd1) rfl rfl rfl Cx ?_
  refine Runs.st (i' := 499) (ls' := lz c) (st' := [.ref 61, .int v]) (M' := mk tl1 I1 L1 rd1) rfl rfl rfl rfl ?_
  refine lw_a S1 h hL 1 (by decide) (p := 499) (kI := 1) rfl rfl rfl rfl rfl rfl ?_
  refine Runs.call (k' := 206) (as := [.ref 61, .int (xs (7 * c + 1))]) (rest := [.int v]) (r1 := some (.int v)) (M1 := mk tl1 I2 L2 rd1) rfl rfl rfl Cy ?_
  exact lw_eq (p := 505) rfl hR
set_option maxRecDepth 20000 in
theorem cs_Room {P : Mm → Prop} (S : SCR xs Ls I) (h : Ls ≤ 3584) (hL : 7 * c + 7 ≤ Ls) (hG : SG xs Ls c tl I L rd 124 207 [.int (xs (7 * c + 1)), .int (xs (7 * c + 2))]) (hN : NXT xs Ls (c + 1) P) : ∃ Me, Runs 244 508 (lz c) [] (mk tl I L rd) (some (.int 1)) Me ∧ P Me := by
  obtain ⟨v, tl1, I1, L1, rd1, I2, L2, Cx, Cy, V, S1⟩ := hG
  obtain ⟨Me, hR, hb⟩ := hN tl1 I2 L2 rd1 V
  refine ⟨Me, ?_, hb⟩
  refine Runs.st (i' := 509) (ls' := lz c) (st' := [.ref 0]) (M' := mk tl I L rd) rfl rfl rfl rfl ?_
  refine lw_a S h hL 1 (by decide) (p := 509) (kI := 1) rfl rfl rfl rfl rfl rfl ?_
  refine lw_a S h hL 2 (by decide) (p := 514) (kI := 2) rfl rfl rfl rfl rfl rfl ?_
  refine Runs.call (k' := 124) (as := [.ref 0, .int (xs (7 * c + 1)), .int (xs (7 * c + 2))]) (rest := []) (r1 := some (.int v)) (M1 := mk tl1 I1 L1 rd1) rfl rfl rfl Cx ?_
  refine Runs.st (i' := 521) (ls' := lz c) (st' := [.ref 61, .int v]) (M' := mk tl1 I1 L1 rd1) rfl rfl rfl rfl ?_
  refine lw_a S1 h hL 1 (by decide) (p := 521) (kI := 1) rfl rfl rfl rfl rfl rfl ?_
  refine lw_a S1 h hL 2 (by decide) (p := 526) (kI := 2) rfl rfl rfl rfl rfl rfl ?_
  refine Runs.call (k' := 207) (as := [.ref 61, .int (xs (7 * c + 1)), .int (xs (7 * c + 2))]) (rest := [.int v]) (r1 := some (.int v)) (M1 := mk tl1 I2 L2 rd1) rfl rfl rfl Cy ?_
  exact lw_eq (p := 532) rfl hR
set_option maxRecDepth 20000 in
theorem cs_Walk {P : Mm → Prop} (S : SCR xs Ls I) (h : Ls ≤ 3584) (hL : 7 * c + 7 ≤ Ls) (hG : SG xs Ls c tl I L rd 125 208 [.int (xs (7 * c + 1)), .int (if xs (7 * c + 2) = 0 then 0 else 1)]) (hN : NXT xs Ls (c + 1) P) : ∃ Me, Runs 244 535 (lz c) [] (mk tl I L rd) (some (.int 1)) Me ∧ P Me := by
  obtain ⟨v, tl1, I1, L1, rd1, I2, L2, Cx, Cy, V, S1⟩ := hG
  obtain ⟨Me, hR, hb⟩ := hN tl1 I2 L2 rd1 V
  refine ⟨Me, ?_, hb⟩
  refine Runs.st (i' := 536) (ls' := lz c) (st' := [.ref 0]) (M' := mk tl I L rd) rfl rfl rfl rfl ?_
  refine lw_a S h hL 1 (by decide) (p := 536) (kI := 1) rfl rfl rfl rfl rfl rfl ?_
  refine lw_a S h hL 2 (by decide) (p := 541) (kI := 2) rfl rfl rfl rfl rfl rfl ?_
  refine Runs.st (i' := if decide (xs (7 * c + 2) = 0) = true then 549 else 547) (ls' := lz c) (st' := [.int (xs (7 * c + 1)), .ref 0]) (M' := mk tl I L rd) rfl rfl rfl rfl ?_
  refine Runs.dia (e := 550) (vT := 0) (vF := 1) (fun _ k => Runs.st (ins := .iconst 0) (i' := 550) (ls' := lz c) (M' := mk tl I L rd) rfl rfl rfl rfl k) (fun _ k => Runs.st (ins := .iconst 1) (i' := 548) (ls' := lz c) (M' := mk tl I L rd) rfl rfl rfl rfl (Runs.st (ins := .goto 550) (i' := 550) (ls' := lz c) (M' := mk tl I L rd) rfl rfl rfl rfl k)) ?_
  refine Runs.call (k' := 125) (as := [.ref 0, .int (xs (7 * c + 1)), .int (if xs (7 * c + 2) = 0 then 0 else 1)]) (rest := []) (r1 := some (.int v)) (M1 := mk tl1 I1 L1 rd1) rfl rfl rfl Cx ?_
  refine Runs.st (i' := 552) (ls' := lz c) (st' := [.ref 61, .int v]) (M' := mk tl1 I1 L1 rd1) rfl rfl rfl rfl ?_
  refine lw_a S1 h hL 1 (by decide) (p := 552) (kI := 1) rfl rfl rfl rfl rfl rfl ?_
  refine lw_a S1 h hL 2 (by decide) (p := 557) (kI := 2) rfl rfl rfl rfl rfl rfl ?_
  refine Runs.st (i' := if decide (xs (7 * c + 2) = 0) = true then 565 else 563) (ls' := lz c) (st' := [.int (xs (7 * c + 1)), .ref 61, .int v]) (M' := mk tl1 I1 L1 rd1) rfl rfl rfl rfl ?_
  refine Runs.dia (e := 566) (vT := 0) (vF := 1) (fun _ k => Runs.st (ins := .iconst 0) (i' := 566) (ls' := lz c) (M' := mk tl1 I1 L1 rd1) rfl rfl rfl rfl k) (fun _ k => Runs.st (ins := .iconst 1) (i' := 564) (ls' := lz c) (M' := mk tl1 I1 L1 rd1) rfl rfl rfl rfl (Runs.st (ins := .goto 566) (i' := 566) (ls' := lz c) (M' := mk tl1 I1 L1 rd1) rfl rfl rfl rfl k)) ?_
  refine Runs.call (k' := 208) (as := [.ref 61, .int (xs (7 * c + 1)), .int (if xs (7 * c + 2) = 0 then 0 else 1)]) (rest := [.int v]) (r1 := some (.int v)) (M1 := mk tl1 I2 L2 rd1) rfl rfl rfl Cy ?_
  exact lw_eq (p := 567) rfl hR
set_option maxRecDepth 20000 in
theorem cs_Hour {P : Mm → Prop} (S : SCR xs Ls I) (h : Ls ≤ 3584) (hL : 7 * c + 7 ≤ Ls) (hG : SG xs Ls c tl I L rd 126 209 []) (hN : NXT xs Ls (c + 1) P) : ∃ Me, Runs 244 570 (lz c) [] (mk tl I L rd) (some (.int 1)) Me ∧ P Me := by
  obtain ⟨v, tl1, I1, L1, rd1, I2, L2, Cx, Cy, V, S1⟩ := hG
  obtain ⟨Me, hR, hb⟩ := hN tl1 I2 L2 rd1 V
  refine ⟨Me, ?_, hb⟩
  refine Runs.st (i' := 571) (ls' := lz c) (st' := [.ref 0]) (M' := mk tl I L rd) rfl rfl rfl rfl ?_
  refine Runs.call (k' := 126) (as := [.ref 0]) (rest := []) (r1 := some (.int v)) (M1 := mk tl1 I1 L1 rd1) rfl rfl rfl Cx ?_
  refine Runs.st (i' := 573) (ls' := lz c) (st' := [.ref 61, .int v]) (M' := mk tl1 I1 L1 rd1) rfl rfl rfl rfl ?_
  refine Runs.call (k' := 209) (as := [.ref 61]) (rest := [.int v]) (r1 := some (.int v)) (M1 := mk tl1 I2 L2 rd1) rfl rfl rfl Cy ?_
  exact lw_eq (p := 574) rfl hR
set_option maxRecDepth 20000 in
theorem cs_Day {P : Mm → Prop} (S : SCR xs Ls I) (h : Ls ≤ 3584) (hL : 7 * c + 7 ≤ Ls) (hG : SG xs Ls c tl I L rd 127 211 []) (hN : NXT xs Ls (c + 1) P) : ∃ Me, Runs 244 577 (lz c) [] (mk tl I L rd) (some (.int 1)) Me ∧ P Me := by
  obtain ⟨v, tl1, I1, L1, rd1, I2, L2, Cx, Cy, V, S1⟩ := hG
  obtain ⟨Me, hR, hb⟩ := hN tl1 I2 L2 rd1 V
  refine ⟨Me, ?_, hb⟩
  refine Runs.st (i' := 578) (ls' := lz c) (st' := [.ref 0]) (M' := mk tl I L rd) rfl rfl rfl rfl ?_
  refine Runs.call (k' := 127) (as := [.ref 0]) (rest := []) (r1 := some (.int v)) (M1 := mk tl1 I1 L1 rd1) rfl rfl rfl Cx ?_
  refine Runs.st (i' := 580) (ls' := lz c) (st' := [.ref 61, .int v]) (M' := mk tl1 I1 L1 rd1) rfl rfl rfl rfl ?_
  refine Runs.call (k' := 211) (as := [.ref 61]) (rest := [.int v]) (r1 := some (.int v)) (M1 := mk tl1 I2 L2 rd1) rfl rfl rfl Cy ?_
  exact lw_eq (p := 581) rfl hR
set_option maxRecDepth 20000 in
theorem cs_Turn {P : Mm → Prop} (S : SCR xs Ls I) (h : Ls ≤ 3584) (hL : 7 * c + 7 ≤ Ls) (hG : SG xs Ls c tl I L rd 128 212 []) (hN : NXT xs Ls (c + 1) P) : ∃ Me, Runs 244 584 (lz c) [] (mk tl I L rd) (some (.int 1)) Me ∧ P Me := by
  obtain ⟨v, tl1, I1, L1, rd1, I2, L2, Cx, Cy, V, S1⟩ := hG
  obtain ⟨Me, hR, hb⟩ := hN tl1 I2 L2 rd1 V
  refine ⟨Me, ?_, hb⟩
  refine Runs.st (i' := 585) (ls' := lz c) (st' := [.ref 0]) (M' := mk tl I L rd) rfl rfl rfl rfl ?_
  refine Runs.call (k' := 128) (as := [.ref 0]) (rest := []) (r1 := some (.int v)) (M1 := mk tl1 I1 L1 rd1) rfl rfl rfl Cx ?_
  refine Runs.st (i' := 587) (ls' := lz c) (st' := [.ref 61, .int v]) (M' := mk tl1 I1 L1 rd1) rfl rfl rfl rfl ?_
  refine Runs.call (k' := 212) (as := [.ref 61]) (rest := [.int v]) (r1 := some (.int v)) (M1 := mk tl1 I2 L2 rd1) rfl rfl rfl Cy ?_
  exact lw_eq (p := 588) rfl hR
set_option maxRecDepth 20000 in
theorem cs_Alms {P : Mm → Prop} (S : SCR xs Ls I) (h : Ls ≤ 3584) (hL : 7 * c + 7 ≤ Ls) (hG : SG xs Ls c tl I L rd 129 213 [.int (xs (7 * c + 1))]) (hN : NXT xs Ls (c + 1) P) : ∃ Me, Runs 244 591 (lz c) [] (mk tl I L rd) (some (.int 1)) Me ∧ P Me := by
  obtain ⟨v, tl1, I1, L1, rd1, I2, L2, Cx, Cy, V, S1⟩ := hG
  obtain ⟨Me, hR, hb⟩ := hN tl1 I2 L2 rd1 V
  refine ⟨Me, ?_, hb⟩
  refine Runs.st (i' := 592) (ls' := lz c) (st' := [.ref 0]) (M' := mk tl I L rd) rfl rfl rfl rfl ?_
  refine lw_a S h hL 1 (by decide) (p := 592) (kI := 1) rfl rfl rfl rfl rfl rfl ?_
  refine Runs.call (k' := 129) (as := [.ref 0, .int (xs (7 * c + 1))]) (rest := []) (r1 := some (.int v)) (M1 := mk tl1 I1 L1 rd1) rfl rfl rfl Cx ?_
  refine Runs.st (i' := 599) (ls' := lz c) (st' := [.ref 61, .int v]) (M' := mk tl1 I1 L1 rd1) rfl rfl rfl rfl ?_
  refine lw_a S1 h hL 1 (by decide) (p := 599) (kI := 1) rfl rfl rfl rfl rfl rfl ?_
  refine Runs.call (k' := 213) (as := [.ref 61, .int (xs (7 * c + 1))]) (rest := [.int v]) (r1 := some (.int v)) (M1 := mk tl1 I2 L2 rd1) rfl rfl rfl Cy ?_
  exact lw_eq (p := 605) rfl hR
set_option maxRecDepth 20000 in
theorem cs_Tell {P : Mm → Prop} (S : SCR xs Ls I) (h : Ls ≤ 3584) (hL : 7 * c + 7 ≤ Ls) (hG : SG xs Ls c tl I L rd 130 216 [.int (xs (7 * c + 1)), .int (xs (7 * c + 2))]) (hN : NXT xs Ls (c + 1) P) : ∃ Me, Runs 244 608 (lz c) [] (mk tl I L rd) (some (.int 1)) Me ∧ P Me := by
  obtain ⟨v, tl1, I1, L1, rd1, I2, L2, Cx, Cy, V, S1⟩ := hG
  obtain ⟨Me, hR, hb⟩ := hN tl1 I2 L2 rd1 V
  refine ⟨Me, ?_, hb⟩
  refine Runs.st (i' := 609) (ls' := lz c) (st' := [.ref 0]) (M' := mk tl I L rd) rfl rfl rfl rfl ?_
  refine lw_a S h hL 1 (by decide) (p := 609) (kI := 1) rfl rfl rfl rfl rfl rfl ?_
  refine lw_a S h hL 2 (by decide) (p := 614) (kI := 2) rfl rfl rfl rfl rfl rfl ?_
  refine Runs.call (k' := 130) (as := [.ref 0, .int (xs (7 * c + 1)), .int (xs (7 * c + 2))]) (rest := []) (r1 := some (.int v)) (M1 := mk tl1 I1 L1 rd1) rfl rfl rfl Cx ?_
  refine Runs.st (i' := 621) (ls' := lz c) (st' := [.ref 61, .int v]) (M' := mk tl1 I1 L1 rd1) rfl rfl rfl rfl ?_
  refine lw_a S1 h hL 1 (by decide) (p := 621) (kI := 1) rfl rfl rfl rfl rfl rfl ?_
  refine lw_a S1 h hL 2 (by decide) (p := 626) (kI := 2) rfl rfl rfl rfl rfl rfl ?_
  refine Runs.call (k' := 216) (as := [.ref 61, .int (xs (7 * c + 1)), .int (xs (7 * c + 2))]) (rest := [.int v]) (r1 := some (.int v)) (M1 := mk tl1 I2 L2 rd1) rfl rfl rfl Cy ?_
  exact lw_eq (p := 632) rfl hR
set_option maxRecDepth 20000 in
theorem cs_Least {P : Mm → Prop} (S : SCR xs Ls I) (h : Ls ≤ 3584) (hL : 7 * c + 7 ≤ Ls) (hG : SG xs Ls c tl I L rd 131 217 [.int (xs (7 * c + 1)), .int (xs (7 * c + 2)), .int (xs (7 * c + 3))]) (hN : NXT xs Ls (c + 1) P) : ∃ Me, Runs 244 635 (lz c) [] (mk tl I L rd) (some (.int 1)) Me ∧ P Me := by
  obtain ⟨v, tl1, I1, L1, rd1, I2, L2, Cx, Cy, V, S1⟩ := hG
  obtain ⟨Me, hR, hb⟩ := hN tl1 I2 L2 rd1 V
  refine ⟨Me, ?_, hb⟩
  refine Runs.st (i' := 636) (ls' := lz c) (st' := [.ref 0]) (M' := mk tl I L rd) rfl rfl rfl rfl ?_
  refine lw_a S h hL 1 (by decide) (p := 636) (kI := 1) rfl rfl rfl rfl rfl rfl ?_
  refine lw_a S h hL 2 (by decide) (p := 641) (kI := 2) rfl rfl rfl rfl rfl rfl ?_
  refine lw_a S h hL 3 (by decide) (p := 646) (kI := 3) rfl rfl rfl rfl rfl rfl ?_
  refine Runs.call (k' := 131) (as := [.ref 0, .int (xs (7 * c + 1)), .int (xs (7 * c + 2)), .int (xs (7 * c + 3))]) (rest := []) (r1 := some (.int v)) (M1 := mk tl1 I1 L1 rd1) rfl rfl rfl Cx ?_
  refine Runs.st (i' := 653) (ls' := lz c) (st' := [.ref 61, .int v]) (M' := mk tl1 I1 L1 rd1) rfl rfl rfl rfl ?_
  refine lw_a S1 h hL 1 (by decide) (p := 653) (kI := 1) rfl rfl rfl rfl rfl rfl ?_
  refine lw_a S1 h hL 2 (by decide) (p := 658) (kI := 2) rfl rfl rfl rfl rfl rfl ?_
  refine lw_a S1 h hL 3 (by decide) (p := 663) (kI := 3) rfl rfl rfl rfl rfl rfl ?_
  refine Runs.call (k' := 217) (as := [.ref 61, .int (xs (7 * c + 1)), .int (xs (7 * c + 2)), .int (xs (7 * c + 3))]) (rest := [.int v]) (r1 := some (.int v)) (M1 := mk tl1 I2 L2 rd1) rfl rfl rfl Cy ?_
  exact lw_eq (p := 669) rfl hR
set_option maxRecDepth 20000 in
theorem cs_Binds {P : Mm → Prop} (S : SCR xs Ls I) (h : Ls ≤ 3584) (hL : 7 * c + 7 ≤ Ls) (hG : SG xs Ls c tl I L rd 132 221 [.int (xs (7 * c + 1)), .int (xs (7 * c + 2))]) (hN : NXT xs Ls (c + 1) P) : ∃ Me, Runs 244 672 (lz c) [] (mk tl I L rd) (some (.int 1)) Me ∧ P Me := by
  obtain ⟨v, tl1, I1, L1, rd1, I2, L2, Cx, Cy, V, S1⟩ := hG
  obtain ⟨Me, hR, hb⟩ := hN tl1 I2 L2 rd1 V
  refine ⟨Me, ?_, hb⟩
  refine Runs.st (i' := 673) (ls' := lz c) (st' := [.ref 0]) (M' := mk tl I L rd) rfl rfl rfl rfl ?_
  refine lw_a S h hL 1 (by decide) (p := 673) (kI := 1) rfl rfl rfl rfl rfl rfl ?_
  refine lw_a S h hL 2 (by decide) (p := 678) (kI := 2) rfl rfl rfl rfl rfl rfl ?_
  refine Runs.call (k' := 132) (as := [.ref 0, .int (xs (7 * c + 1)), .int (xs (7 * c + 2))]) (rest := []) (r1 := some (.int v)) (M1 := mk tl1 I1 L1 rd1) rfl rfl rfl Cx ?_
  refine Runs.st (i' := 685) (ls' := lz c) (st' := [.ref 61, .int v]) (M' := mk tl1 I1 L1 rd1) rfl rfl rfl rfl ?_
  refine lw_a S1 h hL 1 (by decide) (p := 685) (kI := 1) rfl rfl rfl rfl rfl rfl ?_
  refine lw_a S1 h hL 2 (by decide) (p := 690) (kI := 2) rfl rfl rfl rfl rfl rfl ?_
  refine Runs.call (k' := 221) (as := [.ref 61, .int (xs (7 * c + 1)), .int (xs (7 * c + 2))]) (rest := [.int v]) (r1 := some (.int v)) (M1 := mk tl1 I2 L2 rd1) rfl rfl rfl Cy ?_
  exact lw_eq (p := 696) rfl hR
set_option maxRecDepth 20000 in
theorem cs_Offer {P : Mm → Prop} (S : SCR xs Ls I) (h : Ls ≤ 3584) (hL : 7 * c + 7 ≤ Ls) (hG : SG xs Ls c tl I L rd 133 222 [.int (xs (7 * c + 1))]) (hN : NXT xs Ls (c + 1) P) : ∃ Me, Runs 244 699 (lz c) [] (mk tl I L rd) (some (.int 1)) Me ∧ P Me := by
  obtain ⟨v, tl1, I1, L1, rd1, I2, L2, Cx, Cy, V, S1⟩ := hG
  obtain ⟨Me, hR, hb⟩ := hN tl1 I2 L2 rd1 V
  refine ⟨Me, ?_, hb⟩
  refine Runs.st (i' := 700) (ls' := lz c) (st' := [.ref 0]) (M' := mk tl I L rd) rfl rfl rfl rfl ?_
  refine lw_a S h hL 1 (by decide) (p := 700) (kI := 1) rfl rfl rfl rfl rfl rfl ?_
  refine Runs.call (k' := 133) (as := [.ref 0, .int (xs (7 * c + 1))]) (rest := []) (r1 := some (.int v)) (M1 := mk tl1 I1 L1 rd1) rfl rfl rfl Cx ?_
  refine Runs.st (i' := 707) (ls' := lz c) (st' := [.ref 61, .int v]) (M' := mk tl1 I1 L1 rd1) rfl rfl rfl rfl ?_
  refine lw_a S1 h hL 1 (by decide) (p := 707) (kI := 1) rfl rfl rfl rfl rfl rfl ?_
  refine Runs.call (k' := 222) (as := [.ref 61, .int (xs (7 * c + 1))]) (rest := [.int v]) (r1 := some (.int v)) (M1 := mk tl1 I2 L2 rd1) rfl rfl rfl Cy ?_
  exact lw_eq (p := 713) rfl hR
set_option maxRecDepth 20000 in
theorem cs_Compose {P : Mm → Prop} (S : SCR xs Ls I) (h : Ls ≤ 3584) (hL : 7 * c + 7 ≤ Ls) (hG : SG xs Ls c tl I L rd 134 223 [.int (xs (7 * c + 1)), .int (xs (7 * c + 2))]) (hN : NXT xs Ls (c + 1) P) : ∃ Me, Runs 244 716 (lz c) [] (mk tl I L rd) (some (.int 1)) Me ∧ P Me := by
  obtain ⟨v, tl1, I1, L1, rd1, I2, L2, Cx, Cy, V, S1⟩ := hG
  obtain ⟨Me, hR, hb⟩ := hN tl1 I2 L2 rd1 V
  refine ⟨Me, ?_, hb⟩
  refine Runs.st (i' := 717) (ls' := lz c) (st' := [.ref 0]) (M' := mk tl I L rd) rfl rfl rfl rfl ?_
  refine lw_a S h hL 1 (by decide) (p := 717) (kI := 1) rfl rfl rfl rfl rfl rfl ?_
  refine lw_a S h hL 2 (by decide) (p := 722) (kI := 2) rfl rfl rfl rfl rfl rfl ?_
  refine Runs.call (k' := 134) (as := [.ref 0, .int (xs (7 * c + 1)), .int (xs (7 * c + 2))]) (rest := []) (r1 := some (.int v)) (M1 := mk tl1 I1 L1 rd1) rfl rfl rfl Cx ?_
  refine Runs.st (i' := 729) (ls' := lz c) (st' := [.ref 61, .int v]) (M' := mk tl1 I1 L1 rd1) rfl rfl rfl rfl ?_
  refine lw_a S1 h hL 1 (by decide) (p := 729) (kI := 1) rfl rfl rfl rfl rfl rfl ?_
  refine lw_a S1 h hL 2 (by decide) (p := 734) (kI := 2) rfl rfl rfl rfl rfl rfl ?_
  refine Runs.call (k' := 223) (as := [.ref 61, .int (xs (7 * c + 1)), .int (xs (7 * c + 2))]) (rest := [.int v]) (r1 := some (.int v)) (M1 := mk tl1 I2 L2 rd1) rfl rfl rfl Cy ?_
  exact lw_eq (p := 740) rfl hR
set_option maxRecDepth 20000 in
theorem cs_Buy {P : Mm → Prop} (S : SCR xs Ls I) (h : Ls ≤ 3584) (hL : 7 * c + 7 ≤ Ls) (hG : SG xs Ls c tl I L rd 135 224 [.int (xs (7 * c + 1)), .int (xs (7 * c + 2)), .int (xs (7 * c + 3))]) (hN : NXT xs Ls (c + 1) P) : ∃ Me, Runs 244 743 (lz c) [] (mk tl I L rd) (some (.int 1)) Me ∧ P Me := by
  obtain ⟨v, tl1, I1, L1, rd1, I2, L2, Cx, Cy, V, S1⟩ := hG
  obtain ⟨Me, hR, hb⟩ := hN tl1 I2 L2 rd1 V
  refine ⟨Me, ?_, hb⟩
  refine Runs.st (i' := 744) (ls' := lz c) (st' := [.ref 0]) (M' := mk tl I L rd) rfl rfl rfl rfl ?_
  refine lw_a S h hL 1 (by decide) (p := 744) (kI := 1) rfl rfl rfl rfl rfl rfl ?_
  refine lw_a S h hL 2 (by decide) (p := 749) (kI := 2) rfl rfl rfl rfl rfl rfl ?_
  refine lw_a S h hL 3 (by decide) (p := 754) (kI := 3) rfl rfl rfl rfl rfl rfl ?_
  refine Runs.call (k' := 135) (as := [.ref 0, .int (xs (7 * c + 1)), .int (xs (7 * c + 2)), .int (xs (7 * c + 3))]) (rest := []) (r1 := some (.int v)) (M1 := mk tl1 I1 L1 rd1) rfl rfl rfl Cx ?_
  refine Runs.st (i' := 761) (ls' := lz c) (st' := [.ref 61, .int v]) (M' := mk tl1 I1 L1 rd1) rfl rfl rfl rfl ?_
  refine lw_a S1 h hL 1 (by decide) (p := 761) (kI := 1) rfl rfl rfl rfl rfl rfl ?_
  refine lw_a S1 h hL 2 (by decide) (p := 766) (kI := 2) rfl rfl rfl rfl rfl rfl ?_
  refine lw_a S1 h hL 3 (by decide) (p := 771) (kI := 3) rfl rfl rfl rfl rfl rfl ?_
  refine Runs.call (k' := 224) (as := [.ref 61, .int (xs (7 * c + 1)), .int (xs (7 * c + 2)), .int (xs (7 * c + 3))]) (rest := [.int v]) (r1 := some (.int v)) (M1 := mk tl1 I2 L2 rd1) rfl rfl rfl Cy ?_
  exact lw_eq (p := 777) rfl hR
set_option maxRecDepth 20000 in
theorem cs_Swing {P : Mm → Prop} (S : SCR xs Ls I) (h : Ls ≤ 3584) (hL : 7 * c + 7 ≤ Ls) (hG : SG xs Ls c tl I L rd 136 225 [.int (xs (7 * c + 1)), .int (xs (7 * c + 2)), .int (xs (7 * c + 3)), .int (xs (7 * c + 4))]) (hN : NXT xs Ls (c + 1) P) : ∃ Me, Runs 244 780 (lz c) [] (mk tl I L rd) (some (.int 1)) Me ∧ P Me := by
  obtain ⟨v, tl1, I1, L1, rd1, I2, L2, Cx, Cy, V, S1⟩ := hG
  obtain ⟨Me, hR, hb⟩ := hN tl1 I2 L2 rd1 V
  refine ⟨Me, ?_, hb⟩
  refine Runs.st (i' := 781) (ls' := lz c) (st' := [.ref 0]) (M' := mk tl I L rd) rfl rfl rfl rfl ?_
  refine lw_a S h hL 1 (by decide) (p := 781) (kI := 1) rfl rfl rfl rfl rfl rfl ?_
  refine lw_a S h hL 2 (by decide) (p := 786) (kI := 2) rfl rfl rfl rfl rfl rfl ?_
  refine lw_a S h hL 3 (by decide) (p := 791) (kI := 3) rfl rfl rfl rfl rfl rfl ?_
  refine lw_a S h hL 4 (by decide) (p := 796) (kI := 4) rfl rfl rfl rfl rfl rfl ?_
  refine Runs.call (k' := 136) (as := [.ref 0, .int (xs (7 * c + 1)), .int (xs (7 * c + 2)), .int (xs (7 * c + 3)), .int (xs (7 * c + 4))]) (rest := []) (r1 := some (.int v)) (M1 := mk tl1 I1 L1 rd1) rfl rfl rfl Cx ?_
  refine Runs.st (i' := 803) (ls' := lz c) (st' := [.ref 61, .int v]) (M' := mk tl1 I1 L1 rd1) rfl rfl rfl rfl ?_
  refine lw_a S1 h hL 1 (by decide) (p := 803) (kI := 1) rfl rfl rfl rfl rfl rfl ?_
  refine lw_a S1 h hL 2 (by decide) (p := 808) (kI := 2) rfl rfl rfl rfl rfl rfl ?_
  refine lw_a S1 h hL 3 (by decide) (p := 813) (kI := 3) rfl rfl rfl rfl rfl rfl ?_
  refine lw_a S1 h hL 4 (by decide) (p := 818) (kI := 4) rfl rfl rfl rfl rfl rfl ?_
  refine Runs.call (k' := 225) (as := [.ref 61, .int (xs (7 * c + 1)), .int (xs (7 * c + 2)), .int (xs (7 * c + 3)), .int (xs (7 * c + 4))]) (rest := [.int v]) (r1 := some (.int v)) (M1 := mk tl1 I2 L2 rd1) rfl rfl rfl Cy ?_
  exact lw_eq (p := 824) rfl hR
set_option maxRecDepth 20000 in
theorem cs_Surr {P : Mm → Prop} (S : SCR xs Ls I) (h : Ls ≤ 3584) (hL : 7 * c + 7 ≤ Ls) (hG : SG xs Ls c tl I L rd 137 228 [.int (xs (7 * c + 1))]) (hN : NXT xs Ls (c + 1) P) : ∃ Me, Runs 244 827 (lz c) [] (mk tl I L rd) (some (.int 1)) Me ∧ P Me := by
  obtain ⟨v, tl1, I1, L1, rd1, I2, L2, Cx, Cy, V, S1⟩ := hG
  obtain ⟨Me, hR, hb⟩ := hN tl1 I2 L2 rd1 V
  refine ⟨Me, ?_, hb⟩
  refine Runs.st (i' := 828) (ls' := lz c) (st' := [.ref 0]) (M' := mk tl I L rd) rfl rfl rfl rfl ?_
  refine lw_a S h hL 1 (by decide) (p := 828) (kI := 1) rfl rfl rfl rfl rfl rfl ?_
  refine Runs.call (k' := 137) (as := [.ref 0, .int (xs (7 * c + 1))]) (rest := []) (r1 := some (.int v)) (M1 := mk tl1 I1 L1 rd1) rfl rfl rfl Cx ?_
  refine Runs.st (i' := 835) (ls' := lz c) (st' := [.ref 61, .int v]) (M' := mk tl1 I1 L1 rd1) rfl rfl rfl rfl ?_
  refine lw_a S1 h hL 1 (by decide) (p := 835) (kI := 1) rfl rfl rfl rfl rfl rfl ?_
  refine Runs.call (k' := 228) (as := [.ref 61, .int (xs (7 * c + 1))]) (rest := [.int v]) (r1 := some (.int v)) (M1 := mk tl1 I2 L2 rd1) rfl rfl rfl Cy ?_
  exact lw_eq (p := 841) rfl hR
set_option maxRecDepth 20000 in
theorem cs_Found {P : Mm → Prop} (S : SCR xs Ls I) (h : Ls ≤ 3584) (hL : 7 * c + 7 ≤ Ls) (hG : SG xs Ls c tl I L rd 138 229 [.int (xs (7 * c + 1)), .int (xs (7 * c + 2))]) (hN : NXT xs Ls (c + 1) P) : ∃ Me, Runs 244 844 (lz c) [] (mk tl I L rd) (some (.int 1)) Me ∧ P Me := by
  obtain ⟨v, tl1, I1, L1, rd1, I2, L2, Cx, Cy, V, S1⟩ := hG
  obtain ⟨Me, hR, hb⟩ := hN tl1 I2 L2 rd1 V
  refine ⟨Me, ?_, hb⟩
  refine Runs.st (i' := 845) (ls' := lz c) (st' := [.ref 0]) (M' := mk tl I L rd) rfl rfl rfl rfl ?_
  refine lw_a S h hL 1 (by decide) (p := 845) (kI := 1) rfl rfl rfl rfl rfl rfl ?_
  refine lw_a S h hL 2 (by decide) (p := 850) (kI := 2) rfl rfl rfl rfl rfl rfl ?_
  refine Runs.call (k' := 138) (as := [.ref 0, .int (xs (7 * c + 1)), .int (xs (7 * c + 2))]) (rest := []) (r1 := some (.int v)) (M1 := mk tl1 I1 L1 rd1) rfl rfl rfl Cx ?_
  refine Runs.st (i' := 857) (ls' := lz c) (st' := [.ref 61, .int v]) (M' := mk tl1 I1 L1 rd1) rfl rfl rfl rfl ?_
  refine lw_a S1 h hL 1 (by decide) (p := 857) (kI := 1) rfl rfl rfl rfl rfl rfl ?_
  refine lw_a S1 h hL 2 (by decide) (p := 862) (kI := 2) rfl rfl rfl rfl rfl rfl ?_
  refine Runs.call (k' := 229) (as := [.ref 61, .int (xs (7 * c + 1)), .int (xs (7 * c + 2))]) (rest := [.int v]) (r1 := some (.int v)) (M1 := mk tl1 I2 L2 rd1) rfl rfl rfl Cy ?_
  exact lw_eq (p := 868) rfl hR
set_option maxRecDepth 20000 in
theorem cs_Book {P : Mm → Prop} (S : SCR xs Ls I) (h : Ls ≤ 3584) (hL : 7 * c + 7 ≤ Ls) (hG : SG xs Ls c tl I L rd 139 230 [.int (xs (7 * c + 1)), .int (xs (7 * c + 2))]) (hN : NXT xs Ls (c + 1) P) : ∃ Me, Runs 244 871 (lz c) [] (mk tl I L rd) (some (.int 1)) Me ∧ P Me := by
  obtain ⟨v, tl1, I1, L1, rd1, I2, L2, Cx, Cy, V, S1⟩ := hG
  obtain ⟨Me, hR, hb⟩ := hN tl1 I2 L2 rd1 V
  refine ⟨Me, ?_, hb⟩
  refine Runs.st (i' := 872) (ls' := lz c) (st' := [.ref 0]) (M' := mk tl I L rd) rfl rfl rfl rfl ?_
  refine lw_a S h hL 1 (by decide) (p := 872) (kI := 1) rfl rfl rfl rfl rfl rfl ?_
  refine lw_a S h hL 2 (by decide) (p := 877) (kI := 2) rfl rfl rfl rfl rfl rfl ?_
  refine Runs.call (k' := 139) (as := [.ref 0, .int (xs (7 * c + 1)), .int (xs (7 * c + 2))]) (rest := []) (r1 := some (.int v)) (M1 := mk tl1 I1 L1 rd1) rfl rfl rfl Cx ?_
  refine Runs.st (i' := 884) (ls' := lz c) (st' := [.ref 61, .int v]) (M' := mk tl1 I1 L1 rd1) rfl rfl rfl rfl ?_
  refine lw_a S1 h hL 1 (by decide) (p := 884) (kI := 1) rfl rfl rfl rfl rfl rfl ?_
  refine lw_a S1 h hL 2 (by decide) (p := 889) (kI := 2) rfl rfl rfl rfl rfl rfl ?_
  refine Runs.call (k' := 230) (as := [.ref 61, .int (xs (7 * c + 1)), .int (xs (7 * c + 2))]) (rest := [.int v]) (r1 := some (.int v)) (M1 := mk tl1 I2 L2 rd1) rfl rfl rfl Cy ?_
  exact lw_eq (p := 895) rfl hR
set_option maxRecDepth 20000 in
theorem cs_Free {P : Mm → Prop} (S : SCR xs Ls I) (h : Ls ≤ 3584) (hL : 7 * c + 7 ≤ Ls) (hG : SG xs Ls c tl I L rd 140 232 [.int (xs (7 * c + 1)), .int (xs (7 * c + 2))]) (hN : NXT xs Ls (c + 1) P) : ∃ Me, Runs 244 898 (lz c) [] (mk tl I L rd) (some (.int 1)) Me ∧ P Me := by
  obtain ⟨v, tl1, I1, L1, rd1, I2, L2, Cx, Cy, V, S1⟩ := hG
  obtain ⟨Me, hR, hb⟩ := hN tl1 I2 L2 rd1 V
  refine ⟨Me, ?_, hb⟩
  refine Runs.st (i' := 899) (ls' := lz c) (st' := [.ref 0]) (M' := mk tl I L rd) rfl rfl rfl rfl ?_
  refine lw_a S h hL 1 (by decide) (p := 899) (kI := 1) rfl rfl rfl rfl rfl rfl ?_
  refine lw_a S h hL 2 (by decide) (p := 904) (kI := 2) rfl rfl rfl rfl rfl rfl ?_
  refine Runs.call (k' := 140) (as := [.ref 0, .int (xs (7 * c + 1)), .int (xs (7 * c + 2))]) (rest := []) (r1 := some (.int v)) (M1 := mk tl1 I1 L1 rd1) rfl rfl rfl Cx ?_
  refine Runs.st (i' := 911) (ls' := lz c) (st' := [.ref 61, .int v]) (M' := mk tl1 I1 L1 rd1) rfl rfl rfl rfl ?_
  refine lw_a S1 h hL 1 (by decide) (p := 911) (kI := 1) rfl rfl rfl rfl rfl rfl ?_
  refine lw_a S1 h hL 2 (by decide) (p := 916) (kI := 2) rfl rfl rfl rfl rfl rfl ?_
  refine Runs.call (k' := 232) (as := [.ref 61, .int (xs (7 * c + 1)), .int (xs (7 * c + 2))]) (rest := [.int v]) (r1 := some (.int v)) (M1 := mk tl1 I2 L2 rd1) rfl rfl rfl Cy ?_
  exact lw_eq (p := 922) rfl hR
set_option maxRecDepth 20000 in
theorem cs_Count {P : Mm → Prop} (S : SCR xs Ls I) (h : Ls ≤ 3584) (hL : 7 * c + 7 ≤ Ls) (hG : SG xs Ls c tl I L rd 141 233 [.int (xs (7 * c + 1))]) (hN : NXT xs Ls (c + 1) P) : ∃ Me, Runs 244 925 (lz c) [] (mk tl I L rd) (some (.int 1)) Me ∧ P Me := by
  obtain ⟨v, tl1, I1, L1, rd1, I2, L2, Cx, Cy, V, S1⟩ := hG
  obtain ⟨Me, hR, hb⟩ := hN tl1 I2 L2 rd1 V
  refine ⟨Me, ?_, hb⟩
  refine Runs.st (i' := 926) (ls' := lz c) (st' := [.ref 0]) (M' := mk tl I L rd) rfl rfl rfl rfl ?_
  refine lw_a S h hL 1 (by decide) (p := 926) (kI := 1) rfl rfl rfl rfl rfl rfl ?_
  refine Runs.call (k' := 141) (as := [.ref 0, .int (xs (7 * c + 1))]) (rest := []) (r1 := some (.int v)) (M1 := mk tl1 I1 L1 rd1) rfl rfl rfl Cx ?_
  refine Runs.st (i' := 933) (ls' := lz c) (st' := [.ref 61, .int v]) (M' := mk tl1 I1 L1 rd1) rfl rfl rfl rfl ?_
  refine lw_a S1 h hL 1 (by decide) (p := 933) (kI := 1) rfl rfl rfl rfl rfl rfl ?_
  refine Runs.call (k' := 233) (as := [.ref 61, .int (xs (7 * c + 1))]) (rest := [.int v]) (r1 := some (.int v)) (M1 := mk tl1 I2 L2 rd1) rfl rfl rfl Cy ?_
  exact lw_eq (p := 939) rfl hR
set_option maxRecDepth 20000 in
theorem cs_Image {P : Mm → Prop} (S : SCR xs Ls I) (h : Ls ≤ 3584) (hL : 7 * c + 7 ≤ Ls) (hG : SG xs Ls c tl I L rd 142 234 [.int (xs (7 * c + 1))]) (hN : NXT xs Ls (c + 1) P) : ∃ Me, Runs 244 942 (lz c) [] (mk tl I L rd) (some (.int 1)) Me ∧ P Me := by
  obtain ⟨v, tl1, I1, L1, rd1, I2, L2, Cx, Cy, V, S1⟩ := hG
  obtain ⟨Me, hR, hb⟩ := hN tl1 I2 L2 rd1 V
  refine ⟨Me, ?_, hb⟩
  refine Runs.st (i' := 943) (ls' := lz c) (st' := [.ref 0]) (M' := mk tl I L rd) rfl rfl rfl rfl ?_
  refine lw_a S h hL 1 (by decide) (p := 943) (kI := 1) rfl rfl rfl rfl rfl rfl ?_
  refine Runs.call (k' := 142) (as := [.ref 0, .int (xs (7 * c + 1))]) (rest := []) (r1 := some (.int v)) (M1 := mk tl1 I1 L1 rd1) rfl rfl rfl Cx ?_
  refine Runs.st (i' := 950) (ls' := lz c) (st' := [.ref 61, .int v]) (M' := mk tl1 I1 L1 rd1) rfl rfl rfl rfl ?_
  refine lw_a S1 h hL 1 (by decide) (p := 950) (kI := 1) rfl rfl rfl rfl rfl rfl ?_
  refine Runs.call (k' := 234) (as := [.ref 61, .int (xs (7 * c + 1))]) (rest := [.int v]) (r1 := some (.int v)) (M1 := mk tl1 I2 L2 rd1) rfl rfl rfl Cy ?_
  exact lw_eq (p := 956) rfl hR
set_option maxRecDepth 20000 in
theorem cs_Again {P : Mm → Prop} (S : SCR xs Ls I) (h : Ls ≤ 3584) (hL : 7 * c + 7 ≤ Ls) (hG : SG xs Ls c tl I L rd 143 235 [.int (xs (7 * c + 1))]) (hN : NXT xs Ls (c + 1) P) : ∃ Me, Runs 244 959 (lz c) [] (mk tl I L rd) (some (.int 1)) Me ∧ P Me := by
  obtain ⟨v, tl1, I1, L1, rd1, I2, L2, Cx, Cy, V, S1⟩ := hG
  obtain ⟨Me, hR, hb⟩ := hN tl1 I2 L2 rd1 V
  refine ⟨Me, ?_, hb⟩
  refine Runs.st (i' := 960) (ls' := lz c) (st' := [.ref 0]) (M' := mk tl I L rd) rfl rfl rfl rfl ?_
  refine lw_a S h hL 1 (by decide) (p := 960) (kI := 1) rfl rfl rfl rfl rfl rfl ?_
  refine Runs.call (k' := 143) (as := [.ref 0, .int (xs (7 * c + 1))]) (rest := []) (r1 := some (.int v)) (M1 := mk tl1 I1 L1 rd1) rfl rfl rfl Cx ?_
  refine Runs.st (i' := 967) (ls' := lz c) (st' := [.ref 61, .int v]) (M' := mk tl1 I1 L1 rd1) rfl rfl rfl rfl ?_
  refine lw_a S1 h hL 1 (by decide) (p := 967) (kI := 1) rfl rfl rfl rfl rfl rfl ?_
  refine Runs.call (k' := 235) (as := [.ref 61, .int (xs (7 * c + 1))]) (rest := [.int v]) (r1 := some (.int v)) (M1 := mk tl1 I2 L2 rd1) rfl rfl rfl Cy ?_
  exact lw_eq (p := 973) rfl hR
end
