/-! THE LAW'S LOOP -/
section
variable {xs : Nat → Int32} {Ls c : Nat} {tl : List (Nat × Nat)} {I : Nat → Nat → Int32} {rd : Nat → Nat → Option Nat}
theorem INV.nx (V : INV xs Ls c tl I rd) : INV xs Ls (c + 1) tl I rd := by
  obtain ⟨T, K, Dn, l1, l2, S⟩ := V
  refine ⟨T.nx, fun k hk => ?_, Dn, by omega, by omega, S⟩
  rcases K k hk with e | ⟨b, e1, e2, e3, e4⟩
  · exact Or.inl e
  · exact Or.inr ⟨b, e1, e2, e3, e4.nx⟩
def offs : List Int := [22, 49, 116, 143, 170, 197, 204, 221, 228, 285, 302, 319, 336, 363, 400, 437, 464, 491, 508, 535, 570, 577, 584, 591, 608, 635, 672, 699, 716, 743, 780, 827, 844, 871, 898, 925, 942, 959]
set_option maxRecDepth 20000 in
theorem lw_sw {P : Mm → Prop} (V : INV xs Ls c tl I rd) (hc : c < 512) (L : Nat → Nat → Int64) (h : Ls ≤ 3584) (hL : 7 * c + 7 ≤ Ls) (hN : NXT xs Ls (c + 1) P) (w : Nat) (hw : w < 38) : ∃ Me, Runs 244 (swT 976 0 37 offs (w : Int)) (lz c) [] (mk tl I L rd) (some (.int 1)) Me ∧ P Me := by
  have S := V.2.2.2.2.2
  match w, hw with
  | 0, _ => exact cs_Person S h hL (sg_Person V hc L _ _) hN
  | 1, _ => exact cs_Debt S h hL (sg_Debt V hc L _ _ _ _ _ _) hN
  | 2, _ => exact cs_Costs S h hL (sg_Costs V hc L _ _) hN
  | 3, _ => exact cs_Pay S h hL (sg_Pay V hc L _ _) hN
  | 4, _ => exact cs_About S h hL (sg_About V hc L _ _) hN
  | 5, _ => exact cs_Ring S h hL (sg_Ring V hc L) hN
  | 6, _ => exact cs_Row S h hL (sg_Row V hc L _) hN
  | 7, _ => exact cs_Net S h hL (sg_Net V hc L) hN
  | 8, _ => exact cs_Feed S h hL (sg_Feed V hc L _ _ _ _ _) hN
  | 9, _ => exact cs_End S h hL (sg_End V hc L _) hN
  | 10, _ => exact cs_Act S h hL (sg_Act V hc L _) hN
  | 11, _ => exact cs_Fault S h hL (sg_Fault V hc L _) hN
  | 12, _ => exact cs_Good S h hL (sg_Good V hc L _ _) hN
  | 13, _ => exact cs_Tells S h hL (sg_Tells V hc L _ _ _) hN
  | 14, _ => exact cs_Lawful S h hL (sg_Lawful V hc L _ _ _) hN
  | 15, _ => exact cs_Hold S h hL (sg_Hold V hc L _ _) hN
  | 16, _ => exact cs_Tire S h hL (sg_Tire V hc L _ _) hN
  | 17, _ => exact cs_Leave S h hL (sg_Leave V hc L _) hN
  | 18, _ => exact cs_Room S h hL (sg_Room V hc L _ _) hN
  | 19, _ => exact cs_Walk S h hL (sg_Walk V hc L _ _ (by by_cases e : xs (7 * c + 2) = 0; (rw [if_pos e]; exact Or.inl rfl); (rw [if_neg e]; exact Or.inr rfl))) hN
  | 20, _ => exact cs_Hour S h hL (sg_Hour V hc L) hN
  | 21, _ => exact cs_Day S h hL (sg_Day V hc L) hN
  | 22, _ => exact cs_Turn S h hL (sg_Turn V hc L) hN
  | 23, _ => exact cs_Alms S h hL (sg_Alms V hc L _) hN
  | 24, _ => exact cs_Tell S h hL (sg_Tell V hc L _ _) hN
  | 25, _ => exact cs_Least S h hL (sg_Least V hc L _ _ _) hN
  | 26, _ => exact cs_Binds S h hL (sg_Binds V hc L _ _) hN
  | 27, _ => exact cs_Offer S h hL (sg_Offer V hc L _) hN
  | 28, _ => exact cs_Compose S h hL (sg_Compose V hc L _ _) hN
  | 29, _ => exact cs_Buy S h hL (sg_Buy V hc L _ _ _) hN
  | 30, _ => exact cs_Swing S h hL (sg_Swing V hc L _ _ _ _) hN
  | 31, _ => exact cs_Surr S h hL (sg_Surr V hc L _) hN
  | 32, _ => exact cs_Found S h hL (sg_Found V hc L _ _) hN
  | 33, _ => exact cs_Book S h hL (sg_Book V hc L _ _) hN
  | 34, _ => exact cs_Free S h hL (sg_Free V hc L _ _) hN
  | 35, _ => exact cs_Count S h hL (sg_Count V hc L _) hN
  | 36, _ => exact cs_Image S h hL (sg_Image V hc L _) hN
  | 37, _ => exact cs_Again S h hL (sg_Again V hc L _) hN
  | n + 38, hw => exact absurd hw (by omega)
theorem lw_stp (V : INV xs Ls c tl I rd) (L : Nat → Nat → Int64) (h : Ls ≤ 3584) (hc : c ≤ 512) {r : Option Value} {Me : Mm} (hK : Runs 244 (if decide (Ls < 7 * c + 7) = true then 978 else 16) (lz c) [] (mk tl I L rd) r Me) : Runs 244 10 (lz c) [] (mk tl I L rd) r Me := by
  have S := V.2.2.2.2.2
  refine Runs.st (ins := .iload 3) rfl rfl rfl (i' := 11) (ls' := lz c) (st' := [.int (nI (7 * c))]) (M' := mk tl I L rd) rfl ?_
  refine Runs.st (ins := .aload 0) rfl rfl rfl (i' := 12) (ls' := lz c) (st' := [.ref (mx + 20), .int (nI (7 * c))]) (M' := mk tl I L rd) rfl ?_
  refine Runs.st (ins := .arraylength) rfl rfl rfl (i' := 13) (ls' := lz c) (st' := [.int (nI Ls), .int (nI (7 * c))]) (M' := mk tl I L rd) (by
    rw [al20]
    show some (true, 13, lz c, [Value.int (nI ((I (mx + 21) 0).toNatClampNeg)), .int (nI (7 * c))], mk tl I L rd) = _
    rw [S.2, nI_clamp (by omega)]) ?_
  refine Runs.st (ins := .iconst 7) rfl rfl rfl (i' := 14) (ls' := lz c) (st' := [.int 7, .int (nI Ls), .int (nI (7 * c))]) (M' := mk tl I L rd) rfl ?_
  refine Runs.st (ins := .isub) rfl rfl rfl (i' := 15) (ls' := lz c) (st' := [.int (nI Ls - 7), .int (nI (7 * c))]) (M' := mk tl I L rd) rfl ?_
  have e7 : (nI Ls - 7).toInt = (Ls : Int) - 7 := by
    rw [Int32.toInt_sub, nI_toInt (by omega), toI_7]
    exact Int.bmod_eq_of_le (by omega) (by omega)
  have e : (nI Ls - 7 < nI (7 * c)) ↔ Ls < 7 * c + 7 := by
    rw [Int32.lt_iff_toInt_lt, e7, nI_toInt (by omega)]; omega
  refine Runs.st (ins := .if_icmp .gt 978) rfl rfl rfl (i' := if decide (Ls < 7 * c + 7) = true then 978 else 16) (ls' := lz c) (st' := []) (M' := mk tl I L rd) ?_ hK
  show some (true, (if decide (nI Ls - 7 < nI (7 * c)) = true then 978 else 16), lz c, [], mk tl I L rd) = _
  by_cases g : Ls < 7 * c + 7
  · rw [if_pos (decide_eq_true (e.mpr g)), if_pos (decide_eq_true g)]
  · rw [if_neg (fun y => g (e.mp (of_decide_eq_true y))), if_neg (fun y => g (of_decide_eq_true y))]
set_option maxRecDepth 20000 in
theorem lw_end {M : Mm} : Runs 244 978 (lz c) [] M (some (.int 1)) M := by
  refine Runs.st (ins := .iconst 1) rfl rfl rfl (i' := 979) (ls' := lz c) (st' := [.int 1]) (M' := M) rfl ?_
  exact Runs.rz rfl rfl (Or.inr rfl) rfl rfl
set_option maxRecDepth 20000 in
theorem lw_def {M : Mm} {r : Option Value} {Me : Mm} (hK : Runs 244 10 (lz (c + 1)) [] M r Me) : Runs 244 976 (lz c) [] M r Me := by
  refine Runs.st (ins := .iinc 3 7) rfl rfl rfl (i' := 977) (ls' := lz (c + 1)) (st' := []) (M' := M) (by
    have e : nI (7 * c) + Int32.ofInt 7 = nI (7 * (c + 1)) := by
      rw [show Int32.ofInt 7 = nI 7 from rfl, nI_add]; rfl
    show some (true, 977, [some (Value.ref (mx + 20)), some (.ref 0), some (.ref 61), some (.int (nI (7 * c) + Int32.ofInt 7))], [], M) = _
    rw [e]; rfl) ?_
  exact Runs.st (ins := .goto 10) rfl rfl rfl (i' := 10) (ls' := lz (c + 1)) (st' := []) (M' := M) rfl hK
set_option maxRecDepth 20000 in
theorem lw_loop {P : Mm → Prop} (h : Ls ≤ 3584) (hP : ∀ c tl I L rd, c ≤ 512 → INV xs Ls c tl I rd → P (mk tl I L rd)) : ∀ (f c : Nat), c ≤ 512 → Ls < 7 * (c + f) + 7 → NXT xs Ls c P := by
  intro f
  induction f with
  | zero =>
    intro c hc hf tl I L rd V
    refine ⟨mk tl I L rd, lw_stp V L h hc ?_, hP c tl I L rd hc V⟩
    rw [if_pos (decide_eq_true (by omega))]
    exact lw_end
  | succ f ih =>
    intro c hc hf tl I L rd V
    by_cases g : Ls < 7 * c + 7
    · refine ⟨mk tl I L rd, lw_stp V L h hc ?_, hP c tl I L rd hc V⟩
      rw [if_pos (decide_eq_true g)]
      exact lw_end
    · have S := V.2.2.2.2.2
      have hN := ih (c + 1) (by omega) (by omega)
      have key : ∃ Me, Runs 244 (swT 976 0 37 offs (xs (7 * c) &&& 63).toInt) (lz c) [] (mk tl I L rd) (some (.int 1)) Me ∧ P Me := by
        by_cases o : (xs (7 * c) &&& 63).toInt < 0 ∨ 37 < (xs (7 * c) &&& 63).toInt
        · obtain ⟨Me, hR, hb⟩ := hN tl I L rd V.nx
          refine ⟨Me, ?_, hb⟩
          unfold swT
          rw [if_pos o]
          exact lw_def hR
        · obtain ⟨w, hw⟩ : ∃ w : Nat, (xs (7 * c) &&& 63).toInt = (w : Int) := ⟨(xs (7 * c) &&& 63).toInt.toNat, by omega⟩
          rw [hw] at o ⊢
          exact lw_sw V (by omega) L h (by omega) hN w (by omega)
      obtain ⟨Me, hR, hb⟩ := key
      refine ⟨Me, lw_stp V L h hc ?_, hb⟩
      rw [if_neg (fun y => g (of_decide_eq_true y))]
      refine Runs.st (ins := .aload 0) rfl rfl rfl (i' := 17) (ls' := lz c) (st' := [.ref (mx + 20)]) (M' := mk tl I L rd) rfl ?_
      refine Runs.st (ins := .iload 3) rfl rfl rfl (i' := 18) (ls' := lz c) (st' := [.int (nI (7 * c)), .ref (mx + 20)]) (M' := mk tl I L rd) rfl ?_
      refine Runs.st (ins := .iaload) rfl rfl rfl (lw_rd S h (by omega)) ?_
      refine Runs.st (ins := .iconst 63) rfl rfl rfl (i' := 20) (ls' := lz c) (st' := [.int 63, .int (xs (7 * c))]) (M' := mk tl I L rd) rfl ?_
      refine Runs.st (ins := .iand) rfl rfl rfl (i' := 21) (ls' := lz c) (st' := [.int (xs (7 * c) &&& 63)]) (M' := mk tl I L rd) rfl ?_
      exact Runs.st (i' := swT 976 0 37 offs (xs (7 * c) &&& 63).toInt) (ls' := lz c) (st' := []) (M' := mk tl I L rd) rfl rfl rfl rfl hR
end
