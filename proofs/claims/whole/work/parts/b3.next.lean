/-! TOKENS: the next one, on both sides -/
def TKN (T : Nat → Int32) (len p : Nat) (c : Int32 × Int32 × Int32 × Int32) (r : Int32 × Int32 × Int32 × Int32 × Int64) : Prop := (∃ s e, c.2.1 = nI s ∧ c.2.2.1 = nI e ∧ r.1 = nI e ∧ r.2.1 = nI s ∧ p ≤ s ∧ s ≤ e ∧ e ≤ len ∧ ((c.1 = 0 ∧ r.2.2.1 = 0) ∨ (s < e ∧ ((c.1 = 1 ∧ r.2.2.1 = 2) ∨ (c.1 = 2 ∧ r.2.2.1 = 3 ∧ c.2.2.2 = r.2.2.2.1 ∧ 0 ≤ c.2.2.2.toInt ∧ c.2.2.2.toInt ≤ 99999) ∨ (c.1 = 3 ∧ r.2.2.1 = 4 ∧ c.2.2.2 = r.2.2.2.1) ∨ (c.1 = 4 ∧ r.2.2.1 = 1))))) ∧ tpw r.2.2.1 r.2.2.2.2 = wI0 T c.1 c.2.1 c.2.2.1 ∧ tsw r.2.2.1 r.2.2.2.2 = wI4 T c.1 c.2.1 c.2.2.1 ∧ (iw r.2.2.1 r.2.2.2.2 26982 = 0 ↔ ¬ wI1 T c.1 c.2.1 c.2.2.1 = 0) ∧ (iw r.2.2.1 r.2.2.2.2 6385252 = 0 ↔ ¬ wI2 T c.1 c.2.1 c.2.2.1 = 0) ∧ (iw r.2.2.1 r.2.2.2.2 7237492 = 0 ↔ ¬ wI3 T c.1 c.2.1 c.2.2.1 = 0) ∧ ((wI5 T c.1 c.2.1 c.2.2.1 = -1 ∧ iw r.2.2.1 r.2.2.2.2 7955827 = 0 ∧ iw r.2.2.1 r.2.2.2.2 28271 = 0) ∨ (wI5 T c.1 c.2.1 c.2.2.1 = 0 ∧ iw r.2.2.1 r.2.2.2.2 7955827 = 0 ∧ ¬ iw r.2.2.1 r.2.2.2.2 28271 = 0) ∨ (wI5 T c.1 c.2.1 c.2.2.1 = 1 ∧ ¬ iw r.2.2.1 r.2.2.2.2 7955827 = 0))
theorem iw_no {so : Int32} (h : ¬ so = 2) (a b : Int64) : iw so a b = 0 := by unfold iw; rw [if_pos h]
theorem tpw_no {so : Int32} (h : ¬ so = 2) (a : Int64) : tpw so a = -1 := by
  unfold tpw
  rw [iw_no h, iw_no h, iw_no h, iw_no h, iw_no h, iw_no h, iw_no h, iw_no h, iw_no h]
  rfl
theorem tsw_no {so : Int32} (h : ¬ so = 2) (a : Int64) : tsw so a = -1 := by
  unfold tsw
  rw [iw_no h, iw_no h, iw_no h, iw_no h, iw_no h, iw_no h, iw_no h, iw_no h]
  rfl
/-- no word -/
theorem TKN.no {T : Nat → Int32} {c : Int32 × Int32 × Int32 × Int32} {r : Int32 × Int32 × Int32 × Int32 × Int64} (h1 : ¬ c.1 = 1) (h2 : ¬ r.2.2.1 = 2) : tpw r.2.2.1 r.2.2.2.2 = wI0 T c.1 c.2.1 c.2.2.1 ∧ tsw r.2.2.1 r.2.2.2.2 = wI4 T c.1 c.2.1 c.2.2.1 ∧ (iw r.2.2.1 r.2.2.2.2 26982 = 0 ↔ ¬ wI1 T c.1 c.2.1 c.2.2.1 = 0) ∧ (iw r.2.2.1 r.2.2.2.2 6385252 = 0 ↔ ¬ wI2 T c.1 c.2.1 c.2.2.1 = 0) ∧ (iw r.2.2.1 r.2.2.2.2 7237492 = 0 ↔ ¬ wI3 T c.1 c.2.1 c.2.2.1 = 0) ∧ ((wI5 T c.1 c.2.1 c.2.2.1 = -1 ∧ iw r.2.2.1 r.2.2.2.2 7955827 = 0 ∧ iw r.2.2.1 r.2.2.2.2 28271 = 0) ∨ (wI5 T c.1 c.2.1 c.2.2.1 = 0 ∧ iw r.2.2.1 r.2.2.2.2 7955827 = 0 ∧ ¬ iw r.2.2.1 r.2.2.2.2 28271 = 0) ∨ (wI5 T c.1 c.2.1 c.2.2.1 = 1 ∧ ¬ iw r.2.2.1 r.2.2.2.2 7955827 = 0)) := by
  have m : ¬ (-1 : Int32) = 0 := by decide
  unfold wI0 wI1 wI2 wI3 wI4 wI5
  rw [if_neg h1, if_neg h1, if_neg h1, if_neg h1, if_neg h1, if_neg h1, tpw_no h2, tsw_no h2, iw_no h2, iw_no h2, iw_no h2, iw_no h2, iw_no h2]
  exact ⟨rfl, rfl, ⟨fun _ => m, fun _ => rfl⟩, ⟨fun _ => m, fun _ => rfl⟩, ⟨fun _ => m, fun _ => rfl⟩, Or.inl ⟨rfl, rfl, rfl⟩⟩
/-- a word -/
theorem TKN.wd {T : Nat → Int32} {s e : Nat} {w0 : Int64} (he : e < 2 ^ 31) (hs : s < e) (hT : ∀ i, s ≤ i → i < e → 97 ≤ (T i).toInt ∧ (T i).toInt ≤ 122) (hw : w0 = if e - s ≤ 8 then Int64.ofNat (pkT T s (e - s)) else 0) : tpw 2 w0 = wI0 T 1 (nI s) (nI e) ∧ tsw 2 w0 = wI4 T 1 (nI s) (nI e) ∧ (iw 2 w0 26982 = 0 ↔ ¬ wI1 T 1 (nI s) (nI e) = 0) ∧ (iw 2 w0 6385252 = 0 ↔ ¬ wI2 T 1 (nI s) (nI e) = 0) ∧ (iw 2 w0 7237492 = 0 ↔ ¬ wI3 T 1 (nI s) (nI e) = 0) ∧ ((wI5 T 1 (nI s) (nI e) = -1 ∧ iw 2 w0 7955827 = 0 ∧ iw 2 w0 28271 = 0) ∨ (wI5 T 1 (nI s) (nI e) = 0 ∧ iw 2 w0 7955827 = 0 ∧ ¬ iw 2 w0 28271 = 0) ∨ (wI5 T 1 (nI s) (nI e) = 1 ∧ ¬ iw 2 w0 7955827 = 0)) := by
  have a0 : iw 2 w0 (1751477348 : Int64) = isP (fun i => (xBy 0).getD i 0) T s e 0 4 := kw_eq hs hT hw (by decide) (by decide +kernel) (by decide +kernel) (by decide)
  have a1 : iw 2 w0 (435644822137 : Int64) = isP (fun i => (xBy 0).getD i 0) T s e 5 10 := kw_eq hs hT hw (by decide) (by decide +kernel) (by decide +kernel) (by decide)
  have a2 : iw 2 w0 (431131028601 : Int64) = isP (fun i => (xBy 0).getD i 0) T s e 11 16 := kw_eq hs hT hw (by decide) (by decide +kernel) (by decide +kernel) (by decide)
  have a3 : iw 2 w0 (2002873451 : Int64) = isP (fun i => (xBy 0).getD i 0) T s e 17 21 := kw_eq hs hT hw (by decide) (by decide +kernel) (by decide +kernel) (by decide)
  have a4 : iw 2 w0 (121450625394034 : Int64) = isP (fun i => (xBy 0).getD i 0) T s e 22 28 := kw_eq hs hT hw (by decide) (by decide +kernel) (by decide +kernel) (by decide)
  have a5 : iw 2 w0 (512970880104 : Int64) = isP (fun i => (xBy 0).getD i 0) T s e 29 34 := kw_eq hs hT hw (by decide) (by decide +kernel) (by decide +kernel) (by decide)
  have a6 : iw 2 w0 (422877685106 : Int64) = isP (fun i => (xBy 0).getD i 0) T s e 35 40 := kw_eq hs hT hw (by decide) (by decide +kernel) (by decide +kernel) (by decide)
  have a7 : iw 2 w0 (1801807216 : Int64) = isP (fun i => (xBy 0).getD i 0) T s e 41 45 := kw_eq hs hT hw (by decide) (by decide +kernel) (by decide +kernel) (by decide)
  have a8 : iw 2 w0 (478627065459 : Int64) = isP (fun i => (xBy 0).getD i 0) T s e 46 51 := kw_eq hs hT hw (by decide) (by decide +kernel) (by decide +kernel) (by decide)
  have b0 : iw 2 w0 (26982 : Int64) = isP (fun i => (xBy 1).getD i 0) T s e 0 2 := kw_eq hs hT hw (by decide) (by decide +kernel) (by decide +kernel) (by decide)
  have c0 : iw 2 w0 (6385252 : Int64) = isP (fun i => (xBy 2).getD i 0) T s e 0 3 := kw_eq hs hT hw (by decide) (by decide +kernel) (by decide +kernel) (by decide)
  have d0 : iw 2 w0 (7237492 : Int64) = isP (fun i => (xBy 3).getD i 0) T s e 0 3 := kw_eq hs hT hw (by decide) (by decide +kernel) (by decide +kernel) (by decide)
  have f0 : iw 2 w0 (7566701 : Int64) = isP (fun i => (xBy 4).getD i 0) T s e 0 3 := kw_eq hs hT hw (by decide) (by decide +kernel) (by decide +kernel) (by decide)
  have f1 : iw 2 w0 (431197680755 : Int64) = isP (fun i => (xBy 4).getD i 0) T s e 4 9 := kw_eq hs hT hw (by decide) (by decide +kernel) (by decide +kernel) (by decide)
  have f2 : iw 2 w0 (1918987883 : Int64) = isP (fun i => (xBy 4).getD i 0) T s e 10 14 := kw_eq hs hT hw (by decide) (by decide +kernel) (by decide +kernel) (by decide)
  have f3 : iw 2 w0 (1684109683 : Int64) = isP (fun i => (xBy 4).getD i 0) T s e 15 19 := kw_eq hs hT hw (by decide) (by decide +kernel) (by decide +kernel) (by decide)
  have f4 : iw 2 w0 (7163091121595377006 : Int64) = isP (fun i => (xBy 4).getD i 0) T s e 20 28 := kw_eq hs hT hw (by decide) (by decide +kernel) (by decide +kernel) (by decide)
  have f5 : iw 2 w0 (1919905645 : Int64) = isP (fun i => (xBy 4).getD i 0) T s e 29 33 := kw_eq hs hT hw (by decide) (by decide +kernel) (by decide +kernel) (by decide)
  have f6 : iw 2 w0 (1752135026 : Int64) = isP (fun i => (xBy 4).getD i 0) T s e 34 38 := kw_eq hs hT hw (by decide) (by decide +kernel) (by decide +kernel) (by decide)
  have f7 : iw 2 w0 (427070942835 : Int64) = isP (fun i => (xBy 4).getD i 0) T s e 39 44 := kw_eq hs hT hw (by decide) (by decide +kernel) (by decide +kernel) (by decide)
  have g0 : iw 2 w0 (28271 : Int64) = isP (fun i => (xBy 5).getD i 0) T s e 0 2 := kw_eq hs hT hw (by decide) (by decide +kernel) (by decide +kernel) (by decide)
  have g1 : iw 2 w0 (7955827 : Int64) = isP (fun i => (xBy 5).getD i 0) T s e 3 6 := kw_eq hs hT hw (by decide) (by decide +kernel) (by decide +kernel) (by decide)
  have ns : (nI s).toNatClampNeg = s := nI_clamp (by omega)
  have ne : (nI e).toNatClampNeg = e := nI_clamp he
  have m : ¬ (-1 : Int32) = 0 := by decide
  unfold tpw tsw wI0 wI1 wI2 wI3 wI4 wI5
  rw [if_pos rfl, if_pos rfl, if_pos rfl, if_pos rfl, if_pos rfl, if_pos rfl, ns, ne, a0, a1, a2, a3, a4, a5, a6, a7, a8, b0, c0, d0, f0, f1, f2, f3, f4, f5, f6, f7, g0, g1]
  refine ⟨rfl, rfl, ?_, ?_, ?_, ?_⟩
  · show isP (fun i => (xBy 1).getD i 0) T s e 0 2 = 0 ↔ ¬ (if isP (fun i => (xBy 1).getD i 0) T s e 0 2 = 0 then (-1 : Int32) else 0) = 0
    by_cases c : isP (fun i => (xBy 1).getD i 0) T s e 0 2 = 0
    · rw [if_pos c]; exact ⟨fun _ => m, fun _ => c⟩
    · rw [if_neg c]; exact ⟨fun y => absurd y c, fun y => absurd rfl y⟩
  · show isP (fun i => (xBy 2).getD i 0) T s e 0 3 = 0 ↔ ¬ (if isP (fun i => (xBy 2).getD i 0) T s e 0 3 = 0 then (-1 : Int32) else 0) = 0
    by_cases c : isP (fun i => (xBy 2).getD i 0) T s e 0 3 = 0
    · rw [if_pos c]; exact ⟨fun _ => m, fun _ => c⟩
    · rw [if_neg c]; exact ⟨fun y => absurd y c, fun y => absurd rfl y⟩
  · show isP (fun i => (xBy 3).getD i 0) T s e 0 3 = 0 ↔ ¬ (if isP (fun i => (xBy 3).getD i 0) T s e 0 3 = 0 then (-1 : Int32) else 0) = 0
    by_cases c : isP (fun i => (xBy 3).getD i 0) T s e 0 3 = 0
    · rw [if_pos c]; exact ⟨fun _ => m, fun _ => c⟩
    · rw [if_neg c]; exact ⟨fun y => absurd y c, fun y => absurd rfl y⟩
  · show ((if isP (fun i => (xBy 5).getD i 0) T s e 0 2 = 0 then (if isP (fun i => (xBy 5).getD i 0) T s e 3 6 = 0 then (-1 : Int32) else 1) else 0) = -1 ∧ isP (fun i => (xBy 5).getD i 0) T s e 3 6 = 0 ∧ isP (fun i => (xBy 5).getD i 0) T s e 0 2 = 0) ∨ ((if isP (fun i => (xBy 5).getD i 0) T s e 0 2 = 0 then (if isP (fun i => (xBy 5).getD i 0) T s e 3 6 = 0 then (-1 : Int32) else 1) else 0) = 0 ∧ isP (fun i => (xBy 5).getD i 0) T s e 3 6 = 0 ∧ ¬ isP (fun i => (xBy 5).getD i 0) T s e 0 2 = 0) ∨ ((if isP (fun i => (xBy 5).getD i 0) T s e 0 2 = 0 then (if isP (fun i => (xBy 5).getD i 0) T s e 3 6 = 0 then (-1 : Int32) else 1) else 0) = 1 ∧ ¬ isP (fun i => (xBy 5).getD i 0) T s e 3 6 = 0)
    by_cases c : isP (fun i => (xBy 5).getD i 0) T s e 0 2 = 0
    · rw [if_pos c]
      by_cases d : isP (fun i => (xBy 5).getD i 0) T s e 3 6 = 0
      · rw [if_pos d]; exact Or.inl ⟨rfl, d, c⟩
      · rw [if_neg d]; exact Or.inr (Or.inr ⟨rfl, d⟩)
    · rw [if_neg c]
      refine Or.inr (Or.inl ⟨rfl, ?_, c⟩)
      have l1 : ¬ 2 - 0 = e - s → isP (fun i => (xBy 5).getD i 0) T s e 0 2 = 0 := fun y => by unfold isP; rw [if_neg y]
      have l2 : ¬ 6 - 3 = e - s → isP (fun i => (xBy 5).getD i 0) T s e 3 6 = 0 := fun y => by unfold isP; rw [if_neg y]
      refine l2 (fun y => c (l1 (by omega)))
theorem next_t {T T' : Nat → Int32} {len p : Nat} (hl : len ≤ 600) (hp : p ≤ len) (hb : ∀ j, j < len → byt (T j)) (hT : ∀ j, j < len → T' j = T j) (va : Int32) : TKN T len p (stp T (nI len) (nI p) va) (nxt T' (nI len) (nI p)) := by
  have bb : ∀ i, i < len → BB (T i) (t8 T' i) := fun i hi => by unfold t8; rw [hT i hi]; exact byt_B (hb i hi)
  unfold stp nxt
  rw [nI_clamp (by omega), nI_clamp (by omega)]
  have es : rn spc T (len - p) p = rn spc (t8 T') (len - p) p := rn_cg _ _ (fun i h1 h2 => (bb i (by omega)).1)
  have sr := rn_le spc T (len - p) p
  rw [← es]
  generalize rn spc T (len - p) p = s at sr
  unfold stq nxq
  by_cases c0 : len ≤ s
  · rw [if_pos c0, if_pos c0]
    exact ⟨⟨s, s, rfl, rfl, rfl, rfl, sr.1, Nat.le_refl _, by omega, Or.inl ⟨rfl, rfl⟩⟩, TKN.no (show ¬ (0 : Int32) = 1 by decide) (show ¬ (0 : Int32) = 2 by decide)⟩
  · rw [if_neg c0, if_neg c0]
    have b := bb s (by omega)
    have h30 : (2 : Nat) ^ 30 = 1073741824 := by decide
    by_cases c1 : ltr (T s) = true
    · have d1 := (ltr_iff _).mp c1
      have d2 := (rlt_iff _).mp (show rlt (t8 T' s) = true by rw [← b.2.1]; exact c1)
      rw [if_neg d1, if_neg d2]
      have er : rn ltr T (len - s) s = rn rlt (t8 T') (len - s) s := rn_cg _ _ (fun i h1 h2 => (bb i (by omega)).2.1)
      have rr := rn_le ltr T (len - s) s
      have rp : s < rn ltr T (len - s) s := rn_pos (by omega) c1
      have ra := rn_all ltr T (len - s) s
      rw [← er]
      have wvq := wv_eq (T := T) (T' := t8 T') (s := s) (len - s) s (fun i h1 h2 => bb i (by omega)) (fun i h1 h2 => by omega) (Nat.le_refl _)
      generalize rn ltr T (len - s) s = e at rr rp ra wvq
      rw [Nat.sub_self] at wvq
      have hw : (if nI (e - s) ≤ (8 : Int32) then wv (t8 T') (len - s) s 0 else 0) = if e - s ≤ 8 then Int64.ofNat (pkT T s (e - s)) else 0 := by
        by_cases g : e - s ≤ 8
        · rw [if_pos (show nI (e - s) ≤ (8 : Int32) by rw [Int32.le_iff_toInt_le, nI_toInt (by omega), toI_8]; omega), if_pos g]
          exact wvq (by omega)
        · rw [if_neg (show ¬ nI (e - s) ≤ (8 : Int32) by rw [Int32.le_iff_toInt_le, nI_toInt (by omega), toI_8]; omega), if_neg g]
      refine ⟨⟨s, e, rfl, rfl, rfl, rfl, sr.1, by omega, by omega, Or.inr ⟨rp, Or.inl ⟨rfl, rfl⟩⟩⟩, ?_⟩
      exact TKN.wd (by omega) rp (fun i h1 h2 => ((bb i (by omega)).2.2.2.1 (ra i h1 h2)).2) hw
    · have d1 : isLet dI (T s) = 0 := Classical.byContradiction fun y => c1 ((ltr_iff _).mpr y)
      have d2 : inR dI (t8 T' s) 97 122 = 0 := Classical.byContradiction fun y => c1 (by rw [b.2.1]; exact (rlt_iff _).mpr y)
      rw [if_pos d1, if_pos d2]
      by_cases c2 : dgt (T s) = true
      · have d3 := (dgt_iff _).mp c2
        have d4 := (rdg_iff _).mp (show rdg (t8 T' s) = true by rw [← b.2.2.1]; exact c2)
        rw [if_neg d3, if_neg d4]
        have er : rn dgt T (len - s) s = rn rdg (t8 T') (len - s) s := rn_cg _ _ (fun i h1 h2 => (bb i (by omega)).2.2.1)
        have rr := rn_le dgt T (len - s) s
        have rp : s < rn dgt T (len - s) s := rn_pos (by omega) c2
        have ev := nv_eq (T := T) (T' := t8 T') (s := s) (len - s) s 0 (fun i h1 h2 => bb i (by omega)) (Nat.le_refl _) (by omega)
        have vr := nv_rg (T := T) (T' := t8 T') (s := s) (len - s) s 0 (fun i h1 h2 => bb i (by omega)) (Nat.le_refl _) (by omega) (by rw [toI_0]; omega) (by rw [toI_0, Nat.sub_self]; decide)
        rw [← er, nI_sb (show s ≤ rn dgt T (len - s) s by omega) (by omega), ← ev]
        generalize rn dgt T (len - s) s = e at rr rp
        generalize nv T s (len - s) s 0 = v at vr
        by_cases g : nI (e - s) ≤ (5 : Int32)
        · rw [if_pos g, if_pos g]
          exact ⟨⟨s, e, rfl, rfl, rfl, rfl, sr.1, by omega, by omega, Or.inr ⟨rp, Or.inr (Or.inl ⟨rfl, rfl, rfl, vr⟩)⟩⟩, TKN.no (show ¬ (2 : Int32) = 1 by decide) (show ¬ (3 : Int32) = 2 by decide)⟩
        · rw [if_neg g, if_neg g]
          exact ⟨⟨s, e, rfl, rfl, rfl, rfl, sr.1, by omega, by omega, Or.inr ⟨rp, Or.inr (Or.inr (Or.inr ⟨rfl, rfl⟩))⟩⟩, TKN.no (show ¬ (4 : Int32) = 1 by decide) (show ¬ (1 : Int32) = 2 by decide)⟩
      · have d3 : isDig dI (T s) = 0 := Classical.byContradiction fun y => c2 ((dgt_iff _).mpr y)
        have d4 : inR dI (t8 T' s) 48 57 = 0 := Classical.byContradiction fun y => c2 (by rw [b.2.2.1]; exact (rdg_iff _).mpr y)
        rw [if_pos d3, if_pos d4]
        rcases b.2.2.2.2.2 with ⟨g1, g2, g3⟩ | ⟨g1, g2⟩
        · rw [g1, g2, g3]
          exact ⟨⟨s, s + 1, rfl, rfl, rfl, rfl, sr.1, by omega, by omega, Or.inr ⟨by omega, Or.inr (Or.inr (Or.inl ⟨rfl, rfl, rfl⟩))⟩⟩, TKN.no (show ¬ (3 : Int32) = 1 by decide) (show ¬ (4 : Int32) = 2 by decide)⟩
        · rw [g1, g2]
          exact ⟨⟨s, s + 1, rfl, rfl, rfl, rfl, sr.1, by omega, by omega, Or.inr ⟨by omega, Or.inr (Or.inr (Or.inr ⟨rfl, rfl⟩))⟩⟩, TKN.no (show ¬ (4 : Int32) = 1 by decide) (show ¬ (1 : Int32) = 2 by decide)⟩
