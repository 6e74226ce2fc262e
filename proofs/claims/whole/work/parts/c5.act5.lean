/-! ONE CALL OF THE LAW: act -/
section
variable {xs : Nat → Int32} {Ls c : Nat} {tl : List (Nat × Nat)} {I : Nat → Nat → Int32} {rd : Nat → Nat → Option Nat}
theorem FYa.hi {Y Y' : Nat → Nat → Int32} (h : FYa Y Y') {a : Nat} (ha : a < 61 ∨ 130 ≤ a) : Y' a = Y a := h.1 a ha
theorem mul19 {cn : Nat} (h : cn ≤ 20) : ((nI cn) * 19).toNatClampNeg = 19 * cn := by
  rw [show nI cn * 19 = nI (cn * 19) from nI_mul cn 19, nI_clamp (by omega)]; omega
theorem sg_ActC (V : INV xs Ls c tl I rd) (hc : c < 512) (L : Nat → Nat → Int64) (x : Int32) (h4 : ¬ (4 : Int32) ≤ I 1 3) (ho : outside I x 0 9999 = 0) (hf : (rdS (actJ I) (I 1 10)).1 = 0) : SG xs Ls c tl I L rd 116 191 [.int x] := by
  have m0 : mx = 1000000 := rfl
  obtain ⟨n, xa, xl, Nn, q, m, D, H, B, l, h, W⟩ := V.now
  have hlen := V.2.2.2.1
  obtain ⟨z, A, J, R⟩ := W
  have XBb := J.xb
  have e3 : I 1 3 = nI n := z.hq.2.2.2.2.1
  have n4 : n < 4 := by
    have := z.hq.2.2.2.2.2
    rw [Int32.le_iff_toInt_le, e3, nI_toInt (by omega), toI_4] at h4
    omega
  have e10 : I 1 10 = nI l := z.1.2.2.2.2.2.2.1
  have l6 : l ≤ 600 := z.2.2.2.2.1.1
  obtain ⟨N, hN⟩ : ∃ N, N = 131 + tl.length := ⟨_, rfl⟩
  have fx : FXn N I (acX I N x) := fun a h1 h2 h3 => by
    unfold acX
    rw [up2_ne (by omega), anI_o _ _ _ _ h2 h3, actQ_ne I (by omega) (by omega) (by omega)]
  have z1 : St c q m n D H B l h I (acX I N x) := z.cgY (fun a h1 h2 => fx a (by omega) (by omega) (by omega))
  have A1 : AR n xa xl Nn I (acX I N x) := A.cg (fun a ha => ⟨rfl, rfl⟩) (fun a h1 h2 => fx a (by omega) (by omega) (by omega))
  rcases z1.actRd with ⟨-, y, -⟩ | ⟨cn, hR0, hSc, hRc, ⟨y, -⟩ | ⟨-, hS1, hR1, hcn, hL⟩⟩
  · rw [hf] at y; exact absurd y (by decide)
  · exact absurd hf y
  have hfr : ∀ a, a < n → xa a < N ∧ xl a < N := fun a ha => by
    obtain ⟨⟨-, -, f3, -, -, f6, -, -⟩, -⟩ := J a ha
    have := shl_lt f3
    have := shl_lt f6
    omega
  obtain ⟨zz, AA, -, fya⟩ := z1.actNew A1 XBb (N := N) (by omega) hfr n4 x L hf hS1 hSc hRc hcn hL
  have Cx := c_actC tl I L rd x h4 ho (by rw [e10, nI_toInt (by omega)]; omega) hf N hN (by omega) (by rw [hSc, nI_toInt (by omega)]; omega) (by rw [e3]; exact inb_iff.mpr (by rw [nI_toInt (by omega)]; omega))
  have hy4 : ¬ acX I N x 104 0 = 4 := fun y => h4 ((z1.actOutE x).1.mp y)
  have hyd : ¬ isDay (acX I N x) x = 0 := fun y => ((z1.actOutE x).2.mp y) ho
  have y63 : acX I N x 63 0 = nI l := z1.1.2.2.2.2.2.2.2.2.2.2.2.2.2.2.2.2.2.2.2.2.1
  have hT : ∀ i, i < cn → ((rlA (yaJ (acX I N x))).2).2.2.2.2.2.1 i = nI (((rlA (yaJ (acX I N x))).2).2.2.2.2.2.1 i).toNatClampNeg ∧ (((rlA (yaJ (acX I N x))).2).2.2.2.2.2.1 i).toNatClampNeg ≤ 4 := fun i hi => by
    obtain ⟨-, -, -, -, t, ht, -, e, -⟩ := hL i hi
    rw [e, nI_clamp (by omega)]; exact ⟨rfl, ht⟩
  have Cy := c_yActR (anT tl (rdS (actJ I) (I 1 10)).2.2.1) (acX I N x) (anL L N) (up2 (anR (up2 rd 39 4 (some 34)) N) 32 (I 1 3).toNatClampNeg (some N)) x hy4 hyd (by rw [y63, nI_toInt (by omega)]; omega) _ _ (l_ya60C (anT tl (rdS (actJ I) (I 1 10)).2.2.1) (yaJ (acX I N x)) (anL L N) (up2 (anR (up2 rd 39 4 (some 34)) N) 32 (I 1 3).toNatClampNeg (some N)) x hR0 hR1 n cn (by rw [yaJ_ne _ (by decide) (by decide) (by decide) (by decide)]; exact z1.hy.2.2.1) n4 hRc hcn hT)
  have eL : yaC (yaJ (acX I N x)) (anL L N) x n cn = yaC (yaJ (acX I N x)) L x n cn := rfl
  rw [eL] at Cy
  generalize hI2 : yaC (yaJ (acX I N x)) L x n cn = I2 at *
  have en : (I 1 3).toNatClampNeg = n := by rw [e3, nI_clamp (by omega)]
  have etl : anT tl (rdS (actJ I) (I 1 10)).2.2.1 = tl ++ [(10, 4), (0, 19 * cn)] := by
    unfold anT
    rw [hSc, mul19 hcn, List.append_assoc]; rfl
  rw [etl, en] at Cx Cy
  generalize hr1 : up2 (anR (up2 rd 39 4 (some 34)) N) 32 n (some N) = rd1 at *
  have r32 : ∀ k, rst rd1 32 k = if k = n then some N else rst rd 32 k := fun k => by
    have e1 : rst rd1 32 k = rd1 32 k := rfl
    have e2 : rst rd 32 k = rd 32 k := rfl
    rw [e1, e2, ← hr1, wup2_at]
    by_cases e : k = n
    · rw [if_pos e, if_pos e]
    · rw [if_neg e, if_neg e]
      unfold anR
      rw [up2_ne (by omega), up1_ne (by omega), up1_ne (by omega), up2_ne (by omega)]
  have rO : ∀ a k, a ≠ 32 → a ≠ 39 → a ≠ N → a ≠ N + 1 → rst rd1 a k = rst rd a k := fun a k h1 h2 h3 h5 => rst_cg (by
    rw [← hr1, up2_ne h1]
    unfold anR
    rw [up2_ne h3, up1_ne h5, up1_ne h3, up2_ne h2])
  have rN : rst rd1 N 2 = some (N + 1) := by
    rw [rst_ge _ (by omega), ← hr1, up2_ne (by omega)]
    unfold anR
    rw [up2_at]
  have hI : ∀ a, 130 ≤ a → a ≠ N → a ≠ N + 1 → I2 a = I a := fun a h1 h2 h3 => by rw [fya.1 a (Or.inr h1), fx a (by omega) h2 h3]
  refine ⟨I 1 3, tl ++ [(10, 4), (0, 19 * cn)], acX I N x, anL L N, rd1, I2, _, Cx, by rw [e3]; exact Cy, ?_, ?_⟩
  · refine V.rest [(10, 4), (0, 19 * cn)] (fun a h1 h2 => hI a (by omega) (by omega) (by omega)) (hI 130 (by omega) (by omega) (by omega)) (fun a j h1 h2 h3 => ?_) (fun a k h1 => rO a k (by omega) (by omega) (by omega) (by omega)) (by show 2 ≤ 37; omega) (by show 4 + (19 * cn + 0) ≤ 1600; omega) ?_ ?_
    · rw [fya.2 a j h1 h2 h3, fx a (by omega) (by omega) (by omega)]
    · exact ⟨by rw [hI _ (by omega) (by omega) (by omega)]; exact V.2.2.2.2.2.1, by rw [hI _ (by omega) (by omega) (by omega)]; exact V.2.2.2.2.2.2⟩
    · refine ⟨n + 1, addN xa n N, addN xl n (N + 1), addN Nn n (19 * cn), q, m, D, H, B, 0, h, ?_, ?_, ?_, ?_, HL_1 _ _⟩
      · rw [vx_1, vy_0]; exact zz.cgX (fun a ha => fya.1 a (by omega))
      · rw [vy_0]
        refine AA.cg (fun a ha => ⟨fya.1 _ (Or.inr ?_), fya.1 _ (Or.inr ?_)⟩) (fun a h1 h2 => rfl)
        · by_cases e : a = n
          · rw [e, addN_at]; omega
          · rw [addN_ne _ e]; have := (XBb a (by omega)).1; omega
        · by_cases e : a = n
          · rw [e, addN_at]; omega
          · rw [addN_ne _ e]; have := (XBb a (by omega)).2; omega
      · intro a ha
        by_cases e : a = n
        · subst e
          rw [addN_at, addN_at, addN_at]
          refine ⟨⟨?_, by omega, ?_, rN, by omega, ?_, by omega, by omega⟩, by omega⟩
          · show rst rd1 32 a = _
            rw [r32, if_pos rfl]
          · rw [hN]; exact sh_at tl [(0, 19 * cn)] (10, 4)
          · have := sh_at (tl ++ [(10, 4)]) [] (0, 19 * cn)
            rw [List.length_append, List.append_assoc] at this
            rw [hN]; exact this
        · obtain ⟨⟨f1, f2, f3, f4, f5, f6, f7, f8⟩, f9⟩ := J a (by omega)
          have := hfr a (by omega)
          rw [addN_ne _ e, addN_ne _ e, addN_ne _ e]
          refine ⟨⟨?_, f2, sh_sn _ f3, by rw [rO _ _ (by omega) (by omega) (by omega) (by omega)]; exact f4, f5, sh_sn _ f6, f7, f8⟩, f9⟩
          show rst rd1 32 a = _
          rw [r32, if_neg e]; exact f1
      · intro a ha
        show rst rd1 32 a = none ∨ ∃ x, rst rd1 32 a = some x ∧ _
        rw [r32]
        by_cases e : a = n
        · rw [if_pos e]
          exact Or.inr ⟨N, rfl, by omega, by rw [hN]; exact sh_at tl [(0, 19 * cn)] (10, 4)⟩
        · rw [if_neg e]
          rcases R a ha with y | ⟨x', y1, y2, y3⟩
          · exact Or.inl y
          · exact Or.inr ⟨x', y1, y2, sh_sn _ y3⟩
  · exact ⟨by rw [fx _ (by omega) (by omega) (by omega)]; exact V.2.2.2.2.2.1, by rw [fx _ (by omega) (by omega) (by omega)]; exact V.2.2.2.2.2.2⟩
theorem sg_Act (V : INV xs Ls c tl I rd) (hc : c < 512) (L : Nat → Nat → Int64) (x : Int32) : SG xs Ls c tl I L rd 116 191 [.int x] := by
  obtain ⟨n, xa, xl, Nn, q, m, D, H, B, l, h, W⟩ := V.now
  have z := W.1
  have hJ : FX I (actJ I) := fun a ha => actJ_ne I (by omega)
  have zJ := (W.mid hJ).1
  by_cases h4 : (4 : Int32) ≤ I 1 3
  · have k := zJ.actNo
    refine sg_mk (c_actA1 tl I L rd x h4) (c_yActA1 tl (actJ I) L rd x ((zJ.actOutE x).1.mpr h4)) V W (RD.rfl rd) ⟨rfl, hJ, k.2.2, q, m, D, H, B, 0, h, k.1⟩
  by_cases ho : ¬ outside I x 0 9999 = 0
  · have k := zJ.actNo
    refine sg_mk (c_actA2 tl I L rd x h4 ho) (c_yActA2 tl (actJ I) L rd x (fun y => h4 ((zJ.actOutE x).1.mp y)) ((zJ.actOutE x).2.mpr ho)) V W (RD.rfl rd) ⟨rfl, hJ, k.2.2, q, m, D, H, B, 0, h, k.1⟩
  have ho := Classical.not_not.mp ho
  by_cases hf : (rdS (actJ I) (I 1 10)).1 = 0
  · exact sg_ActC V hc L x h4 ho hf
  have e10 : I 1 10 = nI l := z.1.2.2.2.2.2.2.1
  have l6 : l ≤ 600 := z.2.2.2.2.1.1
  have Cx := c_actB tl I L rd x h4 ho (by rw [e10, nI_toInt (by omega)]; omega) hf
  have hQ : FX I (actQ I) := fun a ha => actQ_ne I (by omega) (by omega) (by omega)
  have zQ := (W.mid hQ).1
  have hy4 : ¬ actQ I 104 0 = 4 := fun y => h4 ((zQ.actOutE x).1.mp y)
  have hyd : ¬ isDay (actQ I) x = 0 := fun y => ((zQ.actOutE x).2.mp y) ho
  have y63 : actQ I 63 0 = nI l := zQ.1.2.2.2.2.2.2.2.2.2.2.2.2.2.2.2.2.2.2.2.2.1
  have hl : 0 ≤ (actQ I 63 0).toInt ∧ (actQ I 63 0).toInt ≤ 600 := by rw [y63, nI_toInt (by omega)]; omega
  have hrd : RD rd (up2 rd 39 4 (some 34)) := RD.u2 rd (by decide) (by decide) (by decide) 4 _
  rcases zQ.actRd with ⟨h0, y, y2⟩ | ⟨cn, hR0, hSc, hRc, ⟨-, y1, y2, y3⟩ | ⟨y, -⟩⟩
  · have Cy := c_yActR tl (actQ I) L (up2 rd 39 4 (some 34)) x hy4 hyd hl _ _ (l_ya60B1 tl (yaJ (actQ I)) L (up2 rd 39 4 (some 34)) x h0)
    have k := zQ.actBad (f := 1) (p := ((rlA (yaJ (actQ I))).2).1) y.symm y2.symm
    exact sg_mk Cx Cy V W hrd ⟨rfl, hQ, k.2.2, q, m, D, H, B, 0, h, k.1⟩
  · have Cy := c_yActR tl (actQ I) L (up2 rd 39 4 (some 34)) x hy4 hyd hl _ _ (l_ya60B2 tl (yaJ (actQ I)) L (up2 rd 39 4 (some 34)) x hR0 y1)
    have k := zQ.actBad (f := ((rlA (yaJ (actQ I))).2).2.1) (p := ((rlA (yaJ (actQ I))).2).2.2.1) y2.symm y3.symm
    exact sg_mk Cx Cy V W hrd ⟨rfl, hQ, k.2.2, q, m, D, H, B, 0, h, k.1⟩
  · exact absurd y hf
end
