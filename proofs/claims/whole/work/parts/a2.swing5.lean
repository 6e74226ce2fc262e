/-! swing -/
theorem cst_0 (co : Nat → Int64) : ∀ z, cstB co (bt (nI 0)) z = 0 := by
  intro z
  induction z with
  | zero => rfl
  | succ z ih =>
    show cstB co (bt (nI 0)) z + (if bt (nI 0) z = true then co z else 0) = 0
    rw [ih, show nI 0 = 0 from rfl, b_0, if_neg (by simp)]; rfl
section
variable {c q m n D H B l h : Nat} {X Y : Nat → Nat → Int32} {xa xl N : Nat → Nat}
set_option maxHeartbeats 2000000 in
theorem pp_swing (z : St c q m n D H B l h X Y) (hA : AR n xa xl N X Y) (hB : XB n xa xl) (hc : c ≤ 512) (L L' : Nat → Nat → Int64) (p f r w : Int32) : Ok c n X Y (xSwing X L xa xl n m q p f r w).2.1 (ySwing Y L' n m q p f r w).2 (xSwing X L xa xl n m q p f r w).1 (ySwing Y L' n m q p f r w).1 := by
  unfold xSwing ySwing
  by_cases h1 : areTwo X p f = 0
  · rw [if_pos h1, if_pos ((z.two p f).mp h1)]; exact z.ok0 rfl
  · rw [if_neg h1, if_neg (fun y => h1 ((z.two p f).mpr y))]
    by_cases h2 : outside X r 0 1000 = 0
    · rw [if_neg (not_not_intro h2), if_neg (fun w => (inR_o Y X r 0 1000).mp w h2)]
      by_cases h3 : outside X w 0 1 = 0
      · rw [if_pos h3, if_neg (fun y => (inR_o Y X w 0 1).mp y h3)]
        obtain ⟨P, F, hP, hF, hPF, rfl, rfl⟩ := z.two_ex h1
        have h40 := z.hq.2.2.2.1
        have h12 := z.hq.2.1
        obtain ⟨z1, hV⟩ := (z.c61 0 0).called hA hB L L' hP
        obtain ⟨vf1, vf2⟩ := vCall_fr X L xa xl n m (nI P)
        generalize hVV : vCall X L xa xl n m (nI P) = V at z1 hV vf1 vf2
        obtain ⟨Y0, hY0⟩ : ∃ v, v = up2 Y 61 0 0 := ⟨_, rfl⟩
        rw [← hY0] at z1 hV
        have zV : St c q m n D H B l h (up2 V 47 3 (nI F)) Y0 := z1.cgX (fun a ha => up2_ne (by omega))
        obtain ⟨XV, hXV⟩ : ∃ v, v = up2 V 47 3 (nI F) := ⟨_, rfl⟩
        rw [← hXV] at zV
        have hx44 : XV 44 = V 44 := by rw [hXV]; rfl
        have A35 : ∀ a, a ≤ 35 → swA V L m (nI F) r a = XV a := fun a ha => by
          unfold swA
          rw [up2_ne (by omega), up2_ne (by omega), up1_ne (by omega), up1_ne (by omega), hXV]
        have G := gath2 (A := swA V L m (nI F) r) (X := XV) (Y' := Y0) (m := m) (P := P) (F := nI F) (swL2 V L m (nI F) r) L' A35 zV.hq.2.2.1 h40 (by show V 44 0 = nI P; exact hV.1) rfl zV.2.2.1.1 zV.2.2.1.2.1 zV.2.2.1.2.2.2.2.2.2.2.1 m 0 (swA V L m (nI F) r 48, swA V L m (nI F) r 49, swA V L m (nI F) r 50, swA V L m (nI F) r 51, 0) (0, Y0 124) (by omega) ⟨0, fun _ => 0, by omega, rfl, rfl, fun i hi => by omega, fun i i' hi => by omega⟩
        have G' : GI (swA V L m (nI F) r) XV P m (sgS (swA V L m (nI F) r) (swL2 V L m (nI F) r) m) (mgS Y0 L' (nI P) (nI F) m) := G
        obtain ⟨zz, dd, hz, g1, g2, g3, g4⟩ := G'
        obtain ⟨I, hI⟩ : ∃ v, v = swB V L m (nI F) r := ⟨_, rfl⟩
        have i44 : I 44 1 = XV 44 1 := by rw [hI, hx44]; rfl
        have hG : GD I XV m q P F zz dd := by
          refine ⟨hz, fun i hi => ?_, g4⟩
          obtain ⟨k1, k2, k3, k4, k5, k6, k7, k8⟩ := g3 i hi
          refine ⟨k1, k2, k3, by rw [hI]; exact k5, by rw [hI]; exact k6, ?_⟩
          have e51 : I 51 i = vp_nar .boolean (vCounts (swA V L m (nI F) r) (nI (dd i))) := by rw [hI]; exact k8
          rw [e51, i44]
          unfold vCounts
          rw [A35 29 (by decide), nI_clamp (by omega), show swA V L m (nI F) r 44 1 = XV 44 1 by rw [hx44]; rfl]
          show _ ↔ decide (XV 24 (dd i) = 0 ∧ XV 17 (dd i) = nI P ∧ (¬ XV 44 1 = 0 ∨ XV 29 (dd i) = 0)) = false
          by_cases c1 : XV 44 1 = 0
          · by_cases c2 : XV 29 (dd i) = 0
            · rw [if_neg (not_not_intro c1), if_neg (not_not_intro c2), decide_eq_true ⟨k2, k3, Or.inr c2⟩]; decide
            · rw [if_neg (not_not_intro c1), if_pos c2, decide_eq_false (fun y => y.2.2.elim (fun u => u c1) (fun u => c2 u))]; decide
          · rw [if_pos c1, decide_eq_true ⟨k2, k3, Or.inl c1⟩]; decide
        have vs := vs_at (X := XV) L r (nI F) (P := P) (by rw [hx44]; exact hV.1) (by omega) 12 (Nat.le_refl _)
        have hs : ∀ p, p < q → (I 46 p = 0 ↔ (decide (nI p = nI F ∨ ¬ r < 1000 - XV 33 (12 * p + P))) = false) := by
          intro p hp
          have e46 : I 46 p = (vs_it XV L r (nI F) 12).2 p := by rw [hI, hXV]; rfl
          rw [e46, (vs p (by omega)).2]
          by_cases e : nI p = nI F ∨ ¬ r < 1000 - XV 33 (12 * p + P)
          · rw [if_pos e, decide_eq_true e]; exact ⟨fun y => absurd y one_nz, fun y => by cases y⟩
          · rw [if_neg e, decide_eq_false e]; exact ⟨fun _ => rfl, fun _ => rfl⟩
        have hco : ∀ i, i < zz → I 50 i = thouOf XV (due XV (nI (dd i)) (XV 1 4)) (leastOf XV (XV 18 (dd i)) (nI P)) := fun i hi => by rw [hI]; exact (g3 i hi).2.2.2.2.2.2.1
        -- the reference's start
        have ez : (mgS Y0 L' (nI P) (nI F) m).1.toNatClampNeg = zz := by rw [g2, nI_clamp (by omega)]
        have eI : zwI Y L' m (nI P) (nI F) = up1 Y0 124 (mgS Y0 L' (nI P) (nI F) m).2 := by rw [hY0]; rfl
        obtain ⟨Y1, hY1⟩ : ∃ v, v = up1 Y0 124 (mgS Y0 L' (nI P) (nI F) m).2 := ⟨_, rfl⟩
        have eb : tlNow Y1 L' n m (nI P) 6 = tlNow Y0 L' n m (nI P) 6 := tlNow_cg (fun a ha => by rw [hY1]; exact up1_ne (by unfold relR at ha; omega)) L' n m (nI P) 6
        have hR : zwR Y L' n m q (nI P) (nI F) r = zwF L' n m q (nI P) (nI F) r (if tlNow Y0 L' n m (nI P) 6 = 0 then 0 else 1) zz (2 ^ zz) 0 (-1, 0, up1 Y1 121 (lookG (Y1 121) Y1 L' (nI P) m)) := by
          unfold zwR
          rw [eI, ← hY0, ez, ← hY1, eb]
        have hSz : (sgS (swA V L m (nI F) r) (swL2 V L m (nI F) r) m).2.2.2.2.toNatClampNeg = zz := by rw [g1, nI_clamp (by omega)]
        have hS : sfS V L m (nI F) r = sf_it I (swL2 V L m (nI F) r) (I 47 1) (I 45) (I 44 6) (I 44 7) ((swL2 V L m (nI F) r) 47 0) 0 ((swL2 V L m (nI F) r) 44 8) ((swL2 V L m (nI F) r) 44 9) zz (2 ^ zz) := by
          unfold sfS
          rw [hSz, ← hI]
        have h1024 : 2 ^ zz ≤ 1024 := Nat.le_trans (Nat.pow_le_pow_right (by omega) hz) (by decide)
        have loop : ∀ k, k ≤ 2 ^ zz → SWI Y0 zz q m dd (cnX XV P (I 44 1)) (whX XV) (decide (¬ I 44 1 = 0)) F (duX XV) (fun p => decide (nI p = nI F ∨ ¬ r < 1000 - XV 33 (12 * p + P))) (fun i => (I 50 i).toInt64) k (sf_it I (swL2 V L m (nI F) r) (I 47 1) (I 45) (I 44 6) (I 44 7) ((swL2 V L m (nI F) r) 47 0) 0 ((swL2 V L m (nI F) r) 44 8) ((swL2 V L m (nI F) r) 44 9) zz k) (zwF L' n m q (nI P) (nI F) r (if tlNow Y0 L' n m (nI P) 6 = 0 then 0 else 1) zz k 0 (-1, 0, up1 Y1 121 (lookG (Y1 121) Y1 L' (nI P) m))) := by
          intro k
          induction k with
          | zero =>
            intro _
            have t := zV.tal L hP (by rw [hx44]; exact hV.1) r (nI F)
            refine ⟨⟨cnX XV P (I 44 1), whX XV, SB.start.cgb (fun i _ => (b_0 i).symm), ?_, (cst_0 _ zz).symm⟩, Or.inl ⟨rfl, rfl⟩, fun a ha => ?_, fun i hi => ?_, ?_⟩
            · have t' : Tally q m (fun j => cnX XV P (XV 44 1) j && decide (j < m)) (whX XV) (duX XV) (fun p => decide (nI p = nI F ∨ ¬ r < 1000 - XV 33 (12 * p + P))) (I 45) (I 44 6) (I 44 7) ((swL2 V L m (nI F) r) 44 8) ((swL2 V L m (nI F) r) 44 9) := by
                rw [hI]
                rw [hXV] at t ⊢
                exact t
              exact t'.cg (fun j hj => ⟨by rw [decide_eq_true hj, Bool.and_true, i44], fun _ => rfl⟩)
            · show up1 Y1 121 (lookG (Y1 121) Y1 L' (nI P) m) a = _
              rw [up1_ne (by omega), hY1, up1_ne (by omega)]
            · show Y1 124 i = _
              rw [hY1]; exact (g3 i hi).2.2.2.1
            · show FY Y0 (up1 Y1 121 (lookG (Y1 121) Y1 L' (nI P) m))
              rw [hY1]; exact (FY.rfl.u1 (Or.inl (by decide))).u1 (Or.inl (by decide))
          | succ k ih =>
            intro hk
            rw [sf_it_s, zwF_s, Nat.zero_add]
            exact zV.swings hc (swL2 V L m (nI F) r) L' hP hF r hG (by rw [hI]; rfl) (by rw [i44, hx44]; exact hV.2.1) (by rw [hI]; exact hV.2.2.1) (by rw [hI]; exact hV.2.2.2) hs hco _ _ _ _ _ _ _ _ (by omega) (ih (by omega))
        have fin := loop (2 ^ zz) (Nat.le_refl _)
        rw [← hS, ← hR] at fin
        generalize zwR Y L' n m q (nI P) (nI F) r = T at fin
        obtain ⟨-, s4, s5, -, s7⟩ := fin
        have fX : FX X (sfI V L m (nI F) r) := by
          refine vf1.trans ?_
          unfold sfI swB sgI swA
          exact ((((((((((((((FX.rfl.u2 (by decide) _ _).u1 (by decide) _).u1 (by decide) _).u2 (by decide) _ _).u2 (by decide) _ _).u1 (by decide) _).u1 (by decide) _).u1 (by decide) _).u1 (by decide) _).u2 (by decide) _ _).u2 (by decide) _ _).u1 (by decide) _).u2 (by decide) _ _).u2 (by decide) _ _)
        have f35 : ∀ a, a ≤ 35 → sfI V L m (nI F) r a = X a := fun a ha => by
          unfold sfI
          rw [up2_ne (by omega), up2_ne (by omega), up1_ne (by omega), up2_ne (by omega)]
          unfold swB sgI
          rw [up2_ne (by omega), up1_ne (by omega), up1_ne (by omega), up1_ne (by omega), up1_ne (by omega), A35 a ha, hXV, up2_ne (by omega)]
          exact vf2 a ha
        have zz2 : St (c + 1) q m n D H B l h (sfI V L m (nI F) r) T.2.2 := (z.nx.cgX f35).cgY (fun a g1 g2 => by rw [s5 a (by omega), hY0, up2_ne (by omega)])
        have fY : FY Y T.2.2 := (show FY Y Y0 by rw [hY0]; exact FY.rfl.u2 n61 0).trans s7
        unfold zwA
        rcases s4 with ⟨y1, y2⟩ | ⟨y1, ⟨u, hu, y2⟩, y3, y4⟩
        · rw [if_neg (not_not_intro y1), if_pos y2]
          exact ⟨rfl, fX, fY, q, m, D, H, B, l, h, zz2⟩
        · rw [if_pos (show ¬ (sfS V L m (nI F) r).1 = 0 by rw [y1]; exact one_nz), if_neg (show ¬ T.1 = -1 by rw [y2, ← Int32.toInt_inj, nI_toInt (by omega), toI_m1]; omega)]
          refine ⟨?_, fX, fY, q, m, D, H, B, l, h, zz2⟩
          show (if ¬ w = 0 then (sfS V L m (nI F) r).2.1 else ((sfS V L m (nI F) r).2.2.2.2.2.1).toInt32) = _
          by_cases e : w = 0
          · rw [if_neg (not_not_intro e), if_pos e, y4]
          · rw [if_pos e, if_neg e, y3]
      · rw [if_neg h3, if_pos ((inR_o Y X w 0 1).mpr h3)]; exact z.ok0 rfl
    · rw [if_pos h2, if_pos ((inR_o Y X r 0 1000).mpr h2)]; exact z.ok0 rfl
end
