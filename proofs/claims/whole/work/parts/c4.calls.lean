/-! ONE CALL OF THE LAW: contracts and relation joined (printed) -/
section
variable {xs : Nat → Int32} {Ls c : Nat} {tl : List (Nat × Nat)} {I : Nat → Nat → Int32} {rd : Nat → Nat → Option Nat} {n : Nat} {xa xl N : Nat → Nat} {q m D H B l h : Nat}
theorem NW.xp (W : NW c tl I rd n xa xl N q m D H B l h) : I 16 0 = nI m ∧ m ≤ 40 ∧ I 2 0 = nI q ∧ q ≤ 12 ∧ I 1 3 = nI n ∧ n ≤ 4 ∧ AO tl rd n xa xl N ∧ AC I n xa N ∧ (∀ d, d < m → 0 ≤ (I 18 d).toInt ∧ (I 18 d).toInt < 12) ∧ (∀ d, d < m → 0 ≤ (I 17 d).toInt ∧ (I 17 d).toInt < 12) := by
  obtain ⟨z, A, J, R⟩ := W
  obtain ⟨h1, h2, h3, h4, h5, h6⟩ := z.hq
  have hd := z.2.2.1.2.2.2.2.2.2.2.2.2.2.2.2.2.2.2.1
  exact ⟨h3, h4, h1, h2, h5, h6, fun a ha => (J a ha).1, A.ac J, fun d hd' => by have := hd d hd'; omega, fun d hd' => by have := hd d hd'; omega⟩
theorem St.yp {I1 : Nat → Nat → Int32} (z : St c q m n D H B l h I I1) (A : AR n xa xl N I I1) : I1 86 0 = nI m ∧ m ≤ 40 ∧ I1 69 0 = nI q ∧ q ≤ 12 ∧ I1 104 0 = nI n ∧ n ≤ 4 ∧ RA I1 n ∧ (∀ d, d < m → 0 ≤ (I1 88 d).toInt ∧ (I1 88 d).toInt < 12) ∧ (∀ d, d < m → 0 ≤ (I1 87 d).toInt ∧ (I1 87 d).toInt < 12) := by
  obtain ⟨h1, h2, h3, h4, h5, h6⟩ := z.hq
  obtain ⟨g1, g2, g3, -⟩ := z.hy
  obtain ⟨e87, e88, -, -, -, -, -, -, -, -, -, -, -, -, -, hd, -⟩ := z.2.2.1
  exact ⟨g2, h4, g1, h2, g3, h6, A.ra, fun d hd' => by rw [e88 d hd']; have := hd d hd'; omega, fun d hd' => by rw [e87 d hd']; have := hd d hd'; omega⟩
theorem sg_mk {kx ky : Nat} {as : List Value} {L L1 L2 : Nat → Nat → Int64} {rd1 : Nat → Nat → Option Nat} {I1 I2 : Nat → Nat → Int32} {v w : Int32} (Cx : Call kx (.ref 0 :: as) (mk tl I L rd) (some (.int v)) (mk tl I1 L1 rd1)) (Cy : Call ky (.ref 61 :: as) (mk tl I1 L1 rd1) (some (.int w)) (mk tl I2 L2 rd1)) (V : INV xs Ls c tl I rd) (W : NW c tl I rd n xa xl N q m D H B l h) (hrd : RD rd rd1) (o : Ok c n I I1 I1 I2 v w) : SG xs Ls c tl I L rd kx ky as := ⟨v, tl, I1, L1, rd1, I2, L2, Cx, by rw [o.1]; exact Cy, V.ord W hrd o, V.2.2.2.2.2.fx o.2.1⟩
theorem swRd_RD (I : Nat → Nat → Int32) (rd : Nat → Nat → Option Nat) (p f r w : Int32) : RD rd (swRd I rd p f r w) := by
  unfold swRd
  by_cases a : areTwo I p f = 0
  · rw [if_pos a]; exact RD.rfl rd
  · rw [if_neg a]
    by_cases b : outside I r 0 1000 = 0
    · rw [if_pos b]
      by_cases e : outside I w 0 1 = 0
      · rw [if_pos e]; exact RD.u2 rd (by decide) (by decide) (by decide) 2 _
      · rw [if_neg e]; exact RD.rfl rd
    · rw [if_neg b]; exact RD.rfl rd
end
section
variable {xs : Nat → Int32} {Ls c : Nat} {tl : List (Nat × Nat)} {I : Nat → Nat → Int32} {rd : Nat → Nat → Option Nat}
theorem sg_Person (V : INV xs Ls c tl I rd) (hc : c < 512) (L : Nat → Nat → Int64) (a1 a2 : Int32) : SG xs Ls c tl I L rd 106 161 [.int a1, .int a2] := by
  obtain ⟨n, xa, xl, N, q, m, D, H, B, l, h, W⟩ := V.now
  obtain ⟨x1, x2, x3, x4, x5, x6, x7, x8, x9, x10⟩ := W.xp
  have Cx := c_xPerson tl I L rd xa xl N n m q a1 a2 x1 x2 x3 x4 x5 x6 x7 x8 x9 x10
  have o0 := pp_person W.1 L L xa xl a1 a2
  obtain ⟨z1, A1⟩ := W.mid o0.2.1
  have o := pp_person z1 L (L) xa xl a1 a2
  clear o0
  have hL1 := Eq.refl L
  generalize hI1 : (xPerson I L xa xl n m q a1 a2).2 = I1 at *
  obtain ⟨y1, y2, y3, y4, y5, y6, y7, y8, y9⟩ := z1.yp A1
  have Cy := c_yPerson tl I1 L rd n m q a1 a2 y1 y2 y3 y4 y5 y6 y7 y8 y9
  exact sg_mk Cx Cy V W (RD.rfl rd) o
theorem sg_Debt (V : INV xs Ls c tl I rd) (hc : c < 512) (L : Nat → Nat → Int64) (a1 a2 a3 a4 a5 a6 : Int32) : SG xs Ls c tl I L rd 107 162 [.int a1, .int a2, .int a3, .int a4, .int a5, .int a6] := by
  obtain ⟨n, xa, xl, N, q, m, D, H, B, l, h, W⟩ := V.now
  obtain ⟨x1, x2, x3, x4, x5, x6, x7, x8, x9, x10⟩ := W.xp
  have Cx := c_xDebt tl I L rd xa xl N n m q a1 a2 a3 a4 a5 a6 x1 x2 x3 x4 x5 x6 x7 x8 x9 x10
  have o0 := pp_debt W.1 L L xa xl a1 a2 a3 a4 a5 a6
  obtain ⟨z1, A1⟩ := W.mid o0.2.1
  have o := pp_debt z1 L (L) xa xl a1 a2 a3 a4 a5 a6
  clear o0
  have hL1 := Eq.refl L
  generalize hI1 : (xDebt I L xa xl n m q a1 a2 a3 a4 a5 a6).2 = I1 at *
  obtain ⟨y1, y2, y3, y4, y5, y6, y7, y8, y9⟩ := z1.yp A1
  have Cy := c_yDebt tl I1 L rd n m q a1 a2 a3 a4 a5 a6 y1 y2 y3 y4 y5 y6 y7 y8 y9
  exact sg_mk Cx Cy V W (RD.rfl rd) o
theorem sg_Costs (V : INV xs Ls c tl I rd) (hc : c < 512) (L : Nat → Nat → Int64) (a1 a2 : Int32) : SG xs Ls c tl I L rd 108 168 [.int a1, .int a2] := by
  obtain ⟨n, xa, xl, N, q, m, D, H, B, l, h, W⟩ := V.now
  obtain ⟨x1, x2, x3, x4, x5, x6, x7, x8, x9, x10⟩ := W.xp
  have Cx := c_xCosts tl I L rd xa xl N n m q a1 a2 x1 x2 x3 x4 x5 x6 x7 x8 x9 x10
  have o0 := pp_costs W.1 (by omega) L L xa xl a1 a2
  obtain ⟨z1, A1⟩ := W.mid o0.2.1
  have o := pp_costs z1 (by omega) L (L) xa xl a1 a2
  clear o0
  have hL1 := Eq.refl L
  generalize hI1 : (xCosts I L xa xl n m q a1 a2).2 = I1 at *
  obtain ⟨y1, y2, y3, y4, y5, y6, y7, y8, y9⟩ := z1.yp A1
  have Cy := c_yCosts tl I1 L rd n m q a1 a2 y1 y2 y3 y4 y5 y6 y7 y8 y9
  exact sg_mk Cx Cy V W (RD.rfl rd) o
theorem sg_Pay (V : INV xs Ls c tl I rd) (hc : c < 512) (L : Nat → Nat → Int64) (a1 a2 : Int32) : SG xs Ls c tl I L rd 109 169 [.int a1, .int a2] := by
  obtain ⟨n, xa, xl, N, q, m, D, H, B, l, h, W⟩ := V.now
  obtain ⟨x1, x2, x3, x4, x5, x6, x7, x8, x9, x10⟩ := W.xp
  have Cx := c_xPay tl I L rd xa xl N n m q a1 a2 x1 x2 x3 x4 x5 x6 x7 x8 x9 x10
  have o0 := pp_pay W.1 (by omega) L L xa xl a1 a2
  obtain ⟨z1, A1⟩ := W.mid o0.2.1
  have o := pp_pay z1 (by omega) L (L) xa xl a1 a2
  clear o0
  have hL1 := Eq.refl L
  generalize hI1 : (xPay I L xa xl n m q a1 a2).2 = I1 at *
  obtain ⟨y1, y2, y3, y4, y5, y6, y7, y8, y9⟩ := z1.yp A1
  have Cy := c_yPay tl I1 L rd n m q a1 a2 y1 y2 y3 y4 y5 y6 y7 y8 y9
  exact sg_mk Cx Cy V W (RD.rfl rd) o
theorem sg_About (V : INV xs Ls c tl I rd) (hc : c < 512) (L : Nat → Nat → Int64) (a1 a2 : Int32) : SG xs Ls c tl I L rd 110 170 [.int a1, .int a2] := by
  obtain ⟨n, xa, xl, N, q, m, D, H, B, l, h, W⟩ := V.now
  obtain ⟨x1, x2, x3, x4, x5, x6, x7, x8, x9, x10⟩ := W.xp
  have Cx := c_xAbout tl I L rd xa xl N n m q a1 a2 x1 x2 x3 x4 x5 x6 x7 x8 x9 x10
  have o0 := pp_about W.1 L L xa xl a1 a2
  obtain ⟨z1, A1⟩ := W.mid o0.2.1
  have o := pp_about z1 L (L) xa xl a1 a2
  clear o0
  have hL1 := Eq.refl L
  generalize hI1 : (xAbout I L xa xl n m q a1 a2).2 = I1 at *
  obtain ⟨y1, y2, y3, y4, y5, y6, y7, y8, y9⟩ := z1.yp A1
  have Cy := c_yAbout tl I1 L rd n m q a1 a2 y1 y2 y3 y4 y5 y6 y7 y8 y9
  exact sg_mk Cx Cy V W (RD.rfl rd) o
theorem sg_Ring (V : INV xs Ls c tl I rd) (hc : c < 512) (L : Nat → Nat → Int64) : SG xs Ls c tl I L rd 111 174 [] := by
  obtain ⟨n, xa, xl, N, q, m, D, H, B, l, h, W⟩ := V.now
  obtain ⟨x1, x2, x3, x4, x5, x6, x7, x8, x9, x10⟩ := W.xp
  have Cx := c_xRing tl I L rd xa xl N n m q x1 x2 x3 x4 x5 x6 x7 x8 x9 x10
  have o0 := pp_ring W.1 L L xa xl
  obtain ⟨z1, A1⟩ := W.mid o0.2.1
  have o := pp_ring z1 L (L) xa xl
  clear o0
  have hL1 := Eq.refl L
  generalize hI1 : (xRing I L xa xl n m q).2 = I1 at *
  obtain ⟨y1, y2, y3, y4, y5, y6, y7, y8, y9⟩ := z1.yp A1
  have Cy := c_yRing tl I1 L rd n m q y1 y2 y3 y4 y5 y6 y7 y8 y9
  exact sg_mk Cx Cy V W (RD.rfl rd) o
theorem sg_Row (V : INV xs Ls c tl I rd) (hc : c < 512) (L : Nat → Nat → Int64) (a1 : Int32) : SG xs Ls c tl I L rd 112 175 [.int a1] := by
  obtain ⟨n, xa, xl, N, q, m, D, H, B, l, h, W⟩ := V.now
  obtain ⟨x1, x2, x3, x4, x5, x6, x7, x8, x9, x10⟩ := W.xp
  have Cx := c_xRow tl I L rd xa xl N n m q a1 x1 x2 x3 x4 x5 x6 x7 x8 x9 x10
  have o0 := pp_row W.1 L L xa xl a1
  obtain ⟨z1, A1⟩ := W.mid o0.2.1
  have o := pp_row z1 L (L) xa xl a1
  clear o0
  have hL1 := Eq.refl L
  generalize hI1 : (xRow I L xa xl n m q a1).2 = I1 at *
  obtain ⟨y1, y2, y3, y4, y5, y6, y7, y8, y9⟩ := z1.yp A1
  have Cy := c_yRow tl I1 L rd n m q h a1 y1 y2 y3 y4 y5 y6 y7 y8 y9 z1.1.2.2.2.2.2.2.2.2.2.2.2.2.2.2.2.2.2.2.2.2.2.1 z1.2.2.2.2.2.1
  exact sg_mk Cx Cy V W (RD.rfl rd) o
theorem sg_Net (V : INV xs Ls c tl I rd) (hc : c < 512) (L : Nat → Nat → Int64) : SG xs Ls c tl I L rd 113 176 [] := by
  obtain ⟨n, xa, xl, N, q, m, D, H, B, l, h, W⟩ := V.now
  obtain ⟨x1, x2, x3, x4, x5, x6, x7, x8, x9, x10⟩ := W.xp
  have Cx := c_xNet tl I L rd xa xl N n m q x1 x2 x3 x4 x5 x6 x7 x8 x9 x10
  have o0 := pp_net W.1 hc L L xa xl
  obtain ⟨z1, A1⟩ := W.mid o0.2.1
  have o := pp_net z1 hc L (L) xa xl
  clear o0
  have hL1 := Eq.refl L
  generalize hI1 : (xNet I L xa xl n m q).2 = I1 at *
  obtain ⟨y1, y2, y3, y4, y5, y6, y7, y8, y9⟩ := z1.yp A1
  have Cy := c_yNet tl I1 L rd n m q y1 y2 y3 y4 y5 y6 y7 y8 y9
  exact sg_mk Cx Cy V W (RD.rfl rd) o
theorem sg_Feed (V : INV xs Ls c tl I rd) (hc : c < 512) (L : Nat → Nat → Int64) (a1 a2 a3 a4 a5 : Int32) : SG xs Ls c tl I L rd 114 177 [.int a1, .int a2, .int a3, .int a4, .int a5] := by
  obtain ⟨n, xa, xl, N, q, m, D, H, B, l, h, W⟩ := V.now
  obtain ⟨x1, x2, x3, x4, x5, x6, x7, x8, x9, x10⟩ := W.xp
  have Cx := c_xFeed tl I L rd xa xl N n m q l a1 a2 a3 a4 a5 x1 x2 x3 x4 x5 x6 x7 x8 x9 x10 W.1.1.2.2.2.2.2.2.1 W.1.2.2.2.2.1.1
  have o0 := pp_feed W.1 L L xa xl a1 a2 a3 a4 a5
  obtain ⟨z1, A1⟩ := W.mid o0.2.1
  have o := pp_feed z1 L (L) xa xl a1 a2 a3 a4 a5
  clear o0
  have hL1 := Eq.refl L
  generalize hI1 : (xFeed I L xa xl n m q a1 a2 a3 a4 a5).2 = I1 at *
  obtain ⟨y1, y2, y3, y4, y5, y6, y7, y8, y9⟩ := z1.yp A1
  have Cy := c_yFeed tl I1 L rd n m q l a1 a2 a3 a4 a5 y1 y2 y3 y4 y5 y6 y7 y8 y9 z1.1.2.2.2.2.2.2.2.2.2.2.2.2.2.2.2.2.2.2.2.2.1 z1.2.2.2.2.1.1
  exact sg_mk Cx Cy V W (RD.rfl rd) o
theorem sg_End (V : INV xs Ls c tl I rd) (hc : c < 512) (L : Nat → Nat → Int64) (a1 : Int32) : SG xs Ls c tl I L rd 115 179 [.int a1] := by
  obtain ⟨n, xa, xl, N, q, m, D, H, B, l, h, W⟩ := V.now
  obtain ⟨x1, x2, x3, x4, x5, x6, x7, x8, x9, x10⟩ := W.xp
  have Cx := c_xEnd tl I L rd xa xl N n m q a1 x1 x2 x3 x4 x5 x6 x7 x8 x9 x10
  have o0 := pp_end W.1 L L xa xl a1
  obtain ⟨z1, A1⟩ := W.mid o0.2.1
  have o := pp_end z1 L (L) xa xl a1
  clear o0
  have hL1 := Eq.refl L
  generalize hI1 : (xEnd I L xa xl n m q a1).2 = I1 at *
  obtain ⟨y1, y2, y3, y4, y5, y6, y7, y8, y9⟩ := z1.yp A1
  have Cy := c_yEnd tl I1 L rd n m q a1 y1 y2 y3 y4 y5 y6 y7 y8 y9
  exact sg_mk Cx Cy V W (RD.rfl rd) o
theorem sg_Fault (V : INV xs Ls c tl I rd) (hc : c < 512) (L : Nat → Nat → Int64) (a1 : Int32) : SG xs Ls c tl I L rd 117 192 [.int a1] := by
  obtain ⟨n, xa, xl, N, q, m, D, H, B, l, h, W⟩ := V.now
  obtain ⟨x1, x2, x3, x4, x5, x6, x7, x8, x9, x10⟩ := W.xp
  have Cx := c_xFault tl I L rd xa xl N n m q a1 x1 x2 x3 x4 x5 x6 x7 x8 x9 x10
  have o0 := pp_fault W.1 L L xa xl a1
  obtain ⟨z1, A1⟩ := W.mid o0.2.1
  have o := pp_fault z1 L (L) xa xl a1
  clear o0
  have hL1 := Eq.refl L
  generalize hI1 : (xFault I L xa xl n m q a1).2 = I1 at *
  obtain ⟨y1, y2, y3, y4, y5, y6, y7, y8, y9⟩ := z1.yp A1
  have Cy := c_yFault tl I1 L rd n m q a1 y1 y2 y3 y4 y5 y6 y7 y8 y9
  exact sg_mk Cx Cy V W (RD.rfl rd) o
theorem sg_Good (V : INV xs Ls c tl I rd) (hc : c < 512) (L : Nat → Nat → Int64) (a1 a2 : Int32) : SG xs Ls c tl I L rd 118 194 [.int a1, .int a2] := by
  obtain ⟨n, xa, xl, N, q, m, D, H, B, l, h, W⟩ := V.now
  obtain ⟨x1, x2, x3, x4, x5, x6, x7, x8, x9, x10⟩ := W.xp
  have Cx := c_xGood tl I L rd xa xl N n m q a1 a2 x1 x2 x3 x4 x5 x6 x7 x8 x9 x10
  have o0 := pp_good W.1 W.2.1 L L a1 a2
  obtain ⟨z1, A1⟩ := W.mid o0.2.1
  have o := pp_good z1 A1 L (L) a1 a2
  clear o0
  have hL1 := Eq.refl L
  generalize hI1 : (xGood I L xa xl n m q a1 a2).2 = I1 at *
  obtain ⟨y1, y2, y3, y4, y5, y6, y7, y8, y9⟩ := z1.yp A1
  have Cy := c_yGood tl I1 L rd n m q a1 a2 y1 y2 y3 y4 y5 y6 y7 y8 y9
  exact sg_mk Cx Cy V W (RD.rfl rd) o
theorem sg_Tells (V : INV xs Ls c tl I rd) (hc : c < 512) (L : Nat → Nat → Int64) (a1 a2 a3 : Int32) : SG xs Ls c tl I L rd 119 200 [.int a1, .int a2, .int a3] := by
  obtain ⟨n, xa, xl, N, q, m, D, H, B, l, h, W⟩ := V.now
  obtain ⟨x1, x2, x3, x4, x5, x6, x7, x8, x9, x10⟩ := W.xp
  have Cx := c_xTells tl I L rd xa xl N n m q a1 a2 a3 x1 x2 x3 x4 x5 x6 x7 x8 x9 x10
  have o0 := pp_tells W.1 W.2.1 W.2.2.1.xb L L a1 a2 a3
  obtain ⟨z1, A1⟩ := W.mid o0.2.1
  have o := pp_tells z1 A1 W.2.2.1.xb L (L) a1 a2 a3
  clear o0
  have hL1 := Eq.refl L
  generalize hI1 : (xTells I L xa xl n m q a1 a2 a3).2 = I1 at *
  obtain ⟨y1, y2, y3, y4, y5, y6, y7, y8, y9⟩ := z1.yp A1
  have Cy := c_yTells tl I1 L rd n m q a1 a2 a3 y1 y2 y3 y4 y5 y6 y7 y8 y9
  exact sg_mk Cx Cy V W (RD.rfl rd) o
theorem sg_Lawful (V : INV xs Ls c tl I rd) (hc : c < 512) (L : Nat → Nat → Int64) (a1 a2 a3 : Int32) : SG xs Ls c tl I L rd 120 201 [.int a1, .int a2, .int a3] := by
  obtain ⟨n, xa, xl, N, q, m, D, H, B, l, h, W⟩ := V.now
  obtain ⟨x1, x2, x3, x4, x5, x6, x7, x8, x9, x10⟩ := W.xp
  have Cx := c_xLawful tl I L rd xa xl N n m q a1 a2 a3 x1 x2 x3 x4 x5 x6 x7 x8 x9 x10
  have o0 := pp_lawful W.1 W.2.1 W.2.2.1.xb L L a1 a2 a3
  obtain ⟨z1, A1⟩ := W.mid o0.2.1
  have o := pp_lawful z1 A1 W.2.2.1.xb L (L) a1 a2 a3
  clear o0
  have hL1 := Eq.refl L
  generalize hI1 : (xLawful I L xa xl n m q a1 a2 a3).2 = I1 at *
  obtain ⟨y1, y2, y3, y4, y5, y6, y7, y8, y9⟩ := z1.yp A1
  have Cy := c_yLawful tl I1 L rd n m q a1 a2 a3 y1 y2 y3 y4 y5 y6 y7 y8 y9
  exact sg_mk Cx Cy V W (RD.rfl rd) o
theorem sg_Hold (V : INV xs Ls c tl I rd) (hc : c < 512) (L : Nat → Nat → Int64) (a1 a2 : Int32) : SG xs Ls c tl I L rd 121 203 [.int a1, .int a2] := by
  obtain ⟨n, xa, xl, N, q, m, D, H, B, l, h, W⟩ := V.now
  obtain ⟨x1, x2, x3, x4, x5, x6, x7, x8, x9, x10⟩ := W.xp
  have Cx := c_xHold tl I L rd xa xl N n m q a1 a2 x1 x2 x3 x4 x5 x6 x7 x8 x9 x10
  have o0 := pp_hold W.1 W.2.1 W.2.2.1.xb (by omega) L L a1 a2
  obtain ⟨z1, A1⟩ := W.mid o0.2.1
  have o := pp_hold z1 A1 W.2.2.1.xb (by omega) L (L) a1 a2
  clear o0
  have hL1 := Eq.refl L
  generalize hI1 : (xHold I L xa xl n m q a1 a2).2 = I1 at *
  obtain ⟨y1, y2, y3, y4, y5, y6, y7, y8, y9⟩ := z1.yp A1
  have Cy := c_yHold tl I1 L rd n m q a1 a2 y1 y2 y3 y4 y5 y6 y7 y8 y9
  exact sg_mk Cx Cy V W (RD.rfl rd) o
theorem sg_Tire (V : INV xs Ls c tl I rd) (hc : c < 512) (L : Nat → Nat → Int64) (a1 a2 : Int32) : SG xs Ls c tl I L rd 122 204 [.int a1, .int a2] := by
  obtain ⟨n, xa, xl, N, q, m, D, H, B, l, h, W⟩ := V.now
  obtain ⟨x1, x2, x3, x4, x5, x6, x7, x8, x9, x10⟩ := W.xp
  have Cx := c_xTire tl I L rd xa xl N n m q a1 a2 x1 x2 x3 x4 x5 x6 x7 x8 x9 x10
  have o0 := pp_tire W.1 L L xa xl a1 a2
  obtain ⟨z1, A1⟩ := W.mid o0.2.1
  have o := pp_tire z1 L (L) xa xl a1 a2
  clear o0
  have hL1 := Eq.refl L
  generalize hI1 : (xTire I L xa xl n m q a1 a2).2 = I1 at *
  obtain ⟨y1, y2, y3, y4, y5, y6, y7, y8, y9⟩ := z1.yp A1
  have Cy := c_yTire tl I1 L rd n m q a1 a2 y1 y2 y3 y4 y5 y6 y7 y8 y9
  exact sg_mk Cx Cy V W (RD.rfl rd) o
theorem sg_Leave (V : INV xs Ls c tl I rd) (hc : c < 512) (L : Nat → Nat → Int64) (a1 : Int32) : SG xs Ls c tl I L rd 123 206 [.int a1] := by
  obtain ⟨n, xa, xl, N, q, m, D, H, B, l, h, W⟩ := V.now
  obtain ⟨x1, x2, x3, x4, x5, x6, x7, x8, x9, x10⟩ := W.xp
  have Cx := c_xLeave tl I L rd xa xl N n m q a1 x1 x2 x3 x4 x5 x6 x7 x8 x9 x10
  have o0 := pp_leave W.1 (by omega) L L xa xl a1
  obtain ⟨z1, A1⟩ := W.mid o0.2.1
  have o := pp_leave z1 (by omega) L (L) xa xl a1
  clear o0
  have hL1 := Eq.refl L
  generalize hI1 : (xLeave I L xa xl n m q a1).2 = I1 at *
  obtain ⟨y1, y2, y3, y4, y5, y6, y7, y8, y9⟩ := z1.yp A1
  have Cy := c_yLeave tl I1 L rd n m q a1 y1 y2 y3 y4 y5 y6 y7 y8 y9
  exact sg_mk Cx Cy V W (RD.rfl rd) o
theorem sg_Room (V : INV xs Ls c tl I rd) (hc : c < 512) (L : Nat → Nat → Int64) (a1 a2 : Int32) : SG xs Ls c tl I L rd 124 207 [.int a1, .int a2] := by
  obtain ⟨n, xa, xl, N, q, m, D, H, B, l, h, W⟩ := V.now
  obtain ⟨x1, x2, x3, x4, x5, x6, x7, x8, x9, x10⟩ := W.xp
  have Cx := c_xRoom tl I L rd xa xl N n m q a1 a2 x1 x2 x3 x4 x5 x6 x7 x8 x9 x10
  have o0 := pp_room W.1 L L xa xl a1 a2
  obtain ⟨z1, A1⟩ := W.mid o0.2.1
  have o := pp_room z1 L (L) xa xl a1 a2
  clear o0
  have hL1 := Eq.refl L
  generalize hI1 : (xRoom I L xa xl n m q a1 a2).2 = I1 at *
  obtain ⟨y1, y2, y3, y4, y5, y6, y7, y8, y9⟩ := z1.yp A1
  have Cy := c_yRoom tl I1 L rd n m q a1 a2 y1 y2 y3 y4 y5 y6 y7 y8 y9
  exact sg_mk Cx Cy V W (RD.rfl rd) o
theorem sg_Walk (V : INV xs Ls c tl I rd) (hc : c < 512) (L : Nat → Nat → Int64) (a1 a2 : Int32) (ho : a2 = 0 ∨ a2 = 1) : SG xs Ls c tl I L rd 125 208 [.int a1, .int a2] := by
  obtain ⟨n, xa, xl, N, q, m, D, H, B, l, h, W⟩ := V.now
  obtain ⟨x1, x2, x3, x4, x5, x6, x7, x8, x9, x10⟩ := W.xp
  have Cx := c_xWalk tl I L rd xa xl N n m q a1 a2 x1 x2 x3 x4 x5 x6 x7 x8 x9 x10
  have o0 := pp_walk W.1 W.2.1 W.2.2.1.xb L L a1 a2 ho
  obtain ⟨z1, A1⟩ := W.mid o0.2.1
  have o := pp_walk z1 A1 W.2.2.1.xb L (L) a1 a2 ho
  clear o0
  have hL1 := Eq.refl L
  generalize hI1 : (xWalk I L xa xl n m q a1 a2).2 = I1 at *
  obtain ⟨y1, y2, y3, y4, y5, y6, y7, y8, y9⟩ := z1.yp A1
  have Cy := c_yWalk tl I1 L rd n m q a1 a2 y1 y2 y3 y4 y5 y6 y7 y8 y9
  exact sg_mk Cx Cy V W (RD.rfl rd) o
theorem sg_Hour (V : INV xs Ls c tl I rd) (hc : c < 512) (L : Nat → Nat → Int64) : SG xs Ls c tl I L rd 126 209 [] := by
  obtain ⟨n, xa, xl, N, q, m, D, H, B, l, h, W⟩ := V.now
  obtain ⟨x1, x2, x3, x4, x5, x6, x7, x8, x9, x10⟩ := W.xp
  have Cx := c_xHour tl I L rd xa xl N n m q x1 x2 x3 x4 x5 x6 x7 x8 x9 x10
  have o0 := pp_hour W.1 W.2.1 W.2.2.1.xb L L
  obtain ⟨z1, A1⟩ := W.mid o0.2.1
  have o := pp_hour z1 A1 W.2.2.1.xb L (L)
  clear o0
  have hL1 := Eq.refl L
  generalize hI1 : (xHour I L xa xl n m q).2 = I1 at *
  obtain ⟨y1, y2, y3, y4, y5, y6, y7, y8, y9⟩ := z1.yp A1
  have Cy := c_yHour tl I1 L rd n m q y1 y2 y3 y4 y5 y6 y7 y8 y9
  exact sg_mk Cx Cy V W (RD.rfl rd) o
theorem sg_Day (V : INV xs Ls c tl I rd) (hc : c < 512) (L : Nat → Nat → Int64) : SG xs Ls c tl I L rd 127 211 [] := by
  obtain ⟨n, xa, xl, N, q, m, D, H, B, l, h, W⟩ := V.now
  obtain ⟨x1, x2, x3, x4, x5, x6, x7, x8, x9, x10⟩ := W.xp
  have Cx := c_xDay tl I L rd xa xl N n m q x1 x2 x3 x4 x5 x6 x7 x8 x9 x10
  have o0 := pp_day W.1 W.2.1 W.2.2.1.xb (by omega) L L
  obtain ⟨z1, A1⟩ := W.mid o0.2.1
  have o := pp_day z1 A1 W.2.2.1.xb (by omega) L (L)
  clear o0
  have hL1 := Eq.refl L
  generalize hI1 : (xDay I L xa xl n m q).2 = I1 at *
  obtain ⟨y1, y2, y3, y4, y5, y6, y7, y8, y9⟩ := z1.yp A1
  have Cy := c_yDay tl I1 L rd n m q y1 y2 y3 y4 y5 y6 y7 y8 y9
  exact sg_mk Cx Cy V W (RD.rfl rd) o
theorem sg_Turn (V : INV xs Ls c tl I rd) (hc : c < 512) (L : Nat → Nat → Int64) : SG xs Ls c tl I L rd 128 212 [] := by
  obtain ⟨n, xa, xl, N, q, m, D, H, B, l, h, W⟩ := V.now
  obtain ⟨x1, x2, x3, x4, x5, x6, x7, x8, x9, x10⟩ := W.xp
  have Cx := c_xTurn tl I L rd xa xl N n m q x1 x2 x3 x4 x5 x6 x7 x8 x9 x10
  have o0 := pp_turn W.1 L L xa xl
  obtain ⟨z1, A1⟩ := W.mid o0.2.1
  have o := pp_turn z1 L (L) xa xl
  clear o0
  have hL1 := Eq.refl L
  generalize hI1 : (xTurn I L xa xl n m q).2 = I1 at *
  obtain ⟨y1, y2, y3, y4, y5, y6, y7, y8, y9⟩ := z1.yp A1
  have Cy := c_yTurn tl I1 L rd n m q y1 y2 y3 y4 y5 y6 y7 y8 y9
  exact sg_mk Cx Cy V W (RD.rfl rd) o
theorem sg_Alms (V : INV xs Ls c tl I rd) (hc : c < 512) (L : Nat → Nat → Int64) (a1 : Int32) : SG xs Ls c tl I L rd 129 213 [.int a1] := by
  obtain ⟨n, xa, xl, N, q, m, D, H, B, l, h, W⟩ := V.now
  obtain ⟨x1, x2, x3, x4, x5, x6, x7, x8, x9, x10⟩ := W.xp
  have Cx := c_xAlms tl I L rd xa xl N n m q a1 x1 x2 x3 x4 x5 x6 x7 x8 x9 x10
  have o0 := pp_alms W.1 (by omega) L L xa xl a1
  obtain ⟨z1, A1⟩ := W.mid o0.2.1
  have o := pp_alms z1 (by omega) L (L) xa xl a1
  clear o0
  have hL1 := Eq.refl L
  generalize hI1 : (xAlms I L xa xl n m q a1).2 = I1 at *
  obtain ⟨y1, y2, y3, y4, y5, y6, y7, y8, y9⟩ := z1.yp A1
  have Cy := c_yAlms tl I1 L rd n m q a1 y1 y2 y3 y4 y5 y6 y7 y8 y9
  exact sg_mk Cx Cy V W (RD.rfl rd) o
theorem sg_Tell (V : INV xs Ls c tl I rd) (hc : c < 512) (L : Nat → Nat → Int64) (a1 a2 : Int32) : SG xs Ls c tl I L rd 130 216 [.int a1, .int a2] := by
  obtain ⟨n, xa, xl, N, q, m, D, H, B, l, h, W⟩ := V.now
  obtain ⟨x1, x2, x3, x4, x5, x6, x7, x8, x9, x10⟩ := W.xp
  have Cx := c_xTell tl I L rd xa xl N n m q a1 a2 x1 x2 x3 x4 x5 x6 x7 x8 x9 x10
  have o0 := pp_tell W.1 L L xa xl a1 a2
  obtain ⟨z1, A1⟩ := W.mid o0.2.1
  have o := pp_tell z1 L (L) xa xl a1 a2
  clear o0
  have hL1 := Eq.refl L
  generalize hI1 : (xTell I L xa xl n m q a1 a2).2 = I1 at *
  obtain ⟨y1, y2, y3, y4, y5, y6, y7, y8, y9⟩ := z1.yp A1
  have Cy := c_yTell tl I1 L rd n m q a1 a2 y1 y2 y3 y4 y5 y6 y7 y8 y9
  exact sg_mk Cx Cy V W (RD.rfl rd) o
theorem sg_Least (V : INV xs Ls c tl I rd) (hc : c < 512) (L : Nat → Nat → Int64) (a1 a2 a3 : Int32) : SG xs Ls c tl I L rd 131 217 [.int a1, .int a2, .int a3] := by
  obtain ⟨n, xa, xl, N, q, m, D, H, B, l, h, W⟩ := V.now
  obtain ⟨x1, x2, x3, x4, x5, x6, x7, x8, x9, x10⟩ := W.xp
  have Cx := c_xLeast tl I L rd xa xl N n m q a1 a2 a3 x1 x2 x3 x4 x5 x6 x7 x8 x9 x10
  have o0 := pp_least W.1 L L xa xl a1 a2 a3
  obtain ⟨z1, A1⟩ := W.mid o0.2.1
  have o := pp_least z1 L (L) xa xl a1 a2 a3
  clear o0
  have hL1 := Eq.refl L
  generalize hI1 : (xLeast I L xa xl n m q a1 a2 a3).2 = I1 at *
  obtain ⟨y1, y2, y3, y4, y5, y6, y7, y8, y9⟩ := z1.yp A1
  have Cy := c_yLeast tl I1 L rd n m q a1 a2 a3 y1 y2 y3 y4 y5 y6 y7 y8 y9
  exact sg_mk Cx Cy V W (RD.rfl rd) o
theorem sg_Binds (V : INV xs Ls c tl I rd) (hc : c < 512) (L : Nat → Nat → Int64) (a1 a2 : Int32) : SG xs Ls c tl I L rd 132 221 [.int a1, .int a2] := by
  obtain ⟨n, xa, xl, N, q, m, D, H, B, l, h, W⟩ := V.now
  obtain ⟨x1, x2, x3, x4, x5, x6, x7, x8, x9, x10⟩ := W.xp
  have Cx := c_xBinds tl I L rd xa xl N n m q a1 a2 x1 x2 x3 x4 x5 x6 x7 x8 x9 x10
  have o0 := pp_binds W.1 W.2.1 W.2.2.1.xb L L a1 a2
  obtain ⟨z1, A1⟩ := W.mid o0.2.1
  have o := pp_binds z1 A1 W.2.2.1.xb L ((xBinds I L xa xl n m q a1 a2).2.2) a1 a2
  clear o0
  generalize hL1 : ((xBinds I L xa xl n m q a1 a2).2.2) = L1 at *
  generalize hI1 : (xBinds I L xa xl n m q a1 a2).2.1 = I1 at *
  obtain ⟨y1, y2, y3, y4, y5, y6, y7, y8, y9⟩ := z1.yp A1
  have Cy := c_yBinds tl I1 L1 rd n m q a1 a2 y1 y2 y3 y4 y5 y6 y7 y8 y9
  exact sg_mk Cx Cy V W (RD.rfl rd) o
theorem sg_Offer (V : INV xs Ls c tl I rd) (hc : c < 512) (L : Nat → Nat → Int64) (a1 : Int32) : SG xs Ls c tl I L rd 133 222 [.int a1] := by
  obtain ⟨n, xa, xl, N, q, m, D, H, B, l, h, W⟩ := V.now
  obtain ⟨x1, x2, x3, x4, x5, x6, x7, x8, x9, x10⟩ := W.xp
  have Cx := c_xOffer tl I L rd xa xl N n m q a1 x1 x2 x3 x4 x5 x6 x7 x8 x9 x10
  have o0 := pp_offer W.1 W.2.1 W.2.2.1.xb L L a1
  obtain ⟨z1, A1⟩ := W.mid o0.2.1
  have o := pp_offer z1 A1 W.2.2.1.xb L ((xOffer I L xa xl n m q a1).2.2) a1
  clear o0
  generalize hL1 : ((xOffer I L xa xl n m q a1).2.2) = L1 at *
  generalize hI1 : (xOffer I L xa xl n m q a1).2.1 = I1 at *
  obtain ⟨y1, y2, y3, y4, y5, y6, y7, y8, y9⟩ := z1.yp A1
  have Cy := c_yOffer tl I1 L1 rd n m q a1 y1 y2 y3 y4 y5 y6 y7 y8 y9
  exact sg_mk Cx Cy V W (RD.rfl rd) o
theorem sg_Compose (V : INV xs Ls c tl I rd) (hc : c < 512) (L : Nat → Nat → Int64) (a1 a2 : Int32) : SG xs Ls c tl I L rd 134 223 [.int a1, .int a2] := by
  obtain ⟨n, xa, xl, N, q, m, D, H, B, l, h, W⟩ := V.now
  obtain ⟨x1, x2, x3, x4, x5, x6, x7, x8, x9, x10⟩ := W.xp
  have Cx := c_xCompose tl I L rd xa xl N n m q a1 a2 x1 x2 x3 x4 x5 x6 x7 x8 x9 x10
  have o0 := pp_compose W.1 W.2.1 W.2.2.1.xb (by omega) L L a1 a2
  obtain ⟨z1, A1⟩ := W.mid o0.2.1
  have o := pp_compose z1 A1 W.2.2.1.xb (by omega) L ((xCompose I L xa xl n m q a1 a2).2.2) a1 a2
  clear o0
  generalize hL1 : ((xCompose I L xa xl n m q a1 a2).2.2) = L1 at *
  generalize hI1 : (xCompose I L xa xl n m q a1 a2).2.1 = I1 at *
  obtain ⟨y1, y2, y3, y4, y5, y6, y7, y8, y9⟩ := z1.yp A1
  have Cy := c_yCompose tl I1 L1 rd n m q a1 a2 y1 y2 y3 y4 y5 y6 y7 y8 y9
  exact sg_mk Cx Cy V W (RD.rfl rd) o
theorem sg_Buy (V : INV xs Ls c tl I rd) (hc : c < 512) (L : Nat → Nat → Int64) (a1 a2 a3 : Int32) : SG xs Ls c tl I L rd 135 224 [.int a1, .int a2, .int a3] := by
  obtain ⟨n, xa, xl, N, q, m, D, H, B, l, h, W⟩ := V.now
  obtain ⟨x1, x2, x3, x4, x5, x6, x7, x8, x9, x10⟩ := W.xp
  have Cx := c_xBuy tl I L rd xa xl N n m q a1 a2 a3 x1 x2 x3 x4 x5 x6 x7 x8 x9 x10
  have o0 := pp_buy W.1 (by omega) L L xa xl a1 a2 a3
  obtain ⟨z1, A1⟩ := W.mid o0.2.1
  have o := pp_buy z1 (by omega) L (L) xa xl a1 a2 a3
  clear o0
  have hL1 := Eq.refl L
  generalize hI1 : (xBuy I L xa xl n m q a1 a2 a3).2 = I1 at *
  obtain ⟨y1, y2, y3, y4, y5, y6, y7, y8, y9⟩ := z1.yp A1
  have Cy := c_yBuy tl I1 L rd n m q a1 a2 a3 y1 y2 y3 y4 y5 y6 y7 y8 y9
  exact sg_mk Cx Cy V W (RD.rfl rd) o
theorem sg_Swing (V : INV xs Ls c tl I rd) (hc : c < 512) (L : Nat → Nat → Int64) (a1 a2 a3 a4 : Int32) : SG xs Ls c tl I L rd 136 225 [.int a1, .int a2, .int a3, .int a4] := by
  obtain ⟨n, xa, xl, N, q, m, D, H, B, l, h, W⟩ := V.now
  obtain ⟨x1, x2, x3, x4, x5, x6, x7, x8, x9, x10⟩ := W.xp
  have Cx := c_xSwing tl I L rd xa xl N n m q a1 a2 a3 a4 x1 x2 x3 x4 x5 x6 x7 x8 x9 x10
  have o0 := pp_swing W.1 W.2.1 W.2.2.1.xb (by omega) L L a1 a2 a3 a4
  obtain ⟨z1, A1⟩ := W.mid o0.2.1
  have o := pp_swing z1 A1 W.2.2.1.xb (by omega) L ((xSwing I L xa xl n m q a1 a2 a3 a4).2.2) a1 a2 a3 a4
  clear o0
  generalize hL1 : ((xSwing I L xa xl n m q a1 a2 a3 a4).2.2) = L1 at *
  generalize hI1 : (xSwing I L xa xl n m q a1 a2 a3 a4).2.1 = I1 at *
  obtain ⟨y1, y2, y3, y4, y5, y6, y7, y8, y9⟩ := z1.yp A1
  have Cy := c_ySwing tl I1 L1 (swRd I rd a1 a2 a3 a4) n m q a1 a2 a3 a4 y1 y2 y3 y4 y5 y6 y7 y8 y9
  exact sg_mk Cx Cy V W (swRd_RD I rd a1 a2 a3 a4) o
theorem sg_Surr (V : INV xs Ls c tl I rd) (hc : c < 512) (L : Nat → Nat → Int64) (a1 : Int32) : SG xs Ls c tl I L rd 137 228 [.int a1] := by
  obtain ⟨n, xa, xl, N, q, m, D, H, B, l, h, W⟩ := V.now
  obtain ⟨x1, x2, x3, x4, x5, x6, x7, x8, x9, x10⟩ := W.xp
  have Cx := c_xSurr tl I L rd xa xl N n m q a1 x1 x2 x3 x4 x5 x6 x7 x8 x9 x10
  have o0 := pp_surr W.1 W.2.1 W.2.2.1.xb (by omega) L L a1
  obtain ⟨z1, A1⟩ := W.mid o0.2.1
  have o := pp_surr z1 A1 W.2.2.1.xb (by omega) L ((xSurr I L xa xl n m q a1).2.2) a1
  clear o0
  generalize hL1 : ((xSurr I L xa xl n m q a1).2.2) = L1 at *
  generalize hI1 : (xSurr I L xa xl n m q a1).2.1 = I1 at *
  obtain ⟨y1, y2, y3, y4, y5, y6, y7, y8, y9⟩ := z1.yp A1
  have Cy := c_ySurr tl I1 L1 rd n m q a1 y1 y2 y3 y4 y5 y6 y7 y8 y9 (fun hs => surr_safe z1 A1 W.2.2.1.xb (by omega) L1 a1 hs)
  exact sg_mk Cx Cy V W (RD.rfl rd) o
theorem sg_Found (V : INV xs Ls c tl I rd) (hc : c < 512) (L : Nat → Nat → Int64) (a1 a2 : Int32) : SG xs Ls c tl I L rd 138 229 [.int a1, .int a2] := by
  obtain ⟨n, xa, xl, N, q, m, D, H, B, l, h, W⟩ := V.now
  obtain ⟨x1, x2, x3, x4, x5, x6, x7, x8, x9, x10⟩ := W.xp
  have Cx := c_xFound tl I L rd xa xl N n m q a1 a2 x1 x2 x3 x4 x5 x6 x7 x8 x9 x10
  have o0 := pp_found W.1 W.2.1 W.2.2.1.xb (by omega) L L a1 a2
  obtain ⟨z1, A1⟩ := W.mid o0.2.1
  have o := pp_found z1 A1 W.2.2.1.xb (by omega) L ((xFound I L xa xl n m q a1 a2).2.2) a1 a2
  clear o0
  generalize hL1 : ((xFound I L xa xl n m q a1 a2).2.2) = L1 at *
  generalize hI1 : (xFound I L xa xl n m q a1 a2).2.1 = I1 at *
  obtain ⟨y1, y2, y3, y4, y5, y6, y7, y8, y9⟩ := z1.yp A1
  have Cy := c_yFound2 tl I1 L1 rd n m q a1 a2 y1 y2 y3 y4 y5 y6 y7 y8 y9 (fun h1 h2 _ => by
    obtain ⟨P, hP, rfl⟩ := (isPer_iff y3 y4).mp h1
    have h3 : outside I a2 1 1000000 = 0 := Classical.byContradiction fun y => h2 ((inR_o I1 I a2 1 1000000).mpr y)
    exact found_safe z1 A1 W.2.2.1.xb (by omega) L1 hP (by have := (out_iff I a2 1 1000000).mp h3; exact this))
  exact sg_mk Cx Cy V W (RD.rfl rd) o
theorem sg_Book (V : INV xs Ls c tl I rd) (hc : c < 512) (L : Nat → Nat → Int64) (a1 a2 : Int32) : SG xs Ls c tl I L rd 139 230 [.int a1, .int a2] := by
  obtain ⟨n, xa, xl, N, q, m, D, H, B, l, h, W⟩ := V.now
  obtain ⟨x1, x2, x3, x4, x5, x6, x7, x8, x9, x10⟩ := W.xp
  have Cx := c_xBook tl I L rd xa xl N n m q a1 a2 x1 x2 x3 x4 x5 x6 x7 x8 x9 x10
  have o0 := pp_book W.1 L L xa xl a1 a2
  obtain ⟨z1, A1⟩ := W.mid o0.2.1
  have o := pp_book z1 L (L) xa xl a1 a2
  clear o0
  have hL1 := Eq.refl L
  generalize hI1 : (xBook I L xa xl n m q a1 a2).2 = I1 at *
  obtain ⟨y1, y2, y3, y4, y5, y6, y7, y8, y9⟩ := z1.yp A1
  have Cy := c_yBook tl I1 L rd n m q a1 a2 y1 y2 y3 y4 y5 y6 y7 y8 y9
  exact sg_mk Cx Cy V W (RD.rfl rd) o
theorem sg_Free (V : INV xs Ls c tl I rd) (hc : c < 512) (L : Nat → Nat → Int64) (a1 a2 : Int32) : SG xs Ls c tl I L rd 140 232 [.int a1, .int a2] := by
  obtain ⟨n, xa, xl, N, q, m, D, H, B, l, h, W⟩ := V.now
  obtain ⟨x1, x2, x3, x4, x5, x6, x7, x8, x9, x10⟩ := W.xp
  have Cx := c_xFree tl I L rd xa xl N n m q a1 a2 x1 x2 x3 x4 x5 x6 x7 x8 x9 x10
  have o0 := pp_free W.1 (by omega) L L xa xl a1 a2
  obtain ⟨z1, A1⟩ := W.mid o0.2.1
  have o := pp_free z1 (by omega) L ((xFree I L xa xl n m q a1 a2).2.2) xa xl a1 a2
  clear o0
  generalize hL1 : ((xFree I L xa xl n m q a1 a2).2.2) = L1 at *
  generalize hI1 : (xFree I L xa xl n m q a1 a2).2.1 = I1 at *
  obtain ⟨y1, y2, y3, y4, y5, y6, y7, y8, y9⟩ := z1.yp A1
  have Cy := c_yFree tl I1 L1 rd n m q a1 a2 y1 y2 y3 y4 y5 y6 y7 y8 y9
  exact sg_mk Cx Cy V W (RD.rfl rd) o
theorem sg_Count (V : INV xs Ls c tl I rd) (hc : c < 512) (L : Nat → Nat → Int64) (a1 : Int32) : SG xs Ls c tl I L rd 141 233 [.int a1] := by
  obtain ⟨n, xa, xl, N, q, m, D, H, B, l, h, W⟩ := V.now
  obtain ⟨x1, x2, x3, x4, x5, x6, x7, x8, x9, x10⟩ := W.xp
  have Cx := c_xCount tl I L rd xa xl N n m q a1 x1 x2 x3 x4 x5 x6 x7 x8 x9 x10
  have o0 := pp_count W.1 L L xa xl a1
  obtain ⟨z1, A1⟩ := W.mid o0.2.1
  have o := pp_count z1 L (L) xa xl a1
  clear o0
  have hL1 := Eq.refl L
  generalize hI1 : (xCount I L xa xl n m q a1).2 = I1 at *
  obtain ⟨y1, y2, y3, y4, y5, y6, y7, y8, y9⟩ := z1.yp A1
  have Cy := c_yCount tl I1 L rd n m q a1 y1 y2 y3 y4 y5 y6 y7 y8 y9
  exact sg_mk Cx Cy V W (RD.rfl rd) o
end
