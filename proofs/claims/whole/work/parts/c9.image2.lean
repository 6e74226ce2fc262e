/-! ONE CALL OF THE LAW: image, again -/
theorem blk_out {w f0 t j : Nat} (h : f0 ≠ t) (hj : j < w) : ¬ (w * t ≤ w * f0 + j ∧ w * f0 + j < w * t + w) := by
  rcases Nat.lt_or_gt_of_ne h with g | g
  · have := Nat.mul_le_mul_left w (show f0 + 1 ≤ t from g)
    rw [Nat.mul_succ] at this
    omega
  · have := Nat.mul_le_mul_left w (show t + 1 ≤ f0 from g)
    rw [Nat.mul_succ] at this
    omega
section
variable {xs : Nat → Int32} {Ls c : Nat} {tl : List (Nat × Nat)} {I : Nat → Nat → Int32} {rd : Nat → Nat → Option Nat}
theorem img_end {k b : Nat} (T : IM c tl I rd 1 0) (K : ∀ k', k' < 3 → k' ≠ k → (rst rd 36 k' = none ∧ I 130 k' = 0) ∨ ∃ b', rst rd 36 k' = some b' ∧ 131 ≤ b' ∧ I 130 k' = 1 ∧ IM c tl I rd b' (k' + 1) ∧ b' ≠ b) (Dn : ∀ k1 k2, k1 < 3 → k2 < 3 → k1 ≠ k → k2 ≠ k → k1 ≠ k2 → ∀ b, rst rd 36 k1 = some b → ¬ rst rd 36 k2 = some b) (hk : k < 3) (hB : HL tl rd b) (hb : 131 ≤ b) (hr : rst rd 36 k = some b) (l1 : tl.length ≤ 37 * (c + 1)) (l2 : (tl.map (fun q => q.2)).sum ≤ 1600 * (c + 1)) (S : SCR xs Ls I) : INV xs Ls (c + 1) tl (up2 (cpyR (up2 (h_7 I b 1) 61 0 0) 0 (k + 1)) 130 k 1) (rdC rd b 1 4) ∧ SCR xs Ls (h_7 I b 1) := by
  have m0 : mx = 1000000 := rfl
  have hbm := hB.2.2.2.2.1
  generalize hI2 : up2 (cpyR (up2 (h_7 I b 1) 61 0 0) 0 (k + 1)) 130 k 1 = I2
  have out : ∀ a, a < 61 ∨ 131 ≤ a → I2 a = h_7 I b 1 a := fun a ha => by
    rw [← hI2, up2_ne (by omega), cpyR_ne _ _ _ (by omega), up2_ne (by omega)]
  have e130 : ∀ j, I2 130 j = if j = k then 1 else I 130 j := fun j => by
    rw [← hI2, wup2_at]
    by_cases e : j = k
    · rw [if_pos e, if_pos e]
    · rw [if_neg e, if_neg e, cpyR_ne _ _ _ (by omega), up2_ne (by omega), h7_out I (by omega)]
  have blk : ∀ f0, f0 ≠ k + 1 → ∀ a, 62 ≤ a → a ≤ 113 → ∀ j, j < nn a → I2 a (nn a * f0 + j) = I a (nn a * f0 + j) := fun f0 h0 a h1 h2 j hj => by
    rw [← hI2, up2_ne (by omega), cpyR_at _ _ _ h1 h2, if_neg (blk_out h0 hj), up2_ne (by omega), h7_out I (by omega)]
  have hxa : ∀ a, 131 ≤ a → ((Sst ++ tl)[a]? = some (10, 4) ∨ ∃ k, (Sst ++ tl)[a]? = some (0, 19 * k)) → I2 a = I a := fun a ha hs => by
    rw [out a (Or.inr ha)]
    rcases hs with e | ⟨k, e⟩
    · exact h7_out I (hB.actO e)
    · exact h7_out I (hB.actL e)
  have hra : ∀ a k, 131 ≤ a → (Sst ++ tl)[a]? = some (10, 4) → rst (rdC rd b 1 4) a k = rst rd a k := fun a k ha hs => rdC_ne _ _ (by have := hB.actO hs; omega)
  have r36 : ∀ j, rst (rdC rd b 1 4) 36 j = rst rd 36 j := fun j => rdC_ne _ _ (by omega)
  have S1 : SCR xs Ls (h_7 I b 1) := ⟨by rw [h7_out I (by omega)]; exact S.1, by rw [h7_out I (by omega)]; exact S.2⟩
  refine ⟨⟨?_, fun k' hk' => ?_, fun k1 k2 h1 h2 h3 b' => ?_, l1, l2, ?_⟩, S1⟩
  · have := T.nx.pw (u := []) (I' := I2) (rd' := rdC rd b 1 4) (fun a h1 h2 => by rw [out a (by omega), h7_out I (by omega)]) hxa (blk 0 (by omega)) (fun a j h1 h2 => rdC_ne _ _ (by omega)) hra
    rw [List.append_nil] at this
    exact this
  · by_cases e : k' = k
    · subst e
      right
      refine ⟨b, by rw [r36]; exact hr, hb, by rw [e130, if_pos rfl], ?_⟩
      refine T.copy (J := up2 (h_7 I b 1) 61 0 0) hB (Or.inr (by omega)) (Or.inr hb) out (fun a h1 h2 => by rw [up2_ne (by omega), h7_out I (by omega)]) (fun a h1 h2 => by rw [← hI2, up2_ne (by omega)])
    · rcases K k' hk' e with ⟨e1, e2⟩ | ⟨b', e1, e2, e3, e4, e5⟩
      · exact Or.inl ⟨by rw [r36]; exact e1, by rw [e130, if_neg e]; exact e2⟩
      · right
        have hB' : HL tl rd b' := by
          obtain ⟨n, xa, xl, N, q, m, D, H, B, l, h', z, A, J, R, K⟩ := e4
          exact K
        have ap := hB.apart hB' (fun y => e5 y.symm)
        refine ⟨b', by rw [r36]; exact e1, e2, by rw [e130, if_neg e]; exact e3, ?_⟩
        have := e4.nx.pw (u := []) (I' := I2) (rd' := rdC rd b 1 4) (fun a h1 h2 => by rw [out a (by omega), h7_out I (by omega)]) hxa (blk (k' + 1) (by omega)) (fun a j h1 h2 => rdC_ne _ _ (by omega)) hra
        rw [List.append_nil] at this
        exact this
  · rw [r36, r36]
    by_cases e1 : k1 = k
    · subst e1
      intro y1 y2
      rcases K k2 h2 (fun y => h3 y.symm) with ⟨g1, -⟩ | ⟨b2, g1, -, -, -, g5⟩
      · rw [g1] at y2; cases y2
      · rw [hr] at y1; rw [g1] at y2; cases y1; cases y2; exact g5 rfl
    · by_cases e2 : k2 = k
      · subst e2
        intro y1 y2
        rcases K k1 h1 e1 with ⟨g1, -⟩ | ⟨b2, g1, -, -, -, g5⟩
        · rw [g1] at y1; cases y1
        · rw [hr] at y2; rw [g1] at y1; cases y1; cases y2; exact g5 rfl
      · exact Dn k1 k2 h1 h2 e1 e2 h3 b'
  · exact ⟨by rw [out _ (by omega)]; exact S1.1, by rw [out _ (by omega)]; exact S1.2⟩
theorem IM.hl {b f : Nat} (h : IM c tl I rd b f) : HL tl rd b := by
  obtain ⟨n, xa, xl, N, q, m, D, H, B, l, h', z, A, J, R, K⟩ := h
  exact K
theorem IM.rf {b f : Nat} (h : IM c tl I rd b f) : RF tl rd b := by
  obtain ⟨n, xa, xl, N, q, m, D, H, B, l, h', z, A, J, R, K⟩ := h
  exact R
theorem IM.tape {b f : Nat} (h : IM c tl I rd b f) {j : Nat} (hj : j < 600) : fits .byte (.int (I (b + 33) j)) = true := by
  obtain ⟨n, xa, xl, N, q, m, D, H, B, l, h', z, A, J, R, K⟩ := h
  exact byt_fits (z.2.2.2.2.1.2.2 j hj).1
theorem rst_rst (rd : Nat → Nat → Option Nat) (a k : Nat) : rst (rst rd) a k = rst rd a k := by
  unfold rst
  cases h1 : rfz[a]? with
  | none => rfl
  | some row => cases h2 : row[k]? with
    | none => simp only [h2]
    | some y => cases y with
      | none => simp only [h2]
      | some z => simp only [h2]
theorem sg_Again (V : INV xs Ls c tl I rd) (hc : c < 512) (L : Nat → Nat → Int64) (x : Int32) : SG xs Ls c tl I L rd 143 235 [.int x] := by
  have m0 : mx = 1000000 := rfl
  obtain ⟨n, xa, xl, Nn, q, m, D, H, B, l, h, W⟩ := V.now
  by_cases ho : outside I x 0 2 = 0
  · obtain ⟨k, hk, rfl⟩ := rng_nI (x := x) (N := 3) (by have := (out_iff I x 0 2).mp ho; rw [toI_0, toI_2] at this; omega)
    have ek : (nI k).toNatClampNeg = k := nI_clamp (by omega)
    rcases V.2.1 k hk with ⟨e1, e2⟩ | ⟨b, e1, e2, e3, e4⟩
    · exact sg_mk (c_xAgZ tl I L rd k hk e1) (c_yAgZ tl I L rd k hk (by rw [ek]; exact e2)) V W (RD.rfl rd) (W.1.ok0 rfl)
    · have hB := e4.hl
      have hbm := hB.2.2.2.2.1
      have Cx := c_xAgB tl I L rd k b hk e1 hB (by omega) e4.rf (fun j hj => by rw [h4_out I (by omega)]; exact e4.tape hj)
      have i130 : h_7 I 1 b 130 = I 130 := h7_out I (by omega)
      have Cy := c_yAgB tl (h_7 I 1 b) L (rdC rd 1 b 4) k hk (by rw [ek, i130, e3]; exact one_nz)
      refine ⟨1, tl, h_7 I 1 b, L, rdC rd 1 b 4, _, L, Cx, Cy, ?_, ?_⟩
      · generalize hI2 : cpyR (up2 (h_7 I 1 b) 61 0 0) (k + 1) 0 = I2
        have out : ∀ a, a < 61 ∨ 114 ≤ a → I2 a = h_7 I 1 b a := fun a ha => by
          rw [← hI2, cpyR_ne _ _ _ (by omega), up2_ne (by omega)]
        have hi : ∀ a, 114 ≤ a → I2 a = I a := fun a ha => by rw [out a (Or.inr ha), h7_out I (by omega)]
        refine ⟨?_, fun k' hk' => ?_, fun k1 k2 h1 h2 h3 b' => ?_, by have := V.2.2.2.1; omega, by have := V.2.2.2.2.1; omega, ⟨by rw [hi _ (by omega)]; exact V.2.2.2.2.2.1, by rw [hi _ (by omega)]; exact V.2.2.2.2.2.2⟩⟩
        · exact e4.copy (J := up2 (h_7 I 1 b) 61 0 0) (HL_1 tl rd) (Or.inl (by omega)) (Or.inl (by omega)) (fun a ha => out a (by omega)) (fun a h1 h2 => by rw [up2_ne (by omega), h7_out I (by omega)]) (fun a h1 h2 => by rw [← hI2])
        · have r36 : rst (rdC rd 1 b 4) 36 k' = rst rd 36 k' := rdC_ne _ _ (by omega)
          rcases V.2.1 k' hk' with ⟨g1, g2⟩ | ⟨b', g1, g2, g3, g4⟩
          · exact Or.inl ⟨by rw [r36]; exact g1, by rw [hi _ (by omega)]; exact g2⟩
          · refine Or.inr ⟨b', by rw [r36]; exact g1, g2, by rw [hi _ (by omega)]; exact g3, ?_⟩
            have := g4.nx.pw (u := []) (I' := I2) (rd' := rdC rd 1 b 4) (fun a h1 h2 => hi a (by omega)) (fun a ha _ => hi a (by omega)) (fun a h1 h2 j hj => by rw [← hI2, cpyR_at _ _ _ h1 h2, if_neg (blk_out (by omega) hj), up2_ne (by omega), h7_out I (by omega)]) (fun a j h1 h2 => rdC_ne _ _ (by omega)) (fun a j h1 _ => rdC_ne _ _ (by omega))
            rw [List.append_nil] at this
            exact this
        · rw [rdC_ne _ _ (by omega), rdC_ne _ _ (by omega)]
          exact V.2.2.1 k1 k2 h1 h2 h3 b'
      · exact ⟨by rw [h7_out I (by omega)]; exact V.2.2.2.2.2.1, by rw [h7_out I (by omega)]; exact V.2.2.2.2.2.2⟩
  · exact sg_mk (c_xAgA tl I L rd x ho) (c_yAgA tl I L rd x ((inR_o I I x 0 2).mpr ho)) V W (RD.rfl rd) (W.1.ok0 rfl)
theorem sg_Image (V : INV xs Ls c tl I rd) (hc : c < 512) (L : Nat → Nat → Int64) (x : Int32) : SG xs Ls c tl I L rd 142 234 [.int x] := by
  have m0 : mx = 1000000 := rfl
  obtain ⟨n, xa, xl, Nn, q, m, D, H, B, l, h, W⟩ := V.now
  by_cases ho : outside I x 0 2 = 0
  · obtain ⟨k, hk, rfl⟩ := rng_nI (x := x) (N := 3) (by have := (out_iff I x 0 2).mp ho; rw [toI_0, toI_2] at this; omega)
    have ek : (nI k).toNatClampNeg = k := nI_clamp (by omega)
    rcases V.2.1 k hk with ⟨e1, e2⟩ | ⟨b, e1, e2, e3, e4⟩
    · obtain ⟨N, hN⟩ : ∃ N, N = 131 + tl.length := ⟨_, rfl⟩
      have hlen := V.2.2.2.1
      have hsum := V.2.2.2.2.1
      have nI_lo : ∀ a, a < N ∨ N + 35 ≤ a → nhI I N a = I a := fun a ha => by
        unfold nhI
        rw [if_neg (by omega), if_neg (by omega)]
      generalize hrd' : up2 (nhM tl I L rd).2.2.2 36 k (some N) = rd'
      have rlo : ∀ a j, a < N → a ≠ 36 → rst rd' a j = rst rd a j := fun a j ha h36 => by
        rw [rst_cg (r' := rst rd) (by rw [← hrd', up2_ne h36, nhM_Rl tl I L rd (by omega)]), rst_rst]
      have r36k : rst rd' 36 k = some N := by
        show rd' 36 k = _
        rw [← hrd', up2_at]
      have r36o : ∀ j, j ≠ k → rst rd' 36 j = rst rd 36 j := fun j hj => by
        show rd' 36 j = _
        rw [← hrd', wup2_at, if_neg hj, nhM_Rl tl I L rd (by omega)]
      have hHL : HL (tl ++ hsh) rd' N := by
        have := (nhM_HL tl I L rd (by omega)).u36 (k := k) (v := some N) (by omega)
        rw [← hN, hrd'] at this
        exact this
      have low : ∀ {b f}, IM c tl I rd b f → (b = 1 ∨ 131 ≤ b) → IM c (tl ++ hsh) (nhI I N) rd' b f := fun {b f} g hb => by
        have hl := g.hl.lt
        refine g.pw (u := hsh) (fun a h1 h2 => nI_lo a (by omega)) (fun a h1 h2 => nI_lo a (Or.inl ?_)) (fun a h1 h2 j hj => by rw [nI_lo a (by omega)]) (fun a j h1 h2 => rlo a j (by omega) (by omega)) (fun a j h1 h2 => rlo a j (by have := shl_lt h2; omega) (by omega))
        rcases h2 with e | ⟨k, e⟩
        · have := shl_lt e; omega
        · have := shl_lt e; omega
      have T := low V.1 (Or.inl rfl)
      have Cx := c_xImC tl I L rd k hk e1 (by omega) (by rw [← hN, hrd']; exact T.rf) (fun j hj => by rw [← hN, h4_out _ (by omega)]; exact T.tape hj)
      rw [← hN, hrd'] at Cx
      have Cy := c_yImB (tl ++ hsh) (h_7 (nhI I N) N 1) (nhM tl I L rd).2.2.1 (rdC rd' N 1 4) k hk
      rw [ek] at Cy
      have E := img_end (xs := xs) (Ls := Ls) (k := k) (b := N) T (fun k' hk' hne => by
        rcases V.2.1 k' hk' with ⟨g1, g2⟩ | ⟨b', g1, g2, g3, g4⟩
        · exact Or.inl ⟨by rw [r36o _ hne]; exact g1, by rw [nI_lo _ (by omega)]; exact g2⟩
        · have := g4.hl.lt
          exact Or.inr ⟨b', by rw [r36o _ hne]; exact g1, g2, by rw [nI_lo _ (by omega)]; exact g3, low g4 (Or.inr g2), by omega⟩) (fun k1 k2 h1 h2 h3 h4 h5 b' => by rw [r36o _ h3, r36o _ h4]; exact V.2.2.1 k1 k2 h1 h2 h5 b') hk hHL (by omega) r36k (by rw [List.length_append]; have : hsh.length = 35 := rfl; omega) (by rw [List.map_append, List.sum_append]; have : (hsh.map (fun q => q.2)).sum = 1561 := rfl; omega) ⟨by rw [nI_lo _ (by omega)]; exact V.2.2.2.2.2.1, by rw [nI_lo _ (by omega)]; exact V.2.2.2.2.2.2⟩
      exact ⟨1, _, _, _, _, _, _, Cx, Cy, E.1, E.2⟩
    · have hB := e4.hl
      have Cx := c_xImB tl I L rd k b hk e1 hB (by omega) W.2.2.2 (fun j hj => by rw [h4_out I (by omega)]; exact V.1.tape hj)
      have Cy := c_yImB tl (h_7 I b 1) L (rdC rd b 1 4) k hk
      rw [ek] at Cy
      have E := img_end (xs := xs) (Ls := Ls) (k := k) (b := b) V.1 (fun k' hk' hne => by
        rcases V.2.1 k' hk' with g | ⟨b', g1, g2, g3, g4⟩
        · exact Or.inl g
        · exact Or.inr ⟨b', g1, g2, g3, g4, fun y => V.2.2.1 k' k hk' hk hne b' g1 (by rw [y]; exact e1)⟩) (fun k1 k2 h1 h2 h3 h4 h5 b' => V.2.2.1 k1 k2 h1 h2 h5 b') hk hB e2 e1 (by have := V.2.2.2.1; omega) (by have := V.2.2.2.2.1; omega) V.2.2.2.2.2
      exact ⟨1, _, _, _, _, _, _, Cx, Cy, E.1, E.2⟩
  · exact sg_mk (c_xImA tl I L rd x ho) (c_yImA tl I L rd x ((inR_o I I x 0 2).mpr ho)) V W (RD.rfl rd) (W.1.ok0 rfl)
end
