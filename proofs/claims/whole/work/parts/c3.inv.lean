/-! WHAT HOLDS BEFORE EACH CALL OF THE LAW -/
def vx (I : Nat → Nat → Int32) (b : Nat) : Nat → Nat → Int32 := fun a j => I (b + a - 1) j
def vy (Y : Nat → Nat → Int32) (f : Nat) : Nat → Nat → Int32 := fun a j => Y a (nn a * f + j)
theorem vx_1 (I : Nat → Nat → Int32) : vx I 1 = I := by
  funext a j
  show I (1 + a - 1) j = I a j
  rw [Nat.add_sub_cancel_left]
theorem vy_0 (Y : Nat → Nat → Int32) : vy Y 0 = Y := by
  funext a j
  show Y a (nn a * 0 + j) = Y a j
  rw [Nat.mul_zero, Nat.zero_add]
/-- the ACTS' cells of a house at b -/
def IA (tl : List (Nat × Nat)) (rd : Nat → Nat → Option Nat) (b n : Nat) (xa xl N : Nat → Nat) : Prop := ∀ a, a < n → (rst rd (b + 31) a = some (xa a) ∧ xa a < mx ∧ (Sst ++ tl)[xa a]? = some (10, 4) ∧ rst rd (xa a) 2 = some (xl a) ∧ xl a < mx ∧ (Sst ++ tl)[xl a]? = some (0, N a) ∧ N a < 1000 ∧ 131 ≤ xl a) ∧ 131 ≤ xa a
/-- an image: house at b, place f of the reference -/
def IM (c : Nat) (tl : List (Nat × Nat)) (I : Nat → Nat → Int32) (rd : Nat → Nat → Option Nat) (b f : Nat) : Prop := ∃ (n : Nat) (xa xl N : Nat → Nat) (q m D H B l h : Nat), St c q m n D H B l h (vx I b) (vy I f) ∧ AR n xa xl N I (vy I f) ∧ IA tl rd b n xa xl N ∧ RF tl rd b ∧ HL tl rd b
def KP (c : Nat) (tl : List (Nat × Nat)) (I : Nat → Nat → Int32) (rd : Nat → Nat → Option Nat) (k : Nat) : Prop := (rst rd 36 k = none ∧ I 130 k = 0) ∨ ∃ b, rst rd 36 k = some b ∧ 131 ≤ b ∧ I 130 k = 1 ∧ IM c tl I rd b (k + 1)
def SCR (xs : Nat → Int32) (Ls : Nat) (I : Nat → Nat → Int32) : Prop := I (mx + 20) = xs ∧ I (mx + 21) 0 = nI Ls
def INV (xs : Nat → Int32) (Ls c : Nat) (tl : List (Nat × Nat)) (I : Nat → Nat → Int32) (rd : Nat → Nat → Option Nat) : Prop := IM c tl I rd 1 0 ∧ (∀ k, k < 3 → KP c tl I rd k) ∧ (∀ k k', k < 3 → k' < 3 → k ≠ k' → ∀ b, rst rd 36 k = some b → ¬ rst rd 36 k' = some b) ∧ tl.length ≤ 37 * c ∧ (tl.map (fun q => q.2)).sum ≤ 1600 * c ∧ SCR xs Ls I
theorem shl_lt {tl : List (Nat × Nat)} {a : Nat} {q : Nat × Nat} (h : (Sst ++ tl)[a]? = some q) : a < 131 + tl.length := by
  have := (List.getElem?_eq_some_iff.mp h).1
  rw [List.length_append, Sst_len] at this
  exact this
theorem hsh_ex : ∀ c, c < 35 → ∃ q, hsh[c]? = some q := fun c hc => ⟨hsh[c]'hc, List.getElem?_eq_getElem hc⟩
theorem HL.lt {tl : List (Nat × Nat)} {rd : Nat → Nat → Option Nat} {b : Nat} (h : HL tl rd b) : b + 35 ≤ 131 + tl.length := by
  obtain ⟨q, hq⟩ := hsh_ex 34 (by decide)
  have := h.1 34 (by decide)
  rw [hq] at this
  have := shl_lt this
  omega
theorem HL.fr {tl u : List (Nat × Nat)} {rd rd' : Nat → Nat → Option Nat} {b : Nat} (h : HL tl rd b) (hr : ∀ a k, b ≤ a → a < b + 35 → rst rd' a k = rst rd a k) : HL (tl ++ u) rd' b := by
  obtain ⟨h1, ⟨e0, e1, e2, e3, e4, e5⟩, h3, h4, h5, h6⟩ := h
  refine ⟨fun c hc => ?_, ⟨?_, ?_, ?_, ?_, ?_, ?_⟩, fun k a1 a2 => ?_, fun k a1 a2 => ?_, h5, h6⟩
  · obtain ⟨q, hq⟩ := hsh_ex c hc
    have := h1 c hc
    rw [hq] at this ⊢
    exact sh_sn u this
  · rw [hr _ _ (by omega) (by omega)]; exact e0
  · rw [hr _ _ (by omega) (by omega)]; exact e1
  · rw [hr _ _ (by omega) (by omega)]; exact e2
  · rw [hr _ _ (by omega) (by omega)]; exact e3
  · rw [hr _ _ (by omega) (by omega)]; exact e4
  · rw [hr _ _ (by omega) (by omega)]; exact e5
  · rw [hr _ _ (by omega) (by omega)]; exact h3 k a1 a2
  · rw [hr _ _ (by omega) (by omega)]; exact h4 k a1 a2
theorem RF.fr {tl u : List (Nat × Nat)} {rd rd' : Nat → Nat → Option Nat} {b : Nat} (h : RF tl rd b) (hr : ∀ k, rst rd' (b + 31) k = rst rd (b + 31) k) : RF (tl ++ u) rd' b := by
  intro a ha
  rw [hr]
  rcases h a ha with e | ⟨x, e, h1, h2⟩
  · exact Or.inl e
  · exact Or.inr ⟨x, e, h1, sh_sn u h2⟩
theorem IA.fr {tl u : List (Nat × Nat)} {rd rd' : Nat → Nat → Option Nat} {b n : Nat} {xa xl N : Nat → Nat} (h : IA tl rd b n xa xl N) (hr : ∀ k, rst rd' (b + 31) k = rst rd (b + 31) k) (hr2 : ∀ a k, 131 ≤ a → a < 131 + tl.length → (Sst ++ tl)[a]? = some (10, 4) → rst rd' a k = rst rd a k) : IA (tl ++ u) rd' b n xa xl N := by
  intro a ha
  obtain ⟨⟨e1, e2, e3, e4, e5, e6, e7, e8⟩, e9⟩ := h a ha
  exact ⟨⟨by rw [hr]; exact e1, e2, sh_sn u e3, by rw [hr2 _ _ e9 (shl_lt e3) e3]; exact e4, e5, sh_sn u e6, e7, e8⟩, e9⟩
theorem St.cgX1 {c q m n D H B l h : Nat} {X Y X' : Nat → Nat → Int32} (z : St c q m n D H B l h X Y) (e : ∀ a, 1 ≤ a → a ≤ 35 → X' a = X a) : St c q m n D H B l h X' Y := by
  unfold St
  rw [e 1 (by decide) (by decide), e 2 (by decide) (by decide), e 3 (by decide) (by decide), e 4 (by decide) (by decide), e 5 (by decide) (by decide), e 6 (by decide) (by decide), e 7 (by decide) (by decide), e 8 (by decide) (by decide), e 9 (by decide) (by decide), e 10 (by decide) (by decide), e 11 (by decide) (by decide), e 12 (by decide) (by decide), e 13 (by decide) (by decide), e 14 (by decide) (by decide), e 15 (by decide) (by decide), e 16 (by decide) (by decide), e 17 (by decide) (by decide), e 18 (by decide) (by decide), e 19 (by decide) (by decide), e 20 (by decide) (by decide), e 21 (by decide) (by decide), e 22 (by decide) (by decide), e 23 (by decide) (by decide), e 24 (by decide) (by decide), e 25 (by decide) (by decide), e 26 (by decide) (by decide), e 27 (by decide) (by decide), e 28 (by decide) (by decide), e 29 (by decide) (by decide), e 30 (by decide) (by decide), e 31 (by decide) (by decide), e 33 (by decide) (by decide), e 34 (by decide) (by decide), e 35 (by decide) (by decide)]
  exact z
theorem nn_pos {a : Nat} : 1 ≤ nn a := by
  unfold nn
  repeat' split
  all_goals omega
theorem vy_fr {I I' : Nat → Nat → Int32} (h : ∀ a j, 62 ≤ a → a ≤ 113 → nn a ≤ j → I' a j = I a j) {f : Nat} (hf : 1 ≤ f) {a : Nat} (h1 : 62 ≤ a) (h2 : a ≤ 113) : vy I' f a = vy I f a := by
  funext j
  refine h a _ h1 h2 ?_
  have : nn a * 1 ≤ nn a * f := Nat.mul_le_mul_left _ hf
  omega
/-- AR reads nine rows of the reference -/
theorem AR.cg {n : Nat} {xa xl N : Nat → Nat} {I I' Y Y' : Nat → Nat → Int32} (h : AR n xa xl N I Y) (hx : ∀ a, a < n → I' (xa a) = I (xa a) ∧ I' (xl a) = I (xl a)) (hy : ∀ a, 105 ≤ a → a ≤ 113 → Y' a = Y a) : AR n xa xl N I' Y' := by
  intro a ha
  have w := h a ha
  rw [(hx a ha).1, (hx a ha).2, hy 105 (by decide) (by decide), hy 106 (by decide) (by decide), hy 107 (by decide) (by decide), hy 108 (by decide) (by decide), hy 109 (by decide) (by decide), hy 110 (by decide) (by decide), hy 111 (by decide) (by decide), hy 112 (by decide) (by decide), hy 113 (by decide) (by decide)]
  exact w
/-- an image stays -/
theorem IM.fr {c : Nat} {tl u : List (Nat × Nat)} {I I' : Nat → Nat → Int32} {rd rd' : Nat → Nat → Option Nat} {b f : Nat} (h : IM c tl I rd b f) (hb : 131 ≤ b) (hf : 1 ≤ f) (hx : ∀ a, 131 ≤ a → a < 131 + tl.length → I' a = I a) (hy : ∀ a j, 62 ≤ a → a ≤ 113 → nn a ≤ j → I' a j = I a j) (hr : ∀ a k, 131 ≤ a → a < 131 + tl.length → rst rd' a k = rst rd a k) : IM (c + 1) (tl ++ u) I' rd' b f := by
  obtain ⟨n, xa, xl, N, q, m, D, H, B, l, h', z, A, J, R, K⟩ := h
  have hl := K.lt
  refine ⟨n, xa, xl, N, q, m, D, H, B, l, h', ?_, ?_, J.fr (fun k => hr _ k (by omega) (by omega)) (fun a k h1 h2 _ => hr a k h1 h2), R.fr (fun k => hr _ k (by omega) (by omega)), K.fr (fun a k h1 h2 => hr a k (by omega) (by omega))⟩
  · refine (z.nx.cgX1 (X' := vx I' b) (fun a h1 h2 => ?_)).cgY (Y' := vy I' f) (fun a h1 h2 => vy_fr hy hf h1 (by omega))
    show (fun j => I' (b + a - 1) j) = fun j => I (b + a - 1) j
    rw [hx (b + a - 1) (by omega) (by omega)]
  · refine A.cg (fun a ha => ?_) (fun a h1 h2 => vy_fr hy hf (by omega) h2)
    obtain ⟨⟨e1, e2, e3, e4, e5, e6, e7, e8⟩, e9⟩ := J a ha
    exact ⟨hx _ e9 (shl_lt e3), hx _ e8 (shl_lt e6)⟩

/-- what stands now -/
def NW (c : Nat) (tl : List (Nat × Nat)) (I : Nat → Nat → Int32) (rd : Nat → Nat → Option Nat) (n : Nat) (xa xl N : Nat → Nat) (q m D H B l h : Nat) : Prop := St c q m n D H B l h I I ∧ AR n xa xl N I I ∧ IA tl rd 1 n xa xl N ∧ RF tl rd 1
theorem INV.now {xs : Nat → Int32} {Ls c : Nat} {tl : List (Nat × Nat)} {I : Nat → Nat → Int32} {rd : Nat → Nat → Option Nat} (V : INV xs Ls c tl I rd) : ∃ n xa xl N q m D H B l h, NW c tl I rd n xa xl N q m D H B l h := by
  obtain ⟨⟨n, xa, xl, N, q, m, D, H, B, l, h, z, A, J, R, -⟩, -⟩ := V
  rw [vx_1, vy_0] at z
  rw [vy_0] at A
  exact ⟨n, xa, xl, N, q, m, D, H, B, l, h, z, A, J, R⟩
theorem AR.ac {n : Nat} {xa xl N : Nat → Nat} {I Y : Nat → Nat → Int32} {tl : List (Nat × Nat)} {rd : Nat → Nat → Option Nat} {b : Nat} (h : AR n xa xl N I Y) (J : IA tl rd b n xa xl N) : AC I n xa N := by
  intro a ha
  obtain ⟨-, -, k, hk, hN, hc, -⟩ := h a ha
  refine ⟨(J a ha).2, ?_⟩
  rw [hc, nI_clamp (by omega), hN]
  omega
theorem AR.ra {n : Nat} {xa xl N : Nat → Nat} {I Y : Nat → Nat → Int32} (h : AR n xa xl N I Y) : RA Y n := by
  intro a ha
  obtain ⟨-, -, k, hk, hN, hc, hy, hl⟩ := h a ha
  refine ⟨k, hk, hy, fun i hi => ?_⟩
  obtain ⟨-, -, -, -, t, ht, -, e, -⟩ := hl i hi
  exact ⟨t, ht, e⟩
theorem IA.xb {n : Nat} {xa xl N : Nat → Nat} {tl : List (Nat × Nat)} {rd : Nat → Nat → Option Nat} {b : Nat} (J : IA tl rd b n xa xl N) : XB n xa xl := fun a ha => ⟨(J a ha).2, (J a ha).1.2.2.2.2.2.2.2⟩
/-- the references that a call leaves as they are -/
def RD (rd rd' : Nat → Nat → Option Nat) : Prop := ∀ a k, (a = 32 ∨ a = 36 ∨ 131 ≤ a) → rst rd' a k = rst rd a k
theorem RD.rfl (rd : Nat → Nat → Option Nat) : RD rd rd := fun _ _ _ => Eq.refl _
theorem RD.u2 (rd : Nat → Nat → Option Nat) {b : Nat} (hb : b < 131) (h2 : b ≠ 32) (h3 : b ≠ 36) (k : Nat) (v : Option Nat) : RD rd (up2 rd b k v) := fun a j h => rst_cg (by rw [up2_ne (by omega)])
theorem SCR.fx {xs : Nat → Int32} {Ls : Nat} {I I' : Nat → Nat → Int32} (h : SCR xs Ls I) (f : FX I I') : SCR xs Ls I' := by
  have m0 : mx = 1000000 := rfl
  exact ⟨by rw [f _ (by omega)]; exact h.1, by rw [f _ (by omega)]; exact h.2⟩
theorem SCR.fy {xs : Nat → Int32} {Ls : Nat} {I I' : Nat → Nat → Int32} (h : SCR xs Ls I) (f : FY I I') : SCR xs Ls I' := by
  have m0 : mx = 1000000 := rfl
  exact ⟨by rw [f.1 _ (by omega)]; exact h.1, by rw [f.1 _ (by omega)]; exact h.2⟩
section
variable {xs : Nat → Int32} {Ls c : Nat} {tl : List (Nat × Nat)} {I : Nat → Nat → Int32} {rd : Nat → Nat → Option Nat} {n : Nat} {xa xl N : Nat → Nat} {q m D H B l h : Nat}
/-- both sides' views in the midst of a call -/
theorem NW.mid (W : NW c tl I rd n xa xl N q m D H B l h) {I1 : Nat → Nat → Int32} (f : FX I I1) : St c q m n D H B l h I I1 ∧ AR n xa xl N I I1 := ⟨W.1.cgY (fun a h1 h2 => f a (by omega)), W.2.1.cg (fun a ha => ⟨Eq.refl _, Eq.refl _⟩) (fun a h1 h2 => f a (by omega))⟩
/-- the images stay; the rest of what holds -/
theorem INV.rest (V : INV xs Ls c tl I rd) (u : List (Nat × Nat)) {I' : Nat → Nat → Int32} {rd' : Nat → Nat → Option Nat} (hx : ∀ a, 131 ≤ a → a < 131 + tl.length → I' a = I a) (h130 : I' 130 = I 130) (hy : ∀ a j, 62 ≤ a → a ≤ 113 → nn a ≤ j → I' a j = I a j) (hr : ∀ a k, (a = 36 ∨ (131 ≤ a ∧ a < 131 + tl.length)) → rst rd' a k = rst rd a k) (hu : u.length ≤ 37) (hs : (u.map (fun q => q.2)).sum ≤ 1600) (S : SCR xs Ls I') (T : IM (c + 1) (tl ++ u) I' rd' 1 0) : INV xs Ls (c + 1) (tl ++ u) I' rd' := by
  obtain ⟨-, V2, V3, V4, V5, V6⟩ := V
  refine ⟨T, fun k hk => ?_, fun k k' h1 h2 h3 b => ?_, ?_, ?_, S⟩
  · rcases V2 k hk with ⟨e1, e2⟩ | ⟨b, e1, e2, e3, e4⟩
    · exact Or.inl ⟨by rw [hr _ _ (Or.inl rfl)]; exact e1, by rw [h130]; exact e2⟩
    · exact Or.inr ⟨b, by rw [hr _ _ (Or.inl rfl)]; exact e1, e2, by rw [h130]; exact e3, e4.fr e2 (by omega) hx hy (fun a k h1 h2 => hr a k (Or.inr ⟨h1, h2⟩))⟩
  · rw [hr _ _ (Or.inl rfl), hr _ _ (Or.inl rfl)]; exact V3 k k' h1 h2 h3 b
  · rw [List.length_append]; omega
  · rw [List.map_append, List.sum_append]; omega
/-- a call that makes no cell -/
theorem INV.ord (V : INV xs Ls c tl I rd) (W : NW c tl I rd n xa xl N q m D H B l h) {rd1 : Nat → Nat → Option Nat} (hrd : RD rd rd1) {I1 I2 : Nat → Nat → Int32} {vx' vy' : Int32} (o : Ok c n I I1 I1 I2 vx' vy') : INV xs Ls (c + 1) tl I2 rd1 := by
  obtain ⟨-, f, g, q', m', D', H', B', l', h', z'⟩ := o
  have hI : ∀ a, (105 ≤ a ∧ a ≤ 113) ∨ 130 ≤ a → I2 a = I a := fun a ha => by rw [g.1 a (by omega), f a (by omega)]
  have T : IM (c + 1) (tl ++ []) I2 rd1 1 0 := by
    rw [List.append_nil]
    refine ⟨n, xa, xl, N, q', m', D', H', B', l', h', ?_, ?_, ?_, ?_, HL_1 _ _⟩
    · rw [vx_1, vy_0]; exact z'.cgX (fun a ha => g.1 a (by omega))
    · rw [vy_0]
      exact W.2.1.cg (fun a ha => ⟨hI _ (by have := (W.2.2.1.xb a ha).1; omega), hI _ (by have := (W.2.2.1.xb a ha).2; omega)⟩) (fun a h1 h2 => hI a (by omega))
    · have := W.2.2.1.fr (u := []) (rd' := rd1) (fun k => hrd _ k (Or.inl rfl)) (fun a k h1 _ _ => hrd a k (by omega))
      rw [List.append_nil] at this; exact this
    · have := W.2.2.2.fr (u := []) (rd' := rd1) (fun k => hrd _ k (Or.inl rfl))
      rw [List.append_nil] at this; exact this
  have R := V.rest [] (I' := I2) (rd' := rd1) (fun a h1 h2 => hI a (by omega)) (hI 130 (by omega)) (fun a j h1 h2 h3 => by
    by_cases e : a ≤ 104
    · rw [g.2 a j h1 e h3, f a (by omega)]
    · rw [hI a (by omega)]) (fun a k h => hrd a k (by omega)) (by decide) (by decide) ((V.2.2.2.2.2.fx f).fy g) T
  rw [List.append_nil] at R
  exact R
end
/-- both sides answer alike; behind, it holds again -/
def SG (xs : Nat → Int32) (Ls c : Nat) (tl : List (Nat × Nat)) (I : Nat → Nat → Int32) (L : Nat → Nat → Int64) (rd : Nat → Nat → Option Nat) (kx ky : Nat) (as : List Value) : Prop := ∃ (v : Int32) (tl1 : List (Nat × Nat)) (I1 : Nat → Nat → Int32) (L1 : Nat → Nat → Int64) (rd1 : Nat → Nat → Option Nat) (I2 : Nat → Nat → Int32) (L2 : Nat → Nat → Int64), Call kx (.ref 0 :: as) (mk tl I L rd) (some (.int v)) (mk tl1 I1 L1 rd1) ∧ Call ky (.ref 61 :: as) (mk tl1 I1 L1 rd1) (some (.int v)) (mk tl1 I2 L2 rd1) ∧ INV xs Ls (c + 1) tl1 I2 rd1 ∧ SCR xs Ls I1
