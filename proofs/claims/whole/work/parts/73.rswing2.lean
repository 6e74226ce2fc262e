/-! THE REFERENCE: swing: all sets (printed by p72.py) -/
def zwC (J : Nat → Nat → Int32) (L : Nat → Nat → Int64) (n m : Nat) (p fd b : Int32) (z st : Nat) : Int64 × (Nat → Int32) × (Nat → Int32) := si_it (asI J L n m p) L p fd b st z
def zwJ (J : Nat → Nat → Int32) (L : Nat → Nat → Int64) (n m : Nat) (p fd b : Int32) (z st : Nat) : Nat → Nat → Int32 := up1 (up1 (asI J L n m p) 122 (zwC J L n m p fd b z st).2.1) 123 (zwC J L n m p fd b z st).2.2
def zwB (J : Nat → Nat → Int32) (L : Nat → Nat → Int64) (n m q : Nat) (p fd r b : Int32) (z st : Nat) : Int32 × (Nat → Nat → Int32) := bSo (zwJ J L n m p fd b z st) L n m q p r fd
def zwN (L : Nat → Nat → Int64) (n m q : Nat) (p fd r b : Int32) (z st : Nat) (s : Int32 × Int64 × (Nat → Nat → Int32)) : Int32 × Int64 × (Nat → Nat → Int32) :=
  if s.1 = -1 then (if (zwB s.2.2 L n m q p fd r b z st).1 = 0 then (s.1, s.2.1, (zwB s.2.2 L n m q p fd r b z st).2) else (nI st, (zwC s.2.2 L n m p fd b z st).1, (zwB s.2.2 L n m q p fd r b z st).2))
  else if 0 ≤ lg_cmp (zwC s.2.2 L n m p fd b z st).1 s.2.1 then (s.1, s.2.1, zwJ s.2.2 L n m p fd b z st)
  else (if (zwB s.2.2 L n m q p fd r b z st).1 = 0 then (s.1, s.2.1, (zwB s.2.2 L n m q p fd r b z st).2) else (nI st, (zwC s.2.2 L n m p fd b z st).1, (zwB s.2.2 L n m q p fd r b z st).2))
def zwF (L : Nat → Nat → Int64) (n m q : Nat) (p fd r b : Int32) (z : Nat) : Nat → Nat → Int32 × Int64 × (Nat → Nat → Int32) → Int32 × Int64 × (Nat → Nat → Int32)
  | 0, _, s => s
  | k + 1, st, s => zwF L n m q p fd r b z k (st + 1) (zwN L n m q p fd r b z st s)
theorem asI_fr (I : Nat → Nat → Int32) (L : Nat → Nat → Int64) (n m : Nat) (p : Int32) {a : Nat} (ha : a < 121 ∨ 123 < a) : asI I L n m p a = I a := by
  unfold asI
  rw [up1_ne (by omega), up1_ne (by omega), up1_ne (by omega)]
theorem zwJ_fr (J : Nat → Nat → Int32) (L : Nat → Nat → Int64) (n m : Nat) (p fd b : Int32) (z st : Nat) {a : Nat} (ha : a < 121 ∨ 123 < a) : zwJ J L n m p fd b z st a = J a := by
  unfold zwJ
  rw [up1_ne (by omega), up1_ne (by omega), asI_fr _ _ _ _ _ ha]
theorem zwB_fr (J : Nat → Nat → Int32) (L : Nat → Nat → Int64) (n m q : Nat) (p fd r b : Int32) (z st : Nat) {a : Nat} (ha : a < 121 ∨ 123 < a) : (zwB J L n m q p fd r b z st).2 a = J a := by
  unfold zwB
  rw [bSo_fr _ _ _ _ _ _ _ _ (by omega), zwJ_fr _ _ _ _ _ _ _ _ _ ha]
theorem zwN_fr (L : Nat → Nat → Int64) (n m q : Nat) (p fd r b : Int32) (z st : Nat) (s : Int32 × Int64 × (Nat → Nat → Int32)) {a : Nat} (ha : a < 121 ∨ 123 < a) : (zwN L n m q p fd r b z st s).2.2 a = s.2.2 a := by
  unfold zwN
  repeat' split
  all_goals first | exact zwB_fr _ _ _ _ _ _ _ _ _ _ _ ha | exact zwJ_fr _ _ _ _ _ _ _ _ _ ha

set_option maxRecDepth 20000 in
theorem l_zw (tl : List (Nat × Nat)) (I : Nat → Nat → Int32) (L : Nat → Nat → Int64) (rd : Nat → Nat → Option Nat) (n m q : Nat) (p fd r w b : Int32) (z : Nat) (hp2 : 2 ^ z ≤ 1024) (hm : I 86 0 = nI m) (hb : m ≤ 40) (hq : I 69 0 = nI q) (hqb : q ≤ 12) (hn : I 104 0 = nI n) (hn4 : n ≤ 4) (hR : RA I n) (hcr : ∀ d, d < m → 0 ≤ (I 88 d).toInt ∧ (I 88 d).toInt < 12) (hp : 0 ≤ p.toInt ∧ p.toInt < 12) (hz : z ≤ 10) (hmt : ∀ i, i < z → 0 ≤ (I 124 i).toInt ∧ (I 124 i).toInt < m) (rr : Option Value) (Me : Mm) : ∀ k st s, st + k = 2 ^ z → (∀ a, (a < 121 ∨ 123 < a) → s.2.2 a = I a) → (∀ o11 o13 o14 : Option Value, Runs 225 152 [some (.ref 61), some (.int p), some (.int fd), some (.int r), some (.int w), some (.int (nI z)), some (.int b), some (.int ((zwF L n m q p fd r b z k st s).1)), some (.long ((zwF L n m q p fd r b z k st s).2.1)), none, some (.int (nI (2 ^ z))), o11, none, o13, o14] [] (mk tl (zwF L n m q p fd r b z k st s).2.2 L rd) rr Me) → ∀ o11 o13 o14 : Option Value, Runs 225 73 [some (.ref 61), some (.int p), some (.int fd), some (.int r), some (.int w), some (.int (nI z)), some (.int b), some (.int s.1), some (.long s.2.1), none, some (.int (nI st)), o11, none, o13, o14] [] (mk tl s.2.2 L rd) rr Me := by
  intro k
  induction k with
  | zero =>
    intro st s hk hJ hK o11 o13 o14
    obtain rfl : st = 2 ^ z := hk
    refine Runs.bl 5 (g := true) (i' := if decide (((1 : Int32) <<< ((nI z) &&& 31)) ≤ (nI (2 ^ z))) = true then 152 else 78) (ls' := [some (.ref 61), some (.int p), some (.int fd), some (.int r), some (.int w), some (.int (nI z)), some (.int b), some (.int s.1), some (.long s.2.1), none, some (.int (nI (2 ^ z))), o11, none, o13, o14]) (st' := []) (M' := mk tl s.2.2 L rd) rfl rfl ?_
    refine Runs.brT (by show (1 : Int32) <<< (nI z &&& 31) ≤ nI (2 ^ z); rw [shl1 (by omega)]; exact nI_le (Nat.le_refl _) (by omega)) ?_
    exact hK _ _ _
  | succ k ih =>
    intro st s hk hJ hK o11 o13 o14
    refine Runs.bl 5 (g := true) (i' := if decide (((1 : Int32) <<< ((nI z) &&& 31)) ≤ (nI st)) = true then 152 else 78) (ls' := [some (.ref 61), some (.int p), some (.int fd), some (.int r), some (.int w), some (.int (nI z)), some (.int b), some (.int s.1), some (.long s.2.1), none, some (.int (nI st)), o11, none, o13, o14]) (st' := []) (M' := mk tl s.2.2 L rd) rfl rfl ?_
    refine Runs.brF (by show ¬ (1 : Int32) <<< (nI z &&& 31) ≤ nI st; rw [shl1 (by omega)]; exact nI_ge (by omega) (by omega)) ?_
    refine Runs.bl 4 (g := true) (i' := 82) (ls' := [some (.ref 61), some (.int p), some (.int fd), some (.int r), some (.int w), some (.int (nI z)), some (.int b), some (.int s.1), some (.long s.2.1), none, some (.int (nI st)), some (.long (0 : Int64)), none, o13, o14]) (st' := [.int p, .ref 61]) (M' := mk tl s.2.2 L rd) rfl rfl ?_
    refine Runs.call (k' := 218) (as := [.ref 61, .int p]) (rest := []) (r1 := none) (M1 := mk tl (asI s.2.2 L n m p) L rd) rfl rfl rfl (c_as tl s.2.2 L rd p n m (by rw [hJ 86 (by omega)]; exact hm) hb (by rw [hJ 104 (by omega)]; exact hn) hn4 (hR.cg (fun a ha => hJ a (by unfold relR at ha; omega))) hp) ?_
    refine Runs.bl 2 (g := true) (i' := 85) (ls' := [some (.ref 61), some (.int p), some (.int fd), some (.int r), some (.int w), some (.int (nI z)), some (.int b), some (.int s.1), some (.long s.2.1), none, some (.int (nI st)), some (.long (0 : Int64)), none, some (.int (0 : Int32)), o14]) (st' := []) (M' := mk tl (asI s.2.2 L n m p) L rd) rfl rfl ?_
    have hA : ∀ a, (a < 121 ∨ 123 < a) → (asI s.2.2 L n m p) a = I a := fun a ha => (asI_fr _ _ _ _ _ ha).trans (hJ a ha)
    have hmA : (asI s.2.2 L n m p) 86 0 = nI m := by rw [hA 86 (by omega)]; exact hm
    have hcA : ∀ d, d < m → 0 ≤ ((asI s.2.2 L n m p) 88 d).toInt ∧ ((asI s.2.2 L n m p) 88 d).toInt < 12 := by rw [hA 88 (by omega)]; exact hcr
    have htA : ∀ i, i < z → 0 ≤ ((asI s.2.2 L n m p) 124 i).toInt ∧ ((asI s.2.2 L n m p) 124 i).toInt < m := by rw [hA 124 (by omega)]; exact hmt
    refine Runs.cg (M := mk tl (up1 (up1 (asI s.2.2 L n m p) 122 ((asI s.2.2 L n m p) 122)) 123 ((asI s.2.2 L n m p) 123)) L rd) rfl (mk_cg (by rw [up1_self, up1_self]) rfl) ?_
    refine l0_si tl (asI s.2.2 L n m p) L rd p fd r w b s.1 s.2.1 st z m hmA hb hcA hp hz htA _ _ (fun o14 => ?_) _
    show Runs 225 133 [some (.ref 61), some (.int p), some (.int fd), some (.int r), some (.int w), some (.int (nI z)), some (.int b), some (.int s.1), some (.long s.2.1), none, some (.int (nI st)), some (.long ((zwC s.2.2 L n m p fd b z st).1)), none, some (.int (nI z)), o14] [] (mk tl (zwJ s.2.2 L n m p fd b z st) L rd) rr Me
    refine Runs.bl 3 (g := true) (i' := if decide (s.1 = (-1 : Int32)) = true then 140 else 136) (ls' := [some (.ref 61), some (.int p), some (.int fd), some (.int r), some (.int w), some (.int (nI z)), some (.int b), some (.int s.1), some (.long s.2.1), none, some (.int (nI st)), some (.long ((zwC s.2.2 L n m p fd b z st).1)), none, some (.int (nI z)), o14]) (st' := []) (M' := mk tl (zwJ s.2.2 L n m p fd b z st) L rd) rfl rfl ?_
    refine Runs.brP (fun h1 => ?_) (fun h1 => ?_)
    · skip
      refine Runs.bl 4 (g := true) (i' := 144) (ls' := [some (.ref 61), some (.int p), some (.int fd), some (.int r), some (.int w), some (.int (nI z)), some (.int b), some (.int s.1), some (.long s.2.1), none, some (.int (nI st)), some (.long ((zwC s.2.2 L n m p fd b z st).1)), none, some (.int (nI z)), o14]) (st' := [.int fd, .int r, .int p, .ref 61]) (M' := mk tl (zwJ s.2.2 L n m p fd b z st) L rd) rfl rfl ?_
      refine Runs.call (k' := 219) (as := [.ref 61, .int p, .int r, .int fd]) (rest := []) (r1 := some (.int ((zwB s.2.2 L n m q p fd r b z st).1))) (M1 := mk tl (zwB s.2.2 L n m q p fd r b z st).2 L rd) rfl rfl rfl (c_bSo tl (zwJ s.2.2 L n m p fd b z st) L rd n m q p r fd (by rw [zwJ_fr _ _ _ _ _ _ _ _ _ (by omega), hJ 86 (by omega)]; exact hm) hb (by rw [zwJ_fr _ _ _ _ _ _ _ _ _ (by omega), hJ 69 (by omega)]; exact hq) hqb (by rw [zwJ_fr _ _ _ _ _ _ _ _ _ (by omega), hJ 104 (by omega)]; exact hn) hn4 (hR.cg (fun a ha => (zwJ_fr _ _ _ _ _ _ _ _ _ (by unfold relR at ha; omega)).trans (hJ a (by unfold relR at ha; omega)))) hp) ?_
      refine Runs.bl 1 (g := true) (i' := if decide (((zwB s.2.2 L n m q p fd r b z st).1) = 0) = true then 150 else 146) (ls' := [some (.ref 61), some (.int p), some (.int fd), some (.int r), some (.int w), some (.int (nI z)), some (.int b), some (.int s.1), some (.long s.2.1), none, some (.int (nI st)), some (.long ((zwC s.2.2 L n m p fd b z st).1)), none, some (.int (nI z)), o14]) (st' := []) (M' := mk tl (zwB s.2.2 L n m q p fd r b z st).2 L rd) rfl rfl ?_
      refine Runs.brP (fun h2 => ?_) (fun h2 => ?_)
      · skip
        refine Runs.bl 2 (g := true) (i' := 73) (ls' := [some (.ref 61), some (.int p), some (.int fd), some (.int r), some (.int w), some (.int (nI z)), some (.int b), some (.int s.1), some (.long s.2.1), none, some (.int ((nI st) + 1)), some (.long ((zwC s.2.2 L n m p fd b z st).1)), none, some (.int (nI z)), o14]) (st' := []) (M' := mk tl (zwB s.2.2 L n m q p fd r b z st).2 L rd) rfl rfl ?_
        have e9 : zwN L n m q p fd r b z st s = (s.1, s.2.1, (zwB s.2.2 L n m q p fd r b z st).2) := by rw [zwN, if_pos h1, if_pos h2]
        rw [zwF, e9] at hK
        have hJ2 := fun a ha => (zwN_fr L n m q p fd r b z st s (a := a) ha).trans (hJ a ha)
        rw [e9] at hJ2
        exact Runs.cg (by rw [nI_1]) rfl (ih (st + 1) (s.1, s.2.1, (zwB s.2.2 L n m q p fd r b z st).2) (by omega) hJ2 hK _ _ _)
      · skip
        refine Runs.bl 6 (g := true) (i' := 73) (ls' := [some (.ref 61), some (.int p), some (.int fd), some (.int r), some (.int w), some (.int (nI z)), some (.int b), some (.int (nI st)), some (.long ((zwC s.2.2 L n m p fd b z st).1)), none, some (.int ((nI st) + 1)), some (.long ((zwC s.2.2 L n m p fd b z st).1)), none, some (.int (nI z)), o14]) (st' := []) (M' := mk tl (zwB s.2.2 L n m q p fd r b z st).2 L rd) rfl rfl ?_
        have e9 : zwN L n m q p fd r b z st s = (nI st, (zwC s.2.2 L n m p fd b z st).1, (zwB s.2.2 L n m q p fd r b z st).2) := by rw [zwN, if_pos h1, if_neg h2]
        rw [zwF, e9] at hK
        have hJ2 := fun a ha => (zwN_fr L n m q p fd r b z st s (a := a) ha).trans (hJ a ha)
        rw [e9] at hJ2
        exact Runs.cg (by rw [nI_1]) rfl (ih (st + 1) (nI st, (zwC s.2.2 L n m p fd b z st).1, (zwB s.2.2 L n m q p fd r b z st).2) (by omega) hJ2 hK _ _ _)
    · skip
      refine Runs.bl 4 (g := true) (i' := if decide (0 ≤ (lg_cmp ((zwC s.2.2 L n m p fd b z st).1) s.2.1)) = true then 150 else 140) (ls' := [some (.ref 61), some (.int p), some (.int fd), some (.int r), some (.int w), some (.int (nI z)), some (.int b), some (.int s.1), some (.long s.2.1), none, some (.int (nI st)), some (.long ((zwC s.2.2 L n m p fd b z st).1)), none, some (.int (nI z)), o14]) (st' := []) (M' := mk tl (zwJ s.2.2 L n m p fd b z st) L rd) rfl rfl ?_
      refine Runs.brP (fun h3 => ?_) (fun h3 => ?_)
      · skip
        refine Runs.bl 2 (g := true) (i' := 73) (ls' := [some (.ref 61), some (.int p), some (.int fd), some (.int r), some (.int w), some (.int (nI z)), some (.int b), some (.int s.1), some (.long s.2.1), none, some (.int ((nI st) + 1)), some (.long ((zwC s.2.2 L n m p fd b z st).1)), none, some (.int (nI z)), o14]) (st' := []) (M' := mk tl (zwJ s.2.2 L n m p fd b z st) L rd) rfl rfl ?_
        have e9 : zwN L n m q p fd r b z st s = (s.1, s.2.1, (zwJ s.2.2 L n m p fd b z st)) := by rw [zwN, if_neg h1, if_pos h3]
        rw [zwF, e9] at hK
        have hJ2 := fun a ha => (zwN_fr L n m q p fd r b z st s (a := a) ha).trans (hJ a ha)
        rw [e9] at hJ2
        exact Runs.cg (by rw [nI_1]) rfl (ih (st + 1) (s.1, s.2.1, (zwJ s.2.2 L n m p fd b z st)) (by omega) hJ2 hK _ _ _)
      · skip
        refine Runs.bl 4 (g := true) (i' := 144) (ls' := [some (.ref 61), some (.int p), some (.int fd), some (.int r), some (.int w), some (.int (nI z)), some (.int b), some (.int s.1), some (.long s.2.1), none, some (.int (nI st)), some (.long ((zwC s.2.2 L n m p fd b z st).1)), none, some (.int (nI z)), o14]) (st' := [.int fd, .int r, .int p, .ref 61]) (M' := mk tl (zwJ s.2.2 L n m p fd b z st) L rd) rfl rfl ?_
        refine Runs.call (k' := 219) (as := [.ref 61, .int p, .int r, .int fd]) (rest := []) (r1 := some (.int ((zwB s.2.2 L n m q p fd r b z st).1))) (M1 := mk tl (zwB s.2.2 L n m q p fd r b z st).2 L rd) rfl rfl rfl (c_bSo tl (zwJ s.2.2 L n m p fd b z st) L rd n m q p r fd (by rw [zwJ_fr _ _ _ _ _ _ _ _ _ (by omega), hJ 86 (by omega)]; exact hm) hb (by rw [zwJ_fr _ _ _ _ _ _ _ _ _ (by omega), hJ 69 (by omega)]; exact hq) hqb (by rw [zwJ_fr _ _ _ _ _ _ _ _ _ (by omega), hJ 104 (by omega)]; exact hn) hn4 (hR.cg (fun a ha => (zwJ_fr _ _ _ _ _ _ _ _ _ (by unfold relR at ha; omega)).trans (hJ a (by unfold relR at ha; omega)))) hp) ?_
        refine Runs.bl 1 (g := true) (i' := if decide (((zwB s.2.2 L n m q p fd r b z st).1) = 0) = true then 150 else 146) (ls' := [some (.ref 61), some (.int p), some (.int fd), some (.int r), some (.int w), some (.int (nI z)), some (.int b), some (.int s.1), some (.long s.2.1), none, some (.int (nI st)), some (.long ((zwC s.2.2 L n m p fd b z st).1)), none, some (.int (nI z)), o14]) (st' := []) (M' := mk tl (zwB s.2.2 L n m q p fd r b z st).2 L rd) rfl rfl ?_
        refine Runs.brP (fun h4 => ?_) (fun h4 => ?_)
        · skip
          refine Runs.bl 2 (g := true) (i' := 73) (ls' := [some (.ref 61), some (.int p), some (.int fd), some (.int r), some (.int w), some (.int (nI z)), some (.int b), some (.int s.1), some (.long s.2.1), none, some (.int ((nI st) + 1)), some (.long ((zwC s.2.2 L n m p fd b z st).1)), none, some (.int (nI z)), o14]) (st' := []) (M' := mk tl (zwB s.2.2 L n m q p fd r b z st).2 L rd) rfl rfl ?_
          have e9 : zwN L n m q p fd r b z st s = (s.1, s.2.1, (zwB s.2.2 L n m q p fd r b z st).2) := by rw [zwN, if_neg h1, if_neg h3, if_pos h4]
          rw [zwF, e9] at hK
          have hJ2 := fun a ha => (zwN_fr L n m q p fd r b z st s (a := a) ha).trans (hJ a ha)
          rw [e9] at hJ2
          exact Runs.cg (by rw [nI_1]) rfl (ih (st + 1) (s.1, s.2.1, (zwB s.2.2 L n m q p fd r b z st).2) (by omega) hJ2 hK _ _ _)
        · skip
          refine Runs.bl 6 (g := true) (i' := 73) (ls' := [some (.ref 61), some (.int p), some (.int fd), some (.int r), some (.int w), some (.int (nI z)), some (.int b), some (.int (nI st)), some (.long ((zwC s.2.2 L n m p fd b z st).1)), none, some (.int ((nI st) + 1)), some (.long ((zwC s.2.2 L n m p fd b z st).1)), none, some (.int (nI z)), o14]) (st' := []) (M' := mk tl (zwB s.2.2 L n m q p fd r b z st).2 L rd) rfl rfl ?_
          have e9 : zwN L n m q p fd r b z st s = (nI st, (zwC s.2.2 L n m p fd b z st).1, (zwB s.2.2 L n m q p fd r b z st).2) := by rw [zwN, if_neg h1, if_neg h3, if_neg h4]
          rw [zwF, e9] at hK
          have hJ2 := fun a ha => (zwN_fr L n m q p fd r b z st s (a := a) ha).trans (hJ a ha)
          rw [e9] at hJ2
          exact Runs.cg (by rw [nI_1]) rfl (ih (st + 1) (nI st, (zwC s.2.2 L n m p fd b z st).1, (zwB s.2.2 L n m q p fd r b z st).2) (by omega) hJ2 hK _ _ _)

def zwA (s : Int32 × Int64 × (Nat → Nat → Int32)) (w : Int32) : Int32 := if s.1 = -1 then -1 else if w = 0 then s.2.1.toInt32 else s.1
def zwI (I : Nat → Nat → Int32) (L : Nat → Nat → Int64) (m : Nat) (p fd : Int32) : Nat → Nat → Int32 := (up1 (up2 I 61 0 0) 124 (mgS (up2 I 61 0 0) L p fd m).2)
def zwR (I : Nat → Nat → Int32) (L : Nat → Nat → Int64) (n m q : Nat) (p fd r : Int32) : Int32 × Int64 × (Nat → Nat → Int32) := zwF L n m q p fd r (if tlNow (zwI I L m p fd) L n m p 6 = 0 then 0 else 1) (mgS (up2 I 61 0 0) L p fd m).1.toNatClampNeg (2 ^ (mgS (up2 I 61 0 0) L p fd m).1.toNatClampNeg) 0 (-1, 0, up1 (zwI I L m p fd) 121 (lookG (zwI I L m p fd 121) (zwI I L m p fd) L p m))
def ySwing (I : Nat → Nat → Int32) (L : Nat → Nat → Int64) (n m q : Nat) (p fd r w : Int32) : Int32 × (Nat → Nat → Int32) := if areTwoR I p fd = 0 then (-1, (up2 I 61 0 0)) else if inR I r 0 1000 = 0 then (-1, (up2 I 61 0 0)) else if inR I w 0 1 = 0 then (-1, (up2 I 61 0 0)) else (zwA (zwR I L n m q p fd r) w, (zwR I L n m q p fd r).2.2)

set_option maxRecDepth 20000 in
theorem c_ySwing (tl : List (Nat × Nat)) (I : Nat → Nat → Int32) (L : Nat → Nat → Int64) (rd : Nat → Nat → Option Nat) (n m q : Nat) (p fd r w : Int32) (hm : I 86 0 = nI m) (hb : m ≤ 40) (hq : I 69 0 = nI q) (hqb : q ≤ 12) (hn : I 104 0 = nI n) (hn4 : n ≤ 4) (hR : RA I n) (hcr : ∀ d, d < m → 0 ≤ (I 88 d).toInt ∧ (I 88 d).toInt < 12) (hdr : ∀ d, d < m → 0 ≤ (I 87 d).toInt ∧ (I 87 d).toInt < 12) : Call 225 [.ref 61, .int p, .int fd, .int r, .int w] (mk tl I L rd) (some (.int ((ySwing I L n m q p fd r w).1))) (mk tl ((ySwing I L n m q p fd r w).2) L rd) := by
  show Runs 225 0 [some (.ref 61), some (.int p), some (.int fd), some (.int r), some (.int w), none, none, none, none, none, none, none, none, none, none] [] (mk tl I L rd) (some (.int ((ySwing I L n m q p fd r w).1))) (mk tl ((ySwing I L n m q p fd r w).2) L rd)
  refine Runs.bl 6 (g := true) (i' := 6) (ls' := [some (.ref 61), some (.int p), some (.int fd), some (.int r), some (.int w), none, none, none, none, none, none, none, none, none, none]) (st' := [.int fd, .int p, .ref 61]) (M' := mk tl (up2 I 61 0 (0 : Int32)) L rd) rfl rfl ?_
  refine Runs.call (k' := 157) (as := [.ref 61, .int p, .int fd]) (rest := []) (r1 := some (.int (areTwoR I p fd))) (M1 := mk tl (up2 I 61 0 (0 : Int32)) L rd) rfl rfl rfl (c_areTwoR tl (up2 I 61 0 (0 : Int32)) L rd p fd ) ?_
  refine Runs.bl 1 (g := true) (i' := if decide ((areTwoR I p fd) = 0) = true then 18 else 8) (ls' := [some (.ref 61), some (.int p), some (.int fd), some (.int r), some (.int w), none, none, none, none, none, none, none, none, none, none]) (st' := []) (M' := mk tl (up2 I 61 0 (0 : Int32)) L rd) rfl rfl ?_
  refine Runs.brP (fun h1 => ?_) (fun h1 => ?_)
  · skip
    refine Runs.bl 1 (g := true) (i' := 19) (ls' := [some (.ref 61), some (.int p), some (.int fd), some (.int r), some (.int w), none, none, none, none, none, none, none, none, none, none]) (st' := [.int (-1 : Int32)]) (M' := mk tl (up2 I 61 0 (0 : Int32)) L rd) rfl rfl ?_
    exact Runs.ri rfl rfl (by rw [ySwing, if_pos h1] <;> rfl) (by rw [ySwing, if_pos h1] <;> rfl)
  · skip
    refine Runs.bl 3 (g := true) (i' := 11) (ls' := [some (.ref 61), some (.int p), some (.int fd), some (.int r), some (.int w), none, none, none, none, none, none, none, none, none, none]) (st' := [.int (1000 : Int32), .int (0 : Int32), .int r]) (M' := mk tl (up2 I 61 0 (0 : Int32)) L rd) rfl rfl ?_
    refine Runs.call (k' := 151) (as := [.int r, .int (0 : Int32), .int (1000 : Int32)]) (rest := []) (r1 := some (.int (inR I r (0 : Int32) (1000 : Int32)))) (M1 := mk tl (up2 I 61 0 (0 : Int32)) L rd) rfl rfl rfl (c_inR tl (up2 I 61 0 (0 : Int32)) L rd r (0 : Int32) (1000 : Int32) ) ?_
    refine Runs.bl 1 (g := true) (i' := if decide ((inR I r (0 : Int32) (1000 : Int32)) = 0) = true then 18 else 13) (ls' := [some (.ref 61), some (.int p), some (.int fd), some (.int r), some (.int w), none, none, none, none, none, none, none, none, none, none]) (st' := []) (M' := mk tl (up2 I 61 0 (0 : Int32)) L rd) rfl rfl ?_
    refine Runs.brP (fun h2 => ?_) (fun h2 => ?_)
    · skip
      refine Runs.bl 1 (g := true) (i' := 19) (ls' := [some (.ref 61), some (.int p), some (.int fd), some (.int r), some (.int w), none, none, none, none, none, none, none, none, none, none]) (st' := [.int (-1 : Int32)]) (M' := mk tl (up2 I 61 0 (0 : Int32)) L rd) rfl rfl ?_
      exact Runs.ri rfl rfl (by rw [ySwing, if_neg h1, if_pos h2] <;> rfl) (by rw [ySwing, if_neg h1, if_pos h2] <;> rfl)
    · skip
      refine Runs.bl 3 (g := true) (i' := 16) (ls' := [some (.ref 61), some (.int p), some (.int fd), some (.int r), some (.int w), none, none, none, none, none, none, none, none, none, none]) (st' := [.int (1 : Int32), .int (0 : Int32), .int w]) (M' := mk tl (up2 I 61 0 (0 : Int32)) L rd) rfl rfl ?_
      refine Runs.call (k' := 151) (as := [.int w, .int (0 : Int32), .int (1 : Int32)]) (rest := []) (r1 := some (.int (inR I w (0 : Int32) (1 : Int32)))) (M1 := mk tl (up2 I 61 0 (0 : Int32)) L rd) rfl rfl rfl (c_inR tl (up2 I 61 0 (0 : Int32)) L rd w (0 : Int32) (1 : Int32) ) ?_
      refine Runs.bl 1 (g := true) (i' := if decide (¬ (inR I w (0 : Int32) (1 : Int32)) = 0) = true then 20 else 18) (ls' := [some (.ref 61), some (.int p), some (.int fd), some (.int r), some (.int w), none, none, none, none, none, none, none, none, none, none]) (st' := []) (M' := mk tl (up2 I 61 0 (0 : Int32)) L rd) rfl rfl ?_
      refine Runs.brP (fun h3 => ?_) (fun h3 => ?_)
      · skip
        refine Runs.bl 4 (g := true) (i' := 24) (ls' := [some (.ref 61), some (.int p), some (.int fd), some (.int r), some (.int w), some (.int (0 : Int32)), some (.int (0 : Int32)), none, none, none, none, none, none, none, none]) (st' := []) (M' := mk tl (up2 I 61 0 (0 : Int32)) L rd) rfl rfl ?_
        rw [ySwing, if_neg h1, if_neg h2, if_neg h3]
        have hp : 0 ≤ p.toInt ∧ p.toInt < 12 := (by first | assumption | (have q1 := areTwoR_rng hq hqb h1; have q2 := inR_rng h2; have q3 := inR_rng h3; (try simp only [Bool.and_true, Bool.true_and, Bool.and_eq_true, inb_iff, Int32.lt_iff_toInt_lt, Int32.le_iff_toInt_le, toI_0, toI_1, toI_2, toI_3, toI_4, toI_5, toI_6, toI_7, toI_8, toI_9, toI_10, toI_12, toI_16, toI_18, toI_20, toI_21, toI_23, toI_24, toI_32, toI_36, toI_39, toI_40, toI_48, toI_50, toI_60, toI_64, toI_75, toI_80, toI_100, toI_144, toI_160, toI_200, toI_256, toI_320, toI_380, toI_576, toI_600, toI_1000, toI_1280, toI_2400, toI_9999, toI_10000, toI_100000, toI_1000000, toI_m1, toI_m100000, toI_s9, toI_s8] at hm hb hq hqb hn hn4 hR hcr hdr q1 q2 q3  ⊢); omega))
        refine Runs.cg (M := mk tl (up1 (up2 I 61 0 0) 124 ((up2 I 61 0 0) 124)) L rd) rfl (mk_cg (up1_self _ 124).symm rfl) ?_
        refine l_mg tl (up2 I 61 0 0) L rd p fd r w m hm hb _ _ m 0 (0, (up2 I 61 0 0) 124) (Nat.zero_add _) (mg_0 (up2 I 61 0 0) m) (fun cc => ?_)
        obtain ⟨z, hz, ez, hmt⟩ := mgS_z (up2 I 61 0 0) L p fd hb
        have hp2 : 2 ^ z ≤ 1024 := (Nat.pow_le_pow_right (n := 2) (by decide) hz : 2 ^ z ≤ 2 ^ 10)
        have ecl : (mgS (up2 I 61 0 0) L p fd m).1.toNatClampNeg = z := by rw [ez, nI_clamp (by omega)]
        refine Runs.cg (ls := [some (.ref 61), some (.int p), some (.int fd), some (.int r), some (.int w), some (.int (nI z)), cc, none, none, none, none, none, none, none, none]) (M := mk tl (zwI I L m p fd) L rd) (by rw [← ez]; rfl) rfl ?_
        refine Runs.bl 3 (g := true) (i' := 61) (ls' := [some (.ref 61), some (.int p), some (.int fd), some (.int r), some (.int w), some (.int (nI z)), cc, none, none, none, none, none, none, none, none]) (st' := [.int (6 : Int32), .int p, .ref 61]) (M' := mk tl (zwI I L m p fd) L rd) rfl rfl ?_
        refine Runs.call (k' := 199) (as := [.ref 61, .int p, .int (6 : Int32)]) (rest := []) (r1 := some (.int (tlNow (zwI I L m p fd) L n m p 6))) (M1 := mk tl (up1 (zwI I L m p fd) 121 (lookG ((zwI I L m p fd) 121) (zwI I L m p fd) L p m)) L rd) rfl rfl rfl (c_tnow tl (zwI I L m p fd) L rd p 6 n m (zwI I L m p fd) ((zwI I L m p fd) 121) (fun a _ => rfl) rfl hm hb hn hn4 (hR.cg (fun a ha => by unfold relR at ha; unfold zwI; simp (disch := omega) only [up1_ne, up2_ne])) hp) ?_
        refine Runs.bl 1 (g := true) (i' := if decide ((tlNow (zwI I L m p fd) L n m p 6) = 0) = true then 65 else 63) (ls' := [some (.ref 61), some (.int p), some (.int fd), some (.int r), some (.int w), some (.int (nI z)), cc, none, none, none, none, none, none, none, none]) (st' := []) (M' := mk tl (up1 (zwI I L m p fd) 121 (lookG ((zwI I L m p fd) 121) (zwI I L m p fd) L p m)) L rd) rfl rfl ?_
        refine Runs.dia (P := (tlNow (zwI I L m p fd) L n m p 6) = 0) (vT := (0 : Int32)) (vF := (1 : Int32)) (e := 66) (fun h4 K => ?_) (fun h4 K => ?_) ?_
        · exact Runs.bl 1 (g := true) (i' := 66) (ls' := [some (.ref 61), some (.int p), some (.int fd), some (.int r), some (.int w), some (.int (nI z)), cc, none, none, none, none, none, none, none, none]) (st' := [.int (0 : Int32)]) (M' := mk tl (up1 (zwI I L m p fd) 121 (lookG ((zwI I L m p fd) 121) (zwI I L m p fd) L p m)) L rd) rfl rfl K
        · exact Runs.bl 2 (g := true) (i' := 66) (ls' := [some (.ref 61), some (.int p), some (.int fd), some (.int r), some (.int w), some (.int (nI z)), cc, none, none, none, none, none, none, none, none]) (st' := [.int (1 : Int32)]) (M' := mk tl (up1 (zwI I L m p fd) 121 (lookG ((zwI I L m p fd) 121) (zwI I L m p fd) L p m)) L rd) rfl rfl K
        refine Runs.bl 7 (g := true) (i' := 73) (ls' := [some (.ref 61), some (.int p), some (.int fd), some (.int r), some (.int w), some (.int (nI z)), some (.int (if (tlNow (zwI I L m p fd) L n m p 6) = 0 then (0 : Int32) else (1 : Int32))), some (.int (-1 : Int32)), some (.long (0 : Int64)), none, some (.int (0 : Int32)), none, none, none, none]) (st' := []) (M' := mk tl (up1 (zwI I L m p fd) 121 (lookG ((zwI I L m p fd) 121) (zwI I L m p fd) L p m)) L rd) rfl rfl ?_
        refine l_zw tl (up1 (zwI I L m p fd) 121 (lookG ((zwI I L m p fd) 121) (zwI I L m p fd) L p m)) L rd n m q p fd r w (if tlNow (zwI I L m p fd) L n m p 6 = 0 then 0 else 1) z hp2 hm hb hq hqb hn hn4 (hR.cg (fun a ha => by unfold relR at ha; unfold zwI; simp (disch := omega) only [up1_ne, up2_ne])) hcr hp hz hmt _ _ (2 ^ z) 0 (-1, 0, (up1 (zwI I L m p fd) 121 (lookG ((zwI I L m p fd) 121) (zwI I L m p fd) L p m))) (Nat.zero_add _) (fun a _ => rfl) (fun o11 o13 o14 => ?_) _ _ _
        have eS : zwF L n m q p fd r (if tlNow (zwI I L m p fd) L n m p 6 = 0 then 0 else 1) z (2 ^ z) 0 (-1, 0, (up1 (zwI I L m p fd) 121 (lookG ((zwI I L m p fd) 121) (zwI I L m p fd) L p m))) = (zwR I L n m q p fd r) := by rw [zwR, ecl]
        rw [eS]
        refine Runs.bl 3 (g := true) (i' := if decide (¬ ((zwR I L n m q p fd r).1) = (-1 : Int32)) = true then 157 else 155) (ls' := [some (.ref 61), some (.int p), some (.int fd), some (.int r), some (.int w), some (.int (nI z)), some (.int (if tlNow (zwI I L m p fd) L n m p 6 = 0 then 0 else 1)), some (.int ((zwR I L n m q p fd r).1)), some (.long ((zwR I L n m q p fd r).2.1)), none, some (.int (nI (2 ^ z))), o11, none, o13, o14]) (st' := []) (M' := mk tl (zwR I L n m q p fd r).2.2 L rd) rfl rfl ?_
        refine Runs.brP (fun h5 => ?_) (fun h5 => ?_)
        · skip
          refine Runs.bl 2 (g := true) (i' := if decide (¬ w = 0) = true then 162 else 159) (ls' := [some (.ref 61), some (.int p), some (.int fd), some (.int r), some (.int w), some (.int (nI z)), some (.int (if tlNow (zwI I L m p fd) L n m p 6 = 0 then 0 else 1)), some (.int ((zwR I L n m q p fd r).1)), some (.long ((zwR I L n m q p fd r).2.1)), none, some (.int (nI (2 ^ z))), o11, none, o13, o14]) (st' := []) (M' := mk tl (zwR I L n m q p fd r).2.2 L rd) rfl rfl ?_
          refine Runs.dia (P := ¬ w = 0) (vT := (zwR I L n m q p fd r).1) (vF := ((zwR I L n m q p fd r).2.1).toInt32) (e := 163) (fun h6 K => ?_) (fun h6 K => ?_) ?_
          · exact Runs.bl 1 (g := true) (i' := 163) (ls' := [some (.ref 61), some (.int p), some (.int fd), some (.int r), some (.int w), some (.int (nI z)), some (.int (if tlNow (zwI I L m p fd) L n m p 6 = 0 then 0 else 1)), some (.int ((zwR I L n m q p fd r).1)), some (.long ((zwR I L n m q p fd r).2.1)), none, some (.int (nI (2 ^ z))), o11, none, o13, o14]) (st' := [.int ((zwR I L n m q p fd r).1)]) (M' := mk tl (zwR I L n m q p fd r).2.2 L rd) rfl rfl K
          · exact Runs.bl 3 (g := true) (i' := 163) (ls' := [some (.ref 61), some (.int p), some (.int fd), some (.int r), some (.int w), some (.int (nI z)), some (.int (if tlNow (zwI I L m p fd) L n m p 6 = 0 then 0 else 1)), some (.int ((zwR I L n m q p fd r).1)), some (.long ((zwR I L n m q p fd r).2.1)), none, some (.int (nI (2 ^ z))), o11, none, o13, o14]) (st' := [.int (((zwR I L n m q p fd r).2.1).toInt32)]) (M' := mk tl (zwR I L n m q p fd r).2.2 L rd) rfl rfl K
          exact Runs.ri rfl rfl (by show _ = some (Value.int (zwA (zwR I L n m q p fd r) w)); simp only [zwA, ite_not, if_neg h5]) (rfl)
        · skip
          refine Runs.bl 2 (g := true) (i' := 163) (ls' := [some (.ref 61), some (.int p), some (.int fd), some (.int r), some (.int w), some (.int (nI z)), some (.int (if tlNow (zwI I L m p fd) L n m p 6 = 0 then 0 else 1)), some (.int ((zwR I L n m q p fd r).1)), some (.long ((zwR I L n m q p fd r).2.1)), none, some (.int (nI (2 ^ z))), o11, none, o13, o14]) (st' := [.int (-1 : Int32)]) (M' := mk tl (zwR I L n m q p fd r).2.2 L rd) rfl rfl ?_
          exact Runs.ri rfl rfl (by show _ = some (Value.int (zwA (zwR I L n m q p fd r) w)); simp only [zwA, ite_not, if_pos (Decidable.not_not.mp h5)]) (rfl)
      · skip
        refine Runs.bl 1 (g := true) (i' := 19) (ls' := [some (.ref 61), some (.int p), some (.int fd), some (.int r), some (.int w), none, none, none, none, none, none, none, none, none, none]) (st' := [.int (-1 : Int32)]) (M' := mk tl (up2 I 61 0 (0 : Int32)) L rd) rfl rfl ?_
        exact Runs.ri rfl rfl (by rw [ySwing, if_neg h1, if_neg h2, if_pos (Decidable.not_not.mp h3)] <;> rfl) (by rw [ySwing, if_neg h1, if_neg h2, if_pos (Decidable.not_not.mp h3)] <;> rfl)

