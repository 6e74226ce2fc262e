/-! the walker's own lemmas -/
theorem Runs.brT {k a b : Nat} {P : Prop} [Decidable P] {ls : Lz} {st : List Value} {M : Mm} {r : Option Value} {Me : Mm} (h : P) (h1 : Runs k a ls st M r Me) : Runs k (if decide P = true then a else b) ls st M r Me := by rw [if_pos (decide_eq_true h)]; exact h1
theorem Runs.brF {k a b : Nat} {P : Prop} [Decidable P] {ls : Lz} {st : List Value} {M : Mm} {r : Option Value} {Me : Mm} (h : ¬ P) (h1 : Runs k b ls st M r Me) : Runs k (if decide P = true then a else b) ls st M r Me := by rw [if_neg (fun z => h (of_decide_eq_true z))]; exact h1
theorem Runs.cg {k i : Nat} {ls ls' : Lz} {st : List Value} {M M' : Mm} {r : Option Value} {Me : Mm} (e : ls' = ls) (eM : M' = M) (h : Runs k i ls st M r Me) : Runs k i ls' st M' r Me := by subst e; subst eM; exact h
theorem Runs.dia {k a b e : Nat} {P : Prop} [Decidable P] {ls : Lz} {st : List Value} {M : Mm} {r : Option Value} {Me : Mm} {vT vF : Int32} (h1 : P → Runs k e ls (.int vT :: st) M r Me → Runs k a ls st M r Me) (h2 : ¬ P → Runs k e ls (.int vF :: st) M r Me → Runs k b ls st M r Me) (h3 : Runs k e ls (.int (if P then vT else vF) :: st) M r Me) : Runs k (if decide P = true then a else b) ls st M r Me := by
  by_cases h : P
  · rw [if_pos (decide_eq_true h)]; rw [if_pos h] at h3; exact h1 h h3
  · rw [if_neg (fun z => h (of_decide_eq_true z))]; rw [if_neg h] at h3; exact h2 h h3
theorem Runs.diaL {k a b e : Nat} {P : Prop} [Decidable P] {ls : Lz} {st : List Value} {M : Mm} {r : Option Value} {Me : Mm} {vT vF : Int64} (h1 : P → Runs k e ls (.long vT :: st) M r Me → Runs k a ls st M r Me) (h2 : ¬ P → Runs k e ls (.long vF :: st) M r Me → Runs k b ls st M r Me) (h3 : Runs k e ls (.long (if P then vT else vF) :: st) M r Me) : Runs k (if decide P = true then a else b) ls st M r Me := by
  by_cases h : P
  · rw [if_pos (decide_eq_true h)]; rw [if_pos h] at h3; exact h1 h h3
  · rw [if_neg (fun z => h (of_decide_eq_true z))]; rw [if_neg h] at h3; exact h2 h h3
theorem Runs.sw {k i c : Nat} {ls : Lz} {st : List Value} {M : Mm} {r : Option Value} {Me : Mm} (e : i = c) (h : Runs k c ls st M r Me) : Runs k i ls st M r Me := by subst e; exact h
theorem Runs.ri {k i : Nat} {ls : Lz} {v : Int32} {M : Mm} {r : Option Value} {M' : Mm} (hi : mIns k i = some .ireturn) (hk : mRet k = some .int) (e : some (.int v) = r) (eM : M = M') : Runs k i ls [.int v] M r M' := by
  subst e; subst eM
  refine Runs.ret hi ?_
  simp only [rtn, hk, narrow, if_true]
theorem Runs.rz {k i : Nat} {ls : Lz} {v : Int32} {M : Mm} {r : Option Value} {M' : Mm} (hi : mIns k i = some .ireturn) (hk : mRet k = some .boolean) (hv : v = 0 ∨ v = 1) (e : some (.int v) = r) (eM : M = M') : Runs k i ls [.int v] M r M' := by
  subst e; subst eM
  refine Runs.ret hi ?_
  rcases hv with rfl | rfl <;> (unfold rtn; rw [hk]; exact if_pos (by decide))
theorem Runs.rl {k i : Nat} {ls : Lz} {v : Int64} {M : Mm} {r : Option Value} {M' : Mm} (hi : mIns k i = some .lreturn) (hk : mRet k = some .long) (e : some (.long v) = r) (eM : M = M') : Runs k i ls [.long v] M r M' := by
  subst e; subst eM
  refine Runs.ret hi ?_
  simp only [rtn, hk, if_true]
theorem Runs.rv {k i : Nat} {ls : Lz} {M : Mm} {M' : Mm} (hi : mIns k i = some .return_) (hk : mRet k = none) (eM : M = M') : Runs k i ls [] M none M' := by
  subst eM
  refine Runs.ret hi ?_
  simp only [rtn, hk, if_true]
theorem inb_iff {j : Int32} {n : Nat} : inb j n = true ↔ 0 ≤ j.toInt ∧ j.toInt < n := by
  rw [← vp_in_iff]
  unfold inb vp_in
  simp only [Bool.and_eq_true, decide_eq_true_eq, not_or, Nat.not_le]
theorem swT_out {d lo hi : Int} {offs : List Int} {x : Int} (h : x < lo ∨ hi < x) : swT d lo hi offs x = d.toNat := by unfold swT; rw [if_pos h]
theorem swn {x : Int32} {c' : Int32} {c : Int} (h : ¬ x = c') (hc : c'.toInt = c) : ¬ c = x.toInt := by
  intro e
  exact h (Int32.toInt_inj.mp (by rw [hc, e]))
theorem loopU {P : Nat → Prop} (N : Nat) (hs : ∀ j, j < N → P (j + 1) → P j) (he : P N) : ∀ j, j ≤ N → P j := by
  have key : ∀ d j, j + d = N → P j := by
    intro d
    induction d with
    | zero => intro j hj; rw [Nat.add_zero] at hj; rw [hj]; exact he
    | succ d ih => intro j hj; exact hs j (by omega) (ih (j + 1) (by omega))
  exact fun j hj => key (N - j) j (by omega)
def itr {S : Type} (f : Nat → S → S) (s : S) : Nat → S
  | 0 => s
  | n + 1 => f n (itr f s n)
theorem itr_s {S : Type} (f : Nat → S → S) (s : S) (n : Nat) : itr f s (n + 1) = f n (itr f s n) := rfl
def sumI (f : Nat → Int32) : Nat → Int32
  | 0 => 0
  | n + 1 => sumI f n + f n
def sumL (f : Nat → Int64) : Nat → Int64
  | 0 => 0
  | n + 1 => sumL f n + f n
theorem up2_same {α : Type} (f : Nat → Nat → α) (a k : Nat) (v : α) : up2 f a k v a k = v := by simp [up2]
theorem wup2_ne {α : Type} (f : Nat → Nat → α) (a k : Nat) (v : α) {b : Nat} (h : b ≠ a) : up2 f a k v b = f b := by unfold up2; exact if_neg h
theorem wup2_at {α : Type} (f : Nat → Nat → α) (a k : Nat) (v : α) (j : Nat) : up2 f a k v a j = if j = k then v else f a j := by unfold up2; rw [if_pos rfl]
theorem wup2_self {α : Type} (f : Nat → Nat → α) (a k : Nat) : up2 f a k (f a k) = f := by
  funext x y
  unfold up2
  by_cases h : x = a
  · subst h; rw [if_pos rfl]; by_cases h2 : y = k
    · subst h2; rw [if_pos rfl]
    · rw [if_neg h2]
  · rw [if_neg h]
theorem up1_at {α : Type} (f : Nat → Nat → α) (a : Nat) (g : Nat → α) : up1 f a g a = g := by unfold up1; rw [if_pos rfl]
theorem wup1_ne {α : Type} (f : Nat → Nat → α) (a : Nat) (g : Nat → α) {b : Nat} (h : b ≠ a) : up1 f a g b = f b := by unfold up1; exact if_neg h
theorem up1_self {α : Type} (f : Nat → Nat → α) (a : Nat) : up1 f a (f a) = f := by
  funext x
  unfold up1
  by_cases h : x = a
  · subst h; rw [if_pos rfl]
  · rw [if_neg h]
theorem up1_up1 {α : Type} (f : Nat → Nat → α) (a : Nat) (g g' : Nat → α) : up1 (up1 f a g) a g' = up1 f a g' := by
  funext x
  unfold up1
  by_cases h : x = a
  · subst h; rw [if_pos rfl, if_pos rfl]
  · rw [if_neg h, if_neg h, if_neg h]
theorem up2_up1 {α : Type} (f : Nat → Nat → α) (a k : Nat) (v : α) : up2 f a k v = up1 f a (fun y => if y = k then v else f a y) := rfl
theorem up2_of1 {α : Type} (f : Nat → Nat → α) (a k : Nat) (v : α) (g : Nat → α) : up2 (up1 f a g) a k v = up1 f a (fun y => if y = k then v else g y) := by
  rw [up2_up1, up1_up1, up1_at]
def upr {α : Type} (g : Nat → α) (k : Nat) (v : α) : Nat → α := fun y => if y = k then v else g y
theorem row_up2 {α : Type} (f : Nat → Nat → α) (a k : Nat) (v : α) (g : Nat → α) : up2 (up1 f a g) a k v = up1 f a (upr g k v) := up2_of1 f a k v g
theorem row_sw {α : Type} {F : Nat → Nat → α} {g : Nat → α} {a b k : Nat} {v : α} (h : ¬ a = b) : up2 (up1 F b g) a k v = up1 (up2 F a k v) b g := by
  funext x
  by_cases e : x = b
  · subst e; rw [up1_at, up2_ne (fun z => h z.symm), up1_at]
  · rw [up1_ne e]; by_cases e2 : x = a
    · subst e2; unfold up2; rw [if_pos rfl, if_pos rfl, up1_ne e]
    · rw [up2_ne e2, up2_ne e2, up1_ne e]
theorem mk_cg {tl : List (Nat × Nat)} {I I' : Nat → Nat → Int32} {L L' : Nat → Nat → Int64} {rd : Nat → Nat → Option Nat} (h : I = I') (h2 : L = L') : mk tl I L rd = mk tl I' L' rd := by rw [h, h2]
theorem lu2 {α : Type} {f : Nat → Nat → α} {a b k : Nat} {v : α} (h : (b == a) = false) : up2 f a k v b = f b := up2_ne (fun e => by subst e; rw [beq_self_eq_true] at h; cases h)
theorem lu1 {α : Type} {f : Nat → Nat → α} {a b : Nat} {g : Nat → α} (h : (b == a) = false) : up1 f a g b = f b := up1_ne (fun e => by subst e; rw [beq_self_eq_true] at h; cases h)
theorem su2 {α : Type} (f : Nat → Nat → α) (a k : Nat) (v : α) : up2 f a k v a = upr (f a) k v := by unfold up2; exact if_pos rfl
theorem clamp_lt {T : Int32} {j : Nat} (h : j < T.toNatClampNeg) : ¬ T ≤ nI j := by
  have e : T.toNatClampNeg = T.toInt.toNat := rfl
  have := Int32.toInt_lt T
  rw [Int32.le_iff_toInt_le, nI_toInt (by omega)]
  omega
theorem clamp_ge (T : Int32) : T ≤ nI T.toNatClampNeg := by
  have e : T.toNatClampNeg = T.toInt.toNat := rfl
  have := Int32.toInt_lt T
  rw [Int32.le_iff_toInt_le, nI_toInt (by omega)]
  omega
theorem toI_s9 : ((9 : Int32) - 1).toInt = 8 := by decide
theorem toI_s8 : ((8 : Int32) - 1).toInt = 7 := by decide
theorem rng_nI {x : Int32} {N : Nat} (h : 0 ≤ x.toInt ∧ x.toInt < N) : ∃ n, n < N ∧ x = nI n := by
  have hN : x.toInt < 2 ^ 31 := by have := Int32.toInt_lt x; omega
  refine ⟨x.toInt.toNat, by omega, Int32.toInt_inj.mp ?_⟩
  rw [nI_toInt (by omega)]
  omega

theorem toI_0 : (0 : Int32).toInt = 0 := by decide
theorem toI_1 : (1 : Int32).toInt = 1 := by decide
theorem toI_2 : (2 : Int32).toInt = 2 := by decide
theorem toI_3 : (3 : Int32).toInt = 3 := by decide
theorem toI_4 : (4 : Int32).toInt = 4 := by decide
theorem toI_5 : (5 : Int32).toInt = 5 := by decide
theorem toI_6 : (6 : Int32).toInt = 6 := by decide
theorem toI_7 : (7 : Int32).toInt = 7 := by decide
theorem toI_8 : (8 : Int32).toInt = 8 := by decide
theorem toI_9 : (9 : Int32).toInt = 9 := by decide
theorem toI_10 : (10 : Int32).toInt = 10 := by decide
theorem toI_12 : (12 : Int32).toInt = 12 := by decide
theorem toI_16 : (16 : Int32).toInt = 16 := by decide
theorem toI_18 : (18 : Int32).toInt = 18 := by decide
theorem toI_20 : (20 : Int32).toInt = 20 := by decide
theorem toI_21 : (21 : Int32).toInt = 21 := by decide
theorem toI_23 : (23 : Int32).toInt = 23 := by decide
theorem toI_24 : (24 : Int32).toInt = 24 := by decide
theorem toI_32 : (32 : Int32).toInt = 32 := by decide
theorem toI_36 : (36 : Int32).toInt = 36 := by decide
theorem toI_39 : (39 : Int32).toInt = 39 := by decide
theorem toI_40 : (40 : Int32).toInt = 40 := by decide
theorem toI_48 : (48 : Int32).toInt = 48 := by decide
theorem toI_50 : (50 : Int32).toInt = 50 := by decide
theorem toI_60 : (60 : Int32).toInt = 60 := by decide
theorem toI_64 : (64 : Int32).toInt = 64 := by decide
theorem toI_75 : (75 : Int32).toInt = 75 := by decide
theorem toI_80 : (80 : Int32).toInt = 80 := by decide
theorem toI_100 : (100 : Int32).toInt = 100 := by decide
theorem toI_144 : (144 : Int32).toInt = 144 := by decide
theorem toI_160 : (160 : Int32).toInt = 160 := by decide
theorem toI_200 : (200 : Int32).toInt = 200 := by decide
theorem toI_256 : (256 : Int32).toInt = 256 := by decide
theorem toI_320 : (320 : Int32).toInt = 320 := by decide
theorem toI_380 : (380 : Int32).toInt = 380 := by decide
theorem toI_576 : (576 : Int32).toInt = 576 := by decide
theorem toI_600 : (600 : Int32).toInt = 600 := by decide
theorem toI_1000 : (1000 : Int32).toInt = 1000 := by decide
theorem toI_1280 : (1280 : Int32).toInt = 1280 := by decide
theorem toI_2400 : (2400 : Int32).toInt = 2400 := by decide
theorem toI_9999 : (9999 : Int32).toInt = 9999 := by decide
theorem toI_10000 : (10000 : Int32).toInt = 10000 := by decide
theorem toI_100000 : (100000 : Int32).toInt = 100000 := by decide
theorem toI_1000000 : (1000000 : Int32).toInt = 1000000 := by decide
theorem toI_m1 : (-1 : Int32).toInt = -1 := by decide
theorem toI_m100 : (-100 : Int32).toInt = -100 := by decide
theorem toI_m100000 : (-100000 : Int32).toInt = -100000 := by decide
