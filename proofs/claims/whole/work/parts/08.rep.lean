/-! THE PICTURE of a memory in the real heap. E: (base, classes, slots, array classes, what was there before, the script's length, the script) -/
abbrev En : Type := Nat × (Nat → ClassId) × (Nat → Nat → Nat) × (Nat → ClassId) × (Nat → Value) × Nat × (Nat → Int32)
def vmp (E : En) (v : Value) : Value := match v with
  | .ref k => if k < mx then .ref (E.1 + k) else E.2.2.2.2.1 (k - mx)
  | v => v
def fsv (E : En) (M : Mm) (a : Nat) (kd : List Nat) : List Value := kd.mapIdx (fun k t => if t = 1 then .long (M.2.2.1 a k) else if t = 2 then vmp E (mrf (M.2.2.2 a k)) else .int (M.2.1 a k))
def cel (E : En) (M : Mm) (a : Nat) (q : Nat × Nat) : va_E :=
  if q.1 < 3 then .inl (E.2.2.2.1 q.1, q.2, .inl (M.2.1 a)) else if q.1 = 3 then .inl (E.2.2.2.1 3, q.2, .inr (.inl (M.2.2.1 a)))
  else if q.1 < 6 then .inl (E.2.2.2.1 q.1, q.2, .inr (.inr (.inr (.inr (fun j => (M.2.2.2 a j).map (fun x => E.1 + x))))))
  else .inr (q.1 - 10, fsv E M a (kdz.getD (q.1 - 10) []))
def wsO (E : En) (M : Mm) : va_W := M.1.mapIdx (fun a q => (E.1 + a, cel E M a q))
def tyz (E : En) : List (ClassId × FieldType) := [(E.2.2.2.1 0, .int), (E.2.2.2.1 1, .boolean), (E.2.2.2.1 2, .byte), (E.2.2.2.1 3, .long), (E.2.2.2.1 4, .object "DebtorsHouse$House"), (E.2.2.2.1 5, .object "DebtorsHouse$Act")]
abbrev eD (E : En) : va_G := (E.2.1, E.2.2.1)
abbrev eA (E : En) : Nat → Prop := fun q => E.1 ≤ q
/-- words that stay as the tables grow warm; the tables' words of these kinds -/
def twk (w : Cond) : Bool := goodWord w || (match w with
  | .fieldLinkNest .. => true
  | .methodLinkNest .. => true
  | .arrayOver (.object _) => true
  | _ => false)
def lwt : List Cond := lw_tbl.filter twk
theorem lwt_of {w : Cond} (h : w ∈ lw_tbl) (hk : twk w = true) : w ∈ lwt := List.mem_filter.mpr ⟨h, hk⟩
theorem twk_warm {w : Cond} {s U : State} (hw : twk w = true) (hW : s.WarmedH U.vm) (h : va_Nw w s) : va_Nw w U := by
  unfold twk at hw
  rw [Bool.or_eq_true] at hw
  rcases hw with hw | hw
  · exact word_at hW (good_of_word hw) h
  · cases w with
    | fieldLinkNest => exact va_Nw.warmF hW h
    | methodLinkNest => exact va_Nw.warmM hW h
    | arrayOver t =>
      cases t with
      | object C => exact va_AO.use (va_AO.moved hW.alike (va_AO.of h))
      | _ => cases hw
    | _ => cases hw
theorem twk_use {w : Cond} {s : State} {A : Array Value} (hw : twk w = true) (h : va_Nw w s) : w.before A s = true := by
  unfold twk at hw
  rw [Bool.or_eq_true] at hw
  rcases hw with hw | hw
  · exact word_at (State.WarmedH.refl s) (good_of_word hw) h
  · cases w with
    | fieldLinkNest => exact va_Nw.use rfl h
    | methodLinkNest => exact va_Nw.use rfl h
    | arrayOver t =>
      cases t with
      | object C => exact va_AO.use (va_AO.of h)
      | _ => cases hw
    | _ => cases hw
theorem twk_of {w : Cond} {s : State} {A : Array Value} (hw : twk w = true) (h : w.before A s = true) : va_Nw w s := by
  unfold twk at hw
  rw [Bool.or_eq_true] at hw
  rcases hw with hw | hw
  · exact word_at (State.WarmedH.refl s) (good_of_word hw) h
  · cases w with
    | fieldLinkNest => exact va_Nw.of rfl h
    | methodLinkNest => exact va_Nw.of rfl h
    | arrayOver t =>
      cases t with
      | object C => exact va_AO.use (va_AO.of h)
      | _ => cases hw
    | _ => cases hw
def TK (E : En) (U : State) : Prop := va_K (eD E) clz (tyz E) U ∧ ∀ w ∈ lwt, va_Nw w U
def XF (E : En) (U : State) (H : Heap) : Prop :=
  va_Z "java/lang/String" "COMPACT_STRINGS" "Z" (.int 1) (eA E) U H ∧ va_Z "DebtorsHouse$Law" "WITHOUT_LINE" "[I" (E.2.2.2.2.1 0) (eA E) U H ∧ va_Z "jdk/internal/util/Preconditions" "SIOOBE_FORMATTER" "Ljava/util/function/BiFunction;" (E.2.2.2.2.1 30) (eA E) U H ∧
  (∃ t : Nat, E.2.2.2.2.1 0 = .ref t ∧ va_T .int t 9 (fun j => .int (xWL.getD j 0)) (eA E) U H) ∧
  (∀ k : Nat, k < 6 → ∃ a v : Nat, E.2.2.2.2.1 (1 + k) = .ref a ∧ E.2.2.2.2.1 (11 + k) = .ref v ∧ vk_R "DebtorsHouse$Reader" (strJS.getD k (0, "")).1 (strJS.getD k (0, "")).2 a U ∧ va_O "java/lang/String" a (eA E) U H ∧ va_OF "java/lang/String" "coder" "B" (.int 0) a (eA E) U H ∧ va_OF "java/lang/String" "value" "[B" (.ref v) a (eA E) U H ∧ va_T .byte v (xBy k).length (fun j => .int ((xBy k).getD j 0)) (eA E) U H) ∧
  (∃ b : Nat, E.2.2.2.2.1 20 = .ref b ∧ ¬ eA E b ∧ b < H.size ∧ va_X b E.2.2.2.2.2.1 E.2.2.2.2.2.2 U H) ∧ ∀ e, E.2.2.2.2.1 e = .null ∨ ∃ a, E.2.2.2.2.1 e = .ref a
def Hx (E : En) (s : State) (H : Heap) (locs : List Loc) (M : Mm) : Prop := va_P (eD E) clz (wsO E M) H ∧ va_S (eA E) s.heap H locs ∧ M.1.length ≤ mx ∧ M.2.1 (mx + 20) = E.2.2.2.2.2.2 ∧ (M.2.1 (mx + 21) 0).toNatClampNeg = E.2.2.2.2.2.1
def asc (E : En) (ls : Lz) : List (Nat × Value) := (List.range ls.length).filterMap (fun i => (lzg ls i).map (fun v => (i, vmp E v)))
def Lr (E : En) (n : Nat) (lsA : Array Slot) (ls : Lz) : Prop := ls.length = n ∧ lv_has lsA n (asc E ls)
theorem vmp_cat (E : En) (hE : ∀ e, E.2.2.2.2.1 e = .null ∨ ∃ a, E.2.2.2.2.1 e = .ref a) (v : Value) : (vmp E v).category = v.category := by
  cases v with
  | ref k =>
    simp only [vmp]
    split
    · rfl
    · rcases hE (k - mx) with h | ⟨a, h⟩ <;> rw [h] <;> rfl
  | _ => rfl
theorem vmp_cats (E : En) (hE : ∀ e, E.2.2.2.2.1 e = .null ∨ ∃ a, E.2.2.2.2.1 e = .ref a) (st : List Value) : ((st.map (vmp E)).map fun v => v.category) = st.map fun v => v.category := by
  rw [List.map_map]
  exact List.map_congr_left (fun v _ => vmp_cat E hE v)
theorem mem_asc {E : En} {ls : Lz} {q : Nat × Value} : q ∈ asc E ls ↔ ∃ v, lzg ls q.1 = some v ∧ q.2 = vmp E v := by
  unfold asc
  rw [List.mem_filterMap]
  constructor
  · rintro ⟨i, -, hi⟩
    obtain ⟨v, h1, h2⟩ := Option.map_eq_some_iff.mp hi
    subst h2
    exact ⟨v, h1, rfl⟩
  · rintro ⟨v, h1, h2⟩
    refine ⟨q.1, ?_, ?_⟩
    · rw [List.mem_range]
      unfold lzg at h1
      cases h : ls[q.1]? with
      | none => rw [h] at h1; cases h1
      | some x => exact (List.getElem?_eq_some_iff.mp h).1
    · rw [h1, Option.map_some, ← h2]
theorem Lr.at {E : En} {n : Nat} {lsA : Array Slot} {ls : Lz} (h : Lr E n lsA ls) {i : Nat} {v : Value} (hv : lzg ls i = some v) : lsA[i]? = some (.val (vmp E v)) :=
  h.2.2.2 (i, vmp E v) (mem_asc.mpr ⟨v, hv, rfl⟩)
theorem lv_mem {ls : Array Slot} {n : Nat} {a b : List (Nat × Value)} (h : lv_has ls n a) (hb : ∀ q ∈ b, q ∈ a) : lv_has ls n b := ⟨h.1, h.2.1, fun q hq => h.2.2 q (hb q hq)⟩
theorem lzg_set {ls : Lz} {i j : Nat} {v : Option Value} : lzg (ls.set i v) j = if i = j ∧ i < ls.length then v else lzg ls j := by
  unfold lzg
  rw [List.getElem?_set]
  by_cases h : i = j
  · subst h
    by_cases h2 : i < ls.length
    · simp [h2]
    · simp [h2]
  · simp [h]
theorem lzp_len (ls : Lz) (i : Nat) (v : Value) : (lzp ls i v).length = ls.length := by
  unfold lzp
  split
  · simp
  · split <;> simp
theorem lzl_cat {v : Value} (h : lzl (some v) = true) : v.category = 2 := by
  cases v <;> simp [lzl, Value.category] at h ⊢
theorem lzg_lzp {ls : Lz} {i j : Nat} {v w : Value} (hi : i < ls.length) (h : lzg (lzp ls i v) j = some w) : (j = i ∧ w = v) ∨ (j ≠ i ∧ lzg ls j = some w ∧ ¬ (j + 1 = i ∧ lzl (some w) = true)) := by
  unfold lzp at h
  split at h
  · rw [lzg_set] at h
    by_cases hj : 0 = j
    · rw [if_pos ⟨hj, hi⟩] at h
      exact Or.inl ⟨hj.symm, (Option.some.inj h).symm⟩
    · rw [if_neg (fun q => hj q.1)] at h
      exact Or.inr ⟨fun q => hj q.symm, h, fun q => by omega⟩
  · rename_i i
    split at h
    · rename_i hl
      rw [lzg_set] at h
      by_cases hj : i + 1 = j
      · rw [if_pos ⟨hj, by rw [List.length_set]; exact hi⟩] at h
        exact Or.inl ⟨hj.symm, (Option.some.inj h).symm⟩
      · rw [if_neg (fun q => hj q.1), lzg_set] at h
        by_cases hk : i = j
        · rw [if_pos ⟨hk, by omega⟩] at h; cases h
        · rw [if_neg (fun q => hk q.1)] at h
          exact Or.inr ⟨fun q => hj q.symm, h, fun q => hk (by omega)⟩
    · rename_i hl
      rw [lzg_set] at h
      by_cases hj : i + 1 = j
      · rw [if_pos ⟨hj, hi⟩] at h
        exact Or.inl ⟨hj.symm, (Option.some.inj h).symm⟩
      · rw [if_neg (fun q => hj q.1)] at h
        refine Or.inr ⟨fun q => hj q.symm, h, fun q => hl ?_⟩
        have e : j = i := by omega
        rw [← e, h]
        exact q.2
theorem lzl_of {E : En} (hE : ∀ e, E.2.2.2.2.1 e = .null ∨ ∃ a, E.2.2.2.2.1 e = .ref a) {v : Value} (hf : (∃ x, v = .int x) ∨ (∃ x, v = .long x) ∨ v = .null ∨ ∃ x, v = .ref x) (h : (vmp E v).category = 2) : lzl (some v) = true := by
  rw [vmp_cat E hE] at h
  rcases hf with ⟨x, rfl⟩ | ⟨x, rfl⟩ | rfl | ⟨x, rfl⟩ <;> first | rfl | (simp [Value.category] at h)
/-- locals hold no floats or doubles -/
def Lok (ls : Lz) : Prop := ∀ i v, lzg ls i = some v → (∃ x, v = .int x) ∨ (∃ x, v = .long x) ∨ v = .null ∨ ∃ x, v = .ref x
theorem Lr.put1 {E : En} (hE : ∀ e, E.2.2.2.2.1 e = .null ∨ ∃ a, E.2.2.2.2.1 e = .ref a) {n : Nat} {lsA ls' : Array Slot} {ls : Lz} {i : Nat} {v : Value} (h : Lr E n lsA ls) (hok : Lok ls) (hi : i < ls.length) (h' : lv_has ls' n ((i, vmp E v) :: (asc E ls).filter (fun q => !(q.1 == i) && !(q.1 + 1 == i && q.2.category == 2)))) : Lr E n ls' (lzp ls i v) := by
  refine ⟨by rw [lzp_len]; exact h.1, lv_mem h' (fun q hq => ?_)⟩
  obtain ⟨w, h1, h2⟩ := mem_asc.mp hq
  rcases lzg_lzp hi h1 with ⟨e1, e2⟩ | ⟨e1, e2, e3⟩
  · subst e2
    rw [← h2, ← e1]
    exact List.mem_cons_self
  · refine List.mem_cons_of_mem _ (List.mem_filter.mpr ⟨mem_asc.mpr ⟨w, e2, h2⟩, ?_⟩)
    simp only [Bool.and_eq_true, Bool.not_eq_true', beq_eq_false_iff_ne, ne_eq]
    refine ⟨e1, ?_⟩
    rw [Bool.and_eq_false_iff]
    by_cases hq : q.1 + 1 = i
    · right
      rw [beq_eq_false_iff_ne]
      intro hc
      rw [h2] at hc
      exact e3 ⟨hq, lzl_of hE (hok _ _ e2) hc⟩
    · left
      rw [beq_eq_false_iff_ne]
      exact hq
theorem Lr.put2 {E : En} (hE : ∀ e, E.2.2.2.2.1 e = .null ∨ ∃ a, E.2.2.2.2.1 e = .ref a) {n : Nat} {lsA ls' : Array Slot} {ls : Lz} {i : Nat} {v : Value} (h : Lr E n lsA ls) (hok : Lok ls) (hi : i + 1 < ls.length) (h' : lv_has ls' n ((i, vmp E v) :: (asc E ls).filter (fun q => !(q.1 == i) && (!(q.1 == i + 1) && !(q.1 + 1 == i && q.2.category == 2))))) : Lr E n ls' ((lzp ls i v).set (i + 1) none) := by
  refine ⟨by rw [List.length_set, lzp_len]; exact h.1, lv_mem h' (fun q hq => ?_)⟩
  obtain ⟨w, h1, h2⟩ := mem_asc.mp hq
  rw [lzg_set] at h1
  by_cases hj : i + 1 = q.1
  · rw [if_pos ⟨hj, by rw [lzp_len]; exact hi⟩] at h1; cases h1
  · rw [if_neg (fun q => hj q.1)] at h1
    rcases lzg_lzp (by omega) h1 with ⟨e1, e2⟩ | ⟨e1, e2, e3⟩
    · subst e2
      rw [← h2, ← e1]
      exact List.mem_cons_self
    · refine List.mem_cons_of_mem _ (List.mem_filter.mpr ⟨mem_asc.mpr ⟨w, e2, h2⟩, ?_⟩)
      simp only [Bool.and_eq_true, Bool.not_eq_true', beq_eq_false_iff_ne, ne_eq]
      refine ⟨e1, fun q => hj q.symm, ?_⟩
      rw [Bool.and_eq_false_iff]
      by_cases hq : q.1 + 1 = i
      · right
        rw [beq_eq_false_iff_ne]
        intro hc
        rw [h2] at hc
        exact e3 ⟨hq, lzl_of hE (hok _ _ e2) hc⟩
      · left
        rw [beq_eq_false_iff_ne]
        exact hq
theorem Lok.put {ls : Lz} {i : Nat} {v : Value} (h : Lok ls) (hi : i < ls.length) (hv : (∃ x, v = .int x) ∨ (∃ x, v = .long x) ∨ v = .null ∨ ∃ x, v = .ref x) : Lok (lzp ls i v) := by
  intro j w hw
  rcases lzg_lzp hi hw with ⟨-, rfl⟩ | ⟨-, e, -⟩
  · exact hv
  · exact h _ _ e
theorem Lok.none {ls : Lz} (h : Lok ls) (i : Nat) : Lok (ls.set i none) := by
  intro j w hw
  rw [lzg_set] at hw
  split at hw
  · cases hw
  · exact h _ _ hw
/-! the picture's cells -/
theorem wsO_get {E : En} {M : Mm} {a : Nat} {q : Nat × Nat} (h : M.1[a]? = some q) : (wsO E M)[a]? = some (E.1 + a, cel E M a q) := by
  unfold wsO
  rw [List.getElem?_mapIdx, h]
  rfl
theorem wsO_D (E : En) (M : Mm) : va_D (eA E) (wsO E M) := by
  have key : ∀ (i : Nat) (p : Nat × va_E), (wsO E M)[i]? = some p → p.1 = E.1 + i := by
    intro i p hp
    unfold wsO at hp
    rw [List.getElem?_mapIdx] at hp
    obtain ⟨q, -, rfl⟩ := Option.map_eq_some_iff.mp hp
    rfl
  refine ⟨fun i j p q hp hq e => ?_, fun k q hk => ?_⟩
  · rw [key i p hp, key j q hq] at e
    omega
  · rw [key k q hk]
    exact Nat.le_add_right _ _
theorem wsO_set {E : En} {M M' : Mm} {a : Nat} {q : Nat × Nat} {e : va_E} (h : M.1[a]? = some q) (h1 : M'.1 = M.1) (he : cel E M' a q = e) (ho : ∀ b, b ≠ a → ∀ q', cel E M' b q' = cel E M b q') : (wsO E M).set a (E.1 + a, e) = wsO E M' := by
  have ha : a < M.1.length := (List.getElem?_eq_some_iff.mp h).1
  apply List.ext_getElem?
  intro b
  rw [List.getElem?_set]
  by_cases hb : a = b
  · subst hb
    rw [if_pos rfl, if_pos (by unfold wsO; rw [List.length_mapIdx]; exact ha), wsO_get (M := M') (by rw [h1]; exact h), he]
  · rw [if_neg hb]
    unfold wsO
    rw [List.getElem?_mapIdx, List.getElem?_mapIdx, h1]
    cases M.1[b]? with
    | none => rfl
    | some q' => simp only [Option.map_some]; rw [ho b (fun h => hb h.symm)]
theorem up2_ne {α : Type} {f : Nat → Nat → α} {a b k : Nat} {v : α} (h : b ≠ a) : up2 f a k v b = f b := by unfold up2; rw [if_neg h]
theorem up2_eq {α : Type} {f : Nat → Nat → α} {a k : Nat} {v : α} : up2 f a k v a = fun y => if y = k then v else f a y := by unfold up2; rw [if_pos rfl]
theorem up1_ne {α : Type} {f : Nat → Nat → α} {a b : Nat} {g : Nat → α} (h : b ≠ a) : up1 f a g b = f b := by unfold up1; rw [if_neg h]
theorem up1_eq {α : Type} {f : Nat → Nat → α} {a : Nat} {g : Nat → α} : up1 f a g a = g := by unfold up1; rw [if_pos rfl]
theorem cel_cong {E : En} {M M' : Mm} {b : Nat} (h1 : M'.2.1 b = M.2.1 b) (h2 : M'.2.2.1 b = M.2.2.1 b) (h3 : M'.2.2.2 b = M.2.2.2 b) (q : Nat × Nat) : cel E M' b q = cel E M b q := by
  unfold cel fsv
  rw [h1, h2, h3]
theorem cel_wI {E : En} {M : Mm} {a k : Nat} {v : Int32} (b : Nat) (h : b ≠ a) (q : Nat × Nat) : cel E (wI M a k v) b q = cel E M b q := cel_cong (M := M) (M' := wI M a k v) (up2_ne h) rfl rfl q
theorem cel_wL {E : En} {M : Mm} {a k : Nat} {v : Int64} (b : Nat) (h : b ≠ a) (q : Nat × Nat) : cel E (wL M a k v) b q = cel E M b q := cel_cong (M := M) (M' := wL M a k v) rfl (up2_ne h) rfl q
theorem cel_wR {E : En} {M : Mm} {a k : Nat} {v : Option Nat} (b : Nat) (h : b ≠ a) (q : Nat × Nat) : cel E (wR M a k v) b q = cel E M b q := cel_cong (M := M) (M' := wR M a k v) rfl rfl (up2_ne h) q
theorem cel_wA {E : En} {M : Mm} {a : Nat} {g : Nat → Int32} (b : Nat) (h : b ≠ a) (q : Nat × Nat) : cel E (wA M a g) b q = cel E M b q := cel_cong (M := M) (M' := wA M a g) (up1_ne h) rfl rfl q
