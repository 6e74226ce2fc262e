/-! THE START: both constructors -/
def SR (M M' : Mm) : Prop := M.1 = M'.1 ∧ M.2.2.2 = M'.2.2.2
theorem SR.new {M M' : Mm} (h : SR M M') (t n : Nat) : SR (mNew M t n) (mNew M' t n) := by
  unfold mNew
  exact ⟨by show M.1 ++ _ = M'.1 ++ _; rw [h.1], by show up1 M.2.2.2 M.1.length _ = up1 M'.2.2.2 M'.1.length _; rw [h.1, h.2]⟩
theorem SR.wR {M M' : Mm} (h : SR M M') (a k : Nat) {v v' : Option Nat} (e : v = v') : SR (wR M a k v) (wR M' a k v') := ⟨h.1, by show up2 M.2.2.2 a k v = up2 M'.2.2.2 a k v'; rw [h.2, e]⟩
theorem SR.wI {M M' : Mm} (h : SR M M') (a a' k : Nat) (v : Int32) : SR (wI M a k v) (wI M' a' k v) := ⟨h.1, h.2⟩
theorem SR.ctor (x : Nat) : ∀ (l : List (Nat × Nat × Nat)) {M M' : Mm}, SR M M' → SR (ctorM x l M) (ctorM x l M') := by
  intro l
  induction l with
  | nil => intro M M' h; exact h
  | cons p t ih => intro M M' h; exact ih ((h.new p.1 p.2.1).wR x p.2.2 (by rw [h.1]))
theorem SR.aN {M M' : Mm} (h : SR M M') (x f t n : Nat) : SR (aNew x f t n M) (aNew x f t n M') := (h.new t n).wR x f (by rw [h.1])
theorem SR.oN {M M' : Mm} (h : SR M M') (x f t n : Nat) (l : List (Nat × Nat × Nat)) : SR (oNew x f t n l M) (oNew x f t n l M') := by
  unfold oNew
  rw [h.1]
  exact (SR.ctor _ l (h.new t n)).wR x f rfl
theorem SR.house {M M' : Mm} (h : SR M M') (x : Nat) : SR (houseM x M) (houseM x M') := SR.ctor x _ ((SR.ctor x _ (((h.oN x 0 16 14 ct_people).oN x 1 11 16 ct_debts).aN x 2 5 4)).wI x x 12 (-1))
theorem SR.hN {M M' : Mm} (h : SR M M') (x f : Nat) : SR (hNew x f M) (hNew x f M') := by
  unfold hNew
  rw [h.1]
  exact ((h.new 13 15).house _).wR x f rfl
theorem SR.cls {M M' : Mm} (h : SR M M') (x : Nat) : SR (classM x M) (classM x M') := ((((((((h.hN x 0).aN x 1 4 3).oN x 2 14 1 ct_law).oN x 3 17 10 ct_reader).oN x 4 18 1 ct_rings).oN x 5 20 10 ct_vote).oN x 6 19 10 ct_swing).oN x 7 15 3 ct_parting).oN x 8 12 8 ct_freeing
theorem SR.mdl {M M' : Mm} (h : SR M M') (x : Nat) : SR (modelM x M) (modelM x M') := (SR.ctor x ct_model h).wI _ _ 0 (-1)
/-- the memory behind both constructors -/
def stM (Ls : Nat) (xs : Nat → Int32) : Mm := modelM 61 (mNew (classM 0 (mNew (lwM Ls xs) 21 9)) 22 80)
theorem stM_SR (Ls : Nat) (xs : Nat → Int32) : SR (stM Ls xs) (stM 0 (fun _ => 0)) := (((show SR (lwM Ls xs) (lwM 0 (fun _ => 0)) from ⟨rfl, rfl⟩).new 21 9).cls 0 |>.new 22 80).mdl 61
set_option maxRecDepth 20000 in
theorem stM_0 : (stM 0 (fun _ => 0)).1 = Sst := by decide +kernel
def rfck : Bool := (List.range 131).all fun a => (List.range 80).all fun k => match rfz[a]? with
  | some row => (match row[k]? with
    | some (some z) => decide ((stM 0 (fun _ => 0)).2.2.2 a k = some z)
    | _ => true)
  | none => true
set_option maxRecDepth 20000 in
theorem rfck_t : rfck = true := by decide +kernel
theorem rfz_80 : ∀ row ∈ rfz, row.length ≤ 80 := by decide +kernel
set_option maxRecDepth 20000 in
theorem stM_n : (∀ a, a < 4 → (stM 0 (fun _ => 0)).2.2.2 32 a = none) ∧ ∀ k, k < 3 → (stM 0 (fun _ => 0)).2.2.2 36 k = none := by decide +kernel
