/-! act: its ends, both sides alike -/
section
variable {c q m n D H B l h : Nat} {X Y : Nat → Nat → Int32}
theorem actK_ne (X : Nat → Nat → Int32) {a : Nat} (h1 : a ≠ 1) (h2 : a ≠ 39) (h3 : a ≠ 40) : actK X a = X a := by
  unfold actK
  rw [up2_ne h2, up2_ne h2, up2_ne h2, up2_ne h2, up1_ne h3, up2_ne h2, up2_ne h2, up2_ne h2, up2_ne h2, actJ_ne X h1]
theorem actK_1 (X : Nat → Nat → Int32) : actK X 1 = actJ X 1 := by
  unfold actK
  rw [up2_ne (by decide), up2_ne (by decide), up2_ne (by decide), up2_ne (by decide), up1_ne (by decide), up2_ne (by decide), up2_ne (by decide), up2_ne (by decide), up2_ne (by decide)]
theorem actJ_1 (X : Nat → Nat → Int32) {j : Nat} (h0 : j ≠ 10) (h1 : j ≠ 11) (h2 : j ≠ 12) : actJ X 1 j = X 1 j := by
  unfold actJ
  rw [wup2_at, if_neg h0, wup2_at, if_neg h2, wup2_at, if_neg h1]
theorem actQ_ne (X : Nat → Nat → Int32) {a : Nat} (h1 : a ≠ 1) (h2 : a ≠ 39) (h3 : a ≠ 40) : actQ X a = X a := by
  unfold actQ
  rw [up2_ne h1, up2_ne h1, actK_ne X h1 h2 h3]
theorem actQ_1 (X : Nat → Nat → Int32) {j : Nat} (h0 : j ≠ 10) (h1 : j ≠ 11) (h2 : j ≠ 12) : actQ X 1 j = X 1 j := by
  unfold actQ
  rw [wup2_at, if_neg h2, wup2_at, if_neg h1, actK_1, actJ_1 X h0 h1 h2]
theorem actQ_10 (X : Nat → Nat → Int32) : actQ X 1 10 = 0 := by
  unfold actQ
  rw [wup2_at, if_neg (by decide), wup2_at, if_neg (by decide), actK_1]; rfl
theorem actQ_11 (X : Nat → Nat → Int32) : actQ X 1 11 = (rdS (actJ X) (X 1 10)).1 := by
  unfold actQ
  rw [wup2_at, if_neg (by decide), wup2_at, if_pos rfl]
theorem actQ_12 (X : Nat → Nat → Int32) : actQ X 1 12 = (rdS (actJ X) (X 1 10)).2.1 := by
  unfold actQ
  rw [wup2_at, if_pos rfl]
theorem actQ_40 (X : Nat → Nat → Int32) : actQ X 40 = (rdS (actJ X) (X 1 10)).2.2.2.1 := by
  unfold actQ actK
  rw [up2_ne (by decide), up2_ne (by decide), up2_ne (by decide), up2_ne (by decide), up2_ne (by decide), up2_ne (by decide), up1_at]
theorem yaK_ne (I : Nat → Nat → Int32) {a : Nat} (h : a ≠ 61) (h2 : a < 115 ∨ 120 < a) : yaK I a = I a := by
  rw [yaK_eq]; exact ktw_ne h h2
theorem St.actOutE (z : St c q m n D H B l h X Y) (x : Int32) : (Y 104 0 = 4 ↔ (4 : Int32) ≤ X 1 3) ∧ (isDay Y x = 0 ↔ ¬ outside X x 0 9999 = 0) := by
  have h4 := z.hq.2.2.2.2.2
  refine ⟨?_, ?_⟩
  · rw [z.hy.2.2.1, z.hq.2.2.2.2.1, Int32.le_iff_toInt_le, ← Int32.toInt_inj, nI_toInt (by omega), toI_4]; omega
  · exact inR_o Y X x 0 9999
/-- -2: too many ACTS, or no such day -/
theorem St.actNo (z : St c q m n D H B l h X Y) : St (c + 1) q m n D H B 0 h (actJ X) (yaJ Y) ∧ FX X (actJ X) ∧ FY Y (yaJ Y) := by
  refine ⟨z.actS (fun a _ h1 => actJ_ne X h1) (fun a h1 h2 h3 h4 h5 => yaJ_ne Y (by omega) h3 h4 h5) (fun j h0 h1 h2 => actJ_1 X h0 h1 h2) rfl rfl rfl rfl, fun a ha => actJ_ne X (by omega), fun a ha => yaJ_ne Y (by omega) (by omega) (by omega) (by omega), fun a j h1 h2 h3 => ?_⟩
  unfold yaJ
  have n3 : nn 63 = 1 := rfl
  have n4 : nn 64 = 1 := rfl
  have n5 : nn 65 = 1 := rfl
  by_cases e5 : a = 65
  · subst e5
    rw [wup2_at, if_neg (by omega), up2_ne (by omega), up2_ne (by omega), up2_ne (by omega), up2_ne (by omega)]
  rw [up2_ne e5]
  by_cases e4 : a = 64
  · subst e4
    rw [wup2_at, if_neg (by omega), up2_ne (by omega), up2_ne (by omega), up2_ne (by omega)]
  rw [up2_ne e4]
  by_cases e3 : a = 63
  · subst e3
    rw [wup2_at, if_neg (by omega), up2_ne (by omega), up2_ne (by omega)]
  rw [up2_ne e3, up2_ne (by omega), up2_ne (by omega)]
theorem yaK_fy (Y : Nat → Nat → Int32) (h : FY Y (yaJ Y)) : FY Y (yaK (yaJ Y)) := by
  refine ⟨fun a ha => ?_, fun a j h1 h2 h3 => ?_⟩
  · rw [yaK_ne _ (by omega) (by omega)]; exact h.1 a ha
  · rw [yaK_ne _ (by omega) (by omega)]; exact h.2 a j h1 h2 h3
/-- -1: a fault -/
theorem St.actBad (z : St c q m n D H B l h X Y) {f p : Int32} (hf : f = (rdS (actJ X) (X 1 10)).1) (hp : p = (rdS (actJ X) (X 1 10)).2.1) : St (c + 1) q m n D H B 0 h (actQ X) (up2 (up2 (yaK (yaJ Y)) 64 0 f) 65 0 p) ∧ FX X (actQ X) ∧ FY Y (up2 (up2 (yaK (yaJ Y)) 64 0 f) 65 0 p) := by
  refine ⟨z.actS (fun a h0 h1 => actQ_ne X h1 (by omega) (by omega)) (fun a h1 h2 h3 h4 h5 => ?_) (fun j h0 h1 h2 => actQ_1 X h0 h1 h2) (actQ_10 X) ?_ ?_ ?_, fun a ha => actQ_ne X (by omega) (by omega) (by omega), ((yaK_fy Y z.actNo.2.2).u2 (by right; right; decide) _).u2 (by right; right; decide) _⟩
  · rw [up2_ne h5, up2_ne h4, yaK_ne _ (by omega) (by omega), yaJ_ne Y (by omega) h3 h4 h5]
  · rw [up2_ne (by decide), up2_ne (by decide), yaK_ne _ (by decide) (by decide)]; rfl
  · rw [up2_ne (by decide), up2_at, actQ_11, hf]
  · rw [up2_at, actQ_12, hp]
theorem St.nUp (z : St c q m n D H B l h X Y) (hn : n < 4) : St c q m (n + 1) D H B l h (up2 X 1 3 (nI (n + 1))) (up2 Y 104 0 (nI (n + 1))) := by
  obtain ⟨⟨a1, a2, a3, a4, a5, a6, a7, a8, a9, a10, a11, a12, a13, a14, a15, a16, a17, a18, a19, a20, a21, a22, a23, a24, a25⟩, hp, hd, hl, ht, hh⟩ := z
  exact ⟨⟨a1, a2, rfl, a4, a5, a6, a7, a8, a9, a10, by omega, a12, a13, a14, a15, a16, rfl, a18, a19, a20, a21, a22, a23, a24, a25⟩, hp, hd, hl, ht, hh⟩
end
