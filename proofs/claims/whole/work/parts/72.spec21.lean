/-- behind the model's laying of what is made: a new figure of it -/
def LY (x y : Me) (s : Int) : Prop := y 50 1 = x 50 1 + 1 ∧ y 51 (x 50 1) = s ∧ (∀ j, 0 ≤ j → j < 81 → y 52 (81 * x 50 1 + j) = if j < s * s then x 53 j else 0) ∧ (∀ q, q ≠ x 50 1 → y 51 q = x 51 q) ∧ (∀ i, ¬ (81 * x 50 1 ≤ i ∧ i < 81 * x 50 1 + 81) → y 52 i = x 52 i) ∧ (∀ b, b ≠ 1 → y 50 b = x 50 b) ∧ ∀ a, a ≠ 50 → a ≠ 51 → a ≠ 52 → y a = x a
theorem LY_MS {x y : Me} {s : Int} (h : LY x y s) (hM : MS x) (h8 : x 50 1 < 8) (hs : 1 ≤ s ∧ s ≤ 9) (hm : ∀ j, 0 ≤ j → j < 81 → 0 ≤ x 53 j ∧ x 53 j ≤ 999) : MS y := by
  obtain ⟨e1, e2, e3, e4, e5, -, -⟩ := h
  have hM1 := hM.1
  refine ⟨by omega, fun q a b => ?_⟩
  by_cases e : q = x 50 1
  · subst e
    refine ⟨by omega, by rw [e2]; exact hs, fun p c d => ?_⟩
    rw [e3 p c d]; split
    · exact hm p c d
    · omega
  · have h1 := hM.2 q a (by omega)
    refine ⟨h1.1, by rw [e4 q e]; exact h1.2.1, fun p c d => ?_⟩
    rw [e5 _ (by omega)]; exact h1.2.2 p c d
theorem LY_nd {x y : Me} {s q : Int} (h : LY x y s) (hM : MS x) (hq : 0 ≤ q ∧ q < x 50 1) : nd y q = nd x q := by
  obtain ⟨e1, e2, e3, e4, e5, -, -⟩ := h
  funext p; unfold nd; split
  · exact e5 _ (by omega)
  · rfl
theorem LY_new {x y : Me} {s : Int} (h : LY x y s) : nd y (x 50 1) = fun p => if 0 ≤ p ∧ p < 81 then (if p < s * s then x 53 p else 0) else 0 := by
  obtain ⟨e1, e2, e3, -, -, -, -⟩ := h
  funext p; unfold nd; split
  · next a => exact e3 p a.1 a.2
  · rfl
