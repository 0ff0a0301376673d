/-- a figure of the model stands in the memory -/
def MG (x : Me) (q : Int) : Prop := (0 ≤ q ∧ q < 8) ∧ (1 ≤ x 51 q ∧ x 51 q ≤ 9) ∧ ∀ p, 0 ≤ p → p < 81 → 0 ≤ x 52 (81 * q + p) ∧ x 52 (81 * q + p) ≤ 999
def MS (x : Me) : Prop := (0 ≤ x 50 1 ∧ x 50 1 ≤ 8) ∧ ∀ q, 0 ≤ q → q < x 50 1 → MG x q
theorem nd_rng {x : Me} {q : Int} (h : MG x q) (p : Int) : 0 ≤ nd x q p ∧ nd x q p ≤ 999 := by
  unfold nd; split
  · next h1 => exact h.2.2 p h1.1 h1.2
  · omega
