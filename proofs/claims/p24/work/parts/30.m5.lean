

theorem hig_rng {f : Int → Int} (hf : FR f) (k : Nat) : 0 ≤ hig f k ∧ hig f k ≤ 999 := by
  induction k with
  | zero => simp [hig]
  | succ k ih => have := hf k; rw [hig]; omega




theorem prd_b {n m r c : Int} (hn : 1 ≤ n ∧ n ≤ 9) (hm : 1 ≤ m ∧ m ≤ 9) (hr : 0 ≤ r ∧ r < n * m) (hc : 0 ≤ c ∧ c < n * m) : (0 ≤ r / m ∧ r / m < n) ∧ (0 ≤ c / m ∧ c / m < n) ∧ (0 ≤ r % m ∧ r % m < m) ∧ (0 ≤ c % m ∧ c % m < m) ∧ (0 ≤ n * (r / m) + c / m ∧ n * (r / m) + c / m < n * n) ∧ 0 ≤ m * (r % m) + c % m ∧ m * (r % m) + c % m < m * m := by
  have a1 := Int.ediv_nonneg hr.1 (show 0 ≤ m by omega)
  have a2 := Int.ediv_lt_of_lt_mul (show 0 < m by omega) hr.2
  have a3 := Int.ediv_nonneg hc.1 (show 0 ≤ m by omega)
  have a4 := Int.ediv_lt_of_lt_mul (show 0 < m by omega) hc.2
  have hm1 : ∀ v : Int, 0 ≤ v % m ∧ v % m < m := fun v => ⟨Int.emod_nonneg v (by omega), Int.emod_lt_of_pos v (by omega)⟩
  have b1 := pl9 hn ⟨a1, a2⟩ ⟨a3, a4⟩
  have b2 := pl9 hm (hm1 r) (hm1 c)
  exact ⟨⟨a1, a2⟩, ⟨a3, a4⟩, hm1 r, hm1 c, ⟨b1.1, b1.2.1⟩, b2.1, b2.2.1⟩

