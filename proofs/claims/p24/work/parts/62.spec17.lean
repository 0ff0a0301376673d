theorem gvs_r {d : Int → Int} {al : Int} (ha : 0 ≤ al) : ∀ k : Nat, (k : Int) ≤ al + 1 → 0 ≤ gvs d al k ∧ gvs d al k ≤ al := by
  intro k
  induction k with
  | zero => intro _; exact ⟨ha, Int.le_refl _⟩
  | succ k ih =>
    intro hk
    have := ih (by omega)
    rw [gvs]; split
    · omega
    · exact this
theorem gvF_r {n : Int} {f : Int → Int} (h : 1 ≤ n ∧ n ≤ 3) : 0 ≤ gvF n f ∧ gvF n f < 512 := by
  have h1 : n = 1 ∨ n = 2 ∨ n = 3 := by omega
  have hp : 1 ≤ p2 (n * n) ∧ p2 (n * n) ≤ 512 := p2_9 (by rcases h1 with rfl | rfl | rfl <;> decide)
  have := gvs_r (d := fun m => dfA n f m (n * n).toNat) (al := p2 (n * n) - 1) (by omega) (p2 (n * n) - 1).toNat (by omega)
  unfold gvF
  omega
/-- a new figure in the memory -/
theorem adF_all {x : Me} {s : Int} {k : Nat} (hS : HS x) (hk : x 0 5 = k) (h8 : x 0 5 < 8) (hs : 1 ≤ s ∧ s ≤ 9) : adF x s 0 5 = x 0 5 + 1 ∧ adF x s (10 + k) 1 = s ∧ (∀ p, 0 ≤ p → p < 81 → adF x s (20 + k) p = 0) ∧ (∀ a, a ≠ 0 → a ≠ 10 + k → a ≠ 20 + k → adF x s a = x a) ∧ HS (adF x s) := by
  have hk2 : (x 0 5).toNat = k := by omega
  have hS1 := hS.1
  have e1 : adF x s 0 5 = x 0 5 + 1 := by unfold adF; rw [up_s]
  have hcl : ∀ (y : Me) (a c : Nat), a ≠ c → clr y c 81 a = y a := fun y a c h => by funext b; unfold clr; rw [if_neg (fun q => h q.1)]
  have e2 : adF x s (10 + k) 1 = s := by unfold adF; rw [hk2, up_i _ _ _ (by omega), hcl _ _ _ (by omega), up_s]
  have e3 : ∀ p, 0 ≤ p → p < 81 → adF x s (20 + k) p = 0 := fun p a b => by unfold adF; rw [hk2, up_i _ _ _ (by omega)]; unfold clr; rw [if_pos ⟨rfl, a, b⟩]
  have e4 : ∀ a, a ≠ 0 → a ≠ 10 + k → a ≠ 20 + k → adF x s a = x a := fun a a1 a2 a3 => by unfold adF; rw [hk2, up_i _ _ _ a1, hcl _ _ _ a3, up_i _ _ _ a2]
  refine ⟨e1, e2, e3, e4, ⟨by omega, fun q hq => ?_⟩⟩
  by_cases e : q = k
  · subst e
    exact ⟨by omega, by rw [e2]; exact hs, fun p a b => by rw [e3 p a b]; omega⟩
  · exact FG_of (hS.2 q (by omega)) (e4 _ (by omega) (by omega) (by omega)) (e4 _ (by omega) (by omega) (by omega))
