theorem emp_cnt (g : Int → Int) (N : Nat) : ((emp g N).length : Int) = sm (fun p => if g p = 0 then 1 else 0) N := by
  induction N with
  | zero => rfl
  | succ N ih =>
    rw [emp, List.length_append, sm, ← ih]
    by_cases h : g (N : Int) = 0
    · rw [if_pos h, if_pos h]; simp
    · rw [if_neg h, if_neg h]; simp
theorem emp_9 {n : Int} {f : Int → Int} (h : cnt n f 0 ≤ 9) : (emp f (n * n).toNat).length ≤ 9 := by
  have := emp_cnt f (n * n).toNat
  unfold cnt at h
  omega
def mby (ch n : Int) : Int := if ch = 0 then 3 else if ch = 1 then 1 else if ch = 2 then 1998 else n - 1
theorem mby_r {ch n : Int} (hn : 1 ≤ n ∧ n ≤ 9) : (ch = 0 → mby ch n = 3) ∧ (ch = 1 → mby ch n = 1) ∧ (ch = 2 → mby ch n = 1998) ∧ (ch ≠ 0 → ch ≠ 1 → ch ≠ 2 → mby ch n = n - 1) ∧ 0 ≤ mby ch n ∧ mby ch n ≤ 1998 := by
  unfold mby
  by_cases h0 : ch = 0
  · rw [if_pos h0]; omega
  · rw [if_neg h0]
    by_cases h1 : ch = 1
    · rw [if_pos h1]; omega
    · rw [if_neg h1]
      by_cases h2 : ch = 2
      · rw [if_pos h2]; omega
      · rw [if_neg h2]; omega
/-- what a change makes of a figure -/
def cha (n : Int) (f : Int → Int) (ch b : Int) : Int → Int := if ch = 2 then cpf n f b else mvf n f ch b
theorem cha_2 {n : Int} {f : Int → Int} {ch b : Int} (h : ch = 2) : cha n f ch b = cpf n f b := if_pos h
theorem cha_n {n : Int} {f : Int → Int} {ch b : Int} (h : ch ≠ 2) : cha n f ch b = mvf n f ch b := if_neg h
