theorem up_com (x : Me) {i i2 : Nat} (j j2 v w : Int) (h : i ≠ i2) : up (up x i j v) i2 j2 w = up (up x i2 j2 w) i j v := by
  funext a b; unfold up
  by_cases h1 : a = i2 ∧ b = j2
  · rw [if_pos h1, if_neg (by omega), if_pos h1]
  · rw [if_neg h1]
    by_cases h2 : a = i ∧ b = j
    · rw [if_pos h2, if_pos h2]
    · rw [if_neg h2, if_neg h2, if_neg h1]
theorem gI_z {S : List Int} {v : Int} : (S ++ [v]).getD S.length 0 = v := by
  rw [List.getD_eq_getElem?_getD]; simp
theorem WK_e1 {u : Me} {n p v w : Int} {H : Int → Int} (h : WK (up u 54 p w) n H) : WK (up (up u 54 p v) 54 p w) n H := by rw [up_up]; exact h
theorem WK_e2 {u : Me} {n p v w c d : Int} {H : Int → Int} (h : WK (up u 54 p w) n H) : WK (up (up (up u 54 p v) 56 c d) 54 p w) n H := by
  rw [up_com _ _ _ _ _ (by omega), up_up]
  exact WK_of h (by rw [up_i _ _ _ (by omega)]) (up_i _ _ _ (by omega))
theorem chl_r {n p : Int} {G : Int → Int} (hn : n * n ≤ 16) (j : Nat) : 0 ≤ (chl n G p).getD j 0 ∧ (chl n G p).getD j 0 ≤ 999 := by
  by_cases h : j < (chl n G p).length
  · have h2 : 1 ≤ (chl n G p).getD j 0 ∧ (chl n G p).getD j 0 ≤ ((n * n).toNat : Int) := (ch_mem (N := (n * n).toNat) (gI_m h)).1
    omega
  · rw [List.getD_eq_getElem?_getD, List.getElem?_eq_none (by omega)]
    exact ⟨Int.le_refl _, by decide⟩
