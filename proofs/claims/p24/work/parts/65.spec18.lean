def KN (x : Me) (q r : Nat) : Prop := ∃ form, 0 ≤ form ∧ form < 8 ∧ x (10 + q) 1 = x (10 + r) 1 ∧ isF (x (10 + q) 1) (nc x q) form (nc x r)
theorem tol_r {s : Int} (hs : -2147483648 ≤ s ∧ s < 2147483648) (h : (zi s &&& zi (-63)).toInt = 0) : 0 ≤ s ∧ s < 64 := by
  have h0 : zi s &&& zi (-63) = 0 := by
    have := zi_all (zi s &&& zi (-63)); rw [h] at this; exact this.symm
  have h1 : (zi s).toBitVec &&& (zi (-63)).toBitVec = 0#32 := by
    have := congrArg Int32.toBitVec h0; exact this
  have h2 : (zi s).toBitVec.toNat < 2 ^ 6 := by
    refine Nat.lt_pow_two_of_testBit _ (fun i hi => ?_)
    rw [BitVec.testBit_toNat]
    by_cases h3 : i < 32
    · have h4 : ((zi s).toBitVec &&& (zi (-63)).toBitVec).getLsbD i = false := by rw [h1]; simp
      rw [BitVec.getLsbD_and] at h4
      have h5 : (zi (-63)).toBitVec.getLsbD i = true := by
        have h6 : ∀ j : Fin 32, 6 ≤ j.val → (zi (-63)).toBitVec.getLsbD j.val = true := by decide +kernel
        exact h6 ⟨i, h3⟩ hi
      rw [h5, Bool.and_true] at h4
      exact h4
    · exact BitVec.getLsbD_of_ge _ _ (by omega)
  have h7 : (zi s).toInt = s := zi_toInt hs
  have h8 : (zi s).toInt = (zi s).toBitVec.toInt := rfl
  rw [BitVec.toInt_eq_toNat_of_lt (by omega)] at h8
  omega
