theorem zn_nI (a : Nat) : zi (a : Int) = nI a := by
  unfold zi nI
  first | exact Int32.ofInt_eq_ofNat | (apply Int32.toBitVec_inj.mp; show BitVec.ofInt 32 (a : Int) = BitVec.ofNat 32 a; exact BitVec.ofInt_natCast 32 a) | (apply Int32.toBitVec_inj.mp; show BitVec.ofInt 32 (a : Int) = BitVec.ofNat 32 a; simp)
theorem zn_bv (a : Nat) : (zi (a : Int)).toBitVec = BitVec.ofNat 32 a := by
  rw [zn_nI]; rfl
theorem zn_or (a b : Nat) : zi (a : Int) ||| zi (b : Int) = zi ((a ||| b : Nat) : Int) := by
  apply Int32.toBitVec_inj.mp
  rw [Int32.toBitVec_or, zn_bv, zn_bv, zn_bv]
  apply BitVec.eq_of_getLsbD_eq
  intro i hi
  simp [BitVec.getLsbD_ofNat, hi]
theorem zn_and (a b : Nat) : zi (a : Int) &&& zi (b : Int) = zi ((a &&& b : Nat) : Int) := by
  apply Int32.toBitVec_inj.mp
  rw [Int32.toBitVec_and, zn_bv, zn_bv, zn_bv]
  apply BitVec.eq_of_getLsbD_eq
  intro i hi
  simp [BitVec.getLsbD_ofNat, hi]
def p2 (k : Int) : Int := 2 ^ k.toNat
theorem p2_s : ∀ k : Nat, k < 31 → (1 : Int32) <<< (nI k &&& 31) = nI (2 ^ k) := by decide +kernel
theorem zn_shl {k : Int} (h : 0 ≤ k ∧ k < 31) : zi 1 <<< (zi k &&& 31) = zi (p2 k) := by
  obtain ⟨n, rfl⟩ : ∃ n : Nat, k = n := ⟨k.toNat, by omega⟩
  rw [zn_nI n]
  have h1 := p2_s n (by omega)
  have e : zi (p2 n) = nI (2 ^ n) := by
    unfold p2
    rw [← zn_nI]; simp
  rw [e]; exact h1
theorem s32_l : ∀ n, n < 32 → ((nI n &&& 31).toBitVec.smod 32).toNat = n := by decide +kernel
theorem zn_shr {a k : Nat} (ha : a < 2147483648) (hk : k < 32) : zi (a : Int) >>> (zi (k : Int) &&& 31) = zi ((a / 2 ^ k : Nat) : Int) := by
  rw [zn_nI, zn_nI, zn_nI]
  exact pk_shrN ha _ k (s32_l k hk)
theorem p2_nat (k : Nat) : p2 k = ((2 ^ k : Nat) : Int) := by unfold p2; simp
