theorem dim_6_0 : dimM 6 (2 * ((0 : Nat) : Int)) = dimS 6 (2 * ((0 : Nat) : Int)) := by decide +kernel
theorem dim_6_1 : dimM 6 (2 * ((1 : Nat) : Int)) = dimS 6 (2 * ((1 : Nat) : Int)) := by decide +kernel
theorem dim_6_2 : dimM 6 (2 * ((2 : Nat) : Int)) = dimS 6 (2 * ((2 : Nat) : Int)) := by decide +kernel
theorem dim_6_3 : dimM 6 (2 * ((3 : Nat) : Int)) = dimS 6 (2 * ((3 : Nat) : Int)) := by decide +kernel
theorem dim_6_4 : dimM 6 (2 * ((4 : Nat) : Int)) = dimS 6 (2 * ((4 : Nat) : Int)) := by decide +kernel
theorem dim_6_5 : dimM 6 (2 * ((5 : Nat) : Int)) = dimS 6 (2 * ((5 : Nat) : Int)) := by decide +kernel
theorem dim_6_6 : dimM 6 (2 * ((6 : Nat) : Int)) = dimS 6 (2 * ((6 : Nat) : Int)) := by decide +kernel
theorem dim_6_7 : dimM 6 (2 * ((7 : Nat) : Int)) = dimS 6 (2 * ((7 : Nat) : Int)) := by decide +kernel
theorem dim_6_8 : dimM 6 (2 * ((8 : Nat) : Int)) = dimS 6 (2 * ((8 : Nat) : Int)) := by decide +kernel
theorem dim_6_9 : dimM 6 (2 * ((9 : Nat) : Int)) = dimS 6 (2 * ((9 : Nat) : Int)) := by decide +kernel
theorem dim_6_10 : dimM 6 (2 * ((10 : Nat) : Int)) = dimS 6 (2 * ((10 : Nat) : Int)) := by decide +kernel
theorem dim_6_11 : dimM 6 (2 * ((11 : Nat) : Int)) = dimS 6 (2 * ((11 : Nat) : Int)) := by decide +kernel
theorem dim_6_12 : dimM 6 (2 * ((12 : Nat) : Int)) = dimS 6 (2 * ((12 : Nat) : Int)) := by decide +kernel
theorem dim_6_13 : dimM 6 (2 * ((13 : Nat) : Int)) = dimS 6 (2 * ((13 : Nat) : Int)) := by decide +kernel
theorem dim_6_14 : dimM 6 (2 * ((14 : Nat) : Int)) = dimS 6 (2 * ((14 : Nat) : Int)) := by decide +kernel
theorem dim_6_15 : dimM 6 (2 * ((15 : Nat) : Int)) = dimS 6 (2 * ((15 : Nat) : Int)) := by decide +kernel
theorem dim_6_16 : dimM 6 (2 * ((16 : Nat) : Int)) = dimS 6 (2 * ((16 : Nat) : Int)) := by decide +kernel
theorem dim_6_17 : dimM 6 (2 * ((17 : Nat) : Int)) = dimS 6 (2 * ((17 : Nat) : Int)) := by decide +kernel
theorem dim_6_18 : dimM 6 (2 * ((18 : Nat) : Int)) = dimS 6 (2 * ((18 : Nat) : Int)) := by decide +kernel
theorem dim_6_19 : dimM 6 (2 * ((19 : Nat) : Int)) = dimS 6 (2 * ((19 : Nat) : Int)) := by decide +kernel
theorem dim_6_20 : dimM 6 (2 * ((20 : Nat) : Int)) = dimS 6 (2 * ((20 : Nat) : Int)) := by decide +kernel
theorem dim_6_21 : dimM 6 (2 * ((21 : Nat) : Int)) = dimS 6 (2 * ((21 : Nat) : Int)) := by decide +kernel
theorem dim_6_22 : dimM 6 (2 * ((22 : Nat) : Int)) = dimS 6 (2 * ((22 : Nat) : Int)) := by decide +kernel
theorem dim_6_23 : dimM 6 (2 * ((23 : Nat) : Int)) = dimS 6 (2 * ((23 : Nat) : Int)) := by decide +kernel
theorem dim_6_24 : dimM 6 (2 * ((24 : Nat) : Int)) = dimS 6 (2 * ((24 : Nat) : Int)) := by decide +kernel
theorem dim_6_25 : dimM 6 (2 * ((25 : Nat) : Int)) = dimS 6 (2 * ((25 : Nat) : Int)) := by decide +kernel
theorem dim_6_26 : dimM 6 (2 * ((26 : Nat) : Int)) = dimS 6 (2 * ((26 : Nat) : Int)) := by decide +kernel
theorem dim_6_27 : dimM 6 (2 * ((27 : Nat) : Int)) = dimS 6 (2 * ((27 : Nat) : Int)) := by decide +kernel
theorem dim_6_28 : dimM 6 (2 * ((28 : Nat) : Int)) = dimS 6 (2 * ((28 : Nat) : Int)) := by decide +kernel
theorem dim_6_29 : dimM 6 (2 * ((29 : Nat) : Int)) = dimS 6 (2 * ((29 : Nat) : Int)) := by decide +kernel
theorem dim_6_30 : dimM 6 (2 * ((30 : Nat) : Int)) = dimS 6 (2 * ((30 : Nat) : Int)) := by decide +kernel
theorem dim_6_31 : dimM 6 (2 * ((31 : Nat) : Int)) = dimS 6 (2 * ((31 : Nat) : Int)) := by decide +kernel
theorem dim_6 (k : Fin 32) : dimM 6 (2 * k.val) = dimS 6 (2 * k.val) := by
  obtain ⟨k, hk⟩ := k
  have h : k = 0 ∨ k = 1 ∨ k = 2 ∨ k = 3 ∨ k = 4 ∨ k = 5 ∨ k = 6 ∨ k = 7 ∨ k = 8 ∨ k = 9 ∨ k = 10 ∨ k = 11 ∨ k = 12 ∨ k = 13 ∨ k = 14 ∨ k = 15 ∨ k = 16 ∨ k = 17 ∨ k = 18 ∨ k = 19 ∨ k = 20 ∨ k = 21 ∨ k = 22 ∨ k = 23 ∨ k = 24 ∨ k = 25 ∨ k = 26 ∨ k = 27 ∨ k = 28 ∨ k = 29 ∨ k = 30 ∨ k = 31 := by omega
  rcases h with rfl | rfl | rfl | rfl | rfl | rfl | rfl | rfl | rfl | rfl | rfl | rfl | rfl | rfl | rfl | rfl | rfl | rfl | rfl | rfl | rfl | rfl | rfl | rfl | rfl | rfl | rfl | rfl | rfl | rfl | rfl | rfl
  · exact dim_6_0
  · exact dim_6_1
  · exact dim_6_2
  · exact dim_6_3
  · exact dim_6_4
  · exact dim_6_5
  · exact dim_6_6
  · exact dim_6_7
  · exact dim_6_8
  · exact dim_6_9
  · exact dim_6_10
  · exact dim_6_11
  · exact dim_6_12
  · exact dim_6_13
  · exact dim_6_14
  · exact dim_6_15
  · exact dim_6_16
  · exact dim_6_17
  · exact dim_6_18
  · exact dim_6_19
  · exact dim_6_20
  · exact dim_6_21
  · exact dim_6_22
  · exact dim_6_23
  · exact dim_6_24
  · exact dim_6_25
  · exact dim_6_26
  · exact dim_6_27
  · exact dim_6_28
  · exact dim_6_29
  · exact dim_6_30
  · exact dim_6_31
