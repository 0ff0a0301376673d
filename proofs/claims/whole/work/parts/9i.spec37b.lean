theorem dim_5_0 : dimM 5 (2 * ((0 : Nat) : Int)) = dimS 5 (2 * ((0 : Nat) : Int)) := by decide +kernel
theorem dim_5_1 : dimM 5 (2 * ((1 : Nat) : Int)) = dimS 5 (2 * ((1 : Nat) : Int)) := by decide +kernel
theorem dim_5_2 : dimM 5 (2 * ((2 : Nat) : Int)) = dimS 5 (2 * ((2 : Nat) : Int)) := by decide +kernel
theorem dim_5_3 : dimM 5 (2 * ((3 : Nat) : Int)) = dimS 5 (2 * ((3 : Nat) : Int)) := by decide +kernel
theorem dim_5_4 : dimM 5 (2 * ((4 : Nat) : Int)) = dimS 5 (2 * ((4 : Nat) : Int)) := by decide +kernel
theorem dim_5_5 : dimM 5 (2 * ((5 : Nat) : Int)) = dimS 5 (2 * ((5 : Nat) : Int)) := by decide +kernel
theorem dim_5_6 : dimM 5 (2 * ((6 : Nat) : Int)) = dimS 5 (2 * ((6 : Nat) : Int)) := by decide +kernel
theorem dim_5_7 : dimM 5 (2 * ((7 : Nat) : Int)) = dimS 5 (2 * ((7 : Nat) : Int)) := by decide +kernel
theorem dim_5_8 : dimM 5 (2 * ((8 : Nat) : Int)) = dimS 5 (2 * ((8 : Nat) : Int)) := by decide +kernel
theorem dim_5_9 : dimM 5 (2 * ((9 : Nat) : Int)) = dimS 5 (2 * ((9 : Nat) : Int)) := by decide +kernel
theorem dim_5_10 : dimM 5 (2 * ((10 : Nat) : Int)) = dimS 5 (2 * ((10 : Nat) : Int)) := by decide +kernel
theorem dim_5_11 : dimM 5 (2 * ((11 : Nat) : Int)) = dimS 5 (2 * ((11 : Nat) : Int)) := by decide +kernel
theorem dim_5_12 : dimM 5 (2 * ((12 : Nat) : Int)) = dimS 5 (2 * ((12 : Nat) : Int)) := by decide +kernel
theorem dim_5_13 : dimM 5 (2 * ((13 : Nat) : Int)) = dimS 5 (2 * ((13 : Nat) : Int)) := by decide +kernel
theorem dim_5_14 : dimM 5 (2 * ((14 : Nat) : Int)) = dimS 5 (2 * ((14 : Nat) : Int)) := by decide +kernel
theorem dim_5_15 : dimM 5 (2 * ((15 : Nat) : Int)) = dimS 5 (2 * ((15 : Nat) : Int)) := by decide +kernel
theorem dim_5_16 : dimM 5 (2 * ((16 : Nat) : Int)) = dimS 5 (2 * ((16 : Nat) : Int)) := by decide +kernel
theorem dim_5_17 : dimM 5 (2 * ((17 : Nat) : Int)) = dimS 5 (2 * ((17 : Nat) : Int)) := by decide +kernel
theorem dim_5_18 : dimM 5 (2 * ((18 : Nat) : Int)) = dimS 5 (2 * ((18 : Nat) : Int)) := by decide +kernel
theorem dim_5_19 : dimM 5 (2 * ((19 : Nat) : Int)) = dimS 5 (2 * ((19 : Nat) : Int)) := by decide +kernel
theorem dim_5_20 : dimM 5 (2 * ((20 : Nat) : Int)) = dimS 5 (2 * ((20 : Nat) : Int)) := by decide +kernel
theorem dim_5_21 : dimM 5 (2 * ((21 : Nat) : Int)) = dimS 5 (2 * ((21 : Nat) : Int)) := by decide +kernel
theorem dim_5_22 : dimM 5 (2 * ((22 : Nat) : Int)) = dimS 5 (2 * ((22 : Nat) : Int)) := by decide +kernel
theorem dim_5_23 : dimM 5 (2 * ((23 : Nat) : Int)) = dimS 5 (2 * ((23 : Nat) : Int)) := by decide +kernel
theorem dim_5_24 : dimM 5 (2 * ((24 : Nat) : Int)) = dimS 5 (2 * ((24 : Nat) : Int)) := by decide +kernel
theorem dim_5_25 : dimM 5 (2 * ((25 : Nat) : Int)) = dimS 5 (2 * ((25 : Nat) : Int)) := by decide +kernel
theorem dim_5_26 : dimM 5 (2 * ((26 : Nat) : Int)) = dimS 5 (2 * ((26 : Nat) : Int)) := by decide +kernel
theorem dim_5_27 : dimM 5 (2 * ((27 : Nat) : Int)) = dimS 5 (2 * ((27 : Nat) : Int)) := by decide +kernel
theorem dim_5_28 : dimM 5 (2 * ((28 : Nat) : Int)) = dimS 5 (2 * ((28 : Nat) : Int)) := by decide +kernel
theorem dim_5_29 : dimM 5 (2 * ((29 : Nat) : Int)) = dimS 5 (2 * ((29 : Nat) : Int)) := by decide +kernel
theorem dim_5_30 : dimM 5 (2 * ((30 : Nat) : Int)) = dimS 5 (2 * ((30 : Nat) : Int)) := by decide +kernel
theorem dim_5_31 : dimM 5 (2 * ((31 : Nat) : Int)) = dimS 5 (2 * ((31 : Nat) : Int)) := by decide +kernel
theorem dim_5 (k : Fin 32) : dimM 5 (2 * k.val) = dimS 5 (2 * k.val) := by
  obtain ⟨k, hk⟩ := k
  have h : k = 0 ∨ k = 1 ∨ k = 2 ∨ k = 3 ∨ k = 4 ∨ k = 5 ∨ k = 6 ∨ k = 7 ∨ k = 8 ∨ k = 9 ∨ k = 10 ∨ k = 11 ∨ k = 12 ∨ k = 13 ∨ k = 14 ∨ k = 15 ∨ k = 16 ∨ k = 17 ∨ k = 18 ∨ k = 19 ∨ k = 20 ∨ k = 21 ∨ k = 22 ∨ k = 23 ∨ k = 24 ∨ k = 25 ∨ k = 26 ∨ k = 27 ∨ k = 28 ∨ k = 29 ∨ k = 30 ∨ k = 31 := by omega
  rcases h with rfl | rfl | rfl | rfl | rfl | rfl | rfl | rfl | rfl | rfl | rfl | rfl | rfl | rfl | rfl | rfl | rfl | rfl | rfl | rfl | rfl | rfl | rfl | rfl | rfl | rfl | rfl | rfl | rfl | rfl | rfl | rfl
  · exact dim_5_0
  · exact dim_5_1
  · exact dim_5_2
  · exact dim_5_3
  · exact dim_5_4
  · exact dim_5_5
  · exact dim_5_6
  · exact dim_5_7
  · exact dim_5_8
  · exact dim_5_9
  · exact dim_5_10
  · exact dim_5_11
  · exact dim_5_12
  · exact dim_5_13
  · exact dim_5_14
  · exact dim_5_15
  · exact dim_5_16
  · exact dim_5_17
  · exact dim_5_18
  · exact dim_5_19
  · exact dim_5_20
  · exact dim_5_21
  · exact dim_5_22
  · exact dim_5_23
  · exact dim_5_24
  · exact dim_5_25
  · exact dim_5_26
  · exact dim_5_27
  · exact dim_5_28
  · exact dim_5_29
  · exact dim_5_30
  · exact dim_5_31
