theorem dim_1 : ∀ k : Fin 32, dimM 1 (2 * k.val) = dimS 1 (2 * k.val) := by decide +kernel
theorem dim_2 : ∀ k : Fin 32, dimM 2 (2 * k.val) = dimS 2 (2 * k.val) := by decide +kernel
theorem dim_3 : ∀ k : Fin 32, dimM 3 (2 * k.val) = dimS 3 (2 * k.val) := by decide +kernel
theorem dim_4 : ∀ k : Fin 32, dimM 4 (2 * k.val) = dimS 4 (2 * k.val) := by decide +kernel
