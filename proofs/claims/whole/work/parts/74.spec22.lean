/-- the model's word for what is thrown -/
noncomputable def exn (a b : Prop) (i j k : Int) : Int := @ite _ (¬ a) (Classical.propDecidable _) i (@ite _ (¬ b) (Classical.propDecidable _) j k)
theorem exn_1 {a b : Prop} {i j k : Int} (h : ¬ a) : exn a b i j k = i := by unfold exn; rw [if_pos h]
theorem exn_2 {a b : Prop} {i j k : Int} (h : a) (h2 : ¬ b) : exn a b i j k = j := by unfold exn; rw [if_neg (fun q => q h), if_pos h2]
theorem exn_3 {a b : Prop} {i j k : Int} (h : a) (h2 : b) : exn a b i j k = k := by unfold exn; rw [if_neg (fun q => q h), if_neg (fun q => q h2)]
theorem MS_th {x : Me} {t : Int} (h : MS x) : MS (up x 50 0 t) := by
  refine ⟨by rw [up_n _ _ (by omega)]; exact h.1, fun q a b => ?_⟩
  rw [up_n _ _ (by omega)] at b
  have h1 := h.2 q a b
  exact ⟨h1.1, by rw [up_i _ _ _ (by omega)]; exact h1.2.1, fun p c d => by rw [up_i _ _ _ (by omega)]; exact h1.2.2 p c d⟩
theorem MG_th {x : Me} {q t : Int} (h : MG x q) : MG (up x 50 0 t) q := ⟨h.1, by rw [up_i _ _ _ (by omega)]; exact h.2.1, fun p c d => by rw [up_i _ _ _ (by omega)]; exact h.2.2 p c d⟩
theorem nd_th {x : Me} {q t p : Int} : nd (up x 50 0 t) q p = nd x q p := by unfold nd; rw [up_i _ _ _ (by omega)]
theorem MS_wp {x : Me} (h : MS x) : MS (clr x 53 81) := by
  have e : ∀ a, a ≠ 53 → clr x 53 81 a = x a := fun a ha => by funext b; unfold clr; rw [if_neg (fun q => ha q.1)]
  refine ⟨by rw [e 50 (by omega)]; exact h.1, fun q a b => ?_⟩
  rw [e 50 (by omega)] at b
  have h1 := h.2 q a b
  exact ⟨h1.1, by rw [e 51 (by omega)]; exact h1.2.1, fun p c d => by rw [e 52 (by omega)]; exact h1.2.2 p c d⟩
