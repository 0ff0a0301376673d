def LI (x y : Me) (n : Int) (f : Int → Int) (i : Int) (G : Int → Int) : Prop :=
  SB y n ∧ (ST y n G ∧ GR n G ∧ (∀ p, ¬ (0 ≤ p ∧ p < i) → G p = 0) ∧ dst n G) ∧ (y 30 6 = (emp f i.toNat).length ∧ ∀ j : Int, 0 ≤ j → j < (emp f i.toNat).length → y 36 j = eF (emp f i.toNat) j) ∧
  ((y 30 9 = 1 ∧ ¬ fit n (tk f (n * n))) ∨ (y 30 9 = 0 ∧ G = tk f i ∧ (∀ p, 0 ≤ p → p < i → f p ≠ 0 → y 31 p = f p) ∧ usc n G + (emp f i.toNat).length = i)) ∧ ∀ a, a < 30 ∨ 36 < a → y a = x a
theorem LI_0 {x y : Me} {n : Int} {f : Int → Int} (h1 : SB y n) (h2 : y 30 9 = 0) (h3 : y 30 6 = 0) (h4 : ST y n (fun _ => 0)) (h5 : ∀ a, a < 30 ∨ 36 < a → y a = x a) : LI x y n f 0 (fun _ => 0) := by
  refine ⟨h1, ⟨h4, fun p a b => ⟨Int.le_refl _, ?_⟩, fun p _ => rfl, fun p a b r c d e h => absurd rfl h⟩, ⟨h3, fun j a b => ?_⟩, Or.inr ⟨h2, (tk_0 f).symm, fun p a b => ?_, ?_⟩, h5⟩
  · show 0 ≤ n * n; omega
  · simp [emp] at b; try omega
  · omega
  · rw [usc0]; rfl
theorem LI_E {x y z : Me} {n i : Int} {f G : Int → Int} (h : LI x y n f i G) (hi : 0 ≤ i ∧ i < n * n) (h0 : f i = 0) (hz : z = up (up y 36 (y 30 6) i) 30 6 (y 30 6 + 1)) : LI x z n f (i + 1) G := by
  obtain ⟨h1, ⟨g1, g2, g3, g4⟩, ⟨e1, e2⟩, c, fr⟩ := h
  have r30 : ∀ b, b ≠ 6 → z 30 b = y 30 b := fun b hb => by rw [hz, up_n _ _ (by omega), up_n _ _ (by omega)]
  have ra : ∀ a, a ≠ 30 → a ≠ 36 → z a = y a := fun a a1 a2 => by rw [hz, up_i _ _ _ a1, up_i _ _ _ a2]
  have hl := emp_len f i.toNat
  rw [LI, emp_s0 hi.1 h0, List.length_append]
  refine ⟨SB_of h1 (r30 7 (by omega)) (r30 8 (by omega)) (ra 35 (by omega) (by omega)), ⟨ST_of g1 (ra 32 (by omega) (by omega)) (ra 33 (by omega) (by omega)) (ra 34 (by omega) (by omega)), g2, fun p hp => g3 p (by omega), g4⟩, ⟨?_, fun j a b => ?_⟩, ?_, fun a ha => by rw [ra a (by omega) (by omega)]; exact fr a ha⟩
  · rw [hz, up_s, e1]; rfl
  · have hz36 : z 36 j = up y 36 (y 30 6) i 36 j := by rw [hz, up_i _ _ _ (by omega)]
    rw [hz36, e1]
    by_cases e : j = (emp f i.toNat).length
    · subst e; rw [up_s]; exact eF_app.2.symm
    · rw [up_n _ _ (by omega)]
      have b2 : j < (emp f i.toNat).length := by simp at b; omega
      rw [e2 j a b2]; exact (eF_app.1 j a b2).symm
  · rcases c with c | ⟨c1, c2, c3, c4⟩
    · exact Or.inl ⟨by rw [r30 9 (by omega)]; exact c.1, c.2⟩
    · refine Or.inr ⟨by rw [r30 9 (by omega)]; exact c1, by rw [tk_s0 hi.1 h0]; exact c2, fun p a b d => ?_, by simp; omega⟩
      rw [ra 31 (by omega) (by omega)]
      exact c3 p a (by by_cases e : p = i; (subst e; exact absurd h0 d); omega) d
theorem LI_L {x y z : Me} {n i : Int} {f G : Int → Int} (h : LI x y n f i G) (hi : 0 ≤ i ∧ i < n * n) (hv : (1 ≤ f i ∧ f i ≤ n * n) ∧ y 32 (f i) = 0) (hz : ST z n (uf G i (f i)) ∧ z 31 i = f i ∧ (∀ r, r ≠ i → z 31 r = y 31 r) ∧ ∀ a, a ≠ 31 → a ≠ 32 → a ≠ 33 → a ≠ 34 → z a = y a) : LI x z n f (i + 1) (uf G i (f i)) := by
  obtain ⟨h1, ⟨g1, g2, g3, g4⟩, ⟨e1, e2⟩, c, fr⟩ := h
  obtain ⟨z1, z2, z3, z4⟩ := hz
  have h4 := sq4 h1.1
  have hG0 : G i = 0 := g3 i (by omega)
  have hu : ¬ usd n G (f i) := fun q => by
    have := g1.2 (f i) (by omega) (by omega)
    rw [bi_t q] at this; omega
  rw [LI, emp_s1 hi.1 (by omega)]
  refine ⟨SB_of h1 (by rw [z4 30 (by omega) (by omega) (by omega) (by omega)]) (by rw [z4 30 (by omega) (by omega) (by omega) (by omega)]) (z4 35 (by omega) (by omega) (by omega) (by omega)), ⟨z1, fun p a b => ?_, fun p hp => ?_, fun p a b r w1 w2 e hp => ?_⟩, ⟨by rw [z4 30 (by omega) (by omega) (by omega) (by omega)]; exact e1, fun j a b => by rw [z4 36 (by omega) (by omega) (by omega) (by omega)]; exact e2 j a b⟩, ?_, fun a ha => by rw [z4 a (by omega) (by omega) (by omega) (by omega)]; exact fr a ha⟩
  · by_cases e : p = i
    · subst e; rw [uf_s]; omega
    · rw [uf_n _ _ e]; exact g2 p a b
  · rw [uf_n _ _ (by omega)]; exact g3 p (by omega)
  · by_cases e1 : p = i
    · subst e1
      rw [uf_s, uf_n _ _ (Ne.symm e)]
      intro q; exact hu ⟨hv.1.1, r, w1, w2, q.symm⟩
    · rw [uf_n _ _ e1] at hp ⊢
      by_cases e2 : r = i
      · subst e2; rw [uf_s]; intro q; exact hu ⟨hv.1.1, p, a, b, q⟩
      · rw [uf_n _ _ e2]; exact g4 p a b r w1 w2 e hp
  · rcases c with c | ⟨c1, c2, c3, c4⟩
    · exact Or.inl ⟨by rw [z4 30 (by omega) (by omega) (by omega) (by omega)]; exact c.1, c.2⟩
    · refine Or.inr ⟨by rw [z4 30 (by omega) (by omega) (by omega) (by omega)]; exact c1, by rw [tk_s hi.1, c2], fun p a b d => ?_, by rw [usc_uf hi hG0 hv.1 hu]; omega⟩
      by_cases e : p = i
      · subst e; exact z2
      · rw [z3 p e]; exact c3 p a (by omega) d
theorem LI_C {x y z : Me} {n i : Int} {f G : Int → Int} (h : LI x y n f i G) (hi : 0 ≤ i ∧ i < n * n) (hf : 1 ≤ f i) (hv : ¬ ((1 ≤ f i ∧ f i ≤ n * n) ∧ y 32 (f i) = 0)) (hz : z = up y 30 9 1) : LI x z n f (i + 1) G := by
  obtain ⟨h1, ⟨g1, g2, g3, g4⟩, ⟨e1, e2⟩, c, fr⟩ := h
  have r30 : ∀ b, b ≠ 9 → z 30 b = y 30 b := fun b hb => by rw [hz, up_n _ _ (by omega)]
  have ra : ∀ a, a ≠ 30 → z a = y a := fun a a1 => by rw [hz, up_i _ _ _ a1]
  have h4 := sq4 h1.1
  rw [LI, emp_s1 hi.1 (by omega)]
  refine ⟨SB_of h1 (r30 7 (by omega)) (r30 8 (by omega)) (ra 35 (by omega)), ⟨ST_of g1 (ra 32 (by omega)) (ra 33 (by omega)) (ra 34 (by omega)), g2, fun p hp => g3 p (by omega), g4⟩, ⟨by rw [r30 6 (by omega)]; exact e1, fun j a b => by rw [ra 36 (by omega)]; exact e2 j a b⟩, Or.inl ⟨by rw [hz, up_s], ?_⟩, fun a ha => by rw [ra a (by omega)]; exact fr a ha⟩
  rcases c with c | ⟨c1, c2, c3, c4⟩
  · exact c.2
  · rintro ⟨f1, f2, f3⟩
    have q := f2 i hi.1 hi.2
    rw [tk_in hi] at q
    have hu : usd n G (f i) := by
      have := g1.2 (f i) (by omega) (by omega)
      rcases Classical.em (usd n G (f i)) with u | u
      · exact u
      · rw [bi_f u] at this; exact absurd ⟨⟨hf, q⟩, this⟩ hv
    obtain ⟨-, p, a, b, d⟩ := hu
    have hpi : p < i := by
      rcases Int.lt_or_le p i with q | q
      · exact q
      · have := g3 p (by omega); omega
    have := f3 i hi.1 hi.2 p a b (by omega) (by rw [tk_in hi]; omega)
    rw [tk_in hi, tk_in ⟨a, b⟩] at this
    rw [c2, tk_in ⟨a, hpi⟩] at d
    exact this d.symm
def LD (x : Me) (n : Int) (f : Int → Int) : Prop := SB x n ∧ (∃ G, ST x n G ∧ GR n G) ∧ (x 30 6 = (emp f (n * n).toNat).length ∧ ∀ j : Int, 0 ≤ j → j < (emp f (n * n).toNat).length → x 36 j = eF (emp f (n * n).toNat) j) ∧
  ((x 30 9 = 1 ∧ ¬ fit n (tk f (n * n))) ∨ (x 30 9 = 0 ∧ ST x n (tk f (n * n)) ∧ GR n (tk f (n * n)) ∧ dst n (tk f (n * n)) ∧ (∀ p, 0 ≤ p → p < n * n → f p ≠ 0 → x 31 p = f p) ∧ usc n (tk f (n * n)) + (emp f (n * n).toNat).length = n * n))
theorem LI_end {x y : Me} {n i : Int} {f G : Int → Int} (h : LI x y n f i G) (hi : i = n * n) : LD y n f ∧ ∀ a, a < 30 ∨ 36 < a → y a = x a := by
  subst hi
  obtain ⟨h1, ⟨g1, g2, g3, g4⟩, ⟨e1, e2⟩, c, fr⟩ := h
  refine ⟨⟨h1, ⟨G, g1, g2⟩, ⟨e1, e2⟩, ?_⟩, fr⟩
  rcases c with c | ⟨c1, c2, c3, c4⟩
  · exact Or.inl c
  · subst c2; exact Or.inr ⟨c1, g1, g2, g4, c3, c4⟩
