theorem up_same (x : Me) (i : Nat) (j : Int) : up x i j (x i j) = x := by
  funext a b; unfold up; split
  · next h => rw [h.1, h.2]
  · rfl
theorem MG_up {x : Me} {q p v : Int} (h : MG x q) (hp : 0 ≤ p ∧ p < 81) (hv : 0 ≤ v ∧ v ≤ 999) : MG (up x 52 (81 * q + p) v) q := by
  obtain ⟨h1, h2, h3⟩ := h
  refine ⟨h1, by rw [up_i _ _ _ (by omega)]; exact h2, fun r a b => ?_⟩
  by_cases e : r = p
  · rw [e, up_s]; exact hv
  · rw [up_n _ _ (by omega)]; exact h3 r a b
theorem nd_up {x : Me} {q p v : Int} (hp : 0 ≤ p ∧ p < 81) : nd (up x 52 (81 * q + p) v) q = uf (nd x q) p v := by
  funext a
  unfold nd uf
  by_cases h1 : a = p
  · rw [if_pos (by omega), if_pos h1, h1, up_s]
  · rw [if_neg h1]
    by_cases h2 : 0 ≤ a ∧ a < 81
    · rw [if_pos h2, up_n _ _ (by omega)]; exact (if_pos h2).symm
    · rw [if_neg h2]; exact (if_neg h2).symm
def mdd (n : Int) (f : Int → Int) (p : Int) : Int := lsum n f 0 (if p / n = 0 then 1 else 0) - lsum n f 0 (p / n) + f p
theorem men_v {n : Int} {f : Int → Int} {p v : Int} (hv : v = mdd n f p) : ((f p ≠ v ∧ (1 ≤ v ∧ v ≤ 999) ∧ mag n (uf f p v)) → men n f p = v) ∧ (¬ (f p ≠ v ∧ (1 ≤ v ∧ v ≤ 999) ∧ mag n (uf f p v)) → men n f p = -1) := by
  have e : f p + lsum n f 0 (if p / n = 0 then 1 else 0) - lsum n f 0 (p / n) = v := by unfold mdd at hv; omega
  rw [men_d rfl, e]
  constructor
  · intro h
    refine ci_f ?_
    rintro (a | a | a | a)
    · exact h.1 a.symm
    · omega
    · omega
    · exact a h.2.2
  · intro h
    refine ci_t ?_
    by_cases h1 : f p = v
    · exact Or.inl h1.symm
    · by_cases h2 : 1 ≤ v ∧ v ≤ 999
      · exact Or.inr (Or.inr (Or.inr (fun m => h ⟨h1, h2, m⟩)))
      · omega
theorem mag_1 (f : Int → Int) : mag 1 f := by
  have e : ∀ k l, 0 ≤ l → l < 1 → lsum 1 f k l = f 0 := by
    intro k l a b
    have hl : l = 0 := by omega
    subst hl
    have h0 : onl 1 k 0 0 = 0 := by unfold onl; split; rfl; split; rfl; split <;> decide
    show (0 : Int) + f (onl 1 k 0 0) = f 0
    rw [h0]; omega
  refine ⟨fun l a b => ?_, fun l a b => ?_, ?_, ?_⟩
  · rw [e 0 l a b, e 0 0 (by omega) (by omega)]
  · rw [e 1 l a b, e 0 0 (by omega) (by omega)]
  · rw [e 2 0 (by omega) (by omega), e 0 0 (by omega) (by omega)]
  · rw [e 3 (1 - 1) (by omega) (by omega), e 0 0 (by omega) (by omega)]
theorem slc_s {n : Int} {f : Int → Int} {p : Int} (h : 0 ≤ p) : (men n f p = -1 → slc n f (p + 1).toNat = slc n f p.toNat) ∧ (men n f p ≠ -1 → slc n f (p + 1).toNat = slc n f p.toNat + 1) := by
  unfold slc
  rw [sm_s _ h]
  exact ⟨fun e => by rw [bi_f (fun q => q e)]; omega, fun e => by rw [bi_t e]⟩
theorem slf_s {n : Int} {f : Int → Int} {p : Int} (h : 0 ≤ p) : (slf n f p.toNat ≠ -1 → slf n f (p + 1).toNat = slf n f p.toNat) ∧ (slf n f p.toNat = -1 → men n f p = -1 → slf n f (p + 1).toNat = -1) ∧ (slf n f p.toNat = -1 → men n f p ≠ -1 → slf n f (p + 1).toNat = p) := by
  have e : (p + 1).toNat = p.toNat + 1 := by omega
  have e2 : ((p.toNat : Nat) : Int) = p := by omega
  rw [e, slf, e2]
  refine ⟨fun h => if_neg h, fun h h2 => ?_, fun h h2 => ?_⟩
  · rw [if_pos h, ci_f (fun q => q h2)]
  · rw [if_pos h, ci_t h2]
theorem mulb {a v : Int} (ha : 1 ≤ a ∧ a ≤ 81) (hg : 0 ≤ v ∧ v ≤ 999) : -81 ≤ a * (v - 1) ∧ a * (v - 1) ≤ 80838 := by
  by_cases e : v = 0
  · subst e; omega
  · have h1 := Int.mul_nonneg (show 0 ≤ a by omega) (show 0 ≤ v - 1 by omega)
    have h2 := Int.mul_le_mul ha.2 (show v - 1 ≤ 998 by omega) (by omega) (by omega)
    omega
theorem hig_r {f : Int → Int} (h : ∀ p, 0 ≤ f p ∧ f p ≤ 999) (k : Nat) : 0 ≤ hig f k ∧ hig f k ≤ 999 := by
  induction k with
  | zero => simp [hig]
  | succ k ih => have := h k; rw [hig]; omega
/-- the model's word for being kin; hidden from omega, which falls over an 'exists' -/
def KD (x : Me) (q r : Int) : Prop := ∃ fm, 0 ≤ fm ∧ fm < 8 ∧ x 51 q = x 51 r ∧ isF (x 51 q) (nd x q) fm (nd x r)
def KE (x : Me) (i j : Int) : Prop := ∃ e : Int, 0 ≤ e ∧ e < j ∧ KD x i e
theorem KD_of {x y : Me} (e1 : y 51 = x 51) (e2 : y 52 = x 52) (q r : Int) : KD y q r ↔ KD x q r := by
  unfold KD; rw [e1, nd_of e2, nd_of e2]
theorem KD_th {x : Me} {t q r : Int} : KD (up x 50 0 t) q r ↔ KD x q r := KD_of (up_i _ _ _ (by omega)) (up_i _ _ _ (by omega)) q r
