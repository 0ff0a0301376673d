/-! the model's row of what is made, as a figure -/
def n53 (x : Me) : Int → Int := fun p => if 0 ≤ p ∧ p < 81 then x 53 p else 0
theorem n53_in {x : Me} {p : Int} (h : 0 ≤ p ∧ p < 81) : n53 x p = x 53 p := if_pos h
theorem n53_up {x : Me} {p v : Int} (h : 0 ≤ p ∧ p < 81) : n53 (up x 53 p v) = uf (n53 x) p v := by
  funext a
  unfold n53 uf up
  by_cases h1 : a = p
  · subst h1; rw [if_pos h, if_pos (by omega), if_pos rfl]
  · rw [if_neg h1]
    by_cases h2 : 0 ≤ a ∧ a < 81
    · rw [if_pos h2, if_neg (by omega)]; exact (if_pos h2).symm
    · rw [if_neg h2]; exact (if_neg h2).symm
theorem n53_eq {x : Me} {h : Int → Int} (h1 : ∀ p, 0 ≤ p → p < 81 → x 53 p = h p) (h2 : ∀ p, ¬ (0 ≤ p ∧ p < 81) → h p = 0) : n53 x = h := by
  funext p; unfold n53; split
  · next a => exact h1 p a.1 a.2
  · next a => exact (h2 p a).symm
theorem n53_clr (x : Me) : n53 (clr x 53 81) = fun _ => 0 := n53_eq (fun p a b => by unfold clr; rw [if_pos ⟨rfl, a, b⟩]) (fun _ _ => rfl)
theorem clr_i (x : Me) (a0 : Nat) (i : Int) {a : Nat} (h : a ≠ a0) : clr x a0 i a = x a := by
  funext b; unfold clr; rw [if_neg (fun q => h q.1)]
theorem n53_mk {x y : Me} {n : Int} {fn : Int → Int} (h1 : ∀ p, 0 ≤ p → p < n * n → y 53 p = fn p) (h2 : ∀ p, ¬ (0 ≤ p ∧ p < n * n) → y 53 p = x 53 p) (h3 : n53 x = fun _ => 0) (hn : n * n ≤ 81) (h4 : ∀ p, ¬ (0 ≤ p ∧ p < n * n) → fn p = 0) : n53 y = fn := by
  refine n53_eq (fun p a b => ?_) (fun p a => h4 p (by omega))
  by_cases hp : p < n * n
  · exact h1 p a hp
  · rw [h2 p (by omega), h4 p (by omega), ← n53_in (x := x) ⟨a, b⟩, h3]
theorem wr_dn {r n : Int} (h : 0 ≤ r ∧ r < n) : (r = 0 → (r - 1) % n = n - 1) ∧ (r ≠ 0 → (r - 1) % n = r - 1) := by
  constructor
  · intro e
    rw [← Int.add_emod_right, show r - 1 + n = n - 1 by omega]
    exact Int.emod_eq_of_lt (by omega) (by omega)
  · intro e; exact Int.emod_eq_of_lt (by omega) (by omega)
theorem wr_up {c n : Int} (h : 0 ≤ c ∧ c < n) : (c = n - 1 → (c + 1) % n = 0) ∧ (c ≠ n - 1 → (c + 1) % n = c + 1) := by
  constructor
  · intro e; rw [show c + 1 = n by omega]; exact Int.emod_self
  · intro e; exact Int.emod_eq_of_lt (by omega) (by omega)
theorem sgf_out {n p : Int} (h : 1 ≤ n ∧ n ≤ 9) (hp : ¬ (0 ≤ p ∧ p < n * n)) : sgf n p = 0 := (sgs_rng h _).2.1 p hp
theorem mkf_out {mk n p : Int} (h : 1 ≤ n ∧ n ≤ 9) (hm : hld mk n) (hp : ¬ (0 ≤ p ∧ p < n * n)) : mkf mk n p = 0 := by
  unfold mkf
  split
  · exact sgf_out h hp
  · split
    · unfold crs; exact if_neg hp
    · split
      · unfold dig; exact if_neg hp
      · have : n = 6 := by unfold hld at hm; omega
        subst this
        unfold lxf; exact if_neg hp
/-- a new figure of the model -/
def NM (x y : Me) (s : Int) (f : Int → Int) : Prop := y 50 0 = 0 ∧ y 50 1 = x 50 1 + 1 ∧ y 51 (x 50 1) = s ∧ nd y (x 50 1) = f ∧ (∀ q, 0 ≤ q → q < x 50 1 → y 51 q = x 51 q ∧ nd y q = nd x q) ∧ ∀ a, a < 50 ∨ 62 < a → y a = x a
theorem LY_NM {x w y : Me} {s : Int} {f : Int → Int} (h : LY w y s) (h0 : w 50 0 = 0) (h1 : w 50 1 = x 50 1) (h51 : w 51 = x 51) (h52 : w 52 = x 52) (hf : n53 w = f) (hz : ∀ p, ¬ (0 ≤ p ∧ p < s * s) → f p = 0) (hfr : ∀ a, a < 50 ∨ 62 < a → w a = x a) : NM x y s f := by
  have hn := LY_new h
  obtain ⟨e1, e2, e3, e4, e5, e6, e7⟩ := h
  refine ⟨by rw [e6 0 (by omega)]; exact h0, by rw [e1, h1], by rw [← h1]; exact e2, ?_, fun q a b => ⟨?_, ?_⟩, fun a ha => by rw [e7 a (by omega) (by omega) (by omega)]; exact hfr a ha⟩
  · rw [← h1, hn]; funext p
    show (if 0 ≤ p ∧ p < 81 then (if p < s * s then w 53 p else 0) else 0) = f p
    by_cases hp : 0 ≤ p ∧ p < 81
    · rw [if_pos hp]
      by_cases hp2 : p < s * s
      · rw [if_pos hp2, ← hf, n53_in hp]
      · rw [if_neg hp2, hz p (by omega)]
    · rw [if_neg hp, ← hf]; exact (if_neg hp).symm
  · rw [e4 q (by omega), h51]
  · funext p; unfold nd; split
    · rw [e5 _ (by omega), h52]
    · rfl
theorem MS_of {x y : Me} (h : MS x) (e0 : y 50 1 = x 50 1) (e1 : y 51 = x 51) (e2 : y 52 = x 52) : MS y := by
  refine ⟨by rw [e0]; exact h.1, fun q a b => ?_⟩
  rw [e0] at b
  have h1 := h.2 q a b
  exact ⟨h1.1, by rw [e1]; exact h1.2.1, fun p c d => by rw [e2]; exact h1.2.2 p c d⟩
theorem MG_of {x y : Me} {q : Int} (h : MG x q) (e1 : y 51 = x 51) (e2 : y 52 = x 52) : MG y q := ⟨h.1, by rw [e1]; exact h.2.1, fun p c d => by rw [e2]; exact h.2.2 p c d⟩
theorem nd_of {x y : Me} {q : Int} (e2 : y 52 = x 52) : nd y q = nd x q := by funext p; unfold nd; rw [e2]
/-- a figure of the model that is changed in its place -/
def CM (x y : Me) (q : Int) (f : Int → Int) : Prop := y 50 0 = 0 ∧ y 50 1 = x 50 1 ∧ y 51 = x 51 ∧ nd y q = f ∧ (∀ r, 0 ≤ r → r < 8 → r ≠ q → nd y r = nd x r) ∧ ∀ a, a < 50 ∨ 62 < a → y a = x a
/-- the model's figures stay -/
def KM (x y : Me) : Prop := y 50 0 = 0 ∧ y 50 1 = x 50 1 ∧ y 51 = x 51 ∧ y 52 = x 52 ∧ ∀ a, a < 50 ∨ 62 < a → y a = x a
theorem cha_out {n : Int} {f : Int → Int} {ch b p : Int} (h : ¬ (0 ≤ p ∧ p < n * n)) : cha n f ch b p = f p := by
  unfold cha; split
  · unfold cpf; exact if_neg h
  · unfold mvf; exact if_neg h
theorem cha_c {n : Int} {f : Int → Int} {ch b p : Int} (h : 0 ≤ p ∧ p < n * n) (hc : ch = 2) : cha n f ch b p = if f p = 0 then 0 else b - f p := by
  rw [cha_2 hc]; exact if_pos h
theorem cha_m {n : Int} {f : Int → Int} {ch b p : Int} (h : 0 ≤ p ∧ p < n * n) (hc : ch ≠ 2) : cha n f ch b p = f (ahd n ch b p) := by
  rw [cha_n hc]; exact if_pos h
theorem CM_of {x w v : Me} {q : Int} {n : Int} {f : Int → Int} (hq : 0 ≤ q ∧ q < 8) (hn : n * n ≤ 81) (h0 : w 50 0 = 0) (h1 : w 50 1 = x 50 1) (h51 : w 51 = x 51) (h52 : w 52 = x 52) (hfr : ∀ a, a < 50 ∨ 62 < a → w a = x a) (hv : ∀ a, a ≠ 52 → v a = w a) (hA : ∀ p, 0 ≤ p → p < n * n → v 52 (81 * q + p) = f p) (hB : ∀ k, ¬ (81 * q ≤ k ∧ k < 81 * q + n * n) → v 52 k = w 52 k) (hf : ∀ p, ¬ (0 ≤ p ∧ p < n * n) → f p = nd x q p) : CM x v q f := by
  refine ⟨by rw [hv 50 (by omega)]; exact h0, by rw [hv 50 (by omega)]; exact h1, by rw [hv 51 (by omega)]; exact h51, ?_, fun r a b c => ?_, fun a ha => by rw [hv a (by omega)]; exact hfr a ha⟩
  · funext p
    by_cases hp : 0 ≤ p ∧ p < n * n
    · rw [nd_in (by omega)]; exact hA p hp.1 hp.2
    · rw [hf p hp]; unfold nd; split
      · rw [hB _ (by omega), h52]
      · rfl
  · funext p; unfold nd; split
    · rw [hB _ (by omega), h52]
    · rfl
