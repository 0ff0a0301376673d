theorem FG_up {x : Me} {q : Nat} (h : FG x q) (a : Nat) {p v : Int} (hv : 0 ≤ v ∧ v ≤ 999) : FG (up x (20 + a) p v) q := by
  obtain ⟨h1, h2, h3⟩ := h
  refine ⟨h1, ?_, fun p' a0 a1 => ?_⟩
  · rw [up_i x p v (by omega)]; exact h2
  · by_cases e : 20 + q = 20 + a ∧ p' = p
    · rw [e.1, e.2, up_s]; exact hv
    · rw [up_n x v e]; exact h3 p' a0 a1
theorem FG_of {x y : Me} {q : Nat} (h : FG x q) (e1 : y (10 + q) = x (10 + q)) (e2 : y (20 + q) = x (20 + q)) : FG y q := by
  obtain ⟨h1, h2, h3⟩ := h
  exact ⟨h1, by rw [e1]; exact h2, fun p a b => by rw [e2]; exact h3 p a b⟩
theorem up_back (x : Me) (i : Nat) (j v : Int) : up (up x i j v) i j (x i j) = x := by
  funext a b
  by_cases e : a = i ∧ b = j
  · rw [e.1, e.2, up_s]
  · rw [up_n _ _ e, up_n _ _ e]
noncomputable def men (n : Int) (f : Int → Int) (p : Int) : Int :=
  ci ((if p / n = 0 then 1 else 0) = (if p / n = 0 then 1 else 0)) (ci (f p + lsum n f 0 (if p / n = 0 then 1 else 0) - lsum n f 0 (p / n) = f p ∨ f p + lsum n f 0 (if p / n = 0 then 1 else 0) - lsum n f 0 (p / n) < 1 ∨ 999 < f p + lsum n f 0 (if p / n = 0 then 1 else 0) - lsum n f 0 (p / n) ∨ ¬ mag n (uf f p (f p + lsum n f 0 (if p / n = 0 then 1 else 0) - lsum n f 0 (p / n)))) (-1) (f p + lsum n f 0 (if p / n = 0 then 1 else 0) - lsum n f 0 (p / n))) 0
theorem men_d {n : Int} {f : Int → Int} {p r : Int} (hr : r = if p / n = 0 then 1 else 0) : men n f p = ci (f p + lsum n f 0 r - lsum n f 0 (p / n) = f p ∨ f p + lsum n f 0 r - lsum n f 0 (p / n) < 1 ∨ 999 < f p + lsum n f 0 r - lsum n f 0 (p / n) ∨ ¬ mag n (uf f p (f p + lsum n f 0 r - lsum n f 0 (p / n)))) (-1) (f p + lsum n f 0 r - lsum n f 0 (p / n)) := by
  unfold men
  rw [ci_t rfl, ← hr]
theorem men_rng {n : Int} {f : Int → Int} {p : Int} : men n f p = -1 ∨ (1 ≤ men n f p ∧ men n f p ≤ 999) := by
  rw [men_d rfl]
  by_cases h : (f p + lsum n f 0 (if p / n = 0 then 1 else 0) - lsum n f 0 (p / n) = f p ∨ f p + lsum n f 0 (if p / n = 0 then 1 else 0) - lsum n f 0 (p / n) < 1 ∨ 999 < f p + lsum n f 0 (if p / n = 0 then 1 else 0) - lsum n f 0 (p / n) ∨ ¬ mag n (uf f p (f p + lsum n f 0 (if p / n = 0 then 1 else 0) - lsum n f 0 (p / n))))
  · left; exact ci_t h
  · rw [ci_f h]; right; omega
/-- the slips of a square of two rows or more: how many places ahead of k, the first one -/
noncomputable def slc (n : Int) (f : Int → Int) : Nat → Int := sm (fun p => bi (men n f p ≠ -1))
noncomputable def slf (n : Int) (f : Int → Int) : Nat → Int
  | 0 => -1
  | k + 1 => if slf n f k = -1 then ci (men n f k ≠ -1) k (-1) else slf n f k
noncomputable def slp (n : Int) (f : Int → Int) (what : Int) : Int :=
  if n = 1 then (if what = 0 then (if f 0 = 0 then 999 else 998) else if what = 1 then 0 else (if f 0 = 1 then 2 else 1))
  else if what = 0 then slc n f (n * n).toNat else if what = 1 then slf n f (n * n).toNat else if slf n f (n * n).toNat = -1 then -1 else men n f (slf n f (n * n).toNat)
theorem slf_none {n : Int} {f : Int → Int} {k : Nat} (h : ∀ p : Int, 0 ≤ p → p < k → men n f p = -1) : slf n f k = -1 := by
  induction k with
  | zero => rfl
  | succ k ih =>
    rw [slf, ih (fun p a b => h p a (by omega)), if_pos rfl, ci_f (fun e => e (h k (by omega) (by omega)))]
theorem slf_at {n : Int} {f : Int → Int} {i : Int} {k : Nat} (h0 : 0 ≤ i ∧ i < k) (h : ∀ p : Int, 0 ≤ p → p < i → men n f p = -1) (hm : men n f i ≠ -1) : slf n f k = i := by
  induction k with
  | zero => omega
  | succ k ih =>
    rw [slf]
    by_cases e : i = k
    · subst e
      rw [slf_none h, if_pos rfl, ci_t hm]
    · rw [ih (by omega), if_neg (by omega)]
def ort (n : Int) (f h : Int → Int) : Prop := ∀ p, 0 ≤ p → p < n * n → ∀ k, 0 ≤ k → k < p → ¬ (f p = f k ∧ h p = h k)
def mvf (n : Int) (f : Int → Int) (ch b : Int) : Int → Int := fun p => if 0 ≤ p ∧ p < n * n then f (ahd n ch b p) else f p
def cpf (n : Int) (f : Int → Int) (b : Int) : Int → Int := fun p => if 0 ≤ p ∧ p < n * n then (if f p = 0 then 0 else b - f p) else f p
def chg (n : Int) (f h : Int → Int) : Int := sm (fun p => if h p = f p then 0 else 1) (n * n).toNat
theorem nc_eq {x : Me} {q : Nat} {h : Int → Int} (h1 : ∀ p, 0 ≤ p → p < 81 → x (20 + q) p = h p) (h2 : ∀ p, ¬ (0 ≤ p ∧ p < 81) → h p = 0) : nc x q = h := by
  funext p; unfold nc; split
  · next a => exact h1 p a.1 a.2
  · next a => exact (h2 p a).symm
theorem nc_out (x : Me) (q : Nat) {p : Int} (h : ¬ (0 ≤ p ∧ p < 81)) : nc x q p = 0 := if_neg h
theorem FG_nc {x : Me} {q : Nat} (h1 : q < 9) (h2 : 1 ≤ x (10 + q) 1 ∧ x (10 + q) 1 ≤ 9) (h3 : FR (nc x q)) : FG x q := ⟨h1, h2, fun p a b => by have := h3 p; rw [nc_in ⟨a, b⟩] at this; exact this⟩
