def bor (a b : Int) : Int := ((a.toNat ||| b.toNat : Nat) : Int)
theorem bit6n : ∀ a : Fin 64, ∀ c d : Fin 6, (((a.val ||| 2 ^ c.val) &&& 2 ^ d.val) ≠ 0) ↔ ((a.val &&& 2 ^ d.val) ≠ 0 ∨ d.val = c.val) := by decide +kernel
theorem bit6 {tk c d : Int} (h : 0 ≤ tk ∧ tk < 64) (hc : 0 ≤ c ∧ c < 6) (hd : 0 ≤ d ∧ d < 6) : bnd2 (bor tk (p2 c)) (p2 d) ≠ 0 ↔ bnd2 tk (p2 d) ≠ 0 ∨ d = c := by
  obtain ⟨a, rfl⟩ : ∃ a : Nat, tk = a := ⟨tk.toNat, by omega⟩
  obtain ⟨c, rfl⟩ : ∃ a : Nat, c = a := ⟨c.toNat, by omega⟩
  obtain ⟨d, rfl⟩ : ∃ a : Nat, d = a := ⟨d.toNat, by omega⟩
  have := bit6n ⟨a, by omega⟩ ⟨c, by omega⟩ ⟨d, by omega⟩
  unfold bnd2 bor
  rw [p2_nat, p2_nat]
  simp only [Int.toNat_natCast]
  have e : ∀ m : Nat, ((m : Int) ≠ 0 ↔ m ≠ 0) := by intro m; omega
  rw [e, e]
  exact this.trans (or_congr Iff.rfl (show d = c ↔ ((d : Int) = (c : Int)) from by omega))
theorem bor_r {tk c : Int} (h : 0 ≤ tk ∧ tk < 64) (hc : 0 ≤ c ∧ c < 6) : 0 ≤ bor tk (p2 c) ∧ bor tk (p2 c) < 64 := by
  obtain ⟨c, rfl⟩ : ∃ a : Nat, c = a := ⟨c.toNat, by omega⟩
  unfold bor
  rw [p2_nat]
  simp only [Int.toNat_natCast]
  have h1 : tk.toNat ||| 2 ^ c < 2 ^ 6 := Nat.or_lt_two_pow (by omega) (Nat.pow_lt_pow_right (by omega) (by omega))
  omega
def tq (t : Int → Bool) (c : Int) : Int → Bool := fun d => t d || decide (d = c)
/-- crossings: so many ways to a sum, one row after another -/
def crf (n : Int) (f : Int → Int) : Nat → (Int → Bool) → Int → Int
  | 0, _, rest => if rest = 0 then 1 else 0
  | k + 1, t, rest => sm (fun c => if t c = false ∧ f (n * (n - (k + 1)) + c) ≤ rest then crf n f k (tq t c) (rest - f (n * (n - (k + 1)) + c)) else 0) n.toNat
def crt (n : Int) (f : Int → Int) (k : Nat) (t : Int → Bool) (rest c : Int) : Int := if t c = false ∧ f (n * (n - (k + 1)) + c) ≤ rest then crf n f k (tq t c) (rest - f (n * (n - (k + 1)) + c)) else 0
theorem crf_s (n : Int) (f : Int → Int) (k : Nat) (t : Int → Bool) (rest : Int) : crf n f (k + 1) t rest = sm (crt n f k t rest) n.toNat := rfl
theorem crt_t {n row : Int} {f : Int → Int} {k : Nat} {t : Int → Bool} {rest c : Int} (e : n - (k + 1) = row) (h : t c = false) (h2 : f (n * row + c) ≤ rest) : crt n f k t rest c = crf n f k (tq t c) (rest - f (n * row + c)) := by
  unfold crt; rw [e, if_pos ⟨h, h2⟩]
theorem crt_f {n row : Int} {f : Int → Int} {k : Nat} {t : Int → Bool} {rest c : Int} (e : n - (k + 1) = row) (h : ¬ (t c = false ∧ f (n * row + c) ≤ rest)) : crt n f k t rest c = 0 := by
  unfold crt; rw [e, if_neg h]
theorem bit_q {tk c : Int} {t : Int → Bool} (h : 0 ≤ tk ∧ tk < 64) (hc : 0 ≤ c ∧ c < 6) (hb : ∀ d, 0 ≤ d → d < 6 → (bnd2 tk (p2 d) ≠ 0 ↔ t d = true)) : ∀ d, 0 ≤ d → d < 6 → (bnd2 (bor tk (p2 c)) (p2 d) ≠ 0 ↔ tq t c d = true) := by
  intro d a b
  rw [bit6 h hc ⟨a, b⟩, hb d a b]
  unfold tq
  rw [Bool.or_eq_true, decide_eq_true_eq]
theorem bor_z {a b : Int} (ha : 0 ≤ a) (hb : 0 ≤ b) : zi a ||| zi b = zi (bor a b) := by
  unfold bor
  rw [← zn_or, Int.toNat_of_nonneg ha, Int.toNat_of_nonneg hb]
