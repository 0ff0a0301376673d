noncomputable def bi (P : Prop) : Int := @ite Int P (Classical.propDecidable P) 1 0
theorem bi_t {P : Prop} (h : P) : bi P = 1 := by unfold bi; exact @if_pos P (Classical.propDecidable P) h Int 1 0
theorem bi_f {P : Prop} (h : ¬ P) : bi P = 0 := by unfold bi; exact @if_neg P (Classical.propDecidable P) h Int 1 0
theorem bi_c {P Q : Prop} (h : P ↔ Q) : bi P = bi Q := by rw [propext h]
theorem bi_r (P : Prop) : bi P = 0 ∨ bi P = 1 := by
  by_cases h : P
  · right; exact bi_t h
  · left; exact bi_f h
noncomputable def ci {α : Type} (P : Prop) (a b : α) : α := @ite α P (Classical.propDecidable P) a b
theorem ci_t {α : Type} {P : Prop} {a b : α} (h : P) : ci P a b = a := by unfold ci; exact @if_pos P (Classical.propDecidable P) h α a b
theorem ci_f {α : Type} {P : Prop} {a b : α} (h : ¬ P) : ci P a b = b := by unfold ci; exact @if_neg P (Classical.propDecidable P) h α a b
theorem ci_c {α : Type} {P Q : Prop} {a b : α} (h : P ↔ Q) : ci P a b = ci Q a b := by rw [propext h]
/-- a figure that stands in the memory -/
def FG (x : Me) (q : Nat) : Prop := q < 9 ∧ (1 ≤ x (10 + q) 1 ∧ x (10 + q) 1 ≤ 9) ∧ ∀ p, 0 ≤ p → p < 81 → 0 ≤ x (20 + q) p ∧ x (20 + q) p ≤ 999
theorem nc_rng {x : Me} {q : Nat} (h : FG x q) (p : Int) : 0 ≤ nc x q p ∧ nc x q p ≤ 999 := by
  unfold nc; split
  · next h1 => exact h.2.2 p h1.1 h1.2
  · omega
def FR (f : Int → Int) : Prop := ∀ p, 0 ≤ f p ∧ f p ≤ 999
theorem FG.r {x : Me} {q : Nat} (h : FG x q) : FR (nc x q) := nc_rng h
theorem lsum_rng {n : Int} {f : Int → Int} (hn : 1 ≤ n ∧ n ≤ 9) (hf : FR f) (k l : Int) : 0 ≤ lsum n f k l ∧ lsum n f k l ≤ 8991 := by
  have h := sm_rng (f := fun i => f (onl n k l i)) (a := 0) (b := 999) (n := n.toNat) (fun i _ _ => hf _)
  unfold lsum; omega
theorem lpow_rng {n : Int} {f : Int → Int} (hn : 1 ≤ n ∧ n ≤ 9) (hf : FR f) (k l : Int) : 0 ≤ lpow n f k l ∧ lpow n f k l ≤ 8982009 := by
  have h := sm_rng (f := fun i => f (onl n k l i) * f (onl n k l i)) (a := 0) (b := 998001) (n := n.toNat) (fun i _ _ => by
    have h1 := hf (onl n k l i)
    exact ⟨Int.mul_nonneg h1.1 h1.1, by have := Int.mul_le_mul h1.2 h1.2 h1.1 (by decide); omega⟩)
  unfold lpow; omega
theorem cnt_rng {n : Int} {f : Int → Int} (hn : 1 ≤ n ∧ n ≤ 9) (v : Int) : 0 ≤ cnt n f v ∧ cnt n f v ≤ 81 := by
  have h := sm_rng (f := fun p => if f p = v then 1 else 0) (a := 0) (b := 1) (n := (n * n).toNat) (fun i _ _ => by split <;> omega)
  have := sq9 hn
  unfold cnt; omega
theorem sm_nn {f : Int → Int} {n : Nat} (h : ∀ k : Int, 0 ≤ k → k < n → 0 ≤ f k) : 0 ≤ sm f n := by
  induction n with
  | zero => simp [sm]
  | succ n ih =>
    have h1 := ih (fun k h0 h1 => h k h0 (by omega))
    have h2 := h n (by omega) (by omega)
    rw [sm]; omega
theorem sm_zero {f : Int → Int} {n : Nat} (h : ∀ k : Int, 0 ≤ k → k < n → 0 ≤ f k) : sm f n = 0 ↔ ∀ k : Int, 0 ≤ k → k < n → f k = 0 := by
  induction n with
  | zero => simp only [sm, true_iff]; intro k h0 h1; omega
  | succ n ih =>
    have h1 := sm_nn (fun k h0 h1 => h k h0 (show k < ((n + 1 : Nat) : Int) by omega)) (n := n)
    have h2 := h n (by omega) (by omega)
    have h3 := ih (fun k h0 h1 => h k h0 (by omega))
    rw [sm]
    constructor
    · intro e k h0 hk
      by_cases hkn : k = n
      · subst hkn; omega
      · exact h3.mp (by omega) k h0 (by omega)
    · intro e
      rw [h3.mpr (fun k h0 hk => e k h0 (by omega)), e n (by omega) (by omega)]; rfl
theorem cnt_0 {n : Int} {f : Int → Int} {v : Int} (hn : 1 ≤ n ∧ n ≤ 9) : cnt n f v = 0 ↔ ∀ p, 0 ≤ p → p < n * n → f p ≠ v := by
  have := sq9 hn
  unfold cnt
  rw [sm_zero (fun k _ _ => by split <;> omega)]
  constructor
  · intro h p h0 h1 e
    have := h p h0 (by omega)
    simp [e] at this
  · intro h k h0 h1
    rw [if_neg (h k h0 (by omega))]
def lna (n : Int) (f : Int → Int) (kind due : Int) : Prop := ∀ l, 0 ≤ l → l < n → lsum n f kind l = due
def dia (n : Int) (f : Int → Int) (due : Int) : Prop := lsum n f 2 0 = due ∧ lsum n f 3 (n - 1) = due
def mag (n : Int) (f : Int → Int) : Prop := lna n f 0 (lsum n f 0 0) ∧ lna n f 1 (lsum n f 0 0) ∧ dia n f (lsum n f 0 0)
def opo (n : Int) (f : Int → Int) : Prop := ∀ p, 0 ≤ p → p < n * n → f p + f (n * n - 1 - p) = f 0 + f (n * n - 1)
def nrm (n : Int) (f : Int → Int) : Prop := ∀ v, 1 ≤ v → v ≤ n * n → cnt n f v = 1
def pwr (n : Int) (f : Int → Int) : Prop := ∀ l, 0 ≤ l → l < n → lpow n f 0 l = lpow n f 0 0 ∧ lpow n f 1 l = lpow n f 0 0
def ful (n : Int) (f : Int → Int) : Prop := ∀ p, 0 ≤ p → p < n * n → f p ≠ 0
def lwV (n : Int) (f : Int → Int) (v : Int) : Prop :=
  (v = 1 ∧ ful n f) ∨ (v = 2 ∧ lna n f 0 (lsum n f 0 0)) ∨ (v = 4 ∧ lna n f 1 (lsum n f 0 0)) ∨ (v = 8 ∧ dia n f (lsum n f 0 0)) ∨ (v = 16 ∧ lna n f 2 (lsum n f 0 0) ∧ lna n f 3 (lsum n f 0 0)) ∨ (v = 32 ∧ opo n f) ∨ (v = 64 ∧ nrm n f) ∨ (v = 128 ∧ pwr n f)
theorem lwV_1 (n : Int) (f : Int → Int) : lwV n f 1 ↔ ful n f := by unfold lwV; simp
theorem lwV_2 (n : Int) (f : Int → Int) : lwV n f 2 ↔ lna n f 0 (lsum n f 0 0) := by unfold lwV; simp
theorem lwV_4 (n : Int) (f : Int → Int) : lwV n f 4 ↔ lna n f 1 (lsum n f 0 0) := by unfold lwV; simp
theorem lwV_8 (n : Int) (f : Int → Int) : lwV n f 8 ↔ dia n f (lsum n f 0 0) := by unfold lwV; simp
theorem lwV_16 (n : Int) (f : Int → Int) : lwV n f 16 ↔ lna n f 2 (lsum n f 0 0) ∧ lna n f 3 (lsum n f 0 0) := by unfold lwV; simp
theorem lwV_32 (n : Int) (f : Int → Int) : lwV n f 32 ↔ opo n f := by unfold lwV; simp
theorem lwV_64 (n : Int) (f : Int → Int) : lwV n f 64 ↔ nrm n f := by unfold lwV; simp
theorem lwV_128 (n : Int) (f : Int → Int) : lwV n f 128 ↔ pwr n f := by unfold lwV; simp
noncomputable def lws (n : Int) (f : Int → Int) : Nat → Int
  | 0 => 0
  | k + 1 => lws n f k + p2 k * bi (lwV n f (p2 k))
theorem lws_rng (n : Int) (f : Int → Int) (k : Nat) : 0 ≤ lws n f k ∧ lws n f k < p2 k := by
  induction k with
  | zero => simp [lws, p2]
  | succ k ih =>
    have e : p2 ((k + 1 : Nat) : Int) = 2 * p2 k := by
      rw [p2_nat, p2_nat, Nat.pow_succ]; omega
    rw [lws, e]
    rcases bi_r (lwV n f (p2 k)) with h | h <;> rw [h] <;> omega
theorem p2_8 {k : Int} (h : 0 ≤ k ∧ k < 8) : p2 k = 1 ∨ p2 k = 2 ∨ p2 k = 4 ∨ p2 k = 8 ∨ p2 k = 16 ∨ p2 k = 32 ∨ p2 k = 64 ∨ p2 k = 128 := by
  have h1 : k = 0 ∨ k = 1 ∨ k = 2 ∨ k = 3 ∨ k = 4 ∨ k = 5 ∨ k = 6 ∨ k = 7 := by omega
  rcases h1 with rfl | rfl | rfl | rfl | rfl | rfl | rfl | rfl <;> simp [p2]
theorem or_p2 {a k : Int} (ha : 0 ≤ a ∧ a < p2 k) (hk : 0 ≤ k) : zi a ||| zi (p2 k) = zi (a + p2 k) := by
  obtain ⟨n, rfl⟩ : ∃ n : Nat, k = n := ⟨k.toNat, by omega⟩
  obtain ⟨m, rfl⟩ : ∃ m : Nat, a = m := ⟨a.toNat, by omega⟩
  rw [p2_nat] at ha ⊢
  rw [zn_or]
  congr 1
  have h := Nat.two_pow_add_eq_or_of_lt (i := n) (b := m) (by omega) 1
  rw [Nat.mul_one] at h
  rw [Nat.or_comm, ← h]; omega
def fmp (n form p : Int) : Int := fli n (form / 4) (tur n (form % 4) p)
def isF (n : Int) (f : Int → Int) (form : Int) (h : Int → Int) : Prop := ∀ p, 0 ≤ p → p < n * n → f (fmp n form p) = h p
def lwr (n : Int) (f : Int → Int) (a b : Int) : Prop := ∃ p, 0 ≤ p ∧ p < n * n ∧ (∀ r, 0 ≤ r → r < p → f (fmp n a r) = f (fmp n b r)) ∧ f (fmp n a p) < f (fmp n b p)
noncomputable def lst (n : Int) (f : Int → Int) : Nat → Int
  | 0 => 0
  | k + 1 => ci (lwr n f ((k : Int) + 1) (lst n f k)) ((k : Int) + 1) (lst n f k)
theorem lst_s (n : Int) (f : Int → Int) {i : Int} (h : 1 ≤ i) : lst n f i.toNat = ci (lwr n f i (lst n f (i - 1).toNat)) i (lst n f (i - 1).toNat) := by
  have e : i.toNat = (i - 1).toNat + 1 := by omega
  have e2 : ((i - 1).toNat : Int) + 1 = i := by omega
  rw [e, lst, e2]
theorem fmp_rng {n form p : Int} (h : 1 ≤ n ∧ n ≤ 9) (hp : 0 ≤ p ∧ p < n * n) : 0 ≤ fmp n form p ∧ fmp n form p < n * n := fli_rng h (tur_rng h hp)
def uf (f : Int → Int) (p v : Int) : Int → Int := fun a => if a = p then v else f a
theorem nc_up {x : Me} {q : Nat} {p v : Int} (h : 0 ≤ p ∧ p < 81) : nc (up x (20 + q) p v) q = uf (nc x q) p v := by
  funext a
  unfold nc uf up
  by_cases h1 : a = p
  · subst h1; rw [if_pos h, if_pos (by omega), if_pos rfl]
  · rw [if_neg h1]
    by_cases h2 : 0 ≤ a ∧ a < 81
    · rw [if_pos h2, if_neg (by omega)]; exact (if_pos h2).symm
    · rw [if_neg h2]; exact (if_neg h2).symm
theorem nc_of {x y : Me} {q : Nat} (h : y (20 + q) = x (20 + q)) : nc y q = nc x q := by
  funext a; unfold nc; rw [h]
