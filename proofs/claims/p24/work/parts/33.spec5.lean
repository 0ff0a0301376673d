/-! completions: lines of a small square, what fits, the list of completions -/
def ono (n l p : Int) : Prop := (l < n ∧ p / n = l) ∨ (n ≤ l ∧ l < 2 * n ∧ p % n = l - n) ∨ (l = 2 * n ∧ p / n = p % n) ∨ (l = 2 * n + 1 ∧ p / n + p % n = n - 1)
noncomputable def lsm (n : Int) (g : Int → Int) (l : Int) : Int := sm (fun p => ci (ono n l p) (g p) 0) (n * n).toNat
noncomputable def lck (n : Int) (g : Int → Int) (l : Int) : Int := sm (fun p => bi (ono n l p ∧ g p = 0)) (n * n).toNat
def du (n : Int) : Int := n * (n * n + 1) / 2
def lnf (n : Int) (g : Int → Int) (l : Int) : Prop := (lck n g l = 0 → lsm n g l = du n) ∧ (lck n g l ≠ 0 → lsm n g l < du n)
def dst (n : Int) (g : Int → Int) : Prop := ∀ p, 0 ≤ p → p < n * n → ∀ r, 0 ≤ r → r < n * n → p ≠ r → g p ≠ 0 → g p ≠ g r
def fit (n : Int) (g : Int → Int) : Prop := (∀ l, 0 ≤ l → l < 2 * n + 2 → lnf n g l) ∧ (∀ p, 0 ≤ p → p < n * n → g p ≤ n * n) ∧ dst n g
def usd (n : Int) (g : Int → Int) (v : Int) : Prop := 1 ≤ v ∧ ∃ p, 0 ≤ p ∧ p < n * n ∧ g p = v
theorem uf_s (f : Int → Int) (p v : Int) : uf f p v p = v := if_pos rfl
theorem uf_n (f : Int → Int) {p a : Int} (v : Int) (h : a ≠ p) : uf f p v a = f a := if_neg h
theorem sm_at {F F' : Int → Int} {p : Int} {N : Nat} (hp : 0 ≤ p ∧ p < N) (h : ∀ a, a ≠ p → F' a = F a) : sm F' N = sm F N + (F' p - F p) := by
  induction N with
  | zero => omega
  | succ N ih =>
    rw [sm, sm]
    by_cases e : p = N
    · subst e
      rw [sm_congr (f := F') (g := F) (fun k h0 h1 => h k (by omega))]; omega
    · rw [ih (by omega), h N (fun q => e q.symm)]; omega
theorem lsm_uf {n : Int} {g : Int → Int} {p v : Int} (hp : 0 ≤ p ∧ p < n * n) (h0 : g p = 0) (l : Int) : lsm n (uf g p v) l = lsm n g l + ci (ono n l p) v 0 := by
  unfold lsm
  rw [sm_at (F := fun p => ci (ono n l p) (g p) 0) (p := p) (by omega) (fun a ha => by rw [uf_n _ _ ha])]
  rw [uf_s, h0]
  by_cases h : ono n l p
  · rw [ci_t h, ci_t h]; omega
  · rw [ci_f h, ci_f h]; omega
theorem lck_uf {n : Int} {g : Int → Int} {p v : Int} (hp : 0 ≤ p ∧ p < n * n) (h0 : g p = 0) (hv : v ≠ 0) (l : Int) : lck n (uf g p v) l = lck n g l - bi (ono n l p) := by
  unfold lck
  rw [sm_at (F := fun p => bi (ono n l p ∧ g p = 0)) (p := p) (by omega) (fun a ha => by rw [uf_n _ _ ha])]
  rw [uf_s, bi_f (fun h => hv h.2), bi_c (show (ono n l p ∧ g p = 0) ↔ ono n l p from ⟨fun h => h.1, fun h => ⟨h, h0⟩⟩)]
  omega
theorem usd_uf {n : Int} {g : Int → Int} {p v : Int} (hp : 0 ≤ p ∧ p < n * n) (h0 : g p = 0) (hv : 1 ≤ v) (w : Int) : usd n (uf g p v) w ↔ w = v ∨ usd n g w := by
  constructor
  · rintro ⟨h1, r, a, b, c⟩
    by_cases e : r = p
    · subst e; rw [uf_s] at c; exact Or.inl c.symm
    · rw [uf_n _ _ e] at c; exact Or.inr ⟨h1, r, a, b, c⟩
  · rintro (rfl | ⟨h1, r, a, b, c⟩)
    · exact ⟨hv, p, hp.1, hp.2, uf_s _ _ _⟩
    · refine ⟨h1, r, a, b, ?_⟩
      rw [uf_n _ _ (fun e => by subst e; omega)]; exact c
theorem lck_nn (n : Int) (g : Int → Int) (l : Int) : 0 ≤ lck n g l := sm_nn (fun k _ _ => by rcases bi_r (ono n l k ∧ g k = 0) with h | h <;> omega)
theorem lck_pos {n : Int} {g : Int → Int} {l p : Int} (hp : 0 ≤ p ∧ p < n * n) (h0 : g p = 0) (ho : ono n l p) : 1 ≤ lck n g l := by
  have h := lck_nn n g l
  rcases Int.lt_or_eq_of_le h with h1 | h1
  · omega
  · have h2 := (sm_zero (f := fun p => bi (ono n l p ∧ g p = 0)) (n := (n * n).toNat) (fun k _ _ => by rcases bi_r (ono n l k ∧ g k = 0) with h | h <;> omega)).mp h1.symm p hp.1 (by omega)
    rw [bi_t ⟨ho, h0⟩] at h2; omega
theorem lck_rng {n : Int} {g : Int → Int} (hn : 1 ≤ n ∧ n ≤ 9) (l : Int) : 0 ≤ lck n g l ∧ lck n g l ≤ 81 := by
  have h := sm_rng (f := fun p => bi (ono n l p ∧ g p = 0)) (a := 0) (b := 1) (n := (n * n).toNat) (fun k _ _ => by rcases bi_r (ono n l k ∧ g k = 0) with h | h <;> omega)
  have := sq9 hn
  unfold lck; omega
theorem lsm_rng {n : Int} {g : Int → Int} (hn : 1 ≤ n ∧ n ≤ 9) (hg : ∀ p, 0 ≤ p → p < n * n → 0 ≤ g p ∧ g p ≤ 999) (l : Int) : 0 ≤ lsm n g l ∧ lsm n g l ≤ 81000 := by
  have := sq9 hn
  have h := sm_rng (f := fun p => ci (ono n l p) (g p) 0) (a := 0) (b := 999) (n := (n * n).toNat) (fun k a b => by
    have := hg k a (by omega)
    by_cases h : ono n l k
    · rw [ci_t h]; omega
    · rw [ci_f h]; omega)
  unfold lsm; omega
theorem du_rng {n : Int} (hn : 1 ≤ n ∧ n ≤ 4) : 1 ≤ du n ∧ du n ≤ 34 := by
  have h1 : n = 1 ∨ n = 2 ∨ n = 3 ∨ n = 4 := by omega
  rcases h1 with rfl | rfl | rfl | rfl <;> decide
/-- a number at an empty point of a square that fits -/
theorem fit_step {n : Int} {g : Int → Int} {p v : Int} (hf : fit n g) (hp : 0 ≤ p ∧ p < n * n) (h0 : g p = 0) (hv : 1 ≤ v) : fit n (uf g p v) ↔ v ≤ n * n ∧ ¬ usd n g v ∧ ∀ l, 0 ≤ l → l < 2 * n + 2 → ono n l p → (lck n g l = 1 → v = du n - lsm n g l) ∧ (lck n g l ≠ 1 → v < du n - lsm n g l) := by
  obtain ⟨f1, f2, f3⟩ := hf
  constructor
  · rintro ⟨a1, a2, a3⟩
    refine ⟨?_, ?_, ?_⟩
    · have := a2 p hp.1 hp.2; rw [uf_s] at this; exact this
    · rintro ⟨-, r, b1, b2, b3⟩
      have hne : p ≠ r := fun e => by subst e; omega
      have := a3 p hp.1 hp.2 r b1 b2 hne (by rw [uf_s]; omega)
      rw [uf_s, uf_n _ _ (Ne.symm hne)] at this
      exact this b3.symm
    · intro l l0 l1 ho
      have := a1 l l0 l1
      unfold lnf at this
      rw [lsm_uf hp h0, lck_uf hp h0 (by omega), ci_t ho, bi_t ho] at this
      have hk := lck_pos hp h0 ho
      constructor
      · intro e; have := this.1 (by omega); omega
      · intro e; have := this.2 (by omega); omega
  · rintro ⟨a1, a2, a3⟩
    refine ⟨?_, ?_, ?_⟩
    · intro l l0 l1
      unfold lnf
      rw [lsm_uf hp h0, lck_uf hp h0 (by omega)]
      by_cases ho : ono n l p
      · rw [ci_t ho, bi_t ho]
        have := a3 l l0 l1 ho
        have hk := lck_pos hp h0 ho
        constructor
        · intro e; have := this.1 (by omega); omega
        · intro e; have := this.2 (by omega); omega
      · rw [ci_f ho, bi_f ho]
        have := f1 l l0 l1
        unfold lnf at this
        constructor
        · intro e; have := this.1 (by omega); omega
        · intro e; have := this.2 (by omega); omega
    · intro r b1 b2
      by_cases e : r = p
      · subst e; rw [uf_s]; exact a1
      · rw [uf_n _ _ e]; exact f2 r b1 b2
    · intro r b1 b2 s c1 c2 hne hr0
      by_cases e : r = p
      · subst e
        rw [uf_s, uf_n _ _ (Ne.symm hne)]
        intro e2; exact a2 ⟨hv, s, c1, c2, e2.symm⟩
      · rw [uf_n _ _ e] at hr0 ⊢
        by_cases e2 : s = p
        · subst e2
          rw [uf_s]
          intro e3
          by_cases e4 : 1 ≤ g r
          · exact a2 ⟨hv, r, b1, b2, e3⟩
          · omega
        · rw [uf_n _ _ e2]; exact f3 r b1 b2 s c1 c2 hne hr0
/-- F of 1, of 2, .. of k, one behind the other -/
def vls {α : Type} (F : Int → List α) : Nat → List α
  | 0 => []
  | v + 1 => vls F v ++ F ((v : Int) + 1)
theorem vls_none {α : Type} {F : Int → List α} {a b : Nat} (h : a ≤ b) (hF : ∀ v : Int, a < v → v ≤ b → F v = []) : vls F b = vls F a := by
  induction b with
  | zero => rw [show a = 0 by omega]
  | succ b ih =>
    by_cases e : a = b + 1
    · rw [e]
    · rw [vls, ih (by omega) (fun v h1 h2 => hF v h1 (by omega)), hF ((b : Int) + 1) (by omega) (by omega), List.append_nil]
theorem vls_s {α : Type} (F : Int → List α) {v : Int} (h : 1 ≤ v) : vls F v.toNat = vls F (v - 1).toNat ++ F v := by
  have e : v.toNat = (v - 1).toNat + 1 := by omega
  have e2 : ((v - 1).toNat : Int) + 1 = v := by omega
  rw [e, vls, e2]
noncomputable def sols (n : Int) (e : Int → Int) : Nat → Int → (Int → Int) → List (Int → Int)
  | 0, _, g => [g]
  | r + 1, k, g => vls (fun v => ci (fit n (uf g (e k) v)) (sols n e r (k + 1) (uf g (e k) v)) []) (n * n).toNat
/-- how many numbers are used -/
noncomputable def usc (n : Int) (g : Int → Int) : Int := sm (fun v => bi (usd n g (v + 1))) (n * n).toNat
theorem vls_len {α : Type} {F : Int → List α} {c : Int → Int} {B : Int} (hB : 0 ≤ B) : ∀ N : Nat, (∀ v : Int, 1 ≤ v → v ≤ N → (F v).length ≤ B * c (v - 1)) → ((vls F N).length : Int) ≤ B * sm c N
  | 0, _ => by simp [vls, sm]
  | N + 1, h => by
    have h1 := vls_len hB N (fun v a b => h v a (by omega))
    have h2 := h ((N : Int) + 1) (by omega) (by omega)
    rw [show (N : Int) + 1 - 1 = N by omega] at h2
    rw [vls, List.length_append, sm, Int.mul_add]
    omega
def fac : Nat → Int
  | 0 => 1
  | k + 1 => fac k * (k + 1)
theorem fac_nn (k : Nat) : 1 ≤ fac k := by
  induction k with
  | zero => decide
  | succ k ih =>
    rw [fac]
    have := Int.mul_le_mul ih (show (1 : Int) ≤ (k : Int) + 1 by omega) (by decide) (by omega)
    omega
theorem usc_uf {n : Int} {g : Int → Int} {p v : Int} (hp : 0 ≤ p ∧ p < n * n) (h0 : g p = 0) (hv : 1 ≤ v ∧ v ≤ n * n) (hu : ¬ usd n g v) : usc n (uf g p v) = usc n g + 1 := by
  unfold usc
  rw [sm_at (F := fun v => bi (usd n g (v + 1))) (p := v - 1) (by omega) (fun a ha => bi_c (by rw [usd_uf hp h0 hv.1]; exact ⟨fun h => h.elim (fun e => absurd e (by omega)) id, Or.inr⟩))]
  rw [show v - 1 + 1 = v by omega, bi_f hu, bi_t ((usd_uf hp h0 hv.1 v).mpr (Or.inl rfl))]; omega
theorem sols_len {n : Int} {e : Int → Int} : ∀ (r : Nat) (k : Int) (g : Int → Int), (∀ j, k ≤ j → j < k + r → (0 ≤ e j ∧ e j < n * n) ∧ g (e j) = 0) → (∀ i j, k ≤ i → i < j → j < k + r → e i ≠ e j) → usc n g + r = n * n → fit n g → ((sols n e r k g).length : Int) ≤ fac r
  | 0, _, _, _, _, _, _ => by simp [sols, fac]
  | r + 1, k, g, h1, h2, h3, hf => by
    rw [sols, fac]
    have hk := h1 k (by omega) (by omega)
    refine Int.le_trans (vls_len (c := fun v => 1 - bi (usd n g (v + 1))) (B := fac r) (by have := fac_nn r; omega) _ (fun v a b => ?_)) ?_
    · by_cases hfv : fit n (uf g (e k) v)
      · have hs := (fit_step hf hk.1 hk.2 a).mp hfv
        rw [ci_t hfv]
        rw [show v - 1 + 1 = v by omega, bi_f hs.2.1]
        have := sols_len r (k + 1) (uf g (e k) v) (fun j a1 a2 => ⟨(h1 j (by omega) (by omega)).1, by rw [uf_n _ _ (fun q => h2 k j (by omega) (by omega) (by omega) q.symm)]; exact (h1 j (by omega) (by omega)).2⟩) (fun i j a1 a2 a3 => h2 i j (by omega) a2 (by omega)) (by rw [usc_uf hk.1 hk.2 ⟨a, hs.1⟩ hs.2.1]; omega) hfv
        omega
      · rw [ci_f hfv]
        have hF := fac_nn r
        rcases bi_r (usd n g (v - 1 + 1)) with h | h <;> rw [h] <;> simp <;> omega
    · have e1 : sm (fun v => 1 - bi (usd n g (v + 1))) (n * n).toNat = (n * n).toNat - usc n g := by
        unfold usc
        generalize (n * n).toNat = N
        induction N with
        | zero => rfl
        | succ N ih => rw [sm, sm, ih]; omega
      rw [e1]
      have : ((n * n).toNat : Int) - usc n g = r + 1 := by omega
      rw [this]
      exact Int.le_refl _
