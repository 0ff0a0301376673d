theorem SMLE {F : Int → Int} : ∀ {N : Nat}, (∀ k : Int, 0 ≤ k → k < N → F k ≤ 1) → sm F N ≤ N
  | 0, _ => by simp [sm]
  | N + 1, h => by
    have h1 := SMLE (N := N) (fun k a b => h k a (by omega))
    have h2 := h N (by omega) (by omega)
    rw [sm]; omega
theorem SMMUL (c : Int) (F : Int → Int) (N : Nat) : sm (fun p => c * F p) N = c * sm F N := by
  induction N with
  | zero => simp [sm]
  | succ N ih => rw [sm, sm, ih, Int.mul_add]
theorem SMONE (N : Nat) : sm (fun _ => 1) N = N := by
  induction N with
  | zero => rfl
  | succ N ih => rw [sm, ih]; omega
theorem cnt_one {f : Int → Int} {v : Int} : ∀ (N : Nat) (p : Int), 0 ≤ p → p < N → f p = v → 1 ≤ sm (fun p => if f p = v then 1 else 0) N
  | 0, p, a, b, _ => by omega
  | N + 1, p, a, b, h => by
    have hn : 0 ≤ sm (fun p => if f p = v then (1 : Int) else 0) N := sm_nn (fun k _ _ => by split <;> omega)
    rw [sm]
    by_cases e : p = N
    · rw [← e, if_pos h]; omega
    · have := cnt_one N p a (by omega) h
      split <;> omega
/-! normal squares of a side up to 3: all that fit are forms of one -/
theorem sm_add (F G : Int → Int) (N : Nat) : sm (fun i => F i + G i) N = sm F N + sm G N := by
  induction N with
  | zero => rfl
  | succ N ih => rw [sm, sm, sm, ih]; omega
theorem sm_swap (A : Int → Int → Int) (M : Nat) : ∀ N : Nat, sm (fun i => sm (fun j => A i j) M) N = sm (fun j => sm (fun i => A i j) N) M
  | 0 => by
    rw [sm]
    exact (sm_0f M (fun k => rfl)).symm
  | N + 1 => by
    rw [sm, sm_swap A M N]
    have e : (fun j : Int => sm (fun i => A i j) (N + 1)) = fun j => sm (fun i => A i j) N + A N j := by funext j; rfl
    rw [e, sm_add]
theorem sm_pick (x : Int) (w : Int → Int) : ∀ N : Nat, sm (fun v => if x = v + 1 then w (v + 1) else 0) N = if 1 ≤ x ∧ x ≤ N then w x else 0
  | 0 => by rw [sm, if_neg (by omega)]
  | N + 1 => by
    rw [sm, sm_pick x w N]
    by_cases h : x = (N : Int) + 1
    · rw [if_neg (by omega), if_pos h, if_pos (by omega), h]; omega
    · rw [if_neg h]
      by_cases h2 : 1 ≤ x ∧ x ≤ N
      · rw [if_pos h2, if_pos (by omega)]; omega
      · rw [if_neg h2, if_neg (by omega)]; omega
theorem sm_full {F : Int → Int} : ∀ N : Nat, (∀ k : Int, 0 ≤ k → k < N → F k ≤ 1) → (N : Int) ≤ sm F N → ∀ k : Int, 0 ≤ k → k < N → F k = 1
  | 0, _, _, k, a, b => by omega
  | N + 1, h, hs, k, a, b => by
    rw [sm] at hs
    have h1 := h N (by omega) (by omega)
    have h2 : sm F N ≤ N := SMLE (fun k a b => h k a (by omega))
    by_cases e : k = N
    · rw [e]; omega
    · exact sm_full N (fun k a b => h k a (by omega)) (by omega) k a (by omega)
theorem nrm_sum {n : Int} {f : Int → Int} (hn : 1 ≤ n ∧ n ≤ 9) (h : nrm n f) (w : Int → Int) : sm (fun p => if 1 ≤ f p ∧ f p ≤ n * n then w (f p) else 0) (n * n).toNat = sm (fun v => w (v + 1)) (n * n).toNat := by
  have hsq := sq9 hn
  have e1 : sm (fun p => if 1 ≤ f p ∧ f p ≤ n * n then w (f p) else 0) (n * n).toNat = sm (fun p => sm (fun v => if f p = v + 1 then w (v + 1) else 0) (n * n).toNat) (n * n).toNat := by
    apply sm_congr
    intro k _ _
    rw [sm_pick, Int.toNat_of_nonneg (by omega)]
  rw [e1, sm_swap (fun p v => if f p = v + 1 then w (v + 1) else 0)]
  apply sm_congr
  intro v a b
  have h1 := h (v + 1) (by omega) (by omega)
  unfold cnt at h1
  have e2 : (fun p : Int => if f p = v + 1 then w (v + 1) else 0) = fun p => w (v + 1) * (if f p = v + 1 then 1 else 0) := by
    funext p; split <;> simp
  rw [e2, SMMUL, h1, Int.mul_one]
theorem nrm_rng {n : Int} {f : Int → Int} (hn : 1 ≤ n ∧ n ≤ 9) (h : nrm n f) {p : Int} (hp : 0 ≤ p ∧ p < n * n) : 1 ≤ f p ∧ f p ≤ n * n := by
  have hsq := sq9 hn
  have h1 := nrm_sum hn h (fun _ => 1)
  have h2 : sm (fun _ => 1) (n * n).toNat = (n * n).toNat := SMONE _
  have h3 := sm_full (F := fun p => if 1 ≤ f p ∧ f p ≤ n * n then 1 else 0) (n * n).toNat (fun k _ _ => by split <;> omega) (by rw [h1, h2]; exact Int.le_refl _) p hp.1 (by omega)
  skip
  by_cases q : 1 ≤ f p ∧ f p ≤ n * n
  · exact q
  · rw [if_neg q] at h3; omega
theorem nrm_ful {n : Int} {f : Int → Int} (hn : 1 ≤ n ∧ n ≤ 9) (h : nrm n f) : ful n f := fun p a b => by have := nrm_rng hn h ⟨a, b⟩; omega
theorem cnt_two {f : Int → Int} {v : Int} : ∀ (N : Nat) (p r : Int), 0 ≤ p → p < r → r < N → f p = v → f r = v → 2 ≤ sm (fun p => if f p = v then 1 else 0) N
  | 0, p, r, a, b, c, _, _ => by omega
  | N + 1, p, r, a, b, c, h1, h2 => by
    rw [sm]
    by_cases e : r = N
    · rw [← e, if_pos h2]
      have := cnt_one (f := f) (v := v) N p a (by omega) h1
      omega
    · have := cnt_two N p r a b (by omega) h1 h2
      split <;> omega
theorem nrm_dst {n : Int} {f : Int → Int} (hn : 1 ≤ n ∧ n ≤ 9) (h : nrm n f) {p r : Int} (hp : 0 ≤ p ∧ p < r) (hr : r < n * n) : f p ≠ f r := by
  intro e
  have hsq := sq9 hn
  have h1 := nrm_rng hn h (p := r) (by omega)
  have h2 := h (f r) h1.1 h1.2
  have h3 := cnt_two (f := f) (v := f r) (n * n).toNat p r hp.1 hp.2 (by omega) e rfl
  unfold cnt at h2
  omega
theorem EN3p {a b c d e f g h i : Int} (b0 : 1 ≤ a ∧ a ≤ 9) (b1 : 1 ≤ b ∧ b ≤ 9) (b2 : 1 ≤ c ∧ c ≤ 9) (b3 : 1 ≤ d ∧ d ≤ 9) (b4 : 1 ≤ e ∧ e ≤ 9) (b5 : 1 ≤ f ∧ f ≤ 9) (b6 : 1 ≤ g ∧ g ≤ 9) (b7 : 1 ≤ h ∧ h ≤ 9) (b8 : 1 ≤ i ∧ i ≤ 9) (s0 : a + b + c = 15) (s1 : d + e + f = 15) (s2 : g + h + i = 15) (s3 : a + d + g = 15) (s4 : b + e + h = 15) (s5 : c + f + i = 15) (s6 : a + e + i = 15) (s7 : c + e + g = 15) (d01 : a ≠ b) (d02 : a ≠ c) (d03 : a ≠ d) (d04 : a ≠ e) (d05 : a ≠ f) (d06 : a ≠ g) (d07 : a ≠ h) (d08 : a ≠ i) (d12 : b ≠ c) (d13 : b ≠ d) (d14 : b ≠ e) (d15 : b ≠ f) (d16 : b ≠ g) (d17 : b ≠ h) (d18 : b ≠ i) (d23 : c ≠ d) (d24 : c ≠ e) (d25 : c ≠ f) (d26 : c ≠ g) (d27 : c ≠ h) (d28 : c ≠ i) (d34 : d ≠ e) (d35 : d ≠ f) (d36 : d ≠ g) (d37 : d ≠ h) (d38 : d ≠ i) (d45 : e ≠ f) (d46 : e ≠ g) (d47 : e ≠ h) (d48 : e ≠ i) (d56 : f ≠ g) (d57 : f ≠ h) (d58 : f ≠ i) (d67 : g ≠ h) (d68 : g ≠ i) (d78 : h ≠ i) : (a = 2 ∧ c = 6) ∨ (a = 4 ∧ c = 2) ∨ (a = 8 ∧ c = 4) ∨ (a = 6 ∧ c = 8) ∨ (a = 6 ∧ c = 2) ∨ (a = 8 ∧ c = 6) ∨ (a = 4 ∧ c = 8) ∨ (a = 2 ∧ c = 4) := by
  have he : e = 5 := by omega
  have ha : a = 1 ∨ a = 2 ∨ a = 3 ∨ a = 4 ∨ a = 5 ∨ a = 6 ∨ a = 7 ∨ a = 8 ∨ a = 9 := by omega
  have hc : c = 1 ∨ c = 2 ∨ c = 3 ∨ c = 4 ∨ c = 5 ∨ c = 6 ∨ c = 7 ∨ c = 8 ∨ c = 9 := by omega
  obtain rfl : b = 15 - a - c := by omega
  obtain rfl : g = 10 - c := by omega
  obtain rfl : i = 10 - a := by omega
  obtain rfl : d = 5 - a + c := by omega
  obtain rfl : f = 5 + a - c := by omega
  obtain rfl : h = a + c - 5 := by omega
  subst he
  clear s0 s1 s2 s3 s4 s5 s6 s7
  rcases ha with rfl | rfl | rfl | rfl | rfl | rfl | rfl | rfl | rfl <;> rcases hc with rfl | rfl | rfl | rfl | rfl | rfl | rfl | rfl | rfl <;> first | (exact absurd rfl d02) | (revert b1 b3 b5 b7; decide) | (revert d01 d03 d04 d05 d06 d07 d08 d12 d13 d14 d15 d16 d17 d18 d23 d24 d25 d26 d27 d28; decide) | decide
def qq (p : Int) : Int := [2, 7, 6, 9, 5, 1, 4, 3, 8].getD p.toNat 0
theorem fmp_cmp : ∀ i j : Fin 8, ∃ m : Fin 8, ∀ p : Fin 9, fmp 3 i.val (fmp 3 m.val p.val) = fmp 3 j.val p.val := by decide +kernel
theorem fmp_grp : ∀ i m : Fin 8, ∃ j : Fin 8, ∀ p : Fin 9, fmp 3 i.val (fmp 3 m.val p.val) = fmp 3 j.val p.val := by decide +kernel
theorem QQ : ∀ i : Fin 8, qq (fmp 3 i.val 4) = 5 ∧ qq (fmp 3 i.val 0) + qq (fmp 3 i.val 8) = 10 ∧ qq (fmp 3 i.val 2) + qq (fmp 3 i.val 6) = 10 ∧ qq (fmp 3 i.val 0) + qq (fmp 3 i.val 1) + qq (fmp 3 i.val 2) = 15 ∧ qq (fmp 3 i.val 1) + qq (fmp 3 i.val 7) = 10 ∧ qq (fmp 3 i.val 0) + qq (fmp 3 i.val 3) + qq (fmp 3 i.val 6) = 15 ∧ qq (fmp 3 i.val 3) + qq (fmp 3 i.val 5) = 10 := by decide +kernel
theorem EN3 {g : Int → Int} (hb : ∀ p, 0 ≤ p → p < 9 → 1 ≤ g p ∧ g p ≤ 9) (hd : ∀ p r, 0 ≤ p → p < r → r < 9 → g p ≠ g r) (s0 : g 0 + g 1 + g 2 = 15) (s1 : g 3 + g 4 + g 5 = 15) (s2 : g 6 + g 7 + g 8 = 15) (s3 : g 0 + g 3 + g 6 = 15) (s4 : g 1 + g 4 + g 7 = 15) (s5 : g 2 + g 5 + g 8 = 15) (s6 : g 0 + g 4 + g 8 = 15) (s7 : g 2 + g 4 + g 6 = 15) : ∃ i : Int, (0 ≤ i ∧ i < 8) ∧ ∀ p, 0 ≤ p → p < 9 → g p = qq (fmp 3 i p) := by
  have h := EN3p (hb 0 (by omega) (by omega)) (hb 1 (by omega) (by omega)) (hb 2 (by omega) (by omega)) (hb 3 (by omega) (by omega)) (hb 4 (by omega) (by omega)) (hb 5 (by omega) (by omega)) (hb 6 (by omega) (by omega)) (hb 7 (by omega) (by omega)) (hb 8 (by omega) (by omega)) s0 s1 s2 s3 s4 s5 s6 s7 (hd 0 1 (by omega) (by omega) (by omega)) (hd 0 2 (by omega) (by omega) (by omega)) (hd 0 3 (by omega) (by omega) (by omega)) (hd 0 4 (by omega) (by omega) (by omega)) (hd 0 5 (by omega) (by omega) (by omega)) (hd 0 6 (by omega) (by omega) (by omega)) (hd 0 7 (by omega) (by omega) (by omega)) (hd 0 8 (by omega) (by omega) (by omega)) (hd 1 2 (by omega) (by omega) (by omega)) (hd 1 3 (by omega) (by omega) (by omega)) (hd 1 4 (by omega) (by omega) (by omega)) (hd 1 5 (by omega) (by omega) (by omega)) (hd 1 6 (by omega) (by omega) (by omega)) (hd 1 7 (by omega) (by omega) (by omega)) (hd 1 8 (by omega) (by omega) (by omega)) (hd 2 3 (by omega) (by omega) (by omega)) (hd 2 4 (by omega) (by omega) (by omega)) (hd 2 5 (by omega) (by omega) (by omega)) (hd 2 6 (by omega) (by omega) (by omega)) (hd 2 7 (by omega) (by omega) (by omega)) (hd 2 8 (by omega) (by omega) (by omega)) (hd 3 4 (by omega) (by omega) (by omega)) (hd 3 5 (by omega) (by omega) (by omega)) (hd 3 6 (by omega) (by omega) (by omega)) (hd 3 7 (by omega) (by omega) (by omega)) (hd 3 8 (by omega) (by omega) (by omega)) (hd 4 5 (by omega) (by omega) (by omega)) (hd 4 6 (by omega) (by omega) (by omega)) (hd 4 7 (by omega) (by omega) (by omega)) (hd 4 8 (by omega) (by omega) (by omega)) (hd 5 6 (by omega) (by omega) (by omega)) (hd 5 7 (by omega) (by omega) (by omega)) (hd 5 8 (by omega) (by omega) (by omega)) (hd 6 7 (by omega) (by omega) (by omega)) (hd 6 8 (by omega) (by omega) (by omega)) (hd 7 8 (by omega) (by omega) (by omega))
  have key : ∀ i : Fin 8, g 0 = qq (fmp 3 i.val 0) → g 2 = qq (fmp 3 i.val 2) → ∃ i : Int, (0 ≤ i ∧ i < 8) ∧ ∀ p, 0 ≤ p → p < 9 → g p = qq (fmp 3 i p) := by
    intro i h0 h2
    have e4 : g 4 = 5 := by omega
    have hq := QQ i
    refine ⟨i.val, by omega, fun p a b => ?_⟩
    have hp : p = 0 ∨ p = 1 ∨ p = 2 ∨ p = 3 ∨ p = 4 ∨ p = 5 ∨ p = 6 ∨ p = 7 ∨ p = 8 := by omega
    rcases hp with rfl | rfl | rfl | rfl | rfl | rfl | rfl | rfl | rfl <;> omega
  rcases h with ⟨h0, h2⟩ | ⟨h0, h2⟩ | ⟨h0, h2⟩ | ⟨h0, h2⟩ | ⟨h0, h2⟩ | ⟨h0, h2⟩ | ⟨h0, h2⟩ | ⟨h0, h2⟩
  · exact key 0 (by rw [h0]; decide) (by rw [h2]; decide)
  · exact key 1 (by rw [h0]; decide) (by rw [h2]; decide)
  · exact key 2 (by rw [h0]; decide) (by rw [h2]; decide)
  · exact key 3 (by rw [h0]; decide) (by rw [h2]; decide)
  · exact key 4 (by rw [h0]; decide) (by rw [h2]; decide)
  · exact key 5 (by rw [h0]; decide) (by rw [h2]; decide)
  · exact key 6 (by rw [h0]; decide) (by rw [h2]; decide)
  · exact key 7 (by rw [h0]; decide) (by rw [h2]; decide)
