/-! squares that are right: all numbers once, all lines of one sum -/
def sS (n : Int) (f : Int → Int) (a s : Int) : Prop := sm (fun i => f (a + i * s)) n.toNat = du n
def nOk (n : Int) (f : Int → Int) : Prop := (∀ p, 0 ≤ p → p < n * n → 1 ≤ f p ∧ f p ≤ n * n) ∧ ∀ p, 0 ≤ p → p < n * n → ∀ r, 0 ≤ r → r < n * n → p ≠ r → f p ≠ f r
def lOk (n : Int) (f : Int → Int) : Prop := (sS n f 0 (n + 1) ∧ sS n f (n - 1) (n - 1)) ∧ ∀ k, 0 ≤ k → k < n → sS n f (n * k) 1 ∧ sS n f k n
def Rt (n : Int) (f : Int → Int) : Prop := (n = 3 ∨ n = 4) ∧ nOk n f ∧ lOk n f
theorem n34 {n : Int} (h : n = 3 ∨ n = 4) : 9 ≤ n * n ∧ n * n ≤ 16 ∧ (1 ≤ n ∧ n ≤ 9) ∧ (1 ≤ n ∧ n ≤ 4) := by
  rcases h with rfl | rfl <;> decide
theorem ln34 {n : Int} (h : n = 3 ∨ n = 4) : (∀ i, 0 ≤ i → i < n → 0 ≤ 0 + i * (n + 1) ∧ 0 + i * (n + 1) < n * n) ∧ (∀ i, 0 ≤ i → i < n → 0 ≤ n - 1 + i * (n - 1) ∧ n - 1 + i * (n - 1) < n * n) ∧ (∀ k, 0 ≤ k → k < n → (∀ i, 0 ≤ i → i < n → 0 ≤ n * k + i * 1 ∧ n * k + i * 1 < n * n) ∧ ∀ i, 0 ≤ i → i < n → 0 ≤ k + i * n ∧ k + i * n < n * n) := by
  rcases h with rfl | rfl
  · refine ⟨fun i a b => by omega, fun i a b => by omega, fun k c d => ⟨fun i a b => by omega, fun i a b => by omega⟩⟩
  · refine ⟨fun i a b => by omega, fun i a b => by omega, fun k c d => ⟨fun i a b => by omega, fun i a b => by omega⟩⟩
theorem sS_c {n a s : Int} {f g : Int → Int} (hr : ∀ i, 0 ≤ i → i < n → 0 ≤ a + i * s ∧ a + i * s < n * n) (h : ∀ p, 0 ≤ p → p < n * n → g p = f p) (hS : sS n f a s) : sS n g a s := by
  unfold sS at hS ⊢
  rw [← hS]
  exact sm_congr (fun i i0 i1 => h _ (hr i i0 (by omega)).1 (hr i i0 (by omega)).2)
theorem Rt_c {n : Int} {f g : Int → Int} (hR : Rt n f) (h : ∀ p, 0 ≤ p → p < n * n → g p = f p) : Rt n g := by
  obtain ⟨h0, ⟨h1, h2⟩, ⟨h3, h4⟩, h5⟩ := hR
  have hl := ln34 h0
  refine ⟨h0, ⟨fun p a b => by rw [h p a b]; exact h1 p a b, fun p a b r c d hne => by rw [h p a b, h r c d]; exact h2 p a b r c d hne⟩, ⟨sS_c hl.1 h h3, sS_c hl.2.1 h h4⟩, fun k a b => ⟨sS_c (hl.2.2 k a b).1 h (h5 k a b).1, sS_c (hl.2.2 k a b).2 h (h5 k a b).2⟩⟩
theorem sm_le {F G : Int → Int} {N : Nat} (h : ∀ k : Int, 0 ≤ k → k < N → F k ≤ G k) : sm F N ≤ sm G N := by
  induction N with
  | zero => exact Int.le_refl _
  | succ N ih =>
    have h1 := ih (fun k a b => h k a (by omega))
    have h2 := h N (by omega) (by omega)
    rw [sm, sm]; omega
theorem sm_lt {F G : Int → Int} {N : Nat} {p : Int} (h : ∀ k : Int, 0 ≤ k → k < N → F k ≤ G k) (hp : 0 ≤ p ∧ p < N) (hl : F p < G p) : sm F N < sm G N := by
  induction N with
  | zero => omega
  | succ N ih =>
    rw [sm, sm]
    by_cases e : p = N
    · subst e
      have h1 := sm_le (N := N) (fun k a b => h k a (by omega))
      omega
    · have h1 := ih (fun k a b => h k a (by omega)) (by omega)
      have h2 := h N (by omega) (by omega)
      omega
theorem bi_nn (P : Prop) : 0 ≤ bi P := by rcases bi_r P with h | h <;> omega
theorem lck_z {n : Int} {h : Int → Int} (h1 : ∀ p, 0 ≤ p → p < n * n → 1 ≤ h p) (l : Int) : lck n h l = 0 :=
  (sm_zero (f := fun p => bi (ono n l p ∧ h p = 0)) (fun _ _ _ => bi_nn _)).mpr (fun k a b => bi_f (fun q => by have := h1 k a (by omega); omega))
/-- fewer numbers of a square that fits -/
theorem fit_sub {n : Int} {g h : Int → Int} (hh : fit n h) (h1 : ∀ p, 0 ≤ p → p < n * n → 1 ≤ h p) (hg : ∀ p, 0 ≤ p → p < n * n → g p = h p ∨ g p = 0) : fit n g := by
  obtain ⟨f1, f2, f3⟩ := hh
  refine ⟨fun l a b => ⟨fun hz => ?_, fun hz => ?_⟩, fun p a b => ?_, fun p a b r c d hne h0 => ?_⟩
  · have hz' := (sm_zero (f := fun p => bi (ono n l p ∧ g p = 0)) (fun _ _ _ => bi_nn _)).mp hz
    rw [← (f1 l a b).1 (lck_z h1 l)]
    unfold lsm
    refine sm_congr (fun k k0 k1 => ?_)
    by_cases ho : ono n l k
    · rw [ci_t ho, ci_t ho]
      rcases hg k k0 (by omega) with q | q
      · exact q
      · have h9 := hz' k k0 k1
        rw [bi_t ⟨ho, q⟩] at h9
        omega
    · rw [ci_f ho, ci_f ho]
  · rw [← (f1 l a b).1 (lck_z h1 l)]
    have hex : ∃ p, 0 ≤ p ∧ p < n * n ∧ ono n l p ∧ g p = 0 := by
      apply Classical.byContradiction
      intro hc
      exact hz ((sm_zero (f := fun p => bi (ono n l p ∧ g p = 0)) (fun _ _ _ => bi_nn _)).mpr (fun k k0 k1 => bi_f (fun q => hc ⟨k, k0, by omega, q.1, q.2⟩)))
    obtain ⟨p, p0, p1, po, pg⟩ := hex
    unfold lsm
    refine sm_lt (p := p) (fun k k0 k1 => ?_) ⟨p0, by omega⟩ ?_
    · by_cases ho : ono n l k
      · rw [ci_t ho, ci_t ho]
        have := h1 k k0 (by omega)
        rcases hg k k0 (by omega) with q | q <;> omega
      · rw [ci_f ho, ci_f ho]; exact Int.le_refl _
    · rw [ci_t po, ci_t po, pg]
      have := h1 p p0 p1
      omega
  · have := f2 p a b
    have := h1 p a b
    rcases hg p a b with q | q <;> omega
  · rcases hg p a b with q | q
    · rcases hg r c d with w | w
      · rw [q, w]
        have := h1 p a b
        exact f3 p a b r c d hne (by omega)
      · rw [w]; exact h0
    · exact absurd q h0
theorem vls_mem {α : Type} {F : Int → List α} {N : Nat} {h : α} : h ∈ vls F N ↔ ∃ v : Int, 1 ≤ v ∧ v ≤ N ∧ h ∈ F v := by
  induction N with
  | zero =>
    constructor
    · intro q; simp [vls] at q
    · rintro ⟨v, a, b, c⟩; omega
  | succ N ih =>
    rw [vls, List.mem_append, ih]
    constructor
    · rintro (⟨v, a, b, c⟩ | q)
      · exact ⟨v, a, by omega, c⟩
      · exact ⟨(N : Int) + 1, by omega, by omega, q⟩
    · rintro ⟨v, a, b, c⟩
      by_cases e : v = (N : Int) + 1
      · subst e; exact Or.inr c
      · exact Or.inl ⟨v, a, by omega, c⟩
theorem ci_mem {α : Type} {P : Prop} {L : List α} {h : α} : h ∈ ci P L [] ↔ P ∧ h ∈ L := by
  by_cases hp : P
  · rw [ci_t hp]; exact ⟨fun q => ⟨hp, q⟩, fun q => q.2⟩
  · rw [ci_f hp]
    constructor
    · intro q; simp at q
    · intro q; exact absurd q.1 hp
/-- what is among the completions -/
theorem sols_mem {n : Int} {e : Int → Int} : ∀ (r : Nat) (k : Int) (g h : Int → Int), fit n g → (∀ i j, k ≤ i → i < j → j < k + r → e i ≠ e j) → h ∈ sols n e r k g → fit n h ∧ (∀ a, (∀ j, k ≤ j → j < k + r → a ≠ e j) → h a = g a) ∧ ∀ j, k ≤ j → j < k + r → 1 ≤ h (e j)
  | 0, k, g, h, hf, _, hm => by
    simp only [sols, List.mem_singleton] at hm
    subst hm
    exact ⟨hf, fun a _ => rfl, fun j a b => by omega⟩
  | r + 1, k, g, h, hf, he, hm => by
    rw [sols, vls_mem] at hm
    obtain ⟨v, v1, v2, hm⟩ := hm
    rw [ci_mem] at hm
    obtain ⟨m1, m2, m3⟩ := sols_mem r (k + 1) (uf g (e k) v) h hm.1 (fun i j a b c => he i j (by omega) b (by omega)) hm.2
    have hk : h (e k) = v := by
      rw [m2 (e k) (fun j a b => he k j (by omega) (by omega) (by omega)), uf_s]
    refine ⟨m1, fun a ha => ?_, fun j a b => ?_⟩
    · rw [m2 a (fun j c d => ha j (by omega) (by omega)), uf_n _ _ (ha k (by omega) (by omega))]
    · by_cases q : j = k
      · rw [q, hk]; exact v1
      · exact m3 j (by omega) (by omega)
/-- none is missing -/
theorem sols_in {n : Int} {e h : Int → Int} (hh : fit n h) (h1 : ∀ p, 0 ≤ p → p < n * n → 1 ≤ h p) : ∀ (r : Nat) (k : Int) (g : Int → Int), (∀ j, k ≤ j → j < k + r → 0 ≤ e j ∧ e j < n * n) → (∀ a, (∀ j, k ≤ j → j < k + r → a ≠ e j) → h a = g a) → (∀ p, g p = h p ∨ g p = 0) → h ∈ sols n e r k g
  | 0, k, g, he, ha, _ => by
    have e0 : h = g := funext fun a => ha a (fun j a b => by omega)
    simp [sols, e0]
  | r + 1, k, g, he, ha, hg => by
    rw [sols, vls_mem]
    have hk := he k (by omega) (by omega)
    have hv := h1 _ hk.1 hk.2
    have hu := hh.2.1 _ hk.1 hk.2
    have hg' : ∀ p, uf g (e k) (h (e k)) p = h p ∨ uf g (e k) (h (e k)) p = 0 := by
      intro p
      by_cases q : p = e k
      · left; rw [q]; exact uf_s _ _ _
      · rw [uf_n _ _ q]; exact hg p
    refine ⟨h (e k), hv, by omega, ?_⟩
    rw [ci_mem]
    refine ⟨fit_sub hh h1 (fun p _ _ => hg' p), sols_in hh h1 r (k + 1) _ (fun j a b => he j (by omega) (by omega)) (fun a h2 => ?_) hg'⟩
    by_cases q : a = e k
    · rw [q]; exact (uf_s _ _ _).symm
    · rw [uf_n _ _ q]
      refine ha a (fun j c d => ?_)
      by_cases w : j = k
      · rw [w]; exact q
      · exact h2 j (by omega) (by omega)
def lxl (n : Int) (a b : Int → Int) : Prop := ∃ p, 0 ≤ p ∧ p < n * n ∧ (∀ r, 0 ≤ r → r < p → a r = b r) ∧ a p < b p
theorem vls_pw {α : Type} {R : α → α → Prop} {F : Int → List α} (hF : ∀ v, 1 ≤ v → (F v).Pairwise R) (hc : ∀ v w, 1 ≤ v → v < w → ∀ a ∈ F v, ∀ b ∈ F w, R a b) (N : Nat) : (vls F N).Pairwise R := by
  induction N with
  | zero => simp [vls]
  | succ N ih =>
    rw [vls, List.pairwise_append]
    refine ⟨ih, hF _ (by omega), fun a ha b hb => ?_⟩
    obtain ⟨v, v1, v2, hv⟩ := vls_mem.mp ha
    exact hc v _ v1 (by omega) a hv b hb
theorem ci_pw {α : Type} {R : α → α → Prop} {P : Prop} {L : List α} (h : P → L.Pairwise R) : (ci P L []).Pairwise R := by
  by_cases hp : P
  · rw [ci_t hp]; exact h hp
  · rw [ci_f hp]; simp
/-- they ascend -/
theorem sols_asc {n : Int} {e : Int → Int} : ∀ (r : Nat) (k : Int) (g : Int → Int), fit n g → (∀ j, k ≤ j → j < k + r → 0 ≤ e j ∧ e j < n * n) → (∀ i j, k ≤ i → i < j → j < k + r → e i < e j) → (sols n e r k g).Pairwise (lxl n)
  | 0, _, _, _, _, _ => by simp [sols]
  | r + 1, k, g, hf, he, ha => by
    rw [sols]
    refine vls_pw (fun v _ => ci_pw (fun hp => sols_asc r (k + 1) _ hp (fun j a b => he j (by omega) (by omega)) (fun i j a b c => ha i j (by omega) b (by omega)))) (fun v w v1 hvw a hA b hB => ?_) _
    rw [ci_mem] at hA hB
    have hne : ∀ i j, k + 1 ≤ i → i < j → j < k + 1 + r → e i ≠ e j := fun i j a b c => by
      have := ha i j (by omega) b (by omega); omega
    obtain ⟨-, a2, -⟩ := sols_mem r (k + 1) _ a hA.1 hne hA.2
    obtain ⟨-, b2, -⟩ := sols_mem r (k + 1) _ b hB.1 hne hB.2
    have hlt : ∀ x, x ≤ e k → ∀ j, k + 1 ≤ j → j < k + 1 + r → x ≠ e j := fun x hx j c d => by
      have := ha k j (by omega) (by omega) (by omega); omega
    have hk := he k (by omega) (by omega)
    refine ⟨e k, hk.1, hk.2, fun q q0 q1 => ?_, ?_⟩
    · rw [a2 q (hlt q (by omega)), b2 q (hlt q (by omega)), uf_n _ _ (by omega), uf_n _ _ (by omega)]
    · rw [a2 _ (hlt _ (Int.le_refl _)), b2 _ (hlt _ (Int.le_refl _)), uf_s, uf_s]; exact hvw
theorem sm_1 (N : Nat) : sm (fun _ => 1) N = N := by
  induction N with
  | zero => rfl
  | succ N ih => rw [sm, ih]; omega
theorem sols_len2 {n : Int} {e : Int → Int} {M : Nat} (hM : (n * n).toNat = M) : ∀ (r : Nat) (k : Int) (g : Int → Int), ((sols n e r k g).length : Int) ≤ ((M ^ r : Nat) : Int)
  | 0, _, _ => by simp [sols]
  | r + 1, k, g => by
    rw [sols, hM]
    have h := vls_len (F := fun v => ci (fit n (uf g (e k) v)) (sols n e r (k + 1) (uf g (e k) v)) []) (c := fun _ => 1) (B := ((M ^ r : Nat) : Int)) (by omega) M (fun v _ _ => by
      rw [Int.mul_one]
      by_cases hp : fit n (uf g (e k) v)
      · rw [ci_t hp]; exact sols_len2 hM r (k + 1) _
      · rw [ci_f hp]; exact Int.natCast_nonneg _)
    rw [sm_1] at h
    rw [Nat.pow_succ]
    exact Int.le_trans h (by rw [Int.natCast_mul]; exact Int.le_refl _)
