theorem sm_le {F G : Int → Int} : ∀ {N : Nat}, (∀ k : Int, 0 ≤ k → k < N → F k ≤ G k) → sm F N ≤ sm G N
  | 0, _ => by simp [sm]
  | N + 1, h => by
    have h1 := sm_le (F := F) (G := G) (N := N) (fun k a b => h k a (by omega))
    have h2 := h N (by omega) (by omega)
    rw [sm, sm]; omega
theorem lsm_c {n : Int} {g h : Int → Int} (hn : 0 ≤ n * n) (e : ∀ p, 0 ≤ p → p < n * n → g p = h p) (l : Int) : lsm n g l = lsm n h l ∧ lck n g l = lck n h l := by
  constructor
  · exact sm_congr (fun k a b => by rw [e k a (by omega)])
  · exact sm_congr (fun k a b => by rw [e k a (by omega)])
theorem fit_c {n : Int} {g h : Int → Int} (hn : 0 ≤ n * n) (e : ∀ p, 0 ≤ p → p < n * n → g p = h p) (hf : fit n g) : fit n h := by
  obtain ⟨h1, h2, h3⟩ := hf
  refine ⟨fun l a b => ?_, fun p a b => by rw [← e p a b]; exact h2 p a b, fun p a b r c d q h0 => ?_⟩
  · have := h1 l a b
    unfold lnf at this ⊢
    rw [← (lsm_c hn e l).1, ← (lsm_c hn e l).2]; exact this
  · rw [← e p a b] at h0 ⊢
    rw [← e r c d]; exact h3 p a b r c d q h0
theorem lck_full {n : Int} {g : Int → Int} (hn : 0 ≤ n * n) (h : ∀ p, 0 ≤ p → p < n * n → g p ≠ 0) (l : Int) : lck n g l = 0 := by
  unfold lck
  rw [sm_congr (g := fun _ => 0) (fun k a b => bi_f (fun q => h k a (by omega) q.2))]
  exact sm_0f _ (fun _ => rfl)
theorem fit_line {n : Int} {g : Int → Int} (hn : 1 ≤ n ∧ n ≤ 4) (hf : fit n g) (h1 : ∀ p, 0 ≤ p → p < n * n → g p ≠ 0) {l : Int} (hl : 0 ≤ l ∧ l < 2 * n + 2) : sm (fun i => g (liS n l + i * liP n l)) n.toNat = du n := by
  rw [← lsm_l hn hl]
  exact (hf.1 l hl.1 hl.2).1 (lck_full (by have := sq4 hn; omega) h1 l)
theorem fit_of {n : Int} {g : Int → Int} (hn : 1 ≤ n ∧ n ≤ 4) (h1 : ∀ p, 0 ≤ p → p < n * n → 1 ≤ g p ∧ g p ≤ n * n) (hl : ∀ l, 0 ≤ l → l < 2 * n + 2 → sm (fun i => g (liS n l + i * liP n l)) n.toNat = du n) (hd : ∀ p r, 0 ≤ p → p < r → r < n * n → g p ≠ g r) : fit n g := by
  have h4 := sq4 hn
  refine ⟨fun l a b => ?_, fun p a b => (h1 p a b).2, fun p a b r c d e h0 => ?_⟩
  · have hk := lck_full (n := n) (g := g) (by omega) (fun p a b => by have := h1 p a b; omega) l
    exact ⟨fun _ => by rw [lsm_l hn ⟨a, b⟩]; exact hl l a b, fun q => absurd hk q⟩
  · by_cases q : p < r
    · exact hd p r a q d
    · exact (hd r p c (by omega) b).symm
theorem fit_mono {n : Int} {g h : Int → Int} (hn : 0 ≤ n * n) (hf : fit n h) (h1 : ∀ p, 0 ≤ p → p < n * n → 1 ≤ h p) (hg : ∀ p, 0 ≤ p → p < n * n → g p = 0 ∨ g p = h p) : fit n g := by
  obtain ⟨f1, f2, f3⟩ := hf
  refine ⟨fun l a b => ?_, fun p a b => ?_, fun p a b r c d e h0 => ?_⟩
  · have hfull := lck_full (g := h) hn (fun p a b => by have := h1 p a b; omega) l
    have hdu := (f1 l a b).1 hfull
    constructor
    · intro hk
      have hz := (sm_zero (f := fun p => bi (ono n l p ∧ g p = 0)) (n := (n * n).toNat) (fun k _ _ => by rcases bi_r (ono n l k ∧ g k = 0) with h | h <;> omega)).mp hk
      rw [← hdu]
      refine sm_congr (fun k c d => ?_)
      by_cases ho : ono n l k
      · rw [ci_t ho, ci_t ho]
        rcases hg k c (by omega) with q | q
        · have := hz k c d
          rw [bi_t ⟨ho, q⟩] at this; omega
        · exact q
      · rw [ci_f ho, ci_f ho]
    · intro hk
      have hle : sm (fun p => ci (ono n l p) (g p) 0 + bi (ono n l p ∧ g p = 0)) (n * n).toNat ≤ lsm n h l := by
        refine sm_le (fun k c d => ?_)
        by_cases ho : ono n l k
        · rw [ci_t ho, ci_t ho]
          have := h1 k c (by omega)
          rcases hg k c (by omega) with q | q
          · rw [bi_t ⟨ho, q⟩]; omega
          · rw [bi_f (fun z => by have := z.2; omega)]; omega
        · rw [ci_f ho, ci_f ho, bi_f (fun z => ho z.1)]; omega
      rw [sm_add] at hle
      have hk0 := lck_nn n g l
      rw [hdu] at hle
      show sm (fun p => ci (ono n l p) (g p) 0) (n * n).toNat < du n
      have : 1 ≤ sm (fun p => bi (ono n l p ∧ g p = 0)) (n * n).toNat := by
        have : lck n g l = sm (fun p => bi (ono n l p ∧ g p = 0)) (n * n).toNat := rfl
        omega
      omega
  · have := f2 p a b
    have := h1 p a b
    rcases hg p a b with q | q <;> omega
  · have hp := hg p a b
    have hr := hg r c d
    have e1 := h1 r c d
    have := f3 p a b r c d e (by have := h1 p a b; omega)
    omega
theorem vls_mem {α : Type} {F : Int → List α} {y : α} : ∀ {N : Nat}, y ∈ vls F N ↔ ∃ v : Int, (1 ≤ v ∧ v ≤ N) ∧ y ∈ F v
  | 0 => by
    simp only [vls, List.not_mem_nil, false_iff]
    rintro ⟨v, a, -⟩; omega
  | N + 1 => by
    rw [vls, List.mem_append, vls_mem]
    constructor
    · rintro (⟨v, a, b⟩ | h)
      · exact ⟨v, by omega, b⟩
      · exact ⟨(N : Int) + 1, by omega, h⟩
    · rintro ⟨v, a, b⟩
      by_cases e : v = (N : Int) + 1
      · right; rw [← e]; exact b
      · exact Or.inl ⟨v, by omega, b⟩
theorem sols_m {n : Int} {e : Int → Int} {r : Nat} {k : Int} {g h : Int → Int} : h ∈ sols n e (r + 1) k g ↔ ∃ v : Int, (1 ≤ v ∧ v ≤ (n * n).toNat) ∧ fit n (uf g (e k) v) ∧ h ∈ sols n e r (k + 1) (uf g (e k) v) := by
  rw [sols_v, vls_mem]
  constructor
  · rintro ⟨v, a, b⟩
    by_cases hf : fit n (uf g (e k) v)
    · unfold FvL at b; rw [ci_t hf] at b; exact ⟨v, a, hf, b⟩
    · unfold FvL at b; rw [ci_f hf] at b; exact absurd b List.not_mem_nil
  · rintro ⟨v, a, hf, b⟩
    exact ⟨v, a, by unfold FvL; rw [ci_t hf]; exact b⟩
theorem sols_off {n : Int} {e : Int → Int} {h : Int → Int} : ∀ (r : Nat) (k : Int) (g : Int → Int), h ∈ sols n e r k g → ∀ p, (∀ j, k ≤ j → j < k + r → p ≠ e j) → h p = g p
  | 0, k, g, hm, p, _ => by rw [show sols n e 0 k g = [g] from rfl, List.mem_singleton] at hm; rw [hm]
  | r + 1, k, g, hm, p, hp => by
    obtain ⟨v, -, -, b⟩ := sols_m.mp hm
    rw [sols_off r (k + 1) _ b p (fun j a c => hp j (by omega) (by omega)), uf_n _ _ (hp k (by omega) (by omega))]
theorem sols_fit {n : Int} {e : Int → Int} {h : Int → Int} : ∀ (r : Nat) (k : Int) (g : Int → Int), h ∈ sols n e r k g → fit n g → fit n h
  | 0, k, g, hm, hf => by rw [show sols n e 0 k g = [g] from rfl, List.mem_singleton] at hm; rw [hm]; exact hf
  | r + 1, k, g, hm, _ => by
    obtain ⟨v, -, hf, b⟩ := sols_m.mp hm
    exact sols_fit r (k + 1) _ b hf
theorem sols_pos {n : Int} {e : Int → Int} {h : Int → Int} : ∀ (r : Nat) (k : Int) (g : Int → Int), (∀ i j, k ≤ i → i < j → j < k + r → e i ≠ e j) → h ∈ sols n e r k g → ∀ j, k ≤ j → j < k + r → 1 ≤ h (e j)
  | 0, k, g, _, _, j, a, b => by omega
  | r + 1, k, g, hd, hm, j, a, b => by
    obtain ⟨v, hv, -, c⟩ := sols_m.mp hm
    by_cases q : j = k
    · rw [q, sols_off r (k + 1) _ c (e k) (fun i a b => hd k i (by omega) (by omega) (by omega)), uf_s]; exact hv.1
    · exact sols_pos r (k + 1) _ (fun i j a b c => hd i j (by omega) b (by omega)) c j (by omega) (by omega)
theorem sols_all {n : Int} {e : Int → Int} {h : Int → Int} (hn : 0 ≤ n * n) (hf : fit n h) (h1 : ∀ p, 0 ≤ p → p < n * n → 1 ≤ h p) : ∀ (r : Nat) (k : Int) (g : Int → Int), (∀ j, k ≤ j → j < k + r → (0 ≤ e j ∧ e j < n * n) ∧ g (e j) = 0) → (∀ i j, k ≤ i → i < j → j < k + r → e i ≠ e j) → (∀ p, (∀ j, k ≤ j → j < k + r → p ≠ e j) → h p = g p) → h ∈ sols n e r k g
  | 0, k, g, _, _, ha => by
    rw [show sols n e 0 k g = [g] from rfl, List.mem_singleton]
    funext p; exact ha p (fun j a b => by omega)
  | r + 1, k, g, he, hd, ha => by
    have hek := he k (by omega) (by omega)
    have hv := h1 (e k) hek.1.1 hek.1.2
    have hv2 := hf.2.1 (e k) hek.1.1 hek.1.2
    refine sols_m.mpr ⟨h (e k), by omega, fit_mono hn hf h1 (fun p a b => ?_), sols_all hn hf h1 r (k + 1) _ (fun j a b => ⟨(he j (by omega) (by omega)).1, by rw [uf_n _ _ (fun q => hd k j (by omega) (by omega) (by omega) q.symm)]; exact (he j (by omega) (by omega)).2⟩) (fun i j a b c => hd i j (by omega) b (by omega)) (fun p hp => ?_)⟩
    · by_cases q : p = e k
      · right; rw [q, uf_s]
      · rw [uf_n _ _ q]
        by_cases q2 : ∀ j, k ≤ j → j < k + (r + 1 : Nat) → p ≠ e j
        · right; exact (ha p q2).symm
        · left
          rcases Classical.em (g p = 0) with z | z
          · exact z
          · exact absurd (fun j a b c => z (by rw [c]; exact (he j a (by omega)).2)) q2
    · by_cases q : p = e k
      · rw [q, uf_s]
      · rw [uf_n _ _ q]
        exact ha p (fun j a b => by
          by_cases z : j = k
          · rw [z]; exact q
          · exact hp j (by omega) (by omega))
theorem vls_nd {α : Type} {F : Int → List α} : ∀ {N : Nat}, (∀ v : Int, 1 ≤ v → v ≤ N → (F v).Pairwise (fun a b => a ≠ b)) → (∀ v w : Int, v ≠ w → ∀ a ∈ F v, ∀ b ∈ F w, a ≠ b) → (vls F N).Pairwise (fun a b => a ≠ b)
  | 0, _, _ => by simp [vls]
  | N + 1, h1, h2 => by
    rw [vls, List.pairwise_append]
    refine ⟨vls_nd (fun v a b => h1 v a (by omega)) h2, h1 _ (by omega) (by omega), fun a ha b hb => ?_⟩
    obtain ⟨v, hv, hav⟩ := vls_mem.mp ha
    exact h2 v ((N : Int) + 1) (by omega) a hav b hb
theorem sols_nd {n : Int} {e : Int → Int} : ∀ (r : Nat) (k : Int) (g : Int → Int), (∀ i j, k ≤ i → i < j → j < k + r → e i ≠ e j) → (sols n e r k g).Pairwise (fun a b => a ≠ b)
  | 0, k, g, _ => by rw [show sols n e 0 k g = [g] from rfl]; simp
  | r + 1, k, g, hd => by
    rw [sols_v]
    have hmem : ∀ v, ∀ a ∈ FvL n e r k g v, a (e k) = v := by
      intro v a ha
      unfold FvL at ha
      by_cases hf : fit n (uf g (e k) v)
      · rw [ci_t hf] at ha
        rw [sols_off r (k + 1) _ ha (e k) (fun i a b => hd k i (by omega) (by omega) (by omega)), uf_s]
      · rw [ci_f hf] at ha; exact absurd ha List.not_mem_nil
    refine vls_nd (fun v a b => ?_) (fun v w hvw a ha b hb q => ?_)
    · unfold FvL
      by_cases hf : fit n (uf g (e k) v)
      · rw [ci_t hf]; exact sols_nd r (k + 1) _ (fun i j a b c => hd i j (by omega) b (by omega))
      · rw [ci_f hf]; simp
    · have e1 := hmem v a ha
      have e2 := hmem w b hb
      rw [q] at e1
      exact hvw (e1.symm.trans e2)
theorem len1 {α : Type} {L : List α} {a : α} (hnd : L.Pairwise (fun a b => a ≠ b)) (ha : a ∈ L) (hu : ∀ b ∈ L, b = a) : L.length = 1 := by
  match L, hnd, ha, hu with
  | [], _, ha, _ => exact absurd ha List.not_mem_nil
  | [x], _, _, _ => rfl
  | x :: y :: t, hnd, _, hu =>
    have h1 := hu x (by simp)
    have h2 := hu y (by simp)
    have := (List.pairwise_cons.mp hnd).1 y (by simp)
    exact absurd (h1.trans h2.symm) this
theorem len2 {α : Type} {L : List α} {a b : α} (ha : a ∈ L) (hb : b ∈ L) (hab : a ≠ b) : L.length ≠ 1 := by
  intro h
  obtain ⟨x, rfl⟩ := List.length_eq_one_iff.mp h
  rw [List.mem_singleton] at ha hb
  exact hab (ha.trans hb.symm)
/-! squares of a side up to 3 that are complete -/
def PR (n : Int) (f : Int → Int) : Prop := (∀ p, 0 ≤ p → p < n * n → 1 ≤ f p) ∧ (∀ h, fit n h → (∀ p, 0 ≤ p → p < n * n → 1 ≤ h p) → ∃ m : Int, (0 ≤ m ∧ m < 8) ∧ ∀ p, 0 ≤ p → p < n * n → h p = f (fmp n m p)) ∧ ∀ m, 0 ≤ m → m < 8 → fit n (tk (fun p => f (fmp n m p)) (n * n))
theorem FQl : ∀ j : Fin 8, ∀ l : Fin 8, sm (fun i => qq (fmp 3 j.val (liS 3 l.val + i * liP 3 l.val))) 3 = 15 := by decide +kernel
theorem FQr : ∀ j : Fin 8, ∀ p : Fin 9, 1 ≤ qq (fmp 3 j.val p.val) ∧ qq (fmp 3 j.val p.val) ≤ 9 := by decide +kernel
theorem FQd : ∀ j : Fin 8, ∀ p r : Fin 9, p.val < r.val → qq (fmp 3 j.val p.val) ≠ qq (fmp 3 j.val r.val) := by decide +kernel
theorem FQ {j : Int} (hj : 0 ≤ j ∧ j < 8) : fit 3 (fun p => qq (fmp 3 j p)) := by
  obtain ⟨k, rfl⟩ : ∃ k : Nat, j = k := ⟨j.toNat, by omega⟩
  refine fit_of (by omega) (fun p a b => ?_) (fun l a b => ?_) (fun p r a b c => ?_)
  · obtain ⟨q, rfl⟩ : ∃ q : Nat, p = q := ⟨p.toNat, by omega⟩
    exact FQr ⟨k, by omega⟩ ⟨q, by omega⟩
  · obtain ⟨q, rfl⟩ : ∃ q : Nat, l = q := ⟨l.toNat, by omega⟩
    exact FQl ⟨k, by omega⟩ ⟨q, by omega⟩
  · obtain ⟨q, rfl⟩ : ∃ q : Nat, p = q := ⟨p.toNat, by omega⟩
    obtain ⟨t, rfl⟩ : ∃ t : Nat, r = t := ⟨r.toNat, by omega⟩
    exact FQd ⟨k, by omega⟩ ⟨q, by omega⟩ ⟨t, by omega⟩ (by show q < t; omega)
theorem sm3 (F : Int → Int) : sm F 3 = F 0 + F 1 + F 2 := by
  show 0 + F 0 + F 1 + F 2 = _; omega
theorem fit3 {h : Int → Int} (hf : fit 3 h) (h1 : ∀ p, 0 ≤ p → p < 3 * 3 → 1 ≤ h p) : ∃ i : Int, (0 ≤ i ∧ i < 8) ∧ ∀ p, 0 ≤ p → p < 9 → h p = qq (fmp 3 i p) := by
  have hl : ∀ l : Int, 0 ≤ l → l < 8 → sm (fun i => h (liS 3 l + i * liP 3 l)) 3 = 15 := fun l a b => fit_line (n := 3) (by omega) hf (fun p a b => by have := h1 p a b; omega) (l := l) (by omega)
  have s0 : h 0 + h 1 + h 2 = 15 := (sm3 _).symm.trans (hl 0 (by omega) (by omega))
  have s1 : h 3 + h 4 + h 5 = 15 := (sm3 _).symm.trans (hl 1 (by omega) (by omega))
  have s2 : h 6 + h 7 + h 8 = 15 := (sm3 _).symm.trans (hl 2 (by omega) (by omega))
  have s3 : h 0 + h 3 + h 6 = 15 := (sm3 _).symm.trans (hl 3 (by omega) (by omega))
  have s4 : h 1 + h 4 + h 7 = 15 := (sm3 _).symm.trans (hl 4 (by omega) (by omega))
  have s5 : h 2 + h 5 + h 8 = 15 := (sm3 _).symm.trans (hl 5 (by omega) (by omega))
  have s6 : h 0 + h 4 + h 8 = 15 := (sm3 _).symm.trans (hl 6 (by omega) (by omega))
  have s7 : h 2 + h 4 + h 6 = 15 := (sm3 _).symm.trans (hl 7 (by omega) (by omega))
  exact EN3 (fun p a b => ⟨h1 p a (by omega), hf.2.1 p a (by omega)⟩) (fun p r a b c => hf.2.2 p a (by omega) r (by omega) (by omega) (by omega) (by have := h1 p a (by omega); omega)) s0 s1 s2 s3 s4 s5 s6 s7
