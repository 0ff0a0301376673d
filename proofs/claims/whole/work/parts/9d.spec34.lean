theorem tk_sel (n : Int) (f : Int → Int) (s : Int) : tk (sel n f s) (n * n) = sel n f s := by
  funext p
  by_cases q : 0 ≤ p ∧ p < n * n
  · exact tk_in q
  · rw [tk_out q, sel_o q]
theorem LSs_c (n : Int) (f : Int → Int) (s : Int) : LSs n f s = cpl n (sel n f s) := by
  have h := CPS n (sel n f s)
  rw [tk_sel] at h
  exact h
theorem sel_rng {n : Int} {f : Int → Int} (hf : ∀ p, 0 ≤ f p ∧ f p ≤ 999) (s p : Int) : 0 ≤ sel n f s p ∧ sel n f s p ≤ 999 := by
  rcases Classical.em ((0 ≤ p ∧ p < n * n) ∧ inS s p) with h | h
  · rw [sel_t h.1 h.2]; exact hf p
  · unfold sel; rw [ci_f h]; omega
theorem EHs {n : Int} {f : Int → Int} (hn : 1 ≤ n ∧ n ≤ 4) (hf : ∀ p, 0 ≤ f p ∧ f p ≤ 999) (s : Int) : EH n (emp (sel n f s) (n * n).toNat).length (eF (emp (sel n f s) (n * n).toNat)) (sel n f s) := by
  have h := EHf (n := n) (f := sel n f s) hn (sel_rng hf s)
  rw [tk_sel] at h
  exact h
def BST (T : Int → Prop) (al s : Int) : Prop := (0 ≤ s ∧ s ≤ al) ∧ T s ∧ ∀ u, 0 ≤ u → u ≤ al → T u → pop s < pop u ∨ (pop s = pop u ∧ s ≤ u)
theorem BST_u {T : Int → Prop} {al s u : Int} (h1 : BST T al s) (h2 : BST T al u) : s = u := by
  have a := h1.2.2 u h2.1.1 h2.1.2 h2.2.1
  have b := h2.2.2 s h1.1.1 h1.1.2 h1.2.1
  omega
theorem gvs_best {d : Int → Int} {al : Int} (hal : 0 ≤ al) (hT : telB d al = true) (hp : ∀ s, 0 ≤ s → s < al → pop s < pop al) : BST (fun s => telB d s = true) al (gvs d al al.toNat) := by
  have key : ∀ k : Nat, (k : Int) ≤ al → (0 ≤ gvs d al k ∧ gvs d al k ≤ al) ∧ telB d (gvs d al k) = true ∧ (gvs d al k = al ∨ gvs d al k < k) ∧ pop (gvs d al k) ≤ pop al ∧ ∀ u : Int, 0 ≤ u → u < k → telB d u = true → pop (gvs d al k) < pop u ∨ (pop (gvs d al k) = pop u ∧ gvs d al k ≤ u) := by
    intro k
    induction k with
    | zero => intro _; exact ⟨⟨hal, Int.le_refl _⟩, hT, Or.inl rfl, Int.le_refl _, fun u a b => by omega⟩
    | succ k ih =>
      intro hk
      obtain ⟨i1, i2, i3, i4, i5⟩ := ih (by omega)
      rw [gvs]
      by_cases hc : pop k < pop (gvs d al k) ∧ telB d k = true
      · rw [if_pos hc]
        refine ⟨by omega, hc.2, Or.inr (by omega), by omega, fun u a b c => ?_⟩
        by_cases e : u = k
        · right; rw [e]; exact ⟨rfl, Int.le_refl _⟩
        · rcases i5 u a (by omega) c with q | q <;> omega
      · rw [if_neg hc]
        refine ⟨i1, i2, by omega, i4, fun u a b c => ?_⟩
        by_cases e : u = k
        · have h1 : ¬ pop k < pop (gvs d al k) := fun q => hc ⟨q, by rw [← e]; exact c⟩
          have h2 := hp k (by omega) (by omega)
          rw [e]
          rcases i3 with q | q
          · rw [q] at h1 ⊢; omega
          · omega
        · exact i5 u a (by omega) c
  obtain ⟨k1, k2, k3, k4, k5⟩ := key al.toNat (by omega)
  refine ⟨k1, k2, fun u a b c => ?_⟩
  by_cases e : u = al
  · rw [e]; omega
  · exact k5 u a (by omega) c
theorem popm9 : ∀ s : Fin 511, pop s.val < pop 511 := by decide +kernel
theorem popm4 : ∀ s : Fin 15, pop s.val < pop 15 := by decide +kernel
theorem popm1 : ∀ s : Fin 1, pop s.val < pop 1 := by decide +kernel
theorem popm {n : Int} (hn : 1 ≤ n ∧ n ≤ 3) : (∀ s, 0 ≤ s → s < p2 (n * n) - 1 → pop s < pop (p2 (n * n) - 1)) ∧ pop (p2 (n * n) - 1) ≤ n * n := by
  have h1 : n = 1 ∨ n = 2 ∨ n = 3 := by omega
  have e1 : p2 (1 * 1) - 1 = 1 := by decide
  have e2 : p2 (2 * 2) - 1 = 15 := by decide
  have e3 : p2 (3 * 3) - 1 = 511 := by decide
  rcases h1 with rfl | rfl | rfl
  · rw [e1]
    refine ⟨fun s a b => ?_, by decide⟩
    obtain ⟨k, rfl⟩ : ∃ k : Nat, s = k := ⟨s.toNat, by omega⟩
    exact popm1 ⟨k, by omega⟩
  · rw [e2]
    refine ⟨fun s a b => ?_, by decide⟩
    obtain ⟨k, rfl⟩ : ∃ k : Nat, s = k := ⟨s.toNat, by omega⟩
    exact popm4 ⟨k, by omega⟩
  · rw [e3]
    refine ⟨fun s a b => ?_, by decide⟩
    obtain ⟨k, rfl⟩ : ∃ k : Nat, s = k := ⟨s.toNat, by omega⟩
    exact popm9 ⟨k, by omega⟩
theorem tel_al {n : Int} {f : Int → Int} (hn : 1 ≤ n ∧ n ≤ 3) : telB (fun m => dfA n f m (n * n).toNat) (p2 (n * n) - 1) = true := by
  have h4 := sq4 (n := n) (by omega)
  rw [telB_iff]
  intro m _ _
  rcases Classical.em (dfA n f m (n * n).toNat = 0) with q | q
  · exact Or.inl q
  · right
    have hr := dfA_r n f m (n * n).toNat
    obtain ⟨j, hj⟩ := Nat.exists_testBit_of_ne_zero (show (dfA n f m (n * n).toNat).toNat ≠ 0 by omega)
    have hj2 := ((dfA_bit n f m (n * n).toNat j).mp hj).1
    refine bnd2_bit.mpr ⟨j, hj, ?_⟩
    have e : (p2 (n * n) - 1).toNat = 2 ^ (n * n).toNat - 1 := by
      have : p2 (n * n) = ((2 ^ (n * n).toNat : Nat) : Int) := by
        rw [← p2_nat, Int.toNat_of_nonneg (by omega)]
      omega
    rw [e, Nat.testBit_two_pow_sub_one]
    exact decide_eq_true hj2
theorem gvF_best {n : Int} {f : Int → Int} (hn : 1 ≤ n ∧ n ≤ 3) : BST (fun s => telB (fun m => dfA n f m (n * n).toNat) s = true) (p2 (n * n) - 1) (gvF n f) := by
  have h4 := sq4 (n := n) (by omega)
  have h9 : n * n ≤ 9 := by
    have h1 : n = 1 ∨ n = 2 ∨ n = 3 := by omega
    rcases h1 with rfl | rfl | rfl <;> decide
  have hp := p2_9 (k := n * n) (by omega)
  exact gvs_best (by omega) (tel_al hn) (popm hn).1
theorem pop_h : ∀ k : Fin 512, pop k.val = (k.val : Int) % 2 + pop ((k.val : Int) / 2) := by decide +kernel
theorem pop_hi {l : Int} (h : 0 ≤ l ∧ l < 512) : pop l = l % 2 + pop (l / 2) := by
  obtain ⟨k, rfl⟩ : ∃ k : Nat, l = k := ⟨l.toNat, by omega⟩
  exact pop_h ⟨k, by omega⟩
theorem b79 : ∀ a b c d e f g h : Fin 2, ((a.val + 2 * b.val + 4 * c.val + 8 * d.val + 16 * e.val + 32 * f.val + 64 * g.val + 128 * h.val) &&& 79 = 79) ↔ (a.val = 1 ∧ b.val = 1 ∧ c.val = 1 ∧ d.val = 1 ∧ g.val = 1) := by decide +kernel
theorem bi_iff {P : Prop} : bi P = 1 ↔ P := by
  constructor
  · intro h
    rcases Classical.em P with q | q
    · exact q
    · rw [bi_f q] at h; omega
  · exact bi_t
theorem LW79 {n : Int} {f : Int → Int} (hn : 1 ≤ n ∧ n ≤ 9) : bnd2 (lws n f 8) 79 = 79 ↔ nrm n f ∧ mag n f := by
  have hb : ∀ P : Prop, ∃ a : Nat, a < 2 ∧ bi P = a := fun P => by
    rcases bi_r P with h | h
    · exact ⟨0, by omega, h⟩
    · exact ⟨1, by omega, h⟩
  obtain ⟨a, ha, ea⟩ := hb (ful n f)
  obtain ⟨b, hb1, eb⟩ := hb (lna n f 0 (lsum n f 0 0))
  obtain ⟨c, hc, ec⟩ := hb (lna n f 1 (lsum n f 0 0))
  obtain ⟨d, hd, ed⟩ := hb (dia n f (lsum n f 0 0))
  obtain ⟨e, he, ee⟩ := hb (lna n f 2 (lsum n f 0 0) ∧ lna n f 3 (lsum n f 0 0))
  obtain ⟨o, ho, eo⟩ := hb (opo n f)
  obtain ⟨g, hg, eg⟩ := hb (nrm n f)
  obtain ⟨h, hh, eh⟩ := hb (pwr n f)
  have e1 : lws n f 8 = ((a + 2 * b + 4 * c + 8 * d + 16 * e + 32 * o + 64 * g + 128 * h : Nat) : Int) := by
    rw [lws_8, ea, eb, ec, ed, ee, eo, eg, eh]; omega
  have h9 := b79 ⟨a, ha⟩ ⟨b, hb1⟩ ⟨c, hc⟩ ⟨d, hd⟩ ⟨e, he⟩ ⟨o, ho⟩ ⟨g, hg⟩ ⟨h, hh⟩
  have e2 : bnd2 (lws n f 8) 79 = 79 ↔ ((a + 2 * b + 4 * c + 8 * d + 16 * e + 32 * o + 64 * g + 128 * h) &&& 79 = 79) := by
    unfold bnd2
    rw [e1, Int.toNat_natCast]
    show (((_ &&& 79 : Nat) : Int) = 79) ↔ _
    omega
  rw [e2, h9]
  show (a = 1 ∧ b = 1 ∧ c = 1 ∧ d = 1 ∧ g = 1) ↔ _
  have i1 : a = 1 ↔ ful n f := by rw [← bi_iff (P := ful n f), ea]; omega
  have i2 : b = 1 ↔ lna n f 0 (lsum n f 0 0) := by rw [← bi_iff (P := lna n f 0 (lsum n f 0 0)), eb]; omega
  have i3 : c = 1 ↔ lna n f 1 (lsum n f 0 0) := by rw [← bi_iff (P := lna n f 1 (lsum n f 0 0)), ec]; omega
  have i4 : d = 1 ↔ dia n f (lsum n f 0 0) := by rw [← bi_iff (P := dia n f (lsum n f 0 0)), ed]; omega
  have i5 : g = 1 ↔ nrm n f := by rw [← bi_iff (P := nrm n f), eg]; omega
  rw [i1, i2, i3, i4, i5]
  exact ⟨fun q => ⟨q.2.2.2.2, q.2.1, q.2.2.1, q.2.2.2.1⟩, fun q => ⟨nrm_ful hn q.1, q.2.1, q.2.2.1, q.2.2.2, q.1⟩⟩
