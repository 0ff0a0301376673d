/-! bits of a set -/
def tb (s p : Int) : Prop := s.toNat.testBit p.toNat = true
def shr (a k : Int) : Int := ((a.toNat / 2 ^ k.toNat : Nat) : Int)
theorem shr_z {a k : Int} (ha : 0 ≤ a ∧ a < 2147483648) (hk : 0 ≤ k ∧ k < 32) : zi a >>> (zi k &&& 31) = zi (shr a k) := by
  obtain ⟨a, rfl⟩ : ∃ m : Nat, a = m := ⟨a.toNat, by omega⟩
  obtain ⟨k, rfl⟩ : ∃ m : Nat, k = m := ⟨k.toNat, by omega⟩
  unfold shr
  rw [Int.toNat_natCast, Int.toNat_natCast]
  exact zn_shr (by omega) (by omega)
theorem tb_0 (p : Int) : ¬ tb 0 p := by
  unfold tb
  simp
theorem tb_or {s c p : Int} (hc : 0 ≤ c) (hp : 0 ≤ p) : tb (bor s (p2 c)) p ↔ tb s p ∨ p = c := by
  obtain ⟨c, rfl⟩ : ∃ m : Nat, c = m := ⟨c.toNat, by omega⟩
  obtain ⟨p, rfl⟩ : ∃ m : Nat, p = m := ⟨p.toNat, by omega⟩
  unfold tb bor
  rw [p2_nat, Int.toNat_natCast, Int.toNat_natCast, Int.toNat_natCast, Nat.testBit_or, Bool.or_eq_true, Nat.testBit_two_pow, decide_eq_true_eq]
  exact or_congr Iff.rfl ⟨fun q => by omega, fun q => by omega⟩
theorem bor17 {s c : Int} (hs : 0 ≤ s ∧ s < 131072) (hc : 0 ≤ c ∧ c < 17) : 0 ≤ bor s (p2 c) ∧ bor s (p2 c) < 131072 := by
  obtain ⟨c, rfl⟩ : ∃ a : Nat, c = a := ⟨c.toNat, by omega⟩
  unfold bor
  rw [p2_nat, Int.toNat_natCast]
  have h1 : s.toNat ||| 2 ^ c < 2 ^ 17 := Nat.or_lt_two_pow (by omega) (Nat.pow_lt_pow_right (by omega) (by omega))
  omega
theorem p2_nn (k : Int) : 0 ≤ p2 k := by
  unfold p2
  exact Int.pow_nonneg (by decide)
theorem bnd_tb (s p : Int) : (bnd2 (shr s p) 1 = 1 ∧ tb s p) ∨ (bnd2 (shr s p) 1 = 0 ∧ ¬ tb s p) := by
  unfold bnd2 shr tb
  rw [Int.toNat_natCast, show (1 : Int).toNat = 1 from rfl, Nat.and_one_is_mod, Nat.testBit_eq_decide_div_mod_eq, decide_eq_true_eq]
  omega
theorem shr_r {s p : Int} (hs : 0 ≤ s ∧ s < 2147483648) : 0 ≤ shr s p ∧ shr s p < 2147483648 := by
  unfold shr
  have := Nat.div_le_self s.toNat (2 ^ p.toNat)
  generalize s.toNat / 2 ^ p.toNat = m at this ⊢
  omega
theorem tb_step {u p : Int} {f : Int → Int} (hp : 0 ≤ p) (hf : 0 ≤ f p) (h : ∀ v, 0 ≤ v → v ≤ 16 → (tb u v ↔ ∃ r, 0 ≤ r ∧ r < p ∧ f r = v)) : ∀ v, 0 ≤ v → v ≤ 16 → (tb (bor u (p2 (f p))) v ↔ ∃ r, 0 ≤ r ∧ r < p + 1 ∧ f r = v) := by
  intro v a b
  rw [tb_or hf a, h v a b]
  constructor
  · rintro (⟨r, r0, r1, r2⟩ | q)
    · exact ⟨r, r0, by omega, r2⟩
    · exact ⟨p, hp, by omega, q.symm⟩
  · rintro ⟨r, r0, r1, r2⟩
    by_cases e : r = p
    · subst e; exact Or.inr r2.symm
    · exact Or.inl ⟨r, r0, by omega, r2⟩
def cmP (f g : Int → Int) (N z : Int) : Prop := (z = 0 ∧ ∀ p, 0 ≤ p → p < N → f p = g p) ∨ ∃ p, 0 ≤ p ∧ p < N ∧ (∀ r, 0 ≤ r → r < p → f r = g r) ∧ f p ≠ g p ∧ z = f p - g p
theorem cmP_lt {n : Int} {f g : Int → Int} {z : Int} (h : cmP f g (n * n) z) (hl : lxl n f g) : z < 0 := by
  obtain ⟨q, q0, q1, q2, q3⟩ := hl
  rcases h with ⟨-, h⟩ | ⟨p, p0, p1, p2, p3, p4⟩
  · have := h q q0 q1; omega
  · rcases Int.lt_trichotomy p q with e | e | e
    · exact absurd (q2 p p0 e) p3
    · subst e; omega
    · have := p2 q q0 e; omega
theorem cmP_0 {f g : Int → Int} {N z : Int} (h : cmP f g N z) : z = 0 ↔ ∀ p, 0 ≤ p → p < N → f p = g p := by
  rcases h with ⟨h1, h⟩ | ⟨p, p0, p1, p2, p3, p4⟩
  · exact ⟨fun _ => h, fun _ => h1⟩
  · exact ⟨fun e => absurd (by omega : f p = g p) p3, fun e => absurd (e p p0 p1) p3⟩
