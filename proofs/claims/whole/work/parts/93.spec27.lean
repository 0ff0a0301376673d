/-! lines of a small square by a start and a step -/
def fl (b : Int → Bool) : Nat → List Int
  | 0 => []
  | k + 1 => fl b k ++ (if b k = true then [(k : Int)] else [])
def mpl (h : Int → Int) : Nat → List Int
  | 0 => []
  | k + 1 => mpl h k ++ [h k]
def sL (G : Int → Int) (L : List Int) : Int := L.foldl (fun s p => s + G p) 0
theorem sL_app (G : Int → Int) (L : List Int) (a : Int) : sL G (L ++ [a]) = sL G L + G a := by unfold sL; rw [List.foldl_append]; rfl
theorem fl_sm (b : Int → Bool) (G : Int → Int) (N : Nat) : sm (fun p => if b p = true then G p else 0) N = sL G (fl b N) := by
  induction N with
  | zero => rfl
  | succ N ih =>
    rw [sm, fl, ih]
    by_cases h : b (N : Int) = true
    · rw [if_pos h, if_pos h, sL_app]
    · rw [if_neg h, if_neg h, List.append_nil, Int.add_zero]
theorem mpl_sm (h : Int → Int) (G : Int → Int) (N : Nat) : sm (fun i => G (h i)) N = sL G (mpl h N) := by
  induction N with
  | zero => rfl
  | succ N ih => rw [sm, mpl, ih, sL_app]
def liS (n l : Int) : Int := if l < n then n * l else if l < 2 * n then l - n else if l = 2 * n then 0 else n - 1
def liP (n l : Int) : Int := if l < n then 1 else if l < 2 * n then n else if l = 2 * n then n + 1 else if 1 < n then n - 1 else 1
theorem lines_ok : ∀ n : Fin 5, ∀ l : Fin 10, 1 ≤ n.val → l.val < 2 * n.val + 2 → fl (onb n.val l.val) (n.val * n.val) = mpl (fun i => liS n.val l.val + i * liP n.val l.val) n.val := by decide +kernel
theorem lines {n l : Int} (hn : 1 ≤ n ∧ n ≤ 4) (hl : 0 ≤ l ∧ l < 2 * n + 2) (G : Int → Int) : sm (fun p => if onb n l p = true then G p else 0) (n * n).toNat = sm (fun i => G (liS n l + i * liP n l)) n.toNat := by
  obtain ⟨m, rfl⟩ : ∃ m : Nat, n = m := ⟨n.toNat, by omega⟩
  obtain ⟨k, rfl⟩ : ∃ k : Nat, l = k := ⟨l.toNat, by omega⟩
  have h := lines_ok ⟨m, by omega⟩ ⟨k, by omega⟩ (by show 1 ≤ m; omega) (by show k < 2 * m + 2; omega)
  have e1 : ((m : Int) * (m : Int)).toNat = m * m := by rw [← Int.natCast_mul]; exact Int.toNat_natCast _
  rw [fl_sm, mpl_sm (fun i => liS m k + i * liP m k), e1, Int.toNat_natCast]
  exact congrArg _ h
theorem lsm_l {n l : Int} (hn : 1 ≤ n ∧ n ≤ 4) (hl : 0 ≤ l ∧ l < 2 * n + 2) (G : Int → Int) : lsm n G l = sm (fun i => G (liS n l + i * liP n l)) n.toNat := by
  rw [← lines hn hl G]
  unfold lsm
  apply sm_congr
  intro k _ _
  by_cases h : ono n l k
  · rw [ci_t h, if_pos (onb_iff.mpr h)]
  · rw [ci_f h, if_neg (fun q => h (onb_iff.mp q))]
theorem lck_l {n l : Int} (hn : 1 ≤ n ∧ n ≤ 4) (hl : 0 ≤ l ∧ l < 2 * n + 2) (G : Int → Int) : lck n G l = sm (fun i => if G (liS n l + i * liP n l) = 0 then 1 else 0) n.toNat := by
  rw [← lines hn hl (fun p => if G p = 0 then 1 else 0)]
  unfold lck
  apply sm_congr
  intro k _ _
  by_cases h : ono n l k
  · rw [if_pos (onb_iff.mpr h)]
    by_cases h0 : G k = 0
    · rw [bi_t ⟨h, h0⟩, if_pos h0]
    · rw [bi_f (fun q => h0 q.2), if_neg h0]
  · rw [bi_f (fun q => h q.1), if_neg (fun q => h (onb_iff.mp q))]
theorem lin_rng {n l i : Int} (hn : 1 ≤ n ∧ n ≤ 4) (hl : 0 ≤ l ∧ l < 2 * n + 2) (hi : 0 ≤ i ∧ i < n) : 0 ≤ liS n l + i * liP n l ∧ liS n l + i * liP n l < n * n := by
  have h1 : n = 1 ∨ n = 2 ∨ n = 3 ∨ n = 4 := by omega
  unfold liS liP
  rcases h1 with rfl | rfl | rfl | rfl <;> split <;> (try split) <;> (try split) <;> (try split) <;> omega
/-- the model's square that is searched -/
def WK (x : Me) (n : Int) (G : Int → Int) : Prop := x 50 5 = n ∧ (∀ p, 0 ≤ p → p < n * n → x 54 p = G p) ∧ ∀ p, 0 ≤ G p ∧ G p ≤ 999
/-! bits of what is there -/
def shr2 (a b : Int) : Int := ((a.toNat / 2 ^ b.toNat : Nat) : Int)
theorem shr2_z {a b : Int} (ha : 0 ≤ a ∧ a < 2147483648) (hb : 0 ≤ b ∧ b < 32) : zi a >>> (zi b &&& 31) = zi (shr2 a b) := by
  have h := zn_shr (a := a.toNat) (k := b.toNat) (by omega) (by omega)
  rw [Int.toNat_of_nonneg ha.1, Int.toNat_of_nonneg hb.1] at h
  exact h
theorem shr2_r {a b : Int} (ha : 0 ≤ a) : 0 ≤ shr2 a b ∧ shr2 a b ≤ a := by
  unfold shr2
  have h := Nat.div_le_self a.toNat (2 ^ b.toNat)
  generalize a.toNat / 2 ^ b.toNat = q at h ⊢
  omega
def usm (G : Int → Int) : Nat → Nat
  | 0 => 0
  | k + 1 => if 0 < G k then usm G k ||| 2 ^ (G k).toNat else usm G k
theorem bit_v (a w : Nat) : bnd2 (shr2 a w) 1 = if a.testBit w = true then 1 else 0 := by
  unfold bnd2 shr2
  rw [Nat.testBit_eq_decide_div_mod_eq]
  simp only [Int.toNat_natCast, decide_eq_true_eq]
  rw [show (1 : Int).toNat = 1 from rfl, Nat.and_one_is_mod]
  split <;> omega
theorem usm_bit (G : Int → Int) (k w : Nat) : (usm G k).testBit w = true ↔ ∃ r : Int, 0 ≤ r ∧ r < k ∧ 0 < G r ∧ G r = w := by
  induction k with
  | zero =>
    simp only [usm, Nat.zero_testBit]
    exact ⟨fun h => Bool.noConfusion h, fun ⟨r, a, b, _⟩ => by omega⟩
  | succ k ih =>
    rw [usm]
    by_cases h : 0 < G (k : Int)
    · rw [if_pos h, Nat.testBit_or, Bool.or_eq_true, ih, Nat.testBit_two_pow, decide_eq_true_eq]
      constructor
      · rintro (⟨r, a, b, c, d⟩ | e)
        · exact ⟨r, a, by omega, c, d⟩
        · exact ⟨k, by omega, by omega, h, by omega⟩
      · rintro ⟨r, a, b, c, d⟩
        by_cases e : r = k
        · right; rw [e] at d; omega
        · exact Or.inl ⟨r, a, by omega, c, d⟩
    · rw [if_neg h, ih]
      constructor
      · rintro ⟨r, a, b, c, d⟩; exact ⟨r, a, by omega, c, d⟩
      · rintro ⟨r, a, b, c, d⟩
        by_cases e : r = k
        · rw [e] at c; exact absurd c h
        · exact ⟨r, a, by omega, c, d⟩
theorem usm_lt {G : Int → Int} {k : Nat} (h : ∀ r : Int, 0 ≤ r → r < k → G r ≤ 16) : usm G k < 2 ^ 17 := by
  induction k with
  | zero => simp [usm]
  | succ k ih =>
    have h1 := ih (fun r a b => h r a (by omega))
    have h2 := h k (by omega) (by omega)
    rw [usm]; split
    · exact Nat.or_lt_two_pow h1 (Nat.pow_lt_pow_right (by omega) (by omega))
    · exact h1
theorem usm_s {G : Int → Int} {p : Int} (hp : 0 ≤ p) : (0 < G p → (usm G (p + 1).toNat : Int) = bor (usm G p.toNat) (p2 (G p))) ∧ (¬ 0 < G p → (usm G (p + 1).toNat : Int) = usm G p.toNat) := by
  have e : (p + 1).toNat = p.toNat + 1 := by omega
  have e2 : ((p.toNat : Nat) : Int) = p := by omega
  rw [e, usm, e2]
  constructor
  · intro h
    rw [if_pos h]
    unfold bor p2
    rw [Int.toNat_natCast]
    rw [show (2 : Int) ^ (G p).toNat = ((2 ^ (G p).toNat : Nat) : Int) by simp, Int.toNat_natCast]
  · intro h; rw [if_neg h]
theorem bor_0 {a : Int} (h : 0 ≤ a) : bor a 0 = a := by
  unfold bor
  rw [show (0 : Int).toNat = 0 from rfl, Nat.or_zero, Int.toNat_of_nonneg h]
/-- the first p places are fine: small, and no number is there twice -/
def GDF (n : Int) (G : Int → Int) (p : Int) : Prop := (∀ r, 0 ≤ r → r < p → G r ≤ n * n) ∧ ∀ r, 0 ≤ r → r < p → ∀ s, 0 ≤ s → s < r → G r ≠ 0 → G s ≠ G r
theorem GDF_0 (n : Int) (G : Int → Int) : GDF n G 0 := ⟨fun r a b => by omega, fun r a b => by omega⟩
theorem GDF_s {n : Int} {G : Int → Int} {p : Int} (h : GDF n G p) (h1 : G p ≤ n * n) (h2 : G p ≠ 0 → ∀ s, 0 ≤ s → s < p → G s ≠ G p) : GDF n G (p + 1) := by
  refine ⟨fun r a b => ?_, fun r a b s c d e => ?_⟩
  · by_cases q : r = p
    · rw [q]; exact h1
    · exact h.1 r a (by omega)
  · by_cases q : r = p
    · subst q; exact h2 e s c d
    · exact h.2 r a (by omega) s c d e
theorem GDF_end {n : Int} {G : Int → Int} : GDF n G (n * n) ↔ (∀ p, 0 ≤ p → p < n * n → G p ≤ n * n) ∧ dst n G := by
  constructor
  · rintro ⟨h1, h2⟩
    refine ⟨h1, fun p a b r c d e h e2 => ?_⟩
    by_cases q : r < p
    · exact h2 p a b r c q h e2.symm
    · exact h2 r c d p a (by omega) (by rw [← e2]; exact h) e2
  · rintro ⟨h1, h2⟩
    exact ⟨h1, fun r a b s c d e e2 => h2 r a b s c (by omega) (by omega) e e2.symm⟩
/-- rows and columns ahead of k, and the two diagonals -/
def LNF (n : Int) (G : Int → Int) (k : Int) : Prop := (lnf n G (2 * n) ∧ lnf n G (2 * n + 1)) ∧ ∀ l, 0 ≤ l → l < k → lnf n G l ∧ lnf n G (n + l)
theorem fit_LNF {n : Int} {G : Int → Int} (hn : 1 ≤ n) : fit n G ↔ LNF n G n ∧ GDF n G (n * n) := by
  rw [GDF_end]
  constructor
  · rintro ⟨h1, h2, h3⟩
    exact ⟨⟨⟨h1 _ (by omega) (by omega), h1 _ (by omega) (by omega)⟩, fun l a b => ⟨h1 l a (by omega), h1 (n + l) (by omega) (by omega)⟩⟩, h2, h3⟩
  · rintro ⟨⟨⟨h1, h2⟩, h3⟩, h4, h5⟩
    refine ⟨fun l a b => ?_, h4, h5⟩
    by_cases q : l < n
    · exact (h3 l a q).1
    · by_cases q2 : l < 2 * n
      · have := (h3 (l - n) (by omega) (by omega)).2
        rw [show n + (l - n) = l by omega] at this; exact this
      · by_cases q3 : l = 2 * n
        · rw [q3]; exact h1
        · rw [show l = 2 * n + 1 by omega]; exact h2
theorem p2_nn {k : Int} (h : 0 ≤ k) : 0 ≤ p2 k := by
  obtain ⟨m, rfl⟩ : ∃ m : Nat, k = m := ⟨k.toNat, by omega⟩
  rw [p2_nat]; exact Int.natCast_nonneg _
theorem bor_lt {a k : Int} (ha : 0 ≤ a ∧ a < 131072) (hk : 0 ≤ k ∧ k ≤ 16) : 0 ≤ bor a (p2 k) ∧ bor a (p2 k) < 131072 := by
  obtain ⟨m, rfl⟩ : ∃ m : Nat, k = m := ⟨k.toNat, by omega⟩
  unfold bor
  rw [p2_nat, Int.toNat_natCast]
  have h1 : a.toNat ||| 2 ^ m < 2 ^ 17 := Nat.or_lt_two_pow (by omega) (Nat.pow_lt_pow_right (by omega) (by omega))
  omega
theorem BT {G : Int → Int} {p u : Int} (hp : 0 ≤ p) (hu : u = usm G p.toNat) (hg : 0 ≤ G p) : (bnd2 (shr2 u (G p)) 1 = 0 → 0 < G p → ∀ s, 0 ≤ s → s < p → G s ≠ G p) ∧ (bnd2 (shr2 u (G p)) 1 ≠ 0 → ¬ ∀ s, 0 ≤ s → s < p → G s ≠ G p) := by
  have h := bit_v (usm G p.toNat) (G p).toNat
  have h2 := usm_bit G p.toNat (G p).toNat
  rw [Int.toNat_of_nonneg hg, ← hu] at h
  rw [Int.toNat_of_nonneg hg] at h2
  constructor
  · intro h0 hpos s a b e
    rw [h, if_pos (h2.mpr ⟨s, a, by omega, by omega, e⟩)] at h0
    omega
  · intro h0 h3
    by_cases hb : (usm G p.toNat).testBit (G p).toNat = true
    · obtain ⟨r, a, b, c, d⟩ := h2.mp hb
      exact h3 r a (by omega) d
    · rw [h, if_neg hb] at h0; exact h0 rfl
theorem fs_ok {n : Int} {G : Int → Int} {p u : Int} (hp : 0 ≤ p) (hA : GDF n G p) (hu : u = usm G p.toNat) (hg : 0 ≤ G p) (h1 : G p ≤ n * n) (h2 : G p = 0 ∨ bnd2 (shr2 u (G p)) 1 = 0) : GDF n G (p + 1) := by
  refine GDF_s hA h1 (fun h0 => ?_)
  rcases h2 with h2 | h2
  · exact absurd h2 h0
  · exact (BT hp hu hg).1 h2 (by omega)
theorem fs_no {n : Int} {G : Int → Int} {p u : Int} (hn : 1 ≤ n) (hp : 0 ≤ p ∧ p < n * n) (hu : u = usm G p.toNat) (hg : 0 ≤ G p) (h : n * n < G p ∨ (G p ≠ 0 ∧ bnd2 (shr2 u (G p)) 1 ≠ 0)) : ¬ fit n G := by
  intro hf
  have hd := ((fit_LNF hn).mp hf).2
  rcases h with h | ⟨h1, h2⟩
  · have := hd.1 p hp.1 hp.2; omega
  · exact (BT hp.1 hu hg).2 h2 (fun s a b e => hd.2 p hp.1 hp.2 s a b h1 e)
theorem du4 {n : Int} (hn : 1 ≤ n ∧ n ≤ 4) : 0 ≤ n * (n * n + 1) ∧ n * (n * n + 1) ≤ 68 := by
  have h1 : n = 1 ∨ n = 2 ∨ n = 3 ∨ n = 4 := by omega
  rcases h1 with rfl | rfl | rfl | rfl <;> decide
/-- the taking of a square, as far as p -/
def TI (x y : Me) (n : Int) (F : Int → Int) (p : Int) : Prop :=
  y 50 5 = n ∧ (y 50 7 = (emp F p.toNat).length ∧ ∀ j : Int, 0 ≤ j → j < (emp F p.toNat).length → y 55 j = eF (emp F p.toNat) j) ∧ (∀ r, 0 ≤ r → r < p → y 54 r = F r) ∧ (∀ b, b ≠ 5 → b ≠ 7 → y 50 b = x 50 b) ∧ ∀ a, a ≠ 50 → a ≠ 54 → a ≠ 55 → y a = x a
theorem TI_0 {x y : Me} {n : Int} {F : Int → Int} (h : y = up (up x 50 5 n) 50 7 0) : TI x y n F 0 := by
  subst h
  refine ⟨by rw [up_n _ _ (by omega), up_s], ⟨by rw [up_s]; rfl, fun j a b => ?_⟩, fun r a b => by omega, fun b h1 h2 => by rw [up_n _ _ (by omega), up_n _ _ (by omega)], fun a h1 _ _ => by rw [up_i _ _ _ h1, up_i _ _ _ h1]⟩
  simp [emp] at b; try omega
theorem TI_1 {x y z : Me} {n : Int} {F : Int → Int} {p v : Int} (h : TI x y n F p) (hp : 0 ≤ p) (h0 : F p ≠ 0) (hv : v = F p) (hz : z = up y 54 p v) : TI x z n F (p + 1) := by
  obtain ⟨c5, ⟨c7, cE⟩, cW, fb, fa⟩ := h
  subst hz
  rw [TI, emp_s1 hp h0]
  refine ⟨by rw [up_i _ _ _ (by omega)]; exact c5, ⟨by rw [up_i _ _ _ (by omega)]; exact c7, fun j a b => by rw [up_i _ _ _ (by omega)]; exact cE j a b⟩, fun r a b => ?_, fun b h1 h2 => by rw [up_i _ _ _ (by omega)]; exact fb b h1 h2, fun a h1 h2 h3 => by rw [up_i _ _ _ h2]; exact fa a h1 h2 h3⟩
  by_cases e : r = p
  · rw [e, up_s]; exact hv
  · rw [up_n _ _ (by omega)]; exact cW r a (by omega)
theorem TI_2 {x y z : Me} {n : Int} {F : Int → Int} {p v : Int} (h : TI x y n F p) (hp : 0 ≤ p) (h0 : F p = 0) (hv : v = F p) (hz : z = up (up (up y 54 p v) 55 (y 50 7) p) 50 7 (y 50 7 + 1)) : TI x z n F (p + 1) := by
  obtain ⟨c5, ⟨c7, cE⟩, cW, fb, fa⟩ := h
  subst hz
  rw [TI, emp_s0 hp h0, List.length_append]
  refine ⟨by rw [up_n _ _ (by omega), up_i _ _ _ (by omega), up_i _ _ _ (by omega)]; exact c5, ⟨by rw [up_s, c7]; rfl, fun j a b => ?_⟩, fun r a b => ?_, fun b h1 h2 => by rw [up_n _ _ (by omega), up_i _ _ _ (by omega), up_i _ _ _ (by omega)]; exact fb b h1 h2, fun a h1 h2 h3 => by rw [up_i _ _ _ h1, up_i _ _ _ h3, up_i _ _ _ h2]; exact fa a h1 h2 h3⟩
  · rw [up_i _ _ _ (by omega), c7]
    by_cases e : j = (emp F p.toNat).length
    · rw [e, up_s]; exact eF_app.2.symm
    · rw [up_n _ _ (by omega), up_i _ _ _ (by omega)]
      have b2 : j < (emp F p.toNat).length := by simp at b; omega
      rw [cE j a b2]; exact (eF_app.1 j a b2).symm
  · rw [up_i _ _ _ (by omega), up_i _ _ _ (by omega)]
    by_cases e : r = p
    · rw [e, up_s]; exact hv
    · rw [up_n _ _ (by omega)]; exact cW r a (by omega)
