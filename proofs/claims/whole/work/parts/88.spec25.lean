theorem up_same (x : Me) (i : Nat) (j : Int) : up x i j (x i j) = x := by
  funext a b; unfold up; split
  · next h => rw [h.1, h.2]
  · rfl
theorem MG_up {x : Me} {q p v : Int} (h : MG x q) (hp : 0 ≤ p ∧ p < 81) (hv : 0 ≤ v ∧ v ≤ 999) : MG (up x 52 (81 * q + p) v) q := by
  obtain ⟨h1, h2, h3⟩ := h
  refine ⟨h1, by rw [up_i _ _ _ (by omega)]; exact h2, fun r a b => ?_⟩
  by_cases e : r = p
  · rw [e, up_s]; exact hv
  · rw [up_n _ _ (by omega)]; exact h3 r a b
theorem nd_up {x : Me} {q p v : Int} (hp : 0 ≤ p ∧ p < 81) : nd (up x 52 (81 * q + p) v) q = uf (nd x q) p v := by
  funext a
  unfold nd uf
  by_cases h1 : a = p
  · rw [if_pos (by omega), if_pos h1, h1, up_s]
  · rw [if_neg h1]
    by_cases h2 : 0 ≤ a ∧ a < 81
    · rw [if_pos h2, up_n _ _ (by omega)]; exact (if_pos h2).symm
    · rw [if_neg h2]; exact (if_neg h2).symm
def mdd (n : Int) (f : Int → Int) (p : Int) : Int := lsum n f 0 (if p / n = 0 then 1 else 0) - lsum n f 0 (p / n) + f p
theorem men_v {n : Int} {f : Int → Int} {p v : Int} (hv : v = mdd n f p) : ((f p ≠ v ∧ (1 ≤ v ∧ v ≤ 999) ∧ mag n (uf f p v)) → men n f p = v) ∧ (¬ (f p ≠ v ∧ (1 ≤ v ∧ v ≤ 999) ∧ mag n (uf f p v)) → men n f p = -1) := by
  have e : f p + lsum n f 0 (if p / n = 0 then 1 else 0) - lsum n f 0 (p / n) = v := by unfold mdd at hv; omega
  rw [men_d rfl, e]
  constructor
  · intro h
    refine ci_f ?_
    rintro (a | a | a | a)
    · exact h.1 a.symm
    · omega
    · omega
    · exact a h.2.2
  · intro h
    refine ci_t ?_
    by_cases h1 : f p = v
    · exact Or.inl h1.symm
    · by_cases h2 : 1 ≤ v ∧ v ≤ 999
      · exact Or.inr (Or.inr (Or.inr (fun m => h ⟨h1, h2, m⟩)))
      · omega
theorem mag_1 (f : Int → Int) : mag 1 f := by
  have e : ∀ k l, 0 ≤ l → l < 1 → lsum 1 f k l = f 0 := by
    intro k l a b
    have hl : l = 0 := by omega
    subst hl
    have h0 : onl 1 k 0 0 = 0 := by unfold onl; split; rfl; split; rfl; split <;> decide
    show (0 : Int) + f (onl 1 k 0 0) = f 0
    rw [h0]; omega
  refine ⟨fun l a b => ?_, fun l a b => ?_, ?_, ?_⟩
  · rw [e 0 l a b, e 0 0 (by omega) (by omega)]
  · rw [e 1 l a b, e 0 0 (by omega) (by omega)]
  · rw [e 2 0 (by omega) (by omega), e 0 0 (by omega) (by omega)]
  · rw [e 3 (1 - 1) (by omega) (by omega), e 0 0 (by omega) (by omega)]
theorem slc_s {n : Int} {f : Int → Int} {p : Int} (h : 0 ≤ p) : (men n f p = -1 → slc n f (p + 1).toNat = slc n f p.toNat) ∧ (men n f p ≠ -1 → slc n f (p + 1).toNat = slc n f p.toNat + 1) := by
  unfold slc
  rw [sm_s _ h]
  exact ⟨fun e => by rw [bi_f (fun q => q e)]; omega, fun e => by rw [bi_t e]⟩
theorem slf_s {n : Int} {f : Int → Int} {p : Int} (h : 0 ≤ p) : (slf n f p.toNat ≠ -1 → slf n f (p + 1).toNat = slf n f p.toNat) ∧ (slf n f p.toNat = -1 → men n f p = -1 → slf n f (p + 1).toNat = -1) ∧ (slf n f p.toNat = -1 → men n f p ≠ -1 → slf n f (p + 1).toNat = p) := by
  have e : (p + 1).toNat = p.toNat + 1 := by omega
  have e2 : ((p.toNat : Nat) : Int) = p := by omega
  rw [e, slf, e2]
  refine ⟨fun h => if_neg h, fun h h2 => ?_, fun h h2 => ?_⟩
  · rw [if_pos h, ci_f (fun q => q h2)]
  · rw [if_pos h, ci_t h2]
theorem mulb {a v : Int} (ha : 1 ≤ a ∧ a ≤ 81) (hg : 0 ≤ v ∧ v ≤ 999) : -81 ≤ a * (v - 1) ∧ a * (v - 1) ≤ 80838 := by
  by_cases e : v = 0
  · subst e; omega
  · have h1 := Int.mul_nonneg (show 0 ≤ a by omega) (show 0 ≤ v - 1 by omega)
    have h2 := Int.mul_le_mul ha.2 (show v - 1 ≤ 998 by omega) (by omega) (by omega)
    omega
theorem hig_r {f : Int → Int} (h : ∀ p, 0 ≤ f p ∧ f p ≤ 999) (k : Nat) : 0 ≤ hig f k ∧ hig f k ≤ 999 := by
  induction k with
  | zero => simp [hig]
  | succ k ih => have := h k; rw [hig]; omega
/-- the model's word for being kin; hidden from omega, which falls over an 'exists' -/
def KD (x : Me) (q r : Int) : Prop := ∃ fm, 0 ≤ fm ∧ fm < 8 ∧ x 51 q = x 51 r ∧ isF (x 51 q) (nd x q) fm (nd x r)
def KE (x : Me) (i j : Int) : Prop := ∃ e : Int, 0 ≤ e ∧ e < j ∧ KD x i e
theorem KD_of {x y : Me} (e1 : y 51 = x 51) (e2 : y 52 = x 52) (q r : Int) : KD y q r ↔ KD x q r := by
  unfold KD; rw [e1, nd_of e2, nd_of e2]
theorem KD_th {x : Me} {t q r : Int} : KD (up x 50 0 t) q r ↔ KD x q r := KD_of (up_i _ _ _ (by omega)) (up_i _ _ _ (by omega)) q r
/-! the model's slips: its two loops -/
def SO1 (f : Int → Int) (p w pl nu : Int) : Prop := (p = 0 ∧ w = 0 ∧ pl = -1 ∧ nu = -1) ∨ (p = 1 ∧ w = (if f 0 = 0 then 999 else 998) ∧ pl = 0 ∧ nu = (if f 0 = 1 then 2 else 1))
noncomputable def SO2 (n : Int) (f : Int → Int) (p w pl nu : Int) : Prop := (0 ≤ w ∧ w ≤ p) ∧ w = slc n f p.toNat ∧ pl = slf n f p.toNat ∧ ((pl = -1 ∧ w = 0 ∧ nu = -1) ∨ (pl ≠ -1 ∧ 1 ≤ w ∧ nu = men n f pl))
def SO (n : Int) (f : Int → Int) (p w pl nu : Int) : Prop := (n = 1 ∧ SO1 f p w pl nu) ∨ (2 ≤ n ∧ SO2 n f p w pl nu)
def SI1 (f : Int → Int) (p v w pl nu : Int) : Prop := p = 0 ∧ 1 ≤ v ∧ v ≤ 1000 ∧ w = v - 1 - (if 1 ≤ f 0 ∧ f 0 < v then 1 else 0) ∧ pl = (if w = 0 then -1 else 0) ∧ nu = (if w = 0 then -1 else if f 0 = 1 then 2 else 1)
def SI2 (n : Int) (f : Int → Int) (lo p w pl nu v w2 pl2 nu2 : Int) : Prop := (v = lo ∧ w2 = w ∧ pl2 = pl ∧ nu2 = nu) ∨ (v = lo + 1 ∧ w2 = w + (if men n f p = -1 then 0 else 1) ∧ pl2 = (if w = 0 ∧ men n f p ≠ -1 then p else pl) ∧ nu2 = (if w = 0 ∧ men n f p ≠ -1 then men n f p else nu))
def SI (n : Int) (f : Int → Int) (lo p w pl nu v w2 pl2 nu2 : Int) : Prop := (n = 1 ∧ SI1 f p v w2 pl2 nu2) ∨ (2 ≤ n ∧ SI2 n f lo p w pl nu v w2 pl2 nu2)
def LOc (n : Int) (f : Int → Int) (p lo : Int) : Prop := (n = 1 ∧ lo = 1) ∨ (2 ≤ n ∧ lo = mdd n f p)
def HIc (n lo hi : Int) : Prop := (n = 1 ∧ hi = 999) ∨ (2 ≤ n ∧ hi = lo)
theorem SO_0 {n : Int} {f : Int → Int} (hn : 1 ≤ n) : SO n f 0 0 (-1) (-1) := by
  by_cases e : n = 1
  · exact Or.inl ⟨e, Or.inl ⟨rfl, rfl, rfl, rfl⟩⟩
  · exact Or.inr ⟨by omega, ⟨by omega, by omega⟩, rfl, rfl, Or.inl ⟨rfl, rfl, rfl⟩⟩
theorem SI_r {n : Int} {f : Int → Int} {lo p w pl nu v w2 pl2 nu2 : Int} (hU : SO n f p w pl nu) (hp : p ≤ 81) (h : SI n f lo p w pl nu v w2 pl2 nu2) : 0 ≤ w2 ∧ w2 ≤ 2000 := by
  rcases h with ⟨h1, h⟩ | ⟨h1, h⟩
  · obtain ⟨a, b, c, d, -, -⟩ := h
    rw [d]; split <;> omega
  · rcases hU with ⟨q, -⟩ | ⟨-, q⟩
    · omega
    · have := q.1
      rcases h with ⟨-, e, -⟩ | ⟨-, e, -⟩
      · omega
      · rw [e]; split <;> omega
theorem SI_0 {n : Int} {f : Int → Int} {lo p w pl nu : Int} (hlo : LOc n f p lo) (hU : SO n f p w pl nu) (hp : p < n * n) : SI n f lo p w pl nu lo w pl nu := by
  rcases hU with ⟨h1, h⟩ | ⟨h1, h⟩
  · left
    refine ⟨h1, ?_⟩
    have hlo1 : lo = 1 := by
      rcases hlo with ⟨-, e⟩ | ⟨q, -⟩
      · exact e
      · omega
    subst hlo1
    rcases h with ⟨a, b, c, d⟩ | ⟨a, -⟩
    · refine ⟨a, by omega, by omega, by rw [if_neg (by omega)]; omega, by rw [if_pos b]; exact c, by rw [if_pos b]; exact d⟩
    · subst h1; omega
  · exact Or.inr ⟨h1, Or.inl ⟨rfl, rfl, rfl, rfl⟩⟩
theorem SI_t {n : Int} {f : Int → Int} {lo hi p w pl nu v w2 pl2 nu2 : Int} (hlo : LOc n f p lo) (hhi : HIc n lo hi) (hv : v ≤ hi) (hI : SI n f lo p w pl nu v w2 pl2 nu2) (hs : f p ≠ v ∧ (1 ≤ v ∧ v ≤ 999) ∧ mag n (uf f p v)) : (w2 = 0 → SI n f lo p w pl nu (v + 1) (w2 + 1) p v) ∧ (w2 ≠ 0 → SI n f lo p w pl nu (v + 1) (w2 + 1) pl2 nu2) := by
  rcases hI with ⟨h1, a, b, c, d, e, g⟩ | ⟨h1, h⟩
  · have hf0 : f 0 ≠ v := by rw [a] at hs; exact hs.1
    have hite : (if 1 ≤ f 0 ∧ f 0 < v + 1 then (1 : Int) else 0) = (if 1 ≤ f 0 ∧ f 0 < v then 1 else 0) := by
      by_cases q : 1 ≤ f 0 ∧ f 0 < v
      · rw [if_pos q, if_pos (by omega)]
      · rw [if_neg q, if_neg (by omega)]
    have hw0 : 0 ≤ w2 := by rw [d]; split <;> omega
    have hnew : w2 + 1 = v + 1 - 1 - (if 1 ≤ f 0 ∧ f 0 < v + 1 then 1 else 0) := by rw [hite, d]; omega
    constructor
    · intro q
      refine Or.inl ⟨h1, a, by omega, by omega, hnew, by rw [if_neg (by omega)]; exact a, ?_⟩
      rw [if_neg (by omega)]
      by_cases q1 : f 0 = 1
      · rw [if_pos q1]
        rw [q] at d
        split at d <;> omega
      · rw [if_neg q1]
        rw [q] at d
        split at d <;> omega
    · intro q
      refine Or.inl ⟨h1, a, by omega, by omega, hnew, ?_, ?_⟩
      · rw [if_neg (by omega), e, if_neg q]
      · rw [if_neg (by omega), g, if_neg q]
  · have hhl : hi = lo := by
      rcases hhi with ⟨q, -⟩ | ⟨-, q⟩
      · omega
      · exact q
    have hlm : lo = mdd n f p := by
      rcases hlo with ⟨q, -⟩ | ⟨-, q⟩
      · omega
      · exact q
    rcases h with ⟨a, b, c, d⟩ | ⟨a, -⟩
    · have hm := (men_v (v := v) (by omega)).1 hs
      subst b c d
      constructor
      · intro q
        refine Or.inr ⟨h1, Or.inr ⟨by omega, by rw [if_neg (by omega)], ?_, ?_⟩⟩
        · rw [if_pos ⟨q, by omega⟩]
        · rw [if_pos ⟨q, by omega⟩, hm]
      · intro q
        refine Or.inr ⟨h1, Or.inr ⟨by omega, by rw [if_neg (by omega)], ?_, ?_⟩⟩
        · rw [if_neg (fun z => q z.1)]
        · rw [if_neg (fun z => q z.1)]
    · omega
theorem SI_e {n : Int} {f : Int → Int} {lo hi p w pl nu v w2 pl2 nu2 : Int} (hlo : LOc n f p lo) (hhi : HIc n lo hi) (hv : v ≤ hi) (hI : SI n f lo p w pl nu v w2 pl2 nu2) (hs : ¬ (f p ≠ v ∧ (1 ≤ v ∧ v ≤ 999) ∧ mag n (uf f p v))) : SI n f lo p w pl nu (v + 1) (w2 + 0) pl2 nu2 := by
  rw [Int.add_zero]
  rcases hI with ⟨h1, a, b, c, d, e, g⟩ | ⟨h1, h⟩
  · have h9 : hi = 999 := by
      rcases hhi with ⟨-, q⟩ | ⟨q, -⟩
      · exact q
      · omega
    have hf0 : f 0 = v := by
      rcases Classical.em (f 0 = v) with q | q
      · exact q
      · rw [a, h1] at hs; exact absurd ⟨q, ⟨b, by omega⟩, mag_1 _⟩ hs
    refine Or.inl ⟨h1, a, by omega, by omega, ?_, e, g⟩
    rw [if_pos (by omega), d, if_neg (by omega)]; omega
  · have hhl : hi = lo := by
      rcases hhi with ⟨q, -⟩ | ⟨-, q⟩
      · omega
      · exact q
    have hlm : lo = mdd n f p := by
      rcases hlo with ⟨q, -⟩ | ⟨-, q⟩
      · omega
      · exact q
    rcases h with ⟨a, b, c, d⟩ | ⟨a, -⟩
    · have hm := (men_v (v := v) (by omega)).2 hs
      subst b c d
      refine Or.inr ⟨h1, Or.inr ⟨by omega, by rw [if_pos hm, Int.add_zero], ?_, ?_⟩⟩
      · rw [if_neg (fun z => z.2 hm)]
      · rw [if_neg (fun z => z.2 hm)]
    · omega
theorem SO_s {n : Int} {f : Int → Int} {lo hi p w pl nu v w2 pl2 nu2 : Int} (hf : 0 ≤ f 0 ∧ f 0 ≤ 999) (hp : 0 ≤ p) (hhi : HIc n lo hi) (hv : hi < v) (hU : SO n f p w pl nu) (hI : SI n f lo p w pl nu v w2 pl2 nu2) : SO n f (p + 1) w2 pl2 nu2 := by
  rcases hI with ⟨h1, a, b, c, d, e, g⟩ | ⟨h1, h⟩
  · have h9 : hi = 999 := by
      rcases hhi with ⟨-, q⟩ | ⟨q, -⟩
      · exact q
      · omega
    have hw : w2 = (if f 0 = 0 then 999 else 998) := by
      rw [d]
      by_cases q : f 0 = 0
      · rw [if_pos q, if_neg (by omega)]; omega
      · rw [if_neg q, if_pos (by omega)]; omega
    have hw0 : w2 ≠ 0 := by rw [hw]; split <;> omega
    exact Or.inl ⟨h1, Or.inr ⟨by omega, hw, by rw [e, if_neg hw0], by rw [g, if_neg hw0]⟩⟩
  · have hhl : hi = lo := by
      rcases hhi with ⟨q, -⟩ | ⟨-, q⟩
      · omega
      · exact q
    rcases hU with ⟨q, -⟩ | ⟨-, u1, u2, u3, u4⟩
    · omega
    · rcases h with ⟨a, -⟩ | ⟨a, b, c, d⟩
      · omega
      · have s1 := slc_s (n := n) (f := f) hp
        have s2 := slf_s (n := n) (f := f) hp
        rw [← u3] at s2
        right
        by_cases hm : men n f p = -1
        · rw [if_pos hm, Int.add_zero] at b
          rw [if_neg (fun z => z.2 hm)] at c d
          subst b c d
          refine ⟨h1, ⟨by omega, by omega⟩, by rw [s1.1 hm]; exact u2, ?_, u4⟩
          by_cases q : pl2 = -1
          · rw [s2.2.1 q hm]; exact q
          · rw [s2.1 q]
        · rw [if_neg hm] at b
          by_cases q : w = 0
          · rw [if_pos ⟨q, hm⟩] at c d
            have hpl : pl = -1 := by rcases u4 with ⟨z, -⟩ | ⟨-, z, -⟩ <;> omega
            refine ⟨h1, ⟨by omega, by omega⟩, by rw [s1.2 hm, ← u2]; exact b, by rw [s2.2.2 hpl hm]; exact c, Or.inr ⟨by omega, by omega, by rw [c]; exact d⟩⟩
          · rw [if_neg (fun z => q z.1)] at c d
            have hpl : pl ≠ -1 := by rcases u4 with ⟨-, z, -⟩ | ⟨z, -⟩ <;> omega
            subst c d
            refine ⟨h1, ⟨by omega, by omega⟩, by rw [s1.2 hm, ← u2]; exact b, by rw [s2.1 hpl], ?_⟩
            rcases u4 with ⟨z, -⟩ | ⟨z1, z2, z3⟩
            · omega
            · exact Or.inr ⟨z1, by omega, z3⟩
theorem SO_end {n : Int} {f : Int → Int} {w pl nu what : Int} (hw : 0 ≤ what ∧ what ≤ 2) (hU : SO n f (n * n) w pl nu) : (what = 0 → w = slp n f what) ∧ (what = 1 → pl = slp n f what) ∧ (what = 2 → nu = slp n f what) := by
  rcases hU with ⟨h1, h⟩ | ⟨h1, u1, u2, u3, u4⟩
  · subst h1
    rcases h with ⟨a, -⟩ | ⟨-, b, c, d⟩
    · omega
    · unfold slp
      rw [if_pos rfl]
      refine ⟨fun e => ?_, fun e => ?_, fun e => ?_⟩
      · rw [if_pos e]; exact b
      · rw [if_neg (by omega), if_pos e]; exact c
      · rw [if_neg (by omega), if_neg (by omega)]; exact d
  · unfold slp
    rw [if_neg (by omega), ← u3, ← u2]
    refine ⟨fun e => ?_, fun e => ?_, fun e => ?_⟩
    · rw [if_pos e]
    · rw [if_neg (by omega), if_pos e]
    · rw [if_neg (by omega), if_neg (by omega)]
      rcases u4 with ⟨a, -, b⟩ | ⟨a, -, b⟩
      · rw [if_pos a]; exact b
      · rw [if_neg a]; exact b
theorem LOHI {n : Int} {f : Int → Int} {p lo hi : Int} (hn : 1 ≤ n ∧ n ≤ 9) (hN : ∀ p, 0 ≤ f p ∧ f p ≤ 999) (hlo : LOc n f p lo) (hhi : HIc n lo hi) : (-100000 ≤ lo ∧ lo ≤ 100000) ∧ -100000 ≤ hi ∧ hi ≤ 99999 := by
  have r1 := lsum_rng hn hN 0 (if p / n = 0 then 1 else 0)
  have r2 := lsum_rng hn hN 0 (p / n)
  have r3 := hN p
  have hl : -9000 ≤ lo ∧ lo ≤ 10000 := by
    rcases hlo with ⟨-, e⟩ | ⟨-, e⟩
    · omega
    · unfold mdd at e; omega
  rcases hhi with ⟨-, e⟩ | ⟨-, e⟩ <;> omega
