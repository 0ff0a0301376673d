/-! crossings: the model's walk over the rows -/
def cwk (n : Int) (f : Int → Int) : Nat → (Int → Bool) → Int → Int
  | 0, _, rest => if rest = 0 then 1 else 0
  | k + 1, t, rest => sm (fun c => if t c = false then cwk n f k (tq t c) (rest - f (n * (n - (k + 1)) + c)) else 0) n.toNat
def cwt (n : Int) (f : Int → Int) (k : Nat) (t : Int → Bool) (rest c : Int) : Int := if t c = false then cwk n f k (tq t c) (rest - f (n * (n - (k + 1)) + c)) else 0
theorem cwk_s (n : Int) (f : Int → Int) (k : Nat) (t : Int → Bool) (rest : Int) : cwk n f (k + 1) t rest = sm (cwt n f k t rest) n.toNat := rfl
theorem cwk_neg {n : Int} {f : Int → Int} (hf : ∀ p, 0 ≤ f p) : ∀ (k : Nat) (t : Int → Bool) (rest : Int), rest < 0 → cwk n f k t rest = 0
  | 0, t, rest, h => by rw [cwk, if_neg (by omega)]
  | k + 1, t, rest, h => by
    rw [cwk_s]
    refine sm_0f _ (fun c => ?_)
    unfold cwt; split
    · exact cwk_neg hf k _ _ (by have := hf (n * (n - (k + 1)) + c); omega)
    · rfl
theorem crf_cwk {n : Int} {f : Int → Int} (hf : ∀ p, 0 ≤ f p) : ∀ (k : Nat) (t : Int → Bool) (rest : Int), crf n f k t rest = cwk n f k t rest
  | 0, t, rest => rfl
  | k + 1, t, rest => by
    rw [crf_s, cwk_s]
    refine sm_congr (fun c _ _ => ?_)
    unfold crt cwt
    by_cases h : t c = false
    · rw [if_pos h]
      by_cases h2 : f (n * (n - (k + 1)) + c) ≤ rest
      · rw [if_pos ⟨h, h2⟩]; exact crf_cwk hf k _ _
      · rw [if_neg (fun q => h2 q.2), cwk_neg hf k _ _ (by omega)]
    · rw [if_neg h, if_neg (fun q => h q.1)]
def Tk (pk : Int → Int) : Nat → Int → Bool
  | 0 => fun _ => false
  | j + 1 => tq (Tk pk j) (pk j)
def Rk (n : Int) (f : Int → Int) (tot : Int) (pk : Int → Int) : Nat → Int
  | 0 => tot
  | j + 1 => Rk n f tot pk j - f (n * j + pk j)
def ms (pk : Int → Int) : Nat → Int
  | 0 => 0
  | j + 1 => ms pk j + p2 (pk j)
def Fx (n : Int) (f : Int → Int) (tot : Int) (pk : Int → Int) (j : Nat) : Int → Int := cwt n f (n.toNat - 1 - j) (Tk pk j) (Rk n f tot pk j)
def RMx (n : Int) (f : Int → Int) (tot : Int) (pk : Int → Int) : Nat → Int
  | 0 => 0
  | j + 1 => RMx n f tot pk j + (sm (Fx n f tot pk j) n.toNat - sm (Fx n f tot pk j) (pk j + 1).toNat)
def mK (pk : Int → Int) : Nat → Nat
  | 0 => 0
  | j + 1 => mK pk j + (8 - pk j).toNat * 10 ^ (6 - j)
theorem Tk_c {pk pk' : Int → Int} : ∀ j : Nat, (∀ i : Int, 0 ≤ i → i < j → pk' i = pk i) → Tk pk' j = Tk pk j
  | 0, _ => rfl
  | j + 1, h => by rw [Tk, Tk, Tk_c j (fun i a b => h i a (by omega)), h j (by omega) (by omega)]
theorem Rk_c {n : Int} {f : Int → Int} {tot : Int} {pk pk' : Int → Int} : ∀ j : Nat, (∀ i : Int, 0 ≤ i → i < j → pk' i = pk i) → Rk n f tot pk' j = Rk n f tot pk j
  | 0, _ => rfl
  | j + 1, h => by rw [Rk, Rk, Rk_c j (fun i a b => h i a (by omega)), h j (by omega) (by omega)]
theorem ms_c {pk pk' : Int → Int} : ∀ j : Nat, (∀ i : Int, 0 ≤ i → i < j → pk' i = pk i) → ms pk' j = ms pk j
  | 0, _ => rfl
  | j + 1, h => by rw [ms, ms, ms_c j (fun i a b => h i a (by omega)), h j (by omega) (by omega)]
theorem mK_c {pk pk' : Int → Int} : ∀ j : Nat, (∀ i : Int, 0 ≤ i → i < j → pk' i = pk i) → mK pk' j = mK pk j
  | 0, _ => rfl
  | j + 1, h => by rw [mK, mK, mK_c j (fun i a b => h i a (by omega)), h j (by omega) (by omega)]
theorem Fx_c {n : Int} {f : Int → Int} {tot : Int} {pk pk' : Int → Int} (j : Nat) (h : ∀ i : Int, 0 ≤ i → i < j → pk' i = pk i) : Fx n f tot pk' j = Fx n f tot pk j := by
  unfold Fx; rw [Tk_c j h, Rk_c j h]
theorem RMx_c {n : Int} {f : Int → Int} {tot : Int} {pk pk' : Int → Int} : ∀ j : Nat, (∀ i : Int, 0 ≤ i → i < j → pk' i = pk i) → RMx n f tot pk' j = RMx n f tot pk j
  | 0, _ => rfl
  | j + 1, h => by rw [RMx, RMx, RMx_c j (fun i a b => h i a (by omega)), Fx_c j (fun i a b => h i a (by omega)), h j (by omega) (by omega)]
theorem sm_skip {F : Int → Int} {a : Nat} : ∀ b : Nat, a ≤ b → (∀ d : Int, a ≤ d → d < b → F d = 0) → sm F b = sm F a
  | 0, h, _ => by rw [show a = 0 by omega]
  | b + 1, h, h2 => by
    by_cases e : a = b + 1
    · rw [e]
    · rw [sm, sm_skip b (by omega) (fun d c q => h2 d c (by omega)), h2 b (by omega) (by omega), Int.add_zero]
theorem add6 : ∀ x : Fin 64, ∀ c d : Fin 6, x.val.testBit c.val = false → x.val + 2 ^ c.val < 64 ∧ ((x.val + 2 ^ c.val).testBit d.val = true ↔ (x.val.testBit d.val = true ∨ d.val = c.val)) := by decide +kernel
/-- the mask of what is taken -/
def MBx (u : Int) (t : Int → Bool) : Prop := (0 ≤ u ∧ u < 64) ∧ ∀ d, 0 ≤ d → d < 6 → (inS u d ↔ t d = true)
theorem MBx_s {u c : Int} {t : Int → Bool} (h : MBx u t) (hc : 0 ≤ c ∧ c < 6) (hf : t c = false) : MBx (u + p2 c) (tq t c) := by
  obtain ⟨h1, h2⟩ := h
  obtain ⟨a, rfl⟩ : ∃ a : Nat, u = a := ⟨u.toNat, by omega⟩
  obtain ⟨b, rfl⟩ : ∃ b : Nat, c = b := ⟨c.toNat, by omega⟩
  have hb : a.testBit b = false := by
    rcases Bool.eq_false_or_eq_true (a.testBit b) with q | q
    · have := (h2 b (by omega) (by omega)).mp ((inS_bit (by omega)).mpr (by rw [Int.toNat_natCast, Int.toNat_natCast]; exact q))
      rw [hf] at this; exact Bool.noConfusion this
    · exact q
  have e : (a : Int) + p2 b = ((a + 2 ^ b : Nat) : Int) := by rw [p2_nat]; omega
  rw [e]
  have h6 := add6 ⟨a, by omega⟩ ⟨b, by omega⟩
  refine ⟨⟨Int.natCast_nonneg _, by have := (h6 ⟨0, by omega⟩ hb).1; dsimp only at this; omega⟩, fun d c1 c2 => ?_⟩
  obtain ⟨k, rfl⟩ : ∃ k : Nat, d = k := ⟨d.toNat, by omega⟩
  have h7 := (h6 ⟨k, by omega⟩ hb).2
  dsimp only at h7
  have h8 := h2 k c1 c2
  rw [inS_bit c1, Int.toNat_natCast, Int.toNat_natCast] at h8 ⊢
  rw [h7, h8]
  unfold tq
  rw [Bool.or_eq_true, decide_eq_true_eq]
  exact or_congr Iff.rfl (by omega)
def XH (n : Int) (f : Int → Int) (tot : Int) (pk : Int → Int) (u s r : Int) : Prop := (pk r = -1 ∧ u = ms pk r.toNat ∧ s = tot - Rk n f tot pk r.toNat) ∨ (0 ≤ pk r ∧ u = ms pk r.toNat + p2 (pk r) ∧ s = tot - Rk n f tot pk r.toNat + f (n * r + pk r))
def XI (x y : Me) (n : Int) (f : Int → Int) (tot w u s r : Int) (pk : Int → Int) : Prop :=
  (-1 ≤ r ∧ r < n) ∧ w + RMx n f tot pk (r + 1).toNat = cwk n f n.toNat (fun _ => false) tot ∧ (∀ j, 0 ≤ j → j ≤ r → y 58 j = pk j ∧ -1 ≤ pk j ∧ pk j < n) ∧ (∀ j, 0 ≤ j → j < r → 0 ≤ pk j) ∧ (∀ j : Nat, (j : Int) ≤ r → MBx (ms pk j) (Tk pk j) ∧ 0 ≤ tot - Rk n f tot pk j ∧ tot - Rk n f tot pk j ≤ 999 * j) ∧ (0 ≤ r → XH n f tot pk u s r) ∧ ∀ a, a ≠ 58 → y a = x a
theorem XI_0 {x y : Me} {n : Int} {f : Int → Int} {tot : Int} (hn : 1 ≤ n ∧ n ≤ 6) (hy : y = up x 58 0 (-1)) : XI x y n f tot 0 0 0 0 (fun _ => -1) := by
  subst hy
  refine ⟨by omega, ?_, fun j a b => ⟨by rw [show j = 0 by omega, up_s], Int.le_refl _, (show (-1 : Int) < n by omega)⟩, fun j a b => by omega, fun j a => ?_, fun _ => Or.inl ⟨rfl, rfl, ?_⟩, fun a ha => up_i _ _ _ ha⟩
  · obtain ⟨m, hm⟩ : ∃ m, n.toNat = m + 1 := ⟨n.toNat - 1, by omega⟩
    show 0 + (0 + (sm (Fx n f tot (fun _ => -1) 0) n.toNat - 0)) = _
    rw [hm, cwk_s, hm]
    unfold Fx
    rw [hm, show m + 1 - 1 - 0 = m by omega]
    show 0 + (0 + (sm (cwt n f m (fun _ => false) tot) (m + 1) - 0)) = _
    omega
  · obtain rfl : j = 0 := by omega
    refine ⟨⟨by unfold ms; omega, fun d a b => ?_⟩, by unfold Rk; omega, by unfold Rk; omega⟩
    rw [inS_bit a]
    show (0 : Nat).testBit d.toNat = true ↔ false = true
    rw [Nat.zero_testBit]
  · show (0 : Int) = tot - tot
    omega
theorem XI_k {n : Int} {r : Int} (hr : 0 ≤ r ∧ r < n) : n - (((n.toNat - 1 - r.toNat : Nat) : Int) + 1) = r := by omega
/-- all further columns are taken -/
theorem XI_fail {x y : Me} {n : Int} {f : Int → Int} {tot w u s us su r : Int} {pk : Int → Int} (hn : 1 ≤ n ∧ n ≤ 6) (hI : XI x y n f tot w u s r pk) (hr : 0 ≤ r) (hus : us = ms pk r.toNat) (hsu : su = tot - Rk n f tot pk r.toNat) (hsk : ∀ d, pk r < d → d < n → Tk pk r.toNat d = true) : mK pk (r + (-1) + 1).toNat < mK pk (r + 1).toNat ∧ XI x y n f tot w us su (r + (-1)) pk := by
  obtain ⟨h0, hw, hp, hp0, hM, hX, hfr⟩ := hI
  have hpr := hp r hr (Int.le_refl _)
  have e1 : (r + 1).toNat = r.toNat + 1 := by omega
  have e2 : (r + (-1) + 1).toNat = r.toNat := by omega
  have e3 : ((r.toNat : Nat) : Int) = r := by omega
  have hRM : RMx n f tot pk (r + 1).toNat = RMx n f tot pk r.toNat := by
    rw [e1, RMx, e3, sm_skip (a := (pk r + 1).toNat) n.toNat (by omega) (fun d a b => ?_)]
    · omega
    · unfold Fx cwt
      rw [hsk d (by omega) (by omega)]; rfl
  refine ⟨?_, by omega, by rw [e2, ← hRM]; exact hw, fun j a b => hp j a (by omega), fun j a b => hp0 j a (by omega), fun j a => hM j (by omega), fun h => ?_, hfr⟩
  · rw [e1, e2, mK, e3]
    have : 0 < (8 - pk r).toNat * 10 ^ (6 - r.toNat) := Nat.mul_pos (by omega) (Nat.pow_pos (by omega))
    omega
  · right
    have hq := hp0 (r + -1) (by omega) (by omega)
    have e4 : r.toNat = (r + -1).toNat + 1 := by omega
    have e5 : (((r + -1).toNat : Nat) : Int) = r + -1 := by omega
    refine ⟨hq, ?_, ?_⟩
    · rw [hus, e4, ms, e5]
    · rw [hsu, e4, Rk, e5]; omega
/-- one more column -/
theorem XI_pick {n : Int} {f : Int → Int} {tot r c : Int} {pk : Int → Int} (hr : 0 ≤ r ∧ r < n) (hp1 : -1 ≤ pk r) (hc : pk r < c ∧ c < n) (hsk : ∀ d, pk r < d → d < c → Tk pk r.toNat d = true) (ht : Tk pk r.toNat c = false) : RMx n f tot pk (r + 1).toNat = RMx n f tot (uf pk r c) (r + 1).toNat + cwk n f (n.toNat - 1 - r.toNat) (tq (Tk pk r.toNat) c) (Rk n f tot pk r.toNat - f (n * r + c)) := by
  have e1 : (r + 1).toNat = r.toNat + 1 := by omega
  have e3 : ((r.toNat : Nat) : Int) = r := by omega
  have hcg : ∀ i : Int, 0 ≤ i → i < r.toNat → uf pk r c i = pk i := fun i a b => uf_n _ _ (by omega)
  rw [e1, RMx, RMx, RMx_c r.toNat hcg, Fx_c r.toNat hcg, e3, uf_s]
  have h1 := sm_skip (F := Fx n f tot pk r.toNat) (a := (pk r + 1).toNat) c.toNat (by omega) (fun d a b => by
    unfold Fx cwt
    rw [hsk d (by omega) (by omega)]; rfl)
  have h2 : sm (Fx n f tot pk r.toNat) (c + 1).toNat = sm (Fx n f tot pk r.toNat) c.toNat + Fx n f tot pk r.toNat c := sm_s _ (by omega)
  have h3 : Fx n f tot pk r.toNat c = cwk n f (n.toNat - 1 - r.toNat) (tq (Tk pk r.toNat) c) (Rk n f tot pk r.toNat - f (n * r + c)) := by
    unfold Fx cwt
    rw [if_pos ht, XI_k hr]
  rw [h2, h1, h3]; omega
theorem mK_pick {r c : Int} {pk : Int → Int} (hr : 0 ≤ r ∧ r < 6) (hp1 : -1 ≤ pk r) (hc : pk r < c ∧ c < 6) : mK (uf pk r c) (r + 1).toNat + 10 * 10 ^ (6 - (r.toNat + 1)) ≤ mK pk (r + 1).toNat := by
  have e1 : (r + 1).toNat = r.toNat + 1 := by omega
  have e3 : ((r.toNat : Nat) : Int) = r := by omega
  rw [e1, mK, mK, mK_c (pk := pk) (pk' := uf pk r c) r.toNat (fun i a b => uf_n _ _ (by omega)), e3, uf_s]
  have e : 10 ^ (6 - r.toNat) = 10 * 10 ^ (6 - (r.toNat + 1)) := by rw [show 6 - r.toNat = (6 - (r.toNat + 1)) + 1 by omega, Nat.pow_succ, Nat.mul_comm]
  rw [e]
  have h2 : ((8 - c).toNat + 1) * (10 * 10 ^ (6 - (r.toNat + 1))) ≤ (8 - pk r).toNat * (10 * 10 ^ (6 - (r.toNat + 1))) := Nat.mul_le_mul_right _ (by omega)
  rw [Nat.add_mul] at h2
  omega
theorem XI_leaf {x y y' : Me} {n : Int} {f : Int → Int} {tot w u s us su r c : Int} {pk : Int → Int} (hn : 1 ≤ n ∧ n ≤ 6) (hI : XI x y n f tot w u s r pk) (hr : 0 ≤ r) (hl : r = n - 1) (hus : us = ms pk r.toNat) (hsu : su = tot - Rk n f tot pk r.toNat) (hc : pk r < c ∧ c < n) (hsk : ∀ d, pk r < d → d < c → Tk pk r.toNat d = true) (ht : Tk pk r.toNat c = false) (hy : y' = up y 58 r c) : mK (uf pk r c) (r + 1).toNat < mK pk (r + 1).toNat ∧ (su + f (n * r + c) = tot → XI x y' n f tot (w + 1) (us + p2 c) (su + f (n * r + c)) r (uf pk r c)) ∧ (su + f (n * r + c) ≠ tot → XI x y' n f tot (w + 0) (us + p2 c) (su + f (n * r + c)) r (uf pk r c)) := by
  obtain ⟨h0, hw, hp, hp0, hM, hX, hfr⟩ := hI
  have hpr := hp r hr (Int.le_refl _)
  have hpick := XI_pick (f := f) (tot := tot) ⟨hr, h0.2⟩ hpr.2.1 hc hsk ht
  rw [show n.toNat - 1 - r.toNat = 0 by omega, cwk] at hpick
  have hcg : ∀ j : Nat, (j : Int) ≤ r → ∀ i : Int, 0 ≤ i → i < j → uf pk r c i = pk i := fun j hj i a b => uf_n _ _ (by omega)
  have hall : ∀ w', w' + RMx n f tot (uf pk r c) (r + 1).toNat = cwk n f n.toNat (fun _ => false) tot → XI x y' n f tot w' (us + p2 c) (su + f (n * r + c)) r (uf pk r c) := by
    intro w' hw'
    refine ⟨h0, hw', fun j a b => ?_, fun j a b => by rw [uf_n _ _ (by omega)]; exact hp0 j a b, fun j a => by rw [ms_c j (hcg j a), Tk_c j (hcg j a), Rk_c j (hcg j a)]; exact hM j a, fun _ => Or.inr ⟨by rw [uf_s]; omega, by rw [uf_s, ms_c r.toNat (hcg r.toNat (by omega)), hus], by rw [uf_s, Rk_c r.toNat (hcg r.toNat (by omega)), hsu]⟩, fun a ha => by rw [hy, up_i _ _ _ ha]; exact hfr a ha⟩
    by_cases q : j = r
    · rw [q, uf_s, hy, up_s]; omega
    · rw [uf_n _ _ q, hy, up_n _ _ (by omega)]; exact hp j a b
  have hp10 : 0 < 10 ^ (6 - (r.toNat + 1)) := Nat.pow_pos (by omega)
  refine ⟨by have := mK_pick ⟨hr, by omega⟩ hpr.2.1 (show pk r < c ∧ c < 6 by omega); omega, fun q => hall _ ?_, fun q => hall _ ?_⟩
  · rw [if_pos (by omega)] at hpick; omega
  · rw [if_neg (by omega)] at hpick; omega
theorem XI_down {x y y' : Me} {n : Int} {f : Int → Int} {tot w u s us su r c : Int} {pk : Int → Int} (hn : 1 ≤ n ∧ n ≤ 6) (hf : ∀ p, 0 ≤ f p ∧ f p ≤ 999) (hI : XI x y n f tot w u s r pk) (hr : 0 ≤ r) (hl : r + 1 < n) (hus : us = ms pk r.toNat) (hsu : su = tot - Rk n f tot pk r.toNat) (hc : pk r < c ∧ c < n) (hsk : ∀ d, pk r < d → d < c → Tk pk r.toNat d = true) (ht : Tk pk r.toNat c = false) (hy : y' = up (up y 58 r c) 58 (r + 1) (-1)) : mK (uf (uf pk r c) (r + 1) (-1)) (r + 1 + 1).toNat < mK pk (r + 1).toNat ∧ XI x y' n f tot w (us + p2 c) (su + f (n * r + c)) (r + 1) (uf (uf pk r c) (r + 1) (-1)) := by
  obtain ⟨h0, hw, hp, hp0, hM, hX, hfr⟩ := hI
  have hpr := hp r hr (Int.le_refl _)
  have hpick := XI_pick (f := f) (tot := tot) ⟨hr, h0.2⟩ hpr.2.1 hc hsk ht
  have e1 : (r + 1).toNat = r.toNat + 1 := by omega
  have e3 : ((r.toNat : Nat) : Int) = r := by omega
  have e4 : (r + 1 + 1).toNat = (r + 1).toNat + 1 := by omega
  have e5 : (((r + 1).toNat : Nat) : Int) = r + 1 := by omega
  have hcg1 : ∀ j : Nat, (j : Int) ≤ r → ∀ i : Int, 0 ≤ i → i < j → uf pk r c i = pk i := fun j hj i a b => uf_n _ _ (by omega)
  have hcg2 : ∀ j : Nat, (j : Int) ≤ r + 1 → ∀ i : Int, 0 ≤ i → i < j → uf (uf pk r c) (r + 1) (-1) i = uf pk r c i := fun j hj i a b => uf_n _ _ (by omega)
  have hms1 : ms (uf pk r c) (r + 1).toNat = ms pk r.toNat + p2 c := by rw [e1, ms, e3, uf_s, ms_c r.toNat (hcg1 _ (by omega))]
  have hTk1 : Tk (uf pk r c) (r + 1).toNat = tq (Tk pk r.toNat) c := by rw [e1, Tk, e3, uf_s, Tk_c r.toNat (hcg1 _ (by omega))]
  have hRk1 : Rk n f tot (uf pk r c) (r + 1).toNat = Rk n f tot pk r.toNat - f (n * r + c) := by rw [e1, Rk, e3, uf_s, Rk_c r.toNat (hcg1 _ (by omega))]
  have hMr := hM r.toNat (by omega)
  have hMB := MBx_s (c := c) hMr.1 (by omega) ht
  have hfc := hf (n * r + c)
  have hp10 : 0 < 10 ^ (6 - (r.toNat + 1)) := Nat.pow_pos (by omega)
  refine ⟨?_, by omega, ?_, fun j a b => ?_, fun j a b => ?_, fun j a => ?_, fun _ => Or.inl ⟨uf_s _ _ _, ?_, ?_⟩, fun a ha => by rw [hy, up_i _ _ _ ha, up_i _ _ _ ha]; exact hfr a ha⟩
  · have h1 := mK_pick ⟨hr, by omega⟩ hpr.2.1 (show pk r < c ∧ c < 6 by omega)
    rw [e4, mK, e5, uf_s, mK_c _ (hcg2 _ (by omega)), e1] at *
    show _ + 9 * 10 ^ (6 - (r.toNat + 1)) < _
    omega
  · rw [e4, RMx, e5, uf_s, RMx_c _ (hcg2 _ (by omega)), Fx_c _ (hcg2 _ (by omega))]
    have hz : sm (Fx n f tot (uf pk r c) (r + 1).toNat) ((-1 : Int) + 1).toNat = 0 := rfl
    rw [hz]
    have hF : sm (Fx n f tot (uf pk r c) (r + 1).toNat) n.toNat = cwk n f (n.toNat - 1 - r.toNat) (tq (Tk pk r.toNat) c) (Rk n f tot pk r.toNat - f (n * r + c)) := by
      obtain ⟨m, hm⟩ : ∃ m, n.toNat - 1 - r.toNat = m + 1 := ⟨n.toNat - 2 - r.toNat, by omega⟩
      unfold Fx
      rw [hTk1, hRk1, hm, cwk_s, show n.toNat - 1 - (r + 1).toNat = m by omega]
    rw [hF]; omega
  · by_cases q : j = r + 1
    · rw [q, uf_s, hy, up_s]; omega
    · rw [uf_n _ _ q, hy, up_n _ _ (by omega)]
      by_cases q2 : j = r
      · rw [q2, uf_s, up_s]; omega
      · rw [uf_n _ _ q2, up_n _ _ (by omega)]; exact hp j a (by omega)
  · rw [uf_n _ _ (by omega)]
    by_cases q2 : j = r
    · rw [q2, uf_s]; omega
    · rw [uf_n _ _ q2]; exact hp0 j a (by omega)
  · rw [ms_c j (hcg2 j (by omega)), Tk_c j (hcg2 j (by omega)), Rk_c j (hcg2 j (by omega))]
    by_cases q : (j : Int) = r + 1
    · obtain rfl : j = (r + 1).toNat := by omega
      rw [hms1, hTk1, hRk1]
      exact ⟨hMB, by omega, by omega⟩
    · rw [ms_c j (hcg1 j (by omega)), Tk_c j (hcg1 j (by omega)), Rk_c j (hcg1 j (by omega))]
      exact hM j (by omega)
  · rw [ms_c _ (hcg2 _ (by omega)), hms1, hus]
  · rw [Rk_c _ (hcg2 _ (by omega)), hRk1, hsu]; omega
