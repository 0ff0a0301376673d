theorem JI_mk {w : Me} (c : Int) (hc : 0 ≤ c ∧ c ≤ 8) (h0 : w 0 5 = c) (h1 : w 50 1 = c) (hf : ∀ q : Nat, (q : Int) < c → ∃ (n : Int) (f : Int → Int), (1 ≤ n ∧ n ≤ 9) ∧ FR f ∧ w (10 + q) 1 = n ∧ w 51 q = n ∧ nc w q = f ∧ nd w q = f) : JI w := by
  refine ⟨⟨by rw [h0]; exact hc, fun q hq => ?_⟩, ⟨by rw [h1]; exact hc, fun q a b => ?_⟩, by rw [h0, h1], fun q hq => ?_⟩
  · rw [h0] at hq
    obtain ⟨n, f, a1, a2, a3, a4, a5, a6⟩ := hf q hq
    exact FG_nc (by omega) (by rw [a3]; exact a1) (by rw [a5]; exact a2)
  · rw [h1] at b
    obtain ⟨n, f, a1, a2, a3, a4, a5, a6⟩ := hf q.toNat (by omega)
    rw [show ((q.toNat : Nat) : Int) = q by omega] at a4 a6
    refine ⟨by omega, by rw [a4]; exact a1, fun p c d => ?_⟩
    have h := a2 p
    rw [← a6, nd_in ⟨c, d⟩] at h
    exact h
  · rw [h0] at hq
    obtain ⟨n, f, a1, a2, a3, a4, a5, a6⟩ := hf q hq
    exact ⟨by rw [a3, a4], by rw [a5, a6]⟩
theorem JI_ex {x : Me} (h : JI x) {q : Nat} (hq : (q : Int) < x 0 5) : (1 ≤ x (10 + q) 1 ∧ x (10 + q) 1 ≤ 9) ∧ FR (nc x q) ∧ x 51 q = x (10 + q) 1 ∧ nd x q = nc x q := by
  have h1 := h.1.2 q hq
  have h2 := h.2.2.2 q hq
  exact ⟨h1.2.1, h1.r, h2.1.symm, h2.2.symm⟩
theorem MS_fr {x y : Me} (h : MS x) (h1 : y 50 1 = x 50 1) (h2 : y 51 = x 51) (h3 : y 52 = x 52) : MS y := ⟨by rw [h1]; exact h.1, fun q a b => MG_of (h.2 q a (by rw [← h1]; exact b)) h2 h3⟩
theorem JI_new {x y w : Me} {s : Int} {F : Int → Int} (hJ : JI x) (h8 : x 0 5 < 8) (hs : 1 ≤ s ∧ s ≤ 9) (hF : FR F) (c1 : nc y (x 0 5).toNat = F) (c2 : y 0 5 = x 0 5 + 1) (c3 : y (10 + (x 0 5).toNat) 1 = s) (c4 : ∀ a, a ≠ 0 → a ≠ 10 + (x 0 5).toNat → a ≠ 20 + (x 0 5).toNat → a ≠ 18 → a ≠ 28 → a ≠ 70 → y a = x a) (hN : NM y w s F) : JI w := by
  have h05 := hJ.1.1
  have h5 := hJ.2.2.1
  obtain ⟨n0, n1, n2, n3, n4, n5⟩ := hN
  have y501 : y 50 1 = x 0 5 := by rw [c4 50 (by omega) (by omega) (by omega) (by omega) (by omega) (by omega)]; exact h5.symm
  have y51 : y 51 = x 51 := c4 51 (by omega) (by omega) (by omega) (by omega) (by omega) (by omega)
  have y52 : y 52 = x 52 := c4 52 (by omega) (by omega) (by omega) (by omega) (by omega) (by omega)
  have e0 : (((x 0 5).toNat : Nat) : Int) = x 0 5 := by omega
  refine JI_mk (x 0 5 + 1) (by omega) (by rw [n5 0 (by omega)]; exact c2) (by rw [n1, y501]) (fun q hq => ?_)
  by_cases e : (q : Int) = x 0 5
  · obtain rfl : q = (x 0 5).toNat := by omega
    refine ⟨s, F, hs, hF, by rw [n5 _ (by omega)]; exact c3, by rw [e0, ← y501]; exact n2, by rw [nc_of (n5 _ (by omega))]; exact c1, by rw [e0, ← y501]; exact n3⟩
  · have hq' : (q : Int) < x 0 5 := by omega
    obtain ⟨g1, g2, g3, g4⟩ := JI_ex hJ hq'
    have g5 := n4 q (by omega) (by omega)
    refine ⟨x (10 + q) 1, nc x q, g1, g2, by rw [n5 _ (by omega), c4 _ (by omega) (by omega) (by omega) (by omega) (by omega) (by omega)], by rw [g5.1, y51]; exact g3, ?_, by rw [g5.2, nd_of y52]; exact g4⟩
    rw [nc_of (n5 (20 + q) (by omega)), nc_of (c4 (20 + q) (by omega) (by omega) (by omega) (by omega) (by omega) (by omega))]
theorem JI_mod {x y w : Me} {a : Int} {F : Int → Int} (hJ : JI x) (ha : 0 ≤ a ∧ a < x 0 5) (hF : FR F) (c1 : nc y a.toNat = F) (c4 : ∀ b, b ≠ 20 + a.toNat → b ≠ 18 → b ≠ 28 → b ≠ 70 → y b = x b) (hN : CM y w a F) : JI w := by
  have h05 := hJ.1.1
  have h5 := hJ.2.2.1
  obtain ⟨n0, n1, n2, n3, n4, n5⟩ := hN
  have y51 : y 51 = x 51 := c4 51 (by omega) (by omega) (by omega) (by omega)
  have y52 : y 52 = x 52 := c4 52 (by omega) (by omega) (by omega) (by omega)
  have e0 : ((a.toNat : Nat) : Int) = a := by omega
  refine JI_mk (x 0 5) h05 (by rw [n5 0 (by omega), c4 0 (by omega) (by omega) (by omega) (by omega)]) (by rw [n1, c4 50 (by omega) (by omega) (by omega) (by omega)]; exact h5.symm) (fun q hq => ?_)
  obtain ⟨g1, g2, g3, g4⟩ := JI_ex hJ hq
  by_cases e : (q : Int) = a
  · obtain rfl : q = a.toNat := by omega
    refine ⟨x (10 + a.toNat) 1, F, g1, hF, by rw [n5 _ (by omega), c4 _ (by omega) (by omega) (by omega) (by omega)], by rw [n2, y51]; exact g3, by rw [nc_of (n5 _ (by omega))]; exact c1, by rw [e0]; exact n3⟩
  · have g5 := n4 q (by omega) (by omega) (by omega)
    refine ⟨x (10 + q) 1, nc x q, g1, g2, by rw [n5 _ (by omega), c4 _ (by omega) (by omega) (by omega) (by omega)], by rw [n2, y51]; exact g3, ?_, by rw [g5, nd_of y52]; exact g4⟩
    rw [nc_of (n5 (20 + q) (by omega)), nc_of (c4 (20 + q) (by omega) (by omega) (by omega) (by omega))]
theorem nc_put {x y : Me} {q : Nat} {p v : Int} (hp : 0 ≤ p ∧ p < 81) (h : y (20 + q) = up x (20 + q) p v (20 + q)) : nc y q = fun i => if i = p then v else nc x q i := by
  funext i
  unfold nc
  rw [h]
  by_cases e : i = p
  · rw [if_pos e, e, if_pos hp, up_s]
  · rw [if_neg e, up_n _ _ (by omega)]
theorem put_CM {y w : Me} {a p v : Int} (ha : 0 ≤ a ∧ a < 8) (hp : 0 ≤ p ∧ p < 81) (hw : w = up (up y 50 0 0) 52 (81 * a + p) v) : CM y w a (fun i => if i = p then v else nd y a i) := by
  subst hw
  refine ⟨by rw [up_i _ _ _ (by omega), up_s], by rw [up_i _ _ _ (by omega), up_n _ _ (by omega)], by rw [up_i _ _ _ (by omega), up_i _ _ _ (by omega)], ?_, fun r r1 r2 r3 => ?_, fun b hb => by rw [up_i _ _ _ (by omega), up_i _ _ _ (by omega)]⟩
  · funext i
    unfold nd
    by_cases e : i = p
    · rw [if_pos e, e, if_pos hp, up_s]
    · rw [if_neg e, up_n _ _ (by omega), up_i _ _ _ (by omega)]
  · funext i
    unfold nd
    by_cases e : 0 ≤ i ∧ i < 81
    · rw [if_pos e, if_pos e, up_n _ _ (by omega), up_i _ _ _ (by omega)]
    · rw [if_neg e, if_neg e]
theorem FR_put {f : Int → Int} {p v : Int} (h : FR f) (hv : 0 ≤ v ∧ v ≤ 999) : FR (fun i => if i = p then v else f i) := fun i => by
  show 0 ≤ (if i = p then v else f i) ∧ (if i = p then v else f i) ≤ 999
  split
  · exact hv
  · exact h i
theorem FR_cha {n : Int} {f : Int → Int} {ch b : Int} (h : FR f) (hc : ch = 2 → ∀ p, 0 ≤ p → p < n * n → f p = 0 ∨ (1 ≤ b - f p ∧ b - f p ≤ 999)) : FR (cha n f ch b) := fun p => by
  by_cases hp : 0 ≤ p ∧ p < n * n
  · by_cases e : ch = 2
    · rw [cha_c hp e]
      have h1 := hc e p hp.1 hp.2
      split
      · exact ⟨by omega, by omega⟩
      · omega
    · rw [cha_m hp e]; exact h _
  · rw [cha_out hp]; exact h p
theorem FR_0 : FR (fun _ => 0) := fun _ => by show (0 : Int) ≤ 0 ∧ (0 : Int) ≤ 999; decide
theorem lxf36 : ∀ p : Fin 36, 0 ≤ lux (sgf 3) (p.val : Int) ∧ lux (sgf 3) (p.val : Int) ≤ 999 := by decide +kernel
theorem FR_mkf {mk n : Int} (h : 1 ≤ n ∧ n ≤ 9) (hm : hld mk n) : FR (mkf mk n) := fun p => by
  have h9 := sq9 h
  unfold mkf
  rcases hm with ⟨e, -⟩ | ⟨e, hn⟩ | ⟨e, hn⟩ | ⟨e, hn⟩
  · rw [if_pos e]
    have := (sgs_rng h (n * n).toNat).1 p
    unfold sgf
    omega
  · rw [if_neg (by omega), if_pos e]
    unfold crs
    rcases hn with rfl | rfl
    · split
      · split <;> omega
      · omega
    · split
      · split <;> omega
      · omega
  · rw [if_neg (by omega), if_neg (by omega), if_pos e]
    unfold dig
    have h1 : n = 1 ∨ n = 5 ∨ n = 7 := by omega
    rcases h1 with rfl | rfl | rfl <;> split <;> omega
  · rw [if_neg (by omega), if_neg (by omega), if_neg (by omega)]
    unfold lxf
    split
    · have h2 := lxf36 ⟨p.toNat, by omega⟩
      rw [show ((⟨p.toNat, by omega⟩ : Fin 36).val : Int) = p by show ((p.toNat : Nat) : Int) = p; omega] at h2
      exact h2
    · omega
theorem hig_at {f : Int → Int} {k : Nat} : ∀ {i : Int}, 0 ≤ i → i < k → f i ≤ hig f k := by
  induction k with
  | zero => intro i a b; omega
  | succ k ih =>
    intro i a b
    rw [hig]
    by_cases e : i = k
    · subst e; omega
    · have := ih a (by omega); omega
theorem hig_le {f : Int → Int} {m : Int} (h0 : 0 ≤ m) : ∀ k : Nat, (∀ i : Int, 0 ≤ i → i < k → f i ≤ m) → hig f k ≤ m
  | 0, _ => h0
  | k + 1, h => by
    rw [hig]
    have h1 := hig_le h0 k (fun i a b => h i a (by omega))
    have h2 := h k (by omega) (by omega)
    omega
theorem WI_c {n m : Int} {f : Int → Int} (h : FR f) (hm : 0 ≤ m) : WI n f m ↔ ful n f ∧ hig f (n * n).toNat ≤ m := by
  constructor
  · intro hw
    exact ⟨fun p a b e => by have := (hw p a b).1; omega, hig_le hm _ (fun i a b => (hw i a (by omega)).2)⟩
  · rintro ⟨h1, h2⟩ l a b
    have h3 := h1 l a b
    have h4 := h l
    have h5 := hig_at (f := f) (k := (n * n).toNat) a (by omega)
    omega
theorem stk_c {n m k : Int} {f h : Int → Int} (hn : 0 ≤ n) (hf : FR f) (hh : FR h) : ((n = m ∧ WI n f n ∧ WI m h n) ∧ k < 8) ↔ ((n = m ∧ (ful n f ∧ ful m h) ∧ hig f (n * n).toNat ≤ n ∧ hig h (m * m).toNat ≤ n) ∧ k < 8) := by
  rw [WI_c hf hn, WI_c hh hn]
  exact ⟨fun ⟨⟨a, ⟨b, c⟩, d, e⟩, i⟩ => ⟨⟨a, ⟨b, d⟩, c, e⟩, i⟩, fun ⟨⟨a, ⟨b, d⟩, c, e⟩, i⟩ => ⟨⟨a, ⟨b, c⟩, d, e⟩, i⟩⟩
theorem WI_9 {n : Int} {f : Int → Int} (h : FR f) : WI n f 999 ↔ ful n f := by
  rw [WI_c h (by omega)]
  exact ⟨fun a => a.1, fun a => ⟨a, hig_le (by omega) _ (fun i _ _ => (h i).2)⟩⟩
theorem prd_c {n m k : Int} {f h : Int → Int} (hf : FR f) (hh : FR h) {T : Prop} : ((n * m ≤ 9 ∧ WI n f 999 ∧ WI m h 999 ∧ T) ∧ k < 8) ↔ ((n * m ≤ 9 ∧ (ful n f ∧ ful m h) ∧ T) ∧ k < 8) := by
  rw [WI_9 hf, WI_9 hh]
  exact ⟨fun ⟨⟨a, b, c, d⟩, i⟩ => ⟨⟨a, ⟨b, c⟩, d⟩, i⟩, fun ⟨⟨a, ⟨b, c⟩, d⟩, i⟩ => ⟨⟨a, b, c, d⟩, i⟩⟩
theorem FR_stk {n : Int} {f h : Int → Int} (hn : 1 ≤ n ∧ n ≤ 9) (hf : WI n f n) (hh : WI n h n) : FR (stk n f h) := fun p => by
  unfold stk
  split
  · rename_i hp
    have h1 := hf p hp.1 hp.2
    have h2 := hh p hp.1 hp.2
    have h3 : n = 1 ∨ n = 2 ∨ n = 3 ∨ n = 4 ∨ n = 5 ∨ n = 6 ∨ n = 7 ∨ n = 8 ∨ n = 9 := by omega
    rcases h3 with rfl | rfl | rfl | rfl | rfl | rfl | rfl | rfl | rfl <;> omega
  · omega
theorem FR_prd {n m : Int} {f h : Int → Int} (hn : 1 ≤ n ∧ n ≤ 9) (hm : 1 ≤ m ∧ m ≤ 9) (hf : ful n f) (hh : ful m h) (rf : FR f) (rh : FR h) (ht : m * m * (hig f (n * n).toNat - 1) + hig h (m * m).toNat ≤ 999) : FR (prd n m f h) := fun p => by
  unfold prd
  split
  · rename_i hp
    have hnm : 1 ≤ n * m := by have := Int.mul_pos (show 0 < n by omega) (show 0 < m by omega); omega
    have hr : 0 ≤ p / (n * m) ∧ p / (n * m) < n * m := ⟨Int.ediv_nonneg hp.1 (by omega), Int.ediv_lt_of_lt_mul (by omega) hp.2⟩
    have hc : 0 ≤ p % (n * m) ∧ p % (n * m) < n * m := ⟨Int.emod_nonneg _ (by omega), Int.emod_lt_of_pos _ (by omega)⟩
    obtain ⟨b1, b2, b3, b4, b5⟩ := prd_b hn hm hr hc
    have i1 := pl9 hn b1 b2
    have i2 := pl9 hm b3 b4
    have v1 := hf _ i1.1 i1.2.1
    have v2 := hh _ i2.1 i2.2.1
    have w1 := rf (n * (p / (n * m) / m) + p % (n * m) / m)
    have w2 := rh (m * (p / (n * m) % m) + p % (n * m) % m)
    have u1 := hig_at (f := f) (k := (n * n).toNat) i1.1 (by omega)
    have u2 := hig_at (f := h) (k := (m * m).toNat) i2.1 (by omega)
    have hmm : 0 ≤ m * m := by have := (sq9 hm).1; omega
    have k1 := Int.mul_le_mul_of_nonneg_left (show f (n * (p / (n * m) / m) + p % (n * m) / m) - 1 ≤ hig f (n * n).toNat - 1 by omega) hmm
    have k2 := Int.mul_nonneg hmm (show 0 ≤ f (n * (p / (n * m) / m) + p % (n * m) / m) - 1 by omega)
    omega
  · omega
theorem adF_f {x : Me} {s : Int} : nc (adF x s) (x 0 5).toNat = (fun _ => 0) ∧ adF x s 0 5 = x 0 5 + 1 ∧ adF x s (10 + (x 0 5).toNat) 1 = s ∧ ∀ a, a ≠ 0 → a ≠ 10 + (x 0 5).toNat → a ≠ 20 + (x 0 5).toNat → adF x s a = x a := by
  unfold adF
  refine ⟨?_, up_s _ _ _ _, ?_, fun a h0 h1 h2 => ?_⟩
  · funext p
    unfold nc
    split
    · rename_i hp
      rw [up_i _ _ _ (by omega)]
      unfold clr
      rw [if_pos ⟨rfl, hp⟩]
    · rfl
  · rw [up_i _ _ _ (by omega), clr_i _ _ _ (by omega), up_s]
  · rw [up_i _ _ _ h0, clr_i _ _ _ h2, up_i _ _ _ h1]
theorem LY0 {y w : Me} {s : Int} (h : LY (clr (up y 50 0 0) 53 81) w s) : NM y w s (fun _ => 0) := by
  refine LY_NM h (by rw [clr_i _ _ _ (by omega), up_s]) (by rw [clr_i _ _ _ (by omega), up_n _ _ (by omega)]) (by rw [clr_i _ _ _ (by omega), up_i _ _ _ (by omega)]) (by rw [clr_i _ _ _ (by omega), up_i _ _ _ (by omega)]) ?_ (fun _ _ => rfl) (fun a ha => by rw [clr_i _ _ _ (by omega), up_i _ _ _ (by omega)])
  funext p
  unfold n53
  split
  · rename_i hp
    unfold clr
    rw [if_pos ⟨rfl, hp⟩]
  · rfl
