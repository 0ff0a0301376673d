def lth (n p w : Int) : Int := if w = 0 then p / n else if w = 1 then n + p % n else if w = 2 then (if p / n = p % n then 2 * n else -1) else (if p / n + p % n = n - 1 then 2 * n + 1 else -1)
def SB (x : Me) (n : Int) : Prop := (1 ≤ n ∧ n ≤ 4) ∧ x 30 7 = n ∧ x 30 8 = du n ∧ ∀ i, 0 ≤ i → i < 64 → x 35 i = lth n (i / 4) (i % 4)
def ST (x : Me) (n : Int) (G : Int → Int) : Prop := (∀ l, 0 ≤ l → l < 2 * n + 2 → x 33 l = lsm n G l ∧ x 34 l = lck n G l) ∧ ∀ v, 0 ≤ v → v ≤ 16 → x 32 v = bi (usd n G v)
def GR (n : Int) (G : Int → Int) : Prop := ∀ p, 0 ≤ p → p < n * n → 0 ≤ G p ∧ G p ≤ n * n
theorem sq4 {n : Int} (h : 1 ≤ n ∧ n ≤ 4) : 1 ≤ n * n ∧ n * n ≤ 16 ∧ n ≤ n * n ∧ (1 ≤ n ∧ n ≤ 9) := by
  have h1 : n = 1 ∨ n = 2 ∨ n = 3 ∨ n = 4 := by omega
  rcases h1 with rfl | rfl | rfl | rfl <;> decide
theorem SB_of {x y : Me} {n : Int} (h : SB x n) (e1 : y 30 7 = x 30 7) (e2 : y 30 8 = x 30 8) (e3 : y 35 = x 35) : SB y n := by
  obtain ⟨h1, h2, h3, h4⟩ := h
  exact ⟨h1, by rw [e1]; exact h2, by rw [e2]; exact h3, fun i a b => by rw [e3]; exact h4 i a b⟩
theorem ST_of {x y : Me} {n : Int} {G : Int → Int} (h : ST x n G) (e1 : y 32 = x 32) (e2 : y 33 = x 33) (e3 : y 34 = x 34) : ST y n G := by
  obtain ⟨h1, h2⟩ := h
  exact ⟨fun l a b => by rw [e2, e3]; exact h1 l a b, fun v a b => by rw [e1]; exact h2 v a b⟩
theorem lth_rng {n p w : Int} (hn : 1 ≤ n ∧ n ≤ 4) (hp : 0 ≤ p ∧ p < n * n) (hw : 0 ≤ w ∧ w < 4) : lth n p w = -1 ∨ (0 ≤ lth n p w ∧ lth n p w < 2 * n + 2) := by
  have hr := rc9 (n := n) (by omega) hp
  unfold lth
  split
  · omega
  · split
    · omega
    · split
      · split <;> omega
      · split <;> omega
def onw (n p l w : Int) : Prop := (0 < w ∧ lth n p 0 = l) ∨ (1 < w ∧ lth n p 1 = l) ∨ (2 < w ∧ lth n p 2 = l) ∨ (3 < w ∧ lth n p 3 = l)
theorem onw_0 {n p l : Int} : ¬ onw n p l 0 := by unfold onw; omega
theorem onw_s {n p l w : Int} (hw : 0 ≤ w ∧ w < 4) : onw n p l (w + 1) ↔ onw n p l w ∨ lth n p w = l := by
  have h1 : w = 0 ∨ w = 1 ∨ w = 2 ∨ w = 3 := by omega
  unfold onw
  rcases h1 with rfl | rfl | rfl | rfl <;> omega
theorem lth_0 (n p : Int) : lth n p 0 = p / n := rfl
theorem lth_1 (n p : Int) : lth n p 1 = n + p % n := rfl
theorem lth_2 (n p : Int) : lth n p 2 = if p / n = p % n then 2 * n else -1 := rfl
theorem lth_3 (n p : Int) : lth n p 3 = if p / n + p % n = n - 1 then 2 * n + 1 else -1 := rfl
theorem onw_new {n p l w : Int} (hn : 1 ≤ n ∧ n ≤ 4) (hp : 0 ≤ p ∧ p < n * n) (hw : 0 ≤ w ∧ w < 4) (hl : 0 ≤ l) (h : lth n p w = l) : ¬ onw n p l w := by
  have hr := rc9 (n := n) (by omega) hp
  have h1 : w = 0 ∨ w = 1 ∨ w = 2 ∨ w = 3 := by omega
  unfold onw
  rw [lth_0, lth_1, lth_2, lth_3]
  rcases h1 with rfl | rfl | rfl | rfl
  · omega
  · rw [lth_1] at h; omega
  · rw [lth_2] at h; split at h <;> omega
  · rw [lth_3] at h; split at h <;> (try split) <;> omega
theorem onw_4 {n p l : Int} (hn : 1 ≤ n ∧ n ≤ 4) (hp : 0 ≤ p ∧ p < n * n) (hl : 0 ≤ l ∧ l < 2 * n + 2) : onw n p l 4 ↔ ono n l p := by
  have hr := rc9 (n := n) (by omega) hp
  unfold onw ono
  rw [lth_0, lth_1, lth_2, lth_3]
  split <;> split <;> omega
theorem tal_F {x y : Me} {n p w v k : Int} (hn : 1 ≤ n ∧ n ≤ 4) (hp : 0 ≤ p ∧ p < n * n) (hw : 0 ≤ w ∧ w < 4) (hm : lth n p w < 0) (k1 : ∀ l, 0 ≤ l → l < 2 * n + 2 → y 33 l = x 33 l + ci (onw n p l w) v 0 ∧ y 34 l = x 34 l + ci (onw n p l w) k 0) : ∀ l, 0 ≤ l → l < 2 * n + 2 → y 33 l = x 33 l + ci (onw n p l (w + 1)) v 0 ∧ y 34 l = x 34 l + ci (onw n p l (w + 1)) k 0 := by
  intro l a b
  have e : onw n p l (w + 1) ↔ onw n p l w := by
    rw [onw_s hw]
    exact ⟨fun h => h.elim id (fun q => absurd q (by omega)), Or.inl⟩
  rw [ci_c e, ci_c e]; exact k1 l a b
theorem tal_T {x y m1 m2 : Me} {n p w v k : Int} (hn : 1 ≤ n ∧ n ≤ 4) (hp : 0 ≤ p ∧ p < n * n) (hw : 0 ≤ w ∧ w < 4) (hm : 0 ≤ lth n p w) (k1 : ∀ l, 0 ≤ l → l < 2 * n + 2 → y 33 l = x 33 l + ci (onw n p l w) v 0 ∧ y 34 l = x 34 l + ci (onw n p l w) k 0) (e1 : m1 = up y 33 (lth n p w) (y 33 (lth n p w) + v)) (e2 : m2 = up m1 34 (lth n p w) (m1 34 (lth n p w) + k)) : ∀ l, 0 ≤ l → l < 2 * n + 2 → m2 33 l = x 33 l + ci (onw n p l (w + 1)) v 0 ∧ m2 34 l = x 34 l + ci (onw n p l (w + 1)) k 0 := by
  intro l a b
  have h := k1 l a b
  subst e2 e1
  by_cases e : l = lth n p w
  · have e3 : onw n p l (w + 1) := (onw_s hw).mpr (Or.inr e.symm)
    have e4 : ¬ onw n p l w := onw_new hn hp hw a e.symm
    rw [ci_f e4, ci_f e4] at h
    rw [ci_t e3, ci_t e3]
    subst e
    rw [up_n _ _ (by omega), up_s, up_s, up_n _ _ (by omega)]
    omega
  · have e3 : onw n p l (w + 1) ↔ onw n p l w := by
      rw [onw_s hw]
      exact ⟨fun q => q.elim id (fun q => absurd q.symm e), Or.inl⟩
    rw [ci_c e3, ci_c e3, up_n _ _ (by omega), up_n _ _ (by omega), up_n _ _ (by omega), up_n _ _ (by omega)]
    exact h
theorem ST_z {x : Me} {n : Int} {G : Int → Int} (h : ST x n G) : ∀ v, 0 ≤ v → v ≤ 16 → x 32 v = 0 ∨ x 32 v = 1 := fun v a b => by rw [h.2 v a b]; exact bi_r _
theorem ST_lay {x a b y : Me} {n p v : Int} {G : Int → Int} (hT : ST x n G) (hp : 0 ≤ p ∧ p < n * n) (hv : 1 ≤ v) (h0 : G p = 0) (e1 : a = up x 31 p v) (e2 : b = up a 32 v 1) (h : (∀ l, 0 ≤ l → l < 2 * n + 2 → y 33 l = b 33 l + ci (ono n l p) v 0 ∧ y 34 l = b 34 l + ci (ono n l p) (-1) 0) ∧ ∀ i, i ≠ 33 → i ≠ 34 → y i = b i) : ST y n (uf G p v) ∧ y 31 p = v ∧ (∀ r, r ≠ p → y 31 r = x 31 r) ∧ ∀ i, i ≠ 31 → i ≠ 32 → i ≠ 33 → i ≠ 34 → y i = x i := by
  subst e2 e1
  obtain ⟨h1, h2⟩ := h
  refine ⟨⟨fun l a b => ?_, fun w a b => ?_⟩, ?_, fun r hr => ?_, fun i i1 i2 i3 i4 => ?_⟩
  · have q := h1 l a b
    have q2 := hT.1 l a b
    rw [up_i _ _ _ (by omega), up_i _ _ _ (by omega), up_i _ _ _ (by omega), up_i _ _ _ (by omega)] at q
    rw [lsm_uf hp h0, lck_uf hp h0 (by omega), q.1, q.2, q2.1, q2.2]
    refine ⟨rfl, ?_⟩
    by_cases ho : ono n l p
    · rw [ci_t ho, bi_t ho]; omega
    · rw [ci_f ho, bi_f ho]; omega
  · rw [h2 32 (by omega) (by omega)]
    by_cases e : w = v
    · subst e; rw [up_s, bi_t ((usd_uf hp h0 hv w).mpr (Or.inl rfl))]
    · rw [up_n _ _ (by omega), up_i _ _ _ (by omega), hT.2 w a b]
      exact bi_c (by rw [usd_uf hp h0 hv]; exact ⟨Or.inr, fun q => q.elim (fun q => absurd q e) id⟩)
  · rw [h2 31 (by omega) (by omega), up_i _ _ _ (by omega), up_s]
  · rw [h2 31 (by omega) (by omega), up_i _ _ _ (by omega), up_n _ _ (by omega)]
  · rw [h2 i i3 i4, up_i _ _ _ i2, up_i _ _ _ i1]
theorem ST_lift {x b y : Me} {n p v : Int} {G : Int → Int} (hT : ST x n (uf G p v)) (hp : 0 ≤ p ∧ p < n * n) (hv : 1 ≤ v) (h0 : G p = 0) (hu : ¬ usd n G v) (e2 : b = up x 32 v 0) (h : (∀ l, 0 ≤ l → l < 2 * n + 2 → y 33 l = b 33 l + ci (ono n l p) (-v) 0 ∧ y 34 l = b 34 l + ci (ono n l p) 1 0) ∧ ∀ i, i ≠ 33 → i ≠ 34 → y i = b i) : ST y n G ∧ ∀ i, i ≠ 32 → i ≠ 33 → i ≠ 34 → y i = x i := by
  subst e2
  obtain ⟨h1, h2⟩ := h
  refine ⟨⟨fun l a b => ?_, fun w a b => ?_⟩, fun i i2 i3 i4 => ?_⟩
  · have q := h1 l a b
    have q2 := hT.1 l a b
    rw [up_i _ _ _ (by omega), up_i _ _ _ (by omega)] at q
    rw [lsm_uf hp h0, lck_uf hp h0 (by omega)] at q2
    rw [q.1, q.2, q2.1, q2.2]
    by_cases ho : ono n l p
    · rw [ci_t ho, ci_t ho, ci_t ho, bi_t ho]; omega
    · rw [ci_f ho, ci_f ho, ci_f ho, bi_f ho]; omega
  · rw [h2 32 (by omega) (by omega)]
    by_cases e : w = v
    · subst e; rw [up_s, bi_f hu]
    · rw [up_n _ _ (by omega), hT.2 w a b]
      exact bi_c (by rw [usd_uf hp h0 hv]; exact ⟨fun q => q.elim (fun q => absurd q e) id, Or.inr⟩)
  · rw [h2 i i3 i4, up_i _ _ _ i2]
def loP (x : Me) (n p v : Int) (w : Int) : Prop := 1 ≤ v ∧ ∀ l, 0 ≤ l → onw n p l w → x 34 l = 1 → x 30 8 - x 33 l ≤ v
def hiP (x : Me) (n p v : Int) (w : Int) : Prop := v ≤ n * n ∧ ∀ l, 0 ≤ l → onw n p l w → (x 34 l = 1 → v ≤ x 30 8 - x 33 l) ∧ (x 34 l ≠ 1 → v ≤ x 30 8 - x 33 l - 1)
theorem lo_F {x : Me} {n p w : Int} (hw : 0 ≤ w ∧ w < 4) (hm : lth n p w < 0 ∨ x 34 (lth n p w) ≠ 1) {s : Int} (k : ∀ v, s ≤ v ↔ loP x n p v w) : ∀ v, s ≤ v ↔ loP x n p v (w + 1) := by
  intro v; rw [k v]; unfold loP
  refine and_congr_right fun _ => ⟨fun h l a b c => ?_, fun h l a b c => h l a ((onw_s hw).mpr (Or.inl b)) c⟩
  rcases (onw_s hw).mp b with b | b
  · exact h l a b c
  · subst b; exfalso; rcases hm with q | q
    · omega
    · exact q c
theorem lo_T {x : Me} {n p w : Int} (hw : 0 ≤ w ∧ w < 4) (hm : 0 ≤ lth n p w) (h1 : x 34 (lth n p w) = 1) {s : Int} (k : ∀ v, s ≤ v ↔ loP x n p v w) : ∀ v, max s (x 30 8 - x 33 (lth n p w)) ≤ v ↔ loP x n p v (w + 1) := by
  intro v
  have e : max s (x 30 8 - x 33 (lth n p w)) ≤ v ↔ s ≤ v ∧ x 30 8 - x 33 (lth n p w) ≤ v := by omega
  rw [e, k v]; unfold loP
  constructor
  · rintro ⟨⟨a1, a2⟩, a3⟩
    refine ⟨a1, fun l a b c => ?_⟩
    rcases (onw_s hw).mp b with b | b
    · exact a2 l a b c
    · subst b; exact a3
  · rintro ⟨a1, a2⟩
    exact ⟨⟨a1, fun l a b c => a2 l a ((onw_s hw).mpr (Or.inl b)) c⟩, a2 _ hm ((onw_s hw).mpr (Or.inr rfl)) h1⟩
theorem hi_F {x : Me} {n p w : Int} (hw : 0 ≤ w ∧ w < 4) (hm : lth n p w < 0) {s : Int} (k : ∀ v, v ≤ s ↔ hiP x n p v w) : ∀ v, v ≤ s ↔ hiP x n p v (w + 1) := by
  intro v; rw [k v]; unfold hiP
  refine and_congr_right fun _ => ⟨fun h l a b => ?_, fun h l a b => h l a ((onw_s hw).mpr (Or.inl b))⟩
  rcases (onw_s hw).mp b with b | b
  · exact h l a b
  · subst b; omega
theorem hi_T {x : Me} {n p w c : Int} (hw : 0 ≤ w ∧ w < 4) (hm : 0 ≤ lth n p w) (hc : (x 34 (lth n p w) = 1 ∧ c = x 30 8 - x 33 (lth n p w)) ∨ (x 34 (lth n p w) ≠ 1 ∧ c = x 30 8 - x 33 (lth n p w) - 1)) {s : Int} (k : ∀ v, v ≤ s ↔ hiP x n p v w) : ∀ v, v ≤ min s c ↔ hiP x n p v (w + 1) := by
  intro v
  have e : v ≤ min s c ↔ v ≤ s ∧ v ≤ c := by omega
  rw [e, k v]; unfold hiP
  constructor
  · rintro ⟨⟨a1, a2⟩, a3⟩
    refine ⟨a1, fun l a b => ?_⟩
    rcases (onw_s hw).mp b with b | b
    · exact a2 l a b
    · subst b
      rcases hc with hc | hc
      · exact ⟨fun _ => by omega, fun q => absurd hc.1 q⟩
      · exact ⟨fun q => absurd q hc.1, fun _ => by omega⟩
  · rintro ⟨a1, a2⟩
    refine ⟨⟨a1, fun l a b => a2 l a ((onw_s hw).mpr (Or.inl b))⟩, ?_⟩
    have := a2 _ hm ((onw_s hw).mpr (Or.inr rfl))
    rcases hc with hc | hc
    · have := this.1 hc.1; omega
    · have := this.2 hc.1; omega
/-- what the bounds are for: between them, and free, a number fits -/
theorem bnd {x : Me} {n p : Int} {G : Int → Int} {lo hi : Int} (hB : SB x n) (hT : ST x n G) (hp : 0 ≤ p ∧ p < n * n) (h0 : G p = 0) (hf : fit n G) (hlo : ∀ v, lo ≤ v ↔ loP x n p v 4) (hhi : ∀ v, v ≤ hi ↔ hiP x n p v 4) (v : Int) : (1 ≤ v ∧ fit n (uf G p v)) ↔ lo ≤ v ∧ v ≤ hi ∧ ((1 ≤ v ∧ v ≤ n * n) ∧ x 32 v = 0) := by
  obtain ⟨hn, s7, s8, -⟩ := hB
  have h4 := sq4 hn
  rw [hlo v, hhi v]
  have hl9 : ∀ l, 0 ≤ l → onw n p l 4 → l < 2 * n + 2 := by
    intro l a b
    unfold onw at b
    have r0 := lth_rng hn hp (w := 0) (by omega)
    have r1 := lth_rng hn hp (w := 1) (by omega)
    have r2 := lth_rng hn hp (w := 2) (by omega)
    have r3 := lth_rng hn hp (w := 3) (by omega)
    omega
  constructor
  · rintro ⟨hv, hf2⟩
    obtain ⟨a1, a2, a3⟩ := (fit_step hf hp h0 hv).mp hf2
    refine ⟨⟨hv, fun l a b c => ?_⟩, ⟨a1, fun l a b => ?_⟩, ⟨hv, a1⟩, ?_⟩
    · have q := hT.1 l a (hl9 l a b)
      have := a3 l a (hl9 l a b) ((onw_4 hn hp ⟨a, hl9 l a b⟩).mp b)
      rw [q.2] at c; rw [q.1, s8]
      have := this.1 c; omega
    · have q := hT.1 l a (hl9 l a b)
      have := a3 l a (hl9 l a b) ((onw_4 hn hp ⟨a, hl9 l a b⟩).mp b)
      rw [q.2, q.1, s8]
      exact ⟨fun c => by have := this.1 c; omega, fun c => by have := this.2 c; omega⟩
    · rw [hT.2 v (by omega) (by omega), bi_f a2]
  · rintro ⟨⟨b1, b2⟩, ⟨b3, b4⟩, ⟨b5, b6⟩, b7⟩
    refine ⟨b1, (fit_step hf hp h0 b1).mpr ⟨b6, ?_, fun l a b c => ?_⟩⟩
    · intro hu
      rw [hT.2 v (by omega) (by omega), bi_t hu] at b7; omega
    · have q := hT.1 l a b
      have hw := (onw_4 hn hp ⟨a, b⟩).mpr c
      have c1 := b2 l a hw
      have c2 := b4 l a hw
      rw [q.2, q.1, s8] at c1 c2
      exact ⟨fun d => by have := c1 d; have := c2.1 d; omega, fun d => by have := c2.2 d; omega⟩
