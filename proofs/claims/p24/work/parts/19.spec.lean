/-! the words of the document over numbers: a figure is its side n and, by places, its numbers f -/
def sm (f : Int → Int) : Nat → Int
  | 0 => 0
  | k + 1 => sm f k + f k
theorem sm_0 (f : Int → Int) : sm f (0 : Int).toNat = 0 := rfl
theorem sm_s (f : Int → Int) {i : Int} (h : 0 ≤ i) : sm f (i + 1).toNat = sm f i.toNat + f i := by
  have e : (i + 1).toNat = i.toNat + 1 := by omega
  rw [e, sm, Int.toNat_of_nonneg h]
theorem sm_congr {f g : Int → Int} {n : Nat} (h : ∀ k : Int, 0 ≤ k → k < n → f k = g k) : sm f n = sm g n := by
  induction n with
  | zero => rfl
  | succ n ih =>
    rw [sm, sm, ih (fun k h0 h1 => h k h0 (by omega)), h n (by omega) (by omega)]
theorem sm_rng {f : Int → Int} {a b : Int} {n : Nat} (h : ∀ k : Int, 0 ≤ k → k < n → a ≤ f k ∧ f k ≤ b) : a * n ≤ sm f n ∧ sm f n ≤ b * n := by
  induction n with
  | zero => simp [sm]
  | succ n ih =>
    have h1 := ih (fun k h0 h1 => h k h0 (by omega))
    have h2 := h n (by omega) (by omega)
    have e1 : a * ((n + 1 : Nat) : Int) = a * n + a := by rw [Int.natCast_add, Int.mul_add]; simp
    have e2 : b * ((n + 1 : Nat) : Int) = b * n + b := by rw [Int.natCast_add, Int.mul_add]; simp
    rw [sm, e1, e2]
    omega
def onl (n kind line step : Int) : Int := if kind = 0 then n * line + step else if kind = 1 then n * step + line else if kind = 2 then n * step + (line + step) % n else n * step + (line - step + n) % n
def lsum (n : Int) (f : Int → Int) (kind line : Int) : Int := sm (fun i => f (onl n kind line i)) n.toNat
def lpow (n : Int) (f : Int → Int) (kind line : Int) : Int := sm (fun i => f (onl n kind line i) * f (onl n kind line i)) n.toNat
def cnt (n : Int) (f : Int → Int) (v : Int) : Int := sm (fun p => if f p = v then 1 else 0) (n * n).toNat
def hig (f : Int → Int) : Nat → Int
  | 0 => 0
  | k + 1 => max (hig f k) (f k)
theorem hig_s (f : Int → Int) {i : Int} (h : 0 ≤ i) : hig f (i + 1).toNat = max (hig f i.toNat) (f i) := by
  have e : (i + 1).toNat = i.toNat + 1 := by omega
  rw [e, hig, Int.toNat_of_nonneg h]
def tur (n t p : Int) : Int := if t = 1 then n * (n - 1 - p % n) + p / n else if t = 2 then n * (n - 1 - p / n) + (n - 1 - p % n) else if t = 3 then n * (p % n) + (n - 1 - p / n) else p
def fli (n f p : Int) : Int := if f = 0 then p else n * (p / n) + (n - 1 - p % n)
def shf (n d r p : Int) : Int := n * ((p / n - d) % n) + (p % n - r) % n
def swp (n b v : Int) : Int := if v = b ∨ v = n - 1 - b then n - 1 - v else v
def prs (n b p : Int) : Int := n * swp n b (p / n) + swp n b (p % n)
def ahd (n ch b p : Int) : Int := if ch = 0 then tur n b p else if ch = 1 then fli n b p else if ch = 3 then shf n b 0 p else if ch = 4 then shf n 0 b p else if ch = 5 then prs n b p else p
/-! the class's numbers, the model's numbers -/
def nc (x : Me) (q : Nat) : Int → Int := fun p => if 0 ≤ p ∧ p < 81 then x (20 + q) p else 0
def nd (x : Me) (q : Int) : Int → Int := fun p => if 0 ≤ p ∧ p < 81 then x 52 (81 * q + p) else 0
theorem nc_in {x : Me} {q : Nat} {p : Int} (h : 0 ≤ p ∧ p < 81) : nc x q p = x (20 + q) p := if_pos h
theorem nd_in {x : Me} {q p : Int} (h : 0 ≤ p ∧ p < 81) : nd x q p = x 52 (81 * q + p) := if_pos h
theorem sq9 {n : Int} (h : 1 ≤ n ∧ n ≤ 9) : 1 ≤ n * n ∧ n * n ≤ 81 ∧ n ≤ n * n := by
  have h1 : n = 1 ∨ n = 2 ∨ n = 3 ∨ n = 4 ∨ n = 5 ∨ n = 6 ∨ n = 7 ∨ n = 8 ∨ n = 9 := by omega
  rcases h1 with rfl | rfl | rfl | rfl | rfl | rfl | rfl | rfl | rfl <;> decide
theorem pl9 {n r c : Int} (h : 1 ≤ n ∧ n ≤ 9) (hr : 0 ≤ r ∧ r < n) (hc : 0 ≤ c ∧ c < n) : 0 ≤ n * r + c ∧ n * r + c < n * n ∧ 0 ≤ n * r ∧ n * r ≤ n * n := by
  have h1 : n = 1 ∨ n = 2 ∨ n = 3 ∨ n = 4 ∨ n = 5 ∨ n = 6 ∨ n = 7 ∨ n = 8 ∨ n = 9 := by omega
  rcases h1 with rfl | rfl | rfl | rfl | rfl | rfl | rfl | rfl | rfl <;> omega
theorem rc9 {n p : Int} (h : 1 ≤ n ∧ n ≤ 9) (hp : 0 ≤ p ∧ p < n * n) : 0 ≤ p / n ∧ p / n < n ∧ 0 ≤ p % n ∧ p % n < n ∧ p = n * (p / n) + p % n := by
  have h1 : n = 1 ∨ n = 2 ∨ n = 3 ∨ n = 4 ∨ n = 5 ∨ n = 6 ∨ n = 7 ∨ n = 8 ∨ n = 9 := by omega
  rcases h1 with rfl | rfl | rfl | rfl | rfl | rfl | rfl | rfl | rfl <;> omega
theorem onl_rng {n k l i : Int} (h : 1 ≤ n ∧ n ≤ 9) (hl : 0 ≤ l ∧ l < n) (hi : 0 ≤ i ∧ i < n) : 0 ≤ onl n k l i ∧ onl n k l i < n * n := by
  have h1 : ∀ v : Int, 0 ≤ v % n ∧ v % n < n := fun v => ⟨Int.emod_nonneg v (by omega), Int.emod_lt_of_pos v (by omega)⟩
  unfold onl
  split
  · exact ⟨(pl9 h hl hi).1, (pl9 h hl hi).2.1⟩
  · split
    · exact ⟨(pl9 h hi hl).1, (pl9 h hi hl).2.1⟩
    · split
      · exact ⟨(pl9 h hi (h1 _)).1, (pl9 h hi (h1 _)).2.1⟩
      · exact ⟨(pl9 h hi (h1 _)).1, (pl9 h hi (h1 _)).2.1⟩
theorem tur_rng {n t p : Int} (h : 1 ≤ n ∧ n ≤ 9) (hp : 0 ≤ p ∧ p < n * n) : 0 ≤ tur n t p ∧ tur n t p < n * n := by
  have hr := rc9 h hp
  unfold tur
  split
  · have := pl9 (r := n - 1 - p % n) (c := p / n) h (by omega) (by omega); omega
  · split
    · have := pl9 (r := n - 1 - p / n) (c := n - 1 - p % n) h (by omega) (by omega); omega
    · split
      · have := pl9 (r := p % n) (c := n - 1 - p / n) h (by omega) (by omega); omega
      · exact hp
theorem fli_rng {n t p : Int} (h : 1 ≤ n ∧ n ≤ 9) (hp : 0 ≤ p ∧ p < n * n) : 0 ≤ fli n t p ∧ fli n t p < n * n := by
  have hr := rc9 h hp
  unfold fli
  split
  · exact hp
  · have := pl9 (r := p / n) (c := n - 1 - p % n) h (by omega) (by omega); omega
theorem shf_rng {n d r p : Int} (h : 1 ≤ n ∧ n ≤ 9) : 0 ≤ shf n d r p ∧ shf n d r p < n * n := by
  have h1 : ∀ v : Int, 0 ≤ v % n ∧ v % n < n := fun v => ⟨Int.emod_nonneg v (by omega), Int.emod_lt_of_pos v (by omega)⟩
  have := pl9 h (h1 (p / n - d)) (h1 (p % n - r))
  unfold shf; omega
theorem swp_rng {n b v : Int} (hv : 0 ≤ v ∧ v < n) : 0 ≤ swp n b v ∧ swp n b v < n := by
  unfold swp; split <;> omega
theorem prs_rng {n b p : Int} (h : 1 ≤ n ∧ n ≤ 9) (hp : 0 ≤ p ∧ p < n * n) : 0 ≤ prs n b p ∧ prs n b p < n * n := by
  have hr := rc9 h hp
  have := pl9 h (swp_rng (n := n) (b := b) (v := p / n) (by omega)) (swp_rng (n := n) (b := b) (v := p % n) (by omega))
  unfold prs; omega
theorem ahd_rng {n ch b p : Int} (h : 1 ≤ n ∧ n ≤ 9) (hp : 0 ≤ p ∧ p < n * n) : 0 ≤ ahd n ch b p ∧ ahd n ch b p < n * n := by
  unfold ahd
  split
  · exact tur_rng h hp
  · split
    · exact fli_rng h hp
    · split
      · exact shf_rng h
      · split
        · exact shf_rng h
        · split
          · exact prs_rng h hp
          · exact hp
/-! the memory: a stretch of a row that is set -/
def clr (x : Me) (a0 : Nat) (i : Int) : Me := fun a b => if a = a0 ∧ 0 ≤ b ∧ b < i then 0 else x a b
theorem clr_0 (x : Me) (a0 : Nat) : clr x a0 0 = x := by
  funext a b; unfold clr; rw [if_neg (by omega)]
theorem clr_s (x : Me) (a0 : Nat) {i : Int} (h : 0 ≤ i) : up (clr x a0 i) a0 i 0 = clr x a0 (i + 1) := by
  funext a b; unfold up clr
  by_cases h1 : a = a0 ∧ b = i
  · rw [if_pos h1, if_pos (by omega)]
  · rw [if_neg h1]
    by_cases h2 : a = a0 ∧ 0 ≤ b ∧ b < i
    · rw [if_pos h2, if_pos (by omega)]
    · rw [if_neg h2, if_neg (by omega)]
def fr (x x' : Me) (P : Nat → Prop) : Prop := ∀ a, ¬ P a → x' a = x a
