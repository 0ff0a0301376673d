def stk (n : Int) (f h : Int → Int) : Int → Int := fun p => if 0 ≤ p ∧ p < n * n then n * (f p - 1) + h p else 0
def prd (n m : Int) (f h : Int → Int) : Int → Int := fun p => if 0 ≤ p ∧ p < n * m * (n * m) then m * m * (f (n * (p / (n * m) / m) + p % (n * m) / m) - 1) + h (m * (p / (n * m) % m) + p % (n * m) % m) else 0
def hld (mk n : Int) : Prop := (mk = 0 ∧ n % 2 = 1) ∨ (mk = 1 ∧ (n = 4 ∨ n = 8)) ∨ (mk = 2 ∧ n % 2 = 1 ∧ n % 3 ≠ 0) ∨ (mk = 3 ∧ n = 6)
def sgt (n k : Int) (s : (Int → Int) × Int × Int) : (Int → Int) × Int × Int :=
  if uf s.1 (n * s.2.1 + s.2.2) k (n * ((s.2.1 - 1) % n) + (s.2.2 + 1) % n) = 0 then (uf s.1 (n * s.2.1 + s.2.2) k, (s.2.1 - 1) % n, (s.2.2 + 1) % n)
  else (uf s.1 (n * s.2.1 + s.2.2) k, (s.2.1 + 1) % n, s.2.2)
def sgs (n : Int) : Nat → (Int → Int) × Int × Int
  | 0 => (fun _ => 0, 0, n / 2)
  | k + 1 => sgt n ((k : Int) + 1) (sgs n k)
theorem sgs_s (n : Int) {i : Int} (h : 1 ≤ i) : sgs n i.toNat = sgt n i (sgs n (i - 1).toNat) := by
  have e : i.toNat = (i - 1).toNat + 1 := by omega
  have e2 : ((i - 1).toNat : Int) + 1 = i := by omega
  rw [e, sgs, e2]
def sgf (n : Int) : Int → Int := (sgs n (n * n).toNat).1
theorem sgs_rng {n : Int} (h : 1 ≤ n ∧ n ≤ 9) (k : Nat) : (∀ p, 0 ≤ (sgs n k).1 p ∧ (sgs n k).1 p ≤ k) ∧ (∀ p, ¬ (0 ≤ p ∧ p < n * n) → (sgs n k).1 p = 0) ∧ (0 ≤ (sgs n k).2.1 ∧ (sgs n k).2.1 < n) ∧ 0 ≤ (sgs n k).2.2 ∧ (sgs n k).2.2 < n := by
  induction k with
  | zero => simp only [sgs]; refine ⟨fun p => by omega, fun p _ => trivial, by omega, by omega⟩
  | succ k ih =>
    obtain ⟨h1, h2, h3, h4⟩ := ih
    have hm : ∀ v : Int, 0 ≤ v % n ∧ v % n < n := fun v => ⟨Int.emod_nonneg v (by omega), Int.emod_lt_of_pos v (by omega)⟩
    have hp := pl9 h h3 h4
    have hu : ∀ p, 0 ≤ uf (sgs n k).1 (n * (sgs n k).2.1 + (sgs n k).2.2) ((k : Int) + 1) p ∧ uf (sgs n k).1 (n * (sgs n k).2.1 + (sgs n k).2.2) ((k : Int) + 1) p ≤ ((k + 1 : Nat) : Int) := by
      intro p; unfold uf; split
      · omega
      · have := h1 p; omega
    have hz : ∀ p, ¬ (0 ≤ p ∧ p < n * n) → uf (sgs n k).1 (n * (sgs n k).2.1 + (sgs n k).2.2) ((k : Int) + 1) p = 0 := by
      intro p hn; unfold uf; rw [if_neg (by omega)]; exact h2 p hn
    rw [sgs]; unfold sgt
    split
    · exact ⟨hu, hz, hm _, hm _⟩
    · exact ⟨hu, hz, hm _, h4⟩
def crs (n : Int) : Int → Int := fun p => if 0 ≤ p ∧ p < n * n then (if p / n % 4 = p % n % 4 ∨ p / n % 4 + p % n % 4 = 3 then n * n - p else p + 1) else 0
def dig (n : Int) : Int → Int := fun p => if 0 ≤ p ∧ p < n * n then n * ((p / n + 2 * (p % n)) % n) + (2 * (p / n) + p % n) % n + 1 else 0
theorem rc_of {n r c : Int} (h : 1 ≤ n ∧ n ≤ 9) (hr : 0 ≤ r ∧ r < n) (hc : 0 ≤ c ∧ c < n) : (n * r + c) / n = r ∧ (n * r + c) % n = c := by
  have h1 : n = 1 ∨ n = 2 ∨ n = 3 ∨ n = 4 ∨ n = 5 ∨ n = 6 ∨ n = 7 ∨ n = 8 ∨ n = 9 := by omega
  rcases h1 with rfl | rfl | rfl | rfl | rfl | rfl | rfl | rfl | rfl <;> omega
def lux (f : Int → Int) (p : Int) : Int :=
  if p / 6 % 2 = 0 then (if p % 6 % 2 = 0 then (if (p / 6 / 2 = 1 ∧ p % 6 / 2 = 1) ∨ (p / 6 / 2 = 2 ∧ p % 6 / 2 ≠ 1) then 4 * (f (3 * (p / 6 / 2) + p % 6 / 2) - 1) + 1 else 4 * (f (3 * (p / 6 / 2) + p % 6 / 2) - 1) + 4)
    else (if (p / 6 / 2 = 1 ∧ p % 6 / 2 = 1) ∨ (p / 6 / 2 = 2 ∧ p % 6 / 2 ≠ 1) then 4 * (f (3 * (p / 6 / 2) + p % 6 / 2) - 1) + 4 else 4 * (f (3 * (p / 6 / 2) + p % 6 / 2) - 1) + 1))
  else if p % 6 % 2 = 0 then 4 * (f (3 * (p / 6 / 2) + p % 6 / 2) - 1) + 2 else 4 * (f (3 * (p / 6 / 2) + p % 6 / 2) - 1) + 3
theorem lux_at {f : Int → Int} {r c p a b : Int} (hr : 0 ≤ r ∧ r < 3) (hc : 0 ≤ c ∧ c < 3) (ha : a = 0 ∨ a = 1) (hb : b = 0 ∨ b = 1) (hp : p = 12 * r + 2 * c + 6 * a + b) : lux f p =
  if a = 0 then (if b = 0 then (if (r = 1 ∧ c = 1) ∨ (r = 2 ∧ c ≠ 1) then 4 * (f (3 * r + c) - 1) + 1 else 4 * (f (3 * r + c) - 1) + 4)
    else (if (r = 1 ∧ c = 1) ∨ (r = 2 ∧ c ≠ 1) then 4 * (f (3 * r + c) - 1) + 4 else 4 * (f (3 * r + c) - 1) + 1))
  else if b = 0 then 4 * (f (3 * r + c) - 1) + 2 else 4 * (f (3 * r + c) - 1) + 3 := by
  have e1 : p / 6 / 2 = r := by omega
  have e2 : p % 6 / 2 = c := by omega
  have e3 : p / 6 % 2 = a := by omega
  have e4 : p % 6 % 2 = b := by omega
  unfold lux
  rw [e1, e2, e3, e4]
def lxf : Int → Int := fun p => if 0 ≤ p ∧ p < 36 then lux (sgf 3) p else 0
def mkf (mk n : Int) : Int → Int := if mk = 0 then sgf n else if mk = 1 then crs n else if mk = 2 then dig n else lxf
theorem up4 {y : Me} {a : Nat} {p0 p1 p2 p3 v0 v1 v2 v3 p : Int} : up (up (up (up y a p0 v0) a p1 v1) a p2 v2) a p3 v3 a p = if p = p3 then v3 else if p = p2 then v2 else if p = p1 then v1 else if p = p0 then v0 else y a p := by
  simp only [up, true_and]
