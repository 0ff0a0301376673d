def popF : Nat → Int → Int
  | 0, _ => 0
  | f + 1, v => v % 2 + popF f (v / 2)
def pop (v : Int) : Int := popF 10 v
def dfA (n : Int) (f : Int → Int) (m : Int) : Nat → Int
  | 0 => 0
  | k + 1 => dfA n f m k + (if f (fmp n m k) ≠ f k then p2 k else 0)
theorem p2_s1 {k : Int} (h : 0 ≤ k) : p2 (k + 1) = 2 * p2 k := by
  obtain ⟨m, rfl⟩ : ∃ m : Nat, k = m := ⟨k.toNat, by omega⟩
  rw [show (m : Int) + 1 = ((m + 1 : Nat) : Int) by omega, p2_nat, p2_nat, Nat.pow_succ]; omega
theorem dfA_s (n : Int) (f : Int → Int) (m : Int) {i : Int} (h : 0 ≤ i) : dfA n f m (i + 1).toNat = dfA n f m i.toNat + (if f (fmp n m i) ≠ f i then p2 i else 0) := by
  have e : (i + 1).toNat = i.toNat + 1 := by omega
  rw [e, dfA, Int.toNat_of_nonneg h]
theorem dfA_r (n : Int) (f : Int → Int) (m : Int) (k : Nat) : 0 ≤ dfA n f m k ∧ dfA n f m k < p2 k := by
  induction k with
  | zero => simp [dfA, p2]
  | succ k ih =>
    have e := p2_s1 (k := k) (by omega)
    rw [dfA, show ((k + 1 : Nat) : Int) = (k : Int) + 1 by omega, e]
    split <;> omega
theorem p2_9 {k : Int} (h : 0 ≤ k ∧ k ≤ 9) : 1 ≤ p2 k ∧ p2 k ≤ 512 := by
  have h1 : k = 0 ∨ k = 1 ∨ k = 2 ∨ k = 3 ∨ k = 4 ∨ k = 5 ∨ k = 6 ∨ k = 7 ∨ k = 8 ∨ k = 9 := by omega
  rcases h1 with rfl | rfl | rfl | rfl | rfl | rfl | rfl | rfl | rfl | rfl <;> decide
def bnd2 (a b : Int) : Int := ((a.toNat &&& b.toNat : Nat) : Int)
theorem bnd2_z {a b : Int} (ha : 0 ≤ a) (hb : 0 ≤ b) : zi a &&& zi b = zi (bnd2 a b) := by
  unfold bnd2
  rw [← zn_and, Int.toNat_of_nonneg ha, Int.toNat_of_nonneg hb]
theorem bnd2_r {a b : Int} (ha : 0 ≤ a) : 0 ≤ bnd2 a b ∧ bnd2 a b ≤ a := by
  unfold bnd2
  have := @Nat.and_le_left a.toNat b.toNat
  omega
def telB (d : Int → Int) (s : Int) : Bool := (List.range 8).all (fun m => decide (d m = 0 ∨ bnd2 (d m) s ≠ 0))
theorem telB_iff {d : Int → Int} {s : Int} : telB d s = true ↔ ∀ m : Int, 0 ≤ m → m < 8 → d m = 0 ∨ bnd2 (d m) s ≠ 0 := by
  unfold telB
  rw [List.all_eq_true]
  constructor
  · intro h m a b
    have := h m.toNat (List.mem_range.mpr (by omega))
    rw [Int.toNat_of_nonneg a] at this
    exact of_decide_eq_true this
  · intro h m hm
    exact decide_eq_true (h m (by omega) (by have := List.mem_range.mp hm; omega))
theorem telB_c {d d' : Int → Int} {s : Int} (h : ∀ m : Int, 0 ≤ m → m < 8 → d m = d' m) : telB d s = telB d' s := by
  rw [Bool.eq_iff_iff, telB_iff, telB_iff]
  exact ⟨fun q m a b => by rw [← h m a b]; exact q m a b, fun q m a b => by rw [h m a b]; exact q m a b⟩
def gvs (d : Int → Int) (al : Int) : Nat → Int
  | 0 => al
  | k + 1 => if pop k < pop (gvs d al k) ∧ telB d k = true then (k : Int) else gvs d al k
theorem gvs_s (d : Int → Int) (al : Int) {i : Int} (h : 0 ≤ i) : gvs d al (i + 1).toNat = if pop i < pop (gvs d al i.toNat) ∧ telB d i = true then i else gvs d al i.toNat := by
  have e : (i + 1).toNat = i.toNat + 1 := by omega
  rw [e, gvs, Int.toNat_of_nonneg h]
def gvF (n : Int) (f : Int → Int) : Int := gvs (fun m => dfA n f m (n * n).toNat) (p2 (n * n) - 1) (p2 (n * n) - 1).toNat
theorem pop_r : ∀ k : Nat, k < 512 → 0 ≤ pop k ∧ pop k ≤ 9 := by decide +kernel
theorem pop_rng {v : Int} (h : 0 ≤ v ∧ v < 512) : 0 ≤ pop v ∧ pop v ≤ 9 := by
  have := pop_r v.toNat (by omega)
  rw [Int.toNat_of_nonneg h.1] at this; exact this
def bcU (a b : Int) : Int := ((zi a).toUInt32 >>> ((zi b).toUInt32 &&& Int32.toUInt32 31)).toInt32.toInt
def bcA (a b : Int) : Int := (zi a &&& zi b).toInt
def bc1 (i : Int) : Int := i - bcA (bcU i 1) 1431655765
def bc2 (i : Int) : Int := bcA (bc1 i) 858993459 + bcA (bcU (bc1 i) 2) 858993459
def bc3 (i : Int) : Int := bcA (bc2 i + bcU (bc2 i) 4) 252645135
def bc4 (i : Int) : Int := bc3 i + bcU (bc3 i) 8
def bc5 (i : Int) : Int := bc4 i + bcU (bc4 i) 16
theorem bc_ok : ∀ k : Nat, k < 512 → bcA (bc5 k) 63 = pop k := by decide +kernel
