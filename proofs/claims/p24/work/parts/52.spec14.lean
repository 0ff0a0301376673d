theorem rep_at (k : Nat) : (List.replicate 38 (0 : Int)).getD k 0 = 0 := by
  rw [List.getD_eq_getElem?_getD, List.getElem?_replicate]; split <;> rfl
theorem VW_0 {x y : Me} (h : y = clr x 45 38) : VW y (List.replicate 38 0) 0 := by
  refine ⟨zr38, fun i a b => ?_⟩
  rw [h, rep_at]
  refine ⟨?_, by omega, by omega⟩
  unfold clr; rw [if_pos ⟨rfl, a, b⟩]
theorem VW_of {x y : Me} {v : List Int} {b : Int} (h : VW x v b) (e : y 45 = x 45) : VW y v b := ⟨h.1, fun i a d => by rw [e]; exact h.2 i a d⟩
theorem VM_up {x y : Me} {v : List Int} {b u t : Int} (h : VW x v b) (hu : 0 ≤ u ∧ u < 38) (ht : 0 ≤ t) (hb : b < 1000003) (hc : v.getD u.toNat 0 + t < 1000003) (hy : y = up x 45 u (x 45 u + t)) : VM y 45 (bmp v u t) := by
  refine ⟨bmp_len h.1, fun i a d => ?_⟩
  rw [bmp_at h.1 hu a, hy]
  have h1 := h.2 i a d
  have h2 := h.2 u hu.1 hu.2
  by_cases e : i = u
  · subst e; rw [if_pos rfl, up_s]; omega
  · rw [if_neg e, up_n _ _ (by omega)]; omega
theorem lnA_len (n kind line : Int) (k : Nat) : (lnA n kind line k).length = 38 := by
  induction k with
  | zero => exact zr38
  | succ k ih => exact bmp_len ih
theorem lnA_z {n kind line u : Int} {k : Nat} (hu : 0 ≤ u ∧ u < 38) (h : ∀ i : Int, 0 ≤ i → i < k → 0 ≤ onl n kind line i ∧ onl n kind line i < u) : (lnA n kind line k).getD u.toNat 0 = 0 := by
  induction k with
  | zero => exact rep_at _
  | succ k ih =>
    have h1 := h k (by omega) (by omega)
    rw [lnA, bmp_at (lnA_len _ _ _ _) (by omega) hu.1, if_neg (by omega)]
    exact ih (fun i a b => h i a (by omega))
theorem sq6 {n : Int} (h : 1 ≤ n ∧ n ≤ 6) : 1 ≤ n * n ∧ n * n ≤ 36 := by
  have h1 : n = 1 ∨ n = 2 ∨ n = 3 ∨ n = 4 ∨ n = 5 ∨ n = 6 := by omega
  rcases h1 with rfl | rfl | rfl | rfl | rfl | rfl <;> decide
theorem lnA_36 {n kind line : Int} (h : 1 ≤ n ∧ n ≤ 6) (hl : 0 ≤ line ∧ line < n) : (lnA n kind line n.toNat).getD (36 : Int).toNat 0 = 0 :=
  lnA_z (by omega) (fun i a b => by have := onl_rng (k := kind) (i := i) (show 1 ≤ n ∧ n ≤ 9 by omega) hl (by omega); have := sq6 h; omega)
theorem opA_37 {n p : Int} (h : 1 ≤ n ∧ n ≤ 6) (hp : 0 ≤ p ∧ p < n * n) : (bmp (bmp (List.replicate 38 0) p 1) (n * n - 1 - p) 1).getD (37 : Int).toNat 0 = 0 := by
  have := sq6 h
  rw [bmp_at (bmp_len zr38) (by omega) (by omega), if_neg (by omega), bmp_at zr38 (by omega) (by omega), if_neg (by omega), rep_at]
def adI (c : Prop) [Decidable c] (st : List (Int × List Int)) (r : List Int) : List (Int × List Int) := if c then adL st r else st
theorem adI_t {c : Prop} [Decidable c] {st : List (Int × List Int)} {r : List Int} (h : c) : adI c st r = adL st r := if_pos h
theorem adI_f {c : Prop} [Decidable c] {st : List (Int × List Int)} {r : List Int} (h : ¬ c) : adI c st r = st := if_neg h
def lnS (n s : Int) (st : List (Int × List Int)) (line : Int) : List (Int × List Int) := adI (bnd2 s 16 ≠ 0 ∨ (bnd2 s 8 ≠ 0 ∧ line = n - 1)) (adI (bnd2 s 16 ≠ 0 ∨ (bnd2 s 8 ≠ 0 ∧ line = 0)) (adI (bnd2 s 4 ≠ 0) (adI (bnd2 s 2 ≠ 0) st (lnR n 0 line)) (lnR n 1 line)) (lnR n 2 line)) (lnR n 3 line)
def lnsA (n s : Int) : Nat → List (Int × List Int)
  | 0 => []
  | k + 1 => lnS n s (lnsA n s k) k
theorem lnsA_s (n s : Int) {i : Int} (h : 0 ≤ i) : lnsA n s (i + 1).toNat = lnS n s (lnsA n s i.toNat) i := by
  have e : (i + 1).toNat = i.toNat + 1 := by omega
  rw [e, lnsA, Int.toNat_of_nonneg h]
def opA (n : Int) (st : List (Int × List Int)) : Nat → List (Int × List Int)
  | 0 => st
  | k + 1 => adL (opA n st k) (opR n k)
theorem opA_s (n : Int) (st : List (Int × List Int)) {i : Int} (h : 0 ≤ i) : opA n st (i + 1).toNat = adL (opA n st i.toNat) (opR n i) := by
  have e : (i + 1).toNat = i.toNat + 1 := by omega
  rw [e, opA, Int.toNat_of_nonneg h]
def dm1 (n s : Int) : List (Int × List Int) := if bnd2 s 30 ≠ 0 then lnsA n s n.toNat else []
def dm2 (n s : Int) : List (Int × List Int) := if bnd2 s 32 ≠ 0 then opA n (dm1 n s) ((n * n + 1) / 2).toNat else dm1 n s
def dimS (n s : Int) : Int := n * n + (if bnd2 s 30 ≠ 0 then 1 else 0) + (if bnd2 s 32 ≠ 0 then 1 else 0) - (dm2 n s).length
