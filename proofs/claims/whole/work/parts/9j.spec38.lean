theorem pwF_0 (k : Nat) (pr fa : Int) : pwF k pr fa 0 = pr := by
  cases k with
  | zero => rfl
  | succ k => rw [pwF, if_neg (by omega)]
theorem pwF_r : ∀ (k : Nat) (pr fa le : Int), 0 ≤ pr ∧ pr < 1000003 → 0 ≤ pwF k pr fa le ∧ pwF k pr fa le < 1000003
  | 0, pr, _, _, h => h
  | k + 1, pr, fa, le, h => by
    rw [pwF]; split
    · refine pwF_r k _ _ _ ?_
      split
      · exact ⟨Int.emod_nonneg _ (by decide), Int.emod_lt_of_pos _ (by decide)⟩
      · exact h
    · exact h
def VB (x : Me) (a : Nat) (v : List Int) (b : Int) : Prop := v.length = 36 ∧ ∀ i : Int, 0 ≤ i → i < 36 → x a i = v.getD i.toNat 0 ∧ 0 ≤ v.getD i.toNat 0 ∧ v.getD i.toNat 0 ≤ b
theorem VB_of {x y : Me} {a : Nat} {v : List Int} {b : Int} (h : VB x a v b) (e : y a = x a) : VB y a v b := ⟨h.1, fun i c d => by rw [e]; exact h.2 i c d⟩
theorem VB_le {x : Me} {a : Nat} {v : List Int} {b c : Int} (h : VB x a v b) (e : b ≤ c) : VB x a v c := ⟨h.1, fun i p q => by have := h.2 i p q; omega⟩
theorem rep36 (k : Nat) : (List.replicate 36 (0 : Int)).getD k 0 = 0 := by
  rw [List.getD_eq_getElem?_getD, List.getElem?_replicate]; split <;> rfl
theorem VB_0 {x y : Me} {a : Nat} (h : y = clr x a 36) : VB y a (List.replicate 36 0) 0 := by
  refine ⟨by simp, fun i c d => ?_⟩
  rw [h, rep36]
  refine ⟨?_, Int.le_refl _, Int.le_refl _⟩
  unfold clr; rw [if_pos ⟨rfl, c, d⟩]
theorem set_at {v : List Int} {u t i : Int} (hu : 0 ≤ u ∧ u < v.length) (hi : 0 ≤ i) : (v.set u.toNat t).getD i.toNat 0 = if i = u then t else v.getD i.toNat 0 := by
  rw [List.getD_eq_getElem?_getD, List.getElem?_set]
  by_cases e : i = u
  · subst e; rw [if_pos rfl, if_pos (by omega), if_pos rfl]; rfl
  · rw [if_neg (by omega), if_neg e, List.getD_eq_getElem?_getD]
theorem VB_set {x : Me} {a : Nat} {v : List Int} {b u t : Int} (h : VB x a v b) (hu : 0 ≤ u ∧ u < 36) (ht : 0 ≤ t ∧ t ≤ b) : VB (up x a u t) a (v.set u.toNat t) b := by
  refine ⟨by rw [List.length_set]; exact h.1, fun i c d => ?_⟩
  rw [set_at (by rw [h.1]; exact hu) c]
  by_cases e : i = u
  · rw [if_pos e, e, up_s]; exact ⟨rfl, ht⟩
  · rw [if_neg e, up_n _ _ (by omega)]; exact h.2 i c d
theorem VB_bmp {x y : Me} {a : Nat} {v : List Int} {b u : Int} (h : VB x a v b) (hu : 0 ≤ u ∧ u < 36) (hy : y = up x a u (x a u + 1)) : VB y a (bmp v u 1) (b + 1) := by
  have h0 := h.2 u hu.1 hu.2
  have := VB_set (VB_le h (show b ≤ b + 1 by omega)) hu (t := v.getD u.toNat 0 + 1) (by omega)
  rw [hy, h0.1]
  exact this
theorem VB_ext {x : Me} {a : Nat} {v w : List Int} {b : Int} (h : VB x a v b) (hw : w.length = 36) (e : ∀ i : Nat, i < 36 → w.getD i 0 = v.getD i 0) : VB x a w b := ⟨hw, fun i c d => by rw [e i.toNat (by omega)]; exact h.2 i c d⟩
def PM : Int := 1000002
theorem subL_at {v u : List Int} (hv : v.length = 36) (hu : u.length = 36) {i : Int} (h : 0 ≤ i ∧ i < 36) : (subL v u).getD i.toNat 0 = (v.getD i.toNat 0 - u.getD i.toNat 0 + 1000003) % 1000003 := by
  unfold subL; rw [zw_at (by omega) (by omega)]
theorem subL_len {v u : List Int} (hv : v.length = 36) (hu : u.length = 36) : (subL v u).length = 36 := by unfold subL; rw [List.length_zipWith, hv, hu]; rfl
theorem rdz_at {v b : List Int} {p : Nat} (hv : v.length = 36) (hb : b.length = 36) {i : Int} (h : 0 ≤ i ∧ i < 36) : (rdz v b p).getD i.toNat 0 = (v.getD i.toNat 0 + 1000003 - v.getD p 0 * b.getD i.toNat 0 % 1000003) % 1000003 := by
  unfold rdz; rw [zw_at (by omega) (by omega)]
theorem rdz_len {v b : List Int} {p : Nat} (hv : v.length = 36) (hb : b.length = 36) : (rdz v b p).length = 36 := by unfold rdz; rw [List.length_zipWith, hv, hb]; rfl
theorem nmz_at {v : List Int} {p : Nat} (hv : v.length = 36) {i : Int} (h : 0 ≤ i ∧ i < 36) : (nmz v p).getD i.toNat 0 = v.getD i.toNat 0 * pwF 20 1 (v.getD p 0) 1000001 % 1000003 := by
  have hb : i.toNat < v.length := by omega
  simp only [nmz, List.getD_eq_getElem?_getD, List.getElem?_map]
  rw [List.getElem?_eq_getElem hb]; rfl
theorem nmz_len {v : List Int} {p : Nat} (hv : v.length = 36) : (nmz v p).length = 36 := by unfold nmz; rw [List.length_map]; exact hv
/-- the model's rows -/
def BS (x : Me) (B : List (List Int)) : Prop := B.length = 36 ∧ ∀ p : Nat, p < 36 → (B.getD p [] = [] ∧ x 62 p = 0) ∨ (B.getD p [] ≠ [] ∧ x 62 p = 1 ∧ (B.getD p []).length = 36 ∧ ∀ k : Int, 0 ≤ k → k < 36 → x 61 (36 * p + k) = (B.getD p []).getD k.toNat 0 ∧ 0 ≤ (B.getD p []).getD k.toNat 0 ∧ (B.getD p []).getD k.toNat 0 ≤ 1000002)
theorem BS_of {x y : Me} {B : List (List Int)} (h : BS x B) (e1 : y 61 = x 61) (e2 : y 62 = x 62) : BS y B := ⟨h.1, fun p hp => by rw [e1, e2]; exact h.2 p hp⟩
theorem BS_0 {y : Me} (h : ∀ p : Int, 0 ≤ p → p < 36 → y 62 p = 0) : BS y (List.replicate 36 []) := by
  refine ⟨by simp, fun p hp => Or.inl ⟨?_, h p (by omega) (by omega)⟩⟩
  rw [List.getD_eq_getElem?_getD, List.getElem?_replicate, if_pos hp]; rfl
theorem BS_set {x y : Me} {B : List (List Int)} {p : Int} {v : List Int} (h : BS x B) (hp : 0 ≤ p ∧ p < 36) (hv : v.length = 36) (h1 : ∀ k : Int, 0 ≤ k → k < 36 → y 61 (36 * p + k) = v.getD k.toNat 0 ∧ 0 ≤ v.getD k.toNat 0 ∧ v.getD k.toNat 0 ≤ 1000002) (h2 : ∀ i : Int, ¬ (36 * p ≤ i ∧ i < 36 * p + 36) → y 61 i = x 61 i) (h3 : y 62 p = 1) (h4 : ∀ i : Int, i ≠ p → y 62 i = x 62 i) : BS y (B.set p.toNat v) := by
  refine ⟨by rw [List.length_set]; exact h.1, fun q hq => ?_⟩
  by_cases e : q = p.toNat
  · subst e
    have e1 : (B.set p.toNat v).getD p.toNat [] = v := by
      rw [List.getD_eq_getElem?_getD, List.getElem?_set, if_pos rfl, if_pos (by rw [h.1]; exact hq)]; rfl
    have e2 : ((p.toNat : Nat) : Int) = p := by omega
    rw [e1, e2]
    right
    exact ⟨fun z => by rw [z] at hv; simp at hv, h3, hv, h1⟩
  · have e1 : (B.set p.toNat v).getD q [] = B.getD q [] := by
      rw [List.getD_eq_getElem?_getD, List.getElem?_set, if_neg (fun z => e z.symm), List.getD_eq_getElem?_getD]
    rw [e1, h4 q (by omega)]
    rcases h.2 q hq with ⟨a, b⟩ | ⟨a, b, c, d⟩
    · exact Or.inl ⟨a, b⟩
    · exact Or.inr ⟨a, b, c, fun k k1 k2 => by rw [h2 _ (by omega)]; exact d k k1 k2⟩
theorem inL_01 (B : List (List Int)) : ∀ (k p : Nat) (v : List Int), 0 ≤ (inL B k p v).2 ∧ (inL B k p v).2 ≤ 1
  | 0, _, _ => by rw [inL]; exact ⟨Int.le_refl _, (by decide : (0 : Int) ≤ 1)⟩
  | k + 1, p, v => by
    rw [inL]; split
    · exact inL_01 B k _ _
    · split
      · exact ⟨(by decide : (0 : Int) ≤ 1), Int.le_refl _⟩
      · exact inL_01 B k _ _
theorem inL_s {B : List (List Int)} {p : Int} {v : List Int} (hp : 0 ≤ p ∧ p < 36) : (v.getD p.toNat 0 = 0 → inL B (36 - p.toNat) p.toNat v = inL B (36 - (p + 1).toNat) (p + 1).toNat v) ∧ (v.getD p.toNat 0 ≠ 0 → B.getD p.toNat [] = [] → inL B (36 - p.toNat) p.toNat v = (B.set p.toNat (nmz v p.toNat), 1)) ∧ (v.getD p.toNat 0 ≠ 0 → B.getD p.toNat [] ≠ [] → inL B (36 - p.toNat) p.toNat v = inL B (36 - (p + 1).toNat) (p + 1).toNat (rdz v (B.getD p.toNat []) p.toNat)) := by
  have e1 : 36 - p.toNat = (36 - (p + 1).toNat) + 1 := by omega
  have e2 : (p + 1).toNat = p.toNat + 1 := by omega
  rw [e1, inL, e2]
  exact ⟨fun h => by rw [if_pos h], fun h h2 => by rw [if_neg h, if_pos h2], fun h h2 => by rw [if_neg h, if_neg h2]⟩
def DI (m y : Me) (S : List (List Int) × Int × List Int × Bool) (rank b K : Int) : Prop :=
  rank = S.2.1 ∧ (0 ≤ rank ∧ rank ≤ K) ∧ ((b = 1 ∧ S.2.2.2 = false) ∨ (b = 0 ∧ S.2.2.2 = true ∧ VB y 60 S.2.2.1 1000002)) ∧ BS y S.1 ∧ ∀ a, a ≠ 59 → a ≠ 60 → a ≠ 61 → a ≠ 62 → y a = m a
theorem DI_first {m y z : Me} {n rank b K : Int} {v : List Int} {S : List (List Int) × Int × List Int × Bool} (h : DI m y S rank b K) (hb : b = 1) (hv : VB z 60 v 1000002) (hz : ∀ a, a ≠ 59 → a ≠ 60 → z a = y a) : DI m z (dmT n v S) rank 0 (K + 1) := by
  obtain ⟨h1, h2, h3, h4, h5⟩ := h
  have hf : S.2.2.2 = false := by
    rcases h3 with ⟨-, q⟩ | ⟨q, -⟩
    · exact q
    · omega
  have e : dmT n v S = (S.1, S.2.1, v, true) := by unfold dmT; rw [if_pos hf]
  rw [e]
  exact ⟨h1, by omega, Or.inr ⟨rfl, rfl, hv⟩, BS_of h4 (hz 61 (by omega) (by omega)) (hz 62 (by omega) (by omega)), fun a a1 a2 a3 a4 => by rw [hz a a1 a2]; exact h5 a a1 a2 a3 a4⟩
theorem DI_next {m y z : Me} {n rank b K r : Int} {v : List Int} {S : List (List Int) × Int × List Int × Bool} (h : DI m y S rank b K) (hb : b = 0) (hr : r = (inL S.1 36 0 (subL v S.2.2.1)).2) (hB : BS z (inL S.1 36 0 (subL v S.2.2.1)).1) (hz : ∀ a, a ≠ 59 → a ≠ 61 → a ≠ 62 → z a = y a) : DI m z (dmT n v S) (rank + r) 0 (K + 1) := by
  obtain ⟨h1, h2, h3, h4, h5⟩ := h
  have h3' : S.2.2.2 = true ∧ VB y 60 S.2.2.1 1000002 := by
    rcases h3 with ⟨q, -⟩ | ⟨-, q⟩
    · omega
    · exact q
  have e : dmT n v S = ((inL S.1 36 0 (subL v S.2.2.1)).1, S.2.1 + (inL S.1 36 0 (subL v S.2.2.1)).2, S.2.2.1, true) := by
    unfold dmT; rw [if_neg (by rw [h3'.1]; exact fun q => Bool.noConfusion q)]
  have h01 := inL_01 S.1 36 0 (subL v S.2.2.1)
  rw [e]
  exact ⟨by rw [h1, hr], by omega, Or.inr ⟨rfl, rfl, VB_of h3'.2 (hz 60 (by omega) (by omega) (by omega))⟩, hB, fun a a1 a2 a3 a4 => by rw [hz a a1 a3 a4]; exact h5 a a1 a2 a3 a4⟩
theorem DI_K {m y : Me} {S : List (List Int) × Int × List Int × Bool} {rank b K K' : Int} (h : DI m y S rank b K) (hk : K ≤ K') : DI m y S rank b K' := ⟨h.1, by have := h.2.1; omega, h.2.2⟩
theorem dmA_s (n s : Int) {i : Int} (h : 0 ≤ i) : (isOb n s (i / n) (i % n) = true → dmA n s (i + 1).toNat = dmT n (lmR n (i / n) (i % n)) (dmA n s i.toNat)) ∧ (¬ isOb n s (i / n) (i % n) = true → dmA n s (i + 1).toNat = dmA n s i.toNat) := by
  have e : (i + 1).toNat = i.toNat + 1 := by omega
  rw [e, dmA, Int.toNat_of_nonneg h]
  exact ⟨fun h => if_pos h, fun h => if_neg h⟩
theorem dmO_s (n s : Int) {i : Int} (h : 0 ≤ i) : dmO n s (i + 1).toNat = dmT n (opM n i) (dmO n s i.toNat) := by
  have e : (i + 1).toNat = i.toNat + 1 := by omega
  rw [e, dmO, Int.toNat_of_nonneg h]
theorem lmA_s (n kind line : Int) {i : Int} (h : 0 ≤ i) : lmA n kind line (i + 1).toNat = (lmA n kind line i.toNat).set (onl n kind line i).toNat 1 := by
  have e : (i + 1).toNat = i.toNat + 1 := by omega
  rw [e, lmA, Int.toNat_of_nonneg h]
theorem even63 : ∀ k : Fin 64, (zi (k.val : Int) &&& zi (-63)).toInt = 0 → k.val % 2 = 0 := by decide +kernel
theorem dims {n s : Int} (hn : 1 ≤ n ∧ n ≤ 6) (hs : 0 ≤ s ∧ s < 64) (h : (zi s &&& zi (-63)).toInt = 0) : dimM n s = dimS n s := by
  obtain ⟨k, rfl⟩ : ∃ k : Nat, s = k := ⟨s.toNat, by omega⟩
  have h2 : k % 2 = 0 := even63 ⟨k, by omega⟩ h
  have e : (k : Int) = 2 * ((k / 2 : Nat) : Int) := by omega
  rw [e]
  have h1 : n = 1 ∨ n = 2 ∨ n = 3 ∨ n = 4 ∨ n = 5 ∨ n = 6 := by omega
  rcases h1 with rfl | rfl | rfl | rfl | rfl | rfl
  · exact dim_1 ⟨k / 2, by omega⟩
  · exact dim_2 ⟨k / 2, by omega⟩
  · exact dim_3 ⟨k / 2, by omega⟩
  · exact dim_4 ⟨k / 2, by omega⟩
  · exact dim_5 ⟨k / 2, by omega⟩
  · exact dim_6 ⟨k / 2, by omega⟩
theorem VB_len {x : Me} {a : Nat} {v : List Int} {b : Int} (h : VB x a v b) : v.length = 36 := h.1
theorem DI_b {m y : Me} {S : List (List Int) × Int × List Int × Bool} {rank b K : Int} (h : DI m y S rank b K) (hb : b = 0) : S.2.2.2 = true ∧ VB y 60 S.2.2.1 1000002 := by
  obtain ⟨h1, h2, h3, h4, h5⟩ := h
  rcases h3 with ⟨q, -⟩ | ⟨-, q⟩
  · omega
  · exact q
theorem DI_O {m y : Me} {n s rank b K : Int} (h : DI m y (dmA n s (4 * n).toNat) rank b K) (hk : K ≤ 24) : DI m y (dmO n s 0) rank 1 24 := ⟨h.1, by have := h.2.1; omega, Or.inl ⟨rfl, rfl⟩, h.2.2.2.1, h.2.2.2.2⟩
