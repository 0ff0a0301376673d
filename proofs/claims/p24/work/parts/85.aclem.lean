/-! completions as a list that is asked one by one -/
def GD (C : List (Int → Int)) (v : Int) : Int → Int := C.getD v.toNat (fun _ => 0)
theorem GD_at {C : List (Int → Int)} {v : Int} (h : 0 ≤ v ∧ v < C.length) : C[v.toNat]? = some (GD C v) := by
  have h1 : v.toNat < C.length := by omega
  unfold GD
  rw [List.getD_eq_getElem?_getD, List.getElem?_eq_getElem h1]
  rfl
theorem GD_mem {C : List (Int → Int)} {v : Int} (h : 0 ≤ v ∧ v < C.length) : GD C v ∈ C := List.mem_of_getElem? (GD_at h)
theorem GD_of {C : List (Int → Int)} {h : Int → Int} (hm : h ∈ C) : ∃ v : Int, 0 ≤ v ∧ v < C.length ∧ GD C v = h := by
  obtain ⟨k, hk, e⟩ := List.getElem_of_mem hm
  refine ⟨k, by omega, by omega, ?_⟩
  unfold GD
  rw [Int.toNat_natCast, List.getD_eq_getElem?_getD, List.getElem?_eq_getElem hk, e]
  rfl
theorem GD_lt {C : List (Int → Int)} {n v w : Int} (hp : C.Pairwise (lxl n)) (h : 0 ≤ v ∧ v < w ∧ w < C.length) : lxl n (GD C v) (GD C w) := by
  have h1 : v.toNat < C.length := by omega
  have h2 : w.toNat < C.length := by omega
  have e1 := GD_at (C := C) (v := v) ⟨h.1, by omega⟩
  have e2 := GD_at (C := C) (v := w) ⟨by omega, by omega⟩
  rw [List.getElem?_eq_getElem h1] at e1
  rw [List.getElem?_eq_getElem h2] at e2
  rw [← Option.some.inj e1, ← Option.some.inj e2]
  exact (List.pairwise_iff_getElem.mp hp) _ _ h1 h2 (by omega)
theorem lxl_c {n : Int} {a b a' b' : Int → Int} (ha : ∀ p, 0 ≤ p → p < n * n → a' p = a p) (hb : ∀ p, 0 ≤ p → p < n * n → b' p = b p) (h : lxl n a b) : lxl n a' b' := by
  obtain ⟨p, p0, p1, p2, p3⟩ := h
  refine ⟨p, p0, p1, fun r r0 r1 => ?_, ?_⟩
  · rw [ha r r0 (by omega), hb r r0 (by omega)]; exact p2 r r0 r1
  · rw [ha p p0 p1, hb p p0 p1]; exact p3
theorem cgt_get {n : Int} {f : Int → Int} {C : List (Int → Int)} {w p : Int} (hC : C = cpl n f) (hw : 0 ≤ w ∧ w < C.length) : cgt n f w p = GD C w p := by
  subst hC
  unfold cgt GD
  rw [if_pos hw]
theorem cgt_out {n : Int} {f : Int → Int} {C : List (Int → Int)} {w p : Int} (hC : C = cpl n f) (hw : (C.length : Int) ≤ w) : cgt n f w p = -1 := by
  subst hC
  unfold cgt
  rw [if_neg (by omega)]
theorem nc_of2 {x u : Me} {q : Nat} (h : u (20 + q) = x (20 + q)) : nc u q = nc x q := by
  funext p
  unfold nc
  rw [h]
theorem ac_k {x u : Me} {sq : Int} (hS : HS x) (hq : 0 ≤ sq ∧ sq < x 0 5) (hfr : ∀ a, a ≠ 2 → a ≠ 3 → (a < 30 ∨ 36 < a) → u a = x a) : HS u ∧ u 0 = x 0 ∧ u (10 + sq.toNat) = x (10 + sq.toNat) ∧ nc u sq.toNat = nc x sq.toNat ∧ u 71 = x 71 := by
  have h1 := hS.1
  have e0 : u 0 = x 0 := hfr 0 (by decide) (by decide) (by omega)
  refine ⟨⟨by rw [e0]; exact h1, fun q hq2 => ?_⟩, e0, hfr _ (by omega) (by omega) (by omega), nc_of2 (hfr _ (by omega) (by omega) (by omega)), hfr 71 (by decide) (by decide) (by omega)⟩
  rw [e0] at hq2
  obtain ⟨f1, f2, f3⟩ := hS.2 q hq2
  refine ⟨f1, ?_, ?_⟩
  · rw [hfr (10 + q) (by omega) (by omega) (by omega)]; exact f2
  · rw [hfr (20 + q) (by omega) (by omega) (by omega)]; exact f3
/-- the one that the square came from is among them -/
def iIn (n m : Int) (C : List (Int → Int)) (W : Int → Int) (w z : Int) : Prop := (z = 0 ∨ z = 1) ∧ (6 < m → z = 1) ∧ ∀ v, 0 ≤ v → v < w → (∀ p, 0 ≤ p → p < n * n → GD C v p = W p) → z = 1
theorem iIn_0 {n m z : Int} {C : List (Int → Int)} {W : Int → Int} (h : (z = 1 ∧ 6 < m) ∨ (z = 0 ∧ m ≤ 6)) : iIn n m C W 0 z := ⟨by omega, fun _ => by omega, fun v a b => by omega⟩
theorem iIn_s {n m w z j : Int} {C : List (Int → Int)} {W : Int → Int} (h : iIn n m C W w z) (hj : (j = 1 ∨ j = 0) ∧ (z = 1 → j = 1) ∧ ((∀ p, 0 ≤ p → p < n * n → GD C w p = W p) → j = 1)) : iIn n m C W (w + 1) j := by
  refine ⟨by omega, fun q => hj.2.1 (h.2.1 q), fun v a b q => ?_⟩
  by_cases e : v = w
  · subst e; exact hj.2.2 q
  · exact hj.2.1 (h.2.2 v a (by omega) q)
theorem iIn_e {n m w z : Int} {C : List (Int → Int)} {W : Int → Int} (h : iIn n m C W w z) (hin : tk W (n * n) ∈ C) (hm : m = C.length) (he : m ≤ w ∨ 6 ≤ w) : z = 1 := by
  obtain ⟨v, v0, v1, v2⟩ := GD_of hin
  by_cases q : v < w
  · exact h.2.2 v v0 q (fun p a b => by rw [v2]; exact tk_in ⟨a, b⟩)
  · exact h.2.1 (by omega)
