section Zi2
variable {Γ : Gam} {g : Gl} {cc : ByteArray} {own : String} {nL k n F Lc kc ns pc : Nat} {x : Me} {lv : List (Nat × Value)} {st : List Value}
theorem z_srowsI (hO : Ok Γ g cc nL own F Lc kc ns) {j : Int} (hj : 0 ≤ j ∧ j < 38) (d : decode cc pc = .ok (.aaload, 1)) (kk : Zz Γ g nL k n x (pc + 1) lv (.ref (gA g (100 + j.toNat)) :: st)) : Zz Γ g nL k n x pc lv (.int (zi j) :: .ref (gA g 43) :: st) := by
  obtain ⟨m, rfl⟩ : ∃ m : Nat, j = m := ⟨j.toNat, by omega⟩
  exact z_srows hO (by omega) d kk
theorem z_figsI (hO : Ok Γ g cc nL own F Lc kc ns) {j : Int} (hj : 0 ≤ j ∧ j < 8) (d : decode cc pc = .ok (.aaload, 1)) (kk : Zz Γ g nL k n x (pc + 1) lv (.ref (gA g (10 + j.toNat)) :: st)) : Zz Γ g nL k n x pc lv (.int (zi j) :: .ref (gA g 1) :: st) := by
  obtain ⟨m, rfl⟩ : ∃ m : Nat, j = m := ⟨j.toNat, by omega⟩
  exact z_figs hO (by omega) d kk
end Zi2
/-! equations by remainders, as rows of 38 -/
def VM (x : Me) (a : Nat) (v : List Int) : Prop := v.length = 38 ∧ ∀ i : Int, 0 ≤ i → i < 38 → x a i = v.getD i.toNat 0 ∧ 0 ≤ v.getD i.toNat 0 ∧ v.getD i.toNat 0 < 1000003
def rdL (c k : List Int) (ld : Int) : List Int := if c.getD ld.toNat 0 = 0 then c else List.zipWith (fun a b => (a * k.getD ld.toNat 0 - b * c.getD ld.toNat 0) % 1000003) c k
def rdA (st : List (Int × List Int)) (c : List Int) : List Int := st.foldl (fun c q => rdL c q.2 q.1) c
def ldF : List Int → Int → Int
  | [], _ => -1
  | a :: l, i => if a ≠ 0 then i else ldF l (i + 1)
def adL (st : List (Int × List Int)) (c : List Int) : List (Int × List Int) := if ldF (rdA st c) 0 = -1 ∨ ¬ st.length < 38 then st else st ++ [(ldF (rdA st c) 0, rdA st c)]
theorem zw_at {f : Int → Int → Int} {a b : List Int} {i : Nat} (ha : i < a.length) (hb : i < b.length) : (List.zipWith f a b).getD i 0 = f (a.getD i 0) (b.getD i 0) := by
  rw [List.getD_eq_getElem?_getD, List.getD_eq_getElem?_getD, List.getD_eq_getElem?_getD, List.getElem?_zipWith, List.getElem?_eq_getElem ha, List.getElem?_eq_getElem hb]; rfl
theorem rdL_len {c k : List Int} {ld : Int} (hc : c.length = 38) (hk : k.length = 38) : (rdL c k ld).length = 38 := by
  unfold rdL; split
  · exact hc
  · rw [List.length_zipWith, hc, hk]; rfl
theorem rdL_at {c k : List Int} {ld : Int} (hc : c.length = 38) (hk : k.length = 38) (h0 : c.getD ld.toNat 0 ≠ 0) {i : Int} (h : 0 ≤ i ∧ i < 38) : (rdL c k ld).getD i.toNat 0 = (c.getD i.toNat 0 * k.getD ld.toNat 0 - k.getD i.toNat 0 * c.getD ld.toNat 0) % 1000003 := by
  unfold rdL
  rw [if_neg h0, zw_at (by omega) (by omega)]
theorem ldF_z {l : List Int} {b : Int} (h : ∀ i : Nat, i < l.length → l.getD i 0 = 0) : ldF l b = -1 := by
  induction l generalizing b with
  | nil => rfl
  | cons a l ih =>
    have h0 := h 0 (by simp)
    simp at h0
    rw [ldF, if_neg (by omega)]
    exact ih (fun i hi => by have := h (i + 1) (by simp; omega); simpa using this)
theorem ldF_at {l : List Int} {b : Int} {i : Nat} (hi : i < l.length) (h : ∀ j : Nat, j < i → l.getD j 0 = 0) (hn : l.getD i 0 ≠ 0) : ldF l b = b + i := by
  induction l generalizing b i with
  | nil => simp at hi
  | cons a l ih =>
    cases i with
    | zero => simp at hn; rw [ldF, if_pos hn]; simp
    | succ i =>
      have h0 := h 0 (by omega)
      simp at h0
      rw [ldF, if_neg (by omega), ih (i := i) (by simp at hi; omega) (fun j hj => by have := h (j + 1) (by omega); simpa using this) (by simpa using hn)]
      omega
def SP (x : Me) (st : List (Int × List Int)) : Prop := x 42 3 = st.length ∧ st.length ≤ 38 ∧ ∀ (k : Nat) (q : Int × List Int), st[k]? = some q → x 44 k = q.1 ∧ (0 ≤ q.1 ∧ q.1 < 38) ∧ VM x (100 + k) q.2
theorem VM_of {x y : Me} {a : Nat} {v : List Int} (h : VM x a v) (e : y a = x a) : VM y a v := ⟨h.1, fun i b c => by rw [e]; exact h.2 i b c⟩
theorem SP_of {x y : Me} {st : List (Int × List Int)} (h : SP x st) (h1 : y 42 3 = x 42 3) (h2 : y 44 = x 44) (h3 : ∀ k, k < 38 → y (100 + k) = x (100 + k)) : SP y st := by
  refine ⟨by rw [h1]; exact h.1, h.2.1, fun k q hk => ?_⟩
  have hl : k < st.length := (List.getElem?_eq_some_iff.mp hk).1
  have := h.2.2 k q hk
  have h38 := h.2.1
  exact ⟨by rw [h2]; exact this.1, this.2.1, VM_of this.2.2 (h3 k (by omega))⟩
theorem SP_add {x y : Me} {st : List (Int × List Int)} {c : List Int} {ld : Int} (h : SP x st) (hl : 0 ≤ ld ∧ ld < 38) (hs : st.length < 38) (h1 : y 42 3 = x 42 3 + 1) (h2 : ∀ k : Int, k ≠ x 42 3 → y 44 k = x 44 k) (h2a : y 44 (x 42 3) = ld) (h3 : ∀ k, k < 38 → k ≠ st.length → y (100 + k) = x (100 + k)) (h4 : VM y (100 + st.length) c) : SP y (st ++ [(ld, c)]) := by
  obtain ⟨s1, s2, s3⟩ := h
  refine ⟨by rw [h1, s1]; simp, by simp; omega, fun k q hk => ?_⟩
  by_cases e : k < st.length
  · rw [List.getElem?_append_left e] at hk
    have := s3 k q hk
    exact ⟨by rw [h2 k (by omega)]; exact this.1, this.2.1, VM_of this.2.2 (h3 k (by omega) (by omega))⟩
  · have hk2 : k < (st ++ [(ld, c)]).length := (List.getElem?_eq_some_iff.mp hk).1
    simp at hk2
    have e2 : k = st.length := by omega
    subst e2
    simp at hk
    subst hk
    exact ⟨by rw [s1] at h2a; exact h2a, hl, h4⟩
theorem SP_0 {x : Me} (h : x 42 3 = 0) : SP x [] := ⟨h, by simp, fun k q hk => by simp at hk⟩
theorem rdA_s {st : List (Int × List Int)} {c : List Int} {k : Nat} {q : Int × List Int} (hk : st[k]? = some q) : rdA (st.take (k + 1)) c = rdL (rdA (st.take k) c) q.2 q.1 := by
  obtain ⟨hl, e⟩ := List.getElem?_eq_some_iff.mp hk
  unfold rdA
  rw [List.take_succ, hk]
  simp [List.foldl_append]
theorem zr38 : (List.replicate 38 (0 : Int)).length = 38 := by simp
def bmp (v : List Int) (u t : Int) : List Int := v.set u.toNat (v.getD u.toNat 0 + t)
theorem bmp_len {v : List Int} {u t : Int} (h : v.length = 38) : (bmp v u t).length = 38 := by unfold bmp; rw [List.length_set, h]
theorem bmp_at {v : List Int} {u t i : Int} (h : v.length = 38) (hu : 0 ≤ u ∧ u < 38) (hi : 0 ≤ i) : (bmp v u t).getD i.toNat 0 = if i = u then v.getD u.toNat 0 + t else v.getD i.toNat 0 := by
  unfold bmp
  rw [List.getD_eq_getElem?_getD, List.getElem?_set]
  by_cases e : i = u
  · subst e; rw [if_pos rfl, if_pos (by omega), if_pos rfl]; rfl
  · rw [if_neg (by omega), if_neg e, List.getD_eq_getElem?_getD]
/-- a row in the making: small numbers -/
def VW (x : Me) (v : List Int) (b : Int) : Prop := v.length = 38 ∧ ∀ i : Int, 0 ≤ i → i < 38 → x 45 i = v.getD i.toNat 0 ∧ 0 ≤ v.getD i.toNat 0 ∧ v.getD i.toNat 0 ≤ b
theorem VW_up {x y : Me} {v : List Int} {b u t c : Int} (h : VW x v b) (hu : 0 ≤ u ∧ u < 38) (ht : 0 ≤ t) (hc : b + t ≤ c) (hy : y = up x 45 u (x 45 u + t)) : VW y (bmp v u t) c := by
  refine ⟨bmp_len h.1, fun i a d => ?_⟩
  rw [bmp_at h.1 hu a, hy]
  have h1 := h.2 i a d
  have h2 := h.2 u hu.1 hu.2
  by_cases e : i = u
  · subst e; rw [if_pos rfl, up_s]; omega
  · rw [if_neg e, up_n _ _ (by omega)]; omega
def lnA (n kind line : Int) : Nat → List Int
  | 0 => List.replicate 38 0
  | k + 1 => bmp (lnA n kind line k) (onl n kind line k) 1
theorem lnA_s (n kind line : Int) {i : Int} (h : 0 ≤ i) : lnA n kind line (i + 1).toNat = bmp (lnA n kind line i.toNat) (onl n kind line i) 1 := by
  have e : (i + 1).toNat = i.toNat + 1 := by omega
  rw [e, lnA, Int.toNat_of_nonneg h]
def lnR (n kind line : Int) : List Int := bmp (lnA n kind line n.toNat) 36 1000002
def opR (n p : Int) : List Int := bmp (bmp (bmp (List.replicate 38 0) p 1) (n * n - 1 - p) 1) 37 1000002
theorem adR_end {x y m1 m2 m3 : Me} {st : List (Int × List Int)} {c : List Int} {ld : Int} (hS : SP x st) (hy42 : y 42 3 = x 42 3) (hfr : ∀ a, a ≠ 45 → y a = x a) (hA : VM y 45 (rdA st c)) (hld : ld = ldF (rdA st c) 0) (hlr : -1 ≤ ld ∧ ld < 38) (hne : ld ≠ -1) (hr : y 42 3 < 38) (e1 : m1 = up y 44 (y 42 3) ld) (hcp : VM m2 (100 + (m1 42 3).toNat) (rdA st c)) (hcf : ∀ a, a ≠ 100 + (m1 42 3).toNat → m2 a = m1 a) (e3 : m3 = up m2 42 3 (m2 42 3 + 1)) : SP m3 (adL st c) ∧ m3 42 4 = x 42 4 ∧ ∀ a, a ≠ 42 → a ≠ 44 → a ≠ 45 → ¬ (100 ≤ a ∧ a < 138) → m3 a = x a := by
  have s1 := hS.1
  have h1 : m1 42 3 = st.length := by rw [e1, up_i _ _ _ (by omega), hy42, s1]
  have ht : (m1 42 3).toNat = st.length := by omega
  have hst : st.length < 38 := by omega
  rw [ht] at hcp hcf
  have h42 : m2 42 = y 42 := by rw [hcf 42 (by omega), e1, up_i _ _ _ (by omega)]
  have h44 : m3 44 = m1 44 := by rw [e3, up_i _ _ _ (by omega), hcf 44 (by omega)]
  refine ⟨?_, ?_, fun a a1 a2 a3 a4 => ?_⟩
  · unfold adL
    rw [if_neg (by rw [← hld]; omega), ← hld]
    refine SP_add hS (by omega) hst ?_ (fun k hk => ?_) ?_ (fun k hk hk2 => ?_) ?_
    · rw [e3, up_s, h42, hy42]
    · rw [h44, e1, up_n _ _ (by omega), hfr 44 (by omega)]
    · rw [h44, e1, hy42, up_s]
    · rw [e3, up_i _ _ _ (by omega), hcf _ (by omega), e1, up_i _ _ _ (by omega), hfr _ (by omega)]
    · exact VM_of hcp (by rw [e3, up_i _ _ _ (by omega)])
  · rw [e3, up_n _ _ (by omega), h42, hfr 42 (by omega)]
  · rw [e3, up_i _ _ _ a1, hcf a (by omega), e1, up_i _ _ _ a2, hfr a a3]
