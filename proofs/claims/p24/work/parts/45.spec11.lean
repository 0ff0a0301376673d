noncomputable def CH (n : Int) (G : Int → Int) (p v : Int) : List Int := ci (fit n (uf G p v)) [v] []
noncomputable def chl (n : Int) (G : Int → Int) (p : Int) : List Int := vls (CH n G p) (n * n).toNat
theorem CH_out {x : Me} {n p : Int} {G : Int → Int} {lo hi : Int} (hb : ∀ v, (1 ≤ v ∧ fit n (uf G p v)) ↔ lo ≤ v ∧ v ≤ hi ∧ ((1 ≤ v ∧ v ≤ n * n) ∧ x 32 v = 0)) {v : Int} (hv : 1 ≤ v) (h : v < lo ∨ hi < v ∨ n * n < v ∨ x 32 v ≠ 0) : CH n G p v = [] := by
  unfold CH
  apply ci_f
  intro hf
  have := (hb v).mp ⟨hv, hf⟩
  omega
theorem CH_in {n p v : Int} {G : Int → Int} (h : fit n (uf G p v)) : CH n G p v = [v] := ci_t h
theorem ch_all {x : Me} {n p : Int} {G : Int → Int} {lo hi v : Int} (hn : 1 ≤ n * n) (hb : ∀ v, (1 ≤ v ∧ fit n (uf G p v)) ↔ lo ≤ v ∧ v ≤ hi ∧ ((1 ≤ v ∧ v ≤ n * n) ∧ x 32 v = 0)) (h1 : 1 ≤ v) (hv : hi < v) : vls (CH n G p) (v - 1).toNat = chl n G p := by
  unfold chl
  by_cases h : v - 1 ≤ n * n
  · exact (vls_none (by omega) (fun w a b => CH_out hb (by omega) (by omega))).symm
  · exact vls_none (by omega) (fun w a b => CH_out hb (by omega) (by omega))
theorem ch_lo {x : Me} {n p : Int} {G : Int → Int} {lo hi : Int} (hb : ∀ v, (1 ≤ v ∧ fit n (uf G p v)) ↔ lo ≤ v ∧ v ≤ hi ∧ ((1 ≤ v ∧ v ≤ n * n) ∧ x 32 v = 0)) (h1 : 1 ≤ lo) : vls (CH n G p) (lo - 1).toNat = [] :=
  vls_none (a := 0) (Nat.zero_le _) (fun w a b => CH_out hb (by omega) (by omega))
theorem ch_len {n p : Int} {G : Int → Int} : ∀ N : Nat, (vls (CH n G p) N).length ≤ N
  | 0 => by simp [vls]
  | N + 1 => by
    rw [vls, List.length_append]
    have := ch_len (n := n) (p := p) (G := G) N
    by_cases h : fit n (uf G p ((N : Int) + 1))
    · rw [CH_in h]; simp; omega
    · unfold CH; rw [ci_f h]; simp; unfold CH at this; omega
theorem ch_mem {n p v : Int} {G : Int → Int} : ∀ {N : Nat}, v ∈ vls (CH n G p) N → (1 ≤ v ∧ v ≤ N) ∧ fit n (uf G p v)
  | 0, h => by simp [vls] at h
  | N + 1, h => by
    rw [vls] at h
    rcases List.mem_append.mp h with h | h
    · have := ch_mem h; exact ⟨by omega, this.2⟩
    · by_cases hf : fit n (uf G p ((N : Int) + 1))
      · rw [CH_in hf] at h; simp at h; subst h; exact ⟨by omega, hf⟩
      · unfold CH at h; rw [ci_f hf] at h; simp at h
theorem gI_l {S R : List Int} {k : Nat} (h : k < S.length) : (S ++ R).getD k 0 = S.getD k 0 := by
  rw [List.getD_eq_getElem?_getD, List.getD_eq_getElem?_getD, List.getElem?_append_left h]
theorem gI_e {S R : List Int} {v : Int} : ((S ++ [v]) ++ R).getD S.length 0 = v := by
  rw [gI_l (by simp), List.getD_eq_getElem?_getD]; simp
theorem gI_m {S : List Int} {k : Nat} (h : k < S.length) : S.getD k 0 ∈ S := by
  rw [List.getD_eq_getElem?_getD, List.getElem?_eq_getElem h]; exact List.getElem_mem h
def wr (z : Int) : Int := (zl z).toInt
theorem wr_l (z : Int) : zl z = zl (wr z) := (zl_all _).symm
theorem wr_r (z : Int) : -9223372036854775808 ≤ wr z ∧ wr z < 9223372036854775808 := zl_rng _
noncomputable def esr (n : Int) (e : Int → Int) : Nat → Int → (Int → Int) → Int → Int → Int
  | 0, _, _, _, pr => pr
  | r + 1, k, G, s, pr => if 0 < pr then esr n e r (k + 1) (uf G (e k) ((chl n G (e k)).getD (((25173 * s + 13849) % 65536) % (chl n G (e k)).length).toNat 0)) ((25173 * s + 13849) % 65536) (wr (pr * (chl n G (e k)).length)) else pr
noncomputable def est (n : Int) (f : Int → Int) (s : Int) : Int := ci (fit n (tk f (n * n))) (esr n (eF (emp f (n * n).toNat)) (emp f (n * n).toNat).length 0 (tk f (n * n)) s 1) 0
theorem esr_0 {n : Int} {e : Int → Int} {r : Nat} {k s pr : Int} {G : Int → Int} (h : pr ≤ 0) : esr n e r k G s pr = pr := by
  cases r with
  | zero => rfl
  | succ r => rw [esr, if_neg (by omega)]
theorem wr_0 : wr 0 = 0 := by decide
theorem uf_0 {G : Int → Int} {p : Int} (h : G p = 0) : uf G p 0 = G := by
  funext a
  by_cases e : a = p
  · subst e; rw [uf_s, h]
  · rw [uf_n _ _ e]
