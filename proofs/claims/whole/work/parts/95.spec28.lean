/-! the model's search, level by level -/
theorem uf_uf (f : Int → Int) (p a b : Int) : uf (uf f p a) p b = uf f p b := by
  funext q; unfold uf; split <;> rfl
theorem up_up (x : Me) (i : Nat) (j a b : Int) : up (up x i j a) i j b = up x i j b := by
  funext c d; unfold up; split <;> rfl
theorem WK_up {x : Me} {n p v : Int} {G : Int → Int} (h : WK x n G) (hv : 0 ≤ v ∧ v ≤ 999) : WK (up x 54 p v) n (uf G p v) := by
  obtain ⟨h1, h2, h3⟩ := h
  refine ⟨by rw [up_i _ _ _ (by omega)]; exact h1, fun r a b => ?_, fun r => ?_⟩
  · by_cases e : r = p
    · rw [e, up_s, uf_s]
    · rw [up_n _ _ (by omega), uf_n _ _ e]; exact h2 r a b
  · unfold uf; split
    · exact hv
    · exact h3 r
theorem WK_of {x y : Me} {n : Int} {G : Int → Int} (h : WK x n G) (e1 : y 50 5 = x 50 5) (e2 : y 54 = x 54) : WK y n G := ⟨by rw [e1]; exact h.1, fun p a b => by rw [e2]; exact h.2.1 p a b, h.2.2⟩
def Gk (G0 e t : Int → Int) : Nat → Int → Int
  | 0 => G0
  | k + 1 => uf (Gk G0 e t k) (e k) (t k)
theorem Gk_c {G0 e t t' : Int → Int} : ∀ k : Nat, (∀ j : Int, 0 ≤ j → j < k → t' j = t j) → Gk G0 e t' k = Gk G0 e t k
  | 0, _ => rfl
  | k + 1, h => by rw [Gk, Gk, Gk_c k (fun j a b => h j a (by omega)), h k (by omega) (by omega)]
theorem Gk_z {G0 e t : Int → Int} {E : Int} (hz : ∀ j, 0 ≤ j → j < E → G0 (e j) = 0) (hd : ∀ i j, 0 ≤ i → i < j → j < E → e i ≠ e j) : ∀ (k : Nat) (j : Int), (k : Int) ≤ j → j < E → Gk G0 e t k (e j) = 0
  | 0, j, a, b => hz j a b
  | k + 1, j, a, b => by
    rw [Gk, uf_n _ _ (fun q => hd k j (by omega) (by omega) b q.symm)]
    exact Gk_z hz hd k j (by omega) b
theorem Gk_r {G0 e t : Int → Int} {E : Int} (h0 : ∀ p, 0 ≤ G0 p ∧ G0 p ≤ 999) (ht : ∀ j, 0 ≤ j → j < E → 0 ≤ t j ∧ t j ≤ 999) : ∀ (k : Nat), (k : Int) ≤ E → ∀ p, 0 ≤ Gk G0 e t k p ∧ Gk G0 e t k p ≤ 999
  | 0, _, p => h0 p
  | k + 1, hk, p => by
    rw [Gk]; unfold uf; split
    · exact ht k (by omega) (by omega)
    · exact Gk_r h0 ht k (by omega) p
def vlt {α : Type} (F : Int → List α) (a : Nat) : Nat → List α
  | 0 => []
  | m + 1 => F ((a : Int) + 1) ++ vlt F (a + 1) m
theorem vlt_vls {α : Type} (F : Int → List α) : ∀ (m a : Nat), vls F (a + m) = vls F a ++ vlt F a m
  | 0, a => by rw [vlt, List.append_nil]; rfl
  | m + 1, a => by
    rw [vlt, show a + (m + 1) = (a + 1) + m by omega, vlt_vls F m (a + 1), vls, List.append_assoc]
theorem vlt_none {α : Type} {F : Int → List α} : ∀ (m a : Nat), (∀ u : Int, a < u → u ≤ a + m → F u = []) → vlt F a m = []
  | 0, _, _ => rfl
  | m + 1, a, h => by
    rw [vlt, h ((a : Int) + 1) (by omega) (by omega), List.nil_append]
    exact vlt_none m (a + 1) (fun u b c => h u (by omega) (by omega))
theorem vlt_skip {α : Type} {F : Int → List α} : ∀ (d a m : Nat), d < m → (∀ u : Int, a < u → u ≤ a + d → F u = []) → vlt F a m = F ((a + d + 1 : Nat) : Int) ++ vlt F (a + d + 1) (m - d - 1)
  | 0, a, m, hd, _ => by
    obtain ⟨k, rfl⟩ : ∃ k, m = k + 1 := ⟨m - 1, by omega⟩
    rw [vlt]; rfl
  | d + 1, a, m, hd, h => by
    obtain ⟨k, rfl⟩ : ∃ k, m = k + 1 := ⟨m - 1, by omega⟩
    rw [vlt, h ((a : Int) + 1) (by omega) (by omega), List.nil_append, vlt_skip d (a + 1) k (by omega) (fun u b c => h u (by omega) (by omega))]
    rw [show a + 1 + d + 1 = a + (d + 1) + 1 by omega, show k - d - 1 = k + 1 - (d + 1) - 1 by omega]
noncomputable def rmn (n : Int) (e : Int → Int) (E : Nat) (G0 t : Int → Int) : Nat → List (Int → Int)
  | 0 => []
  | k + 1 => vlt (FvL n e (E - 1 - k) k (Gk G0 e t k)) (t k).toNat ((n * n).toNat - (t k).toNat) ++ rmn n e E G0 t k
theorem rmn_c {n : Int} {e : Int → Int} {E : Nat} {G0 t t' : Int → Int} : ∀ k : Nat, (∀ j : Int, 0 ≤ j → j < k → t' j = t j) → rmn n e E G0 t' k = rmn n e E G0 t k
  | 0, _ => rfl
  | k + 1, h => by
    rw [rmn, rmn, rmn_c k (fun j a b => h j a (by omega)), Gk_c k (fun j a b => h j a (by omega)), h k (by omega) (by omega)]
/-- what stands behind the numbers of the stack -/
def SS (n : Int) (e : Int → Int) (E : Int) (G0 t : Int → Int) (L P : List (Int → Int)) (k : Int) : Prop :=
  (k = E ∧ L = P ++ (Gk G0 e t E.toNat :: rmn n e E.toNat G0 t E.toNat)) ∨ (k < E ∧ L = P ++ rmn n e E.toNat G0 t (k + 1).toNat)
theorem SS_0 {n E : Int} {e G0 : Int → Int} (hE : 0 ≤ E) : SS n e E G0 (fun _ => 0) (sols n e E.toNat 0 G0) [] 0 := by
  by_cases h : E = 0
  · subst h; left; exact ⟨rfl, rfl⟩
  · right
    refine ⟨by omega, ?_⟩
    obtain ⟨m, hm⟩ : ∃ m, E.toNat = m + 1 := ⟨E.toNat - 1, by omega⟩
    rw [hm, List.nil_append, show ((0 : Int) + 1).toNat = 0 + 1 from rfl, rmn, rmn, List.append_nil, sols_v]
    have h1 := vlt_vls (FvL n e m 0 G0) (n * n).toNat 0
    rw [Nat.zero_add] at h1
    rw [h1]; rfl
theorem SS_full {n E : Int} {e G0 t : Int → Int} {L P : List (Int → Int)} (hE : 0 ≤ E) (h : SS n e E G0 t L P E) : SS n e E G0 t L (P ++ [Gk G0 e t E.toNat]) (E - 1) := by
  rcases h with ⟨-, h⟩ | ⟨h, -⟩
  · right
    refine ⟨by omega, ?_⟩
    rw [h, show (E - 1 + 1).toNat = E.toNat by congr 1; omega]
    simp
  · omega
theorem SS_fail {n E k : Int} {e G0 t t' : Int → Int} {L P : List (Int → Int)} (hk : 0 ≤ k ∧ k < E) (ht : 0 ≤ t k) (htc : ∀ j, 0 ≤ j → j < k → t' j = t j) (h : SS n e E G0 t L P k) (hf : ∀ u, t k < u → u ≤ n * n → ¬ fit n (uf (Gk G0 e t k.toNat) (e k) u)) : SS n e E G0 t' L P (k - 1) := by
  rcases h with ⟨h, -⟩ | ⟨-, h⟩
  · omega
  · right
    refine ⟨by omega, ?_⟩
    obtain ⟨m, rfl⟩ : ∃ m : Nat, k = m := ⟨k.toNat, by omega⟩
    rw [h, show ((m : Int) - 1 + 1).toNat = m by omega, show ((m : Int) + 1).toNat = m + 1 by omega, rmn, rmn_c m (fun j a b => htc j a b)]
    rw [vlt_none _ _ (fun u a b => ?_), List.nil_append]
    unfold FvL
    exact ci_f (hf u (by omega) (by omega))
theorem SS_go {n E k v : Int} {e G0 t t' : Int → Int} {L P : List (Int → Int)} (hk : 0 ≤ k ∧ k < E) (ht : 0 ≤ t k) (hv : t k < v ∧ v ≤ n * n) (htc : ∀ j, 0 ≤ j → j < k → t' j = t j) (htk : t' k = v) (ht0 : k + 1 < E → t' (k + 1) = 0) (h : SS n e E G0 t L P k) (hfv : fit n (uf (Gk G0 e t k.toNat) (e k) v)) (hf : ∀ u, t k < u → u < v → ¬ fit n (uf (Gk G0 e t k.toNat) (e k) u)) : SS n e E G0 t' L P (k + 1) := by
  rcases h with ⟨h, -⟩ | ⟨-, h⟩
  · omega
  · obtain ⟨m, rfl⟩ : ∃ m : Nat, k = m := ⟨k.toNat, by omega⟩
    rw [Int.toNat_natCast] at hf hfv
    have hG : Gk G0 e t' m = Gk G0 e t m := Gk_c m (fun j a b => htc j a b)
    have hG1 : Gk G0 e t' (m + 1) = uf (Gk G0 e t m) (e m) v := by rw [Gk, hG, htk]
    have hR : rmn n e E.toNat G0 t (m + 1) = sols n e (E.toNat - 1 - m) (m + 1) (uf (Gk G0 e t m) (e m) v) ++ rmn n e E.toNat G0 t' (m + 1) := by
      rw [rmn, rmn, rmn_c m (fun j a b => htc j a b), hG, htk]
      have hs := vlt_skip (F := FvL n e (E.toNat - 1 - m) m (Gk G0 e t m)) (v.toNat - (t m).toNat - 1) (t m).toNat ((n * n).toNat - (t m).toNat) (by omega) (fun u a b => by unfold FvL; exact ci_f (hf u (by omega) (by omega)))
      rw [hs, show (t m).toNat + (v.toNat - (t m).toNat - 1) + 1 = v.toNat by omega, show (n * n).toNat - (t m).toNat - (v.toNat - (t m).toNat - 1) - 1 = (n * n).toNat - v.toNat by omega, List.append_assoc]
      congr 1
      rw [Int.toNat_of_nonneg (by omega)]
      unfold FvL
      exact ci_t hfv
    rw [show ((m : Int) + 1).toNat = m + 1 by omega, hR] at h
    by_cases hE : (m : Int) + 1 = E
    · left
      refine ⟨hE, ?_⟩
      have hEn : E.toNat = m + 1 := by omega
      rw [h, hEn, show m + 1 - 1 - m = 0 by omega, hG1]; rfl
    · right
      refine ⟨by omega, ?_⟩
      obtain ⟨r, hr⟩ : ∃ r, E.toNat - 1 - m = r + 1 := ⟨E.toNat - 2 - m, by omega⟩
      have h0 : t' ((m + 1 : Nat) : Int) = 0 := ht0 (by omega)
      rw [h, hr, show ((m : Int) + 1 + 1).toNat = (m + 1) + 1 by omega]
      have e1 : rmn n e E.toNat G0 t' (m + 1 + 1) = vlt (FvL n e (E.toNat - 1 - (m + 1)) ((m + 1 : Nat) : Int) (Gk G0 e t' (m + 1))) (t' ((m + 1 : Nat) : Int)).toNat ((n * n).toNat - (t' ((m + 1 : Nat) : Int)).toNat) ++ rmn n e E.toNat G0 t' (m + 1) := rfl
      rw [e1, h0, hG1, show E.toNat - 1 - (m + 1) = r by omega, sols_v]
      have h1 := vlt_vls (FvL n e r ((m + 1 : Nat) : Int) (uf (Gk G0 e t m) (e m) v)) (n * n).toNat 0
      rw [Nat.zero_add] at h1
      rw [show ((0 : Int)).toNat = 0 from rfl, Nat.sub_zero]
      show P ++ (vls (FvL n e r ((m : Int) + 1) (uf (Gk G0 e t m) (e m) v)) (n * n).toNat ++ _) = _
      rw [show ((m : Int) + 1) = ((m + 1 : Nat) : Int) by omega, h1]; rfl
def mMs (E : Nat) (t : Int → Int) : Nat → Nat
  | 0 => 0
  | k + 1 => mMs E t k + (18 - (t k).toNat) * 19 ^ (E - k)
theorem mMs_c {E : Nat} {t t' : Int → Int} : ∀ k : Nat, (∀ j : Int, 0 ≤ j → j < k → t' j = t j) → mMs E t' k = mMs E t k
  | 0, _ => rfl
  | k + 1, h => by rw [mMs, mMs, mMs_c k (fun j a b => h j a (by omega)), h k (by omega) (by omega)]
theorem mMs_fail {E k : Nat} {t t' : Int → Int} (ht : t k ≤ 16) (htc : ∀ j : Int, 0 ≤ j → j < k → t' j = t j) : mMs E t' k < mMs E t (k + 1) := by
  rw [mMs, mMs_c k htc]
  have h1 : 0 < (18 - (t k).toNat) * 19 ^ (E - k) := Nat.mul_pos (by omega) (Nat.pow_pos (by omega))
  omega
theorem mMs_go {E k : Nat} {t t' : Int → Int} {v : Int} (hk : k < E) (h0 : 0 ≤ t k) (hv : t k < v ∧ v ≤ 16) (htc : ∀ j : Int, 0 ≤ j → j < k → t' j = t j) (htk : t' k = v) : mMs E t' (k + 1) + 18 * 19 ^ (E - (k + 1)) < mMs E t (k + 1) := by
  rw [mMs, mMs, mMs_c k htc, htk]
  have e : 19 ^ (E - k) = 19 * 19 ^ (E - (k + 1)) := by rw [show E - k = (E - (k + 1)) + 1 by omega, Nat.pow_succ, Nat.mul_comm]
  have hp : 0 < 19 ^ (E - (k + 1)) := Nat.pow_pos (by omega)
  rw [e]
  generalize 19 ^ (E - (k + 1)) = B at hp ⊢
  have h2 : ((18 - v.toNat) + 1) * (19 * B) ≤ (18 - (t k).toNat) * (19 * B) := Nat.mul_le_mul_right _ (by omega)
  rw [Nat.add_mul] at h2
  omega
/-- the level's weight -/
def mMl (E : Int) (t : Int → Int) (k : Int) : Nat := mMs E.toNat t (min (k + 1) E).toNat + (if k = E then 1 else 0)
theorem mMl_full {E : Int} {t : Int → Int} (hE : 0 ≤ E) : mMl E t (E - 1) < mMl E t E := by
  unfold mMl
  rw [show min (E - 1 + 1) E = E by omega, show min (E + 1) E = E by omega, if_neg (by omega), if_pos rfl]; omega
theorem mMl_fail {E k : Int} {t t' : Int → Int} (hk : 0 ≤ k ∧ k < E) (ht : t k ≤ 16) (htc : ∀ j, 0 ≤ j → j < k → t' j = t j) : mMl E t' (k - 1) < mMl E t k := by
  obtain ⟨m, rfl⟩ : ∃ m : Nat, k = m := ⟨k.toNat, by omega⟩
  unfold mMl
  rw [if_neg (by omega), if_neg (by omega), show (min ((m : Int) - 1 + 1) E).toNat = m by omega, show (min ((m : Int) + 1) E).toNat = m + 1 by omega]
  have := mMs_fail (E := E.toNat) ht htc
  omega
theorem mMl_go {E k v : Int} {t t' : Int → Int} (hk : 0 ≤ k ∧ k < E) (h0 : 0 ≤ t k) (hv : t k < v ∧ v ≤ 16) (htc : ∀ j, 0 ≤ j → j < k → t' j = t j) (htk : t' k = v) (ht0 : k + 1 < E → t' (k + 1) = 0) : mMl E t' (k + 1) < mMl E t k := by
  obtain ⟨m, rfl⟩ : ∃ m : Nat, k = m := ⟨k.toNat, by omega⟩
  have h1 := mMs_go (E := E.toNat) (k := m) (by omega) h0 hv htc htk
  have hp : 0 < 19 ^ (E.toNat - (m + 1)) := Nat.pow_pos (by omega)
  unfold mMl
  rw [show (if (m : Int) = E then 1 else 0) = 0 from if_neg (by omega), show (min ((m : Int) + 1) E).toNat = m + 1 by omega]
  by_cases hE : (m : Int) + 1 = E
  · rw [if_pos hE, show (min ((m : Int) + 1 + 1) E).toNat = m + 1 by omega]; omega
  · rw [if_neg hE, show (min ((m : Int) + 1 + 1) E).toNat = m + 1 + 1 by omega]
    have e1 : mMs E.toNat t' (m + 1 + 1) = mMs E.toNat t' (m + 1) + (18 - (t' ((m + 1 : Nat) : Int)).toNat) * 19 ^ (E.toNat - (m + 1)) := rfl
    have h2 : t' ((m + 1 : Nat) : Int) = 0 := ht0 (by omega)
    rw [e1, h2]
    show mMs E.toNat t' (m + 1) + 18 * 19 ^ (E.toNat - (m + 1)) + 0 < _
    omega
def EH (n E : Int) (e G0 : Int → Int) : Prop := (1 ≤ n ∧ n ≤ 4) ∧ (0 ≤ E ∧ E ≤ 16) ∧ (∀ j, 0 ≤ j → j < E → 0 ≤ e j ∧ e j < n * n) ∧ (∀ j, 0 ≤ j → j < E → G0 (e j) = 0) ∧ (∀ i j, 0 ≤ i → i < j → j < E → e i ≠ e j) ∧ ∀ p, 0 ≤ G0 p ∧ G0 p ≤ 999
def SRI (x y : Me) (n E : Int) (e G0 : Int → Int) (most w k : Int) (t : Int → Int) (P : List (Int → Int)) : Prop :=
  (-1 ≤ k ∧ k ≤ E) ∧ (w = P.length ∧ (P.length : Int) ≤ most) ∧ SS n e E G0 t (sols n e E.toNat 0 G0) P k ∧ WK y n (Gk G0 e t (min (k + 1) E).toNat) ∧ (∀ j, 0 ≤ j → j ≤ k → j < E → y 56 j = t j) ∧ (∀ j, 0 ≤ j → j < E → 0 ≤ t j ∧ t j ≤ n * n) ∧ (1 ≤ w → ∀ p, 0 ≤ p → p < n * n → y 57 p = P.getD (w - 1).toNat (fun _ => 0) p) ∧ ∀ a, a ≠ 54 → a ≠ 56 → a ≠ 57 → y a = x a
theorem SRI_0 {x y : Me} {n E most : Int} {e G0 : Int → Int} (hE : EH n E e G0) (hK : WK x n G0) (hm : 0 ≤ most) (hy : y = up x 56 0 0) : SRI x y n E e G0 most 0 0 (fun _ => 0) [] := by
  obtain ⟨hn, hE1, he, hz, hd, hg⟩ := hE
  have hsq := (sq4 hn).1
  subst hy
  refine ⟨⟨by omega, hE1.1⟩, ⟨rfl, hm⟩, SS_0 hE1.1, ?_, fun j a b c => ?_, fun j a b => ⟨Int.le_refl _, (show (0 : Int) ≤ n * n by omega)⟩, fun h => by omega, fun a h1 h2 h3 => up_i _ _ _ h2⟩
  · have hg : Gk G0 e (fun _ => 0) (min ((0 : Int) + 1) E).toNat = G0 := by
      by_cases q : E = 0
      · rw [show (min ((0 : Int) + 1) E).toNat = 0 by omega]; rfl
      · rw [show (min ((0 : Int) + 1) E).toNat = 0 + 1 by omega, Gk]
        exact uf_0 (hz 0 (by omega) (by omega))
    rw [hg]
    exact WK_of hK (by rw [up_i _ _ _ (by omega)]) (up_i _ _ _ (by omega))
  · rw [show j = 0 by omega, up_s]
theorem gD_last {P : List (Int → Int)} {g : Int → Int} : (P ++ [g]).getD P.length (fun _ => 0) = g := by
  rw [List.getD_eq_getElem?_getD]; simp
theorem SRI_full {x y v : Me} {n E most w k : Int} {e G0 t : Int → Int} {P : List (Int → Int)} (hE : EH n E e G0) (hI : SRI x y n E e G0 most w k t P) (hk : k = E) (hw : w < most) (hv1 : ∀ p, 0 ≤ p → p < n * n → v 57 p = y 54 p) (hv2 : ∀ a, a ≠ 57 → v a = y a) : SRI x v n E e G0 most (w + 1) (k + (-1)) t (P ++ [Gk G0 e t E.toNat]) := by
  obtain ⟨hn, hE1, he, hz, hd, hg⟩ := hE
  obtain ⟨h0, hm, hS, hW, hT, htr, hF, hfr⟩ := hI
  subst hk
  rw [show min (k + 1) k = k by omega] at hW
  refine ⟨by omega, ⟨by simp; omega, by simp; omega⟩, ?_, ?_, fun j a b c => ?_, htr, fun _ p a b => ?_, fun a h1 h2 h3 => by rw [hv2 a h3]; exact hfr a h1 h2 h3⟩
  · rw [show k + -1 = k - 1 by omega]; exact SS_full hE1.1 hS
  · rw [show min (k + -1 + 1) k = k by omega]
    exact WK_of hW (by rw [hv2 50 (by omega)]) (hv2 54 (by omega))
  · rw [hv2 56 (by omega)]; exact hT j a (by omega) c
  · rw [hv1 p a b, hW.2.1 p a b, show (w + 1 - 1).toNat = P.length by omega, gD_last]
theorem Gk_s1 {G0 e t : Int → Int} {k : Int} (hk : 0 ≤ k) : Gk G0 e t (k + 1).toNat = uf (Gk G0 e t k.toNat) (e k) (t k) := by
  rw [show (k + 1).toNat = k.toNat + 1 by omega, Gk, Int.toNat_of_nonneg hk]
theorem SRI_go {x y m : Me} {n E most w k v : Int} {e G0 t : Int → Int} {P : List (Int → Int)} (hE : EH n E e G0) (hI : SRI x y n E e G0 most w k t P) (hk : 0 ≤ k ∧ k < E) (hv : t k < v ∧ v ≤ n * n) (hfv : fit n (uf (Gk G0 e t (k + 1).toNat) (e k) v)) (hfu : ∀ u, t k < u → u < v → ¬ fit n (uf (Gk G0 e t (k + 1).toNat) (e k) u)) (hm1 : m = up (up y 54 (e k) v) 56 k v) : (mMl E (uf (uf t k v) (k + 1) 0) (k + 1) < mMl E t k) ∧ (E ≤ k + 1 → SRI x m n E e G0 most w (k + 1) (uf (uf t k v) (k + 1) 0) P) ∧ (k + 1 < E → SRI x (up m 56 (k + 1) 0) n E e G0 most w (k + 1) (uf (uf t k v) (k + 1) 0) P) := by
  obtain ⟨hn, hE1, he, hz, hd, hg⟩ := id hE
  obtain ⟨h0, hm, hS, hW, hT, htr, hF, hfr⟩ := hI
  have hsq := sq4 hn
  have htk := htr k hk.1 hk.2
  rw [show min (k + 1) E = k + 1 by omega] at hW
  rw [Gk_s1 hk.1] at hfv hfu hW
  rw [uf_uf] at hfv
  have hfu2 : ∀ u, t k < u → u < v → ¬ fit n (uf (Gk G0 e t k.toNat) (e k) u) := fun u a b q => hfu u a b (by rw [uf_uf]; exact q)
  have c1 : ∀ j, 0 ≤ j → j < k → uf (uf t k v) (k + 1) 0 j = t j := fun j a b => by rw [uf_n _ _ (by omega), uf_n _ _ (by omega)]
  have c2 : uf (uf t k v) (k + 1) 0 k = v := by rw [uf_n _ _ (by omega), uf_s]
  have c3 : uf (uf t k v) (k + 1) 0 (k + 1) = 0 := uf_s _ _ _
  have hS2 := SS_go hk htk.1 hv c1 c2 (fun _ => c3) hS hfv hfu2
  have hG1 : Gk G0 e (uf (uf t k v) (k + 1) 0) (k + 1).toNat = uf (Gk G0 e t k.toNat) (e k) v := by
    rw [Gk_s1 hk.1, c2, Gk_c k.toNat (fun j a b => c1 j a (by omega))]
  have hWm : WK m n (uf (Gk G0 e t k.toNat) (e k) v) := by
    have := WK_up (p := e k) (v := v) hW (by omega)
    rw [uf_uf] at this
    rw [hm1]
    exact WK_of this (by rw [up_i _ _ _ (by omega)]) (up_i _ _ _ (by omega))
  have htr2 : ∀ j, 0 ≤ j → j < E → 0 ≤ uf (uf t k v) (k + 1) 0 j ∧ uf (uf t k v) (k + 1) 0 j ≤ n * n := fun j a b => by
    unfold uf; split
    · omega
    · split
      · omega
      · exact htr j a b
  have hTm : ∀ j, 0 ≤ j → j ≤ k → m 56 j = uf (uf t k v) (k + 1) 0 j := fun j a b => by
    rw [hm1]
    by_cases q : j = k
    · rw [q, up_s, c2]
    · rw [up_n _ _ (by omega), up_i _ _ _ (by omega), c1 j a (by omega)]
      exact hT j a (by omega) (by omega)
  have hm57 : m 57 = y 57 := by rw [hm1, up_i _ _ _ (by omega), up_i _ _ _ (by omega)]
  have hmf : ∀ a, a ≠ 54 → a ≠ 56 → a ≠ 57 → m a = x a := fun a h1 h2 h3 => by rw [hm1, up_i _ _ _ h2, up_i _ _ _ h1]; exact hfr a h1 h2 h3
  refine ⟨mMl_go hk htk.1 ⟨hv.1, by omega⟩ c1 c2 (fun _ => c3), fun q => ?_, fun q => ?_⟩
  · refine ⟨by omega, hm, hS2, ?_, fun j a b c => hTm j a (by omega), htr2, fun h p a b => by rw [hm57]; exact hF h p a b, hmf⟩
    rw [show min (k + 1 + 1) E = k + 1 by omega, hG1]; exact hWm
  · refine ⟨by omega, hm, hS2, ?_, fun j a b c => ?_, htr2, fun h p a b => by rw [up_i _ _ _ (by omega), hm57]; exact hF h p a b, fun a h1 h2 h3 => by rw [up_i _ _ _ h2]; exact hmf a h1 h2 h3⟩
    · rw [show min (k + 1 + 1) E = k + 1 + 1 by omega, Gk_s1 (by omega), c3, uf_0 (Gk_z hz hd _ _ (by omega) q), hG1]
      exact WK_of hWm (by rw [up_i _ _ _ (by omega)]) (up_i _ _ _ (by omega))
    · by_cases q2 : j = k + 1
      · rw [q2, up_s, c3]
      · rw [up_n _ _ (by omega)]; exact hTm j a (by omega)
theorem SRI_fail {x y m : Me} {n E most w k : Int} {e G0 t : Int → Int} {P : List (Int → Int)} (hE : EH n E e G0) (hI : SRI x y n E e G0 most w k t P) (hk : 0 ≤ k ∧ k < E) (hfu : ∀ u, t k < u → u ≤ n * n → ¬ fit n (uf (Gk G0 e t (k + 1).toNat) (e k) u)) (hm1 : m = up (up y 54 (e k) 0) 56 k 0) : mMl E t (k + (-1)) < mMl E t k ∧ SRI x m n E e G0 most w (k + (-1)) t P := by
  obtain ⟨hn, hE1, he, hz, hd, hg⟩ := id hE
  obtain ⟨h0, hm, hS, hW, hT, htr, hF, hfr⟩ := hI
  have hsq := sq4 hn
  have htk := htr k hk.1 hk.2
  rw [show min (k + 1) E = k + 1 by omega] at hW
  rw [Gk_s1 hk.1] at hfu hW
  rw [show k + -1 = k - 1 by omega]
  refine ⟨mMl_fail hk (by omega) (fun _ _ _ => rfl), by omega, hm, SS_fail hk htk.1 (fun _ _ _ => rfl) hS (fun u a b q => hfu u a b (by rw [uf_uf]; exact q)), ?_, fun j a b c => ?_, htr, fun h p a b => ?_, fun a h1 h2 h3 => ?_⟩
  · rw [show min (k - 1 + 1) E = k by omega]
    have h1 := WK_up (p := e k) (v := 0) hW (by omega)
    rw [uf_uf, uf_0 (Gk_z hz hd _ _ (by omega) hk.2)] at h1
    rw [hm1]
    exact WK_of h1 (by rw [up_i _ _ _ (by omega)]) (up_i _ _ _ (by omega))
  · rw [hm1, up_n _ _ (by omega), up_i _ _ _ (by omega)]; exact hT j a (by omega) c
  · rw [hm1, up_i _ _ _ (by omega), up_i _ _ _ (by omega)]; exact hF h p a b
  · rw [hm1, up_i _ _ _ h2, up_i _ _ _ h1]; exact hfr a h1 h2 h3
theorem SRI_end {x y : Me} {n E most w k : Int} {e G0 t : Int → Int} {P : List (Int → Int)} (hI : SRI x y n E e G0 most w k t P) (hk : k < 0 ∨ most ≤ w) (hE : 0 ≤ E) : w = min ((sols n e E.toNat 0 G0).length : Int) most ∧ (1 ≤ w → ∀ p, 0 ≤ p → p < n * n → y 57 p = (sols n e E.toNat 0 G0).getD (w - 1).toNat (fun _ => 0) p) := by
  obtain ⟨h0, hm, hS, hW, hT, htr, hF, hfr⟩ := hI
  obtain ⟨R, hR, hR0⟩ : ∃ R, sols n e E.toNat 0 G0 = P ++ R ∧ (k < 0 → R = []) := by
    rcases hS with ⟨a, b⟩ | ⟨a, b⟩
    · exact ⟨_, b, fun q => by omega⟩
    · exact ⟨_, b, fun q => by rw [show (k + 1).toNat = 0 by omega]; rfl⟩
  rw [hR]
  refine ⟨?_, fun h p a b => ?_⟩
  · rw [List.length_append]
    rcases hk with q | q
    · rw [hR0 q]; simp; omega
    · omega
  · rw [hF h p a b, gD_l (by omega)]
noncomputable def SLS (n E : Int) (e G0 : Int → Int) : List (Int → Int) := ci (fit n G0) (sols n e E.toNat 0 G0) []
def GOT (n : Int) (G : Int → Int) (p t k : Int) (x x' : Me) : Prop := ∃ v, (t < v ∧ v ≤ n * n) ∧ fit n (uf G p v) ∧ (∀ u, t < u → u < v → ¬ fit n (uf G p u)) ∧ x' = up (up x 54 p v) 56 k v
def GOF (n : Int) (G : Int → Int) (p t k : Int) (x x' : Me) : Prop := (∀ u, t < u → u ≤ n * n → ¬ fit n (uf G p u)) ∧ x' = up (up x 54 p 0) 56 k 0
