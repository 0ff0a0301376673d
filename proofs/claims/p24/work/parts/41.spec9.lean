def FS (x : Me) (n : Int) (e : Int → Int) (E : Int) (G : Int → Int) : Prop :=
  SB x n ∧ ST x n G ∧ GR n G ∧ (∀ p, 0 ≤ p → p < n * n → G p ≠ 0 → x 31 p = G p) ∧ x 30 6 = E ∧ ∀ j : Int, 0 ≤ j → j < E → x 36 j = e j
def EL (n : Int) (e : Int → Int) (E k : Int) (G : Int → Int) : Prop :=
  (0 ≤ k ∧ k ≤ E ∧ E ≤ 16) ∧ (∀ j, 0 ≤ j → j < E → 0 ≤ e j ∧ e j < n * n) ∧ (∀ i j, 0 ≤ i → i < j → j < E → e i ≠ e j) ∧ (∀ j, k ≤ j → j < E → G (e j) = 0) ∧ ∀ p, 0 ≤ p → p < n * n → G p = 0 → ∃ j, k ≤ j ∧ j < E ∧ p = e j
theorem EL_s {n E k v : Int} {e G : Int → Int} (h : EL n e E k G) (hk : k < E) (hv : v ≠ 0) : EL n e E (k + 1) (uf G (e k) v) := by
  obtain ⟨h1, h2, h3, h4, h5⟩ := h
  refine ⟨by omega, h2, h3, fun j a b => ?_, fun p a b c => ?_⟩
  · rw [uf_n _ _ (fun q => h3 k j (by omega) (by omega) b q.symm)]; exact h4 j (by omega) b
  · by_cases hp : p = e k
    · subst hp; rw [uf_s] at c; exact absurd c hv
    · rw [uf_n _ _ hp] at c
      obtain ⟨j, q1, q2, q3⟩ := h5 p a b c
      exact ⟨j, by by_cases q : j = k; (subst q; exact absurd q3 hp); omega, q2, q3⟩
/-- where the search stands behind a list of completions: the one that is wanted was among them, or they are counted -/
def S9 (x x' : Me) (S : List (Int → Int)) : Prop :=
  ((0 ≤ x 30 10 - x 30 12 ∧ x 30 10 - x 30 12 < S.length) ∧ x' 30 13 = (S.getD (x 30 10 - x 30 12).toNat (fun _ => 0)) (x 30 11) ∧ 1 ≤ x' 30 13 ∧ x' 30 13 ≤ 16) ∨
  (¬ (0 ≤ x 30 10 - x 30 12 ∧ x 30 10 - x 30 12 < S.length) ∧ x' 30 13 = -1 ∧ x' 30 12 = x 30 12 + S.length)
theorem gD_l {S R : List (Int → Int)} {k : Nat} (h : k < S.length) : (S ++ R).getD k (fun _ => 0) = S.getD k (fun _ => 0) := by
  rw [List.getD_eq_getElem?_getD, List.getD_eq_getElem?_getD, List.getElem?_append_left h]
theorem gD_r {S R : List (Int → Int)} {k : Nat} (h : S.length ≤ k) : (S ++ R).getD k (fun _ => 0) = R.getD (k - S.length) (fun _ => 0) := by
  rw [List.getD_eq_getElem?_getD, List.getD_eq_getElem?_getD, List.getElem?_append_right h]
theorem S9_0 {x : Me} (h : x 30 13 = -1) : S9 x x [] := Or.inr ⟨by simp only [List.length_nil]; omega, h, by simp⟩
theorem S9_app {x y : Me} {S R : List (Int → Int)} (h : S9 x y S) (h1 : y 30 13 ≠ -1) : S9 x y (S ++ R) := by
  rcases h with ⟨a, b, c⟩ | ⟨a, b, c⟩
  · left
    refine ⟨⟨a.1, by rw [List.length_append]; omega⟩, ?_, c⟩
    rw [gD_l (by omega)]; exact b
  · exact absurd b h1
theorem S9_cat {x y y1 y2 y3 : Me} {S R : List (Int → Int)} (h : S9 x y S) (h0 : y 30 13 = -1) (hk : ∀ b, b = 10 ∨ b = 11 → y 30 b = x 30 b) (h1 : y1 30 = y 30) (h2 : S9 y1 y2 R) (h3 : y3 30 = y2 30) : S9 x y3 (S ++ R) := by
  have e10 := hk 10 (Or.inl rfl)
  have e11 := hk 11 (Or.inr rfl)
  unfold S9 at h2 ⊢
  rw [h1, e10, e11] at h2
  rw [h3, List.length_append]
  rcases h with ⟨a, b, c⟩ | ⟨a, b, c⟩
  · omega
  · rw [c] at h2
    rcases h2 with ⟨a2, b2, c2⟩ | ⟨a2, b2, c2⟩
    · left
      refine ⟨by omega, ?_, c2⟩
      rw [b2, gD_r (by omega), show (x 30 10 - x 30 12).toNat - S.length = (x 30 10 - (x 30 12 + S.length)).toNat by omega]
    · right
      refine ⟨by omega, b2, by omega⟩
theorem vls_pre {α : Type} (F : Int → List α) {a b : Nat} (h : a ≤ b) : ∃ R, vls F b = vls F a ++ R := by
  induction b with
  | zero => exact ⟨[], by rw [show a = 0 by omega]; simp⟩
  | succ b ih =>
    by_cases e : a = b + 1
    · exact ⟨[], by rw [e]; simp⟩
    · obtain ⟨R, hR⟩ := ih (by omega)
      exact ⟨R ++ F ((b : Int) + 1), by rw [vls, hR, List.append_assoc]⟩
noncomputable def FvL (n : Int) (e : Int → Int) (r : Nat) (k : Int) (G : Int → Int) (v : Int) : List (Int → Int) := ci (fit n (uf G (e k) v)) (sols n e r (k + 1) (uf G (e k) v)) []
theorem sols_v (n : Int) (e : Int → Int) (r : Nat) (k : Int) (G : Int → Int) : sols n e (r + 1) k G = vls (FvL n e r k G) (n * n).toNat := rfl
/-- the values outside the bounds add nothing -/
theorem FvL_out {x : Me} {n k : Int} {e G : Int → Int} {r : Nat} {lo hi : Int} (hb : ∀ v, (1 ≤ v ∧ fit n (uf G (e k) v)) ↔ lo ≤ v ∧ v ≤ hi ∧ ((1 ≤ v ∧ v ≤ n * n) ∧ x 32 v = 0)) {v : Int} (hv : 1 ≤ v) (h : v < lo ∨ hi < v ∨ n * n < v ∨ x 32 v ≠ 0) : FvL n e r k G v = [] := by
  unfold FvL
  apply ci_f
  intro hf
  have := (hb v).mp ⟨hv, hf⟩
  omega
theorem vls_all {x : Me} {n k : Int} {e G : Int → Int} {r : Nat} {lo hi v : Int} (hn : 1 ≤ n * n) (hb : ∀ v, (1 ≤ v ∧ fit n (uf G (e k) v)) ↔ lo ≤ v ∧ v ≤ hi ∧ ((1 ≤ v ∧ v ≤ n * n) ∧ x 32 v = 0)) (h1 : 1 ≤ v) (hv : hi < v) : vls (FvL n e r k G) (v - 1).toNat = sols n e (r + 1) k G := by
  rw [sols_v]
  by_cases h : v - 1 ≤ n * n
  · exact (vls_none (by omega) (fun w a b => FvL_out hb (by omega) (by omega))).symm
  · exact vls_none (by omega) (fun w a b => FvL_out hb (by omega) (by omega))
theorem vls_lo {x : Me} {n k : Int} {e G : Int → Int} {r : Nat} {lo hi : Int} (hb : ∀ v, (1 ≤ v ∧ fit n (uf G (e k) v)) ↔ lo ≤ v ∧ v ≤ hi ∧ ((1 ≤ v ∧ v ≤ n * n) ∧ x 32 v = 0)) (h1 : 1 ≤ lo) : vls (FvL n e r k G) (lo - 1).toNat = [] :=
  vls_none (a := 0) (Nat.zero_le _) (fun w a b => FvL_out hb (by omega) (by omega))
theorem FS_lay {y y1 : Me} {n E k v : Int} {e G : Int → Int} (h : FS y n e E G) (hk : 0 ≤ e k ∧ e k < n * n) (h0 : G (e k) = 0) (hv : 1 ≤ v ∧ v ≤ n * n) (hz : ST y1 n (uf G (e k) v) ∧ y1 31 (e k) = v ∧ (∀ r, r ≠ e k → y1 31 r = y 31 r) ∧ ∀ a, a ≠ 31 → a ≠ 32 → a ≠ 33 → a ≠ 34 → y1 a = y a) : FS y1 n e E (uf G (e k) v) := by
  obtain ⟨h1, h2, h3, h4, h5, h6⟩ := h
  obtain ⟨z1, z2, z3, z4⟩ := hz
  have e30 : y1 30 = y 30 := z4 30 (by omega) (by omega) (by omega) (by omega)
  refine ⟨SB_of h1 (by rw [e30]) (by rw [e30]) (z4 35 (by omega) (by omega) (by omega) (by omega)), z1, fun p a b => ?_, fun p a b c => ?_, by rw [e30]; exact h5, fun j a b => by rw [z4 36 (by omega) (by omega) (by omega) (by omega)]; exact h6 j a b⟩
  · by_cases q : p = e k
    · subst q; rw [uf_s]; omega
    · rw [uf_n _ _ q]; exact h3 p a b
  · by_cases q : p = e k
    · subst q; rw [uf_s]; exact z2
    · rw [uf_n _ _ q] at c ⊢; rw [z3 p q]; exact h4 p a b c
theorem FS_lift {y2 y3 : Me} {n E k v : Int} {e G : Int → Int} (h : FS y2 n e E (uf G (e k) v)) (hG : GR n G) (h0 : G (e k) = 0) (hz : ST y3 n G ∧ ∀ a, a ≠ 32 → a ≠ 33 → a ≠ 34 → y3 a = y2 a) : FS y3 n e E G := by
  obtain ⟨h1, h2, h3, h4, h5, h6⟩ := h
  obtain ⟨z1, z4⟩ := hz
  have e30 : y3 30 = y2 30 := z4 30 (by omega) (by omega) (by omega)
  refine ⟨SB_of h1 (by rw [e30]) (by rw [e30]) (z4 35 (by omega) (by omega) (by omega)), z1, hG, fun p a b c => ?_, by rw [e30]; exact h5, fun j a b => by rw [z4 36 (by omega) (by omega) (by omega)]; exact h6 j a b⟩
  rw [z4 31 (by omega) (by omega) (by omega)]
  have q : p ≠ e k := fun q => by subst q; exact c h0
  have := h4 p a b (by rw [uf_n _ _ q]; exact c)
  rw [uf_n _ _ q] at this; exact this
theorem FS_of {x y : Me} {n E : Int} {e G : Int → Int} (h : FS x n e E G) (h1 : ∀ b, b ≠ 10 → b ≠ 11 → b ≠ 12 → b ≠ 13 → y 30 b = x 30 b) (h2 : ∀ a, a ≠ 30 → y a = x a) : FS y n e E G := by
  obtain ⟨a1, a2, a3, a4, a5, a6⟩ := h
  exact ⟨SB_of a1 (h1 7 (by omega) (by omega) (by omega) (by omega)) (h1 8 (by omega) (by omega) (by omega) (by omega)) (h2 35 (by omega)), ST_of a2 (h2 32 (by omega)) (h2 33 (by omega)) (h2 34 (by omega)), a3, fun p a b c => by rw [h2 31 (by omega)]; exact a4 p a b c, by rw [h1 6 (by omega) (by omega) (by omega) (by omega)]; exact a5, fun j a b => by rw [h2 36 (by omega)]; exact a6 j a b⟩
noncomputable def mtM (x : Me) : Me := if x 30 12 = x 30 10 ∧ 0 ≤ x 30 11 ∧ x 30 11 < 16 then up (up x 30 13 (x 31 (x 30 11))) 30 12 (x 30 12 + 1) else up x 30 12 (x 30 12 + 1)
theorem mt_9 {x x' : Me} {n E k : Int} {e G : Int → Int} {r : Nat} (hF : FS x n e E G) (hE : EL n e E k G) (hrk : k + r = E) (hk : E ≤ k) (h13 : x 30 13 = -1) (h11 : 0 ≤ x 30 11 ∧ x 30 11 < n * n) (h : x' = mtM x) : FS x' n e E G ∧ S9 x x' (sols n e r k G) ∧ (∀ b, b ≠ 12 → b ≠ 13 → x' 30 b = x 30 b) ∧ ∀ a, a < 30 ∨ 34 < a → x' a = x a := by
  have hr0 : r = 0 := by omega
  have hkE : k = E := by omega
  subst hr0 hkE
  rw [show sols n e 0 k G = [G] from rfl]
  have h4 := sq4 hF.1.1
  have hG0 : G (x 30 11) ≠ 0 := fun q => by
    obtain ⟨j, a, b, -⟩ := hE.2.2.2.2 _ h11.1 h11.2 q
    omega
  have hGr := hF.2.2.1 _ h11.1 h11.2
  have hnm := hF.2.2.2.1 _ h11.1 h11.2 hG0
  have hb : ∀ b, b ≠ 12 → b ≠ 13 → x' 30 b = x 30 b := fun b b1 b2 => by
    rw [h]; unfold mtM; split
    · rw [up_n _ _ (by omega), up_n _ _ (by omega)]
    · rw [up_n _ _ (by omega)]
  have ha : ∀ a, a ≠ 30 → x' a = x a := fun a a1 => by
    rw [h]; unfold mtM; split
    · rw [up_i _ _ _ a1, up_i _ _ _ a1]
    · rw [up_i _ _ _ a1]
  refine ⟨FS_of hF (fun b _ _ b3 b4 => hb b b3 b4) ha, ?_, hb, fun a a1 => ha a (by omega)⟩
  by_cases hw : x 30 12 = x 30 10
  · left
    have e13 : x' 30 13 = G (x 30 11) := by rw [h]; unfold mtM; rw [if_pos (by omega), up_n _ _ (by omega), up_s, hnm]
    refine ⟨by simp; omega, ?_, by omega⟩
    rw [e13, show (x 30 10 - x 30 12).toNat = 0 by omega]; rfl
  · right
    refine ⟨by simp; omega, ?_, ?_⟩
    · rw [h]; unfold mtM; rw [if_neg (by omega), up_n _ _ (by omega)]; exact h13
    · rw [h]; unfold mtM; rw [if_neg (by omega), up_s]; rfl
