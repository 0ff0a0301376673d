def onbs (n l p : Int) : Int → Int := fun v => if onb n l p = true then v else 0
theorem lsm_b (n l : Int) (g : Int → Int) : lsm n g l = sm (fun p => onbs n l p (g p)) (n * n).toNat := by
  unfold lsm
  refine sm_congr (fun k _ _ => ?_)
  unfold onbs
  by_cases h : ono n l k
  · rw [ci_t h, if_pos (onb_iff.mpr h)]
  · rw [ci_f h, if_neg (fun q => h (onb_iff.mp q))]
theorem onbs_t {n l p : Int} (v : Int) (h : onb n l p = true) : onbs n l p v = v := if_pos h
theorem onbs_f {n l p : Int} (v : Int) (h : onb n l p = false) : onbs n l p v = 0 := if_neg (by rw [h]; decide)
theorem mv_at {n ch b p q : Int} {f : Int → Int} (hp : 0 ≤ p ∧ p < n * n) (e : ahd n ch b p = q) : mvf n f ch b p = f q := by
  unfold mvf; rw [if_pos hp, e]
theorem cp_at {n b p : Int} {f : Int → Int} (hp : 0 ≤ p ∧ p < n * n) (h : f p ≠ 0) : cpf n f b p = b - f p := by
  unfold cpf; rw [if_pos hp, if_neg h]
def okS (n ch b : Int) : Bool := (List.range (n * n).toNat).all (fun p => decide (0 ≤ ahd n ch b (p : Nat) ∧ ahd n ch b (p : Nat) < n * n) && (List.range (n * n).toNat).all (fun r => decide (p = r) || decide (ahd n ch b (p : Nat) ≠ ahd n ch b (r : Nat))))
theorem okS_r {n ch b : Int} (h : okS n ch b = true) : (∀ p, 0 ≤ p → p < n * n → 0 ≤ ahd n ch b p ∧ ahd n ch b p < n * n) ∧ ∀ p, 0 ≤ p → p < n * n → ∀ r, 0 ≤ r → r < n * n → p ≠ r → ahd n ch b p ≠ ahd n ch b r := by
  unfold okS at h
  have h1 := List.all_eq_true.mp h
  refine ⟨fun p a c => ?_, fun p a c r d e hne => ?_⟩
  · have h2 := h1 p.toNat (List.mem_range.mpr (by omega))
    rw [Bool.and_eq_true, Int.toNat_of_nonneg a] at h2
    exact of_decide_eq_true h2.1
  · have h2 := h1 p.toNat (List.mem_range.mpr (by omega))
    rw [Bool.and_eq_true, Int.toNat_of_nonneg a] at h2
    have h3 := List.all_eq_true.mp h2.2 r.toNat (List.mem_range.mpr (by omega))
    rw [Bool.or_eq_true, Int.toNat_of_nonneg d] at h3
    rcases h3 with h3 | h3
    · have := of_decide_eq_true h3; omega
    · exact of_decide_eq_true h3
theorem rt_mv {n ch b : Int} {f : Int → Int} (hR : Rt n f) (ho : okS n ch b = true) (hl : lOk n (mvf n f ch b)) : Rt n (mvf n f ch b) := by
  obtain ⟨h0, ⟨h1, h2⟩, -⟩ := hR
  obtain ⟨o1, o2⟩ := okS_r ho
  refine ⟨h0, ⟨fun p a c => ?_, fun p a c r d e hne => ?_⟩, hl⟩
  · rw [mv_at ⟨a, c⟩ rfl]; exact h1 _ (o1 p a c).1 (o1 p a c).2
  · rw [mv_at ⟨a, c⟩ rfl, mv_at ⟨d, e⟩ rfl]
    exact h2 _ (o1 p a c).1 (o1 p a c).2 _ (o1 r d e).1 (o1 r d e).2 (o2 p a c r d e hne)
theorem rt_cp {n : Int} {f : Int → Int} (hR : Rt n f) (hl : lOk n (cpf n f (n * n + 1))) : Rt n (cpf n f (n * n + 1)) := by
  obtain ⟨h0, ⟨h1, h2⟩, -⟩ := hR
  have hc : ∀ p, 0 ≤ p → p < n * n → cpf n f (n * n + 1) p = n * n + 1 - f p := fun p a c => cp_at ⟨a, c⟩ (by have := h1 p a c; omega)
  refine ⟨h0, ⟨fun p a c => ?_, fun p a c r d e hne => ?_⟩, hl⟩
  · rw [hc p a c]; have := h1 p a c; omega
  · rw [hc p a c, hc r d e]; have := h2 p a c r d e hne; omega
theorem s3_r0 (f : Int → Int) : sS 3 f (3 * 0) (1) ↔ f 0 + f 1 + f 2 = 15 := by
  unfold sS
  rw [show sm (fun i => f (3 * 0 + i * (1))) (3 : Int).toNat = 0 + f 0 + f 1 + f 2 from rfl, show du 3 = 15 from rfl, Int.zero_add]
theorem s3_r1 (f : Int → Int) : sS 3 f (3 * 1) (1) ↔ f 3 + f 4 + f 5 = 15 := by
  unfold sS
  rw [show sm (fun i => f (3 * 1 + i * (1))) (3 : Int).toNat = 0 + f 3 + f 4 + f 5 from rfl, show du 3 = 15 from rfl, Int.zero_add]
theorem s3_r2 (f : Int → Int) : sS 3 f (3 * 2) (1) ↔ f 6 + f 7 + f 8 = 15 := by
  unfold sS
  rw [show sm (fun i => f (3 * 2 + i * (1))) (3 : Int).toNat = 0 + f 6 + f 7 + f 8 from rfl, show du 3 = 15 from rfl, Int.zero_add]
theorem s3_c0 (f : Int → Int) : sS 3 f (0) (3) ↔ f 0 + f 3 + f 6 = 15 := by
  unfold sS
  rw [show sm (fun i => f (0 + i * (3))) (3 : Int).toNat = 0 + f 0 + f 3 + f 6 from rfl, show du 3 = 15 from rfl, Int.zero_add]
theorem s3_c1 (f : Int → Int) : sS 3 f (1) (3) ↔ f 1 + f 4 + f 7 = 15 := by
  unfold sS
  rw [show sm (fun i => f (1 + i * (3))) (3 : Int).toNat = 0 + f 1 + f 4 + f 7 from rfl, show du 3 = 15 from rfl, Int.zero_add]
theorem s3_c2 (f : Int → Int) : sS 3 f (2) (3) ↔ f 2 + f 5 + f 8 = 15 := by
  unfold sS
  rw [show sm (fun i => f (2 + i * (3))) (3 : Int).toNat = 0 + f 2 + f 5 + f 8 from rfl, show du 3 = 15 from rfl, Int.zero_add]
theorem s3_d (f : Int → Int) : sS 3 f (0) (3 + 1) ↔ f 0 + f 4 + f 8 = 15 := by
  unfold sS
  rw [show sm (fun i => f (0 + i * (3 + 1))) (3 : Int).toNat = 0 + f 0 + f 4 + f 8 from rfl, show du 3 = 15 from rfl, Int.zero_add]
theorem s3_a (f : Int → Int) : sS 3 f (3 - 1) (3 - 1) ↔ f 2 + f 4 + f 6 = 15 := by
  unfold sS
  rw [show sm (fun i => f (3 - 1 + i * (3 - 1))) (3 : Int).toNat = 0 + f 2 + f 4 + f 6 from rfl, show du 3 = 15 from rfl, Int.zero_add]
theorem m3_0 (f : Int → Int) : lsm 3 f 0 = f 0 + f 1 + f 2 := by
  rw [lsm_b]
  have e : sm (fun p => onbs 3 0 p (f p)) (3 * 3 : Int).toNat = 0 + onbs 3 0 0 (f 0) + onbs 3 0 1 (f 1) + onbs 3 0 2 (f 2) + onbs 3 0 3 (f 3) + onbs 3 0 4 (f 4) + onbs 3 0 5 (f 5) + onbs 3 0 6 (f 6) + onbs 3 0 7 (f 7) + onbs 3 0 8 (f 8) := rfl
  rw [e, onbs_t (n := 3) (l := 0) (p := 0) _ (by decide), onbs_t (n := 3) (l := 0) (p := 1) _ (by decide), onbs_t (n := 3) (l := 0) (p := 2) _ (by decide), onbs_f (n := 3) (l := 0) (p := 3) _ (by decide), onbs_f (n := 3) (l := 0) (p := 4) _ (by decide), onbs_f (n := 3) (l := 0) (p := 5) _ (by decide), onbs_f (n := 3) (l := 0) (p := 6) _ (by decide), onbs_f (n := 3) (l := 0) (p := 7) _ (by decide), onbs_f (n := 3) (l := 0) (p := 8) _ (by decide)]
  omega
theorem m3_1 (f : Int → Int) : lsm 3 f 1 = f 3 + f 4 + f 5 := by
  rw [lsm_b]
  have e : sm (fun p => onbs 3 1 p (f p)) (3 * 3 : Int).toNat = 0 + onbs 3 1 0 (f 0) + onbs 3 1 1 (f 1) + onbs 3 1 2 (f 2) + onbs 3 1 3 (f 3) + onbs 3 1 4 (f 4) + onbs 3 1 5 (f 5) + onbs 3 1 6 (f 6) + onbs 3 1 7 (f 7) + onbs 3 1 8 (f 8) := rfl
  rw [e, onbs_f (n := 3) (l := 1) (p := 0) _ (by decide), onbs_f (n := 3) (l := 1) (p := 1) _ (by decide), onbs_f (n := 3) (l := 1) (p := 2) _ (by decide), onbs_t (n := 3) (l := 1) (p := 3) _ (by decide), onbs_t (n := 3) (l := 1) (p := 4) _ (by decide), onbs_t (n := 3) (l := 1) (p := 5) _ (by decide), onbs_f (n := 3) (l := 1) (p := 6) _ (by decide), onbs_f (n := 3) (l := 1) (p := 7) _ (by decide), onbs_f (n := 3) (l := 1) (p := 8) _ (by decide)]
  omega
theorem m3_2 (f : Int → Int) : lsm 3 f 2 = f 6 + f 7 + f 8 := by
  rw [lsm_b]
  have e : sm (fun p => onbs 3 2 p (f p)) (3 * 3 : Int).toNat = 0 + onbs 3 2 0 (f 0) + onbs 3 2 1 (f 1) + onbs 3 2 2 (f 2) + onbs 3 2 3 (f 3) + onbs 3 2 4 (f 4) + onbs 3 2 5 (f 5) + onbs 3 2 6 (f 6) + onbs 3 2 7 (f 7) + onbs 3 2 8 (f 8) := rfl
  rw [e, onbs_f (n := 3) (l := 2) (p := 0) _ (by decide), onbs_f (n := 3) (l := 2) (p := 1) _ (by decide), onbs_f (n := 3) (l := 2) (p := 2) _ (by decide), onbs_f (n := 3) (l := 2) (p := 3) _ (by decide), onbs_f (n := 3) (l := 2) (p := 4) _ (by decide), onbs_f (n := 3) (l := 2) (p := 5) _ (by decide), onbs_t (n := 3) (l := 2) (p := 6) _ (by decide), onbs_t (n := 3) (l := 2) (p := 7) _ (by decide), onbs_t (n := 3) (l := 2) (p := 8) _ (by decide)]
  omega
theorem m3_3 (f : Int → Int) : lsm 3 f 3 = f 0 + f 3 + f 6 := by
  rw [lsm_b]
  have e : sm (fun p => onbs 3 3 p (f p)) (3 * 3 : Int).toNat = 0 + onbs 3 3 0 (f 0) + onbs 3 3 1 (f 1) + onbs 3 3 2 (f 2) + onbs 3 3 3 (f 3) + onbs 3 3 4 (f 4) + onbs 3 3 5 (f 5) + onbs 3 3 6 (f 6) + onbs 3 3 7 (f 7) + onbs 3 3 8 (f 8) := rfl
  rw [e, onbs_t (n := 3) (l := 3) (p := 0) _ (by decide), onbs_f (n := 3) (l := 3) (p := 1) _ (by decide), onbs_f (n := 3) (l := 3) (p := 2) _ (by decide), onbs_t (n := 3) (l := 3) (p := 3) _ (by decide), onbs_f (n := 3) (l := 3) (p := 4) _ (by decide), onbs_f (n := 3) (l := 3) (p := 5) _ (by decide), onbs_t (n := 3) (l := 3) (p := 6) _ (by decide), onbs_f (n := 3) (l := 3) (p := 7) _ (by decide), onbs_f (n := 3) (l := 3) (p := 8) _ (by decide)]
  omega
theorem m3_4 (f : Int → Int) : lsm 3 f 4 = f 1 + f 4 + f 7 := by
  rw [lsm_b]
  have e : sm (fun p => onbs 3 4 p (f p)) (3 * 3 : Int).toNat = 0 + onbs 3 4 0 (f 0) + onbs 3 4 1 (f 1) + onbs 3 4 2 (f 2) + onbs 3 4 3 (f 3) + onbs 3 4 4 (f 4) + onbs 3 4 5 (f 5) + onbs 3 4 6 (f 6) + onbs 3 4 7 (f 7) + onbs 3 4 8 (f 8) := rfl
  rw [e, onbs_f (n := 3) (l := 4) (p := 0) _ (by decide), onbs_t (n := 3) (l := 4) (p := 1) _ (by decide), onbs_f (n := 3) (l := 4) (p := 2) _ (by decide), onbs_f (n := 3) (l := 4) (p := 3) _ (by decide), onbs_t (n := 3) (l := 4) (p := 4) _ (by decide), onbs_f (n := 3) (l := 4) (p := 5) _ (by decide), onbs_f (n := 3) (l := 4) (p := 6) _ (by decide), onbs_t (n := 3) (l := 4) (p := 7) _ (by decide), onbs_f (n := 3) (l := 4) (p := 8) _ (by decide)]
  omega
theorem m3_5 (f : Int → Int) : lsm 3 f 5 = f 2 + f 5 + f 8 := by
  rw [lsm_b]
  have e : sm (fun p => onbs 3 5 p (f p)) (3 * 3 : Int).toNat = 0 + onbs 3 5 0 (f 0) + onbs 3 5 1 (f 1) + onbs 3 5 2 (f 2) + onbs 3 5 3 (f 3) + onbs 3 5 4 (f 4) + onbs 3 5 5 (f 5) + onbs 3 5 6 (f 6) + onbs 3 5 7 (f 7) + onbs 3 5 8 (f 8) := rfl
  rw [e, onbs_f (n := 3) (l := 5) (p := 0) _ (by decide), onbs_f (n := 3) (l := 5) (p := 1) _ (by decide), onbs_t (n := 3) (l := 5) (p := 2) _ (by decide), onbs_f (n := 3) (l := 5) (p := 3) _ (by decide), onbs_f (n := 3) (l := 5) (p := 4) _ (by decide), onbs_t (n := 3) (l := 5) (p := 5) _ (by decide), onbs_f (n := 3) (l := 5) (p := 6) _ (by decide), onbs_f (n := 3) (l := 5) (p := 7) _ (by decide), onbs_t (n := 3) (l := 5) (p := 8) _ (by decide)]
  omega
theorem m3_6 (f : Int → Int) : lsm 3 f 6 = f 0 + f 4 + f 8 := by
  rw [lsm_b]
  have e : sm (fun p => onbs 3 6 p (f p)) (3 * 3 : Int).toNat = 0 + onbs 3 6 0 (f 0) + onbs 3 6 1 (f 1) + onbs 3 6 2 (f 2) + onbs 3 6 3 (f 3) + onbs 3 6 4 (f 4) + onbs 3 6 5 (f 5) + onbs 3 6 6 (f 6) + onbs 3 6 7 (f 7) + onbs 3 6 8 (f 8) := rfl
  rw [e, onbs_t (n := 3) (l := 6) (p := 0) _ (by decide), onbs_f (n := 3) (l := 6) (p := 1) _ (by decide), onbs_f (n := 3) (l := 6) (p := 2) _ (by decide), onbs_f (n := 3) (l := 6) (p := 3) _ (by decide), onbs_t (n := 3) (l := 6) (p := 4) _ (by decide), onbs_f (n := 3) (l := 6) (p := 5) _ (by decide), onbs_f (n := 3) (l := 6) (p := 6) _ (by decide), onbs_f (n := 3) (l := 6) (p := 7) _ (by decide), onbs_t (n := 3) (l := 6) (p := 8) _ (by decide)]
  omega
theorem m3_7 (f : Int → Int) : lsm 3 f 7 = f 2 + f 4 + f 6 := by
  rw [lsm_b]
  have e : sm (fun p => onbs 3 7 p (f p)) (3 * 3 : Int).toNat = 0 + onbs 3 7 0 (f 0) + onbs 3 7 1 (f 1) + onbs 3 7 2 (f 2) + onbs 3 7 3 (f 3) + onbs 3 7 4 (f 4) + onbs 3 7 5 (f 5) + onbs 3 7 6 (f 6) + onbs 3 7 7 (f 7) + onbs 3 7 8 (f 8) := rfl
  rw [e, onbs_f (n := 3) (l := 7) (p := 0) _ (by decide), onbs_f (n := 3) (l := 7) (p := 1) _ (by decide), onbs_t (n := 3) (l := 7) (p := 2) _ (by decide), onbs_f (n := 3) (l := 7) (p := 3) _ (by decide), onbs_t (n := 3) (l := 7) (p := 4) _ (by decide), onbs_f (n := 3) (l := 7) (p := 5) _ (by decide), onbs_t (n := 3) (l := 7) (p := 6) _ (by decide), onbs_f (n := 3) (l := 7) (p := 7) _ (by decide), onbs_f (n := 3) (l := 7) (p := 8) _ (by decide)]
  omega
def E3 (f : Int → Int) : Prop := f 0 + f 1 + f 2 = 15 ∧ f 3 + f 4 + f 5 = 15 ∧ f 6 + f 7 + f 8 = 15 ∧ f 0 + f 3 + f 6 = 15 ∧ f 1 + f 4 + f 7 = 15 ∧ f 2 + f 5 + f 8 = 15 ∧ f 0 + f 4 + f 8 = 15 ∧ f 2 + f 4 + f 6 = 15
theorem lo3 {f : Int → Int} : lOk 3 f ↔ E3 f := by
  unfold lOk E3
  constructor
  · rintro ⟨⟨h1, h2⟩, h3⟩
    rw [s3_d] at h1
    rw [s3_a] at h2
    have q0 := h3 0 (by decide) (by decide)
    rw [s3_r0, s3_c0] at q0
    have q1 := h3 1 (by decide) (by decide)
    rw [s3_r1, s3_c1] at q1
    have q2 := h3 2 (by decide) (by decide)
    rw [s3_r2, s3_c2] at q2
    omega
  · intro h
    refine ⟨⟨(s3_d f).mpr (by omega), (s3_a f).mpr (by omega)⟩, fun k a b => ?_⟩
    rcases (show k = 0 ∨ k = 1 ∨ k = 2 by omega) with rfl | rfl | rfl
    · exact ⟨(s3_r0 f).mpr (by omega), (s3_c0 f).mpr (by omega)⟩
    · exact ⟨(s3_r1 f).mpr (by omega), (s3_c1 f).mpr (by omega)⟩
    · exact ⟨(s3_r2 f).mpr (by omega), (s3_c2 f).mpr (by omega)⟩
theorem ls3 {f : Int → Int} : (∀ l, 0 ≤ l → l < 2 * 3 + 2 → lsm 3 f l = du 3) ↔ E3 f := by
  have hd : du 3 = 15 := rfl
  unfold E3
  constructor
  · intro h
    have q0 := h 0 (by decide) (by decide)
    rw [m3_0, hd] at q0
    have q1 := h 1 (by decide) (by decide)
    rw [m3_1, hd] at q1
    have q2 := h 2 (by decide) (by decide)
    rw [m3_2, hd] at q2
    have q3 := h 3 (by decide) (by decide)
    rw [m3_3, hd] at q3
    have q4 := h 4 (by decide) (by decide)
    rw [m3_4, hd] at q4
    have q5 := h 5 (by decide) (by decide)
    rw [m3_5, hd] at q5
    have q6 := h 6 (by decide) (by decide)
    rw [m3_6, hd] at q6
    have q7 := h 7 (by decide) (by decide)
    rw [m3_7, hd] at q7
    omega
  · intro h l a b
    rw [hd]
    rcases (show l = 0 ∨ l = 1 ∨ l = 2 ∨ l = 3 ∨ l = 4 ∨ l = 5 ∨ l = 6 ∨ l = 7 by omega) with rfl | rfl | rfl | rfl | rfl | rfl | rfl | rfl
    · rw [m3_0]; omega
    · rw [m3_1]; omega
    · rw [m3_2]; omega
    · rw [m3_3]; omega
    · rw [m3_4]; omega
    · rw [m3_5]; omega
    · rw [m3_6]; omega
    · rw [m3_7]; omega
theorem e3_0_0 {f : Int → Int} (h : E3 f) : E3 (mvf 3 f 0 0) := by
  unfold E3 at h ⊢
  rw [mv_at (n := 3) (ch := 0) (b := 0) (p := 0) (q := 0) (f := f) (by decide) (by decide), mv_at (n := 3) (ch := 0) (b := 0) (p := 1) (q := 1) (f := f) (by decide) (by decide), mv_at (n := 3) (ch := 0) (b := 0) (p := 2) (q := 2) (f := f) (by decide) (by decide), mv_at (n := 3) (ch := 0) (b := 0) (p := 3) (q := 3) (f := f) (by decide) (by decide), mv_at (n := 3) (ch := 0) (b := 0) (p := 4) (q := 4) (f := f) (by decide) (by decide), mv_at (n := 3) (ch := 0) (b := 0) (p := 5) (q := 5) (f := f) (by decide) (by decide), mv_at (n := 3) (ch := 0) (b := 0) (p := 6) (q := 6) (f := f) (by decide) (by decide), mv_at (n := 3) (ch := 0) (b := 0) (p := 7) (q := 7) (f := f) (by decide) (by decide), mv_at (n := 3) (ch := 0) (b := 0) (p := 8) (q := 8) (f := f) (by decide) (by decide)]
  omega
theorem o3_0_0 : okS 3 0 0 = true := by decide +kernel
theorem e3_0_1 {f : Int → Int} (h : E3 f) : E3 (mvf 3 f 0 1) := by
  unfold E3 at h ⊢
  rw [mv_at (n := 3) (ch := 0) (b := 1) (p := 0) (q := 6) (f := f) (by decide) (by decide), mv_at (n := 3) (ch := 0) (b := 1) (p := 1) (q := 3) (f := f) (by decide) (by decide), mv_at (n := 3) (ch := 0) (b := 1) (p := 2) (q := 0) (f := f) (by decide) (by decide), mv_at (n := 3) (ch := 0) (b := 1) (p := 3) (q := 7) (f := f) (by decide) (by decide), mv_at (n := 3) (ch := 0) (b := 1) (p := 4) (q := 4) (f := f) (by decide) (by decide), mv_at (n := 3) (ch := 0) (b := 1) (p := 5) (q := 1) (f := f) (by decide) (by decide), mv_at (n := 3) (ch := 0) (b := 1) (p := 6) (q := 8) (f := f) (by decide) (by decide), mv_at (n := 3) (ch := 0) (b := 1) (p := 7) (q := 5) (f := f) (by decide) (by decide), mv_at (n := 3) (ch := 0) (b := 1) (p := 8) (q := 2) (f := f) (by decide) (by decide)]
  omega
theorem o3_0_1 : okS 3 0 1 = true := by decide +kernel
theorem e3_0_2 {f : Int → Int} (h : E3 f) : E3 (mvf 3 f 0 2) := by
  unfold E3 at h ⊢
  rw [mv_at (n := 3) (ch := 0) (b := 2) (p := 0) (q := 8) (f := f) (by decide) (by decide), mv_at (n := 3) (ch := 0) (b := 2) (p := 1) (q := 7) (f := f) (by decide) (by decide), mv_at (n := 3) (ch := 0) (b := 2) (p := 2) (q := 6) (f := f) (by decide) (by decide), mv_at (n := 3) (ch := 0) (b := 2) (p := 3) (q := 5) (f := f) (by decide) (by decide), mv_at (n := 3) (ch := 0) (b := 2) (p := 4) (q := 4) (f := f) (by decide) (by decide), mv_at (n := 3) (ch := 0) (b := 2) (p := 5) (q := 3) (f := f) (by decide) (by decide), mv_at (n := 3) (ch := 0) (b := 2) (p := 6) (q := 2) (f := f) (by decide) (by decide), mv_at (n := 3) (ch := 0) (b := 2) (p := 7) (q := 1) (f := f) (by decide) (by decide), mv_at (n := 3) (ch := 0) (b := 2) (p := 8) (q := 0) (f := f) (by decide) (by decide)]
  omega
theorem o3_0_2 : okS 3 0 2 = true := by decide +kernel
theorem e3_0_3 {f : Int → Int} (h : E3 f) : E3 (mvf 3 f 0 3) := by
  unfold E3 at h ⊢
  rw [mv_at (n := 3) (ch := 0) (b := 3) (p := 0) (q := 2) (f := f) (by decide) (by decide), mv_at (n := 3) (ch := 0) (b := 3) (p := 1) (q := 5) (f := f) (by decide) (by decide), mv_at (n := 3) (ch := 0) (b := 3) (p := 2) (q := 8) (f := f) (by decide) (by decide), mv_at (n := 3) (ch := 0) (b := 3) (p := 3) (q := 1) (f := f) (by decide) (by decide), mv_at (n := 3) (ch := 0) (b := 3) (p := 4) (q := 4) (f := f) (by decide) (by decide), mv_at (n := 3) (ch := 0) (b := 3) (p := 5) (q := 7) (f := f) (by decide) (by decide), mv_at (n := 3) (ch := 0) (b := 3) (p := 6) (q := 0) (f := f) (by decide) (by decide), mv_at (n := 3) (ch := 0) (b := 3) (p := 7) (q := 3) (f := f) (by decide) (by decide), mv_at (n := 3) (ch := 0) (b := 3) (p := 8) (q := 6) (f := f) (by decide) (by decide)]
  omega
theorem o3_0_3 : okS 3 0 3 = true := by decide +kernel
theorem e3_1_0 {f : Int → Int} (h : E3 f) : E3 (mvf 3 f 1 0) := by
  unfold E3 at h ⊢
  rw [mv_at (n := 3) (ch := 1) (b := 0) (p := 0) (q := 0) (f := f) (by decide) (by decide), mv_at (n := 3) (ch := 1) (b := 0) (p := 1) (q := 1) (f := f) (by decide) (by decide), mv_at (n := 3) (ch := 1) (b := 0) (p := 2) (q := 2) (f := f) (by decide) (by decide), mv_at (n := 3) (ch := 1) (b := 0) (p := 3) (q := 3) (f := f) (by decide) (by decide), mv_at (n := 3) (ch := 1) (b := 0) (p := 4) (q := 4) (f := f) (by decide) (by decide), mv_at (n := 3) (ch := 1) (b := 0) (p := 5) (q := 5) (f := f) (by decide) (by decide), mv_at (n := 3) (ch := 1) (b := 0) (p := 6) (q := 6) (f := f) (by decide) (by decide), mv_at (n := 3) (ch := 1) (b := 0) (p := 7) (q := 7) (f := f) (by decide) (by decide), mv_at (n := 3) (ch := 1) (b := 0) (p := 8) (q := 8) (f := f) (by decide) (by decide)]
  omega
theorem o3_1_0 : okS 3 1 0 = true := by decide +kernel
theorem e3_1_1 {f : Int → Int} (h : E3 f) : E3 (mvf 3 f 1 1) := by
  unfold E3 at h ⊢
  rw [mv_at (n := 3) (ch := 1) (b := 1) (p := 0) (q := 2) (f := f) (by decide) (by decide), mv_at (n := 3) (ch := 1) (b := 1) (p := 1) (q := 1) (f := f) (by decide) (by decide), mv_at (n := 3) (ch := 1) (b := 1) (p := 2) (q := 0) (f := f) (by decide) (by decide), mv_at (n := 3) (ch := 1) (b := 1) (p := 3) (q := 5) (f := f) (by decide) (by decide), mv_at (n := 3) (ch := 1) (b := 1) (p := 4) (q := 4) (f := f) (by decide) (by decide), mv_at (n := 3) (ch := 1) (b := 1) (p := 5) (q := 3) (f := f) (by decide) (by decide), mv_at (n := 3) (ch := 1) (b := 1) (p := 6) (q := 8) (f := f) (by decide) (by decide), mv_at (n := 3) (ch := 1) (b := 1) (p := 7) (q := 7) (f := f) (by decide) (by decide), mv_at (n := 3) (ch := 1) (b := 1) (p := 8) (q := 6) (f := f) (by decide) (by decide)]
  omega
theorem o3_1_1 : okS 3 1 1 = true := by decide +kernel
theorem e3_2 {f : Int → Int} (hp : ∀ p, 0 ≤ p → p < 3 * 3 → 1 ≤ f p ∧ f p ≤ 3 * 3) (h : E3 f) : E3 (cpf 3 f (3 * 3 + 1)) := by
  have hz : ∀ p, 0 ≤ p → p < 3 * 3 → f p ≠ 0 := fun p a c => by have := hp p a c; omega
  unfold E3 at h ⊢
  rw [cp_at (n := 3) (p := 0) (f := f) (b := 3 * 3 + 1) (by decide) (hz 0 (by decide) (by decide)), cp_at (n := 3) (p := 1) (f := f) (b := 3 * 3 + 1) (by decide) (hz 1 (by decide) (by decide)), cp_at (n := 3) (p := 2) (f := f) (b := 3 * 3 + 1) (by decide) (hz 2 (by decide) (by decide)), cp_at (n := 3) (p := 3) (f := f) (b := 3 * 3 + 1) (by decide) (hz 3 (by decide) (by decide)), cp_at (n := 3) (p := 4) (f := f) (b := 3 * 3 + 1) (by decide) (hz 4 (by decide) (by decide)), cp_at (n := 3) (p := 5) (f := f) (b := 3 * 3 + 1) (by decide) (hz 5 (by decide) (by decide)), cp_at (n := 3) (p := 6) (f := f) (b := 3 * 3 + 1) (by decide) (hz 6 (by decide) (by decide)), cp_at (n := 3) (p := 7) (f := f) (b := 3 * 3 + 1) (by decide) (hz 7 (by decide) (by decide)), cp_at (n := 3) (p := 8) (f := f) (b := 3 * 3 + 1) (by decide) (hz 8 (by decide) (by decide))]
  omega
theorem s4_r0 (f : Int → Int) : sS 4 f (4 * 0) (1) ↔ f 0 + f 1 + f 2 + f 3 = 34 := by
  unfold sS
  rw [show sm (fun i => f (4 * 0 + i * (1))) (4 : Int).toNat = 0 + f 0 + f 1 + f 2 + f 3 from rfl, show du 4 = 34 from rfl, Int.zero_add]
theorem s4_r1 (f : Int → Int) : sS 4 f (4 * 1) (1) ↔ f 4 + f 5 + f 6 + f 7 = 34 := by
  unfold sS
  rw [show sm (fun i => f (4 * 1 + i * (1))) (4 : Int).toNat = 0 + f 4 + f 5 + f 6 + f 7 from rfl, show du 4 = 34 from rfl, Int.zero_add]
theorem s4_r2 (f : Int → Int) : sS 4 f (4 * 2) (1) ↔ f 8 + f 9 + f 10 + f 11 = 34 := by
  unfold sS
  rw [show sm (fun i => f (4 * 2 + i * (1))) (4 : Int).toNat = 0 + f 8 + f 9 + f 10 + f 11 from rfl, show du 4 = 34 from rfl, Int.zero_add]
theorem s4_r3 (f : Int → Int) : sS 4 f (4 * 3) (1) ↔ f 12 + f 13 + f 14 + f 15 = 34 := by
  unfold sS
  rw [show sm (fun i => f (4 * 3 + i * (1))) (4 : Int).toNat = 0 + f 12 + f 13 + f 14 + f 15 from rfl, show du 4 = 34 from rfl, Int.zero_add]
theorem s4_c0 (f : Int → Int) : sS 4 f (0) (4) ↔ f 0 + f 4 + f 8 + f 12 = 34 := by
  unfold sS
  rw [show sm (fun i => f (0 + i * (4))) (4 : Int).toNat = 0 + f 0 + f 4 + f 8 + f 12 from rfl, show du 4 = 34 from rfl, Int.zero_add]
theorem s4_c1 (f : Int → Int) : sS 4 f (1) (4) ↔ f 1 + f 5 + f 9 + f 13 = 34 := by
  unfold sS
  rw [show sm (fun i => f (1 + i * (4))) (4 : Int).toNat = 0 + f 1 + f 5 + f 9 + f 13 from rfl, show du 4 = 34 from rfl, Int.zero_add]
theorem s4_c2 (f : Int → Int) : sS 4 f (2) (4) ↔ f 2 + f 6 + f 10 + f 14 = 34 := by
  unfold sS
  rw [show sm (fun i => f (2 + i * (4))) (4 : Int).toNat = 0 + f 2 + f 6 + f 10 + f 14 from rfl, show du 4 = 34 from rfl, Int.zero_add]
theorem s4_c3 (f : Int → Int) : sS 4 f (3) (4) ↔ f 3 + f 7 + f 11 + f 15 = 34 := by
  unfold sS
  rw [show sm (fun i => f (3 + i * (4))) (4 : Int).toNat = 0 + f 3 + f 7 + f 11 + f 15 from rfl, show du 4 = 34 from rfl, Int.zero_add]
theorem s4_d (f : Int → Int) : sS 4 f (0) (4 + 1) ↔ f 0 + f 5 + f 10 + f 15 = 34 := by
  unfold sS
  rw [show sm (fun i => f (0 + i * (4 + 1))) (4 : Int).toNat = 0 + f 0 + f 5 + f 10 + f 15 from rfl, show du 4 = 34 from rfl, Int.zero_add]
theorem s4_a (f : Int → Int) : sS 4 f (4 - 1) (4 - 1) ↔ f 3 + f 6 + f 9 + f 12 = 34 := by
  unfold sS
  rw [show sm (fun i => f (4 - 1 + i * (4 - 1))) (4 : Int).toNat = 0 + f 3 + f 6 + f 9 + f 12 from rfl, show du 4 = 34 from rfl, Int.zero_add]
theorem m4_0 (f : Int → Int) : lsm 4 f 0 = f 0 + f 1 + f 2 + f 3 := by
  rw [lsm_b]
  have e : sm (fun p => onbs 4 0 p (f p)) (4 * 4 : Int).toNat = 0 + onbs 4 0 0 (f 0) + onbs 4 0 1 (f 1) + onbs 4 0 2 (f 2) + onbs 4 0 3 (f 3) + onbs 4 0 4 (f 4) + onbs 4 0 5 (f 5) + onbs 4 0 6 (f 6) + onbs 4 0 7 (f 7) + onbs 4 0 8 (f 8) + onbs 4 0 9 (f 9) + onbs 4 0 10 (f 10) + onbs 4 0 11 (f 11) + onbs 4 0 12 (f 12) + onbs 4 0 13 (f 13) + onbs 4 0 14 (f 14) + onbs 4 0 15 (f 15) := rfl
  rw [e, onbs_t (n := 4) (l := 0) (p := 0) _ (by decide), onbs_t (n := 4) (l := 0) (p := 1) _ (by decide), onbs_t (n := 4) (l := 0) (p := 2) _ (by decide), onbs_t (n := 4) (l := 0) (p := 3) _ (by decide), onbs_f (n := 4) (l := 0) (p := 4) _ (by decide), onbs_f (n := 4) (l := 0) (p := 5) _ (by decide), onbs_f (n := 4) (l := 0) (p := 6) _ (by decide), onbs_f (n := 4) (l := 0) (p := 7) _ (by decide), onbs_f (n := 4) (l := 0) (p := 8) _ (by decide), onbs_f (n := 4) (l := 0) (p := 9) _ (by decide), onbs_f (n := 4) (l := 0) (p := 10) _ (by decide), onbs_f (n := 4) (l := 0) (p := 11) _ (by decide), onbs_f (n := 4) (l := 0) (p := 12) _ (by decide), onbs_f (n := 4) (l := 0) (p := 13) _ (by decide), onbs_f (n := 4) (l := 0) (p := 14) _ (by decide), onbs_f (n := 4) (l := 0) (p := 15) _ (by decide)]
  omega
theorem m4_1 (f : Int → Int) : lsm 4 f 1 = f 4 + f 5 + f 6 + f 7 := by
  rw [lsm_b]
  have e : sm (fun p => onbs 4 1 p (f p)) (4 * 4 : Int).toNat = 0 + onbs 4 1 0 (f 0) + onbs 4 1 1 (f 1) + onbs 4 1 2 (f 2) + onbs 4 1 3 (f 3) + onbs 4 1 4 (f 4) + onbs 4 1 5 (f 5) + onbs 4 1 6 (f 6) + onbs 4 1 7 (f 7) + onbs 4 1 8 (f 8) + onbs 4 1 9 (f 9) + onbs 4 1 10 (f 10) + onbs 4 1 11 (f 11) + onbs 4 1 12 (f 12) + onbs 4 1 13 (f 13) + onbs 4 1 14 (f 14) + onbs 4 1 15 (f 15) := rfl
  rw [e, onbs_f (n := 4) (l := 1) (p := 0) _ (by decide), onbs_f (n := 4) (l := 1) (p := 1) _ (by decide), onbs_f (n := 4) (l := 1) (p := 2) _ (by decide), onbs_f (n := 4) (l := 1) (p := 3) _ (by decide), onbs_t (n := 4) (l := 1) (p := 4) _ (by decide), onbs_t (n := 4) (l := 1) (p := 5) _ (by decide), onbs_t (n := 4) (l := 1) (p := 6) _ (by decide), onbs_t (n := 4) (l := 1) (p := 7) _ (by decide), onbs_f (n := 4) (l := 1) (p := 8) _ (by decide), onbs_f (n := 4) (l := 1) (p := 9) _ (by decide), onbs_f (n := 4) (l := 1) (p := 10) _ (by decide), onbs_f (n := 4) (l := 1) (p := 11) _ (by decide), onbs_f (n := 4) (l := 1) (p := 12) _ (by decide), onbs_f (n := 4) (l := 1) (p := 13) _ (by decide), onbs_f (n := 4) (l := 1) (p := 14) _ (by decide), onbs_f (n := 4) (l := 1) (p := 15) _ (by decide)]
  omega
theorem m4_2 (f : Int → Int) : lsm 4 f 2 = f 8 + f 9 + f 10 + f 11 := by
  rw [lsm_b]
  have e : sm (fun p => onbs 4 2 p (f p)) (4 * 4 : Int).toNat = 0 + onbs 4 2 0 (f 0) + onbs 4 2 1 (f 1) + onbs 4 2 2 (f 2) + onbs 4 2 3 (f 3) + onbs 4 2 4 (f 4) + onbs 4 2 5 (f 5) + onbs 4 2 6 (f 6) + onbs 4 2 7 (f 7) + onbs 4 2 8 (f 8) + onbs 4 2 9 (f 9) + onbs 4 2 10 (f 10) + onbs 4 2 11 (f 11) + onbs 4 2 12 (f 12) + onbs 4 2 13 (f 13) + onbs 4 2 14 (f 14) + onbs 4 2 15 (f 15) := rfl
  rw [e, onbs_f (n := 4) (l := 2) (p := 0) _ (by decide), onbs_f (n := 4) (l := 2) (p := 1) _ (by decide), onbs_f (n := 4) (l := 2) (p := 2) _ (by decide), onbs_f (n := 4) (l := 2) (p := 3) _ (by decide), onbs_f (n := 4) (l := 2) (p := 4) _ (by decide), onbs_f (n := 4) (l := 2) (p := 5) _ (by decide), onbs_f (n := 4) (l := 2) (p := 6) _ (by decide), onbs_f (n := 4) (l := 2) (p := 7) _ (by decide), onbs_t (n := 4) (l := 2) (p := 8) _ (by decide), onbs_t (n := 4) (l := 2) (p := 9) _ (by decide), onbs_t (n := 4) (l := 2) (p := 10) _ (by decide), onbs_t (n := 4) (l := 2) (p := 11) _ (by decide), onbs_f (n := 4) (l := 2) (p := 12) _ (by decide), onbs_f (n := 4) (l := 2) (p := 13) _ (by decide), onbs_f (n := 4) (l := 2) (p := 14) _ (by decide), onbs_f (n := 4) (l := 2) (p := 15) _ (by decide)]
  omega
theorem m4_3 (f : Int → Int) : lsm 4 f 3 = f 12 + f 13 + f 14 + f 15 := by
  rw [lsm_b]
  have e : sm (fun p => onbs 4 3 p (f p)) (4 * 4 : Int).toNat = 0 + onbs 4 3 0 (f 0) + onbs 4 3 1 (f 1) + onbs 4 3 2 (f 2) + onbs 4 3 3 (f 3) + onbs 4 3 4 (f 4) + onbs 4 3 5 (f 5) + onbs 4 3 6 (f 6) + onbs 4 3 7 (f 7) + onbs 4 3 8 (f 8) + onbs 4 3 9 (f 9) + onbs 4 3 10 (f 10) + onbs 4 3 11 (f 11) + onbs 4 3 12 (f 12) + onbs 4 3 13 (f 13) + onbs 4 3 14 (f 14) + onbs 4 3 15 (f 15) := rfl
  rw [e, onbs_f (n := 4) (l := 3) (p := 0) _ (by decide), onbs_f (n := 4) (l := 3) (p := 1) _ (by decide), onbs_f (n := 4) (l := 3) (p := 2) _ (by decide), onbs_f (n := 4) (l := 3) (p := 3) _ (by decide), onbs_f (n := 4) (l := 3) (p := 4) _ (by decide), onbs_f (n := 4) (l := 3) (p := 5) _ (by decide), onbs_f (n := 4) (l := 3) (p := 6) _ (by decide), onbs_f (n := 4) (l := 3) (p := 7) _ (by decide), onbs_f (n := 4) (l := 3) (p := 8) _ (by decide), onbs_f (n := 4) (l := 3) (p := 9) _ (by decide), onbs_f (n := 4) (l := 3) (p := 10) _ (by decide), onbs_f (n := 4) (l := 3) (p := 11) _ (by decide), onbs_t (n := 4) (l := 3) (p := 12) _ (by decide), onbs_t (n := 4) (l := 3) (p := 13) _ (by decide), onbs_t (n := 4) (l := 3) (p := 14) _ (by decide), onbs_t (n := 4) (l := 3) (p := 15) _ (by decide)]
  omega
theorem m4_4 (f : Int → Int) : lsm 4 f 4 = f 0 + f 4 + f 8 + f 12 := by
  rw [lsm_b]
  have e : sm (fun p => onbs 4 4 p (f p)) (4 * 4 : Int).toNat = 0 + onbs 4 4 0 (f 0) + onbs 4 4 1 (f 1) + onbs 4 4 2 (f 2) + onbs 4 4 3 (f 3) + onbs 4 4 4 (f 4) + onbs 4 4 5 (f 5) + onbs 4 4 6 (f 6) + onbs 4 4 7 (f 7) + onbs 4 4 8 (f 8) + onbs 4 4 9 (f 9) + onbs 4 4 10 (f 10) + onbs 4 4 11 (f 11) + onbs 4 4 12 (f 12) + onbs 4 4 13 (f 13) + onbs 4 4 14 (f 14) + onbs 4 4 15 (f 15) := rfl
  rw [e, onbs_t (n := 4) (l := 4) (p := 0) _ (by decide), onbs_f (n := 4) (l := 4) (p := 1) _ (by decide), onbs_f (n := 4) (l := 4) (p := 2) _ (by decide), onbs_f (n := 4) (l := 4) (p := 3) _ (by decide), onbs_t (n := 4) (l := 4) (p := 4) _ (by decide), onbs_f (n := 4) (l := 4) (p := 5) _ (by decide), onbs_f (n := 4) (l := 4) (p := 6) _ (by decide), onbs_f (n := 4) (l := 4) (p := 7) _ (by decide), onbs_t (n := 4) (l := 4) (p := 8) _ (by decide), onbs_f (n := 4) (l := 4) (p := 9) _ (by decide), onbs_f (n := 4) (l := 4) (p := 10) _ (by decide), onbs_f (n := 4) (l := 4) (p := 11) _ (by decide), onbs_t (n := 4) (l := 4) (p := 12) _ (by decide), onbs_f (n := 4) (l := 4) (p := 13) _ (by decide), onbs_f (n := 4) (l := 4) (p := 14) _ (by decide), onbs_f (n := 4) (l := 4) (p := 15) _ (by decide)]
  omega
theorem m4_5 (f : Int → Int) : lsm 4 f 5 = f 1 + f 5 + f 9 + f 13 := by
  rw [lsm_b]
  have e : sm (fun p => onbs 4 5 p (f p)) (4 * 4 : Int).toNat = 0 + onbs 4 5 0 (f 0) + onbs 4 5 1 (f 1) + onbs 4 5 2 (f 2) + onbs 4 5 3 (f 3) + onbs 4 5 4 (f 4) + onbs 4 5 5 (f 5) + onbs 4 5 6 (f 6) + onbs 4 5 7 (f 7) + onbs 4 5 8 (f 8) + onbs 4 5 9 (f 9) + onbs 4 5 10 (f 10) + onbs 4 5 11 (f 11) + onbs 4 5 12 (f 12) + onbs 4 5 13 (f 13) + onbs 4 5 14 (f 14) + onbs 4 5 15 (f 15) := rfl
  rw [e, onbs_f (n := 4) (l := 5) (p := 0) _ (by decide), onbs_t (n := 4) (l := 5) (p := 1) _ (by decide), onbs_f (n := 4) (l := 5) (p := 2) _ (by decide), onbs_f (n := 4) (l := 5) (p := 3) _ (by decide), onbs_f (n := 4) (l := 5) (p := 4) _ (by decide), onbs_t (n := 4) (l := 5) (p := 5) _ (by decide), onbs_f (n := 4) (l := 5) (p := 6) _ (by decide), onbs_f (n := 4) (l := 5) (p := 7) _ (by decide), onbs_f (n := 4) (l := 5) (p := 8) _ (by decide), onbs_t (n := 4) (l := 5) (p := 9) _ (by decide), onbs_f (n := 4) (l := 5) (p := 10) _ (by decide), onbs_f (n := 4) (l := 5) (p := 11) _ (by decide), onbs_f (n := 4) (l := 5) (p := 12) _ (by decide), onbs_t (n := 4) (l := 5) (p := 13) _ (by decide), onbs_f (n := 4) (l := 5) (p := 14) _ (by decide), onbs_f (n := 4) (l := 5) (p := 15) _ (by decide)]
  omega
theorem m4_6 (f : Int → Int) : lsm 4 f 6 = f 2 + f 6 + f 10 + f 14 := by
  rw [lsm_b]
  have e : sm (fun p => onbs 4 6 p (f p)) (4 * 4 : Int).toNat = 0 + onbs 4 6 0 (f 0) + onbs 4 6 1 (f 1) + onbs 4 6 2 (f 2) + onbs 4 6 3 (f 3) + onbs 4 6 4 (f 4) + onbs 4 6 5 (f 5) + onbs 4 6 6 (f 6) + onbs 4 6 7 (f 7) + onbs 4 6 8 (f 8) + onbs 4 6 9 (f 9) + onbs 4 6 10 (f 10) + onbs 4 6 11 (f 11) + onbs 4 6 12 (f 12) + onbs 4 6 13 (f 13) + onbs 4 6 14 (f 14) + onbs 4 6 15 (f 15) := rfl
  rw [e, onbs_f (n := 4) (l := 6) (p := 0) _ (by decide), onbs_f (n := 4) (l := 6) (p := 1) _ (by decide), onbs_t (n := 4) (l := 6) (p := 2) _ (by decide), onbs_f (n := 4) (l := 6) (p := 3) _ (by decide), onbs_f (n := 4) (l := 6) (p := 4) _ (by decide), onbs_f (n := 4) (l := 6) (p := 5) _ (by decide), onbs_t (n := 4) (l := 6) (p := 6) _ (by decide), onbs_f (n := 4) (l := 6) (p := 7) _ (by decide), onbs_f (n := 4) (l := 6) (p := 8) _ (by decide), onbs_f (n := 4) (l := 6) (p := 9) _ (by decide), onbs_t (n := 4) (l := 6) (p := 10) _ (by decide), onbs_f (n := 4) (l := 6) (p := 11) _ (by decide), onbs_f (n := 4) (l := 6) (p := 12) _ (by decide), onbs_f (n := 4) (l := 6) (p := 13) _ (by decide), onbs_t (n := 4) (l := 6) (p := 14) _ (by decide), onbs_f (n := 4) (l := 6) (p := 15) _ (by decide)]
  omega
theorem m4_7 (f : Int → Int) : lsm 4 f 7 = f 3 + f 7 + f 11 + f 15 := by
  rw [lsm_b]
  have e : sm (fun p => onbs 4 7 p (f p)) (4 * 4 : Int).toNat = 0 + onbs 4 7 0 (f 0) + onbs 4 7 1 (f 1) + onbs 4 7 2 (f 2) + onbs 4 7 3 (f 3) + onbs 4 7 4 (f 4) + onbs 4 7 5 (f 5) + onbs 4 7 6 (f 6) + onbs 4 7 7 (f 7) + onbs 4 7 8 (f 8) + onbs 4 7 9 (f 9) + onbs 4 7 10 (f 10) + onbs 4 7 11 (f 11) + onbs 4 7 12 (f 12) + onbs 4 7 13 (f 13) + onbs 4 7 14 (f 14) + onbs 4 7 15 (f 15) := rfl
  rw [e, onbs_f (n := 4) (l := 7) (p := 0) _ (by decide), onbs_f (n := 4) (l := 7) (p := 1) _ (by decide), onbs_f (n := 4) (l := 7) (p := 2) _ (by decide), onbs_t (n := 4) (l := 7) (p := 3) _ (by decide), onbs_f (n := 4) (l := 7) (p := 4) _ (by decide), onbs_f (n := 4) (l := 7) (p := 5) _ (by decide), onbs_f (n := 4) (l := 7) (p := 6) _ (by decide), onbs_t (n := 4) (l := 7) (p := 7) _ (by decide), onbs_f (n := 4) (l := 7) (p := 8) _ (by decide), onbs_f (n := 4) (l := 7) (p := 9) _ (by decide), onbs_f (n := 4) (l := 7) (p := 10) _ (by decide), onbs_t (n := 4) (l := 7) (p := 11) _ (by decide), onbs_f (n := 4) (l := 7) (p := 12) _ (by decide), onbs_f (n := 4) (l := 7) (p := 13) _ (by decide), onbs_f (n := 4) (l := 7) (p := 14) _ (by decide), onbs_t (n := 4) (l := 7) (p := 15) _ (by decide)]
  omega
theorem m4_8 (f : Int → Int) : lsm 4 f 8 = f 0 + f 5 + f 10 + f 15 := by
  rw [lsm_b]
  have e : sm (fun p => onbs 4 8 p (f p)) (4 * 4 : Int).toNat = 0 + onbs 4 8 0 (f 0) + onbs 4 8 1 (f 1) + onbs 4 8 2 (f 2) + onbs 4 8 3 (f 3) + onbs 4 8 4 (f 4) + onbs 4 8 5 (f 5) + onbs 4 8 6 (f 6) + onbs 4 8 7 (f 7) + onbs 4 8 8 (f 8) + onbs 4 8 9 (f 9) + onbs 4 8 10 (f 10) + onbs 4 8 11 (f 11) + onbs 4 8 12 (f 12) + onbs 4 8 13 (f 13) + onbs 4 8 14 (f 14) + onbs 4 8 15 (f 15) := rfl
  rw [e, onbs_t (n := 4) (l := 8) (p := 0) _ (by decide), onbs_f (n := 4) (l := 8) (p := 1) _ (by decide), onbs_f (n := 4) (l := 8) (p := 2) _ (by decide), onbs_f (n := 4) (l := 8) (p := 3) _ (by decide), onbs_f (n := 4) (l := 8) (p := 4) _ (by decide), onbs_t (n := 4) (l := 8) (p := 5) _ (by decide), onbs_f (n := 4) (l := 8) (p := 6) _ (by decide), onbs_f (n := 4) (l := 8) (p := 7) _ (by decide), onbs_f (n := 4) (l := 8) (p := 8) _ (by decide), onbs_f (n := 4) (l := 8) (p := 9) _ (by decide), onbs_t (n := 4) (l := 8) (p := 10) _ (by decide), onbs_f (n := 4) (l := 8) (p := 11) _ (by decide), onbs_f (n := 4) (l := 8) (p := 12) _ (by decide), onbs_f (n := 4) (l := 8) (p := 13) _ (by decide), onbs_f (n := 4) (l := 8) (p := 14) _ (by decide), onbs_t (n := 4) (l := 8) (p := 15) _ (by decide)]
  omega
theorem m4_9 (f : Int → Int) : lsm 4 f 9 = f 3 + f 6 + f 9 + f 12 := by
  rw [lsm_b]
  have e : sm (fun p => onbs 4 9 p (f p)) (4 * 4 : Int).toNat = 0 + onbs 4 9 0 (f 0) + onbs 4 9 1 (f 1) + onbs 4 9 2 (f 2) + onbs 4 9 3 (f 3) + onbs 4 9 4 (f 4) + onbs 4 9 5 (f 5) + onbs 4 9 6 (f 6) + onbs 4 9 7 (f 7) + onbs 4 9 8 (f 8) + onbs 4 9 9 (f 9) + onbs 4 9 10 (f 10) + onbs 4 9 11 (f 11) + onbs 4 9 12 (f 12) + onbs 4 9 13 (f 13) + onbs 4 9 14 (f 14) + onbs 4 9 15 (f 15) := rfl
  rw [e, onbs_f (n := 4) (l := 9) (p := 0) _ (by decide), onbs_f (n := 4) (l := 9) (p := 1) _ (by decide), onbs_f (n := 4) (l := 9) (p := 2) _ (by decide), onbs_t (n := 4) (l := 9) (p := 3) _ (by decide), onbs_f (n := 4) (l := 9) (p := 4) _ (by decide), onbs_f (n := 4) (l := 9) (p := 5) _ (by decide), onbs_t (n := 4) (l := 9) (p := 6) _ (by decide), onbs_f (n := 4) (l := 9) (p := 7) _ (by decide), onbs_f (n := 4) (l := 9) (p := 8) _ (by decide), onbs_t (n := 4) (l := 9) (p := 9) _ (by decide), onbs_f (n := 4) (l := 9) (p := 10) _ (by decide), onbs_f (n := 4) (l := 9) (p := 11) _ (by decide), onbs_t (n := 4) (l := 9) (p := 12) _ (by decide), onbs_f (n := 4) (l := 9) (p := 13) _ (by decide), onbs_f (n := 4) (l := 9) (p := 14) _ (by decide), onbs_f (n := 4) (l := 9) (p := 15) _ (by decide)]
  omega
def E4 (f : Int → Int) : Prop := f 0 + f 1 + f 2 + f 3 = 34 ∧ f 4 + f 5 + f 6 + f 7 = 34 ∧ f 8 + f 9 + f 10 + f 11 = 34 ∧ f 12 + f 13 + f 14 + f 15 = 34 ∧ f 0 + f 4 + f 8 + f 12 = 34 ∧ f 1 + f 5 + f 9 + f 13 = 34 ∧ f 2 + f 6 + f 10 + f 14 = 34 ∧ f 3 + f 7 + f 11 + f 15 = 34 ∧ f 0 + f 5 + f 10 + f 15 = 34 ∧ f 3 + f 6 + f 9 + f 12 = 34
theorem lo4 {f : Int → Int} : lOk 4 f ↔ E4 f := by
  unfold lOk E4
  constructor
  · rintro ⟨⟨h1, h2⟩, h3⟩
    rw [s4_d] at h1
    rw [s4_a] at h2
    have q0 := h3 0 (by decide) (by decide)
    rw [s4_r0, s4_c0] at q0
    have q1 := h3 1 (by decide) (by decide)
    rw [s4_r1, s4_c1] at q1
    have q2 := h3 2 (by decide) (by decide)
    rw [s4_r2, s4_c2] at q2
    have q3 := h3 3 (by decide) (by decide)
    rw [s4_r3, s4_c3] at q3
    omega
  · intro h
    refine ⟨⟨(s4_d f).mpr (by omega), (s4_a f).mpr (by omega)⟩, fun k a b => ?_⟩
    rcases (show k = 0 ∨ k = 1 ∨ k = 2 ∨ k = 3 by omega) with rfl | rfl | rfl | rfl
    · exact ⟨(s4_r0 f).mpr (by omega), (s4_c0 f).mpr (by omega)⟩
    · exact ⟨(s4_r1 f).mpr (by omega), (s4_c1 f).mpr (by omega)⟩
    · exact ⟨(s4_r2 f).mpr (by omega), (s4_c2 f).mpr (by omega)⟩
    · exact ⟨(s4_r3 f).mpr (by omega), (s4_c3 f).mpr (by omega)⟩
theorem ls4 {f : Int → Int} : (∀ l, 0 ≤ l → l < 2 * 4 + 2 → lsm 4 f l = du 4) ↔ E4 f := by
  have hd : du 4 = 34 := rfl
  unfold E4
  constructor
  · intro h
    have q0 := h 0 (by decide) (by decide)
    rw [m4_0, hd] at q0
    have q1 := h 1 (by decide) (by decide)
    rw [m4_1, hd] at q1
    have q2 := h 2 (by decide) (by decide)
    rw [m4_2, hd] at q2
    have q3 := h 3 (by decide) (by decide)
    rw [m4_3, hd] at q3
    have q4 := h 4 (by decide) (by decide)
    rw [m4_4, hd] at q4
    have q5 := h 5 (by decide) (by decide)
    rw [m4_5, hd] at q5
    have q6 := h 6 (by decide) (by decide)
    rw [m4_6, hd] at q6
    have q7 := h 7 (by decide) (by decide)
    rw [m4_7, hd] at q7
    have q8 := h 8 (by decide) (by decide)
    rw [m4_8, hd] at q8
    have q9 := h 9 (by decide) (by decide)
    rw [m4_9, hd] at q9
    omega
  · intro h l a b
    rw [hd]
    rcases (show l = 0 ∨ l = 1 ∨ l = 2 ∨ l = 3 ∨ l = 4 ∨ l = 5 ∨ l = 6 ∨ l = 7 ∨ l = 8 ∨ l = 9 by omega) with rfl | rfl | rfl | rfl | rfl | rfl | rfl | rfl | rfl | rfl
    · rw [m4_0]; omega
    · rw [m4_1]; omega
    · rw [m4_2]; omega
    · rw [m4_3]; omega
    · rw [m4_4]; omega
    · rw [m4_5]; omega
    · rw [m4_6]; omega
    · rw [m4_7]; omega
    · rw [m4_8]; omega
    · rw [m4_9]; omega
theorem e4_0_0 {f : Int → Int} (h : E4 f) : E4 (mvf 4 f 0 0) := by
  unfold E4 at h ⊢
  rw [mv_at (n := 4) (ch := 0) (b := 0) (p := 0) (q := 0) (f := f) (by decide) (by decide), mv_at (n := 4) (ch := 0) (b := 0) (p := 1) (q := 1) (f := f) (by decide) (by decide), mv_at (n := 4) (ch := 0) (b := 0) (p := 2) (q := 2) (f := f) (by decide) (by decide), mv_at (n := 4) (ch := 0) (b := 0) (p := 3) (q := 3) (f := f) (by decide) (by decide), mv_at (n := 4) (ch := 0) (b := 0) (p := 4) (q := 4) (f := f) (by decide) (by decide), mv_at (n := 4) (ch := 0) (b := 0) (p := 5) (q := 5) (f := f) (by decide) (by decide), mv_at (n := 4) (ch := 0) (b := 0) (p := 6) (q := 6) (f := f) (by decide) (by decide), mv_at (n := 4) (ch := 0) (b := 0) (p := 7) (q := 7) (f := f) (by decide) (by decide), mv_at (n := 4) (ch := 0) (b := 0) (p := 8) (q := 8) (f := f) (by decide) (by decide), mv_at (n := 4) (ch := 0) (b := 0) (p := 9) (q := 9) (f := f) (by decide) (by decide), mv_at (n := 4) (ch := 0) (b := 0) (p := 10) (q := 10) (f := f) (by decide) (by decide), mv_at (n := 4) (ch := 0) (b := 0) (p := 11) (q := 11) (f := f) (by decide) (by decide), mv_at (n := 4) (ch := 0) (b := 0) (p := 12) (q := 12) (f := f) (by decide) (by decide), mv_at (n := 4) (ch := 0) (b := 0) (p := 13) (q := 13) (f := f) (by decide) (by decide), mv_at (n := 4) (ch := 0) (b := 0) (p := 14) (q := 14) (f := f) (by decide) (by decide), mv_at (n := 4) (ch := 0) (b := 0) (p := 15) (q := 15) (f := f) (by decide) (by decide)]
  omega
theorem o4_0_0 : okS 4 0 0 = true := by decide +kernel
theorem e4_0_1 {f : Int → Int} (h : E4 f) : E4 (mvf 4 f 0 1) := by
  unfold E4 at h ⊢
  rw [mv_at (n := 4) (ch := 0) (b := 1) (p := 0) (q := 12) (f := f) (by decide) (by decide), mv_at (n := 4) (ch := 0) (b := 1) (p := 1) (q := 8) (f := f) (by decide) (by decide), mv_at (n := 4) (ch := 0) (b := 1) (p := 2) (q := 4) (f := f) (by decide) (by decide), mv_at (n := 4) (ch := 0) (b := 1) (p := 3) (q := 0) (f := f) (by decide) (by decide), mv_at (n := 4) (ch := 0) (b := 1) (p := 4) (q := 13) (f := f) (by decide) (by decide), mv_at (n := 4) (ch := 0) (b := 1) (p := 5) (q := 9) (f := f) (by decide) (by decide), mv_at (n := 4) (ch := 0) (b := 1) (p := 6) (q := 5) (f := f) (by decide) (by decide), mv_at (n := 4) (ch := 0) (b := 1) (p := 7) (q := 1) (f := f) (by decide) (by decide), mv_at (n := 4) (ch := 0) (b := 1) (p := 8) (q := 14) (f := f) (by decide) (by decide), mv_at (n := 4) (ch := 0) (b := 1) (p := 9) (q := 10) (f := f) (by decide) (by decide), mv_at (n := 4) (ch := 0) (b := 1) (p := 10) (q := 6) (f := f) (by decide) (by decide), mv_at (n := 4) (ch := 0) (b := 1) (p := 11) (q := 2) (f := f) (by decide) (by decide), mv_at (n := 4) (ch := 0) (b := 1) (p := 12) (q := 15) (f := f) (by decide) (by decide), mv_at (n := 4) (ch := 0) (b := 1) (p := 13) (q := 11) (f := f) (by decide) (by decide), mv_at (n := 4) (ch := 0) (b := 1) (p := 14) (q := 7) (f := f) (by decide) (by decide), mv_at (n := 4) (ch := 0) (b := 1) (p := 15) (q := 3) (f := f) (by decide) (by decide)]
  omega
theorem o4_0_1 : okS 4 0 1 = true := by decide +kernel
theorem e4_0_2 {f : Int → Int} (h : E4 f) : E4 (mvf 4 f 0 2) := by
  unfold E4 at h ⊢
  rw [mv_at (n := 4) (ch := 0) (b := 2) (p := 0) (q := 15) (f := f) (by decide) (by decide), mv_at (n := 4) (ch := 0) (b := 2) (p := 1) (q := 14) (f := f) (by decide) (by decide), mv_at (n := 4) (ch := 0) (b := 2) (p := 2) (q := 13) (f := f) (by decide) (by decide), mv_at (n := 4) (ch := 0) (b := 2) (p := 3) (q := 12) (f := f) (by decide) (by decide), mv_at (n := 4) (ch := 0) (b := 2) (p := 4) (q := 11) (f := f) (by decide) (by decide), mv_at (n := 4) (ch := 0) (b := 2) (p := 5) (q := 10) (f := f) (by decide) (by decide), mv_at (n := 4) (ch := 0) (b := 2) (p := 6) (q := 9) (f := f) (by decide) (by decide), mv_at (n := 4) (ch := 0) (b := 2) (p := 7) (q := 8) (f := f) (by decide) (by decide), mv_at (n := 4) (ch := 0) (b := 2) (p := 8) (q := 7) (f := f) (by decide) (by decide), mv_at (n := 4) (ch := 0) (b := 2) (p := 9) (q := 6) (f := f) (by decide) (by decide), mv_at (n := 4) (ch := 0) (b := 2) (p := 10) (q := 5) (f := f) (by decide) (by decide), mv_at (n := 4) (ch := 0) (b := 2) (p := 11) (q := 4) (f := f) (by decide) (by decide), mv_at (n := 4) (ch := 0) (b := 2) (p := 12) (q := 3) (f := f) (by decide) (by decide), mv_at (n := 4) (ch := 0) (b := 2) (p := 13) (q := 2) (f := f) (by decide) (by decide), mv_at (n := 4) (ch := 0) (b := 2) (p := 14) (q := 1) (f := f) (by decide) (by decide), mv_at (n := 4) (ch := 0) (b := 2) (p := 15) (q := 0) (f := f) (by decide) (by decide)]
  omega
theorem o4_0_2 : okS 4 0 2 = true := by decide +kernel
theorem e4_0_3 {f : Int → Int} (h : E4 f) : E4 (mvf 4 f 0 3) := by
  unfold E4 at h ⊢
  rw [mv_at (n := 4) (ch := 0) (b := 3) (p := 0) (q := 3) (f := f) (by decide) (by decide), mv_at (n := 4) (ch := 0) (b := 3) (p := 1) (q := 7) (f := f) (by decide) (by decide), mv_at (n := 4) (ch := 0) (b := 3) (p := 2) (q := 11) (f := f) (by decide) (by decide), mv_at (n := 4) (ch := 0) (b := 3) (p := 3) (q := 15) (f := f) (by decide) (by decide), mv_at (n := 4) (ch := 0) (b := 3) (p := 4) (q := 2) (f := f) (by decide) (by decide), mv_at (n := 4) (ch := 0) (b := 3) (p := 5) (q := 6) (f := f) (by decide) (by decide), mv_at (n := 4) (ch := 0) (b := 3) (p := 6) (q := 10) (f := f) (by decide) (by decide), mv_at (n := 4) (ch := 0) (b := 3) (p := 7) (q := 14) (f := f) (by decide) (by decide), mv_at (n := 4) (ch := 0) (b := 3) (p := 8) (q := 1) (f := f) (by decide) (by decide), mv_at (n := 4) (ch := 0) (b := 3) (p := 9) (q := 5) (f := f) (by decide) (by decide), mv_at (n := 4) (ch := 0) (b := 3) (p := 10) (q := 9) (f := f) (by decide) (by decide), mv_at (n := 4) (ch := 0) (b := 3) (p := 11) (q := 13) (f := f) (by decide) (by decide), mv_at (n := 4) (ch := 0) (b := 3) (p := 12) (q := 0) (f := f) (by decide) (by decide), mv_at (n := 4) (ch := 0) (b := 3) (p := 13) (q := 4) (f := f) (by decide) (by decide), mv_at (n := 4) (ch := 0) (b := 3) (p := 14) (q := 8) (f := f) (by decide) (by decide), mv_at (n := 4) (ch := 0) (b := 3) (p := 15) (q := 12) (f := f) (by decide) (by decide)]
  omega
theorem o4_0_3 : okS 4 0 3 = true := by decide +kernel
theorem e4_1_0 {f : Int → Int} (h : E4 f) : E4 (mvf 4 f 1 0) := by
  unfold E4 at h ⊢
  rw [mv_at (n := 4) (ch := 1) (b := 0) (p := 0) (q := 0) (f := f) (by decide) (by decide), mv_at (n := 4) (ch := 1) (b := 0) (p := 1) (q := 1) (f := f) (by decide) (by decide), mv_at (n := 4) (ch := 1) (b := 0) (p := 2) (q := 2) (f := f) (by decide) (by decide), mv_at (n := 4) (ch := 1) (b := 0) (p := 3) (q := 3) (f := f) (by decide) (by decide), mv_at (n := 4) (ch := 1) (b := 0) (p := 4) (q := 4) (f := f) (by decide) (by decide), mv_at (n := 4) (ch := 1) (b := 0) (p := 5) (q := 5) (f := f) (by decide) (by decide), mv_at (n := 4) (ch := 1) (b := 0) (p := 6) (q := 6) (f := f) (by decide) (by decide), mv_at (n := 4) (ch := 1) (b := 0) (p := 7) (q := 7) (f := f) (by decide) (by decide), mv_at (n := 4) (ch := 1) (b := 0) (p := 8) (q := 8) (f := f) (by decide) (by decide), mv_at (n := 4) (ch := 1) (b := 0) (p := 9) (q := 9) (f := f) (by decide) (by decide), mv_at (n := 4) (ch := 1) (b := 0) (p := 10) (q := 10) (f := f) (by decide) (by decide), mv_at (n := 4) (ch := 1) (b := 0) (p := 11) (q := 11) (f := f) (by decide) (by decide), mv_at (n := 4) (ch := 1) (b := 0) (p := 12) (q := 12) (f := f) (by decide) (by decide), mv_at (n := 4) (ch := 1) (b := 0) (p := 13) (q := 13) (f := f) (by decide) (by decide), mv_at (n := 4) (ch := 1) (b := 0) (p := 14) (q := 14) (f := f) (by decide) (by decide), mv_at (n := 4) (ch := 1) (b := 0) (p := 15) (q := 15) (f := f) (by decide) (by decide)]
  omega
theorem o4_1_0 : okS 4 1 0 = true := by decide +kernel
theorem e4_1_1 {f : Int → Int} (h : E4 f) : E4 (mvf 4 f 1 1) := by
  unfold E4 at h ⊢
  rw [mv_at (n := 4) (ch := 1) (b := 1) (p := 0) (q := 3) (f := f) (by decide) (by decide), mv_at (n := 4) (ch := 1) (b := 1) (p := 1) (q := 2) (f := f) (by decide) (by decide), mv_at (n := 4) (ch := 1) (b := 1) (p := 2) (q := 1) (f := f) (by decide) (by decide), mv_at (n := 4) (ch := 1) (b := 1) (p := 3) (q := 0) (f := f) (by decide) (by decide), mv_at (n := 4) (ch := 1) (b := 1) (p := 4) (q := 7) (f := f) (by decide) (by decide), mv_at (n := 4) (ch := 1) (b := 1) (p := 5) (q := 6) (f := f) (by decide) (by decide), mv_at (n := 4) (ch := 1) (b := 1) (p := 6) (q := 5) (f := f) (by decide) (by decide), mv_at (n := 4) (ch := 1) (b := 1) (p := 7) (q := 4) (f := f) (by decide) (by decide), mv_at (n := 4) (ch := 1) (b := 1) (p := 8) (q := 11) (f := f) (by decide) (by decide), mv_at (n := 4) (ch := 1) (b := 1) (p := 9) (q := 10) (f := f) (by decide) (by decide), mv_at (n := 4) (ch := 1) (b := 1) (p := 10) (q := 9) (f := f) (by decide) (by decide), mv_at (n := 4) (ch := 1) (b := 1) (p := 11) (q := 8) (f := f) (by decide) (by decide), mv_at (n := 4) (ch := 1) (b := 1) (p := 12) (q := 15) (f := f) (by decide) (by decide), mv_at (n := 4) (ch := 1) (b := 1) (p := 13) (q := 14) (f := f) (by decide) (by decide), mv_at (n := 4) (ch := 1) (b := 1) (p := 14) (q := 13) (f := f) (by decide) (by decide), mv_at (n := 4) (ch := 1) (b := 1) (p := 15) (q := 12) (f := f) (by decide) (by decide)]
  omega
theorem o4_1_1 : okS 4 1 1 = true := by decide +kernel
theorem e4_5_0 {f : Int → Int} (h : E4 f) : E4 (mvf 4 f 5 0) := by
  unfold E4 at h ⊢
  rw [mv_at (n := 4) (ch := 5) (b := 0) (p := 0) (q := 15) (f := f) (by decide) (by decide), mv_at (n := 4) (ch := 5) (b := 0) (p := 1) (q := 13) (f := f) (by decide) (by decide), mv_at (n := 4) (ch := 5) (b := 0) (p := 2) (q := 14) (f := f) (by decide) (by decide), mv_at (n := 4) (ch := 5) (b := 0) (p := 3) (q := 12) (f := f) (by decide) (by decide), mv_at (n := 4) (ch := 5) (b := 0) (p := 4) (q := 7) (f := f) (by decide) (by decide), mv_at (n := 4) (ch := 5) (b := 0) (p := 5) (q := 5) (f := f) (by decide) (by decide), mv_at (n := 4) (ch := 5) (b := 0) (p := 6) (q := 6) (f := f) (by decide) (by decide), mv_at (n := 4) (ch := 5) (b := 0) (p := 7) (q := 4) (f := f) (by decide) (by decide), mv_at (n := 4) (ch := 5) (b := 0) (p := 8) (q := 11) (f := f) (by decide) (by decide), mv_at (n := 4) (ch := 5) (b := 0) (p := 9) (q := 9) (f := f) (by decide) (by decide), mv_at (n := 4) (ch := 5) (b := 0) (p := 10) (q := 10) (f := f) (by decide) (by decide), mv_at (n := 4) (ch := 5) (b := 0) (p := 11) (q := 8) (f := f) (by decide) (by decide), mv_at (n := 4) (ch := 5) (b := 0) (p := 12) (q := 3) (f := f) (by decide) (by decide), mv_at (n := 4) (ch := 5) (b := 0) (p := 13) (q := 1) (f := f) (by decide) (by decide), mv_at (n := 4) (ch := 5) (b := 0) (p := 14) (q := 2) (f := f) (by decide) (by decide), mv_at (n := 4) (ch := 5) (b := 0) (p := 15) (q := 0) (f := f) (by decide) (by decide)]
  omega
theorem o4_5_0 : okS 4 5 0 = true := by decide +kernel
theorem e4_5_1 {f : Int → Int} (h : E4 f) : E4 (mvf 4 f 5 1) := by
  unfold E4 at h ⊢
  rw [mv_at (n := 4) (ch := 5) (b := 1) (p := 0) (q := 0) (f := f) (by decide) (by decide), mv_at (n := 4) (ch := 5) (b := 1) (p := 1) (q := 2) (f := f) (by decide) (by decide), mv_at (n := 4) (ch := 5) (b := 1) (p := 2) (q := 1) (f := f) (by decide) (by decide), mv_at (n := 4) (ch := 5) (b := 1) (p := 3) (q := 3) (f := f) (by decide) (by decide), mv_at (n := 4) (ch := 5) (b := 1) (p := 4) (q := 8) (f := f) (by decide) (by decide), mv_at (n := 4) (ch := 5) (b := 1) (p := 5) (q := 10) (f := f) (by decide) (by decide), mv_at (n := 4) (ch := 5) (b := 1) (p := 6) (q := 9) (f := f) (by decide) (by decide), mv_at (n := 4) (ch := 5) (b := 1) (p := 7) (q := 11) (f := f) (by decide) (by decide), mv_at (n := 4) (ch := 5) (b := 1) (p := 8) (q := 4) (f := f) (by decide) (by decide), mv_at (n := 4) (ch := 5) (b := 1) (p := 9) (q := 6) (f := f) (by decide) (by decide), mv_at (n := 4) (ch := 5) (b := 1) (p := 10) (q := 5) (f := f) (by decide) (by decide), mv_at (n := 4) (ch := 5) (b := 1) (p := 11) (q := 7) (f := f) (by decide) (by decide), mv_at (n := 4) (ch := 5) (b := 1) (p := 12) (q := 12) (f := f) (by decide) (by decide), mv_at (n := 4) (ch := 5) (b := 1) (p := 13) (q := 14) (f := f) (by decide) (by decide), mv_at (n := 4) (ch := 5) (b := 1) (p := 14) (q := 13) (f := f) (by decide) (by decide), mv_at (n := 4) (ch := 5) (b := 1) (p := 15) (q := 15) (f := f) (by decide) (by decide)]
  omega
theorem o4_5_1 : okS 4 5 1 = true := by decide +kernel
theorem e4_5_2 {f : Int → Int} (h : E4 f) : E4 (mvf 4 f 5 2) := by
  unfold E4 at h ⊢
  rw [mv_at (n := 4) (ch := 5) (b := 2) (p := 0) (q := 0) (f := f) (by decide) (by decide), mv_at (n := 4) (ch := 5) (b := 2) (p := 1) (q := 2) (f := f) (by decide) (by decide), mv_at (n := 4) (ch := 5) (b := 2) (p := 2) (q := 1) (f := f) (by decide) (by decide), mv_at (n := 4) (ch := 5) (b := 2) (p := 3) (q := 3) (f := f) (by decide) (by decide), mv_at (n := 4) (ch := 5) (b := 2) (p := 4) (q := 8) (f := f) (by decide) (by decide), mv_at (n := 4) (ch := 5) (b := 2) (p := 5) (q := 10) (f := f) (by decide) (by decide), mv_at (n := 4) (ch := 5) (b := 2) (p := 6) (q := 9) (f := f) (by decide) (by decide), mv_at (n := 4) (ch := 5) (b := 2) (p := 7) (q := 11) (f := f) (by decide) (by decide), mv_at (n := 4) (ch := 5) (b := 2) (p := 8) (q := 4) (f := f) (by decide) (by decide), mv_at (n := 4) (ch := 5) (b := 2) (p := 9) (q := 6) (f := f) (by decide) (by decide), mv_at (n := 4) (ch := 5) (b := 2) (p := 10) (q := 5) (f := f) (by decide) (by decide), mv_at (n := 4) (ch := 5) (b := 2) (p := 11) (q := 7) (f := f) (by decide) (by decide), mv_at (n := 4) (ch := 5) (b := 2) (p := 12) (q := 12) (f := f) (by decide) (by decide), mv_at (n := 4) (ch := 5) (b := 2) (p := 13) (q := 14) (f := f) (by decide) (by decide), mv_at (n := 4) (ch := 5) (b := 2) (p := 14) (q := 13) (f := f) (by decide) (by decide), mv_at (n := 4) (ch := 5) (b := 2) (p := 15) (q := 15) (f := f) (by decide) (by decide)]
  omega
theorem o4_5_2 : okS 4 5 2 = true := by decide +kernel
theorem e4_5_3 {f : Int → Int} (h : E4 f) : E4 (mvf 4 f 5 3) := by
  unfold E4 at h ⊢
  rw [mv_at (n := 4) (ch := 5) (b := 3) (p := 0) (q := 15) (f := f) (by decide) (by decide), mv_at (n := 4) (ch := 5) (b := 3) (p := 1) (q := 13) (f := f) (by decide) (by decide), mv_at (n := 4) (ch := 5) (b := 3) (p := 2) (q := 14) (f := f) (by decide) (by decide), mv_at (n := 4) (ch := 5) (b := 3) (p := 3) (q := 12) (f := f) (by decide) (by decide), mv_at (n := 4) (ch := 5) (b := 3) (p := 4) (q := 7) (f := f) (by decide) (by decide), mv_at (n := 4) (ch := 5) (b := 3) (p := 5) (q := 5) (f := f) (by decide) (by decide), mv_at (n := 4) (ch := 5) (b := 3) (p := 6) (q := 6) (f := f) (by decide) (by decide), mv_at (n := 4) (ch := 5) (b := 3) (p := 7) (q := 4) (f := f) (by decide) (by decide), mv_at (n := 4) (ch := 5) (b := 3) (p := 8) (q := 11) (f := f) (by decide) (by decide), mv_at (n := 4) (ch := 5) (b := 3) (p := 9) (q := 9) (f := f) (by decide) (by decide), mv_at (n := 4) (ch := 5) (b := 3) (p := 10) (q := 10) (f := f) (by decide) (by decide), mv_at (n := 4) (ch := 5) (b := 3) (p := 11) (q := 8) (f := f) (by decide) (by decide), mv_at (n := 4) (ch := 5) (b := 3) (p := 12) (q := 3) (f := f) (by decide) (by decide), mv_at (n := 4) (ch := 5) (b := 3) (p := 13) (q := 1) (f := f) (by decide) (by decide), mv_at (n := 4) (ch := 5) (b := 3) (p := 14) (q := 2) (f := f) (by decide) (by decide), mv_at (n := 4) (ch := 5) (b := 3) (p := 15) (q := 0) (f := f) (by decide) (by decide)]
  omega
theorem o4_5_3 : okS 4 5 3 = true := by decide +kernel
theorem e4_2 {f : Int → Int} (hp : ∀ p, 0 ≤ p → p < 4 * 4 → 1 ≤ f p ∧ f p ≤ 4 * 4) (h : E4 f) : E4 (cpf 4 f (4 * 4 + 1)) := by
  have hz : ∀ p, 0 ≤ p → p < 4 * 4 → f p ≠ 0 := fun p a c => by have := hp p a c; omega
  unfold E4 at h ⊢
  rw [cp_at (n := 4) (p := 0) (f := f) (b := 4 * 4 + 1) (by decide) (hz 0 (by decide) (by decide)), cp_at (n := 4) (p := 1) (f := f) (b := 4 * 4 + 1) (by decide) (hz 1 (by decide) (by decide)), cp_at (n := 4) (p := 2) (f := f) (b := 4 * 4 + 1) (by decide) (hz 2 (by decide) (by decide)), cp_at (n := 4) (p := 3) (f := f) (b := 4 * 4 + 1) (by decide) (hz 3 (by decide) (by decide)), cp_at (n := 4) (p := 4) (f := f) (b := 4 * 4 + 1) (by decide) (hz 4 (by decide) (by decide)), cp_at (n := 4) (p := 5) (f := f) (b := 4 * 4 + 1) (by decide) (hz 5 (by decide) (by decide)), cp_at (n := 4) (p := 6) (f := f) (b := 4 * 4 + 1) (by decide) (hz 6 (by decide) (by decide)), cp_at (n := 4) (p := 7) (f := f) (b := 4 * 4 + 1) (by decide) (hz 7 (by decide) (by decide)), cp_at (n := 4) (p := 8) (f := f) (b := 4 * 4 + 1) (by decide) (hz 8 (by decide) (by decide)), cp_at (n := 4) (p := 9) (f := f) (b := 4 * 4 + 1) (by decide) (hz 9 (by decide) (by decide)), cp_at (n := 4) (p := 10) (f := f) (b := 4 * 4 + 1) (by decide) (hz 10 (by decide) (by decide)), cp_at (n := 4) (p := 11) (f := f) (b := 4 * 4 + 1) (by decide) (hz 11 (by decide) (by decide)), cp_at (n := 4) (p := 12) (f := f) (b := 4 * 4 + 1) (by decide) (hz 12 (by decide) (by decide)), cp_at (n := 4) (p := 13) (f := f) (b := 4 * 4 + 1) (by decide) (hz 13 (by decide) (by decide)), cp_at (n := 4) (p := 14) (f := f) (b := 4 * 4 + 1) (by decide) (hz 14 (by decide) (by decide)), cp_at (n := 4) (p := 15) (f := f) (b := 4 * 4 + 1) (by decide) (hz 15 (by decide) (by decide))]
  omega
theorem rt_fit {n : Int} {f : Int → Int} (hR : Rt n f) : fit n f := by
  obtain ⟨h0, ⟨h1, h2⟩, hl⟩ := hR
  have hs : ∀ l, 0 ≤ l → l < 2 * n + 2 → lsm n f l = du n := by
    rcases h0 with rfl | rfl
    · exact ls3.mpr (lo3.mp hl)
    · exact ls4.mpr (lo4.mp hl)
  refine ⟨fun l a b => ⟨fun _ => hs l a b, fun hz => absurd (lck_z (fun p a b => (h1 p a b).1) l) hz⟩, fun p a b => (h1 p a b).2, fun p a b r c d hne _ => h2 p a b r c d hne⟩
theorem fit_rt {n : Int} {f : Int → Int} (h0 : n = 3 ∨ n = 4) (hf : fit n f) (h1 : ∀ p, 0 ≤ p → p < n * n → 1 ≤ f p) : Rt n f := by
  obtain ⟨f1, f2, f3⟩ := hf
  have hs : ∀ l, 0 ≤ l → l < 2 * n + 2 → lsm n f l = du n := fun l a b => (f1 l a b).1 (lck_z h1 l)
  refine ⟨h0, ⟨fun p a b => ⟨h1 p a b, f2 p a b⟩, fun p a b r c d hne => f3 p a b r c d hne (by have := h1 p a b; omega)⟩, ?_⟩
  rcases h0 with rfl | rfl
  · exact lo3.mpr (ls3.mp hs)
  · exact lo4.mpr (ls4.mp hs)
theorem rt_cha {n ch b : Int} {f : Int → Int} (hR : Rt n f) (h : (ch = 0 ∧ 0 ≤ b ∧ b ≤ 3) ∨ (ch = 1 ∧ 0 ≤ b ∧ b ≤ 1) ∨ (ch = 5 ∧ n = 4 ∧ 0 ≤ b ∧ b ≤ 3) ∨ (ch = 2 ∧ b = n * n + 1)) : Rt n (cha n f ch b) := by
  have h0 := hR.1
  have hl := hR.2.2
  rcases h with ⟨rfl, b0, b1⟩ | ⟨rfl, b0, b1⟩ | ⟨rfl, rfl, b0, b1⟩ | ⟨rfl, rfl⟩
  · rw [cha_n (by decide)]
    rcases h0 with rfl | rfl
    · rcases (show b = 0 ∨ b = 1 ∨ b = 2 ∨ b = 3 by omega) with rfl | rfl | rfl | rfl
      · exact rt_mv hR o3_0_0 (lo3.mpr (e3_0_0 (lo3.mp hl)))
      · exact rt_mv hR o3_0_1 (lo3.mpr (e3_0_1 (lo3.mp hl)))
      · exact rt_mv hR o3_0_2 (lo3.mpr (e3_0_2 (lo3.mp hl)))
      · exact rt_mv hR o3_0_3 (lo3.mpr (e3_0_3 (lo3.mp hl)))
    · rcases (show b = 0 ∨ b = 1 ∨ b = 2 ∨ b = 3 by omega) with rfl | rfl | rfl | rfl
      · exact rt_mv hR o4_0_0 (lo4.mpr (e4_0_0 (lo4.mp hl)))
      · exact rt_mv hR o4_0_1 (lo4.mpr (e4_0_1 (lo4.mp hl)))
      · exact rt_mv hR o4_0_2 (lo4.mpr (e4_0_2 (lo4.mp hl)))
      · exact rt_mv hR o4_0_3 (lo4.mpr (e4_0_3 (lo4.mp hl)))
  · rw [cha_n (by decide)]
    rcases h0 with rfl | rfl
    · rcases (show b = 0 ∨ b = 1 by omega) with rfl | rfl
      · exact rt_mv hR o3_1_0 (lo3.mpr (e3_1_0 (lo3.mp hl)))
      · exact rt_mv hR o3_1_1 (lo3.mpr (e3_1_1 (lo3.mp hl)))
    · rcases (show b = 0 ∨ b = 1 by omega) with rfl | rfl
      · exact rt_mv hR o4_1_0 (lo4.mpr (e4_1_0 (lo4.mp hl)))
      · exact rt_mv hR o4_1_1 (lo4.mpr (e4_1_1 (lo4.mp hl)))
  · rw [cha_n (by decide)]
    rcases (show b = 0 ∨ b = 1 ∨ b = 2 ∨ b = 3 by omega) with rfl | rfl | rfl | rfl
    · exact rt_mv hR o4_5_0 (lo4.mpr (e4_5_0 (lo4.mp hl)))
    · exact rt_mv hR o4_5_1 (lo4.mpr (e4_5_1 (lo4.mp hl)))
    · exact rt_mv hR o4_5_2 (lo4.mpr (e4_5_2 (lo4.mp hl)))
    · exact rt_mv hR o4_5_3 (lo4.mpr (e4_5_3 (lo4.mp hl)))
  · rw [cha_2 rfl]
    refine rt_cp hR ?_
    have h1 := hR.2.1.1
    rcases h0 with rfl | rfl
    · exact lo3.mpr (e3_2 h1 (lo3.mp hl))
    · exact lo4.mpr (e4_2 h1 (lo4.mp hl))
def v0 : List Int := [8, 1, 6, 3, 5, 7, 4, 9, 2]
theorem vm0 : ∀ p : Nat, p < 9 → mkf 0 3 (p : Int) = v0.getD p 0 := by decide +kernel
theorem vn0 : ∀ p : Nat, p < 9 → (1 ≤ v0.getD p 0 ∧ v0.getD p 0 ≤ 9) ∧ ∀ r : Nat, r < 9 → p ≠ r → v0.getD p 0 ≠ v0.getD r 0 := by decide +kernel
theorem rt_make0 : Rt 3 (mkf 0 3) := by
  refine ⟨by omega, ⟨fun p a b => ?_, fun p a b r c d hne => ?_⟩, lo3.mpr ?_⟩
  · obtain ⟨k, rfl⟩ : ∃ k : Nat, p = k := ⟨p.toNat, by omega⟩
    rw [vm0 k (by omega)]
    have := (vn0 k (by omega)).1
    omega
  · obtain ⟨k, rfl⟩ : ∃ k : Nat, p = k := ⟨p.toNat, by omega⟩
    obtain ⟨m, rfl⟩ : ∃ k : Nat, r = k := ⟨r.toNat, by omega⟩
    rw [vm0 k (by omega), vm0 m (by omega)]
    exact (vn0 k (by omega)).2 m (by omega) (by omega)
  · unfold E3
    have q0 : mkf 0 3 0 = 8 := vm0 0 (by decide)
    have q1 : mkf 0 3 1 = 1 := vm0 1 (by decide)
    have q2 : mkf 0 3 2 = 6 := vm0 2 (by decide)
    have q3 : mkf 0 3 3 = 3 := vm0 3 (by decide)
    have q4 : mkf 0 3 4 = 5 := vm0 4 (by decide)
    have q5 : mkf 0 3 5 = 7 := vm0 5 (by decide)
    have q6 : mkf 0 3 6 = 4 := vm0 6 (by decide)
    have q7 : mkf 0 3 7 = 9 := vm0 7 (by decide)
    have q8 : mkf 0 3 8 = 2 := vm0 8 (by decide)
    rw [q0, q1, q2, q3, q4, q5, q6, q7, q8]
    decide
def v1 : List Int := [16, 2, 3, 13, 5, 11, 10, 8, 9, 7, 6, 12, 4, 14, 15, 1]
theorem vm1 : ∀ p : Nat, p < 16 → mkf 1 4 (p : Int) = v1.getD p 0 := by decide +kernel
theorem vn1 : ∀ p : Nat, p < 16 → (1 ≤ v1.getD p 0 ∧ v1.getD p 0 ≤ 16) ∧ ∀ r : Nat, r < 16 → p ≠ r → v1.getD p 0 ≠ v1.getD r 0 := by decide +kernel
theorem rt_make1 : Rt 4 (mkf 1 4) := by
  refine ⟨by omega, ⟨fun p a b => ?_, fun p a b r c d hne => ?_⟩, lo4.mpr ?_⟩
  · obtain ⟨k, rfl⟩ : ∃ k : Nat, p = k := ⟨p.toNat, by omega⟩
    rw [vm1 k (by omega)]
    have := (vn1 k (by omega)).1
    omega
  · obtain ⟨k, rfl⟩ : ∃ k : Nat, p = k := ⟨p.toNat, by omega⟩
    obtain ⟨m, rfl⟩ : ∃ k : Nat, r = k := ⟨r.toNat, by omega⟩
    rw [vm1 k (by omega), vm1 m (by omega)]
    exact (vn1 k (by omega)).2 m (by omega) (by omega)
  · unfold E4
    have q0 : mkf 1 4 0 = 16 := vm1 0 (by decide)
    have q1 : mkf 1 4 1 = 2 := vm1 1 (by decide)
    have q2 : mkf 1 4 2 = 3 := vm1 2 (by decide)
    have q3 : mkf 1 4 3 = 13 := vm1 3 (by decide)
    have q4 : mkf 1 4 4 = 5 := vm1 4 (by decide)
    have q5 : mkf 1 4 5 = 11 := vm1 5 (by decide)
    have q6 : mkf 1 4 6 = 10 := vm1 6 (by decide)
    have q7 : mkf 1 4 7 = 8 := vm1 7 (by decide)
    have q8 : mkf 1 4 8 = 9 := vm1 8 (by decide)
    have q9 : mkf 1 4 9 = 7 := vm1 9 (by decide)
    have q10 : mkf 1 4 10 = 6 := vm1 10 (by decide)
    have q11 : mkf 1 4 11 = 12 := vm1 11 (by decide)
    have q12 : mkf 1 4 12 = 4 := vm1 12 (by decide)
    have q13 : mkf 1 4 13 = 14 := vm1 13 (by decide)
    have q14 : mkf 1 4 14 = 15 := vm1 14 (by decide)
    have q15 : mkf 1 4 15 = 1 := vm1 15 (by decide)
    rw [q0, q1, q2, q3, q4, q5, q6, q7, q8, q9, q10, q11, q12, q13, q14, q15]
    decide
theorem cpl_all {n : Int} {f W : Int → Int} (hW : Rt n W) (hf : ∀ p, 0 ≤ p → p < n * n → f p = W p ∨ f p = 0) : tk W (n * n) ∈ cpl n f ∧ (cpl n f).Pairwise (lxl n) ∧ ∀ h ∈ cpl n f, Rt n h ∧ ∀ p, 0 ≤ p → p < n * n → f p ≠ 0 → h p = W p := by
  have h9 := n34 hW.1
  have hT : Rt n (tk W (n * n)) := Rt_c hW (fun p a b => tk_in ⟨a, b⟩)
  have hTf := rt_fit hT
  have hT1 : ∀ p, 0 ≤ p → p < n * n → 1 ≤ tk W (n * n) p := fun p a b => (hT.2.1.1 p a b).1
  have hg : ∀ p, tk f (n * n) p = tk W (n * n) p ∨ tk f (n * n) p = 0 := by
    intro p
    by_cases q : 0 ≤ p ∧ p < n * n
    · rw [tk_in q, tk_in q]; exact hf p q.1 q.2
    · right; exact tk_out q
  have hft : fit n (tk f (n * n)) := fit_sub hTf hT1 (fun p _ _ => hg p)
  have he : ∀ j : Int, 0 ≤ j → j < 0 + ((emp f (n * n).toNat).length : Int) → 0 ≤ eF (emp f (n * n).toNat) j ∧ eF (emp f (n * n).toNat) j < n * n ∧ f (eF (emp f (n * n).toNat) j) = 0 := fun j a b => by
    have := emp_in (eF_at (l := emp f (n * n).toNat) (j := j) ⟨a, by omega⟩).1
    omega
  have ha : ∀ i j : Int, 0 ≤ i → i < j → j < 0 + ((emp f (n * n).toNat).length : Int) → eF (emp f (n * n).toNat) i < eF (emp f (n * n).toNat) j := fun i j a b c => eF_lt (emp_nd f (n * n).toNat) ⟨a, b, by omega⟩
  have hno : ∀ a, (∀ j : Int, 0 ≤ j → j < 0 + ((emp f (n * n).toNat).length : Int) → a ≠ eF (emp f (n * n).toNat) j) → 0 ≤ a → a < n * n → f a ≠ 0 := fun a h a0 a1 q => by
    obtain ⟨j, j0, j1, j2⟩ := eF_of (emp_all (g := f) (N := (n * n).toNat) (p := a) ⟨a0, by omega⟩ q)
    exact h j j0 (by omega) j2
  rw [cpl_d, ci_t hft]
  refine ⟨sols_in hTf hT1 _ 0 _ (fun j a b => ⟨(he j a b).1, (he j a b).2.1⟩) (fun a h => ?_) hg, sols_asc _ 0 _ hft (fun j a b => ⟨(he j a b).1, (he j a b).2.1⟩) ha, fun h hm => ?_⟩
  · by_cases q : 0 ≤ a ∧ a < n * n
    · rcases hg a with w | w
      · exact w.symm
      · rw [tk_in q] at w
        exact absurd w (hno a h q.1 q.2)
    · rw [tk_out q, tk_out q]
  · obtain ⟨m1, m2, m3⟩ := sols_mem _ 0 _ h hft (fun i j a b c => by have := ha i j a b c; omega) hm
    have hz : ∀ p, 0 ≤ p → p < n * n → f p ≠ 0 → h p = W p := fun p a b c => by
      rw [m2 p (fun j j0 j1 q => c (by rw [q]; exact (he j j0 j1).2.2)), tk_in ⟨a, b⟩]
      rcases hf p a b with w | w
      · exact w
      · exact absurd w c
    refine ⟨fit_rt hW.1 m1 (fun p a b => ?_), hz⟩
    by_cases q : f p = 0
    · obtain ⟨j, j0, j1, j2⟩ := eF_of (emp_all (g := f) (N := (n * n).toNat) (p := p) ⟨a, by omega⟩ q)
      rw [j2]; exact m3 j j0 (by omega)
    · rw [hz p a b q]; exact (hW.2.1.1 p a b).1
theorem emp_z {g : Int → Int} {N : Nat} (h : ∀ p : Int, 0 ≤ p → p < N → g p ≠ 0) : emp g N = [] := by
  induction N with
  | zero => rfl
  | succ N ih => rw [emp, ih (fun p a b => h p a (by omega)), if_neg (h N (by omega) (by omega))]; rfl
theorem cpl_one {n : Int} {f : Int → Int} (hR : Rt n f) : cpl n f = [tk f (n * n)] := by
  have hT : Rt n (tk f (n * n)) := Rt_c hR (fun p a b => tk_in ⟨a, b⟩)
  rw [cpl_d, ci_t (rt_fit hT), emp_z (fun p a b => by have := hR.2.1.1 p a (by omega); omega)]
  rfl
theorem cpl_len {n : Int} {f : Int → Int} (hn : n = 3 ∨ n = 4) (h : cnt n f 0 ≤ (if n = 3 then 9 else 6)) : ((cpl n f).length : Int) ≤ 2000000000 := by
  rw [cpl_d]
  by_cases hp : fit n (tk f (n * n))
  · rw [ci_t hp]
    have hc := emp_cnt f (n * n).toNat
    unfold cnt at h
    rcases hn with rfl | rfl
    · refine Int.le_trans (sols_len2 (M := 9) rfl _ _ _) ?_
      have h1 : (emp f (3 * 3 : Int).toNat).length ≤ 9 := by rw [if_pos rfl] at h; omega
      have h2 : 9 ^ (emp f (3 * 3 : Int).toNat).length ≤ 9 ^ 9 := Nat.pow_le_pow_right (by decide) h1
      have h3 : 9 ^ 9 = 387420489 := by decide
      omega
    · refine Int.le_trans (sols_len2 (M := 16) rfl _ _ _) ?_
      have h1 : (emp f (4 * 4 : Int).toNat).length ≤ 6 := by rw [if_neg (by decide)] at h; omega
      have h2 : 16 ^ (emp f (4 * 4 : Int).toNat).length ≤ 16 ^ 6 := Nat.pow_le_pow_right (by decide) h1
      have h3 : 16 ^ 6 = 16777216 := by decide
      omega
  · rw [ci_f hp]; simp
