theorem LD_G {x : Me} {n : Int} {f : Int → Int} (h : LD x n f) : ∃ G, ST x n G ∧ GR n G ∧ (x 30 9 = 0 → G = tk f (n * n)) ∧ (x 30 9 = 0 ∨ x 30 9 = 1) := by
  obtain ⟨-, ⟨G, g1, g2⟩, -, c⟩ := h
  rcases c with c | ⟨c1, c2, c3, -⟩
  · exact ⟨G, g1, g2, fun q => by omega, by omega⟩
  · exact ⟨_, c2, c3, fun _ => rfl, by omega⟩
theorem LD_fit {x : Me} {n : Int} {f G : Int → Int} (h : LD x n f) (hG : x 30 9 = 0 → G = tk f (n * n)) : (x 30 9 = 0 ∧ ∀ l, 0 ≤ l → l < 2 * n + 2 → lnf n G l) ↔ fit n (tk f (n * n)) := by
  obtain ⟨-, -, -, c⟩ := h
  rcases c with c | ⟨c1, c2, c3, c4, -⟩
  · exact ⟨fun q => by omega, fun q => absurd q c.2⟩
  · rw [hG c1]
    exact ⟨fun q => ⟨q.2, fun p a b => (c3 p a b).2, c4⟩, fun q => ⟨c1, q.1⟩⟩
theorem cpl_d (n : Int) (f : Int → Int) : cpl n f = ci (fit n (tk f (n * n))) (sols n (eF (emp f (n * n).toNat)) (emp f (n * n).toNat).length 0 (tk f (n * n))) [] := by
  unfold cpl
  rw [emp_congr (f := tk f (n * n)) (g := f) (fun p a b => tk_in (by omega))]
theorem EL_0 {n : Int} (hn : n * n ≤ 16) (f : Int → Int) : EL n (eF (emp f (n * n).toNat)) (emp f (n * n).toNat).length 0 (tk f (n * n)) := by
  have hl := emp_len f (n * n).toNat
  refine ⟨by omega, fun j a b => ?_, fun i j a b c => ?_, fun j a b => ?_, fun p a b c => ?_⟩
  · have := emp_in (eF_at ⟨a, b⟩).1; omega
  · have := eF_lt (emp_nd f (n * n).toNat) ⟨a, b, c⟩; omega
  · have := emp_in (eF_at ⟨a, b⟩).1
    rw [tk_in (by omega)]; exact this.2.2
  · rw [tk_in ⟨a, b⟩] at c
    obtain ⟨j, q1, q2, q3⟩ := eF_of (emp_all (g := f) (N := (n * n).toNat) (p := p) (by omega) c)
    exact ⟨j, q1, q2, q3⟩
theorem FS_0 {x : Me} {n : Int} {f : Int → Int} (h : LD x n f) (h9 : x 30 9 = 0) : FS x n (eF (emp f (n * n).toNat)) (emp f (n * n).toNat).length (tk f (n * n)) := by
  obtain ⟨h1, -, ⟨e1, e2⟩, c⟩ := h
  rcases c with c | ⟨c1, c2, c3, c4, c5, -⟩
  · omega
  · refine ⟨h1, c2, c3, fun p a b d => ?_, e1, e2⟩
    rw [tk_in ⟨a, b⟩] at d ⊢; exact c5 p a b d
theorem fac_mono {a b : Nat} (h : a ≤ b) : fac a ≤ fac b := by
  induction b with
  | zero => rw [show a = 0 by omega]; exact Int.le_refl _
  | succ b ih =>
    by_cases e : a = b + 1
    · rw [e]; exact Int.le_refl _
    · have := ih (by omega)
      have h2 := fac_nn b
      rw [fac]
      have := Int.mul_le_mul (show fac b ≤ fac b from Int.le_refl _) (show (1 : Int) ≤ (b : Int) + 1 by omega) (by decide) (by omega)
      omega
theorem sols_b {x : Me} {n : Int} {f : Int → Int} (h : LD x n f) (hf : fit n (tk f (n * n))) (h9 : (emp f (n * n).toNat).length ≤ 12) : ((sols n (eF (emp f (n * n).toNat)) (emp f (n * n).toNat).length 0 (tk f (n * n))).length : Int) ≤ 2000000000 := by
  have hn := sq4 h.1.1
  have hE := EL_0 hn.2.1 f
  obtain ⟨-, -, -, c⟩ := h
  rcases c with c | ⟨-, -, -, -, -, c6⟩
  · exact absurd hf c.2
  · have h1 := sols_len (e := eF (emp f (n * n).toNat)) (emp f (n * n).toNat).length 0 (tk f (n * n)) (fun j a b => ⟨hE.2.1 j a (by omega), hE.2.2.2.1 j a (by omega)⟩) (fun i j a b d => hE.2.2.1 i j a b (by omega)) c6 hf
    have h2 := fac_mono h9
    have h3 : fac 12 = 479001600 := by decide
    omega
noncomputable def cgt (n : Int) (f : Int → Int) (w p : Int) : Int := if 0 ≤ w ∧ w < (cpl n f).length then ((cpl n f).getD w.toNat (fun _ => 0)) p else -1
def m4S (x : Me) (w p : Int) : Me := up (up (up (up x 30 10 w) 30 11 p) 30 12 0) 30 13 (-1)
theorem m4S_f (x : Me) (w p : Int) : m4S x w p 30 10 = w ∧ m4S x w p 30 11 = p ∧ m4S x w p 30 12 = 0 ∧ m4S x w p 30 13 = -1 ∧ (∀ b, b ≠ 10 → b ≠ 11 → b ≠ 12 → b ≠ 13 → m4S x w p 30 b = x 30 b) ∧ ∀ a, a ≠ 30 → m4S x w p a = x a := by
  unfold m4S
  refine ⟨by simp [up], by simp [up], by simp [up], by simp [up], fun b b1 b2 b3 b4 => by simp [up, b1, b2, b3, b4], fun a a1 => by funext b; simp [up, a1]⟩
theorem LD_of {x y : Me} {n : Int} {f : Int → Int} (h : LD x n f) (h1 : ∀ b, b ≠ 10 → b ≠ 11 → b ≠ 12 → b ≠ 13 → y 30 b = x 30 b) (h2 : ∀ a, a ≠ 30 → y a = x a) : LD y n f := by
  obtain ⟨a1, ⟨G, g1, g2⟩, ⟨e1, e2⟩, c⟩ := h
  have hT : ∀ G, ST x n G → ST y n G := fun G q => ST_of q (h2 32 (by omega)) (h2 33 (by omega)) (h2 34 (by omega))
  refine ⟨SB_of a1 (h1 7 (by omega) (by omega) (by omega) (by omega)) (h1 8 (by omega) (by omega) (by omega) (by omega)) (h2 35 (by omega)), ⟨G, hT G g1, g2⟩, ⟨by rw [h1 6 (by omega) (by omega) (by omega) (by omega)]; exact e1, fun j a b => by rw [h2 36 (by omega)]; exact e2 j a b⟩, ?_⟩
  rw [h1 9 (by omega) (by omega) (by omega) (by omega), h2 31 (by omega)]
  rcases c with c | ⟨c1, c2, c3⟩
  · exact Or.inl c
  · exact Or.inr ⟨c1, hT _ c2, c3⟩
