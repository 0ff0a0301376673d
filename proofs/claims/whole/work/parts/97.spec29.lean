theorem bit65 : ∀ k : Fin 16, bnd2 (shr2 65535 (k.val : Int)) 1 = 1 := by decide +kernel
theorem bit65i {p : Int} (h : 0 ≤ p ∧ p < 16) : bnd2 (shr2 65535 p) 1 = 1 := by
  have := bit65 ⟨p.toNat, by omega⟩
  dsimp only at this
  rw [Int.toNat_of_nonneg h.1] at this
  exact this
theorem emp_tk (n : Int) (f : Int → Int) : emp (tk f (n * n)) (n * n).toNat = emp f (n * n).toNat := emp_congr (fun p a b => tk_in (by omega))
theorem tk_rng {f : Int → Int} (hf : ∀ p, 0 ≤ f p ∧ f p ≤ 999) (i p : Int) : 0 ≤ tk f i p ∧ tk f i p ≤ 999 := by
  unfold tk; split
  · exact hf p
  · omega
theorem EHf {n : Int} {f : Int → Int} (hn : 1 ≤ n ∧ n ≤ 4) (hf : ∀ p, 0 ≤ f p ∧ f p ≤ 999) : EH n (emp f (n * n).toNat).length (eF (emp f (n * n).toNat)) (tk f (n * n)) := by
  have h4 := sq4 hn
  obtain ⟨h1, h2, h3, h5, -⟩ := EL_0 (n := n) h4.2.1 f
  exact ⟨hn, by omega, h2, h5, h3, tk_rng hf _⟩
theorem CPS (n : Int) (f : Int → Int) : SLS n (emp f (n * n).toNat).length (eF (emp f (n * n).toNat)) (tk f (n * n)) = cpl n f := by
  rw [cpl_d]; unfold SLS; rw [Int.toNat_natCast]
theorem usc_tk {n : Int} {f : Int → Int} (hf0 : ∀ p, 0 ≤ f p) (hf : fit n (tk f (n * n))) : ∀ i : Nat, (i : Int) ≤ n * n → usc n (tk f i) + (emp f i).length = i
  | 0, _ => by
    rw [show ((0 : Nat) : Int) = 0 from rfl, tk_0, usc0]; rfl
  | i + 1, hi => by
    have ih := usc_tk hf0 hf i (by omega)
    rw [show ((i + 1 : Nat) : Int) = (i : Int) + 1 by omega, emp, List.length_append]
    by_cases h : f i = 0
    · rw [tk_s0 (by omega) h, if_pos h]; simp; omega
    · rw [tk_s (by omega), if_neg h]
      have hle := hf.2.1 i (by omega) (by omega)
      rw [tk_in (by omega)] at hle
      have h0 := hf0 i
      rw [usc_uf (by omega) (tk_out (by omega)) ⟨by omega, hle⟩ (by
        rintro ⟨-, r, a, b, c⟩
        by_cases hr : r < i
        · rw [tk_in ⟨a, hr⟩] at c
          have := hf.2.2 i (by omega) (by omega) r a b (by omega) (by rw [tk_in (by omega)]; exact h)
          rw [tk_in (by omega), tk_in (by omega)] at this
          exact this c.symm
        · rw [tk_out (by omega)] at c; omega)]
      simp; omega
theorem CPB {n : Int} {f : Int → Int} (hn : 1 ≤ n ∧ n ≤ 4) (hf : ∀ p, 0 ≤ f p ∧ f p ≤ 999) (h9 : (emp f (n * n).toNat).length ≤ 12) : ((cpl n f).length : Int) ≤ 2000000000 := by
  rw [cpl_d]
  by_cases hq : fit n (tk f (n * n))
  · rw [ci_t hq]
    have h4 := sq4 hn
    have hE := EL_0 h4.2.1 f
    have hu := usc_tk (fun p => (hf p).1) hq (n * n).toNat (by omega)
    rw [Int.toNat_of_nonneg (by omega)] at hu
    have h1 := sols_len (e := eF (emp f (n * n).toNat)) (emp f (n * n).toNat).length 0 (tk f (n * n)) (fun j a b => ⟨hE.2.1 j a (by omega), hE.2.2.2.1 j a (by omega)⟩) (fun i j a b d => hE.2.2.1 i j a b (by omega)) hu hq
    have h2 := fac_mono h9
    have h3 : fac 12 = 479001600 := by decide
    omega
  · rw [ci_f hq]; simp
theorem min_cgt {n : Int} {f : Int → Int} {w p z : Int} (hw : 0 ≤ w) (hz : z = min ((cpl n f).length : Int) (w + 1)) : (z ≤ w → cgt n f w p = -1) ∧ (w < z → z = w + 1 ∧ cgt n f w p = ((cpl n f).getD (z - 1).toNat (fun _ => 0)) p) := by
  unfold cgt
  constructor
  · intro h; rw [if_neg (by omega)]
  · intro h; rw [if_pos (by omega), show (z - 1).toNat = w.toNat by omega]; exact ⟨by omega, rfl⟩
theorem cgt_big {n : Int} {f : Int → Int} {w p : Int} (h : ((cpl n f).length : Int) ≤ w) : cgt n f w p = -1 := by
  unfold cgt; rw [if_neg (by omega)]
theorem ch_s {n p v : Int} {G : Int → Int} (hv : 1 ≤ v) : (fit n (uf G p v) → vls (CH n G p) v.toNat = vls (CH n G p) (v - 1).toNat ++ [v]) ∧ (¬ fit n (uf G p v) → vls (CH n G p) v.toNat = vls (CH n G p) (v - 1).toNat) := by
  rw [vls_s _ hv]
  exact ⟨fun h => by rw [CH_in h], fun h => by unfold CH; rw [ci_f h, List.append_nil]⟩
