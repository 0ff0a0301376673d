set_option maxHeartbeats 600000 in
theorem c_X8_seek (l : Launch) (g : Gl) (x : Me) (w : Int) (p : Int) (n : Int) (f : Int → Int) (hL : LD x n f) (hE9 : (emp f (n * n).toNat).length ≤ 9) (hp : 0 ≤ p ∧ p < n * n) (hw : -1 ≤ w ∧ w ≤ 2147483647) : ctQ l g yX8_seek cX8_seek 3 none 61 1224 [.ref (gA g 30), .int (zi w), .int (zi p)] x (QVu g (fun x' => S9 (m4S x w p) x' (cpl n f) ∧ ∀ a, a < 30 ∨ 36 < a → x' a = x a)) := by
  refine ct_start (own := RX8) (lv := [(0, .ref (gA g 30)), (1, .int (zi w)), (2, .int (zi p))]) (plainFor_of_name (by decide)) rfl (Nat.le_of_ble_eq_true rfl) rfl ?_
  intro Γ hΓ hO hr hQ _
  refine z_aload_n (pc := 0) hO 0 dX8_seek_0 rfl rfl ?_
  refine z_iload_n (pc := 1) hO 1 dX8_seek_1 rfl rfl ?_
  refine pf_X8_wanted (pc := 2) hO f_X8_93 dX8_seek_2 (fun m1 e2 => ?_)
  refine z_aload_n (pc := 5) hO 0 dX8_seek_5 rfl rfl ?_
  refine z_iload_n (pc := 6) hO 2 dX8_seek_6 rfl rfl ?_
  refine pf_X8_wantedPlace (pc := 7) hO f_X8_96 dX8_seek_7 (fun m3 e4 => ?_)
  refine z_aload_n (pc := 10) hO 0 dX8_seek_10 rfl rfl ?_
  refine z_iconst (pc := 11) hO dX8_seek_11 ?_
  refine pf_X8_found (pc := 12) hO f_X8_87 dX8_seek_12 (fun m5 e6 => ?_)
  refine z_aload_n (pc := 15) hO 0 dX8_seek_15 rfl rfl ?_
  refine z_iconst (pc := 16) hO dX8_seek_16 ?_
  refine pf_X8_answer (pc := 17) hO f_X8_90 dX8_seek_17 (fun m7 e8 => ?_)
  have hM : m7 = m4S x w p := by subst m7 m5 m3 m1; rfl
  obtain ⟨f10, f11, f12, f13, fb, fa⟩ := m4S_f x w p
  rw [← hM] at f10 f11 f12 f13 fb fa
  have hLm := LD_of hL fb fa
  obtain ⟨G, hG1, hG2, hG3, hG4⟩ := LD_G hLm
  have hft := LD_fit hLm hG3
  have h4 := sq4 hL.1.1
  have hEL := EL_0 h4.2.1 f
  refine z_aload_n (pc := 20) hO 0 dX8_seek_20 rfl rfl ?_
  refine z_callVB (pc := 21) hO (As := []) (st := []) (c_X8_fits (qL Γ) g m7 n G (by exact hLm.1) (by exact hG1) (by exact hG2) (by exact hG4)) k_X8_99 isO_30 rfl (Nat.le_of_ble_eq_true rfl) (by decide) (by decide) ⟨by decide, by decide⟩ dX8_seek_21 (fun pb9 => ?_) (fun pb9 => ?_)
  · skip
    have hfit := hft.mp pb9
    have hFS := FS_0 hLm pb9.1
    have hsb := sols_b hL hfit (by omega)
    refine z_if_eq (pc := 24) hO (tgt := 32) dX8_seek_24 (by decide) (by decide) (fun h => absurd h (by decide)) (fun _ => ?_)
    refine z_aload_n (pc := 27) hO 0 dX8_seek_27 rfl rfl ?_
    refine z_iconst (pc := 28) hO dX8_seek_28 ?_
    refine z_callSV (pc := 29) hO (As := [.ref (gA g 30), .int (zi 0)]) (st := []) (c_X8_fillFrom (qL Γ) g (emp f (n * n).toNat).length m7 0 n (emp f (n * n).toNat).length (tk f (n * n)) (eF (emp f (n * n).toNat)) hFS hEL hfit f13 (by rw [f11]; exact hp) (by rw [f12]; omega) (by rw [f10]; exact hw) (by omega)) k_X8_103 rfl (Nat.le_of_ble_eq_true rfl) (by omega) (by omega) ⟨by decide, by decide⟩ dX8_seek_29 (fun m11 h12 => ?_)
    obtain ⟨-, hS9, hq1, hq2⟩ := h12
    exact z_vret (pc := 32) hO hr hQ dX8_seek_32 (by first | (first | (refine ⟨?_, fun a ha => by rw [hq2 a (by omega), fa a (by omega)]⟩; rw [cpl_d, ci_t hfit, ← hM]; exact hS9) | (refine ⟨?_, fun a ha => fa a (by omega)⟩; rw [cpl_d, ci_f hnf, ← hM]; exact S9_0 f13); done) | (exfalso; omega))
  · skip
    have hnf : ¬ fit n (tk f (n * n)) := fun q => pb9 (hft.mpr q)
    refine z_if_eq (pc := 24) hO (tgt := 32) dX8_seek_24 (by decide) (by decide) (fun _ => ?_) (fun h => absurd h (by decide))
    exact z_vret (pc := 32) hO hr hQ dX8_seek_32 (by first | (first | (refine ⟨?_, fun a ha => by rw [hq2 a (by omega), fa a (by omega)]⟩; rw [cpl_d, ci_t hfit, ← hM]; exact hS9) | (refine ⟨?_, fun a ha => fa a (by omega)⟩; rw [cpl_d, ci_f hnf, ← hM]; exact S9_0 f13); done) | (exfalso; omega))

set_option maxHeartbeats 600000 in
theorem c_X8_countAll (l : Launch) (g : Gl) (x : Me)  (n : Int) (f : Int → Int) (hL : LD x n f) (hE9 : (emp f (n * n).toNat).length ≤ 9) : ctQ l g yX8_countAll cX8_countAll 1 (some .int) 62 1246 [.ref (gA g 30)] x (QIu g (fun z x' => z = (cpl n f).length ∧ ∀ a, a < 30 ∨ 36 < a → x' a = x a)) := by
  refine ct_start (own := RX8) (lv := [(0, .ref (gA g 30))]) (plainFor_of_name (by decide)) rfl (Nat.le_of_ble_eq_true rfl) rfl ?_
  intro Γ hΓ hO hr hQ _
  have h4 := sq4 hL.1.1
  refine z_aload_n (pc := 0) hO 0 dX8_countAll_0 rfl rfl ?_
  refine z_iconst (pc := 1) hO dX8_countAll_1 ?_
  refine z_iconst (pc := 2) hO dX8_countAll_2 ?_
  refine z_callVV (pc := 3) hO (As := [.int (zi (-1)), .int (zi 0)]) (st := []) (c_X8_seek (qL Γ) g x (-1) 0 n f (by first | assumption | omega) (by first | assumption | omega) (by first | assumption | omega) (by first | assumption | omega)) k_X8_84 isO_30 rfl (Nat.le_of_ble_eq_true rfl) (by decide) (by decide) ⟨by decide, by decide⟩ dX8_countAll_3 (fun m2 h3 => ?_)
  obtain ⟨hS9, hfr⟩ := h3
  have hz : m2 30 12 = (cpl n f).length := by
      obtain ⟨f10, f11, f12, f13, fb, fa⟩ := m4S_f x (-1) 0
      unfold S9 at hS9; rw [f10, f12] at hS9
      rcases hS9 with ⟨q, _⟩ | ⟨_, _, q⟩
      · omega
      · omega
  refine z_aload_n (pc := 6) hO 0 dX8_countAll_6 rfl rfl ?_
  refine gf_X8_found (pc := 7) hO f_X8_87 dX8_countAll_7 ?_
  exact z_iret (pc := 10) hO hr hQ rfl dX8_countAll_10 (by first | (exact ⟨hz, hfr⟩; done) | (exfalso; omega))

set_option maxHeartbeats 600000 in
theorem c_X8_numberIn (l : Launch) (g : Gl) (x : Me) (w : Int) (p : Int) (n : Int) (f : Int → Int) (hL : LD x n f) (hE9 : (emp f (n * n).toNat).length ≤ 9) (hp : 0 ≤ p ∧ p < n * n) (hw : 0 ≤ w ∧ w ≤ 2147483647) : ctQ l g yX8_numberIn cX8_numberIn 3 (some .int) 62 1246 [.ref (gA g 30), .int (zi w), .int (zi p)] x (QIu g (fun z x' => z = cgt n f w p ∧ ∀ a, a < 30 ∨ 36 < a → x' a = x a)) := by
  refine ct_start (own := RX8) (lv := [(0, .ref (gA g 30)), (1, .int (zi w)), (2, .int (zi p))]) (plainFor_of_name (by decide)) rfl (Nat.le_of_ble_eq_true rfl) rfl ?_
  intro Γ hΓ hO hr hQ _
  refine z_aload_n (pc := 0) hO 0 dX8_numberIn_0 rfl rfl ?_
  refine z_iload_n (pc := 1) hO 1 dX8_numberIn_1 rfl rfl ?_
  refine z_iload_n (pc := 2) hO 2 dX8_numberIn_2 rfl rfl ?_
  refine z_callVV (pc := 3) hO (As := [.int (zi w), .int (zi p)]) (st := []) (c_X8_seek (qL Γ) g x w p n f (by first | assumption | omega) (by first | assumption | omega) (by first | assumption | omega) (by first | assumption | omega)) k_X8_84 isO_30 rfl (Nat.le_of_ble_eq_true rfl) (by decide) (by decide) ⟨by decide, by decide⟩ dX8_numberIn_3 (fun m2 h3 => ?_)
  obtain ⟨hS9, hfr⟩ := h3
  have hz : m2 30 13 = cgt n f w p := by
      obtain ⟨f10, f11, f12, f13, fb, fa⟩ := m4S_f x w p
      unfold S9 at hS9; rw [f10, f11, f12] at hS9
      unfold cgt
      rcases hS9 with ⟨q, q2, _⟩ | ⟨q, q2, _⟩
      · rw [if_pos (by omega), q2, Int.sub_zero]
      · rw [if_neg (by omega), q2]
  refine z_aload_n (pc := 6) hO 0 dX8_numberIn_6 rfl rfl ?_
  refine gf_X8_answer (pc := 7) hO f_X8_90 dX8_numberIn_7 ?_
  exact z_iret (pc := 10) hO hr hQ rfl dX8_numberIn_10 (by first | (exact ⟨hz, hfr⟩; done) | (exfalso; omega))

