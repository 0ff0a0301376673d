


set_option maxHeartbeats 600000 in
theorem c_X11_change (l : Launch) (g : Gl) (x : Me) (sq : Int) (ch : Int) (b : Int)  (hS : HS x) (r_sq : -2147483648 ≤ sq ∧ sq < 2147483648) (r_ch : -2147483648 ≤ ch ∧ ch < 2147483648) (r_b : -2147483648 ≤ b ∧ b < 2147483648) (hok : (0 ≤ sq ∧ sq < x 0 5) ∧ ((0 ≤ ch ∧ ch ≤ 5) ∧ 0 ≤ b ∧ b ≤ mby ch (x (10 + sq.toNat) 1)) ∧ (ch = 2 → ∀ p, 0 ≤ p → p < x (10 + sq.toNat) 1 * x (10 + sq.toNat) 1 → nc x sq.toNat p = 0 ∨ (1 ≤ b - nc x sq.toNat p ∧ b - nc x sq.toNat p ≤ 999))) : ctQ l g yX11_change cX11_change 5 (some .int) 6 135 [.ref (gA g 0), .int (zi sq), .int (zi ch), .int (zi b)] x (QIu g (fun z x' => z = chg (x (10 + sq.toNat) 1) (nc x sq.toNat) (cha (x (10 + sq.toNat) 1) (nc x sq.toNat) ch b) ∧ nc x' sq.toNat = cha (x (10 + sq.toNat) 1) (nc x sq.toNat) ch b ∧ ∀ a, a ≠ 20 + sq.toNat → a ≠ 10 + 8 → a ≠ 20 + 8 → x' a = x a)) := by
  refine ct_start (own := RX11) (lv := [(0, .ref (gA g 0)), (1, .int (zi sq)), (2, .int (zi ch)), (3, .int (zi b))]) (plainFor_of_name (by decide)) rfl (Nat.le_of_ble_eq_true rfl) rfl ?_
  intro Γ hΓ hO hr hQ _
  have hS1 := hS.1
  refine z_aload_n (pc := 0) hO 0 dX11_change_0 rfl rfl ?_
  refine z_iload_n (pc := 1) hO 1 dX11_change_1 rfl rfl ?_
  refine z_callVRq (pc := 2) hO (As := [.int (zi sq)]) (st := []) (c_X11_figureOf (qL Γ) g x sq (by first | assumption | omega) (by first | assumption | omega) (by first | assumption | omega)) k_X11_56 isO_0 rfl (Nat.le_of_ble_eq_true rfl) (by decide) (by decide) ⟨by decide, by decide⟩ dX11_change_2 (fun z1 h3 => ?_)
  obtain ⟨q, hzq, heq, hFq⟩ := h3
  subst hzq
  have htq : sq.toNat = q := by omega
  (try rw [htq] at hok)
  (try rw [htq] at hno)
  have h9q := hFq.1
  have hsq := hFq.2.1
  have hqqq := sq9 hsq
  refine z_astore (pc := 5) hO (lv' := [(4, .ref (gA g (10 + q))), (0, .ref (gA g 0)), (1, .int (zi sq)), (2, .int (zi ch)), (3, .int (zi b))]) dX11_change_5 (by decide) rfl ?_
  refine z_iload_n (pc := 7) hO 3 dX11_change_7 rfl rfl ?_
  refine z_iconst (pc := 8) hO dX11_change_8 ?_
  refine z_iconst (pc := 9) hO dX11_change_9 ?_
  refine z_callSVq (pc := 10) hO (As := [.int (zi ch), .int (zi 0), .int (zi 5)]) (st := []) (c_X11_requireRange (qL Γ) g x ch 0 5 (by first | assumption | omega) (by first | assumption | omega) (by first | assumption | omega) (by first | assumption | omega)) k_X11_45 rfl (Nat.le_of_ble_eq_true rfl) (by decide) (by decide) ⟨by decide, by decide⟩ dX11_change_10 (fun h6 => ?_)
  refine z_iload_n (pc := 13) hO 4 dX11_change_13 rfl rfl ?_
  refine z_iconst (pc := 14) hO dX11_change_14 ?_
  refine z_iload_n (pc := 15) hO 3 dX11_change_15 rfl rfl ?_
  refine z_aload (pc := 16) hO 0 dX11_change_16 rfl ?_
  have hmb := mby_r (ch := ch) (n := x (10 + q) 1) hsq
  refine z_callVIp (pc := 18) hO (As := []) (st := [.int (zi ch), .int (zi 0), .int (zi b)]) (c_X1_side (qL Γ) g x q (by first | assumption | omega)) k_X11_94 (isO_fig (by omega : q < 9)) rfl (Nat.le_of_ble_eq_true rfl) (by decide) (by decide) ⟨by decide, by decide⟩ dX11_change_18 ?_
  refine z_callSIp (pc := 21) hO (As := [.int (zi ch), .int (zi (x (10 + q) 1))]) (st := [.int (zi 0), .int (zi b)]) (c_X0_mostBy (qL Γ) g x ch (x (10 + q) 1) (by first | assumption | omega) (by first | assumption | omega)) k_X11_101 rfl (Nat.le_of_ble_eq_true rfl) (by decide) (by decide) ⟨by decide, by decide⟩ dX11_change_21 ?_
  refine z_callSVq (pc := 24) hO (As := [.int (zi b), .int (zi 0), .int (zi (if ch = 0 then 3 else if ch = 1 then 1 else if ch = 2 then 1998 else (x (10 + q) 1) - 1))]) (st := []) (c_X11_requireRange (qL Γ) g x b 0 (if ch = 0 then 3 else if ch = 1 then 1 else if ch = 2 then 1998 else (x (10 + q) 1) - 1) (by first | assumption | omega) (by first | assumption | omega) (by unfold mby at hmb; omega) (by unfold mby at hok; omega)) k_X11_45 rfl (Nat.le_of_ble_eq_true rfl) (by decide) (by decide) ⟨by decide, by decide⟩ dX11_change_24 (fun h9 => ?_)
  refine z_iload_n (pc := 27) hO 3 dX11_change_27 rfl rfl ?_
  refine z_iconst (pc := 28) hO dX11_change_28 ?_
  refine z_icmp_eq (pc := 29) hO (tgt := 44) dX11_change_29 (by decide) (by omega) (by omega) (fun b10 => ?_) (fun b10 => ?_)
  · refine z_aload (pc := 44) hO 0 dX11_change_44 rfl ?_
    refine z_iload_n (pc := 46) hO 4 dX11_change_46 rfl rfl ?_
    refine z_callSB (pc := 47) hO (As := [.ref (gA g (10 + q)), .int (zi b)]) (st := []) (c_X0_canComplement (qL Γ) g x q b (by first | assumption | omega) (by omega)) k_X11_110 rfl (Nat.le_of_ble_eq_true rfl) (by decide) (by decide) ⟨by decide, by decide⟩ dX11_change_47 (fun pb11 => ?_) (fun pb11 => ?_)
    · skip
      refine z_callSVq (pc := 50) hO (As := [.int (zi 1)]) (st := []) (c_X11_requireState (qL Γ) g x 1 (by first | assumption | omega) (by first | assumption | omega)) k_X11_80 rfl (Nat.le_of_ble_eq_true rfl) (by decide) (by decide) ⟨by decide, by decide⟩ dX11_change_50 (fun h14 => ?_)
      refine z_aload (pc := 53) hO 0 dX11_change_53 rfl ?_
      refine z_iload_n (pc := 55) hO 4 dX11_change_55 rfl rfl ?_
      refine z_callSI (pc := 56) hO (As := [.ref (gA g (10 + q)), .int (zi b)]) (st := []) (c_X0_complement (qL Γ) g x q b (by first | assumption | omega) (by first | assumption | omega)) k_X11_114 rfl (Nat.le_of_ble_eq_true rfl) (by decide) (by decide) ⟨by decide, by decide⟩ dX11_change_56 (fun z15 m16 h17 => ?_)
      have h56 := h17
      exact z_iret (pc := 59) hO hr hQ rfl dX11_change_59 (by first | (rw [htq, cha_2 (by omega)]; exact ⟨h56.1, h56.2.1, fun a a1 a2 a3 => h56.2.2 a a1⟩; done) | (exfalso; omega))
    · skip
      exact absurd (hok.2.2 (by omega)) pb11
  · refine z_aload (pc := 32) hO 0 dX11_change_32 rfl ?_
    refine z_aload_n (pc := 34) hO 1 dX11_change_34 rfl rfl ?_
    refine gf_X11_spare (pc := 35) hO f_X11_16 dX11_change_35 ?_
    refine z_iload_n (pc := 38) hO 3 dX11_change_38 rfl rfl ?_
    refine z_iload_n (pc := 39) hO 4 dX11_change_39 rfl rfl ?_
    refine z_callSI (pc := 40) hO (As := [.ref (gA g (10 + q)), .ref (gA g (10 + 8)), .int (zi ch), .int (zi b)]) (st := []) (c_X0_move (qL Γ) g x q 8 ch b (by first | assumption | omega) (by omega) (by omega) (by first | assumption | omega) (by unfold mby at *; omega)) k_X11_106 rfl (Nat.le_of_ble_eq_true rfl) (by decide) (by decide) ⟨by decide, by decide⟩ dX11_change_40 (fun z18 m19 h20 => ?_)
    have h40 := h20
    exact z_iret (pc := 43) hO hr hQ rfl dX11_change_43 (by first | (rw [htq, cha_n (by omega)]; exact h40; done) | (exfalso; omega))


set_option maxHeartbeats 600000 in
theorem c_X11_completions (l : Launch) (g : Gl) (x : Me) (sq : Int)  (hS : HS x) (r_sq : -2147483648 ≤ sq ∧ sq < 2147483648) (hok : (0 ≤ sq ∧ sq < x 0 5) ∧ (x (10 + sq.toNat) 1 ≤ 4 ∧ cnt (x (10 + sq.toNat) 1) (nc x sq.toNat) 0 ≤ 9)) : ctQ l g yX11_completions cX11_completions 3 (some .int) 63 1266 [.ref (gA g 0), .int (zi sq)] x (QIu g (fun z x' => z = (cpl (x (10 + sq.toNat) 1) (nc x sq.toNat)).length ∧ ∀ a, a < 30 ∨ 36 < a → x' a = x a)) := by
  refine ct_start (own := RX11) (lv := [(0, .ref (gA g 0)), (1, .int (zi sq))]) (plainFor_of_name (by decide)) rfl (Nat.le_of_ble_eq_true rfl) rfl ?_
  intro Γ hΓ hO hr hQ _
  have hS1 := hS.1
  refine z_aload_n (pc := 0) hO 0 dX11_completions_0 rfl rfl ?_
  refine z_iload_n (pc := 1) hO 1 dX11_completions_1 rfl rfl ?_
  refine z_callVRq (pc := 2) hO (As := [.int (zi sq)]) (st := []) (c_X11_figureOf (qL Γ) g x sq (by first | assumption | omega) (by first | assumption | omega) (by first | assumption | omega)) k_X11_56 isO_0 rfl (Nat.le_of_ble_eq_true rfl) (by decide) (by decide) ⟨by decide, by decide⟩ dX11_completions_2 (fun z1 h3 => ?_)
  obtain ⟨q, hzq, heq, hFq⟩ := h3
  subst hzq
  have htq : sq.toNat = q := by omega
  (try rw [htq] at hok)
  (try rw [htq] at hno)
  have h9q := hFq.1
  have hsq := hFq.2.1
  have hqqq := sq9 hsq
  refine z_astore_n (pc := 5) hO (lv' := [(2, .ref (gA g (10 + q))), (0, .ref (gA g 0)), (1, .int (zi sq))]) dX11_completions_5 rfl (by decide) rfl ?_
  refine z_aload_n (pc := 6) hO 0 dX11_completions_6 rfl rfl ?_
  refine z_callSB (pc := 7) hO (As := [.ref (gA g (10 + q))]) (st := []) (c_X11_canBeCompleted (qL Γ) g x q (by first | assumption | omega)) k_X11_138 rfl (Nat.le_of_ble_eq_true rfl) (by decide) (by decide) ⟨by decide, by decide⟩ dX11_completions_7 (fun pb4 => ?_) (fun pb4 => ?_)
  · skip
    refine z_callSVq (pc := 10) hO (As := [.int (zi 1)]) (st := []) (c_X11_requireState (qL Γ) g x 1 (by first | assumption | omega) (by first | assumption | omega)) k_X11_80 rfl (Nat.le_of_ble_eq_true rfl) (by decide) (by decide) ⟨by decide, by decide⟩ dX11_completions_10 (fun h7 => ?_)
    refine z_aload_n (pc := 13) hO 1 dX11_completions_13 rfl rfl ?_
    refine gf_X11_search (pc := 14) hO f_X11_23 dX11_completions_14 ?_
    refine z_aload_n (pc := 17) hO 0 dX11_completions_17 rfl rfl ?_
    refine z_callVV (pc := 18) hO (As := [.ref (gA g (10 + q))]) (st := []) (c_X8_load (qL Γ) g x q (by first | assumption | omega) (by first | assumption | omega)) k_X11_142 isO_30 rfl (Nat.le_of_ble_eq_true rfl) (by decide) (by decide) ⟨by decide, by decide⟩ dX11_completions_18 (fun m9 h10 => ?_)
    obtain ⟨hLD, hfr⟩ := h10
    refine z_aload_n (pc := 21) hO 1 dX11_completions_21 rfl rfl ?_
    refine gf_X11_search (pc := 22) hO f_X11_23 dX11_completions_22 ?_
    refine z_callVI (pc := 25) hO (As := []) (st := []) (c_X8_countAll (qL Γ) g m9 (x (10 + q) 1) (nc x q) (by exact hLD) (by exact emp_9 (by omega))) k_X11_146 isO_30 rfl (Nat.le_of_ble_eq_true rfl) (by decide) (by decide) ⟨by decide, by decide⟩ dX11_completions_25 (fun z11 m12 h13 => ?_)
    have hz := h13
    exact z_iret (pc := 28) hO hr hQ rfl dX11_completions_28 (by first | (rw [htq]; exact ⟨hz.1, fun a ha => (hz.2 a ha).trans (hfr a ha)⟩; done) | (exfalso; omega))
  · skip
    exact absurd hok.2 pb4



