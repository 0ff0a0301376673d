set_option maxHeartbeats 4000000 in
theorem c_X11_crossings (l : Launch) (g : Gl) (x : Me) (sq : Int) (tot : Int)  (hS : HS x) (r_sq : -2147483648 ≤ sq ∧ sq < 2147483648) (r_tot : -2147483648 ≤ tot ∧ tot < 2147483648) (hok : (0 ≤ sq ∧ sq < x 0 5) ∧ (0 ≤ tot ∧ tot ≤ 8991) ∧ (x (10 + sq.toNat) 1 ≤ 6)) : ctQ l g yX11_crossings cX11_crossings 4 (some .int) 61 1227 [.ref (gA g 0), .int (zi sq), .int (zi tot)] x (QIu g (fun z x' => (z = crf (x (10 + sq.toNat) 1) (nc x sq.toNat) (x (10 + sq.toNat) 1).toNat (fun _ => false) tot) ∧ x' = x)) := by
  refine ct_start (own := RX11) (lv := [(0, .ref (gA g 0)), (1, .int (zi sq)), (2, .int (zi tot))]) (plainFor_of_name (by decide)) rfl (Nat.le_of_ble_eq_true rfl) rfl ?_
  intro Γ hΓ hO hr hQ _
  have hS1 := hS.1
  refine z_aload_n (pc := 0) hO 0 dX11_crossings_0 rfl rfl ?_
  refine z_iload_n (pc := 1) hO 1 dX11_crossings_1 rfl rfl ?_
  refine z_callVRq (pc := 2) hO (As := [.int (zi sq)]) (st := []) (c_X11_figureOf (qL Γ) g x sq (by first | assumption | omega) (by first | assumption | omega) (by first | assumption | omega)) k_X11_56 isO_0 rfl (Nat.le_of_ble_eq_true rfl) (by decide) (by decide) ⟨by decide, by decide⟩ dX11_crossings_2 (fun z1 h3 => ?_)
  obtain ⟨q, hzq, heq, hFq⟩ := h3
  subst hzq
  have htq : sq.toNat = q := by omega
  (try rw [htq] at hok)
  (try rw [htq] at hno)
  have h9q := hFq.1
  have hsq := hFq.2.1
  have hqqq := sq9 hsq
  refine z_astore_n (pc := 5) hO (lv' := [(3, .ref (gA g (10 + q))), (0, .ref (gA g 0)), (1, .int (zi sq)), (2, .int (zi tot))]) dX11_crossings_5 rfl (by decide) rfl ?_
  refine z_iload_n (pc := 6) hO 3 dX11_crossings_6 rfl rfl ?_
  refine z_iconst (pc := 7) hO dX11_crossings_7 ?_
  refine z_sipush (pc := 8) hO dX11_crossings_8 (by decide) ?_
  refine z_callSVq (pc := 11) hO (As := [.int (zi tot), .int (zi 0), .int (zi 8991)]) (st := []) (c_X11_requireRange (qL Γ) g x tot 0 8991 (by first | assumption | omega) (by first | assumption | omega) (by first | assumption | omega) (by first | assumption | omega)) k_X11_45 rfl (Nat.le_of_ble_eq_true rfl) (by decide) (by decide) ⟨by decide, by decide⟩ dX11_crossings_11 (fun h6 => ?_)
  refine z_aload_n (pc := 14) hO 0 dX11_crossings_14 rfl rfl ?_
  refine z_callVIp (pc := 15) hO (As := []) (st := []) (c_X1_side (qL Γ) g x q (by first | assumption | omega)) k_X11_94 (isO_fig (by omega : q < 9)) rfl (Nat.le_of_ble_eq_true rfl) (by decide) (by decide) ⟨by decide, by decide⟩ dX11_crossings_15 ?_
  refine z_bipush (pc := 18) hO dX11_crossings_18 (by decide) ?_
  refine z_icmp_gt (pc := 20) hO (tgt := 27) dX11_crossings_20 (by decide) (by omega) (by omega) (fun b7 => ?_) (fun b7 => ?_)
  · refine z_iconst (pc := 27) hO dX11_crossings_27 ?_
    refine z_callSVq (pc := 28) hO (As := [.int (zi 0)]) (st := []) (c_X11_requireState (qL Γ) g x 0 (by first | assumption | omega) (by first | assumption | omega)) k_X11_80 rfl (Nat.le_of_ble_eq_true rfl) (by decide) (by decide) ⟨by decide, by decide⟩ dX11_crossings_28 (fun h10 => ?_)
    refine z_aload_n (pc := 31) hO 0 dX11_crossings_31 rfl rfl ?_
    refine z_iconst (pc := 32) hO dX11_crossings_32 ?_
    refine z_iconst (pc := 33) hO dX11_crossings_33 ?_
    refine z_iload_n (pc := 34) hO 3 dX11_crossings_34 rfl rfl ?_
    refine z_callSIq (pc := 35) hO (As := [.ref (gA g (10 + q)), .int (zi 0), .int (zi 0), .int (zi tot)]) (st := []) (c_X11_countCrossings (qL Γ) g x q (x (10 + q) 1).toNat 0 0 tot (fun _ => false) hFq (by omega) ⟨by omega, by omega⟩ ⟨by omega, by omega⟩ (fun d _ _ => ⟨fun e => absurd (by have := bnd2_r (a := 0) (b := p2 d) (by omega); omega) e, fun e => Bool.noConfusion e⟩) ⟨by omega, by omega⟩) k_X11_200 rfl (Nat.le_of_ble_eq_true rfl) (by omega) (by omega) ⟨by decide, by decide⟩ dX11_crossings_35 (fun z11 h13 => ?_)
    have hz := h13
    exact z_iret (pc := 38) hO hr hQ rfl dX11_crossings_38 ⟨by first | (rw [htq]; exact hz; done) | (exfalso; omega), rfl⟩
  · refine z_iconst (pc := 23) hO dX11_crossings_23 ?_
    refine z_goto (pc := 24) hO (tgt := 28) dX11_crossings_24 (by decide) ?_
    refine z_callSVq (pc := 28) hO (As := [.int (zi 1)]) (st := []) (c_X11_requireState (qL Γ) g x 1 (by first | assumption | omega) (by first | assumption | omega)) k_X11_80 rfl (Nat.le_of_ble_eq_true rfl) (by decide) (by decide) ⟨by decide, by decide⟩ dX11_crossings_28 (fun h16 => ?_)
    refine z_aload_n (pc := 31) hO 0 dX11_crossings_31 rfl rfl ?_
    refine z_iconst (pc := 32) hO dX11_crossings_32 ?_
    refine z_iconst (pc := 33) hO dX11_crossings_33 ?_
    refine z_iload_n (pc := 34) hO 3 dX11_crossings_34 rfl rfl ?_
    refine z_callSIq (pc := 35) hO (As := [.ref (gA g (10 + q)), .int (zi 0), .int (zi 0), .int (zi tot)]) (st := []) (c_X11_countCrossings (qL Γ) g x q (x (10 + q) 1).toNat 0 0 tot (fun _ => false) hFq (by omega) ⟨by omega, by omega⟩ ⟨by omega, by omega⟩ (fun d _ _ => ⟨fun e => absurd (by have := bnd2_r (a := 0) (b := p2 d) (by omega); omega) e, fun e => Bool.noConfusion e⟩) ⟨by omega, by omega⟩) k_X11_200 rfl (Nat.le_of_ble_eq_true rfl) (by omega) (by omega) ⟨by decide, by decide⟩ dX11_crossings_35 (fun z17 h19 => ?_)
    have hz := h19
    exact z_iret (pc := 38) hO hr hQ rfl dX11_crossings_38 ⟨by first | (rw [htq]; exact hz; done) | (exfalso; omega), rfl⟩

set_option maxHeartbeats 4000000 in
theorem x_X11_crossings (l : Launch) (hl : l.stackTraces = false) (g : Gl) (x : Me) (sq : Int) (tot : Int)  (hS : HS x) (r_sq : -2147483648 ≤ sq ∧ sq < 2147483648) (r_tot : -2147483648 ≤ tot ∧ tot < 2147483648) (hno : ¬ ((0 ≤ sq ∧ sq < x 0 5) ∧ (0 ≤ tot ∧ tot ≤ 8991) ∧ (x (10 + sq.toNat) 1 ≤ 6))) : cxQ l g yX11_crossings cX11_crossings 4 (some .int) 61 1227 1 6 [.ref (gA g 0), .int (zi sq), .int (zi tot)] x (QIu g (fun z x' => False)) (fun E => E = exc (0 ≤ sq ∧ sq < x 0 5) (0 ≤ tot ∧ tot ≤ 8991)) := by
  refine cx_start (own := RX11) (lv := [(0, .ref (gA g 0)), (1, .int (zi sq)), (2, .int (zi tot))]) (by decide) rfl (Nat.le_of_ble_eq_true rfl) rfl ?_
  intro Γ hΓ hO hr hQ hh
  have hl : (qL Γ).stackTraces = false := by rw [hΓ]; exact hl
  have hS1 := hS.1
  refine z_aload_n (pc := 0) hO 0 dX11_crossings_0 rfl rfl ?_
  refine z_iload_n (pc := 1) hO 1 dX11_crossings_1 rfl rfl ?_
  rcases Classical.em (0 ≤ sq ∧ sq < x 0 5) with hc1 | hc1
  · skip
    refine z_callVRq (pc := 2) hO (As := [.int (zi sq)]) (st := []) (c_X11_figureOf (qL Γ) g x sq (by first | assumption | omega) (by first | assumption | omega) (by first | assumption | omega)) k_X11_56 isO_0 rfl (Nat.le_of_ble_eq_true rfl) (by decide) (by decide) ⟨by decide, by decide⟩ dX11_crossings_2 (fun z2 h4 => ?_)
    obtain ⟨q, hzq, heq, hFq⟩ := h4
    subst hzq
    have htq : sq.toNat = q := by omega
    (try rw [htq] at hok)
    (try rw [htq] at hno)
    have h9q := hFq.1
    have hsq := hFq.2.1
    have hqqq := sq9 hsq
    refine z_astore_n (pc := 5) hO (lv' := [(3, .ref (gA g (10 + q))), (0, .ref (gA g 0)), (1, .int (zi sq)), (2, .int (zi tot))]) dX11_crossings_5 rfl (by decide) rfl ?_
    refine z_iload_n (pc := 6) hO 3 dX11_crossings_6 rfl rfl ?_
    refine z_iconst (pc := 7) hO dX11_crossings_7 ?_
    refine z_sipush (pc := 8) hO dX11_crossings_8 (by decide) ?_
    rcases Classical.em (0 ≤ tot ∧ tot ≤ 8991) with hc5 | hc5
    · skip
      refine z_callSVq (pc := 11) hO (As := [.int (zi tot), .int (zi 0), .int (zi 8991)]) (st := []) (c_X11_requireRange (qL Γ) g x tot 0 8991 (by first | assumption | omega) (by first | assumption | omega) (by first | assumption | omega) (by first | assumption | omega)) k_X11_45 rfl (Nat.le_of_ble_eq_true rfl) (by decide) (by decide) ⟨by decide, by decide⟩ dX11_crossings_11 (fun h8 => ?_)
      refine z_aload_n (pc := 14) hO 0 dX11_crossings_14 rfl rfl ?_
      refine z_callVIp (pc := 15) hO (As := []) (st := []) (c_X1_side (qL Γ) g x q (by first | assumption | omega)) k_X11_94 (isO_fig (by omega : q < 9)) rfl (Nat.le_of_ble_eq_true rfl) (by decide) (by decide) ⟨by decide, by decide⟩ dX11_crossings_15 ?_
      refine z_bipush (pc := 18) hO dX11_crossings_18 (by decide) ?_
      refine z_icmp_gt (pc := 20) hO (tgt := 27) dX11_crossings_20 (by decide) (by omega) (by omega) (fun b9 => ?_) (fun b9 => ?_)
      · refine z_iconst (pc := 27) hO dX11_crossings_27 ?_
        rcases Classical.em (0 = 1) with hc10 | hc10
        · skip
          refine z_callSVq (pc := 28) hO (As := [.int (zi 0)]) (st := []) (c_X11_requireState (qL Γ) g x 0 (by first | assumption | omega) (by first | assumption | omega)) k_X11_80 rfl (Nat.le_of_ble_eq_true rfl) (by decide) (by decide) ⟨by decide, by decide⟩ dX11_crossings_28 (fun h13 => ?_)
          exfalso; omega
        · exact z_xcallSV (pc := 28) hO (As := [.int (zi 0)]) (st := []) hQ hh (by intro E hE; rw [hE]; exact exc_is (by first | trivial | omega | (rw [htq]; omega)) (by first | trivial | omega)) (x_X11_requireState (qL Γ) hl g x 0 (by first | assumption | omega) (by first | assumption | omega)) k_X11_80 rfl (Nat.le_of_ble_eq_true rfl) (by decide) (by decide) ⟨by decide, by decide⟩ dX11_crossings_28 (fun _ h => h.elim)
      · refine z_iconst (pc := 23) hO dX11_crossings_23 ?_
        refine z_goto (pc := 24) hO (tgt := 28) dX11_crossings_24 (by decide) ?_
        rcases Classical.em (1 = 1) with hc14 | hc14
        · skip
          refine z_callSVq (pc := 28) hO (As := [.int (zi 1)]) (st := []) (c_X11_requireState (qL Γ) g x 1 (by first | assumption | omega) (by first | assumption | omega)) k_X11_80 rfl (Nat.le_of_ble_eq_true rfl) (by decide) (by decide) ⟨by decide, by decide⟩ dX11_crossings_28 (fun h17 => ?_)
          exfalso; omega
        · exact z_xcallSV (pc := 28) hO (As := [.int (zi 1)]) (st := []) hQ hh (by intro E hE; rw [hE]; exact exc_is (by first | trivial | omega | (rw [htq]; omega)) (by first | trivial | omega)) (x_X11_requireState (qL Γ) hl g x 1 (by first | assumption | omega) (by first | assumption | omega)) k_X11_80 rfl (Nat.le_of_ble_eq_true rfl) (by decide) (by decide) ⟨by decide, by decide⟩ dX11_crossings_28 (fun _ h => h.elim)
    · exact z_xcallSV (pc := 11) hO (As := [.int (zi tot), .int (zi 0), .int (zi 8991)]) (st := []) hQ hh (by intro E hE; rw [hE]; exact exc_ia (by first | trivial | omega) (by omega)) (x_X11_requireRange (qL Γ) hl g x tot 0 8991 (by first | assumption | omega) (by first | assumption | omega) (by first | assumption | omega) (by first | assumption | omega)) k_X11_45 rfl (Nat.le_of_ble_eq_true rfl) (by decide) (by decide) ⟨by decide, by decide⟩ dX11_crossings_11 (fun _ h => h.elim)
  · exact z_xcallVR (pc := 2) hO (As := [.int (zi sq)]) (st := []) hQ hh (by intro E hE; rw [hE]; exact exc_io (by omega)) (x_X11_figureOf (qL Γ) hl g x sq (by first | assumption | omega) (by first | assumption | omega) (by first | assumption | omega)) k_X11_56 isO_0 rfl (Nat.le_of_ble_eq_true rfl) (by decide) (by decide) ⟨by decide, by decide⟩ dX11_crossings_2 (fun _ _ h => h.elim)

