set_option maxHeartbeats 4000000 in
theorem c_X11_stack (l : Launch) (g : Gl) (x : Me) (sq : Int) (ot : Int)  (hS : HS x) (r_sq : -2147483648 ≤ sq ∧ sq < 2147483648) (r_ot : -2147483648 ≤ ot ∧ ot < 2147483648) (hok : ((0 ≤ sq ∧ sq < x 0 5) ∧ 0 ≤ ot ∧ ot < x 0 5) ∧ ((x (10 + sq.toNat) 1 = x (10 + ot.toNat) 1 ∧ (ful (x (10 + sq.toNat) 1) (nc x sq.toNat) ∧ ful (x (10 + ot.toNat) 1) (nc x ot.toNat)) ∧ hig (nc x sq.toNat) (x (10 + sq.toNat) 1 * x (10 + sq.toNat) 1).toNat ≤ x (10 + sq.toNat) 1 ∧ hig (nc x ot.toNat) (x (10 + ot.toNat) 1 * x (10 + ot.toNat) 1).toNat ≤ x (10 + sq.toNat) 1) ∧ x 0 5 < 8)) : ctQ l g yX11_stack cX11_stack 6 (some .int) 5 107 [.ref (gA g 0), .int (zi sq), .int (zi ot)] x (QIu g (fun z x' => z = x 0 5 ∧ nc x' (x 0 5).toNat = stk (x (10 + sq.toNat) 1) (nc x sq.toNat) (nc x ot.toNat) ∧ x' 0 5 = x 0 5 + 1 ∧ x' (10 + (x 0 5).toNat) 1 = x (10 + sq.toNat) 1 ∧ ∀ a, a ≠ 0 → a ≠ 10 + (x 0 5).toNat → a ≠ 20 + (x 0 5).toNat → a ≠ 10 + 8 → a ≠ 20 + 8 → x' a = x a)) := by
  refine ct_start (own := RX11) (lv := [(0, .ref (gA g 0)), (1, .int (zi sq)), (2, .int (zi ot))]) (plainFor_of_name (by decide)) rfl (Nat.le_of_ble_eq_true rfl) rfl ?_
  intro Γ hΓ hO hr hQ _
  have hS1 := hS.1
  refine z_aload_n (pc := 0) hO 0 dX11_stack_0 rfl rfl ?_
  refine z_iload_n (pc := 1) hO 1 dX11_stack_1 rfl rfl ?_
  refine z_callVRq (pc := 2) hO (As := [.int (zi sq)]) (st := []) (c_X11_figureOf (qL Γ) g x sq (by first | assumption | omega) (by first | assumption | omega) (by first | assumption | omega)) k_X11_56 isO_0 rfl (Nat.le_of_ble_eq_true rfl) (by decide) (by decide) ⟨by decide, by decide⟩ dX11_stack_2 (fun z1 h3 => ?_)
  obtain ⟨q, hzq, heq, hFq⟩ := h3
  subst hzq
  have htq : sq.toNat = q := by omega
  (try rw [htq] at hok)
  (try rw [htq] at hno)
  have h9q := hFq.1
  have hsq := hFq.2.1
  have hqqq := sq9 hsq
  refine z_astore_n (pc := 5) hO (lv' := [(3, .ref (gA g (10 + q))), (0, .ref (gA g 0)), (1, .int (zi sq)), (2, .int (zi ot))]) dX11_stack_5 rfl (by decide) rfl ?_
  refine z_aload_n (pc := 6) hO 1 dX11_stack_6 rfl rfl ?_
  refine z_iload_n (pc := 7) hO 3 dX11_stack_7 rfl rfl ?_
  refine z_callVRq (pc := 8) hO (As := [.int (zi ot)]) (st := []) (c_X11_figureOf (qL Γ) g x ot (by first | assumption | omega) (by first | assumption | omega) (by first | assumption | omega)) k_X11_56 isO_0 rfl (Nat.le_of_ble_eq_true rfl) (by decide) (by decide) ⟨by decide, by decide⟩ dX11_stack_8 (fun z4 h6 => ?_)
  obtain ⟨r, hzr, her, hFr⟩ := h6
  subst hzr
  have htr : ot.toNat = r := by omega
  (try rw [htr] at hok)
  (try rw [htr] at hno)
  have h9r := hFr.1
  have hsr := hFr.2.1
  have hqqr := sq9 hsr
  refine z_astore (pc := 11) hO (lv' := [(4, .ref (gA g (10 + r))), (3, .ref (gA g (10 + q))), (0, .ref (gA g 0)), (1, .int (zi sq)), (2, .int (zi ot))]) dX11_stack_11 (by decide) rfl ?_
  refine z_aload_n (pc := 13) hO 1 dX11_stack_13 rfl rfl ?_
  refine z_aload (pc := 14) hO 0 dX11_stack_14 rfl ?_
  refine z_callSB (pc := 16) hO (As := [.ref (gA g (10 + q)), .ref (gA g (10 + r))]) (st := []) (c_X6_canStack (qL Γ) g x q r (by first | assumption | omega) (by first | assumption | omega)) k_X11_187 rfl (Nat.le_of_ble_eq_true rfl) (by decide) (by decide) ⟨by decide, by decide⟩ dX11_stack_16 (fun pb7 => ?_) (fun pb7 => ?_)
  · skip
    refine z_callSVq (pc := 19) hO (As := [.int (zi 1)]) (st := []) (c_X11_requireState (qL Γ) g x 1 (by first | assumption | omega) (by first | assumption | omega)) k_X11_80 rfl (Nat.le_of_ble_eq_true rfl) (by decide) (by decide) ⟨by decide, by decide⟩ dX11_stack_19 (fun h10 => ?_)
    refine z_aload_n (pc := 22) hO 2 dX11_stack_22 rfl rfl ?_
    refine z_callVVq (pc := 23) hO (As := []) (st := []) (c_X11_requireRoom (qL Γ) g x (by first | assumption | omega) (by first | assumption | omega)) k_X11_49 isO_0 rfl (Nat.le_of_ble_eq_true rfl) (by decide) (by decide) ⟨by decide, by decide⟩ dX11_stack_23 (fun h13 => ?_)
    refine z_aload_n (pc := 26) hO 2 dX11_stack_26 rfl rfl ?_
    refine z_aload_n (pc := 27) hO 1 dX11_stack_27 rfl rfl ?_
    refine z_callVIp (pc := 28) hO (As := []) (st := [.ref (gA g 0)]) (c_X1_side (qL Γ) g x q (by first | assumption | omega)) k_X11_94 (isO_fig (by omega : q < 9)) rfl (Nat.le_of_ble_eq_true rfl) (by decide) (by decide) ⟨by decide, by decide⟩ dX11_stack_28 ?_
    refine z_callVIm (pc := 31) hO (As := [.int (zi (x (10 + q) 1))]) (st := []) (c_X11_addFigure (qL Γ) g x (x (10 + q) 1) (by first | assumption | omega) (by omega) (by exact hsq)) k_X11_52 isO_0 rfl (Nat.le_of_ble_eq_true rfl) (by decide) (by decide) ⟨by decide, by decide⟩ dX11_stack_31 (fun m14 e15 => ?_)
    have had := e15
    obtain ⟨k, hk⟩ : ∃ k : Nat, x 0 5 = k := ⟨(x 0 5).toNat, by omega⟩
    obtain ⟨a1, a2, a3, a4, a5⟩ := adF_all hS hk (by omega) (show 1 ≤ _ ∧ _ ≤ 9 by exact hsq)
    rw [← had] at a1 a2 a3 a4 a5
    refine z_istore (pc := 34) hO (lv' := [(5, .int (zi (x 0 5))), (4, .ref (gA g (10 + r))), (3, .ref (gA g (10 + q))), (0, .ref (gA g 0)), (1, .int (zi sq)), (2, .int (zi ot))]) dX11_stack_34 (by decide) rfl ?_
    refine z_aload_n (pc := 36) hO 3 dX11_stack_36 rfl rfl ?_
    refine z_iload (pc := 37) hO 0 dX11_stack_37 rfl ?_
    refine z_callVRq (pc := 39) hO (As := [.int (zi (x 0 5))]) (st := []) (c_X11_figureOf (qL Γ) g m14 (x 0 5) (by exact a5) (by omega) (by omega)) k_X11_56 isO_0 rfl (Nat.le_of_ble_eq_true rfl) (by decide) (by decide) ⟨by decide, by decide⟩ dX11_stack_39 (fun z16 h18 => ?_)
    obtain ⟨t, hzt, het, hFt⟩ := h18
    subst hzt
    have htt : (x 0 5).toNat = t := by omega
    (try rw [htt] at hok)
    (try rw [htt] at hno)
    have h9t := hFt.1
    have hst := hFt.2.1
    have hqqt := sq9 hst
    obtain rfl : t = k := by omega
    refine z_aload_n (pc := 42) hO 2 dX11_stack_42 rfl rfl ?_
    refine z_aload (pc := 43) hO 1 dX11_stack_43 rfl ?_
    refine z_callSV (pc := 45) hO (As := [.ref (gA g (10 + t)), .ref (gA g (10 + q)), .ref (gA g (10 + r))]) (st := []) (c_X6_layStack (qL Γ) g m14 t q r (by omega) (by exact FG_of hFq (a4 _ (by omega) (by omega) (by omega)) (a4 _ (by omega) (by omega) (by omega))) (by exact FG_of hFr (a4 _ (by omega) (by omega) (by omega)) (a4 _ (by omega) (by omega) (by omega))) (by omega) (by omega) (by rw [a2, a4 (10 + q) (by omega) (by omega) (by omega)]) (by rw [a4 (10 + q) (by omega) (by omega) (by omega), a4 (10 + r) (by omega) (by omega) (by omega)]; exact hok.2.1.1.symm) (by exact a3)) k_X11_190 rfl (Nat.le_of_ble_eq_true rfl) (by decide) (by decide) ⟨by decide, by decide⟩ dX11_stack_45 (fun m20 h21 => ?_)
    have hz := h21
    refine z_iload (pc := 48) hO 0 dX11_stack_48 rfl ?_
    exact z_iret (pc := 50) hO hr hQ rfl dX11_stack_50 (by first | (rw [htq, htr, htt]; refine ⟨rfl, ?_, (by rw [hz.2 0 (by omega)]; exact a1), (by rw [hz.2 (10 + t) (by omega)]; exact a2), fun a b1 b2 b3 _ _ => (by rw [hz.2 a b3]; exact a4 a b1 b2 b3)⟩; rw [hz.1, a4 (10 + q) (by omega) (by omega) (by omega), nc_of (a4 (20 + q) (by omega) (by omega) (by omega)), nc_of (a4 (20 + r) (by omega) (by omega) (by omega))]; done) | (exfalso; omega))
  · skip
    exact absurd hok.2.1 pb7

set_option maxHeartbeats 4000000 in
theorem x_X11_stack (l : Launch) (hl : l.stackTraces = false) (g : Gl) (x : Me) (sq : Int) (ot : Int)  (hS : HS x) (r_sq : -2147483648 ≤ sq ∧ sq < 2147483648) (r_ot : -2147483648 ≤ ot ∧ ot < 2147483648) (hno : ¬ (((0 ≤ sq ∧ sq < x 0 5) ∧ 0 ≤ ot ∧ ot < x 0 5) ∧ ((x (10 + sq.toNat) 1 = x (10 + ot.toNat) 1 ∧ (ful (x (10 + sq.toNat) 1) (nc x sq.toNat) ∧ ful (x (10 + ot.toNat) 1) (nc x ot.toNat)) ∧ hig (nc x sq.toNat) (x (10 + sq.toNat) 1 * x (10 + sq.toNat) 1).toNat ≤ x (10 + sq.toNat) 1 ∧ hig (nc x ot.toNat) (x (10 + ot.toNat) 1 * x (10 + ot.toNat) 1).toNat ≤ x (10 + sq.toNat) 1) ∧ x 0 5 < 8))) : cxQ l g yX11_stack cX11_stack 6 (some .int) 7 121 1 6 [.ref (gA g 0), .int (zi sq), .int (zi ot)] x (QIu g (fun z x' => False)) (fun E => E = exc ((0 ≤ sq ∧ sq < x 0 5) ∧ 0 ≤ ot ∧ ot < x 0 5) (True)) := by
  refine cx_start (own := RX11) (lv := [(0, .ref (gA g 0)), (1, .int (zi sq)), (2, .int (zi ot))]) (by decide) rfl (Nat.le_of_ble_eq_true rfl) rfl ?_
  intro Γ hΓ hO hr hQ hh
  have hl : (qL Γ).stackTraces = false := by rw [hΓ]; exact hl
  have hS1 := hS.1
  refine z_aload_n (pc := 0) hO 0 dX11_stack_0 rfl rfl ?_
  refine z_iload_n (pc := 1) hO 1 dX11_stack_1 rfl rfl ?_
  rcases Classical.em (0 ≤ sq ∧ sq < x 0 5) with hc1 | hc1
  · skip
    refine z_callVRq (pc := 2) hO (As := [.int (zi sq)]) (st := []) (c_X11_figureOf (qL Γ) g x sq (by first | assumption | omega) (by first | assumption | omega) (by first | assumption | omega)) k_X11_56 isO_0 rfl (Nat.le_of_ble_eq_true rfl) (by decide) (by decide) ⟨by decide, by decide⟩ dX11_stack_2 (fun z2 h4 => ?_)
    obtain ⟨q, hzq, heq, hFq⟩ := h4
    subst hzq
    have htq : sq.toNat = q := by omega
    (try rw [htq] at hok)
    (try rw [htq] at hno)
    have h9q := hFq.1
    have hsq := hFq.2.1
    have hqqq := sq9 hsq
    refine z_astore_n (pc := 5) hO (lv' := [(3, .ref (gA g (10 + q))), (0, .ref (gA g 0)), (1, .int (zi sq)), (2, .int (zi ot))]) dX11_stack_5 rfl (by decide) rfl ?_
    refine z_aload_n (pc := 6) hO 1 dX11_stack_6 rfl rfl ?_
    refine z_iload_n (pc := 7) hO 3 dX11_stack_7 rfl rfl ?_
    rcases Classical.em (0 ≤ ot ∧ ot < x 0 5) with hc5 | hc5
    · skip
      refine z_callVRq (pc := 8) hO (As := [.int (zi ot)]) (st := []) (c_X11_figureOf (qL Γ) g x ot (by first | assumption | omega) (by first | assumption | omega) (by first | assumption | omega)) k_X11_56 isO_0 rfl (Nat.le_of_ble_eq_true rfl) (by decide) (by decide) ⟨by decide, by decide⟩ dX11_stack_8 (fun z6 h8 => ?_)
      obtain ⟨r, hzr, her, hFr⟩ := h8
      subst hzr
      have htr : ot.toNat = r := by omega
      (try rw [htr] at hok)
      (try rw [htr] at hno)
      have h9r := hFr.1
      have hsr := hFr.2.1
      have hqqr := sq9 hsr
      refine z_astore (pc := 11) hO (lv' := [(4, .ref (gA g (10 + r))), (3, .ref (gA g (10 + q))), (0, .ref (gA g 0)), (1, .int (zi sq)), (2, .int (zi ot))]) dX11_stack_11 (by decide) rfl ?_
      refine z_aload_n (pc := 13) hO 1 dX11_stack_13 rfl rfl ?_
      refine z_aload (pc := 14) hO 0 dX11_stack_14 rfl ?_
      refine z_callSB (pc := 16) hO (As := [.ref (gA g (10 + q)), .ref (gA g (10 + r))]) (st := []) (c_X6_canStack (qL Γ) g x q r (by first | assumption | omega) (by first | assumption | omega)) k_X11_187 rfl (Nat.le_of_ble_eq_true rfl) (by decide) (by decide) ⟨by decide, by decide⟩ dX11_stack_16 (fun pb9 => ?_) (fun pb9 => ?_)
      · skip
        have hpb := pb9
        rcases Classical.em (1 = 1) with hc10 | hc10
        · skip
          refine z_callSVq (pc := 19) hO (As := [.int (zi 1)]) (st := []) (c_X11_requireState (qL Γ) g x 1 (by first | assumption | omega) (by first | assumption | omega)) k_X11_80 rfl (Nat.le_of_ble_eq_true rfl) (by decide) (by decide) ⟨by decide, by decide⟩ dX11_stack_19 (fun h13 => ?_)
          refine z_aload_n (pc := 22) hO 2 dX11_stack_22 rfl rfl ?_
          rcases Classical.em (x 0 5 < 8) with hc14 | hc14
          · skip
            refine z_callVVq (pc := 23) hO (As := []) (st := []) (c_X11_requireRoom (qL Γ) g x (by first | assumption | omega) (by first | assumption | omega)) k_X11_49 isO_0 rfl (Nat.le_of_ble_eq_true rfl) (by decide) (by decide) ⟨by decide, by decide⟩ dX11_stack_23 (fun h17 => ?_)
            first | (exfalso; omega) | exact absurd ⟨⟨by omega, by omega⟩, hpb, by omega⟩ hno
          · exact z_xcallVV (pc := 23) hO (As := []) (st := []) hQ hh (by intro E hE; rw [hE]; exact exc_is (by first | trivial | omega | (rw [htq]; omega)) (by first | trivial | omega)) (x_X11_requireRoom (qL Γ) hl g x (by first | assumption | omega) (by first | assumption | omega)) k_X11_49 isO_0 rfl (Nat.le_of_ble_eq_true rfl) (by decide) (by decide) ⟨by decide, by decide⟩ dX11_stack_23 (fun _ h => h.elim)
        · exact z_xcallSV (pc := 19) hO (As := [.int (zi 1)]) (st := []) hQ hh (by intro E hE; rw [hE]; exact exc_is (by first | trivial | omega | (rw [htq]; omega)) (by first | trivial | omega)) (x_X11_requireState (qL Γ) hl g x 1 (by first | assumption | omega) (by first | assumption | omega)) k_X11_80 rfl (Nat.le_of_ble_eq_true rfl) (by decide) (by decide) ⟨by decide, by decide⟩ dX11_stack_19 (fun _ h => h.elim)
      · skip
        have hpb := pb9
        rcases Classical.em (0 = 1) with hc18 | hc18
        · skip
          refine z_callSVq (pc := 19) hO (As := [.int (zi 0)]) (st := []) (c_X11_requireState (qL Γ) g x 0 (by first | assumption | omega) (by first | assumption | omega)) k_X11_80 rfl (Nat.le_of_ble_eq_true rfl) (by decide) (by decide) ⟨by decide, by decide⟩ dX11_stack_19 (fun h21 => ?_)
          refine z_aload_n (pc := 22) hO 2 dX11_stack_22 rfl rfl ?_
          rcases Classical.em (x 0 5 < 8) with hc22 | hc22
          · skip
            refine z_callVVq (pc := 23) hO (As := []) (st := []) (c_X11_requireRoom (qL Γ) g x (by first | assumption | omega) (by first | assumption | omega)) k_X11_49 isO_0 rfl (Nat.le_of_ble_eq_true rfl) (by decide) (by decide) ⟨by decide, by decide⟩ dX11_stack_23 (fun h25 => ?_)
            first | (exfalso; omega) | exact absurd ⟨⟨by omega, by omega⟩, hpb, by omega⟩ hno
          · exact z_xcallVV (pc := 23) hO (As := []) (st := []) hQ hh (by intro E hE; rw [hE]; exact exc_is (by first | trivial | omega | (rw [htq]; omega)) (by first | trivial | omega)) (x_X11_requireRoom (qL Γ) hl g x (by first | assumption | omega) (by first | assumption | omega)) k_X11_49 isO_0 rfl (Nat.le_of_ble_eq_true rfl) (by decide) (by decide) ⟨by decide, by decide⟩ dX11_stack_23 (fun _ h => h.elim)
        · exact z_xcallSV (pc := 19) hO (As := [.int (zi 0)]) (st := []) hQ hh (by intro E hE; rw [hE]; exact exc_is (by first | trivial | omega | (rw [htq]; omega)) (by first | trivial | omega)) (x_X11_requireState (qL Γ) hl g x 0 (by first | assumption | omega) (by first | assumption | omega)) k_X11_80 rfl (Nat.le_of_ble_eq_true rfl) (by decide) (by decide) ⟨by decide, by decide⟩ dX11_stack_19 (fun _ h => h.elim)
    · exact z_xcallVR (pc := 8) hO (As := [.int (zi ot)]) (st := []) hQ hh (by intro E hE; rw [hE]; exact exc_io (by omega)) (x_X11_figureOf (qL Γ) hl g x ot (by first | assumption | omega) (by first | assumption | omega) (by first | assumption | omega)) k_X11_56 isO_0 rfl (Nat.le_of_ble_eq_true rfl) (by decide) (by decide) ⟨by decide, by decide⟩ dX11_stack_8 (fun _ _ h => h.elim)
  · exact z_xcallVR (pc := 2) hO (As := [.int (zi sq)]) (st := []) hQ hh (by intro E hE; rw [hE]; exact exc_io (by omega)) (x_X11_figureOf (qL Γ) hl g x sq (by first | assumption | omega) (by first | assumption | omega) (by first | assumption | omega)) k_X11_56 isO_0 rfl (Nat.le_of_ble_eq_true rfl) (by decide) (by decide) ⟨by decide, by decide⟩ dX11_stack_2 (fun _ _ h => h.elim)

set_option maxHeartbeats 4000000 in
theorem c_X11_product (l : Launch) (g : Gl) (x : Me) (sq : Int) (ot : Int)  (hS : HS x) (r_sq : -2147483648 ≤ sq ∧ sq < 2147483648) (r_ot : -2147483648 ≤ ot ∧ ot < 2147483648) (hok : ((0 ≤ sq ∧ sq < x 0 5) ∧ 0 ≤ ot ∧ ot < x 0 5) ∧ ((x (10 + sq.toNat) 1 * x (10 + ot.toNat) 1 ≤ 9 ∧ (ful (x (10 + sq.toNat) 1) (nc x sq.toNat) ∧ ful (x (10 + ot.toNat) 1) (nc x ot.toNat)) ∧ x (10 + ot.toNat) 1 * x (10 + ot.toNat) 1 * (hig (nc x sq.toNat) (x (10 + sq.toNat) 1 * x (10 + sq.toNat) 1).toNat - 1) + hig (nc x ot.toNat) (x (10 + ot.toNat) 1 * x (10 + ot.toNat) 1).toNat ≤ 999) ∧ x 0 5 < 8)) : ctQ l g yX11_product cX11_product 6 (some .int) 5 106 [.ref (gA g 0), .int (zi sq), .int (zi ot)] x (QIu g (fun z x' => z = x 0 5 ∧ nc x' (x 0 5).toNat = prd (x (10 + sq.toNat) 1) (x (10 + ot.toNat) 1) (nc x sq.toNat) (nc x ot.toNat) ∧ x' 0 5 = x 0 5 + 1 ∧ x' (10 + (x 0 5).toNat) 1 = x (10 + sq.toNat) 1 * x (10 + ot.toNat) 1 ∧ ∀ a, a ≠ 0 → a ≠ 10 + (x 0 5).toNat → a ≠ 20 + (x 0 5).toNat → a ≠ 10 + 8 → a ≠ 20 + 8 → x' a = x a)) := by
  refine ct_start (own := RX11) (lv := [(0, .ref (gA g 0)), (1, .int (zi sq)), (2, .int (zi ot))]) (plainFor_of_name (by decide)) rfl (Nat.le_of_ble_eq_true rfl) rfl ?_
  intro Γ hΓ hO hr hQ _
  have hS1 := hS.1
  refine z_aload_n (pc := 0) hO 0 dX11_product_0 rfl rfl ?_
  refine z_iload_n (pc := 1) hO 1 dX11_product_1 rfl rfl ?_
  refine z_callVRq (pc := 2) hO (As := [.int (zi sq)]) (st := []) (c_X11_figureOf (qL Γ) g x sq (by first | assumption | omega) (by first | assumption | omega) (by first | assumption | omega)) k_X11_56 isO_0 rfl (Nat.le_of_ble_eq_true rfl) (by decide) (by decide) ⟨by decide, by decide⟩ dX11_product_2 (fun z1 h3 => ?_)
  obtain ⟨q, hzq, heq, hFq⟩ := h3
  subst hzq
  have htq : sq.toNat = q := by omega
  (try rw [htq] at hok)
  (try rw [htq] at hno)
  have h9q := hFq.1
  have hsq := hFq.2.1
  have hqqq := sq9 hsq
  refine z_astore_n (pc := 5) hO (lv' := [(3, .ref (gA g (10 + q))), (0, .ref (gA g 0)), (1, .int (zi sq)), (2, .int (zi ot))]) dX11_product_5 rfl (by decide) rfl ?_
  refine z_aload_n (pc := 6) hO 1 dX11_product_6 rfl rfl ?_
  refine z_iload_n (pc := 7) hO 3 dX11_product_7 rfl rfl ?_
  refine z_callVRq (pc := 8) hO (As := [.int (zi ot)]) (st := []) (c_X11_figureOf (qL Γ) g x ot (by first | assumption | omega) (by first | assumption | omega) (by first | assumption | omega)) k_X11_56 isO_0 rfl (Nat.le_of_ble_eq_true rfl) (by decide) (by decide) ⟨by decide, by decide⟩ dX11_product_8 (fun z4 h6 => ?_)
  obtain ⟨r, hzr, her, hFr⟩ := h6
  subst hzr
  have htr : ot.toNat = r := by omega
  (try rw [htr] at hok)
  (try rw [htr] at hno)
  have h9r := hFr.1
  have hsr := hFr.2.1
  have hqqr := sq9 hsr
  refine z_astore (pc := 11) hO (lv' := [(4, .ref (gA g (10 + r))), (3, .ref (gA g (10 + q))), (0, .ref (gA g 0)), (1, .int (zi sq)), (2, .int (zi ot))]) dX11_product_11 (by decide) rfl ?_
  refine z_aload_n (pc := 13) hO 1 dX11_product_13 rfl rfl ?_
  refine z_aload (pc := 14) hO 0 dX11_product_14 rfl ?_
  refine z_callSB (pc := 16) hO (As := [.ref (gA g (10 + q)), .ref (gA g (10 + r))]) (st := []) (c_X6_canMultiply (qL Γ) g x q r (by first | assumption | omega) (by first | assumption | omega)) k_X11_194 rfl (Nat.le_of_ble_eq_true rfl) (by decide) (by decide) ⟨by decide, by decide⟩ dX11_product_16 (fun pb7 => ?_) (fun pb7 => ?_)
  · skip
    refine z_callSVq (pc := 19) hO (As := [.int (zi 1)]) (st := []) (c_X11_requireState (qL Γ) g x 1 (by first | assumption | omega) (by first | assumption | omega)) k_X11_80 rfl (Nat.le_of_ble_eq_true rfl) (by decide) (by decide) ⟨by decide, by decide⟩ dX11_product_19 (fun h10 => ?_)
    refine z_aload_n (pc := 22) hO 2 dX11_product_22 rfl rfl ?_
    refine z_callVVq (pc := 23) hO (As := []) (st := []) (c_X11_requireRoom (qL Γ) g x (by first | assumption | omega) (by first | assumption | omega)) k_X11_49 isO_0 rfl (Nat.le_of_ble_eq_true rfl) (by decide) (by decide) ⟨by decide, by decide⟩ dX11_product_23 (fun h13 => ?_)
    have hnm : 1 ≤ x (10 + q) 1 * x (10 + r) 1 := by have := Int.mul_le_mul hsq.1 hsr.1 (by omega) (by omega); omega
    have hnm9 : x (10 + q) 1 * x (10 + r) 1 ≤ 9 := hok.2.1.1
    refine z_aload_n (pc := 26) hO 2 dX11_product_26 rfl rfl ?_
    refine z_aload_n (pc := 27) hO 1 dX11_product_27 rfl rfl ?_
    refine z_callVIp (pc := 28) hO (As := []) (st := [.ref (gA g 0)]) (c_X1_side (qL Γ) g x q (by first | assumption | omega)) k_X11_94 (isO_fig (by omega : q < 9)) rfl (Nat.le_of_ble_eq_true rfl) (by decide) (by decide) ⟨by decide, by decide⟩ dX11_product_28 ?_
    refine z_aload (pc := 31) hO 0 dX11_product_31 rfl ?_
    refine z_callVIp (pc := 33) hO (As := []) (st := [.int (zi (x (10 + q) 1)), .ref (gA g 0)]) (c_X1_side (qL Γ) g x r (by first | assumption | omega)) k_X11_94 (isO_fig (by omega : r < 9)) rfl (Nat.le_of_ble_eq_true rfl) (by decide) (by decide) ⟨by decide, by decide⟩ dX11_product_33 ?_
    refine z_imul (pc := 36) hO dX11_product_36 ?_
    refine z_callVIm (pc := 37) hO (As := [.int (zi ((x (10 + q) 1) * (x (10 + r) 1)))]) (st := []) (c_X11_addFigure (qL Γ) g x ((x (10 + q) 1) * (x (10 + r) 1)) (by first | assumption | omega) (by omega) (by exact ⟨hnm, hnm9⟩)) k_X11_52 isO_0 rfl (Nat.le_of_ble_eq_true rfl) (by decide) (by decide) ⟨by decide, by decide⟩ dX11_product_37 (fun m14 e15 => ?_)
    have had := e15
    obtain ⟨k, hk⟩ : ∃ k : Nat, x 0 5 = k := ⟨(x 0 5).toNat, by omega⟩
    obtain ⟨a1, a2, a3, a4, a5⟩ := adF_all hS hk (by omega) (show 1 ≤ _ ∧ _ ≤ 9 by exact ⟨hnm, hnm9⟩)
    rw [← had] at a1 a2 a3 a4 a5
    refine z_istore (pc := 40) hO (lv' := [(5, .int (zi (x 0 5))), (4, .ref (gA g (10 + r))), (3, .ref (gA g (10 + q))), (0, .ref (gA g 0)), (1, .int (zi sq)), (2, .int (zi ot))]) dX11_product_40 (by decide) rfl ?_
    refine z_aload_n (pc := 42) hO 3 dX11_product_42 rfl rfl ?_
    refine z_iload (pc := 43) hO 0 dX11_product_43 rfl ?_
    refine z_callVRq (pc := 45) hO (As := [.int (zi (x 0 5))]) (st := []) (c_X11_figureOf (qL Γ) g m14 (x 0 5) (by exact a5) (by omega) (by omega)) k_X11_56 isO_0 rfl (Nat.le_of_ble_eq_true rfl) (by decide) (by decide) ⟨by decide, by decide⟩ dX11_product_45 (fun z16 h18 => ?_)
    obtain ⟨t, hzt, het, hFt⟩ := h18
    subst hzt
    have htt : (x 0 5).toNat = t := by omega
    (try rw [htt] at hok)
    (try rw [htt] at hno)
    have h9t := hFt.1
    have hst := hFt.2.1
    have hqqt := sq9 hst
    obtain rfl : t = k := by omega
    refine z_aload_n (pc := 48) hO 2 dX11_product_48 rfl rfl ?_
    refine z_aload (pc := 49) hO 1 dX11_product_49 rfl ?_
    refine z_callSV (pc := 51) hO (As := [.ref (gA g (10 + t)), .ref (gA g (10 + q)), .ref (gA g (10 + r))]) (st := []) (c_X6_layProduct (qL Γ) g m14 t q r (by omega) (by exact FG_of hFq (a4 _ (by omega) (by omega) (by omega)) (a4 _ (by omega) (by omega) (by omega))) (by exact FG_of hFr (a4 _ (by omega) (by omega) (by omega)) (a4 _ (by omega) (by omega) (by omega))) (by omega) (by omega) (by rw [a2, a4 (10 + q) (by omega) (by omega) (by omega), a4 (10 + r) (by omega) (by omega) (by omega)]) (by rw [a4 (10 + q) (by omega) (by omega) (by omega), a4 (10 + r) (by omega) (by omega) (by omega)]; exact hnm9) (by exact a3)) k_X11_197 rfl (Nat.le_of_ble_eq_true rfl) (by decide) (by decide) ⟨by decide, by decide⟩ dX11_product_51 (fun m20 h21 => ?_)
    have hz := h21
    refine z_iload (pc := 54) hO 0 dX11_product_54 rfl ?_
    exact z_iret (pc := 56) hO hr hQ rfl dX11_product_56 (by first | (rw [htq, htr, htt]; refine ⟨rfl, ?_, (by rw [hz.2 0 (by omega)]; exact a1), (by rw [hz.2 (10 + t) (by omega)]; exact a2), fun a b1 b2 b3 _ _ => (by rw [hz.2 a b3]; exact a4 a b1 b2 b3)⟩; rw [hz.1, a4 (10 + q) (by omega) (by omega) (by omega), a4 (10 + r) (by omega) (by omega) (by omega), nc_of (a4 (20 + q) (by omega) (by omega) (by omega)), nc_of (a4 (20 + r) (by omega) (by omega) (by omega))]; done) | (exfalso; omega))
  · skip
    exact absurd hok.2.1 pb7

set_option maxHeartbeats 4000000 in
theorem x_X11_product (l : Launch) (hl : l.stackTraces = false) (g : Gl) (x : Me) (sq : Int) (ot : Int)  (hS : HS x) (r_sq : -2147483648 ≤ sq ∧ sq < 2147483648) (r_ot : -2147483648 ≤ ot ∧ ot < 2147483648) (hno : ¬ (((0 ≤ sq ∧ sq < x 0 5) ∧ 0 ≤ ot ∧ ot < x 0 5) ∧ ((x (10 + sq.toNat) 1 * x (10 + ot.toNat) 1 ≤ 9 ∧ (ful (x (10 + sq.toNat) 1) (nc x sq.toNat) ∧ ful (x (10 + ot.toNat) 1) (nc x ot.toNat)) ∧ x (10 + ot.toNat) 1 * x (10 + ot.toNat) 1 * (hig (nc x sq.toNat) (x (10 + sq.toNat) 1 * x (10 + sq.toNat) 1).toNat - 1) + hig (nc x ot.toNat) (x (10 + ot.toNat) 1 * x (10 + ot.toNat) 1).toNat ≤ 999) ∧ x 0 5 < 8))) : cxQ l g yX11_product cX11_product 6 (some .int) 7 121 1 6 [.ref (gA g 0), .int (zi sq), .int (zi ot)] x (QIu g (fun z x' => False)) (fun E => E = exc ((0 ≤ sq ∧ sq < x 0 5) ∧ 0 ≤ ot ∧ ot < x 0 5) (True)) := by
  refine cx_start (own := RX11) (lv := [(0, .ref (gA g 0)), (1, .int (zi sq)), (2, .int (zi ot))]) (by decide) rfl (Nat.le_of_ble_eq_true rfl) rfl ?_
  intro Γ hΓ hO hr hQ hh
  have hl : (qL Γ).stackTraces = false := by rw [hΓ]; exact hl
  have hS1 := hS.1
  refine z_aload_n (pc := 0) hO 0 dX11_product_0 rfl rfl ?_
  refine z_iload_n (pc := 1) hO 1 dX11_product_1 rfl rfl ?_
  rcases Classical.em (0 ≤ sq ∧ sq < x 0 5) with hc1 | hc1
  · skip
    refine z_callVRq (pc := 2) hO (As := [.int (zi sq)]) (st := []) (c_X11_figureOf (qL Γ) g x sq (by first | assumption | omega) (by first | assumption | omega) (by first | assumption | omega)) k_X11_56 isO_0 rfl (Nat.le_of_ble_eq_true rfl) (by decide) (by decide) ⟨by decide, by decide⟩ dX11_product_2 (fun z2 h4 => ?_)
    obtain ⟨q, hzq, heq, hFq⟩ := h4
    subst hzq
    have htq : sq.toNat = q := by omega
    (try rw [htq] at hok)
    (try rw [htq] at hno)
    have h9q := hFq.1
    have hsq := hFq.2.1
    have hqqq := sq9 hsq
    refine z_astore_n (pc := 5) hO (lv' := [(3, .ref (gA g (10 + q))), (0, .ref (gA g 0)), (1, .int (zi sq)), (2, .int (zi ot))]) dX11_product_5 rfl (by decide) rfl ?_
    refine z_aload_n (pc := 6) hO 1 dX11_product_6 rfl rfl ?_
    refine z_iload_n (pc := 7) hO 3 dX11_product_7 rfl rfl ?_
    rcases Classical.em (0 ≤ ot ∧ ot < x 0 5) with hc5 | hc5
    · skip
      refine z_callVRq (pc := 8) hO (As := [.int (zi ot)]) (st := []) (c_X11_figureOf (qL Γ) g x ot (by first | assumption | omega) (by first | assumption | omega) (by first | assumption | omega)) k_X11_56 isO_0 rfl (Nat.le_of_ble_eq_true rfl) (by decide) (by decide) ⟨by decide, by decide⟩ dX11_product_8 (fun z6 h8 => ?_)
      obtain ⟨r, hzr, her, hFr⟩ := h8
      subst hzr
      have htr : ot.toNat = r := by omega
      (try rw [htr] at hok)
      (try rw [htr] at hno)
      have h9r := hFr.1
      have hsr := hFr.2.1
      have hqqr := sq9 hsr
      refine z_astore (pc := 11) hO (lv' := [(4, .ref (gA g (10 + r))), (3, .ref (gA g (10 + q))), (0, .ref (gA g 0)), (1, .int (zi sq)), (2, .int (zi ot))]) dX11_product_11 (by decide) rfl ?_
      refine z_aload_n (pc := 13) hO 1 dX11_product_13 rfl rfl ?_
      refine z_aload (pc := 14) hO 0 dX11_product_14 rfl ?_
      refine z_callSB (pc := 16) hO (As := [.ref (gA g (10 + q)), .ref (gA g (10 + r))]) (st := []) (c_X6_canMultiply (qL Γ) g x q r (by first | assumption | omega) (by first | assumption | omega)) k_X11_194 rfl (Nat.le_of_ble_eq_true rfl) (by decide) (by decide) ⟨by decide, by decide⟩ dX11_product_16 (fun pb9 => ?_) (fun pb9 => ?_)
      · skip
        have hpb := pb9
        rcases Classical.em (1 = 1) with hc10 | hc10
        · skip
          refine z_callSVq (pc := 19) hO (As := [.int (zi 1)]) (st := []) (c_X11_requireState (qL Γ) g x 1 (by first | assumption | omega) (by first | assumption | omega)) k_X11_80 rfl (Nat.le_of_ble_eq_true rfl) (by decide) (by decide) ⟨by decide, by decide⟩ dX11_product_19 (fun h13 => ?_)
          refine z_aload_n (pc := 22) hO 2 dX11_product_22 rfl rfl ?_
          rcases Classical.em (x 0 5 < 8) with hc14 | hc14
          · skip
            refine z_callVVq (pc := 23) hO (As := []) (st := []) (c_X11_requireRoom (qL Γ) g x (by first | assumption | omega) (by first | assumption | omega)) k_X11_49 isO_0 rfl (Nat.le_of_ble_eq_true rfl) (by decide) (by decide) ⟨by decide, by decide⟩ dX11_product_23 (fun h17 => ?_)
            first | (exfalso; omega) | exact absurd ⟨⟨by omega, by omega⟩, hpb, by omega⟩ hno
          · exact z_xcallVV (pc := 23) hO (As := []) (st := []) hQ hh (by intro E hE; rw [hE]; exact exc_is (by first | trivial | omega | (rw [htq]; omega)) (by first | trivial | omega)) (x_X11_requireRoom (qL Γ) hl g x (by first | assumption | omega) (by first | assumption | omega)) k_X11_49 isO_0 rfl (Nat.le_of_ble_eq_true rfl) (by decide) (by decide) ⟨by decide, by decide⟩ dX11_product_23 (fun _ h => h.elim)
        · exact z_xcallSV (pc := 19) hO (As := [.int (zi 1)]) (st := []) hQ hh (by intro E hE; rw [hE]; exact exc_is (by first | trivial | omega | (rw [htq]; omega)) (by first | trivial | omega)) (x_X11_requireState (qL Γ) hl g x 1 (by first | assumption | omega) (by first | assumption | omega)) k_X11_80 rfl (Nat.le_of_ble_eq_true rfl) (by decide) (by decide) ⟨by decide, by decide⟩ dX11_product_19 (fun _ h => h.elim)
      · skip
        have hpb := pb9
        rcases Classical.em (0 = 1) with hc18 | hc18
        · skip
          refine z_callSVq (pc := 19) hO (As := [.int (zi 0)]) (st := []) (c_X11_requireState (qL Γ) g x 0 (by first | assumption | omega) (by first | assumption | omega)) k_X11_80 rfl (Nat.le_of_ble_eq_true rfl) (by decide) (by decide) ⟨by decide, by decide⟩ dX11_product_19 (fun h21 => ?_)
          refine z_aload_n (pc := 22) hO 2 dX11_product_22 rfl rfl ?_
          rcases Classical.em (x 0 5 < 8) with hc22 | hc22
          · skip
            refine z_callVVq (pc := 23) hO (As := []) (st := []) (c_X11_requireRoom (qL Γ) g x (by first | assumption | omega) (by first | assumption | omega)) k_X11_49 isO_0 rfl (Nat.le_of_ble_eq_true rfl) (by decide) (by decide) ⟨by decide, by decide⟩ dX11_product_23 (fun h25 => ?_)
            first | (exfalso; omega) | exact absurd ⟨⟨by omega, by omega⟩, hpb, by omega⟩ hno
          · exact z_xcallVV (pc := 23) hO (As := []) (st := []) hQ hh (by intro E hE; rw [hE]; exact exc_is (by first | trivial | omega | (rw [htq]; omega)) (by first | trivial | omega)) (x_X11_requireRoom (qL Γ) hl g x (by first | assumption | omega) (by first | assumption | omega)) k_X11_49 isO_0 rfl (Nat.le_of_ble_eq_true rfl) (by decide) (by decide) ⟨by decide, by decide⟩ dX11_product_23 (fun _ h => h.elim)
        · exact z_xcallSV (pc := 19) hO (As := [.int (zi 0)]) (st := []) hQ hh (by intro E hE; rw [hE]; exact exc_is (by first | trivial | omega | (rw [htq]; omega)) (by first | trivial | omega)) (x_X11_requireState (qL Γ) hl g x 0 (by first | assumption | omega) (by first | assumption | omega)) k_X11_80 rfl (Nat.le_of_ble_eq_true rfl) (by decide) (by decide) ⟨by decide, by decide⟩ dX11_product_19 (fun _ h => h.elim)
    · exact z_xcallVR (pc := 8) hO (As := [.int (zi ot)]) (st := []) hQ hh (by intro E hE; rw [hE]; exact exc_io (by omega)) (x_X11_figureOf (qL Γ) hl g x ot (by first | assumption | omega) (by first | assumption | omega) (by first | assumption | omega)) k_X11_56 isO_0 rfl (Nat.le_of_ble_eq_true rfl) (by decide) (by decide) ⟨by decide, by decide⟩ dX11_product_8 (fun _ _ h => h.elim)
  · exact z_xcallVR (pc := 2) hO (As := [.int (zi sq)]) (st := []) hQ hh (by intro E hE; rw [hE]; exact exc_io (by omega)) (x_X11_figureOf (qL Γ) hl g x sq (by first | assumption | omega) (by first | assumption | omega) (by first | assumption | omega)) k_X11_56 isO_0 rfl (Nat.le_of_ble_eq_true rfl) (by decide) (by decide) ⟨by decide, by decide⟩ dX11_product_2 (fun _ _ h => h.elim)

set_option maxHeartbeats 4000000 in
theorem c_X11_make (l : Launch) (g : Gl) (x : Me) (mk : Int) (s : Int)  (hS : HS x) (r_mk : -2147483648 ≤ mk ∧ mk < 2147483648) (r_s : -2147483648 ≤ s ∧ s < 2147483648) (hok : ((0 ≤ mk ∧ mk ≤ 3) ∧ 1 ≤ s ∧ s ≤ 9) ∧ (hld mk s ∧ x 0 5 < 8)) : ctQ l g yX11_make cX11_make 4 (some .int) 6 139 [.ref (gA g 0), .int (zi mk), .int (zi s)] x (QIu g (fun z x' => z = x 0 5 ∧ nc x' (x 0 5).toNat = mkf mk s ∧ x' 0 5 = x 0 5 + 1 ∧ x' (10 + (x 0 5).toNat) 1 = s ∧ ∀ a, a ≠ 0 → a ≠ 10 + (x 0 5).toNat → a ≠ 20 + (x 0 5).toNat → a ≠ 10 + 8 → a ≠ 20 + 8 → x' a = x a)) := by
  refine ct_start (own := RX11) (lv := [(0, .ref (gA g 0)), (1, .int (zi mk)), (2, .int (zi s))]) (plainFor_of_name (by decide)) rfl (Nat.le_of_ble_eq_true rfl) rfl ?_
  intro Γ hΓ hO hr hQ _
  have hS1 := hS.1
  refine z_iload_n (pc := 0) hO 1 dX11_make_0 rfl rfl ?_
  refine z_iconst (pc := 1) hO dX11_make_1 ?_
  refine z_iconst (pc := 2) hO dX11_make_2 ?_
  refine z_callSVq (pc := 3) hO (As := [.int (zi mk), .int (zi 0), .int (zi 3)]) (st := []) (c_X11_requireRange (qL Γ) g x mk 0 3 (by first | assumption | omega) (by first | assumption | omega) (by first | assumption | omega) (by first | assumption | omega)) k_X11_45 rfl (Nat.le_of_ble_eq_true rfl) (by decide) (by decide) ⟨by decide, by decide⟩ dX11_make_3 (fun h3 => ?_)
  refine z_iload_n (pc := 6) hO 2 dX11_make_6 rfl rfl ?_
  refine z_iconst (pc := 7) hO dX11_make_7 ?_
  refine z_bipush (pc := 8) hO dX11_make_8 (by decide) ?_
  refine z_callSVq (pc := 10) hO (As := [.int (zi s), .int (zi 1), .int (zi 9)]) (st := []) (c_X11_requireRange (qL Γ) g x s 1 9 (by first | assumption | omega) (by first | assumption | omega) (by first | assumption | omega) (by first | assumption | omega)) k_X11_45 rfl (Nat.le_of_ble_eq_true rfl) (by decide) (by decide) ⟨by decide, by decide⟩ dX11_make_10 (fun h6 => ?_)
  refine z_iload_n (pc := 13) hO 1 dX11_make_13 rfl rfl ?_
  refine z_iload_n (pc := 14) hO 2 dX11_make_14 rfl rfl ?_
  refine z_callSB (pc := 15) hO (As := [.int (zi mk), .int (zi s)]) (st := []) (c_X5_holdsFor (qL Γ) g x mk s (by first | assumption | omega) (by first | assumption | omega)) k_X11_74 rfl (Nat.le_of_ble_eq_true rfl) (by decide) (by decide) ⟨by decide, by decide⟩ dX11_make_15 (fun pb7 => ?_) (fun pb7 => ?_)
  · skip
    refine z_callSVq (pc := 18) hO (As := [.int (zi 1)]) (st := []) (c_X11_requireState (qL Γ) g x 1 (by first | assumption | omega) (by first | assumption | omega)) k_X11_80 rfl (Nat.le_of_ble_eq_true rfl) (by decide) (by decide) ⟨by decide, by decide⟩ dX11_make_18 (fun h10 => ?_)
    refine z_aload_n (pc := 21) hO 0 dX11_make_21 rfl rfl ?_
    refine z_callVVq (pc := 22) hO (As := []) (st := []) (c_X11_requireRoom (qL Γ) g x (by first | assumption | omega) (by first | assumption | omega)) k_X11_49 isO_0 rfl (Nat.le_of_ble_eq_true rfl) (by decide) (by decide) ⟨by decide, by decide⟩ dX11_make_22 (fun h13 => ?_)
    refine z_aload_n (pc := 25) hO 0 dX11_make_25 rfl rfl ?_
    refine z_iload_n (pc := 26) hO 2 dX11_make_26 rfl rfl ?_
    refine z_callVIm (pc := 27) hO (As := [.int (zi s)]) (st := []) (c_X11_addFigure (qL Γ) g x s (by first | assumption | omega) (by omega) (by exact hok.1.2)) k_X11_52 isO_0 rfl (Nat.le_of_ble_eq_true rfl) (by decide) (by decide) ⟨by decide, by decide⟩ dX11_make_27 (fun m14 e15 => ?_)
    have had := e15
    obtain ⟨k, hk⟩ : ∃ k : Nat, x 0 5 = k := ⟨(x 0 5).toNat, by omega⟩
    obtain ⟨a1, a2, a3, a4, a5⟩ := adF_all hS hk (by omega) (show 1 ≤ _ ∧ _ ≤ 9 by exact hok.1.2)
    rw [← had] at a1 a2 a3 a4 a5
    refine z_istore_n (pc := 30) hO (lv' := [(3, .int (zi (x 0 5))), (0, .ref (gA g 0)), (1, .int (zi mk)), (2, .int (zi s))]) dX11_make_30 rfl (by decide) rfl ?_
    refine z_iload_n (pc := 31) hO 2 dX11_make_31 rfl rfl ?_
    refine z_aload_n (pc := 32) hO 1 dX11_make_32 rfl rfl ?_
    refine z_iload_n (pc := 33) hO 0 dX11_make_33 rfl rfl ?_
    refine z_callVRq (pc := 34) hO (As := [.int (zi (x 0 5))]) (st := [.int (zi mk)]) (c_X11_figureOf (qL Γ) g m14 (x 0 5) (by exact a5) (by omega) (by omega)) k_X11_56 isO_0 rfl (Nat.le_of_ble_eq_true rfl) (by decide) (by decide) ⟨by decide, by decide⟩ dX11_make_34 (fun z16 h18 => ?_)
    obtain ⟨t, hzt, het, hFt⟩ := h18
    subst hzt
    have htt : (x 0 5).toNat = t := by omega
    (try rw [htt] at hok)
    (try rw [htt] at hno)
    have h9t := hFt.1
    have hst := hFt.2.1
    have hqqt := sq9 hst
    obtain rfl : t = k := by omega
    refine z_aload_n (pc := 37) hO 1 dX11_make_37 rfl rfl ?_
    refine gf_X11_spare (pc := 38) hO f_X11_16 dX11_make_38 ?_
    refine z_callSV (pc := 41) hO (As := [.int (zi mk), .ref (gA g (10 + t)), .ref (gA g (10 + 8))]) (st := []) (c_X5_lay (qL Γ) g m14 mk t 8 (by first | assumption | omega) (by omega) (by omega) (by omega) (by rw [a2]; omega) (by intro e; rw [a2]; have := hok.2.1; unfold hld at this; omega) (by exact a3)) k_X11_84 rfl (Nat.le_of_ble_eq_true rfl) (by decide) (by decide) ⟨by decide, by decide⟩ dX11_make_41 (fun m20 h21 => ?_)
    have hz := h21
    refine z_iload_n (pc := 44) hO 0 dX11_make_44 rfl rfl ?_
    exact z_iret (pc := 45) hO hr hQ rfl dX11_make_45 (by first | (rw [htt]; exact ⟨rfl, by rw [hz.1, a2], by rw [hz.2 0 (by omega) (by omega) (by omega)]; exact a1, by rw [hz.2 (10 + t) (by omega) (by omega) (by omega)]; exact a2, fun a b1 b2 b3 b4 b5 => by rw [hz.2 a b3 b4 b5]; exact a4 a b1 b2 b3⟩; done) | (exfalso; omega))
  · skip
    exact absurd hok.2.1 pb7

set_option maxHeartbeats 4000000 in
theorem x_X11_make (l : Launch) (hl : l.stackTraces = false) (g : Gl) (x : Me) (mk : Int) (s : Int)  (hS : HS x) (r_mk : -2147483648 ≤ mk ∧ mk < 2147483648) (r_s : -2147483648 ≤ s ∧ s < 2147483648) (hno : ¬ (((0 ≤ mk ∧ mk ≤ 3) ∧ 1 ≤ s ∧ s ≤ 9) ∧ (hld mk s ∧ x 0 5 < 8))) : cxQ l g yX11_make cX11_make 4 (some .int) 7 139 1 6 [.ref (gA g 0), .int (zi mk), .int (zi s)] x (QIu g (fun z x' => False)) (fun E => E = exc (True) ((0 ≤ mk ∧ mk ≤ 3) ∧ 1 ≤ s ∧ s ≤ 9)) := by
  refine cx_start (own := RX11) (lv := [(0, .ref (gA g 0)), (1, .int (zi mk)), (2, .int (zi s))]) (by decide) rfl (Nat.le_of_ble_eq_true rfl) rfl ?_
  intro Γ hΓ hO hr hQ hh
  have hl : (qL Γ).stackTraces = false := by rw [hΓ]; exact hl
  have hS1 := hS.1
  refine z_iload_n (pc := 0) hO 1 dX11_make_0 rfl rfl ?_
  refine z_iconst (pc := 1) hO dX11_make_1 ?_
  refine z_iconst (pc := 2) hO dX11_make_2 ?_
  rcases Classical.em (0 ≤ mk ∧ mk ≤ 3) with hc1 | hc1
  · skip
    refine z_callSVq (pc := 3) hO (As := [.int (zi mk), .int (zi 0), .int (zi 3)]) (st := []) (c_X11_requireRange (qL Γ) g x mk 0 3 (by first | assumption | omega) (by first | assumption | omega) (by first | assumption | omega) (by first | assumption | omega)) k_X11_45 rfl (Nat.le_of_ble_eq_true rfl) (by decide) (by decide) ⟨by decide, by decide⟩ dX11_make_3 (fun h4 => ?_)
    refine z_iload_n (pc := 6) hO 2 dX11_make_6 rfl rfl ?_
    refine z_iconst (pc := 7) hO dX11_make_7 ?_
    refine z_bipush (pc := 8) hO dX11_make_8 (by decide) ?_
    rcases Classical.em (1 ≤ s ∧ s ≤ 9) with hc5 | hc5
    · skip
      refine z_callSVq (pc := 10) hO (As := [.int (zi s), .int (zi 1), .int (zi 9)]) (st := []) (c_X11_requireRange (qL Γ) g x s 1 9 (by first | assumption | omega) (by first | assumption | omega) (by first | assumption | omega) (by first | assumption | omega)) k_X11_45 rfl (Nat.le_of_ble_eq_true rfl) (by decide) (by decide) ⟨by decide, by decide⟩ dX11_make_10 (fun h8 => ?_)
      refine z_iload_n (pc := 13) hO 1 dX11_make_13 rfl rfl ?_
      refine z_iload_n (pc := 14) hO 2 dX11_make_14 rfl rfl ?_
      refine z_callSB (pc := 15) hO (As := [.int (zi mk), .int (zi s)]) (st := []) (c_X5_holdsFor (qL Γ) g x mk s (by first | assumption | omega) (by first | assumption | omega)) k_X11_74 rfl (Nat.le_of_ble_eq_true rfl) (by decide) (by decide) ⟨by decide, by decide⟩ dX11_make_15 (fun pb9 => ?_) (fun pb9 => ?_)
      · skip
        have hpb := pb9
        rcases Classical.em (1 = 1) with hc10 | hc10
        · skip
          refine z_callSVq (pc := 18) hO (As := [.int (zi 1)]) (st := []) (c_X11_requireState (qL Γ) g x 1 (by first | assumption | omega) (by first | assumption | omega)) k_X11_80 rfl (Nat.le_of_ble_eq_true rfl) (by decide) (by decide) ⟨by decide, by decide⟩ dX11_make_18 (fun h13 => ?_)
          refine z_aload_n (pc := 21) hO 0 dX11_make_21 rfl rfl ?_
          rcases Classical.em (x 0 5 < 8) with hc14 | hc14
          · skip
            refine z_callVVq (pc := 22) hO (As := []) (st := []) (c_X11_requireRoom (qL Γ) g x (by first | assumption | omega) (by first | assumption | omega)) k_X11_49 isO_0 rfl (Nat.le_of_ble_eq_true rfl) (by decide) (by decide) ⟨by decide, by decide⟩ dX11_make_22 (fun h17 => ?_)
            first | (exfalso; omega) | exact absurd ⟨by omega, hpb, by omega⟩ hno
          · exact z_xcallVV (pc := 22) hO (As := []) (st := []) hQ hh (by intro E hE; rw [hE]; exact exc_is (by first | trivial | omega) (by first | trivial | omega)) (x_X11_requireRoom (qL Γ) hl g x (by first | assumption | omega) (by first | assumption | omega)) k_X11_49 isO_0 rfl (Nat.le_of_ble_eq_true rfl) (by decide) (by decide) ⟨by decide, by decide⟩ dX11_make_22 (fun _ h => h.elim)
        · exact z_xcallSV (pc := 18) hO (As := [.int (zi 1)]) (st := []) hQ hh (by intro E hE; rw [hE]; exact exc_is (by first | trivial | omega) (by first | trivial | omega)) (x_X11_requireState (qL Γ) hl g x 1 (by first | assumption | omega) (by first | assumption | omega)) k_X11_80 rfl (Nat.le_of_ble_eq_true rfl) (by decide) (by decide) ⟨by decide, by decide⟩ dX11_make_18 (fun _ h => h.elim)
      · skip
        have hpb := pb9
        rcases Classical.em (0 = 1) with hc18 | hc18
        · skip
          refine z_callSVq (pc := 18) hO (As := [.int (zi 0)]) (st := []) (c_X11_requireState (qL Γ) g x 0 (by first | assumption | omega) (by first | assumption | omega)) k_X11_80 rfl (Nat.le_of_ble_eq_true rfl) (by decide) (by decide) ⟨by decide, by decide⟩ dX11_make_18 (fun h21 => ?_)
          refine z_aload_n (pc := 21) hO 0 dX11_make_21 rfl rfl ?_
          rcases Classical.em (x 0 5 < 8) with hc22 | hc22
          · skip
            refine z_callVVq (pc := 22) hO (As := []) (st := []) (c_X11_requireRoom (qL Γ) g x (by first | assumption | omega) (by first | assumption | omega)) k_X11_49 isO_0 rfl (Nat.le_of_ble_eq_true rfl) (by decide) (by decide) ⟨by decide, by decide⟩ dX11_make_22 (fun h25 => ?_)
            first | (exfalso; omega) | exact absurd ⟨by omega, hpb, by omega⟩ hno
          · exact z_xcallVV (pc := 22) hO (As := []) (st := []) hQ hh (by intro E hE; rw [hE]; exact exc_is (by first | trivial | omega) (by first | trivial | omega)) (x_X11_requireRoom (qL Γ) hl g x (by first | assumption | omega) (by first | assumption | omega)) k_X11_49 isO_0 rfl (Nat.le_of_ble_eq_true rfl) (by decide) (by decide) ⟨by decide, by decide⟩ dX11_make_22 (fun _ h => h.elim)
        · exact z_xcallSV (pc := 18) hO (As := [.int (zi 0)]) (st := []) hQ hh (by intro E hE; rw [hE]; exact exc_is (by first | trivial | omega) (by first | trivial | omega)) (x_X11_requireState (qL Γ) hl g x 0 (by first | assumption | omega) (by first | assumption | omega)) k_X11_80 rfl (Nat.le_of_ble_eq_true rfl) (by decide) (by decide) ⟨by decide, by decide⟩ dX11_make_18 (fun _ h => h.elim)
    · exact z_xcallSV (pc := 10) hO (As := [.int (zi s), .int (zi 1), .int (zi 9)]) (st := []) hQ hh (by intro E hE; rw [hE]; exact exc_ia (by first | trivial | omega) (by omega)) (x_X11_requireRange (qL Γ) hl g x s 1 9 (by first | assumption | omega) (by first | assumption | omega) (by first | assumption | omega) (by first | assumption | omega)) k_X11_45 rfl (Nat.le_of_ble_eq_true rfl) (by decide) (by decide) ⟨by decide, by decide⟩ dX11_make_10 (fun _ h => h.elim)
  · exact z_xcallSV (pc := 3) hO (As := [.int (zi mk), .int (zi 0), .int (zi 3)]) (st := []) hQ hh (by intro E hE; rw [hE]; exact exc_ia (by first | trivial | omega) (by omega)) (x_X11_requireRange (qL Γ) hl g x mk 0 3 (by first | assumption | omega) (by first | assumption | omega) (by first | assumption | omega) (by first | assumption | omega)) k_X11_45 rfl (Nat.le_of_ble_eq_true rfl) (by decide) (by decide) ⟨by decide, by decide⟩ dX11_make_3 (fun _ h => h.elim)

