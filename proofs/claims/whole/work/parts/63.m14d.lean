set_option maxHeartbeats 4000000 in
theorem c_X11_completion (l : Launch) (g : Gl) (x : Me) (sq : Int) (w : Int) (r : Int) (c : Int)  (hS : HS x) (r_sq : -2147483648 ≤ sq ∧ sq < 2147483648) (r_w : -2147483648 ≤ w ∧ w < 2147483648) (r_r : -2147483648 ≤ r ∧ r < 2147483648) (r_c : -2147483648 ≤ c ∧ c < 2147483648) (hok : (0 ≤ sq ∧ sq < x 0 5 ∧ (0 ≤ r ∧ r < x (10 + sq.toNat) 1) ∧ 0 ≤ c ∧ c < x (10 + sq.toNat) 1) ∧ (0 ≤ w) ∧ (x (10 + sq.toNat) 1 ≤ 4 ∧ cnt (x (10 + sq.toNat) 1) (nc x sq.toNat) 0 ≤ 9)) : ctQ l g yX11_completion cX11_completion 6 (some .int) 63 1268 [.ref (gA g 0), .int (zi sq), .int (zi w), .int (zi r), .int (zi c)] x (QIu g (fun z x' => z = cgt (x (10 + sq.toNat) 1) (nc x sq.toNat) w (x (10 + sq.toNat) 1 * r + c) ∧ ∀ a, a < 30 ∨ 36 < a → x' a = x a)) := by
  refine ct_start (own := RX11) (lv := [(0, .ref (gA g 0)), (1, .int (zi sq)), (2, .int (zi w)), (3, .int (zi r)), (4, .int (zi c))]) (plainFor_of_name (by decide)) rfl (Nat.le_of_ble_eq_true rfl) rfl ?_
  intro Γ hΓ hO hr hQ _
  have hS1 := hS.1
  refine z_aload_n (pc := 0) hO 0 dX11_completion_0 rfl rfl ?_
  refine z_iload_n (pc := 1) hO 1 dX11_completion_1 rfl rfl ?_
  refine z_callVRq (pc := 2) hO (As := [.int (zi sq)]) (st := []) (c_X11_figureOf (qL Γ) g x sq (by first | assumption | omega) (by first | assumption | omega) (by first | assumption | omega)) k_X11_56 isO_0 rfl (Nat.le_of_ble_eq_true rfl) (by decide) (by decide) ⟨by decide, by decide⟩ dX11_completion_2 (fun z1 h3 => ?_)
  obtain ⟨q, hzq, heq, hFq⟩ := h3
  subst hzq
  have htq : sq.toNat = q := by omega
  (try rw [htq] at hok)
  (try rw [htq] at hno)
  have h9q := hFq.1
  have hsq := hFq.2.1
  have hqqq := sq9 hsq
  refine z_astore (pc := 5) hO (lv' := [(5, .ref (gA g (10 + q))), (0, .ref (gA g 0)), (1, .int (zi sq)), (2, .int (zi w)), (3, .int (zi r)), (4, .int (zi c))]) dX11_completion_5 (by decide) rfl ?_
  refine z_aload (pc := 7) hO 0 dX11_completion_7 rfl ?_
  refine z_iload_n (pc := 9) hO 4 dX11_completion_9 rfl rfl ?_
  refine z_iload (pc := 10) hO 5 dX11_completion_10 rfl ?_
  refine z_callSVq (pc := 12) hO (As := [.ref (gA g (10 + q)), .int (zi r), .int (zi c)]) (st := []) (c_X11_requirePoint (qL Γ) g x q r c (by exact hFq) (by first | assumption | omega) (by first | assumption | omega) (by first | assumption | omega)) k_X11_60 rfl (Nat.le_of_ble_eq_true rfl) (by decide) (by decide) ⟨by decide, by decide⟩ dX11_completion_12 (fun h6 => ?_)
  refine z_iload_n (pc := 15) hO 3 dX11_completion_15 rfl rfl ?_
  refine z_if_ge (pc := 16) hO (tgt := 29) dX11_completion_16 (by decide) (by omega) (fun b7 => ?_) (fun b7 => ?_)
  · have hpl := pl9 (r := r) (c := c) hsq (by omega) (by omega)
    refine z_aload (pc := 29) hO 0 dX11_completion_29 rfl ?_
    refine z_callSB (pc := 31) hO (As := [.ref (gA g (10 + q))]) (st := []) (c_X11_canBeCompleted (qL Γ) g x q (by first | assumption | omega)) k_X11_138 rfl (Nat.le_of_ble_eq_true rfl) (by decide) (by decide) ⟨by decide, by decide⟩ dX11_completion_31 (fun pb8 => ?_) (fun pb8 => ?_)
    · skip
      refine z_callSVq (pc := 34) hO (As := [.int (zi 1)]) (st := []) (c_X11_requireState (qL Γ) g x 1 (by first | assumption | omega) (by first | assumption | omega)) k_X11_80 rfl (Nat.le_of_ble_eq_true rfl) (by decide) (by decide) ⟨by decide, by decide⟩ dX11_completion_34 (fun h11 => ?_)
      refine z_aload_n (pc := 37) hO 1 dX11_completion_37 rfl rfl ?_
      refine gf_X11_search (pc := 38) hO f_X11_23 dX11_completion_38 ?_
      refine z_aload (pc := 41) hO 0 dX11_completion_41 rfl ?_
      refine z_callVV (pc := 43) hO (As := [.ref (gA g (10 + q))]) (st := []) (c_X8_load (qL Γ) g x q (by first | assumption | omega) (by first | assumption | omega)) k_X11_142 isO_30 rfl (Nat.le_of_ble_eq_true rfl) (by decide) (by decide) ⟨by decide, by decide⟩ dX11_completion_43 (fun m13 h14 => ?_)
      obtain ⟨hLD, hfr⟩ := h14
      have hx1 : m13 (10 + q) = x (10 + q) := hfr _ (by omega)
      refine z_aload_n (pc := 46) hO 1 dX11_completion_46 rfl rfl ?_
      refine gf_X11_search (pc := 47) hO f_X11_23 dX11_completion_47 ?_
      refine z_iload_n (pc := 50) hO 3 dX11_completion_50 rfl rfl ?_
      refine z_aload (pc := 51) hO 0 dX11_completion_51 rfl ?_
      refine z_iload_n (pc := 53) hO 4 dX11_completion_53 rfl rfl ?_
      refine z_iload (pc := 54) hO 5 dX11_completion_54 rfl ?_
      refine z_callVIp (pc := 56) hO (As := [.int (zi r), .int (zi c)]) (st := [.int (zi w), .ref (gA g 30)]) (c_X1_placeOf (qL Γ) g m13 q r c (by first | assumption | omega)) k_X11_64 (isO_fig (by omega : q < 9)) rfl (Nat.le_of_ble_eq_true rfl) (by decide) (by decide) ⟨by decide, by decide⟩ dX11_completion_56 ?_
      refine z_callVI (pc := 59) hO (As := [.int (zi w), .int (zi (m13 (10 + q) 1 * r + c))]) (st := []) (c_X8_numberIn (qL Γ) g m13 w (m13 (10 + q) 1 * r + c) (x (10 + q) 1) (nc x q) (by exact hLD) (by exact emp_9 (by omega)) (by rw [hx1]; omega) (by first | assumption | omega)) k_X11_156 isO_30 rfl (Nat.le_of_ble_eq_true rfl) (by decide) (by decide) ⟨by decide, by decide⟩ dX11_completion_59 (fun z15 m16 h17 => ?_)
      have hz := h17
      exact z_iret (pc := 62) hO hr hQ rfl dX11_completion_62 (by first | (rw [htq]; refine ⟨?_, fun a ha => (hz.2 a ha).trans (hfr a ha)⟩; rw [hz.1, hx1]; done) | (exfalso; omega))
    · skip
      exact absurd hok.2.2 pb8
  · exfalso; omega

set_option maxHeartbeats 4000000 in
theorem x_X11_completion (l : Launch) (hl : l.stackTraces = false) (g : Gl) (x : Me) (sq : Int) (w : Int) (r : Int) (c : Int)  (hS : HS x) (r_sq : -2147483648 ≤ sq ∧ sq < 2147483648) (r_w : -2147483648 ≤ w ∧ w < 2147483648) (r_r : -2147483648 ≤ r ∧ r < 2147483648) (r_c : -2147483648 ≤ c ∧ c < 2147483648) (hno : ¬ ((0 ≤ sq ∧ sq < x 0 5 ∧ (0 ≤ r ∧ r < x (10 + sq.toNat) 1) ∧ 0 ≤ c ∧ c < x (10 + sq.toNat) 1) ∧ (0 ≤ w) ∧ (x (10 + sq.toNat) 1 ≤ 4 ∧ cnt (x (10 + sq.toNat) 1) (nc x sq.toNat) 0 ≤ 9))) : cxQ l g yX11_completion cX11_completion 6 (some .int) 63 1268 1 6 [.ref (gA g 0), .int (zi sq), .int (zi w), .int (zi r), .int (zi c)] x (QIu g (fun z x' => False)) (fun E => E = exc (0 ≤ sq ∧ sq < x 0 5 ∧ (0 ≤ r ∧ r < x (10 + sq.toNat) 1) ∧ 0 ≤ c ∧ c < x (10 + sq.toNat) 1) (0 ≤ w)) := by
  refine cx_start (own := RX11) (lv := [(0, .ref (gA g 0)), (1, .int (zi sq)), (2, .int (zi w)), (3, .int (zi r)), (4, .int (zi c))]) (by decide) rfl (Nat.le_of_ble_eq_true rfl) rfl ?_
  intro Γ hΓ hO hr hQ hh
  have hl : (qL Γ).stackTraces = false := by rw [hΓ]; exact hl
  have hS1 := hS.1
  refine z_aload_n (pc := 0) hO 0 dX11_completion_0 rfl rfl ?_
  refine z_iload_n (pc := 1) hO 1 dX11_completion_1 rfl rfl ?_
  rcases Classical.em (0 ≤ sq ∧ sq < x 0 5) with hc1 | hc1
  · skip
    refine z_callVRq (pc := 2) hO (As := [.int (zi sq)]) (st := []) (c_X11_figureOf (qL Γ) g x sq (by first | assumption | omega) (by first | assumption | omega) (by first | assumption | omega)) k_X11_56 isO_0 rfl (Nat.le_of_ble_eq_true rfl) (by decide) (by decide) ⟨by decide, by decide⟩ dX11_completion_2 (fun z2 h4 => ?_)
    obtain ⟨q, hzq, heq, hFq⟩ := h4
    subst hzq
    have htq : sq.toNat = q := by omega
    (try rw [htq] at hok)
    (try rw [htq] at hno)
    have h9q := hFq.1
    have hsq := hFq.2.1
    have hqqq := sq9 hsq
    refine z_astore (pc := 5) hO (lv' := [(5, .ref (gA g (10 + q))), (0, .ref (gA g 0)), (1, .int (zi sq)), (2, .int (zi w)), (3, .int (zi r)), (4, .int (zi c))]) dX11_completion_5 (by decide) rfl ?_
    refine z_aload (pc := 7) hO 0 dX11_completion_7 rfl ?_
    refine z_iload_n (pc := 9) hO 4 dX11_completion_9 rfl rfl ?_
    refine z_iload (pc := 10) hO 5 dX11_completion_10 rfl ?_
    rcases Classical.em ((0 ≤ r ∧ r < x (10 + q) 1) ∧ 0 ≤ c ∧ c < x (10 + q) 1) with hc5 | hc5
    · skip
      refine z_callSVq (pc := 12) hO (As := [.ref (gA g (10 + q)), .int (zi r), .int (zi c)]) (st := []) (c_X11_requirePoint (qL Γ) g x q r c (by exact hFq) (by first | assumption | omega) (by first | assumption | omega) (by first | assumption | omega)) k_X11_60 rfl (Nat.le_of_ble_eq_true rfl) (by decide) (by decide) ⟨by decide, by decide⟩ dX11_completion_12 (fun h8 => ?_)
      refine z_iload_n (pc := 15) hO 3 dX11_completion_15 rfl rfl ?_
      refine z_if_ge (pc := 16) hO (tgt := 29) dX11_completion_16 (by decide) (by omega) (fun b9 => ?_) (fun b9 => ?_)
      · refine z_aload (pc := 29) hO 0 dX11_completion_29 rfl ?_
        refine z_callSB (pc := 31) hO (As := [.ref (gA g (10 + q))]) (st := []) (c_X11_canBeCompleted (qL Γ) g x q (by first | assumption | omega)) k_X11_138 rfl (Nat.le_of_ble_eq_true rfl) (by decide) (by decide) ⟨by decide, by decide⟩ dX11_completion_31 (fun pb10 => ?_) (fun pb10 => ?_)
        · skip
          have hpb := pb10
          rcases Classical.em (1 = 1) with hc11 | hc11
          · skip
            refine z_callSVq (pc := 34) hO (As := [.int (zi 1)]) (st := []) (c_X11_requireState (qL Γ) g x 1 (by first | assumption | omega) (by first | assumption | omega)) k_X11_80 rfl (Nat.le_of_ble_eq_true rfl) (by decide) (by decide) ⟨by decide, by decide⟩ dX11_completion_34 (fun h14 => ?_)
            first | (exfalso; omega) | exact absurd ⟨by omega, by omega, hpb⟩ hno
          · exact z_xcallSV (pc := 34) hO (As := [.int (zi 1)]) (st := []) hQ hh (by intro E hE; rw [hE]; exact exc_is (by rw [htq]; omega) (by omega)) (x_X11_requireState (qL Γ) hl g x 1 (by first | assumption | omega) (by first | assumption | omega)) k_X11_80 rfl (Nat.le_of_ble_eq_true rfl) (by decide) (by decide) ⟨by decide, by decide⟩ dX11_completion_34 (fun _ h => h.elim)
        · skip
          have hpb := pb10
          rcases Classical.em (0 = 1) with hc15 | hc15
          · skip
            refine z_callSVq (pc := 34) hO (As := [.int (zi 0)]) (st := []) (c_X11_requireState (qL Γ) g x 0 (by first | assumption | omega) (by first | assumption | omega)) k_X11_80 rfl (Nat.le_of_ble_eq_true rfl) (by decide) (by decide) ⟨by decide, by decide⟩ dX11_completion_34 (fun h18 => ?_)
            first | (exfalso; omega) | exact absurd ⟨by omega, by omega, hpb⟩ hno
          · exact z_xcallSV (pc := 34) hO (As := [.int (zi 0)]) (st := []) hQ hh (by intro E hE; rw [hE]; exact exc_is (by rw [htq]; omega) (by omega)) (x_X11_requireState (qL Γ) hl g x 0 (by first | assumption | omega) (by first | assumption | omega)) k_X11_80 rfl (Nat.le_of_ble_eq_true rfl) (by decide) (by decide) ⟨by decide, by decide⟩ dX11_completion_34 (fun _ h => h.elim)
      · exact z_throw (pc := 19) (text := "below 0") hO hl hQ hh (by decide +kernel) l_X11_149 wi_IllegalArgumentException (by decide) wsX_I dX11_completion_19 dX11_completion_22 dX11_completion_23 dX11_completion_25 dX11_completion_28 (by decide) (by decide) ⟨by decide, by decide⟩ (by exact exc_ia (by rw [htq]; omega) (by omega))
    · exact z_xcallSV (pc := 12) hO (As := [.ref (gA g (10 + q)), .int (zi r), .int (zi c)]) (st := []) hQ hh (by intro E hE; rw [hE]; exact exc_io (by rw [htq]; omega)) (x_X11_requirePoint (qL Γ) hl g x q r c (by exact hFq) (by first | assumption | omega) (by first | assumption | omega) (by first | assumption | omega)) k_X11_60 rfl (Nat.le_of_ble_eq_true rfl) (by decide) (by decide) ⟨by decide, by decide⟩ dX11_completion_12 (fun _ h => h.elim)
  · exact z_xcallVR (pc := 2) hO (As := [.int (zi sq)]) (st := []) hQ hh (by intro E hE; rw [hE]; exact exc_io (by omega)) (x_X11_figureOf (qL Γ) hl g x sq (by first | assumption | omega) (by first | assumption | omega) (by first | assumption | omega)) k_X11_56 isO_0 rfl (Nat.le_of_ble_eq_true rfl) (by decide) (by decide) ⟨by decide, by decide⟩ dX11_completion_2 (fun _ _ h => h.elim)

set_option maxHeartbeats 4000000 in
theorem c_X11_slip (l : Launch) (g : Gl) (x : Me) (sq : Int) (what : Int)  (hS : HS x) (r_sq : -2147483648 ≤ sq ∧ sq < 2147483648) (r_what : -2147483648 ≤ what ∧ what < 2147483648) (hok : (0 ≤ sq ∧ sq < x 0 5) ∧ (0 ≤ what ∧ what ≤ 2)) : ctQ l g yX11_slip cX11_slip 4 (some .int) 7 161 [.ref (gA g 0), .int (zi sq), .int (zi what)] x (QIu g (fun z x' => z = (slp (x (10 + sq.toNat) 1) (nc x sq.toNat) what) ∧ x' = x)) := by
  refine ct_start (own := RX11) (lv := [(0, .ref (gA g 0)), (1, .int (zi sq)), (2, .int (zi what))]) (plainFor_of_name (by decide)) rfl (Nat.le_of_ble_eq_true rfl) rfl ?_
  intro Γ hΓ hO hr hQ _
  have hS1 := hS.1
  refine z_aload_n (pc := 0) hO 0 dX11_slip_0 rfl rfl ?_
  refine z_iload_n (pc := 1) hO 1 dX11_slip_1 rfl rfl ?_
  refine z_callVRq (pc := 2) hO (As := [.int (zi sq)]) (st := []) (c_X11_figureOf (qL Γ) g x sq (by first | assumption | omega) (by first | assumption | omega) (by first | assumption | omega)) k_X11_56 isO_0 rfl (Nat.le_of_ble_eq_true rfl) (by decide) (by decide) ⟨by decide, by decide⟩ dX11_slip_2 (fun z1 h3 => ?_)
  obtain ⟨q, hzq, heq, hFq⟩ := h3
  subst hzq
  have htq : sq.toNat = q := by omega
  (try rw [htq] at hok)
  (try rw [htq] at hno)
  have h9q := hFq.1
  have hsq := hFq.2.1
  have hqqq := sq9 hsq
  refine z_astore_n (pc := 5) hO (lv' := [(3, .ref (gA g (10 + q))), (0, .ref (gA g 0)), (1, .int (zi sq)), (2, .int (zi what))]) dX11_slip_5 rfl (by decide) rfl ?_
  refine z_iload_n (pc := 6) hO 3 dX11_slip_6 rfl rfl ?_
  refine z_iconst (pc := 7) hO dX11_slip_7 ?_
  refine z_iconst (pc := 8) hO dX11_slip_8 ?_
  refine z_callSVq (pc := 9) hO (As := [.int (zi what), .int (zi 0), .int (zi 2)]) (st := []) (c_X11_requireRange (qL Γ) g x what 0 2 (by first | assumption | omega) (by first | assumption | omega) (by first | assumption | omega) (by first | assumption | omega)) k_X11_45 rfl (Nat.le_of_ble_eq_true rfl) (by decide) (by decide) ⟨by decide, by decide⟩ dX11_slip_9 (fun h6 => ?_)
  refine z_aload_n (pc := 12) hO 0 dX11_slip_12 rfl rfl ?_
  refine z_iload_n (pc := 13) hO 3 dX11_slip_13 rfl rfl ?_
  refine z_callSIp (pc := 14) hO (As := [.ref (gA g (10 + q)), .int (zi what)]) (st := []) (c_X9_tell (qL Γ) g x q what (by first | assumption | omega) (by first | assumption | omega)) k_X11_179 rfl (Nat.le_of_ble_eq_true rfl) (by decide) (by decide) ⟨by decide, by decide⟩ dX11_slip_14 ?_
  exact z_iret (pc := 17) hO hr hQ rfl dX11_slip_17 ⟨by first | (rw [htq]; done) | (exfalso; omega), rfl⟩

set_option maxHeartbeats 4000000 in
theorem x_X11_slip (l : Launch) (hl : l.stackTraces = false) (g : Gl) (x : Me) (sq : Int) (what : Int)  (hS : HS x) (r_sq : -2147483648 ≤ sq ∧ sq < 2147483648) (r_what : -2147483648 ≤ what ∧ what < 2147483648) (hno : ¬ ((0 ≤ sq ∧ sq < x 0 5) ∧ (0 ≤ what ∧ what ≤ 2))) : cxQ l g yX11_slip cX11_slip 4 (some .int) 7 161 1 6 [.ref (gA g 0), .int (zi sq), .int (zi what)] x (QIu g (fun z x' => False)) (fun E => E = exc (0 ≤ sq ∧ sq < x 0 5) (0 ≤ what ∧ what ≤ 2)) := by
  refine cx_start (own := RX11) (lv := [(0, .ref (gA g 0)), (1, .int (zi sq)), (2, .int (zi what))]) (by decide) rfl (Nat.le_of_ble_eq_true rfl) rfl ?_
  intro Γ hΓ hO hr hQ hh
  have hl : (qL Γ).stackTraces = false := by rw [hΓ]; exact hl
  have hS1 := hS.1
  refine z_aload_n (pc := 0) hO 0 dX11_slip_0 rfl rfl ?_
  refine z_iload_n (pc := 1) hO 1 dX11_slip_1 rfl rfl ?_
  rcases Classical.em (0 ≤ sq ∧ sq < x 0 5) with hc1 | hc1
  · skip
    refine z_callVRq (pc := 2) hO (As := [.int (zi sq)]) (st := []) (c_X11_figureOf (qL Γ) g x sq (by first | assumption | omega) (by first | assumption | omega) (by first | assumption | omega)) k_X11_56 isO_0 rfl (Nat.le_of_ble_eq_true rfl) (by decide) (by decide) ⟨by decide, by decide⟩ dX11_slip_2 (fun z2 h4 => ?_)
    obtain ⟨q, hzq, heq, hFq⟩ := h4
    subst hzq
    have htq : sq.toNat = q := by omega
    (try rw [htq] at hok)
    (try rw [htq] at hno)
    have h9q := hFq.1
    have hsq := hFq.2.1
    have hqqq := sq9 hsq
    refine z_astore_n (pc := 5) hO (lv' := [(3, .ref (gA g (10 + q))), (0, .ref (gA g 0)), (1, .int (zi sq)), (2, .int (zi what))]) dX11_slip_5 rfl (by decide) rfl ?_
    refine z_iload_n (pc := 6) hO 3 dX11_slip_6 rfl rfl ?_
    refine z_iconst (pc := 7) hO dX11_slip_7 ?_
    refine z_iconst (pc := 8) hO dX11_slip_8 ?_
    rcases Classical.em (0 ≤ what ∧ what ≤ 2) with hc5 | hc5
    · skip
      refine z_callSVq (pc := 9) hO (As := [.int (zi what), .int (zi 0), .int (zi 2)]) (st := []) (c_X11_requireRange (qL Γ) g x what 0 2 (by first | assumption | omega) (by first | assumption | omega) (by first | assumption | omega) (by first | assumption | omega)) k_X11_45 rfl (Nat.le_of_ble_eq_true rfl) (by decide) (by decide) ⟨by decide, by decide⟩ dX11_slip_9 (fun h8 => ?_)
      exfalso; omega
    · exact z_xcallSV (pc := 9) hO (As := [.int (zi what), .int (zi 0), .int (zi 2)]) (st := []) hQ hh (by intro E hE; rw [hE]; exact exc_ia (by first | trivial | omega) (by omega)) (x_X11_requireRange (qL Γ) hl g x what 0 2 (by first | assumption | omega) (by first | assumption | omega) (by first | assumption | omega) (by first | assumption | omega)) k_X11_45 rfl (Nat.le_of_ble_eq_true rfl) (by decide) (by decide) ⟨by decide, by decide⟩ dX11_slip_9 (fun _ h => h.elim)
  · exact z_xcallVR (pc := 2) hO (As := [.int (zi sq)]) (st := []) hQ hh (by intro E hE; rw [hE]; exact exc_io (by omega)) (x_X11_figureOf (qL Γ) hl g x sq (by first | assumption | omega) (by first | assumption | omega) (by first | assumption | omega)) k_X11_56 isO_0 rfl (Nat.le_of_ble_eq_true rfl) (by decide) (by decide) ⟨by decide, by decide⟩ dX11_slip_2 (fun _ _ h => h.elim)

set_option maxHeartbeats 4000000 in
theorem c_X11_orthogonal (l : Launch) (g : Gl) (x : Me) (sq : Int) (ot : Int)  (hS : HS x) (r_sq : -2147483648 ≤ sq ∧ sq < 2147483648) (r_ot : -2147483648 ≤ ot ∧ ot < 2147483648) (hok : ((0 ≤ sq ∧ sq < x 0 5) ∧ 0 ≤ ot ∧ ot < x 0 5) ∧ (x (10 + sq.toNat) 1 = x (10 + ot.toNat) 1)) : ctQ l g yX11_orthogonal cX11_orthogonal 5 (some .boolean) 3 64 [.ref (gA g 0), .int (zi sq), .int (zi ot)] x (QIu g (fun z x' => ((z = 1 ∧ (ort (x (10 + sq.toNat) 1) (nc x sq.toNat) (nc x ot.toNat))) ∨ (z = 0 ∧ ¬ (ort (x (10 + sq.toNat) 1) (nc x sq.toNat) (nc x ot.toNat)))) ∧ x' = x)) := by
  refine ct_start (own := RX11) (lv := [(0, .ref (gA g 0)), (1, .int (zi sq)), (2, .int (zi ot))]) (plainFor_of_name (by decide)) rfl (Nat.le_of_ble_eq_true rfl) rfl ?_
  intro Γ hΓ hO hr hQ _
  have hS1 := hS.1
  refine z_aload_n (pc := 0) hO 0 dX11_orthogonal_0 rfl rfl ?_
  refine z_iload_n (pc := 1) hO 1 dX11_orthogonal_1 rfl rfl ?_
  refine z_callVRq (pc := 2) hO (As := [.int (zi sq)]) (st := []) (c_X11_figureOf (qL Γ) g x sq (by first | assumption | omega) (by first | assumption | omega) (by first | assumption | omega)) k_X11_56 isO_0 rfl (Nat.le_of_ble_eq_true rfl) (by decide) (by decide) ⟨by decide, by decide⟩ dX11_orthogonal_2 (fun z1 h3 => ?_)
  obtain ⟨q, hzq, heq, hFq⟩ := h3
  subst hzq
  have htq : sq.toNat = q := by omega
  (try rw [htq] at hok)
  (try rw [htq] at hno)
  have h9q := hFq.1
  have hsq := hFq.2.1
  have hqqq := sq9 hsq
  refine z_astore_n (pc := 5) hO (lv' := [(3, .ref (gA g (10 + q))), (0, .ref (gA g 0)), (1, .int (zi sq)), (2, .int (zi ot))]) dX11_orthogonal_5 rfl (by decide) rfl ?_
  refine z_aload_n (pc := 6) hO 1 dX11_orthogonal_6 rfl rfl ?_
  refine z_iload_n (pc := 7) hO 3 dX11_orthogonal_7 rfl rfl ?_
  refine z_callVRq (pc := 8) hO (As := [.int (zi ot)]) (st := []) (c_X11_figureOf (qL Γ) g x ot (by first | assumption | omega) (by first | assumption | omega) (by first | assumption | omega)) k_X11_56 isO_0 rfl (Nat.le_of_ble_eq_true rfl) (by decide) (by decide) ⟨by decide, by decide⟩ dX11_orthogonal_8 (fun z4 h6 => ?_)
  obtain ⟨r, hzr, her, hFr⟩ := h6
  subst hzr
  have htr : ot.toNat = r := by omega
  (try rw [htr] at hok)
  (try rw [htr] at hno)
  have h9r := hFr.1
  have hsr := hFr.2.1
  have hqqr := sq9 hsr
  refine z_astore (pc := 11) hO (lv' := [(4, .ref (gA g (10 + r))), (3, .ref (gA g (10 + q))), (0, .ref (gA g 0)), (1, .int (zi sq)), (2, .int (zi ot))]) dX11_orthogonal_11 (by decide) rfl ?_
  refine z_aload_n (pc := 13) hO 1 dX11_orthogonal_13 rfl rfl ?_
  refine z_callVIp (pc := 14) hO (As := []) (st := []) (c_X1_side (qL Γ) g x q (by first | assumption | omega)) k_X11_94 (isO_fig (by omega : q < 9)) rfl (Nat.le_of_ble_eq_true rfl) (by decide) (by decide) ⟨by decide, by decide⟩ dX11_orthogonal_14 ?_
  refine z_aload (pc := 17) hO 0 dX11_orthogonal_17 rfl ?_
  refine z_callVIp (pc := 19) hO (As := []) (st := [.int (zi (x (10 + q) 1))]) (c_X1_side (qL Γ) g x r (by first | assumption | omega)) k_X11_94 (isO_fig (by omega : r < 9)) rfl (Nat.le_of_ble_eq_true rfl) (by decide) (by decide) ⟨by decide, by decide⟩ dX11_orthogonal_19 ?_
  refine z_icmp_ne (pc := 22) hO (tgt := 29) dX11_orthogonal_22 (by decide) (by omega) (by omega) (fun b7 => ?_) (fun b7 => ?_)
  · refine z_iconst (pc := 29) hO dX11_orthogonal_29 ?_
    refine z_callSVq (pc := 30) hO (As := [.int (zi 0)]) (st := []) (c_X11_requireState (qL Γ) g x 0 (by first | assumption | omega) (by first | assumption | omega)) k_X11_80 rfl (Nat.le_of_ble_eq_true rfl) (by decide) (by decide) ⟨by decide, by decide⟩ dX11_orthogonal_30 (fun h10 => ?_)
    refine z_aload_n (pc := 33) hO 1 dX11_orthogonal_33 rfl rfl ?_
    refine z_aload (pc := 34) hO 0 dX11_orthogonal_34 rfl ?_
    refine z_callSB (pc := 36) hO (As := [.ref (gA g (10 + q)), .ref (gA g (10 + r))]) (st := []) (c_X6_areOrthogonal (qL Γ) g x q r (by first | assumption | omega) (by first | assumption | omega)) k_X11_182 rfl (Nat.le_of_ble_eq_true rfl) (by decide) (by decide) ⟨by decide, by decide⟩ dX11_orthogonal_36 (fun pb11 => ?_) (fun pb11 => ?_)
    · skip
      exact z_iret (pc := 39) hO hr hQ rfl dX11_orthogonal_39 ⟨Or.inl ⟨rfl, by first | (rw [htq, htr]; assumption; done) | (exfalso; omega)⟩, rfl⟩
    · skip
      exact z_iret (pc := 39) hO hr hQ rfl dX11_orthogonal_39 ⟨Or.inr ⟨rfl, by first | (rw [htq, htr]; assumption; done) | (exfalso; omega)⟩, rfl⟩
  · refine z_iconst (pc := 25) hO dX11_orthogonal_25 ?_
    refine z_goto (pc := 26) hO (tgt := 30) dX11_orthogonal_26 (by decide) ?_
    refine z_callSVq (pc := 30) hO (As := [.int (zi 1)]) (st := []) (c_X11_requireState (qL Γ) g x 1 (by first | assumption | omega) (by first | assumption | omega)) k_X11_80 rfl (Nat.le_of_ble_eq_true rfl) (by decide) (by decide) ⟨by decide, by decide⟩ dX11_orthogonal_30 (fun h14 => ?_)
    refine z_aload_n (pc := 33) hO 1 dX11_orthogonal_33 rfl rfl ?_
    refine z_aload (pc := 34) hO 0 dX11_orthogonal_34 rfl ?_
    refine z_callSB (pc := 36) hO (As := [.ref (gA g (10 + q)), .ref (gA g (10 + r))]) (st := []) (c_X6_areOrthogonal (qL Γ) g x q r (by first | assumption | omega) (by first | assumption | omega)) k_X11_182 rfl (Nat.le_of_ble_eq_true rfl) (by decide) (by decide) ⟨by decide, by decide⟩ dX11_orthogonal_36 (fun pb15 => ?_) (fun pb15 => ?_)
    · skip
      exact z_iret (pc := 39) hO hr hQ rfl dX11_orthogonal_39 ⟨Or.inl ⟨rfl, by first | (rw [htq, htr]; assumption; done) | (exfalso; omega)⟩, rfl⟩
    · skip
      exact z_iret (pc := 39) hO hr hQ rfl dX11_orthogonal_39 ⟨Or.inr ⟨rfl, by first | (rw [htq, htr]; assumption; done) | (exfalso; omega)⟩, rfl⟩

set_option maxHeartbeats 4000000 in
theorem x_X11_orthogonal (l : Launch) (hl : l.stackTraces = false) (g : Gl) (x : Me) (sq : Int) (ot : Int)  (hS : HS x) (r_sq : -2147483648 ≤ sq ∧ sq < 2147483648) (r_ot : -2147483648 ≤ ot ∧ ot < 2147483648) (hno : ¬ (((0 ≤ sq ∧ sq < x 0 5) ∧ 0 ≤ ot ∧ ot < x 0 5) ∧ (x (10 + sq.toNat) 1 = x (10 + ot.toNat) 1))) : cxQ l g yX11_orthogonal cX11_orthogonal 5 (some .boolean) 7 121 1 6 [.ref (gA g 0), .int (zi sq), .int (zi ot)] x (QIu g (fun z x' => False)) (fun E => E = exc ((0 ≤ sq ∧ sq < x 0 5) ∧ 0 ≤ ot ∧ ot < x 0 5) (True)) := by
  refine cx_start (own := RX11) (lv := [(0, .ref (gA g 0)), (1, .int (zi sq)), (2, .int (zi ot))]) (by decide) rfl (Nat.le_of_ble_eq_true rfl) rfl ?_
  intro Γ hΓ hO hr hQ hh
  have hl : (qL Γ).stackTraces = false := by rw [hΓ]; exact hl
  have hS1 := hS.1
  refine z_aload_n (pc := 0) hO 0 dX11_orthogonal_0 rfl rfl ?_
  refine z_iload_n (pc := 1) hO 1 dX11_orthogonal_1 rfl rfl ?_
  rcases Classical.em (0 ≤ sq ∧ sq < x 0 5) with hc1 | hc1
  · skip
    refine z_callVRq (pc := 2) hO (As := [.int (zi sq)]) (st := []) (c_X11_figureOf (qL Γ) g x sq (by first | assumption | omega) (by first | assumption | omega) (by first | assumption | omega)) k_X11_56 isO_0 rfl (Nat.le_of_ble_eq_true rfl) (by decide) (by decide) ⟨by decide, by decide⟩ dX11_orthogonal_2 (fun z2 h4 => ?_)
    obtain ⟨q, hzq, heq, hFq⟩ := h4
    subst hzq
    have htq : sq.toNat = q := by omega
    (try rw [htq] at hok)
    (try rw [htq] at hno)
    have h9q := hFq.1
    have hsq := hFq.2.1
    have hqqq := sq9 hsq
    refine z_astore_n (pc := 5) hO (lv' := [(3, .ref (gA g (10 + q))), (0, .ref (gA g 0)), (1, .int (zi sq)), (2, .int (zi ot))]) dX11_orthogonal_5 rfl (by decide) rfl ?_
    refine z_aload_n (pc := 6) hO 1 dX11_orthogonal_6 rfl rfl ?_
    refine z_iload_n (pc := 7) hO 3 dX11_orthogonal_7 rfl rfl ?_
    rcases Classical.em (0 ≤ ot ∧ ot < x 0 5) with hc5 | hc5
    · skip
      refine z_callVRq (pc := 8) hO (As := [.int (zi ot)]) (st := []) (c_X11_figureOf (qL Γ) g x ot (by first | assumption | omega) (by first | assumption | omega) (by first | assumption | omega)) k_X11_56 isO_0 rfl (Nat.le_of_ble_eq_true rfl) (by decide) (by decide) ⟨by decide, by decide⟩ dX11_orthogonal_8 (fun z6 h8 => ?_)
      obtain ⟨r, hzr, her, hFr⟩ := h8
      subst hzr
      have htr : ot.toNat = r := by omega
      (try rw [htr] at hok)
      (try rw [htr] at hno)
      have h9r := hFr.1
      have hsr := hFr.2.1
      have hqqr := sq9 hsr
      refine z_astore (pc := 11) hO (lv' := [(4, .ref (gA g (10 + r))), (3, .ref (gA g (10 + q))), (0, .ref (gA g 0)), (1, .int (zi sq)), (2, .int (zi ot))]) dX11_orthogonal_11 (by decide) rfl ?_
      refine z_aload_n (pc := 13) hO 1 dX11_orthogonal_13 rfl rfl ?_
      refine z_callVIp (pc := 14) hO (As := []) (st := []) (c_X1_side (qL Γ) g x q (by first | assumption | omega)) k_X11_94 (isO_fig (by omega : q < 9)) rfl (Nat.le_of_ble_eq_true rfl) (by decide) (by decide) ⟨by decide, by decide⟩ dX11_orthogonal_14 ?_
      refine z_aload (pc := 17) hO 0 dX11_orthogonal_17 rfl ?_
      refine z_callVIp (pc := 19) hO (As := []) (st := [.int (zi (x (10 + q) 1))]) (c_X1_side (qL Γ) g x r (by first | assumption | omega)) k_X11_94 (isO_fig (by omega : r < 9)) rfl (Nat.le_of_ble_eq_true rfl) (by decide) (by decide) ⟨by decide, by decide⟩ dX11_orthogonal_19 ?_
      refine z_icmp_ne (pc := 22) hO (tgt := 29) dX11_orthogonal_22 (by decide) (by omega) (by omega) (fun b9 => ?_) (fun b9 => ?_)
      · refine z_iconst (pc := 29) hO dX11_orthogonal_29 ?_
        rcases Classical.em (0 = 1) with hc10 | hc10
        · skip
          refine z_callSVq (pc := 30) hO (As := [.int (zi 0)]) (st := []) (c_X11_requireState (qL Γ) g x 0 (by first | assumption | omega) (by first | assumption | omega)) k_X11_80 rfl (Nat.le_of_ble_eq_true rfl) (by decide) (by decide) ⟨by decide, by decide⟩ dX11_orthogonal_30 (fun h13 => ?_)
          exfalso; omega
        · exact z_xcallSV (pc := 30) hO (As := [.int (zi 0)]) (st := []) hQ hh (by intro E hE; rw [hE]; exact exc_is (by first | trivial | omega | (rw [htq]; omega)) (by first | trivial | omega)) (x_X11_requireState (qL Γ) hl g x 0 (by first | assumption | omega) (by first | assumption | omega)) k_X11_80 rfl (Nat.le_of_ble_eq_true rfl) (by decide) (by decide) ⟨by decide, by decide⟩ dX11_orthogonal_30 (fun _ h => h.elim)
      · refine z_iconst (pc := 25) hO dX11_orthogonal_25 ?_
        refine z_goto (pc := 26) hO (tgt := 30) dX11_orthogonal_26 (by decide) ?_
        rcases Classical.em (1 = 1) with hc14 | hc14
        · skip
          refine z_callSVq (pc := 30) hO (As := [.int (zi 1)]) (st := []) (c_X11_requireState (qL Γ) g x 1 (by first | assumption | omega) (by first | assumption | omega)) k_X11_80 rfl (Nat.le_of_ble_eq_true rfl) (by decide) (by decide) ⟨by decide, by decide⟩ dX11_orthogonal_30 (fun h17 => ?_)
          exfalso; omega
        · exact z_xcallSV (pc := 30) hO (As := [.int (zi 1)]) (st := []) hQ hh (by intro E hE; rw [hE]; exact exc_is (by first | trivial | omega | (rw [htq]; omega)) (by first | trivial | omega)) (x_X11_requireState (qL Γ) hl g x 1 (by first | assumption | omega) (by first | assumption | omega)) k_X11_80 rfl (Nat.le_of_ble_eq_true rfl) (by decide) (by decide) ⟨by decide, by decide⟩ dX11_orthogonal_30 (fun _ h => h.elim)
    · exact z_xcallVR (pc := 8) hO (As := [.int (zi ot)]) (st := []) hQ hh (by intro E hE; rw [hE]; exact exc_io (by omega)) (x_X11_figureOf (qL Γ) hl g x ot (by first | assumption | omega) (by first | assumption | omega) (by first | assumption | omega)) k_X11_56 isO_0 rfl (Nat.le_of_ble_eq_true rfl) (by decide) (by decide) ⟨by decide, by decide⟩ dX11_orthogonal_8 (fun _ _ h => h.elim)
  · exact z_xcallVR (pc := 2) hO (As := [.int (zi sq)]) (st := []) hQ hh (by intro E hE; rw [hE]; exact exc_io (by omega)) (x_X11_figureOf (qL Γ) hl g x sq (by first | assumption | omega) (by first | assumption | omega) (by first | assumption | omega)) k_X11_56 isO_0 rfl (Nat.le_of_ble_eq_true rfl) (by decide) (by decide) ⟨by decide, by decide⟩ dX11_orthogonal_2 (fun _ _ h => h.elim)

set_option maxHeartbeats 4000000 in
theorem c_X11_givens (l : Launch) (g : Gl) (x : Me) (sq : Int) (st : Int)  (hS : HS x) (r_sq : -2147483648 ≤ sq ∧ sq < 2147483648) (hst : st = 0 ∨ st = 1) (hok : (0 ≤ sq ∧ sq < x 0 5) ∧ (x (10 + sq.toNat) 1 ≤ 3 ∧ nrm (x (10 + sq.toNat) 1) (nc x sq.toNat) ∧ mag (x (10 + sq.toNat) 1) (nc x sq.toNat))) : ctQ l g yX11_givens cX11_givens 5 (some .int) 6 137 [.ref (gA g 0), .int (zi sq), .int (zi st)] x (QIu g (fun z x' => z = (if st = 1 then gvF (x (10 + sq.toNat) 1) (nc x sq.toNat) else pop (gvF (x (10 + sq.toNat) 1) (nc x sq.toNat))) ∧ ∀ a, a ≠ 41 → x' a = x a)) := by
  refine ct_start (own := RX11) (lv := [(0, .ref (gA g 0)), (1, .int (zi sq)), (2, .int (zi st))]) (plainFor_of_name (by decide)) rfl (Nat.le_of_ble_eq_true rfl) rfl ?_
  intro Γ hΓ hO hr hQ _
  have hS1 := hS.1
  refine z_aload_n (pc := 0) hO 0 dX11_givens_0 rfl rfl ?_
  refine z_iload_n (pc := 1) hO 1 dX11_givens_1 rfl rfl ?_
  refine z_callVRq (pc := 2) hO (As := [.int (zi sq)]) (st := []) (c_X11_figureOf (qL Γ) g x sq (by first | assumption | omega) (by first | assumption | omega) (by first | assumption | omega)) k_X11_56 isO_0 rfl (Nat.le_of_ble_eq_true rfl) (by decide) (by decide) ⟨by decide, by decide⟩ dX11_givens_2 (fun z1 h3 => ?_)
  obtain ⟨q, hzq, heq, hFq⟩ := h3
  subst hzq
  have htq : sq.toNat = q := by omega
  (try rw [htq] at hok)
  (try rw [htq] at hno)
  have h9q := hFq.1
  have hsq := hFq.2.1
  have hqqq := sq9 hsq
  refine z_astore_n (pc := 5) hO (lv' := [(3, .ref (gA g (10 + q))), (0, .ref (gA g 0)), (1, .int (zi sq)), (2, .int (zi st))]) dX11_givens_5 rfl (by decide) rfl ?_
  refine z_aload_n (pc := 6) hO 0 dX11_givens_6 rfl rfl ?_
  refine z_callVIp (pc := 7) hO (As := []) (st := []) (c_X1_side (qL Γ) g x q (by first | assumption | omega)) k_X11_94 (isO_fig (by omega : q < 9)) rfl (Nat.le_of_ble_eq_true rfl) (by decide) (by decide) ⟨by decide, by decide⟩ dX11_givens_7 ?_
  refine z_iconst (pc := 10) hO dX11_givens_10 ?_
  refine z_icmp_gt (pc := 11) hO (tgt := 32) dX11_givens_11 (by decide) (by omega) (by omega) (fun b4 => ?_) (fun b4 => ?_)
  · refine z_iconst (pc := 32) hO dX11_givens_32 ?_
    refine z_callSVq (pc := 33) hO (As := [.int (zi 0)]) (st := []) (c_X11_requireState (qL Γ) g x 0 (by first | assumption | omega) (by first | assumption | omega)) k_X11_80 rfl (Nat.le_of_ble_eq_true rfl) (by decide) (by decide) ⟨by decide, by decide⟩ dX11_givens_33 (fun h7 => ?_)
    refine z_aload_n (pc := 36) hO 1 dX11_givens_36 rfl rfl ?_
    refine gf_X11_givensFinder (pc := 37) hO f_X11_30 dX11_givens_37 ?_
    refine z_aload_n (pc := 40) hO 0 dX11_givens_40 rfl rfl ?_
    refine z_callVI (pc := 41) hO (As := [.ref (gA g (10 + q))]) (st := []) (c_X3_fewestOf (qL Γ) g x q (by first | assumption | omega) (by first | assumption | omega)) k_X11_169 isO_40 rfl (Nat.le_of_ble_eq_true rfl) (by decide) (by decide) ⟨by decide, by decide⟩ dX11_givens_41 (fun gv m8 h9 => ?_)
    have hz := h9
    have hgr := gvF_r (n := x (10 + q) 1) (f := nc x q) (by omega)
    rw [← hz.1] at hgr
    refine z_istore (pc := 44) hO (lv' := [(4, .int (zi gv)), (3, .ref (gA g (10 + q))), (0, .ref (gA g 0)), (1, .int (zi sq)), (2, .int (zi st))]) dX11_givens_44 (by decide) rfl ?_
    refine z_iload_n (pc := 46) hO 4 dX11_givens_46 rfl rfl ?_
    refine z_if_eq (pc := 47) hO (tgt := 55) dX11_givens_47 (by decide) (by omega) (fun b10 => ?_) (fun b10 => ?_)
    · refine z_iload (pc := 55) hO 0 dX11_givens_55 rfl ?_
      refine z_callSIp (pc := 57) hO (As := [.int (zi gv)]) (st := []) (c_J6_bitCount_0f7a4 (qL Γ) g m8 gv (by first | assumption | omega)) k_X11_172 rfl (Nat.le_of_ble_eq_true rfl) (by decide) (by decide) ⟨by decide, by decide⟩ dX11_givens_57 ?_
      exact z_iret (pc := 60) hO hr hQ rfl dX11_givens_60 (by first | (rw [htq]; refine ⟨?_, hz.2⟩; rw [← hz.1]; first | (rw [if_pos (by omega)]; done) | (rw [if_neg (by omega)]; done); done) | (exfalso; omega))
    · refine z_iload (pc := 50) hO 0 dX11_givens_50 rfl ?_
      refine z_goto (pc := 52) hO (tgt := 60) dX11_givens_52 (by decide) ?_
      exact z_iret (pc := 60) hO hr hQ rfl dX11_givens_60 (by first | (rw [htq]; refine ⟨?_, hz.2⟩; rw [← hz.1]; first | (rw [if_pos (by omega)]; done) | (rw [if_neg (by omega)]; done); done) | (exfalso; omega))
  · refine z_aload_n (pc := 14) hO 0 dX11_givens_14 rfl rfl ?_
    refine z_callSB (pc := 15) hO (As := [.ref (gA g (10 + q))]) (st := []) (c_X4_isNormal (qL Γ) g x q (by first | assumption | omega)) k_X11_163 rfl (Nat.le_of_ble_eq_true rfl) (by decide) (by decide) ⟨by decide, by decide⟩ dX11_givens_15 (fun pb11 => ?_) (fun pb11 => ?_)
    · skip
      refine z_if_eq (pc := 18) hO (tgt := 32) dX11_givens_18 (by decide) (by decide) (fun h => absurd h (by decide)) (fun _ => ?_)
      refine z_aload_n (pc := 21) hO 0 dX11_givens_21 rfl rfl ?_
      refine z_callSB (pc := 22) hO (As := [.ref (gA g (10 + q))]) (st := []) (c_X4_isMagic (qL Γ) g x q (by first | assumption | omega)) k_X11_166 rfl (Nat.le_of_ble_eq_true rfl) (by decide) (by decide) ⟨by decide, by decide⟩ dX11_givens_22 (fun pb12 => ?_) (fun pb12 => ?_)
      · skip
        refine z_if_eq (pc := 25) hO (tgt := 32) dX11_givens_25 (by decide) (by decide) (fun h => absurd h (by decide)) (fun _ => ?_)
        refine z_iconst (pc := 28) hO dX11_givens_28 ?_
        refine z_goto (pc := 29) hO (tgt := 33) dX11_givens_29 (by decide) ?_
        refine z_callSVq (pc := 33) hO (As := [.int (zi 1)]) (st := []) (c_X11_requireState (qL Γ) g x 1 (by first | assumption | omega) (by first | assumption | omega)) k_X11_80 rfl (Nat.le_of_ble_eq_true rfl) (by decide) (by decide) ⟨by decide, by decide⟩ dX11_givens_33 (fun h15 => ?_)
        refine z_aload_n (pc := 36) hO 1 dX11_givens_36 rfl rfl ?_
        refine gf_X11_givensFinder (pc := 37) hO f_X11_30 dX11_givens_37 ?_
        refine z_aload_n (pc := 40) hO 0 dX11_givens_40 rfl rfl ?_
        refine z_callVI (pc := 41) hO (As := [.ref (gA g (10 + q))]) (st := []) (c_X3_fewestOf (qL Γ) g x q (by first | assumption | omega) (by first | assumption | omega)) k_X11_169 isO_40 rfl (Nat.le_of_ble_eq_true rfl) (by decide) (by decide) ⟨by decide, by decide⟩ dX11_givens_41 (fun gv m16 h17 => ?_)
        have hz := h17
        have hgr := gvF_r (n := x (10 + q) 1) (f := nc x q) (by omega)
        rw [← hz.1] at hgr
        refine z_istore (pc := 44) hO (lv' := [(4, .int (zi gv)), (3, .ref (gA g (10 + q))), (0, .ref (gA g 0)), (1, .int (zi sq)), (2, .int (zi st))]) dX11_givens_44 (by decide) rfl ?_
        refine z_iload_n (pc := 46) hO 4 dX11_givens_46 rfl rfl ?_
        refine z_if_eq (pc := 47) hO (tgt := 55) dX11_givens_47 (by decide) (by omega) (fun b18 => ?_) (fun b18 => ?_)
        · refine z_iload (pc := 55) hO 0 dX11_givens_55 rfl ?_
          refine z_callSIp (pc := 57) hO (As := [.int (zi gv)]) (st := []) (c_J6_bitCount_0f7a4 (qL Γ) g m16 gv (by first | assumption | omega)) k_X11_172 rfl (Nat.le_of_ble_eq_true rfl) (by decide) (by decide) ⟨by decide, by decide⟩ dX11_givens_57 ?_
          exact z_iret (pc := 60) hO hr hQ rfl dX11_givens_60 (by first | (rw [htq]; refine ⟨?_, hz.2⟩; rw [← hz.1]; first | (rw [if_pos (by omega)]; done) | (rw [if_neg (by omega)]; done); done) | (exfalso; omega))
        · refine z_iload (pc := 50) hO 0 dX11_givens_50 rfl ?_
          refine z_goto (pc := 52) hO (tgt := 60) dX11_givens_52 (by decide) ?_
          exact z_iret (pc := 60) hO hr hQ rfl dX11_givens_60 (by first | (rw [htq]; refine ⟨?_, hz.2⟩; rw [← hz.1]; first | (rw [if_pos (by omega)]; done) | (rw [if_neg (by omega)]; done); done) | (exfalso; omega))
      · skip
        exact absurd hok.2.2.2 pb12
    · skip
      exact absurd hok.2.2.1 pb11

set_option maxHeartbeats 4000000 in
theorem x_X11_givens (l : Launch) (hl : l.stackTraces = false) (g : Gl) (x : Me) (sq : Int) (st : Int)  (hS : HS x) (r_sq : -2147483648 ≤ sq ∧ sq < 2147483648) (hst : st = 0 ∨ st = 1) (hno : ¬ ((0 ≤ sq ∧ sq < x 0 5) ∧ (x (10 + sq.toNat) 1 ≤ 3 ∧ nrm (x (10 + sq.toNat) 1) (nc x sq.toNat) ∧ mag (x (10 + sq.toNat) 1) (nc x sq.toNat)))) : cxQ l g yX11_givens cX11_givens 5 (some .int) 7 137 1 6 [.ref (gA g 0), .int (zi sq), .int (zi st)] x (QIu g (fun z x' => False)) (fun E => E = exc (0 ≤ sq ∧ sq < x 0 5) (True)) := by
  refine cx_start (own := RX11) (lv := [(0, .ref (gA g 0)), (1, .int (zi sq)), (2, .int (zi st))]) (by decide) rfl (Nat.le_of_ble_eq_true rfl) rfl ?_
  intro Γ hΓ hO hr hQ hh
  have hl : (qL Γ).stackTraces = false := by rw [hΓ]; exact hl
  have hS1 := hS.1
  refine z_aload_n (pc := 0) hO 0 dX11_givens_0 rfl rfl ?_
  refine z_iload_n (pc := 1) hO 1 dX11_givens_1 rfl rfl ?_
  rcases Classical.em (0 ≤ sq ∧ sq < x 0 5) with hc1 | hc1
  · skip
    refine z_callVRq (pc := 2) hO (As := [.int (zi sq)]) (st := []) (c_X11_figureOf (qL Γ) g x sq (by first | assumption | omega) (by first | assumption | omega) (by first | assumption | omega)) k_X11_56 isO_0 rfl (Nat.le_of_ble_eq_true rfl) (by decide) (by decide) ⟨by decide, by decide⟩ dX11_givens_2 (fun z2 h4 => ?_)
    obtain ⟨q, hzq, heq, hFq⟩ := h4
    subst hzq
    have htq : sq.toNat = q := by omega
    (try rw [htq] at hok)
    (try rw [htq] at hno)
    have h9q := hFq.1
    have hsq := hFq.2.1
    have hqqq := sq9 hsq
    refine z_astore_n (pc := 5) hO (lv' := [(3, .ref (gA g (10 + q))), (0, .ref (gA g 0)), (1, .int (zi sq)), (2, .int (zi st))]) dX11_givens_5 rfl (by decide) rfl ?_
    refine z_aload_n (pc := 6) hO 0 dX11_givens_6 rfl rfl ?_
    refine z_callVIp (pc := 7) hO (As := []) (st := []) (c_X1_side (qL Γ) g x q (by first | assumption | omega)) k_X11_94 (isO_fig (by omega : q < 9)) rfl (Nat.le_of_ble_eq_true rfl) (by decide) (by decide) ⟨by decide, by decide⟩ dX11_givens_7 ?_
    refine z_iconst (pc := 10) hO dX11_givens_10 ?_
    refine z_icmp_gt (pc := 11) hO (tgt := 32) dX11_givens_11 (by decide) (by omega) (by omega) (fun b5 => ?_) (fun b5 => ?_)
    · refine z_iconst (pc := 32) hO dX11_givens_32 ?_
      rcases Classical.em (0 = 1) with hc6 | hc6
      · skip
        refine z_callSVq (pc := 33) hO (As := [.int (zi 0)]) (st := []) (c_X11_requireState (qL Γ) g x 0 (by first | assumption | omega) (by first | assumption | omega)) k_X11_80 rfl (Nat.le_of_ble_eq_true rfl) (by decide) (by decide) ⟨by decide, by decide⟩ dX11_givens_33 (fun h9 => ?_)
        first | (exfalso; omega) | exact absurd ⟨by omega, by omega, hpa, hpb⟩ hno
      · exact z_xcallSV (pc := 33) hO (As := [.int (zi 0)]) (st := []) hQ hh (by intro E hE; rw [hE]; exact exc_is (by first | trivial | omega | (rw [htq]; omega)) (by first | trivial | omega)) (x_X11_requireState (qL Γ) hl g x 0 (by first | assumption | omega) (by first | assumption | omega)) k_X11_80 rfl (Nat.le_of_ble_eq_true rfl) (by decide) (by decide) ⟨by decide, by decide⟩ dX11_givens_33 (fun _ h => h.elim)
    · refine z_aload_n (pc := 14) hO 0 dX11_givens_14 rfl rfl ?_
      refine z_callSB (pc := 15) hO (As := [.ref (gA g (10 + q))]) (st := []) (c_X4_isNormal (qL Γ) g x q (by first | assumption | omega)) k_X11_163 rfl (Nat.le_of_ble_eq_true rfl) (by decide) (by decide) ⟨by decide, by decide⟩ dX11_givens_15 (fun pb10 => ?_) (fun pb10 => ?_)
      · skip
        have hpa := pb10
        refine z_if_eq (pc := 18) hO (tgt := 32) dX11_givens_18 (by decide) (by decide) (fun h => absurd h (by decide)) (fun _ => ?_)
        refine z_aload_n (pc := 21) hO 0 dX11_givens_21 rfl rfl ?_
        refine z_callSB (pc := 22) hO (As := [.ref (gA g (10 + q))]) (st := []) (c_X4_isMagic (qL Γ) g x q (by first | assumption | omega)) k_X11_166 rfl (Nat.le_of_ble_eq_true rfl) (by decide) (by decide) ⟨by decide, by decide⟩ dX11_givens_22 (fun pb11 => ?_) (fun pb11 => ?_)
        · skip
          have hpb := pb11
          refine z_if_eq (pc := 25) hO (tgt := 32) dX11_givens_25 (by decide) (by decide) (fun h => absurd h (by decide)) (fun _ => ?_)
          refine z_iconst (pc := 28) hO dX11_givens_28 ?_
          refine z_goto (pc := 29) hO (tgt := 33) dX11_givens_29 (by decide) ?_
          rcases Classical.em (1 = 1) with hc12 | hc12
          · skip
            refine z_callSVq (pc := 33) hO (As := [.int (zi 1)]) (st := []) (c_X11_requireState (qL Γ) g x 1 (by first | assumption | omega) (by first | assumption | omega)) k_X11_80 rfl (Nat.le_of_ble_eq_true rfl) (by decide) (by decide) ⟨by decide, by decide⟩ dX11_givens_33 (fun h15 => ?_)
            first | (exfalso; omega) | exact absurd ⟨by omega, by omega, hpa, hpb⟩ hno
          · exact z_xcallSV (pc := 33) hO (As := [.int (zi 1)]) (st := []) hQ hh (by intro E hE; rw [hE]; exact exc_is (by first | trivial | omega | (rw [htq]; omega)) (by first | trivial | omega)) (x_X11_requireState (qL Γ) hl g x 1 (by first | assumption | omega) (by first | assumption | omega)) k_X11_80 rfl (Nat.le_of_ble_eq_true rfl) (by decide) (by decide) ⟨by decide, by decide⟩ dX11_givens_33 (fun _ h => h.elim)
        · skip
          refine z_if_eq (pc := 25) hO (tgt := 32) dX11_givens_25 (by decide) (by decide) (fun _ => ?_) (fun h => absurd h (by decide))
          refine z_iconst (pc := 32) hO dX11_givens_32 ?_
          rcases Classical.em (0 = 1) with hc16 | hc16
          · skip
            refine z_callSVq (pc := 33) hO (As := [.int (zi 0)]) (st := []) (c_X11_requireState (qL Γ) g x 0 (by first | assumption | omega) (by first | assumption | omega)) k_X11_80 rfl (Nat.le_of_ble_eq_true rfl) (by decide) (by decide) ⟨by decide, by decide⟩ dX11_givens_33 (fun h19 => ?_)
            first | (exfalso; omega) | exact absurd ⟨by omega, by omega, hpa, hpb⟩ hno
          · exact z_xcallSV (pc := 33) hO (As := [.int (zi 0)]) (st := []) hQ hh (by intro E hE; rw [hE]; exact exc_is (by first | trivial | omega | (rw [htq]; omega)) (by first | trivial | omega)) (x_X11_requireState (qL Γ) hl g x 0 (by first | assumption | omega) (by first | assumption | omega)) k_X11_80 rfl (Nat.le_of_ble_eq_true rfl) (by decide) (by decide) ⟨by decide, by decide⟩ dX11_givens_33 (fun _ h => h.elim)
      · skip
        refine z_if_eq (pc := 18) hO (tgt := 32) dX11_givens_18 (by decide) (by decide) (fun _ => ?_) (fun h => absurd h (by decide))
        refine z_iconst (pc := 32) hO dX11_givens_32 ?_
        rcases Classical.em (0 = 1) with hc20 | hc20
        · skip
          refine z_callSVq (pc := 33) hO (As := [.int (zi 0)]) (st := []) (c_X11_requireState (qL Γ) g x 0 (by first | assumption | omega) (by first | assumption | omega)) k_X11_80 rfl (Nat.le_of_ble_eq_true rfl) (by decide) (by decide) ⟨by decide, by decide⟩ dX11_givens_33 (fun h23 => ?_)
          first | (exfalso; omega) | exact absurd ⟨by omega, by omega, hpa, hpb⟩ hno
        · exact z_xcallSV (pc := 33) hO (As := [.int (zi 0)]) (st := []) hQ hh (by intro E hE; rw [hE]; exact exc_is (by first | trivial | omega | (rw [htq]; omega)) (by first | trivial | omega)) (x_X11_requireState (qL Γ) hl g x 0 (by first | assumption | omega) (by first | assumption | omega)) k_X11_80 rfl (Nat.le_of_ble_eq_true rfl) (by decide) (by decide) ⟨by decide, by decide⟩ dX11_givens_33 (fun _ h => h.elim)
  · exact z_xcallVR (pc := 2) hO (As := [.int (zi sq)]) (st := []) hQ hh (by intro E hE; rw [hE]; exact exc_io (by omega)) (x_X11_figureOf (qL Γ) hl g x sq (by first | assumption | omega) (by first | assumption | omega) (by first | assumption | omega)) k_X11_56 isO_0 rfl (Nat.le_of_ble_eq_true rfl) (by decide) (by decide) ⟨by decide, by decide⟩ dX11_givens_2 (fun _ _ h => h.elim)

