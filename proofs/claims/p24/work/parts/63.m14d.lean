set_option maxHeartbeats 600000 in
theorem c_X11_completion (l : Launch) (g : Gl) (x : Me) (sq : Int) (w : Int) (r : Int) (c : Int)  (hS : HS x) (r_sq : -2147483648 ≤ sq ∧ sq < 2147483648) (r_w : -2147483648 ≤ w ∧ w < 2147483648) (r_r : -2147483648 ≤ r ∧ r < 2147483648) (r_c : -2147483648 ≤ c ∧ c < 2147483648) (hok : (0 ≤ sq ∧ sq < x 0 5 ∧ (0 ≤ r ∧ r < x (10 + sq.toNat) 1) ∧ 0 ≤ c ∧ c < x (10 + sq.toNat) 1) ∧ (0 ≤ w) ∧ (x (10 + sq.toNat) 1 ≤ 4 ∧ cnt (x (10 + sq.toNat) 1) (nc x sq.toNat) 0 ≤ 9)) : ctQ l g yX11_completion cX11_completion 6 (some .int) 63 1268 [.ref (gA g 0), .int (zi sq), .int (zi w), .int (zi r), .int (zi c)] x (QIu g (fun z x' => z = cgt (x (10 + sq.toNat) 1) (nc x sq.toNat) w (x (10 + sq.toNat) 1 * r + c) ∧ ∀ a, a < 30 ∨ 36 < a → x' a = x a)) := by
  refine ct_start (own := RX11) (lv := [(0, .ref (gA g 0)), (1, .int (zi sq)), (2, .int (zi w)), (3, .int (zi r)), (4, .int (zi c))]) (plainFor_of_name (by decide)) rfl (Nat.le_of_ble_eq_true rfl) rfl ?_
  intro Γ hΓ hO hr hQ _
  have hS1 := hS.1
  refine z_aload_n (pc := 0) hO 0 dX11_completion_0 rfl rfl ?_
  refine z_iload_n (pc := 1) hO 1 dX11_completion_1 rfl rfl ?_
  refine z_callVRq (pc := 2) hO (As := [.int (zi sq)]) (st := []) (c_X11_figureOf (qL Γ) g x sq (by first | assumption | omega) (by first | assumption | omega) (by first | assumption | omega)) k_X11_56 isO_0 rfl (Nat.le_of_ble_eq_true rfl) (by decide) (by decide) ⟨by decide, by decide⟩ dX11_completion_2 (fun z1 h3 => ?_)
  obtain ⟨q, hzq, heq, hFq⟩ := h3
  subst hzq
  have htq : sq.toNat = q := by omega
  (try rw [htq] at hok)
  (try rw [htq] at hno)
  have h9q := hFq.1
  have hsq := hFq.2.1
  have hqqq := sq9 hsq
  refine z_astore (pc := 5) hO (lv' := [(5, .ref (gA g (10 + q))), (0, .ref (gA g 0)), (1, .int (zi sq)), (2, .int (zi w)), (3, .int (zi r)), (4, .int (zi c))]) dX11_completion_5 (by decide) rfl ?_
  refine z_aload (pc := 7) hO 0 dX11_completion_7 rfl ?_
  refine z_iload_n (pc := 9) hO 4 dX11_completion_9 rfl rfl ?_
  refine z_iload (pc := 10) hO 5 dX11_completion_10 rfl ?_
  refine z_callSVq (pc := 12) hO (As := [.ref (gA g (10 + q)), .int (zi r), .int (zi c)]) (st := []) (c_X11_requirePoint (qL Γ) g x q r c (by exact hFq) (by first | assumption | omega) (by first | assumption | omega) (by first | assumption | omega)) k_X11_60 rfl (Nat.le_of_ble_eq_true rfl) (by decide) (by decide) ⟨by decide, by decide⟩ dX11_completion_12 (fun h6 => ?_)
  refine z_iload_n (pc := 15) hO 3 dX11_completion_15 rfl rfl ?_
  refine z_if_ge (pc := 16) hO (tgt := 29) dX11_completion_16 (by decide) (by omega) (fun b7 => ?_) (fun b7 => ?_)
  · have hpl := pl9 (r := r) (c := c) hsq (by omega) (by omega)
    refine z_aload (pc := 29) hO 0 dX11_completion_29 rfl ?_
    refine z_callSB (pc := 31) hO (As := [.ref (gA g (10 + q))]) (st := []) (c_X11_canBeCompleted (qL Γ) g x q (by first | assumption | omega)) k_X11_138 rfl (Nat.le_of_ble_eq_true rfl) (by decide) (by decide) ⟨by decide, by decide⟩ dX11_completion_31 (fun pb8 => ?_) (fun pb8 => ?_)
    · skip
      refine z_callSVq (pc := 34) hO (As := [.int (zi 1)]) (st := []) (c_X11_requireState (qL Γ) g x 1 (by first | assumption | omega) (by first | assumption | omega)) k_X11_80 rfl (Nat.le_of_ble_eq_true rfl) (by decide) (by decide) ⟨by decide, by decide⟩ dX11_completion_34 (fun h11 => ?_)
      refine z_aload_n (pc := 37) hO 1 dX11_completion_37 rfl rfl ?_
      refine gf_X11_search (pc := 38) hO f_X11_23 dX11_completion_38 ?_
      refine z_aload (pc := 41) hO 0 dX11_completion_41 rfl ?_
      refine z_callVV (pc := 43) hO (As := [.ref (gA g (10 + q))]) (st := []) (c_X8_load (qL Γ) g x q (by first | assumption | omega) (by first | assumption | omega)) k_X11_142 isO_30 rfl (Nat.le_of_ble_eq_true rfl) (by decide) (by decide) ⟨by decide, by decide⟩ dX11_completion_43 (fun m13 h14 => ?_)
      obtain ⟨hLD, hfr⟩ := h14
      have hx1 : m13 (10 + q) = x (10 + q) := hfr _ (by omega)
      refine z_aload_n (pc := 46) hO 1 dX11_completion_46 rfl rfl ?_
      refine gf_X11_search (pc := 47) hO f_X11_23 dX11_completion_47 ?_
      refine z_iload_n (pc := 50) hO 3 dX11_completion_50 rfl rfl ?_
      refine z_aload (pc := 51) hO 0 dX11_completion_51 rfl ?_
      refine z_iload_n (pc := 53) hO 4 dX11_completion_53 rfl rfl ?_
      refine z_iload (pc := 54) hO 5 dX11_completion_54 rfl ?_
      refine z_callVIp (pc := 56) hO (As := [.int (zi r), .int (zi c)]) (st := [.int (zi w), .ref (gA g 30)]) (c_X1_placeOf (qL Γ) g m13 q r c (by first | assumption | omega)) k_X11_64 (isO_fig (by omega : q < 9)) rfl (Nat.le_of_ble_eq_true rfl) (by decide) (by decide) ⟨by decide, by decide⟩ dX11_completion_56 ?_
      refine z_callVI (pc := 59) hO (As := [.int (zi w), .int (zi (m13 (10 + q) 1 * r + c))]) (st := []) (c_X8_numberIn (qL Γ) g m13 w (m13 (10 + q) 1 * r + c) (x (10 + q) 1) (nc x q) (by exact hLD) (by exact emp_9 (by omega)) (by rw [hx1]; omega) (by first | assumption | omega)) k_X11_156 isO_30 rfl (Nat.le_of_ble_eq_true rfl) (by decide) (by decide) ⟨by decide, by decide⟩ dX11_completion_59 (fun z15 m16 h17 => ?_)
      have hz := h17
      exact z_iret (pc := 62) hO hr hQ rfl dX11_completion_62 (by first | (rw [htq]; refine ⟨?_, fun a ha => (hz.2 a ha).trans (hfr a ha)⟩; rw [hz.1, hx1]; done) | (exfalso; omega))
    · skip
      exact absurd hok.2.2 pb8
  · exfalso; omega





