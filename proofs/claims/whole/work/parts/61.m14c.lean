set_option maxHeartbeats 4000000 in
theorem c_X11_kin (l : Launch) (g : Gl) (x : Me) (sq : Int)  (hS : HS x) (r_sq : -2147483648 ≤ sq ∧ sq < 2147483648) (hok : (0 ≤ sq ∧ sq < x 0 5)) : ctQ l g yX11_kin cX11_kin 2 (some .int) 6 135 [.ref (gA g 0), .int (zi sq)] x (QIu g (fun z x' => z = (sm (fun m => bi (isF (x (10 + sq.toNat) 1) (nc x sq.toNat) m (nc x sq.toNat))) 8) ∧ x' = x)) := by
  refine ct_start (own := RX11) (lv := [(0, .ref (gA g 0)), (1, .int (zi sq))]) (plainFor_of_name (by decide)) rfl (Nat.le_of_ble_eq_true rfl) rfl ?_
  intro Γ hΓ hO hr hQ _
  have hS1 := hS.1
  refine z_aload_n (pc := 0) hO 0 dX11_kin_0 rfl rfl ?_
  refine z_iload_n (pc := 1) hO 1 dX11_kin_1 rfl rfl ?_
  refine z_callVRq (pc := 2) hO (As := [.int (zi sq)]) (st := []) (c_X11_figureOf (qL Γ) g x sq (by first | assumption | omega) (by first | assumption | omega) (by first | assumption | omega)) k_X11_56 isO_0 rfl (Nat.le_of_ble_eq_true rfl) (by decide) (by decide) ⟨by decide, by decide⟩ dX11_kin_2 (fun z1 h3 => ?_)
  obtain ⟨q, hzq, heq, hFq⟩ := h3
  subst hzq
  have htq : sq.toNat = q := by omega
  (try rw [htq] at hok)
  (try rw [htq] at hno)
  have h9q := hFq.1
  have hsq := hFq.2.1
  have hqqq := sq9 hsq
  refine z_callSIp (pc := 5) hO (As := [.ref (gA g (10 + q))]) (st := []) (c_X2_countLike (qL Γ) g x q (by first | assumption | omega)) k_X11_131 rfl (Nat.le_of_ble_eq_true rfl) (by decide) (by decide) ⟨by decide, by decide⟩ dX11_kin_5 ?_
  exact z_iret (pc := 8) hO hr hQ rfl dX11_kin_8 ⟨by first | (rw [htq]; done) | (exfalso; omega), rfl⟩

set_option maxHeartbeats 4000000 in
theorem x_X11_kin (l : Launch) (hl : l.stackTraces = false) (g : Gl) (x : Me) (sq : Int)  (hS : HS x) (r_sq : -2147483648 ≤ sq ∧ sq < 2147483648) (hno : ¬ ((0 ≤ sq ∧ sq < x 0 5))) : cxQ l g yX11_kin cX11_kin 2 (some .int) 7 135 1 6 [.ref (gA g 0), .int (zi sq)] x (QIu g (fun z x' => False)) (fun E => E = exc (0 ≤ sq ∧ sq < x 0 5) (True)) := by
  refine cx_start (own := RX11) (lv := [(0, .ref (gA g 0)), (1, .int (zi sq))]) (by decide) rfl (Nat.le_of_ble_eq_true rfl) rfl ?_
  intro Γ hΓ hO hr hQ hh
  have hl : (qL Γ).stackTraces = false := by rw [hΓ]; exact hl
  have hS1 := hS.1
  refine z_aload_n (pc := 0) hO 0 dX11_kin_0 rfl rfl ?_
  refine z_iload_n (pc := 1) hO 1 dX11_kin_1 rfl rfl ?_
  rcases Classical.em (0 ≤ sq ∧ sq < x 0 5) with hc1 | hc1
  · skip
    refine z_callVRq (pc := 2) hO (As := [.int (zi sq)]) (st := []) (c_X11_figureOf (qL Γ) g x sq (by first | assumption | omega) (by first | assumption | omega) (by first | assumption | omega)) k_X11_56 isO_0 rfl (Nat.le_of_ble_eq_true rfl) (by decide) (by decide) ⟨by decide, by decide⟩ dX11_kin_2 (fun z2 h4 => ?_)
    obtain ⟨q, hzq, heq, hFq⟩ := h4
    subst hzq
    have htq : sq.toNat = q := by omega
    (try rw [htq] at hok)
    (try rw [htq] at hno)
    have h9q := hFq.1
    have hsq := hFq.2.1
    have hqqq := sq9 hsq
    exfalso; omega
  · exact z_xcallVR (pc := 2) hO (As := [.int (zi sq)]) (st := []) hQ hh (by intro E hE; rw [hE]; exact exc_io (by omega)) (x_X11_figureOf (qL Γ) hl g x sq (by first | assumption | omega) (by first | assumption | omega) (by first | assumption | omega)) k_X11_56 isO_0 rfl (Nat.le_of_ble_eq_true rfl) (by decide) (by decide) ⟨by decide, by decide⟩ dX11_kin_2 (fun _ _ h => h.elim)

set_option maxHeartbeats 4000000 in
theorem c_X11_same (l : Launch) (g : Gl) (x : Me) (sq : Int) (ot : Int)  (hS : HS x) (r_sq : -2147483648 ≤ sq ∧ sq < 2147483648) (r_ot : -2147483648 ≤ ot ∧ ot < 2147483648) (hok : ((0 ≤ sq ∧ sq < x 0 5) ∧ 0 ≤ ot ∧ ot < x 0 5)) : ctQ l g yX11_same cX11_same 4 (some .boolean) 6 135 [.ref (gA g 0), .int (zi sq), .int (zi ot)] x (QIu g (fun z x' => ((z = 1 ∧ (∃ form, 0 ≤ form ∧ form < 8 ∧ x (10 + sq.toNat) 1 = x (10 + ot.toNat) 1 ∧ isF (x (10 + sq.toNat) 1) (nc x sq.toNat) form (nc x ot.toNat))) ∨ (z = 0 ∧ ¬ (∃ form, 0 ≤ form ∧ form < 8 ∧ x (10 + sq.toNat) 1 = x (10 + ot.toNat) 1 ∧ isF (x (10 + sq.toNat) 1) (nc x sq.toNat) form (nc x ot.toNat)))) ∧ x' = x)) := by
  refine ct_start (own := RX11) (lv := [(0, .ref (gA g 0)), (1, .int (zi sq)), (2, .int (zi ot))]) (plainFor_of_name (by decide)) rfl (Nat.le_of_ble_eq_true rfl) rfl ?_
  intro Γ hΓ hO hr hQ _
  have hS1 := hS.1
  refine z_aload_n (pc := 0) hO 0 dX11_same_0 rfl rfl ?_
  refine z_iload_n (pc := 1) hO 1 dX11_same_1 rfl rfl ?_
  refine z_callVRq (pc := 2) hO (As := [.int (zi sq)]) (st := []) (c_X11_figureOf (qL Γ) g x sq (by first | assumption | omega) (by first | assumption | omega) (by first | assumption | omega)) k_X11_56 isO_0 rfl (Nat.le_of_ble_eq_true rfl) (by decide) (by decide) ⟨by decide, by decide⟩ dX11_same_2 (fun z1 h3 => ?_)
  obtain ⟨q, hzq, heq, hFq⟩ := h3
  subst hzq
  have htq : sq.toNat = q := by omega
  (try rw [htq] at hok)
  (try rw [htq] at hno)
  have h9q := hFq.1
  have hsq := hFq.2.1
  have hqqq := sq9 hsq
  refine z_astore_n (pc := 5) hO (lv' := [(3, .ref (gA g (10 + q))), (0, .ref (gA g 0)), (1, .int (zi sq)), (2, .int (zi ot))]) dX11_same_5 rfl (by decide) rfl ?_
  refine z_aload_n (pc := 6) hO 0 dX11_same_6 rfl rfl ?_
  refine z_aload_n (pc := 7) hO 1 dX11_same_7 rfl rfl ?_
  refine z_iload_n (pc := 8) hO 3 dX11_same_8 rfl rfl ?_
  refine z_callVRq (pc := 9) hO (As := [.int (zi ot)]) (st := [.ref (gA g (10 + q))]) (c_X11_figureOf (qL Γ) g x ot (by first | assumption | omega) (by first | assumption | omega) (by first | assumption | omega)) k_X11_56 isO_0 rfl (Nat.le_of_ble_eq_true rfl) (by decide) (by decide) ⟨by decide, by decide⟩ dX11_same_9 (fun z4 h6 => ?_)
  obtain ⟨r, hzr, her, hFr⟩ := h6
  subst hzr
  have htr : ot.toNat = r := by omega
  (try rw [htr] at hok)
  (try rw [htr] at hno)
  have h9r := hFr.1
  have hsr := hFr.2.1
  have hqqr := sq9 hsr
  refine z_callSB (pc := 12) hO (As := [.ref (gA g (10 + q)), .ref (gA g (10 + r))]) (st := []) (c_X2_areKin (qL Γ) g x q r (by first | assumption | omega) (by first | assumption | omega)) k_X11_118 rfl (Nat.le_of_ble_eq_true rfl) (by decide) (by decide) ⟨by decide, by decide⟩ dX11_same_12 (fun pb7 => ?_) (fun pb7 => ?_)
  · skip
    exact z_iret (pc := 15) hO hr hQ rfl dX11_same_15 ⟨Or.inl ⟨rfl, by first | (rw [htq, htr]; assumption; done) | (exfalso; omega)⟩, rfl⟩
  · skip
    exact z_iret (pc := 15) hO hr hQ rfl dX11_same_15 ⟨Or.inr ⟨rfl, by first | (rw [htq, htr]; assumption; done) | (exfalso; omega)⟩, rfl⟩

set_option maxHeartbeats 4000000 in
theorem x_X11_same (l : Launch) (hl : l.stackTraces = false) (g : Gl) (x : Me) (sq : Int) (ot : Int)  (hS : HS x) (r_sq : -2147483648 ≤ sq ∧ sq < 2147483648) (r_ot : -2147483648 ≤ ot ∧ ot < 2147483648) (hno : ¬ (((0 ≤ sq ∧ sq < x 0 5) ∧ 0 ≤ ot ∧ ot < x 0 5))) : cxQ l g yX11_same cX11_same 4 (some .boolean) 7 135 1 6 [.ref (gA g 0), .int (zi sq), .int (zi ot)] x (QIu g (fun z x' => False)) (fun E => E = exc ((0 ≤ sq ∧ sq < x 0 5) ∧ 0 ≤ ot ∧ ot < x 0 5) (True)) := by
  refine cx_start (own := RX11) (lv := [(0, .ref (gA g 0)), (1, .int (zi sq)), (2, .int (zi ot))]) (by decide) rfl (Nat.le_of_ble_eq_true rfl) rfl ?_
  intro Γ hΓ hO hr hQ hh
  have hl : (qL Γ).stackTraces = false := by rw [hΓ]; exact hl
  have hS1 := hS.1
  refine z_aload_n (pc := 0) hO 0 dX11_same_0 rfl rfl ?_
  refine z_iload_n (pc := 1) hO 1 dX11_same_1 rfl rfl ?_
  rcases Classical.em (0 ≤ sq ∧ sq < x 0 5) with hc1 | hc1
  · skip
    refine z_callVRq (pc := 2) hO (As := [.int (zi sq)]) (st := []) (c_X11_figureOf (qL Γ) g x sq (by first | assumption | omega) (by first | assumption | omega) (by first | assumption | omega)) k_X11_56 isO_0 rfl (Nat.le_of_ble_eq_true rfl) (by decide) (by decide) ⟨by decide, by decide⟩ dX11_same_2 (fun z2 h4 => ?_)
    obtain ⟨q, hzq, heq, hFq⟩ := h4
    subst hzq
    have htq : sq.toNat = q := by omega
    (try rw [htq] at hok)
    (try rw [htq] at hno)
    have h9q := hFq.1
    have hsq := hFq.2.1
    have hqqq := sq9 hsq
    refine z_astore_n (pc := 5) hO (lv' := [(3, .ref (gA g (10 + q))), (0, .ref (gA g 0)), (1, .int (zi sq)), (2, .int (zi ot))]) dX11_same_5 rfl (by decide) rfl ?_
    refine z_aload_n (pc := 6) hO 0 dX11_same_6 rfl rfl ?_
    refine z_aload_n (pc := 7) hO 1 dX11_same_7 rfl rfl ?_
    refine z_iload_n (pc := 8) hO 3 dX11_same_8 rfl rfl ?_
    rcases Classical.em (0 ≤ ot ∧ ot < x 0 5) with hc5 | hc5
    · skip
      refine z_callVRq (pc := 9) hO (As := [.int (zi ot)]) (st := [.ref (gA g (10 + q))]) (c_X11_figureOf (qL Γ) g x ot (by first | assumption | omega) (by first | assumption | omega) (by first | assumption | omega)) k_X11_56 isO_0 rfl (Nat.le_of_ble_eq_true rfl) (by decide) (by decide) ⟨by decide, by decide⟩ dX11_same_9 (fun z6 h8 => ?_)
      obtain ⟨r, hzr, her, hFr⟩ := h8
      subst hzr
      have htr : ot.toNat = r := by omega
      (try rw [htr] at hok)
      (try rw [htr] at hno)
      have h9r := hFr.1
      have hsr := hFr.2.1
      have hqqr := sq9 hsr
      exfalso; omega
    · exact z_xcallVR (pc := 9) hO (As := [.int (zi ot)]) (st := [.ref (gA g (10 + q))]) hQ hh (by intro E hE; rw [hE]; exact exc_io (by omega)) (x_X11_figureOf (qL Γ) hl g x ot (by first | assumption | omega) (by first | assumption | omega) (by first | assumption | omega)) k_X11_56 isO_0 rfl (Nat.le_of_ble_eq_true rfl) (by decide) (by decide) ⟨by decide, by decide⟩ dX11_same_9 (fun _ _ h => h.elim)
  · exact z_xcallVR (pc := 2) hO (As := [.int (zi sq)]) (st := []) hQ hh (by intro E hE; rw [hE]; exact exc_io (by omega)) (x_X11_figureOf (qL Γ) hl g x sq (by first | assumption | omega) (by first | assumption | omega) (by first | assumption | omega)) k_X11_56 isO_0 rfl (Nat.le_of_ble_eq_true rfl) (by decide) (by decide) ⟨by decide, by decide⟩ dX11_same_2 (fun _ _ h => h.elim)

set_option maxHeartbeats 4000000 in
theorem c_X11_least (l : Launch) (g : Gl) (x : Me) (sq : Int) (r : Int) (c : Int)  (hS : HS x) (r_sq : -2147483648 ≤ sq ∧ sq < 2147483648) (r_r : -2147483648 ≤ r ∧ r < 2147483648) (r_c : -2147483648 ≤ c ∧ c < 2147483648) (hok : (0 ≤ sq ∧ sq < x 0 5 ∧ (0 ≤ r ∧ r < x (10 + sq.toNat) 1) ∧ 0 ≤ c ∧ c < x (10 + sq.toNat) 1)) : ctQ l g yX11_least cX11_least 5 (some .int) 6 137 [.ref (gA g 0), .int (zi sq), .int (zi r), .int (zi c)] x (QIu g (fun z x' => z = (nc x sq.toNat (fmp (x (10 + sq.toNat) 1) (lst (x (10 + sq.toNat) 1) (nc x sq.toNat) 7) (x (10 + sq.toNat) 1 * r + c))) ∧ x' = x)) := by
  refine ct_start (own := RX11) (lv := [(0, .ref (gA g 0)), (1, .int (zi sq)), (2, .int (zi r)), (3, .int (zi c))]) (plainFor_of_name (by decide)) rfl (Nat.le_of_ble_eq_true rfl) rfl ?_
  intro Γ hΓ hO hr hQ _
  have hS1 := hS.1
  refine z_aload_n (pc := 0) hO 0 dX11_least_0 rfl rfl ?_
  refine z_iload_n (pc := 1) hO 1 dX11_least_1 rfl rfl ?_
  refine z_callVRq (pc := 2) hO (As := [.int (zi sq)]) (st := []) (c_X11_figureOf (qL Γ) g x sq (by first | assumption | omega) (by first | assumption | omega) (by first | assumption | omega)) k_X11_56 isO_0 rfl (Nat.le_of_ble_eq_true rfl) (by decide) (by decide) ⟨by decide, by decide⟩ dX11_least_2 (fun z1 h3 => ?_)
  obtain ⟨q, hzq, heq, hFq⟩ := h3
  subst hzq
  have htq : sq.toNat = q := by omega
  (try rw [htq] at hok)
  (try rw [htq] at hno)
  have h9q := hFq.1
  have hsq := hFq.2.1
  have hqqq := sq9 hsq
  refine z_astore (pc := 5) hO (lv' := [(4, .ref (gA g (10 + q))), (0, .ref (gA g 0)), (1, .int (zi sq)), (2, .int (zi r)), (3, .int (zi c))]) dX11_least_5 (by decide) rfl ?_
  refine z_aload (pc := 7) hO 0 dX11_least_7 rfl ?_
  refine z_iload_n (pc := 9) hO 3 dX11_least_9 rfl rfl ?_
  refine z_iload_n (pc := 10) hO 4 dX11_least_10 rfl rfl ?_
  refine z_callSVq (pc := 11) hO (As := [.ref (gA g (10 + q)), .int (zi r), .int (zi c)]) (st := []) (c_X11_requirePoint (qL Γ) g x q r c (by exact hFq) (by first | assumption | omega) (by first | assumption | omega) (by first | assumption | omega)) k_X11_60 rfl (Nat.le_of_ble_eq_true rfl) (by decide) (by decide) ⟨by decide, by decide⟩ dX11_least_11 (fun h6 => ?_)
  have hpl := pl9 (r := r) (c := c) hsq (by omega) (by omega)
  refine z_aload (pc := 14) hO 0 dX11_least_14 rfl ?_
  refine z_aload (pc := 16) hO 0 dX11_least_16 rfl ?_
  refine z_callSIq (pc := 18) hO (As := [.ref (gA g (10 + q))]) (st := [.ref (gA g (10 + q))]) (c_X2_leastOf (qL Γ) g x q (by first | assumption | omega)) k_X11_124 rfl (Nat.le_of_ble_eq_true rfl) (by decide) (by decide) ⟨by decide, by decide⟩ dX11_least_18 (fun z7 h9 => ?_)
  have hz := h9
  refine z_aload (pc := 21) hO 0 dX11_least_21 rfl ?_
  refine z_iload_n (pc := 23) hO 3 dX11_least_23 rfl rfl ?_
  refine z_iload_n (pc := 24) hO 4 dX11_least_24 rfl rfl ?_
  refine z_callVIp (pc := 25) hO (As := [.int (zi r), .int (zi c)]) (st := [.int (zi z7), .ref (gA g (10 + q))]) (c_X1_placeOf (qL Γ) g x q r c (by first | assumption | omega)) k_X11_64 (isO_fig (by omega : q < 9)) rfl (Nat.le_of_ble_eq_true rfl) (by decide) (by decide) ⟨by decide, by decide⟩ dX11_least_25 ?_
  refine z_callSIp (pc := 28) hO (As := [.ref (gA g (10 + q)), .int (zi z7), .int (zi (x (10 + q) 1 * r + c))]) (st := []) (c_X2_numberIn (qL Γ) g x q z7 (x (10 + q) 1 * r + c) (by first | assumption | omega) (by first | assumption | omega) (by first | assumption | omega)) k_X11_127 rfl (Nat.le_of_ble_eq_true rfl) (by decide) (by decide) ⟨by decide, by decide⟩ dX11_least_28 ?_
  exact z_iret (pc := 31) hO hr hQ rfl dX11_least_31 ⟨by first | (rw [htq, hz.1]; done) | (exfalso; omega), rfl⟩

set_option maxHeartbeats 4000000 in
theorem x_X11_least (l : Launch) (hl : l.stackTraces = false) (g : Gl) (x : Me) (sq : Int) (r : Int) (c : Int)  (hS : HS x) (r_sq : -2147483648 ≤ sq ∧ sq < 2147483648) (r_r : -2147483648 ≤ r ∧ r < 2147483648) (r_c : -2147483648 ≤ c ∧ c < 2147483648) (hno : ¬ ((0 ≤ sq ∧ sq < x 0 5 ∧ (0 ≤ r ∧ r < x (10 + sq.toNat) 1) ∧ 0 ≤ c ∧ c < x (10 + sq.toNat) 1))) : cxQ l g yX11_least cX11_least 5 (some .int) 7 137 1 6 [.ref (gA g 0), .int (zi sq), .int (zi r), .int (zi c)] x (QIu g (fun z x' => False)) (fun E => E = exc (0 ≤ sq ∧ sq < x 0 5 ∧ (0 ≤ r ∧ r < x (10 + sq.toNat) 1) ∧ 0 ≤ c ∧ c < x (10 + sq.toNat) 1) (True)) := by
  refine cx_start (own := RX11) (lv := [(0, .ref (gA g 0)), (1, .int (zi sq)), (2, .int (zi r)), (3, .int (zi c))]) (by decide) rfl (Nat.le_of_ble_eq_true rfl) rfl ?_
  intro Γ hΓ hO hr hQ hh
  have hl : (qL Γ).stackTraces = false := by rw [hΓ]; exact hl
  have hS1 := hS.1
  refine z_aload_n (pc := 0) hO 0 dX11_least_0 rfl rfl ?_
  refine z_iload_n (pc := 1) hO 1 dX11_least_1 rfl rfl ?_
  rcases Classical.em (0 ≤ sq ∧ sq < x 0 5) with hc1 | hc1
  · skip
    refine z_callVRq (pc := 2) hO (As := [.int (zi sq)]) (st := []) (c_X11_figureOf (qL Γ) g x sq (by first | assumption | omega) (by first | assumption | omega) (by first | assumption | omega)) k_X11_56 isO_0 rfl (Nat.le_of_ble_eq_true rfl) (by decide) (by decide) ⟨by decide, by decide⟩ dX11_least_2 (fun z2 h4 => ?_)
    obtain ⟨q, hzq, heq, hFq⟩ := h4
    subst hzq
    have htq : sq.toNat = q := by omega
    (try rw [htq] at hok)
    (try rw [htq] at hno)
    have h9q := hFq.1
    have hsq := hFq.2.1
    have hqqq := sq9 hsq
    refine z_astore (pc := 5) hO (lv' := [(4, .ref (gA g (10 + q))), (0, .ref (gA g 0)), (1, .int (zi sq)), (2, .int (zi r)), (3, .int (zi c))]) dX11_least_5 (by decide) rfl ?_
    refine z_aload (pc := 7) hO 0 dX11_least_7 rfl ?_
    refine z_iload_n (pc := 9) hO 3 dX11_least_9 rfl rfl ?_
    refine z_iload_n (pc := 10) hO 4 dX11_least_10 rfl rfl ?_
    rcases Classical.em ((0 ≤ r ∧ r < x (10 + q) 1) ∧ 0 ≤ c ∧ c < x (10 + q) 1) with hc5 | hc5
    · skip
      refine z_callSVq (pc := 11) hO (As := [.ref (gA g (10 + q)), .int (zi r), .int (zi c)]) (st := []) (c_X11_requirePoint (qL Γ) g x q r c (by exact hFq) (by first | assumption | omega) (by first | assumption | omega) (by first | assumption | omega)) k_X11_60 rfl (Nat.le_of_ble_eq_true rfl) (by decide) (by decide) ⟨by decide, by decide⟩ dX11_least_11 (fun h8 => ?_)
      exfalso; omega
    · exact z_xcallSV (pc := 11) hO (As := [.ref (gA g (10 + q)), .int (zi r), .int (zi c)]) (st := []) hQ hh (by intro E hE; rw [hE]; exact exc_io (by rw [htq]; omega)) (x_X11_requirePoint (qL Γ) hl g x q r c (by exact hFq) (by first | assumption | omega) (by first | assumption | omega) (by first | assumption | omega)) k_X11_60 rfl (Nat.le_of_ble_eq_true rfl) (by decide) (by decide) ⟨by decide, by decide⟩ dX11_least_11 (fun _ h => h.elim)
  · exact z_xcallVR (pc := 2) hO (As := [.int (zi sq)]) (st := []) hQ hh (by intro E hE; rw [hE]; exact exc_io (by omega)) (x_X11_figureOf (qL Γ) hl g x sq (by first | assumption | omega) (by first | assumption | omega) (by first | assumption | omega)) k_X11_56 isO_0 rfl (Nat.le_of_ble_eq_true rfl) (by decide) (by decide) ⟨by decide, by decide⟩ dX11_least_2 (fun _ _ h => h.elim)

set_option maxHeartbeats 4000000 in
theorem c_X11_change (l : Launch) (g : Gl) (x : Me) (sq : Int) (ch : Int) (b : Int)  (hS : HS x) (r_sq : -2147483648 ≤ sq ∧ sq < 2147483648) (r_ch : -2147483648 ≤ ch ∧ ch < 2147483648) (r_b : -2147483648 ≤ b ∧ b < 2147483648) (hok : (0 ≤ sq ∧ sq < x 0 5) ∧ ((0 ≤ ch ∧ ch ≤ 5) ∧ 0 ≤ b ∧ b ≤ mby ch (x (10 + sq.toNat) 1)) ∧ (ch = 2 → ∀ p, 0 ≤ p → p < x (10 + sq.toNat) 1 * x (10 + sq.toNat) 1 → nc x sq.toNat p = 0 ∨ (1 ≤ b - nc x sq.toNat p ∧ b - nc x sq.toNat p ≤ 999))) : ctQ l g yX11_change cX11_change 5 (some .int) 6 135 [.ref (gA g 0), .int (zi sq), .int (zi ch), .int (zi b)] x (QIu g (fun z x' => z = chg (x (10 + sq.toNat) 1) (nc x sq.toNat) (cha (x (10 + sq.toNat) 1) (nc x sq.toNat) ch b) ∧ nc x' sq.toNat = cha (x (10 + sq.toNat) 1) (nc x sq.toNat) ch b ∧ ∀ a, a ≠ 20 + sq.toNat → a ≠ 10 + 8 → a ≠ 20 + 8 → x' a = x a)) := by
  refine ct_start (own := RX11) (lv := [(0, .ref (gA g 0)), (1, .int (zi sq)), (2, .int (zi ch)), (3, .int (zi b))]) (plainFor_of_name (by decide)) rfl (Nat.le_of_ble_eq_true rfl) rfl ?_
  intro Γ hΓ hO hr hQ _
  have hS1 := hS.1
  refine z_aload_n (pc := 0) hO 0 dX11_change_0 rfl rfl ?_
  refine z_iload_n (pc := 1) hO 1 dX11_change_1 rfl rfl ?_
  refine z_callVRq (pc := 2) hO (As := [.int (zi sq)]) (st := []) (c_X11_figureOf (qL Γ) g x sq (by first | assumption | omega) (by first | assumption | omega) (by first | assumption | omega)) k_X11_56 isO_0 rfl (Nat.le_of_ble_eq_true rfl) (by decide) (by decide) ⟨by decide, by decide⟩ dX11_change_2 (fun z1 h3 => ?_)
  obtain ⟨q, hzq, heq, hFq⟩ := h3
  subst hzq
  have htq : sq.toNat = q := by omega
  (try rw [htq] at hok)
  (try rw [htq] at hno)
  have h9q := hFq.1
  have hsq := hFq.2.1
  have hqqq := sq9 hsq
  refine z_astore (pc := 5) hO (lv' := [(4, .ref (gA g (10 + q))), (0, .ref (gA g 0)), (1, .int (zi sq)), (2, .int (zi ch)), (3, .int (zi b))]) dX11_change_5 (by decide) rfl ?_
  refine z_iload_n (pc := 7) hO 3 dX11_change_7 rfl rfl ?_
  refine z_iconst (pc := 8) hO dX11_change_8 ?_
  refine z_iconst (pc := 9) hO dX11_change_9 ?_
  refine z_callSVq (pc := 10) hO (As := [.int (zi ch), .int (zi 0), .int (zi 5)]) (st := []) (c_X11_requireRange (qL Γ) g x ch 0 5 (by first | assumption | omega) (by first | assumption | omega) (by first | assumption | omega) (by first | assumption | omega)) k_X11_45 rfl (Nat.le_of_ble_eq_true rfl) (by decide) (by decide) ⟨by decide, by decide⟩ dX11_change_10 (fun h6 => ?_)
  refine z_iload_n (pc := 13) hO 4 dX11_change_13 rfl rfl ?_
  refine z_iconst (pc := 14) hO dX11_change_14 ?_
  refine z_iload_n (pc := 15) hO 3 dX11_change_15 rfl rfl ?_
  refine z_aload (pc := 16) hO 0 dX11_change_16 rfl ?_
  have hmb := mby_r (ch := ch) (n := x (10 + q) 1) hsq
  refine z_callVIp (pc := 18) hO (As := []) (st := [.int (zi ch), .int (zi 0), .int (zi b)]) (c_X1_side (qL Γ) g x q (by first | assumption | omega)) k_X11_94 (isO_fig (by omega : q < 9)) rfl (Nat.le_of_ble_eq_true rfl) (by decide) (by decide) ⟨by decide, by decide⟩ dX11_change_18 ?_
  refine z_callSIp (pc := 21) hO (As := [.int (zi ch), .int (zi (x (10 + q) 1))]) (st := [.int (zi 0), .int (zi b)]) (c_X0_mostBy (qL Γ) g x ch (x (10 + q) 1) (by first | assumption | omega) (by first | assumption | omega)) k_X11_101 rfl (Nat.le_of_ble_eq_true rfl) (by decide) (by decide) ⟨by decide, by decide⟩ dX11_change_21 ?_
  refine z_callSVq (pc := 24) hO (As := [.int (zi b), .int (zi 0), .int (zi (if ch = 0 then 3 else if ch = 1 then 1 else if ch = 2 then 1998 else (x (10 + q) 1) - 1))]) (st := []) (c_X11_requireRange (qL Γ) g x b 0 (if ch = 0 then 3 else if ch = 1 then 1 else if ch = 2 then 1998 else (x (10 + q) 1) - 1) (by first | assumption | omega) (by first | assumption | omega) (by unfold mby at hmb; omega) (by unfold mby at hok; omega)) k_X11_45 rfl (Nat.le_of_ble_eq_true rfl) (by decide) (by decide) ⟨by decide, by decide⟩ dX11_change_24 (fun h9 => ?_)
  refine z_iload_n (pc := 27) hO 3 dX11_change_27 rfl rfl ?_
  refine z_iconst (pc := 28) hO dX11_change_28 ?_
  refine z_icmp_eq (pc := 29) hO (tgt := 44) dX11_change_29 (by decide) (by omega) (by omega) (fun b10 => ?_) (fun b10 => ?_)
  · refine z_aload (pc := 44) hO 0 dX11_change_44 rfl ?_
    refine z_iload_n (pc := 46) hO 4 dX11_change_46 rfl rfl ?_
    refine z_callSB (pc := 47) hO (As := [.ref (gA g (10 + q)), .int (zi b)]) (st := []) (c_X0_canComplement (qL Γ) g x q b (by first | assumption | omega) (by omega)) k_X11_110 rfl (Nat.le_of_ble_eq_true rfl) (by decide) (by decide) ⟨by decide, by decide⟩ dX11_change_47 (fun pb11 => ?_) (fun pb11 => ?_)
    · skip
      refine z_callSVq (pc := 50) hO (As := [.int (zi 1)]) (st := []) (c_X11_requireState (qL Γ) g x 1 (by first | assumption | omega) (by first | assumption | omega)) k_X11_80 rfl (Nat.le_of_ble_eq_true rfl) (by decide) (by decide) ⟨by decide, by decide⟩ dX11_change_50 (fun h14 => ?_)
      refine z_aload (pc := 53) hO 0 dX11_change_53 rfl ?_
      refine z_iload_n (pc := 55) hO 4 dX11_change_55 rfl rfl ?_
      refine z_callSI (pc := 56) hO (As := [.ref (gA g (10 + q)), .int (zi b)]) (st := []) (c_X0_complement (qL Γ) g x q b (by first | assumption | omega) (by first | assumption | omega)) k_X11_114 rfl (Nat.le_of_ble_eq_true rfl) (by decide) (by decide) ⟨by decide, by decide⟩ dX11_change_56 (fun z15 m16 h17 => ?_)
      have h56 := h17
      exact z_iret (pc := 59) hO hr hQ rfl dX11_change_59 (by first | (rw [htq, cha_2 (by omega)]; exact ⟨h56.1, h56.2.1, fun a a1 a2 a3 => h56.2.2 a a1⟩; done) | (exfalso; omega))
    · skip
      exact absurd (hok.2.2 (by omega)) pb11
  · refine z_aload (pc := 32) hO 0 dX11_change_32 rfl ?_
    refine z_aload_n (pc := 34) hO 1 dX11_change_34 rfl rfl ?_
    refine gf_X11_spare (pc := 35) hO f_X11_16 dX11_change_35 ?_
    refine z_iload_n (pc := 38) hO 3 dX11_change_38 rfl rfl ?_
    refine z_iload_n (pc := 39) hO 4 dX11_change_39 rfl rfl ?_
    refine z_callSI (pc := 40) hO (As := [.ref (gA g (10 + q)), .ref (gA g (10 + 8)), .int (zi ch), .int (zi b)]) (st := []) (c_X0_move (qL Γ) g x q 8 ch b (by first | assumption | omega) (by omega) (by omega) (by first | assumption | omega) (by unfold mby at *; omega)) k_X11_106 rfl (Nat.le_of_ble_eq_true rfl) (by decide) (by decide) ⟨by decide, by decide⟩ dX11_change_40 (fun z18 m19 h20 => ?_)
    have h40 := h20
    exact z_iret (pc := 43) hO hr hQ rfl dX11_change_43 (by first | (rw [htq, cha_n (by omega)]; exact h40; done) | (exfalso; omega))

set_option maxHeartbeats 4000000 in
theorem x_X11_change (l : Launch) (hl : l.stackTraces = false) (g : Gl) (x : Me) (sq : Int) (ch : Int) (b : Int)  (hS : HS x) (r_sq : -2147483648 ≤ sq ∧ sq < 2147483648) (r_ch : -2147483648 ≤ ch ∧ ch < 2147483648) (r_b : -2147483648 ≤ b ∧ b < 2147483648) (hno : ¬ ((0 ≤ sq ∧ sq < x 0 5) ∧ ((0 ≤ ch ∧ ch ≤ 5) ∧ 0 ≤ b ∧ b ≤ mby ch (x (10 + sq.toNat) 1)) ∧ (ch = 2 → ∀ p, 0 ≤ p → p < x (10 + sq.toNat) 1 * x (10 + sq.toNat) 1 → nc x sq.toNat p = 0 ∨ (1 ≤ b - nc x sq.toNat p ∧ b - nc x sq.toNat p ≤ 999)))) : cxQ l g yX11_change cX11_change 5 (some .int) 7 135 1 6 [.ref (gA g 0), .int (zi sq), .int (zi ch), .int (zi b)] x (QIu g (fun z x' => False)) (fun E => E = exc (0 ≤ sq ∧ sq < x 0 5) ((0 ≤ ch ∧ ch ≤ 5) ∧ 0 ≤ b ∧ b ≤ mby ch (x (10 + sq.toNat) 1))) := by
  refine cx_start (own := RX11) (lv := [(0, .ref (gA g 0)), (1, .int (zi sq)), (2, .int (zi ch)), (3, .int (zi b))]) (by decide) rfl (Nat.le_of_ble_eq_true rfl) rfl ?_
  intro Γ hΓ hO hr hQ hh
  have hl : (qL Γ).stackTraces = false := by rw [hΓ]; exact hl
  have hS1 := hS.1
  refine z_aload_n (pc := 0) hO 0 dX11_change_0 rfl rfl ?_
  refine z_iload_n (pc := 1) hO 1 dX11_change_1 rfl rfl ?_
  rcases Classical.em (0 ≤ sq ∧ sq < x 0 5) with hc1 | hc1
  · skip
    refine z_callVRq (pc := 2) hO (As := [.int (zi sq)]) (st := []) (c_X11_figureOf (qL Γ) g x sq (by first | assumption | omega) (by first | assumption | omega) (by first | assumption | omega)) k_X11_56 isO_0 rfl (Nat.le_of_ble_eq_true rfl) (by decide) (by decide) ⟨by decide, by decide⟩ dX11_change_2 (fun z2 h4 => ?_)
    obtain ⟨q, hzq, heq, hFq⟩ := h4
    subst hzq
    have htq : sq.toNat = q := by omega
    (try rw [htq] at hok)
    (try rw [htq] at hno)
    have h9q := hFq.1
    have hsq := hFq.2.1
    have hqqq := sq9 hsq
    refine z_astore (pc := 5) hO (lv' := [(4, .ref (gA g (10 + q))), (0, .ref (gA g 0)), (1, .int (zi sq)), (2, .int (zi ch)), (3, .int (zi b))]) dX11_change_5 (by decide) rfl ?_
    refine z_iload_n (pc := 7) hO 3 dX11_change_7 rfl rfl ?_
    refine z_iconst (pc := 8) hO dX11_change_8 ?_
    refine z_iconst (pc := 9) hO dX11_change_9 ?_
    rcases Classical.em (0 ≤ ch ∧ ch ≤ 5) with hc5 | hc5
    · skip
      refine z_callSVq (pc := 10) hO (As := [.int (zi ch), .int (zi 0), .int (zi 5)]) (st := []) (c_X11_requireRange (qL Γ) g x ch 0 5 (by first | assumption | omega) (by first | assumption | omega) (by first | assumption | omega) (by first | assumption | omega)) k_X11_45 rfl (Nat.le_of_ble_eq_true rfl) (by decide) (by decide) ⟨by decide, by decide⟩ dX11_change_10 (fun h8 => ?_)
      refine z_iload_n (pc := 13) hO 4 dX11_change_13 rfl rfl ?_
      refine z_iconst (pc := 14) hO dX11_change_14 ?_
      refine z_iload_n (pc := 15) hO 3 dX11_change_15 rfl rfl ?_
      refine z_aload (pc := 16) hO 0 dX11_change_16 rfl ?_
      have hmb := mby_r (ch := ch) (n := x (10 + q) 1) hsq
      refine z_callVIp (pc := 18) hO (As := []) (st := [.int (zi ch), .int (zi 0), .int (zi b)]) (c_X1_side (qL Γ) g x q (by first | assumption | omega)) k_X11_94 (isO_fig (by omega : q < 9)) rfl (Nat.le_of_ble_eq_true rfl) (by decide) (by decide) ⟨by decide, by decide⟩ dX11_change_18 ?_
      refine z_callSIp (pc := 21) hO (As := [.int (zi ch), .int (zi (x (10 + q) 1))]) (st := [.int (zi 0), .int (zi b)]) (c_X0_mostBy (qL Γ) g x ch (x (10 + q) 1) (by first | assumption | omega) (by first | assumption | omega)) k_X11_101 rfl (Nat.le_of_ble_eq_true rfl) (by decide) (by decide) ⟨by decide, by decide⟩ dX11_change_21 ?_
      rcases Classical.em (0 ≤ b ∧ b ≤ (if ch = 0 then 3 else if ch = 1 then 1 else if ch = 2 then 1998 else (x (10 + q) 1) - 1)) with hc9 | hc9
      · skip
        have hbb : 0 ≤ b ∧ b ≤ mby ch (x (10 + q) 1) := hc9
        refine z_callSVq (pc := 24) hO (As := [.int (zi b), .int (zi 0), .int (zi (if ch = 0 then 3 else if ch = 1 then 1 else if ch = 2 then 1998 else (x (10 + q) 1) - 1))]) (st := []) (c_X11_requireRange (qL Γ) g x b 0 (if ch = 0 then 3 else if ch = 1 then 1 else if ch = 2 then 1998 else (x (10 + q) 1) - 1) (by first | assumption | omega) (by first | assumption | omega) (by unfold mby at hmb; omega) (by first | assumption | omega)) k_X11_45 rfl (Nat.le_of_ble_eq_true rfl) (by decide) (by decide) ⟨by decide, by decide⟩ dX11_change_24 (fun h12 => ?_)
        refine z_iload_n (pc := 27) hO 3 dX11_change_27 rfl rfl ?_
        refine z_iconst (pc := 28) hO dX11_change_28 ?_
        refine z_icmp_eq (pc := 29) hO (tgt := 44) dX11_change_29 (by decide) (by omega) (by omega) (fun b13 => ?_) (fun b13 => ?_)
        · refine z_aload (pc := 44) hO 0 dX11_change_44 rfl ?_
          refine z_iload_n (pc := 46) hO 4 dX11_change_46 rfl rfl ?_
          refine z_callSB (pc := 47) hO (As := [.ref (gA g (10 + q)), .int (zi b)]) (st := []) (c_X0_canComplement (qL Γ) g x q b (by first | assumption | omega) (by omega)) k_X11_110 rfl (Nat.le_of_ble_eq_true rfl) (by decide) (by decide) ⟨by decide, by decide⟩ dX11_change_47 (fun pb14 => ?_) (fun pb14 => ?_)
          · skip
            have hpb := pb14
            rcases Classical.em (1 = 1) with hc15 | hc15
            · skip
              refine z_callSVq (pc := 50) hO (As := [.int (zi 1)]) (st := []) (c_X11_requireState (qL Γ) g x 1 (by first | assumption | omega) (by first | assumption | omega)) k_X11_80 rfl (Nat.le_of_ble_eq_true rfl) (by decide) (by decide) ⟨by decide, by decide⟩ dX11_change_50 (fun h18 => ?_)
              first | (exfalso; omega) | exact absurd ⟨⟨by omega, by omega⟩, by omega, fun _ => hpb⟩ hno
            · exact z_xcallSV (pc := 50) hO (As := [.int (zi 1)]) (st := []) hQ hh (by intro E hE; rw [hE]; exact exc_is (by omega) (by rw [htq]; omega)) (x_X11_requireState (qL Γ) hl g x 1 (by first | assumption | omega) (by first | assumption | omega)) k_X11_80 rfl (Nat.le_of_ble_eq_true rfl) (by decide) (by decide) ⟨by decide, by decide⟩ dX11_change_50 (fun _ h => h.elim)
          · skip
            have hpb := pb14
            rcases Classical.em (0 = 1) with hc19 | hc19
            · skip
              refine z_callSVq (pc := 50) hO (As := [.int (zi 0)]) (st := []) (c_X11_requireState (qL Γ) g x 0 (by first | assumption | omega) (by first | assumption | omega)) k_X11_80 rfl (Nat.le_of_ble_eq_true rfl) (by decide) (by decide) ⟨by decide, by decide⟩ dX11_change_50 (fun h22 => ?_)
              first | (exfalso; omega) | exact absurd ⟨⟨by omega, by omega⟩, by omega, fun _ => hpb⟩ hno
            · exact z_xcallSV (pc := 50) hO (As := [.int (zi 0)]) (st := []) hQ hh (by intro E hE; rw [hE]; exact exc_is (by omega) (by rw [htq]; omega)) (x_X11_requireState (qL Γ) hl g x 0 (by first | assumption | omega) (by first | assumption | omega)) k_X11_80 rfl (Nat.le_of_ble_eq_true rfl) (by decide) (by decide) ⟨by decide, by decide⟩ dX11_change_50 (fun _ h => h.elim)
        · exact absurd ⟨⟨by omega, by omega⟩, by omega, fun e => absurd e (by omega)⟩ hno
      · exact z_xcallSV (pc := 24) hO (As := [.int (zi b), .int (zi 0), .int (zi (if ch = 0 then 3 else if ch = 1 then 1 else if ch = 2 then 1998 else (x (10 + q) 1) - 1))]) (st := []) hQ hh (by intro E hE; rw [hE]; exact exc_ia (by omega) (by rw [htq]; unfold mby; omega)) (x_X11_requireRange (qL Γ) hl g x b 0 (if ch = 0 then 3 else if ch = 1 then 1 else if ch = 2 then 1998 else (x (10 + q) 1) - 1) (by first | assumption | omega) (by first | assumption | omega) (by unfold mby at hmb; omega) (by first | assumption | omega)) k_X11_45 rfl (Nat.le_of_ble_eq_true rfl) (by decide) (by decide) ⟨by decide, by decide⟩ dX11_change_24 (fun _ h => h.elim)
    · exact z_xcallSV (pc := 10) hO (As := [.int (zi ch), .int (zi 0), .int (zi 5)]) (st := []) hQ hh (by intro E hE; rw [hE]; exact exc_ia (by first | trivial | omega) (by omega)) (x_X11_requireRange (qL Γ) hl g x ch 0 5 (by first | assumption | omega) (by first | assumption | omega) (by first | assumption | omega) (by first | assumption | omega)) k_X11_45 rfl (Nat.le_of_ble_eq_true rfl) (by decide) (by decide) ⟨by decide, by decide⟩ dX11_change_10 (fun _ h => h.elim)
  · exact z_xcallVR (pc := 2) hO (As := [.int (zi sq)]) (st := []) hQ hh (by intro E hE; rw [hE]; exact exc_io (by omega)) (x_X11_figureOf (qL Γ) hl g x sq (by first | assumption | omega) (by first | assumption | omega) (by first | assumption | omega)) k_X11_56 isO_0 rfl (Nat.le_of_ble_eq_true rfl) (by decide) (by decide) ⟨by decide, by decide⟩ dX11_change_2 (fun _ _ h => h.elim)

set_option maxHeartbeats 4000000 in
theorem c_X11_completions (l : Launch) (g : Gl) (x : Me) (sq : Int)  (hS : HS x) (r_sq : -2147483648 ≤ sq ∧ sq < 2147483648) (hok : (0 ≤ sq ∧ sq < x 0 5) ∧ (x (10 + sq.toNat) 1 ≤ 4 ∧ cnt (x (10 + sq.toNat) 1) (nc x sq.toNat) 0 ≤ 9)) : ctQ l g yX11_completions cX11_completions 3 (some .int) 63 1266 [.ref (gA g 0), .int (zi sq)] x (QIu g (fun z x' => z = (cpl (x (10 + sq.toNat) 1) (nc x sq.toNat)).length ∧ ∀ a, a < 30 ∨ 36 < a → x' a = x a)) := by
  refine ct_start (own := RX11) (lv := [(0, .ref (gA g 0)), (1, .int (zi sq))]) (plainFor_of_name (by decide)) rfl (Nat.le_of_ble_eq_true rfl) rfl ?_
  intro Γ hΓ hO hr hQ _
  have hS1 := hS.1
  refine z_aload_n (pc := 0) hO 0 dX11_completions_0 rfl rfl ?_
  refine z_iload_n (pc := 1) hO 1 dX11_completions_1 rfl rfl ?_
  refine z_callVRq (pc := 2) hO (As := [.int (zi sq)]) (st := []) (c_X11_figureOf (qL Γ) g x sq (by first | assumption | omega) (by first | assumption | omega) (by first | assumption | omega)) k_X11_56 isO_0 rfl (Nat.le_of_ble_eq_true rfl) (by decide) (by decide) ⟨by decide, by decide⟩ dX11_completions_2 (fun z1 h3 => ?_)
  obtain ⟨q, hzq, heq, hFq⟩ := h3
  subst hzq
  have htq : sq.toNat = q := by omega
  (try rw [htq] at hok)
  (try rw [htq] at hno)
  have h9q := hFq.1
  have hsq := hFq.2.1
  have hqqq := sq9 hsq
  refine z_astore_n (pc := 5) hO (lv' := [(2, .ref (gA g (10 + q))), (0, .ref (gA g 0)), (1, .int (zi sq))]) dX11_completions_5 rfl (by decide) rfl ?_
  refine z_aload_n (pc := 6) hO 0 dX11_completions_6 rfl rfl ?_
  refine z_callSB (pc := 7) hO (As := [.ref (gA g (10 + q))]) (st := []) (c_X11_canBeCompleted (qL Γ) g x q (by first | assumption | omega)) k_X11_138 rfl (Nat.le_of_ble_eq_true rfl) (by decide) (by decide) ⟨by decide, by decide⟩ dX11_completions_7 (fun pb4 => ?_) (fun pb4 => ?_)
  · skip
    refine z_callSVq (pc := 10) hO (As := [.int (zi 1)]) (st := []) (c_X11_requireState (qL Γ) g x 1 (by first | assumption | omega) (by first | assumption | omega)) k_X11_80 rfl (Nat.le_of_ble_eq_true rfl) (by decide) (by decide) ⟨by decide, by decide⟩ dX11_completions_10 (fun h7 => ?_)
    refine z_aload_n (pc := 13) hO 1 dX11_completions_13 rfl rfl ?_
    refine gf_X11_search (pc := 14) hO f_X11_23 dX11_completions_14 ?_
    refine z_aload_n (pc := 17) hO 0 dX11_completions_17 rfl rfl ?_
    refine z_callVV (pc := 18) hO (As := [.ref (gA g (10 + q))]) (st := []) (c_X8_load (qL Γ) g x q (by first | assumption | omega) (by first | assumption | omega)) k_X11_142 isO_30 rfl (Nat.le_of_ble_eq_true rfl) (by decide) (by decide) ⟨by decide, by decide⟩ dX11_completions_18 (fun m9 h10 => ?_)
    obtain ⟨hLD, hfr⟩ := h10
    refine z_aload_n (pc := 21) hO 1 dX11_completions_21 rfl rfl ?_
    refine gf_X11_search (pc := 22) hO f_X11_23 dX11_completions_22 ?_
    refine z_callVI (pc := 25) hO (As := []) (st := []) (c_X8_countAll (qL Γ) g m9 (x (10 + q) 1) (nc x q) (by exact hLD) (by exact emp_9 (by omega))) k_X11_146 isO_30 rfl (Nat.le_of_ble_eq_true rfl) (by decide) (by decide) ⟨by decide, by decide⟩ dX11_completions_25 (fun z11 m12 h13 => ?_)
    have hz := h13
    exact z_iret (pc := 28) hO hr hQ rfl dX11_completions_28 (by first | (rw [htq]; exact ⟨hz.1, fun a ha => (hz.2 a ha).trans (hfr a ha)⟩; done) | (exfalso; omega))
  · skip
    exact absurd hok.2 pb4

set_option maxHeartbeats 4000000 in
theorem x_X11_completions (l : Launch) (hl : l.stackTraces = false) (g : Gl) (x : Me) (sq : Int)  (hS : HS x) (r_sq : -2147483648 ≤ sq ∧ sq < 2147483648) (hno : ¬ ((0 ≤ sq ∧ sq < x 0 5) ∧ (x (10 + sq.toNat) 1 ≤ 4 ∧ cnt (x (10 + sq.toNat) 1) (nc x sq.toNat) 0 ≤ 9))) : cxQ l g yX11_completions cX11_completions 3 (some .int) 63 1266 1 6 [.ref (gA g 0), .int (zi sq)] x (QIu g (fun z x' => False)) (fun E => E = exc (0 ≤ sq ∧ sq < x 0 5) (True)) := by
  refine cx_start (own := RX11) (lv := [(0, .ref (gA g 0)), (1, .int (zi sq))]) (by decide) rfl (Nat.le_of_ble_eq_true rfl) rfl ?_
  intro Γ hΓ hO hr hQ hh
  have hl : (qL Γ).stackTraces = false := by rw [hΓ]; exact hl
  have hS1 := hS.1
  refine z_aload_n (pc := 0) hO 0 dX11_completions_0 rfl rfl ?_
  refine z_iload_n (pc := 1) hO 1 dX11_completions_1 rfl rfl ?_
  rcases Classical.em (0 ≤ sq ∧ sq < x 0 5) with hc1 | hc1
  · skip
    refine z_callVRq (pc := 2) hO (As := [.int (zi sq)]) (st := []) (c_X11_figureOf (qL Γ) g x sq (by first | assumption | omega) (by first | assumption | omega) (by first | assumption | omega)) k_X11_56 isO_0 rfl (Nat.le_of_ble_eq_true rfl) (by decide) (by decide) ⟨by decide, by decide⟩ dX11_completions_2 (fun z2 h4 => ?_)
    obtain ⟨q, hzq, heq, hFq⟩ := h4
    subst hzq
    have htq : sq.toNat = q := by omega
    (try rw [htq] at hok)
    (try rw [htq] at hno)
    have h9q := hFq.1
    have hsq := hFq.2.1
    have hqqq := sq9 hsq
    refine z_astore_n (pc := 5) hO (lv' := [(2, .ref (gA g (10 + q))), (0, .ref (gA g 0)), (1, .int (zi sq))]) dX11_completions_5 rfl (by decide) rfl ?_
    refine z_aload_n (pc := 6) hO 0 dX11_completions_6 rfl rfl ?_
    refine z_callSB (pc := 7) hO (As := [.ref (gA g (10 + q))]) (st := []) (c_X11_canBeCompleted (qL Γ) g x q (by first | assumption | omega)) k_X11_138 rfl (Nat.le_of_ble_eq_true rfl) (by decide) (by decide) ⟨by decide, by decide⟩ dX11_completions_7 (fun pb5 => ?_) (fun pb5 => ?_)
    · skip
      have hpb := pb5
      rcases Classical.em (1 = 1) with hc6 | hc6
      · skip
        refine z_callSVq (pc := 10) hO (As := [.int (zi 1)]) (st := []) (c_X11_requireState (qL Γ) g x 1 (by first | assumption | omega) (by first | assumption | omega)) k_X11_80 rfl (Nat.le_of_ble_eq_true rfl) (by decide) (by decide) ⟨by decide, by decide⟩ dX11_completions_10 (fun h9 => ?_)
        first | (exfalso; omega) | exact absurd ⟨by omega, hpb⟩ hno
      · exact z_xcallSV (pc := 10) hO (As := [.int (zi 1)]) (st := []) hQ hh (by intro E hE; rw [hE]; exact exc_is (by first | trivial | omega | (rw [htq]; omega)) (by first | trivial | omega)) (x_X11_requireState (qL Γ) hl g x 1 (by first | assumption | omega) (by first | assumption | omega)) k_X11_80 rfl (Nat.le_of_ble_eq_true rfl) (by decide) (by decide) ⟨by decide, by decide⟩ dX11_completions_10 (fun _ h => h.elim)
    · skip
      have hpb := pb5
      rcases Classical.em (0 = 1) with hc10 | hc10
      · skip
        refine z_callSVq (pc := 10) hO (As := [.int (zi 0)]) (st := []) (c_X11_requireState (qL Γ) g x 0 (by first | assumption | omega) (by first | assumption | omega)) k_X11_80 rfl (Nat.le_of_ble_eq_true rfl) (by decide) (by decide) ⟨by decide, by decide⟩ dX11_completions_10 (fun h13 => ?_)
        first | (exfalso; omega) | exact absurd ⟨by omega, hpb⟩ hno
      · exact z_xcallSV (pc := 10) hO (As := [.int (zi 0)]) (st := []) hQ hh (by intro E hE; rw [hE]; exact exc_is (by first | trivial | omega | (rw [htq]; omega)) (by first | trivial | omega)) (x_X11_requireState (qL Γ) hl g x 0 (by first | assumption | omega) (by first | assumption | omega)) k_X11_80 rfl (Nat.le_of_ble_eq_true rfl) (by decide) (by decide) ⟨by decide, by decide⟩ dX11_completions_10 (fun _ h => h.elim)
  · exact z_xcallVR (pc := 2) hO (As := [.int (zi sq)]) (st := []) hQ hh (by intro E hE; rw [hE]; exact exc_io (by omega)) (x_X11_figureOf (qL Γ) hl g x sq (by first | assumption | omega) (by first | assumption | omega) (by first | assumption | omega)) k_X11_56 isO_0 rfl (Nat.le_of_ble_eq_true rfl) (by decide) (by decide) ⟨by decide, by decide⟩ dX11_completions_2 (fun _ _ h => h.elim)

set_option maxHeartbeats 4000000 in
theorem c_X11_estimate (l : Launch) (g : Gl) (x : Me) (sq : Int) (seed : Int)  (hS : HS x) (r_sq : -2147483648 ≤ sq ∧ sq < 2147483648) (r_seed : -2147483648 ≤ seed ∧ seed < 2147483648) (hok : (0 ≤ sq ∧ sq < x 0 5) ∧ (0 ≤ seed ∧ seed ≤ 65535) ∧ (x (10 + sq.toNat) 1 ≤ 4)) : ctQ l g yX11_estimate cX11_estimate 4 (some .long) 5 119 [.ref (gA g 0), .int (zi sq), .int (zi seed)] x (QLu g (fun z x' => z = est (x (10 + sq.toNat) 1) (nc x sq.toNat) seed ∧ ∀ a, a < 30 ∨ 36 < a → x' a = x a)) := by
  refine ct_start (own := RX11) (lv := [(0, .ref (gA g 0)), (1, .int (zi sq)), (2, .int (zi seed))]) (plainFor_of_name (by decide)) rfl (Nat.le_of_ble_eq_true rfl) rfl ?_
  intro Γ hΓ hO hr hQ _
  have hS1 := hS.1
  refine z_aload_n (pc := 0) hO 0 dX11_estimate_0 rfl rfl ?_
  refine z_iload_n (pc := 1) hO 1 dX11_estimate_1 rfl rfl ?_
  refine z_callVRq (pc := 2) hO (As := [.int (zi sq)]) (st := []) (c_X11_figureOf (qL Γ) g x sq (by first | assumption | omega) (by first | assumption | omega) (by first | assumption | omega)) k_X11_56 isO_0 rfl (Nat.le_of_ble_eq_true rfl) (by decide) (by decide) ⟨by decide, by decide⟩ dX11_estimate_2 (fun z1 h3 => ?_)
  obtain ⟨q, hzq, heq, hFq⟩ := h3
  subst hzq
  have htq : sq.toNat = q := by omega
  (try rw [htq] at hok)
  (try rw [htq] at hno)
  have h9q := hFq.1
  have hsq := hFq.2.1
  have hqqq := sq9 hsq
  refine z_astore_n (pc := 5) hO (lv' := [(3, .ref (gA g (10 + q))), (0, .ref (gA g 0)), (1, .int (zi sq)), (2, .int (zi seed))]) dX11_estimate_5 rfl (by decide) rfl ?_
  refine z_iload_n (pc := 6) hO 3 dX11_estimate_6 rfl rfl ?_
  refine z_iconst (pc := 7) hO dX11_estimate_7 ?_
  refine z_ldc (pc := 8) hO n_X11_158 dX11_estimate_8 ?_
  refine z_callSVq (pc := 10) hO (As := [.int (zi seed), .int (zi 0), .int (zi 65535)]) (st := []) (c_X11_requireRange (qL Γ) g x seed 0 65535 (by first | assumption | omega) (by first | assumption | omega) (by first | assumption | omega) (by first | assumption | omega)) k_X11_45 rfl (Nat.le_of_ble_eq_true rfl) (by decide) (by decide) ⟨by decide, by decide⟩ dX11_estimate_10 (fun h6 => ?_)
  refine z_aload_n (pc := 13) hO 0 dX11_estimate_13 rfl rfl ?_
  refine z_callVIp (pc := 14) hO (As := []) (st := []) (c_X1_side (qL Γ) g x q (by first | assumption | omega)) k_X11_94 (isO_fig (by omega : q < 9)) rfl (Nat.le_of_ble_eq_true rfl) (by decide) (by decide) ⟨by decide, by decide⟩ dX11_estimate_14 ?_
  refine z_iconst (pc := 17) hO dX11_estimate_17 ?_
  refine z_icmp_gt (pc := 18) hO (tgt := 25) dX11_estimate_18 (by decide) (by omega) (by omega) (fun b7 => ?_) (fun b7 => ?_)
  · refine z_iconst (pc := 25) hO dX11_estimate_25 ?_
    refine z_callSVq (pc := 26) hO (As := [.int (zi 0)]) (st := []) (c_X11_requireState (qL Γ) g x 0 (by first | assumption | omega) (by first | assumption | omega)) k_X11_80 rfl (Nat.le_of_ble_eq_true rfl) (by decide) (by decide) ⟨by decide, by decide⟩ dX11_estimate_26 (fun h10 => ?_)
    refine z_aload_n (pc := 29) hO 1 dX11_estimate_29 rfl rfl ?_
    refine gf_X11_search (pc := 30) hO f_X11_23 dX11_estimate_30 ?_
    refine z_aload_n (pc := 33) hO 0 dX11_estimate_33 rfl rfl ?_
    refine z_callVV (pc := 34) hO (As := [.ref (gA g (10 + q))]) (st := []) (c_X8_load (qL Γ) g x q (by first | assumption | omega) (by first | assumption | omega)) k_X11_142 isO_30 rfl (Nat.le_of_ble_eq_true rfl) (by decide) (by decide) ⟨by decide, by decide⟩ dX11_estimate_34 (fun m12 h13 => ?_)
    obtain ⟨hLD, hfr⟩ := h13
    refine z_aload_n (pc := 37) hO 1 dX11_estimate_37 rfl rfl ?_
    refine gf_X11_search (pc := 38) hO f_X11_23 dX11_estimate_38 ?_
    refine z_iload_n (pc := 41) hO 3 dX11_estimate_41 rfl rfl ?_
    refine z_callVL (pc := 42) hO (As := [.int (zi seed)]) (st := []) (c_X8_estimateFrom (qL Γ) g m12 seed (x (10 + q) 1) (nc x q) (by exact hLD) (by first | assumption | omega)) k_X11_159 isO_30 rfl (Nat.le_of_ble_eq_true rfl) (by decide) (by decide) ⟨by decide, by decide⟩ dX11_estimate_42 (fun z14 m15 h16 => ?_)
    have hz := h16
    exact z_lret (pc := 45) hO hr hQ dX11_estimate_45 (by first | (rw [htq]; exact ⟨hz.1, fun a ha => (hz.2 a ha).trans (hfr a ha)⟩; done) | (exfalso; omega))
  · refine z_iconst (pc := 21) hO dX11_estimate_21 ?_
    refine z_goto (pc := 22) hO (tgt := 26) dX11_estimate_22 (by decide) ?_
    refine z_callSVq (pc := 26) hO (As := [.int (zi 1)]) (st := []) (c_X11_requireState (qL Γ) g x 1 (by first | assumption | omega) (by first | assumption | omega)) k_X11_80 rfl (Nat.le_of_ble_eq_true rfl) (by decide) (by decide) ⟨by decide, by decide⟩ dX11_estimate_26 (fun h19 => ?_)
    refine z_aload_n (pc := 29) hO 1 dX11_estimate_29 rfl rfl ?_
    refine gf_X11_search (pc := 30) hO f_X11_23 dX11_estimate_30 ?_
    refine z_aload_n (pc := 33) hO 0 dX11_estimate_33 rfl rfl ?_
    refine z_callVV (pc := 34) hO (As := [.ref (gA g (10 + q))]) (st := []) (c_X8_load (qL Γ) g x q (by first | assumption | omega) (by first | assumption | omega)) k_X11_142 isO_30 rfl (Nat.le_of_ble_eq_true rfl) (by decide) (by decide) ⟨by decide, by decide⟩ dX11_estimate_34 (fun m21 h22 => ?_)
    obtain ⟨hLD, hfr⟩ := h22
    refine z_aload_n (pc := 37) hO 1 dX11_estimate_37 rfl rfl ?_
    refine gf_X11_search (pc := 38) hO f_X11_23 dX11_estimate_38 ?_
    refine z_iload_n (pc := 41) hO 3 dX11_estimate_41 rfl rfl ?_
    refine z_callVL (pc := 42) hO (As := [.int (zi seed)]) (st := []) (c_X8_estimateFrom (qL Γ) g m21 seed (x (10 + q) 1) (nc x q) (by exact hLD) (by first | assumption | omega)) k_X11_159 isO_30 rfl (Nat.le_of_ble_eq_true rfl) (by decide) (by decide) ⟨by decide, by decide⟩ dX11_estimate_42 (fun z23 m24 h25 => ?_)
    have hz := h25
    exact z_lret (pc := 45) hO hr hQ dX11_estimate_45 (by first | (rw [htq]; exact ⟨hz.1, fun a ha => (hz.2 a ha).trans (hfr a ha)⟩; done) | (exfalso; omega))

set_option maxHeartbeats 4000000 in
theorem x_X11_estimate (l : Launch) (hl : l.stackTraces = false) (g : Gl) (x : Me) (sq : Int) (seed : Int)  (hS : HS x) (r_sq : -2147483648 ≤ sq ∧ sq < 2147483648) (r_seed : -2147483648 ≤ seed ∧ seed < 2147483648) (hno : ¬ ((0 ≤ sq ∧ sq < x 0 5) ∧ (0 ≤ seed ∧ seed ≤ 65535) ∧ (x (10 + sq.toNat) 1 ≤ 4))) : cxQ l g yX11_estimate cX11_estimate 4 (some .long) 7 122 1 6 [.ref (gA g 0), .int (zi sq), .int (zi seed)] x (QLu g (fun z x' => False)) (fun E => E = exc (0 ≤ sq ∧ sq < x 0 5) (0 ≤ seed ∧ seed ≤ 65535)) := by
  refine cx_start (own := RX11) (lv := [(0, .ref (gA g 0)), (1, .int (zi sq)), (2, .int (zi seed))]) (by decide) rfl (Nat.le_of_ble_eq_true rfl) rfl ?_
  intro Γ hΓ hO hr hQ hh
  have hl : (qL Γ).stackTraces = false := by rw [hΓ]; exact hl
  have hS1 := hS.1
  refine z_aload_n (pc := 0) hO 0 dX11_estimate_0 rfl rfl ?_
  refine z_iload_n (pc := 1) hO 1 dX11_estimate_1 rfl rfl ?_
  rcases Classical.em (0 ≤ sq ∧ sq < x 0 5) with hc1 | hc1
  · skip
    refine z_callVRq (pc := 2) hO (As := [.int (zi sq)]) (st := []) (c_X11_figureOf (qL Γ) g x sq (by first | assumption | omega) (by first | assumption | omega) (by first | assumption | omega)) k_X11_56 isO_0 rfl (Nat.le_of_ble_eq_true rfl) (by decide) (by decide) ⟨by decide, by decide⟩ dX11_estimate_2 (fun z2 h4 => ?_)
    obtain ⟨q, hzq, heq, hFq⟩ := h4
    subst hzq
    have htq : sq.toNat = q := by omega
    (try rw [htq] at hok)
    (try rw [htq] at hno)
    have h9q := hFq.1
    have hsq := hFq.2.1
    have hqqq := sq9 hsq
    refine z_astore_n (pc := 5) hO (lv' := [(3, .ref (gA g (10 + q))), (0, .ref (gA g 0)), (1, .int (zi sq)), (2, .int (zi seed))]) dX11_estimate_5 rfl (by decide) rfl ?_
    refine z_iload_n (pc := 6) hO 3 dX11_estimate_6 rfl rfl ?_
    refine z_iconst (pc := 7) hO dX11_estimate_7 ?_
    refine z_ldc (pc := 8) hO n_X11_158 dX11_estimate_8 ?_
    rcases Classical.em (0 ≤ seed ∧ seed ≤ 65535) with hc5 | hc5
    · skip
      refine z_callSVq (pc := 10) hO (As := [.int (zi seed), .int (zi 0), .int (zi 65535)]) (st := []) (c_X11_requireRange (qL Γ) g x seed 0 65535 (by first | assumption | omega) (by first | assumption | omega) (by first | assumption | omega) (by first | assumption | omega)) k_X11_45 rfl (Nat.le_of_ble_eq_true rfl) (by decide) (by decide) ⟨by decide, by decide⟩ dX11_estimate_10 (fun h8 => ?_)
      refine z_aload_n (pc := 13) hO 0 dX11_estimate_13 rfl rfl ?_
      refine z_callVIp (pc := 14) hO (As := []) (st := []) (c_X1_side (qL Γ) g x q (by first | assumption | omega)) k_X11_94 (isO_fig (by omega : q < 9)) rfl (Nat.le_of_ble_eq_true rfl) (by decide) (by decide) ⟨by decide, by decide⟩ dX11_estimate_14 ?_
      refine z_iconst (pc := 17) hO dX11_estimate_17 ?_
      refine z_icmp_gt (pc := 18) hO (tgt := 25) dX11_estimate_18 (by decide) (by omega) (by omega) (fun b9 => ?_) (fun b9 => ?_)
      · refine z_iconst (pc := 25) hO dX11_estimate_25 ?_
        rcases Classical.em (0 = 1) with hc10 | hc10
        · skip
          refine z_callSVq (pc := 26) hO (As := [.int (zi 0)]) (st := []) (c_X11_requireState (qL Γ) g x 0 (by first | assumption | omega) (by first | assumption | omega)) k_X11_80 rfl (Nat.le_of_ble_eq_true rfl) (by decide) (by decide) ⟨by decide, by decide⟩ dX11_estimate_26 (fun h13 => ?_)
          exfalso; omega
        · exact z_xcallSV (pc := 26) hO (As := [.int (zi 0)]) (st := []) hQ hh (by intro E hE; rw [hE]; exact exc_is (by first | trivial | omega | (rw [htq]; omega)) (by first | trivial | omega)) (x_X11_requireState (qL Γ) hl g x 0 (by first | assumption | omega) (by first | assumption | omega)) k_X11_80 rfl (Nat.le_of_ble_eq_true rfl) (by decide) (by decide) ⟨by decide, by decide⟩ dX11_estimate_26 (fun _ h => h.elim)
      · refine z_iconst (pc := 21) hO dX11_estimate_21 ?_
        refine z_goto (pc := 22) hO (tgt := 26) dX11_estimate_22 (by decide) ?_
        rcases Classical.em (1 = 1) with hc14 | hc14
        · skip
          refine z_callSVq (pc := 26) hO (As := [.int (zi 1)]) (st := []) (c_X11_requireState (qL Γ) g x 1 (by first | assumption | omega) (by first | assumption | omega)) k_X11_80 rfl (Nat.le_of_ble_eq_true rfl) (by decide) (by decide) ⟨by decide, by decide⟩ dX11_estimate_26 (fun h17 => ?_)
          exfalso; omega
        · exact z_xcallSV (pc := 26) hO (As := [.int (zi 1)]) (st := []) hQ hh (by intro E hE; rw [hE]; exact exc_is (by first | trivial | omega | (rw [htq]; omega)) (by first | trivial | omega)) (x_X11_requireState (qL Γ) hl g x 1 (by first | assumption | omega) (by first | assumption | omega)) k_X11_80 rfl (Nat.le_of_ble_eq_true rfl) (by decide) (by decide) ⟨by decide, by decide⟩ dX11_estimate_26 (fun _ h => h.elim)
    · exact z_xcallSV (pc := 10) hO (As := [.int (zi seed), .int (zi 0), .int (zi 65535)]) (st := []) hQ hh (by intro E hE; rw [hE]; exact exc_ia (by first | trivial | omega) (by omega)) (x_X11_requireRange (qL Γ) hl g x seed 0 65535 (by first | assumption | omega) (by first | assumption | omega) (by first | assumption | omega) (by first | assumption | omega)) k_X11_45 rfl (Nat.le_of_ble_eq_true rfl) (by decide) (by decide) ⟨by decide, by decide⟩ dX11_estimate_10 (fun _ h => h.elim)
  · exact z_xcallVR (pc := 2) hO (As := [.int (zi sq)]) (st := []) hQ hh (by intro E hE; rw [hE]; exact exc_io (by omega)) (x_X11_figureOf (qL Γ) hl g x sq (by first | assumption | omega) (by first | assumption | omega) (by first | assumption | omega)) k_X11_56 isO_0 rfl (Nat.le_of_ble_eq_true rfl) (by decide) (by decide) ⟨by decide, by decide⟩ dX11_estimate_2 (fun _ _ h => h.elim)

