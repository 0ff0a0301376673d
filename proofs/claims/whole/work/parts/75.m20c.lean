set_option maxHeartbeats 4000000 in
theorem e_X12_square (l : Launch) (g : Gl) (x : Me) (s : Int)  (hM : MS x) (r_s : -2147483648 ≤ s ∧ s < 2147483648) (hno : ¬ ((1 ≤ s ∧ s ≤ 9) ∧ (x 50 1 < 8))) : ctQ l g yX12_square cX12_square 2 (some .int) 2 42 [.ref (gA g 50), .int (zi s)] x (QIu g (fun z x' => z = 0 ∧ x' = up x 50 0 (exn (True) (1 ≤ s ∧ s ≤ 9) 0 1 2))) := by
  refine ct_start (own := RX12) (lv := [(0, .ref (gA g 50)), (1, .int (zi s))]) (plainFor_of_name (by decide)) rfl (Nat.le_of_ble_eq_true rfl) rfl ?_
  intro Γ hΓ hO hr hQ _
  have hM1 := hM.1
  refine z_aload_n (pc := 0) hO 0 dX12_square_0 rfl rfl ?_
  refine z_iload_n (pc := 1) hO 1 dX12_square_1 rfl rfl ?_
  refine z_iconst (pc := 2) hO dX12_square_2 ?_
  refine z_bipush (pc := 3) hO dX12_square_3 (by decide) ?_
  refine z_callSB (pc := 5) hO (As := [.int (zi s), .int (zi 1), .int (zi 9)]) (st := [.ref (gA g 50)]) (c_X12_in (qL Γ) g x s 1 9 (by first | assumption | omega) (by first | assumption | omega) (by first | assumption | omega)) k_X12_55 rfl (Nat.le_of_ble_eq_true rfl) (by decide) (by decide) ⟨by decide, by decide⟩ dX12_square_5 (fun pb1 => ?_) (fun pb1 => ?_)
  · skip
    refine z_if_ne (pc := 8) hO (tgt := 15) dX12_square_8 (by decide) (by decide) (fun _ => ?_) (fun h => absurd h (by decide))
    refine z_aload_n (pc := 15) hO 0 dX12_square_15 rfl rfl ?_
    refine gf_X12_squares (pc := 16) hO f_X12_52 dX12_square_16 ?_
    refine z_bipush (pc := 19) hO dX12_square_19 (by decide) ?_
    refine z_icmp_ne (pc := 21) hO (tgt := 28) dX12_square_21 (by decide) (by omega) (by omega) (fun b2 => ?_) (fun b2 => ?_)
    · refine z_iconst (pc := 28) hO dX12_square_28 ?_
      refine z_callVIm (pc := 29) hO (As := [.int (zi 0)]) (st := []) (c_X12_isFine0 (qL Γ) g x 0 (by first | assumption | omega)) k_X12_63 isO_50 rfl (Nat.le_of_ble_eq_true rfl) (by decide) (by decide) ⟨by decide, by decide⟩ dX12_square_29 (fun m3 e4 => ?_)
      refine z_if_ne (pc := 32) hO (tgt := 37) dX12_square_32 (by decide) (by decide) (fun _ => ?_) (fun h => absurd h (by decide))
      exfalso; omega
    · refine z_iconst (pc := 24) hO dX12_square_24 ?_
      refine z_goto (pc := 25) hO (tgt := 29) dX12_square_25 (by decide) ?_
      refine z_callVIm (pc := 29) hO (As := [.int (zi 2)]) (st := []) (c_X12_isFine1 (qL Γ) g x 2 (by first | assumption | omega)) k_X12_63 isO_50 rfl (Nat.le_of_ble_eq_true rfl) (by decide) (by decide) ⟨by decide, by decide⟩ dX12_square_29 (fun m5 e6 => ?_)
      refine z_if_ne (pc := 32) hO (tgt := 37) dX12_square_32 (by decide) (by decide) (fun h => absurd h (by decide)) (fun _ => ?_)
      refine z_iconst (pc := 35) hO dX12_square_35 ?_
      exact z_iret (pc := 36) hO hr hQ rfl dX12_square_36 (by first | (refine ⟨rfl, ?_⟩; first | (rw [exn_1 (by omega)]; assumption) | (rw [exn_2 (by first | trivial | omega) (by omega)]; assumption) | (rw [exn_3 (by first | trivial | omega) (by first | trivial | omega)]; assumption); done) | (exfalso; omega))
  · skip
    refine z_if_ne (pc := 8) hO (tgt := 15) dX12_square_8 (by decide) (by decide) (fun h => absurd h (by decide)) (fun _ => ?_)
    refine z_iconst (pc := 11) hO dX12_square_11 ?_
    refine z_goto (pc := 12) hO (tgt := 29) dX12_square_12 (by decide) ?_
    refine z_callVIm (pc := 29) hO (As := [.int (zi 1)]) (st := []) (c_X12_isFine1 (qL Γ) g x 1 (by first | assumption | omega)) k_X12_63 isO_50 rfl (Nat.le_of_ble_eq_true rfl) (by decide) (by decide) ⟨by decide, by decide⟩ dX12_square_29 (fun m7 e8 => ?_)
    refine z_if_ne (pc := 32) hO (tgt := 37) dX12_square_32 (by decide) (by decide) (fun h => absurd h (by decide)) (fun _ => ?_)
    refine z_iconst (pc := 35) hO dX12_square_35 ?_
    exact z_iret (pc := 36) hO hr hQ rfl dX12_square_36 (by first | (refine ⟨rfl, ?_⟩; first | (rw [exn_1 (by omega)]; assumption) | (rw [exn_2 (by first | trivial | omega) (by omega)]; assumption) | (rw [exn_3 (by first | trivial | omega) (by first | trivial | omega)]; assumption); done) | (exfalso; omega))

set_option maxHeartbeats 4000000 in
theorem c_X12_square (l : Launch) (g : Gl) (x : Me) (s : Int)  (hM : MS x) (r_s : -2147483648 ≤ s ∧ s < 2147483648) (hok : (1 ≤ s ∧ s ≤ 9) ∧ (x 50 1 < 8)) : ctQ l g yX12_square cX12_square 2 (some .int) 2 42 [.ref (gA g 50), .int (zi s)] x (QIu g (fun z x' => z = x 50 1 ∧ LY (clr (up x 50 0 0) 53 81) x' s)) := by
  refine ct_start (own := RX12) (lv := [(0, .ref (gA g 50)), (1, .int (zi s))]) (plainFor_of_name (by decide)) rfl (Nat.le_of_ble_eq_true rfl) rfl ?_
  intro Γ hΓ hO hr hQ _
  have hM1 := hM.1
  refine z_aload_n (pc := 0) hO 0 dX12_square_0 rfl rfl ?_
  refine z_iload_n (pc := 1) hO 1 dX12_square_1 rfl rfl ?_
  refine z_iconst (pc := 2) hO dX12_square_2 ?_
  refine z_bipush (pc := 3) hO dX12_square_3 (by decide) ?_
  refine z_callSB (pc := 5) hO (As := [.int (zi s), .int (zi 1), .int (zi 9)]) (st := [.ref (gA g 50)]) (c_X12_in (qL Γ) g x s 1 9 (by first | assumption | omega) (by first | assumption | omega) (by first | assumption | omega)) k_X12_55 rfl (Nat.le_of_ble_eq_true rfl) (by decide) (by decide) ⟨by decide, by decide⟩ dX12_square_5 (fun pb1 => ?_) (fun pb1 => ?_)
  · skip
    refine z_if_ne (pc := 8) hO (tgt := 15) dX12_square_8 (by decide) (by decide) (fun _ => ?_) (fun h => absurd h (by decide))
    refine z_aload_n (pc := 15) hO 0 dX12_square_15 rfl rfl ?_
    refine gf_X12_squares (pc := 16) hO f_X12_52 dX12_square_16 ?_
    refine z_bipush (pc := 19) hO dX12_square_19 (by decide) ?_
    refine z_icmp_ne (pc := 21) hO (tgt := 28) dX12_square_21 (by decide) (by omega) (by omega) (fun b2 => ?_) (fun b2 => ?_)
    · refine z_iconst (pc := 28) hO dX12_square_28 ?_
      refine z_callVIm (pc := 29) hO (As := [.int (zi 0)]) (st := []) (c_X12_isFine0 (qL Γ) g x 0 (by first | assumption | omega)) k_X12_63 isO_50 rfl (Nat.le_of_ble_eq_true rfl) (by decide) (by decide) ⟨by decide, by decide⟩ dX12_square_29 (fun m3 e4 => ?_)
      refine z_if_ne (pc := 32) hO (tgt := 37) dX12_square_32 (by decide) (by decide) (fun _ => ?_) (fun h => absurd h (by decide))
      have hth : m3 = up x 50 0 0 := by assumption
      refine z_aload_n (pc := 37) hO 0 dX12_square_37 rfl rfl ?_
      refine z_callVV (pc := 38) hO (As := []) (st := []) (c_X12_wipe (qL Γ) g m3 ) k_X12_66 isO_50 rfl (Nat.le_of_ble_eq_true rfl) (by decide) (by decide) ⟨by decide, by decide⟩ dX12_square_38 (fun m6 h7 => ?_)
      have hwp := h7
      rw [hth] at hwp
      refine z_aload_n (pc := 41) hO 0 dX12_square_41 rfl rfl ?_
      refine z_iload_n (pc := 42) hO 1 dX12_square_42 rfl rfl ?_
      refine z_callVI (pc := 43) hO (As := [.int (zi s)]) (st := []) (c_X12_lay (qL Γ) g m6 s (by rw [hwp]; exact MS_wp (MS_th hM)) (by rw [hwp]; unfold clr; rw [if_neg (by omega), up_n _ _ (by omega)]; omega) (by first | assumption | omega)) k_X12_69 isO_50 rfl (Nat.le_of_ble_eq_true rfl) (by decide) (by decide) ⟨by decide, by decide⟩ dX12_square_43 (fun z8 m9 h10 => ?_)
      have hly := h10
      exact z_iret (pc := 46) hO hr hQ rfl dX12_square_46 (by first | (first | (rw [← hwp]; refine ⟨?_, hly.2⟩; rw [hly.1, hwp]; unfold clr; rw [if_neg (by omega), up_n _ _ (by omega)]; done) | (exfalso; omega); done) | (exfalso; omega))
    · refine z_iconst (pc := 24) hO dX12_square_24 ?_
      refine z_goto (pc := 25) hO (tgt := 29) dX12_square_25 (by decide) ?_
      refine z_callVIm (pc := 29) hO (As := [.int (zi 2)]) (st := []) (c_X12_isFine1 (qL Γ) g x 2 (by first | assumption | omega)) k_X12_63 isO_50 rfl (Nat.le_of_ble_eq_true rfl) (by decide) (by decide) ⟨by decide, by decide⟩ dX12_square_29 (fun m11 e12 => ?_)
      refine z_if_ne (pc := 32) hO (tgt := 37) dX12_square_32 (by decide) (by decide) (fun h => absurd h (by decide)) (fun _ => ?_)
      refine z_iconst (pc := 35) hO dX12_square_35 ?_
      exact z_iret (pc := 36) hO hr hQ rfl dX12_square_36 (by first | (first | (rw [← hwp]; refine ⟨?_, hly.2⟩; rw [hly.1, hwp]; unfold clr; rw [if_neg (by omega), up_n _ _ (by omega)]; done) | (exfalso; omega); done) | (exfalso; omega))
  · skip
    exfalso; omega

set_option maxHeartbeats 4000000 in
theorem e_X12_at (l : Launch) (g : Gl) (x : Me) (q : Int) (r : Int) (c : Int)  (hM : MS x) (r_q : -2147483648 ≤ q ∧ q < 2147483648) (r_r : -2147483648 ≤ r ∧ r < 2147483648) (r_c : -2147483648 ≤ c ∧ c < 2147483648) (hno : ¬ ((((0 ≤ q ∧ q < x 50 1) ∧ (0 ≤ r ∧ r < x 51 q) ∧ 0 ≤ c ∧ c < x 51 q)))) : ctQ l g yX12_at cX12_at 4 (some .int) 4 86 [.ref (gA g 50), .int (zi q), .int (zi r), .int (zi c)] x (QIu g (fun z x' => z = 0 ∧ x' = up x 50 0 (exn (((0 ≤ q ∧ q < x 50 1) ∧ (0 ≤ r ∧ r < x 51 q) ∧ 0 ≤ c ∧ c < x 51 q)) (True) 1 0 0))) := by
  refine ct_start (own := RX12) (lv := [(0, .ref (gA g 50)), (1, .int (zi q)), (2, .int (zi r)), (3, .int (zi c))]) (plainFor_of_name (by decide)) rfl (Nat.le_of_ble_eq_true rfl) rfl ?_
  intro Γ hΓ hO hr hQ _
  have hM1 := hM.1
  refine z_aload_n (pc := 0) hO 0 dX12_at_0 rfl rfl ?_
  refine z_aload_n (pc := 1) hO 0 dX12_at_1 rfl rfl ?_
  refine z_iload_n (pc := 2) hO 1 dX12_at_2 rfl rfl ?_
  refine z_iload_n (pc := 3) hO 2 dX12_at_3 rfl rfl ?_
  refine z_iload_n (pc := 4) hO 3 dX12_at_4 rfl rfl ?_
  refine z_callVB (pc := 5) hO (As := [.int (zi q), .int (zi r), .int (zi c)]) (st := [.ref (gA g 50)]) (c_X12_isPoint (qL Γ) g x q r c (by first | assumption | omega) (by first | assumption | omega) (by first | assumption | omega) (by first | assumption | omega)) k_X12_73 isO_50 rfl (Nat.le_of_ble_eq_true rfl) (by decide) (by decide) ⟨by decide, by decide⟩ dX12_at_5 (fun pb1 => ?_) (fun pb1 => ?_)
  · skip
    refine z_if_eq (pc := 8) hO (tgt := 15) dX12_at_8 (by decide) (by decide) (fun h => absurd h (by decide)) (fun _ => ?_)
    refine z_iconst (pc := 11) hO dX12_at_11 ?_
    refine z_goto (pc := 12) hO (tgt := 16) dX12_at_12 (by decide) ?_
    refine z_callVIm (pc := 16) hO (As := [.int (zi 0)]) (st := []) (c_X12_isFine0 (qL Γ) g x 0 (by first | assumption | omega)) k_X12_63 isO_50 rfl (Nat.le_of_ble_eq_true rfl) (by decide) (by decide) ⟨by decide, by decide⟩ dX12_at_16 (fun m2 e3 => ?_)
    refine z_if_eq (pc := 19) hO (tgt := 32) dX12_at_19 (by decide) (by decide) (fun h => absurd h (by decide)) (fun _ => ?_)
    exfalso; omega
  · skip
    refine z_if_eq (pc := 8) hO (tgt := 15) dX12_at_8 (by decide) (by decide) (fun _ => ?_) (fun h => absurd h (by decide))
    refine z_iconst (pc := 15) hO dX12_at_15 ?_
    refine z_callVIm (pc := 16) hO (As := [.int (zi 1)]) (st := []) (c_X12_isFine1 (qL Γ) g x 1 (by first | assumption | omega)) k_X12_63 isO_50 rfl (Nat.le_of_ble_eq_true rfl) (by decide) (by decide) ⟨by decide, by decide⟩ dX12_at_16 (fun m4 e5 => ?_)
    refine z_if_eq (pc := 19) hO (tgt := 32) dX12_at_19 (by decide) (by decide) (fun _ => ?_) (fun h => absurd h (by decide))
    refine z_iconst (pc := 32) hO dX12_at_32 ?_
    exact z_iret (pc := 33) hO hr hQ rfl dX12_at_33 (by first | (refine ⟨rfl, ?_⟩; first | (rw [exn_1 (by omega)]; assumption) | (rw [exn_2 (by first | trivial | omega) (by omega)]; assumption) | (rw [exn_3 (by first | trivial | omega) (by first | trivial | omega)]; assumption); done) | (exfalso; omega))

set_option maxHeartbeats 4000000 in
theorem c_X12_at (l : Launch) (g : Gl) (x : Me) (q : Int) (r : Int) (c : Int)  (hM : MS x) (r_q : -2147483648 ≤ q ∧ q < 2147483648) (r_r : -2147483648 ≤ r ∧ r < 2147483648) (r_c : -2147483648 ≤ c ∧ c < 2147483648) (hok : (((0 ≤ q ∧ q < x 50 1) ∧ (0 ≤ r ∧ r < x 51 q) ∧ 0 ≤ c ∧ c < x 51 q))) : ctQ l g yX12_at cX12_at 4 (some .int) 4 86 [.ref (gA g 50), .int (zi q), .int (zi r), .int (zi c)] x (QIu g (fun z x' => z = (nd x q (x 51 q * r + c)) ∧ x' = up x 50 0 0)) := by
  refine ct_start (own := RX12) (lv := [(0, .ref (gA g 50)), (1, .int (zi q)), (2, .int (zi r)), (3, .int (zi c))]) (plainFor_of_name (by decide)) rfl (Nat.le_of_ble_eq_true rfl) rfl ?_
  intro Γ hΓ hO hr hQ _
  have hM1 := hM.1
  refine z_aload_n (pc := 0) hO 0 dX12_at_0 rfl rfl ?_
  refine z_aload_n (pc := 1) hO 0 dX12_at_1 rfl rfl ?_
  refine z_iload_n (pc := 2) hO 1 dX12_at_2 rfl rfl ?_
  refine z_iload_n (pc := 3) hO 2 dX12_at_3 rfl rfl ?_
  refine z_iload_n (pc := 4) hO 3 dX12_at_4 rfl rfl ?_
  refine z_callVB (pc := 5) hO (As := [.int (zi q), .int (zi r), .int (zi c)]) (st := [.ref (gA g 50)]) (c_X12_isPoint (qL Γ) g x q r c (by first | assumption | omega) (by first | assumption | omega) (by first | assumption | omega) (by first | assumption | omega)) k_X12_73 isO_50 rfl (Nat.le_of_ble_eq_true rfl) (by decide) (by decide) ⟨by decide, by decide⟩ dX12_at_5 (fun pb1 => ?_) (fun pb1 => ?_)
  · skip
    refine z_if_eq (pc := 8) hO (tgt := 15) dX12_at_8 (by decide) (by decide) (fun h => absurd h (by decide)) (fun _ => ?_)
    refine z_iconst (pc := 11) hO dX12_at_11 ?_
    refine z_goto (pc := 12) hO (tgt := 16) dX12_at_12 (by decide) ?_
    refine z_callVIm (pc := 16) hO (As := [.int (zi 0)]) (st := []) (c_X12_isFine0 (qL Γ) g x 0 (by first | assumption | omega)) k_X12_63 isO_50 rfl (Nat.le_of_ble_eq_true rfl) (by decide) (by decide) ⟨by decide, by decide⟩ dX12_at_16 (fun m2 e3 => ?_)
    refine z_if_eq (pc := 19) hO (tgt := 32) dX12_at_19 (by decide) (by decide) (fun h => absurd h (by decide)) (fun _ => ?_)
    have hG := hM.2 q (by omega) (by omega)
    obtain ⟨hq, hs, hf⟩ := id hG
    have hsq := sq9 hs
    have hpl := pl9 (r := r) (c := c) hs (by omega) (by omega)
    have hth : m2 = up x 50 0 0 := by assumption
    refine z_aload_n (pc := 22) hO 0 dX12_at_22 rfl rfl ?_
    refine z_iload_n (pc := 23) hO 1 dX12_at_23 rfl rfl ?_
    refine z_iload_n (pc := 24) hO 2 dX12_at_24 rfl rfl ?_
    refine z_iload_n (pc := 25) hO 3 dX12_at_25 rfl rfl ?_
    refine z_callVIp (pc := 26) hO (As := [.int (zi q), .int (zi r), .int (zi c)]) (st := []) (c_X12_numberAt (qL Γ) g m2 q r c (by rw [hth]; exact MG_th hG) (by rw [hth, up_i _ _ _ (by omega)]; exact ⟨by omega, by omega⟩)) k_X12_76 isO_50 rfl (Nat.le_of_ble_eq_true rfl) (by decide) (by decide) ⟨by decide, by decide⟩ dX12_at_26 ?_
    refine z_goto (pc := 29) hO (tgt := 33) dX12_at_29 (by decide) ?_
    exact z_iret (pc := 33) hO hr hQ rfl dX12_at_33 (by first | (subst hth; rw [up_i _ _ _ (by omega)]; exact ⟨nd_th, rfl⟩; done) | (exfalso; omega))
  · skip
    exfalso; omega

