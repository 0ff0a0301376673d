set_option maxHeartbeats 4000000 in
theorem e_X12_laws (l : Launch) (g : Gl) (x : Me) (q : Int)  (hM : MS x) (r_q : -2147483648 ≤ q ∧ q < 2147483648) (hno : ¬ ((0 ≤ q ∧ q < x 50 1))) : ctQ l g yX12_laws cX12_laws 2 (some .int) 5 119 [.ref (gA g 50), .int (zi q)] x (QIu g (fun z x' => z = 0 ∧ x' = up x 50 0 (exn (0 ≤ q ∧ q < x 50 1) (True) 1 0 0))) := by
  refine ct_start (own := RX12) (lv := [(0, .ref (gA g 50)), (1, .int (zi q))]) (plainFor_of_name (by decide)) rfl (Nat.le_of_ble_eq_true rfl) rfl ?_
  intro Γ hΓ hO hr hQ _
  have hM1 := hM.1
  refine z_aload_n (pc := 0) hO 0 dX12_laws_0 rfl rfl ?_
  refine z_aload_n (pc := 1) hO 0 dX12_laws_1 rfl rfl ?_
  refine z_iload_n (pc := 2) hO 1 dX12_laws_2 rfl rfl ?_
  refine z_callVB (pc := 3) hO (As := [.int (zi q)]) (st := [.ref (gA g 50)]) (c_X12_isSquare (qL Γ) g x q (by first | assumption | omega) (by first | assumption | omega)) k_X12_59 isO_50 rfl (Nat.le_of_ble_eq_true rfl) (by decide) (by decide) ⟨by decide, by decide⟩ dX12_laws_3 (fun pb1 => ?_) (fun pb1 => ?_)
  · skip
    refine z_if_eq (pc := 6) hO (tgt := 13) dX12_laws_6 (by decide) (by decide) (fun h => absurd h (by decide)) (fun _ => ?_)
    refine z_iconst (pc := 9) hO dX12_laws_9 ?_
    refine z_goto (pc := 10) hO (tgt := 14) dX12_laws_10 (by decide) ?_
    refine z_callVIm (pc := 14) hO (As := [.int (zi 0)]) (st := []) (c_X12_isFine0 (qL Γ) g x 0 (by first | assumption | omega)) k_X12_63 isO_50 rfl (Nat.le_of_ble_eq_true rfl) (by decide) (by decide) ⟨by decide, by decide⟩ dX12_laws_14 (fun m2 e3 => ?_)
    refine z_if_eq (pc := 17) hO (tgt := 28) dX12_laws_17 (by decide) (by decide) (fun h => absurd h (by decide)) (fun _ => ?_)
    exfalso; omega
  · skip
    refine z_if_eq (pc := 6) hO (tgt := 13) dX12_laws_6 (by decide) (by decide) (fun _ => ?_) (fun h => absurd h (by decide))
    refine z_iconst (pc := 13) hO dX12_laws_13 ?_
    refine z_callVIm (pc := 14) hO (As := [.int (zi 1)]) (st := []) (c_X12_isFine1 (qL Γ) g x 1 (by first | assumption | omega)) k_X12_63 isO_50 rfl (Nat.le_of_ble_eq_true rfl) (by decide) (by decide) ⟨by decide, by decide⟩ dX12_laws_14 (fun m4 e5 => ?_)
    refine z_if_eq (pc := 17) hO (tgt := 28) dX12_laws_17 (by decide) (by decide) (fun _ => ?_) (fun h => absurd h (by decide))
    refine z_iconst (pc := 28) hO dX12_laws_28 ?_
    exact z_iret (pc := 29) hO hr hQ rfl dX12_laws_29 (by first | (refine ⟨rfl, ?_⟩; first | (rw [exn_1 (by omega)]; assumption) | (rw [exn_2 (by first | trivial | omega) (by omega)]; assumption) | (rw [exn_3 (by first | trivial | omega) (by first | trivial | omega)]; assumption); done) | (exfalso; omega))

set_option maxHeartbeats 4000000 in
theorem c_X12_laws (l : Launch) (g : Gl) (x : Me) (q : Int)  (hM : MS x) (r_q : -2147483648 ≤ q ∧ q < 2147483648) (hok : (0 ≤ q ∧ q < x 50 1)) : ctQ l g yX12_laws cX12_laws 2 (some .int) 5 119 [.ref (gA g 50), .int (zi q)] x (QIu g (fun z x' => z = (lws (x 51 q) (nd x q) 8) ∧ x' = up x 50 0 0)) := by
  refine ct_start (own := RX12) (lv := [(0, .ref (gA g 50)), (1, .int (zi q))]) (plainFor_of_name (by decide)) rfl (Nat.le_of_ble_eq_true rfl) rfl ?_
  intro Γ hΓ hO hr hQ _
  have hM1 := hM.1
  refine z_aload_n (pc := 0) hO 0 dX12_laws_0 rfl rfl ?_
  refine z_aload_n (pc := 1) hO 0 dX12_laws_1 rfl rfl ?_
  refine z_iload_n (pc := 2) hO 1 dX12_laws_2 rfl rfl ?_
  refine z_callVB (pc := 3) hO (As := [.int (zi q)]) (st := [.ref (gA g 50)]) (c_X12_isSquare (qL Γ) g x q (by first | assumption | omega) (by first | assumption | omega)) k_X12_59 isO_50 rfl (Nat.le_of_ble_eq_true rfl) (by decide) (by decide) ⟨by decide, by decide⟩ dX12_laws_3 (fun pb1 => ?_) (fun pb1 => ?_)
  · skip
    refine z_if_eq (pc := 6) hO (tgt := 13) dX12_laws_6 (by decide) (by decide) (fun h => absurd h (by decide)) (fun _ => ?_)
    refine z_iconst (pc := 9) hO dX12_laws_9 ?_
    refine z_goto (pc := 10) hO (tgt := 14) dX12_laws_10 (by decide) ?_
    refine z_callVIm (pc := 14) hO (As := [.int (zi 0)]) (st := []) (c_X12_isFine0 (qL Γ) g x 0 (by first | assumption | omega)) k_X12_63 isO_50 rfl (Nat.le_of_ble_eq_true rfl) (by decide) (by decide) ⟨by decide, by decide⟩ dX12_laws_14 (fun m2 e3 => ?_)
    refine z_if_eq (pc := 17) hO (tgt := 28) dX12_laws_17 (by decide) (by decide) (fun h => absurd h (by decide)) (fun _ => ?_)
    have hG := hM.2 q (by omega) (by omega)
    have hs := hG.2.1
    have hth : m2 = up x 50 0 0 := by assumption
    have e51 : m2 51 q = x 51 q := by rw [hth, up_i _ _ _ (by omega)]
    have end_ : nd m2 q = nd x q := by funext p; rw [hth]; exact nd_th
    refine z_aload_n (pc := 20) hO 0 dX12_laws_20 rfl rfl ?_
    refine z_iload_n (pc := 21) hO 1 dX12_laws_21 rfl rfl ?_
    refine z_callVIp (pc := 22) hO (As := [.int (zi q)]) (st := []) (c_X12_lawsOf (qL Γ) g m2 q (by rw [hth]; exact MG_th hG)) k_X12_118 isO_50 rfl (Nat.le_of_ble_eq_true rfl) (by decide) (by decide) ⟨by decide, by decide⟩ dX12_laws_22 ?_
    refine z_goto (pc := 25) hO (tgt := 29) dX12_laws_25 (by decide) ?_
    exact z_iret (pc := 29) hO hr hQ rfl dX12_laws_29 (by first | (refine ⟨?_, hth⟩; rw [e51, end_]; done) | (exfalso; omega))
  · skip
    exfalso; omega

set_option maxHeartbeats 4000000 in
theorem e_X12_sum (l : Launch) (g : Gl) (x : Me) (q : Int) (kind : Int) (line : Int)  (hM : MS x) (r_q : -2147483648 ≤ q ∧ q < 2147483648) (r_kind : -2147483648 ≤ kind ∧ kind < 2147483648) (r_line : -2147483648 ≤ line ∧ line < 2147483648) (hno : ¬ ((0 ≤ q ∧ q < x 50 1) ∧ ((0 ≤ kind ∧ kind ≤ 3) ∧ 0 ≤ line ∧ line < x 51 q))) : ctQ l g yX12_sum cX12_sum 6 (some .int) 3 71 [.ref (gA g 50), .int (zi q), .int (zi kind), .int (zi line)] x (QIu g (fun z x' => z = 0 ∧ x' = up x 50 0 (exn (0 ≤ q ∧ q < x 50 1) ((0 ≤ kind ∧ kind ≤ 3) ∧ 0 ≤ line ∧ line < x 51 q) 1 2 0))) := by
  refine ct_start (own := RX12) (lv := [(0, .ref (gA g 50)), (1, .int (zi q)), (2, .int (zi kind)), (3, .int (zi line))]) (plainFor_of_name (by decide)) rfl (Nat.le_of_ble_eq_true rfl) rfl ?_
  intro Γ hΓ hO hr hQ _
  have hM1 := hM.1
  refine z_aload_n (pc := 0) hO 0 dX12_sum_0 rfl rfl ?_
  refine z_iload_n (pc := 1) hO 1 dX12_sum_1 rfl rfl ?_
  refine z_callVB (pc := 2) hO (As := [.int (zi q)]) (st := []) (c_X12_isSquare (qL Γ) g x q (by first | assumption | omega) (by first | assumption | omega)) k_X12_59 isO_50 rfl (Nat.le_of_ble_eq_true rfl) (by decide) (by decide) ⟨by decide, by decide⟩ dX12_sum_2 (fun pb1 => ?_) (fun pb1 => ?_)
  · skip
    refine z_istore (pc := 5) hO (lv' := [(4, .int (zi 1)), (0, .ref (gA g 50)), (1, .int (zi q)), (2, .int (zi kind)), (3, .int (zi line))]) dX12_sum_5 (by decide) rfl ?_
    refine z_iload (pc := 7) hO 0 dX12_sum_7 rfl ?_
    refine z_if_eq (pc := 9) hO (tgt := 41) dX12_sum_9 (by decide) (by decide) (fun h => absurd h (by decide)) (fun _ => ?_)
    refine z_iload_n (pc := 12) hO 3 dX12_sum_12 rfl rfl ?_
    refine z_iconst (pc := 13) hO dX12_sum_13 ?_
    refine z_iconst (pc := 14) hO dX12_sum_14 ?_
    refine z_callSB (pc := 15) hO (As := [.int (zi kind), .int (zi 0), .int (zi 3)]) (st := []) (c_X12_in (qL Γ) g x kind 0 3 (by first | assumption | omega) (by first | assumption | omega) (by first | assumption | omega)) k_X12_55 rfl (Nat.le_of_ble_eq_true rfl) (by decide) (by decide) ⟨by decide, by decide⟩ dX12_sum_15 (fun pb2 => ?_) (fun pb2 => ?_)
    · skip
      refine z_if_eq (pc := 18) hO (tgt := 41) dX12_sum_18 (by decide) (by decide) (fun h => absurd h (by decide)) (fun _ => ?_)
      have hs1 := (hM.2 q (by omega) (by omega)).2.1
      have hq1 := (hM.2 q (by omega) (by omega)).1
      refine z_iload_n (pc := 21) hO 4 dX12_sum_21 rfl rfl ?_
      refine z_iconst (pc := 22) hO dX12_sum_22 ?_
      refine z_aload_n (pc := 23) hO 1 dX12_sum_23 rfl rfl ?_
      refine gf_X12_sideOf (pc := 24) hO f_X12_7 dX12_sum_24 ?_
      refine z_iload_n (pc := 27) hO 2 dX12_sum_27 rfl rfl ?_
      refine z_iald (pc := 28) hO isI_51 (by omega) dX12_sum_28 ?_
      refine z_iconst (pc := 29) hO dX12_sum_29 ?_
      refine z_isub (pc := 30) hO dX12_sum_30 ?_
      refine z_callSB (pc := 31) hO (As := [.int (zi line), .int (zi 0), .int (zi ((x 51 q) - 1))]) (st := []) (c_X12_in (qL Γ) g x line 0 ((x 51 q) - 1) (by first | assumption | omega) (by first | assumption | omega) (by first | assumption | omega)) k_X12_55 rfl (Nat.le_of_ble_eq_true rfl) (by decide) (by decide) ⟨by decide, by decide⟩ dX12_sum_31 (fun pb3 => ?_) (fun pb3 => ?_)
      · skip
        refine z_if_eq (pc := 34) hO (tgt := 41) dX12_sum_34 (by decide) (by decide) (fun h => absurd h (by decide)) (fun _ => ?_)
        refine z_iconst (pc := 37) hO dX12_sum_37 ?_
        refine z_goto (pc := 38) hO (tgt := 42) dX12_sum_38 (by decide) ?_
        refine z_istore (pc := 42) hO (lv' := [(5, .int (zi 1)), (4, .int (zi 1)), (0, .ref (gA g 50)), (1, .int (zi q)), (2, .int (zi kind)), (3, .int (zi line))]) dX12_sum_42 (by decide) rfl ?_
        refine z_aload_n (pc := 44) hO 2 dX12_sum_44 rfl rfl ?_
        refine z_iload (pc := 45) hO 1 dX12_sum_45 rfl ?_
        refine z_if_ne (pc := 47) hO (tgt := 54) dX12_sum_47 (by decide) (by decide) (fun _ => ?_) (fun h => absurd h (by decide))
        refine z_iload (pc := 54) hO 0 dX12_sum_54 rfl ?_
        refine z_if_ne (pc := 56) hO (tgt := 63) dX12_sum_56 (by decide) (by decide) (fun _ => ?_) (fun h => absurd h (by decide))
        refine z_iconst (pc := 63) hO dX12_sum_63 ?_
        refine z_callVIm (pc := 64) hO (As := [.int (zi 0)]) (st := []) (c_X12_isFine0 (qL Γ) g x 0 (by first | assumption | omega)) k_X12_63 isO_50 rfl (Nat.le_of_ble_eq_true rfl) (by decide) (by decide) ⟨by decide, by decide⟩ dX12_sum_64 (fun m4 e5 => ?_)
        refine z_if_eq (pc := 67) hO (tgt := 80) dX12_sum_67 (by decide) (by decide) (fun h => absurd h (by decide)) (fun _ => ?_)
        exfalso; omega
      · skip
        refine z_if_eq (pc := 34) hO (tgt := 41) dX12_sum_34 (by decide) (by decide) (fun _ => ?_) (fun h => absurd h (by decide))
        refine z_iconst (pc := 41) hO dX12_sum_41 ?_
        refine z_istore (pc := 42) hO (lv' := [(5, .int (zi 0)), (4, .int (zi 1)), (0, .ref (gA g 50)), (1, .int (zi q)), (2, .int (zi kind)), (3, .int (zi line))]) dX12_sum_42 (by decide) rfl ?_
        refine z_aload_n (pc := 44) hO 2 dX12_sum_44 rfl rfl ?_
        refine z_iload (pc := 45) hO 1 dX12_sum_45 rfl ?_
        refine z_if_ne (pc := 47) hO (tgt := 54) dX12_sum_47 (by decide) (by decide) (fun _ => ?_) (fun h => absurd h (by decide))
        refine z_iload (pc := 54) hO 0 dX12_sum_54 rfl ?_
        refine z_if_ne (pc := 56) hO (tgt := 63) dX12_sum_56 (by decide) (by decide) (fun h => absurd h (by decide)) (fun _ => ?_)
        refine z_iconst (pc := 59) hO dX12_sum_59 ?_
        refine z_goto (pc := 60) hO (tgt := 64) dX12_sum_60 (by decide) ?_
        refine z_callVIm (pc := 64) hO (As := [.int (zi 2)]) (st := []) (c_X12_isFine1 (qL Γ) g x 2 (by first | assumption | omega)) k_X12_63 isO_50 rfl (Nat.le_of_ble_eq_true rfl) (by decide) (by decide) ⟨by decide, by decide⟩ dX12_sum_64 (fun m6 e7 => ?_)
        refine z_if_eq (pc := 67) hO (tgt := 80) dX12_sum_67 (by decide) (by decide) (fun _ => ?_) (fun h => absurd h (by decide))
        refine z_iconst (pc := 80) hO dX12_sum_80 ?_
        exact z_iret (pc := 81) hO hr hQ rfl dX12_sum_81 (by first | (refine ⟨rfl, ?_⟩; first | (rw [exn_1 (by omega)]; assumption) | (rw [exn_2 (by first | trivial | omega) (by omega)]; assumption) | (rw [exn_3 (by first | trivial | omega) (by first | trivial | omega)]; assumption); done) | (exfalso; omega))
    · skip
      refine z_if_eq (pc := 18) hO (tgt := 41) dX12_sum_18 (by decide) (by decide) (fun _ => ?_) (fun h => absurd h (by decide))
      refine z_iconst (pc := 41) hO dX12_sum_41 ?_
      refine z_istore (pc := 42) hO (lv' := [(5, .int (zi 0)), (4, .int (zi 1)), (0, .ref (gA g 50)), (1, .int (zi q)), (2, .int (zi kind)), (3, .int (zi line))]) dX12_sum_42 (by decide) rfl ?_
      refine z_aload_n (pc := 44) hO 2 dX12_sum_44 rfl rfl ?_
      refine z_iload (pc := 45) hO 1 dX12_sum_45 rfl ?_
      refine z_if_ne (pc := 47) hO (tgt := 54) dX12_sum_47 (by decide) (by decide) (fun _ => ?_) (fun h => absurd h (by decide))
      refine z_iload (pc := 54) hO 0 dX12_sum_54 rfl ?_
      refine z_if_ne (pc := 56) hO (tgt := 63) dX12_sum_56 (by decide) (by decide) (fun h => absurd h (by decide)) (fun _ => ?_)
      refine z_iconst (pc := 59) hO dX12_sum_59 ?_
      refine z_goto (pc := 60) hO (tgt := 64) dX12_sum_60 (by decide) ?_
      refine z_callVIm (pc := 64) hO (As := [.int (zi 2)]) (st := []) (c_X12_isFine1 (qL Γ) g x 2 (by first | assumption | omega)) k_X12_63 isO_50 rfl (Nat.le_of_ble_eq_true rfl) (by decide) (by decide) ⟨by decide, by decide⟩ dX12_sum_64 (fun m8 e9 => ?_)
      refine z_if_eq (pc := 67) hO (tgt := 80) dX12_sum_67 (by decide) (by decide) (fun _ => ?_) (fun h => absurd h (by decide))
      refine z_iconst (pc := 80) hO dX12_sum_80 ?_
      exact z_iret (pc := 81) hO hr hQ rfl dX12_sum_81 (by first | (refine ⟨rfl, ?_⟩; first | (rw [exn_1 (by omega)]; assumption) | (rw [exn_2 (by first | trivial | omega) (by omega)]; assumption) | (rw [exn_3 (by first | trivial | omega) (by first | trivial | omega)]; assumption); done) | (exfalso; omega))
  · skip
    refine z_istore (pc := 5) hO (lv' := [(4, .int (zi 0)), (0, .ref (gA g 50)), (1, .int (zi q)), (2, .int (zi kind)), (3, .int (zi line))]) dX12_sum_5 (by decide) rfl ?_
    refine z_iload (pc := 7) hO 0 dX12_sum_7 rfl ?_
    refine z_if_eq (pc := 9) hO (tgt := 41) dX12_sum_9 (by decide) (by decide) (fun _ => ?_) (fun h => absurd h (by decide))
    refine z_iconst (pc := 41) hO dX12_sum_41 ?_
    refine z_istore (pc := 42) hO (lv' := [(5, .int (zi 0)), (4, .int (zi 0)), (0, .ref (gA g 50)), (1, .int (zi q)), (2, .int (zi kind)), (3, .int (zi line))]) dX12_sum_42 (by decide) rfl ?_
    refine z_aload_n (pc := 44) hO 2 dX12_sum_44 rfl rfl ?_
    refine z_iload (pc := 45) hO 1 dX12_sum_45 rfl ?_
    refine z_if_ne (pc := 47) hO (tgt := 54) dX12_sum_47 (by decide) (by decide) (fun h => absurd h (by decide)) (fun _ => ?_)
    refine z_iconst (pc := 50) hO dX12_sum_50 ?_
    refine z_goto (pc := 51) hO (tgt := 64) dX12_sum_51 (by decide) ?_
    refine z_callVIm (pc := 64) hO (As := [.int (zi 1)]) (st := []) (c_X12_isFine1 (qL Γ) g x 1 (by first | assumption | omega)) k_X12_63 isO_50 rfl (Nat.le_of_ble_eq_true rfl) (by decide) (by decide) ⟨by decide, by decide⟩ dX12_sum_64 (fun m10 e11 => ?_)
    refine z_if_eq (pc := 67) hO (tgt := 80) dX12_sum_67 (by decide) (by decide) (fun _ => ?_) (fun h => absurd h (by decide))
    refine z_iconst (pc := 80) hO dX12_sum_80 ?_
    exact z_iret (pc := 81) hO hr hQ rfl dX12_sum_81 (by first | (refine ⟨rfl, ?_⟩; first | (rw [exn_1 (by omega)]; assumption) | (rw [exn_2 (by first | trivial | omega) (by omega)]; assumption) | (rw [exn_3 (by first | trivial | omega) (by first | trivial | omega)]; assumption); done) | (exfalso; omega))

set_option maxHeartbeats 4000000 in
theorem c_X12_sum (l : Launch) (g : Gl) (x : Me) (q : Int) (kind : Int) (line : Int)  (hM : MS x) (r_q : -2147483648 ≤ q ∧ q < 2147483648) (r_kind : -2147483648 ≤ kind ∧ kind < 2147483648) (r_line : -2147483648 ≤ line ∧ line < 2147483648) (hok : (0 ≤ q ∧ q < x 50 1) ∧ ((0 ≤ kind ∧ kind ≤ 3) ∧ 0 ≤ line ∧ line < x 51 q)) : ctQ l g yX12_sum cX12_sum 6 (some .int) 3 71 [.ref (gA g 50), .int (zi q), .int (zi kind), .int (zi line)] x (QIu g (fun z x' => z = (lsum (x 51 q) (nd x q) kind line) ∧ x' = up x 50 0 0)) := by
  refine ct_start (own := RX12) (lv := [(0, .ref (gA g 50)), (1, .int (zi q)), (2, .int (zi kind)), (3, .int (zi line))]) (plainFor_of_name (by decide)) rfl (Nat.le_of_ble_eq_true rfl) rfl ?_
  intro Γ hΓ hO hr hQ _
  have hM1 := hM.1
  refine z_aload_n (pc := 0) hO 0 dX12_sum_0 rfl rfl ?_
  refine z_iload_n (pc := 1) hO 1 dX12_sum_1 rfl rfl ?_
  refine z_callVB (pc := 2) hO (As := [.int (zi q)]) (st := []) (c_X12_isSquare (qL Γ) g x q (by first | assumption | omega) (by first | assumption | omega)) k_X12_59 isO_50 rfl (Nat.le_of_ble_eq_true rfl) (by decide) (by decide) ⟨by decide, by decide⟩ dX12_sum_2 (fun pb1 => ?_) (fun pb1 => ?_)
  · skip
    refine z_istore (pc := 5) hO (lv' := [(4, .int (zi 1)), (0, .ref (gA g 50)), (1, .int (zi q)), (2, .int (zi kind)), (3, .int (zi line))]) dX12_sum_5 (by decide) rfl ?_
    refine z_iload (pc := 7) hO 0 dX12_sum_7 rfl ?_
    refine z_if_eq (pc := 9) hO (tgt := 41) dX12_sum_9 (by decide) (by decide) (fun h => absurd h (by decide)) (fun _ => ?_)
    refine z_iload_n (pc := 12) hO 3 dX12_sum_12 rfl rfl ?_
    refine z_iconst (pc := 13) hO dX12_sum_13 ?_
    refine z_iconst (pc := 14) hO dX12_sum_14 ?_
    refine z_callSB (pc := 15) hO (As := [.int (zi kind), .int (zi 0), .int (zi 3)]) (st := []) (c_X12_in (qL Γ) g x kind 0 3 (by first | assumption | omega) (by first | assumption | omega) (by first | assumption | omega)) k_X12_55 rfl (Nat.le_of_ble_eq_true rfl) (by decide) (by decide) ⟨by decide, by decide⟩ dX12_sum_15 (fun pb2 => ?_) (fun pb2 => ?_)
    · skip
      refine z_if_eq (pc := 18) hO (tgt := 41) dX12_sum_18 (by decide) (by decide) (fun h => absurd h (by decide)) (fun _ => ?_)
      have hs1 := (hM.2 q (by omega) (by omega)).2.1
      have hq1 := (hM.2 q (by omega) (by omega)).1
      refine z_iload_n (pc := 21) hO 4 dX12_sum_21 rfl rfl ?_
      refine z_iconst (pc := 22) hO dX12_sum_22 ?_
      refine z_aload_n (pc := 23) hO 1 dX12_sum_23 rfl rfl ?_
      refine gf_X12_sideOf (pc := 24) hO f_X12_7 dX12_sum_24 ?_
      refine z_iload_n (pc := 27) hO 2 dX12_sum_27 rfl rfl ?_
      refine z_iald (pc := 28) hO isI_51 (by omega) dX12_sum_28 ?_
      refine z_iconst (pc := 29) hO dX12_sum_29 ?_
      refine z_isub (pc := 30) hO dX12_sum_30 ?_
      refine z_callSB (pc := 31) hO (As := [.int (zi line), .int (zi 0), .int (zi ((x 51 q) - 1))]) (st := []) (c_X12_in (qL Γ) g x line 0 ((x 51 q) - 1) (by first | assumption | omega) (by first | assumption | omega) (by first | assumption | omega)) k_X12_55 rfl (Nat.le_of_ble_eq_true rfl) (by decide) (by decide) ⟨by decide, by decide⟩ dX12_sum_31 (fun pb3 => ?_) (fun pb3 => ?_)
      · skip
        refine z_if_eq (pc := 34) hO (tgt := 41) dX12_sum_34 (by decide) (by decide) (fun h => absurd h (by decide)) (fun _ => ?_)
        refine z_iconst (pc := 37) hO dX12_sum_37 ?_
        refine z_goto (pc := 38) hO (tgt := 42) dX12_sum_38 (by decide) ?_
        refine z_istore (pc := 42) hO (lv' := [(5, .int (zi 1)), (4, .int (zi 1)), (0, .ref (gA g 50)), (1, .int (zi q)), (2, .int (zi kind)), (3, .int (zi line))]) dX12_sum_42 (by decide) rfl ?_
        refine z_aload_n (pc := 44) hO 2 dX12_sum_44 rfl rfl ?_
        refine z_iload (pc := 45) hO 1 dX12_sum_45 rfl ?_
        refine z_if_ne (pc := 47) hO (tgt := 54) dX12_sum_47 (by decide) (by decide) (fun _ => ?_) (fun h => absurd h (by decide))
        refine z_iload (pc := 54) hO 0 dX12_sum_54 rfl ?_
        refine z_if_ne (pc := 56) hO (tgt := 63) dX12_sum_56 (by decide) (by decide) (fun _ => ?_) (fun h => absurd h (by decide))
        refine z_iconst (pc := 63) hO dX12_sum_63 ?_
        refine z_callVIm (pc := 64) hO (As := [.int (zi 0)]) (st := []) (c_X12_isFine0 (qL Γ) g x 0 (by first | assumption | omega)) k_X12_63 isO_50 rfl (Nat.le_of_ble_eq_true rfl) (by decide) (by decide) ⟨by decide, by decide⟩ dX12_sum_64 (fun m4 e5 => ?_)
        refine z_if_eq (pc := 67) hO (tgt := 80) dX12_sum_67 (by decide) (by decide) (fun h => absurd h (by decide)) (fun _ => ?_)
        have hG := hM.2 q (by omega) (by omega)
        have hs := hG.2.1
        have hth : m4 = up x 50 0 0 := by assumption
        have e51 : m4 51 q = x 51 q := by rw [hth, up_i _ _ _ (by omega)]
        have end_ : nd m4 q = nd x q := by funext p; rw [hth]; exact nd_th
        refine z_aload_n (pc := 70) hO 2 dX12_sum_70 rfl rfl ?_
        refine z_iload_n (pc := 71) hO 3 dX12_sum_71 rfl rfl ?_
        refine z_iload_n (pc := 72) hO 4 dX12_sum_72 rfl rfl ?_
        refine z_iload_n (pc := 73) hO 5 dX12_sum_73 rfl rfl ?_
        refine z_callVIp (pc := 74) hO (As := [.int (zi q), .int (zi kind), .int (zi line)]) (st := []) (c_X12_sumOf (qL Γ) g m4 q kind line (by rw [hth]; exact MG_th hG) (by first | assumption | omega) (by rw [e51]; omega)) k_X12_97 isO_50 rfl (Nat.le_of_ble_eq_true rfl) (by decide) (by decide) ⟨by decide, by decide⟩ dX12_sum_74 ?_
        refine z_goto (pc := 77) hO (tgt := 81) dX12_sum_77 (by decide) ?_
        exact z_iret (pc := 81) hO hr hQ rfl dX12_sum_81 (by first | (refine ⟨?_, hth⟩; rw [e51, end_]; done) | (exfalso; omega))
      · skip
        exfalso; omega
    · skip
      exfalso; omega
  · skip
    exfalso; omega

