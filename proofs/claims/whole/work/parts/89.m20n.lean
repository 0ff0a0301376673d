set_option maxHeartbeats 4000000 in
theorem e_X12_change (l : Launch) (g : Gl) (x : Me) (q : Int) (ch : Int) (b : Int)  (hM : MS x) (r_q : -2147483648 ≤ q ∧ q < 2147483648) (r_ch : -2147483648 ≤ ch ∧ ch < 2147483648) (r_b : -2147483648 ≤ b ∧ b < 2147483648) (hno : ¬ ((0 ≤ q ∧ q < x 50 1) ∧ ((0 ≤ ch ∧ ch ≤ 5) ∧ 0 ≤ b ∧ b ≤ mby ch (x 51 q)) ∧ (ch = 2 → ∀ l, 0 ≤ l → l < (x 51 q * x 51 q) → nd x q l = 0 ∨ (1 ≤ b - nd x q l ∧ b - nd x q l ≤ 999)))) : ctQ l g yX12_change cX12_change 10 (some .int) 3 71 [.ref (gA g 50), .int (zi q), .int (zi ch), .int (zi b)] x (QIu g (fun z x' => z = 0 ∧ x' = up x 50 0 (exn (0 ≤ q ∧ q < x 50 1) ((0 ≤ ch ∧ ch ≤ 5) ∧ 0 ≤ b ∧ b ≤ mby ch (x 51 q)) 1 2 3))) := by
  refine ct_start (own := RX12) (lv := [(0, .ref (gA g 50)), (1, .int (zi q)), (2, .int (zi ch)), (3, .int (zi b))]) (plainFor_of_name (by decide)) rfl (Nat.le_of_ble_eq_true rfl) rfl ?_
  intro Γ hΓ hO hr hQ _
  have hM1 := hM.1
  refine z_aload_n (pc := 0) hO 0 dX12_change_0 rfl rfl ?_
  refine z_iload_n (pc := 1) hO 1 dX12_change_1 rfl rfl ?_
  refine z_callVB (pc := 2) hO (As := [.int (zi q)]) (st := []) (c_X12_isSquare (qL Γ) g x q (by first | assumption | omega) (by first | assumption | omega)) k_X12_59 isO_50 rfl (Nat.le_of_ble_eq_true rfl) (by decide) (by decide) ⟨by decide, by decide⟩ dX12_change_2 (fun pb1 => ?_) (fun pb1 => ?_)
  · skip
    refine z_istore (pc := 5) hO (lv' := [(4, .int (zi 1)), (0, .ref (gA g 50)), (1, .int (zi q)), (2, .int (zi ch)), (3, .int (zi b))]) dX12_change_5 (by decide) rfl ?_
    refine z_iload (pc := 7) hO 0 dX12_change_7 rfl ?_
    refine z_if_eq (pc := 9) hO (tgt := 39) dX12_change_9 (by decide) (by decide) (fun h => absurd h (by decide)) (fun _ => ?_)
    refine z_iload_n (pc := 12) hO 3 dX12_change_12 rfl rfl ?_
    refine z_iconst (pc := 13) hO dX12_change_13 ?_
    refine z_iconst (pc := 14) hO dX12_change_14 ?_
    refine z_callSB (pc := 15) hO (As := [.int (zi ch), .int (zi 0), .int (zi 5)]) (st := []) (c_X12_in (qL Γ) g x ch 0 5 (by first | assumption | omega) (by first | assumption | omega) (by first | assumption | omega)) k_X12_55 rfl (Nat.le_of_ble_eq_true rfl) (by decide) (by decide) ⟨by decide, by decide⟩ dX12_change_15 (fun pb2 => ?_) (fun pb2 => ?_)
    · skip
      refine z_if_eq (pc := 18) hO (tgt := 39) dX12_change_18 (by decide) (by decide) (fun h => absurd h (by decide)) (fun _ => ?_)
      refine z_iload_n (pc := 21) hO 4 dX12_change_21 rfl rfl ?_
      refine z_iconst (pc := 22) hO dX12_change_22 ?_
      refine z_aload_n (pc := 23) hO 1 dX12_change_23 rfl rfl ?_
      have hs1 := (hM.2 q (by omega) (by omega)).2.1
      have hq1 := (hM.2 q (by omega) (by omega)).1
      have hmb := mby_r (ch := ch) hs1
      refine z_iload_n (pc := 24) hO 2 dX12_change_24 rfl rfl ?_
      refine z_iload_n (pc := 25) hO 3 dX12_change_25 rfl rfl ?_
      refine z_callVIp (pc := 26) hO (As := [.int (zi q), .int (zi ch)]) (st := [.int (zi 0), .int (zi b)]) (c_X12_mostBy (qL Γ) g x q ch (by exact hM.2 q (by omega) (by omega)) (by first | assumption | omega)) k_X12_128 isO_50 rfl (Nat.le_of_ble_eq_true rfl) (by decide) (by decide) ⟨by decide, by decide⟩ dX12_change_26 ?_
      refine z_callSB (pc := 29) hO (As := [.int (zi b), .int (zi 0), .int (zi (mby ch (x 51 q)))]) (st := []) (c_X12_in (qL Γ) g x b 0 (mby ch (x 51 q)) (by first | assumption | omega) (by first | assumption | omega) (by first | assumption | omega)) k_X12_55 rfl (Nat.le_of_ble_eq_true rfl) (by decide) (by decide) ⟨by decide, by decide⟩ dX12_change_29 (fun pb3 => ?_) (fun pb3 => ?_)
      · skip
        refine z_if_eq (pc := 32) hO (tgt := 39) dX12_change_32 (by decide) (by decide) (fun h => absurd h (by decide)) (fun _ => ?_)
        refine z_iconst (pc := 35) hO dX12_change_35 ?_
        refine z_goto (pc := 36) hO (tgt := 40) dX12_change_36 (by decide) ?_
        refine z_istore (pc := 40) hO (lv' := [(5, .int (zi 1)), (4, .int (zi 1)), (0, .ref (gA g 50)), (1, .int (zi q)), (2, .int (zi ch)), (3, .int (zi b))]) dX12_change_40 (by decide) rfl ?_
        refine z_aload_n (pc := 42) hO 2 dX12_change_42 rfl rfl ?_
        refine z_iload (pc := 43) hO 1 dX12_change_43 rfl ?_
        refine z_if_ne (pc := 45) hO (tgt := 52) dX12_change_45 (by decide) (by decide) (fun _ => ?_) (fun h => absurd h (by decide))
        refine z_iload (pc := 52) hO 0 dX12_change_52 rfl ?_
        refine z_if_ne (pc := 54) hO (tgt := 61) dX12_change_54 (by decide) (by decide) (fun _ => ?_) (fun h => absurd h (by decide))
        refine z_iload_n (pc := 61) hO 4 dX12_change_61 rfl rfl ?_
        refine z_iconst (pc := 62) hO dX12_change_62 ?_
        refine z_icmp_ne (pc := 63) hO (tgt := 79) dX12_change_63 (by decide) (by omega) (by omega) (fun b4 => ?_) (fun b4 => ?_)
        · refine z_iconst (pc := 79) hO dX12_change_79 ?_
          refine z_callVIm (pc := 80) hO (As := [.int (zi 0)]) (st := []) (c_X12_isFine0 (qL Γ) g x 0 (by first | assumption | omega)) k_X12_63 isO_50 rfl (Nat.le_of_ble_eq_true rfl) (by decide) (by decide) ⟨by decide, by decide⟩ dX12_change_80 (fun m5 e6 => ?_)
          refine z_if_ne (pc := 83) hO (tgt := 88) dX12_change_83 (by decide) (by decide) (fun _ => ?_) (fun h => absurd h (by decide))
          first | (exfalso; omega) | exact absurd ⟨by omega, by omega, fun e => absurd e (by omega)⟩ hno | exact absurd ⟨by omega, by omega, fun _ => hpb⟩ hno
        · refine z_aload_n (pc := 66) hO 2 dX12_change_66 rfl rfl ?_
          refine z_iload_n (pc := 67) hO 3 dX12_change_67 rfl rfl ?_
          refine z_iload_n (pc := 68) hO 5 dX12_change_68 rfl rfl ?_
          refine z_callVB (pc := 69) hO (As := [.int (zi q), .int (zi b)]) (st := [.ref (gA g 50)]) (c_X12_canComplement (qL Γ) g x q b (by exact hM.2 q (by omega) (by omega)) (by omega)) k_X12_131 isO_50 rfl (Nat.le_of_ble_eq_true rfl) (by decide) (by decide) ⟨by decide, by decide⟩ dX12_change_69 (fun pb7 => ?_) (fun pb7 => ?_)
          · skip
            have hpb := pb7
            refine z_if_ne (pc := 72) hO (tgt := 79) dX12_change_72 (by decide) (by decide) (fun _ => ?_) (fun h => absurd h (by decide))
            refine z_iconst (pc := 79) hO dX12_change_79 ?_
            refine z_callVIm (pc := 80) hO (As := [.int (zi 0)]) (st := []) (c_X12_isFine0 (qL Γ) g x 0 (by first | assumption | omega)) k_X12_63 isO_50 rfl (Nat.le_of_ble_eq_true rfl) (by decide) (by decide) ⟨by decide, by decide⟩ dX12_change_80 (fun m8 e9 => ?_)
            refine z_if_ne (pc := 83) hO (tgt := 88) dX12_change_83 (by decide) (by decide) (fun _ => ?_) (fun h => absurd h (by decide))
            first | (exfalso; omega) | exact absurd ⟨by omega, by omega, fun e => absurd e (by omega)⟩ hno | exact absurd ⟨by omega, by omega, fun _ => hpb⟩ hno
          · skip
            have hpb := pb7
            refine z_if_ne (pc := 72) hO (tgt := 79) dX12_change_72 (by decide) (by decide) (fun h => absurd h (by decide)) (fun _ => ?_)
            refine z_iconst (pc := 75) hO dX12_change_75 ?_
            refine z_goto (pc := 76) hO (tgt := 80) dX12_change_76 (by decide) ?_
            refine z_callVIm (pc := 80) hO (As := [.int (zi 3)]) (st := []) (c_X12_isFine1 (qL Γ) g x 3 (by first | assumption | omega)) k_X12_63 isO_50 rfl (Nat.le_of_ble_eq_true rfl) (by decide) (by decide) ⟨by decide, by decide⟩ dX12_change_80 (fun m10 e11 => ?_)
            refine z_if_ne (pc := 83) hO (tgt := 88) dX12_change_83 (by decide) (by decide) (fun h => absurd h (by decide)) (fun _ => ?_)
            refine z_iconst (pc := 86) hO dX12_change_86 ?_
            exact z_iret (pc := 87) hO hr hQ rfl dX12_change_87 (by first | (refine ⟨rfl, ?_⟩; first | (rw [exn_1 (by omega)]; assumption) | (rw [exn_2 (by first | trivial | omega) (by omega)]; assumption) | (rw [exn_3 (by first | trivial | omega) (by first | trivial | omega)]; assumption); done) | (exfalso; omega))
      · skip
        refine z_if_eq (pc := 32) hO (tgt := 39) dX12_change_32 (by decide) (by decide) (fun _ => ?_) (fun h => absurd h (by decide))
        refine z_iconst (pc := 39) hO dX12_change_39 ?_
        refine z_istore (pc := 40) hO (lv' := [(5, .int (zi 0)), (4, .int (zi 1)), (0, .ref (gA g 50)), (1, .int (zi q)), (2, .int (zi ch)), (3, .int (zi b))]) dX12_change_40 (by decide) rfl ?_
        refine z_aload_n (pc := 42) hO 2 dX12_change_42 rfl rfl ?_
        refine z_iload (pc := 43) hO 1 dX12_change_43 rfl ?_
        refine z_if_ne (pc := 45) hO (tgt := 52) dX12_change_45 (by decide) (by decide) (fun _ => ?_) (fun h => absurd h (by decide))
        refine z_iload (pc := 52) hO 0 dX12_change_52 rfl ?_
        refine z_if_ne (pc := 54) hO (tgt := 61) dX12_change_54 (by decide) (by decide) (fun h => absurd h (by decide)) (fun _ => ?_)
        refine z_iconst (pc := 57) hO dX12_change_57 ?_
        refine z_goto (pc := 58) hO (tgt := 80) dX12_change_58 (by decide) ?_
        refine z_callVIm (pc := 80) hO (As := [.int (zi 2)]) (st := []) (c_X12_isFine1 (qL Γ) g x 2 (by first | assumption | omega)) k_X12_63 isO_50 rfl (Nat.le_of_ble_eq_true rfl) (by decide) (by decide) ⟨by decide, by decide⟩ dX12_change_80 (fun m12 e13 => ?_)
        refine z_if_ne (pc := 83) hO (tgt := 88) dX12_change_83 (by decide) (by decide) (fun h => absurd h (by decide)) (fun _ => ?_)
        refine z_iconst (pc := 86) hO dX12_change_86 ?_
        exact z_iret (pc := 87) hO hr hQ rfl dX12_change_87 (by first | (refine ⟨rfl, ?_⟩; first | (rw [exn_1 (by omega)]; assumption) | (rw [exn_2 (by first | trivial | omega) (by omega)]; assumption) | (rw [exn_3 (by first | trivial | omega) (by first | trivial | omega)]; assumption); done) | (exfalso; omega))
    · skip
      refine z_if_eq (pc := 18) hO (tgt := 39) dX12_change_18 (by decide) (by decide) (fun _ => ?_) (fun h => absurd h (by decide))
      refine z_iconst (pc := 39) hO dX12_change_39 ?_
      refine z_istore (pc := 40) hO (lv' := [(5, .int (zi 0)), (4, .int (zi 1)), (0, .ref (gA g 50)), (1, .int (zi q)), (2, .int (zi ch)), (3, .int (zi b))]) dX12_change_40 (by decide) rfl ?_
      refine z_aload_n (pc := 42) hO 2 dX12_change_42 rfl rfl ?_
      refine z_iload (pc := 43) hO 1 dX12_change_43 rfl ?_
      refine z_if_ne (pc := 45) hO (tgt := 52) dX12_change_45 (by decide) (by decide) (fun _ => ?_) (fun h => absurd h (by decide))
      refine z_iload (pc := 52) hO 0 dX12_change_52 rfl ?_
      refine z_if_ne (pc := 54) hO (tgt := 61) dX12_change_54 (by decide) (by decide) (fun h => absurd h (by decide)) (fun _ => ?_)
      refine z_iconst (pc := 57) hO dX12_change_57 ?_
      refine z_goto (pc := 58) hO (tgt := 80) dX12_change_58 (by decide) ?_
      refine z_callVIm (pc := 80) hO (As := [.int (zi 2)]) (st := []) (c_X12_isFine1 (qL Γ) g x 2 (by first | assumption | omega)) k_X12_63 isO_50 rfl (Nat.le_of_ble_eq_true rfl) (by decide) (by decide) ⟨by decide, by decide⟩ dX12_change_80 (fun m14 e15 => ?_)
      refine z_if_ne (pc := 83) hO (tgt := 88) dX12_change_83 (by decide) (by decide) (fun h => absurd h (by decide)) (fun _ => ?_)
      refine z_iconst (pc := 86) hO dX12_change_86 ?_
      exact z_iret (pc := 87) hO hr hQ rfl dX12_change_87 (by first | (refine ⟨rfl, ?_⟩; first | (rw [exn_1 (by omega)]; assumption) | (rw [exn_2 (by first | trivial | omega) (by omega)]; assumption) | (rw [exn_3 (by first | trivial | omega) (by first | trivial | omega)]; assumption); done) | (exfalso; omega))
  · skip
    refine z_istore (pc := 5) hO (lv' := [(4, .int (zi 0)), (0, .ref (gA g 50)), (1, .int (zi q)), (2, .int (zi ch)), (3, .int (zi b))]) dX12_change_5 (by decide) rfl ?_
    refine z_iload (pc := 7) hO 0 dX12_change_7 rfl ?_
    refine z_if_eq (pc := 9) hO (tgt := 39) dX12_change_9 (by decide) (by decide) (fun _ => ?_) (fun h => absurd h (by decide))
    refine z_iconst (pc := 39) hO dX12_change_39 ?_
    refine z_istore (pc := 40) hO (lv' := [(5, .int (zi 0)), (4, .int (zi 0)), (0, .ref (gA g 50)), (1, .int (zi q)), (2, .int (zi ch)), (3, .int (zi b))]) dX12_change_40 (by decide) rfl ?_
    refine z_aload_n (pc := 42) hO 2 dX12_change_42 rfl rfl ?_
    refine z_iload (pc := 43) hO 1 dX12_change_43 rfl ?_
    refine z_if_ne (pc := 45) hO (tgt := 52) dX12_change_45 (by decide) (by decide) (fun h => absurd h (by decide)) (fun _ => ?_)
    refine z_iconst (pc := 48) hO dX12_change_48 ?_
    refine z_goto (pc := 49) hO (tgt := 80) dX12_change_49 (by decide) ?_
    refine z_callVIm (pc := 80) hO (As := [.int (zi 1)]) (st := []) (c_X12_isFine1 (qL Γ) g x 1 (by first | assumption | omega)) k_X12_63 isO_50 rfl (Nat.le_of_ble_eq_true rfl) (by decide) (by decide) ⟨by decide, by decide⟩ dX12_change_80 (fun m16 e17 => ?_)
    refine z_if_ne (pc := 83) hO (tgt := 88) dX12_change_83 (by decide) (by decide) (fun h => absurd h (by decide)) (fun _ => ?_)
    refine z_iconst (pc := 86) hO dX12_change_86 ?_
    exact z_iret (pc := 87) hO hr hQ rfl dX12_change_87 (by first | (refine ⟨rfl, ?_⟩; first | (rw [exn_1 (by omega)]; assumption) | (rw [exn_2 (by first | trivial | omega) (by omega)]; assumption) | (rw [exn_3 (by first | trivial | omega) (by first | trivial | omega)]; assumption); done) | (exfalso; omega))

set_option maxHeartbeats 4000000 in
theorem c_X12_change (l : Launch) (g : Gl) (x : Me) (q : Int) (ch : Int) (b : Int)  (hM : MS x) (r_q : -2147483648 ≤ q ∧ q < 2147483648) (r_ch : -2147483648 ≤ ch ∧ ch < 2147483648) (r_b : -2147483648 ≤ b ∧ b < 2147483648) (hok : (0 ≤ q ∧ q < x 50 1) ∧ ((0 ≤ ch ∧ ch ≤ 5) ∧ 0 ≤ b ∧ b ≤ mby ch (x 51 q)) ∧ (ch = 2 → ∀ l, 0 ≤ l → l < (x 51 q * x 51 q) → nd x q l = 0 ∨ (1 ≤ b - nd x q l ∧ b - nd x q l ≤ 999))) : ctQ l g yX12_change cX12_change 10 (some .int) 3 71 [.ref (gA g 50), .int (zi q), .int (zi ch), .int (zi b)] x (QIu g (fun z x' => z = chg (x 51 q) (nd x q) (cha (x 51 q) (nd x q) ch b) ∧ CM x x' q (cha (x 51 q) (nd x q) ch b))) := by
  refine ct_start (own := RX12) (lv := [(0, .ref (gA g 50)), (1, .int (zi q)), (2, .int (zi ch)), (3, .int (zi b))]) (plainFor_of_name (by decide)) rfl (Nat.le_of_ble_eq_true rfl) rfl ?_
  intro Γ hΓ hO hr hQ _
  have hM1 := hM.1
  refine z_aload_n (pc := 0) hO 0 dX12_change_0 rfl rfl ?_
  refine z_iload_n (pc := 1) hO 1 dX12_change_1 rfl rfl ?_
  refine z_callVB (pc := 2) hO (As := [.int (zi q)]) (st := []) (c_X12_isSquare (qL Γ) g x q (by first | assumption | omega) (by first | assumption | omega)) k_X12_59 isO_50 rfl (Nat.le_of_ble_eq_true rfl) (by decide) (by decide) ⟨by decide, by decide⟩ dX12_change_2 (fun pb1 => ?_) (fun pb1 => ?_)
  · skip
    refine z_istore (pc := 5) hO (lv' := [(4, .int (zi 1)), (0, .ref (gA g 50)), (1, .int (zi q)), (2, .int (zi ch)), (3, .int (zi b))]) dX12_change_5 (by decide) rfl ?_
    refine z_iload (pc := 7) hO 0 dX12_change_7 rfl ?_
    refine z_if_eq (pc := 9) hO (tgt := 39) dX12_change_9 (by decide) (by decide) (fun h => absurd h (by decide)) (fun _ => ?_)
    refine z_iload_n (pc := 12) hO 3 dX12_change_12 rfl rfl ?_
    refine z_iconst (pc := 13) hO dX12_change_13 ?_
    refine z_iconst (pc := 14) hO dX12_change_14 ?_
    refine z_callSB (pc := 15) hO (As := [.int (zi ch), .int (zi 0), .int (zi 5)]) (st := []) (c_X12_in (qL Γ) g x ch 0 5 (by first | assumption | omega) (by first | assumption | omega) (by first | assumption | omega)) k_X12_55 rfl (Nat.le_of_ble_eq_true rfl) (by decide) (by decide) ⟨by decide, by decide⟩ dX12_change_15 (fun pb2 => ?_) (fun pb2 => ?_)
    · skip
      refine z_if_eq (pc := 18) hO (tgt := 39) dX12_change_18 (by decide) (by decide) (fun h => absurd h (by decide)) (fun _ => ?_)
      refine z_iload_n (pc := 21) hO 4 dX12_change_21 rfl rfl ?_
      refine z_iconst (pc := 22) hO dX12_change_22 ?_
      refine z_aload_n (pc := 23) hO 1 dX12_change_23 rfl rfl ?_
      have hs1 := (hM.2 q (by omega) (by omega)).2.1
      have hq1 := (hM.2 q (by omega) (by omega)).1
      have hmb := mby_r (ch := ch) hs1
      refine z_iload_n (pc := 24) hO 2 dX12_change_24 rfl rfl ?_
      refine z_iload_n (pc := 25) hO 3 dX12_change_25 rfl rfl ?_
      refine z_callVIp (pc := 26) hO (As := [.int (zi q), .int (zi ch)]) (st := [.int (zi 0), .int (zi b)]) (c_X12_mostBy (qL Γ) g x q ch (by exact hM.2 q (by omega) (by omega)) (by first | assumption | omega)) k_X12_128 isO_50 rfl (Nat.le_of_ble_eq_true rfl) (by decide) (by decide) ⟨by decide, by decide⟩ dX12_change_26 ?_
      refine z_callSB (pc := 29) hO (As := [.int (zi b), .int (zi 0), .int (zi (mby ch (x 51 q)))]) (st := []) (c_X12_in (qL Γ) g x b 0 (mby ch (x 51 q)) (by first | assumption | omega) (by first | assumption | omega) (by first | assumption | omega)) k_X12_55 rfl (Nat.le_of_ble_eq_true rfl) (by decide) (by decide) ⟨by decide, by decide⟩ dX12_change_29 (fun pb3 => ?_) (fun pb3 => ?_)
      · skip
        refine z_if_eq (pc := 32) hO (tgt := 39) dX12_change_32 (by decide) (by decide) (fun h => absurd h (by decide)) (fun _ => ?_)
        refine z_iconst (pc := 35) hO dX12_change_35 ?_
        refine z_goto (pc := 36) hO (tgt := 40) dX12_change_36 (by decide) ?_
        refine z_istore (pc := 40) hO (lv' := [(5, .int (zi 1)), (4, .int (zi 1)), (0, .ref (gA g 50)), (1, .int (zi q)), (2, .int (zi ch)), (3, .int (zi b))]) dX12_change_40 (by decide) rfl ?_
        refine z_aload_n (pc := 42) hO 2 dX12_change_42 rfl rfl ?_
        refine z_iload (pc := 43) hO 1 dX12_change_43 rfl ?_
        refine z_if_ne (pc := 45) hO (tgt := 52) dX12_change_45 (by decide) (by decide) (fun _ => ?_) (fun h => absurd h (by decide))
        refine z_iload (pc := 52) hO 0 dX12_change_52 rfl ?_
        refine z_if_ne (pc := 54) hO (tgt := 61) dX12_change_54 (by decide) (by decide) (fun _ => ?_) (fun h => absurd h (by decide))
        refine z_iload_n (pc := 61) hO 4 dX12_change_61 rfl rfl ?_
        refine z_iconst (pc := 62) hO dX12_change_62 ?_
        refine z_icmp_ne (pc := 63) hO (tgt := 79) dX12_change_63 (by decide) (by omega) (by omega) (fun b4 => ?_) (fun b4 => ?_)
        · refine z_iconst (pc := 79) hO dX12_change_79 ?_
          refine z_callVIm (pc := 80) hO (As := [.int (zi 0)]) (st := []) (c_X12_isFine0 (qL Γ) g x 0 (by first | assumption | omega)) k_X12_63 isO_50 rfl (Nat.le_of_ble_eq_true rfl) (by decide) (by decide) ⟨by decide, by decide⟩ dX12_change_80 (fun m5 e6 => ?_)
          refine z_if_ne (pc := 83) hO (tgt := 88) dX12_change_83 (by decide) (by decide) (fun _ => ?_) (fun h => absurd h (by decide))
          have hG := hM.2 q (by omega) (by omega)
          have hs := hG.2.1
          have hth : m5 = up x 50 0 0 := by assumption
          have e51 : m5 51 q = x 51 q := by rw [hth, up_i _ _ _ (by omega)]
          have end_ : nd m5 q = nd x q := by funext p; rw [hth]; exact nd_th
          have hsq := sq9 hs
          have hN := nd_rng hG
          obtain ⟨w, hw⟩ : ∃ w : Me, w = m5 := ⟨_, rfl⟩
          have hw51 : w 51 = x 51 := by rw [hw, hth, up_i _ _ _ (by omega)]
          have hw52 : w 52 = x 52 := by rw [hw, hth, up_i _ _ _ (by omega)]
          have hw500 : w 50 0 = 0 := by rw [hw, hth, up_s]
          have hw501 : w 50 1 = x 50 1 := by rw [hw, hth, up_n _ _ (by omega)]
          have hwf : ∀ a, a < 50 ∨ 62 < a → w a = x a := fun a ha => by rw [hw, hth, up_i _ _ _ (by omega)]
          refine z_aload_n (pc := 88) hO 2 dX12_change_88 rfl rfl ?_
          refine gf_X12_sideOf (pc := 89) hO f_X12_7 dX12_change_89 ?_
          refine z_iload_n (pc := 92) hO 3 dX12_change_92 rfl rfl ?_
          refine z_iald (pc := 93) hO isI_51 (by omega) dX12_change_93 ?_
          rw [e51]
          refine z_istore (pc := 94) hO (lv' := [(6, .int (zi (x 51 q))), (5, .int (zi 1)), (4, .int (zi 1)), (0, .ref (gA g 50)), (1, .int (zi q)), (2, .int (zi ch)), (3, .int (zi b))]) dX12_change_94 (by decide) rfl ?_
          refine z_iconst (pc := 96) hO dX12_change_96 ?_
          refine z_istore (pc := 97) hO (lv' := [(7, .int (zi 0)), (6, .int (zi (x 51 q))), (5, .int (zi 1)), (4, .int (zi 1)), (0, .ref (gA g 50)), (1, .int (zi q)), (2, .int (zi ch)), (3, .int (zi b))]) dX12_change_97 (by decide) rfl ?_
          refine z_iconst (pc := 99) hO dX12_change_99 ?_
          refine z_istore (pc := 100) hO (lv' := [(8, .int (zi 0)), (7, .int (zi 0)), (6, .int (zi (x 51 q))), (5, .int (zi 1)), (4, .int (zi 1)), (0, .ref (gA g 50)), (1, .int (zi q)), (2, .int (zi ch)), (3, .int (zi b))]) dX12_change_100 (by decide) rfl ?_
          have L102 : ∀ (N : Nat) (w9 : Int) (i : Int) (y : Me), (x 51 q * x 51 q - i).toNat < N → (0 ≤ i ∧ i ≤ x 51 q * x 51 q) → (∀ p, 0 ≤ p → p < i → y 53 p = (cha (x 51 q) (nd x q) ch b) p) → (w9 = sm (fun p => if (cha (x 51 q) (nd x q) ch b) p = nd x q p then 0 else 1) i.toNat) → (∀ a, a ≠ 53 → y a = w a) → Zz Γ g 10 0 0 y 102 [(0, .ref (gA g 50)), (1, .int (zi q)), (2, .int (zi ch)), (3, .int (zi b)), (4, .int (zi 1)), (5, .int (zi 1)), (6, .int (zi (x 51 q))), (7, .int (zi w9)), (8, .int (zi i))] [] := by
            intro N
            induction N with
            | zero => intro w9 i y hm; exact absurd hm (Nat.not_lt_zero _)
            | succ N ih102 =>
              intro w9 i y hm h0 hA hC hfr
              refine z_iload (pc := 102) hO 8 dX12_change_102 rfl ?_
              refine z_iload (pc := 104) hO 6 dX12_change_104 rfl ?_
              refine z_iload (pc := 106) hO 6 dX12_change_106 rfl ?_
              refine z_imul (pc := 108) hO dX12_change_108 ?_
              refine z_icmp_ge (pc := 109) hO (tgt := 201) dX12_change_109 (by decide) (by omega) (by omega) (fun b7 => ?_) (fun b7 => ?_)
              · refine z_iconst (pc := 201) hO dX12_change_201 ?_
                refine z_istore (pc := 202) hO (lv' := [(8, .int (zi 0)), (0, .ref (gA g 50)), (1, .int (zi q)), (2, .int (zi ch)), (3, .int (zi b)), (4, .int (zi 1)), (5, .int (zi 1)), (6, .int (zi (x 51 q))), (7, .int (zi w9))]) dX12_change_202 (by decide) rfl ?_
                have L204 : ∀ (N : Nat) (k : Int) (v : Me), (x 51 q * x 51 q - k).toNat < N → (0 ≤ k ∧ k ≤ x 51 q * x 51 q) → (∀ p, 0 ≤ p → p < k → v 52 (81 * q + p) = (cha (x 51 q) (nd x q) ch b) p) → (∀ j, ¬ (81 * q ≤ j ∧ j < 81 * q + k) → v 52 j = w 52 j) → (∀ a, a ≠ 52 → v a = y a) → Zz Γ g 10 0 0 v 204 [(0, .ref (gA g 50)), (1, .int (zi q)), (2, .int (zi ch)), (3, .int (zi b)), (4, .int (zi 1)), (5, .int (zi 1)), (6, .int (zi (x 51 q))), (7, .int (zi w9)), (8, .int (zi k))] [] := by
                  intro N
                  induction N with
                  | zero => intro k v hm; exact absurd hm (Nat.not_lt_zero _)
                  | succ N ih204 =>
                    intro k v hm h2 kA kB kf
                    refine z_iload (pc := 204) hO 8 dX12_change_204 rfl ?_
                    refine z_iload (pc := 206) hO 6 dX12_change_206 rfl ?_
                    refine z_iload (pc := 208) hO 6 dX12_change_208 rfl ?_
                    refine z_imul (pc := 210) hO dX12_change_210 ?_
                    refine z_icmp_ge (pc := 211) hO (tgt := 239) dX12_change_211 (by decide) (by omega) (by omega) (fun b8 => ?_) (fun b8 => ?_)
                    · refine z_iload (pc := 239) hO 7 dX12_change_239 rfl ?_
                      exact z_iret (pc := 241) hO hr hQ rfl dX12_change_241 (by first | (refine ⟨by rw [hC]; unfold chg; congr 2; omega, ?_⟩; obtain rfl : k = x 51 q * x 51 q := (by omega); exact CM_of (w := up y 52 0 (y 52 0)) hq1 (by omega) (by rw [up_i _ _ _ (by omega), hfr 50 (by omega)]; exact hw500) (by rw [up_i _ _ _ (by omega), hfr 50 (by omega)]; exact hw501) (by rw [up_i _ _ _ (by omega), hfr 51 (by omega)]; exact hw51) (by rw [up_same, hfr 52 (by omega)]; exact hw52) (fun a ha => by rw [up_i _ _ _ (by omega), hfr a (by omega)]; exact hwf a ha) (fun a ha => by rw [up_i _ _ _ ha]; exact kf a ha) kA (fun j hj => by rw [up_same]; rw [kB j hj, hfr 52 (by omega)]) (fun p hp => cha_out hp); done) | (exfalso; omega))
                    · refine z_aload_n (pc := 214) hO 0 dX12_change_214 rfl rfl ?_
                      refine gf_X12_numbers (pc := 215) hO f_X12_13 dX12_change_215 ?_
                      refine z_bipush (pc := 218) hO dX12_change_218 (by decide) ?_
                      refine z_iload_n (pc := 220) hO 1 dX12_change_220 rfl rfl ?_
                      refine z_imul (pc := 221) hO dX12_change_221 ?_
                      refine z_iload (pc := 222) hO 8 dX12_change_222 rfl ?_
                      refine z_iadd (pc := 224) hO dX12_change_224 ?_
                      refine z_aload_n (pc := 225) hO 0 dX12_change_225 rfl rfl ?_
                      refine gf_X12_made (pc := 226) hO f_X12_16 dX12_change_226 ?_
                      refine z_iload (pc := 229) hO 8 dX12_change_229 rfl ?_
                      refine z_iald (pc := 231) hO isI_53 (by omega) dX12_change_231 ?_
                      refine z_iast (pc := 232) hO isI_52 (by omega) dX12_change_232 (fun m9 e10 => ?_)
                      refine z_iinc (pc := 233) hO 8 (lv' := [(8, .int (zi (k + 1))), (0, .ref (gA g 50)), (1, .int (zi q)), (2, .int (zi ch)), (3, .int (zi b)), (4, .int (zi 1)), (5, .int (zi 1)), (6, .int (zi (x 51 q))), (7, .int (zi w9))]) dX12_change_233 rfl (by decide) rfl ?_
                      refine z_goto (pc := 236) hO (tgt := 204) dX12_change_236 (by decide) ?_
                      refine z_sub [1, 2, 3, 4, 5, 6, 7, 8, 0] rfl ?_
                      exact ih204 (k + 1) m9 (by omega) (by omega) (by intro p a c; subst m9; exact dite (p = k) (fun e => by rw [e, up_s, kf 53 (by omega)]; exact hA k (by omega) (by omega)) (fun e => by rw [up_n _ _ (by omega)]; exact kA p a (by omega))) (by intro j a; subst m9; rw [up_n _ _ (by omega)]; exact kB j (by omega)) (by intro a ha; subst m9; rw [up_i _ _ _ ha]; exact kf a ha)
                refine z_sub [1, 2, 3, 4, 5, 6, 7, 8, 0] rfl ?_
                exact L204 _ 0 y (Nat.lt_succ_self _) (by omega) (by intro p a c; omega) (by intro j _; rw [hfr 52 (by omega)]) (by intro a _; rfl)
              · have y52 : y 52 = x 52 := by rw [hfr 52 (by omega), hw52]
                have g1 : nd x q i = y 52 (81 * q + i) := by rw [y52]; exact nd_in (by omega)
                have n1 := hN i
                have ha1 := ahd_rng (ch := ch) (b := b) hs (p := i) (by omega)
                have g4 : nd x q (ahd (x 51 q) ch b i) = y 52 (81 * q + ahd (x 51 q) ch b i) := by rw [y52]; exact nd_in (by omega)
                have n4 := hN (ahd (x 51 q) ch b i)
                refine z_aload_n (pc := 112) hO 0 dX12_change_112 rfl rfl ?_
                refine gf_X12_numbers (pc := 113) hO f_X12_13 dX12_change_113 ?_
                refine z_bipush (pc := 116) hO dX12_change_116 (by decide) ?_
                refine z_iload_n (pc := 118) hO 1 dX12_change_118 rfl rfl ?_
                refine z_imul (pc := 119) hO dX12_change_119 ?_
                refine z_iload (pc := 120) hO 8 dX12_change_120 rfl ?_
                refine z_iadd (pc := 122) hO dX12_change_122 ?_
                refine z_iald (pc := 123) hO isI_52 (by omega) dX12_change_123 ?_
                refine z_istore (pc := 124) hO (lv' := [(9, .int (zi (y 52 ((81 * q) + i)))), (0, .ref (gA g 50)), (1, .int (zi q)), (2, .int (zi ch)), (3, .int (zi b)), (4, .int (zi 1)), (5, .int (zi 1)), (6, .int (zi (x 51 q))), (7, .int (zi w9)), (8, .int (zi i))]) dX12_change_124 (by decide) rfl ?_
                refine z_aload_n (pc := 126) hO 1 dX12_change_126 rfl rfl ?_
                refine gf_X12_made (pc := 127) hO f_X12_16 dX12_change_127 ?_
                refine z_iload (pc := 130) hO 9 dX12_change_130 rfl ?_
                refine z_iload_n (pc := 132) hO 3 dX12_change_132 rfl rfl ?_
                refine z_iconst (pc := 133) hO dX12_change_133 ?_
                refine z_icmp_eq (pc := 134) hO (tgt := 159) dX12_change_134 (by decide) (by omega) (by omega) (fun b11 => ?_) (fun b11 => ?_)
                · refine z_iload (pc := 159) hO 0 dX12_change_159 rfl ?_
                  refine z_if_ne (pc := 161) hO (tgt := 168) dX12_change_161 (by decide) (by omega) (fun b12 => ?_) (fun b12 => ?_)
                  · refine z_iload_n (pc := 168) hO 4 dX12_change_168 rfl rfl ?_
                    refine z_iload (pc := 169) hO 0 dX12_change_169 rfl ?_
                    refine z_isub (pc := 171) hO dX12_change_171 ?_
                    refine z_iast (pc := 172) hO isI_53 (by omega) dX12_change_172 (fun m13 e14 => ?_)
                    have hst : m13 53 i = (cha (x 51 q) (nd x q) ch b) i := by rw [e14, up_s]; first | (rw [cha_m (by omega) (by omega), g4]; done) | (rw [cha_c (by omega) (by omega), if_pos (by omega)]; done) | (rw [cha_c (by omega) (by omega), if_neg (by omega), g1]; done)
                    have hsr : -1000 ≤ m13 53 i ∧ m13 53 i ≤ 2000 := by rw [e14, up_s]; omega
                    have hs52 : m13 52 = y 52 := by rw [e14, up_i _ _ _ (by omega)]
                    refine z_iload (pc := 173) hO 8 dX12_change_173 rfl ?_
                    refine z_aload_n (pc := 175) hO 1 dX12_change_175 rfl rfl ?_
                    refine gf_X12_made (pc := 176) hO f_X12_16 dX12_change_176 ?_
                    refine z_iload (pc := 179) hO 9 dX12_change_179 rfl ?_
                    refine z_iald (pc := 181) hO isI_53 (by omega) dX12_change_181 ?_
                    refine z_iload (pc := 182) hO 0 dX12_change_182 rfl ?_
                    refine z_icmp_ne (pc := 184) hO (tgt := 191) dX12_change_184 (by decide) (by omega) (by omega) (fun b15 => ?_) (fun b15 => ?_)
                    · refine z_iconst (pc := 191) hO dX12_change_191 ?_
                      refine z_iadd (pc := 192) hO dX12_change_192 ?_
                      refine z_istore (pc := 193) hO (lv' := [(7, .int (zi (w9 + 1))), (9, .int (zi (y 52 ((81 * q) + i)))), (0, .ref (gA g 50)), (1, .int (zi q)), (2, .int (zi ch)), (3, .int (zi b)), (4, .int (zi 1)), (5, .int (zi 1)), (6, .int (zi (x 51 q))), (8, .int (zi i))]) dX12_change_193 (by decide) rfl ?_
                      refine z_iinc (pc := 195) hO 9 (lv' := [(8, .int (zi (i + 1))), (7, .int (zi (w9 + 1))), (9, .int (zi (y 52 ((81 * q) + i)))), (0, .ref (gA g 50)), (1, .int (zi q)), (2, .int (zi ch)), (3, .int (zi b)), (4, .int (zi 1)), (5, .int (zi 1)), (6, .int (zi (x 51 q)))]) dX12_change_195 rfl (by decide) rfl ?_
                      refine z_goto (pc := 198) hO (tgt := 102) dX12_change_198 (by decide) ?_
                      refine z_sub [3, 4, 5, 6, 7, 8, 9, 1, 0] rfl ?_
                      exact ih102 (w9 + 1) (i + 1) m13 (by omega) (by omega) (by intro p a c; subst m13; exact dite (p = i) (fun e => by rw [e]; exact hst) (fun e => by rw [up_n _ _ (by omega)]; exact hA p a (by omega))) (by rw [sm_s _ h0.1, ← hC]; first | (rw [if_pos (by omega)]; done) | (rw [if_neg (by omega)]; done)) (by intro a ha; subst m13; rw [up_i _ _ _ ha]; exact hfr a ha)
                    · refine z_iconst (pc := 187) hO dX12_change_187 ?_
                      refine z_goto (pc := 188) hO (tgt := 192) dX12_change_188 (by decide) ?_
                      refine z_iadd (pc := 192) hO dX12_change_192 ?_
                      refine z_istore (pc := 193) hO (lv' := [(7, .int (zi (w9 + 0))), (9, .int (zi (y 52 ((81 * q) + i)))), (0, .ref (gA g 50)), (1, .int (zi q)), (2, .int (zi ch)), (3, .int (zi b)), (4, .int (zi 1)), (5, .int (zi 1)), (6, .int (zi (x 51 q))), (8, .int (zi i))]) dX12_change_193 (by decide) rfl ?_
                      refine z_iinc (pc := 195) hO 9 (lv' := [(8, .int (zi (i + 1))), (7, .int (zi (w9 + 0))), (9, .int (zi (y 52 ((81 * q) + i)))), (0, .ref (gA g 50)), (1, .int (zi q)), (2, .int (zi ch)), (3, .int (zi b)), (4, .int (zi 1)), (5, .int (zi 1)), (6, .int (zi (x 51 q)))]) dX12_change_195 rfl (by decide) rfl ?_
                      refine z_goto (pc := 198) hO (tgt := 102) dX12_change_198 (by decide) ?_
                      refine z_sub [3, 4, 5, 6, 7, 8, 9, 1, 0] rfl ?_
                      exact ih102 (w9 + 0) (i + 1) m13 (by omega) (by omega) (by intro p a c; subst m13; exact dite (p = i) (fun e => by rw [e]; exact hst) (fun e => by rw [up_n _ _ (by omega)]; exact hA p a (by omega))) (by rw [sm_s _ h0.1, ← hC]; first | (rw [if_pos (by omega)]; done) | (rw [if_neg (by omega)]; done)) (by intro a ha; subst m13; rw [up_i _ _ _ ha]; exact hfr a ha)
                  · refine z_iconst (pc := 164) hO dX12_change_164 ?_
                    refine z_goto (pc := 165) hO (tgt := 172) dX12_change_165 (by decide) ?_
                    refine z_iast (pc := 172) hO isI_53 (by omega) dX12_change_172 (fun m16 e17 => ?_)
                    have hst : m16 53 i = (cha (x 51 q) (nd x q) ch b) i := by rw [e17, up_s]; first | (rw [cha_m (by omega) (by omega), g4]; done) | (rw [cha_c (by omega) (by omega), if_pos (by omega)]; done) | (rw [cha_c (by omega) (by omega), if_neg (by omega), g1]; done)
                    have hsr : -1000 ≤ m16 53 i ∧ m16 53 i ≤ 2000 := by rw [e17, up_s]; omega
                    have hs52 : m16 52 = y 52 := by rw [e17, up_i _ _ _ (by omega)]
                    refine z_iload (pc := 173) hO 8 dX12_change_173 rfl ?_
                    refine z_aload_n (pc := 175) hO 1 dX12_change_175 rfl rfl ?_
                    refine gf_X12_made (pc := 176) hO f_X12_16 dX12_change_176 ?_
                    refine z_iload (pc := 179) hO 9 dX12_change_179 rfl ?_
                    refine z_iald (pc := 181) hO isI_53 (by omega) dX12_change_181 ?_
                    refine z_iload (pc := 182) hO 0 dX12_change_182 rfl ?_
                    refine z_icmp_ne (pc := 184) hO (tgt := 191) dX12_change_184 (by decide) (by omega) (by omega) (fun b18 => ?_) (fun b18 => ?_)
                    · refine z_iconst (pc := 191) hO dX12_change_191 ?_
                      refine z_iadd (pc := 192) hO dX12_change_192 ?_
                      refine z_istore (pc := 193) hO (lv' := [(7, .int (zi (w9 + 1))), (9, .int (zi (y 52 ((81 * q) + i)))), (0, .ref (gA g 50)), (1, .int (zi q)), (2, .int (zi ch)), (3, .int (zi b)), (4, .int (zi 1)), (5, .int (zi 1)), (6, .int (zi (x 51 q))), (8, .int (zi i))]) dX12_change_193 (by decide) rfl ?_
                      refine z_iinc (pc := 195) hO 9 (lv' := [(8, .int (zi (i + 1))), (7, .int (zi (w9 + 1))), (9, .int (zi (y 52 ((81 * q) + i)))), (0, .ref (gA g 50)), (1, .int (zi q)), (2, .int (zi ch)), (3, .int (zi b)), (4, .int (zi 1)), (5, .int (zi 1)), (6, .int (zi (x 51 q)))]) dX12_change_195 rfl (by decide) rfl ?_
                      refine z_goto (pc := 198) hO (tgt := 102) dX12_change_198 (by decide) ?_
                      refine z_sub [3, 4, 5, 6, 7, 8, 9, 1, 0] rfl ?_
                      exact ih102 (w9 + 1) (i + 1) m16 (by omega) (by omega) (by intro p a c; subst m16; exact dite (p = i) (fun e => by rw [e]; exact hst) (fun e => by rw [up_n _ _ (by omega)]; exact hA p a (by omega))) (by rw [sm_s _ h0.1, ← hC]; first | (rw [if_pos (by omega)]; done) | (rw [if_neg (by omega)]; done)) (by intro a ha; subst m16; rw [up_i _ _ _ ha]; exact hfr a ha)
                    · refine z_iconst (pc := 187) hO dX12_change_187 ?_
                      refine z_goto (pc := 188) hO (tgt := 192) dX12_change_188 (by decide) ?_
                      refine z_iadd (pc := 192) hO dX12_change_192 ?_
                      refine z_istore (pc := 193) hO (lv' := [(7, .int (zi (w9 + 0))), (9, .int (zi (y 52 ((81 * q) + i)))), (0, .ref (gA g 50)), (1, .int (zi q)), (2, .int (zi ch)), (3, .int (zi b)), (4, .int (zi 1)), (5, .int (zi 1)), (6, .int (zi (x 51 q))), (8, .int (zi i))]) dX12_change_193 (by decide) rfl ?_
                      refine z_iinc (pc := 195) hO 9 (lv' := [(8, .int (zi (i + 1))), (7, .int (zi (w9 + 0))), (9, .int (zi (y 52 ((81 * q) + i)))), (0, .ref (gA g 50)), (1, .int (zi q)), (2, .int (zi ch)), (3, .int (zi b)), (4, .int (zi 1)), (5, .int (zi 1)), (6, .int (zi (x 51 q)))]) dX12_change_195 rfl (by decide) rfl ?_
                      refine z_goto (pc := 198) hO (tgt := 102) dX12_change_198 (by decide) ?_
                      refine z_sub [3, 4, 5, 6, 7, 8, 9, 1, 0] rfl ?_
                      exact ih102 (w9 + 0) (i + 1) m16 (by omega) (by omega) (by intro p a c; subst m16; exact dite (p = i) (fun e => by rw [e]; exact hst) (fun e => by rw [up_n _ _ (by omega)]; exact hA p a (by omega))) (by rw [sm_s _ h0.1, ← hC]; first | (rw [if_pos (by omega)]; done) | (rw [if_neg (by omega)]; done)) (by intro a ha; subst m16; rw [up_i _ _ _ ha]; exact hfr a ha)
                · refine z_aload_n (pc := 137) hO 1 dX12_change_137 rfl rfl ?_
                  refine gf_X12_numbers (pc := 138) hO f_X12_13 dX12_change_138 ?_
                  refine z_bipush (pc := 141) hO dX12_change_141 (by decide) ?_
                  refine z_iload_n (pc := 143) hO 2 dX12_change_143 rfl rfl ?_
                  refine z_imul (pc := 144) hO dX12_change_144 ?_
                  refine z_iload (pc := 145) hO 7 dX12_change_145 rfl ?_
                  refine z_iload_n (pc := 147) hO 3 dX12_change_147 rfl rfl ?_
                  refine z_iload_n (pc := 148) hO 4 dX12_change_148 rfl rfl ?_
                  refine z_iload (pc := 149) hO 9 dX12_change_149 rfl ?_
                  refine z_callSIp (pc := 151) hO (As := [.int (zi (x 51 q)), .int (zi ch), .int (zi b), .int (zi i)]) (st := [.int (zi (81 * q)), .ref (gA g 52), .int (zi i), .ref (gA g 53)]) (c_X12_comesFrom (qL Γ) g y (x 51 q) ch b i (by omega) (by omega) (by omega) (by omega)) k_X12_134 rfl (Nat.le_of_ble_eq_true rfl) (by decide) (by decide) ⟨by decide, by decide⟩ dX12_change_151 ?_
                  refine z_iadd (pc := 154) hO dX12_change_154 ?_
                  refine z_iald (pc := 155) hO isI_52 (by omega) dX12_change_155 ?_
                  refine z_goto (pc := 156) hO (tgt := 172) dX12_change_156 (by decide) ?_
                  refine z_iast (pc := 172) hO isI_53 (by omega) dX12_change_172 (fun m19 e20 => ?_)
                  have hst : m19 53 i = (cha (x 51 q) (nd x q) ch b) i := by rw [e20, up_s]; first | (rw [cha_m (by omega) (by omega), g4]; done) | (rw [cha_c (by omega) (by omega), if_pos (by omega)]; done) | (rw [cha_c (by omega) (by omega), if_neg (by omega), g1]; done)
                  have hsr : -1000 ≤ m19 53 i ∧ m19 53 i ≤ 2000 := by rw [e20, up_s]; omega
                  have hs52 : m19 52 = y 52 := by rw [e20, up_i _ _ _ (by omega)]
                  refine z_iload (pc := 173) hO 8 dX12_change_173 rfl ?_
                  refine z_aload_n (pc := 175) hO 1 dX12_change_175 rfl rfl ?_
                  refine gf_X12_made (pc := 176) hO f_X12_16 dX12_change_176 ?_
                  refine z_iload (pc := 179) hO 9 dX12_change_179 rfl ?_
                  refine z_iald (pc := 181) hO isI_53 (by omega) dX12_change_181 ?_
                  refine z_iload (pc := 182) hO 0 dX12_change_182 rfl ?_
                  refine z_icmp_ne (pc := 184) hO (tgt := 191) dX12_change_184 (by decide) (by omega) (by omega) (fun b21 => ?_) (fun b21 => ?_)
                  · refine z_iconst (pc := 191) hO dX12_change_191 ?_
                    refine z_iadd (pc := 192) hO dX12_change_192 ?_
                    refine z_istore (pc := 193) hO (lv' := [(7, .int (zi (w9 + 1))), (9, .int (zi (y 52 ((81 * q) + i)))), (0, .ref (gA g 50)), (1, .int (zi q)), (2, .int (zi ch)), (3, .int (zi b)), (4, .int (zi 1)), (5, .int (zi 1)), (6, .int (zi (x 51 q))), (8, .int (zi i))]) dX12_change_193 (by decide) rfl ?_
                    refine z_iinc (pc := 195) hO 9 (lv' := [(8, .int (zi (i + 1))), (7, .int (zi (w9 + 1))), (9, .int (zi (y 52 ((81 * q) + i)))), (0, .ref (gA g 50)), (1, .int (zi q)), (2, .int (zi ch)), (3, .int (zi b)), (4, .int (zi 1)), (5, .int (zi 1)), (6, .int (zi (x 51 q)))]) dX12_change_195 rfl (by decide) rfl ?_
                    refine z_goto (pc := 198) hO (tgt := 102) dX12_change_198 (by decide) ?_
                    refine z_sub [3, 4, 5, 6, 7, 8, 9, 1, 0] rfl ?_
                    exact ih102 (w9 + 1) (i + 1) m19 (by omega) (by omega) (by intro p a c; subst m19; exact dite (p = i) (fun e => by rw [e]; exact hst) (fun e => by rw [up_n _ _ (by omega)]; exact hA p a (by omega))) (by rw [sm_s _ h0.1, ← hC]; first | (rw [if_pos (by omega)]; done) | (rw [if_neg (by omega)]; done)) (by intro a ha; subst m19; rw [up_i _ _ _ ha]; exact hfr a ha)
                  · refine z_iconst (pc := 187) hO dX12_change_187 ?_
                    refine z_goto (pc := 188) hO (tgt := 192) dX12_change_188 (by decide) ?_
                    refine z_iadd (pc := 192) hO dX12_change_192 ?_
                    refine z_istore (pc := 193) hO (lv' := [(7, .int (zi (w9 + 0))), (9, .int (zi (y 52 ((81 * q) + i)))), (0, .ref (gA g 50)), (1, .int (zi q)), (2, .int (zi ch)), (3, .int (zi b)), (4, .int (zi 1)), (5, .int (zi 1)), (6, .int (zi (x 51 q))), (8, .int (zi i))]) dX12_change_193 (by decide) rfl ?_
                    refine z_iinc (pc := 195) hO 9 (lv' := [(8, .int (zi (i + 1))), (7, .int (zi (w9 + 0))), (9, .int (zi (y 52 ((81 * q) + i)))), (0, .ref (gA g 50)), (1, .int (zi q)), (2, .int (zi ch)), (3, .int (zi b)), (4, .int (zi 1)), (5, .int (zi 1)), (6, .int (zi (x 51 q)))]) dX12_change_195 rfl (by decide) rfl ?_
                    refine z_goto (pc := 198) hO (tgt := 102) dX12_change_198 (by decide) ?_
                    refine z_sub [3, 4, 5, 6, 7, 8, 9, 1, 0] rfl ?_
                    exact ih102 (w9 + 0) (i + 1) m19 (by omega) (by omega) (by intro p a c; subst m19; exact dite (p = i) (fun e => by rw [e]; exact hst) (fun e => by rw [up_n _ _ (by omega)]; exact hA p a (by omega))) (by rw [sm_s _ h0.1, ← hC]; first | (rw [if_pos (by omega)]; done) | (rw [if_neg (by omega)]; done)) (by intro a ha; subst m19; rw [up_i _ _ _ ha]; exact hfr a ha)
          refine z_sub [5, 6, 7, 8, 4, 3, 2, 1, 0] rfl ?_
          exact L102 _ 0 0 m5 (Nat.lt_succ_self _) (by omega) (by intro p a c; omega) (by rfl) (by intro a _; rw [hw])
        · refine z_aload_n (pc := 66) hO 2 dX12_change_66 rfl rfl ?_
          refine z_iload_n (pc := 67) hO 3 dX12_change_67 rfl rfl ?_
          refine z_iload_n (pc := 68) hO 5 dX12_change_68 rfl rfl ?_
          refine z_callVB (pc := 69) hO (As := [.int (zi q), .int (zi b)]) (st := [.ref (gA g 50)]) (c_X12_canComplement (qL Γ) g x q b (by exact hM.2 q (by omega) (by omega)) (by omega)) k_X12_131 isO_50 rfl (Nat.le_of_ble_eq_true rfl) (by decide) (by decide) ⟨by decide, by decide⟩ dX12_change_69 (fun pb22 => ?_) (fun pb22 => ?_)
          · skip
            refine z_if_ne (pc := 72) hO (tgt := 79) dX12_change_72 (by decide) (by decide) (fun _ => ?_) (fun h => absurd h (by decide))
            refine z_iconst (pc := 79) hO dX12_change_79 ?_
            refine z_callVIm (pc := 80) hO (As := [.int (zi 0)]) (st := []) (c_X12_isFine0 (qL Γ) g x 0 (by first | assumption | omega)) k_X12_63 isO_50 rfl (Nat.le_of_ble_eq_true rfl) (by decide) (by decide) ⟨by decide, by decide⟩ dX12_change_80 (fun m23 e24 => ?_)
            refine z_if_ne (pc := 83) hO (tgt := 88) dX12_change_83 (by decide) (by decide) (fun _ => ?_) (fun h => absurd h (by decide))
            have hG := hM.2 q (by omega) (by omega)
            have hs := hG.2.1
            have hth : m23 = up x 50 0 0 := by assumption
            have e51 : m23 51 q = x 51 q := by rw [hth, up_i _ _ _ (by omega)]
            have end_ : nd m23 q = nd x q := by funext p; rw [hth]; exact nd_th
            have hsq := sq9 hs
            have hN := nd_rng hG
            obtain ⟨w, hw⟩ : ∃ w : Me, w = m23 := ⟨_, rfl⟩
            have hw51 : w 51 = x 51 := by rw [hw, hth, up_i _ _ _ (by omega)]
            have hw52 : w 52 = x 52 := by rw [hw, hth, up_i _ _ _ (by omega)]
            have hw500 : w 50 0 = 0 := by rw [hw, hth, up_s]
            have hw501 : w 50 1 = x 50 1 := by rw [hw, hth, up_n _ _ (by omega)]
            have hwf : ∀ a, a < 50 ∨ 62 < a → w a = x a := fun a ha => by rw [hw, hth, up_i _ _ _ (by omega)]
            refine z_aload_n (pc := 88) hO 2 dX12_change_88 rfl rfl ?_
            refine gf_X12_sideOf (pc := 89) hO f_X12_7 dX12_change_89 ?_
            refine z_iload_n (pc := 92) hO 3 dX12_change_92 rfl rfl ?_
            refine z_iald (pc := 93) hO isI_51 (by omega) dX12_change_93 ?_
            rw [e51]
            refine z_istore (pc := 94) hO (lv' := [(6, .int (zi (x 51 q))), (5, .int (zi 1)), (4, .int (zi 1)), (0, .ref (gA g 50)), (1, .int (zi q)), (2, .int (zi ch)), (3, .int (zi b))]) dX12_change_94 (by decide) rfl ?_
            refine z_iconst (pc := 96) hO dX12_change_96 ?_
            refine z_istore (pc := 97) hO (lv' := [(7, .int (zi 0)), (6, .int (zi (x 51 q))), (5, .int (zi 1)), (4, .int (zi 1)), (0, .ref (gA g 50)), (1, .int (zi q)), (2, .int (zi ch)), (3, .int (zi b))]) dX12_change_97 (by decide) rfl ?_
            refine z_iconst (pc := 99) hO dX12_change_99 ?_
            refine z_istore (pc := 100) hO (lv' := [(8, .int (zi 0)), (7, .int (zi 0)), (6, .int (zi (x 51 q))), (5, .int (zi 1)), (4, .int (zi 1)), (0, .ref (gA g 50)), (1, .int (zi q)), (2, .int (zi ch)), (3, .int (zi b))]) dX12_change_100 (by decide) rfl ?_
            have L102 : ∀ (N : Nat) (w9 : Int) (i : Int) (y : Me), (x 51 q * x 51 q - i).toNat < N → (0 ≤ i ∧ i ≤ x 51 q * x 51 q) → (∀ p, 0 ≤ p → p < i → y 53 p = (cha (x 51 q) (nd x q) ch b) p) → (w9 = sm (fun p => if (cha (x 51 q) (nd x q) ch b) p = nd x q p then 0 else 1) i.toNat) → (∀ a, a ≠ 53 → y a = w a) → Zz Γ g 10 0 0 y 102 [(0, .ref (gA g 50)), (1, .int (zi q)), (2, .int (zi ch)), (3, .int (zi b)), (4, .int (zi 1)), (5, .int (zi 1)), (6, .int (zi (x 51 q))), (7, .int (zi w9)), (8, .int (zi i))] [] := by
              intro N
              induction N with
              | zero => intro w9 i y hm; exact absurd hm (Nat.not_lt_zero _)
              | succ N ih102 =>
                intro w9 i y hm h0 hA hC hfr
                refine z_iload (pc := 102) hO 8 dX12_change_102 rfl ?_
                refine z_iload (pc := 104) hO 6 dX12_change_104 rfl ?_
                refine z_iload (pc := 106) hO 6 dX12_change_106 rfl ?_
                refine z_imul (pc := 108) hO dX12_change_108 ?_
                refine z_icmp_ge (pc := 109) hO (tgt := 201) dX12_change_109 (by decide) (by omega) (by omega) (fun b25 => ?_) (fun b25 => ?_)
                · refine z_iconst (pc := 201) hO dX12_change_201 ?_
                  refine z_istore (pc := 202) hO (lv' := [(8, .int (zi 0)), (0, .ref (gA g 50)), (1, .int (zi q)), (2, .int (zi ch)), (3, .int (zi b)), (4, .int (zi 1)), (5, .int (zi 1)), (6, .int (zi (x 51 q))), (7, .int (zi w9))]) dX12_change_202 (by decide) rfl ?_
                  have L204 : ∀ (N : Nat) (k : Int) (v : Me), (x 51 q * x 51 q - k).toNat < N → (0 ≤ k ∧ k ≤ x 51 q * x 51 q) → (∀ p, 0 ≤ p → p < k → v 52 (81 * q + p) = (cha (x 51 q) (nd x q) ch b) p) → (∀ j, ¬ (81 * q ≤ j ∧ j < 81 * q + k) → v 52 j = w 52 j) → (∀ a, a ≠ 52 → v a = y a) → Zz Γ g 10 0 0 v 204 [(0, .ref (gA g 50)), (1, .int (zi q)), (2, .int (zi ch)), (3, .int (zi b)), (4, .int (zi 1)), (5, .int (zi 1)), (6, .int (zi (x 51 q))), (7, .int (zi w9)), (8, .int (zi k))] [] := by
                    intro N
                    induction N with
                    | zero => intro k v hm; exact absurd hm (Nat.not_lt_zero _)
                    | succ N ih204 =>
                      intro k v hm h2 kA kB kf
                      refine z_iload (pc := 204) hO 8 dX12_change_204 rfl ?_
                      refine z_iload (pc := 206) hO 6 dX12_change_206 rfl ?_
                      refine z_iload (pc := 208) hO 6 dX12_change_208 rfl ?_
                      refine z_imul (pc := 210) hO dX12_change_210 ?_
                      refine z_icmp_ge (pc := 211) hO (tgt := 239) dX12_change_211 (by decide) (by omega) (by omega) (fun b26 => ?_) (fun b26 => ?_)
                      · refine z_iload (pc := 239) hO 7 dX12_change_239 rfl ?_
                        exact z_iret (pc := 241) hO hr hQ rfl dX12_change_241 (by first | (refine ⟨by rw [hC]; unfold chg; congr 2; omega, ?_⟩; obtain rfl : k = x 51 q * x 51 q := (by omega); exact CM_of (w := up y 52 0 (y 52 0)) hq1 (by omega) (by rw [up_i _ _ _ (by omega), hfr 50 (by omega)]; exact hw500) (by rw [up_i _ _ _ (by omega), hfr 50 (by omega)]; exact hw501) (by rw [up_i _ _ _ (by omega), hfr 51 (by omega)]; exact hw51) (by rw [up_same, hfr 52 (by omega)]; exact hw52) (fun a ha => by rw [up_i _ _ _ (by omega), hfr a (by omega)]; exact hwf a ha) (fun a ha => by rw [up_i _ _ _ ha]; exact kf a ha) kA (fun j hj => by rw [up_same]; rw [kB j hj, hfr 52 (by omega)]) (fun p hp => cha_out hp); done) | (exfalso; omega))
                      · refine z_aload_n (pc := 214) hO 0 dX12_change_214 rfl rfl ?_
                        refine gf_X12_numbers (pc := 215) hO f_X12_13 dX12_change_215 ?_
                        refine z_bipush (pc := 218) hO dX12_change_218 (by decide) ?_
                        refine z_iload_n (pc := 220) hO 1 dX12_change_220 rfl rfl ?_
                        refine z_imul (pc := 221) hO dX12_change_221 ?_
                        refine z_iload (pc := 222) hO 8 dX12_change_222 rfl ?_
                        refine z_iadd (pc := 224) hO dX12_change_224 ?_
                        refine z_aload_n (pc := 225) hO 0 dX12_change_225 rfl rfl ?_
                        refine gf_X12_made (pc := 226) hO f_X12_16 dX12_change_226 ?_
                        refine z_iload (pc := 229) hO 8 dX12_change_229 rfl ?_
                        refine z_iald (pc := 231) hO isI_53 (by omega) dX12_change_231 ?_
                        refine z_iast (pc := 232) hO isI_52 (by omega) dX12_change_232 (fun m27 e28 => ?_)
                        refine z_iinc (pc := 233) hO 8 (lv' := [(8, .int (zi (k + 1))), (0, .ref (gA g 50)), (1, .int (zi q)), (2, .int (zi ch)), (3, .int (zi b)), (4, .int (zi 1)), (5, .int (zi 1)), (6, .int (zi (x 51 q))), (7, .int (zi w9))]) dX12_change_233 rfl (by decide) rfl ?_
                        refine z_goto (pc := 236) hO (tgt := 204) dX12_change_236 (by decide) ?_
                        refine z_sub [1, 2, 3, 4, 5, 6, 7, 8, 0] rfl ?_
                        exact ih204 (k + 1) m27 (by omega) (by omega) (by intro p a c; subst m27; exact dite (p = k) (fun e => by rw [e, up_s, kf 53 (by omega)]; exact hA k (by omega) (by omega)) (fun e => by rw [up_n _ _ (by omega)]; exact kA p a (by omega))) (by intro j a; subst m27; rw [up_n _ _ (by omega)]; exact kB j (by omega)) (by intro a ha; subst m27; rw [up_i _ _ _ ha]; exact kf a ha)
                  refine z_sub [1, 2, 3, 4, 5, 6, 7, 8, 0] rfl ?_
                  exact L204 _ 0 y (Nat.lt_succ_self _) (by omega) (by intro p a c; omega) (by intro j _; rw [hfr 52 (by omega)]) (by intro a _; rfl)
                · have y52 : y 52 = x 52 := by rw [hfr 52 (by omega), hw52]
                  have g1 : nd x q i = y 52 (81 * q + i) := by rw [y52]; exact nd_in (by omega)
                  have n1 := hN i
                  have ha1 := ahd_rng (ch := ch) (b := b) hs (p := i) (by omega)
                  have g4 : nd x q (ahd (x 51 q) ch b i) = y 52 (81 * q + ahd (x 51 q) ch b i) := by rw [y52]; exact nd_in (by omega)
                  have n4 := hN (ahd (x 51 q) ch b i)
                  refine z_aload_n (pc := 112) hO 0 dX12_change_112 rfl rfl ?_
                  refine gf_X12_numbers (pc := 113) hO f_X12_13 dX12_change_113 ?_
                  refine z_bipush (pc := 116) hO dX12_change_116 (by decide) ?_
                  refine z_iload_n (pc := 118) hO 1 dX12_change_118 rfl rfl ?_
                  refine z_imul (pc := 119) hO dX12_change_119 ?_
                  refine z_iload (pc := 120) hO 8 dX12_change_120 rfl ?_
                  refine z_iadd (pc := 122) hO dX12_change_122 ?_
                  refine z_iald (pc := 123) hO isI_52 (by omega) dX12_change_123 ?_
                  refine z_istore (pc := 124) hO (lv' := [(9, .int (zi (y 52 ((81 * q) + i)))), (0, .ref (gA g 50)), (1, .int (zi q)), (2, .int (zi ch)), (3, .int (zi b)), (4, .int (zi 1)), (5, .int (zi 1)), (6, .int (zi (x 51 q))), (7, .int (zi w9)), (8, .int (zi i))]) dX12_change_124 (by decide) rfl ?_
                  refine z_aload_n (pc := 126) hO 1 dX12_change_126 rfl rfl ?_
                  refine gf_X12_made (pc := 127) hO f_X12_16 dX12_change_127 ?_
                  refine z_iload (pc := 130) hO 9 dX12_change_130 rfl ?_
                  refine z_iload_n (pc := 132) hO 3 dX12_change_132 rfl rfl ?_
                  refine z_iconst (pc := 133) hO dX12_change_133 ?_
                  refine z_icmp_eq (pc := 134) hO (tgt := 159) dX12_change_134 (by decide) (by omega) (by omega) (fun b29 => ?_) (fun b29 => ?_)
                  · refine z_iload (pc := 159) hO 0 dX12_change_159 rfl ?_
                    refine z_if_ne (pc := 161) hO (tgt := 168) dX12_change_161 (by decide) (by omega) (fun b30 => ?_) (fun b30 => ?_)
                    · refine z_iload_n (pc := 168) hO 4 dX12_change_168 rfl rfl ?_
                      refine z_iload (pc := 169) hO 0 dX12_change_169 rfl ?_
                      refine z_isub (pc := 171) hO dX12_change_171 ?_
                      refine z_iast (pc := 172) hO isI_53 (by omega) dX12_change_172 (fun m31 e32 => ?_)
                      have hst : m31 53 i = (cha (x 51 q) (nd x q) ch b) i := by rw [e32, up_s]; first | (rw [cha_m (by omega) (by omega), g4]; done) | (rw [cha_c (by omega) (by omega), if_pos (by omega)]; done) | (rw [cha_c (by omega) (by omega), if_neg (by omega), g1]; done)
                      have hsr : -1000 ≤ m31 53 i ∧ m31 53 i ≤ 2000 := by rw [e32, up_s]; omega
                      have hs52 : m31 52 = y 52 := by rw [e32, up_i _ _ _ (by omega)]
                      refine z_iload (pc := 173) hO 8 dX12_change_173 rfl ?_
                      refine z_aload_n (pc := 175) hO 1 dX12_change_175 rfl rfl ?_
                      refine gf_X12_made (pc := 176) hO f_X12_16 dX12_change_176 ?_
                      refine z_iload (pc := 179) hO 9 dX12_change_179 rfl ?_
                      refine z_iald (pc := 181) hO isI_53 (by omega) dX12_change_181 ?_
                      refine z_iload (pc := 182) hO 0 dX12_change_182 rfl ?_
                      refine z_icmp_ne (pc := 184) hO (tgt := 191) dX12_change_184 (by decide) (by omega) (by omega) (fun b33 => ?_) (fun b33 => ?_)
                      · refine z_iconst (pc := 191) hO dX12_change_191 ?_
                        refine z_iadd (pc := 192) hO dX12_change_192 ?_
                        refine z_istore (pc := 193) hO (lv' := [(7, .int (zi (w9 + 1))), (9, .int (zi (y 52 ((81 * q) + i)))), (0, .ref (gA g 50)), (1, .int (zi q)), (2, .int (zi ch)), (3, .int (zi b)), (4, .int (zi 1)), (5, .int (zi 1)), (6, .int (zi (x 51 q))), (8, .int (zi i))]) dX12_change_193 (by decide) rfl ?_
                        refine z_iinc (pc := 195) hO 9 (lv' := [(8, .int (zi (i + 1))), (7, .int (zi (w9 + 1))), (9, .int (zi (y 52 ((81 * q) + i)))), (0, .ref (gA g 50)), (1, .int (zi q)), (2, .int (zi ch)), (3, .int (zi b)), (4, .int (zi 1)), (5, .int (zi 1)), (6, .int (zi (x 51 q)))]) dX12_change_195 rfl (by decide) rfl ?_
                        refine z_goto (pc := 198) hO (tgt := 102) dX12_change_198 (by decide) ?_
                        refine z_sub [3, 4, 5, 6, 7, 8, 9, 1, 0] rfl ?_
                        exact ih102 (w9 + 1) (i + 1) m31 (by omega) (by omega) (by intro p a c; subst m31; exact dite (p = i) (fun e => by rw [e]; exact hst) (fun e => by rw [up_n _ _ (by omega)]; exact hA p a (by omega))) (by rw [sm_s _ h0.1, ← hC]; first | (rw [if_pos (by omega)]; done) | (rw [if_neg (by omega)]; done)) (by intro a ha; subst m31; rw [up_i _ _ _ ha]; exact hfr a ha)
                      · refine z_iconst (pc := 187) hO dX12_change_187 ?_
                        refine z_goto (pc := 188) hO (tgt := 192) dX12_change_188 (by decide) ?_
                        refine z_iadd (pc := 192) hO dX12_change_192 ?_
                        refine z_istore (pc := 193) hO (lv' := [(7, .int (zi (w9 + 0))), (9, .int (zi (y 52 ((81 * q) + i)))), (0, .ref (gA g 50)), (1, .int (zi q)), (2, .int (zi ch)), (3, .int (zi b)), (4, .int (zi 1)), (5, .int (zi 1)), (6, .int (zi (x 51 q))), (8, .int (zi i))]) dX12_change_193 (by decide) rfl ?_
                        refine z_iinc (pc := 195) hO 9 (lv' := [(8, .int (zi (i + 1))), (7, .int (zi (w9 + 0))), (9, .int (zi (y 52 ((81 * q) + i)))), (0, .ref (gA g 50)), (1, .int (zi q)), (2, .int (zi ch)), (3, .int (zi b)), (4, .int (zi 1)), (5, .int (zi 1)), (6, .int (zi (x 51 q)))]) dX12_change_195 rfl (by decide) rfl ?_
                        refine z_goto (pc := 198) hO (tgt := 102) dX12_change_198 (by decide) ?_
                        refine z_sub [3, 4, 5, 6, 7, 8, 9, 1, 0] rfl ?_
                        exact ih102 (w9 + 0) (i + 1) m31 (by omega) (by omega) (by intro p a c; subst m31; exact dite (p = i) (fun e => by rw [e]; exact hst) (fun e => by rw [up_n _ _ (by omega)]; exact hA p a (by omega))) (by rw [sm_s _ h0.1, ← hC]; first | (rw [if_pos (by omega)]; done) | (rw [if_neg (by omega)]; done)) (by intro a ha; subst m31; rw [up_i _ _ _ ha]; exact hfr a ha)
                    · refine z_iconst (pc := 164) hO dX12_change_164 ?_
                      refine z_goto (pc := 165) hO (tgt := 172) dX12_change_165 (by decide) ?_
                      refine z_iast (pc := 172) hO isI_53 (by omega) dX12_change_172 (fun m34 e35 => ?_)
                      have hst : m34 53 i = (cha (x 51 q) (nd x q) ch b) i := by rw [e35, up_s]; first | (rw [cha_m (by omega) (by omega), g4]; done) | (rw [cha_c (by omega) (by omega), if_pos (by omega)]; done) | (rw [cha_c (by omega) (by omega), if_neg (by omega), g1]; done)
                      have hsr : -1000 ≤ m34 53 i ∧ m34 53 i ≤ 2000 := by rw [e35, up_s]; omega
                      have hs52 : m34 52 = y 52 := by rw [e35, up_i _ _ _ (by omega)]
                      refine z_iload (pc := 173) hO 8 dX12_change_173 rfl ?_
                      refine z_aload_n (pc := 175) hO 1 dX12_change_175 rfl rfl ?_
                      refine gf_X12_made (pc := 176) hO f_X12_16 dX12_change_176 ?_
                      refine z_iload (pc := 179) hO 9 dX12_change_179 rfl ?_
                      refine z_iald (pc := 181) hO isI_53 (by omega) dX12_change_181 ?_
                      refine z_iload (pc := 182) hO 0 dX12_change_182 rfl ?_
                      refine z_icmp_ne (pc := 184) hO (tgt := 191) dX12_change_184 (by decide) (by omega) (by omega) (fun b36 => ?_) (fun b36 => ?_)
                      · refine z_iconst (pc := 191) hO dX12_change_191 ?_
                        refine z_iadd (pc := 192) hO dX12_change_192 ?_
                        refine z_istore (pc := 193) hO (lv' := [(7, .int (zi (w9 + 1))), (9, .int (zi (y 52 ((81 * q) + i)))), (0, .ref (gA g 50)), (1, .int (zi q)), (2, .int (zi ch)), (3, .int (zi b)), (4, .int (zi 1)), (5, .int (zi 1)), (6, .int (zi (x 51 q))), (8, .int (zi i))]) dX12_change_193 (by decide) rfl ?_
                        refine z_iinc (pc := 195) hO 9 (lv' := [(8, .int (zi (i + 1))), (7, .int (zi (w9 + 1))), (9, .int (zi (y 52 ((81 * q) + i)))), (0, .ref (gA g 50)), (1, .int (zi q)), (2, .int (zi ch)), (3, .int (zi b)), (4, .int (zi 1)), (5, .int (zi 1)), (6, .int (zi (x 51 q)))]) dX12_change_195 rfl (by decide) rfl ?_
                        refine z_goto (pc := 198) hO (tgt := 102) dX12_change_198 (by decide) ?_
                        refine z_sub [3, 4, 5, 6, 7, 8, 9, 1, 0] rfl ?_
                        exact ih102 (w9 + 1) (i + 1) m34 (by omega) (by omega) (by intro p a c; subst m34; exact dite (p = i) (fun e => by rw [e]; exact hst) (fun e => by rw [up_n _ _ (by omega)]; exact hA p a (by omega))) (by rw [sm_s _ h0.1, ← hC]; first | (rw [if_pos (by omega)]; done) | (rw [if_neg (by omega)]; done)) (by intro a ha; subst m34; rw [up_i _ _ _ ha]; exact hfr a ha)
                      · refine z_iconst (pc := 187) hO dX12_change_187 ?_
                        refine z_goto (pc := 188) hO (tgt := 192) dX12_change_188 (by decide) ?_
                        refine z_iadd (pc := 192) hO dX12_change_192 ?_
                        refine z_istore (pc := 193) hO (lv' := [(7, .int (zi (w9 + 0))), (9, .int (zi (y 52 ((81 * q) + i)))), (0, .ref (gA g 50)), (1, .int (zi q)), (2, .int (zi ch)), (3, .int (zi b)), (4, .int (zi 1)), (5, .int (zi 1)), (6, .int (zi (x 51 q))), (8, .int (zi i))]) dX12_change_193 (by decide) rfl ?_
                        refine z_iinc (pc := 195) hO 9 (lv' := [(8, .int (zi (i + 1))), (7, .int (zi (w9 + 0))), (9, .int (zi (y 52 ((81 * q) + i)))), (0, .ref (gA g 50)), (1, .int (zi q)), (2, .int (zi ch)), (3, .int (zi b)), (4, .int (zi 1)), (5, .int (zi 1)), (6, .int (zi (x 51 q)))]) dX12_change_195 rfl (by decide) rfl ?_
                        refine z_goto (pc := 198) hO (tgt := 102) dX12_change_198 (by decide) ?_
                        refine z_sub [3, 4, 5, 6, 7, 8, 9, 1, 0] rfl ?_
                        exact ih102 (w9 + 0) (i + 1) m34 (by omega) (by omega) (by intro p a c; subst m34; exact dite (p = i) (fun e => by rw [e]; exact hst) (fun e => by rw [up_n _ _ (by omega)]; exact hA p a (by omega))) (by rw [sm_s _ h0.1, ← hC]; first | (rw [if_pos (by omega)]; done) | (rw [if_neg (by omega)]; done)) (by intro a ha; subst m34; rw [up_i _ _ _ ha]; exact hfr a ha)
                  · refine z_aload_n (pc := 137) hO 1 dX12_change_137 rfl rfl ?_
                    refine gf_X12_numbers (pc := 138) hO f_X12_13 dX12_change_138 ?_
                    refine z_bipush (pc := 141) hO dX12_change_141 (by decide) ?_
                    refine z_iload_n (pc := 143) hO 2 dX12_change_143 rfl rfl ?_
                    refine z_imul (pc := 144) hO dX12_change_144 ?_
                    refine z_iload (pc := 145) hO 7 dX12_change_145 rfl ?_
                    refine z_iload_n (pc := 147) hO 3 dX12_change_147 rfl rfl ?_
                    refine z_iload_n (pc := 148) hO 4 dX12_change_148 rfl rfl ?_
                    refine z_iload (pc := 149) hO 9 dX12_change_149 rfl ?_
                    refine z_callSIp (pc := 151) hO (As := [.int (zi (x 51 q)), .int (zi ch), .int (zi b), .int (zi i)]) (st := [.int (zi (81 * q)), .ref (gA g 52), .int (zi i), .ref (gA g 53)]) (c_X12_comesFrom (qL Γ) g y (x 51 q) ch b i (by omega) (by omega) (by omega) (by omega)) k_X12_134 rfl (Nat.le_of_ble_eq_true rfl) (by decide) (by decide) ⟨by decide, by decide⟩ dX12_change_151 ?_
                    refine z_iadd (pc := 154) hO dX12_change_154 ?_
                    refine z_iald (pc := 155) hO isI_52 (by omega) dX12_change_155 ?_
                    refine z_goto (pc := 156) hO (tgt := 172) dX12_change_156 (by decide) ?_
                    refine z_iast (pc := 172) hO isI_53 (by omega) dX12_change_172 (fun m37 e38 => ?_)
                    have hst : m37 53 i = (cha (x 51 q) (nd x q) ch b) i := by rw [e38, up_s]; first | (rw [cha_m (by omega) (by omega), g4]; done) | (rw [cha_c (by omega) (by omega), if_pos (by omega)]; done) | (rw [cha_c (by omega) (by omega), if_neg (by omega), g1]; done)
                    have hsr : -1000 ≤ m37 53 i ∧ m37 53 i ≤ 2000 := by rw [e38, up_s]; omega
                    have hs52 : m37 52 = y 52 := by rw [e38, up_i _ _ _ (by omega)]
                    refine z_iload (pc := 173) hO 8 dX12_change_173 rfl ?_
                    refine z_aload_n (pc := 175) hO 1 dX12_change_175 rfl rfl ?_
                    refine gf_X12_made (pc := 176) hO f_X12_16 dX12_change_176 ?_
                    refine z_iload (pc := 179) hO 9 dX12_change_179 rfl ?_
                    refine z_iald (pc := 181) hO isI_53 (by omega) dX12_change_181 ?_
                    refine z_iload (pc := 182) hO 0 dX12_change_182 rfl ?_
                    refine z_icmp_ne (pc := 184) hO (tgt := 191) dX12_change_184 (by decide) (by omega) (by omega) (fun b39 => ?_) (fun b39 => ?_)
                    · refine z_iconst (pc := 191) hO dX12_change_191 ?_
                      refine z_iadd (pc := 192) hO dX12_change_192 ?_
                      refine z_istore (pc := 193) hO (lv' := [(7, .int (zi (w9 + 1))), (9, .int (zi (y 52 ((81 * q) + i)))), (0, .ref (gA g 50)), (1, .int (zi q)), (2, .int (zi ch)), (3, .int (zi b)), (4, .int (zi 1)), (5, .int (zi 1)), (6, .int (zi (x 51 q))), (8, .int (zi i))]) dX12_change_193 (by decide) rfl ?_
                      refine z_iinc (pc := 195) hO 9 (lv' := [(8, .int (zi (i + 1))), (7, .int (zi (w9 + 1))), (9, .int (zi (y 52 ((81 * q) + i)))), (0, .ref (gA g 50)), (1, .int (zi q)), (2, .int (zi ch)), (3, .int (zi b)), (4, .int (zi 1)), (5, .int (zi 1)), (6, .int (zi (x 51 q)))]) dX12_change_195 rfl (by decide) rfl ?_
                      refine z_goto (pc := 198) hO (tgt := 102) dX12_change_198 (by decide) ?_
                      refine z_sub [3, 4, 5, 6, 7, 8, 9, 1, 0] rfl ?_
                      exact ih102 (w9 + 1) (i + 1) m37 (by omega) (by omega) (by intro p a c; subst m37; exact dite (p = i) (fun e => by rw [e]; exact hst) (fun e => by rw [up_n _ _ (by omega)]; exact hA p a (by omega))) (by rw [sm_s _ h0.1, ← hC]; first | (rw [if_pos (by omega)]; done) | (rw [if_neg (by omega)]; done)) (by intro a ha; subst m37; rw [up_i _ _ _ ha]; exact hfr a ha)
                    · refine z_iconst (pc := 187) hO dX12_change_187 ?_
                      refine z_goto (pc := 188) hO (tgt := 192) dX12_change_188 (by decide) ?_
                      refine z_iadd (pc := 192) hO dX12_change_192 ?_
                      refine z_istore (pc := 193) hO (lv' := [(7, .int (zi (w9 + 0))), (9, .int (zi (y 52 ((81 * q) + i)))), (0, .ref (gA g 50)), (1, .int (zi q)), (2, .int (zi ch)), (3, .int (zi b)), (4, .int (zi 1)), (5, .int (zi 1)), (6, .int (zi (x 51 q))), (8, .int (zi i))]) dX12_change_193 (by decide) rfl ?_
                      refine z_iinc (pc := 195) hO 9 (lv' := [(8, .int (zi (i + 1))), (7, .int (zi (w9 + 0))), (9, .int (zi (y 52 ((81 * q) + i)))), (0, .ref (gA g 50)), (1, .int (zi q)), (2, .int (zi ch)), (3, .int (zi b)), (4, .int (zi 1)), (5, .int (zi 1)), (6, .int (zi (x 51 q)))]) dX12_change_195 rfl (by decide) rfl ?_
                      refine z_goto (pc := 198) hO (tgt := 102) dX12_change_198 (by decide) ?_
                      refine z_sub [3, 4, 5, 6, 7, 8, 9, 1, 0] rfl ?_
                      exact ih102 (w9 + 0) (i + 1) m37 (by omega) (by omega) (by intro p a c; subst m37; exact dite (p = i) (fun e => by rw [e]; exact hst) (fun e => by rw [up_n _ _ (by omega)]; exact hA p a (by omega))) (by rw [sm_s _ h0.1, ← hC]; first | (rw [if_pos (by omega)]; done) | (rw [if_neg (by omega)]; done)) (by intro a ha; subst m37; rw [up_i _ _ _ ha]; exact hfr a ha)
            refine z_sub [5, 6, 7, 8, 4, 3, 2, 1, 0] rfl ?_
            exact L102 _ 0 0 m23 (Nat.lt_succ_self _) (by omega) (by intro p a c; omega) (by rfl) (by intro a _; rw [hw])
          · skip
            exact absurd (hok.2.2 (by omega)) pb22
      · skip
        exfalso; omega
    · skip
      exfalso; omega
  · skip
    exfalso; omega

set_option maxHeartbeats 4000000 in
theorem c_X12_formAt (l : Launch) (g : Gl) (x : Me) (q : Int) (fm : Int) (p : Int)  (hG : MG x q) (hm : 0 ≤ fm ∧ fm < 8) (hp : 0 ≤ p ∧ p < (x 51 q * x 51 q)) : ctQ l g yX12_formAt cX12_formAt 6 (some .int) 2 45 [.ref (gA g 50), .int (zi q), .int (zi fm), .int (zi p)] x (QIu g (fun z x' => z = (nd x q (fmp (x 51 q) fm p)) ∧ x' = x)) := by
  refine ct_start (own := RX12) (lv := [(0, .ref (gA g 50)), (1, .int (zi q)), (2, .int (zi fm)), (3, .int (zi p))]) (plainFor_of_name (by decide)) rfl (Nat.le_of_ble_eq_true rfl) rfl ?_
  intro Γ hΓ hO hr hQ _
  obtain ⟨hq, hs, hf⟩ := id hG
  have hsq := sq9 hs
  have ht := tur_rng (t := fm % 4) hs hp
  have hf2 := fli_rng (t := 1) hs ht
  refine z_aload_n (pc := 0) hO 0 dX12_formAt_0 rfl rfl ?_
  refine gf_X12_sideOf (pc := 1) hO f_X12_7 dX12_formAt_1 ?_
  refine z_iload_n (pc := 4) hO 1 dX12_formAt_4 rfl rfl ?_
  refine z_iald (pc := 5) hO isI_51 (by omega) dX12_formAt_5 ?_
  refine z_istore (pc := 6) hO (lv' := [(4, .int (zi (x 51 q))), (0, .ref (gA g 50)), (1, .int (zi q)), (2, .int (zi fm)), (3, .int (zi p))]) dX12_formAt_6 (by decide) rfl ?_
  refine z_iload (pc := 8) hO 0 dX12_formAt_8 rfl ?_
  refine z_iload_n (pc := 10) hO 3 dX12_formAt_10 rfl rfl ?_
  refine z_iconst (pc := 11) hO dX12_formAt_11 ?_
  refine z_irem (pc := 12) hO dX12_formAt_12 (by omega) (by omega) ?_
  refine z_iload_n (pc := 13) hO 4 dX12_formAt_13 rfl rfl ?_
  refine z_callSIp (pc := 14) hO (As := [.int (zi (x 51 q)), .int (zi (fm % 4)), .int (zi p)]) (st := []) (c_X12_turned (qL Γ) g x (x 51 q) (fm % 4) p (by first | assumption | omega) (by first | assumption | omega) (by first | assumption | omega)) k_X12_121 rfl (Nat.le_of_ble_eq_true rfl) (by decide) (by decide) ⟨by decide, by decide⟩ dX12_formAt_14 ?_
  refine z_istore (pc := 17) hO (lv' := [(5, .int (zi (tur (x 51 q) (fm % 4) p))), (4, .int (zi (x 51 q))), (0, .ref (gA g 50)), (1, .int (zi q)), (2, .int (zi fm)), (3, .int (zi p))]) dX12_formAt_17 (by decide) rfl ?_
  refine z_aload_n (pc := 19) hO 2 dX12_formAt_19 rfl rfl ?_
  refine gf_X12_numbers (pc := 20) hO f_X12_13 dX12_formAt_20 ?_
  refine z_bipush (pc := 23) hO dX12_formAt_23 (by decide) ?_
  refine z_iload_n (pc := 25) hO 3 dX12_formAt_25 rfl rfl ?_
  refine z_imul (pc := 26) hO dX12_formAt_26 ?_
  refine z_iload_n (pc := 27) hO 4 dX12_formAt_27 rfl rfl ?_
  refine z_iconst (pc := 28) hO dX12_formAt_28 ?_
  refine z_icmp_ge (pc := 29) hO (tgt := 37) dX12_formAt_29 (by decide) (by omega) (by omega) (fun b1 => ?_) (fun b1 => ?_)
  · refine z_iload (pc := 37) hO 1 dX12_formAt_37 rfl ?_
    refine z_iload (pc := 39) hO 0 dX12_formAt_39 rfl ?_
    refine z_callSIp (pc := 41) hO (As := [.int (zi (x 51 q)), .int (zi (tur (x 51 q) (fm % 4) p))]) (st := [.int (zi (81 * q)), .ref (gA g 52)]) (c_X12_flipped (qL Γ) g x (x 51 q) (tur (x 51 q) (fm % 4) p) (by first | assumption | omega) (by first | assumption | omega)) k_X12_124 rfl (Nat.le_of_ble_eq_true rfl) (by decide) (by decide) ⟨by decide, by decide⟩ dX12_formAt_41 ?_
    refine z_iadd (pc := 44) hO dX12_formAt_44 ?_
    refine z_iald (pc := 45) hO isI_52 (by omega) dX12_formAt_45 ?_
    exact z_iret (pc := 46) hO hr hQ rfl dX12_formAt_46 ⟨by first | (unfold fmp; first | (rw [show fm / 4 = 1 by omega, nd_in (by omega)]; done) | (rw [show fm / 4 = 0 by omega]; unfold fli; rw [if_pos rfl, nd_in (by omega)]); done) | (exfalso; omega), rfl⟩
  · refine z_iload (pc := 32) hO 0 dX12_formAt_32 rfl ?_
    refine z_goto (pc := 34) hO (tgt := 44) dX12_formAt_34 (by decide) ?_
    refine z_iadd (pc := 44) hO dX12_formAt_44 ?_
    refine z_iald (pc := 45) hO isI_52 (by omega) dX12_formAt_45 ?_
    exact z_iret (pc := 46) hO hr hQ rfl dX12_formAt_46 ⟨by first | (unfold fmp; first | (rw [show fm / 4 = 1 by omega, nd_in (by omega)]; done) | (rw [show fm / 4 = 0 by omega]; unfold fli; rw [if_pos rfl, nd_in (by omega)]); done) | (exfalso; omega), rfl⟩

set_option maxHeartbeats 4000000 in
theorem c_X12_isForm (l : Launch) (g : Gl) (x : Me) (q : Int) (fm : Int) (r : Int)  (hG : MG x q) (hGr : MG x r) (hm : 0 ≤ fm ∧ fm < 8) : ctQ l g yX12_isForm cX12_isForm 6 (some .boolean) 3 70 [.ref (gA g 50), .int (zi q), .int (zi fm), .int (zi r)] x (QIu g (fun z x' => ((z = 1 ∧ (x 51 q = x 51 r ∧ isF (x 51 q) (nd x q) fm (nd x r))) ∨ (z = 0 ∧ ¬ (x 51 q = x 51 r ∧ isF (x 51 q) (nd x q) fm (nd x r)))) ∧ x' = x)) := by
  refine ct_start (own := RX12) (lv := [(0, .ref (gA g 50)), (1, .int (zi q)), (2, .int (zi fm)), (3, .int (zi r))]) (plainFor_of_name (by decide)) rfl (Nat.le_of_ble_eq_true rfl) rfl ?_
  intro Γ hΓ hO hr hQ _
  obtain ⟨hq, hs, hf⟩ := id hG
  have hsq := sq9 hs
  have hrq := hGr.1
  have hrs := hGr.2.1
  have hN := nd_rng hG
  have hNr := nd_rng hGr
  have J20 : ∀ (b0 : Int), ((b0 = 1 ∧ x 51 q = x 51 r) ∨ (b0 = 0 ∧ x 51 q ≠ x 51 r)) → Zz Γ g 6 0 0 x 20 [(0, .ref (gA g 50)), (1, .int (zi q)), (2, .int (zi fm)), (3, .int (zi r))] [.int (zi b0)] := by
    intro b0 h_b
    refine z_istore (pc := 20) hO (lv' := [(4, .int (zi b0)), (0, .ref (gA g 50)), (1, .int (zi q)), (2, .int (zi fm)), (3, .int (zi r))]) dX12_isForm_20 (by decide) rfl ?_
    refine z_iconst (pc := 22) hO dX12_isForm_22 ?_
    refine z_istore (pc := 23) hO (lv' := [(5, .int (zi 0)), (4, .int (zi b0)), (0, .ref (gA g 50)), (1, .int (zi q)), (2, .int (zi fm)), (3, .int (zi r))]) dX12_isForm_23 (by decide) rfl ?_
    have L25 : ∀ (N : Nat) (b : Int) (i : Int), ((x 51 q * x 51 q) - i).toNat < N → (0 ≤ i ∧ i ≤ (x 51 q * x 51 q)) → ((b = 1 ∧ x 51 q = x 51 r ∧ ∀ l, 0 ≤ l → l < i → nd x q (fmp (x 51 q) fm l) = nd x r l) ∨ (b = 0 ∧ ¬ (x 51 q = x 51 r ∧ isF (x 51 q) (nd x q) fm (nd x r)))) → Zz Γ g 6 0 0 x 25 [(0, .ref (gA g 50)), (1, .int (zi q)), (2, .int (zi fm)), (3, .int (zi r)), (4, .int (zi b)), (5, .int (zi i))] [] := by
      intro N
      induction N with
      | zero => intro b i hm; exact absurd hm (Nat.not_lt_zero _)
      | succ N ih25 =>
        intro b i hm h0 hA
        have hbb : b = 0 ∨ b = 1 := by rcases hA with ⟨e, _⟩ | ⟨e, _⟩ <;> omega
        have n1 := hN (fmp (x 51 q) fm i)
        have n2 := hNr i
        refine z_iload (pc := 25) hO 5 dX12_isForm_25 rfl ?_
        refine z_aload_n (pc := 27) hO 0 dX12_isForm_27 rfl rfl ?_
        refine z_iload_n (pc := 28) hO 1 dX12_isForm_28 rfl rfl ?_
        refine z_callVIp (pc := 29) hO (As := [.int (zi q)]) (st := [.int (zi i)]) (c_X12_areaOf (qL Γ) g x q (by first | assumption | omega)) k_X12_100 isO_50 rfl (Nat.le_of_ble_eq_true rfl) (by decide) (by decide) ⟨by decide, by decide⟩ dX12_isForm_29 ?_
        refine z_icmp_ge (pc := 32) hO (tgt := 76) dX12_isForm_32 (by decide) (by omega) (by omega) (fun b1 => ?_) (fun b1 => ?_)
        · refine z_iload (pc := 76) hO 4 dX12_isForm_76 rfl ?_
          exact z_iret (pc := 78) hO hr hQ (zi_bool (by omega)).1 dX12_isForm_78 (by first | (refine ⟨?_, rfl⟩; rcases hA with ⟨e, h1, h2⟩ | ⟨e, h⟩; exact Or.inl ⟨e, h1, fun l a c => h2 l a (by omega)⟩; exact Or.inr ⟨e, h⟩; done) | (exfalso; omega))
        · refine z_iload (pc := 35) hO 4 dX12_isForm_35 rfl ?_
          refine z_if_eq (pc := 37) hO (tgt := 76) dX12_isForm_37 (by decide) (by omega) (fun b2 => ?_) (fun b2 => ?_)
          · refine z_iload (pc := 76) hO 4 dX12_isForm_76 rfl ?_
            exact z_iret (pc := 78) hO hr hQ (zi_bool (by omega)).1 dX12_isForm_78 (by first | (refine ⟨?_, rfl⟩; rcases hA with ⟨e, h1, h2⟩ | ⟨e, h⟩; exact Or.inl ⟨e, h1, fun l a c => h2 l a (by omega)⟩; exact Or.inr ⟨e, h⟩; done) | (exfalso; omega))
          · have hfr := fmp_rng (form := fm) hs (p := i) (by omega)
            have g2 : nd x r i = x 52 (81 * r + i) := nd_in (by omega)
            refine z_aload_n (pc := 40) hO 0 dX12_isForm_40 rfl rfl ?_
            refine z_iload_n (pc := 41) hO 1 dX12_isForm_41 rfl rfl ?_
            refine z_iload_n (pc := 42) hO 2 dX12_isForm_42 rfl rfl ?_
            refine z_iload (pc := 43) hO 5 dX12_isForm_43 rfl ?_
            refine z_callVIp (pc := 45) hO (As := [.int (zi q), .int (zi fm), .int (zi i)]) (st := []) (c_X12_formAt (qL Γ) g x q fm i (by first | assumption | omega) (by first | assumption | omega) (by first | assumption | omega)) k_X12_138 isO_50 rfl (Nat.le_of_ble_eq_true rfl) (by decide) (by decide) ⟨by decide, by decide⟩ dX12_isForm_45 ?_
            refine z_aload_n (pc := 48) hO 0 dX12_isForm_48 rfl rfl ?_
            refine gf_X12_numbers (pc := 49) hO f_X12_13 dX12_isForm_49 ?_
            refine z_bipush (pc := 52) hO dX12_isForm_52 (by decide) ?_
            refine z_iload_n (pc := 54) hO 3 dX12_isForm_54 rfl rfl ?_
            refine z_imul (pc := 55) hO dX12_isForm_55 ?_
            refine z_iload (pc := 56) hO 5 dX12_isForm_56 rfl ?_
            refine z_iadd (pc := 58) hO dX12_isForm_58 ?_
            refine z_iald (pc := 59) hO isI_52 (by omega) dX12_isForm_59 ?_
            refine z_icmp_ne (pc := 60) hO (tgt := 67) dX12_isForm_60 (by decide) (by omega) (by omega) (fun b3 => ?_) (fun b3 => ?_)
            · refine z_iconst (pc := 67) hO dX12_isForm_67 ?_
              refine z_istore (pc := 68) hO (lv' := [(4, .int (zi 0)), (0, .ref (gA g 50)), (1, .int (zi q)), (2, .int (zi fm)), (3, .int (zi r)), (5, .int (zi i))]) dX12_isForm_68 (by decide) rfl ?_
              refine z_iinc (pc := 70) hO 5 (lv' := [(5, .int (zi (i + 1))), (4, .int (zi 0)), (0, .ref (gA g 50)), (1, .int (zi q)), (2, .int (zi fm)), (3, .int (zi r))]) dX12_isForm_70 rfl (by decide) rfl ?_
              refine z_goto (pc := 73) hO (tgt := 25) dX12_isForm_73 (by decide) ?_
              refine z_sub [2, 3, 4, 5, 1, 0] rfl ?_
              exact ih25 0 (i + 1) (by omega) (by omega) (by rcases hA with ⟨h1, h2, h3⟩ | ⟨h1, _⟩; (first | exact Or.inl ⟨rfl, h2, fun l a c => dite (l = i) (fun e => by rw [e]; omega) (fun e => h3 l a (by omega))⟩ | exact Or.inr ⟨rfl, fun h => by have h4 := h.2 i (by omega) (by omega); omega⟩); omega)
            · refine z_iconst (pc := 63) hO dX12_isForm_63 ?_
              refine z_goto (pc := 64) hO (tgt := 68) dX12_isForm_64 (by decide) ?_
              refine z_istore (pc := 68) hO (lv' := [(4, .int (zi 1)), (0, .ref (gA g 50)), (1, .int (zi q)), (2, .int (zi fm)), (3, .int (zi r)), (5, .int (zi i))]) dX12_isForm_68 (by decide) rfl ?_
              refine z_iinc (pc := 70) hO 5 (lv' := [(5, .int (zi (i + 1))), (4, .int (zi 1)), (0, .ref (gA g 50)), (1, .int (zi q)), (2, .int (zi fm)), (3, .int (zi r))]) dX12_isForm_70 rfl (by decide) rfl ?_
              refine z_goto (pc := 73) hO (tgt := 25) dX12_isForm_73 (by decide) ?_
              refine z_sub [2, 3, 4, 5, 1, 0] rfl ?_
              exact ih25 1 (i + 1) (by omega) (by omega) (by rcases hA with ⟨h1, h2, h3⟩ | ⟨h1, _⟩; (first | exact Or.inl ⟨rfl, h2, fun l a c => dite (l = i) (fun e => by rw [e]; omega) (fun e => h3 l a (by omega))⟩ | exact Or.inr ⟨rfl, fun h => by have h4 := h.2 i (by omega) (by omega); omega⟩); omega)
    refine z_sub [2, 3, 4, 5, 1, 0] rfl ?_
    exact L25 _ b0 0 (Nat.lt_succ_self _) (by omega) (by rcases h_b with ⟨e, h⟩ | ⟨e, h⟩; exact Or.inl ⟨e, h, fun l a c => by omega⟩; exact Or.inr ⟨e, fun h2 => h h2.1⟩)
  refine z_aload_n (pc := 0) hO 0 dX12_isForm_0 rfl rfl ?_
  refine gf_X12_sideOf (pc := 1) hO f_X12_7 dX12_isForm_1 ?_
  refine z_iload_n (pc := 4) hO 1 dX12_isForm_4 rfl rfl ?_
  refine z_iald (pc := 5) hO isI_51 (by omega) dX12_isForm_5 ?_
  refine z_aload_n (pc := 6) hO 0 dX12_isForm_6 rfl rfl ?_
  refine gf_X12_sideOf (pc := 7) hO f_X12_7 dX12_isForm_7 ?_
  refine z_iload_n (pc := 10) hO 3 dX12_isForm_10 rfl rfl ?_
  refine z_iald (pc := 11) hO isI_51 (by omega) dX12_isForm_11 ?_
  refine z_icmp_ne (pc := 12) hO (tgt := 19) dX12_isForm_12 (by decide) (by omega) (by omega) (fun b4 => ?_) (fun b4 => ?_)
  · refine z_iconst (pc := 19) hO dX12_isForm_19 ?_
    refine z_sub [0, 1, 2, 3] rfl ?_
    exact J20 0 (by omega)
  · refine z_iconst (pc := 15) hO dX12_isForm_15 ?_
    refine z_goto (pc := 16) hO (tgt := 20) dX12_isForm_16 (by decide) ?_
    refine z_sub [0, 1, 2, 3] rfl ?_
    exact J20 1 (by omega)

set_option maxHeartbeats 4000000 in
theorem c_X12_areKin (l : Launch) (g : Gl) (x : Me) (q : Int) (r : Int)  (hG : MG x q) (hGr : MG x r) : ctQ l g yX12_areKin cX12_areKin 5 (some .boolean) 4 95 [.ref (gA g 50), .int (zi q), .int (zi r)] x (QIu g (fun z x' => ((z = 1 ∧ (KD x q r)) ∨ (z = 0 ∧ ¬ (KD x q r))) ∧ x' = x)) := by
  refine ct_start (own := RX12) (lv := [(0, .ref (gA g 50)), (1, .int (zi q)), (2, .int (zi r))]) (plainFor_of_name (by decide)) rfl (Nat.le_of_ble_eq_true rfl) rfl ?_
  intro Γ hΓ hO hr hQ _
  refine z_iconst (pc := 0) hO dX12_areKin_0 ?_
  refine z_istore_n (pc := 1) hO (lv' := [(3, .int (zi 0)), (0, .ref (gA g 50)), (1, .int (zi q)), (2, .int (zi r))]) dX12_areKin_1 rfl (by decide) rfl ?_
  refine z_iconst (pc := 2) hO dX12_areKin_2 ?_
  refine z_istore (pc := 3) hO (lv' := [(4, .int (zi 0)), (3, .int (zi 0)), (0, .ref (gA g 50)), (1, .int (zi q)), (2, .int (zi r))]) dX12_areKin_3 (by decide) rfl ?_
  have L5 : ∀ (N : Nat) (b : Int) (i : Int), (8 - i).toNat < N → (0 ≤ i ∧ i ≤ 8) → ((b = 1 ∧ KD x q r) ∨ (b = 0 ∧ ∀ fm, 0 ≤ fm → fm < i → ¬ (x 51 q = x 51 r ∧ isF (x 51 q) (nd x q) fm (nd x r)))) → Zz Γ g 5 0 0 x 5 [(0, .ref (gA g 50)), (1, .int (zi q)), (2, .int (zi r)), (3, .int (zi b)), (4, .int (zi i))] [] := by
    intro N
    induction N with
    | zero => intro b i hm; exact absurd hm (Nat.not_lt_zero _)
    | succ N ih5 =>
      intro b i hm h0 hA
      have hbb : b = 0 ∨ b = 1 := by rcases hA with ⟨e, _⟩ | ⟨e, _⟩ <;> omega
      refine z_iload (pc := 5) hO 4 dX12_areKin_5 rfl ?_
      refine z_bipush (pc := 7) hO dX12_areKin_7 (by decide) ?_
      refine z_icmp_ge (pc := 9) hO (tgt := 39) dX12_areKin_9 (by decide) (by omega) (by omega) (fun b1 => ?_) (fun b1 => ?_)
      · refine z_iload_n (pc := 39) hO 3 dX12_areKin_39 rfl rfl ?_
        exact z_iret (pc := 40) hO hr hQ (zi_bool (by omega)).1 dX12_areKin_40 (by first | (refine ⟨?_, rfl⟩; rcases hA with ⟨e, h⟩ | ⟨e, h⟩; exact Or.inl ⟨e, h⟩; exact Or.inr ⟨e, fun ⟨fm, a, c, h2⟩ => h fm a (by omega) h2⟩; done) | (exfalso; omega))
      · refine z_iload_n (pc := 12) hO 3 dX12_areKin_12 rfl rfl ?_
        refine z_if_ne (pc := 13) hO (tgt := 27) dX12_areKin_13 (by decide) (by omega) (fun b2 => ?_) (fun b2 => ?_)
        · refine z_iconst (pc := 27) hO dX12_areKin_27 ?_
          refine z_goto (pc := 28) hO (tgt := 32) dX12_areKin_28 (by decide) ?_
          refine z_istore_n (pc := 32) hO (lv' := [(3, .int (zi 1)), (0, .ref (gA g 50)), (1, .int (zi q)), (2, .int (zi r)), (4, .int (zi i))]) dX12_areKin_32 rfl (by decide) rfl ?_
          refine z_iinc (pc := 33) hO 4 (lv' := [(4, .int (zi (i + 1))), (3, .int (zi 1)), (0, .ref (gA g 50)), (1, .int (zi q)), (2, .int (zi r))]) dX12_areKin_33 rfl (by decide) rfl ?_
          refine z_goto (pc := 36) hO (tgt := 5) dX12_areKin_36 (by decide) ?_
          refine z_sub [2, 3, 4, 1, 0] rfl ?_
          exact ih5 1 (i + 1) (by omega) (by omega) (by first | exact Or.inl ⟨rfl, i, by omega, by omega, hpb⟩ | exact Or.inr ⟨rfl, fun l a c => dite (l = i) (fun e => by rw [e]; exact hpb) (fun e => by rcases hA with ⟨h1, _⟩ | ⟨_, h2⟩; omega; exact h2 l a (by omega))⟩ | (rcases hA with ⟨h1, h2⟩ | ⟨h1, _⟩; exact Or.inl ⟨rfl, h2⟩; omega))
        · refine z_aload_n (pc := 16) hO 0 dX12_areKin_16 rfl rfl ?_
          refine z_iload_n (pc := 17) hO 1 dX12_areKin_17 rfl rfl ?_
          refine z_iload (pc := 18) hO 4 dX12_areKin_18 rfl ?_
          refine z_iload_n (pc := 20) hO 2 dX12_areKin_20 rfl rfl ?_
          refine z_callVB (pc := 21) hO (As := [.int (zi q), .int (zi i), .int (zi r)]) (st := []) (c_X12_isForm (qL Γ) g x q i r (by first | assumption | omega) (by first | assumption | omega) (by first | assumption | omega)) k_X12_141 isO_50 rfl (Nat.le_of_ble_eq_true rfl) (by decide) (by decide) ⟨by decide, by decide⟩ dX12_areKin_21 (fun pb3 => ?_) (fun pb3 => ?_)
          · skip
            have hpb := pb3
            refine z_if_eq (pc := 24) hO (tgt := 31) dX12_areKin_24 (by decide) (by decide) (fun h => absurd h (by decide)) (fun _ => ?_)
            refine z_iconst (pc := 27) hO dX12_areKin_27 ?_
            refine z_goto (pc := 28) hO (tgt := 32) dX12_areKin_28 (by decide) ?_
            refine z_istore_n (pc := 32) hO (lv' := [(3, .int (zi 1)), (0, .ref (gA g 50)), (1, .int (zi q)), (2, .int (zi r)), (4, .int (zi i))]) dX12_areKin_32 rfl (by decide) rfl ?_
            refine z_iinc (pc := 33) hO 4 (lv' := [(4, .int (zi (i + 1))), (3, .int (zi 1)), (0, .ref (gA g 50)), (1, .int (zi q)), (2, .int (zi r))]) dX12_areKin_33 rfl (by decide) rfl ?_
            refine z_goto (pc := 36) hO (tgt := 5) dX12_areKin_36 (by decide) ?_
            refine z_sub [2, 3, 4, 1, 0] rfl ?_
            exact ih5 1 (i + 1) (by omega) (by omega) (by first | exact Or.inl ⟨rfl, i, by omega, by omega, hpb⟩ | exact Or.inr ⟨rfl, fun l a c => dite (l = i) (fun e => by rw [e]; exact hpb) (fun e => by rcases hA with ⟨h1, _⟩ | ⟨_, h2⟩; omega; exact h2 l a (by omega))⟩ | (rcases hA with ⟨h1, h2⟩ | ⟨h1, _⟩; exact Or.inl ⟨rfl, h2⟩; omega))
          · skip
            have hpb := pb3
            refine z_if_eq (pc := 24) hO (tgt := 31) dX12_areKin_24 (by decide) (by decide) (fun _ => ?_) (fun h => absurd h (by decide))
            refine z_iconst (pc := 31) hO dX12_areKin_31 ?_
            refine z_istore_n (pc := 32) hO (lv' := [(3, .int (zi 0)), (0, .ref (gA g 50)), (1, .int (zi q)), (2, .int (zi r)), (4, .int (zi i))]) dX12_areKin_32 rfl (by decide) rfl ?_
            refine z_iinc (pc := 33) hO 4 (lv' := [(4, .int (zi (i + 1))), (3, .int (zi 0)), (0, .ref (gA g 50)), (1, .int (zi q)), (2, .int (zi r))]) dX12_areKin_33 rfl (by decide) rfl ?_
            refine z_goto (pc := 36) hO (tgt := 5) dX12_areKin_36 (by decide) ?_
            refine z_sub [2, 3, 4, 1, 0] rfl ?_
            exact ih5 0 (i + 1) (by omega) (by omega) (by first | exact Or.inl ⟨rfl, i, by omega, by omega, hpb⟩ | exact Or.inr ⟨rfl, fun l a c => dite (l = i) (fun e => by rw [e]; exact hpb) (fun e => by rcases hA with ⟨h1, _⟩ | ⟨_, h2⟩; omega; exact h2 l a (by omega))⟩ | (rcases hA with ⟨h1, h2⟩ | ⟨h1, _⟩; exact Or.inl ⟨rfl, h2⟩; omega))
  refine z_sub [2, 3, 4, 1, 0] rfl ?_
  exact L5 _ 0 0 (Nat.lt_succ_self _) (by omega) (by exact Or.inr ⟨rfl, fun l a c => by omega⟩)

set_option maxHeartbeats 4000000 in
theorem e_X12_same (l : Launch) (g : Gl) (x : Me) (q : Int) (r : Int)  (hM : MS x) (r_q : -2147483648 ≤ q ∧ q < 2147483648) (r_r : -2147483648 ≤ r ∧ r < 2147483648) (hno : ¬ (((0 ≤ q ∧ q < x 50 1) ∧ 0 ≤ r ∧ r < x 50 1))) : ctQ l g yX12_same cX12_same 3 (some .boolean) 5 119 [.ref (gA g 50), .int (zi q), .int (zi r)] x (QIu g (fun z x' => z = 0 ∧ x' = up x 50 0 (exn ((0 ≤ q ∧ q < x 50 1) ∧ 0 ≤ r ∧ r < x 50 1) (True) 1 0 0))) := by
  refine ct_start (own := RX12) (lv := [(0, .ref (gA g 50)), (1, .int (zi q)), (2, .int (zi r))]) (plainFor_of_name (by decide)) rfl (Nat.le_of_ble_eq_true rfl) rfl ?_
  intro Γ hΓ hO hr hQ _
  have hM1 := hM.1
  refine z_aload_n (pc := 0) hO 0 dX12_same_0 rfl rfl ?_
  refine z_aload_n (pc := 1) hO 0 dX12_same_1 rfl rfl ?_
  refine z_iload_n (pc := 2) hO 1 dX12_same_2 rfl rfl ?_
  refine z_callVB (pc := 3) hO (As := [.int (zi q)]) (st := [.ref (gA g 50)]) (c_X12_isSquare (qL Γ) g x q (by first | assumption | omega) (by first | assumption | omega)) k_X12_59 isO_50 rfl (Nat.le_of_ble_eq_true rfl) (by decide) (by decide) ⟨by decide, by decide⟩ dX12_same_3 (fun pb1 => ?_) (fun pb1 => ?_)
  · skip
    refine z_if_eq (pc := 6) hO (tgt := 21) dX12_same_6 (by decide) (by decide) (fun h => absurd h (by decide)) (fun _ => ?_)
    refine z_aload_n (pc := 9) hO 0 dX12_same_9 rfl rfl ?_
    refine z_iload_n (pc := 10) hO 2 dX12_same_10 rfl rfl ?_
    refine z_callVB (pc := 11) hO (As := [.int (zi r)]) (st := [.ref (gA g 50)]) (c_X12_isSquare (qL Γ) g x r (by first | assumption | omega) (by first | assumption | omega)) k_X12_59 isO_50 rfl (Nat.le_of_ble_eq_true rfl) (by decide) (by decide) ⟨by decide, by decide⟩ dX12_same_11 (fun pb2 => ?_) (fun pb2 => ?_)
    · skip
      refine z_if_eq (pc := 14) hO (tgt := 21) dX12_same_14 (by decide) (by decide) (fun h => absurd h (by decide)) (fun _ => ?_)
      refine z_iconst (pc := 17) hO dX12_same_17 ?_
      refine z_goto (pc := 18) hO (tgt := 22) dX12_same_18 (by decide) ?_
      refine z_callVIm (pc := 22) hO (As := [.int (zi 0)]) (st := []) (c_X12_isFine0 (qL Γ) g x 0 (by first | assumption | omega)) k_X12_63 isO_50 rfl (Nat.le_of_ble_eq_true rfl) (by decide) (by decide) ⟨by decide, by decide⟩ dX12_same_22 (fun m3 e4 => ?_)
      refine z_if_eq (pc := 25) hO (tgt := 41) dX12_same_25 (by decide) (by decide) (fun h => absurd h (by decide)) (fun _ => ?_)
      exfalso; omega
    · skip
      refine z_if_eq (pc := 14) hO (tgt := 21) dX12_same_14 (by decide) (by decide) (fun _ => ?_) (fun h => absurd h (by decide))
      refine z_iconst (pc := 21) hO dX12_same_21 ?_
      refine z_callVIm (pc := 22) hO (As := [.int (zi 1)]) (st := []) (c_X12_isFine1 (qL Γ) g x 1 (by first | assumption | omega)) k_X12_63 isO_50 rfl (Nat.le_of_ble_eq_true rfl) (by decide) (by decide) ⟨by decide, by decide⟩ dX12_same_22 (fun m5 e6 => ?_)
      refine z_if_eq (pc := 25) hO (tgt := 41) dX12_same_25 (by decide) (by decide) (fun _ => ?_) (fun h => absurd h (by decide))
      refine z_iconst (pc := 41) hO dX12_same_41 ?_
      exact z_iret (pc := 42) hO hr hQ rfl dX12_same_42 (by first | (refine ⟨rfl, ?_⟩; first | (rw [exn_1 (by omega)]; assumption) | (rw [exn_2 (by first | trivial | omega) (by omega)]; assumption) | (rw [exn_3 (by first | trivial | omega) (by first | trivial | omega)]; assumption); done) | (exfalso; omega))
  · skip
    refine z_if_eq (pc := 6) hO (tgt := 21) dX12_same_6 (by decide) (by decide) (fun _ => ?_) (fun h => absurd h (by decide))
    refine z_iconst (pc := 21) hO dX12_same_21 ?_
    refine z_callVIm (pc := 22) hO (As := [.int (zi 1)]) (st := []) (c_X12_isFine1 (qL Γ) g x 1 (by first | assumption | omega)) k_X12_63 isO_50 rfl (Nat.le_of_ble_eq_true rfl) (by decide) (by decide) ⟨by decide, by decide⟩ dX12_same_22 (fun m7 e8 => ?_)
    refine z_if_eq (pc := 25) hO (tgt := 41) dX12_same_25 (by decide) (by decide) (fun _ => ?_) (fun h => absurd h (by decide))
    refine z_iconst (pc := 41) hO dX12_same_41 ?_
    exact z_iret (pc := 42) hO hr hQ rfl dX12_same_42 (by first | (refine ⟨rfl, ?_⟩; first | (rw [exn_1 (by omega)]; assumption) | (rw [exn_2 (by first | trivial | omega) (by omega)]; assumption) | (rw [exn_3 (by first | trivial | omega) (by first | trivial | omega)]; assumption); done) | (exfalso; omega))

set_option maxHeartbeats 4000000 in
theorem c_X12_same (l : Launch) (g : Gl) (x : Me) (q : Int) (r : Int)  (hM : MS x) (r_q : -2147483648 ≤ q ∧ q < 2147483648) (r_r : -2147483648 ≤ r ∧ r < 2147483648) (hok : ((0 ≤ q ∧ q < x 50 1) ∧ 0 ≤ r ∧ r < x 50 1)) : ctQ l g yX12_same cX12_same 3 (some .boolean) 5 119 [.ref (gA g 50), .int (zi q), .int (zi r)] x (QIu g (fun z x' => ((z = 1 ∧ (KD x q r)) ∨ (z = 0 ∧ ¬ (KD x q r))) ∧ x' = up x 50 0 0)) := by
  refine ct_start (own := RX12) (lv := [(0, .ref (gA g 50)), (1, .int (zi q)), (2, .int (zi r))]) (plainFor_of_name (by decide)) rfl (Nat.le_of_ble_eq_true rfl) rfl ?_
  intro Γ hΓ hO hr hQ _
  have hM1 := hM.1
  refine z_aload_n (pc := 0) hO 0 dX12_same_0 rfl rfl ?_
  refine z_aload_n (pc := 1) hO 0 dX12_same_1 rfl rfl ?_
  refine z_iload_n (pc := 2) hO 1 dX12_same_2 rfl rfl ?_
  refine z_callVB (pc := 3) hO (As := [.int (zi q)]) (st := [.ref (gA g 50)]) (c_X12_isSquare (qL Γ) g x q (by first | assumption | omega) (by first | assumption | omega)) k_X12_59 isO_50 rfl (Nat.le_of_ble_eq_true rfl) (by decide) (by decide) ⟨by decide, by decide⟩ dX12_same_3 (fun pb1 => ?_) (fun pb1 => ?_)
  · skip
    refine z_if_eq (pc := 6) hO (tgt := 21) dX12_same_6 (by decide) (by decide) (fun h => absurd h (by decide)) (fun _ => ?_)
    refine z_aload_n (pc := 9) hO 0 dX12_same_9 rfl rfl ?_
    refine z_iload_n (pc := 10) hO 2 dX12_same_10 rfl rfl ?_
    refine z_callVB (pc := 11) hO (As := [.int (zi r)]) (st := [.ref (gA g 50)]) (c_X12_isSquare (qL Γ) g x r (by first | assumption | omega) (by first | assumption | omega)) k_X12_59 isO_50 rfl (Nat.le_of_ble_eq_true rfl) (by decide) (by decide) ⟨by decide, by decide⟩ dX12_same_11 (fun pb2 => ?_) (fun pb2 => ?_)
    · skip
      refine z_if_eq (pc := 14) hO (tgt := 21) dX12_same_14 (by decide) (by decide) (fun h => absurd h (by decide)) (fun _ => ?_)
      refine z_iconst (pc := 17) hO dX12_same_17 ?_
      refine z_goto (pc := 18) hO (tgt := 22) dX12_same_18 (by decide) ?_
      refine z_callVIm (pc := 22) hO (As := [.int (zi 0)]) (st := []) (c_X12_isFine0 (qL Γ) g x 0 (by first | assumption | omega)) k_X12_63 isO_50 rfl (Nat.le_of_ble_eq_true rfl) (by decide) (by decide) ⟨by decide, by decide⟩ dX12_same_22 (fun m3 e4 => ?_)
      refine z_if_eq (pc := 25) hO (tgt := 41) dX12_same_25 (by decide) (by decide) (fun h => absurd h (by decide)) (fun _ => ?_)
      have hG := hM.2 q (by omega) (by omega)
      have hs := hG.2.1
      have hth : m3 = up x 50 0 0 := by assumption
      have e51 : m3 51 q = x 51 q := by rw [hth, up_i _ _ _ (by omega)]
      have end_ : nd m3 q = nd x q := by funext p; rw [hth]; exact nd_th
      have hGr := hM.2 r (by omega) (by omega)
      have hrs := hGr.2.1
      have e51r : m3 51 r = x 51 r := by rw [hth, up_i _ _ _ (by omega)]
      have endr : nd m3 r = nd x r := by funext p; rw [hth]; exact nd_th
      refine z_aload_n (pc := 28) hO 0 dX12_same_28 rfl rfl ?_
      refine z_iload_n (pc := 29) hO 1 dX12_same_29 rfl rfl ?_
      refine z_iload_n (pc := 30) hO 2 dX12_same_30 rfl rfl ?_
      refine z_callVB (pc := 31) hO (As := [.int (zi q), .int (zi r)]) (st := []) (c_X12_areKin (qL Γ) g m3 q r (by rw [hth]; exact MG_th hG) (by rw [hth]; exact MG_th hGr)) k_X12_144 isO_50 rfl (Nat.le_of_ble_eq_true rfl) (by decide) (by decide) ⟨by decide, by decide⟩ dX12_same_31 (fun pb5 => ?_) (fun pb5 => ?_)
      · skip
        have hpb := pb5
        rw [hth, KD_th] at hpb
        refine z_if_eq (pc := 34) hO (tgt := 41) dX12_same_34 (by decide) (by decide) (fun h => absurd h (by decide)) (fun _ => ?_)
        refine z_iconst (pc := 37) hO dX12_same_37 ?_
        refine z_goto (pc := 38) hO (tgt := 42) dX12_same_38 (by decide) ?_
        exact z_iret (pc := 42) hO hr hQ rfl dX12_same_42 (by first | (first | exact ⟨Or.inl ⟨rfl, hpb⟩, hth⟩ | exact ⟨Or.inr ⟨rfl, hpb⟩, hth⟩; done) | (exfalso; omega))
      · skip
        have hpb := pb5
        rw [hth, KD_th] at hpb
        refine z_if_eq (pc := 34) hO (tgt := 41) dX12_same_34 (by decide) (by decide) (fun _ => ?_) (fun h => absurd h (by decide))
        refine z_iconst (pc := 41) hO dX12_same_41 ?_
        exact z_iret (pc := 42) hO hr hQ rfl dX12_same_42 (by first | (first | exact ⟨Or.inl ⟨rfl, hpb⟩, hth⟩ | exact ⟨Or.inr ⟨rfl, hpb⟩, hth⟩; done) | (exfalso; omega))
    · skip
      exfalso; omega
  · skip
    exfalso; omega

set_option maxHeartbeats 4000000 in
theorem c_X12_isLess (l : Launch) (g : Gl) (x : Me) (q : Int) (fa : Int) (fb : Int)  (hG : MG x q) (ha : 0 ≤ fa ∧ fa < 8) (hb : 0 ≤ fb ∧ fb < 8) : ctQ l g yX12_isLess cX12_isLess 7 (some .boolean) 3 70 [.ref (gA g 50), .int (zi q), .int (zi fa), .int (zi fb)] x (QIu g (fun z x' => ((z = 1 ∧ (lwr (x 51 q) (nd x q) fa fb)) ∨ (z = 0 ∧ ¬ (lwr (x 51 q) (nd x q) fa fb))) ∧ x' = x)) := by
  refine ct_start (own := RX12) (lv := [(0, .ref (gA g 50)), (1, .int (zi q)), (2, .int (zi fa)), (3, .int (zi fb))]) (plainFor_of_name (by decide)) rfl (Nat.le_of_ble_eq_true rfl) rfl ?_
  intro Γ hΓ hO hr hQ _
  obtain ⟨hq, hs, hf⟩ := id hG
  have hsq := sq9 hs
  have hN := nd_rng hG
  refine z_iconst (pc := 0) hO dX12_isLess_0 ?_
  refine z_istore (pc := 1) hO (lv' := [(4, .int (zi 0)), (0, .ref (gA g 50)), (1, .int (zi q)), (2, .int (zi fa)), (3, .int (zi fb))]) dX12_isLess_1 (by decide) rfl ?_
  have L3 : ∀ (N : Nat) (i : Int), ((x 51 q * x 51 q) - i).toNat < N → (0 ≤ i ∧ i ≤ (x 51 q * x 51 q)) → (∀ l, 0 ≤ l → l < i → nd x q (fmp (x 51 q) fa l) = nd x q (fmp (x 51 q) fb l)) → Zz Γ g 7 0 0 x 3 [(0, .ref (gA g 50)), (1, .int (zi q)), (2, .int (zi fa)), (3, .int (zi fb)), (4, .int (zi i))] [] := by
    intro N
    induction N with
    | zero => intro i hm; exact absurd hm (Nat.not_lt_zero _)
    | succ N ih3 =>
      intro i hm h0 hA
      have n1 := hN (fmp (x 51 q) fa i)
      have n2 := hN (fmp (x 51 q) fb i)
      refine z_iload (pc := 3) hO 4 dX12_isLess_3 rfl ?_
      refine z_aload_n (pc := 5) hO 0 dX12_isLess_5 rfl rfl ?_
      refine z_iload_n (pc := 6) hO 1 dX12_isLess_6 rfl rfl ?_
      refine z_callVIp (pc := 7) hO (As := [.int (zi q)]) (st := [.int (zi i)]) (c_X12_areaOf (qL Γ) g x q (by first | assumption | omega)) k_X12_100 isO_50 rfl (Nat.le_of_ble_eq_true rfl) (by decide) (by decide) ⟨by decide, by decide⟩ dX12_isLess_7 ?_
      refine z_icmp_ge (pc := 10) hO (tgt := 59) dX12_isLess_10 (by decide) (by omega) (by omega) (fun b1 => ?_) (fun b1 => ?_)
      · refine z_iconst (pc := 59) hO dX12_isLess_59 ?_
        exact z_iret (pc := 60) hO hr hQ rfl dX12_isLess_60 ⟨Or.inr ⟨rfl, by first | (rintro ⟨p, a1, a2, a3, a4⟩; have := hA p a1 (by omega); omega; done) | (exfalso; omega)⟩, rfl⟩
      · refine z_aload_n (pc := 13) hO 0 dX12_isLess_13 rfl rfl ?_
        refine z_iload_n (pc := 14) hO 1 dX12_isLess_14 rfl rfl ?_
        refine z_iload_n (pc := 15) hO 2 dX12_isLess_15 rfl rfl ?_
        refine z_iload (pc := 16) hO 4 dX12_isLess_16 rfl ?_
        refine z_callVIp (pc := 18) hO (As := [.int (zi q), .int (zi fa), .int (zi i)]) (st := []) (c_X12_formAt (qL Γ) g x q fa i (by first | assumption | omega) (by first | assumption | omega) (by first | assumption | omega)) k_X12_138 isO_50 rfl (Nat.le_of_ble_eq_true rfl) (by decide) (by decide) ⟨by decide, by decide⟩ dX12_isLess_18 ?_
        refine z_istore (pc := 21) hO (lv' := [(5, .int (zi (nd x q (fmp (x 51 q) fa i)))), (0, .ref (gA g 50)), (1, .int (zi q)), (2, .int (zi fa)), (3, .int (zi fb)), (4, .int (zi i))]) dX12_isLess_21 (by decide) rfl ?_
        refine z_aload_n (pc := 23) hO 1 dX12_isLess_23 rfl rfl ?_
        refine z_iload_n (pc := 24) hO 2 dX12_isLess_24 rfl rfl ?_
        refine z_iload_n (pc := 25) hO 4 dX12_isLess_25 rfl rfl ?_
        refine z_iload (pc := 26) hO 5 dX12_isLess_26 rfl ?_
        refine z_callVIp (pc := 28) hO (As := [.int (zi q), .int (zi fb), .int (zi i)]) (st := []) (c_X12_formAt (qL Γ) g x q fb i (by first | assumption | omega) (by first | assumption | omega) (by first | assumption | omega)) k_X12_138 isO_50 rfl (Nat.le_of_ble_eq_true rfl) (by decide) (by decide) ⟨by decide, by decide⟩ dX12_isLess_28 ?_
        refine z_istore (pc := 31) hO (lv' := [(6, .int (zi (nd x q (fmp (x 51 q) fb i)))), (5, .int (zi (nd x q (fmp (x 51 q) fa i)))), (0, .ref (gA g 50)), (1, .int (zi q)), (2, .int (zi fa)), (3, .int (zi fb)), (4, .int (zi i))]) dX12_isLess_31 (by decide) rfl ?_
        refine z_iload (pc := 33) hO 1 dX12_isLess_33 rfl ?_
        refine z_iload (pc := 35) hO 0 dX12_isLess_35 rfl ?_
        refine z_icmp_eq (pc := 37) hO (tgt := 53) dX12_isLess_37 (by decide) (by omega) (by omega) (fun b2 => ?_) (fun b2 => ?_)
        · refine z_iinc (pc := 53) hO 6 (lv' := [(4, .int (zi (i + 1))), (6, .int (zi (nd x q (fmp (x 51 q) fb i)))), (5, .int (zi (nd x q (fmp (x 51 q) fa i)))), (0, .ref (gA g 50)), (1, .int (zi q)), (2, .int (zi fa)), (3, .int (zi fb))]) dX12_isLess_53 rfl (by decide) rfl ?_
          refine z_goto (pc := 56) hO (tgt := 3) dX12_isLess_56 (by decide) ?_
          refine z_sub [3, 4, 5, 6, 0] rfl ?_
          exact ih3 (i + 1) (by omega) (by omega) (by intro l a c; exact dite (l = i) (fun e => by rw [e]; omega) (fun e => hA l a (by omega)))
        · refine z_iload (pc := 40) hO 1 dX12_isLess_40 rfl ?_
          refine z_iload (pc := 42) hO 0 dX12_isLess_42 rfl ?_
          refine z_icmp_ge (pc := 44) hO (tgt := 51) dX12_isLess_44 (by decide) (by omega) (by omega) (fun b3 => ?_) (fun b3 => ?_)
          · refine z_iconst (pc := 51) hO dX12_isLess_51 ?_
            exact z_iret (pc := 52) hO hr hQ rfl dX12_isLess_52 ⟨Or.inr ⟨rfl, by first | (first | exact ⟨i, by omega, by omega, hA, by omega⟩ | (rintro ⟨p, a1, a2, a3, a4⟩; exact dite (p < i) (fun h => by have := hA p a1 h; omega) (fun h => dite (p = i) (fun e => by rw [e] at a4; omega) (fun e => by have := a3 i (by omega) (by omega); omega))); done) | (exfalso; omega)⟩, rfl⟩
          · refine z_iconst (pc := 47) hO dX12_isLess_47 ?_
            refine z_goto (pc := 48) hO (tgt := 52) dX12_isLess_48 (by decide) ?_
            exact z_iret (pc := 52) hO hr hQ rfl dX12_isLess_52 ⟨Or.inl ⟨rfl, by first | (first | exact ⟨i, by omega, by omega, hA, by omega⟩ | (rintro ⟨p, a1, a2, a3, a4⟩; exact dite (p < i) (fun h => by have := hA p a1 h; omega) (fun h => dite (p = i) (fun e => by rw [e] at a4; omega) (fun e => by have := a3 i (by omega) (by omega); omega))); done) | (exfalso; omega)⟩, rfl⟩
  refine z_sub [1, 2, 3, 4, 0] rfl ?_
  exact L3 _ 0 (Nat.lt_succ_self _) (by omega) (by intro l _ _; omega)

set_option maxHeartbeats 4000000 in
theorem e_X12_least (l : Launch) (g : Gl) (x : Me) (q : Int) (r : Int) (c : Int)  (hM : MS x) (r_q : -2147483648 ≤ q ∧ q < 2147483648) (r_r : -2147483648 ≤ r ∧ r < 2147483648) (r_c : -2147483648 ≤ c ∧ c < 2147483648) (hno : ¬ ((((0 ≤ q ∧ q < x 50 1) ∧ (0 ≤ r ∧ r < x 51 q) ∧ 0 ≤ c ∧ c < x 51 q)))) : ctQ l g yX12_least cX12_least 6 (some .int) 4 96 [.ref (gA g 50), .int (zi q), .int (zi r), .int (zi c)] x (QIu g (fun z x' => z = 0 ∧ x' = up x 50 0 (exn (((0 ≤ q ∧ q < x 50 1) ∧ (0 ≤ r ∧ r < x 51 q) ∧ 0 ≤ c ∧ c < x 51 q)) (True) 1 0 0))) := by
  refine ct_start (own := RX12) (lv := [(0, .ref (gA g 50)), (1, .int (zi q)), (2, .int (zi r)), (3, .int (zi c))]) (plainFor_of_name (by decide)) rfl (Nat.le_of_ble_eq_true rfl) rfl ?_
  intro Γ hΓ hO hr hQ _
  have hM1 := hM.1
  refine z_aload_n (pc := 0) hO 0 dX12_least_0 rfl rfl ?_
  refine z_aload_n (pc := 1) hO 0 dX12_least_1 rfl rfl ?_
  refine z_iload_n (pc := 2) hO 1 dX12_least_2 rfl rfl ?_
  refine z_iload_n (pc := 3) hO 2 dX12_least_3 rfl rfl ?_
  refine z_iload_n (pc := 4) hO 3 dX12_least_4 rfl rfl ?_
  refine z_callVB (pc := 5) hO (As := [.int (zi q), .int (zi r), .int (zi c)]) (st := [.ref (gA g 50)]) (c_X12_isPoint (qL Γ) g x q r c (by first | assumption | omega) (by first | assumption | omega) (by first | assumption | omega) (by first | assumption | omega)) k_X12_73 isO_50 rfl (Nat.le_of_ble_eq_true rfl) (by decide) (by decide) ⟨by decide, by decide⟩ dX12_least_5 (fun pb1 => ?_) (fun pb1 => ?_)
  · skip
    refine z_if_eq (pc := 8) hO (tgt := 15) dX12_least_8 (by decide) (by decide) (fun h => absurd h (by decide)) (fun _ => ?_)
    refine z_iconst (pc := 11) hO dX12_least_11 ?_
    refine z_goto (pc := 12) hO (tgt := 16) dX12_least_12 (by decide) ?_
    refine z_callVIm (pc := 16) hO (As := [.int (zi 0)]) (st := []) (c_X12_isFine0 (qL Γ) g x 0 (by first | assumption | omega)) k_X12_63 isO_50 rfl (Nat.le_of_ble_eq_true rfl) (by decide) (by decide) ⟨by decide, by decide⟩ dX12_least_16 (fun m2 e3 => ?_)
    refine z_if_ne (pc := 19) hO (tgt := 24) dX12_least_19 (by decide) (by decide) (fun _ => ?_) (fun h => absurd h (by decide))
    exfalso; omega
  · skip
    refine z_if_eq (pc := 8) hO (tgt := 15) dX12_least_8 (by decide) (by decide) (fun _ => ?_) (fun h => absurd h (by decide))
    refine z_iconst (pc := 15) hO dX12_least_15 ?_
    refine z_callVIm (pc := 16) hO (As := [.int (zi 1)]) (st := []) (c_X12_isFine1 (qL Γ) g x 1 (by first | assumption | omega)) k_X12_63 isO_50 rfl (Nat.le_of_ble_eq_true rfl) (by decide) (by decide) ⟨by decide, by decide⟩ dX12_least_16 (fun m4 e5 => ?_)
    refine z_if_ne (pc := 19) hO (tgt := 24) dX12_least_19 (by decide) (by decide) (fun h => absurd h (by decide)) (fun _ => ?_)
    refine z_iconst (pc := 22) hO dX12_least_22 ?_
    exact z_iret (pc := 23) hO hr hQ rfl dX12_least_23 (by first | (refine ⟨rfl, ?_⟩; first | (rw [exn_1 (by omega)]; assumption) | (rw [exn_2 (by first | trivial | omega) (by omega)]; assumption) | (rw [exn_3 (by first | trivial | omega) (by first | trivial | omega)]; assumption); done) | (exfalso; omega))

set_option maxHeartbeats 4000000 in
theorem c_X12_least (l : Launch) (g : Gl) (x : Me) (q : Int) (r : Int) (c : Int)  (hM : MS x) (r_q : -2147483648 ≤ q ∧ q < 2147483648) (r_r : -2147483648 ≤ r ∧ r < 2147483648) (r_c : -2147483648 ≤ c ∧ c < 2147483648) (hok : (((0 ≤ q ∧ q < x 50 1) ∧ (0 ≤ r ∧ r < x 51 q) ∧ 0 ≤ c ∧ c < x 51 q))) : ctQ l g yX12_least cX12_least 6 (some .int) 4 96 [.ref (gA g 50), .int (zi q), .int (zi r), .int (zi c)] x (QIu g (fun z x' => z = (nd x q (fmp (x 51 q) (lst (x 51 q) (nd x q) 7) (x 51 q * r + c))) ∧ x' = up x 50 0 0)) := by
  refine ct_start (own := RX12) (lv := [(0, .ref (gA g 50)), (1, .int (zi q)), (2, .int (zi r)), (3, .int (zi c))]) (plainFor_of_name (by decide)) rfl (Nat.le_of_ble_eq_true rfl) rfl ?_
  intro Γ hΓ hO hr hQ _
  have hM1 := hM.1
  refine z_aload_n (pc := 0) hO 0 dX12_least_0 rfl rfl ?_
  refine z_aload_n (pc := 1) hO 0 dX12_least_1 rfl rfl ?_
  refine z_iload_n (pc := 2) hO 1 dX12_least_2 rfl rfl ?_
  refine z_iload_n (pc := 3) hO 2 dX12_least_3 rfl rfl ?_
  refine z_iload_n (pc := 4) hO 3 dX12_least_4 rfl rfl ?_
  refine z_callVB (pc := 5) hO (As := [.int (zi q), .int (zi r), .int (zi c)]) (st := [.ref (gA g 50)]) (c_X12_isPoint (qL Γ) g x q r c (by first | assumption | omega) (by first | assumption | omega) (by first | assumption | omega) (by first | assumption | omega)) k_X12_73 isO_50 rfl (Nat.le_of_ble_eq_true rfl) (by decide) (by decide) ⟨by decide, by decide⟩ dX12_least_5 (fun pb1 => ?_) (fun pb1 => ?_)
  · skip
    refine z_if_eq (pc := 8) hO (tgt := 15) dX12_least_8 (by decide) (by decide) (fun h => absurd h (by decide)) (fun _ => ?_)
    refine z_iconst (pc := 11) hO dX12_least_11 ?_
    refine z_goto (pc := 12) hO (tgt := 16) dX12_least_12 (by decide) ?_
    refine z_callVIm (pc := 16) hO (As := [.int (zi 0)]) (st := []) (c_X12_isFine0 (qL Γ) g x 0 (by first | assumption | omega)) k_X12_63 isO_50 rfl (Nat.le_of_ble_eq_true rfl) (by decide) (by decide) ⟨by decide, by decide⟩ dX12_least_16 (fun m2 e3 => ?_)
    refine z_if_ne (pc := 19) hO (tgt := 24) dX12_least_19 (by decide) (by decide) (fun _ => ?_) (fun h => absurd h (by decide))
    have hG := hM.2 q (by omega) (by omega)
    have hs := hG.2.1
    have hth : m2 = up x 50 0 0 := by assumption
    have e51 : m2 51 q = x 51 q := by rw [hth, up_i _ _ _ (by omega)]
    have end_ : nd m2 q = nd x q := by funext p; rw [hth]; exact nd_th
    have hpl0 := pl9 (r := r) (c := c) hs (by omega) (by omega)
    have hpl : 0 ≤ x 51 q * r + c ∧ x 51 q * r + c < x 51 q * x 51 q := ⟨hpl0.1, hpl0.2.1⟩
    refine z_iconst (pc := 24) hO dX12_least_24 ?_
    refine z_istore (pc := 25) hO (lv' := [(4, .int (zi 0)), (0, .ref (gA g 50)), (1, .int (zi q)), (2, .int (zi r)), (3, .int (zi c))]) dX12_least_25 (by decide) rfl ?_
    refine z_iconst (pc := 27) hO dX12_least_27 ?_
    refine z_istore (pc := 28) hO (lv' := [(5, .int (zi 1)), (4, .int (zi 0)), (0, .ref (gA g 50)), (1, .int (zi q)), (2, .int (zi r)), (3, .int (zi c))]) dX12_least_28 (by decide) rfl ?_
    have L30 : ∀ (N : Nat) (v : Int) (f : Int), (8 - f).toNat < N → (1 ≤ f ∧ f ≤ 8) → (0 ≤ v ∧ v < f) → (v = lst (x 51 q) (nd x q) (f - 1).toNat) → Zz Γ g 6 0 0 m2 30 [(0, .ref (gA g 50)), (1, .int (zi q)), (2, .int (zi r)), (3, .int (zi c)), (4, .int (zi v)), (5, .int (zi f))] [] := by
      intro N
      induction N with
      | zero => intro v f hm; exact absurd hm (Nat.not_lt_zero _)
      | succ N ih30 =>
        intro v f hm h0 hv hl
        refine z_iload (pc := 30) hO 5 dX12_least_30 rfl ?_
        refine z_bipush (pc := 32) hO dX12_least_32 (by decide) ?_
        refine z_icmp_ge (pc := 34) hO (tgt := 64) dX12_least_34 (by decide) (by omega) (by omega) (fun b4 => ?_) (fun b4 => ?_)
        · refine z_aload_n (pc := 64) hO 0 dX12_least_64 rfl rfl ?_
          refine z_iload_n (pc := 65) hO 1 dX12_least_65 rfl rfl ?_
          refine z_iload (pc := 66) hO 4 dX12_least_66 rfl ?_
          refine z_aload_n (pc := 68) hO 0 dX12_least_68 rfl rfl ?_
          refine gf_X12_sideOf (pc := 69) hO f_X12_7 dX12_least_69 ?_
          refine z_iload_n (pc := 72) hO 1 dX12_least_72 rfl rfl ?_
          refine z_iald (pc := 73) hO isI_51 (by omega) dX12_least_73 ?_
          rw [e51]
          refine z_iload_n (pc := 74) hO 2 dX12_least_74 rfl rfl ?_
          refine z_imul (pc := 75) hO dX12_least_75 ?_
          refine z_iload_n (pc := 76) hO 3 dX12_least_76 rfl rfl ?_
          refine z_iadd (pc := 77) hO dX12_least_77 ?_
          refine z_callVIp (pc := 78) hO (As := [.int (zi q), .int (zi v), .int (zi (((x 51 q) * r) + c))]) (st := []) (c_X12_formAt (qL Γ) g m2 q v (((x 51 q) * r) + c) (by rw [hth]; exact MG_th hG) (by first | assumption | omega) (by rw [e51]; exact hpl)) k_X12_138 isO_50 rfl (Nat.le_of_ble_eq_true rfl) (by decide) (by decide) ⟨by decide, by decide⟩ dX12_least_78 ?_
          exact z_iret (pc := 81) hO hr hQ rfl dX12_least_81 (by first | (refine ⟨?_, hth⟩; rw [e51, end_, hl, show f - 1 = 7 by omega]; rfl; done) | (exfalso; omega))
        · refine z_aload_n (pc := 37) hO 0 dX12_least_37 rfl rfl ?_
          refine z_iload_n (pc := 38) hO 1 dX12_least_38 rfl rfl ?_
          refine z_iload (pc := 39) hO 5 dX12_least_39 rfl ?_
          refine z_iload (pc := 41) hO 4 dX12_least_41 rfl ?_
          refine z_callVB (pc := 43) hO (As := [.int (zi q), .int (zi f), .int (zi v)]) (st := []) (c_X12_isLess (qL Γ) g m2 q f v (by rw [hth]; exact MG_th hG) (by first | assumption | omega) (by first | assumption | omega)) k_X12_147 isO_50 rfl (Nat.le_of_ble_eq_true rfl) (by decide) (by decide) ⟨by decide, by decide⟩ dX12_least_43 (fun pb5 => ?_) (fun pb5 => ?_)
          · skip
            have hpb := pb5
            rw [e51, end_] at hpb
            refine z_if_eq (pc := 46) hO (tgt := 54) dX12_least_46 (by decide) (by decide) (fun h => absurd h (by decide)) (fun _ => ?_)
            refine z_iload (pc := 49) hO 5 dX12_least_49 rfl ?_
            refine z_goto (pc := 51) hO (tgt := 56) dX12_least_51 (by decide) ?_
            refine z_istore (pc := 56) hO (lv' := [(4, .int (zi f)), (0, .ref (gA g 50)), (1, .int (zi q)), (2, .int (zi r)), (3, .int (zi c)), (5, .int (zi f))]) dX12_least_56 (by decide) rfl ?_
            refine z_iinc (pc := 58) hO 5 (lv' := [(5, .int (zi (f + 1))), (4, .int (zi f)), (0, .ref (gA g 50)), (1, .int (zi q)), (2, .int (zi r)), (3, .int (zi c))]) dX12_least_58 rfl (by decide) rfl ?_
            refine z_goto (pc := 61) hO (tgt := 30) dX12_least_61 (by decide) ?_
            refine z_sub [2, 3, 4, 5, 1, 0] rfl ?_
            exact ih30 f (f + 1) (by omega) (by omega) (by omega) (by rw [show f + 1 - 1 = f by omega, lst_s _ _ (by omega), ← hl]; first | (rw [ci_t hpb]; done) | (rw [ci_f hpb]; done))
          · skip
            have hpb := pb5
            rw [e51, end_] at hpb
            refine z_if_eq (pc := 46) hO (tgt := 54) dX12_least_46 (by decide) (by decide) (fun _ => ?_) (fun h => absurd h (by decide))
            refine z_iload (pc := 54) hO 4 dX12_least_54 rfl ?_
            refine z_istore (pc := 56) hO (lv' := [(4, .int (zi v)), (0, .ref (gA g 50)), (1, .int (zi q)), (2, .int (zi r)), (3, .int (zi c)), (5, .int (zi f))]) dX12_least_56 (by decide) rfl ?_
            refine z_iinc (pc := 58) hO 5 (lv' := [(5, .int (zi (f + 1))), (4, .int (zi v)), (0, .ref (gA g 50)), (1, .int (zi q)), (2, .int (zi r)), (3, .int (zi c))]) dX12_least_58 rfl (by decide) rfl ?_
            refine z_goto (pc := 61) hO (tgt := 30) dX12_least_61 (by decide) ?_
            refine z_sub [2, 3, 4, 5, 1, 0] rfl ?_
            exact ih30 v (f + 1) (by omega) (by omega) (by omega) (by rw [show f + 1 - 1 = f by omega, lst_s _ _ (by omega), ← hl]; first | (rw [ci_t hpb]; done) | (rw [ci_f hpb]; done))
    refine z_sub [2, 3, 4, 5, 1, 0] rfl ?_
    exact L30 _ 0 1 (Nat.lt_succ_self _) (by omega) (by omega) (by rfl)
  · skip
    exfalso; omega

set_option maxHeartbeats 4000000 in
theorem e_X12_kin (l : Launch) (g : Gl) (x : Me) (q : Int)  (hM : MS x) (r_q : -2147483648 ≤ q ∧ q < 2147483648) (hno : ¬ ((0 ≤ q ∧ q < x 50 1))) : ctQ l g yX12_kin cX12_kin 4 (some .int) 4 95 [.ref (gA g 50), .int (zi q)] x (QIu g (fun z x' => z = 0 ∧ x' = up x 50 0 (exn (0 ≤ q ∧ q < x 50 1) (True) 1 0 0))) := by
  refine ct_start (own := RX12) (lv := [(0, .ref (gA g 50)), (1, .int (zi q))]) (plainFor_of_name (by decide)) rfl (Nat.le_of_ble_eq_true rfl) rfl ?_
  intro Γ hΓ hO hr hQ _
  have hM1 := hM.1
  refine z_aload_n (pc := 0) hO 0 dX12_kin_0 rfl rfl ?_
  refine z_aload_n (pc := 1) hO 0 dX12_kin_1 rfl rfl ?_
  refine z_iload_n (pc := 2) hO 1 dX12_kin_2 rfl rfl ?_
  refine z_callVB (pc := 3) hO (As := [.int (zi q)]) (st := [.ref (gA g 50)]) (c_X12_isSquare (qL Γ) g x q (by first | assumption | omega) (by first | assumption | omega)) k_X12_59 isO_50 rfl (Nat.le_of_ble_eq_true rfl) (by decide) (by decide) ⟨by decide, by decide⟩ dX12_kin_3 (fun pb1 => ?_) (fun pb1 => ?_)
  · skip
    refine z_if_eq (pc := 6) hO (tgt := 13) dX12_kin_6 (by decide) (by decide) (fun h => absurd h (by decide)) (fun _ => ?_)
    refine z_iconst (pc := 9) hO dX12_kin_9 ?_
    refine z_goto (pc := 10) hO (tgt := 14) dX12_kin_10 (by decide) ?_
    refine z_callVIm (pc := 14) hO (As := [.int (zi 0)]) (st := []) (c_X12_isFine0 (qL Γ) g x 0 (by first | assumption | omega)) k_X12_63 isO_50 rfl (Nat.le_of_ble_eq_true rfl) (by decide) (by decide) ⟨by decide, by decide⟩ dX12_kin_14 (fun m2 e3 => ?_)
    refine z_if_ne (pc := 17) hO (tgt := 22) dX12_kin_17 (by decide) (by decide) (fun _ => ?_) (fun h => absurd h (by decide))
    exfalso; omega
  · skip
    refine z_if_eq (pc := 6) hO (tgt := 13) dX12_kin_6 (by decide) (by decide) (fun _ => ?_) (fun h => absurd h (by decide))
    refine z_iconst (pc := 13) hO dX12_kin_13 ?_
    refine z_callVIm (pc := 14) hO (As := [.int (zi 1)]) (st := []) (c_X12_isFine1 (qL Γ) g x 1 (by first | assumption | omega)) k_X12_63 isO_50 rfl (Nat.le_of_ble_eq_true rfl) (by decide) (by decide) ⟨by decide, by decide⟩ dX12_kin_14 (fun m4 e5 => ?_)
    refine z_if_ne (pc := 17) hO (tgt := 22) dX12_kin_17 (by decide) (by decide) (fun h => absurd h (by decide)) (fun _ => ?_)
    refine z_iconst (pc := 20) hO dX12_kin_20 ?_
    exact z_iret (pc := 21) hO hr hQ rfl dX12_kin_21 (by first | (refine ⟨rfl, ?_⟩; first | (rw [exn_1 (by omega)]; assumption) | (rw [exn_2 (by first | trivial | omega) (by omega)]; assumption) | (rw [exn_3 (by first | trivial | omega) (by first | trivial | omega)]; assumption); done) | (exfalso; omega))

set_option maxHeartbeats 4000000 in
theorem c_X12_kin (l : Launch) (g : Gl) (x : Me) (q : Int)  (hM : MS x) (r_q : -2147483648 ≤ q ∧ q < 2147483648) (hok : (0 ≤ q ∧ q < x 50 1)) : ctQ l g yX12_kin cX12_kin 4 (some .int) 4 95 [.ref (gA g 50), .int (zi q)] x (QIu g (fun z x' => z = (sm (fun m => bi (isF (x 51 q) (nd x q) m (nd x q))) 8) ∧ x' = up x 50 0 0)) := by
  refine ct_start (own := RX12) (lv := [(0, .ref (gA g 50)), (1, .int (zi q))]) (plainFor_of_name (by decide)) rfl (Nat.le_of_ble_eq_true rfl) rfl ?_
  intro Γ hΓ hO hr hQ _
  have hM1 := hM.1
  refine z_aload_n (pc := 0) hO 0 dX12_kin_0 rfl rfl ?_
  refine z_aload_n (pc := 1) hO 0 dX12_kin_1 rfl rfl ?_
  refine z_iload_n (pc := 2) hO 1 dX12_kin_2 rfl rfl ?_
  refine z_callVB (pc := 3) hO (As := [.int (zi q)]) (st := [.ref (gA g 50)]) (c_X12_isSquare (qL Γ) g x q (by first | assumption | omega) (by first | assumption | omega)) k_X12_59 isO_50 rfl (Nat.le_of_ble_eq_true rfl) (by decide) (by decide) ⟨by decide, by decide⟩ dX12_kin_3 (fun pb1 => ?_) (fun pb1 => ?_)
  · skip
    refine z_if_eq (pc := 6) hO (tgt := 13) dX12_kin_6 (by decide) (by decide) (fun h => absurd h (by decide)) (fun _ => ?_)
    refine z_iconst (pc := 9) hO dX12_kin_9 ?_
    refine z_goto (pc := 10) hO (tgt := 14) dX12_kin_10 (by decide) ?_
    refine z_callVIm (pc := 14) hO (As := [.int (zi 0)]) (st := []) (c_X12_isFine0 (qL Γ) g x 0 (by first | assumption | omega)) k_X12_63 isO_50 rfl (Nat.le_of_ble_eq_true rfl) (by decide) (by decide) ⟨by decide, by decide⟩ dX12_kin_14 (fun m2 e3 => ?_)
    refine z_if_ne (pc := 17) hO (tgt := 22) dX12_kin_17 (by decide) (by decide) (fun _ => ?_) (fun h => absurd h (by decide))
    have hG := hM.2 q (by omega) (by omega)
    have hs := hG.2.1
    have hth : m2 = up x 50 0 0 := by assumption
    have e51 : m2 51 q = x 51 q := by rw [hth, up_i _ _ _ (by omega)]
    have end_ : nd m2 q = nd x q := by funext p; rw [hth]; exact nd_th
    refine z_iconst (pc := 22) hO dX12_kin_22 ?_
    refine z_istore_n (pc := 23) hO (lv' := [(2, .int (zi 0)), (0, .ref (gA g 50)), (1, .int (zi q))]) dX12_kin_23 rfl (by decide) rfl ?_
    refine z_iconst (pc := 24) hO dX12_kin_24 ?_
    refine z_istore_n (pc := 25) hO (lv' := [(3, .int (zi 0)), (2, .int (zi 0)), (0, .ref (gA g 50)), (1, .int (zi q))]) dX12_kin_25 rfl (by decide) rfl ?_
    have L26 : ∀ (N : Nat) (w : Int) (f : Int), (8 - f).toNat < N → (0 ≤ f ∧ f ≤ 8) → (w = sm (fun m => bi (isF (x 51 q) (nd x q) m (nd x q))) f.toNat) → Zz Γ g 4 0 0 m2 26 [(0, .ref (gA g 50)), (1, .int (zi q)), (2, .int (zi w)), (3, .int (zi f))] [] := by
      intro N
      induction N with
      | zero => intro w f hm; exact absurd hm (Nat.not_lt_zero _)
      | succ N ih26 =>
        intro w f hm h0 hA
        refine z_iload_n (pc := 26) hO 3 dX12_kin_26 rfl rfl ?_
        refine z_bipush (pc := 27) hO dX12_kin_27 (by decide) ?_
        refine z_icmp_ge (pc := 29) hO (tgt := 56) dX12_kin_29 (by decide) (by omega) (by omega) (fun b4 => ?_) (fun b4 => ?_)
        · refine z_iload_n (pc := 56) hO 2 dX12_kin_56 rfl rfl ?_
          exact z_iret (pc := 57) hO hr hQ rfl dX12_kin_57 (by first | (refine ⟨?_, hth⟩; rw [hA, show f = 8 by omega]; rfl; done) | (exfalso; omega))
        · refine z_iload_n (pc := 32) hO 2 dX12_kin_32 rfl rfl ?_
          refine z_aload_n (pc := 33) hO 0 dX12_kin_33 rfl rfl ?_
          refine z_iload_n (pc := 34) hO 1 dX12_kin_34 rfl rfl ?_
          refine z_iload_n (pc := 35) hO 3 dX12_kin_35 rfl rfl ?_
          refine z_iload_n (pc := 36) hO 1 dX12_kin_36 rfl rfl ?_
          refine z_callVB (pc := 37) hO (As := [.int (zi q), .int (zi f), .int (zi q)]) (st := [.int (zi w)]) (c_X12_isForm (qL Γ) g m2 q f q (by rw [hth]; exact MG_th hG) (by rw [hth]; exact MG_th hG) (by first | assumption | omega)) k_X12_141 isO_50 rfl (Nat.le_of_ble_eq_true rfl) (by decide) (by decide) ⟨by decide, by decide⟩ dX12_kin_37 (fun pb5 => ?_) (fun pb5 => ?_)
          · skip
            have hpb := pb5.2
            rw [e51, end_] at hpb
            refine z_if_eq (pc := 40) hO (tgt := 47) dX12_kin_40 (by decide) (by decide) (fun h => absurd h (by decide)) (fun _ => ?_)
            refine z_iconst (pc := 43) hO dX12_kin_43 ?_
            refine z_goto (pc := 44) hO (tgt := 48) dX12_kin_44 (by decide) ?_
            refine z_iadd (pc := 48) hO dX12_kin_48 ?_
            refine z_istore_n (pc := 49) hO (lv' := [(2, .int (zi (w + 1))), (0, .ref (gA g 50)), (1, .int (zi q)), (3, .int (zi f))]) dX12_kin_49 rfl (by decide) rfl ?_
            refine z_iinc (pc := 50) hO 3 (lv' := [(3, .int (zi (f + 1))), (2, .int (zi (w + 1))), (0, .ref (gA g 50)), (1, .int (zi q))]) dX12_kin_50 rfl (by decide) rfl ?_
            refine z_goto (pc := 53) hO (tgt := 26) dX12_kin_53 (by decide) ?_
            refine z_sub [2, 3, 1, 0] rfl ?_
            exact ih26 (w + 1) (f + 1) (by omega) (by omega) (by rw [sm_s _ h0.1, ← hA]; first | (rw [bi_t hpb]; done) | (rw [bi_f hpb]; done))
          · skip
            have hpb : ¬ isF (x 51 q) (nd x q) f (nd x q) := fun h => pb5 ⟨rfl, by rw [e51, end_]; exact h⟩
            refine z_if_eq (pc := 40) hO (tgt := 47) dX12_kin_40 (by decide) (by decide) (fun _ => ?_) (fun h => absurd h (by decide))
            refine z_iconst (pc := 47) hO dX12_kin_47 ?_
            refine z_iadd (pc := 48) hO dX12_kin_48 ?_
            refine z_istore_n (pc := 49) hO (lv' := [(2, .int (zi (w + 0))), (0, .ref (gA g 50)), (1, .int (zi q)), (3, .int (zi f))]) dX12_kin_49 rfl (by decide) rfl ?_
            refine z_iinc (pc := 50) hO 3 (lv' := [(3, .int (zi (f + 1))), (2, .int (zi (w + 0))), (0, .ref (gA g 50)), (1, .int (zi q))]) dX12_kin_50 rfl (by decide) rfl ?_
            refine z_goto (pc := 53) hO (tgt := 26) dX12_kin_53 (by decide) ?_
            refine z_sub [2, 3, 1, 0] rfl ?_
            exact ih26 (w + 0) (f + 1) (by omega) (by omega) (by rw [sm_s _ h0.1, ← hA]; first | (rw [bi_t hpb]; done) | (rw [bi_f hpb]; done))
    refine z_sub [2, 3, 1, 0] rfl ?_
    exact L26 _ 0 0 (Nat.lt_succ_self _) (by omega) (by rfl)
  · skip
    exfalso; omega

set_option maxHeartbeats 4000000 in
theorem c_X12_classes (l : Launch) (g : Gl) (x : Me)   (hM : MS x) : ctQ l g yX12_classes cX12_classes 5 (some .int) 5 119 [.ref (gA g 50)] x (QIu g (fun z x' => z = sm (fun j => bi (∀ e : Int, 0 ≤ e → e < j → ¬ KD x j e)) (x 50 1).toNat ∧ x' = up x 50 0 0)) := by
  refine ct_start (own := RX12) (lv := [(0, .ref (gA g 50))]) (plainFor_of_name (by decide)) rfl (Nat.le_of_ble_eq_true rfl) rfl ?_
  intro Γ hΓ hO hr hQ _
  have hM1 := hM.1
  refine z_aload_n (pc := 0) hO 0 dX12_classes_0 rfl rfl ?_
  refine z_iconst (pc := 1) hO dX12_classes_1 ?_
  refine pf_X12_thrown (pc := 2) hO f_X12_48 dX12_classes_2 (fun m1 e2 => ?_)
  have hth : m1 = up x 50 0 0 := by assumption
  have e1 : m1 50 1 = x 50 1 := by rw [hth, up_n _ _ (by omega)]
  refine z_iconst (pc := 5) hO dX12_classes_5 ?_
  refine z_istore_n (pc := 6) hO (lv' := [(1, .int (zi 0)), (0, .ref (gA g 50))]) dX12_classes_6 rfl (by decide) rfl ?_
  refine z_iconst (pc := 7) hO dX12_classes_7 ?_
  refine z_istore_n (pc := 8) hO (lv' := [(2, .int (zi 0)), (1, .int (zi 0)), (0, .ref (gA g 50))]) dX12_classes_8 rfl (by decide) rfl ?_
  have L9 : ∀ (N : Nat) (w : Int) (i : Int), (x 50 1 - i).toNat < N → (0 ≤ i ∧ i ≤ x 50 1) → (w = sm (fun j => bi (∀ e : Int, 0 ≤ e → e < j → ¬ KD x j e)) i.toNat) → Zz Γ g 5 0 0 m1 9 [(0, .ref (gA g 50)), (1, .int (zi w)), (2, .int (zi i))] [] := by
    intro N
    induction N with
    | zero => intro w i hm; exact absurd hm (Nat.not_lt_zero _)
    | succ N ih9 =>
      intro w i hm h0 hA
      refine z_iload_n (pc := 9) hO 2 dX12_classes_9 rfl rfl ?_
      refine z_aload_n (pc := 10) hO 0 dX12_classes_10 rfl rfl ?_
      refine gf_X12_squares (pc := 11) hO f_X12_52 dX12_classes_11 ?_
      refine z_icmp_ge (pc := 14) hO (tgt := 72) dX12_classes_14 (by decide) (by omega) (by omega) (fun b3 => ?_) (fun b3 => ?_)
      · refine z_iload_n (pc := 72) hO 1 dX12_classes_72 rfl rfl ?_
        exact z_iret (pc := 73) hO hr hQ rfl dX12_classes_73 (by first | (exact ⟨by rw [hA, show i.toNat = (x 50 1).toNat by omega], hth⟩; done) | (exfalso; omega))
      · refine z_iconst (pc := 17) hO dX12_classes_17 ?_
        refine z_istore_n (pc := 18) hO (lv' := [(3, .int (zi 1)), (0, .ref (gA g 50)), (1, .int (zi w)), (2, .int (zi i))]) dX12_classes_18 rfl (by decide) rfl ?_
        refine z_iconst (pc := 19) hO dX12_classes_19 ?_
        refine z_istore (pc := 20) hO (lv' := [(4, .int (zi 0)), (3, .int (zi 1)), (0, .ref (gA g 50)), (1, .int (zi w)), (2, .int (zi i))]) dX12_classes_20 (by decide) rfl ?_
        have L22 : ∀ (N : Nat) (b : Int) (j : Int), (i - j).toNat < N → (0 ≤ j ∧ j ≤ i) → ((b = 1 ∧ ∀ e : Int, 0 ≤ e → e < j → ¬ KD x i e) ∨ (b = 0 ∧ KE x i j)) → Zz Γ g 5 0 0 m1 22 [(0, .ref (gA g 50)), (1, .int (zi w)), (2, .int (zi i)), (3, .int (zi b)), (4, .int (zi j))] [] := by
          intro N
          induction N with
          | zero => intro b j hm; exact absurd hm (Nat.not_lt_zero _)
          | succ N ih22 =>
            intro b j hm h1 hB
            have hbb : b = 0 ∨ b = 1 := by rcases hB with ⟨e, _⟩ | ⟨e, _⟩ <;> omega
            refine z_iload (pc := 22) hO 4 dX12_classes_22 rfl ?_
            refine z_iload_n (pc := 24) hO 2 dX12_classes_24 rfl rfl ?_
            refine z_icmp_ge (pc := 25) hO (tgt := 54) dX12_classes_25 (by decide) (by omega) (by omega) (fun b4 => ?_) (fun b4 => ?_)
            · refine z_iload_n (pc := 54) hO 1 dX12_classes_54 rfl rfl ?_
              refine z_iload_n (pc := 55) hO 3 dX12_classes_55 rfl rfl ?_
              refine z_if_eq (pc := 56) hO (tgt := 63) dX12_classes_56 (by decide) (by omega) (fun b5 => ?_) (fun b5 => ?_)
              · refine z_iconst (pc := 63) hO dX12_classes_63 ?_
                refine z_iadd (pc := 64) hO dX12_classes_64 ?_
                refine z_istore_n (pc := 65) hO (lv' := [(1, .int (zi (w + 0))), (0, .ref (gA g 50)), (2, .int (zi i)), (3, .int (zi b)), (4, .int (zi j))]) dX12_classes_65 rfl (by decide) rfl ?_
                refine z_iinc (pc := 66) hO 2 (lv' := [(2, .int (zi (i + 1))), (1, .int (zi (w + 0))), (0, .ref (gA g 50)), (3, .int (zi b)), (4, .int (zi j))]) dX12_classes_66 rfl (by decide) rfl ?_
                refine z_goto (pc := 69) hO (tgt := 9) dX12_classes_69 (by decide) ?_
                refine z_sub [2, 1, 0] rfl ?_
                exact ih9 (w + 0) (i + 1) (by omega) (by omega) (by rw [sm_s _ h0.1, ← hA]; rcases hB with ⟨_, h⟩ | ⟨_, h⟩ <;> first | (exfalso; omega) | (rw [bi_t (P := ∀ e : Int, 0 ≤ e → e < i → ¬ KD x i e) (fun e a c => h e a (by omega))]; done) | (rw [bi_f (P := ∀ e : Int, 0 ≤ e → e < i → ¬ KD x i e) (fun q => by obtain ⟨e, a, c, h2⟩ := h; exact q e a (by omega) h2)]; done))
              · refine z_iconst (pc := 59) hO dX12_classes_59 ?_
                refine z_goto (pc := 60) hO (tgt := 64) dX12_classes_60 (by decide) ?_
                refine z_iadd (pc := 64) hO dX12_classes_64 ?_
                refine z_istore_n (pc := 65) hO (lv' := [(1, .int (zi (w + 1))), (0, .ref (gA g 50)), (2, .int (zi i)), (3, .int (zi b)), (4, .int (zi j))]) dX12_classes_65 rfl (by decide) rfl ?_
                refine z_iinc (pc := 66) hO 2 (lv' := [(2, .int (zi (i + 1))), (1, .int (zi (w + 1))), (0, .ref (gA g 50)), (3, .int (zi b)), (4, .int (zi j))]) dX12_classes_66 rfl (by decide) rfl ?_
                refine z_goto (pc := 69) hO (tgt := 9) dX12_classes_69 (by decide) ?_
                refine z_sub [2, 1, 0] rfl ?_
                exact ih9 (w + 1) (i + 1) (by omega) (by omega) (by rw [sm_s _ h0.1, ← hA]; rcases hB with ⟨_, h⟩ | ⟨_, h⟩ <;> first | (exfalso; omega) | (rw [bi_t (P := ∀ e : Int, 0 ≤ e → e < i → ¬ KD x i e) (fun e a c => h e a (by omega))]; done) | (rw [bi_f (P := ∀ e : Int, 0 ≤ e → e < i → ¬ KD x i e) (fun q => by obtain ⟨e, a, c, h2⟩ := h; exact q e a (by omega) h2)]; done))
            · refine z_iload_n (pc := 28) hO 3 dX12_classes_28 rfl rfl ?_
              refine z_if_eq (pc := 29) hO (tgt := 46) dX12_classes_29 (by decide) (by omega) (fun b6 => ?_) (fun b6 => ?_)
              · refine z_iconst (pc := 46) hO dX12_classes_46 ?_
                refine z_istore_n (pc := 47) hO (lv' := [(3, .int (zi 0)), (0, .ref (gA g 50)), (1, .int (zi w)), (2, .int (zi i)), (4, .int (zi j))]) dX12_classes_47 rfl (by decide) rfl ?_
                refine z_iinc (pc := 48) hO 4 (lv' := [(4, .int (zi (j + 1))), (3, .int (zi 0)), (0, .ref (gA g 50)), (1, .int (zi w)), (2, .int (zi i))]) dX12_classes_48 rfl (by decide) rfl ?_
                refine z_goto (pc := 51) hO (tgt := 22) dX12_classes_51 (by decide) ?_
                refine z_sub [2, 3, 4, 1, 0] rfl ?_
                exact ih22 0 (j + 1) (by omega) (by omega) (by first | exact Or.inl ⟨rfl, fun l a c => dite (l = j) (fun e => by rw [e]; exact hpb) (fun e => by rcases hB with ⟨_, h2⟩ | ⟨h2, _⟩; exact h2 l a (by omega); omega)⟩ | exact Or.inr ⟨rfl, j, by omega, by omega, hpb⟩ | (rcases hB with ⟨h1, _⟩ | ⟨_, h⟩; omega; exact Or.inr ⟨rfl, by obtain ⟨e, a, c, h2⟩ := h; exact ⟨e, a, by omega, h2⟩⟩))
              · refine z_aload_n (pc := 32) hO 0 dX12_classes_32 rfl rfl ?_
                refine z_iload_n (pc := 33) hO 2 dX12_classes_33 rfl rfl ?_
                refine z_iload (pc := 34) hO 4 dX12_classes_34 rfl ?_
                refine z_callVB (pc := 36) hO (As := [.int (zi i), .int (zi j)]) (st := []) (c_X12_areKin (qL Γ) g m1 i j (by rw [hth]; exact MG_th (hM.2 i (by omega) (by omega))) (by rw [hth]; exact MG_th (hM.2 j (by omega) (by omega)))) k_X12_144 isO_50 rfl (Nat.le_of_ble_eq_true rfl) (by decide) (by decide) ⟨by decide, by decide⟩ dX12_classes_36 (fun pb7 => ?_) (fun pb7 => ?_)
                · skip
                  have hpb := pb7
                  rw [hth, KD_th] at hpb
                  refine z_if_ne (pc := 39) hO (tgt := 46) dX12_classes_39 (by decide) (by decide) (fun _ => ?_) (fun h => absurd h (by decide))
                  refine z_iconst (pc := 46) hO dX12_classes_46 ?_
                  refine z_istore_n (pc := 47) hO (lv' := [(3, .int (zi 0)), (0, .ref (gA g 50)), (1, .int (zi w)), (2, .int (zi i)), (4, .int (zi j))]) dX12_classes_47 rfl (by decide) rfl ?_
                  refine z_iinc (pc := 48) hO 4 (lv' := [(4, .int (zi (j + 1))), (3, .int (zi 0)), (0, .ref (gA g 50)), (1, .int (zi w)), (2, .int (zi i))]) dX12_classes_48 rfl (by decide) rfl ?_
                  refine z_goto (pc := 51) hO (tgt := 22) dX12_classes_51 (by decide) ?_
                  refine z_sub [2, 3, 4, 1, 0] rfl ?_
                  exact ih22 0 (j + 1) (by omega) (by omega) (by first | exact Or.inl ⟨rfl, fun l a c => dite (l = j) (fun e => by rw [e]; exact hpb) (fun e => by rcases hB with ⟨_, h2⟩ | ⟨h2, _⟩; exact h2 l a (by omega); omega)⟩ | exact Or.inr ⟨rfl, j, by omega, by omega, hpb⟩ | (rcases hB with ⟨h1, _⟩ | ⟨_, h⟩; omega; exact Or.inr ⟨rfl, by obtain ⟨e, a, c, h2⟩ := h; exact ⟨e, a, by omega, h2⟩⟩))
                · skip
                  have hpb := pb7
                  rw [hth, KD_th] at hpb
                  refine z_if_ne (pc := 39) hO (tgt := 46) dX12_classes_39 (by decide) (by decide) (fun h => absurd h (by decide)) (fun _ => ?_)
                  refine z_iconst (pc := 42) hO dX12_classes_42 ?_
                  refine z_goto (pc := 43) hO (tgt := 47) dX12_classes_43 (by decide) ?_
                  refine z_istore_n (pc := 47) hO (lv' := [(3, .int (zi 1)), (0, .ref (gA g 50)), (1, .int (zi w)), (2, .int (zi i)), (4, .int (zi j))]) dX12_classes_47 rfl (by decide) rfl ?_
                  refine z_iinc (pc := 48) hO 4 (lv' := [(4, .int (zi (j + 1))), (3, .int (zi 1)), (0, .ref (gA g 50)), (1, .int (zi w)), (2, .int (zi i))]) dX12_classes_48 rfl (by decide) rfl ?_
                  refine z_goto (pc := 51) hO (tgt := 22) dX12_classes_51 (by decide) ?_
                  refine z_sub [2, 3, 4, 1, 0] rfl ?_
                  exact ih22 1 (j + 1) (by omega) (by omega) (by first | exact Or.inl ⟨rfl, fun l a c => dite (l = j) (fun e => by rw [e]; exact hpb) (fun e => by rcases hB with ⟨_, h2⟩ | ⟨h2, _⟩; exact h2 l a (by omega); omega)⟩ | exact Or.inr ⟨rfl, j, by omega, by omega, hpb⟩ | (rcases hB with ⟨h1, _⟩ | ⟨_, h⟩; omega; exact Or.inr ⟨rfl, by obtain ⟨e, a, c, h2⟩ := h; exact ⟨e, a, by omega, h2⟩⟩))
        refine z_sub [2, 3, 4, 1, 0] rfl ?_
        exact L22 _ 1 0 (Nat.lt_succ_self _) (by omega) (by exact Or.inl ⟨rfl, fun l a c => by omega⟩)
  refine z_sub [2, 1, 0] rfl ?_
  exact L9 _ 0 0 (Nat.lt_succ_self _) (by omega) (by rfl)

