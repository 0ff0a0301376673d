set_option maxHeartbeats 4000000 in
theorem c_X12_isRight (l : Launch) (g : Gl) (x : Me) (q : Int)  (hG : MG x q) : ctQ l g yX12_isRight cX12_isRight 2 (some .boolean) 4 95 [.ref (gA g 50), .int (zi q)] x (QIu g (fun z x' => ((z = 1 ∧ (mag (x 51 q) (nd x q))) ∨ (z = 0 ∧ ¬ (mag (x 51 q) (nd x q)))) ∧ x' = x)) := by
  refine ct_start (own := RX12) (lv := [(0, .ref (gA g 50)), (1, .int (zi q))]) (plainFor_of_name (by decide)) rfl (Nat.le_of_ble_eq_true rfl) rfl ?_
  intro Γ hΓ hO hr hQ _
  refine z_aload_n (pc := 0) hO 0 dX12_isRight_0 rfl rfl ?_
  refine z_iload_n (pc := 1) hO 1 dX12_isRight_1 rfl rfl ?_
  refine z_iconst (pc := 2) hO dX12_isRight_2 ?_
  refine z_callVB (pc := 3) hO (As := [.int (zi q), .int (zi 0)]) (st := []) (c_X12_areAlike (qL Γ) g x q 0 (by first | assumption | omega) (by first | assumption | omega)) k_X12_106 isO_50 rfl (Nat.le_of_ble_eq_true rfl) (by decide) (by decide) ⟨by decide, by decide⟩ dX12_isRight_3 (fun pb1 => ?_) (fun pb1 => ?_)
  · skip
    refine z_if_eq (pc := 6) hO (tgt := 30) dX12_isRight_6 (by decide) (by decide) (fun h => absurd h (by decide)) (fun _ => ?_)
    refine z_aload_n (pc := 9) hO 0 dX12_isRight_9 rfl rfl ?_
    refine z_iload_n (pc := 10) hO 1 dX12_isRight_10 rfl rfl ?_
    refine z_iconst (pc := 11) hO dX12_isRight_11 ?_
    refine z_callVB (pc := 12) hO (As := [.int (zi q), .int (zi 1)]) (st := []) (c_X12_areAlike (qL Γ) g x q 1 (by first | assumption | omega) (by first | assumption | omega)) k_X12_106 isO_50 rfl (Nat.le_of_ble_eq_true rfl) (by decide) (by decide) ⟨by decide, by decide⟩ dX12_isRight_12 (fun pb2 => ?_) (fun pb2 => ?_)
    · skip
      refine z_if_eq (pc := 15) hO (tgt := 30) dX12_isRight_15 (by decide) (by decide) (fun h => absurd h (by decide)) (fun _ => ?_)
      refine z_aload_n (pc := 18) hO 0 dX12_isRight_18 rfl rfl ?_
      refine z_iload_n (pc := 19) hO 1 dX12_isRight_19 rfl rfl ?_
      refine z_callVB (pc := 20) hO (As := [.int (zi q)]) (st := []) (c_X12_areDiagonals (qL Γ) g x q (by first | assumption | omega)) k_X12_109 isO_50 rfl (Nat.le_of_ble_eq_true rfl) (by decide) (by decide) ⟨by decide, by decide⟩ dX12_isRight_20 (fun pb3 => ?_) (fun pb3 => ?_)
      · skip
        refine z_if_eq (pc := 23) hO (tgt := 30) dX12_isRight_23 (by decide) (by decide) (fun h => absurd h (by decide)) (fun _ => ?_)
        refine z_iconst (pc := 26) hO dX12_isRight_26 ?_
        refine z_goto (pc := 27) hO (tgt := 31) dX12_isRight_27 (by decide) ?_
        exact z_iret (pc := 31) hO hr hQ rfl dX12_isRight_31 ⟨Or.inl ⟨rfl, by first | (first | exact ⟨by assumption, by assumption, by assumption⟩ | (intro h; have h1 := h.1; have h2 := h.2.1; have h3 := h.2.2; contradiction); done) | (exfalso; omega)⟩, rfl⟩
      · skip
        refine z_if_eq (pc := 23) hO (tgt := 30) dX12_isRight_23 (by decide) (by decide) (fun _ => ?_) (fun h => absurd h (by decide))
        refine z_iconst (pc := 30) hO dX12_isRight_30 ?_
        exact z_iret (pc := 31) hO hr hQ rfl dX12_isRight_31 ⟨Or.inr ⟨rfl, by first | (first | exact ⟨by assumption, by assumption, by assumption⟩ | (intro h; have h1 := h.1; have h2 := h.2.1; have h3 := h.2.2; contradiction); done) | (exfalso; omega)⟩, rfl⟩
    · skip
      refine z_if_eq (pc := 15) hO (tgt := 30) dX12_isRight_15 (by decide) (by decide) (fun _ => ?_) (fun h => absurd h (by decide))
      refine z_iconst (pc := 30) hO dX12_isRight_30 ?_
      exact z_iret (pc := 31) hO hr hQ rfl dX12_isRight_31 ⟨Or.inr ⟨rfl, by first | (first | exact ⟨by assumption, by assumption, by assumption⟩ | (intro h; have h1 := h.1; have h2 := h.2.1; have h3 := h.2.2; contradiction); done) | (exfalso; omega)⟩, rfl⟩
  · skip
    refine z_if_eq (pc := 6) hO (tgt := 30) dX12_isRight_6 (by decide) (by decide) (fun _ => ?_) (fun h => absurd h (by decide))
    refine z_iconst (pc := 30) hO dX12_isRight_30 ?_
    exact z_iret (pc := 31) hO hr hQ rfl dX12_isRight_31 ⟨Or.inr ⟨rfl, by first | (first | exact ⟨by assumption, by assumption, by assumption⟩ | (intro h; have h1 := h.1; have h2 := h.2.1; have h3 := h.2.2; contradiction); done) | (exfalso; omega)⟩, rfl⟩

set_option maxHeartbeats 4000000 in
theorem c_X12_isSlip (l : Launch) (g : Gl) (x : Me) (q : Int) (p : Int) (v : Int)  (hG : MG x q) (hp : 0 ≤ p ∧ p < (x 51 q * x 51 q)) (r_v : -2147483648 ≤ v ∧ v < 2147483648) : ctQ l g yX12_isSlip cX12_isSlip 7 (some .boolean) 5 116 [.ref (gA g 50), .int (zi q), .int (zi p), .int (zi v)] x (QIu g (fun z x' => ((z = 1 ∧ ((nd x q) p ≠ v ∧ (1 ≤ v ∧ v ≤ 999) ∧ mag (x 51 q) (uf (nd x q) p v))) ∨ (z = 0 ∧ ¬ ((nd x q) p ≠ v ∧ (1 ≤ v ∧ v ≤ 999) ∧ mag (x 51 q) (uf (nd x q) p v)))) ∧ x' = x)) := by
  refine ct_start (own := RX12) (lv := [(0, .ref (gA g 50)), (1, .int (zi q)), (2, .int (zi p)), (3, .int (zi v))]) (plainFor_of_name (by decide)) rfl (Nat.le_of_ble_eq_true rfl) rfl ?_
  intro Γ hΓ hO hr hQ _
  obtain ⟨hq, hs, hf⟩ := id hG
  have hsq := sq9 hs
  have hN := nd_rng hG
  have g1 : nd x q p = x 52 (81 * q + p) := nd_in (by omega)
  have n1 := hN p
  refine z_bipush (pc := 0) hO dX12_isSlip_0 (by decide) ?_
  refine z_iload_n (pc := 2) hO 1 dX12_isSlip_2 rfl rfl ?_
  refine z_imul (pc := 3) hO dX12_isSlip_3 ?_
  refine z_iload_n (pc := 4) hO 2 dX12_isSlip_4 rfl rfl ?_
  refine z_iadd (pc := 5) hO dX12_isSlip_5 ?_
  refine z_istore (pc := 6) hO (lv' := [(4, .int (zi ((81 * q) + p))), (0, .ref (gA g 50)), (1, .int (zi q)), (2, .int (zi p)), (3, .int (zi v))]) dX12_isSlip_6 (by decide) rfl ?_
  refine z_aload_n (pc := 8) hO 1 dX12_isSlip_8 rfl rfl ?_
  refine gf_X12_numbers (pc := 9) hO f_X12_13 dX12_isSlip_9 ?_
  refine z_iload (pc := 12) hO 0 dX12_isSlip_12 rfl ?_
  refine z_iald (pc := 14) hO isI_52 (by omega) dX12_isSlip_14 ?_
  refine z_istore (pc := 15) hO (lv' := [(5, .int (zi (x 52 ((81 * q) + p)))), (4, .int (zi ((81 * q) + p))), (0, .ref (gA g 50)), (1, .int (zi q)), (2, .int (zi p)), (3, .int (zi v))]) dX12_isSlip_15 (by decide) rfl ?_
  refine z_iload (pc := 17) hO 0 dX12_isSlip_17 rfl ?_
  refine z_iload_n (pc := 19) hO 5 dX12_isSlip_19 rfl rfl ?_
  refine z_icmp_eq (pc := 20) hO (tgt := 34) dX12_isSlip_20 (by decide) (by omega) (by omega) (fun b1 => ?_) (fun b1 => ?_)
  · refine z_iconst (pc := 34) hO dX12_isSlip_34 ?_
    exact z_iret (pc := 35) hO hr hQ rfl dX12_isSlip_35 ⟨Or.inr ⟨rfl, by first | (intro h; omega; done) | (exfalso; omega)⟩, rfl⟩
  · refine z_iload_n (pc := 23) hO 5 dX12_isSlip_23 rfl rfl ?_
    refine z_iconst (pc := 24) hO dX12_isSlip_24 ?_
    refine z_sipush (pc := 25) hO dX12_isSlip_25 (by decide) ?_
    refine z_callSB (pc := 28) hO (As := [.int (zi v), .int (zi 1), .int (zi 999)]) (st := []) (c_X12_in (qL Γ) g x v 1 999 (by first | assumption | omega) (by first | assumption | omega) (by first | assumption | omega)) k_X12_55 rfl (Nat.le_of_ble_eq_true rfl) (by decide) (by decide) ⟨by decide, by decide⟩ dX12_isSlip_28 (fun pb2 => ?_) (fun pb2 => ?_)
    · skip
      refine z_if_ne (pc := 31) hO (tgt := 36) dX12_isSlip_31 (by decide) (by decide) (fun _ => ?_) (fun h => absurd h (by decide))
      refine z_aload_n (pc := 36) hO 2 dX12_isSlip_36 rfl rfl ?_
      refine gf_X12_numbers (pc := 37) hO f_X12_13 dX12_isSlip_37 ?_
      refine z_iload (pc := 40) hO 1 dX12_isSlip_40 rfl ?_
      refine z_iload_n (pc := 42) hO 5 dX12_isSlip_42 rfl rfl ?_
      refine z_iast (pc := 43) hO isI_52 (by omega) dX12_isSlip_43 (fun m3 e4 => ?_)
      have hGm : MG m3 q := by rw [e4]; exact MG_up hG (by omega) (by omega)
      have hnm : nd m3 q = uf (nd x q) p v := by rw [e4]; exact nd_up (by omega)
      have h5m : m3 51 q = x 51 q := by rw [e4, up_i _ _ _ (by omega)]
      have hE1 := e4
      refine z_aload_n (pc := 44) hO 2 dX12_isSlip_44 rfl rfl ?_
      refine z_iload_n (pc := 45) hO 3 dX12_isSlip_45 rfl rfl ?_
      refine z_callVB (pc := 46) hO (As := [.int (zi q)]) (st := []) (c_X12_isRight (qL Γ) g m3 q (by exact hGm)) k_X12_190 isO_50 rfl (Nat.le_of_ble_eq_true rfl) (by decide) (by decide) ⟨by decide, by decide⟩ dX12_isSlip_46 (fun pb5 => ?_) (fun pb5 => ?_)
      · skip
        have hpb := pb5
        rw [h5m, hnm] at hpb
        refine z_istore (pc := 49) hO (lv' := [(6, .int (zi 1)), (5, .int (zi (x 52 ((81 * q) + p)))), (4, .int (zi ((81 * q) + p))), (0, .ref (gA g 50)), (1, .int (zi q)), (2, .int (zi p)), (3, .int (zi v))]) dX12_isSlip_49 (by decide) rfl ?_
        refine z_aload_n (pc := 51) hO 3 dX12_isSlip_51 rfl rfl ?_
        refine gf_X12_numbers (pc := 52) hO f_X12_13 dX12_isSlip_52 ?_
        refine z_iload (pc := 55) hO 2 dX12_isSlip_55 rfl ?_
        refine z_iload (pc := 57) hO 1 dX12_isSlip_57 rfl ?_
        refine z_iast (pc := 59) hO isI_52 (by omega) dX12_isSlip_59 (fun m6 e7 => ?_)
        have hbk : m6 = x := by rw [e7, hE1]; exact up_back _ _ _ _
        rw [hbk]
        refine z_iload (pc := 60) hO 0 dX12_isSlip_60 rfl ?_
        exact z_iret (pc := 62) hO hr hQ rfl dX12_isSlip_62 ⟨Or.inl ⟨rfl, by first | (first | exact ⟨by omega, by omega, hpb⟩ | (intro h; exact hpb h.2.2); done) | (exfalso; omega)⟩, rfl⟩
      · skip
        have hpb := pb5
        rw [h5m, hnm] at hpb
        refine z_istore (pc := 49) hO (lv' := [(6, .int (zi 0)), (5, .int (zi (x 52 ((81 * q) + p)))), (4, .int (zi ((81 * q) + p))), (0, .ref (gA g 50)), (1, .int (zi q)), (2, .int (zi p)), (3, .int (zi v))]) dX12_isSlip_49 (by decide) rfl ?_
        refine z_aload_n (pc := 51) hO 3 dX12_isSlip_51 rfl rfl ?_
        refine gf_X12_numbers (pc := 52) hO f_X12_13 dX12_isSlip_52 ?_
        refine z_iload (pc := 55) hO 2 dX12_isSlip_55 rfl ?_
        refine z_iload (pc := 57) hO 1 dX12_isSlip_57 rfl ?_
        refine z_iast (pc := 59) hO isI_52 (by omega) dX12_isSlip_59 (fun m8 e9 => ?_)
        have hbk : m8 = x := by rw [e9, hE1]; exact up_back _ _ _ _
        rw [hbk]
        refine z_iload (pc := 60) hO 0 dX12_isSlip_60 rfl ?_
        exact z_iret (pc := 62) hO hr hQ rfl dX12_isSlip_62 ⟨Or.inr ⟨rfl, by first | (first | exact ⟨by omega, by omega, hpb⟩ | (intro h; exact hpb h.2.2); done) | (exfalso; omega)⟩, rfl⟩
    · skip
      refine z_if_ne (pc := 31) hO (tgt := 36) dX12_isSlip_31 (by decide) (by decide) (fun h => absurd h (by decide)) (fun _ => ?_)
      refine z_iconst (pc := 34) hO dX12_isSlip_34 ?_
      exact z_iret (pc := 35) hO hr hQ rfl dX12_isSlip_35 ⟨Or.inr ⟨rfl, by first | (intro h; omega; done) | (exfalso; omega)⟩, rfl⟩

set_option maxHeartbeats 4000000 in
theorem c_X12_mended (l : Launch) (g : Gl) (x : Me) (q : Int) (p : Int)  (hG : MG x q) (h2 : 2 ≤ x 51 q) (hp : 0 ≤ p ∧ p < (x 51 q * x 51 q)) : ctQ l g yX12_mended cX12_mended 4 (some .int) 3 71 [.ref (gA g 50), .int (zi q), .int (zi p)] x (QIu g (fun z x' => z = (mdd (x 51 q) (nd x q) p) ∧ x' = x)) := by
  refine ct_start (own := RX12) (lv := [(0, .ref (gA g 50)), (1, .int (zi q)), (2, .int (zi p))]) (plainFor_of_name (by decide)) rfl (Nat.le_of_ble_eq_true rfl) rfl ?_
  intro Γ hΓ hO hr hQ _
  obtain ⟨hq, hs, hf⟩ := id hG
  have hsq := sq9 hs
  have hd := rc9 hs hp
  refine z_iload_n (pc := 0) hO 2 dX12_mended_0 rfl rfl ?_
  refine z_aload_n (pc := 1) hO 0 dX12_mended_1 rfl rfl ?_
  refine gf_X12_sideOf (pc := 2) hO f_X12_7 dX12_mended_2 ?_
  refine z_iload_n (pc := 5) hO 1 dX12_mended_5 rfl rfl ?_
  refine z_iald (pc := 6) hO isI_51 (by omega) dX12_mended_6 ?_
  refine z_idiv (pc := 7) hO dX12_mended_7 (by omega) (by omega) ?_
  refine z_istore_n (pc := 8) hO (lv' := [(3, .int (zi (p / (x 51 q)))), (0, .ref (gA g 50)), (1, .int (zi q)), (2, .int (zi p))]) dX12_mended_8 rfl (by decide) rfl ?_
  refine z_aload_n (pc := 9) hO 1 dX12_mended_9 rfl rfl ?_
  refine z_iload_n (pc := 10) hO 2 dX12_mended_10 rfl rfl ?_
  refine z_iconst (pc := 11) hO dX12_mended_11 ?_
  refine z_iload_n (pc := 12) hO 0 dX12_mended_12 rfl rfl ?_
  refine z_if_ne (pc := 13) hO (tgt := 20) dX12_mended_13 (by decide) (by omega) (fun b1 => ?_) (fun b1 => ?_)
  · refine z_iconst (pc := 20) hO dX12_mended_20 ?_
    refine z_callVIp (pc := 21) hO (As := [.int (zi q), .int (zi 0), .int (zi 0)]) (st := []) (c_X12_sumOf (qL Γ) g x q 0 0 (by first | assumption | omega) (by first | assumption | omega) (by first | assumption | omega)) k_X12_97 isO_50 rfl (Nat.le_of_ble_eq_true rfl) (by decide) (by decide) ⟨by decide, by decide⟩ dX12_mended_21 ?_
    refine z_aload_n (pc := 24) hO 1 dX12_mended_24 rfl rfl ?_
    refine z_iload_n (pc := 25) hO 2 dX12_mended_25 rfl rfl ?_
    refine z_iconst (pc := 26) hO dX12_mended_26 ?_
    refine z_iload_n (pc := 27) hO 0 dX12_mended_27 rfl rfl ?_
    refine z_callVIp (pc := 28) hO (As := [.int (zi q), .int (zi 0), .int (zi (p / (x 51 q)))]) (st := [.int (zi (lsum (x 51 q) (nd x q) 0 0))]) (c_X12_sumOf (qL Γ) g x q 0 (p / (x 51 q)) (by first | assumption | omega) (by first | assumption | omega) (by first | assumption | omega)) k_X12_97 isO_50 rfl (Nat.le_of_ble_eq_true rfl) (by decide) (by decide) ⟨by decide, by decide⟩ dX12_mended_28 ?_
    refine z_isub (pc := 31) hO dX12_mended_31 ?_
    refine z_aload_n (pc := 32) hO 1 dX12_mended_32 rfl rfl ?_
    refine gf_X12_numbers (pc := 33) hO f_X12_13 dX12_mended_33 ?_
    refine z_bipush (pc := 36) hO dX12_mended_36 (by decide) ?_
    refine z_iload_n (pc := 38) hO 2 dX12_mended_38 rfl rfl ?_
    refine z_imul (pc := 39) hO dX12_mended_39 ?_
    refine z_iload_n (pc := 40) hO 3 dX12_mended_40 rfl rfl ?_
    refine z_iadd (pc := 41) hO dX12_mended_41 ?_
    refine z_iald (pc := 42) hO isI_52 (by omega) dX12_mended_42 ?_
    refine z_iadd (pc := 43) hO dX12_mended_43 ?_
    exact z_iret (pc := 44) hO hr hQ rfl dX12_mended_44 ⟨by first | (unfold mdd; rw [nd_in (by omega)]; first | (rw [if_pos (by omega)]; done) | (rw [if_neg (by omega)]; done); done) | (exfalso; omega), rfl⟩
  · refine z_iconst (pc := 16) hO dX12_mended_16 ?_
    refine z_goto (pc := 17) hO (tgt := 21) dX12_mended_17 (by decide) ?_
    refine z_callVIp (pc := 21) hO (As := [.int (zi q), .int (zi 0), .int (zi 1)]) (st := []) (c_X12_sumOf (qL Γ) g x q 0 1 (by first | assumption | omega) (by first | assumption | omega) (by first | assumption | omega)) k_X12_97 isO_50 rfl (Nat.le_of_ble_eq_true rfl) (by decide) (by decide) ⟨by decide, by decide⟩ dX12_mended_21 ?_
    refine z_aload_n (pc := 24) hO 1 dX12_mended_24 rfl rfl ?_
    refine z_iload_n (pc := 25) hO 2 dX12_mended_25 rfl rfl ?_
    refine z_iconst (pc := 26) hO dX12_mended_26 ?_
    refine z_iload_n (pc := 27) hO 0 dX12_mended_27 rfl rfl ?_
    refine z_callVIp (pc := 28) hO (As := [.int (zi q), .int (zi 0), .int (zi (p / (x 51 q)))]) (st := [.int (zi (lsum (x 51 q) (nd x q) 0 1))]) (c_X12_sumOf (qL Γ) g x q 0 (p / (x 51 q)) (by first | assumption | omega) (by first | assumption | omega) (by first | assumption | omega)) k_X12_97 isO_50 rfl (Nat.le_of_ble_eq_true rfl) (by decide) (by decide) ⟨by decide, by decide⟩ dX12_mended_28 ?_
    refine z_isub (pc := 31) hO dX12_mended_31 ?_
    refine z_aload_n (pc := 32) hO 1 dX12_mended_32 rfl rfl ?_
    refine gf_X12_numbers (pc := 33) hO f_X12_13 dX12_mended_33 ?_
    refine z_bipush (pc := 36) hO dX12_mended_36 (by decide) ?_
    refine z_iload_n (pc := 38) hO 2 dX12_mended_38 rfl rfl ?_
    refine z_imul (pc := 39) hO dX12_mended_39 ?_
    refine z_iload_n (pc := 40) hO 3 dX12_mended_40 rfl rfl ?_
    refine z_iadd (pc := 41) hO dX12_mended_41 ?_
    refine z_iald (pc := 42) hO isI_52 (by omega) dX12_mended_42 ?_
    refine z_iadd (pc := 43) hO dX12_mended_43 ?_
    exact z_iret (pc := 44) hO hr hQ rfl dX12_mended_44 ⟨by first | (unfold mdd; rw [nd_in (by omega)]; first | (rw [if_pos (by omega)]; done) | (rw [if_neg (by omega)]; done); done) | (exfalso; omega), rfl⟩

set_option maxHeartbeats 4000000 in
theorem e_X12_slip (l : Launch) (g : Gl) (x : Me) (q : Int) (what : Int)  (hM : MS x) (r_q : -2147483648 ≤ q ∧ q < 2147483648) (r_what : -2147483648 ≤ what ∧ what < 2147483648) (hno : ¬ ((0 ≤ q ∧ q < x 50 1) ∧ (0 ≤ what ∧ what ≤ 2))) : ctQ l g yX12_slip cX12_slip 12 (some .int) 6 142 [.ref (gA g 50), .int (zi q), .int (zi what)] x (QIu g (fun z x' => z = 0 ∧ x' = up x 50 0 (exn (0 ≤ q ∧ q < x 50 1) (0 ≤ what ∧ what ≤ 2) 1 2 0))) := by
  refine ct_start (own := RX12) (lv := [(0, .ref (gA g 50)), (1, .int (zi q)), (2, .int (zi what))]) (plainFor_of_name (by decide)) rfl (Nat.le_of_ble_eq_true rfl) rfl ?_
  intro Γ hΓ hO hr hQ _
  have hM1 := hM.1
  refine z_aload_n (pc := 0) hO 0 dX12_slip_0 rfl rfl ?_
  refine z_iload_n (pc := 1) hO 1 dX12_slip_1 rfl rfl ?_
  refine z_callVB (pc := 2) hO (As := [.int (zi q)]) (st := []) (c_X12_isSquare (qL Γ) g x q (by first | assumption | omega) (by first | assumption | omega)) k_X12_59 isO_50 rfl (Nat.le_of_ble_eq_true rfl) (by decide) (by decide) ⟨by decide, by decide⟩ dX12_slip_2 (fun pb1 => ?_) (fun pb1 => ?_)
  · skip
    refine z_istore_n (pc := 5) hO (lv' := [(3, .int (zi 1)), (0, .ref (gA g 50)), (1, .int (zi q)), (2, .int (zi what))]) dX12_slip_5 rfl (by decide) rfl ?_
    refine z_aload_n (pc := 6) hO 1 dX12_slip_6 rfl rfl ?_
    refine z_iload_n (pc := 7) hO 0 dX12_slip_7 rfl rfl ?_
    refine z_if_ne (pc := 8) hO (tgt := 15) dX12_slip_8 (by decide) (by decide) (fun _ => ?_) (fun h => absurd h (by decide))
    refine z_iload_n (pc := 15) hO 3 dX12_slip_15 rfl rfl ?_
    refine z_iconst (pc := 16) hO dX12_slip_16 ?_
    refine z_iconst (pc := 17) hO dX12_slip_17 ?_
    refine z_callSB (pc := 18) hO (As := [.int (zi what), .int (zi 0), .int (zi 2)]) (st := [.ref (gA g 50)]) (c_X12_in (qL Γ) g x what 0 2 (by first | assumption | omega) (by first | assumption | omega) (by first | assumption | omega)) k_X12_55 rfl (Nat.le_of_ble_eq_true rfl) (by decide) (by decide) ⟨by decide, by decide⟩ dX12_slip_18 (fun pb2 => ?_) (fun pb2 => ?_)
    · skip
      refine z_if_ne (pc := 21) hO (tgt := 28) dX12_slip_21 (by decide) (by decide) (fun _ => ?_) (fun h => absurd h (by decide))
      refine z_iconst (pc := 28) hO dX12_slip_28 ?_
      refine z_callVIm (pc := 29) hO (As := [.int (zi 0)]) (st := []) (c_X12_isFine0 (qL Γ) g x 0 (by first | assumption | omega)) k_X12_63 isO_50 rfl (Nat.le_of_ble_eq_true rfl) (by decide) (by decide) ⟨by decide, by decide⟩ dX12_slip_29 (fun m3 e4 => ?_)
      refine z_if_ne (pc := 32) hO (tgt := 37) dX12_slip_32 (by decide) (by decide) (fun _ => ?_) (fun h => absurd h (by decide))
      exfalso; omega
    · skip
      refine z_if_ne (pc := 21) hO (tgt := 28) dX12_slip_21 (by decide) (by decide) (fun h => absurd h (by decide)) (fun _ => ?_)
      refine z_iconst (pc := 24) hO dX12_slip_24 ?_
      refine z_goto (pc := 25) hO (tgt := 29) dX12_slip_25 (by decide) ?_
      refine z_callVIm (pc := 29) hO (As := [.int (zi 2)]) (st := []) (c_X12_isFine1 (qL Γ) g x 2 (by first | assumption | omega)) k_X12_63 isO_50 rfl (Nat.le_of_ble_eq_true rfl) (by decide) (by decide) ⟨by decide, by decide⟩ dX12_slip_29 (fun m5 e6 => ?_)
      refine z_if_ne (pc := 32) hO (tgt := 37) dX12_slip_32 (by decide) (by decide) (fun h => absurd h (by decide)) (fun _ => ?_)
      refine z_iconst (pc := 35) hO dX12_slip_35 ?_
      exact z_iret (pc := 36) hO hr hQ rfl dX12_slip_36 (by first | (refine ⟨rfl, ?_⟩; first | (rw [exn_1 (by omega)]; assumption) | (rw [exn_2 (by first | trivial | omega) (by omega)]; assumption) | (rw [exn_3 (by first | trivial | omega) (by first | trivial | omega)]; assumption); done) | (exfalso; omega))
  · skip
    refine z_istore_n (pc := 5) hO (lv' := [(3, .int (zi 0)), (0, .ref (gA g 50)), (1, .int (zi q)), (2, .int (zi what))]) dX12_slip_5 rfl (by decide) rfl ?_
    refine z_aload_n (pc := 6) hO 1 dX12_slip_6 rfl rfl ?_
    refine z_iload_n (pc := 7) hO 0 dX12_slip_7 rfl rfl ?_
    refine z_if_ne (pc := 8) hO (tgt := 15) dX12_slip_8 (by decide) (by decide) (fun h => absurd h (by decide)) (fun _ => ?_)
    refine z_iconst (pc := 11) hO dX12_slip_11 ?_
    refine z_goto (pc := 12) hO (tgt := 29) dX12_slip_12 (by decide) ?_
    refine z_callVIm (pc := 29) hO (As := [.int (zi 1)]) (st := []) (c_X12_isFine1 (qL Γ) g x 1 (by first | assumption | omega)) k_X12_63 isO_50 rfl (Nat.le_of_ble_eq_true rfl) (by decide) (by decide) ⟨by decide, by decide⟩ dX12_slip_29 (fun m7 e8 => ?_)
    refine z_if_ne (pc := 32) hO (tgt := 37) dX12_slip_32 (by decide) (by decide) (fun h => absurd h (by decide)) (fun _ => ?_)
    refine z_iconst (pc := 35) hO dX12_slip_35 ?_
    exact z_iret (pc := 36) hO hr hQ rfl dX12_slip_36 (by first | (refine ⟨rfl, ?_⟩; first | (rw [exn_1 (by omega)]; assumption) | (rw [exn_2 (by first | trivial | omega) (by omega)]; assumption) | (rw [exn_3 (by first | trivial | omega) (by first | trivial | omega)]; assumption); done) | (exfalso; omega))

set_option maxHeartbeats 4000000 in
theorem c_X12_slip (l : Launch) (g : Gl) (x : Me) (q : Int) (what : Int)  (hM : MS x) (r_q : -2147483648 ≤ q ∧ q < 2147483648) (r_what : -2147483648 ≤ what ∧ what < 2147483648) (hok : (0 ≤ q ∧ q < x 50 1) ∧ (0 ≤ what ∧ what ≤ 2)) : ctQ l g yX12_slip cX12_slip 12 (some .int) 6 142 [.ref (gA g 50), .int (zi q), .int (zi what)] x (QIu g (fun z x' => z = (slp (x 51 q) (nd x q) what) ∧ x' = up x 50 0 0)) := by
  refine ct_start (own := RX12) (lv := [(0, .ref (gA g 50)), (1, .int (zi q)), (2, .int (zi what))]) (plainFor_of_name (by decide)) rfl (Nat.le_of_ble_eq_true rfl) rfl ?_
  intro Γ hΓ hO hr hQ _
  have hM1 := hM.1
  refine z_aload_n (pc := 0) hO 0 dX12_slip_0 rfl rfl ?_
  refine z_iload_n (pc := 1) hO 1 dX12_slip_1 rfl rfl ?_
  refine z_callVB (pc := 2) hO (As := [.int (zi q)]) (st := []) (c_X12_isSquare (qL Γ) g x q (by first | assumption | omega) (by first | assumption | omega)) k_X12_59 isO_50 rfl (Nat.le_of_ble_eq_true rfl) (by decide) (by decide) ⟨by decide, by decide⟩ dX12_slip_2 (fun pb1 => ?_) (fun pb1 => ?_)
  · skip
    refine z_istore_n (pc := 5) hO (lv' := [(3, .int (zi 1)), (0, .ref (gA g 50)), (1, .int (zi q)), (2, .int (zi what))]) dX12_slip_5 rfl (by decide) rfl ?_
    refine z_aload_n (pc := 6) hO 1 dX12_slip_6 rfl rfl ?_
    refine z_iload_n (pc := 7) hO 0 dX12_slip_7 rfl rfl ?_
    refine z_if_ne (pc := 8) hO (tgt := 15) dX12_slip_8 (by decide) (by decide) (fun _ => ?_) (fun h => absurd h (by decide))
    refine z_iload_n (pc := 15) hO 3 dX12_slip_15 rfl rfl ?_
    refine z_iconst (pc := 16) hO dX12_slip_16 ?_
    refine z_iconst (pc := 17) hO dX12_slip_17 ?_
    refine z_callSB (pc := 18) hO (As := [.int (zi what), .int (zi 0), .int (zi 2)]) (st := [.ref (gA g 50)]) (c_X12_in (qL Γ) g x what 0 2 (by first | assumption | omega) (by first | assumption | omega) (by first | assumption | omega)) k_X12_55 rfl (Nat.le_of_ble_eq_true rfl) (by decide) (by decide) ⟨by decide, by decide⟩ dX12_slip_18 (fun pb2 => ?_) (fun pb2 => ?_)
    · skip
      refine z_if_ne (pc := 21) hO (tgt := 28) dX12_slip_21 (by decide) (by decide) (fun _ => ?_) (fun h => absurd h (by decide))
      refine z_iconst (pc := 28) hO dX12_slip_28 ?_
      refine z_callVIm (pc := 29) hO (As := [.int (zi 0)]) (st := []) (c_X12_isFine0 (qL Γ) g x 0 (by first | assumption | omega)) k_X12_63 isO_50 rfl (Nat.le_of_ble_eq_true rfl) (by decide) (by decide) ⟨by decide, by decide⟩ dX12_slip_29 (fun m3 e4 => ?_)
      refine z_if_ne (pc := 32) hO (tgt := 37) dX12_slip_32 (by decide) (by decide) (fun _ => ?_) (fun h => absurd h (by decide))
      have hG := hM.2 q (by omega) (by omega)
      have hs := hG.2.1
      have hth : m3 = up x 50 0 0 := by assumption
      have e51 : m3 51 q = x 51 q := by rw [hth, up_i _ _ _ (by omega)]
      have end_ : nd m3 q = nd x q := by funext p; rw [hth]; exact nd_th
      have hsq := sq9 hs
      have hN := nd_rng hG
      have n0 := hN 0
      clear hok
      refine z_iconst (pc := 37) hO dX12_slip_37 ?_
      refine z_istore (pc := 38) hO (lv' := [(4, .int (zi 0)), (3, .int (zi 1)), (0, .ref (gA g 50)), (1, .int (zi q)), (2, .int (zi what))]) dX12_slip_38 (by decide) rfl ?_
      refine z_iconst (pc := 40) hO dX12_slip_40 ?_
      refine z_istore (pc := 41) hO (lv' := [(5, .int (zi (-1))), (4, .int (zi 0)), (3, .int (zi 1)), (0, .ref (gA g 50)), (1, .int (zi q)), (2, .int (zi what))]) dX12_slip_41 (by decide) rfl ?_
      refine z_iconst (pc := 43) hO dX12_slip_43 ?_
      refine z_istore (pc := 44) hO (lv' := [(6, .int (zi (-1))), (5, .int (zi (-1))), (4, .int (zi 0)), (3, .int (zi 1)), (0, .ref (gA g 50)), (1, .int (zi q)), (2, .int (zi what))]) dX12_slip_44 (by decide) rfl ?_
      refine z_iconst (pc := 46) hO dX12_slip_46 ?_
      refine z_istore (pc := 47) hO (lv' := [(7, .int (zi 0)), (6, .int (zi (-1))), (5, .int (zi (-1))), (4, .int (zi 0)), (3, .int (zi 1)), (0, .ref (gA g 50)), (1, .int (zi q)), (2, .int (zi what))]) dX12_slip_47 (by decide) rfl ?_
      have L49 : ∀ (N : Nat) (w : Int) (pl : Int) (nu : Int) (p : Int), ((x 51 q * x 51 q) - p).toNat < N → (0 ≤ p ∧ p ≤ (x 51 q * x 51 q)) → (SO (x 51 q) (nd x q) p w pl nu) → Zz Γ g 12 0 0 m3 49 [(0, .ref (gA g 50)), (1, .int (zi q)), (2, .int (zi what)), (3, .int (zi 1)), (4, .int (zi w)), (5, .int (zi pl)), (6, .int (zi nu)), (7, .int (zi p))] [] := by
        intro N
        induction N with
        | zero => intro w pl nu p hm; exact absurd hm (Nat.not_lt_zero _)
        | succ N ih49 =>
          intro w pl nu p hm h0 hU
          refine z_iload (pc := 49) hO 7 dX12_slip_49 rfl ?_
          refine z_aload_n (pc := 51) hO 0 dX12_slip_51 rfl rfl ?_
          refine z_iload_n (pc := 52) hO 1 dX12_slip_52 rfl rfl ?_
          refine z_callVIp (pc := 53) hO (As := [.int (zi q)]) (st := [.int (zi p)]) (c_X12_areaOf (qL Γ) g m3 q (by rw [hth]; exact MG_th hG)) k_X12_100 isO_50 rfl (Nat.le_of_ble_eq_true rfl) (by decide) (by decide) ⟨by decide, by decide⟩ dX12_slip_53 ?_
          rw [e51]
          refine z_icmp_ge (pc := 56) hO (tgt := 189) dX12_slip_56 (by decide) (by omega) (by omega) (fun b5 => ?_) (fun b5 => ?_)
          · refine z_iload_n (pc := 189) hO 2 dX12_slip_189 rfl rfl ?_
            refine z_if_ne (pc := 190) hO (tgt := 198) dX12_slip_190 (by decide) (by omega) (fun b6 => ?_) (fun b6 => ?_)
            · refine z_iload_n (pc := 198) hO 2 dX12_slip_198 rfl rfl ?_
              refine z_iconst (pc := 199) hO dX12_slip_199 ?_
              refine z_icmp_ne (pc := 200) hO (tgt := 208) dX12_slip_200 (by decide) (by omega) (by omega) (fun b7 => ?_) (fun b7 => ?_)
              · refine z_iload (pc := 208) hO 6 dX12_slip_208 rfl ?_
                exact z_iret (pc := 210) hO hr hQ rfl dX12_slip_210 (by first | (refine ⟨?_, hth⟩; obtain rfl : p = (x 51 q * x 51 q) := (by omega); have hz := SO_end (what := what) (by omega) hU; first | exact hz.1 (by omega) | exact hz.2.1 (by omega) | exact hz.2.2 (by omega); done) | (exfalso; omega))
              · refine z_iload (pc := 203) hO 5 dX12_slip_203 rfl ?_
                refine z_goto (pc := 205) hO (tgt := 210) dX12_slip_205 (by decide) ?_
                exact z_iret (pc := 210) hO hr hQ rfl dX12_slip_210 (by first | (refine ⟨?_, hth⟩; obtain rfl : p = (x 51 q * x 51 q) := (by omega); have hz := SO_end (what := what) (by omega) hU; first | exact hz.1 (by omega) | exact hz.2.1 (by omega) | exact hz.2.2 (by omega); done) | (exfalso; omega))
            · refine z_iload (pc := 193) hO 4 dX12_slip_193 rfl ?_
              refine z_goto (pc := 195) hO (tgt := 210) dX12_slip_195 (by decide) ?_
              exact z_iret (pc := 210) hO hr hQ rfl dX12_slip_210 (by first | (refine ⟨?_, hth⟩; obtain rfl : p = (x 51 q * x 51 q) := (by omega); have hz := SO_end (what := what) (by omega) hU; first | exact hz.1 (by omega) | exact hz.2.1 (by omega) | exact hz.2.2 (by omega); done) | (exfalso; omega))
          · have J80 : ∀ (lo : Int), (LOc (x 51 q) (nd x q) p lo) → Zz Γ g 12 0 0 m3 80 [(0, .ref (gA g 50)), (1, .int (zi q)), (2, .int (zi what)), (3, .int (zi 1)), (4, .int (zi w)), (5, .int (zi pl)), (6, .int (zi nu)), (7, .int (zi p))] [.int (zi lo)] := by
              intro lo h_lo
              refine z_istore (pc := 80) hO (lv' := [(8, .int (zi lo)), (0, .ref (gA g 50)), (1, .int (zi q)), (2, .int (zi what)), (3, .int (zi 1)), (4, .int (zi w)), (5, .int (zi pl)), (6, .int (zi nu)), (7, .int (zi p))]) dX12_slip_80 (by decide) rfl ?_
              have J100 : ∀ (hi : Int), (HIc (x 51 q) lo hi) → Zz Γ g 12 0 0 m3 100 [(0, .ref (gA g 50)), (1, .int (zi q)), (2, .int (zi what)), (3, .int (zi 1)), (4, .int (zi w)), (5, .int (zi pl)), (6, .int (zi nu)), (7, .int (zi p)), (8, .int (zi lo))] [.int (zi hi)] := by
                intro hi h_hi
                refine z_istore (pc := 100) hO (lv' := [(9, .int (zi hi)), (0, .ref (gA g 50)), (1, .int (zi q)), (2, .int (zi what)), (3, .int (zi 1)), (4, .int (zi w)), (5, .int (zi pl)), (6, .int (zi nu)), (7, .int (zi p)), (8, .int (zi lo))]) dX12_slip_100 (by decide) rfl ?_
                refine z_iload (pc := 102) hO 9 dX12_slip_102 rfl ?_
                refine z_istore (pc := 104) hO (lv' := [(10, .int (zi lo)), (9, .int (zi hi)), (0, .ref (gA g 50)), (1, .int (zi q)), (2, .int (zi what)), (3, .int (zi 1)), (4, .int (zi w)), (5, .int (zi pl)), (6, .int (zi nu)), (7, .int (zi p)), (8, .int (zi lo))]) dX12_slip_104 (by decide) rfl ?_
                have hhr : (-100000 ≤ lo ∧ lo ≤ 100000) ∧ -100000 ≤ hi ∧ hi ≤ 99999 := LOHI hs hN h_lo h_hi
                have L106 : ∀ (N : Nat) (w2 : Int) (pl2 : Int) (nu2 : Int) (v : Int), (hi + 1 - v).toNat < N → (-100000 ≤ v ∧ v ≤ 100000) → (SI (x 51 q) (nd x q) lo p w pl nu v w2 pl2 nu2) → Zz Γ g 12 0 0 m3 106 [(0, .ref (gA g 50)), (1, .int (zi q)), (2, .int (zi what)), (3, .int (zi 1)), (4, .int (zi w2)), (5, .int (zi pl2)), (6, .int (zi nu2)), (7, .int (zi p)), (8, .int (zi lo)), (9, .int (zi hi)), (10, .int (zi v))] [] := by
                  intro N
                  induction N with
                  | zero => intro w2 pl2 nu2 v hm; exact absurd hm (Nat.not_lt_zero _)
                  | succ N ih106 =>
                    intro w2 pl2 nu2 v hm hv1 hI
                    have hsr := SI_r hU (by omega) hI
                    refine z_iload (pc := 106) hO 10 dX12_slip_106 rfl ?_
                    refine z_iload (pc := 108) hO 9 dX12_slip_108 rfl ?_
                    refine z_icmp_gt (pc := 110) hO (tgt := 183) dX12_slip_110 (by decide) (by omega) (by omega) (fun b8 => ?_) (fun b8 => ?_)
                    · refine z_iinc (pc := 183) hO 7 (lv' := [(7, .int (zi (p + 1))), (0, .ref (gA g 50)), (1, .int (zi q)), (2, .int (zi what)), (3, .int (zi 1)), (4, .int (zi w2)), (5, .int (zi pl2)), (6, .int (zi nu2)), (8, .int (zi lo)), (9, .int (zi hi)), (10, .int (zi v))]) dX12_slip_183 rfl (by decide) rfl ?_
                      refine z_goto (pc := 186) hO (tgt := 49) dX12_slip_186 (by decide) ?_
                      refine z_sub [1, 2, 3, 4, 5, 6, 7, 0] rfl ?_
                      exact ih49 w2 pl2 nu2 (p + 1) (by omega) (by omega) (by exact SO_s n0 (by omega) h_hi (by omega) hU hI)
                    · refine z_aload_n (pc := 113) hO 0 dX12_slip_113 rfl rfl ?_
                      refine z_iload_n (pc := 114) hO 1 dX12_slip_114 rfl rfl ?_
                      refine z_iload (pc := 115) hO 7 dX12_slip_115 rfl ?_
                      refine z_iload (pc := 117) hO 10 dX12_slip_117 rfl ?_
                      refine z_callVB (pc := 119) hO (As := [.int (zi q), .int (zi p), .int (zi v)]) (st := []) (c_X12_isSlip (qL Γ) g m3 q p v (by rw [hth]; exact MG_th hG) (by rw [e51]; omega) (by first | assumption | omega)) k_X12_196 isO_50 rfl (Nat.le_of_ble_eq_true rfl) (by decide) (by decide) ⟨by decide, by decide⟩ dX12_slip_119 (fun pb9 => ?_) (fun pb9 => ?_)
                      · skip
                        have hpb := pb9
                        rw [e51, end_] at hpb
                        have hT := SI_t h_lo h_hi (by omega) hI hpb
                        refine z_istore (pc := 122) hO (lv' := [(11, .int (zi 1)), (0, .ref (gA g 50)), (1, .int (zi q)), (2, .int (zi what)), (3, .int (zi 1)), (4, .int (zi w2)), (5, .int (zi pl2)), (6, .int (zi nu2)), (7, .int (zi p)), (8, .int (zi lo)), (9, .int (zi hi)), (10, .int (zi v))]) dX12_slip_122 (by decide) rfl ?_
                        refine z_iload (pc := 124) hO 0 dX12_slip_124 rfl ?_
                        refine z_if_eq (pc := 126) hO (tgt := 139) dX12_slip_126 (by decide) (by decide) (fun h => absurd h (by decide)) (fun _ => ?_)
                        refine z_iload (pc := 129) hO 5 dX12_slip_129 rfl ?_
                        refine z_if_ne (pc := 131) hO (tgt := 139) dX12_slip_131 (by decide) (by omega) (fun b10 => ?_) (fun b10 => ?_)
                        · refine z_iload (pc := 139) hO 6 dX12_slip_139 rfl ?_
                          refine z_istore (pc := 141) hO (lv' := [(5, .int (zi pl2)), (11, .int (zi 1)), (0, .ref (gA g 50)), (1, .int (zi q)), (2, .int (zi what)), (3, .int (zi 1)), (4, .int (zi w2)), (6, .int (zi nu2)), (7, .int (zi p)), (8, .int (zi lo)), (9, .int (zi hi)), (10, .int (zi v))]) dX12_slip_141 (by decide) rfl ?_
                          refine z_iload (pc := 143) hO 1 dX12_slip_143 rfl ?_
                          refine z_if_eq (pc := 145) hO (tgt := 158) dX12_slip_145 (by decide) (by decide) (fun h => absurd h (by decide)) (fun _ => ?_)
                          refine z_iload (pc := 148) hO 6 dX12_slip_148 rfl ?_
                          refine z_if_ne (pc := 150) hO (tgt := 158) dX12_slip_150 (by decide) (by omega) (fun b11 => ?_) (fun b11 => ?_)
                          · refine z_iload (pc := 158) hO 7 dX12_slip_158 rfl ?_
                            refine z_istore (pc := 160) hO (lv' := [(6, .int (zi nu2)), (5, .int (zi pl2)), (11, .int (zi 1)), (0, .ref (gA g 50)), (1, .int (zi q)), (2, .int (zi what)), (3, .int (zi 1)), (4, .int (zi w2)), (7, .int (zi p)), (8, .int (zi lo)), (9, .int (zi hi)), (10, .int (zi v))]) dX12_slip_160 (by decide) rfl ?_
                            refine z_iload (pc := 162) hO 7 dX12_slip_162 rfl ?_
                            refine z_iload (pc := 164) hO 2 dX12_slip_164 rfl ?_
                            refine z_if_eq (pc := 166) hO (tgt := 173) dX12_slip_166 (by decide) (by decide) (fun h => absurd h (by decide)) (fun _ => ?_)
                            refine z_iconst (pc := 169) hO dX12_slip_169 ?_
                            refine z_goto (pc := 170) hO (tgt := 174) dX12_slip_170 (by decide) ?_
                            refine z_iadd (pc := 174) hO dX12_slip_174 ?_
                            refine z_istore (pc := 175) hO (lv' := [(4, .int (zi (w2 + 1))), (6, .int (zi nu2)), (5, .int (zi pl2)), (11, .int (zi 1)), (0, .ref (gA g 50)), (1, .int (zi q)), (2, .int (zi what)), (3, .int (zi 1)), (7, .int (zi p)), (8, .int (zi lo)), (9, .int (zi hi)), (10, .int (zi v))]) dX12_slip_175 (by decide) rfl ?_
                            refine z_iinc (pc := 177) hO 11 (lv' := [(10, .int (zi (v + 1))), (4, .int (zi (w2 + 1))), (6, .int (zi nu2)), (5, .int (zi pl2)), (11, .int (zi 1)), (0, .ref (gA g 50)), (1, .int (zi q)), (2, .int (zi what)), (3, .int (zi 1)), (7, .int (zi p)), (8, .int (zi lo)), (9, .int (zi hi))]) dX12_slip_177 rfl (by decide) rfl ?_
                            refine z_goto (pc := 180) hO (tgt := 106) dX12_slip_180 (by decide) ?_
                            refine z_sub [5, 6, 7, 8, 1, 3, 2, 9, 10, 11, 0] rfl ?_
                            exact ih106 (w2 + 1) pl2 nu2 (v + 1) (by omega) (by omega) (by first | exact hE | exact hT.1 (by omega) | exact hT.2 (by omega) | (exfalso; omega))
                          · refine z_iload (pc := 153) hO 11 dX12_slip_153 rfl ?_
                            refine z_goto (pc := 155) hO (tgt := 160) dX12_slip_155 (by decide) ?_
                            refine z_istore (pc := 160) hO (lv' := [(6, .int (zi v)), (5, .int (zi pl2)), (11, .int (zi 1)), (0, .ref (gA g 50)), (1, .int (zi q)), (2, .int (zi what)), (3, .int (zi 1)), (4, .int (zi w2)), (7, .int (zi p)), (8, .int (zi lo)), (9, .int (zi hi)), (10, .int (zi v))]) dX12_slip_160 (by decide) rfl ?_
                            refine z_iload (pc := 162) hO 7 dX12_slip_162 rfl ?_
                            refine z_iload (pc := 164) hO 2 dX12_slip_164 rfl ?_
                            refine z_if_eq (pc := 166) hO (tgt := 173) dX12_slip_166 (by decide) (by decide) (fun h => absurd h (by decide)) (fun _ => ?_)
                            refine z_iconst (pc := 169) hO dX12_slip_169 ?_
                            refine z_goto (pc := 170) hO (tgt := 174) dX12_slip_170 (by decide) ?_
                            refine z_iadd (pc := 174) hO dX12_slip_174 ?_
                            refine z_istore (pc := 175) hO (lv' := [(4, .int (zi (w2 + 1))), (6, .int (zi v)), (5, .int (zi pl2)), (11, .int (zi 1)), (0, .ref (gA g 50)), (1, .int (zi q)), (2, .int (zi what)), (3, .int (zi 1)), (7, .int (zi p)), (8, .int (zi lo)), (9, .int (zi hi)), (10, .int (zi v))]) dX12_slip_175 (by decide) rfl ?_
                            refine z_iinc (pc := 177) hO 11 (lv' := [(10, .int (zi (v + 1))), (4, .int (zi (w2 + 1))), (6, .int (zi v)), (5, .int (zi pl2)), (11, .int (zi 1)), (0, .ref (gA g 50)), (1, .int (zi q)), (2, .int (zi what)), (3, .int (zi 1)), (7, .int (zi p)), (8, .int (zi lo)), (9, .int (zi hi))]) dX12_slip_177 rfl (by decide) rfl ?_
                            refine z_goto (pc := 180) hO (tgt := 106) dX12_slip_180 (by decide) ?_
                            refine z_sub [5, 6, 7, 8, 1, 3, 2, 9, 10, 11, 0] rfl ?_
                            exact ih106 (w2 + 1) pl2 v (v + 1) (by omega) (by omega) (by first | exact hE | exact hT.1 (by omega) | exact hT.2 (by omega) | (exfalso; omega))
                        · refine z_iload (pc := 134) hO 8 dX12_slip_134 rfl ?_
                          refine z_goto (pc := 136) hO (tgt := 141) dX12_slip_136 (by decide) ?_
                          refine z_istore (pc := 141) hO (lv' := [(5, .int (zi p)), (11, .int (zi 1)), (0, .ref (gA g 50)), (1, .int (zi q)), (2, .int (zi what)), (3, .int (zi 1)), (4, .int (zi w2)), (6, .int (zi nu2)), (7, .int (zi p)), (8, .int (zi lo)), (9, .int (zi hi)), (10, .int (zi v))]) dX12_slip_141 (by decide) rfl ?_
                          refine z_iload (pc := 143) hO 1 dX12_slip_143 rfl ?_
                          refine z_if_eq (pc := 145) hO (tgt := 158) dX12_slip_145 (by decide) (by decide) (fun h => absurd h (by decide)) (fun _ => ?_)
                          refine z_iload (pc := 148) hO 6 dX12_slip_148 rfl ?_
                          refine z_if_ne (pc := 150) hO (tgt := 158) dX12_slip_150 (by decide) (by omega) (fun b12 => ?_) (fun b12 => ?_)
                          · refine z_iload (pc := 158) hO 7 dX12_slip_158 rfl ?_
                            refine z_istore (pc := 160) hO (lv' := [(6, .int (zi nu2)), (5, .int (zi p)), (11, .int (zi 1)), (0, .ref (gA g 50)), (1, .int (zi q)), (2, .int (zi what)), (3, .int (zi 1)), (4, .int (zi w2)), (7, .int (zi p)), (8, .int (zi lo)), (9, .int (zi hi)), (10, .int (zi v))]) dX12_slip_160 (by decide) rfl ?_
                            refine z_iload (pc := 162) hO 7 dX12_slip_162 rfl ?_
                            refine z_iload (pc := 164) hO 2 dX12_slip_164 rfl ?_
                            refine z_if_eq (pc := 166) hO (tgt := 173) dX12_slip_166 (by decide) (by decide) (fun h => absurd h (by decide)) (fun _ => ?_)
                            refine z_iconst (pc := 169) hO dX12_slip_169 ?_
                            refine z_goto (pc := 170) hO (tgt := 174) dX12_slip_170 (by decide) ?_
                            refine z_iadd (pc := 174) hO dX12_slip_174 ?_
                            refine z_istore (pc := 175) hO (lv' := [(4, .int (zi (w2 + 1))), (6, .int (zi nu2)), (5, .int (zi p)), (11, .int (zi 1)), (0, .ref (gA g 50)), (1, .int (zi q)), (2, .int (zi what)), (3, .int (zi 1)), (7, .int (zi p)), (8, .int (zi lo)), (9, .int (zi hi)), (10, .int (zi v))]) dX12_slip_175 (by decide) rfl ?_
                            refine z_iinc (pc := 177) hO 11 (lv' := [(10, .int (zi (v + 1))), (4, .int (zi (w2 + 1))), (6, .int (zi nu2)), (5, .int (zi p)), (11, .int (zi 1)), (0, .ref (gA g 50)), (1, .int (zi q)), (2, .int (zi what)), (3, .int (zi 1)), (7, .int (zi p)), (8, .int (zi lo)), (9, .int (zi hi))]) dX12_slip_177 rfl (by decide) rfl ?_
                            refine z_goto (pc := 180) hO (tgt := 106) dX12_slip_180 (by decide) ?_
                            refine z_sub [5, 6, 7, 8, 1, 3, 2, 9, 10, 11, 0] rfl ?_
                            exact ih106 (w2 + 1) p nu2 (v + 1) (by omega) (by omega) (by first | exact hE | exact hT.1 (by omega) | exact hT.2 (by omega) | (exfalso; omega))
                          · refine z_iload (pc := 153) hO 11 dX12_slip_153 rfl ?_
                            refine z_goto (pc := 155) hO (tgt := 160) dX12_slip_155 (by decide) ?_
                            refine z_istore (pc := 160) hO (lv' := [(6, .int (zi v)), (5, .int (zi p)), (11, .int (zi 1)), (0, .ref (gA g 50)), (1, .int (zi q)), (2, .int (zi what)), (3, .int (zi 1)), (4, .int (zi w2)), (7, .int (zi p)), (8, .int (zi lo)), (9, .int (zi hi)), (10, .int (zi v))]) dX12_slip_160 (by decide) rfl ?_
                            refine z_iload (pc := 162) hO 7 dX12_slip_162 rfl ?_
                            refine z_iload (pc := 164) hO 2 dX12_slip_164 rfl ?_
                            refine z_if_eq (pc := 166) hO (tgt := 173) dX12_slip_166 (by decide) (by decide) (fun h => absurd h (by decide)) (fun _ => ?_)
                            refine z_iconst (pc := 169) hO dX12_slip_169 ?_
                            refine z_goto (pc := 170) hO (tgt := 174) dX12_slip_170 (by decide) ?_
                            refine z_iadd (pc := 174) hO dX12_slip_174 ?_
                            refine z_istore (pc := 175) hO (lv' := [(4, .int (zi (w2 + 1))), (6, .int (zi v)), (5, .int (zi p)), (11, .int (zi 1)), (0, .ref (gA g 50)), (1, .int (zi q)), (2, .int (zi what)), (3, .int (zi 1)), (7, .int (zi p)), (8, .int (zi lo)), (9, .int (zi hi)), (10, .int (zi v))]) dX12_slip_175 (by decide) rfl ?_
                            refine z_iinc (pc := 177) hO 11 (lv' := [(10, .int (zi (v + 1))), (4, .int (zi (w2 + 1))), (6, .int (zi v)), (5, .int (zi p)), (11, .int (zi 1)), (0, .ref (gA g 50)), (1, .int (zi q)), (2, .int (zi what)), (3, .int (zi 1)), (7, .int (zi p)), (8, .int (zi lo)), (9, .int (zi hi))]) dX12_slip_177 rfl (by decide) rfl ?_
                            refine z_goto (pc := 180) hO (tgt := 106) dX12_slip_180 (by decide) ?_
                            refine z_sub [5, 6, 7, 8, 1, 3, 2, 9, 10, 11, 0] rfl ?_
                            exact ih106 (w2 + 1) p v (v + 1) (by omega) (by omega) (by first | exact hE | exact hT.1 (by omega) | exact hT.2 (by omega) | (exfalso; omega))
                      · skip
                        have hpb := pb9
                        rw [e51, end_] at hpb
                        have hE := SI_e h_lo h_hi (by omega) hI hpb
                        refine z_istore (pc := 122) hO (lv' := [(11, .int (zi 0)), (0, .ref (gA g 50)), (1, .int (zi q)), (2, .int (zi what)), (3, .int (zi 1)), (4, .int (zi w2)), (5, .int (zi pl2)), (6, .int (zi nu2)), (7, .int (zi p)), (8, .int (zi lo)), (9, .int (zi hi)), (10, .int (zi v))]) dX12_slip_122 (by decide) rfl ?_
                        refine z_iload (pc := 124) hO 0 dX12_slip_124 rfl ?_
                        refine z_if_eq (pc := 126) hO (tgt := 139) dX12_slip_126 (by decide) (by decide) (fun _ => ?_) (fun h => absurd h (by decide))
                        refine z_iload (pc := 139) hO 6 dX12_slip_139 rfl ?_
                        refine z_istore (pc := 141) hO (lv' := [(5, .int (zi pl2)), (11, .int (zi 0)), (0, .ref (gA g 50)), (1, .int (zi q)), (2, .int (zi what)), (3, .int (zi 1)), (4, .int (zi w2)), (6, .int (zi nu2)), (7, .int (zi p)), (8, .int (zi lo)), (9, .int (zi hi)), (10, .int (zi v))]) dX12_slip_141 (by decide) rfl ?_
                        refine z_iload (pc := 143) hO 1 dX12_slip_143 rfl ?_
                        refine z_if_eq (pc := 145) hO (tgt := 158) dX12_slip_145 (by decide) (by decide) (fun _ => ?_) (fun h => absurd h (by decide))
                        refine z_iload (pc := 158) hO 7 dX12_slip_158 rfl ?_
                        refine z_istore (pc := 160) hO (lv' := [(6, .int (zi nu2)), (5, .int (zi pl2)), (11, .int (zi 0)), (0, .ref (gA g 50)), (1, .int (zi q)), (2, .int (zi what)), (3, .int (zi 1)), (4, .int (zi w2)), (7, .int (zi p)), (8, .int (zi lo)), (9, .int (zi hi)), (10, .int (zi v))]) dX12_slip_160 (by decide) rfl ?_
                        refine z_iload (pc := 162) hO 7 dX12_slip_162 rfl ?_
                        refine z_iload (pc := 164) hO 2 dX12_slip_164 rfl ?_
                        refine z_if_eq (pc := 166) hO (tgt := 173) dX12_slip_166 (by decide) (by decide) (fun _ => ?_) (fun h => absurd h (by decide))
                        refine z_iconst (pc := 173) hO dX12_slip_173 ?_
                        refine z_iadd (pc := 174) hO dX12_slip_174 ?_
                        refine z_istore (pc := 175) hO (lv' := [(4, .int (zi (w2 + 0))), (6, .int (zi nu2)), (5, .int (zi pl2)), (11, .int (zi 0)), (0, .ref (gA g 50)), (1, .int (zi q)), (2, .int (zi what)), (3, .int (zi 1)), (7, .int (zi p)), (8, .int (zi lo)), (9, .int (zi hi)), (10, .int (zi v))]) dX12_slip_175 (by decide) rfl ?_
                        refine z_iinc (pc := 177) hO 11 (lv' := [(10, .int (zi (v + 1))), (4, .int (zi (w2 + 0))), (6, .int (zi nu2)), (5, .int (zi pl2)), (11, .int (zi 0)), (0, .ref (gA g 50)), (1, .int (zi q)), (2, .int (zi what)), (3, .int (zi 1)), (7, .int (zi p)), (8, .int (zi lo)), (9, .int (zi hi))]) dX12_slip_177 rfl (by decide) rfl ?_
                        refine z_goto (pc := 180) hO (tgt := 106) dX12_slip_180 (by decide) ?_
                        refine z_sub [5, 6, 7, 8, 1, 3, 2, 9, 10, 11, 0] rfl ?_
                        exact ih106 (w2 + 0) pl2 nu2 (v + 1) (by omega) (by omega) (by first | exact hE | exact hT.1 (by omega) | exact hT.2 (by omega) | (exfalso; omega))
                refine z_sub [2, 3, 4, 5, 6, 7, 8, 9, 10, 1, 0] rfl ?_
                exact L106 _ w pl nu lo (Nat.lt_succ_self _) (by exact hhr.1) (by exact SI_0 h_lo hU (by omega))
              refine z_aload_n (pc := 82) hO 1 dX12_slip_82 rfl rfl ?_
              refine gf_X12_sideOf (pc := 83) hO f_X12_7 dX12_slip_83 ?_
              refine z_iload_n (pc := 86) hO 2 dX12_slip_86 rfl rfl ?_
              refine z_iald (pc := 87) hO isI_51 (by omega) dX12_slip_87 ?_
              rw [e51]
              refine z_iconst (pc := 88) hO dX12_slip_88 ?_
              refine z_icmp_ne (pc := 89) hO (tgt := 98) dX12_slip_89 (by decide) (by omega) (by omega) (fun b13 => ?_) (fun b13 => ?_)
              · refine z_iload (pc := 98) hO 0 dX12_slip_98 rfl ?_
                refine z_sub [1, 2, 3, 4, 5, 6, 7, 8, 0] rfl ?_
                exact J100 lo (by first | exact Or.inl ⟨by omega, rfl⟩ | exact Or.inr ⟨by omega, rfl⟩)
              · refine z_sipush (pc := 92) hO dX12_slip_92 (by decide) ?_
                refine z_goto (pc := 95) hO (tgt := 100) dX12_slip_95 (by decide) ?_
                refine z_sub [1, 2, 3, 4, 5, 6, 7, 8, 0] rfl ?_
                exact J100 999 (by first | exact Or.inl ⟨by omega, rfl⟩ | exact Or.inr ⟨by omega, rfl⟩)
            refine z_aload_n (pc := 59) hO 0 dX12_slip_59 rfl rfl ?_
            refine gf_X12_sideOf (pc := 60) hO f_X12_7 dX12_slip_60 ?_
            refine z_iload_n (pc := 63) hO 1 dX12_slip_63 rfl rfl ?_
            refine z_iald (pc := 64) hO isI_51 (by omega) dX12_slip_64 ?_
            rw [e51]
            refine z_iconst (pc := 65) hO dX12_slip_65 ?_
            refine z_icmp_ne (pc := 66) hO (tgt := 73) dX12_slip_66 (by decide) (by omega) (by omega) (fun b14 => ?_) (fun b14 => ?_)
            · refine z_aload_n (pc := 73) hO 0 dX12_slip_73 rfl rfl ?_
              refine z_iload_n (pc := 74) hO 1 dX12_slip_74 rfl rfl ?_
              refine z_iload (pc := 75) hO 7 dX12_slip_75 rfl ?_
              refine z_callVIp (pc := 77) hO (As := [.int (zi q), .int (zi p)]) (st := []) (c_X12_mended (qL Γ) g m3 q p (by rw [hth]; exact MG_th hG) (by rw [e51]; omega) (by rw [e51]; omega)) k_X12_193 isO_50 rfl (Nat.le_of_ble_eq_true rfl) (by decide) (by decide) ⟨by decide, by decide⟩ dX12_slip_77 ?_
              refine z_sub [0, 1, 2, 3, 4, 5, 6, 7] rfl ?_
              exact J80 (mdd (m3 51 q) (nd m3 q) p) (by first | exact Or.inl ⟨by omega, rfl⟩ | exact Or.inr ⟨by omega, by rw [e51, end_]⟩)
            · refine z_iconst (pc := 69) hO dX12_slip_69 ?_
              refine z_goto (pc := 70) hO (tgt := 80) dX12_slip_70 (by decide) ?_
              refine z_sub [0, 1, 2, 3, 4, 5, 6, 7] rfl ?_
              exact J80 1 (by first | exact Or.inl ⟨by omega, rfl⟩ | exact Or.inr ⟨by omega, by rw [e51, end_]⟩)
      refine z_sub [5, 6, 7, 4, 3, 2, 1, 0] rfl ?_
      exact L49 _ 0 (-1) (-1) 0 (Nat.lt_succ_self _) (by omega) (by exact SO_0 (by omega))
    · skip
      exfalso; omega
  · skip
    exfalso; omega

set_option maxHeartbeats 4000000 in
theorem e_X12_orthogonal (l : Launch) (g : Gl) (x : Me) (q : Int) (r : Int)  (hM : MS x) (r_q : -2147483648 ≤ q ∧ q < 2147483648) (r_r : -2147483648 ≤ r ∧ r < 2147483648) (hno : ¬ (((0 ≤ q ∧ q < x 50 1) ∧ 0 ≤ r ∧ r < x 50 1) ∧ (x 51 q = x 51 r))) : ctQ l g yX12_orthogonal cX12_orthogonal 7 (some .boolean) 3 63 [.ref (gA g 50), .int (zi q), .int (zi r)] x (QIu g (fun z x' => z = 0 ∧ x' = up x 50 0 (exn ((0 ≤ q ∧ q < x 50 1) ∧ 0 ≤ r ∧ r < x 50 1) (True) 1 0 2))) := by
  refine ct_start (own := RX12) (lv := [(0, .ref (gA g 50)), (1, .int (zi q)), (2, .int (zi r))]) (plainFor_of_name (by decide)) rfl (Nat.le_of_ble_eq_true rfl) rfl ?_
  intro Γ hΓ hO hr hQ _
  have hM1 := hM.1
  refine z_aload_n (pc := 0) hO 0 dX12_orthogonal_0 rfl rfl ?_
  refine z_iload_n (pc := 1) hO 1 dX12_orthogonal_1 rfl rfl ?_
  refine z_callVB (pc := 2) hO (As := [.int (zi q)]) (st := []) (c_X12_isSquare (qL Γ) g x q (by first | assumption | omega) (by first | assumption | omega)) k_X12_59 isO_50 rfl (Nat.le_of_ble_eq_true rfl) (by decide) (by decide) ⟨by decide, by decide⟩ dX12_orthogonal_2 (fun pb1 => ?_) (fun pb1 => ?_)
  · skip
    refine z_if_eq (pc := 5) hO (tgt := 20) dX12_orthogonal_5 (by decide) (by decide) (fun h => absurd h (by decide)) (fun _ => ?_)
    refine z_aload_n (pc := 8) hO 0 dX12_orthogonal_8 rfl rfl ?_
    refine z_iload_n (pc := 9) hO 2 dX12_orthogonal_9 rfl rfl ?_
    refine z_callVB (pc := 10) hO (As := [.int (zi r)]) (st := []) (c_X12_isSquare (qL Γ) g x r (by first | assumption | omega) (by first | assumption | omega)) k_X12_59 isO_50 rfl (Nat.le_of_ble_eq_true rfl) (by decide) (by decide) ⟨by decide, by decide⟩ dX12_orthogonal_10 (fun pb2 => ?_) (fun pb2 => ?_)
    · skip
      refine z_if_eq (pc := 13) hO (tgt := 20) dX12_orthogonal_13 (by decide) (by decide) (fun h => absurd h (by decide)) (fun _ => ?_)
      refine z_iconst (pc := 16) hO dX12_orthogonal_16 ?_
      refine z_goto (pc := 17) hO (tgt := 21) dX12_orthogonal_17 (by decide) ?_
      refine z_istore_n (pc := 21) hO (lv' := [(3, .int (zi 1)), (0, .ref (gA g 50)), (1, .int (zi q)), (2, .int (zi r))]) dX12_orthogonal_21 rfl (by decide) rfl ?_
      refine z_aload_n (pc := 22) hO 1 dX12_orthogonal_22 rfl rfl ?_
      refine z_iload_n (pc := 23) hO 0 dX12_orthogonal_23 rfl rfl ?_
      refine z_if_ne (pc := 24) hO (tgt := 31) dX12_orthogonal_24 (by decide) (by decide) (fun _ => ?_) (fun h => absurd h (by decide))
      have hs1 := (hM.2 q (by omega) (by omega)).2.1
      have hq1 := (hM.2 q (by omega) (by omega)).1
      have hs2 := (hM.2 r (by omega) (by omega)).2.1
      have hq2 := (hM.2 r (by omega) (by omega)).1
      refine z_aload_n (pc := 31) hO 1 dX12_orthogonal_31 rfl rfl ?_
      refine gf_X12_sideOf (pc := 32) hO f_X12_7 dX12_orthogonal_32 ?_
      refine z_iload_n (pc := 35) hO 2 dX12_orthogonal_35 rfl rfl ?_
      refine z_iald (pc := 36) hO isI_51 (by omega) dX12_orthogonal_36 ?_
      refine z_aload_n (pc := 37) hO 1 dX12_orthogonal_37 rfl rfl ?_
      refine gf_X12_sideOf (pc := 38) hO f_X12_7 dX12_orthogonal_38 ?_
      refine z_iload_n (pc := 41) hO 3 dX12_orthogonal_41 rfl rfl ?_
      refine z_iald (pc := 42) hO isI_51 (by omega) dX12_orthogonal_42 ?_
      refine z_icmp_eq (pc := 43) hO (tgt := 50) dX12_orthogonal_43 (by decide) (by omega) (by omega) (fun b3 => ?_) (fun b3 => ?_)
      · refine z_iconst (pc := 50) hO dX12_orthogonal_50 ?_
        refine z_callVIm (pc := 51) hO (As := [.int (zi 0)]) (st := []) (c_X12_isFine0 (qL Γ) g x 0 (by first | assumption | omega)) k_X12_63 isO_50 rfl (Nat.le_of_ble_eq_true rfl) (by decide) (by decide) ⟨by decide, by decide⟩ dX12_orthogonal_51 (fun m4 e5 => ?_)
        refine z_if_ne (pc := 54) hO (tgt := 59) dX12_orthogonal_54 (by decide) (by decide) (fun _ => ?_) (fun h => absurd h (by decide))
        exfalso; omega
      · refine z_iconst (pc := 46) hO dX12_orthogonal_46 ?_
        refine z_goto (pc := 47) hO (tgt := 51) dX12_orthogonal_47 (by decide) ?_
        refine z_callVIm (pc := 51) hO (As := [.int (zi 2)]) (st := []) (c_X12_isFine1 (qL Γ) g x 2 (by first | assumption | omega)) k_X12_63 isO_50 rfl (Nat.le_of_ble_eq_true rfl) (by decide) (by decide) ⟨by decide, by decide⟩ dX12_orthogonal_51 (fun m6 e7 => ?_)
        refine z_if_ne (pc := 54) hO (tgt := 59) dX12_orthogonal_54 (by decide) (by decide) (fun h => absurd h (by decide)) (fun _ => ?_)
        refine z_iconst (pc := 57) hO dX12_orthogonal_57 ?_
        exact z_iret (pc := 58) hO hr hQ rfl dX12_orthogonal_58 (by first | (refine ⟨rfl, ?_⟩; first | (rw [exn_1 (by omega)]; assumption) | (rw [exn_2 (by first | trivial | omega) (by omega)]; assumption) | (rw [exn_3 (by first | trivial | omega) (by first | trivial | omega)]; assumption); done) | (exfalso; omega))
    · skip
      refine z_if_eq (pc := 13) hO (tgt := 20) dX12_orthogonal_13 (by decide) (by decide) (fun _ => ?_) (fun h => absurd h (by decide))
      refine z_iconst (pc := 20) hO dX12_orthogonal_20 ?_
      refine z_istore_n (pc := 21) hO (lv' := [(3, .int (zi 0)), (0, .ref (gA g 50)), (1, .int (zi q)), (2, .int (zi r))]) dX12_orthogonal_21 rfl (by decide) rfl ?_
      refine z_aload_n (pc := 22) hO 1 dX12_orthogonal_22 rfl rfl ?_
      refine z_iload_n (pc := 23) hO 0 dX12_orthogonal_23 rfl rfl ?_
      refine z_if_ne (pc := 24) hO (tgt := 31) dX12_orthogonal_24 (by decide) (by decide) (fun h => absurd h (by decide)) (fun _ => ?_)
      refine z_iconst (pc := 27) hO dX12_orthogonal_27 ?_
      refine z_goto (pc := 28) hO (tgt := 51) dX12_orthogonal_28 (by decide) ?_
      refine z_callVIm (pc := 51) hO (As := [.int (zi 1)]) (st := []) (c_X12_isFine1 (qL Γ) g x 1 (by first | assumption | omega)) k_X12_63 isO_50 rfl (Nat.le_of_ble_eq_true rfl) (by decide) (by decide) ⟨by decide, by decide⟩ dX12_orthogonal_51 (fun m8 e9 => ?_)
      refine z_if_ne (pc := 54) hO (tgt := 59) dX12_orthogonal_54 (by decide) (by decide) (fun h => absurd h (by decide)) (fun _ => ?_)
      refine z_iconst (pc := 57) hO dX12_orthogonal_57 ?_
      exact z_iret (pc := 58) hO hr hQ rfl dX12_orthogonal_58 (by first | (refine ⟨rfl, ?_⟩; first | (rw [exn_1 (by omega)]; assumption) | (rw [exn_2 (by first | trivial | omega) (by omega)]; assumption) | (rw [exn_3 (by first | trivial | omega) (by first | trivial | omega)]; assumption); done) | (exfalso; omega))
  · skip
    refine z_if_eq (pc := 5) hO (tgt := 20) dX12_orthogonal_5 (by decide) (by decide) (fun _ => ?_) (fun h => absurd h (by decide))
    refine z_iconst (pc := 20) hO dX12_orthogonal_20 ?_
    refine z_istore_n (pc := 21) hO (lv' := [(3, .int (zi 0)), (0, .ref (gA g 50)), (1, .int (zi q)), (2, .int (zi r))]) dX12_orthogonal_21 rfl (by decide) rfl ?_
    refine z_aload_n (pc := 22) hO 1 dX12_orthogonal_22 rfl rfl ?_
    refine z_iload_n (pc := 23) hO 0 dX12_orthogonal_23 rfl rfl ?_
    refine z_if_ne (pc := 24) hO (tgt := 31) dX12_orthogonal_24 (by decide) (by decide) (fun h => absurd h (by decide)) (fun _ => ?_)
    refine z_iconst (pc := 27) hO dX12_orthogonal_27 ?_
    refine z_goto (pc := 28) hO (tgt := 51) dX12_orthogonal_28 (by decide) ?_
    refine z_callVIm (pc := 51) hO (As := [.int (zi 1)]) (st := []) (c_X12_isFine1 (qL Γ) g x 1 (by first | assumption | omega)) k_X12_63 isO_50 rfl (Nat.le_of_ble_eq_true rfl) (by decide) (by decide) ⟨by decide, by decide⟩ dX12_orthogonal_51 (fun m10 e11 => ?_)
    refine z_if_ne (pc := 54) hO (tgt := 59) dX12_orthogonal_54 (by decide) (by decide) (fun h => absurd h (by decide)) (fun _ => ?_)
    refine z_iconst (pc := 57) hO dX12_orthogonal_57 ?_
    exact z_iret (pc := 58) hO hr hQ rfl dX12_orthogonal_58 (by first | (refine ⟨rfl, ?_⟩; first | (rw [exn_1 (by omega)]; assumption) | (rw [exn_2 (by first | trivial | omega) (by omega)]; assumption) | (rw [exn_3 (by first | trivial | omega) (by first | trivial | omega)]; assumption); done) | (exfalso; omega))

set_option maxHeartbeats 4000000 in
theorem c_X12_orthogonal (l : Launch) (g : Gl) (x : Me) (q : Int) (r : Int)  (hM : MS x) (r_q : -2147483648 ≤ q ∧ q < 2147483648) (r_r : -2147483648 ≤ r ∧ r < 2147483648) (hok : ((0 ≤ q ∧ q < x 50 1) ∧ 0 ≤ r ∧ r < x 50 1) ∧ (x 51 q = x 51 r)) : ctQ l g yX12_orthogonal cX12_orthogonal 7 (some .boolean) 3 63 [.ref (gA g 50), .int (zi q), .int (zi r)] x (QIu g (fun z x' => ((z = 1 ∧ (ort (x 51 q) (nd x q) (nd x r))) ∨ (z = 0 ∧ ¬ (ort (x 51 q) (nd x q) (nd x r)))) ∧ x' = up x 50 0 0)) := by
  refine ct_start (own := RX12) (lv := [(0, .ref (gA g 50)), (1, .int (zi q)), (2, .int (zi r))]) (plainFor_of_name (by decide)) rfl (Nat.le_of_ble_eq_true rfl) rfl ?_
  intro Γ hΓ hO hr hQ _
  have hM1 := hM.1
  refine z_aload_n (pc := 0) hO 0 dX12_orthogonal_0 rfl rfl ?_
  refine z_iload_n (pc := 1) hO 1 dX12_orthogonal_1 rfl rfl ?_
  refine z_callVB (pc := 2) hO (As := [.int (zi q)]) (st := []) (c_X12_isSquare (qL Γ) g x q (by first | assumption | omega) (by first | assumption | omega)) k_X12_59 isO_50 rfl (Nat.le_of_ble_eq_true rfl) (by decide) (by decide) ⟨by decide, by decide⟩ dX12_orthogonal_2 (fun pb1 => ?_) (fun pb1 => ?_)
  · skip
    refine z_if_eq (pc := 5) hO (tgt := 20) dX12_orthogonal_5 (by decide) (by decide) (fun h => absurd h (by decide)) (fun _ => ?_)
    refine z_aload_n (pc := 8) hO 0 dX12_orthogonal_8 rfl rfl ?_
    refine z_iload_n (pc := 9) hO 2 dX12_orthogonal_9 rfl rfl ?_
    refine z_callVB (pc := 10) hO (As := [.int (zi r)]) (st := []) (c_X12_isSquare (qL Γ) g x r (by first | assumption | omega) (by first | assumption | omega)) k_X12_59 isO_50 rfl (Nat.le_of_ble_eq_true rfl) (by decide) (by decide) ⟨by decide, by decide⟩ dX12_orthogonal_10 (fun pb2 => ?_) (fun pb2 => ?_)
    · skip
      refine z_if_eq (pc := 13) hO (tgt := 20) dX12_orthogonal_13 (by decide) (by decide) (fun h => absurd h (by decide)) (fun _ => ?_)
      refine z_iconst (pc := 16) hO dX12_orthogonal_16 ?_
      refine z_goto (pc := 17) hO (tgt := 21) dX12_orthogonal_17 (by decide) ?_
      refine z_istore_n (pc := 21) hO (lv' := [(3, .int (zi 1)), (0, .ref (gA g 50)), (1, .int (zi q)), (2, .int (zi r))]) dX12_orthogonal_21 rfl (by decide) rfl ?_
      refine z_aload_n (pc := 22) hO 1 dX12_orthogonal_22 rfl rfl ?_
      refine z_iload_n (pc := 23) hO 0 dX12_orthogonal_23 rfl rfl ?_
      refine z_if_ne (pc := 24) hO (tgt := 31) dX12_orthogonal_24 (by decide) (by decide) (fun _ => ?_) (fun h => absurd h (by decide))
      have hs1 := (hM.2 q (by omega) (by omega)).2.1
      have hq1 := (hM.2 q (by omega) (by omega)).1
      have hs2 := (hM.2 r (by omega) (by omega)).2.1
      have hq2 := (hM.2 r (by omega) (by omega)).1
      refine z_aload_n (pc := 31) hO 1 dX12_orthogonal_31 rfl rfl ?_
      refine gf_X12_sideOf (pc := 32) hO f_X12_7 dX12_orthogonal_32 ?_
      refine z_iload_n (pc := 35) hO 2 dX12_orthogonal_35 rfl rfl ?_
      refine z_iald (pc := 36) hO isI_51 (by omega) dX12_orthogonal_36 ?_
      refine z_aload_n (pc := 37) hO 1 dX12_orthogonal_37 rfl rfl ?_
      refine gf_X12_sideOf (pc := 38) hO f_X12_7 dX12_orthogonal_38 ?_
      refine z_iload_n (pc := 41) hO 3 dX12_orthogonal_41 rfl rfl ?_
      refine z_iald (pc := 42) hO isI_51 (by omega) dX12_orthogonal_42 ?_
      refine z_icmp_eq (pc := 43) hO (tgt := 50) dX12_orthogonal_43 (by decide) (by omega) (by omega) (fun b3 => ?_) (fun b3 => ?_)
      · refine z_iconst (pc := 50) hO dX12_orthogonal_50 ?_
        refine z_callVIm (pc := 51) hO (As := [.int (zi 0)]) (st := []) (c_X12_isFine0 (qL Γ) g x 0 (by first | assumption | omega)) k_X12_63 isO_50 rfl (Nat.le_of_ble_eq_true rfl) (by decide) (by decide) ⟨by decide, by decide⟩ dX12_orthogonal_51 (fun m4 e5 => ?_)
        refine z_if_ne (pc := 54) hO (tgt := 59) dX12_orthogonal_54 (by decide) (by decide) (fun _ => ?_) (fun h => absurd h (by decide))
        have hG := hM.2 q (by omega) (by omega)
        have hs := hG.2.1
        have hth : m4 = up x 50 0 0 := by assumption
        have e51 : m4 51 q = x 51 q := by rw [hth, up_i _ _ _ (by omega)]
        have end_ : nd m4 q = nd x q := by funext p; rw [hth]; exact nd_th
        have hGr := hM.2 r (by omega) (by omega)
        have hrs := hGr.2.1
        have e51r : m4 51 r = x 51 r := by rw [hth, up_i _ _ _ (by omega)]
        have endr : nd m4 r = nd x r := by funext p; rw [hth]; exact nd_th
        have hsr : 1 ≤ x 51 r ∧ x 51 r ≤ 9 := hrs
        have hsq := sq9 hs
        have hsqr := sq9 hrs
        have hN := nd_rng hG
        have hNr := nd_rng hGr
        have e52 : m4 52 = x 52 := by rw [hth, up_i _ _ _ (by omega)]
        refine z_iconst (pc := 59) hO dX12_orthogonal_59 ?_
        refine z_istore (pc := 60) hO (lv' := [(4, .int (zi 1)), (3, .int (zi 1)), (0, .ref (gA g 50)), (1, .int (zi q)), (2, .int (zi r))]) dX12_orthogonal_60 (by decide) rfl ?_
        refine z_iconst (pc := 62) hO dX12_orthogonal_62 ?_
        refine z_istore (pc := 63) hO (lv' := [(5, .int (zi 0)), (4, .int (zi 1)), (3, .int (zi 1)), (0, .ref (gA g 50)), (1, .int (zi q)), (2, .int (zi r))]) dX12_orthogonal_63 (by decide) rfl ?_
        have L65 : ∀ (N : Nat) (b : Int) (i : Int), ((x 51 q * x 51 q) - i).toNat < N → (0 ≤ i ∧ i ≤ (x 51 q * x 51 q)) → ((b = 1 ∧ ∀ p, 0 ≤ p → p < i → ∀ k, 0 ≤ k → k < p → ¬ (nd x q p = nd x q k ∧ nd x r p = nd x r k)) ∨ (b = 0 ∧ ¬ ort (x 51 q) (nd x q) (nd x r))) → Zz Γ g 7 0 0 m4 65 [(0, .ref (gA g 50)), (1, .int (zi q)), (2, .int (zi r)), (3, .int (zi 1)), (4, .int (zi b)), (5, .int (zi i))] [] := by
          intro N
          induction N with
          | zero => intro b i hm; exact absurd hm (Nat.not_lt_zero _)
          | succ N ih65 =>
            intro b i hm h0 hA
            refine z_iload (pc := 65) hO 5 dX12_orthogonal_65 rfl ?_
            refine z_aload_n (pc := 67) hO 0 dX12_orthogonal_67 rfl rfl ?_
            refine z_iload_n (pc := 68) hO 1 dX12_orthogonal_68 rfl rfl ?_
            refine z_callVIp (pc := 69) hO (As := [.int (zi q)]) (st := [.int (zi i)]) (c_X12_areaOf (qL Γ) g m4 q (by rw [hth]; exact MG_th hG)) k_X12_100 isO_50 rfl (Nat.le_of_ble_eq_true rfl) (by decide) (by decide) ⟨by decide, by decide⟩ dX12_orthogonal_69 ?_
            rw [e51]
            refine z_icmp_ge (pc := 72) hO (tgt := 163) dX12_orthogonal_72 (by decide) (by omega) (by omega) (fun b6 => ?_) (fun b6 => ?_)
            · refine z_iload (pc := 163) hO 4 dX12_orthogonal_163 rfl ?_
              exact z_iret (pc := 165) hO hr hQ (zi_bool (by omega)).1 dX12_orthogonal_165 (by first | (rcases hA with ⟨e, h⟩ | ⟨e, h⟩; exact ⟨Or.inl ⟨e, fun p a c => h p a (by omega)⟩, hth⟩; exact ⟨Or.inr ⟨e, h⟩, hth⟩; done) | (exfalso; omega))
            · refine z_iconst (pc := 75) hO dX12_orthogonal_75 ?_
              refine z_istore (pc := 76) hO (lv' := [(6, .int (zi 0)), (0, .ref (gA g 50)), (1, .int (zi q)), (2, .int (zi r)), (3, .int (zi 1)), (4, .int (zi b)), (5, .int (zi i))]) dX12_orthogonal_76 (by decide) rfl ?_
              have L78 : ∀ (N : Nat) (b2 : Int) (k : Int), (i - k).toNat < N → (0 ≤ k ∧ k ≤ i) → ((b2 = 1 ∧ (∀ p, 0 ≤ p → p < i → ∀ k, 0 ≤ k → k < p → ¬ (nd x q p = nd x q k ∧ nd x r p = nd x r k)) ∧ ∀ j, 0 ≤ j → j < k → ¬ (nd x q i = nd x q j ∧ nd x r i = nd x r j)) ∨ (b2 = 0 ∧ ¬ ort (x 51 q) (nd x q) (nd x r))) → Zz Γ g 7 0 0 m4 78 [(0, .ref (gA g 50)), (1, .int (zi q)), (2, .int (zi r)), (3, .int (zi 1)), (4, .int (zi b2)), (5, .int (zi i)), (6, .int (zi k))] [] := by
                intro N
                induction N with
                | zero => intro b2 k hm; exact absurd hm (Nat.not_lt_zero _)
                | succ N ih78 =>
                  intro b2 k hm h1 hB
                  have hbb : b2 = 0 ∨ b2 = 1 := by rcases hB with ⟨e, _⟩ | ⟨e, _⟩ <;> omega
                  refine z_iload (pc := 78) hO 6 dX12_orthogonal_78 rfl ?_
                  refine z_iload (pc := 80) hO 5 dX12_orthogonal_80 rfl ?_
                  refine z_icmp_ge (pc := 82) hO (tgt := 157) dX12_orthogonal_82 (by decide) (by omega) (by omega) (fun b7 => ?_) (fun b7 => ?_)
                  · refine z_iinc (pc := 157) hO 5 (lv' := [(5, .int (zi (i + 1))), (0, .ref (gA g 50)), (1, .int (zi q)), (2, .int (zi r)), (3, .int (zi 1)), (4, .int (zi b2)), (6, .int (zi k))]) dX12_orthogonal_157 rfl (by decide) rfl ?_
                    refine z_goto (pc := 160) hO (tgt := 65) dX12_orthogonal_160 (by decide) ?_
                    refine z_sub [1, 2, 3, 4, 5, 0] rfl ?_
                    exact ih65 b2 (i + 1) (by omega) (by omega) (by rcases hB with ⟨e, h1, h2⟩ | ⟨e, h⟩; exact Or.inl ⟨e, fun p a c => dite (p = i) (fun e => by rw [e]; exact fun k a c => h2 k a (by omega)) (fun e => h1 p a (by omega))⟩; exact Or.inr ⟨e, h⟩)
                  · have g1 : nd x q i = m4 52 (81 * q + i) := by rw [e52]; exact nd_in (by omega)
                    have g2 : nd x q k = m4 52 (81 * q + k) := by rw [e52]; exact nd_in (by omega)
                    have g3 : nd x r i = m4 52 (81 * r + i) := by rw [e52]; exact nd_in (by omega)
                    have g4 : nd x r k = m4 52 (81 * r + k) := by rw [e52]; exact nd_in (by omega)
                    have n1 := hN i
                    have n2 := hN k
                    have n3 := hNr i
                    have n4 := hNr k
                    refine z_iload (pc := 85) hO 4 dX12_orthogonal_85 rfl ?_
                    refine z_if_eq (pc := 87) hO (tgt := 148) dX12_orthogonal_87 (by decide) (by omega) (fun b8 => ?_) (fun b8 => ?_)
                    · refine z_iconst (pc := 148) hO dX12_orthogonal_148 ?_
                      refine z_istore (pc := 149) hO (lv' := [(4, .int (zi 0)), (0, .ref (gA g 50)), (1, .int (zi q)), (2, .int (zi r)), (3, .int (zi 1)), (5, .int (zi i)), (6, .int (zi k))]) dX12_orthogonal_149 (by decide) rfl ?_
                      refine z_iinc (pc := 151) hO 6 (lv' := [(6, .int (zi (k + 1))), (4, .int (zi 0)), (0, .ref (gA g 50)), (1, .int (zi q)), (2, .int (zi r)), (3, .int (zi 1)), (5, .int (zi i))]) dX12_orthogonal_151 rfl (by decide) rfl ?_
                      refine z_goto (pc := 154) hO (tgt := 78) dX12_orthogonal_154 (by decide) ?_
                      refine z_sub [2, 3, 4, 5, 1, 6, 0] rfl ?_
                      exact ih78 0 (k + 1) (by omega) (by omega) (by rcases hB with ⟨e, h1, h2⟩ | ⟨e, h⟩; (first | exact Or.inl ⟨rfl, h1, fun j a c => dite (j = k) (fun e => by rw [e]; omega) (fun e => h2 j a (by omega))⟩ | exact Or.inr ⟨rfl, fun h => h i (by omega) (by omega) k (by omega) (by omega) (by omega)⟩); first | exact Or.inr ⟨rfl, h⟩ | (exfalso; omega))
                    · refine z_aload_n (pc := 90) hO 0 dX12_orthogonal_90 rfl rfl ?_
                      refine gf_X12_numbers (pc := 91) hO f_X12_13 dX12_orthogonal_91 ?_
                      refine z_bipush (pc := 94) hO dX12_orthogonal_94 (by decide) ?_
                      refine z_iload_n (pc := 96) hO 1 dX12_orthogonal_96 rfl rfl ?_
                      refine z_imul (pc := 97) hO dX12_orthogonal_97 ?_
                      refine z_iload (pc := 98) hO 5 dX12_orthogonal_98 rfl ?_
                      refine z_iadd (pc := 100) hO dX12_orthogonal_100 ?_
                      refine z_iald (pc := 101) hO isI_52 (by omega) dX12_orthogonal_101 ?_
                      refine z_aload_n (pc := 102) hO 0 dX12_orthogonal_102 rfl rfl ?_
                      refine gf_X12_numbers (pc := 103) hO f_X12_13 dX12_orthogonal_103 ?_
                      refine z_bipush (pc := 106) hO dX12_orthogonal_106 (by decide) ?_
                      refine z_iload_n (pc := 108) hO 1 dX12_orthogonal_108 rfl rfl ?_
                      refine z_imul (pc := 109) hO dX12_orthogonal_109 ?_
                      refine z_iload (pc := 110) hO 6 dX12_orthogonal_110 rfl ?_
                      refine z_iadd (pc := 112) hO dX12_orthogonal_112 ?_
                      refine z_iald (pc := 113) hO isI_52 (by omega) dX12_orthogonal_113 ?_
                      refine z_icmp_ne (pc := 114) hO (tgt := 144) dX12_orthogonal_114 (by decide) (by omega) (by omega) (fun b9 => ?_) (fun b9 => ?_)
                      · refine z_iconst (pc := 144) hO dX12_orthogonal_144 ?_
                        refine z_goto (pc := 145) hO (tgt := 149) dX12_orthogonal_145 (by decide) ?_
                        refine z_istore (pc := 149) hO (lv' := [(4, .int (zi 1)), (0, .ref (gA g 50)), (1, .int (zi q)), (2, .int (zi r)), (3, .int (zi 1)), (5, .int (zi i)), (6, .int (zi k))]) dX12_orthogonal_149 (by decide) rfl ?_
                        refine z_iinc (pc := 151) hO 6 (lv' := [(6, .int (zi (k + 1))), (4, .int (zi 1)), (0, .ref (gA g 50)), (1, .int (zi q)), (2, .int (zi r)), (3, .int (zi 1)), (5, .int (zi i))]) dX12_orthogonal_151 rfl (by decide) rfl ?_
                        refine z_goto (pc := 154) hO (tgt := 78) dX12_orthogonal_154 (by decide) ?_
                        refine z_sub [2, 3, 4, 5, 1, 6, 0] rfl ?_
                        exact ih78 1 (k + 1) (by omega) (by omega) (by rcases hB with ⟨e, h1, h2⟩ | ⟨e, h⟩; (first | exact Or.inl ⟨rfl, h1, fun j a c => dite (j = k) (fun e => by rw [e]; omega) (fun e => h2 j a (by omega))⟩ | exact Or.inr ⟨rfl, fun h => h i (by omega) (by omega) k (by omega) (by omega) (by omega)⟩); first | exact Or.inr ⟨rfl, h⟩ | (exfalso; omega))
                      · refine z_aload_n (pc := 117) hO 0 dX12_orthogonal_117 rfl rfl ?_
                        refine gf_X12_numbers (pc := 118) hO f_X12_13 dX12_orthogonal_118 ?_
                        refine z_bipush (pc := 121) hO dX12_orthogonal_121 (by decide) ?_
                        refine z_iload_n (pc := 123) hO 2 dX12_orthogonal_123 rfl rfl ?_
                        refine z_imul (pc := 124) hO dX12_orthogonal_124 ?_
                        refine z_iload (pc := 125) hO 5 dX12_orthogonal_125 rfl ?_
                        refine z_iadd (pc := 127) hO dX12_orthogonal_127 ?_
                        refine z_iald (pc := 128) hO isI_52 (by omega) dX12_orthogonal_128 ?_
                        refine z_aload_n (pc := 129) hO 0 dX12_orthogonal_129 rfl rfl ?_
                        refine gf_X12_numbers (pc := 130) hO f_X12_13 dX12_orthogonal_130 ?_
                        refine z_bipush (pc := 133) hO dX12_orthogonal_133 (by decide) ?_
                        refine z_iload_n (pc := 135) hO 2 dX12_orthogonal_135 rfl rfl ?_
                        refine z_imul (pc := 136) hO dX12_orthogonal_136 ?_
                        refine z_iload (pc := 137) hO 6 dX12_orthogonal_137 rfl ?_
                        refine z_iadd (pc := 139) hO dX12_orthogonal_139 ?_
                        refine z_iald (pc := 140) hO isI_52 (by omega) dX12_orthogonal_140 ?_
                        refine z_icmp_eq (pc := 141) hO (tgt := 148) dX12_orthogonal_141 (by decide) (by omega) (by omega) (fun b10 => ?_) (fun b10 => ?_)
                        · refine z_iconst (pc := 148) hO dX12_orthogonal_148 ?_
                          refine z_istore (pc := 149) hO (lv' := [(4, .int (zi 0)), (0, .ref (gA g 50)), (1, .int (zi q)), (2, .int (zi r)), (3, .int (zi 1)), (5, .int (zi i)), (6, .int (zi k))]) dX12_orthogonal_149 (by decide) rfl ?_
                          refine z_iinc (pc := 151) hO 6 (lv' := [(6, .int (zi (k + 1))), (4, .int (zi 0)), (0, .ref (gA g 50)), (1, .int (zi q)), (2, .int (zi r)), (3, .int (zi 1)), (5, .int (zi i))]) dX12_orthogonal_151 rfl (by decide) rfl ?_
                          refine z_goto (pc := 154) hO (tgt := 78) dX12_orthogonal_154 (by decide) ?_
                          refine z_sub [2, 3, 4, 5, 1, 6, 0] rfl ?_
                          exact ih78 0 (k + 1) (by omega) (by omega) (by rcases hB with ⟨e, h1, h2⟩ | ⟨e, h⟩; (first | exact Or.inl ⟨rfl, h1, fun j a c => dite (j = k) (fun e => by rw [e]; omega) (fun e => h2 j a (by omega))⟩ | exact Or.inr ⟨rfl, fun h => h i (by omega) (by omega) k (by omega) (by omega) (by omega)⟩); first | exact Or.inr ⟨rfl, h⟩ | (exfalso; omega))
                        · refine z_iconst (pc := 144) hO dX12_orthogonal_144 ?_
                          refine z_goto (pc := 145) hO (tgt := 149) dX12_orthogonal_145 (by decide) ?_
                          refine z_istore (pc := 149) hO (lv' := [(4, .int (zi 1)), (0, .ref (gA g 50)), (1, .int (zi q)), (2, .int (zi r)), (3, .int (zi 1)), (5, .int (zi i)), (6, .int (zi k))]) dX12_orthogonal_149 (by decide) rfl ?_
                          refine z_iinc (pc := 151) hO 6 (lv' := [(6, .int (zi (k + 1))), (4, .int (zi 1)), (0, .ref (gA g 50)), (1, .int (zi q)), (2, .int (zi r)), (3, .int (zi 1)), (5, .int (zi i))]) dX12_orthogonal_151 rfl (by decide) rfl ?_
                          refine z_goto (pc := 154) hO (tgt := 78) dX12_orthogonal_154 (by decide) ?_
                          refine z_sub [2, 3, 4, 5, 1, 6, 0] rfl ?_
                          exact ih78 1 (k + 1) (by omega) (by omega) (by rcases hB with ⟨e, h1, h2⟩ | ⟨e, h⟩; (first | exact Or.inl ⟨rfl, h1, fun j a c => dite (j = k) (fun e => by rw [e]; omega) (fun e => h2 j a (by omega))⟩ | exact Or.inr ⟨rfl, fun h => h i (by omega) (by omega) k (by omega) (by omega) (by omega)⟩); first | exact Or.inr ⟨rfl, h⟩ | (exfalso; omega))
              refine z_sub [1, 2, 3, 4, 5, 6, 0] rfl ?_
              exact L78 _ b 0 (Nat.lt_succ_self _) (by omega) (by rcases hA with ⟨e, h⟩ | ⟨e, h⟩; exact Or.inl ⟨e, h, fun j a c => by omega⟩; exact Or.inr ⟨e, h⟩)
        refine z_sub [3, 4, 5, 2, 1, 0] rfl ?_
        exact L65 _ 1 0 (Nat.lt_succ_self _) (by omega) (by exact Or.inl ⟨rfl, fun l a c => by omega⟩)
      · refine z_iconst (pc := 46) hO dX12_orthogonal_46 ?_
        refine z_goto (pc := 47) hO (tgt := 51) dX12_orthogonal_47 (by decide) ?_
        refine z_callVIm (pc := 51) hO (As := [.int (zi 2)]) (st := []) (c_X12_isFine1 (qL Γ) g x 2 (by first | assumption | omega)) k_X12_63 isO_50 rfl (Nat.le_of_ble_eq_true rfl) (by decide) (by decide) ⟨by decide, by decide⟩ dX12_orthogonal_51 (fun m11 e12 => ?_)
        refine z_if_ne (pc := 54) hO (tgt := 59) dX12_orthogonal_54 (by decide) (by decide) (fun h => absurd h (by decide)) (fun _ => ?_)
        refine z_iconst (pc := 57) hO dX12_orthogonal_57 ?_
        exact z_iret (pc := 58) hO hr hQ rfl dX12_orthogonal_58 (by first | (rcases hA with ⟨e, h⟩ | ⟨e, h⟩; exact ⟨Or.inl ⟨e, fun p a c => h p a (by omega)⟩, hth⟩; exact ⟨Or.inr ⟨e, h⟩, hth⟩; done) | (exfalso; omega))
    · skip
      exfalso; omega
  · skip
    exfalso; omega

