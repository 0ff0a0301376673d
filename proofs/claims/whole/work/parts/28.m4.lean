set_option maxHeartbeats 4000000 in
theorem c_X9_mendingAt (l : Launch) (g : Gl) (x : Me) (q : Nat) (p : Int)  (hF : FG x q) (h2 : 2 ≤ x (10 + q) 1) (hp : 0 ≤ p ∧ p < x (10 + q) 1 * x (10 + q) 1) : ctQ l g yX9_mendingAt cX9_mendingAt 7 (some .int) 5 111 [.ref (gA g (10 + q)), .int (zi p)] x (QIu g (fun z x' => z = (men (x (10 + q) 1) (nc x q) p) ∧ x' = x)) := by
  refine ct_start (own := RX9) (lv := [(0, .ref (gA g (10 + q))), (1, .int (zi p))]) (plainFor_of_name (by decide)) rfl (Nat.le_of_ble_eq_true rfl) rfl ?_
  intro Γ hΓ hO hr hQ _
  obtain ⟨hq, hs, hf⟩ := id hF
  have h9 := sq9 hs
  have hN := FG.r hF
  have hrc := rc9 hs hp
  have hR := hN p
  have hA := lsum_rng hs hN 0 0
  have hB := lsum_rng hs hN 0 1
  have hC := lsum_rng hs hN 0 (p / x (10 + q) 1)
  refine z_aload_n (pc := 0) hO 0 dX9_mendingAt_0 rfl rfl ?_
  refine z_callVIp (pc := 1) hO (As := []) (st := []) (c_X1_side (qL Γ) g x q (by first | assumption | omega)) k_X9_9 (isO_fig (by omega : q < 9)) rfl (Nat.le_of_ble_eq_true rfl) (by decide) (by decide) ⟨by decide, by decide⟩ dX9_mendingAt_1 ?_
  refine z_iload_n (pc := 4) hO 1 dX9_mendingAt_4 rfl rfl ?_
  refine z_callSIp (pc := 5) hO (As := [.int (zi (x (10 + q) 1)), .int (zi p)]) (st := []) (c_X7_rowOf (qL Γ) g x (x (10 + q) 1) p (by first | assumption | omega) (by first | assumption | omega)) k_X9_32 rfl (Nat.le_of_ble_eq_true rfl) (by decide) (by decide) ⟨by decide, by decide⟩ dX9_mendingAt_5 ?_
  refine z_istore_n (pc := 8) hO (lv' := [(2, .int (zi (p / (x (10 + q) 1)))), (0, .ref (gA g (10 + q))), (1, .int (zi p))]) dX9_mendingAt_8 rfl (by decide) rfl ?_
  refine z_iload_n (pc := 9) hO 0 dX9_mendingAt_9 rfl rfl ?_
  refine z_if_ne (pc := 10) hO (tgt := 17) dX9_mendingAt_10 (by decide) (by omega) (fun b1 => ?_) (fun b1 => ?_)
  · refine z_iconst (pc := 17) hO dX9_mendingAt_17 ?_
    refine z_istore_n (pc := 18) hO (lv' := [(3, .int (zi 0)), (2, .int (zi (p / (x (10 + q) 1)))), (0, .ref (gA g (10 + q))), (1, .int (zi p))]) dX9_mendingAt_18 rfl (by decide) rfl ?_
    refine z_aload_n (pc := 19) hO 2 dX9_mendingAt_19 rfl rfl ?_
    refine z_iload_n (pc := 20) hO 3 dX9_mendingAt_20 rfl rfl ?_
    refine z_callVIp (pc := 21) hO (As := [.int (zi p)]) (st := []) (c_X1_read (qL Γ) g x q p (by first | assumption | omega) (by first | assumption | omega)) k_X9_15 (isO_fig (by omega : q < 9)) rfl (Nat.le_of_ble_eq_true rfl) (by decide) (by decide) ⟨by decide, by decide⟩ dX9_mendingAt_21 ?_
    refine z_istore (pc := 24) hO (lv' := [(4, .int (zi (nc x q p))), (3, .int (zi 0)), (2, .int (zi (p / (x (10 + q) 1)))), (0, .ref (gA g (10 + q))), (1, .int (zi p))]) dX9_mendingAt_24 (by decide) rfl ?_
    refine z_iload (pc := 26) hO 0 dX9_mendingAt_26 rfl ?_
    refine z_aload_n (pc := 28) hO 3 dX9_mendingAt_28 rfl rfl ?_
    refine z_iconst (pc := 29) hO dX9_mendingAt_29 ?_
    refine z_iload_n (pc := 30) hO 1 dX9_mendingAt_30 rfl rfl ?_
    refine z_callVIp (pc := 31) hO (As := [.int (zi 0), .int (zi 0)]) (st := [.int (zi (nc x q p))]) (c_X1_lineSum (qL Γ) g x q 0 0 (by first | assumption | omega) (by first | assumption | omega) (by first | assumption | omega) (by first | assumption | omega)) k_X9_37 (isO_fig (by omega : q < 9)) rfl (Nat.le_of_ble_eq_true rfl) (by decide) (by decide) ⟨by decide, by decide⟩ dX9_mendingAt_31 ?_
    refine z_iadd (pc := 34) hO dX9_mendingAt_34 ?_
    refine z_aload_n (pc := 35) hO 3 dX9_mendingAt_35 rfl rfl ?_
    refine z_iconst (pc := 36) hO dX9_mendingAt_36 ?_
    refine z_iload_n (pc := 37) hO 2 dX9_mendingAt_37 rfl rfl ?_
    refine z_callVIp (pc := 38) hO (As := [.int (zi 0), .int (zi (p / (x (10 + q) 1)))]) (st := [.int (zi ((nc x q p) + (lsum (x (10 + q) 1) (nc x q) 0 0)))]) (c_X1_lineSum (qL Γ) g x q 0 (p / (x (10 + q) 1)) (by first | assumption | omega) (by first | assumption | omega) (by first | assumption | omega) (by first | assumption | omega)) k_X9_37 (isO_fig (by omega : q < 9)) rfl (Nat.le_of_ble_eq_true rfl) (by decide) (by decide) ⟨by decide, by decide⟩ dX9_mendingAt_38 ?_
    refine z_isub (pc := 41) hO dX9_mendingAt_41 ?_
    refine z_istore (pc := 42) hO (lv' := [(5, .int (zi (((nc x q p) + (lsum (x (10 + q) 1) (nc x q) 0 0)) - (lsum (x (10 + q) 1) (nc x q) 0 (p / (x (10 + q) 1)))))), (4, .int (zi (nc x q p))), (3, .int (zi 0)), (2, .int (zi (p / (x (10 + q) 1)))), (0, .ref (gA g (10 + q))), (1, .int (zi p))]) dX9_mendingAt_42 (by decide) rfl ?_
    refine z_iload (pc := 44) hO 0 dX9_mendingAt_44 rfl ?_
    refine z_iload (pc := 46) hO 1 dX9_mendingAt_46 rfl ?_
    refine z_icmp_eq (pc := 48) hO (tgt := 65) dX9_mendingAt_48 (by decide) (by omega) (by omega) (fun b2 => ?_) (fun b2 => ?_)
    · refine z_iconst (pc := 65) hO dX9_mendingAt_65 ?_
      exact z_iret (pc := 66) hO hr hQ rfl dX9_mendingAt_66 ⟨by first | ((first | rw [men_d (r := 1) (by rw [if_pos (by assumption)])] | rw [men_d (r := 0) (by rw [if_neg (by assumption)])]); rw [ci_t (by omega)]; done) | (exfalso; omega), rfl⟩
    · refine z_iload (pc := 51) hO 0 dX9_mendingAt_51 rfl ?_
      refine z_iconst (pc := 53) hO dX9_mendingAt_53 ?_
      refine z_icmp_lt (pc := 54) hO (tgt := 65) dX9_mendingAt_54 (by decide) (by omega) (by omega) (fun b3 => ?_) (fun b3 => ?_)
      · refine z_iconst (pc := 65) hO dX9_mendingAt_65 ?_
        exact z_iret (pc := 66) hO hr hQ rfl dX9_mendingAt_66 ⟨by first | ((first | rw [men_d (r := 1) (by rw [if_pos (by assumption)])] | rw [men_d (r := 0) (by rw [if_neg (by assumption)])]); rw [ci_t (by omega)]; done) | (exfalso; omega), rfl⟩
      · refine z_iload (pc := 57) hO 0 dX9_mendingAt_57 rfl ?_
        refine z_sipush (pc := 59) hO dX9_mendingAt_59 (by decide) ?_
        refine z_icmp_le (pc := 62) hO (tgt := 67) dX9_mendingAt_62 (by decide) (by omega) (by omega) (fun b4 => ?_) (fun b4 => ?_)
        · refine z_aload_n (pc := 67) hO 4 dX9_mendingAt_67 rfl rfl ?_
          refine z_iload_n (pc := 68) hO 5 dX9_mendingAt_68 rfl rfl ?_
          refine z_iload (pc := 69) hO 0 dX9_mendingAt_69 rfl ?_
          refine z_callVIm (pc := 71) hO (As := [.int (zi p), .int (zi (((nc x q p) + (lsum (x (10 + q) 1) (nc x q) 0 0)) - (lsum (x (10 + q) 1) (nc x q) 0 (p / (x (10 + q) 1)))))]) (st := []) (c_X1_write (qL Γ) g x q p (((nc x q p) + (lsum (x (10 + q) 1) (nc x q) 0 0)) - (lsum (x (10 + q) 1) (nc x q) 0 (p / (x (10 + q) 1)))) (by first | assumption | omega) (by first | assumption | omega)) k_X9_40 (isO_fig (by omega : q < 9)) rfl (Nat.le_of_ble_eq_true rfl) (by decide) (by decide) ⟨by decide, by decide⟩ dX9_mendingAt_71 (fun m5 e6 => ?_)
          have hU : m5 (10 + q) 1 = x (10 + q) 1 := by rw [e6, up_i _ _ _ (by omega)]
          have hV := nc_up (x := x) (q := q) (p := p) (v := m5 (20 + q) p) (by omega)
          have hW := FG_up hF q (p := p) (v := m5 (20 + q) p) (by rw [e6, up_s]; omega)
          have hX := congrFun (congrFun e6 (20 + q)) p
          rw [up_s] at hX
          rw [hX, ← e6] at hV hW
          refine z_pop (pc := 74) hO dX9_mendingAt_74 rfl ?_
          refine z_aload_n (pc := 75) hO 4 dX9_mendingAt_75 rfl rfl ?_
          refine z_callSB (pc := 76) hO (As := [.ref (gA g (10 + q))]) (st := []) (c_X4_isMagic (qL Γ) g m5 q (by first | assumption | omega)) k_X9_43 rfl (Nat.le_of_ble_eq_true rfl) (by decide) (by decide) ⟨by decide, by decide⟩ dX9_mendingAt_76 (fun pb7 => ?_) (fun pb7 => ?_)
          · skip
            rw [hU, hV] at pb7
            have hM := pb7
            refine z_istore (pc := 79) hO (lv' := [(6, .int (zi 1)), (5, .int (zi (((nc x q p) + (lsum (x (10 + q) 1) (nc x q) 0 0)) - (lsum (x (10 + q) 1) (nc x q) 0 (p / (x (10 + q) 1)))))), (4, .int (zi (nc x q p))), (3, .int (zi 0)), (2, .int (zi (p / (x (10 + q) 1)))), (0, .ref (gA g (10 + q))), (1, .int (zi p))]) dX9_mendingAt_79 (by decide) rfl ?_
            refine z_aload_n (pc := 81) hO 5 dX9_mendingAt_81 rfl rfl ?_
            refine z_iload_n (pc := 82) hO 6 dX9_mendingAt_82 rfl rfl ?_
            refine z_iload (pc := 83) hO 2 dX9_mendingAt_83 rfl ?_
            refine z_callVIm (pc := 85) hO (As := [.int (zi p), .int (zi (nc x q p))]) (st := []) (c_X1_write (qL Γ) g m5 q p (nc x q p) (by first | assumption | omega) (by first | assumption | omega)) k_X9_40 (isO_fig (by omega : q < 9)) rfl (Nat.le_of_ble_eq_true rfl) (by decide) (by decide) ⟨by decide, by decide⟩ dX9_mendingAt_85 (fun m8 e9 => ?_)
            have hb : m8 = x := by rw [e9]; rw [nc_in (by omega)]; subst_vars; exact up_back _ _ _ _
            rw [hb]
            refine z_pop (pc := 88) hO dX9_mendingAt_88 rfl ?_
            refine z_iload (pc := 89) hO 0 dX9_mendingAt_89 rfl ?_
            refine z_if_eq (pc := 91) hO (tgt := 99) dX9_mendingAt_91 (by decide) (by decide) (fun h => absurd h (by decide)) (fun _ => ?_)
            refine z_iload (pc := 94) hO 1 dX9_mendingAt_94 rfl ?_
            refine z_goto (pc := 96) hO (tgt := 100) dX9_mendingAt_96 (by decide) ?_
            exact z_iret (pc := 100) hO hr hQ rfl dX9_mendingAt_100 ⟨by first | ((first | rw [men_d (r := 1) (by rw [if_pos (by assumption)])] | rw [men_d (r := 0) (by rw [if_neg (by assumption)])]); first | (rw [ci_f (by rintro (h | h | h | h); omega; omega; omega; exact h hM)]; done) | (rw [ci_t (Or.inr (Or.inr (Or.inr hM)))]; done); done) | (exfalso; omega), rfl⟩
          · skip
            rw [hU, hV] at pb7
            have hM := pb7
            refine z_istore (pc := 79) hO (lv' := [(6, .int (zi 0)), (5, .int (zi (((nc x q p) + (lsum (x (10 + q) 1) (nc x q) 0 0)) - (lsum (x (10 + q) 1) (nc x q) 0 (p / (x (10 + q) 1)))))), (4, .int (zi (nc x q p))), (3, .int (zi 0)), (2, .int (zi (p / (x (10 + q) 1)))), (0, .ref (gA g (10 + q))), (1, .int (zi p))]) dX9_mendingAt_79 (by decide) rfl ?_
            refine z_aload_n (pc := 81) hO 5 dX9_mendingAt_81 rfl rfl ?_
            refine z_iload_n (pc := 82) hO 6 dX9_mendingAt_82 rfl rfl ?_
            refine z_iload (pc := 83) hO 2 dX9_mendingAt_83 rfl ?_
            refine z_callVIm (pc := 85) hO (As := [.int (zi p), .int (zi (nc x q p))]) (st := []) (c_X1_write (qL Γ) g m5 q p (nc x q p) (by first | assumption | omega) (by first | assumption | omega)) k_X9_40 (isO_fig (by omega : q < 9)) rfl (Nat.le_of_ble_eq_true rfl) (by decide) (by decide) ⟨by decide, by decide⟩ dX9_mendingAt_85 (fun m10 e11 => ?_)
            have hb : m10 = x := by rw [e11]; rw [nc_in (by omega)]; subst_vars; exact up_back _ _ _ _
            rw [hb]
            refine z_pop (pc := 88) hO dX9_mendingAt_88 rfl ?_
            refine z_iload (pc := 89) hO 0 dX9_mendingAt_89 rfl ?_
            refine z_if_eq (pc := 91) hO (tgt := 99) dX9_mendingAt_91 (by decide) (by decide) (fun _ => ?_) (fun h => absurd h (by decide))
            refine z_iconst (pc := 99) hO dX9_mendingAt_99 ?_
            exact z_iret (pc := 100) hO hr hQ rfl dX9_mendingAt_100 ⟨by first | ((first | rw [men_d (r := 1) (by rw [if_pos (by assumption)])] | rw [men_d (r := 0) (by rw [if_neg (by assumption)])]); first | (rw [ci_f (by rintro (h | h | h | h); omega; omega; omega; exact h hM)]; done) | (rw [ci_t (Or.inr (Or.inr (Or.inr hM)))]; done); done) | (exfalso; omega), rfl⟩
        · refine z_iconst (pc := 65) hO dX9_mendingAt_65 ?_
          exact z_iret (pc := 66) hO hr hQ rfl dX9_mendingAt_66 ⟨by first | ((first | rw [men_d (r := 1) (by rw [if_pos (by assumption)])] | rw [men_d (r := 0) (by rw [if_neg (by assumption)])]); rw [ci_t (by omega)]; done) | (exfalso; omega), rfl⟩
  · refine z_iconst (pc := 13) hO dX9_mendingAt_13 ?_
    refine z_goto (pc := 14) hO (tgt := 18) dX9_mendingAt_14 (by decide) ?_
    refine z_istore_n (pc := 18) hO (lv' := [(3, .int (zi 1)), (2, .int (zi (p / (x (10 + q) 1)))), (0, .ref (gA g (10 + q))), (1, .int (zi p))]) dX9_mendingAt_18 rfl (by decide) rfl ?_
    refine z_aload_n (pc := 19) hO 2 dX9_mendingAt_19 rfl rfl ?_
    refine z_iload_n (pc := 20) hO 3 dX9_mendingAt_20 rfl rfl ?_
    refine z_callVIp (pc := 21) hO (As := [.int (zi p)]) (st := []) (c_X1_read (qL Γ) g x q p (by first | assumption | omega) (by first | assumption | omega)) k_X9_15 (isO_fig (by omega : q < 9)) rfl (Nat.le_of_ble_eq_true rfl) (by decide) (by decide) ⟨by decide, by decide⟩ dX9_mendingAt_21 ?_
    refine z_istore (pc := 24) hO (lv' := [(4, .int (zi (nc x q p))), (3, .int (zi 1)), (2, .int (zi (p / (x (10 + q) 1)))), (0, .ref (gA g (10 + q))), (1, .int (zi p))]) dX9_mendingAt_24 (by decide) rfl ?_
    refine z_iload (pc := 26) hO 0 dX9_mendingAt_26 rfl ?_
    refine z_aload_n (pc := 28) hO 3 dX9_mendingAt_28 rfl rfl ?_
    refine z_iconst (pc := 29) hO dX9_mendingAt_29 ?_
    refine z_iload_n (pc := 30) hO 1 dX9_mendingAt_30 rfl rfl ?_
    refine z_callVIp (pc := 31) hO (As := [.int (zi 0), .int (zi 1)]) (st := [.int (zi (nc x q p))]) (c_X1_lineSum (qL Γ) g x q 0 1 (by first | assumption | omega) (by first | assumption | omega) (by first | assumption | omega) (by first | assumption | omega)) k_X9_37 (isO_fig (by omega : q < 9)) rfl (Nat.le_of_ble_eq_true rfl) (by decide) (by decide) ⟨by decide, by decide⟩ dX9_mendingAt_31 ?_
    refine z_iadd (pc := 34) hO dX9_mendingAt_34 ?_
    refine z_aload_n (pc := 35) hO 3 dX9_mendingAt_35 rfl rfl ?_
    refine z_iconst (pc := 36) hO dX9_mendingAt_36 ?_
    refine z_iload_n (pc := 37) hO 2 dX9_mendingAt_37 rfl rfl ?_
    refine z_callVIp (pc := 38) hO (As := [.int (zi 0), .int (zi (p / (x (10 + q) 1)))]) (st := [.int (zi ((nc x q p) + (lsum (x (10 + q) 1) (nc x q) 0 1)))]) (c_X1_lineSum (qL Γ) g x q 0 (p / (x (10 + q) 1)) (by first | assumption | omega) (by first | assumption | omega) (by first | assumption | omega) (by first | assumption | omega)) k_X9_37 (isO_fig (by omega : q < 9)) rfl (Nat.le_of_ble_eq_true rfl) (by decide) (by decide) ⟨by decide, by decide⟩ dX9_mendingAt_38 ?_
    refine z_isub (pc := 41) hO dX9_mendingAt_41 ?_
    refine z_istore (pc := 42) hO (lv' := [(5, .int (zi (((nc x q p) + (lsum (x (10 + q) 1) (nc x q) 0 1)) - (lsum (x (10 + q) 1) (nc x q) 0 (p / (x (10 + q) 1)))))), (4, .int (zi (nc x q p))), (3, .int (zi 1)), (2, .int (zi (p / (x (10 + q) 1)))), (0, .ref (gA g (10 + q))), (1, .int (zi p))]) dX9_mendingAt_42 (by decide) rfl ?_
    refine z_iload (pc := 44) hO 0 dX9_mendingAt_44 rfl ?_
    refine z_iload (pc := 46) hO 1 dX9_mendingAt_46 rfl ?_
    refine z_icmp_eq (pc := 48) hO (tgt := 65) dX9_mendingAt_48 (by decide) (by omega) (by omega) (fun b12 => ?_) (fun b12 => ?_)
    · refine z_iconst (pc := 65) hO dX9_mendingAt_65 ?_
      exact z_iret (pc := 66) hO hr hQ rfl dX9_mendingAt_66 ⟨by first | ((first | rw [men_d (r := 1) (by rw [if_pos (by assumption)])] | rw [men_d (r := 0) (by rw [if_neg (by assumption)])]); rw [ci_t (by omega)]; done) | (exfalso; omega), rfl⟩
    · refine z_iload (pc := 51) hO 0 dX9_mendingAt_51 rfl ?_
      refine z_iconst (pc := 53) hO dX9_mendingAt_53 ?_
      refine z_icmp_lt (pc := 54) hO (tgt := 65) dX9_mendingAt_54 (by decide) (by omega) (by omega) (fun b13 => ?_) (fun b13 => ?_)
      · refine z_iconst (pc := 65) hO dX9_mendingAt_65 ?_
        exact z_iret (pc := 66) hO hr hQ rfl dX9_mendingAt_66 ⟨by first | ((first | rw [men_d (r := 1) (by rw [if_pos (by assumption)])] | rw [men_d (r := 0) (by rw [if_neg (by assumption)])]); rw [ci_t (by omega)]; done) | (exfalso; omega), rfl⟩
      · refine z_iload (pc := 57) hO 0 dX9_mendingAt_57 rfl ?_
        refine z_sipush (pc := 59) hO dX9_mendingAt_59 (by decide) ?_
        refine z_icmp_le (pc := 62) hO (tgt := 67) dX9_mendingAt_62 (by decide) (by omega) (by omega) (fun b14 => ?_) (fun b14 => ?_)
        · refine z_aload_n (pc := 67) hO 4 dX9_mendingAt_67 rfl rfl ?_
          refine z_iload_n (pc := 68) hO 5 dX9_mendingAt_68 rfl rfl ?_
          refine z_iload (pc := 69) hO 0 dX9_mendingAt_69 rfl ?_
          refine z_callVIm (pc := 71) hO (As := [.int (zi p), .int (zi (((nc x q p) + (lsum (x (10 + q) 1) (nc x q) 0 1)) - (lsum (x (10 + q) 1) (nc x q) 0 (p / (x (10 + q) 1)))))]) (st := []) (c_X1_write (qL Γ) g x q p (((nc x q p) + (lsum (x (10 + q) 1) (nc x q) 0 1)) - (lsum (x (10 + q) 1) (nc x q) 0 (p / (x (10 + q) 1)))) (by first | assumption | omega) (by first | assumption | omega)) k_X9_40 (isO_fig (by omega : q < 9)) rfl (Nat.le_of_ble_eq_true rfl) (by decide) (by decide) ⟨by decide, by decide⟩ dX9_mendingAt_71 (fun m15 e16 => ?_)
          have hU : m15 (10 + q) 1 = x (10 + q) 1 := by rw [e16, up_i _ _ _ (by omega)]
          have hV := nc_up (x := x) (q := q) (p := p) (v := m15 (20 + q) p) (by omega)
          have hW := FG_up hF q (p := p) (v := m15 (20 + q) p) (by rw [e16, up_s]; omega)
          have hX := congrFun (congrFun e16 (20 + q)) p
          rw [up_s] at hX
          rw [hX, ← e16] at hV hW
          refine z_pop (pc := 74) hO dX9_mendingAt_74 rfl ?_
          refine z_aload_n (pc := 75) hO 4 dX9_mendingAt_75 rfl rfl ?_
          refine z_callSB (pc := 76) hO (As := [.ref (gA g (10 + q))]) (st := []) (c_X4_isMagic (qL Γ) g m15 q (by first | assumption | omega)) k_X9_43 rfl (Nat.le_of_ble_eq_true rfl) (by decide) (by decide) ⟨by decide, by decide⟩ dX9_mendingAt_76 (fun pb17 => ?_) (fun pb17 => ?_)
          · skip
            rw [hU, hV] at pb17
            have hM := pb17
            refine z_istore (pc := 79) hO (lv' := [(6, .int (zi 1)), (5, .int (zi (((nc x q p) + (lsum (x (10 + q) 1) (nc x q) 0 1)) - (lsum (x (10 + q) 1) (nc x q) 0 (p / (x (10 + q) 1)))))), (4, .int (zi (nc x q p))), (3, .int (zi 1)), (2, .int (zi (p / (x (10 + q) 1)))), (0, .ref (gA g (10 + q))), (1, .int (zi p))]) dX9_mendingAt_79 (by decide) rfl ?_
            refine z_aload_n (pc := 81) hO 5 dX9_mendingAt_81 rfl rfl ?_
            refine z_iload_n (pc := 82) hO 6 dX9_mendingAt_82 rfl rfl ?_
            refine z_iload (pc := 83) hO 2 dX9_mendingAt_83 rfl ?_
            refine z_callVIm (pc := 85) hO (As := [.int (zi p), .int (zi (nc x q p))]) (st := []) (c_X1_write (qL Γ) g m15 q p (nc x q p) (by first | assumption | omega) (by first | assumption | omega)) k_X9_40 (isO_fig (by omega : q < 9)) rfl (Nat.le_of_ble_eq_true rfl) (by decide) (by decide) ⟨by decide, by decide⟩ dX9_mendingAt_85 (fun m18 e19 => ?_)
            have hb : m18 = x := by rw [e19]; rw [nc_in (by omega)]; subst_vars; exact up_back _ _ _ _
            rw [hb]
            refine z_pop (pc := 88) hO dX9_mendingAt_88 rfl ?_
            refine z_iload (pc := 89) hO 0 dX9_mendingAt_89 rfl ?_
            refine z_if_eq (pc := 91) hO (tgt := 99) dX9_mendingAt_91 (by decide) (by decide) (fun h => absurd h (by decide)) (fun _ => ?_)
            refine z_iload (pc := 94) hO 1 dX9_mendingAt_94 rfl ?_
            refine z_goto (pc := 96) hO (tgt := 100) dX9_mendingAt_96 (by decide) ?_
            exact z_iret (pc := 100) hO hr hQ rfl dX9_mendingAt_100 ⟨by first | ((first | rw [men_d (r := 1) (by rw [if_pos (by assumption)])] | rw [men_d (r := 0) (by rw [if_neg (by assumption)])]); first | (rw [ci_f (by rintro (h | h | h | h); omega; omega; omega; exact h hM)]; done) | (rw [ci_t (Or.inr (Or.inr (Or.inr hM)))]; done); done) | (exfalso; omega), rfl⟩
          · skip
            rw [hU, hV] at pb17
            have hM := pb17
            refine z_istore (pc := 79) hO (lv' := [(6, .int (zi 0)), (5, .int (zi (((nc x q p) + (lsum (x (10 + q) 1) (nc x q) 0 1)) - (lsum (x (10 + q) 1) (nc x q) 0 (p / (x (10 + q) 1)))))), (4, .int (zi (nc x q p))), (3, .int (zi 1)), (2, .int (zi (p / (x (10 + q) 1)))), (0, .ref (gA g (10 + q))), (1, .int (zi p))]) dX9_mendingAt_79 (by decide) rfl ?_
            refine z_aload_n (pc := 81) hO 5 dX9_mendingAt_81 rfl rfl ?_
            refine z_iload_n (pc := 82) hO 6 dX9_mendingAt_82 rfl rfl ?_
            refine z_iload (pc := 83) hO 2 dX9_mendingAt_83 rfl ?_
            refine z_callVIm (pc := 85) hO (As := [.int (zi p), .int (zi (nc x q p))]) (st := []) (c_X1_write (qL Γ) g m15 q p (nc x q p) (by first | assumption | omega) (by first | assumption | omega)) k_X9_40 (isO_fig (by omega : q < 9)) rfl (Nat.le_of_ble_eq_true rfl) (by decide) (by decide) ⟨by decide, by decide⟩ dX9_mendingAt_85 (fun m20 e21 => ?_)
            have hb : m20 = x := by rw [e21]; rw [nc_in (by omega)]; subst_vars; exact up_back _ _ _ _
            rw [hb]
            refine z_pop (pc := 88) hO dX9_mendingAt_88 rfl ?_
            refine z_iload (pc := 89) hO 0 dX9_mendingAt_89 rfl ?_
            refine z_if_eq (pc := 91) hO (tgt := 99) dX9_mendingAt_91 (by decide) (by decide) (fun _ => ?_) (fun h => absurd h (by decide))
            refine z_iconst (pc := 99) hO dX9_mendingAt_99 ?_
            exact z_iret (pc := 100) hO hr hQ rfl dX9_mendingAt_100 ⟨by first | ((first | rw [men_d (r := 1) (by rw [if_pos (by assumption)])] | rw [men_d (r := 0) (by rw [if_neg (by assumption)])]); first | (rw [ci_f (by rintro (h | h | h | h); omega; omega; omega; exact h hM)]; done) | (rw [ci_t (Or.inr (Or.inr (Or.inr hM)))]; done); done) | (exfalso; omega), rfl⟩
        · refine z_iconst (pc := 65) hO dX9_mendingAt_65 ?_
          exact z_iret (pc := 66) hO hr hQ rfl dX9_mendingAt_66 ⟨by first | ((first | rw [men_d (r := 1) (by rw [if_pos (by assumption)])] | rw [men_d (r := 0) (by rw [if_neg (by assumption)])]); rw [ci_t (by omega)]; done) | (exfalso; omega), rfl⟩

set_option maxHeartbeats 4000000 in
theorem c_X9_tellOfOnePoint (l : Launch) (g : Gl) (x : Me) (v : Int) (what : Int)  (hv : 0 ≤ v ∧ v ≤ 999) (hw : 0 ≤ what ∧ what ≤ 2) : ctQ l g yX9_tellOfOnePoint cX9_tellOfOnePoint 2 (some .int) 1 20 [.int (zi v), .int (zi what)] x (QIu g (fun z x' => z = (if what = 0 then (if v = 0 then 999 else 998) else if what = 1 then 0 else if v = 1 then 2 else 1) ∧ x' = x)) := by
  refine ct_start (own := RX9) (lv := [(0, .int (zi v)), (1, .int (zi what))]) (plainFor_of_name (by decide)) rfl (Nat.le_of_ble_eq_true rfl) rfl ?_
  intro Γ hΓ hO hr hQ _
  refine z_iload_n (pc := 0) hO 1 dX9_tellOfOnePoint_0 rfl rfl ?_
  have w1 : what = 0 ∨ what = 1 ∨ (what ≠ 0 ∧ what ≠ 1) := by omega
  rcases w1 with w1 | w1 | w1
  · refine z_look (pc := 1) hO (tgt := 28) dX9_tellOfOnePoint_1 (by omega) rfl (by first | (rw [w1]; done) | (rw [w1]; rfl)) (by decide) ?_
    refine z_iload_n (pc := 28) hO 0 dX9_tellOfOnePoint_28 rfl rfl ?_
    refine z_if_ne (pc := 29) hO (tgt := 38) dX9_tellOfOnePoint_29 (by decide) (by omega) (fun b2 => ?_) (fun b2 => ?_)
    · refine z_sipush (pc := 38) hO dX9_tellOfOnePoint_38 (by decide) ?_
      exact z_iret (pc := 41) hO hr hQ rfl dX9_tellOfOnePoint_41 ⟨by first | (simp [*]; done) | (exfalso; omega), rfl⟩
    · refine z_sipush (pc := 32) hO dX9_tellOfOnePoint_32 (by decide) ?_
      refine z_goto (pc := 35) hO (tgt := 41) dX9_tellOfOnePoint_35 (by decide) ?_
      exact z_iret (pc := 41) hO hr hQ rfl dX9_tellOfOnePoint_41 ⟨by first | (simp [*]; done) | (exfalso; omega), rfl⟩
  · refine z_look (pc := 1) hO (tgt := 42) dX9_tellOfOnePoint_1 (by omega) rfl (by first | (rw [w1]; done) | (rw [w1]; rfl)) (by decide) ?_
    refine z_iconst (pc := 42) hO dX9_tellOfOnePoint_42 ?_
    exact z_iret (pc := 43) hO hr hQ rfl dX9_tellOfOnePoint_43 ⟨by first | (simp [*]; done) | (exfalso; omega), rfl⟩
  · refine z_look (pc := 1) hO (tgt := 44) dX9_tellOfOnePoint_1 (by omega) rfl (look_out (by simp only [List.all_cons, List.all_nil, Bool.and_true, Bool.and_eq_true, decide_eq_true_eq]; omega)) (by decide) ?_
    refine z_iload_n (pc := 44) hO 0 dX9_tellOfOnePoint_44 rfl rfl ?_
    refine z_iconst (pc := 45) hO dX9_tellOfOnePoint_45 ?_
    refine z_icmp_ne (pc := 46) hO (tgt := 53) dX9_tellOfOnePoint_46 (by decide) (by omega) (by omega) (fun b3 => ?_) (fun b3 => ?_)
    · refine z_iconst (pc := 53) hO dX9_tellOfOnePoint_53 ?_
      exact z_iret (pc := 54) hO hr hQ rfl dX9_tellOfOnePoint_54 ⟨by first | (simp [*]; done) | (exfalso; omega), rfl⟩
    · refine z_iconst (pc := 49) hO dX9_tellOfOnePoint_49 ?_
      refine z_goto (pc := 50) hO (tgt := 54) dX9_tellOfOnePoint_50 (by decide) ?_
      exact z_iret (pc := 54) hO hr hQ rfl dX9_tellOfOnePoint_54 ⟨by first | (simp [*]; done) | (exfalso; omega), rfl⟩

set_option maxHeartbeats 4000000 in
theorem c_X9_tell (l : Launch) (g : Gl) (x : Me) (q : Nat) (what : Int)  (hF : FG x q) (hw : 0 ≤ what ∧ what ≤ 2) : ctQ l g yX9_tell cX9_tell 5 (some .int) 6 137 [.ref (gA g (10 + q)), .int (zi what)] x (QIu g (fun z x' => z = (slp (x (10 + q) 1) (nc x q) what) ∧ x' = x)) := by
  refine ct_start (own := RX9) (lv := [(0, .ref (gA g (10 + q))), (1, .int (zi what))]) (plainFor_of_name (by decide)) rfl (Nat.le_of_ble_eq_true rfl) rfl ?_
  intro Γ hΓ hO hr hQ _
  obtain ⟨hq, hs, hf⟩ := id hF
  have h9 := sq9 hs
  have hN := FG.r hF
  have hR0 := hN 0
  refine z_aload_n (pc := 0) hO 0 dX9_tell_0 rfl rfl ?_
  refine z_callVIp (pc := 1) hO (As := []) (st := []) (c_X1_side (qL Γ) g x q (by first | assumption | omega)) k_X9_9 (isO_fig (by omega : q < 9)) rfl (Nat.le_of_ble_eq_true rfl) (by decide) (by decide) ⟨by decide, by decide⟩ dX9_tell_1 ?_
  refine z_iconst (pc := 4) hO dX9_tell_4 ?_
  refine z_icmp_ne (pc := 5) hO (tgt := 18) dX9_tell_5 (by decide) (by omega) (by omega) (fun b1 => ?_) (fun b1 => ?_)
  · refine z_iconst (pc := 18) hO dX9_tell_18 ?_
    refine z_istore_n (pc := 19) hO (lv' := [(2, .int (zi 0)), (0, .ref (gA g (10 + q))), (1, .int (zi what))]) dX9_tell_19 rfl (by decide) rfl ?_
    refine z_iconst (pc := 20) hO dX9_tell_20 ?_
    refine z_istore_n (pc := 21) hO (lv' := [(3, .int (zi 0)), (2, .int (zi 0)), (0, .ref (gA g (10 + q))), (1, .int (zi what))]) dX9_tell_21 rfl (by decide) rfl ?_
    have L22 : ∀ (N : Nat) (i : Int) (c : Int), (x (10 + q) 1 * x (10 + q) 1 - i).toNat < N → (0 ≤ i ∧ i ≤ x (10 + q) 1 * x (10 + q) 1) → (2 ≤ x (10 + q) 1) → (c = slc (x (10 + q) 1) (nc x q) i.toNat) → (what ≠ 0 → ∀ p, 0 ≤ p → p < i → men (x (10 + q) 1) (nc x q) p = -1) → Zz Γ g 5 0 0 x 22 [(0, .ref (gA g (10 + q))), (1, .int (zi what)), (2, .int (zi c)), (3, .int (zi i))] [] := by
      intro N
      induction N with
      | zero => intro i c hm; exact absurd hm (Nat.not_lt_zero _)
      | succ N ih22 =>
        intro i c hm h0 h1n hc9 hA
        have hR := men_rng (n := x (10 + q) 1) (f := nc x q) (p := i)
        refine z_iload_n (pc := 22) hO 3 dX9_tell_22 rfl rfl ?_
        refine z_aload_n (pc := 23) hO 0 dX9_tell_23 rfl rfl ?_
        refine z_callVIp (pc := 24) hO (As := []) (st := [.int (zi i)]) (c_X1_size (qL Γ) g x q (by first | assumption | omega)) k_X9_25 (isO_fig (by omega : q < 9)) rfl (Nat.le_of_ble_eq_true rfl) (by decide) (by decide) ⟨by decide, by decide⟩ dX9_tell_24 ?_
        refine z_icmp_ge (pc := 27) hO (tgt := 68) dX9_tell_27 (by decide) (by omega) (by omega) (fun b2 => ?_) (fun b2 => ?_)
        · refine z_iload_n (pc := 68) hO 1 dX9_tell_68 rfl rfl ?_
          refine z_if_ne (pc := 69) hO (tgt := 76) dX9_tell_69 (by decide) (by omega) (fun b3 => ?_) (fun b3 => ?_)
          · refine z_iconst (pc := 76) hO dX9_tell_76 ?_
            exact z_iret (pc := 77) hO hr hQ rfl dX9_tell_77 ⟨by first | (unfold slp; rw [if_neg (by omega)]; first | (rw [if_pos (by assumption), hc9]; congr 1; omega) | (rw [if_neg (by assumption), slf_none (fun p a b => hA (by assumption) p a (by omega))]; simp); done) | (exfalso; omega), rfl⟩
          · refine z_iload_n (pc := 72) hO 2 dX9_tell_72 rfl rfl ?_
            refine z_goto (pc := 73) hO (tgt := 77) dX9_tell_73 (by decide) ?_
            exact z_iret (pc := 77) hO hr hQ rfl dX9_tell_77 ⟨by first | (unfold slp; rw [if_neg (by omega)]; first | (rw [if_pos (by assumption), hc9]; congr 1; omega) | (rw [if_neg (by assumption), slf_none (fun p a b => hA (by assumption) p a (by omega))]; simp); done) | (exfalso; omega), rfl⟩
        · refine z_aload_n (pc := 30) hO 0 dX9_tell_30 rfl rfl ?_
          refine z_iload_n (pc := 31) hO 3 dX9_tell_31 rfl rfl ?_
          refine z_callSIp (pc := 32) hO (As := [.ref (gA g (10 + q)), .int (zi i)]) (st := []) (c_X9_mendingAt (qL Γ) g x q i (by first | assumption | omega) (by first | assumption | omega) (by first | assumption | omega)) k_X9_28 rfl (Nat.le_of_ble_eq_true rfl) (by decide) (by decide) ⟨by decide, by decide⟩ dX9_tell_32 ?_
          refine z_istore (pc := 35) hO (lv' := [(4, .int (zi (men (x (10 + q) 1) (nc x q) i))), (0, .ref (gA g (10 + q))), (1, .int (zi what)), (2, .int (zi c)), (3, .int (zi i))]) dX9_tell_35 (by decide) rfl ?_
          refine z_iload (pc := 37) hO 0 dX9_tell_37 rfl ?_
          refine z_iconst (pc := 39) hO dX9_tell_39 ?_
          refine z_icmp_eq (pc := 40) hO (tgt := 62) dX9_tell_40 (by decide) (by omega) (by omega) (fun b4 => ?_) (fun b4 => ?_)
          · refine z_iinc (pc := 62) hO 4 (lv' := [(3, .int (zi (i + 1))), (4, .int (zi (men (x (10 + q) 1) (nc x q) i))), (0, .ref (gA g (10 + q))), (1, .int (zi what)), (2, .int (zi c))]) dX9_tell_62 rfl (by decide) rfl ?_
            refine z_goto (pc := 65) hO (tgt := 22) dX9_tell_65 (by decide) ?_
            refine z_sub [2, 3, 4, 0] rfl ?_
            exact ih22 (i + 1) c (by omega) (by omega) (by omega) (by unfold slc at hc9 ⊢; rw [sm_s _ (by omega), hc9]; first | (rw [bi_t (by assumption)]; done) | (rw [bi_f (fun h => h (by assumption))]; omega)) (by intro hw0 p a b; by_cases hl : p = i; (first | (subst hl; assumption) | (exfalso; omega)); exact hA hw0 p a (by omega))
          · refine z_iload_n (pc := 43) hO 2 dX9_tell_43 rfl rfl ?_
            refine z_if_eq (pc := 44) hO (tgt := 59) dX9_tell_44 (by decide) (by omega) (fun b5 => ?_) (fun b5 => ?_)
            · refine z_iinc (pc := 59) hO 3 (lv' := [(2, .int (zi (c + 1))), (4, .int (zi (men (x (10 + q) 1) (nc x q) i))), (0, .ref (gA g (10 + q))), (1, .int (zi what)), (3, .int (zi i))]) dX9_tell_59 rfl (by decide) rfl ?_
              refine z_iinc (pc := 62) hO 4 (lv' := [(3, .int (zi (i + 1))), (2, .int (zi (c + 1))), (4, .int (zi (men (x (10 + q) 1) (nc x q) i))), (0, .ref (gA g (10 + q))), (1, .int (zi what))]) dX9_tell_62 rfl (by decide) rfl ?_
              refine z_goto (pc := 65) hO (tgt := 22) dX9_tell_65 (by decide) ?_
              refine z_sub [3, 4, 1, 0] rfl ?_
              exact ih22 (i + 1) (c + 1) (by omega) (by omega) (by omega) (by unfold slc at hc9 ⊢; rw [sm_s _ (by omega), hc9]; first | (rw [bi_t (by assumption)]; done) | (rw [bi_f (fun h => h (by assumption))]; omega)) (by intro hw0 p a b; by_cases hl : p = i; (first | (subst hl; assumption) | (exfalso; omega)); exact hA hw0 p a (by omega))
            · refine z_iload_n (pc := 47) hO 2 dX9_tell_47 rfl rfl ?_
              refine z_iconst (pc := 48) hO dX9_tell_48 ?_
              refine z_icmp_ne (pc := 49) hO (tgt := 56) dX9_tell_49 (by decide) (by omega) (by omega) (fun b6 => ?_) (fun b6 => ?_)
              · refine z_iload (pc := 56) hO 0 dX9_tell_56 rfl ?_
                exact z_iret (pc := 58) hO hr hQ rfl dX9_tell_58 ⟨by first | (unfold slp; rw [if_neg (by omega), if_neg (by omega), slf_at (i := i) (by omega) (hA (by omega)) (by assumption)]; first | (rw [if_pos (by omega)]; done) | (rw [if_neg (by omega), if_neg (by omega)]; done); done) | (exfalso; omega), rfl⟩
              · refine z_iload_n (pc := 52) hO 4 dX9_tell_52 rfl rfl ?_
                refine z_goto (pc := 53) hO (tgt := 58) dX9_tell_53 (by decide) ?_
                exact z_iret (pc := 58) hO hr hQ rfl dX9_tell_58 ⟨by first | (unfold slp; rw [if_neg (by omega), if_neg (by omega), slf_at (i := i) (by omega) (hA (by omega)) (by assumption)]; first | (rw [if_pos (by omega)]; done) | (rw [if_neg (by omega), if_neg (by omega)]; done); done) | (exfalso; omega), rfl⟩
    refine z_sub [2, 3, 1, 0] rfl ?_
    exact L22 _ 0 0 (Nat.lt_succ_self _) (by omega) (by omega) (by rfl) (by intro _ p _ _; omega)
  · refine z_aload_n (pc := 8) hO 0 dX9_tell_8 rfl rfl ?_
    refine z_iconst (pc := 9) hO dX9_tell_9 ?_
    refine z_callVIp (pc := 10) hO (As := [.int (zi 0)]) (st := []) (c_X1_read (qL Γ) g x q 0 (by first | assumption | omega) (by first | assumption | omega)) k_X9_15 (isO_fig (by omega : q < 9)) rfl (Nat.le_of_ble_eq_true rfl) (by decide) (by decide) ⟨by decide, by decide⟩ dX9_tell_10 ?_
    refine z_iload_n (pc := 13) hO 1 dX9_tell_13 rfl rfl ?_
    refine z_callSIp (pc := 14) hO (As := [.int (zi (nc x q 0)), .int (zi what)]) (st := []) (c_X9_tellOfOnePoint (qL Γ) g x (nc x q 0) what (by first | assumption | omega) (by first | assumption | omega)) k_X9_19 rfl (Nat.le_of_ble_eq_true rfl) (by decide) (by decide) ⟨by decide, by decide⟩ dX9_tell_14 ?_
    exact z_iret (pc := 17) hO hr hQ rfl dX9_tell_17 ⟨by first | (unfold slp; rw [if_pos (show x (10 + q) 1 = 1 by assumption)]; done) | (exfalso; omega), rfl⟩

