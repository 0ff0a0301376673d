set_option maxHeartbeats 4000000 in
theorem c_crossstep (l : Launch) (g : Gl) (x : Me) (q : Nat) (row : Int) (tk : Int) (rest : Int) (r : Nat) (t : Int → Bool) (hF : FG x q) (hn6 : x (10 + q) 1 ≤ 6) (hrw : 0 ≤ row ∧ row + r = x (10 + q) 1) (htk : 0 ≤ tk ∧ tk < 64) (hbt : ∀ d, 0 ≤ d → d < 6 → (bnd2 tk (p2 d) ≠ 0 ↔ t d = true)) (hrs : 0 ≤ rest ∧ rest ≤ 8991) (IH : ∀ r2 : Nat, r2 < r → ∀ (row tk rest : Int) (t : Int → Bool), (FG x q) → (x (10 + q) 1 ≤ 6) → (0 ≤ row ∧ row + r2 = x (10 + q) 1) → (0 ≤ tk ∧ tk < 64) → (∀ d, 0 ≤ d → d < 6 → (bnd2 tk (p2 d) ≠ 0 ↔ t d = true)) → (0 ≤ rest ∧ rest ≤ 8991) → ctQ l g yX11_countCrossings cX11_countCrossings 8 (some .int) (2 * r2 + 8) (60 * r2 + 300) [.ref (gA g (10 + q)), .int (zi row), .int (zi tk), .int (zi rest)] x (QIu g (fun z x' => (z = crf (x (10 + q) 1) (nc x q) r2 t rest) ∧ x' = x))) : ctQ l g yX11_countCrossings cX11_countCrossings 8 (some .int) (2 * r + 8) (60 * r + 300) [.ref (gA g (10 + q)), .int (zi row), .int (zi tk), .int (zi rest)] x (QIu g (fun z x' => (z = crf (x (10 + q) 1) (nc x q) r t rest) ∧ x' = x)) := by
  refine ct_start (own := RX11) (lv := [(0, .ref (gA g (10 + q))), (1, .int (zi row)), (2, .int (zi tk)), (3, .int (zi rest))]) (plainFor_of_name (by decide)) rfl (Nat.le_of_ble_eq_true rfl) rfl ?_
  intro Γ hΓ hO hr hQ _
  subst hΓ
  obtain ⟨hq, hs, hf⟩ := id hF
  refine z_iload_n (pc := 0) hO 1 dX11_countCrossings_0 rfl rfl ?_
  refine z_aload_n (pc := 1) hO 0 dX11_countCrossings_1 rfl rfl ?_
  refine z_callVIp (pc := 2) hO (As := []) (st := [.int (zi row)]) (c_X1_side (qL Γ) g x q (by first | assumption | omega)) k_X11_94 (isO_fig (by omega : q < 9)) rfl (Nat.le_of_ble_eq_true rfl) (by omega) (by omega) ⟨by decide, by decide⟩ dX11_countCrossings_2 ?_
  refine z_icmp_ge (pc := 5) hO (tgt := 14) dX11_countCrossings_5 (by decide) (by omega) (by omega) (fun b1 => ?_) (fun b1 => ?_)
  · refine z_iload_n (pc := 14) hO 3 dX11_countCrossings_14 rfl rfl ?_
    refine z_if_ne (pc := 15) hO (tgt := 22) dX11_countCrossings_15 (by decide) (by omega) (fun b2 => ?_) (fun b2 => ?_)
    · refine z_iconst (pc := 22) hO dX11_countCrossings_22 ?_
      exact z_iret (pc := 23) hO hr hQ rfl dX11_countCrossings_23 ⟨by first | (obtain rfl : r = 0 := (by omega); unfold crf; first | (rw [if_pos (by omega)]; done) | (rw [if_neg (by omega)]; done); done) | (exfalso; omega), rfl⟩
    · refine z_iconst (pc := 18) hO dX11_countCrossings_18 ?_
      refine z_goto (pc := 19) hO (tgt := 23) dX11_countCrossings_19 (by decide) ?_
      exact z_iret (pc := 23) hO hr hQ rfl dX11_countCrossings_23 ⟨by first | (obtain rfl : r = 0 := (by omega); unfold crf; first | (rw [if_pos (by omega)]; done) | (rw [if_neg (by omega)]; done); done) | (exfalso; omega), rfl⟩
  · refine z_iload_n (pc := 8) hO 1 dX11_countCrossings_8 rfl rfl ?_
    refine z_bipush (pc := 9) hO dX11_countCrossings_9 (by decide) ?_
    refine z_icmp_lt (pc := 11) hO (tgt := 24) dX11_countCrossings_11 (by decide) (by omega) (by omega) (fun b3 => ?_) (fun b3 => ?_)
    · obtain ⟨r2, rfl⟩ : ∃ r2, r = r2 + 1 := ⟨r - 1, by omega⟩
      have her : x (10 + q) 1 - (r2 + 1) = row := by omega
      refine z_iconst (pc := 24) hO dX11_countCrossings_24 ?_
      refine z_istore (pc := 25) hO (lv' := [(4, .int (zi 0)), (0, .ref (gA g (10 + q))), (1, .int (zi row)), (2, .int (zi tk)), (3, .int (zi rest))]) dX11_countCrossings_25 (by decide) rfl ?_
      refine z_iconst (pc := 27) hO dX11_countCrossings_27 ?_
      refine z_istore (pc := 28) hO (lv' := [(5, .int (zi 0)), (4, .int (zi 0)), (0, .ref (gA g (10 + q))), (1, .int (zi row)), (2, .int (zi tk)), (3, .int (zi rest))]) dX11_countCrossings_28 (by decide) rfl ?_
      have L30 : ∀ (N : Nat) (w : Int) (i : Int), (x (10 + q) 1 - i).toNat < N → (0 ≤ i ∧ i ≤ x (10 + q) 1) → (w = sm (crt (x (10 + q) 1) (nc x q) r2 t rest) i.toNat) → Zz Γ g 8 0 0 x 30 [(0, .ref (gA g (10 + q))), (1, .int (zi row)), (2, .int (zi tk)), (3, .int (zi rest)), (4, .int (zi w)), (5, .int (zi i))] [] := by
        intro N
        induction N with
        | zero => intro w i hm; exact absurd hm (Nat.not_lt_zero _)
        | succ N ih30 =>
          intro w i hm h0 hA
          refine z_iload (pc := 30) hO 5 dX11_countCrossings_30 rfl ?_
          refine z_aload_n (pc := 32) hO 0 dX11_countCrossings_32 rfl rfl ?_
          refine z_callVIp (pc := 33) hO (As := []) (st := [.int (zi i)]) (c_X1_side (qL Γ) g x q (by first | assumption | omega)) k_X11_94 (isO_fig (by omega : q < 9)) rfl (Nat.le_of_ble_eq_true rfl) (by omega) (by omega) ⟨by decide, by decide⟩ dX11_countCrossings_33 ?_
          refine z_icmp_ge (pc := 36) hO (tgt := 97) dX11_countCrossings_36 (by decide) (by omega) (by omega) (fun b4 => ?_) (fun b4 => ?_)
          · refine z_iload (pc := 97) hO 4 dX11_countCrossings_97 rfl ?_
            exact z_iret (pc := 99) hO hr hQ rfl dX11_countCrossings_99 ⟨by first | (rw [hA, crf_s, show i.toNat = (x (10 + q) 1).toNat by omega]; done) | (exfalso; omega), rfl⟩
          · have hpl := pl9 (n := x (10 + q) 1) (r := row) (c := i) hs (by omega) (by omega)
            have hsq := sq9 hs
            have hp2 := p2_9 (k := i) (by omega)
            have hnr := nc_rng hF (x (10 + q) 1 * row + i)
            have hbi := hbt i (by omega) (by omega)
            have hb2 := bnd2_r (a := tk) (b := p2 i) htk.1
            have hbr := bor_r htk (c := i) (by omega)
            refine z_iconst (pc := 39) hO dX11_countCrossings_39 ?_
            refine z_iload (pc := 40) hO 5 dX11_countCrossings_40 rfl ?_
            refine z_ishl (pc := 42) hO (zi (p2 i)) dX11_countCrossings_42 (by exact zn_shl (by omega)) ?_
            refine z_istore (pc := 43) hO (lv' := [(6, .int (zi (p2 i))), (0, .ref (gA g (10 + q))), (1, .int (zi row)), (2, .int (zi tk)), (3, .int (zi rest)), (4, .int (zi w)), (5, .int (zi i))]) dX11_countCrossings_43 (by decide) rfl ?_
            refine z_aload_n (pc := 45) hO 1 dX11_countCrossings_45 rfl rfl ?_
            refine z_aload_n (pc := 46) hO 1 dX11_countCrossings_46 rfl rfl ?_
            refine z_iload_n (pc := 47) hO 2 dX11_countCrossings_47 rfl rfl ?_
            refine z_iload (pc := 48) hO 6 dX11_countCrossings_48 rfl ?_
            refine z_callVIp (pc := 50) hO (As := [.int (zi row), .int (zi i)]) (st := [.ref (gA g (10 + q))]) (c_X1_placeOf (qL Γ) g x q row i (by first | assumption | omega)) k_X11_64 (isO_fig (by omega : q < 9)) rfl (Nat.le_of_ble_eq_true rfl) (by omega) (by omega) ⟨by decide, by decide⟩ dX11_countCrossings_50 ?_
            refine z_callVIp (pc := 53) hO (As := [.int (zi (x (10 + q) 1 * row + i))]) (st := []) (c_X1_read (qL Γ) g x q (x (10 + q) 1 * row + i) (by first | assumption | omega) (by first | assumption | omega)) k_X11_71 (isO_fig (by omega : q < 9)) rfl (Nat.le_of_ble_eq_true rfl) (by omega) (by omega) ⟨by decide, by decide⟩ dX11_countCrossings_53 ?_
            refine z_istore (pc := 56) hO (lv' := [(7, .int (zi (nc x q (x (10 + q) 1 * row + i)))), (6, .int (zi (p2 i))), (0, .ref (gA g (10 + q))), (1, .int (zi row)), (2, .int (zi tk)), (3, .int (zi rest)), (4, .int (zi w)), (5, .int (zi i))]) dX11_countCrossings_56 (by decide) rfl ?_
            refine z_iload_n (pc := 58) hO 4 dX11_countCrossings_58 rfl rfl ?_
            refine z_iload (pc := 59) hO 1 dX11_countCrossings_59 rfl ?_
            refine z_iand (pc := 61) hO (zi (bnd2 tk (p2 i))) dX11_countCrossings_61 (by exact bnd2_z (by omega) (by omega)) ?_
            refine z_if_ne (pc := 62) hO (tgt := 91) dX11_countCrossings_62 (by decide) (by omega) (fun b5 => ?_) (fun b5 => ?_)
            · refine z_iinc (pc := 91) hO 7 (lv' := [(5, .int (zi (i + 1))), (7, .int (zi (nc x q (x (10 + q) 1 * row + i)))), (6, .int (zi (p2 i))), (0, .ref (gA g (10 + q))), (1, .int (zi row)), (2, .int (zi tk)), (3, .int (zi rest)), (4, .int (zi w))]) dX11_countCrossings_91 rfl (by decide) rfl ?_
              refine z_goto (pc := 94) hO (tgt := 30) dX11_countCrossings_94 (by decide) ?_
              refine z_sub [3, 4, 5, 6, 7, 0] rfl ?_
              exact ih30 w (i + 1) (by omega) (by omega) (by rw [sm_s _ h0.1, ← hA]; first | (rw [crt_t her (Bool.eq_false_iff.mpr (fun e => by have := hbi.mpr e; omega)) (by omega), ← hcc]; done) | (rw [crt_f her (fun e => by omega)]; omega) | (rw [crt_f her (fun e => by have e1 := hbi.mp (by omega); rw [e.1] at e1; exact Bool.noConfusion e1)]; omega))
            · refine z_iload (pc := 65) hO 0 dX11_countCrossings_65 rfl ?_
              refine z_iload_n (pc := 67) hO 5 dX11_countCrossings_67 rfl rfl ?_
              refine z_icmp_gt (pc := 68) hO (tgt := 91) dX11_countCrossings_68 (by decide) (by omega) (by omega) (fun b6 => ?_) (fun b6 => ?_)
              · refine z_iinc (pc := 91) hO 7 (lv' := [(5, .int (zi (i + 1))), (7, .int (zi (nc x q (x (10 + q) 1 * row + i)))), (6, .int (zi (p2 i))), (0, .ref (gA g (10 + q))), (1, .int (zi row)), (2, .int (zi tk)), (3, .int (zi rest)), (4, .int (zi w))]) dX11_countCrossings_91 rfl (by decide) rfl ?_
                refine z_goto (pc := 94) hO (tgt := 30) dX11_countCrossings_94 (by decide) ?_
                refine z_sub [3, 4, 5, 6, 7, 0] rfl ?_
                exact ih30 w (i + 1) (by omega) (by omega) (by rw [sm_s _ h0.1, ← hA]; first | (rw [crt_t her (Bool.eq_false_iff.mpr (fun e => by have := hbi.mpr e; omega)) (by omega), ← hcc]; done) | (rw [crt_f her (fun e => by omega)]; omega) | (rw [crt_f her (fun e => by have e1 := hbi.mp (by omega); rw [e.1] at e1; exact Bool.noConfusion e1)]; omega))
              · refine z_iload (pc := 71) hO 6 dX11_countCrossings_71 rfl ?_
                refine z_aload_n (pc := 73) hO 2 dX11_countCrossings_73 rfl rfl ?_
                refine z_iload_n (pc := 74) hO 3 dX11_countCrossings_74 rfl rfl ?_
                refine z_iconst (pc := 75) hO dX11_countCrossings_75 ?_
                refine z_iadd (pc := 76) hO dX11_countCrossings_76 ?_
                refine z_iload_n (pc := 77) hO 4 dX11_countCrossings_77 rfl rfl ?_
                refine z_iload (pc := 78) hO 1 dX11_countCrossings_78 rfl ?_
                refine z_ior (pc := 80) hO (zi (bor tk (p2 i))) dX11_countCrossings_80 (by exact bor_z (by omega) (by omega)) ?_
                refine z_iload_n (pc := 81) hO 5 dX11_countCrossings_81 rfl rfl ?_
                refine z_iload (pc := 82) hO 0 dX11_countCrossings_82 rfl ?_
                refine z_isub (pc := 84) hO dX11_countCrossings_84 ?_
                refine z_callSIq (pc := 85) hO (As := [.ref (gA g (10 + q)), .int (zi (row + 1)), .int (zi (bor tk (p2 i))), .int (zi (rest - (nc x q (x (10 + q) 1 * row + i))))]) (st := [.int (zi w)]) (IH r2 (by omega) (row + 1) (bor tk (p2 i)) (rest - nc x q (x (10 + q) 1 * row + i)) (tq t i) hF hn6 ⟨by omega, by omega⟩ hbr (bit_q htk (by omega) hbt) ⟨by omega, by omega⟩) k_X11_200 rfl (Nat.le_of_ble_eq_true rfl) (by omega) (by omega) ⟨by decide, by decide⟩ dX11_countCrossings_85 (fun z7 h9 => ?_)
                have hcc := h9
                refine z_iadd (pc := 88) hO dX11_countCrossings_88 ?_
                refine z_istore (pc := 89) hO (lv' := [(4, .int (zi (w + z7))), (7, .int (zi (nc x q (x (10 + q) 1 * row + i)))), (6, .int (zi (p2 i))), (0, .ref (gA g (10 + q))), (1, .int (zi row)), (2, .int (zi tk)), (3, .int (zi rest)), (5, .int (zi i))]) dX11_countCrossings_89 (by decide) rfl ?_
                refine z_iinc (pc := 91) hO 7 (lv' := [(5, .int (zi (i + 1))), (4, .int (zi (w + z7))), (7, .int (zi (nc x q (x (10 + q) 1 * row + i)))), (6, .int (zi (p2 i))), (0, .ref (gA g (10 + q))), (1, .int (zi row)), (2, .int (zi tk)), (3, .int (zi rest))]) dX11_countCrossings_91 rfl (by decide) rfl ?_
                refine z_goto (pc := 94) hO (tgt := 30) dX11_countCrossings_94 (by decide) ?_
                refine z_sub [4, 5, 6, 7, 1, 0] rfl ?_
                exact ih30 (w + z7) (i + 1) (by omega) (by omega) (by rw [sm_s _ h0.1, ← hA]; first | (rw [crt_t her (Bool.eq_false_iff.mpr (fun e => by have := hbi.mpr e; omega)) (by omega), ← hcc]; done) | (rw [crt_f her (fun e => by omega)]; omega) | (rw [crt_f her (fun e => by have e1 := hbi.mp (by omega); rw [e.1] at e1; exact Bool.noConfusion e1)]; omega))
      refine z_sub [2, 3, 4, 5, 1, 0] rfl ?_
      exact L30 _ 0 0 (Nat.lt_succ_self _) (by omega) (by rfl)
    · refine z_iload_n (pc := 14) hO 3 dX11_countCrossings_14 rfl rfl ?_
      refine z_if_ne (pc := 15) hO (tgt := 22) dX11_countCrossings_15 (by decide) (by omega) (fun b10 => ?_) (fun b10 => ?_)
      · refine z_iconst (pc := 22) hO dX11_countCrossings_22 ?_
        exact z_iret (pc := 23) hO hr hQ rfl dX11_countCrossings_23 ⟨by first | (obtain rfl : r = 0 := (by omega); unfold crf; first | (rw [if_pos (by omega)]; done) | (rw [if_neg (by omega)]; done); done) | (exfalso; omega), rfl⟩
      · refine z_iconst (pc := 18) hO dX11_countCrossings_18 ?_
        refine z_goto (pc := 19) hO (tgt := 23) dX11_countCrossings_19 (by decide) ?_
        exact z_iret (pc := 23) hO hr hQ rfl dX11_countCrossings_23 ⟨by first | (obtain rfl : r = 0 := (by omega); unfold crf; first | (rw [if_pos (by omega)]; done) | (rw [if_neg (by omega)]; done); done) | (exfalso; omega), rfl⟩

theorem c_X11_countCrossings (l : Launch) (g : Gl) (x : Me) (q : Nat) : ∀ (r : Nat) (row tk rest : Int) (t : Int → Bool), (FG x q) → (x (10 + q) 1 ≤ 6) → (0 ≤ row ∧ row + r = x (10 + q) 1) → (0 ≤ tk ∧ tk < 64) → (∀ d, 0 ≤ d → d < 6 → (bnd2 tk (p2 d) ≠ 0 ↔ t d = true)) → (0 ≤ rest ∧ rest ≤ 8991) → ctQ l g yX11_countCrossings cX11_countCrossings 8 (some .int) (2 * r + 8) (60 * r + 300) [.ref (gA g (10 + q)), .int (zi row), .int (zi tk), .int (zi rest)] x (QIu g (fun z x' => (z = crf (x (10 + q) 1) (nc x q) r t rest) ∧ x' = x)) := fun r => Nat.strongRecOn r (fun r IH row tk rest t h1 h2 h3 h4 h5 h6 => c_crossstep l g x q row tk rest r t h1 h2 h3 h4 h5 h6 IH)
