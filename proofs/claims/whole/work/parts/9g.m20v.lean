set_option maxHeartbeats 600000 in
theorem e_X12_crossings (l : Launch) (g : Gl) (x : Me) (q : Int) (tot : Int)  (hM : MS x) (r_q : -2147483648 ≤ q ∧ q < 2147483648) (r_tot : -2147483648 ≤ tot ∧ tot < 2147483648) (hno : ¬ ((0 ≤ q ∧ q < x 50 1) ∧ (0 ≤ tot ∧ tot ≤ 8991) ∧ (x 51 q ≤ 6))) : ctQ l g yX12_crossings cX12_crossings 10 (some .int) 3 63 [.ref (gA g 50), .int (zi q), .int (zi tot)] x (QIu g (fun z x' => z = 0 ∧ x' = up x 50 0 (exn (0 ≤ q ∧ q < x 50 1) (0 ≤ tot ∧ tot ≤ 8991) 1 2 3))) := by
  refine ct_start (own := RX12) (lv := [(0, .ref (gA g 50)), (1, .int (zi q)), (2, .int (zi tot))]) (plainFor_of_name (by decide)) rfl (Nat.le_of_ble_eq_true rfl) rfl ?_
  intro Γ hΓ hO hr hQ _
  have hM1 := hM.1
  refine z_aload_n (pc := 0) hO 0 dX12_crossings_0 rfl rfl ?_
  refine z_iload_n (pc := 1) hO 1 dX12_crossings_1 rfl rfl ?_
  refine z_callVB (pc := 2) hO (As := [.int (zi q)]) (st := []) (c_X12_isSquare (qL Γ) g x q (by first | assumption | omega) (by first | assumption | omega)) k_X12_59 isO_50 rfl (Nat.le_of_ble_eq_true rfl) (by decide) (by decide) ⟨by decide, by decide⟩ dX12_crossings_2 (fun pb1 => ?_) (fun pb1 => ?_)
  · skip
    refine z_istore_n (pc := 5) hO (lv' := [(3, .int (zi 1)), (0, .ref (gA g 50)), (1, .int (zi q)), (2, .int (zi tot))]) dX12_crossings_5 rfl (by decide) rfl ?_
    refine z_aload_n (pc := 6) hO 1 dX12_crossings_6 rfl rfl ?_
    refine z_iload_n (pc := 7) hO 0 dX12_crossings_7 rfl rfl ?_
    refine z_if_ne (pc := 8) hO (tgt := 15) dX12_crossings_8 (by decide) (by decide) (fun _ => ?_) (fun h => absurd h (by decide))
    refine z_iload_n (pc := 15) hO 3 dX12_crossings_15 rfl rfl ?_
    refine z_iconst (pc := 16) hO dX12_crossings_16 ?_
    refine z_sipush (pc := 17) hO dX12_crossings_17 (by decide) ?_
    refine z_callSB (pc := 20) hO (As := [.int (zi tot), .int (zi 0), .int (zi 8991)]) (st := [.ref (gA g 50)]) (c_X12_in (qL Γ) g x tot 0 8991 (by first | assumption | omega) (by first | assumption | omega) (by first | assumption | omega)) k_X12_55 rfl (Nat.le_of_ble_eq_true rfl) (by decide) (by decide) ⟨by decide, by decide⟩ dX12_crossings_20 (fun pb2 => ?_) (fun pb2 => ?_)
    · skip
      refine z_if_ne (pc := 23) hO (tgt := 30) dX12_crossings_23 (by decide) (by decide) (fun _ => ?_) (fun h => absurd h (by decide))
      have hs1 := (hM.2 q (by omega) (by omega)).2.1
      have hq1 := (hM.2 q (by omega) (by omega)).1
      refine z_aload_n (pc := 30) hO 1 dX12_crossings_30 rfl rfl ?_
      refine gf_X12_sideOf (pc := 31) hO f_X12_7 dX12_crossings_31 ?_
      refine z_iload_n (pc := 34) hO 2 dX12_crossings_34 rfl rfl ?_
      refine z_iald (pc := 35) hO isI_51 (by omega) dX12_crossings_35 ?_
      refine z_bipush (pc := 36) hO dX12_crossings_36 (by decide) ?_
      refine z_icmp_le (pc := 38) hO (tgt := 45) dX12_crossings_38 (by decide) (by omega) (by omega) (fun b3 => ?_) (fun b3 => ?_)
      · refine z_iconst (pc := 45) hO dX12_crossings_45 ?_
        refine z_callVIm (pc := 46) hO (As := [.int (zi 0)]) (st := []) (c_X12_isFine0 (qL Γ) g x 0 (by first | assumption | omega)) k_X12_63 isO_50 rfl (Nat.le_of_ble_eq_true rfl) (by decide) (by decide) ⟨by decide, by decide⟩ dX12_crossings_46 (fun m4 e5 => ?_)
        refine z_if_ne (pc := 49) hO (tgt := 54) dX12_crossings_49 (by decide) (by decide) (fun _ => ?_) (fun h => absurd h (by decide))
        exfalso; omega
      · refine z_iconst (pc := 41) hO dX12_crossings_41 ?_
        refine z_goto (pc := 42) hO (tgt := 46) dX12_crossings_42 (by decide) ?_
        refine z_callVIm (pc := 46) hO (As := [.int (zi 3)]) (st := []) (c_X12_isFine1 (qL Γ) g x 3 (by first | assumption | omega)) k_X12_63 isO_50 rfl (Nat.le_of_ble_eq_true rfl) (by decide) (by decide) ⟨by decide, by decide⟩ dX12_crossings_46 (fun m6 e7 => ?_)
        refine z_if_ne (pc := 49) hO (tgt := 54) dX12_crossings_49 (by decide) (by decide) (fun h => absurd h (by decide)) (fun _ => ?_)
        refine z_iconst (pc := 52) hO dX12_crossings_52 ?_
        exact z_iret (pc := 53) hO hr hQ rfl dX12_crossings_53 (by first | (refine ⟨rfl, ?_⟩; first | (rw [exn_1 (by omega)]; assumption) | (rw [exn_2 (by first | trivial | omega) (by omega)]; assumption) | (rw [exn_3 (by first | trivial | omega) (by first | trivial | omega)]; assumption); done) | (exfalso; omega))
    · skip
      refine z_if_ne (pc := 23) hO (tgt := 30) dX12_crossings_23 (by decide) (by decide) (fun h => absurd h (by decide)) (fun _ => ?_)
      refine z_iconst (pc := 26) hO dX12_crossings_26 ?_
      refine z_goto (pc := 27) hO (tgt := 46) dX12_crossings_27 (by decide) ?_
      refine z_callVIm (pc := 46) hO (As := [.int (zi 2)]) (st := []) (c_X12_isFine1 (qL Γ) g x 2 (by first | assumption | omega)) k_X12_63 isO_50 rfl (Nat.le_of_ble_eq_true rfl) (by decide) (by decide) ⟨by decide, by decide⟩ dX12_crossings_46 (fun m8 e9 => ?_)
      refine z_if_ne (pc := 49) hO (tgt := 54) dX12_crossings_49 (by decide) (by decide) (fun h => absurd h (by decide)) (fun _ => ?_)
      refine z_iconst (pc := 52) hO dX12_crossings_52 ?_
      exact z_iret (pc := 53) hO hr hQ rfl dX12_crossings_53 (by first | (refine ⟨rfl, ?_⟩; first | (rw [exn_1 (by omega)]; assumption) | (rw [exn_2 (by first | trivial | omega) (by omega)]; assumption) | (rw [exn_3 (by first | trivial | omega) (by first | trivial | omega)]; assumption); done) | (exfalso; omega))
  · skip
    refine z_istore_n (pc := 5) hO (lv' := [(3, .int (zi 0)), (0, .ref (gA g 50)), (1, .int (zi q)), (2, .int (zi tot))]) dX12_crossings_5 rfl (by decide) rfl ?_
    refine z_aload_n (pc := 6) hO 1 dX12_crossings_6 rfl rfl ?_
    refine z_iload_n (pc := 7) hO 0 dX12_crossings_7 rfl rfl ?_
    refine z_if_ne (pc := 8) hO (tgt := 15) dX12_crossings_8 (by decide) (by decide) (fun h => absurd h (by decide)) (fun _ => ?_)
    refine z_iconst (pc := 11) hO dX12_crossings_11 ?_
    refine z_goto (pc := 12) hO (tgt := 46) dX12_crossings_12 (by decide) ?_
    refine z_callVIm (pc := 46) hO (As := [.int (zi 1)]) (st := []) (c_X12_isFine1 (qL Γ) g x 1 (by first | assumption | omega)) k_X12_63 isO_50 rfl (Nat.le_of_ble_eq_true rfl) (by decide) (by decide) ⟨by decide, by decide⟩ dX12_crossings_46 (fun m10 e11 => ?_)
    refine z_if_ne (pc := 49) hO (tgt := 54) dX12_crossings_49 (by decide) (by decide) (fun h => absurd h (by decide)) (fun _ => ?_)
    refine z_iconst (pc := 52) hO dX12_crossings_52 ?_
    exact z_iret (pc := 53) hO hr hQ rfl dX12_crossings_53 (by first | (refine ⟨rfl, ?_⟩; first | (rw [exn_1 (by omega)]; assumption) | (rw [exn_2 (by first | trivial | omega) (by omega)]; assumption) | (rw [exn_3 (by first | trivial | omega) (by first | trivial | omega)]; assumption); done) | (exfalso; omega))

set_option maxHeartbeats 600000 in
theorem c_X12_crossings (l : Launch) (g : Gl) (x : Me) (q : Int) (tot : Int)  (hM : MS x) (r_q : -2147483648 ≤ q ∧ q < 2147483648) (r_tot : -2147483648 ≤ tot ∧ tot < 2147483648) (hok : (0 ≤ q ∧ q < x 50 1) ∧ (0 ≤ tot ∧ tot ≤ 8991) ∧ (x 51 q ≤ 6)) : ctQ l g yX12_crossings cX12_crossings 10 (some .int) 3 63 [.ref (gA g 50), .int (zi q), .int (zi tot)] x (QIu g (fun z x' => z = crf (x 51 q) (nd x q) (x 51 q).toNat (fun _ => false) tot ∧ KM x x')) := by
  refine ct_start (own := RX12) (lv := [(0, .ref (gA g 50)), (1, .int (zi q)), (2, .int (zi tot))]) (plainFor_of_name (by decide)) rfl (Nat.le_of_ble_eq_true rfl) rfl ?_
  intro Γ hΓ hO hr hQ _
  have hM1 := hM.1
  refine z_aload_n (pc := 0) hO 0 dX12_crossings_0 rfl rfl ?_
  refine z_iload_n (pc := 1) hO 1 dX12_crossings_1 rfl rfl ?_
  refine z_callVB (pc := 2) hO (As := [.int (zi q)]) (st := []) (c_X12_isSquare (qL Γ) g x q (by first | assumption | omega) (by first | assumption | omega)) k_X12_59 isO_50 rfl (Nat.le_of_ble_eq_true rfl) (by decide) (by decide) ⟨by decide, by decide⟩ dX12_crossings_2 (fun pb1 => ?_) (fun pb1 => ?_)
  · skip
    refine z_istore_n (pc := 5) hO (lv' := [(3, .int (zi 1)), (0, .ref (gA g 50)), (1, .int (zi q)), (2, .int (zi tot))]) dX12_crossings_5 rfl (by decide) rfl ?_
    refine z_aload_n (pc := 6) hO 1 dX12_crossings_6 rfl rfl ?_
    refine z_iload_n (pc := 7) hO 0 dX12_crossings_7 rfl rfl ?_
    refine z_if_ne (pc := 8) hO (tgt := 15) dX12_crossings_8 (by decide) (by decide) (fun _ => ?_) (fun h => absurd h (by decide))
    refine z_iload_n (pc := 15) hO 3 dX12_crossings_15 rfl rfl ?_
    refine z_iconst (pc := 16) hO dX12_crossings_16 ?_
    refine z_sipush (pc := 17) hO dX12_crossings_17 (by decide) ?_
    refine z_callSB (pc := 20) hO (As := [.int (zi tot), .int (zi 0), .int (zi 8991)]) (st := [.ref (gA g 50)]) (c_X12_in (qL Γ) g x tot 0 8991 (by first | assumption | omega) (by first | assumption | omega) (by first | assumption | omega)) k_X12_55 rfl (Nat.le_of_ble_eq_true rfl) (by decide) (by decide) ⟨by decide, by decide⟩ dX12_crossings_20 (fun pb2 => ?_) (fun pb2 => ?_)
    · skip
      refine z_if_ne (pc := 23) hO (tgt := 30) dX12_crossings_23 (by decide) (by decide) (fun _ => ?_) (fun h => absurd h (by decide))
      have hs1 := (hM.2 q (by omega) (by omega)).2.1
      have hq1 := (hM.2 q (by omega) (by omega)).1
      refine z_aload_n (pc := 30) hO 1 dX12_crossings_30 rfl rfl ?_
      refine gf_X12_sideOf (pc := 31) hO f_X12_7 dX12_crossings_31 ?_
      refine z_iload_n (pc := 34) hO 2 dX12_crossings_34 rfl rfl ?_
      refine z_iald (pc := 35) hO isI_51 (by omega) dX12_crossings_35 ?_
      refine z_bipush (pc := 36) hO dX12_crossings_36 (by decide) ?_
      refine z_icmp_le (pc := 38) hO (tgt := 45) dX12_crossings_38 (by decide) (by omega) (by omega) (fun b3 => ?_) (fun b3 => ?_)
      · refine z_iconst (pc := 45) hO dX12_crossings_45 ?_
        refine z_callVIm (pc := 46) hO (As := [.int (zi 0)]) (st := []) (c_X12_isFine0 (qL Γ) g x 0 (by first | assumption | omega)) k_X12_63 isO_50 rfl (Nat.le_of_ble_eq_true rfl) (by decide) (by decide) ⟨by decide, by decide⟩ dX12_crossings_46 (fun m4 e5 => ?_)
        refine z_if_ne (pc := 49) hO (tgt := 54) dX12_crossings_49 (by decide) (by decide) (fun _ => ?_) (fun h => absurd h (by decide))
        have hG := hM.2 q (by omega) (by omega)
        have hs := hG.2.1
        have hth : m4 = up x 50 0 0 := by assumption
        have e51 : m4 51 q = x 51 q := by rw [hth, up_i _ _ _ (by omega)]
        have end_ : nd m4 q = nd x q := by funext p; rw [hth]; exact nd_th
        have hN := nd_rng hG
        obtain ⟨m, hmem⟩ : ∃ m : Me, m = m4 := ⟨_, rfl⟩
        refine z_aload_n (pc := 54) hO 1 dX12_crossings_54 rfl rfl ?_
        refine gf_X12_sideOf (pc := 55) hO f_X12_7 dX12_crossings_55 ?_
        refine z_iload_n (pc := 58) hO 2 dX12_crossings_58 rfl rfl ?_
        refine z_iald (pc := 59) hO isI_51 (by omega) dX12_crossings_59 ?_
        rw [e51]
        refine z_istore (pc := 60) hO (lv' := [(4, .int (zi (x 51 q))), (3, .int (zi 1)), (0, .ref (gA g 50)), (1, .int (zi q)), (2, .int (zi tot))]) dX12_crossings_60 (by decide) rfl ?_
        refine z_iconst (pc := 62) hO dX12_crossings_62 ?_
        refine z_istore (pc := 63) hO (lv' := [(5, .int (zi 0)), (4, .int (zi (x 51 q))), (3, .int (zi 1)), (0, .ref (gA g 50)), (1, .int (zi q)), (2, .int (zi tot))]) dX12_crossings_63 (by decide) rfl ?_
        refine z_iconst (pc := 65) hO dX12_crossings_65 ?_
        refine z_istore (pc := 66) hO (lv' := [(6, .int (zi 0)), (5, .int (zi 0)), (4, .int (zi (x 51 q))), (3, .int (zi 1)), (0, .ref (gA g 50)), (1, .int (zi q)), (2, .int (zi tot))]) dX12_crossings_66 (by decide) rfl ?_
        refine z_iconst (pc := 68) hO dX12_crossings_68 ?_
        refine z_istore (pc := 69) hO (lv' := [(7, .int (zi 0)), (6, .int (zi 0)), (5, .int (zi 0)), (4, .int (zi (x 51 q))), (3, .int (zi 1)), (0, .ref (gA g 50)), (1, .int (zi q)), (2, .int (zi tot))]) dX12_crossings_69 (by decide) rfl ?_
        refine z_iconst (pc := 71) hO dX12_crossings_71 ?_
        refine z_istore (pc := 72) hO (lv' := [(8, .int (zi 0)), (7, .int (zi 0)), (6, .int (zi 0)), (5, .int (zi 0)), (4, .int (zi (x 51 q))), (3, .int (zi 1)), (0, .ref (gA g 50)), (1, .int (zi q)), (2, .int (zi tot))]) dX12_crossings_72 (by decide) rfl ?_
        refine z_aload_n (pc := 74) hO 6 dX12_crossings_74 rfl rfl ?_
        refine gf_X12_picked (pc := 75) hO f_X12_31 dX12_crossings_75 ?_
        refine z_iconst (pc := 78) hO dX12_crossings_78 ?_
        refine z_iconst (pc := 79) hO dX12_crossings_79 ?_
        refine z_iast (pc := 80) hO isI_58 (by omega) dX12_crossings_80 (fun m6 e7 => ?_)
        have L81 : ∀ (N : Nat) (w : Int) (u : Int) (s : Int) (r : Int) (y : Me) (pk : Int → Int), mK pk (r + 1).toNat < N → (XI m y (x 51 q) (nd x q) tot w u s r pk) → Zz Γ g 10 0 0 y 81 [(0, .ref (gA g 50)), (1, .int (zi q)), (2, .int (zi tot)), (3, .int (zi 1)), (4, .int (zi (x 51 q))), (5, .int (zi w)), (6, .int (zi u)), (7, .int (zi s)), (8, .int (zi r))] [] := by
          intro N
          induction N with
          | zero => intro w u s r y pk hm; exact absurd hm (Nat.not_lt_zero _)
          | succ N ih81 =>
            intro w u s r y pk hm hI
            have h0 := hI.1
            have hfr := hI.2.2.2.2.2.2
            refine z_iload (pc := 81) hO 8 dX12_crossings_81 rfl ?_
            refine z_if_lt (pc := 83) hO (tgt := 251) dX12_crossings_83 (by decide) (by omega) (fun b8 => ?_) (fun b8 => ?_)
            · refine z_iload (pc := 251) hO 5 dX12_crossings_251 rfl ?_
              exact z_iret (pc := 253) hO hr hQ rfl dX12_crossings_253 (by first | (refine ⟨?_, ⟨by rw [hfr 50 (by omega), hmem, hth, up_s], by rw [hfr 50 (by omega), hmem, hth, up_n _ _ (by omega)], by rw [hfr 51 (by omega), hmem, hth, up_i _ _ _ (by omega)], by rw [hfr 52 (by omega), hmem, hth, up_i _ _ _ (by omega)], fun a ha => by rw [hfr a (by omega), hmem, hth, up_i _ _ _ (by omega)]⟩⟩; rw [crf_cwk (fun p => (hN p).1)]; have h2 := hI.2.1; rw [show (r + 1).toNat = 0 by omega] at h2; have h3 : w + 0 = _ := h2; omega; done) | (exfalso; omega))
            · have hp := hI.2.2.1 r (by omega) (by omega)
              have hMr := hI.2.2.2.2.1 r.toNat (by omega)
              have hM1r := hMr.1.1
              have hM2r := hMr.2
              have hXr := hI.2.2.2.2.2.1 (by omega)
              have y51 : y 51 = x 51 := by rw [hfr 51 (by omega), hmem, hth, up_i _ _ _ (by omega)]
              have y52 : y 52 = x 52 := by rw [hfr 52 (by omega), hmem, hth, up_i _ _ _ (by omega)]
              have hGy := MG_of hG y51 y52
              have hy51 : y 51 q = x 51 q := by rw [y51]
              have hynd : nd y q = nd x q := nd_of y52
              have J129 : ∀ (us : Int) (su : Int), (us = ms pk r.toNat) → (su = tot - Rk (x 51 q) (nd x q) tot pk r.toNat) → Zz Γ g 10 0 0 y 129 [(0, .ref (gA g 50)), (1, .int (zi q)), (2, .int (zi tot)), (3, .int (zi 1)), (4, .int (zi (x 51 q))), (5, .int (zi w)), (6, .int (zi us)), (7, .int (zi su)), (8, .int (zi r))] [] := by
                intro us su h_us h_su
                refine z_aload_n (pc := 129) hO 0 dX12_crossings_129 rfl rfl ?_
                refine gf_X12_picked (pc := 130) hO f_X12_31 dX12_crossings_130 ?_
                refine z_iload (pc := 133) hO 8 dX12_crossings_133 rfl ?_
                refine z_iald (pc := 135) hO isI_58 (by omega) dX12_crossings_135 ?_
                rw [hp.1]
                refine z_iconst (pc := 136) hO dX12_crossings_136 ?_
                refine z_iadd (pc := 137) hO dX12_crossings_137 ?_
                refine z_istore (pc := 138) hO (lv' := [(9, .int (zi ((pk r) + 1))), (0, .ref (gA g 50)), (1, .int (zi q)), (2, .int (zi tot)), (3, .int (zi 1)), (4, .int (zi (x 51 q))), (5, .int (zi w)), (6, .int (zi us)), (7, .int (zi su)), (8, .int (zi r))]) dX12_crossings_138 (by decide) rfl ?_
                have L140 : ∀ (N : Nat) (c : Int), (x 51 q - c).toNat < N → (pk r + 1 ≤ c ∧ c ≤ x 51 q) → (∀ d, pk r < d → d < c → Tk pk r.toNat d = true) → Zz Γ g 10 0 0 y 140 [(0, .ref (gA g 50)), (1, .int (zi q)), (2, .int (zi tot)), (3, .int (zi 1)), (4, .int (zi (x 51 q))), (5, .int (zi w)), (6, .int (zi us)), (7, .int (zi su)), (8, .int (zi r)), (9, .int (zi c))] [] := by
                  intro N
                  induction N with
                  | zero => intro c hm; exact absurd hm (Nat.not_lt_zero _)
                  | succ N ih140 =>
                    intro c hm hc hsk
                    have J164 : (c = x 51 q ∨ (c < x 51 q ∧ Tk pk r.toNat c = false)) → Zz Γ g 10 0 0 y 164 [(0, .ref (gA g 50)), (1, .int (zi q)), (2, .int (zi tot)), (3, .int (zi 1)), (4, .int (zi (x 51 q))), (5, .int (zi w)), (6, .int (zi us)), (7, .int (zi su)), (8, .int (zi r)), (9, .int (zi c))] [] := by
                      intro  hcc
                      refine z_iload (pc := 164) hO 9 dX12_crossings_164 rfl ?_
                      refine z_iload (pc := 166) hO 4 dX12_crossings_166 rfl ?_
                      refine z_icmp_ne (pc := 168) hO (tgt := 177) dX12_crossings_168 (by decide) (by omega) (by omega) (fun b9 => ?_) (fun b9 => ?_)
                      · have htk0 : Tk pk r.toNat c = false := by
                            rcases hcc with h | h
                            · omega
                            · exact h.2
                        have hnr := hN (x 51 q * r + c)
                        refine z_aload_n (pc := 177) hO 0 dX12_crossings_177 rfl rfl ?_
                        refine gf_X12_picked (pc := 178) hO f_X12_31 dX12_crossings_178 ?_
                        refine z_iload (pc := 181) hO 8 dX12_crossings_181 rfl ?_
                        refine z_iload (pc := 183) hO 9 dX12_crossings_183 rfl ?_
                        refine z_iast (pc := 185) hO isI_58 (by omega) dX12_crossings_185 (fun m10 e11 => ?_)
                        have hE1 := e11
                        have hG1 : MG m10 q := MG_of hGy (by rw [e11, up_i _ _ _ (by omega)]) (by rw [e11, up_i _ _ _ (by omega)])
                        have h511 : m10 51 q = x 51 q := by rw [e11, up_i _ _ _ (by omega)]; exact hy51
                        have hnd1 : nd m10 q = nd x q := (nd_of (by rw [e11, up_i _ _ _ (by omega)])).trans hynd
                        refine z_iload (pc := 186) hO 6 dX12_crossings_186 rfl ?_
                        refine z_iconst (pc := 188) hO dX12_crossings_188 ?_
                        refine z_iload (pc := 189) hO 9 dX12_crossings_189 rfl ?_
                        refine z_ishl (pc := 191) hO (zi (p2 c)) dX12_crossings_191 (by exact zn_shl (by omega)) ?_
                        refine z_iadd (pc := 192) hO dX12_crossings_192 ?_
                        refine z_istore (pc := 193) hO (lv' := [(6, .int (zi (us + (p2 c)))), (0, .ref (gA g 50)), (1, .int (zi q)), (2, .int (zi tot)), (3, .int (zi 1)), (4, .int (zi (x 51 q))), (5, .int (zi w)), (7, .int (zi su)), (8, .int (zi r)), (9, .int (zi c))]) dX12_crossings_193 (by decide) rfl ?_
                        refine z_iload (pc := 195) hO 7 dX12_crossings_195 rfl ?_
                        refine z_aload_n (pc := 197) hO 1 dX12_crossings_197 rfl rfl ?_
                        refine z_iload_n (pc := 198) hO 2 dX12_crossings_198 rfl rfl ?_
                        refine z_iload (pc := 199) hO 8 dX12_crossings_199 rfl ?_
                        refine z_iload (pc := 201) hO 9 dX12_crossings_201 rfl ?_
                        refine z_callVIp (pc := 203) hO (As := [.int (zi q), .int (zi r), .int (zi c)]) (st := [.int (zi su)]) (c_X12_numberAt (qL Γ) g m10 q r c (by exact hG1) (by rw [h511]; omega)) k_X12_76 isO_50 rfl (Nat.le_of_ble_eq_true rfl) (by decide) (by decide) ⟨by decide, by decide⟩ dX12_crossings_203 ?_
                        rw [h511, hnd1]
                        refine z_iadd (pc := 206) hO dX12_crossings_206 ?_
                        refine z_istore (pc := 207) hO (lv' := [(7, .int (zi (su + (nd x q (x 51 q * r + c))))), (6, .int (zi (us + (p2 c)))), (0, .ref (gA g 50)), (1, .int (zi q)), (2, .int (zi tot)), (3, .int (zi 1)), (4, .int (zi (x 51 q))), (5, .int (zi w)), (8, .int (zi r)), (9, .int (zi c))]) dX12_crossings_207 (by decide) rfl ?_
                        refine z_iload (pc := 209) hO 8 dX12_crossings_209 rfl ?_
                        refine z_iload (pc := 211) hO 6 dX12_crossings_211 rfl ?_
                        refine z_iconst (pc := 213) hO dX12_crossings_213 ?_
                        refine z_isub (pc := 214) hO dX12_crossings_214 ?_
                        refine z_icmp_ne (pc := 215) hO (tgt := 237) dX12_crossings_215 (by decide) (by omega) (by omega) (fun b12 => ?_) (fun b12 => ?_)
                        · refine z_iinc (pc := 237) hO 8 (lv' := [(8, .int (zi (r + 1))), (7, .int (zi (su + (nd x q (x 51 q * r + c))))), (6, .int (zi (us + (p2 c)))), (0, .ref (gA g 50)), (1, .int (zi q)), (2, .int (zi tot)), (3, .int (zi 1)), (4, .int (zi (x 51 q))), (5, .int (zi w)), (9, .int (zi c))]) dX12_crossings_237 rfl (by decide) rfl ?_
                          refine z_aload_n (pc := 240) hO 3 dX12_crossings_240 rfl rfl ?_
                          refine gf_X12_picked (pc := 241) hO f_X12_31 dX12_crossings_241 ?_
                          refine z_iload (pc := 244) hO 0 dX12_crossings_244 rfl ?_
                          refine z_iconst (pc := 246) hO dX12_crossings_246 ?_
                          refine z_iast (pc := 247) hO isI_58 (by omega) dX12_crossings_247 (fun m13 e14 => ?_)
                          obtain ⟨hM2, hI2⟩ := XI_down (by omega) hN hI (by omega) (by omega) h_us h_su ⟨by omega, by omega⟩ hsk htk0 (show m13 = up (up y 58 r c) 58 (r + 1) (-1) by rw [e14, hE1])
                          obtain ⟨pk2, hpk2⟩ : ∃ p, p = uf (uf pk r c) (r + 1) (-1) := ⟨_, rfl⟩
                          rw [← hpk2] at hM2 hI2
                          refine z_goto (pc := 248) hO (tgt := 81) dX12_crossings_248 (by decide) ?_
                          refine z_sub [3, 4, 5, 6, 7, 8, 2, 1, 0] rfl ?_
                          exact ih81 w (us + (p2 c)) (su + (nd x q (x 51 q * r + c))) (r + 1) m13 pk2 (by omega) (by first | exact hI2 | exact hL1 (by omega) | exact hL2 (by omega))
                        · obtain ⟨hM2, hL1, hL2⟩ := XI_leaf (by omega) hI (by omega) (by omega) h_us h_su ⟨by omega, by omega⟩ hsk htk0 hE1
                          obtain ⟨pk2, hpk2⟩ : ∃ p, p = uf pk r c := ⟨_, rfl⟩
                          rw [← hpk2] at hM2 hL1 hL2
                          refine z_iload (pc := 218) hO 7 dX12_crossings_218 rfl ?_
                          refine z_iload (pc := 220) hO 0 dX12_crossings_220 rfl ?_
                          refine z_iload_n (pc := 222) hO 4 dX12_crossings_222 rfl rfl ?_
                          refine z_icmp_ne (pc := 223) hO (tgt := 230) dX12_crossings_223 (by decide) (by omega) (by omega) (fun b15 => ?_) (fun b15 => ?_)
                          · refine z_iconst (pc := 230) hO dX12_crossings_230 ?_
                            refine z_iadd (pc := 231) hO dX12_crossings_231 ?_
                            refine z_istore (pc := 232) hO (lv' := [(5, .int (zi (w + 0))), (7, .int (zi (su + (nd x q (x 51 q * r + c))))), (6, .int (zi (us + (p2 c)))), (0, .ref (gA g 50)), (1, .int (zi q)), (2, .int (zi tot)), (3, .int (zi 1)), (4, .int (zi (x 51 q))), (8, .int (zi r)), (9, .int (zi c))]) dX12_crossings_232 (by decide) rfl ?_
                            refine z_goto (pc := 234) hO (tgt := 248) dX12_crossings_234 (by decide) ?_
                            refine z_goto (pc := 248) hO (tgt := 81) dX12_crossings_248 (by decide) ?_
                            refine z_sub [3, 4, 5, 6, 7, 0, 2, 1, 8] rfl ?_
                            exact ih81 (w + 0) (us + (p2 c)) (su + (nd x q (x 51 q * r + c))) r m10 pk2 (by omega) (by first | exact hI2 | exact hL1 (by omega) | exact hL2 (by omega))
                          · refine z_iconst (pc := 226) hO dX12_crossings_226 ?_
                            refine z_goto (pc := 227) hO (tgt := 231) dX12_crossings_227 (by decide) ?_
                            refine z_iadd (pc := 231) hO dX12_crossings_231 ?_
                            refine z_istore (pc := 232) hO (lv' := [(5, .int (zi (w + 1))), (7, .int (zi (su + (nd x q (x 51 q * r + c))))), (6, .int (zi (us + (p2 c)))), (0, .ref (gA g 50)), (1, .int (zi q)), (2, .int (zi tot)), (3, .int (zi 1)), (4, .int (zi (x 51 q))), (8, .int (zi r)), (9, .int (zi c))]) dX12_crossings_232 (by decide) rfl ?_
                            refine z_goto (pc := 234) hO (tgt := 248) dX12_crossings_234 (by decide) ?_
                            refine z_goto (pc := 248) hO (tgt := 81) dX12_crossings_248 (by decide) ?_
                            refine z_sub [3, 4, 5, 6, 7, 0, 2, 1, 8] rfl ?_
                            exact ih81 (w + 1) (us + (p2 c)) (su + (nd x q (x 51 q * r + c))) r m10 pk2 (by omega) (by first | exact hI2 | exact hL1 (by omega) | exact hL2 (by omega))
                      · obtain ⟨pk2, hpk2⟩ : ∃ p, p = pk := ⟨_, rfl⟩
                        have hfl := XI_fail (by omega) hI (by omega) h_us h_su (fun d a b => hsk d a (by omega))
                        have hI2 : XI m y (x 51 q) (nd x q) tot w us su (r + (-1)) pk2 := by rw [hpk2]; exact hfl.2
                        have hM2 : mK pk2 (r + (-1) + 1).toNat < mK pk (r + 1).toNat := by rw [hpk2]; exact hfl.1
                        refine z_iinc (pc := 171) hO 8 (lv' := [(8, .int (zi (r + (-1)))), (0, .ref (gA g 50)), (1, .int (zi q)), (2, .int (zi tot)), (3, .int (zi 1)), (4, .int (zi (x 51 q))), (5, .int (zi w)), (6, .int (zi us)), (7, .int (zi su)), (9, .int (zi c))]) dX12_crossings_171 rfl (by decide) rfl ?_
                        refine z_goto (pc := 174) hO (tgt := 248) dX12_crossings_174 (by decide) ?_
                        refine z_goto (pc := 248) hO (tgt := 81) dX12_crossings_248 (by decide) ?_
                        refine z_sub [1, 2, 3, 4, 5, 6, 7, 8, 0] rfl ?_
                        exact ih81 w us su (r + (-1)) y pk2 (by omega) (by first | exact hI2 | exact hL1 (by omega) | exact hL2 (by omega))
                    refine z_iload (pc := 140) hO 9 dX12_crossings_140 rfl ?_
                    refine z_iload (pc := 142) hO 4 dX12_crossings_142 rfl ?_
                    refine z_icmp_ge (pc := 144) hO (tgt := 164) dX12_crossings_144 (by decide) (by omega) (by omega) (fun b16 => ?_) (fun b16 => ?_)
                    · refine z_sub [0, 1, 2, 3, 4, 5, 6, 7, 8, 9] rfl ?_
                      exact J164 (by first | exact Or.inl (by omega) | exact Or.inr ⟨by omega, Bool.eq_false_iff.mpr (fun e => by have := hin.mpr e; unfold inS at this; omega)⟩)
                    · have hsh := shr2_r (a := us) (b := c) (by omega)
                      have hbr := bnd2_r (a := shr2 us c) (b := 1) hsh.1
                      have hin := hMr.1.2 c (by omega) (by omega)
                      rw [← h_us] at hin
                      refine z_iload (pc := 147) hO 6 dX12_crossings_147 rfl ?_
                      refine z_iload (pc := 149) hO 9 dX12_crossings_149 rfl ?_
                      refine z_ishr (pc := 151) hO (zi (shr2 us c)) dX12_crossings_151 (by exact shr2_z (by omega) (by omega)) ?_
                      refine z_iconst (pc := 152) hO dX12_crossings_152 ?_
                      refine z_iand (pc := 153) hO (zi (bnd2 (shr2 us c) 1)) dX12_crossings_153 (by exact bnd2_z (by omega) (by omega)) ?_
                      refine z_iconst (pc := 154) hO dX12_crossings_154 ?_
                      refine z_icmp_ne (pc := 155) hO (tgt := 164) dX12_crossings_155 (by decide) (by omega) (by omega) (fun b17 => ?_) (fun b17 => ?_)
                      · refine z_sub [0, 1, 2, 3, 4, 5, 6, 7, 8, 9] rfl ?_
                        exact J164 (by first | exact Or.inl (by omega) | exact Or.inr ⟨by omega, Bool.eq_false_iff.mpr (fun e => by have := hin.mpr e; unfold inS at this; omega)⟩)
                      · have htk : Tk pk r.toNat c = true := hin.mp (by unfold inS; omega)
                        refine z_iinc (pc := 158) hO 9 (lv' := [(9, .int (zi (c + 1))), (0, .ref (gA g 50)), (1, .int (zi q)), (2, .int (zi tot)), (3, .int (zi 1)), (4, .int (zi (x 51 q))), (5, .int (zi w)), (6, .int (zi us)), (7, .int (zi su)), (8, .int (zi r))]) dX12_crossings_158 rfl (by decide) rfl ?_
                        refine z_goto (pc := 161) hO (tgt := 140) dX12_crossings_161 (by decide) ?_
                        refine z_sub [1, 2, 3, 4, 5, 6, 7, 8, 9, 0] rfl ?_
                        exact ih140 (c + 1) (by omega) (by omega) (by intro d a b; exact dite (d = c) (fun e => by rw [e]; exact htk) (fun e => hsk d a (by omega)))
                refine z_sub [1, 2, 3, 4, 5, 6, 7, 8, 9, 0] rfl ?_
                exact L140 _ ((pk r) + 1) (Nat.lt_succ_self _) (by omega) (by intro d a b; omega)
              refine z_aload_n (pc := 86) hO 0 dX12_crossings_86 rfl rfl ?_
              refine gf_X12_picked (pc := 87) hO f_X12_31 dX12_crossings_87 ?_
              refine z_iload (pc := 90) hO 8 dX12_crossings_90 rfl ?_
              refine z_iald (pc := 92) hO isI_58 (by omega) dX12_crossings_92 ?_
              rw [hp.1]
              refine z_if_lt (pc := 93) hO (tgt := 129) dX12_crossings_93 (by decide) (by omega) (fun b18 => ?_) (fun b18 => ?_)
              · refine z_sub [0, 1, 2, 3, 4, 5, 6, 7, 8] rfl ?_
                exact J129 u s (by rcases hXr with ⟨a, b, c⟩ | ⟨a, b, c⟩ <;> omega) (by rcases hXr with ⟨a, b, c⟩ | ⟨a, b, c⟩ <;> omega)
              · refine z_iload (pc := 96) hO 6 dX12_crossings_96 rfl ?_
                refine z_iconst (pc := 98) hO dX12_crossings_98 ?_
                refine z_aload_n (pc := 99) hO 0 dX12_crossings_99 rfl rfl ?_
                refine gf_X12_picked (pc := 100) hO f_X12_31 dX12_crossings_100 ?_
                refine z_iload (pc := 103) hO 8 dX12_crossings_103 rfl ?_
                refine z_iald (pc := 105) hO isI_58 (by omega) dX12_crossings_105 ?_
                rw [hp.1]
                refine z_ishl (pc := 106) hO (zi (p2 (pk r))) dX12_crossings_106 (by exact zn_shl (by omega)) ?_
                refine z_isub (pc := 107) hO dX12_crossings_107 ?_
                refine z_istore (pc := 108) hO (lv' := [(6, .int (zi (u - (p2 (pk r))))), (0, .ref (gA g 50)), (1, .int (zi q)), (2, .int (zi tot)), (3, .int (zi 1)), (4, .int (zi (x 51 q))), (5, .int (zi w)), (7, .int (zi s)), (8, .int (zi r))]) dX12_crossings_108 (by decide) rfl ?_
                refine z_iload (pc := 110) hO 7 dX12_crossings_110 rfl ?_
                refine z_aload_n (pc := 112) hO 1 dX12_crossings_112 rfl rfl ?_
                refine z_iload_n (pc := 113) hO 2 dX12_crossings_113 rfl rfl ?_
                refine z_iload (pc := 114) hO 8 dX12_crossings_114 rfl ?_
                refine z_aload_n (pc := 116) hO 1 dX12_crossings_116 rfl rfl ?_
                refine gf_X12_picked (pc := 117) hO f_X12_31 dX12_crossings_117 ?_
                refine z_iload (pc := 120) hO 8 dX12_crossings_120 rfl ?_
                refine z_iald (pc := 122) hO isI_58 (by omega) dX12_crossings_122 ?_
                rw [hp.1]
                refine z_callVIp (pc := 123) hO (As := [.int (zi q), .int (zi r), .int (zi (pk r))]) (st := [.int (zi s)]) (c_X12_numberAt (qL Γ) g y q r (pk r) (by exact hGy) (by rw [hy51]; omega)) k_X12_76 isO_50 rfl (Nat.le_of_ble_eq_true rfl) (by decide) (by decide) ⟨by decide, by decide⟩ dX12_crossings_123 ?_
                rw [hy51, hynd]
                refine z_isub (pc := 126) hO dX12_crossings_126 ?_
                refine z_istore (pc := 127) hO (lv' := [(7, .int (zi (s - (nd x q (x 51 q * r + pk r))))), (6, .int (zi (u - (p2 (pk r))))), (0, .ref (gA g 50)), (1, .int (zi q)), (2, .int (zi tot)), (3, .int (zi 1)), (4, .int (zi (x 51 q))), (5, .int (zi w)), (8, .int (zi r))]) dX12_crossings_127 (by decide) rfl ?_
                refine z_sub [2, 3, 4, 5, 6, 7, 1, 0, 8] rfl ?_
                exact J129 (u - (p2 (pk r))) (s - (nd x q (x 51 q * r + pk r))) (by rcases hXr with ⟨a, b, c⟩ | ⟨a, b, c⟩ <;> omega) (by rcases hXr with ⟨a, b, c⟩ | ⟨a, b, c⟩ <;> omega)
        refine z_sub [6, 7, 8, 5, 4, 3, 2, 1, 0] rfl ?_
        exact L81 _ 0 0 0 0 m6 (fun _ => -1) (Nat.lt_succ_self _) (by rw [hmem]; exact XI_0 (by omega) (by assumption))
      · refine z_iconst (pc := 41) hO dX12_crossings_41 ?_
        refine z_goto (pc := 42) hO (tgt := 46) dX12_crossings_42 (by decide) ?_
        refine z_callVIm (pc := 46) hO (As := [.int (zi 3)]) (st := []) (c_X12_isFine1 (qL Γ) g x 3 (by first | assumption | omega)) k_X12_63 isO_50 rfl (Nat.le_of_ble_eq_true rfl) (by decide) (by decide) ⟨by decide, by decide⟩ dX12_crossings_46 (fun m19 e20 => ?_)
        refine z_if_ne (pc := 49) hO (tgt := 54) dX12_crossings_49 (by decide) (by decide) (fun h => absurd h (by decide)) (fun _ => ?_)
        refine z_iconst (pc := 52) hO dX12_crossings_52 ?_
        exact z_iret (pc := 53) hO hr hQ rfl dX12_crossings_53 (by first | (refine ⟨?_, ⟨by rw [hfr 50 (by omega), hmem, hth, up_s], by rw [hfr 50 (by omega), hmem, hth, up_n _ _ (by omega)], by rw [hfr 51 (by omega), hmem, hth, up_i _ _ _ (by omega)], by rw [hfr 52 (by omega), hmem, hth, up_i _ _ _ (by omega)], fun a ha => by rw [hfr a (by omega), hmem, hth, up_i _ _ _ (by omega)]⟩⟩; rw [crf_cwk (fun p => (hN p).1)]; have h2 := hI.2.1; rw [show (r + 1).toNat = 0 by omega] at h2; have h3 : w + 0 = _ := h2; omega; done) | (exfalso; omega))
    · skip
      exfalso; omega
  · skip
    exfalso; omega

