set_option maxHeartbeats 4000000 in
theorem e_X12_put (l : Launch) (g : Gl) (x : Me) (q : Int) (r : Int) (c : Int) (v : Int)  (hM : MS x) (r_q : -2147483648 ≤ q ∧ q < 2147483648) (r_r : -2147483648 ≤ r ∧ r < 2147483648) (r_c : -2147483648 ≤ c ∧ c < 2147483648) (r_v : -2147483648 ≤ v ∧ v < 2147483648) (hno : ¬ ((((0 ≤ q ∧ q < x 50 1) ∧ (0 ≤ r ∧ r < x 51 q) ∧ 0 ≤ c ∧ c < x 51 q)) ∧ (0 ≤ v ∧ v ≤ 999))) : ctQ l g yX12_put cX12_put 7 (some .int) 4 86 [.ref (gA g 50), .int (zi q), .int (zi r), .int (zi c), .int (zi v)] x (QIu g (fun z x' => z = 0 ∧ x' = up x 50 0 (exn (((0 ≤ q ∧ q < x 50 1) ∧ (0 ≤ r ∧ r < x 51 q) ∧ 0 ≤ c ∧ c < x 51 q)) (0 ≤ v ∧ v ≤ 999) 1 2 0))) := by
  refine ct_start (own := RX12) (lv := [(0, .ref (gA g 50)), (1, .int (zi q)), (2, .int (zi r)), (3, .int (zi c)), (4, .int (zi v))]) (plainFor_of_name (by decide)) rfl (Nat.le_of_ble_eq_true rfl) rfl ?_
  intro Γ hΓ hO hr hQ _
  have hM1 := hM.1
  refine z_aload_n (pc := 0) hO 0 dX12_put_0 rfl rfl ?_
  refine z_aload_n (pc := 1) hO 0 dX12_put_1 rfl rfl ?_
  refine z_iload_n (pc := 2) hO 1 dX12_put_2 rfl rfl ?_
  refine z_iload_n (pc := 3) hO 2 dX12_put_3 rfl rfl ?_
  refine z_iload_n (pc := 4) hO 3 dX12_put_4 rfl rfl ?_
  refine z_callVB (pc := 5) hO (As := [.int (zi q), .int (zi r), .int (zi c)]) (st := [.ref (gA g 50)]) (c_X12_isPoint (qL Γ) g x q r c (by first | assumption | omega) (by first | assumption | omega) (by first | assumption | omega) (by first | assumption | omega)) k_X12_73 isO_50 rfl (Nat.le_of_ble_eq_true rfl) (by decide) (by decide) ⟨by decide, by decide⟩ dX12_put_5 (fun pb1 => ?_) (fun pb1 => ?_)
  · skip
    refine z_if_ne (pc := 8) hO (tgt := 15) dX12_put_8 (by decide) (by decide) (fun _ => ?_) (fun h => absurd h (by decide))
    refine z_iload (pc := 15) hO 4 dX12_put_15 rfl ?_
    refine z_iconst (pc := 17) hO dX12_put_17 ?_
    refine z_sipush (pc := 18) hO dX12_put_18 (by decide) ?_
    refine z_callSB (pc := 21) hO (As := [.int (zi v), .int (zi 0), .int (zi 999)]) (st := [.ref (gA g 50)]) (c_X12_in (qL Γ) g x v 0 999 (by first | assumption | omega) (by first | assumption | omega) (by first | assumption | omega)) k_X12_55 rfl (Nat.le_of_ble_eq_true rfl) (by decide) (by decide) ⟨by decide, by decide⟩ dX12_put_21 (fun pb2 => ?_) (fun pb2 => ?_)
    · skip
      refine z_if_ne (pc := 24) hO (tgt := 31) dX12_put_24 (by decide) (by decide) (fun _ => ?_) (fun h => absurd h (by decide))
      refine z_iconst (pc := 31) hO dX12_put_31 ?_
      refine z_callVIm (pc := 32) hO (As := [.int (zi 0)]) (st := []) (c_X12_isFine0 (qL Γ) g x 0 (by first | assumption | omega)) k_X12_63 isO_50 rfl (Nat.le_of_ble_eq_true rfl) (by decide) (by decide) ⟨by decide, by decide⟩ dX12_put_32 (fun m3 e4 => ?_)
      refine z_if_ne (pc := 35) hO (tgt := 40) dX12_put_35 (by decide) (by decide) (fun _ => ?_) (fun h => absurd h (by decide))
      exfalso; omega
    · skip
      refine z_if_ne (pc := 24) hO (tgt := 31) dX12_put_24 (by decide) (by decide) (fun h => absurd h (by decide)) (fun _ => ?_)
      refine z_iconst (pc := 27) hO dX12_put_27 ?_
      refine z_goto (pc := 28) hO (tgt := 32) dX12_put_28 (by decide) ?_
      refine z_callVIm (pc := 32) hO (As := [.int (zi 2)]) (st := []) (c_X12_isFine1 (qL Γ) g x 2 (by first | assumption | omega)) k_X12_63 isO_50 rfl (Nat.le_of_ble_eq_true rfl) (by decide) (by decide) ⟨by decide, by decide⟩ dX12_put_32 (fun m5 e6 => ?_)
      refine z_if_ne (pc := 35) hO (tgt := 40) dX12_put_35 (by decide) (by decide) (fun h => absurd h (by decide)) (fun _ => ?_)
      refine z_iconst (pc := 38) hO dX12_put_38 ?_
      exact z_iret (pc := 39) hO hr hQ rfl dX12_put_39 (by first | (refine ⟨rfl, ?_⟩; first | (rw [exn_1 (by omega)]; assumption) | (rw [exn_2 (by first | trivial | omega) (by omega)]; assumption) | (rw [exn_3 (by first | trivial | omega) (by first | trivial | omega)]; assumption); done) | (exfalso; omega))
  · skip
    refine z_if_ne (pc := 8) hO (tgt := 15) dX12_put_8 (by decide) (by decide) (fun h => absurd h (by decide)) (fun _ => ?_)
    refine z_iconst (pc := 11) hO dX12_put_11 ?_
    refine z_goto (pc := 12) hO (tgt := 32) dX12_put_12 (by decide) ?_
    refine z_callVIm (pc := 32) hO (As := [.int (zi 1)]) (st := []) (c_X12_isFine1 (qL Γ) g x 1 (by first | assumption | omega)) k_X12_63 isO_50 rfl (Nat.le_of_ble_eq_true rfl) (by decide) (by decide) ⟨by decide, by decide⟩ dX12_put_32 (fun m7 e8 => ?_)
    refine z_if_ne (pc := 35) hO (tgt := 40) dX12_put_35 (by decide) (by decide) (fun h => absurd h (by decide)) (fun _ => ?_)
    refine z_iconst (pc := 38) hO dX12_put_38 ?_
    exact z_iret (pc := 39) hO hr hQ rfl dX12_put_39 (by first | (refine ⟨rfl, ?_⟩; first | (rw [exn_1 (by omega)]; assumption) | (rw [exn_2 (by first | trivial | omega) (by omega)]; assumption) | (rw [exn_3 (by first | trivial | omega) (by first | trivial | omega)]; assumption); done) | (exfalso; omega))

set_option maxHeartbeats 4000000 in
theorem c_X12_put (l : Launch) (g : Gl) (x : Me) (q : Int) (r : Int) (c : Int) (v : Int)  (hM : MS x) (r_q : -2147483648 ≤ q ∧ q < 2147483648) (r_r : -2147483648 ≤ r ∧ r < 2147483648) (r_c : -2147483648 ≤ c ∧ c < 2147483648) (r_v : -2147483648 ≤ v ∧ v < 2147483648) (hok : (((0 ≤ q ∧ q < x 50 1) ∧ (0 ≤ r ∧ r < x 51 q) ∧ 0 ≤ c ∧ c < x 51 q)) ∧ (0 ≤ v ∧ v ≤ 999)) : ctQ l g yX12_put cX12_put 7 (some .int) 4 86 [.ref (gA g 50), .int (zi q), .int (zi r), .int (zi c), .int (zi v)] x (QIu g (fun z x' => z = (nd x q (x 51 q * r + c)) ∧ x' = up (up x 50 0 0) 52 (81 * q + x 51 q * r + c) v)) := by
  refine ct_start (own := RX12) (lv := [(0, .ref (gA g 50)), (1, .int (zi q)), (2, .int (zi r)), (3, .int (zi c)), (4, .int (zi v))]) (plainFor_of_name (by decide)) rfl (Nat.le_of_ble_eq_true rfl) rfl ?_
  intro Γ hΓ hO hr hQ _
  have hM1 := hM.1
  refine z_aload_n (pc := 0) hO 0 dX12_put_0 rfl rfl ?_
  refine z_aload_n (pc := 1) hO 0 dX12_put_1 rfl rfl ?_
  refine z_iload_n (pc := 2) hO 1 dX12_put_2 rfl rfl ?_
  refine z_iload_n (pc := 3) hO 2 dX12_put_3 rfl rfl ?_
  refine z_iload_n (pc := 4) hO 3 dX12_put_4 rfl rfl ?_
  refine z_callVB (pc := 5) hO (As := [.int (zi q), .int (zi r), .int (zi c)]) (st := [.ref (gA g 50)]) (c_X12_isPoint (qL Γ) g x q r c (by first | assumption | omega) (by first | assumption | omega) (by first | assumption | omega) (by first | assumption | omega)) k_X12_73 isO_50 rfl (Nat.le_of_ble_eq_true rfl) (by decide) (by decide) ⟨by decide, by decide⟩ dX12_put_5 (fun pb1 => ?_) (fun pb1 => ?_)
  · skip
    refine z_if_ne (pc := 8) hO (tgt := 15) dX12_put_8 (by decide) (by decide) (fun _ => ?_) (fun h => absurd h (by decide))
    refine z_iload (pc := 15) hO 4 dX12_put_15 rfl ?_
    refine z_iconst (pc := 17) hO dX12_put_17 ?_
    refine z_sipush (pc := 18) hO dX12_put_18 (by decide) ?_
    refine z_callSB (pc := 21) hO (As := [.int (zi v), .int (zi 0), .int (zi 999)]) (st := [.ref (gA g 50)]) (c_X12_in (qL Γ) g x v 0 999 (by first | assumption | omega) (by first | assumption | omega) (by first | assumption | omega)) k_X12_55 rfl (Nat.le_of_ble_eq_true rfl) (by decide) (by decide) ⟨by decide, by decide⟩ dX12_put_21 (fun pb2 => ?_) (fun pb2 => ?_)
    · skip
      refine z_if_ne (pc := 24) hO (tgt := 31) dX12_put_24 (by decide) (by decide) (fun _ => ?_) (fun h => absurd h (by decide))
      refine z_iconst (pc := 31) hO dX12_put_31 ?_
      refine z_callVIm (pc := 32) hO (As := [.int (zi 0)]) (st := []) (c_X12_isFine0 (qL Γ) g x 0 (by first | assumption | omega)) k_X12_63 isO_50 rfl (Nat.le_of_ble_eq_true rfl) (by decide) (by decide) ⟨by decide, by decide⟩ dX12_put_32 (fun m3 e4 => ?_)
      refine z_if_ne (pc := 35) hO (tgt := 40) dX12_put_35 (by decide) (by decide) (fun _ => ?_) (fun h => absurd h (by decide))
      have hG := hM.2 q (by omega) (by omega)
      obtain ⟨hq, hs, hf⟩ := id hG
      have hsq := sq9 hs
      have hpl := pl9 (r := r) (c := c) hs (by omega) (by omega)
      have hth : m3 = up x 50 0 0 := by assumption
      have e51 : m3 51 q = x 51 q := by rw [hth, up_i _ _ _ (by omega)]
      have e52 : m3 52 = x 52 := by rw [hth, up_i _ _ _ (by omega)]
      have hsm := sq9 (n := m3 51 q) (by omega)
      have hpm := pl9 (n := m3 51 q) (r := r) (c := c) (by omega) (by omega) (by omega)
      refine z_bipush (pc := 40) hO dX12_put_40 (by decide) ?_
      refine z_iload_n (pc := 42) hO 1 dX12_put_42 rfl rfl ?_
      refine z_imul (pc := 43) hO dX12_put_43 ?_
      refine z_aload_n (pc := 44) hO 0 dX12_put_44 rfl rfl ?_
      refine gf_X12_sideOf (pc := 45) hO f_X12_7 dX12_put_45 ?_
      refine z_iload_n (pc := 48) hO 1 dX12_put_48 rfl rfl ?_
      refine z_iald (pc := 49) hO isI_51 (by omega) dX12_put_49 ?_
      refine z_iload_n (pc := 50) hO 2 dX12_put_50 rfl rfl ?_
      refine z_imul (pc := 51) hO dX12_put_51 ?_
      refine z_iadd (pc := 52) hO dX12_put_52 ?_
      refine z_iload_n (pc := 53) hO 3 dX12_put_53 rfl rfl ?_
      refine z_iadd (pc := 54) hO dX12_put_54 ?_
      refine z_istore (pc := 55) hO (lv' := [(5, .int (zi (((81 * q) + ((m3 51 q) * r)) + c))), (0, .ref (gA g 50)), (1, .int (zi q)), (2, .int (zi r)), (3, .int (zi c)), (4, .int (zi v))]) dX12_put_55 (by decide) rfl ?_
      refine z_aload_n (pc := 57) hO 1 dX12_put_57 rfl rfl ?_
      refine gf_X12_numbers (pc := 58) hO f_X12_13 dX12_put_58 ?_
      refine z_iload (pc := 61) hO 0 dX12_put_61 rfl ?_
      refine z_iald (pc := 63) hO isI_52 (by omega) dX12_put_63 ?_
      refine z_istore (pc := 64) hO (lv' := [(6, .int (zi (m3 52 (((81 * q) + ((m3 51 q) * r)) + c)))), (5, .int (zi (((81 * q) + ((m3 51 q) * r)) + c))), (0, .ref (gA g 50)), (1, .int (zi q)), (2, .int (zi r)), (3, .int (zi c)), (4, .int (zi v))]) dX12_put_64 (by decide) rfl ?_
      refine z_aload_n (pc := 66) hO 2 dX12_put_66 rfl rfl ?_
      refine gf_X12_numbers (pc := 67) hO f_X12_13 dX12_put_67 ?_
      refine z_iload (pc := 70) hO 1 dX12_put_70 rfl ?_
      refine z_iload (pc := 72) hO 6 dX12_put_72 rfl ?_
      refine z_iast (pc := 74) hO isI_52 (by omega) dX12_put_74 (fun m5 e6 => ?_)
      have hst := e6
      refine z_iload (pc := 75) hO 0 dX12_put_75 rfl ?_
      exact z_iret (pc := 77) hO hr hQ rfl dX12_put_77 (by first | (refine ⟨?_, ?_⟩; (rw [e51, e52, nd_in (by omega)]; congr 1; omega); (rw [hst, e51, hth]); done) | (exfalso; omega))
    · skip
      exfalso; omega
  · skip
    exfalso; omega

set_option maxHeartbeats 4000000 in
theorem c_X12_sumOf (l : Launch) (g : Gl) (x : Me) (q : Int) (kind : Int) (line : Int)  (hG : MG x q) (hk : 0 ≤ kind ∧ kind ≤ 3) (hl : 0 ≤ line ∧ line < x 51 q) : ctQ l g yX12_sumOf cX12_sumOf 9 (some .int) 2 43 [.ref (gA g 50), .int (zi q), .int (zi kind), .int (zi line)] x (QIu g (fun z x' => z = (lsum (x 51 q) (nd x q) kind line) ∧ x' = x)) := by
  refine ct_start (own := RX12) (lv := [(0, .ref (gA g 50)), (1, .int (zi q)), (2, .int (zi kind)), (3, .int (zi line))]) (plainFor_of_name (by decide)) rfl (Nat.le_of_ble_eq_true rfl) rfl ?_
  intro Γ hΓ hO hr hQ _
  obtain ⟨hq, hs, hf⟩ := id hG
  have hsq := sq9 hs
  refine z_aload_n (pc := 0) hO 0 dX12_sumOf_0 rfl rfl ?_
  refine gf_X12_sideOf (pc := 1) hO f_X12_7 dX12_sumOf_1 ?_
  refine z_iload_n (pc := 4) hO 1 dX12_sumOf_4 rfl rfl ?_
  refine z_iald (pc := 5) hO isI_51 (by omega) dX12_sumOf_5 ?_
  refine z_istore (pc := 6) hO (lv' := [(4, .int (zi (x 51 q))), (0, .ref (gA g 50)), (1, .int (zi q)), (2, .int (zi kind)), (3, .int (zi line))]) dX12_sumOf_6 (by decide) rfl ?_
  refine z_iconst (pc := 8) hO dX12_sumOf_8 ?_
  refine z_istore (pc := 9) hO (lv' := [(5, .int (zi 0)), (4, .int (zi (x 51 q))), (0, .ref (gA g 50)), (1, .int (zi q)), (2, .int (zi kind)), (3, .int (zi line))]) dX12_sumOf_9 (by decide) rfl ?_
  refine z_iconst (pc := 11) hO dX12_sumOf_11 ?_
  refine z_istore (pc := 12) hO (lv' := [(6, .int (zi 0)), (5, .int (zi 0)), (4, .int (zi (x 51 q))), (0, .ref (gA g 50)), (1, .int (zi q)), (2, .int (zi kind)), (3, .int (zi line))]) dX12_sumOf_12 (by decide) rfl ?_
  have L14 : ∀ (N : Nat) (w : Int) (i : Int), (x 51 q - i).toNat < N → (0 ≤ i ∧ i ≤ x 51 q) → (w = sm (fun j => nd x q (onl (x 51 q) kind line j)) i.toNat) → Zz Γ g 9 0 0 x 14 [(0, .ref (gA g 50)), (1, .int (zi q)), (2, .int (zi kind)), (3, .int (zi line)), (4, .int (zi (x 51 q))), (5, .int (zi w)), (6, .int (zi i))] [] := by
    intro N
    induction N with
    | zero => intro w i hm; exact absurd hm (Nat.not_lt_zero _)
    | succ N ih14 =>
      intro w i hm h0 hA
      have hm1 := Int.emod_nonneg (line + i) (show x 51 q ≠ 0 by omega)
      have hm2 := Int.emod_lt_of_pos (line + i) (show 0 < x 51 q by omega)
      have hm3 := Int.emod_nonneg (line - i + x 51 q) (show x 51 q ≠ 0 by omega)
      have hm4 := Int.emod_lt_of_pos (line - i + x 51 q) (show 0 < x 51 q by omega)
      refine z_iload (pc := 14) hO 6 dX12_sumOf_14 rfl ?_
      refine z_iload (pc := 16) hO 4 dX12_sumOf_16 rfl ?_
      refine z_icmp_ge (pc := 18) hO (tgt := 98) dX12_sumOf_18 (by decide) (by omega) (by omega) (fun b1 => ?_) (fun b1 => ?_)
      · refine z_iload (pc := 98) hO 5 dX12_sumOf_98 rfl ?_
        exact z_iret (pc := 100) hO hr hQ rfl dX12_sumOf_100 ⟨by first | (rw [hA, show i.toNat = (x 51 q).toNat by omega]; rfl; done) | (exfalso; omega), rfl⟩
      · refine z_iload_n (pc := 21) hO 2 dX12_sumOf_21 rfl rfl ?_
        refine z_if_ne (pc := 22) hO (tgt := 29) dX12_sumOf_22 (by decide) (by omega) (fun b2 => ?_) (fun b2 => ?_)
        · refine z_iload (pc := 29) hO 6 dX12_sumOf_29 rfl ?_
          refine z_istore (pc := 31) hO (lv' := [(7, .int (zi i)), (0, .ref (gA g 50)), (1, .int (zi q)), (2, .int (zi kind)), (3, .int (zi line)), (4, .int (zi (x 51 q))), (5, .int (zi w)), (6, .int (zi i))]) dX12_sumOf_31 (by decide) rfl ?_
          refine z_iload_n (pc := 33) hO 3 dX12_sumOf_33 rfl rfl ?_
          refine z_if_ne (pc := 34) hO (tgt := 42) dX12_sumOf_34 (by decide) (by omega) (fun b3 => ?_) (fun b3 => ?_)
          · refine z_iload_n (pc := 42) hO 3 dX12_sumOf_42 rfl rfl ?_
            refine z_iconst (pc := 43) hO dX12_sumOf_43 ?_
            refine z_icmp_ne (pc := 44) hO (tgt := 51) dX12_sumOf_44 (by decide) (by omega) (by omega) (fun b4 => ?_) (fun b4 => ?_)
            · refine z_iload_n (pc := 51) hO 3 dX12_sumOf_51 rfl rfl ?_
              refine z_iconst (pc := 52) hO dX12_sumOf_52 ?_
              refine z_icmp_ne (pc := 53) hO (tgt := 66) dX12_sumOf_53 (by decide) (by omega) (by omega) (fun b5 => ?_) (fun b5 => ?_)
              · refine z_iload_n (pc := 66) hO 4 dX12_sumOf_66 rfl rfl ?_
                refine z_iload (pc := 67) hO 7 dX12_sumOf_67 rfl ?_
                refine z_isub (pc := 69) hO dX12_sumOf_69 ?_
                refine z_iload (pc := 70) hO 5 dX12_sumOf_70 rfl ?_
                refine z_iadd (pc := 72) hO dX12_sumOf_72 ?_
                refine z_iload (pc := 73) hO 5 dX12_sumOf_73 rfl ?_
                refine z_irem (pc := 75) hO dX12_sumOf_75 (by omega) (by omega) ?_
                refine z_istore (pc := 76) hO (lv' := [(8, .int (zi (((line - i) + (x 51 q)) % (x 51 q)))), (7, .int (zi i)), (0, .ref (gA g 50)), (1, .int (zi q)), (2, .int (zi kind)), (3, .int (zi line)), (4, .int (zi (x 51 q))), (5, .int (zi w)), (6, .int (zi i))]) dX12_sumOf_76 (by decide) rfl ?_
                refine z_iload (pc := 78) hO 7 dX12_sumOf_78 rfl ?_
                refine z_aload_n (pc := 80) hO 2 dX12_sumOf_80 rfl rfl ?_
                refine z_iload_n (pc := 81) hO 3 dX12_sumOf_81 rfl rfl ?_
                refine z_iload (pc := 82) hO 1 dX12_sumOf_82 rfl ?_
                refine z_iload (pc := 84) hO 0 dX12_sumOf_84 rfl ?_
                refine z_callVIp (pc := 86) hO (As := [.int (zi q), .int (zi i), .int (zi (((line - i) + (x 51 q)) % (x 51 q)))]) (st := [.int (zi w)]) (c_X12_numberAt (qL Γ) g x q i (((line - i) + (x 51 q)) % (x 51 q)) (by first | assumption | omega) (by first | assumption | omega)) k_X12_76 isO_50 rfl (Nat.le_of_ble_eq_true rfl) (by decide) (by decide) ⟨by decide, by decide⟩ dX12_sumOf_86 ?_
                refine z_iadd (pc := 89) hO dX12_sumOf_89 ?_
                refine z_istore (pc := 90) hO (lv' := [(5, .int (zi (w + (nd x q (x 51 q * i + (((line - i) + (x 51 q)) % (x 51 q))))))), (8, .int (zi (((line - i) + (x 51 q)) % (x 51 q)))), (7, .int (zi i)), (0, .ref (gA g 50)), (1, .int (zi q)), (2, .int (zi kind)), (3, .int (zi line)), (4, .int (zi (x 51 q))), (6, .int (zi i))]) dX12_sumOf_90 (by decide) rfl ?_
                refine z_iinc (pc := 92) hO 8 (lv' := [(6, .int (zi (i + 1))), (5, .int (zi (w + (nd x q (x 51 q * i + (((line - i) + (x 51 q)) % (x 51 q))))))), (8, .int (zi (((line - i) + (x 51 q)) % (x 51 q)))), (7, .int (zi i)), (0, .ref (gA g 50)), (1, .int (zi q)), (2, .int (zi kind)), (3, .int (zi line)), (4, .int (zi (x 51 q)))]) dX12_sumOf_92 rfl (by decide) rfl ?_
                refine z_goto (pc := 95) hO (tgt := 14) dX12_sumOf_95 (by decide) ?_
                refine z_sub [4, 5, 6, 7, 8, 1, 0] rfl ?_
                exact ih14 (w + (nd x q (x 51 q * i + (((line - i) + (x 51 q)) % (x 51 q))))) (i + 1) (by omega) (by omega) (by rw [sm_s _ h0.1, ← hA]; unfold onl; first | (exfalso; omega) | (rw [if_pos (by omega)]; done) | (rw [if_neg (by omega), if_pos (by omega)]; done) | (rw [if_neg (by omega), if_neg (by omega), if_pos (by omega)]; done) | (rw [if_neg (by omega), if_neg (by omega), if_neg (by omega)]; done))
              · refine z_iload_n (pc := 56) hO 4 dX12_sumOf_56 rfl rfl ?_
                refine z_iload (pc := 57) hO 7 dX12_sumOf_57 rfl ?_
                refine z_iadd (pc := 59) hO dX12_sumOf_59 ?_
                refine z_iload (pc := 60) hO 5 dX12_sumOf_60 rfl ?_
                refine z_irem (pc := 62) hO dX12_sumOf_62 (by omega) (by omega) ?_
                refine z_goto (pc := 63) hO (tgt := 76) dX12_sumOf_63 (by decide) ?_
                refine z_istore (pc := 76) hO (lv' := [(8, .int (zi ((line + i) % (x 51 q)))), (7, .int (zi i)), (0, .ref (gA g 50)), (1, .int (zi q)), (2, .int (zi kind)), (3, .int (zi line)), (4, .int (zi (x 51 q))), (5, .int (zi w)), (6, .int (zi i))]) dX12_sumOf_76 (by decide) rfl ?_
                refine z_iload (pc := 78) hO 7 dX12_sumOf_78 rfl ?_
                refine z_aload_n (pc := 80) hO 2 dX12_sumOf_80 rfl rfl ?_
                refine z_iload_n (pc := 81) hO 3 dX12_sumOf_81 rfl rfl ?_
                refine z_iload (pc := 82) hO 1 dX12_sumOf_82 rfl ?_
                refine z_iload (pc := 84) hO 0 dX12_sumOf_84 rfl ?_
                refine z_callVIp (pc := 86) hO (As := [.int (zi q), .int (zi i), .int (zi ((line + i) % (x 51 q)))]) (st := [.int (zi w)]) (c_X12_numberAt (qL Γ) g x q i ((line + i) % (x 51 q)) (by first | assumption | omega) (by first | assumption | omega)) k_X12_76 isO_50 rfl (Nat.le_of_ble_eq_true rfl) (by decide) (by decide) ⟨by decide, by decide⟩ dX12_sumOf_86 ?_
                refine z_iadd (pc := 89) hO dX12_sumOf_89 ?_
                refine z_istore (pc := 90) hO (lv' := [(5, .int (zi (w + (nd x q (x 51 q * i + ((line + i) % (x 51 q))))))), (8, .int (zi ((line + i) % (x 51 q)))), (7, .int (zi i)), (0, .ref (gA g 50)), (1, .int (zi q)), (2, .int (zi kind)), (3, .int (zi line)), (4, .int (zi (x 51 q))), (6, .int (zi i))]) dX12_sumOf_90 (by decide) rfl ?_
                refine z_iinc (pc := 92) hO 8 (lv' := [(6, .int (zi (i + 1))), (5, .int (zi (w + (nd x q (x 51 q * i + ((line + i) % (x 51 q))))))), (8, .int (zi ((line + i) % (x 51 q)))), (7, .int (zi i)), (0, .ref (gA g 50)), (1, .int (zi q)), (2, .int (zi kind)), (3, .int (zi line)), (4, .int (zi (x 51 q)))]) dX12_sumOf_92 rfl (by decide) rfl ?_
                refine z_goto (pc := 95) hO (tgt := 14) dX12_sumOf_95 (by decide) ?_
                refine z_sub [4, 5, 6, 7, 8, 1, 0] rfl ?_
                exact ih14 (w + (nd x q (x 51 q * i + ((line + i) % (x 51 q))))) (i + 1) (by omega) (by omega) (by rw [sm_s _ h0.1, ← hA]; unfold onl; first | (exfalso; omega) | (rw [if_pos (by omega)]; done) | (rw [if_neg (by omega), if_pos (by omega)]; done) | (rw [if_neg (by omega), if_neg (by omega), if_pos (by omega)]; done) | (rw [if_neg (by omega), if_neg (by omega), if_neg (by omega)]; done))
            · refine z_iload_n (pc := 47) hO 4 dX12_sumOf_47 rfl rfl ?_
              refine z_goto (pc := 48) hO (tgt := 76) dX12_sumOf_48 (by decide) ?_
              refine z_istore (pc := 76) hO (lv' := [(8, .int (zi line)), (7, .int (zi i)), (0, .ref (gA g 50)), (1, .int (zi q)), (2, .int (zi kind)), (3, .int (zi line)), (4, .int (zi (x 51 q))), (5, .int (zi w)), (6, .int (zi i))]) dX12_sumOf_76 (by decide) rfl ?_
              refine z_iload (pc := 78) hO 7 dX12_sumOf_78 rfl ?_
              refine z_aload_n (pc := 80) hO 2 dX12_sumOf_80 rfl rfl ?_
              refine z_iload_n (pc := 81) hO 3 dX12_sumOf_81 rfl rfl ?_
              refine z_iload (pc := 82) hO 1 dX12_sumOf_82 rfl ?_
              refine z_iload (pc := 84) hO 0 dX12_sumOf_84 rfl ?_
              refine z_callVIp (pc := 86) hO (As := [.int (zi q), .int (zi i), .int (zi line)]) (st := [.int (zi w)]) (c_X12_numberAt (qL Γ) g x q i line (by first | assumption | omega) (by first | assumption | omega)) k_X12_76 isO_50 rfl (Nat.le_of_ble_eq_true rfl) (by decide) (by decide) ⟨by decide, by decide⟩ dX12_sumOf_86 ?_
              refine z_iadd (pc := 89) hO dX12_sumOf_89 ?_
              refine z_istore (pc := 90) hO (lv' := [(5, .int (zi (w + (nd x q (x 51 q * i + line))))), (8, .int (zi line)), (7, .int (zi i)), (0, .ref (gA g 50)), (1, .int (zi q)), (2, .int (zi kind)), (3, .int (zi line)), (4, .int (zi (x 51 q))), (6, .int (zi i))]) dX12_sumOf_90 (by decide) rfl ?_
              refine z_iinc (pc := 92) hO 8 (lv' := [(6, .int (zi (i + 1))), (5, .int (zi (w + (nd x q (x 51 q * i + line))))), (8, .int (zi line)), (7, .int (zi i)), (0, .ref (gA g 50)), (1, .int (zi q)), (2, .int (zi kind)), (3, .int (zi line)), (4, .int (zi (x 51 q)))]) dX12_sumOf_92 rfl (by decide) rfl ?_
              refine z_goto (pc := 95) hO (tgt := 14) dX12_sumOf_95 (by decide) ?_
              refine z_sub [4, 5, 6, 7, 8, 1, 0] rfl ?_
              exact ih14 (w + (nd x q (x 51 q * i + line))) (i + 1) (by omega) (by omega) (by rw [sm_s _ h0.1, ← hA]; unfold onl; first | (exfalso; omega) | (rw [if_pos (by omega)]; done) | (rw [if_neg (by omega), if_pos (by omega)]; done) | (rw [if_neg (by omega), if_neg (by omega), if_pos (by omega)]; done) | (rw [if_neg (by omega), if_neg (by omega), if_neg (by omega)]; done))
          · refine z_iload (pc := 37) hO 7 dX12_sumOf_37 rfl ?_
            refine z_goto (pc := 39) hO (tgt := 76) dX12_sumOf_39 (by decide) ?_
            refine z_istore (pc := 76) hO (lv' := [(8, .int (zi i)), (7, .int (zi i)), (0, .ref (gA g 50)), (1, .int (zi q)), (2, .int (zi kind)), (3, .int (zi line)), (4, .int (zi (x 51 q))), (5, .int (zi w)), (6, .int (zi i))]) dX12_sumOf_76 (by decide) rfl ?_
            refine z_iload (pc := 78) hO 7 dX12_sumOf_78 rfl ?_
            refine z_aload_n (pc := 80) hO 2 dX12_sumOf_80 rfl rfl ?_
            refine z_iload_n (pc := 81) hO 3 dX12_sumOf_81 rfl rfl ?_
            refine z_iload (pc := 82) hO 1 dX12_sumOf_82 rfl ?_
            refine z_iload (pc := 84) hO 0 dX12_sumOf_84 rfl ?_
            refine z_callVIp (pc := 86) hO (As := [.int (zi q), .int (zi i), .int (zi i)]) (st := [.int (zi w)]) (c_X12_numberAt (qL Γ) g x q i i (by first | assumption | omega) (by first | assumption | omega)) k_X12_76 isO_50 rfl (Nat.le_of_ble_eq_true rfl) (by decide) (by decide) ⟨by decide, by decide⟩ dX12_sumOf_86 ?_
            refine z_iadd (pc := 89) hO dX12_sumOf_89 ?_
            refine z_istore (pc := 90) hO (lv' := [(5, .int (zi (w + (nd x q (x 51 q * i + i))))), (8, .int (zi i)), (7, .int (zi i)), (0, .ref (gA g 50)), (1, .int (zi q)), (2, .int (zi kind)), (3, .int (zi line)), (4, .int (zi (x 51 q))), (6, .int (zi i))]) dX12_sumOf_90 (by decide) rfl ?_
            refine z_iinc (pc := 92) hO 8 (lv' := [(6, .int (zi (i + 1))), (5, .int (zi (w + (nd x q (x 51 q * i + i))))), (8, .int (zi i)), (7, .int (zi i)), (0, .ref (gA g 50)), (1, .int (zi q)), (2, .int (zi kind)), (3, .int (zi line)), (4, .int (zi (x 51 q)))]) dX12_sumOf_92 rfl (by decide) rfl ?_
            refine z_goto (pc := 95) hO (tgt := 14) dX12_sumOf_95 (by decide) ?_
            refine z_sub [4, 5, 6, 7, 8, 1, 0] rfl ?_
            exact ih14 (w + (nd x q (x 51 q * i + i))) (i + 1) (by omega) (by omega) (by rw [sm_s _ h0.1, ← hA]; unfold onl; first | (exfalso; omega) | (rw [if_pos (by omega)]; done) | (rw [if_neg (by omega), if_pos (by omega)]; done) | (rw [if_neg (by omega), if_neg (by omega), if_pos (by omega)]; done) | (rw [if_neg (by omega), if_neg (by omega), if_neg (by omega)]; done))
        · refine z_iload_n (pc := 25) hO 3 dX12_sumOf_25 rfl rfl ?_
          refine z_goto (pc := 26) hO (tgt := 31) dX12_sumOf_26 (by decide) ?_
          refine z_istore (pc := 31) hO (lv' := [(7, .int (zi line)), (0, .ref (gA g 50)), (1, .int (zi q)), (2, .int (zi kind)), (3, .int (zi line)), (4, .int (zi (x 51 q))), (5, .int (zi w)), (6, .int (zi i))]) dX12_sumOf_31 (by decide) rfl ?_
          refine z_iload_n (pc := 33) hO 3 dX12_sumOf_33 rfl rfl ?_
          refine z_if_ne (pc := 34) hO (tgt := 42) dX12_sumOf_34 (by decide) (by omega) (fun b6 => ?_) (fun b6 => ?_)
          · refine z_iload_n (pc := 42) hO 3 dX12_sumOf_42 rfl rfl ?_
            refine z_iconst (pc := 43) hO dX12_sumOf_43 ?_
            refine z_icmp_ne (pc := 44) hO (tgt := 51) dX12_sumOf_44 (by decide) (by omega) (by omega) (fun b7 => ?_) (fun b7 => ?_)
            · refine z_iload_n (pc := 51) hO 3 dX12_sumOf_51 rfl rfl ?_
              refine z_iconst (pc := 52) hO dX12_sumOf_52 ?_
              refine z_icmp_ne (pc := 53) hO (tgt := 66) dX12_sumOf_53 (by decide) (by omega) (by omega) (fun b8 => ?_) (fun b8 => ?_)
              · refine z_iload_n (pc := 66) hO 4 dX12_sumOf_66 rfl rfl ?_
                refine z_iload (pc := 67) hO 7 dX12_sumOf_67 rfl ?_
                refine z_isub (pc := 69) hO dX12_sumOf_69 ?_
                refine z_iload (pc := 70) hO 5 dX12_sumOf_70 rfl ?_
                refine z_iadd (pc := 72) hO dX12_sumOf_72 ?_
                refine z_iload (pc := 73) hO 5 dX12_sumOf_73 rfl ?_
                refine z_irem (pc := 75) hO dX12_sumOf_75 (by omega) (by omega) ?_
                refine z_istore (pc := 76) hO (lv' := [(8, .int (zi (((line - i) + (x 51 q)) % (x 51 q)))), (7, .int (zi line)), (0, .ref (gA g 50)), (1, .int (zi q)), (2, .int (zi kind)), (3, .int (zi line)), (4, .int (zi (x 51 q))), (5, .int (zi w)), (6, .int (zi i))]) dX12_sumOf_76 (by decide) rfl ?_
                refine z_iload (pc := 78) hO 7 dX12_sumOf_78 rfl ?_
                refine z_aload_n (pc := 80) hO 2 dX12_sumOf_80 rfl rfl ?_
                refine z_iload_n (pc := 81) hO 3 dX12_sumOf_81 rfl rfl ?_
                refine z_iload (pc := 82) hO 1 dX12_sumOf_82 rfl ?_
                refine z_iload (pc := 84) hO 0 dX12_sumOf_84 rfl ?_
                refine z_callVIp (pc := 86) hO (As := [.int (zi q), .int (zi line), .int (zi (((line - i) + (x 51 q)) % (x 51 q)))]) (st := [.int (zi w)]) (c_X12_numberAt (qL Γ) g x q line (((line - i) + (x 51 q)) % (x 51 q)) (by first | assumption | omega) (by first | assumption | omega)) k_X12_76 isO_50 rfl (Nat.le_of_ble_eq_true rfl) (by decide) (by decide) ⟨by decide, by decide⟩ dX12_sumOf_86 ?_
                refine z_iadd (pc := 89) hO dX12_sumOf_89 ?_
                refine z_istore (pc := 90) hO (lv' := [(5, .int (zi (w + (nd x q (x 51 q * line + (((line - i) + (x 51 q)) % (x 51 q))))))), (8, .int (zi (((line - i) + (x 51 q)) % (x 51 q)))), (7, .int (zi line)), (0, .ref (gA g 50)), (1, .int (zi q)), (2, .int (zi kind)), (3, .int (zi line)), (4, .int (zi (x 51 q))), (6, .int (zi i))]) dX12_sumOf_90 (by decide) rfl ?_
                refine z_iinc (pc := 92) hO 8 (lv' := [(6, .int (zi (i + 1))), (5, .int (zi (w + (nd x q (x 51 q * line + (((line - i) + (x 51 q)) % (x 51 q))))))), (8, .int (zi (((line - i) + (x 51 q)) % (x 51 q)))), (7, .int (zi line)), (0, .ref (gA g 50)), (1, .int (zi q)), (2, .int (zi kind)), (3, .int (zi line)), (4, .int (zi (x 51 q)))]) dX12_sumOf_92 rfl (by decide) rfl ?_
                refine z_goto (pc := 95) hO (tgt := 14) dX12_sumOf_95 (by decide) ?_
                refine z_sub [4, 5, 6, 7, 8, 1, 0] rfl ?_
                exact ih14 (w + (nd x q (x 51 q * line + (((line - i) + (x 51 q)) % (x 51 q))))) (i + 1) (by omega) (by omega) (by rw [sm_s _ h0.1, ← hA]; unfold onl; first | (exfalso; omega) | (rw [if_pos (by omega)]; done) | (rw [if_neg (by omega), if_pos (by omega)]; done) | (rw [if_neg (by omega), if_neg (by omega), if_pos (by omega)]; done) | (rw [if_neg (by omega), if_neg (by omega), if_neg (by omega)]; done))
              · refine z_iload_n (pc := 56) hO 4 dX12_sumOf_56 rfl rfl ?_
                refine z_iload (pc := 57) hO 7 dX12_sumOf_57 rfl ?_
                refine z_iadd (pc := 59) hO dX12_sumOf_59 ?_
                refine z_iload (pc := 60) hO 5 dX12_sumOf_60 rfl ?_
                refine z_irem (pc := 62) hO dX12_sumOf_62 (by omega) (by omega) ?_
                refine z_goto (pc := 63) hO (tgt := 76) dX12_sumOf_63 (by decide) ?_
                refine z_istore (pc := 76) hO (lv' := [(8, .int (zi ((line + i) % (x 51 q)))), (7, .int (zi line)), (0, .ref (gA g 50)), (1, .int (zi q)), (2, .int (zi kind)), (3, .int (zi line)), (4, .int (zi (x 51 q))), (5, .int (zi w)), (6, .int (zi i))]) dX12_sumOf_76 (by decide) rfl ?_
                refine z_iload (pc := 78) hO 7 dX12_sumOf_78 rfl ?_
                refine z_aload_n (pc := 80) hO 2 dX12_sumOf_80 rfl rfl ?_
                refine z_iload_n (pc := 81) hO 3 dX12_sumOf_81 rfl rfl ?_
                refine z_iload (pc := 82) hO 1 dX12_sumOf_82 rfl ?_
                refine z_iload (pc := 84) hO 0 dX12_sumOf_84 rfl ?_
                refine z_callVIp (pc := 86) hO (As := [.int (zi q), .int (zi line), .int (zi ((line + i) % (x 51 q)))]) (st := [.int (zi w)]) (c_X12_numberAt (qL Γ) g x q line ((line + i) % (x 51 q)) (by first | assumption | omega) (by first | assumption | omega)) k_X12_76 isO_50 rfl (Nat.le_of_ble_eq_true rfl) (by decide) (by decide) ⟨by decide, by decide⟩ dX12_sumOf_86 ?_
                refine z_iadd (pc := 89) hO dX12_sumOf_89 ?_
                refine z_istore (pc := 90) hO (lv' := [(5, .int (zi (w + (nd x q (x 51 q * line + ((line + i) % (x 51 q))))))), (8, .int (zi ((line + i) % (x 51 q)))), (7, .int (zi line)), (0, .ref (gA g 50)), (1, .int (zi q)), (2, .int (zi kind)), (3, .int (zi line)), (4, .int (zi (x 51 q))), (6, .int (zi i))]) dX12_sumOf_90 (by decide) rfl ?_
                refine z_iinc (pc := 92) hO 8 (lv' := [(6, .int (zi (i + 1))), (5, .int (zi (w + (nd x q (x 51 q * line + ((line + i) % (x 51 q))))))), (8, .int (zi ((line + i) % (x 51 q)))), (7, .int (zi line)), (0, .ref (gA g 50)), (1, .int (zi q)), (2, .int (zi kind)), (3, .int (zi line)), (4, .int (zi (x 51 q)))]) dX12_sumOf_92 rfl (by decide) rfl ?_
                refine z_goto (pc := 95) hO (tgt := 14) dX12_sumOf_95 (by decide) ?_
                refine z_sub [4, 5, 6, 7, 8, 1, 0] rfl ?_
                exact ih14 (w + (nd x q (x 51 q * line + ((line + i) % (x 51 q))))) (i + 1) (by omega) (by omega) (by rw [sm_s _ h0.1, ← hA]; unfold onl; first | (exfalso; omega) | (rw [if_pos (by omega)]; done) | (rw [if_neg (by omega), if_pos (by omega)]; done) | (rw [if_neg (by omega), if_neg (by omega), if_pos (by omega)]; done) | (rw [if_neg (by omega), if_neg (by omega), if_neg (by omega)]; done))
            · refine z_iload_n (pc := 47) hO 4 dX12_sumOf_47 rfl rfl ?_
              refine z_goto (pc := 48) hO (tgt := 76) dX12_sumOf_48 (by decide) ?_
              refine z_istore (pc := 76) hO (lv' := [(8, .int (zi line)), (7, .int (zi line)), (0, .ref (gA g 50)), (1, .int (zi q)), (2, .int (zi kind)), (3, .int (zi line)), (4, .int (zi (x 51 q))), (5, .int (zi w)), (6, .int (zi i))]) dX12_sumOf_76 (by decide) rfl ?_
              refine z_iload (pc := 78) hO 7 dX12_sumOf_78 rfl ?_
              refine z_aload_n (pc := 80) hO 2 dX12_sumOf_80 rfl rfl ?_
              refine z_iload_n (pc := 81) hO 3 dX12_sumOf_81 rfl rfl ?_
              refine z_iload (pc := 82) hO 1 dX12_sumOf_82 rfl ?_
              refine z_iload (pc := 84) hO 0 dX12_sumOf_84 rfl ?_
              refine z_callVIp (pc := 86) hO (As := [.int (zi q), .int (zi line), .int (zi line)]) (st := [.int (zi w)]) (c_X12_numberAt (qL Γ) g x q line line (by first | assumption | omega) (by first | assumption | omega)) k_X12_76 isO_50 rfl (Nat.le_of_ble_eq_true rfl) (by decide) (by decide) ⟨by decide, by decide⟩ dX12_sumOf_86 ?_
              refine z_iadd (pc := 89) hO dX12_sumOf_89 ?_
              refine z_istore (pc := 90) hO (lv' := [(5, .int (zi (w + (nd x q (x 51 q * line + line))))), (8, .int (zi line)), (7, .int (zi line)), (0, .ref (gA g 50)), (1, .int (zi q)), (2, .int (zi kind)), (3, .int (zi line)), (4, .int (zi (x 51 q))), (6, .int (zi i))]) dX12_sumOf_90 (by decide) rfl ?_
              refine z_iinc (pc := 92) hO 8 (lv' := [(6, .int (zi (i + 1))), (5, .int (zi (w + (nd x q (x 51 q * line + line))))), (8, .int (zi line)), (7, .int (zi line)), (0, .ref (gA g 50)), (1, .int (zi q)), (2, .int (zi kind)), (3, .int (zi line)), (4, .int (zi (x 51 q)))]) dX12_sumOf_92 rfl (by decide) rfl ?_
              refine z_goto (pc := 95) hO (tgt := 14) dX12_sumOf_95 (by decide) ?_
              refine z_sub [4, 5, 6, 7, 8, 1, 0] rfl ?_
              exact ih14 (w + (nd x q (x 51 q * line + line))) (i + 1) (by omega) (by omega) (by rw [sm_s _ h0.1, ← hA]; unfold onl; first | (exfalso; omega) | (rw [if_pos (by omega)]; done) | (rw [if_neg (by omega), if_pos (by omega)]; done) | (rw [if_neg (by omega), if_neg (by omega), if_pos (by omega)]; done) | (rw [if_neg (by omega), if_neg (by omega), if_neg (by omega)]; done))
          · refine z_iload (pc := 37) hO 7 dX12_sumOf_37 rfl ?_
            refine z_goto (pc := 39) hO (tgt := 76) dX12_sumOf_39 (by decide) ?_
            refine z_istore (pc := 76) hO (lv' := [(8, .int (zi i)), (7, .int (zi line)), (0, .ref (gA g 50)), (1, .int (zi q)), (2, .int (zi kind)), (3, .int (zi line)), (4, .int (zi (x 51 q))), (5, .int (zi w)), (6, .int (zi i))]) dX12_sumOf_76 (by decide) rfl ?_
            refine z_iload (pc := 78) hO 7 dX12_sumOf_78 rfl ?_
            refine z_aload_n (pc := 80) hO 2 dX12_sumOf_80 rfl rfl ?_
            refine z_iload_n (pc := 81) hO 3 dX12_sumOf_81 rfl rfl ?_
            refine z_iload (pc := 82) hO 1 dX12_sumOf_82 rfl ?_
            refine z_iload (pc := 84) hO 0 dX12_sumOf_84 rfl ?_
            refine z_callVIp (pc := 86) hO (As := [.int (zi q), .int (zi line), .int (zi i)]) (st := [.int (zi w)]) (c_X12_numberAt (qL Γ) g x q line i (by first | assumption | omega) (by first | assumption | omega)) k_X12_76 isO_50 rfl (Nat.le_of_ble_eq_true rfl) (by decide) (by decide) ⟨by decide, by decide⟩ dX12_sumOf_86 ?_
            refine z_iadd (pc := 89) hO dX12_sumOf_89 ?_
            refine z_istore (pc := 90) hO (lv' := [(5, .int (zi (w + (nd x q (x 51 q * line + i))))), (8, .int (zi i)), (7, .int (zi line)), (0, .ref (gA g 50)), (1, .int (zi q)), (2, .int (zi kind)), (3, .int (zi line)), (4, .int (zi (x 51 q))), (6, .int (zi i))]) dX12_sumOf_90 (by decide) rfl ?_
            refine z_iinc (pc := 92) hO 8 (lv' := [(6, .int (zi (i + 1))), (5, .int (zi (w + (nd x q (x 51 q * line + i))))), (8, .int (zi i)), (7, .int (zi line)), (0, .ref (gA g 50)), (1, .int (zi q)), (2, .int (zi kind)), (3, .int (zi line)), (4, .int (zi (x 51 q)))]) dX12_sumOf_92 rfl (by decide) rfl ?_
            refine z_goto (pc := 95) hO (tgt := 14) dX12_sumOf_95 (by decide) ?_
            refine z_sub [4, 5, 6, 7, 8, 1, 0] rfl ?_
            exact ih14 (w + (nd x q (x 51 q * line + i))) (i + 1) (by omega) (by omega) (by rw [sm_s _ h0.1, ← hA]; unfold onl; first | (exfalso; omega) | (rw [if_pos (by omega)]; done) | (rw [if_neg (by omega), if_pos (by omega)]; done) | (rw [if_neg (by omega), if_neg (by omega), if_pos (by omega)]; done) | (rw [if_neg (by omega), if_neg (by omega), if_neg (by omega)]; done))
  refine z_sub [3, 4, 5, 6, 2, 1, 0] rfl ?_
  exact L14 _ 0 0 (Nat.lt_succ_self _) (by omega) (by rfl)

set_option maxHeartbeats 4000000 in
theorem c_X12_squaresOf (l : Launch) (g : Gl) (x : Me) (q : Int) (kind : Int) (line : Int)  (hG : MG x q) (hk : 0 ≤ kind ∧ kind ≤ 1) (hl : 0 ≤ line ∧ line < x 51 q) : ctQ l g yX12_squaresOf cX12_squaresOf 7 (some .int) 2 43 [.ref (gA g 50), .int (zi q), .int (zi kind), .int (zi line)] x (QIu g (fun z x' => z = (lpow (x 51 q) (nd x q) kind line) ∧ x' = x)) := by
  refine ct_start (own := RX12) (lv := [(0, .ref (gA g 50)), (1, .int (zi q)), (2, .int (zi kind)), (3, .int (zi line))]) (plainFor_of_name (by decide)) rfl (Nat.le_of_ble_eq_true rfl) rfl ?_
  intro Γ hΓ hO hr hQ _
  obtain ⟨hq, hs, hf⟩ := id hG
  have hsq := sq9 hs
  refine z_iconst (pc := 0) hO dX12_squaresOf_0 ?_
  refine z_istore (pc := 1) hO (lv' := [(4, .int (zi 0)), (0, .ref (gA g 50)), (1, .int (zi q)), (2, .int (zi kind)), (3, .int (zi line))]) dX12_squaresOf_1 (by decide) rfl ?_
  refine z_iconst (pc := 3) hO dX12_squaresOf_3 ?_
  refine z_istore (pc := 4) hO (lv' := [(5, .int (zi 0)), (4, .int (zi 0)), (0, .ref (gA g 50)), (1, .int (zi q)), (2, .int (zi kind)), (3, .int (zi line))]) dX12_squaresOf_4 (by decide) rfl ?_
  have L6 : ∀ (N : Nat) (w : Int) (i : Int), (x 51 q - i).toNat < N → (0 ≤ i ∧ i ≤ x 51 q) → (w = sm (fun j => nd x q (onl (x 51 q) kind line j) * nd x q (onl (x 51 q) kind line j)) i.toNat) → Zz Γ g 7 0 0 x 6 [(0, .ref (gA g 50)), (1, .int (zi q)), (2, .int (zi kind)), (3, .int (zi line)), (4, .int (zi w)), (5, .int (zi i))] [] := by
    intro N
    induction N with
    | zero => intro w i hm; exact absurd hm (Nat.not_lt_zero _)
    | succ N ih6 =>
      intro w i hm h0 hA
      refine z_iload (pc := 6) hO 5 dX12_squaresOf_6 rfl ?_
      refine z_aload_n (pc := 8) hO 0 dX12_squaresOf_8 rfl rfl ?_
      refine gf_X12_sideOf (pc := 9) hO f_X12_7 dX12_squaresOf_9 ?_
      refine z_iload_n (pc := 12) hO 1 dX12_squaresOf_12 rfl rfl ?_
      refine z_iald (pc := 13) hO isI_51 (by omega) dX12_squaresOf_13 ?_
      refine z_icmp_ge (pc := 14) hO (tgt := 58) dX12_squaresOf_14 (by decide) (by omega) (by omega) (fun b1 => ?_) (fun b1 => ?_)
      · refine z_iload (pc := 58) hO 4 dX12_squaresOf_58 rfl ?_
        exact z_iret (pc := 60) hO hr hQ rfl dX12_squaresOf_60 ⟨by first | (rw [hA, show i.toNat = (x 51 q).toNat by omega]; rfl; done) | (exfalso; omega), rfl⟩
      · refine z_iload_n (pc := 17) hO 2 dX12_squaresOf_17 rfl rfl ?_
        refine z_if_ne (pc := 18) hO (tgt := 32) dX12_squaresOf_18 (by decide) (by omega) (fun b2 => ?_) (fun b2 => ?_)
        · refine z_aload_n (pc := 32) hO 0 dX12_squaresOf_32 rfl rfl ?_
          refine z_iload_n (pc := 33) hO 1 dX12_squaresOf_33 rfl rfl ?_
          refine z_iload (pc := 34) hO 5 dX12_squaresOf_34 rfl ?_
          refine z_iload_n (pc := 36) hO 3 dX12_squaresOf_36 rfl rfl ?_
          refine z_callVIp (pc := 37) hO (As := [.int (zi q), .int (zi i), .int (zi line)]) (st := []) (c_X12_numberAt (qL Γ) g x q i line (by first | assumption | omega) (by first | assumption | omega)) k_X12_76 isO_50 rfl (Nat.le_of_ble_eq_true rfl) (by decide) (by decide) ⟨by decide, by decide⟩ dX12_squaresOf_37 ?_
          refine z_istore (pc := 40) hO (lv' := [(6, .int (zi (nd x q (x 51 q * i + line)))), (0, .ref (gA g 50)), (1, .int (zi q)), (2, .int (zi kind)), (3, .int (zi line)), (4, .int (zi w)), (5, .int (zi i))]) dX12_squaresOf_40 (by decide) rfl ?_
          refine z_iload (pc := 42) hO 5 dX12_squaresOf_42 rfl ?_
          refine z_iload (pc := 44) hO 0 dX12_squaresOf_44 rfl ?_
          refine z_iload (pc := 46) hO 0 dX12_squaresOf_46 rfl ?_
          refine z_imul (pc := 48) hO dX12_squaresOf_48 ?_
          refine z_iadd (pc := 49) hO dX12_squaresOf_49 ?_
          refine z_istore (pc := 50) hO (lv' := [(4, .int (zi (w + ((nd x q (x 51 q * i + line)) * (nd x q (x 51 q * i + line)))))), (6, .int (zi (nd x q (x 51 q * i + line)))), (0, .ref (gA g 50)), (1, .int (zi q)), (2, .int (zi kind)), (3, .int (zi line)), (5, .int (zi i))]) dX12_squaresOf_50 (by decide) rfl ?_
          refine z_iinc (pc := 52) hO 6 (lv' := [(5, .int (zi (i + 1))), (4, .int (zi (w + ((nd x q (x 51 q * i + line)) * (nd x q (x 51 q * i + line)))))), (6, .int (zi (nd x q (x 51 q * i + line)))), (0, .ref (gA g 50)), (1, .int (zi q)), (2, .int (zi kind)), (3, .int (zi line))]) dX12_squaresOf_52 rfl (by decide) rfl ?_
          refine z_goto (pc := 55) hO (tgt := 6) dX12_squaresOf_55 (by decide) ?_
          refine z_sub [3, 4, 5, 6, 1, 0] rfl ?_
          exact ih6 (w + ((nd x q (x 51 q * i + line)) * (nd x q (x 51 q * i + line)))) (i + 1) (by omega) (by omega) (by rw [sm_s _ h0.1, ← hA]; unfold onl; first | (exfalso; omega) | (rw [if_pos (by omega)]; done) | (rw [if_neg (by omega), if_pos (by omega)]; done))
        · refine z_aload_n (pc := 21) hO 0 dX12_squaresOf_21 rfl rfl ?_
          refine z_iload_n (pc := 22) hO 1 dX12_squaresOf_22 rfl rfl ?_
          refine z_iload_n (pc := 23) hO 3 dX12_squaresOf_23 rfl rfl ?_
          refine z_iload (pc := 24) hO 5 dX12_squaresOf_24 rfl ?_
          refine z_callVIp (pc := 26) hO (As := [.int (zi q), .int (zi line), .int (zi i)]) (st := []) (c_X12_numberAt (qL Γ) g x q line i (by first | assumption | omega) (by first | assumption | omega)) k_X12_76 isO_50 rfl (Nat.le_of_ble_eq_true rfl) (by decide) (by decide) ⟨by decide, by decide⟩ dX12_squaresOf_26 ?_
          refine z_goto (pc := 29) hO (tgt := 40) dX12_squaresOf_29 (by decide) ?_
          refine z_istore (pc := 40) hO (lv' := [(6, .int (zi (nd x q (x 51 q * line + i)))), (0, .ref (gA g 50)), (1, .int (zi q)), (2, .int (zi kind)), (3, .int (zi line)), (4, .int (zi w)), (5, .int (zi i))]) dX12_squaresOf_40 (by decide) rfl ?_
          refine z_iload (pc := 42) hO 5 dX12_squaresOf_42 rfl ?_
          refine z_iload (pc := 44) hO 0 dX12_squaresOf_44 rfl ?_
          refine z_iload (pc := 46) hO 0 dX12_squaresOf_46 rfl ?_
          refine z_imul (pc := 48) hO dX12_squaresOf_48 ?_
          refine z_iadd (pc := 49) hO dX12_squaresOf_49 ?_
          refine z_istore (pc := 50) hO (lv' := [(4, .int (zi (w + ((nd x q (x 51 q * line + i)) * (nd x q (x 51 q * line + i)))))), (6, .int (zi (nd x q (x 51 q * line + i)))), (0, .ref (gA g 50)), (1, .int (zi q)), (2, .int (zi kind)), (3, .int (zi line)), (5, .int (zi i))]) dX12_squaresOf_50 (by decide) rfl ?_
          refine z_iinc (pc := 52) hO 6 (lv' := [(5, .int (zi (i + 1))), (4, .int (zi (w + ((nd x q (x 51 q * line + i)) * (nd x q (x 51 q * line + i)))))), (6, .int (zi (nd x q (x 51 q * line + i)))), (0, .ref (gA g 50)), (1, .int (zi q)), (2, .int (zi kind)), (3, .int (zi line))]) dX12_squaresOf_52 rfl (by decide) rfl ?_
          refine z_goto (pc := 55) hO (tgt := 6) dX12_squaresOf_55 (by decide) ?_
          refine z_sub [3, 4, 5, 6, 1, 0] rfl ?_
          exact ih6 (w + ((nd x q (x 51 q * line + i)) * (nd x q (x 51 q * line + i)))) (i + 1) (by omega) (by omega) (by rw [sm_s _ h0.1, ← hA]; unfold onl; first | (exfalso; omega) | (rw [if_pos (by omega)]; done) | (rw [if_neg (by omega), if_pos (by omega)]; done))
  refine z_sub [2, 3, 4, 5, 1, 0] rfl ?_
  exact L6 _ 0 0 (Nat.lt_succ_self _) (by omega) (by rfl)

