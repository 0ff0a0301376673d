set_option maxHeartbeats 600000 in
theorem c_X12_emptyOf (l : Launch) (g : Gl) (x : Me) (q : Int)  (hG : MG x q) : ctQ l g yX12_emptyOf cX12_emptyOf 4 (some .int) 2 41 [.ref (gA g 50), .int (zi q)] x (QIu g (fun z x' => z = (cnt (x 51 q) (nd x q) 0) ∧ x' = x)) := by
  refine ct_start (own := RX12) (lv := [(0, .ref (gA g 50)), (1, .int (zi q))]) (plainFor_of_name (by decide)) rfl (Nat.le_of_ble_eq_true rfl) rfl ?_
  intro Γ hΓ hO hr hQ _
  obtain ⟨hq, hs, hf⟩ := id hG
  have hsq := sq9 hs
  have hN := nd_rng hG
  refine z_iconst (pc := 0) hO dX12_emptyOf_0 ?_
  refine z_istore_n (pc := 1) hO (lv' := [(2, .int (zi 0)), (0, .ref (gA g 50)), (1, .int (zi q))]) dX12_emptyOf_1 rfl (by decide) rfl ?_
  refine z_iconst (pc := 2) hO dX12_emptyOf_2 ?_
  refine z_istore_n (pc := 3) hO (lv' := [(3, .int (zi 0)), (2, .int (zi 0)), (0, .ref (gA g 50)), (1, .int (zi q))]) dX12_emptyOf_3 rfl (by decide) rfl ?_
  have L4 : ∀ (N : Nat) (w : Int) (i : Int), ((x 51 q * x 51 q) - i).toNat < N → (0 ≤ i ∧ i ≤ (x 51 q * x 51 q)) → (w = sm (fun p => if nd x q p = 0 then 1 else 0) i.toNat) → Zz Γ g 4 0 0 x 4 [(0, .ref (gA g 50)), (1, .int (zi q)), (2, .int (zi w)), (3, .int (zi i))] [] := by
    intro N
    induction N with
    | zero => intro w i hm; exact absurd hm (Nat.not_lt_zero _)
    | succ N ih4 =>
      intro w i hm h0 hC
      refine z_iload_n (pc := 4) hO 3 dX12_emptyOf_4 rfl rfl ?_
      refine z_aload_n (pc := 5) hO 0 dX12_emptyOf_5 rfl rfl ?_
      refine z_iload_n (pc := 6) hO 1 dX12_emptyOf_6 rfl rfl ?_
      refine z_callVIp (pc := 7) hO (As := [.int (zi q)]) (st := [.int (zi i)]) (c_X12_areaOf (qL Γ) g x q (by first | assumption | omega)) k_X12_100 isO_50 rfl (Nat.le_of_ble_eq_true rfl) (by decide) (by decide) ⟨by decide, by decide⟩ dX12_emptyOf_7 ?_
      refine z_icmp_ge (pc := 10) hO (tgt := 41) dX12_emptyOf_10 (by decide) (by omega) (by omega) (fun b1 => ?_) (fun b1 => ?_)
      · refine z_iload_n (pc := 41) hO 2 dX12_emptyOf_41 rfl rfl ?_
        exact z_iret (pc := 42) hO hr hQ rfl dX12_emptyOf_42 ⟨by first | (rw [hC, show i.toNat = (x 51 q * x 51 q).toNat by omega]; rfl; done) | (exfalso; omega), rfl⟩
      · have g1 : nd x q i = x 52 (81 * q + i) := nd_in (by omega)
        have n1 := hN i
        refine z_iload_n (pc := 13) hO 2 dX12_emptyOf_13 rfl rfl ?_
        refine z_aload_n (pc := 14) hO 0 dX12_emptyOf_14 rfl rfl ?_
        refine gf_X12_numbers (pc := 15) hO f_X12_13 dX12_emptyOf_15 ?_
        refine z_bipush (pc := 18) hO dX12_emptyOf_18 (by decide) ?_
        refine z_iload_n (pc := 20) hO 1 dX12_emptyOf_20 rfl rfl ?_
        refine z_imul (pc := 21) hO dX12_emptyOf_21 ?_
        refine z_iload_n (pc := 22) hO 3 dX12_emptyOf_22 rfl rfl ?_
        refine z_iadd (pc := 23) hO dX12_emptyOf_23 ?_
        refine z_iald (pc := 24) hO isI_52 (by omega) dX12_emptyOf_24 ?_
        refine z_if_ne (pc := 25) hO (tgt := 32) dX12_emptyOf_25 (by decide) (by omega) (fun b2 => ?_) (fun b2 => ?_)
        · refine z_iconst (pc := 32) hO dX12_emptyOf_32 ?_
          refine z_iadd (pc := 33) hO dX12_emptyOf_33 ?_
          refine z_istore_n (pc := 34) hO (lv' := [(2, .int (zi (w + 0))), (0, .ref (gA g 50)), (1, .int (zi q)), (3, .int (zi i))]) dX12_emptyOf_34 rfl (by decide) rfl ?_
          refine z_iinc (pc := 35) hO 3 (lv' := [(3, .int (zi (i + 1))), (2, .int (zi (w + 0))), (0, .ref (gA g 50)), (1, .int (zi q))]) dX12_emptyOf_35 rfl (by decide) rfl ?_
          refine z_goto (pc := 38) hO (tgt := 4) dX12_emptyOf_38 (by decide) ?_
          refine z_sub [2, 3, 1, 0] rfl ?_
          exact ih4 (w + 0) (i + 1) (by omega) (by omega) (by rw [sm_s _ h0.1, ← hC]; first | (rw [if_pos (by omega)]; done) | (rw [if_neg (by omega)]; done))
        · refine z_iconst (pc := 28) hO dX12_emptyOf_28 ?_
          refine z_goto (pc := 29) hO (tgt := 33) dX12_emptyOf_29 (by decide) ?_
          refine z_iadd (pc := 33) hO dX12_emptyOf_33 ?_
          refine z_istore_n (pc := 34) hO (lv' := [(2, .int (zi (w + 1))), (0, .ref (gA g 50)), (1, .int (zi q)), (3, .int (zi i))]) dX12_emptyOf_34 rfl (by decide) rfl ?_
          refine z_iinc (pc := 35) hO 3 (lv' := [(3, .int (zi (i + 1))), (2, .int (zi (w + 1))), (0, .ref (gA g 50)), (1, .int (zi q))]) dX12_emptyOf_35 rfl (by decide) rfl ?_
          refine z_goto (pc := 38) hO (tgt := 4) dX12_emptyOf_38 (by decide) ?_
          refine z_sub [2, 3, 1, 0] rfl ?_
          exact ih4 (w + 1) (i + 1) (by omega) (by omega) (by rw [sm_s _ h0.1, ← hC]; first | (rw [if_pos (by omega)]; done) | (rw [if_neg (by omega)]; done))
  refine z_sub [2, 3, 1, 0] rfl ?_
  exact L4 _ 0 0 (Nat.lt_succ_self _) (by omega) (by rfl)

set_option maxHeartbeats 600000 in
theorem c_X12_isSearched (l : Launch) (g : Gl) (x : Me) (q : Int)  (hG : MG x q) : ctQ l g yX12_isSearched cX12_isSearched 2 (some .boolean) 3 64 [.ref (gA g 50), .int (zi q)] x (QIu g (fun z x' => ((z = 1 ∧ (x 51 q ≤ 4 ∧ cnt (x 51 q) (nd x q) 0 ≤ 9)) ∨ (z = 0 ∧ ¬ (x 51 q ≤ 4 ∧ cnt (x 51 q) (nd x q) 0 ≤ 9))) ∧ x' = x)) := by
  refine ct_start (own := RX12) (lv := [(0, .ref (gA g 50)), (1, .int (zi q))]) (plainFor_of_name (by decide)) rfl (Nat.le_of_ble_eq_true rfl) rfl ?_
  intro Γ hΓ hO hr hQ _
  obtain ⟨hq, hs, hf⟩ := id hG
  have hsq := sq9 hs
  have hc9 := cnt_rng (f := nd x q) hs 0
  refine z_aload_n (pc := 0) hO 0 dX12_isSearched_0 rfl rfl ?_
  refine gf_X12_sideOf (pc := 1) hO f_X12_7 dX12_isSearched_1 ?_
  refine z_iload_n (pc := 4) hO 1 dX12_isSearched_4 rfl rfl ?_
  refine z_iald (pc := 5) hO isI_51 (by omega) dX12_isSearched_5 ?_
  refine z_iconst (pc := 6) hO dX12_isSearched_6 ?_
  refine z_icmp_gt (pc := 7) hO (tgt := 24) dX12_isSearched_7 (by decide) (by omega) (by omega) (fun b1 => ?_) (fun b1 => ?_)
  · refine z_iconst (pc := 24) hO dX12_isSearched_24 ?_
    exact z_iret (pc := 25) hO hr hQ rfl dX12_isSearched_25 ⟨Or.inr ⟨rfl, by first | (omega; done) | (exfalso; omega)⟩, rfl⟩
  · refine z_aload_n (pc := 10) hO 0 dX12_isSearched_10 rfl rfl ?_
    refine z_iload_n (pc := 11) hO 1 dX12_isSearched_11 rfl rfl ?_
    refine z_callVIp (pc := 12) hO (As := [.int (zi q)]) (st := []) (c_X12_emptyOf (qL Γ) g x q (by first | assumption | omega)) k_X12_166 isO_50 rfl (Nat.le_of_ble_eq_true rfl) (by decide) (by decide) ⟨by decide, by decide⟩ dX12_isSearched_12 ?_
    refine z_bipush (pc := 15) hO dX12_isSearched_15 (by decide) ?_
    refine z_icmp_gt (pc := 17) hO (tgt := 24) dX12_isSearched_17 (by decide) (by omega) (by omega) (fun b2 => ?_) (fun b2 => ?_)
    · refine z_iconst (pc := 24) hO dX12_isSearched_24 ?_
      exact z_iret (pc := 25) hO hr hQ rfl dX12_isSearched_25 ⟨Or.inr ⟨rfl, by first | (omega; done) | (exfalso; omega)⟩, rfl⟩
    · refine z_iconst (pc := 20) hO dX12_isSearched_20 ?_
      refine z_goto (pc := 21) hO (tgt := 25) dX12_isSearched_21 (by decide) ?_
      exact z_iret (pc := 25) hO hr hQ rfl dX12_isSearched_25 ⟨Or.inl ⟨rfl, by first | (omega; done) | (exfalso; omega)⟩, rfl⟩

set_option maxHeartbeats 600000 in
theorem e_X12_completions (l : Launch) (g : Gl) (x : Me) (q : Int)  (hM : MS x) (r_q : -2147483648 ≤ q ∧ q < 2147483648) (hno : ¬ ((0 ≤ q ∧ q < x 50 1) ∧ (x 51 q ≤ 4 ∧ cnt (x 51 q) (nd x q) 0 ≤ 9))) : ctQ l g yX12_completions cX12_completions 3 (some .int) 5 115 [.ref (gA g 50), .int (zi q)] x (QIu g (fun z x' => z = 0 ∧ x' = up x 50 0 (exn (0 ≤ q ∧ q < x 50 1) (True) 1 0 2))) := by
  refine ct_start (own := RX12) (lv := [(0, .ref (gA g 50)), (1, .int (zi q))]) (plainFor_of_name (by decide)) rfl (Nat.le_of_ble_eq_true rfl) rfl ?_
  intro Γ hΓ hO hr hQ _
  have hM1 := hM.1
  refine z_aload_n (pc := 0) hO 0 dX12_completions_0 rfl rfl ?_
  refine z_iload_n (pc := 1) hO 1 dX12_completions_1 rfl rfl ?_
  refine z_callVB (pc := 2) hO (As := [.int (zi q)]) (st := []) (c_X12_isSquare (qL Γ) g x q (by first | assumption | omega) (by first | assumption | omega)) k_X12_59 isO_50 rfl (Nat.le_of_ble_eq_true rfl) (by decide) (by decide) ⟨by decide, by decide⟩ dX12_completions_2 (fun pb1 => ?_) (fun pb1 => ?_)
  · skip
    refine z_istore_n (pc := 5) hO (lv' := [(2, .int (zi 1)), (0, .ref (gA g 50)), (1, .int (zi q))]) dX12_completions_5 rfl (by decide) rfl ?_
    refine z_aload_n (pc := 6) hO 1 dX12_completions_6 rfl rfl ?_
    refine z_iload_n (pc := 7) hO 0 dX12_completions_7 rfl rfl ?_
    refine z_if_ne (pc := 8) hO (tgt := 15) dX12_completions_8 (by decide) (by decide) (fun _ => ?_) (fun h => absurd h (by decide))
    refine z_aload_n (pc := 15) hO 1 dX12_completions_15 rfl rfl ?_
    refine z_iload_n (pc := 16) hO 2 dX12_completions_16 rfl rfl ?_
    refine z_callVB (pc := 17) hO (As := [.int (zi q)]) (st := [.ref (gA g 50)]) (c_X12_isSearched (qL Γ) g x q (by exact hM.2 q (by omega) (by omega))) k_X12_169 isO_50 rfl (Nat.le_of_ble_eq_true rfl) (by decide) (by decide) ⟨by decide, by decide⟩ dX12_completions_17 (fun pb2 => ?_) (fun pb2 => ?_)
    · skip
      have hpb := pb2
      refine z_if_ne (pc := 20) hO (tgt := 27) dX12_completions_20 (by decide) (by decide) (fun _ => ?_) (fun h => absurd h (by decide))
      refine z_iconst (pc := 27) hO dX12_completions_27 ?_
      refine z_callVIm (pc := 28) hO (As := [.int (zi 0)]) (st := []) (c_X12_isFine0 (qL Γ) g x 0 (by first | assumption | omega)) k_X12_63 isO_50 rfl (Nat.le_of_ble_eq_true rfl) (by decide) (by decide) ⟨by decide, by decide⟩ dX12_completions_28 (fun m3 e4 => ?_)
      refine z_if_ne (pc := 31) hO (tgt := 36) dX12_completions_31 (by decide) (by decide) (fun _ => ?_) (fun h => absurd h (by decide))
      first | (exfalso; omega) | exact absurd ⟨by omega, hpb⟩ hno
    · skip
      have hpb := pb2
      refine z_if_ne (pc := 20) hO (tgt := 27) dX12_completions_20 (by decide) (by decide) (fun h => absurd h (by decide)) (fun _ => ?_)
      refine z_iconst (pc := 23) hO dX12_completions_23 ?_
      refine z_goto (pc := 24) hO (tgt := 28) dX12_completions_24 (by decide) ?_
      refine z_callVIm (pc := 28) hO (As := [.int (zi 2)]) (st := []) (c_X12_isFine1 (qL Γ) g x 2 (by first | assumption | omega)) k_X12_63 isO_50 rfl (Nat.le_of_ble_eq_true rfl) (by decide) (by decide) ⟨by decide, by decide⟩ dX12_completions_28 (fun m5 e6 => ?_)
      refine z_if_ne (pc := 31) hO (tgt := 36) dX12_completions_31 (by decide) (by decide) (fun h => absurd h (by decide)) (fun _ => ?_)
      refine z_iconst (pc := 34) hO dX12_completions_34 ?_
      exact z_iret (pc := 35) hO hr hQ rfl dX12_completions_35 (by first | (refine ⟨rfl, ?_⟩; first | (rw [exn_1 (by omega)]; assumption) | (rw [exn_2 (by first | trivial | omega) (by omega)]; assumption) | (rw [exn_3 (by first | trivial | omega) (by first | trivial | omega)]; assumption); done) | (exfalso; omega))
  · skip
    refine z_istore_n (pc := 5) hO (lv' := [(2, .int (zi 0)), (0, .ref (gA g 50)), (1, .int (zi q))]) dX12_completions_5 rfl (by decide) rfl ?_
    refine z_aload_n (pc := 6) hO 1 dX12_completions_6 rfl rfl ?_
    refine z_iload_n (pc := 7) hO 0 dX12_completions_7 rfl rfl ?_
    refine z_if_ne (pc := 8) hO (tgt := 15) dX12_completions_8 (by decide) (by decide) (fun h => absurd h (by decide)) (fun _ => ?_)
    refine z_iconst (pc := 11) hO dX12_completions_11 ?_
    refine z_goto (pc := 12) hO (tgt := 28) dX12_completions_12 (by decide) ?_
    refine z_callVIm (pc := 28) hO (As := [.int (zi 1)]) (st := []) (c_X12_isFine1 (qL Γ) g x 1 (by first | assumption | omega)) k_X12_63 isO_50 rfl (Nat.le_of_ble_eq_true rfl) (by decide) (by decide) ⟨by decide, by decide⟩ dX12_completions_28 (fun m7 e8 => ?_)
    refine z_if_ne (pc := 31) hO (tgt := 36) dX12_completions_31 (by decide) (by decide) (fun h => absurd h (by decide)) (fun _ => ?_)
    refine z_iconst (pc := 34) hO dX12_completions_34 ?_
    exact z_iret (pc := 35) hO hr hQ rfl dX12_completions_35 (by first | (refine ⟨rfl, ?_⟩; first | (rw [exn_1 (by omega)]; assumption) | (rw [exn_2 (by first | trivial | omega) (by omega)]; assumption) | (rw [exn_3 (by first | trivial | omega) (by first | trivial | omega)]; assumption); done) | (exfalso; omega))

set_option maxHeartbeats 600000 in
theorem c_X12_completions (l : Launch) (g : Gl) (x : Me) (q : Int)  (hM : MS x) (r_q : -2147483648 ≤ q ∧ q < 2147483648) (hok : (0 ≤ q ∧ q < x 50 1) ∧ (x 51 q ≤ 4 ∧ cnt (x 51 q) (nd x q) 0 ≤ 9)) : ctQ l g yX12_completions cX12_completions 3 (some .int) 5 115 [.ref (gA g 50), .int (zi q)] x (QIu g (fun z x' => z = (cpl (x 51 q) (nd x q)).length ∧ KM x x')) := by
  refine ct_start (own := RX12) (lv := [(0, .ref (gA g 50)), (1, .int (zi q))]) (plainFor_of_name (by decide)) rfl (Nat.le_of_ble_eq_true rfl) rfl ?_
  intro Γ hΓ hO hr hQ _
  have hM1 := hM.1
  refine z_aload_n (pc := 0) hO 0 dX12_completions_0 rfl rfl ?_
  refine z_iload_n (pc := 1) hO 1 dX12_completions_1 rfl rfl ?_
  refine z_callVB (pc := 2) hO (As := [.int (zi q)]) (st := []) (c_X12_isSquare (qL Γ) g x q (by first | assumption | omega) (by first | assumption | omega)) k_X12_59 isO_50 rfl (Nat.le_of_ble_eq_true rfl) (by decide) (by decide) ⟨by decide, by decide⟩ dX12_completions_2 (fun pb1 => ?_) (fun pb1 => ?_)
  · skip
    refine z_istore_n (pc := 5) hO (lv' := [(2, .int (zi 1)), (0, .ref (gA g 50)), (1, .int (zi q))]) dX12_completions_5 rfl (by decide) rfl ?_
    refine z_aload_n (pc := 6) hO 1 dX12_completions_6 rfl rfl ?_
    refine z_iload_n (pc := 7) hO 0 dX12_completions_7 rfl rfl ?_
    refine z_if_ne (pc := 8) hO (tgt := 15) dX12_completions_8 (by decide) (by decide) (fun _ => ?_) (fun h => absurd h (by decide))
    refine z_aload_n (pc := 15) hO 1 dX12_completions_15 rfl rfl ?_
    refine z_iload_n (pc := 16) hO 2 dX12_completions_16 rfl rfl ?_
    refine z_callVB (pc := 17) hO (As := [.int (zi q)]) (st := [.ref (gA g 50)]) (c_X12_isSearched (qL Γ) g x q (by exact hM.2 q (by omega) (by omega))) k_X12_169 isO_50 rfl (Nat.le_of_ble_eq_true rfl) (by decide) (by decide) ⟨by decide, by decide⟩ dX12_completions_17 (fun pb2 => ?_) (fun pb2 => ?_)
    · skip
      refine z_if_ne (pc := 20) hO (tgt := 27) dX12_completions_20 (by decide) (by decide) (fun _ => ?_) (fun h => absurd h (by decide))
      refine z_iconst (pc := 27) hO dX12_completions_27 ?_
      refine z_callVIm (pc := 28) hO (As := [.int (zi 0)]) (st := []) (c_X12_isFine0 (qL Γ) g x 0 (by first | assumption | omega)) k_X12_63 isO_50 rfl (Nat.le_of_ble_eq_true rfl) (by decide) (by decide) ⟨by decide, by decide⟩ dX12_completions_28 (fun m3 e4 => ?_)
      refine z_if_ne (pc := 31) hO (tgt := 36) dX12_completions_31 (by decide) (by decide) (fun _ => ?_) (fun h => absurd h (by decide))
      have hG := hM.2 q (by omega) (by omega)
      have hs := hG.2.1
      have hth : m3 = up x 50 0 0 := by assumption
      have e51 : m3 51 q = x 51 q := by rw [hth, up_i _ _ _ (by omega)]
      have end_ : nd m3 q = nd x q := by funext p; rw [hth]; exact nd_th
      have hN := nd_rng hG
      have h4 := sq4 (n := x 51 q) (by omega)
      have hcb := CPB (n := x 51 q) (f := nd x q) (by omega) hN (by have := emp_9 (n := x 51 q) (f := nd x q) (by omega); omega)
      refine z_aload_n (pc := 36) hO 1 dX12_completions_36 rfl rfl ?_
      refine z_iload_n (pc := 37) hO 2 dX12_completions_37 rfl rfl ?_
      refine z_ldc (pc := 38) hO n_X12_172 dX12_completions_38 ?_
      refine z_callVV (pc := 40) hO (As := [.int (zi q), .int (zi 65535)]) (st := []) (c_X12_take (qL Γ) g m3 q 65535 (tk (nd x q) (x 51 q * x 51 q)) (by rw [hth]; exact MG_th hG) (by rw [e51]; omega) (by first | assumption | omega) (by intro p a b; rw [e51] at b; refine ⟨fun _ => by rw [end_]; exact tk_in ⟨a, b⟩, fun h => absurd (bit65i (by omega)) h⟩) (by exact tk_rng hN _)) k_X12_173 isO_50 rfl (Nat.le_of_ble_eq_true rfl) (by decide) (by decide) ⟨by decide, by decide⟩ dX12_completions_40 (fun m6 h7 => ?_)
      have hTI := h7
      rw [e51] at hTI
      obtain ⟨t5, ⟨t7, tE⟩, tW, tb, ta⟩ := hTI
      rw [emp_tk] at t7 tE
      have hWK : WK m6 (x 51 q) (tk (nd x q) (x 51 q * x 51 q)) := ⟨t5, tW, tk_rng hN _⟩
      have hEH := EHf (f := nd x q) (n := x 51 q) (by omega) hN
      obtain ⟨m, hm⟩ : ∃ m : Me, m = m6 := ⟨_, rfl⟩
      rw [← hm] at t5 t7 tE tW tb ta
      have k0 : m 50 0 = 0 := by rw [tb 0 (by omega) (by omega), hth, up_s]
      have k1 : m 50 1 = x 50 1 := by rw [tb 1 (by omega) (by omega), hth, up_n _ _ (by omega)]
      have kf : ∀ a, a ≠ 50 → a ≠ 54 → a ≠ 55 → m a = x a := fun a a1 a2 a3 => by rw [ta a a1 a2 a3, hth, up_i _ _ _ a1]
      refine z_aload_n (pc := 43) hO 1 dX12_completions_43 rfl rfl ?_
      refine z_ldc (pc := 44) hO n_X12_177 dX12_completions_44 ?_
      refine z_callVI (pc := 46) hO (As := [.int (zi 2147483647)]) (st := []) (c_X12_search (qL Γ) g m6 2147483647 (x 51 q) ((emp (nd x q) (x 51 q * x 51 q).toNat).length : Int) (eF (emp (nd x q) (x 51 q * x 51 q).toNat)) (tk (nd x q) (x 51 q * x 51 q)) (by exact hEH) (by exact hWK) (by rw [← hm]; exact t7) (by rw [← hm]; exact tE) (by first | assumption | omega) (by rw [CPS]; exact hcb)) k_X12_178 isO_50 rfl (Nat.le_of_ble_eq_true rfl) (by decide) (by decide) ⟨by decide, by decide⟩ dX12_completions_46 (fun z8 m9 h10 => ?_)
      have hsr := h10
      rw [CPS] at hsr
      exact z_iret (pc := 49) hO hr hQ rfl dX12_completions_49 (by first | (refine ⟨by rw [hsr.1]; omega, ⟨by rw [hsr.2.2 50 (by omega) (by omega) (by omega), ← hm]; exact k0, by rw [hsr.2.2 50 (by omega) (by omega) (by omega), ← hm]; exact k1, by rw [hsr.2.2 51 (by omega) (by omega) (by omega), ← hm, kf 51 (by omega) (by omega) (by omega)], by rw [hsr.2.2 52 (by omega) (by omega) (by omega), ← hm, kf 52 (by omega) (by omega) (by omega)], fun a ha => by rw [hsr.2.2 a (by omega) (by omega) (by omega), ← hm]; exact kf a (by omega) (by omega) (by omega)⟩⟩; done) | (exfalso; omega))
    · skip
      exact absurd hok.2 pb2
  · skip
    exfalso; omega

set_option maxHeartbeats 600000 in
theorem e_X12_completion (l : Launch) (g : Gl) (x : Me) (q : Int) (w : Int) (r : Int) (c : Int)  (hM : MS x) (r_q : -2147483648 ≤ q ∧ q < 2147483648) (r_w : -2147483648 ≤ w ∧ w < 2147483648) (r_r : -2147483648 ≤ r ∧ r < 2147483648) (r_c : -2147483648 ≤ c ∧ c < 2147483648) (hno : ¬ ((((0 ≤ q ∧ q < x 50 1) ∧ (0 ≤ r ∧ r < x 51 q) ∧ 0 ≤ c ∧ c < x 51 q)) ∧ (0 ≤ w) ∧ (x 51 q ≤ 4 ∧ cnt (x 51 q) (nd x q) 0 ≤ 9))) : ctQ l g yX12_completion cX12_completion 6 (some .int) 5 115 [.ref (gA g 50), .int (zi q), .int (zi w), .int (zi r), .int (zi c)] x (QIu g (fun z x' => z = 0 ∧ x' = up x 50 0 (exn (((0 ≤ q ∧ q < x 50 1) ∧ (0 ≤ r ∧ r < x 51 q) ∧ 0 ≤ c ∧ c < x 51 q)) (0 ≤ w) 1 2 3))) := by
  refine ct_start (own := RX12) (lv := [(0, .ref (gA g 50)), (1, .int (zi q)), (2, .int (zi w)), (3, .int (zi r)), (4, .int (zi c))]) (plainFor_of_name (by decide)) rfl (Nat.le_of_ble_eq_true rfl) rfl ?_
  intro Γ hΓ hO hr hQ _
  have hM1 := hM.1
  refine z_aload_n (pc := 0) hO 0 dX12_completion_0 rfl rfl ?_
  refine z_iload_n (pc := 1) hO 1 dX12_completion_1 rfl rfl ?_
  refine z_iload_n (pc := 2) hO 3 dX12_completion_2 rfl rfl ?_
  refine z_iload (pc := 3) hO 4 dX12_completion_3 rfl ?_
  refine z_callVB (pc := 5) hO (As := [.int (zi q), .int (zi r), .int (zi c)]) (st := []) (c_X12_isPoint (qL Γ) g x q r c (by first | assumption | omega) (by first | assumption | omega) (by first | assumption | omega) (by first | assumption | omega)) k_X12_73 isO_50 rfl (Nat.le_of_ble_eq_true rfl) (by decide) (by decide) ⟨by decide, by decide⟩ dX12_completion_5 (fun pb1 => ?_) (fun pb1 => ?_)
  · skip
    refine z_istore (pc := 8) hO (lv' := [(5, .int (zi 1)), (0, .ref (gA g 50)), (1, .int (zi q)), (2, .int (zi w)), (3, .int (zi r)), (4, .int (zi c))]) dX12_completion_8 (by decide) rfl ?_
    refine z_aload_n (pc := 10) hO 1 dX12_completion_10 rfl rfl ?_
    refine z_iload (pc := 11) hO 0 dX12_completion_11 rfl ?_
    refine z_if_ne (pc := 13) hO (tgt := 20) dX12_completion_13 (by decide) (by decide) (fun _ => ?_) (fun h => absurd h (by decide))
    refine z_iload_n (pc := 20) hO 3 dX12_completion_20 rfl rfl ?_
    refine z_if_ge (pc := 21) hO (tgt := 28) dX12_completion_21 (by decide) (by omega) (fun b2 => ?_) (fun b2 => ?_)
    · refine z_aload_n (pc := 28) hO 1 dX12_completion_28 rfl rfl ?_
      refine z_iload_n (pc := 29) hO 2 dX12_completion_29 rfl rfl ?_
      refine z_callVB (pc := 30) hO (As := [.int (zi q)]) (st := [.ref (gA g 50)]) (c_X12_isSearched (qL Γ) g x q (by exact hM.2 q (by omega) (by omega))) k_X12_169 isO_50 rfl (Nat.le_of_ble_eq_true rfl) (by decide) (by decide) ⟨by decide, by decide⟩ dX12_completion_30 (fun pb3 => ?_) (fun pb3 => ?_)
      · skip
        have hpb := pb3
        refine z_if_ne (pc := 33) hO (tgt := 40) dX12_completion_33 (by decide) (by decide) (fun _ => ?_) (fun h => absurd h (by decide))
        refine z_iconst (pc := 40) hO dX12_completion_40 ?_
        refine z_callVIm (pc := 41) hO (As := [.int (zi 0)]) (st := []) (c_X12_isFine0 (qL Γ) g x 0 (by first | assumption | omega)) k_X12_63 isO_50 rfl (Nat.le_of_ble_eq_true rfl) (by decide) (by decide) ⟨by decide, by decide⟩ dX12_completion_41 (fun m4 e5 => ?_)
        refine z_if_ne (pc := 44) hO (tgt := 49) dX12_completion_44 (by decide) (by decide) (fun _ => ?_) (fun h => absurd h (by decide))
        first | (exfalso; omega) | exact absurd ⟨by omega, by omega, hpb⟩ hno
      · skip
        have hpb := pb3
        refine z_if_ne (pc := 33) hO (tgt := 40) dX12_completion_33 (by decide) (by decide) (fun h => absurd h (by decide)) (fun _ => ?_)
        refine z_iconst (pc := 36) hO dX12_completion_36 ?_
        refine z_goto (pc := 37) hO (tgt := 41) dX12_completion_37 (by decide) ?_
        refine z_callVIm (pc := 41) hO (As := [.int (zi 3)]) (st := []) (c_X12_isFine1 (qL Γ) g x 3 (by first | assumption | omega)) k_X12_63 isO_50 rfl (Nat.le_of_ble_eq_true rfl) (by decide) (by decide) ⟨by decide, by decide⟩ dX12_completion_41 (fun m6 e7 => ?_)
        refine z_if_ne (pc := 44) hO (tgt := 49) dX12_completion_44 (by decide) (by decide) (fun h => absurd h (by decide)) (fun _ => ?_)
        refine z_iconst (pc := 47) hO dX12_completion_47 ?_
        exact z_iret (pc := 48) hO hr hQ rfl dX12_completion_48 (by first | (refine ⟨rfl, ?_⟩; first | (rw [exn_1 (by omega)]; assumption) | (rw [exn_2 (by first | trivial | omega) (by omega)]; assumption) | (rw [exn_3 (by first | trivial | omega) (by first | trivial | omega)]; assumption); done) | (exfalso; omega))
    · refine z_iconst (pc := 24) hO dX12_completion_24 ?_
      refine z_goto (pc := 25) hO (tgt := 41) dX12_completion_25 (by decide) ?_
      refine z_callVIm (pc := 41) hO (As := [.int (zi 2)]) (st := []) (c_X12_isFine1 (qL Γ) g x 2 (by first | assumption | omega)) k_X12_63 isO_50 rfl (Nat.le_of_ble_eq_true rfl) (by decide) (by decide) ⟨by decide, by decide⟩ dX12_completion_41 (fun m8 e9 => ?_)
      refine z_if_ne (pc := 44) hO (tgt := 49) dX12_completion_44 (by decide) (by decide) (fun h => absurd h (by decide)) (fun _ => ?_)
      refine z_iconst (pc := 47) hO dX12_completion_47 ?_
      exact z_iret (pc := 48) hO hr hQ rfl dX12_completion_48 (by first | (refine ⟨rfl, ?_⟩; first | (rw [exn_1 (by omega)]; assumption) | (rw [exn_2 (by first | trivial | omega) (by omega)]; assumption) | (rw [exn_3 (by first | trivial | omega) (by first | trivial | omega)]; assumption); done) | (exfalso; omega))
  · skip
    refine z_istore (pc := 8) hO (lv' := [(5, .int (zi 0)), (0, .ref (gA g 50)), (1, .int (zi q)), (2, .int (zi w)), (3, .int (zi r)), (4, .int (zi c))]) dX12_completion_8 (by decide) rfl ?_
    refine z_aload_n (pc := 10) hO 1 dX12_completion_10 rfl rfl ?_
    refine z_iload (pc := 11) hO 0 dX12_completion_11 rfl ?_
    refine z_if_ne (pc := 13) hO (tgt := 20) dX12_completion_13 (by decide) (by decide) (fun h => absurd h (by decide)) (fun _ => ?_)
    refine z_iconst (pc := 16) hO dX12_completion_16 ?_
    refine z_goto (pc := 17) hO (tgt := 41) dX12_completion_17 (by decide) ?_
    refine z_callVIm (pc := 41) hO (As := [.int (zi 1)]) (st := []) (c_X12_isFine1 (qL Γ) g x 1 (by first | assumption | omega)) k_X12_63 isO_50 rfl (Nat.le_of_ble_eq_true rfl) (by decide) (by decide) ⟨by decide, by decide⟩ dX12_completion_41 (fun m10 e11 => ?_)
    refine z_if_ne (pc := 44) hO (tgt := 49) dX12_completion_44 (by decide) (by decide) (fun h => absurd h (by decide)) (fun _ => ?_)
    refine z_iconst (pc := 47) hO dX12_completion_47 ?_
    exact z_iret (pc := 48) hO hr hQ rfl dX12_completion_48 (by first | (refine ⟨rfl, ?_⟩; first | (rw [exn_1 (by omega)]; assumption) | (rw [exn_2 (by first | trivial | omega) (by omega)]; assumption) | (rw [exn_3 (by first | trivial | omega) (by first | trivial | omega)]; assumption); done) | (exfalso; omega))

set_option maxHeartbeats 600000 in
theorem c_X12_completion (l : Launch) (g : Gl) (x : Me) (q : Int) (w : Int) (r : Int) (c : Int)  (hM : MS x) (r_q : -2147483648 ≤ q ∧ q < 2147483648) (r_w : -2147483648 ≤ w ∧ w < 2147483648) (r_r : -2147483648 ≤ r ∧ r < 2147483648) (r_c : -2147483648 ≤ c ∧ c < 2147483648) (hok : (((0 ≤ q ∧ q < x 50 1) ∧ (0 ≤ r ∧ r < x 51 q) ∧ 0 ≤ c ∧ c < x 51 q)) ∧ (0 ≤ w) ∧ (x 51 q ≤ 4 ∧ cnt (x 51 q) (nd x q) 0 ≤ 9)) : ctQ l g yX12_completion cX12_completion 6 (some .int) 5 115 [.ref (gA g 50), .int (zi q), .int (zi w), .int (zi r), .int (zi c)] x (QIu g (fun z x' => z = cgt (x 51 q) (nd x q) w (x 51 q * r + c) ∧ KM x x')) := by
  refine ct_start (own := RX12) (lv := [(0, .ref (gA g 50)), (1, .int (zi q)), (2, .int (zi w)), (3, .int (zi r)), (4, .int (zi c))]) (plainFor_of_name (by decide)) rfl (Nat.le_of_ble_eq_true rfl) rfl ?_
  intro Γ hΓ hO hr hQ _
  have hM1 := hM.1
  refine z_aload_n (pc := 0) hO 0 dX12_completion_0 rfl rfl ?_
  refine z_iload_n (pc := 1) hO 1 dX12_completion_1 rfl rfl ?_
  refine z_iload_n (pc := 2) hO 3 dX12_completion_2 rfl rfl ?_
  refine z_iload (pc := 3) hO 4 dX12_completion_3 rfl ?_
  refine z_callVB (pc := 5) hO (As := [.int (zi q), .int (zi r), .int (zi c)]) (st := []) (c_X12_isPoint (qL Γ) g x q r c (by first | assumption | omega) (by first | assumption | omega) (by first | assumption | omega) (by first | assumption | omega)) k_X12_73 isO_50 rfl (Nat.le_of_ble_eq_true rfl) (by decide) (by decide) ⟨by decide, by decide⟩ dX12_completion_5 (fun pb1 => ?_) (fun pb1 => ?_)
  · skip
    refine z_istore (pc := 8) hO (lv' := [(5, .int (zi 1)), (0, .ref (gA g 50)), (1, .int (zi q)), (2, .int (zi w)), (3, .int (zi r)), (4, .int (zi c))]) dX12_completion_8 (by decide) rfl ?_
    refine z_aload_n (pc := 10) hO 1 dX12_completion_10 rfl rfl ?_
    refine z_iload (pc := 11) hO 0 dX12_completion_11 rfl ?_
    refine z_if_ne (pc := 13) hO (tgt := 20) dX12_completion_13 (by decide) (by decide) (fun _ => ?_) (fun h => absurd h (by decide))
    refine z_iload_n (pc := 20) hO 3 dX12_completion_20 rfl rfl ?_
    refine z_if_ge (pc := 21) hO (tgt := 28) dX12_completion_21 (by decide) (by omega) (fun b2 => ?_) (fun b2 => ?_)
    · refine z_aload_n (pc := 28) hO 1 dX12_completion_28 rfl rfl ?_
      refine z_iload_n (pc := 29) hO 2 dX12_completion_29 rfl rfl ?_
      refine z_callVB (pc := 30) hO (As := [.int (zi q)]) (st := [.ref (gA g 50)]) (c_X12_isSearched (qL Γ) g x q (by exact hM.2 q (by omega) (by omega))) k_X12_169 isO_50 rfl (Nat.le_of_ble_eq_true rfl) (by decide) (by decide) ⟨by decide, by decide⟩ dX12_completion_30 (fun pb3 => ?_) (fun pb3 => ?_)
      · skip
        refine z_if_ne (pc := 33) hO (tgt := 40) dX12_completion_33 (by decide) (by decide) (fun _ => ?_) (fun h => absurd h (by decide))
        refine z_iconst (pc := 40) hO dX12_completion_40 ?_
        refine z_callVIm (pc := 41) hO (As := [.int (zi 0)]) (st := []) (c_X12_isFine0 (qL Γ) g x 0 (by first | assumption | omega)) k_X12_63 isO_50 rfl (Nat.le_of_ble_eq_true rfl) (by decide) (by decide) ⟨by decide, by decide⟩ dX12_completion_41 (fun m4 e5 => ?_)
        refine z_if_ne (pc := 44) hO (tgt := 49) dX12_completion_44 (by decide) (by decide) (fun _ => ?_) (fun h => absurd h (by decide))
        have hG := hM.2 q (by omega) (by omega)
        have hs := hG.2.1
        have hth : m4 = up x 50 0 0 := by assumption
        have e51 : m4 51 q = x 51 q := by rw [hth, up_i _ _ _ (by omega)]
        have end_ : nd m4 q = nd x q := by funext p; rw [hth]; exact nd_th
        have hN := nd_rng hG
        have h4 := sq4 (n := x 51 q) (by omega)
        have hcb := CPB (n := x 51 q) (f := nd x q) (by omega) hN (by have := emp_9 (n := x 51 q) (f := nd x q) (by omega); omega)
        have hpl0 := pl9 (r := r) (c := c) hs (by omega) (by omega)
        refine z_aload_n (pc := 49) hO 1 dX12_completion_49 rfl rfl ?_
        refine z_iload_n (pc := 50) hO 2 dX12_completion_50 rfl rfl ?_
        refine z_ldc (pc := 51) hO n_X12_172 dX12_completion_51 ?_
        refine z_callVV (pc := 53) hO (As := [.int (zi q), .int (zi 65535)]) (st := []) (c_X12_take (qL Γ) g m4 q 65535 (tk (nd x q) (x 51 q * x 51 q)) (by rw [hth]; exact MG_th hG) (by rw [e51]; omega) (by first | assumption | omega) (by intro p a b; rw [e51] at b; refine ⟨fun _ => by rw [end_]; exact tk_in ⟨a, b⟩, fun h => absurd (bit65i (by omega)) h⟩) (by exact tk_rng hN _)) k_X12_173 isO_50 rfl (Nat.le_of_ble_eq_true rfl) (by decide) (by decide) ⟨by decide, by decide⟩ dX12_completion_53 (fun m7 h8 => ?_)
        have hTI := h8
        rw [e51] at hTI
        obtain ⟨t5, ⟨t7, tE⟩, tW, tb, ta⟩ := hTI
        rw [emp_tk] at t7 tE
        have hWK : WK m7 (x 51 q) (tk (nd x q) (x 51 q * x 51 q)) := ⟨t5, tW, tk_rng hN _⟩
        have hEH := EHf (f := nd x q) (n := x 51 q) (by omega) hN
        obtain ⟨m, hm⟩ : ∃ m : Me, m = m7 := ⟨_, rfl⟩
        rw [← hm] at t5 t7 tE tW tb ta
        have k0 : m 50 0 = 0 := by rw [tb 0 (by omega) (by omega), hth, up_s]
        have k1 : m 50 1 = x 50 1 := by rw [tb 1 (by omega) (by omega), hth, up_n _ _ (by omega)]
        have kf : ∀ a, a ≠ 50 → a ≠ 54 → a ≠ 55 → m a = x a := fun a a1 a2 a3 => by rw [ta a a1 a2 a3, hth, up_i _ _ _ a1]
        refine z_iload_n (pc := 56) hO 3 dX12_completion_56 rfl rfl ?_
        refine z_ldc (pc := 57) hO n_X12_177 dX12_completion_57 ?_
        refine z_icmp_eq (pc := 59) hO (tgt := 73) dX12_completion_59 (by decide) (by omega) (by omega) (fun b9 => ?_) (fun b9 => ?_)
        · refine z_iconst (pc := 73) hO dX12_completion_73 ?_
          exact z_iret (pc := 74) hO hr hQ rfl dX12_completion_74 (by first | (first | exact ⟨(hmc.1 (by omega)).symm, ⟨by rw [hsr.2.2 50 (by omega) (by omega) (by omega), ← hm]; exact k0, by rw [hsr.2.2 50 (by omega) (by omega) (by omega), ← hm]; exact k1, by rw [hsr.2.2 51 (by omega) (by omega) (by omega), ← hm, kf 51 (by omega) (by omega) (by omega)], by rw [hsr.2.2 52 (by omega) (by omega) (by omega), ← hm, kf 52 (by omega) (by omega) (by omega)], fun a ha => by rw [hsr.2.2 a (by omega) (by omega) (by omega), ← hm]; exact kf a (by omega) (by omega) (by omega)⟩⟩ | exact ⟨(cgt_big (by omega)).symm, ⟨by rw [← hm]; exact k0, by rw [← hm]; exact k1, by rw [← hm, kf 51 (by omega) (by omega) (by omega)], by rw [← hm, kf 52 (by omega) (by omega) (by omega)], fun a ha => by rw [← hm]; exact kf a (by omega) (by omega) (by omega)⟩⟩; done) | (exfalso; omega))
        · refine z_aload_n (pc := 62) hO 1 dX12_completion_62 rfl rfl ?_
          refine z_iload_n (pc := 63) hO 3 dX12_completion_63 rfl rfl ?_
          refine z_iconst (pc := 64) hO dX12_completion_64 ?_
          refine z_iadd (pc := 65) hO dX12_completion_65 ?_
          refine z_callVI (pc := 66) hO (As := [.int (zi (w + 1))]) (st := []) (c_X12_search (qL Γ) g m7 (w + 1) (x 51 q) ((emp (nd x q) (x 51 q * x 51 q).toNat).length : Int) (eF (emp (nd x q) (x 51 q * x 51 q).toNat)) (tk (nd x q) (x 51 q * x 51 q)) (by exact hEH) (by exact hWK) (by rw [← hm]; exact t7) (by rw [← hm]; exact tE) (by first | assumption | omega) (by rw [CPS]; exact hcb)) k_X12_178 isO_50 rfl (Nat.le_of_ble_eq_true rfl) (by decide) (by decide) ⟨by decide, by decide⟩ dX12_completion_66 (fun z10 m11 h12 => ?_)
          have hsr := h12
          rw [CPS] at hsr
          have hmc := min_cgt (n := x 51 q) (f := nd x q) (p := x 51 q * r + c) (w := w) (by omega) hsr.1
          have hm57 := hsr.2.1
          refine z_iload_n (pc := 69) hO 3 dX12_completion_69 rfl rfl ?_
          refine z_icmp_gt (pc := 70) hO (tgt := 75) dX12_completion_70 (by decide) (by omega) (by omega) (fun b13 => ?_) (fun b13 => ?_)
          · refine z_aload_n (pc := 75) hO 1 dX12_completion_75 rfl rfl ?_
            refine gf_X12_found (pc := 76) hO f_X12_28 dX12_completion_76 ?_
            refine z_aload_n (pc := 79) hO 1 dX12_completion_79 rfl rfl ?_
            refine gf_X12_side (pc := 80) hO f_X12_150 dX12_completion_80 ?_
            rw [hsr.2.2 50 (by omega) (by omega) (by omega), ← hm, t5]
            refine z_iload_n (pc := 83) hO 4 dX12_completion_83 rfl rfl ?_
            refine z_imul (pc := 84) hO dX12_completion_84 ?_
            refine z_iload (pc := 85) hO 5 dX12_completion_85 rfl ?_
            refine z_iadd (pc := 87) hO dX12_completion_87 ?_
            refine z_iald (pc := 88) hO isI_57 (by omega) dX12_completion_88 ?_
            exact z_iret (pc := 89) hO hr hQ rfl dX12_completion_89 (by first | (refine ⟨?_, ⟨by rw [hsr.2.2 50 (by omega) (by omega) (by omega), ← hm]; exact k0, by rw [hsr.2.2 50 (by omega) (by omega) (by omega), ← hm]; exact k1, by rw [hsr.2.2 51 (by omega) (by omega) (by omega), ← hm, kf 51 (by omega) (by omega) (by omega)], by rw [hsr.2.2 52 (by omega) (by omega) (by omega), ← hm, kf 52 (by omega) (by omega) (by omega)], fun a ha => by rw [hsr.2.2 a (by omega) (by omega) (by omega), ← hm]; exact kf a (by omega) (by omega) (by omega)⟩⟩; rw [(hmc.2 (by omega)).2]; exact hm57 (by omega) _ hpl0.1 hpl0.2.1; done) | (exfalso; omega))
          · refine z_iconst (pc := 73) hO dX12_completion_73 ?_
            exact z_iret (pc := 74) hO hr hQ rfl dX12_completion_74 (by first | (first | exact ⟨(hmc.1 (by omega)).symm, ⟨by rw [hsr.2.2 50 (by omega) (by omega) (by omega), ← hm]; exact k0, by rw [hsr.2.2 50 (by omega) (by omega) (by omega), ← hm]; exact k1, by rw [hsr.2.2 51 (by omega) (by omega) (by omega), ← hm, kf 51 (by omega) (by omega) (by omega)], by rw [hsr.2.2 52 (by omega) (by omega) (by omega), ← hm, kf 52 (by omega) (by omega) (by omega)], fun a ha => by rw [hsr.2.2 a (by omega) (by omega) (by omega), ← hm]; exact kf a (by omega) (by omega) (by omega)⟩⟩ | exact ⟨(cgt_big (by omega)).symm, ⟨by rw [← hm]; exact k0, by rw [← hm]; exact k1, by rw [← hm, kf 51 (by omega) (by omega) (by omega)], by rw [← hm, kf 52 (by omega) (by omega) (by omega)], fun a ha => by rw [← hm]; exact kf a (by omega) (by omega) (by omega)⟩⟩; done) | (exfalso; omega))
      · skip
        exact absurd hok.2.2 pb3
    · refine z_iconst (pc := 24) hO dX12_completion_24 ?_
      refine z_goto (pc := 25) hO (tgt := 41) dX12_completion_25 (by decide) ?_
      refine z_callVIm (pc := 41) hO (As := [.int (zi 2)]) (st := []) (c_X12_isFine1 (qL Γ) g x 2 (by first | assumption | omega)) k_X12_63 isO_50 rfl (Nat.le_of_ble_eq_true rfl) (by decide) (by decide) ⟨by decide, by decide⟩ dX12_completion_41 (fun m14 e15 => ?_)
      refine z_if_ne (pc := 44) hO (tgt := 49) dX12_completion_44 (by decide) (by decide) (fun h => absurd h (by decide)) (fun _ => ?_)
      refine z_iconst (pc := 47) hO dX12_completion_47 ?_
      exact z_iret (pc := 48) hO hr hQ rfl dX12_completion_48 (by first | (refine ⟨?_, ⟨by rw [hsr.2.2 50 (by omega) (by omega) (by omega), ← hm]; exact k0, by rw [hsr.2.2 50 (by omega) (by omega) (by omega), ← hm]; exact k1, by rw [hsr.2.2 51 (by omega) (by omega) (by omega), ← hm, kf 51 (by omega) (by omega) (by omega)], by rw [hsr.2.2 52 (by omega) (by omega) (by omega), ← hm, kf 52 (by omega) (by omega) (by omega)], fun a ha => by rw [hsr.2.2 a (by omega) (by omega) (by omega), ← hm]; exact kf a (by omega) (by omega) (by omega)⟩⟩; rw [(hmc.2 (by omega)).2]; exact hm57 (by omega) _ hpl0.1 hpl0.2.1; done) | (exfalso; omega))
  · skip
    exfalso; omega

