set_option maxHeartbeats 600000 in
theorem c_X12_ones (l : Launch) (g : Gl) (x : Me) (s : Int)  (hs : 0 ≤ s ∧ s < 512) : ctQ l g yX12_ones cX12_ones 3 (some .int) 1 20 [.int (zi s)] x (QIu g (fun z x' => z = (pop s) ∧ x' = x)) := by
  refine ct_start (own := RX12) (lv := [(0, .int (zi s))]) (plainFor_of_name (by decide)) rfl (Nat.le_of_ble_eq_true rfl) rfl ?_
  intro Γ hΓ hO hr hQ _
  refine z_iconst (pc := 0) hO dX12_ones_0 ?_
  refine z_istore_n (pc := 1) hO (lv' := [(1, .int (zi 0)), (0, .int (zi s))]) dX12_ones_1 rfl (by decide) rfl ?_
  refine z_iload_n (pc := 2) hO 1 dX12_ones_2 rfl rfl ?_
  refine z_istore_n (pc := 3) hO (lv' := [(2, .int (zi s)), (1, .int (zi 0)), (0, .int (zi s))]) dX12_ones_3 rfl (by decide) rfl ?_
  have L4 : ∀ (N : Nat) (w : Int) (l2 : Int), l2.toNat < N → (0 ≤ l2 ∧ l2 < 512) → (w + pop l2 = pop s) → (0 ≤ w ∧ w ≤ 1000 - l2) → Zz Γ g 3 0 0 x 4 [(0, .int (zi s)), (1, .int (zi w)), (2, .int (zi l2))] [] := by
    intro N
    induction N with
    | zero => intro w l2 hm; exact absurd hm (Nat.not_lt_zero _)
    | succ N ih4 =>
      intro w l2 hm h0 hw hw9
      have hpl := pop_rng h0
      refine z_iload_n (pc := 4) hO 2 dX12_ones_4 rfl rfl ?_
      refine z_if_le (pc := 5) hO (tgt := 21) dX12_ones_5 (by decide) (by omega) (fun b1 => ?_) (fun b1 => ?_)
      · refine z_iload_n (pc := 21) hO 1 dX12_ones_21 rfl rfl ?_
        exact z_iret (pc := 22) hO hr hQ rfl dX12_ones_22 ⟨by first | (have e : l2 = 0 := (by omega); rw [e] at hw; have e2 : pop 0 = 0 := (by decide); omega; done) | (exfalso; omega), rfl⟩
      · refine z_iload_n (pc := 8) hO 1 dX12_ones_8 rfl rfl ?_
        refine z_iload_n (pc := 9) hO 2 dX12_ones_9 rfl rfl ?_
        refine z_iconst (pc := 10) hO dX12_ones_10 ?_
        refine z_irem (pc := 11) hO dX12_ones_11 (by omega) (by omega) ?_
        refine z_iadd (pc := 12) hO dX12_ones_12 ?_
        refine z_istore_n (pc := 13) hO (lv' := [(1, .int (zi (w + (l2 % 2)))), (0, .int (zi s)), (2, .int (zi l2))]) dX12_ones_13 rfl (by decide) rfl ?_
        refine z_iload_n (pc := 14) hO 2 dX12_ones_14 rfl rfl ?_
        refine z_iconst (pc := 15) hO dX12_ones_15 ?_
        refine z_idiv (pc := 16) hO dX12_ones_16 (by omega) (by omega) ?_
        refine z_istore_n (pc := 17) hO (lv' := [(2, .int (zi (l2 / 2))), (1, .int (zi (w + (l2 % 2)))), (0, .int (zi s))]) dX12_ones_17 rfl (by decide) rfl ?_
        refine z_goto (pc := 18) hO (tgt := 4) dX12_ones_18 (by decide) ?_
        refine z_sub [2, 1, 0] rfl ?_
        exact ih4 (w + (l2 % 2)) (l2 / 2) (by omega) (by omega) (by rw [pop_hi h0] at hw; omega) (by omega)
  refine z_sub [2, 1, 0] rfl ?_
  exact L4 _ 0 s (Nat.lt_succ_self _) (by omega) (by omega) (by omega)

set_option maxHeartbeats 600000 in
theorem e_X12_givens (l : Launch) (g : Gl) (x : Me) (q : Int) (st : Int)  (hM : MS x) (r_q : -2147483648 ≤ q ∧ q < 2147483648) (hst : st = 0 ∨ st = 1) (hno : ¬ ((0 ≤ q ∧ q < x 50 1) ∧ (x 51 q ≤ 3 ∧ nrm (x 51 q) (nd x q) ∧ mag (x 51 q) (nd x q)))) : ctQ l g yX12_givens cX12_givens 8 (some .int) 5 119 [.ref (gA g 50), .int (zi q), .int (zi st)] x (QIu g (fun z x' => z = 0 ∧ x' = up x 50 0 (exn (0 ≤ q ∧ q < x 50 1) (True) 1 0 2))) := by
  refine ct_start (own := RX12) (lv := [(0, .ref (gA g 50)), (1, .int (zi q)), (2, .int (zi st))]) (plainFor_of_name (by decide)) rfl (Nat.le_of_ble_eq_true rfl) rfl ?_
  intro Γ hΓ hO hr hQ _
  have hM1 := hM.1
  refine z_aload_n (pc := 0) hO 0 dX12_givens_0 rfl rfl ?_
  refine z_iload_n (pc := 1) hO 1 dX12_givens_1 rfl rfl ?_
  refine z_callVB (pc := 2) hO (As := [.int (zi q)]) (st := []) (c_X12_isSquare (qL Γ) g x q (by first | assumption | omega) (by first | assumption | omega)) k_X12_59 isO_50 rfl (Nat.le_of_ble_eq_true rfl) (by decide) (by decide) ⟨by decide, by decide⟩ dX12_givens_2 (fun pb1 => ?_) (fun pb1 => ?_)
  · skip
    refine z_istore_n (pc := 5) hO (lv' := [(3, .int (zi 1)), (0, .ref (gA g 50)), (1, .int (zi q)), (2, .int (zi st))]) dX12_givens_5 rfl (by decide) rfl ?_
    refine z_bipush (pc := 6) hO dX12_givens_6 (by decide) ?_
    refine z_istore (pc := 8) hO (lv' := [(4, .int (zi 79)), (3, .int (zi 1)), (0, .ref (gA g 50)), (1, .int (zi q)), (2, .int (zi st))]) dX12_givens_8 (by decide) rfl ?_
    refine z_aload_n (pc := 10) hO 2 dX12_givens_10 rfl rfl ?_
    refine z_iload_n (pc := 11) hO 1 dX12_givens_11 rfl rfl ?_
    refine z_if_ne (pc := 12) hO (tgt := 19) dX12_givens_12 (by decide) (by decide) (fun _ => ?_) (fun h => absurd h (by decide))
    have hs1 := (hM.2 q (by omega) (by omega)).2.1
    have hq1 := (hM.2 q (by omega) (by omega)).1
    have h79 := LW79 (n := x 51 q) (f := nd x q) hs1
    have hl8 := lws_rng (x 51 q) (nd x q) 8
    have hp8 : p2 ((8 : Nat) : Int) = 256 := by decide
    have hb79 := bnd2_r (a := lws (x 51 q) (nd x q) 8) (b := 79) hl8.1
    have h79n : x 51 q ≤ 3 → bnd2 (lws (x 51 q) (nd x q) 8) 79 ≠ 79 := fun a e => hno ⟨by omega, a, h79.mp e⟩
    refine z_aload_n (pc := 19) hO 2 dX12_givens_19 rfl rfl ?_
    refine gf_X12_sideOf (pc := 20) hO f_X12_7 dX12_givens_20 ?_
    refine z_iload_n (pc := 23) hO 3 dX12_givens_23 rfl rfl ?_
    refine z_iald (pc := 24) hO isI_51 (by omega) dX12_givens_24 ?_
    refine z_iconst (pc := 25) hO dX12_givens_25 ?_
    refine z_icmp_gt (pc := 26) hO (tgt := 42) dX12_givens_26 (by decide) (by omega) (by omega) (fun b2 => ?_) (fun b2 => ?_)
    · refine z_iconst (pc := 42) hO dX12_givens_42 ?_
      refine z_goto (pc := 43) hO (tgt := 47) dX12_givens_43 (by decide) ?_
      refine z_callVIm (pc := 47) hO (As := [.int (zi 2)]) (st := []) (c_X12_isFine1 (qL Γ) g x 2 (by first | assumption | omega)) k_X12_63 isO_50 rfl (Nat.le_of_ble_eq_true rfl) (by decide) (by decide) ⟨by decide, by decide⟩ dX12_givens_47 (fun m3 e4 => ?_)
      refine z_if_ne (pc := 50) hO (tgt := 55) dX12_givens_50 (by decide) (by decide) (fun h => absurd h (by decide)) (fun _ => ?_)
      refine z_iconst (pc := 53) hO dX12_givens_53 ?_
      exact z_iret (pc := 54) hO hr hQ rfl dX12_givens_54 (by first | (refine ⟨rfl, ?_⟩; first | (rw [exn_1 (by omega)]; assumption) | (rw [exn_3 (by first | trivial | omega) (by first | trivial | omega)]; assumption); done) | (exfalso; omega))
    · refine z_aload_n (pc := 29) hO 2 dX12_givens_29 rfl rfl ?_
      refine z_iload_n (pc := 30) hO 3 dX12_givens_30 rfl rfl ?_
      refine z_callVIp (pc := 31) hO (As := [.int (zi q)]) (st := [.ref (gA g 50)]) (c_X12_lawsOf (qL Γ) g x q (by exact hM.2 q (by omega) (by omega))) k_X12_118 isO_50 rfl (Nat.le_of_ble_eq_true rfl) (by decide) (by decide) ⟨by decide, by decide⟩ dX12_givens_31 ?_
      refine z_iload (pc := 34) hO 0 dX12_givens_34 rfl ?_
      refine z_iand (pc := 36) hO (zi (bnd2 (lws (x 51 q) (nd x q) 8) 79)) dX12_givens_36 (by exact bnd2_z (by omega) (by omega)) ?_
      refine z_iload (pc := 37) hO 0 dX12_givens_37 rfl ?_
      refine z_icmp_eq (pc := 39) hO (tgt := 46) dX12_givens_39 (by decide) (by omega) (by omega) (fun b5 => ?_) (fun b5 => ?_)
      · refine z_iconst (pc := 46) hO dX12_givens_46 ?_
        refine z_callVIm (pc := 47) hO (As := [.int (zi 0)]) (st := []) (c_X12_isFine0 (qL Γ) g x 0 (by first | assumption | omega)) k_X12_63 isO_50 rfl (Nat.le_of_ble_eq_true rfl) (by decide) (by decide) ⟨by decide, by decide⟩ dX12_givens_47 (fun m6 e7 => ?_)
        refine z_if_ne (pc := 50) hO (tgt := 55) dX12_givens_50 (by decide) (by decide) (fun _ => ?_) (fun h => absurd h (by decide))
        exfalso; omega
      · refine z_iconst (pc := 42) hO dX12_givens_42 ?_
        refine z_goto (pc := 43) hO (tgt := 47) dX12_givens_43 (by decide) ?_
        refine z_callVIm (pc := 47) hO (As := [.int (zi 2)]) (st := []) (c_X12_isFine1 (qL Γ) g x 2 (by first | assumption | omega)) k_X12_63 isO_50 rfl (Nat.le_of_ble_eq_true rfl) (by decide) (by decide) ⟨by decide, by decide⟩ dX12_givens_47 (fun m8 e9 => ?_)
        refine z_if_ne (pc := 50) hO (tgt := 55) dX12_givens_50 (by decide) (by decide) (fun h => absurd h (by decide)) (fun _ => ?_)
        refine z_iconst (pc := 53) hO dX12_givens_53 ?_
        exact z_iret (pc := 54) hO hr hQ rfl dX12_givens_54 (by first | (refine ⟨rfl, ?_⟩; first | (rw [exn_1 (by omega)]; assumption) | (rw [exn_3 (by first | trivial | omega) (by first | trivial | omega)]; assumption); done) | (exfalso; omega))
  · skip
    refine z_istore_n (pc := 5) hO (lv' := [(3, .int (zi 0)), (0, .ref (gA g 50)), (1, .int (zi q)), (2, .int (zi st))]) dX12_givens_5 rfl (by decide) rfl ?_
    refine z_bipush (pc := 6) hO dX12_givens_6 (by decide) ?_
    refine z_istore (pc := 8) hO (lv' := [(4, .int (zi 79)), (3, .int (zi 0)), (0, .ref (gA g 50)), (1, .int (zi q)), (2, .int (zi st))]) dX12_givens_8 (by decide) rfl ?_
    refine z_aload_n (pc := 10) hO 2 dX12_givens_10 rfl rfl ?_
    refine z_iload_n (pc := 11) hO 1 dX12_givens_11 rfl rfl ?_
    refine z_if_ne (pc := 12) hO (tgt := 19) dX12_givens_12 (by decide) (by decide) (fun h => absurd h (by decide)) (fun _ => ?_)
    refine z_iconst (pc := 15) hO dX12_givens_15 ?_
    refine z_goto (pc := 16) hO (tgt := 47) dX12_givens_16 (by decide) ?_
    refine z_callVIm (pc := 47) hO (As := [.int (zi 1)]) (st := []) (c_X12_isFine1 (qL Γ) g x 1 (by first | assumption | omega)) k_X12_63 isO_50 rfl (Nat.le_of_ble_eq_true rfl) (by decide) (by decide) ⟨by decide, by decide⟩ dX12_givens_47 (fun m10 e11 => ?_)
    refine z_if_ne (pc := 50) hO (tgt := 55) dX12_givens_50 (by decide) (by decide) (fun h => absurd h (by decide)) (fun _ => ?_)
    refine z_iconst (pc := 53) hO dX12_givens_53 ?_
    exact z_iret (pc := 54) hO hr hQ rfl dX12_givens_54 (by first | (refine ⟨rfl, ?_⟩; first | (rw [exn_1 (by omega)]; assumption) | (rw [exn_3 (by first | trivial | omega) (by first | trivial | omega)]; assumption); done) | (exfalso; omega))

set_option maxHeartbeats 600000 in
theorem c_X12_givens (l : Launch) (g : Gl) (x : Me) (q : Int) (st : Int)  (hM : MS x) (r_q : -2147483648 ≤ q ∧ q < 2147483648) (hst : st = 0 ∨ st = 1) (hok : (0 ≤ q ∧ q < x 50 1) ∧ (x 51 q ≤ 3 ∧ nrm (x 51 q) (nd x q) ∧ mag (x 51 q) (nd x q))) : ctQ l g yX12_givens cX12_givens 8 (some .int) 5 119 [.ref (gA g 50), .int (zi q), .int (zi st)] x (QIu g (fun z x' => z = (if st = 1 then gvF (x 51 q) (nd x q) else pop (gvF (x 51 q) (nd x q))) ∧ KM x x')) := by
  refine ct_start (own := RX12) (lv := [(0, .ref (gA g 50)), (1, .int (zi q)), (2, .int (zi st))]) (plainFor_of_name (by decide)) rfl (Nat.le_of_ble_eq_true rfl) rfl ?_
  intro Γ hΓ hO hr hQ _
  have hM1 := hM.1
  refine z_aload_n (pc := 0) hO 0 dX12_givens_0 rfl rfl ?_
  refine z_iload_n (pc := 1) hO 1 dX12_givens_1 rfl rfl ?_
  refine z_callVB (pc := 2) hO (As := [.int (zi q)]) (st := []) (c_X12_isSquare (qL Γ) g x q (by first | assumption | omega) (by first | assumption | omega)) k_X12_59 isO_50 rfl (Nat.le_of_ble_eq_true rfl) (by decide) (by decide) ⟨by decide, by decide⟩ dX12_givens_2 (fun pb1 => ?_) (fun pb1 => ?_)
  · skip
    refine z_istore_n (pc := 5) hO (lv' := [(3, .int (zi 1)), (0, .ref (gA g 50)), (1, .int (zi q)), (2, .int (zi st))]) dX12_givens_5 rfl (by decide) rfl ?_
    refine z_bipush (pc := 6) hO dX12_givens_6 (by decide) ?_
    refine z_istore (pc := 8) hO (lv' := [(4, .int (zi 79)), (3, .int (zi 1)), (0, .ref (gA g 50)), (1, .int (zi q)), (2, .int (zi st))]) dX12_givens_8 (by decide) rfl ?_
    refine z_aload_n (pc := 10) hO 2 dX12_givens_10 rfl rfl ?_
    refine z_iload_n (pc := 11) hO 1 dX12_givens_11 rfl rfl ?_
    refine z_if_ne (pc := 12) hO (tgt := 19) dX12_givens_12 (by decide) (by decide) (fun _ => ?_) (fun h => absurd h (by decide))
    have hs1 := (hM.2 q (by omega) (by omega)).2.1
    have hq1 := (hM.2 q (by omega) (by omega)).1
    have h79 := LW79 (n := x 51 q) (f := nd x q) hs1
    have hl8 := lws_rng (x 51 q) (nd x q) 8
    have hp8 : p2 ((8 : Nat) : Int) = 256 := by decide
    have hb79 := bnd2_r (a := lws (x 51 q) (nd x q) 8) (b := 79) hl8.1
    have h79v := h79.mpr hok.2.2
    refine z_aload_n (pc := 19) hO 2 dX12_givens_19 rfl rfl ?_
    refine gf_X12_sideOf (pc := 20) hO f_X12_7 dX12_givens_20 ?_
    refine z_iload_n (pc := 23) hO 3 dX12_givens_23 rfl rfl ?_
    refine z_iald (pc := 24) hO isI_51 (by omega) dX12_givens_24 ?_
    refine z_iconst (pc := 25) hO dX12_givens_25 ?_
    refine z_icmp_gt (pc := 26) hO (tgt := 42) dX12_givens_26 (by decide) (by omega) (by omega) (fun b2 => ?_) (fun b2 => ?_)
    · refine z_iconst (pc := 42) hO dX12_givens_42 ?_
      refine z_goto (pc := 43) hO (tgt := 47) dX12_givens_43 (by decide) ?_
      refine z_callVIm (pc := 47) hO (As := [.int (zi 2)]) (st := []) (c_X12_isFine1 (qL Γ) g x 2 (by first | assumption | omega)) k_X12_63 isO_50 rfl (Nat.le_of_ble_eq_true rfl) (by decide) (by decide) ⟨by decide, by decide⟩ dX12_givens_47 (fun m3 e4 => ?_)
      refine z_if_ne (pc := 50) hO (tgt := 55) dX12_givens_50 (by decide) (by decide) (fun h => absurd h (by decide)) (fun _ => ?_)
      refine z_iconst (pc := 53) hO dX12_givens_53 ?_
      exact z_iret (pc := 54) hO hr hQ rfl dX12_givens_54 (by first | (exfalso; have q1 := hA (p2 (x 51 q * x 51 q) - 1) (by omega) (by omega) hta; omega; done) | (exfalso; omega))
    · refine z_aload_n (pc := 29) hO 2 dX12_givens_29 rfl rfl ?_
      refine z_iload_n (pc := 30) hO 3 dX12_givens_30 rfl rfl ?_
      refine z_callVIp (pc := 31) hO (As := [.int (zi q)]) (st := [.ref (gA g 50)]) (c_X12_lawsOf (qL Γ) g x q (by exact hM.2 q (by omega) (by omega))) k_X12_118 isO_50 rfl (Nat.le_of_ble_eq_true rfl) (by decide) (by decide) ⟨by decide, by decide⟩ dX12_givens_31 ?_
      refine z_iload (pc := 34) hO 0 dX12_givens_34 rfl ?_
      refine z_iand (pc := 36) hO (zi (bnd2 (lws (x 51 q) (nd x q) 8) 79)) dX12_givens_36 (by exact bnd2_z (by omega) (by omega)) ?_
      refine z_iload (pc := 37) hO 0 dX12_givens_37 rfl ?_
      refine z_icmp_eq (pc := 39) hO (tgt := 46) dX12_givens_39 (by decide) (by omega) (by omega) (fun b5 => ?_) (fun b5 => ?_)
      · refine z_iconst (pc := 46) hO dX12_givens_46 ?_
        refine z_callVIm (pc := 47) hO (As := [.int (zi 0)]) (st := []) (c_X12_isFine0 (qL Γ) g x 0 (by first | assumption | omega)) k_X12_63 isO_50 rfl (Nat.le_of_ble_eq_true rfl) (by decide) (by decide) ⟨by decide, by decide⟩ dX12_givens_47 (fun m6 e7 => ?_)
        refine z_if_ne (pc := 50) hO (tgt := 55) dX12_givens_50 (by decide) (by decide) (fun _ => ?_) (fun h => absurd h (by decide))
        have hG := hM.2 q (by omega) (by omega)
        have hs := hG.2.1
        have hth : m6 = up x 50 0 0 := by assumption
        have e51 : m6 51 q = x 51 q := by rw [hth, up_i _ _ _ (by omega)]
        have end_ : nd m6 q = nd x q := by funext p; rw [hth]; exact nd_th
        have hN := nd_rng hG
        have h4 := sq4 (n := x 51 q) (by omega)
        have hPR := PR_of (n := x 51 q) (f := nd x q) (by omega) hok.2.2.1 hok.2.2.2
        have hbst := gvF_best (n := x 51 q) (f := nd x q) (by omega)
        have hpm := popm (n := x 51 q) (by omega)
        have hta := tel_al (n := x 51 q) (f := nd x q) (by omega)
        have h99 : x 51 q * x 51 q ≤ 9 := by have h1 : x 51 q = 1 ∨ x 51 q = 2 ∨ x 51 q = 3 := (by omega); rcases h1 with h | h | h <;> rw [h] <;> decide
        have hp9 := p2_9 (k := x 51 q * x 51 q) (by omega)
        refine z_aload_n (pc := 55) hO 2 dX12_givens_55 rfl rfl ?_
        refine z_iload_n (pc := 56) hO 3 dX12_givens_56 rfl rfl ?_
        refine z_callVIp (pc := 57) hO (As := [.int (zi q)]) (st := []) (c_X12_areaOf (qL Γ) g m6 q (by rw [hth]; exact MG_th hG)) k_X12_100 isO_50 rfl (Nat.le_of_ble_eq_true rfl) (by decide) (by decide) ⟨by decide, by decide⟩ dX12_givens_57 ?_
        rw [e51]
        refine z_istore (pc := 60) hO (lv' := [(5, .int (zi (x 51 q * x 51 q))), (4, .int (zi 79)), (3, .int (zi 1)), (0, .ref (gA g 50)), (1, .int (zi q)), (2, .int (zi st))]) dX12_givens_60 (by decide) rfl ?_
        refine z_iconst (pc := 62) hO dX12_givens_62 ?_
        refine z_istore (pc := 63) hO (lv' := [(6, .int (zi 0)), (5, .int (zi (x 51 q * x 51 q))), (4, .int (zi 79)), (3, .int (zi 1)), (0, .ref (gA g 50)), (1, .int (zi q)), (2, .int (zi st))]) dX12_givens_63 (by decide) rfl ?_
        have L65 : ∀ (N : Nat) (w : Int) (y : Me), ((x 51 q * x 51 q) + 1 - w).toNat < N → (0 ≤ w ∧ w ≤ (x 51 q * x 51 q) + 1) → (∀ u, 0 ≤ u → u ≤ (p2 (x 51 q * x 51 q) - 1) → telB (fun k => dfA (x 51 q) (nd x q) k (x 51 q * x 51 q).toNat) u = true → w ≤ pop u) → ((∀ b, b ≠ 5 → b ≠ 7 → y 50 b = up x 50 0 0 50 b) ∧ ∀ a, a ≠ 50 → a ≠ 54 → a ≠ 55 → a ≠ 56 → a ≠ 57 → y a = x a) → Zz Γ g 8 0 0 y 65 [(0, .ref (gA g 50)), (1, .int (zi q)), (2, .int (zi st)), (3, .int (zi 1)), (4, .int (zi 79)), (5, .int (zi (x 51 q * x 51 q))), (6, .int (zi w))] [] := by
          intro N
          induction N with
          | zero => intro w y hm; exact absurd hm (Nat.not_lt_zero _)
          | succ N ih65 =>
            intro w y hm h0 hA hyg
            refine z_iload (pc := 65) hO 6 dX12_givens_65 rfl ?_
            refine z_iload (pc := 67) hO 5 dX12_givens_67 rfl ?_
            refine z_icmp_gt (pc := 69) hO (tgt := 134) dX12_givens_69 (by decide) (by omega) (by omega) (fun b8 => ?_) (fun b8 => ?_)
            · refine z_iconst (pc := 134) hO dX12_givens_134 ?_
              exact z_iret (pc := 135) hO hr hQ rfl dX12_givens_135 (by first | (exfalso; have q1 := hA (p2 (x 51 q * x 51 q) - 1) (by omega) (by omega) hta; omega; done) | (exfalso; omega))
            · refine z_iconst (pc := 72) hO dX12_givens_72 ?_
              refine z_istore (pc := 73) hO (lv' := [(7, .int (zi 0)), (0, .ref (gA g 50)), (1, .int (zi q)), (2, .int (zi st)), (3, .int (zi 1)), (4, .int (zi 79)), (5, .int (zi (x 51 q * x 51 q))), (6, .int (zi w))]) dX12_givens_73 (by decide) rfl ?_
              have L75 : ∀ (N : Nat) (set : Int) (y2 : Me), (p2 (x 51 q * x 51 q) - set).toNat < N → (0 ≤ set ∧ set ≤ p2 (x 51 q * x 51 q)) → (∀ u, 0 ≤ u → u < set → pop u = w → ¬ telB (fun k => dfA (x 51 q) (nd x q) k (x 51 q * x 51 q).toNat) u = true) → ((∀ b, b ≠ 5 → b ≠ 7 → y2 50 b = up x 50 0 0 50 b) ∧ ∀ a, a ≠ 50 → a ≠ 54 → a ≠ 55 → a ≠ 56 → a ≠ 57 → y2 a = x a) → Zz Γ g 8 0 0 y2 75 [(0, .ref (gA g 50)), (1, .int (zi q)), (2, .int (zi st)), (3, .int (zi 1)), (4, .int (zi 79)), (5, .int (zi (x 51 q * x 51 q))), (6, .int (zi w)), (7, .int (zi set))] [] := by
                intro N
                induction N with
                | zero => intro set y2 hm; exact absurd hm (Nat.not_lt_zero _)
                | succ N ih75 =>
                  intro set y2 hm h1 hB hyf
                  refine z_iload (pc := 75) hO 7 dX12_givens_75 rfl ?_
                  refine z_iconst (pc := 77) hO dX12_givens_77 ?_
                  refine z_iload (pc := 78) hO 5 dX12_givens_78 rfl ?_
                  refine z_ishl (pc := 80) hO (zi (p2 (x 51 q * x 51 q))) dX12_givens_80 (by exact zn_shl (by omega)) ?_
                  refine z_icmp_ge (pc := 81) hO (tgt := 128) dX12_givens_81 (by decide) (by omega) (by omega) (fun b9 => ?_) (fun b9 => ?_)
                  · refine z_iinc (pc := 128) hO 6 (lv' := [(6, .int (zi (w + 1))), (0, .ref (gA g 50)), (1, .int (zi q)), (2, .int (zi st)), (3, .int (zi 1)), (4, .int (zi 79)), (5, .int (zi (x 51 q * x 51 q))), (7, .int (zi set))]) dX12_givens_128 rfl (by decide) rfl ?_
                    refine z_goto (pc := 131) hO (tgt := 65) dX12_givens_131 (by decide) ?_
                    refine z_sub [1, 2, 3, 4, 5, 6, 0] rfl ?_
                    exact ih65 (w + 1) y2 (by omega) (by omega) (by intro u a b c; have q1 := hA u a b c; rcases Classical.em (pop u = w) with q2 | q2; (exact absurd c (hB u a (by omega) q2)); omega) (by exact hyf)
                  · have hps := pop_rng (v := set) (by omega)
                    have hTS := TEL (s := set) (n := x 51 q) (f := nd x q) (by omega) hPR
                    have hlc : ((LSs (x 51 q) (nd x q) set).length : Int) ≤ 2000000000 := by rw [LSs_c]; exact CPB (by omega) (sel_rng hN set) (by have := emp_len (sel (x 51 q) (nd x q) set) (x 51 q * x 51 q).toNat; omega)
                    have hy51 : y2 51 q = x 51 q := by rw [hyf.2 51 (by omega) (by omega) (by omega) (by omega) (by omega)]
                    have hynd : nd y2 q = nd x q := nd_of (hyf.2 52 (by omega) (by omega) (by omega) (by omega) (by omega))
                    refine z_iload (pc := 84) hO 7 dX12_givens_84 rfl ?_
                    refine z_callSIp (pc := 86) hO (As := [.int (zi set)]) (st := []) (c_X12_ones (qL Γ) g y2 set (by omega)) k_X12_187 rfl (Nat.le_of_ble_eq_true rfl) (by decide) (by decide) ⟨by decide, by decide⟩ dX12_givens_86 ?_
                    refine z_iload (pc := 89) hO 6 dX12_givens_89 rfl ?_
                    refine z_icmp_ne (pc := 91) hO (tgt := 122) dX12_givens_91 (by decide) (by omega) (by omega) (fun b10 => ?_) (fun b10 => ?_)
                    · refine z_iinc (pc := 122) hO 7 (lv' := [(7, .int (zi (set + 1))), (0, .ref (gA g 50)), (1, .int (zi q)), (2, .int (zi st)), (3, .int (zi 1)), (4, .int (zi 79)), (5, .int (zi (x 51 q * x 51 q))), (6, .int (zi w))]) dX12_givens_122 rfl (by decide) rfl ?_
                      refine z_goto (pc := 125) hO (tgt := 75) dX12_givens_125 (by decide) ?_
                      refine z_sub [1, 2, 3, 4, 5, 6, 7, 0] rfl ?_
                      exact ih75 (set + 1) y2 (by omega) (by omega) (by intro u a b c d; rcases Classical.em (u = set) with e | e; (rw [e] at c d; first | omega | (have := hTS.mp d; omega)); exact hB u a (by omega) c d) (by first | exact hyf2 | exact hyf)
                    · refine z_aload_n (pc := 94) hO 0 dX12_givens_94 rfl rfl ?_
                      refine z_iload_n (pc := 95) hO 1 dX12_givens_95 rfl rfl ?_
                      refine z_iload (pc := 96) hO 7 dX12_givens_96 rfl ?_
                      refine z_callVV (pc := 98) hO (As := [.int (zi q), .int (zi set)]) (st := []) (c_X12_take (qL Γ) g y2 q set (sel (x 51 q) (nd x q) set) (by exact MG_of hG (hyf.2 51 (by omega) (by omega) (by omega) (by omega) (by omega)) (hyf.2 52 (by omega) (by omega) (by omega) (by omega) (by omega))) (by rw [hy51]; omega) (by omega) (by intro p a b; rw [hy51] at b; rw [hynd]; exact ⟨fun h => sel_t ⟨a, b⟩ h, fun h => sel_f h⟩) (by exact sel_rng hN set)) k_X12_173 isO_50 rfl (Nat.le_of_ble_eq_true rfl) (by decide) (by decide) ⟨by decide, by decide⟩ dX12_givens_98 (fun m12 h13 => ?_)
                      have hTI := h13
                      rw [hy51] at hTI
                      obtain ⟨t5, ⟨t7, tE⟩, tW, tb, ta⟩ := hTI
                      have hWK : WK m12 (x 51 q) (sel (x 51 q) (nd x q) set) := ⟨t5, tW, sel_rng hN set⟩
                      refine z_aload_n (pc := 101) hO 0 dX12_givens_101 rfl rfl ?_
                      refine z_iconst (pc := 102) hO dX12_givens_102 ?_
                      refine z_callVI (pc := 103) hO (As := [.int (zi 2)]) (st := []) (c_X12_search (qL Γ) g m12 2 (x 51 q) ((emp (sel (x 51 q) (nd x q) set) (x 51 q * x 51 q).toNat).length : Int) (eF (emp (sel (x 51 q) (nd x q) set) (x 51 q * x 51 q).toNat)) (sel (x 51 q) (nd x q) set) (by exact EHs (by omega) hN set) (by exact hWK) (by exact t7) (by exact tE) (by first | assumption | omega) (by exact hlc)) k_X12_178 isO_50 rfl (Nat.le_of_ble_eq_true rfl) (by decide) (by decide) ⟨by decide, by decide⟩ dX12_givens_103 (fun z14 m15 h16 => ?_)
                      have hsr := h16
                      have hsr1 : z14 = min ((LSs (x 51 q) (nd x q) set).length : Int) 2 := hsr.1
                      have hyf2 : (∀ b, b ≠ 5 → b ≠ 7 → m15 50 b = up x 50 0 0 50 b) ∧ ∀ a, a ≠ 50 → a ≠ 54 → a ≠ 55 → a ≠ 56 → a ≠ 57 → m15 a = x a := ⟨fun b b1 b2 => by rw [hsr.2.2 50 (by omega) (by omega) (by omega), tb b b1 b2]; exact hyf.1 b b1 b2, fun a a1 a2 a3 a4 a5 => by rw [hsr.2.2 a a2 a4 a5, ta a a1 a2 a3]; exact hyf.2 a a1 a2 a3 a4 a5⟩
                      refine z_iconst (pc := 106) hO dX12_givens_106 ?_
                      refine z_icmp_ne (pc := 107) hO (tgt := 122) dX12_givens_107 (by decide) (by omega) (by omega) (fun b17 => ?_) (fun b17 => ?_)
                      · refine z_iinc (pc := 122) hO 7 (lv' := [(7, .int (zi (set + 1))), (0, .ref (gA g 50)), (1, .int (zi q)), (2, .int (zi st)), (3, .int (zi 1)), (4, .int (zi 79)), (5, .int (zi (x 51 q * x 51 q))), (6, .int (zi w))]) dX12_givens_122 rfl (by decide) rfl ?_
                        refine z_goto (pc := 125) hO (tgt := 75) dX12_givens_125 (by decide) ?_
                        refine z_sub [1, 2, 3, 4, 5, 6, 7, 0] rfl ?_
                        exact ih75 (set + 1) m15 (by omega) (by omega) (by intro u a b c d; rcases Classical.em (u = set) with e | e; (rw [e] at c d; first | omega | (have := hTS.mp d; omega)); exact hB u a (by omega) c d) (by first | exact hyf2 | exact hyf)
                      · have hT : telB (fun k => dfA (x 51 q) (nd x q) k (x 51 q * x 51 q).toNat) set = true := hTS.mpr (by omega)
                        have hge : set = gvF (x 51 q) (nd x q) := BST_u (T := fun s => telB (fun k => dfA (x 51 q) (nd x q) k (x 51 q * x 51 q).toNat) s = true) ⟨⟨by omega, by omega⟩, hT, fun u a b c => (by
                            have q1 := hA u a b c
                            rcases Classical.em (pop u = w) with q2 | q2
                            · rcases Classical.em (u < set) with q3 | q3
                              · exact absurd c (hB u a q3 q2)
                              · omega
                            · omega)⟩ hbst
                        refine z_iload_n (pc := 110) hO 2 dX12_givens_110 rfl rfl ?_
                        refine z_if_eq (pc := 111) hO (tgt := 119) dX12_givens_111 (by decide) (by omega) (fun b18 => ?_) (fun b18 => ?_)
                        · refine z_iload (pc := 119) hO 6 dX12_givens_119 rfl ?_
                          exact z_iret (pc := 121) hO hr hQ rfl dX12_givens_121 (by first | (refine ⟨?_, ⟨by rw [hyf2.1 0 (by omega) (by omega), up_s], by rw [hyf2.1 1 (by omega) (by omega), up_n _ _ (by omega)], hyf2.2 51 (by omega) (by omega) (by omega) (by omega) (by omega), hyf2.2 52 (by omega) (by omega) (by omega) (by omega) (by omega), fun a ha => hyf2.2 a (by omega) (by omega) (by omega) (by omega) (by omega)⟩⟩; rw [← hge]; first | (rw [if_pos (by omega)]; done) | (rw [if_neg (by omega)]; omega); done) | (exfalso; omega))
                        · refine z_iload (pc := 114) hO 7 dX12_givens_114 rfl ?_
                          refine z_goto (pc := 116) hO (tgt := 121) dX12_givens_116 (by decide) ?_
                          exact z_iret (pc := 121) hO hr hQ rfl dX12_givens_121 (by first | (refine ⟨?_, ⟨by rw [hyf2.1 0 (by omega) (by omega), up_s], by rw [hyf2.1 1 (by omega) (by omega), up_n _ _ (by omega)], hyf2.2 51 (by omega) (by omega) (by omega) (by omega) (by omega), hyf2.2 52 (by omega) (by omega) (by omega) (by omega) (by omega), fun a ha => hyf2.2 a (by omega) (by omega) (by omega) (by omega) (by omega)⟩⟩; rw [← hge]; first | (rw [if_pos (by omega)]; done) | (rw [if_neg (by omega)]; omega); done) | (exfalso; omega))
              refine z_sub [1, 2, 3, 4, 5, 6, 7, 0] rfl ?_
              exact L75 _ 0 y (Nat.lt_succ_self _) (by omega) (by intro u a b; omega) (by exact hyg)
        refine z_sub [4, 5, 6, 3, 2, 1, 0] rfl ?_
        exact L65 _ 0 m6 (Nat.lt_succ_self _) (by omega) (by intro u a b _; have := pop_rng (v := u) (by omega); omega) (by rw [hth]; exact ⟨fun _ _ _ => rfl, fun a a1 _ _ _ _ => up_i _ _ _ a1⟩)
      · refine z_iconst (pc := 42) hO dX12_givens_42 ?_
        refine z_goto (pc := 43) hO (tgt := 47) dX12_givens_43 (by decide) ?_
        refine z_callVIm (pc := 47) hO (As := [.int (zi 2)]) (st := []) (c_X12_isFine1 (qL Γ) g x 2 (by first | assumption | omega)) k_X12_63 isO_50 rfl (Nat.le_of_ble_eq_true rfl) (by decide) (by decide) ⟨by decide, by decide⟩ dX12_givens_47 (fun m19 e20 => ?_)
        refine z_if_ne (pc := 50) hO (tgt := 55) dX12_givens_50 (by decide) (by decide) (fun h => absurd h (by decide)) (fun _ => ?_)
        refine z_iconst (pc := 53) hO dX12_givens_53 ?_
        exact z_iret (pc := 54) hO hr hQ rfl dX12_givens_54 (by first | (exfalso; have q1 := hA (p2 (x 51 q * x 51 q) - 1) (by omega) (by omega) hta; omega; done) | (exfalso; omega))
  · skip
    exfalso; omega

