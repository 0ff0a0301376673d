set_option maxHeartbeats 4000000 in
theorem c_X4_areDiagonalsAt (l : Launch) (g : Gl) (x : Me) (q : Nat) (due : Int)  (hF : FG x q) (hd : -100000 ≤ due ∧ due ≤ 100000) : ctQ l g yX4_areDiagonalsAt cX4_areDiagonalsAt 2 (some .boolean) 3 67 [.ref (gA g (10 + q)), .int (zi due)] x (QIu g (fun z x' => ((z = 1 ∧ (dia (x (10 + q) 1) (nc x q) due)) ∨ (z = 0 ∧ ¬ (dia (x (10 + q) 1) (nc x q) due))) ∧ x' = x)) := by
  refine ct_start (own := RX4) (lv := [(0, .ref (gA g (10 + q))), (1, .int (zi due))]) (plainFor_of_name (by decide)) rfl (Nat.le_of_ble_eq_true rfl) rfl ?_
  intro Γ hΓ hO hr hQ _
  obtain ⟨hq, hs, hf⟩ := id hF
  have h9 := sq9 hs
  have hN := FG.r hF
  have hA := lsum_rng hs hN 2 0
  have hB := lsum_rng hs hN 3 (x (10 + q) 1 - 1)
  refine z_aload_n (pc := 0) hO 0 dX4_areDiagonalsAt_0 rfl rfl ?_
  refine z_iconst (pc := 1) hO dX4_areDiagonalsAt_1 ?_
  refine z_iconst (pc := 2) hO dX4_areDiagonalsAt_2 ?_
  refine z_callVIp (pc := 3) hO (As := [.int (zi 2), .int (zi 0)]) (st := []) (c_X1_lineSum (qL Γ) g x q 2 0 (by first | assumption | omega) (by first | assumption | omega) (by first | assumption | omega) (by first | assumption | omega)) k_X4_15 (isO_fig (by omega : q < 9)) rfl (Nat.le_of_ble_eq_true rfl) (by decide) (by decide) ⟨by decide, by decide⟩ dX4_areDiagonalsAt_3 ?_
  refine z_iload_n (pc := 6) hO 1 dX4_areDiagonalsAt_6 rfl rfl ?_
  refine z_icmp_ne (pc := 7) hO (tgt := 29) dX4_areDiagonalsAt_7 (by decide) (by omega) (by omega) (fun b1 => ?_) (fun b1 => ?_)
  · refine z_iconst (pc := 29) hO dX4_areDiagonalsAt_29 ?_
    exact z_iret (pc := 30) hO hr hQ rfl dX4_areDiagonalsAt_30 ⟨Or.inr ⟨rfl, by first | (first | exact ⟨by assumption, by assumption⟩ | (unfold dia; omega); done) | (exfalso; omega)⟩, rfl⟩
  · refine z_aload_n (pc := 10) hO 0 dX4_areDiagonalsAt_10 rfl rfl ?_
    refine z_iconst (pc := 11) hO dX4_areDiagonalsAt_11 ?_
    refine z_aload_n (pc := 12) hO 0 dX4_areDiagonalsAt_12 rfl rfl ?_
    refine z_callVIp (pc := 13) hO (As := []) (st := [.int (zi 3), .ref (gA g (10 + q))]) (c_X1_side (qL Γ) g x q (by first | assumption | omega)) k_X4_46 (isO_fig (by omega : q < 9)) rfl (Nat.le_of_ble_eq_true rfl) (by decide) (by decide) ⟨by decide, by decide⟩ dX4_areDiagonalsAt_13 ?_
    refine z_iconst (pc := 16) hO dX4_areDiagonalsAt_16 ?_
    refine z_isub (pc := 17) hO dX4_areDiagonalsAt_17 ?_
    refine z_callVIp (pc := 18) hO (As := [.int (zi 3), .int (zi ((x (10 + q) 1) - 1))]) (st := []) (c_X1_lineSum (qL Γ) g x q 3 ((x (10 + q) 1) - 1) (by first | assumption | omega) (by first | assumption | omega) (by first | assumption | omega) (by first | assumption | omega)) k_X4_15 (isO_fig (by omega : q < 9)) rfl (Nat.le_of_ble_eq_true rfl) (by decide) (by decide) ⟨by decide, by decide⟩ dX4_areDiagonalsAt_18 ?_
    refine z_iload_n (pc := 21) hO 1 dX4_areDiagonalsAt_21 rfl rfl ?_
    refine z_icmp_ne (pc := 22) hO (tgt := 29) dX4_areDiagonalsAt_22 (by decide) (by omega) (by omega) (fun b2 => ?_) (fun b2 => ?_)
    · refine z_iconst (pc := 29) hO dX4_areDiagonalsAt_29 ?_
      exact z_iret (pc := 30) hO hr hQ rfl dX4_areDiagonalsAt_30 ⟨Or.inr ⟨rfl, by first | (first | exact ⟨by assumption, by assumption⟩ | (unfold dia; omega); done) | (exfalso; omega)⟩, rfl⟩
    · refine z_iconst (pc := 25) hO dX4_areDiagonalsAt_25 ?_
      refine z_goto (pc := 26) hO (tgt := 30) dX4_areDiagonalsAt_26 (by decide) ?_
      exact z_iret (pc := 30) hO hr hQ rfl dX4_areDiagonalsAt_30 ⟨Or.inl ⟨rfl, by first | (first | exact ⟨by assumption, by assumption⟩ | (unfold dia; omega); done) | (exfalso; omega)⟩, rfl⟩

set_option maxHeartbeats 4000000 in
theorem c_X4_areLinesAt (l : Launch) (g : Gl) (x : Me) (q : Nat) (kind : Int) (due : Int)  (hF : FG x q) (hk : 0 ≤ kind ∧ kind ≤ 3) (hd : -100000 ≤ due ∧ due ≤ 100000) : ctQ l g yX4_areLinesAt cX4_areLinesAt 4 (some .boolean) 3 67 [.ref (gA g (10 + q)), .int (zi kind), .int (zi due)] x (QIu g (fun z x' => ((z = 1 ∧ (lna (x (10 + q) 1) (nc x q) kind due)) ∨ (z = 0 ∧ ¬ (lna (x (10 + q) 1) (nc x q) kind due))) ∧ x' = x)) := by
  refine ct_start (own := RX4) (lv := [(0, .ref (gA g (10 + q))), (1, .int (zi kind)), (2, .int (zi due))]) (plainFor_of_name (by decide)) rfl (Nat.le_of_ble_eq_true rfl) rfl ?_
  intro Γ hΓ hO hr hQ _
  obtain ⟨hq, hs, hf⟩ := id hF
  have h9 := sq9 hs
  have hN := FG.r hF
  refine z_iconst (pc := 0) hO dX4_areLinesAt_0 ?_
  refine z_istore_n (pc := 1) hO (lv' := [(3, .int (zi 0)), (0, .ref (gA g (10 + q))), (1, .int (zi kind)), (2, .int (zi due))]) dX4_areLinesAt_1 rfl (by decide) rfl ?_
  have L2 : ∀ (N : Nat) (i : Int), (x (10 + q) 1 - i).toNat < N → (0 ≤ i ∧ i ≤ x (10 + q) 1) → (∀ l, 0 ≤ l → l < i → lsum (x (10 + q) 1) (nc x q) kind l = due) → Zz Γ g 4 0 0 x 2 [(0, .ref (gA g (10 + q))), (1, .int (zi kind)), (2, .int (zi due)), (3, .int (zi i))] [] := by
    intro N
    induction N with
    | zero => intro i hm; exact absurd hm (Nat.not_lt_zero _)
    | succ N ih2 =>
      intro i hm h0 hA
      have hR := lsum_rng hs hN kind i
      refine z_iload_n (pc := 2) hO 3 dX4_areLinesAt_2 rfl rfl ?_
      refine z_aload_n (pc := 3) hO 0 dX4_areLinesAt_3 rfl rfl ?_
      refine z_callVIp (pc := 4) hO (As := []) (st := [.int (zi i)]) (c_X1_side (qL Γ) g x q (by first | assumption | omega)) k_X4_46 (isO_fig (by omega : q < 9)) rfl (Nat.le_of_ble_eq_true rfl) (by decide) (by decide) ⟨by decide, by decide⟩ dX4_areLinesAt_4 ?_
      refine z_icmp_ge (pc := 7) hO (tgt := 28) dX4_areLinesAt_7 (by decide) (by omega) (by omega) (fun b1 => ?_) (fun b1 => ?_)
      · refine z_iconst (pc := 28) hO dX4_areLinesAt_28 ?_
        exact z_iret (pc := 29) hO hr hQ rfl dX4_areLinesAt_29 ⟨Or.inl ⟨rfl, by first | (first | (intro l a b; exact hA l a (by omega)) | (intro h; have := h i (by omega) (by omega); omega); done) | (exfalso; omega)⟩, rfl⟩
      · refine z_aload_n (pc := 10) hO 0 dX4_areLinesAt_10 rfl rfl ?_
        refine z_iload_n (pc := 11) hO 1 dX4_areLinesAt_11 rfl rfl ?_
        refine z_iload_n (pc := 12) hO 3 dX4_areLinesAt_12 rfl rfl ?_
        refine z_callVIp (pc := 13) hO (As := [.int (zi kind), .int (zi i)]) (st := []) (c_X1_lineSum (qL Γ) g x q kind i (by first | assumption | omega) (by first | assumption | omega) (by first | assumption | omega) (by first | assumption | omega)) k_X4_15 (isO_fig (by omega : q < 9)) rfl (Nat.le_of_ble_eq_true rfl) (by decide) (by decide) ⟨by decide, by decide⟩ dX4_areLinesAt_13 ?_
        refine z_iload_n (pc := 16) hO 2 dX4_areLinesAt_16 rfl rfl ?_
        refine z_icmp_eq (pc := 17) hO (tgt := 22) dX4_areLinesAt_17 (by decide) (by omega) (by omega) (fun b2 => ?_) (fun b2 => ?_)
        · refine z_iinc (pc := 22) hO 3 (lv' := [(3, .int (zi (i + 1))), (0, .ref (gA g (10 + q))), (1, .int (zi kind)), (2, .int (zi due))]) dX4_areLinesAt_22 rfl (by decide) rfl ?_
          refine z_goto (pc := 25) hO (tgt := 2) dX4_areLinesAt_25 (by decide) ?_
          refine z_sub [1, 2, 3, 0] rfl ?_
          exact ih2 (i + 1) (by omega) (by omega) (by intro l a b; by_cases hl : l = i; (subst hl; assumption); exact hA l a (by omega))
        · refine z_iconst (pc := 20) hO dX4_areLinesAt_20 ?_
          exact z_iret (pc := 21) hO hr hQ rfl dX4_areLinesAt_21 ⟨Or.inr ⟨rfl, by first | (first | (intro l a b; exact hA l a (by omega)) | (intro h; have := h i (by omega) (by omega); omega); done) | (exfalso; omega)⟩, rfl⟩
  refine z_sub [1, 2, 3, 0] rfl ?_
  exact L2 _ 0 (Nat.lt_succ_self _) (by omega) (by intro l a b; omega)

set_option maxHeartbeats 4000000 in
theorem c_X4_isMagic (l : Launch) (g : Gl) (x : Me) (q : Nat)  (hF : FG x q) : ctQ l g yX4_isMagic cX4_isMagic 2 (some .boolean) 4 90 [.ref (gA g (10 + q))] x (QIu g (fun z x' => ((z = 1 ∧ (mag (x (10 + q) 1) (nc x q))) ∨ (z = 0 ∧ ¬ (mag (x (10 + q) 1) (nc x q)))) ∧ x' = x)) := by
  refine ct_start (own := RX4) (lv := [(0, .ref (gA g (10 + q)))]) (plainFor_of_name (by decide)) rfl (Nat.le_of_ble_eq_true rfl) rfl ?_
  intro Γ hΓ hO hr hQ _
  obtain ⟨hq, hs, hf⟩ := id hF
  have h9 := sq9 hs
  have hN := FG.r hF
  have hA := lsum_rng hs hN 0 0
  refine z_aload_n (pc := 0) hO 0 dX4_isMagic_0 rfl rfl ?_
  refine z_iconst (pc := 1) hO dX4_isMagic_1 ?_
  refine z_iconst (pc := 2) hO dX4_isMagic_2 ?_
  refine z_callVIp (pc := 3) hO (As := [.int (zi 0), .int (zi 0)]) (st := []) (c_X1_lineSum (qL Γ) g x q 0 0 (by first | assumption | omega) (by first | assumption | omega) (by first | assumption | omega) (by first | assumption | omega)) k_X4_15 (isO_fig (by omega : q < 9)) rfl (Nat.le_of_ble_eq_true rfl) (by decide) (by decide) ⟨by decide, by decide⟩ dX4_isMagic_3 ?_
  refine z_istore_n (pc := 6) hO (lv' := [(1, .int (zi (lsum (x (10 + q) 1) (nc x q) 0 0))), (0, .ref (gA g (10 + q)))]) dX4_isMagic_6 rfl (by decide) rfl ?_
  refine z_aload_n (pc := 7) hO 1 dX4_isMagic_7 rfl rfl ?_
  refine z_iconst (pc := 8) hO dX4_isMagic_8 ?_
  refine z_iload_n (pc := 9) hO 0 dX4_isMagic_9 rfl rfl ?_
  refine z_callSB (pc := 10) hO (As := [.ref (gA g (10 + q)), .int (zi 0), .int (zi (lsum (x (10 + q) 1) (nc x q) 0 0))]) (st := []) (c_X4_areLinesAt (qL Γ) g x q 0 (lsum (x (10 + q) 1) (nc x q) 0 0) (by first | assumption | omega) (by first | assumption | omega) (by first | assumption | omega)) k_X4_21 rfl (Nat.le_of_ble_eq_true rfl) (by decide) (by decide) ⟨by decide, by decide⟩ dX4_isMagic_10 (fun pb1 => ?_) (fun pb1 => ?_)
  · skip
    refine z_if_eq (pc := 13) hO (tgt := 37) dX4_isMagic_13 (by decide) (by decide) (fun h => absurd h (by decide)) (fun _ => ?_)
    refine z_aload_n (pc := 16) hO 1 dX4_isMagic_16 rfl rfl ?_
    refine z_iconst (pc := 17) hO dX4_isMagic_17 ?_
    refine z_iload_n (pc := 18) hO 0 dX4_isMagic_18 rfl rfl ?_
    refine z_callSB (pc := 19) hO (As := [.ref (gA g (10 + q)), .int (zi 1), .int (zi (lsum (x (10 + q) 1) (nc x q) 0 0))]) (st := []) (c_X4_areLinesAt (qL Γ) g x q 1 (lsum (x (10 + q) 1) (nc x q) 0 0) (by first | assumption | omega) (by first | assumption | omega) (by first | assumption | omega)) k_X4_21 rfl (Nat.le_of_ble_eq_true rfl) (by decide) (by decide) ⟨by decide, by decide⟩ dX4_isMagic_19 (fun pb2 => ?_) (fun pb2 => ?_)
    · skip
      refine z_if_eq (pc := 22) hO (tgt := 37) dX4_isMagic_22 (by decide) (by decide) (fun h => absurd h (by decide)) (fun _ => ?_)
      refine z_aload_n (pc := 25) hO 1 dX4_isMagic_25 rfl rfl ?_
      refine z_iload_n (pc := 26) hO 0 dX4_isMagic_26 rfl rfl ?_
      refine z_callSB (pc := 27) hO (As := [.ref (gA g (10 + q)), .int (zi (lsum (x (10 + q) 1) (nc x q) 0 0))]) (st := []) (c_X4_areDiagonalsAt (qL Γ) g x q (lsum (x (10 + q) 1) (nc x q) 0 0) (by first | assumption | omega) (by first | assumption | omega)) k_X4_25 rfl (Nat.le_of_ble_eq_true rfl) (by decide) (by decide) ⟨by decide, by decide⟩ dX4_isMagic_27 (fun pb3 => ?_) (fun pb3 => ?_)
      · skip
        refine z_if_eq (pc := 30) hO (tgt := 37) dX4_isMagic_30 (by decide) (by decide) (fun h => absurd h (by decide)) (fun _ => ?_)
        refine z_iconst (pc := 33) hO dX4_isMagic_33 ?_
        refine z_goto (pc := 34) hO (tgt := 38) dX4_isMagic_34 (by decide) ?_
        exact z_iret (pc := 38) hO hr hQ rfl dX4_isMagic_38 ⟨Or.inl ⟨rfl, by first | (first | exact ⟨by assumption, by assumption, by assumption⟩ | (intro h; have h1 := h.1; have h2 := h.2.1; have h3 := h.2.2; contradiction); done) | (exfalso; omega)⟩, rfl⟩
      · skip
        refine z_if_eq (pc := 30) hO (tgt := 37) dX4_isMagic_30 (by decide) (by decide) (fun _ => ?_) (fun h => absurd h (by decide))
        refine z_iconst (pc := 37) hO dX4_isMagic_37 ?_
        exact z_iret (pc := 38) hO hr hQ rfl dX4_isMagic_38 ⟨Or.inr ⟨rfl, by first | (first | exact ⟨by assumption, by assumption, by assumption⟩ | (intro h; have h1 := h.1; have h2 := h.2.1; have h3 := h.2.2; contradiction); done) | (exfalso; omega)⟩, rfl⟩
    · skip
      refine z_if_eq (pc := 22) hO (tgt := 37) dX4_isMagic_22 (by decide) (by decide) (fun _ => ?_) (fun h => absurd h (by decide))
      refine z_iconst (pc := 37) hO dX4_isMagic_37 ?_
      exact z_iret (pc := 38) hO hr hQ rfl dX4_isMagic_38 ⟨Or.inr ⟨rfl, by first | (first | exact ⟨by assumption, by assumption, by assumption⟩ | (intro h; have h1 := h.1; have h2 := h.2.1; have h3 := h.2.2; contradiction); done) | (exfalso; omega)⟩, rfl⟩
  · skip
    refine z_if_eq (pc := 13) hO (tgt := 37) dX4_isMagic_13 (by decide) (by decide) (fun _ => ?_) (fun h => absurd h (by decide))
    refine z_iconst (pc := 37) hO dX4_isMagic_37 ?_
    exact z_iret (pc := 38) hO hr hQ rfl dX4_isMagic_38 ⟨Or.inr ⟨rfl, by first | (first | exact ⟨by assumption, by assumption, by assumption⟩ | (intro h; have h1 := h.1; have h2 := h.2.1; have h3 := h.2.2; contradiction); done) | (exfalso; omega)⟩, rfl⟩

set_option maxHeartbeats 4000000 in
theorem c_X4_isNormal (l : Launch) (g : Gl) (x : Me) (q : Nat)  (hF : FG x q) : ctQ l g yX4_isNormal cX4_isNormal 2 (some .boolean) 3 64 [.ref (gA g (10 + q))] x (QIu g (fun z x' => ((z = 1 ∧ (nrm (x (10 + q) 1) (nc x q))) ∨ (z = 0 ∧ ¬ (nrm (x (10 + q) 1) (nc x q)))) ∧ x' = x)) := by
  refine ct_start (own := RX4) (lv := [(0, .ref (gA g (10 + q)))]) (plainFor_of_name (by decide)) rfl (Nat.le_of_ble_eq_true rfl) rfl ?_
  intro Γ hΓ hO hr hQ _
  obtain ⟨hq, hs, hf⟩ := id hF
  have h9 := sq9 hs
  have hN := FG.r hF
  refine z_iconst (pc := 0) hO dX4_isNormal_0 ?_
  refine z_istore_n (pc := 1) hO (lv' := [(1, .int (zi 1)), (0, .ref (gA g (10 + q)))]) dX4_isNormal_1 rfl (by decide) rfl ?_
  have L2 : ∀ (N : Nat) (i : Int), (x (10 + q) 1 * x (10 + q) 1 + 1 - i).toNat < N → (1 ≤ i ∧ i ≤ x (10 + q) 1 * x (10 + q) 1 + 1) → (∀ v, 1 ≤ v → v < i → cnt (x (10 + q) 1) (nc x q) v = 1) → Zz Γ g 2 0 0 x 2 [(0, .ref (gA g (10 + q))), (1, .int (zi i))] [] := by
    intro N
    induction N with
    | zero => intro i hm; exact absurd hm (Nat.not_lt_zero _)
    | succ N ih2 =>
      intro i hm h0 hA
      have hR := cnt_rng (f := nc x q) hs i
      refine z_iload_n (pc := 2) hO 1 dX4_isNormal_2 rfl rfl ?_
      refine z_aload_n (pc := 3) hO 0 dX4_isNormal_3 rfl rfl ?_
      refine z_callVIp (pc := 4) hO (As := []) (st := [.int (zi i)]) (c_X1_size (qL Γ) g x q (by first | assumption | omega)) k_X4_28 (isO_fig (by omega : q < 9)) rfl (Nat.le_of_ble_eq_true rfl) (by decide) (by decide) ⟨by decide, by decide⟩ dX4_isNormal_4 ?_
      refine z_icmp_gt (pc := 7) hO (tgt := 27) dX4_isNormal_7 (by decide) (by omega) (by omega) (fun b1 => ?_) (fun b1 => ?_)
      · refine z_iconst (pc := 27) hO dX4_isNormal_27 ?_
        exact z_iret (pc := 28) hO hr hQ rfl dX4_isNormal_28 ⟨Or.inl ⟨rfl, by first | (first | (intro l a b; exact hA l a (by omega)) | (intro h; have := h i (by omega) (by omega); omega); done) | (exfalso; omega)⟩, rfl⟩
      · refine z_aload_n (pc := 10) hO 0 dX4_isNormal_10 rfl rfl ?_
        refine z_iload_n (pc := 11) hO 1 dX4_isNormal_11 rfl rfl ?_
        refine z_callVIp (pc := 12) hO (As := [.int (zi i)]) (st := []) (c_X1_countOf (qL Γ) g x q i (by first | assumption | omega) (by first | assumption | omega) (by first | assumption | omega) (by first | assumption | omega)) k_X4_32 (isO_fig (by omega : q < 9)) rfl (Nat.le_of_ble_eq_true rfl) (by decide) (by decide) ⟨by decide, by decide⟩ dX4_isNormal_12 ?_
        refine z_iconst (pc := 15) hO dX4_isNormal_15 ?_
        refine z_icmp_eq (pc := 16) hO (tgt := 21) dX4_isNormal_16 (by decide) (by omega) (by omega) (fun b2 => ?_) (fun b2 => ?_)
        · refine z_iinc (pc := 21) hO 1 (lv' := [(1, .int (zi (i + 1))), (0, .ref (gA g (10 + q)))]) dX4_isNormal_21 rfl (by decide) rfl ?_
          refine z_goto (pc := 24) hO (tgt := 2) dX4_isNormal_24 (by decide) ?_
          refine z_sub [1, 0] rfl ?_
          exact ih2 (i + 1) (by omega) (by omega) (by intro l a b; by_cases hl : l = i; (subst hl; assumption); exact hA l a (by omega))
        · refine z_iconst (pc := 19) hO dX4_isNormal_19 ?_
          exact z_iret (pc := 20) hO hr hQ rfl dX4_isNormal_20 ⟨Or.inr ⟨rfl, by first | (first | (intro l a b; exact hA l a (by omega)) | (intro h; have := h i (by omega) (by omega); omega); done) | (exfalso; omega)⟩, rfl⟩
  refine z_sub [1, 0] rfl ?_
  exact L2 _ 1 (Nat.lt_succ_self _) (by omega) (by intro l a b; omega)

set_option maxHeartbeats 4000000 in
theorem c_X4_areOppositesAlike (l : Launch) (g : Gl) (x : Me) (q : Nat)  (hF : FG x q) : ctQ l g yX4_areOppositesAlike cX4_areOppositesAlike 4 (some .boolean) 2 41 [.ref (gA g (10 + q))] x (QIu g (fun z x' => ((z = 1 ∧ (opo (x (10 + q) 1) (nc x q))) ∨ (z = 0 ∧ ¬ (opo (x (10 + q) 1) (nc x q)))) ∧ x' = x)) := by
  refine ct_start (own := RX4) (lv := [(0, .ref (gA g (10 + q)))]) (plainFor_of_name (by decide)) rfl (Nat.le_of_ble_eq_true rfl) rfl ?_
  intro Γ hΓ hO hr hQ _
  obtain ⟨hq, hs, hf⟩ := id hF
  have h9 := sq9 hs
  have hN := FG.r hF
  have hA0 := hN 0
  have hA1 := hN (x (10 + q) 1 * x (10 + q) 1 - 1)
  refine z_aload_n (pc := 0) hO 0 dX4_areOppositesAlike_0 rfl rfl ?_
  refine z_callVIp (pc := 1) hO (As := []) (st := []) (c_X1_size (qL Γ) g x q (by first | assumption | omega)) k_X4_28 (isO_fig (by omega : q < 9)) rfl (Nat.le_of_ble_eq_true rfl) (by decide) (by decide) ⟨by decide, by decide⟩ dX4_areOppositesAlike_1 ?_
  refine z_iconst (pc := 4) hO dX4_areOppositesAlike_4 ?_
  refine z_isub (pc := 5) hO dX4_areOppositesAlike_5 ?_
  refine z_istore_n (pc := 6) hO (lv' := [(1, .int (zi ((x (10 + q) 1 * x (10 + q) 1) - 1))), (0, .ref (gA g (10 + q)))]) dX4_areOppositesAlike_6 rfl (by decide) rfl ?_
  refine z_aload_n (pc := 7) hO 1 dX4_areOppositesAlike_7 rfl rfl ?_
  refine z_iconst (pc := 8) hO dX4_areOppositesAlike_8 ?_
  refine z_callVIp (pc := 9) hO (As := [.int (zi 0)]) (st := []) (c_X1_read (qL Γ) g x q 0 (by first | assumption | omega) (by first | assumption | omega)) k_X4_49 (isO_fig (by omega : q < 9)) rfl (Nat.le_of_ble_eq_true rfl) (by decide) (by decide) ⟨by decide, by decide⟩ dX4_areOppositesAlike_9 ?_
  refine z_aload_n (pc := 12) hO 1 dX4_areOppositesAlike_12 rfl rfl ?_
  refine z_iload_n (pc := 13) hO 0 dX4_areOppositesAlike_13 rfl rfl ?_
  refine z_callVIp (pc := 14) hO (As := [.int (zi ((x (10 + q) 1 * x (10 + q) 1) - 1))]) (st := [.int (zi (nc x q 0))]) (c_X1_read (qL Γ) g x q ((x (10 + q) 1 * x (10 + q) 1) - 1) (by first | assumption | omega) (by first | assumption | omega)) k_X4_49 (isO_fig (by omega : q < 9)) rfl (Nat.le_of_ble_eq_true rfl) (by decide) (by decide) ⟨by decide, by decide⟩ dX4_areOppositesAlike_14 ?_
  refine z_iadd (pc := 17) hO dX4_areOppositesAlike_17 ?_
  refine z_istore_n (pc := 18) hO (lv' := [(2, .int (zi ((nc x q 0) + (nc x q ((x (10 + q) 1 * x (10 + q) 1) - 1))))), (1, .int (zi ((x (10 + q) 1 * x (10 + q) 1) - 1))), (0, .ref (gA g (10 + q)))]) dX4_areOppositesAlike_18 rfl (by decide) rfl ?_
  refine z_iconst (pc := 19) hO dX4_areOppositesAlike_19 ?_
  refine z_istore_n (pc := 20) hO (lv' := [(3, .int (zi 0)), (2, .int (zi ((nc x q 0) + (nc x q ((x (10 + q) 1 * x (10 + q) 1) - 1))))), (1, .int (zi ((x (10 + q) 1 * x (10 + q) 1) - 1))), (0, .ref (gA g (10 + q)))]) dX4_areOppositesAlike_20 rfl (by decide) rfl ?_
  have L21 : ∀ (N : Nat) (i : Int), (x (10 + q) 1 * x (10 + q) 1 + 1 - i).toNat < N → (0 ≤ i ∧ i ≤ x (10 + q) 1 * x (10 + q) 1) → (∀ p, 0 ≤ p → p < i → nc x q p + nc x q (x (10 + q) 1 * x (10 + q) 1 - 1 - p) = nc x q 0 + nc x q (x (10 + q) 1 * x (10 + q) 1 - 1)) → Zz Γ g 4 0 0 x 21 [(0, .ref (gA g (10 + q))), (1, .int (zi ((x (10 + q) 1 * x (10 + q) 1) - 1))), (2, .int (zi ((nc x q 0) + (nc x q ((x (10 + q) 1 * x (10 + q) 1) - 1))))), (3, .int (zi i))] [] := by
    intro N
    induction N with
    | zero => intro i hm; exact absurd hm (Nat.not_lt_zero _)
    | succ N ih21 =>
      intro i hm h0 hA
      have hR := hN i
      have hR2 := hN (x (10 + q) 1 * x (10 + q) 1 - 1 - i)
      refine z_iload_n (pc := 21) hO 3 dX4_areOppositesAlike_21 rfl rfl ?_
      refine z_iload_n (pc := 22) hO 1 dX4_areOppositesAlike_22 rfl rfl ?_
      refine z_icmp_gt (pc := 23) hO (tgt := 51) dX4_areOppositesAlike_23 (by decide) (by omega) (by omega) (fun b1 => ?_) (fun b1 => ?_)
      · refine z_iconst (pc := 51) hO dX4_areOppositesAlike_51 ?_
        exact z_iret (pc := 52) hO hr hQ rfl dX4_areOppositesAlike_52 ⟨Or.inl ⟨rfl, by first | (first | (intro l a b; exact hA l a (by omega)) | (intro h; have := h i (by omega) (by omega); omega); done) | (exfalso; omega)⟩, rfl⟩
      · refine z_aload_n (pc := 26) hO 0 dX4_areOppositesAlike_26 rfl rfl ?_
        refine z_iload_n (pc := 27) hO 3 dX4_areOppositesAlike_27 rfl rfl ?_
        refine z_callVIp (pc := 28) hO (As := [.int (zi i)]) (st := []) (c_X1_read (qL Γ) g x q i (by first | assumption | omega) (by first | assumption | omega)) k_X4_49 (isO_fig (by omega : q < 9)) rfl (Nat.le_of_ble_eq_true rfl) (by decide) (by decide) ⟨by decide, by decide⟩ dX4_areOppositesAlike_28 ?_
        refine z_aload_n (pc := 31) hO 0 dX4_areOppositesAlike_31 rfl rfl ?_
        refine z_iload_n (pc := 32) hO 1 dX4_areOppositesAlike_32 rfl rfl ?_
        refine z_iload_n (pc := 33) hO 3 dX4_areOppositesAlike_33 rfl rfl ?_
        refine z_isub (pc := 34) hO dX4_areOppositesAlike_34 ?_
        refine z_callVIp (pc := 35) hO (As := [.int (zi (((x (10 + q) 1 * x (10 + q) 1) - 1) - i))]) (st := [.int (zi (nc x q i))]) (c_X1_read (qL Γ) g x q (((x (10 + q) 1 * x (10 + q) 1) - 1) - i) (by first | assumption | omega) (by first | assumption | omega)) k_X4_49 (isO_fig (by omega : q < 9)) rfl (Nat.le_of_ble_eq_true rfl) (by decide) (by decide) ⟨by decide, by decide⟩ dX4_areOppositesAlike_35 ?_
        refine z_iadd (pc := 38) hO dX4_areOppositesAlike_38 ?_
        refine z_iload_n (pc := 39) hO 2 dX4_areOppositesAlike_39 rfl rfl ?_
        refine z_icmp_eq (pc := 40) hO (tgt := 45) dX4_areOppositesAlike_40 (by decide) (by omega) (by omega) (fun b2 => ?_) (fun b2 => ?_)
        · refine z_iinc (pc := 45) hO 3 (lv' := [(3, .int (zi (i + 1))), (0, .ref (gA g (10 + q))), (1, .int (zi ((x (10 + q) 1 * x (10 + q) 1) - 1))), (2, .int (zi ((nc x q 0) + (nc x q ((x (10 + q) 1 * x (10 + q) 1) - 1)))))]) dX4_areOppositesAlike_45 rfl (by decide) rfl ?_
          refine z_goto (pc := 48) hO (tgt := 21) dX4_areOppositesAlike_48 (by decide) ?_
          refine z_sub [1, 2, 3, 0] rfl ?_
          exact ih21 (i + 1) (by omega) (by omega) (by intro l a b; by_cases hl : l = i; (subst hl; assumption); exact hA l a (by omega))
        · refine z_iconst (pc := 43) hO dX4_areOppositesAlike_43 ?_
          exact z_iret (pc := 44) hO hr hQ rfl dX4_areOppositesAlike_44 ⟨Or.inr ⟨rfl, by first | (first | (intro l a b; exact hA l a (by omega)) | (intro h; have := h i (by omega) (by omega); omega); done) | (exfalso; omega)⟩, rfl⟩
  refine z_sub [3, 2, 1, 0] rfl ?_
  exact L21 _ 0 (Nat.lt_succ_self _) (by omega) (by intro l a b; omega)

set_option maxHeartbeats 4000000 in
theorem c_X4_arePowersAlike (l : Launch) (g : Gl) (x : Me) (q : Nat)  (hF : FG x q) : ctQ l g yX4_arePowersAlike cX4_arePowersAlike 3 (some .boolean) 3 68 [.ref (gA g (10 + q))] x (QIu g (fun z x' => ((z = 1 ∧ (pwr (x (10 + q) 1) (nc x q))) ∨ (z = 0 ∧ ¬ (pwr (x (10 + q) 1) (nc x q)))) ∧ x' = x)) := by
  refine ct_start (own := RX4) (lv := [(0, .ref (gA g (10 + q)))]) (plainFor_of_name (by decide)) rfl (Nat.le_of_ble_eq_true rfl) rfl ?_
  intro Γ hΓ hO hr hQ _
  obtain ⟨hq, hs, hf⟩ := id hF
  have h9 := sq9 hs
  have hN := FG.r hF
  have hA0 := lpow_rng hs hN 0 0
  refine z_aload_n (pc := 0) hO 0 dX4_arePowersAlike_0 rfl rfl ?_
  refine z_iconst (pc := 1) hO dX4_arePowersAlike_1 ?_
  refine z_iconst (pc := 2) hO dX4_arePowersAlike_2 ?_
  refine z_callVIp (pc := 3) hO (As := [.int (zi 0), .int (zi 0)]) (st := []) (c_X1_linePower (qL Γ) g x q 0 0 (by first | assumption | omega) (by first | assumption | omega) (by first | assumption | omega) (by first | assumption | omega)) k_X4_52 (isO_fig (by omega : q < 9)) rfl (Nat.le_of_ble_eq_true rfl) (by decide) (by decide) ⟨by decide, by decide⟩ dX4_arePowersAlike_3 ?_
  refine z_istore_n (pc := 6) hO (lv' := [(1, .int (zi (lpow (x (10 + q) 1) (nc x q) 0 0))), (0, .ref (gA g (10 + q)))]) dX4_arePowersAlike_6 rfl (by decide) rfl ?_
  refine z_iconst (pc := 7) hO dX4_arePowersAlike_7 ?_
  refine z_istore_n (pc := 8) hO (lv' := [(2, .int (zi 0)), (1, .int (zi (lpow (x (10 + q) 1) (nc x q) 0 0))), (0, .ref (gA g (10 + q)))]) dX4_arePowersAlike_8 rfl (by decide) rfl ?_
  have L9 : ∀ (N : Nat) (i : Int), (x (10 + q) 1 - i).toNat < N → (0 ≤ i ∧ i ≤ x (10 + q) 1) → (∀ l, 0 ≤ l → l < i → lpow (x (10 + q) 1) (nc x q) 0 l = lpow (x (10 + q) 1) (nc x q) 0 0 ∧ lpow (x (10 + q) 1) (nc x q) 1 l = lpow (x (10 + q) 1) (nc x q) 0 0) → Zz Γ g 3 0 0 x 9 [(0, .ref (gA g (10 + q))), (1, .int (zi (lpow (x (10 + q) 1) (nc x q) 0 0))), (2, .int (zi i))] [] := by
    intro N
    induction N with
    | zero => intro i hm; exact absurd hm (Nat.not_lt_zero _)
    | succ N ih9 =>
      intro i hm h0 hA
      have hR := lpow_rng hs hN 0 i
      have hR2 := lpow_rng hs hN 1 i
      refine z_iload_n (pc := 9) hO 2 dX4_arePowersAlike_9 rfl rfl ?_
      refine z_aload_n (pc := 10) hO 0 dX4_arePowersAlike_10 rfl rfl ?_
      refine z_callVIp (pc := 11) hO (As := []) (st := [.int (zi i)]) (c_X1_side (qL Γ) g x q (by first | assumption | omega)) k_X4_46 (isO_fig (by omega : q < 9)) rfl (Nat.le_of_ble_eq_true rfl) (by decide) (by decide) ⟨by decide, by decide⟩ dX4_arePowersAlike_11 ?_
      refine z_icmp_ge (pc := 14) hO (tgt := 45) dX4_arePowersAlike_14 (by decide) (by omega) (by omega) (fun b1 => ?_) (fun b1 => ?_)
      · refine z_iconst (pc := 45) hO dX4_arePowersAlike_45 ?_
        exact z_iret (pc := 46) hO hr hQ rfl dX4_arePowersAlike_46 ⟨Or.inl ⟨rfl, by first | (first | (intro l a b; exact hA l a (by omega)) | (intro h; have := h i (by omega) (by omega); omega); done) | (exfalso; omega)⟩, rfl⟩
      · refine z_aload_n (pc := 17) hO 0 dX4_arePowersAlike_17 rfl rfl ?_
        refine z_iconst (pc := 18) hO dX4_arePowersAlike_18 ?_
        refine z_iload_n (pc := 19) hO 2 dX4_arePowersAlike_19 rfl rfl ?_
        refine z_callVIp (pc := 20) hO (As := [.int (zi 0), .int (zi i)]) (st := []) (c_X1_linePower (qL Γ) g x q 0 i (by first | assumption | omega) (by first | assumption | omega) (by first | assumption | omega) (by first | assumption | omega)) k_X4_52 (isO_fig (by omega : q < 9)) rfl (Nat.le_of_ble_eq_true rfl) (by decide) (by decide) ⟨by decide, by decide⟩ dX4_arePowersAlike_20 ?_
        refine z_iload_n (pc := 23) hO 1 dX4_arePowersAlike_23 rfl rfl ?_
        refine z_icmp_ne (pc := 24) hO (tgt := 37) dX4_arePowersAlike_24 (by decide) (by omega) (by omega) (fun b2 => ?_) (fun b2 => ?_)
        · refine z_iconst (pc := 37) hO dX4_arePowersAlike_37 ?_
          exact z_iret (pc := 38) hO hr hQ rfl dX4_arePowersAlike_38 ⟨Or.inr ⟨rfl, by first | (first | (intro l a b; exact hA l a (by omega)) | (intro h; have := h i (by omega) (by omega); omega); done) | (exfalso; omega)⟩, rfl⟩
        · refine z_aload_n (pc := 27) hO 0 dX4_arePowersAlike_27 rfl rfl ?_
          refine z_iconst (pc := 28) hO dX4_arePowersAlike_28 ?_
          refine z_iload_n (pc := 29) hO 2 dX4_arePowersAlike_29 rfl rfl ?_
          refine z_callVIp (pc := 30) hO (As := [.int (zi 1), .int (zi i)]) (st := []) (c_X1_linePower (qL Γ) g x q 1 i (by first | assumption | omega) (by first | assumption | omega) (by first | assumption | omega) (by first | assumption | omega)) k_X4_52 (isO_fig (by omega : q < 9)) rfl (Nat.le_of_ble_eq_true rfl) (by decide) (by decide) ⟨by decide, by decide⟩ dX4_arePowersAlike_30 ?_
          refine z_iload_n (pc := 33) hO 1 dX4_arePowersAlike_33 rfl rfl ?_
          refine z_icmp_eq (pc := 34) hO (tgt := 39) dX4_arePowersAlike_34 (by decide) (by omega) (by omega) (fun b3 => ?_) (fun b3 => ?_)
          · refine z_iinc (pc := 39) hO 2 (lv' := [(2, .int (zi (i + 1))), (0, .ref (gA g (10 + q))), (1, .int (zi (lpow (x (10 + q) 1) (nc x q) 0 0)))]) dX4_arePowersAlike_39 rfl (by decide) rfl ?_
            refine z_goto (pc := 42) hO (tgt := 9) dX4_arePowersAlike_42 (by decide) ?_
            refine z_sub [1, 2, 0] rfl ?_
            exact ih9 (i + 1) (by omega) (by omega) (by intro l a b; by_cases hl : l = i; (subst hl; exact ⟨by assumption, by assumption⟩); exact hA l a (by omega))
          · refine z_iconst (pc := 37) hO dX4_arePowersAlike_37 ?_
            exact z_iret (pc := 38) hO hr hQ rfl dX4_arePowersAlike_38 ⟨Or.inr ⟨rfl, by first | (first | (intro l a b; exact hA l a (by omega)) | (intro h; have := h i (by omega) (by omega); omega); done) | (exfalso; omega)⟩, rfl⟩
  refine z_sub [2, 1, 0] rfl ?_
  exact L9 _ 0 (Nat.lt_succ_self _) (by omega) (by intro l a b; omega)

set_option maxHeartbeats 4000000 in
theorem c_X4_holds (l : Launch) (g : Gl) (x : Me) (q : Nat) (v : Int)  (hF : FG x q) (hv : v = 1 ∨ v = 2 ∨ v = 4 ∨ v = 8 ∨ v = 16 ∨ v = 32 ∨ v = 64 ∨ v = 128) : ctQ l g yX4_holds cX4_holds 3 (some .boolean) 4 90 [.ref (gA g (10 + q)), .int (zi v)] x (QIu g (fun z x' => ((z = 1 ∧ (lwV (x (10 + q) 1) (nc x q) v)) ∨ (z = 0 ∧ ¬ (lwV (x (10 + q) 1) (nc x q) v))) ∧ x' = x)) := by
  refine ct_start (own := RX4) (lv := [(0, .ref (gA g (10 + q))), (1, .int (zi v))]) (plainFor_of_name (by decide)) rfl (Nat.le_of_ble_eq_true rfl) rfl ?_
  intro Γ hΓ hO hr hQ _
  obtain ⟨hq, hs, hf⟩ := id hF
  have h9 := sq9 hs
  have hN := FG.r hF
  have hA := lsum_rng hs hN 0 0
  have hC := cnt_rng (f := nc x q) hs 0
  have hC0 := cnt_0 (f := nc x q) (v := 0) hs
  refine z_aload_n (pc := 0) hO 0 dX4_holds_0 rfl rfl ?_
  refine z_iconst (pc := 1) hO dX4_holds_1 ?_
  refine z_iconst (pc := 2) hO dX4_holds_2 ?_
  refine z_callVIp (pc := 3) hO (As := [.int (zi 0), .int (zi 0)]) (st := []) (c_X1_lineSum (qL Γ) g x q 0 0 (by first | assumption | omega) (by first | assumption | omega) (by first | assumption | omega) (by first | assumption | omega)) k_X4_15 (isO_fig (by omega : q < 9)) rfl (Nat.le_of_ble_eq_true rfl) (by decide) (by decide) ⟨by decide, by decide⟩ dX4_holds_3 ?_
  refine z_istore_n (pc := 6) hO (lv' := [(2, .int (zi (lsum (x (10 + q) 1) (nc x q) 0 0))), (0, .ref (gA g (10 + q))), (1, .int (zi v))]) dX4_holds_6 rfl (by decide) rfl ?_
  refine z_iload_n (pc := 7) hO 2 dX4_holds_7 rfl rfl ?_
  have w1 : v = 1 ∨ v = 2 ∨ v = 4 ∨ v = 8 ∨ v = 16 ∨ v = 32 ∨ v = 64 ∨ v = 128 := by omega
  rcases w1 with w1 | w1 | w1 | w1 | w1 | w1 | w1 | w1
  · refine z_look (pc := 8) hO (tgt := 84) dX4_holds_8 (by omega) rfl (by first | (rw [w1]; done) | (rw [w1]; rfl)) (by decide) ?_
    refine z_aload_n (pc := 84) hO 1 dX4_holds_84 rfl rfl ?_
    refine z_iconst (pc := 85) hO dX4_holds_85 ?_
    refine z_callVIp (pc := 86) hO (As := [.int (zi 0)]) (st := []) (c_X1_countOf (qL Γ) g x q 0 (by first | assumption | omega) (by first | assumption | omega) (by first | assumption | omega) (by first | assumption | omega)) k_X4_32 (isO_fig (by omega : q < 9)) rfl (Nat.le_of_ble_eq_true rfl) (by decide) (by decide) ⟨by decide, by decide⟩ dX4_holds_86 ?_
    refine z_if_ne (pc := 89) hO (tgt := 96) dX4_holds_89 (by decide) (by omega) (fun b2 => ?_) (fun b2 => ?_)
    · refine z_iconst (pc := 96) hO dX4_holds_96 ?_
      exact z_iret (pc := 97) hO hr hQ rfl dX4_holds_97 ⟨Or.inr ⟨rfl, by first | (subst w1; simp only [lwV_1, lwV_2, lwV_4, lwV_8, lwV_16, lwV_32, lwV_64, lwV_128]; first | assumption | exact hC0.mp (by assumption) | (intro h; exact absurd (hC0.mpr h) (by assumption)) | exact ⟨by assumption, by assumption⟩ | (intro h; exact absurd h.1 (by assumption)) | (intro h; exact absurd h.2 (by assumption)); done) | (exfalso; omega)⟩, rfl⟩
    · refine z_iconst (pc := 92) hO dX4_holds_92 ?_
      refine z_goto (pc := 93) hO (tgt := 97) dX4_holds_93 (by decide) ?_
      exact z_iret (pc := 97) hO hr hQ rfl dX4_holds_97 ⟨Or.inl ⟨rfl, by first | (subst w1; simp only [lwV_1, lwV_2, lwV_4, lwV_8, lwV_16, lwV_32, lwV_64, lwV_128]; first | assumption | exact hC0.mp (by assumption) | (intro h; exact absurd (hC0.mpr h) (by assumption)) | exact ⟨by assumption, by assumption⟩ | (intro h; exact absurd h.1 (by assumption)) | (intro h; exact absurd h.2 (by assumption)); done) | (exfalso; omega)⟩, rfl⟩
  · refine z_look (pc := 8) hO (tgt := 98) dX4_holds_8 (by omega) rfl (by first | (rw [w1]; done) | (rw [w1]; rfl)) (by decide) ?_
    refine z_aload_n (pc := 98) hO 1 dX4_holds_98 rfl rfl ?_
    refine z_iconst (pc := 99) hO dX4_holds_99 ?_
    refine z_iload_n (pc := 100) hO 0 dX4_holds_100 rfl rfl ?_
    refine z_callSB (pc := 101) hO (As := [.ref (gA g (10 + q)), .int (zi 0), .int (zi (lsum (x (10 + q) 1) (nc x q) 0 0))]) (st := []) (c_X4_areLinesAt (qL Γ) g x q 0 (lsum (x (10 + q) 1) (nc x q) 0 0) (by first | assumption | omega) (by first | assumption | omega) (by first | assumption | omega)) k_X4_21 rfl (Nat.le_of_ble_eq_true rfl) (by decide) (by decide) ⟨by decide, by decide⟩ dX4_holds_101 (fun pb3 => ?_) (fun pb3 => ?_)
    · skip
      exact z_iret (pc := 104) hO hr hQ rfl dX4_holds_104 ⟨Or.inl ⟨rfl, by first | (subst w1; simp only [lwV_1, lwV_2, lwV_4, lwV_8, lwV_16, lwV_32, lwV_64, lwV_128]; first | assumption | exact hC0.mp (by assumption) | (intro h; exact absurd (hC0.mpr h) (by assumption)) | exact ⟨by assumption, by assumption⟩ | (intro h; exact absurd h.1 (by assumption)) | (intro h; exact absurd h.2 (by assumption)); done) | (exfalso; omega)⟩, rfl⟩
    · skip
      exact z_iret (pc := 104) hO hr hQ rfl dX4_holds_104 ⟨Or.inr ⟨rfl, by first | (subst w1; simp only [lwV_1, lwV_2, lwV_4, lwV_8, lwV_16, lwV_32, lwV_64, lwV_128]; first | assumption | exact hC0.mp (by assumption) | (intro h; exact absurd (hC0.mpr h) (by assumption)) | exact ⟨by assumption, by assumption⟩ | (intro h; exact absurd h.1 (by assumption)) | (intro h; exact absurd h.2 (by assumption)); done) | (exfalso; omega)⟩, rfl⟩
  · refine z_look (pc := 8) hO (tgt := 105) dX4_holds_8 (by omega) rfl (by first | (rw [w1]; done) | (rw [w1]; rfl)) (by decide) ?_
    refine z_aload_n (pc := 105) hO 1 dX4_holds_105 rfl rfl ?_
    refine z_iconst (pc := 106) hO dX4_holds_106 ?_
    refine z_iload_n (pc := 107) hO 0 dX4_holds_107 rfl rfl ?_
    refine z_callSB (pc := 108) hO (As := [.ref (gA g (10 + q)), .int (zi 1), .int (zi (lsum (x (10 + q) 1) (nc x q) 0 0))]) (st := []) (c_X4_areLinesAt (qL Γ) g x q 1 (lsum (x (10 + q) 1) (nc x q) 0 0) (by first | assumption | omega) (by first | assumption | omega) (by first | assumption | omega)) k_X4_21 rfl (Nat.le_of_ble_eq_true rfl) (by decide) (by decide) ⟨by decide, by decide⟩ dX4_holds_108 (fun pb4 => ?_) (fun pb4 => ?_)
    · skip
      exact z_iret (pc := 111) hO hr hQ rfl dX4_holds_111 ⟨Or.inl ⟨rfl, by first | (subst w1; simp only [lwV_1, lwV_2, lwV_4, lwV_8, lwV_16, lwV_32, lwV_64, lwV_128]; first | assumption | exact hC0.mp (by assumption) | (intro h; exact absurd (hC0.mpr h) (by assumption)) | exact ⟨by assumption, by assumption⟩ | (intro h; exact absurd h.1 (by assumption)) | (intro h; exact absurd h.2 (by assumption)); done) | (exfalso; omega)⟩, rfl⟩
    · skip
      exact z_iret (pc := 111) hO hr hQ rfl dX4_holds_111 ⟨Or.inr ⟨rfl, by first | (subst w1; simp only [lwV_1, lwV_2, lwV_4, lwV_8, lwV_16, lwV_32, lwV_64, lwV_128]; first | assumption | exact hC0.mp (by assumption) | (intro h; exact absurd (hC0.mpr h) (by assumption)) | exact ⟨by assumption, by assumption⟩ | (intro h; exact absurd h.1 (by assumption)) | (intro h; exact absurd h.2 (by assumption)); done) | (exfalso; omega)⟩, rfl⟩
  · refine z_look (pc := 8) hO (tgt := 112) dX4_holds_8 (by omega) rfl (by first | (rw [w1]; done) | (rw [w1]; rfl)) (by decide) ?_
    refine z_aload_n (pc := 112) hO 1 dX4_holds_112 rfl rfl ?_
    refine z_iload_n (pc := 113) hO 0 dX4_holds_113 rfl rfl ?_
    refine z_callSB (pc := 114) hO (As := [.ref (gA g (10 + q)), .int (zi (lsum (x (10 + q) 1) (nc x q) 0 0))]) (st := []) (c_X4_areDiagonalsAt (qL Γ) g x q (lsum (x (10 + q) 1) (nc x q) 0 0) (by first | assumption | omega) (by first | assumption | omega)) k_X4_25 rfl (Nat.le_of_ble_eq_true rfl) (by decide) (by decide) ⟨by decide, by decide⟩ dX4_holds_114 (fun pb5 => ?_) (fun pb5 => ?_)
    · skip
      exact z_iret (pc := 117) hO hr hQ rfl dX4_holds_117 ⟨Or.inl ⟨rfl, by first | (subst w1; simp only [lwV_1, lwV_2, lwV_4, lwV_8, lwV_16, lwV_32, lwV_64, lwV_128]; first | assumption | exact hC0.mp (by assumption) | (intro h; exact absurd (hC0.mpr h) (by assumption)) | exact ⟨by assumption, by assumption⟩ | (intro h; exact absurd h.1 (by assumption)) | (intro h; exact absurd h.2 (by assumption)); done) | (exfalso; omega)⟩, rfl⟩
    · skip
      exact z_iret (pc := 117) hO hr hQ rfl dX4_holds_117 ⟨Or.inr ⟨rfl, by first | (subst w1; simp only [lwV_1, lwV_2, lwV_4, lwV_8, lwV_16, lwV_32, lwV_64, lwV_128]; first | assumption | exact hC0.mp (by assumption) | (intro h; exact absurd (hC0.mpr h) (by assumption)) | exact ⟨by assumption, by assumption⟩ | (intro h; exact absurd h.1 (by assumption)) | (intro h; exact absurd h.2 (by assumption)); done) | (exfalso; omega)⟩, rfl⟩
  · refine z_look (pc := 8) hO (tgt := 118) dX4_holds_8 (by omega) rfl (by first | (rw [w1]; done) | (rw [w1]; rfl)) (by decide) ?_
    refine z_aload_n (pc := 118) hO 1 dX4_holds_118 rfl rfl ?_
    refine z_iconst (pc := 119) hO dX4_holds_119 ?_
    refine z_iload_n (pc := 120) hO 0 dX4_holds_120 rfl rfl ?_
    refine z_callSB (pc := 121) hO (As := [.ref (gA g (10 + q)), .int (zi 2), .int (zi (lsum (x (10 + q) 1) (nc x q) 0 0))]) (st := []) (c_X4_areLinesAt (qL Γ) g x q 2 (lsum (x (10 + q) 1) (nc x q) 0 0) (by first | assumption | omega) (by first | assumption | omega) (by first | assumption | omega)) k_X4_21 rfl (Nat.le_of_ble_eq_true rfl) (by decide) (by decide) ⟨by decide, by decide⟩ dX4_holds_121 (fun pb6 => ?_) (fun pb6 => ?_)
    · skip
      refine z_if_eq (pc := 124) hO (tgt := 140) dX4_holds_124 (by decide) (by decide) (fun h => absurd h (by decide)) (fun _ => ?_)
      refine z_aload_n (pc := 127) hO 1 dX4_holds_127 rfl rfl ?_
      refine z_iconst (pc := 128) hO dX4_holds_128 ?_
      refine z_iload_n (pc := 129) hO 0 dX4_holds_129 rfl rfl ?_
      refine z_callSB (pc := 130) hO (As := [.ref (gA g (10 + q)), .int (zi 3), .int (zi (lsum (x (10 + q) 1) (nc x q) 0 0))]) (st := []) (c_X4_areLinesAt (qL Γ) g x q 3 (lsum (x (10 + q) 1) (nc x q) 0 0) (by first | assumption | omega) (by first | assumption | omega) (by first | assumption | omega)) k_X4_21 rfl (Nat.le_of_ble_eq_true rfl) (by decide) (by decide) ⟨by decide, by decide⟩ dX4_holds_130 (fun pb7 => ?_) (fun pb7 => ?_)
      · skip
        refine z_if_eq (pc := 133) hO (tgt := 140) dX4_holds_133 (by decide) (by decide) (fun h => absurd h (by decide)) (fun _ => ?_)
        refine z_iconst (pc := 136) hO dX4_holds_136 ?_
        refine z_goto (pc := 137) hO (tgt := 141) dX4_holds_137 (by decide) ?_
        exact z_iret (pc := 141) hO hr hQ rfl dX4_holds_141 ⟨Or.inl ⟨rfl, by first | (subst w1; simp only [lwV_1, lwV_2, lwV_4, lwV_8, lwV_16, lwV_32, lwV_64, lwV_128]; first | assumption | exact hC0.mp (by assumption) | (intro h; exact absurd (hC0.mpr h) (by assumption)) | exact ⟨by assumption, by assumption⟩ | (intro h; exact absurd h.1 (by assumption)) | (intro h; exact absurd h.2 (by assumption)); done) | (exfalso; omega)⟩, rfl⟩
      · skip
        refine z_if_eq (pc := 133) hO (tgt := 140) dX4_holds_133 (by decide) (by decide) (fun _ => ?_) (fun h => absurd h (by decide))
        refine z_iconst (pc := 140) hO dX4_holds_140 ?_
        exact z_iret (pc := 141) hO hr hQ rfl dX4_holds_141 ⟨Or.inr ⟨rfl, by first | (subst w1; simp only [lwV_1, lwV_2, lwV_4, lwV_8, lwV_16, lwV_32, lwV_64, lwV_128]; first | assumption | exact hC0.mp (by assumption) | (intro h; exact absurd (hC0.mpr h) (by assumption)) | exact ⟨by assumption, by assumption⟩ | (intro h; exact absurd h.1 (by assumption)) | (intro h; exact absurd h.2 (by assumption)); done) | (exfalso; omega)⟩, rfl⟩
    · skip
      refine z_if_eq (pc := 124) hO (tgt := 140) dX4_holds_124 (by decide) (by decide) (fun _ => ?_) (fun h => absurd h (by decide))
      refine z_iconst (pc := 140) hO dX4_holds_140 ?_
      exact z_iret (pc := 141) hO hr hQ rfl dX4_holds_141 ⟨Or.inr ⟨rfl, by first | (subst w1; simp only [lwV_1, lwV_2, lwV_4, lwV_8, lwV_16, lwV_32, lwV_64, lwV_128]; first | assumption | exact hC0.mp (by assumption) | (intro h; exact absurd (hC0.mpr h) (by assumption)) | exact ⟨by assumption, by assumption⟩ | (intro h; exact absurd h.1 (by assumption)) | (intro h; exact absurd h.2 (by assumption)); done) | (exfalso; omega)⟩, rfl⟩
  · refine z_look (pc := 8) hO (tgt := 142) dX4_holds_8 (by omega) rfl (by first | (rw [w1]; done) | (rw [w1]; rfl)) (by decide) ?_
    refine z_aload_n (pc := 142) hO 1 dX4_holds_142 rfl rfl ?_
    refine z_callSB (pc := 143) hO (As := [.ref (gA g (10 + q))]) (st := []) (c_X4_areOppositesAlike (qL Γ) g x q (by first | assumption | omega)) k_X4_36 rfl (Nat.le_of_ble_eq_true rfl) (by decide) (by decide) ⟨by decide, by decide⟩ dX4_holds_143 (fun pb8 => ?_) (fun pb8 => ?_)
    · skip
      exact z_iret (pc := 146) hO hr hQ rfl dX4_holds_146 ⟨Or.inl ⟨rfl, by first | (subst w1; simp only [lwV_1, lwV_2, lwV_4, lwV_8, lwV_16, lwV_32, lwV_64, lwV_128]; first | assumption | exact hC0.mp (by assumption) | (intro h; exact absurd (hC0.mpr h) (by assumption)) | exact ⟨by assumption, by assumption⟩ | (intro h; exact absurd h.1 (by assumption)) | (intro h; exact absurd h.2 (by assumption)); done) | (exfalso; omega)⟩, rfl⟩
    · skip
      exact z_iret (pc := 146) hO hr hQ rfl dX4_holds_146 ⟨Or.inr ⟨rfl, by first | (subst w1; simp only [lwV_1, lwV_2, lwV_4, lwV_8, lwV_16, lwV_32, lwV_64, lwV_128]; first | assumption | exact hC0.mp (by assumption) | (intro h; exact absurd (hC0.mpr h) (by assumption)) | exact ⟨by assumption, by assumption⟩ | (intro h; exact absurd h.1 (by assumption)) | (intro h; exact absurd h.2 (by assumption)); done) | (exfalso; omega)⟩, rfl⟩
  · refine z_look (pc := 8) hO (tgt := 147) dX4_holds_8 (by omega) rfl (by first | (rw [w1]; done) | (rw [w1]; rfl)) (by decide) ?_
    refine z_aload_n (pc := 147) hO 1 dX4_holds_147 rfl rfl ?_
    refine z_callSB (pc := 148) hO (As := [.ref (gA g (10 + q))]) (st := []) (c_X4_isNormal (qL Γ) g x q (by first | assumption | omega)) k_X4_40 rfl (Nat.le_of_ble_eq_true rfl) (by decide) (by decide) ⟨by decide, by decide⟩ dX4_holds_148 (fun pb9 => ?_) (fun pb9 => ?_)
    · skip
      exact z_iret (pc := 151) hO hr hQ rfl dX4_holds_151 ⟨Or.inl ⟨rfl, by first | (subst w1; simp only [lwV_1, lwV_2, lwV_4, lwV_8, lwV_16, lwV_32, lwV_64, lwV_128]; first | assumption | exact hC0.mp (by assumption) | (intro h; exact absurd (hC0.mpr h) (by assumption)) | exact ⟨by assumption, by assumption⟩ | (intro h; exact absurd h.1 (by assumption)) | (intro h; exact absurd h.2 (by assumption)); done) | (exfalso; omega)⟩, rfl⟩
    · skip
      exact z_iret (pc := 151) hO hr hQ rfl dX4_holds_151 ⟨Or.inr ⟨rfl, by first | (subst w1; simp only [lwV_1, lwV_2, lwV_4, lwV_8, lwV_16, lwV_32, lwV_64, lwV_128]; first | assumption | exact hC0.mp (by assumption) | (intro h; exact absurd (hC0.mpr h) (by assumption)) | exact ⟨by assumption, by assumption⟩ | (intro h; exact absurd h.1 (by assumption)) | (intro h; exact absurd h.2 (by assumption)); done) | (exfalso; omega)⟩, rfl⟩
  · refine z_look (pc := 8) hO (tgt := 152) dX4_holds_8 (by omega) rfl (by first | (rw [w1]; done) | (rw [w1]; rfl)) (by decide) ?_
    refine z_aload_n (pc := 152) hO 1 dX4_holds_152 rfl rfl ?_
    refine z_callSB (pc := 153) hO (As := [.ref (gA g (10 + q))]) (st := []) (c_X4_arePowersAlike (qL Γ) g x q (by first | assumption | omega)) k_X4_43 rfl (Nat.le_of_ble_eq_true rfl) (by decide) (by decide) ⟨by decide, by decide⟩ dX4_holds_153 (fun pb10 => ?_) (fun pb10 => ?_)
    · skip
      exact z_iret (pc := 156) hO hr hQ rfl dX4_holds_156 ⟨Or.inl ⟨rfl, by first | (subst w1; simp only [lwV_1, lwV_2, lwV_4, lwV_8, lwV_16, lwV_32, lwV_64, lwV_128]; first | assumption | exact hC0.mp (by assumption) | (intro h; exact absurd (hC0.mpr h) (by assumption)) | exact ⟨by assumption, by assumption⟩ | (intro h; exact absurd h.1 (by assumption)) | (intro h; exact absurd h.2 (by assumption)); done) | (exfalso; omega)⟩, rfl⟩
    · skip
      exact z_iret (pc := 156) hO hr hQ rfl dX4_holds_156 ⟨Or.inr ⟨rfl, by first | (subst w1; simp only [lwV_1, lwV_2, lwV_4, lwV_8, lwV_16, lwV_32, lwV_64, lwV_128]; first | assumption | exact hC0.mp (by assumption) | (intro h; exact absurd (hC0.mpr h) (by assumption)) | exact ⟨by assumption, by assumption⟩ | (intro h; exact absurd h.1 (by assumption)) | (intro h; exact absurd h.2 (by assumption)); done) | (exfalso; omega)⟩, rfl⟩

set_option maxHeartbeats 4000000 in
theorem c_X4_heldBy (l : Launch) (g : Gl) (x : Me) (q : Nat)  (hF : FG x q) : ctQ l g yX4_heldBy cX4_heldBy 3 (some .int) 5 112 [.ref (gA g (10 + q))] x (QIu g (fun z x' => z = (lws (x (10 + q) 1) (nc x q) 8) ∧ x' = x)) := by
  refine ct_start (own := RX4) (lv := [(0, .ref (gA g (10 + q)))]) (plainFor_of_name (by decide)) rfl (Nat.le_of_ble_eq_true rfl) rfl ?_
  intro Γ hΓ hO hr hQ _
  obtain ⟨hq, hs, hf⟩ := id hF
  have h9 := sq9 hs
  have hN := FG.r hF
  refine z_iconst (pc := 0) hO dX4_heldBy_0 ?_
  refine z_istore_n (pc := 1) hO (lv' := [(1, .int (zi 0)), (0, .ref (gA g (10 + q)))]) dX4_heldBy_1 rfl (by decide) rfl ?_
  refine z_iconst (pc := 2) hO dX4_heldBy_2 ?_
  refine z_istore_n (pc := 3) hO (lv' := [(2, .int (zi 0)), (1, .int (zi 0)), (0, .ref (gA g (10 + q)))]) dX4_heldBy_3 rfl (by decide) rfl ?_
  have L4 : ∀ (N : Nat) (i : Int) (s : Int), (8 - i).toNat < N → (0 ≤ i ∧ i ≤ 8) → (s = lws (x (10 + q) 1) (nc x q) i.toNat) → Zz Γ g 3 0 0 x 4 [(0, .ref (gA g (10 + q))), (1, .int (zi s)), (2, .int (zi i))] [] := by
    intro N
    induction N with
    | zero => intro i s hm; exact absurd hm (Nat.not_lt_zero _)
    | succ N ih4 =>
      intro i s hm h0 hA
      have hR := lws_rng (x (10 + q) 1) (nc x q) i.toNat
      have hi2 : ((i.toNat : Nat) : Int) = i := by omega
      rw [hi2, ← hA] at hR
      refine z_iload_n (pc := 4) hO 2 dX4_heldBy_4 rfl rfl ?_
      refine z_bipush (pc := 5) hO dX4_heldBy_5 (by decide) ?_
      refine z_icmp_ge (pc := 7) hO (tgt := 32) dX4_heldBy_7 (by decide) (by omega) (by omega) (fun b1 => ?_) (fun b1 => ?_)
      · refine z_iload_n (pc := 32) hO 1 dX4_heldBy_32 rfl rfl ?_
        exact z_iret (pc := 33) hO hr hQ rfl dX4_heldBy_33 ⟨by first | (rw [hA]; congr 1; omega; done) | (exfalso; omega), rfl⟩
      · have h8 := p2_8 (k := i) (by omega)
        refine z_aload_n (pc := 10) hO 0 dX4_heldBy_10 rfl rfl ?_
        refine z_iconst (pc := 11) hO dX4_heldBy_11 ?_
        refine z_iload_n (pc := 12) hO 2 dX4_heldBy_12 rfl rfl ?_
        refine z_ishl (pc := 13) hO (zi (p2 i)) dX4_heldBy_13 (by exact zn_shl (by omega)) ?_
        refine z_callSB (pc := 14) hO (As := [.ref (gA g (10 + q)), .int (zi (p2 i))]) (st := []) (c_X4_holds (qL Γ) g x q (p2 i) (by first | assumption | omega) (by first | assumption | omega)) k_X4_11 rfl (Nat.le_of_ble_eq_true rfl) (by decide) (by decide) ⟨by decide, by decide⟩ dX4_heldBy_14 (fun pb2 => ?_) (fun pb2 => ?_)
        · skip
          refine z_if_eq (pc := 17) hO (tgt := 26) dX4_heldBy_17 (by decide) (by decide) (fun h => absurd h (by decide)) (fun _ => ?_)
          refine z_iload_n (pc := 20) hO 1 dX4_heldBy_20 rfl rfl ?_
          refine z_iconst (pc := 21) hO dX4_heldBy_21 ?_
          refine z_iload_n (pc := 22) hO 2 dX4_heldBy_22 rfl rfl ?_
          refine z_ishl (pc := 23) hO (zi (p2 i)) dX4_heldBy_23 (by exact zn_shl (by omega)) ?_
          refine z_ior (pc := 24) hO (zi (s + (p2 i))) dX4_heldBy_24 (by exact or_p2 (by omega) (by omega)) ?_
          refine z_istore_n (pc := 25) hO (lv' := [(1, .int (zi (s + (p2 i)))), (0, .ref (gA g (10 + q))), (2, .int (zi i))]) dX4_heldBy_25 rfl (by decide) rfl ?_
          refine z_iinc (pc := 26) hO 2 (lv' := [(2, .int (zi (i + 1))), (1, .int (zi (s + (p2 i)))), (0, .ref (gA g (10 + q)))]) dX4_heldBy_26 rfl (by decide) rfl ?_
          refine z_goto (pc := 29) hO (tgt := 4) dX4_heldBy_29 (by decide) ?_
          refine z_sub [2, 1, 0] rfl ?_
          exact ih4 (i + 1) (s + (p2 i)) (by omega) (by omega) (by rw [show (i + 1).toNat = i.toNat + 1 by omega, lws, hA, show ((i.toNat : Nat) : Int) = i by omega]; first | (rw [bi_t (by assumption)]; omega) | (rw [bi_f (by assumption)]; omega))
        · skip
          refine z_if_eq (pc := 17) hO (tgt := 26) dX4_heldBy_17 (by decide) (by decide) (fun _ => ?_) (fun h => absurd h (by decide))
          refine z_iinc (pc := 26) hO 2 (lv' := [(2, .int (zi (i + 1))), (0, .ref (gA g (10 + q))), (1, .int (zi s))]) dX4_heldBy_26 rfl (by decide) rfl ?_
          refine z_goto (pc := 29) hO (tgt := 4) dX4_heldBy_29 (by decide) ?_
          refine z_sub [1, 2, 0] rfl ?_
          exact ih4 (i + 1) s (by omega) (by omega) (by rw [show (i + 1).toNat = i.toNat + 1 by omega, lws, hA, show ((i.toNat : Nat) : Int) = i by omega]; first | (rw [bi_t (by assumption)]; omega) | (rw [bi_f (by assumption)]; omega))
  refine z_sub [2, 1, 0] rfl ?_
  exact L4 _ 0 0 (Nat.lt_succ_self _) (by omega) (by rfl)

set_option maxHeartbeats 4000000 in
theorem c_X2_numberIn (l : Launch) (g : Gl) (x : Me) (q : Nat) (form : Int) (p : Int)  (hF : FG x q) (hm : 0 ≤ form ∧ form < 8) (hp : 0 ≤ p ∧ p < x (10 + q) 1 * x (10 + q) 1) : ctQ l g yX2_numberIn cX2_numberIn 4 (some .int) 3 67 [.ref (gA g (10 + q)), .int (zi form), .int (zi p)] x (QIu g (fun z x' => z = (nc x q (fmp (x (10 + q) 1) form p)) ∧ x' = x)) := by
  refine ct_start (own := RX2) (lv := [(0, .ref (gA g (10 + q))), (1, .int (zi form)), (2, .int (zi p))]) (plainFor_of_name (by decide)) rfl (Nat.le_of_ble_eq_true rfl) rfl ?_
  intro Γ hΓ hO hr hQ _
  obtain ⟨hq, hs, hf⟩ := id hF
  have h9 := sq9 hs
  have hN := FG.r hF
  have hT := tur_rng (t := form % 4) hs hp
  have hU := fli_rng (t := form / 4) hs hT
  refine z_aload_n (pc := 0) hO 0 dX2_numberIn_0 rfl rfl ?_
  refine z_callVIp (pc := 1) hO (As := []) (st := []) (c_X1_side (qL Γ) g x q (by first | assumption | omega)) k_X2_7 (isO_fig (by omega : q < 9)) rfl (Nat.le_of_ble_eq_true rfl) (by decide) (by decide) ⟨by decide, by decide⟩ dX2_numberIn_1 ?_
  refine z_iload_n (pc := 4) hO 1 dX2_numberIn_4 rfl rfl ?_
  refine z_iconst (pc := 5) hO dX2_numberIn_5 ?_
  refine z_irem (pc := 6) hO dX2_numberIn_6 (by omega) (by omega) ?_
  refine z_iload_n (pc := 7) hO 2 dX2_numberIn_7 rfl rfl ?_
  refine z_callSIp (pc := 8) hO (As := [.int (zi (x (10 + q) 1)), .int (zi (form % 4)), .int (zi p)]) (st := []) (c_X7_aheadOfTurn (qL Γ) g x (x (10 + q) 1) (form % 4) p (by first | assumption | omega) (by first | assumption | omega) (by first | assumption | omega)) k_X2_13 rfl (Nat.le_of_ble_eq_true rfl) (by decide) (by decide) ⟨by decide, by decide⟩ dX2_numberIn_8 ?_
  refine z_istore_n (pc := 11) hO (lv' := [(3, .int (zi (tur (x (10 + q) 1) (form % 4) p))), (0, .ref (gA g (10 + q))), (1, .int (zi form)), (2, .int (zi p))]) dX2_numberIn_11 rfl (by decide) rfl ?_
  refine z_aload_n (pc := 12) hO 1 dX2_numberIn_12 rfl rfl ?_
  refine z_aload_n (pc := 13) hO 1 dX2_numberIn_13 rfl rfl ?_
  refine z_callVIp (pc := 14) hO (As := []) (st := [.ref (gA g (10 + q))]) (c_X1_side (qL Γ) g x q (by first | assumption | omega)) k_X2_7 (isO_fig (by omega : q < 9)) rfl (Nat.le_of_ble_eq_true rfl) (by decide) (by decide) ⟨by decide, by decide⟩ dX2_numberIn_14 ?_
  refine z_iload_n (pc := 17) hO 2 dX2_numberIn_17 rfl rfl ?_
  refine z_iconst (pc := 18) hO dX2_numberIn_18 ?_
  refine z_idiv (pc := 19) hO dX2_numberIn_19 (by omega) (by omega) ?_
  refine z_iload_n (pc := 20) hO 0 dX2_numberIn_20 rfl rfl ?_
  refine z_callSIp (pc := 21) hO (As := [.int (zi (x (10 + q) 1)), .int (zi (form / 4)), .int (zi (tur (x (10 + q) 1) (form % 4) p))]) (st := [.ref (gA g (10 + q))]) (c_X7_aheadOfFlip (qL Γ) g x (x (10 + q) 1) (form / 4) (tur (x (10 + q) 1) (form % 4) p) (by first | assumption | omega) (by first | assumption | omega) (by first | assumption | omega)) k_X2_19 rfl (Nat.le_of_ble_eq_true rfl) (by decide) (by decide) ⟨by decide, by decide⟩ dX2_numberIn_21 ?_
  refine z_callVIp (pc := 24) hO (As := [.int (zi (fli (x (10 + q) 1) (form / 4) (tur (x (10 + q) 1) (form % 4) p)))]) (st := []) (c_X1_read (qL Γ) g x q (fli (x (10 + q) 1) (form / 4) (tur (x (10 + q) 1) (form % 4) p)) (by first | assumption | omega) (by first | assumption | omega)) k_X2_22 (isO_fig (by omega : q < 9)) rfl (Nat.le_of_ble_eq_true rfl) (by decide) (by decide) ⟨by decide, by decide⟩ dX2_numberIn_24 ?_
  exact z_iret (pc := 27) hO hr hQ rfl dX2_numberIn_27 ⟨by first | rfl | omega, rfl⟩

set_option maxHeartbeats 4000000 in
theorem c_X2_isForm (l : Launch) (g : Gl) (x : Me) (q : Nat) (form : Int) (r : Nat)  (hF : FG x q) (hFr : FG x r) (hm : 0 ≤ form ∧ form < 8) : ctQ l g yX2_isForm cX2_isForm 4 (some .boolean) 4 90 [.ref (gA g (10 + q)), .int (zi form), .ref (gA g (10 + r))] x (QIu g (fun z x' => ((z = 1 ∧ (x (10 + q) 1 = x (10 + r) 1 ∧ isF (x (10 + q) 1) (nc x q) form (nc x r))) ∨ (z = 0 ∧ ¬ (x (10 + q) 1 = x (10 + r) 1 ∧ isF (x (10 + q) 1) (nc x q) form (nc x r)))) ∧ x' = x)) := by
  refine ct_start (own := RX2) (lv := [(0, .ref (gA g (10 + q))), (1, .int (zi form)), (2, .ref (gA g (10 + r)))]) (plainFor_of_name (by decide)) rfl (Nat.le_of_ble_eq_true rfl) rfl ?_
  intro Γ hΓ hO hr hQ _
  obtain ⟨hq, hs, hf⟩ := id hF
  have h9 := sq9 hs
  have hN := FG.r hF
  obtain ⟨hqr, hsr, hfr⟩ := id hFr
  have h9r := sq9 hsr
  have hNr := FG.r hFr
  refine z_aload_n (pc := 0) hO 0 dX2_isForm_0 rfl rfl ?_
  refine z_callVIp (pc := 1) hO (As := []) (st := []) (c_X1_side (qL Γ) g x q (by first | assumption | omega)) k_X2_7 (isO_fig (by omega : q < 9)) rfl (Nat.le_of_ble_eq_true rfl) (by decide) (by decide) ⟨by decide, by decide⟩ dX2_isForm_1 ?_
  refine z_aload_n (pc := 4) hO 2 dX2_isForm_4 rfl rfl ?_
  refine z_callVIp (pc := 5) hO (As := []) (st := [.int (zi (x (10 + q) 1))]) (c_X1_side (qL Γ) g x r (by first | assumption | omega)) k_X2_7 (isO_fig (by omega : r < 9)) rfl (Nat.le_of_ble_eq_true rfl) (by decide) (by decide) ⟨by decide, by decide⟩ dX2_isForm_5 ?_
  refine z_icmp_eq (pc := 8) hO (tgt := 13) dX2_isForm_8 (by decide) (by omega) (by omega) (fun b1 => ?_) (fun b1 => ?_)
  · refine z_iconst (pc := 13) hO dX2_isForm_13 ?_
    refine z_istore_n (pc := 14) hO (lv' := [(3, .int (zi 0)), (0, .ref (gA g (10 + q))), (1, .int (zi form)), (2, .ref (gA g (10 + r)))]) dX2_isForm_14 rfl (by decide) rfl ?_
    have L15 : ∀ (N : Nat) (i : Int), (x (10 + q) 1 * x (10 + q) 1 - i).toNat < N → (0 ≤ i ∧ i ≤ x (10 + q) 1 * x (10 + q) 1) → (∀ p, 0 ≤ p → p < i → nc x q (fmp (x (10 + q) 1) form p) = nc x r p) → Zz Γ g 4 0 0 x 15 [(0, .ref (gA g (10 + q))), (1, .int (zi form)), (2, .ref (gA g (10 + r))), (3, .int (zi i))] [] := by
      intro N
      induction N with
      | zero => intro i hm; exact absurd hm (Nat.not_lt_zero _)
      | succ N ih15 =>
        intro i hm h0 hA
        have hR := hN (fmp (x (10 + q) 1) form i)
        have hR2 := hNr i
        refine z_iload_n (pc := 15) hO 3 dX2_isForm_15 rfl rfl ?_
        refine z_aload_n (pc := 16) hO 0 dX2_isForm_16 rfl rfl ?_
        refine z_callVIp (pc := 17) hO (As := []) (st := [.int (zi i)]) (c_X1_size (qL Γ) g x q (by first | assumption | omega)) k_X2_32 (isO_fig (by omega : q < 9)) rfl (Nat.le_of_ble_eq_true rfl) (by decide) (by decide) ⟨by decide, by decide⟩ dX2_isForm_17 ?_
        refine z_icmp_ge (pc := 20) hO (tgt := 45) dX2_isForm_20 (by decide) (by omega) (by omega) (fun b2 => ?_) (fun b2 => ?_)
        · refine z_iconst (pc := 45) hO dX2_isForm_45 ?_
          exact z_iret (pc := 46) hO hr hQ rfl dX2_isForm_46 ⟨Or.inl ⟨rfl, by first | (first | (refine ⟨by assumption, fun l a b => hA l a (by omega)⟩) | (intro h; have := h.2 i (by omega) (by omega); omega) | (intro h; have := h.1; omega); done) | (exfalso; omega)⟩, rfl⟩
        · refine z_aload_n (pc := 23) hO 0 dX2_isForm_23 rfl rfl ?_
          refine z_iload_n (pc := 24) hO 1 dX2_isForm_24 rfl rfl ?_
          refine z_iload_n (pc := 25) hO 3 dX2_isForm_25 rfl rfl ?_
          refine z_callSIp (pc := 26) hO (As := [.ref (gA g (10 + q)), .int (zi form), .int (zi i)]) (st := []) (c_X2_numberIn (qL Γ) g x q form i (by first | assumption | omega) (by first | assumption | omega) (by first | assumption | omega)) k_X2_35 rfl (Nat.le_of_ble_eq_true rfl) (by decide) (by decide) ⟨by decide, by decide⟩ dX2_isForm_26 ?_
          refine z_aload_n (pc := 29) hO 2 dX2_isForm_29 rfl rfl ?_
          refine z_iload_n (pc := 30) hO 3 dX2_isForm_30 rfl rfl ?_
          refine z_callVIp (pc := 31) hO (As := [.int (zi i)]) (st := [.int (zi (nc x q (fmp (x (10 + q) 1) form i)))]) (c_X1_read (qL Γ) g x r i (by first | assumption | omega) (by first | assumption | omega)) k_X2_22 (isO_fig (by omega : r < 9)) rfl (Nat.le_of_ble_eq_true rfl) (by decide) (by decide) ⟨by decide, by decide⟩ dX2_isForm_31 ?_
          refine z_icmp_eq (pc := 34) hO (tgt := 39) dX2_isForm_34 (by decide) (by omega) (by omega) (fun b3 => ?_) (fun b3 => ?_)
          · refine z_iinc (pc := 39) hO 3 (lv' := [(3, .int (zi (i + 1))), (0, .ref (gA g (10 + q))), (1, .int (zi form)), (2, .ref (gA g (10 + r)))]) dX2_isForm_39 rfl (by decide) rfl ?_
            refine z_goto (pc := 42) hO (tgt := 15) dX2_isForm_42 (by decide) ?_
            refine z_sub [1, 2, 3, 0] rfl ?_
            exact ih15 (i + 1) (by omega) (by omega) (by intro l a b; by_cases hl : l = i; (subst hl; assumption); exact hA l a (by omega))
          · refine z_iconst (pc := 37) hO dX2_isForm_37 ?_
            exact z_iret (pc := 38) hO hr hQ rfl dX2_isForm_38 ⟨Or.inr ⟨rfl, by first | (first | (refine ⟨by assumption, fun l a b => hA l a (by omega)⟩) | (intro h; have := h.2 i (by omega) (by omega); omega) | (intro h; have := h.1; omega); done) | (exfalso; omega)⟩, rfl⟩
    refine z_sub [1, 2, 3, 0] rfl ?_
    exact L15 _ 0 (Nat.lt_succ_self _) (by omega) (by intro l a b; omega)
  · refine z_iconst (pc := 11) hO dX2_isForm_11 ?_
    exact z_iret (pc := 12) hO hr hQ rfl dX2_isForm_12 ⟨Or.inr ⟨rfl, by first | (first | (refine ⟨by assumption, fun l a b => hA l a (by omega)⟩) | (intro h; have := h.2 i (by omega) (by omega); omega) | (intro h; have := h.1; omega); done) | (exfalso; omega)⟩, rfl⟩

set_option maxHeartbeats 4000000 in
theorem c_X2_areKin (l : Launch) (g : Gl) (x : Me) (q : Nat) (r : Nat)  (hF : FG x q) (hFr : FG x r) : ctQ l g yX2_areKin cX2_areKin 3 (some .boolean) 5 113 [.ref (gA g (10 + q)), .ref (gA g (10 + r))] x (QIu g (fun z x' => ((z = 1 ∧ (∃ form, 0 ≤ form ∧ form < 8 ∧ x (10 + q) 1 = x (10 + r) 1 ∧ isF (x (10 + q) 1) (nc x q) form (nc x r))) ∨ (z = 0 ∧ ¬ (∃ form, 0 ≤ form ∧ form < 8 ∧ x (10 + q) 1 = x (10 + r) 1 ∧ isF (x (10 + q) 1) (nc x q) form (nc x r)))) ∧ x' = x)) := by
  refine ct_start (own := RX2) (lv := [(0, .ref (gA g (10 + q))), (1, .ref (gA g (10 + r)))]) (plainFor_of_name (by decide)) rfl (Nat.le_of_ble_eq_true rfl) rfl ?_
  intro Γ hΓ hO hr hQ _
  refine z_iconst (pc := 0) hO dX2_areKin_0 ?_
  refine z_istore_n (pc := 1) hO (lv' := [(2, .int (zi 0)), (0, .ref (gA g (10 + q))), (1, .ref (gA g (10 + r)))]) dX2_areKin_1 rfl (by decide) rfl ?_
  have L2 : ∀ (N : Nat) (i : Int), (8 - i).toNat < N → (0 ≤ i ∧ i ≤ 8) → (∀ m, 0 ≤ m → m < i → ¬ (x (10 + q) 1 = x (10 + r) 1 ∧ isF (x (10 + q) 1) (nc x q) m (nc x r))) → Zz Γ g 3 0 0 x 2 [(0, .ref (gA g (10 + q))), (1, .ref (gA g (10 + r))), (2, .int (zi i))] [] := by
    intro N
    induction N with
    | zero => intro i hm; exact absurd hm (Nat.not_lt_zero _)
    | succ N ih2 =>
      intro i hm h0 hA
      refine z_iload_n (pc := 2) hO 2 dX2_areKin_2 rfl rfl ?_
      refine z_bipush (pc := 3) hO dX2_areKin_3 (by decide) ?_
      refine z_icmp_ge (pc := 5) hO (tgt := 25) dX2_areKin_5 (by decide) (by omega) (by omega) (fun b1 => ?_) (fun b1 => ?_)
      · refine z_iconst (pc := 25) hO dX2_areKin_25 ?_
        exact z_iret (pc := 26) hO hr hQ rfl dX2_areKin_26 ⟨Or.inr ⟨rfl, by first | (first | exact ⟨i, by omega, by omega, by assumption⟩ | (rintro ⟨m, a, b, h⟩; exact hA m a (by omega) h); done) | (exfalso; omega)⟩, rfl⟩
      · refine z_aload_n (pc := 8) hO 0 dX2_areKin_8 rfl rfl ?_
        refine z_iload_n (pc := 9) hO 2 dX2_areKin_9 rfl rfl ?_
        refine z_aload_n (pc := 10) hO 1 dX2_areKin_10 rfl rfl ?_
        refine z_callSB (pc := 11) hO (As := [.ref (gA g (10 + q)), .int (zi i), .ref (gA g (10 + r))]) (st := []) (c_X2_isForm (qL Γ) g x q i r (by first | assumption | omega) (by first | assumption | omega) (by first | assumption | omega)) k_X2_28 rfl (Nat.le_of_ble_eq_true rfl) (by decide) (by decide) ⟨by decide, by decide⟩ dX2_areKin_11 (fun pb2 => ?_) (fun pb2 => ?_)
        · skip
          refine z_if_eq (pc := 14) hO (tgt := 19) dX2_areKin_14 (by decide) (by decide) (fun h => absurd h (by decide)) (fun _ => ?_)
          refine z_iconst (pc := 17) hO dX2_areKin_17 ?_
          exact z_iret (pc := 18) hO hr hQ rfl dX2_areKin_18 ⟨Or.inl ⟨rfl, by first | (first | exact ⟨i, by omega, by omega, by assumption⟩ | (rintro ⟨m, a, b, h⟩; exact hA m a (by omega) h); done) | (exfalso; omega)⟩, rfl⟩
        · skip
          refine z_if_eq (pc := 14) hO (tgt := 19) dX2_areKin_14 (by decide) (by decide) (fun _ => ?_) (fun h => absurd h (by decide))
          refine z_iinc (pc := 19) hO 2 (lv' := [(2, .int (zi (i + 1))), (0, .ref (gA g (10 + q))), (1, .ref (gA g (10 + r)))]) dX2_areKin_19 rfl (by decide) rfl ?_
          refine z_goto (pc := 22) hO (tgt := 2) dX2_areKin_22 (by decide) ?_
          refine z_sub [1, 2, 0] rfl ?_
          exact ih2 (i + 1) (by omega) (by omega) (by intro l a b; by_cases hl : l = i; (subst hl; assumption); exact hA l a (by omega))
  refine z_sub [1, 2, 0] rfl ?_
  exact L2 _ 0 (Nat.lt_succ_self _) (by omega) (by intro l a b; omega)

set_option maxHeartbeats 4000000 in
theorem c_X2_countLike (l : Launch) (g : Gl) (x : Me) (q : Nat)  (hF : FG x q) : ctQ l g yX2_countLike cX2_countLike 3 (some .int) 5 113 [.ref (gA g (10 + q))] x (QIu g (fun z x' => z = (sm (fun m => bi (isF (x (10 + q) 1) (nc x q) m (nc x q))) 8) ∧ x' = x)) := by
  refine ct_start (own := RX2) (lv := [(0, .ref (gA g (10 + q)))]) (plainFor_of_name (by decide)) rfl (Nat.le_of_ble_eq_true rfl) rfl ?_
  intro Γ hΓ hO hr hQ _
  refine z_iconst (pc := 0) hO dX2_countLike_0 ?_
  refine z_istore_n (pc := 1) hO (lv' := [(1, .int (zi 0)), (0, .ref (gA g (10 + q)))]) dX2_countLike_1 rfl (by decide) rfl ?_
  refine z_iconst (pc := 2) hO dX2_countLike_2 ?_
  refine z_istore_n (pc := 3) hO (lv' := [(2, .int (zi 0)), (1, .int (zi 0)), (0, .ref (gA g (10 + q)))]) dX2_countLike_3 rfl (by decide) rfl ?_
  have L4 : ∀ (N : Nat) (i : Int) (s : Int), (8 - i).toNat < N → (0 ≤ i ∧ i ≤ 8) → (s = sm (fun m => bi (isF (x (10 + q) 1) (nc x q) m (nc x q))) i.toNat) → Zz Γ g 3 0 0 x 4 [(0, .ref (gA g (10 + q))), (1, .int (zi s)), (2, .int (zi i))] [] := by
    intro N
    induction N with
    | zero => intro i s hm; exact absurd hm (Nat.not_lt_zero _)
    | succ N ih4 =>
      intro i s hm h0 hA
      refine z_iload_n (pc := 4) hO 2 dX2_countLike_4 rfl rfl ?_
      refine z_bipush (pc := 5) hO dX2_countLike_5 (by decide) ?_
      refine z_icmp_ge (pc := 7) hO (tgt := 28) dX2_countLike_7 (by decide) (by omega) (by omega) (fun b1 => ?_) (fun b1 => ?_)
      · refine z_iload_n (pc := 28) hO 1 dX2_countLike_28 rfl rfl ?_
        exact z_iret (pc := 29) hO hr hQ rfl dX2_countLike_29 ⟨by first | (rw [hA]; congr 1; omega; done) | (exfalso; omega), rfl⟩
      · refine z_aload_n (pc := 10) hO 0 dX2_countLike_10 rfl rfl ?_
        refine z_iload_n (pc := 11) hO 2 dX2_countLike_11 rfl rfl ?_
        refine z_aload_n (pc := 12) hO 0 dX2_countLike_12 rfl rfl ?_
        refine z_callSB (pc := 13) hO (As := [.ref (gA g (10 + q)), .int (zi i), .ref (gA g (10 + q))]) (st := []) (c_X2_isForm (qL Γ) g x q i q (by first | assumption | omega) (by first | assumption | omega) (by first | assumption | omega)) k_X2_28 rfl (Nat.le_of_ble_eq_true rfl) (by decide) (by decide) ⟨by decide, by decide⟩ dX2_countLike_13 (fun pb2 => ?_) (fun pb2 => ?_)
        · skip
          refine z_if_eq (pc := 16) hO (tgt := 22) dX2_countLike_16 (by decide) (by decide) (fun h => absurd h (by decide)) (fun _ => ?_)
          refine z_iinc (pc := 19) hO 1 (lv' := [(1, .int (zi (s + 1))), (0, .ref (gA g (10 + q))), (2, .int (zi i))]) dX2_countLike_19 rfl (by decide) rfl ?_
          refine z_iinc (pc := 22) hO 2 (lv' := [(2, .int (zi (i + 1))), (1, .int (zi (s + 1))), (0, .ref (gA g (10 + q)))]) dX2_countLike_22 rfl (by decide) rfl ?_
          refine z_goto (pc := 25) hO (tgt := 4) dX2_countLike_25 (by decide) ?_
          refine z_sub [2, 1, 0] rfl ?_
          exact ih4 (i + 1) (s + 1) (by omega) (by omega) (by rw [sm_s _ (by omega), hA]; first | (rw [bi_t (And.right (by assumption))]; done) | (rw [bi_f (fun h => absurd (And.intro rfl h) (by assumption))]; omega))
        · skip
          refine z_if_eq (pc := 16) hO (tgt := 22) dX2_countLike_16 (by decide) (by decide) (fun _ => ?_) (fun h => absurd h (by decide))
          refine z_iinc (pc := 22) hO 2 (lv' := [(2, .int (zi (i + 1))), (0, .ref (gA g (10 + q))), (1, .int (zi s))]) dX2_countLike_22 rfl (by decide) rfl ?_
          refine z_goto (pc := 25) hO (tgt := 4) dX2_countLike_25 (by decide) ?_
          refine z_sub [1, 2, 0] rfl ?_
          exact ih4 (i + 1) s (by omega) (by omega) (by rw [sm_s _ (by omega), hA]; first | (rw [bi_t (And.right (by assumption))]; done) | (rw [bi_f (fun h => absurd (And.intro rfl h) (by assumption))]; omega))
  refine z_sub [2, 1, 0] rfl ?_
  exact L4 _ 0 0 (Nat.lt_succ_self _) (by omega) (by rfl)

set_option maxHeartbeats 4000000 in
theorem c_X2_isLower (l : Launch) (g : Gl) (x : Me) (q : Nat) (a : Int) (b : Int)  (hF : FG x q) (ha : 0 ≤ a ∧ a < 8) (hb : 0 ≤ b ∧ b < 8) : ctQ l g yX2_isLower cX2_isLower 6 (some .boolean) 4 90 [.ref (gA g (10 + q)), .int (zi a), .int (zi b)] x (QIu g (fun z x' => ((z = 1 ∧ (lwr (x (10 + q) 1) (nc x q) a b)) ∨ (z = 0 ∧ ¬ (lwr (x (10 + q) 1) (nc x q) a b))) ∧ x' = x)) := by
  refine ct_start (own := RX2) (lv := [(0, .ref (gA g (10 + q))), (1, .int (zi a)), (2, .int (zi b))]) (plainFor_of_name (by decide)) rfl (Nat.le_of_ble_eq_true rfl) rfl ?_
  intro Γ hΓ hO hr hQ _
  obtain ⟨hq, hs, hf⟩ := id hF
  have h9 := sq9 hs
  have hN := FG.r hF
  refine z_iconst (pc := 0) hO dX2_isLower_0 ?_
  refine z_istore_n (pc := 1) hO (lv' := [(3, .int (zi 0)), (0, .ref (gA g (10 + q))), (1, .int (zi a)), (2, .int (zi b))]) dX2_isLower_1 rfl (by decide) rfl ?_
  have L2 : ∀ (N : Nat) (i : Int), (x (10 + q) 1 * x (10 + q) 1 - i).toNat < N → (0 ≤ i ∧ i ≤ x (10 + q) 1 * x (10 + q) 1) → (∀ r, 0 ≤ r → r < i → nc x q (fmp (x (10 + q) 1) a r) = nc x q (fmp (x (10 + q) 1) b r)) → Zz Γ g 6 0 0 x 2 [(0, .ref (gA g (10 + q))), (1, .int (zi a)), (2, .int (zi b)), (3, .int (zi i))] [] := by
    intro N
    induction N with
    | zero => intro i hm; exact absurd hm (Nat.not_lt_zero _)
    | succ N ih2 =>
      intro i hm h0 hA
      have hR := hN (fmp (x (10 + q) 1) a i)
      have hR2 := hN (fmp (x (10 + q) 1) b i)
      refine z_iload_n (pc := 2) hO 3 dX2_isLower_2 rfl rfl ?_
      refine z_aload_n (pc := 3) hO 0 dX2_isLower_3 rfl rfl ?_
      refine z_callVIp (pc := 4) hO (As := []) (st := [.int (zi i)]) (c_X1_size (qL Γ) g x q (by first | assumption | omega)) k_X2_32 (isO_fig (by omega : q < 9)) rfl (Nat.le_of_ble_eq_true rfl) (by decide) (by decide) ⟨by decide, by decide⟩ dX2_isLower_4 ?_
      refine z_icmp_ge (pc := 7) hO (tgt := 52) dX2_isLower_7 (by decide) (by omega) (by omega) (fun b1 => ?_) (fun b1 => ?_)
      · refine z_iconst (pc := 52) hO dX2_isLower_52 ?_
        exact z_iret (pc := 53) hO hr hQ rfl dX2_isLower_53 ⟨Or.inr ⟨rfl, by first | (first | exact ⟨i, by omega, by omega, hA, by assumption⟩ | (rintro ⟨m, c, d, e, h⟩; rcases Int.lt_trichotomy m i with h1 | h1 | h1; (have := hA m c h1; omega); (subst h1; omega); (have := e i (by omega) h1; omega)) | (rintro ⟨m, c, d, e, h⟩; have := hA m c (by omega); omega); done) | (exfalso; omega)⟩, rfl⟩
      · refine z_aload_n (pc := 10) hO 0 dX2_isLower_10 rfl rfl ?_
        refine z_iload_n (pc := 11) hO 1 dX2_isLower_11 rfl rfl ?_
        refine z_iload_n (pc := 12) hO 3 dX2_isLower_12 rfl rfl ?_
        refine z_callSIp (pc := 13) hO (As := [.ref (gA g (10 + q)), .int (zi a), .int (zi i)]) (st := []) (c_X2_numberIn (qL Γ) g x q a i (by first | assumption | omega) (by first | assumption | omega) (by first | assumption | omega)) k_X2_35 rfl (Nat.le_of_ble_eq_true rfl) (by decide) (by decide) ⟨by decide, by decide⟩ dX2_isLower_13 ?_
        refine z_istore (pc := 16) hO (lv' := [(4, .int (zi (nc x q (fmp (x (10 + q) 1) a i)))), (0, .ref (gA g (10 + q))), (1, .int (zi a)), (2, .int (zi b)), (3, .int (zi i))]) dX2_isLower_16 (by decide) rfl ?_
        refine z_aload_n (pc := 18) hO 1 dX2_isLower_18 rfl rfl ?_
        refine z_iload_n (pc := 19) hO 3 dX2_isLower_19 rfl rfl ?_
        refine z_iload_n (pc := 20) hO 4 dX2_isLower_20 rfl rfl ?_
        refine z_callSIp (pc := 21) hO (As := [.ref (gA g (10 + q)), .int (zi b), .int (zi i)]) (st := []) (c_X2_numberIn (qL Γ) g x q b i (by first | assumption | omega) (by first | assumption | omega) (by first | assumption | omega)) k_X2_35 rfl (Nat.le_of_ble_eq_true rfl) (by decide) (by decide) ⟨by decide, by decide⟩ dX2_isLower_21 ?_
        refine z_istore (pc := 24) hO (lv' := [(5, .int (zi (nc x q (fmp (x (10 + q) 1) b i)))), (4, .int (zi (nc x q (fmp (x (10 + q) 1) a i)))), (0, .ref (gA g (10 + q))), (1, .int (zi a)), (2, .int (zi b)), (3, .int (zi i))]) dX2_isLower_24 (by decide) rfl ?_
        refine z_iload (pc := 26) hO 1 dX2_isLower_26 rfl ?_
        refine z_iload (pc := 28) hO 0 dX2_isLower_28 rfl ?_
        refine z_icmp_eq (pc := 30) hO (tgt := 46) dX2_isLower_30 (by decide) (by omega) (by omega) (fun b2 => ?_) (fun b2 => ?_)
        · refine z_iinc (pc := 46) hO 5 (lv' := [(3, .int (zi (i + 1))), (5, .int (zi (nc x q (fmp (x (10 + q) 1) b i)))), (4, .int (zi (nc x q (fmp (x (10 + q) 1) a i)))), (0, .ref (gA g (10 + q))), (1, .int (zi a)), (2, .int (zi b))]) dX2_isLower_46 rfl (by decide) rfl ?_
          refine z_goto (pc := 49) hO (tgt := 2) dX2_isLower_49 (by decide) ?_
          refine z_sub [3, 4, 5, 0] rfl ?_
          exact ih2 (i + 1) (by omega) (by omega) (by intro l a b; by_cases hl : l = i; (subst hl; assumption); exact hA l a (by omega))
        · refine z_iload (pc := 33) hO 1 dX2_isLower_33 rfl ?_
          refine z_iload (pc := 35) hO 0 dX2_isLower_35 rfl ?_
          refine z_icmp_ge (pc := 37) hO (tgt := 44) dX2_isLower_37 (by decide) (by omega) (by omega) (fun b3 => ?_) (fun b3 => ?_)
          · refine z_iconst (pc := 44) hO dX2_isLower_44 ?_
            exact z_iret (pc := 45) hO hr hQ rfl dX2_isLower_45 ⟨Or.inr ⟨rfl, by first | (first | exact ⟨i, by omega, by omega, hA, by assumption⟩ | (rintro ⟨m, c, d, e, h⟩; rcases Int.lt_trichotomy m i with h1 | h1 | h1; (have := hA m c h1; omega); (subst h1; omega); (have := e i (by omega) h1; omega)) | (rintro ⟨m, c, d, e, h⟩; have := hA m c (by omega); omega); done) | (exfalso; omega)⟩, rfl⟩
          · refine z_iconst (pc := 40) hO dX2_isLower_40 ?_
            refine z_goto (pc := 41) hO (tgt := 45) dX2_isLower_41 (by decide) ?_
            exact z_iret (pc := 45) hO hr hQ rfl dX2_isLower_45 ⟨Or.inl ⟨rfl, by first | (first | exact ⟨i, by omega, by omega, hA, by assumption⟩ | (rintro ⟨m, c, d, e, h⟩; rcases Int.lt_trichotomy m i with h1 | h1 | h1; (have := hA m c h1; omega); (subst h1; omega); (have := e i (by omega) h1; omega)) | (rintro ⟨m, c, d, e, h⟩; have := hA m c (by omega); omega); done) | (exfalso; omega)⟩, rfl⟩
  refine z_sub [1, 2, 3, 0] rfl ?_
  exact L2 _ 0 (Nat.lt_succ_self _) (by omega) (by intro l a b; omega)

set_option maxHeartbeats 4000000 in
theorem c_X2_leastOf (l : Launch) (g : Gl) (x : Me) (q : Nat)  (hF : FG x q) : ctQ l g yX2_leastOf cX2_leastOf 3 (some .int) 5 115 [.ref (gA g (10 + q))] x (QIu g (fun z x' => (z = lst (x (10 + q) 1) (nc x q) 7 ∧ 0 ≤ z ∧ z < 8) ∧ x' = x)) := by
  refine ct_start (own := RX2) (lv := [(0, .ref (gA g (10 + q)))]) (plainFor_of_name (by decide)) rfl (Nat.le_of_ble_eq_true rfl) rfl ?_
  intro Γ hΓ hO hr hQ _
  refine z_iconst (pc := 0) hO dX2_leastOf_0 ?_
  refine z_istore_n (pc := 1) hO (lv' := [(1, .int (zi 0)), (0, .ref (gA g (10 + q)))]) dX2_leastOf_1 rfl (by decide) rfl ?_
  refine z_iconst (pc := 2) hO dX2_leastOf_2 ?_
  refine z_istore_n (pc := 3) hO (lv' := [(2, .int (zi 1)), (1, .int (zi 0)), (0, .ref (gA g (10 + q)))]) dX2_leastOf_3 rfl (by decide) rfl ?_
  have L4 : ∀ (N : Nat) (i : Int) (s : Int), (8 - i).toNat < N → (1 ≤ i ∧ i ≤ 8) → (0 ≤ s ∧ s < 8) → (s = lst (x (10 + q) 1) (nc x q) (i - 1).toNat) → Zz Γ g 3 0 0 x 4 [(0, .ref (gA g (10 + q))), (1, .int (zi s)), (2, .int (zi i))] [] := by
    intro N
    induction N with
    | zero => intro i s hm; exact absurd hm (Nat.not_lt_zero _)
    | succ N ih4 =>
      intro i s hm h0 hs8 hA
      refine z_iload_n (pc := 4) hO 2 dX2_leastOf_4 rfl rfl ?_
      refine z_bipush (pc := 5) hO dX2_leastOf_5 (by decide) ?_
      refine z_icmp_ge (pc := 7) hO (tgt := 27) dX2_leastOf_7 (by decide) (by omega) (by omega) (fun b1 => ?_) (fun b1 => ?_)
      · refine z_iload_n (pc := 27) hO 1 dX2_leastOf_27 rfl rfl ?_
        exact z_iret (pc := 28) hO hr hQ rfl dX2_leastOf_28 ⟨by first | (exact ⟨by rw [hA]; congr 1; omega, by omega⟩; done) | (exfalso; omega), rfl⟩
      · refine z_aload_n (pc := 10) hO 0 dX2_leastOf_10 rfl rfl ?_
        refine z_iload_n (pc := 11) hO 2 dX2_leastOf_11 rfl rfl ?_
        refine z_iload_n (pc := 12) hO 1 dX2_leastOf_12 rfl rfl ?_
        refine z_callSB (pc := 13) hO (As := [.ref (gA g (10 + q)), .int (zi i), .int (zi s)]) (st := []) (c_X2_isLower (qL Γ) g x q i s (by first | assumption | omega) (by first | assumption | omega) (by first | assumption | omega)) k_X2_39 rfl (Nat.le_of_ble_eq_true rfl) (by decide) (by decide) ⟨by decide, by decide⟩ dX2_leastOf_13 (fun pb2 => ?_) (fun pb2 => ?_)
        · skip
          refine z_if_eq (pc := 16) hO (tgt := 21) dX2_leastOf_16 (by decide) (by decide) (fun h => absurd h (by decide)) (fun _ => ?_)
          refine z_iload_n (pc := 19) hO 2 dX2_leastOf_19 rfl rfl ?_
          refine z_istore_n (pc := 20) hO (lv' := [(1, .int (zi i)), (0, .ref (gA g (10 + q))), (2, .int (zi i))]) dX2_leastOf_20 rfl (by decide) rfl ?_
          refine z_iinc (pc := 21) hO 2 (lv' := [(2, .int (zi (i + 1))), (1, .int (zi i)), (0, .ref (gA g (10 + q)))]) dX2_leastOf_21 rfl (by decide) rfl ?_
          refine z_goto (pc := 24) hO (tgt := 4) dX2_leastOf_24 (by decide) ?_
          refine z_sub [2, 1, 0] rfl ?_
          exact ih4 (i + 1) i (by omega) (by omega) (by omega) (by rw [show i + 1 - 1 = i by omega, lst_s _ _ (by omega), ← hA]; first | (rw [ci_t (by assumption)]; done) | (rw [ci_f (by assumption)]; done))
        · skip
          refine z_if_eq (pc := 16) hO (tgt := 21) dX2_leastOf_16 (by decide) (by decide) (fun _ => ?_) (fun h => absurd h (by decide))
          refine z_iinc (pc := 21) hO 2 (lv' := [(2, .int (zi (i + 1))), (0, .ref (gA g (10 + q))), (1, .int (zi s))]) dX2_leastOf_21 rfl (by decide) rfl ?_
          refine z_goto (pc := 24) hO (tgt := 4) dX2_leastOf_24 (by decide) ?_
          refine z_sub [1, 2, 0] rfl ?_
          exact ih4 (i + 1) s (by omega) (by omega) (by omega) (by rw [show i + 1 - 1 = i by omega, lst_s _ _ (by omega), ← hA]; first | (rw [ci_t (by assumption)]; done) | (rw [ci_f (by assumption)]; done))
  refine z_sub [2, 1, 0] rfl ?_
  exact L4 _ 1 0 (Nat.lt_succ_self _) (by omega) (by omega) (by rfl)

