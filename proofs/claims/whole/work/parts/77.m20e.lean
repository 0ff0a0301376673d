set_option maxHeartbeats 4000000 in
theorem c_X12_areAlike (l : Launch) (g : Gl) (x : Me) (q : Int) (kind : Int)  (hG : MG x q) (hk : 0 ≤ kind ∧ kind ≤ 3) : ctQ l g yX12_areAlike cX12_areAlike 5 (some .boolean) 3 71 [.ref (gA g 50), .int (zi q), .int (zi kind)] x (QIu g (fun z x' => ((z = 1 ∧ (lna (x 51 q) (nd x q) kind (lsum (x 51 q) (nd x q) 0 0))) ∨ (z = 0 ∧ ¬ (lna (x 51 q) (nd x q) kind (lsum (x 51 q) (nd x q) 0 0)))) ∧ x' = x)) := by
  refine ct_start (own := RX12) (lv := [(0, .ref (gA g 50)), (1, .int (zi q)), (2, .int (zi kind))]) (plainFor_of_name (by decide)) rfl (Nat.le_of_ble_eq_true rfl) rfl ?_
  intro Γ hΓ hO hr hQ _
  obtain ⟨hq, hs, hf⟩ := id hG
  have hsq := sq9 hs
  have hN := nd_rng hG
  have hA0 := lsum_rng hs hN 0 0
  refine z_iconst (pc := 0) hO dX12_areAlike_0 ?_
  refine z_istore_n (pc := 1) hO (lv' := [(3, .int (zi 1)), (0, .ref (gA g 50)), (1, .int (zi q)), (2, .int (zi kind))]) dX12_areAlike_1 rfl (by decide) rfl ?_
  refine z_iconst (pc := 2) hO dX12_areAlike_2 ?_
  refine z_istore (pc := 3) hO (lv' := [(4, .int (zi 0)), (3, .int (zi 1)), (0, .ref (gA g 50)), (1, .int (zi q)), (2, .int (zi kind))]) dX12_areAlike_3 (by decide) rfl ?_
  have L5 : ∀ (N : Nat) (b : Int) (i : Int), (x 51 q - i).toNat < N → (0 ≤ i ∧ i ≤ x 51 q) → ((b = 1 ∧ ∀ l, 0 ≤ l → l < i → lsum (x 51 q) (nd x q) kind l = (lsum (x 51 q) (nd x q) 0 0)) ∨ (b = 0 ∧ ¬ lna (x 51 q) (nd x q) kind (lsum (x 51 q) (nd x q) 0 0))) → Zz Γ g 5 0 0 x 5 [(0, .ref (gA g 50)), (1, .int (zi q)), (2, .int (zi kind)), (3, .int (zi b)), (4, .int (zi i))] [] := by
    intro N
    induction N with
    | zero => intro b i hm; exact absurd hm (Nat.not_lt_zero _)
    | succ N ih5 =>
      intro b i hm h0 hA
      have hA1 := lsum_rng hs hN kind i
      have hbb : b = 0 ∨ b = 1 := by rcases hA with ⟨e, _⟩ | ⟨e, _⟩ <;> omega
      refine z_iload (pc := 5) hO 4 dX12_areAlike_5 rfl ?_
      refine z_aload_n (pc := 7) hO 0 dX12_areAlike_7 rfl rfl ?_
      refine gf_X12_sideOf (pc := 8) hO f_X12_7 dX12_areAlike_8 ?_
      refine z_iload_n (pc := 11) hO 1 dX12_areAlike_11 rfl rfl ?_
      refine z_iald (pc := 12) hO isI_51 (by omega) dX12_areAlike_12 ?_
      refine z_icmp_ge (pc := 13) hO (tgt := 50) dX12_areAlike_13 (by decide) (by omega) (by omega) (fun b1 => ?_) (fun b1 => ?_)
      · refine z_iload_n (pc := 50) hO 3 dX12_areAlike_50 rfl rfl ?_
        exact z_iret (pc := 51) hO hr hQ (zi_bool (by omega)).1 dX12_areAlike_51 (by first | (refine ⟨?_, rfl⟩; rcases hA with ⟨e, h⟩ | ⟨e, h⟩; exact Or.inl ⟨e, fun l a c => h l a (by omega)⟩; exact Or.inr ⟨e, h⟩; done) | (exfalso; omega))
      · refine z_iload_n (pc := 16) hO 3 dX12_areAlike_16 rfl rfl ?_
        refine z_if_eq (pc := 17) hO (tgt := 42) dX12_areAlike_17 (by decide) (by omega) (fun b2 => ?_) (fun b2 => ?_)
        · refine z_iconst (pc := 42) hO dX12_areAlike_42 ?_
          refine z_istore_n (pc := 43) hO (lv' := [(3, .int (zi 0)), (0, .ref (gA g 50)), (1, .int (zi q)), (2, .int (zi kind)), (4, .int (zi i))]) dX12_areAlike_43 rfl (by decide) rfl ?_
          refine z_iinc (pc := 44) hO 4 (lv' := [(4, .int (zi (i + 1))), (3, .int (zi 0)), (0, .ref (gA g 50)), (1, .int (zi q)), (2, .int (zi kind))]) dX12_areAlike_44 rfl (by decide) rfl ?_
          refine z_goto (pc := 47) hO (tgt := 5) dX12_areAlike_47 (by decide) ?_
          refine z_sub [2, 3, 4, 1, 0] rfl ?_
          exact ih5 0 (i + 1) (by omega) (by omega) (by first | exact Or.inl ⟨rfl, fun l a c => dite (l = i) (fun e => by rw [e]; first | assumption | omega) (fun e => by rcases hA with ⟨_, h⟩ | ⟨h, _⟩; exact h l a (by omega); omega)⟩ | exact Or.inr ⟨rfl, fun h => by rcases hA with ⟨_, _⟩ | ⟨_, h2⟩; (first | (have := h i (by omega) (by omega); first | contradiction | omega) | omega); exact h2 h⟩)
        · refine z_aload_n (pc := 20) hO 0 dX12_areAlike_20 rfl rfl ?_
          refine z_iload_n (pc := 21) hO 1 dX12_areAlike_21 rfl rfl ?_
          refine z_iload_n (pc := 22) hO 2 dX12_areAlike_22 rfl rfl ?_
          refine z_iload (pc := 23) hO 4 dX12_areAlike_23 rfl ?_
          refine z_callVIp (pc := 25) hO (As := [.int (zi q), .int (zi kind), .int (zi i)]) (st := []) (c_X12_sumOf (qL Γ) g x q kind i (by first | assumption | omega) (by first | assumption | omega) (by first | assumption | omega)) k_X12_97 isO_50 rfl (Nat.le_of_ble_eq_true rfl) (by decide) (by decide) ⟨by decide, by decide⟩ dX12_areAlike_25 ?_
          refine z_aload_n (pc := 28) hO 0 dX12_areAlike_28 rfl rfl ?_
          refine z_iload_n (pc := 29) hO 1 dX12_areAlike_29 rfl rfl ?_
          refine z_iconst (pc := 30) hO dX12_areAlike_30 ?_
          refine z_iconst (pc := 31) hO dX12_areAlike_31 ?_
          refine z_callVIp (pc := 32) hO (As := [.int (zi q), .int (zi 0), .int (zi 0)]) (st := [.int (zi (lsum (x 51 q) (nd x q) kind i))]) (c_X12_sumOf (qL Γ) g x q 0 0 (by first | assumption | omega) (by first | assumption | omega) (by first | assumption | omega)) k_X12_97 isO_50 rfl (Nat.le_of_ble_eq_true rfl) (by decide) (by decide) ⟨by decide, by decide⟩ dX12_areAlike_32 ?_
          refine z_icmp_ne (pc := 35) hO (tgt := 42) dX12_areAlike_35 (by decide) (by omega) (by omega) (fun b3 => ?_) (fun b3 => ?_)
          · refine z_iconst (pc := 42) hO dX12_areAlike_42 ?_
            refine z_istore_n (pc := 43) hO (lv' := [(3, .int (zi 0)), (0, .ref (gA g 50)), (1, .int (zi q)), (2, .int (zi kind)), (4, .int (zi i))]) dX12_areAlike_43 rfl (by decide) rfl ?_
            refine z_iinc (pc := 44) hO 4 (lv' := [(4, .int (zi (i + 1))), (3, .int (zi 0)), (0, .ref (gA g 50)), (1, .int (zi q)), (2, .int (zi kind))]) dX12_areAlike_44 rfl (by decide) rfl ?_
            refine z_goto (pc := 47) hO (tgt := 5) dX12_areAlike_47 (by decide) ?_
            refine z_sub [2, 3, 4, 1, 0] rfl ?_
            exact ih5 0 (i + 1) (by omega) (by omega) (by first | exact Or.inl ⟨rfl, fun l a c => dite (l = i) (fun e => by rw [e]; first | assumption | omega) (fun e => by rcases hA with ⟨_, h⟩ | ⟨h, _⟩; exact h l a (by omega); omega)⟩ | exact Or.inr ⟨rfl, fun h => by rcases hA with ⟨_, _⟩ | ⟨_, h2⟩; (first | (have := h i (by omega) (by omega); first | contradiction | omega) | omega); exact h2 h⟩)
          · refine z_iconst (pc := 38) hO dX12_areAlike_38 ?_
            refine z_goto (pc := 39) hO (tgt := 43) dX12_areAlike_39 (by decide) ?_
            refine z_istore_n (pc := 43) hO (lv' := [(3, .int (zi 1)), (0, .ref (gA g 50)), (1, .int (zi q)), (2, .int (zi kind)), (4, .int (zi i))]) dX12_areAlike_43 rfl (by decide) rfl ?_
            refine z_iinc (pc := 44) hO 4 (lv' := [(4, .int (zi (i + 1))), (3, .int (zi 1)), (0, .ref (gA g 50)), (1, .int (zi q)), (2, .int (zi kind))]) dX12_areAlike_44 rfl (by decide) rfl ?_
            refine z_goto (pc := 47) hO (tgt := 5) dX12_areAlike_47 (by decide) ?_
            refine z_sub [2, 3, 4, 1, 0] rfl ?_
            exact ih5 1 (i + 1) (by omega) (by omega) (by first | exact Or.inl ⟨rfl, fun l a c => dite (l = i) (fun e => by rw [e]; first | assumption | omega) (fun e => by rcases hA with ⟨_, h⟩ | ⟨h, _⟩; exact h l a (by omega); omega)⟩ | exact Or.inr ⟨rfl, fun h => by rcases hA with ⟨_, _⟩ | ⟨_, h2⟩; (first | (have := h i (by omega) (by omega); first | contradiction | omega) | omega); exact h2 h⟩)
  refine z_sub [2, 3, 4, 1, 0] rfl ?_
  exact L5 _ 1 0 (Nat.lt_succ_self _) (by omega) (by exact Or.inl ⟨rfl, fun l a c => by omega⟩)

set_option maxHeartbeats 4000000 in
theorem c_X12_areDiagonals (l : Launch) (g : Gl) (x : Me) (q : Int)  (hG : MG x q) : ctQ l g yX12_areDiagonals cX12_areDiagonals 3 (some .boolean) 3 71 [.ref (gA g 50), .int (zi q)] x (QIu g (fun z x' => ((z = 1 ∧ (dia (x 51 q) (nd x q) (lsum (x 51 q) (nd x q) 0 0))) ∨ (z = 0 ∧ ¬ (dia (x 51 q) (nd x q) (lsum (x 51 q) (nd x q) 0 0)))) ∧ x' = x)) := by
  refine ct_start (own := RX12) (lv := [(0, .ref (gA g 50)), (1, .int (zi q))]) (plainFor_of_name (by decide)) rfl (Nat.le_of_ble_eq_true rfl) rfl ?_
  intro Γ hΓ hO hr hQ _
  obtain ⟨hq, hs, hf⟩ := id hG
  have hsq := sq9 hs
  have hN := nd_rng hG
  have hA0 := lsum_rng hs hN 0 0
  have hA2 := lsum_rng hs hN 2 0
  have hA3 := lsum_rng hs hN 3 (x 51 q - 1)
  refine z_aload_n (pc := 0) hO 0 dX12_areDiagonals_0 rfl rfl ?_
  refine z_iload_n (pc := 1) hO 1 dX12_areDiagonals_1 rfl rfl ?_
  refine z_iconst (pc := 2) hO dX12_areDiagonals_2 ?_
  refine z_iconst (pc := 3) hO dX12_areDiagonals_3 ?_
  refine z_callVIp (pc := 4) hO (As := [.int (zi q), .int (zi 0), .int (zi 0)]) (st := []) (c_X12_sumOf (qL Γ) g x q 0 0 (by first | assumption | omega) (by first | assumption | omega) (by first | assumption | omega)) k_X12_97 isO_50 rfl (Nat.le_of_ble_eq_true rfl) (by decide) (by decide) ⟨by decide, by decide⟩ dX12_areDiagonals_4 ?_
  refine z_istore_n (pc := 7) hO (lv' := [(2, .int (zi (lsum (x 51 q) (nd x q) 0 0))), (0, .ref (gA g 50)), (1, .int (zi q))]) dX12_areDiagonals_7 rfl (by decide) rfl ?_
  refine z_aload_n (pc := 8) hO 1 dX12_areDiagonals_8 rfl rfl ?_
  refine z_iload_n (pc := 9) hO 2 dX12_areDiagonals_9 rfl rfl ?_
  refine z_iconst (pc := 10) hO dX12_areDiagonals_10 ?_
  refine z_iconst (pc := 11) hO dX12_areDiagonals_11 ?_
  refine z_callVIp (pc := 12) hO (As := [.int (zi q), .int (zi 2), .int (zi 0)]) (st := []) (c_X12_sumOf (qL Γ) g x q 2 0 (by first | assumption | omega) (by first | assumption | omega) (by first | assumption | omega)) k_X12_97 isO_50 rfl (Nat.le_of_ble_eq_true rfl) (by decide) (by decide) ⟨by decide, by decide⟩ dX12_areDiagonals_12 ?_
  refine z_iload_n (pc := 15) hO 0 dX12_areDiagonals_15 rfl rfl ?_
  refine z_icmp_ne (pc := 16) hO (tgt := 41) dX12_areDiagonals_16 (by decide) (by omega) (by omega) (fun b1 => ?_) (fun b1 => ?_)
  · refine z_iconst (pc := 41) hO dX12_areDiagonals_41 ?_
    exact z_iret (pc := 42) hO hr hQ rfl dX12_areDiagonals_42 ⟨Or.inr ⟨rfl, by first | (first | exact ⟨by assumption, by assumption⟩ | (intro h; have h1 := h.1; have h2 := h.2; first | contradiction | omega); done) | (exfalso; omega)⟩, rfl⟩
  · refine z_aload_n (pc := 19) hO 1 dX12_areDiagonals_19 rfl rfl ?_
    refine z_iload_n (pc := 20) hO 2 dX12_areDiagonals_20 rfl rfl ?_
    refine z_iconst (pc := 21) hO dX12_areDiagonals_21 ?_
    refine z_aload_n (pc := 22) hO 1 dX12_areDiagonals_22 rfl rfl ?_
    refine gf_X12_sideOf (pc := 23) hO f_X12_7 dX12_areDiagonals_23 ?_
    refine z_iload_n (pc := 26) hO 2 dX12_areDiagonals_26 rfl rfl ?_
    refine z_iald (pc := 27) hO isI_51 (by omega) dX12_areDiagonals_27 ?_
    refine z_iconst (pc := 28) hO dX12_areDiagonals_28 ?_
    refine z_isub (pc := 29) hO dX12_areDiagonals_29 ?_
    refine z_callVIp (pc := 30) hO (As := [.int (zi q), .int (zi 3), .int (zi ((x 51 q) - 1))]) (st := []) (c_X12_sumOf (qL Γ) g x q 3 ((x 51 q) - 1) (by first | assumption | omega) (by first | assumption | omega) (by first | assumption | omega)) k_X12_97 isO_50 rfl (Nat.le_of_ble_eq_true rfl) (by decide) (by decide) ⟨by decide, by decide⟩ dX12_areDiagonals_30 ?_
    refine z_iload_n (pc := 33) hO 0 dX12_areDiagonals_33 rfl rfl ?_
    refine z_icmp_ne (pc := 34) hO (tgt := 41) dX12_areDiagonals_34 (by decide) (by omega) (by omega) (fun b2 => ?_) (fun b2 => ?_)
    · refine z_iconst (pc := 41) hO dX12_areDiagonals_41 ?_
      exact z_iret (pc := 42) hO hr hQ rfl dX12_areDiagonals_42 ⟨Or.inr ⟨rfl, by first | (first | exact ⟨by assumption, by assumption⟩ | (intro h; have h1 := h.1; have h2 := h.2; first | contradiction | omega); done) | (exfalso; omega)⟩, rfl⟩
    · refine z_iconst (pc := 37) hO dX12_areDiagonals_37 ?_
      refine z_goto (pc := 38) hO (tgt := 42) dX12_areDiagonals_38 (by decide) ?_
      exact z_iret (pc := 42) hO hr hQ rfl dX12_areDiagonals_42 ⟨Or.inl ⟨rfl, by first | (first | exact ⟨by assumption, by assumption⟩ | (intro h; have h1 := h.1; have h2 := h.2; first | contradiction | omega); done) | (exfalso; omega)⟩, rfl⟩

set_option maxHeartbeats 4000000 in
theorem c_X12_areOpposite (l : Launch) (g : Gl) (x : Me) (q : Int)  (hG : MG x q) : ctQ l g yX12_areOpposite cX12_areOpposite 5 (some .boolean) 2 41 [.ref (gA g 50), .int (zi q)] x (QIu g (fun z x' => ((z = 1 ∧ (opo (x 51 q) (nd x q))) ∨ (z = 0 ∧ ¬ (opo (x 51 q) (nd x q)))) ∧ x' = x)) := by
  refine ct_start (own := RX12) (lv := [(0, .ref (gA g 50)), (1, .int (zi q))]) (plainFor_of_name (by decide)) rfl (Nat.le_of_ble_eq_true rfl) rfl ?_
  intro Γ hΓ hO hr hQ _
  obtain ⟨hq, hs, hf⟩ := id hG
  have hsq := sq9 hs
  have hN := nd_rng hG
  refine z_aload_n (pc := 0) hO 0 dX12_areOpposite_0 rfl rfl ?_
  refine z_iload_n (pc := 1) hO 1 dX12_areOpposite_1 rfl rfl ?_
  refine z_callVIp (pc := 2) hO (As := [.int (zi q)]) (st := []) (c_X12_areaOf (qL Γ) g x q (by first | assumption | omega)) k_X12_100 isO_50 rfl (Nat.le_of_ble_eq_true rfl) (by decide) (by decide) ⟨by decide, by decide⟩ dX12_areOpposite_2 ?_
  refine z_iconst (pc := 5) hO dX12_areOpposite_5 ?_
  refine z_isub (pc := 6) hO dX12_areOpposite_6 ?_
  refine z_istore_n (pc := 7) hO (lv' := [(2, .int (zi ((x 51 q * x 51 q) - 1))), (0, .ref (gA g 50)), (1, .int (zi q))]) dX12_areOpposite_7 rfl (by decide) rfl ?_
  refine z_iconst (pc := 8) hO dX12_areOpposite_8 ?_
  refine z_istore_n (pc := 9) hO (lv' := [(3, .int (zi 1)), (2, .int (zi ((x 51 q * x 51 q) - 1))), (0, .ref (gA g 50)), (1, .int (zi q))]) dX12_areOpposite_9 rfl (by decide) rfl ?_
  refine z_iconst (pc := 10) hO dX12_areOpposite_10 ?_
  refine z_istore (pc := 11) hO (lv' := [(4, .int (zi 0)), (3, .int (zi 1)), (2, .int (zi ((x 51 q * x 51 q) - 1))), (0, .ref (gA g 50)), (1, .int (zi q))]) dX12_areOpposite_11 (by decide) rfl ?_
  have L13 : ∀ (N : Nat) (b : Int) (i : Int), (x 51 q * x 51 q - i).toNat < N → (0 ≤ i ∧ i ≤ x 51 q * x 51 q) → ((b = 1 ∧ ∀ l, 0 ≤ l → l < i → nd x q l + nd x q (x 51 q * x 51 q - 1 - l) = nd x q 0 + nd x q (x 51 q * x 51 q - 1)) ∨ (b = 0 ∧ ¬ opo (x 51 q) (nd x q))) → Zz Γ g 5 0 0 x 13 [(0, .ref (gA g 50)), (1, .int (zi q)), (2, .int (zi ((x 51 q * x 51 q) - 1))), (3, .int (zi b)), (4, .int (zi i))] [] := by
    intro N
    induction N with
    | zero => intro b i hm; exact absurd hm (Nat.not_lt_zero _)
    | succ N ih13 =>
      intro b i hm h0 hA
      have hbb : b = 0 ∨ b = 1 := by rcases hA with ⟨e, _⟩ | ⟨e, _⟩ <;> omega
      refine z_iload (pc := 13) hO 4 dX12_areOpposite_13 rfl ?_
      refine z_iload_n (pc := 15) hO 2 dX12_areOpposite_15 rfl rfl ?_
      refine z_icmp_gt (pc := 16) hO (tgt := 86) dX12_areOpposite_16 (by decide) (by omega) (by omega) (fun b1 => ?_) (fun b1 => ?_)
      · refine z_iload_n (pc := 86) hO 3 dX12_areOpposite_86 rfl rfl ?_
        exact z_iret (pc := 87) hO hr hQ (zi_bool (by omega)).1 dX12_areOpposite_87 (by first | (refine ⟨?_, rfl⟩; rcases hA with ⟨e, h⟩ | ⟨e, h⟩; exact Or.inl ⟨e, fun l a c => h l a (by omega)⟩; exact Or.inr ⟨e, h⟩; done) | (exfalso; omega))
      · refine z_iload_n (pc := 19) hO 3 dX12_areOpposite_19 rfl rfl ?_
        refine z_if_eq (pc := 20) hO (tgt := 78) dX12_areOpposite_20 (by decide) (by omega) (fun b2 => ?_) (fun b2 => ?_)
        · refine z_iconst (pc := 78) hO dX12_areOpposite_78 ?_
          refine z_istore_n (pc := 79) hO (lv' := [(3, .int (zi 0)), (0, .ref (gA g 50)), (1, .int (zi q)), (2, .int (zi ((x 51 q * x 51 q) - 1))), (4, .int (zi i))]) dX12_areOpposite_79 rfl (by decide) rfl ?_
          refine z_iinc (pc := 80) hO 4 (lv' := [(4, .int (zi (i + 1))), (3, .int (zi 0)), (0, .ref (gA g 50)), (1, .int (zi q)), (2, .int (zi ((x 51 q * x 51 q) - 1)))]) dX12_areOpposite_80 rfl (by decide) rfl ?_
          refine z_goto (pc := 83) hO (tgt := 13) dX12_areOpposite_83 (by decide) ?_
          refine z_sub [2, 3, 4, 1, 0] rfl ?_
          exact ih13 0 (i + 1) (by omega) (by omega) (by first | exact Or.inl ⟨rfl, fun l a c => dite (l = i) (fun e => by rw [e]; first | assumption | omega) (fun e => by rcases hA with ⟨_, h⟩ | ⟨h, _⟩; exact h l a (by omega); omega)⟩ | exact Or.inr ⟨rfl, fun h => by rcases hA with ⟨_, _⟩ | ⟨_, h2⟩; (first | (have := h i (by omega) (by omega); first | contradiction | omega) | omega); exact h2 h⟩)
        · have g1 : nd x q i = x 52 (81 * q + i) := nd_in (by omega)
          have g2 : nd x q (x 51 q * x 51 q - 1 - i) = x 52 (81 * q + (x 51 q * x 51 q - 1) - i) := by rw [nd_in (by omega)]; congr 1; omega
          have g3 : nd x q 0 = x 52 (81 * q) := by rw [nd_in (by omega)]; congr 1; omega
          have g4 : nd x q (x 51 q * x 51 q - 1) = x 52 (81 * q + (x 51 q * x 51 q - 1)) := nd_in (by omega)
          have n1 := hN i
          have n2 := hN (x 51 q * x 51 q - 1 - i)
          have n3 := hN 0
          have n4 := hN (x 51 q * x 51 q - 1)
          refine z_aload_n (pc := 23) hO 0 dX12_areOpposite_23 rfl rfl ?_
          refine gf_X12_numbers (pc := 24) hO f_X12_13 dX12_areOpposite_24 ?_
          refine z_bipush (pc := 27) hO dX12_areOpposite_27 (by decide) ?_
          refine z_iload_n (pc := 29) hO 1 dX12_areOpposite_29 rfl rfl ?_
          refine z_imul (pc := 30) hO dX12_areOpposite_30 ?_
          refine z_iload (pc := 31) hO 4 dX12_areOpposite_31 rfl ?_
          refine z_iadd (pc := 33) hO dX12_areOpposite_33 ?_
          refine z_iald (pc := 34) hO isI_52 (by omega) dX12_areOpposite_34 ?_
          refine z_aload_n (pc := 35) hO 0 dX12_areOpposite_35 rfl rfl ?_
          refine gf_X12_numbers (pc := 36) hO f_X12_13 dX12_areOpposite_36 ?_
          refine z_bipush (pc := 39) hO dX12_areOpposite_39 (by decide) ?_
          refine z_iload_n (pc := 41) hO 1 dX12_areOpposite_41 rfl rfl ?_
          refine z_imul (pc := 42) hO dX12_areOpposite_42 ?_
          refine z_iload_n (pc := 43) hO 2 dX12_areOpposite_43 rfl rfl ?_
          refine z_iadd (pc := 44) hO dX12_areOpposite_44 ?_
          refine z_iload (pc := 45) hO 4 dX12_areOpposite_45 rfl ?_
          refine z_isub (pc := 47) hO dX12_areOpposite_47 ?_
          refine z_iald (pc := 48) hO isI_52 (by omega) dX12_areOpposite_48 ?_
          refine z_iadd (pc := 49) hO dX12_areOpposite_49 ?_
          refine z_aload_n (pc := 50) hO 0 dX12_areOpposite_50 rfl rfl ?_
          refine gf_X12_numbers (pc := 51) hO f_X12_13 dX12_areOpposite_51 ?_
          refine z_bipush (pc := 54) hO dX12_areOpposite_54 (by decide) ?_
          refine z_iload_n (pc := 56) hO 1 dX12_areOpposite_56 rfl rfl ?_
          refine z_imul (pc := 57) hO dX12_areOpposite_57 ?_
          refine z_iald (pc := 58) hO isI_52 (by omega) dX12_areOpposite_58 ?_
          refine z_aload_n (pc := 59) hO 0 dX12_areOpposite_59 rfl rfl ?_
          refine gf_X12_numbers (pc := 60) hO f_X12_13 dX12_areOpposite_60 ?_
          refine z_bipush (pc := 63) hO dX12_areOpposite_63 (by decide) ?_
          refine z_iload_n (pc := 65) hO 1 dX12_areOpposite_65 rfl rfl ?_
          refine z_imul (pc := 66) hO dX12_areOpposite_66 ?_
          refine z_iload_n (pc := 67) hO 2 dX12_areOpposite_67 rfl rfl ?_
          refine z_iadd (pc := 68) hO dX12_areOpposite_68 ?_
          refine z_iald (pc := 69) hO isI_52 (by omega) dX12_areOpposite_69 ?_
          refine z_iadd (pc := 70) hO dX12_areOpposite_70 ?_
          refine z_icmp_ne (pc := 71) hO (tgt := 78) dX12_areOpposite_71 (by decide) (by omega) (by omega) (fun b3 => ?_) (fun b3 => ?_)
          · refine z_iconst (pc := 78) hO dX12_areOpposite_78 ?_
            refine z_istore_n (pc := 79) hO (lv' := [(3, .int (zi 0)), (0, .ref (gA g 50)), (1, .int (zi q)), (2, .int (zi ((x 51 q * x 51 q) - 1))), (4, .int (zi i))]) dX12_areOpposite_79 rfl (by decide) rfl ?_
            refine z_iinc (pc := 80) hO 4 (lv' := [(4, .int (zi (i + 1))), (3, .int (zi 0)), (0, .ref (gA g 50)), (1, .int (zi q)), (2, .int (zi ((x 51 q * x 51 q) - 1)))]) dX12_areOpposite_80 rfl (by decide) rfl ?_
            refine z_goto (pc := 83) hO (tgt := 13) dX12_areOpposite_83 (by decide) ?_
            refine z_sub [2, 3, 4, 1, 0] rfl ?_
            exact ih13 0 (i + 1) (by omega) (by omega) (by first | exact Or.inl ⟨rfl, fun l a c => dite (l = i) (fun e => by rw [e]; first | assumption | omega) (fun e => by rcases hA with ⟨_, h⟩ | ⟨h, _⟩; exact h l a (by omega); omega)⟩ | exact Or.inr ⟨rfl, fun h => by rcases hA with ⟨_, _⟩ | ⟨_, h2⟩; (first | (have := h i (by omega) (by omega); first | contradiction | omega) | omega); exact h2 h⟩)
          · refine z_iconst (pc := 74) hO dX12_areOpposite_74 ?_
            refine z_goto (pc := 75) hO (tgt := 79) dX12_areOpposite_75 (by decide) ?_
            refine z_istore_n (pc := 79) hO (lv' := [(3, .int (zi 1)), (0, .ref (gA g 50)), (1, .int (zi q)), (2, .int (zi ((x 51 q * x 51 q) - 1))), (4, .int (zi i))]) dX12_areOpposite_79 rfl (by decide) rfl ?_
            refine z_iinc (pc := 80) hO 4 (lv' := [(4, .int (zi (i + 1))), (3, .int (zi 1)), (0, .ref (gA g 50)), (1, .int (zi q)), (2, .int (zi ((x 51 q * x 51 q) - 1)))]) dX12_areOpposite_80 rfl (by decide) rfl ?_
            refine z_goto (pc := 83) hO (tgt := 13) dX12_areOpposite_83 (by decide) ?_
            refine z_sub [2, 3, 4, 1, 0] rfl ?_
            exact ih13 1 (i + 1) (by omega) (by omega) (by first | exact Or.inl ⟨rfl, fun l a c => dite (l = i) (fun e => by rw [e]; first | assumption | omega) (fun e => by rcases hA with ⟨_, h⟩ | ⟨h, _⟩; exact h l a (by omega); omega)⟩ | exact Or.inr ⟨rfl, fun h => by rcases hA with ⟨_, _⟩ | ⟨_, h2⟩; (first | (have := h i (by omega) (by omega); first | contradiction | omega) | omega); exact h2 h⟩)
  refine z_sub [3, 4, 2, 1, 0] rfl ?_
  exact L13 _ 1 0 (Nat.lt_succ_self _) (by omega) (by exact Or.inl ⟨rfl, fun l a c => by omega⟩)

