set_option maxHeartbeats 600000 in
theorem c_X12_isWithin (l : Launch) (g : Gl) (x : Me) (q : Int) (m : Int)  (hG : MG x q) (r_m : -2147483648 ≤ m ∧ m < 2147483648) : ctQ l g yX12_isWithin cX12_isWithin 5 (some .boolean) 2 42 [.ref (gA g 50), .int (zi q), .int (zi m)] x (QIu g (fun z x' => ((z = 1 ∧ (WI (x 51 q) (nd x q) m)) ∨ (z = 0 ∧ ¬ (WI (x 51 q) (nd x q) m))) ∧ x' = x)) := by
  refine ct_start (own := RX12) (lv := [(0, .ref (gA g 50)), (1, .int (zi q)), (2, .int (zi m))]) (plainFor_of_name (by decide)) rfl (Nat.le_of_ble_eq_true rfl) rfl ?_
  intro Γ hΓ hO hr hQ _
  obtain ⟨hq, hs, hf⟩ := id hG
  have hsq := sq9 hs
  have hN := nd_rng hG
  refine z_iconst (pc := 0) hO dX12_isWithin_0 ?_
  refine z_istore_n (pc := 1) hO (lv' := [(3, .int (zi 1)), (0, .ref (gA g 50)), (1, .int (zi q)), (2, .int (zi m))]) dX12_isWithin_1 rfl (by decide) rfl ?_
  refine z_iconst (pc := 2) hO dX12_isWithin_2 ?_
  refine z_istore (pc := 3) hO (lv' := [(4, .int (zi 0)), (3, .int (zi 1)), (0, .ref (gA g 50)), (1, .int (zi q)), (2, .int (zi m))]) dX12_isWithin_3 (by decide) rfl ?_
  have L5 : ∀ (N : Nat) (b : Int) (i : Int), ((x 51 q * x 51 q) - i).toNat < N → (0 ≤ i ∧ i ≤ (x 51 q * x 51 q)) → ((b = 1 ∧ ∀ l, 0 ≤ l → l < i → 1 ≤ nd x q l ∧ nd x q l ≤ m) ∨ (b = 0 ∧ ¬ WI (x 51 q) (nd x q) m)) → Zz Γ g 5 0 0 x 5 [(0, .ref (gA g 50)), (1, .int (zi q)), (2, .int (zi m)), (3, .int (zi b)), (4, .int (zi i))] [] := by
    intro N
    induction N with
    | zero => intro b i hm; exact absurd hm (Nat.not_lt_zero _)
    | succ N ih5 =>
      intro b i hm h0 hA
      have hbb : b = 0 ∨ b = 1 := by rcases hA with ⟨e, _⟩ | ⟨e, _⟩ <;> omega
      refine z_iload (pc := 5) hO 4 dX12_isWithin_5 rfl ?_
      refine z_aload_n (pc := 7) hO 0 dX12_isWithin_7 rfl rfl ?_
      refine z_iload_n (pc := 8) hO 1 dX12_isWithin_8 rfl rfl ?_
      refine z_callVIp (pc := 9) hO (As := [.int (zi q)]) (st := [.int (zi i)]) (c_X12_areaOf (qL Γ) g x q (by first | assumption | omega)) k_X12_100 isO_50 rfl (Nat.le_of_ble_eq_true rfl) (by decide) (by decide) ⟨by decide, by decide⟩ dX12_isWithin_9 ?_
      refine z_icmp_ge (pc := 12) hO (tgt := 51) dX12_isWithin_12 (by decide) (by omega) (by omega) (fun b1 => ?_) (fun b1 => ?_)
      · refine z_iload_n (pc := 51) hO 3 dX12_isWithin_51 rfl rfl ?_
        exact z_iret (pc := 52) hO hr hQ (zi_bool (by omega)).1 dX12_isWithin_52 (by first | (refine ⟨?_, rfl⟩; rcases hA with ⟨e, h⟩ | ⟨e, h⟩; exact Or.inl ⟨e, fun l a c => h l a (by omega)⟩; exact Or.inr ⟨e, h⟩; done) | (exfalso; omega))
      · refine z_iload_n (pc := 15) hO 3 dX12_isWithin_15 rfl rfl ?_
        refine z_if_eq (pc := 16) hO (tgt := 43) dX12_isWithin_16 (by decide) (by omega) (fun b2 => ?_) (fun b2 => ?_)
        · refine z_iconst (pc := 43) hO dX12_isWithin_43 ?_
          refine z_istore_n (pc := 44) hO (lv' := [(3, .int (zi 0)), (0, .ref (gA g 50)), (1, .int (zi q)), (2, .int (zi m)), (4, .int (zi i))]) dX12_isWithin_44 rfl (by decide) rfl ?_
          refine z_iinc (pc := 45) hO 4 (lv' := [(4, .int (zi (i + 1))), (3, .int (zi 0)), (0, .ref (gA g 50)), (1, .int (zi q)), (2, .int (zi m))]) dX12_isWithin_45 rfl (by decide) rfl ?_
          refine z_goto (pc := 48) hO (tgt := 5) dX12_isWithin_48 (by decide) ?_
          refine z_sub [2, 3, 4, 1, 0] rfl ?_
          exact ih5 0 (i + 1) (by omega) (by omega) (by first | exact Or.inl ⟨rfl, fun l a c => dite (l = i) (fun e => by rw [e]; first | assumption | omega) (fun e => by rcases hA with ⟨_, h⟩ | ⟨h, _⟩; exact h l a (by omega); omega)⟩ | exact Or.inr ⟨rfl, fun h => by rcases hA with ⟨_, _⟩ | ⟨_, h2⟩; (first | (have := h i (by omega) (by omega); first | contradiction | omega) | omega); exact h2 h⟩)
        · have g1 : nd x q i = x 52 (81 * q + i) := nd_in (by omega)
          have n1 := hN i
          refine z_aload_n (pc := 19) hO 0 dX12_isWithin_19 rfl rfl ?_
          refine gf_X12_numbers (pc := 20) hO f_X12_13 dX12_isWithin_20 ?_
          refine z_bipush (pc := 23) hO dX12_isWithin_23 (by decide) ?_
          refine z_iload_n (pc := 25) hO 1 dX12_isWithin_25 rfl rfl ?_
          refine z_imul (pc := 26) hO dX12_isWithin_26 ?_
          refine z_iload (pc := 27) hO 4 dX12_isWithin_27 rfl ?_
          refine z_iadd (pc := 29) hO dX12_isWithin_29 ?_
          refine z_iald (pc := 30) hO isI_52 (by omega) dX12_isWithin_30 ?_
          refine z_iconst (pc := 31) hO dX12_isWithin_31 ?_
          refine z_iload_n (pc := 32) hO 2 dX12_isWithin_32 rfl rfl ?_
          refine z_callSB (pc := 33) hO (As := [.int (zi (x 52 ((81 * q) + i))), .int (zi 1), .int (zi m)]) (st := []) (c_X12_in (qL Γ) g x (x 52 ((81 * q) + i)) 1 m (by first | assumption | omega) (by first | assumption | omega) (by first | assumption | omega)) k_X12_55 rfl (Nat.le_of_ble_eq_true rfl) (by decide) (by decide) ⟨by decide, by decide⟩ dX12_isWithin_33 (fun pb3 => ?_) (fun pb3 => ?_)
          · skip
            refine z_if_eq (pc := 36) hO (tgt := 43) dX12_isWithin_36 (by decide) (by decide) (fun h => absurd h (by decide)) (fun _ => ?_)
            refine z_iconst (pc := 39) hO dX12_isWithin_39 ?_
            refine z_goto (pc := 40) hO (tgt := 44) dX12_isWithin_40 (by decide) ?_
            refine z_istore_n (pc := 44) hO (lv' := [(3, .int (zi 1)), (0, .ref (gA g 50)), (1, .int (zi q)), (2, .int (zi m)), (4, .int (zi i))]) dX12_isWithin_44 rfl (by decide) rfl ?_
            refine z_iinc (pc := 45) hO 4 (lv' := [(4, .int (zi (i + 1))), (3, .int (zi 1)), (0, .ref (gA g 50)), (1, .int (zi q)), (2, .int (zi m))]) dX12_isWithin_45 rfl (by decide) rfl ?_
            refine z_goto (pc := 48) hO (tgt := 5) dX12_isWithin_48 (by decide) ?_
            refine z_sub [2, 3, 4, 1, 0] rfl ?_
            exact ih5 1 (i + 1) (by omega) (by omega) (by first | exact Or.inl ⟨rfl, fun l a c => dite (l = i) (fun e => by rw [e]; first | assumption | omega) (fun e => by rcases hA with ⟨_, h⟩ | ⟨h, _⟩; exact h l a (by omega); omega)⟩ | exact Or.inr ⟨rfl, fun h => by rcases hA with ⟨_, _⟩ | ⟨_, h2⟩; (first | (have := h i (by omega) (by omega); first | contradiction | omega) | omega); exact h2 h⟩)
          · skip
            refine z_if_eq (pc := 36) hO (tgt := 43) dX12_isWithin_36 (by decide) (by decide) (fun _ => ?_) (fun h => absurd h (by decide))
            refine z_iconst (pc := 43) hO dX12_isWithin_43 ?_
            refine z_istore_n (pc := 44) hO (lv' := [(3, .int (zi 0)), (0, .ref (gA g 50)), (1, .int (zi q)), (2, .int (zi m)), (4, .int (zi i))]) dX12_isWithin_44 rfl (by decide) rfl ?_
            refine z_iinc (pc := 45) hO 4 (lv' := [(4, .int (zi (i + 1))), (3, .int (zi 0)), (0, .ref (gA g 50)), (1, .int (zi q)), (2, .int (zi m))]) dX12_isWithin_45 rfl (by decide) rfl ?_
            refine z_goto (pc := 48) hO (tgt := 5) dX12_isWithin_48 (by decide) ?_
            refine z_sub [2, 3, 4, 1, 0] rfl ?_
            exact ih5 0 (i + 1) (by omega) (by omega) (by first | exact Or.inl ⟨rfl, fun l a c => dite (l = i) (fun e => by rw [e]; first | assumption | omega) (fun e => by rcases hA with ⟨_, h⟩ | ⟨h, _⟩; exact h l a (by omega); omega)⟩ | exact Or.inr ⟨rfl, fun h => by rcases hA with ⟨_, _⟩ | ⟨_, h2⟩; (first | (have := h i (by omega) (by omega); first | contradiction | omega) | omega); exact h2 h⟩)
  refine z_sub [2, 3, 4, 1, 0] rfl ?_
  exact L5 _ 1 0 (Nat.lt_succ_self _) (by omega) (by exact Or.inl ⟨rfl, fun l a c => by omega⟩)

set_option maxHeartbeats 600000 in
theorem c_X12_greatest (l : Launch) (g : Gl) (x : Me) (q : Int)  (hG : MG x q) : ctQ l g yX12_greatest cX12_greatest 4 (some .int) 2 41 [.ref (gA g 50), .int (zi q)] x (QIu g (fun z x' => z = (hig (nd x q) (x 51 q * x 51 q).toNat) ∧ x' = x)) := by
  refine ct_start (own := RX12) (lv := [(0, .ref (gA g 50)), (1, .int (zi q))]) (plainFor_of_name (by decide)) rfl (Nat.le_of_ble_eq_true rfl) rfl ?_
  intro Γ hΓ hO hr hQ _
  obtain ⟨hq, hs, hf⟩ := id hG
  have hsq := sq9 hs
  have hN := nd_rng hG
  refine z_iconst (pc := 0) hO dX12_greatest_0 ?_
  refine z_istore_n (pc := 1) hO (lv' := [(2, .int (zi 0)), (0, .ref (gA g 50)), (1, .int (zi q))]) dX12_greatest_1 rfl (by decide) rfl ?_
  refine z_iconst (pc := 2) hO dX12_greatest_2 ?_
  refine z_istore_n (pc := 3) hO (lv' := [(3, .int (zi 0)), (2, .int (zi 0)), (0, .ref (gA g 50)), (1, .int (zi q))]) dX12_greatest_3 rfl (by decide) rfl ?_
  have L4 : ∀ (N : Nat) (w : Int) (i : Int), ((x 51 q * x 51 q) - i).toNat < N → (0 ≤ i ∧ i ≤ (x 51 q * x 51 q)) → (0 ≤ w ∧ w ≤ 999) → (w = hig (nd x q) i.toNat) → Zz Γ g 4 0 0 x 4 [(0, .ref (gA g 50)), (1, .int (zi q)), (2, .int (zi w)), (3, .int (zi i))] [] := by
    intro N
    induction N with
    | zero => intro w i hm; exact absurd hm (Nat.not_lt_zero _)
    | succ N ih4 =>
      intro w i hm h0 hw hA
      refine z_iload_n (pc := 4) hO 3 dX12_greatest_4 rfl rfl ?_
      refine z_aload_n (pc := 5) hO 0 dX12_greatest_5 rfl rfl ?_
      refine z_iload_n (pc := 6) hO 1 dX12_greatest_6 rfl rfl ?_
      refine z_callVIp (pc := 7) hO (As := [.int (zi q)]) (st := [.int (zi i)]) (c_X12_areaOf (qL Γ) g x q (by first | assumption | omega)) k_X12_100 isO_50 rfl (Nat.le_of_ble_eq_true rfl) (by decide) (by decide) ⟨by decide, by decide⟩ dX12_greatest_7 ?_
      refine z_icmp_ge (pc := 10) hO (tgt := 50) dX12_greatest_10 (by decide) (by omega) (by omega) (fun b1 => ?_) (fun b1 => ?_)
      · refine z_iload_n (pc := 50) hO 2 dX12_greatest_50 rfl rfl ?_
        exact z_iret (pc := 51) hO hr hQ rfl dX12_greatest_51 ⟨by first | (rw [hA, show i = (x 51 q * x 51 q) by omega]; done) | (exfalso; omega), rfl⟩
      · have g1 : nd x q i = x 52 (81 * q + i) := nd_in (by omega)
        have n1 := hN i
        refine z_aload_n (pc := 13) hO 0 dX12_greatest_13 rfl rfl ?_
        refine gf_X12_numbers (pc := 14) hO f_X12_13 dX12_greatest_14 ?_
        refine z_bipush (pc := 17) hO dX12_greatest_17 (by decide) ?_
        refine z_iload_n (pc := 19) hO 1 dX12_greatest_19 rfl rfl ?_
        refine z_imul (pc := 20) hO dX12_greatest_20 ?_
        refine z_iload_n (pc := 21) hO 3 dX12_greatest_21 rfl rfl ?_
        refine z_iadd (pc := 22) hO dX12_greatest_22 ?_
        refine z_iald (pc := 23) hO isI_52 (by omega) dX12_greatest_23 ?_
        refine z_iload_n (pc := 24) hO 2 dX12_greatest_24 rfl rfl ?_
        refine z_icmp_le (pc := 25) hO (tgt := 42) dX12_greatest_25 (by decide) (by omega) (by omega) (fun b2 => ?_) (fun b2 => ?_)
        · refine z_iload_n (pc := 42) hO 2 dX12_greatest_42 rfl rfl ?_
          refine z_istore_n (pc := 43) hO (lv' := [(2, .int (zi w)), (0, .ref (gA g 50)), (1, .int (zi q)), (3, .int (zi i))]) dX12_greatest_43 rfl (by decide) rfl ?_
          refine z_iinc (pc := 44) hO 3 (lv' := [(3, .int (zi (i + 1))), (2, .int (zi w)), (0, .ref (gA g 50)), (1, .int (zi q))]) dX12_greatest_44 rfl (by decide) rfl ?_
          refine z_goto (pc := 47) hO (tgt := 4) dX12_greatest_47 (by decide) ?_
          refine z_sub [2, 3, 1, 0] rfl ?_
          exact ih4 w (i + 1) (by omega) (by omega) (by omega) (by rw [hig_s _ h0.1, ← hA]; omega)
        · refine z_aload_n (pc := 28) hO 0 dX12_greatest_28 rfl rfl ?_
          refine gf_X12_numbers (pc := 29) hO f_X12_13 dX12_greatest_29 ?_
          refine z_bipush (pc := 32) hO dX12_greatest_32 (by decide) ?_
          refine z_iload_n (pc := 34) hO 1 dX12_greatest_34 rfl rfl ?_
          refine z_imul (pc := 35) hO dX12_greatest_35 ?_
          refine z_iload_n (pc := 36) hO 3 dX12_greatest_36 rfl rfl ?_
          refine z_iadd (pc := 37) hO dX12_greatest_37 ?_
          refine z_iald (pc := 38) hO isI_52 (by omega) dX12_greatest_38 ?_
          refine z_goto (pc := 39) hO (tgt := 43) dX12_greatest_39 (by decide) ?_
          refine z_istore_n (pc := 43) hO (lv' := [(2, .int (zi (x 52 ((81 * q) + i)))), (0, .ref (gA g 50)), (1, .int (zi q)), (3, .int (zi i))]) dX12_greatest_43 rfl (by decide) rfl ?_
          refine z_iinc (pc := 44) hO 3 (lv' := [(3, .int (zi (i + 1))), (2, .int (zi (x 52 ((81 * q) + i)))), (0, .ref (gA g 50)), (1, .int (zi q))]) dX12_greatest_44 rfl (by decide) rfl ?_
          refine z_goto (pc := 47) hO (tgt := 4) dX12_greatest_47 (by decide) ?_
          refine z_sub [2, 3, 1, 0] rfl ?_
          exact ih4 (x 52 ((81 * q) + i)) (i + 1) (by omega) (by omega) (by omega) (by rw [hig_s _ h0.1, ← hA]; omega)
  refine z_sub [2, 3, 1, 0] rfl ?_
  exact L4 _ 0 0 (Nat.lt_succ_self _) (by omega) (by omega) (by rfl)

set_option maxHeartbeats 600000 in
theorem e_X12_stack (l : Launch) (g : Gl) (x : Me) (q : Int) (r : Int)  (hM : MS x) (r_q : -2147483648 ≤ q ∧ q < 2147483648) (r_r : -2147483648 ≤ r ∧ r < 2147483648) (hno : ¬ (((0 ≤ q ∧ q < x 50 1) ∧ 0 ≤ r ∧ r < x 50 1) ∧ ((x 51 q = x 51 r ∧ WI (x 51 q) (nd x q) (x 51 q) ∧ WI (x 51 r) (nd x r) (x 51 q)) ∧ x 50 1 < 8))) : ctQ l g yX12_stack cX12_stack 6 (some .int) 3 66 [.ref (gA g 50), .int (zi q), .int (zi r)] x (QIu g (fun z x' => z = 0 ∧ x' = up x 50 0 (exn ((0 ≤ q ∧ q < x 50 1) ∧ 0 ≤ r ∧ r < x 50 1) (True) 1 0 2))) := by
  refine ct_start (own := RX12) (lv := [(0, .ref (gA g 50)), (1, .int (zi q)), (2, .int (zi r))]) (plainFor_of_name (by decide)) rfl (Nat.le_of_ble_eq_true rfl) rfl ?_
  intro Γ hΓ hO hr hQ _
  have hM1 := hM.1
  refine z_aload_n (pc := 0) hO 0 dX12_stack_0 rfl rfl ?_
  refine z_iload_n (pc := 1) hO 1 dX12_stack_1 rfl rfl ?_
  refine z_callVB (pc := 2) hO (As := [.int (zi q)]) (st := []) (c_X12_isSquare (qL Γ) g x q (by first | assumption | omega) (by first | assumption | omega)) k_X12_59 isO_50 rfl (Nat.le_of_ble_eq_true rfl) (by decide) (by decide) ⟨by decide, by decide⟩ dX12_stack_2 (fun pb1 => ?_) (fun pb1 => ?_)
  · skip
    refine z_if_eq (pc := 5) hO (tgt := 20) dX12_stack_5 (by decide) (by decide) (fun h => absurd h (by decide)) (fun _ => ?_)
    refine z_aload_n (pc := 8) hO 0 dX12_stack_8 rfl rfl ?_
    refine z_iload_n (pc := 9) hO 2 dX12_stack_9 rfl rfl ?_
    refine z_callVB (pc := 10) hO (As := [.int (zi r)]) (st := []) (c_X12_isSquare (qL Γ) g x r (by first | assumption | omega) (by first | assumption | omega)) k_X12_59 isO_50 rfl (Nat.le_of_ble_eq_true rfl) (by decide) (by decide) ⟨by decide, by decide⟩ dX12_stack_10 (fun pb2 => ?_) (fun pb2 => ?_)
    · skip
      refine z_if_eq (pc := 13) hO (tgt := 20) dX12_stack_13 (by decide) (by decide) (fun h => absurd h (by decide)) (fun _ => ?_)
      refine z_iconst (pc := 16) hO dX12_stack_16 ?_
      refine z_goto (pc := 17) hO (tgt := 21) dX12_stack_17 (by decide) ?_
      refine z_istore_n (pc := 21) hO (lv' := [(3, .int (zi 1)), (0, .ref (gA g 50)), (1, .int (zi q)), (2, .int (zi r))]) dX12_stack_21 rfl (by decide) rfl ?_
      refine z_iload_n (pc := 22) hO 0 dX12_stack_22 rfl rfl ?_
      refine z_if_eq (pc := 23) hO (tgt := 73) dX12_stack_23 (by decide) (by decide) (fun h => absurd h (by decide)) (fun _ => ?_)
      have hs1 := (hM.2 q (by omega) (by omega)).2.1
      have hq1 := (hM.2 q (by omega) (by omega)).1
      have hs2 := (hM.2 r (by omega) (by omega)).2.1
      have hq2 := (hM.2 r (by omega) (by omega)).1
      refine z_aload_n (pc := 26) hO 1 dX12_stack_26 rfl rfl ?_
      refine gf_X12_sideOf (pc := 27) hO f_X12_7 dX12_stack_27 ?_
      refine z_iload_n (pc := 30) hO 2 dX12_stack_30 rfl rfl ?_
      refine z_iald (pc := 31) hO isI_51 (by omega) dX12_stack_31 ?_
      refine z_aload_n (pc := 32) hO 1 dX12_stack_32 rfl rfl ?_
      refine gf_X12_sideOf (pc := 33) hO f_X12_7 dX12_stack_33 ?_
      refine z_iload_n (pc := 36) hO 3 dX12_stack_36 rfl rfl ?_
      refine z_iald (pc := 37) hO isI_51 (by omega) dX12_stack_37 ?_
      refine z_icmp_ne (pc := 38) hO (tgt := 73) dX12_stack_38 (by decide) (by omega) (by omega) (fun b3 => ?_) (fun b3 => ?_)
      · refine z_iconst (pc := 73) hO dX12_stack_73 ?_
        refine z_istore (pc := 74) hO (lv' := [(4, .int (zi 0)), (3, .int (zi 1)), (0, .ref (gA g 50)), (1, .int (zi q)), (2, .int (zi r))]) dX12_stack_74 (by decide) rfl ?_
        refine z_aload_n (pc := 76) hO 2 dX12_stack_76 rfl rfl ?_
        refine z_iload_n (pc := 77) hO 1 dX12_stack_77 rfl rfl ?_
        refine z_if_ne (pc := 78) hO (tgt := 85) dX12_stack_78 (by decide) (by decide) (fun _ => ?_) (fun h => absurd h (by decide))
        refine z_iload (pc := 85) hO 0 dX12_stack_85 rfl ?_
        refine z_if_eq (pc := 87) hO (tgt := 99) dX12_stack_87 (by decide) (by decide) (fun _ => ?_) (fun h => absurd h (by decide))
        refine z_iconst (pc := 99) hO dX12_stack_99 ?_
        refine z_goto (pc := 100) hO (tgt := 104) dX12_stack_100 (by decide) ?_
        refine z_callVIm (pc := 104) hO (As := [.int (zi 2)]) (st := []) (c_X12_isFine1 (qL Γ) g x 2 (by first | assumption | omega)) k_X12_63 isO_50 rfl (Nat.le_of_ble_eq_true rfl) (by decide) (by decide) ⟨by decide, by decide⟩ dX12_stack_104 (fun m4 e5 => ?_)
        refine z_if_ne (pc := 107) hO (tgt := 112) dX12_stack_107 (by decide) (by decide) (fun h => absurd h (by decide)) (fun _ => ?_)
        refine z_iconst (pc := 110) hO dX12_stack_110 ?_
        exact z_iret (pc := 111) hO hr hQ rfl dX12_stack_111 (by first | (refine ⟨rfl, ?_⟩; first | (rw [exn_1 (by omega)]; assumption) | (rw [exn_2 (by first | trivial | omega) (by omega)]; assumption) | (rw [exn_3 (by first | trivial | omega) (by first | trivial | omega)]; assumption); done) | (exfalso; omega))
      · refine z_aload_n (pc := 41) hO 1 dX12_stack_41 rfl rfl ?_
        refine z_iload_n (pc := 42) hO 2 dX12_stack_42 rfl rfl ?_
        refine z_aload_n (pc := 43) hO 1 dX12_stack_43 rfl rfl ?_
        refine gf_X12_sideOf (pc := 44) hO f_X12_7 dX12_stack_44 ?_
        refine z_iload_n (pc := 47) hO 2 dX12_stack_47 rfl rfl ?_
        refine z_iald (pc := 48) hO isI_51 (by omega) dX12_stack_48 ?_
        refine z_callVB (pc := 49) hO (As := [.int (zi q), .int (zi (x 51 q))]) (st := []) (c_X12_isWithin (qL Γ) g x q (x 51 q) (by exact hM.2 q (by omega) (by omega)) (by first | assumption | omega)) k_X12_199 isO_50 rfl (Nat.le_of_ble_eq_true rfl) (by decide) (by decide) ⟨by decide, by decide⟩ dX12_stack_49 (fun pb6 => ?_) (fun pb6 => ?_)
        · skip
          have hpa := pb6
          refine z_if_eq (pc := 52) hO (tgt := 73) dX12_stack_52 (by decide) (by decide) (fun h => absurd h (by decide)) (fun _ => ?_)
          refine z_aload_n (pc := 55) hO 1 dX12_stack_55 rfl rfl ?_
          refine z_iload_n (pc := 56) hO 3 dX12_stack_56 rfl rfl ?_
          refine z_aload_n (pc := 57) hO 1 dX12_stack_57 rfl rfl ?_
          refine gf_X12_sideOf (pc := 58) hO f_X12_7 dX12_stack_58 ?_
          refine z_iload_n (pc := 61) hO 2 dX12_stack_61 rfl rfl ?_
          refine z_iald (pc := 62) hO isI_51 (by omega) dX12_stack_62 ?_
          refine z_callVB (pc := 63) hO (As := [.int (zi r), .int (zi (x 51 q))]) (st := []) (c_X12_isWithin (qL Γ) g x r (x 51 q) (by exact hM.2 r (by omega) (by omega)) (by first | assumption | omega)) k_X12_199 isO_50 rfl (Nat.le_of_ble_eq_true rfl) (by decide) (by decide) ⟨by decide, by decide⟩ dX12_stack_63 (fun pb7 => ?_) (fun pb7 => ?_)
          · skip
            have hpb := pb7
            refine z_if_eq (pc := 66) hO (tgt := 73) dX12_stack_66 (by decide) (by decide) (fun h => absurd h (by decide)) (fun _ => ?_)
            refine z_iconst (pc := 69) hO dX12_stack_69 ?_
            refine z_goto (pc := 70) hO (tgt := 74) dX12_stack_70 (by decide) ?_
            refine z_istore (pc := 74) hO (lv' := [(4, .int (zi 1)), (3, .int (zi 1)), (0, .ref (gA g 50)), (1, .int (zi q)), (2, .int (zi r))]) dX12_stack_74 (by decide) rfl ?_
            refine z_aload_n (pc := 76) hO 2 dX12_stack_76 rfl rfl ?_
            refine z_iload_n (pc := 77) hO 1 dX12_stack_77 rfl rfl ?_
            refine z_if_ne (pc := 78) hO (tgt := 85) dX12_stack_78 (by decide) (by decide) (fun _ => ?_) (fun h => absurd h (by decide))
            refine z_iload (pc := 85) hO 0 dX12_stack_85 rfl ?_
            refine z_if_eq (pc := 87) hO (tgt := 99) dX12_stack_87 (by decide) (by decide) (fun h => absurd h (by decide)) (fun _ => ?_)
            refine z_aload_n (pc := 90) hO 2 dX12_stack_90 rfl rfl ?_
            refine gf_X12_squares (pc := 91) hO f_X12_52 dX12_stack_91 ?_
            refine z_bipush (pc := 94) hO dX12_stack_94 (by decide) ?_
            refine z_icmp_ne (pc := 96) hO (tgt := 103) dX12_stack_96 (by decide) (by omega) (by omega) (fun b8 => ?_) (fun b8 => ?_)
            · refine z_iconst (pc := 103) hO dX12_stack_103 ?_
              refine z_callVIm (pc := 104) hO (As := [.int (zi 0)]) (st := []) (c_X12_isFine0 (qL Γ) g x 0 (by first | assumption | omega)) k_X12_63 isO_50 rfl (Nat.le_of_ble_eq_true rfl) (by decide) (by decide) ⟨by decide, by decide⟩ dX12_stack_104 (fun m9 e10 => ?_)
              refine z_if_ne (pc := 107) hO (tgt := 112) dX12_stack_107 (by decide) (by decide) (fun _ => ?_) (fun h => absurd h (by decide))
              first | (exfalso; omega) | exact absurd ⟨⟨by omega, by omega⟩, ⟨by omega, hpa, hpb⟩, by omega⟩ hno
            · refine z_iconst (pc := 99) hO dX12_stack_99 ?_
              refine z_goto (pc := 100) hO (tgt := 104) dX12_stack_100 (by decide) ?_
              refine z_callVIm (pc := 104) hO (As := [.int (zi 2)]) (st := []) (c_X12_isFine1 (qL Γ) g x 2 (by first | assumption | omega)) k_X12_63 isO_50 rfl (Nat.le_of_ble_eq_true rfl) (by decide) (by decide) ⟨by decide, by decide⟩ dX12_stack_104 (fun m11 e12 => ?_)
              refine z_if_ne (pc := 107) hO (tgt := 112) dX12_stack_107 (by decide) (by decide) (fun h => absurd h (by decide)) (fun _ => ?_)
              refine z_iconst (pc := 110) hO dX12_stack_110 ?_
              exact z_iret (pc := 111) hO hr hQ rfl dX12_stack_111 (by first | (refine ⟨rfl, ?_⟩; first | (rw [exn_1 (by omega)]; assumption) | (rw [exn_2 (by first | trivial | omega) (by omega)]; assumption) | (rw [exn_3 (by first | trivial | omega) (by first | trivial | omega)]; assumption); done) | (exfalso; omega))
          · skip
            have hpb := pb7
            refine z_if_eq (pc := 66) hO (tgt := 73) dX12_stack_66 (by decide) (by decide) (fun _ => ?_) (fun h => absurd h (by decide))
            refine z_iconst (pc := 73) hO dX12_stack_73 ?_
            refine z_istore (pc := 74) hO (lv' := [(4, .int (zi 0)), (3, .int (zi 1)), (0, .ref (gA g 50)), (1, .int (zi q)), (2, .int (zi r))]) dX12_stack_74 (by decide) rfl ?_
            refine z_aload_n (pc := 76) hO 2 dX12_stack_76 rfl rfl ?_
            refine z_iload_n (pc := 77) hO 1 dX12_stack_77 rfl rfl ?_
            refine z_if_ne (pc := 78) hO (tgt := 85) dX12_stack_78 (by decide) (by decide) (fun _ => ?_) (fun h => absurd h (by decide))
            refine z_iload (pc := 85) hO 0 dX12_stack_85 rfl ?_
            refine z_if_eq (pc := 87) hO (tgt := 99) dX12_stack_87 (by decide) (by decide) (fun _ => ?_) (fun h => absurd h (by decide))
            refine z_iconst (pc := 99) hO dX12_stack_99 ?_
            refine z_goto (pc := 100) hO (tgt := 104) dX12_stack_100 (by decide) ?_
            refine z_callVIm (pc := 104) hO (As := [.int (zi 2)]) (st := []) (c_X12_isFine1 (qL Γ) g x 2 (by first | assumption | omega)) k_X12_63 isO_50 rfl (Nat.le_of_ble_eq_true rfl) (by decide) (by decide) ⟨by decide, by decide⟩ dX12_stack_104 (fun m13 e14 => ?_)
            refine z_if_ne (pc := 107) hO (tgt := 112) dX12_stack_107 (by decide) (by decide) (fun h => absurd h (by decide)) (fun _ => ?_)
            refine z_iconst (pc := 110) hO dX12_stack_110 ?_
            exact z_iret (pc := 111) hO hr hQ rfl dX12_stack_111 (by first | (refine ⟨rfl, ?_⟩; first | (rw [exn_1 (by omega)]; assumption) | (rw [exn_2 (by first | trivial | omega) (by omega)]; assumption) | (rw [exn_3 (by first | trivial | omega) (by first | trivial | omega)]; assumption); done) | (exfalso; omega))
        · skip
          have hpa := pb6
          refine z_if_eq (pc := 52) hO (tgt := 73) dX12_stack_52 (by decide) (by decide) (fun _ => ?_) (fun h => absurd h (by decide))
          refine z_iconst (pc := 73) hO dX12_stack_73 ?_
          refine z_istore (pc := 74) hO (lv' := [(4, .int (zi 0)), (3, .int (zi 1)), (0, .ref (gA g 50)), (1, .int (zi q)), (2, .int (zi r))]) dX12_stack_74 (by decide) rfl ?_
          refine z_aload_n (pc := 76) hO 2 dX12_stack_76 rfl rfl ?_
          refine z_iload_n (pc := 77) hO 1 dX12_stack_77 rfl rfl ?_
          refine z_if_ne (pc := 78) hO (tgt := 85) dX12_stack_78 (by decide) (by decide) (fun _ => ?_) (fun h => absurd h (by decide))
          refine z_iload (pc := 85) hO 0 dX12_stack_85 rfl ?_
          refine z_if_eq (pc := 87) hO (tgt := 99) dX12_stack_87 (by decide) (by decide) (fun _ => ?_) (fun h => absurd h (by decide))
          refine z_iconst (pc := 99) hO dX12_stack_99 ?_
          refine z_goto (pc := 100) hO (tgt := 104) dX12_stack_100 (by decide) ?_
          refine z_callVIm (pc := 104) hO (As := [.int (zi 2)]) (st := []) (c_X12_isFine1 (qL Γ) g x 2 (by first | assumption | omega)) k_X12_63 isO_50 rfl (Nat.le_of_ble_eq_true rfl) (by decide) (by decide) ⟨by decide, by decide⟩ dX12_stack_104 (fun m15 e16 => ?_)
          refine z_if_ne (pc := 107) hO (tgt := 112) dX12_stack_107 (by decide) (by decide) (fun h => absurd h (by decide)) (fun _ => ?_)
          refine z_iconst (pc := 110) hO dX12_stack_110 ?_
          exact z_iret (pc := 111) hO hr hQ rfl dX12_stack_111 (by first | (refine ⟨rfl, ?_⟩; first | (rw [exn_1 (by omega)]; assumption) | (rw [exn_2 (by first | trivial | omega) (by omega)]; assumption) | (rw [exn_3 (by first | trivial | omega) (by first | trivial | omega)]; assumption); done) | (exfalso; omega))
    · skip
      refine z_if_eq (pc := 13) hO (tgt := 20) dX12_stack_13 (by decide) (by decide) (fun _ => ?_) (fun h => absurd h (by decide))
      refine z_iconst (pc := 20) hO dX12_stack_20 ?_
      refine z_istore_n (pc := 21) hO (lv' := [(3, .int (zi 0)), (0, .ref (gA g 50)), (1, .int (zi q)), (2, .int (zi r))]) dX12_stack_21 rfl (by decide) rfl ?_
      refine z_iload_n (pc := 22) hO 0 dX12_stack_22 rfl rfl ?_
      refine z_if_eq (pc := 23) hO (tgt := 73) dX12_stack_23 (by decide) (by decide) (fun _ => ?_) (fun h => absurd h (by decide))
      refine z_iconst (pc := 73) hO dX12_stack_73 ?_
      refine z_istore (pc := 74) hO (lv' := [(4, .int (zi 0)), (3, .int (zi 0)), (0, .ref (gA g 50)), (1, .int (zi q)), (2, .int (zi r))]) dX12_stack_74 (by decide) rfl ?_
      refine z_aload_n (pc := 76) hO 2 dX12_stack_76 rfl rfl ?_
      refine z_iload_n (pc := 77) hO 1 dX12_stack_77 rfl rfl ?_
      refine z_if_ne (pc := 78) hO (tgt := 85) dX12_stack_78 (by decide) (by decide) (fun h => absurd h (by decide)) (fun _ => ?_)
      refine z_iconst (pc := 81) hO dX12_stack_81 ?_
      refine z_goto (pc := 82) hO (tgt := 104) dX12_stack_82 (by decide) ?_
      refine z_callVIm (pc := 104) hO (As := [.int (zi 1)]) (st := []) (c_X12_isFine1 (qL Γ) g x 1 (by first | assumption | omega)) k_X12_63 isO_50 rfl (Nat.le_of_ble_eq_true rfl) (by decide) (by decide) ⟨by decide, by decide⟩ dX12_stack_104 (fun m17 e18 => ?_)
      refine z_if_ne (pc := 107) hO (tgt := 112) dX12_stack_107 (by decide) (by decide) (fun h => absurd h (by decide)) (fun _ => ?_)
      refine z_iconst (pc := 110) hO dX12_stack_110 ?_
      exact z_iret (pc := 111) hO hr hQ rfl dX12_stack_111 (by first | (refine ⟨rfl, ?_⟩; first | (rw [exn_1 (by omega)]; assumption) | (rw [exn_2 (by first | trivial | omega) (by omega)]; assumption) | (rw [exn_3 (by first | trivial | omega) (by first | trivial | omega)]; assumption); done) | (exfalso; omega))
  · skip
    refine z_if_eq (pc := 5) hO (tgt := 20) dX12_stack_5 (by decide) (by decide) (fun _ => ?_) (fun h => absurd h (by decide))
    refine z_iconst (pc := 20) hO dX12_stack_20 ?_
    refine z_istore_n (pc := 21) hO (lv' := [(3, .int (zi 0)), (0, .ref (gA g 50)), (1, .int (zi q)), (2, .int (zi r))]) dX12_stack_21 rfl (by decide) rfl ?_
    refine z_iload_n (pc := 22) hO 0 dX12_stack_22 rfl rfl ?_
    refine z_if_eq (pc := 23) hO (tgt := 73) dX12_stack_23 (by decide) (by decide) (fun _ => ?_) (fun h => absurd h (by decide))
    refine z_iconst (pc := 73) hO dX12_stack_73 ?_
    refine z_istore (pc := 74) hO (lv' := [(4, .int (zi 0)), (3, .int (zi 0)), (0, .ref (gA g 50)), (1, .int (zi q)), (2, .int (zi r))]) dX12_stack_74 (by decide) rfl ?_
    refine z_aload_n (pc := 76) hO 2 dX12_stack_76 rfl rfl ?_
    refine z_iload_n (pc := 77) hO 1 dX12_stack_77 rfl rfl ?_
    refine z_if_ne (pc := 78) hO (tgt := 85) dX12_stack_78 (by decide) (by decide) (fun h => absurd h (by decide)) (fun _ => ?_)
    refine z_iconst (pc := 81) hO dX12_stack_81 ?_
    refine z_goto (pc := 82) hO (tgt := 104) dX12_stack_82 (by decide) ?_
    refine z_callVIm (pc := 104) hO (As := [.int (zi 1)]) (st := []) (c_X12_isFine1 (qL Γ) g x 1 (by first | assumption | omega)) k_X12_63 isO_50 rfl (Nat.le_of_ble_eq_true rfl) (by decide) (by decide) ⟨by decide, by decide⟩ dX12_stack_104 (fun m19 e20 => ?_)
    refine z_if_ne (pc := 107) hO (tgt := 112) dX12_stack_107 (by decide) (by decide) (fun h => absurd h (by decide)) (fun _ => ?_)
    refine z_iconst (pc := 110) hO dX12_stack_110 ?_
    exact z_iret (pc := 111) hO hr hQ rfl dX12_stack_111 (by first | (refine ⟨rfl, ?_⟩; first | (rw [exn_1 (by omega)]; assumption) | (rw [exn_2 (by first | trivial | omega) (by omega)]; assumption) | (rw [exn_3 (by first | trivial | omega) (by first | trivial | omega)]; assumption); done) | (exfalso; omega))

set_option maxHeartbeats 600000 in
theorem c_X12_stack (l : Launch) (g : Gl) (x : Me) (q : Int) (r : Int)  (hM : MS x) (r_q : -2147483648 ≤ q ∧ q < 2147483648) (r_r : -2147483648 ≤ r ∧ r < 2147483648) (hok : ((0 ≤ q ∧ q < x 50 1) ∧ 0 ≤ r ∧ r < x 50 1) ∧ ((x 51 q = x 51 r ∧ WI (x 51 q) (nd x q) (x 51 q) ∧ WI (x 51 r) (nd x r) (x 51 q)) ∧ x 50 1 < 8)) : ctQ l g yX12_stack cX12_stack 6 (some .int) 3 66 [.ref (gA g 50), .int (zi q), .int (zi r)] x (QIu g (fun z x' => z = x 50 1 ∧ NM x x' (x 51 q) (stk (x 51 q) (nd x q) (nd x r)))) := by
  refine ct_start (own := RX12) (lv := [(0, .ref (gA g 50)), (1, .int (zi q)), (2, .int (zi r))]) (plainFor_of_name (by decide)) rfl (Nat.le_of_ble_eq_true rfl) rfl ?_
  intro Γ hΓ hO hr hQ _
  have hM1 := hM.1
  refine z_aload_n (pc := 0) hO 0 dX12_stack_0 rfl rfl ?_
  refine z_iload_n (pc := 1) hO 1 dX12_stack_1 rfl rfl ?_
  refine z_callVB (pc := 2) hO (As := [.int (zi q)]) (st := []) (c_X12_isSquare (qL Γ) g x q (by first | assumption | omega) (by first | assumption | omega)) k_X12_59 isO_50 rfl (Nat.le_of_ble_eq_true rfl) (by decide) (by decide) ⟨by decide, by decide⟩ dX12_stack_2 (fun pb1 => ?_) (fun pb1 => ?_)
  · skip
    refine z_if_eq (pc := 5) hO (tgt := 20) dX12_stack_5 (by decide) (by decide) (fun h => absurd h (by decide)) (fun _ => ?_)
    refine z_aload_n (pc := 8) hO 0 dX12_stack_8 rfl rfl ?_
    refine z_iload_n (pc := 9) hO 2 dX12_stack_9 rfl rfl ?_
    refine z_callVB (pc := 10) hO (As := [.int (zi r)]) (st := []) (c_X12_isSquare (qL Γ) g x r (by first | assumption | omega) (by first | assumption | omega)) k_X12_59 isO_50 rfl (Nat.le_of_ble_eq_true rfl) (by decide) (by decide) ⟨by decide, by decide⟩ dX12_stack_10 (fun pb2 => ?_) (fun pb2 => ?_)
    · skip
      refine z_if_eq (pc := 13) hO (tgt := 20) dX12_stack_13 (by decide) (by decide) (fun h => absurd h (by decide)) (fun _ => ?_)
      refine z_iconst (pc := 16) hO dX12_stack_16 ?_
      refine z_goto (pc := 17) hO (tgt := 21) dX12_stack_17 (by decide) ?_
      refine z_istore_n (pc := 21) hO (lv' := [(3, .int (zi 1)), (0, .ref (gA g 50)), (1, .int (zi q)), (2, .int (zi r))]) dX12_stack_21 rfl (by decide) rfl ?_
      refine z_iload_n (pc := 22) hO 0 dX12_stack_22 rfl rfl ?_
      refine z_if_eq (pc := 23) hO (tgt := 73) dX12_stack_23 (by decide) (by decide) (fun h => absurd h (by decide)) (fun _ => ?_)
      have hs1 := (hM.2 q (by omega) (by omega)).2.1
      have hq1 := (hM.2 q (by omega) (by omega)).1
      have hs2 := (hM.2 r (by omega) (by omega)).2.1
      have hq2 := (hM.2 r (by omega) (by omega)).1
      refine z_aload_n (pc := 26) hO 1 dX12_stack_26 rfl rfl ?_
      refine gf_X12_sideOf (pc := 27) hO f_X12_7 dX12_stack_27 ?_
      refine z_iload_n (pc := 30) hO 2 dX12_stack_30 rfl rfl ?_
      refine z_iald (pc := 31) hO isI_51 (by omega) dX12_stack_31 ?_
      refine z_aload_n (pc := 32) hO 1 dX12_stack_32 rfl rfl ?_
      refine gf_X12_sideOf (pc := 33) hO f_X12_7 dX12_stack_33 ?_
      refine z_iload_n (pc := 36) hO 3 dX12_stack_36 rfl rfl ?_
      refine z_iald (pc := 37) hO isI_51 (by omega) dX12_stack_37 ?_
      refine z_icmp_ne (pc := 38) hO (tgt := 73) dX12_stack_38 (by decide) (by omega) (by omega) (fun b3 => ?_) (fun b3 => ?_)
      · refine z_iconst (pc := 73) hO dX12_stack_73 ?_
        refine z_istore (pc := 74) hO (lv' := [(4, .int (zi 0)), (3, .int (zi 1)), (0, .ref (gA g 50)), (1, .int (zi q)), (2, .int (zi r))]) dX12_stack_74 (by decide) rfl ?_
        refine z_aload_n (pc := 76) hO 2 dX12_stack_76 rfl rfl ?_
        refine z_iload_n (pc := 77) hO 1 dX12_stack_77 rfl rfl ?_
        refine z_if_ne (pc := 78) hO (tgt := 85) dX12_stack_78 (by decide) (by decide) (fun _ => ?_) (fun h => absurd h (by decide))
        refine z_iload (pc := 85) hO 0 dX12_stack_85 rfl ?_
        refine z_if_eq (pc := 87) hO (tgt := 99) dX12_stack_87 (by decide) (by decide) (fun _ => ?_) (fun h => absurd h (by decide))
        refine z_iconst (pc := 99) hO dX12_stack_99 ?_
        refine z_goto (pc := 100) hO (tgt := 104) dX12_stack_100 (by decide) ?_
        refine z_callVIm (pc := 104) hO (As := [.int (zi 2)]) (st := []) (c_X12_isFine1 (qL Γ) g x 2 (by first | assumption | omega)) k_X12_63 isO_50 rfl (Nat.le_of_ble_eq_true rfl) (by decide) (by decide) ⟨by decide, by decide⟩ dX12_stack_104 (fun m4 e5 => ?_)
        refine z_if_ne (pc := 107) hO (tgt := 112) dX12_stack_107 (by decide) (by decide) (fun h => absurd h (by decide)) (fun _ => ?_)
        refine z_iconst (pc := 110) hO dX12_stack_110 ?_
        exact z_iret (pc := 111) hO hr hQ rfl dX12_stack_111 (by first | (refine ⟨by rw [hly.1, hfr 50 (by omega), up_n _ _ (by omega)], LY_NM hly.2 (by rw [hfr 50 (by omega), up_s]) (by rw [hfr 50 (by omega), up_n _ _ (by omega)]) (by rw [hfr 51 (by omega), up_i _ _ _ (by omega)]) (by rw [hfr 52 (by omega), up_i _ _ _ (by omega)]) (n53_eq (fun p a c => dite (p < (x 51 q * x 51 q)) (fun e => hA p a (by omega)) (fun e => by rw [hB p (by omega) c]; unfold stk; rw [if_neg (by omega)])) (fun p a => by unfold stk; exact if_neg (by omega))) (fun p a => by unfold stk; exact if_neg (by omega)) (fun a ha => by rw [hfr a (by omega), up_i _ _ _ (by omega)])⟩; done) | (exfalso; omega))
      · refine z_aload_n (pc := 41) hO 1 dX12_stack_41 rfl rfl ?_
        refine z_iload_n (pc := 42) hO 2 dX12_stack_42 rfl rfl ?_
        refine z_aload_n (pc := 43) hO 1 dX12_stack_43 rfl rfl ?_
        refine gf_X12_sideOf (pc := 44) hO f_X12_7 dX12_stack_44 ?_
        refine z_iload_n (pc := 47) hO 2 dX12_stack_47 rfl rfl ?_
        refine z_iald (pc := 48) hO isI_51 (by omega) dX12_stack_48 ?_
        refine z_callVB (pc := 49) hO (As := [.int (zi q), .int (zi (x 51 q))]) (st := []) (c_X12_isWithin (qL Γ) g x q (x 51 q) (by exact hM.2 q (by omega) (by omega)) (by first | assumption | omega)) k_X12_199 isO_50 rfl (Nat.le_of_ble_eq_true rfl) (by decide) (by decide) ⟨by decide, by decide⟩ dX12_stack_49 (fun pb6 => ?_) (fun pb6 => ?_)
        · skip
          refine z_if_eq (pc := 52) hO (tgt := 73) dX12_stack_52 (by decide) (by decide) (fun h => absurd h (by decide)) (fun _ => ?_)
          refine z_aload_n (pc := 55) hO 1 dX12_stack_55 rfl rfl ?_
          refine z_iload_n (pc := 56) hO 3 dX12_stack_56 rfl rfl ?_
          refine z_aload_n (pc := 57) hO 1 dX12_stack_57 rfl rfl ?_
          refine gf_X12_sideOf (pc := 58) hO f_X12_7 dX12_stack_58 ?_
          refine z_iload_n (pc := 61) hO 2 dX12_stack_61 rfl rfl ?_
          refine z_iald (pc := 62) hO isI_51 (by omega) dX12_stack_62 ?_
          refine z_callVB (pc := 63) hO (As := [.int (zi r), .int (zi (x 51 q))]) (st := []) (c_X12_isWithin (qL Γ) g x r (x 51 q) (by exact hM.2 r (by omega) (by omega)) (by first | assumption | omega)) k_X12_199 isO_50 rfl (Nat.le_of_ble_eq_true rfl) (by decide) (by decide) ⟨by decide, by decide⟩ dX12_stack_63 (fun pb7 => ?_) (fun pb7 => ?_)
          · skip
            refine z_if_eq (pc := 66) hO (tgt := 73) dX12_stack_66 (by decide) (by decide) (fun h => absurd h (by decide)) (fun _ => ?_)
            refine z_iconst (pc := 69) hO dX12_stack_69 ?_
            refine z_goto (pc := 70) hO (tgt := 74) dX12_stack_70 (by decide) ?_
            refine z_istore (pc := 74) hO (lv' := [(4, .int (zi 1)), (3, .int (zi 1)), (0, .ref (gA g 50)), (1, .int (zi q)), (2, .int (zi r))]) dX12_stack_74 (by decide) rfl ?_
            refine z_aload_n (pc := 76) hO 2 dX12_stack_76 rfl rfl ?_
            refine z_iload_n (pc := 77) hO 1 dX12_stack_77 rfl rfl ?_
            refine z_if_ne (pc := 78) hO (tgt := 85) dX12_stack_78 (by decide) (by decide) (fun _ => ?_) (fun h => absurd h (by decide))
            refine z_iload (pc := 85) hO 0 dX12_stack_85 rfl ?_
            refine z_if_eq (pc := 87) hO (tgt := 99) dX12_stack_87 (by decide) (by decide) (fun h => absurd h (by decide)) (fun _ => ?_)
            refine z_aload_n (pc := 90) hO 2 dX12_stack_90 rfl rfl ?_
            refine gf_X12_squares (pc := 91) hO f_X12_52 dX12_stack_91 ?_
            refine z_bipush (pc := 94) hO dX12_stack_94 (by decide) ?_
            refine z_icmp_ne (pc := 96) hO (tgt := 103) dX12_stack_96 (by decide) (by omega) (by omega) (fun b8 => ?_) (fun b8 => ?_)
            · refine z_iconst (pc := 103) hO dX12_stack_103 ?_
              refine z_callVIm (pc := 104) hO (As := [.int (zi 0)]) (st := []) (c_X12_isFine0 (qL Γ) g x 0 (by first | assumption | omega)) k_X12_63 isO_50 rfl (Nat.le_of_ble_eq_true rfl) (by decide) (by decide) ⟨by decide, by decide⟩ dX12_stack_104 (fun m9 e10 => ?_)
              refine z_if_ne (pc := 107) hO (tgt := 112) dX12_stack_107 (by decide) (by decide) (fun _ => ?_) (fun h => absurd h (by decide))
              have hG := hM.2 q (by omega) (by omega)
              have hs := hG.2.1
              have hth : m9 = up x 50 0 0 := by assumption
              have e51 : m9 51 q = x 51 q := by rw [hth, up_i _ _ _ (by omega)]
              have end_ : nd m9 q = nd x q := by funext p; rw [hth]; exact nd_th
              have hGr := hM.2 r (by omega) (by omega)
              have hrs := hGr.2.1
              have e51r : m9 51 r = x 51 r := by rw [hth, up_i _ _ _ (by omega)]
              have endr : nd m9 r = nd x r := by funext p; rw [hth]; exact nd_th
              have hsr : 1 ≤ x 51 r ∧ x 51 r ≤ 9 := hrs
              have hsq := sq9 hs
              have hsqr := sq9 hrs
              have hN := nd_rng hG
              have hNr := nd_rng hGr
              refine z_aload_n (pc := 112) hO 2 dX12_stack_112 rfl rfl ?_
              refine z_callVV (pc := 113) hO (As := []) (st := []) (c_X12_wipe (qL Γ) g m9 ) k_X12_66 isO_50 rfl (Nat.le_of_ble_eq_true rfl) (by decide) (by decide) ⟨by decide, by decide⟩ dX12_stack_113 (fun m12 h13 => ?_)
              rw [hth] at h13
              have hw2 : ∀ a, a ≠ 53 → m12 a = up x 50 0 0 a := fun a ha => by rw [h13]; exact clr_i _ 53 81 ha
              have hw3 : ∀ p, 0 ≤ p → p < 81 → m12 53 p = 0 := fun p a b => by rw [h13]; unfold clr; rw [if_pos ⟨rfl, a, b⟩]
              refine z_iconst (pc := 116) hO dX12_stack_116 ?_
              refine z_istore (pc := 117) hO (lv' := [(5, .int (zi 0)), (4, .int (zi 1)), (3, .int (zi 1)), (0, .ref (gA g 50)), (1, .int (zi q)), (2, .int (zi r))]) dX12_stack_117 (by decide) rfl ?_
              have L119 : ∀ (N : Nat) (i : Int) (y : Me), ((x 51 q * x 51 q) - i).toNat < N → (0 ≤ i ∧ i ≤ (x 51 q * x 51 q)) → (∀ p, 0 ≤ p → p < i → y 53 p = (stk (x 51 q) (nd x q) (nd x r)) p) → (∀ p, i ≤ p → p < 81 → y 53 p = 0) → (∀ a, a ≠ 53 → y a = up x 50 0 0 a) → Zz Γ g 6 0 0 y 119 [(0, .ref (gA g 50)), (1, .int (zi q)), (2, .int (zi r)), (3, .int (zi 1)), (4, .int (zi 1)), (5, .int (zi i))] [] := by
                intro N
                induction N with
                | zero => intro i y hm; exact absurd hm (Nat.not_lt_zero _)
                | succ N ih119 =>
                  intro i y hm h0 hA hB hfr
                  have y51 : y 51 = x 51 := by rw [hfr 51 (by omega), up_i _ _ _ (by omega)]
                  have y52 : y 52 = x 52 := by rw [hfr 52 (by omega), up_i _ _ _ (by omega)]
                  have hGy := MG_of hG y51 y52
                  have hGry := MG_of hGr y51 y52
                  have y51q : y 51 q = x 51 q := by rw [y51]
                  have y51r : y 51 r = x 51 r := by rw [y51]
                  refine z_iload (pc := 119) hO 5 dX12_stack_119 rfl ?_
                  refine z_aload_n (pc := 121) hO 0 dX12_stack_121 rfl rfl ?_
                  refine z_iload_n (pc := 122) hO 1 dX12_stack_122 rfl rfl ?_
                  refine z_callVIp (pc := 123) hO (As := [.int (zi q)]) (st := [.int (zi i)]) (c_X12_areaOf (qL Γ) g y q (by exact hGy)) k_X12_100 isO_50 rfl (Nat.le_of_ble_eq_true rfl) (by decide) (by decide) ⟨by decide, by decide⟩ dX12_stack_123 ?_
                  rw [y51q]
                  refine z_icmp_ge (pc := 126) hO (tgt := 176) dX12_stack_126 (by decide) (by omega) (by omega) (fun b14 => ?_) (fun b14 => ?_)
                  · refine z_aload_n (pc := 176) hO 0 dX12_stack_176 rfl rfl ?_
                    refine z_aload_n (pc := 177) hO 0 dX12_stack_177 rfl rfl ?_
                    refine gf_X12_sideOf (pc := 178) hO f_X12_7 dX12_stack_178 ?_
                    refine z_iload_n (pc := 181) hO 1 dX12_stack_181 rfl rfl ?_
                    refine z_iald (pc := 182) hO isI_51 (by omega) dX12_stack_182 ?_
                    rw [hfr 51 (by omega), up_i x _ _ (show (51 : Nat) ≠ 50 by omega)]
                    refine z_callVI (pc := 183) hO (As := [.int (zi (x 51 q))]) (st := []) (c_X12_lay (qL Γ) g y (x 51 q) (by exact MS_of hM (by rw [hfr 50 (by omega), up_n _ _ (by omega)]) (by rw [hfr 51 (by omega), up_i _ _ _ (by omega)]) (by rw [hfr 52 (by omega), up_i _ _ _ (by omega)])) (by rw [hfr 50 (by omega), up_n _ _ (by omega)]; omega) (by omega)) k_X12_69 isO_50 rfl (Nat.le_of_ble_eq_true rfl) (by decide) (by decide) ⟨by decide, by decide⟩ dX12_stack_183 (fun z15 m16 h17 => ?_)
                    have hly := h17
                    exact z_iret (pc := 186) hO hr hQ rfl dX12_stack_186 (by first | (refine ⟨by rw [hly.1, hfr 50 (by omega), up_n _ _ (by omega)], LY_NM hly.2 (by rw [hfr 50 (by omega), up_s]) (by rw [hfr 50 (by omega), up_n _ _ (by omega)]) (by rw [hfr 51 (by omega), up_i _ _ _ (by omega)]) (by rw [hfr 52 (by omega), up_i _ _ _ (by omega)]) (n53_eq (fun p a c => dite (p < (x 51 q * x 51 q)) (fun e => hA p a (by omega)) (fun e => by rw [hB p (by omega) c]; unfold stk; rw [if_neg (by omega)])) (fun p a => by unfold stk; exact if_neg (by omega))) (fun p a => by unfold stk; exact if_neg (by omega)) (fun a ha => by rw [hfr a (by omega), up_i _ _ _ (by omega)])⟩; done) | (exfalso; omega))
                  · refine z_aload_n (pc := 129) hO 0 dX12_stack_129 rfl rfl ?_
                    refine gf_X12_made (pc := 130) hO f_X12_16 dX12_stack_130 ?_
                    refine z_iload (pc := 133) hO 5 dX12_stack_133 rfl ?_
                    refine z_aload_n (pc := 135) hO 0 dX12_stack_135 rfl rfl ?_
                    refine gf_X12_sideOf (pc := 136) hO f_X12_7 dX12_stack_136 ?_
                    refine z_iload_n (pc := 139) hO 1 dX12_stack_139 rfl rfl ?_
                    refine z_iald (pc := 140) hO isI_51 (by omega) dX12_stack_140 ?_
                    refine z_aload_n (pc := 141) hO 0 dX12_stack_141 rfl rfl ?_
                    refine gf_X12_numbers (pc := 142) hO f_X12_13 dX12_stack_142 ?_
                    refine z_bipush (pc := 145) hO dX12_stack_145 (by decide) ?_
                    refine z_iload_n (pc := 147) hO 1 dX12_stack_147 rfl rfl ?_
                    refine z_imul (pc := 148) hO dX12_stack_148 ?_
                    refine z_iload (pc := 149) hO 5 dX12_stack_149 rfl ?_
                    refine z_iadd (pc := 151) hO dX12_stack_151 ?_
                    refine z_iald (pc := 152) hO isI_52 (by omega) dX12_stack_152 ?_
                    refine z_iconst (pc := 153) hO dX12_stack_153 ?_
                    refine z_isub (pc := 154) hO dX12_stack_154 ?_
                    refine z_imul (pc := 155) hO dX12_stack_155 ?_
                    refine z_aload_n (pc := 156) hO 0 dX12_stack_156 rfl rfl ?_
                    refine gf_X12_numbers (pc := 157) hO f_X12_13 dX12_stack_157 ?_
                    refine z_bipush (pc := 160) hO dX12_stack_160 (by decide) ?_
                    refine z_iload_n (pc := 162) hO 2 dX12_stack_162 rfl rfl ?_
                    refine z_imul (pc := 163) hO dX12_stack_163 ?_
                    refine z_iload (pc := 164) hO 5 dX12_stack_164 rfl ?_
                    refine z_iadd (pc := 166) hO dX12_stack_166 ?_
                    refine z_iald (pc := 167) hO isI_52 (by omega) dX12_stack_167 ?_
                    refine z_iadd (pc := 168) hO dX12_stack_168 ?_
                    rw [show (((y 51 q) * ((y 52 ((81 * q) + i)) - 1)) + (y 52 ((81 * r) + i))) = stk (x 51 q) (nd x q) (nd x r) i from by unfold stk; rw [if_pos (by omega), y51q, nd_in (by omega), nd_in (by omega), y52]]
                    refine z_iast (pc := 169) hO isI_53 (by omega) dX12_stack_169 (fun m18 e19 => ?_)
                    refine z_iinc (pc := 170) hO 5 (lv' := [(5, .int (zi (i + 1))), (0, .ref (gA g 50)), (1, .int (zi q)), (2, .int (zi r)), (3, .int (zi 1)), (4, .int (zi 1))]) dX12_stack_170 rfl (by decide) rfl ?_
                    refine z_goto (pc := 173) hO (tgt := 119) dX12_stack_173 (by decide) ?_
                    refine z_sub [1, 2, 3, 4, 5, 0] rfl ?_
                    exact ih119 (i + 1) m18 (by omega) (by omega) (by intro p a c; subst m18; exact dite (p = i) (fun e => by rw [e, up_s]) (fun e => by rw [up_n _ _ (by omega)]; exact hA p a (by omega))) (by intro p a c; subst m18; rw [up_n _ _ (by omega)]; exact hB p (by omega) c) (by intro a ha; subst m18; rw [up_i _ _ _ ha]; exact hfr a ha)
              refine z_sub [3, 4, 5, 2, 1, 0] rfl ?_
              exact L119 _ 0 m12 (Nat.lt_succ_self _) (by omega) (by intro p _ _; omega) (by intro p a c; exact hw3 p a c) (by exact hw2)
            · refine z_iconst (pc := 99) hO dX12_stack_99 ?_
              refine z_goto (pc := 100) hO (tgt := 104) dX12_stack_100 (by decide) ?_
              refine z_callVIm (pc := 104) hO (As := [.int (zi 2)]) (st := []) (c_X12_isFine1 (qL Γ) g x 2 (by first | assumption | omega)) k_X12_63 isO_50 rfl (Nat.le_of_ble_eq_true rfl) (by decide) (by decide) ⟨by decide, by decide⟩ dX12_stack_104 (fun m20 e21 => ?_)
              refine z_if_ne (pc := 107) hO (tgt := 112) dX12_stack_107 (by decide) (by decide) (fun h => absurd h (by decide)) (fun _ => ?_)
              refine z_iconst (pc := 110) hO dX12_stack_110 ?_
              exact z_iret (pc := 111) hO hr hQ rfl dX12_stack_111 (by first | (refine ⟨by rw [hly.1, hfr 50 (by omega), up_n _ _ (by omega)], LY_NM hly.2 (by rw [hfr 50 (by omega), up_s]) (by rw [hfr 50 (by omega), up_n _ _ (by omega)]) (by rw [hfr 51 (by omega), up_i _ _ _ (by omega)]) (by rw [hfr 52 (by omega), up_i _ _ _ (by omega)]) (n53_eq (fun p a c => dite (p < (x 51 q * x 51 q)) (fun e => hA p a (by omega)) (fun e => by rw [hB p (by omega) c]; unfold stk; rw [if_neg (by omega)])) (fun p a => by unfold stk; exact if_neg (by omega))) (fun p a => by unfold stk; exact if_neg (by omega)) (fun a ha => by rw [hfr a (by omega), up_i _ _ _ (by omega)])⟩; done) | (exfalso; omega))
          · skip
            exact absurd hok.2.1.2.2 pb7
        · skip
          exact absurd hok.2.1.2.1 pb6
    · skip
      exfalso; omega
  · skip
    exfalso; omega

set_option maxHeartbeats 600000 in
theorem e_X12_product (l : Launch) (g : Gl) (x : Me) (q : Int) (r : Int)  (hM : MS x) (r_q : -2147483648 ≤ q ∧ q < 2147483648) (r_r : -2147483648 ≤ r ∧ r < 2147483648) (hno : ¬ (((0 ≤ q ∧ q < x 50 1) ∧ 0 ≤ r ∧ r < x 50 1) ∧ ((x 51 q * x 51 r ≤ 9 ∧ WI (x 51 q) (nd x q) 999 ∧ WI (x 51 r) (nd x r) 999 ∧ x 51 r * x 51 r * (hig (nd x q) (x 51 q * x 51 q).toNat - 1) + hig (nd x r) (x 51 r * x 51 r).toNat ≤ 999) ∧ x 50 1 < 8))) : ctQ l g yX12_product cX12_product 10 (some .int) 3 66 [.ref (gA g 50), .int (zi q), .int (zi r)] x (QIu g (fun z x' => z = 0 ∧ x' = up x 50 0 (exn ((0 ≤ q ∧ q < x 50 1) ∧ 0 ≤ r ∧ r < x 50 1) (True) 1 0 2))) := by
  refine ct_start (own := RX12) (lv := [(0, .ref (gA g 50)), (1, .int (zi q)), (2, .int (zi r))]) (plainFor_of_name (by decide)) rfl (Nat.le_of_ble_eq_true rfl) rfl ?_
  intro Γ hΓ hO hr hQ _
  have hM1 := hM.1
  refine z_aload_n (pc := 0) hO 0 dX12_product_0 rfl rfl ?_
  refine z_iload_n (pc := 1) hO 1 dX12_product_1 rfl rfl ?_
  refine z_callVB (pc := 2) hO (As := [.int (zi q)]) (st := []) (c_X12_isSquare (qL Γ) g x q (by first | assumption | omega) (by first | assumption | omega)) k_X12_59 isO_50 rfl (Nat.le_of_ble_eq_true rfl) (by decide) (by decide) ⟨by decide, by decide⟩ dX12_product_2 (fun pb1 => ?_) (fun pb1 => ?_)
  · skip
    refine z_if_eq (pc := 5) hO (tgt := 20) dX12_product_5 (by decide) (by decide) (fun h => absurd h (by decide)) (fun _ => ?_)
    refine z_aload_n (pc := 8) hO 0 dX12_product_8 rfl rfl ?_
    refine z_iload_n (pc := 9) hO 2 dX12_product_9 rfl rfl ?_
    refine z_callVB (pc := 10) hO (As := [.int (zi r)]) (st := []) (c_X12_isSquare (qL Γ) g x r (by first | assumption | omega) (by first | assumption | omega)) k_X12_59 isO_50 rfl (Nat.le_of_ble_eq_true rfl) (by decide) (by decide) ⟨by decide, by decide⟩ dX12_product_10 (fun pb2 => ?_) (fun pb2 => ?_)
    · skip
      refine z_if_eq (pc := 13) hO (tgt := 20) dX12_product_13 (by decide) (by decide) (fun h => absurd h (by decide)) (fun _ => ?_)
      refine z_iconst (pc := 16) hO dX12_product_16 ?_
      refine z_goto (pc := 17) hO (tgt := 21) dX12_product_17 (by decide) ?_
      refine z_istore_n (pc := 21) hO (lv' := [(3, .int (zi 1)), (0, .ref (gA g 50)), (1, .int (zi q)), (2, .int (zi r))]) dX12_product_21 rfl (by decide) rfl ?_
      refine z_iload_n (pc := 22) hO 0 dX12_product_22 rfl rfl ?_
      refine z_if_eq (pc := 23) hO (tgt := 70) dX12_product_23 (by decide) (by decide) (fun h => absurd h (by decide)) (fun _ => ?_)
      have hs1 := (hM.2 q (by omega) (by omega)).2.1
      have hq1 := (hM.2 q (by omega) (by omega)).1
      have hs2 := (hM.2 r (by omega) (by omega)).2.1
      have hq2 := (hM.2 r (by omega) (by omega)).1
      have hnm1 : 1 ≤ x 51 q * x 51 r := by have := Int.mul_le_mul hs1.1 hs2.1 (by omega) (by omega); omega
      have hnm81 : x 51 q * x 51 r ≤ 81 := by have := Int.mul_le_mul hs1.2 hs2.2 (by omega) (by omega); omega
      refine z_aload_n (pc := 26) hO 1 dX12_product_26 rfl rfl ?_
      refine gf_X12_sideOf (pc := 27) hO f_X12_7 dX12_product_27 ?_
      refine z_iload_n (pc := 30) hO 2 dX12_product_30 rfl rfl ?_
      refine z_iald (pc := 31) hO isI_51 (by omega) dX12_product_31 ?_
      refine z_aload_n (pc := 32) hO 1 dX12_product_32 rfl rfl ?_
      refine gf_X12_sideOf (pc := 33) hO f_X12_7 dX12_product_33 ?_
      refine z_iload_n (pc := 36) hO 3 dX12_product_36 rfl rfl ?_
      refine z_iald (pc := 37) hO isI_51 (by omega) dX12_product_37 ?_
      refine z_imul (pc := 38) hO dX12_product_38 ?_
      refine z_bipush (pc := 39) hO dX12_product_39 (by decide) ?_
      refine z_icmp_gt (pc := 41) hO (tgt := 70) dX12_product_41 (by decide) (by omega) (by omega) (fun b3 => ?_) (fun b3 => ?_)
      · refine z_iconst (pc := 70) hO dX12_product_70 ?_
        refine z_istore (pc := 71) hO (lv' := [(4, .int (zi 0)), (3, .int (zi 1)), (0, .ref (gA g 50)), (1, .int (zi q)), (2, .int (zi r))]) dX12_product_71 (by decide) rfl ?_
        refine z_iload (pc := 73) hO 0 dX12_product_73 rfl ?_
        refine z_if_eq (pc := 75) hO (tgt := 107) dX12_product_75 (by decide) (by decide) (fun _ => ?_) (fun h => absurd h (by decide))
        refine z_iconst (pc := 107) hO dX12_product_107 ?_
        refine z_istore (pc := 108) hO (lv' := [(4, .int (zi 0)), (3, .int (zi 1)), (0, .ref (gA g 50)), (1, .int (zi q)), (2, .int (zi r))]) dX12_product_108 (by decide) rfl ?_
        refine z_aload_n (pc := 110) hO 2 dX12_product_110 rfl rfl ?_
        refine z_iload_n (pc := 111) hO 1 dX12_product_111 rfl rfl ?_
        refine z_if_ne (pc := 112) hO (tgt := 119) dX12_product_112 (by decide) (by decide) (fun _ => ?_) (fun h => absurd h (by decide))
        refine z_iload (pc := 119) hO 0 dX12_product_119 rfl ?_
        refine z_if_eq (pc := 121) hO (tgt := 133) dX12_product_121 (by decide) (by decide) (fun _ => ?_) (fun h => absurd h (by decide))
        refine z_iconst (pc := 133) hO dX12_product_133 ?_
        refine z_goto (pc := 134) hO (tgt := 138) dX12_product_134 (by decide) ?_
        refine z_callVIm (pc := 138) hO (As := [.int (zi 2)]) (st := []) (c_X12_isFine1 (qL Γ) g x 2 (by first | assumption | omega)) k_X12_63 isO_50 rfl (Nat.le_of_ble_eq_true rfl) (by decide) (by decide) ⟨by decide, by decide⟩ dX12_product_138 (fun m4 e5 => ?_)
        refine z_if_ne (pc := 141) hO (tgt := 146) dX12_product_141 (by decide) (by decide) (fun h => absurd h (by decide)) (fun _ => ?_)
        refine z_iconst (pc := 144) hO dX12_product_144 ?_
        exact z_iret (pc := 145) hO hr hQ rfl dX12_product_145 (by first | (refine ⟨rfl, ?_⟩; first | (rw [exn_1 (by omega)]; assumption) | (rw [exn_2 (by first | trivial | omega) (by omega)]; assumption) | (rw [exn_3 (by first | trivial | omega) (by first | trivial | omega)]; assumption); done) | (exfalso; omega))
      · refine z_aload_n (pc := 44) hO 1 dX12_product_44 rfl rfl ?_
        refine z_iload_n (pc := 45) hO 2 dX12_product_45 rfl rfl ?_
        refine z_sipush (pc := 46) hO dX12_product_46 (by decide) ?_
        refine z_callVB (pc := 49) hO (As := [.int (zi q), .int (zi 999)]) (st := []) (c_X12_isWithin (qL Γ) g x q 999 (by exact hM.2 q (by omega) (by omega)) (by first | assumption | omega)) k_X12_199 isO_50 rfl (Nat.le_of_ble_eq_true rfl) (by decide) (by decide) ⟨by decide, by decide⟩ dX12_product_49 (fun pb6 => ?_) (fun pb6 => ?_)
        · skip
          have hpa := pb6
          refine z_if_eq (pc := 52) hO (tgt := 70) dX12_product_52 (by decide) (by decide) (fun h => absurd h (by decide)) (fun _ => ?_)
          refine z_aload_n (pc := 55) hO 1 dX12_product_55 rfl rfl ?_
          refine z_iload_n (pc := 56) hO 3 dX12_product_56 rfl rfl ?_
          refine z_sipush (pc := 57) hO dX12_product_57 (by decide) ?_
          refine z_callVB (pc := 60) hO (As := [.int (zi r), .int (zi 999)]) (st := []) (c_X12_isWithin (qL Γ) g x r 999 (by exact hM.2 r (by omega) (by omega)) (by first | assumption | omega)) k_X12_199 isO_50 rfl (Nat.le_of_ble_eq_true rfl) (by decide) (by decide) ⟨by decide, by decide⟩ dX12_product_60 (fun pb7 => ?_) (fun pb7 => ?_)
          · skip
            have hpb := pb7
            refine z_if_eq (pc := 63) hO (tgt := 70) dX12_product_63 (by decide) (by decide) (fun h => absurd h (by decide)) (fun _ => ?_)
            refine z_iconst (pc := 66) hO dX12_product_66 ?_
            refine z_goto (pc := 67) hO (tgt := 71) dX12_product_67 (by decide) ?_
            refine z_istore (pc := 71) hO (lv' := [(4, .int (zi 1)), (3, .int (zi 1)), (0, .ref (gA g 50)), (1, .int (zi q)), (2, .int (zi r))]) dX12_product_71 (by decide) rfl ?_
            refine z_iload (pc := 73) hO 0 dX12_product_73 rfl ?_
            refine z_if_eq (pc := 75) hO (tgt := 107) dX12_product_75 (by decide) (by decide) (fun h => absurd h (by decide)) (fun _ => ?_)
            have hsqr0 := sq9 hs2
            have hh1 := hig_r (nd_rng (hM.2 q (by omega) (by omega))) (x 51 q * x 51 q).toNat
            have hh2 := hig_r (nd_rng (hM.2 r (by omega) (by omega))) (x 51 r * x 51 r).toNat
            have hmb := mulb (a := x 51 r * x 51 r) (v := hig (nd x q) (x 51 q * x 51 q).toNat) (by omega) hh1
            refine z_aload_n (pc := 78) hO 2 dX12_product_78 rfl rfl ?_
            refine z_iload_n (pc := 79) hO 4 dX12_product_79 rfl rfl ?_
            refine z_callVIp (pc := 80) hO (As := [.int (zi r)]) (st := []) (c_X12_areaOf (qL Γ) g x r (by exact hM.2 r (by omega) (by omega))) k_X12_100 isO_50 rfl (Nat.le_of_ble_eq_true rfl) (by decide) (by decide) ⟨by decide, by decide⟩ dX12_product_80 ?_
            refine z_aload_n (pc := 83) hO 2 dX12_product_83 rfl rfl ?_
            refine z_iload_n (pc := 84) hO 3 dX12_product_84 rfl rfl ?_
            refine z_callVIp (pc := 85) hO (As := [.int (zi q)]) (st := [.int (zi (x 51 r * x 51 r))]) (c_X12_greatest (qL Γ) g x q (by exact hM.2 q (by omega) (by omega))) k_X12_202 isO_50 rfl (Nat.le_of_ble_eq_true rfl) (by decide) (by decide) ⟨by decide, by decide⟩ dX12_product_85 ?_
            refine z_iconst (pc := 88) hO dX12_product_88 ?_
            refine z_isub (pc := 89) hO dX12_product_89 ?_
            refine z_imul (pc := 90) hO dX12_product_90 ?_
            refine z_aload_n (pc := 91) hO 2 dX12_product_91 rfl rfl ?_
            refine z_iload_n (pc := 92) hO 4 dX12_product_92 rfl rfl ?_
            refine z_callVIp (pc := 93) hO (As := [.int (zi r)]) (st := [.int (zi ((x 51 r * x 51 r) * ((hig (nd x q) (x 51 q * x 51 q).toNat) - 1)))]) (c_X12_greatest (qL Γ) g x r (by exact hM.2 r (by omega) (by omega))) k_X12_202 isO_50 rfl (Nat.le_of_ble_eq_true rfl) (by decide) (by decide) ⟨by decide, by decide⟩ dX12_product_93 ?_
            refine z_iadd (pc := 96) hO dX12_product_96 ?_
            refine z_sipush (pc := 97) hO dX12_product_97 (by decide) ?_
            refine z_icmp_gt (pc := 100) hO (tgt := 107) dX12_product_100 (by decide) (by omega) (by omega) (fun b8 => ?_) (fun b8 => ?_)
            · refine z_iconst (pc := 107) hO dX12_product_107 ?_
              refine z_istore (pc := 108) hO (lv' := [(4, .int (zi 0)), (3, .int (zi 1)), (0, .ref (gA g 50)), (1, .int (zi q)), (2, .int (zi r))]) dX12_product_108 (by decide) rfl ?_
              refine z_aload_n (pc := 110) hO 2 dX12_product_110 rfl rfl ?_
              refine z_iload_n (pc := 111) hO 1 dX12_product_111 rfl rfl ?_
              refine z_if_ne (pc := 112) hO (tgt := 119) dX12_product_112 (by decide) (by decide) (fun _ => ?_) (fun h => absurd h (by decide))
              refine z_iload (pc := 119) hO 0 dX12_product_119 rfl ?_
              refine z_if_eq (pc := 121) hO (tgt := 133) dX12_product_121 (by decide) (by decide) (fun _ => ?_) (fun h => absurd h (by decide))
              refine z_iconst (pc := 133) hO dX12_product_133 ?_
              refine z_goto (pc := 134) hO (tgt := 138) dX12_product_134 (by decide) ?_
              refine z_callVIm (pc := 138) hO (As := [.int (zi 2)]) (st := []) (c_X12_isFine1 (qL Γ) g x 2 (by first | assumption | omega)) k_X12_63 isO_50 rfl (Nat.le_of_ble_eq_true rfl) (by decide) (by decide) ⟨by decide, by decide⟩ dX12_product_138 (fun m9 e10 => ?_)
              refine z_if_ne (pc := 141) hO (tgt := 146) dX12_product_141 (by decide) (by decide) (fun h => absurd h (by decide)) (fun _ => ?_)
              refine z_iconst (pc := 144) hO dX12_product_144 ?_
              exact z_iret (pc := 145) hO hr hQ rfl dX12_product_145 (by first | (refine ⟨rfl, ?_⟩; first | (rw [exn_1 (by omega)]; assumption) | (rw [exn_2 (by first | trivial | omega) (by omega)]; assumption) | (rw [exn_3 (by first | trivial | omega) (by first | trivial | omega)]; assumption); done) | (exfalso; omega))
            · refine z_iconst (pc := 103) hO dX12_product_103 ?_
              refine z_goto (pc := 104) hO (tgt := 108) dX12_product_104 (by decide) ?_
              refine z_istore (pc := 108) hO (lv' := [(4, .int (zi 1)), (3, .int (zi 1)), (0, .ref (gA g 50)), (1, .int (zi q)), (2, .int (zi r))]) dX12_product_108 (by decide) rfl ?_
              refine z_aload_n (pc := 110) hO 2 dX12_product_110 rfl rfl ?_
              refine z_iload_n (pc := 111) hO 1 dX12_product_111 rfl rfl ?_
              refine z_if_ne (pc := 112) hO (tgt := 119) dX12_product_112 (by decide) (by decide) (fun _ => ?_) (fun h => absurd h (by decide))
              refine z_iload (pc := 119) hO 0 dX12_product_119 rfl ?_
              refine z_if_eq (pc := 121) hO (tgt := 133) dX12_product_121 (by decide) (by decide) (fun h => absurd h (by decide)) (fun _ => ?_)
              refine z_aload_n (pc := 124) hO 2 dX12_product_124 rfl rfl ?_
              refine gf_X12_squares (pc := 125) hO f_X12_52 dX12_product_125 ?_
              refine z_bipush (pc := 128) hO dX12_product_128 (by decide) ?_
              refine z_icmp_ne (pc := 130) hO (tgt := 137) dX12_product_130 (by decide) (by omega) (by omega) (fun b11 => ?_) (fun b11 => ?_)
              · refine z_iconst (pc := 137) hO dX12_product_137 ?_
                refine z_callVIm (pc := 138) hO (As := [.int (zi 0)]) (st := []) (c_X12_isFine0 (qL Γ) g x 0 (by first | assumption | omega)) k_X12_63 isO_50 rfl (Nat.le_of_ble_eq_true rfl) (by decide) (by decide) ⟨by decide, by decide⟩ dX12_product_138 (fun m12 e13 => ?_)
                refine z_if_ne (pc := 141) hO (tgt := 146) dX12_product_141 (by decide) (by decide) (fun _ => ?_) (fun h => absurd h (by decide))
                first | (exfalso; omega) | exact absurd ⟨⟨by omega, by omega⟩, ⟨by omega, hpa, hpb, by omega⟩, by omega⟩ hno
              · refine z_iconst (pc := 133) hO dX12_product_133 ?_
                refine z_goto (pc := 134) hO (tgt := 138) dX12_product_134 (by decide) ?_
                refine z_callVIm (pc := 138) hO (As := [.int (zi 2)]) (st := []) (c_X12_isFine1 (qL Γ) g x 2 (by first | assumption | omega)) k_X12_63 isO_50 rfl (Nat.le_of_ble_eq_true rfl) (by decide) (by decide) ⟨by decide, by decide⟩ dX12_product_138 (fun m14 e15 => ?_)
                refine z_if_ne (pc := 141) hO (tgt := 146) dX12_product_141 (by decide) (by decide) (fun h => absurd h (by decide)) (fun _ => ?_)
                refine z_iconst (pc := 144) hO dX12_product_144 ?_
                exact z_iret (pc := 145) hO hr hQ rfl dX12_product_145 (by first | (refine ⟨rfl, ?_⟩; first | (rw [exn_1 (by omega)]; assumption) | (rw [exn_2 (by first | trivial | omega) (by omega)]; assumption) | (rw [exn_3 (by first | trivial | omega) (by first | trivial | omega)]; assumption); done) | (exfalso; omega))
          · skip
            have hpb := pb7
            refine z_if_eq (pc := 63) hO (tgt := 70) dX12_product_63 (by decide) (by decide) (fun _ => ?_) (fun h => absurd h (by decide))
            refine z_iconst (pc := 70) hO dX12_product_70 ?_
            refine z_istore (pc := 71) hO (lv' := [(4, .int (zi 0)), (3, .int (zi 1)), (0, .ref (gA g 50)), (1, .int (zi q)), (2, .int (zi r))]) dX12_product_71 (by decide) rfl ?_
            refine z_iload (pc := 73) hO 0 dX12_product_73 rfl ?_
            refine z_if_eq (pc := 75) hO (tgt := 107) dX12_product_75 (by decide) (by decide) (fun _ => ?_) (fun h => absurd h (by decide))
            refine z_iconst (pc := 107) hO dX12_product_107 ?_
            refine z_istore (pc := 108) hO (lv' := [(4, .int (zi 0)), (3, .int (zi 1)), (0, .ref (gA g 50)), (1, .int (zi q)), (2, .int (zi r))]) dX12_product_108 (by decide) rfl ?_
            refine z_aload_n (pc := 110) hO 2 dX12_product_110 rfl rfl ?_
            refine z_iload_n (pc := 111) hO 1 dX12_product_111 rfl rfl ?_
            refine z_if_ne (pc := 112) hO (tgt := 119) dX12_product_112 (by decide) (by decide) (fun _ => ?_) (fun h => absurd h (by decide))
            refine z_iload (pc := 119) hO 0 dX12_product_119 rfl ?_
            refine z_if_eq (pc := 121) hO (tgt := 133) dX12_product_121 (by decide) (by decide) (fun _ => ?_) (fun h => absurd h (by decide))
            refine z_iconst (pc := 133) hO dX12_product_133 ?_
            refine z_goto (pc := 134) hO (tgt := 138) dX12_product_134 (by decide) ?_
            refine z_callVIm (pc := 138) hO (As := [.int (zi 2)]) (st := []) (c_X12_isFine1 (qL Γ) g x 2 (by first | assumption | omega)) k_X12_63 isO_50 rfl (Nat.le_of_ble_eq_true rfl) (by decide) (by decide) ⟨by decide, by decide⟩ dX12_product_138 (fun m16 e17 => ?_)
            refine z_if_ne (pc := 141) hO (tgt := 146) dX12_product_141 (by decide) (by decide) (fun h => absurd h (by decide)) (fun _ => ?_)
            refine z_iconst (pc := 144) hO dX12_product_144 ?_
            exact z_iret (pc := 145) hO hr hQ rfl dX12_product_145 (by first | (refine ⟨rfl, ?_⟩; first | (rw [exn_1 (by omega)]; assumption) | (rw [exn_2 (by first | trivial | omega) (by omega)]; assumption) | (rw [exn_3 (by first | trivial | omega) (by first | trivial | omega)]; assumption); done) | (exfalso; omega))
        · skip
          have hpa := pb6
          refine z_if_eq (pc := 52) hO (tgt := 70) dX12_product_52 (by decide) (by decide) (fun _ => ?_) (fun h => absurd h (by decide))
          refine z_iconst (pc := 70) hO dX12_product_70 ?_
          refine z_istore (pc := 71) hO (lv' := [(4, .int (zi 0)), (3, .int (zi 1)), (0, .ref (gA g 50)), (1, .int (zi q)), (2, .int (zi r))]) dX12_product_71 (by decide) rfl ?_
          refine z_iload (pc := 73) hO 0 dX12_product_73 rfl ?_
          refine z_if_eq (pc := 75) hO (tgt := 107) dX12_product_75 (by decide) (by decide) (fun _ => ?_) (fun h => absurd h (by decide))
          refine z_iconst (pc := 107) hO dX12_product_107 ?_
          refine z_istore (pc := 108) hO (lv' := [(4, .int (zi 0)), (3, .int (zi 1)), (0, .ref (gA g 50)), (1, .int (zi q)), (2, .int (zi r))]) dX12_product_108 (by decide) rfl ?_
          refine z_aload_n (pc := 110) hO 2 dX12_product_110 rfl rfl ?_
          refine z_iload_n (pc := 111) hO 1 dX12_product_111 rfl rfl ?_
          refine z_if_ne (pc := 112) hO (tgt := 119) dX12_product_112 (by decide) (by decide) (fun _ => ?_) (fun h => absurd h (by decide))
          refine z_iload (pc := 119) hO 0 dX12_product_119 rfl ?_
          refine z_if_eq (pc := 121) hO (tgt := 133) dX12_product_121 (by decide) (by decide) (fun _ => ?_) (fun h => absurd h (by decide))
          refine z_iconst (pc := 133) hO dX12_product_133 ?_
          refine z_goto (pc := 134) hO (tgt := 138) dX12_product_134 (by decide) ?_
          refine z_callVIm (pc := 138) hO (As := [.int (zi 2)]) (st := []) (c_X12_isFine1 (qL Γ) g x 2 (by first | assumption | omega)) k_X12_63 isO_50 rfl (Nat.le_of_ble_eq_true rfl) (by decide) (by decide) ⟨by decide, by decide⟩ dX12_product_138 (fun m18 e19 => ?_)
          refine z_if_ne (pc := 141) hO (tgt := 146) dX12_product_141 (by decide) (by decide) (fun h => absurd h (by decide)) (fun _ => ?_)
          refine z_iconst (pc := 144) hO dX12_product_144 ?_
          exact z_iret (pc := 145) hO hr hQ rfl dX12_product_145 (by first | (refine ⟨rfl, ?_⟩; first | (rw [exn_1 (by omega)]; assumption) | (rw [exn_2 (by first | trivial | omega) (by omega)]; assumption) | (rw [exn_3 (by first | trivial | omega) (by first | trivial | omega)]; assumption); done) | (exfalso; omega))
    · skip
      refine z_if_eq (pc := 13) hO (tgt := 20) dX12_product_13 (by decide) (by decide) (fun _ => ?_) (fun h => absurd h (by decide))
      refine z_iconst (pc := 20) hO dX12_product_20 ?_
      refine z_istore_n (pc := 21) hO (lv' := [(3, .int (zi 0)), (0, .ref (gA g 50)), (1, .int (zi q)), (2, .int (zi r))]) dX12_product_21 rfl (by decide) rfl ?_
      refine z_iload_n (pc := 22) hO 0 dX12_product_22 rfl rfl ?_
      refine z_if_eq (pc := 23) hO (tgt := 70) dX12_product_23 (by decide) (by decide) (fun _ => ?_) (fun h => absurd h (by decide))
      refine z_iconst (pc := 70) hO dX12_product_70 ?_
      refine z_istore (pc := 71) hO (lv' := [(4, .int (zi 0)), (3, .int (zi 0)), (0, .ref (gA g 50)), (1, .int (zi q)), (2, .int (zi r))]) dX12_product_71 (by decide) rfl ?_
      refine z_iload (pc := 73) hO 0 dX12_product_73 rfl ?_
      refine z_if_eq (pc := 75) hO (tgt := 107) dX12_product_75 (by decide) (by decide) (fun _ => ?_) (fun h => absurd h (by decide))
      refine z_iconst (pc := 107) hO dX12_product_107 ?_
      refine z_istore (pc := 108) hO (lv' := [(4, .int (zi 0)), (3, .int (zi 0)), (0, .ref (gA g 50)), (1, .int (zi q)), (2, .int (zi r))]) dX12_product_108 (by decide) rfl ?_
      refine z_aload_n (pc := 110) hO 2 dX12_product_110 rfl rfl ?_
      refine z_iload_n (pc := 111) hO 1 dX12_product_111 rfl rfl ?_
      refine z_if_ne (pc := 112) hO (tgt := 119) dX12_product_112 (by decide) (by decide) (fun h => absurd h (by decide)) (fun _ => ?_)
      refine z_iconst (pc := 115) hO dX12_product_115 ?_
      refine z_goto (pc := 116) hO (tgt := 138) dX12_product_116 (by decide) ?_
      refine z_callVIm (pc := 138) hO (As := [.int (zi 1)]) (st := []) (c_X12_isFine1 (qL Γ) g x 1 (by first | assumption | omega)) k_X12_63 isO_50 rfl (Nat.le_of_ble_eq_true rfl) (by decide) (by decide) ⟨by decide, by decide⟩ dX12_product_138 (fun m20 e21 => ?_)
      refine z_if_ne (pc := 141) hO (tgt := 146) dX12_product_141 (by decide) (by decide) (fun h => absurd h (by decide)) (fun _ => ?_)
      refine z_iconst (pc := 144) hO dX12_product_144 ?_
      exact z_iret (pc := 145) hO hr hQ rfl dX12_product_145 (by first | (refine ⟨rfl, ?_⟩; first | (rw [exn_1 (by omega)]; assumption) | (rw [exn_2 (by first | trivial | omega) (by omega)]; assumption) | (rw [exn_3 (by first | trivial | omega) (by first | trivial | omega)]; assumption); done) | (exfalso; omega))
  · skip
    refine z_if_eq (pc := 5) hO (tgt := 20) dX12_product_5 (by decide) (by decide) (fun _ => ?_) (fun h => absurd h (by decide))
    refine z_iconst (pc := 20) hO dX12_product_20 ?_
    refine z_istore_n (pc := 21) hO (lv' := [(3, .int (zi 0)), (0, .ref (gA g 50)), (1, .int (zi q)), (2, .int (zi r))]) dX12_product_21 rfl (by decide) rfl ?_
    refine z_iload_n (pc := 22) hO 0 dX12_product_22 rfl rfl ?_
    refine z_if_eq (pc := 23) hO (tgt := 70) dX12_product_23 (by decide) (by decide) (fun _ => ?_) (fun h => absurd h (by decide))
    refine z_iconst (pc := 70) hO dX12_product_70 ?_
    refine z_istore (pc := 71) hO (lv' := [(4, .int (zi 0)), (3, .int (zi 0)), (0, .ref (gA g 50)), (1, .int (zi q)), (2, .int (zi r))]) dX12_product_71 (by decide) rfl ?_
    refine z_iload (pc := 73) hO 0 dX12_product_73 rfl ?_
    refine z_if_eq (pc := 75) hO (tgt := 107) dX12_product_75 (by decide) (by decide) (fun _ => ?_) (fun h => absurd h (by decide))
    refine z_iconst (pc := 107) hO dX12_product_107 ?_
    refine z_istore (pc := 108) hO (lv' := [(4, .int (zi 0)), (3, .int (zi 0)), (0, .ref (gA g 50)), (1, .int (zi q)), (2, .int (zi r))]) dX12_product_108 (by decide) rfl ?_
    refine z_aload_n (pc := 110) hO 2 dX12_product_110 rfl rfl ?_
    refine z_iload_n (pc := 111) hO 1 dX12_product_111 rfl rfl ?_
    refine z_if_ne (pc := 112) hO (tgt := 119) dX12_product_112 (by decide) (by decide) (fun h => absurd h (by decide)) (fun _ => ?_)
    refine z_iconst (pc := 115) hO dX12_product_115 ?_
    refine z_goto (pc := 116) hO (tgt := 138) dX12_product_116 (by decide) ?_
    refine z_callVIm (pc := 138) hO (As := [.int (zi 1)]) (st := []) (c_X12_isFine1 (qL Γ) g x 1 (by first | assumption | omega)) k_X12_63 isO_50 rfl (Nat.le_of_ble_eq_true rfl) (by decide) (by decide) ⟨by decide, by decide⟩ dX12_product_138 (fun m22 e23 => ?_)
    refine z_if_ne (pc := 141) hO (tgt := 146) dX12_product_141 (by decide) (by decide) (fun h => absurd h (by decide)) (fun _ => ?_)
    refine z_iconst (pc := 144) hO dX12_product_144 ?_
    exact z_iret (pc := 145) hO hr hQ rfl dX12_product_145 (by first | (refine ⟨rfl, ?_⟩; first | (rw [exn_1 (by omega)]; assumption) | (rw [exn_2 (by first | trivial | omega) (by omega)]; assumption) | (rw [exn_3 (by first | trivial | omega) (by first | trivial | omega)]; assumption); done) | (exfalso; omega))

set_option maxHeartbeats 600000 in
theorem c_X12_product (l : Launch) (g : Gl) (x : Me) (q : Int) (r : Int)  (hM : MS x) (r_q : -2147483648 ≤ q ∧ q < 2147483648) (r_r : -2147483648 ≤ r ∧ r < 2147483648) (hok : ((0 ≤ q ∧ q < x 50 1) ∧ 0 ≤ r ∧ r < x 50 1) ∧ ((x 51 q * x 51 r ≤ 9 ∧ WI (x 51 q) (nd x q) 999 ∧ WI (x 51 r) (nd x r) 999 ∧ x 51 r * x 51 r * (hig (nd x q) (x 51 q * x 51 q).toNat - 1) + hig (nd x r) (x 51 r * x 51 r).toNat ≤ 999) ∧ x 50 1 < 8)) : ctQ l g yX12_product cX12_product 10 (some .int) 3 66 [.ref (gA g 50), .int (zi q), .int (zi r)] x (QIu g (fun z x' => z = x 50 1 ∧ NM x x' (x 51 q * x 51 r) (prd (x 51 q) (x 51 r) (nd x q) (nd x r)))) := by
  refine ct_start (own := RX12) (lv := [(0, .ref (gA g 50)), (1, .int (zi q)), (2, .int (zi r))]) (plainFor_of_name (by decide)) rfl (Nat.le_of_ble_eq_true rfl) rfl ?_
  intro Γ hΓ hO hr hQ _
  have hM1 := hM.1
  refine z_aload_n (pc := 0) hO 0 dX12_product_0 rfl rfl ?_
  refine z_iload_n (pc := 1) hO 1 dX12_product_1 rfl rfl ?_
  refine z_callVB (pc := 2) hO (As := [.int (zi q)]) (st := []) (c_X12_isSquare (qL Γ) g x q (by first | assumption | omega) (by first | assumption | omega)) k_X12_59 isO_50 rfl (Nat.le_of_ble_eq_true rfl) (by decide) (by decide) ⟨by decide, by decide⟩ dX12_product_2 (fun pb1 => ?_) (fun pb1 => ?_)
  · skip
    refine z_if_eq (pc := 5) hO (tgt := 20) dX12_product_5 (by decide) (by decide) (fun h => absurd h (by decide)) (fun _ => ?_)
    refine z_aload_n (pc := 8) hO 0 dX12_product_8 rfl rfl ?_
    refine z_iload_n (pc := 9) hO 2 dX12_product_9 rfl rfl ?_
    refine z_callVB (pc := 10) hO (As := [.int (zi r)]) (st := []) (c_X12_isSquare (qL Γ) g x r (by first | assumption | omega) (by first | assumption | omega)) k_X12_59 isO_50 rfl (Nat.le_of_ble_eq_true rfl) (by decide) (by decide) ⟨by decide, by decide⟩ dX12_product_10 (fun pb2 => ?_) (fun pb2 => ?_)
    · skip
      refine z_if_eq (pc := 13) hO (tgt := 20) dX12_product_13 (by decide) (by decide) (fun h => absurd h (by decide)) (fun _ => ?_)
      refine z_iconst (pc := 16) hO dX12_product_16 ?_
      refine z_goto (pc := 17) hO (tgt := 21) dX12_product_17 (by decide) ?_
      refine z_istore_n (pc := 21) hO (lv' := [(3, .int (zi 1)), (0, .ref (gA g 50)), (1, .int (zi q)), (2, .int (zi r))]) dX12_product_21 rfl (by decide) rfl ?_
      refine z_iload_n (pc := 22) hO 0 dX12_product_22 rfl rfl ?_
      refine z_if_eq (pc := 23) hO (tgt := 70) dX12_product_23 (by decide) (by decide) (fun h => absurd h (by decide)) (fun _ => ?_)
      have hs1 := (hM.2 q (by omega) (by omega)).2.1
      have hq1 := (hM.2 q (by omega) (by omega)).1
      have hs2 := (hM.2 r (by omega) (by omega)).2.1
      have hq2 := (hM.2 r (by omega) (by omega)).1
      have hnm1 : 1 ≤ x 51 q * x 51 r := by have := Int.mul_le_mul hs1.1 hs2.1 (by omega) (by omega); omega
      have hnm81 : x 51 q * x 51 r ≤ 81 := by have := Int.mul_le_mul hs1.2 hs2.2 (by omega) (by omega); omega
      refine z_aload_n (pc := 26) hO 1 dX12_product_26 rfl rfl ?_
      refine gf_X12_sideOf (pc := 27) hO f_X12_7 dX12_product_27 ?_
      refine z_iload_n (pc := 30) hO 2 dX12_product_30 rfl rfl ?_
      refine z_iald (pc := 31) hO isI_51 (by omega) dX12_product_31 ?_
      refine z_aload_n (pc := 32) hO 1 dX12_product_32 rfl rfl ?_
      refine gf_X12_sideOf (pc := 33) hO f_X12_7 dX12_product_33 ?_
      refine z_iload_n (pc := 36) hO 3 dX12_product_36 rfl rfl ?_
      refine z_iald (pc := 37) hO isI_51 (by omega) dX12_product_37 ?_
      refine z_imul (pc := 38) hO dX12_product_38 ?_
      refine z_bipush (pc := 39) hO dX12_product_39 (by decide) ?_
      refine z_icmp_gt (pc := 41) hO (tgt := 70) dX12_product_41 (by decide) (by omega) (by omega) (fun b3 => ?_) (fun b3 => ?_)
      · refine z_iconst (pc := 70) hO dX12_product_70 ?_
        refine z_istore (pc := 71) hO (lv' := [(4, .int (zi 0)), (3, .int (zi 1)), (0, .ref (gA g 50)), (1, .int (zi q)), (2, .int (zi r))]) dX12_product_71 (by decide) rfl ?_
        refine z_iload (pc := 73) hO 0 dX12_product_73 rfl ?_
        refine z_if_eq (pc := 75) hO (tgt := 107) dX12_product_75 (by decide) (by decide) (fun _ => ?_) (fun h => absurd h (by decide))
        refine z_iconst (pc := 107) hO dX12_product_107 ?_
        refine z_istore (pc := 108) hO (lv' := [(4, .int (zi 0)), (3, .int (zi 1)), (0, .ref (gA g 50)), (1, .int (zi q)), (2, .int (zi r))]) dX12_product_108 (by decide) rfl ?_
        refine z_aload_n (pc := 110) hO 2 dX12_product_110 rfl rfl ?_
        refine z_iload_n (pc := 111) hO 1 dX12_product_111 rfl rfl ?_
        refine z_if_ne (pc := 112) hO (tgt := 119) dX12_product_112 (by decide) (by decide) (fun _ => ?_) (fun h => absurd h (by decide))
        refine z_iload (pc := 119) hO 0 dX12_product_119 rfl ?_
        refine z_if_eq (pc := 121) hO (tgt := 133) dX12_product_121 (by decide) (by decide) (fun _ => ?_) (fun h => absurd h (by decide))
        refine z_iconst (pc := 133) hO dX12_product_133 ?_
        refine z_goto (pc := 134) hO (tgt := 138) dX12_product_134 (by decide) ?_
        refine z_callVIm (pc := 138) hO (As := [.int (zi 2)]) (st := []) (c_X12_isFine1 (qL Γ) g x 2 (by first | assumption | omega)) k_X12_63 isO_50 rfl (Nat.le_of_ble_eq_true rfl) (by decide) (by decide) ⟨by decide, by decide⟩ dX12_product_138 (fun m4 e5 => ?_)
        refine z_if_ne (pc := 141) hO (tgt := 146) dX12_product_141 (by decide) (by decide) (fun h => absurd h (by decide)) (fun _ => ?_)
        refine z_iconst (pc := 144) hO dX12_product_144 ?_
        exact z_iret (pc := 145) hO hr hQ rfl dX12_product_145 (by first | (refine ⟨by rw [hly.1, hfr 50 (by omega), up_n _ _ (by omega)], LY_NM hly.2 (by rw [hfr 50 (by omega), up_s]) (by rw [hfr 50 (by omega), up_n _ _ (by omega)]) (by rw [hfr 51 (by omega), up_i _ _ _ (by omega)]) (by rw [hfr 52 (by omega), up_i _ _ _ (by omega)]) (n53_eq (fun p a c => dite (p < (x 51 q * x 51 r) * (x 51 q * x 51 r)) (fun e => hA p a (by omega)) (fun e => by rw [hB p (by omega) c]; unfold prd; rw [if_neg (by omega)])) (fun p a => by unfold prd; exact if_neg (by omega))) (fun p a => by unfold prd; exact if_neg (by omega)) (fun a ha => by rw [hfr a (by omega), up_i _ _ _ (by omega)])⟩; done) | (exfalso; omega))
      · refine z_aload_n (pc := 44) hO 1 dX12_product_44 rfl rfl ?_
        refine z_iload_n (pc := 45) hO 2 dX12_product_45 rfl rfl ?_
        refine z_sipush (pc := 46) hO dX12_product_46 (by decide) ?_
        refine z_callVB (pc := 49) hO (As := [.int (zi q), .int (zi 999)]) (st := []) (c_X12_isWithin (qL Γ) g x q 999 (by exact hM.2 q (by omega) (by omega)) (by first | assumption | omega)) k_X12_199 isO_50 rfl (Nat.le_of_ble_eq_true rfl) (by decide) (by decide) ⟨by decide, by decide⟩ dX12_product_49 (fun pb6 => ?_) (fun pb6 => ?_)
        · skip
          refine z_if_eq (pc := 52) hO (tgt := 70) dX12_product_52 (by decide) (by decide) (fun h => absurd h (by decide)) (fun _ => ?_)
          refine z_aload_n (pc := 55) hO 1 dX12_product_55 rfl rfl ?_
          refine z_iload_n (pc := 56) hO 3 dX12_product_56 rfl rfl ?_
          refine z_sipush (pc := 57) hO dX12_product_57 (by decide) ?_
          refine z_callVB (pc := 60) hO (As := [.int (zi r), .int (zi 999)]) (st := []) (c_X12_isWithin (qL Γ) g x r 999 (by exact hM.2 r (by omega) (by omega)) (by first | assumption | omega)) k_X12_199 isO_50 rfl (Nat.le_of_ble_eq_true rfl) (by decide) (by decide) ⟨by decide, by decide⟩ dX12_product_60 (fun pb7 => ?_) (fun pb7 => ?_)
          · skip
            refine z_if_eq (pc := 63) hO (tgt := 70) dX12_product_63 (by decide) (by decide) (fun h => absurd h (by decide)) (fun _ => ?_)
            refine z_iconst (pc := 66) hO dX12_product_66 ?_
            refine z_goto (pc := 67) hO (tgt := 71) dX12_product_67 (by decide) ?_
            refine z_istore (pc := 71) hO (lv' := [(4, .int (zi 1)), (3, .int (zi 1)), (0, .ref (gA g 50)), (1, .int (zi q)), (2, .int (zi r))]) dX12_product_71 (by decide) rfl ?_
            refine z_iload (pc := 73) hO 0 dX12_product_73 rfl ?_
            refine z_if_eq (pc := 75) hO (tgt := 107) dX12_product_75 (by decide) (by decide) (fun h => absurd h (by decide)) (fun _ => ?_)
            have hsqr0 := sq9 hs2
            have hh1 := hig_r (nd_rng (hM.2 q (by omega) (by omega))) (x 51 q * x 51 q).toNat
            have hh2 := hig_r (nd_rng (hM.2 r (by omega) (by omega))) (x 51 r * x 51 r).toNat
            have hmb := mulb (a := x 51 r * x 51 r) (v := hig (nd x q) (x 51 q * x 51 q).toNat) (by omega) hh1
            refine z_aload_n (pc := 78) hO 2 dX12_product_78 rfl rfl ?_
            refine z_iload_n (pc := 79) hO 4 dX12_product_79 rfl rfl ?_
            refine z_callVIp (pc := 80) hO (As := [.int (zi r)]) (st := []) (c_X12_areaOf (qL Γ) g x r (by exact hM.2 r (by omega) (by omega))) k_X12_100 isO_50 rfl (Nat.le_of_ble_eq_true rfl) (by decide) (by decide) ⟨by decide, by decide⟩ dX12_product_80 ?_
            refine z_aload_n (pc := 83) hO 2 dX12_product_83 rfl rfl ?_
            refine z_iload_n (pc := 84) hO 3 dX12_product_84 rfl rfl ?_
            refine z_callVIp (pc := 85) hO (As := [.int (zi q)]) (st := [.int (zi (x 51 r * x 51 r))]) (c_X12_greatest (qL Γ) g x q (by exact hM.2 q (by omega) (by omega))) k_X12_202 isO_50 rfl (Nat.le_of_ble_eq_true rfl) (by decide) (by decide) ⟨by decide, by decide⟩ dX12_product_85 ?_
            refine z_iconst (pc := 88) hO dX12_product_88 ?_
            refine z_isub (pc := 89) hO dX12_product_89 ?_
            refine z_imul (pc := 90) hO dX12_product_90 ?_
            refine z_aload_n (pc := 91) hO 2 dX12_product_91 rfl rfl ?_
            refine z_iload_n (pc := 92) hO 4 dX12_product_92 rfl rfl ?_
            refine z_callVIp (pc := 93) hO (As := [.int (zi r)]) (st := [.int (zi ((x 51 r * x 51 r) * ((hig (nd x q) (x 51 q * x 51 q).toNat) - 1)))]) (c_X12_greatest (qL Γ) g x r (by exact hM.2 r (by omega) (by omega))) k_X12_202 isO_50 rfl (Nat.le_of_ble_eq_true rfl) (by decide) (by decide) ⟨by decide, by decide⟩ dX12_product_93 ?_
            refine z_iadd (pc := 96) hO dX12_product_96 ?_
            refine z_sipush (pc := 97) hO dX12_product_97 (by decide) ?_
            refine z_icmp_gt (pc := 100) hO (tgt := 107) dX12_product_100 (by decide) (by omega) (by omega) (fun b8 => ?_) (fun b8 => ?_)
            · refine z_iconst (pc := 107) hO dX12_product_107 ?_
              refine z_istore (pc := 108) hO (lv' := [(4, .int (zi 0)), (3, .int (zi 1)), (0, .ref (gA g 50)), (1, .int (zi q)), (2, .int (zi r))]) dX12_product_108 (by decide) rfl ?_
              refine z_aload_n (pc := 110) hO 2 dX12_product_110 rfl rfl ?_
              refine z_iload_n (pc := 111) hO 1 dX12_product_111 rfl rfl ?_
              refine z_if_ne (pc := 112) hO (tgt := 119) dX12_product_112 (by decide) (by decide) (fun _ => ?_) (fun h => absurd h (by decide))
              refine z_iload (pc := 119) hO 0 dX12_product_119 rfl ?_
              refine z_if_eq (pc := 121) hO (tgt := 133) dX12_product_121 (by decide) (by decide) (fun _ => ?_) (fun h => absurd h (by decide))
              refine z_iconst (pc := 133) hO dX12_product_133 ?_
              refine z_goto (pc := 134) hO (tgt := 138) dX12_product_134 (by decide) ?_
              refine z_callVIm (pc := 138) hO (As := [.int (zi 2)]) (st := []) (c_X12_isFine1 (qL Γ) g x 2 (by first | assumption | omega)) k_X12_63 isO_50 rfl (Nat.le_of_ble_eq_true rfl) (by decide) (by decide) ⟨by decide, by decide⟩ dX12_product_138 (fun m9 e10 => ?_)
              refine z_if_ne (pc := 141) hO (tgt := 146) dX12_product_141 (by decide) (by decide) (fun h => absurd h (by decide)) (fun _ => ?_)
              refine z_iconst (pc := 144) hO dX12_product_144 ?_
              exact z_iret (pc := 145) hO hr hQ rfl dX12_product_145 (by first | (refine ⟨by rw [hly.1, hfr 50 (by omega), up_n _ _ (by omega)], LY_NM hly.2 (by rw [hfr 50 (by omega), up_s]) (by rw [hfr 50 (by omega), up_n _ _ (by omega)]) (by rw [hfr 51 (by omega), up_i _ _ _ (by omega)]) (by rw [hfr 52 (by omega), up_i _ _ _ (by omega)]) (n53_eq (fun p a c => dite (p < (x 51 q * x 51 r) * (x 51 q * x 51 r)) (fun e => hA p a (by omega)) (fun e => by rw [hB p (by omega) c]; unfold prd; rw [if_neg (by omega)])) (fun p a => by unfold prd; exact if_neg (by omega))) (fun p a => by unfold prd; exact if_neg (by omega)) (fun a ha => by rw [hfr a (by omega), up_i _ _ _ (by omega)])⟩; done) | (exfalso; omega))
            · refine z_iconst (pc := 103) hO dX12_product_103 ?_
              refine z_goto (pc := 104) hO (tgt := 108) dX12_product_104 (by decide) ?_
              refine z_istore (pc := 108) hO (lv' := [(4, .int (zi 1)), (3, .int (zi 1)), (0, .ref (gA g 50)), (1, .int (zi q)), (2, .int (zi r))]) dX12_product_108 (by decide) rfl ?_
              refine z_aload_n (pc := 110) hO 2 dX12_product_110 rfl rfl ?_
              refine z_iload_n (pc := 111) hO 1 dX12_product_111 rfl rfl ?_
              refine z_if_ne (pc := 112) hO (tgt := 119) dX12_product_112 (by decide) (by decide) (fun _ => ?_) (fun h => absurd h (by decide))
              refine z_iload (pc := 119) hO 0 dX12_product_119 rfl ?_
              refine z_if_eq (pc := 121) hO (tgt := 133) dX12_product_121 (by decide) (by decide) (fun h => absurd h (by decide)) (fun _ => ?_)
              refine z_aload_n (pc := 124) hO 2 dX12_product_124 rfl rfl ?_
              refine gf_X12_squares (pc := 125) hO f_X12_52 dX12_product_125 ?_
              refine z_bipush (pc := 128) hO dX12_product_128 (by decide) ?_
              refine z_icmp_ne (pc := 130) hO (tgt := 137) dX12_product_130 (by decide) (by omega) (by omega) (fun b11 => ?_) (fun b11 => ?_)
              · refine z_iconst (pc := 137) hO dX12_product_137 ?_
                refine z_callVIm (pc := 138) hO (As := [.int (zi 0)]) (st := []) (c_X12_isFine0 (qL Γ) g x 0 (by first | assumption | omega)) k_X12_63 isO_50 rfl (Nat.le_of_ble_eq_true rfl) (by decide) (by decide) ⟨by decide, by decide⟩ dX12_product_138 (fun m12 e13 => ?_)
                refine z_if_ne (pc := 141) hO (tgt := 146) dX12_product_141 (by decide) (by decide) (fun _ => ?_) (fun h => absurd h (by decide))
                have hG := hM.2 q (by omega) (by omega)
                have hs := hG.2.1
                have hth : m12 = up x 50 0 0 := by assumption
                have e51 : m12 51 q = x 51 q := by rw [hth, up_i _ _ _ (by omega)]
                have end_ : nd m12 q = nd x q := by funext p; rw [hth]; exact nd_th
                have hGr := hM.2 r (by omega) (by omega)
                have hrs := hGr.2.1
                have e51r : m12 51 r = x 51 r := by rw [hth, up_i _ _ _ (by omega)]
                have endr : nd m12 r = nd x r := by funext p; rw [hth]; exact nd_th
                have hsr : 1 ≤ x 51 r ∧ x 51 r ≤ 9 := hrs
                have hsq := sq9 hs
                have hsqr := sq9 hrs
                have hN := nd_rng hG
                have hNr := nd_rng hGr
                have h9t := sq9 (n := x 51 q * x 51 r) (by omega)
                refine z_aload_n (pc := 146) hO 2 dX12_product_146 rfl rfl ?_
                refine gf_X12_sideOf (pc := 147) hO f_X12_7 dX12_product_147 ?_
                refine z_iload_n (pc := 150) hO 4 dX12_product_150 rfl rfl ?_
                refine z_iald (pc := 151) hO isI_51 (by omega) dX12_product_151 ?_
                rw [e51r]
                refine z_istore (pc := 152) hO (lv' := [(5, .int (zi (x 51 r))), (4, .int (zi 1)), (3, .int (zi 1)), (0, .ref (gA g 50)), (1, .int (zi q)), (2, .int (zi r))]) dX12_product_152 (by decide) rfl ?_
                refine z_aload_n (pc := 154) hO 3 dX12_product_154 rfl rfl ?_
                refine gf_X12_sideOf (pc := 155) hO f_X12_7 dX12_product_155 ?_
                refine z_iload_n (pc := 158) hO 4 dX12_product_158 rfl rfl ?_
                refine z_iald (pc := 159) hO isI_51 (by omega) dX12_product_159 ?_
                rw [e51]
                refine z_iload (pc := 160) hO 0 dX12_product_160 rfl ?_
                refine z_imul (pc := 162) hO dX12_product_162 ?_
                refine z_istore (pc := 163) hO (lv' := [(6, .int (zi ((x 51 q) * (x 51 r)))), (5, .int (zi (x 51 r))), (4, .int (zi 1)), (3, .int (zi 1)), (0, .ref (gA g 50)), (1, .int (zi q)), (2, .int (zi r))]) dX12_product_163 (by decide) rfl ?_
                refine z_aload_n (pc := 165) hO 4 dX12_product_165 rfl rfl ?_
                refine z_callVV (pc := 166) hO (As := []) (st := []) (c_X12_wipe (qL Γ) g m12 ) k_X12_66 isO_50 rfl (Nat.le_of_ble_eq_true rfl) (by decide) (by decide) ⟨by decide, by decide⟩ dX12_product_166 (fun m15 h16 => ?_)
                rw [hth] at h16
                have hw2 : ∀ a, a ≠ 53 → m15 a = up x 50 0 0 a := fun a ha => by rw [h16]; exact clr_i _ 53 81 ha
                have hw3 : ∀ p, 0 ≤ p → p < 81 → m15 53 p = 0 := fun p a b => by rw [h16]; unfold clr; rw [if_pos ⟨rfl, a, b⟩]
                refine z_iconst (pc := 169) hO dX12_product_169 ?_
                refine z_istore (pc := 170) hO (lv' := [(7, .int (zi 0)), (6, .int (zi ((x 51 q) * (x 51 r)))), (5, .int (zi (x 51 r))), (4, .int (zi 1)), (3, .int (zi 1)), (0, .ref (gA g 50)), (1, .int (zi q)), (2, .int (zi r))]) dX12_product_170 (by decide) rfl ?_
                have L172 : ∀ (N : Nat) (i : Int) (y : Me), ((x 51 q * x 51 r) * (x 51 q * x 51 r) - i).toNat < N → (0 ≤ i ∧ i ≤ (x 51 q * x 51 r) * (x 51 q * x 51 r)) → (∀ p, 0 ≤ p → p < i → y 53 p = (prd (x 51 q) (x 51 r) (nd x q) (nd x r)) p) → (∀ p, i ≤ p → p < 81 → y 53 p = 0) → (∀ a, a ≠ 53 → y a = up x 50 0 0 a) → Zz Γ g 10 0 0 y 172 [(0, .ref (gA g 50)), (1, .int (zi q)), (2, .int (zi r)), (3, .int (zi 1)), (4, .int (zi 1)), (5, .int (zi (x 51 r))), (6, .int (zi ((x 51 q) * (x 51 r)))), (7, .int (zi i))] [] := by
                  intro N
                  induction N with
                  | zero => intro i y hm; exact absurd hm (Nat.not_lt_zero _)
                  | succ N ih172 =>
                    intro i y hm h0 hA hB hfr
                    have y51 : y 51 = x 51 := by rw [hfr 51 (by omega), up_i _ _ _ (by omega)]
                    have y52 : y 52 = x 52 := by rw [hfr 52 (by omega), up_i _ _ _ (by omega)]
                    have hGy := MG_of hG y51 y52
                    have hGry := MG_of hGr y51 y52
                    have y51q : y 51 q = x 51 q := by rw [y51]
                    have y51r : y 51 r = x 51 r := by rw [y51]
                    refine z_iload (pc := 172) hO 7 dX12_product_172 rfl ?_
                    refine z_iload (pc := 174) hO 6 dX12_product_174 rfl ?_
                    refine z_iload (pc := 176) hO 6 dX12_product_176 rfl ?_
                    refine z_imul (pc := 178) hO dX12_product_178 ?_
                    refine z_icmp_ge (pc := 179) hO (tgt := 248) dX12_product_179 (by decide) (by omega) (by omega) (fun b17 => ?_) (fun b17 => ?_)
                    · refine z_aload_n (pc := 248) hO 0 dX12_product_248 rfl rfl ?_
                      refine z_iload (pc := 249) hO 6 dX12_product_249 rfl ?_
                      refine z_callVI (pc := 251) hO (As := [.int (zi ((x 51 q) * (x 51 r)))]) (st := []) (c_X12_lay (qL Γ) g y ((x 51 q) * (x 51 r)) (by exact MS_of hM (by rw [hfr 50 (by omega), up_n _ _ (by omega)]) (by rw [hfr 51 (by omega), up_i _ _ _ (by omega)]) (by rw [hfr 52 (by omega), up_i _ _ _ (by omega)])) (by rw [hfr 50 (by omega), up_n _ _ (by omega)]; omega) (by omega)) k_X12_69 isO_50 rfl (Nat.le_of_ble_eq_true rfl) (by decide) (by decide) ⟨by decide, by decide⟩ dX12_product_251 (fun z18 m19 h20 => ?_)
                      have hly := h20
                      exact z_iret (pc := 254) hO hr hQ rfl dX12_product_254 (by first | (refine ⟨by rw [hly.1, hfr 50 (by omega), up_n _ _ (by omega)], LY_NM hly.2 (by rw [hfr 50 (by omega), up_s]) (by rw [hfr 50 (by omega), up_n _ _ (by omega)]) (by rw [hfr 51 (by omega), up_i _ _ _ (by omega)]) (by rw [hfr 52 (by omega), up_i _ _ _ (by omega)]) (n53_eq (fun p a c => dite (p < (x 51 q * x 51 r) * (x 51 q * x 51 r)) (fun e => hA p a (by omega)) (fun e => by rw [hB p (by omega) c]; unfold prd; rw [if_neg (by omega)])) (fun p a => by unfold prd; exact if_neg (by omega))) (fun p a => by unfold prd; exact if_neg (by omega)) (fun a ha => by rw [hfr a (by omega), up_i _ _ _ (by omega)])⟩; done) | (exfalso; omega))
                    · have hrc := rc9 (n := x 51 q * x 51 r) (p := i) (by omega) (by omega)
                      have hpb := prd_b (n := x 51 q) (m := x 51 r) (r := i / (x 51 q * x 51 r)) (c := i % (x 51 q * x 51 r)) hs1 hs2 (by omega) (by omega)
                      refine z_iload (pc := 182) hO 7 dX12_product_182 rfl ?_
                      refine z_iload (pc := 184) hO 6 dX12_product_184 rfl ?_
                      refine z_idiv (pc := 186) hO dX12_product_186 (by omega) (by omega) ?_
                      refine z_istore (pc := 187) hO (lv' := [(8, .int (zi (i / ((x 51 q) * (x 51 r))))), (0, .ref (gA g 50)), (1, .int (zi q)), (2, .int (zi r)), (3, .int (zi 1)), (4, .int (zi 1)), (5, .int (zi (x 51 r))), (6, .int (zi ((x 51 q) * (x 51 r)))), (7, .int (zi i))]) dX12_product_187 (by decide) rfl ?_
                      refine z_iload (pc := 189) hO 8 dX12_product_189 rfl ?_
                      refine z_iload (pc := 191) hO 7 dX12_product_191 rfl ?_
                      refine z_irem (pc := 193) hO dX12_product_193 (by omega) (by omega) ?_
                      refine z_istore (pc := 194) hO (lv' := [(9, .int (zi (i % ((x 51 q) * (x 51 r))))), (8, .int (zi (i / ((x 51 q) * (x 51 r))))), (0, .ref (gA g 50)), (1, .int (zi q)), (2, .int (zi r)), (3, .int (zi 1)), (4, .int (zi 1)), (5, .int (zi (x 51 r))), (6, .int (zi ((x 51 q) * (x 51 r)))), (7, .int (zi i))]) dX12_product_194 (by decide) rfl ?_
                      refine z_aload_n (pc := 196) hO 2 dX12_product_196 rfl rfl ?_
                      refine gf_X12_made (pc := 197) hO f_X12_16 dX12_product_197 ?_
                      refine z_iload (pc := 200) hO 9 dX12_product_200 rfl ?_
                      refine z_iload (pc := 202) hO 7 dX12_product_202 rfl ?_
                      refine z_iload (pc := 204) hO 7 dX12_product_204 rfl ?_
                      refine z_imul (pc := 206) hO dX12_product_206 ?_
                      refine z_aload_n (pc := 207) hO 2 dX12_product_207 rfl rfl ?_
                      refine z_iload_n (pc := 208) hO 3 dX12_product_208 rfl rfl ?_
                      refine z_iload (pc := 209) hO 1 dX12_product_209 rfl ?_
                      refine z_iload (pc := 211) hO 7 dX12_product_211 rfl ?_
                      refine z_idiv (pc := 213) hO dX12_product_213 (by omega) (by omega) ?_
                      refine z_iload (pc := 214) hO 0 dX12_product_214 rfl ?_
                      refine z_iload (pc := 216) hO 7 dX12_product_216 rfl ?_
                      refine z_idiv (pc := 218) hO dX12_product_218 (by omega) (by omega) ?_
                      refine z_callVIp (pc := 219) hO (As := [.int (zi q), .int (zi ((i / ((x 51 q) * (x 51 r))) / (x 51 r))), .int (zi ((i % ((x 51 q) * (x 51 r))) / (x 51 r)))]) (st := [.int (zi ((x 51 r) * (x 51 r))), .int (zi i), .ref (gA g 53)]) (c_X12_numberAt (qL Γ) g y q ((i / ((x 51 q) * (x 51 r))) / (x 51 r)) ((i % ((x 51 q) * (x 51 r))) / (x 51 r)) (by exact hGy) (by rw [y51q]; exact ⟨hpb.1, hpb.2.1⟩)) k_X12_76 isO_50 rfl (Nat.le_of_ble_eq_true rfl) (by decide) (by decide) ⟨by decide, by decide⟩ dX12_product_219 ?_
                      refine z_iconst (pc := 222) hO dX12_product_222 ?_
                      refine z_isub (pc := 223) hO dX12_product_223 ?_
                      refine z_imul (pc := 224) hO dX12_product_224 ?_
                      refine z_aload_n (pc := 225) hO 2 dX12_product_225 rfl rfl ?_
                      refine z_iload_n (pc := 226) hO 4 dX12_product_226 rfl rfl ?_
                      refine z_iload (pc := 227) hO 1 dX12_product_227 rfl ?_
                      refine z_iload (pc := 229) hO 7 dX12_product_229 rfl ?_
                      refine z_irem (pc := 231) hO dX12_product_231 (by omega) (by omega) ?_
                      refine z_iload (pc := 232) hO 0 dX12_product_232 rfl ?_
                      refine z_iload (pc := 234) hO 7 dX12_product_234 rfl ?_
                      refine z_irem (pc := 236) hO dX12_product_236 (by omega) (by omega) ?_
                      refine z_callVIp (pc := 237) hO (As := [.int (zi r), .int (zi ((i / ((x 51 q) * (x 51 r))) % (x 51 r))), .int (zi ((i % ((x 51 q) * (x 51 r))) % (x 51 r)))]) (st := [.int (zi (((x 51 r) * (x 51 r)) * ((nd y q (y 51 q * ((i / ((x 51 q) * (x 51 r))) / (x 51 r)) + ((i % ((x 51 q) * (x 51 r))) / (x 51 r)))) - 1))), .int (zi i), .ref (gA g 53)]) (c_X12_numberAt (qL Γ) g y r ((i / ((x 51 q) * (x 51 r))) % (x 51 r)) ((i % ((x 51 q) * (x 51 r))) % (x 51 r)) (by exact hGry) (by rw [y51r]; exact ⟨hpb.2.2.1, hpb.2.2.2.1⟩)) k_X12_76 isO_50 rfl (Nat.le_of_ble_eq_true rfl) (by decide) (by decide) ⟨by decide, by decide⟩ dX12_product_237 ?_
                      refine z_iadd (pc := 240) hO dX12_product_240 ?_
                      rw [show ((((x 51 r) * (x 51 r)) * ((nd y q (y 51 q * ((i / ((x 51 q) * (x 51 r))) / (x 51 r)) + ((i % ((x 51 q) * (x 51 r))) / (x 51 r)))) - 1)) + (nd y r (y 51 r * ((i / ((x 51 q) * (x 51 r))) % (x 51 r)) + ((i % ((x 51 q) * (x 51 r))) % (x 51 r))))) = prd (x 51 q) (x 51 r) (nd x q) (nd x r) i from by unfold prd; rw [if_pos (by omega), y51q, y51r, nd_of y52, nd_of y52]]
                      refine z_iast (pc := 241) hO isI_53 (by omega) dX12_product_241 (fun m21 e22 => ?_)
                      refine z_iinc (pc := 242) hO 9 (lv' := [(7, .int (zi (i + 1))), (9, .int (zi (i % ((x 51 q) * (x 51 r))))), (8, .int (zi (i / ((x 51 q) * (x 51 r))))), (0, .ref (gA g 50)), (1, .int (zi q)), (2, .int (zi r)), (3, .int (zi 1)), (4, .int (zi 1)), (5, .int (zi (x 51 r))), (6, .int (zi ((x 51 q) * (x 51 r))))]) dX12_product_242 rfl (by decide) rfl ?_
                      refine z_goto (pc := 245) hO (tgt := 172) dX12_product_245 (by decide) ?_
                      refine z_sub [3, 4, 5, 6, 7, 8, 9, 0] rfl ?_
                      exact ih172 (i + 1) m21 (by omega) (by omega) (by intro p a c; subst m21; exact dite (p = i) (fun e => by rw [e, up_s]) (fun e => by rw [up_n _ _ (by omega)]; exact hA p a (by omega))) (by intro p a c; subst m21; rw [up_n _ _ (by omega)]; exact hB p (by omega) c) (by intro a ha; subst m21; rw [up_i _ _ _ ha]; exact hfr a ha)
                refine z_sub [5, 6, 7, 4, 3, 2, 1, 0] rfl ?_
                exact L172 _ 0 m15 (Nat.lt_succ_self _) (by omega) (by intro p _ _; omega) (by intro p a c; exact hw3 p a c) (by exact hw2)
              · refine z_iconst (pc := 133) hO dX12_product_133 ?_
                refine z_goto (pc := 134) hO (tgt := 138) dX12_product_134 (by decide) ?_
                refine z_callVIm (pc := 138) hO (As := [.int (zi 2)]) (st := []) (c_X12_isFine1 (qL Γ) g x 2 (by first | assumption | omega)) k_X12_63 isO_50 rfl (Nat.le_of_ble_eq_true rfl) (by decide) (by decide) ⟨by decide, by decide⟩ dX12_product_138 (fun m23 e24 => ?_)
                refine z_if_ne (pc := 141) hO (tgt := 146) dX12_product_141 (by decide) (by decide) (fun h => absurd h (by decide)) (fun _ => ?_)
                refine z_iconst (pc := 144) hO dX12_product_144 ?_
                exact z_iret (pc := 145) hO hr hQ rfl dX12_product_145 (by first | (refine ⟨by rw [hly.1, hfr 50 (by omega), up_n _ _ (by omega)], LY_NM hly.2 (by rw [hfr 50 (by omega), up_s]) (by rw [hfr 50 (by omega), up_n _ _ (by omega)]) (by rw [hfr 51 (by omega), up_i _ _ _ (by omega)]) (by rw [hfr 52 (by omega), up_i _ _ _ (by omega)]) (n53_eq (fun p a c => dite (p < (x 51 q * x 51 r) * (x 51 q * x 51 r)) (fun e => hA p a (by omega)) (fun e => by rw [hB p (by omega) c]; unfold prd; rw [if_neg (by omega)])) (fun p a => by unfold prd; exact if_neg (by omega))) (fun p a => by unfold prd; exact if_neg (by omega)) (fun a ha => by rw [hfr a (by omega), up_i _ _ _ (by omega)])⟩; done) | (exfalso; omega))
          · skip
            exact absurd hok.2.1.2.2.1 pb7
        · skip
          exact absurd hok.2.1.2.1 pb6
    · skip
      exfalso; omega
  · skip
    exfalso; omega

