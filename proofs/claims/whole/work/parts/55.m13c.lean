set_option maxHeartbeats 4000000 in
theorem c_X10_addOpposites (l : Launch) (g : Gl) (x : Me)  (st : List (Int × List Int)) (n : Int) (hS : SP x st) (hn : x 42 4 = n ∧ 1 ≤ n ∧ n ≤ 6) : ctQ l g yX10_addOpposites cX10_addOpposites 3 none 4 93 [.ref (gA g 42)] x (QVu g (fun x' => SP x' (opA n st ((n * n + 1) / 2).toNat) ∧ x' 42 4 = n ∧ ∀ a, a ≠ 42 → a ≠ 44 → a ≠ 45 → ¬ (100 ≤ a ∧ a < 138) → x' a = x a)) := by
  refine ct_start (own := RX10) (lv := [(0, .ref (gA g 42))]) (plainFor_of_name (by decide)) rfl (Nat.le_of_ble_eq_true rfl) rfl ?_
  intro Γ hΓ hO hr hQ _
  have hsq := sq6 hn.2
  obtain ⟨w, hw⟩ : ∃ w, w = n * n := ⟨_, rfl⟩
  rw [← hw] at hsq
  have hww : x 42 4 * x 42 4 = w := by rw [hn.1, hw]
  refine z_aload_n (pc := 0) hO 0 dX10_addOpposites_0 rfl rfl ?_
  refine gf_X10_side (pc := 1) hO f_X10_23 dX10_addOpposites_1 ?_
  refine z_aload_n (pc := 4) hO 0 dX10_addOpposites_4 rfl rfl ?_
  refine gf_X10_side (pc := 5) hO f_X10_23 dX10_addOpposites_5 ?_
  refine z_imul (pc := 8) hO dX10_addOpposites_8 ?_
  rw [hww]
  refine z_iconst (pc := 9) hO dX10_addOpposites_9 ?_
  refine z_isub (pc := 10) hO dX10_addOpposites_10 ?_
  refine z_istore_n (pc := 11) hO (lv' := [(1, .int (zi (w - 1))), (0, .ref (gA g 42))]) dX10_addOpposites_11 rfl (by decide) rfl ?_
  refine z_iconst (pc := 12) hO dX10_addOpposites_12 ?_
  refine z_istore_n (pc := 13) hO (lv' := [(2, .int (zi 0)), (1, .int (zi (w - 1))), (0, .ref (gA g 42))]) dX10_addOpposites_13 rfl (by decide) rfl ?_
  have L14 : ∀ (N : Nat) (i : Int) (y : Me), (w + 1 - i).toNat < N → (0 ≤ i ∧ 2 * i ≤ w + 1) → (SP y (opA n st i.toNat)) → (y 42 4 = n) → (∀ a, a ≠ 42 → a ≠ 44 → a ≠ 45 → ¬ (100 ≤ a ∧ a < 138) → y a = x a) → Zz Γ g 3 0 0 y 14 [(0, .ref (gA g 42)), (1, .int (zi (w - 1))), (2, .int (zi i))] [] := by
    intro N
    induction N with
    | zero => intro i y hm; exact absurd hm (Nat.not_lt_zero _)
    | succ N ih14 =>
      intro i y hm h0 hA hy4 hfr
      refine z_iload_n (pc := 14) hO 2 dX10_addOpposites_14 rfl rfl ?_
      refine z_iload_n (pc := 15) hO 1 dX10_addOpposites_15 rfl rfl ?_
      refine z_iload_n (pc := 16) hO 2 dX10_addOpposites_16 rfl rfl ?_
      refine z_isub (pc := 17) hO dX10_addOpposites_17 ?_
      refine z_icmp_gt (pc := 18) hO (tgt := 57) dX10_addOpposites_18 (by decide) (by omega) (by omega) (fun b1 => ?_) (fun b1 => ?_)
      · exact z_vret (pc := 57) hO hr hQ dX10_addOpposites_57 (by first | (rw [show i.toNat = ((n * n + 1) / 2).toNat by rw [← hw]; omega] at hA; exact ⟨hA, hy4, hfr⟩; done) | (exfalso; omega))
      · refine z_aload_n (pc := 21) hO 0 dX10_addOpposites_21 rfl rfl ?_
        refine z_callVV (pc := 22) hO (As := []) (st := []) (c_X10_clearRow (qL Γ) g y ) k_X10_41 isO_42 rfl (Nat.le_of_ble_eq_true rfl) (by decide) (by decide) ⟨by decide, by decide⟩ dX10_addOpposites_22 (fun m3 h4 => ?_)
        have hV0 := VW_0 h4
        have hc0 := h4
        refine z_aload_n (pc := 25) hO 0 dX10_addOpposites_25 rfl rfl ?_
        refine z_iload_n (pc := 26) hO 2 dX10_addOpposites_26 rfl rfl ?_
        refine z_iconst (pc := 27) hO dX10_addOpposites_27 ?_
        refine z_callVV (pc := 28) hO (As := [.int (zi i), .int (zi 1)]) (st := []) (c_X10_addToRow (qL Γ) g m3 i 1 (by omega)) k_X10_50 isO_42 rfl (Nat.le_of_ble_eq_true rfl) (by decide) (by decide) ⟨by decide, by decide⟩ dX10_addOpposites_28 (fun m6 h7 => ?_)
        have hV1 := VW_up hV0 (by omega) (by omega) (by omega : (0 : Int) + 1 ≤ 1) h7
        have hc1 := h7
        refine z_aload_n (pc := 31) hO 0 dX10_addOpposites_31 rfl rfl ?_
        refine z_iload_n (pc := 32) hO 1 dX10_addOpposites_32 rfl rfl ?_
        refine z_iload_n (pc := 33) hO 2 dX10_addOpposites_33 rfl rfl ?_
        refine z_isub (pc := 34) hO dX10_addOpposites_34 ?_
        refine z_iconst (pc := 35) hO dX10_addOpposites_35 ?_
        refine z_callVV (pc := 36) hO (As := [.int (zi ((w - 1) - i)), .int (zi 1)]) (st := []) (c_X10_addToRow (qL Γ) g m6 ((w - 1) - i) 1 (by omega)) k_X10_50 isO_42 rfl (Nat.le_of_ble_eq_true rfl) (by decide) (by decide) ⟨by decide, by decide⟩ dX10_addOpposites_36 (fun m9 h10 => ?_)
        have hV2 := VW_up hV1 (by omega) (by omega) (by omega : (1 : Int) + 1 ≤ 2) h10
        have hc2 := h10
        refine z_aload_n (pc := 39) hO 0 dX10_addOpposites_39 rfl rfl ?_
        refine z_bipush (pc := 40) hO dX10_addOpposites_40 (by decide) ?_
        refine z_ldc (pc := 42) hO n_X10_53 dX10_addOpposites_42 ?_
        refine z_callVV (pc := 44) hO (As := [.int (zi 37), .int (zi 1000002)]) (st := []) (c_X10_addToRow (qL Γ) g m9 37 1000002 (by omega)) k_X10_50 isO_42 rfl (Nat.le_of_ble_eq_true rfl) (by decide) (by decide) ⟨by decide, by decide⟩ dX10_addOpposites_44 (fun m12 h13 => ?_)
        have hc3 := h13
        have hvm := VM_up hV2 (by omega) (by omega) (by omega) (by have := opA_37 (p := i) hn.2 (by omega); rw [← hw] at this; rw [this]; omega) h13
        have hfq : ∀ a, a ≠ 45 → m12 a = y a := fun a ha => by rw [hc3, up_i _ _ _ ha, hc2, up_i _ _ _ ha, hc1, up_i _ _ _ ha, hc0]; funext b; unfold clr; rw [if_neg (by omega)]
        refine z_aload_n (pc := 47) hO 0 dX10_addOpposites_47 rfl rfl ?_
        refine z_callVV (pc := 48) hO (As := []) (st := []) (c_X10_addRow (qL Γ) g m12 (opR n i) (opA n st i.toNat) (by unfold opR; rw [← hw]; exact hvm) (by refine SP_of hA ?_ ?_ (fun k hk => ?_) <;> rw [hfq _ (by omega)])) k_X10_54 isO_42 rfl (Nat.le_of_ble_eq_true rfl) (by decide) (by decide) ⟨by decide, by decide⟩ dX10_addOpposites_48 (fun m15 h16 => ?_)
        obtain ⟨q1, q2, q3⟩ := h16
        have hy4 : m15 42 4 = n := by rw [q2, hfq 42 (by omega)]; exact hy4
        have hfr : ∀ a, a ≠ 42 → a ≠ 44 → a ≠ 45 → ¬ (100 ≤ a ∧ a < 138) → m15 a = x a := fun a a1 a2 a3 a4 => by rw [q3 a a1 a2 a3 a4, hfq a a3]; exact hfr a a1 a2 a3 a4
        refine z_iinc (pc := 51) hO 2 (lv' := [(2, .int (zi (i + 1))), (0, .ref (gA g 42)), (1, .int (zi (w - 1)))]) dX10_addOpposites_51 rfl (by decide) rfl ?_
        refine z_goto (pc := 54) hO (tgt := 14) dX10_addOpposites_54 (by decide) ?_
        refine z_sub [1, 2, 0] rfl ?_
        exact ih14 (i + 1) m15 (by omega) (by omega) (by rw [opA_s _ _ h0.1]; exact q1) (by assumption) (by assumption)
  refine z_sub [2, 1, 0] rfl ?_
  exact L14 _ 0 x (Nat.lt_succ_self _) (by omega) (by exact hS) (by exact hn.1) (by intro a _ _ _ _; rfl)

