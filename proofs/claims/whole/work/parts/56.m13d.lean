set_option maxHeartbeats 4000000 in
theorem c_X10_dimensionOf (l : Launch) (g : Gl) (x : Me) (n : Int) (s : Int)  (hn : 1 ≤ n ∧ n ≤ 6) (hs0 : 0 ≤ s ∧ s < 64) : ctQ l g yX10_dimensionOf cX10_dimensionOf 4 (some .int) 6 140 [.ref (gA g 42), .int (zi n), .int (zi s)] x (QIu g (fun z x' => z = dimS n s ∧ ∀ a, a ≠ 42 → a ≠ 44 → a ≠ 45 → ¬ (100 ≤ a ∧ a < 138) → x' a = x a)) := by
  refine ct_start (own := RX10) (lv := [(0, .ref (gA g 42)), (1, .int (zi n)), (2, .int (zi s))]) (plainFor_of_name (by decide)) rfl (Nat.le_of_ble_eq_true rfl) rfl ?_
  intro Γ hΓ hO hr hQ _
  have hsq := sq6 hn
  obtain ⟨w, hw⟩ : ∃ w, w = n * n := ⟨_, rfl⟩
  rw [← hw] at hsq
  refine z_aload_n (pc := 0) hO 0 dX10_dimensionOf_0 rfl rfl ?_
  refine z_iload_n (pc := 1) hO 1 dX10_dimensionOf_1 rfl rfl ?_
  refine pf_X10_side (pc := 2) hO f_X10_23 dX10_dimensionOf_2 (fun m1 e2 => ?_)
  have e1 := e2
  refine z_aload_n (pc := 5) hO 0 dX10_dimensionOf_5 rfl rfl ?_
  refine z_iconst (pc := 6) hO dX10_dimensionOf_6 ?_
  refine pf_X10_rank (pc := 7) hO f_X10_27 dX10_dimensionOf_7 (fun m3 e4 => ?_)
  have e2 := e4
  have h4 : m3 42 4 = n := by rw [e2, up_n _ _ (by omega), e1, up_s]
  have hS : SP m3 [] := SP_0 (by rw [e2, up_s])
  have hfr : ∀ a, a ≠ 42 → a ≠ 44 → a ≠ 45 → ¬ (100 ≤ a ∧ a < 138) → m3 a = x a := fun a a1 a2 a3 a4 => by rw [e2, up_i _ _ _ a1, e1, up_i _ _ _ a1]
  have hww : m3 42 4 * m3 42 4 = w := by rw [h4, hw]
  refine z_aload_n (pc := 10) hO 0 dX10_dimensionOf_10 rfl rfl ?_
  refine gf_X10_side (pc := 11) hO f_X10_23 dX10_dimensionOf_11 ?_
  refine z_aload_n (pc := 14) hO 0 dX10_dimensionOf_14 rfl rfl ?_
  refine gf_X10_side (pc := 15) hO f_X10_23 dX10_dimensionOf_15 ?_
  refine z_imul (pc := 18) hO dX10_dimensionOf_18 ?_
  rw [hww]
  refine z_istore_n (pc := 19) hO (lv' := [(3, .int (zi w)), (0, .ref (gA g 42)), (1, .int (zi n)), (2, .int (zi s))]) dX10_dimensionOf_19 rfl (by decide) rfl ?_
  refine z_iload_n (pc := 20) hO 3 dX10_dimensionOf_20 rfl rfl ?_
  refine z_bipush (pc := 21) hO dX10_dimensionOf_21 (by decide) ?_
  refine z_iand (pc := 23) hO (zi (bnd2 s 30)) dX10_dimensionOf_23 (by exact bnd2_z (by omega) (by omega)) ?_
  refine z_if_eq (pc := 24) hO (tgt := 35) dX10_dimensionOf_24 (by decide) (by have := bnd2_r (b := 30) (a := s) hs0.1; omega) (fun b5 => ?_) (fun b5 => ?_)
  · refine z_iload_n (pc := 35) hO 3 dX10_dimensionOf_35 rfl rfl ?_
    refine z_bipush (pc := 36) hO dX10_dimensionOf_36 (by decide) ?_
    refine z_iand (pc := 38) hO (zi (bnd2 s 32)) dX10_dimensionOf_38 (by exact bnd2_z (by omega) (by omega)) ?_
    refine z_if_eq (pc := 39) hO (tgt := 49) dX10_dimensionOf_39 (by decide) (by have := bnd2_r (b := 32) (a := s) hs0.1; omega) (fun b6 => ?_) (fun b6 => ?_)
    · refine z_iload_n (pc := 49) hO 0 dX10_dimensionOf_49 rfl rfl ?_
      refine z_aload_n (pc := 50) hO 1 dX10_dimensionOf_50 rfl rfl ?_
      refine gf_X10_rank (pc := 51) hO f_X10_27 dX10_dimensionOf_51 ?_
      refine z_isub (pc := 54) hO dX10_dimensionOf_54 ?_
      have q2 := hS.1
      have q3 := hS.2.1
      exact z_iret (pc := 55) hO hr hQ rfl dX10_dimensionOf_55 (by first | (refine ⟨?_, hfr⟩; rw [q2]; unfold dimS dm2 dm1; rw [← hw]; (first | rw [if_pos (show bnd2 s 30 ≠ 0 by omega), if_pos (show bnd2 s 30 ≠ 0 by omega)] | rw [if_neg (show ¬ bnd2 s 30 ≠ 0 by omega), if_neg (show ¬ bnd2 s 30 ≠ 0 by omega)]); (first | rw [if_pos (show bnd2 s 32 ≠ 0 by omega), if_pos (show bnd2 s 32 ≠ 0 by omega)] | rw [if_neg (show ¬ bnd2 s 32 ≠ 0 by omega), if_neg (show ¬ bnd2 s 32 ≠ 0 by omega)]); try rw [hw]; omega; done) | (exfalso; omega))
    · refine z_aload_n (pc := 42) hO 1 dX10_dimensionOf_42 rfl rfl ?_
      refine z_callVV (pc := 43) hO (As := []) (st := []) (c_X10_addOpposites (qL Γ) g m3 _ n (by exact hS) (by exact ⟨h4, hn⟩)) k_X10_34 isO_42 rfl (Nat.le_of_ble_eq_true rfl) (by decide) (by decide) ⟨by decide, by decide⟩ dX10_dimensionOf_43 (fun m8 h9 => ?_)
      obtain ⟨hS, h4, hf⟩ := h9
      have hfr : ∀ a, a ≠ 42 → a ≠ 44 → a ≠ 45 → ¬ (100 ≤ a ∧ a < 138) → m8 a = x a := fun a a1 a2 a3 a4 => (hf a a1 a2 a3 a4).trans (hfr a a1 a2 a3 a4)
      refine z_iinc (pc := 46) hO 0 (lv' := [(3, .int (zi (w + 1))), (0, .ref (gA g 42)), (1, .int (zi n)), (2, .int (zi s))]) dX10_dimensionOf_46 rfl (by decide) rfl ?_
      refine z_iload_n (pc := 49) hO 0 dX10_dimensionOf_49 rfl rfl ?_
      refine z_aload_n (pc := 50) hO 1 dX10_dimensionOf_50 rfl rfl ?_
      refine gf_X10_rank (pc := 51) hO f_X10_27 dX10_dimensionOf_51 ?_
      refine z_isub (pc := 54) hO dX10_dimensionOf_54 ?_
      have q2 := hS.1
      have q3 := hS.2.1
      exact z_iret (pc := 55) hO hr hQ rfl dX10_dimensionOf_55 (by first | (refine ⟨?_, hfr⟩; rw [q2]; unfold dimS dm2 dm1; rw [← hw]; (first | rw [if_pos (show bnd2 s 30 ≠ 0 by omega), if_pos (show bnd2 s 30 ≠ 0 by omega)] | rw [if_neg (show ¬ bnd2 s 30 ≠ 0 by omega), if_neg (show ¬ bnd2 s 30 ≠ 0 by omega)]); (first | rw [if_pos (show bnd2 s 32 ≠ 0 by omega), if_pos (show bnd2 s 32 ≠ 0 by omega)] | rw [if_neg (show ¬ bnd2 s 32 ≠ 0 by omega), if_neg (show ¬ bnd2 s 32 ≠ 0 by omega)]); try rw [hw]; omega; done) | (exfalso; omega))
  · refine z_aload_n (pc := 27) hO 1 dX10_dimensionOf_27 rfl rfl ?_
    refine z_iload_n (pc := 28) hO 3 dX10_dimensionOf_28 rfl rfl ?_
    refine z_callVV (pc := 29) hO (As := [.int (zi s)]) (st := []) (c_X10_addLines (qL Γ) g m3 s n (by exact hS) (by exact ⟨h4, hn⟩) (by exact hs0)) k_X10_30 isO_42 rfl (Nat.le_of_ble_eq_true rfl) (by decide) (by decide) ⟨by decide, by decide⟩ dX10_dimensionOf_29 (fun m11 h12 => ?_)
    obtain ⟨hS, h4, hf⟩ := h12
    have hfr : ∀ a, a ≠ 42 → a ≠ 44 → a ≠ 45 → ¬ (100 ≤ a ∧ a < 138) → m11 a = x a := fun a a1 a2 a3 a4 => (hf a a1 a2 a3 a4).trans (hfr a a1 a2 a3 a4)
    refine z_iinc (pc := 32) hO 0 (lv' := [(3, .int (zi (w + 1))), (0, .ref (gA g 42)), (1, .int (zi n)), (2, .int (zi s))]) dX10_dimensionOf_32 rfl (by decide) rfl ?_
    refine z_iload_n (pc := 35) hO 3 dX10_dimensionOf_35 rfl rfl ?_
    refine z_bipush (pc := 36) hO dX10_dimensionOf_36 (by decide) ?_
    refine z_iand (pc := 38) hO (zi (bnd2 s 32)) dX10_dimensionOf_38 (by exact bnd2_z (by omega) (by omega)) ?_
    refine z_if_eq (pc := 39) hO (tgt := 49) dX10_dimensionOf_39 (by decide) (by have := bnd2_r (b := 32) (a := s) hs0.1; omega) (fun b13 => ?_) (fun b13 => ?_)
    · refine z_iload_n (pc := 49) hO 0 dX10_dimensionOf_49 rfl rfl ?_
      refine z_aload_n (pc := 50) hO 1 dX10_dimensionOf_50 rfl rfl ?_
      refine gf_X10_rank (pc := 51) hO f_X10_27 dX10_dimensionOf_51 ?_
      refine z_isub (pc := 54) hO dX10_dimensionOf_54 ?_
      have q2 := hS.1
      have q3 := hS.2.1
      exact z_iret (pc := 55) hO hr hQ rfl dX10_dimensionOf_55 (by first | (refine ⟨?_, hfr⟩; rw [q2]; unfold dimS dm2 dm1; rw [← hw]; (first | rw [if_pos (show bnd2 s 30 ≠ 0 by omega), if_pos (show bnd2 s 30 ≠ 0 by omega)] | rw [if_neg (show ¬ bnd2 s 30 ≠ 0 by omega), if_neg (show ¬ bnd2 s 30 ≠ 0 by omega)]); (first | rw [if_pos (show bnd2 s 32 ≠ 0 by omega), if_pos (show bnd2 s 32 ≠ 0 by omega)] | rw [if_neg (show ¬ bnd2 s 32 ≠ 0 by omega), if_neg (show ¬ bnd2 s 32 ≠ 0 by omega)]); try rw [hw]; omega; done) | (exfalso; omega))
    · refine z_aload_n (pc := 42) hO 1 dX10_dimensionOf_42 rfl rfl ?_
      refine z_callVV (pc := 43) hO (As := []) (st := []) (c_X10_addOpposites (qL Γ) g m11 _ n (by exact hS) (by exact ⟨h4, hn⟩)) k_X10_34 isO_42 rfl (Nat.le_of_ble_eq_true rfl) (by decide) (by decide) ⟨by decide, by decide⟩ dX10_dimensionOf_43 (fun m15 h16 => ?_)
      obtain ⟨hS, h4, hf⟩ := h16
      have hfr : ∀ a, a ≠ 42 → a ≠ 44 → a ≠ 45 → ¬ (100 ≤ a ∧ a < 138) → m15 a = x a := fun a a1 a2 a3 a4 => (hf a a1 a2 a3 a4).trans (hfr a a1 a2 a3 a4)
      refine z_iinc (pc := 46) hO 0 (lv' := [(3, .int (zi ((w + 1) + 1))), (0, .ref (gA g 42)), (1, .int (zi n)), (2, .int (zi s))]) dX10_dimensionOf_46 rfl (by decide) rfl ?_
      refine z_iload_n (pc := 49) hO 0 dX10_dimensionOf_49 rfl rfl ?_
      refine z_aload_n (pc := 50) hO 1 dX10_dimensionOf_50 rfl rfl ?_
      refine gf_X10_rank (pc := 51) hO f_X10_27 dX10_dimensionOf_51 ?_
      refine z_isub (pc := 54) hO dX10_dimensionOf_54 ?_
      have q2 := hS.1
      have q3 := hS.2.1
      exact z_iret (pc := 55) hO hr hQ rfl dX10_dimensionOf_55 (by first | (refine ⟨?_, hfr⟩; rw [q2]; unfold dimS dm2 dm1; rw [← hw]; (first | rw [if_pos (show bnd2 s 30 ≠ 0 by omega), if_pos (show bnd2 s 30 ≠ 0 by omega)] | rw [if_neg (show ¬ bnd2 s 30 ≠ 0 by omega), if_neg (show ¬ bnd2 s 30 ≠ 0 by omega)]); (first | rw [if_pos (show bnd2 s 32 ≠ 0 by omega), if_pos (show bnd2 s 32 ≠ 0 by omega)] | rw [if_neg (show ¬ bnd2 s 32 ≠ 0 by omega), if_neg (show ¬ bnd2 s 32 ≠ 0 by omega)]); try rw [hw]; omega; done) | (exfalso; omega))

