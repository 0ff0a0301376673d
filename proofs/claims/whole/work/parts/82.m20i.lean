set_option maxHeartbeats 4000000 in
theorem c_X12_turned (l : Launch) (g : Gl) (x : Me) (n : Int) (t : Int) (p : Int)  (hn : 1 ≤ n ∧ n ≤ 9) (hp : 0 ≤ p ∧ p < n * n) (ht : 0 ≤ t ∧ t ≤ 3) : ctQ l g yX12_turned cX12_turned 6 (some .int) 1 20 [.int (zi n), .int (zi t), .int (zi p)] x (QIu g (fun z x' => z = (tur n t p) ∧ x' = x)) := by
  refine ct_start (own := RX12) (lv := [(0, .int (zi n)), (1, .int (zi t)), (2, .int (zi p))]) (plainFor_of_name (by decide)) rfl (Nat.le_of_ble_eq_true rfl) rfl ?_
  intro Γ hΓ hO hr hQ _
  have hsq := sq9 hn
  have hd := rc9 hn hp
  refine z_iload_n (pc := 0) hO 2 dX12_turned_0 rfl rfl ?_
  refine z_iload_n (pc := 1) hO 0 dX12_turned_1 rfl rfl ?_
  refine z_idiv (pc := 2) hO dX12_turned_2 (by omega) (by omega) ?_
  refine z_istore_n (pc := 3) hO (lv' := [(3, .int (zi (p / n))), (0, .int (zi n)), (1, .int (zi t)), (2, .int (zi p))]) dX12_turned_3 rfl (by decide) rfl ?_
  refine z_iload_n (pc := 4) hO 3 dX12_turned_4 rfl rfl ?_
  refine z_iload_n (pc := 5) hO 1 dX12_turned_5 rfl rfl ?_
  refine z_irem (pc := 6) hO dX12_turned_6 (by omega) (by omega) ?_
  refine z_istore (pc := 7) hO (lv' := [(4, .int (zi (p % n))), (3, .int (zi (p / n))), (0, .int (zi n)), (1, .int (zi t)), (2, .int (zi p))]) dX12_turned_7 (by decide) rfl ?_
  refine z_iload_n (pc := 9) hO 2 dX12_turned_9 rfl rfl ?_
  refine z_iconst (pc := 10) hO dX12_turned_10 ?_
  refine z_isub (pc := 11) hO dX12_turned_11 ?_
  refine z_istore (pc := 12) hO (lv' := [(5, .int (zi (n - 1))), (4, .int (zi (p % n))), (3, .int (zi (p / n))), (0, .int (zi n)), (1, .int (zi t)), (2, .int (zi p))]) dX12_turned_12 (by decide) rfl ?_
  refine z_iload_n (pc := 14) hO 4 dX12_turned_14 rfl rfl ?_
  refine z_if_ne (pc := 15) hO (tgt := 22) dX12_turned_15 (by decide) (by omega) (fun b1 => ?_) (fun b1 => ?_)
  · refine z_iload_n (pc := 22) hO 4 dX12_turned_22 rfl rfl ?_
    refine z_iconst (pc := 23) hO dX12_turned_23 ?_
    refine z_icmp_ne (pc := 24) hO (tgt := 39) dX12_turned_24 (by decide) (by omega) (by omega) (fun b2 => ?_) (fun b2 => ?_)
    · refine z_iload_n (pc := 39) hO 4 dX12_turned_39 rfl rfl ?_
      refine z_iconst (pc := 40) hO dX12_turned_40 ?_
      refine z_icmp_ne (pc := 41) hO (tgt := 59) dX12_turned_41 (by decide) (by omega) (by omega) (fun b3 => ?_) (fun b3 => ?_)
      · refine z_iload_n (pc := 59) hO 3 dX12_turned_59 rfl rfl ?_
        refine z_iload (pc := 60) hO 1 dX12_turned_60 rfl ?_
        refine z_imul (pc := 62) hO dX12_turned_62 ?_
        refine z_iload (pc := 63) hO 0 dX12_turned_63 rfl ?_
        refine z_iadd (pc := 65) hO dX12_turned_65 ?_
        refine z_iload_n (pc := 66) hO 2 dX12_turned_66 rfl rfl ?_
        refine z_isub (pc := 67) hO dX12_turned_67 ?_
        exact z_iret (pc := 68) hO hr hQ rfl dX12_turned_68 ⟨by first | (unfold tur; first | (exfalso; omega) | (rw [if_pos (by omega)]; (first | done | omega)) | (rw [if_neg (by omega), if_pos (by omega)]; (first | done | omega)) | (rw [if_neg (by omega), if_neg (by omega), if_pos (by omega)]; (first | done | omega)) | (rw [if_neg (by omega), if_neg (by omega), if_neg (by omega)]; (first | done | omega)); done) | (exfalso; omega), rfl⟩
      · refine z_iload_n (pc := 44) hO 3 dX12_turned_44 rfl rfl ?_
        refine z_iload (pc := 45) hO 0 dX12_turned_45 rfl ?_
        refine z_iload_n (pc := 47) hO 2 dX12_turned_47 rfl rfl ?_
        refine z_isub (pc := 48) hO dX12_turned_48 ?_
        refine z_imul (pc := 49) hO dX12_turned_49 ?_
        refine z_iload (pc := 50) hO 0 dX12_turned_50 rfl ?_
        refine z_iadd (pc := 52) hO dX12_turned_52 ?_
        refine z_iload (pc := 53) hO 1 dX12_turned_53 rfl ?_
        refine z_isub (pc := 55) hO dX12_turned_55 ?_
        refine z_goto (pc := 56) hO (tgt := 68) dX12_turned_56 (by decide) ?_
        exact z_iret (pc := 68) hO hr hQ rfl dX12_turned_68 ⟨by first | (unfold tur; first | (exfalso; omega) | (rw [if_pos (by omega)]; (first | done | omega)) | (rw [if_neg (by omega), if_pos (by omega)]; (first | done | omega)) | (rw [if_neg (by omega), if_neg (by omega), if_pos (by omega)]; (first | done | omega)) | (rw [if_neg (by omega), if_neg (by omega), if_neg (by omega)]; (first | done | omega)); done) | (exfalso; omega), rfl⟩
    · refine z_iload_n (pc := 27) hO 3 dX12_turned_27 rfl rfl ?_
      refine z_iload (pc := 28) hO 0 dX12_turned_28 rfl ?_
      refine z_iload (pc := 30) hO 1 dX12_turned_30 rfl ?_
      refine z_isub (pc := 32) hO dX12_turned_32 ?_
      refine z_imul (pc := 33) hO dX12_turned_33 ?_
      refine z_iload_n (pc := 34) hO 2 dX12_turned_34 rfl rfl ?_
      refine z_iadd (pc := 35) hO dX12_turned_35 ?_
      refine z_goto (pc := 36) hO (tgt := 68) dX12_turned_36 (by decide) ?_
      exact z_iret (pc := 68) hO hr hQ rfl dX12_turned_68 ⟨by first | (unfold tur; first | (exfalso; omega) | (rw [if_pos (by omega)]; (first | done | omega)) | (rw [if_neg (by omega), if_pos (by omega)]; (first | done | omega)) | (rw [if_neg (by omega), if_neg (by omega), if_pos (by omega)]; (first | done | omega)) | (rw [if_neg (by omega), if_neg (by omega), if_neg (by omega)]; (first | done | omega)); done) | (exfalso; omega), rfl⟩
  · refine z_iload_n (pc := 18) hO 5 dX12_turned_18 rfl rfl ?_
    refine z_goto (pc := 19) hO (tgt := 68) dX12_turned_19 (by decide) ?_
    exact z_iret (pc := 68) hO hr hQ rfl dX12_turned_68 ⟨by first | (unfold tur; first | (exfalso; omega) | (rw [if_pos (by omega)]; (first | done | omega)) | (rw [if_neg (by omega), if_pos (by omega)]; (first | done | omega)) | (rw [if_neg (by omega), if_neg (by omega), if_pos (by omega)]; (first | done | omega)) | (rw [if_neg (by omega), if_neg (by omega), if_neg (by omega)]; (first | done | omega)); done) | (exfalso; omega), rfl⟩

set_option maxHeartbeats 4000000 in
theorem c_X12_flipped (l : Launch) (g : Gl) (x : Me) (n : Int) (p : Int)  (hn : 1 ≤ n ∧ n ≤ 9) (hp : 0 ≤ p ∧ p < n * n) : ctQ l g yX12_flipped cX12_flipped 2 (some .int) 1 20 [.int (zi n), .int (zi p)] x (QIu g (fun z x' => z = (fli n 1 p) ∧ x' = x)) := by
  refine ct_start (own := RX12) (lv := [(0, .int (zi n)), (1, .int (zi p))]) (plainFor_of_name (by decide)) rfl (Nat.le_of_ble_eq_true rfl) rfl ?_
  intro Γ hΓ hO hr hQ _
  have hsq := sq9 hn
  have hd := rc9 hn hp
  refine z_iload_n (pc := 0) hO 1 dX12_flipped_0 rfl rfl ?_
  refine z_iload_n (pc := 1) hO 1 dX12_flipped_1 rfl rfl ?_
  refine z_iload_n (pc := 2) hO 0 dX12_flipped_2 rfl rfl ?_
  refine z_irem (pc := 3) hO dX12_flipped_3 (by omega) (by omega) ?_
  refine z_isub (pc := 4) hO dX12_flipped_4 ?_
  refine z_iload_n (pc := 5) hO 0 dX12_flipped_5 rfl rfl ?_
  refine z_iadd (pc := 6) hO dX12_flipped_6 ?_
  refine z_iconst (pc := 7) hO dX12_flipped_7 ?_
  refine z_isub (pc := 8) hO dX12_flipped_8 ?_
  refine z_iload_n (pc := 9) hO 1 dX12_flipped_9 rfl rfl ?_
  refine z_iload_n (pc := 10) hO 0 dX12_flipped_10 rfl rfl ?_
  refine z_irem (pc := 11) hO dX12_flipped_11 (by omega) (by omega) ?_
  refine z_isub (pc := 12) hO dX12_flipped_12 ?_
  exact z_iret (pc := 13) hO hr hQ rfl dX12_flipped_13 ⟨by first | (unfold fli; rw [if_neg (by omega)]; omega; done) | (exfalso; omega), rfl⟩

