
set_option maxHeartbeats 600000 in
theorem c_X7_aheadOfTurn (l : Launch) (g : Gl) (x : Me) (n : Int) (t : Int) (p : Int)  (hn : 1 ≤ n ∧ n ≤ 9) (ht : 0 ≤ t ∧ t ≤ 3) (hp : 0 ≤ p ∧ p < 1000) : ctQ l g yX7_aheadOfTurn cX7_aheadOfTurn 6 (some .int) 2 42 [.int (zi n), .int (zi t), .int (zi p)] x (QIu g (fun z x' => z = (tur n t p) ∧ x' = x)) := by
  refine ct_start (own := RX7) (lv := [(0, .int (zi n)), (1, .int (zi t)), (2, .int (zi p))]) (plainFor_of_name (by decide)) rfl (Nat.le_of_ble_eq_true rfl) rfl ?_
  intro Γ hΓ hO hr hQ _
  refine z_iload_n (pc := 0) hO 0 dX7_aheadOfTurn_0 rfl rfl ?_
  refine z_iload_n (pc := 1) hO 2 dX7_aheadOfTurn_1 rfl rfl ?_
  refine z_callSIp (pc := 2) hO (As := [.int (zi n), .int (zi p)]) (st := []) (c_X7_rowOf (qL Γ) g x n p (by first | assumption | omega) (by first | assumption | omega)) k_X7_15 rfl (Nat.le_of_ble_eq_true rfl) (by decide) (by decide) ⟨by decide, by decide⟩ dX7_aheadOfTurn_2 ?_
  refine z_istore_n (pc := 5) hO (lv' := [(3, .int (zi (p / n))), (0, .int (zi n)), (1, .int (zi t)), (2, .int (zi p))]) dX7_aheadOfTurn_5 rfl (by decide) rfl ?_
  refine z_iload_n (pc := 6) hO 1 dX7_aheadOfTurn_6 rfl rfl ?_
  refine z_iload_n (pc := 7) hO 3 dX7_aheadOfTurn_7 rfl rfl ?_
  refine z_callSIp (pc := 8) hO (As := [.int (zi n), .int (zi p)]) (st := []) (c_X7_columnOf (qL Γ) g x n p (by first | assumption | omega) (by first | assumption | omega)) k_X7_20 rfl (Nat.le_of_ble_eq_true rfl) (by decide) (by decide) ⟨by decide, by decide⟩ dX7_aheadOfTurn_8 ?_
  refine z_istore (pc := 11) hO (lv' := [(4, .int (zi (p % n))), (3, .int (zi (p / n))), (0, .int (zi n)), (1, .int (zi t)), (2, .int (zi p))]) dX7_aheadOfTurn_11 (by decide) rfl ?_
  refine z_iload_n (pc := 13) hO 2 dX7_aheadOfTurn_13 rfl rfl ?_
  refine z_iconst (pc := 14) hO dX7_aheadOfTurn_14 ?_
  refine z_isub (pc := 15) hO dX7_aheadOfTurn_15 ?_
  refine z_istore (pc := 16) hO (lv' := [(5, .int (zi (n - 1))), (4, .int (zi (p % n))), (3, .int (zi (p / n))), (0, .int (zi n)), (1, .int (zi t)), (2, .int (zi p))]) dX7_aheadOfTurn_16 (by decide) rfl ?_
  refine z_iload_n (pc := 18) hO 4 dX7_aheadOfTurn_18 rfl rfl ?_
  have w1 : t = 1 ∨ t = 2 ∨ t = 3 ∨ (t ≠ 1 ∧ t ≠ 2 ∧ t ≠ 3) := by omega
  rcases w1 with w1 | w1 | w1 | w1
  · refine z_tabIn (pc := 19) hO (tgt := 44) dX7_aheadOfTurn_19 (by omega) (by omega) (by omega) (by first | (rw [w1]; done) | (rw [w1]; rfl)) (by decide) ?_
    refine z_iload_n (pc := 44) hO 3 dX7_aheadOfTurn_44 rfl rfl ?_
    refine z_iload (pc := 45) hO 0 dX7_aheadOfTurn_45 rfl ?_
    refine z_iload (pc := 47) hO 1 dX7_aheadOfTurn_47 rfl ?_
    refine z_isub (pc := 49) hO dX7_aheadOfTurn_49 ?_
    refine z_iload_n (pc := 50) hO 2 dX7_aheadOfTurn_50 rfl rfl ?_
    refine z_callSIp (pc := 51) hO (As := [.int (zi n), .int (zi ((n - 1) - (p % n))), .int (zi (p / n))]) (st := []) (c_X7_of (qL Γ) g x n ((n - 1) - (p % n)) (p / n)) k_X7_23 rfl (Nat.le_of_ble_eq_true rfl) (by decide) (by decide) ⟨by decide, by decide⟩ dX7_aheadOfTurn_51 ?_
    exact z_iret (pc := 54) hO hr hQ rfl dX7_aheadOfTurn_54 ⟨by first | (unfold tur; simp [*]; done) | (exfalso; omega), rfl⟩
  · refine z_tabIn (pc := 19) hO (tgt := 55) dX7_aheadOfTurn_19 (by omega) (by omega) (by omega) (by first | (rw [w1]; done) | (rw [w1]; rfl)) (by decide) ?_
    refine z_iload_n (pc := 55) hO 3 dX7_aheadOfTurn_55 rfl rfl ?_
    refine z_iload (pc := 56) hO 0 dX7_aheadOfTurn_56 rfl ?_
    refine z_iload_n (pc := 58) hO 2 dX7_aheadOfTurn_58 rfl rfl ?_
    refine z_isub (pc := 59) hO dX7_aheadOfTurn_59 ?_
    refine z_iload (pc := 60) hO 0 dX7_aheadOfTurn_60 rfl ?_
    refine z_iload (pc := 62) hO 1 dX7_aheadOfTurn_62 rfl ?_
    refine z_isub (pc := 64) hO dX7_aheadOfTurn_64 ?_
    refine z_callSIp (pc := 65) hO (As := [.int (zi n), .int (zi ((n - 1) - (p / n))), .int (zi ((n - 1) - (p % n)))]) (st := []) (c_X7_of (qL Γ) g x n ((n - 1) - (p / n)) ((n - 1) - (p % n))) k_X7_23 rfl (Nat.le_of_ble_eq_true rfl) (by decide) (by decide) ⟨by decide, by decide⟩ dX7_aheadOfTurn_65 ?_
    exact z_iret (pc := 68) hO hr hQ rfl dX7_aheadOfTurn_68 ⟨by first | (unfold tur; simp [*]; done) | (exfalso; omega), rfl⟩
  · refine z_tabIn (pc := 19) hO (tgt := 69) dX7_aheadOfTurn_19 (by omega) (by omega) (by omega) (by first | (rw [w1]; done) | (rw [w1]; rfl)) (by decide) ?_
    refine z_iload_n (pc := 69) hO 3 dX7_aheadOfTurn_69 rfl rfl ?_
    refine z_iload (pc := 70) hO 1 dX7_aheadOfTurn_70 rfl ?_
    refine z_iload (pc := 72) hO 0 dX7_aheadOfTurn_72 rfl ?_
    refine z_iload_n (pc := 74) hO 2 dX7_aheadOfTurn_74 rfl rfl ?_
    refine z_isub (pc := 75) hO dX7_aheadOfTurn_75 ?_
    refine z_callSIp (pc := 76) hO (As := [.int (zi n), .int (zi (p % n)), .int (zi ((n - 1) - (p / n)))]) (st := []) (c_X7_of (qL Γ) g x n (p % n) ((n - 1) - (p / n))) k_X7_23 rfl (Nat.le_of_ble_eq_true rfl) (by decide) (by decide) ⟨by decide, by decide⟩ dX7_aheadOfTurn_76 ?_
    exact z_iret (pc := 79) hO hr hQ rfl dX7_aheadOfTurn_79 ⟨by first | (unfold tur; simp [*]; done) | (exfalso; omega), rfl⟩
  · refine z_tabOut (pc := 19) hO (tgt := 80) dX7_aheadOfTurn_19 (by omega) (by omega) (by decide) ?_
    refine z_iload_n (pc := 80) hO 5 dX7_aheadOfTurn_80 rfl rfl ?_
    exact z_iret (pc := 81) hO hr hQ rfl dX7_aheadOfTurn_81 ⟨by first | (unfold tur; simp [*]; done) | (exfalso; omega), rfl⟩

set_option maxHeartbeats 600000 in
theorem c_X7_aheadOfFlip (l : Launch) (g : Gl) (x : Me) (n : Int) (f : Int) (p : Int)  (hn : 1 ≤ n ∧ n ≤ 9) (ht : 0 ≤ f ∧ f ≤ 1) (hp : 0 ≤ p ∧ p < 1000) : ctQ l g yX7_aheadOfFlip cX7_aheadOfFlip 3 (some .int) 2 42 [.int (zi n), .int (zi f), .int (zi p)] x (QIu g (fun z x' => z = (fli n f p) ∧ x' = x)) := by
  refine ct_start (own := RX7) (lv := [(0, .int (zi n)), (1, .int (zi f)), (2, .int (zi p))]) (plainFor_of_name (by decide)) rfl (Nat.le_of_ble_eq_true rfl) rfl ?_
  intro Γ hΓ hO hr hQ _
  refine z_iload_n (pc := 0) hO 1 dX7_aheadOfFlip_0 rfl rfl ?_
  refine z_if_ne (pc := 1) hO (tgt := 8) dX7_aheadOfFlip_1 (by decide) (by omega) (fun b1 => ?_) (fun b1 => ?_)
  · refine z_iload_n (pc := 8) hO 0 dX7_aheadOfFlip_8 rfl rfl ?_
    refine z_iload_n (pc := 9) hO 0 dX7_aheadOfFlip_9 rfl rfl ?_
    refine z_iload_n (pc := 10) hO 2 dX7_aheadOfFlip_10 rfl rfl ?_
    refine z_callSIp (pc := 11) hO (As := [.int (zi n), .int (zi p)]) (st := [.int (zi n)]) (c_X7_rowOf (qL Γ) g x n p (by first | assumption | omega) (by first | assumption | omega)) k_X7_15 rfl (Nat.le_of_ble_eq_true rfl) (by decide) (by decide) ⟨by decide, by decide⟩ dX7_aheadOfFlip_11 ?_
    refine z_iload_n (pc := 14) hO 0 dX7_aheadOfFlip_14 rfl rfl ?_
    refine z_iconst (pc := 15) hO dX7_aheadOfFlip_15 ?_
    refine z_isub (pc := 16) hO dX7_aheadOfFlip_16 ?_
    refine z_iload_n (pc := 17) hO 0 dX7_aheadOfFlip_17 rfl rfl ?_
    refine z_iload_n (pc := 18) hO 2 dX7_aheadOfFlip_18 rfl rfl ?_
    refine z_callSIp (pc := 19) hO (As := [.int (zi n), .int (zi p)]) (st := [.int (zi (n - 1)), .int (zi (p / n)), .int (zi n)]) (c_X7_columnOf (qL Γ) g x n p (by first | assumption | omega) (by first | assumption | omega)) k_X7_20 rfl (Nat.le_of_ble_eq_true rfl) (by decide) (by decide) ⟨by decide, by decide⟩ dX7_aheadOfFlip_19 ?_
    refine z_isub (pc := 22) hO dX7_aheadOfFlip_22 ?_
    refine z_callSIp (pc := 23) hO (As := [.int (zi n), .int (zi (p / n)), .int (zi ((n - 1) - (p % n)))]) (st := []) (c_X7_of (qL Γ) g x n (p / n) ((n - 1) - (p % n))) k_X7_23 rfl (Nat.le_of_ble_eq_true rfl) (by decide) (by decide) ⟨by decide, by decide⟩ dX7_aheadOfFlip_23 ?_
    exact z_iret (pc := 26) hO hr hQ rfl dX7_aheadOfFlip_26 ⟨by first | (unfold fli; simp [*]; done) | (exfalso; omega), rfl⟩
  · refine z_iload_n (pc := 4) hO 2 dX7_aheadOfFlip_4 rfl rfl ?_
    refine z_goto (pc := 5) hO (tgt := 26) dX7_aheadOfFlip_5 (by decide) ?_
    exact z_iret (pc := 26) hO hr hQ rfl dX7_aheadOfFlip_26 ⟨by first | (unfold fli; simp [*]; done) | (exfalso; omega), rfl⟩

set_option maxHeartbeats 600000 in
theorem c_X7_aheadOfShift (l : Launch) (g : Gl) (x : Me) (n : Int) (d : Int) (r : Int) (p : Int)  (hn : 1 ≤ n ∧ n ≤ 9) (hd : 0 ≤ d ∧ d ≤ 9) (hr : 0 ≤ r ∧ r ≤ 9) (hp : 0 ≤ p ∧ p < n * n) : ctQ l g yX7_aheadOfShift cX7_aheadOfShift 4 (some .int) 3 63 [.int (zi n), .int (zi d), .int (zi r), .int (zi p)] x (QIu g (fun z x' => z = (shf n d r p) ∧ x' = x)) := by
  refine ct_start (own := RX7) (lv := [(0, .int (zi n)), (1, .int (zi d)), (2, .int (zi r)), (3, .int (zi p))]) (plainFor_of_name (by decide)) rfl (Nat.le_of_ble_eq_true rfl) rfl ?_
  intro Γ hΓ hO hr hQ _
  have h9 := sq9 hn
  have hrc := rc9 hn hp
  refine z_iload_n (pc := 0) hO 0 dX7_aheadOfShift_0 rfl rfl ?_
  refine z_iload_n (pc := 1) hO 0 dX7_aheadOfShift_1 rfl rfl ?_
  refine z_iload_n (pc := 2) hO 3 dX7_aheadOfShift_2 rfl rfl ?_
  refine z_callSIp (pc := 3) hO (As := [.int (zi n), .int (zi p)]) (st := [.int (zi n)]) (c_X7_rowOf (qL Γ) g x n p (by first | assumption | omega) (by first | assumption | omega)) k_X7_15 rfl (Nat.le_of_ble_eq_true rfl) (by decide) (by decide) ⟨by decide, by decide⟩ dX7_aheadOfShift_3 ?_
  refine z_iload_n (pc := 6) hO 1 dX7_aheadOfShift_6 rfl rfl ?_
  refine z_isub (pc := 7) hO dX7_aheadOfShift_7 ?_
  refine z_iload_n (pc := 8) hO 0 dX7_aheadOfShift_8 rfl rfl ?_
  refine z_callSIp (pc := 9) hO (As := [.int (zi ((p / n) - d)), .int (zi n)]) (st := [.int (zi n)]) (c_X7_wrap (qL Γ) g x ((p / n) - d) n (by first | assumption | omega) (by first | assumption | omega)) k_X7_27 rfl (Nat.le_of_ble_eq_true rfl) (by decide) (by decide) ⟨by decide, by decide⟩ dX7_aheadOfShift_9 ?_
  refine z_iload_n (pc := 12) hO 0 dX7_aheadOfShift_12 rfl rfl ?_
  refine z_iload_n (pc := 13) hO 3 dX7_aheadOfShift_13 rfl rfl ?_
  refine z_callSIp (pc := 14) hO (As := [.int (zi n), .int (zi p)]) (st := [.int (zi (((p / n) - d) % n)), .int (zi n)]) (c_X7_columnOf (qL Γ) g x n p (by first | assumption | omega) (by first | assumption | omega)) k_X7_20 rfl (Nat.le_of_ble_eq_true rfl) (by decide) (by decide) ⟨by decide, by decide⟩ dX7_aheadOfShift_14 ?_
  refine z_iload_n (pc := 17) hO 2 dX7_aheadOfShift_17 rfl rfl ?_
  refine z_isub (pc := 18) hO dX7_aheadOfShift_18 ?_
  refine z_iload_n (pc := 19) hO 0 dX7_aheadOfShift_19 rfl rfl ?_
  refine z_callSIp (pc := 20) hO (As := [.int (zi ((p % n) - r)), .int (zi n)]) (st := [.int (zi (((p / n) - d) % n)), .int (zi n)]) (c_X7_wrap (qL Γ) g x ((p % n) - r) n (by first | assumption | omega) (by first | assumption | omega)) k_X7_27 rfl (Nat.le_of_ble_eq_true rfl) (by decide) (by decide) ⟨by decide, by decide⟩ dX7_aheadOfShift_20 ?_
  refine z_callSIp (pc := 23) hO (As := [.int (zi n), .int (zi (((p / n) - d) % n)), .int (zi (((p % n) - r) % n))]) (st := []) (c_X7_of (qL Γ) g x n (((p / n) - d) % n) (((p % n) - r) % n)) k_X7_23 rfl (Nat.le_of_ble_eq_true rfl) (by decide) (by decide) ⟨by decide, by decide⟩ dX7_aheadOfShift_23 ?_
  exact z_iret (pc := 26) hO hr hQ rfl dX7_aheadOfShift_26 ⟨by first | rfl | omega, rfl⟩

set_option maxHeartbeats 600000 in
theorem c_X7_swapped (l : Launch) (g : Gl) (x : Me) (n : Int) (b : Int) (v : Int)  (hn : 1 ≤ n ∧ n ≤ 9) (hd : 0 ≤ b ∧ b ≤ 9) (hv : 0 ≤ v ∧ v ≤ 9) : ctQ l g yX7_swapped cX7_swapped 4 (some .int) 1 20 [.int (zi n), .int (zi b), .int (zi v)] x (QIu g (fun z x' => z = (swp n b v) ∧ x' = x)) := by
  refine ct_start (own := RX7) (lv := [(0, .int (zi n)), (1, .int (zi b)), (2, .int (zi v))]) (plainFor_of_name (by decide)) rfl (Nat.le_of_ble_eq_true rfl) rfl ?_
  intro Γ hΓ hO hr hQ _
  refine z_iload_n (pc := 0) hO 0 dX7_swapped_0 rfl rfl ?_
  refine z_iconst (pc := 1) hO dX7_swapped_1 ?_
  refine z_isub (pc := 2) hO dX7_swapped_2 ?_
  refine z_istore_n (pc := 3) hO (lv' := [(3, .int (zi (n - 1))), (0, .int (zi n)), (1, .int (zi b)), (2, .int (zi v))]) dX7_swapped_3 rfl (by decide) rfl ?_
  refine z_iload_n (pc := 4) hO 3 dX7_swapped_4 rfl rfl ?_
  refine z_iload_n (pc := 5) hO 2 dX7_swapped_5 rfl rfl ?_
  refine z_icmp_eq (pc := 6) hO (tgt := 16) dX7_swapped_6 (by decide) (by omega) (by omega) (fun b1 => ?_) (fun b1 => ?_)
  · refine z_iload_n (pc := 16) hO 0 dX7_swapped_16 rfl rfl ?_
    refine z_iload_n (pc := 17) hO 3 dX7_swapped_17 rfl rfl ?_
    refine z_isub (pc := 18) hO dX7_swapped_18 ?_
    refine z_goto (pc := 19) hO (tgt := 23) dX7_swapped_19 (by decide) ?_
    exact z_iret (pc := 23) hO hr hQ rfl dX7_swapped_23 ⟨by first | (unfold swp; first | rw [if_pos (by omega)] | rw [if_neg (by omega)]; done) | (exfalso; omega), rfl⟩
  · refine z_iload_n (pc := 9) hO 3 dX7_swapped_9 rfl rfl ?_
    refine z_iload_n (pc := 10) hO 0 dX7_swapped_10 rfl rfl ?_
    refine z_iload_n (pc := 11) hO 2 dX7_swapped_11 rfl rfl ?_
    refine z_isub (pc := 12) hO dX7_swapped_12 ?_
    refine z_icmp_ne (pc := 13) hO (tgt := 22) dX7_swapped_13 (by decide) (by omega) (by omega) (fun b2 => ?_) (fun b2 => ?_)
    · refine z_iload_n (pc := 22) hO 3 dX7_swapped_22 rfl rfl ?_
      exact z_iret (pc := 23) hO hr hQ rfl dX7_swapped_23 ⟨by first | (unfold swp; first | rw [if_pos (by omega)] | rw [if_neg (by omega)]; done) | (exfalso; omega), rfl⟩
    · refine z_iload_n (pc := 16) hO 0 dX7_swapped_16 rfl rfl ?_
      refine z_iload_n (pc := 17) hO 3 dX7_swapped_17 rfl rfl ?_
      refine z_isub (pc := 18) hO dX7_swapped_18 ?_
      refine z_goto (pc := 19) hO (tgt := 23) dX7_swapped_19 (by decide) ?_
      exact z_iret (pc := 23) hO hr hQ rfl dX7_swapped_23 ⟨by first | (unfold swp; first | rw [if_pos (by omega)] | rw [if_neg (by omega)]; done) | (exfalso; omega), rfl⟩

set_option maxHeartbeats 600000 in
theorem c_X7_aheadOfPairs (l : Launch) (g : Gl) (x : Me) (n : Int) (b : Int) (p : Int)  (hn : 1 ≤ n ∧ n ≤ 9) (hd : 0 ≤ b ∧ b ≤ 9) (hp : 0 ≤ p ∧ p < n * n) : ctQ l g yX7_aheadOfPairs cX7_aheadOfPairs 3 (some .int) 2 43 [.int (zi n), .int (zi b), .int (zi p)] x (QIu g (fun z x' => z = (prs n b p) ∧ x' = x)) := by
  refine ct_start (own := RX7) (lv := [(0, .int (zi n)), (1, .int (zi b)), (2, .int (zi p))]) (plainFor_of_name (by decide)) rfl (Nat.le_of_ble_eq_true rfl) rfl ?_
  intro Γ hΓ hO hr hQ _
  have h9 := sq9 hn
  have hrc := rc9 hn hp
  refine z_iload_n (pc := 0) hO 0 dX7_aheadOfPairs_0 rfl rfl ?_
  refine z_iload_n (pc := 1) hO 0 dX7_aheadOfPairs_1 rfl rfl ?_
  refine z_iload_n (pc := 2) hO 1 dX7_aheadOfPairs_2 rfl rfl ?_
  refine z_iload_n (pc := 3) hO 0 dX7_aheadOfPairs_3 rfl rfl ?_
  refine z_iload_n (pc := 4) hO 2 dX7_aheadOfPairs_4 rfl rfl ?_
  refine z_callSIp (pc := 5) hO (As := [.int (zi n), .int (zi p)]) (st := [.int (zi b), .int (zi n), .int (zi n)]) (c_X7_rowOf (qL Γ) g x n p (by first | assumption | omega) (by first | assumption | omega)) k_X7_15 rfl (Nat.le_of_ble_eq_true rfl) (by decide) (by decide) ⟨by decide, by decide⟩ dX7_aheadOfPairs_5 ?_
  refine z_callSIp (pc := 8) hO (As := [.int (zi n), .int (zi b), .int (zi (p / n))]) (st := [.int (zi n)]) (c_X7_swapped (qL Γ) g x n b (p / n) (by first | assumption | omega) (by first | assumption | omega) (by first | assumption | omega)) k_X7_30 rfl (Nat.le_of_ble_eq_true rfl) (by decide) (by decide) ⟨by decide, by decide⟩ dX7_aheadOfPairs_8 ?_
  refine z_iload_n (pc := 11) hO 0 dX7_aheadOfPairs_11 rfl rfl ?_
  refine z_iload_n (pc := 12) hO 1 dX7_aheadOfPairs_12 rfl rfl ?_
  refine z_iload_n (pc := 13) hO 0 dX7_aheadOfPairs_13 rfl rfl ?_
  refine z_iload_n (pc := 14) hO 2 dX7_aheadOfPairs_14 rfl rfl ?_
  refine z_callSIp (pc := 15) hO (As := [.int (zi n), .int (zi p)]) (st := [.int (zi b), .int (zi n), .int (zi (swp n b (p / n))), .int (zi n)]) (c_X7_columnOf (qL Γ) g x n p (by first | assumption | omega) (by first | assumption | omega)) k_X7_20 rfl (Nat.le_of_ble_eq_true rfl) (by decide) (by decide) ⟨by decide, by decide⟩ dX7_aheadOfPairs_15 ?_
  refine z_callSIp (pc := 18) hO (As := [.int (zi n), .int (zi b), .int (zi (p % n))]) (st := [.int (zi (swp n b (p / n))), .int (zi n)]) (c_X7_swapped (qL Γ) g x n b (p % n) (by first | assumption | omega) (by first | assumption | omega) (by first | assumption | omega)) k_X7_30 rfl (Nat.le_of_ble_eq_true rfl) (by decide) (by decide) ⟨by decide, by decide⟩ dX7_aheadOfPairs_18 ?_
  refine z_callSIp (pc := 21) hO (As := [.int (zi n), .int (zi (swp n b (p / n))), .int (zi (swp n b (p % n)))]) (st := []) (c_X7_of (qL Γ) g x n (swp n b (p / n)) (swp n b (p % n))) k_X7_23 rfl (Nat.le_of_ble_eq_true rfl) (by decide) (by decide) ⟨by decide, by decide⟩ dX7_aheadOfPairs_21 ?_
  exact z_iret (pc := 24) hO hr hQ rfl dX7_aheadOfPairs_24 ⟨by first | rfl | omega, rfl⟩

set_option maxHeartbeats 600000 in
theorem c_X1_placeOf (l : Launch) (g : Gl) (x : Me) (q : Nat) (r : Int) (c : Int)  (hq : q < 9) : ctQ l g yX1_placeOf cX1_placeOf 3 (some .int) 2 42 [.ref (gA g (10 + q)), .int (zi r), .int (zi c)] x (QIu g (fun z x' => z = (x (10 + q) 1 * r + c) ∧ x' = x)) := by
  refine ct_start (own := RX1) (lv := [(0, .ref (gA g (10 + q))), (1, .int (zi r)), (2, .int (zi c))]) (plainFor_of_name (by decide)) rfl (Nat.le_of_ble_eq_true rfl) rfl ?_
  intro Γ hΓ hO hr hQ _
  refine z_aload_n (pc := 0) hO 0 dX1_placeOf_0 rfl rfl ?_
  refine gf_X1_side (pc := 1) hO (by omega : q < 9) f_X1_15 dX1_placeOf_1 ?_
  refine z_iload_n (pc := 4) hO 1 dX1_placeOf_4 rfl rfl ?_
  refine z_iload_n (pc := 5) hO 2 dX1_placeOf_5 rfl rfl ?_
  refine z_callSIp (pc := 6) hO (As := [.int (zi (x (10 + q) 1)), .int (zi r), .int (zi c)]) (st := []) (c_X7_of (qL Γ) g x (x (10 + q) 1) r c) k_X1_37 rfl (Nat.le_of_ble_eq_true rfl) (by decide) (by decide) ⟨by decide, by decide⟩ dX1_placeOf_6 ?_
  exact z_iret (pc := 9) hO hr hQ rfl dX1_placeOf_9 ⟨by first | rfl | omega, rfl⟩

set_option maxHeartbeats 600000 in
theorem c_X1_read (l : Launch) (g : Gl) (x : Me) (q : Nat) (p : Int)  (hq : q < 9) (hp : -2147483648 ≤ p ∧ p < 2147483648) : ctQ l g yX1_read cX1_read 2 (some .int) 1 20 [.ref (gA g (10 + q)), .int (zi p)] x (QIu g (fun z x' => z = (nc x q p) ∧ x' = x)) := by
  refine ct_start (own := RX1) (lv := [(0, .ref (gA g (10 + q))), (1, .int (zi p))]) (plainFor_of_name (by decide)) rfl (Nat.le_of_ble_eq_true rfl) rfl ?_
  intro Γ hΓ hO hr hQ _
  refine z_iload_n (pc := 0) hO 1 dX1_read_0 rfl rfl ?_
  refine z_if_lt (pc := 1) hO (tgt := 22) dX1_read_1 (by decide) (by omega) (fun b1 => ?_) (fun b1 => ?_)
  · refine z_iconst (pc := 22) hO dX1_read_22 ?_
    exact z_iret (pc := 23) hO hr hQ rfl dX1_read_23 ⟨by first | (first | exact (nc_in (by omega)).symm | (unfold nc; rw [if_neg (by omega)]); done) | (exfalso; omega), rfl⟩
  · refine z_iload_n (pc := 4) hO 1 dX1_read_4 rfl rfl ?_
    refine z_aload_n (pc := 5) hO 0 dX1_read_5 rfl rfl ?_
    refine gf_X1_numbers (pc := 6) hO (by omega : q < 9) f_X1_9 dX1_read_6 ?_
    refine z_alenI (pc := 9) hO (isI_arr (by omega : q < 9)) dX1_read_9 ?_
    refine z_icmp_ge (pc := 10) hO (tgt := 22) dX1_read_10 (by decide) (by omega) (by omega) (fun b2 => ?_) (fun b2 => ?_)
    · refine z_iconst (pc := 22) hO dX1_read_22 ?_
      exact z_iret (pc := 23) hO hr hQ rfl dX1_read_23 ⟨by first | (first | exact (nc_in (by omega)).symm | (unfold nc; rw [if_neg (by omega)]); done) | (exfalso; omega), rfl⟩
    · refine z_aload_n (pc := 13) hO 0 dX1_read_13 rfl rfl ?_
      refine gf_X1_numbers (pc := 14) hO (by omega : q < 9) f_X1_9 dX1_read_14 ?_
      refine z_iload_n (pc := 17) hO 1 dX1_read_17 rfl rfl ?_
      refine z_iald (pc := 18) hO (isI_arr (by omega : q < 9)) (by omega) dX1_read_18 ?_
      refine z_goto (pc := 19) hO (tgt := 23) dX1_read_19 (by decide) ?_
      exact z_iret (pc := 23) hO hr hQ rfl dX1_read_23 ⟨by first | (first | exact (nc_in (by omega)).symm | (unfold nc; rw [if_neg (by omega)]); done) | (exfalso; omega), rfl⟩

set_option maxHeartbeats 600000 in
theorem c_X1_write (l : Launch) (g : Gl) (x : Me) (q : Nat) (p : Int) (v : Int)  (hq : q < 9) (hp : 0 ≤ p ∧ p < 81) : ctQ l g yX1_write cX1_write 4 (some .int) 1 20 [.ref (gA g (10 + q)), .int (zi p), .int (zi v)] x (QIu g (fun z x' => z = (x (20 + q) p) ∧ x' = up x (20 + q) p v)) := by
  refine ct_start (own := RX1) (lv := [(0, .ref (gA g (10 + q))), (1, .int (zi p)), (2, .int (zi v))]) (plainFor_of_name (by decide)) rfl (Nat.le_of_ble_eq_true rfl) rfl ?_
  intro Γ hΓ hO hr hQ _
  refine z_iload_n (pc := 0) hO 1 dX1_write_0 rfl rfl ?_
  refine z_if_lt (pc := 1) hO (tgt := 13) dX1_write_1 (by decide) (by omega) (fun b1 => ?_) (fun b1 => ?_)
  · refine z_iconst (pc := 13) hO dX1_write_13 ?_
    exact z_iret (pc := 14) hO hr hQ rfl dX1_write_14 (by first | (exact ⟨by first | rfl | omega, by assumption⟩; done) | (exfalso; omega))
  · refine z_iload_n (pc := 4) hO 1 dX1_write_4 rfl rfl ?_
    refine z_aload_n (pc := 5) hO 0 dX1_write_5 rfl rfl ?_
    refine gf_X1_numbers (pc := 6) hO (by omega : q < 9) f_X1_9 dX1_write_6 ?_
    refine z_alenI (pc := 9) hO (isI_arr (by omega : q < 9)) dX1_write_9 ?_
    refine z_icmp_lt (pc := 10) hO (tgt := 15) dX1_write_10 (by decide) (by omega) (by omega) (fun b2 => ?_) (fun b2 => ?_)
    · refine z_aload_n (pc := 15) hO 0 dX1_write_15 rfl rfl ?_
      refine gf_X1_numbers (pc := 16) hO (by omega : q < 9) f_X1_9 dX1_write_16 ?_
      refine z_iload_n (pc := 19) hO 1 dX1_write_19 rfl rfl ?_
      refine z_iald (pc := 20) hO (isI_arr (by omega : q < 9)) (by omega) dX1_write_20 ?_
      refine z_istore_n (pc := 21) hO (lv' := [(3, .int (zi (x (20 + q) p))), (0, .ref (gA g (10 + q))), (1, .int (zi p)), (2, .int (zi v))]) dX1_write_21 rfl (by decide) rfl ?_
      refine z_aload_n (pc := 22) hO 1 dX1_write_22 rfl rfl ?_
      refine gf_X1_numbers (pc := 23) hO (by omega : q < 9) f_X1_9 dX1_write_23 ?_
      refine z_iload_n (pc := 26) hO 2 dX1_write_26 rfl rfl ?_
      refine z_iload_n (pc := 27) hO 3 dX1_write_27 rfl rfl ?_
      refine z_iast (pc := 28) hO (isI_arr (by omega : q < 9)) (by omega) dX1_write_28 (fun m3 e4 => ?_)
      refine z_iload_n (pc := 29) hO 0 dX1_write_29 rfl rfl ?_
      exact z_iret (pc := 30) hO hr hQ rfl dX1_write_30 (by first | (exact ⟨by first | rfl | omega, by assumption⟩; done) | (exfalso; omega))
    · refine z_iconst (pc := 13) hO dX1_write_13 ?_
      exact z_iret (pc := 14) hO hr hQ rfl dX1_write_14 (by first | (exact ⟨by first | rfl | omega, by assumption⟩; done) | (exfalso; omega))

set_option maxHeartbeats 600000 in
theorem c_X1_begin (l : Launch) (g : Gl) (x : Me) (q : Nat) (s : Int)  (hq : q < 9) : ctQ l g yX1_begin cX1_begin 3 none 1 20 [.ref (gA g (10 + q)), .int (zi s)] x (QVu g (fun x' => x' = clr (up x (10 + q) 1 s) (20 + q) 81)) := by
  refine ct_start (own := RX1) (lv := [(0, .ref (gA g (10 + q))), (1, .int (zi s))]) (plainFor_of_name (by decide)) rfl (Nat.le_of_ble_eq_true rfl) rfl ?_
  intro Γ hΓ hO hr hQ _
  refine z_aload_n (pc := 0) hO 0 dX1_begin_0 rfl rfl ?_
  refine z_iload_n (pc := 1) hO 1 dX1_begin_1 rfl rfl ?_
  refine pf_X1_side (pc := 2) hO (by omega : q < 9) f_X1_15 dX1_begin_2 (fun m1 e2 => ?_)
  refine z_iconst (pc := 5) hO dX1_begin_5 ?_
  refine z_istore_n (pc := 6) hO (lv' := [(2, .int (zi 0)), (0, .ref (gA g (10 + q))), (1, .int (zi s))]) dX1_begin_6 rfl (by decide) rfl ?_
  have L7 : ∀ (N : Nat) (i : Int) (y : Me), (81 - i).toNat < N → (0 ≤ i ∧ i ≤ 81) → (y = clr (up x (10 + q) 1 s) (20 + q) i) → Zz Γ g 3 0 0 y 7 [(0, .ref (gA g (10 + q))), (1, .int (zi s)), (2, .int (zi i))] [] := by
    intro N
    induction N with
    | zero => intro i y hm; exact absurd hm (Nat.not_lt_zero _)
    | succ N ih7 =>
      intro i y hm h0 hy
      refine z_iload_n (pc := 7) hO 2 dX1_begin_7 rfl rfl ?_
      refine z_aload_n (pc := 8) hO 0 dX1_begin_8 rfl rfl ?_
      refine gf_X1_numbers (pc := 9) hO (by omega : q < 9) f_X1_9 dX1_begin_9 ?_
      refine z_alenI (pc := 12) hO (isI_arr (by omega : q < 9)) dX1_begin_12 ?_
      refine z_icmp_ge (pc := 13) hO (tgt := 29) dX1_begin_13 (by decide) (by omega) (by omega) (fun b3 => ?_) (fun b3 => ?_)
      · exact z_vret (pc := 29) hO hr hQ dX1_begin_29 (by first | (rw [hy]; congr 1; omega; done) | (exfalso; omega))
      · refine z_aload_n (pc := 16) hO 0 dX1_begin_16 rfl rfl ?_
        refine gf_X1_numbers (pc := 17) hO (by omega : q < 9) f_X1_9 dX1_begin_17 ?_
        refine z_iload_n (pc := 20) hO 2 dX1_begin_20 rfl rfl ?_
        refine z_iconst (pc := 21) hO dX1_begin_21 ?_
        refine z_iast (pc := 22) hO (isI_arr (by omega : q < 9)) (by omega) dX1_begin_22 (fun m4 e5 => ?_)
        refine z_iinc (pc := 23) hO 2 (lv' := [(2, .int (zi (i + 1))), (0, .ref (gA g (10 + q))), (1, .int (zi s))]) dX1_begin_23 rfl (by decide) rfl ?_
        refine z_goto (pc := 26) hO (tgt := 7) dX1_begin_26 (by decide) ?_
        refine z_sub [1, 2, 0] rfl ?_
        exact ih7 (i + 1) m4 (by omega) (by omega) (by rw [← clr_s _ _ (by omega), ← hy]; assumption)
  refine z_sub [1, 2, 0] rfl ?_
  exact L7 _ 0 m1 (Nat.lt_succ_self _) (by omega) (by rw [clr_0]; assumption)

set_option maxHeartbeats 600000 in
theorem c_X1_countOf (l : Launch) (g : Gl) (x : Me) (q : Nat) (v : Int)  (hq : q < 9) (hs : 1 ≤ x (10 + q) 1 ∧ x (10 + q) 1 ≤ 9) (hv : 0 ≤ v ∧ v ≤ 999) (hf : ∀ p, 0 ≤ p → p < 81 → 0 ≤ x (20 + q) p ∧ x (20 + q) p ≤ 999) : ctQ l g yX1_countOf cX1_countOf 4 (some .int) 2 41 [.ref (gA g (10 + q)), .int (zi v)] x (QIu g (fun z x' => z = (cnt (x (10 + q) 1) (nc x q) v) ∧ x' = x)) := by
  refine ct_start (own := RX1) (lv := [(0, .ref (gA g (10 + q))), (1, .int (zi v))]) (plainFor_of_name (by decide)) rfl (Nat.le_of_ble_eq_true rfl) rfl ?_
  intro Γ hΓ hO hr hQ _
  have h9 := sq9 hs
  refine z_iconst (pc := 0) hO dX1_countOf_0 ?_
  refine z_istore_n (pc := 1) hO (lv' := [(2, .int (zi 0)), (0, .ref (gA g (10 + q))), (1, .int (zi v))]) dX1_countOf_1 rfl (by decide) rfl ?_
  refine z_iconst (pc := 2) hO dX1_countOf_2 ?_
  refine z_istore_n (pc := 3) hO (lv' := [(3, .int (zi 0)), (2, .int (zi 0)), (0, .ref (gA g (10 + q))), (1, .int (zi v))]) dX1_countOf_3 rfl (by decide) rfl ?_
  have L4 : ∀ (N : Nat) (i : Int) (s : Int), (x (10 + q) 1 * x (10 + q) 1 - i).toNat < N → (0 ≤ i ∧ i ≤ x (10 + q) 1 * x (10 + q) 1) → (s = sm (fun p => if nc x q p = v then 1 else 0) i.toNat) → Zz Γ g 4 0 0 x 4 [(0, .ref (gA g (10 + q))), (1, .int (zi v)), (2, .int (zi s)), (3, .int (zi i))] [] := by
    intro N
    induction N with
    | zero => intro i s hm; exact absurd hm (Nat.not_lt_zero _)
    | succ N ih4 =>
      intro i s hm h0 hsum
      have hf2 := hf i
      refine z_iload_n (pc := 4) hO 3 dX1_countOf_4 rfl rfl ?_
      refine z_aload_n (pc := 5) hO 0 dX1_countOf_5 rfl rfl ?_
      refine z_callVIp (pc := 6) hO (As := []) (st := [.int (zi i)]) (c_X1_size (qL Γ) g x q (by first | assumption | omega)) k_X1_26 (isO_fig (by omega : q < 9)) rfl (Nat.le_of_ble_eq_true rfl) (by decide) (by decide) ⟨by decide, by decide⟩ dX1_countOf_6 ?_
      refine z_icmp_ge (pc := 9) hO (tgt := 30) dX1_countOf_9 (by decide) (by omega) (by omega) (fun b1 => ?_) (fun b1 => ?_)
      · refine z_iload_n (pc := 30) hO 2 dX1_countOf_30 rfl rfl ?_
        exact z_iret (pc := 31) hO hr hQ rfl dX1_countOf_31 ⟨by first | (unfold cnt; rw [hsum]; congr 2; omega; done) | (exfalso; omega), rfl⟩
      · refine z_aload_n (pc := 12) hO 0 dX1_countOf_12 rfl rfl ?_
        refine z_iload_n (pc := 13) hO 3 dX1_countOf_13 rfl rfl ?_
        refine z_callVIp (pc := 14) hO (As := [.int (zi i)]) (st := []) (c_X1_read (qL Γ) g x q i (by first | assumption | omega) (by first | assumption | omega)) k_X1_29 (isO_fig (by omega : q < 9)) rfl (Nat.le_of_ble_eq_true rfl) (by decide) (by decide) ⟨by decide, by decide⟩ dX1_countOf_14 ?_
        refine z_iload_n (pc := 17) hO 1 dX1_countOf_17 rfl rfl ?_
        refine z_icmp_ne (pc := 18) hO (tgt := 24) dX1_countOf_18 (by decide) (by first | omega | (rw [nc_in (by omega)]; have := hf i (by omega) (by omega); omega)) (by first | omega | (rw [nc_in (by omega)]; have := hf i (by omega) (by omega); omega)) (fun b2 => ?_) (fun b2 => ?_)
        · refine z_iinc (pc := 24) hO 3 (lv' := [(3, .int (zi (i + 1))), (0, .ref (gA g (10 + q))), (1, .int (zi v)), (2, .int (zi s))]) dX1_countOf_24 rfl (by decide) rfl ?_
          refine z_goto (pc := 27) hO (tgt := 4) dX1_countOf_27 (by decide) ?_
          refine z_sub [1, 2, 3, 0] rfl ?_
          exact ih4 (i + 1) s (by omega) (by omega) (by rw [sm_s _ (by omega)]; simp only [*]; simp)
        · refine z_iinc (pc := 21) hO 2 (lv' := [(2, .int (zi (s + 1))), (0, .ref (gA g (10 + q))), (1, .int (zi v)), (3, .int (zi i))]) dX1_countOf_21 rfl (by decide) rfl ?_
          refine z_iinc (pc := 24) hO 3 (lv' := [(3, .int (zi (i + 1))), (2, .int (zi (s + 1))), (0, .ref (gA g (10 + q))), (1, .int (zi v))]) dX1_countOf_24 rfl (by decide) rfl ?_
          refine z_goto (pc := 27) hO (tgt := 4) dX1_countOf_27 (by decide) ?_
          refine z_sub [2, 3, 1, 0] rfl ?_
          exact ih4 (i + 1) (s + 1) (by omega) (by omega) (by rw [sm_s _ (by omega)]; simp only [*]; simp)
  refine z_sub [2, 3, 1, 0] rfl ?_
  exact L4 _ 0 0 (Nat.lt_succ_self _) (by omega) (by rfl)




