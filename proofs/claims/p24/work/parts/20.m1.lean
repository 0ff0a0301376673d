set_option maxHeartbeats 600000 in
theorem c_J9_max_7cf53 (l : Launch) (g : Gl) (x : Me) (a : Int) (b : Int)  (ha : -2147483648 ≤ a ∧ a < 2147483648) (hb : -2147483648 ≤ b ∧ b < 2147483648) : ctQ l g yJ9_max_7cf53 cJ9_max_7cf53 2 (some .int) 1 20 [.int (zi a), .int (zi b)] x (QIu g (fun z x' => z = (max a b) ∧ x' = x)) := by
  refine ct_start (own := RJ9) (lv := [(0, .int (zi a)), (1, .int (zi b))]) (by decide +kernel) rfl (Nat.le_of_ble_eq_true rfl) rfl ?_
  intro Γ hΓ hO hr hQ _
  refine z_iload_n (pc := 0) hO 0 dJ9_max_7cf53_0 rfl rfl ?_
  refine z_iload_n (pc := 1) hO 1 dJ9_max_7cf53_1 rfl rfl ?_
  refine z_icmp_lt (pc := 2) hO (tgt := 9) dJ9_max_7cf53_2 (by decide) (by omega) (by omega) (fun b1 => ?_) (fun b1 => ?_)
  · refine z_iload_n (pc := 9) hO 1 dJ9_max_7cf53_9 rfl rfl ?_
    exact z_iret (pc := 10) hO hr hQ rfl dJ9_max_7cf53_10 ⟨by first | rfl | omega, rfl⟩
  · refine z_iload_n (pc := 5) hO 0 dJ9_max_7cf53_5 rfl rfl ?_
    refine z_goto (pc := 6) hO (tgt := 10) dJ9_max_7cf53_6 (by decide) ?_
    exact z_iret (pc := 10) hO hr hQ rfl dJ9_max_7cf53_10 ⟨by first | rfl | omega, rfl⟩

set_option maxHeartbeats 600000 in
theorem c_J9_min_7cf53 (l : Launch) (g : Gl) (x : Me) (a : Int) (b : Int)  (ha : -2147483648 ≤ a ∧ a < 2147483648) (hb : -2147483648 ≤ b ∧ b < 2147483648) : ctQ l g yJ9_min_7cf53 cJ9_min_7cf53 2 (some .int) 1 20 [.int (zi a), .int (zi b)] x (QIu g (fun z x' => z = (min a b) ∧ x' = x)) := by
  refine ct_start (own := RJ9) (lv := [(0, .int (zi a)), (1, .int (zi b))]) (by decide +kernel) rfl (Nat.le_of_ble_eq_true rfl) rfl ?_
  intro Γ hΓ hO hr hQ _
  refine z_iload_n (pc := 0) hO 0 dJ9_min_7cf53_0 rfl rfl ?_
  refine z_iload_n (pc := 1) hO 1 dJ9_min_7cf53_1 rfl rfl ?_
  refine z_icmp_gt (pc := 2) hO (tgt := 9) dJ9_min_7cf53_2 (by decide) (by omega) (by omega) (fun b1 => ?_) (fun b1 => ?_)
  · refine z_iload_n (pc := 9) hO 1 dJ9_min_7cf53_9 rfl rfl ?_
    exact z_iret (pc := 10) hO hr hQ rfl dJ9_min_7cf53_10 ⟨by first | rfl | omega, rfl⟩
  · refine z_iload_n (pc := 5) hO 0 dJ9_min_7cf53_5 rfl rfl ?_
    refine z_goto (pc := 6) hO (tgt := 10) dJ9_min_7cf53_6 (by decide) ?_
    exact z_iret (pc := 10) hO hr hQ rfl dJ9_min_7cf53_10 ⟨by first | rfl | omega, rfl⟩

theorem tm_pos {a b : Int} (ha : 0 ≤ a) : Int.tmod a b = a % b := Int.tmod_eq_emod_of_nonneg ha
theorem tm_neg {a b : Int} (ha : a < 0) (hb : 0 < b) : (Int.tmod a b = 0 ∧ a % b = 0) ∨ (Int.tmod a b < 0 ∧ a % b = Int.tmod a b + b ∧ -b < Int.tmod a b) := by
  have h1 := Int.tmod_eq_emod (a := a) (b := b)
  have h2 := Int.emod_nonneg a (show b ≠ 0 by omega)
  have h3 := Int.emod_lt_of_pos a hb
  by_cases hd : b ∣ a
  · left
    have h4 : a % b = 0 := Int.emod_eq_zero_of_dvd hd
    rw [if_pos (Or.inr hd)] at h1
    omega
  · right
    have h4 : a % b ≠ 0 := fun h => hd (Int.dvd_of_emod_eq_zero h)
    rw [if_neg (by rintro (h | h); omega; exact hd h)] at h1
    omega
theorem xor_sgn {a b : Int} (ha : -2147483648 ≤ a ∧ a < 2147483648) (hb : 0 < b ∧ b < 2147483648) : (zi a ^^^ zi b).toInt < 0 ↔ a < 0 := by
  have e1 : (zi a).toInt < 0 ↔ (zi a).toBitVec.msb = true := by
    rw [← Int32.toInt_toBitVec, BitVec.toInt_neg_iff, BitVec.msb_eq_true_iff_two_mul_ge]
  have e2 : (zi a ^^^ zi b).toInt < 0 ↔ (zi a ^^^ zi b).toBitVec.msb = true := by
    rw [← Int32.toInt_toBitVec, BitVec.toInt_neg_iff, BitVec.msb_eq_true_iff_two_mul_ge]
  have e3 : (zi b).toInt < 0 ↔ (zi b).toBitVec.msb = true := by
    rw [← Int32.toInt_toBitVec, BitVec.toInt_neg_iff, BitVec.msb_eq_true_iff_two_mul_ge]
  rw [zi_toInt (by omega)] at e1 e3
  have e4 : (zi b).toBitVec.msb = false := by
    cases h : (zi b).toBitVec.msb
    · rfl
    · have := e3.mpr h; omega
  rw [e2, Int32.toBitVec_xor, BitVec.msb_xor, e4, Bool.xor_false, ← e1]
theorem xorl_sgn {a b : Int} (ha : -9223372036854775808 ≤ a ∧ a < 9223372036854775808) (hb : 0 < b ∧ b < 9223372036854775808) : (zl a ^^^ zl b).toInt < 0 ↔ a < 0 := by
  have e1 : (zl a).toInt < 0 ↔ (zl a).toBitVec.msb = true := by
    rw [← Int64.toInt_toBitVec, BitVec.toInt_neg_iff, BitVec.msb_eq_true_iff_two_mul_ge]
  have e2 : (zl a ^^^ zl b).toInt < 0 ↔ (zl a ^^^ zl b).toBitVec.msb = true := by
    rw [← Int64.toInt_toBitVec, BitVec.toInt_neg_iff, BitVec.msb_eq_true_iff_two_mul_ge]
  have e3 : (zl b).toInt < 0 ↔ (zl b).toBitVec.msb = true := by
    rw [← Int64.toInt_toBitVec, BitVec.toInt_neg_iff, BitVec.msb_eq_true_iff_two_mul_ge]
  rw [zl_toInt (by omega)] at e1 e3
  have e4 : (zl b).toBitVec.msb = false := by
    cases h : (zl b).toBitVec.msb
    · rfl
    · have := e3.mpr h; omega
  rw [e2, Int64.toBitVec_xor, BitVec.msb_xor, e4, Bool.xor_false, ← e1]
set_option maxHeartbeats 600000 in
theorem c_J9_floorMod_7cf53 (l : Launch) (g : Gl) (x : Me) (a : Int) (b : Int)  (ha : -1073741824 ≤ a ∧ a < 1073741824) (hb : 0 < b ∧ b < 1073741824) : ctQ l g yJ9_floorMod_7cf53 cJ9_floorMod_7cf53 3 (some .int) 1 20 [.int (zi a), .int (zi b)] x (QIu g (fun z x' => z = (a % b) ∧ x' = x)) := by
  refine ct_start (own := RJ9) (lv := [(0, .int (zi a)), (1, .int (zi b))]) (by decide +kernel) rfl (Nat.le_of_ble_eq_true rfl) rfl ?_
  intro Γ hΓ hO hr hQ _
  have hx := xor_sgn (a := a) (b := b) (by omega) (by omega)
  have hm : (0 ≤ a ∧ Int.tmod a b = a % b ∧ 0 ≤ a % b ∧ a % b < b) ∨ (a < 0 ∧ Int.tmod a b = 0 ∧ a % b = 0) ∨ (a < 0 ∧ Int.tmod a b < 0 ∧ a % b = Int.tmod a b + b ∧ -b < Int.tmod a b) := by
      by_cases h : 0 ≤ a
      · exact Or.inl ⟨h, tm_pos h, Int.emod_nonneg a (by omega), Int.emod_lt_of_pos a (by omega)⟩
      · rcases tm_neg (a := a) (b := b) (by omega) (by omega) with q | q
        · exact Or.inr (Or.inl ⟨by omega, q.1, q.2⟩)
        · exact Or.inr (Or.inr ⟨by omega, q.1, q.2.1, q.2.2⟩)
  refine z_iload_n (pc := 0) hO 0 dJ9_floorMod_7cf53_0 rfl rfl ?_
  refine z_iload_n (pc := 1) hO 1 dJ9_floorMod_7cf53_1 rfl rfl ?_
  refine z_iremS (pc := 2) hO dJ9_floorMod_7cf53_2 (by omega) (by omega) ?_
  refine z_istore_n (pc := 3) hO (lv' := [(2, .int (zi (Int.tmod a b))), (0, .int (zi a)), (1, .int (zi b))]) dJ9_floorMod_7cf53_3 rfl (by decide) rfl ?_
  refine z_iload_n (pc := 4) hO 1 dJ9_floorMod_7cf53_4 rfl rfl ?_
  refine z_iload_n (pc := 5) hO 2 dJ9_floorMod_7cf53_5 rfl rfl ?_
  refine z_ixor (pc := 6) hO (zi ((zi a ^^^ zi b).toInt)) dJ9_floorMod_7cf53_6 (by exact (zi_all _).symm) ?_
  refine z_if_ge (pc := 7) hO (tgt := 18) dJ9_floorMod_7cf53_7 (by decide) (by exact zi_rng _) (fun b1 => ?_) (fun b1 => ?_)
  · refine z_iload_n (pc := 18) hO 0 dJ9_floorMod_7cf53_18 rfl rfl ?_
    exact z_iret (pc := 19) hO hr hQ rfl dJ9_floorMod_7cf53_19 ⟨by first | rfl | omega, rfl⟩
  · refine z_iload_n (pc := 10) hO 0 dJ9_floorMod_7cf53_10 rfl rfl ?_
    refine z_if_eq (pc := 11) hO (tgt := 18) dJ9_floorMod_7cf53_11 (by decide) (by omega) (fun b2 => ?_) (fun b2 => ?_)
    · refine z_iload_n (pc := 18) hO 0 dJ9_floorMod_7cf53_18 rfl rfl ?_
      exact z_iret (pc := 19) hO hr hQ rfl dJ9_floorMod_7cf53_19 ⟨by first | rfl | omega, rfl⟩
    · refine z_iload_n (pc := 14) hO 0 dJ9_floorMod_7cf53_14 rfl rfl ?_
      refine z_iload_n (pc := 15) hO 2 dJ9_floorMod_7cf53_15 rfl rfl ?_
      refine z_iadd (pc := 16) hO dJ9_floorMod_7cf53_16 ?_
      exact z_iret (pc := 17) hO hr hQ rfl dJ9_floorMod_7cf53_17 ⟨by first | rfl | omega, rfl⟩


set_option maxHeartbeats 600000 in
theorem c_X7_of (l : Launch) (g : Gl) (x : Me) (n : Int) (r : Int) (c : Int)   : ctQ l g yX7_of cX7_of 3 (some .int) 1 20 [.int (zi n), .int (zi r), .int (zi c)] x (QIu g (fun z x' => z = (n * r + c) ∧ x' = x)) := by
  refine ct_start (own := RX7) (lv := [(0, .int (zi n)), (1, .int (zi r)), (2, .int (zi c))]) (plainFor_of_name (by decide)) rfl (Nat.le_of_ble_eq_true rfl) rfl ?_
  intro Γ hΓ hO hr hQ _
  refine z_iload_n (pc := 0) hO 0 dX7_of_0 rfl rfl ?_
  refine z_iload_n (pc := 1) hO 1 dX7_of_1 rfl rfl ?_
  refine z_imul (pc := 2) hO dX7_of_2 ?_
  refine z_iload_n (pc := 3) hO 2 dX7_of_3 rfl rfl ?_
  refine z_iadd (pc := 4) hO dX7_of_4 ?_
  exact z_iret (pc := 5) hO hr hQ rfl dX7_of_5 ⟨by first | rfl | omega, rfl⟩

set_option maxHeartbeats 600000 in
theorem c_X7_rowOf (l : Launch) (g : Gl) (x : Me) (n : Int) (p : Int)  (hn : 1 ≤ n ∧ n ≤ 9) (hp : 0 ≤ p ∧ p < 1000) : ctQ l g yX7_rowOf cX7_rowOf 2 (some .int) 1 20 [.int (zi n), .int (zi p)] x (QIu g (fun z x' => z = (p / n) ∧ x' = x)) := by
  refine ct_start (own := RX7) (lv := [(0, .int (zi n)), (1, .int (zi p))]) (plainFor_of_name (by decide)) rfl (Nat.le_of_ble_eq_true rfl) rfl ?_
  intro Γ hΓ hO hr hQ _
  refine z_iload_n (pc := 0) hO 0 dX7_rowOf_0 rfl rfl ?_
  refine z_iconst (pc := 1) hO dX7_rowOf_1 ?_
  refine z_icmp_ge (pc := 2) hO (tgt := 9) dX7_rowOf_2 (by decide) (by omega) (by omega) (fun b1 => ?_) (fun b1 => ?_)
  · refine z_iload_n (pc := 9) hO 1 dX7_rowOf_9 rfl rfl ?_
    refine z_iload_n (pc := 10) hO 0 dX7_rowOf_10 rfl rfl ?_
    refine z_idiv (pc := 11) hO dX7_rowOf_11 (by omega) (by omega) ?_
    exact z_iret (pc := 12) hO hr hQ rfl dX7_rowOf_12 ⟨by first | rfl | omega, rfl⟩
  · refine z_iconst (pc := 5) hO dX7_rowOf_5 ?_
    refine z_goto (pc := 6) hO (tgt := 12) dX7_rowOf_6 (by decide) ?_
    exact z_iret (pc := 12) hO hr hQ rfl dX7_rowOf_12 ⟨by first | rfl | omega, rfl⟩

set_option maxHeartbeats 600000 in
theorem c_X7_columnOf (l : Launch) (g : Gl) (x : Me) (n : Int) (p : Int)  (hn : 1 ≤ n ∧ n ≤ 9) (hp : 0 ≤ p ∧ p < 1000) : ctQ l g yX7_columnOf cX7_columnOf 2 (some .int) 1 20 [.int (zi n), .int (zi p)] x (QIu g (fun z x' => z = (p % n) ∧ x' = x)) := by
  refine ct_start (own := RX7) (lv := [(0, .int (zi n)), (1, .int (zi p))]) (plainFor_of_name (by decide)) rfl (Nat.le_of_ble_eq_true rfl) rfl ?_
  intro Γ hΓ hO hr hQ _
  refine z_iload_n (pc := 0) hO 0 dX7_columnOf_0 rfl rfl ?_
  refine z_iconst (pc := 1) hO dX7_columnOf_1 ?_
  refine z_icmp_ge (pc := 2) hO (tgt := 9) dX7_columnOf_2 (by decide) (by omega) (by omega) (fun b1 => ?_) (fun b1 => ?_)
  · refine z_iload_n (pc := 9) hO 1 dX7_columnOf_9 rfl rfl ?_
    refine z_iload_n (pc := 10) hO 0 dX7_columnOf_10 rfl rfl ?_
    refine z_irem (pc := 11) hO dX7_columnOf_11 (by omega) (by omega) ?_
    exact z_iret (pc := 12) hO hr hQ rfl dX7_columnOf_12 ⟨by first | rfl | omega, rfl⟩
  · refine z_iconst (pc := 5) hO dX7_columnOf_5 ?_
    refine z_goto (pc := 6) hO (tgt := 12) dX7_columnOf_6 (by decide) ?_
    exact z_iret (pc := 12) hO hr hQ rfl dX7_columnOf_12 ⟨by first | rfl | omega, rfl⟩

set_option maxHeartbeats 600000 in
theorem c_X7_wrap (l : Launch) (g : Gl) (x : Me) (v : Int) (n : Int)  (hn : 1 ≤ n ∧ n ≤ 9) (hp : -1000 ≤ v ∧ v < 1000) : ctQ l g yX7_wrap cX7_wrap 2 (some .int) 2 42 [.int (zi v), .int (zi n)] x (QIu g (fun z x' => z = (v % n) ∧ x' = x)) := by
  refine ct_start (own := RX7) (lv := [(0, .int (zi v)), (1, .int (zi n))]) (plainFor_of_name (by decide)) rfl (Nat.le_of_ble_eq_true rfl) rfl ?_
  intro Γ hΓ hO hr hQ _
  refine z_iload_n (pc := 0) hO 1 dX7_wrap_0 rfl rfl ?_
  refine z_iconst (pc := 1) hO dX7_wrap_1 ?_
  refine z_icmp_ge (pc := 2) hO (tgt := 9) dX7_wrap_2 (by decide) (by omega) (by omega) (fun b1 => ?_) (fun b1 => ?_)
  · refine z_iload_n (pc := 9) hO 0 dX7_wrap_9 rfl rfl ?_
    refine z_iload_n (pc := 10) hO 1 dX7_wrap_10 rfl rfl ?_
    refine z_callSIp (pc := 11) hO (As := [.int (zi v), .int (zi n)]) (st := []) (c_J9_floorMod_7cf53 (qL Γ) g x v n (by first | assumption | omega) (by first | assumption | omega)) k_X7_9 rfl (Nat.le_of_ble_eq_true rfl) (by decide) (by decide) ⟨by decide, by decide⟩ dX7_wrap_11 ?_
    exact z_iret (pc := 14) hO hr hQ rfl dX7_wrap_14 ⟨by first | rfl | omega, rfl⟩
  · refine z_iconst (pc := 5) hO dX7_wrap_5 ?_
    refine z_goto (pc := 6) hO (tgt := 14) dX7_wrap_6 (by decide) ?_
    exact z_iret (pc := 14) hO hr hQ rfl dX7_wrap_14 ⟨by first | rfl | omega, rfl⟩

set_option maxHeartbeats 600000 in
theorem c_X1_side (l : Launch) (g : Gl) (x : Me) (q : Nat)  (hq : q < 9) : ctQ l g yX1_side cX1_side 1 (some .int) 1 20 [.ref (gA g (10 + q))] x (QIu g (fun z x' => z = (x (10 + q) 1) ∧ x' = x)) := by
  refine ct_start (own := RX1) (lv := [(0, .ref (gA g (10 + q)))]) (plainFor_of_name (by decide)) rfl (Nat.le_of_ble_eq_true rfl) rfl ?_
  intro Γ hΓ hO hr hQ _
  refine z_aload_n (pc := 0) hO 0 dX1_side_0 rfl rfl ?_
  refine gf_X1_side (pc := 1) hO (by omega : q < 9) f_X1_15 dX1_side_1 ?_
  exact z_iret (pc := 4) hO hr hQ rfl dX1_side_4 ⟨by first | rfl | omega, rfl⟩

set_option maxHeartbeats 600000 in
theorem c_X1_size (l : Launch) (g : Gl) (x : Me) (q : Nat)  (hq : q < 9) : ctQ l g yX1_size cX1_size 1 (some .int) 1 20 [.ref (gA g (10 + q))] x (QIu g (fun z x' => z = (x (10 + q) 1 * x (10 + q) 1) ∧ x' = x)) := by
  refine ct_start (own := RX1) (lv := [(0, .ref (gA g (10 + q)))]) (plainFor_of_name (by decide)) rfl (Nat.le_of_ble_eq_true rfl) rfl ?_
  intro Γ hΓ hO hr hQ _
  refine z_aload_n (pc := 0) hO 0 dX1_size_0 rfl rfl ?_
  refine gf_X1_side (pc := 1) hO (by omega : q < 9) f_X1_15 dX1_size_1 ?_
  refine z_aload_n (pc := 4) hO 0 dX1_size_4 rfl rfl ?_
  refine gf_X1_side (pc := 5) hO (by omega : q < 9) f_X1_15 dX1_size_5 ?_
  refine z_imul (pc := 8) hO dX1_size_8 ?_
  exact z_iret (pc := 9) hO hr hQ rfl dX1_size_9 ⟨by first | rfl | omega, rfl⟩

