set_option maxHeartbeats 4000000 in
theorem c_X12_thrown (l : Launch) (g : Gl) (x : Me)    : ctQ l g yX12_thrown cX12_thrown 1 (some .int) 1 20 [.ref (gA g 50)] x (QIu g (fun z x' => z = (x 50 0) ∧ x' = x)) := by
  refine ct_start (own := RX12) (lv := [(0, .ref (gA g 50))]) (plainFor_of_name (by decide)) rfl (Nat.le_of_ble_eq_true rfl) rfl ?_
  intro Γ hΓ hO hr hQ _
  refine z_aload_n (pc := 0) hO 0 dX12_thrown_0 rfl rfl ?_
  refine gf_X12_thrown (pc := 1) hO f_X12_48 dX12_thrown_1 ?_
  exact z_iret (pc := 4) hO hr hQ rfl dX12_thrown_4 ⟨by first | rfl | omega, rfl⟩

set_option maxHeartbeats 4000000 in
theorem c_X12_isFine0 (l : Launch) (g : Gl) (x : Me) (t : Int)  (ht : t = 0) : ctQ l g yX12_isFine cX12_isFine 2 (some .boolean) 1 20 [.ref (gA g 50), .int (zi t)] x (QIu g (fun z x' => z = 1 ∧ x' = up x 50 0 t)) := by
  refine ct_start (own := RX12) (lv := [(0, .ref (gA g 50)), (1, .int (zi t))]) (plainFor_of_name (by decide)) rfl (Nat.le_of_ble_eq_true rfl) rfl ?_
  intro Γ hΓ hO hr hQ _
  refine z_aload_n (pc := 0) hO 0 dX12_isFine_0 rfl rfl ?_
  refine z_iload_n (pc := 1) hO 1 dX12_isFine_1 rfl rfl ?_
  refine pf_X12_thrown (pc := 2) hO f_X12_48 dX12_isFine_2 (fun m1 e2 => ?_)
  refine z_iload_n (pc := 5) hO 1 dX12_isFine_5 rfl rfl ?_
  refine z_if_ne (pc := 6) hO (tgt := 13) dX12_isFine_6 (by decide) (by omega) (fun b3 => ?_) (fun b3 => ?_)
  · refine z_iconst (pc := 13) hO dX12_isFine_13 ?_
    exact z_iret (pc := 14) hO hr hQ rfl dX12_isFine_14 (by first | exact ⟨rfl, by assumption⟩ | (constructor <;> first | rfl | assumption | omega))
  · refine z_iconst (pc := 9) hO dX12_isFine_9 ?_
    refine z_goto (pc := 10) hO (tgt := 14) dX12_isFine_10 (by decide) ?_
    exact z_iret (pc := 14) hO hr hQ rfl dX12_isFine_14 (by first | exact ⟨rfl, by assumption⟩ | (constructor <;> first | rfl | assumption | omega))

set_option maxHeartbeats 4000000 in
theorem c_X12_isFine1 (l : Launch) (g : Gl) (x : Me) (t : Int)  (ht : 1 ≤ t ∧ t ≤ 9) : ctQ l g yX12_isFine cX12_isFine 2 (some .boolean) 1 20 [.ref (gA g 50), .int (zi t)] x (QIu g (fun z x' => z = 0 ∧ x' = up x 50 0 t)) := by
  refine ct_start (own := RX12) (lv := [(0, .ref (gA g 50)), (1, .int (zi t))]) (plainFor_of_name (by decide)) rfl (Nat.le_of_ble_eq_true rfl) rfl ?_
  intro Γ hΓ hO hr hQ _
  refine z_aload_n (pc := 0) hO 0 dX12_isFine_0 rfl rfl ?_
  refine z_iload_n (pc := 1) hO 1 dX12_isFine_1 rfl rfl ?_
  refine pf_X12_thrown (pc := 2) hO f_X12_48 dX12_isFine_2 (fun m1 e2 => ?_)
  refine z_iload_n (pc := 5) hO 1 dX12_isFine_5 rfl rfl ?_
  refine z_if_ne (pc := 6) hO (tgt := 13) dX12_isFine_6 (by decide) (by omega) (fun b3 => ?_) (fun b3 => ?_)
  · refine z_iconst (pc := 13) hO dX12_isFine_13 ?_
    exact z_iret (pc := 14) hO hr hQ rfl dX12_isFine_14 (by first | exact ⟨rfl, by assumption⟩ | (constructor <;> first | rfl | assumption | omega))
  · refine z_iconst (pc := 9) hO dX12_isFine_9 ?_
    refine z_goto (pc := 10) hO (tgt := 14) dX12_isFine_10 (by decide) ?_
    exact z_iret (pc := 14) hO hr hQ rfl dX12_isFine_14 (by first | exact ⟨rfl, by assumption⟩ | (constructor <;> first | rfl | assumption | omega))

set_option maxHeartbeats 4000000 in
theorem c_X12_in (l : Launch) (g : Gl) (x : Me) (v : Int) (lo : Int) (hi : Int)  (r_v : -2147483648 ≤ v ∧ v < 2147483648) (r_lo : -2147483648 ≤ lo ∧ lo < 2147483648) (r_hi : -2147483648 ≤ hi ∧ hi < 2147483648) : ctQ l g yX12_in cX12_in 3 (some .boolean) 1 20 [.int (zi v), .int (zi lo), .int (zi hi)] x (QIu g (fun z x' => ((z = 1 ∧ (lo ≤ v ∧ v ≤ hi)) ∨ (z = 0 ∧ ¬ (lo ≤ v ∧ v ≤ hi))) ∧ x' = x)) := by
  refine ct_start (own := RX12) (lv := [(0, .int (zi v)), (1, .int (zi lo)), (2, .int (zi hi))]) (plainFor_of_name (by decide)) rfl (Nat.le_of_ble_eq_true rfl) rfl ?_
  intro Γ hΓ hO hr hQ _
  refine z_iload_n (pc := 0) hO 0 dX12_in_0 rfl rfl ?_
  refine z_iload_n (pc := 1) hO 1 dX12_in_1 rfl rfl ?_
  refine z_icmp_lt (pc := 2) hO (tgt := 14) dX12_in_2 (by decide) (by omega) (by omega) (fun b1 => ?_) (fun b1 => ?_)
  · refine z_iconst (pc := 14) hO dX12_in_14 ?_
    exact z_iret (pc := 15) hO hr hQ rfl dX12_in_15 ⟨Or.inr ⟨rfl, by first | assumption | omega⟩, rfl⟩
  · refine z_iload_n (pc := 5) hO 0 dX12_in_5 rfl rfl ?_
    refine z_iload_n (pc := 6) hO 2 dX12_in_6 rfl rfl ?_
    refine z_icmp_gt (pc := 7) hO (tgt := 14) dX12_in_7 (by decide) (by omega) (by omega) (fun b2 => ?_) (fun b2 => ?_)
    · refine z_iconst (pc := 14) hO dX12_in_14 ?_
      exact z_iret (pc := 15) hO hr hQ rfl dX12_in_15 ⟨Or.inr ⟨rfl, by first | assumption | omega⟩, rfl⟩
    · refine z_iconst (pc := 10) hO dX12_in_10 ?_
      refine z_goto (pc := 11) hO (tgt := 15) dX12_in_11 (by decide) ?_
      exact z_iret (pc := 15) hO hr hQ rfl dX12_in_15 ⟨Or.inl ⟨rfl, by first | assumption | omega⟩, rfl⟩

set_option maxHeartbeats 4000000 in
theorem c_X12_isSquare (l : Launch) (g : Gl) (x : Me) (q : Int)  (hM : MS x) (r_q : -2147483648 ≤ q ∧ q < 2147483648) : ctQ l g yX12_isSquare cX12_isSquare 2 (some .boolean) 2 42 [.ref (gA g 50), .int (zi q)] x (QIu g (fun z x' => ((z = 1 ∧ (0 ≤ q ∧ q < x 50 1)) ∨ (z = 0 ∧ ¬ (0 ≤ q ∧ q < x 50 1))) ∧ x' = x)) := by
  refine ct_start (own := RX12) (lv := [(0, .ref (gA g 50)), (1, .int (zi q))]) (plainFor_of_name (by decide)) rfl (Nat.le_of_ble_eq_true rfl) rfl ?_
  intro Γ hΓ hO hr hQ _
  have hM1 := hM.1
  refine z_iload_n (pc := 0) hO 1 dX12_isSquare_0 rfl rfl ?_
  refine z_iconst (pc := 1) hO dX12_isSquare_1 ?_
  refine z_aload_n (pc := 2) hO 0 dX12_isSquare_2 rfl rfl ?_
  refine gf_X12_squares (pc := 3) hO f_X12_52 dX12_isSquare_3 ?_
  refine z_iconst (pc := 6) hO dX12_isSquare_6 ?_
  refine z_isub (pc := 7) hO dX12_isSquare_7 ?_
  refine z_callSB (pc := 8) hO (As := [.int (zi q), .int (zi 0), .int (zi ((x 50 1) - 1))]) (st := []) (c_X12_in (qL Γ) g x q 0 ((x 50 1) - 1) (by first | assumption | omega) (by first | assumption | omega) (by first | assumption | omega)) k_X12_55 rfl (Nat.le_of_ble_eq_true rfl) (by decide) (by decide) ⟨by decide, by decide⟩ dX12_isSquare_8 (fun pb1 => ?_) (fun pb1 => ?_)
  · skip
    exact z_iret (pc := 11) hO hr hQ rfl dX12_isSquare_11 ⟨Or.inl ⟨rfl, by first | assumption | omega⟩, rfl⟩
  · skip
    exact z_iret (pc := 11) hO hr hQ rfl dX12_isSquare_11 ⟨Or.inr ⟨rfl, by first | assumption | omega⟩, rfl⟩

set_option maxHeartbeats 4000000 in
theorem c_X12_isPoint (l : Launch) (g : Gl) (x : Me) (q : Int) (r : Int) (c : Int)  (hM : MS x) (r_q : -2147483648 ≤ q ∧ q < 2147483648) (r_r : -2147483648 ≤ r ∧ r < 2147483648) (r_c : -2147483648 ≤ c ∧ c < 2147483648) : ctQ l g yX12_isPoint cX12_isPoint 4 (some .boolean) 3 63 [.ref (gA g 50), .int (zi q), .int (zi r), .int (zi c)] x (QIu g (fun z x' => ((z = 1 ∧ ((0 ≤ q ∧ q < x 50 1) ∧ (0 ≤ r ∧ r < x 51 q) ∧ 0 ≤ c ∧ c < x 51 q)) ∨ (z = 0 ∧ ¬ ((0 ≤ q ∧ q < x 50 1) ∧ (0 ≤ r ∧ r < x 51 q) ∧ 0 ≤ c ∧ c < x 51 q))) ∧ x' = x)) := by
  refine ct_start (own := RX12) (lv := [(0, .ref (gA g 50)), (1, .int (zi q)), (2, .int (zi r)), (3, .int (zi c))]) (plainFor_of_name (by decide)) rfl (Nat.le_of_ble_eq_true rfl) rfl ?_
  intro Γ hΓ hO hr hQ _
  have hM1 := hM.1
  refine z_aload_n (pc := 0) hO 0 dX12_isPoint_0 rfl rfl ?_
  refine z_iload_n (pc := 1) hO 1 dX12_isPoint_1 rfl rfl ?_
  refine z_callVB (pc := 2) hO (As := [.int (zi q)]) (st := []) (c_X12_isSquare (qL Γ) g x q (by first | assumption | omega) (by first | assumption | omega)) k_X12_59 isO_50 rfl (Nat.le_of_ble_eq_true rfl) (by decide) (by decide) ⟨by decide, by decide⟩ dX12_isPoint_2 (fun pb1 => ?_) (fun pb1 => ?_)
  · skip
    have hG := hM.2 q (by omega) (by omega)
    have hs := hG.2.1
    refine z_if_eq (pc := 5) hO (tgt := 44) dX12_isPoint_5 (by decide) (by decide) (fun h => absurd h (by decide)) (fun _ => ?_)
    refine z_iload_n (pc := 8) hO 2 dX12_isPoint_8 rfl rfl ?_
    refine z_iconst (pc := 9) hO dX12_isPoint_9 ?_
    refine z_aload_n (pc := 10) hO 0 dX12_isPoint_10 rfl rfl ?_
    refine gf_X12_sideOf (pc := 11) hO f_X12_7 dX12_isPoint_11 ?_
    refine z_iload_n (pc := 14) hO 1 dX12_isPoint_14 rfl rfl ?_
    refine z_iald (pc := 15) hO isI_51 (by omega) dX12_isPoint_15 ?_
    refine z_iconst (pc := 16) hO dX12_isPoint_16 ?_
    refine z_isub (pc := 17) hO dX12_isPoint_17 ?_
    refine z_callSB (pc := 18) hO (As := [.int (zi r), .int (zi 0), .int (zi ((x 51 q) - 1))]) (st := []) (c_X12_in (qL Γ) g x r 0 ((x 51 q) - 1) (by first | assumption | omega) (by first | assumption | omega) (by first | assumption | omega)) k_X12_55 rfl (Nat.le_of_ble_eq_true rfl) (by decide) (by decide) ⟨by decide, by decide⟩ dX12_isPoint_18 (fun pb2 => ?_) (fun pb2 => ?_)
    · skip
      refine z_if_eq (pc := 21) hO (tgt := 44) dX12_isPoint_21 (by decide) (by decide) (fun h => absurd h (by decide)) (fun _ => ?_)
      refine z_iload_n (pc := 24) hO 3 dX12_isPoint_24 rfl rfl ?_
      refine z_iconst (pc := 25) hO dX12_isPoint_25 ?_
      refine z_aload_n (pc := 26) hO 0 dX12_isPoint_26 rfl rfl ?_
      refine gf_X12_sideOf (pc := 27) hO f_X12_7 dX12_isPoint_27 ?_
      refine z_iload_n (pc := 30) hO 1 dX12_isPoint_30 rfl rfl ?_
      refine z_iald (pc := 31) hO isI_51 (by omega) dX12_isPoint_31 ?_
      refine z_iconst (pc := 32) hO dX12_isPoint_32 ?_
      refine z_isub (pc := 33) hO dX12_isPoint_33 ?_
      refine z_callSB (pc := 34) hO (As := [.int (zi c), .int (zi 0), .int (zi ((x 51 q) - 1))]) (st := []) (c_X12_in (qL Γ) g x c 0 ((x 51 q) - 1) (by first | assumption | omega) (by first | assumption | omega) (by first | assumption | omega)) k_X12_55 rfl (Nat.le_of_ble_eq_true rfl) (by decide) (by decide) ⟨by decide, by decide⟩ dX12_isPoint_34 (fun pb3 => ?_) (fun pb3 => ?_)
      · skip
        refine z_if_eq (pc := 37) hO (tgt := 44) dX12_isPoint_37 (by decide) (by decide) (fun h => absurd h (by decide)) (fun _ => ?_)
        refine z_iconst (pc := 40) hO dX12_isPoint_40 ?_
        refine z_goto (pc := 41) hO (tgt := 45) dX12_isPoint_41 (by decide) ?_
        exact z_iret (pc := 45) hO hr hQ rfl dX12_isPoint_45 ⟨Or.inl ⟨rfl, by first | assumption | omega⟩, rfl⟩
      · skip
        refine z_if_eq (pc := 37) hO (tgt := 44) dX12_isPoint_37 (by decide) (by decide) (fun _ => ?_) (fun h => absurd h (by decide))
        refine z_iconst (pc := 44) hO dX12_isPoint_44 ?_
        exact z_iret (pc := 45) hO hr hQ rfl dX12_isPoint_45 ⟨Or.inr ⟨rfl, by first | assumption | omega⟩, rfl⟩
    · skip
      refine z_if_eq (pc := 21) hO (tgt := 44) dX12_isPoint_21 (by decide) (by decide) (fun _ => ?_) (fun h => absurd h (by decide))
      refine z_iconst (pc := 44) hO dX12_isPoint_44 ?_
      exact z_iret (pc := 45) hO hr hQ rfl dX12_isPoint_45 ⟨Or.inr ⟨rfl, by first | assumption | omega⟩, rfl⟩
  · skip
    refine z_if_eq (pc := 5) hO (tgt := 44) dX12_isPoint_5 (by decide) (by decide) (fun _ => ?_) (fun h => absurd h (by decide))
    refine z_iconst (pc := 44) hO dX12_isPoint_44 ?_
    exact z_iret (pc := 45) hO hr hQ rfl dX12_isPoint_45 ⟨Or.inr ⟨rfl, by first | assumption | omega⟩, rfl⟩

set_option maxHeartbeats 4000000 in
theorem c_X12_areaOf (l : Launch) (g : Gl) (x : Me) (q : Int)  (hG : MG x q) : ctQ l g yX12_areaOf cX12_areaOf 2 (some .int) 1 20 [.ref (gA g 50), .int (zi q)] x (QIu g (fun z x' => z = (x 51 q * x 51 q) ∧ x' = x)) := by
  refine ct_start (own := RX12) (lv := [(0, .ref (gA g 50)), (1, .int (zi q))]) (plainFor_of_name (by decide)) rfl (Nat.le_of_ble_eq_true rfl) rfl ?_
  intro Γ hΓ hO hr hQ _
  obtain ⟨hq, hs, hf⟩ := id hG
  have hsq := sq9 hs
  refine z_aload_n (pc := 0) hO 0 dX12_areaOf_0 rfl rfl ?_
  refine gf_X12_sideOf (pc := 1) hO f_X12_7 dX12_areaOf_1 ?_
  refine z_iload_n (pc := 4) hO 1 dX12_areaOf_4 rfl rfl ?_
  refine z_iald (pc := 5) hO isI_51 (by omega) dX12_areaOf_5 ?_
  refine z_aload_n (pc := 6) hO 0 dX12_areaOf_6 rfl rfl ?_
  refine gf_X12_sideOf (pc := 7) hO f_X12_7 dX12_areaOf_7 ?_
  refine z_iload_n (pc := 10) hO 1 dX12_areaOf_10 rfl rfl ?_
  refine z_iald (pc := 11) hO isI_51 (by omega) dX12_areaOf_11 ?_
  refine z_imul (pc := 12) hO dX12_areaOf_12 ?_
  exact z_iret (pc := 13) hO hr hQ rfl dX12_areaOf_13 ⟨by first | rfl | omega, rfl⟩

set_option maxHeartbeats 4000000 in
theorem c_X12_numberAt (l : Launch) (g : Gl) (x : Me) (q : Int) (r : Int) (c : Int)  (hG : MG x q) (hp : (0 ≤ r ∧ r < x 51 q) ∧ 0 ≤ c ∧ c < x 51 q) : ctQ l g yX12_numberAt cX12_numberAt 4 (some .int) 1 20 [.ref (gA g 50), .int (zi q), .int (zi r), .int (zi c)] x (QIu g (fun z x' => z = (nd x q (x 51 q * r + c)) ∧ x' = x)) := by
  refine ct_start (own := RX12) (lv := [(0, .ref (gA g 50)), (1, .int (zi q)), (2, .int (zi r)), (3, .int (zi c))]) (plainFor_of_name (by decide)) rfl (Nat.le_of_ble_eq_true rfl) rfl ?_
  intro Γ hΓ hO hr hQ _
  obtain ⟨hq, hs, hf⟩ := id hG
  have hsq := sq9 hs
  have hpl := pl9 hs hp.1 hp.2
  refine z_aload_n (pc := 0) hO 0 dX12_numberAt_0 rfl rfl ?_
  refine gf_X12_numbers (pc := 1) hO f_X12_13 dX12_numberAt_1 ?_
  refine z_bipush (pc := 4) hO dX12_numberAt_4 (by decide) ?_
  refine z_iload_n (pc := 6) hO 1 dX12_numberAt_6 rfl rfl ?_
  refine z_imul (pc := 7) hO dX12_numberAt_7 ?_
  refine z_aload_n (pc := 8) hO 0 dX12_numberAt_8 rfl rfl ?_
  refine gf_X12_sideOf (pc := 9) hO f_X12_7 dX12_numberAt_9 ?_
  refine z_iload_n (pc := 12) hO 1 dX12_numberAt_12 rfl rfl ?_
  refine z_iald (pc := 13) hO isI_51 (by omega) dX12_numberAt_13 ?_
  refine z_iload_n (pc := 14) hO 2 dX12_numberAt_14 rfl rfl ?_
  refine z_imul (pc := 15) hO dX12_numberAt_15 ?_
  refine z_iadd (pc := 16) hO dX12_numberAt_16 ?_
  refine z_iload_n (pc := 17) hO 3 dX12_numberAt_17 rfl rfl ?_
  refine z_iadd (pc := 18) hO dX12_numberAt_18 ?_
  refine z_iald (pc := 19) hO isI_52 (by omega) dX12_numberAt_19 ?_
  exact z_iret (pc := 20) hO hr hQ rfl dX12_numberAt_20 ⟨by first | (rw [nd_in (by omega)]; congr 1; omega; done) | (exfalso; omega), rfl⟩

set_option maxHeartbeats 4000000 in
theorem c_X12_wipe (l : Launch) (g : Gl) (x : Me)    : ctQ l g yX12_wipe cX12_wipe 2 none 1 20 [.ref (gA g 50)] x (QVu g (fun x' => x' = clr x 53 81)) := by
  refine ct_start (own := RX12) (lv := [(0, .ref (gA g 50))]) (plainFor_of_name (by decide)) rfl (Nat.le_of_ble_eq_true rfl) rfl ?_
  intro Γ hΓ hO hr hQ _
  refine z_iconst (pc := 0) hO dX12_wipe_0 ?_
  refine z_istore_n (pc := 1) hO (lv' := [(1, .int (zi 0)), (0, .ref (gA g 50))]) dX12_wipe_1 rfl (by decide) rfl ?_
  have L2 : ∀ (N : Nat) (i : Int) (y : Me), (81 - i).toNat < N → (0 ≤ i ∧ i ≤ 81) → (y = clr x 53 i) → Zz Γ g 2 0 0 y 2 [(0, .ref (gA g 50)), (1, .int (zi i))] [] := by
    intro N
    induction N with
    | zero => intro i y hm; exact absurd hm (Nat.not_lt_zero _)
    | succ N ih2 =>
      intro i y hm h0 hy
      refine z_iload_n (pc := 2) hO 1 dX12_wipe_2 rfl rfl ?_
      refine z_bipush (pc := 3) hO dX12_wipe_3 (by decide) ?_
      refine z_icmp_ge (pc := 5) hO (tgt := 21) dX12_wipe_5 (by decide) (by omega) (by omega) (fun b1 => ?_) (fun b1 => ?_)
      · exact z_vret (pc := 21) hO hr hQ dX12_wipe_21 (by first | (rw [hy]; congr 1; omega; done) | (exfalso; omega))
      · refine z_aload_n (pc := 8) hO 0 dX12_wipe_8 rfl rfl ?_
        refine gf_X12_made (pc := 9) hO f_X12_16 dX12_wipe_9 ?_
        refine z_iload_n (pc := 12) hO 1 dX12_wipe_12 rfl rfl ?_
        refine z_iconst (pc := 13) hO dX12_wipe_13 ?_
        refine z_iast (pc := 14) hO isI_53 (by omega) dX12_wipe_14 (fun m2 e3 => ?_)
        refine z_iinc (pc := 15) hO 1 (lv' := [(1, .int (zi (i + 1))), (0, .ref (gA g 50))]) dX12_wipe_15 rfl (by decide) rfl ?_
        refine z_goto (pc := 18) hO (tgt := 2) dX12_wipe_18 (by decide) ?_
        refine z_sub [1, 0] rfl ?_
        exact ih2 (i + 1) m2 (by omega) (by omega) (by rw [← clr_s _ _ (by omega), ← hy]; assumption)
  refine z_sub [1, 0] rfl ?_
  exact L2 _ 0 x (Nat.lt_succ_self _) (by omega) (by rw [clr_0])

