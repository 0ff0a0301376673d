set_option maxHeartbeats 4000000 in
theorem c_J6_bitCount_0f7a4 (l : Launch) (g : Gl) (x : Me) (i : Int)  (hi : 0 ≤ i ∧ i < 512) : ctQ l g yJ6_bitCount_0f7a4 cJ6_bitCount_0f7a4 1 (some .int) 1 20 [.int (zi i)] x (QIu g (fun z x' => z = (pop i) ∧ x' = x)) := by
  refine ct_start (own := RJ6) (lv := [(0, .int (zi i))]) (by decide +kernel) rfl (Nat.le_of_ble_eq_true rfl) rfl ?_
  intro Γ hΓ hO hr hQ _
  refine z_iload_n (pc := 0) hO 0 dJ6_bitCount_0f7a4_0 rfl rfl ?_
  refine z_iload_n (pc := 1) hO 0 dJ6_bitCount_0f7a4_1 rfl rfl ?_
  refine z_iconst (pc := 2) hO dJ6_bitCount_0f7a4_2 ?_
  refine z_iushr (pc := 3) hO (zi (bcU i 1)) dJ6_bitCount_0f7a4_3 (by exact (zi_all _).symm) ?_
  refine z_ldc_w (pc := 4) hO n_J6_265 dJ6_bitCount_0f7a4_4 ?_
  refine z_iand (pc := 7) hO (zi (bcA (bcU i 1) 1431655765)) dJ6_bitCount_0f7a4_7 (by exact (zi_all _).symm) ?_
  refine z_isub (pc := 8) hO dJ6_bitCount_0f7a4_8 ?_
  refine z_istore_n (pc := 9) hO (lv' := [(0, .int (zi (i - (bcA (bcU i 1) 1431655765))))]) dJ6_bitCount_0f7a4_9 rfl (by decide) rfl ?_
  refine z_iload_n (pc := 10) hO 0 dJ6_bitCount_0f7a4_10 rfl rfl ?_
  refine z_ldc_w (pc := 11) hO n_J6_266 dJ6_bitCount_0f7a4_11 ?_
  refine z_iand (pc := 14) hO (zi (bcA (i - (bcA (bcU i 1) 1431655765)) 858993459)) dJ6_bitCount_0f7a4_14 (by exact (zi_all _).symm) ?_
  refine z_iload_n (pc := 15) hO 0 dJ6_bitCount_0f7a4_15 rfl rfl ?_
  refine z_iconst (pc := 16) hO dJ6_bitCount_0f7a4_16 ?_
  refine z_iushr (pc := 17) hO (zi (bcU (i - (bcA (bcU i 1) 1431655765)) 2)) dJ6_bitCount_0f7a4_17 (by exact (zi_all _).symm) ?_
  refine z_ldc_w (pc := 18) hO n_J6_266 dJ6_bitCount_0f7a4_18 ?_
  refine z_iand (pc := 21) hO (zi (bcA (bcU (i - (bcA (bcU i 1) 1431655765)) 2) 858993459)) dJ6_bitCount_0f7a4_21 (by exact (zi_all _).symm) ?_
  refine z_iadd (pc := 22) hO dJ6_bitCount_0f7a4_22 ?_
  refine z_istore_n (pc := 23) hO (lv' := [(0, .int (zi ((bcA (i - (bcA (bcU i 1) 1431655765)) 858993459) + (bcA (bcU (i - (bcA (bcU i 1) 1431655765)) 2) 858993459))))]) dJ6_bitCount_0f7a4_23 rfl (by decide) rfl ?_
  refine z_iload_n (pc := 24) hO 0 dJ6_bitCount_0f7a4_24 rfl rfl ?_
  refine z_iload_n (pc := 25) hO 0 dJ6_bitCount_0f7a4_25 rfl rfl ?_
  refine z_iconst (pc := 26) hO dJ6_bitCount_0f7a4_26 ?_
  refine z_iushr (pc := 27) hO (zi (bcU ((bcA (i - (bcA (bcU i 1) 1431655765)) 858993459) + (bcA (bcU (i - (bcA (bcU i 1) 1431655765)) 2) 858993459)) 4)) dJ6_bitCount_0f7a4_27 (by exact (zi_all _).symm) ?_
  refine z_iadd (pc := 28) hO dJ6_bitCount_0f7a4_28 ?_
  refine z_ldc_w (pc := 29) hO n_J6_267 dJ6_bitCount_0f7a4_29 ?_
  refine z_iand (pc := 32) hO (zi (bcA (((bcA (i - (bcA (bcU i 1) 1431655765)) 858993459) + (bcA (bcU (i - (bcA (bcU i 1) 1431655765)) 2) 858993459)) + (bcU ((bcA (i - (bcA (bcU i 1) 1431655765)) 858993459) + (bcA (bcU (i - (bcA (bcU i 1) 1431655765)) 2) 858993459)) 4)) 252645135)) dJ6_bitCount_0f7a4_32 (by exact (zi_all _).symm) ?_
  refine z_istore_n (pc := 33) hO (lv' := [(0, .int (zi (bcA (((bcA (i - (bcA (bcU i 1) 1431655765)) 858993459) + (bcA (bcU (i - (bcA (bcU i 1) 1431655765)) 2) 858993459)) + (bcU ((bcA (i - (bcA (bcU i 1) 1431655765)) 858993459) + (bcA (bcU (i - (bcA (bcU i 1) 1431655765)) 2) 858993459)) 4)) 252645135)))]) dJ6_bitCount_0f7a4_33 rfl (by decide) rfl ?_
  refine z_iload_n (pc := 34) hO 0 dJ6_bitCount_0f7a4_34 rfl rfl ?_
  refine z_iload_n (pc := 35) hO 0 dJ6_bitCount_0f7a4_35 rfl rfl ?_
  refine z_bipush (pc := 36) hO dJ6_bitCount_0f7a4_36 (by decide) ?_
  refine z_iushr (pc := 38) hO (zi (bcU (bcA (((bcA (i - (bcA (bcU i 1) 1431655765)) 858993459) + (bcA (bcU (i - (bcA (bcU i 1) 1431655765)) 2) 858993459)) + (bcU ((bcA (i - (bcA (bcU i 1) 1431655765)) 858993459) + (bcA (bcU (i - (bcA (bcU i 1) 1431655765)) 2) 858993459)) 4)) 252645135) 8)) dJ6_bitCount_0f7a4_38 (by exact (zi_all _).symm) ?_
  refine z_iadd (pc := 39) hO dJ6_bitCount_0f7a4_39 ?_
  refine z_istore_n (pc := 40) hO (lv' := [(0, .int (zi ((bcA (((bcA (i - (bcA (bcU i 1) 1431655765)) 858993459) + (bcA (bcU (i - (bcA (bcU i 1) 1431655765)) 2) 858993459)) + (bcU ((bcA (i - (bcA (bcU i 1) 1431655765)) 858993459) + (bcA (bcU (i - (bcA (bcU i 1) 1431655765)) 2) 858993459)) 4)) 252645135) + (bcU (bcA (((bcA (i - (bcA (bcU i 1) 1431655765)) 858993459) + (bcA (bcU (i - (bcA (bcU i 1) 1431655765)) 2) 858993459)) + (bcU ((bcA (i - (bcA (bcU i 1) 1431655765)) 858993459) + (bcA (bcU (i - (bcA (bcU i 1) 1431655765)) 2) 858993459)) 4)) 252645135) 8))))]) dJ6_bitCount_0f7a4_40 rfl (by decide) rfl ?_
  refine z_iload_n (pc := 41) hO 0 dJ6_bitCount_0f7a4_41 rfl rfl ?_
  refine z_iload_n (pc := 42) hO 0 dJ6_bitCount_0f7a4_42 rfl rfl ?_
  refine z_bipush (pc := 43) hO dJ6_bitCount_0f7a4_43 (by decide) ?_
  refine z_iushr (pc := 45) hO (zi (bcU ((bcA (((bcA (i - (bcA (bcU i 1) 1431655765)) 858993459) + (bcA (bcU (i - (bcA (bcU i 1) 1431655765)) 2) 858993459)) + (bcU ((bcA (i - (bcA (bcU i 1) 1431655765)) 858993459) + (bcA (bcU (i - (bcA (bcU i 1) 1431655765)) 2) 858993459)) 4)) 252645135) + (bcU (bcA (((bcA (i - (bcA (bcU i 1) 1431655765)) 858993459) + (bcA (bcU (i - (bcA (bcU i 1) 1431655765)) 2) 858993459)) + (bcU ((bcA (i - (bcA (bcU i 1) 1431655765)) 858993459) + (bcA (bcU (i - (bcA (bcU i 1) 1431655765)) 2) 858993459)) 4)) 252645135) 8)) 16)) dJ6_bitCount_0f7a4_45 (by exact (zi_all _).symm) ?_
  refine z_iadd (pc := 46) hO dJ6_bitCount_0f7a4_46 ?_
  refine z_istore_n (pc := 47) hO (lv' := [(0, .int (zi (((bcA (((bcA (i - (bcA (bcU i 1) 1431655765)) 858993459) + (bcA (bcU (i - (bcA (bcU i 1) 1431655765)) 2) 858993459)) + (bcU ((bcA (i - (bcA (bcU i 1) 1431655765)) 858993459) + (bcA (bcU (i - (bcA (bcU i 1) 1431655765)) 2) 858993459)) 4)) 252645135) + (bcU (bcA (((bcA (i - (bcA (bcU i 1) 1431655765)) 858993459) + (bcA (bcU (i - (bcA (bcU i 1) 1431655765)) 2) 858993459)) + (bcU ((bcA (i - (bcA (bcU i 1) 1431655765)) 858993459) + (bcA (bcU (i - (bcA (bcU i 1) 1431655765)) 2) 858993459)) 4)) 252645135) 8)) + (bcU ((bcA (((bcA (i - (bcA (bcU i 1) 1431655765)) 858993459) + (bcA (bcU (i - (bcA (bcU i 1) 1431655765)) 2) 858993459)) + (bcU ((bcA (i - (bcA (bcU i 1) 1431655765)) 858993459) + (bcA (bcU (i - (bcA (bcU i 1) 1431655765)) 2) 858993459)) 4)) 252645135) + (bcU (bcA (((bcA (i - (bcA (bcU i 1) 1431655765)) 858993459) + (bcA (bcU (i - (bcA (bcU i 1) 1431655765)) 2) 858993459)) + (bcU ((bcA (i - (bcA (bcU i 1) 1431655765)) 858993459) + (bcA (bcU (i - (bcA (bcU i 1) 1431655765)) 2) 858993459)) 4)) 252645135) 8)) 16))))]) dJ6_bitCount_0f7a4_47 rfl (by decide) rfl ?_
  refine z_iload_n (pc := 48) hO 0 dJ6_bitCount_0f7a4_48 rfl rfl ?_
  refine z_bipush (pc := 49) hO dJ6_bitCount_0f7a4_49 (by decide) ?_
  refine z_iand (pc := 51) hO (zi (bcA (((bcA (((bcA (i - (bcA (bcU i 1) 1431655765)) 858993459) + (bcA (bcU (i - (bcA (bcU i 1) 1431655765)) 2) 858993459)) + (bcU ((bcA (i - (bcA (bcU i 1) 1431655765)) 858993459) + (bcA (bcU (i - (bcA (bcU i 1) 1431655765)) 2) 858993459)) 4)) 252645135) + (bcU (bcA (((bcA (i - (bcA (bcU i 1) 1431655765)) 858993459) + (bcA (bcU (i - (bcA (bcU i 1) 1431655765)) 2) 858993459)) + (bcU ((bcA (i - (bcA (bcU i 1) 1431655765)) 858993459) + (bcA (bcU (i - (bcA (bcU i 1) 1431655765)) 2) 858993459)) 4)) 252645135) 8)) + (bcU ((bcA (((bcA (i - (bcA (bcU i 1) 1431655765)) 858993459) + (bcA (bcU (i - (bcA (bcU i 1) 1431655765)) 2) 858993459)) + (bcU ((bcA (i - (bcA (bcU i 1) 1431655765)) 858993459) + (bcA (bcU (i - (bcA (bcU i 1) 1431655765)) 2) 858993459)) 4)) 252645135) + (bcU (bcA (((bcA (i - (bcA (bcU i 1) 1431655765)) 858993459) + (bcA (bcU (i - (bcA (bcU i 1) 1431655765)) 2) 858993459)) + (bcU ((bcA (i - (bcA (bcU i 1) 1431655765)) 858993459) + (bcA (bcU (i - (bcA (bcU i 1) 1431655765)) 2) 858993459)) 4)) 252645135) 8)) 16)) 63)) dJ6_bitCount_0f7a4_51 (by exact (zi_all _).symm) ?_
  exact z_iret (pc := 52) hO hr hQ rfl dJ6_bitCount_0f7a4_52 ⟨by first | (have h := bc_ok i.toNat (by omega); rw [Int.toNat_of_nonneg hi.1] at h; exact h; done) | (exfalso; omega), rfl⟩

set_option maxHeartbeats 4000000 in
theorem c_X3_differenceOf (l : Launch) (g : Gl) (x : Me) (q : Nat) (m : Int)  (hF : FG x q) (hs3 : x (10 + q) 1 ≤ 3) (hm : 0 ≤ m ∧ m < 8) : ctQ l g yX3_differenceOf cX3_differenceOf 4 (some .int) 4 90 [.ref (gA g (10 + q)), .int (zi m)] x (QIu g (fun z x' => z = (dfA (x (10 + q) 1) (nc x q) m (x (10 + q) 1 * x (10 + q) 1).toNat) ∧ x' = x)) := by
  refine ct_start (own := RX3) (lv := [(0, .ref (gA g (10 + q))), (1, .int (zi m))]) (plainFor_of_name (by decide)) rfl (Nat.le_of_ble_eq_true rfl) rfl ?_
  intro Γ hΓ hO hr hQ _
  obtain ⟨hq, hs, hf⟩ := id hF
  have h9 := sq9 hs
  have hN := FG.r hF
  have hq9 : x (10 + q) 1 * x (10 + q) 1 ≤ 9 := by have := Int.mul_le_mul hs3 hs3 (by omega) (by omega); omega
  refine z_iconst (pc := 0) hO dX3_differenceOf_0 ?_
  refine z_istore_n (pc := 1) hO (lv' := [(2, .int (zi 0)), (0, .ref (gA g (10 + q))), (1, .int (zi m))]) dX3_differenceOf_1 rfl (by decide) rfl ?_
  refine z_iconst (pc := 2) hO dX3_differenceOf_2 ?_
  refine z_istore_n (pc := 3) hO (lv' := [(3, .int (zi 0)), (2, .int (zi 0)), (0, .ref (gA g (10 + q))), (1, .int (zi m))]) dX3_differenceOf_3 rfl (by decide) rfl ?_
  have L4 : ∀ (N : Nat) (i : Int) (s : Int), (x (10 + q) 1 * x (10 + q) 1 - i).toNat < N → (0 ≤ i ∧ i ≤ x (10 + q) 1 * x (10 + q) 1) → (s = dfA (x (10 + q) 1) (nc x q) m i.toNat) → Zz Γ g 4 0 0 x 4 [(0, .ref (gA g (10 + q))), (1, .int (zi m)), (2, .int (zi s)), (3, .int (zi i))] [] := by
    intro N
    induction N with
    | zero => intro i s hm; exact absurd hm (Nat.not_lt_zero _)
    | succ N ih4 =>
      intro i s hm h0 hA
      have hR := hN i
      have hR2 := hN (fmp (x (10 + q) 1) m i)
      have hdr := dfA_r (x (10 + q) 1) (nc x q) m i.toNat
      rw [← hA, Int.toNat_of_nonneg h0.1] at hdr
      have hp9 := p2_9 (k := i) (by omega)
      refine z_iload_n (pc := 4) hO 3 dX3_differenceOf_4 rfl rfl ?_
      refine z_aload_n (pc := 5) hO 0 dX3_differenceOf_5 rfl rfl ?_
      refine z_callVIp (pc := 6) hO (As := []) (st := [.int (zi i)]) (c_X1_size (qL Γ) g x q (by first | assumption | omega)) k_X3_19 (isO_fig (by omega : q < 9)) rfl (Nat.le_of_ble_eq_true rfl) (by decide) (by decide) ⟨by decide, by decide⟩ dX3_differenceOf_6 ?_
      refine z_icmp_ge (pc := 9) hO (tgt := 38) dX3_differenceOf_9 (by decide) (by omega) (by omega) (fun b1 => ?_) (fun b1 => ?_)
      · refine z_iload_n (pc := 38) hO 2 dX3_differenceOf_38 rfl rfl ?_
        exact z_iret (pc := 39) hO hr hQ rfl dX3_differenceOf_39 ⟨by first | (rw [hA]; congr 1; omega; done) | (exfalso; omega), rfl⟩
      · refine z_aload_n (pc := 12) hO 0 dX3_differenceOf_12 rfl rfl ?_
        refine z_iload_n (pc := 13) hO 1 dX3_differenceOf_13 rfl rfl ?_
        refine z_iload_n (pc := 14) hO 3 dX3_differenceOf_14 rfl rfl ?_
        refine z_callSIp (pc := 15) hO (As := [.ref (gA g (10 + q)), .int (zi m), .int (zi i)]) (st := []) (c_X2_numberIn (qL Γ) g x q m i (by first | assumption | omega) (by first | assumption | omega) (by first | assumption | omega)) k_X3_35 rfl (Nat.le_of_ble_eq_true rfl) (by decide) (by decide) ⟨by decide, by decide⟩ dX3_differenceOf_15 ?_
        refine z_aload_n (pc := 18) hO 0 dX3_differenceOf_18 rfl rfl ?_
        refine z_iload_n (pc := 19) hO 3 dX3_differenceOf_19 rfl rfl ?_
        refine z_callVIp (pc := 20) hO (As := [.int (zi i)]) (st := [.int (zi (nc x q (fmp (x (10 + q) 1) m i)))]) (c_X1_read (qL Γ) g x q i (by first | assumption | omega) (by first | assumption | omega)) k_X3_39 (isO_fig (by omega : q < 9)) rfl (Nat.le_of_ble_eq_true rfl) (by decide) (by decide) ⟨by decide, by decide⟩ dX3_differenceOf_20 ?_
        refine z_icmp_eq (pc := 23) hO (tgt := 32) dX3_differenceOf_23 (by decide) (by omega) (by omega) (fun b2 => ?_) (fun b2 => ?_)
        · refine z_iinc (pc := 32) hO 3 (lv' := [(3, .int (zi (i + 1))), (0, .ref (gA g (10 + q))), (1, .int (zi m)), (2, .int (zi s))]) dX3_differenceOf_32 rfl (by decide) rfl ?_
          refine z_goto (pc := 35) hO (tgt := 4) dX3_differenceOf_35 (by decide) ?_
          refine z_sub [1, 2, 3, 0] rfl ?_
          exact ih4 (i + 1) s (by omega) (by omega) (by rw [dfA_s _ _ _ (by omega), hA]; first | (rw [if_pos (by assumption)]; done) | (rw [if_neg (by intro h; exact h (by assumption))]; omega))
        · refine z_iload_n (pc := 26) hO 2 dX3_differenceOf_26 rfl rfl ?_
          refine z_iconst (pc := 27) hO dX3_differenceOf_27 ?_
          refine z_iload_n (pc := 28) hO 3 dX3_differenceOf_28 rfl rfl ?_
          refine z_ishl (pc := 29) hO (zi (p2 i)) dX3_differenceOf_29 (by exact zn_shl (by omega)) ?_
          refine z_ior (pc := 30) hO (zi (s + (p2 i))) dX3_differenceOf_30 (by exact or_p2 hdr (by omega)) ?_
          refine z_istore_n (pc := 31) hO (lv' := [(2, .int (zi (s + (p2 i)))), (0, .ref (gA g (10 + q))), (1, .int (zi m)), (3, .int (zi i))]) dX3_differenceOf_31 rfl (by decide) rfl ?_
          refine z_iinc (pc := 32) hO 3 (lv' := [(3, .int (zi (i + 1))), (2, .int (zi (s + (p2 i)))), (0, .ref (gA g (10 + q))), (1, .int (zi m))]) dX3_differenceOf_32 rfl (by decide) rfl ?_
          refine z_goto (pc := 35) hO (tgt := 4) dX3_differenceOf_35 (by decide) ?_
          refine z_sub [2, 3, 1, 0] rfl ?_
          exact ih4 (i + 1) (s + (p2 i)) (by omega) (by omega) (by rw [dfA_s _ _ _ (by omega), hA]; first | (rw [if_pos (by assumption)]; done) | (rw [if_neg (by intro h; exact h (by assumption))]; omega))
  refine z_sub [2, 3, 1, 0] rfl ?_
  exact L4 _ 0 0 (Nat.lt_succ_self _) (by omega) (by rfl)

set_option maxHeartbeats 4000000 in
theorem c_X3_tellsAllApart (l : Launch) (g : Gl) (x : Me) (s : Int)  (hd : ∀ m, 0 ≤ m → m < 8 → 0 ≤ x 41 m ∧ x 41 m ≤ 512) (hs : 0 ≤ s ∧ s < 512) : ctQ l g yX3_tellsAllApart cX3_tellsAllApart 6 (some .boolean) 1 20 [.ref (gA g 40), .int (zi s)] x (QIu g (fun z x' => ((z = 1 ∧ (telB (x 41) s = true)) ∨ (z = 0 ∧ ¬ (telB (x 41) s = true))) ∧ x' = x)) := by
  refine ct_start (own := RX3) (lv := [(0, .ref (gA g 40)), (1, .int (zi s))]) (plainFor_of_name (by decide)) rfl (Nat.le_of_ble_eq_true rfl) rfl ?_
  intro Γ hΓ hO hr hQ _
  refine z_aload_n (pc := 0) hO 0 dX3_tellsAllApart_0 rfl rfl ?_
  refine gf_X3_differences (pc := 1) hO f_X3_9 dX3_tellsAllApart_1 ?_
  refine z_astore_n (pc := 4) hO (lv' := [(2, .ref (gA g 41)), (0, .ref (gA g 40)), (1, .int (zi s))]) dX3_tellsAllApart_4 rfl (by decide) rfl ?_
  refine z_aload_n (pc := 5) hO 0 dX3_tellsAllApart_5 rfl rfl ?_
  refine z_alenI (pc := 6) hO isI_41 dX3_tellsAllApart_6 ?_
  refine z_istore_n (pc := 7) hO (lv' := [(3, .int (zi 8)), (2, .ref (gA g 41)), (0, .ref (gA g 40)), (1, .int (zi s))]) dX3_tellsAllApart_7 rfl (by decide) rfl ?_
  refine z_iconst (pc := 8) hO dX3_tellsAllApart_8 ?_
  refine z_istore (pc := 9) hO (lv' := [(4, .int (zi 0)), (3, .int (zi 8)), (2, .ref (gA g 41)), (0, .ref (gA g 40)), (1, .int (zi s))]) dX3_tellsAllApart_9 (by decide) rfl ?_
  have L11 : ∀ (N : Nat) (i : Int), (8 - i).toNat < N → (0 ≤ i ∧ i ≤ 8) → (∀ m, 0 ≤ m → m < i → x 41 m = 0 ∨ bnd2 (x 41 m) s ≠ 0) → Zz Γ g 6 0 0 x 11 [(0, .ref (gA g 40)), (1, .int (zi s)), (2, .ref (gA g 41)), (3, .int (zi 8)), (4, .int (zi i))] [] := by
    intro N
    induction N with
    | zero => intro i hm; exact absurd hm (Nat.not_lt_zero _)
    | succ N ih11 =>
      intro i hm h0 hA
      refine z_iload (pc := 11) hO 4 dX3_tellsAllApart_11 rfl ?_
      refine z_iload_n (pc := 13) hO 3 dX3_tellsAllApart_13 rfl rfl ?_
      refine z_icmp_ge (pc := 14) hO (tgt := 43) dX3_tellsAllApart_14 (by decide) (by omega) (by omega) (fun b1 => ?_) (fun b1 => ?_)
      · refine z_iconst (pc := 43) hO dX3_tellsAllApart_43 ?_
        exact z_iret (pc := 44) hO hr hQ rfl dX3_tellsAllApart_44 ⟨Or.inl ⟨rfl, by first | (rw [telB_iff]; intro m a b; exact hA m a (by omega); done) | (exfalso; omega)⟩, rfl⟩
      · refine z_aload_n (pc := 17) hO 2 dX3_tellsAllApart_17 rfl rfl ?_
        refine z_iload (pc := 18) hO 4 dX3_tellsAllApart_18 rfl ?_
        have hdi := hd i (by omega) (by omega)
        have hbr := bnd2_r (a := x 41 i) (b := s) hdi.1
        refine z_iald (pc := 20) hO isI_41 (by omega) dX3_tellsAllApart_20 ?_
        refine z_istore (pc := 21) hO (lv' := [(5, .int (zi (x 41 i))), (0, .ref (gA g 40)), (1, .int (zi s)), (2, .ref (gA g 41)), (3, .int (zi 8)), (4, .int (zi i))]) dX3_tellsAllApart_21 (by decide) rfl ?_
        refine z_iload (pc := 23) hO 0 dX3_tellsAllApart_23 rfl ?_
        refine z_if_eq (pc := 25) hO (tgt := 37) dX3_tellsAllApart_25 (by decide) (by omega) (fun b2 => ?_) (fun b2 => ?_)
        · refine z_iinc (pc := 37) hO 5 (lv' := [(4, .int (zi (i + 1))), (5, .int (zi (x 41 i))), (0, .ref (gA g 40)), (1, .int (zi s)), (2, .ref (gA g 41)), (3, .int (zi 8))]) dX3_tellsAllApart_37 rfl (by decide) rfl ?_
          refine z_goto (pc := 40) hO (tgt := 11) dX3_tellsAllApart_40 (by decide) ?_
          refine z_sub [2, 3, 4, 5, 0] rfl ?_
          exact ih11 (i + 1) (by omega) (by omega) (by intro m a b; exact dite (m = i) (fun e => by rw [e]; omega) (fun e => hA m a (by omega)))
        · refine z_iload (pc := 28) hO 0 dX3_tellsAllApart_28 rfl ?_
          refine z_iload_n (pc := 30) hO 2 dX3_tellsAllApart_30 rfl rfl ?_
          refine z_iand (pc := 31) hO (zi (bnd2 (x 41 i) s)) dX3_tellsAllApart_31 (by exact bnd2_z (by omega) (by omega)) ?_
          refine z_if_ne (pc := 32) hO (tgt := 37) dX3_tellsAllApart_32 (by decide) (by omega) (fun b3 => ?_) (fun b3 => ?_)
          · refine z_iinc (pc := 37) hO 5 (lv' := [(4, .int (zi (i + 1))), (5, .int (zi (x 41 i))), (0, .ref (gA g 40)), (1, .int (zi s)), (2, .ref (gA g 41)), (3, .int (zi 8))]) dX3_tellsAllApart_37 rfl (by decide) rfl ?_
            refine z_goto (pc := 40) hO (tgt := 11) dX3_tellsAllApart_40 (by decide) ?_
            refine z_sub [2, 3, 4, 5, 0] rfl ?_
            exact ih11 (i + 1) (by omega) (by omega) (by intro m a b; exact dite (m = i) (fun e => by rw [e]; omega) (fun e => hA m a (by omega)))
          · refine z_iconst (pc := 35) hO dX3_tellsAllApart_35 ?_
            exact z_iret (pc := 36) hO hr hQ rfl dX3_tellsAllApart_36 ⟨Or.inr ⟨rfl, by first | (rw [telB_iff]; intro h; have := h i (by omega) (by omega); omega; done) | (exfalso; omega)⟩, rfl⟩
  refine z_sub [3, 4, 2, 1, 0] rfl ?_
  exact L11 _ 0 (Nat.lt_succ_self _) (by omega) (by intro m _ _; omega)

set_option maxHeartbeats 4000000 in
theorem c_X3_fewestOf (l : Launch) (g : Gl) (x : Me) (q : Nat)  (hF : FG x q) (hs3 : x (10 + q) 1 ≤ 3) : ctQ l g yX3_fewestOf cX3_fewestOf 5 (some .int) 5 113 [.ref (gA g 40), .ref (gA g (10 + q))] x (QIu g (fun z x' => z = gvF (x (10 + q) 1) (nc x q) ∧ ∀ a, a ≠ 41 → x' a = x a)) := by
  refine ct_start (own := RX3) (lv := [(0, .ref (gA g 40)), (1, .ref (gA g (10 + q)))]) (plainFor_of_name (by decide)) rfl (Nat.le_of_ble_eq_true rfl) rfl ?_
  intro Γ hΓ hO hr hQ _
  obtain ⟨hq, hs, hf⟩ := id hF
  have h9 := sq9 hs
  have hN := FG.r hF
  have hq9 : x (10 + q) 1 * x (10 + q) 1 ≤ 9 := by have := Int.mul_le_mul hs3 hs3 (by omega) (by omega); omega
  have hp9 := p2_9 (k := x (10 + q) 1 * x (10 + q) 1) (by omega)
  refine z_iconst (pc := 0) hO dX3_fewestOf_0 ?_
  refine z_istore_n (pc := 1) hO (lv' := [(2, .int (zi 0)), (0, .ref (gA g 40)), (1, .ref (gA g (10 + q)))]) dX3_fewestOf_1 rfl (by decide) rfl ?_
  have L2 : ∀ (N : Nat) (i : Int) (y : Me), (8 - i).toNat < N → (0 ≤ i ∧ i ≤ 8) → (∀ m, 0 ≤ m → m < i → y 41 m = dfA (x (10 + q) 1) (nc x q) m (x (10 + q) 1 * x (10 + q) 1).toNat) → (∀ a, a ≠ 41 → y a = x a) → Zz Γ g 5 0 0 y 2 [(0, .ref (gA g 40)), (1, .ref (gA g (10 + q))), (2, .int (zi i))] [] := by
    intro N
    induction N with
    | zero => intro i y hm; exact absurd hm (Nat.not_lt_zero _)
    | succ N ih2 =>
      intro i y hm h0 hA hfr
      have k1 := hfr (10 + q) (by omega)
      have hy : y (10 + q) 1 = x (10 + q) 1 := by rw [k1]
      have hyy : y (10 + q) 1 * y (10 + q) 1 = x (10 + q) 1 * x (10 + q) 1 := by rw [hy]
      have hFy := FG_of hF k1 (hfr (20 + q) (by omega))
      have hnc : nc y q = nc x q := nc_of (hfr (20 + q) (by omega))
      refine z_iload_n (pc := 2) hO 2 dX3_fewestOf_2 rfl rfl ?_
      refine z_aload_n (pc := 3) hO 0 dX3_fewestOf_3 rfl rfl ?_
      refine gf_X3_differences (pc := 4) hO f_X3_9 dX3_fewestOf_4 ?_
      refine z_alenI (pc := 7) hO isI_41 dX3_fewestOf_7 ?_
      refine z_icmp_ge (pc := 8) hO (tgt := 28) dX3_fewestOf_8 (by decide) (by omega) (by omega) (fun b1 => ?_) (fun b1 => ?_)
      · have htl : ∀ t, telB (y 41) t = telB (fun m => dfA (x (10 + q) 1) (nc x q) m (x (10 + q) 1 * x (10 + q) 1).toNat) t := fun t => telB_c (fun m a b => hA m a (by omega))
        have hd : ∀ m, 0 ≤ m → m < 8 → 0 ≤ y 41 m ∧ y 41 m ≤ 512 := fun m a b => by
            rw [hA m a (by omega)]
            have h1 := dfA_r (x (10 + q) 1) (nc x q) m (x (10 + q) 1 * x (10 + q) 1).toNat
            rw [Int.toNat_of_nonneg (by omega)] at h1; omega
        refine z_iconst (pc := 28) hO dX3_fewestOf_28 ?_
        refine z_aload_n (pc := 29) hO 1 dX3_fewestOf_29 rfl rfl ?_
        refine z_callVIp (pc := 30) hO (As := []) (st := [.int (zi 1)]) (c_X1_size (qL Γ) g y q (by first | assumption | omega)) k_X3_19 (isO_fig (by omega : q < 9)) rfl (Nat.le_of_ble_eq_true rfl) (by decide) (by decide) ⟨by decide, by decide⟩ dX3_fewestOf_30 ?_
        rw [hyy]
        refine z_ishl (pc := 33) hO (zi (p2 (x (10 + q) 1 * x (10 + q) 1))) dX3_fewestOf_33 (by exact zn_shl (by omega)) ?_
        refine z_iconst (pc := 34) hO dX3_fewestOf_34 ?_
        refine z_isub (pc := 35) hO dX3_fewestOf_35 ?_
        refine z_istore_n (pc := 36) hO (lv' := [(2, .int (zi ((p2 (x (10 + q) 1 * x (10 + q) 1)) - 1))), (0, .ref (gA g 40)), (1, .ref (gA g (10 + q)))]) dX3_fewestOf_36 rfl (by decide) rfl ?_
        refine z_iload_n (pc := 37) hO 0 dX3_fewestOf_37 rfl rfl ?_
        refine z_istore_n (pc := 38) hO (lv' := [(3, .int (zi ((p2 (x (10 + q) 1 * x (10 + q) 1)) - 1))), (2, .int (zi ((p2 (x (10 + q) 1 * x (10 + q) 1)) - 1))), (0, .ref (gA g 40)), (1, .ref (gA g (10 + q)))]) dX3_fewestOf_38 rfl (by decide) rfl ?_
        refine z_iconst (pc := 39) hO dX3_fewestOf_39 ?_
        refine z_istore (pc := 40) hO (lv' := [(4, .int (zi 0)), (3, .int (zi ((p2 (x (10 + q) 1 * x (10 + q) 1)) - 1))), (2, .int (zi ((p2 (x (10 + q) 1 * x (10 + q) 1)) - 1))), (0, .ref (gA g 40)), (1, .ref (gA g (10 + q)))]) dX3_fewestOf_40 (by decide) rfl ?_
        have L42 : ∀ (N : Nat) (k : Int) (s : Int), (p2 (x (10 + q) 1 * x (10 + q) 1) - 1 - k).toNat < N → (0 ≤ k ∧ k ≤ p2 (x (10 + q) 1 * x (10 + q) 1) - 1) → (0 ≤ s ∧ s < 512) → (s = gvs (fun m => dfA (x (10 + q) 1) (nc x q) m (x (10 + q) 1 * x (10 + q) 1).toNat) (p2 (x (10 + q) 1 * x (10 + q) 1) - 1) k.toNat) → Zz Γ g 5 0 0 y 42 [(0, .ref (gA g 40)), (1, .ref (gA g (10 + q))), (2, .int (zi ((p2 (x (10 + q) 1 * x (10 + q) 1)) - 1))), (3, .int (zi s)), (4, .int (zi k))] [] := by
          intro N
          induction N with
          | zero => intro k s hm; exact absurd hm (Nat.not_lt_zero _)
          | succ N ih42 =>
            intro k s hm k0 hs9 hB
            have hpk := pop_rng (v := k) (by omega)
            have hps := pop_rng hs9
            refine z_iload (pc := 42) hO 4 dX3_fewestOf_42 rfl ?_
            refine z_iload_n (pc := 44) hO 2 dX3_fewestOf_44 rfl rfl ?_
            refine z_icmp_ge (pc := 45) hO (tgt := 78) dX3_fewestOf_45 (by decide) (by omega) (by omega) (fun b2 => ?_) (fun b2 => ?_)
            · refine z_iload_n (pc := 78) hO 3 dX3_fewestOf_78 rfl rfl ?_
              exact z_iret (pc := 79) hO hr hQ rfl dX3_fewestOf_79 (by first | (refine ⟨?_, hfr⟩; rw [hB]; unfold gvF; congr 1; omega; done) | (exfalso; omega))
            · refine z_iload (pc := 48) hO 4 dX3_fewestOf_48 rfl ?_
              refine z_callSIp (pc := 50) hO (As := [.int (zi k)]) (st := []) (c_J6_bitCount_0f7a4 (qL Γ) g y k (by first | assumption | omega)) k_X3_25 rfl (Nat.le_of_ble_eq_true rfl) (by decide) (by decide) ⟨by decide, by decide⟩ dX3_fewestOf_50 ?_
              refine z_iload_n (pc := 53) hO 3 dX3_fewestOf_53 rfl rfl ?_
              refine z_callSIp (pc := 54) hO (As := [.int (zi s)]) (st := [.int (zi (pop k))]) (c_J6_bitCount_0f7a4 (qL Γ) g y s (by first | assumption | omega)) k_X3_25 rfl (Nat.le_of_ble_eq_true rfl) (by decide) (by decide) ⟨by decide, by decide⟩ dX3_fewestOf_54 ?_
              refine z_icmp_ge (pc := 57) hO (tgt := 72) dX3_fewestOf_57 (by decide) (by omega) (by omega) (fun b3 => ?_) (fun b3 => ?_)
              · refine z_iinc (pc := 72) hO 4 (lv' := [(4, .int (zi (k + 1))), (0, .ref (gA g 40)), (1, .ref (gA g (10 + q))), (2, .int (zi ((p2 (x (10 + q) 1 * x (10 + q) 1)) - 1))), (3, .int (zi s))]) dX3_fewestOf_72 rfl (by decide) rfl ?_
                refine z_goto (pc := 75) hO (tgt := 42) dX3_fewestOf_75 (by decide) ?_
                refine z_sub [1, 2, 3, 4, 0] rfl ?_
                exact ih42 (k + 1) s (by omega) (by omega) (by omega) (by rw [gvs_s _ _ (by omega), ← hB, ← htl k]; first | (rw [if_pos ⟨by assumption, by assumption⟩]; done) | (rw [if_neg (by intro h; omega)]; done) | (rw [if_neg (by intro h; exact absurd h.2 (by assumption))]; done))
              · refine z_aload_n (pc := 60) hO 0 dX3_fewestOf_60 rfl rfl ?_
                refine z_iload (pc := 61) hO 4 dX3_fewestOf_61 rfl ?_
                refine z_callVB (pc := 63) hO (As := [.int (zi k)]) (st := []) (c_X3_tellsAllApart (qL Γ) g y k (by first | assumption | omega) (by first | assumption | omega)) k_X3_31 isO_40 rfl (Nat.le_of_ble_eq_true rfl) (by decide) (by decide) ⟨by decide, by decide⟩ dX3_fewestOf_63 (fun pb4 => ?_) (fun pb4 => ?_)
                · skip
                  refine z_if_eq (pc := 66) hO (tgt := 72) dX3_fewestOf_66 (by decide) (by decide) (fun h => absurd h (by decide)) (fun _ => ?_)
                  refine z_iload (pc := 69) hO 4 dX3_fewestOf_69 rfl ?_
                  refine z_istore_n (pc := 71) hO (lv' := [(3, .int (zi k)), (0, .ref (gA g 40)), (1, .ref (gA g (10 + q))), (2, .int (zi ((p2 (x (10 + q) 1 * x (10 + q) 1)) - 1))), (4, .int (zi k))]) dX3_fewestOf_71 rfl (by decide) rfl ?_
                  refine z_iinc (pc := 72) hO 4 (lv' := [(4, .int (zi (k + 1))), (3, .int (zi k)), (0, .ref (gA g 40)), (1, .ref (gA g (10 + q))), (2, .int (zi ((p2 (x (10 + q) 1 * x (10 + q) 1)) - 1)))]) dX3_fewestOf_72 rfl (by decide) rfl ?_
                  refine z_goto (pc := 75) hO (tgt := 42) dX3_fewestOf_75 (by decide) ?_
                  refine z_sub [2, 3, 4, 1, 0] rfl ?_
                  exact ih42 (k + 1) k (by omega) (by omega) (by omega) (by rw [gvs_s _ _ (by omega), ← hB, ← htl k]; first | (rw [if_pos ⟨by assumption, by assumption⟩]; done) | (rw [if_neg (by intro h; omega)]; done) | (rw [if_neg (by intro h; exact absurd h.2 (by assumption))]; done))
                · skip
                  refine z_if_eq (pc := 66) hO (tgt := 72) dX3_fewestOf_66 (by decide) (by decide) (fun _ => ?_) (fun h => absurd h (by decide))
                  refine z_iinc (pc := 72) hO 4 (lv' := [(4, .int (zi (k + 1))), (0, .ref (gA g 40)), (1, .ref (gA g (10 + q))), (2, .int (zi ((p2 (x (10 + q) 1 * x (10 + q) 1)) - 1))), (3, .int (zi s))]) dX3_fewestOf_72 rfl (by decide) rfl ?_
                  refine z_goto (pc := 75) hO (tgt := 42) dX3_fewestOf_75 (by decide) ?_
                  refine z_sub [1, 2, 3, 4, 0] rfl ?_
                  exact ih42 (k + 1) s (by omega) (by omega) (by omega) (by rw [gvs_s _ _ (by omega), ← hB, ← htl k]; first | (rw [if_pos ⟨by assumption, by assumption⟩]; done) | (rw [if_neg (by intro h; omega)]; done) | (rw [if_neg (by intro h; exact absurd h.2 (by assumption))]; done))
        refine z_sub [3, 4, 2, 1, 0] rfl ?_
        exact L42 _ 0 ((p2 (x (10 + q) 1 * x (10 + q) 1)) - 1) (Nat.lt_succ_self _) (by omega) (by omega) (by rfl)
      · refine z_aload_n (pc := 11) hO 0 dX3_fewestOf_11 rfl rfl ?_
        refine gf_X3_differences (pc := 12) hO f_X3_9 dX3_fewestOf_12 ?_
        refine z_iload_n (pc := 15) hO 2 dX3_fewestOf_15 rfl rfl ?_
        refine z_aload_n (pc := 16) hO 1 dX3_fewestOf_16 rfl rfl ?_
        refine z_iload_n (pc := 17) hO 2 dX3_fewestOf_17 rfl rfl ?_
        refine z_callSIp (pc := 18) hO (As := [.ref (gA g (10 + q)), .int (zi i)]) (st := [.int (zi i), .ref (gA g 41)]) (c_X3_differenceOf (qL Γ) g y q i (by first | assumption | omega) (by first | assumption | omega) (by first | assumption | omega)) k_X3_15 rfl (Nat.le_of_ble_eq_true rfl) (by decide) (by decide) ⟨by decide, by decide⟩ dX3_fewestOf_18 ?_
        refine z_iast (pc := 21) hO isI_41 (by omega) dX3_fewestOf_21 (fun m5 e6 => ?_)
        refine z_iinc (pc := 22) hO 2 (lv' := [(2, .int (zi (i + 1))), (0, .ref (gA g 40)), (1, .ref (gA g (10 + q)))]) dX3_fewestOf_22 rfl (by decide) rfl ?_
        refine z_goto (pc := 25) hO (tgt := 2) dX3_fewestOf_25 (by decide) ?_
        refine z_sub [1, 2, 0] rfl ?_
        exact ih2 (i + 1) m5 (by omega) (by omega) (by intro m a b; subst m5; exact dite (m = i) (fun e => by rw [e, up_s, hyy, hy, hnc]) (fun e => by rw [up_n _ _ (by omega)]; exact hA m a (by omega))) (by intro a ha; subst m5; rw [up_i _ _ _ ha]; exact hfr a ha)
  refine z_sub [1, 2, 0] rfl ?_
  exact L2 _ 0 x (Nat.lt_succ_self _) (by omega) (by intro m _ _; omega) (by intro a _; rfl)

