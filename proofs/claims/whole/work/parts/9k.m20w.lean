set_option maxHeartbeats 600000 in
theorem c_X12_power (l : Launch) (g : Gl) (x : Me) (a : Int) (ex : Int)  (ha : 0 ≤ a ∧ a < 1000003) (hex : 0 ≤ ex ∧ ex < 1048576) : ctQ l g yX12_power cX12_power 10 (some .long) 1 20 [.long (zl a), .long (zl ex)] x (QLu g (fun z x' => z = (pwF 20 1 a ex) ∧ x' = x)) := by
  refine ct_start (own := RX12) (lv := [(0, .long (zl a)), (2, .long (zl ex))]) (plainFor_of_name (by decide)) rfl (Nat.le_of_ble_eq_true rfl) rfl ?_
  intro Γ hΓ hO hr hQ _
  have hp20 : p2 ((20 : Nat) : Int) = 1048576 := by decide
  have hp00 : p2 ((0 : Nat) : Int) = 1 := by decide
  refine z_lconst (v := 1) (pc := 0) hO dX12_power_0 rfl ?_
  refine z_lstore (pc := 1) hO (lv' := [(4, .long (zl 1)), (0, .long (zl a)), (2, .long (zl ex))]) dX12_power_1 (by decide) rfl ?_
  refine z_lload_n (pc := 3) hO 1 dX12_power_3 rfl rfl ?_
  refine z_lstore (pc := 4) hO (lv' := [(6, .long (zl a)), (4, .long (zl 1)), (0, .long (zl a)), (2, .long (zl ex))]) dX12_power_4 (by decide) rfl ?_
  refine z_lload_n (pc := 6) hO 3 dX12_power_6 rfl rfl ?_
  refine z_lstore (pc := 7) hO (lv' := [(8, .long (zl ex)), (6, .long (zl a)), (4, .long (zl 1)), (0, .long (zl a)), (2, .long (zl ex))]) dX12_power_7 (by decide) rfl ?_
  have L9 : ∀ (N : Nat) (pr : Int) (fa : Int) (le : Int) (fu : Nat), le.toNat < N → (0 ≤ pr ∧ pr < 1000003) → (0 ≤ fa ∧ fa < 1000003) → (0 ≤ le ∧ le < p2 (fu : Int)) → (le < 1048576) → (pwF 20 1 a ex = pwF fu pr fa le) → Zz Γ g 10 0 0 x 9 [(0, .long (zl a)), (2, .long (zl ex)), (4, .long (zl pr)), (6, .long (zl fa)), (8, .long (zl le))] [] := by
    intro N
    induction N with
    | zero => intro pr fa le fu hm; exact absurd hm (Nat.not_lt_zero _)
    | succ N ih9 =>
      intro pr fa le fu hm h1 h2 h3 h5 hE
      have hq1 : 0 ≤ pr * fa ∧ pr * fa ≤ 1000006000009 := ⟨Int.mul_nonneg (by omega) (by omega), by have := Int.mul_le_mul (show pr ≤ 1000003 by omega) (show fa ≤ 1000003 by omega) (by omega) (by omega); omega⟩
      have hq2 : 0 ≤ fa * fa ∧ fa * fa ≤ 1000006000009 := ⟨Int.mul_nonneg (by omega) (by omega), by have := Int.mul_le_mul (show fa ≤ 1000003 by omega) (show fa ≤ 1000003 by omega) (by omega) (by omega); omega⟩
      have hm1 : 0 ≤ pr * fa % 1000003 ∧ pr * fa % 1000003 < 1000003 := ⟨Int.emod_nonneg _ (by decide), Int.emod_lt_of_pos _ (by decide)⟩
      have hm2 : 0 ≤ fa * fa % 1000003 ∧ fa * fa % 1000003 < 1000003 := ⟨Int.emod_nonneg _ (by decide), Int.emod_lt_of_pos _ (by decide)⟩
      refine z_lload (pc := 9) hO 4 dX12_power_9 rfl ?_
      refine z_lconst (v := 0) (pc := 11) hO dX12_power_11 rfl ?_
      refine z_lcmp_le (pc := 12) hO (tgt := 65) dX12_power_12 dX12_power_13 (by decide) (by omega) (by omega) (fun b1 => ?_) (fun b1 => ?_)
      · refine z_lload (pc := 65) hO 2 dX12_power_65 rfl ?_
        exact z_lret (pc := 67) hO hr hQ dX12_power_67 ⟨by first | (rw [hE, show le = 0 by omega, pwF_0]; done) | (exfalso; omega), rfl⟩
      · have hfu : fu ≠ 0 := by intro e; rw [e, hp00] at h3; omega
        obtain ⟨fu2, rfl⟩ : ∃ k, fu = k + 1 := ⟨fu - 1, by omega⟩
        have h2s := p2_s1 (k := (fu2 : Int)) (by omega)
        rw [show ((fu2 + 1 : Nat) : Int) = (fu2 : Int) + 1 by omega] at h3
        refine z_lload (pc := 16) hO 4 dX12_power_16 rfl ?_
        refine z_ldc2 (pc := 18) hO n_X12_205 dX12_power_18 ?_
        refine z_lrem (pc := 21) hO dX12_power_21 (by omega) (by omega) ?_
        refine z_lconst (v := 1) (pc := 22) hO dX12_power_22 rfl ?_
        refine z_lcmp_ne (pc := 23) hO (tgt := 39) dX12_power_23 dX12_power_24 (by decide) (by omega) (by omega) (fun b2 => ?_) (fun b2 => ?_)
        · refine z_lload (pc := 39) hO 2 dX12_power_39 rfl ?_
          refine z_lstore (pc := 41) hO (lv' := [(4, .long (zl pr)), (0, .long (zl a)), (2, .long (zl ex)), (6, .long (zl fa)), (8, .long (zl le))]) dX12_power_41 (by decide) rfl ?_
          refine z_lload (pc := 43) hO 3 dX12_power_43 rfl ?_
          refine z_lload (pc := 45) hO 3 dX12_power_45 rfl ?_
          refine z_lmul (pc := 47) hO dX12_power_47 ?_
          refine z_ldc2 (pc := 48) hO n_X12_207 dX12_power_48 ?_
          refine z_lrem (pc := 51) hO dX12_power_51 (by omega) (by omega) ?_
          refine z_lstore (pc := 52) hO (lv' := [(6, .long (zl ((fa * fa) % 1000003))), (4, .long (zl pr)), (0, .long (zl a)), (2, .long (zl ex)), (8, .long (zl le))]) dX12_power_52 (by decide) rfl ?_
          refine z_lload (pc := 54) hO 4 dX12_power_54 rfl ?_
          refine z_ldc2 (pc := 56) hO n_X12_205 dX12_power_56 ?_
          refine z_ldiv (pc := 59) hO dX12_power_59 (by omega) (by omega) ?_
          refine z_lstore (pc := 60) hO (lv' := [(8, .long (zl (le / 2))), (6, .long (zl ((fa * fa) % 1000003))), (4, .long (zl pr)), (0, .long (zl a)), (2, .long (zl ex))]) dX12_power_60 (by decide) rfl ?_
          refine z_goto (pc := 62) hO (tgt := 9) dX12_power_62 (by decide) ?_
          refine z_sub [3, 4, 2, 1, 0] rfl ?_
          exact ih9 pr ((fa * fa) % 1000003) (le / 2) fu2 (by omega) (by first | exact h1 | exact hm1) (by exact hm2) (by omega) (by omega) (by rw [hE, pwF, if_pos (by omega)]; first | (rw [if_pos (by omega)]; done) | (rw [if_neg (by omega)]; done))
        · refine z_lload (pc := 27) hO 2 dX12_power_27 rfl ?_
          refine z_lload (pc := 29) hO 3 dX12_power_29 rfl ?_
          refine z_lmul (pc := 31) hO dX12_power_31 ?_
          refine z_ldc2 (pc := 32) hO n_X12_207 dX12_power_32 ?_
          refine z_lrem (pc := 35) hO dX12_power_35 (by omega) (by omega) ?_
          refine z_goto (pc := 36) hO (tgt := 41) dX12_power_36 (by decide) ?_
          refine z_lstore (pc := 41) hO (lv' := [(4, .long (zl ((pr * fa) % 1000003))), (0, .long (zl a)), (2, .long (zl ex)), (6, .long (zl fa)), (8, .long (zl le))]) dX12_power_41 (by decide) rfl ?_
          refine z_lload (pc := 43) hO 3 dX12_power_43 rfl ?_
          refine z_lload (pc := 45) hO 3 dX12_power_45 rfl ?_
          refine z_lmul (pc := 47) hO dX12_power_47 ?_
          refine z_ldc2 (pc := 48) hO n_X12_207 dX12_power_48 ?_
          refine z_lrem (pc := 51) hO dX12_power_51 (by omega) (by omega) ?_
          refine z_lstore (pc := 52) hO (lv' := [(6, .long (zl ((fa * fa) % 1000003))), (4, .long (zl ((pr * fa) % 1000003))), (0, .long (zl a)), (2, .long (zl ex)), (8, .long (zl le))]) dX12_power_52 (by decide) rfl ?_
          refine z_lload (pc := 54) hO 4 dX12_power_54 rfl ?_
          refine z_ldc2 (pc := 56) hO n_X12_205 dX12_power_56 ?_
          refine z_ldiv (pc := 59) hO dX12_power_59 (by omega) (by omega) ?_
          refine z_lstore (pc := 60) hO (lv' := [(8, .long (zl (le / 2))), (6, .long (zl ((fa * fa) % 1000003))), (4, .long (zl ((pr * fa) % 1000003))), (0, .long (zl a)), (2, .long (zl ex))]) dX12_power_60 (by decide) rfl ?_
          refine z_goto (pc := 62) hO (tgt := 9) dX12_power_62 (by decide) ?_
          refine z_sub [3, 4, 2, 1, 0] rfl ?_
          exact ih9 ((pr * fa) % 1000003) ((fa * fa) % 1000003) (le / 2) fu2 (by omega) (by first | exact h1 | exact hm1) (by exact hm2) (by omega) (by omega) (by rw [hE, pwF, if_pos (by omega)]; first | (rw [if_pos (by omega)]; done) | (rw [if_neg (by omega)]; done))
  refine z_sub [3, 4, 2, 1, 0] rfl ?_
  exact L9 _ 1 a ex 20 (Nat.lt_succ_self _) (by omega) (by omega) (by rw [hp20]; exact hex) (by omega) (by rfl)

set_option maxHeartbeats 600000 in
theorem c_X12_begin (l : Launch) (g : Gl) (x : Me) (rw : Nat)  (hrw : isL g rw 36) : ctQ l g yX12_begin cX12_begin 3 none 1 20 [.ref (gA g 50), .ref (gA g rw)] x (QVu g (fun x' => x' = clr x rw 36)) := by
  refine ct_start (own := RX12) (lv := [(0, .ref (gA g 50)), (1, .ref (gA g rw))]) (plainFor_of_name (by decide)) rfl (Nat.le_of_ble_eq_true rfl) rfl ?_
  intro Γ hΓ hO hr hQ _
  refine z_iconst (pc := 0) hO dX12_begin_0 ?_
  refine z_istore_n (pc := 1) hO (lv' := [(2, .int (zi 0)), (0, .ref (gA g 50)), (1, .ref (gA g rw))]) dX12_begin_1 rfl (by decide) rfl ?_
  have L2 : ∀ (N : Nat) (i : Int) (y : Me), (36 - i).toNat < N → (0 ≤ i ∧ i ≤ 36) → (y = clr x rw i) → Zz Γ g 3 0 0 y 2 [(0, .ref (gA g 50)), (1, .ref (gA g rw)), (2, .int (zi i))] [] := by
    intro N
    induction N with
    | zero => intro i y hm; exact absurd hm (Nat.not_lt_zero _)
    | succ N ih2 =>
      intro i y hm h0 hy
      refine z_iload_n (pc := 2) hO 2 dX12_begin_2 rfl rfl ?_
      refine z_bipush (pc := 3) hO dX12_begin_3 (by decide) ?_
      refine z_icmp_ge (pc := 5) hO (tgt := 18) dX12_begin_5 (by decide) (by omega) (by omega) (fun b1 => ?_) (fun b1 => ?_)
      · exact z_vret (pc := 18) hO hr hQ dX12_begin_18 (by first | (rw [hy]; congr 1; omega; done) | (exfalso; omega))
      · refine z_aload_n (pc := 8) hO 1 dX12_begin_8 rfl rfl ?_
        refine z_iload_n (pc := 9) hO 2 dX12_begin_9 rfl rfl ?_
        refine z_lconst (v := 0) (pc := 10) hO dX12_begin_10 rfl ?_
        refine z_last (pc := 11) hO hrw (by omega) dX12_begin_11 (fun m2 e3 => ?_)
        refine z_iinc (pc := 12) hO 2 (lv' := [(2, .int (zi (i + 1))), (0, .ref (gA g 50)), (1, .ref (gA g rw))]) dX12_begin_12 rfl (by decide) rfl ?_
        refine z_goto (pc := 15) hO (tgt := 2) dX12_begin_15 (by decide) ?_
        refine z_sub [1, 2, 0] rfl ?_
        exact ih2 (i + 1) m2 (by omega) (by omega) (by rw [← clr_s _ _ (by omega), ← hy]; assumption)
  refine z_sub [1, 2, 0] rfl ?_
  exact L2 _ 0 x (Nat.lt_succ_self _) (by omega) (by rw [clr_0])

set_option maxHeartbeats 600000 in
theorem c_X12_layLine (l : Launch) (g : Gl) (x : Me) (rw : Nat) (n : Int) (kind : Int) (k : Int)  (hrw : isL g rw 36) (hn : 1 ≤ n ∧ n ≤ 6) (hk : 0 ≤ kind ∧ kind ≤ 3) (hkk : 0 ≤ k ∧ k < n) : ctQ l g yX12_layLine cX12_layLine 8 none 2 42 [.ref (gA g 50), .ref (gA g rw), .int (zi n), .int (zi kind), .int (zi k)] x (QVu g (fun x' => VB x' rw (lmR n kind k) 1 ∧ ∀ a, a ≠ rw → x' a = x a)) := by
  refine ct_start (own := RX12) (lv := [(0, .ref (gA g 50)), (1, .ref (gA g rw)), (2, .int (zi n)), (3, .int (zi kind)), (4, .int (zi k))]) (plainFor_of_name (by decide)) rfl (Nat.le_of_ble_eq_true rfl) rfl ?_
  intro Γ hΓ hO hr hQ _
  have h6 := sq6 hn
  refine z_aload_n (pc := 0) hO 0 dX12_layLine_0 rfl rfl ?_
  refine z_aload_n (pc := 1) hO 1 dX12_layLine_1 rfl rfl ?_
  refine z_callVV (pc := 2) hO (As := [.ref (gA g rw)]) (st := []) (c_X12_begin (qL Γ) g x rw (by exact hrw)) k_X12_215 isO_50 rfl (Nat.le_of_ble_eq_true rfl) (by decide) (by decide) ⟨by decide, by decide⟩ dX12_layLine_2 (fun m2 h3 => ?_)
  have hw := h3
  have hw0 : VB m2 rw (List.replicate 36 0) 1 := VB_le (VB_0 hw) (by decide)
  have hwf : ∀ a, a ≠ rw → m2 a = x a := fun a ha => by rw [hw]; exact clr_i x rw 36 ha
  refine z_iconst (pc := 5) hO dX12_layLine_5 ?_
  refine z_istore (pc := 6) hO (lv' := [(5, .int (zi 0)), (0, .ref (gA g 50)), (1, .ref (gA g rw)), (2, .int (zi n)), (3, .int (zi kind)), (4, .int (zi k))]) dX12_layLine_6 (by decide) rfl ?_
  have L8 : ∀ (N : Nat) (i : Int) (y : Me), (n - i).toNat < N → (0 ≤ i ∧ i ≤ n) → (VB y rw (lmA n kind k i.toNat) 1) → (∀ a, a ≠ rw → y a = x a) → Zz Γ g 8 0 0 y 8 [(0, .ref (gA g 50)), (1, .ref (gA g rw)), (2, .int (zi n)), (3, .int (zi kind)), (4, .int (zi k)), (5, .int (zi i))] [] := by
    intro N
    induction N with
    | zero => intro i y hm; exact absurd hm (Nat.not_lt_zero _)
    | succ N ih8 =>
      intro i y hm h0 hV hfr
      have hm1 := Int.emod_nonneg (k + i) (show n ≠ 0 by omega)
      have hm2 := Int.emod_lt_of_pos (k + i) (show 0 < n by omega)
      have hm3 := Int.emod_nonneg (k - i + n) (show n ≠ 0 by omega)
      have hm4 := Int.emod_lt_of_pos (k - i + n) (show 0 < n by omega)
      refine z_iload (pc := 8) hO 5 dX12_layLine_8 rfl ?_
      refine z_iload_n (pc := 10) hO 2 dX12_layLine_10 rfl rfl ?_
      refine z_icmp_ge (pc := 11) hO (tgt := 88) dX12_layLine_11 (by decide) (by omega) (by omega) (fun b4 => ?_) (fun b4 => ?_)
      · exact z_vret (pc := 88) hO hr hQ dX12_layLine_88 (by first | (refine ⟨?_, hfr⟩; unfold lmR; rw [show n = i by omega]; rw [show n = i by omega] at hV; exact hV; done) | (exfalso; omega))
      · have hon := onl_rng (n := n) (k := kind) (l := k) (i := i) (by omega) hkk (by omega)
        refine z_iload_n (pc := 14) hO 3 dX12_layLine_14 rfl rfl ?_
        refine z_if_ne (pc := 15) hO (tgt := 23) dX12_layLine_15 (by decide) (by omega) (fun b5 => ?_) (fun b5 => ?_)
        · refine z_iload (pc := 23) hO 5 dX12_layLine_23 rfl ?_
          refine z_istore (pc := 25) hO (lv' := [(6, .int (zi i)), (0, .ref (gA g 50)), (1, .ref (gA g rw)), (2, .int (zi n)), (3, .int (zi kind)), (4, .int (zi k)), (5, .int (zi i))]) dX12_layLine_25 (by decide) rfl ?_
          refine z_iload_n (pc := 27) hO 4 dX12_layLine_27 rfl rfl ?_
          refine z_if_ne (pc := 28) hO (tgt := 36) dX12_layLine_28 (by decide) (by omega) (fun b6 => ?_) (fun b6 => ?_)
          · refine z_iload_n (pc := 36) hO 4 dX12_layLine_36 rfl rfl ?_
            refine z_iconst (pc := 37) hO dX12_layLine_37 ?_
            refine z_icmp_ne (pc := 38) hO (tgt := 46) dX12_layLine_38 (by decide) (by omega) (by omega) (fun b7 => ?_) (fun b7 => ?_)
            · refine z_iload_n (pc := 46) hO 4 dX12_layLine_46 rfl rfl ?_
              refine z_iconst (pc := 47) hO dX12_layLine_47 ?_
              refine z_icmp_ne (pc := 48) hO (tgt := 61) dX12_layLine_48 (by decide) (by omega) (by omega) (fun b8 => ?_) (fun b8 => ?_)
              · refine z_iload (pc := 61) hO 5 dX12_layLine_61 rfl ?_
                refine z_iload (pc := 63) hO 6 dX12_layLine_63 rfl ?_
                refine z_isub (pc := 65) hO dX12_layLine_65 ?_
                refine z_iload_n (pc := 66) hO 3 dX12_layLine_66 rfl rfl ?_
                refine z_iadd (pc := 67) hO dX12_layLine_67 ?_
                refine z_iload_n (pc := 68) hO 3 dX12_layLine_68 rfl rfl ?_
                refine z_irem (pc := 69) hO dX12_layLine_69 (by omega) (by omega) ?_
                refine z_istore (pc := 70) hO (lv' := [(7, .int (zi (((k - i) + n) % n))), (6, .int (zi i)), (0, .ref (gA g 50)), (1, .ref (gA g rw)), (2, .int (zi n)), (3, .int (zi kind)), (4, .int (zi k)), (5, .int (zi i))]) dX12_layLine_70 (by decide) rfl ?_
                refine z_aload_n (pc := 72) hO 3 dX12_layLine_72 rfl rfl ?_
                refine z_iload_n (pc := 73) hO 4 dX12_layLine_73 rfl rfl ?_
                refine z_iload (pc := 74) hO 1 dX12_layLine_74 rfl ?_
                refine z_imul (pc := 76) hO dX12_layLine_76 ?_
                refine z_iload (pc := 77) hO 0 dX12_layLine_77 rfl ?_
                refine z_iadd (pc := 79) hO dX12_layLine_79 ?_
                rw [show ((n * i) + (((k - i) + n) % n)) = onl n kind k i from by first | (exfalso; omega; done) | (unfold onl; first | (rw [if_pos (by omega)]; done) | (rw [if_neg (by omega), if_pos (by omega)]; done) | (rw [if_neg (by omega), if_neg (by omega), if_pos (by omega)]; done) | (rw [if_neg (by omega), if_neg (by omega), if_neg (by omega)]; done))]
                refine z_lconst (v := 1) (pc := 80) hO dX12_layLine_80 rfl ?_
                refine z_last (pc := 81) hO hrw (by omega) dX12_layLine_81 (fun m9 e10 => ?_)
                refine z_iinc (pc := 82) hO 7 (lv' := [(5, .int (zi (i + 1))), (7, .int (zi (((k - i) + n) % n))), (6, .int (zi i)), (0, .ref (gA g 50)), (1, .ref (gA g rw)), (2, .int (zi n)), (3, .int (zi kind)), (4, .int (zi k))]) dX12_layLine_82 rfl (by decide) rfl ?_
                refine z_goto (pc := 85) hO (tgt := 8) dX12_layLine_85 (by decide) ?_
                refine z_sub [3, 4, 5, 6, 7, 0] rfl ?_
                exact ih8 (i + 1) m9 (by omega) (by omega) (by rw [lmA_s _ _ _ h0.1]; subst m9; exact VB_set hV (by omega) (by omega)) (by intro a ha; subst m9; rw [up_i _ _ _ ha]; exact hfr a ha)
              · refine z_iload (pc := 51) hO 5 dX12_layLine_51 rfl ?_
                refine z_iload (pc := 53) hO 6 dX12_layLine_53 rfl ?_
                refine z_iadd (pc := 55) hO dX12_layLine_55 ?_
                refine z_iload_n (pc := 56) hO 3 dX12_layLine_56 rfl rfl ?_
                refine z_irem (pc := 57) hO dX12_layLine_57 (by omega) (by omega) ?_
                refine z_goto (pc := 58) hO (tgt := 70) dX12_layLine_58 (by decide) ?_
                refine z_istore (pc := 70) hO (lv' := [(7, .int (zi ((k + i) % n))), (6, .int (zi i)), (0, .ref (gA g 50)), (1, .ref (gA g rw)), (2, .int (zi n)), (3, .int (zi kind)), (4, .int (zi k)), (5, .int (zi i))]) dX12_layLine_70 (by decide) rfl ?_
                refine z_aload_n (pc := 72) hO 3 dX12_layLine_72 rfl rfl ?_
                refine z_iload_n (pc := 73) hO 4 dX12_layLine_73 rfl rfl ?_
                refine z_iload (pc := 74) hO 1 dX12_layLine_74 rfl ?_
                refine z_imul (pc := 76) hO dX12_layLine_76 ?_
                refine z_iload (pc := 77) hO 0 dX12_layLine_77 rfl ?_
                refine z_iadd (pc := 79) hO dX12_layLine_79 ?_
                rw [show ((n * i) + ((k + i) % n)) = onl n kind k i from by first | (exfalso; omega; done) | (unfold onl; first | (rw [if_pos (by omega)]; done) | (rw [if_neg (by omega), if_pos (by omega)]; done) | (rw [if_neg (by omega), if_neg (by omega), if_pos (by omega)]; done) | (rw [if_neg (by omega), if_neg (by omega), if_neg (by omega)]; done))]
                refine z_lconst (v := 1) (pc := 80) hO dX12_layLine_80 rfl ?_
                refine z_last (pc := 81) hO hrw (by omega) dX12_layLine_81 (fun m11 e12 => ?_)
                refine z_iinc (pc := 82) hO 7 (lv' := [(5, .int (zi (i + 1))), (7, .int (zi ((k + i) % n))), (6, .int (zi i)), (0, .ref (gA g 50)), (1, .ref (gA g rw)), (2, .int (zi n)), (3, .int (zi kind)), (4, .int (zi k))]) dX12_layLine_82 rfl (by decide) rfl ?_
                refine z_goto (pc := 85) hO (tgt := 8) dX12_layLine_85 (by decide) ?_
                refine z_sub [3, 4, 5, 6, 7, 0] rfl ?_
                exact ih8 (i + 1) m11 (by omega) (by omega) (by rw [lmA_s _ _ _ h0.1]; subst m11; exact VB_set hV (by omega) (by omega)) (by intro a ha; subst m11; rw [up_i _ _ _ ha]; exact hfr a ha)
            · refine z_iload (pc := 41) hO 5 dX12_layLine_41 rfl ?_
              refine z_goto (pc := 43) hO (tgt := 70) dX12_layLine_43 (by decide) ?_
              refine z_istore (pc := 70) hO (lv' := [(7, .int (zi k)), (6, .int (zi i)), (0, .ref (gA g 50)), (1, .ref (gA g rw)), (2, .int (zi n)), (3, .int (zi kind)), (4, .int (zi k)), (5, .int (zi i))]) dX12_layLine_70 (by decide) rfl ?_
              refine z_aload_n (pc := 72) hO 3 dX12_layLine_72 rfl rfl ?_
              refine z_iload_n (pc := 73) hO 4 dX12_layLine_73 rfl rfl ?_
              refine z_iload (pc := 74) hO 1 dX12_layLine_74 rfl ?_
              refine z_imul (pc := 76) hO dX12_layLine_76 ?_
              refine z_iload (pc := 77) hO 0 dX12_layLine_77 rfl ?_
              refine z_iadd (pc := 79) hO dX12_layLine_79 ?_
              rw [show ((n * i) + k) = onl n kind k i from by first | (exfalso; omega; done) | (unfold onl; first | (rw [if_pos (by omega)]; done) | (rw [if_neg (by omega), if_pos (by omega)]; done) | (rw [if_neg (by omega), if_neg (by omega), if_pos (by omega)]; done) | (rw [if_neg (by omega), if_neg (by omega), if_neg (by omega)]; done))]
              refine z_lconst (v := 1) (pc := 80) hO dX12_layLine_80 rfl ?_
              refine z_last (pc := 81) hO hrw (by omega) dX12_layLine_81 (fun m13 e14 => ?_)
              refine z_iinc (pc := 82) hO 7 (lv' := [(5, .int (zi (i + 1))), (7, .int (zi k)), (6, .int (zi i)), (0, .ref (gA g 50)), (1, .ref (gA g rw)), (2, .int (zi n)), (3, .int (zi kind)), (4, .int (zi k))]) dX12_layLine_82 rfl (by decide) rfl ?_
              refine z_goto (pc := 85) hO (tgt := 8) dX12_layLine_85 (by decide) ?_
              refine z_sub [3, 4, 5, 6, 7, 0] rfl ?_
              exact ih8 (i + 1) m13 (by omega) (by omega) (by rw [lmA_s _ _ _ h0.1]; subst m13; exact VB_set hV (by omega) (by omega)) (by intro a ha; subst m13; rw [up_i _ _ _ ha]; exact hfr a ha)
          · refine z_iload (pc := 31) hO 6 dX12_layLine_31 rfl ?_
            refine z_goto (pc := 33) hO (tgt := 70) dX12_layLine_33 (by decide) ?_
            refine z_istore (pc := 70) hO (lv' := [(7, .int (zi i)), (6, .int (zi i)), (0, .ref (gA g 50)), (1, .ref (gA g rw)), (2, .int (zi n)), (3, .int (zi kind)), (4, .int (zi k)), (5, .int (zi i))]) dX12_layLine_70 (by decide) rfl ?_
            refine z_aload_n (pc := 72) hO 3 dX12_layLine_72 rfl rfl ?_
            refine z_iload_n (pc := 73) hO 4 dX12_layLine_73 rfl rfl ?_
            refine z_iload (pc := 74) hO 1 dX12_layLine_74 rfl ?_
            refine z_imul (pc := 76) hO dX12_layLine_76 ?_
            refine z_iload (pc := 77) hO 0 dX12_layLine_77 rfl ?_
            refine z_iadd (pc := 79) hO dX12_layLine_79 ?_
            rw [show ((n * i) + i) = onl n kind k i from by first | (exfalso; omega; done) | (unfold onl; first | (rw [if_pos (by omega)]; done) | (rw [if_neg (by omega), if_pos (by omega)]; done) | (rw [if_neg (by omega), if_neg (by omega), if_pos (by omega)]; done) | (rw [if_neg (by omega), if_neg (by omega), if_neg (by omega)]; done))]
            refine z_lconst (v := 1) (pc := 80) hO dX12_layLine_80 rfl ?_
            refine z_last (pc := 81) hO hrw (by omega) dX12_layLine_81 (fun m15 e16 => ?_)
            refine z_iinc (pc := 82) hO 7 (lv' := [(5, .int (zi (i + 1))), (7, .int (zi i)), (6, .int (zi i)), (0, .ref (gA g 50)), (1, .ref (gA g rw)), (2, .int (zi n)), (3, .int (zi kind)), (4, .int (zi k))]) dX12_layLine_82 rfl (by decide) rfl ?_
            refine z_goto (pc := 85) hO (tgt := 8) dX12_layLine_85 (by decide) ?_
            refine z_sub [3, 4, 5, 6, 7, 0] rfl ?_
            exact ih8 (i + 1) m15 (by omega) (by omega) (by rw [lmA_s _ _ _ h0.1]; subst m15; exact VB_set hV (by omega) (by omega)) (by intro a ha; subst m15; rw [up_i _ _ _ ha]; exact hfr a ha)
        · refine z_iload (pc := 18) hO 4 dX12_layLine_18 rfl ?_
          refine z_goto (pc := 20) hO (tgt := 25) dX12_layLine_20 (by decide) ?_
          refine z_istore (pc := 25) hO (lv' := [(6, .int (zi k)), (0, .ref (gA g 50)), (1, .ref (gA g rw)), (2, .int (zi n)), (3, .int (zi kind)), (4, .int (zi k)), (5, .int (zi i))]) dX12_layLine_25 (by decide) rfl ?_
          refine z_iload_n (pc := 27) hO 4 dX12_layLine_27 rfl rfl ?_
          refine z_if_ne (pc := 28) hO (tgt := 36) dX12_layLine_28 (by decide) (by omega) (fun b17 => ?_) (fun b17 => ?_)
          · refine z_iload_n (pc := 36) hO 4 dX12_layLine_36 rfl rfl ?_
            refine z_iconst (pc := 37) hO dX12_layLine_37 ?_
            refine z_icmp_ne (pc := 38) hO (tgt := 46) dX12_layLine_38 (by decide) (by omega) (by omega) (fun b18 => ?_) (fun b18 => ?_)
            · refine z_iload_n (pc := 46) hO 4 dX12_layLine_46 rfl rfl ?_
              refine z_iconst (pc := 47) hO dX12_layLine_47 ?_
              refine z_icmp_ne (pc := 48) hO (tgt := 61) dX12_layLine_48 (by decide) (by omega) (by omega) (fun b19 => ?_) (fun b19 => ?_)
              · refine z_iload (pc := 61) hO 5 dX12_layLine_61 rfl ?_
                refine z_iload (pc := 63) hO 6 dX12_layLine_63 rfl ?_
                refine z_isub (pc := 65) hO dX12_layLine_65 ?_
                refine z_iload_n (pc := 66) hO 3 dX12_layLine_66 rfl rfl ?_
                refine z_iadd (pc := 67) hO dX12_layLine_67 ?_
                refine z_iload_n (pc := 68) hO 3 dX12_layLine_68 rfl rfl ?_
                refine z_irem (pc := 69) hO dX12_layLine_69 (by omega) (by omega) ?_
                refine z_istore (pc := 70) hO (lv' := [(7, .int (zi (((k - i) + n) % n))), (6, .int (zi k)), (0, .ref (gA g 50)), (1, .ref (gA g rw)), (2, .int (zi n)), (3, .int (zi kind)), (4, .int (zi k)), (5, .int (zi i))]) dX12_layLine_70 (by decide) rfl ?_
                refine z_aload_n (pc := 72) hO 3 dX12_layLine_72 rfl rfl ?_
                refine z_iload_n (pc := 73) hO 4 dX12_layLine_73 rfl rfl ?_
                refine z_iload (pc := 74) hO 1 dX12_layLine_74 rfl ?_
                refine z_imul (pc := 76) hO dX12_layLine_76 ?_
                refine z_iload (pc := 77) hO 0 dX12_layLine_77 rfl ?_
                refine z_iadd (pc := 79) hO dX12_layLine_79 ?_
                rw [show ((n * k) + (((k - i) + n) % n)) = onl n kind k i from by first | (exfalso; omega; done) | (unfold onl; first | (rw [if_pos (by omega)]; done) | (rw [if_neg (by omega), if_pos (by omega)]; done) | (rw [if_neg (by omega), if_neg (by omega), if_pos (by omega)]; done) | (rw [if_neg (by omega), if_neg (by omega), if_neg (by omega)]; done))]
                refine z_lconst (v := 1) (pc := 80) hO dX12_layLine_80 rfl ?_
                refine z_last (pc := 81) hO hrw (by omega) dX12_layLine_81 (fun m20 e21 => ?_)
                refine z_iinc (pc := 82) hO 7 (lv' := [(5, .int (zi (i + 1))), (7, .int (zi (((k - i) + n) % n))), (6, .int (zi k)), (0, .ref (gA g 50)), (1, .ref (gA g rw)), (2, .int (zi n)), (3, .int (zi kind)), (4, .int (zi k))]) dX12_layLine_82 rfl (by decide) rfl ?_
                refine z_goto (pc := 85) hO (tgt := 8) dX12_layLine_85 (by decide) ?_
                refine z_sub [3, 4, 5, 6, 7, 0] rfl ?_
                exact ih8 (i + 1) m20 (by omega) (by omega) (by rw [lmA_s _ _ _ h0.1]; subst m20; exact VB_set hV (by omega) (by omega)) (by intro a ha; subst m20; rw [up_i _ _ _ ha]; exact hfr a ha)
              · refine z_iload (pc := 51) hO 5 dX12_layLine_51 rfl ?_
                refine z_iload (pc := 53) hO 6 dX12_layLine_53 rfl ?_
                refine z_iadd (pc := 55) hO dX12_layLine_55 ?_
                refine z_iload_n (pc := 56) hO 3 dX12_layLine_56 rfl rfl ?_
                refine z_irem (pc := 57) hO dX12_layLine_57 (by omega) (by omega) ?_
                refine z_goto (pc := 58) hO (tgt := 70) dX12_layLine_58 (by decide) ?_
                refine z_istore (pc := 70) hO (lv' := [(7, .int (zi ((k + i) % n))), (6, .int (zi k)), (0, .ref (gA g 50)), (1, .ref (gA g rw)), (2, .int (zi n)), (3, .int (zi kind)), (4, .int (zi k)), (5, .int (zi i))]) dX12_layLine_70 (by decide) rfl ?_
                refine z_aload_n (pc := 72) hO 3 dX12_layLine_72 rfl rfl ?_
                refine z_iload_n (pc := 73) hO 4 dX12_layLine_73 rfl rfl ?_
                refine z_iload (pc := 74) hO 1 dX12_layLine_74 rfl ?_
                refine z_imul (pc := 76) hO dX12_layLine_76 ?_
                refine z_iload (pc := 77) hO 0 dX12_layLine_77 rfl ?_
                refine z_iadd (pc := 79) hO dX12_layLine_79 ?_
                rw [show ((n * k) + ((k + i) % n)) = onl n kind k i from by first | (exfalso; omega; done) | (unfold onl; first | (rw [if_pos (by omega)]; done) | (rw [if_neg (by omega), if_pos (by omega)]; done) | (rw [if_neg (by omega), if_neg (by omega), if_pos (by omega)]; done) | (rw [if_neg (by omega), if_neg (by omega), if_neg (by omega)]; done))]
                refine z_lconst (v := 1) (pc := 80) hO dX12_layLine_80 rfl ?_
                refine z_last (pc := 81) hO hrw (by omega) dX12_layLine_81 (fun m22 e23 => ?_)
                refine z_iinc (pc := 82) hO 7 (lv' := [(5, .int (zi (i + 1))), (7, .int (zi ((k + i) % n))), (6, .int (zi k)), (0, .ref (gA g 50)), (1, .ref (gA g rw)), (2, .int (zi n)), (3, .int (zi kind)), (4, .int (zi k))]) dX12_layLine_82 rfl (by decide) rfl ?_
                refine z_goto (pc := 85) hO (tgt := 8) dX12_layLine_85 (by decide) ?_
                refine z_sub [3, 4, 5, 6, 7, 0] rfl ?_
                exact ih8 (i + 1) m22 (by omega) (by omega) (by rw [lmA_s _ _ _ h0.1]; subst m22; exact VB_set hV (by omega) (by omega)) (by intro a ha; subst m22; rw [up_i _ _ _ ha]; exact hfr a ha)
            · refine z_iload (pc := 41) hO 5 dX12_layLine_41 rfl ?_
              refine z_goto (pc := 43) hO (tgt := 70) dX12_layLine_43 (by decide) ?_
              refine z_istore (pc := 70) hO (lv' := [(7, .int (zi k)), (6, .int (zi k)), (0, .ref (gA g 50)), (1, .ref (gA g rw)), (2, .int (zi n)), (3, .int (zi kind)), (4, .int (zi k)), (5, .int (zi i))]) dX12_layLine_70 (by decide) rfl ?_
              refine z_aload_n (pc := 72) hO 3 dX12_layLine_72 rfl rfl ?_
              refine z_iload_n (pc := 73) hO 4 dX12_layLine_73 rfl rfl ?_
              refine z_iload (pc := 74) hO 1 dX12_layLine_74 rfl ?_
              refine z_imul (pc := 76) hO dX12_layLine_76 ?_
              refine z_iload (pc := 77) hO 0 dX12_layLine_77 rfl ?_
              refine z_iadd (pc := 79) hO dX12_layLine_79 ?_
              rw [show ((n * k) + k) = onl n kind k i from by first | (exfalso; omega; done) | (unfold onl; first | (rw [if_pos (by omega)]; done) | (rw [if_neg (by omega), if_pos (by omega)]; done) | (rw [if_neg (by omega), if_neg (by omega), if_pos (by omega)]; done) | (rw [if_neg (by omega), if_neg (by omega), if_neg (by omega)]; done))]
              refine z_lconst (v := 1) (pc := 80) hO dX12_layLine_80 rfl ?_
              refine z_last (pc := 81) hO hrw (by omega) dX12_layLine_81 (fun m24 e25 => ?_)
              refine z_iinc (pc := 82) hO 7 (lv' := [(5, .int (zi (i + 1))), (7, .int (zi k)), (6, .int (zi k)), (0, .ref (gA g 50)), (1, .ref (gA g rw)), (2, .int (zi n)), (3, .int (zi kind)), (4, .int (zi k))]) dX12_layLine_82 rfl (by decide) rfl ?_
              refine z_goto (pc := 85) hO (tgt := 8) dX12_layLine_85 (by decide) ?_
              refine z_sub [3, 4, 5, 6, 7, 0] rfl ?_
              exact ih8 (i + 1) m24 (by omega) (by omega) (by rw [lmA_s _ _ _ h0.1]; subst m24; exact VB_set hV (by omega) (by omega)) (by intro a ha; subst m24; rw [up_i _ _ _ ha]; exact hfr a ha)
          · refine z_iload (pc := 31) hO 6 dX12_layLine_31 rfl ?_
            refine z_goto (pc := 33) hO (tgt := 70) dX12_layLine_33 (by decide) ?_
            refine z_istore (pc := 70) hO (lv' := [(7, .int (zi i)), (6, .int (zi k)), (0, .ref (gA g 50)), (1, .ref (gA g rw)), (2, .int (zi n)), (3, .int (zi kind)), (4, .int (zi k)), (5, .int (zi i))]) dX12_layLine_70 (by decide) rfl ?_
            refine z_aload_n (pc := 72) hO 3 dX12_layLine_72 rfl rfl ?_
            refine z_iload_n (pc := 73) hO 4 dX12_layLine_73 rfl rfl ?_
            refine z_iload (pc := 74) hO 1 dX12_layLine_74 rfl ?_
            refine z_imul (pc := 76) hO dX12_layLine_76 ?_
            refine z_iload (pc := 77) hO 0 dX12_layLine_77 rfl ?_
            refine z_iadd (pc := 79) hO dX12_layLine_79 ?_
            rw [show ((n * k) + i) = onl n kind k i from by first | (exfalso; omega; done) | (unfold onl; first | (rw [if_pos (by omega)]; done) | (rw [if_neg (by omega), if_pos (by omega)]; done) | (rw [if_neg (by omega), if_neg (by omega), if_pos (by omega)]; done) | (rw [if_neg (by omega), if_neg (by omega), if_neg (by omega)]; done))]
            refine z_lconst (v := 1) (pc := 80) hO dX12_layLine_80 rfl ?_
            refine z_last (pc := 81) hO hrw (by omega) dX12_layLine_81 (fun m26 e27 => ?_)
            refine z_iinc (pc := 82) hO 7 (lv' := [(5, .int (zi (i + 1))), (7, .int (zi i)), (6, .int (zi k)), (0, .ref (gA g 50)), (1, .ref (gA g rw)), (2, .int (zi n)), (3, .int (zi kind)), (4, .int (zi k))]) dX12_layLine_82 rfl (by decide) rfl ?_
            refine z_goto (pc := 85) hO (tgt := 8) dX12_layLine_85 (by decide) ?_
            refine z_sub [3, 4, 5, 6, 7, 0] rfl ?_
            exact ih8 (i + 1) m26 (by omega) (by omega) (by rw [lmA_s _ _ _ h0.1]; subst m26; exact VB_set hV (by omega) (by omega)) (by intro a ha; subst m26; rw [up_i _ _ _ ha]; exact hfr a ha)
  refine z_sub [1, 2, 3, 4, 5, 0] rfl ?_
  exact L8 _ 0 m2 (Nat.lt_succ_self _) (by omega) (by exact hw0) (by exact hwf)

set_option maxHeartbeats 600000 in
theorem c_X12_isOfLaws (l : Launch) (g : Gl) (x : Me) (n : Int) (s : Int) (kind : Int) (k : Int)  (hn : 1 ≤ n ∧ n ≤ 6) (hs : 0 ≤ s ∧ s < 64) (hk : 0 ≤ kind ∧ kind ≤ 3) (hkk : 0 ≤ k ∧ k < n) : ctQ l g yX12_isOfLaws cX12_isOfLaws 5 (some .boolean) 1 20 [.int (zi n), .int (zi s), .int (zi kind), .int (zi k)] x (QIu g (fun z x' => ((z = 1 ∧ (isOb n s kind k = true)) ∨ (z = 0 ∧ ¬ (isOb n s kind k = true))) ∧ x' = x)) := by
  refine ct_start (own := RX12) (lv := [(0, .int (zi n)), (1, .int (zi s)), (2, .int (zi kind)), (3, .int (zi k))]) (plainFor_of_name (by decide)) rfl (Nat.le_of_ble_eq_true rfl) rfl ?_
  intro Γ hΓ hO hr hQ _
  have hb2 := bnd2_r (a := s) (b := 2) (by omega)
  have hb4 := bnd2_r (a := s) (b := 4) (by omega)
  have hb8 := bnd2_r (a := s) (b := 8) (by omega)
  have hb16 := bnd2_r (a := s) (b := 16) (by omega)
  refine z_iload_n (pc := 0) hO 2 dX12_isOfLaws_0 rfl rfl ?_
  refine z_iconst (pc := 1) hO dX12_isOfLaws_1 ?_
  refine z_icmp_ge (pc := 2) hO (tgt := 25) dX12_isOfLaws_2 (by decide) (by omega) (by omega) (fun b1 => ?_) (fun b1 => ?_)
  · refine z_iload_n (pc := 25) hO 3 dX12_isOfLaws_25 rfl rfl ?_
    refine z_iload_n (pc := 26) hO 2 dX12_isOfLaws_26 rfl rfl ?_
    refine z_iconst (pc := 27) hO dX12_isOfLaws_27 ?_
    refine z_icmp_ne (pc := 28) hO (tgt := 35) dX12_isOfLaws_28 (by decide) (by omega) (by omega) (fun b2 => ?_) (fun b2 => ?_)
    · refine z_iload_n (pc := 35) hO 0 dX12_isOfLaws_35 rfl rfl ?_
      refine z_iconst (pc := 36) hO dX12_isOfLaws_36 ?_
      refine z_isub (pc := 37) hO dX12_isOfLaws_37 ?_
      refine z_icmp_ne (pc := 38) hO (tgt := 45) dX12_isOfLaws_38 (by decide) (by omega) (by omega) (fun b3 => ?_) (fun b3 => ?_)
      · refine z_iconst (pc := 45) hO dX12_isOfLaws_45 ?_
        refine z_istore (pc := 46) hO (lv' := [(4, .int (zi 0)), (0, .int (zi n)), (1, .int (zi s)), (2, .int (zi kind)), (3, .int (zi k))]) dX12_isOfLaws_46 (by decide) rfl ?_
        refine z_iload_n (pc := 48) hO 2 dX12_isOfLaws_48 rfl rfl ?_
        refine z_bipush (pc := 49) hO dX12_isOfLaws_49 (by decide) ?_
        refine z_iand (pc := 51) hO (zi (bnd2 s 16)) dX12_isOfLaws_51 (by exact bnd2_z (by omega) (by omega)) ?_
        refine z_if_ne (pc := 52) hO (tgt := 67) dX12_isOfLaws_52 (by decide) (by omega) (fun b4 => ?_) (fun b4 => ?_)
        · refine z_iconst (pc := 67) hO dX12_isOfLaws_67 ?_
          refine z_goto (pc := 68) hO (tgt := 72) dX12_isOfLaws_68 (by decide) ?_
          exact z_iret (pc := 72) hO hr hQ rfl dX12_isOfLaws_72 ⟨Or.inl ⟨rfl, by first | (unfold isOb; (first | rw [if_pos (by omega)] | rw [if_neg (by omega)]); rw [decide_eq_true_eq]; (first | rw [if_pos (by omega)] | rw [if_neg (by omega)]); omega; done) | (exfalso; omega)⟩, rfl⟩
        · refine z_iload_n (pc := 55) hO 2 dX12_isOfLaws_55 rfl rfl ?_
          refine z_bipush (pc := 56) hO dX12_isOfLaws_56 (by decide) ?_
          refine z_iand (pc := 58) hO (zi (bnd2 s 8)) dX12_isOfLaws_58 (by exact bnd2_z (by omega) (by omega)) ?_
          refine z_if_eq (pc := 59) hO (tgt := 71) dX12_isOfLaws_59 (by decide) (by omega) (fun b5 => ?_) (fun b5 => ?_)
          · refine z_iconst (pc := 71) hO dX12_isOfLaws_71 ?_
            exact z_iret (pc := 72) hO hr hQ rfl dX12_isOfLaws_72 ⟨Or.inr ⟨rfl, by first | (unfold isOb; (first | rw [if_pos (by omega)] | rw [if_neg (by omega)]); rw [decide_eq_true_eq]; (first | rw [if_pos (by omega)] | rw [if_neg (by omega)]); omega; done) | (exfalso; omega)⟩, rfl⟩
          · refine z_iload (pc := 62) hO 0 dX12_isOfLaws_62 rfl ?_
            refine z_if_eq (pc := 64) hO (tgt := 71) dX12_isOfLaws_64 (by decide) (by decide) (fun _ => ?_) (fun h => absurd h (by decide))
            refine z_iconst (pc := 71) hO dX12_isOfLaws_71 ?_
            exact z_iret (pc := 72) hO hr hQ rfl dX12_isOfLaws_72 ⟨Or.inr ⟨rfl, by first | (unfold isOb; (first | rw [if_pos (by omega)] | rw [if_neg (by omega)]); rw [decide_eq_true_eq]; (first | rw [if_pos (by omega)] | rw [if_neg (by omega)]); omega; done) | (exfalso; omega)⟩, rfl⟩
      · refine z_iconst (pc := 41) hO dX12_isOfLaws_41 ?_
        refine z_goto (pc := 42) hO (tgt := 46) dX12_isOfLaws_42 (by decide) ?_
        refine z_istore (pc := 46) hO (lv' := [(4, .int (zi 1)), (0, .int (zi n)), (1, .int (zi s)), (2, .int (zi kind)), (3, .int (zi k))]) dX12_isOfLaws_46 (by decide) rfl ?_
        refine z_iload_n (pc := 48) hO 2 dX12_isOfLaws_48 rfl rfl ?_
        refine z_bipush (pc := 49) hO dX12_isOfLaws_49 (by decide) ?_
        refine z_iand (pc := 51) hO (zi (bnd2 s 16)) dX12_isOfLaws_51 (by exact bnd2_z (by omega) (by omega)) ?_
        refine z_if_ne (pc := 52) hO (tgt := 67) dX12_isOfLaws_52 (by decide) (by omega) (fun b6 => ?_) (fun b6 => ?_)
        · refine z_iconst (pc := 67) hO dX12_isOfLaws_67 ?_
          refine z_goto (pc := 68) hO (tgt := 72) dX12_isOfLaws_68 (by decide) ?_
          exact z_iret (pc := 72) hO hr hQ rfl dX12_isOfLaws_72 ⟨Or.inl ⟨rfl, by first | (unfold isOb; (first | rw [if_pos (by omega)] | rw [if_neg (by omega)]); rw [decide_eq_true_eq]; (first | rw [if_pos (by omega)] | rw [if_neg (by omega)]); omega; done) | (exfalso; omega)⟩, rfl⟩
        · refine z_iload_n (pc := 55) hO 2 dX12_isOfLaws_55 rfl rfl ?_
          refine z_bipush (pc := 56) hO dX12_isOfLaws_56 (by decide) ?_
          refine z_iand (pc := 58) hO (zi (bnd2 s 8)) dX12_isOfLaws_58 (by exact bnd2_z (by omega) (by omega)) ?_
          refine z_if_eq (pc := 59) hO (tgt := 71) dX12_isOfLaws_59 (by decide) (by omega) (fun b7 => ?_) (fun b7 => ?_)
          · refine z_iconst (pc := 71) hO dX12_isOfLaws_71 ?_
            exact z_iret (pc := 72) hO hr hQ rfl dX12_isOfLaws_72 ⟨Or.inr ⟨rfl, by first | (unfold isOb; (first | rw [if_pos (by omega)] | rw [if_neg (by omega)]); rw [decide_eq_true_eq]; (first | rw [if_pos (by omega)] | rw [if_neg (by omega)]); omega; done) | (exfalso; omega)⟩, rfl⟩
          · refine z_iload (pc := 62) hO 0 dX12_isOfLaws_62 rfl ?_
            refine z_if_eq (pc := 64) hO (tgt := 71) dX12_isOfLaws_64 (by decide) (by decide) (fun h => absurd h (by decide)) (fun _ => ?_)
            refine z_iconst (pc := 67) hO dX12_isOfLaws_67 ?_
            refine z_goto (pc := 68) hO (tgt := 72) dX12_isOfLaws_68 (by decide) ?_
            exact z_iret (pc := 72) hO hr hQ rfl dX12_isOfLaws_72 ⟨Or.inl ⟨rfl, by first | (unfold isOb; (first | rw [if_pos (by omega)] | rw [if_neg (by omega)]); rw [decide_eq_true_eq]; (first | rw [if_pos (by omega)] | rw [if_neg (by omega)]); omega; done) | (exfalso; omega)⟩, rfl⟩
    · refine z_iconst (pc := 31) hO dX12_isOfLaws_31 ?_
      refine z_goto (pc := 32) hO (tgt := 38) dX12_isOfLaws_32 (by decide) ?_
      refine z_icmp_ne (pc := 38) hO (tgt := 45) dX12_isOfLaws_38 (by decide) (by omega) (by omega) (fun b8 => ?_) (fun b8 => ?_)
      · refine z_iconst (pc := 45) hO dX12_isOfLaws_45 ?_
        refine z_istore (pc := 46) hO (lv' := [(4, .int (zi 0)), (0, .int (zi n)), (1, .int (zi s)), (2, .int (zi kind)), (3, .int (zi k))]) dX12_isOfLaws_46 (by decide) rfl ?_
        refine z_iload_n (pc := 48) hO 2 dX12_isOfLaws_48 rfl rfl ?_
        refine z_bipush (pc := 49) hO dX12_isOfLaws_49 (by decide) ?_
        refine z_iand (pc := 51) hO (zi (bnd2 s 16)) dX12_isOfLaws_51 (by exact bnd2_z (by omega) (by omega)) ?_
        refine z_if_ne (pc := 52) hO (tgt := 67) dX12_isOfLaws_52 (by decide) (by omega) (fun b9 => ?_) (fun b9 => ?_)
        · refine z_iconst (pc := 67) hO dX12_isOfLaws_67 ?_
          refine z_goto (pc := 68) hO (tgt := 72) dX12_isOfLaws_68 (by decide) ?_
          exact z_iret (pc := 72) hO hr hQ rfl dX12_isOfLaws_72 ⟨Or.inl ⟨rfl, by first | (unfold isOb; (first | rw [if_pos (by omega)] | rw [if_neg (by omega)]); rw [decide_eq_true_eq]; (first | rw [if_pos (by omega)] | rw [if_neg (by omega)]); omega; done) | (exfalso; omega)⟩, rfl⟩
        · refine z_iload_n (pc := 55) hO 2 dX12_isOfLaws_55 rfl rfl ?_
          refine z_bipush (pc := 56) hO dX12_isOfLaws_56 (by decide) ?_
          refine z_iand (pc := 58) hO (zi (bnd2 s 8)) dX12_isOfLaws_58 (by exact bnd2_z (by omega) (by omega)) ?_
          refine z_if_eq (pc := 59) hO (tgt := 71) dX12_isOfLaws_59 (by decide) (by omega) (fun b10 => ?_) (fun b10 => ?_)
          · refine z_iconst (pc := 71) hO dX12_isOfLaws_71 ?_
            exact z_iret (pc := 72) hO hr hQ rfl dX12_isOfLaws_72 ⟨Or.inr ⟨rfl, by first | (unfold isOb; (first | rw [if_pos (by omega)] | rw [if_neg (by omega)]); rw [decide_eq_true_eq]; (first | rw [if_pos (by omega)] | rw [if_neg (by omega)]); omega; done) | (exfalso; omega)⟩, rfl⟩
          · refine z_iload (pc := 62) hO 0 dX12_isOfLaws_62 rfl ?_
            refine z_if_eq (pc := 64) hO (tgt := 71) dX12_isOfLaws_64 (by decide) (by decide) (fun _ => ?_) (fun h => absurd h (by decide))
            refine z_iconst (pc := 71) hO dX12_isOfLaws_71 ?_
            exact z_iret (pc := 72) hO hr hQ rfl dX12_isOfLaws_72 ⟨Or.inr ⟨rfl, by first | (unfold isOb; (first | rw [if_pos (by omega)] | rw [if_neg (by omega)]); rw [decide_eq_true_eq]; (first | rw [if_pos (by omega)] | rw [if_neg (by omega)]); omega; done) | (exfalso; omega)⟩, rfl⟩
      · refine z_iconst (pc := 41) hO dX12_isOfLaws_41 ?_
        refine z_goto (pc := 42) hO (tgt := 46) dX12_isOfLaws_42 (by decide) ?_
        refine z_istore (pc := 46) hO (lv' := [(4, .int (zi 1)), (0, .int (zi n)), (1, .int (zi s)), (2, .int (zi kind)), (3, .int (zi k))]) dX12_isOfLaws_46 (by decide) rfl ?_
        refine z_iload_n (pc := 48) hO 2 dX12_isOfLaws_48 rfl rfl ?_
        refine z_bipush (pc := 49) hO dX12_isOfLaws_49 (by decide) ?_
        refine z_iand (pc := 51) hO (zi (bnd2 s 16)) dX12_isOfLaws_51 (by exact bnd2_z (by omega) (by omega)) ?_
        refine z_if_ne (pc := 52) hO (tgt := 67) dX12_isOfLaws_52 (by decide) (by omega) (fun b11 => ?_) (fun b11 => ?_)
        · refine z_iconst (pc := 67) hO dX12_isOfLaws_67 ?_
          refine z_goto (pc := 68) hO (tgt := 72) dX12_isOfLaws_68 (by decide) ?_
          exact z_iret (pc := 72) hO hr hQ rfl dX12_isOfLaws_72 ⟨Or.inl ⟨rfl, by first | (unfold isOb; (first | rw [if_pos (by omega)] | rw [if_neg (by omega)]); rw [decide_eq_true_eq]; (first | rw [if_pos (by omega)] | rw [if_neg (by omega)]); omega; done) | (exfalso; omega)⟩, rfl⟩
        · refine z_iload_n (pc := 55) hO 2 dX12_isOfLaws_55 rfl rfl ?_
          refine z_bipush (pc := 56) hO dX12_isOfLaws_56 (by decide) ?_
          refine z_iand (pc := 58) hO (zi (bnd2 s 8)) dX12_isOfLaws_58 (by exact bnd2_z (by omega) (by omega)) ?_
          refine z_if_eq (pc := 59) hO (tgt := 71) dX12_isOfLaws_59 (by decide) (by omega) (fun b12 => ?_) (fun b12 => ?_)
          · refine z_iconst (pc := 71) hO dX12_isOfLaws_71 ?_
            exact z_iret (pc := 72) hO hr hQ rfl dX12_isOfLaws_72 ⟨Or.inr ⟨rfl, by first | (unfold isOb; (first | rw [if_pos (by omega)] | rw [if_neg (by omega)]); rw [decide_eq_true_eq]; (first | rw [if_pos (by omega)] | rw [if_neg (by omega)]); omega; done) | (exfalso; omega)⟩, rfl⟩
          · refine z_iload (pc := 62) hO 0 dX12_isOfLaws_62 rfl ?_
            refine z_if_eq (pc := 64) hO (tgt := 71) dX12_isOfLaws_64 (by decide) (by decide) (fun h => absurd h (by decide)) (fun _ => ?_)
            refine z_iconst (pc := 67) hO dX12_isOfLaws_67 ?_
            refine z_goto (pc := 68) hO (tgt := 72) dX12_isOfLaws_68 (by decide) ?_
            exact z_iret (pc := 72) hO hr hQ rfl dX12_isOfLaws_72 ⟨Or.inl ⟨rfl, by first | (unfold isOb; (first | rw [if_pos (by omega)] | rw [if_neg (by omega)]); rw [decide_eq_true_eq]; (first | rw [if_pos (by omega)] | rw [if_neg (by omega)]); omega; done) | (exfalso; omega)⟩, rfl⟩
  · refine z_iload_n (pc := 5) hO 1 dX12_isOfLaws_5 rfl rfl ?_
    refine z_iload_n (pc := 6) hO 2 dX12_isOfLaws_6 rfl rfl ?_
    refine z_if_ne (pc := 7) hO (tgt := 14) dX12_isOfLaws_7 (by decide) (by omega) (fun b13 => ?_) (fun b13 => ?_)
    · refine z_iconst (pc := 14) hO dX12_isOfLaws_14 ?_
      refine z_iand (pc := 15) hO (zi (bnd2 s 4)) dX12_isOfLaws_15 (by exact bnd2_z (by omega) (by omega)) ?_
      refine z_if_eq (pc := 16) hO (tgt := 23) dX12_isOfLaws_16 (by decide) (by omega) (fun b14 => ?_) (fun b14 => ?_)
      · refine z_iconst (pc := 23) hO dX12_isOfLaws_23 ?_
        exact z_iret (pc := 24) hO hr hQ rfl dX12_isOfLaws_24 ⟨Or.inr ⟨rfl, by first | (unfold isOb; (first | rw [if_pos (by omega)] | rw [if_neg (by omega)]); rw [decide_eq_true_eq]; (first | rw [if_pos (by omega)] | rw [if_neg (by omega)]); omega; done) | (exfalso; omega)⟩, rfl⟩
      · refine z_iconst (pc := 19) hO dX12_isOfLaws_19 ?_
        refine z_goto (pc := 20) hO (tgt := 24) dX12_isOfLaws_20 (by decide) ?_
        exact z_iret (pc := 24) hO hr hQ rfl dX12_isOfLaws_24 ⟨Or.inl ⟨rfl, by first | (unfold isOb; (first | rw [if_pos (by omega)] | rw [if_neg (by omega)]); rw [decide_eq_true_eq]; (first | rw [if_pos (by omega)] | rw [if_neg (by omega)]); omega; done) | (exfalso; omega)⟩, rfl⟩
    · refine z_iconst (pc := 10) hO dX12_isOfLaws_10 ?_
      refine z_goto (pc := 11) hO (tgt := 15) dX12_isOfLaws_11 (by decide) ?_
      refine z_iand (pc := 15) hO (zi (bnd2 s 2)) dX12_isOfLaws_15 (by exact bnd2_z (by omega) (by omega)) ?_
      refine z_if_eq (pc := 16) hO (tgt := 23) dX12_isOfLaws_16 (by decide) (by omega) (fun b15 => ?_) (fun b15 => ?_)
      · refine z_iconst (pc := 23) hO dX12_isOfLaws_23 ?_
        exact z_iret (pc := 24) hO hr hQ rfl dX12_isOfLaws_24 ⟨Or.inr ⟨rfl, by first | (unfold isOb; (first | rw [if_pos (by omega)] | rw [if_neg (by omega)]); rw [decide_eq_true_eq]; (first | rw [if_pos (by omega)] | rw [if_neg (by omega)]); omega; done) | (exfalso; omega)⟩, rfl⟩
      · refine z_iconst (pc := 19) hO dX12_isOfLaws_19 ?_
        refine z_goto (pc := 20) hO (tgt := 24) dX12_isOfLaws_20 (by decide) ?_
        exact z_iret (pc := 24) hO hr hQ rfl dX12_isOfLaws_24 ⟨Or.inl ⟨rfl, by first | (unfold isOb; (first | rw [if_pos (by omega)] | rw [if_neg (by omega)]); rw [decide_eq_true_eq]; (first | rw [if_pos (by omega)] | rw [if_neg (by omega)]); omega; done) | (exfalso; omega)⟩, rfl⟩

set_option maxHeartbeats 600000 in
theorem c_X12_independent (l : Launch) (g : Gl) (x : Me)  (v0 : List Int) (u0 : List Int) (B : List (List Int)) (hL : VB x 59 v0 1000002) (hF : VB x 60 u0 1000002) (hB : BS x B) : ctQ l g yX12_independent cX12_independent 7 (some .int) 2 49 [.ref (gA g 50)] x (QIu g (fun z x' => z = (inL B 36 0 (subL v0 u0)).2 ∧ BS x' (inL B 36 0 (subL v0 u0)).1 ∧ ∀ a, a ≠ 59 → a ≠ 61 → a ≠ 62 → x' a = x a)) := by
  refine ct_start (own := RX12) (lv := [(0, .ref (gA g 50))]) (plainFor_of_name (by decide)) rfl (Nat.le_of_ble_eq_true rfl) rfl ?_
  intro Γ hΓ hO hr hQ _
  have hsl := subL_len hL.1 hF.1
  refine z_iconst (pc := 0) hO dX12_independent_0 ?_
  refine z_istore_n (pc := 1) hO (lv' := [(1, .int (zi 0)), (0, .ref (gA g 50))]) dX12_independent_1 rfl (by decide) rfl ?_
  have L2 : ∀ (N : Nat) (p : Int) (y : Me), (36 - p).toNat < N → (0 ≤ p ∧ p ≤ 36) → (∀ i, 0 ≤ i → i < p → y 59 i = (subL v0 u0).getD i.toNat 0) → (∀ i, 0 ≤ i → i < p → 0 ≤ y 59 i ∧ y 59 i ≤ 1000002) → (∀ i, p ≤ i → y 59 i = x 59 i) → (∀ a, a ≠ 59 → y a = x a) → Zz Γ g 7 0 0 y 2 [(0, .ref (gA g 50)), (1, .int (zi p))] [] := by
    intro N
    induction N with
    | zero => intro p y hm; exact absurd hm (Nat.not_lt_zero _)
    | succ N ih2 =>
      intro p y hm h0 hA hA2 hB2 hfr
      refine z_iload_n (pc := 2) hO 1 dX12_independent_2 rfl rfl ?_
      refine z_bipush (pc := 3) hO dX12_independent_3 (by decide) ?_
      refine z_icmp_ge (pc := 5) hO (tgt := 41) dX12_independent_5 (by decide) (by omega) (by omega) (fun b1 => ?_) (fun b1 => ?_)
      · have hV0 : VB y 59 (subL v0 u0) 1000002 := ⟨hsl, fun i a b => by have h1 := hA i a (by omega); have h2 := hA2 i a (by omega); omega⟩
        have hB0 : BS y B := BS_of hB (hfr 61 (by omega)) (hfr 62 (by omega))
        obtain ⟨m, hmem⟩ : ∃ m : Me, m = y := ⟨_, rfl⟩
        refine z_iconst (pc := 41) hO dX12_independent_41 ?_
        refine z_istore_n (pc := 42) hO (lv' := [(1, .int (zi 0)), (0, .ref (gA g 50))]) dX12_independent_42 rfl (by decide) rfl ?_
        have L43 : ∀ (N : Nat) (p : Int) (y : Me) (v : List Int), (36 - p).toNat < N → (0 ≤ p ∧ p ≤ 36) → (VB y 59 v 1000002) → (inL B 36 0 (subL v0 u0) = inL B (36 - p.toNat) p.toNat v) → (∀ a, a ≠ 59 → y a = m a) → Zz Γ g 7 0 0 y 43 [(0, .ref (gA g 50)), (1, .int (zi p))] [] := by
          intro N
          induction N with
          | zero => intro p y v hm; exact absurd hm (Nat.not_lt_zero _)
          | succ N ih43 =>
            intro p y v hm h0 hV hE hfr2
            have hBy : BS y B := BS_of hB0 (by rw [hfr2 61 (by omega), hmem]) (by rw [hfr2 62 (by omega), hmem])
            refine z_iload_n (pc := 43) hO 1 dX12_independent_43 rfl rfl ?_
            refine z_bipush (pc := 44) hO dX12_independent_44 (by decide) ?_
            refine z_icmp_ge (pc := 46) hO (tgt := 199) dX12_independent_46 (by decide) (by omega) (by omega) (fun b2 => ?_) (fun b2 => ?_)
            · refine z_iconst (pc := 199) hO dX12_independent_199 ?_
              exact z_iret (pc := 200) hO hr hQ rfl dX12_independent_200 (by first | (rw [hE, show 36 - p.toNat = 0 by omega]; exact ⟨rfl, hBy, fun a a1 a2 a3 => by rw [hfr2 a a1, hmem, hfr a a1]⟩; done) | (exfalso; omega))
            · have hvp := hV.2 p (by omega) (by omega)
              have his := inL_s (B := B) (v := v) (p := p) (by omega)
              have hbp := hBy.2 p.toNat (by omega)
              have ept : ((p.toNat : Nat) : Int) = p := by omega
              rw [ept] at hbp
              have h62 : y 62 p = 0 ∨ y 62 p = 1 := by rcases hbp with ⟨_, h⟩ | ⟨_, h, _⟩; exact Or.inl h; exact Or.inr h
              refine z_aload_n (pc := 49) hO 0 dX12_independent_49 rfl rfl ?_
              refine gf_X12_line (pc := 50) hO f_X12_34 dX12_independent_50 ?_
              refine z_iload_n (pc := 53) hO 1 dX12_independent_53 rfl rfl ?_
              refine z_lald (pc := 54) hO isL_59 (by omega) dX12_independent_54 ?_
              refine z_lconst (v := 0) (pc := 55) hO dX12_independent_55 rfl ?_
              refine z_lcmp_eq (pc := 56) hO (tgt := 193) dX12_independent_56 dX12_independent_57 (by decide) (by omega) (by omega) (fun b3 => ?_) (fun b3 => ?_)
              · have hnx : ∃ v2, VB y 59 v2 1000002 ∧ inL B (36 - p.toNat) p.toNat v = inL B (36 - (p + 1).toNat) (p + 1).toNat v2 ∧ ∀ a, a ≠ 59 → y a = m a := by
                    first
                    | exact ⟨v, hV, his.1 (by omega), hfr2⟩
                    | exact ⟨rdz v (B.getD p.toNat []) p.toNat, ⟨rdz_len hV.1 hbn.2.1, fun i a b => kA i a (by omega)⟩, his.2.2 (by omega) hbn.1, fun a ha => by rw [kf a ha]; exact hfr2 a ha⟩
                obtain ⟨v2, hv2, hve, hvf⟩ := hnx
                refine z_iinc (pc := 193) hO 1 (lv' := [(1, .int (zi (p + 1))), (0, .ref (gA g 50))]) dX12_independent_193 rfl (by decide) rfl ?_
                refine z_goto (pc := 196) hO (tgt := 43) dX12_independent_196 (by decide) ?_
                refine z_sub [1, 0] rfl ?_
                exact ih43 (p + 1) y v2 (by omega) (by omega) (by exact hv2) (by rw [hE, hve]) (by exact hvf)
              · refine z_aload_n (pc := 60) hO 0 dX12_independent_60 rfl rfl ?_
                refine gf_X12_line (pc := 61) hO f_X12_34 dX12_independent_61 ?_
                refine z_iload_n (pc := 64) hO 1 dX12_independent_64 rfl rfl ?_
                refine z_lald (pc := 65) hO isL_59 (by omega) dX12_independent_65 ?_
                refine z_lstore_n (pc := 66) hO (lv' := [(2, .long (zl (y 59 p))), (0, .ref (gA g 50)), (1, .int (zi p))]) dX12_independent_66 rfl (by decide) rfl ?_
                refine z_aload_n (pc := 67) hO 1 dX12_independent_67 rfl rfl ?_
                refine gf_X12_isBegun (pc := 68) hO f_X12_44 dX12_independent_68 ?_
                refine z_iload_n (pc := 71) hO 2 dX12_independent_71 rfl rfl ?_
                refine z_zald (pc := 72) hO isZ_62 (by omega) dX12_independent_72 ?_
                refine z_if_ne (pc := 73) hO (tgt := 136) dX12_independent_73 (by decide) (by omega) (fun b4 => ?_) (fun b4 => ?_)
                · have hbn : B.getD p.toNat [] ≠ [] ∧ (B.getD p.toNat []).length = 36 ∧ ∀ k : Int, 0 ≤ k → k < 36 → y 61 (36 * p + k) = (B.getD p.toNat []).getD k.toNat 0 ∧ 0 ≤ (B.getD p.toNat []).getD k.toNat 0 ∧ (B.getD p.toNat []).getD k.toNat 0 ≤ 1000002 := by
                      rcases hbp with ⟨_, h⟩ | ⟨h1, _, h2, h3⟩
                      · omega
                      · exact ⟨h1, h2, h3⟩
                  refine z_iconst (pc := 136) hO dX12_independent_136 ?_
                  refine z_istore (pc := 137) hO (lv' := [(4, .int (zi 0)), (2, .long (zl (y 59 p))), (0, .ref (gA g 50)), (1, .int (zi p))]) dX12_independent_137 (by decide) rfl ?_
                  have L139 : ∀ (N : Nat) (k : Int) (w : Me), (36 - k).toNat < N → (0 ≤ k ∧ k ≤ 36) → (∀ j : Int, 0 ≤ j → j < k → w 59 j = (rdz v (B.getD p.toNat []) p.toNat).getD j.toNat 0 ∧ 0 ≤ (rdz v (B.getD p.toNat []) p.toNat).getD j.toNat 0 ∧ (rdz v (B.getD p.toNat []) p.toNat).getD j.toNat 0 ≤ 1000002) → (∀ i : Int, k ≤ i → w 59 i = y 59 i) → (∀ a, a ≠ 59 → w a = y a) → Zz Γ g 7 0 0 w 139 [(0, .ref (gA g 50)), (1, .int (zi p)), (2, .long (zl (y 59 p))), (4, .int (zi k))] [] := by
                    intro N
                    induction N with
                    | zero => intro k w hm; exact absurd hm (Nat.not_lt_zero _)
                    | succ N ih139 =>
                      intro k w hm g0 kA kB kf
                      refine z_iload (pc := 139) hO 3 dX12_independent_139 rfl ?_
                      refine z_bipush (pc := 141) hO dX12_independent_141 (by decide) ?_
                      refine z_icmp_ge (pc := 143) hO (tgt := 193) dX12_independent_143 (by decide) (by omega) (by omega) (fun b5 => ?_) (fun b5 => ?_)
                      · have hnx : ∃ v2, VB w 59 v2 1000002 ∧ inL B (36 - p.toNat) p.toNat v = inL B (36 - (p + 1).toNat) (p + 1).toNat v2 ∧ ∀ a, a ≠ 59 → w a = m a := by
                            first
                            | exact ⟨v, hV, his.1 (by omega), hfr2⟩
                            | exact ⟨rdz v (B.getD p.toNat []) p.toNat, ⟨rdz_len hV.1 hbn.2.1, fun i a b => kA i a (by omega)⟩, his.2.2 (by omega) hbn.1, fun a ha => by rw [kf a ha]; exact hfr2 a ha⟩
                        obtain ⟨v2, hv2, hve, hvf⟩ := hnx
                        refine z_iinc (pc := 193) hO 1 (lv' := [(1, .int (zi (p + 1))), (0, .ref (gA g 50)), (2, .long (zl (y 59 p))), (4, .int (zi k))]) dX12_independent_193 rfl (by decide) rfl ?_
                        refine z_goto (pc := 196) hO (tgt := 43) dX12_independent_196 (by decide) ?_
                        refine z_sub [1, 0] rfl ?_
                        exact ih43 (p + 1) w v2 (by omega) (by omega) (by exact hv2) (by rw [hE, hve]) (by exact hvf)
                      · have hvk := hV.2 k (by omega) (by omega)
                        have hwk : w 59 k = y 59 k := kB k (by omega)
                        have hbk := hbn.2.2 k (by omega) (by omega)
                        have hw61 : w 61 (36 * p + k) = y 61 (36 * p + k) := by rw [kf 61 (by omega)]
                        have hq : 0 ≤ y 59 p * w 61 (36 * p + k) ∧ y 59 p * w 61 (36 * p + k) ≤ 1000006000009 := ⟨Int.mul_nonneg (by omega) (by omega), by have := Int.mul_le_mul (show y 59 p ≤ 1000003 by omega) (show w 61 (36 * p + k) ≤ 1000003 by omega) (by omega) (by omega); omega⟩
                        have hq3 := Int.emod_nonneg (y 59 p * w 61 (36 * p + k)) (show (1000003 : Int) ≠ 0 by decide)
                        have hq4 := Int.emod_lt_of_pos (y 59 p * w 61 (36 * p + k)) (show (0 : Int) < 1000003 by decide)
                        have hr3 := Int.emod_nonneg (w 59 k + 1000003 - y 59 p * w 61 (36 * p + k) % 1000003) (show (1000003 : Int) ≠ 0 by decide)
                        have hr4 := Int.emod_lt_of_pos (w 59 k + 1000003 - y 59 p * w 61 (36 * p + k) % 1000003) (show (0 : Int) < 1000003 by decide)
                        have hrz : (rdz v (B.getD p.toNat []) p.toNat).getD k.toNat 0 = (w 59 k + 1000003 - y 59 p * w 61 (36 * p + k) % 1000003) % 1000003 := by rw [rdz_at hV.1 hbn.2.1 (by omega), hwk, hvk.1, hvp.1, hw61, hbk.1]
                        refine z_aload_n (pc := 146) hO 0 dX12_independent_146 rfl rfl ?_
                        refine gf_X12_line (pc := 147) hO f_X12_34 dX12_independent_147 ?_
                        refine z_iload (pc := 150) hO 3 dX12_independent_150 rfl ?_
                        refine z_aload_n (pc := 152) hO 0 dX12_independent_152 rfl rfl ?_
                        refine gf_X12_line (pc := 153) hO f_X12_34 dX12_independent_153 ?_
                        refine z_iload (pc := 156) hO 3 dX12_independent_156 rfl ?_
                        refine z_lald (pc := 158) hO isL_59 (by omega) dX12_independent_158 ?_
                        refine z_ldc2 (pc := 159) hO n_X12_207 dX12_independent_159 ?_
                        refine z_ladd (pc := 162) hO dX12_independent_162 ?_
                        refine z_lload_n (pc := 163) hO 2 dX12_independent_163 rfl rfl ?_
                        refine z_aload_n (pc := 164) hO 0 dX12_independent_164 rfl rfl ?_
                        refine gf_X12_rows (pc := 165) hO f_X12_41 dX12_independent_165 ?_
                        refine z_bipush (pc := 168) hO dX12_independent_168 (by decide) ?_
                        refine z_iload_n (pc := 170) hO 1 dX12_independent_170 rfl rfl ?_
                        refine z_imul (pc := 171) hO dX12_independent_171 ?_
                        refine z_iload (pc := 172) hO 3 dX12_independent_172 rfl ?_
                        refine z_iadd (pc := 174) hO dX12_independent_174 ?_
                        refine z_lald (pc := 175) hO isL_61 (by omega) dX12_independent_175 ?_
                        refine z_lmul (pc := 176) hO dX12_independent_176 ?_
                        refine z_ldc2 (pc := 177) hO n_X12_207 dX12_independent_177 ?_
                        refine z_lrem (pc := 180) hO dX12_independent_180 (by omega) (by omega) ?_
                        refine z_lsub (pc := 181) hO dX12_independent_181 ?_
                        refine z_ldc2 (pc := 182) hO n_X12_207 dX12_independent_182 ?_
                        refine z_lrem (pc := 185) hO dX12_independent_185 (by omega) (by omega) ?_
                        refine z_last (pc := 186) hO isL_59 (by omega) dX12_independent_186 (fun m6 e7 => ?_)
                        refine z_iinc (pc := 187) hO 3 (lv' := [(4, .int (zi (k + 1))), (0, .ref (gA g 50)), (1, .int (zi p)), (2, .long (zl (y 59 p)))]) dX12_independent_187 rfl (by decide) rfl ?_
                        refine z_goto (pc := 190) hO (tgt := 139) dX12_independent_190 (by decide) ?_
                        refine z_sub [1, 2, 3, 0] rfl ?_
                        exact ih139 (k + 1) m6 (by omega) (by omega) (by intro j a b; subst m6; exact dite (j = k) (fun e => by rw [e, up_s, hrz]; omega) (fun e => by rw [up_n _ _ (by omega)]; exact kA j a (by omega))) (by intro i a; subst m6; rw [up_n _ _ (by omega)]; exact kB i (by omega)) (by intro a ha; subst m6; rw [up_i _ _ _ ha]; exact kf a ha)
                  refine z_sub [2, 3, 1, 0] rfl ?_
                  exact L139 _ 0 y (Nat.lt_succ_self _) (by omega) (by intro j a b; omega) (by intro i _; rfl) (by intro a _; rfl)
                · have hbe : B.getD p.toNat [] = [] := by
                      rcases hbp with ⟨h, _⟩ | ⟨_, h, _⟩
                      · exact h
                      · omega
                  have hpr := pwF_r 20 1 (y 59 p) 1000001 (by omega)
                  refine z_lload_n (pc := 76) hO 0 dX12_independent_76 rfl rfl ?_
                  refine z_ldc2 (pc := 77) hO n_X12_209 dX12_independent_77 ?_
                  refine z_callSLp (pc := 80) hO (As := [.long (zl (y 59 p)), .long (zl 1000001)]) (st := []) (c_X12_power (qL Γ) g y (y 59 p) 1000001 (by omega) (by omega)) k_X12_211 rfl (Nat.le_of_ble_eq_true rfl) (by decide) (by decide) ⟨by decide, by decide⟩ dX12_independent_80 ?_
                  refine z_lstore (pc := 83) hO (lv' := [(4, .long (zl (pwF 20 1 (y 59 p) 1000001))), (2, .long (zl (y 59 p))), (0, .ref (gA g 50)), (1, .int (zi p))]) dX12_independent_83 (by decide) rfl ?_
                  refine z_iconst (pc := 85) hO dX12_independent_85 ?_
                  refine z_istore (pc := 86) hO (lv' := [(6, .int (zi 0)), (4, .long (zl (pwF 20 1 (y 59 p) 1000001))), (2, .long (zl (y 59 p))), (0, .ref (gA g 50)), (1, .int (zi p))]) dX12_independent_86 (by decide) rfl ?_
                  have L88 : ∀ (N : Nat) (k : Int) (w : Me), (36 - k).toNat < N → (0 ≤ k ∧ k ≤ 36) → (∀ j : Int, 0 ≤ j → j < k → w 61 (36 * p + j) = (nmz v p.toNat).getD j.toNat 0 ∧ 0 ≤ (nmz v p.toNat).getD j.toNat 0 ∧ (nmz v p.toNat).getD j.toNat 0 ≤ 1000002) → (∀ i : Int, ¬ (36 * p ≤ i ∧ i < 36 * p + 36) → w 61 i = y 61 i) → (∀ a, a ≠ 61 → w a = y a) → Zz Γ g 7 0 0 w 88 [(0, .ref (gA g 50)), (1, .int (zi p)), (2, .long (zl (y 59 p))), (4, .long (zl (pwF 20 1 (y 59 p) 1000001))), (6, .int (zi k))] [] := by
                    intro N
                    induction N with
                    | zero => intro k w hm; exact absurd hm (Nat.not_lt_zero _)
                    | succ N ih88 =>
                      intro k w hm g0 kA kB kf
                      refine z_iload (pc := 88) hO 4 dX12_independent_88 rfl ?_
                      refine z_bipush (pc := 90) hO dX12_independent_90 (by decide) ?_
                      refine z_icmp_ge (pc := 92) hO (tgt := 127) dX12_independent_92 (by decide) (by omega) (by omega) (fun b8 => ?_) (fun b8 => ?_)
                      · refine z_aload_n (pc := 127) hO 0 dX12_independent_127 rfl rfl ?_
                        refine gf_X12_isBegun (pc := 128) hO f_X12_44 dX12_independent_128 ?_
                        refine z_iload_n (pc := 131) hO 1 dX12_independent_131 rfl rfl ?_
                        refine z_iconst (pc := 132) hO dX12_independent_132 ?_
                        refine z_zast (pc := 133) hO isZ_62 (by omega) (by omega) dX12_independent_133 (fun m9 e10 => ?_)
                        refine z_iconst (pc := 134) hO dX12_independent_134 ?_
                        exact z_iret (pc := 135) hO hr hQ rfl dX12_independent_135 (by first | (rw [hE, his.2.1 (by omega) hbe]; subst m9; refine ⟨rfl, BS_set hBy (by omega) (nmz_len hV.1) (fun k a b => by rw [up_i _ _ _ (by omega)]; exact kA k a (by omega)) (fun i a => by rw [up_i _ _ _ (by omega)]; exact kB i a) (by rw [up_s]) (fun i a => by rw [up_n _ _ (by omega), kf 62 (by omega)]), fun a a1 a2 a3 => ?_⟩; rw [up_i _ _ _ a3, kf a a2, hfr2 a a1, hmem, hfr a a1]; done) | (exfalso; omega))
                      · have hvk := hV.2 k (by omega) (by omega)
                        have hwk : w 59 k = y 59 k := by rw [kf 59 (by omega)]
                        have hq : 0 ≤ y 59 k * pwF 20 1 (y 59 p) 1000001 ∧ y 59 k * pwF 20 1 (y 59 p) 1000001 ≤ 1000006000009 := ⟨Int.mul_nonneg (by omega) (by omega), by have := Int.mul_le_mul (show y 59 k ≤ 1000003 by omega) (show pwF 20 1 (y 59 p) 1000001 ≤ 1000003 by omega) (by omega) (by omega); omega⟩
                        have hqw : w 59 k * pwF 20 1 (y 59 p) 1000001 = y 59 k * pwF 20 1 (y 59 p) 1000001 := by rw [hwk]
                        have hq3 := Int.emod_nonneg (w 59 k * pwF 20 1 (y 59 p) 1000001) (show (1000003 : Int) ≠ 0 by decide)
                        have hq4 := Int.emod_lt_of_pos (w 59 k * pwF 20 1 (y 59 p) 1000001) (show (0 : Int) < 1000003 by decide)
                        have hnz : (nmz v p.toNat).getD k.toNat 0 = w 59 k * pwF 20 1 (y 59 p) 1000001 % 1000003 := by rw [nmz_at hV.1 (by omega), hwk, hvk.1, hvp.1]
                        refine z_aload_n (pc := 95) hO 0 dX12_independent_95 rfl rfl ?_
                        refine gf_X12_rows (pc := 96) hO f_X12_41 dX12_independent_96 ?_
                        refine z_bipush (pc := 99) hO dX12_independent_99 (by decide) ?_
                        refine z_iload_n (pc := 101) hO 1 dX12_independent_101 rfl rfl ?_
                        refine z_imul (pc := 102) hO dX12_independent_102 ?_
                        refine z_iload (pc := 103) hO 4 dX12_independent_103 rfl ?_
                        refine z_iadd (pc := 105) hO dX12_independent_105 ?_
                        refine z_aload_n (pc := 106) hO 0 dX12_independent_106 rfl rfl ?_
                        refine gf_X12_line (pc := 107) hO f_X12_34 dX12_independent_107 ?_
                        refine z_iload (pc := 110) hO 4 dX12_independent_110 rfl ?_
                        refine z_lald (pc := 112) hO isL_59 (by omega) dX12_independent_112 ?_
                        refine z_lload (pc := 113) hO 3 dX12_independent_113 rfl ?_
                        refine z_lmul (pc := 115) hO dX12_independent_115 ?_
                        refine z_ldc2 (pc := 116) hO n_X12_207 dX12_independent_116 ?_
                        refine z_lrem (pc := 119) hO dX12_independent_119 (by omega) (by omega) ?_
                        refine z_last (pc := 120) hO isL_61 (by omega) dX12_independent_120 (fun m11 e12 => ?_)
                        refine z_iinc (pc := 121) hO 4 (lv' := [(6, .int (zi (k + 1))), (0, .ref (gA g 50)), (1, .int (zi p)), (2, .long (zl (y 59 p))), (4, .long (zl (pwF 20 1 (y 59 p) 1000001)))]) dX12_independent_121 rfl (by decide) rfl ?_
                        refine z_goto (pc := 124) hO (tgt := 88) dX12_independent_124 (by decide) ?_
                        refine z_sub [1, 2, 3, 4, 0] rfl ?_
                        exact ih88 (k + 1) m11 (by omega) (by omega) (by intro j a b; subst m11; exact dite (j = k) (fun e => by rw [e, up_s, hnz]; omega) (fun e => by rw [up_n _ _ (by omega)]; exact kA j a (by omega))) (by intro i a; subst m11; rw [up_n _ _ (by omega)]; exact kB i a) (by intro a ha; subst m11; rw [up_i _ _ _ ha]; exact kf a ha)
                  refine z_sub [3, 4, 2, 1, 0] rfl ?_
                  exact L88 _ 0 y (Nat.lt_succ_self _) (by omega) (by intro j a b; omega) (by intro i _; rfl) (by intro a _; rfl)
        refine z_sub [1, 0] rfl ?_
        exact L43 _ 0 y (subL v0 u0) (Nat.lt_succ_self _) (by omega) (by exact hV0) (by rfl) (by intro a _; rw [hmem])
      · have hli := hL.2 p (by omega) (by omega)
        have hfi := hF.2 p (by omega) (by omega)
        have hyl : y 59 p = x 59 p := hB2 p (by omega)
        have hyf : y 60 p = x 60 p := by rw [hfr 60 (by omega)]
        have hmm : 0 ≤ (y 59 p - y 60 p + 1000003) % 1000003 ∧ (y 59 p - y 60 p + 1000003) % 1000003 ≤ 1000002 := by have h1 := Int.emod_nonneg (y 59 p - y 60 p + 1000003) (show (1000003 : Int) ≠ 0 by decide); have h2 := Int.emod_lt_of_pos (y 59 p - y 60 p + 1000003) (show (0 : Int) < 1000003 by decide); omega
        refine z_aload_n (pc := 8) hO 0 dX12_independent_8 rfl rfl ?_
        refine gf_X12_line (pc := 9) hO f_X12_34 dX12_independent_9 ?_
        refine z_iload_n (pc := 12) hO 1 dX12_independent_12 rfl rfl ?_
        refine z_aload_n (pc := 13) hO 0 dX12_independent_13 rfl rfl ?_
        refine gf_X12_line (pc := 14) hO f_X12_34 dX12_independent_14 ?_
        refine z_iload_n (pc := 17) hO 1 dX12_independent_17 rfl rfl ?_
        refine z_lald (pc := 18) hO isL_59 (by omega) dX12_independent_18 ?_
        refine z_aload_n (pc := 19) hO 0 dX12_independent_19 rfl rfl ?_
        refine gf_X12_first (pc := 20) hO f_X12_38 dX12_independent_20 ?_
        refine z_iload_n (pc := 23) hO 1 dX12_independent_23 rfl rfl ?_
        refine z_lald (pc := 24) hO isL_60 (by omega) dX12_independent_24 ?_
        refine z_lsub (pc := 25) hO dX12_independent_25 ?_
        refine z_ldc2 (pc := 26) hO n_X12_207 dX12_independent_26 ?_
        refine z_ladd (pc := 29) hO dX12_independent_29 ?_
        refine z_ldc2 (pc := 30) hO n_X12_207 dX12_independent_30 ?_
        refine z_lrem (pc := 33) hO dX12_independent_33 (by omega) (by omega) ?_
        refine z_last (pc := 34) hO isL_59 (by omega) dX12_independent_34 (fun m13 e14 => ?_)
        refine z_iinc (pc := 35) hO 1 (lv' := [(1, .int (zi (p + 1))), (0, .ref (gA g 50))]) dX12_independent_35 rfl (by decide) rfl ?_
        refine z_goto (pc := 38) hO (tgt := 2) dX12_independent_38 (by decide) ?_
        refine z_sub [1, 0] rfl ?_
        exact ih2 (p + 1) m13 (by omega) (by omega) (by intro i a b; subst m13; exact dite (i = p) (fun e => by rw [e, up_s, subL_at hL.1 hF.1 (by omega), hyl, hyf, hli.1, hfi.1]) (fun e => by rw [up_n _ _ (by omega)]; exact hA i a (by omega))) (by intro i a b; subst m13; exact dite (i = p) (fun e => by rw [e, up_s]; exact hmm) (fun e => by rw [up_n _ _ (by omega)]; exact hA2 i a (by omega))) (by intro i a; subst m13; rw [up_n _ _ (by omega)]; exact hB2 i (by omega)) (by intro a ha; subst m13; rw [up_i _ _ _ ha]; exact hfr a ha)
  refine z_sub [1, 0] rfl ?_
  exact L2 _ 0 x (Nat.lt_succ_self _) (by omega) (by intro i a b; omega) (by intro i a b; omega) (by intro i _; rfl) (by intro a _; rfl)

