set_option maxHeartbeats 4000000 in
theorem c_X10_addLines (l : Launch) (g : Gl) (x : Me) (s : Int) (n : Int) (hS : SP x []) (hn : x 42 4 = n ∧ 1 ≤ n ∧ n ≤ 6) (hs0 : 0 ≤ s ∧ s < 64) : ctQ l g yX10_addLines cX10_addLines 5 none 5 116 [.ref (gA g 42), .int (zi s)] x (QVu g (fun x' => SP x' (lnsA n s n.toNat) ∧ x' 42 4 = n ∧ ∀ a, a ≠ 42 → a ≠ 44 → a ≠ 45 → ¬ (100 ≤ a ∧ a < 138) → x' a = x a)) := by
  refine ct_start (own := RX10) (lv := [(0, .ref (gA g 42)), (1, .int (zi s))]) (plainFor_of_name (by decide)) rfl (Nat.le_of_ble_eq_true rfl) rfl ?_
  intro Γ hΓ hO hr hQ _
  refine z_iload_n (pc := 0) hO 1 dX10_addLines_0 rfl rfl ?_
  refine z_bipush (pc := 1) hO dX10_addLines_1 (by decide) ?_
  refine z_iand (pc := 3) hO (zi (bnd2 s 16)) dX10_addLines_3 (by exact bnd2_z (by omega) (by omega)) ?_
  refine z_if_eq (pc := 4) hO (tgt := 11) dX10_addLines_4 (by decide) (by have := bnd2_r (b := 16) hs0.1; omega) (fun b1 => ?_) (fun b1 => ?_)
  · refine z_iconst (pc := 11) hO dX10_addLines_11 ?_
    refine z_istore_n (pc := 12) hO (lv' := [(2, .int (zi 0)), (0, .ref (gA g 42)), (1, .int (zi s))]) dX10_addLines_12 rfl (by decide) rfl ?_
    refine z_iload_n (pc := 13) hO 2 dX10_addLines_13 rfl rfl ?_
    refine z_bipush (pc := 14) hO dX10_addLines_14 (by decide) ?_
    refine z_iand (pc := 16) hO (zi (bnd2 s 8)) dX10_addLines_16 (by exact bnd2_z (by omega) (by omega)) ?_
    refine z_if_eq (pc := 17) hO (tgt := 24) dX10_addLines_17 (by decide) (by have := bnd2_r (b := 8) hs0.1; omega) (fun b2 => ?_) (fun b2 => ?_)
    · refine z_iconst (pc := 24) hO dX10_addLines_24 ?_
      refine z_istore_n (pc := 25) hO (lv' := [(3, .int (zi 0)), (2, .int (zi 0)), (0, .ref (gA g 42)), (1, .int (zi s))]) dX10_addLines_25 rfl (by decide) rfl ?_
      refine z_iconst (pc := 26) hO dX10_addLines_26 ?_
      refine z_istore (pc := 27) hO (lv' := [(4, .int (zi 0)), (3, .int (zi 0)), (2, .int (zi 0)), (0, .ref (gA g 42)), (1, .int (zi s))]) dX10_addLines_27 (by decide) rfl ?_
      have L29 : ∀ (N : Nat) (i : Int) (y : Me), (n - i).toNat < N → (0 ≤ i ∧ i ≤ n) → (SP y (lnsA n s i.toNat)) → (y 42 4 = n) → (∀ a, a ≠ 42 → a ≠ 44 → a ≠ 45 → ¬ (100 ≤ a ∧ a < 138) → y a = x a) → Zz Γ g 5 0 0 y 29 [(0, .ref (gA g 42)), (1, .int (zi s)), (2, .int (zi 0)), (3, .int (zi 0)), (4, .int (zi i))] [] := by
        intro N
        induction N with
        | zero => intro i y hm; exact absurd hm (Nat.not_lt_zero _)
        | succ N ih29 =>
          intro i y hm h0 hA hy4 hfr
          refine z_iload (pc := 29) hO 4 dX10_addLines_29 rfl ?_
          refine z_aload_n (pc := 31) hO 0 dX10_addLines_31 rfl rfl ?_
          refine gf_X10_side (pc := 32) hO f_X10_23 dX10_addLines_32 ?_
          refine z_icmp_ge (pc := 35) hO (tgt := 116) dX10_addLines_35 (by decide) (by omega) (by omega) (fun b3 => ?_) (fun b3 => ?_)
          · exact z_vret (pc := 116) hO hr hQ dX10_addLines_116 (by first | (rw [show i.toNat = n.toNat by omega] at hA; exact ⟨hA, hy4, hfr⟩; done) | (exfalso; omega))
          · refine z_iload_n (pc := 38) hO 1 dX10_addLines_38 rfl rfl ?_
            refine z_iconst (pc := 39) hO dX10_addLines_39 ?_
            refine z_iand (pc := 40) hO (zi (bnd2 s 2)) dX10_addLines_40 (by exact bnd2_z (by omega) (by omega)) ?_
            refine z_if_eq (pc := 41) hO (tgt := 51) dX10_addLines_41 (by decide) (by have := bnd2_r (b := 2) hs0.1; omega) (fun b4 => ?_) (fun b4 => ?_)
            · refine z_iload_n (pc := 51) hO 1 dX10_addLines_51 rfl rfl ?_
              refine z_iconst (pc := 52) hO dX10_addLines_52 ?_
              refine z_iand (pc := 53) hO (zi (bnd2 s 4)) dX10_addLines_53 (by exact bnd2_z (by omega) (by omega)) ?_
              refine z_if_eq (pc := 54) hO (tgt := 64) dX10_addLines_54 (by decide) (by have := bnd2_r (b := 4) hs0.1; omega) (fun b5 => ?_) (fun b5 => ?_)
              · refine z_iload_n (pc := 64) hO 2 dX10_addLines_64 rfl rfl ?_
                refine z_if_ne (pc := 65) hO (tgt := 77) dX10_addLines_65 (by decide) (by decide) (fun h => absurd h (by decide)) (fun _ => ?_)
                refine z_iload_n (pc := 68) hO 3 dX10_addLines_68 rfl rfl ?_
                refine z_if_eq (pc := 69) hO (tgt := 84) dX10_addLines_69 (by decide) (by decide) (fun _ => ?_) (fun h => absurd h (by decide))
                refine z_iload_n (pc := 84) hO 2 dX10_addLines_84 rfl rfl ?_
                refine z_if_ne (pc := 85) hO (tgt := 103) dX10_addLines_85 (by decide) (by decide) (fun h => absurd h (by decide)) (fun _ => ?_)
                refine z_iload_n (pc := 88) hO 3 dX10_addLines_88 rfl rfl ?_
                refine z_if_eq (pc := 89) hO (tgt := 110) dX10_addLines_89 (by decide) (by decide) (fun _ => ?_) (fun h => absurd h (by decide))
                refine z_iinc (pc := 110) hO 4 (lv' := [(4, .int (zi (i + 1))), (0, .ref (gA g 42)), (1, .int (zi s)), (2, .int (zi 0)), (3, .int (zi 0))]) dX10_addLines_110 rfl (by decide) rfl ?_
                refine z_goto (pc := 113) hO (tgt := 29) dX10_addLines_113 (by decide) ?_
                refine z_sub [1, 2, 3, 4, 0] rfl ?_
                exact ih29 (i + 1) y (by omega) (by omega) (by rw [lnsA_s _ _ h0.1, lnS]; (first | rw [adI_t (by omega)] | rw [adI_f (by omega)]); (first | rw [adI_t (by omega)] | rw [adI_f (by omega)]); (first | rw [adI_t (by omega)] | rw [adI_f (by omega)]); (first | rw [adI_t (by omega)] | rw [adI_f (by omega)]); assumption) (by assumption) (by assumption)
              · refine z_aload_n (pc := 57) hO 0 dX10_addLines_57 rfl rfl ?_
                refine z_iconst (pc := 58) hO dX10_addLines_58 ?_
                refine z_iload (pc := 59) hO 4 dX10_addLines_59 rfl ?_
                refine z_callVV (pc := 61) hO (As := [.int (zi 1), .int (zi i)]) (st := []) (c_X10_addLine (qL Γ) g y 1 i _ n (by assumption) (by exact ⟨by omega, hn.2⟩) (by omega) (by omega)) k_X10_37 isO_42 rfl (Nat.le_of_ble_eq_true rfl) (by decide) (by decide) ⟨by decide, by decide⟩ dX10_addLines_61 (fun m7 h8 => ?_)
                obtain ⟨hs, hy4, hf⟩ := h8
                have hfr : ∀ a, a ≠ 42 → a ≠ 44 → a ≠ 45 → ¬ (100 ≤ a ∧ a < 138) → m7 a = x a := fun a a1 a2 a3 a4 => (hf a a1 a2 a3 a4).trans (hfr a a1 a2 a3 a4)
                refine z_iload_n (pc := 64) hO 2 dX10_addLines_64 rfl rfl ?_
                refine z_if_ne (pc := 65) hO (tgt := 77) dX10_addLines_65 (by decide) (by decide) (fun h => absurd h (by decide)) (fun _ => ?_)
                refine z_iload_n (pc := 68) hO 3 dX10_addLines_68 rfl rfl ?_
                refine z_if_eq (pc := 69) hO (tgt := 84) dX10_addLines_69 (by decide) (by decide) (fun _ => ?_) (fun h => absurd h (by decide))
                refine z_iload_n (pc := 84) hO 2 dX10_addLines_84 rfl rfl ?_
                refine z_if_ne (pc := 85) hO (tgt := 103) dX10_addLines_85 (by decide) (by decide) (fun h => absurd h (by decide)) (fun _ => ?_)
                refine z_iload_n (pc := 88) hO 3 dX10_addLines_88 rfl rfl ?_
                refine z_if_eq (pc := 89) hO (tgt := 110) dX10_addLines_89 (by decide) (by decide) (fun _ => ?_) (fun h => absurd h (by decide))
                refine z_iinc (pc := 110) hO 4 (lv' := [(4, .int (zi (i + 1))), (0, .ref (gA g 42)), (1, .int (zi s)), (2, .int (zi 0)), (3, .int (zi 0))]) dX10_addLines_110 rfl (by decide) rfl ?_
                refine z_goto (pc := 113) hO (tgt := 29) dX10_addLines_113 (by decide) ?_
                refine z_sub [1, 2, 3, 4, 0] rfl ?_
                exact ih29 (i + 1) m7 (by omega) (by omega) (by rw [lnsA_s _ _ h0.1, lnS]; (first | rw [adI_t (by omega)] | rw [adI_f (by omega)]); (first | rw [adI_t (by omega)] | rw [adI_f (by omega)]); (first | rw [adI_t (by omega)] | rw [adI_f (by omega)]); (first | rw [adI_t (by omega)] | rw [adI_f (by omega)]); assumption) (by assumption) (by assumption)
            · refine z_aload_n (pc := 44) hO 0 dX10_addLines_44 rfl rfl ?_
              refine z_iconst (pc := 45) hO dX10_addLines_45 ?_
              refine z_iload (pc := 46) hO 4 dX10_addLines_46 rfl ?_
              refine z_callVV (pc := 48) hO (As := [.int (zi 0), .int (zi i)]) (st := []) (c_X10_addLine (qL Γ) g y 0 i _ n (by assumption) (by exact ⟨by omega, hn.2⟩) (by omega) (by omega)) k_X10_37 isO_42 rfl (Nat.le_of_ble_eq_true rfl) (by decide) (by decide) ⟨by decide, by decide⟩ dX10_addLines_48 (fun m10 h11 => ?_)
              obtain ⟨hs, hy4, hf⟩ := h11
              have hfr : ∀ a, a ≠ 42 → a ≠ 44 → a ≠ 45 → ¬ (100 ≤ a ∧ a < 138) → m10 a = x a := fun a a1 a2 a3 a4 => (hf a a1 a2 a3 a4).trans (hfr a a1 a2 a3 a4)
              refine z_iload_n (pc := 51) hO 1 dX10_addLines_51 rfl rfl ?_
              refine z_iconst (pc := 52) hO dX10_addLines_52 ?_
              refine z_iand (pc := 53) hO (zi (bnd2 s 4)) dX10_addLines_53 (by exact bnd2_z (by omega) (by omega)) ?_
              refine z_if_eq (pc := 54) hO (tgt := 64) dX10_addLines_54 (by decide) (by have := bnd2_r (b := 4) hs0.1; omega) (fun b12 => ?_) (fun b12 => ?_)
              · refine z_iload_n (pc := 64) hO 2 dX10_addLines_64 rfl rfl ?_
                refine z_if_ne (pc := 65) hO (tgt := 77) dX10_addLines_65 (by decide) (by decide) (fun h => absurd h (by decide)) (fun _ => ?_)
                refine z_iload_n (pc := 68) hO 3 dX10_addLines_68 rfl rfl ?_
                refine z_if_eq (pc := 69) hO (tgt := 84) dX10_addLines_69 (by decide) (by decide) (fun _ => ?_) (fun h => absurd h (by decide))
                refine z_iload_n (pc := 84) hO 2 dX10_addLines_84 rfl rfl ?_
                refine z_if_ne (pc := 85) hO (tgt := 103) dX10_addLines_85 (by decide) (by decide) (fun h => absurd h (by decide)) (fun _ => ?_)
                refine z_iload_n (pc := 88) hO 3 dX10_addLines_88 rfl rfl ?_
                refine z_if_eq (pc := 89) hO (tgt := 110) dX10_addLines_89 (by decide) (by decide) (fun _ => ?_) (fun h => absurd h (by decide))
                refine z_iinc (pc := 110) hO 4 (lv' := [(4, .int (zi (i + 1))), (0, .ref (gA g 42)), (1, .int (zi s)), (2, .int (zi 0)), (3, .int (zi 0))]) dX10_addLines_110 rfl (by decide) rfl ?_
                refine z_goto (pc := 113) hO (tgt := 29) dX10_addLines_113 (by decide) ?_
                refine z_sub [1, 2, 3, 4, 0] rfl ?_
                exact ih29 (i + 1) m10 (by omega) (by omega) (by rw [lnsA_s _ _ h0.1, lnS]; (first | rw [adI_t (by omega)] | rw [adI_f (by omega)]); (first | rw [adI_t (by omega)] | rw [adI_f (by omega)]); (first | rw [adI_t (by omega)] | rw [adI_f (by omega)]); (first | rw [adI_t (by omega)] | rw [adI_f (by omega)]); assumption) (by assumption) (by assumption)
              · refine z_aload_n (pc := 57) hO 0 dX10_addLines_57 rfl rfl ?_
                refine z_iconst (pc := 58) hO dX10_addLines_58 ?_
                refine z_iload (pc := 59) hO 4 dX10_addLines_59 rfl ?_
                refine z_callVV (pc := 61) hO (As := [.int (zi 1), .int (zi i)]) (st := []) (c_X10_addLine (qL Γ) g m10 1 i _ n (by assumption) (by exact ⟨by omega, hn.2⟩) (by omega) (by omega)) k_X10_37 isO_42 rfl (Nat.le_of_ble_eq_true rfl) (by decide) (by decide) ⟨by decide, by decide⟩ dX10_addLines_61 (fun m14 h15 => ?_)
                obtain ⟨hs, hy4, hf⟩ := h15
                have hfr : ∀ a, a ≠ 42 → a ≠ 44 → a ≠ 45 → ¬ (100 ≤ a ∧ a < 138) → m14 a = x a := fun a a1 a2 a3 a4 => (hf a a1 a2 a3 a4).trans (hfr a a1 a2 a3 a4)
                refine z_iload_n (pc := 64) hO 2 dX10_addLines_64 rfl rfl ?_
                refine z_if_ne (pc := 65) hO (tgt := 77) dX10_addLines_65 (by decide) (by decide) (fun h => absurd h (by decide)) (fun _ => ?_)
                refine z_iload_n (pc := 68) hO 3 dX10_addLines_68 rfl rfl ?_
                refine z_if_eq (pc := 69) hO (tgt := 84) dX10_addLines_69 (by decide) (by decide) (fun _ => ?_) (fun h => absurd h (by decide))
                refine z_iload_n (pc := 84) hO 2 dX10_addLines_84 rfl rfl ?_
                refine z_if_ne (pc := 85) hO (tgt := 103) dX10_addLines_85 (by decide) (by decide) (fun h => absurd h (by decide)) (fun _ => ?_)
                refine z_iload_n (pc := 88) hO 3 dX10_addLines_88 rfl rfl ?_
                refine z_if_eq (pc := 89) hO (tgt := 110) dX10_addLines_89 (by decide) (by decide) (fun _ => ?_) (fun h => absurd h (by decide))
                refine z_iinc (pc := 110) hO 4 (lv' := [(4, .int (zi (i + 1))), (0, .ref (gA g 42)), (1, .int (zi s)), (2, .int (zi 0)), (3, .int (zi 0))]) dX10_addLines_110 rfl (by decide) rfl ?_
                refine z_goto (pc := 113) hO (tgt := 29) dX10_addLines_113 (by decide) ?_
                refine z_sub [1, 2, 3, 4, 0] rfl ?_
                exact ih29 (i + 1) m14 (by omega) (by omega) (by rw [lnsA_s _ _ h0.1, lnS]; (first | rw [adI_t (by omega)] | rw [adI_f (by omega)]); (first | rw [adI_t (by omega)] | rw [adI_f (by omega)]); (first | rw [adI_t (by omega)] | rw [adI_f (by omega)]); (first | rw [adI_t (by omega)] | rw [adI_f (by omega)]); assumption) (by assumption) (by assumption)
      refine z_sub [3, 4, 2, 1, 0] rfl ?_
      exact L29 _ 0 x (Nat.lt_succ_self _) (by omega) (by exact hS) (by exact hn.1) (by intro a _ _ _ _; rfl)
    · refine z_iconst (pc := 20) hO dX10_addLines_20 ?_
      refine z_goto (pc := 21) hO (tgt := 25) dX10_addLines_21 (by decide) ?_
      refine z_istore_n (pc := 25) hO (lv' := [(3, .int (zi 1)), (2, .int (zi 0)), (0, .ref (gA g 42)), (1, .int (zi s))]) dX10_addLines_25 rfl (by decide) rfl ?_
      refine z_iconst (pc := 26) hO dX10_addLines_26 ?_
      refine z_istore (pc := 27) hO (lv' := [(4, .int (zi 0)), (3, .int (zi 1)), (2, .int (zi 0)), (0, .ref (gA g 42)), (1, .int (zi s))]) dX10_addLines_27 (by decide) rfl ?_
      have L29 : ∀ (N : Nat) (i : Int) (y : Me), (n - i).toNat < N → (0 ≤ i ∧ i ≤ n) → (SP y (lnsA n s i.toNat)) → (y 42 4 = n) → (∀ a, a ≠ 42 → a ≠ 44 → a ≠ 45 → ¬ (100 ≤ a ∧ a < 138) → y a = x a) → Zz Γ g 5 0 0 y 29 [(0, .ref (gA g 42)), (1, .int (zi s)), (2, .int (zi 0)), (3, .int (zi 1)), (4, .int (zi i))] [] := by
        intro N
        induction N with
        | zero => intro i y hm; exact absurd hm (Nat.not_lt_zero _)
        | succ N ih29 =>
          intro i y hm h0 hA hy4 hfr
          refine z_iload (pc := 29) hO 4 dX10_addLines_29 rfl ?_
          refine z_aload_n (pc := 31) hO 0 dX10_addLines_31 rfl rfl ?_
          refine gf_X10_side (pc := 32) hO f_X10_23 dX10_addLines_32 ?_
          refine z_icmp_ge (pc := 35) hO (tgt := 116) dX10_addLines_35 (by decide) (by omega) (by omega) (fun b16 => ?_) (fun b16 => ?_)
          · exact z_vret (pc := 116) hO hr hQ dX10_addLines_116 (by first | (rw [show i.toNat = n.toNat by omega] at hA; exact ⟨hA, hy4, hfr⟩; done) | (exfalso; omega))
          · refine z_iload_n (pc := 38) hO 1 dX10_addLines_38 rfl rfl ?_
            refine z_iconst (pc := 39) hO dX10_addLines_39 ?_
            refine z_iand (pc := 40) hO (zi (bnd2 s 2)) dX10_addLines_40 (by exact bnd2_z (by omega) (by omega)) ?_
            refine z_if_eq (pc := 41) hO (tgt := 51) dX10_addLines_41 (by decide) (by have := bnd2_r (b := 2) hs0.1; omega) (fun b17 => ?_) (fun b17 => ?_)
            · refine z_iload_n (pc := 51) hO 1 dX10_addLines_51 rfl rfl ?_
              refine z_iconst (pc := 52) hO dX10_addLines_52 ?_
              refine z_iand (pc := 53) hO (zi (bnd2 s 4)) dX10_addLines_53 (by exact bnd2_z (by omega) (by omega)) ?_
              refine z_if_eq (pc := 54) hO (tgt := 64) dX10_addLines_54 (by decide) (by have := bnd2_r (b := 4) hs0.1; omega) (fun b18 => ?_) (fun b18 => ?_)
              · refine z_iload_n (pc := 64) hO 2 dX10_addLines_64 rfl rfl ?_
                refine z_if_ne (pc := 65) hO (tgt := 77) dX10_addLines_65 (by decide) (by decide) (fun h => absurd h (by decide)) (fun _ => ?_)
                refine z_iload_n (pc := 68) hO 3 dX10_addLines_68 rfl rfl ?_
                refine z_if_eq (pc := 69) hO (tgt := 84) dX10_addLines_69 (by decide) (by decide) (fun h => absurd h (by decide)) (fun _ => ?_)
                refine z_iload (pc := 72) hO 4 dX10_addLines_72 rfl ?_
                refine z_if_ne (pc := 74) hO (tgt := 84) dX10_addLines_74 (by decide) (by omega) (fun b19 => ?_) (fun b19 => ?_)
                · refine z_iload_n (pc := 84) hO 2 dX10_addLines_84 rfl rfl ?_
                  refine z_if_ne (pc := 85) hO (tgt := 103) dX10_addLines_85 (by decide) (by decide) (fun h => absurd h (by decide)) (fun _ => ?_)
                  refine z_iload_n (pc := 88) hO 3 dX10_addLines_88 rfl rfl ?_
                  refine z_if_eq (pc := 89) hO (tgt := 110) dX10_addLines_89 (by decide) (by decide) (fun h => absurd h (by decide)) (fun _ => ?_)
                  refine z_iload (pc := 92) hO 4 dX10_addLines_92 rfl ?_
                  refine z_aload_n (pc := 94) hO 0 dX10_addLines_94 rfl rfl ?_
                  refine gf_X10_side (pc := 95) hO f_X10_23 dX10_addLines_95 ?_
                  refine z_iconst (pc := 98) hO dX10_addLines_98 ?_
                  refine z_isub (pc := 99) hO dX10_addLines_99 ?_
                  refine z_icmp_ne (pc := 100) hO (tgt := 110) dX10_addLines_100 (by decide) (by omega) (by omega) (fun b20 => ?_) (fun b20 => ?_)
                  · refine z_iinc (pc := 110) hO 4 (lv' := [(4, .int (zi (i + 1))), (0, .ref (gA g 42)), (1, .int (zi s)), (2, .int (zi 0)), (3, .int (zi 1))]) dX10_addLines_110 rfl (by decide) rfl ?_
                    refine z_goto (pc := 113) hO (tgt := 29) dX10_addLines_113 (by decide) ?_
                    refine z_sub [1, 2, 3, 4, 0] rfl ?_
                    exact ih29 (i + 1) y (by omega) (by omega) (by rw [lnsA_s _ _ h0.1, lnS]; (first | rw [adI_t (by omega)] | rw [adI_f (by omega)]); (first | rw [adI_t (by omega)] | rw [adI_f (by omega)]); (first | rw [adI_t (by omega)] | rw [adI_f (by omega)]); (first | rw [adI_t (by omega)] | rw [adI_f (by omega)]); assumption) (by assumption) (by assumption)
                  · refine z_aload_n (pc := 103) hO 0 dX10_addLines_103 rfl rfl ?_
                    refine z_iconst (pc := 104) hO dX10_addLines_104 ?_
                    refine z_iload (pc := 105) hO 4 dX10_addLines_105 rfl ?_
                    refine z_callVV (pc := 107) hO (As := [.int (zi 3), .int (zi i)]) (st := []) (c_X10_addLine (qL Γ) g y 3 i _ n (by assumption) (by exact ⟨by omega, hn.2⟩) (by omega) (by omega)) k_X10_37 isO_42 rfl (Nat.le_of_ble_eq_true rfl) (by decide) (by decide) ⟨by decide, by decide⟩ dX10_addLines_107 (fun m22 h23 => ?_)
                    obtain ⟨hs, hy4, hf⟩ := h23
                    have hfr : ∀ a, a ≠ 42 → a ≠ 44 → a ≠ 45 → ¬ (100 ≤ a ∧ a < 138) → m22 a = x a := fun a a1 a2 a3 a4 => (hf a a1 a2 a3 a4).trans (hfr a a1 a2 a3 a4)
                    refine z_iinc (pc := 110) hO 4 (lv' := [(4, .int (zi (i + 1))), (0, .ref (gA g 42)), (1, .int (zi s)), (2, .int (zi 0)), (3, .int (zi 1))]) dX10_addLines_110 rfl (by decide) rfl ?_
                    refine z_goto (pc := 113) hO (tgt := 29) dX10_addLines_113 (by decide) ?_
                    refine z_sub [1, 2, 3, 4, 0] rfl ?_
                    exact ih29 (i + 1) m22 (by omega) (by omega) (by rw [lnsA_s _ _ h0.1, lnS]; (first | rw [adI_t (by omega)] | rw [adI_f (by omega)]); (first | rw [adI_t (by omega)] | rw [adI_f (by omega)]); (first | rw [adI_t (by omega)] | rw [adI_f (by omega)]); (first | rw [adI_t (by omega)] | rw [adI_f (by omega)]); assumption) (by assumption) (by assumption)
                · refine z_aload_n (pc := 77) hO 0 dX10_addLines_77 rfl rfl ?_
                  refine z_iconst (pc := 78) hO dX10_addLines_78 ?_
                  refine z_iload (pc := 79) hO 4 dX10_addLines_79 rfl ?_
                  refine z_callVV (pc := 81) hO (As := [.int (zi 2), .int (zi i)]) (st := []) (c_X10_addLine (qL Γ) g y 2 i _ n (by assumption) (by exact ⟨by omega, hn.2⟩) (by omega) (by omega)) k_X10_37 isO_42 rfl (Nat.le_of_ble_eq_true rfl) (by decide) (by decide) ⟨by decide, by decide⟩ dX10_addLines_81 (fun m25 h26 => ?_)
                  obtain ⟨hs, hy4, hf⟩ := h26
                  have hfr : ∀ a, a ≠ 42 → a ≠ 44 → a ≠ 45 → ¬ (100 ≤ a ∧ a < 138) → m25 a = x a := fun a a1 a2 a3 a4 => (hf a a1 a2 a3 a4).trans (hfr a a1 a2 a3 a4)
                  refine z_iload_n (pc := 84) hO 2 dX10_addLines_84 rfl rfl ?_
                  refine z_if_ne (pc := 85) hO (tgt := 103) dX10_addLines_85 (by decide) (by decide) (fun h => absurd h (by decide)) (fun _ => ?_)
                  refine z_iload_n (pc := 88) hO 3 dX10_addLines_88 rfl rfl ?_
                  refine z_if_eq (pc := 89) hO (tgt := 110) dX10_addLines_89 (by decide) (by decide) (fun h => absurd h (by decide)) (fun _ => ?_)
                  refine z_iload (pc := 92) hO 4 dX10_addLines_92 rfl ?_
                  refine z_aload_n (pc := 94) hO 0 dX10_addLines_94 rfl rfl ?_
                  refine gf_X10_side (pc := 95) hO f_X10_23 dX10_addLines_95 ?_
                  refine z_iconst (pc := 98) hO dX10_addLines_98 ?_
                  refine z_isub (pc := 99) hO dX10_addLines_99 ?_
                  refine z_icmp_ne (pc := 100) hO (tgt := 110) dX10_addLines_100 (by decide) (by omega) (by omega) (fun b27 => ?_) (fun b27 => ?_)
                  · refine z_iinc (pc := 110) hO 4 (lv' := [(4, .int (zi (i + 1))), (0, .ref (gA g 42)), (1, .int (zi s)), (2, .int (zi 0)), (3, .int (zi 1))]) dX10_addLines_110 rfl (by decide) rfl ?_
                    refine z_goto (pc := 113) hO (tgt := 29) dX10_addLines_113 (by decide) ?_
                    refine z_sub [1, 2, 3, 4, 0] rfl ?_
                    exact ih29 (i + 1) m25 (by omega) (by omega) (by rw [lnsA_s _ _ h0.1, lnS]; (first | rw [adI_t (by omega)] | rw [adI_f (by omega)]); (first | rw [adI_t (by omega)] | rw [adI_f (by omega)]); (first | rw [adI_t (by omega)] | rw [adI_f (by omega)]); (first | rw [adI_t (by omega)] | rw [adI_f (by omega)]); assumption) (by assumption) (by assumption)
                  · refine z_aload_n (pc := 103) hO 0 dX10_addLines_103 rfl rfl ?_
                    refine z_iconst (pc := 104) hO dX10_addLines_104 ?_
                    refine z_iload (pc := 105) hO 4 dX10_addLines_105 rfl ?_
                    refine z_callVV (pc := 107) hO (As := [.int (zi 3), .int (zi i)]) (st := []) (c_X10_addLine (qL Γ) g m25 3 i _ n (by assumption) (by exact ⟨by omega, hn.2⟩) (by omega) (by omega)) k_X10_37 isO_42 rfl (Nat.le_of_ble_eq_true rfl) (by decide) (by decide) ⟨by decide, by decide⟩ dX10_addLines_107 (fun m29 h30 => ?_)
                    obtain ⟨hs, hy4, hf⟩ := h30
                    have hfr : ∀ a, a ≠ 42 → a ≠ 44 → a ≠ 45 → ¬ (100 ≤ a ∧ a < 138) → m29 a = x a := fun a a1 a2 a3 a4 => (hf a a1 a2 a3 a4).trans (hfr a a1 a2 a3 a4)
                    refine z_iinc (pc := 110) hO 4 (lv' := [(4, .int (zi (i + 1))), (0, .ref (gA g 42)), (1, .int (zi s)), (2, .int (zi 0)), (3, .int (zi 1))]) dX10_addLines_110 rfl (by decide) rfl ?_
                    refine z_goto (pc := 113) hO (tgt := 29) dX10_addLines_113 (by decide) ?_
                    refine z_sub [1, 2, 3, 4, 0] rfl ?_
                    exact ih29 (i + 1) m29 (by omega) (by omega) (by rw [lnsA_s _ _ h0.1, lnS]; (first | rw [adI_t (by omega)] | rw [adI_f (by omega)]); (first | rw [adI_t (by omega)] | rw [adI_f (by omega)]); (first | rw [adI_t (by omega)] | rw [adI_f (by omega)]); (first | rw [adI_t (by omega)] | rw [adI_f (by omega)]); assumption) (by assumption) (by assumption)
              · refine z_aload_n (pc := 57) hO 0 dX10_addLines_57 rfl rfl ?_
                refine z_iconst (pc := 58) hO dX10_addLines_58 ?_
                refine z_iload (pc := 59) hO 4 dX10_addLines_59 rfl ?_
                refine z_callVV (pc := 61) hO (As := [.int (zi 1), .int (zi i)]) (st := []) (c_X10_addLine (qL Γ) g y 1 i _ n (by assumption) (by exact ⟨by omega, hn.2⟩) (by omega) (by omega)) k_X10_37 isO_42 rfl (Nat.le_of_ble_eq_true rfl) (by decide) (by decide) ⟨by decide, by decide⟩ dX10_addLines_61 (fun m32 h33 => ?_)
                obtain ⟨hs, hy4, hf⟩ := h33
                have hfr : ∀ a, a ≠ 42 → a ≠ 44 → a ≠ 45 → ¬ (100 ≤ a ∧ a < 138) → m32 a = x a := fun a a1 a2 a3 a4 => (hf a a1 a2 a3 a4).trans (hfr a a1 a2 a3 a4)
                refine z_iload_n (pc := 64) hO 2 dX10_addLines_64 rfl rfl ?_
                refine z_if_ne (pc := 65) hO (tgt := 77) dX10_addLines_65 (by decide) (by decide) (fun h => absurd h (by decide)) (fun _ => ?_)
                refine z_iload_n (pc := 68) hO 3 dX10_addLines_68 rfl rfl ?_
                refine z_if_eq (pc := 69) hO (tgt := 84) dX10_addLines_69 (by decide) (by decide) (fun h => absurd h (by decide)) (fun _ => ?_)
                refine z_iload (pc := 72) hO 4 dX10_addLines_72 rfl ?_
                refine z_if_ne (pc := 74) hO (tgt := 84) dX10_addLines_74 (by decide) (by omega) (fun b34 => ?_) (fun b34 => ?_)
                · refine z_iload_n (pc := 84) hO 2 dX10_addLines_84 rfl rfl ?_
                  refine z_if_ne (pc := 85) hO (tgt := 103) dX10_addLines_85 (by decide) (by decide) (fun h => absurd h (by decide)) (fun _ => ?_)
                  refine z_iload_n (pc := 88) hO 3 dX10_addLines_88 rfl rfl ?_
                  refine z_if_eq (pc := 89) hO (tgt := 110) dX10_addLines_89 (by decide) (by decide) (fun h => absurd h (by decide)) (fun _ => ?_)
                  refine z_iload (pc := 92) hO 4 dX10_addLines_92 rfl ?_
                  refine z_aload_n (pc := 94) hO 0 dX10_addLines_94 rfl rfl ?_
                  refine gf_X10_side (pc := 95) hO f_X10_23 dX10_addLines_95 ?_
                  refine z_iconst (pc := 98) hO dX10_addLines_98 ?_
                  refine z_isub (pc := 99) hO dX10_addLines_99 ?_
                  refine z_icmp_ne (pc := 100) hO (tgt := 110) dX10_addLines_100 (by decide) (by omega) (by omega) (fun b35 => ?_) (fun b35 => ?_)
                  · refine z_iinc (pc := 110) hO 4 (lv' := [(4, .int (zi (i + 1))), (0, .ref (gA g 42)), (1, .int (zi s)), (2, .int (zi 0)), (3, .int (zi 1))]) dX10_addLines_110 rfl (by decide) rfl ?_
                    refine z_goto (pc := 113) hO (tgt := 29) dX10_addLines_113 (by decide) ?_
                    refine z_sub [1, 2, 3, 4, 0] rfl ?_
                    exact ih29 (i + 1) m32 (by omega) (by omega) (by rw [lnsA_s _ _ h0.1, lnS]; (first | rw [adI_t (by omega)] | rw [adI_f (by omega)]); (first | rw [adI_t (by omega)] | rw [adI_f (by omega)]); (first | rw [adI_t (by omega)] | rw [adI_f (by omega)]); (first | rw [adI_t (by omega)] | rw [adI_f (by omega)]); assumption) (by assumption) (by assumption)
                  · refine z_aload_n (pc := 103) hO 0 dX10_addLines_103 rfl rfl ?_
                    refine z_iconst (pc := 104) hO dX10_addLines_104 ?_
                    refine z_iload (pc := 105) hO 4 dX10_addLines_105 rfl ?_
                    refine z_callVV (pc := 107) hO (As := [.int (zi 3), .int (zi i)]) (st := []) (c_X10_addLine (qL Γ) g m32 3 i _ n (by assumption) (by exact ⟨by omega, hn.2⟩) (by omega) (by omega)) k_X10_37 isO_42 rfl (Nat.le_of_ble_eq_true rfl) (by decide) (by decide) ⟨by decide, by decide⟩ dX10_addLines_107 (fun m37 h38 => ?_)
                    obtain ⟨hs, hy4, hf⟩ := h38
                    have hfr : ∀ a, a ≠ 42 → a ≠ 44 → a ≠ 45 → ¬ (100 ≤ a ∧ a < 138) → m37 a = x a := fun a a1 a2 a3 a4 => (hf a a1 a2 a3 a4).trans (hfr a a1 a2 a3 a4)
                    refine z_iinc (pc := 110) hO 4 (lv' := [(4, .int (zi (i + 1))), (0, .ref (gA g 42)), (1, .int (zi s)), (2, .int (zi 0)), (3, .int (zi 1))]) dX10_addLines_110 rfl (by decide) rfl ?_
                    refine z_goto (pc := 113) hO (tgt := 29) dX10_addLines_113 (by decide) ?_
                    refine z_sub [1, 2, 3, 4, 0] rfl ?_
                    exact ih29 (i + 1) m37 (by omega) (by omega) (by rw [lnsA_s _ _ h0.1, lnS]; (first | rw [adI_t (by omega)] | rw [adI_f (by omega)]); (first | rw [adI_t (by omega)] | rw [adI_f (by omega)]); (first | rw [adI_t (by omega)] | rw [adI_f (by omega)]); (first | rw [adI_t (by omega)] | rw [adI_f (by omega)]); assumption) (by assumption) (by assumption)
                · refine z_aload_n (pc := 77) hO 0 dX10_addLines_77 rfl rfl ?_
                  refine z_iconst (pc := 78) hO dX10_addLines_78 ?_
                  refine z_iload (pc := 79) hO 4 dX10_addLines_79 rfl ?_
                  refine z_callVV (pc := 81) hO (As := [.int (zi 2), .int (zi i)]) (st := []) (c_X10_addLine (qL Γ) g m32 2 i _ n (by assumption) (by exact ⟨by omega, hn.2⟩) (by omega) (by omega)) k_X10_37 isO_42 rfl (Nat.le_of_ble_eq_true rfl) (by decide) (by decide) ⟨by decide, by decide⟩ dX10_addLines_81 (fun m40 h41 => ?_)
                  obtain ⟨hs, hy4, hf⟩ := h41
                  have hfr : ∀ a, a ≠ 42 → a ≠ 44 → a ≠ 45 → ¬ (100 ≤ a ∧ a < 138) → m40 a = x a := fun a a1 a2 a3 a4 => (hf a a1 a2 a3 a4).trans (hfr a a1 a2 a3 a4)
                  refine z_iload_n (pc := 84) hO 2 dX10_addLines_84 rfl rfl ?_
                  refine z_if_ne (pc := 85) hO (tgt := 103) dX10_addLines_85 (by decide) (by decide) (fun h => absurd h (by decide)) (fun _ => ?_)
                  refine z_iload_n (pc := 88) hO 3 dX10_addLines_88 rfl rfl ?_
                  refine z_if_eq (pc := 89) hO (tgt := 110) dX10_addLines_89 (by decide) (by decide) (fun h => absurd h (by decide)) (fun _ => ?_)
                  refine z_iload (pc := 92) hO 4 dX10_addLines_92 rfl ?_
                  refine z_aload_n (pc := 94) hO 0 dX10_addLines_94 rfl rfl ?_
                  refine gf_X10_side (pc := 95) hO f_X10_23 dX10_addLines_95 ?_
                  refine z_iconst (pc := 98) hO dX10_addLines_98 ?_
                  refine z_isub (pc := 99) hO dX10_addLines_99 ?_
                  refine z_icmp_ne (pc := 100) hO (tgt := 110) dX10_addLines_100 (by decide) (by omega) (by omega) (fun b42 => ?_) (fun b42 => ?_)
                  · refine z_iinc (pc := 110) hO 4 (lv' := [(4, .int (zi (i + 1))), (0, .ref (gA g 42)), (1, .int (zi s)), (2, .int (zi 0)), (3, .int (zi 1))]) dX10_addLines_110 rfl (by decide) rfl ?_
                    refine z_goto (pc := 113) hO (tgt := 29) dX10_addLines_113 (by decide) ?_
                    refine z_sub [1, 2, 3, 4, 0] rfl ?_
                    exact ih29 (i + 1) m40 (by omega) (by omega) (by rw [lnsA_s _ _ h0.1, lnS]; (first | rw [adI_t (by omega)] | rw [adI_f (by omega)]); (first | rw [adI_t (by omega)] | rw [adI_f (by omega)]); (first | rw [adI_t (by omega)] | rw [adI_f (by omega)]); (first | rw [adI_t (by omega)] | rw [adI_f (by omega)]); assumption) (by assumption) (by assumption)
                  · refine z_aload_n (pc := 103) hO 0 dX10_addLines_103 rfl rfl ?_
                    refine z_iconst (pc := 104) hO dX10_addLines_104 ?_
                    refine z_iload (pc := 105) hO 4 dX10_addLines_105 rfl ?_
                    refine z_callVV (pc := 107) hO (As := [.int (zi 3), .int (zi i)]) (st := []) (c_X10_addLine (qL Γ) g m40 3 i _ n (by assumption) (by exact ⟨by omega, hn.2⟩) (by omega) (by omega)) k_X10_37 isO_42 rfl (Nat.le_of_ble_eq_true rfl) (by decide) (by decide) ⟨by decide, by decide⟩ dX10_addLines_107 (fun m44 h45 => ?_)
                    obtain ⟨hs, hy4, hf⟩ := h45
                    have hfr : ∀ a, a ≠ 42 → a ≠ 44 → a ≠ 45 → ¬ (100 ≤ a ∧ a < 138) → m44 a = x a := fun a a1 a2 a3 a4 => (hf a a1 a2 a3 a4).trans (hfr a a1 a2 a3 a4)
                    refine z_iinc (pc := 110) hO 4 (lv' := [(4, .int (zi (i + 1))), (0, .ref (gA g 42)), (1, .int (zi s)), (2, .int (zi 0)), (3, .int (zi 1))]) dX10_addLines_110 rfl (by decide) rfl ?_
                    refine z_goto (pc := 113) hO (tgt := 29) dX10_addLines_113 (by decide) ?_
                    refine z_sub [1, 2, 3, 4, 0] rfl ?_
                    exact ih29 (i + 1) m44 (by omega) (by omega) (by rw [lnsA_s _ _ h0.1, lnS]; (first | rw [adI_t (by omega)] | rw [adI_f (by omega)]); (first | rw [adI_t (by omega)] | rw [adI_f (by omega)]); (first | rw [adI_t (by omega)] | rw [adI_f (by omega)]); (first | rw [adI_t (by omega)] | rw [adI_f (by omega)]); assumption) (by assumption) (by assumption)
            · refine z_aload_n (pc := 44) hO 0 dX10_addLines_44 rfl rfl ?_
              refine z_iconst (pc := 45) hO dX10_addLines_45 ?_
              refine z_iload (pc := 46) hO 4 dX10_addLines_46 rfl ?_
              refine z_callVV (pc := 48) hO (As := [.int (zi 0), .int (zi i)]) (st := []) (c_X10_addLine (qL Γ) g y 0 i _ n (by assumption) (by exact ⟨by omega, hn.2⟩) (by omega) (by omega)) k_X10_37 isO_42 rfl (Nat.le_of_ble_eq_true rfl) (by decide) (by decide) ⟨by decide, by decide⟩ dX10_addLines_48 (fun m47 h48 => ?_)
              obtain ⟨hs, hy4, hf⟩ := h48
              have hfr : ∀ a, a ≠ 42 → a ≠ 44 → a ≠ 45 → ¬ (100 ≤ a ∧ a < 138) → m47 a = x a := fun a a1 a2 a3 a4 => (hf a a1 a2 a3 a4).trans (hfr a a1 a2 a3 a4)
              refine z_iload_n (pc := 51) hO 1 dX10_addLines_51 rfl rfl ?_
              refine z_iconst (pc := 52) hO dX10_addLines_52 ?_
              refine z_iand (pc := 53) hO (zi (bnd2 s 4)) dX10_addLines_53 (by exact bnd2_z (by omega) (by omega)) ?_
              refine z_if_eq (pc := 54) hO (tgt := 64) dX10_addLines_54 (by decide) (by have := bnd2_r (b := 4) hs0.1; omega) (fun b49 => ?_) (fun b49 => ?_)
              · refine z_iload_n (pc := 64) hO 2 dX10_addLines_64 rfl rfl ?_
                refine z_if_ne (pc := 65) hO (tgt := 77) dX10_addLines_65 (by decide) (by decide) (fun h => absurd h (by decide)) (fun _ => ?_)
                refine z_iload_n (pc := 68) hO 3 dX10_addLines_68 rfl rfl ?_
                refine z_if_eq (pc := 69) hO (tgt := 84) dX10_addLines_69 (by decide) (by decide) (fun h => absurd h (by decide)) (fun _ => ?_)
                refine z_iload (pc := 72) hO 4 dX10_addLines_72 rfl ?_
                refine z_if_ne (pc := 74) hO (tgt := 84) dX10_addLines_74 (by decide) (by omega) (fun b50 => ?_) (fun b50 => ?_)
                · refine z_iload_n (pc := 84) hO 2 dX10_addLines_84 rfl rfl ?_
                  refine z_if_ne (pc := 85) hO (tgt := 103) dX10_addLines_85 (by decide) (by decide) (fun h => absurd h (by decide)) (fun _ => ?_)
                  refine z_iload_n (pc := 88) hO 3 dX10_addLines_88 rfl rfl ?_
                  refine z_if_eq (pc := 89) hO (tgt := 110) dX10_addLines_89 (by decide) (by decide) (fun h => absurd h (by decide)) (fun _ => ?_)
                  refine z_iload (pc := 92) hO 4 dX10_addLines_92 rfl ?_
                  refine z_aload_n (pc := 94) hO 0 dX10_addLines_94 rfl rfl ?_
                  refine gf_X10_side (pc := 95) hO f_X10_23 dX10_addLines_95 ?_
                  refine z_iconst (pc := 98) hO dX10_addLines_98 ?_
                  refine z_isub (pc := 99) hO dX10_addLines_99 ?_
                  refine z_icmp_ne (pc := 100) hO (tgt := 110) dX10_addLines_100 (by decide) (by omega) (by omega) (fun b51 => ?_) (fun b51 => ?_)
                  · refine z_iinc (pc := 110) hO 4 (lv' := [(4, .int (zi (i + 1))), (0, .ref (gA g 42)), (1, .int (zi s)), (2, .int (zi 0)), (3, .int (zi 1))]) dX10_addLines_110 rfl (by decide) rfl ?_
                    refine z_goto (pc := 113) hO (tgt := 29) dX10_addLines_113 (by decide) ?_
                    refine z_sub [1, 2, 3, 4, 0] rfl ?_
                    exact ih29 (i + 1) m47 (by omega) (by omega) (by rw [lnsA_s _ _ h0.1, lnS]; (first | rw [adI_t (by omega)] | rw [adI_f (by omega)]); (first | rw [adI_t (by omega)] | rw [adI_f (by omega)]); (first | rw [adI_t (by omega)] | rw [adI_f (by omega)]); (first | rw [adI_t (by omega)] | rw [adI_f (by omega)]); assumption) (by assumption) (by assumption)
                  · refine z_aload_n (pc := 103) hO 0 dX10_addLines_103 rfl rfl ?_
                    refine z_iconst (pc := 104) hO dX10_addLines_104 ?_
                    refine z_iload (pc := 105) hO 4 dX10_addLines_105 rfl ?_
                    refine z_callVV (pc := 107) hO (As := [.int (zi 3), .int (zi i)]) (st := []) (c_X10_addLine (qL Γ) g m47 3 i _ n (by assumption) (by exact ⟨by omega, hn.2⟩) (by omega) (by omega)) k_X10_37 isO_42 rfl (Nat.le_of_ble_eq_true rfl) (by decide) (by decide) ⟨by decide, by decide⟩ dX10_addLines_107 (fun m53 h54 => ?_)
                    obtain ⟨hs, hy4, hf⟩ := h54
                    have hfr : ∀ a, a ≠ 42 → a ≠ 44 → a ≠ 45 → ¬ (100 ≤ a ∧ a < 138) → m53 a = x a := fun a a1 a2 a3 a4 => (hf a a1 a2 a3 a4).trans (hfr a a1 a2 a3 a4)
                    refine z_iinc (pc := 110) hO 4 (lv' := [(4, .int (zi (i + 1))), (0, .ref (gA g 42)), (1, .int (zi s)), (2, .int (zi 0)), (3, .int (zi 1))]) dX10_addLines_110 rfl (by decide) rfl ?_
                    refine z_goto (pc := 113) hO (tgt := 29) dX10_addLines_113 (by decide) ?_
                    refine z_sub [1, 2, 3, 4, 0] rfl ?_
                    exact ih29 (i + 1) m53 (by omega) (by omega) (by rw [lnsA_s _ _ h0.1, lnS]; (first | rw [adI_t (by omega)] | rw [adI_f (by omega)]); (first | rw [adI_t (by omega)] | rw [adI_f (by omega)]); (first | rw [adI_t (by omega)] | rw [adI_f (by omega)]); (first | rw [adI_t (by omega)] | rw [adI_f (by omega)]); assumption) (by assumption) (by assumption)
                · refine z_aload_n (pc := 77) hO 0 dX10_addLines_77 rfl rfl ?_
                  refine z_iconst (pc := 78) hO dX10_addLines_78 ?_
                  refine z_iload (pc := 79) hO 4 dX10_addLines_79 rfl ?_
                  refine z_callVV (pc := 81) hO (As := [.int (zi 2), .int (zi i)]) (st := []) (c_X10_addLine (qL Γ) g m47 2 i _ n (by assumption) (by exact ⟨by omega, hn.2⟩) (by omega) (by omega)) k_X10_37 isO_42 rfl (Nat.le_of_ble_eq_true rfl) (by decide) (by decide) ⟨by decide, by decide⟩ dX10_addLines_81 (fun m56 h57 => ?_)
                  obtain ⟨hs, hy4, hf⟩ := h57
                  have hfr : ∀ a, a ≠ 42 → a ≠ 44 → a ≠ 45 → ¬ (100 ≤ a ∧ a < 138) → m56 a = x a := fun a a1 a2 a3 a4 => (hf a a1 a2 a3 a4).trans (hfr a a1 a2 a3 a4)
                  refine z_iload_n (pc := 84) hO 2 dX10_addLines_84 rfl rfl ?_
                  refine z_if_ne (pc := 85) hO (tgt := 103) dX10_addLines_85 (by decide) (by decide) (fun h => absurd h (by decide)) (fun _ => ?_)
                  refine z_iload_n (pc := 88) hO 3 dX10_addLines_88 rfl rfl ?_
                  refine z_if_eq (pc := 89) hO (tgt := 110) dX10_addLines_89 (by decide) (by decide) (fun h => absurd h (by decide)) (fun _ => ?_)
                  refine z_iload (pc := 92) hO 4 dX10_addLines_92 rfl ?_
                  refine z_aload_n (pc := 94) hO 0 dX10_addLines_94 rfl rfl ?_
                  refine gf_X10_side (pc := 95) hO f_X10_23 dX10_addLines_95 ?_
                  refine z_iconst (pc := 98) hO dX10_addLines_98 ?_
                  refine z_isub (pc := 99) hO dX10_addLines_99 ?_
                  refine z_icmp_ne (pc := 100) hO (tgt := 110) dX10_addLines_100 (by decide) (by omega) (by omega) (fun b58 => ?_) (fun b58 => ?_)
                  · refine z_iinc (pc := 110) hO 4 (lv' := [(4, .int (zi (i + 1))), (0, .ref (gA g 42)), (1, .int (zi s)), (2, .int (zi 0)), (3, .int (zi 1))]) dX10_addLines_110 rfl (by decide) rfl ?_
                    refine z_goto (pc := 113) hO (tgt := 29) dX10_addLines_113 (by decide) ?_
                    refine z_sub [1, 2, 3, 4, 0] rfl ?_
                    exact ih29 (i + 1) m56 (by omega) (by omega) (by rw [lnsA_s _ _ h0.1, lnS]; (first | rw [adI_t (by omega)] | rw [adI_f (by omega)]); (first | rw [adI_t (by omega)] | rw [adI_f (by omega)]); (first | rw [adI_t (by omega)] | rw [adI_f (by omega)]); (first | rw [adI_t (by omega)] | rw [adI_f (by omega)]); assumption) (by assumption) (by assumption)
                  · refine z_aload_n (pc := 103) hO 0 dX10_addLines_103 rfl rfl ?_
                    refine z_iconst (pc := 104) hO dX10_addLines_104 ?_
                    refine z_iload (pc := 105) hO 4 dX10_addLines_105 rfl ?_
                    refine z_callVV (pc := 107) hO (As := [.int (zi 3), .int (zi i)]) (st := []) (c_X10_addLine (qL Γ) g m56 3 i _ n (by assumption) (by exact ⟨by omega, hn.2⟩) (by omega) (by omega)) k_X10_37 isO_42 rfl (Nat.le_of_ble_eq_true rfl) (by decide) (by decide) ⟨by decide, by decide⟩ dX10_addLines_107 (fun m60 h61 => ?_)
                    obtain ⟨hs, hy4, hf⟩ := h61
                    have hfr : ∀ a, a ≠ 42 → a ≠ 44 → a ≠ 45 → ¬ (100 ≤ a ∧ a < 138) → m60 a = x a := fun a a1 a2 a3 a4 => (hf a a1 a2 a3 a4).trans (hfr a a1 a2 a3 a4)
                    refine z_iinc (pc := 110) hO 4 (lv' := [(4, .int (zi (i + 1))), (0, .ref (gA g 42)), (1, .int (zi s)), (2, .int (zi 0)), (3, .int (zi 1))]) dX10_addLines_110 rfl (by decide) rfl ?_
                    refine z_goto (pc := 113) hO (tgt := 29) dX10_addLines_113 (by decide) ?_
                    refine z_sub [1, 2, 3, 4, 0] rfl ?_
                    exact ih29 (i + 1) m60 (by omega) (by omega) (by rw [lnsA_s _ _ h0.1, lnS]; (first | rw [adI_t (by omega)] | rw [adI_f (by omega)]); (first | rw [adI_t (by omega)] | rw [adI_f (by omega)]); (first | rw [adI_t (by omega)] | rw [adI_f (by omega)]); (first | rw [adI_t (by omega)] | rw [adI_f (by omega)]); assumption) (by assumption) (by assumption)
              · refine z_aload_n (pc := 57) hO 0 dX10_addLines_57 rfl rfl ?_
                refine z_iconst (pc := 58) hO dX10_addLines_58 ?_
                refine z_iload (pc := 59) hO 4 dX10_addLines_59 rfl ?_
                refine z_callVV (pc := 61) hO (As := [.int (zi 1), .int (zi i)]) (st := []) (c_X10_addLine (qL Γ) g m47 1 i _ n (by assumption) (by exact ⟨by omega, hn.2⟩) (by omega) (by omega)) k_X10_37 isO_42 rfl (Nat.le_of_ble_eq_true rfl) (by decide) (by decide) ⟨by decide, by decide⟩ dX10_addLines_61 (fun m63 h64 => ?_)
                obtain ⟨hs, hy4, hf⟩ := h64
                have hfr : ∀ a, a ≠ 42 → a ≠ 44 → a ≠ 45 → ¬ (100 ≤ a ∧ a < 138) → m63 a = x a := fun a a1 a2 a3 a4 => (hf a a1 a2 a3 a4).trans (hfr a a1 a2 a3 a4)
                refine z_iload_n (pc := 64) hO 2 dX10_addLines_64 rfl rfl ?_
                refine z_if_ne (pc := 65) hO (tgt := 77) dX10_addLines_65 (by decide) (by decide) (fun h => absurd h (by decide)) (fun _ => ?_)
                refine z_iload_n (pc := 68) hO 3 dX10_addLines_68 rfl rfl ?_
                refine z_if_eq (pc := 69) hO (tgt := 84) dX10_addLines_69 (by decide) (by decide) (fun h => absurd h (by decide)) (fun _ => ?_)
                refine z_iload (pc := 72) hO 4 dX10_addLines_72 rfl ?_
                refine z_if_ne (pc := 74) hO (tgt := 84) dX10_addLines_74 (by decide) (by omega) (fun b65 => ?_) (fun b65 => ?_)
                · refine z_iload_n (pc := 84) hO 2 dX10_addLines_84 rfl rfl ?_
                  refine z_if_ne (pc := 85) hO (tgt := 103) dX10_addLines_85 (by decide) (by decide) (fun h => absurd h (by decide)) (fun _ => ?_)
                  refine z_iload_n (pc := 88) hO 3 dX10_addLines_88 rfl rfl ?_
                  refine z_if_eq (pc := 89) hO (tgt := 110) dX10_addLines_89 (by decide) (by decide) (fun h => absurd h (by decide)) (fun _ => ?_)
                  refine z_iload (pc := 92) hO 4 dX10_addLines_92 rfl ?_
                  refine z_aload_n (pc := 94) hO 0 dX10_addLines_94 rfl rfl ?_
                  refine gf_X10_side (pc := 95) hO f_X10_23 dX10_addLines_95 ?_
                  refine z_iconst (pc := 98) hO dX10_addLines_98 ?_
                  refine z_isub (pc := 99) hO dX10_addLines_99 ?_
                  refine z_icmp_ne (pc := 100) hO (tgt := 110) dX10_addLines_100 (by decide) (by omega) (by omega) (fun b66 => ?_) (fun b66 => ?_)
                  · refine z_iinc (pc := 110) hO 4 (lv' := [(4, .int (zi (i + 1))), (0, .ref (gA g 42)), (1, .int (zi s)), (2, .int (zi 0)), (3, .int (zi 1))]) dX10_addLines_110 rfl (by decide) rfl ?_
                    refine z_goto (pc := 113) hO (tgt := 29) dX10_addLines_113 (by decide) ?_
                    refine z_sub [1, 2, 3, 4, 0] rfl ?_
                    exact ih29 (i + 1) m63 (by omega) (by omega) (by rw [lnsA_s _ _ h0.1, lnS]; (first | rw [adI_t (by omega)] | rw [adI_f (by omega)]); (first | rw [adI_t (by omega)] | rw [adI_f (by omega)]); (first | rw [adI_t (by omega)] | rw [adI_f (by omega)]); (first | rw [adI_t (by omega)] | rw [adI_f (by omega)]); assumption) (by assumption) (by assumption)
                  · refine z_aload_n (pc := 103) hO 0 dX10_addLines_103 rfl rfl ?_
                    refine z_iconst (pc := 104) hO dX10_addLines_104 ?_
                    refine z_iload (pc := 105) hO 4 dX10_addLines_105 rfl ?_
                    refine z_callVV (pc := 107) hO (As := [.int (zi 3), .int (zi i)]) (st := []) (c_X10_addLine (qL Γ) g m63 3 i _ n (by assumption) (by exact ⟨by omega, hn.2⟩) (by omega) (by omega)) k_X10_37 isO_42 rfl (Nat.le_of_ble_eq_true rfl) (by decide) (by decide) ⟨by decide, by decide⟩ dX10_addLines_107 (fun m68 h69 => ?_)
                    obtain ⟨hs, hy4, hf⟩ := h69
                    have hfr : ∀ a, a ≠ 42 → a ≠ 44 → a ≠ 45 → ¬ (100 ≤ a ∧ a < 138) → m68 a = x a := fun a a1 a2 a3 a4 => (hf a a1 a2 a3 a4).trans (hfr a a1 a2 a3 a4)
                    refine z_iinc (pc := 110) hO 4 (lv' := [(4, .int (zi (i + 1))), (0, .ref (gA g 42)), (1, .int (zi s)), (2, .int (zi 0)), (3, .int (zi 1))]) dX10_addLines_110 rfl (by decide) rfl ?_
                    refine z_goto (pc := 113) hO (tgt := 29) dX10_addLines_113 (by decide) ?_
                    refine z_sub [1, 2, 3, 4, 0] rfl ?_
                    exact ih29 (i + 1) m68 (by omega) (by omega) (by rw [lnsA_s _ _ h0.1, lnS]; (first | rw [adI_t (by omega)] | rw [adI_f (by omega)]); (first | rw [adI_t (by omega)] | rw [adI_f (by omega)]); (first | rw [adI_t (by omega)] | rw [adI_f (by omega)]); (first | rw [adI_t (by omega)] | rw [adI_f (by omega)]); assumption) (by assumption) (by assumption)
                · refine z_aload_n (pc := 77) hO 0 dX10_addLines_77 rfl rfl ?_
                  refine z_iconst (pc := 78) hO dX10_addLines_78 ?_
                  refine z_iload (pc := 79) hO 4 dX10_addLines_79 rfl ?_
                  refine z_callVV (pc := 81) hO (As := [.int (zi 2), .int (zi i)]) (st := []) (c_X10_addLine (qL Γ) g m63 2 i _ n (by assumption) (by exact ⟨by omega, hn.2⟩) (by omega) (by omega)) k_X10_37 isO_42 rfl (Nat.le_of_ble_eq_true rfl) (by decide) (by decide) ⟨by decide, by decide⟩ dX10_addLines_81 (fun m71 h72 => ?_)
                  obtain ⟨hs, hy4, hf⟩ := h72
                  have hfr : ∀ a, a ≠ 42 → a ≠ 44 → a ≠ 45 → ¬ (100 ≤ a ∧ a < 138) → m71 a = x a := fun a a1 a2 a3 a4 => (hf a a1 a2 a3 a4).trans (hfr a a1 a2 a3 a4)
                  refine z_iload_n (pc := 84) hO 2 dX10_addLines_84 rfl rfl ?_
                  refine z_if_ne (pc := 85) hO (tgt := 103) dX10_addLines_85 (by decide) (by decide) (fun h => absurd h (by decide)) (fun _ => ?_)
                  refine z_iload_n (pc := 88) hO 3 dX10_addLines_88 rfl rfl ?_
                  refine z_if_eq (pc := 89) hO (tgt := 110) dX10_addLines_89 (by decide) (by decide) (fun h => absurd h (by decide)) (fun _ => ?_)
                  refine z_iload (pc := 92) hO 4 dX10_addLines_92 rfl ?_
                  refine z_aload_n (pc := 94) hO 0 dX10_addLines_94 rfl rfl ?_
                  refine gf_X10_side (pc := 95) hO f_X10_23 dX10_addLines_95 ?_
                  refine z_iconst (pc := 98) hO dX10_addLines_98 ?_
                  refine z_isub (pc := 99) hO dX10_addLines_99 ?_
                  refine z_icmp_ne (pc := 100) hO (tgt := 110) dX10_addLines_100 (by decide) (by omega) (by omega) (fun b73 => ?_) (fun b73 => ?_)
                  · refine z_iinc (pc := 110) hO 4 (lv' := [(4, .int (zi (i + 1))), (0, .ref (gA g 42)), (1, .int (zi s)), (2, .int (zi 0)), (3, .int (zi 1))]) dX10_addLines_110 rfl (by decide) rfl ?_
                    refine z_goto (pc := 113) hO (tgt := 29) dX10_addLines_113 (by decide) ?_
                    refine z_sub [1, 2, 3, 4, 0] rfl ?_
                    exact ih29 (i + 1) m71 (by omega) (by omega) (by rw [lnsA_s _ _ h0.1, lnS]; (first | rw [adI_t (by omega)] | rw [adI_f (by omega)]); (first | rw [adI_t (by omega)] | rw [adI_f (by omega)]); (first | rw [adI_t (by omega)] | rw [adI_f (by omega)]); (first | rw [adI_t (by omega)] | rw [adI_f (by omega)]); assumption) (by assumption) (by assumption)
                  · refine z_aload_n (pc := 103) hO 0 dX10_addLines_103 rfl rfl ?_
                    refine z_iconst (pc := 104) hO dX10_addLines_104 ?_
                    refine z_iload (pc := 105) hO 4 dX10_addLines_105 rfl ?_
                    refine z_callVV (pc := 107) hO (As := [.int (zi 3), .int (zi i)]) (st := []) (c_X10_addLine (qL Γ) g m71 3 i _ n (by assumption) (by exact ⟨by omega, hn.2⟩) (by omega) (by omega)) k_X10_37 isO_42 rfl (Nat.le_of_ble_eq_true rfl) (by decide) (by decide) ⟨by decide, by decide⟩ dX10_addLines_107 (fun m75 h76 => ?_)
                    obtain ⟨hs, hy4, hf⟩ := h76
                    have hfr : ∀ a, a ≠ 42 → a ≠ 44 → a ≠ 45 → ¬ (100 ≤ a ∧ a < 138) → m75 a = x a := fun a a1 a2 a3 a4 => (hf a a1 a2 a3 a4).trans (hfr a a1 a2 a3 a4)
                    refine z_iinc (pc := 110) hO 4 (lv' := [(4, .int (zi (i + 1))), (0, .ref (gA g 42)), (1, .int (zi s)), (2, .int (zi 0)), (3, .int (zi 1))]) dX10_addLines_110 rfl (by decide) rfl ?_
                    refine z_goto (pc := 113) hO (tgt := 29) dX10_addLines_113 (by decide) ?_
                    refine z_sub [1, 2, 3, 4, 0] rfl ?_
                    exact ih29 (i + 1) m75 (by omega) (by omega) (by rw [lnsA_s _ _ h0.1, lnS]; (first | rw [adI_t (by omega)] | rw [adI_f (by omega)]); (first | rw [adI_t (by omega)] | rw [adI_f (by omega)]); (first | rw [adI_t (by omega)] | rw [adI_f (by omega)]); (first | rw [adI_t (by omega)] | rw [adI_f (by omega)]); assumption) (by assumption) (by assumption)
      refine z_sub [3, 4, 2, 1, 0] rfl ?_
      exact L29 _ 0 x (Nat.lt_succ_self _) (by omega) (by exact hS) (by exact hn.1) (by intro a _ _ _ _; rfl)
  · refine z_iconst (pc := 7) hO dX10_addLines_7 ?_
    refine z_goto (pc := 8) hO (tgt := 12) dX10_addLines_8 (by decide) ?_
    refine z_istore_n (pc := 12) hO (lv' := [(2, .int (zi 1)), (0, .ref (gA g 42)), (1, .int (zi s))]) dX10_addLines_12 rfl (by decide) rfl ?_
    refine z_iload_n (pc := 13) hO 2 dX10_addLines_13 rfl rfl ?_
    refine z_bipush (pc := 14) hO dX10_addLines_14 (by decide) ?_
    refine z_iand (pc := 16) hO (zi (bnd2 s 8)) dX10_addLines_16 (by exact bnd2_z (by omega) (by omega)) ?_
    refine z_if_eq (pc := 17) hO (tgt := 24) dX10_addLines_17 (by decide) (by have := bnd2_r (b := 8) hs0.1; omega) (fun b77 => ?_) (fun b77 => ?_)
    · refine z_iconst (pc := 24) hO dX10_addLines_24 ?_
      refine z_istore_n (pc := 25) hO (lv' := [(3, .int (zi 0)), (2, .int (zi 1)), (0, .ref (gA g 42)), (1, .int (zi s))]) dX10_addLines_25 rfl (by decide) rfl ?_
      refine z_iconst (pc := 26) hO dX10_addLines_26 ?_
      refine z_istore (pc := 27) hO (lv' := [(4, .int (zi 0)), (3, .int (zi 0)), (2, .int (zi 1)), (0, .ref (gA g 42)), (1, .int (zi s))]) dX10_addLines_27 (by decide) rfl ?_
      have L29 : ∀ (N : Nat) (i : Int) (y : Me), (n - i).toNat < N → (0 ≤ i ∧ i ≤ n) → (SP y (lnsA n s i.toNat)) → (y 42 4 = n) → (∀ a, a ≠ 42 → a ≠ 44 → a ≠ 45 → ¬ (100 ≤ a ∧ a < 138) → y a = x a) → Zz Γ g 5 0 0 y 29 [(0, .ref (gA g 42)), (1, .int (zi s)), (2, .int (zi 1)), (3, .int (zi 0)), (4, .int (zi i))] [] := by
        intro N
        induction N with
        | zero => intro i y hm; exact absurd hm (Nat.not_lt_zero _)
        | succ N ih29 =>
          intro i y hm h0 hA hy4 hfr
          refine z_iload (pc := 29) hO 4 dX10_addLines_29 rfl ?_
          refine z_aload_n (pc := 31) hO 0 dX10_addLines_31 rfl rfl ?_
          refine gf_X10_side (pc := 32) hO f_X10_23 dX10_addLines_32 ?_
          refine z_icmp_ge (pc := 35) hO (tgt := 116) dX10_addLines_35 (by decide) (by omega) (by omega) (fun b78 => ?_) (fun b78 => ?_)
          · exact z_vret (pc := 116) hO hr hQ dX10_addLines_116 (by first | (rw [show i.toNat = n.toNat by omega] at hA; exact ⟨hA, hy4, hfr⟩; done) | (exfalso; omega))
          · refine z_iload_n (pc := 38) hO 1 dX10_addLines_38 rfl rfl ?_
            refine z_iconst (pc := 39) hO dX10_addLines_39 ?_
            refine z_iand (pc := 40) hO (zi (bnd2 s 2)) dX10_addLines_40 (by exact bnd2_z (by omega) (by omega)) ?_
            refine z_if_eq (pc := 41) hO (tgt := 51) dX10_addLines_41 (by decide) (by have := bnd2_r (b := 2) hs0.1; omega) (fun b79 => ?_) (fun b79 => ?_)
            · refine z_iload_n (pc := 51) hO 1 dX10_addLines_51 rfl rfl ?_
              refine z_iconst (pc := 52) hO dX10_addLines_52 ?_
              refine z_iand (pc := 53) hO (zi (bnd2 s 4)) dX10_addLines_53 (by exact bnd2_z (by omega) (by omega)) ?_
              refine z_if_eq (pc := 54) hO (tgt := 64) dX10_addLines_54 (by decide) (by have := bnd2_r (b := 4) hs0.1; omega) (fun b80 => ?_) (fun b80 => ?_)
              · refine z_iload_n (pc := 64) hO 2 dX10_addLines_64 rfl rfl ?_
                refine z_if_ne (pc := 65) hO (tgt := 77) dX10_addLines_65 (by decide) (by decide) (fun _ => ?_) (fun h => absurd h (by decide))
                refine z_aload_n (pc := 77) hO 0 dX10_addLines_77 rfl rfl ?_
                refine z_iconst (pc := 78) hO dX10_addLines_78 ?_
                refine z_iload (pc := 79) hO 4 dX10_addLines_79 rfl ?_
                refine z_callVV (pc := 81) hO (As := [.int (zi 2), .int (zi i)]) (st := []) (c_X10_addLine (qL Γ) g y 2 i _ n (by assumption) (by exact ⟨by omega, hn.2⟩) (by omega) (by omega)) k_X10_37 isO_42 rfl (Nat.le_of_ble_eq_true rfl) (by decide) (by decide) ⟨by decide, by decide⟩ dX10_addLines_81 (fun m82 h83 => ?_)
                obtain ⟨hs, hy4, hf⟩ := h83
                have hfr : ∀ a, a ≠ 42 → a ≠ 44 → a ≠ 45 → ¬ (100 ≤ a ∧ a < 138) → m82 a = x a := fun a a1 a2 a3 a4 => (hf a a1 a2 a3 a4).trans (hfr a a1 a2 a3 a4)
                refine z_iload_n (pc := 84) hO 2 dX10_addLines_84 rfl rfl ?_
                refine z_if_ne (pc := 85) hO (tgt := 103) dX10_addLines_85 (by decide) (by decide) (fun _ => ?_) (fun h => absurd h (by decide))
                refine z_aload_n (pc := 103) hO 0 dX10_addLines_103 rfl rfl ?_
                refine z_iconst (pc := 104) hO dX10_addLines_104 ?_
                refine z_iload (pc := 105) hO 4 dX10_addLines_105 rfl ?_
                refine z_callVV (pc := 107) hO (As := [.int (zi 3), .int (zi i)]) (st := []) (c_X10_addLine (qL Γ) g m82 3 i _ n (by assumption) (by exact ⟨by omega, hn.2⟩) (by omega) (by omega)) k_X10_37 isO_42 rfl (Nat.le_of_ble_eq_true rfl) (by decide) (by decide) ⟨by decide, by decide⟩ dX10_addLines_107 (fun m85 h86 => ?_)
                obtain ⟨hs, hy4, hf⟩ := h86
                have hfr : ∀ a, a ≠ 42 → a ≠ 44 → a ≠ 45 → ¬ (100 ≤ a ∧ a < 138) → m85 a = x a := fun a a1 a2 a3 a4 => (hf a a1 a2 a3 a4).trans (hfr a a1 a2 a3 a4)
                refine z_iinc (pc := 110) hO 4 (lv' := [(4, .int (zi (i + 1))), (0, .ref (gA g 42)), (1, .int (zi s)), (2, .int (zi 1)), (3, .int (zi 0))]) dX10_addLines_110 rfl (by decide) rfl ?_
                refine z_goto (pc := 113) hO (tgt := 29) dX10_addLines_113 (by decide) ?_
                refine z_sub [1, 2, 3, 4, 0] rfl ?_
                exact ih29 (i + 1) m85 (by omega) (by omega) (by rw [lnsA_s _ _ h0.1, lnS]; (first | rw [adI_t (by omega)] | rw [adI_f (by omega)]); (first | rw [adI_t (by omega)] | rw [adI_f (by omega)]); (first | rw [adI_t (by omega)] | rw [adI_f (by omega)]); (first | rw [adI_t (by omega)] | rw [adI_f (by omega)]); assumption) (by assumption) (by assumption)
              · refine z_aload_n (pc := 57) hO 0 dX10_addLines_57 rfl rfl ?_
                refine z_iconst (pc := 58) hO dX10_addLines_58 ?_
                refine z_iload (pc := 59) hO 4 dX10_addLines_59 rfl ?_
                refine z_callVV (pc := 61) hO (As := [.int (zi 1), .int (zi i)]) (st := []) (c_X10_addLine (qL Γ) g y 1 i _ n (by assumption) (by exact ⟨by omega, hn.2⟩) (by omega) (by omega)) k_X10_37 isO_42 rfl (Nat.le_of_ble_eq_true rfl) (by decide) (by decide) ⟨by decide, by decide⟩ dX10_addLines_61 (fun m88 h89 => ?_)
                obtain ⟨hs, hy4, hf⟩ := h89
                have hfr : ∀ a, a ≠ 42 → a ≠ 44 → a ≠ 45 → ¬ (100 ≤ a ∧ a < 138) → m88 a = x a := fun a a1 a2 a3 a4 => (hf a a1 a2 a3 a4).trans (hfr a a1 a2 a3 a4)
                refine z_iload_n (pc := 64) hO 2 dX10_addLines_64 rfl rfl ?_
                refine z_if_ne (pc := 65) hO (tgt := 77) dX10_addLines_65 (by decide) (by decide) (fun _ => ?_) (fun h => absurd h (by decide))
                refine z_aload_n (pc := 77) hO 0 dX10_addLines_77 rfl rfl ?_
                refine z_iconst (pc := 78) hO dX10_addLines_78 ?_
                refine z_iload (pc := 79) hO 4 dX10_addLines_79 rfl ?_
                refine z_callVV (pc := 81) hO (As := [.int (zi 2), .int (zi i)]) (st := []) (c_X10_addLine (qL Γ) g m88 2 i _ n (by assumption) (by exact ⟨by omega, hn.2⟩) (by omega) (by omega)) k_X10_37 isO_42 rfl (Nat.le_of_ble_eq_true rfl) (by decide) (by decide) ⟨by decide, by decide⟩ dX10_addLines_81 (fun m91 h92 => ?_)
                obtain ⟨hs, hy4, hf⟩ := h92
                have hfr : ∀ a, a ≠ 42 → a ≠ 44 → a ≠ 45 → ¬ (100 ≤ a ∧ a < 138) → m91 a = x a := fun a a1 a2 a3 a4 => (hf a a1 a2 a3 a4).trans (hfr a a1 a2 a3 a4)
                refine z_iload_n (pc := 84) hO 2 dX10_addLines_84 rfl rfl ?_
                refine z_if_ne (pc := 85) hO (tgt := 103) dX10_addLines_85 (by decide) (by decide) (fun _ => ?_) (fun h => absurd h (by decide))
                refine z_aload_n (pc := 103) hO 0 dX10_addLines_103 rfl rfl ?_
                refine z_iconst (pc := 104) hO dX10_addLines_104 ?_
                refine z_iload (pc := 105) hO 4 dX10_addLines_105 rfl ?_
                refine z_callVV (pc := 107) hO (As := [.int (zi 3), .int (zi i)]) (st := []) (c_X10_addLine (qL Γ) g m91 3 i _ n (by assumption) (by exact ⟨by omega, hn.2⟩) (by omega) (by omega)) k_X10_37 isO_42 rfl (Nat.le_of_ble_eq_true rfl) (by decide) (by decide) ⟨by decide, by decide⟩ dX10_addLines_107 (fun m94 h95 => ?_)
                obtain ⟨hs, hy4, hf⟩ := h95
                have hfr : ∀ a, a ≠ 42 → a ≠ 44 → a ≠ 45 → ¬ (100 ≤ a ∧ a < 138) → m94 a = x a := fun a a1 a2 a3 a4 => (hf a a1 a2 a3 a4).trans (hfr a a1 a2 a3 a4)
                refine z_iinc (pc := 110) hO 4 (lv' := [(4, .int (zi (i + 1))), (0, .ref (gA g 42)), (1, .int (zi s)), (2, .int (zi 1)), (3, .int (zi 0))]) dX10_addLines_110 rfl (by decide) rfl ?_
                refine z_goto (pc := 113) hO (tgt := 29) dX10_addLines_113 (by decide) ?_
                refine z_sub [1, 2, 3, 4, 0] rfl ?_
                exact ih29 (i + 1) m94 (by omega) (by omega) (by rw [lnsA_s _ _ h0.1, lnS]; (first | rw [adI_t (by omega)] | rw [adI_f (by omega)]); (first | rw [adI_t (by omega)] | rw [adI_f (by omega)]); (first | rw [adI_t (by omega)] | rw [adI_f (by omega)]); (first | rw [adI_t (by omega)] | rw [adI_f (by omega)]); assumption) (by assumption) (by assumption)
            · refine z_aload_n (pc := 44) hO 0 dX10_addLines_44 rfl rfl ?_
              refine z_iconst (pc := 45) hO dX10_addLines_45 ?_
              refine z_iload (pc := 46) hO 4 dX10_addLines_46 rfl ?_
              refine z_callVV (pc := 48) hO (As := [.int (zi 0), .int (zi i)]) (st := []) (c_X10_addLine (qL Γ) g y 0 i _ n (by assumption) (by exact ⟨by omega, hn.2⟩) (by omega) (by omega)) k_X10_37 isO_42 rfl (Nat.le_of_ble_eq_true rfl) (by decide) (by decide) ⟨by decide, by decide⟩ dX10_addLines_48 (fun m97 h98 => ?_)
              obtain ⟨hs, hy4, hf⟩ := h98
              have hfr : ∀ a, a ≠ 42 → a ≠ 44 → a ≠ 45 → ¬ (100 ≤ a ∧ a < 138) → m97 a = x a := fun a a1 a2 a3 a4 => (hf a a1 a2 a3 a4).trans (hfr a a1 a2 a3 a4)
              refine z_iload_n (pc := 51) hO 1 dX10_addLines_51 rfl rfl ?_
              refine z_iconst (pc := 52) hO dX10_addLines_52 ?_
              refine z_iand (pc := 53) hO (zi (bnd2 s 4)) dX10_addLines_53 (by exact bnd2_z (by omega) (by omega)) ?_
              refine z_if_eq (pc := 54) hO (tgt := 64) dX10_addLines_54 (by decide) (by have := bnd2_r (b := 4) hs0.1; omega) (fun b99 => ?_) (fun b99 => ?_)
              · refine z_iload_n (pc := 64) hO 2 dX10_addLines_64 rfl rfl ?_
                refine z_if_ne (pc := 65) hO (tgt := 77) dX10_addLines_65 (by decide) (by decide) (fun _ => ?_) (fun h => absurd h (by decide))
                refine z_aload_n (pc := 77) hO 0 dX10_addLines_77 rfl rfl ?_
                refine z_iconst (pc := 78) hO dX10_addLines_78 ?_
                refine z_iload (pc := 79) hO 4 dX10_addLines_79 rfl ?_
                refine z_callVV (pc := 81) hO (As := [.int (zi 2), .int (zi i)]) (st := []) (c_X10_addLine (qL Γ) g m97 2 i _ n (by assumption) (by exact ⟨by omega, hn.2⟩) (by omega) (by omega)) k_X10_37 isO_42 rfl (Nat.le_of_ble_eq_true rfl) (by decide) (by decide) ⟨by decide, by decide⟩ dX10_addLines_81 (fun m101 h102 => ?_)
                obtain ⟨hs, hy4, hf⟩ := h102
                have hfr : ∀ a, a ≠ 42 → a ≠ 44 → a ≠ 45 → ¬ (100 ≤ a ∧ a < 138) → m101 a = x a := fun a a1 a2 a3 a4 => (hf a a1 a2 a3 a4).trans (hfr a a1 a2 a3 a4)
                refine z_iload_n (pc := 84) hO 2 dX10_addLines_84 rfl rfl ?_
                refine z_if_ne (pc := 85) hO (tgt := 103) dX10_addLines_85 (by decide) (by decide) (fun _ => ?_) (fun h => absurd h (by decide))
                refine z_aload_n (pc := 103) hO 0 dX10_addLines_103 rfl rfl ?_
                refine z_iconst (pc := 104) hO dX10_addLines_104 ?_
                refine z_iload (pc := 105) hO 4 dX10_addLines_105 rfl ?_
                refine z_callVV (pc := 107) hO (As := [.int (zi 3), .int (zi i)]) (st := []) (c_X10_addLine (qL Γ) g m101 3 i _ n (by assumption) (by exact ⟨by omega, hn.2⟩) (by omega) (by omega)) k_X10_37 isO_42 rfl (Nat.le_of_ble_eq_true rfl) (by decide) (by decide) ⟨by decide, by decide⟩ dX10_addLines_107 (fun m104 h105 => ?_)
                obtain ⟨hs, hy4, hf⟩ := h105
                have hfr : ∀ a, a ≠ 42 → a ≠ 44 → a ≠ 45 → ¬ (100 ≤ a ∧ a < 138) → m104 a = x a := fun a a1 a2 a3 a4 => (hf a a1 a2 a3 a4).trans (hfr a a1 a2 a3 a4)
                refine z_iinc (pc := 110) hO 4 (lv' := [(4, .int (zi (i + 1))), (0, .ref (gA g 42)), (1, .int (zi s)), (2, .int (zi 1)), (3, .int (zi 0))]) dX10_addLines_110 rfl (by decide) rfl ?_
                refine z_goto (pc := 113) hO (tgt := 29) dX10_addLines_113 (by decide) ?_
                refine z_sub [1, 2, 3, 4, 0] rfl ?_
                exact ih29 (i + 1) m104 (by omega) (by omega) (by rw [lnsA_s _ _ h0.1, lnS]; (first | rw [adI_t (by omega)] | rw [adI_f (by omega)]); (first | rw [adI_t (by omega)] | rw [adI_f (by omega)]); (first | rw [adI_t (by omega)] | rw [adI_f (by omega)]); (first | rw [adI_t (by omega)] | rw [adI_f (by omega)]); assumption) (by assumption) (by assumption)
              · refine z_aload_n (pc := 57) hO 0 dX10_addLines_57 rfl rfl ?_
                refine z_iconst (pc := 58) hO dX10_addLines_58 ?_
                refine z_iload (pc := 59) hO 4 dX10_addLines_59 rfl ?_
                refine z_callVV (pc := 61) hO (As := [.int (zi 1), .int (zi i)]) (st := []) (c_X10_addLine (qL Γ) g m97 1 i _ n (by assumption) (by exact ⟨by omega, hn.2⟩) (by omega) (by omega)) k_X10_37 isO_42 rfl (Nat.le_of_ble_eq_true rfl) (by decide) (by decide) ⟨by decide, by decide⟩ dX10_addLines_61 (fun m107 h108 => ?_)
                obtain ⟨hs, hy4, hf⟩ := h108
                have hfr : ∀ a, a ≠ 42 → a ≠ 44 → a ≠ 45 → ¬ (100 ≤ a ∧ a < 138) → m107 a = x a := fun a a1 a2 a3 a4 => (hf a a1 a2 a3 a4).trans (hfr a a1 a2 a3 a4)
                refine z_iload_n (pc := 64) hO 2 dX10_addLines_64 rfl rfl ?_
                refine z_if_ne (pc := 65) hO (tgt := 77) dX10_addLines_65 (by decide) (by decide) (fun _ => ?_) (fun h => absurd h (by decide))
                refine z_aload_n (pc := 77) hO 0 dX10_addLines_77 rfl rfl ?_
                refine z_iconst (pc := 78) hO dX10_addLines_78 ?_
                refine z_iload (pc := 79) hO 4 dX10_addLines_79 rfl ?_
                refine z_callVV (pc := 81) hO (As := [.int (zi 2), .int (zi i)]) (st := []) (c_X10_addLine (qL Γ) g m107 2 i _ n (by assumption) (by exact ⟨by omega, hn.2⟩) (by omega) (by omega)) k_X10_37 isO_42 rfl (Nat.le_of_ble_eq_true rfl) (by decide) (by decide) ⟨by decide, by decide⟩ dX10_addLines_81 (fun m110 h111 => ?_)
                obtain ⟨hs, hy4, hf⟩ := h111
                have hfr : ∀ a, a ≠ 42 → a ≠ 44 → a ≠ 45 → ¬ (100 ≤ a ∧ a < 138) → m110 a = x a := fun a a1 a2 a3 a4 => (hf a a1 a2 a3 a4).trans (hfr a a1 a2 a3 a4)
                refine z_iload_n (pc := 84) hO 2 dX10_addLines_84 rfl rfl ?_
                refine z_if_ne (pc := 85) hO (tgt := 103) dX10_addLines_85 (by decide) (by decide) (fun _ => ?_) (fun h => absurd h (by decide))
                refine z_aload_n (pc := 103) hO 0 dX10_addLines_103 rfl rfl ?_
                refine z_iconst (pc := 104) hO dX10_addLines_104 ?_
                refine z_iload (pc := 105) hO 4 dX10_addLines_105 rfl ?_
                refine z_callVV (pc := 107) hO (As := [.int (zi 3), .int (zi i)]) (st := []) (c_X10_addLine (qL Γ) g m110 3 i _ n (by assumption) (by exact ⟨by omega, hn.2⟩) (by omega) (by omega)) k_X10_37 isO_42 rfl (Nat.le_of_ble_eq_true rfl) (by decide) (by decide) ⟨by decide, by decide⟩ dX10_addLines_107 (fun m113 h114 => ?_)
                obtain ⟨hs, hy4, hf⟩ := h114
                have hfr : ∀ a, a ≠ 42 → a ≠ 44 → a ≠ 45 → ¬ (100 ≤ a ∧ a < 138) → m113 a = x a := fun a a1 a2 a3 a4 => (hf a a1 a2 a3 a4).trans (hfr a a1 a2 a3 a4)
                refine z_iinc (pc := 110) hO 4 (lv' := [(4, .int (zi (i + 1))), (0, .ref (gA g 42)), (1, .int (zi s)), (2, .int (zi 1)), (3, .int (zi 0))]) dX10_addLines_110 rfl (by decide) rfl ?_
                refine z_goto (pc := 113) hO (tgt := 29) dX10_addLines_113 (by decide) ?_
                refine z_sub [1, 2, 3, 4, 0] rfl ?_
                exact ih29 (i + 1) m113 (by omega) (by omega) (by rw [lnsA_s _ _ h0.1, lnS]; (first | rw [adI_t (by omega)] | rw [adI_f (by omega)]); (first | rw [adI_t (by omega)] | rw [adI_f (by omega)]); (first | rw [adI_t (by omega)] | rw [adI_f (by omega)]); (first | rw [adI_t (by omega)] | rw [adI_f (by omega)]); assumption) (by assumption) (by assumption)
      refine z_sub [3, 4, 2, 1, 0] rfl ?_
      exact L29 _ 0 x (Nat.lt_succ_self _) (by omega) (by exact hS) (by exact hn.1) (by intro a _ _ _ _; rfl)
    · refine z_iconst (pc := 20) hO dX10_addLines_20 ?_
      refine z_goto (pc := 21) hO (tgt := 25) dX10_addLines_21 (by decide) ?_
      refine z_istore_n (pc := 25) hO (lv' := [(3, .int (zi 1)), (2, .int (zi 1)), (0, .ref (gA g 42)), (1, .int (zi s))]) dX10_addLines_25 rfl (by decide) rfl ?_
      refine z_iconst (pc := 26) hO dX10_addLines_26 ?_
      refine z_istore (pc := 27) hO (lv' := [(4, .int (zi 0)), (3, .int (zi 1)), (2, .int (zi 1)), (0, .ref (gA g 42)), (1, .int (zi s))]) dX10_addLines_27 (by decide) rfl ?_
      have L29 : ∀ (N : Nat) (i : Int) (y : Me), (n - i).toNat < N → (0 ≤ i ∧ i ≤ n) → (SP y (lnsA n s i.toNat)) → (y 42 4 = n) → (∀ a, a ≠ 42 → a ≠ 44 → a ≠ 45 → ¬ (100 ≤ a ∧ a < 138) → y a = x a) → Zz Γ g 5 0 0 y 29 [(0, .ref (gA g 42)), (1, .int (zi s)), (2, .int (zi 1)), (3, .int (zi 1)), (4, .int (zi i))] [] := by
        intro N
        induction N with
        | zero => intro i y hm; exact absurd hm (Nat.not_lt_zero _)
        | succ N ih29 =>
          intro i y hm h0 hA hy4 hfr
          refine z_iload (pc := 29) hO 4 dX10_addLines_29 rfl ?_
          refine z_aload_n (pc := 31) hO 0 dX10_addLines_31 rfl rfl ?_
          refine gf_X10_side (pc := 32) hO f_X10_23 dX10_addLines_32 ?_
          refine z_icmp_ge (pc := 35) hO (tgt := 116) dX10_addLines_35 (by decide) (by omega) (by omega) (fun b115 => ?_) (fun b115 => ?_)
          · exact z_vret (pc := 116) hO hr hQ dX10_addLines_116 (by first | (rw [show i.toNat = n.toNat by omega] at hA; exact ⟨hA, hy4, hfr⟩; done) | (exfalso; omega))
          · refine z_iload_n (pc := 38) hO 1 dX10_addLines_38 rfl rfl ?_
            refine z_iconst (pc := 39) hO dX10_addLines_39 ?_
            refine z_iand (pc := 40) hO (zi (bnd2 s 2)) dX10_addLines_40 (by exact bnd2_z (by omega) (by omega)) ?_
            refine z_if_eq (pc := 41) hO (tgt := 51) dX10_addLines_41 (by decide) (by have := bnd2_r (b := 2) hs0.1; omega) (fun b116 => ?_) (fun b116 => ?_)
            · refine z_iload_n (pc := 51) hO 1 dX10_addLines_51 rfl rfl ?_
              refine z_iconst (pc := 52) hO dX10_addLines_52 ?_
              refine z_iand (pc := 53) hO (zi (bnd2 s 4)) dX10_addLines_53 (by exact bnd2_z (by omega) (by omega)) ?_
              refine z_if_eq (pc := 54) hO (tgt := 64) dX10_addLines_54 (by decide) (by have := bnd2_r (b := 4) hs0.1; omega) (fun b117 => ?_) (fun b117 => ?_)
              · refine z_iload_n (pc := 64) hO 2 dX10_addLines_64 rfl rfl ?_
                refine z_if_ne (pc := 65) hO (tgt := 77) dX10_addLines_65 (by decide) (by decide) (fun _ => ?_) (fun h => absurd h (by decide))
                refine z_aload_n (pc := 77) hO 0 dX10_addLines_77 rfl rfl ?_
                refine z_iconst (pc := 78) hO dX10_addLines_78 ?_
                refine z_iload (pc := 79) hO 4 dX10_addLines_79 rfl ?_
                refine z_callVV (pc := 81) hO (As := [.int (zi 2), .int (zi i)]) (st := []) (c_X10_addLine (qL Γ) g y 2 i _ n (by assumption) (by exact ⟨by omega, hn.2⟩) (by omega) (by omega)) k_X10_37 isO_42 rfl (Nat.le_of_ble_eq_true rfl) (by decide) (by decide) ⟨by decide, by decide⟩ dX10_addLines_81 (fun m119 h120 => ?_)
                obtain ⟨hs, hy4, hf⟩ := h120
                have hfr : ∀ a, a ≠ 42 → a ≠ 44 → a ≠ 45 → ¬ (100 ≤ a ∧ a < 138) → m119 a = x a := fun a a1 a2 a3 a4 => (hf a a1 a2 a3 a4).trans (hfr a a1 a2 a3 a4)
                refine z_iload_n (pc := 84) hO 2 dX10_addLines_84 rfl rfl ?_
                refine z_if_ne (pc := 85) hO (tgt := 103) dX10_addLines_85 (by decide) (by decide) (fun _ => ?_) (fun h => absurd h (by decide))
                refine z_aload_n (pc := 103) hO 0 dX10_addLines_103 rfl rfl ?_
                refine z_iconst (pc := 104) hO dX10_addLines_104 ?_
                refine z_iload (pc := 105) hO 4 dX10_addLines_105 rfl ?_
                refine z_callVV (pc := 107) hO (As := [.int (zi 3), .int (zi i)]) (st := []) (c_X10_addLine (qL Γ) g m119 3 i _ n (by assumption) (by exact ⟨by omega, hn.2⟩) (by omega) (by omega)) k_X10_37 isO_42 rfl (Nat.le_of_ble_eq_true rfl) (by decide) (by decide) ⟨by decide, by decide⟩ dX10_addLines_107 (fun m122 h123 => ?_)
                obtain ⟨hs, hy4, hf⟩ := h123
                have hfr : ∀ a, a ≠ 42 → a ≠ 44 → a ≠ 45 → ¬ (100 ≤ a ∧ a < 138) → m122 a = x a := fun a a1 a2 a3 a4 => (hf a a1 a2 a3 a4).trans (hfr a a1 a2 a3 a4)
                refine z_iinc (pc := 110) hO 4 (lv' := [(4, .int (zi (i + 1))), (0, .ref (gA g 42)), (1, .int (zi s)), (2, .int (zi 1)), (3, .int (zi 1))]) dX10_addLines_110 rfl (by decide) rfl ?_
                refine z_goto (pc := 113) hO (tgt := 29) dX10_addLines_113 (by decide) ?_
                refine z_sub [1, 2, 3, 4, 0] rfl ?_
                exact ih29 (i + 1) m122 (by omega) (by omega) (by rw [lnsA_s _ _ h0.1, lnS]; (first | rw [adI_t (by omega)] | rw [adI_f (by omega)]); (first | rw [adI_t (by omega)] | rw [adI_f (by omega)]); (first | rw [adI_t (by omega)] | rw [adI_f (by omega)]); (first | rw [adI_t (by omega)] | rw [adI_f (by omega)]); assumption) (by assumption) (by assumption)
              · refine z_aload_n (pc := 57) hO 0 dX10_addLines_57 rfl rfl ?_
                refine z_iconst (pc := 58) hO dX10_addLines_58 ?_
                refine z_iload (pc := 59) hO 4 dX10_addLines_59 rfl ?_
                refine z_callVV (pc := 61) hO (As := [.int (zi 1), .int (zi i)]) (st := []) (c_X10_addLine (qL Γ) g y 1 i _ n (by assumption) (by exact ⟨by omega, hn.2⟩) (by omega) (by omega)) k_X10_37 isO_42 rfl (Nat.le_of_ble_eq_true rfl) (by decide) (by decide) ⟨by decide, by decide⟩ dX10_addLines_61 (fun m125 h126 => ?_)
                obtain ⟨hs, hy4, hf⟩ := h126
                have hfr : ∀ a, a ≠ 42 → a ≠ 44 → a ≠ 45 → ¬ (100 ≤ a ∧ a < 138) → m125 a = x a := fun a a1 a2 a3 a4 => (hf a a1 a2 a3 a4).trans (hfr a a1 a2 a3 a4)
                refine z_iload_n (pc := 64) hO 2 dX10_addLines_64 rfl rfl ?_
                refine z_if_ne (pc := 65) hO (tgt := 77) dX10_addLines_65 (by decide) (by decide) (fun _ => ?_) (fun h => absurd h (by decide))
                refine z_aload_n (pc := 77) hO 0 dX10_addLines_77 rfl rfl ?_
                refine z_iconst (pc := 78) hO dX10_addLines_78 ?_
                refine z_iload (pc := 79) hO 4 dX10_addLines_79 rfl ?_
                refine z_callVV (pc := 81) hO (As := [.int (zi 2), .int (zi i)]) (st := []) (c_X10_addLine (qL Γ) g m125 2 i _ n (by assumption) (by exact ⟨by omega, hn.2⟩) (by omega) (by omega)) k_X10_37 isO_42 rfl (Nat.le_of_ble_eq_true rfl) (by decide) (by decide) ⟨by decide, by decide⟩ dX10_addLines_81 (fun m128 h129 => ?_)
                obtain ⟨hs, hy4, hf⟩ := h129
                have hfr : ∀ a, a ≠ 42 → a ≠ 44 → a ≠ 45 → ¬ (100 ≤ a ∧ a < 138) → m128 a = x a := fun a a1 a2 a3 a4 => (hf a a1 a2 a3 a4).trans (hfr a a1 a2 a3 a4)
                refine z_iload_n (pc := 84) hO 2 dX10_addLines_84 rfl rfl ?_
                refine z_if_ne (pc := 85) hO (tgt := 103) dX10_addLines_85 (by decide) (by decide) (fun _ => ?_) (fun h => absurd h (by decide))
                refine z_aload_n (pc := 103) hO 0 dX10_addLines_103 rfl rfl ?_
                refine z_iconst (pc := 104) hO dX10_addLines_104 ?_
                refine z_iload (pc := 105) hO 4 dX10_addLines_105 rfl ?_
                refine z_callVV (pc := 107) hO (As := [.int (zi 3), .int (zi i)]) (st := []) (c_X10_addLine (qL Γ) g m128 3 i _ n (by assumption) (by exact ⟨by omega, hn.2⟩) (by omega) (by omega)) k_X10_37 isO_42 rfl (Nat.le_of_ble_eq_true rfl) (by decide) (by decide) ⟨by decide, by decide⟩ dX10_addLines_107 (fun m131 h132 => ?_)
                obtain ⟨hs, hy4, hf⟩ := h132
                have hfr : ∀ a, a ≠ 42 → a ≠ 44 → a ≠ 45 → ¬ (100 ≤ a ∧ a < 138) → m131 a = x a := fun a a1 a2 a3 a4 => (hf a a1 a2 a3 a4).trans (hfr a a1 a2 a3 a4)
                refine z_iinc (pc := 110) hO 4 (lv' := [(4, .int (zi (i + 1))), (0, .ref (gA g 42)), (1, .int (zi s)), (2, .int (zi 1)), (3, .int (zi 1))]) dX10_addLines_110 rfl (by decide) rfl ?_
                refine z_goto (pc := 113) hO (tgt := 29) dX10_addLines_113 (by decide) ?_
                refine z_sub [1, 2, 3, 4, 0] rfl ?_
                exact ih29 (i + 1) m131 (by omega) (by omega) (by rw [lnsA_s _ _ h0.1, lnS]; (first | rw [adI_t (by omega)] | rw [adI_f (by omega)]); (first | rw [adI_t (by omega)] | rw [adI_f (by omega)]); (first | rw [adI_t (by omega)] | rw [adI_f (by omega)]); (first | rw [adI_t (by omega)] | rw [adI_f (by omega)]); assumption) (by assumption) (by assumption)
            · refine z_aload_n (pc := 44) hO 0 dX10_addLines_44 rfl rfl ?_
              refine z_iconst (pc := 45) hO dX10_addLines_45 ?_
              refine z_iload (pc := 46) hO 4 dX10_addLines_46 rfl ?_
              refine z_callVV (pc := 48) hO (As := [.int (zi 0), .int (zi i)]) (st := []) (c_X10_addLine (qL Γ) g y 0 i _ n (by assumption) (by exact ⟨by omega, hn.2⟩) (by omega) (by omega)) k_X10_37 isO_42 rfl (Nat.le_of_ble_eq_true rfl) (by decide) (by decide) ⟨by decide, by decide⟩ dX10_addLines_48 (fun m134 h135 => ?_)
              obtain ⟨hs, hy4, hf⟩ := h135
              have hfr : ∀ a, a ≠ 42 → a ≠ 44 → a ≠ 45 → ¬ (100 ≤ a ∧ a < 138) → m134 a = x a := fun a a1 a2 a3 a4 => (hf a a1 a2 a3 a4).trans (hfr a a1 a2 a3 a4)
              refine z_iload_n (pc := 51) hO 1 dX10_addLines_51 rfl rfl ?_
              refine z_iconst (pc := 52) hO dX10_addLines_52 ?_
              refine z_iand (pc := 53) hO (zi (bnd2 s 4)) dX10_addLines_53 (by exact bnd2_z (by omega) (by omega)) ?_
              refine z_if_eq (pc := 54) hO (tgt := 64) dX10_addLines_54 (by decide) (by have := bnd2_r (b := 4) hs0.1; omega) (fun b136 => ?_) (fun b136 => ?_)
              · refine z_iload_n (pc := 64) hO 2 dX10_addLines_64 rfl rfl ?_
                refine z_if_ne (pc := 65) hO (tgt := 77) dX10_addLines_65 (by decide) (by decide) (fun _ => ?_) (fun h => absurd h (by decide))
                refine z_aload_n (pc := 77) hO 0 dX10_addLines_77 rfl rfl ?_
                refine z_iconst (pc := 78) hO dX10_addLines_78 ?_
                refine z_iload (pc := 79) hO 4 dX10_addLines_79 rfl ?_
                refine z_callVV (pc := 81) hO (As := [.int (zi 2), .int (zi i)]) (st := []) (c_X10_addLine (qL Γ) g m134 2 i _ n (by assumption) (by exact ⟨by omega, hn.2⟩) (by omega) (by omega)) k_X10_37 isO_42 rfl (Nat.le_of_ble_eq_true rfl) (by decide) (by decide) ⟨by decide, by decide⟩ dX10_addLines_81 (fun m138 h139 => ?_)
                obtain ⟨hs, hy4, hf⟩ := h139
                have hfr : ∀ a, a ≠ 42 → a ≠ 44 → a ≠ 45 → ¬ (100 ≤ a ∧ a < 138) → m138 a = x a := fun a a1 a2 a3 a4 => (hf a a1 a2 a3 a4).trans (hfr a a1 a2 a3 a4)
                refine z_iload_n (pc := 84) hO 2 dX10_addLines_84 rfl rfl ?_
                refine z_if_ne (pc := 85) hO (tgt := 103) dX10_addLines_85 (by decide) (by decide) (fun _ => ?_) (fun h => absurd h (by decide))
                refine z_aload_n (pc := 103) hO 0 dX10_addLines_103 rfl rfl ?_
                refine z_iconst (pc := 104) hO dX10_addLines_104 ?_
                refine z_iload (pc := 105) hO 4 dX10_addLines_105 rfl ?_
                refine z_callVV (pc := 107) hO (As := [.int (zi 3), .int (zi i)]) (st := []) (c_X10_addLine (qL Γ) g m138 3 i _ n (by assumption) (by exact ⟨by omega, hn.2⟩) (by omega) (by omega)) k_X10_37 isO_42 rfl (Nat.le_of_ble_eq_true rfl) (by decide) (by decide) ⟨by decide, by decide⟩ dX10_addLines_107 (fun m141 h142 => ?_)
                obtain ⟨hs, hy4, hf⟩ := h142
                have hfr : ∀ a, a ≠ 42 → a ≠ 44 → a ≠ 45 → ¬ (100 ≤ a ∧ a < 138) → m141 a = x a := fun a a1 a2 a3 a4 => (hf a a1 a2 a3 a4).trans (hfr a a1 a2 a3 a4)
                refine z_iinc (pc := 110) hO 4 (lv' := [(4, .int (zi (i + 1))), (0, .ref (gA g 42)), (1, .int (zi s)), (2, .int (zi 1)), (3, .int (zi 1))]) dX10_addLines_110 rfl (by decide) rfl ?_
                refine z_goto (pc := 113) hO (tgt := 29) dX10_addLines_113 (by decide) ?_
                refine z_sub [1, 2, 3, 4, 0] rfl ?_
                exact ih29 (i + 1) m141 (by omega) (by omega) (by rw [lnsA_s _ _ h0.1, lnS]; (first | rw [adI_t (by omega)] | rw [adI_f (by omega)]); (first | rw [adI_t (by omega)] | rw [adI_f (by omega)]); (first | rw [adI_t (by omega)] | rw [adI_f (by omega)]); (first | rw [adI_t (by omega)] | rw [adI_f (by omega)]); assumption) (by assumption) (by assumption)
              · refine z_aload_n (pc := 57) hO 0 dX10_addLines_57 rfl rfl ?_
                refine z_iconst (pc := 58) hO dX10_addLines_58 ?_
                refine z_iload (pc := 59) hO 4 dX10_addLines_59 rfl ?_
                refine z_callVV (pc := 61) hO (As := [.int (zi 1), .int (zi i)]) (st := []) (c_X10_addLine (qL Γ) g m134 1 i _ n (by assumption) (by exact ⟨by omega, hn.2⟩) (by omega) (by omega)) k_X10_37 isO_42 rfl (Nat.le_of_ble_eq_true rfl) (by decide) (by decide) ⟨by decide, by decide⟩ dX10_addLines_61 (fun m144 h145 => ?_)
                obtain ⟨hs, hy4, hf⟩ := h145
                have hfr : ∀ a, a ≠ 42 → a ≠ 44 → a ≠ 45 → ¬ (100 ≤ a ∧ a < 138) → m144 a = x a := fun a a1 a2 a3 a4 => (hf a a1 a2 a3 a4).trans (hfr a a1 a2 a3 a4)
                refine z_iload_n (pc := 64) hO 2 dX10_addLines_64 rfl rfl ?_
                refine z_if_ne (pc := 65) hO (tgt := 77) dX10_addLines_65 (by decide) (by decide) (fun _ => ?_) (fun h => absurd h (by decide))
                refine z_aload_n (pc := 77) hO 0 dX10_addLines_77 rfl rfl ?_
                refine z_iconst (pc := 78) hO dX10_addLines_78 ?_
                refine z_iload (pc := 79) hO 4 dX10_addLines_79 rfl ?_
                refine z_callVV (pc := 81) hO (As := [.int (zi 2), .int (zi i)]) (st := []) (c_X10_addLine (qL Γ) g m144 2 i _ n (by assumption) (by exact ⟨by omega, hn.2⟩) (by omega) (by omega)) k_X10_37 isO_42 rfl (Nat.le_of_ble_eq_true rfl) (by decide) (by decide) ⟨by decide, by decide⟩ dX10_addLines_81 (fun m147 h148 => ?_)
                obtain ⟨hs, hy4, hf⟩ := h148
                have hfr : ∀ a, a ≠ 42 → a ≠ 44 → a ≠ 45 → ¬ (100 ≤ a ∧ a < 138) → m147 a = x a := fun a a1 a2 a3 a4 => (hf a a1 a2 a3 a4).trans (hfr a a1 a2 a3 a4)
                refine z_iload_n (pc := 84) hO 2 dX10_addLines_84 rfl rfl ?_
                refine z_if_ne (pc := 85) hO (tgt := 103) dX10_addLines_85 (by decide) (by decide) (fun _ => ?_) (fun h => absurd h (by decide))
                refine z_aload_n (pc := 103) hO 0 dX10_addLines_103 rfl rfl ?_
                refine z_iconst (pc := 104) hO dX10_addLines_104 ?_
                refine z_iload (pc := 105) hO 4 dX10_addLines_105 rfl ?_
                refine z_callVV (pc := 107) hO (As := [.int (zi 3), .int (zi i)]) (st := []) (c_X10_addLine (qL Γ) g m147 3 i _ n (by assumption) (by exact ⟨by omega, hn.2⟩) (by omega) (by omega)) k_X10_37 isO_42 rfl (Nat.le_of_ble_eq_true rfl) (by decide) (by decide) ⟨by decide, by decide⟩ dX10_addLines_107 (fun m150 h151 => ?_)
                obtain ⟨hs, hy4, hf⟩ := h151
                have hfr : ∀ a, a ≠ 42 → a ≠ 44 → a ≠ 45 → ¬ (100 ≤ a ∧ a < 138) → m150 a = x a := fun a a1 a2 a3 a4 => (hf a a1 a2 a3 a4).trans (hfr a a1 a2 a3 a4)
                refine z_iinc (pc := 110) hO 4 (lv' := [(4, .int (zi (i + 1))), (0, .ref (gA g 42)), (1, .int (zi s)), (2, .int (zi 1)), (3, .int (zi 1))]) dX10_addLines_110 rfl (by decide) rfl ?_
                refine z_goto (pc := 113) hO (tgt := 29) dX10_addLines_113 (by decide) ?_
                refine z_sub [1, 2, 3, 4, 0] rfl ?_
                exact ih29 (i + 1) m150 (by omega) (by omega) (by rw [lnsA_s _ _ h0.1, lnS]; (first | rw [adI_t (by omega)] | rw [adI_f (by omega)]); (first | rw [adI_t (by omega)] | rw [adI_f (by omega)]); (first | rw [adI_t (by omega)] | rw [adI_f (by omega)]); (first | rw [adI_t (by omega)] | rw [adI_f (by omega)]); assumption) (by assumption) (by assumption)
      refine z_sub [3, 4, 2, 1, 0] rfl ?_
      exact L29 _ 0 x (Nat.lt_succ_self _) (by omega) (by exact hS) (by exact hn.1) (by intro a _ _ _ _; rfl)

