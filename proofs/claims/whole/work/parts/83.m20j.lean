set_option maxHeartbeats 4000000 in
theorem c_X12_cross (l : Launch) (g : Gl) (x : Me) (n : Int)  (hn : 1 ≤ n ∧ n ≤ 9) : ctQ l g yX12_cross cX12_cross 5 none 1 20 [.ref (gA g 50), .int (zi n)] x (QVu g (fun x' => (∀ p, 0 ≤ p → p < n * n → x' 53 p = crs n p) ∧ (∀ p, ¬ (0 ≤ p ∧ p < n * n) → x' 53 p = x 53 p) ∧ ∀ a, a ≠ 53 → x' a = x a)) := by
  refine ct_start (own := RX12) (lv := [(0, .ref (gA g 50)), (1, .int (zi n))]) (plainFor_of_name (by decide)) rfl (Nat.le_of_ble_eq_true rfl) rfl ?_
  intro Γ hΓ hO hr hQ _
  have hsq := sq9 hn
  refine z_iconst (pc := 0) hO dX12_cross_0 ?_
  refine z_istore_n (pc := 1) hO (lv' := [(2, .int (zi 0)), (0, .ref (gA g 50)), (1, .int (zi n))]) dX12_cross_1 rfl (by decide) rfl ?_
  have L2 : ∀ (N : Nat) (i : Int) (y : Me), (n * n - i).toNat < N → (0 ≤ i ∧ i ≤ n * n) → (∀ p, 0 ≤ p → p < i → y 53 p = crs n p) → (∀ p, ¬ (0 ≤ p ∧ p < n * n) → y 53 p = x 53 p) → (∀ a, a ≠ 53 → y a = x a) → Zz Γ g 5 0 0 y 2 [(0, .ref (gA g 50)), (1, .int (zi n)), (2, .int (zi i))] [] := by
    intro N
    induction N with
    | zero => intro i y hm; exact absurd hm (Nat.not_lt_zero _)
    | succ N ih2 =>
      intro i y hm h0 hA hB hfr
      refine z_iload_n (pc := 2) hO 2 dX12_cross_2 rfl rfl ?_
      refine z_iload_n (pc := 3) hO 1 dX12_cross_3 rfl rfl ?_
      refine z_iload_n (pc := 4) hO 1 dX12_cross_4 rfl rfl ?_
      refine z_imul (pc := 5) hO dX12_cross_5 ?_
      refine z_icmp_ge (pc := 6) hO (tgt := 59) dX12_cross_6 (by decide) (by omega) (by omega) (fun b1 => ?_) (fun b1 => ?_)
      · exact z_vret (pc := 59) hO hr hQ dX12_cross_59 (by first | (exact ⟨fun p a b => hA p a (by omega), hB, hfr⟩; done) | (exfalso; omega))
      · have hd := rc9 hn (p := i) (by omega)
        refine z_iload_n (pc := 9) hO 2 dX12_cross_9 rfl rfl ?_
        refine z_iload_n (pc := 10) hO 1 dX12_cross_10 rfl rfl ?_
        refine z_idiv (pc := 11) hO dX12_cross_11 (by omega) (by omega) ?_
        refine z_iconst (pc := 12) hO dX12_cross_12 ?_
        refine z_irem (pc := 13) hO dX12_cross_13 (by omega) (by omega) ?_
        refine z_istore_n (pc := 14) hO (lv' := [(3, .int (zi ((i / n) % 4))), (0, .ref (gA g 50)), (1, .int (zi n)), (2, .int (zi i))]) dX12_cross_14 rfl (by decide) rfl ?_
        refine z_iload_n (pc := 15) hO 3 dX12_cross_15 rfl rfl ?_
        refine z_iload_n (pc := 16) hO 2 dX12_cross_16 rfl rfl ?_
        refine z_irem (pc := 17) hO dX12_cross_17 (by omega) (by omega) ?_
        refine z_iconst (pc := 18) hO dX12_cross_18 ?_
        refine z_irem (pc := 19) hO dX12_cross_19 (by omega) (by omega) ?_
        refine z_istore (pc := 20) hO (lv' := [(4, .int (zi ((i % n) % 4))), (3, .int (zi ((i / n) % 4))), (0, .ref (gA g 50)), (1, .int (zi n)), (2, .int (zi i))]) dX12_cross_20 (by decide) rfl ?_
        refine z_aload_n (pc := 22) hO 2 dX12_cross_22 rfl rfl ?_
        refine gf_X12_made (pc := 23) hO f_X12_16 dX12_cross_23 ?_
        refine z_iload_n (pc := 26) hO 4 dX12_cross_26 rfl rfl ?_
        refine z_iload_n (pc := 27) hO 1 dX12_cross_27 rfl rfl ?_
        refine z_iload (pc := 28) hO 0 dX12_cross_28 rfl ?_
        refine z_icmp_eq (pc := 30) hO (tgt := 41) dX12_cross_30 (by decide) (by omega) (by omega) (fun b2 => ?_) (fun b2 => ?_)
        · refine z_iload_n (pc := 41) hO 3 dX12_cross_41 rfl rfl ?_
          refine z_iload_n (pc := 42) hO 3 dX12_cross_42 rfl rfl ?_
          refine z_imul (pc := 43) hO dX12_cross_43 ?_
          refine z_iload_n (pc := 44) hO 4 dX12_cross_44 rfl rfl ?_
          refine z_isub (pc := 45) hO dX12_cross_45 ?_
          refine z_goto (pc := 46) hO (tgt := 52) dX12_cross_46 (by decide) ?_
          refine z_iast (pc := 52) hO isI_53 (by omega) dX12_cross_52 (fun m3 e4 => ?_)
          refine z_iinc (pc := 53) hO 4 (lv' := [(2, .int (zi (i + 1))), (4, .int (zi ((i % n) % 4))), (3, .int (zi ((i / n) % 4))), (0, .ref (gA g 50)), (1, .int (zi n))]) dX12_cross_53 rfl (by decide) rfl ?_
          refine z_goto (pc := 56) hO (tgt := 2) dX12_cross_56 (by decide) ?_
          refine z_sub [3, 4, 0] rfl ?_
          exact ih2 (i + 1) m3 (by omega) (by omega) (by intro p a b; subst m3; exact dite (p = i) (fun e => by rw [e, up_s]; unfold crs; rw [if_pos (by omega)]; first | (rw [if_pos (by omega)]; done) | (rw [if_neg (by omega)]; done)) (fun e => by rw [up_n _ _ (by omega)]; exact hA p a (by omega))) (by intro p a; subst m3; rw [up_n _ _ (by omega)]; exact hB p a) (by intro a ha; subst m3; rw [up_i _ _ _ ha]; exact hfr a ha)
        · refine z_iload_n (pc := 33) hO 1 dX12_cross_33 rfl rfl ?_
          refine z_iload (pc := 34) hO 0 dX12_cross_34 rfl ?_
          refine z_iadd (pc := 36) hO dX12_cross_36 ?_
          refine z_iconst (pc := 37) hO dX12_cross_37 ?_
          refine z_icmp_ne (pc := 38) hO (tgt := 49) dX12_cross_38 (by decide) (by omega) (by omega) (fun b5 => ?_) (fun b5 => ?_)
          · refine z_iload_n (pc := 49) hO 4 dX12_cross_49 rfl rfl ?_
            refine z_iconst (pc := 50) hO dX12_cross_50 ?_
            refine z_iadd (pc := 51) hO dX12_cross_51 ?_
            refine z_iast (pc := 52) hO isI_53 (by omega) dX12_cross_52 (fun m6 e7 => ?_)
            refine z_iinc (pc := 53) hO 4 (lv' := [(2, .int (zi (i + 1))), (4, .int (zi ((i % n) % 4))), (3, .int (zi ((i / n) % 4))), (0, .ref (gA g 50)), (1, .int (zi n))]) dX12_cross_53 rfl (by decide) rfl ?_
            refine z_goto (pc := 56) hO (tgt := 2) dX12_cross_56 (by decide) ?_
            refine z_sub [3, 4, 0] rfl ?_
            exact ih2 (i + 1) m6 (by omega) (by omega) (by intro p a b; subst m6; exact dite (p = i) (fun e => by rw [e, up_s]; unfold crs; rw [if_pos (by omega)]; first | (rw [if_pos (by omega)]; done) | (rw [if_neg (by omega)]; done)) (fun e => by rw [up_n _ _ (by omega)]; exact hA p a (by omega))) (by intro p a; subst m6; rw [up_n _ _ (by omega)]; exact hB p a) (by intro a ha; subst m6; rw [up_i _ _ _ ha]; exact hfr a ha)
          · refine z_iload_n (pc := 41) hO 3 dX12_cross_41 rfl rfl ?_
            refine z_iload_n (pc := 42) hO 3 dX12_cross_42 rfl rfl ?_
            refine z_imul (pc := 43) hO dX12_cross_43 ?_
            refine z_iload_n (pc := 44) hO 4 dX12_cross_44 rfl rfl ?_
            refine z_isub (pc := 45) hO dX12_cross_45 ?_
            refine z_goto (pc := 46) hO (tgt := 52) dX12_cross_46 (by decide) ?_
            refine z_iast (pc := 52) hO isI_53 (by omega) dX12_cross_52 (fun m8 e9 => ?_)
            refine z_iinc (pc := 53) hO 4 (lv' := [(2, .int (zi (i + 1))), (4, .int (zi ((i % n) % 4))), (3, .int (zi ((i / n) % 4))), (0, .ref (gA g 50)), (1, .int (zi n))]) dX12_cross_53 rfl (by decide) rfl ?_
            refine z_goto (pc := 56) hO (tgt := 2) dX12_cross_56 (by decide) ?_
            refine z_sub [3, 4, 0] rfl ?_
            exact ih2 (i + 1) m8 (by omega) (by omega) (by intro p a b; subst m8; exact dite (p = i) (fun e => by rw [e, up_s]; unfold crs; rw [if_pos (by omega)]; first | (rw [if_pos (by omega)]; done) | (rw [if_neg (by omega)]; done)) (fun e => by rw [up_n _ _ (by omega)]; exact hA p a (by omega))) (by intro p a; subst m8; rw [up_n _ _ (by omega)]; exact hB p a) (by intro a ha; subst m8; rw [up_i _ _ _ ha]; exact hfr a ha)
  refine z_sub [1, 2, 0] rfl ?_
  exact L2 _ 0 x (Nat.lt_succ_self _) (by omega) (by intro p a b; omega) (by intro p _; rfl) (by intro a _; rfl)

set_option maxHeartbeats 4000000 in
theorem c_X12_digits (l : Launch) (g : Gl) (x : Me) (n : Int)  (hn : 1 ≤ n ∧ n ≤ 9) : ctQ l g yX12_digits cX12_digits 5 none 1 20 [.ref (gA g 50), .int (zi n)] x (QVu g (fun x' => (∀ p, 0 ≤ p → p < n * n → x' 53 p = dig n p) ∧ (∀ p, ¬ (0 ≤ p ∧ p < n * n) → x' 53 p = x 53 p) ∧ ∀ a, a ≠ 53 → x' a = x a)) := by
  refine ct_start (own := RX12) (lv := [(0, .ref (gA g 50)), (1, .int (zi n))]) (plainFor_of_name (by decide)) rfl (Nat.le_of_ble_eq_true rfl) rfl ?_
  intro Γ hΓ hO hr hQ _
  have hsq := sq9 hn
  refine z_iconst (pc := 0) hO dX12_digits_0 ?_
  refine z_istore_n (pc := 1) hO (lv' := [(2, .int (zi 0)), (0, .ref (gA g 50)), (1, .int (zi n))]) dX12_digits_1 rfl (by decide) rfl ?_
  have L2 : ∀ (N : Nat) (i : Int) (y : Me), (n * n - i).toNat < N → (0 ≤ i ∧ i ≤ n * n) → (∀ p, 0 ≤ p → p < i → y 53 p = dig n p) → (∀ p, ¬ (0 ≤ p ∧ p < n * n) → y 53 p = x 53 p) → (∀ a, a ≠ 53 → y a = x a) → Zz Γ g 5 0 0 y 2 [(0, .ref (gA g 50)), (1, .int (zi n)), (2, .int (zi i))] [] := by
    intro N
    induction N with
    | zero => intro i y hm; exact absurd hm (Nat.not_lt_zero _)
    | succ N ih2 =>
      intro i y hm h0 hA hB hfr
      refine z_iload_n (pc := 2) hO 2 dX12_digits_2 rfl rfl ?_
      refine z_iload_n (pc := 3) hO 1 dX12_digits_3 rfl rfl ?_
      refine z_iload_n (pc := 4) hO 1 dX12_digits_4 rfl rfl ?_
      refine z_imul (pc := 5) hO dX12_digits_5 ?_
      refine z_icmp_ge (pc := 6) hO (tgt := 51) dX12_digits_6 (by decide) (by omega) (by omega) (fun b1 => ?_) (fun b1 => ?_)
      · exact z_vret (pc := 51) hO hr hQ dX12_digits_51 (by first | (exact ⟨fun p a b => hA p a (by omega), hB, hfr⟩; done) | (exfalso; omega))
      · have hd := rc9 hn (p := i) (by omega)
        have m1 := Int.emod_nonneg (i / n + 2 * (i % n)) (show n ≠ 0 by omega)
        have m2 := Int.emod_lt_of_pos (i / n + 2 * (i % n)) (show 0 < n by omega)
        have m3 := Int.emod_nonneg (2 * (i / n) + i % n) (show n ≠ 0 by omega)
        have m4 := Int.emod_lt_of_pos (2 * (i / n) + i % n) (show 0 < n by omega)
        refine z_iload_n (pc := 9) hO 2 dX12_digits_9 rfl rfl ?_
        refine z_iload_n (pc := 10) hO 1 dX12_digits_10 rfl rfl ?_
        refine z_idiv (pc := 11) hO dX12_digits_11 (by omega) (by omega) ?_
        refine z_istore_n (pc := 12) hO (lv' := [(3, .int (zi (i / n))), (0, .ref (gA g 50)), (1, .int (zi n)), (2, .int (zi i))]) dX12_digits_12 rfl (by decide) rfl ?_
        refine z_iload_n (pc := 13) hO 3 dX12_digits_13 rfl rfl ?_
        refine z_iload_n (pc := 14) hO 2 dX12_digits_14 rfl rfl ?_
        refine z_irem (pc := 15) hO dX12_digits_15 (by omega) (by omega) ?_
        refine z_istore (pc := 16) hO (lv' := [(4, .int (zi (i % n))), (3, .int (zi (i / n))), (0, .ref (gA g 50)), (1, .int (zi n)), (2, .int (zi i))]) dX12_digits_16 (by decide) rfl ?_
        refine z_aload_n (pc := 18) hO 2 dX12_digits_18 rfl rfl ?_
        refine gf_X12_made (pc := 19) hO f_X12_16 dX12_digits_19 ?_
        refine z_iload_n (pc := 22) hO 4 dX12_digits_22 rfl rfl ?_
        refine z_iload_n (pc := 23) hO 3 dX12_digits_23 rfl rfl ?_
        refine z_iload_n (pc := 24) hO 1 dX12_digits_24 rfl rfl ?_
        refine z_iconst (pc := 25) hO dX12_digits_25 ?_
        refine z_iload (pc := 26) hO 0 dX12_digits_26 rfl ?_
        refine z_imul (pc := 28) hO dX12_digits_28 ?_
        refine z_iadd (pc := 29) hO dX12_digits_29 ?_
        refine z_iload_n (pc := 30) hO 3 dX12_digits_30 rfl rfl ?_
        refine z_irem (pc := 31) hO dX12_digits_31 (by omega) (by omega) ?_
        refine z_imul (pc := 32) hO dX12_digits_32 ?_
        refine z_iconst (pc := 33) hO dX12_digits_33 ?_
        refine z_iload_n (pc := 34) hO 1 dX12_digits_34 rfl rfl ?_
        refine z_imul (pc := 35) hO dX12_digits_35 ?_
        refine z_iload (pc := 36) hO 0 dX12_digits_36 rfl ?_
        refine z_iadd (pc := 38) hO dX12_digits_38 ?_
        refine z_iload_n (pc := 39) hO 3 dX12_digits_39 rfl rfl ?_
        refine z_irem (pc := 40) hO dX12_digits_40 (by omega) (by omega) ?_
        refine z_iadd (pc := 41) hO dX12_digits_41 ?_
        refine z_iconst (pc := 42) hO dX12_digits_42 ?_
        refine z_iadd (pc := 43) hO dX12_digits_43 ?_
        refine z_iast (pc := 44) hO isI_53 (by omega) dX12_digits_44 (fun m2 e3 => ?_)
        refine z_iinc (pc := 45) hO 4 (lv' := [(2, .int (zi (i + 1))), (4, .int (zi (i % n))), (3, .int (zi (i / n))), (0, .ref (gA g 50)), (1, .int (zi n))]) dX12_digits_45 rfl (by decide) rfl ?_
        refine z_goto (pc := 48) hO (tgt := 2) dX12_digits_48 (by decide) ?_
        refine z_sub [3, 4, 0] rfl ?_
        exact ih2 (i + 1) m2 (by omega) (by omega) (by intro p a b; subst m2; exact dite (p = i) (fun e => by rw [e, up_s]; unfold dig; rw [if_pos (by omega)]) (fun e => by rw [up_n _ _ (by omega)]; exact hA p a (by omega))) (by intro p a; subst m2; rw [up_n _ _ (by omega)]; exact hB p a) (by intro a ha; subst m2; rw [up_i _ _ _ ha]; exact hfr a ha)
  refine z_sub [1, 2, 0] rfl ?_
  exact L2 _ 0 x (Nat.lt_succ_self _) (by omega) (by intro p a b; omega) (by intro p _; rfl) (by intro a _; rfl)

