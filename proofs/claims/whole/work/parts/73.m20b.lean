set_option maxHeartbeats 4000000 in
theorem c_X12_lay (l : Launch) (g : Gl) (x : Me) (s : Int)  (hM : MS x) (h8 : x 50 1 < 8) (hs : 1 ≤ s ∧ s ≤ 9) : ctQ l g yX12_lay cX12_lay 3 (some .int) 1 20 [.ref (gA g 50), .int (zi s)] x (QIu g (fun z x' => z = x 50 1 ∧ LY x x' s)) := by
  refine ct_start (own := RX12) (lv := [(0, .ref (gA g 50)), (1, .int (zi s))]) (plainFor_of_name (by decide)) rfl (Nat.le_of_ble_eq_true rfl) rfl ?_
  intro Γ hΓ hO hr hQ _
  have hM1 := hM.1
  have hsq := sq9 hs
  refine z_aload_n (pc := 0) hO 0 dX12_lay_0 rfl rfl ?_
  refine gf_X12_sideOf (pc := 1) hO f_X12_7 dX12_lay_1 ?_
  refine z_aload_n (pc := 4) hO 0 dX12_lay_4 rfl rfl ?_
  refine gf_X12_squares (pc := 5) hO f_X12_52 dX12_lay_5 ?_
  refine z_iload_n (pc := 8) hO 1 dX12_lay_8 rfl rfl ?_
  refine z_iast (pc := 9) hO isI_51 (by omega) dX12_lay_9 (fun m1 e2 => ?_)
  have hy0 := e2
  refine z_iconst (pc := 10) hO dX12_lay_10 ?_
  refine z_istore_n (pc := 11) hO (lv' := [(2, .int (zi 0)), (0, .ref (gA g 50)), (1, .int (zi s))]) dX12_lay_11 rfl (by decide) rfl ?_
  have L12 : ∀ (N : Nat) (i : Int) (y : Me), (81 - i).toNat < N → (0 ≤ i ∧ i ≤ 81) → (y 50 = x 50) → (y 51 (x 50 1) = s ∧ ∀ q, q ≠ x 50 1 → y 51 q = x 51 q) → (∀ j, 0 ≤ j → j < i → y 52 (81 * x 50 1 + j) = if j < s * s then x 53 j else 0) → (∀ k, ¬ (81 * x 50 1 ≤ k ∧ k < 81 * x 50 1 + 81) → y 52 k = x 52 k) → (∀ a, a ≠ 51 → a ≠ 52 → y a = x a) → Zz Γ g 3 0 0 y 12 [(0, .ref (gA g 50)), (1, .int (zi s)), (2, .int (zi i))] [] := by
    intro N
    induction N with
    | zero => intro i y hm; exact absurd hm (Nat.not_lt_zero _)
    | succ N ih12 =>
      intro i y hm h0 h5 h51 hA hB hfr
      have h51y : y 50 1 = x 50 1 := by rw [h5]
      refine z_iload_n (pc := 12) hO 2 dX12_lay_12 rfl rfl ?_
      refine z_bipush (pc := 13) hO dX12_lay_13 (by decide) ?_
      refine z_icmp_ge (pc := 15) hO (tgt := 55) dX12_lay_15 (by decide) (by omega) (by omega) (fun b3 => ?_) (fun b3 => ?_)
      · refine z_aload_n (pc := 55) hO 0 dX12_lay_55 rfl rfl ?_
        refine z_dup (pc := 56) hO dX12_lay_56 rfl ?_
        refine gf_X12_squares (pc := 57) hO f_X12_52 dX12_lay_57 ?_
        refine z_iconst (pc := 60) hO dX12_lay_60 ?_
        refine z_iadd (pc := 61) hO dX12_lay_61 ?_
        refine pf_X12_squares (pc := 62) hO f_X12_52 dX12_lay_62 (fun m4 e5 => ?_)
        have hy9 := e5
        refine z_aload_n (pc := 65) hO 0 dX12_lay_65 rfl rfl ?_
        refine gf_X12_squares (pc := 66) hO f_X12_52 dX12_lay_66 ?_
        refine z_iconst (pc := 69) hO dX12_lay_69 ?_
        refine z_isub (pc := 70) hO dX12_lay_70 ?_
        exact z_iret (pc := 71) hO hr hQ rfl dX12_lay_71 (by first | (rw [hy9]; refine ⟨by rw [up_s]; omega, by rw [up_s]; omega, by rw [up_i _ _ _ (by omega)]; exact h51.1, fun j a b => by rw [up_i _ _ _ (by omega)]; exact hA j a (by omega), fun q hq => by rw [up_i _ _ _ (by omega)]; exact h51.2 q hq, fun k hk => by rw [up_i _ _ _ (by omega)]; exact hB k hk, fun b hb => by rw [up_n _ _ (by omega), h5], fun a a1 a2 a3 => by rw [up_i _ _ _ (by omega)]; exact hfr a a2 a3⟩; done) | (exfalso; omega))
      · refine z_aload_n (pc := 18) hO 0 dX12_lay_18 rfl rfl ?_
        refine gf_X12_numbers (pc := 19) hO f_X12_13 dX12_lay_19 ?_
        refine z_bipush (pc := 22) hO dX12_lay_22 (by decide) ?_
        refine z_aload_n (pc := 24) hO 0 dX12_lay_24 rfl rfl ?_
        refine gf_X12_squares (pc := 25) hO f_X12_52 dX12_lay_25 ?_
        refine z_imul (pc := 28) hO dX12_lay_28 ?_
        refine z_iload_n (pc := 29) hO 2 dX12_lay_29 rfl rfl ?_
        refine z_iadd (pc := 30) hO dX12_lay_30 ?_
        refine z_iload_n (pc := 31) hO 2 dX12_lay_31 rfl rfl ?_
        refine z_iload_n (pc := 32) hO 1 dX12_lay_32 rfl rfl ?_
        refine z_iload_n (pc := 33) hO 1 dX12_lay_33 rfl rfl ?_
        refine z_imul (pc := 34) hO dX12_lay_34 ?_
        refine z_icmp_ge (pc := 35) hO (tgt := 47) dX12_lay_35 (by decide) (by omega) (by omega) (fun b6 => ?_) (fun b6 => ?_)
        · refine z_iconst (pc := 47) hO dX12_lay_47 ?_
          refine z_iast (pc := 48) hO isI_52 (by omega) dX12_lay_48 (fun m7 e8 => ?_)
          refine z_iinc (pc := 49) hO 2 (lv' := [(2, .int (zi (i + 1))), (0, .ref (gA g 50)), (1, .int (zi s))]) dX12_lay_49 rfl (by decide) rfl ?_
          refine z_goto (pc := 52) hO (tgt := 12) dX12_lay_52 (by decide) ?_
          refine z_sub [1, 2, 0] rfl ?_
          exact ih12 (i + 1) m7 (by omega) (by omega) (by subst m7; rw [up_i _ _ _ (by omega)]; exact h5) (by subst m7; rw [up_i _ _ _ (by omega)]; exact h51) (by intro j a b; subst m7; exact dite (j = i) (fun e => by rw [e, h5, up_s]; first | (rw [if_pos (by omega), hfr 53 (by omega) (by omega)]; done) | (rw [if_neg (by omega)]; done)) (fun e => by rw [h5, up_n _ _ (by omega)]; exact hA j a (by omega))) (by intro k a; subst m7; rw [h5, up_n _ _ (by omega)]; exact hB k a) (by intro a h1 h2; subst m7; rw [up_i _ _ _ (by omega)]; exact hfr a h1 h2)
        · refine z_aload_n (pc := 38) hO 0 dX12_lay_38 rfl rfl ?_
          refine gf_X12_made (pc := 39) hO f_X12_16 dX12_lay_39 ?_
          refine z_iload_n (pc := 42) hO 2 dX12_lay_42 rfl rfl ?_
          refine z_iald (pc := 43) hO isI_53 (by omega) dX12_lay_43 ?_
          refine z_goto (pc := 44) hO (tgt := 48) dX12_lay_44 (by decide) ?_
          refine z_iast (pc := 48) hO isI_52 (by omega) dX12_lay_48 (fun m9 e10 => ?_)
          refine z_iinc (pc := 49) hO 2 (lv' := [(2, .int (zi (i + 1))), (0, .ref (gA g 50)), (1, .int (zi s))]) dX12_lay_49 rfl (by decide) rfl ?_
          refine z_goto (pc := 52) hO (tgt := 12) dX12_lay_52 (by decide) ?_
          refine z_sub [1, 2, 0] rfl ?_
          exact ih12 (i + 1) m9 (by omega) (by omega) (by subst m9; rw [up_i _ _ _ (by omega)]; exact h5) (by subst m9; rw [up_i _ _ _ (by omega)]; exact h51) (by intro j a b; subst m9; exact dite (j = i) (fun e => by rw [e, h5, up_s]; first | (rw [if_pos (by omega), hfr 53 (by omega) (by omega)]; done) | (rw [if_neg (by omega)]; done)) (fun e => by rw [h5, up_n _ _ (by omega)]; exact hA j a (by omega))) (by intro k a; subst m9; rw [h5, up_n _ _ (by omega)]; exact hB k a) (by intro a h1 h2; subst m9; rw [up_i _ _ _ (by omega)]; exact hfr a h1 h2)
  refine z_sub [1, 2, 0] rfl ?_
  exact L12 _ 0 m1 (Nat.lt_succ_self _) (by omega) (by rw [hy0, up_i _ _ _ (by omega)]) (by exact ⟨by rw [hy0, up_s], fun q hq => by rw [hy0, up_n _ _ (by omega)]⟩) (by intro j a b; omega) (by intro k _; rw [hy0, up_i _ _ _ (by omega)]) (by intro a h1 h2; rw [hy0, up_i _ _ _ (by omega)])

