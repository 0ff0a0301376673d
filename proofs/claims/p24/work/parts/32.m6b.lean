set_option maxHeartbeats 600000 in
theorem c_X5_layCross (l : Launch) (g : Gl) (x : Me) (q : Nat)  (hq : q < 9) (hs : 1 ≤ x (10 + q) 1 ∧ x (10 + q) 1 ≤ 9) (hz : ∀ p, 0 ≤ p → p < 81 → x (20 + q) p = 0) : ctQ l g yX5_layCross cX5_layCross 6 none 2 43 [.ref (gA g (10 + q))] x (QVu g (fun x' => nc x' q = crs (x (10 + q) 1) ∧ ∀ a, a ≠ 20 + q → x' a = x a)) := by
  refine ct_start (own := RX5) (lv := [(0, .ref (gA g (10 + q)))]) (plainFor_of_name (by decide)) rfl (Nat.le_of_ble_eq_true rfl) rfl ?_
  intro Γ hΓ hO hr hQ _
  have h9 := sq9 hs
  refine z_aload_n (pc := 0) hO 0 dX5_layCross_0 rfl rfl ?_
  refine z_callVIp (pc := 1) hO (As := []) (st := []) (c_X1_side (qL Γ) g x q (by first | assumption | omega)) k_X5_25 (isO_fig (by omega : q < 9)) rfl (Nat.le_of_ble_eq_true rfl) (by decide) (by decide) ⟨by decide, by decide⟩ dX5_layCross_1 ?_
  refine z_istore_n (pc := 4) hO (lv' := [(1, .int (zi (x (10 + q) 1))), (0, .ref (gA g (10 + q)))]) dX5_layCross_4 rfl (by decide) rfl ?_
  refine z_iconst (pc := 5) hO dX5_layCross_5 ?_
  refine z_istore_n (pc := 6) hO (lv' := [(2, .int (zi 0)), (1, .int (zi (x (10 + q) 1))), (0, .ref (gA g (10 + q)))]) dX5_layCross_6 rfl (by decide) rfl ?_
  have L7 : ∀ (N : Nat) (i : Int) (y : Me), (x (10 + q) 1 * x (10 + q) 1 - i).toNat < N → (0 ≤ i ∧ i ≤ x (10 + q) 1 * x (10 + q) 1) → (∀ p, i ≤ p → p < 81 → y (20 + q) p = 0) → (∀ p, 0 ≤ p → p < i → y (20 + q) p = crs (x (10 + q) 1) p) → (∀ a, a ≠ 20 + q → y a = x a) → Zz Γ g 6 0 0 y 7 [(0, .ref (gA g (10 + q))), (1, .int (zi (x (10 + q) 1))), (2, .int (zi i))] [] := by
    intro N
    induction N with
    | zero => intro i y hm; exact absurd hm (Nat.not_lt_zero _)
    | succ N ih7 =>
      intro i y hm h0 k3 k4 k5
      have k2 := k5 (10 + q) (by omega)
      have hy : y (10 + q) 1 = x (10 + q) 1 := by rw [k2]
      have hyy : y (10 + q) 1 * y (10 + q) 1 = x (10 + q) 1 * x (10 + q) 1 := by rw [hy]
      refine z_iload_n (pc := 7) hO 2 dX5_layCross_7 rfl rfl ?_
      refine z_aload_n (pc := 8) hO 0 dX5_layCross_8 rfl rfl ?_
      refine z_callVIp (pc := 9) hO (As := []) (st := [.int (zi i)]) (c_X1_size (qL Γ) g y q (by first | assumption | omega)) k_X5_31 (isO_fig (by omega : q < 9)) rfl (Nat.le_of_ble_eq_true rfl) (by decide) (by decide) ⟨by decide, by decide⟩ dX5_layCross_9 ?_
      refine z_icmp_ge (pc := 12) hO (tgt := 82) dX5_layCross_12 (by decide) (by omega) (by omega) (fun b1 => ?_) (fun b1 => ?_)
      · exact z_vret (pc := 82) hO hr hQ dX5_layCross_82 (by first | (refine ⟨nc_eq (fun p a0 a1 => ?_) (fun p a0 => ?_), k5⟩; (by_cases hp : p < x (10 + q) 1 * x (10 + q) 1; (exact k4 p a0 (by omega)); (unfold crs; rw [if_neg (by omega)]; exact k3 p (by omega) a1)); (unfold crs; rw [if_neg (by omega)]); done) | (exfalso; omega))
      · have hv : crs (x (10 + q) 1) i = if i / x (10 + q) 1 % 4 = i % x (10 + q) 1 % 4 ∨ i / x (10 + q) 1 % 4 + i % x (10 + q) 1 % 4 = 3 then x (10 + q) 1 * x (10 + q) 1 - i else i + 1 := if_pos (by omega)
        have hrc := rc9 hs (p := i) (by omega)
        refine z_iload_n (pc := 15) hO 1 dX5_layCross_15 rfl rfl ?_
        refine z_iload_n (pc := 16) hO 2 dX5_layCross_16 rfl rfl ?_
        refine z_callSIp (pc := 17) hO (As := [.int (zi (x (10 + q) 1)), .int (zi i)]) (st := []) (c_X7_rowOf (qL Γ) g y (x (10 + q) 1) i (by first | assumption | omega) (by first | assumption | omega)) k_X5_50 rfl (Nat.le_of_ble_eq_true rfl) (by decide) (by decide) ⟨by decide, by decide⟩ dX5_layCross_17 ?_
        refine z_iconst (pc := 20) hO dX5_layCross_20 ?_
        refine z_irem (pc := 21) hO dX5_layCross_21 (by omega) (by omega) ?_
        refine z_istore_n (pc := 22) hO (lv' := [(3, .int (zi ((i / (x (10 + q) 1)) % 4))), (0, .ref (gA g (10 + q))), (1, .int (zi (x (10 + q) 1))), (2, .int (zi i))]) dX5_layCross_22 rfl (by decide) rfl ?_
        refine z_iload_n (pc := 23) hO 2 dX5_layCross_23 rfl rfl ?_
        refine z_iload_n (pc := 24) hO 3 dX5_layCross_24 rfl rfl ?_
        refine z_callSIp (pc := 25) hO (As := [.int (zi (x (10 + q) 1)), .int (zi i)]) (st := []) (c_X7_columnOf (qL Γ) g y (x (10 + q) 1) i (by first | assumption | omega) (by first | assumption | omega)) k_X5_53 rfl (Nat.le_of_ble_eq_true rfl) (by decide) (by decide) ⟨by decide, by decide⟩ dX5_layCross_25 ?_
        refine z_iconst (pc := 28) hO dX5_layCross_28 ?_
        refine z_irem (pc := 29) hO dX5_layCross_29 (by omega) (by omega) ?_
        refine z_istore (pc := 30) hO (lv' := [(4, .int (zi ((i % (x (10 + q) 1)) % 4))), (3, .int (zi ((i / (x (10 + q) 1)) % 4))), (0, .ref (gA g (10 + q))), (1, .int (zi (x (10 + q) 1))), (2, .int (zi i))]) dX5_layCross_30 (by decide) rfl ?_
        refine z_iload_n (pc := 32) hO 1 dX5_layCross_32 rfl rfl ?_
        refine z_iload (pc := 33) hO 0 dX5_layCross_33 rfl ?_
        refine z_icmp_eq (pc := 35) hO (tgt := 46) dX5_layCross_35 (by decide) (by omega) (by omega) (fun b2 => ?_) (fun b2 => ?_)
        · refine z_iconst (pc := 46) hO dX5_layCross_46 ?_
          refine z_goto (pc := 47) hO (tgt := 51) dX5_layCross_47 (by decide) ?_
          refine z_istore (pc := 51) hO (lv' := [(5, .int (zi 1)), (4, .int (zi ((i % (x (10 + q) 1)) % 4))), (3, .int (zi ((i / (x (10 + q) 1)) % 4))), (0, .ref (gA g (10 + q))), (1, .int (zi (x (10 + q) 1))), (2, .int (zi i))]) dX5_layCross_51 (by decide) rfl ?_
          refine z_aload_n (pc := 53) hO 3 dX5_layCross_53 rfl rfl ?_
          refine z_iload_n (pc := 54) hO 5 dX5_layCross_54 rfl rfl ?_
          refine z_iload (pc := 55) hO 0 dX5_layCross_55 rfl ?_
          refine z_if_eq (pc := 57) hO (tgt := 69) dX5_layCross_57 (by decide) (by decide) (fun h => absurd h (by decide)) (fun _ => ?_)
          refine z_aload_n (pc := 60) hO 3 dX5_layCross_60 rfl rfl ?_
          refine z_callVIp (pc := 61) hO (As := []) (st := [.int (zi i), .ref (gA g (10 + q))]) (c_X1_size (qL Γ) g y q (by first | assumption | omega)) k_X5_31 (isO_fig (by omega : q < 9)) rfl (Nat.le_of_ble_eq_true rfl) (by decide) (by decide) ⟨by decide, by decide⟩ dX5_layCross_61 ?_
          refine z_iload_n (pc := 64) hO 5 dX5_layCross_64 rfl rfl ?_
          refine z_isub (pc := 65) hO dX5_layCross_65 ?_
          refine z_goto (pc := 66) hO (tgt := 72) dX5_layCross_66 (by decide) ?_
          have hv2 : crs (x (10 + q) 1) i = ((y (10 + q) 1 * y (10 + q) 1) - i) := by
              rw [hv]
              first
                | (rw [if_pos (by omega)]; omega)
                | (rw [if_neg (by omega)])
          refine z_callVIm (pc := 72) hO (As := [.int (zi i), .int (zi ((y (10 + q) 1 * y (10 + q) 1) - i))]) (st := []) (c_X1_write (qL Γ) g y q i ((y (10 + q) 1 * y (10 + q) 1) - i) (by first | assumption | omega) (by first | assumption | omega)) k_X5_38 (isO_fig (by omega : q < 9)) rfl (Nat.le_of_ble_eq_true rfl) (by decide) (by decide) ⟨by decide, by decide⟩ dX5_layCross_72 (fun m3 e4 => ?_)
          refine z_pop (pc := 75) hO dX5_layCross_75 rfl ?_
          refine z_iinc (pc := 76) hO 5 (lv' := [(2, .int (zi (i + 1))), (5, .int (zi 1)), (4, .int (zi ((i % (x (10 + q) 1)) % 4))), (3, .int (zi ((i / (x (10 + q) 1)) % 4))), (0, .ref (gA g (10 + q))), (1, .int (zi (x (10 + q) 1)))]) dX5_layCross_76 rfl (by decide) rfl ?_
          refine z_goto (pc := 79) hO (tgt := 7) dX5_layCross_79 (by decide) ?_
          refine z_sub [4, 5, 0] rfl ?_
          exact ih7 (i + 1) m3 (by omega) (by omega) (by intro p a0 a1; subst m3; rw [up_n _ _ (by omega)]; exact k3 p (by omega) a1) (by intro p a0 a1; subst m3; by_cases hp : p = i; (subst hp; rw [up_s]; exact hv2.symm); (rw [up_n _ _ (by omega)]; exact k4 p a0 (by omega))) (by intro a a1; subst m3; rw [up_i _ _ _ a1]; exact k5 a a1)
        · refine z_iload_n (pc := 38) hO 1 dX5_layCross_38 rfl rfl ?_
          refine z_iload (pc := 39) hO 0 dX5_layCross_39 rfl ?_
          refine z_iadd (pc := 41) hO dX5_layCross_41 ?_
          refine z_iconst (pc := 42) hO dX5_layCross_42 ?_
          refine z_icmp_ne (pc := 43) hO (tgt := 50) dX5_layCross_43 (by decide) (by omega) (by omega) (fun b5 => ?_) (fun b5 => ?_)
          · refine z_iconst (pc := 50) hO dX5_layCross_50 ?_
            refine z_istore (pc := 51) hO (lv' := [(5, .int (zi 0)), (4, .int (zi ((i % (x (10 + q) 1)) % 4))), (3, .int (zi ((i / (x (10 + q) 1)) % 4))), (0, .ref (gA g (10 + q))), (1, .int (zi (x (10 + q) 1))), (2, .int (zi i))]) dX5_layCross_51 (by decide) rfl ?_
            refine z_aload_n (pc := 53) hO 3 dX5_layCross_53 rfl rfl ?_
            refine z_iload_n (pc := 54) hO 5 dX5_layCross_54 rfl rfl ?_
            refine z_iload (pc := 55) hO 0 dX5_layCross_55 rfl ?_
            refine z_if_eq (pc := 57) hO (tgt := 69) dX5_layCross_57 (by decide) (by decide) (fun _ => ?_) (fun h => absurd h (by decide))
            refine z_iload_n (pc := 69) hO 5 dX5_layCross_69 rfl rfl ?_
            refine z_iconst (pc := 70) hO dX5_layCross_70 ?_
            refine z_iadd (pc := 71) hO dX5_layCross_71 ?_
            have hv2 : crs (x (10 + q) 1) i = (i + 1) := by
                rw [hv]
                first
                  | (rw [if_pos (by omega)]; omega)
                  | (rw [if_neg (by omega)])
            refine z_callVIm (pc := 72) hO (As := [.int (zi i), .int (zi (i + 1))]) (st := []) (c_X1_write (qL Γ) g y q i (i + 1) (by first | assumption | omega) (by first | assumption | omega)) k_X5_38 (isO_fig (by omega : q < 9)) rfl (Nat.le_of_ble_eq_true rfl) (by decide) (by decide) ⟨by decide, by decide⟩ dX5_layCross_72 (fun m6 e7 => ?_)
            refine z_pop (pc := 75) hO dX5_layCross_75 rfl ?_
            refine z_iinc (pc := 76) hO 5 (lv' := [(2, .int (zi (i + 1))), (5, .int (zi 0)), (4, .int (zi ((i % (x (10 + q) 1)) % 4))), (3, .int (zi ((i / (x (10 + q) 1)) % 4))), (0, .ref (gA g (10 + q))), (1, .int (zi (x (10 + q) 1)))]) dX5_layCross_76 rfl (by decide) rfl ?_
            refine z_goto (pc := 79) hO (tgt := 7) dX5_layCross_79 (by decide) ?_
            refine z_sub [4, 5, 0] rfl ?_
            exact ih7 (i + 1) m6 (by omega) (by omega) (by intro p a0 a1; subst m6; rw [up_n _ _ (by omega)]; exact k3 p (by omega) a1) (by intro p a0 a1; subst m6; by_cases hp : p = i; (subst hp; rw [up_s]; exact hv2.symm); (rw [up_n _ _ (by omega)]; exact k4 p a0 (by omega))) (by intro a a1; subst m6; rw [up_i _ _ _ a1]; exact k5 a a1)
          · refine z_iconst (pc := 46) hO dX5_layCross_46 ?_
            refine z_goto (pc := 47) hO (tgt := 51) dX5_layCross_47 (by decide) ?_
            refine z_istore (pc := 51) hO (lv' := [(5, .int (zi 1)), (4, .int (zi ((i % (x (10 + q) 1)) % 4))), (3, .int (zi ((i / (x (10 + q) 1)) % 4))), (0, .ref (gA g (10 + q))), (1, .int (zi (x (10 + q) 1))), (2, .int (zi i))]) dX5_layCross_51 (by decide) rfl ?_
            refine z_aload_n (pc := 53) hO 3 dX5_layCross_53 rfl rfl ?_
            refine z_iload_n (pc := 54) hO 5 dX5_layCross_54 rfl rfl ?_
            refine z_iload (pc := 55) hO 0 dX5_layCross_55 rfl ?_
            refine z_if_eq (pc := 57) hO (tgt := 69) dX5_layCross_57 (by decide) (by decide) (fun h => absurd h (by decide)) (fun _ => ?_)
            refine z_aload_n (pc := 60) hO 3 dX5_layCross_60 rfl rfl ?_
            refine z_callVIp (pc := 61) hO (As := []) (st := [.int (zi i), .ref (gA g (10 + q))]) (c_X1_size (qL Γ) g y q (by first | assumption | omega)) k_X5_31 (isO_fig (by omega : q < 9)) rfl (Nat.le_of_ble_eq_true rfl) (by decide) (by decide) ⟨by decide, by decide⟩ dX5_layCross_61 ?_
            refine z_iload_n (pc := 64) hO 5 dX5_layCross_64 rfl rfl ?_
            refine z_isub (pc := 65) hO dX5_layCross_65 ?_
            refine z_goto (pc := 66) hO (tgt := 72) dX5_layCross_66 (by decide) ?_
            have hv2 : crs (x (10 + q) 1) i = ((y (10 + q) 1 * y (10 + q) 1) - i) := by
                rw [hv]
                first
                  | (rw [if_pos (by omega)]; omega)
                  | (rw [if_neg (by omega)])
            refine z_callVIm (pc := 72) hO (As := [.int (zi i), .int (zi ((y (10 + q) 1 * y (10 + q) 1) - i))]) (st := []) (c_X1_write (qL Γ) g y q i ((y (10 + q) 1 * y (10 + q) 1) - i) (by first | assumption | omega) (by first | assumption | omega)) k_X5_38 (isO_fig (by omega : q < 9)) rfl (Nat.le_of_ble_eq_true rfl) (by decide) (by decide) ⟨by decide, by decide⟩ dX5_layCross_72 (fun m8 e9 => ?_)
            refine z_pop (pc := 75) hO dX5_layCross_75 rfl ?_
            refine z_iinc (pc := 76) hO 5 (lv' := [(2, .int (zi (i + 1))), (5, .int (zi 1)), (4, .int (zi ((i % (x (10 + q) 1)) % 4))), (3, .int (zi ((i / (x (10 + q) 1)) % 4))), (0, .ref (gA g (10 + q))), (1, .int (zi (x (10 + q) 1)))]) dX5_layCross_76 rfl (by decide) rfl ?_
            refine z_goto (pc := 79) hO (tgt := 7) dX5_layCross_79 (by decide) ?_
            refine z_sub [4, 5, 0] rfl ?_
            exact ih7 (i + 1) m8 (by omega) (by omega) (by intro p a0 a1; subst m8; rw [up_n _ _ (by omega)]; exact k3 p (by omega) a1) (by intro p a0 a1; subst m8; by_cases hp : p = i; (subst hp; rw [up_s]; exact hv2.symm); (rw [up_n _ _ (by omega)]; exact k4 p a0 (by omega))) (by intro a a1; subst m8; rw [up_i _ _ _ a1]; exact k5 a a1)
  refine z_sub [2, 1, 0] rfl ?_
  exact L7 _ 0 x (Nat.lt_succ_self _) (by omega) (by intro p _ _; exact hz p (by omega) (by omega)) (by intro p _ _; omega) (by intro a _; rfl)

set_option maxHeartbeats 600000 in
theorem c_X5_layDigits (l : Launch) (g : Gl) (x : Me) (q : Nat)  (hq : q < 9) (hs : 1 ≤ x (10 + q) 1 ∧ x (10 + q) 1 ≤ 9) (hz : ∀ p, 0 ≤ p → p < 81 → x (20 + q) p = 0) : ctQ l g yX5_layDigits cX5_layDigits 6 none 3 64 [.ref (gA g (10 + q))] x (QVu g (fun x' => nc x' q = dig (x (10 + q) 1) ∧ ∀ a, a ≠ 20 + q → x' a = x a)) := by
  refine ct_start (own := RX5) (lv := [(0, .ref (gA g (10 + q)))]) (plainFor_of_name (by decide)) rfl (Nat.le_of_ble_eq_true rfl) rfl ?_
  intro Γ hΓ hO hr hQ _
  have h9 := sq9 hs
  refine z_aload_n (pc := 0) hO 0 dX5_layDigits_0 rfl rfl ?_
  refine z_callVIp (pc := 1) hO (As := []) (st := []) (c_X1_side (qL Γ) g x q (by first | assumption | omega)) k_X5_25 (isO_fig (by omega : q < 9)) rfl (Nat.le_of_ble_eq_true rfl) (by decide) (by decide) ⟨by decide, by decide⟩ dX5_layDigits_1 ?_
  refine z_istore_n (pc := 4) hO (lv' := [(1, .int (zi (x (10 + q) 1))), (0, .ref (gA g (10 + q)))]) dX5_layDigits_4 rfl (by decide) rfl ?_
  refine z_iconst (pc := 5) hO dX5_layDigits_5 ?_
  refine z_istore_n (pc := 6) hO (lv' := [(2, .int (zi 0)), (1, .int (zi (x (10 + q) 1))), (0, .ref (gA g (10 + q)))]) dX5_layDigits_6 rfl (by decide) rfl ?_
  have L7 : ∀ (N : Nat) (r : Int) (y : Me), (x (10 + q) 1 - r).toNat < N → (0 ≤ r ∧ r ≤ x (10 + q) 1) → (∀ p, x (10 + q) 1 * r ≤ p → p < 81 → y (20 + q) p = 0) → (∀ p, 0 ≤ p → p < x (10 + q) 1 * r → y (20 + q) p = dig (x (10 + q) 1) p) → (∀ a, a ≠ 20 + q → y a = x a) → Zz Γ g 6 0 0 y 7 [(0, .ref (gA g (10 + q))), (1, .int (zi (x (10 + q) 1))), (2, .int (zi r))] [] := by
    intro N
    induction N with
    | zero => intro r y hm; exact absurd hm (Nat.not_lt_zero _)
    | succ N ih7 =>
      intro r y hm h0 k3 k4 k5
      refine z_iload_n (pc := 7) hO 2 dX5_layDigits_7 rfl rfl ?_
      refine z_iload_n (pc := 8) hO 1 dX5_layDigits_8 rfl rfl ?_
      refine z_icmp_ge (pc := 9) hO (tgt := 73) dX5_layDigits_9 (by decide) (by omega) (by omega) (fun b1 => ?_) (fun b1 => ?_)
      · exact z_vret (pc := 73) hO hr hQ dX5_layDigits_73 (by first | (refine ⟨nc_eq (fun p a0 a1 => ?_) (fun p a0 => ?_), k5⟩; (rw [show r = x (10 + q) 1 by omega] at k3 k4; by_cases hp : p < x (10 + q) 1 * x (10 + q) 1; (exact k4 p a0 (by omega)); (unfold dig; rw [if_neg (by omega)]; exact k3 p (by omega) a1)); (unfold dig; rw [if_neg (by omega)]); done) | (exfalso; omega))
      · refine z_iconst (pc := 12) hO dX5_layDigits_12 ?_
        refine z_istore_n (pc := 13) hO (lv' := [(3, .int (zi 0)), (0, .ref (gA g (10 + q))), (1, .int (zi (x (10 + q) 1))), (2, .int (zi r))]) dX5_layDigits_13 rfl (by decide) rfl ?_
        have L14 : ∀ (N : Nat) (c : Int) (w : Me), (x (10 + q) 1 - c).toNat < N → (0 ≤ c ∧ c ≤ x (10 + q) 1) → (∀ p, x (10 + q) 1 * r + c ≤ p → p < 81 → w (20 + q) p = 0) → (∀ p, 0 ≤ p → p < x (10 + q) 1 * r + c → w (20 + q) p = dig (x (10 + q) 1) p) → (∀ a, a ≠ 20 + q → w a = x a) → Zz Γ g 6 0 0 w 14 [(0, .ref (gA g (10 + q))), (1, .int (zi (x (10 + q) 1))), (2, .int (zi r)), (3, .int (zi c))] [] := by
          intro N
          induction N with
          | zero => intro c w hm; exact absurd hm (Nat.not_lt_zero _)
          | succ N ih14 =>
            intro c w hm c0 j3 j4 j5
            have hmul : x (10 + q) 1 * (r + 1) = x (10 + q) 1 * r + x (10 + q) 1 := by rw [Int.mul_add]; simp
            have hw1 : w (10 + q) 1 = x (10 + q) 1 := by rw [j5 (10 + q) (by omega)]
            have hwe : w (10 + q) 1 * r + c = x (10 + q) 1 * r + c := by rw [hw1]
            refine z_iload_n (pc := 14) hO 3 dX5_layDigits_14 rfl rfl ?_
            refine z_iload_n (pc := 15) hO 1 dX5_layDigits_15 rfl rfl ?_
            refine z_icmp_ge (pc := 16) hO (tgt := 67) dX5_layDigits_16 (by decide) (by omega) (by omega) (fun b2 => ?_) (fun b2 => ?_)
            · refine z_iinc (pc := 67) hO 2 (lv' := [(2, .int (zi (r + 1))), (0, .ref (gA g (10 + q))), (1, .int (zi (x (10 + q) 1))), (3, .int (zi c))]) dX5_layDigits_67 rfl (by decide) rfl ?_
              refine z_goto (pc := 70) hO (tgt := 7) dX5_layDigits_70 (by decide) ?_
              refine z_sub [1, 2, 0] rfl ?_
              exact ih7 (r + 1) w (by omega) (by omega) (by rw [hmul]; rw [show c = x (10 + q) 1 by omega] at j3; exact j3) (by rw [hmul]; rw [show c = x (10 + q) 1 by omega] at j4; exact j4) (by exact j5)
            · have hpl := pl9 hs (r := r) (c := c) (by omega) (by omega)
              have hrc := rc_of hs (r := r) (c := c) (by omega) (by omega)
              have hv : dig (x (10 + q) 1) (x (10 + q) 1 * r + c) = x (10 + q) 1 * ((r + 2 * c) % x (10 + q) 1) + (2 * r + c) % x (10 + q) 1 + 1 := by unfold dig; rw [if_pos (by omega), hrc.1, hrc.2]
              refine z_iload_n (pc := 19) hO 2 dX5_layDigits_19 rfl rfl ?_
              refine z_iconst (pc := 20) hO dX5_layDigits_20 ?_
              refine z_iload_n (pc := 21) hO 3 dX5_layDigits_21 rfl rfl ?_
              refine z_imul (pc := 22) hO dX5_layDigits_22 ?_
              refine z_iadd (pc := 23) hO dX5_layDigits_23 ?_
              refine z_iload_n (pc := 24) hO 1 dX5_layDigits_24 rfl rfl ?_
              refine z_callSIp (pc := 25) hO (As := [.int (zi (r + (2 * c))), .int (zi (x (10 + q) 1))]) (st := []) (c_X7_wrap (qL Γ) g w (r + (2 * c)) (x (10 + q) 1) (by first | assumption | omega) (by first | assumption | omega)) k_X5_41 rfl (Nat.le_of_ble_eq_true rfl) (by decide) (by decide) ⟨by decide, by decide⟩ dX5_layDigits_25 ?_
              refine z_istore (pc := 28) hO (lv' := [(4, .int (zi ((r + (2 * c)) % (x (10 + q) 1)))), (0, .ref (gA g (10 + q))), (1, .int (zi (x (10 + q) 1))), (2, .int (zi r)), (3, .int (zi c))]) dX5_layDigits_28 (by decide) rfl ?_
              refine z_iconst (pc := 30) hO dX5_layDigits_30 ?_
              refine z_iload_n (pc := 31) hO 3 dX5_layDigits_31 rfl rfl ?_
              refine z_imul (pc := 32) hO dX5_layDigits_32 ?_
              refine z_iload_n (pc := 33) hO 4 dX5_layDigits_33 rfl rfl ?_
              refine z_iadd (pc := 34) hO dX5_layDigits_34 ?_
              refine z_iload_n (pc := 35) hO 2 dX5_layDigits_35 rfl rfl ?_
              refine z_callSIp (pc := 36) hO (As := [.int (zi ((2 * r) + c)), .int (zi (x (10 + q) 1))]) (st := []) (c_X7_wrap (qL Γ) g w ((2 * r) + c) (x (10 + q) 1) (by first | assumption | omega) (by first | assumption | omega)) k_X5_41 rfl (Nat.le_of_ble_eq_true rfl) (by decide) (by decide) ⟨by decide, by decide⟩ dX5_layDigits_36 ?_
              refine z_istore (pc := 39) hO (lv' := [(5, .int (zi (((2 * r) + c) % (x (10 + q) 1)))), (4, .int (zi ((r + (2 * c)) % (x (10 + q) 1)))), (0, .ref (gA g (10 + q))), (1, .int (zi (x (10 + q) 1))), (2, .int (zi r)), (3, .int (zi c))]) dX5_layDigits_39 (by decide) rfl ?_
              refine z_aload_n (pc := 41) hO 2 dX5_layDigits_41 rfl rfl ?_
              refine z_aload_n (pc := 42) hO 2 dX5_layDigits_42 rfl rfl ?_
              refine z_iload_n (pc := 43) hO 4 dX5_layDigits_43 rfl rfl ?_
              refine z_iload_n (pc := 44) hO 5 dX5_layDigits_44 rfl rfl ?_
              refine z_callVIp (pc := 45) hO (As := [.int (zi r), .int (zi c)]) (st := [.ref (gA g (10 + q))]) (c_X1_placeOf (qL Γ) g w q r c (by first | assumption | omega)) k_X5_34 (isO_fig (by omega : q < 9)) rfl (Nat.le_of_ble_eq_true rfl) (by decide) (by decide) ⟨by decide, by decide⟩ dX5_layDigits_45 ?_
              refine z_iload_n (pc := 48) hO 3 dX5_layDigits_48 rfl rfl ?_
              refine z_iload (pc := 49) hO 1 dX5_layDigits_49 rfl ?_
              refine z_imul (pc := 51) hO dX5_layDigits_51 ?_
              refine z_iload (pc := 52) hO 0 dX5_layDigits_52 rfl ?_
              refine z_iadd (pc := 54) hO dX5_layDigits_54 ?_
              refine z_iconst (pc := 55) hO dX5_layDigits_55 ?_
              refine z_iadd (pc := 56) hO dX5_layDigits_56 ?_
              refine z_callVIm (pc := 57) hO (As := [.int (zi (w (10 + q) 1 * r + c)), .int (zi ((((x (10 + q) 1) * ((r + (2 * c)) % (x (10 + q) 1))) + (((2 * r) + c) % (x (10 + q) 1))) + 1))]) (st := []) (c_X1_write (qL Γ) g w q (w (10 + q) 1 * r + c) ((((x (10 + q) 1) * ((r + (2 * c)) % (x (10 + q) 1))) + (((2 * r) + c) % (x (10 + q) 1))) + 1) (by first | assumption | omega) (by first | assumption | omega)) k_X5_38 (isO_fig (by omega : q < 9)) rfl (Nat.le_of_ble_eq_true rfl) (by decide) (by decide) ⟨by decide, by decide⟩ dX5_layDigits_57 (fun m3 e4 => ?_)
              refine z_pop (pc := 60) hO dX5_layDigits_60 rfl ?_
              refine z_iinc (pc := 61) hO 5 (lv' := [(3, .int (zi (c + 1))), (5, .int (zi (((2 * r) + c) % (x (10 + q) 1)))), (4, .int (zi ((r + (2 * c)) % (x (10 + q) 1)))), (0, .ref (gA g (10 + q))), (1, .int (zi (x (10 + q) 1))), (2, .int (zi r))]) dX5_layDigits_61 rfl (by decide) rfl ?_
              refine z_goto (pc := 64) hO (tgt := 14) dX5_layDigits_64 (by decide) ?_
              refine z_sub [3, 4, 5, 0] rfl ?_
              exact ih14 (c + 1) m3 (by omega) (by omega) (by intro p a0 a1; subst m3; rw [up_n _ _ (by rw [hwe]; omega)]; exact j3 p (by omega) a1) (by intro p a0 a1; subst m3; by_cases hp : p = x (10 + q) 1 * r + c; (rw [hwe, ← hp, up_s, hp, hv]); (rw [up_n _ _ (by rw [hwe]; omega)]; exact j4 p a0 (by omega))) (by intro a a1; subst m3; rw [up_i _ _ _ a1]; exact j5 a a1)
        refine z_sub [1, 2, 3, 0] rfl ?_
        exact L14 _ 0 y (Nat.lt_succ_self _) (by omega) (by rw [Int.add_zero]; exact k3) (by rw [Int.add_zero]; exact k4) (by exact k5)
  refine z_sub [2, 1, 0] rfl ?_
  exact L7 _ 0 x (Nat.lt_succ_self _) (by omega) (by intro p _ _; exact hz p (by omega) (by omega)) (by intro p _ _; omega) (by intro a _; rfl)

set_option maxHeartbeats 600000 in
theorem c_X5_layLux (l : Launch) (g : Gl) (x : Me) (q : Nat) (s : Nat)  (hq : q < 9) (hs9 : s < 9) (hqs : q ≠ s) (hs6 : x (10 + q) 1 = 6) (hz : ∀ p, 0 ≤ p → p < 81 → x (20 + q) p = 0) : ctQ l g yX5_layLux cX5_layLux 8 none 4 90 [.ref (gA g (10 + q)), .ref (gA g (10 + s))] x (QVu g (fun x' => nc x' q = lxf ∧ ∀ a, a ≠ 20 + q → a ≠ 10 + s → a ≠ 20 + s → x' a = x a)) := by
  refine ct_start (own := RX5) (lv := [(0, .ref (gA g (10 + q))), (1, .ref (gA g (10 + s)))]) (plainFor_of_name (by decide)) rfl (Nat.le_of_ble_eq_true rfl) rfl ?_
  intro Γ hΓ hO hr hQ _
  refine z_aload_n (pc := 0) hO 1 dX5_layLux_0 rfl rfl ?_
  refine z_iconst (pc := 1) hO dX5_layLux_1 ?_
  refine z_callVV (pc := 2) hO (As := [.int (zi 3)]) (st := []) (c_X1_begin (qL Γ) g x s 3 (by first | assumption | omega)) k_X5_56 (isO_fig (by omega : s < 9)) rfl (Nat.le_of_ble_eq_true rfl) (by decide) (by decide) ⟨by decide, by decide⟩ dX5_layLux_2 (fun m2 h3 => ?_)
  have b1 : m2 (10 + s) 1 = 3 := by rw [h3]; unfold clr; rw [if_neg (by omega), up_s]
  have b2 : ∀ p, 0 ≤ p → p < 81 → m2 (20 + s) p = 0 := by intro p a0 a1; rw [h3]; unfold clr; rw [if_pos (by omega)]
  have b3 : ∀ a, a ≠ 10 + s → a ≠ 20 + s → m2 a = x a := by
      intro a h1 h2; rw [h3]; funext b; unfold clr; rw [if_neg (by omega), up_n _ _ (by omega)]
  clear h3
  refine z_aload_n (pc := 5) hO 1 dX5_layLux_5 rfl rfl ?_
  refine z_callSV (pc := 6) hO (As := [.ref (gA g (10 + s))]) (st := []) (c_X5_laySiege (qL Γ) g m2 s (by first | assumption | omega) (by omega) (by exact b2)) k_X5_9 rfl (Nat.le_of_ble_eq_true rfl) (by decide) (by decide) ⟨by decide, by decide⟩ dX5_layLux_6 (fun m5 h6 => ?_)
  obtain ⟨d1, d2⟩ := h6
  rw [b1] at d1
  have d3 : m5 (10 + s) 1 = 3 := by rw [d2 _ (by omega)]; exact b1
  have d4 : ∀ a, a ≠ 10 + s → a ≠ 20 + s → m5 a = x a := fun a h1 h2 => (d2 a h2).trans (b3 a h1 h2)
  refine z_iconst (pc := 9) hO dX5_layLux_9 ?_
  refine z_istore_n (pc := 10) hO (lv' := [(2, .int (zi 0)), (0, .ref (gA g (10 + q))), (1, .ref (gA g (10 + s)))]) dX5_layLux_10 rfl (by decide) rfl ?_
  have L11 : ∀ (N : Nat) (r : Int) (y : Me), (3 - r).toNat < N → (0 ≤ r ∧ r ≤ 3) → (∀ p, 36 ≤ p → p < 81 → y (20 + q) p = 0) → (∀ p, 0 ≤ p → p < 36 → p / 6 / 2 < r → y (20 + q) p = lux (sgf 3) p) → (y (10 + s) 1 = 3 ∧ nc y s = sgf 3) → (∀ a, a ≠ 20 + q → a ≠ 10 + s → a ≠ 20 + s → y a = x a) → Zz Γ g 8 0 0 y 11 [(0, .ref (gA g (10 + q))), (1, .ref (gA g (10 + s))), (2, .int (zi r))] [] := by
    intro N
    induction N with
    | zero => intro r y hm; exact absurd hm (Nat.not_lt_zero _)
    | succ N ih11 =>
      intro r y hm h0 k3 k4 k6 k5
      refine z_iload_n (pc := 11) hO 2 dX5_layLux_11 rfl rfl ?_
      refine z_iconst (pc := 12) hO dX5_layLux_12 ?_
      refine z_icmp_ge (pc := 13) hO (tgt := 176) dX5_layLux_13 (by decide) (by omega) (by omega) (fun b7 => ?_) (fun b7 => ?_)
      · exact z_vret (pc := 176) hO hr hQ dX5_layLux_176 (by first | (refine ⟨nc_eq (fun p a0 a1 => ?_) (fun p a0 => ?_), k5⟩; (by_cases hp : p < 36; (unfold lxf; rw [if_pos ⟨a0, hp⟩]; exact k4 p a0 hp (by omega)); (unfold lxf; rw [if_neg (by omega)]; exact k3 p (by omega) a1)); (unfold lxf; rw [if_neg (by omega)]); done) | (exfalso; omega))
      · refine z_iconst (pc := 16) hO dX5_layLux_16 ?_
        refine z_istore_n (pc := 17) hO (lv' := [(3, .int (zi 0)), (0, .ref (gA g (10 + q))), (1, .ref (gA g (10 + s))), (2, .int (zi r))]) dX5_layLux_17 rfl (by decide) rfl ?_
        have L18 : ∀ (N : Nat) (c : Int) (w : Me), (3 - c).toNat < N → (0 ≤ c ∧ c ≤ 3) → (∀ p, 36 ≤ p → p < 81 → w (20 + q) p = 0) → (∀ p, 0 ≤ p → p < 36 → (p / 6 / 2 < r ∨ (p / 6 / 2 = r ∧ p % 6 / 2 < c)) → w (20 + q) p = lux (sgf 3) p) → (w (10 + s) 1 = 3 ∧ nc w s = sgf 3) → (∀ a, a ≠ 20 + q → a ≠ 10 + s → a ≠ 20 + s → w a = x a) → Zz Γ g 8 0 0 w 18 [(0, .ref (gA g (10 + q))), (1, .ref (gA g (10 + s))), (2, .int (zi r)), (3, .int (zi c))] [] := by
          intro N
          induction N with
          | zero => intro c w hm; exact absurd hm (Nat.not_lt_zero _)
          | succ N ih18 =>
            intro c w hm c0 j3 j4 j6 j5
            have hw6 : w (10 + q) 1 = 6 := by rw [j5 (10 + q) (by omega) (by omega) (by omega)]; exact hs6
            have hP0 : w (10 + q) 1 * (2 * r) + 2 * c = 12 * r + 2 * c := by rw [hw6]; omega
            have hP1 : w (10 + q) 1 * (2 * r + 1) + 2 * c = 12 * r + 2 * c + 6 := by rw [hw6]; omega
            have hPv : w (10 + s) 1 * r + c = 3 * r + c := by rw [j6.1]
            have hV : nc w s (w (10 + s) 1 * r + c) = sgf 3 (3 * r + c) := by rw [hPv, j6.2]
            refine z_iload_n (pc := 18) hO 3 dX5_layLux_18 rfl rfl ?_
            refine z_iconst (pc := 19) hO dX5_layLux_19 ?_
            refine z_icmp_ge (pc := 20) hO (tgt := 170) dX5_layLux_20 (by decide) (by omega) (by omega) (fun b8 => ?_) (fun b8 => ?_)
            · refine z_iinc (pc := 170) hO 2 (lv' := [(2, .int (zi (r + 1))), (0, .ref (gA g (10 + q))), (1, .ref (gA g (10 + s))), (3, .int (zi c))]) dX5_layLux_170 rfl (by decide) rfl ?_
              refine z_goto (pc := 173) hO (tgt := 11) dX5_layLux_173 (by decide) ?_
              refine z_sub [1, 2, 0] rfl ?_
              exact ih11 (r + 1) w (by omega) (by omega) (by exact j3) (by intro p a0 a1 a2; exact j4 p a0 a1 (by omega)) (by exact j6) (by exact j5)
            · refine z_iconst (pc := 23) hO dX5_layLux_23 ?_
              refine z_aload_n (pc := 24) hO 1 dX5_layLux_24 rfl rfl ?_
              refine z_aload_n (pc := 25) hO 1 dX5_layLux_25 rfl rfl ?_
              refine z_iload_n (pc := 26) hO 2 dX5_layLux_26 rfl rfl ?_
              refine z_iload_n (pc := 27) hO 3 dX5_layLux_27 rfl rfl ?_
              refine z_callVIp (pc := 28) hO (As := [.int (zi r), .int (zi c)]) (st := [.ref (gA g (10 + s)), .int (zi 4)]) (c_X1_placeOf (qL Γ) g w s r c (by first | assumption | omega)) k_X5_34 (isO_fig (by omega : s < 9)) rfl (Nat.le_of_ble_eq_true rfl) (by decide) (by decide) ⟨by decide, by decide⟩ dX5_layLux_28 ?_
              refine z_callVIp (pc := 31) hO (As := [.int (zi (w (10 + s) 1 * r + c))]) (st := [.int (zi 4)]) (c_X1_read (qL Γ) g w s (w (10 + s) 1 * r + c) (by first | assumption | omega) (by first | assumption | omega)) k_X5_46 (isO_fig (by omega : s < 9)) rfl (Nat.le_of_ble_eq_true rfl) (by decide) (by decide) ⟨by decide, by decide⟩ dX5_layLux_31 ?_
              refine z_iconst (pc := 34) hO dX5_layLux_34 ?_
              refine z_isub (pc := 35) hO dX5_layLux_35 ?_
              refine z_imul (pc := 36) hO dX5_layLux_36 ?_
              refine z_istore (pc := 37) hO (lv' := [(4, .int (zi (4 * ((nc w s (w (10 + s) 1 * r + c)) - 1)))), (0, .ref (gA g (10 + q))), (1, .ref (gA g (10 + s))), (2, .int (zi r)), (3, .int (zi c))]) dX5_layLux_37 (by decide) rfl ?_
              refine z_iload_n (pc := 39) hO 3 dX5_layLux_39 rfl rfl ?_
              refine z_iconst (pc := 40) hO dX5_layLux_40 ?_
              refine z_icmp_ne (pc := 41) hO (tgt := 49) dX5_layLux_41 (by decide) (by omega) (by omega) (fun b9 => ?_) (fun b9 => ?_)
              · refine z_iload_n (pc := 49) hO 3 dX5_layLux_49 rfl rfl ?_
                refine z_iconst (pc := 50) hO dX5_layLux_50 ?_
                refine z_icmp_ne (pc := 51) hO (tgt := 63) dX5_layLux_51 (by decide) (by omega) (by omega) (fun b10 => ?_) (fun b10 => ?_)
                · refine z_iconst (pc := 63) hO dX5_layLux_63 ?_
                  refine z_istore (pc := 64) hO (lv' := [(5, .int (zi 0)), (4, .int (zi (4 * ((nc w s (w (10 + s) 1 * r + c)) - 1)))), (0, .ref (gA g (10 + q))), (1, .ref (gA g (10 + s))), (2, .int (zi r)), (3, .int (zi c))]) dX5_layLux_64 (by decide) rfl ?_
                  refine z_aload_n (pc := 66) hO 2 dX5_layLux_66 rfl rfl ?_
                  refine z_iconst (pc := 67) hO dX5_layLux_67 ?_
                  refine z_iload_n (pc := 68) hO 4 dX5_layLux_68 rfl rfl ?_
                  refine z_imul (pc := 69) hO dX5_layLux_69 ?_
                  refine z_iconst (pc := 70) hO dX5_layLux_70 ?_
                  refine z_iload_n (pc := 71) hO 5 dX5_layLux_71 rfl rfl ?_
                  refine z_imul (pc := 72) hO dX5_layLux_72 ?_
                  refine z_callVIp (pc := 73) hO (As := [.int (zi (2 * r)), .int (zi (2 * c))]) (st := []) (c_X1_placeOf (qL Γ) g w q (2 * r) (2 * c) (by first | assumption | omega)) k_X5_34 (isO_fig (by omega : q < 9)) rfl (Nat.le_of_ble_eq_true rfl) (by decide) (by decide) ⟨by decide, by decide⟩ dX5_layLux_73 ?_
                  refine z_istore (pc := 76) hO (lv' := [(6, .int (zi (w (10 + q) 1 * (2 * r) + (2 * c)))), (5, .int (zi 0)), (4, .int (zi (4 * ((nc w s (w (10 + s) 1 * r + c)) - 1)))), (0, .ref (gA g (10 + q))), (1, .ref (gA g (10 + s))), (2, .int (zi r)), (3, .int (zi c))]) dX5_layLux_76 (by decide) rfl ?_
                  refine z_aload_n (pc := 78) hO 3 dX5_layLux_78 rfl rfl ?_
                  refine z_iconst (pc := 79) hO dX5_layLux_79 ?_
                  refine z_iload_n (pc := 80) hO 5 dX5_layLux_80 rfl rfl ?_
                  refine z_imul (pc := 81) hO dX5_layLux_81 ?_
                  refine z_iconst (pc := 82) hO dX5_layLux_82 ?_
                  refine z_iadd (pc := 83) hO dX5_layLux_83 ?_
                  refine z_iconst (pc := 84) hO dX5_layLux_84 ?_
                  refine z_iload_n (pc := 85) hO 6 dX5_layLux_85 rfl rfl ?_
                  refine z_imul (pc := 86) hO dX5_layLux_86 ?_
                  refine z_callVIp (pc := 87) hO (As := [.int (zi ((2 * r) + 1)), .int (zi (2 * c))]) (st := []) (c_X1_placeOf (qL Γ) g w q ((2 * r) + 1) (2 * c) (by first | assumption | omega)) k_X5_34 (isO_fig (by omega : q < 9)) rfl (Nat.le_of_ble_eq_true rfl) (by decide) (by decide) ⟨by decide, by decide⟩ dX5_layLux_87 ?_
                  refine z_istore (pc := 90) hO (lv' := [(7, .int (zi (w (10 + q) 1 * ((2 * r) + 1) + (2 * c)))), (6, .int (zi (w (10 + q) 1 * (2 * r) + (2 * c)))), (5, .int (zi 0)), (4, .int (zi (4 * ((nc w s (w (10 + s) 1 * r + c)) - 1)))), (0, .ref (gA g (10 + q))), (1, .ref (gA g (10 + s))), (2, .int (zi r)), (3, .int (zi c))]) dX5_layLux_90 (by decide) rfl ?_
                  refine z_aload_n (pc := 92) hO 4 dX5_layLux_92 rfl rfl ?_
                  refine z_iload (pc := 93) hO 1 dX5_layLux_93 rfl ?_
                  refine z_iload (pc := 95) hO 2 dX5_layLux_95 rfl ?_
                  refine z_if_eq (pc := 97) hO (tgt := 107) dX5_layLux_97 (by decide) (by decide) (fun _ => ?_) (fun h => absurd h (by decide))
                  refine z_iload (pc := 107) hO 3 dX5_layLux_107 rfl ?_
                  refine z_iconst (pc := 109) hO dX5_layLux_109 ?_
                  refine z_iadd (pc := 110) hO dX5_layLux_110 ?_
                  refine z_callVIm (pc := 111) hO (As := [.int (zi (w (10 + q) 1 * (2 * r) + (2 * c))), .int (zi ((4 * ((nc w s (w (10 + s) 1 * r + c)) - 1)) + 4))]) (st := []) (c_X1_write (qL Γ) g w q (w (10 + q) 1 * (2 * r) + (2 * c)) ((4 * ((nc w s (w (10 + s) 1 * r + c)) - 1)) + 4) (by first | assumption | omega) (by first | assumption | omega)) k_X5_38 (isO_fig (by omega : q < 9)) rfl (Nat.le_of_ble_eq_true rfl) (by decide) (by decide) ⟨by decide, by decide⟩ dX5_layLux_111 (fun m11 e12 => ?_)
                  refine z_pop (pc := 114) hO dX5_layLux_114 rfl ?_
                  refine z_aload_n (pc := 115) hO 4 dX5_layLux_115 rfl rfl ?_
                  refine z_iload (pc := 116) hO 1 dX5_layLux_116 rfl ?_
                  refine z_iconst (pc := 118) hO dX5_layLux_118 ?_
                  refine z_iadd (pc := 119) hO dX5_layLux_119 ?_
                  refine z_iload (pc := 120) hO 2 dX5_layLux_120 rfl ?_
                  refine z_if_eq (pc := 122) hO (tgt := 132) dX5_layLux_122 (by decide) (by decide) (fun _ => ?_) (fun h => absurd h (by decide))
                  refine z_iload (pc := 132) hO 3 dX5_layLux_132 rfl ?_
                  refine z_iconst (pc := 134) hO dX5_layLux_134 ?_
                  refine z_iadd (pc := 135) hO dX5_layLux_135 ?_
                  refine z_callVIm (pc := 136) hO (As := [.int (zi ((w (10 + q) 1 * (2 * r) + (2 * c)) + 1)), .int (zi ((4 * ((nc w s (w (10 + s) 1 * r + c)) - 1)) + 1))]) (st := []) (c_X1_write (qL Γ) g m11 q ((w (10 + q) 1 * (2 * r) + (2 * c)) + 1) ((4 * ((nc w s (w (10 + s) 1 * r + c)) - 1)) + 1) (by first | assumption | omega) (by first | assumption | omega)) k_X5_38 (isO_fig (by omega : q < 9)) rfl (Nat.le_of_ble_eq_true rfl) (by decide) (by decide) ⟨by decide, by decide⟩ dX5_layLux_136 (fun m13 e14 => ?_)
                  refine z_pop (pc := 139) hO dX5_layLux_139 rfl ?_
                  refine z_aload_n (pc := 140) hO 4 dX5_layLux_140 rfl rfl ?_
                  refine z_iload (pc := 141) hO 0 dX5_layLux_141 rfl ?_
                  refine z_iload (pc := 143) hO 3 dX5_layLux_143 rfl ?_
                  refine z_iconst (pc := 145) hO dX5_layLux_145 ?_
                  refine z_iadd (pc := 146) hO dX5_layLux_146 ?_
                  refine z_callVIm (pc := 147) hO (As := [.int (zi (w (10 + q) 1 * ((2 * r) + 1) + (2 * c))), .int (zi ((4 * ((nc w s (w (10 + s) 1 * r + c)) - 1)) + 2))]) (st := []) (c_X1_write (qL Γ) g m13 q (w (10 + q) 1 * ((2 * r) + 1) + (2 * c)) ((4 * ((nc w s (w (10 + s) 1 * r + c)) - 1)) + 2) (by first | assumption | omega) (by first | assumption | omega)) k_X5_38 (isO_fig (by omega : q < 9)) rfl (Nat.le_of_ble_eq_true rfl) (by decide) (by decide) ⟨by decide, by decide⟩ dX5_layLux_147 (fun m15 e16 => ?_)
                  refine z_pop (pc := 150) hO dX5_layLux_150 rfl ?_
                  refine z_aload_n (pc := 151) hO 4 dX5_layLux_151 rfl rfl ?_
                  refine z_iload (pc := 152) hO 0 dX5_layLux_152 rfl ?_
                  refine z_iconst (pc := 154) hO dX5_layLux_154 ?_
                  refine z_iadd (pc := 155) hO dX5_layLux_155 ?_
                  refine z_iload (pc := 156) hO 3 dX5_layLux_156 rfl ?_
                  refine z_iconst (pc := 158) hO dX5_layLux_158 ?_
                  refine z_iadd (pc := 159) hO dX5_layLux_159 ?_
                  refine z_callVIm (pc := 160) hO (As := [.int (zi ((w (10 + q) 1 * ((2 * r) + 1) + (2 * c)) + 1)), .int (zi ((4 * ((nc w s (w (10 + s) 1 * r + c)) - 1)) + 3))]) (st := []) (c_X1_write (qL Γ) g m15 q ((w (10 + q) 1 * ((2 * r) + 1) + (2 * c)) + 1) ((4 * ((nc w s (w (10 + s) 1 * r + c)) - 1)) + 3) (by first | assumption | omega) (by first | assumption | omega)) k_X5_38 (isO_fig (by omega : q < 9)) rfl (Nat.le_of_ble_eq_true rfl) (by decide) (by decide) ⟨by decide, by decide⟩ dX5_layLux_160 (fun m17 e18 => ?_)
                  refine z_pop (pc := 163) hO dX5_layLux_163 rfl ?_
                  refine z_iinc (pc := 164) hO 7 (lv' := [(3, .int (zi (c + 1))), (7, .int (zi (w (10 + q) 1 * ((2 * r) + 1) + (2 * c)))), (6, .int (zi (w (10 + q) 1 * (2 * r) + (2 * c)))), (5, .int (zi 0)), (4, .int (zi (4 * ((nc w s (w (10 + s) 1 * r + c)) - 1)))), (0, .ref (gA g (10 + q))), (1, .ref (gA g (10 + s))), (2, .int (zi r))]) dX5_layLux_164 rfl (by decide) rfl ?_
                  refine z_goto (pc := 167) hO (tgt := 18) dX5_layLux_167 (by decide) ?_
                  refine z_sub [5, 6, 7, 0] rfl ?_
                  exact ih18 (c + 1) m17 (by omega) (by omega) (by intro p a0 a1; subst m17 m15 m13 m11; rw [up4, hP0, hP1]; rw [if_neg (by omega), if_neg (by omega), if_neg (by omega), if_neg (by omega)]; exact j3 p a0 a1) (by intro p a0 a1 a2; subst m17 m15 m13 m11; rw [up4, hP0, hP1, hV]; exact dite (p = 12 * r + 2 * c + 7) (fun e3 => by (rw [if_pos (by omega), lux_at (r := r) (c := c) (a := 1) (b := 1) (by omega) (by omega) (by omega) (by omega) (by omega)]; simp)) (fun e3 => by (rw [if_neg (by omega)]; exact dite (p = 12 * r + 2 * c + 6) (fun e2 => by (rw [if_pos (by omega), lux_at (r := r) (c := c) (a := 1) (b := 0) (by omega) (by omega) (by omega) (by omega) (by omega)]; simp)) (fun e2 => by (rw [if_neg (by omega)]; exact dite (p = 12 * r + 2 * c + 1) (fun e1 => by (rw [if_pos (by omega), lux_at (r := r) (c := c) (a := 0) (b := 1) (by omega) (by omega) (by omega) (by omega) (by omega)]; simp only [if_true, if_false, show ¬ ((1 : Int) = 0) by decide]; first | (rw [if_pos (by omega)]; done) | (rw [if_neg (by omega)]; done))) (fun e1 => by (rw [if_neg (by omega)]; exact dite (p = 12 * r + 2 * c) (fun e0 => by (rw [if_pos (by omega), lux_at (r := r) (c := c) (a := 0) (b := 0) (by omega) (by omega) (by omega) (by omega) (by omega)]; simp only [if_true]; first | (rw [if_pos (by omega)]; done) | (rw [if_neg (by omega)]; done))) (fun e0 => by (rw [if_neg (by omega)]; exact j4 p a0 a1 (by omega)))))))))) (by subst m17 m15 m13 m11; refine ⟨?_, ?_⟩; (iterate 4 rw [up_i _ _ _ (by omega)]); exact j6.1; rw [← j6.2]; apply nc_of; (iterate 4 rw [up_i _ _ _ (by omega)])) (by intro a a1 a2 a3; subst m17 m15 m13 m11; (iterate 4 rw [up_i _ _ _ (by omega)]); exact j5 a a1 a2 a3)
                · refine z_iload_n (pc := 54) hO 4 dX5_layLux_54 rfl rfl ?_
                  refine z_iconst (pc := 55) hO dX5_layLux_55 ?_
                  refine z_icmp_eq (pc := 56) hO (tgt := 63) dX5_layLux_56 (by decide) (by omega) (by omega) (fun b19 => ?_) (fun b19 => ?_)
                  · refine z_iconst (pc := 63) hO dX5_layLux_63 ?_
                    refine z_istore (pc := 64) hO (lv' := [(5, .int (zi 0)), (4, .int (zi (4 * ((nc w s (w (10 + s) 1 * r + c)) - 1)))), (0, .ref (gA g (10 + q))), (1, .ref (gA g (10 + s))), (2, .int (zi r)), (3, .int (zi c))]) dX5_layLux_64 (by decide) rfl ?_
                    refine z_aload_n (pc := 66) hO 2 dX5_layLux_66 rfl rfl ?_
                    refine z_iconst (pc := 67) hO dX5_layLux_67 ?_
                    refine z_iload_n (pc := 68) hO 4 dX5_layLux_68 rfl rfl ?_
                    refine z_imul (pc := 69) hO dX5_layLux_69 ?_
                    refine z_iconst (pc := 70) hO dX5_layLux_70 ?_
                    refine z_iload_n (pc := 71) hO 5 dX5_layLux_71 rfl rfl ?_
                    refine z_imul (pc := 72) hO dX5_layLux_72 ?_
                    refine z_callVIp (pc := 73) hO (As := [.int (zi (2 * r)), .int (zi (2 * c))]) (st := []) (c_X1_placeOf (qL Γ) g w q (2 * r) (2 * c) (by first | assumption | omega)) k_X5_34 (isO_fig (by omega : q < 9)) rfl (Nat.le_of_ble_eq_true rfl) (by decide) (by decide) ⟨by decide, by decide⟩ dX5_layLux_73 ?_
                    refine z_istore (pc := 76) hO (lv' := [(6, .int (zi (w (10 + q) 1 * (2 * r) + (2 * c)))), (5, .int (zi 0)), (4, .int (zi (4 * ((nc w s (w (10 + s) 1 * r + c)) - 1)))), (0, .ref (gA g (10 + q))), (1, .ref (gA g (10 + s))), (2, .int (zi r)), (3, .int (zi c))]) dX5_layLux_76 (by decide) rfl ?_
                    refine z_aload_n (pc := 78) hO 3 dX5_layLux_78 rfl rfl ?_
                    refine z_iconst (pc := 79) hO dX5_layLux_79 ?_
                    refine z_iload_n (pc := 80) hO 5 dX5_layLux_80 rfl rfl ?_
                    refine z_imul (pc := 81) hO dX5_layLux_81 ?_
                    refine z_iconst (pc := 82) hO dX5_layLux_82 ?_
                    refine z_iadd (pc := 83) hO dX5_layLux_83 ?_
                    refine z_iconst (pc := 84) hO dX5_layLux_84 ?_
                    refine z_iload_n (pc := 85) hO 6 dX5_layLux_85 rfl rfl ?_
                    refine z_imul (pc := 86) hO dX5_layLux_86 ?_
                    refine z_callVIp (pc := 87) hO (As := [.int (zi ((2 * r) + 1)), .int (zi (2 * c))]) (st := []) (c_X1_placeOf (qL Γ) g w q ((2 * r) + 1) (2 * c) (by first | assumption | omega)) k_X5_34 (isO_fig (by omega : q < 9)) rfl (Nat.le_of_ble_eq_true rfl) (by decide) (by decide) ⟨by decide, by decide⟩ dX5_layLux_87 ?_
                    refine z_istore (pc := 90) hO (lv' := [(7, .int (zi (w (10 + q) 1 * ((2 * r) + 1) + (2 * c)))), (6, .int (zi (w (10 + q) 1 * (2 * r) + (2 * c)))), (5, .int (zi 0)), (4, .int (zi (4 * ((nc w s (w (10 + s) 1 * r + c)) - 1)))), (0, .ref (gA g (10 + q))), (1, .ref (gA g (10 + s))), (2, .int (zi r)), (3, .int (zi c))]) dX5_layLux_90 (by decide) rfl ?_
                    refine z_aload_n (pc := 92) hO 4 dX5_layLux_92 rfl rfl ?_
                    refine z_iload (pc := 93) hO 1 dX5_layLux_93 rfl ?_
                    refine z_iload (pc := 95) hO 2 dX5_layLux_95 rfl ?_
                    refine z_if_eq (pc := 97) hO (tgt := 107) dX5_layLux_97 (by decide) (by decide) (fun _ => ?_) (fun h => absurd h (by decide))
                    refine z_iload (pc := 107) hO 3 dX5_layLux_107 rfl ?_
                    refine z_iconst (pc := 109) hO dX5_layLux_109 ?_
                    refine z_iadd (pc := 110) hO dX5_layLux_110 ?_
                    refine z_callVIm (pc := 111) hO (As := [.int (zi (w (10 + q) 1 * (2 * r) + (2 * c))), .int (zi ((4 * ((nc w s (w (10 + s) 1 * r + c)) - 1)) + 4))]) (st := []) (c_X1_write (qL Γ) g w q (w (10 + q) 1 * (2 * r) + (2 * c)) ((4 * ((nc w s (w (10 + s) 1 * r + c)) - 1)) + 4) (by first | assumption | omega) (by first | assumption | omega)) k_X5_38 (isO_fig (by omega : q < 9)) rfl (Nat.le_of_ble_eq_true rfl) (by decide) (by decide) ⟨by decide, by decide⟩ dX5_layLux_111 (fun m20 e21 => ?_)
                    refine z_pop (pc := 114) hO dX5_layLux_114 rfl ?_
                    refine z_aload_n (pc := 115) hO 4 dX5_layLux_115 rfl rfl ?_
                    refine z_iload (pc := 116) hO 1 dX5_layLux_116 rfl ?_
                    refine z_iconst (pc := 118) hO dX5_layLux_118 ?_
                    refine z_iadd (pc := 119) hO dX5_layLux_119 ?_
                    refine z_iload (pc := 120) hO 2 dX5_layLux_120 rfl ?_
                    refine z_if_eq (pc := 122) hO (tgt := 132) dX5_layLux_122 (by decide) (by decide) (fun _ => ?_) (fun h => absurd h (by decide))
                    refine z_iload (pc := 132) hO 3 dX5_layLux_132 rfl ?_
                    refine z_iconst (pc := 134) hO dX5_layLux_134 ?_
                    refine z_iadd (pc := 135) hO dX5_layLux_135 ?_
                    refine z_callVIm (pc := 136) hO (As := [.int (zi ((w (10 + q) 1 * (2 * r) + (2 * c)) + 1)), .int (zi ((4 * ((nc w s (w (10 + s) 1 * r + c)) - 1)) + 1))]) (st := []) (c_X1_write (qL Γ) g m20 q ((w (10 + q) 1 * (2 * r) + (2 * c)) + 1) ((4 * ((nc w s (w (10 + s) 1 * r + c)) - 1)) + 1) (by first | assumption | omega) (by first | assumption | omega)) k_X5_38 (isO_fig (by omega : q < 9)) rfl (Nat.le_of_ble_eq_true rfl) (by decide) (by decide) ⟨by decide, by decide⟩ dX5_layLux_136 (fun m22 e23 => ?_)
                    refine z_pop (pc := 139) hO dX5_layLux_139 rfl ?_
                    refine z_aload_n (pc := 140) hO 4 dX5_layLux_140 rfl rfl ?_
                    refine z_iload (pc := 141) hO 0 dX5_layLux_141 rfl ?_
                    refine z_iload (pc := 143) hO 3 dX5_layLux_143 rfl ?_
                    refine z_iconst (pc := 145) hO dX5_layLux_145 ?_
                    refine z_iadd (pc := 146) hO dX5_layLux_146 ?_
                    refine z_callVIm (pc := 147) hO (As := [.int (zi (w (10 + q) 1 * ((2 * r) + 1) + (2 * c))), .int (zi ((4 * ((nc w s (w (10 + s) 1 * r + c)) - 1)) + 2))]) (st := []) (c_X1_write (qL Γ) g m22 q (w (10 + q) 1 * ((2 * r) + 1) + (2 * c)) ((4 * ((nc w s (w (10 + s) 1 * r + c)) - 1)) + 2) (by first | assumption | omega) (by first | assumption | omega)) k_X5_38 (isO_fig (by omega : q < 9)) rfl (Nat.le_of_ble_eq_true rfl) (by decide) (by decide) ⟨by decide, by decide⟩ dX5_layLux_147 (fun m24 e25 => ?_)
                    refine z_pop (pc := 150) hO dX5_layLux_150 rfl ?_
                    refine z_aload_n (pc := 151) hO 4 dX5_layLux_151 rfl rfl ?_
                    refine z_iload (pc := 152) hO 0 dX5_layLux_152 rfl ?_
                    refine z_iconst (pc := 154) hO dX5_layLux_154 ?_
                    refine z_iadd (pc := 155) hO dX5_layLux_155 ?_
                    refine z_iload (pc := 156) hO 3 dX5_layLux_156 rfl ?_
                    refine z_iconst (pc := 158) hO dX5_layLux_158 ?_
                    refine z_iadd (pc := 159) hO dX5_layLux_159 ?_
                    refine z_callVIm (pc := 160) hO (As := [.int (zi ((w (10 + q) 1 * ((2 * r) + 1) + (2 * c)) + 1)), .int (zi ((4 * ((nc w s (w (10 + s) 1 * r + c)) - 1)) + 3))]) (st := []) (c_X1_write (qL Γ) g m24 q ((w (10 + q) 1 * ((2 * r) + 1) + (2 * c)) + 1) ((4 * ((nc w s (w (10 + s) 1 * r + c)) - 1)) + 3) (by first | assumption | omega) (by first | assumption | omega)) k_X5_38 (isO_fig (by omega : q < 9)) rfl (Nat.le_of_ble_eq_true rfl) (by decide) (by decide) ⟨by decide, by decide⟩ dX5_layLux_160 (fun m26 e27 => ?_)
                    refine z_pop (pc := 163) hO dX5_layLux_163 rfl ?_
                    refine z_iinc (pc := 164) hO 7 (lv' := [(3, .int (zi (c + 1))), (7, .int (zi (w (10 + q) 1 * ((2 * r) + 1) + (2 * c)))), (6, .int (zi (w (10 + q) 1 * (2 * r) + (2 * c)))), (5, .int (zi 0)), (4, .int (zi (4 * ((nc w s (w (10 + s) 1 * r + c)) - 1)))), (0, .ref (gA g (10 + q))), (1, .ref (gA g (10 + s))), (2, .int (zi r))]) dX5_layLux_164 rfl (by decide) rfl ?_
                    refine z_goto (pc := 167) hO (tgt := 18) dX5_layLux_167 (by decide) ?_
                    refine z_sub [5, 6, 7, 0] rfl ?_
                    exact ih18 (c + 1) m26 (by omega) (by omega) (by intro p a0 a1; subst m26 m24 m22 m20; rw [up4, hP0, hP1]; rw [if_neg (by omega), if_neg (by omega), if_neg (by omega), if_neg (by omega)]; exact j3 p a0 a1) (by intro p a0 a1 a2; subst m26 m24 m22 m20; rw [up4, hP0, hP1, hV]; exact dite (p = 12 * r + 2 * c + 7) (fun e3 => by (rw [if_pos (by omega), lux_at (r := r) (c := c) (a := 1) (b := 1) (by omega) (by omega) (by omega) (by omega) (by omega)]; simp)) (fun e3 => by (rw [if_neg (by omega)]; exact dite (p = 12 * r + 2 * c + 6) (fun e2 => by (rw [if_pos (by omega), lux_at (r := r) (c := c) (a := 1) (b := 0) (by omega) (by omega) (by omega) (by omega) (by omega)]; simp)) (fun e2 => by (rw [if_neg (by omega)]; exact dite (p = 12 * r + 2 * c + 1) (fun e1 => by (rw [if_pos (by omega), lux_at (r := r) (c := c) (a := 0) (b := 1) (by omega) (by omega) (by omega) (by omega) (by omega)]; simp only [if_true, if_false, show ¬ ((1 : Int) = 0) by decide]; first | (rw [if_pos (by omega)]; done) | (rw [if_neg (by omega)]; done))) (fun e1 => by (rw [if_neg (by omega)]; exact dite (p = 12 * r + 2 * c) (fun e0 => by (rw [if_pos (by omega), lux_at (r := r) (c := c) (a := 0) (b := 0) (by omega) (by omega) (by omega) (by omega) (by omega)]; simp only [if_true]; first | (rw [if_pos (by omega)]; done) | (rw [if_neg (by omega)]; done))) (fun e0 => by (rw [if_neg (by omega)]; exact j4 p a0 a1 (by omega)))))))))) (by subst m26 m24 m22 m20; refine ⟨?_, ?_⟩; (iterate 4 rw [up_i _ _ _ (by omega)]); exact j6.1; rw [← j6.2]; apply nc_of; (iterate 4 rw [up_i _ _ _ (by omega)])) (by intro a a1 a2 a3; subst m26 m24 m22 m20; (iterate 4 rw [up_i _ _ _ (by omega)]); exact j5 a a1 a2 a3)
                  · refine z_iconst (pc := 59) hO dX5_layLux_59 ?_
                    refine z_goto (pc := 60) hO (tgt := 64) dX5_layLux_60 (by decide) ?_
                    refine z_istore (pc := 64) hO (lv' := [(5, .int (zi 1)), (4, .int (zi (4 * ((nc w s (w (10 + s) 1 * r + c)) - 1)))), (0, .ref (gA g (10 + q))), (1, .ref (gA g (10 + s))), (2, .int (zi r)), (3, .int (zi c))]) dX5_layLux_64 (by decide) rfl ?_
                    refine z_aload_n (pc := 66) hO 2 dX5_layLux_66 rfl rfl ?_
                    refine z_iconst (pc := 67) hO dX5_layLux_67 ?_
                    refine z_iload_n (pc := 68) hO 4 dX5_layLux_68 rfl rfl ?_
                    refine z_imul (pc := 69) hO dX5_layLux_69 ?_
                    refine z_iconst (pc := 70) hO dX5_layLux_70 ?_
                    refine z_iload_n (pc := 71) hO 5 dX5_layLux_71 rfl rfl ?_
                    refine z_imul (pc := 72) hO dX5_layLux_72 ?_
                    refine z_callVIp (pc := 73) hO (As := [.int (zi (2 * r)), .int (zi (2 * c))]) (st := []) (c_X1_placeOf (qL Γ) g w q (2 * r) (2 * c) (by first | assumption | omega)) k_X5_34 (isO_fig (by omega : q < 9)) rfl (Nat.le_of_ble_eq_true rfl) (by decide) (by decide) ⟨by decide, by decide⟩ dX5_layLux_73 ?_
                    refine z_istore (pc := 76) hO (lv' := [(6, .int (zi (w (10 + q) 1 * (2 * r) + (2 * c)))), (5, .int (zi 1)), (4, .int (zi (4 * ((nc w s (w (10 + s) 1 * r + c)) - 1)))), (0, .ref (gA g (10 + q))), (1, .ref (gA g (10 + s))), (2, .int (zi r)), (3, .int (zi c))]) dX5_layLux_76 (by decide) rfl ?_
                    refine z_aload_n (pc := 78) hO 3 dX5_layLux_78 rfl rfl ?_
                    refine z_iconst (pc := 79) hO dX5_layLux_79 ?_
                    refine z_iload_n (pc := 80) hO 5 dX5_layLux_80 rfl rfl ?_
                    refine z_imul (pc := 81) hO dX5_layLux_81 ?_
                    refine z_iconst (pc := 82) hO dX5_layLux_82 ?_
                    refine z_iadd (pc := 83) hO dX5_layLux_83 ?_
                    refine z_iconst (pc := 84) hO dX5_layLux_84 ?_
                    refine z_iload_n (pc := 85) hO 6 dX5_layLux_85 rfl rfl ?_
                    refine z_imul (pc := 86) hO dX5_layLux_86 ?_
                    refine z_callVIp (pc := 87) hO (As := [.int (zi ((2 * r) + 1)), .int (zi (2 * c))]) (st := []) (c_X1_placeOf (qL Γ) g w q ((2 * r) + 1) (2 * c) (by first | assumption | omega)) k_X5_34 (isO_fig (by omega : q < 9)) rfl (Nat.le_of_ble_eq_true rfl) (by decide) (by decide) ⟨by decide, by decide⟩ dX5_layLux_87 ?_
                    refine z_istore (pc := 90) hO (lv' := [(7, .int (zi (w (10 + q) 1 * ((2 * r) + 1) + (2 * c)))), (6, .int (zi (w (10 + q) 1 * (2 * r) + (2 * c)))), (5, .int (zi 1)), (4, .int (zi (4 * ((nc w s (w (10 + s) 1 * r + c)) - 1)))), (0, .ref (gA g (10 + q))), (1, .ref (gA g (10 + s))), (2, .int (zi r)), (3, .int (zi c))]) dX5_layLux_90 (by decide) rfl ?_
                    refine z_aload_n (pc := 92) hO 4 dX5_layLux_92 rfl rfl ?_
                    refine z_iload (pc := 93) hO 1 dX5_layLux_93 rfl ?_
                    refine z_iload (pc := 95) hO 2 dX5_layLux_95 rfl ?_
                    refine z_if_eq (pc := 97) hO (tgt := 107) dX5_layLux_97 (by decide) (by decide) (fun h => absurd h (by decide)) (fun _ => ?_)
                    refine z_iload (pc := 100) hO 3 dX5_layLux_100 rfl ?_
                    refine z_iconst (pc := 102) hO dX5_layLux_102 ?_
                    refine z_iadd (pc := 103) hO dX5_layLux_103 ?_
                    refine z_goto (pc := 104) hO (tgt := 111) dX5_layLux_104 (by decide) ?_
                    refine z_callVIm (pc := 111) hO (As := [.int (zi (w (10 + q) 1 * (2 * r) + (2 * c))), .int (zi ((4 * ((nc w s (w (10 + s) 1 * r + c)) - 1)) + 1))]) (st := []) (c_X1_write (qL Γ) g w q (w (10 + q) 1 * (2 * r) + (2 * c)) ((4 * ((nc w s (w (10 + s) 1 * r + c)) - 1)) + 1) (by first | assumption | omega) (by first | assumption | omega)) k_X5_38 (isO_fig (by omega : q < 9)) rfl (Nat.le_of_ble_eq_true rfl) (by decide) (by decide) ⟨by decide, by decide⟩ dX5_layLux_111 (fun m28 e29 => ?_)
                    refine z_pop (pc := 114) hO dX5_layLux_114 rfl ?_
                    refine z_aload_n (pc := 115) hO 4 dX5_layLux_115 rfl rfl ?_
                    refine z_iload (pc := 116) hO 1 dX5_layLux_116 rfl ?_
                    refine z_iconst (pc := 118) hO dX5_layLux_118 ?_
                    refine z_iadd (pc := 119) hO dX5_layLux_119 ?_
                    refine z_iload (pc := 120) hO 2 dX5_layLux_120 rfl ?_
                    refine z_if_eq (pc := 122) hO (tgt := 132) dX5_layLux_122 (by decide) (by decide) (fun h => absurd h (by decide)) (fun _ => ?_)
                    refine z_iload (pc := 125) hO 3 dX5_layLux_125 rfl ?_
                    refine z_iconst (pc := 127) hO dX5_layLux_127 ?_
                    refine z_iadd (pc := 128) hO dX5_layLux_128 ?_
                    refine z_goto (pc := 129) hO (tgt := 136) dX5_layLux_129 (by decide) ?_
                    refine z_callVIm (pc := 136) hO (As := [.int (zi ((w (10 + q) 1 * (2 * r) + (2 * c)) + 1)), .int (zi ((4 * ((nc w s (w (10 + s) 1 * r + c)) - 1)) + 4))]) (st := []) (c_X1_write (qL Γ) g m28 q ((w (10 + q) 1 * (2 * r) + (2 * c)) + 1) ((4 * ((nc w s (w (10 + s) 1 * r + c)) - 1)) + 4) (by first | assumption | omega) (by first | assumption | omega)) k_X5_38 (isO_fig (by omega : q < 9)) rfl (Nat.le_of_ble_eq_true rfl) (by decide) (by decide) ⟨by decide, by decide⟩ dX5_layLux_136 (fun m30 e31 => ?_)
                    refine z_pop (pc := 139) hO dX5_layLux_139 rfl ?_
                    refine z_aload_n (pc := 140) hO 4 dX5_layLux_140 rfl rfl ?_
                    refine z_iload (pc := 141) hO 0 dX5_layLux_141 rfl ?_
                    refine z_iload (pc := 143) hO 3 dX5_layLux_143 rfl ?_
                    refine z_iconst (pc := 145) hO dX5_layLux_145 ?_
                    refine z_iadd (pc := 146) hO dX5_layLux_146 ?_
                    refine z_callVIm (pc := 147) hO (As := [.int (zi (w (10 + q) 1 * ((2 * r) + 1) + (2 * c))), .int (zi ((4 * ((nc w s (w (10 + s) 1 * r + c)) - 1)) + 2))]) (st := []) (c_X1_write (qL Γ) g m30 q (w (10 + q) 1 * ((2 * r) + 1) + (2 * c)) ((4 * ((nc w s (w (10 + s) 1 * r + c)) - 1)) + 2) (by first | assumption | omega) (by first | assumption | omega)) k_X5_38 (isO_fig (by omega : q < 9)) rfl (Nat.le_of_ble_eq_true rfl) (by decide) (by decide) ⟨by decide, by decide⟩ dX5_layLux_147 (fun m32 e33 => ?_)
                    refine z_pop (pc := 150) hO dX5_layLux_150 rfl ?_
                    refine z_aload_n (pc := 151) hO 4 dX5_layLux_151 rfl rfl ?_
                    refine z_iload (pc := 152) hO 0 dX5_layLux_152 rfl ?_
                    refine z_iconst (pc := 154) hO dX5_layLux_154 ?_
                    refine z_iadd (pc := 155) hO dX5_layLux_155 ?_
                    refine z_iload (pc := 156) hO 3 dX5_layLux_156 rfl ?_
                    refine z_iconst (pc := 158) hO dX5_layLux_158 ?_
                    refine z_iadd (pc := 159) hO dX5_layLux_159 ?_
                    refine z_callVIm (pc := 160) hO (As := [.int (zi ((w (10 + q) 1 * ((2 * r) + 1) + (2 * c)) + 1)), .int (zi ((4 * ((nc w s (w (10 + s) 1 * r + c)) - 1)) + 3))]) (st := []) (c_X1_write (qL Γ) g m32 q ((w (10 + q) 1 * ((2 * r) + 1) + (2 * c)) + 1) ((4 * ((nc w s (w (10 + s) 1 * r + c)) - 1)) + 3) (by first | assumption | omega) (by first | assumption | omega)) k_X5_38 (isO_fig (by omega : q < 9)) rfl (Nat.le_of_ble_eq_true rfl) (by decide) (by decide) ⟨by decide, by decide⟩ dX5_layLux_160 (fun m34 e35 => ?_)
                    refine z_pop (pc := 163) hO dX5_layLux_163 rfl ?_
                    refine z_iinc (pc := 164) hO 7 (lv' := [(3, .int (zi (c + 1))), (7, .int (zi (w (10 + q) 1 * ((2 * r) + 1) + (2 * c)))), (6, .int (zi (w (10 + q) 1 * (2 * r) + (2 * c)))), (5, .int (zi 1)), (4, .int (zi (4 * ((nc w s (w (10 + s) 1 * r + c)) - 1)))), (0, .ref (gA g (10 + q))), (1, .ref (gA g (10 + s))), (2, .int (zi r))]) dX5_layLux_164 rfl (by decide) rfl ?_
                    refine z_goto (pc := 167) hO (tgt := 18) dX5_layLux_167 (by decide) ?_
                    refine z_sub [5, 6, 7, 0] rfl ?_
                    exact ih18 (c + 1) m34 (by omega) (by omega) (by intro p a0 a1; subst m34 m32 m30 m28; rw [up4, hP0, hP1]; rw [if_neg (by omega), if_neg (by omega), if_neg (by omega), if_neg (by omega)]; exact j3 p a0 a1) (by intro p a0 a1 a2; subst m34 m32 m30 m28; rw [up4, hP0, hP1, hV]; exact dite (p = 12 * r + 2 * c + 7) (fun e3 => by (rw [if_pos (by omega), lux_at (r := r) (c := c) (a := 1) (b := 1) (by omega) (by omega) (by omega) (by omega) (by omega)]; simp)) (fun e3 => by (rw [if_neg (by omega)]; exact dite (p = 12 * r + 2 * c + 6) (fun e2 => by (rw [if_pos (by omega), lux_at (r := r) (c := c) (a := 1) (b := 0) (by omega) (by omega) (by omega) (by omega) (by omega)]; simp)) (fun e2 => by (rw [if_neg (by omega)]; exact dite (p = 12 * r + 2 * c + 1) (fun e1 => by (rw [if_pos (by omega), lux_at (r := r) (c := c) (a := 0) (b := 1) (by omega) (by omega) (by omega) (by omega) (by omega)]; simp only [if_true, if_false, show ¬ ((1 : Int) = 0) by decide]; first | (rw [if_pos (by omega)]; done) | (rw [if_neg (by omega)]; done))) (fun e1 => by (rw [if_neg (by omega)]; exact dite (p = 12 * r + 2 * c) (fun e0 => by (rw [if_pos (by omega), lux_at (r := r) (c := c) (a := 0) (b := 0) (by omega) (by omega) (by omega) (by omega) (by omega)]; simp only [if_true]; first | (rw [if_pos (by omega)]; done) | (rw [if_neg (by omega)]; done))) (fun e0 => by (rw [if_neg (by omega)]; exact j4 p a0 a1 (by omega)))))))))) (by subst m34 m32 m30 m28; refine ⟨?_, ?_⟩; (iterate 4 rw [up_i _ _ _ (by omega)]); exact j6.1; rw [← j6.2]; apply nc_of; (iterate 4 rw [up_i _ _ _ (by omega)])) (by intro a a1 a2 a3; subst m34 m32 m30 m28; (iterate 4 rw [up_i _ _ _ (by omega)]); exact j5 a a1 a2 a3)
              · refine z_iload_n (pc := 44) hO 4 dX5_layLux_44 rfl rfl ?_
                refine z_iconst (pc := 45) hO dX5_layLux_45 ?_
                refine z_icmp_eq (pc := 46) hO (tgt := 59) dX5_layLux_46 (by decide) (by omega) (by omega) (fun b36 => ?_) (fun b36 => ?_)
                · refine z_iconst (pc := 59) hO dX5_layLux_59 ?_
                  refine z_goto (pc := 60) hO (tgt := 64) dX5_layLux_60 (by decide) ?_
                  refine z_istore (pc := 64) hO (lv' := [(5, .int (zi 1)), (4, .int (zi (4 * ((nc w s (w (10 + s) 1 * r + c)) - 1)))), (0, .ref (gA g (10 + q))), (1, .ref (gA g (10 + s))), (2, .int (zi r)), (3, .int (zi c))]) dX5_layLux_64 (by decide) rfl ?_
                  refine z_aload_n (pc := 66) hO 2 dX5_layLux_66 rfl rfl ?_
                  refine z_iconst (pc := 67) hO dX5_layLux_67 ?_
                  refine z_iload_n (pc := 68) hO 4 dX5_layLux_68 rfl rfl ?_
                  refine z_imul (pc := 69) hO dX5_layLux_69 ?_
                  refine z_iconst (pc := 70) hO dX5_layLux_70 ?_
                  refine z_iload_n (pc := 71) hO 5 dX5_layLux_71 rfl rfl ?_
                  refine z_imul (pc := 72) hO dX5_layLux_72 ?_
                  refine z_callVIp (pc := 73) hO (As := [.int (zi (2 * r)), .int (zi (2 * c))]) (st := []) (c_X1_placeOf (qL Γ) g w q (2 * r) (2 * c) (by first | assumption | omega)) k_X5_34 (isO_fig (by omega : q < 9)) rfl (Nat.le_of_ble_eq_true rfl) (by decide) (by decide) ⟨by decide, by decide⟩ dX5_layLux_73 ?_
                  refine z_istore (pc := 76) hO (lv' := [(6, .int (zi (w (10 + q) 1 * (2 * r) + (2 * c)))), (5, .int (zi 1)), (4, .int (zi (4 * ((nc w s (w (10 + s) 1 * r + c)) - 1)))), (0, .ref (gA g (10 + q))), (1, .ref (gA g (10 + s))), (2, .int (zi r)), (3, .int (zi c))]) dX5_layLux_76 (by decide) rfl ?_
                  refine z_aload_n (pc := 78) hO 3 dX5_layLux_78 rfl rfl ?_
                  refine z_iconst (pc := 79) hO dX5_layLux_79 ?_
                  refine z_iload_n (pc := 80) hO 5 dX5_layLux_80 rfl rfl ?_
                  refine z_imul (pc := 81) hO dX5_layLux_81 ?_
                  refine z_iconst (pc := 82) hO dX5_layLux_82 ?_
                  refine z_iadd (pc := 83) hO dX5_layLux_83 ?_
                  refine z_iconst (pc := 84) hO dX5_layLux_84 ?_
                  refine z_iload_n (pc := 85) hO 6 dX5_layLux_85 rfl rfl ?_
                  refine z_imul (pc := 86) hO dX5_layLux_86 ?_
                  refine z_callVIp (pc := 87) hO (As := [.int (zi ((2 * r) + 1)), .int (zi (2 * c))]) (st := []) (c_X1_placeOf (qL Γ) g w q ((2 * r) + 1) (2 * c) (by first | assumption | omega)) k_X5_34 (isO_fig (by omega : q < 9)) rfl (Nat.le_of_ble_eq_true rfl) (by decide) (by decide) ⟨by decide, by decide⟩ dX5_layLux_87 ?_
                  refine z_istore (pc := 90) hO (lv' := [(7, .int (zi (w (10 + q) 1 * ((2 * r) + 1) + (2 * c)))), (6, .int (zi (w (10 + q) 1 * (2 * r) + (2 * c)))), (5, .int (zi 1)), (4, .int (zi (4 * ((nc w s (w (10 + s) 1 * r + c)) - 1)))), (0, .ref (gA g (10 + q))), (1, .ref (gA g (10 + s))), (2, .int (zi r)), (3, .int (zi c))]) dX5_layLux_90 (by decide) rfl ?_
                  refine z_aload_n (pc := 92) hO 4 dX5_layLux_92 rfl rfl ?_
                  refine z_iload (pc := 93) hO 1 dX5_layLux_93 rfl ?_
                  refine z_iload (pc := 95) hO 2 dX5_layLux_95 rfl ?_
                  refine z_if_eq (pc := 97) hO (tgt := 107) dX5_layLux_97 (by decide) (by decide) (fun h => absurd h (by decide)) (fun _ => ?_)
                  refine z_iload (pc := 100) hO 3 dX5_layLux_100 rfl ?_
                  refine z_iconst (pc := 102) hO dX5_layLux_102 ?_
                  refine z_iadd (pc := 103) hO dX5_layLux_103 ?_
                  refine z_goto (pc := 104) hO (tgt := 111) dX5_layLux_104 (by decide) ?_
                  refine z_callVIm (pc := 111) hO (As := [.int (zi (w (10 + q) 1 * (2 * r) + (2 * c))), .int (zi ((4 * ((nc w s (w (10 + s) 1 * r + c)) - 1)) + 1))]) (st := []) (c_X1_write (qL Γ) g w q (w (10 + q) 1 * (2 * r) + (2 * c)) ((4 * ((nc w s (w (10 + s) 1 * r + c)) - 1)) + 1) (by first | assumption | omega) (by first | assumption | omega)) k_X5_38 (isO_fig (by omega : q < 9)) rfl (Nat.le_of_ble_eq_true rfl) (by decide) (by decide) ⟨by decide, by decide⟩ dX5_layLux_111 (fun m37 e38 => ?_)
                  refine z_pop (pc := 114) hO dX5_layLux_114 rfl ?_
                  refine z_aload_n (pc := 115) hO 4 dX5_layLux_115 rfl rfl ?_
                  refine z_iload (pc := 116) hO 1 dX5_layLux_116 rfl ?_
                  refine z_iconst (pc := 118) hO dX5_layLux_118 ?_
                  refine z_iadd (pc := 119) hO dX5_layLux_119 ?_
                  refine z_iload (pc := 120) hO 2 dX5_layLux_120 rfl ?_
                  refine z_if_eq (pc := 122) hO (tgt := 132) dX5_layLux_122 (by decide) (by decide) (fun h => absurd h (by decide)) (fun _ => ?_)
                  refine z_iload (pc := 125) hO 3 dX5_layLux_125 rfl ?_
                  refine z_iconst (pc := 127) hO dX5_layLux_127 ?_
                  refine z_iadd (pc := 128) hO dX5_layLux_128 ?_
                  refine z_goto (pc := 129) hO (tgt := 136) dX5_layLux_129 (by decide) ?_
                  refine z_callVIm (pc := 136) hO (As := [.int (zi ((w (10 + q) 1 * (2 * r) + (2 * c)) + 1)), .int (zi ((4 * ((nc w s (w (10 + s) 1 * r + c)) - 1)) + 4))]) (st := []) (c_X1_write (qL Γ) g m37 q ((w (10 + q) 1 * (2 * r) + (2 * c)) + 1) ((4 * ((nc w s (w (10 + s) 1 * r + c)) - 1)) + 4) (by first | assumption | omega) (by first | assumption | omega)) k_X5_38 (isO_fig (by omega : q < 9)) rfl (Nat.le_of_ble_eq_true rfl) (by decide) (by decide) ⟨by decide, by decide⟩ dX5_layLux_136 (fun m39 e40 => ?_)
                  refine z_pop (pc := 139) hO dX5_layLux_139 rfl ?_
                  refine z_aload_n (pc := 140) hO 4 dX5_layLux_140 rfl rfl ?_
                  refine z_iload (pc := 141) hO 0 dX5_layLux_141 rfl ?_
                  refine z_iload (pc := 143) hO 3 dX5_layLux_143 rfl ?_
                  refine z_iconst (pc := 145) hO dX5_layLux_145 ?_
                  refine z_iadd (pc := 146) hO dX5_layLux_146 ?_
                  refine z_callVIm (pc := 147) hO (As := [.int (zi (w (10 + q) 1 * ((2 * r) + 1) + (2 * c))), .int (zi ((4 * ((nc w s (w (10 + s) 1 * r + c)) - 1)) + 2))]) (st := []) (c_X1_write (qL Γ) g m39 q (w (10 + q) 1 * ((2 * r) + 1) + (2 * c)) ((4 * ((nc w s (w (10 + s) 1 * r + c)) - 1)) + 2) (by first | assumption | omega) (by first | assumption | omega)) k_X5_38 (isO_fig (by omega : q < 9)) rfl (Nat.le_of_ble_eq_true rfl) (by decide) (by decide) ⟨by decide, by decide⟩ dX5_layLux_147 (fun m41 e42 => ?_)
                  refine z_pop (pc := 150) hO dX5_layLux_150 rfl ?_
                  refine z_aload_n (pc := 151) hO 4 dX5_layLux_151 rfl rfl ?_
                  refine z_iload (pc := 152) hO 0 dX5_layLux_152 rfl ?_
                  refine z_iconst (pc := 154) hO dX5_layLux_154 ?_
                  refine z_iadd (pc := 155) hO dX5_layLux_155 ?_
                  refine z_iload (pc := 156) hO 3 dX5_layLux_156 rfl ?_
                  refine z_iconst (pc := 158) hO dX5_layLux_158 ?_
                  refine z_iadd (pc := 159) hO dX5_layLux_159 ?_
                  refine z_callVIm (pc := 160) hO (As := [.int (zi ((w (10 + q) 1 * ((2 * r) + 1) + (2 * c)) + 1)), .int (zi ((4 * ((nc w s (w (10 + s) 1 * r + c)) - 1)) + 3))]) (st := []) (c_X1_write (qL Γ) g m41 q ((w (10 + q) 1 * ((2 * r) + 1) + (2 * c)) + 1) ((4 * ((nc w s (w (10 + s) 1 * r + c)) - 1)) + 3) (by first | assumption | omega) (by first | assumption | omega)) k_X5_38 (isO_fig (by omega : q < 9)) rfl (Nat.le_of_ble_eq_true rfl) (by decide) (by decide) ⟨by decide, by decide⟩ dX5_layLux_160 (fun m43 e44 => ?_)
                  refine z_pop (pc := 163) hO dX5_layLux_163 rfl ?_
                  refine z_iinc (pc := 164) hO 7 (lv' := [(3, .int (zi (c + 1))), (7, .int (zi (w (10 + q) 1 * ((2 * r) + 1) + (2 * c)))), (6, .int (zi (w (10 + q) 1 * (2 * r) + (2 * c)))), (5, .int (zi 1)), (4, .int (zi (4 * ((nc w s (w (10 + s) 1 * r + c)) - 1)))), (0, .ref (gA g (10 + q))), (1, .ref (gA g (10 + s))), (2, .int (zi r))]) dX5_layLux_164 rfl (by decide) rfl ?_
                  refine z_goto (pc := 167) hO (tgt := 18) dX5_layLux_167 (by decide) ?_
                  refine z_sub [5, 6, 7, 0] rfl ?_
                  exact ih18 (c + 1) m43 (by omega) (by omega) (by intro p a0 a1; subst m43 m41 m39 m37; rw [up4, hP0, hP1]; rw [if_neg (by omega), if_neg (by omega), if_neg (by omega), if_neg (by omega)]; exact j3 p a0 a1) (by intro p a0 a1 a2; subst m43 m41 m39 m37; rw [up4, hP0, hP1, hV]; exact dite (p = 12 * r + 2 * c + 7) (fun e3 => by (rw [if_pos (by omega), lux_at (r := r) (c := c) (a := 1) (b := 1) (by omega) (by omega) (by omega) (by omega) (by omega)]; simp)) (fun e3 => by (rw [if_neg (by omega)]; exact dite (p = 12 * r + 2 * c + 6) (fun e2 => by (rw [if_pos (by omega), lux_at (r := r) (c := c) (a := 1) (b := 0) (by omega) (by omega) (by omega) (by omega) (by omega)]; simp)) (fun e2 => by (rw [if_neg (by omega)]; exact dite (p = 12 * r + 2 * c + 1) (fun e1 => by (rw [if_pos (by omega), lux_at (r := r) (c := c) (a := 0) (b := 1) (by omega) (by omega) (by omega) (by omega) (by omega)]; simp only [if_true, if_false, show ¬ ((1 : Int) = 0) by decide]; first | (rw [if_pos (by omega)]; done) | (rw [if_neg (by omega)]; done))) (fun e1 => by (rw [if_neg (by omega)]; exact dite (p = 12 * r + 2 * c) (fun e0 => by (rw [if_pos (by omega), lux_at (r := r) (c := c) (a := 0) (b := 0) (by omega) (by omega) (by omega) (by omega) (by omega)]; simp only [if_true]; first | (rw [if_pos (by omega)]; done) | (rw [if_neg (by omega)]; done))) (fun e0 => by (rw [if_neg (by omega)]; exact j4 p a0 a1 (by omega)))))))))) (by subst m43 m41 m39 m37; refine ⟨?_, ?_⟩; (iterate 4 rw [up_i _ _ _ (by omega)]); exact j6.1; rw [← j6.2]; apply nc_of; (iterate 4 rw [up_i _ _ _ (by omega)])) (by intro a a1 a2 a3; subst m43 m41 m39 m37; (iterate 4 rw [up_i _ _ _ (by omega)]); exact j5 a a1 a2 a3)
                · refine z_iload_n (pc := 49) hO 3 dX5_layLux_49 rfl rfl ?_
                  refine z_iconst (pc := 50) hO dX5_layLux_50 ?_
                  refine z_icmp_ne (pc := 51) hO (tgt := 63) dX5_layLux_51 (by decide) (by omega) (by omega) (fun b45 => ?_) (fun b45 => ?_)
                  · refine z_iconst (pc := 63) hO dX5_layLux_63 ?_
                    refine z_istore (pc := 64) hO (lv' := [(5, .int (zi 0)), (4, .int (zi (4 * ((nc w s (w (10 + s) 1 * r + c)) - 1)))), (0, .ref (gA g (10 + q))), (1, .ref (gA g (10 + s))), (2, .int (zi r)), (3, .int (zi c))]) dX5_layLux_64 (by decide) rfl ?_
                    refine z_aload_n (pc := 66) hO 2 dX5_layLux_66 rfl rfl ?_
                    refine z_iconst (pc := 67) hO dX5_layLux_67 ?_
                    refine z_iload_n (pc := 68) hO 4 dX5_layLux_68 rfl rfl ?_
                    refine z_imul (pc := 69) hO dX5_layLux_69 ?_
                    refine z_iconst (pc := 70) hO dX5_layLux_70 ?_
                    refine z_iload_n (pc := 71) hO 5 dX5_layLux_71 rfl rfl ?_
                    refine z_imul (pc := 72) hO dX5_layLux_72 ?_
                    refine z_callVIp (pc := 73) hO (As := [.int (zi (2 * r)), .int (zi (2 * c))]) (st := []) (c_X1_placeOf (qL Γ) g w q (2 * r) (2 * c) (by first | assumption | omega)) k_X5_34 (isO_fig (by omega : q < 9)) rfl (Nat.le_of_ble_eq_true rfl) (by decide) (by decide) ⟨by decide, by decide⟩ dX5_layLux_73 ?_
                    refine z_istore (pc := 76) hO (lv' := [(6, .int (zi (w (10 + q) 1 * (2 * r) + (2 * c)))), (5, .int (zi 0)), (4, .int (zi (4 * ((nc w s (w (10 + s) 1 * r + c)) - 1)))), (0, .ref (gA g (10 + q))), (1, .ref (gA g (10 + s))), (2, .int (zi r)), (3, .int (zi c))]) dX5_layLux_76 (by decide) rfl ?_
                    refine z_aload_n (pc := 78) hO 3 dX5_layLux_78 rfl rfl ?_
                    refine z_iconst (pc := 79) hO dX5_layLux_79 ?_
                    refine z_iload_n (pc := 80) hO 5 dX5_layLux_80 rfl rfl ?_
                    refine z_imul (pc := 81) hO dX5_layLux_81 ?_
                    refine z_iconst (pc := 82) hO dX5_layLux_82 ?_
                    refine z_iadd (pc := 83) hO dX5_layLux_83 ?_
                    refine z_iconst (pc := 84) hO dX5_layLux_84 ?_
                    refine z_iload_n (pc := 85) hO 6 dX5_layLux_85 rfl rfl ?_
                    refine z_imul (pc := 86) hO dX5_layLux_86 ?_
                    refine z_callVIp (pc := 87) hO (As := [.int (zi ((2 * r) + 1)), .int (zi (2 * c))]) (st := []) (c_X1_placeOf (qL Γ) g w q ((2 * r) + 1) (2 * c) (by first | assumption | omega)) k_X5_34 (isO_fig (by omega : q < 9)) rfl (Nat.le_of_ble_eq_true rfl) (by decide) (by decide) ⟨by decide, by decide⟩ dX5_layLux_87 ?_
                    refine z_istore (pc := 90) hO (lv' := [(7, .int (zi (w (10 + q) 1 * ((2 * r) + 1) + (2 * c)))), (6, .int (zi (w (10 + q) 1 * (2 * r) + (2 * c)))), (5, .int (zi 0)), (4, .int (zi (4 * ((nc w s (w (10 + s) 1 * r + c)) - 1)))), (0, .ref (gA g (10 + q))), (1, .ref (gA g (10 + s))), (2, .int (zi r)), (3, .int (zi c))]) dX5_layLux_90 (by decide) rfl ?_
                    refine z_aload_n (pc := 92) hO 4 dX5_layLux_92 rfl rfl ?_
                    refine z_iload (pc := 93) hO 1 dX5_layLux_93 rfl ?_
                    refine z_iload (pc := 95) hO 2 dX5_layLux_95 rfl ?_
                    refine z_if_eq (pc := 97) hO (tgt := 107) dX5_layLux_97 (by decide) (by decide) (fun _ => ?_) (fun h => absurd h (by decide))
                    refine z_iload (pc := 107) hO 3 dX5_layLux_107 rfl ?_
                    refine z_iconst (pc := 109) hO dX5_layLux_109 ?_
                    refine z_iadd (pc := 110) hO dX5_layLux_110 ?_
                    refine z_callVIm (pc := 111) hO (As := [.int (zi (w (10 + q) 1 * (2 * r) + (2 * c))), .int (zi ((4 * ((nc w s (w (10 + s) 1 * r + c)) - 1)) + 4))]) (st := []) (c_X1_write (qL Γ) g w q (w (10 + q) 1 * (2 * r) + (2 * c)) ((4 * ((nc w s (w (10 + s) 1 * r + c)) - 1)) + 4) (by first | assumption | omega) (by first | assumption | omega)) k_X5_38 (isO_fig (by omega : q < 9)) rfl (Nat.le_of_ble_eq_true rfl) (by decide) (by decide) ⟨by decide, by decide⟩ dX5_layLux_111 (fun m46 e47 => ?_)
                    refine z_pop (pc := 114) hO dX5_layLux_114 rfl ?_
                    refine z_aload_n (pc := 115) hO 4 dX5_layLux_115 rfl rfl ?_
                    refine z_iload (pc := 116) hO 1 dX5_layLux_116 rfl ?_
                    refine z_iconst (pc := 118) hO dX5_layLux_118 ?_
                    refine z_iadd (pc := 119) hO dX5_layLux_119 ?_
                    refine z_iload (pc := 120) hO 2 dX5_layLux_120 rfl ?_
                    refine z_if_eq (pc := 122) hO (tgt := 132) dX5_layLux_122 (by decide) (by decide) (fun _ => ?_) (fun h => absurd h (by decide))
                    refine z_iload (pc := 132) hO 3 dX5_layLux_132 rfl ?_
                    refine z_iconst (pc := 134) hO dX5_layLux_134 ?_
                    refine z_iadd (pc := 135) hO dX5_layLux_135 ?_
                    refine z_callVIm (pc := 136) hO (As := [.int (zi ((w (10 + q) 1 * (2 * r) + (2 * c)) + 1)), .int (zi ((4 * ((nc w s (w (10 + s) 1 * r + c)) - 1)) + 1))]) (st := []) (c_X1_write (qL Γ) g m46 q ((w (10 + q) 1 * (2 * r) + (2 * c)) + 1) ((4 * ((nc w s (w (10 + s) 1 * r + c)) - 1)) + 1) (by first | assumption | omega) (by first | assumption | omega)) k_X5_38 (isO_fig (by omega : q < 9)) rfl (Nat.le_of_ble_eq_true rfl) (by decide) (by decide) ⟨by decide, by decide⟩ dX5_layLux_136 (fun m48 e49 => ?_)
                    refine z_pop (pc := 139) hO dX5_layLux_139 rfl ?_
                    refine z_aload_n (pc := 140) hO 4 dX5_layLux_140 rfl rfl ?_
                    refine z_iload (pc := 141) hO 0 dX5_layLux_141 rfl ?_
                    refine z_iload (pc := 143) hO 3 dX5_layLux_143 rfl ?_
                    refine z_iconst (pc := 145) hO dX5_layLux_145 ?_
                    refine z_iadd (pc := 146) hO dX5_layLux_146 ?_
                    refine z_callVIm (pc := 147) hO (As := [.int (zi (w (10 + q) 1 * ((2 * r) + 1) + (2 * c))), .int (zi ((4 * ((nc w s (w (10 + s) 1 * r + c)) - 1)) + 2))]) (st := []) (c_X1_write (qL Γ) g m48 q (w (10 + q) 1 * ((2 * r) + 1) + (2 * c)) ((4 * ((nc w s (w (10 + s) 1 * r + c)) - 1)) + 2) (by first | assumption | omega) (by first | assumption | omega)) k_X5_38 (isO_fig (by omega : q < 9)) rfl (Nat.le_of_ble_eq_true rfl) (by decide) (by decide) ⟨by decide, by decide⟩ dX5_layLux_147 (fun m50 e51 => ?_)
                    refine z_pop (pc := 150) hO dX5_layLux_150 rfl ?_
                    refine z_aload_n (pc := 151) hO 4 dX5_layLux_151 rfl rfl ?_
                    refine z_iload (pc := 152) hO 0 dX5_layLux_152 rfl ?_
                    refine z_iconst (pc := 154) hO dX5_layLux_154 ?_
                    refine z_iadd (pc := 155) hO dX5_layLux_155 ?_
                    refine z_iload (pc := 156) hO 3 dX5_layLux_156 rfl ?_
                    refine z_iconst (pc := 158) hO dX5_layLux_158 ?_
                    refine z_iadd (pc := 159) hO dX5_layLux_159 ?_
                    refine z_callVIm (pc := 160) hO (As := [.int (zi ((w (10 + q) 1 * ((2 * r) + 1) + (2 * c)) + 1)), .int (zi ((4 * ((nc w s (w (10 + s) 1 * r + c)) - 1)) + 3))]) (st := []) (c_X1_write (qL Γ) g m50 q ((w (10 + q) 1 * ((2 * r) + 1) + (2 * c)) + 1) ((4 * ((nc w s (w (10 + s) 1 * r + c)) - 1)) + 3) (by first | assumption | omega) (by first | assumption | omega)) k_X5_38 (isO_fig (by omega : q < 9)) rfl (Nat.le_of_ble_eq_true rfl) (by decide) (by decide) ⟨by decide, by decide⟩ dX5_layLux_160 (fun m52 e53 => ?_)
                    refine z_pop (pc := 163) hO dX5_layLux_163 rfl ?_
                    refine z_iinc (pc := 164) hO 7 (lv' := [(3, .int (zi (c + 1))), (7, .int (zi (w (10 + q) 1 * ((2 * r) + 1) + (2 * c)))), (6, .int (zi (w (10 + q) 1 * (2 * r) + (2 * c)))), (5, .int (zi 0)), (4, .int (zi (4 * ((nc w s (w (10 + s) 1 * r + c)) - 1)))), (0, .ref (gA g (10 + q))), (1, .ref (gA g (10 + s))), (2, .int (zi r))]) dX5_layLux_164 rfl (by decide) rfl ?_
                    refine z_goto (pc := 167) hO (tgt := 18) dX5_layLux_167 (by decide) ?_
                    refine z_sub [5, 6, 7, 0] rfl ?_
                    exact ih18 (c + 1) m52 (by omega) (by omega) (by intro p a0 a1; subst m52 m50 m48 m46; rw [up4, hP0, hP1]; rw [if_neg (by omega), if_neg (by omega), if_neg (by omega), if_neg (by omega)]; exact j3 p a0 a1) (by intro p a0 a1 a2; subst m52 m50 m48 m46; rw [up4, hP0, hP1, hV]; exact dite (p = 12 * r + 2 * c + 7) (fun e3 => by (rw [if_pos (by omega), lux_at (r := r) (c := c) (a := 1) (b := 1) (by omega) (by omega) (by omega) (by omega) (by omega)]; simp)) (fun e3 => by (rw [if_neg (by omega)]; exact dite (p = 12 * r + 2 * c + 6) (fun e2 => by (rw [if_pos (by omega), lux_at (r := r) (c := c) (a := 1) (b := 0) (by omega) (by omega) (by omega) (by omega) (by omega)]; simp)) (fun e2 => by (rw [if_neg (by omega)]; exact dite (p = 12 * r + 2 * c + 1) (fun e1 => by (rw [if_pos (by omega), lux_at (r := r) (c := c) (a := 0) (b := 1) (by omega) (by omega) (by omega) (by omega) (by omega)]; simp only [if_true, if_false, show ¬ ((1 : Int) = 0) by decide]; first | (rw [if_pos (by omega)]; done) | (rw [if_neg (by omega)]; done))) (fun e1 => by (rw [if_neg (by omega)]; exact dite (p = 12 * r + 2 * c) (fun e0 => by (rw [if_pos (by omega), lux_at (r := r) (c := c) (a := 0) (b := 0) (by omega) (by omega) (by omega) (by omega) (by omega)]; simp only [if_true]; first | (rw [if_pos (by omega)]; done) | (rw [if_neg (by omega)]; done))) (fun e0 => by (rw [if_neg (by omega)]; exact j4 p a0 a1 (by omega)))))))))) (by subst m52 m50 m48 m46; refine ⟨?_, ?_⟩; (iterate 4 rw [up_i _ _ _ (by omega)]); exact j6.1; rw [← j6.2]; apply nc_of; (iterate 4 rw [up_i _ _ _ (by omega)])) (by intro a a1 a2 a3; subst m52 m50 m48 m46; (iterate 4 rw [up_i _ _ _ (by omega)]); exact j5 a a1 a2 a3)
                  · refine z_iload_n (pc := 54) hO 4 dX5_layLux_54 rfl rfl ?_
                    refine z_iconst (pc := 55) hO dX5_layLux_55 ?_
                    refine z_icmp_eq (pc := 56) hO (tgt := 63) dX5_layLux_56 (by decide) (by omega) (by omega) (fun b54 => ?_) (fun b54 => ?_)
                    · refine z_iconst (pc := 63) hO dX5_layLux_63 ?_
                      refine z_istore (pc := 64) hO (lv' := [(5, .int (zi 0)), (4, .int (zi (4 * ((nc w s (w (10 + s) 1 * r + c)) - 1)))), (0, .ref (gA g (10 + q))), (1, .ref (gA g (10 + s))), (2, .int (zi r)), (3, .int (zi c))]) dX5_layLux_64 (by decide) rfl ?_
                      refine z_aload_n (pc := 66) hO 2 dX5_layLux_66 rfl rfl ?_
                      refine z_iconst (pc := 67) hO dX5_layLux_67 ?_
                      refine z_iload_n (pc := 68) hO 4 dX5_layLux_68 rfl rfl ?_
                      refine z_imul (pc := 69) hO dX5_layLux_69 ?_
                      refine z_iconst (pc := 70) hO dX5_layLux_70 ?_
                      refine z_iload_n (pc := 71) hO 5 dX5_layLux_71 rfl rfl ?_
                      refine z_imul (pc := 72) hO dX5_layLux_72 ?_
                      refine z_callVIp (pc := 73) hO (As := [.int (zi (2 * r)), .int (zi (2 * c))]) (st := []) (c_X1_placeOf (qL Γ) g w q (2 * r) (2 * c) (by first | assumption | omega)) k_X5_34 (isO_fig (by omega : q < 9)) rfl (Nat.le_of_ble_eq_true rfl) (by decide) (by decide) ⟨by decide, by decide⟩ dX5_layLux_73 ?_
                      refine z_istore (pc := 76) hO (lv' := [(6, .int (zi (w (10 + q) 1 * (2 * r) + (2 * c)))), (5, .int (zi 0)), (4, .int (zi (4 * ((nc w s (w (10 + s) 1 * r + c)) - 1)))), (0, .ref (gA g (10 + q))), (1, .ref (gA g (10 + s))), (2, .int (zi r)), (3, .int (zi c))]) dX5_layLux_76 (by decide) rfl ?_
                      refine z_aload_n (pc := 78) hO 3 dX5_layLux_78 rfl rfl ?_
                      refine z_iconst (pc := 79) hO dX5_layLux_79 ?_
                      refine z_iload_n (pc := 80) hO 5 dX5_layLux_80 rfl rfl ?_
                      refine z_imul (pc := 81) hO dX5_layLux_81 ?_
                      refine z_iconst (pc := 82) hO dX5_layLux_82 ?_
                      refine z_iadd (pc := 83) hO dX5_layLux_83 ?_
                      refine z_iconst (pc := 84) hO dX5_layLux_84 ?_
                      refine z_iload_n (pc := 85) hO 6 dX5_layLux_85 rfl rfl ?_
                      refine z_imul (pc := 86) hO dX5_layLux_86 ?_
                      refine z_callVIp (pc := 87) hO (As := [.int (zi ((2 * r) + 1)), .int (zi (2 * c))]) (st := []) (c_X1_placeOf (qL Γ) g w q ((2 * r) + 1) (2 * c) (by first | assumption | omega)) k_X5_34 (isO_fig (by omega : q < 9)) rfl (Nat.le_of_ble_eq_true rfl) (by decide) (by decide) ⟨by decide, by decide⟩ dX5_layLux_87 ?_
                      refine z_istore (pc := 90) hO (lv' := [(7, .int (zi (w (10 + q) 1 * ((2 * r) + 1) + (2 * c)))), (6, .int (zi (w (10 + q) 1 * (2 * r) + (2 * c)))), (5, .int (zi 0)), (4, .int (zi (4 * ((nc w s (w (10 + s) 1 * r + c)) - 1)))), (0, .ref (gA g (10 + q))), (1, .ref (gA g (10 + s))), (2, .int (zi r)), (3, .int (zi c))]) dX5_layLux_90 (by decide) rfl ?_
                      refine z_aload_n (pc := 92) hO 4 dX5_layLux_92 rfl rfl ?_
                      refine z_iload (pc := 93) hO 1 dX5_layLux_93 rfl ?_
                      refine z_iload (pc := 95) hO 2 dX5_layLux_95 rfl ?_
                      refine z_if_eq (pc := 97) hO (tgt := 107) dX5_layLux_97 (by decide) (by decide) (fun _ => ?_) (fun h => absurd h (by decide))
                      refine z_iload (pc := 107) hO 3 dX5_layLux_107 rfl ?_
                      refine z_iconst (pc := 109) hO dX5_layLux_109 ?_
                      refine z_iadd (pc := 110) hO dX5_layLux_110 ?_
                      refine z_callVIm (pc := 111) hO (As := [.int (zi (w (10 + q) 1 * (2 * r) + (2 * c))), .int (zi ((4 * ((nc w s (w (10 + s) 1 * r + c)) - 1)) + 4))]) (st := []) (c_X1_write (qL Γ) g w q (w (10 + q) 1 * (2 * r) + (2 * c)) ((4 * ((nc w s (w (10 + s) 1 * r + c)) - 1)) + 4) (by first | assumption | omega) (by first | assumption | omega)) k_X5_38 (isO_fig (by omega : q < 9)) rfl (Nat.le_of_ble_eq_true rfl) (by decide) (by decide) ⟨by decide, by decide⟩ dX5_layLux_111 (fun m55 e56 => ?_)
                      refine z_pop (pc := 114) hO dX5_layLux_114 rfl ?_
                      refine z_aload_n (pc := 115) hO 4 dX5_layLux_115 rfl rfl ?_
                      refine z_iload (pc := 116) hO 1 dX5_layLux_116 rfl ?_
                      refine z_iconst (pc := 118) hO dX5_layLux_118 ?_
                      refine z_iadd (pc := 119) hO dX5_layLux_119 ?_
                      refine z_iload (pc := 120) hO 2 dX5_layLux_120 rfl ?_
                      refine z_if_eq (pc := 122) hO (tgt := 132) dX5_layLux_122 (by decide) (by decide) (fun _ => ?_) (fun h => absurd h (by decide))
                      refine z_iload (pc := 132) hO 3 dX5_layLux_132 rfl ?_
                      refine z_iconst (pc := 134) hO dX5_layLux_134 ?_
                      refine z_iadd (pc := 135) hO dX5_layLux_135 ?_
                      refine z_callVIm (pc := 136) hO (As := [.int (zi ((w (10 + q) 1 * (2 * r) + (2 * c)) + 1)), .int (zi ((4 * ((nc w s (w (10 + s) 1 * r + c)) - 1)) + 1))]) (st := []) (c_X1_write (qL Γ) g m55 q ((w (10 + q) 1 * (2 * r) + (2 * c)) + 1) ((4 * ((nc w s (w (10 + s) 1 * r + c)) - 1)) + 1) (by first | assumption | omega) (by first | assumption | omega)) k_X5_38 (isO_fig (by omega : q < 9)) rfl (Nat.le_of_ble_eq_true rfl) (by decide) (by decide) ⟨by decide, by decide⟩ dX5_layLux_136 (fun m57 e58 => ?_)
                      refine z_pop (pc := 139) hO dX5_layLux_139 rfl ?_
                      refine z_aload_n (pc := 140) hO 4 dX5_layLux_140 rfl rfl ?_
                      refine z_iload (pc := 141) hO 0 dX5_layLux_141 rfl ?_
                      refine z_iload (pc := 143) hO 3 dX5_layLux_143 rfl ?_
                      refine z_iconst (pc := 145) hO dX5_layLux_145 ?_
                      refine z_iadd (pc := 146) hO dX5_layLux_146 ?_
                      refine z_callVIm (pc := 147) hO (As := [.int (zi (w (10 + q) 1 * ((2 * r) + 1) + (2 * c))), .int (zi ((4 * ((nc w s (w (10 + s) 1 * r + c)) - 1)) + 2))]) (st := []) (c_X1_write (qL Γ) g m57 q (w (10 + q) 1 * ((2 * r) + 1) + (2 * c)) ((4 * ((nc w s (w (10 + s) 1 * r + c)) - 1)) + 2) (by first | assumption | omega) (by first | assumption | omega)) k_X5_38 (isO_fig (by omega : q < 9)) rfl (Nat.le_of_ble_eq_true rfl) (by decide) (by decide) ⟨by decide, by decide⟩ dX5_layLux_147 (fun m59 e60 => ?_)
                      refine z_pop (pc := 150) hO dX5_layLux_150 rfl ?_
                      refine z_aload_n (pc := 151) hO 4 dX5_layLux_151 rfl rfl ?_
                      refine z_iload (pc := 152) hO 0 dX5_layLux_152 rfl ?_
                      refine z_iconst (pc := 154) hO dX5_layLux_154 ?_
                      refine z_iadd (pc := 155) hO dX5_layLux_155 ?_
                      refine z_iload (pc := 156) hO 3 dX5_layLux_156 rfl ?_
                      refine z_iconst (pc := 158) hO dX5_layLux_158 ?_
                      refine z_iadd (pc := 159) hO dX5_layLux_159 ?_
                      refine z_callVIm (pc := 160) hO (As := [.int (zi ((w (10 + q) 1 * ((2 * r) + 1) + (2 * c)) + 1)), .int (zi ((4 * ((nc w s (w (10 + s) 1 * r + c)) - 1)) + 3))]) (st := []) (c_X1_write (qL Γ) g m59 q ((w (10 + q) 1 * ((2 * r) + 1) + (2 * c)) + 1) ((4 * ((nc w s (w (10 + s) 1 * r + c)) - 1)) + 3) (by first | assumption | omega) (by first | assumption | omega)) k_X5_38 (isO_fig (by omega : q < 9)) rfl (Nat.le_of_ble_eq_true rfl) (by decide) (by decide) ⟨by decide, by decide⟩ dX5_layLux_160 (fun m61 e62 => ?_)
                      refine z_pop (pc := 163) hO dX5_layLux_163 rfl ?_
                      refine z_iinc (pc := 164) hO 7 (lv' := [(3, .int (zi (c + 1))), (7, .int (zi (w (10 + q) 1 * ((2 * r) + 1) + (2 * c)))), (6, .int (zi (w (10 + q) 1 * (2 * r) + (2 * c)))), (5, .int (zi 0)), (4, .int (zi (4 * ((nc w s (w (10 + s) 1 * r + c)) - 1)))), (0, .ref (gA g (10 + q))), (1, .ref (gA g (10 + s))), (2, .int (zi r))]) dX5_layLux_164 rfl (by decide) rfl ?_
                      refine z_goto (pc := 167) hO (tgt := 18) dX5_layLux_167 (by decide) ?_
                      refine z_sub [5, 6, 7, 0] rfl ?_
                      exact ih18 (c + 1) m61 (by omega) (by omega) (by intro p a0 a1; subst m61 m59 m57 m55; rw [up4, hP0, hP1]; rw [if_neg (by omega), if_neg (by omega), if_neg (by omega), if_neg (by omega)]; exact j3 p a0 a1) (by intro p a0 a1 a2; subst m61 m59 m57 m55; rw [up4, hP0, hP1, hV]; exact dite (p = 12 * r + 2 * c + 7) (fun e3 => by (rw [if_pos (by omega), lux_at (r := r) (c := c) (a := 1) (b := 1) (by omega) (by omega) (by omega) (by omega) (by omega)]; simp)) (fun e3 => by (rw [if_neg (by omega)]; exact dite (p = 12 * r + 2 * c + 6) (fun e2 => by (rw [if_pos (by omega), lux_at (r := r) (c := c) (a := 1) (b := 0) (by omega) (by omega) (by omega) (by omega) (by omega)]; simp)) (fun e2 => by (rw [if_neg (by omega)]; exact dite (p = 12 * r + 2 * c + 1) (fun e1 => by (rw [if_pos (by omega), lux_at (r := r) (c := c) (a := 0) (b := 1) (by omega) (by omega) (by omega) (by omega) (by omega)]; simp only [if_true, if_false, show ¬ ((1 : Int) = 0) by decide]; first | (rw [if_pos (by omega)]; done) | (rw [if_neg (by omega)]; done))) (fun e1 => by (rw [if_neg (by omega)]; exact dite (p = 12 * r + 2 * c) (fun e0 => by (rw [if_pos (by omega), lux_at (r := r) (c := c) (a := 0) (b := 0) (by omega) (by omega) (by omega) (by omega) (by omega)]; simp only [if_true]; first | (rw [if_pos (by omega)]; done) | (rw [if_neg (by omega)]; done))) (fun e0 => by (rw [if_neg (by omega)]; exact j4 p a0 a1 (by omega)))))))))) (by subst m61 m59 m57 m55; refine ⟨?_, ?_⟩; (iterate 4 rw [up_i _ _ _ (by omega)]); exact j6.1; rw [← j6.2]; apply nc_of; (iterate 4 rw [up_i _ _ _ (by omega)])) (by intro a a1 a2 a3; subst m61 m59 m57 m55; (iterate 4 rw [up_i _ _ _ (by omega)]); exact j5 a a1 a2 a3)
                    · refine z_iconst (pc := 59) hO dX5_layLux_59 ?_
                      refine z_goto (pc := 60) hO (tgt := 64) dX5_layLux_60 (by decide) ?_
                      refine z_istore (pc := 64) hO (lv' := [(5, .int (zi 1)), (4, .int (zi (4 * ((nc w s (w (10 + s) 1 * r + c)) - 1)))), (0, .ref (gA g (10 + q))), (1, .ref (gA g (10 + s))), (2, .int (zi r)), (3, .int (zi c))]) dX5_layLux_64 (by decide) rfl ?_
                      refine z_aload_n (pc := 66) hO 2 dX5_layLux_66 rfl rfl ?_
                      refine z_iconst (pc := 67) hO dX5_layLux_67 ?_
                      refine z_iload_n (pc := 68) hO 4 dX5_layLux_68 rfl rfl ?_
                      refine z_imul (pc := 69) hO dX5_layLux_69 ?_
                      refine z_iconst (pc := 70) hO dX5_layLux_70 ?_
                      refine z_iload_n (pc := 71) hO 5 dX5_layLux_71 rfl rfl ?_
                      refine z_imul (pc := 72) hO dX5_layLux_72 ?_
                      refine z_callVIp (pc := 73) hO (As := [.int (zi (2 * r)), .int (zi (2 * c))]) (st := []) (c_X1_placeOf (qL Γ) g w q (2 * r) (2 * c) (by first | assumption | omega)) k_X5_34 (isO_fig (by omega : q < 9)) rfl (Nat.le_of_ble_eq_true rfl) (by decide) (by decide) ⟨by decide, by decide⟩ dX5_layLux_73 ?_
                      refine z_istore (pc := 76) hO (lv' := [(6, .int (zi (w (10 + q) 1 * (2 * r) + (2 * c)))), (5, .int (zi 1)), (4, .int (zi (4 * ((nc w s (w (10 + s) 1 * r + c)) - 1)))), (0, .ref (gA g (10 + q))), (1, .ref (gA g (10 + s))), (2, .int (zi r)), (3, .int (zi c))]) dX5_layLux_76 (by decide) rfl ?_
                      refine z_aload_n (pc := 78) hO 3 dX5_layLux_78 rfl rfl ?_
                      refine z_iconst (pc := 79) hO dX5_layLux_79 ?_
                      refine z_iload_n (pc := 80) hO 5 dX5_layLux_80 rfl rfl ?_
                      refine z_imul (pc := 81) hO dX5_layLux_81 ?_
                      refine z_iconst (pc := 82) hO dX5_layLux_82 ?_
                      refine z_iadd (pc := 83) hO dX5_layLux_83 ?_
                      refine z_iconst (pc := 84) hO dX5_layLux_84 ?_
                      refine z_iload_n (pc := 85) hO 6 dX5_layLux_85 rfl rfl ?_
                      refine z_imul (pc := 86) hO dX5_layLux_86 ?_
                      refine z_callVIp (pc := 87) hO (As := [.int (zi ((2 * r) + 1)), .int (zi (2 * c))]) (st := []) (c_X1_placeOf (qL Γ) g w q ((2 * r) + 1) (2 * c) (by first | assumption | omega)) k_X5_34 (isO_fig (by omega : q < 9)) rfl (Nat.le_of_ble_eq_true rfl) (by decide) (by decide) ⟨by decide, by decide⟩ dX5_layLux_87 ?_
                      refine z_istore (pc := 90) hO (lv' := [(7, .int (zi (w (10 + q) 1 * ((2 * r) + 1) + (2 * c)))), (6, .int (zi (w (10 + q) 1 * (2 * r) + (2 * c)))), (5, .int (zi 1)), (4, .int (zi (4 * ((nc w s (w (10 + s) 1 * r + c)) - 1)))), (0, .ref (gA g (10 + q))), (1, .ref (gA g (10 + s))), (2, .int (zi r)), (3, .int (zi c))]) dX5_layLux_90 (by decide) rfl ?_
                      refine z_aload_n (pc := 92) hO 4 dX5_layLux_92 rfl rfl ?_
                      refine z_iload (pc := 93) hO 1 dX5_layLux_93 rfl ?_
                      refine z_iload (pc := 95) hO 2 dX5_layLux_95 rfl ?_
                      refine z_if_eq (pc := 97) hO (tgt := 107) dX5_layLux_97 (by decide) (by decide) (fun h => absurd h (by decide)) (fun _ => ?_)
                      refine z_iload (pc := 100) hO 3 dX5_layLux_100 rfl ?_
                      refine z_iconst (pc := 102) hO dX5_layLux_102 ?_
                      refine z_iadd (pc := 103) hO dX5_layLux_103 ?_
                      refine z_goto (pc := 104) hO (tgt := 111) dX5_layLux_104 (by decide) ?_
                      refine z_callVIm (pc := 111) hO (As := [.int (zi (w (10 + q) 1 * (2 * r) + (2 * c))), .int (zi ((4 * ((nc w s (w (10 + s) 1 * r + c)) - 1)) + 1))]) (st := []) (c_X1_write (qL Γ) g w q (w (10 + q) 1 * (2 * r) + (2 * c)) ((4 * ((nc w s (w (10 + s) 1 * r + c)) - 1)) + 1) (by first | assumption | omega) (by first | assumption | omega)) k_X5_38 (isO_fig (by omega : q < 9)) rfl (Nat.le_of_ble_eq_true rfl) (by decide) (by decide) ⟨by decide, by decide⟩ dX5_layLux_111 (fun m63 e64 => ?_)
                      refine z_pop (pc := 114) hO dX5_layLux_114 rfl ?_
                      refine z_aload_n (pc := 115) hO 4 dX5_layLux_115 rfl rfl ?_
                      refine z_iload (pc := 116) hO 1 dX5_layLux_116 rfl ?_
                      refine z_iconst (pc := 118) hO dX5_layLux_118 ?_
                      refine z_iadd (pc := 119) hO dX5_layLux_119 ?_
                      refine z_iload (pc := 120) hO 2 dX5_layLux_120 rfl ?_
                      refine z_if_eq (pc := 122) hO (tgt := 132) dX5_layLux_122 (by decide) (by decide) (fun h => absurd h (by decide)) (fun _ => ?_)
                      refine z_iload (pc := 125) hO 3 dX5_layLux_125 rfl ?_
                      refine z_iconst (pc := 127) hO dX5_layLux_127 ?_
                      refine z_iadd (pc := 128) hO dX5_layLux_128 ?_
                      refine z_goto (pc := 129) hO (tgt := 136) dX5_layLux_129 (by decide) ?_
                      refine z_callVIm (pc := 136) hO (As := [.int (zi ((w (10 + q) 1 * (2 * r) + (2 * c)) + 1)), .int (zi ((4 * ((nc w s (w (10 + s) 1 * r + c)) - 1)) + 4))]) (st := []) (c_X1_write (qL Γ) g m63 q ((w (10 + q) 1 * (2 * r) + (2 * c)) + 1) ((4 * ((nc w s (w (10 + s) 1 * r + c)) - 1)) + 4) (by first | assumption | omega) (by first | assumption | omega)) k_X5_38 (isO_fig (by omega : q < 9)) rfl (Nat.le_of_ble_eq_true rfl) (by decide) (by decide) ⟨by decide, by decide⟩ dX5_layLux_136 (fun m65 e66 => ?_)
                      refine z_pop (pc := 139) hO dX5_layLux_139 rfl ?_
                      refine z_aload_n (pc := 140) hO 4 dX5_layLux_140 rfl rfl ?_
                      refine z_iload (pc := 141) hO 0 dX5_layLux_141 rfl ?_
                      refine z_iload (pc := 143) hO 3 dX5_layLux_143 rfl ?_
                      refine z_iconst (pc := 145) hO dX5_layLux_145 ?_
                      refine z_iadd (pc := 146) hO dX5_layLux_146 ?_
                      refine z_callVIm (pc := 147) hO (As := [.int (zi (w (10 + q) 1 * ((2 * r) + 1) + (2 * c))), .int (zi ((4 * ((nc w s (w (10 + s) 1 * r + c)) - 1)) + 2))]) (st := []) (c_X1_write (qL Γ) g m65 q (w (10 + q) 1 * ((2 * r) + 1) + (2 * c)) ((4 * ((nc w s (w (10 + s) 1 * r + c)) - 1)) + 2) (by first | assumption | omega) (by first | assumption | omega)) k_X5_38 (isO_fig (by omega : q < 9)) rfl (Nat.le_of_ble_eq_true rfl) (by decide) (by decide) ⟨by decide, by decide⟩ dX5_layLux_147 (fun m67 e68 => ?_)
                      refine z_pop (pc := 150) hO dX5_layLux_150 rfl ?_
                      refine z_aload_n (pc := 151) hO 4 dX5_layLux_151 rfl rfl ?_
                      refine z_iload (pc := 152) hO 0 dX5_layLux_152 rfl ?_
                      refine z_iconst (pc := 154) hO dX5_layLux_154 ?_
                      refine z_iadd (pc := 155) hO dX5_layLux_155 ?_
                      refine z_iload (pc := 156) hO 3 dX5_layLux_156 rfl ?_
                      refine z_iconst (pc := 158) hO dX5_layLux_158 ?_
                      refine z_iadd (pc := 159) hO dX5_layLux_159 ?_
                      refine z_callVIm (pc := 160) hO (As := [.int (zi ((w (10 + q) 1 * ((2 * r) + 1) + (2 * c)) + 1)), .int (zi ((4 * ((nc w s (w (10 + s) 1 * r + c)) - 1)) + 3))]) (st := []) (c_X1_write (qL Γ) g m67 q ((w (10 + q) 1 * ((2 * r) + 1) + (2 * c)) + 1) ((4 * ((nc w s (w (10 + s) 1 * r + c)) - 1)) + 3) (by first | assumption | omega) (by first | assumption | omega)) k_X5_38 (isO_fig (by omega : q < 9)) rfl (Nat.le_of_ble_eq_true rfl) (by decide) (by decide) ⟨by decide, by decide⟩ dX5_layLux_160 (fun m69 e70 => ?_)
                      refine z_pop (pc := 163) hO dX5_layLux_163 rfl ?_
                      refine z_iinc (pc := 164) hO 7 (lv' := [(3, .int (zi (c + 1))), (7, .int (zi (w (10 + q) 1 * ((2 * r) + 1) + (2 * c)))), (6, .int (zi (w (10 + q) 1 * (2 * r) + (2 * c)))), (5, .int (zi 1)), (4, .int (zi (4 * ((nc w s (w (10 + s) 1 * r + c)) - 1)))), (0, .ref (gA g (10 + q))), (1, .ref (gA g (10 + s))), (2, .int (zi r))]) dX5_layLux_164 rfl (by decide) rfl ?_
                      refine z_goto (pc := 167) hO (tgt := 18) dX5_layLux_167 (by decide) ?_
                      refine z_sub [5, 6, 7, 0] rfl ?_
                      exact ih18 (c + 1) m69 (by omega) (by omega) (by intro p a0 a1; subst m69 m67 m65 m63; rw [up4, hP0, hP1]; rw [if_neg (by omega), if_neg (by omega), if_neg (by omega), if_neg (by omega)]; exact j3 p a0 a1) (by intro p a0 a1 a2; subst m69 m67 m65 m63; rw [up4, hP0, hP1, hV]; exact dite (p = 12 * r + 2 * c + 7) (fun e3 => by (rw [if_pos (by omega), lux_at (r := r) (c := c) (a := 1) (b := 1) (by omega) (by omega) (by omega) (by omega) (by omega)]; simp)) (fun e3 => by (rw [if_neg (by omega)]; exact dite (p = 12 * r + 2 * c + 6) (fun e2 => by (rw [if_pos (by omega), lux_at (r := r) (c := c) (a := 1) (b := 0) (by omega) (by omega) (by omega) (by omega) (by omega)]; simp)) (fun e2 => by (rw [if_neg (by omega)]; exact dite (p = 12 * r + 2 * c + 1) (fun e1 => by (rw [if_pos (by omega), lux_at (r := r) (c := c) (a := 0) (b := 1) (by omega) (by omega) (by omega) (by omega) (by omega)]; simp only [if_true, if_false, show ¬ ((1 : Int) = 0) by decide]; first | (rw [if_pos (by omega)]; done) | (rw [if_neg (by omega)]; done))) (fun e1 => by (rw [if_neg (by omega)]; exact dite (p = 12 * r + 2 * c) (fun e0 => by (rw [if_pos (by omega), lux_at (r := r) (c := c) (a := 0) (b := 0) (by omega) (by omega) (by omega) (by omega) (by omega)]; simp only [if_true]; first | (rw [if_pos (by omega)]; done) | (rw [if_neg (by omega)]; done))) (fun e0 => by (rw [if_neg (by omega)]; exact j4 p a0 a1 (by omega)))))))))) (by subst m69 m67 m65 m63; refine ⟨?_, ?_⟩; (iterate 4 rw [up_i _ _ _ (by omega)]); exact j6.1; rw [← j6.2]; apply nc_of; (iterate 4 rw [up_i _ _ _ (by omega)])) (by intro a a1 a2 a3; subst m69 m67 m65 m63; (iterate 4 rw [up_i _ _ _ (by omega)]); exact j5 a a1 a2 a3)
        refine z_sub [1, 2, 3, 0] rfl ?_
        exact L18 _ 0 y (Nat.lt_succ_self _) (by omega) (by exact k3) (by intro p a0 a1 a2; exact k4 p a0 a1 (by omega)) (by exact k6) (by exact k5)
  refine z_sub [1, 2, 0] rfl ?_
  exact L11 _ 0 m5 (Nat.lt_succ_self _) (by omega) (by intro p _ _; rw [d4 _ (by omega) (by omega)]; exact hz p (by omega) (by omega)) (by intro p _ _ _; omega) (by exact ⟨d3, d1⟩) (by intro a _ h1 h2; exact d4 a h1 h2)

set_option maxHeartbeats 600000 in
theorem c_X5_lay (l : Launch) (g : Gl) (x : Me) (mk : Int) (q : Nat) (s : Nat)  (hm : 0 ≤ mk ∧ mk ≤ 3) (hq : q < 9) (hs9 : s < 9) (hqs : q ≠ s) (hs : 1 ≤ x (10 + q) 1 ∧ x (10 + q) 1 ≤ 9) (h6 : mk = 3 → x (10 + q) 1 = 6) (hz : ∀ p, 0 ≤ p → p < 81 → x (20 + q) p = 0) : ctQ l g yX5_lay cX5_lay 3 none 5 117 [.int (zi mk), .ref (gA g (10 + q)), .ref (gA g (10 + s))] x (QVu g (fun x' => nc x' q = mkf mk (x (10 + q) 1) ∧ ∀ a, a ≠ 20 + q → a ≠ 10 + s → a ≠ 20 + s → x' a = x a)) := by
  refine ct_start (own := RX5) (lv := [(0, .int (zi mk)), (1, .ref (gA g (10 + q))), (2, .ref (gA g (10 + s)))]) (plainFor_of_name (by decide)) rfl (Nat.le_of_ble_eq_true rfl) rfl ?_
  intro Γ hΓ hO hr hQ _
  refine z_iload_n (pc := 0) hO 0 dX5_lay_0 rfl rfl ?_
  have w1 : mk = 0 ∨ mk = 1 ∨ mk = 2 ∨ (mk ≠ 0 ∧ mk ≠ 1 ∧ mk ≠ 2) := by omega
  rcases w1 with w1 | w1 | w1 | w1
  · refine z_tabIn (pc := 1) hO (tgt := 28) dX5_lay_1 (by omega) (by omega) (by omega) (by first | (rw [w1]; done) | (rw [w1]; rfl)) (by decide) ?_
    refine z_aload_n (pc := 28) hO 1 dX5_lay_28 rfl rfl ?_
    refine z_callSV (pc := 29) hO (As := [.ref (gA g (10 + q))]) (st := []) (c_X5_laySiege (qL Γ) g x q (by first | assumption | omega) (by first | assumption | omega) (by first | assumption | omega)) k_X5_9 rfl (Nat.le_of_ble_eq_true rfl) (by decide) (by decide) ⟨by decide, by decide⟩ dX5_lay_29 (fun m3 h4 => ?_)
    refine z_goto (pc := 32) hO (tgt := 54) dX5_lay_32 (by decide) ?_
    exact z_vret (pc := 54) hO hr hQ dX5_lay_54 (by first | (refine ⟨?_, ?_⟩; (unfold mkf; simp [*]); (intro a a1 a2 a3; simp [*]); done) | (exfalso; omega))
  · refine z_tabIn (pc := 1) hO (tgt := 35) dX5_lay_1 (by omega) (by omega) (by omega) (by first | (rw [w1]; done) | (rw [w1]; rfl)) (by decide) ?_
    refine z_aload_n (pc := 35) hO 1 dX5_lay_35 rfl rfl ?_
    refine z_callSV (pc := 36) hO (As := [.ref (gA g (10 + q))]) (st := []) (c_X5_layCross (qL Γ) g x q (by first | assumption | omega) (by first | assumption | omega) (by first | assumption | omega)) k_X5_15 rfl (Nat.le_of_ble_eq_true rfl) (by decide) (by decide) ⟨by decide, by decide⟩ dX5_lay_36 (fun m6 h7 => ?_)
    refine z_goto (pc := 39) hO (tgt := 54) dX5_lay_39 (by decide) ?_
    exact z_vret (pc := 54) hO hr hQ dX5_lay_54 (by first | (refine ⟨?_, ?_⟩; (unfold mkf; simp [*]); (intro a a1 a2 a3; simp [*]); done) | (exfalso; omega))
  · refine z_tabIn (pc := 1) hO (tgt := 42) dX5_lay_1 (by omega) (by omega) (by omega) (by first | (rw [w1]; done) | (rw [w1]; rfl)) (by decide) ?_
    refine z_aload_n (pc := 42) hO 1 dX5_lay_42 rfl rfl ?_
    refine z_callSV (pc := 43) hO (As := [.ref (gA g (10 + q))]) (st := []) (c_X5_layDigits (qL Γ) g x q (by first | assumption | omega) (by first | assumption | omega) (by first | assumption | omega)) k_X5_18 rfl (Nat.le_of_ble_eq_true rfl) (by decide) (by decide) ⟨by decide, by decide⟩ dX5_lay_43 (fun m9 h10 => ?_)
    refine z_goto (pc := 46) hO (tgt := 54) dX5_lay_46 (by decide) ?_
    exact z_vret (pc := 54) hO hr hQ dX5_lay_54 (by first | (refine ⟨?_, ?_⟩; (unfold mkf; simp [*]); (intro a a1 a2 a3; simp [*]); done) | (exfalso; omega))
  · refine z_tabOut (pc := 1) hO (tgt := 49) dX5_lay_1 (by omega) (by omega) (by decide) ?_
    refine z_aload_n (pc := 49) hO 1 dX5_lay_49 rfl rfl ?_
    refine z_aload_n (pc := 50) hO 2 dX5_lay_50 rfl rfl ?_
    refine z_callSV (pc := 51) hO (As := [.ref (gA g (10 + q)), .ref (gA g (10 + s))]) (st := []) (c_X5_layLux (qL Γ) g x q s (by first | assumption | omega) (by first | assumption | omega) (by first | assumption | omega) (by exact h6 (by omega)) (by first | assumption | omega)) k_X5_21 rfl (Nat.le_of_ble_eq_true rfl) (by decide) (by decide) ⟨by decide, by decide⟩ dX5_lay_51 (fun m12 h13 => ?_)
    exact z_vret (pc := 54) hO hr hQ dX5_lay_54 (by first | (refine ⟨?_, ?_⟩; (unfold mkf; simp [*]); (intro a a1 a2 a3; simp [*]); done) | (exfalso; omega))

