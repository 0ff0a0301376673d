set_option maxHeartbeats 4000000 in
theorem c_X10_addLine (l : Launch) (g : Gl) (x : Me) (kind : Int) (line : Int) (st : List (Int × List Int)) (n : Int) (hS : SP x st) (hn : x 42 4 = n ∧ 1 ≤ n ∧ n ≤ 6) (hk : 0 ≤ kind ∧ kind ≤ 3) (hl : 0 ≤ line ∧ line < n) : ctQ l g yX10_addLine cX10_addLine 4 none 4 93 [.ref (gA g 42), .int (zi kind), .int (zi line)] x (QVu g (fun x' => SP x' (adL st (lnR n kind line)) ∧ x' 42 4 = n ∧ ∀ a, a ≠ 42 → a ≠ 44 → a ≠ 45 → ¬ (100 ≤ a ∧ a < 138) → x' a = x a)) := by
  refine ct_start (own := RX10) (lv := [(0, .ref (gA g 42)), (1, .int (zi kind)), (2, .int (zi line))]) (plainFor_of_name (by decide)) rfl (Nat.le_of_ble_eq_true rfl) rfl ?_
  intro Γ hΓ hO hr hQ _
  have hsq := sq6 hn.2
  refine z_aload_n (pc := 0) hO 0 dX10_addLine_0 rfl rfl ?_
  refine z_callVV (pc := 1) hO (As := []) (st := []) (c_X10_clearRow (qL Γ) g x ) k_X10_41 isO_42 rfl (Nat.le_of_ble_eq_true rfl) (by decide) (by decide) ⟨by decide, by decide⟩ dX10_addLine_1 (fun m2 h3 => ?_)
  have hcl := h3
  refine z_iconst (pc := 4) hO dX10_addLine_4 ?_
  refine z_istore_n (pc := 5) hO (lv' := [(3, .int (zi 0)), (0, .ref (gA g 42)), (1, .int (zi kind)), (2, .int (zi line))]) dX10_addLine_5 rfl (by decide) rfl ?_
  have L6 : ∀ (N : Nat) (i : Int) (y : Me), (n - i).toNat < N → (0 ≤ i ∧ i ≤ n) → (VW y (lnA n kind line i.toNat) i) → (∀ a, a ≠ 45 → y a = x a) → Zz Γ g 4 0 0 y 6 [(0, .ref (gA g 42)), (1, .int (zi kind)), (2, .int (zi line)), (3, .int (zi i))] [] := by
    intro N
    induction N with
    | zero => intro i y hm; exact absurd hm (Nat.not_lt_zero _)
    | succ N ih6 =>
      intro i y hm h0 hA hfr
      have hy42 : y 42 4 = n := by rw [hfr 42 (by omega)]; exact hn.1
      refine z_iload_n (pc := 6) hO 3 dX10_addLine_6 rfl rfl ?_
      refine z_aload_n (pc := 7) hO 0 dX10_addLine_7 rfl rfl ?_
      refine gf_X10_side (pc := 8) hO f_X10_23 dX10_addLine_8 ?_
      refine z_icmp_ge (pc := 11) hO (tgt := 35) dX10_addLine_11 (by decide) (by omega) (by omega) (fun b4 => ?_) (fun b4 => ?_)
      · have hz : lnA n kind line i.toNat = lnA n kind line n.toNat := by rw [show i = n by omega]
        rw [hz] at hA
        refine z_aload_n (pc := 35) hO 0 dX10_addLine_35 rfl rfl ?_
        refine z_bipush (pc := 36) hO dX10_addLine_36 (by decide) ?_
        refine z_ldc (pc := 38) hO n_X10_53 dX10_addLine_38 ?_
        refine z_callVV (pc := 40) hO (As := [.int (zi 36), .int (zi 1000002)]) (st := []) (c_X10_addToRow (qL Γ) g y 36 1000002 (by omega)) k_X10_50 isO_42 rfl (Nat.le_of_ble_eq_true rfl) (by decide) (by decide) ⟨by decide, by decide⟩ dX10_addLine_40 (fun m6 h7 => ?_)
        have hu2 := h7
        have hvm := VM_up hA (by omega) (by omega) (by omega) (by rw [lnA_36 hn.2 hl]; omega) hu2
        refine z_aload_n (pc := 43) hO 0 dX10_addLine_43 rfl rfl ?_
        refine z_callVV (pc := 44) hO (As := []) (st := []) (c_X10_addRow (qL Γ) g m6 (lnR n kind line) st (by exact hvm) (by refine SP_of hS ?_ ?_ (fun k hk => ?_) <;> rw [hu2, up_i _ _ _ (by omega), hfr _ (by omega)])) k_X10_54 isO_42 rfl (Nat.le_of_ble_eq_true rfl) (by decide) (by decide) ⟨by decide, by decide⟩ dX10_addLine_44 (fun m9 h10 => ?_)
        obtain ⟨q1, q2, q3⟩ := h10
        exact z_vret (pc := 47) hO hr hQ dX10_addLine_47 (by first | (refine ⟨q1, by rw [q2, hu2, up_i _ _ _ (by omega)]; exact hy42, fun a a1 a2 a3 a4 => by rw [q3 a a1 a2 a3 a4, hu2, up_i _ _ _ a3, hfr a a3]⟩; done) | (exfalso; omega))
      · have hor := onl_rng (k := kind) (i := i) (show 1 ≤ n ∧ n ≤ 9 by omega) hl (by omega)
        refine z_aload_n (pc := 14) hO 0 dX10_addLine_14 rfl rfl ?_
        refine z_aload_n (pc := 15) hO 0 dX10_addLine_15 rfl rfl ?_
        refine gf_X10_side (pc := 16) hO f_X10_23 dX10_addLine_16 ?_
        refine z_iload_n (pc := 19) hO 1 dX10_addLine_19 rfl rfl ?_
        refine z_iload_n (pc := 20) hO 2 dX10_addLine_20 rfl rfl ?_
        refine z_iload_n (pc := 21) hO 3 dX10_addLine_21 rfl rfl ?_
        refine z_callSIp (pc := 22) hO (As := [.int (zi (y 42 4)), .int (zi kind), .int (zi line), .int (zi i)]) (st := [.ref (gA g 42)]) (c_X7_onLine (qL Γ) g y (y 42 4) kind line i (by omega) (by omega) (by omega) (by omega)) k_X10_44 rfl (Nat.le_of_ble_eq_true rfl) (by decide) (by decide) ⟨by decide, by decide⟩ dX10_addLine_22 ?_
        refine z_iconst (pc := 25) hO dX10_addLine_25 ?_
        refine z_callVV (pc := 26) hO (As := [.int (zi (onl (y 42 4) kind line i)), .int (zi 1)]) (st := []) (c_X10_addToRow (qL Γ) g y (onl (y 42 4) kind line i) 1 (by rw [hy42]; exact ⟨by omega, by omega⟩)) k_X10_50 isO_42 rfl (Nat.le_of_ble_eq_true rfl) (by decide) (by decide) ⟨by decide, by decide⟩ dX10_addLine_26 (fun m12 h13 => ?_)
        have hup := h13
        rw [hy42] at hup
        refine z_iinc (pc := 29) hO 3 (lv' := [(3, .int (zi (i + 1))), (0, .ref (gA g 42)), (1, .int (zi kind)), (2, .int (zi line))]) dX10_addLine_29 rfl (by decide) rfl ?_
        refine z_goto (pc := 32) hO (tgt := 6) dX10_addLine_32 (by decide) ?_
        refine z_sub [1, 2, 3, 0] rfl ?_
        exact ih6 (i + 1) m12 (by omega) (by omega) (by rw [lnA_s _ _ _ h0.1]; exact VW_up hA (by omega) (by omega) (by omega) hup) (by intro a ha; rw [hup, up_i _ _ _ ha]; exact hfr a ha)
  refine z_sub [1, 2, 3, 0] rfl ?_
  exact L6 _ 0 m2 (Nat.lt_succ_self _) (by omega) (by exact VW_0 hcl) (by intro a ha; rw [hcl]; funext b; unfold clr; rw [if_neg (by omega)])

