set_option maxHeartbeats 600000 in
theorem c_X0_move (l : Launch) (g : Gl) (x : Me) (q : Nat) (s : Nat) (ch : Int) (b : Int)  (hF : FG x q) (hs9 : s < 9) (hqs : q ≠ s) (hc : 0 ≤ ch ∧ ch ≤ 5) (hb : 0 ≤ b ∧ b ≤ 9 ∧ (ch = 0 → b ≤ 3) ∧ (ch = 1 → b ≤ 1)) : ctQ l g yX0_move cX0_move 7 (some .int) 5 109 [.ref (gA g (10 + q)), .ref (gA g (10 + s)), .int (zi ch), .int (zi b)] x (QIu g (fun z x' => z = chg (x (10 + q) 1) (nc x q) (mvf (x (10 + q) 1) (nc x q) ch b) ∧ nc x' q = mvf (x (10 + q) 1) (nc x q) ch b ∧ ∀ a, a ≠ 20 + q → a ≠ 10 + s → a ≠ 20 + s → x' a = x a)) := by
  refine ct_start (own := RX0) (lv := [(0, .ref (gA g (10 + q))), (1, .ref (gA g (10 + s))), (2, .int (zi ch)), (3, .int (zi b))]) (plainFor_of_name (by decide)) rfl (Nat.le_of_ble_eq_true rfl) rfl ?_
  intro Γ hΓ hO hr hQ _
  obtain ⟨hq, hs, hf⟩ := id hF
  have h9 := sq9 hs
  have hN := FG.r hF
  refine z_aload_n (pc := 0) hO 1 dX0_move_0 rfl rfl ?_
  refine z_aload_n (pc := 1) hO 0 dX0_move_1 rfl rfl ?_
  refine z_callVV (pc := 2) hO (As := [.ref (gA g (10 + q))]) (st := []) (c_X1_copyFrom (qL Γ) g x s q (by first | assumption | omega) (by first | assumption | omega) (by omega)) k_X0_9 (isO_fig (by omega : s < 9)) rfl (Nat.le_of_ble_eq_true rfl) (by decide) (by decide) ⟨by decide, by decide⟩ dX0_move_2 (fun m2 h3 => ?_)
  obtain ⟨-, g2, g3⟩ := h3
  refine z_iconst (pc := 5) hO dX0_move_5 ?_
  refine z_istore (pc := 6) hO (lv' := [(4, .int (zi 0)), (0, .ref (gA g (10 + q))), (1, .ref (gA g (10 + s))), (2, .int (zi ch)), (3, .int (zi b))]) dX0_move_6 (by decide) rfl ?_
  refine z_iconst (pc := 8) hO dX0_move_8 ?_
  refine z_istore (pc := 9) hO (lv' := [(5, .int (zi 0)), (4, .int (zi 0)), (0, .ref (gA g (10 + q))), (1, .ref (gA g (10 + s))), (2, .int (zi ch)), (3, .int (zi b))]) dX0_move_9 (by decide) rfl ?_
  have L11 : ∀ (N : Nat) (i : Int) (c : Int) (y : Me), (x (10 + q) 1 * x (10 + q) 1 - i).toNat < N → (0 ≤ i ∧ i ≤ x (10 + q) 1 * x (10 + q) 1) → (c = sm (fun p => if mvf (x (10 + q) 1) (nc x q) ch b p = nc x q p then 0 else 1) i.toNat) → (∀ p, 0 ≤ p → p < x (10 + q) 1 * x (10 + q) 1 → y (20 + s) p = x (20 + q) p) → (∀ p, i ≤ p → y (20 + q) p = x (20 + q) p) → (∀ p, 0 ≤ p → p < i → y (20 + q) p = nc x q (ahd (x (10 + q) 1) ch b p)) → (∀ a, a ≠ 20 + q → a ≠ 10 + s → a ≠ 20 + s → y a = x a) → Zz Γ g 7 0 0 y 11 [(0, .ref (gA g (10 + q))), (1, .ref (gA g (10 + s))), (2, .int (zi ch)), (3, .int (zi b)), (4, .int (zi c)), (5, .int (zi i))] [] := by
    intro N
    induction N with
    | zero => intro i c y hm; exact absurd hm (Nat.not_lt_zero _)
    | succ N ih11 =>
      intro i c y hm h0 hc9 k2 k3 k4 k5
      have k1 := k5 (10 + q) (by omega) (by omega) (by omega)
      have hy : y (10 + q) 1 = x (10 + q) 1 := by rw [k1]
      have hyy : y (10 + q) 1 * y (10 + q) 1 = x (10 + q) 1 * x (10 + q) 1 := by rw [hy]
      have hv : 0 ≤ i → i < x (10 + q) 1 * x (10 + q) 1 → nc y s (ahd (y (10 + q) 1) ch b i) = nc x q (ahd (x (10 + q) 1) ch b i) := fun a0 a1 => by
          have ha := ahd_rng (ch := ch) (b := b) hs ⟨a0, a1⟩
          rw [hy, nc_in (by omega), nc_in (by omega)]; exact k2 _ ha.1 ha.2
      have hm : 0 ≤ i → i < x (10 + q) 1 * x (10 + q) 1 → mvf (x (10 + q) 1) (nc x q) ch b i = nc x q (ahd (x (10 + q) 1) ch b i) := fun a0 a1 => if_pos ⟨a0, a1⟩
      have hR := hN (ahd (x (10 + q) 1) ch b i)
      have hR2 := hN i
      have hk3 := k3 i (by omega)
      refine z_iload (pc := 11) hO 5 dX0_move_11 rfl ?_
      refine z_aload_n (pc := 13) hO 0 dX0_move_13 rfl rfl ?_
      refine z_callVIp (pc := 14) hO (As := []) (st := [.int (zi i)]) (c_X1_size (qL Γ) g y q (by first | assumption | omega)) k_X0_15 (isO_fig (by omega : q < 9)) rfl (Nat.le_of_ble_eq_true rfl) (by decide) (by decide) ⟨by decide, by decide⟩ dX0_move_14 ?_
      refine z_icmp_ge (pc := 17) hO (tgt := 59) dX0_move_17 (by decide) (by omega) (by omega) (fun b4 => ?_) (fun b4 => ?_)
      · refine z_iload (pc := 59) hO 4 dX0_move_59 rfl ?_
        exact z_iret (pc := 61) hO hr hQ rfl dX0_move_61 (by first | (refine ⟨by rw [hc9]; unfold chg; congr 2; omega, nc_eq (fun p a0 a1 => ?_) (fun p a0 => ?_), k5⟩; (unfold mvf; by_cases hp : p < x (10 + q) 1 * x (10 + q) 1; (rw [if_pos ⟨a0, hp⟩]; exact k4 p a0 (by omega)); (rw [if_neg (by omega), nc_in ⟨a0, a1⟩]; exact k3 p (by omega))); (unfold mvf; rw [if_neg (by omega)]; exact nc_out x q a0); done) | (exfalso; omega))
      · have hv1 := hv (by omega) (by omega)
        have hm1 := hm (by omega) (by omega)
        have hn1 : nc x q i = x (20 + q) i := nc_in (by omega)
        have ha1 := ahd_rng (ch := ch) (b := b) hs (p := i) (by omega)
        have ha2 : 0 ≤ ahd (y (10 + q) 1) ch b i ∧ ahd (y (10 + q) 1) ch b i < x (10 + q) 1 * x (10 + q) 1 := by rw [hy]; exact ha1
        refine z_aload_n (pc := 20) hO 1 dX0_move_20 rfl rfl ?_
        refine z_aload_n (pc := 21) hO 0 dX0_move_21 rfl rfl ?_
        refine z_callVIp (pc := 22) hO (As := []) (st := [.ref (gA g (10 + s))]) (c_X1_side (qL Γ) g y q (by first | assumption | omega)) k_X0_19 (isO_fig (by omega : q < 9)) rfl (Nat.le_of_ble_eq_true rfl) (by decide) (by decide) ⟨by decide, by decide⟩ dX0_move_22 ?_
        refine z_iload_n (pc := 25) hO 2 dX0_move_25 rfl rfl ?_
        refine z_iload_n (pc := 26) hO 3 dX0_move_26 rfl rfl ?_
        refine z_iload (pc := 27) hO 5 dX0_move_27 rfl ?_
        refine z_callSIp (pc := 29) hO (As := [.int (zi (y (10 + q) 1)), .int (zi ch), .int (zi b), .int (zi i)]) (st := [.ref (gA g (10 + s))]) (c_X0_aheadOf (qL Γ) g y (y (10 + q) 1) ch b i (by first | assumption | omega) (by first | assumption | omega) (by first | assumption | omega) (by first | assumption | omega)) k_X0_22 rfl (Nat.le_of_ble_eq_true rfl) (by decide) (by decide) ⟨by decide, by decide⟩ dX0_move_29 ?_
        refine z_callVIp (pc := 32) hO (As := [.int (zi (ahd (y (10 + q) 1) ch b i))]) (st := []) (c_X1_read (qL Γ) g y s (ahd (y (10 + q) 1) ch b i) (by first | assumption | omega) (by first | assumption | omega)) k_X0_28 (isO_fig (by omega : s < 9)) rfl (Nat.le_of_ble_eq_true rfl) (by decide) (by decide) ⟨by decide, by decide⟩ dX0_move_32 ?_
        refine z_istore (pc := 35) hO (lv' := [(6, .int (zi (nc y s (ahd (y (10 + q) 1) ch b i)))), (0, .ref (gA g (10 + q))), (1, .ref (gA g (10 + s))), (2, .int (zi ch)), (3, .int (zi b)), (4, .int (zi c)), (5, .int (zi i))]) dX0_move_35 (by decide) rfl ?_
        refine z_aload_n (pc := 37) hO 1 dX0_move_37 rfl rfl ?_
        refine z_iload (pc := 38) hO 6 dX0_move_38 rfl ?_
        refine z_iload (pc := 40) hO 0 dX0_move_40 rfl ?_
        refine z_callVIm (pc := 42) hO (As := [.int (zi i), .int (zi (nc y s (ahd (y (10 + q) 1) ch b i)))]) (st := []) (c_X1_write (qL Γ) g y q i (nc y s (ahd (y (10 + q) 1) ch b i)) (by first | assumption | omega) (by first | assumption | omega)) k_X0_32 (isO_fig (by omega : q < 9)) rfl (Nat.le_of_ble_eq_true rfl) (by decide) (by decide) ⟨by decide, by decide⟩ dX0_move_42 (fun m5 e6 => ?_)
        refine z_iload (pc := 45) hO 0 dX0_move_45 rfl ?_
        refine z_icmp_eq (pc := 47) hO (tgt := 53) dX0_move_47 (by decide) (by omega) (by omega) (fun b7 => ?_) (fun b7 => ?_)
        · refine z_iinc (pc := 53) hO 6 (lv' := [(5, .int (zi (i + 1))), (6, .int (zi (nc y s (ahd (y (10 + q) 1) ch b i)))), (0, .ref (gA g (10 + q))), (1, .ref (gA g (10 + s))), (2, .int (zi ch)), (3, .int (zi b)), (4, .int (zi c))]) dX0_move_53 rfl (by decide) rfl ?_
          refine z_goto (pc := 56) hO (tgt := 11) dX0_move_56 (by decide) ?_
          refine z_sub [2, 3, 4, 5, 6, 0] rfl ?_
          exact ih11 (i + 1) c m5 (by omega) (by omega) (by rw [sm_s _ (by omega), hc9, hm1]; first | (rw [if_neg (by omega)]; done) | (rw [if_pos (by omega)]; omega)) (by intro p a0 a1; subst m5; rw [up_i _ _ _ (by omega)]; exact k2 p a0 a1) (by intro p a0; subst m5; rw [up_n _ _ (by omega)]; exact k3 p (by omega)) (by intro p a0 a1; subst m5; by_cases hp : p = i; (subst hp; rw [up_s]; exact hv1); (rw [up_n _ _ (by omega)]; exact k4 p a0 (by omega))) (by intro a a1 a2 a3; subst m5; rw [up_i _ _ _ a1]; exact k5 a a1 a2 a3)
        · refine z_iinc (pc := 50) hO 5 (lv' := [(4, .int (zi (c + 1))), (6, .int (zi (nc y s (ahd (y (10 + q) 1) ch b i)))), (0, .ref (gA g (10 + q))), (1, .ref (gA g (10 + s))), (2, .int (zi ch)), (3, .int (zi b)), (5, .int (zi i))]) dX0_move_50 rfl (by decide) rfl ?_
          refine z_iinc (pc := 53) hO 6 (lv' := [(5, .int (zi (i + 1))), (4, .int (zi (c + 1))), (6, .int (zi (nc y s (ahd (y (10 + q) 1) ch b i)))), (0, .ref (gA g (10 + q))), (1, .ref (gA g (10 + s))), (2, .int (zi ch)), (3, .int (zi b))]) dX0_move_53 rfl (by decide) rfl ?_
          refine z_goto (pc := 56) hO (tgt := 11) dX0_move_56 (by decide) ?_
          refine z_sub [3, 4, 5, 6, 1, 0] rfl ?_
          exact ih11 (i + 1) (c + 1) m5 (by omega) (by omega) (by rw [sm_s _ (by omega), hc9, hm1]; first | (rw [if_neg (by omega)]; done) | (rw [if_pos (by omega)]; omega)) (by intro p a0 a1; subst m5; rw [up_i _ _ _ (by omega)]; exact k2 p a0 a1) (by intro p a0; subst m5; rw [up_n _ _ (by omega)]; exact k3 p (by omega)) (by intro p a0 a1; subst m5; by_cases hp : p = i; (subst hp; rw [up_s]; exact hv1); (rw [up_n _ _ (by omega)]; exact k4 p a0 (by omega))) (by intro a a1 a2 a3; subst m5; rw [up_i _ _ _ a1]; exact k5 a a1 a2 a3)
  refine z_sub [2, 3, 4, 5, 1, 0] rfl ?_
  exact L11 _ 0 0 m2 (Nat.lt_succ_self _) (by omega) (by rfl) (by exact g2) (by intro p _; rw [g3 (20 + q) (by omega) (by omega)]) (by intro p _ _; omega) (by intro a _ a2 a3; exact g3 a a2 a3)

set_option maxHeartbeats 600000 in
theorem c_X0_canComplement (l : Launch) (g : Gl) (x : Me) (q : Nat) (b : Int)  (hF : FG x q) (hb : 0 ≤ b ∧ b ≤ 1998) : ctQ l g yX0_canComplement cX0_canComplement 4 (some .boolean) 2 41 [.ref (gA g (10 + q)), .int (zi b)] x (QIu g (fun z x' => ((z = 1 ∧ (∀ p, 0 ≤ p → p < x (10 + q) 1 * x (10 + q) 1 → nc x q p = 0 ∨ (1 ≤ b - nc x q p ∧ b - nc x q p ≤ 999))) ∨ (z = 0 ∧ ¬ (∀ p, 0 ≤ p → p < x (10 + q) 1 * x (10 + q) 1 → nc x q p = 0 ∨ (1 ≤ b - nc x q p ∧ b - nc x q p ≤ 999)))) ∧ x' = x)) := by
  refine ct_start (own := RX0) (lv := [(0, .ref (gA g (10 + q))), (1, .int (zi b))]) (plainFor_of_name (by decide)) rfl (Nat.le_of_ble_eq_true rfl) rfl ?_
  intro Γ hΓ hO hr hQ _
  obtain ⟨hq, hs, hf⟩ := id hF
  have h9 := sq9 hs
  have hN := FG.r hF
  refine z_iconst (pc := 0) hO dX0_canComplement_0 ?_
  refine z_istore_n (pc := 1) hO (lv' := [(2, .int (zi 0)), (0, .ref (gA g (10 + q))), (1, .int (zi b))]) dX0_canComplement_1 rfl (by decide) rfl ?_
  have L2 : ∀ (N : Nat) (i : Int), (x (10 + q) 1 * x (10 + q) 1 - i).toNat < N → (0 ≤ i ∧ i ≤ x (10 + q) 1 * x (10 + q) 1) → (∀ p, 0 ≤ p → p < i → nc x q p = 0 ∨ (1 ≤ b - nc x q p ∧ b - nc x q p ≤ 999)) → Zz Γ g 4 0 0 x 2 [(0, .ref (gA g (10 + q))), (1, .int (zi b)), (2, .int (zi i))] [] := by
    intro N
    induction N with
    | zero => intro i hm; exact absurd hm (Nat.not_lt_zero _)
    | succ N ih2 =>
      intro i hm h0 hA
      have hR := hN i
      refine z_iload_n (pc := 2) hO 2 dX0_canComplement_2 rfl rfl ?_
      refine z_aload_n (pc := 3) hO 0 dX0_canComplement_3 rfl rfl ?_
      refine z_callVIp (pc := 4) hO (As := []) (st := [.int (zi i)]) (c_X1_size (qL Γ) g x q (by first | assumption | omega)) k_X0_15 (isO_fig (by omega : q < 9)) rfl (Nat.le_of_ble_eq_true rfl) (by decide) (by decide) ⟨by decide, by decide⟩ dX0_canComplement_4 ?_
      refine z_icmp_ge (pc := 7) hO (tgt := 44) dX0_canComplement_7 (by decide) (by omega) (by omega) (fun b1 => ?_) (fun b1 => ?_)
      · refine z_iconst (pc := 44) hO dX0_canComplement_44 ?_
        exact z_iret (pc := 45) hO hr hQ rfl dX0_canComplement_45 ⟨Or.inl ⟨rfl, by first | (first | (intro l a b; exact hA l a (by omega)) | (intro h; have := h i (by omega) (by omega); omega); done) | (exfalso; omega)⟩, rfl⟩
      · refine z_aload_n (pc := 10) hO 0 dX0_canComplement_10 rfl rfl ?_
        refine z_iload_n (pc := 11) hO 2 dX0_canComplement_11 rfl rfl ?_
        refine z_callVIp (pc := 12) hO (As := [.int (zi i)]) (st := []) (c_X1_read (qL Γ) g x q i (by first | assumption | omega) (by first | assumption | omega)) k_X0_28 (isO_fig (by omega : q < 9)) rfl (Nat.le_of_ble_eq_true rfl) (by decide) (by decide) ⟨by decide, by decide⟩ dX0_canComplement_12 ?_
        refine z_istore_n (pc := 15) hO (lv' := [(3, .int (zi (nc x q i))), (0, .ref (gA g (10 + q))), (1, .int (zi b)), (2, .int (zi i))]) dX0_canComplement_15 rfl (by decide) rfl ?_
        refine z_iload_n (pc := 16) hO 0 dX0_canComplement_16 rfl rfl ?_
        refine z_if_eq (pc := 17) hO (tgt := 38) dX0_canComplement_17 (by decide) (by omega) (fun b2 => ?_) (fun b2 => ?_)
        · refine z_iinc (pc := 38) hO 3 (lv' := [(2, .int (zi (i + 1))), (3, .int (zi (nc x q i))), (0, .ref (gA g (10 + q))), (1, .int (zi b))]) dX0_canComplement_38 rfl (by decide) rfl ?_
          refine z_goto (pc := 41) hO (tgt := 2) dX0_canComplement_41 (by decide) ?_
          refine z_sub [2, 3, 0] rfl ?_
          exact ih2 (i + 1) (by omega) (by omega) (by intro l a b; by_cases hl : l = i; (subst hl; omega); exact hA l a (by omega))
        · refine z_iload_n (pc := 20) hO 2 dX0_canComplement_20 rfl rfl ?_
          refine z_iload_n (pc := 21) hO 0 dX0_canComplement_21 rfl rfl ?_
          refine z_isub (pc := 22) hO dX0_canComplement_22 ?_
          refine z_iconst (pc := 23) hO dX0_canComplement_23 ?_
          refine z_icmp_lt (pc := 24) hO (tgt := 36) dX0_canComplement_24 (by decide) (by omega) (by omega) (fun b3 => ?_) (fun b3 => ?_)
          · refine z_iconst (pc := 36) hO dX0_canComplement_36 ?_
            exact z_iret (pc := 37) hO hr hQ rfl dX0_canComplement_37 ⟨Or.inr ⟨rfl, by first | (first | (intro l a b; exact hA l a (by omega)) | (intro h; have := h i (by omega) (by omega); omega); done) | (exfalso; omega)⟩, rfl⟩
          · refine z_iload_n (pc := 27) hO 2 dX0_canComplement_27 rfl rfl ?_
            refine z_iload_n (pc := 28) hO 0 dX0_canComplement_28 rfl rfl ?_
            refine z_isub (pc := 29) hO dX0_canComplement_29 ?_
            refine z_sipush (pc := 30) hO dX0_canComplement_30 (by decide) ?_
            refine z_icmp_le (pc := 33) hO (tgt := 38) dX0_canComplement_33 (by decide) (by omega) (by omega) (fun b4 => ?_) (fun b4 => ?_)
            · refine z_iinc (pc := 38) hO 3 (lv' := [(2, .int (zi (i + 1))), (3, .int (zi (nc x q i))), (0, .ref (gA g (10 + q))), (1, .int (zi b))]) dX0_canComplement_38 rfl (by decide) rfl ?_
              refine z_goto (pc := 41) hO (tgt := 2) dX0_canComplement_41 (by decide) ?_
              refine z_sub [2, 3, 0] rfl ?_
              exact ih2 (i + 1) (by omega) (by omega) (by intro l a b; by_cases hl : l = i; (subst hl; omega); exact hA l a (by omega))
            · refine z_iconst (pc := 36) hO dX0_canComplement_36 ?_
              exact z_iret (pc := 37) hO hr hQ rfl dX0_canComplement_37 ⟨Or.inr ⟨rfl, by first | (first | (intro l a b; exact hA l a (by omega)) | (intro h; have := h i (by omega) (by omega); omega); done) | (exfalso; omega)⟩, rfl⟩
  refine z_sub [1, 2, 0] rfl ?_
  exact L2 _ 0 (Nat.lt_succ_self _) (by omega) (by intro l a b; omega)

set_option maxHeartbeats 600000 in
theorem c_X0_complement (l : Launch) (g : Gl) (x : Me) (q : Nat) (b : Int)  (hF : FG x q) (hb : 0 ≤ b ∧ b ≤ 1998) : ctQ l g yX0_complement cX0_complement 5 (some .int) 2 43 [.ref (gA g (10 + q)), .int (zi b)] x (QIu g (fun z x' => z = chg (x (10 + q) 1) (nc x q) (cpf (x (10 + q) 1) (nc x q) b) ∧ nc x' q = cpf (x (10 + q) 1) (nc x q) b ∧ ∀ a, a ≠ 20 + q → x' a = x a)) := by
  refine ct_start (own := RX0) (lv := [(0, .ref (gA g (10 + q))), (1, .int (zi b))]) (plainFor_of_name (by decide)) rfl (Nat.le_of_ble_eq_true rfl) rfl ?_
  intro Γ hΓ hO hr hQ _
  obtain ⟨hq, hs, hf⟩ := id hF
  have h9 := sq9 hs
  have hN := FG.r hF
  refine z_iconst (pc := 0) hO dX0_complement_0 ?_
  refine z_istore_n (pc := 1) hO (lv' := [(2, .int (zi 0)), (0, .ref (gA g (10 + q))), (1, .int (zi b))]) dX0_complement_1 rfl (by decide) rfl ?_
  refine z_iconst (pc := 2) hO dX0_complement_2 ?_
  refine z_istore_n (pc := 3) hO (lv' := [(3, .int (zi 0)), (2, .int (zi 0)), (0, .ref (gA g (10 + q))), (1, .int (zi b))]) dX0_complement_3 rfl (by decide) rfl ?_
  have L4 : ∀ (N : Nat) (i : Int) (c : Int) (y : Me), (x (10 + q) 1 * x (10 + q) 1 - i).toNat < N → (0 ≤ i ∧ i ≤ x (10 + q) 1 * x (10 + q) 1) → (c = sm (fun p => if cpf (x (10 + q) 1) (nc x q) b p = nc x q p then 0 else 1) i.toNat) → (∀ p, i ≤ p → y (20 + q) p = x (20 + q) p) → (∀ p, 0 ≤ p → p < i → y (20 + q) p = cpf (x (10 + q) 1) (nc x q) b p) → (∀ a, a ≠ 20 + q → y a = x a) → Zz Γ g 5 0 0 y 4 [(0, .ref (gA g (10 + q))), (1, .int (zi b)), (2, .int (zi c)), (3, .int (zi i))] [] := by
    intro N
    induction N with
    | zero => intro i c y hm; exact absurd hm (Nat.not_lt_zero _)
    | succ N ih4 =>
      intro i c y hm h0 hc9 k3 k4 k5
      have k1 := k5 (10 + q) (by omega)
      have hy : y (10 + q) 1 = x (10 + q) 1 := by rw [k1]
      have hyy : y (10 + q) 1 * y (10 + q) 1 = x (10 + q) 1 * x (10 + q) 1 := by rw [hy]
      have hm : 0 ≤ i → i < x (10 + q) 1 * x (10 + q) 1 → cpf (x (10 + q) 1) (nc x q) b i = if nc x q i = 0 then 0 else b - nc x q i := fun a0 a1 => if_pos ⟨a0, a1⟩
      have hR2 := hN i
      have hk3 := k3 i (by omega)
      have hv : 0 ≤ i → i < 81 → nc y q i = nc x q i := fun a0 a1 => by rw [nc_in ⟨a0, a1⟩, nc_in ⟨a0, a1⟩]; exact hk3
      refine z_iload_n (pc := 4) hO 3 dX0_complement_4 rfl rfl ?_
      refine z_aload_n (pc := 5) hO 0 dX0_complement_5 rfl rfl ?_
      refine z_callVIp (pc := 6) hO (As := []) (st := [.int (zi i)]) (c_X1_size (qL Γ) g y q (by first | assumption | omega)) k_X0_15 (isO_fig (by omega : q < 9)) rfl (Nat.le_of_ble_eq_true rfl) (by decide) (by decide) ⟨by decide, by decide⟩ dX0_complement_6 ?_
      refine z_icmp_ge (pc := 9) hO (tgt := 49) dX0_complement_9 (by decide) (by omega) (by omega) (fun b1 => ?_) (fun b1 => ?_)
      · refine z_iload_n (pc := 49) hO 2 dX0_complement_49 rfl rfl ?_
        exact z_iret (pc := 50) hO hr hQ rfl dX0_complement_50 (by first | (refine ⟨by rw [hc9]; unfold chg; congr 2; omega, nc_eq (fun p a0 a1 => ?_) (fun p a0 => ?_), k5⟩; (by_cases hp : p < x (10 + q) 1 * x (10 + q) 1; (exact k4 p a0 (by omega)); (unfold cpf; rw [if_neg (by omega), nc_in ⟨a0, a1⟩]; exact k3 p (by omega))); (unfold cpf; rw [if_neg (by omega)]; exact nc_out x q a0); done) | (exfalso; omega))
      · have hv1 := hv (by omega) (by omega)
        have hm1 := hm (by omega) (by omega)
        have hn1 : nc x q i = x (20 + q) i := nc_in (by omega)
        refine z_aload_n (pc := 12) hO 0 dX0_complement_12 rfl rfl ?_
        refine z_iload_n (pc := 13) hO 3 dX0_complement_13 rfl rfl ?_
        refine z_callVIp (pc := 14) hO (As := [.int (zi i)]) (st := []) (c_X1_read (qL Γ) g y q i (by first | assumption | omega) (by first | assumption | omega)) k_X0_28 (isO_fig (by omega : q < 9)) rfl (Nat.le_of_ble_eq_true rfl) (by decide) (by decide) ⟨by decide, by decide⟩ dX0_complement_14 ?_
        refine z_istore (pc := 17) hO (lv' := [(4, .int (zi (nc y q i))), (0, .ref (gA g (10 + q))), (1, .int (zi b)), (2, .int (zi c)), (3, .int (zi i))]) dX0_complement_17 (by decide) rfl ?_
        refine z_iload (pc := 19) hO 0 dX0_complement_19 rfl ?_
        refine z_if_eq (pc := 21) hO (tgt := 43) dX0_complement_21 (by decide) (by omega) (fun b2 => ?_) (fun b2 => ?_)
        · refine z_iinc (pc := 43) hO 4 (lv' := [(3, .int (zi (i + 1))), (4, .int (zi (nc y q i))), (0, .ref (gA g (10 + q))), (1, .int (zi b)), (2, .int (zi c))]) dX0_complement_43 rfl (by decide) rfl ?_
          refine z_goto (pc := 46) hO (tgt := 4) dX0_complement_46 (by decide) ?_
          refine z_sub [2, 3, 4, 0] rfl ?_
          exact ih4 (i + 1) c y (by omega) (by omega) (by rw [sm_s _ (by omega), hc9]; rw [hm1]; first | (rw [if_pos (by first | (rw [if_pos (by omega)]; omega) | (rw [if_neg (by omega)]; omega))]; omega) | (rw [if_neg (by first | (rw [if_pos (by omega)]; omega) | (rw [if_neg (by omega)]; omega))]; done)) (by first | (intro p a0; subst y; rw [up_n _ _ (by omega)]; exact k3 p (by omega)) | (intro p a0; exact k3 p (by omega))) (by first | (intro p a0 a1; subst y; by_cases hp : p = i; (subst hp; rw [up_s, hm1, if_neg (by omega)]; omega); (rw [up_n _ _ (by omega)]; exact k4 p a0 (by omega))) | (intro p a0 a1; by_cases hp : p = i; (subst hp; rw [hm1, if_pos (by omega)]; omega); (exact k4 p a0 (by omega)))) (by first | (intro a a1; subst y; rw [up_i _ _ _ a1]; exact k5 a a1) | exact k5)
        · refine z_aload_n (pc := 24) hO 1 dX0_complement_24 rfl rfl ?_
          refine z_iload_n (pc := 25) hO 4 dX0_complement_25 rfl rfl ?_
          refine z_iload_n (pc := 26) hO 2 dX0_complement_26 rfl rfl ?_
          refine z_iload (pc := 27) hO 0 dX0_complement_27 rfl ?_
          refine z_isub (pc := 29) hO dX0_complement_29 ?_
          refine z_callVIm (pc := 30) hO (As := [.int (zi i), .int (zi (b - (nc y q i)))]) (st := []) (c_X1_write (qL Γ) g y q i (b - (nc y q i)) (by first | assumption | omega) (by first | assumption | omega)) k_X0_32 (isO_fig (by omega : q < 9)) rfl (Nat.le_of_ble_eq_true rfl) (by decide) (by decide) ⟨by decide, by decide⟩ dX0_complement_30 (fun m3 e4 => ?_)
          refine z_iload_n (pc := 33) hO 2 dX0_complement_33 rfl rfl ?_
          refine z_iload (pc := 34) hO 0 dX0_complement_34 rfl ?_
          refine z_isub (pc := 36) hO dX0_complement_36 ?_
          refine z_icmp_eq (pc := 37) hO (tgt := 43) dX0_complement_37 (by decide) (by omega) (by omega) (fun b5 => ?_) (fun b5 => ?_)
          · refine z_iinc (pc := 43) hO 4 (lv' := [(3, .int (zi (i + 1))), (4, .int (zi (nc y q i))), (0, .ref (gA g (10 + q))), (1, .int (zi b)), (2, .int (zi c))]) dX0_complement_43 rfl (by decide) rfl ?_
            refine z_goto (pc := 46) hO (tgt := 4) dX0_complement_46 (by decide) ?_
            refine z_sub [2, 3, 4, 0] rfl ?_
            exact ih4 (i + 1) c m3 (by omega) (by omega) (by rw [sm_s _ (by omega), hc9]; rw [hm1]; first | (rw [if_pos (by first | (rw [if_pos (by omega)]; omega) | (rw [if_neg (by omega)]; omega))]; omega) | (rw [if_neg (by first | (rw [if_pos (by omega)]; omega) | (rw [if_neg (by omega)]; omega))]; done)) (by first | (intro p a0; subst m3; rw [up_n _ _ (by omega)]; exact k3 p (by omega)) | (intro p a0; exact k3 p (by omega))) (by first | (intro p a0 a1; subst m3; by_cases hp : p = i; (subst hp; rw [up_s, hm1, if_neg (by omega)]; omega); (rw [up_n _ _ (by omega)]; exact k4 p a0 (by omega))) | (intro p a0 a1; by_cases hp : p = i; (subst hp; rw [hm1, if_pos (by omega)]; omega); (exact k4 p a0 (by omega)))) (by first | (intro a a1; subst m3; rw [up_i _ _ _ a1]; exact k5 a a1) | exact k5)
          · refine z_iinc (pc := 40) hO 3 (lv' := [(2, .int (zi (c + 1))), (4, .int (zi (nc y q i))), (0, .ref (gA g (10 + q))), (1, .int (zi b)), (3, .int (zi i))]) dX0_complement_40 rfl (by decide) rfl ?_
            refine z_iinc (pc := 43) hO 4 (lv' := [(3, .int (zi (i + 1))), (2, .int (zi (c + 1))), (4, .int (zi (nc y q i))), (0, .ref (gA g (10 + q))), (1, .int (zi b))]) dX0_complement_43 rfl (by decide) rfl ?_
            refine z_goto (pc := 46) hO (tgt := 4) dX0_complement_46 (by decide) ?_
            refine z_sub [3, 4, 1, 0] rfl ?_
            exact ih4 (i + 1) (c + 1) m3 (by omega) (by omega) (by rw [sm_s _ (by omega), hc9]; rw [hm1]; first | (rw [if_pos (by first | (rw [if_pos (by omega)]; omega) | (rw [if_neg (by omega)]; omega))]; omega) | (rw [if_neg (by first | (rw [if_pos (by omega)]; omega) | (rw [if_neg (by omega)]; omega))]; done)) (by first | (intro p a0; subst m3; rw [up_n _ _ (by omega)]; exact k3 p (by omega)) | (intro p a0; exact k3 p (by omega))) (by first | (intro p a0 a1; subst m3; by_cases hp : p = i; (subst hp; rw [up_s, hm1, if_neg (by omega)]; omega); (rw [up_n _ _ (by omega)]; exact k4 p a0 (by omega))) | (intro p a0 a1; by_cases hp : p = i; (subst hp; rw [hm1, if_pos (by omega)]; omega); (exact k4 p a0 (by omega)))) (by first | (intro a a1; subst m3; rw [up_i _ _ _ a1]; exact k5 a a1) | exact k5)
  refine z_sub [2, 3, 1, 0] rfl ?_
  exact L4 _ 0 0 x (Nat.lt_succ_self _) (by omega) (by rfl) (by intro p _; rfl) (by intro p _ _; omega) (by intro a _; rfl)

