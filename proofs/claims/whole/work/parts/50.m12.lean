set_option maxHeartbeats 4000000 in
theorem c_X10_clearRow (l : Launch) (g : Gl) (x : Me)    : ctQ l g yX10_clearRow cX10_clearRow 2 none 1 20 [.ref (gA g 42)] x (QVu g (fun x' => x' = clr x 45 38)) := by
  refine ct_start (own := RX10) (lv := [(0, .ref (gA g 42))]) (plainFor_of_name (by decide)) rfl (Nat.le_of_ble_eq_true rfl) rfl ?_
  intro Γ hΓ hO hr hQ _
  refine z_iconst (pc := 0) hO dX10_clearRow_0 ?_
  refine z_istore_n (pc := 1) hO (lv' := [(1, .int (zi 0)), (0, .ref (gA g 42))]) dX10_clearRow_1 rfl (by decide) rfl ?_
  have L2 : ∀ (N : Nat) (i : Int) (y : Me), (38 - i).toNat < N → (0 ≤ i ∧ i ≤ 38) → (y = clr x 45 i) → Zz Γ g 2 0 0 y 2 [(0, .ref (gA g 42)), (1, .int (zi i))] [] := by
    intro N
    induction N with
    | zero => intro i y hm; exact absurd hm (Nat.not_lt_zero _)
    | succ N ih2 =>
      intro i y hm h0 hy
      refine z_iload_n (pc := 2) hO 1 dX10_clearRow_2 rfl rfl ?_
      refine z_aload_n (pc := 3) hO 0 dX10_clearRow_3 rfl rfl ?_
      refine gf_X10_row (pc := 4) hO f_X10_20 dX10_clearRow_4 ?_
      refine z_alenI (pc := 7) hO isI_45 dX10_clearRow_7 ?_
      refine z_icmp_ge (pc := 8) hO (tgt := 24) dX10_clearRow_8 (by decide) (by omega) (by omega) (fun b1 => ?_) (fun b1 => ?_)
      · exact z_vret (pc := 24) hO hr hQ dX10_clearRow_24 (by first | (rw [hy]; congr 1; omega; done) | (exfalso; omega))
      · refine z_aload_n (pc := 11) hO 0 dX10_clearRow_11 rfl rfl ?_
        refine gf_X10_row (pc := 12) hO f_X10_20 dX10_clearRow_12 ?_
        refine z_iload_n (pc := 15) hO 1 dX10_clearRow_15 rfl rfl ?_
        refine z_iconst (pc := 16) hO dX10_clearRow_16 ?_
        refine z_iast (pc := 17) hO isI_45 (by omega) dX10_clearRow_17 (fun m2 e3 => ?_)
        refine z_iinc (pc := 18) hO 1 (lv' := [(1, .int (zi (i + 1))), (0, .ref (gA g 42))]) dX10_clearRow_18 rfl (by decide) rfl ?_
        refine z_goto (pc := 21) hO (tgt := 2) dX10_clearRow_21 (by decide) ?_
        refine z_sub [1, 0] rfl ?_
        exact ih2 (i + 1) m2 (by omega) (by omega) (by rw [← clr_s _ _ (by omega), ← hy]; assumption)
  refine z_sub [1, 0] rfl ?_
  exact L2 _ 0 x (Nat.lt_succ_self _) (by omega) (by rw [clr_0])

set_option maxHeartbeats 4000000 in
theorem c_X10_addToRow (l : Launch) (g : Gl) (x : Me) (u : Int) (t : Int)  (hu : 0 ≤ u ∧ u < 38) : ctQ l g yX10_addToRow cX10_addToRow 3 none 1 20 [.ref (gA g 42), .int (zi u), .int (zi t)] x (QVu g (fun x' => x' = up x 45 u (x 45 u + t))) := by
  refine ct_start (own := RX10) (lv := [(0, .ref (gA g 42)), (1, .int (zi u)), (2, .int (zi t))]) (plainFor_of_name (by decide)) rfl (Nat.le_of_ble_eq_true rfl) rfl ?_
  intro Γ hΓ hO hr hQ _
  refine z_iload_n (pc := 0) hO 1 dX10_addToRow_0 rfl rfl ?_
  refine z_if_lt (pc := 1) hO (tgt := 23) dX10_addToRow_1 (by decide) (by omega) (fun b1 => ?_) (fun b1 => ?_)
  · exact z_vret (pc := 23) hO hr hQ dX10_addToRow_23 (by first | (first | assumption | (exfalso; omega); done) | (exfalso; omega))
  · refine z_iload_n (pc := 4) hO 1 dX10_addToRow_4 rfl rfl ?_
    refine z_aload_n (pc := 5) hO 0 dX10_addToRow_5 rfl rfl ?_
    refine gf_X10_row (pc := 6) hO f_X10_20 dX10_addToRow_6 ?_
    refine z_alenI (pc := 9) hO isI_45 dX10_addToRow_9 ?_
    refine z_icmp_ge (pc := 10) hO (tgt := 23) dX10_addToRow_10 (by decide) (by omega) (by omega) (fun b2 => ?_) (fun b2 => ?_)
    · exact z_vret (pc := 23) hO hr hQ dX10_addToRow_23 (by first | (first | assumption | (exfalso; omega); done) | (exfalso; omega))
    · refine z_aload_n (pc := 13) hO 0 dX10_addToRow_13 rfl rfl ?_
      refine gf_X10_row (pc := 14) hO f_X10_20 dX10_addToRow_14 ?_
      refine z_iload_n (pc := 17) hO 1 dX10_addToRow_17 rfl rfl ?_
      refine z_dup2 (pc := 18) hO dX10_addToRow_18 rfl rfl ?_
      refine z_iald (pc := 19) hO isI_45 (by omega) dX10_addToRow_19 ?_
      refine z_iload_n (pc := 20) hO 2 dX10_addToRow_20 rfl rfl ?_
      refine z_iadd (pc := 21) hO dX10_addToRow_21 ?_
      refine z_iast (pc := 22) hO isI_45 (by omega) dX10_addToRow_22 (fun m3 e4 => ?_)
      exact z_vret (pc := 23) hO hr hQ dX10_addToRow_23 (by first | (first | assumption | (exfalso; omega); done) | (exfalso; omega))

set_option maxHeartbeats 4000000 in
theorem c_X10_leadOfRow (l : Launch) (g : Gl) (x : Me)  (c : List Int) (hv : VM x 45 c) : ctQ l g yX10_leadOfRow cX10_leadOfRow 2 (some .int) 1 20 [.ref (gA g 42)] x (QIu g (fun z x' => (z = ldF c 0 ∧ -1 ≤ z ∧ z < 38) ∧ x' = x)) := by
  refine ct_start (own := RX10) (lv := [(0, .ref (gA g 42))]) (plainFor_of_name (by decide)) rfl (Nat.le_of_ble_eq_true rfl) rfl ?_
  intro Γ hΓ hO hr hQ _
  refine z_iconst (pc := 0) hO dX10_leadOfRow_0 ?_
  refine z_istore_n (pc := 1) hO (lv' := [(1, .int (zi 0)), (0, .ref (gA g 42))]) dX10_leadOfRow_1 rfl (by decide) rfl ?_
  have L2 : ∀ (N : Nat) (i : Int), (38 - i).toNat < N → (0 ≤ i ∧ i ≤ 38) → (∀ j : Nat, (j : Int) < i → c.getD j 0 = 0) → Zz Γ g 2 0 0 x 2 [(0, .ref (gA g 42)), (1, .int (zi i))] [] := by
    intro N
    induction N with
    | zero => intro i hm; exact absurd hm (Nat.not_lt_zero _)
    | succ N ih2 =>
      intro i hm h0 hA
      refine z_iload_n (pc := 2) hO 1 dX10_leadOfRow_2 rfl rfl ?_
      refine z_aload_n (pc := 3) hO 0 dX10_leadOfRow_3 rfl rfl ?_
      refine gf_X10_row (pc := 4) hO f_X10_20 dX10_leadOfRow_4 ?_
      refine z_alenI (pc := 7) hO isI_45 dX10_leadOfRow_7 ?_
      refine z_icmp_ge (pc := 8) hO (tgt := 28) dX10_leadOfRow_8 (by decide) (by omega) (by omega) (fun b1 => ?_) (fun b1 => ?_)
      · refine z_iconst (pc := 28) hO dX10_leadOfRow_28 ?_
        exact z_iret (pc := 29) hO hr hQ rfl dX10_leadOfRow_29 ⟨by first | (refine ⟨?_, by omega, by omega⟩; rw [ldF_z (fun j hj => hA j (by rw [hv.1] at hj; omega))]; done) | (exfalso; omega), rfl⟩
      · have hvi := hv.2 i (by omega) (by omega)
        refine z_aload_n (pc := 11) hO 0 dX10_leadOfRow_11 rfl rfl ?_
        refine gf_X10_row (pc := 12) hO f_X10_20 dX10_leadOfRow_12 ?_
        refine z_iload_n (pc := 15) hO 1 dX10_leadOfRow_15 rfl rfl ?_
        refine z_iald (pc := 16) hO isI_45 (by omega) dX10_leadOfRow_16 ?_
        refine z_if_eq (pc := 17) hO (tgt := 22) dX10_leadOfRow_17 (by decide) (by omega) (fun b2 => ?_) (fun b2 => ?_)
        · refine z_iinc (pc := 22) hO 1 (lv' := [(1, .int (zi (i + 1))), (0, .ref (gA g 42))]) dX10_leadOfRow_22 rfl (by decide) rfl ?_
          refine z_goto (pc := 25) hO (tgt := 2) dX10_leadOfRow_25 (by decide) ?_
          refine z_sub [1, 0] rfl ?_
          exact ih2 (i + 1) (by omega) (by omega) (by intro j hj; exact dite ((j : Int) = i) (fun e => by have h1 := hvi.1; rw [show i.toNat = j by omega] at h1; omega) (fun e => hA j (by omega)))
        · refine z_iload_n (pc := 20) hO 1 dX10_leadOfRow_20 rfl rfl ?_
          exact z_iret (pc := 21) hO hr hQ rfl dX10_leadOfRow_21 ⟨by first | (refine ⟨?_, by omega, by omega⟩; rw [ldF_at (i := i.toNat) (by rw [hv.1]; omega) (fun j hj => hA j (by omega)) (by rw [← hvi.1]; assumption)]; omega; done) | (exfalso; omega), rfl⟩
  refine z_sub [1, 0] rfl ?_
  exact L2 _ 0 (Nat.lt_succ_self _) (by omega) (by intro j _; omega)

set_option maxHeartbeats 4000000 in
theorem c_X10_copyRowTo (l : Launch) (g : Gl) (x : Me) (j : Nat) (c : List Int) (hv : VM x 45 c) (hj : j < 38) : ctQ l g yX10_copyRowTo cX10_copyRowTo 3 none 1 20 [.ref (gA g 42), .ref (gA g (100 + j))] x (QVu g (fun x' => VM x' (100 + j) c ∧ ∀ a, a ≠ 100 + j → x' a = x a)) := by
  refine ct_start (own := RX10) (lv := [(0, .ref (gA g 42)), (1, .ref (gA g (100 + j)))]) (plainFor_of_name (by decide)) rfl (Nat.le_of_ble_eq_true rfl) rfl ?_
  intro Γ hΓ hO hr hQ _
  refine z_aload_n (pc := 0) hO 1 dX10_copyRowTo_0 rfl rfl ?_
  refine z_ifnonnull (pc := 1) hO (tgt := 5) dX10_copyRowTo_1 (by decide) ?_
  refine z_iconst (pc := 5) hO dX10_copyRowTo_5 ?_
  refine z_istore_n (pc := 6) hO (lv' := [(2, .int (zi 0)), (0, .ref (gA g 42)), (1, .ref (gA g (100 + j)))]) dX10_copyRowTo_6 rfl (by decide) rfl ?_
  have L7 : ∀ (N : Nat) (i : Int) (y : Me), (38 - i).toNat < N → (0 ≤ i ∧ i ≤ 38) → (∀ k, 0 ≤ k → k < i → y (100 + j) k = x 45 k) → (∀ a, a ≠ 100 + j → y a = x a) → Zz Γ g 3 0 0 y 7 [(0, .ref (gA g 42)), (1, .ref (gA g (100 + j))), (2, .int (zi i))] [] := by
    intro N
    induction N with
    | zero => intro i y hm; exact absurd hm (Nat.not_lt_zero _)
    | succ N ih7 =>
      intro i y hm h0 hA hfr
      refine z_iload_n (pc := 7) hO 2 dX10_copyRowTo_7 rfl rfl ?_
      refine z_aload_n (pc := 8) hO 0 dX10_copyRowTo_8 rfl rfl ?_
      refine gf_X10_row (pc := 9) hO f_X10_20 dX10_copyRowTo_9 ?_
      refine z_alenI (pc := 12) hO isI_45 dX10_copyRowTo_12 ?_
      refine z_icmp_ge (pc := 13) hO (tgt := 37) dX10_copyRowTo_13 (by decide) (by omega) (by omega) (fun b1 => ?_) (fun b1 => ?_)
      · exact z_vret (pc := 37) hO hr hQ dX10_copyRowTo_37 (by first | (refine ⟨⟨hv.1, fun k a b => ?_⟩, hfr⟩; rw [hA k a (by omega)]; exact hv.2 k a b; done) | (exfalso; omega))
      · refine z_iload_n (pc := 16) hO 2 dX10_copyRowTo_16 rfl rfl ?_
        refine z_aload_n (pc := 17) hO 1 dX10_copyRowTo_17 rfl rfl ?_
        refine z_alenI (pc := 18) hO (isI_row (by omega : j < 38)) dX10_copyRowTo_18 ?_
        refine z_icmp_ge (pc := 19) hO (tgt := 37) dX10_copyRowTo_19 (by decide) (by omega) (by omega) (fun b2 => ?_) (fun b2 => ?_)
        · exact z_vret (pc := 37) hO hr hQ dX10_copyRowTo_37 (by first | (refine ⟨⟨hv.1, fun k a b => ?_⟩, hfr⟩; rw [hA k a (by omega)]; exact hv.2 k a b; done) | (exfalso; omega))
        · refine z_aload_n (pc := 22) hO 1 dX10_copyRowTo_22 rfl rfl ?_
          refine z_iload_n (pc := 23) hO 2 dX10_copyRowTo_23 rfl rfl ?_
          refine z_aload_n (pc := 24) hO 0 dX10_copyRowTo_24 rfl rfl ?_
          refine gf_X10_row (pc := 25) hO f_X10_20 dX10_copyRowTo_25 ?_
          refine z_iload_n (pc := 28) hO 2 dX10_copyRowTo_28 rfl rfl ?_
          refine z_iald (pc := 29) hO isI_45 (by omega) dX10_copyRowTo_29 ?_
          refine z_iast (pc := 30) hO (isI_row (by omega : j < 38)) (by omega) dX10_copyRowTo_30 (fun m3 e4 => ?_)
          refine z_iinc (pc := 31) hO 2 (lv' := [(2, .int (zi (i + 1))), (0, .ref (gA g 42)), (1, .ref (gA g (100 + j)))]) dX10_copyRowTo_31 rfl (by decide) rfl ?_
          refine z_goto (pc := 34) hO (tgt := 7) dX10_copyRowTo_34 (by decide) ?_
          refine z_sub [1, 2, 0] rfl ?_
          exact ih7 (i + 1) m3 (by omega) (by omega) (by intro k a b; subst m3; exact dite (k = i) (fun e => by rw [e, up_s, hfr 45 (by omega)]) (fun e => by rw [up_n _ _ (by omega)]; exact hA k a (by omega))) (by intro a ha; subst m3; rw [up_i _ _ _ ha]; exact hfr a ha)
  refine z_sub [1, 2, 0] rfl ?_
  exact L7 _ 0 x (Nat.lt_succ_self _) (by omega) (by intro k _ _; omega) (by intro a _; rfl)

set_option maxHeartbeats 4000000 in
theorem c_X10_reduceBy (l : Launch) (g : Gl) (x : Me) (j : Nat) (ld : Int) (c : List Int) (k : List Int) (hv : VM x 45 c) (hk : VM x (100 + j) k) (hj : j < 38) (hl : 0 ≤ ld ∧ ld < 38) : ctQ l g yX10_reduceBy cX10_reduceBy 8 none 2 45 [.ref (gA g 42), .ref (gA g (100 + j)), .int (zi ld)] x (QVu g (fun x' => VM x' 45 (rdL c k ld) ∧ ∀ a, a ≠ 45 → x' a = x a)) := by
  refine ct_start (own := RX10) (lv := [(0, .ref (gA g 42)), (1, .ref (gA g (100 + j))), (2, .int (zi ld))]) (plainFor_of_name (by decide)) rfl (Nat.le_of_ble_eq_true rfl) rfl ?_
  intro Γ hΓ hO hr hQ _
  have hcl := hv.2 ld (by omega) (by omega)
  have hkl := hk.2 ld (by omega) (by omega)
  refine z_aload_n (pc := 0) hO 1 dX10_reduceBy_0 rfl rfl ?_
  refine z_ifnull (pc := 1) hO dX10_reduceBy_1 ?_
  refine z_iload_n (pc := 4) hO 2 dX10_reduceBy_4 rfl rfl ?_
  refine z_if_lt (pc := 5) hO (tgt := 32) dX10_reduceBy_5 (by decide) (by omega) (fun b1 => ?_) (fun b1 => ?_)
  · exact z_vret (pc := 32) hO hr hQ dX10_reduceBy_32 (by first | (refine ⟨?_, fun _ _ => rfl⟩; unfold rdL; rw [if_pos (by rw [← hcl.1]; assumption)]; exact hv; done) | (exfalso; omega))
  · refine z_iload_n (pc := 8) hO 2 dX10_reduceBy_8 rfl rfl ?_
    refine z_aload_n (pc := 9) hO 1 dX10_reduceBy_9 rfl rfl ?_
    refine z_alenI (pc := 10) hO (isI_row (by omega : j < 38)) dX10_reduceBy_10 ?_
    refine z_icmp_ge (pc := 11) hO (tgt := 32) dX10_reduceBy_11 (by decide) (by omega) (by omega) (fun b2 => ?_) (fun b2 => ?_)
    · exact z_vret (pc := 32) hO hr hQ dX10_reduceBy_32 (by first | (refine ⟨?_, fun _ _ => rfl⟩; unfold rdL; rw [if_pos (by rw [← hcl.1]; assumption)]; exact hv; done) | (exfalso; omega))
    · refine z_iload_n (pc := 14) hO 2 dX10_reduceBy_14 rfl rfl ?_
      refine z_aload_n (pc := 15) hO 0 dX10_reduceBy_15 rfl rfl ?_
      refine gf_X10_row (pc := 16) hO f_X10_20 dX10_reduceBy_16 ?_
      refine z_alenI (pc := 19) hO isI_45 dX10_reduceBy_19 ?_
      refine z_icmp_ge (pc := 20) hO (tgt := 32) dX10_reduceBy_20 (by decide) (by omega) (by omega) (fun b3 => ?_) (fun b3 => ?_)
      · exact z_vret (pc := 32) hO hr hQ dX10_reduceBy_32 (by first | (refine ⟨?_, fun _ _ => rfl⟩; unfold rdL; rw [if_pos (by rw [← hcl.1]; assumption)]; exact hv; done) | (exfalso; omega))
      · refine z_aload_n (pc := 23) hO 0 dX10_reduceBy_23 rfl rfl ?_
        refine gf_X10_row (pc := 24) hO f_X10_20 dX10_reduceBy_24 ?_
        refine z_iload_n (pc := 27) hO 2 dX10_reduceBy_27 rfl rfl ?_
        refine z_iald (pc := 28) hO isI_45 (by omega) dX10_reduceBy_28 ?_
        refine z_if_ne (pc := 29) hO (tgt := 33) dX10_reduceBy_29 (by decide) (by omega) (fun b4 => ?_) (fun b4 => ?_)
        · refine z_aload_n (pc := 33) hO 1 dX10_reduceBy_33 rfl rfl ?_
          refine z_iload_n (pc := 34) hO 2 dX10_reduceBy_34 rfl rfl ?_
          refine z_iald (pc := 35) hO (isI_row (by omega : j < 38)) (by omega) dX10_reduceBy_35 ?_
          refine z_i2l (pc := 36) hO dX10_reduceBy_36 (by omega) ?_
          refine z_lstore_n (pc := 37) hO (lv' := [(3, .long (zl (x (100 + j) ld))), (0, .ref (gA g 42)), (1, .ref (gA g (100 + j))), (2, .int (zi ld))]) dX10_reduceBy_37 rfl (by decide) rfl ?_
          refine z_aload_n (pc := 38) hO 1 dX10_reduceBy_38 rfl rfl ?_
          refine gf_X10_row (pc := 39) hO f_X10_20 dX10_reduceBy_39 ?_
          refine z_iload_n (pc := 42) hO 3 dX10_reduceBy_42 rfl rfl ?_
          refine z_iald (pc := 43) hO isI_45 (by omega) dX10_reduceBy_43 ?_
          refine z_i2l (pc := 44) hO dX10_reduceBy_44 (by omega) ?_
          refine z_lstore (pc := 45) hO (lv' := [(5, .long (zl (x 45 ld))), (3, .long (zl (x (100 + j) ld))), (0, .ref (gA g 42)), (1, .ref (gA g (100 + j))), (2, .int (zi ld))]) dX10_reduceBy_45 (by decide) rfl ?_
          refine z_iconst (pc := 47) hO dX10_reduceBy_47 ?_
          refine z_istore (pc := 48) hO (lv' := [(7, .int (zi 0)), (5, .long (zl (x 45 ld))), (3, .long (zl (x (100 + j) ld))), (0, .ref (gA g 42)), (1, .ref (gA g (100 + j))), (2, .int (zi ld))]) dX10_reduceBy_48 (by decide) rfl ?_
          have L50 : ∀ (N : Nat) (i : Int) (y : Me), (38 - i).toNat < N → (0 ≤ i ∧ i ≤ 38) → (∀ t, 0 ≤ t → t < i → y 45 t = (rdL c k ld).getD t.toNat 0 ∧ 0 ≤ (rdL c k ld).getD t.toNat 0 ∧ (rdL c k ld).getD t.toNat 0 < 1000003) → (∀ t, i ≤ t → y 45 t = x 45 t) → (∀ a, a ≠ 45 → y a = x a) → Zz Γ g 8 0 0 y 50 [(0, .ref (gA g 42)), (1, .ref (gA g (100 + j))), (2, .int (zi ld)), (3, .long (zl (x (100 + j) ld))), (5, .long (zl (x 45 ld))), (7, .int (zi i))] [] := by
            intro N
            induction N with
            | zero => intro i y hm; exact absurd hm (Nat.not_lt_zero _)
            | succ N ih50 =>
              intro i y hm h0 hA hB hfr
              refine z_iload (pc := 50) hO 5 dX10_reduceBy_50 rfl ?_
              refine z_aload_n (pc := 52) hO 0 dX10_reduceBy_52 rfl rfl ?_
              refine gf_X10_row (pc := 53) hO f_X10_20 dX10_reduceBy_53 ?_
              refine z_alenI (pc := 56) hO isI_45 dX10_reduceBy_56 ?_
              refine z_icmp_ge (pc := 57) hO (tgt := 106) dX10_reduceBy_57 (by decide) (by omega) (by omega) (fun b5 => ?_) (fun b5 => ?_)
              · exact z_vret (pc := 106) hO hr hQ dX10_reduceBy_106 (by first | (refine ⟨⟨rdL_len hv.1 hk.1, fun t a b => hA t a (by omega)⟩, hfr⟩; done) | (exfalso; omega))
              · refine z_iload (pc := 60) hO 5 dX10_reduceBy_60 rfl ?_
                refine z_aload_n (pc := 62) hO 1 dX10_reduceBy_62 rfl rfl ?_
                refine z_alenI (pc := 63) hO (isI_row (by omega : j < 38)) dX10_reduceBy_63 ?_
                refine z_icmp_ge (pc := 64) hO (tgt := 106) dX10_reduceBy_64 (by decide) (by omega) (by omega) (fun b6 => ?_) (fun b6 => ?_)
                · exact z_vret (pc := 106) hO hr hQ dX10_reduceBy_106 (by first | (refine ⟨⟨rdL_len hv.1 hk.1, fun t a b => hA t a (by omega)⟩, hfr⟩; done) | (exfalso; omega))
                · have hci := hv.2 i (by omega) (by omega)
                  have hki := hk.2 i (by omega) (by omega)
                  have hyi : y 45 i = x 45 i := hB i (by omega)
                  have hyk : y (100 + j) i = x (100 + j) i := by rw [hfr (100 + j) (by omega)]
                  have hp1 : 0 ≤ y 45 i * x (100 + j) ld ∧ y 45 i * x (100 + j) ld ≤ 1000006000009 := ⟨Int.mul_nonneg (by omega) (by omega), by have := Int.mul_le_mul (show y 45 i ≤ 1000003 by omega) (show x (100 + j) ld ≤ 1000003 by omega) (by omega) (by omega); omega⟩
                  have hp2 : 0 ≤ y (100 + j) i * x 45 ld ∧ y (100 + j) i * x 45 ld ≤ 1000006000009 := ⟨Int.mul_nonneg (by omega) (by omega), by have := Int.mul_le_mul (show y (100 + j) i ≤ 1000003 by omega) (show x 45 ld ≤ 1000003 by omega) (by omega) (by omega); omega⟩
                  have hm1 := Int.emod_nonneg (y 45 i * x (100 + j) ld - y (100 + j) i * x 45 ld) (show (1000003 : Int) ≠ 0 by decide)
                  have hm2 := Int.emod_lt_of_pos (y 45 i * x (100 + j) ld - y (100 + j) i * x 45 ld) (show (0 : Int) < 1000003 by decide)
                  have hre : (rdL c k ld).getD i.toNat 0 = (y 45 i * x (100 + j) ld - y (100 + j) i * x 45 ld) % 1000003 := by
                      rw [rdL_at hv.1 hk.1 (by rw [← hcl.1]; assumption) (by omega), hyi, hyk, hci.1, hki.1, hcl.1, hkl.1]
                  refine z_aload_n (pc := 67) hO 0 dX10_reduceBy_67 rfl rfl ?_
                  refine gf_X10_row (pc := 68) hO f_X10_20 dX10_reduceBy_68 ?_
                  refine z_iload (pc := 71) hO 5 dX10_reduceBy_71 rfl ?_
                  refine z_aload_n (pc := 73) hO 0 dX10_reduceBy_73 rfl rfl ?_
                  refine gf_X10_row (pc := 74) hO f_X10_20 dX10_reduceBy_74 ?_
                  refine z_iload (pc := 77) hO 5 dX10_reduceBy_77 rfl ?_
                  refine z_iald (pc := 79) hO isI_45 (by omega) dX10_reduceBy_79 ?_
                  refine z_i2l (pc := 80) hO dX10_reduceBy_80 (by omega) ?_
                  refine z_lload_n (pc := 81) hO 3 dX10_reduceBy_81 rfl rfl ?_
                  refine z_lmul (pc := 82) hO dX10_reduceBy_82 ?_
                  refine z_aload_n (pc := 83) hO 1 dX10_reduceBy_83 rfl rfl ?_
                  refine z_iload (pc := 84) hO 5 dX10_reduceBy_84 rfl ?_
                  refine z_iald (pc := 86) hO (isI_row (by omega : j < 38)) (by omega) dX10_reduceBy_86 ?_
                  refine z_i2l (pc := 87) hO dX10_reduceBy_87 (by omega) ?_
                  refine z_lload (pc := 88) hO 4 dX10_reduceBy_88 rfl ?_
                  refine z_lmul (pc := 90) hO dX10_reduceBy_90 ?_
                  refine z_lsub (pc := 91) hO dX10_reduceBy_91 ?_
                  refine z_ldc2 (pc := 92) hO n_X10_69 dX10_reduceBy_92 ?_
                  refine z_callSLp (pc := 95) hO (As := [.long (zl (((y 45 i) * (x (100 + j) ld)) - ((y (100 + j) i) * (x 45 ld)))), .long (zl 1000003)]) (st := [.int (zi i), .ref (gA g 45)]) (c_J9_floorMod_f86c9 (qL Γ) g y (((y 45 i) * (x (100 + j) ld)) - ((y (100 + j) i) * (x 45 ld))) 1000003 (by first | assumption | omega) (by first | assumption | omega)) k_X10_71 rfl (Nat.le_of_ble_eq_true rfl) (by decide) (by decide) ⟨by decide, by decide⟩ dX10_reduceBy_95 ?_
                  refine z_l2i (pc := 98) hO dX10_reduceBy_98 (by omega) ?_
                  refine z_iast (pc := 99) hO isI_45 (by omega) dX10_reduceBy_99 (fun m7 e8 => ?_)
                  refine z_iinc (pc := 100) hO 5 (lv' := [(7, .int (zi (i + 1))), (0, .ref (gA g 42)), (1, .ref (gA g (100 + j))), (2, .int (zi ld)), (3, .long (zl (x (100 + j) ld))), (5, .long (zl (x 45 ld)))]) dX10_reduceBy_100 rfl (by decide) rfl ?_
                  refine z_goto (pc := 103) hO (tgt := 50) dX10_reduceBy_103 (by decide) ?_
                  refine z_sub [1, 2, 3, 4, 5, 0] rfl ?_
                  exact ih50 (i + 1) m7 (by omega) (by omega) (by intro t a b; subst m7; exact dite (t = i) (fun e => by rw [e, up_s, hre]; exact ⟨rfl, hm1, hm2⟩) (fun e => by rw [up_n _ _ (by omega)]; exact hA t a (by omega))) (by intro t a; subst m7; rw [up_n _ _ (by omega)]; exact hB t (by omega)) (by intro a ha; subst m7; rw [up_i _ _ _ ha]; exact hfr a ha)
          refine z_sub [3, 4, 5, 2, 1, 0] rfl ?_
          exact L50 _ 0 x (Nat.lt_succ_self _) (by omega) (by intro t _ _; omega) (by intro t _; rfl) (by intro a _; rfl)
        · exact z_vret (pc := 32) hO hr hQ dX10_reduceBy_32 (by first | (refine ⟨?_, fun _ _ => rfl⟩; unfold rdL; rw [if_pos (by rw [← hcl.1]; assumption)]; exact hv; done) | (exfalso; omega))

