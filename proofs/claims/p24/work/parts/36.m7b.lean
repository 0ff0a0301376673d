set_option maxHeartbeats 600000 in
theorem c_X8_lay (l : Launch) (g : Gl) (x : Me) (p : Int) (v : Int) (n : Int) (G : Int → Int) (hB : SB x n) (hT : ST x n G) (hp : 0 ≤ p ∧ p < n * n) (h0 : G p = 0) (hv : 1 ≤ v ∧ v ≤ n * n) (hu : x 32 v = 0) : ctQ l g yX8_lay cX8_lay 3 none 3 68 [.ref (gA g 30), .int (zi p), .int (zi v)] x (QVu g (fun x' => ST x' n (uf G p v) ∧ x' 31 p = v ∧ (∀ r, r ≠ p → x' 31 r = x 31 r) ∧ ∀ i, i ≠ 31 → i ≠ 32 → i ≠ 33 → i ≠ 34 → x' i = x i)) := by
  refine ct_start (own := RX8) (lv := [(0, .ref (gA g 30)), (1, .int (zi p)), (2, .int (zi v))]) (plainFor_of_name (by decide)) rfl (Nat.le_of_ble_eq_true rfl) rfl ?_
  intro Γ hΓ hO hr hQ _
  obtain ⟨hn, s7, s8, s35⟩ := id hB
  have h4 := sq4 hn
  have hdu := du_rng hn
  refine z_iload_n (pc := 0) hO 1 dX8_lay_0 rfl rfl ?_
  refine z_if_lt (pc := 1) hO (tgt := 42) dX8_lay_1 (by decide) (by omega) (fun b1 => ?_) (fun b1 => ?_)
  · exact z_vret (pc := 42) hO hr hQ dX8_lay_42 (by first | (first | exact ST_lay hT hp hv.1 h0 (by assumption) (by assumption) (by assumption) | (exfalso; omega); done) | (exfalso; omega))
  · refine z_iload_n (pc := 4) hO 1 dX8_lay_4 rfl rfl ?_
    refine z_aload_n (pc := 5) hO 0 dX8_lay_5 rfl rfl ?_
    refine gf_X8_numbers (pc := 6) hO f_X8_11 dX8_lay_6 ?_
    refine z_alenI (pc := 9) hO isI_31 dX8_lay_9 ?_
    refine z_icmp_ge (pc := 10) hO (tgt := 42) dX8_lay_10 (by decide) (by omega) (by omega) (fun b2 => ?_) (fun b2 => ?_)
    · exact z_vret (pc := 42) hO hr hQ dX8_lay_42 (by first | (first | exact ST_lay hT hp hv.1 h0 (by assumption) (by assumption) (by assumption) | (exfalso; omega); done) | (exfalso; omega))
    · refine z_aload_n (pc := 13) hO 0 dX8_lay_13 rfl rfl ?_
      refine z_iload_n (pc := 14) hO 2 dX8_lay_14 rfl rfl ?_
      refine z_callVB (pc := 15) hO (As := [.int (zi v)]) (st := []) (c_X8_isFree (qL Γ) g x v n (by first | assumption | omega) (by exact ST_z hT) (by first | assumption | omega)) k_X8_54 isO_30 rfl (Nat.le_of_ble_eq_true rfl) (by decide) (by decide) ⟨by decide, by decide⟩ dX8_lay_15 (fun pb3 => ?_) (fun pb3 => ?_)
      · skip
        have hA1 := hp
        refine z_if_eq (pc := 18) hO (tgt := 42) dX8_lay_18 (by decide) (by decide) (fun h => absurd h (by decide)) (fun _ => ?_)
        refine z_aload_n (pc := 21) hO 0 dX8_lay_21 rfl rfl ?_
        refine gf_X8_numbers (pc := 22) hO f_X8_11 dX8_lay_22 ?_
        refine z_iload_n (pc := 25) hO 1 dX8_lay_25 rfl rfl ?_
        refine z_iload_n (pc := 26) hO 2 dX8_lay_26 rfl rfl ?_
        refine z_iast (pc := 27) hO isI_31 (by omega) dX8_lay_27 (fun m4 e5 => ?_)
        have c1 : ∀ i, i ≠ 31 → m4 i = x i := fun i hi => by rw [e5, up_i _ _ _ hi]
        refine z_aload_n (pc := 28) hO 0 dX8_lay_28 rfl rfl ?_
        refine gf_X8_isUsed (pc := 29) hO f_X8_15 dX8_lay_29 ?_
        refine z_iload_n (pc := 32) hO 2 dX8_lay_32 rfl rfl ?_
        refine z_iconst (pc := 33) hO dX8_lay_33 ?_
        refine z_zast (pc := 34) hO isZ_32 (by omega) (by omega) dX8_lay_34 (fun m6 e7 => ?_)
        have c2 : ∀ i, i ≠ 31 → i ≠ 32 → m6 i = x i := fun i i1 i2 => by rw [e7, up_i _ _ _ i2]; exact c1 i i1
        refine z_aload_n (pc := 35) hO 0 dX8_lay_35 rfl rfl ?_
        refine z_iload_n (pc := 36) hO 1 dX8_lay_36 rfl rfl ?_
        refine z_iload_n (pc := 37) hO 2 dX8_lay_37 rfl rfl ?_
        refine z_iconst (pc := 38) hO dX8_lay_38 ?_
        refine z_callVV (pc := 39) hO (As := [.int (zi p), .int (zi v), .int (zi (-1))]) (st := []) (c_X8_tally (qL Γ) g m6 p v (-1) n (by exact SB_of hB (by rw [c2 30 (by omega) (by omega)]) (by rw [c2 30 (by omega) (by omega)]) (c2 35 (by omega) (by omega))) (by first | assumption | omega)) k_X8_140 isO_30 rfl (Nat.le_of_ble_eq_true rfl) (by decide) (by decide) ⟨by decide, by decide⟩ dX8_lay_39 (fun m9 h10 => ?_)
        exact z_vret (pc := 42) hO hr hQ dX8_lay_42 (by first | (first | exact ST_lay hT hp hv.1 h0 (by assumption) (by assumption) (by assumption) | (exfalso; omega); done) | (exfalso; omega))
      · skip
        exfalso; exact pb3 ⟨hv, hu⟩

set_option maxHeartbeats 600000 in
theorem c_X8_lift (l : Launch) (g : Gl) (x : Me) (p : Int) (v : Int) (n : Int) (G : Int → Int) (hB : SB x n) (hT : ST x n (uf G p v)) (hp : 0 ≤ p ∧ p < n * n) (h0 : G p = 0) (hv : 1 ≤ v ∧ v ≤ n * n) (hu : ¬ usd n G v) : ctQ l g yX8_lift cX8_lift 3 none 3 68 [.ref (gA g 30), .int (zi p), .int (zi v)] x (QVu g (fun x' => ST x' n G ∧ ∀ i, i ≠ 32 → i ≠ 33 → i ≠ 34 → x' i = x i)) := by
  refine ct_start (own := RX8) (lv := [(0, .ref (gA g 30)), (1, .int (zi p)), (2, .int (zi v))]) (plainFor_of_name (by decide)) rfl (Nat.le_of_ble_eq_true rfl) rfl ?_
  intro Γ hΓ hO hr hQ _
  obtain ⟨hn, s7, s8, s35⟩ := id hB
  have h4 := sq4 hn
  have hdu := du_rng hn
  refine z_iload_n (pc := 0) hO 2 dX8_lift_0 rfl rfl ?_
  refine z_if_lt (pc := 1) hO (tgt := 28) dX8_lift_1 (by decide) (by omega) (fun b1 => ?_) (fun b1 => ?_)
  · exact z_vret (pc := 28) hO hr hQ dX8_lift_28 (by first | (first | exact ST_lift hT hp hv.1 h0 hu (by assumption) (by assumption) | (exfalso; omega); done) | (exfalso; omega))
  · refine z_iload_n (pc := 4) hO 2 dX8_lift_4 rfl rfl ?_
    refine z_aload_n (pc := 5) hO 0 dX8_lift_5 rfl rfl ?_
    refine gf_X8_isUsed (pc := 6) hO f_X8_15 dX8_lift_6 ?_
    refine z_alenZ (pc := 9) hO isZ_32 dX8_lift_9 ?_
    refine z_icmp_ge (pc := 10) hO (tgt := 28) dX8_lift_10 (by decide) (by omega) (by omega) (fun b2 => ?_) (fun b2 => ?_)
    · exact z_vret (pc := 28) hO hr hQ dX8_lift_28 (by first | (first | exact ST_lift hT hp hv.1 h0 hu (by assumption) (by assumption) | (exfalso; omega); done) | (exfalso; omega))
    · refine z_aload_n (pc := 13) hO 0 dX8_lift_13 rfl rfl ?_
      refine gf_X8_isUsed (pc := 14) hO f_X8_15 dX8_lift_14 ?_
      refine z_iload_n (pc := 17) hO 2 dX8_lift_17 rfl rfl ?_
      refine z_iconst (pc := 18) hO dX8_lift_18 ?_
      refine z_zast (pc := 19) hO isZ_32 (by omega) (by omega) dX8_lift_19 (fun m3 e4 => ?_)
      have c2 : ∀ i, i ≠ 32 → m3 i = x i := fun i i2 => by rw [e4, up_i _ _ _ i2]
      refine z_aload_n (pc := 20) hO 0 dX8_lift_20 rfl rfl ?_
      refine z_iload_n (pc := 21) hO 1 dX8_lift_21 rfl rfl ?_
      refine z_iload_n (pc := 22) hO 2 dX8_lift_22 rfl rfl ?_
      refine z_ineg (pc := 23) hO dX8_lift_23 ?_
      refine z_iconst (pc := 24) hO dX8_lift_24 ?_
      refine z_callVV (pc := 25) hO (As := [.int (zi p), .int (zi (-v)), .int (zi 1)]) (st := []) (c_X8_tally (qL Γ) g m3 p (-v) 1 n (by exact SB_of hB (by rw [c2 30 (by omega)]) (by rw [c2 30 (by omega)]) (c2 35 (by omega))) (by first | assumption | omega)) k_X8_140 isO_30 rfl (Nat.le_of_ble_eq_true rfl) (by decide) (by decide) ⟨by decide, by decide⟩ dX8_lift_25 (fun m6 h7 => ?_)
      exact z_vret (pc := 28) hO hr hQ dX8_lift_28 (by first | (first | exact ST_lift hT hp hv.1 h0 hu (by assumption) (by assumption) | (exfalso; omega); done) | (exfalso; omega))

set_option maxHeartbeats 600000 in
theorem c_X8_lowestAt (l : Launch) (g : Gl) (x : Me) (p : Int) (n : Int) (G : Int → Int) (hB : SB x n) (hT : ST x n G) (hG : GR n G) (hp : 0 ≤ p ∧ p < n * n) : ctQ l g yX8_lowestAt cX8_lowestAt 5 (some .int) 2 43 [.ref (gA g 30), .int (zi p)] x (QIu g (fun z x' => ((∀ v, z ≤ v ↔ loP x n p v 4) ∧ -100000 ≤ z ∧ z ≤ 100000) ∧ x' = x)) := by
  refine ct_start (own := RX8) (lv := [(0, .ref (gA g 30)), (1, .int (zi p))]) (plainFor_of_name (by decide)) rfl (Nat.le_of_ble_eq_true rfl) rfl ?_
  intro Γ hΓ hO hr hQ _
  obtain ⟨hn, s7, s8, s35⟩ := id hB
  have h4 := sq4 hn
  have hdu := du_rng hn
  have hlr : ∀ l, 0 ≤ l → l < 2 * n + 2 → (0 ≤ x 33 l ∧ x 33 l ≤ 81000) ∧ (0 ≤ x 34 l ∧ x 34 l ≤ 81) := fun l a b => by
      have q := hT.1 l a b
      rw [q.1, q.2]
      exact ⟨lsm_rng h4.2.2.2 (fun p a b => by have := hG p a b; omega) l, lck_rng h4.2.2.2 l⟩
  refine z_iconst (pc := 0) hO dX8_lowestAt_0 ?_
  refine z_istore_n (pc := 1) hO (lv' := [(2, .int (zi 1)), (0, .ref (gA g 30)), (1, .int (zi p))]) dX8_lowestAt_1 rfl (by decide) rfl ?_
  refine z_iconst (pc := 2) hO dX8_lowestAt_2 ?_
  refine z_istore_n (pc := 3) hO (lv' := [(3, .int (zi 0)), (2, .int (zi 1)), (0, .ref (gA g 30)), (1, .int (zi p))]) dX8_lowestAt_3 rfl (by decide) rfl ?_
  have L4 : ∀ (N : Nat) (w : Int) (s : Int), (4 - w).toNat < N → (0 ≤ w ∧ w ≤ 4) → (-100000 ≤ s ∧ s ≤ 100000) → (∀ v, s ≤ v ↔ loP x n p v w) → Zz Γ g 5 0 0 x 4 [(0, .ref (gA g 30)), (1, .int (zi p)), (2, .int (zi s)), (3, .int (zi w))] [] := by
    intro N
    induction N with
    | zero => intro w s hm; exact absurd hm (Nat.not_lt_zero _)
    | succ N ih4 =>
      intro w s hm h0 hs k
      refine z_iload_n (pc := 4) hO 3 dX8_lowestAt_4 rfl rfl ?_
      refine z_iconst (pc := 5) hO dX8_lowestAt_5 ?_
      refine z_icmp_ge (pc := 6) hO (tgt := 60) dX8_lowestAt_6 (by decide) (by omega) (by omega) (fun b1 => ?_) (fun b1 => ?_)
      · refine z_iload_n (pc := 60) hO 2 dX8_lowestAt_60 rfl rfl ?_
        exact z_iret (pc := 61) hO hr hQ rfl dX8_lowestAt_61 ⟨by first | (refine ⟨?_, hs⟩; rw [show w = 4 by omega] at k; exact k; done) | (exfalso; omega), rfl⟩
      · refine z_aload_n (pc := 9) hO 0 dX8_lowestAt_9 rfl rfl ?_
        refine z_iload_n (pc := 10) hO 1 dX8_lowestAt_10 rfl rfl ?_
        refine z_iload_n (pc := 11) hO 3 dX8_lowestAt_11 rfl rfl ?_
        refine z_callVIp (pc := 12) hO (As := [.int (zi p), .int (zi w)]) (st := []) (c_X8_lineAt (qL Γ) g x p w n (by first | assumption | omega) (by first | assumption | omega) (by first | assumption | omega)) k_X8_129 isO_30 rfl (Nat.le_of_ble_eq_true rfl) (by decide) (by decide) ⟨by decide, by decide⟩ dX8_lowestAt_12 ?_
        refine z_istore (pc := 15) hO (lv' := [(4, .int (zi (lth n p w))), (0, .ref (gA g 30)), (1, .int (zi p)), (2, .int (zi s)), (3, .int (zi w))]) dX8_lowestAt_15 (by decide) rfl ?_
        have hlt := lth_rng hn hp (w := w) (by omega)
        refine z_aload_n (pc := 17) hO 1 dX8_lowestAt_17 rfl rfl ?_
        refine z_iload (pc := 18) hO 0 dX8_lowestAt_18 rfl ?_
        refine z_callVB (pc := 20) hO (As := [.int (zi (lth n p w))]) (st := []) (c_X8_isLine (qL Γ) g x (lth n p w) (by first | assumption | omega)) k_X8_126 isO_30 rfl (Nat.le_of_ble_eq_true rfl) (by decide) (by decide) ⟨by decide, by decide⟩ dX8_lowestAt_20 (fun pb2 => ?_) (fun pb2 => ?_)
        · skip
          refine z_if_eq (pc := 23) hO (tgt := 54) dX8_lowestAt_23 (by decide) (by decide) (fun h => absurd h (by decide)) (fun _ => ?_)
          have hlr1 := hlr (lth n p w) (by omega) (by omega)
          refine z_aload_n (pc := 26) hO 1 dX8_lowestAt_26 rfl rfl ?_
          refine gf_X8_lacks (pc := 27) hO f_X8_22 dX8_lowestAt_27 ?_
          refine z_iload (pc := 30) hO 0 dX8_lowestAt_30 rfl ?_
          refine z_iald (pc := 32) hO isI_34 (by omega) dX8_lowestAt_32 ?_
          refine z_iconst (pc := 33) hO dX8_lowestAt_33 ?_
          refine z_icmp_ne (pc := 34) hO (tgt := 54) dX8_lowestAt_34 (by decide) (by omega) (by omega) (fun b3 => ?_) (fun b3 => ?_)
          · refine z_iinc (pc := 54) hO 4 (lv' := [(3, .int (zi (w + 1))), (4, .int (zi (lth n p w))), (0, .ref (gA g 30)), (1, .int (zi p)), (2, .int (zi s))]) dX8_lowestAt_54 rfl (by decide) rfl ?_
            refine z_goto (pc := 57) hO (tgt := 4) dX8_lowestAt_57 (by decide) ?_
            refine z_sub [2, 3, 4, 0] rfl ?_
            exact ih4 (w + 1) s (by omega) (by omega) (by omega) (by first | exact lo_F (by omega) (Or.inl (by omega)) k | exact lo_F (by omega) (Or.inr (by assumption)) k | exact lo_T (by omega) (by omega) (by assumption) k)
          · refine z_iload_n (pc := 37) hO 3 dX8_lowestAt_37 rfl rfl ?_
            refine z_aload_n (pc := 38) hO 1 dX8_lowestAt_38 rfl rfl ?_
            refine gf_X8_due (pc := 39) hO f_X8_66 dX8_lowestAt_39 ?_
            refine z_aload_n (pc := 42) hO 1 dX8_lowestAt_42 rfl rfl ?_
            refine gf_X8_sums (pc := 43) hO f_X8_19 dX8_lowestAt_43 ?_
            refine z_iload (pc := 46) hO 0 dX8_lowestAt_46 rfl ?_
            refine z_iald (pc := 48) hO isI_33 (by omega) dX8_lowestAt_48 ?_
            refine z_isub (pc := 49) hO dX8_lowestAt_49 ?_
            refine z_callSIp (pc := 50) hO (As := [.int (zi s), .int (zi ((x 30 8) - (x 33 (lth n p w))))]) (st := []) (c_J9_max_7cf53 (qL Γ) g x s ((x 30 8) - (x 33 (lth n p w))) (by first | assumption | omega) (by first | assumption | omega)) k_X8_132 rfl (Nat.le_of_ble_eq_true rfl) (by decide) (by decide) ⟨by decide, by decide⟩ dX8_lowestAt_50 ?_
            refine z_istore_n (pc := 53) hO (lv' := [(2, .int (zi (max s ((x 30 8) - (x 33 (lth n p w)))))), (4, .int (zi (lth n p w))), (0, .ref (gA g 30)), (1, .int (zi p)), (3, .int (zi w))]) dX8_lowestAt_53 rfl (by decide) rfl ?_
            refine z_iinc (pc := 54) hO 4 (lv' := [(3, .int (zi (w + 1))), (2, .int (zi (max s ((x 30 8) - (x 33 (lth n p w)))))), (4, .int (zi (lth n p w))), (0, .ref (gA g 30)), (1, .int (zi p))]) dX8_lowestAt_54 rfl (by decide) rfl ?_
            refine z_goto (pc := 57) hO (tgt := 4) dX8_lowestAt_57 (by decide) ?_
            refine z_sub [3, 4, 1, 0] rfl ?_
            exact ih4 (w + 1) (max s ((x 30 8) - (x 33 (lth n p w)))) (by omega) (by omega) (by omega) (by first | exact lo_F (by omega) (Or.inl (by omega)) k | exact lo_F (by omega) (Or.inr (by assumption)) k | exact lo_T (by omega) (by omega) (by assumption) k)
        · skip
          refine z_if_eq (pc := 23) hO (tgt := 54) dX8_lowestAt_23 (by decide) (by decide) (fun _ => ?_) (fun h => absurd h (by decide))
          refine z_iinc (pc := 54) hO 4 (lv' := [(3, .int (zi (w + 1))), (4, .int (zi (lth n p w))), (0, .ref (gA g 30)), (1, .int (zi p)), (2, .int (zi s))]) dX8_lowestAt_54 rfl (by decide) rfl ?_
          refine z_goto (pc := 57) hO (tgt := 4) dX8_lowestAt_57 (by decide) ?_
          refine z_sub [2, 3, 4, 0] rfl ?_
          exact ih4 (w + 1) s (by omega) (by omega) (by omega) (by first | exact lo_F (by omega) (Or.inl (by omega)) k | exact lo_F (by omega) (Or.inr (by assumption)) k | exact lo_T (by omega) (by omega) (by assumption) k)
  refine z_sub [2, 3, 1, 0] rfl ?_
  exact L4 _ 0 1 (Nat.lt_succ_self _) (by omega) (by omega) (by intro v; unfold loP; exact ⟨fun h => ⟨h, fun l _ b => absurd b onw_0⟩, fun h => h.1⟩)

set_option maxHeartbeats 600000 in
theorem c_X8_highestAt (l : Launch) (g : Gl) (x : Me) (p : Int) (n : Int) (G : Int → Int) (hB : SB x n) (hT : ST x n G) (hG : GR n G) (hp : 0 ≤ p ∧ p < n * n) : ctQ l g yX8_highestAt cX8_highestAt 6 (some .int) 2 43 [.ref (gA g 30), .int (zi p)] x (QIu g (fun z x' => ((∀ v, v ≤ z ↔ hiP x n p v 4) ∧ -100000 ≤ z ∧ z ≤ 16) ∧ x' = x)) := by
  refine ct_start (own := RX8) (lv := [(0, .ref (gA g 30)), (1, .int (zi p))]) (plainFor_of_name (by decide)) rfl (Nat.le_of_ble_eq_true rfl) rfl ?_
  intro Γ hΓ hO hr hQ _
  obtain ⟨hn, s7, s8, s35⟩ := id hB
  have h4 := sq4 hn
  have hdu := du_rng hn
  have hlr : ∀ l, 0 ≤ l → l < 2 * n + 2 → (0 ≤ x 33 l ∧ x 33 l ≤ 81000) ∧ (0 ≤ x 34 l ∧ x 34 l ≤ 81) := fun l a b => by
      have q := hT.1 l a b
      rw [q.1, q.2]
      exact ⟨lsm_rng h4.2.2.2 (fun p a b => by have := hG p a b; omega) l, lck_rng h4.2.2.2 l⟩
  have h77 : x 30 7 * x 30 7 = n * n := by rw [s7]
  refine z_aload_n (pc := 0) hO 0 dX8_highestAt_0 rfl rfl ?_
  refine gf_X8_side (pc := 1) hO f_X8_31 dX8_highestAt_1 ?_
  refine z_aload_n (pc := 4) hO 0 dX8_highestAt_4 rfl rfl ?_
  refine gf_X8_side (pc := 5) hO f_X8_31 dX8_highestAt_5 ?_
  refine z_imul (pc := 8) hO dX8_highestAt_8 ?_
  refine z_istore_n (pc := 9) hO (lv' := [(2, .int (zi ((x 30 7) * (x 30 7)))), (0, .ref (gA g 30)), (1, .int (zi p))]) dX8_highestAt_9 rfl (by decide) rfl ?_
  refine z_iconst (pc := 10) hO dX8_highestAt_10 ?_
  refine z_istore_n (pc := 11) hO (lv' := [(3, .int (zi 0)), (2, .int (zi ((x 30 7) * (x 30 7)))), (0, .ref (gA g 30)), (1, .int (zi p))]) dX8_highestAt_11 rfl (by decide) rfl ?_
  have L12 : ∀ (N : Nat) (w : Int) (s : Int), (4 - w).toNat < N → (0 ≤ w ∧ w ≤ 4) → (-100000 ≤ s ∧ s ≤ 16) → (∀ v, v ≤ s ↔ hiP x n p v w) → Zz Γ g 6 0 0 x 12 [(0, .ref (gA g 30)), (1, .int (zi p)), (2, .int (zi s)), (3, .int (zi w))] [] := by
    intro N
    induction N with
    | zero => intro w s hm; exact absurd hm (Nat.not_lt_zero _)
    | succ N ih12 =>
      intro w s hm h0 hs k
      refine z_iload_n (pc := 12) hO 3 dX8_highestAt_12 rfl rfl ?_
      refine z_iconst (pc := 13) hO dX8_highestAt_13 ?_
      refine z_icmp_ge (pc := 14) hO (tgt := 79) dX8_highestAt_14 (by decide) (by omega) (by omega) (fun b1 => ?_) (fun b1 => ?_)
      · refine z_iload_n (pc := 79) hO 2 dX8_highestAt_79 rfl rfl ?_
        exact z_iret (pc := 80) hO hr hQ rfl dX8_highestAt_80 ⟨by first | (refine ⟨?_, hs⟩; rw [show w = 4 by omega] at k; exact k; done) | (exfalso; omega), rfl⟩
      · refine z_aload_n (pc := 17) hO 0 dX8_highestAt_17 rfl rfl ?_
        refine z_iload_n (pc := 18) hO 1 dX8_highestAt_18 rfl rfl ?_
        refine z_iload_n (pc := 19) hO 3 dX8_highestAt_19 rfl rfl ?_
        refine z_callVIp (pc := 20) hO (As := [.int (zi p), .int (zi w)]) (st := []) (c_X8_lineAt (qL Γ) g x p w n (by first | assumption | omega) (by first | assumption | omega) (by first | assumption | omega)) k_X8_129 isO_30 rfl (Nat.le_of_ble_eq_true rfl) (by decide) (by decide) ⟨by decide, by decide⟩ dX8_highestAt_20 ?_
        refine z_istore (pc := 23) hO (lv' := [(4, .int (zi (lth n p w))), (0, .ref (gA g 30)), (1, .int (zi p)), (2, .int (zi s)), (3, .int (zi w))]) dX8_highestAt_23 (by decide) rfl ?_
        have hlt := lth_rng hn hp (w := w) (by omega)
        refine z_aload_n (pc := 25) hO 1 dX8_highestAt_25 rfl rfl ?_
        refine z_iload (pc := 26) hO 0 dX8_highestAt_26 rfl ?_
        refine z_callVB (pc := 28) hO (As := [.int (zi (lth n p w))]) (st := []) (c_X8_isLine (qL Γ) g x (lth n p w) (by first | assumption | omega)) k_X8_126 isO_30 rfl (Nat.le_of_ble_eq_true rfl) (by decide) (by decide) ⟨by decide, by decide⟩ dX8_highestAt_28 (fun pb2 => ?_) (fun pb2 => ?_)
        · skip
          refine z_if_eq (pc := 31) hO (tgt := 73) dX8_highestAt_31 (by decide) (by decide) (fun h => absurd h (by decide)) (fun _ => ?_)
          have hlr1 := hlr (lth n p w) (by omega) (by omega)
          refine z_aload_n (pc := 34) hO 1 dX8_highestAt_34 rfl rfl ?_
          refine gf_X8_due (pc := 35) hO f_X8_66 dX8_highestAt_35 ?_
          refine z_aload_n (pc := 38) hO 1 dX8_highestAt_38 rfl rfl ?_
          refine gf_X8_sums (pc := 39) hO f_X8_19 dX8_highestAt_39 ?_
          refine z_iload (pc := 42) hO 0 dX8_highestAt_42 rfl ?_
          refine z_iald (pc := 44) hO isI_33 (by omega) dX8_highestAt_44 ?_
          refine z_isub (pc := 45) hO dX8_highestAt_45 ?_
          refine z_istore (pc := 46) hO (lv' := [(5, .int (zi ((x 30 8) - (x 33 (lth n p w))))), (4, .int (zi (lth n p w))), (0, .ref (gA g 30)), (1, .int (zi p)), (2, .int (zi s)), (3, .int (zi w))]) dX8_highestAt_46 (by decide) rfl ?_
          refine z_iload_n (pc := 48) hO 4 dX8_highestAt_48 rfl rfl ?_
          refine z_aload_n (pc := 49) hO 2 dX8_highestAt_49 rfl rfl ?_
          refine gf_X8_lacks (pc := 50) hO f_X8_22 dX8_highestAt_50 ?_
          refine z_iload (pc := 53) hO 1 dX8_highestAt_53 rfl ?_
          refine z_iald (pc := 55) hO isI_34 (by omega) dX8_highestAt_55 ?_
          refine z_iconst (pc := 56) hO dX8_highestAt_56 ?_
          refine z_icmp_ne (pc := 57) hO (tgt := 65) dX8_highestAt_57 (by decide) (by omega) (by omega) (fun b3 => ?_) (fun b3 => ?_)
          · refine z_iload (pc := 65) hO 0 dX8_highestAt_65 rfl ?_
            refine z_iconst (pc := 67) hO dX8_highestAt_67 ?_
            refine z_isub (pc := 68) hO dX8_highestAt_68 ?_
            refine z_callSIp (pc := 69) hO (As := [.int (zi s), .int (zi (((x 30 8) - (x 33 (lth n p w))) - 1))]) (st := []) (c_J9_min_7cf53 (qL Γ) g x s (((x 30 8) - (x 33 (lth n p w))) - 1) (by first | assumption | omega) (by first | assumption | omega)) k_X8_137 rfl (Nat.le_of_ble_eq_true rfl) (by decide) (by decide) ⟨by decide, by decide⟩ dX8_highestAt_69 ?_
            refine z_istore_n (pc := 72) hO (lv' := [(2, .int (zi (min s (((x 30 8) - (x 33 (lth n p w))) - 1)))), (5, .int (zi ((x 30 8) - (x 33 (lth n p w))))), (4, .int (zi (lth n p w))), (0, .ref (gA g 30)), (1, .int (zi p)), (3, .int (zi w))]) dX8_highestAt_72 rfl (by decide) rfl ?_
            refine z_iinc (pc := 73) hO 5 (lv' := [(3, .int (zi (w + 1))), (2, .int (zi (min s (((x 30 8) - (x 33 (lth n p w))) - 1)))), (5, .int (zi ((x 30 8) - (x 33 (lth n p w))))), (4, .int (zi (lth n p w))), (0, .ref (gA g 30)), (1, .int (zi p))]) dX8_highestAt_73 rfl (by decide) rfl ?_
            refine z_goto (pc := 76) hO (tgt := 12) dX8_highestAt_76 (by decide) ?_
            refine z_sub [4, 5, 1, 0] rfl ?_
            exact ih12 (w + 1) (min s (((x 30 8) - (x 33 (lth n p w))) - 1)) (by omega) (by omega) (by omega) (by first | exact hi_F (by omega) (by omega) k | exact hi_T (by omega) (by omega) (Or.inl ⟨by assumption, rfl⟩) k | exact hi_T (by omega) (by omega) (Or.inr ⟨by assumption, rfl⟩) k)
          · refine z_iload (pc := 60) hO 0 dX8_highestAt_60 rfl ?_
            refine z_goto (pc := 62) hO (tgt := 69) dX8_highestAt_62 (by decide) ?_
            refine z_callSIp (pc := 69) hO (As := [.int (zi s), .int (zi ((x 30 8) - (x 33 (lth n p w))))]) (st := []) (c_J9_min_7cf53 (qL Γ) g x s ((x 30 8) - (x 33 (lth n p w))) (by first | assumption | omega) (by first | assumption | omega)) k_X8_137 rfl (Nat.le_of_ble_eq_true rfl) (by decide) (by decide) ⟨by decide, by decide⟩ dX8_highestAt_69 ?_
            refine z_istore_n (pc := 72) hO (lv' := [(2, .int (zi (min s ((x 30 8) - (x 33 (lth n p w)))))), (5, .int (zi ((x 30 8) - (x 33 (lth n p w))))), (4, .int (zi (lth n p w))), (0, .ref (gA g 30)), (1, .int (zi p)), (3, .int (zi w))]) dX8_highestAt_72 rfl (by decide) rfl ?_
            refine z_iinc (pc := 73) hO 5 (lv' := [(3, .int (zi (w + 1))), (2, .int (zi (min s ((x 30 8) - (x 33 (lth n p w)))))), (5, .int (zi ((x 30 8) - (x 33 (lth n p w))))), (4, .int (zi (lth n p w))), (0, .ref (gA g 30)), (1, .int (zi p))]) dX8_highestAt_73 rfl (by decide) rfl ?_
            refine z_goto (pc := 76) hO (tgt := 12) dX8_highestAt_76 (by decide) ?_
            refine z_sub [4, 5, 1, 0] rfl ?_
            exact ih12 (w + 1) (min s ((x 30 8) - (x 33 (lth n p w)))) (by omega) (by omega) (by omega) (by first | exact hi_F (by omega) (by omega) k | exact hi_T (by omega) (by omega) (Or.inl ⟨by assumption, rfl⟩) k | exact hi_T (by omega) (by omega) (Or.inr ⟨by assumption, rfl⟩) k)
        · skip
          refine z_if_eq (pc := 31) hO (tgt := 73) dX8_highestAt_31 (by decide) (by decide) (fun _ => ?_) (fun h => absurd h (by decide))
          refine z_iinc (pc := 73) hO 4 (lv' := [(3, .int (zi (w + 1))), (4, .int (zi (lth n p w))), (0, .ref (gA g 30)), (1, .int (zi p)), (2, .int (zi s))]) dX8_highestAt_73 rfl (by decide) rfl ?_
          refine z_goto (pc := 76) hO (tgt := 12) dX8_highestAt_76 (by decide) ?_
          refine z_sub [2, 3, 4, 0] rfl ?_
          exact ih12 (w + 1) s (by omega) (by omega) (by omega) (by first | exact hi_F (by omega) (by omega) k | exact hi_T (by omega) (by omega) (Or.inl ⟨by assumption, rfl⟩) k | exact hi_T (by omega) (by omega) (Or.inr ⟨by assumption, rfl⟩) k)
  refine z_sub [2, 3, 1, 0] rfl ?_
  exact L12 _ 0 ((x 30 7) * (x 30 7)) (Nat.lt_succ_self _) (by omega) (by omega) (by intro v; rw [h77]; unfold hiP; exact ⟨fun h => ⟨h, fun l _ b => absurd b onw_0⟩, fun h => h.1⟩)

