set_option maxHeartbeats 600000 in
theorem c_X8_isLine (l : Launch) (g : Gl) (x : Me) (i : Int)  (hi : -1000 ≤ i ∧ i ≤ 1000) : ctQ l g yX8_isLine cX8_isLine 2 (some .boolean) 1 20 [.ref (gA g 30), .int (zi i)] x (QIu g (fun z x' => ((z = 1 ∧ (0 ≤ i ∧ i < 10)) ∨ (z = 0 ∧ ¬ (0 ≤ i ∧ i < 10))) ∧ x' = x)) := by
  refine ct_start (own := RX8) (lv := [(0, .ref (gA g 30)), (1, .int (zi i))]) (plainFor_of_name (by decide)) rfl (Nat.le_of_ble_eq_true rfl) rfl ?_
  intro Γ hΓ hO hr hQ _
  refine z_iload_n (pc := 0) hO 1 dX8_isLine_0 rfl rfl ?_
  refine z_if_lt (pc := 1) hO (tgt := 26) dX8_isLine_1 (by decide) (by omega) (fun b1 => ?_) (fun b1 => ?_)
  · refine z_iconst (pc := 26) hO dX8_isLine_26 ?_
    exact z_iret (pc := 27) hO hr hQ rfl dX8_isLine_27 ⟨Or.inr ⟨rfl, by first | assumption | omega⟩, rfl⟩
  · refine z_iload_n (pc := 4) hO 1 dX8_isLine_4 rfl rfl ?_
    refine z_aload_n (pc := 5) hO 0 dX8_isLine_5 rfl rfl ?_
    refine gf_X8_sums (pc := 6) hO f_X8_19 dX8_isLine_6 ?_
    refine z_alenI (pc := 9) hO isI_33 dX8_isLine_9 ?_
    refine z_icmp_ge (pc := 10) hO (tgt := 26) dX8_isLine_10 (by decide) (by omega) (by omega) (fun b2 => ?_) (fun b2 => ?_)
    · refine z_iconst (pc := 26) hO dX8_isLine_26 ?_
      exact z_iret (pc := 27) hO hr hQ rfl dX8_isLine_27 ⟨Or.inr ⟨rfl, by first | assumption | omega⟩, rfl⟩
    · refine z_iload_n (pc := 13) hO 1 dX8_isLine_13 rfl rfl ?_
      refine z_aload_n (pc := 14) hO 0 dX8_isLine_14 rfl rfl ?_
      refine gf_X8_lacks (pc := 15) hO f_X8_22 dX8_isLine_15 ?_
      refine z_alenI (pc := 18) hO isI_34 dX8_isLine_18 ?_
      refine z_icmp_ge (pc := 19) hO (tgt := 26) dX8_isLine_19 (by decide) (by omega) (by omega) (fun b3 => ?_) (fun b3 => ?_)
      · refine z_iconst (pc := 26) hO dX8_isLine_26 ?_
        exact z_iret (pc := 27) hO hr hQ rfl dX8_isLine_27 ⟨Or.inr ⟨rfl, by first | assumption | omega⟩, rfl⟩
      · refine z_iconst (pc := 22) hO dX8_isLine_22 ?_
        refine z_goto (pc := 23) hO (tgt := 27) dX8_isLine_23 (by decide) ?_
        exact z_iret (pc := 27) hO hr hQ rfl dX8_isLine_27 ⟨Or.inl ⟨rfl, by first | assumption | omega⟩, rfl⟩

set_option maxHeartbeats 600000 in
theorem c_X8_lineAt (l : Launch) (g : Gl) (x : Me) (p : Int) (w : Int) (n : Int) (hB : SB x n) (hp : 0 ≤ p ∧ p < 16) (hw : 0 ≤ w ∧ w < 4) : ctQ l g yX8_lineAt cX8_lineAt 4 (some .int) 1 20 [.ref (gA g 30), .int (zi p), .int (zi w)] x (QIu g (fun z x' => z = (lth n p w) ∧ x' = x)) := by
  refine ct_start (own := RX8) (lv := [(0, .ref (gA g 30)), (1, .int (zi p)), (2, .int (zi w))]) (plainFor_of_name (by decide)) rfl (Nat.le_of_ble_eq_true rfl) rfl ?_
  intro Γ hΓ hO hr hQ _
  obtain ⟨hn, s7, s8, s35⟩ := id hB
  have h4 := sq4 hn
  have hdu := du_rng hn
  refine z_iload_n (pc := 0) hO 1 dX8_lineAt_0 rfl rfl ?_
  refine z_iconst (pc := 1) hO dX8_lineAt_1 ?_
  refine z_imul (pc := 2) hO dX8_lineAt_2 ?_
  refine z_iload_n (pc := 3) hO 2 dX8_lineAt_3 rfl rfl ?_
  refine z_iadd (pc := 4) hO dX8_lineAt_4 ?_
  refine z_istore_n (pc := 5) hO (lv' := [(3, .int (zi ((p * 4) + w))), (0, .ref (gA g 30)), (1, .int (zi p)), (2, .int (zi w))]) dX8_lineAt_5 rfl (by decide) rfl ?_
  refine z_iload_n (pc := 6) hO 0 dX8_lineAt_6 rfl rfl ?_
  refine z_if_lt (pc := 7) hO (tgt := 28) dX8_lineAt_7 (by decide) (by omega) (fun b1 => ?_) (fun b1 => ?_)
  · refine z_iconst (pc := 28) hO dX8_lineAt_28 ?_
    exact z_iret (pc := 29) hO hr hQ rfl dX8_lineAt_29 ⟨by first | (rw [s35 _ (by omega) (by omega)]; congr 1; omega; omega; done) | (exfalso; omega), rfl⟩
  · refine z_iload_n (pc := 10) hO 0 dX8_lineAt_10 rfl rfl ?_
    refine z_aload_n (pc := 11) hO 1 dX8_lineAt_11 rfl rfl ?_
    refine gf_X8_linesAtPlaces (pc := 12) hO f_X8_25 dX8_lineAt_12 ?_
    refine z_alenI (pc := 15) hO isI_35 dX8_lineAt_15 ?_
    refine z_icmp_ge (pc := 16) hO (tgt := 28) dX8_lineAt_16 (by decide) (by omega) (by omega) (fun b2 => ?_) (fun b2 => ?_)
    · refine z_iconst (pc := 28) hO dX8_lineAt_28 ?_
      exact z_iret (pc := 29) hO hr hQ rfl dX8_lineAt_29 ⟨by first | (rw [s35 _ (by omega) (by omega)]; congr 1; omega; omega; done) | (exfalso; omega), rfl⟩
    · refine z_aload_n (pc := 19) hO 1 dX8_lineAt_19 rfl rfl ?_
      refine gf_X8_linesAtPlaces (pc := 20) hO f_X8_25 dX8_lineAt_20 ?_
      refine z_iload_n (pc := 23) hO 0 dX8_lineAt_23 rfl rfl ?_
      refine z_iald (pc := 24) hO isI_35 (by omega) dX8_lineAt_24 ?_
      refine z_goto (pc := 25) hO (tgt := 29) dX8_lineAt_25 (by decide) ?_
      exact z_iret (pc := 29) hO hr hQ rfl dX8_lineAt_29 ⟨by first | (rw [s35 _ (by omega) (by omega)]; congr 1; omega; omega; done) | (exfalso; omega), rfl⟩

set_option maxHeartbeats 600000 in
theorem c_X8_isFree (l : Launch) (g : Gl) (x : Me) (v : Int) (n : Int) (hB : SB x n) (hz : ∀ v, 0 ≤ v → v ≤ 16 → x 32 v = 0 ∨ x 32 v = 1) (hv : -1000 ≤ v ∧ v ≤ 1000) : ctQ l g yX8_isFree cX8_isFree 2 (some .boolean) 1 20 [.ref (gA g 30), .int (zi v)] x (QIu g (fun z x' => ((z = 1 ∧ ((1 ≤ v ∧ v ≤ n * n) ∧ x 32 v = 0)) ∨ (z = 0 ∧ ¬ ((1 ≤ v ∧ v ≤ n * n) ∧ x 32 v = 0))) ∧ x' = x)) := by
  refine ct_start (own := RX8) (lv := [(0, .ref (gA g 30)), (1, .int (zi v))]) (plainFor_of_name (by decide)) rfl (Nat.le_of_ble_eq_true rfl) rfl ?_
  intro Γ hΓ hO hr hQ _
  obtain ⟨hn, s7, s8, s35⟩ := id hB
  have h4 := sq4 hn
  have hdu := du_rng hn
  have h77 : x 30 7 * x 30 7 = n * n := by rw [s7]
  refine z_iload_n (pc := 0) hO 1 dX8_isFree_0 rfl rfl ?_
  refine z_iconst (pc := 1) hO dX8_isFree_1 ?_
  refine z_icmp_lt (pc := 2) hO (tgt := 40) dX8_isFree_2 (by decide) (by omega) (by omega) (fun b1 => ?_) (fun b1 => ?_)
  · refine z_iconst (pc := 40) hO dX8_isFree_40 ?_
    exact z_iret (pc := 41) hO hr hQ rfl dX8_isFree_41 ⟨Or.inr ⟨rfl, by first | assumption | omega⟩, rfl⟩
  · refine z_iload_n (pc := 5) hO 1 dX8_isFree_5 rfl rfl ?_
    refine z_aload_n (pc := 6) hO 0 dX8_isFree_6 rfl rfl ?_
    refine gf_X8_side (pc := 7) hO f_X8_31 dX8_isFree_7 ?_
    refine z_aload_n (pc := 10) hO 0 dX8_isFree_10 rfl rfl ?_
    refine gf_X8_side (pc := 11) hO f_X8_31 dX8_isFree_11 ?_
    refine z_imul (pc := 14) hO dX8_isFree_14 ?_
    refine z_icmp_gt (pc := 15) hO (tgt := 40) dX8_isFree_15 (by decide) (by omega) (by omega) (fun b2 => ?_) (fun b2 => ?_)
    · refine z_iconst (pc := 40) hO dX8_isFree_40 ?_
      exact z_iret (pc := 41) hO hr hQ rfl dX8_isFree_41 ⟨Or.inr ⟨rfl, by first | assumption | omega⟩, rfl⟩
    · refine z_iload_n (pc := 18) hO 1 dX8_isFree_18 rfl rfl ?_
      refine z_aload_n (pc := 19) hO 0 dX8_isFree_19 rfl rfl ?_
      refine gf_X8_isUsed (pc := 20) hO f_X8_15 dX8_isFree_20 ?_
      refine z_alenZ (pc := 23) hO isZ_32 dX8_isFree_23 ?_
      refine z_icmp_ge (pc := 24) hO (tgt := 40) dX8_isFree_24 (by decide) (by omega) (by omega) (fun b3 => ?_) (fun b3 => ?_)
      · refine z_iconst (pc := 40) hO dX8_isFree_40 ?_
        exact z_iret (pc := 41) hO hr hQ rfl dX8_isFree_41 ⟨Or.inr ⟨rfl, by first | assumption | omega⟩, rfl⟩
      · have hzv := hz v (by omega) (by omega)
        refine z_aload_n (pc := 27) hO 0 dX8_isFree_27 rfl rfl ?_
        refine gf_X8_isUsed (pc := 28) hO f_X8_15 dX8_isFree_28 ?_
        refine z_iload_n (pc := 31) hO 1 dX8_isFree_31 rfl rfl ?_
        refine z_zald (pc := 32) hO isZ_32 (by omega) dX8_isFree_32 ?_
        refine z_if_ne (pc := 33) hO (tgt := 40) dX8_isFree_33 (by decide) (by omega) (fun b4 => ?_) (fun b4 => ?_)
        · refine z_iconst (pc := 40) hO dX8_isFree_40 ?_
          exact z_iret (pc := 41) hO hr hQ rfl dX8_isFree_41 ⟨Or.inr ⟨rfl, by first | assumption | omega⟩, rfl⟩
        · refine z_iconst (pc := 36) hO dX8_isFree_36 ?_
          refine z_goto (pc := 37) hO (tgt := 41) dX8_isFree_37 (by decide) ?_
          exact z_iret (pc := 41) hO hr hQ rfl dX8_isFree_41 ⟨Or.inl ⟨rfl, by first | assumption | omega⟩, rfl⟩

set_option maxHeartbeats 600000 in
theorem c_X8_tally (l : Launch) (g : Gl) (x : Me) (p : Int) (v : Int) (k : Int) (n : Int) (hB : SB x n) (hp : 0 ≤ p ∧ p < n * n) : ctQ l g yX8_tally cX8_tally 6 none 2 43 [.ref (gA g 30), .int (zi p), .int (zi v), .int (zi k)] x (QVu g (fun x' => (∀ l, 0 ≤ l → l < 2 * n + 2 → x' 33 l = x 33 l + ci (ono n l p) v 0 ∧ x' 34 l = x 34 l + ci (ono n l p) k 0) ∧ ∀ a, a ≠ 33 → a ≠ 34 → x' a = x a)) := by
  refine ct_start (own := RX8) (lv := [(0, .ref (gA g 30)), (1, .int (zi p)), (2, .int (zi v)), (3, .int (zi k))]) (plainFor_of_name (by decide)) rfl (Nat.le_of_ble_eq_true rfl) rfl ?_
  intro Γ hΓ hO hr hQ _
  obtain ⟨hn, s7, s8, s35⟩ := id hB
  have h4 := sq4 hn
  have hdu := du_rng hn
  refine z_iconst (pc := 0) hO dX8_tally_0 ?_
  refine z_istore (pc := 1) hO (lv' := [(4, .int (zi 0)), (0, .ref (gA g 30)), (1, .int (zi p)), (2, .int (zi v)), (3, .int (zi k))]) dX8_tally_1 (by decide) rfl ?_
  have L3 : ∀ (N : Nat) (w : Int) (y : Me), (4 - w).toNat < N → (0 ≤ w ∧ w ≤ 4) → (∀ l, 0 ≤ l → l < 2 * n + 2 → y 33 l = x 33 l + ci (onw n p l w) v 0 ∧ y 34 l = x 34 l + ci (onw n p l w) k 0) → (∀ a, a ≠ 33 → a ≠ 34 → y a = x a) → Zz Γ g 6 0 0 y 3 [(0, .ref (gA g 30)), (1, .int (zi p)), (2, .int (zi v)), (3, .int (zi k)), (4, .int (zi w))] [] := by
    intro N
    induction N with
    | zero => intro w y hm; exact absurd hm (Nat.not_lt_zero _)
    | succ N ih3 =>
      intro w y hm h0 k1 k5
      have hBy : SB y n := SB_of hB (by rw [k5 30 (by omega) (by omega)]) (by rw [k5 30 (by omega) (by omega)]) (k5 35 (by omega) (by omega))
      refine z_iload (pc := 3) hO 4 dX8_tally_3 rfl ?_
      refine z_iconst (pc := 5) hO dX8_tally_5 ?_
      refine z_icmp_ge (pc := 6) hO (tgt := 55) dX8_tally_6 (by decide) (by omega) (by omega) (fun b1 => ?_) (fun b1 => ?_)
      · exact z_vret (pc := 55) hO hr hQ dX8_tally_55 (by first | (refine ⟨fun l a b => ?_, k5⟩; have := k1 l a b; rw [show w = 4 by omega, ci_c (onw_4 hn hp ⟨a, b⟩), ci_c (onw_4 hn hp ⟨a, b⟩)] at this; exact this; done) | (exfalso; omega))
      · refine z_aload_n (pc := 9) hO 0 dX8_tally_9 rfl rfl ?_
        refine z_iload_n (pc := 10) hO 1 dX8_tally_10 rfl rfl ?_
        refine z_iload (pc := 11) hO 4 dX8_tally_11 rfl ?_
        refine z_callVIp (pc := 13) hO (As := [.int (zi p), .int (zi w)]) (st := []) (c_X8_lineAt (qL Γ) g y p w n (by first | assumption | omega) (by first | assumption | omega) (by first | assumption | omega)) k_X8_129 isO_30 rfl (Nat.le_of_ble_eq_true rfl) (by decide) (by decide) ⟨by decide, by decide⟩ dX8_tally_13 ?_
        refine z_istore (pc := 16) hO (lv' := [(5, .int (zi (lth n p w))), (0, .ref (gA g 30)), (1, .int (zi p)), (2, .int (zi v)), (3, .int (zi k)), (4, .int (zi w))]) dX8_tally_16 (by decide) rfl ?_
        have hlt := lth_rng hn hp (w := w) (by omega)
        refine z_aload_n (pc := 18) hO 1 dX8_tally_18 rfl rfl ?_
        refine z_iload (pc := 19) hO 0 dX8_tally_19 rfl ?_
        refine z_callVB (pc := 21) hO (As := [.int (zi (lth n p w))]) (st := []) (c_X8_isLine (qL Γ) g y (lth n p w) (by first | assumption | omega)) k_X8_126 isO_30 rfl (Nat.le_of_ble_eq_true rfl) (by decide) (by decide) ⟨by decide, by decide⟩ dX8_tally_21 (fun pb2 => ?_) (fun pb2 => ?_)
        · skip
          refine z_if_eq (pc := 24) hO (tgt := 49) dX8_tally_24 (by decide) (by decide) (fun h => absurd h (by decide)) (fun _ => ?_)
          refine z_aload_n (pc := 27) hO 1 dX8_tally_27 rfl rfl ?_
          refine gf_X8_sums (pc := 28) hO f_X8_19 dX8_tally_28 ?_
          refine z_iload (pc := 31) hO 0 dX8_tally_31 rfl ?_
          refine z_dup2 (pc := 33) hO dX8_tally_33 rfl rfl ?_
          refine z_iald (pc := 34) hO isI_33 (by omega) dX8_tally_34 ?_
          refine z_iload_n (pc := 35) hO 3 dX8_tally_35 rfl rfl ?_
          refine z_iadd (pc := 36) hO dX8_tally_36 ?_
          refine z_iast (pc := 37) hO isI_33 (by omega) dX8_tally_37 (fun m3 e4 => ?_)
          refine z_aload_n (pc := 38) hO 1 dX8_tally_38 rfl rfl ?_
          refine gf_X8_lacks (pc := 39) hO f_X8_22 dX8_tally_39 ?_
          refine z_iload (pc := 42) hO 0 dX8_tally_42 rfl ?_
          refine z_dup2 (pc := 44) hO dX8_tally_44 rfl rfl ?_
          refine z_iald (pc := 45) hO isI_34 (by omega) dX8_tally_45 ?_
          refine z_iload_n (pc := 46) hO 4 dX8_tally_46 rfl rfl ?_
          refine z_iadd (pc := 47) hO dX8_tally_47 ?_
          refine z_iast (pc := 48) hO isI_34 (by omega) dX8_tally_48 (fun m5 e6 => ?_)
          refine z_iinc (pc := 49) hO 5 (lv' := [(4, .int (zi (w + 1))), (5, .int (zi (lth n p w))), (0, .ref (gA g 30)), (1, .int (zi p)), (2, .int (zi v)), (3, .int (zi k))]) dX8_tally_49 rfl (by decide) rfl ?_
          refine z_goto (pc := 52) hO (tgt := 3) dX8_tally_52 (by decide) ?_
          refine z_sub [2, 3, 4, 5, 0] rfl ?_
          exact ih3 (w + 1) m5 (by omega) (by omega) (by first | exact tal_F hn hp (by omega) (by omega) k1 | exact tal_T hn hp (by omega) (by omega) k1 (by assumption) (by assumption)) (by first | exact k5 | (intro a a1 a2; subst m5 m3; rw [up_i _ _ _ a2, up_i _ _ _ a1]; exact k5 a a1 a2))
        · skip
          refine z_if_eq (pc := 24) hO (tgt := 49) dX8_tally_24 (by decide) (by decide) (fun _ => ?_) (fun h => absurd h (by decide))
          refine z_iinc (pc := 49) hO 5 (lv' := [(4, .int (zi (w + 1))), (5, .int (zi (lth n p w))), (0, .ref (gA g 30)), (1, .int (zi p)), (2, .int (zi v)), (3, .int (zi k))]) dX8_tally_49 rfl (by decide) rfl ?_
          refine z_goto (pc := 52) hO (tgt := 3) dX8_tally_52 (by decide) ?_
          refine z_sub [2, 3, 4, 5, 0] rfl ?_
          exact ih3 (w + 1) y (by omega) (by omega) (by first | exact tal_F hn hp (by omega) (by omega) k1 | exact tal_T hn hp (by omega) (by omega) k1 (by assumption) (by assumption)) (by first | exact k5 | (intro a a1 a2; skip; rw [up_i _ _ _ a2, up_i _ _ _ a1]; exact k5 a a1 a2))
  refine z_sub [1, 2, 3, 4, 0] rfl ?_
  exact L3 _ 0 x (Nat.lt_succ_self _) (by omega) (by intro l _ _; rw [ci_f onw_0, ci_f onw_0]; omega) (by intro a _ _; rfl)

