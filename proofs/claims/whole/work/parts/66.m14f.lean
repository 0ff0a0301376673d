set_option maxHeartbeats 4000000 in
theorem c_X11_dimension (l : Launch) (g : Gl) (x : Me) (n : Int) (s : Int)  (r_n : -2147483648 ≤ n ∧ n < 2147483648) (r_s : -2147483648 ≤ s ∧ s < 2147483648) (hok : ((1 ≤ n ∧ n ≤ 6) ∧ (zi s &&& zi (-63)).toInt = 0)) : ctQ l g yX11_dimension cX11_dimension 3 (some .int) 7 163 [.ref (gA g 0), .int (zi n), .int (zi s)] x (QIu g (fun z x' => z = dimS n s ∧ ∀ a, a ≠ 42 → a ≠ 44 → a ≠ 45 → ¬ (100 ≤ a ∧ a < 138) → x' a = x a)) := by
  refine ct_start (own := RX11) (lv := [(0, .ref (gA g 0)), (1, .int (zi n)), (2, .int (zi s))]) (plainFor_of_name (by decide)) rfl (Nat.le_of_ble_eq_true rfl) rfl ?_
  intro Γ hΓ hO hr hQ _
  refine z_iload_n (pc := 0) hO 1 dX11_dimension_0 rfl rfl ?_
  refine z_iconst (pc := 1) hO dX11_dimension_1 ?_
  refine z_bipush (pc := 2) hO dX11_dimension_2 (by decide) ?_
  refine z_callSVq (pc := 4) hO (As := [.int (zi n), .int (zi 1), .int (zi 6)]) (st := []) (c_X11_requireRange (qL Γ) g x n 1 6 (by first | assumption | omega) (by first | assumption | omega) (by first | assumption | omega) (by first | assumption | omega)) k_X11_45 rfl (Nat.le_of_ble_eq_true rfl) (by decide) (by decide) ⟨by decide, by decide⟩ dX11_dimension_4 (fun h3 => ?_)
  refine z_iload_n (pc := 7) hO 2 dX11_dimension_7 rfl rfl ?_
  refine z_bipush (pc := 8) hO dX11_dimension_8 (by decide) ?_
  refine z_iand (pc := 10) hO (zi ((zi s &&& zi (-63)).toInt)) dX11_dimension_10 (by exact (zi_all _).symm) ?_
  refine z_if_eq (pc := 11) hO (tgt := 24) dX11_dimension_11 (by decide) (by exact zi_rng _) (fun b4 => ?_) (fun b4 => ?_)
  · refine z_aload_n (pc := 24) hO 0 dX11_dimension_24 rfl rfl ?_
    refine gf_X11_space (pc := 25) hO f_X11_37 dX11_dimension_25 ?_
    refine z_iload_n (pc := 28) hO 1 dX11_dimension_28 rfl rfl ?_
    refine z_iload_n (pc := 29) hO 2 dX11_dimension_29 rfl rfl ?_
    refine z_callVI (pc := 30) hO (As := [.int (zi n), .int (zi s)]) (st := []) (c_X10_dimensionOf (qL Γ) g x n s (by first | assumption | omega) (by exact tol_r r_s hok.2)) k_X11_206 isO_42 rfl (Nat.le_of_ble_eq_true rfl) (by decide) (by decide) ⟨by decide, by decide⟩ dX11_dimension_30 (fun z5 m6 h7 => ?_)
    exact z_iret (pc := 33) hO hr hQ rfl dX11_dimension_33 (by assumption)
  · exfalso; omega

set_option maxHeartbeats 4000000 in
theorem x_X11_dimension (l : Launch) (hl : l.stackTraces = false) (g : Gl) (x : Me) (n : Int) (s : Int)  (r_n : -2147483648 ≤ n ∧ n < 2147483648) (r_s : -2147483648 ≤ s ∧ s < 2147483648) (hno : ¬ (((1 ≤ n ∧ n ≤ 6) ∧ (zi s &&& zi (-63)).toInt = 0))) : cxQ l g yX11_dimension cX11_dimension 3 (some .int) 7 163 1 6 [.ref (gA g 0), .int (zi n), .int (zi s)] x (QIu g (fun z x' => False)) (fun E => E = exc (True) ((1 ≤ n ∧ n ≤ 6) ∧ (zi s &&& zi (-63)).toInt = 0)) := by
  refine cx_start (own := RX11) (lv := [(0, .ref (gA g 0)), (1, .int (zi n)), (2, .int (zi s))]) (by decide) rfl (Nat.le_of_ble_eq_true rfl) rfl ?_
  intro Γ hΓ hO hr hQ hh
  have hl : (qL Γ).stackTraces = false := by rw [hΓ]; exact hl
  refine z_iload_n (pc := 0) hO 1 dX11_dimension_0 rfl rfl ?_
  refine z_iconst (pc := 1) hO dX11_dimension_1 ?_
  refine z_bipush (pc := 2) hO dX11_dimension_2 (by decide) ?_
  rcases Classical.em (1 ≤ n ∧ n ≤ 6) with hc1 | hc1
  · skip
    refine z_callSVq (pc := 4) hO (As := [.int (zi n), .int (zi 1), .int (zi 6)]) (st := []) (c_X11_requireRange (qL Γ) g x n 1 6 (by first | assumption | omega) (by first | assumption | omega) (by first | assumption | omega) (by first | assumption | omega)) k_X11_45 rfl (Nat.le_of_ble_eq_true rfl) (by decide) (by decide) ⟨by decide, by decide⟩ dX11_dimension_4 (fun h4 => ?_)
    refine z_iload_n (pc := 7) hO 2 dX11_dimension_7 rfl rfl ?_
    refine z_bipush (pc := 8) hO dX11_dimension_8 (by decide) ?_
    refine z_iand (pc := 10) hO (zi ((zi s &&& zi (-63)).toInt)) dX11_dimension_10 (by exact (zi_all _).symm) ?_
    refine z_if_eq (pc := 11) hO (tgt := 24) dX11_dimension_11 (by decide) (by exact zi_rng _) (fun b5 => ?_) (fun b5 => ?_)
    · exfalso; omega
    · exact z_throw (pc := 14) (text := "a law that is not told here") hO hl hQ hh (by decide +kernel) l_X11_149 wi_IllegalArgumentException (by decide) wsX_I dX11_dimension_14 dX11_dimension_17 dX11_dimension_18 dX11_dimension_20 dX11_dimension_23 (by decide) (by decide) ⟨by decide, by decide⟩ (by exact exc_ia trivial (by omega))
  · exact z_xcallSV (pc := 4) hO (As := [.int (zi n), .int (zi 1), .int (zi 6)]) (st := []) hQ hh (by intro E hE; rw [hE]; exact exc_ia (by first | trivial | omega) (by omega)) (x_X11_requireRange (qL Γ) hl g x n 1 6 (by first | assumption | omega) (by first | assumption | omega) (by first | assumption | omega) (by first | assumption | omega)) k_X11_45 rfl (Nat.le_of_ble_eq_true rfl) (by decide) (by decide) ⟨by decide, by decide⟩ dX11_dimension_4 (fun _ h => h.elim)

set_option maxHeartbeats 4000000 in
theorem c_X11_hasEarlierKin (l : Launch) (g : Gl) (x : Me) (sq : Int)  (hS : HS x) (hq : 0 ≤ sq ∧ sq < x 0 5) : ctQ l g yX11_hasEarlierKin cX11_hasEarlierKin 3 (some .boolean) 6 135 [.ref (gA g 0), .int (zi sq)] x (QIu g (fun z x' => ((z = 1 ∧ (∃ e : Nat, (e : Int) < sq ∧ KN x e sq.toNat)) ∨ (z = 0 ∧ ¬ (∃ e : Nat, (e : Int) < sq ∧ KN x e sq.toNat))) ∧ x' = x)) := by
  refine ct_start (own := RX11) (lv := [(0, .ref (gA g 0)), (1, .int (zi sq))]) (plainFor_of_name (by decide)) rfl (Nat.le_of_ble_eq_true rfl) rfl ?_
  intro Γ hΓ hO hr hQ _
  have hS1 := hS.1
  refine z_iconst (pc := 0) hO dX11_hasEarlierKin_0 ?_
  refine z_istore_n (pc := 1) hO (lv' := [(2, .int (zi 0)), (0, .ref (gA g 0)), (1, .int (zi sq))]) dX11_hasEarlierKin_1 rfl (by decide) rfl ?_
  have L2 : ∀ (N : Nat) (i : Int), (sq - i).toNat < N → (0 ≤ i ∧ i ≤ sq) → (∀ e : Nat, (e : Int) < i → ¬ KN x e sq.toNat) → Zz Γ g 3 0 0 x 2 [(0, .ref (gA g 0)), (1, .int (zi sq)), (2, .int (zi i))] [] := by
    intro N
    induction N with
    | zero => intro i hm; exact absurd hm (Nat.not_lt_zero _)
    | succ N ih2 =>
      intro i hm h0 hA
      refine z_iload_n (pc := 2) hO 2 dX11_hasEarlierKin_2 rfl rfl ?_
      refine z_iload_n (pc := 3) hO 1 dX11_hasEarlierKin_3 rfl rfl ?_
      refine z_icmp_ge (pc := 4) hO (tgt := 31) dX11_hasEarlierKin_4 (by decide) (by omega) (by omega) (fun b1 => ?_) (fun b1 => ?_)
      · refine z_iconst (pc := 31) hO dX11_hasEarlierKin_31 ?_
        exact z_iret (pc := 32) hO hr hQ rfl dX11_hasEarlierKin_32 ⟨Or.inr ⟨rfl, by first | (rintro ⟨e, he, hk⟩; exact hA e (by omega) hk; done) | (exfalso; omega)⟩, rfl⟩
      · refine z_aload_n (pc := 7) hO 0 dX11_hasEarlierKin_7 rfl rfl ?_
        refine z_iload_n (pc := 8) hO 2 dX11_hasEarlierKin_8 rfl rfl ?_
        refine z_callVRq (pc := 9) hO (As := [.int (zi i)]) (st := []) (c_X11_figureOf (qL Γ) g x i (by first | assumption | omega) (by omega) (by omega)) k_X11_56 isO_0 rfl (Nat.le_of_ble_eq_true rfl) (by decide) (by decide) ⟨by decide, by decide⟩ dX11_hasEarlierKin_9 (fun z2 h4 => ?_)
        obtain ⟨q, hzq, heq, hFq⟩ := h4
        subst hzq
        have htq : i.toNat = q := by omega
        (try rw [htq] at hok)
        (try rw [htq] at hno)
        have h9q := hFq.1
        have hsq := hFq.2.1
        have hqqq := sq9 hsq
        refine z_aload_n (pc := 12) hO 0 dX11_hasEarlierKin_12 rfl rfl ?_
        refine z_iload_n (pc := 13) hO 1 dX11_hasEarlierKin_13 rfl rfl ?_
        refine z_callVRq (pc := 14) hO (As := [.int (zi sq)]) (st := [.ref (gA g (10 + q))]) (c_X11_figureOf (qL Γ) g x sq (by first | assumption | omega) (by first | assumption | omega) (by first | assumption | omega)) k_X11_56 isO_0 rfl (Nat.le_of_ble_eq_true rfl) (by decide) (by decide) ⟨by decide, by decide⟩ dX11_hasEarlierKin_14 (fun z5 h7 => ?_)
        obtain ⟨r, hzr, her, hFr⟩ := h7
        subst hzr
        have htr : sq.toNat = r := by omega
        (try rw [htr] at hok)
        (try rw [htr] at hno)
        have h9r := hFr.1
        have hsr := hFr.2.1
        have hqqr := sq9 hsr
        refine z_callSB (pc := 17) hO (As := [.ref (gA g (10 + q)), .ref (gA g (10 + r))]) (st := []) (c_X2_areKin (qL Γ) g x q r (by first | assumption | omega) (by first | assumption | omega)) k_X11_118 rfl (Nat.le_of_ble_eq_true rfl) (by decide) (by decide) ⟨by decide, by decide⟩ dX11_hasEarlierKin_17 (fun pb8 => ?_) (fun pb8 => ?_)
        · skip
          have hpb := pb8
          refine z_if_eq (pc := 20) hO (tgt := 25) dX11_hasEarlierKin_20 (by decide) (by decide) (fun h => absurd h (by decide)) (fun _ => ?_)
          refine z_iconst (pc := 23) hO dX11_hasEarlierKin_23 ?_
          exact z_iret (pc := 24) hO hr hQ rfl dX11_hasEarlierKin_24 ⟨Or.inl ⟨rfl, by first | (exact ⟨q, by omega, by rw [htr]; exact hpb⟩; done) | (exfalso; omega)⟩, rfl⟩
        · skip
          have hnk := pb8
          refine z_if_eq (pc := 20) hO (tgt := 25) dX11_hasEarlierKin_20 (by decide) (by decide) (fun _ => ?_) (fun h => absurd h (by decide))
          refine z_iinc (pc := 25) hO 2 (lv' := [(2, .int (zi (i + 1))), (0, .ref (gA g 0)), (1, .int (zi sq))]) dX11_hasEarlierKin_25 rfl (by decide) rfl ?_
          refine z_goto (pc := 28) hO (tgt := 2) dX11_hasEarlierKin_28 (by decide) ?_
          refine z_sub [1, 2, 0] rfl ?_
          exact ih2 (i + 1) (by omega) (by omega) (by intro e he; exact dite (e = q) (fun a => by rw [a, htr]; exact hnk) (fun a => hA e (by omega)))
  refine z_sub [1, 2, 0] rfl ?_
  exact L2 _ 0 (Nat.lt_succ_self _) (by omega) (by intro e _; omega)

set_option maxHeartbeats 4000000 in
theorem c_X11_classes (l : Launch) (g : Gl) (x : Me)   (hS : HS x) : ctQ l g yX11_classes cX11_classes 3 (some .int) 7 157 [.ref (gA g 0)] x (QIu g (fun z x' => z = (sm (fun j => bi (¬ ∃ e : Nat, (e : Int) < j ∧ KN x e j.toNat)) (x 0 5).toNat) ∧ x' = x)) := by
  refine ct_start (own := RX11) (lv := [(0, .ref (gA g 0))]) (plainFor_of_name (by decide)) rfl (Nat.le_of_ble_eq_true rfl) rfl ?_
  intro Γ hΓ hO hr hQ _
  have hS1 := hS.1
  refine z_iconst (pc := 0) hO dX11_classes_0 ?_
  refine z_istore_n (pc := 1) hO (lv' := [(1, .int (zi 0)), (0, .ref (gA g 0))]) dX11_classes_1 rfl (by decide) rfl ?_
  refine z_iconst (pc := 2) hO dX11_classes_2 ?_
  refine z_istore_n (pc := 3) hO (lv' := [(2, .int (zi 0)), (1, .int (zi 0)), (0, .ref (gA g 0))]) dX11_classes_3 rfl (by decide) rfl ?_
  have L4 : ∀ (N : Nat) (c : Int) (i : Int), (x 0 5 - i).toNat < N → (0 ≤ i ∧ i ≤ x 0 5) → (c = sm (fun j => bi (¬ ∃ e : Nat, (e : Int) < j ∧ KN x e j.toNat)) i.toNat) → Zz Γ g 3 0 0 x 4 [(0, .ref (gA g 0)), (1, .int (zi c)), (2, .int (zi i))] [] := by
    intro N
    induction N with
    | zero => intro c i hm; exact absurd hm (Nat.not_lt_zero _)
    | succ N ih4 =>
      intro c i hm h0 hA
      refine z_iload_n (pc := 4) hO 2 dX11_classes_4 rfl rfl ?_
      refine z_aload_n (pc := 5) hO 0 dX11_classes_5 rfl rfl ?_
      refine gf_X11_figureCount (pc := 6) hO f_X11_41 dX11_classes_6 ?_
      refine z_icmp_ge (pc := 9) hO (tgt := 29) dX11_classes_9 (by decide) (by omega) (by omega) (fun b1 => ?_) (fun b1 => ?_)
      · refine z_iload_n (pc := 29) hO 1 dX11_classes_29 rfl rfl ?_
        exact z_iret (pc := 30) hO hr hQ rfl dX11_classes_30 ⟨by first | (rw [hA, show i.toNat = (x 0 5).toNat by omega]; done) | (exfalso; omega), rfl⟩
      · refine z_aload_n (pc := 12) hO 0 dX11_classes_12 rfl rfl ?_
        refine z_iload_n (pc := 13) hO 2 dX11_classes_13 rfl rfl ?_
        refine z_callVB (pc := 14) hO (As := [.int (zi i)]) (st := []) (c_X11_hasEarlierKin (qL Γ) g x i (by first | assumption | omega) (by first | assumption | omega)) k_X11_134 isO_0 rfl (Nat.le_of_ble_eq_true rfl) (by decide) (by decide) ⟨by decide, by decide⟩ dX11_classes_14 (fun pb2 => ?_) (fun pb2 => ?_)
        · skip
          have hpb := pb2
          refine z_if_ne (pc := 17) hO (tgt := 23) dX11_classes_17 (by decide) (by decide) (fun _ => ?_) (fun h => absurd h (by decide))
          refine z_iinc (pc := 23) hO 2 (lv' := [(2, .int (zi (i + 1))), (0, .ref (gA g 0)), (1, .int (zi c))]) dX11_classes_23 rfl (by decide) rfl ?_
          refine z_goto (pc := 26) hO (tgt := 4) dX11_classes_26 (by decide) ?_
          refine z_sub [1, 2, 0] rfl ?_
          exact ih4 c (i + 1) (by omega) (by omega) (by rw [sm_s _ h0.1, ← hA]; first | (rw [bi_t hpb]; done) | (rw [bi_f (fun a => a hpb)]; omega))
        · skip
          have hpb := pb2
          refine z_if_ne (pc := 17) hO (tgt := 23) dX11_classes_17 (by decide) (by decide) (fun h => absurd h (by decide)) (fun _ => ?_)
          refine z_iinc (pc := 20) hO 1 (lv' := [(1, .int (zi (c + 1))), (0, .ref (gA g 0)), (2, .int (zi i))]) dX11_classes_20 rfl (by decide) rfl ?_
          refine z_iinc (pc := 23) hO 2 (lv' := [(2, .int (zi (i + 1))), (1, .int (zi (c + 1))), (0, .ref (gA g 0))]) dX11_classes_23 rfl (by decide) rfl ?_
          refine z_goto (pc := 26) hO (tgt := 4) dX11_classes_26 (by decide) ?_
          refine z_sub [2, 1, 0] rfl ?_
          exact ih4 (c + 1) (i + 1) (by omega) (by omega) (by rw [sm_s _ h0.1, ← hA]; first | (rw [bi_t hpb]; done) | (rw [bi_f (fun a => a hpb)]; omega))
  refine z_sub [2, 1, 0] rfl ?_
  exact L4 _ 0 0 (Nat.lt_succ_self _) (by omega) (by rfl)

