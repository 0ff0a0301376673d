set_option maxHeartbeats 600000 in
theorem c_X11_addFigure (l : Launch) (g : Gl) (x : Me) (s : Int)  (hS : HS x) (h8 : x 0 5 < 8) (hs : 1 ≤ s ∧ s ≤ 9) : ctQ l g yX11_addFigure cX11_addFigure 3 (some .int) 2 42 [.ref (gA g 0), .int (zi s)] x (QIu g (fun z x' => z = (x 0 5) ∧ x' = adF x s)) := by
  refine ct_start (own := RX11) (lv := [(0, .ref (gA g 0)), (1, .int (zi s))]) (plainFor_of_name (by decide)) rfl (Nat.le_of_ble_eq_true rfl) rfl ?_
  intro Γ hΓ hO hr hQ _
  have hS1 := hS.1
  obtain ⟨k, hk⟩ : ∃ k : Nat, x 0 5 = k := ⟨(x 0 5).toNat, by omega⟩
  have hk2 : (x 0 5).toNat = k := by omega
  refine z_aload_n (pc := 0) hO 0 dX11_addFigure_0 rfl rfl ?_
  refine gf_X11_figureCount (pc := 1) hO f_X11_41 dX11_addFigure_1 ?_
  refine z_istore_n (pc := 4) hO (lv' := [(2, .int (zi (x 0 5))), (0, .ref (gA g 0)), (1, .int (zi s))]) dX11_addFigure_4 rfl (by decide) rfl ?_
  refine z_iload_n (pc := 5) hO 0 dX11_addFigure_5 rfl rfl ?_
  refine z_if_lt (pc := 6) hO (tgt := 47) dX11_addFigure_6 (by decide) (by omega) (fun b1 => ?_) (fun b1 => ?_)
  · refine z_iload_n (pc := 47) hO 0 dX11_addFigure_47 rfl rfl ?_
    exact z_iret (pc := 48) hO hr hQ rfl dX11_addFigure_48 (by first | (refine ⟨rfl, ?_⟩; unfold adF; skip; congr 1; unfold clr; rw [if_neg (by omega), up_i _ _ _ (by omega)]; done) | (exfalso; omega))
  · refine z_iload_n (pc := 9) hO 0 dX11_addFigure_9 rfl rfl ?_
    refine z_aload_n (pc := 10) hO 1 dX11_addFigure_10 rfl rfl ?_
    refine gf_X11_figures (pc := 11) hO f_X11_11 dX11_addFigure_11 ?_
    refine z_alenF (pc := 14) hO dX11_addFigure_14 ?_
    refine z_icmp_ge (pc := 15) hO (tgt := 47) dX11_addFigure_15 (by decide) (by omega) (by omega) (fun b2 => ?_) (fun b2 => ?_)
    · refine z_iload_n (pc := 47) hO 0 dX11_addFigure_47 rfl rfl ?_
      exact z_iret (pc := 48) hO hr hQ rfl dX11_addFigure_48 (by first | (refine ⟨rfl, ?_⟩; unfold adF; skip; congr 1; unfold clr; rw [if_neg (by omega), up_i _ _ _ (by omega)]; done) | (exfalso; omega))
    · refine z_aload_n (pc := 18) hO 1 dX11_addFigure_18 rfl rfl ?_
      refine gf_X11_figures (pc := 19) hO f_X11_11 dX11_addFigure_19 ?_
      refine z_iload_n (pc := 22) hO 0 dX11_addFigure_22 rfl rfl ?_
      refine z_figsI (pc := 23) hO (by omega) dX11_addFigure_23 ?_
      refine z_ifnull (pc := 24) hO dX11_addFigure_24 ?_
      refine z_aload_n (pc := 27) hO 1 dX11_addFigure_27 rfl rfl ?_
      refine gf_X11_figures (pc := 28) hO f_X11_11 dX11_addFigure_28 ?_
      refine z_iload_n (pc := 31) hO 0 dX11_addFigure_31 rfl rfl ?_
      refine z_figsI (pc := 32) hO (by omega) dX11_addFigure_32 ?_
      refine z_iload_n (pc := 33) hO 2 dX11_addFigure_33 rfl rfl ?_
      refine z_callVV (pc := 34) hO (As := [.int (zi s)]) (st := []) (c_X1_begin (qL Γ) g x (x 0 5).toNat s (by omega)) k_X11_228 (isO_fig (by omega : (x 0 5).toNat < 9)) rfl (Nat.le_of_ble_eq_true rfl) (by decide) (by decide) ⟨by decide, by decide⟩ dX11_addFigure_34 (fun m4 h5 => ?_)
      have hbg := h5
      refine z_aload_n (pc := 37) hO 1 dX11_addFigure_37 rfl rfl ?_
      refine z_dup (pc := 38) hO dX11_addFigure_38 rfl ?_
      refine gf_X11_figureCount (pc := 39) hO f_X11_41 dX11_addFigure_39 ?_
      refine z_iconst (pc := 42) hO dX11_addFigure_42 ?_
      refine z_iadd (pc := 43) hO dX11_addFigure_43 ?_
      refine pf_X11_figureCount (pc := 44) hO f_X11_41 dX11_addFigure_44 (fun m6 e7 => ?_)
      refine z_iload_n (pc := 47) hO 0 dX11_addFigure_47 rfl rfl ?_
      exact z_iret (pc := 48) hO hr hQ rfl dX11_addFigure_48 (by first | (refine ⟨rfl, ?_⟩; unfold adF; subst m6 m4; congr 1; unfold clr; rw [if_neg (by omega), up_i _ _ _ (by omega)]; done) | (exfalso; omega))

set_option maxHeartbeats 600000 in
theorem c_X11_canBeCompleted (l : Launch) (g : Gl) (x : Me) (q : Nat)  (hF : FG x q) : ctQ l g yX11_canBeCompleted cX11_canBeCompleted 1 (some .boolean) 3 64 [.ref (gA g (10 + q))] x (QIu g (fun z x' => ((z = 1 ∧ (x (10 + q) 1 ≤ 4 ∧ cnt (x (10 + q) 1) (nc x q) 0 ≤ 9)) ∨ (z = 0 ∧ ¬ (x (10 + q) 1 ≤ 4 ∧ cnt (x (10 + q) 1) (nc x q) 0 ≤ 9))) ∧ x' = x)) := by
  refine ct_start (own := RX11) (lv := [(0, .ref (gA g (10 + q)))]) (plainFor_of_name (by decide)) rfl (Nat.le_of_ble_eq_true rfl) rfl ?_
  intro Γ hΓ hO hr hQ _
  obtain ⟨hq, hs, hf⟩ := id hF
  have hsq := sq9 hs
  refine z_aload_n (pc := 0) hO 0 dX11_canBeCompleted_0 rfl rfl ?_
  refine z_callVIp (pc := 1) hO (As := []) (st := []) (c_X1_side (qL Γ) g x q (by first | assumption | omega)) k_X11_94 (isO_fig (by omega : q < 9)) rfl (Nat.le_of_ble_eq_true rfl) (by decide) (by decide) ⟨by decide, by decide⟩ dX11_canBeCompleted_1 ?_
  refine z_iconst (pc := 4) hO dX11_canBeCompleted_4 ?_
  refine z_icmp_gt (pc := 5) hO (tgt := 22) dX11_canBeCompleted_5 (by decide) (by have := cnt_rng (f := nc x q) hs 0; omega) (by have := cnt_rng (f := nc x q) hs 0; omega) (fun b1 => ?_) (fun b1 => ?_)
  · refine z_iconst (pc := 22) hO dX11_canBeCompleted_22 ?_
    exact z_iret (pc := 23) hO hr hQ rfl dX11_canBeCompleted_23 ⟨Or.inr ⟨rfl, by first | assumption | omega⟩, rfl⟩
  · refine z_aload_n (pc := 8) hO 0 dX11_canBeCompleted_8 rfl rfl ?_
    refine z_iconst (pc := 9) hO dX11_canBeCompleted_9 ?_
    refine z_callVIp (pc := 10) hO (As := [.int (zi 0)]) (st := []) (c_X1_countOf (qL Γ) g x q 0 (by first | assumption | omega) (by first | assumption | omega) (by first | assumption | omega) (by first | assumption | omega)) k_X11_223 (isO_fig (by omega : q < 9)) rfl (Nat.le_of_ble_eq_true rfl) (by decide) (by decide) ⟨by decide, by decide⟩ dX11_canBeCompleted_10 ?_
    refine z_bipush (pc := 13) hO dX11_canBeCompleted_13 (by decide) ?_
    refine z_icmp_gt (pc := 15) hO (tgt := 22) dX11_canBeCompleted_15 (by decide) (by have := cnt_rng (f := nc x q) hs 0; omega) (by have := cnt_rng (f := nc x q) hs 0; omega) (fun b2 => ?_) (fun b2 => ?_)
    · refine z_iconst (pc := 22) hO dX11_canBeCompleted_22 ?_
      exact z_iret (pc := 23) hO hr hQ rfl dX11_canBeCompleted_23 ⟨Or.inr ⟨rfl, by first | assumption | omega⟩, rfl⟩
    · refine z_iconst (pc := 18) hO dX11_canBeCompleted_18 ?_
      refine z_goto (pc := 19) hO (tgt := 23) dX11_canBeCompleted_19 (by decide) ?_
      exact z_iret (pc := 23) hO hr hQ rfl dX11_canBeCompleted_23 ⟨Or.inl ⟨rfl, by first | assumption | omega⟩, rfl⟩


set_option maxHeartbeats 600000 in
theorem c_X11_at (l : Launch) (g : Gl) (x : Me) (sq : Int) (r : Int) (c : Int)  (hS : HS x) (r_sq : -2147483648 ≤ sq ∧ sq < 2147483648) (r_r : -2147483648 ≤ r ∧ r < 2147483648) (r_c : -2147483648 ≤ c ∧ c < 2147483648) (hok : (0 ≤ sq ∧ sq < x 0 5 ∧ (0 ≤ r ∧ r < x (10 + sq.toNat) 1) ∧ 0 ≤ c ∧ c < x (10 + sq.toNat) 1)) : ctQ l g yX11_at cX11_at 5 (some .int) 3 64 [.ref (gA g 0), .int (zi sq), .int (zi r), .int (zi c)] x (QIu g (fun z x' => z = (nc x sq.toNat (x (10 + sq.toNat) 1 * r + c)) ∧ x' = x)) := by
  refine ct_start (own := RX11) (lv := [(0, .ref (gA g 0)), (1, .int (zi sq)), (2, .int (zi r)), (3, .int (zi c))]) (plainFor_of_name (by decide)) rfl (Nat.le_of_ble_eq_true rfl) rfl ?_
  intro Γ hΓ hO hr hQ _
  have hS1 := hS.1
  refine z_aload_n (pc := 0) hO 0 dX11_at_0 rfl rfl ?_
  refine z_iload_n (pc := 1) hO 1 dX11_at_1 rfl rfl ?_
  refine z_callVRq (pc := 2) hO (As := [.int (zi sq)]) (st := []) (c_X11_figureOf (qL Γ) g x sq (by first | assumption | omega) (by first | assumption | omega) (by first | assumption | omega)) k_X11_56 isO_0 rfl (Nat.le_of_ble_eq_true rfl) (by decide) (by decide) ⟨by decide, by decide⟩ dX11_at_2 (fun z1 h3 => ?_)
  obtain ⟨q, hzq, heq, hFq⟩ := h3
  subst hzq
  have htq : sq.toNat = q := by omega
  (try rw [htq] at hok)
  (try rw [htq] at hno)
  have h9q := hFq.1
  have hsq := hFq.2.1
  have hqqq := sq9 hsq
  refine z_astore (pc := 5) hO (lv' := [(4, .ref (gA g (10 + q))), (0, .ref (gA g 0)), (1, .int (zi sq)), (2, .int (zi r)), (3, .int (zi c))]) dX11_at_5 (by decide) rfl ?_
  refine z_aload (pc := 7) hO 0 dX11_at_7 rfl ?_
  refine z_iload_n (pc := 9) hO 3 dX11_at_9 rfl rfl ?_
  refine z_iload_n (pc := 10) hO 4 dX11_at_10 rfl rfl ?_
  refine z_callSVq (pc := 11) hO (As := [.ref (gA g (10 + q)), .int (zi r), .int (zi c)]) (st := []) (c_X11_requirePoint (qL Γ) g x q r c (by exact hFq) (by first | assumption | omega) (by first | assumption | omega) (by first | assumption | omega)) k_X11_60 rfl (Nat.le_of_ble_eq_true rfl) (by decide) (by decide) ⟨by decide, by decide⟩ dX11_at_11 (fun h6 => ?_)
  have hpl := pl9 (r := r) (c := c) hsq (by omega) (by omega)
  refine z_aload (pc := 14) hO 0 dX11_at_14 rfl ?_
  refine z_aload (pc := 16) hO 0 dX11_at_16 rfl ?_
  refine z_iload_n (pc := 18) hO 3 dX11_at_18 rfl rfl ?_
  refine z_iload_n (pc := 19) hO 4 dX11_at_19 rfl rfl ?_
  refine z_callVIp (pc := 20) hO (As := [.int (zi r), .int (zi c)]) (st := [.ref (gA g (10 + q))]) (c_X1_placeOf (qL Γ) g x q r c (by first | assumption | omega)) k_X11_64 (isO_fig (by omega : q < 9)) rfl (Nat.le_of_ble_eq_true rfl) (by decide) (by decide) ⟨by decide, by decide⟩ dX11_at_20 ?_
  refine z_callVIp (pc := 23) hO (As := [.int (zi (x (10 + q) 1 * r + c))]) (st := []) (c_X1_read (qL Γ) g x q (x (10 + q) 1 * r + c) (by first | assumption | omega) (by first | assumption | omega)) k_X11_71 (isO_fig (by omega : q < 9)) rfl (Nat.le_of_ble_eq_true rfl) (by decide) (by decide) ⟨by decide, by decide⟩ dX11_at_23 ?_
  exact z_iret (pc := 26) hO hr hQ rfl dX11_at_26 ⟨by first | (rw [htq]; done) | (exfalso; omega), rfl⟩


set_option maxHeartbeats 600000 in
theorem c_X11_put (l : Launch) (g : Gl) (x : Me) (sq : Int) (r : Int) (c : Int) (v : Int)  (hS : HS x) (r_sq : -2147483648 ≤ sq ∧ sq < 2147483648) (r_r : -2147483648 ≤ r ∧ r < 2147483648) (r_c : -2147483648 ≤ c ∧ c < 2147483648) (r_v : -2147483648 ≤ v ∧ v < 2147483648) (hok : (0 ≤ sq ∧ sq < x 0 5 ∧ (0 ≤ r ∧ r < x (10 + sq.toNat) 1) ∧ 0 ≤ c ∧ c < x (10 + sq.toNat) 1) ∧ (0 ≤ v ∧ v ≤ 999)) : ctQ l g yX11_put cX11_put 6 (some .int) 3 64 [.ref (gA g 0), .int (zi sq), .int (zi r), .int (zi c), .int (zi v)] x (QIu g (fun z x' => z = (nc x sq.toNat (x (10 + sq.toNat) 1 * r + c)) ∧ x' = up x (20 + sq.toNat) (x (10 + sq.toNat) 1 * r + c) v)) := by
  refine ct_start (own := RX11) (lv := [(0, .ref (gA g 0)), (1, .int (zi sq)), (2, .int (zi r)), (3, .int (zi c)), (4, .int (zi v))]) (plainFor_of_name (by decide)) rfl (Nat.le_of_ble_eq_true rfl) rfl ?_
  intro Γ hΓ hO hr hQ _
  have hS1 := hS.1
  refine z_aload_n (pc := 0) hO 0 dX11_put_0 rfl rfl ?_
  refine z_iload_n (pc := 1) hO 1 dX11_put_1 rfl rfl ?_
  refine z_callVRq (pc := 2) hO (As := [.int (zi sq)]) (st := []) (c_X11_figureOf (qL Γ) g x sq (by first | assumption | omega) (by first | assumption | omega) (by first | assumption | omega)) k_X11_56 isO_0 rfl (Nat.le_of_ble_eq_true rfl) (by decide) (by decide) ⟨by decide, by decide⟩ dX11_put_2 (fun z1 h3 => ?_)
  obtain ⟨q, hzq, heq, hFq⟩ := h3
  subst hzq
  have htq : sq.toNat = q := by omega
  (try rw [htq] at hok)
  (try rw [htq] at hno)
  have h9q := hFq.1
  have hsq := hFq.2.1
  have hqqq := sq9 hsq
  refine z_astore (pc := 5) hO (lv' := [(5, .ref (gA g (10 + q))), (0, .ref (gA g 0)), (1, .int (zi sq)), (2, .int (zi r)), (3, .int (zi c)), (4, .int (zi v))]) dX11_put_5 (by decide) rfl ?_
  refine z_aload (pc := 7) hO 0 dX11_put_7 rfl ?_
  refine z_iload_n (pc := 9) hO 3 dX11_put_9 rfl rfl ?_
  refine z_iload_n (pc := 10) hO 4 dX11_put_10 rfl rfl ?_
  refine z_callSVq (pc := 11) hO (As := [.ref (gA g (10 + q)), .int (zi r), .int (zi c)]) (st := []) (c_X11_requirePoint (qL Γ) g x q r c (by exact hFq) (by first | assumption | omega) (by first | assumption | omega) (by first | assumption | omega)) k_X11_60 rfl (Nat.le_of_ble_eq_true rfl) (by decide) (by decide) ⟨by decide, by decide⟩ dX11_put_11 (fun h6 => ?_)
  have hpl := pl9 (r := r) (c := c) hsq (by omega) (by omega)
  refine z_iload (pc := 14) hO 5 dX11_put_14 rfl ?_
  refine z_iconst (pc := 16) hO dX11_put_16 ?_
  refine z_sipush (pc := 17) hO dX11_put_17 (by decide) ?_
  refine z_callSVq (pc := 20) hO (As := [.int (zi v), .int (zi 0), .int (zi 999)]) (st := []) (c_X11_requireRange (qL Γ) g x v 0 999 (by first | assumption | omega) (by first | assumption | omega) (by first | assumption | omega) (by first | assumption | omega)) k_X11_45 rfl (Nat.le_of_ble_eq_true rfl) (by decide) (by decide) ⟨by decide, by decide⟩ dX11_put_20 (fun h9 => ?_)
  refine z_aload (pc := 23) hO 0 dX11_put_23 rfl ?_
  refine z_aload (pc := 25) hO 0 dX11_put_25 rfl ?_
  refine z_iload_n (pc := 27) hO 3 dX11_put_27 rfl rfl ?_
  refine z_iload_n (pc := 28) hO 4 dX11_put_28 rfl rfl ?_
  refine z_callVIp (pc := 29) hO (As := [.int (zi r), .int (zi c)]) (st := [.ref (gA g (10 + q))]) (c_X1_placeOf (qL Γ) g x q r c (by first | assumption | omega)) k_X11_64 (isO_fig (by omega : q < 9)) rfl (Nat.le_of_ble_eq_true rfl) (by decide) (by decide) ⟨by decide, by decide⟩ dX11_put_29 ?_
  refine z_iload (pc := 32) hO 5 dX11_put_32 rfl ?_
  refine z_callVIm (pc := 34) hO (As := [.int (zi (x (10 + q) 1 * r + c)), .int (zi v)]) (st := []) (c_X1_write (qL Γ) g x q (x (10 + q) 1 * r + c) v (by first | assumption | omega) (by omega)) k_X11_68 (isO_fig (by omega : q < 9)) rfl (Nat.le_of_ble_eq_true rfl) (by decide) (by decide) ⟨by decide, by decide⟩ dX11_put_34 (fun m10 e11 => ?_)
  exact z_iret (pc := 37) hO hr hQ rfl dX11_put_37 (by first | (rw [htq, nc_in (by omega)]; exact ⟨rfl, by assumption⟩; done) | (exfalso; omega))




