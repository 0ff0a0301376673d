

set_option maxHeartbeats 600000 in
theorem c_X11_make (l : Launch) (g : Gl) (x : Me) (mk : Int) (s : Int)  (hS : HS x) (r_mk : -2147483648 ≤ mk ∧ mk < 2147483648) (r_s : -2147483648 ≤ s ∧ s < 2147483648) (hok : ((0 ≤ mk ∧ mk ≤ 3) ∧ 1 ≤ s ∧ s ≤ 9) ∧ (hld mk s ∧ x 0 5 < 8)) : ctQ l g yX11_make cX11_make 4 (some .int) 6 139 [.ref (gA g 0), .int (zi mk), .int (zi s)] x (QIu g (fun z x' => z = x 0 5 ∧ nc x' (x 0 5).toNat = mkf mk s ∧ x' 0 5 = x 0 5 + 1 ∧ x' (10 + (x 0 5).toNat) 1 = s ∧ ∀ a, a ≠ 0 → a ≠ 10 + (x 0 5).toNat → a ≠ 20 + (x 0 5).toNat → a ≠ 10 + 8 → a ≠ 20 + 8 → x' a = x a)) := by
  refine ct_start (own := RX11) (lv := [(0, .ref (gA g 0)), (1, .int (zi mk)), (2, .int (zi s))]) (plainFor_of_name (by decide)) rfl (Nat.le_of_ble_eq_true rfl) rfl ?_
  intro Γ hΓ hO hr hQ _
  have hS1 := hS.1
  refine z_iload_n (pc := 0) hO 1 dX11_make_0 rfl rfl ?_
  refine z_iconst (pc := 1) hO dX11_make_1 ?_
  refine z_iconst (pc := 2) hO dX11_make_2 ?_
  refine z_callSVq (pc := 3) hO (As := [.int (zi mk), .int (zi 0), .int (zi 3)]) (st := []) (c_X11_requireRange (qL Γ) g x mk 0 3 (by first | assumption | omega) (by first | assumption | omega) (by first | assumption | omega) (by first | assumption | omega)) k_X11_45 rfl (Nat.le_of_ble_eq_true rfl) (by decide) (by decide) ⟨by decide, by decide⟩ dX11_make_3 (fun h3 => ?_)
  refine z_iload_n (pc := 6) hO 2 dX11_make_6 rfl rfl ?_
  refine z_iconst (pc := 7) hO dX11_make_7 ?_
  refine z_bipush (pc := 8) hO dX11_make_8 (by decide) ?_
  refine z_callSVq (pc := 10) hO (As := [.int (zi s), .int (zi 1), .int (zi 9)]) (st := []) (c_X11_requireRange (qL Γ) g x s 1 9 (by first | assumption | omega) (by first | assumption | omega) (by first | assumption | omega) (by first | assumption | omega)) k_X11_45 rfl (Nat.le_of_ble_eq_true rfl) (by decide) (by decide) ⟨by decide, by decide⟩ dX11_make_10 (fun h6 => ?_)
  refine z_iload_n (pc := 13) hO 1 dX11_make_13 rfl rfl ?_
  refine z_iload_n (pc := 14) hO 2 dX11_make_14 rfl rfl ?_
  refine z_callSB (pc := 15) hO (As := [.int (zi mk), .int (zi s)]) (st := []) (c_X5_holdsFor (qL Γ) g x mk s (by first | assumption | omega) (by first | assumption | omega)) k_X11_74 rfl (Nat.le_of_ble_eq_true rfl) (by decide) (by decide) ⟨by decide, by decide⟩ dX11_make_15 (fun pb7 => ?_) (fun pb7 => ?_)
  · skip
    refine z_callSVq (pc := 18) hO (As := [.int (zi 1)]) (st := []) (c_X11_requireState (qL Γ) g x 1 (by first | assumption | omega) (by first | assumption | omega)) k_X11_80 rfl (Nat.le_of_ble_eq_true rfl) (by decide) (by decide) ⟨by decide, by decide⟩ dX11_make_18 (fun h10 => ?_)
    refine z_aload_n (pc := 21) hO 0 dX11_make_21 rfl rfl ?_
    refine z_callVVq (pc := 22) hO (As := []) (st := []) (c_X11_requireRoom (qL Γ) g x (by first | assumption | omega) (by first | assumption | omega)) k_X11_49 isO_0 rfl (Nat.le_of_ble_eq_true rfl) (by decide) (by decide) ⟨by decide, by decide⟩ dX11_make_22 (fun h13 => ?_)
    refine z_aload_n (pc := 25) hO 0 dX11_make_25 rfl rfl ?_
    refine z_iload_n (pc := 26) hO 2 dX11_make_26 rfl rfl ?_
    refine z_callVIm (pc := 27) hO (As := [.int (zi s)]) (st := []) (c_X11_addFigure (qL Γ) g x s (by first | assumption | omega) (by omega) (by exact hok.1.2)) k_X11_52 isO_0 rfl (Nat.le_of_ble_eq_true rfl) (by decide) (by decide) ⟨by decide, by decide⟩ dX11_make_27 (fun m14 e15 => ?_)
    have had := e15
    obtain ⟨k, hk⟩ : ∃ k : Nat, x 0 5 = k := ⟨(x 0 5).toNat, by omega⟩
    obtain ⟨a1, a2, a3, a4, a5⟩ := adF_all hS hk (by omega) (show 1 ≤ _ ∧ _ ≤ 9 by exact hok.1.2)
    rw [← had] at a1 a2 a3 a4 a5
    refine z_istore_n (pc := 30) hO (lv' := [(3, .int (zi (x 0 5))), (0, .ref (gA g 0)), (1, .int (zi mk)), (2, .int (zi s))]) dX11_make_30 rfl (by decide) rfl ?_
    refine z_iload_n (pc := 31) hO 2 dX11_make_31 rfl rfl ?_
    refine z_aload_n (pc := 32) hO 1 dX11_make_32 rfl rfl ?_
    refine z_iload_n (pc := 33) hO 0 dX11_make_33 rfl rfl ?_
    refine z_callVRq (pc := 34) hO (As := [.int (zi (x 0 5))]) (st := [.int (zi mk)]) (c_X11_figureOf (qL Γ) g m14 (x 0 5) (by exact a5) (by omega) (by omega)) k_X11_56 isO_0 rfl (Nat.le_of_ble_eq_true rfl) (by decide) (by decide) ⟨by decide, by decide⟩ dX11_make_34 (fun z16 h18 => ?_)
    obtain ⟨t, hzt, het, hFt⟩ := h18
    subst hzt
    have htt : (x 0 5).toNat = t := by omega
    (try rw [htt] at hok)
    (try rw [htt] at hno)
    have h9t := hFt.1
    have hst := hFt.2.1
    have hqqt := sq9 hst
    obtain rfl : t = k := by omega
    refine z_aload_n (pc := 37) hO 1 dX11_make_37 rfl rfl ?_
    refine gf_X11_spare (pc := 38) hO f_X11_16 dX11_make_38 ?_
    refine z_callSV (pc := 41) hO (As := [.int (zi mk), .ref (gA g (10 + t)), .ref (gA g (10 + 8))]) (st := []) (c_X5_lay (qL Γ) g m14 mk t 8 (by first | assumption | omega) (by omega) (by omega) (by omega) (by rw [a2]; omega) (by intro e; rw [a2]; have := hok.2.1; unfold hld at this; omega) (by exact a3)) k_X11_84 rfl (Nat.le_of_ble_eq_true rfl) (by decide) (by decide) ⟨by decide, by decide⟩ dX11_make_41 (fun m20 h21 => ?_)
    have hz := h21
    refine z_iload_n (pc := 44) hO 0 dX11_make_44 rfl rfl ?_
    exact z_iret (pc := 45) hO hr hQ rfl dX11_make_45 (by first | (rw [htt]; exact ⟨rfl, by rw [hz.1, a2], by rw [hz.2 0 (by omega) (by omega) (by omega)]; exact a1, by rw [hz.2 (10 + t) (by omega) (by omega) (by omega)]; exact a2, fun a b1 b2 b3 b4 b5 => by rw [hz.2 a b3 b4 b5]; exact a4 a b1 b2 b3⟩; done) | (exfalso; omega))
  · skip
    exact absurd hok.2.1 pb7


