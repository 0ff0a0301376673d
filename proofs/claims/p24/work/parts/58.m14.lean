set_option maxHeartbeats 600000 in
theorem c_X11_requireRange (l : Launch) (g : Gl) (x : Me) (v : Int) (lo : Int) (hi : Int)  (r_v : -2147483648 ≤ v ∧ v < 2147483648) (r_lo : -2147483648 ≤ lo ∧ lo < 2147483648) (r_hi : -2147483648 ≤ hi ∧ hi < 2147483648) (hok : lo ≤ v ∧ v ≤ hi) : ctQ l g yX11_requireRange cX11_requireRange 3 none 1 20 [.int (zi v), .int (zi lo), .int (zi hi)] x (QVu g (fun x' => (True) ∧ x' = x)) := by
  refine ct_start (own := RX11) (lv := [(0, .int (zi v)), (1, .int (zi lo)), (2, .int (zi hi))]) (plainFor_of_name (by decide)) rfl (Nat.le_of_ble_eq_true rfl) rfl ?_
  intro Γ hΓ hO hr hQ _
  refine z_iload_n (pc := 0) hO 0 dX11_requireRange_0 rfl rfl ?_
  refine z_iload_n (pc := 1) hO 1 dX11_requireRange_1 rfl rfl ?_
  refine z_icmp_lt (pc := 2) hO (tgt := 10) dX11_requireRange_2 (by decide) (by omega) (by omega) (fun b1 => ?_) (fun b1 => ?_)
  · exfalso; omega
  · refine z_iload_n (pc := 5) hO 0 dX11_requireRange_5 rfl rfl ?_
    refine z_iload_n (pc := 6) hO 2 dX11_requireRange_6 rfl rfl ?_
    refine z_icmp_le (pc := 7) hO (tgt := 20) dX11_requireRange_7 (by decide) (by omega) (by omega) (fun b2 => ?_) (fun b2 => ?_)
    · exact z_vret (pc := 20) hO hr hQ dX11_requireRange_20 ⟨by first | trivial | assumption | omega, rfl⟩
    · exfalso; omega


set_option maxHeartbeats 600000 in
theorem c_X11_requirePoint (l : Launch) (g : Gl) (x : Me) (q : Nat) (r : Int) (c : Int)  (hF : FG x q) (r_r : -2147483648 ≤ r ∧ r < 2147483648) (r_c : -2147483648 ≤ c ∧ c < 2147483648) (hok : (0 ≤ r ∧ r < x (10 + q) 1) ∧ 0 ≤ c ∧ c < x (10 + q) 1) : ctQ l g yX11_requirePoint cX11_requirePoint 3 none 2 40 [.ref (gA g (10 + q)), .int (zi r), .int (zi c)] x (QVu g (fun x' => (True) ∧ x' = x)) := by
  refine ct_start (own := RX11) (lv := [(0, .ref (gA g (10 + q))), (1, .int (zi r)), (2, .int (zi c))]) (plainFor_of_name (by decide)) rfl (Nat.le_of_ble_eq_true rfl) rfl ?_
  intro Γ hΓ hO hr hQ _
  obtain ⟨hq, hs, _⟩ := id hF
  refine z_iload_n (pc := 0) hO 1 dX11_requirePoint_0 rfl rfl ?_
  refine z_if_lt (pc := 1) hO (tgt := 24) dX11_requirePoint_1 (by decide) (by omega) (fun b1 => ?_) (fun b1 => ?_)
  · exfalso; omega
  · refine z_iload_n (pc := 4) hO 1 dX11_requirePoint_4 rfl rfl ?_
    refine z_aload_n (pc := 5) hO 0 dX11_requirePoint_5 rfl rfl ?_
    refine z_callVIp (pc := 6) hO (As := []) (st := [.int (zi r)]) (c_X1_side (qL Γ) g x q (by first | assumption | omega)) k_X11_94 (isO_fig (by omega : q < 9)) rfl (Nat.le_of_ble_eq_true rfl) (by decide) (by decide) ⟨by decide, by decide⟩ dX11_requirePoint_6 ?_
    refine z_icmp_ge (pc := 9) hO (tgt := 24) dX11_requirePoint_9 (by decide) (by omega) (by omega) (fun b2 => ?_) (fun b2 => ?_)
    · exfalso; omega
    · refine z_iload_n (pc := 12) hO 2 dX11_requirePoint_12 rfl rfl ?_
      refine z_if_lt (pc := 13) hO (tgt := 24) dX11_requirePoint_13 (by decide) (by omega) (fun b3 => ?_) (fun b3 => ?_)
      · exfalso; omega
      · refine z_iload_n (pc := 16) hO 2 dX11_requirePoint_16 rfl rfl ?_
        refine z_aload_n (pc := 17) hO 0 dX11_requirePoint_17 rfl rfl ?_
        refine z_callVIp (pc := 18) hO (As := []) (st := [.int (zi c)]) (c_X1_side (qL Γ) g x q (by first | assumption | omega)) k_X11_94 (isO_fig (by omega : q < 9)) rfl (Nat.le_of_ble_eq_true rfl) (by decide) (by decide) ⟨by decide, by decide⟩ dX11_requirePoint_18 ?_
        refine z_icmp_lt (pc := 21) hO (tgt := 34) dX11_requirePoint_21 (by decide) (by omega) (by omega) (fun b4 => ?_) (fun b4 => ?_)
        · exact z_vret (pc := 34) hO hr hQ dX11_requirePoint_34 ⟨by first | trivial | assumption | omega, rfl⟩
        · exfalso; omega


set_option maxHeartbeats 600000 in
theorem c_X11_requireState (l : Launch) (g : Gl) (x : Me) (b : Int)  (hb : b = 0 ∨ b = 1) (hok : b = 1) : ctQ l g yX11_requireState cX11_requireState 1 none 1 20 [.int (zi b)] x (QVu g (fun x' => (True) ∧ x' = x)) := by
  refine ct_start (own := RX11) (lv := [(0, .int (zi b))]) (plainFor_of_name (by decide)) rfl (Nat.le_of_ble_eq_true rfl) rfl ?_
  intro Γ hΓ hO hr hQ _
  refine z_iload_n (pc := 0) hO 0 dX11_requireState_0 rfl rfl ?_
  refine z_if_ne (pc := 1) hO (tgt := 14) dX11_requireState_1 (by decide) (by omega) (fun b1 => ?_) (fun b1 => ?_)
  · exact z_vret (pc := 14) hO hr hQ dX11_requireState_14 ⟨by first | trivial | assumption | omega, rfl⟩
  · exfalso; omega


set_option maxHeartbeats 600000 in
theorem c_X11_requireRoom (l : Launch) (g : Gl) (x : Me)   (hS : HS x) (hok : x 0 5 < 8) : ctQ l g yX11_requireRoom cX11_requireRoom 1 none 1 20 [.ref (gA g 0)] x (QVu g (fun x' => (True) ∧ x' = x)) := by
  refine ct_start (own := RX11) (lv := [(0, .ref (gA g 0))]) (plainFor_of_name (by decide)) rfl (Nat.le_of_ble_eq_true rfl) rfl ?_
  intro Γ hΓ hO hr hQ _
  have hS1 := hS.1
  refine z_aload_n (pc := 0) hO 0 dX11_requireRoom_0 rfl rfl ?_
  refine gf_X11_figureCount (pc := 1) hO f_X11_41 dX11_requireRoom_1 ?_
  refine z_if_lt (pc := 4) hO (tgt := 31) dX11_requireRoom_4 (by decide) (by omega) (fun b1 => ?_) (fun b1 => ?_)
  · exfalso; omega
  · refine z_aload_n (pc := 7) hO 0 dX11_requireRoom_7 rfl rfl ?_
    refine gf_X11_figureCount (pc := 8) hO f_X11_41 dX11_requireRoom_8 ?_
    refine z_aload_n (pc := 11) hO 0 dX11_requireRoom_11 rfl rfl ?_
    refine gf_X11_figures (pc := 12) hO f_X11_11 dX11_requireRoom_12 ?_
    refine z_alenF (pc := 15) hO dX11_requireRoom_15 ?_
    refine z_icmp_ge (pc := 16) hO (tgt := 31) dX11_requireRoom_16 (by decide) (by omega) (by omega) (fun b2 => ?_) (fun b2 => ?_)
    · exfalso; omega
    · refine z_aload_n (pc := 19) hO 0 dX11_requireRoom_19 rfl rfl ?_
      refine gf_X11_figures (pc := 20) hO f_X11_11 dX11_requireRoom_20 ?_
      refine z_aload_n (pc := 23) hO 0 dX11_requireRoom_23 rfl rfl ?_
      refine gf_X11_figureCount (pc := 24) hO f_X11_41 dX11_requireRoom_24 ?_
      refine z_figsI (pc := 27) hO (by omega) dX11_requireRoom_27 ?_
      refine z_ifnonnull (pc := 28) hO (tgt := 41) dX11_requireRoom_28 (by decide) ?_
      exact z_vret (pc := 41) hO hr hQ dX11_requireRoom_41 ⟨by first | trivial | assumption | omega, rfl⟩


set_option maxHeartbeats 600000 in
theorem c_X11_figureOf (l : Launch) (g : Gl) (x : Me) (sq : Int)  (hS : HS x) (r_sq : -2147483648 ≤ sq ∧ sq < 2147483648) (hok : 0 ≤ sq ∧ sq < x 0 5) : ctQ l g yX11_figureOf cX11_figureOf 2 (some (.object "LoshuHall$Figure")) 1 20 [.ref (gA g 0), .int (zi sq)] x (QRu g (fun z x' => (∃ q : Nat, z = 10 + q ∧ (q : Int) = sq ∧ FG x q) ∧ x' = x)) := by
  refine ct_start (own := RX11) (lv := [(0, .ref (gA g 0)), (1, .int (zi sq))]) (plainFor_of_name (by decide)) rfl (Nat.le_of_ble_eq_true rfl) rfl ?_
  intro Γ hΓ hO hr hQ _
  have hS1 := hS.1
  refine z_iload_n (pc := 0) hO 1 dX11_figureOf_0 rfl rfl ?_
  refine z_if_lt (pc := 1) hO (tgt := 30) dX11_figureOf_1 (by decide) (by omega) (fun b1 => ?_) (fun b1 => ?_)
  · exfalso; omega
  · refine z_iload_n (pc := 4) hO 1 dX11_figureOf_4 rfl rfl ?_
    refine z_aload_n (pc := 5) hO 0 dX11_figureOf_5 rfl rfl ?_
    refine gf_X11_figureCount (pc := 6) hO f_X11_41 dX11_figureOf_6 ?_
    refine z_icmp_ge (pc := 9) hO (tgt := 30) dX11_figureOf_9 (by decide) (by omega) (by omega) (fun b2 => ?_) (fun b2 => ?_)
    · exfalso; omega
    · refine z_iload_n (pc := 12) hO 1 dX11_figureOf_12 rfl rfl ?_
      refine z_aload_n (pc := 13) hO 0 dX11_figureOf_13 rfl rfl ?_
      refine gf_X11_figures (pc := 14) hO f_X11_11 dX11_figureOf_14 ?_
      refine z_alenF (pc := 17) hO dX11_figureOf_17 ?_
      refine z_icmp_ge (pc := 18) hO (tgt := 30) dX11_figureOf_18 (by decide) (by omega) (by omega) (fun b3 => ?_) (fun b3 => ?_)
      · exfalso; omega
      · refine z_aload_n (pc := 21) hO 0 dX11_figureOf_21 rfl rfl ?_
        refine gf_X11_figures (pc := 22) hO f_X11_11 dX11_figureOf_22 ?_
        refine z_iload_n (pc := 25) hO 1 dX11_figureOf_25 rfl rfl ?_
        refine z_figsI (pc := 26) hO (by omega) dX11_figureOf_26 ?_
        refine z_ifnonnull (pc := 27) hO (tgt := 40) dX11_figureOf_27 (by decide) ?_
        refine z_aload_n (pc := 40) hO 0 dX11_figureOf_40 rfl rfl ?_
        refine gf_X11_figures (pc := 41) hO f_X11_11 dX11_figureOf_41 ?_
        refine z_iload_n (pc := 44) hO 1 dX11_figureOf_44 rfl rfl ?_
        refine z_figsI (pc := 45) hO (by omega) dX11_figureOf_45 ?_
        exact z_aret (pc := 46) hO hr hQ dX11_figureOf_46 ⟨by first | (exact ⟨sq.toNat, rfl, by omega, hS.2 sq.toNat (by omega)⟩; done) | (exfalso; omega), rfl⟩


