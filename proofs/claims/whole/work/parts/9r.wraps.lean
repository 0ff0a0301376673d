theorem w_L_square {l : Launch} {g : Gl} {x : Me} {a1 : Int} (P : Int → Me → Prop) (hM : ctQ l g yX11_square cX11_square 2 (some .int) 3 64 (.ref (gA g 0) :: [.int (zi a1)]) x (QIu g P)) : ctL l g yL_square cL_square 4 [(0, 9, 12, 13), (0, 9, 15, 15)] 4 85 0 0 [.ref (gA g 0), .int (zi a1), .ref (gA g 70)] x (QIu g (fun z x' => z = 0 ∧ ∃ r y, P r y ∧ x' = up y 70 0 (zi r).toInt)) := by
  refine cl_start (own := RL) (lv := [(0, .ref (gA g 0)), (1, .int (zi a1)), (2, .ref (gA g 70))]) (by decide) rfl (Nat.le_of_ble_eq_true rfl) rfl ?_
  intro Γ hΓ hO hr hQ ht hN
  subst hΓ
  refine z_aload_n (pc := 0) hO 2 dL_square_0 rfl rfl ?_
  refine z_iconst (pc := 1) hO dL_square_1 ?_
  refine z_aload_n (pc := 2) hO 0 dL_square_2 rfl rfl ?_
  refine z_iload_n (pc := 3) hO 1 dL_square_3 rfl rfl ?_
  refine z_callVI (pc := 4) hO (As := [.int (zi a1)]) (st := [.int (zi 0), .ref (gA g 70)]) hM k_L_7 isO_0 rfl (Nat.le_of_ble_eq_true rfl) (by decide) (by decide) ⟨by decide, by decide⟩ dL_square_4 (fun r y hp => ?_)
  refine z_i2lq (pc := 7) hO dL_square_7 ?_
  refine z_last (pc := 8) hO isL_70 (by decide) dL_square_8 (fun y2 hy2 => ?_)
  refine z_goto (pc := 9) (tgt := 18) hO dL_square_9 (by decide) ?_
  refine z_iconst (pc := 18) hO dL_square_18 ?_
  exact z_iret (pc := 19) hO hr hQ rfl dL_square_19 ⟨rfl, r, y, hp, hy2⟩
theorem v_L_square_1 {l : Launch} {g : Gl} {x : Me} {a1 : Int} {pY : String → Prop} (hpY : ∀ E, pY E → E = eIA) (hM : cxQ l g yX11_square cX11_square 2 (some .int) 7 122 1 6 (.ref (gA g 0) :: [.int (zi a1)]) x (QIu g (fun _ _ => False)) pY) : ctL l g yL_square cL_square 4 [(0, 9, 12, 13), (0, 9, 15, 15)] 8 143 1 6 [.ref (gA g 0), .int (zi a1), .ref (gA g 70)] x (QIu g (fun z x' => z = 1 ∧ x' = x)) := by
  refine cl_start (own := RL) (lv := [(0, .ref (gA g 0)), (1, .int (zi a1)), (2, .ref (gA g 70))]) (by decide) rfl (Nat.le_of_ble_eq_true rfl) rfl ?_
  intro Γ hΓ hO hr hQ ht hN
  subst hΓ
  refine z_aload_n (pc := 0) hO 2 dL_square_0 rfl rfl ?_
  refine z_iconst (pc := 1) hO dL_square_1 ?_
  refine z_aload_n (pc := 2) hO 0 dL_square_2 rfl rfl ?_
  refine z_iload_n (pc := 3) hO 1 dL_square_3 rfl rfl ?_
  refine z_callC (pc := 4) hO ht (E := eIA) [] ⟨0, 9, 12, 13⟩ [⟨0, 9, 15, 15⟩] rfl (fun z hz => absurd hz List.not_mem_nil) (by decide) (by decide) wl_I hN.2.2.1 (Or.inl rfl) hpY (As := [.int (zi a1)]) (st := [.int (zi 0), .ref (gA g 70)]) hM k_L_7 isO_0 rfl (Nat.le_of_ble_eq_true rfl) (by decide) (by decide) ⟨by decide, by decide⟩ dL_square_4 (fun v => ?_)
  refine z_astore_n (pc := 12) (lv' := [(3, .ref v), (0, .ref (gA g 0)), (1, .int (zi a1)), (2, .ref (gA g 70))]) hO dL_square_12 rfl (by decide) rfl ?_
  refine z_iconst (pc := 13) hO dL_square_13 ?_
  exact z_iret (pc := 14) hO hr hQ rfl dL_square_14 ⟨rfl, rfl⟩
theorem v_L_square_2 {l : Launch} {g : Gl} {x : Me} {a1 : Int} {pY : String → Prop} (hpY : ∀ E, pY E → E = eIS) (hM : cxQ l g yX11_square cX11_square 2 (some .int) 7 122 1 6 (.ref (gA g 0) :: [.int (zi a1)]) x (QIu g (fun _ _ => False)) pY) : ctL l g yL_square cL_square 4 [(0, 9, 12, 13), (0, 9, 15, 15)] 8 143 1 6 [.ref (gA g 0), .int (zi a1), .ref (gA g 70)] x (QIu g (fun z x' => z = 2 ∧ x' = x)) := by
  refine cl_start (own := RL) (lv := [(0, .ref (gA g 0)), (1, .int (zi a1)), (2, .ref (gA g 70))]) (by decide) rfl (Nat.le_of_ble_eq_true rfl) rfl ?_
  intro Γ hΓ hO hr hQ ht hN
  subst hΓ
  refine z_aload_n (pc := 0) hO 2 dL_square_0 rfl rfl ?_
  refine z_iconst (pc := 1) hO dL_square_1 ?_
  refine z_aload_n (pc := 2) hO 0 dL_square_2 rfl rfl ?_
  refine z_iload_n (pc := 3) hO 1 dL_square_3 rfl rfl ?_
  refine z_callC (pc := 4) hO ht (E := eIS) [⟨0, 9, 12, 13⟩] ⟨0, 9, 15, 15⟩ [] rfl (fun z hz => by obtain rfl := List.mem_singleton.mp hz; exact ⟨by decide, eIA, wl_I, hN.1.2.2⟩) (by decide) (by decide) wl_S hN.2.2.2 (Or.inl rfl) hpY (As := [.int (zi a1)]) (st := [.int (zi 0), .ref (gA g 70)]) hM k_L_7 isO_0 rfl (Nat.le_of_ble_eq_true rfl) (by decide) (by decide) ⟨by decide, by decide⟩ dL_square_4 (fun v => ?_)
  refine z_astore_n (pc := 15) (lv' := [(3, .ref v), (0, .ref (gA g 0)), (1, .int (zi a1)), (2, .ref (gA g 70))]) hO dL_square_15 rfl (by decide) rfl ?_
  refine z_iconst (pc := 16) hO dL_square_16 ?_
  exact z_iret (pc := 17) hO hr hQ rfl dL_square_17 ⟨rfl, rfl⟩
theorem w_L_put {l : Launch} {g : Gl} {x : Me} {a1 a2 a3 a4 : Int} (P : Int → Me → Prop) (hM : ctQ l g yX11_put cX11_put 6 (some .int) 3 64 (.ref (gA g 0) :: [.int (zi a1), .int (zi a2), .int (zi a3), .int (zi a4)]) x (QIu g P)) : ctL l g yL_put cL_put 7 [(0, 14, 17, 21), (0, 14, 21, 13)] 4 89 0 0 [.ref (gA g 0), .int (zi a1), .int (zi a2), .int (zi a3), .int (zi a4), .ref (gA g 70)] x (QIu g (fun z x' => z = 0 ∧ ∃ r y, P r y ∧ x' = up y 70 0 (zi r).toInt)) := by
  refine cl_start (own := RL) (lv := [(0, .ref (gA g 0)), (1, .int (zi a1)), (2, .int (zi a2)), (3, .int (zi a3)), (4, .int (zi a4)), (5, .ref (gA g 70))]) (by decide) rfl (Nat.le_of_ble_eq_true rfl) rfl ?_
  intro Γ hΓ hO hr hQ ht hN
  subst hΓ
  refine z_aload (pc := 0) hO 5 dL_put_0 rfl ?_
  refine z_iconst (pc := 2) hO dL_put_2 ?_
  refine z_aload_n (pc := 3) hO 0 dL_put_3 rfl rfl ?_
  refine z_iload_n (pc := 4) hO 1 dL_put_4 rfl rfl ?_
  refine z_iload_n (pc := 5) hO 2 dL_put_5 rfl rfl ?_
  refine z_iload_n (pc := 6) hO 3 dL_put_6 rfl rfl ?_
  refine z_iload (pc := 7) hO 4 dL_put_7 rfl ?_
  refine z_callVI (pc := 9) hO (As := [.int (zi a1), .int (zi a2), .int (zi a3), .int (zi a4)]) (st := [.int (zi 0), .ref (gA g 70)]) hM k_L_17 isO_0 rfl (Nat.le_of_ble_eq_true rfl) (by decide) (by decide) ⟨by decide, by decide⟩ dL_put_9 (fun r y hp => ?_)
  refine z_i2lq (pc := 12) hO dL_put_12 ?_
  refine z_last (pc := 13) hO isL_70 (by decide) dL_put_13 (fun y2 hy2 => ?_)
  refine z_goto (pc := 14) (tgt := 25) hO dL_put_14 (by decide) ?_
  refine z_iconst (pc := 25) hO dL_put_25 ?_
  exact z_iret (pc := 26) hO hr hQ rfl dL_put_26 ⟨rfl, r, y, hp, hy2⟩
theorem v_L_put_1 {l : Launch} {g : Gl} {x : Me} {a1 a2 a3 a4 : Int} {pY : String → Prop} (hpY : ∀ E, pY E → E = eIO) (hM : cxQ l g yX11_put cX11_put 6 (some .int) 7 122 1 6 (.ref (gA g 0) :: [.int (zi a1), .int (zi a2), .int (zi a3), .int (zi a4)]) x (QIu g (fun _ _ => False)) pY) : ctL l g yL_put cL_put 7 [(0, 14, 17, 21), (0, 14, 21, 13)] 8 147 1 6 [.ref (gA g 0), .int (zi a1), .int (zi a2), .int (zi a3), .int (zi a4), .ref (gA g 70)] x (QIu g (fun z x' => z = 1 ∧ x' = x)) := by
  refine cl_start (own := RL) (lv := [(0, .ref (gA g 0)), (1, .int (zi a1)), (2, .int (zi a2)), (3, .int (zi a3)), (4, .int (zi a4)), (5, .ref (gA g 70))]) (by decide) rfl (Nat.le_of_ble_eq_true rfl) rfl ?_
  intro Γ hΓ hO hr hQ ht hN
  subst hΓ
  refine z_aload (pc := 0) hO 5 dL_put_0 rfl ?_
  refine z_iconst (pc := 2) hO dL_put_2 ?_
  refine z_aload_n (pc := 3) hO 0 dL_put_3 rfl rfl ?_
  refine z_iload_n (pc := 4) hO 1 dL_put_4 rfl rfl ?_
  refine z_iload_n (pc := 5) hO 2 dL_put_5 rfl rfl ?_
  refine z_iload_n (pc := 6) hO 3 dL_put_6 rfl rfl ?_
  refine z_iload (pc := 7) hO 4 dL_put_7 rfl ?_
  refine z_callC (pc := 9) hO ht (E := eIO) [] ⟨0, 14, 17, 21⟩ [⟨0, 14, 21, 13⟩] rfl (fun z hz => absurd hz List.not_mem_nil) (by decide) (by decide) wl_B hN.2.1 (Or.inl rfl) hpY (As := [.int (zi a1), .int (zi a2), .int (zi a3), .int (zi a4)]) (st := [.int (zi 0), .ref (gA g 70)]) hM k_L_17 isO_0 rfl (Nat.le_of_ble_eq_true rfl) (by decide) (by decide) ⟨by decide, by decide⟩ dL_put_9 (fun v => ?_)
  refine z_astore (pc := 17) (lv' := [(6, .ref v), (0, .ref (gA g 0)), (1, .int (zi a1)), (2, .int (zi a2)), (3, .int (zi a3)), (4, .int (zi a4)), (5, .ref (gA g 70))]) hO dL_put_17 (by decide) rfl ?_
  refine z_iconst (pc := 19) hO dL_put_19 ?_
  exact z_iret (pc := 20) hO hr hQ rfl dL_put_20 ⟨rfl, rfl⟩
theorem v_L_put_2 {l : Launch} {g : Gl} {x : Me} {a1 a2 a3 a4 : Int} {pY : String → Prop} (hpY : ∀ E, pY E → E = eIA) (hM : cxQ l g yX11_put cX11_put 6 (some .int) 7 122 1 6 (.ref (gA g 0) :: [.int (zi a1), .int (zi a2), .int (zi a3), .int (zi a4)]) x (QIu g (fun _ _ => False)) pY) : ctL l g yL_put cL_put 7 [(0, 14, 17, 21), (0, 14, 21, 13)] 8 147 1 6 [.ref (gA g 0), .int (zi a1), .int (zi a2), .int (zi a3), .int (zi a4), .ref (gA g 70)] x (QIu g (fun z x' => z = 2 ∧ x' = x)) := by
  refine cl_start (own := RL) (lv := [(0, .ref (gA g 0)), (1, .int (zi a1)), (2, .int (zi a2)), (3, .int (zi a3)), (4, .int (zi a4)), (5, .ref (gA g 70))]) (by decide) rfl (Nat.le_of_ble_eq_true rfl) rfl ?_
  intro Γ hΓ hO hr hQ ht hN
  subst hΓ
  refine z_aload (pc := 0) hO 5 dL_put_0 rfl ?_
  refine z_iconst (pc := 2) hO dL_put_2 ?_
  refine z_aload_n (pc := 3) hO 0 dL_put_3 rfl rfl ?_
  refine z_iload_n (pc := 4) hO 1 dL_put_4 rfl rfl ?_
  refine z_iload_n (pc := 5) hO 2 dL_put_5 rfl rfl ?_
  refine z_iload_n (pc := 6) hO 3 dL_put_6 rfl rfl ?_
  refine z_iload (pc := 7) hO 4 dL_put_7 rfl ?_
  refine z_callC (pc := 9) hO ht (E := eIA) [⟨0, 14, 17, 21⟩] ⟨0, 14, 21, 13⟩ [] rfl (fun z hz => by obtain rfl := List.mem_singleton.mp hz; exact ⟨by decide, eIO, wl_B, hN.1.1⟩) (by decide) (by decide) wl_I hN.2.2.1 (Or.inl rfl) hpY (As := [.int (zi a1), .int (zi a2), .int (zi a3), .int (zi a4)]) (st := [.int (zi 0), .ref (gA g 70)]) hM k_L_17 isO_0 rfl (Nat.le_of_ble_eq_true rfl) (by decide) (by decide) ⟨by decide, by decide⟩ dL_put_9 (fun v => ?_)
  refine z_astore (pc := 21) (lv' := [(6, .ref v), (0, .ref (gA g 0)), (1, .int (zi a1)), (2, .int (zi a2)), (3, .int (zi a3)), (4, .int (zi a4)), (5, .ref (gA g 70))]) hO dL_put_21 (by decide) rfl ?_
  refine z_iconst (pc := 23) hO dL_put_23 ?_
  exact z_iret (pc := 24) hO hr hQ rfl dL_put_24 ⟨rfl, rfl⟩
theorem w_L_at {l : Launch} {g : Gl} {x : Me} {a1 a2 a3 : Int} (P : Int → Me → Prop) (hM : ctQ l g yX11_at cX11_at 5 (some .int) 3 64 (.ref (gA g 0) :: [.int (zi a1), .int (zi a2), .int (zi a3)]) x (QIu g P)) : ctL l g yL_at cL_at 6 [(0, 12, 15, 21)] 4 88 0 0 [.ref (gA g 0), .int (zi a1), .int (zi a2), .int (zi a3), .ref (gA g 70)] x (QIu g (fun z x' => z = 0 ∧ ∃ r y, P r y ∧ x' = up y 70 0 (zi r).toInt)) := by
  refine cl_start (own := RL) (lv := [(0, .ref (gA g 0)), (1, .int (zi a1)), (2, .int (zi a2)), (3, .int (zi a3)), (4, .ref (gA g 70))]) (by decide) rfl (Nat.le_of_ble_eq_true rfl) rfl ?_
  intro Γ hΓ hO hr hQ ht hN
  subst hΓ
  refine z_aload (pc := 0) hO 4 dL_at_0 rfl ?_
  refine z_iconst (pc := 2) hO dL_at_2 ?_
  refine z_aload_n (pc := 3) hO 0 dL_at_3 rfl rfl ?_
  refine z_iload_n (pc := 4) hO 1 dL_at_4 rfl rfl ?_
  refine z_iload_n (pc := 5) hO 2 dL_at_5 rfl rfl ?_
  refine z_iload_n (pc := 6) hO 3 dL_at_6 rfl rfl ?_
  refine z_callVI (pc := 7) hO (As := [.int (zi a1), .int (zi a2), .int (zi a3)]) (st := [.int (zi 0), .ref (gA g 70)]) hM k_L_23 isO_0 rfl (Nat.le_of_ble_eq_true rfl) (by decide) (by decide) ⟨by decide, by decide⟩ dL_at_7 (fun r y hp => ?_)
  refine z_i2lq (pc := 10) hO dL_at_10 ?_
  refine z_last (pc := 11) hO isL_70 (by decide) dL_at_11 (fun y2 hy2 => ?_)
  refine z_goto (pc := 12) (tgt := 19) hO dL_at_12 (by decide) ?_
  refine z_iconst (pc := 19) hO dL_at_19 ?_
  exact z_iret (pc := 20) hO hr hQ rfl dL_at_20 ⟨rfl, r, y, hp, hy2⟩
theorem v_L_at_1 {l : Launch} {g : Gl} {x : Me} {a1 a2 a3 : Int} {pY : String → Prop} (hpY : ∀ E, pY E → E = eIO) (hM : cxQ l g yX11_at cX11_at 5 (some .int) 7 122 1 6 (.ref (gA g 0) :: [.int (zi a1), .int (zi a2), .int (zi a3)]) x (QIu g (fun _ _ => False)) pY) : ctL l g yL_at cL_at 6 [(0, 12, 15, 21)] 8 146 1 6 [.ref (gA g 0), .int (zi a1), .int (zi a2), .int (zi a3), .ref (gA g 70)] x (QIu g (fun z x' => z = 1 ∧ x' = x)) := by
  refine cl_start (own := RL) (lv := [(0, .ref (gA g 0)), (1, .int (zi a1)), (2, .int (zi a2)), (3, .int (zi a3)), (4, .ref (gA g 70))]) (by decide) rfl (Nat.le_of_ble_eq_true rfl) rfl ?_
  intro Γ hΓ hO hr hQ ht hN
  subst hΓ
  refine z_aload (pc := 0) hO 4 dL_at_0 rfl ?_
  refine z_iconst (pc := 2) hO dL_at_2 ?_
  refine z_aload_n (pc := 3) hO 0 dL_at_3 rfl rfl ?_
  refine z_iload_n (pc := 4) hO 1 dL_at_4 rfl rfl ?_
  refine z_iload_n (pc := 5) hO 2 dL_at_5 rfl rfl ?_
  refine z_iload_n (pc := 6) hO 3 dL_at_6 rfl rfl ?_
  refine z_callC (pc := 7) hO ht (E := eIO) [] ⟨0, 12, 15, 21⟩ [] rfl (fun z hz => absurd hz List.not_mem_nil) (by decide) (by decide) wl_B hN.2.1 (Or.inl rfl) hpY (As := [.int (zi a1), .int (zi a2), .int (zi a3)]) (st := [.int (zi 0), .ref (gA g 70)]) hM k_L_23 isO_0 rfl (Nat.le_of_ble_eq_true rfl) (by decide) (by decide) ⟨by decide, by decide⟩ dL_at_7 (fun v => ?_)
  refine z_astore (pc := 15) (lv' := [(5, .ref v), (0, .ref (gA g 0)), (1, .int (zi a1)), (2, .int (zi a2)), (3, .int (zi a3)), (4, .ref (gA g 70))]) hO dL_at_15 (by decide) rfl ?_
  refine z_iconst (pc := 17) hO dL_at_17 ?_
  exact z_iret (pc := 18) hO hr hQ rfl dL_at_18 ⟨rfl, rfl⟩
theorem w_L_make {l : Launch} {g : Gl} {x : Me} {a1 a2 : Int} (P : Int → Me → Prop) (hM : ctQ l g yX11_make cX11_make 4 (some .int) 6 139 (.ref (gA g 0) :: [.int (zi a1), .int (zi a2)]) x (QIu g P)) : ctL l g yL_make cL_make 5 [(0, 10, 13, 13), (0, 10, 17, 15)] 7 162 0 0 [.ref (gA g 0), .int (zi a1), .int (zi a2), .ref (gA g 70)] x (QIu g (fun z x' => z = 0 ∧ ∃ r y, P r y ∧ x' = up y 70 0 (zi r).toInt)) := by
  refine cl_start (own := RL) (lv := [(0, .ref (gA g 0)), (1, .int (zi a1)), (2, .int (zi a2)), (3, .ref (gA g 70))]) (by decide) rfl (Nat.le_of_ble_eq_true rfl) rfl ?_
  intro Γ hΓ hO hr hQ ht hN
  subst hΓ
  refine z_aload_n (pc := 0) hO 3 dL_make_0 rfl rfl ?_
  refine z_iconst (pc := 1) hO dL_make_1 ?_
  refine z_aload_n (pc := 2) hO 0 dL_make_2 rfl rfl ?_
  refine z_iload_n (pc := 3) hO 1 dL_make_3 rfl rfl ?_
  refine z_iload_n (pc := 4) hO 2 dL_make_4 rfl rfl ?_
  refine z_callVI (pc := 5) hO (As := [.int (zi a1), .int (zi a2)]) (st := [.int (zi 0), .ref (gA g 70)]) hM k_L_27 isO_0 rfl (Nat.le_of_ble_eq_true rfl) (by decide) (by decide) ⟨by decide, by decide⟩ dL_make_5 (fun r y hp => ?_)
  refine z_i2lq (pc := 8) hO dL_make_8 ?_
  refine z_last (pc := 9) hO isL_70 (by decide) dL_make_9 (fun y2 hy2 => ?_)
  refine z_goto (pc := 10) (tgt := 21) hO dL_make_10 (by decide) ?_
  refine z_iconst (pc := 21) hO dL_make_21 ?_
  exact z_iret (pc := 22) hO hr hQ rfl dL_make_22 ⟨rfl, r, y, hp, hy2⟩
theorem v_L_make_1 {l : Launch} {g : Gl} {x : Me} {a1 a2 : Int} {pY : String → Prop} (hpY : ∀ E, pY E → E = eIA) (hM : cxQ l g yX11_make cX11_make 4 (some .int) 7 139 1 6 (.ref (gA g 0) :: [.int (zi a1), .int (zi a2)]) x (QIu g (fun _ _ => False)) pY) : ctL l g yL_make cL_make 5 [(0, 10, 13, 13), (0, 10, 17, 15)] 8 162 1 6 [.ref (gA g 0), .int (zi a1), .int (zi a2), .ref (gA g 70)] x (QIu g (fun z x' => z = 1 ∧ x' = x)) := by
  refine cl_start (own := RL) (lv := [(0, .ref (gA g 0)), (1, .int (zi a1)), (2, .int (zi a2)), (3, .ref (gA g 70))]) (by decide) rfl (Nat.le_of_ble_eq_true rfl) rfl ?_
  intro Γ hΓ hO hr hQ ht hN
  subst hΓ
  refine z_aload_n (pc := 0) hO 3 dL_make_0 rfl rfl ?_
  refine z_iconst (pc := 1) hO dL_make_1 ?_
  refine z_aload_n (pc := 2) hO 0 dL_make_2 rfl rfl ?_
  refine z_iload_n (pc := 3) hO 1 dL_make_3 rfl rfl ?_
  refine z_iload_n (pc := 4) hO 2 dL_make_4 rfl rfl ?_
  refine z_callC (pc := 5) hO ht (E := eIA) [] ⟨0, 10, 13, 13⟩ [⟨0, 10, 17, 15⟩] rfl (fun z hz => absurd hz List.not_mem_nil) (by decide) (by decide) wl_I hN.2.2.1 (Or.inl rfl) hpY (As := [.int (zi a1), .int (zi a2)]) (st := [.int (zi 0), .ref (gA g 70)]) hM k_L_27 isO_0 rfl (Nat.le_of_ble_eq_true rfl) (by decide) (by decide) ⟨by decide, by decide⟩ dL_make_5 (fun v => ?_)
  refine z_astore (pc := 13) (lv' := [(4, .ref v), (0, .ref (gA g 0)), (1, .int (zi a1)), (2, .int (zi a2)), (3, .ref (gA g 70))]) hO dL_make_13 (by decide) rfl ?_
  refine z_iconst (pc := 15) hO dL_make_15 ?_
  exact z_iret (pc := 16) hO hr hQ rfl dL_make_16 ⟨rfl, rfl⟩
theorem v_L_make_2 {l : Launch} {g : Gl} {x : Me} {a1 a2 : Int} {pY : String → Prop} (hpY : ∀ E, pY E → E = eIS) (hM : cxQ l g yX11_make cX11_make 4 (some .int) 7 139 1 6 (.ref (gA g 0) :: [.int (zi a1), .int (zi a2)]) x (QIu g (fun _ _ => False)) pY) : ctL l g yL_make cL_make 5 [(0, 10, 13, 13), (0, 10, 17, 15)] 8 162 1 6 [.ref (gA g 0), .int (zi a1), .int (zi a2), .ref (gA g 70)] x (QIu g (fun z x' => z = 2 ∧ x' = x)) := by
  refine cl_start (own := RL) (lv := [(0, .ref (gA g 0)), (1, .int (zi a1)), (2, .int (zi a2)), (3, .ref (gA g 70))]) (by decide) rfl (Nat.le_of_ble_eq_true rfl) rfl ?_
  intro Γ hΓ hO hr hQ ht hN
  subst hΓ
  refine z_aload_n (pc := 0) hO 3 dL_make_0 rfl rfl ?_
  refine z_iconst (pc := 1) hO dL_make_1 ?_
  refine z_aload_n (pc := 2) hO 0 dL_make_2 rfl rfl ?_
  refine z_iload_n (pc := 3) hO 1 dL_make_3 rfl rfl ?_
  refine z_iload_n (pc := 4) hO 2 dL_make_4 rfl rfl ?_
  refine z_callC (pc := 5) hO ht (E := eIS) [⟨0, 10, 13, 13⟩] ⟨0, 10, 17, 15⟩ [] rfl (fun z hz => by obtain rfl := List.mem_singleton.mp hz; exact ⟨by decide, eIA, wl_I, hN.1.2.2⟩) (by decide) (by decide) wl_S hN.2.2.2 (Or.inl rfl) hpY (As := [.int (zi a1), .int (zi a2)]) (st := [.int (zi 0), .ref (gA g 70)]) hM k_L_27 isO_0 rfl (Nat.le_of_ble_eq_true rfl) (by decide) (by decide) ⟨by decide, by decide⟩ dL_make_5 (fun v => ?_)
  refine z_astore (pc := 17) (lv' := [(4, .ref v), (0, .ref (gA g 0)), (1, .int (zi a1)), (2, .int (zi a2)), (3, .ref (gA g 70))]) hO dL_make_17 (by decide) rfl ?_
  refine z_iconst (pc := 19) hO dL_make_19 ?_
  exact z_iret (pc := 20) hO hr hQ rfl dL_make_20 ⟨rfl, rfl⟩
theorem w_L_laws {l : Launch} {g : Gl} {x : Me} {a1 : Int} (P : Int → Me → Prop) (hM : ctQ l g yX11_laws cX11_laws 2 (some .int) 6 134 (.ref (gA g 0) :: [.int (zi a1)]) x (QIu g P)) : ctL l g yL_laws cL_laws 4 [(0, 9, 12, 21)] 7 155 0 0 [.ref (gA g 0), .int (zi a1), .ref (gA g 70)] x (QIu g (fun z x' => z = 0 ∧ ∃ r y, P r y ∧ x' = up y 70 0 (zi r).toInt)) := by
  refine cl_start (own := RL) (lv := [(0, .ref (gA g 0)), (1, .int (zi a1)), (2, .ref (gA g 70))]) (by decide) rfl (Nat.le_of_ble_eq_true rfl) rfl ?_
  intro Γ hΓ hO hr hQ ht hN
  subst hΓ
  refine z_aload_n (pc := 0) hO 2 dL_laws_0 rfl rfl ?_
  refine z_iconst (pc := 1) hO dL_laws_1 ?_
  refine z_aload_n (pc := 2) hO 0 dL_laws_2 rfl rfl ?_
  refine z_iload_n (pc := 3) hO 1 dL_laws_3 rfl rfl ?_
  refine z_callVI (pc := 4) hO (As := [.int (zi a1)]) (st := [.int (zi 0), .ref (gA g 70)]) hM k_L_31 isO_0 rfl (Nat.le_of_ble_eq_true rfl) (by decide) (by decide) ⟨by decide, by decide⟩ dL_laws_4 (fun r y hp => ?_)
  refine z_i2lq (pc := 7) hO dL_laws_7 ?_
  refine z_last (pc := 8) hO isL_70 (by decide) dL_laws_8 (fun y2 hy2 => ?_)
  refine z_goto (pc := 9) (tgt := 15) hO dL_laws_9 (by decide) ?_
  refine z_iconst (pc := 15) hO dL_laws_15 ?_
  exact z_iret (pc := 16) hO hr hQ rfl dL_laws_16 ⟨rfl, r, y, hp, hy2⟩
theorem v_L_laws_1 {l : Launch} {g : Gl} {x : Me} {a1 : Int} {pY : String → Prop} (hpY : ∀ E, pY E → E = eIO) (hM : cxQ l g yX11_laws cX11_laws 2 (some .int) 7 134 1 6 (.ref (gA g 0) :: [.int (zi a1)]) x (QIu g (fun _ _ => False)) pY) : ctL l g yL_laws cL_laws 4 [(0, 9, 12, 21)] 8 155 1 6 [.ref (gA g 0), .int (zi a1), .ref (gA g 70)] x (QIu g (fun z x' => z = 1 ∧ x' = x)) := by
  refine cl_start (own := RL) (lv := [(0, .ref (gA g 0)), (1, .int (zi a1)), (2, .ref (gA g 70))]) (by decide) rfl (Nat.le_of_ble_eq_true rfl) rfl ?_
  intro Γ hΓ hO hr hQ ht hN
  subst hΓ
  refine z_aload_n (pc := 0) hO 2 dL_laws_0 rfl rfl ?_
  refine z_iconst (pc := 1) hO dL_laws_1 ?_
  refine z_aload_n (pc := 2) hO 0 dL_laws_2 rfl rfl ?_
  refine z_iload_n (pc := 3) hO 1 dL_laws_3 rfl rfl ?_
  refine z_callC (pc := 4) hO ht (E := eIO) [] ⟨0, 9, 12, 21⟩ [] rfl (fun z hz => absurd hz List.not_mem_nil) (by decide) (by decide) wl_B hN.2.1 (Or.inl rfl) hpY (As := [.int (zi a1)]) (st := [.int (zi 0), .ref (gA g 70)]) hM k_L_31 isO_0 rfl (Nat.le_of_ble_eq_true rfl) (by decide) (by decide) ⟨by decide, by decide⟩ dL_laws_4 (fun v => ?_)
  refine z_astore_n (pc := 12) (lv' := [(3, .ref v), (0, .ref (gA g 0)), (1, .int (zi a1)), (2, .ref (gA g 70))]) hO dL_laws_12 rfl (by decide) rfl ?_
  refine z_iconst (pc := 13) hO dL_laws_13 ?_
  exact z_iret (pc := 14) hO hr hQ rfl dL_laws_14 ⟨rfl, rfl⟩
theorem w_L_sum {l : Launch} {g : Gl} {x : Me} {a1 a2 a3 : Int} (P : Int → Me → Prop) (hM : ctQ l g yX11_sum cX11_sum 5 (some .int) 3 67 (.ref (gA g 0) :: [.int (zi a1), .int (zi a2), .int (zi a3)]) x (QIu g P)) : ctL l g yL_sum cL_sum 6 [(0, 12, 15, 21), (0, 12, 19, 13)] 4 91 0 0 [.ref (gA g 0), .int (zi a1), .int (zi a2), .int (zi a3), .ref (gA g 70)] x (QIu g (fun z x' => z = 0 ∧ ∃ r y, P r y ∧ x' = up y 70 0 (zi r).toInt)) := by
  refine cl_start (own := RL) (lv := [(0, .ref (gA g 0)), (1, .int (zi a1)), (2, .int (zi a2)), (3, .int (zi a3)), (4, .ref (gA g 70))]) (by decide) rfl (Nat.le_of_ble_eq_true rfl) rfl ?_
  intro Γ hΓ hO hr hQ ht hN
  subst hΓ
  refine z_aload (pc := 0) hO 4 dL_sum_0 rfl ?_
  refine z_iconst (pc := 2) hO dL_sum_2 ?_
  refine z_aload_n (pc := 3) hO 0 dL_sum_3 rfl rfl ?_
  refine z_iload_n (pc := 4) hO 1 dL_sum_4 rfl rfl ?_
  refine z_iload_n (pc := 5) hO 2 dL_sum_5 rfl rfl ?_
  refine z_iload_n (pc := 6) hO 3 dL_sum_6 rfl rfl ?_
  refine z_callVI (pc := 7) hO (As := [.int (zi a1), .int (zi a2), .int (zi a3)]) (st := [.int (zi 0), .ref (gA g 70)]) hM k_L_34 isO_0 rfl (Nat.le_of_ble_eq_true rfl) (by decide) (by decide) ⟨by decide, by decide⟩ dL_sum_7 (fun r y hp => ?_)
  refine z_i2lq (pc := 10) hO dL_sum_10 ?_
  refine z_last (pc := 11) hO isL_70 (by decide) dL_sum_11 (fun y2 hy2 => ?_)
  refine z_goto (pc := 12) (tgt := 23) hO dL_sum_12 (by decide) ?_
  refine z_iconst (pc := 23) hO dL_sum_23 ?_
  exact z_iret (pc := 24) hO hr hQ rfl dL_sum_24 ⟨rfl, r, y, hp, hy2⟩
theorem v_L_sum_1 {l : Launch} {g : Gl} {x : Me} {a1 a2 a3 : Int} {pY : String → Prop} (hpY : ∀ E, pY E → E = eIO) (hM : cxQ l g yX11_sum cX11_sum 5 (some .int) 7 122 1 6 (.ref (gA g 0) :: [.int (zi a1), .int (zi a2), .int (zi a3)]) x (QIu g (fun _ _ => False)) pY) : ctL l g yL_sum cL_sum 6 [(0, 12, 15, 21), (0, 12, 19, 13)] 8 146 1 6 [.ref (gA g 0), .int (zi a1), .int (zi a2), .int (zi a3), .ref (gA g 70)] x (QIu g (fun z x' => z = 1 ∧ x' = x)) := by
  refine cl_start (own := RL) (lv := [(0, .ref (gA g 0)), (1, .int (zi a1)), (2, .int (zi a2)), (3, .int (zi a3)), (4, .ref (gA g 70))]) (by decide) rfl (Nat.le_of_ble_eq_true rfl) rfl ?_
  intro Γ hΓ hO hr hQ ht hN
  subst hΓ
  refine z_aload (pc := 0) hO 4 dL_sum_0 rfl ?_
  refine z_iconst (pc := 2) hO dL_sum_2 ?_
  refine z_aload_n (pc := 3) hO 0 dL_sum_3 rfl rfl ?_
  refine z_iload_n (pc := 4) hO 1 dL_sum_4 rfl rfl ?_
  refine z_iload_n (pc := 5) hO 2 dL_sum_5 rfl rfl ?_
  refine z_iload_n (pc := 6) hO 3 dL_sum_6 rfl rfl ?_
  refine z_callC (pc := 7) hO ht (E := eIO) [] ⟨0, 12, 15, 21⟩ [⟨0, 12, 19, 13⟩] rfl (fun z hz => absurd hz List.not_mem_nil) (by decide) (by decide) wl_B hN.2.1 (Or.inl rfl) hpY (As := [.int (zi a1), .int (zi a2), .int (zi a3)]) (st := [.int (zi 0), .ref (gA g 70)]) hM k_L_34 isO_0 rfl (Nat.le_of_ble_eq_true rfl) (by decide) (by decide) ⟨by decide, by decide⟩ dL_sum_7 (fun v => ?_)
  refine z_astore (pc := 15) (lv' := [(5, .ref v), (0, .ref (gA g 0)), (1, .int (zi a1)), (2, .int (zi a2)), (3, .int (zi a3)), (4, .ref (gA g 70))]) hO dL_sum_15 (by decide) rfl ?_
  refine z_iconst (pc := 17) hO dL_sum_17 ?_
  exact z_iret (pc := 18) hO hr hQ rfl dL_sum_18 ⟨rfl, rfl⟩
theorem v_L_sum_2 {l : Launch} {g : Gl} {x : Me} {a1 a2 a3 : Int} {pY : String → Prop} (hpY : ∀ E, pY E → E = eIA) (hM : cxQ l g yX11_sum cX11_sum 5 (some .int) 7 122 1 6 (.ref (gA g 0) :: [.int (zi a1), .int (zi a2), .int (zi a3)]) x (QIu g (fun _ _ => False)) pY) : ctL l g yL_sum cL_sum 6 [(0, 12, 15, 21), (0, 12, 19, 13)] 8 146 1 6 [.ref (gA g 0), .int (zi a1), .int (zi a2), .int (zi a3), .ref (gA g 70)] x (QIu g (fun z x' => z = 2 ∧ x' = x)) := by
  refine cl_start (own := RL) (lv := [(0, .ref (gA g 0)), (1, .int (zi a1)), (2, .int (zi a2)), (3, .int (zi a3)), (4, .ref (gA g 70))]) (by decide) rfl (Nat.le_of_ble_eq_true rfl) rfl ?_
  intro Γ hΓ hO hr hQ ht hN
  subst hΓ
  refine z_aload (pc := 0) hO 4 dL_sum_0 rfl ?_
  refine z_iconst (pc := 2) hO dL_sum_2 ?_
  refine z_aload_n (pc := 3) hO 0 dL_sum_3 rfl rfl ?_
  refine z_iload_n (pc := 4) hO 1 dL_sum_4 rfl rfl ?_
  refine z_iload_n (pc := 5) hO 2 dL_sum_5 rfl rfl ?_
  refine z_iload_n (pc := 6) hO 3 dL_sum_6 rfl rfl ?_
  refine z_callC (pc := 7) hO ht (E := eIA) [⟨0, 12, 15, 21⟩] ⟨0, 12, 19, 13⟩ [] rfl (fun z hz => by obtain rfl := List.mem_singleton.mp hz; exact ⟨by decide, eIO, wl_B, hN.1.1⟩) (by decide) (by decide) wl_I hN.2.2.1 (Or.inl rfl) hpY (As := [.int (zi a1), .int (zi a2), .int (zi a3)]) (st := [.int (zi 0), .ref (gA g 70)]) hM k_L_34 isO_0 rfl (Nat.le_of_ble_eq_true rfl) (by decide) (by decide) ⟨by decide, by decide⟩ dL_sum_7 (fun v => ?_)
  refine z_astore (pc := 19) (lv' := [(5, .ref v), (0, .ref (gA g 0)), (1, .int (zi a1)), (2, .int (zi a2)), (3, .int (zi a3)), (4, .ref (gA g 70))]) hO dL_sum_19 (by decide) rfl ?_
  refine z_iconst (pc := 21) hO dL_sum_21 ?_
  exact z_iret (pc := 22) hO hr hQ rfl dL_sum_22 ⟨rfl, rfl⟩
theorem w_L_change {l : Launch} {g : Gl} {x : Me} {a1 a2 a3 : Int} (P : Int → Me → Prop) (hM : ctQ l g yX11_change cX11_change 5 (some .int) 6 135 (.ref (gA g 0) :: [.int (zi a1), .int (zi a2), .int (zi a3)]) x (QIu g P)) : ctL l g yL_change cL_change 6 [(0, 12, 15, 21), (0, 12, 19, 13), (0, 12, 23, 15)] 7 159 0 0 [.ref (gA g 0), .int (zi a1), .int (zi a2), .int (zi a3), .ref (gA g 70)] x (QIu g (fun z x' => z = 0 ∧ ∃ r y, P r y ∧ x' = up y 70 0 (zi r).toInt)) := by
  refine cl_start (own := RL) (lv := [(0, .ref (gA g 0)), (1, .int (zi a1)), (2, .int (zi a2)), (3, .int (zi a3)), (4, .ref (gA g 70))]) (by decide) rfl (Nat.le_of_ble_eq_true rfl) rfl ?_
  intro Γ hΓ hO hr hQ ht hN
  subst hΓ
  refine z_aload (pc := 0) hO 4 dL_change_0 rfl ?_
  refine z_iconst (pc := 2) hO dL_change_2 ?_
  refine z_aload_n (pc := 3) hO 0 dL_change_3 rfl rfl ?_
  refine z_iload_n (pc := 4) hO 1 dL_change_4 rfl rfl ?_
  refine z_iload_n (pc := 5) hO 2 dL_change_5 rfl rfl ?_
  refine z_iload_n (pc := 6) hO 3 dL_change_6 rfl rfl ?_
  refine z_callVI (pc := 7) hO (As := [.int (zi a1), .int (zi a2), .int (zi a3)]) (st := [.int (zi 0), .ref (gA g 70)]) hM k_L_37 isO_0 rfl (Nat.le_of_ble_eq_true rfl) (by decide) (by decide) ⟨by decide, by decide⟩ dL_change_7 (fun r y hp => ?_)
  refine z_i2lq (pc := 10) hO dL_change_10 ?_
  refine z_last (pc := 11) hO isL_70 (by decide) dL_change_11 (fun y2 hy2 => ?_)
  refine z_goto (pc := 12) (tgt := 27) hO dL_change_12 (by decide) ?_
  refine z_iconst (pc := 27) hO dL_change_27 ?_
  exact z_iret (pc := 28) hO hr hQ rfl dL_change_28 ⟨rfl, r, y, hp, hy2⟩
theorem v_L_change_1 {l : Launch} {g : Gl} {x : Me} {a1 a2 a3 : Int} {pY : String → Prop} (hpY : ∀ E, pY E → E = eIO) (hM : cxQ l g yX11_change cX11_change 5 (some .int) 7 135 1 6 (.ref (gA g 0) :: [.int (zi a1), .int (zi a2), .int (zi a3)]) x (QIu g (fun _ _ => False)) pY) : ctL l g yL_change cL_change 6 [(0, 12, 15, 21), (0, 12, 19, 13), (0, 12, 23, 15)] 8 159 1 6 [.ref (gA g 0), .int (zi a1), .int (zi a2), .int (zi a3), .ref (gA g 70)] x (QIu g (fun z x' => z = 1 ∧ x' = x)) := by
  refine cl_start (own := RL) (lv := [(0, .ref (gA g 0)), (1, .int (zi a1)), (2, .int (zi a2)), (3, .int (zi a3)), (4, .ref (gA g 70))]) (by decide) rfl (Nat.le_of_ble_eq_true rfl) rfl ?_
  intro Γ hΓ hO hr hQ ht hN
  subst hΓ
  refine z_aload (pc := 0) hO 4 dL_change_0 rfl ?_
  refine z_iconst (pc := 2) hO dL_change_2 ?_
  refine z_aload_n (pc := 3) hO 0 dL_change_3 rfl rfl ?_
  refine z_iload_n (pc := 4) hO 1 dL_change_4 rfl rfl ?_
  refine z_iload_n (pc := 5) hO 2 dL_change_5 rfl rfl ?_
  refine z_iload_n (pc := 6) hO 3 dL_change_6 rfl rfl ?_
  refine z_callC (pc := 7) hO ht (E := eIO) [] ⟨0, 12, 15, 21⟩ [⟨0, 12, 19, 13⟩, ⟨0, 12, 23, 15⟩] rfl (fun z hz => absurd hz List.not_mem_nil) (by decide) (by decide) wl_B hN.2.1 (Or.inl rfl) hpY (As := [.int (zi a1), .int (zi a2), .int (zi a3)]) (st := [.int (zi 0), .ref (gA g 70)]) hM k_L_37 isO_0 rfl (Nat.le_of_ble_eq_true rfl) (by decide) (by decide) ⟨by decide, by decide⟩ dL_change_7 (fun v => ?_)
  refine z_astore (pc := 15) (lv' := [(5, .ref v), (0, .ref (gA g 0)), (1, .int (zi a1)), (2, .int (zi a2)), (3, .int (zi a3)), (4, .ref (gA g 70))]) hO dL_change_15 (by decide) rfl ?_
  refine z_iconst (pc := 17) hO dL_change_17 ?_
  exact z_iret (pc := 18) hO hr hQ rfl dL_change_18 ⟨rfl, rfl⟩
theorem v_L_change_2 {l : Launch} {g : Gl} {x : Me} {a1 a2 a3 : Int} {pY : String → Prop} (hpY : ∀ E, pY E → E = eIA) (hM : cxQ l g yX11_change cX11_change 5 (some .int) 7 135 1 6 (.ref (gA g 0) :: [.int (zi a1), .int (zi a2), .int (zi a3)]) x (QIu g (fun _ _ => False)) pY) : ctL l g yL_change cL_change 6 [(0, 12, 15, 21), (0, 12, 19, 13), (0, 12, 23, 15)] 8 159 1 6 [.ref (gA g 0), .int (zi a1), .int (zi a2), .int (zi a3), .ref (gA g 70)] x (QIu g (fun z x' => z = 2 ∧ x' = x)) := by
  refine cl_start (own := RL) (lv := [(0, .ref (gA g 0)), (1, .int (zi a1)), (2, .int (zi a2)), (3, .int (zi a3)), (4, .ref (gA g 70))]) (by decide) rfl (Nat.le_of_ble_eq_true rfl) rfl ?_
  intro Γ hΓ hO hr hQ ht hN
  subst hΓ
  refine z_aload (pc := 0) hO 4 dL_change_0 rfl ?_
  refine z_iconst (pc := 2) hO dL_change_2 ?_
  refine z_aload_n (pc := 3) hO 0 dL_change_3 rfl rfl ?_
  refine z_iload_n (pc := 4) hO 1 dL_change_4 rfl rfl ?_
  refine z_iload_n (pc := 5) hO 2 dL_change_5 rfl rfl ?_
  refine z_iload_n (pc := 6) hO 3 dL_change_6 rfl rfl ?_
  refine z_callC (pc := 7) hO ht (E := eIA) [⟨0, 12, 15, 21⟩] ⟨0, 12, 19, 13⟩ [⟨0, 12, 23, 15⟩] rfl (fun z hz => by obtain rfl := List.mem_singleton.mp hz; exact ⟨by decide, eIO, wl_B, hN.1.1⟩) (by decide) (by decide) wl_I hN.2.2.1 (Or.inl rfl) hpY (As := [.int (zi a1), .int (zi a2), .int (zi a3)]) (st := [.int (zi 0), .ref (gA g 70)]) hM k_L_37 isO_0 rfl (Nat.le_of_ble_eq_true rfl) (by decide) (by decide) ⟨by decide, by decide⟩ dL_change_7 (fun v => ?_)
  refine z_astore (pc := 19) (lv' := [(5, .ref v), (0, .ref (gA g 0)), (1, .int (zi a1)), (2, .int (zi a2)), (3, .int (zi a3)), (4, .ref (gA g 70))]) hO dL_change_19 (by decide) rfl ?_
  refine z_iconst (pc := 21) hO dL_change_21 ?_
  exact z_iret (pc := 22) hO hr hQ rfl dL_change_22 ⟨rfl, rfl⟩
theorem v_L_change_3 {l : Launch} {g : Gl} {x : Me} {a1 a2 a3 : Int} {pY : String → Prop} (hpY : ∀ E, pY E → E = eIS) (hM : cxQ l g yX11_change cX11_change 5 (some .int) 7 135 1 6 (.ref (gA g 0) :: [.int (zi a1), .int (zi a2), .int (zi a3)]) x (QIu g (fun _ _ => False)) pY) : ctL l g yL_change cL_change 6 [(0, 12, 15, 21), (0, 12, 19, 13), (0, 12, 23, 15)] 8 159 1 6 [.ref (gA g 0), .int (zi a1), .int (zi a2), .int (zi a3), .ref (gA g 70)] x (QIu g (fun z x' => z = 3 ∧ x' = x)) := by
  refine cl_start (own := RL) (lv := [(0, .ref (gA g 0)), (1, .int (zi a1)), (2, .int (zi a2)), (3, .int (zi a3)), (4, .ref (gA g 70))]) (by decide) rfl (Nat.le_of_ble_eq_true rfl) rfl ?_
  intro Γ hΓ hO hr hQ ht hN
  subst hΓ
  refine z_aload (pc := 0) hO 4 dL_change_0 rfl ?_
  refine z_iconst (pc := 2) hO dL_change_2 ?_
  refine z_aload_n (pc := 3) hO 0 dL_change_3 rfl rfl ?_
  refine z_iload_n (pc := 4) hO 1 dL_change_4 rfl rfl ?_
  refine z_iload_n (pc := 5) hO 2 dL_change_5 rfl rfl ?_
  refine z_iload_n (pc := 6) hO 3 dL_change_6 rfl rfl ?_
  refine z_callC (pc := 7) hO ht (E := eIS) [⟨0, 12, 15, 21⟩, ⟨0, 12, 19, 13⟩] ⟨0, 12, 23, 15⟩ [] rfl (fun z hz => by rcases List.mem_cons.mp hz with rfl | hz; exact ⟨by decide, eIO, wl_B, hN.1.2.1⟩; obtain rfl := List.mem_singleton.mp hz; exact ⟨by decide, eIA, wl_I, hN.1.2.2⟩) (by decide) (by decide) wl_S hN.2.2.2 (Or.inl rfl) hpY (As := [.int (zi a1), .int (zi a2), .int (zi a3)]) (st := [.int (zi 0), .ref (gA g 70)]) hM k_L_37 isO_0 rfl (Nat.le_of_ble_eq_true rfl) (by decide) (by decide) ⟨by decide, by decide⟩ dL_change_7 (fun v => ?_)
  refine z_astore (pc := 23) (lv' := [(5, .ref v), (0, .ref (gA g 0)), (1, .int (zi a1)), (2, .int (zi a2)), (3, .int (zi a3)), (4, .ref (gA g 70))]) hO dL_change_23 (by decide) rfl ?_
  refine z_iconst (pc := 25) hO dL_change_25 ?_
  exact z_iret (pc := 26) hO hr hQ rfl dL_change_26 ⟨rfl, rfl⟩
theorem w_L_same {l : Launch} {g : Gl} {x : Me} {a1 a2 : Int} (P : Int → Me → Prop) (hM : ctQ l g yX11_same cX11_same 4 (some .boolean) 6 135 (.ref (gA g 0) :: [.int (zi a1), .int (zi a2)]) x (QIu g P)) (hb : ∀ r y, P r y → r = 0 ∨ r = 1) : ctL l g yL_same cL_same 5 [(0, 17, 20, 21)] 7 158 0 0 [.ref (gA g 0), .int (zi a1), .int (zi a2), .ref (gA g 70)] x (QIu g (fun z x' => z = 0 ∧ ∃ r y, P r y ∧ x' = up y 70 0 r)) := by
  refine cl_start (own := RL) (lv := [(0, .ref (gA g 0)), (1, .int (zi a1)), (2, .int (zi a2)), (3, .ref (gA g 70))]) (by decide) rfl (Nat.le_of_ble_eq_true rfl) rfl ?_
  intro Γ hΓ hO hr hQ ht hN
  subst hΓ
  refine z_aload_n (pc := 0) hO 3 dL_same_0 rfl rfl ?_
  refine z_iconst (pc := 1) hO dL_same_1 ?_
  refine z_aload_n (pc := 2) hO 0 dL_same_2 rfl rfl ?_
  refine z_iload_n (pc := 3) hO 1 dL_same_3 rfl rfl ?_
  refine z_iload_n (pc := 4) hO 2 dL_same_4 rfl rfl ?_
  refine z_callVI (pc := 5) hO (As := [.int (zi a1), .int (zi a2)]) (st := [.int (zi 0), .ref (gA g 70)]) hM k_L_40 isO_0 rfl (Nat.le_of_ble_eq_true rfl) (by decide) (by decide) ⟨by decide, by decide⟩ dL_same_5 (fun r y hp => ?_)
  have hr01 := hb r y hp
  refine z_if_eq (pc := 8) hO (tgt := 15) dL_same_8 (by decide) (by omega) (fun b1 => ?_) (fun b1 => ?_)
  · refine z_lconst (pc := 15) (v := 0) hO dL_same_15 rfl ?_
    refine z_last (pc := 16) hO isL_70 (by decide) dL_same_16 (fun y2 hy2 => ?_)
    refine z_goto (pc := 17) (tgt := 24) hO dL_same_17 (by decide) ?_
    refine z_iconst (pc := 24) hO dL_same_24 ?_
    exact z_iret (pc := 25) hO hr hQ rfl dL_same_25 ⟨rfl, r, y, hp, by rw [b1]; exact hy2⟩
  · refine z_lconst (pc := 11) (v := 1) hO dL_same_11 rfl ?_
    refine z_goto (pc := 12) (tgt := 16) hO dL_same_12 (by decide) ?_
    refine z_last (pc := 16) hO isL_70 (by decide) dL_same_16 (fun y2 hy2 => ?_)
    refine z_goto (pc := 17) (tgt := 24) hO dL_same_17 (by decide) ?_
    refine z_iconst (pc := 24) hO dL_same_24 ?_
    exact z_iret (pc := 25) hO hr hQ rfl dL_same_25 ⟨rfl, r, y, hp, by rw [show r = 1 by omega]; exact hy2⟩
theorem v_L_same_1 {l : Launch} {g : Gl} {x : Me} {a1 a2 : Int} {pY : String → Prop} (hpY : ∀ E, pY E → E = eIO) (hM : cxQ l g yX11_same cX11_same 4 (some .boolean) 7 135 1 6 (.ref (gA g 0) :: [.int (zi a1), .int (zi a2)]) x (QIu g (fun _ _ => False)) pY) : ctL l g yL_same cL_same 5 [(0, 17, 20, 21)] 8 158 1 6 [.ref (gA g 0), .int (zi a1), .int (zi a2), .ref (gA g 70)] x (QIu g (fun z x' => z = 1 ∧ x' = x)) := by
  refine cl_start (own := RL) (lv := [(0, .ref (gA g 0)), (1, .int (zi a1)), (2, .int (zi a2)), (3, .ref (gA g 70))]) (by decide) rfl (Nat.le_of_ble_eq_true rfl) rfl ?_
  intro Γ hΓ hO hr hQ ht hN
  subst hΓ
  refine z_aload_n (pc := 0) hO 3 dL_same_0 rfl rfl ?_
  refine z_iconst (pc := 1) hO dL_same_1 ?_
  refine z_aload_n (pc := 2) hO 0 dL_same_2 rfl rfl ?_
  refine z_iload_n (pc := 3) hO 1 dL_same_3 rfl rfl ?_
  refine z_iload_n (pc := 4) hO 2 dL_same_4 rfl rfl ?_
  refine z_callC (pc := 5) hO ht (E := eIO) [] ⟨0, 17, 20, 21⟩ [] rfl (fun z hz => absurd hz List.not_mem_nil) (by decide) (by decide) wl_B hN.2.1 (Or.inl rfl) hpY (As := [.int (zi a1), .int (zi a2)]) (st := [.int (zi 0), .ref (gA g 70)]) hM k_L_40 isO_0 rfl (Nat.le_of_ble_eq_true rfl) (by decide) (by decide) ⟨by decide, by decide⟩ dL_same_5 (fun v => ?_)
  refine z_astore (pc := 20) (lv' := [(4, .ref v), (0, .ref (gA g 0)), (1, .int (zi a1)), (2, .int (zi a2)), (3, .ref (gA g 70))]) hO dL_same_20 (by decide) rfl ?_
  refine z_iconst (pc := 22) hO dL_same_22 ?_
  exact z_iret (pc := 23) hO hr hQ rfl dL_same_23 ⟨rfl, rfl⟩
theorem w_L_least {l : Launch} {g : Gl} {x : Me} {a1 a2 a3 : Int} (P : Int → Me → Prop) (hM : ctQ l g yX11_least cX11_least 5 (some .int) 6 137 (.ref (gA g 0) :: [.int (zi a1), .int (zi a2), .int (zi a3)]) x (QIu g P)) : ctL l g yL_least cL_least 6 [(0, 12, 15, 21)] 7 161 0 0 [.ref (gA g 0), .int (zi a1), .int (zi a2), .int (zi a3), .ref (gA g 70)] x (QIu g (fun z x' => z = 0 ∧ ∃ r y, P r y ∧ x' = up y 70 0 (zi r).toInt)) := by
  refine cl_start (own := RL) (lv := [(0, .ref (gA g 0)), (1, .int (zi a1)), (2, .int (zi a2)), (3, .int (zi a3)), (4, .ref (gA g 70))]) (by decide) rfl (Nat.le_of_ble_eq_true rfl) rfl ?_
  intro Γ hΓ hO hr hQ ht hN
  subst hΓ
  refine z_aload (pc := 0) hO 4 dL_least_0 rfl ?_
  refine z_iconst (pc := 2) hO dL_least_2 ?_
  refine z_aload_n (pc := 3) hO 0 dL_least_3 rfl rfl ?_
  refine z_iload_n (pc := 4) hO 1 dL_least_4 rfl rfl ?_
  refine z_iload_n (pc := 5) hO 2 dL_least_5 rfl rfl ?_
  refine z_iload_n (pc := 6) hO 3 dL_least_6 rfl rfl ?_
  refine z_callVI (pc := 7) hO (As := [.int (zi a1), .int (zi a2), .int (zi a3)]) (st := [.int (zi 0), .ref (gA g 70)]) hM k_L_44 isO_0 rfl (Nat.le_of_ble_eq_true rfl) (by decide) (by decide) ⟨by decide, by decide⟩ dL_least_7 (fun r y hp => ?_)
  refine z_i2lq (pc := 10) hO dL_least_10 ?_
  refine z_last (pc := 11) hO isL_70 (by decide) dL_least_11 (fun y2 hy2 => ?_)
  refine z_goto (pc := 12) (tgt := 19) hO dL_least_12 (by decide) ?_
  refine z_iconst (pc := 19) hO dL_least_19 ?_
  exact z_iret (pc := 20) hO hr hQ rfl dL_least_20 ⟨rfl, r, y, hp, hy2⟩
theorem v_L_least_1 {l : Launch} {g : Gl} {x : Me} {a1 a2 a3 : Int} {pY : String → Prop} (hpY : ∀ E, pY E → E = eIO) (hM : cxQ l g yX11_least cX11_least 5 (some .int) 7 137 1 6 (.ref (gA g 0) :: [.int (zi a1), .int (zi a2), .int (zi a3)]) x (QIu g (fun _ _ => False)) pY) : ctL l g yL_least cL_least 6 [(0, 12, 15, 21)] 8 161 1 6 [.ref (gA g 0), .int (zi a1), .int (zi a2), .int (zi a3), .ref (gA g 70)] x (QIu g (fun z x' => z = 1 ∧ x' = x)) := by
  refine cl_start (own := RL) (lv := [(0, .ref (gA g 0)), (1, .int (zi a1)), (2, .int (zi a2)), (3, .int (zi a3)), (4, .ref (gA g 70))]) (by decide) rfl (Nat.le_of_ble_eq_true rfl) rfl ?_
  intro Γ hΓ hO hr hQ ht hN
  subst hΓ
  refine z_aload (pc := 0) hO 4 dL_least_0 rfl ?_
  refine z_iconst (pc := 2) hO dL_least_2 ?_
  refine z_aload_n (pc := 3) hO 0 dL_least_3 rfl rfl ?_
  refine z_iload_n (pc := 4) hO 1 dL_least_4 rfl rfl ?_
  refine z_iload_n (pc := 5) hO 2 dL_least_5 rfl rfl ?_
  refine z_iload_n (pc := 6) hO 3 dL_least_6 rfl rfl ?_
  refine z_callC (pc := 7) hO ht (E := eIO) [] ⟨0, 12, 15, 21⟩ [] rfl (fun z hz => absurd hz List.not_mem_nil) (by decide) (by decide) wl_B hN.2.1 (Or.inl rfl) hpY (As := [.int (zi a1), .int (zi a2), .int (zi a3)]) (st := [.int (zi 0), .ref (gA g 70)]) hM k_L_44 isO_0 rfl (Nat.le_of_ble_eq_true rfl) (by decide) (by decide) ⟨by decide, by decide⟩ dL_least_7 (fun v => ?_)
  refine z_astore (pc := 15) (lv' := [(5, .ref v), (0, .ref (gA g 0)), (1, .int (zi a1)), (2, .int (zi a2)), (3, .int (zi a3)), (4, .ref (gA g 70))]) hO dL_least_15 (by decide) rfl ?_
  refine z_iconst (pc := 17) hO dL_least_17 ?_
  exact z_iret (pc := 18) hO hr hQ rfl dL_least_18 ⟨rfl, rfl⟩
theorem w_L_kin {l : Launch} {g : Gl} {x : Me} {a1 : Int} (P : Int → Me → Prop) (hM : ctQ l g yX11_kin cX11_kin 2 (some .int) 6 135 (.ref (gA g 0) :: [.int (zi a1)]) x (QIu g P)) : ctL l g yL_kin cL_kin 4 [(0, 9, 12, 21)] 7 156 0 0 [.ref (gA g 0), .int (zi a1), .ref (gA g 70)] x (QIu g (fun z x' => z = 0 ∧ ∃ r y, P r y ∧ x' = up y 70 0 (zi r).toInt)) := by
  refine cl_start (own := RL) (lv := [(0, .ref (gA g 0)), (1, .int (zi a1)), (2, .ref (gA g 70))]) (by decide) rfl (Nat.le_of_ble_eq_true rfl) rfl ?_
  intro Γ hΓ hO hr hQ ht hN
  subst hΓ
  refine z_aload_n (pc := 0) hO 2 dL_kin_0 rfl rfl ?_
  refine z_iconst (pc := 1) hO dL_kin_1 ?_
  refine z_aload_n (pc := 2) hO 0 dL_kin_2 rfl rfl ?_
  refine z_iload_n (pc := 3) hO 1 dL_kin_3 rfl rfl ?_
  refine z_callVI (pc := 4) hO (As := [.int (zi a1)]) (st := [.int (zi 0), .ref (gA g 70)]) hM k_L_47 isO_0 rfl (Nat.le_of_ble_eq_true rfl) (by decide) (by decide) ⟨by decide, by decide⟩ dL_kin_4 (fun r y hp => ?_)
  refine z_i2lq (pc := 7) hO dL_kin_7 ?_
  refine z_last (pc := 8) hO isL_70 (by decide) dL_kin_8 (fun y2 hy2 => ?_)
  refine z_goto (pc := 9) (tgt := 15) hO dL_kin_9 (by decide) ?_
  refine z_iconst (pc := 15) hO dL_kin_15 ?_
  exact z_iret (pc := 16) hO hr hQ rfl dL_kin_16 ⟨rfl, r, y, hp, hy2⟩
theorem v_L_kin_1 {l : Launch} {g : Gl} {x : Me} {a1 : Int} {pY : String → Prop} (hpY : ∀ E, pY E → E = eIO) (hM : cxQ l g yX11_kin cX11_kin 2 (some .int) 7 135 1 6 (.ref (gA g 0) :: [.int (zi a1)]) x (QIu g (fun _ _ => False)) pY) : ctL l g yL_kin cL_kin 4 [(0, 9, 12, 21)] 8 156 1 6 [.ref (gA g 0), .int (zi a1), .ref (gA g 70)] x (QIu g (fun z x' => z = 1 ∧ x' = x)) := by
  refine cl_start (own := RL) (lv := [(0, .ref (gA g 0)), (1, .int (zi a1)), (2, .ref (gA g 70))]) (by decide) rfl (Nat.le_of_ble_eq_true rfl) rfl ?_
  intro Γ hΓ hO hr hQ ht hN
  subst hΓ
  refine z_aload_n (pc := 0) hO 2 dL_kin_0 rfl rfl ?_
  refine z_iconst (pc := 1) hO dL_kin_1 ?_
  refine z_aload_n (pc := 2) hO 0 dL_kin_2 rfl rfl ?_
  refine z_iload_n (pc := 3) hO 1 dL_kin_3 rfl rfl ?_
  refine z_callC (pc := 4) hO ht (E := eIO) [] ⟨0, 9, 12, 21⟩ [] rfl (fun z hz => absurd hz List.not_mem_nil) (by decide) (by decide) wl_B hN.2.1 (Or.inl rfl) hpY (As := [.int (zi a1)]) (st := [.int (zi 0), .ref (gA g 70)]) hM k_L_47 isO_0 rfl (Nat.le_of_ble_eq_true rfl) (by decide) (by decide) ⟨by decide, by decide⟩ dL_kin_4 (fun v => ?_)
  refine z_astore_n (pc := 12) (lv' := [(3, .ref v), (0, .ref (gA g 0)), (1, .int (zi a1)), (2, .ref (gA g 70))]) hO dL_kin_12 rfl (by decide) rfl ?_
  refine z_iconst (pc := 13) hO dL_kin_13 ?_
  exact z_iret (pc := 14) hO hr hQ rfl dL_kin_14 ⟨rfl, rfl⟩
theorem w_L_completions {l : Launch} {g : Gl} {x : Me} {a1 : Int} (P : Int → Me → Prop) (hM : ctQ l g yX11_completions cX11_completions 3 (some .int) 63 1266 (.ref (gA g 0) :: [.int (zi a1)]) x (QIu g P)) : ctL l g yL_completions cL_completions 4 [(0, 9, 12, 21), (0, 9, 15, 15)] 64 1288 0 0 [.ref (gA g 0), .int (zi a1), .ref (gA g 70)] x (QIu g (fun z x' => z = 0 ∧ ∃ r y, P r y ∧ x' = up y 70 0 (zi r).toInt)) := by
  refine cl_start (own := RL) (lv := [(0, .ref (gA g 0)), (1, .int (zi a1)), (2, .ref (gA g 70))]) (by decide) rfl (Nat.le_of_ble_eq_true rfl) rfl ?_
  intro Γ hΓ hO hr hQ ht hN
  subst hΓ
  refine z_aload_n (pc := 0) hO 2 dL_completions_0 rfl rfl ?_
  refine z_iconst (pc := 1) hO dL_completions_1 ?_
  refine z_aload_n (pc := 2) hO 0 dL_completions_2 rfl rfl ?_
  refine z_iload_n (pc := 3) hO 1 dL_completions_3 rfl rfl ?_
  refine z_callVI (pc := 4) hO (As := [.int (zi a1)]) (st := [.int (zi 0), .ref (gA g 70)]) hM k_L_50 isO_0 rfl (Nat.le_of_ble_eq_true rfl) (by decide) (by decide) ⟨by decide, by decide⟩ dL_completions_4 (fun r y hp => ?_)
  refine z_i2lq (pc := 7) hO dL_completions_7 ?_
  refine z_last (pc := 8) hO isL_70 (by decide) dL_completions_8 (fun y2 hy2 => ?_)
  refine z_goto (pc := 9) (tgt := 18) hO dL_completions_9 (by decide) ?_
  refine z_iconst (pc := 18) hO dL_completions_18 ?_
  exact z_iret (pc := 19) hO hr hQ rfl dL_completions_19 ⟨rfl, r, y, hp, hy2⟩
theorem v_L_completions_1 {l : Launch} {g : Gl} {x : Me} {a1 : Int} {pY : String → Prop} (hpY : ∀ E, pY E → E = eIO) (hM : cxQ l g yX11_completions cX11_completions 3 (some .int) 63 1266 1 6 (.ref (gA g 0) :: [.int (zi a1)]) x (QIu g (fun _ _ => False)) pY) : ctL l g yL_completions cL_completions 4 [(0, 9, 12, 21), (0, 9, 15, 15)] 64 1288 1 6 [.ref (gA g 0), .int (zi a1), .ref (gA g 70)] x (QIu g (fun z x' => z = 1 ∧ x' = x)) := by
  refine cl_start (own := RL) (lv := [(0, .ref (gA g 0)), (1, .int (zi a1)), (2, .ref (gA g 70))]) (by decide) rfl (Nat.le_of_ble_eq_true rfl) rfl ?_
  intro Γ hΓ hO hr hQ ht hN
  subst hΓ
  refine z_aload_n (pc := 0) hO 2 dL_completions_0 rfl rfl ?_
  refine z_iconst (pc := 1) hO dL_completions_1 ?_
  refine z_aload_n (pc := 2) hO 0 dL_completions_2 rfl rfl ?_
  refine z_iload_n (pc := 3) hO 1 dL_completions_3 rfl rfl ?_
  refine z_callC (pc := 4) hO ht (E := eIO) [] ⟨0, 9, 12, 21⟩ [⟨0, 9, 15, 15⟩] rfl (fun z hz => absurd hz List.not_mem_nil) (by decide) (by decide) wl_B hN.2.1 (Or.inl rfl) hpY (As := [.int (zi a1)]) (st := [.int (zi 0), .ref (gA g 70)]) hM k_L_50 isO_0 rfl (Nat.le_of_ble_eq_true rfl) (by decide) (by decide) ⟨by decide, by decide⟩ dL_completions_4 (fun v => ?_)
  refine z_astore_n (pc := 12) (lv' := [(3, .ref v), (0, .ref (gA g 0)), (1, .int (zi a1)), (2, .ref (gA g 70))]) hO dL_completions_12 rfl (by decide) rfl ?_
  refine z_iconst (pc := 13) hO dL_completions_13 ?_
  exact z_iret (pc := 14) hO hr hQ rfl dL_completions_14 ⟨rfl, rfl⟩
theorem v_L_completions_2 {l : Launch} {g : Gl} {x : Me} {a1 : Int} {pY : String → Prop} (hpY : ∀ E, pY E → E = eIS) (hM : cxQ l g yX11_completions cX11_completions 3 (some .int) 63 1266 1 6 (.ref (gA g 0) :: [.int (zi a1)]) x (QIu g (fun _ _ => False)) pY) : ctL l g yL_completions cL_completions 4 [(0, 9, 12, 21), (0, 9, 15, 15)] 64 1288 1 6 [.ref (gA g 0), .int (zi a1), .ref (gA g 70)] x (QIu g (fun z x' => z = 2 ∧ x' = x)) := by
  refine cl_start (own := RL) (lv := [(0, .ref (gA g 0)), (1, .int (zi a1)), (2, .ref (gA g 70))]) (by decide) rfl (Nat.le_of_ble_eq_true rfl) rfl ?_
  intro Γ hΓ hO hr hQ ht hN
  subst hΓ
  refine z_aload_n (pc := 0) hO 2 dL_completions_0 rfl rfl ?_
  refine z_iconst (pc := 1) hO dL_completions_1 ?_
  refine z_aload_n (pc := 2) hO 0 dL_completions_2 rfl rfl ?_
  refine z_iload_n (pc := 3) hO 1 dL_completions_3 rfl rfl ?_
  refine z_callC (pc := 4) hO ht (E := eIS) [⟨0, 9, 12, 21⟩] ⟨0, 9, 15, 15⟩ [] rfl (fun z hz => by obtain rfl := List.mem_singleton.mp hz; exact ⟨by decide, eIO, wl_B, hN.1.2.1⟩) (by decide) (by decide) wl_S hN.2.2.2 (Or.inl rfl) hpY (As := [.int (zi a1)]) (st := [.int (zi 0), .ref (gA g 70)]) hM k_L_50 isO_0 rfl (Nat.le_of_ble_eq_true rfl) (by decide) (by decide) ⟨by decide, by decide⟩ dL_completions_4 (fun v => ?_)
  refine z_astore_n (pc := 15) (lv' := [(3, .ref v), (0, .ref (gA g 0)), (1, .int (zi a1)), (2, .ref (gA g 70))]) hO dL_completions_15 rfl (by decide) rfl ?_
  refine z_iconst (pc := 16) hO dL_completions_16 ?_
  exact z_iret (pc := 17) hO hr hQ rfl dL_completions_17 ⟨rfl, rfl⟩
theorem w_L_completion {l : Launch} {g : Gl} {x : Me} {a1 a2 a3 a4 : Int} (P : Int → Me → Prop) (hM : ctQ l g yX11_completion cX11_completion 6 (some .int) 63 1268 (.ref (gA g 0) :: [.int (zi a1), .int (zi a2), .int (zi a3), .int (zi a4)]) x (QIu g P)) : ctL l g yL_completion cL_completion 7 [(0, 14, 17, 21), (0, 14, 21, 13), (0, 14, 25, 15)] 64 1293 0 0 [.ref (gA g 0), .int (zi a1), .int (zi a2), .int (zi a3), .int (zi a4), .ref (gA g 70)] x (QIu g (fun z x' => z = 0 ∧ ∃ r y, P r y ∧ x' = up y 70 0 (zi r).toInt)) := by
  refine cl_start (own := RL) (lv := [(0, .ref (gA g 0)), (1, .int (zi a1)), (2, .int (zi a2)), (3, .int (zi a3)), (4, .int (zi a4)), (5, .ref (gA g 70))]) (by decide) rfl (Nat.le_of_ble_eq_true rfl) rfl ?_
  intro Γ hΓ hO hr hQ ht hN
  subst hΓ
  refine z_aload (pc := 0) hO 5 dL_completion_0 rfl ?_
  refine z_iconst (pc := 2) hO dL_completion_2 ?_
  refine z_aload_n (pc := 3) hO 0 dL_completion_3 rfl rfl ?_
  refine z_iload_n (pc := 4) hO 1 dL_completion_4 rfl rfl ?_
  refine z_iload_n (pc := 5) hO 2 dL_completion_5 rfl rfl ?_
  refine z_iload_n (pc := 6) hO 3 dL_completion_6 rfl rfl ?_
  refine z_iload (pc := 7) hO 4 dL_completion_7 rfl ?_
  refine z_callVI (pc := 9) hO (As := [.int (zi a1), .int (zi a2), .int (zi a3), .int (zi a4)]) (st := [.int (zi 0), .ref (gA g 70)]) hM k_L_53 isO_0 rfl (Nat.le_of_ble_eq_true rfl) (by decide) (by decide) ⟨by decide, by decide⟩ dL_completion_9 (fun r y hp => ?_)
  refine z_i2lq (pc := 12) hO dL_completion_12 ?_
  refine z_last (pc := 13) hO isL_70 (by decide) dL_completion_13 (fun y2 hy2 => ?_)
  refine z_goto (pc := 14) (tgt := 29) hO dL_completion_14 (by decide) ?_
  refine z_iconst (pc := 29) hO dL_completion_29 ?_
  exact z_iret (pc := 30) hO hr hQ rfl dL_completion_30 ⟨rfl, r, y, hp, hy2⟩
theorem v_L_completion_1 {l : Launch} {g : Gl} {x : Me} {a1 a2 a3 a4 : Int} {pY : String → Prop} (hpY : ∀ E, pY E → E = eIO) (hM : cxQ l g yX11_completion cX11_completion 6 (some .int) 63 1268 1 6 (.ref (gA g 0) :: [.int (zi a1), .int (zi a2), .int (zi a3), .int (zi a4)]) x (QIu g (fun _ _ => False)) pY) : ctL l g yL_completion cL_completion 7 [(0, 14, 17, 21), (0, 14, 21, 13), (0, 14, 25, 15)] 64 1293 1 6 [.ref (gA g 0), .int (zi a1), .int (zi a2), .int (zi a3), .int (zi a4), .ref (gA g 70)] x (QIu g (fun z x' => z = 1 ∧ x' = x)) := by
  refine cl_start (own := RL) (lv := [(0, .ref (gA g 0)), (1, .int (zi a1)), (2, .int (zi a2)), (3, .int (zi a3)), (4, .int (zi a4)), (5, .ref (gA g 70))]) (by decide) rfl (Nat.le_of_ble_eq_true rfl) rfl ?_
  intro Γ hΓ hO hr hQ ht hN
  subst hΓ
  refine z_aload (pc := 0) hO 5 dL_completion_0 rfl ?_
  refine z_iconst (pc := 2) hO dL_completion_2 ?_
  refine z_aload_n (pc := 3) hO 0 dL_completion_3 rfl rfl ?_
  refine z_iload_n (pc := 4) hO 1 dL_completion_4 rfl rfl ?_
  refine z_iload_n (pc := 5) hO 2 dL_completion_5 rfl rfl ?_
  refine z_iload_n (pc := 6) hO 3 dL_completion_6 rfl rfl ?_
  refine z_iload (pc := 7) hO 4 dL_completion_7 rfl ?_
  refine z_callC (pc := 9) hO ht (E := eIO) [] ⟨0, 14, 17, 21⟩ [⟨0, 14, 21, 13⟩, ⟨0, 14, 25, 15⟩] rfl (fun z hz => absurd hz List.not_mem_nil) (by decide) (by decide) wl_B hN.2.1 (Or.inl rfl) hpY (As := [.int (zi a1), .int (zi a2), .int (zi a3), .int (zi a4)]) (st := [.int (zi 0), .ref (gA g 70)]) hM k_L_53 isO_0 rfl (Nat.le_of_ble_eq_true rfl) (by decide) (by decide) ⟨by decide, by decide⟩ dL_completion_9 (fun v => ?_)
  refine z_astore (pc := 17) (lv' := [(6, .ref v), (0, .ref (gA g 0)), (1, .int (zi a1)), (2, .int (zi a2)), (3, .int (zi a3)), (4, .int (zi a4)), (5, .ref (gA g 70))]) hO dL_completion_17 (by decide) rfl ?_
  refine z_iconst (pc := 19) hO dL_completion_19 ?_
  exact z_iret (pc := 20) hO hr hQ rfl dL_completion_20 ⟨rfl, rfl⟩
theorem v_L_completion_2 {l : Launch} {g : Gl} {x : Me} {a1 a2 a3 a4 : Int} {pY : String → Prop} (hpY : ∀ E, pY E → E = eIA) (hM : cxQ l g yX11_completion cX11_completion 6 (some .int) 63 1268 1 6 (.ref (gA g 0) :: [.int (zi a1), .int (zi a2), .int (zi a3), .int (zi a4)]) x (QIu g (fun _ _ => False)) pY) : ctL l g yL_completion cL_completion 7 [(0, 14, 17, 21), (0, 14, 21, 13), (0, 14, 25, 15)] 64 1293 1 6 [.ref (gA g 0), .int (zi a1), .int (zi a2), .int (zi a3), .int (zi a4), .ref (gA g 70)] x (QIu g (fun z x' => z = 2 ∧ x' = x)) := by
  refine cl_start (own := RL) (lv := [(0, .ref (gA g 0)), (1, .int (zi a1)), (2, .int (zi a2)), (3, .int (zi a3)), (4, .int (zi a4)), (5, .ref (gA g 70))]) (by decide) rfl (Nat.le_of_ble_eq_true rfl) rfl ?_
  intro Γ hΓ hO hr hQ ht hN
  subst hΓ
  refine z_aload (pc := 0) hO 5 dL_completion_0 rfl ?_
  refine z_iconst (pc := 2) hO dL_completion_2 ?_
  refine z_aload_n (pc := 3) hO 0 dL_completion_3 rfl rfl ?_
  refine z_iload_n (pc := 4) hO 1 dL_completion_4 rfl rfl ?_
  refine z_iload_n (pc := 5) hO 2 dL_completion_5 rfl rfl ?_
  refine z_iload_n (pc := 6) hO 3 dL_completion_6 rfl rfl ?_
  refine z_iload (pc := 7) hO 4 dL_completion_7 rfl ?_
  refine z_callC (pc := 9) hO ht (E := eIA) [⟨0, 14, 17, 21⟩] ⟨0, 14, 21, 13⟩ [⟨0, 14, 25, 15⟩] rfl (fun z hz => by obtain rfl := List.mem_singleton.mp hz; exact ⟨by decide, eIO, wl_B, hN.1.1⟩) (by decide) (by decide) wl_I hN.2.2.1 (Or.inl rfl) hpY (As := [.int (zi a1), .int (zi a2), .int (zi a3), .int (zi a4)]) (st := [.int (zi 0), .ref (gA g 70)]) hM k_L_53 isO_0 rfl (Nat.le_of_ble_eq_true rfl) (by decide) (by decide) ⟨by decide, by decide⟩ dL_completion_9 (fun v => ?_)
  refine z_astore (pc := 21) (lv' := [(6, .ref v), (0, .ref (gA g 0)), (1, .int (zi a1)), (2, .int (zi a2)), (3, .int (zi a3)), (4, .int (zi a4)), (5, .ref (gA g 70))]) hO dL_completion_21 (by decide) rfl ?_
  refine z_iconst (pc := 23) hO dL_completion_23 ?_
  exact z_iret (pc := 24) hO hr hQ rfl dL_completion_24 ⟨rfl, rfl⟩
theorem v_L_completion_3 {l : Launch} {g : Gl} {x : Me} {a1 a2 a3 a4 : Int} {pY : String → Prop} (hpY : ∀ E, pY E → E = eIS) (hM : cxQ l g yX11_completion cX11_completion 6 (some .int) 63 1268 1 6 (.ref (gA g 0) :: [.int (zi a1), .int (zi a2), .int (zi a3), .int (zi a4)]) x (QIu g (fun _ _ => False)) pY) : ctL l g yL_completion cL_completion 7 [(0, 14, 17, 21), (0, 14, 21, 13), (0, 14, 25, 15)] 64 1293 1 6 [.ref (gA g 0), .int (zi a1), .int (zi a2), .int (zi a3), .int (zi a4), .ref (gA g 70)] x (QIu g (fun z x' => z = 3 ∧ x' = x)) := by
  refine cl_start (own := RL) (lv := [(0, .ref (gA g 0)), (1, .int (zi a1)), (2, .int (zi a2)), (3, .int (zi a3)), (4, .int (zi a4)), (5, .ref (gA g 70))]) (by decide) rfl (Nat.le_of_ble_eq_true rfl) rfl ?_
  intro Γ hΓ hO hr hQ ht hN
  subst hΓ
  refine z_aload (pc := 0) hO 5 dL_completion_0 rfl ?_
  refine z_iconst (pc := 2) hO dL_completion_2 ?_
  refine z_aload_n (pc := 3) hO 0 dL_completion_3 rfl rfl ?_
  refine z_iload_n (pc := 4) hO 1 dL_completion_4 rfl rfl ?_
  refine z_iload_n (pc := 5) hO 2 dL_completion_5 rfl rfl ?_
  refine z_iload_n (pc := 6) hO 3 dL_completion_6 rfl rfl ?_
  refine z_iload (pc := 7) hO 4 dL_completion_7 rfl ?_
  refine z_callC (pc := 9) hO ht (E := eIS) [⟨0, 14, 17, 21⟩, ⟨0, 14, 21, 13⟩] ⟨0, 14, 25, 15⟩ [] rfl (fun z hz => by rcases List.mem_cons.mp hz with rfl | hz; exact ⟨by decide, eIO, wl_B, hN.1.2.1⟩; obtain rfl := List.mem_singleton.mp hz; exact ⟨by decide, eIA, wl_I, hN.1.2.2⟩) (by decide) (by decide) wl_S hN.2.2.2 (Or.inl rfl) hpY (As := [.int (zi a1), .int (zi a2), .int (zi a3), .int (zi a4)]) (st := [.int (zi 0), .ref (gA g 70)]) hM k_L_53 isO_0 rfl (Nat.le_of_ble_eq_true rfl) (by decide) (by decide) ⟨by decide, by decide⟩ dL_completion_9 (fun v => ?_)
  refine z_astore (pc := 25) (lv' := [(6, .ref v), (0, .ref (gA g 0)), (1, .int (zi a1)), (2, .int (zi a2)), (3, .int (zi a3)), (4, .int (zi a4)), (5, .ref (gA g 70))]) hO dL_completion_25 (by decide) rfl ?_
  refine z_iconst (pc := 27) hO dL_completion_27 ?_
  exact z_iret (pc := 28) hO hr hQ rfl dL_completion_28 ⟨rfl, rfl⟩
theorem w_L_estimate {l : Launch} {g : Gl} {x : Me} {a1 a2 : Int} (P : Int → Me → Prop) (hM : ctQ l g yX11_estimate cX11_estimate 4 (some .long) 5 119 (.ref (gA g 0) :: [.int (zi a1), .int (zi a2)]) x (QLu g P)) : ctL l g yL_estimate cL_estimate 5 [(0, 9, 12, 21), (0, 9, 16, 13), (0, 9, 20, 15)] 6 142 0 0 [.ref (gA g 0), .int (zi a1), .int (zi a2), .ref (gA g 70)] x (QIu g (fun z x' => z = 0 ∧ ∃ r y, P r y ∧ x' = up y 70 0 r)) := by
  refine cl_start (own := RL) (lv := [(0, .ref (gA g 0)), (1, .int (zi a1)), (2, .int (zi a2)), (3, .ref (gA g 70))]) (by decide) rfl (Nat.le_of_ble_eq_true rfl) rfl ?_
  intro Γ hΓ hO hr hQ ht hN
  subst hΓ
  refine z_aload_n (pc := 0) hO 3 dL_estimate_0 rfl rfl ?_
  refine z_iconst (pc := 1) hO dL_estimate_1 ?_
  refine z_aload_n (pc := 2) hO 0 dL_estimate_2 rfl rfl ?_
  refine z_iload_n (pc := 3) hO 1 dL_estimate_3 rfl rfl ?_
  refine z_iload_n (pc := 4) hO 2 dL_estimate_4 rfl rfl ?_
  refine z_callVL (pc := 5) hO (As := [.int (zi a1), .int (zi a2)]) (st := [.int (zi 0), .ref (gA g 70)]) hM k_L_56 isO_0 rfl (Nat.le_of_ble_eq_true rfl) (by decide) (by decide) ⟨by decide, by decide⟩ dL_estimate_5 (fun r y hp => ?_)
  refine z_last (pc := 8) hO isL_70 (by decide) dL_estimate_8 (fun y2 hy2 => ?_)
  refine z_goto (pc := 9) (tgt := 24) hO dL_estimate_9 (by decide) ?_
  refine z_iconst (pc := 24) hO dL_estimate_24 ?_
  exact z_iret (pc := 25) hO hr hQ rfl dL_estimate_25 ⟨rfl, r, y, hp, hy2⟩
theorem v_L_estimate_1 {l : Launch} {g : Gl} {x : Me} {a1 a2 : Int} {pY : String → Prop} (hpY : ∀ E, pY E → E = eIO) (hM : cxQ l g yX11_estimate cX11_estimate 4 (some .long) 7 122 1 6 (.ref (gA g 0) :: [.int (zi a1), .int (zi a2)]) x (QLu g (fun _ _ => False)) pY) : ctL l g yL_estimate cL_estimate 5 [(0, 9, 12, 21), (0, 9, 16, 13), (0, 9, 20, 15)] 8 145 1 6 [.ref (gA g 0), .int (zi a1), .int (zi a2), .ref (gA g 70)] x (QIu g (fun z x' => z = 1 ∧ x' = x)) := by
  refine cl_start (own := RL) (lv := [(0, .ref (gA g 0)), (1, .int (zi a1)), (2, .int (zi a2)), (3, .ref (gA g 70))]) (by decide) rfl (Nat.le_of_ble_eq_true rfl) rfl ?_
  intro Γ hΓ hO hr hQ ht hN
  subst hΓ
  refine z_aload_n (pc := 0) hO 3 dL_estimate_0 rfl rfl ?_
  refine z_iconst (pc := 1) hO dL_estimate_1 ?_
  refine z_aload_n (pc := 2) hO 0 dL_estimate_2 rfl rfl ?_
  refine z_iload_n (pc := 3) hO 1 dL_estimate_3 rfl rfl ?_
  refine z_iload_n (pc := 4) hO 2 dL_estimate_4 rfl rfl ?_
  refine z_callC (pc := 5) hO ht (E := eIO) [] ⟨0, 9, 12, 21⟩ [⟨0, 9, 16, 13⟩, ⟨0, 9, 20, 15⟩] rfl (fun z hz => absurd hz List.not_mem_nil) (by decide) (by decide) wl_B hN.2.1 (Or.inr rfl) hpY (As := [.int (zi a1), .int (zi a2)]) (st := [.int (zi 0), .ref (gA g 70)]) hM k_L_56 isO_0 rfl (Nat.le_of_ble_eq_true rfl) (by decide) (by decide) ⟨by decide, by decide⟩ dL_estimate_5 (fun v => ?_)
  refine z_astore (pc := 12) (lv' := [(4, .ref v), (0, .ref (gA g 0)), (1, .int (zi a1)), (2, .int (zi a2)), (3, .ref (gA g 70))]) hO dL_estimate_12 (by decide) rfl ?_
  refine z_iconst (pc := 14) hO dL_estimate_14 ?_
  exact z_iret (pc := 15) hO hr hQ rfl dL_estimate_15 ⟨rfl, rfl⟩
theorem v_L_estimate_2 {l : Launch} {g : Gl} {x : Me} {a1 a2 : Int} {pY : String → Prop} (hpY : ∀ E, pY E → E = eIA) (hM : cxQ l g yX11_estimate cX11_estimate 4 (some .long) 7 122 1 6 (.ref (gA g 0) :: [.int (zi a1), .int (zi a2)]) x (QLu g (fun _ _ => False)) pY) : ctL l g yL_estimate cL_estimate 5 [(0, 9, 12, 21), (0, 9, 16, 13), (0, 9, 20, 15)] 8 145 1 6 [.ref (gA g 0), .int (zi a1), .int (zi a2), .ref (gA g 70)] x (QIu g (fun z x' => z = 2 ∧ x' = x)) := by
  refine cl_start (own := RL) (lv := [(0, .ref (gA g 0)), (1, .int (zi a1)), (2, .int (zi a2)), (3, .ref (gA g 70))]) (by decide) rfl (Nat.le_of_ble_eq_true rfl) rfl ?_
  intro Γ hΓ hO hr hQ ht hN
  subst hΓ
  refine z_aload_n (pc := 0) hO 3 dL_estimate_0 rfl rfl ?_
  refine z_iconst (pc := 1) hO dL_estimate_1 ?_
  refine z_aload_n (pc := 2) hO 0 dL_estimate_2 rfl rfl ?_
  refine z_iload_n (pc := 3) hO 1 dL_estimate_3 rfl rfl ?_
  refine z_iload_n (pc := 4) hO 2 dL_estimate_4 rfl rfl ?_
  refine z_callC (pc := 5) hO ht (E := eIA) [⟨0, 9, 12, 21⟩] ⟨0, 9, 16, 13⟩ [⟨0, 9, 20, 15⟩] rfl (fun z hz => by obtain rfl := List.mem_singleton.mp hz; exact ⟨by decide, eIO, wl_B, hN.1.1⟩) (by decide) (by decide) wl_I hN.2.2.1 (Or.inr rfl) hpY (As := [.int (zi a1), .int (zi a2)]) (st := [.int (zi 0), .ref (gA g 70)]) hM k_L_56 isO_0 rfl (Nat.le_of_ble_eq_true rfl) (by decide) (by decide) ⟨by decide, by decide⟩ dL_estimate_5 (fun v => ?_)
  refine z_astore (pc := 16) (lv' := [(4, .ref v), (0, .ref (gA g 0)), (1, .int (zi a1)), (2, .int (zi a2)), (3, .ref (gA g 70))]) hO dL_estimate_16 (by decide) rfl ?_
  refine z_iconst (pc := 18) hO dL_estimate_18 ?_
  exact z_iret (pc := 19) hO hr hQ rfl dL_estimate_19 ⟨rfl, rfl⟩
theorem v_L_estimate_3 {l : Launch} {g : Gl} {x : Me} {a1 a2 : Int} {pY : String → Prop} (hpY : ∀ E, pY E → E = eIS) (hM : cxQ l g yX11_estimate cX11_estimate 4 (some .long) 7 122 1 6 (.ref (gA g 0) :: [.int (zi a1), .int (zi a2)]) x (QLu g (fun _ _ => False)) pY) : ctL l g yL_estimate cL_estimate 5 [(0, 9, 12, 21), (0, 9, 16, 13), (0, 9, 20, 15)] 8 145 1 6 [.ref (gA g 0), .int (zi a1), .int (zi a2), .ref (gA g 70)] x (QIu g (fun z x' => z = 3 ∧ x' = x)) := by
  refine cl_start (own := RL) (lv := [(0, .ref (gA g 0)), (1, .int (zi a1)), (2, .int (zi a2)), (3, .ref (gA g 70))]) (by decide) rfl (Nat.le_of_ble_eq_true rfl) rfl ?_
  intro Γ hΓ hO hr hQ ht hN
  subst hΓ
  refine z_aload_n (pc := 0) hO 3 dL_estimate_0 rfl rfl ?_
  refine z_iconst (pc := 1) hO dL_estimate_1 ?_
  refine z_aload_n (pc := 2) hO 0 dL_estimate_2 rfl rfl ?_
  refine z_iload_n (pc := 3) hO 1 dL_estimate_3 rfl rfl ?_
  refine z_iload_n (pc := 4) hO 2 dL_estimate_4 rfl rfl ?_
  refine z_callC (pc := 5) hO ht (E := eIS) [⟨0, 9, 12, 21⟩, ⟨0, 9, 16, 13⟩] ⟨0, 9, 20, 15⟩ [] rfl (fun z hz => by rcases List.mem_cons.mp hz with rfl | hz; exact ⟨by decide, eIO, wl_B, hN.1.2.1⟩; obtain rfl := List.mem_singleton.mp hz; exact ⟨by decide, eIA, wl_I, hN.1.2.2⟩) (by decide) (by decide) wl_S hN.2.2.2 (Or.inr rfl) hpY (As := [.int (zi a1), .int (zi a2)]) (st := [.int (zi 0), .ref (gA g 70)]) hM k_L_56 isO_0 rfl (Nat.le_of_ble_eq_true rfl) (by decide) (by decide) ⟨by decide, by decide⟩ dL_estimate_5 (fun v => ?_)
  refine z_astore (pc := 20) (lv' := [(4, .ref v), (0, .ref (gA g 0)), (1, .int (zi a1)), (2, .int (zi a2)), (3, .ref (gA g 70))]) hO dL_estimate_20 (by decide) rfl ?_
  refine z_iconst (pc := 22) hO dL_estimate_22 ?_
  exact z_iret (pc := 23) hO hr hQ rfl dL_estimate_23 ⟨rfl, rfl⟩
theorem w_L_givens {l : Launch} {g : Gl} {x : Me} {a1 a2 : Int} (P : Int → Me → Prop) (hM : ctQ l g yX11_givens cX11_givens 5 (some .int) 6 137 (.ref (gA g 0) :: [.int (zi a1), .int (zi a2)]) x (QIu g P)) : ctL l g yL_givens cL_givens 5 [(0, 10, 13, 21), (0, 10, 17, 15)] 7 161 0 0 [.ref (gA g 0), .int (zi a1), .int (zi a2), .ref (gA g 70)] x (QIu g (fun z x' => z = 0 ∧ ∃ r y, P r y ∧ x' = up y 70 0 (zi r).toInt)) := by
  refine cl_start (own := RL) (lv := [(0, .ref (gA g 0)), (1, .int (zi a1)), (2, .int (zi a2)), (3, .ref (gA g 70))]) (by decide) rfl (Nat.le_of_ble_eq_true rfl) rfl ?_
  intro Γ hΓ hO hr hQ ht hN
  subst hΓ
  refine z_aload_n (pc := 0) hO 3 dL_givens_0 rfl rfl ?_
  refine z_iconst (pc := 1) hO dL_givens_1 ?_
  refine z_aload_n (pc := 2) hO 0 dL_givens_2 rfl rfl ?_
  refine z_iload_n (pc := 3) hO 1 dL_givens_3 rfl rfl ?_
  refine z_iload_n (pc := 4) hO 2 dL_givens_4 rfl rfl ?_
  refine z_callVI (pc := 5) hO (As := [.int (zi a1), .int (zi a2)]) (st := [.int (zi 0), .ref (gA g 70)]) hM k_L_60 isO_0 rfl (Nat.le_of_ble_eq_true rfl) (by decide) (by decide) ⟨by decide, by decide⟩ dL_givens_5 (fun r y hp => ?_)
  refine z_i2lq (pc := 8) hO dL_givens_8 ?_
  refine z_last (pc := 9) hO isL_70 (by decide) dL_givens_9 (fun y2 hy2 => ?_)
  refine z_goto (pc := 10) (tgt := 21) hO dL_givens_10 (by decide) ?_
  refine z_iconst (pc := 21) hO dL_givens_21 ?_
  exact z_iret (pc := 22) hO hr hQ rfl dL_givens_22 ⟨rfl, r, y, hp, hy2⟩
theorem v_L_givens_1 {l : Launch} {g : Gl} {x : Me} {a1 a2 : Int} {pY : String → Prop} (hpY : ∀ E, pY E → E = eIO) (hM : cxQ l g yX11_givens cX11_givens 5 (some .int) 7 137 1 6 (.ref (gA g 0) :: [.int (zi a1), .int (zi a2)]) x (QIu g (fun _ _ => False)) pY) : ctL l g yL_givens cL_givens 5 [(0, 10, 13, 21), (0, 10, 17, 15)] 8 161 1 6 [.ref (gA g 0), .int (zi a1), .int (zi a2), .ref (gA g 70)] x (QIu g (fun z x' => z = 1 ∧ x' = x)) := by
  refine cl_start (own := RL) (lv := [(0, .ref (gA g 0)), (1, .int (zi a1)), (2, .int (zi a2)), (3, .ref (gA g 70))]) (by decide) rfl (Nat.le_of_ble_eq_true rfl) rfl ?_
  intro Γ hΓ hO hr hQ ht hN
  subst hΓ
  refine z_aload_n (pc := 0) hO 3 dL_givens_0 rfl rfl ?_
  refine z_iconst (pc := 1) hO dL_givens_1 ?_
  refine z_aload_n (pc := 2) hO 0 dL_givens_2 rfl rfl ?_
  refine z_iload_n (pc := 3) hO 1 dL_givens_3 rfl rfl ?_
  refine z_iload_n (pc := 4) hO 2 dL_givens_4 rfl rfl ?_
  refine z_callC (pc := 5) hO ht (E := eIO) [] ⟨0, 10, 13, 21⟩ [⟨0, 10, 17, 15⟩] rfl (fun z hz => absurd hz List.not_mem_nil) (by decide) (by decide) wl_B hN.2.1 (Or.inl rfl) hpY (As := [.int (zi a1), .int (zi a2)]) (st := [.int (zi 0), .ref (gA g 70)]) hM k_L_60 isO_0 rfl (Nat.le_of_ble_eq_true rfl) (by decide) (by decide) ⟨by decide, by decide⟩ dL_givens_5 (fun v => ?_)
  refine z_astore (pc := 13) (lv' := [(4, .ref v), (0, .ref (gA g 0)), (1, .int (zi a1)), (2, .int (zi a2)), (3, .ref (gA g 70))]) hO dL_givens_13 (by decide) rfl ?_
  refine z_iconst (pc := 15) hO dL_givens_15 ?_
  exact z_iret (pc := 16) hO hr hQ rfl dL_givens_16 ⟨rfl, rfl⟩
theorem v_L_givens_2 {l : Launch} {g : Gl} {x : Me} {a1 a2 : Int} {pY : String → Prop} (hpY : ∀ E, pY E → E = eIS) (hM : cxQ l g yX11_givens cX11_givens 5 (some .int) 7 137 1 6 (.ref (gA g 0) :: [.int (zi a1), .int (zi a2)]) x (QIu g (fun _ _ => False)) pY) : ctL l g yL_givens cL_givens 5 [(0, 10, 13, 21), (0, 10, 17, 15)] 8 161 1 6 [.ref (gA g 0), .int (zi a1), .int (zi a2), .ref (gA g 70)] x (QIu g (fun z x' => z = 2 ∧ x' = x)) := by
  refine cl_start (own := RL) (lv := [(0, .ref (gA g 0)), (1, .int (zi a1)), (2, .int (zi a2)), (3, .ref (gA g 70))]) (by decide) rfl (Nat.le_of_ble_eq_true rfl) rfl ?_
  intro Γ hΓ hO hr hQ ht hN
  subst hΓ
  refine z_aload_n (pc := 0) hO 3 dL_givens_0 rfl rfl ?_
  refine z_iconst (pc := 1) hO dL_givens_1 ?_
  refine z_aload_n (pc := 2) hO 0 dL_givens_2 rfl rfl ?_
  refine z_iload_n (pc := 3) hO 1 dL_givens_3 rfl rfl ?_
  refine z_iload_n (pc := 4) hO 2 dL_givens_4 rfl rfl ?_
  refine z_callC (pc := 5) hO ht (E := eIS) [⟨0, 10, 13, 21⟩] ⟨0, 10, 17, 15⟩ [] rfl (fun z hz => by obtain rfl := List.mem_singleton.mp hz; exact ⟨by decide, eIO, wl_B, hN.1.2.1⟩) (by decide) (by decide) wl_S hN.2.2.2 (Or.inl rfl) hpY (As := [.int (zi a1), .int (zi a2)]) (st := [.int (zi 0), .ref (gA g 70)]) hM k_L_60 isO_0 rfl (Nat.le_of_ble_eq_true rfl) (by decide) (by decide) ⟨by decide, by decide⟩ dL_givens_5 (fun v => ?_)
  refine z_astore (pc := 17) (lv' := [(4, .ref v), (0, .ref (gA g 0)), (1, .int (zi a1)), (2, .int (zi a2)), (3, .ref (gA g 70))]) hO dL_givens_17 (by decide) rfl ?_
  refine z_iconst (pc := 19) hO dL_givens_19 ?_
  exact z_iret (pc := 20) hO hr hQ rfl dL_givens_20 ⟨rfl, rfl⟩
theorem w_L_slip {l : Launch} {g : Gl} {x : Me} {a1 a2 : Int} (P : Int → Me → Prop) (hM : ctQ l g yX11_slip cX11_slip 4 (some .int) 7 161 (.ref (gA g 0) :: [.int (zi a1), .int (zi a2)]) x (QIu g P)) : ctL l g yL_slip cL_slip 5 [(0, 10, 13, 21), (0, 10, 17, 13)] 8 184 0 0 [.ref (gA g 0), .int (zi a1), .int (zi a2), .ref (gA g 70)] x (QIu g (fun z x' => z = 0 ∧ ∃ r y, P r y ∧ x' = up y 70 0 (zi r).toInt)) := by
  refine cl_start (own := RL) (lv := [(0, .ref (gA g 0)), (1, .int (zi a1)), (2, .int (zi a2)), (3, .ref (gA g 70))]) (by decide) rfl (Nat.le_of_ble_eq_true rfl) rfl ?_
  intro Γ hΓ hO hr hQ ht hN
  subst hΓ
  refine z_aload_n (pc := 0) hO 3 dL_slip_0 rfl rfl ?_
  refine z_iconst (pc := 1) hO dL_slip_1 ?_
  refine z_aload_n (pc := 2) hO 0 dL_slip_2 rfl rfl ?_
  refine z_iload_n (pc := 3) hO 1 dL_slip_3 rfl rfl ?_
  refine z_iload_n (pc := 4) hO 2 dL_slip_4 rfl rfl ?_
  refine z_callVI (pc := 5) hO (As := [.int (zi a1), .int (zi a2)]) (st := [.int (zi 0), .ref (gA g 70)]) hM k_L_64 isO_0 rfl (Nat.le_of_ble_eq_true rfl) (by decide) (by decide) ⟨by decide, by decide⟩ dL_slip_5 (fun r y hp => ?_)
  refine z_i2lq (pc := 8) hO dL_slip_8 ?_
  refine z_last (pc := 9) hO isL_70 (by decide) dL_slip_9 (fun y2 hy2 => ?_)
  refine z_goto (pc := 10) (tgt := 21) hO dL_slip_10 (by decide) ?_
  refine z_iconst (pc := 21) hO dL_slip_21 ?_
  exact z_iret (pc := 22) hO hr hQ rfl dL_slip_22 ⟨rfl, r, y, hp, hy2⟩
theorem v_L_slip_1 {l : Launch} {g : Gl} {x : Me} {a1 a2 : Int} {pY : String → Prop} (hpY : ∀ E, pY E → E = eIO) (hM : cxQ l g yX11_slip cX11_slip 4 (some .int) 7 161 1 6 (.ref (gA g 0) :: [.int (zi a1), .int (zi a2)]) x (QIu g (fun _ _ => False)) pY) : ctL l g yL_slip cL_slip 5 [(0, 10, 13, 21), (0, 10, 17, 13)] 8 184 1 6 [.ref (gA g 0), .int (zi a1), .int (zi a2), .ref (gA g 70)] x (QIu g (fun z x' => z = 1 ∧ x' = x)) := by
  refine cl_start (own := RL) (lv := [(0, .ref (gA g 0)), (1, .int (zi a1)), (2, .int (zi a2)), (3, .ref (gA g 70))]) (by decide) rfl (Nat.le_of_ble_eq_true rfl) rfl ?_
  intro Γ hΓ hO hr hQ ht hN
  subst hΓ
  refine z_aload_n (pc := 0) hO 3 dL_slip_0 rfl rfl ?_
  refine z_iconst (pc := 1) hO dL_slip_1 ?_
  refine z_aload_n (pc := 2) hO 0 dL_slip_2 rfl rfl ?_
  refine z_iload_n (pc := 3) hO 1 dL_slip_3 rfl rfl ?_
  refine z_iload_n (pc := 4) hO 2 dL_slip_4 rfl rfl ?_
  refine z_callC (pc := 5) hO ht (E := eIO) [] ⟨0, 10, 13, 21⟩ [⟨0, 10, 17, 13⟩] rfl (fun z hz => absurd hz List.not_mem_nil) (by decide) (by decide) wl_B hN.2.1 (Or.inl rfl) hpY (As := [.int (zi a1), .int (zi a2)]) (st := [.int (zi 0), .ref (gA g 70)]) hM k_L_64 isO_0 rfl (Nat.le_of_ble_eq_true rfl) (by decide) (by decide) ⟨by decide, by decide⟩ dL_slip_5 (fun v => ?_)
  refine z_astore (pc := 13) (lv' := [(4, .ref v), (0, .ref (gA g 0)), (1, .int (zi a1)), (2, .int (zi a2)), (3, .ref (gA g 70))]) hO dL_slip_13 (by decide) rfl ?_
  refine z_iconst (pc := 15) hO dL_slip_15 ?_
  exact z_iret (pc := 16) hO hr hQ rfl dL_slip_16 ⟨rfl, rfl⟩
theorem v_L_slip_2 {l : Launch} {g : Gl} {x : Me} {a1 a2 : Int} {pY : String → Prop} (hpY : ∀ E, pY E → E = eIA) (hM : cxQ l g yX11_slip cX11_slip 4 (some .int) 7 161 1 6 (.ref (gA g 0) :: [.int (zi a1), .int (zi a2)]) x (QIu g (fun _ _ => False)) pY) : ctL l g yL_slip cL_slip 5 [(0, 10, 13, 21), (0, 10, 17, 13)] 8 184 1 6 [.ref (gA g 0), .int (zi a1), .int (zi a2), .ref (gA g 70)] x (QIu g (fun z x' => z = 2 ∧ x' = x)) := by
  refine cl_start (own := RL) (lv := [(0, .ref (gA g 0)), (1, .int (zi a1)), (2, .int (zi a2)), (3, .ref (gA g 70))]) (by decide) rfl (Nat.le_of_ble_eq_true rfl) rfl ?_
  intro Γ hΓ hO hr hQ ht hN
  subst hΓ
  refine z_aload_n (pc := 0) hO 3 dL_slip_0 rfl rfl ?_
  refine z_iconst (pc := 1) hO dL_slip_1 ?_
  refine z_aload_n (pc := 2) hO 0 dL_slip_2 rfl rfl ?_
  refine z_iload_n (pc := 3) hO 1 dL_slip_3 rfl rfl ?_
  refine z_iload_n (pc := 4) hO 2 dL_slip_4 rfl rfl ?_
  refine z_callC (pc := 5) hO ht (E := eIA) [⟨0, 10, 13, 21⟩] ⟨0, 10, 17, 13⟩ [] rfl (fun z hz => by obtain rfl := List.mem_singleton.mp hz; exact ⟨by decide, eIO, wl_B, hN.1.1⟩) (by decide) (by decide) wl_I hN.2.2.1 (Or.inl rfl) hpY (As := [.int (zi a1), .int (zi a2)]) (st := [.int (zi 0), .ref (gA g 70)]) hM k_L_64 isO_0 rfl (Nat.le_of_ble_eq_true rfl) (by decide) (by decide) ⟨by decide, by decide⟩ dL_slip_5 (fun v => ?_)
  refine z_astore (pc := 17) (lv' := [(4, .ref v), (0, .ref (gA g 0)), (1, .int (zi a1)), (2, .int (zi a2)), (3, .ref (gA g 70))]) hO dL_slip_17 (by decide) rfl ?_
  refine z_iconst (pc := 19) hO dL_slip_19 ?_
  exact z_iret (pc := 20) hO hr hQ rfl dL_slip_20 ⟨rfl, rfl⟩
theorem w_L_orthogonal {l : Launch} {g : Gl} {x : Me} {a1 a2 : Int} (P : Int → Me → Prop) (hM : ctQ l g yX11_orthogonal cX11_orthogonal 5 (some .boolean) 3 64 (.ref (gA g 0) :: [.int (zi a1), .int (zi a2)]) x (QIu g P)) (hb : ∀ r y, P r y → r = 0 ∨ r = 1) : ctL l g yL_orthogonal cL_orthogonal 5 [(0, 17, 20, 21), (0, 17, 24, 15)] 4 88 0 0 [.ref (gA g 0), .int (zi a1), .int (zi a2), .ref (gA g 70)] x (QIu g (fun z x' => z = 0 ∧ ∃ r y, P r y ∧ x' = up y 70 0 r)) := by
  refine cl_start (own := RL) (lv := [(0, .ref (gA g 0)), (1, .int (zi a1)), (2, .int (zi a2)), (3, .ref (gA g 70))]) (by decide) rfl (Nat.le_of_ble_eq_true rfl) rfl ?_
  intro Γ hΓ hO hr hQ ht hN
  subst hΓ
  refine z_aload_n (pc := 0) hO 3 dL_orthogonal_0 rfl rfl ?_
  refine z_iconst (pc := 1) hO dL_orthogonal_1 ?_
  refine z_aload_n (pc := 2) hO 0 dL_orthogonal_2 rfl rfl ?_
  refine z_iload_n (pc := 3) hO 1 dL_orthogonal_3 rfl rfl ?_
  refine z_iload_n (pc := 4) hO 2 dL_orthogonal_4 rfl rfl ?_
  refine z_callVI (pc := 5) hO (As := [.int (zi a1), .int (zi a2)]) (st := [.int (zi 0), .ref (gA g 70)]) hM k_L_67 isO_0 rfl (Nat.le_of_ble_eq_true rfl) (by decide) (by decide) ⟨by decide, by decide⟩ dL_orthogonal_5 (fun r y hp => ?_)
  have hr01 := hb r y hp
  refine z_if_eq (pc := 8) hO (tgt := 15) dL_orthogonal_8 (by decide) (by omega) (fun b1 => ?_) (fun b1 => ?_)
  · refine z_lconst (pc := 15) (v := 0) hO dL_orthogonal_15 rfl ?_
    refine z_last (pc := 16) hO isL_70 (by decide) dL_orthogonal_16 (fun y2 hy2 => ?_)
    refine z_goto (pc := 17) (tgt := 28) hO dL_orthogonal_17 (by decide) ?_
    refine z_iconst (pc := 28) hO dL_orthogonal_28 ?_
    exact z_iret (pc := 29) hO hr hQ rfl dL_orthogonal_29 ⟨rfl, r, y, hp, by rw [b1]; exact hy2⟩
  · refine z_lconst (pc := 11) (v := 1) hO dL_orthogonal_11 rfl ?_
    refine z_goto (pc := 12) (tgt := 16) hO dL_orthogonal_12 (by decide) ?_
    refine z_last (pc := 16) hO isL_70 (by decide) dL_orthogonal_16 (fun y2 hy2 => ?_)
    refine z_goto (pc := 17) (tgt := 28) hO dL_orthogonal_17 (by decide) ?_
    refine z_iconst (pc := 28) hO dL_orthogonal_28 ?_
    exact z_iret (pc := 29) hO hr hQ rfl dL_orthogonal_29 ⟨rfl, r, y, hp, by rw [show r = 1 by omega]; exact hy2⟩
theorem v_L_orthogonal_1 {l : Launch} {g : Gl} {x : Me} {a1 a2 : Int} {pY : String → Prop} (hpY : ∀ E, pY E → E = eIO) (hM : cxQ l g yX11_orthogonal cX11_orthogonal 5 (some .boolean) 7 121 1 6 (.ref (gA g 0) :: [.int (zi a1), .int (zi a2)]) x (QIu g (fun _ _ => False)) pY) : ctL l g yL_orthogonal cL_orthogonal 5 [(0, 17, 20, 21), (0, 17, 24, 15)] 8 145 1 6 [.ref (gA g 0), .int (zi a1), .int (zi a2), .ref (gA g 70)] x (QIu g (fun z x' => z = 1 ∧ x' = x)) := by
  refine cl_start (own := RL) (lv := [(0, .ref (gA g 0)), (1, .int (zi a1)), (2, .int (zi a2)), (3, .ref (gA g 70))]) (by decide) rfl (Nat.le_of_ble_eq_true rfl) rfl ?_
  intro Γ hΓ hO hr hQ ht hN
  subst hΓ
  refine z_aload_n (pc := 0) hO 3 dL_orthogonal_0 rfl rfl ?_
  refine z_iconst (pc := 1) hO dL_orthogonal_1 ?_
  refine z_aload_n (pc := 2) hO 0 dL_orthogonal_2 rfl rfl ?_
  refine z_iload_n (pc := 3) hO 1 dL_orthogonal_3 rfl rfl ?_
  refine z_iload_n (pc := 4) hO 2 dL_orthogonal_4 rfl rfl ?_
  refine z_callC (pc := 5) hO ht (E := eIO) [] ⟨0, 17, 20, 21⟩ [⟨0, 17, 24, 15⟩] rfl (fun z hz => absurd hz List.not_mem_nil) (by decide) (by decide) wl_B hN.2.1 (Or.inl rfl) hpY (As := [.int (zi a1), .int (zi a2)]) (st := [.int (zi 0), .ref (gA g 70)]) hM k_L_67 isO_0 rfl (Nat.le_of_ble_eq_true rfl) (by decide) (by decide) ⟨by decide, by decide⟩ dL_orthogonal_5 (fun v => ?_)
  refine z_astore (pc := 20) (lv' := [(4, .ref v), (0, .ref (gA g 0)), (1, .int (zi a1)), (2, .int (zi a2)), (3, .ref (gA g 70))]) hO dL_orthogonal_20 (by decide) rfl ?_
  refine z_iconst (pc := 22) hO dL_orthogonal_22 ?_
  exact z_iret (pc := 23) hO hr hQ rfl dL_orthogonal_23 ⟨rfl, rfl⟩
theorem v_L_orthogonal_2 {l : Launch} {g : Gl} {x : Me} {a1 a2 : Int} {pY : String → Prop} (hpY : ∀ E, pY E → E = eIS) (hM : cxQ l g yX11_orthogonal cX11_orthogonal 5 (some .boolean) 7 121 1 6 (.ref (gA g 0) :: [.int (zi a1), .int (zi a2)]) x (QIu g (fun _ _ => False)) pY) : ctL l g yL_orthogonal cL_orthogonal 5 [(0, 17, 20, 21), (0, 17, 24, 15)] 8 145 1 6 [.ref (gA g 0), .int (zi a1), .int (zi a2), .ref (gA g 70)] x (QIu g (fun z x' => z = 2 ∧ x' = x)) := by
  refine cl_start (own := RL) (lv := [(0, .ref (gA g 0)), (1, .int (zi a1)), (2, .int (zi a2)), (3, .ref (gA g 70))]) (by decide) rfl (Nat.le_of_ble_eq_true rfl) rfl ?_
  intro Γ hΓ hO hr hQ ht hN
  subst hΓ
  refine z_aload_n (pc := 0) hO 3 dL_orthogonal_0 rfl rfl ?_
  refine z_iconst (pc := 1) hO dL_orthogonal_1 ?_
  refine z_aload_n (pc := 2) hO 0 dL_orthogonal_2 rfl rfl ?_
  refine z_iload_n (pc := 3) hO 1 dL_orthogonal_3 rfl rfl ?_
  refine z_iload_n (pc := 4) hO 2 dL_orthogonal_4 rfl rfl ?_
  refine z_callC (pc := 5) hO ht (E := eIS) [⟨0, 17, 20, 21⟩] ⟨0, 17, 24, 15⟩ [] rfl (fun z hz => by obtain rfl := List.mem_singleton.mp hz; exact ⟨by decide, eIO, wl_B, hN.1.2.1⟩) (by decide) (by decide) wl_S hN.2.2.2 (Or.inl rfl) hpY (As := [.int (zi a1), .int (zi a2)]) (st := [.int (zi 0), .ref (gA g 70)]) hM k_L_67 isO_0 rfl (Nat.le_of_ble_eq_true rfl) (by decide) (by decide) ⟨by decide, by decide⟩ dL_orthogonal_5 (fun v => ?_)
  refine z_astore (pc := 24) (lv' := [(4, .ref v), (0, .ref (gA g 0)), (1, .int (zi a1)), (2, .int (zi a2)), (3, .ref (gA g 70))]) hO dL_orthogonal_24 (by decide) rfl ?_
  refine z_iconst (pc := 26) hO dL_orthogonal_26 ?_
  exact z_iret (pc := 27) hO hr hQ rfl dL_orthogonal_27 ⟨rfl, rfl⟩
theorem w_L_stack {l : Launch} {g : Gl} {x : Me} {a1 a2 : Int} (P : Int → Me → Prop) (hM : ctQ l g yX11_stack cX11_stack 6 (some .int) 5 107 (.ref (gA g 0) :: [.int (zi a1), .int (zi a2)]) x (QIu g P)) : ctL l g yL_stack cL_stack 5 [(0, 10, 13, 21), (0, 10, 17, 15)] 6 132 0 0 [.ref (gA g 0), .int (zi a1), .int (zi a2), .ref (gA g 70)] x (QIu g (fun z x' => z = 0 ∧ ∃ r y, P r y ∧ x' = up y 70 0 (zi r).toInt)) := by
  refine cl_start (own := RL) (lv := [(0, .ref (gA g 0)), (1, .int (zi a1)), (2, .int (zi a2)), (3, .ref (gA g 70))]) (by decide) rfl (Nat.le_of_ble_eq_true rfl) rfl ?_
  intro Γ hΓ hO hr hQ ht hN
  subst hΓ
  refine z_aload_n (pc := 0) hO 3 dL_stack_0 rfl rfl ?_
  refine z_iconst (pc := 1) hO dL_stack_1 ?_
  refine z_aload_n (pc := 2) hO 0 dL_stack_2 rfl rfl ?_
  refine z_iload_n (pc := 3) hO 1 dL_stack_3 rfl rfl ?_
  refine z_iload_n (pc := 4) hO 2 dL_stack_4 rfl rfl ?_
  refine z_callVI (pc := 5) hO (As := [.int (zi a1), .int (zi a2)]) (st := [.int (zi 0), .ref (gA g 70)]) hM k_L_70 isO_0 rfl (Nat.le_of_ble_eq_true rfl) (by decide) (by decide) ⟨by decide, by decide⟩ dL_stack_5 (fun r y hp => ?_)
  refine z_i2lq (pc := 8) hO dL_stack_8 ?_
  refine z_last (pc := 9) hO isL_70 (by decide) dL_stack_9 (fun y2 hy2 => ?_)
  refine z_goto (pc := 10) (tgt := 21) hO dL_stack_10 (by decide) ?_
  refine z_iconst (pc := 21) hO dL_stack_21 ?_
  exact z_iret (pc := 22) hO hr hQ rfl dL_stack_22 ⟨rfl, r, y, hp, hy2⟩
theorem v_L_stack_1 {l : Launch} {g : Gl} {x : Me} {a1 a2 : Int} {pY : String → Prop} (hpY : ∀ E, pY E → E = eIO) (hM : cxQ l g yX11_stack cX11_stack 6 (some .int) 7 121 1 6 (.ref (gA g 0) :: [.int (zi a1), .int (zi a2)]) x (QIu g (fun _ _ => False)) pY) : ctL l g yL_stack cL_stack 5 [(0, 10, 13, 21), (0, 10, 17, 15)] 8 146 1 6 [.ref (gA g 0), .int (zi a1), .int (zi a2), .ref (gA g 70)] x (QIu g (fun z x' => z = 1 ∧ x' = x)) := by
  refine cl_start (own := RL) (lv := [(0, .ref (gA g 0)), (1, .int (zi a1)), (2, .int (zi a2)), (3, .ref (gA g 70))]) (by decide) rfl (Nat.le_of_ble_eq_true rfl) rfl ?_
  intro Γ hΓ hO hr hQ ht hN
  subst hΓ
  refine z_aload_n (pc := 0) hO 3 dL_stack_0 rfl rfl ?_
  refine z_iconst (pc := 1) hO dL_stack_1 ?_
  refine z_aload_n (pc := 2) hO 0 dL_stack_2 rfl rfl ?_
  refine z_iload_n (pc := 3) hO 1 dL_stack_3 rfl rfl ?_
  refine z_iload_n (pc := 4) hO 2 dL_stack_4 rfl rfl ?_
  refine z_callC (pc := 5) hO ht (E := eIO) [] ⟨0, 10, 13, 21⟩ [⟨0, 10, 17, 15⟩] rfl (fun z hz => absurd hz List.not_mem_nil) (by decide) (by decide) wl_B hN.2.1 (Or.inl rfl) hpY (As := [.int (zi a1), .int (zi a2)]) (st := [.int (zi 0), .ref (gA g 70)]) hM k_L_70 isO_0 rfl (Nat.le_of_ble_eq_true rfl) (by decide) (by decide) ⟨by decide, by decide⟩ dL_stack_5 (fun v => ?_)
  refine z_astore (pc := 13) (lv' := [(4, .ref v), (0, .ref (gA g 0)), (1, .int (zi a1)), (2, .int (zi a2)), (3, .ref (gA g 70))]) hO dL_stack_13 (by decide) rfl ?_
  refine z_iconst (pc := 15) hO dL_stack_15 ?_
  exact z_iret (pc := 16) hO hr hQ rfl dL_stack_16 ⟨rfl, rfl⟩
theorem v_L_stack_2 {l : Launch} {g : Gl} {x : Me} {a1 a2 : Int} {pY : String → Prop} (hpY : ∀ E, pY E → E = eIS) (hM : cxQ l g yX11_stack cX11_stack 6 (some .int) 7 121 1 6 (.ref (gA g 0) :: [.int (zi a1), .int (zi a2)]) x (QIu g (fun _ _ => False)) pY) : ctL l g yL_stack cL_stack 5 [(0, 10, 13, 21), (0, 10, 17, 15)] 8 146 1 6 [.ref (gA g 0), .int (zi a1), .int (zi a2), .ref (gA g 70)] x (QIu g (fun z x' => z = 2 ∧ x' = x)) := by
  refine cl_start (own := RL) (lv := [(0, .ref (gA g 0)), (1, .int (zi a1)), (2, .int (zi a2)), (3, .ref (gA g 70))]) (by decide) rfl (Nat.le_of_ble_eq_true rfl) rfl ?_
  intro Γ hΓ hO hr hQ ht hN
  subst hΓ
  refine z_aload_n (pc := 0) hO 3 dL_stack_0 rfl rfl ?_
  refine z_iconst (pc := 1) hO dL_stack_1 ?_
  refine z_aload_n (pc := 2) hO 0 dL_stack_2 rfl rfl ?_
  refine z_iload_n (pc := 3) hO 1 dL_stack_3 rfl rfl ?_
  refine z_iload_n (pc := 4) hO 2 dL_stack_4 rfl rfl ?_
  refine z_callC (pc := 5) hO ht (E := eIS) [⟨0, 10, 13, 21⟩] ⟨0, 10, 17, 15⟩ [] rfl (fun z hz => by obtain rfl := List.mem_singleton.mp hz; exact ⟨by decide, eIO, wl_B, hN.1.2.1⟩) (by decide) (by decide) wl_S hN.2.2.2 (Or.inl rfl) hpY (As := [.int (zi a1), .int (zi a2)]) (st := [.int (zi 0), .ref (gA g 70)]) hM k_L_70 isO_0 rfl (Nat.le_of_ble_eq_true rfl) (by decide) (by decide) ⟨by decide, by decide⟩ dL_stack_5 (fun v => ?_)
  refine z_astore (pc := 17) (lv' := [(4, .ref v), (0, .ref (gA g 0)), (1, .int (zi a1)), (2, .int (zi a2)), (3, .ref (gA g 70))]) hO dL_stack_17 (by decide) rfl ?_
  refine z_iconst (pc := 19) hO dL_stack_19 ?_
  exact z_iret (pc := 20) hO hr hQ rfl dL_stack_20 ⟨rfl, rfl⟩
theorem w_L_product {l : Launch} {g : Gl} {x : Me} {a1 a2 : Int} (P : Int → Me → Prop) (hM : ctQ l g yX11_product cX11_product 6 (some .int) 5 106 (.ref (gA g 0) :: [.int (zi a1), .int (zi a2)]) x (QIu g P)) : ctL l g yL_product cL_product 5 [(0, 10, 13, 21), (0, 10, 17, 15)] 6 131 0 0 [.ref (gA g 0), .int (zi a1), .int (zi a2), .ref (gA g 70)] x (QIu g (fun z x' => z = 0 ∧ ∃ r y, P r y ∧ x' = up y 70 0 (zi r).toInt)) := by
  refine cl_start (own := RL) (lv := [(0, .ref (gA g 0)), (1, .int (zi a1)), (2, .int (zi a2)), (3, .ref (gA g 70))]) (by decide) rfl (Nat.le_of_ble_eq_true rfl) rfl ?_
  intro Γ hΓ hO hr hQ ht hN
  subst hΓ
  refine z_aload_n (pc := 0) hO 3 dL_product_0 rfl rfl ?_
  refine z_iconst (pc := 1) hO dL_product_1 ?_
  refine z_aload_n (pc := 2) hO 0 dL_product_2 rfl rfl ?_
  refine z_iload_n (pc := 3) hO 1 dL_product_3 rfl rfl ?_
  refine z_iload_n (pc := 4) hO 2 dL_product_4 rfl rfl ?_
  refine z_callVI (pc := 5) hO (As := [.int (zi a1), .int (zi a2)]) (st := [.int (zi 0), .ref (gA g 70)]) hM k_L_73 isO_0 rfl (Nat.le_of_ble_eq_true rfl) (by decide) (by decide) ⟨by decide, by decide⟩ dL_product_5 (fun r y hp => ?_)
  refine z_i2lq (pc := 8) hO dL_product_8 ?_
  refine z_last (pc := 9) hO isL_70 (by decide) dL_product_9 (fun y2 hy2 => ?_)
  refine z_goto (pc := 10) (tgt := 21) hO dL_product_10 (by decide) ?_
  refine z_iconst (pc := 21) hO dL_product_21 ?_
  exact z_iret (pc := 22) hO hr hQ rfl dL_product_22 ⟨rfl, r, y, hp, hy2⟩
theorem v_L_product_1 {l : Launch} {g : Gl} {x : Me} {a1 a2 : Int} {pY : String → Prop} (hpY : ∀ E, pY E → E = eIO) (hM : cxQ l g yX11_product cX11_product 6 (some .int) 7 121 1 6 (.ref (gA g 0) :: [.int (zi a1), .int (zi a2)]) x (QIu g (fun _ _ => False)) pY) : ctL l g yL_product cL_product 5 [(0, 10, 13, 21), (0, 10, 17, 15)] 8 146 1 6 [.ref (gA g 0), .int (zi a1), .int (zi a2), .ref (gA g 70)] x (QIu g (fun z x' => z = 1 ∧ x' = x)) := by
  refine cl_start (own := RL) (lv := [(0, .ref (gA g 0)), (1, .int (zi a1)), (2, .int (zi a2)), (3, .ref (gA g 70))]) (by decide) rfl (Nat.le_of_ble_eq_true rfl) rfl ?_
  intro Γ hΓ hO hr hQ ht hN
  subst hΓ
  refine z_aload_n (pc := 0) hO 3 dL_product_0 rfl rfl ?_
  refine z_iconst (pc := 1) hO dL_product_1 ?_
  refine z_aload_n (pc := 2) hO 0 dL_product_2 rfl rfl ?_
  refine z_iload_n (pc := 3) hO 1 dL_product_3 rfl rfl ?_
  refine z_iload_n (pc := 4) hO 2 dL_product_4 rfl rfl ?_
  refine z_callC (pc := 5) hO ht (E := eIO) [] ⟨0, 10, 13, 21⟩ [⟨0, 10, 17, 15⟩] rfl (fun z hz => absurd hz List.not_mem_nil) (by decide) (by decide) wl_B hN.2.1 (Or.inl rfl) hpY (As := [.int (zi a1), .int (zi a2)]) (st := [.int (zi 0), .ref (gA g 70)]) hM k_L_73 isO_0 rfl (Nat.le_of_ble_eq_true rfl) (by decide) (by decide) ⟨by decide, by decide⟩ dL_product_5 (fun v => ?_)
  refine z_astore (pc := 13) (lv' := [(4, .ref v), (0, .ref (gA g 0)), (1, .int (zi a1)), (2, .int (zi a2)), (3, .ref (gA g 70))]) hO dL_product_13 (by decide) rfl ?_
  refine z_iconst (pc := 15) hO dL_product_15 ?_
  exact z_iret (pc := 16) hO hr hQ rfl dL_product_16 ⟨rfl, rfl⟩
theorem v_L_product_2 {l : Launch} {g : Gl} {x : Me} {a1 a2 : Int} {pY : String → Prop} (hpY : ∀ E, pY E → E = eIS) (hM : cxQ l g yX11_product cX11_product 6 (some .int) 7 121 1 6 (.ref (gA g 0) :: [.int (zi a1), .int (zi a2)]) x (QIu g (fun _ _ => False)) pY) : ctL l g yL_product cL_product 5 [(0, 10, 13, 21), (0, 10, 17, 15)] 8 146 1 6 [.ref (gA g 0), .int (zi a1), .int (zi a2), .ref (gA g 70)] x (QIu g (fun z x' => z = 2 ∧ x' = x)) := by
  refine cl_start (own := RL) (lv := [(0, .ref (gA g 0)), (1, .int (zi a1)), (2, .int (zi a2)), (3, .ref (gA g 70))]) (by decide) rfl (Nat.le_of_ble_eq_true rfl) rfl ?_
  intro Γ hΓ hO hr hQ ht hN
  subst hΓ
  refine z_aload_n (pc := 0) hO 3 dL_product_0 rfl rfl ?_
  refine z_iconst (pc := 1) hO dL_product_1 ?_
  refine z_aload_n (pc := 2) hO 0 dL_product_2 rfl rfl ?_
  refine z_iload_n (pc := 3) hO 1 dL_product_3 rfl rfl ?_
  refine z_iload_n (pc := 4) hO 2 dL_product_4 rfl rfl ?_
  refine z_callC (pc := 5) hO ht (E := eIS) [⟨0, 10, 13, 21⟩] ⟨0, 10, 17, 15⟩ [] rfl (fun z hz => by obtain rfl := List.mem_singleton.mp hz; exact ⟨by decide, eIO, wl_B, hN.1.2.1⟩) (by decide) (by decide) wl_S hN.2.2.2 (Or.inl rfl) hpY (As := [.int (zi a1), .int (zi a2)]) (st := [.int (zi 0), .ref (gA g 70)]) hM k_L_73 isO_0 rfl (Nat.le_of_ble_eq_true rfl) (by decide) (by decide) ⟨by decide, by decide⟩ dL_product_5 (fun v => ?_)
  refine z_astore (pc := 17) (lv' := [(4, .ref v), (0, .ref (gA g 0)), (1, .int (zi a1)), (2, .int (zi a2)), (3, .ref (gA g 70))]) hO dL_product_17 (by decide) rfl ?_
  refine z_iconst (pc := 19) hO dL_product_19 ?_
  exact z_iret (pc := 20) hO hr hQ rfl dL_product_20 ⟨rfl, rfl⟩
theorem w_L_crossings {l : Launch} {g : Gl} {x : Me} {a1 a2 : Int} (P : Int → Me → Prop) (hM : ctQ l g yX11_crossings cX11_crossings 4 (some .int) 61 1227 (.ref (gA g 0) :: [.int (zi a1), .int (zi a2)]) x (QIu g P)) : ctL l g yL_crossings cL_crossings 5 [(0, 10, 13, 21), (0, 10, 17, 13), (0, 10, 21, 15)] 62 1250 0 0 [.ref (gA g 0), .int (zi a1), .int (zi a2), .ref (gA g 70)] x (QIu g (fun z x' => z = 0 ∧ ∃ r y, P r y ∧ x' = up y 70 0 (zi r).toInt)) := by
  refine cl_start (own := RL) (lv := [(0, .ref (gA g 0)), (1, .int (zi a1)), (2, .int (zi a2)), (3, .ref (gA g 70))]) (by decide) rfl (Nat.le_of_ble_eq_true rfl) rfl ?_
  intro Γ hΓ hO hr hQ ht hN
  subst hΓ
  refine z_aload_n (pc := 0) hO 3 dL_crossings_0 rfl rfl ?_
  refine z_iconst (pc := 1) hO dL_crossings_1 ?_
  refine z_aload_n (pc := 2) hO 0 dL_crossings_2 rfl rfl ?_
  refine z_iload_n (pc := 3) hO 1 dL_crossings_3 rfl rfl ?_
  refine z_iload_n (pc := 4) hO 2 dL_crossings_4 rfl rfl ?_
  refine z_callVI (pc := 5) hO (As := [.int (zi a1), .int (zi a2)]) (st := [.int (zi 0), .ref (gA g 70)]) hM k_L_76 isO_0 rfl (Nat.le_of_ble_eq_true rfl) (by decide) (by decide) ⟨by decide, by decide⟩ dL_crossings_5 (fun r y hp => ?_)
  refine z_i2lq (pc := 8) hO dL_crossings_8 ?_
  refine z_last (pc := 9) hO isL_70 (by decide) dL_crossings_9 (fun y2 hy2 => ?_)
  refine z_goto (pc := 10) (tgt := 25) hO dL_crossings_10 (by decide) ?_
  refine z_iconst (pc := 25) hO dL_crossings_25 ?_
  exact z_iret (pc := 26) hO hr hQ rfl dL_crossings_26 ⟨rfl, r, y, hp, hy2⟩
theorem v_L_crossings_1 {l : Launch} {g : Gl} {x : Me} {a1 a2 : Int} {pY : String → Prop} (hpY : ∀ E, pY E → E = eIO) (hM : cxQ l g yX11_crossings cX11_crossings 4 (some .int) 61 1227 1 6 (.ref (gA g 0) :: [.int (zi a1), .int (zi a2)]) x (QIu g (fun _ _ => False)) pY) : ctL l g yL_crossings cL_crossings 5 [(0, 10, 13, 21), (0, 10, 17, 13), (0, 10, 21, 15)] 62 1250 1 6 [.ref (gA g 0), .int (zi a1), .int (zi a2), .ref (gA g 70)] x (QIu g (fun z x' => z = 1 ∧ x' = x)) := by
  refine cl_start (own := RL) (lv := [(0, .ref (gA g 0)), (1, .int (zi a1)), (2, .int (zi a2)), (3, .ref (gA g 70))]) (by decide) rfl (Nat.le_of_ble_eq_true rfl) rfl ?_
  intro Γ hΓ hO hr hQ ht hN
  subst hΓ
  refine z_aload_n (pc := 0) hO 3 dL_crossings_0 rfl rfl ?_
  refine z_iconst (pc := 1) hO dL_crossings_1 ?_
  refine z_aload_n (pc := 2) hO 0 dL_crossings_2 rfl rfl ?_
  refine z_iload_n (pc := 3) hO 1 dL_crossings_3 rfl rfl ?_
  refine z_iload_n (pc := 4) hO 2 dL_crossings_4 rfl rfl ?_
  refine z_callC (pc := 5) hO ht (E := eIO) [] ⟨0, 10, 13, 21⟩ [⟨0, 10, 17, 13⟩, ⟨0, 10, 21, 15⟩] rfl (fun z hz => absurd hz List.not_mem_nil) (by decide) (by decide) wl_B hN.2.1 (Or.inl rfl) hpY (As := [.int (zi a1), .int (zi a2)]) (st := [.int (zi 0), .ref (gA g 70)]) hM k_L_76 isO_0 rfl (Nat.le_of_ble_eq_true rfl) (by decide) (by decide) ⟨by decide, by decide⟩ dL_crossings_5 (fun v => ?_)
  refine z_astore (pc := 13) (lv' := [(4, .ref v), (0, .ref (gA g 0)), (1, .int (zi a1)), (2, .int (zi a2)), (3, .ref (gA g 70))]) hO dL_crossings_13 (by decide) rfl ?_
  refine z_iconst (pc := 15) hO dL_crossings_15 ?_
  exact z_iret (pc := 16) hO hr hQ rfl dL_crossings_16 ⟨rfl, rfl⟩
theorem v_L_crossings_2 {l : Launch} {g : Gl} {x : Me} {a1 a2 : Int} {pY : String → Prop} (hpY : ∀ E, pY E → E = eIA) (hM : cxQ l g yX11_crossings cX11_crossings 4 (some .int) 61 1227 1 6 (.ref (gA g 0) :: [.int (zi a1), .int (zi a2)]) x (QIu g (fun _ _ => False)) pY) : ctL l g yL_crossings cL_crossings 5 [(0, 10, 13, 21), (0, 10, 17, 13), (0, 10, 21, 15)] 62 1250 1 6 [.ref (gA g 0), .int (zi a1), .int (zi a2), .ref (gA g 70)] x (QIu g (fun z x' => z = 2 ∧ x' = x)) := by
  refine cl_start (own := RL) (lv := [(0, .ref (gA g 0)), (1, .int (zi a1)), (2, .int (zi a2)), (3, .ref (gA g 70))]) (by decide) rfl (Nat.le_of_ble_eq_true rfl) rfl ?_
  intro Γ hΓ hO hr hQ ht hN
  subst hΓ
  refine z_aload_n (pc := 0) hO 3 dL_crossings_0 rfl rfl ?_
  refine z_iconst (pc := 1) hO dL_crossings_1 ?_
  refine z_aload_n (pc := 2) hO 0 dL_crossings_2 rfl rfl ?_
  refine z_iload_n (pc := 3) hO 1 dL_crossings_3 rfl rfl ?_
  refine z_iload_n (pc := 4) hO 2 dL_crossings_4 rfl rfl ?_
  refine z_callC (pc := 5) hO ht (E := eIA) [⟨0, 10, 13, 21⟩] ⟨0, 10, 17, 13⟩ [⟨0, 10, 21, 15⟩] rfl (fun z hz => by obtain rfl := List.mem_singleton.mp hz; exact ⟨by decide, eIO, wl_B, hN.1.1⟩) (by decide) (by decide) wl_I hN.2.2.1 (Or.inl rfl) hpY (As := [.int (zi a1), .int (zi a2)]) (st := [.int (zi 0), .ref (gA g 70)]) hM k_L_76 isO_0 rfl (Nat.le_of_ble_eq_true rfl) (by decide) (by decide) ⟨by decide, by decide⟩ dL_crossings_5 (fun v => ?_)
  refine z_astore (pc := 17) (lv' := [(4, .ref v), (0, .ref (gA g 0)), (1, .int (zi a1)), (2, .int (zi a2)), (3, .ref (gA g 70))]) hO dL_crossings_17 (by decide) rfl ?_
  refine z_iconst (pc := 19) hO dL_crossings_19 ?_
  exact z_iret (pc := 20) hO hr hQ rfl dL_crossings_20 ⟨rfl, rfl⟩
theorem v_L_crossings_3 {l : Launch} {g : Gl} {x : Me} {a1 a2 : Int} {pY : String → Prop} (hpY : ∀ E, pY E → E = eIS) (hM : cxQ l g yX11_crossings cX11_crossings 4 (some .int) 61 1227 1 6 (.ref (gA g 0) :: [.int (zi a1), .int (zi a2)]) x (QIu g (fun _ _ => False)) pY) : ctL l g yL_crossings cL_crossings 5 [(0, 10, 13, 21), (0, 10, 17, 13), (0, 10, 21, 15)] 62 1250 1 6 [.ref (gA g 0), .int (zi a1), .int (zi a2), .ref (gA g 70)] x (QIu g (fun z x' => z = 3 ∧ x' = x)) := by
  refine cl_start (own := RL) (lv := [(0, .ref (gA g 0)), (1, .int (zi a1)), (2, .int (zi a2)), (3, .ref (gA g 70))]) (by decide) rfl (Nat.le_of_ble_eq_true rfl) rfl ?_
  intro Γ hΓ hO hr hQ ht hN
  subst hΓ
  refine z_aload_n (pc := 0) hO 3 dL_crossings_0 rfl rfl ?_
  refine z_iconst (pc := 1) hO dL_crossings_1 ?_
  refine z_aload_n (pc := 2) hO 0 dL_crossings_2 rfl rfl ?_
  refine z_iload_n (pc := 3) hO 1 dL_crossings_3 rfl rfl ?_
  refine z_iload_n (pc := 4) hO 2 dL_crossings_4 rfl rfl ?_
  refine z_callC (pc := 5) hO ht (E := eIS) [⟨0, 10, 13, 21⟩, ⟨0, 10, 17, 13⟩] ⟨0, 10, 21, 15⟩ [] rfl (fun z hz => by rcases List.mem_cons.mp hz with rfl | hz; exact ⟨by decide, eIO, wl_B, hN.1.2.1⟩; obtain rfl := List.mem_singleton.mp hz; exact ⟨by decide, eIA, wl_I, hN.1.2.2⟩) (by decide) (by decide) wl_S hN.2.2.2 (Or.inl rfl) hpY (As := [.int (zi a1), .int (zi a2)]) (st := [.int (zi 0), .ref (gA g 70)]) hM k_L_76 isO_0 rfl (Nat.le_of_ble_eq_true rfl) (by decide) (by decide) ⟨by decide, by decide⟩ dL_crossings_5 (fun v => ?_)
  refine z_astore (pc := 21) (lv' := [(4, .ref v), (0, .ref (gA g 0)), (1, .int (zi a1)), (2, .int (zi a2)), (3, .ref (gA g 70))]) hO dL_crossings_21 (by decide) rfl ?_
  refine z_iconst (pc := 23) hO dL_crossings_23 ?_
  exact z_iret (pc := 24) hO hr hQ rfl dL_crossings_24 ⟨rfl, rfl⟩
theorem w_L_dimension {l : Launch} {g : Gl} {x : Me} {a1 a2 : Int} (P : Int → Me → Prop) (hM : ctQ l g yX11_dimension cX11_dimension 3 (some .int) 7 163 (.ref (gA g 0) :: [.int (zi a1), .int (zi a2)]) x (QIu g P)) : ctL l g yL_dimension cL_dimension 5 [(0, 10, 13, 13)] 8 185 0 0 [.ref (gA g 0), .int (zi a1), .int (zi a2), .ref (gA g 70)] x (QIu g (fun z x' => z = 0 ∧ ∃ r y, P r y ∧ x' = up y 70 0 (zi r).toInt)) := by
  refine cl_start (own := RL) (lv := [(0, .ref (gA g 0)), (1, .int (zi a1)), (2, .int (zi a2)), (3, .ref (gA g 70))]) (by decide) rfl (Nat.le_of_ble_eq_true rfl) rfl ?_
  intro Γ hΓ hO hr hQ ht hN
  subst hΓ
  refine z_aload_n (pc := 0) hO 3 dL_dimension_0 rfl rfl ?_
  refine z_iconst (pc := 1) hO dL_dimension_1 ?_
  refine z_aload_n (pc := 2) hO 0 dL_dimension_2 rfl rfl ?_
  refine z_iload_n (pc := 3) hO 1 dL_dimension_3 rfl rfl ?_
  refine z_iload_n (pc := 4) hO 2 dL_dimension_4 rfl rfl ?_
  refine z_callVI (pc := 5) hO (As := [.int (zi a1), .int (zi a2)]) (st := [.int (zi 0), .ref (gA g 70)]) hM k_L_79 isO_0 rfl (Nat.le_of_ble_eq_true rfl) (by decide) (by decide) ⟨by decide, by decide⟩ dL_dimension_5 (fun r y hp => ?_)
  refine z_i2lq (pc := 8) hO dL_dimension_8 ?_
  refine z_last (pc := 9) hO isL_70 (by decide) dL_dimension_9 (fun y2 hy2 => ?_)
  refine z_goto (pc := 10) (tgt := 17) hO dL_dimension_10 (by decide) ?_
  refine z_iconst (pc := 17) hO dL_dimension_17 ?_
  exact z_iret (pc := 18) hO hr hQ rfl dL_dimension_18 ⟨rfl, r, y, hp, hy2⟩
theorem v_L_dimension_1 {l : Launch} {g : Gl} {x : Me} {a1 a2 : Int} {pY : String → Prop} (hpY : ∀ E, pY E → E = eIA) (hM : cxQ l g yX11_dimension cX11_dimension 3 (some .int) 7 163 1 6 (.ref (gA g 0) :: [.int (zi a1), .int (zi a2)]) x (QIu g (fun _ _ => False)) pY) : ctL l g yL_dimension cL_dimension 5 [(0, 10, 13, 13)] 8 185 1 6 [.ref (gA g 0), .int (zi a1), .int (zi a2), .ref (gA g 70)] x (QIu g (fun z x' => z = 1 ∧ x' = x)) := by
  refine cl_start (own := RL) (lv := [(0, .ref (gA g 0)), (1, .int (zi a1)), (2, .int (zi a2)), (3, .ref (gA g 70))]) (by decide) rfl (Nat.le_of_ble_eq_true rfl) rfl ?_
  intro Γ hΓ hO hr hQ ht hN
  subst hΓ
  refine z_aload_n (pc := 0) hO 3 dL_dimension_0 rfl rfl ?_
  refine z_iconst (pc := 1) hO dL_dimension_1 ?_
  refine z_aload_n (pc := 2) hO 0 dL_dimension_2 rfl rfl ?_
  refine z_iload_n (pc := 3) hO 1 dL_dimension_3 rfl rfl ?_
  refine z_iload_n (pc := 4) hO 2 dL_dimension_4 rfl rfl ?_
  refine z_callC (pc := 5) hO ht (E := eIA) [] ⟨0, 10, 13, 13⟩ [] rfl (fun z hz => absurd hz List.not_mem_nil) (by decide) (by decide) wl_I hN.2.2.1 (Or.inl rfl) hpY (As := [.int (zi a1), .int (zi a2)]) (st := [.int (zi 0), .ref (gA g 70)]) hM k_L_79 isO_0 rfl (Nat.le_of_ble_eq_true rfl) (by decide) (by decide) ⟨by decide, by decide⟩ dL_dimension_5 (fun v => ?_)
  refine z_astore (pc := 13) (lv' := [(4, .ref v), (0, .ref (gA g 0)), (1, .int (zi a1)), (2, .int (zi a2)), (3, .ref (gA g 70))]) hO dL_dimension_13 (by decide) rfl ?_
  refine z_iconst (pc := 15) hO dL_dimension_15 ?_
  exact z_iret (pc := 16) hO hr hQ rfl dL_dimension_16 ⟨rfl, rfl⟩
