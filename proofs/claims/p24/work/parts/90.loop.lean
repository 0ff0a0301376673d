set_option maxHeartbeats 1000000 in
theorem law_loop {Γ : Gam} {g : Gl} {b L : Nat} {xs : Nat → Int32} (hO : Ok Γ g cL_law 12 RL 2048 84000 600104 7301314) (hX : gX g = 0) (hXs : va_X b L xs (qS Γ) (qS Γ).heap) (hbS : b < gS g) (hL : L ≤ 260) (fin : ∀ (x : Me) (k : Int) (k0 n0 : Nat), k0 ≤ 600104 → n0 ≤ 7301314 → Zz Γ g 12 k0 n0 x 393 [(0, .ref b), (1, .ref (gA g 0)), (2, .ref (gA g 71)), (3, .int (zi 1)), (4, .int (zi k))] []) : ∀ (N : Nat) (k : Int) (x : Me) (k0 n0 : Nat), (6 - k).toNat < N → (0 ≤ k ∧ k ≤ 6) → LV x → ((k0 : Int) + 2 * (6 - k) ≤ 600104 ∧ (n0 : Int) + 32 * (6 - k) ≤ 7301314) → Zz Γ g 12 k0 n0 x 41 [(0, .ref b), (1, .ref (gA g 0)), (2, .ref (gA g 71)), (3, .int (zi 1)), (4, .int (zi k))] [] := by
  intro N
  induction N with
  | zero => intro k x k0 n0 hm; exact absurd hm (Nat.not_lt_zero _)
  | succ N ih =>
    intro k x k0 n0 hm hk hI hr
    refine z_iload (pc := 41) hO 4 dL_law_41 rfl ?_
    refine z_bipush (pc := 43) hO dL_law_43 (by decide) ?_
    refine z_icmp_ge (pc := 45) hO (tgt := 393) dL_law_45 (by decide) (by omega) (by omega) (fun h => ?_) (fun h => ?_)
    · exact fin x k k0 n0 (by omega) (by omega)
    refine z_iload_n (pc := 48) hO 3 dL_law_48 rfl rfl ?_
    refine z_if_eq (pc := 49) hO (tgt := 393) dL_law_49 (by decide) (by decide) (fun h => absurd h (by decide)) (fun _ => ?_)
    refine z_aload_n (pc := 52) hO 0 dL_law_52 rfl rfl ?_
    refine z_iload (pc := 53) hO 4 dL_law_53 rfl ?_
    refine z_told (pc := 55) hO hXs hbS hL (j := k) (by omega) k_L_38 (Nat.le_of_ble_eq_true rfl) (by decide) (by decide) ⟨by omega, by omega⟩ dL_law_55 (fun v hv => ?_)
    refine z_istore (pc := 58) hO (lv' := [(5, .int (zi v)), (0, .ref b), (1, .ref (gA g 0)), (2, .ref (gA g 71)), (3, .int (zi 1)), (4, .int (zi k))]) dL_law_58 (by decide) rfl ?_
    refine z_iload (pc := 60) hO 0 dL_law_60 rfl ?_
    refine z_iconst (pc := 62) hO dL_law_62 ?_
    refine z_irem (pc := 63) hO dL_law_63 (by omega) (by omega) ?_
    rcases (show v % 2 = 0 ∨ v % 2 = 1 by omega) with e | e <;> rw [e]
    · refine z_istore (pc := 64) hO (lv' := [(6, .int (zi 0)), (5, .int (zi v)), (0, .ref b), (1, .ref (gA g 0)), (2, .ref (gA g 71)), (3, .int (zi 1)), (4, .int (zi k))]) dL_law_64 (by decide) rfl ?_
      refine z_iconst (pc := 66) hO dL_law_66 ?_
      refine z_iload (pc := 67) hO 0 dL_law_67 rfl ?_
      refine z_iadd (pc := 69) hO dL_law_69 ?_
      refine z_istore (pc := 70) hO (lv' := [(7, .int (zi 3)), (6, .int (zi 0)), (5, .int (zi v)), (0, .ref b), (1, .ref (gA g 0)), (2, .ref (gA g 71)), (3, .int (zi 1)), (4, .int (zi k))]) dL_law_70 (by decide) rfl ?_
      refine z_sub [3, 4, 5, 6, 7, 2, 1, 0] rfl ?_
      exact law_q0 hX hO ⟨by omega, by omega⟩ hXs hbS hL x k v (by omega) hv hI (fun x' hI' => ih (k + 1) x' (k0 + 2) (n0 + 32) (by omega) (by omega) hI' ⟨by omega, by omega⟩)
    · refine z_istore (pc := 64) hO (lv' := [(6, .int (zi 1)), (5, .int (zi v)), (0, .ref b), (1, .ref (gA g 0)), (2, .ref (gA g 71)), (3, .int (zi 1)), (4, .int (zi k))]) dL_law_64 (by decide) rfl ?_
      refine z_iconst (pc := 66) hO dL_law_66 ?_
      refine z_iload (pc := 67) hO 0 dL_law_67 rfl ?_
      refine z_iadd (pc := 69) hO dL_law_69 ?_
      refine z_istore (pc := 70) hO (lv' := [(7, .int (zi 4)), (6, .int (zi 1)), (5, .int (zi v)), (0, .ref b), (1, .ref (gA g 0)), (2, .ref (gA g 71)), (3, .int (zi 1)), (4, .int (zi k))]) dL_law_70 (by decide) rfl ?_
      refine z_sub [3, 4, 5, 6, 7, 2, 1, 0] rfl ?_
      exact law_q1 hX hO ⟨by omega, by omega⟩ hXs hbS hL x k v (by omega) hv hI (fun x' hI' => ih (k + 1) x' (k0 + 2) (n0 + 32) (by omega) (by omega) hI' ⟨by omega, by omega⟩)
theorem mk_r0 : ∀ p : Nat, p < 81 → 0 ≤ mkf 0 3 (p : Int) ∧ mkf 0 3 (p : Int) ≤ 999 := by decide +kernel
theorem mk_r1 : ∀ p : Nat, p < 81 → 0 ≤ mkf 1 4 (p : Int) ∧ mkf 1 4 (p : Int) ≤ 999 := by decide +kernel
theorem nc_r {y : Me} {q : Nat} {f : Int → Int} (h : nc y q = f) (hf : ∀ p : Nat, p < 81 → 0 ≤ f (p : Int) ∧ f (p : Int) ≤ 999) : ∀ p, 0 ≤ p → p < 81 → 0 ≤ y (20 + q) p ∧ y (20 + q) p ≤ 999 := by
  intro p p0 p1
  rw [← nc_in (x := y) (q := q) ⟨p0, p1⟩, h]
  have := hf p.toNat (by omega)
  rw [Int.toNat_of_nonneg p0] at this
  exact this
theorem LV_m1 {y : Me} (h0 : y 0 5 = 1) (h1 : y 10 1 = 3) (h2 : nc y 0 = mkf 0 3) : HS y := by
  refine ⟨by omega, fun q hq => ?_⟩
  obtain rfl : q = 0 := by omega
  exact ⟨by decide, by show 1 ≤ y 10 1 ∧ y 10 1 ≤ 9; omega, nc_r h2 mk_r0⟩
theorem LV_m2 {y : Me} (h0 : y 0 5 = 2) (h1 : y 10 1 = 3) (h2 : nc y 0 = mkf 0 3) (h3 : y 11 1 = 4) (h4 : nc y 1 = mkf 1 4) : LV y := by
  refine ⟨⟨by omega, fun q hq => ?_⟩, h0, ⟨h1, h3⟩, by rw [h2]; exact rt_make0, by rw [h4]; exact rt_make1⟩
  have e : q = 0 ∨ q = 1 := by omega
  rcases e with rfl | rfl
  · exact ⟨by decide, by show 1 ≤ y 10 1 ∧ y 10 1 ≤ 9; omega, nc_r h2 mk_r0⟩
  · exact ⟨by decide, by show 1 ≤ y 11 1 ∧ y 11 1 ≤ 9; omega, nc_r h4 mk_r1⟩
set_option maxHeartbeats 1000000 in
theorem law_begin {Γ : Gam} {g : Gl} {b L : Nat} {xs : Nat → Int32} (hO : Ok Γ g cL_law 12 RL 2048 84000 600104 7301314) (hX : gX g = 0) (hXs : va_X b L xs (qS Γ) (qS Γ).heap) (hbS : b < gS g) (hL : L ≤ 260) (fin : ∀ (x : Me) (k : Int) (k0 n0 : Nat), k0 ≤ 600104 → n0 ≤ 7301314 → Zz Γ g 12 k0 n0 x 393 [(0, .ref b), (1, .ref (gA g 0)), (2, .ref (gA g 71)), (3, .int (zi 1)), (4, .int (zi k))] []) {x : Me} (hS : HS x) (h0 : x 0 5 = 0) : Zz Γ g 12 72 2496 x 13 [(0, .ref b), (1, .ref (gA g 0)), (2, .ref (gA g 71))] [] := by
  refine z_aload_n (pc := 13) hO 1 dL_law_13 rfl rfl ?_
  refine z_iconst (pc := 14) hO dL_law_14 ?_
  refine z_iconst (pc := 15) hO dL_law_15 ?_
  refine z_callVI (pc := 16) hO (As := [.int (zi 0), .int (zi 3)]) (st := []) (c_X11_make (qL Γ) g x 0 3 hS (by omega) (by omega) ⟨⟨by omega, by omega⟩, by unfold hld; omega, by omega⟩) k_L_34 isO_0 rfl (Nat.le_of_ble_eq_true rfl) (by decide) (by decide) ⟨by decide, by decide⟩ dL_law_16 (fun z y hy => ?_)
  rw [h0] at hy
  obtain ⟨rfl, y1, y2, y3, y4⟩ := hy
  have hSy : HS y := LV_m1 y2 y3 y1
  refine z_if_ne (pc := 19) hO (tgt := 36) dL_law_19 (by decide) (by decide) (fun h => absurd rfl h) (fun _ => ?_)
  refine z_aload_n (pc := 22) hO 1 dL_law_22 rfl rfl ?_
  refine z_iconst (pc := 23) hO dL_law_23 ?_
  refine z_iconst (pc := 24) hO dL_law_24 ?_
  refine z_callVI (pc := 25) hO (As := [.int (zi 1), .int (zi 4)]) (st := []) (c_X11_make (qL Γ) g y 1 4 hSy (by omega) (by omega) ⟨⟨by omega, by omega⟩, by unfold hld; omega, by omega⟩) k_L_34 isO_0 rfl (Nat.le_of_ble_eq_true rfl) (by decide) (by decide) ⟨by decide, by decide⟩ dL_law_25 (fun z w hw => ?_)
  have y2' : y 0 5 = 1 := y2
  rw [y2'] at hw
  obtain ⟨rfl, w1, w2, w3, w4⟩ := hw
  have w10 : w 10 1 = 3 := by rw [w4 10 (by decide) (by decide) (by decide) (by decide) (by decide)]; exact y3
  have w20 : nc w 0 = mkf 0 3 := by rw [nc_of2 (q := 0) (w4 (20 + 0) (by decide) (by decide) (by decide) (by decide) (by decide))]; exact y1
  have hI : LV w := LV_m2 w2 w10 w20 w3 w1
  refine z_iconst (pc := 28) hO dL_law_28 ?_
  refine z_icmp_ne (pc := 29) hO (tgt := 36) dL_law_29 (by decide) (by decide) (by decide) (fun h => absurd rfl h) (fun _ => ?_)
  refine z_iconst (pc := 32) hO dL_law_32 ?_
  refine z_goto (pc := 33) hO (tgt := 37) dL_law_33 (by decide) ?_
  refine z_istore_n (pc := 37) hO (lv' := [(3, .int (zi 1)), (0, .ref b), (1, .ref (gA g 0)), (2, .ref (gA g 71))]) dL_law_37 rfl (by decide) rfl ?_
  refine z_iconst (pc := 38) hO dL_law_38 ?_
  refine z_istore (pc := 39) hO (lv' := [(4, .int (zi 0)), (3, .int (zi 1)), (0, .ref b), (1, .ref (gA g 0)), (2, .ref (gA g 71))]) dL_law_39 (by decide) rfl ?_
  refine z_sub [2, 3, 4, 1, 0] rfl ?_
  exact law_loop hO hX hXs hbS hL fin 7 0 w _ _ (by decide) (by omega) hI ⟨by omega, by omega⟩
