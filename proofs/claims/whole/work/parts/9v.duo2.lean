set_option maxHeartbeats 1000000 in
theorem D_put {l : Launch} (hl : l.stackTraces = false) {g : Gl} {x : Me} {a1 a2 a3 a4 : Int} (hJ : JI x) (r_a1 : -2147483648 ≤ a1 ∧ a1 < 2147483648) (r_a2 : -2147483648 ≤ a2 ∧ a2 < 2147483648) (r_a3 : -2147483648 ≤ a3 ∧ a3 < 2147483648) (r_a4 : -2147483648 ≤ a4 ∧ a4 < 2147483648) : LC l g yL_put cL_put 7 [(0, 14, 17, 21), (0, 14, 21, 13)] [.ref (gA g 0), .int (zi a1), .int (zi a2), .int (zi a3), .int (zi a4), .ref (gA g 70)] x (MCI l g yX12_put cX12_put 7 .int [.ref (gA g 50), .int (zi a1), .int (zi a2), .int (zi a3), .int (zi a4)]) := by
  have hS := hJ.1; have hM := hJ.2.1; have h5 := hJ.2.2.1
  by_cases hq : (0 ≤ a1 ∧ a1 < x 0 5)
  rotate_left 1
  · refine ⟨_, _, 1, 6, _, ?_, ?_, ⟨by decide, by decide⟩, v_L_put_1 (fun E h => h.trans (exc_io (fun h => hq (by omega))).symm) (x_X11_put (l := l) (hl := hl) (g := g) (x := x) (sq := a1) (r := a2) (c := a3) (v := a4) (hS := hS) (r_sq := r_a1) (r_r := r_a2) (r_c := r_a3) (r_v := r_a4) (hno := (fun h => hq (by omega)))), fun z y hz => ?_⟩; (decide); (decide)
    obtain ⟨rfl, rfl⟩ := hz
    refine ⟨by decide, _, _, _, ?_, ?_, e_X12_put (l := l) (g := g) (x := _) (q := a1) (r := a2) (c := a3) (v := a4) (hM := hM) (r_q := r_a1) (r_r := r_a2) (r_c := r_a3) (r_v := r_a4) (hno := (fun h => hq (by omega))), fun r2 w hw => ?_⟩; (decide); (decide)
    obtain ⟨hr2, rfl⟩ := hw
    exact ⟨by rw [up_s]; exact exn_1 (fun h => hq (by omega)), JI_th hJ, fun h => absurd h (by decide)⟩
  have e1 := JI_q hJ hq
  by_cases hA : 0 ≤ a1 ∧ a1 < x 0 5 ∧ (0 ≤ a2 ∧ a2 < x (10 + a1.toNat) 1) ∧ 0 ≤ a3 ∧ a3 < x (10 + a1.toNat) 1
  rotate_left 1
  · refine ⟨_, _, 1, 6, _, ?_, ?_, ⟨by decide, by decide⟩, v_L_put_1 (fun E h => h.trans (exc_io hA).symm) (x_X11_put (l := l) (hl := hl) (g := g) (x := x) (sq := a1) (r := a2) (c := a3) (v := a4) (hS := hS) (r_sq := r_a1) (r_r := r_a2) (r_c := r_a3) (r_v := r_a4) (hno := (fun h => hA h.1))), fun z y hz => ?_⟩; (decide); (decide)
    obtain ⟨rfl, rfl⟩ := hz
    refine ⟨by decide, _, _, _, ?_, ?_, e_X12_put (l := l) (g := g) (x := _) (q := a1) (r := a2) (c := a3) (v := a4) (hM := hM) (r_q := r_a1) (r_r := r_a2) (r_c := r_a3) (r_v := r_a4) (hno := (fun h => hA (by have h1 := h.1; first | exact h1 | (simp only [h5.symm, e1.1, e1.2, and_assoc] at h1 ⊢; exact h1)))), fun r2 w hw => ?_⟩; (decide); (decide)
    obtain ⟨hr2, rfl⟩ := hw
    exact ⟨by rw [up_s]; exact exn_1 (fun h => hA (by first | exact h | (simp only [h5.symm, e1.1, e1.2, and_assoc] at h ⊢; exact h))), JI_th hJ, fun h => absurd h (by decide)⟩
  have hA2 : ((0 ≤ a1 ∧ a1 < x 50 1) ∧ (0 ≤ a2 ∧ a2 < x 51 a1) ∧ 0 ≤ a3 ∧ a3 < x 51 a1) := by first | exact hA | (simp only [h5.symm, e1.1, e1.2, and_assoc] at hA ⊢; exact hA)
  by_cases hB : 0 ≤ a4 ∧ a4 ≤ 999
  rotate_left 1
  · refine ⟨_, _, 1, 6, _, ?_, ?_, ⟨by decide, by decide⟩, v_L_put_2 (fun E h => h.trans (exc_ia hA hB).symm) (x_X11_put (l := l) (hl := hl) (g := g) (x := x) (sq := a1) (r := a2) (c := a3) (v := a4) (hS := hS) (r_sq := r_a1) (r_r := r_a2) (r_c := r_a3) (r_v := r_a4) (hno := (fun h => hB h.2))), fun z y hz => ?_⟩; (decide); (decide)
    obtain ⟨rfl, rfl⟩ := hz
    refine ⟨by decide, _, _, _, ?_, ?_, e_X12_put (l := l) (g := g) (x := _) (q := a1) (r := a2) (c := a3) (v := a4) (hM := hM) (r_q := r_a1) (r_r := r_a2) (r_c := r_a3) (r_v := r_a4) (hno := (fun h => hB (by have h1 := h.2; first | exact h1 | (simp only [h5.symm, e1.1, e1.2, and_assoc] at h1 ⊢; exact h1)))), fun r2 w hw => ?_⟩; (decide); (decide)
    obtain ⟨hr2, rfl⟩ := hw
    exact ⟨by rw [up_s]; exact exn_2 hA2 (fun h => hB (by first | exact h | (simp only [h5.symm, e1.1, e1.2, and_assoc] at h ⊢; exact h))), JI_th hJ, fun h => absurd h (by decide)⟩
  have hB2 : 0 ≤ a4 ∧ a4 ≤ 999 := by first | exact hB | (simp only [h5.symm, e1.1, e1.2, and_assoc] at hB ⊢; exact hB)
  refine ⟨_, _, 0, 0, _, ?_, ?_, ⟨by decide, by decide⟩, w_L_put _ (c_X11_put (l := l) (g := g) (x := x) (sq := a1) (r := a2) (c := a3) (v := a4) (hS := hS) (r_sq := r_a1) (r_r := r_a2) (r_c := r_a3) (r_v := r_a4) (hok := ⟨hA, hB⟩)), fun z y hz => ?_⟩; (decide); (decide)
  have h05 := hS.1
  obtain ⟨rfl, r, y0, hp0, hy⟩ := hz
  have yy : ∀ a, a ≠ 70 → y a = y0 a := fun a ha => by rw [hy, up_i _ _ _ ha]
  obtain ⟨hr, hy0⟩ := hp0
  have c4 : ∀ b, b ≠ 20 + a1.toNat → b ≠ 18 → b ≠ 28 → b ≠ 70 → y b = x b := fun b q1 q2 q3 q4 => by rw [yy b q4, hy0, up_i _ _ _ q1]
  have hfr : ∀ a, 50 ≤ a ∧ a ≤ 62 → y a = x a := fun a ha => c4 a (by omega) (by omega) (by omega) (by omega)
  have hMy := MS_fr hM (by rw [hfr 50 (by omega)]) (hfr 51 (by omega)) (hfr 52 (by omega))
  have k5 : y 50 1 = x 0 5 := by rw [hfr 50 (by omega)]; exact h5.symm
  have f1 : y 51 a1 = x (10 + a1.toNat) 1 ∧ nd y a1 = nc x a1.toNat := by rw [hfr 51 (by omega), nd_of (hfr 52 (by omega))]; exact e1
  have g1 := hS.2 a1.toNat (by omega)
  have hok2 : (((0 ≤ a1 ∧ a1 < y 50 1) ∧ (0 ≤ a2 ∧ a2 < y 51 a1) ∧ 0 ≤ a3 ∧ a3 < y 51 a1)) ∧ (0 ≤ a4 ∧ a4 ≤ 999) := by have h0 := (show (0 ≤ a1 ∧ a1 < x 0 5 ∧ (0 ≤ a2 ∧ a2 < x (10 + a1.toNat) 1) ∧ 0 ≤ a3 ∧ a3 < x (10 + a1.toNat) 1) ∧ (0 ≤ a4 ∧ a4 ≤ 999) from ⟨hA, hB⟩); first | exact h0 | (simp only [k5, f1.1, f1.2, and_assoc] at h0 ⊢; exact h0)
  refine ⟨by decide, _, _, _, ?_, ?_, c_X12_put (l := l) (g := g) (x := _) (q := a1) (r := a2) (c := a3) (v := a4) (hM := hMy) (r_q := r_a1) (r_r := r_a2) (r_c := r_a3) (r_v := r_a4) (hok := hok2), fun r2 w hw => ?_⟩; (decide); (decide)
  obtain ⟨hr2, hN⟩ := hw
  have hp := pl9 g1.2.1 hA.2.2.1 hA.2.2.2
  have hn9 := sq9 g1.2.1
  simp only [k5, f1.1, f1.2] at hr2
  rw [f1.1, show (81 * a1 + x (10 + a1.toNat) 1 * a2 + a3 : Int) = 81 * a1 + (x (10 + a1.toNat) 1 * a2 + a3) by omega] at hN
  have hCM := put_CM (by omega) (by omega) hN
  rw [f1.2] at hCM
  have h70 : w 70 0 = y 70 0 := by rw [hCM.2.2.2.2.2 70 (by omega)]
  exact ⟨hCM.1, JI_mod hJ (by omega) (FR_put g1.r hB) (nc_put (by omega) (by rw [yy _ (by omega), hy0])) c4 hCM, fun _ => by rw [h70, hy, up_s, hr, hr2]⟩
set_option maxHeartbeats 1000000 in
theorem D_change {l : Launch} (hl : l.stackTraces = false) {g : Gl} {x : Me} {a1 a2 a3 : Int} (hJ : JI x) (r_a1 : -2147483648 ≤ a1 ∧ a1 < 2147483648) (r_a2 : -2147483648 ≤ a2 ∧ a2 < 2147483648) (r_a3 : -2147483648 ≤ a3 ∧ a3 < 2147483648) : LC l g yL_change cL_change 6 [(0, 12, 15, 21), (0, 12, 19, 13), (0, 12, 23, 15)] [.ref (gA g 0), .int (zi a1), .int (zi a2), .int (zi a3), .ref (gA g 70)] x (MCI l g yX12_change cX12_change 10 .int [.ref (gA g 50), .int (zi a1), .int (zi a2), .int (zi a3)]) := by
  have hS := hJ.1; have hM := hJ.2.1; have h5 := hJ.2.2.1
  by_cases hq : (0 ≤ a1 ∧ a1 < x 0 5)
  rotate_left 1
  · refine ⟨_, _, 1, 6, _, ?_, ?_, ⟨by decide, by decide⟩, v_L_change_1 (fun E h => h.trans (exc_io (fun h => hq (by omega))).symm) (x_X11_change (l := l) (hl := hl) (g := g) (x := x) (sq := a1) (ch := a2) (b := a3) (hS := hS) (r_sq := r_a1) (r_ch := r_a2) (r_b := r_a3) (hno := (fun h => hq (by omega)))), fun z y hz => ?_⟩; (decide); (decide)
    obtain ⟨rfl, rfl⟩ := hz
    refine ⟨by decide, _, _, _, ?_, ?_, e_X12_change (l := l) (g := g) (x := _) (q := a1) (ch := a2) (b := a3) (hM := hM) (r_q := r_a1) (r_ch := r_a2) (r_b := r_a3) (hno := (fun h => hq (by omega))), fun r2 w hw => ?_⟩; (decide); (decide)
    obtain ⟨hr2, rfl⟩ := hw
    exact ⟨by rw [up_s]; exact exn_1 (fun h => hq (by omega)), JI_th hJ, fun h => absurd h (by decide)⟩
  have e1 := JI_q hJ hq
  by_cases hA : 0 ≤ a1 ∧ a1 < x 0 5
  rotate_left 1
  · refine ⟨_, _, 1, 6, _, ?_, ?_, ⟨by decide, by decide⟩, v_L_change_1 (fun E h => h.trans (exc_io hA).symm) (x_X11_change (l := l) (hl := hl) (g := g) (x := x) (sq := a1) (ch := a2) (b := a3) (hS := hS) (r_sq := r_a1) (r_ch := r_a2) (r_b := r_a3) (hno := (fun h => hA h.1))), fun z y hz => ?_⟩; (decide); (decide)
    obtain ⟨rfl, rfl⟩ := hz
    refine ⟨by decide, _, _, _, ?_, ?_, e_X12_change (l := l) (g := g) (x := _) (q := a1) (ch := a2) (b := a3) (hM := hM) (r_q := r_a1) (r_ch := r_a2) (r_b := r_a3) (hno := (fun h => hA (by have h1 := h.1; first | exact h1 | (simp only [h5.symm, e1.1, e1.2, and_assoc] at h1 ⊢; exact h1)))), fun r2 w hw => ?_⟩; (decide); (decide)
    obtain ⟨hr2, rfl⟩ := hw
    exact ⟨by rw [up_s]; exact exn_1 (fun h => hA (by first | exact h | (simp only [h5.symm, e1.1, e1.2, and_assoc] at h ⊢; exact h))), JI_th hJ, fun h => absurd h (by decide)⟩
  have hA2 : 0 ≤ a1 ∧ a1 < x 50 1 := by first | exact hA | (simp only [h5.symm, e1.1, e1.2, and_assoc] at hA ⊢; exact hA)
  by_cases hB : (0 ≤ a2 ∧ a2 ≤ 5) ∧ 0 ≤ a3 ∧ a3 ≤ mby a2 (x (10 + a1.toNat) 1)
  rotate_left 1
  · refine ⟨_, _, 1, 6, _, ?_, ?_, ⟨by decide, by decide⟩, v_L_change_2 (fun E h => h.trans (exc_ia hA hB).symm) (x_X11_change (l := l) (hl := hl) (g := g) (x := x) (sq := a1) (ch := a2) (b := a3) (hS := hS) (r_sq := r_a1) (r_ch := r_a2) (r_b := r_a3) (hno := (fun h => hB h.2.1))), fun z y hz => ?_⟩; (decide); (decide)
    obtain ⟨rfl, rfl⟩ := hz
    refine ⟨by decide, _, _, _, ?_, ?_, e_X12_change (l := l) (g := g) (x := _) (q := a1) (ch := a2) (b := a3) (hM := hM) (r_q := r_a1) (r_ch := r_a2) (r_b := r_a3) (hno := (fun h => hB (by have h1 := h.2.1; first | exact h1 | (simp only [h5.symm, e1.1, e1.2, and_assoc] at h1 ⊢; exact h1)))), fun r2 w hw => ?_⟩; (decide); (decide)
    obtain ⟨hr2, rfl⟩ := hw
    exact ⟨by rw [up_s]; exact exn_2 hA2 (fun h => hB (by first | exact h | (simp only [h5.symm, e1.1, e1.2, and_assoc] at h ⊢; exact h))), JI_th hJ, fun h => absurd h (by decide)⟩
  have hB2 : (0 ≤ a2 ∧ a2 ≤ 5) ∧ 0 ≤ a3 ∧ a3 ≤ mby a2 (x 51 a1) := by first | exact hB | (simp only [h5.symm, e1.1, e1.2, and_assoc] at hB ⊢; exact hB)
  by_cases hC : a2 = 2 → ∀ p, 0 ≤ p → p < x (10 + a1.toNat) 1 * x (10 + a1.toNat) 1 → nc x a1.toNat p = 0 ∨ (1 ≤ a3 - nc x a1.toNat p ∧ a3 - nc x a1.toNat p ≤ 999)
  rotate_left 1
  · refine ⟨_, _, 1, 6, _, ?_, ?_, ⟨by decide, by decide⟩, v_L_change_3 (fun E h => h.trans (exc_is hA hB).symm) (x_X11_change (l := l) (hl := hl) (g := g) (x := x) (sq := a1) (ch := a2) (b := a3) (hS := hS) (r_sq := r_a1) (r_ch := r_a2) (r_b := r_a3) (hno := (fun h => hC h.2.2))), fun z y hz => ?_⟩; (decide); (decide)
    obtain ⟨rfl, rfl⟩ := hz
    refine ⟨by decide, _, _, _, ?_, ?_, e_X12_change (l := l) (g := g) (x := _) (q := a1) (ch := a2) (b := a3) (hM := hM) (r_q := r_a1) (r_ch := r_a2) (r_b := r_a3) (hno := (fun h => hC (by have h1 := h.2.2; first | exact h1 | (simp only [h5.symm, e1.1, e1.2, and_assoc] at h1 ⊢; exact h1)))), fun r2 w hw => ?_⟩; (decide); (decide)
    obtain ⟨hr2, rfl⟩ := hw
    exact ⟨by rw [up_s]; exact exn_3 hA2 hB2, JI_th hJ, fun h => absurd h (by decide)⟩
  refine ⟨_, _, 0, 0, _, ?_, ?_, ⟨by decide, by decide⟩, w_L_change _ (c_X11_change (l := l) (g := g) (x := x) (sq := a1) (ch := a2) (b := a3) (hS := hS) (r_sq := r_a1) (r_ch := r_a2) (r_b := r_a3) (hok := ⟨hA, hB, hC⟩)), fun z y hz => ?_⟩; (decide); (decide)
  have h05 := hS.1
  obtain ⟨rfl, r, y0, hp0, hy⟩ := hz
  have yy : ∀ a, a ≠ 70 → y a = y0 a := fun a ha => by rw [hy, up_i _ _ _ ha]
  obtain ⟨hr, d1, d4⟩ := hp0
  have c4 : ∀ b, b ≠ 20 + a1.toNat → b ≠ 18 → b ≠ 28 → b ≠ 70 → y b = x b := fun b q1 q2 q3 q4 => by rw [yy b q4]; exact d4 b q1 q2 q3
  have hfr : ∀ a, 50 ≤ a ∧ a ≤ 62 → y a = x a := fun a ha => c4 a (by omega) (by omega) (by omega) (by omega)
  have hMy := MS_fr hM (by rw [hfr 50 (by omega)]) (hfr 51 (by omega)) (hfr 52 (by omega))
  have k5 : y 50 1 = x 0 5 := by rw [hfr 50 (by omega)]; exact h5.symm
  have f1 : y 51 a1 = x (10 + a1.toNat) 1 ∧ nd y a1 = nc x a1.toNat := by rw [hfr 51 (by omega), nd_of (hfr 52 (by omega))]; exact e1
  have g1 := hS.2 a1.toNat (by omega)
  have hok2 : (0 ≤ a1 ∧ a1 < y 50 1) ∧ ((0 ≤ a2 ∧ a2 ≤ 5) ∧ 0 ≤ a3 ∧ a3 ≤ mby a2 (y 51 a1)) ∧ (a2 = 2 → ∀ l, 0 ≤ l → l < (y 51 a1 * y 51 a1) → nd y a1 l = 0 ∨ (1 ≤ a3 - nd y a1 l ∧ a3 - nd y a1 l ≤ 999)) := by have h0 := (show (0 ≤ a1 ∧ a1 < x 0 5) ∧ ((0 ≤ a2 ∧ a2 ≤ 5) ∧ 0 ≤ a3 ∧ a3 ≤ mby a2 (x (10 + a1.toNat) 1)) ∧ (a2 = 2 → ∀ p, 0 ≤ p → p < x (10 + a1.toNat) 1 * x (10 + a1.toNat) 1 → nc x a1.toNat p = 0 ∨ (1 ≤ a3 - nc x a1.toNat p ∧ a3 - nc x a1.toNat p ≤ 999)) from ⟨hA, hB, hC⟩); first | exact h0 | (simp only [k5, f1.1, f1.2, and_assoc] at h0 ⊢; exact h0)
  refine ⟨by decide, _, _, _, ?_, ?_, c_X12_change (l := l) (g := g) (x := _) (q := a1) (ch := a2) (b := a3) (hM := hMy) (r_q := r_a1) (r_ch := r_a2) (r_b := r_a3) (hok := hok2), fun r2 w hw => ?_⟩; (decide); (decide)
  obtain ⟨hr2, hN⟩ := hw
  simp only [k5, f1.1, f1.2] at hr2 hN
  have h70 : w 70 0 = y 70 0 := by rw [hN.2.2.2.2.2 70 (by omega)]
  exact ⟨hN.1, JI_mod hJ (by omega) (FR_cha g1.r hC) (by rw [nc_of (yy _ (by omega))]; exact d1) c4 hN, fun _ => by rw [h70, hy, up_s, hr, hr2]⟩
set_option maxHeartbeats 1000000 in
theorem D_square {l : Launch} (hl : l.stackTraces = false) {g : Gl} {x : Me} {a1 : Int} (hJ : JI x) (r_a1 : -2147483648 ≤ a1 ∧ a1 < 2147483648) : LC l g yL_square cL_square 4 [(0, 9, 12, 13), (0, 9, 15, 15)] [.ref (gA g 0), .int (zi a1), .ref (gA g 70)] x (MCI l g yX12_square cX12_square 2 .int [.ref (gA g 50), .int (zi a1)]) := by
  have hS := hJ.1; have hM := hJ.2.1; have h5 := hJ.2.2.1
  by_cases hB : 1 ≤ a1 ∧ a1 ≤ 9
  rotate_left 1
  · refine ⟨_, _, 1, 6, _, ?_, ?_, ⟨by decide, by decide⟩, v_L_square_1 (fun E h => h.trans (exc_ia trivial hB).symm) (x_X11_square (l := l) (hl := hl) (g := g) (x := x) (s := a1) (hS := hS) (r_s := r_a1) (hno := (fun h => hB h.1))), fun z y hz => ?_⟩; (decide); (decide)
    obtain ⟨rfl, rfl⟩ := hz
    refine ⟨by decide, _, _, _, ?_, ?_, e_X12_square (l := l) (g := g) (x := _) (s := a1) (hM := hM) (r_s := r_a1) (hno := (fun h => hB (by have h1 := h.1; first | exact h1 | (simp only [h5.symm, and_assoc] at h1 ⊢; exact h1)))), fun r2 w hw => ?_⟩; (decide); (decide)
    obtain ⟨hr2, rfl⟩ := hw
    exact ⟨by rw [up_s]; exact exn_2 trivial (fun h => hB (by first | exact h | (simp only [h5.symm, and_assoc] at h ⊢; exact h))), JI_th hJ, fun h => absurd h (by decide)⟩
  have hB2 : 1 ≤ a1 ∧ a1 ≤ 9 := by first | exact hB | (simp only [h5.symm, and_assoc] at hB ⊢; exact hB)
  by_cases hC : x 0 5 < 8
  rotate_left 1
  · refine ⟨_, _, 1, 6, _, ?_, ?_, ⟨by decide, by decide⟩, v_L_square_2 (fun E h => h.trans (exc_is trivial hB).symm) (x_X11_square (l := l) (hl := hl) (g := g) (x := x) (s := a1) (hS := hS) (r_s := r_a1) (hno := (fun h => hC h.2))), fun z y hz => ?_⟩; (decide); (decide)
    obtain ⟨rfl, rfl⟩ := hz
    refine ⟨by decide, _, _, _, ?_, ?_, e_X12_square (l := l) (g := g) (x := _) (s := a1) (hM := hM) (r_s := r_a1) (hno := (fun h => hC (by have h1 := h.2; first | exact h1 | (simp only [h5.symm, and_assoc] at h1 ⊢; exact h1)))), fun r2 w hw => ?_⟩; (decide); (decide)
    obtain ⟨hr2, rfl⟩ := hw
    exact ⟨by rw [up_s]; exact exn_3 trivial hB2, JI_th hJ, fun h => absurd h (by decide)⟩
  refine ⟨_, _, 0, 0, _, ?_, ?_, ⟨by decide, by decide⟩, w_L_square _ (c_X11_square (l := l) (g := g) (x := x) (s := a1) (hS := hS) (r_s := r_a1) (hok := ⟨hB, hC⟩)), fun z y hz => ?_⟩; (decide); (decide)
  have h05 := hS.1
  obtain ⟨rfl, r, y0, hp0, hy⟩ := hz
  have yy : ∀ a, a ≠ 70 → y a = y0 a := fun a ha => by rw [hy, up_i _ _ _ ha]
  obtain ⟨hr, hy0⟩ := hp0
  obtain ⟨d1, d2, d3, d4⟩ := adF_f (x := x) (s := a1)
  rw [← hy0] at d1 d2 d3 d4
  have h8 : x 0 5 < 8 := hC
  have c4 : ∀ a, a ≠ 0 → a ≠ 10 + (x 0 5).toNat → a ≠ 20 + (x 0 5).toNat → a ≠ 18 → a ≠ 28 → a ≠ 70 → y a = x a := fun a q1 q2 q3 q4 q5 q6 => by rw [yy a q6]; exact d4 a q1 q2 q3
  have hfr : ∀ a, 50 ≤ a ∧ a ≤ 62 → y a = x a := fun a ha => c4 a (by omega) (by omega) (by omega) (by omega) (by omega) (by omega)
  have hMy := MS_fr hM (by rw [hfr 50 (by omega)]) (hfr 51 (by omega)) (hfr 52 (by omega))
  have k5 : y 50 1 = x 0 5 := by rw [hfr 50 (by omega)]; exact h5.symm
  have hok2 : (1 ≤ a1 ∧ a1 ≤ 9) ∧ (y 50 1 < 8) := by have h0 := (show (1 ≤ a1 ∧ a1 ≤ 9) ∧ (x 0 5 < 8) from ⟨hB, hC⟩); first | exact h0 | (simp only [k5, and_assoc] at h0 ⊢; exact h0)
  refine ⟨by decide, _, _, _, ?_, ?_, c_X12_square (l := l) (g := g) (x := _) (s := a1) (hM := hMy) (r_s := r_a1) (hok := hok2), fun r2 w hw => ?_⟩; (decide); (decide)
  obtain ⟨hr2, hN⟩ := hw
  have hN := LY0 hN
  have h70 : w 70 0 = y 70 0 := by rw [hN.2.2.2.2.2 70 (by omega)]
  exact ⟨hN.1, JI_new hJ h8 hB FR_0 (by rw [nc_of (yy _ (by omega))]; exact d1) (by rw [yy 0 (by omega)]; exact d2) (by rw [yy _ (by omega)]; exact d3) c4 hN, fun _ => by rw [h70, hy, up_s, hr, hr2, k5]⟩
set_option maxHeartbeats 1000000 in
theorem D_make {l : Launch} (hl : l.stackTraces = false) {g : Gl} {x : Me} {a1 a2 : Int} (hJ : JI x) (r_a1 : -2147483648 ≤ a1 ∧ a1 < 2147483648) (r_a2 : -2147483648 ≤ a2 ∧ a2 < 2147483648) : LC l g yL_make cL_make 5 [(0, 10, 13, 13), (0, 10, 17, 15)] [.ref (gA g 0), .int (zi a1), .int (zi a2), .ref (gA g 70)] x (MCI l g yX12_make cX12_make 4 .int [.ref (gA g 50), .int (zi a1), .int (zi a2)]) := by
  have hS := hJ.1; have hM := hJ.2.1; have h5 := hJ.2.2.1
  by_cases hB : (0 ≤ a1 ∧ a1 ≤ 3) ∧ 1 ≤ a2 ∧ a2 ≤ 9
  rotate_left 1
  · refine ⟨_, _, 1, 6, _, ?_, ?_, ⟨by decide, by decide⟩, v_L_make_1 (fun E h => h.trans (exc_ia trivial hB).symm) (x_X11_make (l := l) (hl := hl) (g := g) (x := x) (mk := a1) (s := a2) (hS := hS) (r_mk := r_a1) (r_s := r_a2) (hno := (fun h => hB h.1))), fun z y hz => ?_⟩; (decide); (decide)
    obtain ⟨rfl, rfl⟩ := hz
    refine ⟨by decide, _, _, _, ?_, ?_, e_X12_make (l := l) (g := g) (x := _) (mk := a1) (s := a2) (hM := hM) (r_mk := r_a1) (r_s := r_a2) (hno := (fun h => hB (by have h1 := h.1; first | exact h1 | (simp only [h5.symm, and_assoc] at h1 ⊢; exact h1)))), fun r2 w hw => ?_⟩; (decide); (decide)
    obtain ⟨hr2, rfl⟩ := hw
    exact ⟨by rw [up_s]; exact exn_2 trivial (fun h => hB (by first | exact h | (simp only [h5.symm, and_assoc] at h ⊢; exact h))), JI_th hJ, fun h => absurd h (by decide)⟩
  have hB2 : (0 ≤ a1 ∧ a1 ≤ 3) ∧ 1 ≤ a2 ∧ a2 ≤ 9 := by first | exact hB | (simp only [h5.symm, and_assoc] at hB ⊢; exact hB)
  by_cases hC : hld a1 a2 ∧ x 0 5 < 8
  rotate_left 1
  · refine ⟨_, _, 1, 6, _, ?_, ?_, ⟨by decide, by decide⟩, v_L_make_2 (fun E h => h.trans (exc_is trivial hB).symm) (x_X11_make (l := l) (hl := hl) (g := g) (x := x) (mk := a1) (s := a2) (hS := hS) (r_mk := r_a1) (r_s := r_a2) (hno := (fun h => hC h.2))), fun z y hz => ?_⟩; (decide); (decide)
    obtain ⟨rfl, rfl⟩ := hz
    refine ⟨by decide, _, _, _, ?_, ?_, e_X12_make (l := l) (g := g) (x := _) (mk := a1) (s := a2) (hM := hM) (r_mk := r_a1) (r_s := r_a2) (hno := (fun h => hC (by have h1 := h.2; first | exact h1 | (simp only [h5.symm, and_assoc] at h1 ⊢; exact h1)))), fun r2 w hw => ?_⟩; (decide); (decide)
    obtain ⟨hr2, rfl⟩ := hw
    exact ⟨by rw [up_s]; exact exn_3 trivial hB2, JI_th hJ, fun h => absurd h (by decide)⟩
  refine ⟨_, _, 0, 0, _, ?_, ?_, ⟨by decide, by decide⟩, w_L_make _ (c_X11_make (l := l) (g := g) (x := x) (mk := a1) (s := a2) (hS := hS) (r_mk := r_a1) (r_s := r_a2) (hok := ⟨hB, hC⟩)), fun z y hz => ?_⟩; (decide); (decide)
  have h05 := hS.1
  obtain ⟨rfl, r, y0, hp0, hy⟩ := hz
  have yy : ∀ a, a ≠ 70 → y a = y0 a := fun a ha => by rw [hy, up_i _ _ _ ha]
  obtain ⟨hr, d1, d2, d3, d4⟩ := hp0
  have h8 : x 0 5 < 8 := hC.2
  have c4 : ∀ a, a ≠ 0 → a ≠ 10 + (x 0 5).toNat → a ≠ 20 + (x 0 5).toNat → a ≠ 18 → a ≠ 28 → a ≠ 70 → y a = x a := fun a q1 q2 q3 q4 q5 q6 => by rw [yy a q6]; exact d4 a q1 q2 q3 q4 q5
  have hfr : ∀ a, 50 ≤ a ∧ a ≤ 62 → y a = x a := fun a ha => c4 a (by omega) (by omega) (by omega) (by omega) (by omega) (by omega)
  have hMy := MS_fr hM (by rw [hfr 50 (by omega)]) (hfr 51 (by omega)) (hfr 52 (by omega))
  have k5 : y 50 1 = x 0 5 := by rw [hfr 50 (by omega)]; exact h5.symm
  have hok2 : ((0 ≤ a1 ∧ a1 ≤ 3) ∧ 1 ≤ a2 ∧ a2 ≤ 9) ∧ (hld a1 a2 ∧ y 50 1 < 8) := by have h0 := (show ((0 ≤ a1 ∧ a1 ≤ 3) ∧ 1 ≤ a2 ∧ a2 ≤ 9) ∧ (hld a1 a2 ∧ x 0 5 < 8) from ⟨hB, hC⟩); first | exact h0 | (simp only [k5, and_assoc] at h0 ⊢; exact h0)
  refine ⟨by decide, _, _, _, ?_, ?_, c_X12_make (l := l) (g := g) (x := _) (mk := a1) (s := a2) (hM := hMy) (r_mk := r_a1) (r_s := r_a2) (hok := hok2), fun r2 w hw => ?_⟩; (decide); (decide)
  obtain ⟨hr2, hN⟩ := hw
  have h70 : w 70 0 = y 70 0 := by rw [hN.2.2.2.2.2 70 (by omega)]
  exact ⟨hN.1, JI_new hJ h8 hB.2 (FR_mkf hB.2 hC.1) (by rw [nc_of (yy _ (by omega))]; exact d1) (by rw [yy 0 (by omega)]; exact d2) (by rw [yy _ (by omega)]; exact d3) c4 hN, fun _ => by rw [h70, hy, up_s, hr, hr2, k5]⟩
set_option maxHeartbeats 1000000 in
theorem D_stack {l : Launch} (hl : l.stackTraces = false) {g : Gl} {x : Me} {a1 a2 : Int} (hJ : JI x) (r_a1 : -2147483648 ≤ a1 ∧ a1 < 2147483648) (r_a2 : -2147483648 ≤ a2 ∧ a2 < 2147483648) : LC l g yL_stack cL_stack 5 [(0, 10, 13, 21), (0, 10, 17, 15)] [.ref (gA g 0), .int (zi a1), .int (zi a2), .ref (gA g 70)] x (MCI l g yX12_stack cX12_stack 6 .int [.ref (gA g 50), .int (zi a1), .int (zi a2)]) := by
  have hS := hJ.1; have hM := hJ.2.1; have h5 := hJ.2.2.1
  by_cases hq : (0 ≤ a1 ∧ a1 < x 0 5) ∧ (0 ≤ a2 ∧ a2 < x 0 5)
  rotate_left 1
  · refine ⟨_, _, 1, 6, _, ?_, ?_, ⟨by decide, by decide⟩, v_L_stack_1 (fun E h => h.trans (exc_io (fun h => hq (by omega))).symm) (x_X11_stack (l := l) (hl := hl) (g := g) (x := x) (sq := a1) (ot := a2) (hS := hS) (r_sq := r_a1) (r_ot := r_a2) (hno := (fun h => hq (by omega)))), fun z y hz => ?_⟩; (decide); (decide)
    obtain ⟨rfl, rfl⟩ := hz
    refine ⟨by decide, _, _, _, ?_, ?_, e_X12_stack (l := l) (g := g) (x := _) (q := a1) (r := a2) (hM := hM) (r_q := r_a1) (r_r := r_a2) (hno := (fun h => hq (by omega))), fun r2 w hw => ?_⟩; (decide); (decide)
    obtain ⟨hr2, rfl⟩ := hw
    exact ⟨by rw [up_s]; exact exn_1 (fun h => hq (by omega)), JI_th hJ, fun h => absurd h (by decide)⟩
  have e1 := JI_q hJ hq.1
  have e2 := JI_q hJ hq.2
  by_cases hA : (0 ≤ a1 ∧ a1 < x 0 5) ∧ 0 ≤ a2 ∧ a2 < x 0 5
  rotate_left 1
  · refine ⟨_, _, 1, 6, _, ?_, ?_, ⟨by decide, by decide⟩, v_L_stack_1 (fun E h => h.trans (exc_io hA).symm) (x_X11_stack (l := l) (hl := hl) (g := g) (x := x) (sq := a1) (ot := a2) (hS := hS) (r_sq := r_a1) (r_ot := r_a2) (hno := (fun h => hA h.1))), fun z y hz => ?_⟩; (decide); (decide)
    obtain ⟨rfl, rfl⟩ := hz
    refine ⟨by decide, _, _, _, ?_, ?_, e_X12_stack (l := l) (g := g) (x := _) (q := a1) (r := a2) (hM := hM) (r_q := r_a1) (r_r := r_a2) (hno := (fun h => hA (by have h1 := h.1; first | exact h1 | (simp only [h5.symm, e1.1, e1.2, e2.1, e2.2, and_assoc] at h1 ⊢; exact h1)))), fun r2 w hw => ?_⟩; (decide); (decide)
    obtain ⟨hr2, rfl⟩ := hw
    exact ⟨by rw [up_s]; exact exn_1 (fun h => hA (by first | exact h | (simp only [h5.symm, e1.1, e1.2, e2.1, e2.2, and_assoc] at h ⊢; exact h))), JI_th hJ, fun h => absurd h (by decide)⟩
  have hA2 : (0 ≤ a1 ∧ a1 < x 50 1) ∧ 0 ≤ a2 ∧ a2 < x 50 1 := by first | exact hA | (simp only [h5.symm, e1.1, e1.2, e2.1, e2.2, and_assoc] at hA ⊢; exact hA)
  by_cases hC : (x (10 + a1.toNat) 1 = x (10 + a2.toNat) 1 ∧ (ful (x (10 + a1.toNat) 1) (nc x a1.toNat) ∧ ful (x (10 + a2.toNat) 1) (nc x a2.toNat)) ∧ hig (nc x a1.toNat) (x (10 + a1.toNat) 1 * x (10 + a1.toNat) 1).toNat ≤ x (10 + a1.toNat) 1 ∧ hig (nc x a2.toNat) (x (10 + a2.toNat) 1 * x (10 + a2.toNat) 1).toNat ≤ x (10 + a1.toNat) 1) ∧ x 0 5 < 8
  rotate_left 1
  · refine ⟨_, _, 1, 6, _, ?_, ?_, ⟨by decide, by decide⟩, v_L_stack_2 (fun E h => h.trans (exc_is hA trivial).symm) (x_X11_stack (l := l) (hl := hl) (g := g) (x := x) (sq := a1) (ot := a2) (hS := hS) (r_sq := r_a1) (r_ot := r_a2) (hno := (fun h => hC h.2))), fun z y hz => ?_⟩; (decide); (decide)
    obtain ⟨rfl, rfl⟩ := hz
    refine ⟨by decide, _, _, _, ?_, ?_, e_X12_stack (l := l) (g := g) (x := _) (q := a1) (r := a2) (hM := hM) (r_q := r_a1) (r_r := r_a2) (hno := (fun h => hC (by have h1 := h.2; simp only [h5.symm, e1.1, e1.2, e2.1, e2.2] at h1; exact (stk_c (by have := (hS.2 a1.toNat (by omega)).2.1; omega) (hS.2 a1.toNat (by omega)).r (hS.2 a2.toNat (by omega)).r).mp h1))), fun r2 w hw => ?_⟩; (decide); (decide)
    obtain ⟨hr2, rfl⟩ := hw
    exact ⟨by rw [up_s]; exact exn_3 hA2 trivial, JI_th hJ, fun h => absurd h (by decide)⟩
  refine ⟨_, _, 0, 0, _, ?_, ?_, ⟨by decide, by decide⟩, w_L_stack _ (c_X11_stack (l := l) (g := g) (x := x) (sq := a1) (ot := a2) (hS := hS) (r_sq := r_a1) (r_ot := r_a2) (hok := ⟨hA, hC⟩)), fun z y hz => ?_⟩; (decide); (decide)
  have h05 := hS.1
  obtain ⟨rfl, r, y0, hp0, hy⟩ := hz
  have yy : ∀ a, a ≠ 70 → y a = y0 a := fun a ha => by rw [hy, up_i _ _ _ ha]
  obtain ⟨hr, d1, d2, d3, d4⟩ := hp0
  have h8 : x 0 5 < 8 := hC.2
  have c4 : ∀ a, a ≠ 0 → a ≠ 10 + (x 0 5).toNat → a ≠ 20 + (x 0 5).toNat → a ≠ 18 → a ≠ 28 → a ≠ 70 → y a = x a := fun a q1 q2 q3 q4 q5 q6 => by rw [yy a q6]; exact d4 a q1 q2 q3 q4 q5
  have hfr : ∀ a, 50 ≤ a ∧ a ≤ 62 → y a = x a := fun a ha => c4 a (by omega) (by omega) (by omega) (by omega) (by omega) (by omega)
  have hMy := MS_fr hM (by rw [hfr 50 (by omega)]) (hfr 51 (by omega)) (hfr 52 (by omega))
  have k5 : y 50 1 = x 0 5 := by rw [hfr 50 (by omega)]; exact h5.symm
  have f1 : y 51 a1 = x (10 + a1.toNat) 1 ∧ nd y a1 = nc x a1.toNat := by rw [hfr 51 (by omega), nd_of (hfr 52 (by omega))]; exact e1
  have f2 : y 51 a2 = x (10 + a2.toNat) 1 ∧ nd y a2 = nc x a2.toNat := by rw [hfr 51 (by omega), nd_of (hfr 52 (by omega))]; exact e2
  have g1 := hS.2 a1.toNat (by omega)
  have g2 := hS.2 a2.toNat (by omega)
  have hok2 : ((0 ≤ a1 ∧ a1 < y 50 1) ∧ 0 ≤ a2 ∧ a2 < y 50 1) ∧ ((y 51 a1 = y 51 a2 ∧ WI (y 51 a1) (nd y a1) (y 51 a1) ∧ WI (y 51 a2) (nd y a2) (y 51 a1)) ∧ y 50 1 < 8) := ⟨by have h0 := hA; simp only [k5, f1.1, f1.2, f2.1, f2.2]; exact h0, by simp only [k5, f1.1, f1.2, f2.1, f2.2]; exact (stk_c (by have := g1.2.1; omega) g1.r g2.r).mpr hC⟩
  refine ⟨by decide, _, _, _, ?_, ?_, c_X12_stack (l := l) (g := g) (x := _) (q := a1) (r := a2) (hM := hMy) (r_q := r_a1) (r_r := r_a2) (hok := hok2), fun r2 w hw => ?_⟩; (decide); (decide)
  obtain ⟨hr2, hN⟩ := hw
  simp only [k5, f1.1, f1.2, f2.1, f2.2] at hN
  have h70 : w 70 0 = y 70 0 := by rw [hN.2.2.2.2.2 70 (by omega)]
  have hwi := ((stk_c (by have := g1.2.1; omega) g1.r g2.r).mpr hC).1.2
  have e12 := hC.1.1
  exact ⟨hN.1, JI_new hJ h8 g1.2.1 (FR_stk g1.2.1 hwi.1 (by have h := hwi.2; rw [← e12] at h; exact h)) (by rw [nc_of (yy _ (by omega))]; exact d1) (by rw [yy 0 (by omega)]; exact d2) (by rw [yy _ (by omega)]; exact d3) c4 hN, fun _ => by rw [h70, hy, up_s, hr, hr2, k5]⟩
set_option maxHeartbeats 1000000 in
theorem D_product {l : Launch} (hl : l.stackTraces = false) {g : Gl} {x : Me} {a1 a2 : Int} (hJ : JI x) (r_a1 : -2147483648 ≤ a1 ∧ a1 < 2147483648) (r_a2 : -2147483648 ≤ a2 ∧ a2 < 2147483648) : LC l g yL_product cL_product 5 [(0, 10, 13, 21), (0, 10, 17, 15)] [.ref (gA g 0), .int (zi a1), .int (zi a2), .ref (gA g 70)] x (MCI l g yX12_product cX12_product 10 .int [.ref (gA g 50), .int (zi a1), .int (zi a2)]) := by
  have hS := hJ.1; have hM := hJ.2.1; have h5 := hJ.2.2.1
  by_cases hq : (0 ≤ a1 ∧ a1 < x 0 5) ∧ (0 ≤ a2 ∧ a2 < x 0 5)
  rotate_left 1
  · refine ⟨_, _, 1, 6, _, ?_, ?_, ⟨by decide, by decide⟩, v_L_product_1 (fun E h => h.trans (exc_io (fun h => hq (by omega))).symm) (x_X11_product (l := l) (hl := hl) (g := g) (x := x) (sq := a1) (ot := a2) (hS := hS) (r_sq := r_a1) (r_ot := r_a2) (hno := (fun h => hq (by omega)))), fun z y hz => ?_⟩; (decide); (decide)
    obtain ⟨rfl, rfl⟩ := hz
    refine ⟨by decide, _, _, _, ?_, ?_, e_X12_product (l := l) (g := g) (x := _) (q := a1) (r := a2) (hM := hM) (r_q := r_a1) (r_r := r_a2) (hno := (fun h => hq (by omega))), fun r2 w hw => ?_⟩; (decide); (decide)
    obtain ⟨hr2, rfl⟩ := hw
    exact ⟨by rw [up_s]; exact exn_1 (fun h => hq (by omega)), JI_th hJ, fun h => absurd h (by decide)⟩
  have e1 := JI_q hJ hq.1
  have e2 := JI_q hJ hq.2
  by_cases hA : (0 ≤ a1 ∧ a1 < x 0 5) ∧ 0 ≤ a2 ∧ a2 < x 0 5
  rotate_left 1
  · refine ⟨_, _, 1, 6, _, ?_, ?_, ⟨by decide, by decide⟩, v_L_product_1 (fun E h => h.trans (exc_io hA).symm) (x_X11_product (l := l) (hl := hl) (g := g) (x := x) (sq := a1) (ot := a2) (hS := hS) (r_sq := r_a1) (r_ot := r_a2) (hno := (fun h => hA h.1))), fun z y hz => ?_⟩; (decide); (decide)
    obtain ⟨rfl, rfl⟩ := hz
    refine ⟨by decide, _, _, _, ?_, ?_, e_X12_product (l := l) (g := g) (x := _) (q := a1) (r := a2) (hM := hM) (r_q := r_a1) (r_r := r_a2) (hno := (fun h => hA (by have h1 := h.1; first | exact h1 | (simp only [h5.symm, e1.1, e1.2, e2.1, e2.2, and_assoc] at h1 ⊢; exact h1)))), fun r2 w hw => ?_⟩; (decide); (decide)
    obtain ⟨hr2, rfl⟩ := hw
    exact ⟨by rw [up_s]; exact exn_1 (fun h => hA (by first | exact h | (simp only [h5.symm, e1.1, e1.2, e2.1, e2.2, and_assoc] at h ⊢; exact h))), JI_th hJ, fun h => absurd h (by decide)⟩
  have hA2 : (0 ≤ a1 ∧ a1 < x 50 1) ∧ 0 ≤ a2 ∧ a2 < x 50 1 := by first | exact hA | (simp only [h5.symm, e1.1, e1.2, e2.1, e2.2, and_assoc] at hA ⊢; exact hA)
  by_cases hC : (x (10 + a1.toNat) 1 * x (10 + a2.toNat) 1 ≤ 9 ∧ (ful (x (10 + a1.toNat) 1) (nc x a1.toNat) ∧ ful (x (10 + a2.toNat) 1) (nc x a2.toNat)) ∧ x (10 + a2.toNat) 1 * x (10 + a2.toNat) 1 * (hig (nc x a1.toNat) (x (10 + a1.toNat) 1 * x (10 + a1.toNat) 1).toNat - 1) + hig (nc x a2.toNat) (x (10 + a2.toNat) 1 * x (10 + a2.toNat) 1).toNat ≤ 999) ∧ x 0 5 < 8
  rotate_left 1
  · refine ⟨_, _, 1, 6, _, ?_, ?_, ⟨by decide, by decide⟩, v_L_product_2 (fun E h => h.trans (exc_is hA trivial).symm) (x_X11_product (l := l) (hl := hl) (g := g) (x := x) (sq := a1) (ot := a2) (hS := hS) (r_sq := r_a1) (r_ot := r_a2) (hno := (fun h => hC h.2))), fun z y hz => ?_⟩; (decide); (decide)
    obtain ⟨rfl, rfl⟩ := hz
    refine ⟨by decide, _, _, _, ?_, ?_, e_X12_product (l := l) (g := g) (x := _) (q := a1) (r := a2) (hM := hM) (r_q := r_a1) (r_r := r_a2) (hno := (fun h => hC (by have h1 := h.2; simp only [h5.symm, e1.1, e1.2, e2.1, e2.2] at h1; exact (prd_c (hS.2 a1.toNat (by omega)).r (hS.2 a2.toNat (by omega)).r).mp h1))), fun r2 w hw => ?_⟩; (decide); (decide)
    obtain ⟨hr2, rfl⟩ := hw
    exact ⟨by rw [up_s]; exact exn_3 hA2 trivial, JI_th hJ, fun h => absurd h (by decide)⟩
  refine ⟨_, _, 0, 0, _, ?_, ?_, ⟨by decide, by decide⟩, w_L_product _ (c_X11_product (l := l) (g := g) (x := x) (sq := a1) (ot := a2) (hS := hS) (r_sq := r_a1) (r_ot := r_a2) (hok := ⟨hA, hC⟩)), fun z y hz => ?_⟩; (decide); (decide)
  have h05 := hS.1
  obtain ⟨rfl, r, y0, hp0, hy⟩ := hz
  have yy : ∀ a, a ≠ 70 → y a = y0 a := fun a ha => by rw [hy, up_i _ _ _ ha]
  obtain ⟨hr, d1, d2, d3, d4⟩ := hp0
  have h8 : x 0 5 < 8 := hC.2
  have c4 : ∀ a, a ≠ 0 → a ≠ 10 + (x 0 5).toNat → a ≠ 20 + (x 0 5).toNat → a ≠ 18 → a ≠ 28 → a ≠ 70 → y a = x a := fun a q1 q2 q3 q4 q5 q6 => by rw [yy a q6]; exact d4 a q1 q2 q3 q4 q5
  have hfr : ∀ a, 50 ≤ a ∧ a ≤ 62 → y a = x a := fun a ha => c4 a (by omega) (by omega) (by omega) (by omega) (by omega) (by omega)
  have hMy := MS_fr hM (by rw [hfr 50 (by omega)]) (hfr 51 (by omega)) (hfr 52 (by omega))
  have k5 : y 50 1 = x 0 5 := by rw [hfr 50 (by omega)]; exact h5.symm
  have f1 : y 51 a1 = x (10 + a1.toNat) 1 ∧ nd y a1 = nc x a1.toNat := by rw [hfr 51 (by omega), nd_of (hfr 52 (by omega))]; exact e1
  have f2 : y 51 a2 = x (10 + a2.toNat) 1 ∧ nd y a2 = nc x a2.toNat := by rw [hfr 51 (by omega), nd_of (hfr 52 (by omega))]; exact e2
  have g1 := hS.2 a1.toNat (by omega)
  have g2 := hS.2 a2.toNat (by omega)
  have hok2 : ((0 ≤ a1 ∧ a1 < y 50 1) ∧ 0 ≤ a2 ∧ a2 < y 50 1) ∧ ((y 51 a1 * y 51 a2 ≤ 9 ∧ WI (y 51 a1) (nd y a1) 999 ∧ WI (y 51 a2) (nd y a2) 999 ∧ y 51 a2 * y 51 a2 * (hig (nd y a1) (y 51 a1 * y 51 a1).toNat - 1) + hig (nd y a2) (y 51 a2 * y 51 a2).toNat ≤ 999) ∧ y 50 1 < 8) := ⟨by have h0 := hA; simp only [k5, f1.1, f1.2, f2.1, f2.2]; exact h0, by simp only [k5, f1.1, f1.2, f2.1, f2.2]; exact (prd_c g1.r g2.r).mpr hC⟩
  refine ⟨by decide, _, _, _, ?_, ?_, c_X12_product (l := l) (g := g) (x := _) (q := a1) (r := a2) (hM := hMy) (r_q := r_a1) (r_r := r_a2) (hok := hok2), fun r2 w hw => ?_⟩; (decide); (decide)
  obtain ⟨hr2, hN⟩ := hw
  simp only [k5, f1.1, f1.2, f2.1, f2.2] at hN
  have h70 : w 70 0 = y 70 0 := by rw [hN.2.2.2.2.2 70 (by omega)]
  exact ⟨hN.1, JI_new hJ h8 (by have q1 := g1.2.1; have q2 := g2.2.1; have q3 := Int.mul_pos (show 0 < x (10 + a1.toNat) 1 by omega) (show 0 < x (10 + a2.toNat) 1 by omega); have q4 := hC.1.1; omega) (FR_prd g1.2.1 g2.2.1 hC.1.2.1.1 hC.1.2.1.2 g1.r g2.r hC.1.2.2) (by rw [nc_of (yy _ (by omega))]; exact d1) (by rw [yy 0 (by omega)]; exact d2) (by rw [yy _ (by omega)]; exact d3) c4 hN, fun _ => by rw [h70, hy, up_s, hr, hr2, k5]⟩
