set_option maxHeartbeats 1000000 in
theorem D_laws {l : Launch} (hl : l.stackTraces = false) {g : Gl} {x : Me} {a1 : Int} (hJ : JI x) (r_a1 : -2147483648 ≤ a1 ∧ a1 < 2147483648) : LC l g yL_laws cL_laws 4 [(0, 9, 12, 21)] [.ref (gA g 0), .int (zi a1), .ref (gA g 70)] x (MCI l g yX12_laws cX12_laws 2 .int [.ref (gA g 50), .int (zi a1)]) := by
  have hS := hJ.1; have hM := hJ.2.1; have h5 := hJ.2.2.1
  by_cases hq : (0 ≤ a1 ∧ a1 < x 0 5)
  rotate_left 1
  · refine ⟨_, _, 1, 6, _, ?_, ?_, ⟨by decide, by decide⟩, v_L_laws_1 (fun E h => h.trans (exc_io (fun h => hq (by omega))).symm) (x_X11_laws (l := l) (hl := hl) (g := g) (x := x) (sq := a1) (hS := hS) (r_sq := r_a1) (hno := (fun h => hq (by omega)))), fun z y hz => ?_⟩; (decide); (decide)
    obtain ⟨rfl, rfl⟩ := hz
    refine ⟨by decide, _, _, _, ?_, ?_, e_X12_laws (l := l) (g := g) (x := _) (q := a1) (hM := hM) (r_q := r_a1) (hno := (fun h => hq (by omega))), fun r2 w hw => ?_⟩; (decide); (decide)
    obtain ⟨hr2, rfl⟩ := hw
    exact ⟨by rw [up_s]; exact exn_1 (fun h => hq (by omega)), JI_th hJ, fun h => absurd h (by decide)⟩
  have e1 := JI_q hJ hq
  by_cases hA : 0 ≤ a1 ∧ a1 < x 0 5
  rotate_left 1
  · refine ⟨_, _, 1, 6, _, ?_, ?_, ⟨by decide, by decide⟩, v_L_laws_1 (fun E h => h.trans (exc_io hA).symm) (x_X11_laws (l := l) (hl := hl) (g := g) (x := x) (sq := a1) (hS := hS) (r_sq := r_a1) (hno := hA)), fun z y hz => ?_⟩; (decide); (decide)
    obtain ⟨rfl, rfl⟩ := hz
    refine ⟨by decide, _, _, _, ?_, ?_, e_X12_laws (l := l) (g := g) (x := _) (q := a1) (hM := hM) (r_q := r_a1) (hno := (fun h => hA (by have h1 := h; first | exact h1 | (simp only [h5.symm, e1.1, e1.2, and_assoc] at h1 ⊢; exact h1)))), fun r2 w hw => ?_⟩; (decide); (decide)
    obtain ⟨hr2, rfl⟩ := hw
    exact ⟨by rw [up_s]; exact exn_1 (fun h => hA (by first | exact h | (simp only [h5.symm, e1.1, e1.2, and_assoc] at h ⊢; exact h))), JI_th hJ, fun h => absurd h (by decide)⟩
  have hA2 : 0 ≤ a1 ∧ a1 < x 50 1 := by first | exact hA | (simp only [h5.symm, e1.1, e1.2, and_assoc] at hA ⊢; exact hA)
  refine ⟨_, _, 0, 0, _, ?_, ?_, ⟨by decide, by decide⟩, w_L_laws _ (c_X11_laws (l := l) (g := g) (x := x) (sq := a1) (hS := hS) (r_sq := r_a1) (hok := hA)), fun z y hz => ?_⟩; (decide); (decide)
  obtain ⟨rfl, r, y0, ⟨hr, hy0⟩, hy⟩ := hz
  have hfr : ∀ a, a < 30 ∨ (50 ≤ a ∧ a ≤ 62) → y a = x a := fun a ha => by rw [hy, up_i _ _ _ (by omega), hy0]
  have hJy := JI_f2 hJ hfr
  have k5 : y 50 1 = x 0 5 := by rw [hfr 50 (by omega)]; exact h5.symm
  have f1 : y 51 a1 = x (10 + a1.toNat) 1 ∧ nd y a1 = nc x a1.toNat := by rw [hfr 51 (by omega), nd_of (hfr 52 (by omega))]; exact e1
  have hok2 : (0 ≤ a1 ∧ a1 < y 50 1) := by have h0 := (show (0 ≤ a1 ∧ a1 < x 0 5) from hA); first | exact h0 | (simp only [k5, f1.1, f1.2, and_assoc] at h0 ⊢; exact h0)
  refine ⟨by decide, _, _, _, ?_, ?_, c_X12_laws (l := l) (g := g) (x := _) (q := a1) (hM := hJy.2.1) (r_q := r_a1) (hok := hok2), fun r2 w hw => ?_⟩; (decide); (decide)
  obtain ⟨hr2, hw⟩ := hw
  have hk := KM_th hw
  have h70 : w 70 0 = y 70 0 := by rw [hk.2.2.2.2 70 (by omega)]
  simp only [k5, f1.1, f1.2] at hr2
  exact ⟨hk.1, JI_KM hJy hk, fun _ => by rw [h70, hy, up_s, hr, hr2]⟩
set_option maxHeartbeats 1000000 in
theorem D_sum {l : Launch} (hl : l.stackTraces = false) {g : Gl} {x : Me} {a1 a2 a3 : Int} (hJ : JI x) (r_a1 : -2147483648 ≤ a1 ∧ a1 < 2147483648) (r_a2 : -2147483648 ≤ a2 ∧ a2 < 2147483648) (r_a3 : -2147483648 ≤ a3 ∧ a3 < 2147483648) : LC l g yL_sum cL_sum 6 [(0, 12, 15, 21), (0, 12, 19, 13)] [.ref (gA g 0), .int (zi a1), .int (zi a2), .int (zi a3), .ref (gA g 70)] x (MCI l g yX12_sum cX12_sum 6 .int [.ref (gA g 50), .int (zi a1), .int (zi a2), .int (zi a3)]) := by
  have hS := hJ.1; have hM := hJ.2.1; have h5 := hJ.2.2.1
  by_cases hq : (0 ≤ a1 ∧ a1 < x 0 5)
  rotate_left 1
  · refine ⟨_, _, 1, 6, _, ?_, ?_, ⟨by decide, by decide⟩, v_L_sum_1 (fun E h => h.trans (exc_io (fun h => hq (by omega))).symm) (x_X11_sum (l := l) (hl := hl) (g := g) (x := x) (sq := a1) (kind := a2) (line := a3) (hS := hS) (r_sq := r_a1) (r_kind := r_a2) (r_line := r_a3) (hno := (fun h => hq (by omega)))), fun z y hz => ?_⟩; (decide); (decide)
    obtain ⟨rfl, rfl⟩ := hz
    refine ⟨by decide, _, _, _, ?_, ?_, e_X12_sum (l := l) (g := g) (x := _) (q := a1) (kind := a2) (line := a3) (hM := hM) (r_q := r_a1) (r_kind := r_a2) (r_line := r_a3) (hno := (fun h => hq (by omega))), fun r2 w hw => ?_⟩; (decide); (decide)
    obtain ⟨hr2, rfl⟩ := hw
    exact ⟨by rw [up_s]; exact exn_1 (fun h => hq (by omega)), JI_th hJ, fun h => absurd h (by decide)⟩
  have e1 := JI_q hJ hq
  by_cases hA : 0 ≤ a1 ∧ a1 < x 0 5
  rotate_left 1
  · refine ⟨_, _, 1, 6, _, ?_, ?_, ⟨by decide, by decide⟩, v_L_sum_1 (fun E h => h.trans (exc_io hA).symm) (x_X11_sum (l := l) (hl := hl) (g := g) (x := x) (sq := a1) (kind := a2) (line := a3) (hS := hS) (r_sq := r_a1) (r_kind := r_a2) (r_line := r_a3) (hno := (fun h => hA h.1))), fun z y hz => ?_⟩; (decide); (decide)
    obtain ⟨rfl, rfl⟩ := hz
    refine ⟨by decide, _, _, _, ?_, ?_, e_X12_sum (l := l) (g := g) (x := _) (q := a1) (kind := a2) (line := a3) (hM := hM) (r_q := r_a1) (r_kind := r_a2) (r_line := r_a3) (hno := (fun h => hA (by have h1 := h.1; first | exact h1 | (simp only [h5.symm, e1.1, e1.2, and_assoc] at h1 ⊢; exact h1)))), fun r2 w hw => ?_⟩; (decide); (decide)
    obtain ⟨hr2, rfl⟩ := hw
    exact ⟨by rw [up_s]; exact exn_1 (fun h => hA (by first | exact h | (simp only [h5.symm, e1.1, e1.2, and_assoc] at h ⊢; exact h))), JI_th hJ, fun h => absurd h (by decide)⟩
  have hA2 : 0 ≤ a1 ∧ a1 < x 50 1 := by first | exact hA | (simp only [h5.symm, e1.1, e1.2, and_assoc] at hA ⊢; exact hA)
  by_cases hB : (0 ≤ a2 ∧ a2 ≤ 3) ∧ 0 ≤ a3 ∧ a3 < x (10 + a1.toNat) 1
  rotate_left 1
  · refine ⟨_, _, 1, 6, _, ?_, ?_, ⟨by decide, by decide⟩, v_L_sum_2 (fun E h => h.trans (exc_ia hA hB).symm) (x_X11_sum (l := l) (hl := hl) (g := g) (x := x) (sq := a1) (kind := a2) (line := a3) (hS := hS) (r_sq := r_a1) (r_kind := r_a2) (r_line := r_a3) (hno := (fun h => hB h.2))), fun z y hz => ?_⟩; (decide); (decide)
    obtain ⟨rfl, rfl⟩ := hz
    refine ⟨by decide, _, _, _, ?_, ?_, e_X12_sum (l := l) (g := g) (x := _) (q := a1) (kind := a2) (line := a3) (hM := hM) (r_q := r_a1) (r_kind := r_a2) (r_line := r_a3) (hno := (fun h => hB (by have h1 := h.2; first | exact h1 | (simp only [h5.symm, e1.1, e1.2, and_assoc] at h1 ⊢; exact h1)))), fun r2 w hw => ?_⟩; (decide); (decide)
    obtain ⟨hr2, rfl⟩ := hw
    exact ⟨by rw [up_s]; exact exn_2 hA2 (fun h => hB (by first | exact h | (simp only [h5.symm, e1.1, e1.2, and_assoc] at h ⊢; exact h))), JI_th hJ, fun h => absurd h (by decide)⟩
  have hB2 : (0 ≤ a2 ∧ a2 ≤ 3) ∧ 0 ≤ a3 ∧ a3 < x 51 a1 := by first | exact hB | (simp only [h5.symm, e1.1, e1.2, and_assoc] at hB ⊢; exact hB)
  refine ⟨_, _, 0, 0, _, ?_, ?_, ⟨by decide, by decide⟩, w_L_sum _ (c_X11_sum (l := l) (g := g) (x := x) (sq := a1) (kind := a2) (line := a3) (hS := hS) (r_sq := r_a1) (r_kind := r_a2) (r_line := r_a3) (hok := ⟨hA, hB⟩)), fun z y hz => ?_⟩; (decide); (decide)
  obtain ⟨rfl, r, y0, ⟨hr, hy0⟩, hy⟩ := hz
  have hfr : ∀ a, a < 30 ∨ (50 ≤ a ∧ a ≤ 62) → y a = x a := fun a ha => by rw [hy, up_i _ _ _ (by omega), hy0]
  have hJy := JI_f2 hJ hfr
  have k5 : y 50 1 = x 0 5 := by rw [hfr 50 (by omega)]; exact h5.symm
  have f1 : y 51 a1 = x (10 + a1.toNat) 1 ∧ nd y a1 = nc x a1.toNat := by rw [hfr 51 (by omega), nd_of (hfr 52 (by omega))]; exact e1
  have hok2 : (0 ≤ a1 ∧ a1 < y 50 1) ∧ ((0 ≤ a2 ∧ a2 ≤ 3) ∧ 0 ≤ a3 ∧ a3 < y 51 a1) := by have h0 := (show (0 ≤ a1 ∧ a1 < x 0 5) ∧ ((0 ≤ a2 ∧ a2 ≤ 3) ∧ 0 ≤ a3 ∧ a3 < x (10 + a1.toNat) 1) from ⟨hA, hB⟩); first | exact h0 | (simp only [k5, f1.1, f1.2, and_assoc] at h0 ⊢; exact h0)
  refine ⟨by decide, _, _, _, ?_, ?_, c_X12_sum (l := l) (g := g) (x := _) (q := a1) (kind := a2) (line := a3) (hM := hJy.2.1) (r_q := r_a1) (r_kind := r_a2) (r_line := r_a3) (hok := hok2), fun r2 w hw => ?_⟩; (decide); (decide)
  obtain ⟨hr2, hw⟩ := hw
  have hk := KM_th hw
  have h70 : w 70 0 = y 70 0 := by rw [hk.2.2.2.2 70 (by omega)]
  simp only [k5, f1.1, f1.2] at hr2
  exact ⟨hk.1, JI_KM hJy hk, fun _ => by rw [h70, hy, up_s, hr, hr2]⟩
set_option maxHeartbeats 1000000 in
theorem D_at {l : Launch} (hl : l.stackTraces = false) {g : Gl} {x : Me} {a1 a2 a3 : Int} (hJ : JI x) (r_a1 : -2147483648 ≤ a1 ∧ a1 < 2147483648) (r_a2 : -2147483648 ≤ a2 ∧ a2 < 2147483648) (r_a3 : -2147483648 ≤ a3 ∧ a3 < 2147483648) : LC l g yL_at cL_at 6 [(0, 12, 15, 21)] [.ref (gA g 0), .int (zi a1), .int (zi a2), .int (zi a3), .ref (gA g 70)] x (MCI l g yX12_at cX12_at 4 .int [.ref (gA g 50), .int (zi a1), .int (zi a2), .int (zi a3)]) := by
  have hS := hJ.1; have hM := hJ.2.1; have h5 := hJ.2.2.1
  by_cases hq : (0 ≤ a1 ∧ a1 < x 0 5)
  rotate_left 1
  · refine ⟨_, _, 1, 6, _, ?_, ?_, ⟨by decide, by decide⟩, v_L_at_1 (fun E h => h.trans (exc_io (fun h => hq (by omega))).symm) (x_X11_at (l := l) (hl := hl) (g := g) (x := x) (sq := a1) (r := a2) (c := a3) (hS := hS) (r_sq := r_a1) (r_r := r_a2) (r_c := r_a3) (hno := (fun h => hq (by omega)))), fun z y hz => ?_⟩; (decide); (decide)
    obtain ⟨rfl, rfl⟩ := hz
    refine ⟨by decide, _, _, _, ?_, ?_, e_X12_at (l := l) (g := g) (x := _) (q := a1) (r := a2) (c := a3) (hM := hM) (r_q := r_a1) (r_r := r_a2) (r_c := r_a3) (hno := (fun h => hq (by omega))), fun r2 w hw => ?_⟩; (decide); (decide)
    obtain ⟨hr2, rfl⟩ := hw
    exact ⟨by rw [up_s]; exact exn_1 (fun h => hq (by omega)), JI_th hJ, fun h => absurd h (by decide)⟩
  have e1 := JI_q hJ hq
  by_cases hA : 0 ≤ a1 ∧ a1 < x 0 5 ∧ (0 ≤ a2 ∧ a2 < x (10 + a1.toNat) 1) ∧ 0 ≤ a3 ∧ a3 < x (10 + a1.toNat) 1
  rotate_left 1
  · refine ⟨_, _, 1, 6, _, ?_, ?_, ⟨by decide, by decide⟩, v_L_at_1 (fun E h => h.trans (exc_io hA).symm) (x_X11_at (l := l) (hl := hl) (g := g) (x := x) (sq := a1) (r := a2) (c := a3) (hS := hS) (r_sq := r_a1) (r_r := r_a2) (r_c := r_a3) (hno := hA)), fun z y hz => ?_⟩; (decide); (decide)
    obtain ⟨rfl, rfl⟩ := hz
    refine ⟨by decide, _, _, _, ?_, ?_, e_X12_at (l := l) (g := g) (x := _) (q := a1) (r := a2) (c := a3) (hM := hM) (r_q := r_a1) (r_r := r_a2) (r_c := r_a3) (hno := (fun h => hA (by have h1 := h; first | exact h1 | (simp only [h5.symm, e1.1, e1.2, and_assoc] at h1 ⊢; exact h1)))), fun r2 w hw => ?_⟩; (decide); (decide)
    obtain ⟨hr2, rfl⟩ := hw
    exact ⟨by rw [up_s]; exact exn_1 (fun h => hA (by first | exact h | (simp only [h5.symm, e1.1, e1.2, and_assoc] at h ⊢; exact h))), JI_th hJ, fun h => absurd h (by decide)⟩
  have hA2 : ((0 ≤ a1 ∧ a1 < x 50 1) ∧ (0 ≤ a2 ∧ a2 < x 51 a1) ∧ 0 ≤ a3 ∧ a3 < x 51 a1) := by first | exact hA | (simp only [h5.symm, e1.1, e1.2, and_assoc] at hA ⊢; exact hA)
  refine ⟨_, _, 0, 0, _, ?_, ?_, ⟨by decide, by decide⟩, w_L_at _ (c_X11_at (l := l) (g := g) (x := x) (sq := a1) (r := a2) (c := a3) (hS := hS) (r_sq := r_a1) (r_r := r_a2) (r_c := r_a3) (hok := hA)), fun z y hz => ?_⟩; (decide); (decide)
  obtain ⟨rfl, r, y0, ⟨hr, hy0⟩, hy⟩ := hz
  have hfr : ∀ a, a < 30 ∨ (50 ≤ a ∧ a ≤ 62) → y a = x a := fun a ha => by rw [hy, up_i _ _ _ (by omega), hy0]
  have hJy := JI_f2 hJ hfr
  have k5 : y 50 1 = x 0 5 := by rw [hfr 50 (by omega)]; exact h5.symm
  have f1 : y 51 a1 = x (10 + a1.toNat) 1 ∧ nd y a1 = nc x a1.toNat := by rw [hfr 51 (by omega), nd_of (hfr 52 (by omega))]; exact e1
  have hok2 : (((0 ≤ a1 ∧ a1 < y 50 1) ∧ (0 ≤ a2 ∧ a2 < y 51 a1) ∧ 0 ≤ a3 ∧ a3 < y 51 a1)) := by have h0 := (show (0 ≤ a1 ∧ a1 < x 0 5 ∧ (0 ≤ a2 ∧ a2 < x (10 + a1.toNat) 1) ∧ 0 ≤ a3 ∧ a3 < x (10 + a1.toNat) 1) from hA); first | exact h0 | (simp only [k5, f1.1, f1.2, and_assoc] at h0 ⊢; exact h0)
  refine ⟨by decide, _, _, _, ?_, ?_, c_X12_at (l := l) (g := g) (x := _) (q := a1) (r := a2) (c := a3) (hM := hJy.2.1) (r_q := r_a1) (r_r := r_a2) (r_c := r_a3) (hok := hok2), fun r2 w hw => ?_⟩; (decide); (decide)
  obtain ⟨hr2, hw⟩ := hw
  have hk := KM_th hw
  have h70 : w 70 0 = y 70 0 := by rw [hk.2.2.2.2 70 (by omega)]
  simp only [k5, f1.1, f1.2] at hr2
  exact ⟨hk.1, JI_KM hJy hk, fun _ => by rw [h70, hy, up_s, hr, hr2]⟩
set_option maxHeartbeats 1000000 in
theorem D_least {l : Launch} (hl : l.stackTraces = false) {g : Gl} {x : Me} {a1 a2 a3 : Int} (hJ : JI x) (r_a1 : -2147483648 ≤ a1 ∧ a1 < 2147483648) (r_a2 : -2147483648 ≤ a2 ∧ a2 < 2147483648) (r_a3 : -2147483648 ≤ a3 ∧ a3 < 2147483648) : LC l g yL_least cL_least 6 [(0, 12, 15, 21)] [.ref (gA g 0), .int (zi a1), .int (zi a2), .int (zi a3), .ref (gA g 70)] x (MCI l g yX12_least cX12_least 6 .int [.ref (gA g 50), .int (zi a1), .int (zi a2), .int (zi a3)]) := by
  have hS := hJ.1; have hM := hJ.2.1; have h5 := hJ.2.2.1
  by_cases hq : (0 ≤ a1 ∧ a1 < x 0 5)
  rotate_left 1
  · refine ⟨_, _, 1, 6, _, ?_, ?_, ⟨by decide, by decide⟩, v_L_least_1 (fun E h => h.trans (exc_io (fun h => hq (by omega))).symm) (x_X11_least (l := l) (hl := hl) (g := g) (x := x) (sq := a1) (r := a2) (c := a3) (hS := hS) (r_sq := r_a1) (r_r := r_a2) (r_c := r_a3) (hno := (fun h => hq (by omega)))), fun z y hz => ?_⟩; (decide); (decide)
    obtain ⟨rfl, rfl⟩ := hz
    refine ⟨by decide, _, _, _, ?_, ?_, e_X12_least (l := l) (g := g) (x := _) (q := a1) (r := a2) (c := a3) (hM := hM) (r_q := r_a1) (r_r := r_a2) (r_c := r_a3) (hno := (fun h => hq (by omega))), fun r2 w hw => ?_⟩; (decide); (decide)
    obtain ⟨hr2, rfl⟩ := hw
    exact ⟨by rw [up_s]; exact exn_1 (fun h => hq (by omega)), JI_th hJ, fun h => absurd h (by decide)⟩
  have e1 := JI_q hJ hq
  by_cases hA : 0 ≤ a1 ∧ a1 < x 0 5 ∧ (0 ≤ a2 ∧ a2 < x (10 + a1.toNat) 1) ∧ 0 ≤ a3 ∧ a3 < x (10 + a1.toNat) 1
  rotate_left 1
  · refine ⟨_, _, 1, 6, _, ?_, ?_, ⟨by decide, by decide⟩, v_L_least_1 (fun E h => h.trans (exc_io hA).symm) (x_X11_least (l := l) (hl := hl) (g := g) (x := x) (sq := a1) (r := a2) (c := a3) (hS := hS) (r_sq := r_a1) (r_r := r_a2) (r_c := r_a3) (hno := hA)), fun z y hz => ?_⟩; (decide); (decide)
    obtain ⟨rfl, rfl⟩ := hz
    refine ⟨by decide, _, _, _, ?_, ?_, e_X12_least (l := l) (g := g) (x := _) (q := a1) (r := a2) (c := a3) (hM := hM) (r_q := r_a1) (r_r := r_a2) (r_c := r_a3) (hno := (fun h => hA (by have h1 := h; first | exact h1 | (simp only [h5.symm, e1.1, e1.2, and_assoc] at h1 ⊢; exact h1)))), fun r2 w hw => ?_⟩; (decide); (decide)
    obtain ⟨hr2, rfl⟩ := hw
    exact ⟨by rw [up_s]; exact exn_1 (fun h => hA (by first | exact h | (simp only [h5.symm, e1.1, e1.2, and_assoc] at h ⊢; exact h))), JI_th hJ, fun h => absurd h (by decide)⟩
  have hA2 : ((0 ≤ a1 ∧ a1 < x 50 1) ∧ (0 ≤ a2 ∧ a2 < x 51 a1) ∧ 0 ≤ a3 ∧ a3 < x 51 a1) := by first | exact hA | (simp only [h5.symm, e1.1, e1.2, and_assoc] at hA ⊢; exact hA)
  refine ⟨_, _, 0, 0, _, ?_, ?_, ⟨by decide, by decide⟩, w_L_least _ (c_X11_least (l := l) (g := g) (x := x) (sq := a1) (r := a2) (c := a3) (hS := hS) (r_sq := r_a1) (r_r := r_a2) (r_c := r_a3) (hok := hA)), fun z y hz => ?_⟩; (decide); (decide)
  obtain ⟨rfl, r, y0, ⟨hr, hy0⟩, hy⟩ := hz
  have hfr : ∀ a, a < 30 ∨ (50 ≤ a ∧ a ≤ 62) → y a = x a := fun a ha => by rw [hy, up_i _ _ _ (by omega), hy0]
  have hJy := JI_f2 hJ hfr
  have k5 : y 50 1 = x 0 5 := by rw [hfr 50 (by omega)]; exact h5.symm
  have f1 : y 51 a1 = x (10 + a1.toNat) 1 ∧ nd y a1 = nc x a1.toNat := by rw [hfr 51 (by omega), nd_of (hfr 52 (by omega))]; exact e1
  have hok2 : (((0 ≤ a1 ∧ a1 < y 50 1) ∧ (0 ≤ a2 ∧ a2 < y 51 a1) ∧ 0 ≤ a3 ∧ a3 < y 51 a1)) := by have h0 := (show (0 ≤ a1 ∧ a1 < x 0 5 ∧ (0 ≤ a2 ∧ a2 < x (10 + a1.toNat) 1) ∧ 0 ≤ a3 ∧ a3 < x (10 + a1.toNat) 1) from hA); first | exact h0 | (simp only [k5, f1.1, f1.2, and_assoc] at h0 ⊢; exact h0)
  refine ⟨by decide, _, _, _, ?_, ?_, c_X12_least (l := l) (g := g) (x := _) (q := a1) (r := a2) (c := a3) (hM := hJy.2.1) (r_q := r_a1) (r_r := r_a2) (r_c := r_a3) (hok := hok2), fun r2 w hw => ?_⟩; (decide); (decide)
  obtain ⟨hr2, hw⟩ := hw
  have hk := KM_th hw
  have h70 : w 70 0 = y 70 0 := by rw [hk.2.2.2.2 70 (by omega)]
  simp only [k5, f1.1, f1.2] at hr2
  exact ⟨hk.1, JI_KM hJy hk, fun _ => by rw [h70, hy, up_s, hr, hr2]⟩
set_option maxHeartbeats 1000000 in
theorem D_same {l : Launch} (hl : l.stackTraces = false) {g : Gl} {x : Me} {a1 a2 : Int} (hJ : JI x) (r_a1 : -2147483648 ≤ a1 ∧ a1 < 2147483648) (r_a2 : -2147483648 ≤ a2 ∧ a2 < 2147483648) : LC l g yL_same cL_same 5 [(0, 17, 20, 21)] [.ref (gA g 0), .int (zi a1), .int (zi a2), .ref (gA g 70)] x (MCB l g yX12_same cX12_same 3 .boolean [.ref (gA g 50), .int (zi a1), .int (zi a2)]) := by
  have hS := hJ.1; have hM := hJ.2.1; have h5 := hJ.2.2.1
  by_cases hq : (0 ≤ a1 ∧ a1 < x 0 5) ∧ (0 ≤ a2 ∧ a2 < x 0 5)
  rotate_left 1
  · refine ⟨_, _, 1, 6, _, ?_, ?_, ⟨by decide, by decide⟩, v_L_same_1 (fun E h => h.trans (exc_io (fun h => hq (by omega))).symm) (x_X11_same (l := l) (hl := hl) (g := g) (x := x) (sq := a1) (ot := a2) (hS := hS) (r_sq := r_a1) (r_ot := r_a2) (hno := (fun h => hq (by omega)))), fun z y hz => ?_⟩; (decide); (decide)
    obtain ⟨rfl, rfl⟩ := hz
    refine ⟨by decide, _, _, _, ?_, ?_, e_X12_same (l := l) (g := g) (x := _) (q := a1) (r := a2) (hM := hM) (r_q := r_a1) (r_r := r_a2) (hno := (fun h => hq (by omega))), fun r2 w hw => ?_⟩; (decide); (decide)
    obtain ⟨hr2, rfl⟩ := hw
    exact ⟨by rw [up_s]; exact exn_1 (fun h => hq (by omega)), JI_th hJ, Or.inl hr2, fun h => absurd h (by decide)⟩
  have e1 := JI_q hJ hq.1
  have e2 := JI_q hJ hq.2
  by_cases hA : (0 ≤ a1 ∧ a1 < x 0 5) ∧ 0 ≤ a2 ∧ a2 < x 0 5
  rotate_left 1
  · refine ⟨_, _, 1, 6, _, ?_, ?_, ⟨by decide, by decide⟩, v_L_same_1 (fun E h => h.trans (exc_io hA).symm) (x_X11_same (l := l) (hl := hl) (g := g) (x := x) (sq := a1) (ot := a2) (hS := hS) (r_sq := r_a1) (r_ot := r_a2) (hno := hA)), fun z y hz => ?_⟩; (decide); (decide)
    obtain ⟨rfl, rfl⟩ := hz
    refine ⟨by decide, _, _, _, ?_, ?_, e_X12_same (l := l) (g := g) (x := _) (q := a1) (r := a2) (hM := hM) (r_q := r_a1) (r_r := r_a2) (hno := (fun h => hA (by have h1 := h; first | exact h1 | (simp only [h5.symm, e1.1, e1.2, e2.1, e2.2, and_assoc] at h1 ⊢; exact h1)))), fun r2 w hw => ?_⟩; (decide); (decide)
    obtain ⟨hr2, rfl⟩ := hw
    exact ⟨by rw [up_s]; exact exn_1 (fun h => hA (by first | exact h | (simp only [h5.symm, e1.1, e1.2, e2.1, e2.2, and_assoc] at h ⊢; exact h))), JI_th hJ, Or.inl hr2, fun h => absurd h (by decide)⟩
  have hA2 : (0 ≤ a1 ∧ a1 < x 50 1) ∧ 0 ≤ a2 ∧ a2 < x 50 1 := by first | exact hA | (simp only [h5.symm, e1.1, e1.2, e2.1, e2.2, and_assoc] at hA ⊢; exact hA)
  refine ⟨_, _, 0, 0, _, ?_, ?_, ⟨by decide, by decide⟩, w_L_same _ (c_X11_same (l := l) (g := g) (x := x) (sq := a1) (ot := a2) (hS := hS) (r_sq := r_a1) (r_ot := r_a2) (hok := hA)) (fun r y hp => by rcases hp.1 with ⟨h, -⟩ | ⟨h, -⟩; exact Or.inr h; exact Or.inl h), fun z y hz => ?_⟩; (decide); (decide)
  obtain ⟨rfl, r, y0, ⟨hr, hy0⟩, hy⟩ := hz
  have hfr : ∀ a, a < 30 ∨ (50 ≤ a ∧ a ≤ 62) → y a = x a := fun a ha => by rw [hy, up_i _ _ _ (by omega), hy0]
  have hJy := JI_f2 hJ hfr
  have k5 : y 50 1 = x 0 5 := by rw [hfr 50 (by omega)]; exact h5.symm
  have f1 : y 51 a1 = x (10 + a1.toNat) 1 ∧ nd y a1 = nc x a1.toNat := by rw [hfr 51 (by omega), nd_of (hfr 52 (by omega))]; exact e1
  have f2 : y 51 a2 = x (10 + a2.toNat) 1 ∧ nd y a2 = nc x a2.toNat := by rw [hfr 51 (by omega), nd_of (hfr 52 (by omega))]; exact e2
  have hok2 : ((0 ≤ a1 ∧ a1 < y 50 1) ∧ 0 ≤ a2 ∧ a2 < y 50 1) := by have h0 := (show ((0 ≤ a1 ∧ a1 < x 0 5) ∧ 0 ≤ a2 ∧ a2 < x 0 5) from hA); first | exact h0 | (simp only [k5, f1.1, f1.2, f2.1, f2.2, and_assoc] at h0 ⊢; exact h0)
  refine ⟨by decide, _, _, _, ?_, ?_, c_X12_same (l := l) (g := g) (x := _) (q := a1) (r := a2) (hM := hJy.2.1) (r_q := r_a1) (r_r := r_a2) (hok := hok2), fun r2 w hw => ?_⟩; (decide); (decide)
  obtain ⟨hr2, hw⟩ := hw
  have hk := KM_th hw
  have h70 : w 70 0 = y 70 0 := by rw [hk.2.2.2.2 70 (by omega)]
  have hrr : r = r2 := by
    unfold KD at hr2
    simp only [k5, f1.1, f1.2, f2.1, f2.2] at hr2
    rcases hr with ⟨p1, p2⟩ | ⟨p1, p2⟩ <;> rcases hr2 with ⟨q1, q2⟩ | ⟨q1, q2⟩ <;> first | exact p1.trans q1.symm | exact absurd p2 q2 | exact absurd q2 p2
  have h01 : r2 = 0 ∨ r2 = 1 := by rcases hr2 with ⟨h, -⟩ | ⟨h, -⟩; exact Or.inr h; exact Or.inl h
  exact ⟨hk.1, JI_KM hJy hk, h01, fun _ => by rw [h70, hy, up_s, hrr]⟩
set_option maxHeartbeats 1000000 in
theorem D_kin {l : Launch} (hl : l.stackTraces = false) {g : Gl} {x : Me} {a1 : Int} (hJ : JI x) (r_a1 : -2147483648 ≤ a1 ∧ a1 < 2147483648) : LC l g yL_kin cL_kin 4 [(0, 9, 12, 21)] [.ref (gA g 0), .int (zi a1), .ref (gA g 70)] x (MCI l g yX12_kin cX12_kin 4 .int [.ref (gA g 50), .int (zi a1)]) := by
  have hS := hJ.1; have hM := hJ.2.1; have h5 := hJ.2.2.1
  by_cases hq : (0 ≤ a1 ∧ a1 < x 0 5)
  rotate_left 1
  · refine ⟨_, _, 1, 6, _, ?_, ?_, ⟨by decide, by decide⟩, v_L_kin_1 (fun E h => h.trans (exc_io (fun h => hq (by omega))).symm) (x_X11_kin (l := l) (hl := hl) (g := g) (x := x) (sq := a1) (hS := hS) (r_sq := r_a1) (hno := (fun h => hq (by omega)))), fun z y hz => ?_⟩; (decide); (decide)
    obtain ⟨rfl, rfl⟩ := hz
    refine ⟨by decide, _, _, _, ?_, ?_, e_X12_kin (l := l) (g := g) (x := _) (q := a1) (hM := hM) (r_q := r_a1) (hno := (fun h => hq (by omega))), fun r2 w hw => ?_⟩; (decide); (decide)
    obtain ⟨hr2, rfl⟩ := hw
    exact ⟨by rw [up_s]; exact exn_1 (fun h => hq (by omega)), JI_th hJ, fun h => absurd h (by decide)⟩
  have e1 := JI_q hJ hq
  by_cases hA : 0 ≤ a1 ∧ a1 < x 0 5
  rotate_left 1
  · refine ⟨_, _, 1, 6, _, ?_, ?_, ⟨by decide, by decide⟩, v_L_kin_1 (fun E h => h.trans (exc_io hA).symm) (x_X11_kin (l := l) (hl := hl) (g := g) (x := x) (sq := a1) (hS := hS) (r_sq := r_a1) (hno := hA)), fun z y hz => ?_⟩; (decide); (decide)
    obtain ⟨rfl, rfl⟩ := hz
    refine ⟨by decide, _, _, _, ?_, ?_, e_X12_kin (l := l) (g := g) (x := _) (q := a1) (hM := hM) (r_q := r_a1) (hno := (fun h => hA (by have h1 := h; first | exact h1 | (simp only [h5.symm, e1.1, e1.2, and_assoc] at h1 ⊢; exact h1)))), fun r2 w hw => ?_⟩; (decide); (decide)
    obtain ⟨hr2, rfl⟩ := hw
    exact ⟨by rw [up_s]; exact exn_1 (fun h => hA (by first | exact h | (simp only [h5.symm, e1.1, e1.2, and_assoc] at h ⊢; exact h))), JI_th hJ, fun h => absurd h (by decide)⟩
  have hA2 : 0 ≤ a1 ∧ a1 < x 50 1 := by first | exact hA | (simp only [h5.symm, e1.1, e1.2, and_assoc] at hA ⊢; exact hA)
  refine ⟨_, _, 0, 0, _, ?_, ?_, ⟨by decide, by decide⟩, w_L_kin _ (c_X11_kin (l := l) (g := g) (x := x) (sq := a1) (hS := hS) (r_sq := r_a1) (hok := hA)), fun z y hz => ?_⟩; (decide); (decide)
  obtain ⟨rfl, r, y0, ⟨hr, hy0⟩, hy⟩ := hz
  have hfr : ∀ a, a < 30 ∨ (50 ≤ a ∧ a ≤ 62) → y a = x a := fun a ha => by rw [hy, up_i _ _ _ (by omega), hy0]
  have hJy := JI_f2 hJ hfr
  have k5 : y 50 1 = x 0 5 := by rw [hfr 50 (by omega)]; exact h5.symm
  have f1 : y 51 a1 = x (10 + a1.toNat) 1 ∧ nd y a1 = nc x a1.toNat := by rw [hfr 51 (by omega), nd_of (hfr 52 (by omega))]; exact e1
  have hok2 : (0 ≤ a1 ∧ a1 < y 50 1) := by have h0 := (show (0 ≤ a1 ∧ a1 < x 0 5) from hA); first | exact h0 | (simp only [k5, f1.1, f1.2, and_assoc] at h0 ⊢; exact h0)
  refine ⟨by decide, _, _, _, ?_, ?_, c_X12_kin (l := l) (g := g) (x := _) (q := a1) (hM := hJy.2.1) (r_q := r_a1) (hok := hok2), fun r2 w hw => ?_⟩; (decide); (decide)
  obtain ⟨hr2, hw⟩ := hw
  have hk := KM_th hw
  have h70 : w 70 0 = y 70 0 := by rw [hk.2.2.2.2 70 (by omega)]
  simp only [k5, f1.1, f1.2] at hr2
  exact ⟨hk.1, JI_KM hJy hk, fun _ => by rw [h70, hy, up_s, hr, hr2]⟩
set_option maxHeartbeats 1000000 in
theorem D_slip {l : Launch} (hl : l.stackTraces = false) {g : Gl} {x : Me} {a1 a2 : Int} (hJ : JI x) (r_a1 : -2147483648 ≤ a1 ∧ a1 < 2147483648) (r_a2 : -2147483648 ≤ a2 ∧ a2 < 2147483648) : LC l g yL_slip cL_slip 5 [(0, 10, 13, 21), (0, 10, 17, 13)] [.ref (gA g 0), .int (zi a1), .int (zi a2), .ref (gA g 70)] x (MCI l g yX12_slip cX12_slip 12 .int [.ref (gA g 50), .int (zi a1), .int (zi a2)]) := by
  have hS := hJ.1; have hM := hJ.2.1; have h5 := hJ.2.2.1
  by_cases hq : (0 ≤ a1 ∧ a1 < x 0 5)
  rotate_left 1
  · refine ⟨_, _, 1, 6, _, ?_, ?_, ⟨by decide, by decide⟩, v_L_slip_1 (fun E h => h.trans (exc_io (fun h => hq (by omega))).symm) (x_X11_slip (l := l) (hl := hl) (g := g) (x := x) (sq := a1) (what := a2) (hS := hS) (r_sq := r_a1) (r_what := r_a2) (hno := (fun h => hq (by omega)))), fun z y hz => ?_⟩; (decide); (decide)
    obtain ⟨rfl, rfl⟩ := hz
    refine ⟨by decide, _, _, _, ?_, ?_, e_X12_slip (l := l) (g := g) (x := _) (q := a1) (what := a2) (hM := hM) (r_q := r_a1) (r_what := r_a2) (hno := (fun h => hq (by omega))), fun r2 w hw => ?_⟩; (decide); (decide)
    obtain ⟨hr2, rfl⟩ := hw
    exact ⟨by rw [up_s]; exact exn_1 (fun h => hq (by omega)), JI_th hJ, fun h => absurd h (by decide)⟩
  have e1 := JI_q hJ hq
  by_cases hA : 0 ≤ a1 ∧ a1 < x 0 5
  rotate_left 1
  · refine ⟨_, _, 1, 6, _, ?_, ?_, ⟨by decide, by decide⟩, v_L_slip_1 (fun E h => h.trans (exc_io hA).symm) (x_X11_slip (l := l) (hl := hl) (g := g) (x := x) (sq := a1) (what := a2) (hS := hS) (r_sq := r_a1) (r_what := r_a2) (hno := (fun h => hA h.1))), fun z y hz => ?_⟩; (decide); (decide)
    obtain ⟨rfl, rfl⟩ := hz
    refine ⟨by decide, _, _, _, ?_, ?_, e_X12_slip (l := l) (g := g) (x := _) (q := a1) (what := a2) (hM := hM) (r_q := r_a1) (r_what := r_a2) (hno := (fun h => hA (by have h1 := h.1; first | exact h1 | (simp only [h5.symm, e1.1, e1.2, and_assoc] at h1 ⊢; exact h1)))), fun r2 w hw => ?_⟩; (decide); (decide)
    obtain ⟨hr2, rfl⟩ := hw
    exact ⟨by rw [up_s]; exact exn_1 (fun h => hA (by first | exact h | (simp only [h5.symm, e1.1, e1.2, and_assoc] at h ⊢; exact h))), JI_th hJ, fun h => absurd h (by decide)⟩
  have hA2 : 0 ≤ a1 ∧ a1 < x 50 1 := by first | exact hA | (simp only [h5.symm, e1.1, e1.2, and_assoc] at hA ⊢; exact hA)
  by_cases hB : 0 ≤ a2 ∧ a2 ≤ 2
  rotate_left 1
  · refine ⟨_, _, 1, 6, _, ?_, ?_, ⟨by decide, by decide⟩, v_L_slip_2 (fun E h => h.trans (exc_ia hA hB).symm) (x_X11_slip (l := l) (hl := hl) (g := g) (x := x) (sq := a1) (what := a2) (hS := hS) (r_sq := r_a1) (r_what := r_a2) (hno := (fun h => hB h.2))), fun z y hz => ?_⟩; (decide); (decide)
    obtain ⟨rfl, rfl⟩ := hz
    refine ⟨by decide, _, _, _, ?_, ?_, e_X12_slip (l := l) (g := g) (x := _) (q := a1) (what := a2) (hM := hM) (r_q := r_a1) (r_what := r_a2) (hno := (fun h => hB (by have h1 := h.2; first | exact h1 | (simp only [h5.symm, e1.1, e1.2, and_assoc] at h1 ⊢; exact h1)))), fun r2 w hw => ?_⟩; (decide); (decide)
    obtain ⟨hr2, rfl⟩ := hw
    exact ⟨by rw [up_s]; exact exn_2 hA2 (fun h => hB (by first | exact h | (simp only [h5.symm, e1.1, e1.2, and_assoc] at h ⊢; exact h))), JI_th hJ, fun h => absurd h (by decide)⟩
  have hB2 : 0 ≤ a2 ∧ a2 ≤ 2 := by first | exact hB | (simp only [h5.symm, e1.1, e1.2, and_assoc] at hB ⊢; exact hB)
  refine ⟨_, _, 0, 0, _, ?_, ?_, ⟨by decide, by decide⟩, w_L_slip _ (c_X11_slip (l := l) (g := g) (x := x) (sq := a1) (what := a2) (hS := hS) (r_sq := r_a1) (r_what := r_a2) (hok := ⟨hA, hB⟩)), fun z y hz => ?_⟩; (decide); (decide)
  obtain ⟨rfl, r, y0, ⟨hr, hy0⟩, hy⟩ := hz
  have hfr : ∀ a, a < 30 ∨ (50 ≤ a ∧ a ≤ 62) → y a = x a := fun a ha => by rw [hy, up_i _ _ _ (by omega), hy0]
  have hJy := JI_f2 hJ hfr
  have k5 : y 50 1 = x 0 5 := by rw [hfr 50 (by omega)]; exact h5.symm
  have f1 : y 51 a1 = x (10 + a1.toNat) 1 ∧ nd y a1 = nc x a1.toNat := by rw [hfr 51 (by omega), nd_of (hfr 52 (by omega))]; exact e1
  have hok2 : (0 ≤ a1 ∧ a1 < y 50 1) ∧ (0 ≤ a2 ∧ a2 ≤ 2) := by have h0 := (show (0 ≤ a1 ∧ a1 < x 0 5) ∧ (0 ≤ a2 ∧ a2 ≤ 2) from ⟨hA, hB⟩); first | exact h0 | (simp only [k5, f1.1, f1.2, and_assoc] at h0 ⊢; exact h0)
  refine ⟨by decide, _, _, _, ?_, ?_, c_X12_slip (l := l) (g := g) (x := _) (q := a1) (what := a2) (hM := hJy.2.1) (r_q := r_a1) (r_what := r_a2) (hok := hok2), fun r2 w hw => ?_⟩; (decide); (decide)
  obtain ⟨hr2, hw⟩ := hw
  have hk := KM_th hw
  have h70 : w 70 0 = y 70 0 := by rw [hk.2.2.2.2 70 (by omega)]
  simp only [k5, f1.1, f1.2] at hr2
  exact ⟨hk.1, JI_KM hJy hk, fun _ => by rw [h70, hy, up_s, hr, hr2]⟩
set_option maxHeartbeats 1000000 in
theorem D_orthogonal {l : Launch} (hl : l.stackTraces = false) {g : Gl} {x : Me} {a1 a2 : Int} (hJ : JI x) (r_a1 : -2147483648 ≤ a1 ∧ a1 < 2147483648) (r_a2 : -2147483648 ≤ a2 ∧ a2 < 2147483648) : LC l g yL_orthogonal cL_orthogonal 5 [(0, 17, 20, 21), (0, 17, 24, 15)] [.ref (gA g 0), .int (zi a1), .int (zi a2), .ref (gA g 70)] x (MCB l g yX12_orthogonal cX12_orthogonal 7 .boolean [.ref (gA g 50), .int (zi a1), .int (zi a2)]) := by
  have hS := hJ.1; have hM := hJ.2.1; have h5 := hJ.2.2.1
  by_cases hq : (0 ≤ a1 ∧ a1 < x 0 5) ∧ (0 ≤ a2 ∧ a2 < x 0 5)
  rotate_left 1
  · refine ⟨_, _, 1, 6, _, ?_, ?_, ⟨by decide, by decide⟩, v_L_orthogonal_1 (fun E h => h.trans (exc_io (fun h => hq (by omega))).symm) (x_X11_orthogonal (l := l) (hl := hl) (g := g) (x := x) (sq := a1) (ot := a2) (hS := hS) (r_sq := r_a1) (r_ot := r_a2) (hno := (fun h => hq (by omega)))), fun z y hz => ?_⟩; (decide); (decide)
    obtain ⟨rfl, rfl⟩ := hz
    refine ⟨by decide, _, _, _, ?_, ?_, e_X12_orthogonal (l := l) (g := g) (x := _) (q := a1) (r := a2) (hM := hM) (r_q := r_a1) (r_r := r_a2) (hno := (fun h => hq (by omega))), fun r2 w hw => ?_⟩; (decide); (decide)
    obtain ⟨hr2, rfl⟩ := hw
    exact ⟨by rw [up_s]; exact exn_1 (fun h => hq (by omega)), JI_th hJ, Or.inl hr2, fun h => absurd h (by decide)⟩
  have e1 := JI_q hJ hq.1
  have e2 := JI_q hJ hq.2
  by_cases hA : (0 ≤ a1 ∧ a1 < x 0 5) ∧ 0 ≤ a2 ∧ a2 < x 0 5
  rotate_left 1
  · refine ⟨_, _, 1, 6, _, ?_, ?_, ⟨by decide, by decide⟩, v_L_orthogonal_1 (fun E h => h.trans (exc_io hA).symm) (x_X11_orthogonal (l := l) (hl := hl) (g := g) (x := x) (sq := a1) (ot := a2) (hS := hS) (r_sq := r_a1) (r_ot := r_a2) (hno := (fun h => hA h.1))), fun z y hz => ?_⟩; (decide); (decide)
    obtain ⟨rfl, rfl⟩ := hz
    refine ⟨by decide, _, _, _, ?_, ?_, e_X12_orthogonal (l := l) (g := g) (x := _) (q := a1) (r := a2) (hM := hM) (r_q := r_a1) (r_r := r_a2) (hno := (fun h => hA (by have h1 := h.1; first | exact h1 | (simp only [h5.symm, e1.1, e1.2, e2.1, e2.2, and_assoc] at h1 ⊢; exact h1)))), fun r2 w hw => ?_⟩; (decide); (decide)
    obtain ⟨hr2, rfl⟩ := hw
    exact ⟨by rw [up_s]; exact exn_1 (fun h => hA (by first | exact h | (simp only [h5.symm, e1.1, e1.2, e2.1, e2.2, and_assoc] at h ⊢; exact h))), JI_th hJ, Or.inl hr2, fun h => absurd h (by decide)⟩
  have hA2 : (0 ≤ a1 ∧ a1 < x 50 1) ∧ 0 ≤ a2 ∧ a2 < x 50 1 := by first | exact hA | (simp only [h5.symm, e1.1, e1.2, e2.1, e2.2, and_assoc] at hA ⊢; exact hA)
  by_cases hC : x (10 + a1.toNat) 1 = x (10 + a2.toNat) 1
  rotate_left 1
  · refine ⟨_, _, 1, 6, _, ?_, ?_, ⟨by decide, by decide⟩, v_L_orthogonal_2 (fun E h => h.trans (exc_is hA trivial).symm) (x_X11_orthogonal (l := l) (hl := hl) (g := g) (x := x) (sq := a1) (ot := a2) (hS := hS) (r_sq := r_a1) (r_ot := r_a2) (hno := (fun h => hC h.2))), fun z y hz => ?_⟩; (decide); (decide)
    obtain ⟨rfl, rfl⟩ := hz
    refine ⟨by decide, _, _, _, ?_, ?_, e_X12_orthogonal (l := l) (g := g) (x := _) (q := a1) (r := a2) (hM := hM) (r_q := r_a1) (r_r := r_a2) (hno := (fun h => hC (by have h1 := h.2; first | exact h1 | (simp only [h5.symm, e1.1, e1.2, e2.1, e2.2, and_assoc] at h1 ⊢; exact h1)))), fun r2 w hw => ?_⟩; (decide); (decide)
    obtain ⟨hr2, rfl⟩ := hw
    exact ⟨by rw [up_s]; exact exn_3 hA2 trivial, JI_th hJ, Or.inl hr2, fun h => absurd h (by decide)⟩
  refine ⟨_, _, 0, 0, _, ?_, ?_, ⟨by decide, by decide⟩, w_L_orthogonal _ (c_X11_orthogonal (l := l) (g := g) (x := x) (sq := a1) (ot := a2) (hS := hS) (r_sq := r_a1) (r_ot := r_a2) (hok := ⟨hA, hC⟩)) (fun r y hp => by rcases hp.1 with ⟨h, -⟩ | ⟨h, -⟩; exact Or.inr h; exact Or.inl h), fun z y hz => ?_⟩; (decide); (decide)
  obtain ⟨rfl, r, y0, ⟨hr, hy0⟩, hy⟩ := hz
  have hfr : ∀ a, a < 30 ∨ (50 ≤ a ∧ a ≤ 62) → y a = x a := fun a ha => by rw [hy, up_i _ _ _ (by omega), hy0]
  have hJy := JI_f2 hJ hfr
  have k5 : y 50 1 = x 0 5 := by rw [hfr 50 (by omega)]; exact h5.symm
  have f1 : y 51 a1 = x (10 + a1.toNat) 1 ∧ nd y a1 = nc x a1.toNat := by rw [hfr 51 (by omega), nd_of (hfr 52 (by omega))]; exact e1
  have f2 : y 51 a2 = x (10 + a2.toNat) 1 ∧ nd y a2 = nc x a2.toNat := by rw [hfr 51 (by omega), nd_of (hfr 52 (by omega))]; exact e2
  have hok2 : ((0 ≤ a1 ∧ a1 < y 50 1) ∧ 0 ≤ a2 ∧ a2 < y 50 1) ∧ (y 51 a1 = y 51 a2) := by have h0 := (show ((0 ≤ a1 ∧ a1 < x 0 5) ∧ 0 ≤ a2 ∧ a2 < x 0 5) ∧ (x (10 + a1.toNat) 1 = x (10 + a2.toNat) 1) from ⟨hA, hC⟩); first | exact h0 | (simp only [k5, f1.1, f1.2, f2.1, f2.2, and_assoc] at h0 ⊢; exact h0)
  refine ⟨by decide, _, _, _, ?_, ?_, c_X12_orthogonal (l := l) (g := g) (x := _) (q := a1) (r := a2) (hM := hJy.2.1) (r_q := r_a1) (r_r := r_a2) (hok := hok2), fun r2 w hw => ?_⟩; (decide); (decide)
  obtain ⟨hr2, hw⟩ := hw
  have hk := KM_th hw
  have h70 : w 70 0 = y 70 0 := by rw [hk.2.2.2.2 70 (by omega)]
  have hrr : r = r2 := by
    skip
    simp only [k5, f1.1, f1.2, f2.1, f2.2] at hr2
    rcases hr with ⟨p1, p2⟩ | ⟨p1, p2⟩ <;> rcases hr2 with ⟨q1, q2⟩ | ⟨q1, q2⟩ <;> first | exact p1.trans q1.symm | exact absurd p2 q2 | exact absurd q2 p2
  have h01 : r2 = 0 ∨ r2 = 1 := by rcases hr2 with ⟨h, -⟩ | ⟨h, -⟩; exact Or.inr h; exact Or.inl h
  exact ⟨hk.1, JI_KM hJy hk, h01, fun _ => by rw [h70, hy, up_s, hrr]⟩
set_option maxHeartbeats 1000000 in
theorem D_crossings {l : Launch} (hl : l.stackTraces = false) {g : Gl} {x : Me} {a1 a2 : Int} (hJ : JI x) (r_a1 : -2147483648 ≤ a1 ∧ a1 < 2147483648) (r_a2 : -2147483648 ≤ a2 ∧ a2 < 2147483648) : LC l g yL_crossings cL_crossings 5 [(0, 10, 13, 21), (0, 10, 17, 13), (0, 10, 21, 15)] [.ref (gA g 0), .int (zi a1), .int (zi a2), .ref (gA g 70)] x (MCI l g yX12_crossings cX12_crossings 10 .int [.ref (gA g 50), .int (zi a1), .int (zi a2)]) := by
  have hS := hJ.1; have hM := hJ.2.1; have h5 := hJ.2.2.1
  by_cases hq : (0 ≤ a1 ∧ a1 < x 0 5)
  rotate_left 1
  · refine ⟨_, _, 1, 6, _, ?_, ?_, ⟨by decide, by decide⟩, v_L_crossings_1 (fun E h => h.trans (exc_io (fun h => hq (by omega))).symm) (x_X11_crossings (l := l) (hl := hl) (g := g) (x := x) (sq := a1) (tot := a2) (hS := hS) (r_sq := r_a1) (r_tot := r_a2) (hno := (fun h => hq (by omega)))), fun z y hz => ?_⟩; (decide); (decide)
    obtain ⟨rfl, rfl⟩ := hz
    refine ⟨by decide, _, _, _, ?_, ?_, e_X12_crossings (l := l) (g := g) (x := _) (q := a1) (tot := a2) (hM := hM) (r_q := r_a1) (r_tot := r_a2) (hno := (fun h => hq (by omega))), fun r2 w hw => ?_⟩; (decide); (decide)
    obtain ⟨hr2, rfl⟩ := hw
    exact ⟨by rw [up_s]; exact exn_1 (fun h => hq (by omega)), JI_th hJ, fun h => absurd h (by decide)⟩
  have e1 := JI_q hJ hq
  by_cases hA : 0 ≤ a1 ∧ a1 < x 0 5
  rotate_left 1
  · refine ⟨_, _, 1, 6, _, ?_, ?_, ⟨by decide, by decide⟩, v_L_crossings_1 (fun E h => h.trans (exc_io hA).symm) (x_X11_crossings (l := l) (hl := hl) (g := g) (x := x) (sq := a1) (tot := a2) (hS := hS) (r_sq := r_a1) (r_tot := r_a2) (hno := (fun h => hA h.1))), fun z y hz => ?_⟩; (decide); (decide)
    obtain ⟨rfl, rfl⟩ := hz
    refine ⟨by decide, _, _, _, ?_, ?_, e_X12_crossings (l := l) (g := g) (x := _) (q := a1) (tot := a2) (hM := hM) (r_q := r_a1) (r_tot := r_a2) (hno := (fun h => hA (by have h1 := h.1; first | exact h1 | (simp only [h5.symm, e1.1, e1.2, and_assoc] at h1 ⊢; exact h1)))), fun r2 w hw => ?_⟩; (decide); (decide)
    obtain ⟨hr2, rfl⟩ := hw
    exact ⟨by rw [up_s]; exact exn_1 (fun h => hA (by first | exact h | (simp only [h5.symm, e1.1, e1.2, and_assoc] at h ⊢; exact h))), JI_th hJ, fun h => absurd h (by decide)⟩
  have hA2 : 0 ≤ a1 ∧ a1 < x 50 1 := by first | exact hA | (simp only [h5.symm, e1.1, e1.2, and_assoc] at hA ⊢; exact hA)
  by_cases hB : 0 ≤ a2 ∧ a2 ≤ 8991
  rotate_left 1
  · refine ⟨_, _, 1, 6, _, ?_, ?_, ⟨by decide, by decide⟩, v_L_crossings_2 (fun E h => h.trans (exc_ia hA hB).symm) (x_X11_crossings (l := l) (hl := hl) (g := g) (x := x) (sq := a1) (tot := a2) (hS := hS) (r_sq := r_a1) (r_tot := r_a2) (hno := (fun h => hB h.2.1))), fun z y hz => ?_⟩; (decide); (decide)
    obtain ⟨rfl, rfl⟩ := hz
    refine ⟨by decide, _, _, _, ?_, ?_, e_X12_crossings (l := l) (g := g) (x := _) (q := a1) (tot := a2) (hM := hM) (r_q := r_a1) (r_tot := r_a2) (hno := (fun h => hB (by have h1 := h.2.1; first | exact h1 | (simp only [h5.symm, e1.1, e1.2, and_assoc] at h1 ⊢; exact h1)))), fun r2 w hw => ?_⟩; (decide); (decide)
    obtain ⟨hr2, rfl⟩ := hw
    exact ⟨by rw [up_s]; exact exn_2 hA2 (fun h => hB (by first | exact h | (simp only [h5.symm, e1.1, e1.2, and_assoc] at h ⊢; exact h))), JI_th hJ, fun h => absurd h (by decide)⟩
  have hB2 : 0 ≤ a2 ∧ a2 ≤ 8991 := by first | exact hB | (simp only [h5.symm, e1.1, e1.2, and_assoc] at hB ⊢; exact hB)
  by_cases hC : x (10 + a1.toNat) 1 ≤ 6
  rotate_left 1
  · refine ⟨_, _, 1, 6, _, ?_, ?_, ⟨by decide, by decide⟩, v_L_crossings_3 (fun E h => h.trans (exc_is hA hB).symm) (x_X11_crossings (l := l) (hl := hl) (g := g) (x := x) (sq := a1) (tot := a2) (hS := hS) (r_sq := r_a1) (r_tot := r_a2) (hno := (fun h => hC h.2.2))), fun z y hz => ?_⟩; (decide); (decide)
    obtain ⟨rfl, rfl⟩ := hz
    refine ⟨by decide, _, _, _, ?_, ?_, e_X12_crossings (l := l) (g := g) (x := _) (q := a1) (tot := a2) (hM := hM) (r_q := r_a1) (r_tot := r_a2) (hno := (fun h => hC (by have h1 := h.2.2; first | exact h1 | (simp only [h5.symm, e1.1, e1.2, and_assoc] at h1 ⊢; exact h1)))), fun r2 w hw => ?_⟩; (decide); (decide)
    obtain ⟨hr2, rfl⟩ := hw
    exact ⟨by rw [up_s]; exact exn_3 hA2 hB2, JI_th hJ, fun h => absurd h (by decide)⟩
  refine ⟨_, _, 0, 0, _, ?_, ?_, ⟨by decide, by decide⟩, w_L_crossings _ (c_X11_crossings (l := l) (g := g) (x := x) (sq := a1) (tot := a2) (hS := hS) (r_sq := r_a1) (r_tot := r_a2) (hok := ⟨hA, hB, hC⟩)), fun z y hz => ?_⟩; (decide); (decide)
  obtain ⟨rfl, r, y0, ⟨hr, hy0⟩, hy⟩ := hz
  have hfr : ∀ a, a < 30 ∨ (50 ≤ a ∧ a ≤ 62) → y a = x a := fun a ha => by rw [hy, up_i _ _ _ (by omega), hy0]
  have hJy := JI_f2 hJ hfr
  have k5 : y 50 1 = x 0 5 := by rw [hfr 50 (by omega)]; exact h5.symm
  have f1 : y 51 a1 = x (10 + a1.toNat) 1 ∧ nd y a1 = nc x a1.toNat := by rw [hfr 51 (by omega), nd_of (hfr 52 (by omega))]; exact e1
  have hok2 : (0 ≤ a1 ∧ a1 < y 50 1) ∧ (0 ≤ a2 ∧ a2 ≤ 8991) ∧ (y 51 a1 ≤ 6) := by have h0 := (show (0 ≤ a1 ∧ a1 < x 0 5) ∧ (0 ≤ a2 ∧ a2 ≤ 8991) ∧ (x (10 + a1.toNat) 1 ≤ 6) from ⟨hA, hB, hC⟩); first | exact h0 | (simp only [k5, f1.1, f1.2, and_assoc] at h0 ⊢; exact h0)
  refine ⟨by decide, _, _, _, ?_, ?_, c_X12_crossings (l := l) (g := g) (x := _) (q := a1) (tot := a2) (hM := hJy.2.1) (r_q := r_a1) (r_tot := r_a2) (hok := hok2), fun r2 w hw => ?_⟩; (decide); (decide)
  obtain ⟨hr2, hw⟩ := hw
  have hk := hw
  have h70 : w 70 0 = y 70 0 := by rw [hk.2.2.2.2 70 (by omega)]
  simp only [k5, f1.1, f1.2] at hr2
  exact ⟨hk.1, JI_KM hJy hk, fun _ => by rw [h70, hy, up_s, hr, hr2]⟩
set_option maxHeartbeats 1000000 in
theorem D_completions {l : Launch} (hl : l.stackTraces = false) {g : Gl} {x : Me} {a1 : Int} (hJ : JI x) (r_a1 : -2147483648 ≤ a1 ∧ a1 < 2147483648) : LC l g yL_completions cL_completions 4 [(0, 9, 12, 21), (0, 9, 15, 15)] [.ref (gA g 0), .int (zi a1), .ref (gA g 70)] x (MCI l g yX12_completions cX12_completions 3 .int [.ref (gA g 50), .int (zi a1)]) := by
  have hS := hJ.1; have hM := hJ.2.1; have h5 := hJ.2.2.1
  by_cases hq : (0 ≤ a1 ∧ a1 < x 0 5)
  rotate_left 1
  · refine ⟨_, _, 1, 6, _, ?_, ?_, ⟨by decide, by decide⟩, v_L_completions_1 (fun E h => h.trans (exc_io (fun h => hq (by omega))).symm) (x_X11_completions (l := l) (hl := hl) (g := g) (x := x) (sq := a1) (hS := hS) (r_sq := r_a1) (hno := (fun h => hq (by omega)))), fun z y hz => ?_⟩; (decide); (decide)
    obtain ⟨rfl, rfl⟩ := hz
    refine ⟨by decide, _, _, _, ?_, ?_, e_X12_completions (l := l) (g := g) (x := _) (q := a1) (hM := hM) (r_q := r_a1) (hno := (fun h => hq (by omega))), fun r2 w hw => ?_⟩; (decide); (decide)
    obtain ⟨hr2, rfl⟩ := hw
    exact ⟨by rw [up_s]; exact exn_1 (fun h => hq (by omega)), JI_th hJ, fun h => absurd h (by decide)⟩
  have e1 := JI_q hJ hq
  by_cases hA : 0 ≤ a1 ∧ a1 < x 0 5
  rotate_left 1
  · refine ⟨_, _, 1, 6, _, ?_, ?_, ⟨by decide, by decide⟩, v_L_completions_1 (fun E h => h.trans (exc_io hA).symm) (x_X11_completions (l := l) (hl := hl) (g := g) (x := x) (sq := a1) (hS := hS) (r_sq := r_a1) (hno := (fun h => hA h.1))), fun z y hz => ?_⟩; (decide); (decide)
    obtain ⟨rfl, rfl⟩ := hz
    refine ⟨by decide, _, _, _, ?_, ?_, e_X12_completions (l := l) (g := g) (x := _) (q := a1) (hM := hM) (r_q := r_a1) (hno := (fun h => hA (by have h1 := h.1; first | exact h1 | (simp only [h5.symm, e1.1, e1.2, and_assoc] at h1 ⊢; exact h1)))), fun r2 w hw => ?_⟩; (decide); (decide)
    obtain ⟨hr2, rfl⟩ := hw
    exact ⟨by rw [up_s]; exact exn_1 (fun h => hA (by first | exact h | (simp only [h5.symm, e1.1, e1.2, and_assoc] at h ⊢; exact h))), JI_th hJ, fun h => absurd h (by decide)⟩
  have hA2 : 0 ≤ a1 ∧ a1 < x 50 1 := by first | exact hA | (simp only [h5.symm, e1.1, e1.2, and_assoc] at hA ⊢; exact hA)
  by_cases hC : x (10 + a1.toNat) 1 ≤ 4 ∧ cnt (x (10 + a1.toNat) 1) (nc x a1.toNat) 0 ≤ 9
  rotate_left 1
  · refine ⟨_, _, 1, 6, _, ?_, ?_, ⟨by decide, by decide⟩, v_L_completions_2 (fun E h => h.trans (exc_is hA trivial).symm) (x_X11_completions (l := l) (hl := hl) (g := g) (x := x) (sq := a1) (hS := hS) (r_sq := r_a1) (hno := (fun h => hC h.2))), fun z y hz => ?_⟩; (decide); (decide)
    obtain ⟨rfl, rfl⟩ := hz
    refine ⟨by decide, _, _, _, ?_, ?_, e_X12_completions (l := l) (g := g) (x := _) (q := a1) (hM := hM) (r_q := r_a1) (hno := (fun h => hC (by have h1 := h.2; first | exact h1 | (simp only [h5.symm, e1.1, e1.2, and_assoc] at h1 ⊢; exact h1)))), fun r2 w hw => ?_⟩; (decide); (decide)
    obtain ⟨hr2, rfl⟩ := hw
    exact ⟨by rw [up_s]; exact exn_3 hA2 trivial, JI_th hJ, fun h => absurd h (by decide)⟩
  refine ⟨_, _, 0, 0, _, ?_, ?_, ⟨by decide, by decide⟩, w_L_completions _ (c_X11_completions (l := l) (g := g) (x := x) (sq := a1) (hS := hS) (r_sq := r_a1) (hok := ⟨hA, hC⟩)), fun z y hz => ?_⟩; (decide); (decide)
  obtain ⟨rfl, r, y0, ⟨hr, hy0⟩, hy⟩ := hz
  have hfr : ∀ a, a < 30 ∨ (50 ≤ a ∧ a ≤ 62) → y a = x a := fun a ha => by rw [hy, up_i _ _ _ (by omega)]; exact hy0 a (by omega)
  have hJy := JI_f2 hJ hfr
  have k5 : y 50 1 = x 0 5 := by rw [hfr 50 (by omega)]; exact h5.symm
  have f1 : y 51 a1 = x (10 + a1.toNat) 1 ∧ nd y a1 = nc x a1.toNat := by rw [hfr 51 (by omega), nd_of (hfr 52 (by omega))]; exact e1
  have hok2 : (0 ≤ a1 ∧ a1 < y 50 1) ∧ (y 51 a1 ≤ 4 ∧ cnt (y 51 a1) (nd y a1) 0 ≤ 9) := by have h0 := (show (0 ≤ a1 ∧ a1 < x 0 5) ∧ (x (10 + a1.toNat) 1 ≤ 4 ∧ cnt (x (10 + a1.toNat) 1) (nc x a1.toNat) 0 ≤ 9) from ⟨hA, hC⟩); first | exact h0 | (simp only [k5, f1.1, f1.2, and_assoc] at h0 ⊢; exact h0)
  refine ⟨by decide, _, _, _, ?_, ?_, c_X12_completions (l := l) (g := g) (x := _) (q := a1) (hM := hJy.2.1) (r_q := r_a1) (hok := hok2), fun r2 w hw => ?_⟩; (decide); (decide)
  obtain ⟨hr2, hw⟩ := hw
  have hk := hw
  have h70 : w 70 0 = y 70 0 := by rw [hk.2.2.2.2 70 (by omega)]
  simp only [k5, f1.1, f1.2] at hr2
  exact ⟨hk.1, JI_KM hJy hk, fun _ => by rw [h70, hy, up_s, hr, hr2]⟩
set_option maxHeartbeats 1000000 in
theorem D_completion {l : Launch} (hl : l.stackTraces = false) {g : Gl} {x : Me} {a1 a2 a3 a4 : Int} (hJ : JI x) (r_a1 : -2147483648 ≤ a1 ∧ a1 < 2147483648) (r_a2 : -2147483648 ≤ a2 ∧ a2 < 2147483648) (r_a3 : -2147483648 ≤ a3 ∧ a3 < 2147483648) (r_a4 : -2147483648 ≤ a4 ∧ a4 < 2147483648) : LC l g yL_completion cL_completion 7 [(0, 14, 17, 21), (0, 14, 21, 13), (0, 14, 25, 15)] [.ref (gA g 0), .int (zi a1), .int (zi a2), .int (zi a3), .int (zi a4), .ref (gA g 70)] x (MCI l g yX12_completion cX12_completion 6 .int [.ref (gA g 50), .int (zi a1), .int (zi a2), .int (zi a3), .int (zi a4)]) := by
  have hS := hJ.1; have hM := hJ.2.1; have h5 := hJ.2.2.1
  by_cases hq : (0 ≤ a1 ∧ a1 < x 0 5)
  rotate_left 1
  · refine ⟨_, _, 1, 6, _, ?_, ?_, ⟨by decide, by decide⟩, v_L_completion_1 (fun E h => h.trans (exc_io (fun h => hq (by omega))).symm) (x_X11_completion (l := l) (hl := hl) (g := g) (x := x) (sq := a1) (w := a2) (r := a3) (c := a4) (hS := hS) (r_sq := r_a1) (r_w := r_a2) (r_r := r_a3) (r_c := r_a4) (hno := (fun h => hq (by omega)))), fun z y hz => ?_⟩; (decide); (decide)
    obtain ⟨rfl, rfl⟩ := hz
    refine ⟨by decide, _, _, _, ?_, ?_, e_X12_completion (l := l) (g := g) (x := _) (q := a1) (w := a2) (r := a3) (c := a4) (hM := hM) (r_q := r_a1) (r_w := r_a2) (r_r := r_a3) (r_c := r_a4) (hno := (fun h => hq (by omega))), fun r2 w hw => ?_⟩; (decide); (decide)
    obtain ⟨hr2, rfl⟩ := hw
    exact ⟨by rw [up_s]; exact exn_1 (fun h => hq (by omega)), JI_th hJ, fun h => absurd h (by decide)⟩
  have e1 := JI_q hJ hq
  by_cases hA : 0 ≤ a1 ∧ a1 < x 0 5 ∧ (0 ≤ a3 ∧ a3 < x (10 + a1.toNat) 1) ∧ 0 ≤ a4 ∧ a4 < x (10 + a1.toNat) 1
  rotate_left 1
  · refine ⟨_, _, 1, 6, _, ?_, ?_, ⟨by decide, by decide⟩, v_L_completion_1 (fun E h => h.trans (exc_io hA).symm) (x_X11_completion (l := l) (hl := hl) (g := g) (x := x) (sq := a1) (w := a2) (r := a3) (c := a4) (hS := hS) (r_sq := r_a1) (r_w := r_a2) (r_r := r_a3) (r_c := r_a4) (hno := (fun h => hA h.1))), fun z y hz => ?_⟩; (decide); (decide)
    obtain ⟨rfl, rfl⟩ := hz
    refine ⟨by decide, _, _, _, ?_, ?_, e_X12_completion (l := l) (g := g) (x := _) (q := a1) (w := a2) (r := a3) (c := a4) (hM := hM) (r_q := r_a1) (r_w := r_a2) (r_r := r_a3) (r_c := r_a4) (hno := (fun h => hA (by have h1 := h.1; first | exact h1 | (simp only [h5.symm, e1.1, e1.2, and_assoc] at h1 ⊢; exact h1)))), fun r2 w hw => ?_⟩; (decide); (decide)
    obtain ⟨hr2, rfl⟩ := hw
    exact ⟨by rw [up_s]; exact exn_1 (fun h => hA (by first | exact h | (simp only [h5.symm, e1.1, e1.2, and_assoc] at h ⊢; exact h))), JI_th hJ, fun h => absurd h (by decide)⟩
  have hA2 : ((0 ≤ a1 ∧ a1 < x 50 1) ∧ (0 ≤ a3 ∧ a3 < x 51 a1) ∧ 0 ≤ a4 ∧ a4 < x 51 a1) := by first | exact hA | (simp only [h5.symm, e1.1, e1.2, and_assoc] at hA ⊢; exact hA)
  by_cases hB : 0 ≤ a2
  rotate_left 1
  · refine ⟨_, _, 1, 6, _, ?_, ?_, ⟨by decide, by decide⟩, v_L_completion_2 (fun E h => h.trans (exc_ia hA hB).symm) (x_X11_completion (l := l) (hl := hl) (g := g) (x := x) (sq := a1) (w := a2) (r := a3) (c := a4) (hS := hS) (r_sq := r_a1) (r_w := r_a2) (r_r := r_a3) (r_c := r_a4) (hno := (fun h => hB h.2.1))), fun z y hz => ?_⟩; (decide); (decide)
    obtain ⟨rfl, rfl⟩ := hz
    refine ⟨by decide, _, _, _, ?_, ?_, e_X12_completion (l := l) (g := g) (x := _) (q := a1) (w := a2) (r := a3) (c := a4) (hM := hM) (r_q := r_a1) (r_w := r_a2) (r_r := r_a3) (r_c := r_a4) (hno := (fun h => hB (by have h1 := h.2.1; first | exact h1 | (simp only [h5.symm, e1.1, e1.2, and_assoc] at h1 ⊢; exact h1)))), fun r2 w hw => ?_⟩; (decide); (decide)
    obtain ⟨hr2, rfl⟩ := hw
    exact ⟨by rw [up_s]; exact exn_2 hA2 (fun h => hB (by first | exact h | (simp only [h5.symm, e1.1, e1.2, and_assoc] at h ⊢; exact h))), JI_th hJ, fun h => absurd h (by decide)⟩
  have hB2 : 0 ≤ a2 := by first | exact hB | (simp only [h5.symm, e1.1, e1.2, and_assoc] at hB ⊢; exact hB)
  by_cases hC : x (10 + a1.toNat) 1 ≤ 4 ∧ cnt (x (10 + a1.toNat) 1) (nc x a1.toNat) 0 ≤ 9
  rotate_left 1
  · refine ⟨_, _, 1, 6, _, ?_, ?_, ⟨by decide, by decide⟩, v_L_completion_3 (fun E h => h.trans (exc_is hA hB).symm) (x_X11_completion (l := l) (hl := hl) (g := g) (x := x) (sq := a1) (w := a2) (r := a3) (c := a4) (hS := hS) (r_sq := r_a1) (r_w := r_a2) (r_r := r_a3) (r_c := r_a4) (hno := (fun h => hC h.2.2))), fun z y hz => ?_⟩; (decide); (decide)
    obtain ⟨rfl, rfl⟩ := hz
    refine ⟨by decide, _, _, _, ?_, ?_, e_X12_completion (l := l) (g := g) (x := _) (q := a1) (w := a2) (r := a3) (c := a4) (hM := hM) (r_q := r_a1) (r_w := r_a2) (r_r := r_a3) (r_c := r_a4) (hno := (fun h => hC (by have h1 := h.2.2; first | exact h1 | (simp only [h5.symm, e1.1, e1.2, and_assoc] at h1 ⊢; exact h1)))), fun r2 w hw => ?_⟩; (decide); (decide)
    obtain ⟨hr2, rfl⟩ := hw
    exact ⟨by rw [up_s]; exact exn_3 hA2 hB2, JI_th hJ, fun h => absurd h (by decide)⟩
  refine ⟨_, _, 0, 0, _, ?_, ?_, ⟨by decide, by decide⟩, w_L_completion _ (c_X11_completion (l := l) (g := g) (x := x) (sq := a1) (w := a2) (r := a3) (c := a4) (hS := hS) (r_sq := r_a1) (r_w := r_a2) (r_r := r_a3) (r_c := r_a4) (hok := ⟨hA, hB, hC⟩)), fun z y hz => ?_⟩; (decide); (decide)
  obtain ⟨rfl, r, y0, ⟨hr, hy0⟩, hy⟩ := hz
  have hfr : ∀ a, a < 30 ∨ (50 ≤ a ∧ a ≤ 62) → y a = x a := fun a ha => by rw [hy, up_i _ _ _ (by omega)]; exact hy0 a (by omega)
  have hJy := JI_f2 hJ hfr
  have k5 : y 50 1 = x 0 5 := by rw [hfr 50 (by omega)]; exact h5.symm
  have f1 : y 51 a1 = x (10 + a1.toNat) 1 ∧ nd y a1 = nc x a1.toNat := by rw [hfr 51 (by omega), nd_of (hfr 52 (by omega))]; exact e1
  have hok2 : (((0 ≤ a1 ∧ a1 < y 50 1) ∧ (0 ≤ a3 ∧ a3 < y 51 a1) ∧ 0 ≤ a4 ∧ a4 < y 51 a1)) ∧ (0 ≤ a2) ∧ (y 51 a1 ≤ 4 ∧ cnt (y 51 a1) (nd y a1) 0 ≤ 9) := by have h0 := (show (0 ≤ a1 ∧ a1 < x 0 5 ∧ (0 ≤ a3 ∧ a3 < x (10 + a1.toNat) 1) ∧ 0 ≤ a4 ∧ a4 < x (10 + a1.toNat) 1) ∧ (0 ≤ a2) ∧ (x (10 + a1.toNat) 1 ≤ 4 ∧ cnt (x (10 + a1.toNat) 1) (nc x a1.toNat) 0 ≤ 9) from ⟨hA, hB, hC⟩); first | exact h0 | (simp only [k5, f1.1, f1.2, and_assoc] at h0 ⊢; exact h0)
  refine ⟨by decide, _, _, _, ?_, ?_, c_X12_completion (l := l) (g := g) (x := _) (q := a1) (w := a2) (r := a3) (c := a4) (hM := hJy.2.1) (r_q := r_a1) (r_w := r_a2) (r_r := r_a3) (r_c := r_a4) (hok := hok2), fun r2 w hw => ?_⟩; (decide); (decide)
  obtain ⟨hr2, hw⟩ := hw
  have hk := hw
  have h70 : w 70 0 = y 70 0 := by rw [hk.2.2.2.2 70 (by omega)]
  simp only [k5, f1.1, f1.2] at hr2
  exact ⟨hk.1, JI_KM hJy hk, fun _ => by rw [h70, hy, up_s, hr, hr2]⟩
set_option maxHeartbeats 1000000 in
theorem D_estimate {l : Launch} (hl : l.stackTraces = false) {g : Gl} {x : Me} {a1 a2 : Int} (hJ : JI x) (r_a1 : -2147483648 ≤ a1 ∧ a1 < 2147483648) (r_a2 : -2147483648 ≤ a2 ∧ a2 < 2147483648) : LC l g yL_estimate cL_estimate 5 [(0, 9, 12, 21), (0, 9, 16, 13), (0, 9, 20, 15)] [.ref (gA g 0), .int (zi a1), .int (zi a2), .ref (gA g 70)] x (MCL l g yX12_estimate cX12_estimate 10 .long [.ref (gA g 50), .int (zi a1), .int (zi a2)]) := by
  have hS := hJ.1; have hM := hJ.2.1; have h5 := hJ.2.2.1
  by_cases hq : (0 ≤ a1 ∧ a1 < x 0 5)
  rotate_left 1
  · refine ⟨_, _, 1, 6, _, ?_, ?_, ⟨by decide, by decide⟩, v_L_estimate_1 (fun E h => h.trans (exc_io (fun h => hq (by omega))).symm) (x_X11_estimate (l := l) (hl := hl) (g := g) (x := x) (sq := a1) (seed := a2) (hS := hS) (r_sq := r_a1) (r_seed := r_a2) (hno := (fun h => hq (by omega)))), fun z y hz => ?_⟩; (decide); (decide)
    obtain ⟨rfl, rfl⟩ := hz
    refine ⟨by decide, _, _, _, ?_, ?_, e_X12_estimate (l := l) (g := g) (x := _) (q := a1) (seed := a2) (hM := hM) (r_q := r_a1) (r_seed := r_a2) (hno := (fun h => hq (by omega))), fun r2 w hw => ?_⟩; (decide); (decide)
    obtain ⟨hr2, rfl⟩ := hw
    exact ⟨by rw [up_s]; exact exn_1 (fun h => hq (by omega)), JI_th hJ, fun h => absurd h (by decide)⟩
  have e1 := JI_q hJ hq
  by_cases hA : 0 ≤ a1 ∧ a1 < x 0 5
  rotate_left 1
  · refine ⟨_, _, 1, 6, _, ?_, ?_, ⟨by decide, by decide⟩, v_L_estimate_1 (fun E h => h.trans (exc_io hA).symm) (x_X11_estimate (l := l) (hl := hl) (g := g) (x := x) (sq := a1) (seed := a2) (hS := hS) (r_sq := r_a1) (r_seed := r_a2) (hno := (fun h => hA h.1))), fun z y hz => ?_⟩; (decide); (decide)
    obtain ⟨rfl, rfl⟩ := hz
    refine ⟨by decide, _, _, _, ?_, ?_, e_X12_estimate (l := l) (g := g) (x := _) (q := a1) (seed := a2) (hM := hM) (r_q := r_a1) (r_seed := r_a2) (hno := (fun h => hA (by have h1 := h.1; first | exact h1 | (simp only [h5.symm, e1.1, e1.2, and_assoc] at h1 ⊢; exact h1)))), fun r2 w hw => ?_⟩; (decide); (decide)
    obtain ⟨hr2, rfl⟩ := hw
    exact ⟨by rw [up_s]; exact exn_1 (fun h => hA (by first | exact h | (simp only [h5.symm, e1.1, e1.2, and_assoc] at h ⊢; exact h))), JI_th hJ, fun h => absurd h (by decide)⟩
  have hA2 : 0 ≤ a1 ∧ a1 < x 50 1 := by first | exact hA | (simp only [h5.symm, e1.1, e1.2, and_assoc] at hA ⊢; exact hA)
  by_cases hB : 0 ≤ a2 ∧ a2 ≤ 65535
  rotate_left 1
  · refine ⟨_, _, 1, 6, _, ?_, ?_, ⟨by decide, by decide⟩, v_L_estimate_2 (fun E h => h.trans (exc_ia hA hB).symm) (x_X11_estimate (l := l) (hl := hl) (g := g) (x := x) (sq := a1) (seed := a2) (hS := hS) (r_sq := r_a1) (r_seed := r_a2) (hno := (fun h => hB h.2.1))), fun z y hz => ?_⟩; (decide); (decide)
    obtain ⟨rfl, rfl⟩ := hz
    refine ⟨by decide, _, _, _, ?_, ?_, e_X12_estimate (l := l) (g := g) (x := _) (q := a1) (seed := a2) (hM := hM) (r_q := r_a1) (r_seed := r_a2) (hno := (fun h => hB (by have h1 := h.2.1; first | exact h1 | (simp only [h5.symm, e1.1, e1.2, and_assoc] at h1 ⊢; exact h1)))), fun r2 w hw => ?_⟩; (decide); (decide)
    obtain ⟨hr2, rfl⟩ := hw
    exact ⟨by rw [up_s]; exact exn_2 hA2 (fun h => hB (by first | exact h | (simp only [h5.symm, e1.1, e1.2, and_assoc] at h ⊢; exact h))), JI_th hJ, fun h => absurd h (by decide)⟩
  have hB2 : 0 ≤ a2 ∧ a2 ≤ 65535 := by first | exact hB | (simp only [h5.symm, e1.1, e1.2, and_assoc] at hB ⊢; exact hB)
  by_cases hC : x (10 + a1.toNat) 1 ≤ 4
  rotate_left 1
  · refine ⟨_, _, 1, 6, _, ?_, ?_, ⟨by decide, by decide⟩, v_L_estimate_3 (fun E h => h.trans (exc_is hA hB).symm) (x_X11_estimate (l := l) (hl := hl) (g := g) (x := x) (sq := a1) (seed := a2) (hS := hS) (r_sq := r_a1) (r_seed := r_a2) (hno := (fun h => hC h.2.2))), fun z y hz => ?_⟩; (decide); (decide)
    obtain ⟨rfl, rfl⟩ := hz
    refine ⟨by decide, _, _, _, ?_, ?_, e_X12_estimate (l := l) (g := g) (x := _) (q := a1) (seed := a2) (hM := hM) (r_q := r_a1) (r_seed := r_a2) (hno := (fun h => hC (by have h1 := h.2.2; first | exact h1 | (simp only [h5.symm, e1.1, e1.2, and_assoc] at h1 ⊢; exact h1)))), fun r2 w hw => ?_⟩; (decide); (decide)
    obtain ⟨hr2, rfl⟩ := hw
    exact ⟨by rw [up_s]; exact exn_3 hA2 hB2, JI_th hJ, fun h => absurd h (by decide)⟩
  refine ⟨_, _, 0, 0, _, ?_, ?_, ⟨by decide, by decide⟩, w_L_estimate _ (c_X11_estimate (l := l) (g := g) (x := x) (sq := a1) (seed := a2) (hS := hS) (r_sq := r_a1) (r_seed := r_a2) (hok := ⟨hA, hB, hC⟩)), fun z y hz => ?_⟩; (decide); (decide)
  obtain ⟨rfl, r, y0, ⟨hr, hy0⟩, hy⟩ := hz
  have hfr : ∀ a, a < 30 ∨ (50 ≤ a ∧ a ≤ 62) → y a = x a := fun a ha => by rw [hy, up_i _ _ _ (by omega)]; exact hy0 a (by omega)
  have hJy := JI_f2 hJ hfr
  have k5 : y 50 1 = x 0 5 := by rw [hfr 50 (by omega)]; exact h5.symm
  have f1 : y 51 a1 = x (10 + a1.toNat) 1 ∧ nd y a1 = nc x a1.toNat := by rw [hfr 51 (by omega), nd_of (hfr 52 (by omega))]; exact e1
  have hok2 : (0 ≤ a1 ∧ a1 < y 50 1) ∧ (0 ≤ a2 ∧ a2 ≤ 65535) ∧ (y 51 a1 ≤ 4) := by have h0 := (show (0 ≤ a1 ∧ a1 < x 0 5) ∧ (0 ≤ a2 ∧ a2 ≤ 65535) ∧ (x (10 + a1.toNat) 1 ≤ 4) from ⟨hA, hB, hC⟩); first | exact h0 | (simp only [k5, f1.1, f1.2, and_assoc] at h0 ⊢; exact h0)
  refine ⟨by decide, _, _, _, ?_, ?_, c_X12_estimate (l := l) (g := g) (x := _) (q := a1) (seed := a2) (hM := hJy.2.1) (r_q := r_a1) (r_seed := r_a2) (hok := hok2), fun r2 w hw => ?_⟩; (decide); (decide)
  obtain ⟨hr2, hw⟩ := hw
  have hk := hw
  have h70 : w 70 0 = y 70 0 := by rw [hk.2.2.2.2 70 (by omega)]
  simp only [k5, f1.1, f1.2] at hr2
  exact ⟨hk.1, JI_KM hJy hk, fun _ => by rw [h70, hy, up_s, hr, hr2]⟩
set_option maxHeartbeats 1000000 in
theorem D_givens {l : Launch} (hl : l.stackTraces = false) {g : Gl} {x : Me} {a1 a2 : Int} (hJ : JI x) (r_a1 : -2147483648 ≤ a1 ∧ a1 < 2147483648) (r_a2 : -2147483648 ≤ a2 ∧ a2 < 2147483648) (hst : a2 = 0 ∨ a2 = 1) : LC l g yL_givens cL_givens 5 [(0, 10, 13, 21), (0, 10, 17, 15)] [.ref (gA g 0), .int (zi a1), .int (zi a2), .ref (gA g 70)] x (MCI l g yX12_givens cX12_givens 8 .int [.ref (gA g 50), .int (zi a1), .int (zi a2)]) := by
  have hS := hJ.1; have hM := hJ.2.1; have h5 := hJ.2.2.1
  by_cases hq : (0 ≤ a1 ∧ a1 < x 0 5)
  rotate_left 1
  · refine ⟨_, _, 1, 6, _, ?_, ?_, ⟨by decide, by decide⟩, v_L_givens_1 (fun E h => h.trans (exc_io (fun h => hq (by omega))).symm) (x_X11_givens (l := l) (hl := hl) (g := g) (x := x) (sq := a1) (st := a2) (hS := hS) (r_sq := r_a1) (hst := hst) (hno := (fun h => hq (by omega)))), fun z y hz => ?_⟩; (decide); (decide)
    obtain ⟨rfl, rfl⟩ := hz
    refine ⟨by decide, _, _, _, ?_, ?_, e_X12_givens (l := l) (g := g) (x := _) (q := a1) (st := a2) (hM := hM) (r_q := r_a1) (hst := hst) (hno := (fun h => hq (by omega))), fun r2 w hw => ?_⟩; (decide); (decide)
    obtain ⟨hr2, rfl⟩ := hw
    exact ⟨by rw [up_s]; exact exn_1 (fun h => hq (by omega)), JI_th hJ, fun h => absurd h (by decide)⟩
  have e1 := JI_q hJ hq
  by_cases hA : 0 ≤ a1 ∧ a1 < x 0 5
  rotate_left 1
  · refine ⟨_, _, 1, 6, _, ?_, ?_, ⟨by decide, by decide⟩, v_L_givens_1 (fun E h => h.trans (exc_io hA).symm) (x_X11_givens (l := l) (hl := hl) (g := g) (x := x) (sq := a1) (st := a2) (hS := hS) (r_sq := r_a1) (hst := hst) (hno := (fun h => hA h.1))), fun z y hz => ?_⟩; (decide); (decide)
    obtain ⟨rfl, rfl⟩ := hz
    refine ⟨by decide, _, _, _, ?_, ?_, e_X12_givens (l := l) (g := g) (x := _) (q := a1) (st := a2) (hM := hM) (r_q := r_a1) (hst := hst) (hno := (fun h => hA (by have h1 := h.1; first | exact h1 | (simp only [h5.symm, e1.1, e1.2, and_assoc] at h1 ⊢; exact h1)))), fun r2 w hw => ?_⟩; (decide); (decide)
    obtain ⟨hr2, rfl⟩ := hw
    exact ⟨by rw [up_s]; exact exn_1 (fun h => hA (by first | exact h | (simp only [h5.symm, e1.1, e1.2, and_assoc] at h ⊢; exact h))), JI_th hJ, fun h => absurd h (by decide)⟩
  have hA2 : 0 ≤ a1 ∧ a1 < x 50 1 := by first | exact hA | (simp only [h5.symm, e1.1, e1.2, and_assoc] at hA ⊢; exact hA)
  by_cases hC : x (10 + a1.toNat) 1 ≤ 3 ∧ nrm (x (10 + a1.toNat) 1) (nc x a1.toNat) ∧ mag (x (10 + a1.toNat) 1) (nc x a1.toNat)
  rotate_left 1
  · refine ⟨_, _, 1, 6, _, ?_, ?_, ⟨by decide, by decide⟩, v_L_givens_2 (fun E h => h.trans (exc_is hA trivial).symm) (x_X11_givens (l := l) (hl := hl) (g := g) (x := x) (sq := a1) (st := a2) (hS := hS) (r_sq := r_a1) (hst := hst) (hno := (fun h => hC h.2))), fun z y hz => ?_⟩; (decide); (decide)
    obtain ⟨rfl, rfl⟩ := hz
    refine ⟨by decide, _, _, _, ?_, ?_, e_X12_givens (l := l) (g := g) (x := _) (q := a1) (st := a2) (hM := hM) (r_q := r_a1) (hst := hst) (hno := (fun h => hC (by have h1 := h.2; first | exact h1 | (simp only [h5.symm, e1.1, e1.2, and_assoc] at h1 ⊢; exact h1)))), fun r2 w hw => ?_⟩; (decide); (decide)
    obtain ⟨hr2, rfl⟩ := hw
    exact ⟨by rw [up_s]; exact exn_3 hA2 trivial, JI_th hJ, fun h => absurd h (by decide)⟩
  refine ⟨_, _, 0, 0, _, ?_, ?_, ⟨by decide, by decide⟩, w_L_givens _ (c_X11_givens (l := l) (g := g) (x := x) (sq := a1) (st := a2) (hS := hS) (r_sq := r_a1) (hst := hst) (hok := ⟨hA, hC⟩)), fun z y hz => ?_⟩; (decide); (decide)
  obtain ⟨rfl, r, y0, ⟨hr, hy0⟩, hy⟩ := hz
  have hfr : ∀ a, a < 30 ∨ (50 ≤ a ∧ a ≤ 62) → y a = x a := fun a ha => by rw [hy, up_i _ _ _ (by omega)]; exact hy0 a (by omega)
  have hJy := JI_f2 hJ hfr
  have k5 : y 50 1 = x 0 5 := by rw [hfr 50 (by omega)]; exact h5.symm
  have f1 : y 51 a1 = x (10 + a1.toNat) 1 ∧ nd y a1 = nc x a1.toNat := by rw [hfr 51 (by omega), nd_of (hfr 52 (by omega))]; exact e1
  have hok2 : (0 ≤ a1 ∧ a1 < y 50 1) ∧ (y 51 a1 ≤ 3 ∧ nrm (y 51 a1) (nd y a1) ∧ mag (y 51 a1) (nd y a1)) := by have h0 := (show (0 ≤ a1 ∧ a1 < x 0 5) ∧ (x (10 + a1.toNat) 1 ≤ 3 ∧ nrm (x (10 + a1.toNat) 1) (nc x a1.toNat) ∧ mag (x (10 + a1.toNat) 1) (nc x a1.toNat)) from ⟨hA, hC⟩); first | exact h0 | (simp only [k5, f1.1, f1.2, and_assoc] at h0 ⊢; exact h0)
  refine ⟨by decide, _, _, _, ?_, ?_, c_X12_givens (l := l) (g := g) (x := _) (q := a1) (st := a2) (hM := hJy.2.1) (r_q := r_a1) (hst := hst) (hok := hok2), fun r2 w hw => ?_⟩; (decide); (decide)
  obtain ⟨hr2, hw⟩ := hw
  have hk := hw
  have h70 : w 70 0 = y 70 0 := by rw [hk.2.2.2.2 70 (by omega)]
  simp only [k5, f1.1, f1.2] at hr2
  exact ⟨hk.1, JI_KM hJy hk, fun _ => by rw [h70, hy, up_s, hr, hr2]⟩
set_option maxHeartbeats 1000000 in
theorem D_dimension {l : Launch} (hl : l.stackTraces = false) {g : Gl} {x : Me} {a1 a2 : Int} (hJ : JI x) (r_a1 : -2147483648 ≤ a1 ∧ a1 < 2147483648) (r_a2 : -2147483648 ≤ a2 ∧ a2 < 2147483648) : LC l g yL_dimension cL_dimension 5 [(0, 10, 13, 13)] [.ref (gA g 0), .int (zi a1), .int (zi a2), .ref (gA g 70)] x (MCI l g yX12_dimension cX12_dimension 9 .int [.ref (gA g 50), .int (zi a1), .int (zi a2)]) := by
  have hS := hJ.1; have hM := hJ.2.1; have h5 := hJ.2.2.1
  by_cases hB : (1 ≤ a1 ∧ a1 ≤ 6) ∧ (zi a2 &&& zi (-63)).toInt = 0
  rotate_left 1
  · refine ⟨_, _, 1, 6, _, ?_, ?_, ⟨by decide, by decide⟩, v_L_dimension_1 (fun E h => h.trans (exc_ia trivial hB).symm) (x_X11_dimension (l := l) (hl := hl) (g := g) (x := x) (n := a1) (s := a2) (r_n := r_a1) (r_s := r_a2) (hno := hB)), fun z y hz => ?_⟩; (decide); (decide)
    obtain ⟨rfl, rfl⟩ := hz
    refine ⟨by decide, _, _, _, ?_, ?_, e_X12_dimension (l := l) (g := g) (x := _) (n := a1) (s := a2) (r_n := r_a1) (r_s := r_a2) (hno := (fun h => hB (by have h1 := h; first | exact h1 | (simp only [h5.symm, and_assoc] at h1 ⊢; exact h1)))), fun r2 w hw => ?_⟩; (decide); (decide)
    obtain ⟨hr2, rfl⟩ := hw
    exact ⟨by rw [up_s]; exact exn_2 trivial (fun h => hB (by first | exact h | (simp only [h5.symm, and_assoc] at h ⊢; exact h))), JI_th hJ, fun h => absurd h (by decide)⟩
  have hB2 : (1 ≤ a1 ∧ a1 ≤ 6) ∧ (zi a2 &&& zi (-63)).toInt = 0 := by first | exact hB | (simp only [h5.symm, and_assoc] at hB ⊢; exact hB)
  refine ⟨_, _, 0, 0, _, ?_, ?_, ⟨by decide, by decide⟩, w_L_dimension _ (c_X11_dimension (l := l) (g := g) (x := x) (n := a1) (s := a2) (r_n := r_a1) (r_s := r_a2) (hok := hB)), fun z y hz => ?_⟩; (decide); (decide)
  obtain ⟨rfl, r, y0, ⟨hr, hy0⟩, hy⟩ := hz
  have hfr : ∀ a, a < 30 ∨ (50 ≤ a ∧ a ≤ 62) → y a = x a := fun a ha => by rw [hy, up_i _ _ _ (by omega)]; exact hy0 a (by omega) (by omega) (by omega) (by omega)
  have hJy := JI_f2 hJ hfr
  have k5 : y 50 1 = x 0 5 := by rw [hfr 50 (by omega)]; exact h5.symm
  have hok2 : ((1 ≤ a1 ∧ a1 ≤ 6) ∧ (zi a2 &&& zi (-63)).toInt = 0) := by have h0 := (show ((1 ≤ a1 ∧ a1 ≤ 6) ∧ (zi a2 &&& zi (-63)).toInt = 0) from hB); first | exact h0 | (simp only [k5, and_assoc] at h0 ⊢; exact h0)
  refine ⟨by decide, _, _, _, ?_, ?_, c_X12_dimension (l := l) (g := g) (x := _) (n := a1) (s := a2) (r_n := r_a1) (r_s := r_a2) (hok := hok2), fun r2 w hw => ?_⟩; (decide); (decide)
  obtain ⟨hr2, hw⟩ := hw
  have hk := hw
  have h70 : w 70 0 = y 70 0 := by rw [hk.2.2.2.2 70 (by omega)]
  skip
  exact ⟨hk.1, JI_KM hJy hk, fun _ => by rw [h70, hy, up_s, hr, hr2]⟩
