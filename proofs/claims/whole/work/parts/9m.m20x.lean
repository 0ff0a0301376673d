set_option maxHeartbeats 600000 in
theorem e_X12_dimension (l : Launch) (g : Gl) (x : Me) (n : Int) (s : Int)  (r_n : -2147483648 ≤ n ∧ n < 2147483648) (r_s : -2147483648 ≤ s ∧ s < 2147483648) (hno : ¬ (((1 ≤ n ∧ n ≤ 6) ∧ (zi s &&& zi (-63)).toInt = 0))) : ctQ l g yX12_dimension cX12_dimension 9 (some .int) 3 75 [.ref (gA g 50), .int (zi n), .int (zi s)] x (QIu g (fun z x' => z = 0 ∧ x' = up x 50 0 (exn (True) ((1 ≤ n ∧ n ≤ 6) ∧ (zi s &&& zi (-63)).toInt = 0) 0 1 0))) := by
  refine ct_start (own := RX12) (lv := [(0, .ref (gA g 50)), (1, .int (zi n)), (2, .int (zi s))]) (plainFor_of_name (by decide)) rfl (Nat.le_of_ble_eq_true rfl) rfl ?_
  intro Γ hΓ hO hr hQ _
  refine z_bipush (pc := 0) hO dX12_dimension_0 (by decide) ?_
  refine z_istore_n (pc := 2) hO (lv' := [(3, .int (zi 62)), (0, .ref (gA g 50)), (1, .int (zi n)), (2, .int (zi s))]) dX12_dimension_2 rfl (by decide) rfl ?_
  refine z_aload_n (pc := 3) hO 1 dX12_dimension_3 rfl rfl ?_
  refine z_iload_n (pc := 4) hO 2 dX12_dimension_4 rfl rfl ?_
  refine z_iconst (pc := 5) hO dX12_dimension_5 ?_
  refine z_bipush (pc := 6) hO dX12_dimension_6 (by decide) ?_
  refine z_callSB (pc := 8) hO (As := [.int (zi n), .int (zi 1), .int (zi 6)]) (st := [.ref (gA g 50)]) (c_X12_in (qL Γ) g x n 1 6 (by first | assumption | omega) (by first | assumption | omega) (by first | assumption | omega)) k_X12_55 rfl (Nat.le_of_ble_eq_true rfl) (by decide) (by decide) ⟨by decide, by decide⟩ dX12_dimension_8 (fun pb1 => ?_) (fun pb1 => ?_)
  · skip
    refine z_if_eq (pc := 11) hO (tgt := 26) dX12_dimension_11 (by decide) (by decide) (fun h => absurd h (by decide)) (fun _ => ?_)
    refine z_iload_n (pc := 14) hO 3 dX12_dimension_14 rfl rfl ?_
    refine z_iload_n (pc := 15) hO 0 dX12_dimension_15 rfl rfl ?_
    refine z_iconst (pc := 16) hO dX12_dimension_16 ?_
    refine z_ixor (pc := 17) hO (zi (-63)) dX12_dimension_17 (by decide) ?_
    refine z_iand (pc := 18) hO (zi ((zi s &&& zi (-63)).toInt)) dX12_dimension_18 (by exact (zi_all _).symm) ?_
    refine z_if_ne (pc := 19) hO (tgt := 26) dX12_dimension_19 (by decide) (by exact zi_rng _) (fun b2 => ?_) (fun b2 => ?_)
    · refine z_iconst (pc := 26) hO dX12_dimension_26 ?_
      refine z_callVIm (pc := 27) hO (As := [.int (zi 1)]) (st := []) (c_X12_isFine1 (qL Γ) g x 1 (by first | assumption | omega)) k_X12_63 isO_50 rfl (Nat.le_of_ble_eq_true rfl) (by decide) (by decide) ⟨by decide, by decide⟩ dX12_dimension_27 (fun m3 e4 => ?_)
      refine z_if_ne (pc := 30) hO (tgt := 35) dX12_dimension_30 (by decide) (by decide) (fun h => absurd h (by decide)) (fun _ => ?_)
      refine z_iconst (pc := 33) hO dX12_dimension_33 ?_
      exact z_iret (pc := 34) hO hr hQ rfl dX12_dimension_34 (by first | (refine ⟨rfl, ?_⟩; first | (rw [exn_1 (by omega)]; assumption) | (rw [exn_2 (by first | trivial | omega) (by omega)]; assumption) | (rw [exn_3 (by first | trivial | omega) (by first | trivial | omega)]; assumption); done) | (exfalso; omega))
    · refine z_iconst (pc := 22) hO dX12_dimension_22 ?_
      refine z_goto (pc := 23) hO (tgt := 27) dX12_dimension_23 (by decide) ?_
      refine z_callVIm (pc := 27) hO (As := [.int (zi 0)]) (st := []) (c_X12_isFine0 (qL Γ) g x 0 (by first | assumption | omega)) k_X12_63 isO_50 rfl (Nat.le_of_ble_eq_true rfl) (by decide) (by decide) ⟨by decide, by decide⟩ dX12_dimension_27 (fun m5 e6 => ?_)
      refine z_if_ne (pc := 30) hO (tgt := 35) dX12_dimension_30 (by decide) (by decide) (fun _ => ?_) (fun h => absurd h (by decide))
      exfalso; omega
  · skip
    refine z_if_eq (pc := 11) hO (tgt := 26) dX12_dimension_11 (by decide) (by decide) (fun _ => ?_) (fun h => absurd h (by decide))
    refine z_iconst (pc := 26) hO dX12_dimension_26 ?_
    refine z_callVIm (pc := 27) hO (As := [.int (zi 1)]) (st := []) (c_X12_isFine1 (qL Γ) g x 1 (by first | assumption | omega)) k_X12_63 isO_50 rfl (Nat.le_of_ble_eq_true rfl) (by decide) (by decide) ⟨by decide, by decide⟩ dX12_dimension_27 (fun m7 e8 => ?_)
    refine z_if_ne (pc := 30) hO (tgt := 35) dX12_dimension_30 (by decide) (by decide) (fun h => absurd h (by decide)) (fun _ => ?_)
    refine z_iconst (pc := 33) hO dX12_dimension_33 ?_
    exact z_iret (pc := 34) hO hr hQ rfl dX12_dimension_34 (by first | (refine ⟨rfl, ?_⟩; first | (rw [exn_1 (by omega)]; assumption) | (rw [exn_2 (by first | trivial | omega) (by omega)]; assumption) | (rw [exn_3 (by first | trivial | omega) (by first | trivial | omega)]; assumption); done) | (exfalso; omega))

set_option maxHeartbeats 600000 in
theorem c_X12_dimension (l : Launch) (g : Gl) (x : Me) (n : Int) (s : Int)  (r_n : -2147483648 ≤ n ∧ n < 2147483648) (r_s : -2147483648 ≤ s ∧ s < 2147483648) (hok : ((1 ≤ n ∧ n ≤ 6) ∧ (zi s &&& zi (-63)).toInt = 0)) : ctQ l g yX12_dimension cX12_dimension 9 (some .int) 3 75 [.ref (gA g 50), .int (zi n), .int (zi s)] x (QIu g (fun z x' => z = dimS n s ∧ KM x x')) := by
  refine ct_start (own := RX12) (lv := [(0, .ref (gA g 50)), (1, .int (zi n)), (2, .int (zi s))]) (plainFor_of_name (by decide)) rfl (Nat.le_of_ble_eq_true rfl) rfl ?_
  intro Γ hΓ hO hr hQ _
  refine z_bipush (pc := 0) hO dX12_dimension_0 (by decide) ?_
  refine z_istore_n (pc := 2) hO (lv' := [(3, .int (zi 62)), (0, .ref (gA g 50)), (1, .int (zi n)), (2, .int (zi s))]) dX12_dimension_2 rfl (by decide) rfl ?_
  refine z_aload_n (pc := 3) hO 1 dX12_dimension_3 rfl rfl ?_
  refine z_iload_n (pc := 4) hO 2 dX12_dimension_4 rfl rfl ?_
  refine z_iconst (pc := 5) hO dX12_dimension_5 ?_
  refine z_bipush (pc := 6) hO dX12_dimension_6 (by decide) ?_
  refine z_callSB (pc := 8) hO (As := [.int (zi n), .int (zi 1), .int (zi 6)]) (st := [.ref (gA g 50)]) (c_X12_in (qL Γ) g x n 1 6 (by first | assumption | omega) (by first | assumption | omega) (by first | assumption | omega)) k_X12_55 rfl (Nat.le_of_ble_eq_true rfl) (by decide) (by decide) ⟨by decide, by decide⟩ dX12_dimension_8 (fun pb1 => ?_) (fun pb1 => ?_)
  · skip
    refine z_if_eq (pc := 11) hO (tgt := 26) dX12_dimension_11 (by decide) (by decide) (fun h => absurd h (by decide)) (fun _ => ?_)
    refine z_iload_n (pc := 14) hO 3 dX12_dimension_14 rfl rfl ?_
    refine z_iload_n (pc := 15) hO 0 dX12_dimension_15 rfl rfl ?_
    refine z_iconst (pc := 16) hO dX12_dimension_16 ?_
    refine z_ixor (pc := 17) hO (zi (-63)) dX12_dimension_17 (by decide) ?_
    refine z_iand (pc := 18) hO (zi ((zi s &&& zi (-63)).toInt)) dX12_dimension_18 (by exact (zi_all _).symm) ?_
    refine z_if_ne (pc := 19) hO (tgt := 26) dX12_dimension_19 (by decide) (by exact zi_rng _) (fun b2 => ?_) (fun b2 => ?_)
    · exfalso; omega
    · refine z_iconst (pc := 22) hO dX12_dimension_22 ?_
      refine z_goto (pc := 23) hO (tgt := 27) dX12_dimension_23 (by decide) ?_
      refine z_callVIm (pc := 27) hO (As := [.int (zi 0)]) (st := []) (c_X12_isFine0 (qL Γ) g x 0 (by first | assumption | omega)) k_X12_63 isO_50 rfl (Nat.le_of_ble_eq_true rfl) (by decide) (by decide) ⟨by decide, by decide⟩ dX12_dimension_27 (fun m3 e4 => ?_)
      refine z_if_ne (pc := 30) hO (tgt := 35) dX12_dimension_30 (by decide) (by decide) (fun _ => ?_) (fun h => absurd h (by decide))
      have hs64 := tol_r r_s hok.2
      have hth : m3 = up x 50 0 0 := by assumption
      obtain ⟨m, hmem⟩ : ∃ m : Me, m = m3 := ⟨_, rfl⟩
      have h6 := sq6 hok.1
      refine z_iconst (pc := 35) hO dX12_dimension_35 ?_
      refine z_istore (pc := 36) hO (lv' := [(4, .int (zi 0)), (3, .int (zi 62)), (0, .ref (gA g 50)), (1, .int (zi n)), (2, .int (zi s))]) dX12_dimension_36 (by decide) rfl ?_
      have L38 : ∀ (N : Nat) (i : Int) (y0 : Me), (36 - i).toNat < N → (0 ≤ i ∧ i ≤ 36) → (∀ p, 0 ≤ p → p < i → y0 62 p = 0) → (∀ a, a ≠ 62 → y0 a = m a) → Zz Γ g 9 0 0 y0 38 [(0, .ref (gA g 50)), (1, .int (zi n)), (2, .int (zi s)), (3, .int (zi 62)), (4, .int (zi i))] [] := by
        intro N
        induction N with
        | zero => intro i y0 hm; exact absurd hm (Nat.not_lt_zero _)
        | succ N ih38 =>
          intro i y0 hm h0 hz0 hf0
          refine z_iload (pc := 38) hO 4 dX12_dimension_38 rfl ?_
          refine z_bipush (pc := 40) hO dX12_dimension_40 (by decide) ?_
          refine z_icmp_ge (pc := 42) hO (tgt := 59) dX12_dimension_42 (by decide) (by omega) (by omega) (fun b5 => ?_) (fun b5 => ?_)
          · have hI0 : DI m y0 (dmA n s 0) 0 1 0 := ⟨rfl, ⟨by omega, by omega⟩, Or.inl ⟨rfl, rfl⟩, BS_0 (fun p a b => hz0 p a (by omega)), fun a _ _ _ a4 => by rw [hf0 a a4, hmem]⟩
            refine z_iconst (pc := 59) hO dX12_dimension_59 ?_
            refine z_istore (pc := 60) hO (lv' := [(4, .int (zi 0)), (0, .ref (gA g 50)), (1, .int (zi n)), (2, .int (zi s)), (3, .int (zi 62))]) dX12_dimension_60 (by decide) rfl ?_
            refine z_iconst (pc := 62) hO dX12_dimension_62 ?_
            refine z_istore (pc := 63) hO (lv' := [(5, .int (zi 1)), (4, .int (zi 0)), (0, .ref (gA g 50)), (1, .int (zi n)), (2, .int (zi s)), (3, .int (zi 62))]) dX12_dimension_63 (by decide) rfl ?_
            refine z_iconst (pc := 65) hO dX12_dimension_65 ?_
            refine z_istore (pc := 66) hO (lv' := [(6, .int (zi 0)), (5, .int (zi 1)), (4, .int (zi 0)), (0, .ref (gA g 50)), (1, .int (zi n)), (2, .int (zi s)), (3, .int (zi 62))]) dX12_dimension_66 (by decide) rfl ?_
            have L68 : ∀ (N : Nat) (rk : Int) (b : Int) (i : Int) (y : Me), (4 * n - i).toNat < N → (0 ≤ i ∧ i ≤ 4 * n) → (DI m y (dmA n s i.toNat) rk b i) → (b = 0 ∨ b = 1) → Zz Γ g 9 0 0 y 68 [(0, .ref (gA g 50)), (1, .int (zi n)), (2, .int (zi s)), (3, .int (zi 62)), (4, .int (zi rk)), (5, .int (zi b)), (6, .int (zi i))] [] := by
              intro N
              induction N with
              | zero => intro rk b i y hm; exact absurd hm (Nat.not_lt_zero _)
              | succ N ih68 =>
                intro rk b i y hm h0 hI hb
                have hrk := hI.2.1
                have hd1 : 0 ≤ i / n := Int.ediv_nonneg (by omega) (by omega)
                have hd2 : i < 4 * n → i / n ≤ 3 := fun h => by have := Int.ediv_lt_of_lt_mul (show 0 < n by omega) h; omega
                have hd3 := Int.emod_nonneg i (show n ≠ 0 by omega)
                have hd4 := Int.emod_lt_of_pos i (show 0 < n by omega)
                have J143 : ∀ (rk2 : Int) (w : Me), (DI m w (dmT n (lmR n (i / n) (i % n)) (dmA n s i.toNat)) rk2 0 (i + 1)) → (i < 4 * n) → (isOb n s (i / n) (i % n) = true) → Zz Γ g 9 0 0 w 143 [(0, .ref (gA g 50)), (1, .int (zi n)), (2, .int (zi s)), (3, .int (zi 62)), (4, .int (zi rk2)), (5, .int (zi b)), (6, .int (zi i))] [] := by
                  intro rk2 w hJ2 hin hof
                  refine z_iconst (pc := 143) hO dX12_dimension_143 ?_
                  refine z_istore (pc := 144) hO (lv' := [(5, .int (zi 0)), (0, .ref (gA g 50)), (1, .int (zi n)), (2, .int (zi s)), (3, .int (zi 62)), (4, .int (zi rk2)), (6, .int (zi i))]) dX12_dimension_144 (by decide) rfl ?_
                  refine z_iinc (pc := 146) hO 6 (lv' := [(6, .int (zi (i + 1))), (5, .int (zi 0)), (0, .ref (gA g 50)), (1, .int (zi n)), (2, .int (zi s)), (3, .int (zi 62)), (4, .int (zi rk2))]) dX12_dimension_146 rfl (by decide) rfl ?_
                  refine z_goto (pc := 149) hO (tgt := 68) dX12_dimension_149 (by decide) ?_
                  refine z_sub [2, 3, 4, 5, 6, 1, 0] rfl ?_
                  exact ih68 rk2 0 (i + 1) w (by omega) (by omega) (by first | (rw [(dmA_s n s h0.1).1 hof]; exact hJ2) | (rw [(dmA_s n s h0.1).2 hof]; exact DI_K hI (by omega))) (by omega)
                refine z_iload (pc := 68) hO 6 dX12_dimension_68 rfl ?_
                refine z_iconst (pc := 70) hO dX12_dimension_70 ?_
                refine z_iload_n (pc := 71) hO 1 dX12_dimension_71 rfl rfl ?_
                refine z_imul (pc := 72) hO dX12_dimension_72 ?_
                refine z_icmp_ge (pc := 73) hO (tgt := 152) dX12_dimension_73 (by decide) (by omega) (by omega) (fun b6 => ?_) (fun b6 => ?_)
                · have hO0 : DI m y (dmO n s 0) rk 1 24 := DI_O (by rw [show 4 * n = i by omega]; exact hI) (by omega)
                  refine z_iload_n (pc := 152) hO 1 dX12_dimension_152 rfl rfl ?_
                  refine z_iload_n (pc := 153) hO 1 dX12_dimension_153 rfl rfl ?_
                  refine z_imul (pc := 154) hO dX12_dimension_154 ?_
                  refine z_iconst (pc := 155) hO dX12_dimension_155 ?_
                  refine z_isub (pc := 156) hO dX12_dimension_156 ?_
                  refine z_istore (pc := 157) hO (lv' := [(6, .int (zi ((n * n) - 1))), (0, .ref (gA g 50)), (1, .int (zi n)), (2, .int (zi s)), (3, .int (zi 62)), (4, .int (zi rk)), (5, .int (zi b))]) dX12_dimension_157 (by decide) rfl ?_
                  refine z_iconst (pc := 159) hO dX12_dimension_159 ?_
                  refine z_istore (pc := 160) hO (lv' := [(7, .int (zi 0)), (6, .int (zi ((n * n) - 1))), (0, .ref (gA g 50)), (1, .int (zi n)), (2, .int (zi s)), (3, .int (zi 62)), (4, .int (zi rk)), (5, .int (zi b))]) dX12_dimension_160 (by decide) rfl ?_
                  have L162 : ∀ (N : Nat) (rk : Int) (p : Int) (y : Me), (n * n - p).toNat < N → (0 ≤ p ∧ p ≤ n * n) → (DI m y (dmO n s p.toNat) rk (if p = 0 then 1 else 0) (24 + p)) → (0 < p → bnd2 s 32 ≠ 0) → Zz Γ g 9 0 0 y 162 [(0, .ref (gA g 50)), (1, .int (zi n)), (2, .int (zi s)), (3, .int (zi 62)), (4, .int (zi rk)), (6, .int (zi ((n * n) - 1))), (7, .int (zi p))] [] := by
                    intro N
                    induction N with
                    | zero => intro rk p y hm; exact absurd hm (Nat.not_lt_zero _)
                    | succ N ih162 =>
                      intro rk p y hm h0 hI hp0
                      have hrk := hI.2.1
                      have J256 : ∀ (rk2 : Int) (w : Me), (DI m w (dmT n (opM n p) (dmO n s p.toNat)) rk2 0 (24 + p + 1)) → (p < n * n) → (bnd2 s 32 ≠ 0) → Zz Γ g 9 0 0 w 256 [(0, .ref (gA g 50)), (1, .int (zi n)), (2, .int (zi s)), (3, .int (zi 62)), (4, .int (zi rk2)), (6, .int (zi ((n * n) - 1))), (7, .int (zi p))] [] := by
                        intro rk2 w hJ2 hpl hp32
                        refine z_iinc (pc := 256) hO 6 (lv' := [(7, .int (zi (p + 1))), (0, .ref (gA g 50)), (1, .int (zi n)), (2, .int (zi s)), (3, .int (zi 62)), (4, .int (zi rk2)), (6, .int (zi ((n * n) - 1)))]) dX12_dimension_256 rfl (by decide) rfl ?_
                        refine z_goto (pc := 259) hO (tgt := 162) dX12_dimension_259 (by decide) ?_
                        refine z_sub [1, 2, 3, 4, 5, 6, 0] rfl ?_
                        exact ih162 rk2 (p + 1) w (by omega) (by omega) (by rw [dmO_s n s h0.1, if_neg (by omega)]; exact DI_K hJ2 (by omega)) (by omega)
                      refine z_iload (pc := 162) hO 6 dX12_dimension_162 rfl ?_
                      refine z_iload (pc := 164) hO 5 dX12_dimension_164 rfl ?_
                      refine z_icmp_gt (pc := 166) hO (tgt := 262) dX12_dimension_166 (by decide) (by omega) (by omega) (fun b7 => ?_) (fun b7 => ?_)
                      · refine z_iload_n (pc := 262) hO 1 dX12_dimension_262 rfl rfl ?_
                        refine z_iload_n (pc := 263) hO 1 dX12_dimension_263 rfl rfl ?_
                        refine z_imul (pc := 264) hO dX12_dimension_264 ?_
                        refine z_iload (pc := 265) hO 4 dX12_dimension_265 rfl ?_
                        refine z_isub (pc := 267) hO dX12_dimension_267 ?_
                        exact z_iret (pc := 268) hO hr hQ rfl dX12_dimension_268 (by first | (have hfr := hI.2.2.2.2; refine ⟨?_, ⟨by rw [hfr 50 (by omega) (by omega) (by omega) (by omega), hmem, hth, up_s], by rw [hfr 50 (by omega) (by omega) (by omega) (by omega), hmem, hth, up_n _ _ (by omega)], by rw [hfr 51 (by omega) (by omega) (by omega) (by omega), hmem, hth, up_i _ _ _ (by omega)], by rw [hfr 52 (by omega) (by omega) (by omega) (by omega), hmem, hth, up_i _ _ _ (by omega)], fun a ha => by rw [hfr a (by omega) (by omega) (by omega) (by omega), hmem, hth, up_i _ _ _ (by omega)]⟩⟩; rw [← dims hok.1 hs64 hok.2]; unfold dimM; have e1 := hI.1; first | (rw [if_pos (by omega), show n * n = p by omega]; omega) | (rw [if_neg (by omega)]; rw [show p = 0 by omega] at e1; have e2 : rk = (dmA n s (4 * n).toNat).2.1 := e1; omega); done) | (exfalso; omega))
                      · have hb32 := bnd2_r (a := s) (b := 32) (by omega)
                        refine z_iload_n (pc := 169) hO 2 dX12_dimension_169 rfl rfl ?_
                        refine z_bipush (pc := 170) hO dX12_dimension_170 (by decide) ?_
                        refine z_iand (pc := 172) hO (zi (bnd2 s 32)) dX12_dimension_172 (by exact bnd2_z (by omega) (by omega)) ?_
                        refine z_if_eq (pc := 173) hO (tgt := 262) dX12_dimension_173 (by decide) (by omega) (fun b8 => ?_) (fun b8 => ?_)
                        · refine z_iload_n (pc := 262) hO 1 dX12_dimension_262 rfl rfl ?_
                          refine z_iload_n (pc := 263) hO 1 dX12_dimension_263 rfl rfl ?_
                          refine z_imul (pc := 264) hO dX12_dimension_264 ?_
                          refine z_iload (pc := 265) hO 4 dX12_dimension_265 rfl ?_
                          refine z_isub (pc := 267) hO dX12_dimension_267 ?_
                          exact z_iret (pc := 268) hO hr hQ rfl dX12_dimension_268 (by first | (have hfr := hI.2.2.2.2; refine ⟨?_, ⟨by rw [hfr 50 (by omega) (by omega) (by omega) (by omega), hmem, hth, up_s], by rw [hfr 50 (by omega) (by omega) (by omega) (by omega), hmem, hth, up_n _ _ (by omega)], by rw [hfr 51 (by omega) (by omega) (by omega) (by omega), hmem, hth, up_i _ _ _ (by omega)], by rw [hfr 52 (by omega) (by omega) (by omega) (by omega), hmem, hth, up_i _ _ _ (by omega)], fun a ha => by rw [hfr a (by omega) (by omega) (by omega) (by omega), hmem, hth, up_i _ _ _ (by omega)]⟩⟩; rw [← dims hok.1 hs64 hok.2]; unfold dimM; have e1 := hI.1; first | (rw [if_pos (by omega), show n * n = p by omega]; omega) | (rw [if_neg (by omega)]; rw [show p = 0 by omega] at e1; have e2 : rk = (dmA n s (4 * n).toNat).2.1 := e1; omega); done) | (exfalso; omega))
                        · refine z_aload_n (pc := 176) hO 0 dX12_dimension_176 rfl rfl ?_
                          refine z_aload_n (pc := 177) hO 0 dX12_dimension_177 rfl rfl ?_
                          refine gf_X12_line (pc := 178) hO f_X12_34 dX12_dimension_178 ?_
                          refine z_callVV (pc := 181) hO (As := [.ref (gA g 59)]) (st := []) (c_X12_begin (qL Γ) g y 59 (by exact isL_59)) k_X12_215 isO_50 rfl (Nat.le_of_ble_eq_true rfl) (by decide) (by decide) ⟨by decide, by decide⟩ dX12_dimension_181 (fun m10 h11 => ?_)
                          have hw := h11
                          have hV0 : VB m10 59 (List.replicate 36 0) 0 := VB_0 hw
                          have hl0 := hV0.2 p (by omega) (by omega)
                          obtain ⟨m1, hm1⟩ : ∃ z : Me, z = m10 := ⟨_, rfl⟩
                          have hf1 : ∀ a, a ≠ 59 → m10 a = y a := fun a ha => by rw [hw]; exact clr_i y 59 36 ha
                          refine z_aload_n (pc := 184) hO 0 dX12_dimension_184 rfl rfl ?_
                          refine gf_X12_line (pc := 185) hO f_X12_34 dX12_dimension_185 ?_
                          refine z_iload (pc := 188) hO 6 dX12_dimension_188 rfl ?_
                          refine z_dup2 (pc := 190) hO dX12_dimension_190 rfl rfl ?_
                          refine z_lald (pc := 191) hO isL_59 (by omega) dX12_dimension_191 ?_
                          refine z_lconst (v := 1) (pc := 192) hO dX12_dimension_192 rfl ?_
                          refine z_ladd (pc := 193) hO dX12_dimension_193 ?_
                          refine z_last (pc := 194) hO isL_59 (by omega) dX12_dimension_194 (fun m12 e13 => ?_)
                          have hV1 := VB_bmp hV0 ⟨by omega, by omega⟩ e13
                          have hl1 := hV1.2 (n * n - 1 - p) (by omega) (by omega)
                          have hf2 : ∀ a, a ≠ 59 → m12 a = y a := fun a ha => by rw [e13, up_i _ _ _ ha]; exact hf1 a ha
                          refine z_aload_n (pc := 195) hO 0 dX12_dimension_195 rfl rfl ?_
                          refine gf_X12_line (pc := 196) hO f_X12_34 dX12_dimension_196 ?_
                          refine z_iload (pc := 199) hO 5 dX12_dimension_199 rfl ?_
                          refine z_iload (pc := 201) hO 6 dX12_dimension_201 rfl ?_
                          refine z_isub (pc := 203) hO dX12_dimension_203 ?_
                          refine z_dup2 (pc := 204) hO dX12_dimension_204 rfl rfl ?_
                          refine z_lald (pc := 205) hO isL_59 (by omega) dX12_dimension_205 ?_
                          refine z_lconst (v := 1) (pc := 206) hO dX12_dimension_206 rfl ?_
                          refine z_ladd (pc := 207) hO dX12_dimension_207 ?_
                          refine z_last (pc := 208) hO isL_59 (by omega) dX12_dimension_208 (fun m14 e15 => ?_)
                          have hV2 : VB m14 59 (opM n p) 2 := VB_bmp hV1 ⟨by omega, by omega⟩ e15
                          have hf3 : ∀ a, a ≠ 59 → m14 a = y a := fun a ha => by rw [e15, up_i _ _ _ ha]; exact hf2 a ha
                          obtain ⟨m3, hm3⟩ : ∃ z : Me, z = m14 := ⟨_, rfl⟩
                          refine z_iload (pc := 209) hO 6 dX12_dimension_209 rfl ?_
                          refine z_if_ne (pc := 211) hO (tgt := 247) dX12_dimension_211 (by decide) (by omega) (fun b16 => ?_) (fun b16 => ?_)
                          · have hb0 := DI_b hI (by rw [if_neg (by omega)])
                            refine z_iload (pc := 247) hO 4 dX12_dimension_247 rfl ?_
                            refine z_aload_n (pc := 249) hO 0 dX12_dimension_249 rfl rfl ?_
                            refine z_callVI (pc := 250) hO (As := []) (st := [.int (zi rk)]) (c_X12_independent (qL Γ) g m14 (opM n p) ((dmO n s p.toNat).2.2.1) ((dmO n s p.toNat).1) (by exact VB_le hV2 (by decide)) (by exact VB_of hb0.2 (hf3 60 (by omega))) (by exact BS_of hI.2.2.2.1 (hf3 61 (by omega)) (hf3 62 (by omega)))) k_X12_227 isO_50 rfl (Nat.le_of_ble_eq_true rfl) (by decide) (by decide) ⟨by decide, by decide⟩ dX12_dimension_250 (fun z17 m18 h19 => ?_)
                            have hlz := h19
                            have h01 := inL_01 (dmO n s p.toNat).1 36 0 (subL (opM n p) (dmO n s p.toNat).2.2.1)
                            rw [← hlz.1] at h01
                            have hJ := DI_next (n := n) hI (z := m18) (by rw [if_neg (by omega)]) hlz.1 hlz.2.1 (fun a a1 a2 a3 => by rw [hlz.2.2 a a1 a2 a3, hf3 a a1])
                            refine z_iadd (pc := 253) hO dX12_dimension_253 ?_
                            refine z_istore (pc := 254) hO (lv' := [(4, .int (zi (rk + z17))), (0, .ref (gA g 50)), (1, .int (zi n)), (2, .int (zi s)), (3, .int (zi 62)), (6, .int (zi ((n * n) - 1))), (7, .int (zi p))]) dX12_dimension_254 (by decide) rfl ?_
                            refine z_sub [1, 2, 3, 4, 0, 5, 6] rfl ?_
                            exact J256 (rk + z17) m18 (by exact hJ) (by omega) (by omega)
                          · refine z_iconst (pc := 214) hO dX12_dimension_214 ?_
                            refine z_istore (pc := 215) hO (lv' := [(8, .int (zi 0)), (0, .ref (gA g 50)), (1, .int (zi n)), (2, .int (zi s)), (3, .int (zi 62)), (4, .int (zi rk)), (6, .int (zi ((n * n) - 1))), (7, .int (zi p))]) dX12_dimension_215 (by decide) rfl ?_
                            have L217 : ∀ (N : Nat) (k : Int) (z : Me), (36 - k).toNat < N → (0 ≤ k ∧ k ≤ 36) → (∀ i, 0 ≤ i → i < k → z 60 i = m3 59 i) → (∀ a, a ≠ 60 → z a = m3 a) → Zz Γ g 9 0 0 z 217 [(0, .ref (gA g 50)), (1, .int (zi n)), (2, .int (zi s)), (3, .int (zi 62)), (4, .int (zi rk)), (6, .int (zi ((n * n) - 1))), (7, .int (zi p)), (8, .int (zi k))] [] := by
                              intro N
                              induction N with
                              | zero => intro k z hm; exact absurd hm (Nat.not_lt_zero _)
                              | succ N ih217 =>
                                intro k z hm g0 hzc hzf
                                refine z_iload (pc := 217) hO 7 dX12_dimension_217 rfl ?_
                                refine z_bipush (pc := 219) hO dX12_dimension_219 (by decide) ?_
                                refine z_icmp_ge (pc := 221) hO (tgt := 244) dX12_dimension_221 (by decide) (by omega) (by omega) (fun b20 => ?_) (fun b20 => ?_)
                                · have hJ : DI m z (dmT n (opM n p) (dmO n s p.toNat)) rk 0 (24 + p + 1) := DI_first hI (by rw [if_pos (by omega)]) ⟨VB_len hV2, fun i a b => by have h1 := hV2.2 i a b; rw [hzc i a (by omega), hm3]; exact ⟨h1.1, h1.2.1, by omega⟩⟩ (fun a a1 a2 => by rw [hzf a a2, hm3]; exact hf3 a a1)
                                  refine z_goto (pc := 244) hO (tgt := 256) dX12_dimension_244 (by decide) ?_
                                  refine z_sub [0, 1, 2, 3, 4, 5, 6] rfl ?_
                                  exact J256 rk z (by exact hJ) (by omega) (by omega)
                                · have hlk := hV2.2 k (by omega) (by omega)
                                  refine z_aload_n (pc := 224) hO 0 dX12_dimension_224 rfl rfl ?_
                                  refine gf_X12_first (pc := 225) hO f_X12_38 dX12_dimension_225 ?_
                                  refine z_iload (pc := 228) hO 7 dX12_dimension_228 rfl ?_
                                  refine z_aload_n (pc := 230) hO 0 dX12_dimension_230 rfl rfl ?_
                                  refine gf_X12_line (pc := 231) hO f_X12_34 dX12_dimension_231 ?_
                                  refine z_iload (pc := 234) hO 7 dX12_dimension_234 rfl ?_
                                  refine z_lald (pc := 236) hO isL_59 (by omega) dX12_dimension_236 ?_
                                  refine z_last (pc := 237) hO isL_60 (by omega) dX12_dimension_237 (fun m21 e22 => ?_)
                                  refine z_iinc (pc := 238) hO 7 (lv' := [(8, .int (zi (k + 1))), (0, .ref (gA g 50)), (1, .int (zi n)), (2, .int (zi s)), (3, .int (zi 62)), (4, .int (zi rk)), (6, .int (zi ((n * n) - 1))), (7, .int (zi p))]) dX12_dimension_238 rfl (by decide) rfl ?_
                                  refine z_goto (pc := 241) hO (tgt := 217) dX12_dimension_241 (by decide) ?_
                                  refine z_sub [1, 2, 3, 4, 5, 6, 7, 0] rfl ?_
                                  exact ih217 (k + 1) m21 (by omega) (by omega) (by intro i a b; subst m21; exact dite (i = k) (fun e => by rw [e, up_s, hzf 59 (by omega)]) (fun e => by rw [up_n _ _ (by omega)]; exact hzc i a (by omega))) (by intro a ha; subst m21; rw [up_i _ _ _ ha]; exact hzf a ha)
                            refine z_sub [1, 2, 3, 4, 5, 6, 7, 0] rfl ?_
                            exact L217 _ 0 m14 (Nat.lt_succ_self _) (by omega) (by intro i a b; omega) (by intro a _; rw [hm3])
                  refine z_sub [2, 3, 4, 5, 6, 1, 0] rfl ?_
                  exact L162 _ rk 0 y (Nat.lt_succ_self _) (by omega) (by exact hO0) (by omega)
                · refine z_iload_n (pc := 76) hO 1 dX12_dimension_76 rfl rfl ?_
                  refine z_iload_n (pc := 77) hO 2 dX12_dimension_77 rfl rfl ?_
                  refine z_iload (pc := 78) hO 6 dX12_dimension_78 rfl ?_
                  refine z_iload_n (pc := 80) hO 1 dX12_dimension_80 rfl rfl ?_
                  refine z_idiv (pc := 81) hO dX12_dimension_81 (by omega) (by omega) ?_
                  refine z_iload (pc := 82) hO 6 dX12_dimension_82 rfl ?_
                  refine z_iload_n (pc := 84) hO 1 dX12_dimension_84 rfl rfl ?_
                  refine z_irem (pc := 85) hO dX12_dimension_85 (by omega) (by omega) ?_
                  refine z_callSB (pc := 86) hO (As := [.int (zi n), .int (zi s), .int (zi (i / n)), .int (zi (i % n))]) (st := []) (c_X12_isOfLaws (qL Γ) g y n s (i / n) (i % n) (by omega) (by exact hs64) (by exact ⟨hd1, hd2 (by omega)⟩) (by exact ⟨hd3, hd4⟩)) k_X12_219 rfl (Nat.le_of_ble_eq_true rfl) (by decide) (by decide) ⟨by decide, by decide⟩ dX12_dimension_86 (fun pb23 => ?_) (fun pb23 => ?_)
                  · skip
                    have hof := pb23
                    refine z_if_eq (pc := 89) hO (tgt := 146) dX12_dimension_89 (by decide) (by decide) (fun h => absurd h (by decide)) (fun _ => ?_)
                    refine z_iload (pc := 92) hO 5 dX12_dimension_92 rfl ?_
                    refine z_if_eq (pc := 94) hO (tgt := 117) dX12_dimension_94 (by decide) (by omega) (fun b24 => ?_) (fun b24 => ?_)
                    · refine z_aload_n (pc := 117) hO 0 dX12_dimension_117 rfl rfl ?_
                      refine z_aload_n (pc := 118) hO 0 dX12_dimension_118 rfl rfl ?_
                      refine gf_X12_line (pc := 119) hO f_X12_34 dX12_dimension_119 ?_
                      refine z_iload_n (pc := 122) hO 1 dX12_dimension_122 rfl rfl ?_
                      refine z_iload (pc := 123) hO 6 dX12_dimension_123 rfl ?_
                      refine z_iload_n (pc := 125) hO 1 dX12_dimension_125 rfl rfl ?_
                      refine z_idiv (pc := 126) hO dX12_dimension_126 (by omega) (by omega) ?_
                      refine z_iload (pc := 127) hO 6 dX12_dimension_127 rfl ?_
                      refine z_iload_n (pc := 129) hO 1 dX12_dimension_129 rfl rfl ?_
                      refine z_irem (pc := 130) hO dX12_dimension_130 (by omega) (by omega) ?_
                      refine z_callVV (pc := 131) hO (As := [.ref (gA g 59), .int (zi n), .int (zi (i / n)), .int (zi (i % n))]) (st := []) (c_X12_layLine (qL Γ) g y 59 n (i / n) (i % n) (by exact isL_59) (by omega) (by exact ⟨hd1, hd2 (by omega)⟩) (by exact ⟨hd3, hd4⟩)) k_X12_223 isO_50 rfl (Nat.le_of_ble_eq_true rfl) (by decide) (by decide) ⟨by decide, by decide⟩ dX12_dimension_131 (fun m26 h27 => ?_)
                      have hlv := h27
                      have hb0 := DI_b hI (by omega)
                      refine z_iload (pc := 134) hO 4 dX12_dimension_134 rfl ?_
                      refine z_aload_n (pc := 136) hO 0 dX12_dimension_136 rfl rfl ?_
                      refine z_callVI (pc := 137) hO (As := []) (st := [.int (zi rk)]) (c_X12_independent (qL Γ) g m26 (lmR n (i / n) (i % n)) ((dmA n s i.toNat).2.2.1) ((dmA n s i.toNat).1) (by exact VB_le hlv.1 (by decide)) (by exact VB_of hb0.2 (hlv.2 60 (by omega))) (by exact BS_of hI.2.2.2.1 (hlv.2 61 (by omega)) (hlv.2 62 (by omega)))) k_X12_227 isO_50 rfl (Nat.le_of_ble_eq_true rfl) (by decide) (by decide) ⟨by decide, by decide⟩ dX12_dimension_137 (fun z28 m29 h30 => ?_)
                      have hlz := h30
                      have h01 := inL_01 (dmA n s i.toNat).1 36 0 (subL (lmR n (i / n) (i % n)) (dmA n s i.toNat).2.2.1)
                      rw [← hlz.1] at h01
                      have hJ := DI_next (n := n) hI (z := m29) (by omega) hlz.1 hlz.2.1 (fun a a1 a2 a3 => by rw [hlz.2.2 a a1 a2 a3, hlv.2 a a1])
                      refine z_iadd (pc := 140) hO dX12_dimension_140 ?_
                      refine z_istore (pc := 141) hO (lv' := [(4, .int (zi (rk + z28))), (0, .ref (gA g 50)), (1, .int (zi n)), (2, .int (zi s)), (3, .int (zi 62)), (5, .int (zi b)), (6, .int (zi i))]) dX12_dimension_141 (by decide) rfl ?_
                      refine z_sub [1, 2, 3, 4, 0, 5, 6] rfl ?_
                      exact J143 (rk + z28) m29 (by exact hJ) (by omega) (by exact hof)
                    · refine z_aload_n (pc := 97) hO 0 dX12_dimension_97 rfl rfl ?_
                      refine z_aload_n (pc := 98) hO 0 dX12_dimension_98 rfl rfl ?_
                      refine gf_X12_first (pc := 99) hO f_X12_38 dX12_dimension_99 ?_
                      refine z_iload_n (pc := 102) hO 1 dX12_dimension_102 rfl rfl ?_
                      refine z_iload (pc := 103) hO 6 dX12_dimension_103 rfl ?_
                      refine z_iload_n (pc := 105) hO 1 dX12_dimension_105 rfl rfl ?_
                      refine z_idiv (pc := 106) hO dX12_dimension_106 (by omega) (by omega) ?_
                      refine z_iload (pc := 107) hO 6 dX12_dimension_107 rfl ?_
                      refine z_iload_n (pc := 109) hO 1 dX12_dimension_109 rfl rfl ?_
                      refine z_irem (pc := 110) hO dX12_dimension_110 (by omega) (by omega) ?_
                      refine z_callVV (pc := 111) hO (As := [.ref (gA g 60), .int (zi n), .int (zi (i / n)), .int (zi (i % n))]) (st := []) (c_X12_layLine (qL Γ) g y 60 n (i / n) (i % n) (by exact isL_60) (by omega) (by exact ⟨hd1, hd2 (by omega)⟩) (by exact ⟨hd3, hd4⟩)) k_X12_223 isO_50 rfl (Nat.le_of_ble_eq_true rfl) (by decide) (by decide) ⟨by decide, by decide⟩ dX12_dimension_111 (fun m32 h33 => ?_)
                      have hlv := h33
                      have hJ : DI m m32 (dmT n (lmR n (i / n) (i % n)) (dmA n s i.toNat)) rk 0 (i + 1) := DI_first hI (by omega) (VB_le hlv.1 (by decide)) (fun a a1 a2 => hlv.2 a a2)
                      refine z_goto (pc := 114) hO (tgt := 143) dX12_dimension_114 (by decide) ?_
                      refine z_sub [0, 1, 2, 3, 4, 5, 6] rfl ?_
                      exact J143 rk m32 (by exact hJ) (by omega) (by exact hof)
                  · skip
                    have hof := pb23
                    refine z_if_eq (pc := 89) hO (tgt := 146) dX12_dimension_89 (by decide) (by decide) (fun _ => ?_) (fun h => absurd h (by decide))
                    refine z_iinc (pc := 146) hO 6 (lv' := [(6, .int (zi (i + 1))), (0, .ref (gA g 50)), (1, .int (zi n)), (2, .int (zi s)), (3, .int (zi 62)), (4, .int (zi rk)), (5, .int (zi b))]) dX12_dimension_146 rfl (by decide) rfl ?_
                    refine z_goto (pc := 149) hO (tgt := 68) dX12_dimension_149 (by decide) ?_
                    refine z_sub [1, 2, 3, 4, 5, 6, 0] rfl ?_
                    exact ih68 rk b (i + 1) y (by omega) (by omega) (by first | (rw [(dmA_s n s h0.1).1 hof]; exact hJ2) | (rw [(dmA_s n s h0.1).2 hof]; exact DI_K hI (by omega))) (by omega)
            refine z_sub [3, 4, 5, 6, 2, 1, 0] rfl ?_
            exact L68 _ 0 1 0 y0 (Nat.lt_succ_self _) (by omega) (by exact hI0) (by omega)
          · refine z_aload_n (pc := 45) hO 0 dX12_dimension_45 rfl rfl ?_
            refine gf_X12_isBegun (pc := 46) hO f_X12_44 dX12_dimension_46 ?_
            refine z_iload (pc := 49) hO 4 dX12_dimension_49 rfl ?_
            refine z_iconst (pc := 51) hO dX12_dimension_51 ?_
            refine z_zast (pc := 52) hO isZ_62 (by omega) (by omega) dX12_dimension_52 (fun m34 e35 => ?_)
            refine z_iinc (pc := 53) hO 4 (lv' := [(4, .int (zi (i + 1))), (0, .ref (gA g 50)), (1, .int (zi n)), (2, .int (zi s)), (3, .int (zi 62))]) dX12_dimension_53 rfl (by decide) rfl ?_
            refine z_goto (pc := 56) hO (tgt := 38) dX12_dimension_56 (by decide) ?_
            refine z_sub [1, 2, 3, 4, 0] rfl ?_
            exact ih38 (i + 1) m34 (by omega) (by omega) (by intro p a b; subst m34; exact dite (p = i) (fun e => by rw [e, up_s]) (fun e => by rw [up_n _ _ (by omega)]; exact hz0 p a (by omega))) (by intro a ha; subst m34; rw [up_i _ _ _ ha]; exact hf0 a ha)
      refine z_sub [2, 3, 4, 1, 0] rfl ?_
      exact L38 _ 0 m3 (Nat.lt_succ_self _) (by omega) (by intro p a b; omega) (by intro a _; rw [hmem])
  · skip
    exfalso; omega

