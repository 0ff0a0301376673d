set_option maxHeartbeats 600000 in
theorem e_X12_estimate (l : Launch) (g : Gl) (x : Me) (q : Int) (seed : Int)  (hM : MS x) (r_q : -2147483648 ≤ q ∧ q < 2147483648) (r_seed : -2147483648 ≤ seed ∧ seed < 2147483648) (hno : ¬ ((0 ≤ q ∧ q < x 50 1) ∧ (0 ≤ seed ∧ seed ≤ 65535) ∧ (x 51 q ≤ 4))) : ctQ l g yX12_estimate cX12_estimate 10 (some .long) 3 69 [.ref (gA g 50), .int (zi q), .int (zi seed)] x (QLu g (fun z x' => z = 0 ∧ x' = up x 50 0 (exn (0 ≤ q ∧ q < x 50 1) (0 ≤ seed ∧ seed ≤ 65535) 1 2 3))) := by
  refine ct_start (own := RX12) (lv := [(0, .ref (gA g 50)), (1, .int (zi q)), (2, .int (zi seed))]) (plainFor_of_name (by decide)) rfl (Nat.le_of_ble_eq_true rfl) rfl ?_
  intro Γ hΓ hO hr hQ _
  have hM1 := hM.1
  refine z_aload_n (pc := 0) hO 0 dX12_estimate_0 rfl rfl ?_
  refine z_iload_n (pc := 1) hO 1 dX12_estimate_1 rfl rfl ?_
  refine z_callVB (pc := 2) hO (As := [.int (zi q)]) (st := []) (c_X12_isSquare (qL Γ) g x q (by first | assumption | omega) (by first | assumption | omega)) k_X12_59 isO_50 rfl (Nat.le_of_ble_eq_true rfl) (by decide) (by decide) ⟨by decide, by decide⟩ dX12_estimate_2 (fun pb1 => ?_) (fun pb1 => ?_)
  · skip
    refine z_istore_n (pc := 5) hO (lv' := [(3, .int (zi 1)), (0, .ref (gA g 50)), (1, .int (zi q)), (2, .int (zi seed))]) dX12_estimate_5 rfl (by decide) rfl ?_
    refine z_aload_n (pc := 6) hO 1 dX12_estimate_6 rfl rfl ?_
    refine z_iload_n (pc := 7) hO 0 dX12_estimate_7 rfl rfl ?_
    refine z_if_ne (pc := 8) hO (tgt := 15) dX12_estimate_8 (by decide) (by decide) (fun _ => ?_) (fun h => absurd h (by decide))
    refine z_iload_n (pc := 15) hO 3 dX12_estimate_15 rfl rfl ?_
    refine z_iconst (pc := 16) hO dX12_estimate_16 ?_
    refine z_ldc (pc := 17) hO n_X12_172 dX12_estimate_17 ?_
    refine z_callSB (pc := 19) hO (As := [.int (zi seed), .int (zi 0), .int (zi 65535)]) (st := [.ref (gA g 50)]) (c_X12_in (qL Γ) g x seed 0 65535 (by first | assumption | omega) (by first | assumption | omega) (by first | assumption | omega)) k_X12_55 rfl (Nat.le_of_ble_eq_true rfl) (by decide) (by decide) ⟨by decide, by decide⟩ dX12_estimate_19 (fun pb2 => ?_) (fun pb2 => ?_)
    · skip
      refine z_if_ne (pc := 22) hO (tgt := 29) dX12_estimate_22 (by decide) (by decide) (fun _ => ?_) (fun h => absurd h (by decide))
      have hs1 := (hM.2 q (by omega) (by omega)).2.1
      have hq1 := (hM.2 q (by omega) (by omega)).1
      refine z_aload_n (pc := 29) hO 1 dX12_estimate_29 rfl rfl ?_
      refine gf_X12_sideOf (pc := 30) hO f_X12_7 dX12_estimate_30 ?_
      refine z_iload_n (pc := 33) hO 2 dX12_estimate_33 rfl rfl ?_
      refine z_iald (pc := 34) hO isI_51 (by omega) dX12_estimate_34 ?_
      refine z_iconst (pc := 35) hO dX12_estimate_35 ?_
      refine z_icmp_le (pc := 36) hO (tgt := 43) dX12_estimate_36 (by decide) (by omega) (by omega) (fun b3 => ?_) (fun b3 => ?_)
      · refine z_iconst (pc := 43) hO dX12_estimate_43 ?_
        refine z_callVIm (pc := 44) hO (As := [.int (zi 0)]) (st := []) (c_X12_isFine0 (qL Γ) g x 0 (by first | assumption | omega)) k_X12_63 isO_50 rfl (Nat.le_of_ble_eq_true rfl) (by decide) (by decide) ⟨by decide, by decide⟩ dX12_estimate_44 (fun m4 e5 => ?_)
        refine z_if_ne (pc := 47) hO (tgt := 52) dX12_estimate_47 (by decide) (by decide) (fun _ => ?_) (fun h => absurd h (by decide))
        exfalso; omega
      · refine z_iconst (pc := 39) hO dX12_estimate_39 ?_
        refine z_goto (pc := 40) hO (tgt := 44) dX12_estimate_40 (by decide) ?_
        refine z_callVIm (pc := 44) hO (As := [.int (zi 3)]) (st := []) (c_X12_isFine1 (qL Γ) g x 3 (by first | assumption | omega)) k_X12_63 isO_50 rfl (Nat.le_of_ble_eq_true rfl) (by decide) (by decide) ⟨by decide, by decide⟩ dX12_estimate_44 (fun m6 e7 => ?_)
        refine z_if_ne (pc := 47) hO (tgt := 52) dX12_estimate_47 (by decide) (by decide) (fun h => absurd h (by decide)) (fun _ => ?_)
        refine z_lconst (v := 0) (pc := 50) hO dX12_estimate_50 rfl ?_
        exact z_lret (pc := 51) hO hr hQ dX12_estimate_51 (by first | (refine ⟨rfl, ?_⟩; first | (rw [exn_1 (by omega)]; assumption) | (rw [exn_2 (by first | trivial | omega) (by omega)]; assumption) | (rw [exn_3 (by first | trivial | omega) (by first | trivial | omega)]; assumption); done) | (exfalso; omega))
    · skip
      refine z_if_ne (pc := 22) hO (tgt := 29) dX12_estimate_22 (by decide) (by decide) (fun h => absurd h (by decide)) (fun _ => ?_)
      refine z_iconst (pc := 25) hO dX12_estimate_25 ?_
      refine z_goto (pc := 26) hO (tgt := 44) dX12_estimate_26 (by decide) ?_
      refine z_callVIm (pc := 44) hO (As := [.int (zi 2)]) (st := []) (c_X12_isFine1 (qL Γ) g x 2 (by first | assumption | omega)) k_X12_63 isO_50 rfl (Nat.le_of_ble_eq_true rfl) (by decide) (by decide) ⟨by decide, by decide⟩ dX12_estimate_44 (fun m8 e9 => ?_)
      refine z_if_ne (pc := 47) hO (tgt := 52) dX12_estimate_47 (by decide) (by decide) (fun h => absurd h (by decide)) (fun _ => ?_)
      refine z_lconst (v := 0) (pc := 50) hO dX12_estimate_50 rfl ?_
      exact z_lret (pc := 51) hO hr hQ dX12_estimate_51 (by first | (refine ⟨rfl, ?_⟩; first | (rw [exn_1 (by omega)]; assumption) | (rw [exn_2 (by first | trivial | omega) (by omega)]; assumption) | (rw [exn_3 (by first | trivial | omega) (by first | trivial | omega)]; assumption); done) | (exfalso; omega))
  · skip
    refine z_istore_n (pc := 5) hO (lv' := [(3, .int (zi 0)), (0, .ref (gA g 50)), (1, .int (zi q)), (2, .int (zi seed))]) dX12_estimate_5 rfl (by decide) rfl ?_
    refine z_aload_n (pc := 6) hO 1 dX12_estimate_6 rfl rfl ?_
    refine z_iload_n (pc := 7) hO 0 dX12_estimate_7 rfl rfl ?_
    refine z_if_ne (pc := 8) hO (tgt := 15) dX12_estimate_8 (by decide) (by decide) (fun h => absurd h (by decide)) (fun _ => ?_)
    refine z_iconst (pc := 11) hO dX12_estimate_11 ?_
    refine z_goto (pc := 12) hO (tgt := 44) dX12_estimate_12 (by decide) ?_
    refine z_callVIm (pc := 44) hO (As := [.int (zi 1)]) (st := []) (c_X12_isFine1 (qL Γ) g x 1 (by first | assumption | omega)) k_X12_63 isO_50 rfl (Nat.le_of_ble_eq_true rfl) (by decide) (by decide) ⟨by decide, by decide⟩ dX12_estimate_44 (fun m10 e11 => ?_)
    refine z_if_ne (pc := 47) hO (tgt := 52) dX12_estimate_47 (by decide) (by decide) (fun h => absurd h (by decide)) (fun _ => ?_)
    refine z_lconst (v := 0) (pc := 50) hO dX12_estimate_50 rfl ?_
    exact z_lret (pc := 51) hO hr hQ dX12_estimate_51 (by first | (refine ⟨rfl, ?_⟩; first | (rw [exn_1 (by omega)]; assumption) | (rw [exn_2 (by first | trivial | omega) (by omega)]; assumption) | (rw [exn_3 (by first | trivial | omega) (by first | trivial | omega)]; assumption); done) | (exfalso; omega))

set_option maxHeartbeats 600000 in
theorem c_X12_estimate (l : Launch) (g : Gl) (x : Me) (q : Int) (seed : Int)  (hM : MS x) (r_q : -2147483648 ≤ q ∧ q < 2147483648) (r_seed : -2147483648 ≤ seed ∧ seed < 2147483648) (hok : (0 ≤ q ∧ q < x 50 1) ∧ (0 ≤ seed ∧ seed ≤ 65535) ∧ (x 51 q ≤ 4)) : ctQ l g yX12_estimate cX12_estimate 10 (some .long) 3 69 [.ref (gA g 50), .int (zi q), .int (zi seed)] x (QLu g (fun z x' => z = est (x 51 q) (nd x q) seed ∧ KM x x')) := by
  refine ct_start (own := RX12) (lv := [(0, .ref (gA g 50)), (1, .int (zi q)), (2, .int (zi seed))]) (plainFor_of_name (by decide)) rfl (Nat.le_of_ble_eq_true rfl) rfl ?_
  intro Γ hΓ hO hr hQ _
  have hM1 := hM.1
  refine z_aload_n (pc := 0) hO 0 dX12_estimate_0 rfl rfl ?_
  refine z_iload_n (pc := 1) hO 1 dX12_estimate_1 rfl rfl ?_
  refine z_callVB (pc := 2) hO (As := [.int (zi q)]) (st := []) (c_X12_isSquare (qL Γ) g x q (by first | assumption | omega) (by first | assumption | omega)) k_X12_59 isO_50 rfl (Nat.le_of_ble_eq_true rfl) (by decide) (by decide) ⟨by decide, by decide⟩ dX12_estimate_2 (fun pb1 => ?_) (fun pb1 => ?_)
  · skip
    refine z_istore_n (pc := 5) hO (lv' := [(3, .int (zi 1)), (0, .ref (gA g 50)), (1, .int (zi q)), (2, .int (zi seed))]) dX12_estimate_5 rfl (by decide) rfl ?_
    refine z_aload_n (pc := 6) hO 1 dX12_estimate_6 rfl rfl ?_
    refine z_iload_n (pc := 7) hO 0 dX12_estimate_7 rfl rfl ?_
    refine z_if_ne (pc := 8) hO (tgt := 15) dX12_estimate_8 (by decide) (by decide) (fun _ => ?_) (fun h => absurd h (by decide))
    refine z_iload_n (pc := 15) hO 3 dX12_estimate_15 rfl rfl ?_
    refine z_iconst (pc := 16) hO dX12_estimate_16 ?_
    refine z_ldc (pc := 17) hO n_X12_172 dX12_estimate_17 ?_
    refine z_callSB (pc := 19) hO (As := [.int (zi seed), .int (zi 0), .int (zi 65535)]) (st := [.ref (gA g 50)]) (c_X12_in (qL Γ) g x seed 0 65535 (by first | assumption | omega) (by first | assumption | omega) (by first | assumption | omega)) k_X12_55 rfl (Nat.le_of_ble_eq_true rfl) (by decide) (by decide) ⟨by decide, by decide⟩ dX12_estimate_19 (fun pb2 => ?_) (fun pb2 => ?_)
    · skip
      refine z_if_ne (pc := 22) hO (tgt := 29) dX12_estimate_22 (by decide) (by decide) (fun _ => ?_) (fun h => absurd h (by decide))
      have hs1 := (hM.2 q (by omega) (by omega)).2.1
      have hq1 := (hM.2 q (by omega) (by omega)).1
      refine z_aload_n (pc := 29) hO 1 dX12_estimate_29 rfl rfl ?_
      refine gf_X12_sideOf (pc := 30) hO f_X12_7 dX12_estimate_30 ?_
      refine z_iload_n (pc := 33) hO 2 dX12_estimate_33 rfl rfl ?_
      refine z_iald (pc := 34) hO isI_51 (by omega) dX12_estimate_34 ?_
      refine z_iconst (pc := 35) hO dX12_estimate_35 ?_
      refine z_icmp_le (pc := 36) hO (tgt := 43) dX12_estimate_36 (by decide) (by omega) (by omega) (fun b3 => ?_) (fun b3 => ?_)
      · refine z_iconst (pc := 43) hO dX12_estimate_43 ?_
        refine z_callVIm (pc := 44) hO (As := [.int (zi 0)]) (st := []) (c_X12_isFine0 (qL Γ) g x 0 (by first | assumption | omega)) k_X12_63 isO_50 rfl (Nat.le_of_ble_eq_true rfl) (by decide) (by decide) ⟨by decide, by decide⟩ dX12_estimate_44 (fun m4 e5 => ?_)
        refine z_if_ne (pc := 47) hO (tgt := 52) dX12_estimate_47 (by decide) (by decide) (fun _ => ?_) (fun h => absurd h (by decide))
        have hG := hM.2 q (by omega) (by omega)
        have hs := hG.2.1
        have hth : m4 = up x 50 0 0 := by assumption
        have e51 : m4 51 q = x 51 q := by rw [hth, up_i _ _ _ (by omega)]
        have end_ : nd m4 q = nd x q := by funext p; rw [hth]; exact nd_th
        have hN := nd_rng hG
        have h4 := sq4 (n := x 51 q) (by omega)
        refine z_aload_n (pc := 52) hO 1 dX12_estimate_52 rfl rfl ?_
        refine z_iload_n (pc := 53) hO 2 dX12_estimate_53 rfl rfl ?_
        refine z_ldc (pc := 54) hO n_X12_172 dX12_estimate_54 ?_
        refine z_callVV (pc := 56) hO (As := [.int (zi q), .int (zi 65535)]) (st := []) (c_X12_take (qL Γ) g m4 q 65535 (tk (nd x q) (x 51 q * x 51 q)) (by rw [hth]; exact MG_th hG) (by rw [e51]; omega) (by first | assumption | omega) (by intro p a b; rw [e51] at b; refine ⟨fun _ => by rw [end_]; exact tk_in ⟨a, b⟩, fun h => absurd (bit65i (by omega)) h⟩) (by exact tk_rng hN _)) k_X12_173 isO_50 rfl (Nat.le_of_ble_eq_true rfl) (by decide) (by decide) ⟨by decide, by decide⟩ dX12_estimate_56 (fun m7 h8 => ?_)
        have hTI := h8
        rw [e51] at hTI
        obtain ⟨t5, ⟨t7, tE⟩, tW, tb, ta⟩ := hTI
        rw [emp_tk] at t7 tE
        have hWK : WK m7 (x 51 q) (tk (nd x q) (x 51 q * x 51 q)) := ⟨t5, tW, tk_rng hN _⟩
        have hEH := EHf (f := nd x q) (n := x 51 q) (by omega) hN
        obtain ⟨m, hm⟩ : ∃ m : Me, m = m7 := ⟨_, rfl⟩
        rw [← hm] at t5 t7 tE tW tb ta
        have k0 : m 50 0 = 0 := by rw [tb 0 (by omega) (by omega), hth, up_s]
        have k1 : m 50 1 = x 50 1 := by rw [tb 1 (by omega) (by omega), hth, up_n _ _ (by omega)]
        have kf : ∀ a, a ≠ 50 → a ≠ 54 → a ≠ 55 → m a = x a := fun a a1 a2 a3 => by rw [ta a a1 a2 a3, hth, up_i _ _ _ a1]
        obtain ⟨e, he⟩ : ∃ e, e = eF (emp (nd x q) (x 51 q * x 51 q).toNat) := ⟨_, rfl⟩
        obtain ⟨E, hE⟩ : ∃ E : Int, E = (emp (nd x q) (x 51 q * x 51 q).toNat).length := ⟨_, rfl⟩
        rw [← hE] at t7
        rw [← he, ← hE] at tE
        rw [← he, ← hE] at hEH
        obtain ⟨-, hE1, heR, heZ, heD, -⟩ := hEH
        have J71 : ∀ (p0 : Int), ((p0 = 1 ∧ fit (x 51 q) (tk (nd x q) (x 51 q * x 51 q))) ∨ (p0 = 0 ∧ ¬ fit (x 51 q) (tk (nd x q) (x 51 q * x 51 q)))) → Zz Γ g 10 0 0 m7 71 [(0, .ref (gA g 50)), (1, .int (zi q)), (2, .int (zi seed)), (3, .int (zi 1))] [.long (zl p0)] := by
          intro p0 h_p
          refine z_lstore (pc := 71) hO (lv' := [(4, .long (zl p0)), (0, .ref (gA g 50)), (1, .int (zi q)), (2, .int (zi seed)), (3, .int (zi 1))]) dX12_estimate_71 (by decide) rfl ?_
          refine z_iload_n (pc := 73) hO 3 dX12_estimate_73 rfl rfl ?_
          refine z_istore (pc := 74) hO (lv' := [(6, .int (zi seed)), (4, .long (zl p0)), (0, .ref (gA g 50)), (1, .int (zi q)), (2, .int (zi seed)), (3, .int (zi 1))]) dX12_estimate_74 (by decide) rfl ?_
          refine z_iconst (pc := 76) hO dX12_estimate_76 ?_
          refine z_istore (pc := 77) hO (lv' := [(7, .int (zi 0)), (6, .int (zi seed)), (4, .long (zl p0)), (0, .ref (gA g 50)), (1, .int (zi q)), (2, .int (zi seed)), (3, .int (zi 1))]) dX12_estimate_77 (by decide) rfl ?_
          have L79 : ∀ (N : Nat) (pr : Int) (s : Int) (k : Int) (y : Me) (G : Int → Int) (r : Nat), (E - k).toNat < N → (0 ≤ k ∧ k + r = E) → (-9223372036854775808 ≤ pr ∧ pr < 9223372036854775808) → (0 ≤ s ∧ s ≤ 65535) → (WK y (x 51 q) G) → (∀ a, a ≠ 54 → a ≠ 56 → y a = m a) → (est (x 51 q) (nd x q) seed = esr (x 51 q) e r k G s pr) → Zz Γ g 10 0 0 y 79 [(0, .ref (gA g 50)), (1, .int (zi q)), (2, .int (zi seed)), (3, .int (zi 1)), (4, .long (zl pr)), (6, .int (zi s)), (7, .int (zi k))] [] := by
            intro N
            induction N with
            | zero => intro pr s k y G r hm; exact absurd hm (Nat.not_lt_zero _)
            | succ N ih79 =>
              intro pr s k y G r hm h0 hpr hs6 hW hfr hes
              refine z_iload (pc := 79) hO 6 dX12_estimate_79 rfl ?_
              refine z_aload_n (pc := 81) hO 0 dX12_estimate_81 rfl rfl ?_
              refine gf_X12_empties (pc := 82) hO f_X12_156 dX12_estimate_82 ?_
              rw [hfr 50 (by omega) (by omega), t7]
              refine z_icmp_ge (pc := 85) hO (tgt := 217) dX12_estimate_85 (by decide) (by omega) (by omega) (fun b9 => ?_) (fun b9 => ?_)
              · refine z_lload (pc := 217) hO 4 dX12_estimate_217 rfl ?_
                exact z_lret (pc := 219) hO hr hQ dX12_estimate_219 (by first | (refine ⟨?_, ⟨by rw [hfr 50 (by omega) (by omega)]; exact k0, by rw [hfr 50 (by omega) (by omega)]; exact k1, by rw [hfr 51 (by omega) (by omega), kf 51 (by omega) (by omega) (by omega)], by rw [hfr 52 (by omega) (by omega), kf 52 (by omega) (by omega) (by omega)], fun a ha => by rw [hfr a (by omega) (by omega)]; exact kf a (by omega) (by omega) (by omega)⟩⟩; first | (rw [hes, esr_0 (by omega)]; done) | (rw [hes, show r = 0 by omega]; rfl); done) | (exfalso; omega))
              · refine z_lload (pc := 88) hO 4 dX12_estimate_88 rfl ?_
                refine z_lconst (v := 0) (pc := 90) hO dX12_estimate_90 rfl ?_
                refine z_lcmp_le (pc := 91) hO (tgt := 217) dX12_estimate_91 dX12_estimate_92 (by decide) (by omega) (by omega) (fun b10 => ?_) (fun b10 => ?_)
                · refine z_lload (pc := 217) hO 4 dX12_estimate_217 rfl ?_
                  exact z_lret (pc := 219) hO hr hQ dX12_estimate_219 (by first | (refine ⟨?_, ⟨by rw [hfr 50 (by omega) (by omega)]; exact k0, by rw [hfr 50 (by omega) (by omega)]; exact k1, by rw [hfr 51 (by omega) (by omega), kf 51 (by omega) (by omega) (by omega)], by rw [hfr 52 (by omega) (by omega), kf 52 (by omega) (by omega) (by omega)], fun a ha => by rw [hfr a (by omega) (by omega)]; exact kf a (by omega) (by omega) (by omega)⟩⟩; first | (rw [hes, esr_0 (by omega)]; done) | (rw [hes, show r = 0 by omega]; rfl); done) | (exfalso; omega))
                · refine z_iconst (pc := 95) hO dX12_estimate_95 ?_
                  refine z_istore (pc := 96) hO (lv' := [(8, .int (zi 0)), (0, .ref (gA g 50)), (1, .int (zi q)), (2, .int (zi seed)), (3, .int (zi 1)), (4, .long (zl pr)), (6, .int (zi s)), (7, .int (zi k))]) dX12_estimate_96 (by decide) rfl ?_
                  have hek := heR k (by omega) (by omega)
                  refine z_iconst (pc := 98) hO dX12_estimate_98 ?_
                  refine z_istore (pc := 99) hO (lv' := [(9, .int (zi 1)), (8, .int (zi 0)), (0, .ref (gA g 50)), (1, .int (zi q)), (2, .int (zi seed)), (3, .int (zi 1)), (4, .long (zl pr)), (6, .int (zi s)), (7, .int (zi k))]) dX12_estimate_99 (by decide) rfl ?_
                  have L101 : ∀ (N : Nat) (c : Int) (v : Int) (u : Me), ((x 51 q * x 51 q) + 1 - v).toNat < N → (1 ≤ v ∧ v ≤ (x 51 q * x 51 q) + 1) → (c = (vls (CH (x 51 q) G (e k)) (v - 1).toNat).length) → (∀ w, 0 ≤ w → w ≤ 999 → WK (up u 54 (e k) w) (x 51 q) (uf G (e k) w)) → (∀ j, 0 ≤ j → j < c → u 56 j = (vls (CH (x 51 q) G (e k)) (v - 1).toNat).getD j.toNat 0) → (∀ a, a ≠ 54 → a ≠ 56 → u a = y a) → Zz Γ g 10 0 0 u 101 [(0, .ref (gA g 50)), (1, .int (zi q)), (2, .int (zi seed)), (3, .int (zi 1)), (4, .long (zl pr)), (6, .int (zi s)), (7, .int (zi k)), (8, .int (zi c)), (9, .int (zi v))] [] := by
                    intro N
                    induction N with
                    | zero => intro c v u hm; exact absurd hm (Nat.not_lt_zero _)
                    | succ N ih101 =>
                      intro c v u hm g0 gc gW gT gf
                      have hcl0 := ch_len (n := x 51 q) (p := e k) (G := G) (v - 1).toNat
                      have hus : u 50 5 = x 51 q := by rw [gf 50 (by omega) (by omega)]; exact hW.1
                      refine z_iload (pc := 101) hO 8 dX12_estimate_101 rfl ?_
                      refine z_aload_n (pc := 103) hO 0 dX12_estimate_103 rfl rfl ?_
                      refine gf_X12_side (pc := 104) hO f_X12_150 dX12_estimate_104 ?_
                      rw [hus]
                      refine z_aload_n (pc := 107) hO 0 dX12_estimate_107 rfl rfl ?_
                      refine gf_X12_side (pc := 108) hO f_X12_150 dX12_estimate_108 ?_
                      rw [hus]
                      refine z_imul (pc := 111) hO dX12_estimate_111 ?_
                      refine z_icmp_gt (pc := 112) hO (tgt := 154) dX12_estimate_112 (by decide) (by omega) (by omega) (fun b11 => ?_) (fun b11 => ?_)
                      · have hcl : c = (chl (x 51 q) G (e k)).length := by rw [gc, show v - 1 = (x 51 q * x 51 q) by omega]; rfl
                        refine z_lload (pc := 154) hO 4 dX12_estimate_154 rfl ?_
                        refine z_iload (pc := 156) hO 7 dX12_estimate_156 rfl ?_
                        refine z_i2l (pc := 158) hO dX12_estimate_158 (by omega) ?_
                        refine z_lmul (pc := 159) hO dX12_estimate_159 ?_
                        rw [wr_l (pr * c)]
                        refine z_lstore (pc := 160) hO (lv' := [(4, .long (zl (wr (pr * c)))), (0, .ref (gA g 50)), (1, .int (zi q)), (2, .int (zi seed)), (3, .int (zi 1)), (6, .int (zi s)), (7, .int (zi k)), (8, .int (zi c)), (9, .int (zi v))]) dX12_estimate_160 (by decide) rfl ?_
                        refine z_ldc2 (pc := 162) hO n_X12_181 dX12_estimate_162 ?_
                        refine z_iload (pc := 165) hO 5 dX12_estimate_165 rfl ?_
                        refine z_i2l (pc := 167) hO dX12_estimate_167 (by omega) ?_
                        refine z_lmul (pc := 168) hO dX12_estimate_168 ?_
                        refine z_ldc2 (pc := 169) hO n_X12_183 dX12_estimate_169 ?_
                        refine z_ladd (pc := 172) hO dX12_estimate_172 ?_
                        refine z_ldc2 (pc := 173) hO n_X12_185 dX12_estimate_173 ?_
                        refine z_lrem (pc := 176) hO dX12_estimate_176 (by omega) (by omega) ?_
                        refine z_l2i (pc := 177) hO dX12_estimate_177 (by omega) ?_
                        refine z_istore (pc := 178) hO (lv' := [(6, .int (zi (((25173 * s) + 13849) % 65536))), (4, .long (zl (wr (pr * c)))), (0, .ref (gA g 50)), (1, .int (zi q)), (2, .int (zi seed)), (3, .int (zi 1)), (7, .int (zi k)), (8, .int (zi c)), (9, .int (zi v))]) dX12_estimate_178 (by decide) rfl ?_
                        refine z_aload_n (pc := 180) hO 2 dX12_estimate_180 rfl rfl ?_
                        refine gf_X12_work (pc := 181) hO f_X12_19 dX12_estimate_181 ?_
                        refine z_aload_n (pc := 184) hO 2 dX12_estimate_184 rfl rfl ?_
                        refine gf_X12_empty (pc := 185) hO f_X12_22 dX12_estimate_185 ?_
                        refine z_iload (pc := 188) hO 6 dX12_estimate_188 rfl ?_
                        refine z_iald (pc := 190) hO isI_55 (by omega) dX12_estimate_190 ?_
                        rw [gf 55 (by omega) (by omega), hfr 55 (by omega) (by omega), tE k (by omega) (by omega)]
                        obtain ⟨vv, hvv⟩ : ∃ vv : Int, vv = (chl (x 51 q) G (e k)).getD (((25173 * s + 13849) % 65536) % (chl (x 51 q) G (e k)).length).toNat 0 := ⟨_, rfl⟩
                        have hvr : 0 ≤ vv ∧ vv ≤ 999 := by rw [hvv]; exact chl_r h4.2.1 _
                        obtain ⟨r2, hr2⟩ : ∃ r2, r = r2 + 1 := ⟨r - 1, by omega⟩
                        have hes2 : est (x 51 q) (nd x q) seed = esr (x 51 q) e r2 (k + 1) (uf G (e k) vv) ((25173 * s + 13849) % 65536) (wr (pr * c)) := by rw [hes, hr2, esr, if_pos (by assumption), ← hvv, ← hcl]
                        refine z_iload (pc := 191) hO 7 dX12_estimate_191 rfl ?_
                        refine z_if_ne (pc := 193) hO (tgt := 200) dX12_estimate_193 (by decide) (by omega) (fun b12 => ?_) (fun b12 => ?_)
                        · have h1 := Int.emod_nonneg ((25173 * s + 13849) % 65536) (show c ≠ 0 by omega)
                          have h2 := Int.emod_lt_of_pos ((25173 * s + 13849) % 65536) (show 0 < c by omega)
                          have e9 : u 56 (((25173 * s + 13849) % 65536) % c) = vv := by rw [gT _ h1 h2, hvv, ← hcl, show v - 1 = (x 51 q * x 51 q) by omega]; rfl
                          have hfin : ∀ M, M = up u 54 (e k) (u 56 (((25173 * s + 13849) % 65536) % c)) → WK M (x 51 q) (uf G (e k) vv) := by intro M hM; rw [hM, e9]; exact gW vv hvr.1 hvr.2
                          refine z_aload_n (pc := 200) hO 2 dX12_estimate_200 rfl rfl ?_
                          refine gf_X12_tried (pc := 201) hO f_X12_25 dX12_estimate_201 ?_
                          refine z_iload (pc := 204) hO 0 dX12_estimate_204 rfl ?_
                          refine z_iload (pc := 206) hO 7 dX12_estimate_206 rfl ?_
                          refine z_irem (pc := 208) hO dX12_estimate_208 (by omega) (by omega) ?_
                          refine z_iald (pc := 209) hO isI_56 (by omega) dX12_estimate_209 ?_
                          refine z_iast (pc := 210) hO isI_54 (by omega) dX12_estimate_210 (fun m13 e14 => ?_)
                          have hW2 := hfin m13 e14
                          have hfr2 : ∀ a, a ≠ 54 → a ≠ 56 → m13 a = m a := fun a a1 a2 => by rw [e14, up_i _ _ _ a1, gf a a1 a2]; exact hfr a a1 a2
                          refine z_iinc (pc := 211) hO 6 (lv' := [(7, .int (zi (k + 1))), (6, .int (zi (((25173 * s) + 13849) % 65536))), (4, .long (zl (wr (pr * c)))), (0, .ref (gA g 50)), (1, .int (zi q)), (2, .int (zi seed)), (3, .int (zi 1)), (8, .int (zi c)), (9, .int (zi v))]) dX12_estimate_211 rfl (by decide) rfl ?_
                          refine z_goto (pc := 214) hO (tgt := 79) dX12_estimate_214 (by decide) ?_
                          refine z_sub [3, 4, 5, 6, 2, 1, 0] rfl ?_
                          exact ih79 (wr (pr * c)) (((25173 * s) + 13849) % 65536) (k + 1) m13 (uf G (e k) vv) r2 (by omega) (by omega) (by exact wr_r _) (by omega) (by exact hW2) (by exact hfr2) (by exact hes2)
                        · have e9 : vv = 0 := by rw [hvv, List.getD_eq_getElem?_getD, List.getElem?_eq_none (by omega)]; rfl
                          have hfin : ∀ M, M = up u 54 (e k) 0 → WK M (x 51 q) (uf G (e k) vv) := by intro M hM; rw [hM, e9]; exact gW 0 (by omega) (by omega)
                          refine z_iconst (pc := 196) hO dX12_estimate_196 ?_
                          refine z_goto (pc := 197) hO (tgt := 210) dX12_estimate_197 (by decide) ?_
                          refine z_iast (pc := 210) hO isI_54 (by omega) dX12_estimate_210 (fun m15 e16 => ?_)
                          have hW2 := hfin m15 e16
                          have hfr2 : ∀ a, a ≠ 54 → a ≠ 56 → m15 a = m a := fun a a1 a2 => by rw [e16, up_i _ _ _ a1, gf a a1 a2]; exact hfr a a1 a2
                          refine z_iinc (pc := 211) hO 6 (lv' := [(7, .int (zi (k + 1))), (6, .int (zi (((25173 * s) + 13849) % 65536))), (4, .long (zl (wr (pr * c)))), (0, .ref (gA g 50)), (1, .int (zi q)), (2, .int (zi seed)), (3, .int (zi 1)), (8, .int (zi c)), (9, .int (zi v))]) dX12_estimate_211 rfl (by decide) rfl ?_
                          refine z_goto (pc := 214) hO (tgt := 79) dX12_estimate_214 (by decide) ?_
                          refine z_sub [3, 4, 5, 6, 2, 1, 0] rfl ?_
                          exact ih79 (wr (pr * c)) (((25173 * s) + 13849) % 65536) (k + 1) m15 (uf G (e k) vv) r2 (by omega) (by omega) (by exact wr_r _) (by omega) (by exact hW2) (by exact hfr2) (by exact hes2)
                      · refine z_aload_n (pc := 115) hO 0 dX12_estimate_115 rfl rfl ?_
                        refine gf_X12_work (pc := 116) hO f_X12_19 dX12_estimate_116 ?_
                        refine z_aload_n (pc := 119) hO 0 dX12_estimate_119 rfl rfl ?_
                        refine gf_X12_empty (pc := 120) hO f_X12_22 dX12_estimate_120 ?_
                        refine z_iload (pc := 123) hO 6 dX12_estimate_123 rfl ?_
                        refine z_iald (pc := 125) hO isI_55 (by omega) dX12_estimate_125 ?_
                        rw [gf 55 (by omega) (by omega), hfr 55 (by omega) (by omega), tE k (by omega) (by omega)]
                        refine z_iload (pc := 126) hO 8 dX12_estimate_126 rfl ?_
                        refine z_iast (pc := 128) hO isI_54 (by omega) dX12_estimate_128 (fun m17 e18 => ?_)
                        have hWm : WK m17 (x 51 q) (uf G (e k) v) := by rw [e18]; exact gW v (by omega) (by omega)
                        refine z_aload_n (pc := 129) hO 0 dX12_estimate_129 rfl rfl ?_
                        refine z_callVB (pc := 130) hO (As := []) (st := []) (c_X12_isFit (qL Γ) g m17 (x 51 q) (uf G (e k) v) (by omega) (by exact hWm)) k_X12_159 isO_50 rfl (Nat.le_of_ble_eq_true rfl) (by decide) (by decide) ⟨by decide, by decide⟩ dX12_estimate_130 (fun pb19 => ?_) (fun pb19 => ?_)
                        · skip
                          have hpb := pb19
                          have hcs := (ch_s (n := (x 51 q)) (p := e k) (G := G) (v := v) (by omega)).1 hpb
                          refine z_if_eq (pc := 133) hO (tgt := 148) dX12_estimate_133 (by decide) (by decide) (fun h => absurd h (by decide)) (fun _ => ?_)
                          refine z_aload_n (pc := 136) hO 0 dX12_estimate_136 rfl rfl ?_
                          refine gf_X12_tried (pc := 137) hO f_X12_25 dX12_estimate_137 ?_
                          refine z_iload (pc := 140) hO 7 dX12_estimate_140 rfl ?_
                          refine z_iload (pc := 142) hO 8 dX12_estimate_142 rfl ?_
                          refine z_iast (pc := 144) hO isI_56 (by omega) dX12_estimate_144 (fun m20 e21 => ?_)
                          refine z_iinc (pc := 145) hO 7 (lv' := [(8, .int (zi (c + 1))), (0, .ref (gA g 50)), (1, .int (zi q)), (2, .int (zi seed)), (3, .int (zi 1)), (4, .long (zl pr)), (6, .int (zi s)), (7, .int (zi k)), (9, .int (zi v))]) dX12_estimate_145 rfl (by decide) rfl ?_
                          refine z_iinc (pc := 148) hO 8 (lv' := [(9, .int (zi (v + 1))), (8, .int (zi (c + 1))), (0, .ref (gA g 50)), (1, .int (zi q)), (2, .int (zi seed)), (3, .int (zi 1)), (4, .long (zl pr)), (6, .int (zi s)), (7, .int (zi k))]) dX12_estimate_148 rfl (by decide) rfl ?_
                          refine z_goto (pc := 151) hO (tgt := 101) dX12_estimate_151 (by decide) ?_
                          refine z_sub [2, 3, 4, 5, 6, 7, 8, 1, 0] rfl ?_
                          exact ih101 (c + 1) (v + 1) m20 (by omega) (by omega) (by rw [show v + 1 - 1 = v by omega, hcs]; first | (rw [List.length_append, gc]; rfl) | exact gc) (by intro w a b; subst m20 m17; first | exact WK_e2 (gW w a b) | exact WK_e1 (gW w a b)) (by intro j a b; rw [show v + 1 - 1 = v by omega, hcs]; subst m20 m17; first | (rw [up_i _ _ _ (by omega)]; exact gT j a b) | exact dite (j = c) (fun e9 => by rw [e9, up_s, show c.toNat = (vls (CH (x 51 q) G (e k)) (v - 1).toNat).length by omega]; exact gI_z.symm) (fun e9 => by rw [up_n _ _ (by omega), up_i _ _ _ (by omega), gI_l (by omega)]; exact gT j a (by omega))) (by intro a a1 a2; subst m20 m17; first | (rw [up_i _ _ _ a2, up_i _ _ _ a1]; exact gf a a1 a2) | (rw [up_i _ _ _ a1]; exact gf a a1 a2))
                        · skip
                          have hpb := pb19
                          have hcs := (ch_s (n := (x 51 q)) (p := e k) (G := G) (v := v) (by omega)).2 hpb
                          refine z_if_eq (pc := 133) hO (tgt := 148) dX12_estimate_133 (by decide) (by decide) (fun _ => ?_) (fun h => absurd h (by decide))
                          refine z_iinc (pc := 148) hO 8 (lv' := [(9, .int (zi (v + 1))), (0, .ref (gA g 50)), (1, .int (zi q)), (2, .int (zi seed)), (3, .int (zi 1)), (4, .long (zl pr)), (6, .int (zi s)), (7, .int (zi k)), (8, .int (zi c))]) dX12_estimate_148 rfl (by decide) rfl ?_
                          refine z_goto (pc := 151) hO (tgt := 101) dX12_estimate_151 (by decide) ?_
                          refine z_sub [1, 2, 3, 4, 5, 6, 7, 8, 0] rfl ?_
                          exact ih101 c (v + 1) m17 (by omega) (by omega) (by rw [show v + 1 - 1 = v by omega, hcs]; first | (rw [List.length_append, gc]; rfl) | exact gc) (by intro w a b; subst m17; first | exact WK_e2 (gW w a b) | exact WK_e1 (gW w a b)) (by intro j a b; rw [show v + 1 - 1 = v by omega, hcs]; subst m17; first | (rw [up_i _ _ _ (by omega)]; exact gT j a b) | exact dite (j = c) (fun e9 => by rw [e9, up_s, show c.toNat = (vls (CH (x 51 q) G (e k)) (v - 1).toNat).length by omega]; exact gI_z.symm) (fun e9 => by rw [up_n _ _ (by omega), up_i _ _ _ (by omega), gI_l (by omega)]; exact gT j a (by omega))) (by intro a a1 a2; subst m17; first | (rw [up_i _ _ _ a2, up_i _ _ _ a1]; exact gf a a1 a2) | (rw [up_i _ _ _ a1]; exact gf a a1 a2))
                  refine z_sub [2, 3, 4, 5, 6, 7, 8, 1, 0] rfl ?_
                  exact L101 _ 0 1 y (Nat.lt_succ_self _) (by omega) (by rfl) (by intro w a b; exact WK_up hW ⟨a, b⟩) (by intro j a b; omega) (by intro a _ _; rfl)
          refine z_sub [3, 4, 5, 6, 2, 1, 0] rfl ?_
          exact L79 _ p0 seed 0 m7 (tk (nd x q) (x 51 q * x 51 q)) ((emp (nd x q) (x 51 q * x 51 q).toNat).length) (Nat.lt_succ_self _) (by omega) (by omega) (by omega) (by exact hWK) (by intro a _ _; rw [hm]) (by unfold est; rcases h_p with ⟨h1, h2⟩ | ⟨h1, h2⟩; (rw [ci_t h2, h1, he]); (rw [ci_f h2, h1, esr_0 (Int.le_refl _)]))
        refine z_aload_n (pc := 59) hO 1 dX12_estimate_59 rfl rfl ?_
        refine z_callVB (pc := 60) hO (As := []) (st := []) (c_X12_isFit (qL Γ) g m7 (x 51 q) (tk (nd x q) (x 51 q * x 51 q)) (by omega) (by exact hWK)) k_X12_159 isO_50 rfl (Nat.le_of_ble_eq_true rfl) (by decide) (by decide) ⟨by decide, by decide⟩ dX12_estimate_60 (fun pb22 => ?_) (fun pb22 => ?_)
        · skip
          have hft := pb22
          refine z_if_eq (pc := 63) hO (tgt := 70) dX12_estimate_63 (by decide) (by decide) (fun h => absurd h (by decide)) (fun _ => ?_)
          refine z_lconst (v := 1) (pc := 66) hO dX12_estimate_66 rfl ?_
          refine z_goto (pc := 67) hO (tgt := 71) dX12_estimate_67 (by decide) ?_
          refine z_sub [1, 2, 3, 0] rfl ?_
          exact J71 1 (by first | exact Or.inl ⟨rfl, hft⟩ | exact Or.inr ⟨rfl, hft⟩)
        · skip
          have hft := pb22
          refine z_if_eq (pc := 63) hO (tgt := 70) dX12_estimate_63 (by decide) (by decide) (fun _ => ?_) (fun h => absurd h (by decide))
          refine z_lconst (v := 0) (pc := 70) hO dX12_estimate_70 rfl ?_
          refine z_sub [1, 2, 3, 0] rfl ?_
          exact J71 0 (by first | exact Or.inl ⟨rfl, hft⟩ | exact Or.inr ⟨rfl, hft⟩)
      · refine z_iconst (pc := 39) hO dX12_estimate_39 ?_
        refine z_goto (pc := 40) hO (tgt := 44) dX12_estimate_40 (by decide) ?_
        refine z_callVIm (pc := 44) hO (As := [.int (zi 3)]) (st := []) (c_X12_isFine1 (qL Γ) g x 3 (by first | assumption | omega)) k_X12_63 isO_50 rfl (Nat.le_of_ble_eq_true rfl) (by decide) (by decide) ⟨by decide, by decide⟩ dX12_estimate_44 (fun m23 e24 => ?_)
        refine z_if_ne (pc := 47) hO (tgt := 52) dX12_estimate_47 (by decide) (by decide) (fun h => absurd h (by decide)) (fun _ => ?_)
        refine z_lconst (v := 0) (pc := 50) hO dX12_estimate_50 rfl ?_
        exact z_lret (pc := 51) hO hr hQ dX12_estimate_51 (by first | (refine ⟨?_, ⟨by rw [hfr 50 (by omega) (by omega)]; exact k0, by rw [hfr 50 (by omega) (by omega)]; exact k1, by rw [hfr 51 (by omega) (by omega), kf 51 (by omega) (by omega) (by omega)], by rw [hfr 52 (by omega) (by omega), kf 52 (by omega) (by omega) (by omega)], fun a ha => by rw [hfr a (by omega) (by omega)]; exact kf a (by omega) (by omega) (by omega)⟩⟩; first | (rw [hes, esr_0 (by omega)]; done) | (rw [hes, show r = 0 by omega]; rfl); done) | (exfalso; omega))
    · skip
      exfalso; omega
  · skip
    exfalso; omega

