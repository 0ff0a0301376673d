set_option maxHeartbeats 600000 in
theorem c_X5_holdsFor (l : Launch) (g : Gl) (x : Me) (mk : Int) (n : Int)  (hm : 0 ≤ mk ∧ mk ≤ 3) (hn : 1 ≤ n ∧ n ≤ 9) : ctQ l g yX5_holdsFor cX5_holdsFor 2 (some .boolean) 1 20 [.int (zi mk), .int (zi n)] x (QIu g (fun z x' => ((z = 1 ∧ (hld mk n)) ∨ (z = 0 ∧ ¬ (hld mk n))) ∧ x' = x)) := by
  refine ct_start (own := RX5) (lv := [(0, .int (zi mk)), (1, .int (zi n))]) (plainFor_of_name (by decide)) rfl (Nat.le_of_ble_eq_true rfl) rfl ?_
  intro Γ hΓ hO hr hQ _
  refine z_iload_n (pc := 0) hO 0 dX5_holdsFor_0 rfl rfl ?_
  have w1 : mk = 0 ∨ mk = 1 ∨ mk = 2 ∨ mk = 3 ∨ (mk ≠ 0 ∧ mk ≠ 1 ∧ mk ≠ 2 ∧ mk ≠ 3) := by omega
  rcases w1 with w1 | w1 | w1 | w1 | w1
  · refine z_tabIn (pc := 1) hO (tgt := 32) dX5_holdsFor_1 (by omega) (by omega) (by omega) (by first | (rw [w1]; done) | (rw [w1]; rfl)) (by decide) ?_
    refine z_iload_n (pc := 32) hO 1 dX5_holdsFor_32 rfl rfl ?_
    refine z_iconst (pc := 33) hO dX5_holdsFor_33 ?_
    refine z_irem (pc := 34) hO dX5_holdsFor_34 (by omega) (by omega) ?_
    refine z_iconst (pc := 35) hO dX5_holdsFor_35 ?_
    refine z_icmp_ne (pc := 36) hO (tgt := 43) dX5_holdsFor_36 (by decide) (by omega) (by omega) (fun b2 => ?_) (fun b2 => ?_)
    · refine z_iconst (pc := 43) hO dX5_holdsFor_43 ?_
      exact z_iret (pc := 44) hO hr hQ rfl dX5_holdsFor_44 ⟨Or.inr ⟨rfl, by first | (unfold hld; omega; done) | (exfalso; omega)⟩, rfl⟩
    · refine z_iconst (pc := 39) hO dX5_holdsFor_39 ?_
      refine z_goto (pc := 40) hO (tgt := 44) dX5_holdsFor_40 (by decide) ?_
      exact z_iret (pc := 44) hO hr hQ rfl dX5_holdsFor_44 ⟨Or.inl ⟨rfl, by first | (unfold hld; omega; done) | (exfalso; omega)⟩, rfl⟩
  · refine z_tabIn (pc := 1) hO (tgt := 45) dX5_holdsFor_1 (by omega) (by omega) (by omega) (by first | (rw [w1]; done) | (rw [w1]; rfl)) (by decide) ?_
    refine z_iload_n (pc := 45) hO 1 dX5_holdsFor_45 rfl rfl ?_
    refine z_iconst (pc := 46) hO dX5_holdsFor_46 ?_
    refine z_icmp_eq (pc := 47) hO (tgt := 56) dX5_holdsFor_47 (by decide) (by omega) (by omega) (fun b3 => ?_) (fun b3 => ?_)
    · refine z_iconst (pc := 56) hO dX5_holdsFor_56 ?_
      refine z_goto (pc := 57) hO (tgt := 61) dX5_holdsFor_57 (by decide) ?_
      exact z_iret (pc := 61) hO hr hQ rfl dX5_holdsFor_61 ⟨Or.inl ⟨rfl, by first | (unfold hld; omega; done) | (exfalso; omega)⟩, rfl⟩
    · refine z_iload_n (pc := 50) hO 1 dX5_holdsFor_50 rfl rfl ?_
      refine z_bipush (pc := 51) hO dX5_holdsFor_51 (by decide) ?_
      refine z_icmp_ne (pc := 53) hO (tgt := 60) dX5_holdsFor_53 (by decide) (by omega) (by omega) (fun b4 => ?_) (fun b4 => ?_)
      · refine z_iconst (pc := 60) hO dX5_holdsFor_60 ?_
        exact z_iret (pc := 61) hO hr hQ rfl dX5_holdsFor_61 ⟨Or.inr ⟨rfl, by first | (unfold hld; omega; done) | (exfalso; omega)⟩, rfl⟩
      · refine z_iconst (pc := 56) hO dX5_holdsFor_56 ?_
        refine z_goto (pc := 57) hO (tgt := 61) dX5_holdsFor_57 (by decide) ?_
        exact z_iret (pc := 61) hO hr hQ rfl dX5_holdsFor_61 ⟨Or.inl ⟨rfl, by first | (unfold hld; omega; done) | (exfalso; omega)⟩, rfl⟩
  · refine z_tabIn (pc := 1) hO (tgt := 62) dX5_holdsFor_1 (by omega) (by omega) (by omega) (by first | (rw [w1]; done) | (rw [w1]; rfl)) (by decide) ?_
    refine z_iload_n (pc := 62) hO 1 dX5_holdsFor_62 rfl rfl ?_
    refine z_iconst (pc := 63) hO dX5_holdsFor_63 ?_
    refine z_irem (pc := 64) hO dX5_holdsFor_64 (by omega) (by omega) ?_
    refine z_iconst (pc := 65) hO dX5_holdsFor_65 ?_
    refine z_icmp_ne (pc := 66) hO (tgt := 79) dX5_holdsFor_66 (by decide) (by omega) (by omega) (fun b5 => ?_) (fun b5 => ?_)
    · refine z_iconst (pc := 79) hO dX5_holdsFor_79 ?_
      exact z_iret (pc := 80) hO hr hQ rfl dX5_holdsFor_80 ⟨Or.inr ⟨rfl, by first | (unfold hld; omega; done) | (exfalso; omega)⟩, rfl⟩
    · refine z_iload_n (pc := 69) hO 1 dX5_holdsFor_69 rfl rfl ?_
      refine z_iconst (pc := 70) hO dX5_holdsFor_70 ?_
      refine z_irem (pc := 71) hO dX5_holdsFor_71 (by omega) (by omega) ?_
      refine z_if_eq (pc := 72) hO (tgt := 79) dX5_holdsFor_72 (by decide) (by omega) (fun b6 => ?_) (fun b6 => ?_)
      · refine z_iconst (pc := 79) hO dX5_holdsFor_79 ?_
        exact z_iret (pc := 80) hO hr hQ rfl dX5_holdsFor_80 ⟨Or.inr ⟨rfl, by first | (unfold hld; omega; done) | (exfalso; omega)⟩, rfl⟩
      · refine z_iconst (pc := 75) hO dX5_holdsFor_75 ?_
        refine z_goto (pc := 76) hO (tgt := 80) dX5_holdsFor_76 (by decide) ?_
        exact z_iret (pc := 80) hO hr hQ rfl dX5_holdsFor_80 ⟨Or.inl ⟨rfl, by first | (unfold hld; omega; done) | (exfalso; omega)⟩, rfl⟩
  · refine z_tabIn (pc := 1) hO (tgt := 81) dX5_holdsFor_1 (by omega) (by omega) (by omega) (by first | (rw [w1]; done) | (rw [w1]; rfl)) (by decide) ?_
    refine z_iload_n (pc := 81) hO 1 dX5_holdsFor_81 rfl rfl ?_
    refine z_bipush (pc := 82) hO dX5_holdsFor_82 (by decide) ?_
    refine z_icmp_ne (pc := 84) hO (tgt := 91) dX5_holdsFor_84 (by decide) (by omega) (by omega) (fun b7 => ?_) (fun b7 => ?_)
    · refine z_iconst (pc := 91) hO dX5_holdsFor_91 ?_
      exact z_iret (pc := 92) hO hr hQ rfl dX5_holdsFor_92 ⟨Or.inr ⟨rfl, by first | (unfold hld; omega; done) | (exfalso; omega)⟩, rfl⟩
    · refine z_iconst (pc := 87) hO dX5_holdsFor_87 ?_
      refine z_goto (pc := 88) hO (tgt := 92) dX5_holdsFor_88 (by decide) ?_
      exact z_iret (pc := 92) hO hr hQ rfl dX5_holdsFor_92 ⟨Or.inl ⟨rfl, by first | (unfold hld; omega; done) | (exfalso; omega)⟩, rfl⟩
  · refine z_tabOut (pc := 1) hO (tgt := 93) dX5_holdsFor_1 (by omega) (by omega) (by decide) ?_
    refine z_iconst (pc := 93) hO dX5_holdsFor_93 ?_
    exact z_iret (pc := 94) hO hr hQ rfl dX5_holdsFor_94 ⟨Or.inr ⟨rfl, by first | (unfold hld; omega; done) | (exfalso; omega)⟩, rfl⟩

set_option maxHeartbeats 600000 in
theorem c_X5_laySiege (l : Launch) (g : Gl) (x : Me) (q : Nat)  (hq : q < 9) (hs : 1 ≤ x (10 + q) 1 ∧ x (10 + q) 1 ≤ 9) (hz : ∀ p, 0 ≤ p → p < 81 → x (20 + q) p = 0) : ctQ l g yX5_laySiege cX5_laySiege 7 none 3 64 [.ref (gA g (10 + q))] x (QVu g (fun x' => nc x' q = sgf (x (10 + q) 1) ∧ ∀ a, a ≠ 20 + q → x' a = x a)) := by
  refine ct_start (own := RX5) (lv := [(0, .ref (gA g (10 + q)))]) (plainFor_of_name (by decide)) rfl (Nat.le_of_ble_eq_true rfl) rfl ?_
  intro Γ hΓ hO hr hQ _
  have h9 := sq9 hs
  have hz0 : nc x q = fun _ => 0 := nc_eq hz (fun _ _ => rfl)
  refine z_aload_n (pc := 0) hO 0 dX5_laySiege_0 rfl rfl ?_
  refine z_callVIp (pc := 1) hO (As := []) (st := []) (c_X1_side (qL Γ) g x q (by first | assumption | omega)) k_X5_25 (isO_fig (by omega : q < 9)) rfl (Nat.le_of_ble_eq_true rfl) (by decide) (by decide) ⟨by decide, by decide⟩ dX5_laySiege_1 ?_
  refine z_istore_n (pc := 4) hO (lv' := [(1, .int (zi (x (10 + q) 1))), (0, .ref (gA g (10 + q)))]) dX5_laySiege_4 rfl (by decide) rfl ?_
  refine z_iconst (pc := 5) hO dX5_laySiege_5 ?_
  refine z_istore_n (pc := 6) hO (lv' := [(2, .int (zi 0)), (1, .int (zi (x (10 + q) 1))), (0, .ref (gA g (10 + q)))]) dX5_laySiege_6 rfl (by decide) rfl ?_
  refine z_iload_n (pc := 7) hO 1 dX5_laySiege_7 rfl rfl ?_
  refine z_iconst (pc := 8) hO dX5_laySiege_8 ?_
  refine z_idiv (pc := 9) hO dX5_laySiege_9 (by omega) (by omega) ?_
  refine z_istore_n (pc := 10) hO (lv' := [(3, .int (zi ((x (10 + q) 1) / 2))), (2, .int (zi 0)), (1, .int (zi (x (10 + q) 1))), (0, .ref (gA g (10 + q)))]) dX5_laySiege_10 rfl (by decide) rfl ?_
  refine z_iconst (pc := 11) hO dX5_laySiege_11 ?_
  refine z_istore (pc := 12) hO (lv' := [(4, .int (zi 1)), (3, .int (zi ((x (10 + q) 1) / 2))), (2, .int (zi 0)), (1, .int (zi (x (10 + q) 1))), (0, .ref (gA g (10 + q)))]) dX5_laySiege_12 (by decide) rfl ?_
  have L14 : ∀ (N : Nat) (i : Int) (r : Int) (c : Int) (y : Me), (x (10 + q) 1 * x (10 + q) 1 + 1 - i).toNat < N → (1 ≤ i ∧ i ≤ x (10 + q) 1 * x (10 + q) 1 + 1) → ((nc y q, r, c) = sgs (x (10 + q) 1) (i - 1).toNat) → (∀ a, a ≠ 20 + q → y a = x a) → Zz Γ g 7 0 0 y 14 [(0, .ref (gA g (10 + q))), (1, .int (zi (x (10 + q) 1))), (2, .int (zi r)), (3, .int (zi c)), (4, .int (zi i))] [] := by
    intro N
    induction N with
    | zero => intro i r c y hm; exact absurd hm (Nat.not_lt_zero _)
    | succ N ih14 =>
      intro i r c y hm h0 k1 k5
      have k2 := k5 (10 + q) (by omega)
      have hy : y (10 + q) 1 = x (10 + q) 1 := by rw [k2]
      have hyy : y (10 + q) 1 * y (10 + q) 1 = x (10 + q) 1 * x (10 + q) 1 := by rw [hy]
      have hg := sgs_rng hs (i - 1).toNat
      rw [← k1] at hg
      obtain ⟨g1, g2, g3, g4⟩ := hg
      dsimp only at g1 g2 g3 g4
      have hpl := pl9 hs g3 g4
      have hpe : y (10 + q) 1 * r + c = x (10 + q) 1 * r + c := by rw [hy]
      refine z_iload (pc := 14) hO 4 dX5_laySiege_14 rfl ?_
      refine z_aload_n (pc := 16) hO 0 dX5_laySiege_16 rfl rfl ?_
      refine z_callVIp (pc := 17) hO (As := []) (st := [.int (zi i)]) (c_X1_size (qL Γ) g y q (by first | assumption | omega)) k_X5_31 (isO_fig (by omega : q < 9)) rfl (Nat.le_of_ble_eq_true rfl) (by decide) (by decide) ⟨by decide, by decide⟩ dX5_laySiege_17 ?_
      refine z_icmp_gt (pc := 20) hO (tgt := 92) dX5_laySiege_20 (by decide) (by omega) (by omega) (fun b1 => ?_) (fun b1 => ?_)
      · exact z_vret (pc := 92) hO hr hQ dX5_laySiege_92 (by first | (refine ⟨?_, k5⟩; have e := congrArg Prod.fst k1; dsimp only at e; rw [e]; unfold sgf; congr 2; omega; done) | (exfalso; omega))
      · refine z_aload_n (pc := 23) hO 0 dX5_laySiege_23 rfl rfl ?_
        refine z_aload_n (pc := 24) hO 0 dX5_laySiege_24 rfl rfl ?_
        refine z_iload_n (pc := 25) hO 2 dX5_laySiege_25 rfl rfl ?_
        refine z_iload_n (pc := 26) hO 3 dX5_laySiege_26 rfl rfl ?_
        refine z_callVIp (pc := 27) hO (As := [.int (zi r), .int (zi c)]) (st := [.ref (gA g (10 + q))]) (c_X1_placeOf (qL Γ) g y q r c (by first | assumption | omega)) k_X5_34 (isO_fig (by omega : q < 9)) rfl (Nat.le_of_ble_eq_true rfl) (by decide) (by decide) ⟨by decide, by decide⟩ dX5_laySiege_27 ?_
        refine z_iload (pc := 30) hO 4 dX5_laySiege_30 rfl ?_
        refine z_callVIm (pc := 32) hO (As := [.int (zi (y (10 + q) 1 * r + c)), .int (zi i)]) (st := []) (c_X1_write (qL Γ) g y q (y (10 + q) 1 * r + c) i (by first | assumption | omega) (by first | assumption | omega)) k_X5_38 (isO_fig (by omega : q < 9)) rfl (Nat.le_of_ble_eq_true rfl) (by decide) (by decide) ⟨by decide, by decide⟩ dX5_laySiege_32 (fun m2 e3 => ?_)
        have hg1 : m2 (10 + q) 1 = x (10 + q) 1 := by rw [e3, up_i _ _ _ (by omega)]; exact hy
        have hu1 : nc m2 q = uf (nc y q) (y (10 + q) 1 * r + c) i := by rw [e3]; exact nc_up (by omega)
        refine z_pop (pc := 35) hO dX5_laySiege_35 rfl ?_
        refine z_iload_n (pc := 36) hO 2 dX5_laySiege_36 rfl rfl ?_
        refine z_iconst (pc := 37) hO dX5_laySiege_37 ?_
        refine z_isub (pc := 38) hO dX5_laySiege_38 ?_
        refine z_iload_n (pc := 39) hO 1 dX5_laySiege_39 rfl rfl ?_
        refine z_callSIp (pc := 40) hO (As := [.int (zi (r - 1)), .int (zi (x (10 + q) 1))]) (st := []) (c_X7_wrap (qL Γ) g m2 (r - 1) (x (10 + q) 1) (by first | assumption | omega) (by first | assumption | omega)) k_X5_41 rfl (Nat.le_of_ble_eq_true rfl) (by decide) (by decide) ⟨by decide, by decide⟩ dX5_laySiege_40 ?_
        refine z_istore (pc := 43) hO (lv' := [(5, .int (zi ((r - 1) % (x (10 + q) 1)))), (0, .ref (gA g (10 + q))), (1, .int (zi (x (10 + q) 1))), (2, .int (zi r)), (3, .int (zi c)), (4, .int (zi i))]) dX5_laySiege_43 (by decide) rfl ?_
        refine z_iload_n (pc := 45) hO 4 dX5_laySiege_45 rfl rfl ?_
        refine z_iconst (pc := 46) hO dX5_laySiege_46 ?_
        refine z_iadd (pc := 47) hO dX5_laySiege_47 ?_
        refine z_iload_n (pc := 48) hO 2 dX5_laySiege_48 rfl rfl ?_
        refine z_callSIp (pc := 49) hO (As := [.int (zi (c + 1)), .int (zi (x (10 + q) 1))]) (st := []) (c_X7_wrap (qL Γ) g m2 (c + 1) (x (10 + q) 1) (by first | assumption | omega) (by first | assumption | omega)) k_X5_41 rfl (Nat.le_of_ble_eq_true rfl) (by decide) (by decide) ⟨by decide, by decide⟩ dX5_laySiege_49 ?_
        refine z_istore (pc := 52) hO (lv' := [(6, .int (zi ((c + 1) % (x (10 + q) 1)))), (5, .int (zi ((r - 1) % (x (10 + q) 1)))), (0, .ref (gA g (10 + q))), (1, .int (zi (x (10 + q) 1))), (2, .int (zi r)), (3, .int (zi c)), (4, .int (zi i))]) dX5_laySiege_52 (by decide) rfl ?_
        have hm1 := Int.emod_nonneg (r - 1) (show x (10 + q) 1 ≠ 0 by omega)
        have hm2 := Int.emod_lt_of_pos (r - 1) (show 0 < x (10 + q) 1 by omega)
        have hm3 := Int.emod_nonneg (c + 1) (show x (10 + q) 1 ≠ 0 by omega)
        have hm4 := Int.emod_lt_of_pos (c + 1) (show 0 < x (10 + q) 1 by omega)
        have hpl2 := pl9 hs ⟨hm1, hm2⟩ ⟨hm3, hm4⟩
        have hpe2 : m2 (10 + q) 1 * ((r - 1) % x (10 + q) 1) + (c + 1) % x (10 + q) 1 = x (10 + q) 1 * ((r - 1) % x (10 + q) 1) + (c + 1) % x (10 + q) 1 := by rw [hg1]
        have hrv : 0 ≤ nc m2 q (m2 (10 + q) 1 * ((r - 1) % x (10 + q) 1) + (c + 1) % x (10 + q) 1) ∧ nc m2 q (m2 (10 + q) 1 * ((r - 1) % x (10 + q) 1) + (c + 1) % x (10 + q) 1) ≤ 100 := by rw [hu1]; unfold uf; split; omega; (have := g1 (m2 (10 + q) 1 * ((r - 1) % x (10 + q) 1) + (c + 1) % x (10 + q) 1); omega)
        refine z_aload_n (pc := 54) hO 2 dX5_laySiege_54 rfl rfl ?_
        refine z_aload_n (pc := 55) hO 2 dX5_laySiege_55 rfl rfl ?_
        refine z_iload (pc := 56) hO 1 dX5_laySiege_56 rfl ?_
        refine z_iload (pc := 58) hO 0 dX5_laySiege_58 rfl ?_
        refine z_callVIp (pc := 60) hO (As := [.int (zi ((r - 1) % (x (10 + q) 1))), .int (zi ((c + 1) % (x (10 + q) 1)))]) (st := [.ref (gA g (10 + q))]) (c_X1_placeOf (qL Γ) g m2 q ((r - 1) % (x (10 + q) 1)) ((c + 1) % (x (10 + q) 1)) (by first | assumption | omega)) k_X5_34 (isO_fig (by omega : q < 9)) rfl (Nat.le_of_ble_eq_true rfl) (by decide) (by decide) ⟨by decide, by decide⟩ dX5_laySiege_60 ?_
        refine z_callVIp (pc := 63) hO (As := [.int (zi (m2 (10 + q) 1 * ((r - 1) % (x (10 + q) 1)) + ((c + 1) % (x (10 + q) 1))))]) (st := []) (c_X1_read (qL Γ) g m2 q (m2 (10 + q) 1 * ((r - 1) % (x (10 + q) 1)) + ((c + 1) % (x (10 + q) 1))) (by first | assumption | omega) (by first | assumption | omega)) k_X5_46 (isO_fig (by omega : q < 9)) rfl (Nat.le_of_ble_eq_true rfl) (by decide) (by decide) ⟨by decide, by decide⟩ dX5_laySiege_63 ?_
        refine z_if_ne (pc := 66) hO (tgt := 78) dX5_laySiege_66 (by decide) (by omega) (fun b4 => ?_) (fun b4 => ?_)
        · refine z_iload_n (pc := 78) hO 4 dX5_laySiege_78 rfl rfl ?_
          refine z_iconst (pc := 79) hO dX5_laySiege_79 ?_
          refine z_iadd (pc := 80) hO dX5_laySiege_80 ?_
          refine z_iload_n (pc := 81) hO 3 dX5_laySiege_81 rfl rfl ?_
          refine z_callSIp (pc := 82) hO (As := [.int (zi (r + 1)), .int (zi (x (10 + q) 1))]) (st := []) (c_X7_wrap (qL Γ) g m2 (r + 1) (x (10 + q) 1) (by first | assumption | omega) (by first | assumption | omega)) k_X5_41 rfl (Nat.le_of_ble_eq_true rfl) (by decide) (by decide) ⟨by decide, by decide⟩ dX5_laySiege_82 ?_
          refine z_istore_n (pc := 85) hO (lv' := [(2, .int (zi ((r + 1) % (x (10 + q) 1)))), (6, .int (zi ((c + 1) % (x (10 + q) 1)))), (5, .int (zi ((r - 1) % (x (10 + q) 1)))), (0, .ref (gA g (10 + q))), (1, .int (zi (x (10 + q) 1))), (3, .int (zi c)), (4, .int (zi i))]) dX5_laySiege_85 rfl (by decide) rfl ?_
          refine z_iinc (pc := 86) hO 6 (lv' := [(4, .int (zi (i + 1))), (2, .int (zi ((r + 1) % (x (10 + q) 1)))), (6, .int (zi ((c + 1) % (x (10 + q) 1)))), (5, .int (zi ((r - 1) % (x (10 + q) 1)))), (0, .ref (gA g (10 + q))), (1, .int (zi (x (10 + q) 1))), (3, .int (zi c))]) dX5_laySiege_86 rfl (by decide) rfl ?_
          refine z_goto (pc := 89) hO (tgt := 14) dX5_laySiege_89 (by decide) ?_
          refine z_sub [4, 5, 1, 6, 0] rfl ?_
          exact ih14 (i + 1) ((r + 1) % (x (10 + q) 1)) c m2 (by omega) (by omega) (by rw [show i + 1 - 1 = i by omega, sgs_s _ (by omega), ← k1]; unfold sgt; dsimp only; rw [hg1] at *; rw [hu1, hy] at *; first | (rw [if_pos (by assumption)]; done) | (rw [if_neg (by assumption)]; done)) (by intro a a1; subst m2; rw [up_i _ _ _ a1]; exact k5 a a1)
        · refine z_iload (pc := 69) hO 1 dX5_laySiege_69 rfl ?_
          refine z_istore_n (pc := 71) hO (lv' := [(2, .int (zi ((r - 1) % (x (10 + q) 1)))), (6, .int (zi ((c + 1) % (x (10 + q) 1)))), (5, .int (zi ((r - 1) % (x (10 + q) 1)))), (0, .ref (gA g (10 + q))), (1, .int (zi (x (10 + q) 1))), (3, .int (zi c)), (4, .int (zi i))]) dX5_laySiege_71 rfl (by decide) rfl ?_
          refine z_iload (pc := 72) hO 1 dX5_laySiege_72 rfl ?_
          refine z_istore_n (pc := 74) hO (lv' := [(3, .int (zi ((c + 1) % (x (10 + q) 1)))), (2, .int (zi ((r - 1) % (x (10 + q) 1)))), (6, .int (zi ((c + 1) % (x (10 + q) 1)))), (5, .int (zi ((r - 1) % (x (10 + q) 1)))), (0, .ref (gA g (10 + q))), (1, .int (zi (x (10 + q) 1))), (4, .int (zi i))]) dX5_laySiege_74 rfl (by decide) rfl ?_
          refine z_goto (pc := 75) hO (tgt := 86) dX5_laySiege_75 (by decide) ?_
          refine z_iinc (pc := 86) hO 6 (lv' := [(4, .int (zi (i + 1))), (3, .int (zi ((c + 1) % (x (10 + q) 1)))), (2, .int (zi ((r - 1) % (x (10 + q) 1)))), (6, .int (zi ((c + 1) % (x (10 + q) 1)))), (5, .int (zi ((r - 1) % (x (10 + q) 1)))), (0, .ref (gA g (10 + q))), (1, .int (zi (x (10 + q) 1)))]) dX5_laySiege_86 rfl (by decide) rfl ?_
          refine z_goto (pc := 89) hO (tgt := 14) dX5_laySiege_89 (by decide) ?_
          refine z_sub [5, 6, 2, 1, 0] rfl ?_
          exact ih14 (i + 1) ((r - 1) % (x (10 + q) 1)) ((c + 1) % (x (10 + q) 1)) m2 (by omega) (by omega) (by rw [show i + 1 - 1 = i by omega, sgs_s _ (by omega), ← k1]; unfold sgt; dsimp only; rw [hg1] at *; rw [hu1, hy] at *; first | (rw [if_pos (by assumption)]; done) | (rw [if_neg (by assumption)]; done)) (by intro a a1; subst m2; rw [up_i _ _ _ a1]; exact k5 a a1)
  refine z_sub [4, 3, 2, 1, 0] rfl ?_
  exact L14 _ 1 0 ((x (10 + q) 1) / 2) x (Nat.lt_succ_self _) (by omega) (by rw [hz0]; rfl) (by intro a _; rfl)

