set_option maxHeartbeats 4000000 in
theorem c_X12_siege (l : Launch) (g : Gl) (x : Me) (n : Int)  (hn : 1 ≤ n ∧ n ≤ 9) : ctQ l g yX12_siege cX12_siege 8 none 2 41 [.ref (gA g 50), .int (zi n)] x (QVu g (fun x' => n53 x' = sgf n ∧ ∀ a, a ≠ 53 → x' a = x a)) := by
  refine ct_start (own := RX12) (lv := [(0, .ref (gA g 50)), (1, .int (zi n))]) (plainFor_of_name (by decide)) rfl (Nat.le_of_ble_eq_true rfl) rfl ?_
  intro Γ hΓ hO hr hQ _
  have hsq := sq9 hn
  refine z_aload_n (pc := 0) hO 0 dX12_siege_0 rfl rfl ?_
  refine z_callVV (pc := 1) hO (As := []) (st := []) (c_X12_wipe (qL Γ) g x ) k_X12_66 isO_50 rfl (Nat.le_of_ble_eq_true rfl) (by decide) (by decide) ⟨by decide, by decide⟩ dX12_siege_1 (fun m2 h3 => ?_)
  have hw := h3
  have hw0 : n53 m2 = fun _ => 0 := by rw [hw]; exact n53_clr x
  have hwf : ∀ a, a ≠ 53 → m2 a = x a := fun a ha => by rw [hw]; exact clr_i x 53 81 ha
  refine z_iconst (pc := 4) hO dX12_siege_4 ?_
  refine z_istore_n (pc := 5) hO (lv' := [(2, .int (zi 0)), (0, .ref (gA g 50)), (1, .int (zi n))]) dX12_siege_5 rfl (by decide) rfl ?_
  refine z_iload_n (pc := 6) hO 2 dX12_siege_6 rfl rfl ?_
  refine z_iconst (pc := 7) hO dX12_siege_7 ?_
  refine z_idiv (pc := 8) hO dX12_siege_8 (by omega) (by omega) ?_
  refine z_istore_n (pc := 9) hO (lv' := [(3, .int (zi (n / 2))), (2, .int (zi 0)), (0, .ref (gA g 50)), (1, .int (zi n))]) dX12_siege_9 rfl (by decide) rfl ?_
  refine z_iconst (pc := 10) hO dX12_siege_10 ?_
  refine z_istore (pc := 11) hO (lv' := [(4, .int (zi 1)), (3, .int (zi (n / 2))), (2, .int (zi 0)), (0, .ref (gA g 50)), (1, .int (zi n))]) dX12_siege_11 (by decide) rfl ?_
  have L13 : ∀ (N : Nat) (i : Int) (r : Int) (c : Int) (y : Me), (n * n + 1 - i).toNat < N → (1 ≤ i ∧ i ≤ n * n + 1) → ((n53 y, r, c) = sgs n (i - 1).toNat) → (∀ a, a ≠ 53 → y a = x a) → Zz Γ g 8 0 0 y 13 [(0, .ref (gA g 50)), (1, .int (zi n)), (2, .int (zi r)), (3, .int (zi c)), (4, .int (zi i))] [] := by
    intro N
    induction N with
    | zero => intro i r c y hm; exact absurd hm (Nat.not_lt_zero _)
    | succ N ih13 =>
      intro i r c y hm h0 k1 k5
      have hg := sgs_rng hn (i - 1).toNat
      rw [← k1] at hg
      obtain ⟨g1, g2, g3, g4⟩ := hg
      dsimp only at g1 g2 g3 g4
      have hpl := pl9 hn g3 g4
      have w1 := wr_dn g3
      have w2 := wr_up g4
      have w3 := wr_up g3
      have w4 := Int.emod_nonneg (r - 1) (show n ≠ 0 by omega)
      have w5 := Int.emod_lt_of_pos (r - 1) (show 0 < n by omega)
      have w6 := Int.emod_nonneg (c + 1) (show n ≠ 0 by omega)
      have w7 := Int.emod_lt_of_pos (c + 1) (show 0 < n by omega)
      refine z_iload (pc := 13) hO 4 dX12_siege_13 rfl ?_
      refine z_iload_n (pc := 15) hO 1 dX12_siege_15 rfl rfl ?_
      refine z_iload_n (pc := 16) hO 1 dX12_siege_16 rfl rfl ?_
      refine z_imul (pc := 17) hO dX12_siege_17 ?_
      refine z_icmp_gt (pc := 18) hO (tgt := 129) dX12_siege_18 (by decide) (by omega) (by omega) (fun b4 => ?_) (fun b4 => ?_)
      · exact z_vret (pc := 129) hO hr hQ dX12_siege_129 (by first | (refine ⟨?_, k5⟩; have e := congrArg Prod.fst k1; dsimp only at e; rw [e]; unfold sgf; congr 2; omega; done) | (exfalso; omega))
      · refine z_aload_n (pc := 21) hO 0 dX12_siege_21 rfl rfl ?_
        refine gf_X12_made (pc := 22) hO f_X12_16 dX12_siege_22 ?_
        refine z_iload_n (pc := 25) hO 1 dX12_siege_25 rfl rfl ?_
        refine z_iload_n (pc := 26) hO 2 dX12_siege_26 rfl rfl ?_
        refine z_imul (pc := 27) hO dX12_siege_27 ?_
        refine z_iload_n (pc := 28) hO 3 dX12_siege_28 rfl rfl ?_
        refine z_iadd (pc := 29) hO dX12_siege_29 ?_
        refine z_iload (pc := 30) hO 4 dX12_siege_30 rfl ?_
        refine z_iast (pc := 32) hO isI_53 (by omega) dX12_siege_32 (fun m5 e6 => ?_)
        have hu1 : n53 m5 = uf (n53 y) (n * r + c) i := by rw [e6]; exact n53_up (by omega)
        have J46 : ∀ (u : Int), (u = (r - 1) % n) → Zz Γ g 8 0 0 m5 46 [(0, .ref (gA g 50)), (1, .int (zi n)), (2, .int (zi r)), (3, .int (zi c)), (4, .int (zi i))] [.int (zi u)] := by
          intro u h_u
          refine z_istore (pc := 46) hO (lv' := [(5, .int (zi u)), (0, .ref (gA g 50)), (1, .int (zi n)), (2, .int (zi r)), (3, .int (zi c)), (4, .int (zi i))]) dX12_siege_46 (by decide) rfl ?_
          have J62 : ∀ (o : Int), (o = (c + 1) % n) → Zz Γ g 8 0 0 m5 62 [(0, .ref (gA g 50)), (1, .int (zi n)), (2, .int (zi r)), (3, .int (zi c)), (4, .int (zi i)), (5, .int (zi u))] [.int (zi o)] := by
            intro o h_o
            refine z_istore (pc := 62) hO (lv' := [(6, .int (zi o)), (0, .ref (gA g 50)), (1, .int (zi n)), (2, .int (zi r)), (3, .int (zi c)), (4, .int (zi i)), (5, .int (zi u))]) dX12_siege_62 (by decide) rfl ?_
            have hpl2 := pl9 hn (r := u) (c := o) (by omega) (by omega)
            have hn5 : n53 m5 (n * u + o) = m5 53 (n * u + o) := n53_in (by omega)
            have hr5 : 0 ≤ n53 m5 (n * u + o) ∧ n53 m5 (n * u + o) ≤ 100 := by rw [hu1]; unfold uf; split; omega; (have := g1 (n * u + o); omega)
            refine z_aload_n (pc := 64) hO 1 dX12_siege_64 rfl rfl ?_
            refine gf_X12_made (pc := 65) hO f_X12_16 dX12_siege_65 ?_
            refine z_iload_n (pc := 68) hO 2 dX12_siege_68 rfl rfl ?_
            refine z_iload (pc := 69) hO 6 dX12_siege_69 rfl ?_
            refine z_imul (pc := 71) hO dX12_siege_71 ?_
            refine z_iload (pc := 72) hO 0 dX12_siege_72 rfl ?_
            refine z_iadd (pc := 74) hO dX12_siege_74 ?_
            refine z_iald (pc := 75) hO isI_53 (by omega) dX12_siege_75 ?_
            refine z_if_ne (pc := 76) hO (tgt := 83) dX12_siege_76 (by decide) (by omega) (fun b7 => ?_) (fun b7 => ?_)
            · refine z_iconst (pc := 83) hO dX12_siege_83 ?_
              refine z_istore (pc := 84) hO (lv' := [(7, .int (zi 0)), (6, .int (zi o)), (0, .ref (gA g 50)), (1, .int (zi n)), (2, .int (zi r)), (3, .int (zi c)), (4, .int (zi i)), (5, .int (zi u))]) dX12_siege_84 (by decide) rfl ?_
              refine z_iload (pc := 86) hO 0 dX12_siege_86 rfl ?_
              refine z_if_eq (pc := 88) hO (tgt := 96) dX12_siege_88 (by decide) (by decide) (fun _ => ?_) (fun h => absurd h (by decide))
              refine z_iload_n (pc := 96) hO 4 dX12_siege_96 rfl rfl ?_
              refine z_iload_n (pc := 97) hO 3 dX12_siege_97 rfl rfl ?_
              refine z_iconst (pc := 98) hO dX12_siege_98 ?_
              refine z_isub (pc := 99) hO dX12_siege_99 ?_
              refine z_icmp_ne (pc := 100) hO (tgt := 107) dX12_siege_100 (by decide) (by omega) (by omega) (fun b8 => ?_) (fun b8 => ?_)
              · refine z_iload_n (pc := 107) hO 4 dX12_siege_107 rfl rfl ?_
                refine z_iconst (pc := 108) hO dX12_siege_108 ?_
                refine z_iadd (pc := 109) hO dX12_siege_109 ?_
                refine z_istore_n (pc := 110) hO (lv' := [(2, .int (zi (r + 1))), (7, .int (zi 0)), (6, .int (zi o)), (0, .ref (gA g 50)), (1, .int (zi n)), (3, .int (zi c)), (4, .int (zi i)), (5, .int (zi u))]) dX12_siege_110 rfl (by decide) rfl ?_
                refine z_iload (pc := 111) hO 1 dX12_siege_111 rfl ?_
                refine z_if_eq (pc := 113) hO (tgt := 121) dX12_siege_113 (by decide) (by decide) (fun _ => ?_) (fun h => absurd h (by decide))
                refine z_iload_n (pc := 121) hO 5 dX12_siege_121 rfl rfl ?_
                refine z_istore_n (pc := 122) hO (lv' := [(3, .int (zi c)), (2, .int (zi (r + 1))), (7, .int (zi 0)), (6, .int (zi o)), (0, .ref (gA g 50)), (1, .int (zi n)), (4, .int (zi i)), (5, .int (zi u))]) dX12_siege_122 rfl (by decide) rfl ?_
                refine z_iinc (pc := 123) hO 6 (lv' := [(4, .int (zi (i + 1))), (3, .int (zi c)), (2, .int (zi (r + 1))), (7, .int (zi 0)), (6, .int (zi o)), (0, .ref (gA g 50)), (1, .int (zi n)), (5, .int (zi u))]) dX12_siege_123 rfl (by decide) rfl ?_
                refine z_goto (pc := 126) hO (tgt := 13) dX12_siege_126 (by decide) ?_
                refine z_sub [5, 6, 2, 1, 0] rfl ?_
                exact ih13 (i + 1) (r + 1) c m5 (by omega) (by omega) (by rw [show i + 1 - 1 = i by omega, sgs_s _ (by omega), ← k1]; unfold sgt; dsimp only; rw [← h_u, ← h_o, ← hu1, n53_in (by omega)]; first | (rw [if_pos (by assumption)]; done) | (rw [if_neg (by assumption)]; exact Prod.ext rfl (Prod.ext (by dsimp only; omega) rfl))) (by intro a a1; subst m5; rw [up_i _ _ _ a1]; exact k5 a a1)
              · refine z_iconst (pc := 103) hO dX12_siege_103 ?_
                refine z_goto (pc := 104) hO (tgt := 110) dX12_siege_104 (by decide) ?_
                refine z_istore_n (pc := 110) hO (lv' := [(2, .int (zi 0)), (7, .int (zi 0)), (6, .int (zi o)), (0, .ref (gA g 50)), (1, .int (zi n)), (3, .int (zi c)), (4, .int (zi i)), (5, .int (zi u))]) dX12_siege_110 rfl (by decide) rfl ?_
                refine z_iload (pc := 111) hO 1 dX12_siege_111 rfl ?_
                refine z_if_eq (pc := 113) hO (tgt := 121) dX12_siege_113 (by decide) (by decide) (fun _ => ?_) (fun h => absurd h (by decide))
                refine z_iload_n (pc := 121) hO 5 dX12_siege_121 rfl rfl ?_
                refine z_istore_n (pc := 122) hO (lv' := [(3, .int (zi c)), (2, .int (zi 0)), (7, .int (zi 0)), (6, .int (zi o)), (0, .ref (gA g 50)), (1, .int (zi n)), (4, .int (zi i)), (5, .int (zi u))]) dX12_siege_122 rfl (by decide) rfl ?_
                refine z_iinc (pc := 123) hO 6 (lv' := [(4, .int (zi (i + 1))), (3, .int (zi c)), (2, .int (zi 0)), (7, .int (zi 0)), (6, .int (zi o)), (0, .ref (gA g 50)), (1, .int (zi n)), (5, .int (zi u))]) dX12_siege_123 rfl (by decide) rfl ?_
                refine z_goto (pc := 126) hO (tgt := 13) dX12_siege_126 (by decide) ?_
                refine z_sub [5, 6, 2, 1, 0] rfl ?_
                exact ih13 (i + 1) 0 c m5 (by omega) (by omega) (by rw [show i + 1 - 1 = i by omega, sgs_s _ (by omega), ← k1]; unfold sgt; dsimp only; rw [← h_u, ← h_o, ← hu1, n53_in (by omega)]; first | (rw [if_pos (by assumption)]; done) | (rw [if_neg (by assumption)]; exact Prod.ext rfl (Prod.ext (by dsimp only; omega) rfl))) (by intro a a1; subst m5; rw [up_i _ _ _ a1]; exact k5 a a1)
            · refine z_iconst (pc := 79) hO dX12_siege_79 ?_
              refine z_goto (pc := 80) hO (tgt := 84) dX12_siege_80 (by decide) ?_
              refine z_istore (pc := 84) hO (lv' := [(7, .int (zi 1)), (6, .int (zi o)), (0, .ref (gA g 50)), (1, .int (zi n)), (2, .int (zi r)), (3, .int (zi c)), (4, .int (zi i)), (5, .int (zi u))]) dX12_siege_84 (by decide) rfl ?_
              refine z_iload (pc := 86) hO 0 dX12_siege_86 rfl ?_
              refine z_if_eq (pc := 88) hO (tgt := 96) dX12_siege_88 (by decide) (by decide) (fun h => absurd h (by decide)) (fun _ => ?_)
              refine z_iload (pc := 91) hO 7 dX12_siege_91 rfl ?_
              refine z_goto (pc := 93) hO (tgt := 110) dX12_siege_93 (by decide) ?_
              refine z_istore_n (pc := 110) hO (lv' := [(2, .int (zi u)), (7, .int (zi 1)), (6, .int (zi o)), (0, .ref (gA g 50)), (1, .int (zi n)), (3, .int (zi c)), (4, .int (zi i)), (5, .int (zi u))]) dX12_siege_110 rfl (by decide) rfl ?_
              refine z_iload (pc := 111) hO 1 dX12_siege_111 rfl ?_
              refine z_if_eq (pc := 113) hO (tgt := 121) dX12_siege_113 (by decide) (by decide) (fun h => absurd h (by decide)) (fun _ => ?_)
              refine z_iload (pc := 116) hO 2 dX12_siege_116 rfl ?_
              refine z_goto (pc := 118) hO (tgt := 122) dX12_siege_118 (by decide) ?_
              refine z_istore_n (pc := 122) hO (lv' := [(3, .int (zi o)), (2, .int (zi u)), (7, .int (zi 1)), (6, .int (zi o)), (0, .ref (gA g 50)), (1, .int (zi n)), (4, .int (zi i)), (5, .int (zi u))]) dX12_siege_122 rfl (by decide) rfl ?_
              refine z_iinc (pc := 123) hO 6 (lv' := [(4, .int (zi (i + 1))), (3, .int (zi o)), (2, .int (zi u)), (7, .int (zi 1)), (6, .int (zi o)), (0, .ref (gA g 50)), (1, .int (zi n)), (5, .int (zi u))]) dX12_siege_123 rfl (by decide) rfl ?_
              refine z_goto (pc := 126) hO (tgt := 13) dX12_siege_126 (by decide) ?_
              refine z_sub [5, 6, 2, 1, 0] rfl ?_
              exact ih13 (i + 1) u o m5 (by omega) (by omega) (by rw [show i + 1 - 1 = i by omega, sgs_s _ (by omega), ← k1]; unfold sgt; dsimp only; rw [← h_u, ← h_o, ← hu1, n53_in (by omega)]; first | (rw [if_pos (by assumption)]; done) | (rw [if_neg (by assumption)]; exact Prod.ext rfl (Prod.ext (by dsimp only; omega) rfl))) (by intro a a1; subst m5; rw [up_i _ _ _ a1]; exact k5 a a1)
          refine z_iload_n (pc := 48) hO 4 dX12_siege_48 rfl rfl ?_
          refine z_iload_n (pc := 49) hO 2 dX12_siege_49 rfl rfl ?_
          refine z_iconst (pc := 50) hO dX12_siege_50 ?_
          refine z_isub (pc := 51) hO dX12_siege_51 ?_
          refine z_icmp_ne (pc := 52) hO (tgt := 59) dX12_siege_52 (by decide) (by omega) (by omega) (fun b9 => ?_) (fun b9 => ?_)
          · refine z_iload_n (pc := 59) hO 4 dX12_siege_59 rfl rfl ?_
            refine z_iconst (pc := 60) hO dX12_siege_60 ?_
            refine z_iadd (pc := 61) hO dX12_siege_61 ?_
            refine z_sub [1, 2, 3, 4, 5, 0] rfl ?_
            exact J62 (c + 1) (by omega)
          · refine z_iconst (pc := 55) hO dX12_siege_55 ?_
            refine z_goto (pc := 56) hO (tgt := 62) dX12_siege_56 (by decide) ?_
            refine z_sub [1, 2, 3, 4, 5, 0] rfl ?_
            exact J62 0 (by omega)
        refine z_iload_n (pc := 33) hO 2 dX12_siege_33 rfl rfl ?_
        refine z_if_ne (pc := 34) hO (tgt := 43) dX12_siege_34 (by decide) (by omega) (fun b10 => ?_) (fun b10 => ?_)
        · refine z_iload_n (pc := 43) hO 2 dX12_siege_43 rfl rfl ?_
          refine z_iconst (pc := 44) hO dX12_siege_44 ?_
          refine z_isub (pc := 45) hO dX12_siege_45 ?_
          refine z_sub [0, 1, 2, 3, 4] rfl ?_
          exact J46 (r - 1) (by omega)
        · refine z_iload_n (pc := 37) hO 1 dX12_siege_37 rfl rfl ?_
          refine z_iconst (pc := 38) hO dX12_siege_38 ?_
          refine z_isub (pc := 39) hO dX12_siege_39 ?_
          refine z_goto (pc := 40) hO (tgt := 46) dX12_siege_40 (by decide) ?_
          refine z_sub [0, 1, 2, 3, 4] rfl ?_
          exact J46 (n - 1) (by omega)
  refine z_sub [3, 4, 2, 1, 0] rfl ?_
  exact L13 _ 1 0 (n / 2) m2 (Nat.lt_succ_self _) (by omega) (by rw [hw0]; rfl) (by exact hwf)

set_option maxHeartbeats 4000000 in
theorem c_X12_lux (l : Launch) (g : Gl) (x : Me)    : ctQ l g yX12_lux cX12_lux 7 none 3 68 [.ref (gA g 50)] x (QVu g (fun x' => n53 x' = lxf ∧ ∀ a, a ≠ 53 → a ≠ 54 → x' a = x a)) := by
  refine ct_start (own := RX12) (lv := [(0, .ref (gA g 50))]) (plainFor_of_name (by decide)) rfl (Nat.le_of_ble_eq_true rfl) rfl ?_
  intro Γ hΓ hO hr hQ _
  refine z_aload_n (pc := 0) hO 0 dX12_lux_0 rfl rfl ?_
  refine z_iconst (pc := 1) hO dX12_lux_1 ?_
  refine z_callVV (pc := 2) hO (As := [.int (zi 3)]) (st := []) (c_X12_siege (qL Γ) g x 3 (by omega)) k_X12_80 isO_50 rfl (Nat.le_of_ble_eq_true rfl) (by decide) (by decide) ⟨by decide, by decide⟩ dX12_lux_2 (fun m2 h3 => ?_)
  obtain ⟨d1, d2⟩ := h3
  obtain ⟨w, hw⟩ : ∃ w : Me, w = m2 := ⟨_, rfl⟩
  rw [← hw] at d1 d2
  have d3 : ∀ p, 0 ≤ p → p < 81 → w 53 p = sgf 3 p := fun p a b => by rw [← d1, n53_in ⟨a, b⟩]
  refine z_iconst (pc := 5) hO dX12_lux_5 ?_
  refine z_istore_n (pc := 6) hO (lv' := [(1, .int (zi 0)), (0, .ref (gA g 50))]) dX12_lux_6 rfl (by decide) rfl ?_
  have L7 : ∀ (N : Nat) (k : Int) (y : Me), (9 - k).toNat < N → (0 ≤ k ∧ k ≤ 9) → (∀ j, 0 ≤ j → j < k → y 54 j = sgf 3 j) → (∀ a, a ≠ 54 → y a = w a) → Zz Γ g 7 0 0 y 7 [(0, .ref (gA g 50)), (1, .int (zi k))] [] := by
    intro N
    induction N with
    | zero => intro k y hm; exact absurd hm (Nat.not_lt_zero _)
    | succ N ih7 =>
      intro k y hm h0 k1 k2
      refine z_iload_n (pc := 7) hO 1 dX12_lux_7 rfl rfl ?_
      refine z_bipush (pc := 8) hO dX12_lux_8 (by decide) ?_
      refine z_icmp_ge (pc := 10) hO (tgt := 31) dX12_lux_10 (by decide) (by omega) (by omega) (fun b4 => ?_) (fun b4 => ?_)
      · refine z_iconst (pc := 31) hO dX12_lux_31 ?_
        refine z_istore_n (pc := 32) hO (lv' := [(1, .int (zi 0)), (0, .ref (gA g 50))]) dX12_lux_32 rfl (by decide) rfl ?_
        have L33 : ∀ (N : Nat) (i : Int) (v : Me), (9 - i).toNat < N → (0 ≤ i ∧ i ≤ 9) → (∀ j, 0 ≤ j → j < 9 → v 54 j = sgf 3 j) → (∀ p, 36 ≤ p → p < 81 → v 53 p = 0) → (∀ p, 0 ≤ p → p < 36 → 3 * (p / 6 / 2) + p % 6 / 2 < i → v 53 p = lux (sgf 3) p) → (∀ a, a ≠ 53 → a ≠ 54 → v a = x a) → Zz Γ g 7 0 0 v 33 [(0, .ref (gA g 50)), (1, .int (zi i))] [] := by
          intro N
          induction N with
          | zero => intro i v hm; exact absurd hm (Nat.not_lt_zero _)
          | succ N ih33 =>
            intro i v hm h1 j1 j3 j4 j5
            refine z_iload_n (pc := 33) hO 1 dX12_lux_33 rfl rfl ?_
            refine z_bipush (pc := 34) hO dX12_lux_34 (by decide) ?_
            refine z_icmp_ge (pc := 36) hO (tgt := 178) dX12_lux_36 (by decide) (by omega) (by omega) (fun b5 => ?_) (fun b5 => ?_)
            · exact z_vret (pc := 178) hO hr hQ dX12_lux_178 (by first | (refine ⟨n53_eq (fun p a0 a1 => ?_) (fun p a0 => ?_), j5⟩; (by_cases hp : p < 36; (unfold lxf; rw [if_pos ⟨a0, hp⟩]; exact j4 p a0 hp (by omega)); (unfold lxf; rw [if_neg (by omega)]; exact j3 p (by omega) a1)); (unfold lxf; rw [if_neg (by omega)]); done) | (exfalso; omega))
            · have hV : v 54 i = sgf 3 (3 * (i / 3) + i % 3) := by rw [j1 i (by omega) (by omega)]; congr 1; omega
              refine z_iload_n (pc := 39) hO 1 dX12_lux_39 rfl rfl ?_
              refine z_iconst (pc := 40) hO dX12_lux_40 ?_
              refine z_idiv (pc := 41) hO dX12_lux_41 (by omega) (by omega) ?_
              refine z_istore_n (pc := 42) hO (lv' := [(2, .int (zi (i / 3))), (0, .ref (gA g 50)), (1, .int (zi i))]) dX12_lux_42 rfl (by decide) rfl ?_
              refine z_iload_n (pc := 43) hO 2 dX12_lux_43 rfl rfl ?_
              refine z_iconst (pc := 44) hO dX12_lux_44 ?_
              refine z_irem (pc := 45) hO dX12_lux_45 (by omega) (by omega) ?_
              refine z_istore_n (pc := 46) hO (lv' := [(3, .int (zi (i % 3))), (2, .int (zi (i / 3))), (0, .ref (gA g 50)), (1, .int (zi i))]) dX12_lux_46 rfl (by decide) rfl ?_
              refine z_iconst (pc := 47) hO dX12_lux_47 ?_
              refine z_aload_n (pc := 48) hO 2 dX12_lux_48 rfl rfl ?_
              refine gf_X12_work (pc := 49) hO f_X12_19 dX12_lux_49 ?_
              refine z_iload_n (pc := 52) hO 3 dX12_lux_52 rfl rfl ?_
              refine z_iald (pc := 53) hO isI_54 (by omega) dX12_lux_53 ?_
              refine z_iconst (pc := 54) hO dX12_lux_54 ?_
              refine z_isub (pc := 55) hO dX12_lux_55 ?_
              refine z_imul (pc := 56) hO dX12_lux_56 ?_
              refine z_istore (pc := 57) hO (lv' := [(4, .int (zi (4 * ((v 54 i) - 1)))), (3, .int (zi (i % 3))), (2, .int (zi (i / 3))), (0, .ref (gA g 50)), (1, .int (zi i))]) dX12_lux_57 (by decide) rfl ?_
              refine z_bipush (pc := 59) hO dX12_lux_59 (by decide) ?_
              refine z_iload_n (pc := 61) hO 2 dX12_lux_61 rfl rfl ?_
              refine z_imul (pc := 62) hO dX12_lux_62 ?_
              refine z_iconst (pc := 63) hO dX12_lux_63 ?_
              refine z_iload_n (pc := 64) hO 1 dX12_lux_64 rfl rfl ?_
              refine z_imul (pc := 65) hO dX12_lux_65 ?_
              refine z_iadd (pc := 66) hO dX12_lux_66 ?_
              refine z_istore (pc := 67) hO (lv' := [(5, .int (zi ((12 * (i / 3)) + (2 * (i % 3))))), (4, .int (zi (4 * ((v 54 i) - 1)))), (3, .int (zi (i % 3))), (2, .int (zi (i / 3))), (0, .ref (gA g 50)), (1, .int (zi i))]) dX12_lux_67 (by decide) rfl ?_
              refine z_iload_n (pc := 69) hO 3 dX12_lux_69 rfl rfl ?_
              refine z_iconst (pc := 70) hO dX12_lux_70 ?_
              refine z_icmp_ne (pc := 71) hO (tgt := 79) dX12_lux_71 (by decide) (by omega) (by omega) (fun b6 => ?_) (fun b6 => ?_)
              · refine z_iload_n (pc := 79) hO 3 dX12_lux_79 rfl rfl ?_
                refine z_iconst (pc := 80) hO dX12_lux_80 ?_
                refine z_icmp_ne (pc := 81) hO (tgt := 93) dX12_lux_81 (by decide) (by omega) (by omega) (fun b7 => ?_) (fun b7 => ?_)
                · refine z_iconst (pc := 93) hO dX12_lux_93 ?_
                  refine z_istore (pc := 94) hO (lv' := [(6, .int (zi 0)), (5, .int (zi ((12 * (i / 3)) + (2 * (i % 3))))), (4, .int (zi (4 * ((v 54 i) - 1)))), (3, .int (zi (i % 3))), (2, .int (zi (i / 3))), (0, .ref (gA g 50)), (1, .int (zi i))]) dX12_lux_94 (by decide) rfl ?_
                  refine z_aload_n (pc := 96) hO 5 dX12_lux_96 rfl rfl ?_
                  refine gf_X12_made (pc := 97) hO f_X12_16 dX12_lux_97 ?_
                  refine z_iload (pc := 100) hO 1 dX12_lux_100 rfl ?_
                  refine z_iload (pc := 102) hO 0 dX12_lux_102 rfl ?_
                  refine z_if_eq (pc := 104) hO (tgt := 114) dX12_lux_104 (by decide) (by decide) (fun _ => ?_) (fun h => absurd h (by decide))
                  refine z_iload (pc := 114) hO 2 dX12_lux_114 rfl ?_
                  refine z_iconst (pc := 116) hO dX12_lux_116 ?_
                  refine z_iadd (pc := 117) hO dX12_lux_117 ?_
                  refine z_iast (pc := 118) hO isI_53 (by omega) dX12_lux_118 (fun m8 e9 => ?_)
                  refine z_aload_n (pc := 119) hO 5 dX12_lux_119 rfl rfl ?_
                  refine gf_X12_made (pc := 120) hO f_X12_16 dX12_lux_120 ?_
                  refine z_iload (pc := 123) hO 1 dX12_lux_123 rfl ?_
                  refine z_iconst (pc := 125) hO dX12_lux_125 ?_
                  refine z_iadd (pc := 126) hO dX12_lux_126 ?_
                  refine z_iload (pc := 127) hO 0 dX12_lux_127 rfl ?_
                  refine z_if_eq (pc := 129) hO (tgt := 139) dX12_lux_129 (by decide) (by decide) (fun _ => ?_) (fun h => absurd h (by decide))
                  refine z_iload (pc := 139) hO 2 dX12_lux_139 rfl ?_
                  refine z_iconst (pc := 141) hO dX12_lux_141 ?_
                  refine z_iadd (pc := 142) hO dX12_lux_142 ?_
                  refine z_iast (pc := 143) hO isI_53 (by omega) dX12_lux_143 (fun m10 e11 => ?_)
                  refine z_aload_n (pc := 144) hO 5 dX12_lux_144 rfl rfl ?_
                  refine gf_X12_made (pc := 145) hO f_X12_16 dX12_lux_145 ?_
                  refine z_iload (pc := 148) hO 1 dX12_lux_148 rfl ?_
                  refine z_bipush (pc := 150) hO dX12_lux_150 (by decide) ?_
                  refine z_iadd (pc := 152) hO dX12_lux_152 ?_
                  refine z_iload (pc := 153) hO 2 dX12_lux_153 rfl ?_
                  refine z_iconst (pc := 155) hO dX12_lux_155 ?_
                  refine z_iadd (pc := 156) hO dX12_lux_156 ?_
                  refine z_iast (pc := 157) hO isI_53 (by omega) dX12_lux_157 (fun m12 e13 => ?_)
                  refine z_aload_n (pc := 158) hO 5 dX12_lux_158 rfl rfl ?_
                  refine gf_X12_made (pc := 159) hO f_X12_16 dX12_lux_159 ?_
                  refine z_iload (pc := 162) hO 1 dX12_lux_162 rfl ?_
                  refine z_bipush (pc := 164) hO dX12_lux_164 (by decide) ?_
                  refine z_iadd (pc := 166) hO dX12_lux_166 ?_
                  refine z_iload (pc := 167) hO 2 dX12_lux_167 rfl ?_
                  refine z_iconst (pc := 169) hO dX12_lux_169 ?_
                  refine z_iadd (pc := 170) hO dX12_lux_170 ?_
                  refine z_iast (pc := 171) hO isI_53 (by omega) dX12_lux_171 (fun m14 e15 => ?_)
                  refine z_iinc (pc := 172) hO 6 (lv' := [(1, .int (zi (i + 1))), (6, .int (zi 0)), (5, .int (zi ((12 * (i / 3)) + (2 * (i % 3))))), (4, .int (zi (4 * ((v 54 i) - 1)))), (3, .int (zi (i % 3))), (2, .int (zi (i / 3))), (0, .ref (gA g 50))]) dX12_lux_172 rfl (by decide) rfl ?_
                  refine z_goto (pc := 175) hO (tgt := 33) dX12_lux_175 (by decide) ?_
                  refine z_sub [6, 0] rfl ?_
                  exact ih33 (i + 1) m14 (by omega) (by omega) (by intro j a b; subst m14 m12 m10 m8; (iterate 4 rw [up_i _ _ _ (by omega)]); exact j1 j a b) (by intro p a0 a1; subst m14 m12 m10 m8; rw [up4]; rw [if_neg (by omega), if_neg (by omega), if_neg (by omega), if_neg (by omega)]; exact j3 p a0 a1) (by intro p a0 a1 a2; subst m14 m12 m10 m8; rw [up4, hV]; exact dite (p = 12 * (i / 3) + 2 * (i % 3) + 7) (fun e3 => by (rw [if_pos (by omega), lux_at (r := i / 3) (c := i % 3) (a := 1) (b := 1) (by omega) (by omega) (by omega) (by omega) (by omega)]; simp)) (fun e3 => by (rw [if_neg (by omega)]; exact dite (p = 12 * (i / 3) + 2 * (i % 3) + 6) (fun e2 => by (rw [if_pos (by omega), lux_at (r := i / 3) (c := i % 3) (a := 1) (b := 0) (by omega) (by omega) (by omega) (by omega) (by omega)]; simp)) (fun e2 => by (rw [if_neg (by omega)]; exact dite (p = 12 * (i / 3) + 2 * (i % 3) + 1) (fun e1 => by (rw [if_pos (by omega), lux_at (r := i / 3) (c := i % 3) (a := 0) (b := 1) (by omega) (by omega) (by omega) (by omega) (by omega)]; simp only [if_true, if_false, show ¬ ((1 : Int) = 0) by decide]; first | (rw [if_pos (by omega)]; done) | (rw [if_neg (by omega)]; done))) (fun e1 => by (rw [if_neg (by omega)]; exact dite (p = 12 * (i / 3) + 2 * (i % 3)) (fun e0 => by (rw [if_pos (by omega), lux_at (r := i / 3) (c := i % 3) (a := 0) (b := 0) (by omega) (by omega) (by omega) (by omega) (by omega)]; simp only [if_true]; first | (rw [if_pos (by omega)]; done) | (rw [if_neg (by omega)]; done))) (fun e0 => by (rw [if_neg (by omega)]; exact j4 p a0 a1 (by omega)))))))))) (by intro a a1 a2; subst m14 m12 m10 m8; (iterate 4 rw [up_i _ _ _ (by omega)]); exact j5 a a1 a2)
                · refine z_iload_n (pc := 84) hO 2 dX12_lux_84 rfl rfl ?_
                  refine z_iconst (pc := 85) hO dX12_lux_85 ?_
                  refine z_icmp_eq (pc := 86) hO (tgt := 93) dX12_lux_86 (by decide) (by omega) (by omega) (fun b16 => ?_) (fun b16 => ?_)
                  · refine z_iconst (pc := 93) hO dX12_lux_93 ?_
                    refine z_istore (pc := 94) hO (lv' := [(6, .int (zi 0)), (5, .int (zi ((12 * (i / 3)) + (2 * (i % 3))))), (4, .int (zi (4 * ((v 54 i) - 1)))), (3, .int (zi (i % 3))), (2, .int (zi (i / 3))), (0, .ref (gA g 50)), (1, .int (zi i))]) dX12_lux_94 (by decide) rfl ?_
                    refine z_aload_n (pc := 96) hO 5 dX12_lux_96 rfl rfl ?_
                    refine gf_X12_made (pc := 97) hO f_X12_16 dX12_lux_97 ?_
                    refine z_iload (pc := 100) hO 1 dX12_lux_100 rfl ?_
                    refine z_iload (pc := 102) hO 0 dX12_lux_102 rfl ?_
                    refine z_if_eq (pc := 104) hO (tgt := 114) dX12_lux_104 (by decide) (by decide) (fun _ => ?_) (fun h => absurd h (by decide))
                    refine z_iload (pc := 114) hO 2 dX12_lux_114 rfl ?_
                    refine z_iconst (pc := 116) hO dX12_lux_116 ?_
                    refine z_iadd (pc := 117) hO dX12_lux_117 ?_
                    refine z_iast (pc := 118) hO isI_53 (by omega) dX12_lux_118 (fun m17 e18 => ?_)
                    refine z_aload_n (pc := 119) hO 5 dX12_lux_119 rfl rfl ?_
                    refine gf_X12_made (pc := 120) hO f_X12_16 dX12_lux_120 ?_
                    refine z_iload (pc := 123) hO 1 dX12_lux_123 rfl ?_
                    refine z_iconst (pc := 125) hO dX12_lux_125 ?_
                    refine z_iadd (pc := 126) hO dX12_lux_126 ?_
                    refine z_iload (pc := 127) hO 0 dX12_lux_127 rfl ?_
                    refine z_if_eq (pc := 129) hO (tgt := 139) dX12_lux_129 (by decide) (by decide) (fun _ => ?_) (fun h => absurd h (by decide))
                    refine z_iload (pc := 139) hO 2 dX12_lux_139 rfl ?_
                    refine z_iconst (pc := 141) hO dX12_lux_141 ?_
                    refine z_iadd (pc := 142) hO dX12_lux_142 ?_
                    refine z_iast (pc := 143) hO isI_53 (by omega) dX12_lux_143 (fun m19 e20 => ?_)
                    refine z_aload_n (pc := 144) hO 5 dX12_lux_144 rfl rfl ?_
                    refine gf_X12_made (pc := 145) hO f_X12_16 dX12_lux_145 ?_
                    refine z_iload (pc := 148) hO 1 dX12_lux_148 rfl ?_
                    refine z_bipush (pc := 150) hO dX12_lux_150 (by decide) ?_
                    refine z_iadd (pc := 152) hO dX12_lux_152 ?_
                    refine z_iload (pc := 153) hO 2 dX12_lux_153 rfl ?_
                    refine z_iconst (pc := 155) hO dX12_lux_155 ?_
                    refine z_iadd (pc := 156) hO dX12_lux_156 ?_
                    refine z_iast (pc := 157) hO isI_53 (by omega) dX12_lux_157 (fun m21 e22 => ?_)
                    refine z_aload_n (pc := 158) hO 5 dX12_lux_158 rfl rfl ?_
                    refine gf_X12_made (pc := 159) hO f_X12_16 dX12_lux_159 ?_
                    refine z_iload (pc := 162) hO 1 dX12_lux_162 rfl ?_
                    refine z_bipush (pc := 164) hO dX12_lux_164 (by decide) ?_
                    refine z_iadd (pc := 166) hO dX12_lux_166 ?_
                    refine z_iload (pc := 167) hO 2 dX12_lux_167 rfl ?_
                    refine z_iconst (pc := 169) hO dX12_lux_169 ?_
                    refine z_iadd (pc := 170) hO dX12_lux_170 ?_
                    refine z_iast (pc := 171) hO isI_53 (by omega) dX12_lux_171 (fun m23 e24 => ?_)
                    refine z_iinc (pc := 172) hO 6 (lv' := [(1, .int (zi (i + 1))), (6, .int (zi 0)), (5, .int (zi ((12 * (i / 3)) + (2 * (i % 3))))), (4, .int (zi (4 * ((v 54 i) - 1)))), (3, .int (zi (i % 3))), (2, .int (zi (i / 3))), (0, .ref (gA g 50))]) dX12_lux_172 rfl (by decide) rfl ?_
                    refine z_goto (pc := 175) hO (tgt := 33) dX12_lux_175 (by decide) ?_
                    refine z_sub [6, 0] rfl ?_
                    exact ih33 (i + 1) m23 (by omega) (by omega) (by intro j a b; subst m23 m21 m19 m17; (iterate 4 rw [up_i _ _ _ (by omega)]); exact j1 j a b) (by intro p a0 a1; subst m23 m21 m19 m17; rw [up4]; rw [if_neg (by omega), if_neg (by omega), if_neg (by omega), if_neg (by omega)]; exact j3 p a0 a1) (by intro p a0 a1 a2; subst m23 m21 m19 m17; rw [up4, hV]; exact dite (p = 12 * (i / 3) + 2 * (i % 3) + 7) (fun e3 => by (rw [if_pos (by omega), lux_at (r := i / 3) (c := i % 3) (a := 1) (b := 1) (by omega) (by omega) (by omega) (by omega) (by omega)]; simp)) (fun e3 => by (rw [if_neg (by omega)]; exact dite (p = 12 * (i / 3) + 2 * (i % 3) + 6) (fun e2 => by (rw [if_pos (by omega), lux_at (r := i / 3) (c := i % 3) (a := 1) (b := 0) (by omega) (by omega) (by omega) (by omega) (by omega)]; simp)) (fun e2 => by (rw [if_neg (by omega)]; exact dite (p = 12 * (i / 3) + 2 * (i % 3) + 1) (fun e1 => by (rw [if_pos (by omega), lux_at (r := i / 3) (c := i % 3) (a := 0) (b := 1) (by omega) (by omega) (by omega) (by omega) (by omega)]; simp only [if_true, if_false, show ¬ ((1 : Int) = 0) by decide]; first | (rw [if_pos (by omega)]; done) | (rw [if_neg (by omega)]; done))) (fun e1 => by (rw [if_neg (by omega)]; exact dite (p = 12 * (i / 3) + 2 * (i % 3)) (fun e0 => by (rw [if_pos (by omega), lux_at (r := i / 3) (c := i % 3) (a := 0) (b := 0) (by omega) (by omega) (by omega) (by omega) (by omega)]; simp only [if_true]; first | (rw [if_pos (by omega)]; done) | (rw [if_neg (by omega)]; done))) (fun e0 => by (rw [if_neg (by omega)]; exact j4 p a0 a1 (by omega)))))))))) (by intro a a1 a2; subst m23 m21 m19 m17; (iterate 4 rw [up_i _ _ _ (by omega)]); exact j5 a a1 a2)
                  · refine z_iconst (pc := 89) hO dX12_lux_89 ?_
                    refine z_goto (pc := 90) hO (tgt := 94) dX12_lux_90 (by decide) ?_
                    refine z_istore (pc := 94) hO (lv' := [(6, .int (zi 1)), (5, .int (zi ((12 * (i / 3)) + (2 * (i % 3))))), (4, .int (zi (4 * ((v 54 i) - 1)))), (3, .int (zi (i % 3))), (2, .int (zi (i / 3))), (0, .ref (gA g 50)), (1, .int (zi i))]) dX12_lux_94 (by decide) rfl ?_
                    refine z_aload_n (pc := 96) hO 5 dX12_lux_96 rfl rfl ?_
                    refine gf_X12_made (pc := 97) hO f_X12_16 dX12_lux_97 ?_
                    refine z_iload (pc := 100) hO 1 dX12_lux_100 rfl ?_
                    refine z_iload (pc := 102) hO 0 dX12_lux_102 rfl ?_
                    refine z_if_eq (pc := 104) hO (tgt := 114) dX12_lux_104 (by decide) (by decide) (fun h => absurd h (by decide)) (fun _ => ?_)
                    refine z_iload (pc := 107) hO 2 dX12_lux_107 rfl ?_
                    refine z_iconst (pc := 109) hO dX12_lux_109 ?_
                    refine z_iadd (pc := 110) hO dX12_lux_110 ?_
                    refine z_goto (pc := 111) hO (tgt := 118) dX12_lux_111 (by decide) ?_
                    refine z_iast (pc := 118) hO isI_53 (by omega) dX12_lux_118 (fun m25 e26 => ?_)
                    refine z_aload_n (pc := 119) hO 5 dX12_lux_119 rfl rfl ?_
                    refine gf_X12_made (pc := 120) hO f_X12_16 dX12_lux_120 ?_
                    refine z_iload (pc := 123) hO 1 dX12_lux_123 rfl ?_
                    refine z_iconst (pc := 125) hO dX12_lux_125 ?_
                    refine z_iadd (pc := 126) hO dX12_lux_126 ?_
                    refine z_iload (pc := 127) hO 0 dX12_lux_127 rfl ?_
                    refine z_if_eq (pc := 129) hO (tgt := 139) dX12_lux_129 (by decide) (by decide) (fun h => absurd h (by decide)) (fun _ => ?_)
                    refine z_iload (pc := 132) hO 2 dX12_lux_132 rfl ?_
                    refine z_iconst (pc := 134) hO dX12_lux_134 ?_
                    refine z_iadd (pc := 135) hO dX12_lux_135 ?_
                    refine z_goto (pc := 136) hO (tgt := 143) dX12_lux_136 (by decide) ?_
                    refine z_iast (pc := 143) hO isI_53 (by omega) dX12_lux_143 (fun m27 e28 => ?_)
                    refine z_aload_n (pc := 144) hO 5 dX12_lux_144 rfl rfl ?_
                    refine gf_X12_made (pc := 145) hO f_X12_16 dX12_lux_145 ?_
                    refine z_iload (pc := 148) hO 1 dX12_lux_148 rfl ?_
                    refine z_bipush (pc := 150) hO dX12_lux_150 (by decide) ?_
                    refine z_iadd (pc := 152) hO dX12_lux_152 ?_
                    refine z_iload (pc := 153) hO 2 dX12_lux_153 rfl ?_
                    refine z_iconst (pc := 155) hO dX12_lux_155 ?_
                    refine z_iadd (pc := 156) hO dX12_lux_156 ?_
                    refine z_iast (pc := 157) hO isI_53 (by omega) dX12_lux_157 (fun m29 e30 => ?_)
                    refine z_aload_n (pc := 158) hO 5 dX12_lux_158 rfl rfl ?_
                    refine gf_X12_made (pc := 159) hO f_X12_16 dX12_lux_159 ?_
                    refine z_iload (pc := 162) hO 1 dX12_lux_162 rfl ?_
                    refine z_bipush (pc := 164) hO dX12_lux_164 (by decide) ?_
                    refine z_iadd (pc := 166) hO dX12_lux_166 ?_
                    refine z_iload (pc := 167) hO 2 dX12_lux_167 rfl ?_
                    refine z_iconst (pc := 169) hO dX12_lux_169 ?_
                    refine z_iadd (pc := 170) hO dX12_lux_170 ?_
                    refine z_iast (pc := 171) hO isI_53 (by omega) dX12_lux_171 (fun m31 e32 => ?_)
                    refine z_iinc (pc := 172) hO 6 (lv' := [(1, .int (zi (i + 1))), (6, .int (zi 1)), (5, .int (zi ((12 * (i / 3)) + (2 * (i % 3))))), (4, .int (zi (4 * ((v 54 i) - 1)))), (3, .int (zi (i % 3))), (2, .int (zi (i / 3))), (0, .ref (gA g 50))]) dX12_lux_172 rfl (by decide) rfl ?_
                    refine z_goto (pc := 175) hO (tgt := 33) dX12_lux_175 (by decide) ?_
                    refine z_sub [6, 0] rfl ?_
                    exact ih33 (i + 1) m31 (by omega) (by omega) (by intro j a b; subst m31 m29 m27 m25; (iterate 4 rw [up_i _ _ _ (by omega)]); exact j1 j a b) (by intro p a0 a1; subst m31 m29 m27 m25; rw [up4]; rw [if_neg (by omega), if_neg (by omega), if_neg (by omega), if_neg (by omega)]; exact j3 p a0 a1) (by intro p a0 a1 a2; subst m31 m29 m27 m25; rw [up4, hV]; exact dite (p = 12 * (i / 3) + 2 * (i % 3) + 7) (fun e3 => by (rw [if_pos (by omega), lux_at (r := i / 3) (c := i % 3) (a := 1) (b := 1) (by omega) (by omega) (by omega) (by omega) (by omega)]; simp)) (fun e3 => by (rw [if_neg (by omega)]; exact dite (p = 12 * (i / 3) + 2 * (i % 3) + 6) (fun e2 => by (rw [if_pos (by omega), lux_at (r := i / 3) (c := i % 3) (a := 1) (b := 0) (by omega) (by omega) (by omega) (by omega) (by omega)]; simp)) (fun e2 => by (rw [if_neg (by omega)]; exact dite (p = 12 * (i / 3) + 2 * (i % 3) + 1) (fun e1 => by (rw [if_pos (by omega), lux_at (r := i / 3) (c := i % 3) (a := 0) (b := 1) (by omega) (by omega) (by omega) (by omega) (by omega)]; simp only [if_true, if_false, show ¬ ((1 : Int) = 0) by decide]; first | (rw [if_pos (by omega)]; done) | (rw [if_neg (by omega)]; done))) (fun e1 => by (rw [if_neg (by omega)]; exact dite (p = 12 * (i / 3) + 2 * (i % 3)) (fun e0 => by (rw [if_pos (by omega), lux_at (r := i / 3) (c := i % 3) (a := 0) (b := 0) (by omega) (by omega) (by omega) (by omega) (by omega)]; simp only [if_true]; first | (rw [if_pos (by omega)]; done) | (rw [if_neg (by omega)]; done))) (fun e0 => by (rw [if_neg (by omega)]; exact j4 p a0 a1 (by omega)))))))))) (by intro a a1 a2; subst m31 m29 m27 m25; (iterate 4 rw [up_i _ _ _ (by omega)]); exact j5 a a1 a2)
              · refine z_iload_n (pc := 74) hO 2 dX12_lux_74 rfl rfl ?_
                refine z_iconst (pc := 75) hO dX12_lux_75 ?_
                refine z_icmp_eq (pc := 76) hO (tgt := 89) dX12_lux_76 (by decide) (by omega) (by omega) (fun b33 => ?_) (fun b33 => ?_)
                · refine z_iconst (pc := 89) hO dX12_lux_89 ?_
                  refine z_goto (pc := 90) hO (tgt := 94) dX12_lux_90 (by decide) ?_
                  refine z_istore (pc := 94) hO (lv' := [(6, .int (zi 1)), (5, .int (zi ((12 * (i / 3)) + (2 * (i % 3))))), (4, .int (zi (4 * ((v 54 i) - 1)))), (3, .int (zi (i % 3))), (2, .int (zi (i / 3))), (0, .ref (gA g 50)), (1, .int (zi i))]) dX12_lux_94 (by decide) rfl ?_
                  refine z_aload_n (pc := 96) hO 5 dX12_lux_96 rfl rfl ?_
                  refine gf_X12_made (pc := 97) hO f_X12_16 dX12_lux_97 ?_
                  refine z_iload (pc := 100) hO 1 dX12_lux_100 rfl ?_
                  refine z_iload (pc := 102) hO 0 dX12_lux_102 rfl ?_
                  refine z_if_eq (pc := 104) hO (tgt := 114) dX12_lux_104 (by decide) (by decide) (fun h => absurd h (by decide)) (fun _ => ?_)
                  refine z_iload (pc := 107) hO 2 dX12_lux_107 rfl ?_
                  refine z_iconst (pc := 109) hO dX12_lux_109 ?_
                  refine z_iadd (pc := 110) hO dX12_lux_110 ?_
                  refine z_goto (pc := 111) hO (tgt := 118) dX12_lux_111 (by decide) ?_
                  refine z_iast (pc := 118) hO isI_53 (by omega) dX12_lux_118 (fun m34 e35 => ?_)
                  refine z_aload_n (pc := 119) hO 5 dX12_lux_119 rfl rfl ?_
                  refine gf_X12_made (pc := 120) hO f_X12_16 dX12_lux_120 ?_
                  refine z_iload (pc := 123) hO 1 dX12_lux_123 rfl ?_
                  refine z_iconst (pc := 125) hO dX12_lux_125 ?_
                  refine z_iadd (pc := 126) hO dX12_lux_126 ?_
                  refine z_iload (pc := 127) hO 0 dX12_lux_127 rfl ?_
                  refine z_if_eq (pc := 129) hO (tgt := 139) dX12_lux_129 (by decide) (by decide) (fun h => absurd h (by decide)) (fun _ => ?_)
                  refine z_iload (pc := 132) hO 2 dX12_lux_132 rfl ?_
                  refine z_iconst (pc := 134) hO dX12_lux_134 ?_
                  refine z_iadd (pc := 135) hO dX12_lux_135 ?_
                  refine z_goto (pc := 136) hO (tgt := 143) dX12_lux_136 (by decide) ?_
                  refine z_iast (pc := 143) hO isI_53 (by omega) dX12_lux_143 (fun m36 e37 => ?_)
                  refine z_aload_n (pc := 144) hO 5 dX12_lux_144 rfl rfl ?_
                  refine gf_X12_made (pc := 145) hO f_X12_16 dX12_lux_145 ?_
                  refine z_iload (pc := 148) hO 1 dX12_lux_148 rfl ?_
                  refine z_bipush (pc := 150) hO dX12_lux_150 (by decide) ?_
                  refine z_iadd (pc := 152) hO dX12_lux_152 ?_
                  refine z_iload (pc := 153) hO 2 dX12_lux_153 rfl ?_
                  refine z_iconst (pc := 155) hO dX12_lux_155 ?_
                  refine z_iadd (pc := 156) hO dX12_lux_156 ?_
                  refine z_iast (pc := 157) hO isI_53 (by omega) dX12_lux_157 (fun m38 e39 => ?_)
                  refine z_aload_n (pc := 158) hO 5 dX12_lux_158 rfl rfl ?_
                  refine gf_X12_made (pc := 159) hO f_X12_16 dX12_lux_159 ?_
                  refine z_iload (pc := 162) hO 1 dX12_lux_162 rfl ?_
                  refine z_bipush (pc := 164) hO dX12_lux_164 (by decide) ?_
                  refine z_iadd (pc := 166) hO dX12_lux_166 ?_
                  refine z_iload (pc := 167) hO 2 dX12_lux_167 rfl ?_
                  refine z_iconst (pc := 169) hO dX12_lux_169 ?_
                  refine z_iadd (pc := 170) hO dX12_lux_170 ?_
                  refine z_iast (pc := 171) hO isI_53 (by omega) dX12_lux_171 (fun m40 e41 => ?_)
                  refine z_iinc (pc := 172) hO 6 (lv' := [(1, .int (zi (i + 1))), (6, .int (zi 1)), (5, .int (zi ((12 * (i / 3)) + (2 * (i % 3))))), (4, .int (zi (4 * ((v 54 i) - 1)))), (3, .int (zi (i % 3))), (2, .int (zi (i / 3))), (0, .ref (gA g 50))]) dX12_lux_172 rfl (by decide) rfl ?_
                  refine z_goto (pc := 175) hO (tgt := 33) dX12_lux_175 (by decide) ?_
                  refine z_sub [6, 0] rfl ?_
                  exact ih33 (i + 1) m40 (by omega) (by omega) (by intro j a b; subst m40 m38 m36 m34; (iterate 4 rw [up_i _ _ _ (by omega)]); exact j1 j a b) (by intro p a0 a1; subst m40 m38 m36 m34; rw [up4]; rw [if_neg (by omega), if_neg (by omega), if_neg (by omega), if_neg (by omega)]; exact j3 p a0 a1) (by intro p a0 a1 a2; subst m40 m38 m36 m34; rw [up4, hV]; exact dite (p = 12 * (i / 3) + 2 * (i % 3) + 7) (fun e3 => by (rw [if_pos (by omega), lux_at (r := i / 3) (c := i % 3) (a := 1) (b := 1) (by omega) (by omega) (by omega) (by omega) (by omega)]; simp)) (fun e3 => by (rw [if_neg (by omega)]; exact dite (p = 12 * (i / 3) + 2 * (i % 3) + 6) (fun e2 => by (rw [if_pos (by omega), lux_at (r := i / 3) (c := i % 3) (a := 1) (b := 0) (by omega) (by omega) (by omega) (by omega) (by omega)]; simp)) (fun e2 => by (rw [if_neg (by omega)]; exact dite (p = 12 * (i / 3) + 2 * (i % 3) + 1) (fun e1 => by (rw [if_pos (by omega), lux_at (r := i / 3) (c := i % 3) (a := 0) (b := 1) (by omega) (by omega) (by omega) (by omega) (by omega)]; simp only [if_true, if_false, show ¬ ((1 : Int) = 0) by decide]; first | (rw [if_pos (by omega)]; done) | (rw [if_neg (by omega)]; done))) (fun e1 => by (rw [if_neg (by omega)]; exact dite (p = 12 * (i / 3) + 2 * (i % 3)) (fun e0 => by (rw [if_pos (by omega), lux_at (r := i / 3) (c := i % 3) (a := 0) (b := 0) (by omega) (by omega) (by omega) (by omega) (by omega)]; simp only [if_true]; first | (rw [if_pos (by omega)]; done) | (rw [if_neg (by omega)]; done))) (fun e0 => by (rw [if_neg (by omega)]; exact j4 p a0 a1 (by omega)))))))))) (by intro a a1 a2; subst m40 m38 m36 m34; (iterate 4 rw [up_i _ _ _ (by omega)]); exact j5 a a1 a2)
                · refine z_iload_n (pc := 79) hO 3 dX12_lux_79 rfl rfl ?_
                  refine z_iconst (pc := 80) hO dX12_lux_80 ?_
                  refine z_icmp_ne (pc := 81) hO (tgt := 93) dX12_lux_81 (by decide) (by omega) (by omega) (fun b42 => ?_) (fun b42 => ?_)
                  · refine z_iconst (pc := 93) hO dX12_lux_93 ?_
                    refine z_istore (pc := 94) hO (lv' := [(6, .int (zi 0)), (5, .int (zi ((12 * (i / 3)) + (2 * (i % 3))))), (4, .int (zi (4 * ((v 54 i) - 1)))), (3, .int (zi (i % 3))), (2, .int (zi (i / 3))), (0, .ref (gA g 50)), (1, .int (zi i))]) dX12_lux_94 (by decide) rfl ?_
                    refine z_aload_n (pc := 96) hO 5 dX12_lux_96 rfl rfl ?_
                    refine gf_X12_made (pc := 97) hO f_X12_16 dX12_lux_97 ?_
                    refine z_iload (pc := 100) hO 1 dX12_lux_100 rfl ?_
                    refine z_iload (pc := 102) hO 0 dX12_lux_102 rfl ?_
                    refine z_if_eq (pc := 104) hO (tgt := 114) dX12_lux_104 (by decide) (by decide) (fun _ => ?_) (fun h => absurd h (by decide))
                    refine z_iload (pc := 114) hO 2 dX12_lux_114 rfl ?_
                    refine z_iconst (pc := 116) hO dX12_lux_116 ?_
                    refine z_iadd (pc := 117) hO dX12_lux_117 ?_
                    refine z_iast (pc := 118) hO isI_53 (by omega) dX12_lux_118 (fun m43 e44 => ?_)
                    refine z_aload_n (pc := 119) hO 5 dX12_lux_119 rfl rfl ?_
                    refine gf_X12_made (pc := 120) hO f_X12_16 dX12_lux_120 ?_
                    refine z_iload (pc := 123) hO 1 dX12_lux_123 rfl ?_
                    refine z_iconst (pc := 125) hO dX12_lux_125 ?_
                    refine z_iadd (pc := 126) hO dX12_lux_126 ?_
                    refine z_iload (pc := 127) hO 0 dX12_lux_127 rfl ?_
                    refine z_if_eq (pc := 129) hO (tgt := 139) dX12_lux_129 (by decide) (by decide) (fun _ => ?_) (fun h => absurd h (by decide))
                    refine z_iload (pc := 139) hO 2 dX12_lux_139 rfl ?_
                    refine z_iconst (pc := 141) hO dX12_lux_141 ?_
                    refine z_iadd (pc := 142) hO dX12_lux_142 ?_
                    refine z_iast (pc := 143) hO isI_53 (by omega) dX12_lux_143 (fun m45 e46 => ?_)
                    refine z_aload_n (pc := 144) hO 5 dX12_lux_144 rfl rfl ?_
                    refine gf_X12_made (pc := 145) hO f_X12_16 dX12_lux_145 ?_
                    refine z_iload (pc := 148) hO 1 dX12_lux_148 rfl ?_
                    refine z_bipush (pc := 150) hO dX12_lux_150 (by decide) ?_
                    refine z_iadd (pc := 152) hO dX12_lux_152 ?_
                    refine z_iload (pc := 153) hO 2 dX12_lux_153 rfl ?_
                    refine z_iconst (pc := 155) hO dX12_lux_155 ?_
                    refine z_iadd (pc := 156) hO dX12_lux_156 ?_
                    refine z_iast (pc := 157) hO isI_53 (by omega) dX12_lux_157 (fun m47 e48 => ?_)
                    refine z_aload_n (pc := 158) hO 5 dX12_lux_158 rfl rfl ?_
                    refine gf_X12_made (pc := 159) hO f_X12_16 dX12_lux_159 ?_
                    refine z_iload (pc := 162) hO 1 dX12_lux_162 rfl ?_
                    refine z_bipush (pc := 164) hO dX12_lux_164 (by decide) ?_
                    refine z_iadd (pc := 166) hO dX12_lux_166 ?_
                    refine z_iload (pc := 167) hO 2 dX12_lux_167 rfl ?_
                    refine z_iconst (pc := 169) hO dX12_lux_169 ?_
                    refine z_iadd (pc := 170) hO dX12_lux_170 ?_
                    refine z_iast (pc := 171) hO isI_53 (by omega) dX12_lux_171 (fun m49 e50 => ?_)
                    refine z_iinc (pc := 172) hO 6 (lv' := [(1, .int (zi (i + 1))), (6, .int (zi 0)), (5, .int (zi ((12 * (i / 3)) + (2 * (i % 3))))), (4, .int (zi (4 * ((v 54 i) - 1)))), (3, .int (zi (i % 3))), (2, .int (zi (i / 3))), (0, .ref (gA g 50))]) dX12_lux_172 rfl (by decide) rfl ?_
                    refine z_goto (pc := 175) hO (tgt := 33) dX12_lux_175 (by decide) ?_
                    refine z_sub [6, 0] rfl ?_
                    exact ih33 (i + 1) m49 (by omega) (by omega) (by intro j a b; subst m49 m47 m45 m43; (iterate 4 rw [up_i _ _ _ (by omega)]); exact j1 j a b) (by intro p a0 a1; subst m49 m47 m45 m43; rw [up4]; rw [if_neg (by omega), if_neg (by omega), if_neg (by omega), if_neg (by omega)]; exact j3 p a0 a1) (by intro p a0 a1 a2; subst m49 m47 m45 m43; rw [up4, hV]; exact dite (p = 12 * (i / 3) + 2 * (i % 3) + 7) (fun e3 => by (rw [if_pos (by omega), lux_at (r := i / 3) (c := i % 3) (a := 1) (b := 1) (by omega) (by omega) (by omega) (by omega) (by omega)]; simp)) (fun e3 => by (rw [if_neg (by omega)]; exact dite (p = 12 * (i / 3) + 2 * (i % 3) + 6) (fun e2 => by (rw [if_pos (by omega), lux_at (r := i / 3) (c := i % 3) (a := 1) (b := 0) (by omega) (by omega) (by omega) (by omega) (by omega)]; simp)) (fun e2 => by (rw [if_neg (by omega)]; exact dite (p = 12 * (i / 3) + 2 * (i % 3) + 1) (fun e1 => by (rw [if_pos (by omega), lux_at (r := i / 3) (c := i % 3) (a := 0) (b := 1) (by omega) (by omega) (by omega) (by omega) (by omega)]; simp only [if_true, if_false, show ¬ ((1 : Int) = 0) by decide]; first | (rw [if_pos (by omega)]; done) | (rw [if_neg (by omega)]; done))) (fun e1 => by (rw [if_neg (by omega)]; exact dite (p = 12 * (i / 3) + 2 * (i % 3)) (fun e0 => by (rw [if_pos (by omega), lux_at (r := i / 3) (c := i % 3) (a := 0) (b := 0) (by omega) (by omega) (by omega) (by omega) (by omega)]; simp only [if_true]; first | (rw [if_pos (by omega)]; done) | (rw [if_neg (by omega)]; done))) (fun e0 => by (rw [if_neg (by omega)]; exact j4 p a0 a1 (by omega)))))))))) (by intro a a1 a2; subst m49 m47 m45 m43; (iterate 4 rw [up_i _ _ _ (by omega)]); exact j5 a a1 a2)
                  · refine z_iload_n (pc := 84) hO 2 dX12_lux_84 rfl rfl ?_
                    refine z_iconst (pc := 85) hO dX12_lux_85 ?_
                    refine z_icmp_eq (pc := 86) hO (tgt := 93) dX12_lux_86 (by decide) (by omega) (by omega) (fun b51 => ?_) (fun b51 => ?_)
                    · refine z_iconst (pc := 93) hO dX12_lux_93 ?_
                      refine z_istore (pc := 94) hO (lv' := [(6, .int (zi 0)), (5, .int (zi ((12 * (i / 3)) + (2 * (i % 3))))), (4, .int (zi (4 * ((v 54 i) - 1)))), (3, .int (zi (i % 3))), (2, .int (zi (i / 3))), (0, .ref (gA g 50)), (1, .int (zi i))]) dX12_lux_94 (by decide) rfl ?_
                      refine z_aload_n (pc := 96) hO 5 dX12_lux_96 rfl rfl ?_
                      refine gf_X12_made (pc := 97) hO f_X12_16 dX12_lux_97 ?_
                      refine z_iload (pc := 100) hO 1 dX12_lux_100 rfl ?_
                      refine z_iload (pc := 102) hO 0 dX12_lux_102 rfl ?_
                      refine z_if_eq (pc := 104) hO (tgt := 114) dX12_lux_104 (by decide) (by decide) (fun _ => ?_) (fun h => absurd h (by decide))
                      refine z_iload (pc := 114) hO 2 dX12_lux_114 rfl ?_
                      refine z_iconst (pc := 116) hO dX12_lux_116 ?_
                      refine z_iadd (pc := 117) hO dX12_lux_117 ?_
                      refine z_iast (pc := 118) hO isI_53 (by omega) dX12_lux_118 (fun m52 e53 => ?_)
                      refine z_aload_n (pc := 119) hO 5 dX12_lux_119 rfl rfl ?_
                      refine gf_X12_made (pc := 120) hO f_X12_16 dX12_lux_120 ?_
                      refine z_iload (pc := 123) hO 1 dX12_lux_123 rfl ?_
                      refine z_iconst (pc := 125) hO dX12_lux_125 ?_
                      refine z_iadd (pc := 126) hO dX12_lux_126 ?_
                      refine z_iload (pc := 127) hO 0 dX12_lux_127 rfl ?_
                      refine z_if_eq (pc := 129) hO (tgt := 139) dX12_lux_129 (by decide) (by decide) (fun _ => ?_) (fun h => absurd h (by decide))
                      refine z_iload (pc := 139) hO 2 dX12_lux_139 rfl ?_
                      refine z_iconst (pc := 141) hO dX12_lux_141 ?_
                      refine z_iadd (pc := 142) hO dX12_lux_142 ?_
                      refine z_iast (pc := 143) hO isI_53 (by omega) dX12_lux_143 (fun m54 e55 => ?_)
                      refine z_aload_n (pc := 144) hO 5 dX12_lux_144 rfl rfl ?_
                      refine gf_X12_made (pc := 145) hO f_X12_16 dX12_lux_145 ?_
                      refine z_iload (pc := 148) hO 1 dX12_lux_148 rfl ?_
                      refine z_bipush (pc := 150) hO dX12_lux_150 (by decide) ?_
                      refine z_iadd (pc := 152) hO dX12_lux_152 ?_
                      refine z_iload (pc := 153) hO 2 dX12_lux_153 rfl ?_
                      refine z_iconst (pc := 155) hO dX12_lux_155 ?_
                      refine z_iadd (pc := 156) hO dX12_lux_156 ?_
                      refine z_iast (pc := 157) hO isI_53 (by omega) dX12_lux_157 (fun m56 e57 => ?_)
                      refine z_aload_n (pc := 158) hO 5 dX12_lux_158 rfl rfl ?_
                      refine gf_X12_made (pc := 159) hO f_X12_16 dX12_lux_159 ?_
                      refine z_iload (pc := 162) hO 1 dX12_lux_162 rfl ?_
                      refine z_bipush (pc := 164) hO dX12_lux_164 (by decide) ?_
                      refine z_iadd (pc := 166) hO dX12_lux_166 ?_
                      refine z_iload (pc := 167) hO 2 dX12_lux_167 rfl ?_
                      refine z_iconst (pc := 169) hO dX12_lux_169 ?_
                      refine z_iadd (pc := 170) hO dX12_lux_170 ?_
                      refine z_iast (pc := 171) hO isI_53 (by omega) dX12_lux_171 (fun m58 e59 => ?_)
                      refine z_iinc (pc := 172) hO 6 (lv' := [(1, .int (zi (i + 1))), (6, .int (zi 0)), (5, .int (zi ((12 * (i / 3)) + (2 * (i % 3))))), (4, .int (zi (4 * ((v 54 i) - 1)))), (3, .int (zi (i % 3))), (2, .int (zi (i / 3))), (0, .ref (gA g 50))]) dX12_lux_172 rfl (by decide) rfl ?_
                      refine z_goto (pc := 175) hO (tgt := 33) dX12_lux_175 (by decide) ?_
                      refine z_sub [6, 0] rfl ?_
                      exact ih33 (i + 1) m58 (by omega) (by omega) (by intro j a b; subst m58 m56 m54 m52; (iterate 4 rw [up_i _ _ _ (by omega)]); exact j1 j a b) (by intro p a0 a1; subst m58 m56 m54 m52; rw [up4]; rw [if_neg (by omega), if_neg (by omega), if_neg (by omega), if_neg (by omega)]; exact j3 p a0 a1) (by intro p a0 a1 a2; subst m58 m56 m54 m52; rw [up4, hV]; exact dite (p = 12 * (i / 3) + 2 * (i % 3) + 7) (fun e3 => by (rw [if_pos (by omega), lux_at (r := i / 3) (c := i % 3) (a := 1) (b := 1) (by omega) (by omega) (by omega) (by omega) (by omega)]; simp)) (fun e3 => by (rw [if_neg (by omega)]; exact dite (p = 12 * (i / 3) + 2 * (i % 3) + 6) (fun e2 => by (rw [if_pos (by omega), lux_at (r := i / 3) (c := i % 3) (a := 1) (b := 0) (by omega) (by omega) (by omega) (by omega) (by omega)]; simp)) (fun e2 => by (rw [if_neg (by omega)]; exact dite (p = 12 * (i / 3) + 2 * (i % 3) + 1) (fun e1 => by (rw [if_pos (by omega), lux_at (r := i / 3) (c := i % 3) (a := 0) (b := 1) (by omega) (by omega) (by omega) (by omega) (by omega)]; simp only [if_true, if_false, show ¬ ((1 : Int) = 0) by decide]; first | (rw [if_pos (by omega)]; done) | (rw [if_neg (by omega)]; done))) (fun e1 => by (rw [if_neg (by omega)]; exact dite (p = 12 * (i / 3) + 2 * (i % 3)) (fun e0 => by (rw [if_pos (by omega), lux_at (r := i / 3) (c := i % 3) (a := 0) (b := 0) (by omega) (by omega) (by omega) (by omega) (by omega)]; simp only [if_true]; first | (rw [if_pos (by omega)]; done) | (rw [if_neg (by omega)]; done))) (fun e0 => by (rw [if_neg (by omega)]; exact j4 p a0 a1 (by omega)))))))))) (by intro a a1 a2; subst m58 m56 m54 m52; (iterate 4 rw [up_i _ _ _ (by omega)]); exact j5 a a1 a2)
                    · refine z_iconst (pc := 89) hO dX12_lux_89 ?_
                      refine z_goto (pc := 90) hO (tgt := 94) dX12_lux_90 (by decide) ?_
                      refine z_istore (pc := 94) hO (lv' := [(6, .int (zi 1)), (5, .int (zi ((12 * (i / 3)) + (2 * (i % 3))))), (4, .int (zi (4 * ((v 54 i) - 1)))), (3, .int (zi (i % 3))), (2, .int (zi (i / 3))), (0, .ref (gA g 50)), (1, .int (zi i))]) dX12_lux_94 (by decide) rfl ?_
                      refine z_aload_n (pc := 96) hO 5 dX12_lux_96 rfl rfl ?_
                      refine gf_X12_made (pc := 97) hO f_X12_16 dX12_lux_97 ?_
                      refine z_iload (pc := 100) hO 1 dX12_lux_100 rfl ?_
                      refine z_iload (pc := 102) hO 0 dX12_lux_102 rfl ?_
                      refine z_if_eq (pc := 104) hO (tgt := 114) dX12_lux_104 (by decide) (by decide) (fun h => absurd h (by decide)) (fun _ => ?_)
                      refine z_iload (pc := 107) hO 2 dX12_lux_107 rfl ?_
                      refine z_iconst (pc := 109) hO dX12_lux_109 ?_
                      refine z_iadd (pc := 110) hO dX12_lux_110 ?_
                      refine z_goto (pc := 111) hO (tgt := 118) dX12_lux_111 (by decide) ?_
                      refine z_iast (pc := 118) hO isI_53 (by omega) dX12_lux_118 (fun m60 e61 => ?_)
                      refine z_aload_n (pc := 119) hO 5 dX12_lux_119 rfl rfl ?_
                      refine gf_X12_made (pc := 120) hO f_X12_16 dX12_lux_120 ?_
                      refine z_iload (pc := 123) hO 1 dX12_lux_123 rfl ?_
                      refine z_iconst (pc := 125) hO dX12_lux_125 ?_
                      refine z_iadd (pc := 126) hO dX12_lux_126 ?_
                      refine z_iload (pc := 127) hO 0 dX12_lux_127 rfl ?_
                      refine z_if_eq (pc := 129) hO (tgt := 139) dX12_lux_129 (by decide) (by decide) (fun h => absurd h (by decide)) (fun _ => ?_)
                      refine z_iload (pc := 132) hO 2 dX12_lux_132 rfl ?_
                      refine z_iconst (pc := 134) hO dX12_lux_134 ?_
                      refine z_iadd (pc := 135) hO dX12_lux_135 ?_
                      refine z_goto (pc := 136) hO (tgt := 143) dX12_lux_136 (by decide) ?_
                      refine z_iast (pc := 143) hO isI_53 (by omega) dX12_lux_143 (fun m62 e63 => ?_)
                      refine z_aload_n (pc := 144) hO 5 dX12_lux_144 rfl rfl ?_
                      refine gf_X12_made (pc := 145) hO f_X12_16 dX12_lux_145 ?_
                      refine z_iload (pc := 148) hO 1 dX12_lux_148 rfl ?_
                      refine z_bipush (pc := 150) hO dX12_lux_150 (by decide) ?_
                      refine z_iadd (pc := 152) hO dX12_lux_152 ?_
                      refine z_iload (pc := 153) hO 2 dX12_lux_153 rfl ?_
                      refine z_iconst (pc := 155) hO dX12_lux_155 ?_
                      refine z_iadd (pc := 156) hO dX12_lux_156 ?_
                      refine z_iast (pc := 157) hO isI_53 (by omega) dX12_lux_157 (fun m64 e65 => ?_)
                      refine z_aload_n (pc := 158) hO 5 dX12_lux_158 rfl rfl ?_
                      refine gf_X12_made (pc := 159) hO f_X12_16 dX12_lux_159 ?_
                      refine z_iload (pc := 162) hO 1 dX12_lux_162 rfl ?_
                      refine z_bipush (pc := 164) hO dX12_lux_164 (by decide) ?_
                      refine z_iadd (pc := 166) hO dX12_lux_166 ?_
                      refine z_iload (pc := 167) hO 2 dX12_lux_167 rfl ?_
                      refine z_iconst (pc := 169) hO dX12_lux_169 ?_
                      refine z_iadd (pc := 170) hO dX12_lux_170 ?_
                      refine z_iast (pc := 171) hO isI_53 (by omega) dX12_lux_171 (fun m66 e67 => ?_)
                      refine z_iinc (pc := 172) hO 6 (lv' := [(1, .int (zi (i + 1))), (6, .int (zi 1)), (5, .int (zi ((12 * (i / 3)) + (2 * (i % 3))))), (4, .int (zi (4 * ((v 54 i) - 1)))), (3, .int (zi (i % 3))), (2, .int (zi (i / 3))), (0, .ref (gA g 50))]) dX12_lux_172 rfl (by decide) rfl ?_
                      refine z_goto (pc := 175) hO (tgt := 33) dX12_lux_175 (by decide) ?_
                      refine z_sub [6, 0] rfl ?_
                      exact ih33 (i + 1) m66 (by omega) (by omega) (by intro j a b; subst m66 m64 m62 m60; (iterate 4 rw [up_i _ _ _ (by omega)]); exact j1 j a b) (by intro p a0 a1; subst m66 m64 m62 m60; rw [up4]; rw [if_neg (by omega), if_neg (by omega), if_neg (by omega), if_neg (by omega)]; exact j3 p a0 a1) (by intro p a0 a1 a2; subst m66 m64 m62 m60; rw [up4, hV]; exact dite (p = 12 * (i / 3) + 2 * (i % 3) + 7) (fun e3 => by (rw [if_pos (by omega), lux_at (r := i / 3) (c := i % 3) (a := 1) (b := 1) (by omega) (by omega) (by omega) (by omega) (by omega)]; simp)) (fun e3 => by (rw [if_neg (by omega)]; exact dite (p = 12 * (i / 3) + 2 * (i % 3) + 6) (fun e2 => by (rw [if_pos (by omega), lux_at (r := i / 3) (c := i % 3) (a := 1) (b := 0) (by omega) (by omega) (by omega) (by omega) (by omega)]; simp)) (fun e2 => by (rw [if_neg (by omega)]; exact dite (p = 12 * (i / 3) + 2 * (i % 3) + 1) (fun e1 => by (rw [if_pos (by omega), lux_at (r := i / 3) (c := i % 3) (a := 0) (b := 1) (by omega) (by omega) (by omega) (by omega) (by omega)]; simp only [if_true, if_false, show ¬ ((1 : Int) = 0) by decide]; first | (rw [if_pos (by omega)]; done) | (rw [if_neg (by omega)]; done))) (fun e1 => by (rw [if_neg (by omega)]; exact dite (p = 12 * (i / 3) + 2 * (i % 3)) (fun e0 => by (rw [if_pos (by omega), lux_at (r := i / 3) (c := i % 3) (a := 0) (b := 0) (by omega) (by omega) (by omega) (by omega) (by omega)]; simp only [if_true]; first | (rw [if_pos (by omega)]; done) | (rw [if_neg (by omega)]; done))) (fun e0 => by (rw [if_neg (by omega)]; exact j4 p a0 a1 (by omega)))))))))) (by intro a a1 a2; subst m66 m64 m62 m60; (iterate 4 rw [up_i _ _ _ (by omega)]); exact j5 a a1 a2)
        refine z_sub [1, 0] rfl ?_
        exact L33 _ 0 y (Nat.lt_succ_self _) (by omega) (by intro j a b; exact k1 j a (by omega)) (by intro p a b; rw [k2 53 (by omega), d3 p (by omega) b]; exact sgf_out (by omega) (by omega)) (by intro p _ _ _; omega) (by intro a a1 a2; rw [k2 a a2, d2 a a1])
      · refine z_aload_n (pc := 13) hO 0 dX12_lux_13 rfl rfl ?_
        refine gf_X12_work (pc := 14) hO f_X12_19 dX12_lux_14 ?_
        refine z_iload_n (pc := 17) hO 1 dX12_lux_17 rfl rfl ?_
        refine z_aload_n (pc := 18) hO 0 dX12_lux_18 rfl rfl ?_
        refine gf_X12_made (pc := 19) hO f_X12_16 dX12_lux_19 ?_
        refine z_iload_n (pc := 22) hO 1 dX12_lux_22 rfl rfl ?_
        refine z_iald (pc := 23) hO isI_53 (by omega) dX12_lux_23 ?_
        refine z_iast (pc := 24) hO isI_54 (by omega) dX12_lux_24 (fun m68 e69 => ?_)
        refine z_iinc (pc := 25) hO 1 (lv' := [(1, .int (zi (k + 1))), (0, .ref (gA g 50))]) dX12_lux_25 rfl (by decide) rfl ?_
        refine z_goto (pc := 28) hO (tgt := 7) dX12_lux_28 (by decide) ?_
        refine z_sub [1, 0] rfl ?_
        exact ih7 (k + 1) m68 (by omega) (by omega) (by intro j a b; subst m68; exact dite (j = k) (fun e => by rw [e, up_s, k2 53 (by omega)]; exact d3 k (by omega) (by omega)) (fun e => by rw [up_n _ _ (by omega)]; exact k1 j a (by omega))) (by intro a ha; subst m68; rw [up_i _ _ _ ha]; exact k2 a ha)
  refine z_sub [1, 0] rfl ?_
  exact L7 _ 0 m2 (Nat.lt_succ_self _) (by omega) (by intro j _ _; omega) (by intro a _; rw [hw])

set_option maxHeartbeats 4000000 in
theorem e_X12_make (l : Launch) (g : Gl) (x : Me) (mk : Int) (s : Int)  (hM : MS x) (r_mk : -2147483648 ≤ mk ∧ mk < 2147483648) (r_s : -2147483648 ≤ s ∧ s < 2147483648) (hno : ¬ (((0 ≤ mk ∧ mk ≤ 3) ∧ 1 ≤ s ∧ s ≤ 9) ∧ (hld mk s ∧ x 50 1 < 8))) : ctQ l g yX12_make cX12_make 4 (some .int) 4 94 [.ref (gA g 50), .int (zi mk), .int (zi s)] x (QIu g (fun z x' => z = 0 ∧ x' = up x 50 0 (exn (True) ((0 ≤ mk ∧ mk ≤ 3) ∧ 1 ≤ s ∧ s ≤ 9) 0 1 2))) := by
  refine ct_start (own := RX12) (lv := [(0, .ref (gA g 50)), (1, .int (zi mk)), (2, .int (zi s))]) (plainFor_of_name (by decide)) rfl (Nat.le_of_ble_eq_true rfl) rfl ?_
  intro Γ hΓ hO hr hQ _
  have hM1 := hM.1
  refine z_iload_n (pc := 0) hO 1 dX12_make_0 rfl rfl ?_
  refine z_iconst (pc := 1) hO dX12_make_1 ?_
  refine z_iconst (pc := 2) hO dX12_make_2 ?_
  refine z_callSB (pc := 3) hO (As := [.int (zi mk), .int (zi 0), .int (zi 3)]) (st := []) (c_X12_in (qL Γ) g x mk 0 3 (by first | assumption | omega) (by first | assumption | omega) (by first | assumption | omega)) k_X12_55 rfl (Nat.le_of_ble_eq_true rfl) (by decide) (by decide) ⟨by decide, by decide⟩ dX12_make_3 (fun pb1 => ?_) (fun pb1 => ?_)
  · skip
    refine z_if_eq (pc := 6) hO (tgt := 23) dX12_make_6 (by decide) (by decide) (fun h => absurd h (by decide)) (fun _ => ?_)
    refine z_iload_n (pc := 9) hO 2 dX12_make_9 rfl rfl ?_
    refine z_iconst (pc := 10) hO dX12_make_10 ?_
    refine z_bipush (pc := 11) hO dX12_make_11 (by decide) ?_
    refine z_callSB (pc := 13) hO (As := [.int (zi s), .int (zi 1), .int (zi 9)]) (st := []) (c_X12_in (qL Γ) g x s 1 9 (by first | assumption | omega) (by first | assumption | omega) (by first | assumption | omega)) k_X12_55 rfl (Nat.le_of_ble_eq_true rfl) (by decide) (by decide) ⟨by decide, by decide⟩ dX12_make_13 (fun pb2 => ?_) (fun pb2 => ?_)
    · skip
      refine z_if_eq (pc := 16) hO (tgt := 23) dX12_make_16 (by decide) (by decide) (fun h => absurd h (by decide)) (fun _ => ?_)
      refine z_iconst (pc := 19) hO dX12_make_19 ?_
      refine z_goto (pc := 20) hO (tgt := 24) dX12_make_20 (by decide) ?_
      refine z_istore_n (pc := 24) hO (lv' := [(3, .int (zi 1)), (0, .ref (gA g 50)), (1, .int (zi mk)), (2, .int (zi s))]) dX12_make_24 rfl (by decide) rfl ?_
      refine z_aload_n (pc := 25) hO 1 dX12_make_25 rfl rfl ?_
      refine z_iload_n (pc := 26) hO 0 dX12_make_26 rfl rfl ?_
      refine z_if_ne (pc := 27) hO (tgt := 34) dX12_make_27 (by decide) (by decide) (fun _ => ?_) (fun h => absurd h (by decide))
      refine z_iload_n (pc := 34) hO 2 dX12_make_34 rfl rfl ?_
      refine z_iload_n (pc := 35) hO 3 dX12_make_35 rfl rfl ?_
      refine z_callSB (pc := 36) hO (As := [.int (zi mk), .int (zi s)]) (st := [.ref (gA g 50)]) (c_X12_doesHold (qL Γ) g x mk s (by first | assumption | omega) (by first | assumption | omega)) k_X12_84 rfl (Nat.le_of_ble_eq_true rfl) (by decide) (by decide) ⟨by decide, by decide⟩ dX12_make_36 (fun pb3 => ?_) (fun pb3 => ?_)
      · skip
        have hpb := pb3
        refine z_if_eq (pc := 39) hO (tgt := 51) dX12_make_39 (by decide) (by decide) (fun h => absurd h (by decide)) (fun _ => ?_)
        refine z_aload_n (pc := 42) hO 1 dX12_make_42 rfl rfl ?_
        refine gf_X12_squares (pc := 43) hO f_X12_52 dX12_make_43 ?_
        refine z_bipush (pc := 46) hO dX12_make_46 (by decide) ?_
        refine z_icmp_ne (pc := 48) hO (tgt := 55) dX12_make_48 (by decide) (by omega) (by omega) (fun b4 => ?_) (fun b4 => ?_)
        · refine z_iconst (pc := 55) hO dX12_make_55 ?_
          refine z_callVIm (pc := 56) hO (As := [.int (zi 0)]) (st := []) (c_X12_isFine0 (qL Γ) g x 0 (by first | assumption | omega)) k_X12_63 isO_50 rfl (Nat.le_of_ble_eq_true rfl) (by decide) (by decide) ⟨by decide, by decide⟩ dX12_make_56 (fun m5 e6 => ?_)
          refine z_if_ne (pc := 59) hO (tgt := 64) dX12_make_59 (by decide) (by decide) (fun _ => ?_) (fun h => absurd h (by decide))
          first | (exfalso; omega) | exact absurd ⟨by omega, hpb, by omega⟩ hno
        · refine z_iconst (pc := 51) hO dX12_make_51 ?_
          refine z_goto (pc := 52) hO (tgt := 56) dX12_make_52 (by decide) ?_
          refine z_callVIm (pc := 56) hO (As := [.int (zi 2)]) (st := []) (c_X12_isFine1 (qL Γ) g x 2 (by first | assumption | omega)) k_X12_63 isO_50 rfl (Nat.le_of_ble_eq_true rfl) (by decide) (by decide) ⟨by decide, by decide⟩ dX12_make_56 (fun m7 e8 => ?_)
          refine z_if_ne (pc := 59) hO (tgt := 64) dX12_make_59 (by decide) (by decide) (fun h => absurd h (by decide)) (fun _ => ?_)
          refine z_iconst (pc := 62) hO dX12_make_62 ?_
          exact z_iret (pc := 63) hO hr hQ rfl dX12_make_63 (by first | (refine ⟨rfl, ?_⟩; first | (rw [exn_1 (by omega)]; assumption) | (rw [exn_2 (by first | trivial | omega) (by omega)]; assumption) | (rw [exn_3 (by first | trivial | omega) (by first | trivial | omega)]; assumption); done) | (exfalso; omega))
      · skip
        have hpb := pb3
        refine z_if_eq (pc := 39) hO (tgt := 51) dX12_make_39 (by decide) (by decide) (fun _ => ?_) (fun h => absurd h (by decide))
        refine z_iconst (pc := 51) hO dX12_make_51 ?_
        refine z_goto (pc := 52) hO (tgt := 56) dX12_make_52 (by decide) ?_
        refine z_callVIm (pc := 56) hO (As := [.int (zi 2)]) (st := []) (c_X12_isFine1 (qL Γ) g x 2 (by first | assumption | omega)) k_X12_63 isO_50 rfl (Nat.le_of_ble_eq_true rfl) (by decide) (by decide) ⟨by decide, by decide⟩ dX12_make_56 (fun m9 e10 => ?_)
        refine z_if_ne (pc := 59) hO (tgt := 64) dX12_make_59 (by decide) (by decide) (fun h => absurd h (by decide)) (fun _ => ?_)
        refine z_iconst (pc := 62) hO dX12_make_62 ?_
        exact z_iret (pc := 63) hO hr hQ rfl dX12_make_63 (by first | (refine ⟨rfl, ?_⟩; first | (rw [exn_1 (by omega)]; assumption) | (rw [exn_2 (by first | trivial | omega) (by omega)]; assumption) | (rw [exn_3 (by first | trivial | omega) (by first | trivial | omega)]; assumption); done) | (exfalso; omega))
    · skip
      refine z_if_eq (pc := 16) hO (tgt := 23) dX12_make_16 (by decide) (by decide) (fun _ => ?_) (fun h => absurd h (by decide))
      refine z_iconst (pc := 23) hO dX12_make_23 ?_
      refine z_istore_n (pc := 24) hO (lv' := [(3, .int (zi 0)), (0, .ref (gA g 50)), (1, .int (zi mk)), (2, .int (zi s))]) dX12_make_24 rfl (by decide) rfl ?_
      refine z_aload_n (pc := 25) hO 1 dX12_make_25 rfl rfl ?_
      refine z_iload_n (pc := 26) hO 0 dX12_make_26 rfl rfl ?_
      refine z_if_ne (pc := 27) hO (tgt := 34) dX12_make_27 (by decide) (by decide) (fun h => absurd h (by decide)) (fun _ => ?_)
      refine z_iconst (pc := 30) hO dX12_make_30 ?_
      refine z_goto (pc := 31) hO (tgt := 56) dX12_make_31 (by decide) ?_
      refine z_callVIm (pc := 56) hO (As := [.int (zi 1)]) (st := []) (c_X12_isFine1 (qL Γ) g x 1 (by first | assumption | omega)) k_X12_63 isO_50 rfl (Nat.le_of_ble_eq_true rfl) (by decide) (by decide) ⟨by decide, by decide⟩ dX12_make_56 (fun m11 e12 => ?_)
      refine z_if_ne (pc := 59) hO (tgt := 64) dX12_make_59 (by decide) (by decide) (fun h => absurd h (by decide)) (fun _ => ?_)
      refine z_iconst (pc := 62) hO dX12_make_62 ?_
      exact z_iret (pc := 63) hO hr hQ rfl dX12_make_63 (by first | (refine ⟨rfl, ?_⟩; first | (rw [exn_1 (by omega)]; assumption) | (rw [exn_2 (by first | trivial | omega) (by omega)]; assumption) | (rw [exn_3 (by first | trivial | omega) (by first | trivial | omega)]; assumption); done) | (exfalso; omega))
  · skip
    refine z_if_eq (pc := 6) hO (tgt := 23) dX12_make_6 (by decide) (by decide) (fun _ => ?_) (fun h => absurd h (by decide))
    refine z_iconst (pc := 23) hO dX12_make_23 ?_
    refine z_istore_n (pc := 24) hO (lv' := [(3, .int (zi 0)), (0, .ref (gA g 50)), (1, .int (zi mk)), (2, .int (zi s))]) dX12_make_24 rfl (by decide) rfl ?_
    refine z_aload_n (pc := 25) hO 1 dX12_make_25 rfl rfl ?_
    refine z_iload_n (pc := 26) hO 0 dX12_make_26 rfl rfl ?_
    refine z_if_ne (pc := 27) hO (tgt := 34) dX12_make_27 (by decide) (by decide) (fun h => absurd h (by decide)) (fun _ => ?_)
    refine z_iconst (pc := 30) hO dX12_make_30 ?_
    refine z_goto (pc := 31) hO (tgt := 56) dX12_make_31 (by decide) ?_
    refine z_callVIm (pc := 56) hO (As := [.int (zi 1)]) (st := []) (c_X12_isFine1 (qL Γ) g x 1 (by first | assumption | omega)) k_X12_63 isO_50 rfl (Nat.le_of_ble_eq_true rfl) (by decide) (by decide) ⟨by decide, by decide⟩ dX12_make_56 (fun m13 e14 => ?_)
    refine z_if_ne (pc := 59) hO (tgt := 64) dX12_make_59 (by decide) (by decide) (fun h => absurd h (by decide)) (fun _ => ?_)
    refine z_iconst (pc := 62) hO dX12_make_62 ?_
    exact z_iret (pc := 63) hO hr hQ rfl dX12_make_63 (by first | (refine ⟨rfl, ?_⟩; first | (rw [exn_1 (by omega)]; assumption) | (rw [exn_2 (by first | trivial | omega) (by omega)]; assumption) | (rw [exn_3 (by first | trivial | omega) (by first | trivial | omega)]; assumption); done) | (exfalso; omega))

set_option maxHeartbeats 4000000 in
theorem c_X12_make (l : Launch) (g : Gl) (x : Me) (mk : Int) (s : Int)  (hM : MS x) (r_mk : -2147483648 ≤ mk ∧ mk < 2147483648) (r_s : -2147483648 ≤ s ∧ s < 2147483648) (hok : ((0 ≤ mk ∧ mk ≤ 3) ∧ 1 ≤ s ∧ s ≤ 9) ∧ (hld mk s ∧ x 50 1 < 8)) : ctQ l g yX12_make cX12_make 4 (some .int) 4 94 [.ref (gA g 50), .int (zi mk), .int (zi s)] x (QIu g (fun z x' => z = x 50 1 ∧ NM x x' s (mkf mk s))) := by
  refine ct_start (own := RX12) (lv := [(0, .ref (gA g 50)), (1, .int (zi mk)), (2, .int (zi s))]) (plainFor_of_name (by decide)) rfl (Nat.le_of_ble_eq_true rfl) rfl ?_
  intro Γ hΓ hO hr hQ _
  have hM1 := hM.1
  refine z_iload_n (pc := 0) hO 1 dX12_make_0 rfl rfl ?_
  refine z_iconst (pc := 1) hO dX12_make_1 ?_
  refine z_iconst (pc := 2) hO dX12_make_2 ?_
  refine z_callSB (pc := 3) hO (As := [.int (zi mk), .int (zi 0), .int (zi 3)]) (st := []) (c_X12_in (qL Γ) g x mk 0 3 (by first | assumption | omega) (by first | assumption | omega) (by first | assumption | omega)) k_X12_55 rfl (Nat.le_of_ble_eq_true rfl) (by decide) (by decide) ⟨by decide, by decide⟩ dX12_make_3 (fun pb1 => ?_) (fun pb1 => ?_)
  · skip
    refine z_if_eq (pc := 6) hO (tgt := 23) dX12_make_6 (by decide) (by decide) (fun h => absurd h (by decide)) (fun _ => ?_)
    refine z_iload_n (pc := 9) hO 2 dX12_make_9 rfl rfl ?_
    refine z_iconst (pc := 10) hO dX12_make_10 ?_
    refine z_bipush (pc := 11) hO dX12_make_11 (by decide) ?_
    refine z_callSB (pc := 13) hO (As := [.int (zi s), .int (zi 1), .int (zi 9)]) (st := []) (c_X12_in (qL Γ) g x s 1 9 (by first | assumption | omega) (by first | assumption | omega) (by first | assumption | omega)) k_X12_55 rfl (Nat.le_of_ble_eq_true rfl) (by decide) (by decide) ⟨by decide, by decide⟩ dX12_make_13 (fun pb2 => ?_) (fun pb2 => ?_)
    · skip
      refine z_if_eq (pc := 16) hO (tgt := 23) dX12_make_16 (by decide) (by decide) (fun h => absurd h (by decide)) (fun _ => ?_)
      refine z_iconst (pc := 19) hO dX12_make_19 ?_
      refine z_goto (pc := 20) hO (tgt := 24) dX12_make_20 (by decide) ?_
      refine z_istore_n (pc := 24) hO (lv' := [(3, .int (zi 1)), (0, .ref (gA g 50)), (1, .int (zi mk)), (2, .int (zi s))]) dX12_make_24 rfl (by decide) rfl ?_
      refine z_aload_n (pc := 25) hO 1 dX12_make_25 rfl rfl ?_
      refine z_iload_n (pc := 26) hO 0 dX12_make_26 rfl rfl ?_
      refine z_if_ne (pc := 27) hO (tgt := 34) dX12_make_27 (by decide) (by decide) (fun _ => ?_) (fun h => absurd h (by decide))
      refine z_iload_n (pc := 34) hO 2 dX12_make_34 rfl rfl ?_
      refine z_iload_n (pc := 35) hO 3 dX12_make_35 rfl rfl ?_
      refine z_callSB (pc := 36) hO (As := [.int (zi mk), .int (zi s)]) (st := [.ref (gA g 50)]) (c_X12_doesHold (qL Γ) g x mk s (by first | assumption | omega) (by first | assumption | omega)) k_X12_84 rfl (Nat.le_of_ble_eq_true rfl) (by decide) (by decide) ⟨by decide, by decide⟩ dX12_make_36 (fun pb3 => ?_) (fun pb3 => ?_)
      · skip
        refine z_if_eq (pc := 39) hO (tgt := 51) dX12_make_39 (by decide) (by decide) (fun h => absurd h (by decide)) (fun _ => ?_)
        refine z_aload_n (pc := 42) hO 1 dX12_make_42 rfl rfl ?_
        refine gf_X12_squares (pc := 43) hO f_X12_52 dX12_make_43 ?_
        refine z_bipush (pc := 46) hO dX12_make_46 (by decide) ?_
        refine z_icmp_ne (pc := 48) hO (tgt := 55) dX12_make_48 (by decide) (by omega) (by omega) (fun b4 => ?_) (fun b4 => ?_)
        · refine z_iconst (pc := 55) hO dX12_make_55 ?_
          refine z_callVIm (pc := 56) hO (As := [.int (zi 0)]) (st := []) (c_X12_isFine0 (qL Γ) g x 0 (by first | assumption | omega)) k_X12_63 isO_50 rfl (Nat.le_of_ble_eq_true rfl) (by decide) (by decide) ⟨by decide, by decide⟩ dX12_make_56 (fun m5 e6 => ?_)
          refine z_if_ne (pc := 59) hO (tgt := 64) dX12_make_59 (by decide) (by decide) (fun _ => ?_) (fun h => absurd h (by decide))
          have hth : m5 = up x 50 0 0 := by assumption
          have hsq := sq9 (n := s) (by omega)
          refine z_aload_n (pc := 64) hO 1 dX12_make_64 rfl rfl ?_
          refine z_callVV (pc := 65) hO (As := []) (st := []) (c_X12_wipe (qL Γ) g m5 ) k_X12_66 isO_50 rfl (Nat.le_of_ble_eq_true rfl) (by decide) (by decide) ⟨by decide, by decide⟩ dX12_make_65 (fun m8 h9 => ?_)
          rw [hth] at h9
          have hw2 : ∀ a, a ≠ 53 → m8 a = up x 50 0 0 a := fun a ha => by rw [h9]; exact clr_i _ 53 81 ha
          have hw3 : n53 m8 = fun _ => 0 := by rw [h9]; exact n53_clr _
          refine z_iload_n (pc := 68) hO 2 dX12_make_68 rfl rfl ?_
          refine z_if_ne (pc := 69) hO (tgt := 80) dX12_make_69 (by decide) (by omega) (fun b10 => ?_) (fun b10 => ?_)
          · refine z_iload_n (pc := 80) hO 2 dX12_make_80 rfl rfl ?_
            refine z_iconst (pc := 81) hO dX12_make_81 ?_
            refine z_icmp_ne (pc := 82) hO (tgt := 93) dX12_make_82 (by decide) (by omega) (by omega) (fun b11 => ?_) (fun b11 => ?_)
            · refine z_iload_n (pc := 93) hO 2 dX12_make_93 rfl rfl ?_
              refine z_iconst (pc := 94) hO dX12_make_94 ?_
              refine z_icmp_ne (pc := 95) hO (tgt := 106) dX12_make_95 (by decide) (by omega) (by omega) (fun b12 => ?_) (fun b12 => ?_)
              · refine z_aload_n (pc := 106) hO 1 dX12_make_106 rfl rfl ?_
                refine z_callVV (pc := 107) hO (As := []) (st := []) (c_X12_lux (qL Γ) g m8 ) k_X12_94 isO_50 rfl (Nat.le_of_ble_eq_true rfl) (by decide) (by decide) ⟨by decide, by decide⟩ dX12_make_107 (fun m14 h15 => ?_)
                have hq9 := h15
                have hmk : n53 m14 = mkf mk s := by rw [hq9.1]; unfold mkf; rw [if_neg (by omega), if_neg (by omega), if_neg (by omega)]
                have hmf : ∀ a, a ≠ 53 → a ≠ 54 → m14 a = up x 50 0 0 a := fun a a1 a2 => by rw [hq9.2 a a1 a2, hw2 a a1]
                have hm0 : m14 50 0 = 0 := by rw [hmf 50 (by omega) (by omega), up_s]
                have hm1 : m14 50 1 = x 50 1 := by rw [hmf 50 (by omega) (by omega), up_n _ _ (by omega)]
                have h51 : m14 51 = x 51 := by rw [hmf 51 (by omega) (by omega), up_i _ _ _ (by omega)]
                have h52 : m14 52 = x 52 := by rw [hmf 52 (by omega) (by omega), up_i _ _ _ (by omega)]
                refine z_aload_n (pc := 110) hO 1 dX12_make_110 rfl rfl ?_
                refine z_iload_n (pc := 111) hO 3 dX12_make_111 rfl rfl ?_
                refine z_callVI (pc := 112) hO (As := [.int (zi s)]) (st := []) (c_X12_lay (qL Γ) g m14 s (by exact MS_of hM hm1 h51 h52) (by rw [hm1]; omega) (by omega)) k_X12_69 isO_50 rfl (Nat.le_of_ble_eq_true rfl) (by decide) (by decide) ⟨by decide, by decide⟩ dX12_make_112 (fun z16 m17 h18 => ?_)
                have hly := h18
                exact z_iret (pc := 115) hO hr hQ rfl dX12_make_115 (by first | (refine ⟨by rw [hly.1, hm1], LY_NM hly.2 hm0 hm1 h51 h52 hmk (fun p hp => mkf_out (by omega) hok.2.1 hp) (fun a ha => by rw [hmf a (by omega) (by omega), up_i _ _ _ (by omega)])⟩; done) | (exfalso; omega))
              · refine z_aload_n (pc := 98) hO 1 dX12_make_98 rfl rfl ?_
                refine z_iload_n (pc := 99) hO 3 dX12_make_99 rfl rfl ?_
                refine z_callVV (pc := 100) hO (As := [.int (zi s)]) (st := []) (c_X12_digits (qL Γ) g m8 s (by first | assumption | omega)) k_X12_91 isO_50 rfl (Nat.le_of_ble_eq_true rfl) (by decide) (by decide) ⟨by decide, by decide⟩ dX12_make_100 (fun m20 h21 => ?_)
                have hq9 := h21
                have hmk : n53 m20 = mkf mk s := by rw [n53_mk hq9.1 hq9.2.1 hw3 (by omega) (fun p hp => if_neg hp)]; unfold mkf; rw [if_neg (by omega), if_neg (by omega), if_pos (by omega)]
                have hmf : ∀ a, a ≠ 53 → a ≠ 54 → m20 a = up x 50 0 0 a := fun a a1 a2 => by rw [hq9.2.2 a a1, hw2 a a1]
                refine z_goto (pc := 103) hO (tgt := 110) dX12_make_103 (by decide) ?_
                have hm0 : m20 50 0 = 0 := by rw [hmf 50 (by omega) (by omega), up_s]
                have hm1 : m20 50 1 = x 50 1 := by rw [hmf 50 (by omega) (by omega), up_n _ _ (by omega)]
                have h51 : m20 51 = x 51 := by rw [hmf 51 (by omega) (by omega), up_i _ _ _ (by omega)]
                have h52 : m20 52 = x 52 := by rw [hmf 52 (by omega) (by omega), up_i _ _ _ (by omega)]
                refine z_aload_n (pc := 110) hO 1 dX12_make_110 rfl rfl ?_
                refine z_iload_n (pc := 111) hO 3 dX12_make_111 rfl rfl ?_
                refine z_callVI (pc := 112) hO (As := [.int (zi s)]) (st := []) (c_X12_lay (qL Γ) g m20 s (by exact MS_of hM hm1 h51 h52) (by rw [hm1]; omega) (by omega)) k_X12_69 isO_50 rfl (Nat.le_of_ble_eq_true rfl) (by decide) (by decide) ⟨by decide, by decide⟩ dX12_make_112 (fun z22 m23 h24 => ?_)
                have hly := h24
                exact z_iret (pc := 115) hO hr hQ rfl dX12_make_115 (by first | (refine ⟨by rw [hly.1, hm1], LY_NM hly.2 hm0 hm1 h51 h52 hmk (fun p hp => mkf_out (by omega) hok.2.1 hp) (fun a ha => by rw [hmf a (by omega) (by omega), up_i _ _ _ (by omega)])⟩; done) | (exfalso; omega))
            · refine z_aload_n (pc := 85) hO 1 dX12_make_85 rfl rfl ?_
              refine z_iload_n (pc := 86) hO 3 dX12_make_86 rfl rfl ?_
              refine z_callVV (pc := 87) hO (As := [.int (zi s)]) (st := []) (c_X12_cross (qL Γ) g m8 s (by first | assumption | omega)) k_X12_88 isO_50 rfl (Nat.le_of_ble_eq_true rfl) (by decide) (by decide) ⟨by decide, by decide⟩ dX12_make_87 (fun m26 h27 => ?_)
              have hq9 := h27
              have hmk : n53 m26 = mkf mk s := by rw [n53_mk hq9.1 hq9.2.1 hw3 (by omega) (fun p hp => if_neg hp)]; unfold mkf; rw [if_neg (by omega), if_pos (by omega)]
              have hmf : ∀ a, a ≠ 53 → a ≠ 54 → m26 a = up x 50 0 0 a := fun a a1 a2 => by rw [hq9.2.2 a a1, hw2 a a1]
              refine z_goto (pc := 90) hO (tgt := 110) dX12_make_90 (by decide) ?_
              have hm0 : m26 50 0 = 0 := by rw [hmf 50 (by omega) (by omega), up_s]
              have hm1 : m26 50 1 = x 50 1 := by rw [hmf 50 (by omega) (by omega), up_n _ _ (by omega)]
              have h51 : m26 51 = x 51 := by rw [hmf 51 (by omega) (by omega), up_i _ _ _ (by omega)]
              have h52 : m26 52 = x 52 := by rw [hmf 52 (by omega) (by omega), up_i _ _ _ (by omega)]
              refine z_aload_n (pc := 110) hO 1 dX12_make_110 rfl rfl ?_
              refine z_iload_n (pc := 111) hO 3 dX12_make_111 rfl rfl ?_
              refine z_callVI (pc := 112) hO (As := [.int (zi s)]) (st := []) (c_X12_lay (qL Γ) g m26 s (by exact MS_of hM hm1 h51 h52) (by rw [hm1]; omega) (by omega)) k_X12_69 isO_50 rfl (Nat.le_of_ble_eq_true rfl) (by decide) (by decide) ⟨by decide, by decide⟩ dX12_make_112 (fun z28 m29 h30 => ?_)
              have hly := h30
              exact z_iret (pc := 115) hO hr hQ rfl dX12_make_115 (by first | (refine ⟨by rw [hly.1, hm1], LY_NM hly.2 hm0 hm1 h51 h52 hmk (fun p hp => mkf_out (by omega) hok.2.1 hp) (fun a ha => by rw [hmf a (by omega) (by omega), up_i _ _ _ (by omega)])⟩; done) | (exfalso; omega))
          · refine z_aload_n (pc := 72) hO 1 dX12_make_72 rfl rfl ?_
            refine z_iload_n (pc := 73) hO 3 dX12_make_73 rfl rfl ?_
            refine z_callVV (pc := 74) hO (As := [.int (zi s)]) (st := []) (c_X12_siege (qL Γ) g m8 s (by first | assumption | omega)) k_X12_80 isO_50 rfl (Nat.le_of_ble_eq_true rfl) (by decide) (by decide) ⟨by decide, by decide⟩ dX12_make_74 (fun m32 h33 => ?_)
            have hq9 := h33
            have hmk : n53 m32 = mkf mk s := by rw [hq9.1]; unfold mkf; rw [if_pos (by omega)]
            have hmf : ∀ a, a ≠ 53 → a ≠ 54 → m32 a = up x 50 0 0 a := fun a a1 a2 => by rw [hq9.2 a a1, hw2 a a1]
            refine z_goto (pc := 77) hO (tgt := 110) dX12_make_77 (by decide) ?_
            have hm0 : m32 50 0 = 0 := by rw [hmf 50 (by omega) (by omega), up_s]
            have hm1 : m32 50 1 = x 50 1 := by rw [hmf 50 (by omega) (by omega), up_n _ _ (by omega)]
            have h51 : m32 51 = x 51 := by rw [hmf 51 (by omega) (by omega), up_i _ _ _ (by omega)]
            have h52 : m32 52 = x 52 := by rw [hmf 52 (by omega) (by omega), up_i _ _ _ (by omega)]
            refine z_aload_n (pc := 110) hO 1 dX12_make_110 rfl rfl ?_
            refine z_iload_n (pc := 111) hO 3 dX12_make_111 rfl rfl ?_
            refine z_callVI (pc := 112) hO (As := [.int (zi s)]) (st := []) (c_X12_lay (qL Γ) g m32 s (by exact MS_of hM hm1 h51 h52) (by rw [hm1]; omega) (by omega)) k_X12_69 isO_50 rfl (Nat.le_of_ble_eq_true rfl) (by decide) (by decide) ⟨by decide, by decide⟩ dX12_make_112 (fun z34 m35 h36 => ?_)
            have hly := h36
            exact z_iret (pc := 115) hO hr hQ rfl dX12_make_115 (by first | (refine ⟨by rw [hly.1, hm1], LY_NM hly.2 hm0 hm1 h51 h52 hmk (fun p hp => mkf_out (by omega) hok.2.1 hp) (fun a ha => by rw [hmf a (by omega) (by omega), up_i _ _ _ (by omega)])⟩; done) | (exfalso; omega))
        · refine z_iconst (pc := 51) hO dX12_make_51 ?_
          refine z_goto (pc := 52) hO (tgt := 56) dX12_make_52 (by decide) ?_
          refine z_callVIm (pc := 56) hO (As := [.int (zi 2)]) (st := []) (c_X12_isFine1 (qL Γ) g x 2 (by first | assumption | omega)) k_X12_63 isO_50 rfl (Nat.le_of_ble_eq_true rfl) (by decide) (by decide) ⟨by decide, by decide⟩ dX12_make_56 (fun m37 e38 => ?_)
          refine z_if_ne (pc := 59) hO (tgt := 64) dX12_make_59 (by decide) (by decide) (fun h => absurd h (by decide)) (fun _ => ?_)
          refine z_iconst (pc := 62) hO dX12_make_62 ?_
          exact z_iret (pc := 63) hO hr hQ rfl dX12_make_63 (by first | (refine ⟨by rw [hly.1, hm1], LY_NM hly.2 hm0 hm1 h51 h52 hmk (fun p hp => mkf_out (by omega) hok.2.1 hp) (fun a ha => by rw [hmf a (by omega) (by omega), up_i _ _ _ (by omega)])⟩; done) | (exfalso; omega))
      · skip
        exact absurd hok.2.1 pb3
    · skip
      exfalso; omega
  · skip
    exfalso; omega

