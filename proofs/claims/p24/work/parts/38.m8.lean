set_option maxHeartbeats 600000 in
theorem c_X8_lineThrough (l : Launch) (g : Gl) (x : Me) (p : Int) (w : Int) (n : Int) (hn : 1 ≤ n ∧ n ≤ 4) (h7 : x 30 7 = n) (hp : 0 ≤ p ∧ p < 16) (hw : 0 ≤ w ∧ w < 4) : ctQ l g yX8_lineThrough cX8_lineThrough 5 (some .int) 2 41 [.ref (gA g 30), .int (zi p), .int (zi w)] x (QIu g (fun z x' => z = (lth n p w) ∧ x' = x)) := by
  refine ct_start (own := RX8) (lv := [(0, .ref (gA g 30)), (1, .int (zi p)), (2, .int (zi w))]) (plainFor_of_name (by decide)) rfl (Nat.le_of_ble_eq_true rfl) rfl ?_
  intro Γ hΓ hO hr hQ _
  have hd0 : 0 ≤ p / n := Int.ediv_nonneg (by omega) (by omega)
  have hd1 : p / n ≤ p := Int.ediv_le_self _ (by omega)
  have hm0 := Int.emod_nonneg p (show n ≠ 0 by omega)
  have hm1 := Int.emod_lt_of_pos p (show 0 < n by omega)
  have hd2 : 0 ≤ p / x 30 7 ∧ p / x 30 7 < 16 := by rw [h7]; omega
  have hm2 : 0 ≤ p % x 30 7 ∧ p % x 30 7 < 4 := by rw [h7]; omega
  refine z_aload_n (pc := 0) hO 0 dX8_lineThrough_0 rfl rfl ?_
  refine gf_X8_side (pc := 1) hO f_X8_31 dX8_lineThrough_1 ?_
  refine z_iload_n (pc := 4) hO 1 dX8_lineThrough_4 rfl rfl ?_
  refine z_callSIp (pc := 5) hO (As := [.int (zi (x 30 7)), .int (zi p)]) (st := []) (c_X7_rowOf (qL Γ) g x (x 30 7) p (by first | assumption | omega) (by first | assumption | omega)) k_X8_76 rfl (Nat.le_of_ble_eq_true rfl) (by decide) (by decide) ⟨by decide, by decide⟩ dX8_lineThrough_5 ?_
  refine z_istore_n (pc := 8) hO (lv' := [(3, .int (zi (p / (x 30 7)))), (0, .ref (gA g 30)), (1, .int (zi p)), (2, .int (zi w))]) dX8_lineThrough_8 rfl (by decide) rfl ?_
  refine z_aload_n (pc := 9) hO 1 dX8_lineThrough_9 rfl rfl ?_
  refine gf_X8_side (pc := 10) hO f_X8_31 dX8_lineThrough_10 ?_
  refine z_iload_n (pc := 13) hO 2 dX8_lineThrough_13 rfl rfl ?_
  refine z_callSIp (pc := 14) hO (As := [.int (zi (x 30 7)), .int (zi p)]) (st := []) (c_X7_columnOf (qL Γ) g x (x 30 7) p (by first | assumption | omega) (by first | assumption | omega)) k_X8_81 rfl (Nat.le_of_ble_eq_true rfl) (by decide) (by decide) ⟨by decide, by decide⟩ dX8_lineThrough_14 ?_
  refine z_istore (pc := 17) hO (lv' := [(4, .int (zi (p % (x 30 7)))), (3, .int (zi (p / (x 30 7)))), (0, .ref (gA g 30)), (1, .int (zi p)), (2, .int (zi w))]) dX8_lineThrough_17 (by decide) rfl ?_
  refine z_iload_n (pc := 19) hO 4 dX8_lineThrough_19 rfl rfl ?_
  have w1 : w = 0 ∨ w = 1 ∨ w = 2 ∨ (w ≠ 0 ∧ w ≠ 1 ∧ w ≠ 2) := by omega
  rcases w1 with w1 | w1 | w1 | w1
  · refine z_tabIn (pc := 20) hO (tgt := 48) dX8_lineThrough_20 (by omega) (by omega) (by omega) (by first | (rw [w1]; done) | (rw [w1]; rfl)) (by decide) ?_
    refine z_iload_n (pc := 48) hO 1 dX8_lineThrough_48 rfl rfl ?_
    exact z_iret (pc := 49) hO hr hQ rfl dX8_lineThrough_49 ⟨by first | (rw [h7] at *; unfold lth; simp [*]; done) | (exfalso; omega), rfl⟩
  · refine z_tabIn (pc := 20) hO (tgt := 50) dX8_lineThrough_20 (by omega) (by omega) (by omega) (by first | (rw [w1]; done) | (rw [w1]; rfl)) (by decide) ?_
    refine z_aload_n (pc := 50) hO 2 dX8_lineThrough_50 rfl rfl ?_
    refine gf_X8_side (pc := 51) hO f_X8_31 dX8_lineThrough_51 ?_
    refine z_iload (pc := 54) hO 0 dX8_lineThrough_54 rfl ?_
    refine z_iadd (pc := 56) hO dX8_lineThrough_56 ?_
    exact z_iret (pc := 57) hO hr hQ rfl dX8_lineThrough_57 ⟨by first | (rw [h7] at *; unfold lth; simp [*]; done) | (exfalso; omega), rfl⟩
  · refine z_tabIn (pc := 20) hO (tgt := 58) dX8_lineThrough_20 (by omega) (by omega) (by omega) (by first | (rw [w1]; done) | (rw [w1]; rfl)) (by decide) ?_
    refine z_iload_n (pc := 58) hO 1 dX8_lineThrough_58 rfl rfl ?_
    refine z_iload (pc := 59) hO 0 dX8_lineThrough_59 rfl ?_
    refine z_icmp_ne (pc := 61) hO (tgt := 73) dX8_lineThrough_61 (by decide) (by omega) (by omega) (fun b2 => ?_) (fun b2 => ?_)
    · refine z_iconst (pc := 73) hO dX8_lineThrough_73 ?_
      exact z_iret (pc := 74) hO hr hQ rfl dX8_lineThrough_74 ⟨by first | (rw [h7] at *; unfold lth; simp [*]; done) | (exfalso; omega), rfl⟩
    · refine z_iconst (pc := 64) hO dX8_lineThrough_64 ?_
      refine z_aload_n (pc := 65) hO 2 dX8_lineThrough_65 rfl rfl ?_
      refine gf_X8_side (pc := 66) hO f_X8_31 dX8_lineThrough_66 ?_
      refine z_imul (pc := 69) hO dX8_lineThrough_69 ?_
      refine z_goto (pc := 70) hO (tgt := 74) dX8_lineThrough_70 (by decide) ?_
      exact z_iret (pc := 74) hO hr hQ rfl dX8_lineThrough_74 ⟨by first | (rw [h7] at *; unfold lth; simp [*]; done) | (exfalso; omega), rfl⟩
  · refine z_tabOut (pc := 20) hO (tgt := 75) dX8_lineThrough_20 (by omega) (by omega) (by decide) ?_
    refine z_iload_n (pc := 75) hO 1 dX8_lineThrough_75 rfl rfl ?_
    refine z_iload (pc := 76) hO 0 dX8_lineThrough_76 rfl ?_
    refine z_iadd (pc := 78) hO dX8_lineThrough_78 ?_
    refine z_aload_n (pc := 79) hO 2 dX8_lineThrough_79 rfl rfl ?_
    refine gf_X8_side (pc := 80) hO f_X8_31 dX8_lineThrough_80 ?_
    refine z_iconst (pc := 83) hO dX8_lineThrough_83 ?_
    refine z_isub (pc := 84) hO dX8_lineThrough_84 ?_
    refine z_icmp_ne (pc := 85) hO (tgt := 99) dX8_lineThrough_85 (by decide) (by omega) (by omega) (fun b3 => ?_) (fun b3 => ?_)
    · refine z_iconst (pc := 99) hO dX8_lineThrough_99 ?_
      exact z_iret (pc := 100) hO hr hQ rfl dX8_lineThrough_100 ⟨by first | (rw [h7] at *; unfold lth; simp [*]; done) | (exfalso; omega), rfl⟩
    · refine z_iconst (pc := 88) hO dX8_lineThrough_88 ?_
      refine z_aload_n (pc := 89) hO 2 dX8_lineThrough_89 rfl rfl ?_
      refine gf_X8_side (pc := 90) hO f_X8_31 dX8_lineThrough_90 ?_
      refine z_imul (pc := 93) hO dX8_lineThrough_93 ?_
      refine z_iconst (pc := 94) hO dX8_lineThrough_94 ?_
      refine z_iadd (pc := 95) hO dX8_lineThrough_95 ?_
      refine z_goto (pc := 96) hO (tgt := 100) dX8_lineThrough_96 (by decide) ?_
      exact z_iret (pc := 100) hO hr hQ rfl dX8_lineThrough_100 ⟨by first | (rw [h7] at *; unfold lth; simp [*]; done) | (exfalso; omega), rfl⟩

set_option maxHeartbeats 600000 in
theorem c_X8_fits (l : Launch) (g : Gl) (x : Me)  (n : Int) (G : Int → Int) (hB : SB x n) (hT : ST x n G) (hG : GR n G) (h9 : x 30 9 = 0 ∨ x 30 9 = 1) : ctQ l g yX8_fits cX8_fits 2 (some .boolean) 2 41 [.ref (gA g 30)] x (QIu g (fun z x' => ((z = 1 ∧ (x 30 9 = 0 ∧ ∀ l, 0 ≤ l → l < 2 * n + 2 → lnf n G l)) ∨ (z = 0 ∧ ¬ (x 30 9 = 0 ∧ ∀ l, 0 ≤ l → l < 2 * n + 2 → lnf n G l))) ∧ x' = x)) := by
  refine ct_start (own := RX8) (lv := [(0, .ref (gA g 30))]) (plainFor_of_name (by decide)) rfl (Nat.le_of_ble_eq_true rfl) rfl ?_
  intro Γ hΓ hO hr hQ _
  obtain ⟨hn, s7, s8, s35⟩ := id hB
  have h4 := sq4 hn
  have hdu := du_rng hn
  have hlr : ∀ l, 0 ≤ l → l < 2 * n + 2 → (0 ≤ x 33 l ∧ x 33 l ≤ 81000) ∧ (0 ≤ x 34 l ∧ x 34 l ≤ 81) := fun l a b => by
      have q := hT.1 l a b
      rw [q.1, q.2]
      exact ⟨lsm_rng h4.2.2.2 (fun p a b => by have := hG p a b; omega) l, lck_rng h4.2.2.2 l⟩
  refine z_aload_n (pc := 0) hO 0 dX8_fits_0 rfl rfl ?_
  refine gf_X8_isClashing (pc := 1) hO f_X8_62 dX8_fits_1 ?_
  refine z_if_eq (pc := 4) hO (tgt := 9) dX8_fits_4 (by decide) (by omega) (fun b1 => ?_) (fun b1 => ?_)
  · refine z_iconst (pc := 9) hO dX8_fits_9 ?_
    refine z_istore_n (pc := 10) hO (lv' := [(1, .int (zi 0)), (0, .ref (gA g 30))]) dX8_fits_10 rfl (by decide) rfl ?_
    have L11 : ∀ (N : Nat) (i : Int), (2 * n + 2 - i).toNat < N → (0 ≤ i ∧ i ≤ 2 * n + 2) → (∀ l, 0 ≤ l → l < i → lnf n G l) → Zz Γ g 2 0 0 x 11 [(0, .ref (gA g 30)), (1, .int (zi i))] [] := by
      intro N
      induction N with
      | zero => intro i hm; exact absurd hm (Nat.not_lt_zero _)
      | succ N ih11 =>
        intro i hm h0 hA
        refine z_iload_n (pc := 11) hO 1 dX8_fits_11 rfl rfl ?_
        refine z_iconst (pc := 12) hO dX8_fits_12 ?_
        refine z_aload_n (pc := 13) hO 0 dX8_fits_13 rfl rfl ?_
        refine gf_X8_side (pc := 14) hO f_X8_31 dX8_fits_14 ?_
        refine z_imul (pc := 17) hO dX8_fits_17 ?_
        refine z_iconst (pc := 18) hO dX8_fits_18 ?_
        refine z_iadd (pc := 19) hO dX8_fits_19 ?_
        refine z_icmp_ge (pc := 20) hO (tgt := 77) dX8_fits_20 (by decide) (by omega) (by omega) (fun b2 => ?_) (fun b2 => ?_)
        · refine z_iconst (pc := 77) hO dX8_fits_77 ?_
          exact z_iret (pc := 78) hO hr hQ rfl dX8_fits_78 ⟨Or.inl ⟨rfl, by first | (exact ⟨by assumption, fun l a b => hA l a (by omega)⟩; done) | (exfalso; omega)⟩, rfl⟩
        · have hlr1 := hlr i (by omega) (by omega)
          have hT1 := hT.1 i (by omega) (by omega)
          refine z_aload_n (pc := 23) hO 0 dX8_fits_23 rfl rfl ?_
          refine z_iload_n (pc := 24) hO 1 dX8_fits_24 rfl rfl ?_
          refine z_callVB (pc := 25) hO (As := [.int (zi i)]) (st := []) (c_X8_isLine (qL Γ) g x i (by first | assumption | omega)) k_X8_126 isO_30 rfl (Nat.le_of_ble_eq_true rfl) (by decide) (by decide) ⟨by decide, by decide⟩ dX8_fits_25 (fun pb3 => ?_) (fun pb3 => ?_)
          · skip
            refine z_if_eq (pc := 28) hO (tgt := 77) dX8_fits_28 (by decide) (by decide) (fun h => absurd h (by decide)) (fun _ => ?_)
            refine z_aload_n (pc := 31) hO 0 dX8_fits_31 rfl rfl ?_
            refine gf_X8_lacks (pc := 32) hO f_X8_22 dX8_fits_32 ?_
            refine z_iload_n (pc := 35) hO 1 dX8_fits_35 rfl rfl ?_
            refine z_iald (pc := 36) hO isI_34 (by omega) dX8_fits_36 ?_
            refine z_if_ne (pc := 37) hO (tgt := 56) dX8_fits_37 (by decide) (by omega) (fun b4 => ?_) (fun b4 => ?_)
            · refine z_aload_n (pc := 56) hO 0 dX8_fits_56 rfl rfl ?_
              refine gf_X8_sums (pc := 57) hO f_X8_19 dX8_fits_57 ?_
              refine z_iload_n (pc := 60) hO 1 dX8_fits_60 rfl rfl ?_
              refine z_iald (pc := 61) hO isI_33 (by omega) dX8_fits_61 ?_
              refine z_aload_n (pc := 62) hO 0 dX8_fits_62 rfl rfl ?_
              refine gf_X8_due (pc := 63) hO f_X8_66 dX8_fits_63 ?_
              refine z_icmp_lt (pc := 66) hO (tgt := 71) dX8_fits_66 (by decide) (by omega) (by omega) (fun b5 => ?_) (fun b5 => ?_)
              · refine z_iinc (pc := 71) hO 1 (lv' := [(1, .int (zi (i + 1))), (0, .ref (gA g 30))]) dX8_fits_71 rfl (by decide) rfl ?_
                refine z_goto (pc := 74) hO (tgt := 11) dX8_fits_74 (by decide) ?_
                refine z_sub [1, 0] rfl ?_
                exact ih11 (i + 1) (by omega) (by omega) (by intro l a b; exact dite (l = i) (fun e => by subst e; have q := hT.1 l a (by omega); unfold lnf; rw [← q.1, ← q.2]; constructor <;> intro c <;> omega) (fun e => hA l a (by omega)))
              · refine z_iconst (pc := 69) hO dX8_fits_69 ?_
                exact z_iret (pc := 70) hO hr hQ rfl dX8_fits_70 ⟨Or.inr ⟨rfl, by first | (intro h; have h2 := h.2 i (by omega) (by omega); unfold lnf at h2; have h3 := h2.1; have h4 := h2.2; rw [← hT1.1, ← hT1.2] at h3 h4; by_cases c : x 34 i = 0; (have := h3 c; omega); (have := h4 c; omega); done) | (exfalso; omega)⟩, rfl⟩
            · refine z_aload_n (pc := 40) hO 0 dX8_fits_40 rfl rfl ?_
              refine gf_X8_sums (pc := 41) hO f_X8_19 dX8_fits_41 ?_
              refine z_iload_n (pc := 44) hO 1 dX8_fits_44 rfl rfl ?_
              refine z_iald (pc := 45) hO isI_33 (by omega) dX8_fits_45 ?_
              refine z_aload_n (pc := 46) hO 0 dX8_fits_46 rfl rfl ?_
              refine gf_X8_due (pc := 47) hO f_X8_66 dX8_fits_47 ?_
              refine z_icmp_eq (pc := 50) hO (tgt := 71) dX8_fits_50 (by decide) (by omega) (by omega) (fun b6 => ?_) (fun b6 => ?_)
              · refine z_iinc (pc := 71) hO 1 (lv' := [(1, .int (zi (i + 1))), (0, .ref (gA g 30))]) dX8_fits_71 rfl (by decide) rfl ?_
                refine z_goto (pc := 74) hO (tgt := 11) dX8_fits_74 (by decide) ?_
                refine z_sub [1, 0] rfl ?_
                exact ih11 (i + 1) (by omega) (by omega) (by intro l a b; exact dite (l = i) (fun e => by subst e; have q := hT.1 l a (by omega); unfold lnf; rw [← q.1, ← q.2]; constructor <;> intro c <;> omega) (fun e => hA l a (by omega)))
              · refine z_goto (pc := 53) hO (tgt := 69) dX8_fits_53 (by decide) ?_
                refine z_iconst (pc := 69) hO dX8_fits_69 ?_
                exact z_iret (pc := 70) hO hr hQ rfl dX8_fits_70 ⟨Or.inr ⟨rfl, by first | (intro h; have h2 := h.2 i (by omega) (by omega); unfold lnf at h2; have h3 := h2.1; have h4 := h2.2; rw [← hT1.1, ← hT1.2] at h3 h4; by_cases c : x 34 i = 0; (have := h3 c; omega); (have := h4 c; omega); done) | (exfalso; omega)⟩, rfl⟩
          · skip
            refine z_if_eq (pc := 28) hO (tgt := 77) dX8_fits_28 (by decide) (by decide) (fun _ => ?_) (fun h => absurd h (by decide))
            refine z_iconst (pc := 77) hO dX8_fits_77 ?_
            exact z_iret (pc := 78) hO hr hQ rfl dX8_fits_78 ⟨Or.inl ⟨rfl, by first | (exact ⟨by assumption, fun l a b => hA l a (by omega)⟩; done) | (exfalso; omega)⟩, rfl⟩
    refine z_sub [1, 0] rfl ?_
    exact L11 _ 0 (Nat.lt_succ_self _) (by omega) (by intro l _ _; omega)
  · refine z_iconst (pc := 7) hO dX8_fits_7 ?_
    exact z_iret (pc := 8) hO hr hQ rfl dX8_fits_8 ⟨Or.inr ⟨rfl, by first | (intro h; omega; done) | (exfalso; omega)⟩, rfl⟩

set_option maxHeartbeats 600000 in
theorem c_X8_addEmpty (l : Launch) (g : Gl) (x : Me) (p : Int)  (h6 : 0 ≤ x 30 6 ∧ x 30 6 < 16) : ctQ l g yX8_addEmpty cX8_addEmpty 2 none 1 20 [.ref (gA g 30), .int (zi p)] x (QVu g (fun x' => x' = up (up x 36 (x 30 6) p) 30 6 (x 30 6 + 1))) := by
  refine ct_start (own := RX8) (lv := [(0, .ref (gA g 30)), (1, .int (zi p))]) (plainFor_of_name (by decide)) rfl (Nat.le_of_ble_eq_true rfl) rfl ?_
  intro Γ hΓ hO hr hQ _
  refine z_aload_n (pc := 0) hO 0 dX8_addEmpty_0 rfl rfl ?_
  refine gf_X8_emptyCount (pc := 1) hO f_X8_69 dX8_addEmpty_1 ?_
  refine z_if_lt (pc := 4) hO (tgt := 39) dX8_addEmpty_4 (by decide) (by omega) (fun b1 => ?_) (fun b1 => ?_)
  · exact z_vret (pc := 39) hO hr hQ dX8_addEmpty_39 (by first | (simp only [c6] at *; assumption; done) | (exfalso; omega))
  · refine z_aload_n (pc := 7) hO 0 dX8_addEmpty_7 rfl rfl ?_
    refine gf_X8_emptyCount (pc := 8) hO f_X8_69 dX8_addEmpty_8 ?_
    refine z_aload_n (pc := 11) hO 0 dX8_addEmpty_11 rfl rfl ?_
    refine gf_X8_empties (pc := 12) hO f_X8_28 dX8_addEmpty_12 ?_
    refine z_alenI (pc := 15) hO isI_36 dX8_addEmpty_15 ?_
    refine z_icmp_ge (pc := 16) hO (tgt := 39) dX8_addEmpty_16 (by decide) (by omega) (by omega) (fun b2 => ?_) (fun b2 => ?_)
    · exact z_vret (pc := 39) hO hr hQ dX8_addEmpty_39 (by first | (simp only [c6] at *; assumption; done) | (exfalso; omega))
    · refine z_aload_n (pc := 19) hO 0 dX8_addEmpty_19 rfl rfl ?_
      refine gf_X8_empties (pc := 20) hO f_X8_28 dX8_addEmpty_20 ?_
      refine z_aload_n (pc := 23) hO 0 dX8_addEmpty_23 rfl rfl ?_
      refine gf_X8_emptyCount (pc := 24) hO f_X8_69 dX8_addEmpty_24 ?_
      refine z_iload_n (pc := 27) hO 1 dX8_addEmpty_27 rfl rfl ?_
      refine z_iast (pc := 28) hO isI_36 (by omega) dX8_addEmpty_28 (fun m3 e4 => ?_)
      have c6 : m3 30 6 = x 30 6 := by rw [e4, up_i _ _ _ (by omega)]
      rw [e4] at c6 ⊢
      refine z_aload_n (pc := 29) hO 0 dX8_addEmpty_29 rfl rfl ?_
      refine z_dup (pc := 30) hO dX8_addEmpty_30 rfl ?_
      refine gf_X8_emptyCount (pc := 31) hO f_X8_69 dX8_addEmpty_31 ?_
      refine z_iconst (pc := 34) hO dX8_addEmpty_34 ?_
      refine z_iadd (pc := 35) hO dX8_addEmpty_35 ?_
      refine pf_X8_emptyCount (pc := 36) hO f_X8_69 dX8_addEmpty_36 (fun m5 e6 => ?_)
      exact z_vret (pc := 39) hO hr hQ dX8_addEmpty_39 (by first | (simp only [c6] at *; assumption; done) | (exfalso; omega))

