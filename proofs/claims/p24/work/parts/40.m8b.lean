set_option maxHeartbeats 600000 in
theorem c_X8_begin (l : Launch) (g : Gl) (x : Me) (n : Int)  (hn : 1 ≤ n ∧ n ≤ 4) : ctQ l g yX8_begin cX8_begin 3 none 3 65 [.ref (gA g 30), .int (zi n)] x (QVu g (fun x' => SB x' n ∧ x' 30 9 = 0 ∧ x' 30 6 = 0 ∧ ST x' n (fun _ => 0) ∧ ∀ a, a ≠ 30 → a ≠ 32 → a ≠ 33 → a ≠ 34 → a ≠ 35 → x' a = x a)) := by
  refine ct_start (own := RX8) (lv := [(0, .ref (gA g 30)), (1, .int (zi n))]) (plainFor_of_name (by decide)) rfl (Nat.le_of_ble_eq_true rfl) rfl ?_
  intro Γ hΓ hO hr hQ _
  have h4 := sq4 hn
  have hdn := du_rng hn
  refine z_aload_n (pc := 0) hO 0 dX8_begin_0 rfl rfl ?_
  refine z_iload_n (pc := 1) hO 1 dX8_begin_1 rfl rfl ?_
  refine pf_X8_side (pc := 2) hO f_X8_31 dX8_begin_2 (fun m1 e2 => ?_)
  refine z_aload_n (pc := 5) hO 0 dX8_begin_5 rfl rfl ?_
  refine z_aload_n (pc := 6) hO 0 dX8_begin_6 rfl rfl ?_
  refine gf_X8_side (pc := 7) hO f_X8_31 dX8_begin_7 ?_
  refine z_aload_n (pc := 10) hO 0 dX8_begin_10 rfl rfl ?_
  refine gf_X8_side (pc := 11) hO f_X8_31 dX8_begin_11 ?_
  refine z_aload_n (pc := 14) hO 0 dX8_begin_14 rfl rfl ?_
  refine gf_X8_side (pc := 15) hO f_X8_31 dX8_begin_15 ?_
  refine z_imul (pc := 18) hO dX8_begin_18 ?_
  refine z_iconst (pc := 19) hO dX8_begin_19 ?_
  refine z_iadd (pc := 20) hO dX8_begin_20 ?_
  refine z_imul (pc := 21) hO dX8_begin_21 ?_
  refine z_iconst (pc := 22) hO dX8_begin_22 ?_
  refine z_idiv (pc := 23) hO dX8_begin_23 (by first | omega | (simp only [*, up_s]; have hdd : 0 ≤ n * (n * n + 1) := Int.mul_nonneg (by omega) (by omega); have hde := Int.mul_le_mul hn.2 (show n * n + 1 ≤ 17 by omega) (by omega) (by omega); omega)) (by first | omega | (simp only [*, up_s]; have hdd : 0 ≤ n * (n * n + 1) := Int.mul_nonneg (by omega) (by omega); have hde := Int.mul_le_mul hn.2 (show n * n + 1 ≤ 17 by omega) (by omega) (by omega); omega)) ?_
  refine pf_X8_due (pc := 24) hO f_X8_66 dX8_begin_24 (fun m3 e4 => ?_)
  refine z_aload_n (pc := 27) hO 0 dX8_begin_27 rfl rfl ?_
  refine z_iconst (pc := 28) hO dX8_begin_28 ?_
  refine pf_X8_isClashing (pc := 29) hO f_X8_62 (by omega) dX8_begin_29 (fun m5 e6 => ?_)
  refine z_aload_n (pc := 32) hO 0 dX8_begin_32 rfl rfl ?_
  refine z_iconst (pc := 33) hO dX8_begin_33 ?_
  refine pf_X8_emptyCount (pc := 34) hO f_X8_69 dX8_begin_34 (fun m7 e8 => ?_)
  refine z_iconst (pc := 37) hO dX8_begin_37 ?_
  refine z_istore_n (pc := 38) hO (lv' := [(2, .int (zi 0)), (0, .ref (gA g 30)), (1, .int (zi n))]) dX8_begin_38 rfl (by decide) rfl ?_
  have L39 : ∀ (N : Nat) (i : Int) (y : Me), (17 - i).toNat < N → (0 ≤ i ∧ i ≤ 17) → (y 30 7 = n ∧ y 30 8 = du n ∧ y 30 9 = 0 ∧ y 30 6 = 0) → (∀ v, 0 ≤ v → v < i → y 32 v = 0) → (∀ a, a ≠ 30 → a ≠ 32 → a ≠ 33 → a ≠ 34 → a ≠ 35 → y a = x a) → Zz Γ g 3 0 0 y 39 [(0, .ref (gA g 30)), (1, .int (zi n)), (2, .int (zi i))] [] := by
    intro N
    induction N with
    | zero => intro i y hm; exact absurd hm (Nat.not_lt_zero _)
    | succ N ih39 =>
      intro i y hm h0 c0 c1 c2
      refine z_iload_n (pc := 39) hO 2 dX8_begin_39 rfl rfl ?_
      refine z_aload_n (pc := 40) hO 0 dX8_begin_40 rfl rfl ?_
      refine gf_X8_isUsed (pc := 41) hO f_X8_15 dX8_begin_41 ?_
      refine z_alenZ (pc := 44) hO isZ_32 dX8_begin_44 ?_
      refine z_icmp_ge (pc := 45) hO (tgt := 61) dX8_begin_45 (by decide) (by omega) (by omega) (fun b9 => ?_) (fun b9 => ?_)
      · refine z_iconst (pc := 61) hO dX8_begin_61 ?_
        refine z_istore_n (pc := 62) hO (lv' := [(2, .int (zi 0)), (0, .ref (gA g 30)), (1, .int (zi n))]) dX8_begin_62 rfl (by decide) rfl ?_
        have L63 : ∀ (N : Nat) (i2 : Int) (w : Me), (10 - i2).toNat < N → (0 ≤ i2 ∧ i2 ≤ 10) → (w 30 7 = n ∧ w 30 8 = du n ∧ w 30 9 = 0 ∧ w 30 6 = 0) → (∀ v, 0 ≤ v → v ≤ 16 → w 32 v = 0) → (∀ l, 0 ≤ l → l < i2 → w 33 l = 0 ∧ w 34 l = n) → (∀ a, a ≠ 30 → a ≠ 32 → a ≠ 33 → a ≠ 34 → a ≠ 35 → w a = x a) → Zz Γ g 3 0 0 w 63 [(0, .ref (gA g 30)), (1, .int (zi n)), (2, .int (zi i2))] [] := by
          intro N
          induction N with
          | zero => intro i2 w hm; exact absurd hm (Nat.not_lt_zero _)
          | succ N ih63 =>
            intro i2 w hm g0 d0 d1 d3 d2
            refine z_iload_n (pc := 63) hO 2 dX8_begin_63 rfl rfl ?_
            refine z_aload_n (pc := 64) hO 0 dX8_begin_64 rfl rfl ?_
            refine gf_X8_sums (pc := 65) hO f_X8_19 dX8_begin_65 ?_
            refine z_alenI (pc := 68) hO isI_33 dX8_begin_68 ?_
            refine z_icmp_ge (pc := 69) hO (tgt := 104) dX8_begin_69 (by decide) (by omega) (by omega) (fun b10 => ?_) (fun b10 => ?_)
            · refine z_iconst (pc := 104) hO dX8_begin_104 ?_
              refine z_istore_n (pc := 105) hO (lv' := [(2, .int (zi 0)), (0, .ref (gA g 30)), (1, .int (zi n))]) dX8_begin_105 rfl (by decide) rfl ?_
              have L106 : ∀ (N : Nat) (i3 : Int) (u : Me), (64 - i3).toNat < N → (0 ≤ i3 ∧ i3 ≤ 64) → (u 30 7 = n ∧ u 30 8 = du n ∧ u 30 9 = 0 ∧ u 30 6 = 0) → (∀ v, 0 ≤ v → v ≤ 16 → u 32 v = 0) → (∀ l, 0 ≤ l → l < 10 → u 33 l = 0 ∧ u 34 l = n) → (∀ j, 0 ≤ j → j < i3 → u 35 j = lth n (j / 4) (j % 4)) → (∀ a, a ≠ 30 → a ≠ 32 → a ≠ 33 → a ≠ 34 → a ≠ 35 → u a = x a) → Zz Γ g 3 0 0 u 106 [(0, .ref (gA g 30)), (1, .int (zi n)), (2, .int (zi i3))] [] := by
                intro N
                induction N with
                | zero => intro i3 u hm; exact absurd hm (Nat.not_lt_zero _)
                | succ N ih106 =>
                  intro i3 u hm f0 k0 k1 k3 k4 k2
                  refine z_iload_n (pc := 106) hO 2 dX8_begin_106 rfl rfl ?_
                  refine z_aload_n (pc := 107) hO 0 dX8_begin_107 rfl rfl ?_
                  refine gf_X8_linesAtPlaces (pc := 108) hO f_X8_25 dX8_begin_108 ?_
                  refine z_alenI (pc := 111) hO isI_35 dX8_begin_111 ?_
                  refine z_icmp_ge (pc := 112) hO (tgt := 137) dX8_begin_112 (by decide) (by omega) (by omega) (fun b11 => ?_) (fun b11 => ?_)
                  · exact z_vret (pc := 137) hO hr hQ dX8_begin_137 (by first | (exact ⟨⟨hn, k0.1, k0.2.1, fun j a b => k4 j a (by omega)⟩, k0.2.2.1, k0.2.2.2, ⟨fun l a b => ⟨by rw [lsm0]; exact (k3 l a (by omega)).1, by rw [lck0 hn ⟨a, b⟩]; exact (k3 l a (by omega)).2⟩, fun v a b => by rw [bi_f (usd0 n v)]; exact k1 v a b⟩, k2⟩; done) | (exfalso; omega))
                  · refine z_aload_n (pc := 115) hO 0 dX8_begin_115 rfl rfl ?_
                    refine gf_X8_linesAtPlaces (pc := 116) hO f_X8_25 dX8_begin_116 ?_
                    refine z_iload_n (pc := 119) hO 2 dX8_begin_119 rfl rfl ?_
                    refine z_aload_n (pc := 120) hO 0 dX8_begin_120 rfl rfl ?_
                    refine z_iload_n (pc := 121) hO 2 dX8_begin_121 rfl rfl ?_
                    refine z_iconst (pc := 122) hO dX8_begin_122 ?_
                    refine z_idiv (pc := 123) hO dX8_begin_123 (by omega) (by omega) ?_
                    refine z_iload_n (pc := 124) hO 2 dX8_begin_124 rfl rfl ?_
                    refine z_iconst (pc := 125) hO dX8_begin_125 ?_
                    refine z_irem (pc := 126) hO dX8_begin_126 (by omega) (by omega) ?_
                    refine z_callVIp (pc := 127) hO (As := [.int (zi (i3 / 4)), .int (zi (i3 % 4))]) (st := [.int (zi i3), .ref (gA g 35)]) (c_X8_lineThrough (qL Γ) g u (i3 / 4) (i3 % 4) n (by first | assumption | omega) (by exact k0.1) (by first | assumption | omega) (by first | assumption | omega)) k_X8_72 isO_30 rfl (Nat.le_of_ble_eq_true rfl) (by decide) (by decide) ⟨by decide, by decide⟩ dX8_begin_127 ?_
                    refine z_iast (pc := 130) hO isI_35 (by omega) dX8_begin_130 (fun m12 e13 => ?_)
                    refine z_iinc (pc := 131) hO 2 (lv' := [(2, .int (zi (i3 + 1))), (0, .ref (gA g 30)), (1, .int (zi n))]) dX8_begin_131 rfl (by decide) rfl ?_
                    refine z_goto (pc := 134) hO (tgt := 106) dX8_begin_134 (by decide) ?_
                    refine z_sub [1, 2, 0] rfl ?_
                    exact ih106 (i3 + 1) m12 (by omega) (by omega) (by subst m12; rw [up_i _ _ _ (by omega)]; exact k0) (by intro v a b; subst m12; rw [up_i _ _ _ (by omega)]; exact k1 v a b) (by intro l a b; subst m12; rw [up_i _ _ _ (by omega), up_i _ _ _ (by omega)]; exact k3 l a b) (by intro j a b; subst m12; exact dite (j = i3) (fun e => by rw [e, up_s]) (fun e => by rw [up_n _ _ (by omega)]; exact k4 j a (by omega))) (by intro a a1 a2 a3 a4 a5; subst m12; rw [up_i _ _ _ a5]; exact k2 a a1 a2 a3 a4 a5)
              refine z_sub [1, 2, 0] rfl ?_
              exact L106 _ 0 w (Nat.lt_succ_self _) (by omega) (by exact d0) (by exact d1) (by intro l a b; exact d3 l a (by omega)) (by intro j _ _; omega) (by exact d2)
            · refine z_iload_n (pc := 72) hO 2 dX8_begin_72 rfl rfl ?_
              refine z_aload_n (pc := 73) hO 0 dX8_begin_73 rfl rfl ?_
              refine gf_X8_lacks (pc := 74) hO f_X8_22 dX8_begin_74 ?_
              refine z_alenI (pc := 77) hO isI_34 dX8_begin_77 ?_
              refine z_icmp_ge (pc := 78) hO (tgt := 104) dX8_begin_78 (by decide) (by omega) (by omega) (fun b14 => ?_) (fun b14 => ?_)
              · refine z_iconst (pc := 104) hO dX8_begin_104 ?_
                refine z_istore_n (pc := 105) hO (lv' := [(2, .int (zi 0)), (0, .ref (gA g 30)), (1, .int (zi n))]) dX8_begin_105 rfl (by decide) rfl ?_
                have L106 : ∀ (N : Nat) (i3 : Int) (u : Me), (64 - i3).toNat < N → (0 ≤ i3 ∧ i3 ≤ 64) → (u 30 7 = n ∧ u 30 8 = du n ∧ u 30 9 = 0 ∧ u 30 6 = 0) → (∀ v, 0 ≤ v → v ≤ 16 → u 32 v = 0) → (∀ l, 0 ≤ l → l < 10 → u 33 l = 0 ∧ u 34 l = n) → (∀ j, 0 ≤ j → j < i3 → u 35 j = lth n (j / 4) (j % 4)) → (∀ a, a ≠ 30 → a ≠ 32 → a ≠ 33 → a ≠ 34 → a ≠ 35 → u a = x a) → Zz Γ g 3 0 0 u 106 [(0, .ref (gA g 30)), (1, .int (zi n)), (2, .int (zi i3))] [] := by
                  intro N
                  induction N with
                  | zero => intro i3 u hm; exact absurd hm (Nat.not_lt_zero _)
                  | succ N ih106 =>
                    intro i3 u hm f0 k0 k1 k3 k4 k2
                    refine z_iload_n (pc := 106) hO 2 dX8_begin_106 rfl rfl ?_
                    refine z_aload_n (pc := 107) hO 0 dX8_begin_107 rfl rfl ?_
                    refine gf_X8_linesAtPlaces (pc := 108) hO f_X8_25 dX8_begin_108 ?_
                    refine z_alenI (pc := 111) hO isI_35 dX8_begin_111 ?_
                    refine z_icmp_ge (pc := 112) hO (tgt := 137) dX8_begin_112 (by decide) (by omega) (by omega) (fun b15 => ?_) (fun b15 => ?_)
                    · exact z_vret (pc := 137) hO hr hQ dX8_begin_137 (by first | (exact ⟨⟨hn, k0.1, k0.2.1, fun j a b => k4 j a (by omega)⟩, k0.2.2.1, k0.2.2.2, ⟨fun l a b => ⟨by rw [lsm0]; exact (k3 l a (by omega)).1, by rw [lck0 hn ⟨a, b⟩]; exact (k3 l a (by omega)).2⟩, fun v a b => by rw [bi_f (usd0 n v)]; exact k1 v a b⟩, k2⟩; done) | (exfalso; omega))
                    · refine z_aload_n (pc := 115) hO 0 dX8_begin_115 rfl rfl ?_
                      refine gf_X8_linesAtPlaces (pc := 116) hO f_X8_25 dX8_begin_116 ?_
                      refine z_iload_n (pc := 119) hO 2 dX8_begin_119 rfl rfl ?_
                      refine z_aload_n (pc := 120) hO 0 dX8_begin_120 rfl rfl ?_
                      refine z_iload_n (pc := 121) hO 2 dX8_begin_121 rfl rfl ?_
                      refine z_iconst (pc := 122) hO dX8_begin_122 ?_
                      refine z_idiv (pc := 123) hO dX8_begin_123 (by omega) (by omega) ?_
                      refine z_iload_n (pc := 124) hO 2 dX8_begin_124 rfl rfl ?_
                      refine z_iconst (pc := 125) hO dX8_begin_125 ?_
                      refine z_irem (pc := 126) hO dX8_begin_126 (by omega) (by omega) ?_
                      refine z_callVIp (pc := 127) hO (As := [.int (zi (i3 / 4)), .int (zi (i3 % 4))]) (st := [.int (zi i3), .ref (gA g 35)]) (c_X8_lineThrough (qL Γ) g u (i3 / 4) (i3 % 4) n (by first | assumption | omega) (by exact k0.1) (by first | assumption | omega) (by first | assumption | omega)) k_X8_72 isO_30 rfl (Nat.le_of_ble_eq_true rfl) (by decide) (by decide) ⟨by decide, by decide⟩ dX8_begin_127 ?_
                      refine z_iast (pc := 130) hO isI_35 (by omega) dX8_begin_130 (fun m16 e17 => ?_)
                      refine z_iinc (pc := 131) hO 2 (lv' := [(2, .int (zi (i3 + 1))), (0, .ref (gA g 30)), (1, .int (zi n))]) dX8_begin_131 rfl (by decide) rfl ?_
                      refine z_goto (pc := 134) hO (tgt := 106) dX8_begin_134 (by decide) ?_
                      refine z_sub [1, 2, 0] rfl ?_
                      exact ih106 (i3 + 1) m16 (by omega) (by omega) (by subst m16; rw [up_i _ _ _ (by omega)]; exact k0) (by intro v a b; subst m16; rw [up_i _ _ _ (by omega)]; exact k1 v a b) (by intro l a b; subst m16; rw [up_i _ _ _ (by omega), up_i _ _ _ (by omega)]; exact k3 l a b) (by intro j a b; subst m16; exact dite (j = i3) (fun e => by rw [e, up_s]) (fun e => by rw [up_n _ _ (by omega)]; exact k4 j a (by omega))) (by intro a a1 a2 a3 a4 a5; subst m16; rw [up_i _ _ _ a5]; exact k2 a a1 a2 a3 a4 a5)
                refine z_sub [1, 2, 0] rfl ?_
                exact L106 _ 0 w (Nat.lt_succ_self _) (by omega) (by exact d0) (by exact d1) (by intro l a b; exact d3 l a (by omega)) (by intro j _ _; omega) (by exact d2)
              · refine z_aload_n (pc := 81) hO 0 dX8_begin_81 rfl rfl ?_
                refine gf_X8_sums (pc := 82) hO f_X8_19 dX8_begin_82 ?_
                refine z_iload_n (pc := 85) hO 2 dX8_begin_85 rfl rfl ?_
                refine z_iconst (pc := 86) hO dX8_begin_86 ?_
                refine z_iast (pc := 87) hO isI_33 (by omega) dX8_begin_87 (fun m18 e19 => ?_)
                refine z_aload_n (pc := 88) hO 0 dX8_begin_88 rfl rfl ?_
                refine gf_X8_lacks (pc := 89) hO f_X8_22 dX8_begin_89 ?_
                refine z_iload_n (pc := 92) hO 2 dX8_begin_92 rfl rfl ?_
                refine z_aload_n (pc := 93) hO 0 dX8_begin_93 rfl rfl ?_
                refine gf_X8_side (pc := 94) hO f_X8_31 dX8_begin_94 ?_
                refine z_iast (pc := 97) hO isI_34 (by omega) dX8_begin_97 (fun m20 e21 => ?_)
                refine z_iinc (pc := 98) hO 2 (lv' := [(2, .int (zi (i2 + 1))), (0, .ref (gA g 30)), (1, .int (zi n))]) dX8_begin_98 rfl (by decide) rfl ?_
                refine z_goto (pc := 101) hO (tgt := 63) dX8_begin_101 (by decide) ?_
                refine z_sub [1, 2, 0] rfl ?_
                exact ih63 (i2 + 1) m20 (by omega) (by omega) (by subst m20 m18; rw [up_i _ _ _ (by omega), up_i _ _ _ (by omega)]; exact d0) (by intro v a b; subst m20 m18; rw [up_i _ _ _ (by omega), up_i _ _ _ (by omega)]; exact d1 v a b) (by intro l a b; exact dite (l = i2) (fun e => by rw [e]; subst m20 m18; exact ⟨by rw [up_i _ _ _ (by omega), up_s], by rw [up_s, up_i _ _ _ (by omega)]; exact d0.1⟩) (fun e => by subst m20 m18; rw [up_i _ _ _ (by omega), up_n _ _ (by omega), up_n _ _ (by omega), up_i _ _ _ (by omega)]; exact d3 l a (by omega))) (by intro a a1 a2 a3 a4 a5; subst m20 m18; rw [up_i _ _ _ a4, up_i _ _ _ a3]; exact d2 a a1 a2 a3 a4 a5)
        refine z_sub [1, 2, 0] rfl ?_
        exact L63 _ 0 y (Nat.lt_succ_self _) (by omega) (by exact c0) (by intro v a b; exact c1 v a (by omega)) (by intro l _ _; omega) (by exact c2)
      · refine z_aload_n (pc := 48) hO 0 dX8_begin_48 rfl rfl ?_
        refine gf_X8_isUsed (pc := 49) hO f_X8_15 dX8_begin_49 ?_
        refine z_iload_n (pc := 52) hO 2 dX8_begin_52 rfl rfl ?_
        refine z_iconst (pc := 53) hO dX8_begin_53 ?_
        refine z_zast (pc := 54) hO isZ_32 (by omega) (by omega) dX8_begin_54 (fun m22 e23 => ?_)
        refine z_iinc (pc := 55) hO 2 (lv' := [(2, .int (zi (i + 1))), (0, .ref (gA g 30)), (1, .int (zi n))]) dX8_begin_55 rfl (by decide) rfl ?_
        refine z_goto (pc := 58) hO (tgt := 39) dX8_begin_58 (by decide) ?_
        refine z_sub [1, 2, 0] rfl ?_
        exact ih39 (i + 1) m22 (by omega) (by omega) (by subst m22; rw [up_i _ _ _ (by omega)]; exact c0) (by intro v a b; subst m22; exact dite (v = i) (fun e => by rw [e, up_s]) (fun e => by rw [up_n _ _ (by omega)]; exact c1 v a (by omega))) (by intro a a1 a2 a3 a4 a5; subst m22; rw [up_i _ _ _ a2]; exact c2 a a1 a2 a3 a4 a5)
  refine z_sub [1, 2, 0] rfl ?_
  exact L39 _ 0 m7 (Nat.lt_succ_self _) (by omega) (by subst m7 m5 m3 m1; simp [up, du]) (by intro v _ _; omega) (by intro a a1 a2 a3 a4 a5; subst m7 m5 m3 m1; simp only [up_i _ _ _ a1])

set_option maxHeartbeats 600000 in
theorem c_X8_load (l : Launch) (g : Gl) (x : Me) (q : Nat)  (hF : FG x q) (hs4 : x (10 + q) 1 ≤ 4) : ctQ l g yX8_load cX8_load 4 none 4 90 [.ref (gA g 30), .ref (gA g (10 + q))] x (QVu g (fun x' => LD x' (x (10 + q) 1) (nc x q) ∧ ∀ a, a < 30 ∨ 36 < a → x' a = x a)) := by
  refine ct_start (own := RX8) (lv := [(0, .ref (gA g 30)), (1, .ref (gA g (10 + q)))]) (plainFor_of_name (by decide)) rfl (Nat.le_of_ble_eq_true rfl) rfl ?_
  intro Γ hΓ hO hr hQ _
  obtain ⟨hq, hs, hf⟩ := id hF
  have h9 := sq9 hs
  have hN := FG.r hF
  have h4 := sq4 (n := x (10 + q) 1) (by omega)
  refine z_aload_n (pc := 0) hO 0 dX8_load_0 rfl rfl ?_
  refine z_aload_n (pc := 1) hO 1 dX8_load_1 rfl rfl ?_
  refine z_callVIp (pc := 2) hO (As := []) (st := [.ref (gA g 30)]) (c_X1_side (qL Γ) g x q (by first | assumption | omega)) k_X8_35 (isO_fig (by omega : q < 9)) rfl (Nat.le_of_ble_eq_true rfl) (by decide) (by decide) ⟨by decide, by decide⟩ dX8_load_2 ?_
  refine z_callVV (pc := 5) hO (As := [.int (zi (x (10 + q) 1))]) (st := []) (c_X8_begin (qL Γ) g x (x (10 + q) 1) (by first | assumption | omega)) k_X8_40 isO_30 rfl (Nat.le_of_ble_eq_true rfl) (by decide) (by decide) ⟨by decide, by decide⟩ dX8_load_5 (fun m2 h3 => ?_)
  obtain ⟨b1, b2, b3, b4, b5⟩ := h3
  refine z_iconst (pc := 8) hO dX8_load_8 ?_
  refine z_istore_n (pc := 9) hO (lv' := [(2, .int (zi 0)), (0, .ref (gA g 30)), (1, .ref (gA g (10 + q)))]) dX8_load_9 rfl (by decide) rfl ?_
  have L10 : ∀ (N : Nat) (i : Int) (y : Me) (G : Int → Int), (x (10 + q) 1 * x (10 + q) 1 - i).toNat < N → (0 ≤ i ∧ i ≤ x (10 + q) 1 * x (10 + q) 1) → (LI x y (x (10 + q) 1) (nc x q) i G) → Zz Γ g 4 0 0 y 10 [(0, .ref (gA g 30)), (1, .ref (gA g (10 + q))), (2, .int (zi i))] [] := by
    intro N
    induction N with
    | zero => intro i y G hm; exact absurd hm (Nat.not_lt_zero _)
    | succ N ih10 =>
      intro i y G hm h0 hk
      have hfrm := hk.2.2.2.2
      have k1 := hfrm (10 + q) (by omega)
      have hy : y (10 + q) 1 = x (10 + q) 1 := by rw [k1]
      have hyy : y (10 + q) 1 * y (10 + q) 1 = x (10 + q) 1 * x (10 + q) 1 := by rw [hy]
      have hvf : nc y q i = nc x q i := by rw [nc_of (hfrm (20 + q) (by omega))]
      have hR := hN i
      have hel := emp_len (nc x q) i.toNat
      have he6 := hk.2.2.1.1
      refine z_iload_n (pc := 10) hO 2 dX8_load_10 rfl rfl ?_
      refine z_aload_n (pc := 11) hO 1 dX8_load_11 rfl rfl ?_
      refine z_callVIp (pc := 12) hO (As := []) (st := [.int (zi i)]) (c_X1_size (qL Γ) g y q (by first | assumption | omega)) k_X8_44 (isO_fig (by omega : q < 9)) rfl (Nat.le_of_ble_eq_true rfl) (by decide) (by decide) ⟨by decide, by decide⟩ dX8_load_12 ?_
      refine z_icmp_ge (pc := 15) hO (tgt := 64) dX8_load_15 (by decide) (by omega) (by omega) (fun b4 => ?_) (fun b4 => ?_)
      · exact z_vret (pc := 64) hO hr hQ dX8_load_64 (by first | (exact LI_end hk (by omega); done) | (exfalso; omega))
      · refine z_aload_n (pc := 18) hO 1 dX8_load_18 rfl rfl ?_
        refine z_iload_n (pc := 19) hO 2 dX8_load_19 rfl rfl ?_
        refine z_callVIp (pc := 20) hO (As := [.int (zi i)]) (st := []) (c_X1_read (qL Γ) g y q i (by first | assumption | omega) (by first | assumption | omega)) k_X8_47 (isO_fig (by omega : q < 9)) rfl (Nat.le_of_ble_eq_true rfl) (by decide) (by decide) ⟨by decide, by decide⟩ dX8_load_20 ?_
        refine z_istore_n (pc := 23) hO (lv' := [(3, .int (zi (nc y q i))), (0, .ref (gA g 30)), (1, .ref (gA g (10 + q))), (2, .int (zi i))]) dX8_load_23 rfl (by decide) rfl ?_
        refine z_iload_n (pc := 24) hO 0 dX8_load_24 rfl rfl ?_
        refine z_if_ne (pc := 25) hO (tgt := 36) dX8_load_25 (by decide) (by omega) (fun b5 => ?_) (fun b5 => ?_)
        · refine z_aload_n (pc := 36) hO 1 dX8_load_36 rfl rfl ?_
          refine z_iload_n (pc := 37) hO 0 dX8_load_37 rfl rfl ?_
          refine z_callVB (pc := 38) hO (As := [.int (zi (nc y q i))]) (st := []) (c_X8_isFree (qL Γ) g y (nc y q i) (x (10 + q) 1) (by exact hk.1) (by exact ST_z hk.2.1.1) (by first | assumption | omega)) k_X8_54 isO_30 rfl (Nat.le_of_ble_eq_true rfl) (by decide) (by decide) ⟨by decide, by decide⟩ dX8_load_38 (fun pb6 => ?_) (fun pb6 => ?_)
          · skip
            rw [hvf] at pb6
            have hfree := pb6
            refine z_if_eq (pc := 41) hO (tgt := 53) dX8_load_41 (by decide) (by decide) (fun h => absurd h (by decide)) (fun _ => ?_)
            refine z_aload_n (pc := 44) hO 1 dX8_load_44 rfl rfl ?_
            refine z_iload_n (pc := 45) hO 3 dX8_load_45 rfl rfl ?_
            refine z_iload_n (pc := 46) hO 0 dX8_load_46 rfl rfl ?_
            refine z_callVV (pc := 47) hO (As := [.int (zi i), .int (zi (nc y q i))]) (st := []) (c_X8_lay (qL Γ) g y i (nc y q i) (x (10 + q) 1) G (by exact hk.1) (by exact hk.2.1.1) (by first | assumption | omega) (by exact hk.2.1.2.2.1 i (by omega)) (by rw [hvf]; exact hfree.1) (by rw [hvf]; exact hfree.2)) k_X8_58 isO_30 rfl (Nat.le_of_ble_eq_true rfl) (by decide) (by decide) ⟨by decide, by decide⟩ dX8_load_47 (fun m8 h9 => ?_)
            rw [hvf] at h9
            obtain ⟨G2, hG2⟩ : ∃ G2, G2 = uf G i (nc x q i) := ⟨_, rfl⟩
            refine z_goto (pc := 50) hO (tgt := 58) dX8_load_50 (by decide) ?_
            refine z_iinc (pc := 58) hO 3 (lv' := [(2, .int (zi (i + 1))), (3, .int (zi (nc y q i))), (0, .ref (gA g 30)), (1, .ref (gA g (10 + q)))]) dX8_load_58 rfl (by decide) rfl ?_
            refine z_goto (pc := 61) hO (tgt := 10) dX8_load_61 (by decide) ?_
            refine z_sub [2, 3, 0] rfl ?_
            exact ih10 (i + 1) m8 G2 (by omega) (by omega) (by rw [hG2]; first | exact LI_E hk (by omega) (by omega) (by assumption) | exact LI_L hk (by omega) hfree (by assumption) | exact LI_C hk (by omega) (by omega) hfree (by assumption))
          · skip
            rw [hvf] at pb6
            have hfree := pb6
            refine z_if_eq (pc := 41) hO (tgt := 53) dX8_load_41 (by decide) (by decide) (fun _ => ?_) (fun h => absurd h (by decide))
            refine z_aload_n (pc := 53) hO 1 dX8_load_53 rfl rfl ?_
            refine z_iconst (pc := 54) hO dX8_load_54 ?_
            refine pf_X8_isClashing (pc := 55) hO f_X8_62 (by omega) dX8_load_55 (fun m10 e11 => ?_)
            obtain ⟨G2, hG2⟩ : ∃ G2, G2 = G := ⟨_, rfl⟩
            refine z_iinc (pc := 58) hO 3 (lv' := [(2, .int (zi (i + 1))), (3, .int (zi (nc y q i))), (0, .ref (gA g 30)), (1, .ref (gA g (10 + q)))]) dX8_load_58 rfl (by decide) rfl ?_
            refine z_goto (pc := 61) hO (tgt := 10) dX8_load_61 (by decide) ?_
            refine z_sub [2, 3, 0] rfl ?_
            exact ih10 (i + 1) m10 G2 (by omega) (by omega) (by rw [hG2]; first | exact LI_E hk (by omega) (by omega) (by assumption) | exact LI_L hk (by omega) hfree (by assumption) | exact LI_C hk (by omega) (by omega) hfree (by assumption))
        · refine z_aload_n (pc := 28) hO 1 dX8_load_28 rfl rfl ?_
          refine z_iload_n (pc := 29) hO 3 dX8_load_29 rfl rfl ?_
          refine z_callVV (pc := 30) hO (As := [.int (zi i)]) (st := []) (c_X8_addEmpty (qL Γ) g y i (by first | assumption | omega)) k_X8_51 isO_30 rfl (Nat.le_of_ble_eq_true rfl) (by decide) (by decide) ⟨by decide, by decide⟩ dX8_load_30 (fun m13 h14 => ?_)
          obtain ⟨G2, hG2⟩ : ∃ G2, G2 = G := ⟨_, rfl⟩
          refine z_goto (pc := 33) hO (tgt := 58) dX8_load_33 (by decide) ?_
          refine z_iinc (pc := 58) hO 3 (lv' := [(2, .int (zi (i + 1))), (3, .int (zi (nc y q i))), (0, .ref (gA g 30)), (1, .ref (gA g (10 + q)))]) dX8_load_58 rfl (by decide) rfl ?_
          refine z_goto (pc := 61) hO (tgt := 10) dX8_load_61 (by decide) ?_
          refine z_sub [2, 3, 0] rfl ?_
          exact ih10 (i + 1) m13 G2 (by omega) (by omega) (by rw [hG2]; first | exact LI_E hk (by omega) (by omega) (by assumption) | exact LI_L hk (by omega) hfree (by assumption) | exact LI_C hk (by omega) (by omega) hfree (by assumption))
  refine z_sub [1, 2, 0] rfl ?_
  exact L10 _ 0 m2 (fun _ => 0) (Nat.lt_succ_self _) (by omega) (by exact LI_0 b1 b2 b3 b4 (fun a ha => b5 a (by omega) (by omega) (by omega) (by omega) (by omega)))

