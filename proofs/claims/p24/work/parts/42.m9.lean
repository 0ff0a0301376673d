set_option maxHeartbeats 600000 in
theorem c_X8_meet (l : Launch) (g : Gl) (x : Me)   (ha : -2147483648 ≤ x 30 12 ∧ x 30 12 < 2147483647) (hb : -2147483648 ≤ x 30 10 ∧ x 30 10 < 2147483648) (hc : -2147483648 ≤ x 30 11 ∧ x 30 11 < 2147483648) : ctQ l g yX8_meet cX8_meet 1 none 1 20 [.ref (gA g 30)] x (QVu g (fun x' => x' = mtM x)) := by
  refine ct_start (own := RX8) (lv := [(0, .ref (gA g 30))]) (plainFor_of_name (by decide)) rfl (Nat.le_of_ble_eq_true rfl) rfl ?_
  intro Γ hΓ hO hr hQ _
  refine z_aload_n (pc := 0) hO 0 dX8_meet_0 rfl rfl ?_
  refine gf_X8_found (pc := 1) hO f_X8_87 dX8_meet_1 ?_
  refine z_aload_n (pc := 4) hO 0 dX8_meet_4 rfl rfl ?_
  refine gf_X8_wanted (pc := 5) hO f_X8_93 dX8_meet_5 ?_
  refine z_icmp_ne (pc := 8) hO (tgt := 43) dX8_meet_8 (by decide) (by omega) (by omega) (fun b1 => ?_) (fun b1 => ?_)
  · refine z_aload_n (pc := 43) hO 0 dX8_meet_43 rfl rfl ?_
    refine z_dup (pc := 44) hO dX8_meet_44 rfl ?_
    refine gf_X8_found (pc := 45) hO f_X8_87 dX8_meet_45 ?_
    refine z_iconst (pc := 48) hO dX8_meet_48 ?_
    refine z_iadd (pc := 49) hO dX8_meet_49 ?_
    refine pf_X8_found (pc := 50) hO f_X8_87 dX8_meet_50 (fun m2 e3 => ?_)
    exact z_vret (pc := 53) hO hr hQ dX8_meet_53 (by first | (subst m2; unfold mtM; first | (rw [if_neg (by omega)]; done) | (rw [if_pos (by omega), up_n x _ (show ¬ ((30 : Nat) = 30 ∧ (12 : Int) = 13) by omega)]; done); done) | (exfalso; omega))
  · refine z_aload_n (pc := 11) hO 0 dX8_meet_11 rfl rfl ?_
    refine gf_X8_wantedPlace (pc := 12) hO f_X8_96 dX8_meet_12 ?_
    refine z_if_lt (pc := 15) hO (tgt := 43) dX8_meet_15 (by decide) (by omega) (fun b4 => ?_) (fun b4 => ?_)
    · refine z_aload_n (pc := 43) hO 0 dX8_meet_43 rfl rfl ?_
      refine z_dup (pc := 44) hO dX8_meet_44 rfl ?_
      refine gf_X8_found (pc := 45) hO f_X8_87 dX8_meet_45 ?_
      refine z_iconst (pc := 48) hO dX8_meet_48 ?_
      refine z_iadd (pc := 49) hO dX8_meet_49 ?_
      refine pf_X8_found (pc := 50) hO f_X8_87 dX8_meet_50 (fun m5 e6 => ?_)
      exact z_vret (pc := 53) hO hr hQ dX8_meet_53 (by first | (subst m5; unfold mtM; first | (rw [if_neg (by omega)]; done) | (rw [if_pos (by omega), up_n x _ (show ¬ ((30 : Nat) = 30 ∧ (12 : Int) = 13) by omega)]; done); done) | (exfalso; omega))
    · refine z_aload_n (pc := 18) hO 0 dX8_meet_18 rfl rfl ?_
      refine gf_X8_wantedPlace (pc := 19) hO f_X8_96 dX8_meet_19 ?_
      refine z_aload_n (pc := 22) hO 0 dX8_meet_22 rfl rfl ?_
      refine gf_X8_numbers (pc := 23) hO f_X8_11 dX8_meet_23 ?_
      refine z_alenI (pc := 26) hO isI_31 dX8_meet_26 ?_
      refine z_icmp_ge (pc := 27) hO (tgt := 43) dX8_meet_27 (by decide) (by omega) (by omega) (fun b7 => ?_) (fun b7 => ?_)
      · refine z_aload_n (pc := 43) hO 0 dX8_meet_43 rfl rfl ?_
        refine z_dup (pc := 44) hO dX8_meet_44 rfl ?_
        refine gf_X8_found (pc := 45) hO f_X8_87 dX8_meet_45 ?_
        refine z_iconst (pc := 48) hO dX8_meet_48 ?_
        refine z_iadd (pc := 49) hO dX8_meet_49 ?_
        refine pf_X8_found (pc := 50) hO f_X8_87 dX8_meet_50 (fun m8 e9 => ?_)
        exact z_vret (pc := 53) hO hr hQ dX8_meet_53 (by first | (subst m8; unfold mtM; first | (rw [if_neg (by omega)]; done) | (rw [if_pos (by omega), up_n x _ (show ¬ ((30 : Nat) = 30 ∧ (12 : Int) = 13) by omega)]; done); done) | (exfalso; omega))
      · refine z_aload_n (pc := 30) hO 0 dX8_meet_30 rfl rfl ?_
        refine z_aload_n (pc := 31) hO 0 dX8_meet_31 rfl rfl ?_
        refine gf_X8_numbers (pc := 32) hO f_X8_11 dX8_meet_32 ?_
        refine z_aload_n (pc := 35) hO 0 dX8_meet_35 rfl rfl ?_
        refine gf_X8_wantedPlace (pc := 36) hO f_X8_96 dX8_meet_36 ?_
        refine z_iald (pc := 39) hO isI_31 (by omega) dX8_meet_39 ?_
        refine pf_X8_answer (pc := 40) hO f_X8_90 dX8_meet_40 (fun m10 e11 => ?_)
        refine z_aload_n (pc := 43) hO 0 dX8_meet_43 rfl rfl ?_
        refine z_dup (pc := 44) hO dX8_meet_44 rfl ?_
        refine gf_X8_found (pc := 45) hO f_X8_87 dX8_meet_45 ?_
        refine z_iconst (pc := 48) hO dX8_meet_48 ?_
        refine z_iadd (pc := 49) hO dX8_meet_49 ?_
        refine pf_X8_found (pc := 50) hO f_X8_87 dX8_meet_50 (fun m12 e13 => ?_)
        exact z_vret (pc := 53) hO hr hQ dX8_meet_53 (by first | (subst m12 m10; unfold mtM; first | (rw [if_neg (by omega)]; done) | (rw [if_pos (by omega), up_n x _ (show ¬ ((30 : Nat) = 30 ∧ (12 : Int) = 13) by omega)]; done); done) | (exfalso; omega))

set_option maxHeartbeats 600000 in
theorem c_fillstep (l : Launch) (g : Gl) (x : Me) (k : Int) (n : Int) (E : Int) (G : Int → Int) (e : Int → Int) (r : Nat) (hF : FS x n e E G) (hE : EL n e E k G) (hf : fit n G) (h13 : x 30 13 = -1) (h11 : 0 ≤ x 30 11 ∧ x 30 11 < n * n) (h12 : 0 ≤ x 30 12 ∧ x 30 12 + (sols n e r k G).length ≤ 2000000000) (h10 : -1 ≤ x 30 10 ∧ x 30 10 ≤ 2147483647) (hrk : k + r = E) (IH : ∀ r2 : Nat, r2 < r → ∀ (x : Me) (k n E : Int) (G e : Int → Int), (FS x n e E G) → (EL n e E k G) → (fit n G) → (x 30 13 = -1) → (0 ≤ x 30 11 ∧ x 30 11 < n * n) → (0 ≤ x 30 12 ∧ x 30 12 + (sols n e r2 k G).length ≤ 2000000000) → (-1 ≤ x 30 10 ∧ x 30 10 ≤ 2147483647) → (k + r2 = E) → ctQ l g yX8_fillFrom cX8_fillFrom 5 none (2 * r2 + 8) (40 * r2 + 300) [.ref (gA g 30), .int (zi k)] x (QVu g (fun x' => FS x' n e E G ∧ S9 x x' (sols n e r2 k G) ∧ (∀ b, b ≠ 12 → b ≠ 13 → x' 30 b = x 30 b) ∧ ∀ a, a < 30 ∨ 34 < a → x' a = x a))) : ctQ l g yX8_fillFrom cX8_fillFrom 5 none (2 * r + 8) (40 * r + 300) [.ref (gA g 30), .int (zi k)] x (QVu g (fun x' => FS x' n e E G ∧ S9 x x' (sols n e r k G) ∧ (∀ b, b ≠ 12 → b ≠ 13 → x' 30 b = x 30 b) ∧ ∀ a, a < 30 ∨ 34 < a → x' a = x a)) := by
  refine ct_start (own := RX8) (lv := [(0, .ref (gA g 30)), (1, .int (zi k))]) (plainFor_of_name (by decide)) rfl (Nat.le_of_ble_eq_true rfl) rfl ?_
  intro Γ hΓ hO hr hQ _
  subst hΓ
  obtain ⟨hB, hT, hG, hnum, h6, h36⟩ := id hF
  obtain ⟨k0, eR, eD, eZ, eA⟩ := id hE
  obtain ⟨hn, s7, s8, s35⟩ := id hB
  have h4 := sq4 hn
  have hdu := du_rng hn
  refine z_iload_n (pc := 0) hO 1 dX8_fillFrom_0 rfl rfl ?_
  refine z_aload_n (pc := 1) hO 0 dX8_fillFrom_1 rfl rfl ?_
  refine gf_X8_emptyCount (pc := 2) hO f_X8_69 dX8_fillFrom_2 ?_
  refine z_icmp_ge (pc := 5) hO (tgt := 21) dX8_fillFrom_5 (by decide) (by omega) (by omega) (fun b1 => ?_) (fun b1 => ?_)
  · refine z_aload_n (pc := 21) hO 0 dX8_fillFrom_21 rfl rfl ?_
    refine z_callVV (pc := 22) hO (As := []) (st := []) (c_X8_meet (qL Γ) g x (by first | assumption | omega) (by first | assumption | omega) (by first | assumption | omega)) k_X8_107 isO_30 rfl (Nat.le_of_ble_eq_true rfl) (by omega) (by omega) ⟨by decide, by decide⟩ dX8_fillFrom_22 (fun m3 h4 => ?_)
    exact z_vret (pc := 25) hO hr hQ dX8_fillFrom_25 (by first | (exact mt_9 hF hE hrk (by omega) h13 h11 (by assumption); done) | (exfalso; omega))
  · refine z_iload_n (pc := 8) hO 1 dX8_fillFrom_8 rfl rfl ?_
    refine z_aload_n (pc := 9) hO 0 dX8_fillFrom_9 rfl rfl ?_
    refine gf_X8_empties (pc := 10) hO f_X8_28 dX8_fillFrom_10 ?_
    refine z_alenI (pc := 13) hO isI_36 dX8_fillFrom_13 ?_
    refine z_icmp_ge (pc := 14) hO (tgt := 21) dX8_fillFrom_14 (by decide) (by omega) (by omega) (fun b5 => ?_) (fun b5 => ?_)
    · refine z_aload_n (pc := 21) hO 0 dX8_fillFrom_21 rfl rfl ?_
      refine z_callVV (pc := 22) hO (As := []) (st := []) (c_X8_meet (qL Γ) g x (by first | assumption | omega) (by first | assumption | omega) (by first | assumption | omega)) k_X8_107 isO_30 rfl (Nat.le_of_ble_eq_true rfl) (by omega) (by omega) ⟨by decide, by decide⟩ dX8_fillFrom_22 (fun m7 h8 => ?_)
      exact z_vret (pc := 25) hO hr hQ dX8_fillFrom_25 (by first | (exact mt_9 hF hE hrk (by omega) h13 h11 (by assumption); done) | (exfalso; omega))
    · refine z_iload_n (pc := 17) hO 1 dX8_fillFrom_17 rfl rfl ?_
      refine z_if_ge (pc := 18) hO (tgt := 26) dX8_fillFrom_18 (by decide) (by omega) (fun b9 => ?_) (fun b9 => ?_)
      · obtain ⟨r2, rfl⟩ : ∃ r2, r = r2 + 1 := ⟨r - 1, by omega⟩
        have hek := eR k (by omega) (by omega)
        have hz0 := eZ k (Int.le_refl _) (by omega)
        refine z_aload_n (pc := 26) hO 0 dX8_fillFrom_26 rfl rfl ?_
        refine gf_X8_empties (pc := 27) hO f_X8_28 dX8_fillFrom_27 ?_
        refine z_iload_n (pc := 30) hO 1 dX8_fillFrom_30 rfl rfl ?_
        refine z_iald (pc := 31) hO isI_36 (by omega) dX8_fillFrom_31 ?_
        rw [h36 k (by omega) (by omega)]
        refine z_istore_n (pc := 32) hO (lv' := [(2, .int (zi (e k))), (0, .ref (gA g 30)), (1, .int (zi k))]) dX8_fillFrom_32 rfl (by decide) rfl ?_
        refine z_aload_n (pc := 33) hO 1 dX8_fillFrom_33 rfl rfl ?_
        refine z_iload_n (pc := 34) hO 0 dX8_fillFrom_34 rfl rfl ?_
        refine z_callVIq (pc := 35) hO (As := [.int (zi (e k))]) (st := []) (c_X8_highestAt (qL Γ) g x (e k) n G (by first | assumption | omega) (by first | assumption | omega) (by first | assumption | omega) (by first | assumption | omega)) k_X8_110 isO_30 rfl (Nat.le_of_ble_eq_true rfl) (by omega) (by omega) ⟨by decide, by decide⟩ dX8_fillFrom_35 (fun hi h11 => ?_)
        obtain ⟨hhi, hhr⟩ := h11
        refine z_istore_n (pc := 38) hO (lv' := [(3, .int (zi hi)), (2, .int (zi (e k))), (0, .ref (gA g 30)), (1, .int (zi k))]) dX8_fillFrom_38 rfl (by decide) rfl ?_
        refine z_aload_n (pc := 39) hO 2 dX8_fillFrom_39 rfl rfl ?_
        refine z_iload_n (pc := 40) hO 1 dX8_fillFrom_40 rfl rfl ?_
        refine z_callVIq (pc := 41) hO (As := [.int (zi (e k))]) (st := []) (c_X8_lowestAt (qL Γ) g x (e k) n G (by first | assumption | omega) (by first | assumption | omega) (by first | assumption | omega) (by first | assumption | omega)) k_X8_113 isO_30 rfl (Nat.le_of_ble_eq_true rfl) (by omega) (by omega) ⟨by decide, by decide⟩ dX8_fillFrom_41 (fun lo h13 => ?_)
        obtain ⟨hlo, hlr⟩ := h13
        have hb := bnd hB hT hek hz0 hf hlo hhi
        have hlo1 : 1 ≤ lo := ((hlo lo).mp (Int.le_refl _)).1
        refine z_istore (pc := 44) hO (lv' := [(4, .int (zi lo)), (3, .int (zi hi)), (2, .int (zi (e k))), (0, .ref (gA g 30)), (1, .int (zi k))]) dX8_fillFrom_44 (by decide) rfl ?_
        have L46 : ∀ (N : Nat) (v : Int) (y : Me), (hi + 1 - v).toNat < N → (lo ≤ v ∧ v ≤ 100001) → (FS y n e E G) → (S9 x y (vls (FvL n e r2 k G) (v - 1).toNat)) → ((∀ b, b ≠ 12 → b ≠ 13 → y 30 b = x 30 b) ∧ ∀ a, a < 30 ∨ 34 < a → y a = x a) → Zz Γ g 5 0 0 y 46 [(0, .ref (gA g 30)), (1, .int (zi k)), (2, .int (zi (e k))), (3, .int (zi hi)), (4, .int (zi v))] [] := by
          intro N
          induction N with
          | zero => intro v y hm; exact absurd hm (Nat.not_lt_zero _)
          | succ N ih46 =>
            intro v y hm hv1 hFy hS hyf
            have h613 : y 30 13 = -1 ∨ (1 ≤ y 30 13 ∧ y 30 13 ≤ 16) := by rcases hS with ⟨_, _, q⟩ | ⟨_, q, _⟩; exact Or.inr q; exact Or.inl q
            have h612 : y 30 13 = -1 → y 30 12 = x 30 12 + (vls (FvL n e r2 k G) (v - 1).toNat).length := fun q => by rcases hS with ⟨_, _, q2⟩ | ⟨_, _, q2⟩; omega; exact q2
            refine z_iload (pc := 46) hO 4 dX8_fillFrom_46 rfl ?_
            refine z_iload_n (pc := 48) hO 3 dX8_fillFrom_48 rfl rfl ?_
            refine z_icmp_gt (pc := 49) hO (tgt := 96) dX8_fillFrom_49 (by decide) (by omega) (by omega) (fun b14 => ?_) (fun b14 => ?_)
            · exact z_vret (pc := 96) hO hr hQ dX8_fillFrom_96 (by first | (refine ⟨hFy, ?_, hyf⟩; first | (rw [vls_all (by omega) hb (by omega) (by assumption)] at hS; exact hS) | (obtain ⟨R, hR⟩ := vls_pre (FvL n e r2 k G) (show (v - 1).toNat ≤ (n * n).toNat by have := (hhi v).mp (by omega); have := this.1; omega); rw [sols_v, hR]; exact S9_app hS (by assumption)); done) | (exfalso; omega))
            · refine z_aload_n (pc := 52) hO 0 dX8_fillFrom_52 rfl rfl ?_
              refine gf_X8_answer (pc := 53) hO f_X8_90 dX8_fillFrom_53 ?_
              refine z_iconst (pc := 56) hO dX8_fillFrom_56 ?_
              refine z_icmp_ne (pc := 57) hO (tgt := 96) dX8_fillFrom_57 (by decide) (by omega) (by omega) (fun b15 => ?_) (fun b15 => ?_)
              · exact z_vret (pc := 96) hO hr hQ dX8_fillFrom_96 (by first | (refine ⟨hFy, ?_, hyf⟩; first | (rw [vls_all (by omega) hb (by omega) (by assumption)] at hS; exact hS) | (obtain ⟨R, hR⟩ := vls_pre (FvL n e r2 k G) (show (v - 1).toNat ≤ (n * n).toNat by have := (hhi v).mp (by omega); have := this.1; omega); rw [sols_v, hR]; exact S9_app hS (by assumption)); done) | (exfalso; omega))
              · have h12y := h612 (by assumption)
                refine z_aload_n (pc := 60) hO 0 dX8_fillFrom_60 rfl rfl ?_
                refine z_iload (pc := 61) hO 4 dX8_fillFrom_61 rfl ?_
                refine z_callVB (pc := 63) hO (As := [.int (zi v)]) (st := []) (c_X8_isFree (qL Γ) g y v n (by exact hFy.1) (by exact ST_z hFy.2.1) (by first | assumption | omega)) k_X8_54 isO_30 rfl (Nat.le_of_ble_eq_true rfl) (by omega) (by omega) ⟨by decide, by decide⟩ dX8_fillFrom_63 (fun pb16 => ?_) (fun pb16 => ?_)
                · skip
                  have hfr := pb16
                  refine z_if_eq (pc := 66) hO (tgt := 90) dX8_fillFrom_66 (by decide) (by decide) (fun h => absurd h (by decide)) (fun _ => ?_)
                  refine z_aload_n (pc := 69) hO 0 dX8_fillFrom_69 rfl rfl ?_
                  refine z_iload_n (pc := 70) hO 2 dX8_fillFrom_70 rfl rfl ?_
                  refine z_iload (pc := 71) hO 4 dX8_fillFrom_71 rfl ?_
                  refine z_callVV (pc := 73) hO (As := [.int (zi (e k)), .int (zi v)]) (st := []) (c_X8_lay (qL Γ) g y (e k) v n G (by exact hFy.1) (by exact hFy.2.1) (by first | assumption | omega) (by first | assumption | omega) (by exact hfr.1) (by exact hfr.2)) k_X8_58 isO_30 rfl (Nat.le_of_ble_eq_true rfl) (by omega) (by omega) ⟨by decide, by decide⟩ dX8_fillFrom_73 (fun m18 h19 => ?_)
                  have hx32 : x 32 v = 0 := by rw [hT.2 v (by omega) (by omega), ← hFy.2.1.2 v (by omega) (by omega)]; exact hfr.2
                  have hfv : 1 ≤ v ∧ fit n (uf G (e k) v) := (hb v).mpr ⟨by omega, by omega, hfr.1, hx32⟩
                  have hlay := h19
                  have hFl := FS_lay hFy hek hz0 hfr.1 h19
                  have hEl := EL_s hE (by omega) (show v ≠ 0 by omega)
                  have e30 : m18 30 = y 30 := h19.2.2.2 30 (by omega) (by omega) (by omega) (by omega)
                  have hFvE : FvL n e r2 k G v = sols n e r2 (k + 1) (uf G (e k) v) := ci_t hfv.2
                  have hD1 : vls (FvL n e r2 k G) v.toNat = vls (FvL n e r2 k G) (v - 1).toNat ++ FvL n e r2 k G v := vls_s _ (by omega)
                  have hlen : ((vls (FvL n e r2 k G) (v - 1).toNat).length : Int) + (sols n e r2 (k + 1) (uf G (e k) v)).length ≤ (sols n e (r2 + 1) k G).length := by obtain ⟨R, hR⟩ := vls_pre (FvL n e r2 k G) (show v.toNat ≤ (n * n).toNat by omega); rw [sols_v, hR, hD1, hFvE, List.length_append, List.length_append]; omega
                  refine z_aload_n (pc := 76) hO 0 dX8_fillFrom_76 rfl rfl ?_
                  refine z_iload_n (pc := 77) hO 1 dX8_fillFrom_77 rfl rfl ?_
                  refine z_iconst (pc := 78) hO dX8_fillFrom_78 ?_
                  refine z_iadd (pc := 79) hO dX8_fillFrom_79 ?_
                  refine z_callSV (pc := 80) hO (As := [.ref (gA g 30), .int (zi (k + 1))]) (st := []) (IH r2 (by omega) m18 (k + 1) n E (uf G (e k) v) e hFl hEl hfv.2 (by rw [e30]; assumption) (by rw [e30, hyf.1 11 (by omega) (by omega)]; exact h11) (by rw [e30]; omega) (by rw [e30, hyf.1 10 (by omega) (by omega)]; exact h10) (by omega)) k_X8_103 rfl (Nat.le_of_ble_eq_true rfl) (by omega) (by omega) ⟨by decide, by decide⟩ dX8_fillFrom_80 (fun m21 h22 => ?_)
                  obtain ⟨hFq, hSq, hq1, hq2⟩ := h22
                  have hnu : ¬ usd n G v := fun q => by have := hFy.2.1.2 v (by omega) (by omega); rw [bi_t q] at this; omega
                  refine z_aload_n (pc := 83) hO 0 dX8_fillFrom_83 rfl rfl ?_
                  refine z_iload_n (pc := 84) hO 2 dX8_fillFrom_84 rfl rfl ?_
                  refine z_iload (pc := 85) hO 4 dX8_fillFrom_85 rfl ?_
                  refine z_callVV (pc := 87) hO (As := [.int (zi (e k)), .int (zi v)]) (st := []) (c_X8_lift (qL Γ) g m21 (e k) v n G (by exact hFq.1) (by exact hFq.2.1) (by first | assumption | omega) (by first | assumption | omega) (by exact hfr.1) (by exact hnu)) k_X8_116 isO_30 rfl (Nat.le_of_ble_eq_true rfl) (by omega) (by omega) ⟨by decide, by decide⟩ dX8_fillFrom_87 (fun m24 h25 => ?_)
                  have hFz := FS_lift hFq hG hz0 h25
                  have e30z : m24 30 = _ := h25.2 30 (by omega) (by omega) (by omega)
                  have hSz := S9_cat hS (by assumption) (fun b hb => hyf.1 b (by omega) (by omega)) e30 hSq e30z
                  rw [← hFvE, ← hD1] at hSz
                  have hzf : (∀ b, b ≠ 12 → b ≠ 13 → m24 30 b = x 30 b) ∧ ∀ a, a < 30 ∨ 34 < a → m24 a = x a := ⟨fun b b1 b2 => by rw [e30z, hq1 b b1 b2, e30]; exact hyf.1 b b1 b2, fun a ha => by rw [h25.2 a (by omega) (by omega) (by omega), hq2 a ha, hlay.2.2.2 a (by omega) (by omega) (by omega) (by omega)]; exact hyf.2 a ha⟩
                  refine z_iinc (pc := 90) hO 4 (lv' := [(4, .int (zi (v + 1))), (0, .ref (gA g 30)), (1, .int (zi k)), (2, .int (zi (e k))), (3, .int (zi hi))]) dX8_fillFrom_90 rfl (by decide) rfl ?_
                  refine z_goto (pc := 93) hO (tgt := 46) dX8_fillFrom_93 (by decide) ?_
                  refine z_sub [1, 2, 3, 4, 0] rfl ?_
                  exact ih46 (v + 1) m24 (by omega) (by omega) (by first | exact hFz | exact hFy) (by rw [show v + 1 - 1 = v by omega]; first | exact hSz | (rw [vls_s _ (by omega), FvL_out hb (by omega) (Or.inr (by by_cases q : v ≤ n * n; (right; right; intro q2; rw [hT.2 v (by omega) (by omega), ← hFy.2.1.2 v (by omega) (by omega)] at q2; exact hnf ⟨⟨by omega, q⟩, q2⟩); omega)), List.append_nil]; exact hS)) (by first | exact hzf | exact hyf)
                · skip
                  have hnf := pb16
                  refine z_if_eq (pc := 66) hO (tgt := 90) dX8_fillFrom_66 (by decide) (by decide) (fun _ => ?_) (fun h => absurd h (by decide))
                  refine z_iinc (pc := 90) hO 4 (lv' := [(4, .int (zi (v + 1))), (0, .ref (gA g 30)), (1, .int (zi k)), (2, .int (zi (e k))), (3, .int (zi hi))]) dX8_fillFrom_90 rfl (by decide) rfl ?_
                  refine z_goto (pc := 93) hO (tgt := 46) dX8_fillFrom_93 (by decide) ?_
                  refine z_sub [1, 2, 3, 4, 0] rfl ?_
                  exact ih46 (v + 1) y (by omega) (by omega) (by first | exact hFz | exact hFy) (by rw [show v + 1 - 1 = v by omega]; first | exact hSz | (rw [vls_s _ (by omega), FvL_out hb (by omega) (Or.inr (by by_cases q : v ≤ n * n; (right; right; intro q2; rw [hT.2 v (by omega) (by omega), ← hFy.2.1.2 v (by omega) (by omega)] at q2; exact hnf ⟨⟨by omega, q⟩, q2⟩); omega)), List.append_nil]; exact hS)) (by first | exact hzf | exact hyf)
        refine z_sub [3, 4, 2, 1, 0] rfl ?_
        exact L46 _ lo x (Nat.lt_succ_self _) (by omega) (by exact hF) (by rw [vls_lo hb hlo1]; exact S9_0 h13) (by exact ⟨fun _ _ _ => rfl, fun _ _ => rfl⟩)
      · refine z_aload_n (pc := 21) hO 0 dX8_fillFrom_21 rfl rfl ?_
        refine z_callVV (pc := 22) hO (As := []) (st := []) (c_X8_meet (qL Γ) g x (by first | assumption | omega) (by first | assumption | omega) (by first | assumption | omega)) k_X8_107 isO_30 rfl (Nat.le_of_ble_eq_true rfl) (by omega) (by omega) ⟨by decide, by decide⟩ dX8_fillFrom_22 (fun m27 h28 => ?_)
        exact z_vret (pc := 25) hO hr hQ dX8_fillFrom_25 (by first | (exact mt_9 hF hE hrk (by omega) h13 h11 (by assumption); done) | (exfalso; omega))

theorem c_X8_fillFrom (l : Launch) (g : Gl) : ∀ (r : Nat) (x : Me) (k n E : Int) (G e : Int → Int), (FS x n e E G) → (EL n e E k G) → (fit n G) → (x 30 13 = -1) → (0 ≤ x 30 11 ∧ x 30 11 < n * n) → (0 ≤ x 30 12 ∧ x 30 12 + (sols n e r k G).length ≤ 2000000000) → (-1 ≤ x 30 10 ∧ x 30 10 ≤ 2147483647) → (k + r = E) → ctQ l g yX8_fillFrom cX8_fillFrom 5 none (2 * r + 8) (40 * r + 300) [.ref (gA g 30), .int (zi k)] x (QVu g (fun x' => FS x' n e E G ∧ S9 x x' (sols n e r k G) ∧ (∀ b, b ≠ 12 → b ≠ 13 → x' 30 b = x 30 b) ∧ ∀ a, a < 30 ∨ 34 < a → x' a = x a)) := fun r => Nat.strongRecOn r (fun r IH x k n E G e h1 h2 h3 h4 h5 h6 h7 h8 => c_fillstep l g x k n E G e r h1 h2 h3 h4 h5 h6 h7 h8 IH)
