set_option maxHeartbeats 4000000 in
theorem c_X10_addRow (l : Launch) (g : Gl) (x : Me)  (c : List Int) (st : List (Int × List Int)) (hv : VM x 45 c) (hS : SP x st) : ctQ l g yX10_addRow cX10_addRow 2 none 3 72 [.ref (gA g 42)] x (QVu g (fun x' => SP x' (adL st c) ∧ x' 42 4 = x 42 4 ∧ ∀ a, a ≠ 42 → a ≠ 44 → a ≠ 45 → ¬ (100 ≤ a ∧ a < 138) → x' a = x a)) := by
  refine ct_start (own := RX10) (lv := [(0, .ref (gA g 42))]) (plainFor_of_name (by decide)) rfl (Nat.le_of_ble_eq_true rfl) rfl ?_
  intro Γ hΓ hO hr hQ _
  obtain ⟨s1, s2, s3⟩ := id hS
  refine z_iconst (pc := 0) hO dX10_addRow_0 ?_
  refine z_istore_n (pc := 1) hO (lv' := [(1, .int (zi 0)), (0, .ref (gA g 42))]) dX10_addRow_1 rfl (by decide) rfl ?_
  have L2 : ∀ (N : Nat) (i : Int) (y : Me), (x 42 3 - i).toNat < N → (0 ≤ i ∧ i ≤ x 42 3) → (VM y 45 (rdA (st.take i.toNat) c)) → (∀ a, a ≠ 45 → y a = x a) → Zz Γ g 2 0 0 y 2 [(0, .ref (gA g 42)), (1, .int (zi i))] [] := by
    intro N
    induction N with
    | zero => intro i y hm; exact absurd hm (Nat.not_lt_zero _)
    | succ N ih2 =>
      intro i y hm h0 hA hfr
      have hy42 : y 42 3 = x 42 3 := by rw [hfr 42 (by omega)]
      refine z_iload_n (pc := 2) hO 1 dX10_addRow_2 rfl rfl ?_
      refine z_aload_n (pc := 3) hO 0 dX10_addRow_3 rfl rfl ?_
      refine gf_X10_rank (pc := 4) hO f_X10_27 dX10_addRow_4 ?_
      refine z_icmp_ge (pc := 7) hO (tgt := 50) dX10_addRow_7 (by decide) (by omega) (by omega) (fun b1 => ?_) (fun b1 => ?_)
      · have hz : rdA (st.take i.toNat) c = rdA st c := by rw [show i.toNat = st.length by omega, List.take_length]
        rw [hz] at hA
        refine z_aload_n (pc := 50) hO 0 dX10_addRow_50 rfl rfl ?_
        refine z_callVIq (pc := 51) hO (As := []) (st := []) (c_X10_leadOfRow (qL Γ) g y (rdA st c) (by exact hA)) k_X10_61 isO_42 rfl (Nat.le_of_ble_eq_true rfl) (by decide) (by decide) ⟨by decide, by decide⟩ dX10_addRow_51 (fun ld h3 => ?_)
        obtain ⟨hld, hlr⟩ := h3
        refine z_istore_n (pc := 54) hO (lv' := [(1, .int (zi ld)), (0, .ref (gA g 42))]) dX10_addRow_54 rfl (by decide) rfl ?_
        refine z_iload_n (pc := 55) hO 0 dX10_addRow_55 rfl rfl ?_
        refine z_iconst (pc := 56) hO dX10_addRow_56 ?_
        refine z_icmp_eq (pc := 57) hO (tgt := 124) dX10_addRow_57 (by decide) (by omega) (by omega) (fun b4 => ?_) (fun b4 => ?_)
        · exact z_vret (pc := 124) hO hr hQ dX10_addRow_124 (by first | (first | (refine ⟨?_, by rw [hfr 42 (by omega)], fun a a1 a2 a3 a4 => hfr a a3⟩; unfold adL; rw [if_pos (Or.inl (by rw [← hld]; assumption))]; exact SP_of hS hy42 (hfr 44 (by omega)) (fun k hk => hfr _ (by omega))) | (refine ⟨?_, by rw [hfr 42 (by omega)], fun a a1 a2 a3 a4 => hfr a a3⟩; unfold adL; rw [if_pos (Or.inr (by omega))]; exact SP_of hS hy42 (hfr 44 (by omega)) (fun k hk => hfr _ (by omega))) | exact adR_end hS hy42 hfr hA hld hlr (by assumption) (by omega) e44 hcp hcf (by assumption); done) | (exfalso; omega))
        · refine z_aload_n (pc := 60) hO 1 dX10_addRow_60 rfl rfl ?_
          refine gf_X10_rank (pc := 61) hO f_X10_27 dX10_addRow_61 ?_
          refine z_if_lt (pc := 64) hO (tgt := 124) dX10_addRow_64 (by decide) (by omega) (fun b5 => ?_) (fun b5 => ?_)
          · exact z_vret (pc := 124) hO hr hQ dX10_addRow_124 (by first | (first | (refine ⟨?_, by rw [hfr 42 (by omega)], fun a a1 a2 a3 a4 => hfr a a3⟩; unfold adL; rw [if_pos (Or.inl (by rw [← hld]; assumption))]; exact SP_of hS hy42 (hfr 44 (by omega)) (fun k hk => hfr _ (by omega))) | (refine ⟨?_, by rw [hfr 42 (by omega)], fun a a1 a2 a3 a4 => hfr a a3⟩; unfold adL; rw [if_pos (Or.inr (by omega))]; exact SP_of hS hy42 (hfr 44 (by omega)) (fun k hk => hfr _ (by omega))) | exact adR_end hS hy42 hfr hA hld hlr (by assumption) (by omega) e44 hcp hcf (by assumption); done) | (exfalso; omega))
          · refine z_aload_n (pc := 67) hO 1 dX10_addRow_67 rfl rfl ?_
            refine gf_X10_rank (pc := 68) hO f_X10_27 dX10_addRow_68 ?_
            refine z_aload_n (pc := 71) hO 1 dX10_addRow_71 rfl rfl ?_
            refine gf_X10_rows (pc := 72) hO f_X10_13 dX10_addRow_72 ?_
            refine z_alenR (pc := 75) hO dX10_addRow_75 ?_
            refine z_icmp_ge (pc := 76) hO (tgt := 124) dX10_addRow_76 (by decide) (by omega) (by omega) (fun b6 => ?_) (fun b6 => ?_)
            · exact z_vret (pc := 124) hO hr hQ dX10_addRow_124 (by first | (first | (refine ⟨?_, by rw [hfr 42 (by omega)], fun a a1 a2 a3 a4 => hfr a a3⟩; unfold adL; rw [if_pos (Or.inl (by rw [← hld]; assumption))]; exact SP_of hS hy42 (hfr 44 (by omega)) (fun k hk => hfr _ (by omega))) | (refine ⟨?_, by rw [hfr 42 (by omega)], fun a a1 a2 a3 a4 => hfr a a3⟩; unfold adL; rw [if_pos (Or.inr (by omega))]; exact SP_of hS hy42 (hfr 44 (by omega)) (fun k hk => hfr _ (by omega))) | exact adR_end hS hy42 hfr hA hld hlr (by assumption) (by omega) e44 hcp hcf (by assumption); done) | (exfalso; omega))
            · refine z_aload_n (pc := 79) hO 1 dX10_addRow_79 rfl rfl ?_
              refine gf_X10_rank (pc := 80) hO f_X10_27 dX10_addRow_80 ?_
              refine z_aload_n (pc := 83) hO 1 dX10_addRow_83 rfl rfl ?_
              refine gf_X10_leads (pc := 84) hO f_X10_16 dX10_addRow_84 ?_
              refine z_alenI (pc := 87) hO isI_44 dX10_addRow_87 ?_
              refine z_icmp_ge (pc := 88) hO (tgt := 124) dX10_addRow_88 (by decide) (by omega) (by omega) (fun b7 => ?_) (fun b7 => ?_)
              · exact z_vret (pc := 124) hO hr hQ dX10_addRow_124 (by first | (first | (refine ⟨?_, by rw [hfr 42 (by omega)], fun a a1 a2 a3 a4 => hfr a a3⟩; unfold adL; rw [if_pos (Or.inl (by rw [← hld]; assumption))]; exact SP_of hS hy42 (hfr 44 (by omega)) (fun k hk => hfr _ (by omega))) | (refine ⟨?_, by rw [hfr 42 (by omega)], fun a a1 a2 a3 a4 => hfr a a3⟩; unfold adL; rw [if_pos (Or.inr (by omega))]; exact SP_of hS hy42 (hfr 44 (by omega)) (fun k hk => hfr _ (by omega))) | exact adR_end hS hy42 hfr hA hld hlr (by assumption) (by omega) e44 hcp hcf (by assumption); done) | (exfalso; omega))
              · refine z_aload_n (pc := 91) hO 1 dX10_addRow_91 rfl rfl ?_
                refine gf_X10_leads (pc := 92) hO f_X10_16 dX10_addRow_92 ?_
                refine z_aload_n (pc := 95) hO 1 dX10_addRow_95 rfl rfl ?_
                refine gf_X10_rank (pc := 96) hO f_X10_27 dX10_addRow_96 ?_
                refine z_iload_n (pc := 99) hO 0 dX10_addRow_99 rfl rfl ?_
                refine z_iast (pc := 100) hO isI_44 (by omega) dX10_addRow_100 (fun m8 e9 => ?_)
                have e44 := e9
                have h742 : m8 42 3 = y 42 3 := by rw [e9, up_i _ _ _ (by omega)]
                refine z_aload_n (pc := 101) hO 1 dX10_addRow_101 rfl rfl ?_
                refine z_aload_n (pc := 102) hO 1 dX10_addRow_102 rfl rfl ?_
                refine gf_X10_rows (pc := 103) hO f_X10_13 dX10_addRow_103 ?_
                refine z_aload_n (pc := 106) hO 1 dX10_addRow_106 rfl rfl ?_
                refine gf_X10_rank (pc := 107) hO f_X10_27 dX10_addRow_107 ?_
                refine z_srowsI (pc := 110) hO (by omega) dX10_addRow_110 ?_
                refine z_callVV (pc := 111) hO (As := [.ref (gA g (100 + (m8 42 3).toNat))]) (st := []) (c_X10_copyRowTo (qL Γ) g m8 ((m8 42 3).toNat) (rdA st c) (by exact VM_of hA (by rw [e44, up_i _ _ _ (by omega)])) (by omega)) k_X10_65 isO_42 rfl (Nat.le_of_ble_eq_true rfl) (by decide) (by decide) ⟨by decide, by decide⟩ dX10_addRow_111 (fun m11 h12 => ?_)
                obtain ⟨hcp, hcf⟩ := h12
                refine z_aload_n (pc := 114) hO 1 dX10_addRow_114 rfl rfl ?_
                refine z_dup (pc := 115) hO dX10_addRow_115 rfl ?_
                refine gf_X10_rank (pc := 116) hO f_X10_27 dX10_addRow_116 ?_
                refine z_iconst (pc := 119) hO dX10_addRow_119 ?_
                refine z_iadd (pc := 120) hO dX10_addRow_120 ?_
                refine pf_X10_rank (pc := 121) hO f_X10_27 dX10_addRow_121 (fun m13 e14 => ?_)
                exact z_vret (pc := 124) hO hr hQ dX10_addRow_124 (by first | (first | (refine ⟨?_, by rw [hfr 42 (by omega)], fun a a1 a2 a3 a4 => hfr a a3⟩; unfold adL; rw [if_pos (Or.inl (by rw [← hld]; assumption))]; exact SP_of hS hy42 (hfr 44 (by omega)) (fun k hk => hfr _ (by omega))) | (refine ⟨?_, by rw [hfr 42 (by omega)], fun a a1 a2 a3 a4 => hfr a a3⟩; unfold adL; rw [if_pos (Or.inr (by omega))]; exact SP_of hS hy42 (hfr 44 (by omega)) (fun k hk => hfr _ (by omega))) | exact adR_end hS hy42 hfr hA hld hlr (by assumption) (by omega) e44 hcp hcf (by assumption); done) | (exfalso; omega))
      · obtain ⟨q, hq⟩ : ∃ q, st[i.toNat]? = some q := ⟨_, List.getElem?_eq_getElem (show i.toNat < st.length by omega)⟩
        have hs3 := s3 i.toNat q hq
        rw [Int.toNat_of_nonneg h0.1] at hs3
        refine z_iload_n (pc := 10) hO 1 dX10_addRow_10 rfl rfl ?_
        refine z_aload_n (pc := 11) hO 0 dX10_addRow_11 rfl rfl ?_
        refine gf_X10_rows (pc := 12) hO f_X10_13 dX10_addRow_12 ?_
        refine z_alenR (pc := 15) hO dX10_addRow_15 ?_
        refine z_icmp_ge (pc := 16) hO (tgt := 50) dX10_addRow_16 (by decide) (by omega) (by omega) (fun b15 => ?_) (fun b15 => ?_)
        · have hz : rdA (st.take i.toNat) c = rdA st c := by rw [show i.toNat = st.length by omega, List.take_length]
          rw [hz] at hA
          refine z_aload_n (pc := 50) hO 0 dX10_addRow_50 rfl rfl ?_
          refine z_callVIq (pc := 51) hO (As := []) (st := []) (c_X10_leadOfRow (qL Γ) g y (rdA st c) (by exact hA)) k_X10_61 isO_42 rfl (Nat.le_of_ble_eq_true rfl) (by decide) (by decide) ⟨by decide, by decide⟩ dX10_addRow_51 (fun ld h17 => ?_)
          obtain ⟨hld, hlr⟩ := h17
          refine z_istore_n (pc := 54) hO (lv' := [(1, .int (zi ld)), (0, .ref (gA g 42))]) dX10_addRow_54 rfl (by decide) rfl ?_
          refine z_iload_n (pc := 55) hO 0 dX10_addRow_55 rfl rfl ?_
          refine z_iconst (pc := 56) hO dX10_addRow_56 ?_
          refine z_icmp_eq (pc := 57) hO (tgt := 124) dX10_addRow_57 (by decide) (by omega) (by omega) (fun b18 => ?_) (fun b18 => ?_)
          · exact z_vret (pc := 124) hO hr hQ dX10_addRow_124 (by first | (first | (refine ⟨?_, by rw [hfr 42 (by omega)], fun a a1 a2 a3 a4 => hfr a a3⟩; unfold adL; rw [if_pos (Or.inl (by rw [← hld]; assumption))]; exact SP_of hS hy42 (hfr 44 (by omega)) (fun k hk => hfr _ (by omega))) | (refine ⟨?_, by rw [hfr 42 (by omega)], fun a a1 a2 a3 a4 => hfr a a3⟩; unfold adL; rw [if_pos (Or.inr (by omega))]; exact SP_of hS hy42 (hfr 44 (by omega)) (fun k hk => hfr _ (by omega))) | exact adR_end hS hy42 hfr hA hld hlr (by assumption) (by omega) e44 hcp hcf (by assumption); done) | (exfalso; omega))
          · refine z_aload_n (pc := 60) hO 1 dX10_addRow_60 rfl rfl ?_
            refine gf_X10_rank (pc := 61) hO f_X10_27 dX10_addRow_61 ?_
            refine z_if_lt (pc := 64) hO (tgt := 124) dX10_addRow_64 (by decide) (by omega) (fun b19 => ?_) (fun b19 => ?_)
            · exact z_vret (pc := 124) hO hr hQ dX10_addRow_124 (by first | (first | (refine ⟨?_, by rw [hfr 42 (by omega)], fun a a1 a2 a3 a4 => hfr a a3⟩; unfold adL; rw [if_pos (Or.inl (by rw [← hld]; assumption))]; exact SP_of hS hy42 (hfr 44 (by omega)) (fun k hk => hfr _ (by omega))) | (refine ⟨?_, by rw [hfr 42 (by omega)], fun a a1 a2 a3 a4 => hfr a a3⟩; unfold adL; rw [if_pos (Or.inr (by omega))]; exact SP_of hS hy42 (hfr 44 (by omega)) (fun k hk => hfr _ (by omega))) | exact adR_end hS hy42 hfr hA hld hlr (by assumption) (by omega) e44 hcp hcf (by assumption); done) | (exfalso; omega))
            · refine z_aload_n (pc := 67) hO 1 dX10_addRow_67 rfl rfl ?_
              refine gf_X10_rank (pc := 68) hO f_X10_27 dX10_addRow_68 ?_
              refine z_aload_n (pc := 71) hO 1 dX10_addRow_71 rfl rfl ?_
              refine gf_X10_rows (pc := 72) hO f_X10_13 dX10_addRow_72 ?_
              refine z_alenR (pc := 75) hO dX10_addRow_75 ?_
              refine z_icmp_ge (pc := 76) hO (tgt := 124) dX10_addRow_76 (by decide) (by omega) (by omega) (fun b20 => ?_) (fun b20 => ?_)
              · exact z_vret (pc := 124) hO hr hQ dX10_addRow_124 (by first | (first | (refine ⟨?_, by rw [hfr 42 (by omega)], fun a a1 a2 a3 a4 => hfr a a3⟩; unfold adL; rw [if_pos (Or.inl (by rw [← hld]; assumption))]; exact SP_of hS hy42 (hfr 44 (by omega)) (fun k hk => hfr _ (by omega))) | (refine ⟨?_, by rw [hfr 42 (by omega)], fun a a1 a2 a3 a4 => hfr a a3⟩; unfold adL; rw [if_pos (Or.inr (by omega))]; exact SP_of hS hy42 (hfr 44 (by omega)) (fun k hk => hfr _ (by omega))) | exact adR_end hS hy42 hfr hA hld hlr (by assumption) (by omega) e44 hcp hcf (by assumption); done) | (exfalso; omega))
              · refine z_aload_n (pc := 79) hO 1 dX10_addRow_79 rfl rfl ?_
                refine gf_X10_rank (pc := 80) hO f_X10_27 dX10_addRow_80 ?_
                refine z_aload_n (pc := 83) hO 1 dX10_addRow_83 rfl rfl ?_
                refine gf_X10_leads (pc := 84) hO f_X10_16 dX10_addRow_84 ?_
                refine z_alenI (pc := 87) hO isI_44 dX10_addRow_87 ?_
                refine z_icmp_ge (pc := 88) hO (tgt := 124) dX10_addRow_88 (by decide) (by omega) (by omega) (fun b21 => ?_) (fun b21 => ?_)
                · exact z_vret (pc := 124) hO hr hQ dX10_addRow_124 (by first | (first | (refine ⟨?_, by rw [hfr 42 (by omega)], fun a a1 a2 a3 a4 => hfr a a3⟩; unfold adL; rw [if_pos (Or.inl (by rw [← hld]; assumption))]; exact SP_of hS hy42 (hfr 44 (by omega)) (fun k hk => hfr _ (by omega))) | (refine ⟨?_, by rw [hfr 42 (by omega)], fun a a1 a2 a3 a4 => hfr a a3⟩; unfold adL; rw [if_pos (Or.inr (by omega))]; exact SP_of hS hy42 (hfr 44 (by omega)) (fun k hk => hfr _ (by omega))) | exact adR_end hS hy42 hfr hA hld hlr (by assumption) (by omega) e44 hcp hcf (by assumption); done) | (exfalso; omega))
                · refine z_aload_n (pc := 91) hO 1 dX10_addRow_91 rfl rfl ?_
                  refine gf_X10_leads (pc := 92) hO f_X10_16 dX10_addRow_92 ?_
                  refine z_aload_n (pc := 95) hO 1 dX10_addRow_95 rfl rfl ?_
                  refine gf_X10_rank (pc := 96) hO f_X10_27 dX10_addRow_96 ?_
                  refine z_iload_n (pc := 99) hO 0 dX10_addRow_99 rfl rfl ?_
                  refine z_iast (pc := 100) hO isI_44 (by omega) dX10_addRow_100 (fun m22 e23 => ?_)
                  have e44 := e23
                  have h742 : m22 42 3 = y 42 3 := by rw [e23, up_i _ _ _ (by omega)]
                  refine z_aload_n (pc := 101) hO 1 dX10_addRow_101 rfl rfl ?_
                  refine z_aload_n (pc := 102) hO 1 dX10_addRow_102 rfl rfl ?_
                  refine gf_X10_rows (pc := 103) hO f_X10_13 dX10_addRow_103 ?_
                  refine z_aload_n (pc := 106) hO 1 dX10_addRow_106 rfl rfl ?_
                  refine gf_X10_rank (pc := 107) hO f_X10_27 dX10_addRow_107 ?_
                  refine z_srowsI (pc := 110) hO (by omega) dX10_addRow_110 ?_
                  refine z_callVV (pc := 111) hO (As := [.ref (gA g (100 + (m22 42 3).toNat))]) (st := []) (c_X10_copyRowTo (qL Γ) g m22 ((m22 42 3).toNat) (rdA st c) (by exact VM_of hA (by rw [e44, up_i _ _ _ (by omega)])) (by omega)) k_X10_65 isO_42 rfl (Nat.le_of_ble_eq_true rfl) (by decide) (by decide) ⟨by decide, by decide⟩ dX10_addRow_111 (fun m25 h26 => ?_)
                  obtain ⟨hcp, hcf⟩ := h26
                  refine z_aload_n (pc := 114) hO 1 dX10_addRow_114 rfl rfl ?_
                  refine z_dup (pc := 115) hO dX10_addRow_115 rfl ?_
                  refine gf_X10_rank (pc := 116) hO f_X10_27 dX10_addRow_116 ?_
                  refine z_iconst (pc := 119) hO dX10_addRow_119 ?_
                  refine z_iadd (pc := 120) hO dX10_addRow_120 ?_
                  refine pf_X10_rank (pc := 121) hO f_X10_27 dX10_addRow_121 (fun m27 e28 => ?_)
                  exact z_vret (pc := 124) hO hr hQ dX10_addRow_124 (by first | (first | (refine ⟨?_, by rw [hfr 42 (by omega)], fun a a1 a2 a3 a4 => hfr a a3⟩; unfold adL; rw [if_pos (Or.inl (by rw [← hld]; assumption))]; exact SP_of hS hy42 (hfr 44 (by omega)) (fun k hk => hfr _ (by omega))) | (refine ⟨?_, by rw [hfr 42 (by omega)], fun a a1 a2 a3 a4 => hfr a a3⟩; unfold adL; rw [if_pos (Or.inr (by omega))]; exact SP_of hS hy42 (hfr 44 (by omega)) (fun k hk => hfr _ (by omega))) | exact adR_end hS hy42 hfr hA hld hlr (by assumption) (by omega) e44 hcp hcf (by assumption); done) | (exfalso; omega))
        · refine z_iload_n (pc := 19) hO 1 dX10_addRow_19 rfl rfl ?_
          refine z_aload_n (pc := 20) hO 0 dX10_addRow_20 rfl rfl ?_
          refine gf_X10_leads (pc := 21) hO f_X10_16 dX10_addRow_21 ?_
          refine z_alenI (pc := 24) hO isI_44 dX10_addRow_24 ?_
          refine z_icmp_ge (pc := 25) hO (tgt := 50) dX10_addRow_25 (by decide) (by omega) (by omega) (fun b29 => ?_) (fun b29 => ?_)
          · have hz : rdA (st.take i.toNat) c = rdA st c := by rw [show i.toNat = st.length by omega, List.take_length]
            rw [hz] at hA
            refine z_aload_n (pc := 50) hO 0 dX10_addRow_50 rfl rfl ?_
            refine z_callVIq (pc := 51) hO (As := []) (st := []) (c_X10_leadOfRow (qL Γ) g y (rdA st c) (by exact hA)) k_X10_61 isO_42 rfl (Nat.le_of_ble_eq_true rfl) (by decide) (by decide) ⟨by decide, by decide⟩ dX10_addRow_51 (fun ld h31 => ?_)
            obtain ⟨hld, hlr⟩ := h31
            refine z_istore_n (pc := 54) hO (lv' := [(1, .int (zi ld)), (0, .ref (gA g 42))]) dX10_addRow_54 rfl (by decide) rfl ?_
            refine z_iload_n (pc := 55) hO 0 dX10_addRow_55 rfl rfl ?_
            refine z_iconst (pc := 56) hO dX10_addRow_56 ?_
            refine z_icmp_eq (pc := 57) hO (tgt := 124) dX10_addRow_57 (by decide) (by omega) (by omega) (fun b32 => ?_) (fun b32 => ?_)
            · exact z_vret (pc := 124) hO hr hQ dX10_addRow_124 (by first | (first | (refine ⟨?_, by rw [hfr 42 (by omega)], fun a a1 a2 a3 a4 => hfr a a3⟩; unfold adL; rw [if_pos (Or.inl (by rw [← hld]; assumption))]; exact SP_of hS hy42 (hfr 44 (by omega)) (fun k hk => hfr _ (by omega))) | (refine ⟨?_, by rw [hfr 42 (by omega)], fun a a1 a2 a3 a4 => hfr a a3⟩; unfold adL; rw [if_pos (Or.inr (by omega))]; exact SP_of hS hy42 (hfr 44 (by omega)) (fun k hk => hfr _ (by omega))) | exact adR_end hS hy42 hfr hA hld hlr (by assumption) (by omega) e44 hcp hcf (by assumption); done) | (exfalso; omega))
            · refine z_aload_n (pc := 60) hO 1 dX10_addRow_60 rfl rfl ?_
              refine gf_X10_rank (pc := 61) hO f_X10_27 dX10_addRow_61 ?_
              refine z_if_lt (pc := 64) hO (tgt := 124) dX10_addRow_64 (by decide) (by omega) (fun b33 => ?_) (fun b33 => ?_)
              · exact z_vret (pc := 124) hO hr hQ dX10_addRow_124 (by first | (first | (refine ⟨?_, by rw [hfr 42 (by omega)], fun a a1 a2 a3 a4 => hfr a a3⟩; unfold adL; rw [if_pos (Or.inl (by rw [← hld]; assumption))]; exact SP_of hS hy42 (hfr 44 (by omega)) (fun k hk => hfr _ (by omega))) | (refine ⟨?_, by rw [hfr 42 (by omega)], fun a a1 a2 a3 a4 => hfr a a3⟩; unfold adL; rw [if_pos (Or.inr (by omega))]; exact SP_of hS hy42 (hfr 44 (by omega)) (fun k hk => hfr _ (by omega))) | exact adR_end hS hy42 hfr hA hld hlr (by assumption) (by omega) e44 hcp hcf (by assumption); done) | (exfalso; omega))
              · refine z_aload_n (pc := 67) hO 1 dX10_addRow_67 rfl rfl ?_
                refine gf_X10_rank (pc := 68) hO f_X10_27 dX10_addRow_68 ?_
                refine z_aload_n (pc := 71) hO 1 dX10_addRow_71 rfl rfl ?_
                refine gf_X10_rows (pc := 72) hO f_X10_13 dX10_addRow_72 ?_
                refine z_alenR (pc := 75) hO dX10_addRow_75 ?_
                refine z_icmp_ge (pc := 76) hO (tgt := 124) dX10_addRow_76 (by decide) (by omega) (by omega) (fun b34 => ?_) (fun b34 => ?_)
                · exact z_vret (pc := 124) hO hr hQ dX10_addRow_124 (by first | (first | (refine ⟨?_, by rw [hfr 42 (by omega)], fun a a1 a2 a3 a4 => hfr a a3⟩; unfold adL; rw [if_pos (Or.inl (by rw [← hld]; assumption))]; exact SP_of hS hy42 (hfr 44 (by omega)) (fun k hk => hfr _ (by omega))) | (refine ⟨?_, by rw [hfr 42 (by omega)], fun a a1 a2 a3 a4 => hfr a a3⟩; unfold adL; rw [if_pos (Or.inr (by omega))]; exact SP_of hS hy42 (hfr 44 (by omega)) (fun k hk => hfr _ (by omega))) | exact adR_end hS hy42 hfr hA hld hlr (by assumption) (by omega) e44 hcp hcf (by assumption); done) | (exfalso; omega))
                · refine z_aload_n (pc := 79) hO 1 dX10_addRow_79 rfl rfl ?_
                  refine gf_X10_rank (pc := 80) hO f_X10_27 dX10_addRow_80 ?_
                  refine z_aload_n (pc := 83) hO 1 dX10_addRow_83 rfl rfl ?_
                  refine gf_X10_leads (pc := 84) hO f_X10_16 dX10_addRow_84 ?_
                  refine z_alenI (pc := 87) hO isI_44 dX10_addRow_87 ?_
                  refine z_icmp_ge (pc := 88) hO (tgt := 124) dX10_addRow_88 (by decide) (by omega) (by omega) (fun b35 => ?_) (fun b35 => ?_)
                  · exact z_vret (pc := 124) hO hr hQ dX10_addRow_124 (by first | (first | (refine ⟨?_, by rw [hfr 42 (by omega)], fun a a1 a2 a3 a4 => hfr a a3⟩; unfold adL; rw [if_pos (Or.inl (by rw [← hld]; assumption))]; exact SP_of hS hy42 (hfr 44 (by omega)) (fun k hk => hfr _ (by omega))) | (refine ⟨?_, by rw [hfr 42 (by omega)], fun a a1 a2 a3 a4 => hfr a a3⟩; unfold adL; rw [if_pos (Or.inr (by omega))]; exact SP_of hS hy42 (hfr 44 (by omega)) (fun k hk => hfr _ (by omega))) | exact adR_end hS hy42 hfr hA hld hlr (by assumption) (by omega) e44 hcp hcf (by assumption); done) | (exfalso; omega))
                  · refine z_aload_n (pc := 91) hO 1 dX10_addRow_91 rfl rfl ?_
                    refine gf_X10_leads (pc := 92) hO f_X10_16 dX10_addRow_92 ?_
                    refine z_aload_n (pc := 95) hO 1 dX10_addRow_95 rfl rfl ?_
                    refine gf_X10_rank (pc := 96) hO f_X10_27 dX10_addRow_96 ?_
                    refine z_iload_n (pc := 99) hO 0 dX10_addRow_99 rfl rfl ?_
                    refine z_iast (pc := 100) hO isI_44 (by omega) dX10_addRow_100 (fun m36 e37 => ?_)
                    have e44 := e37
                    have h742 : m36 42 3 = y 42 3 := by rw [e37, up_i _ _ _ (by omega)]
                    refine z_aload_n (pc := 101) hO 1 dX10_addRow_101 rfl rfl ?_
                    refine z_aload_n (pc := 102) hO 1 dX10_addRow_102 rfl rfl ?_
                    refine gf_X10_rows (pc := 103) hO f_X10_13 dX10_addRow_103 ?_
                    refine z_aload_n (pc := 106) hO 1 dX10_addRow_106 rfl rfl ?_
                    refine gf_X10_rank (pc := 107) hO f_X10_27 dX10_addRow_107 ?_
                    refine z_srowsI (pc := 110) hO (by omega) dX10_addRow_110 ?_
                    refine z_callVV (pc := 111) hO (As := [.ref (gA g (100 + (m36 42 3).toNat))]) (st := []) (c_X10_copyRowTo (qL Γ) g m36 ((m36 42 3).toNat) (rdA st c) (by exact VM_of hA (by rw [e44, up_i _ _ _ (by omega)])) (by omega)) k_X10_65 isO_42 rfl (Nat.le_of_ble_eq_true rfl) (by decide) (by decide) ⟨by decide, by decide⟩ dX10_addRow_111 (fun m39 h40 => ?_)
                    obtain ⟨hcp, hcf⟩ := h40
                    refine z_aload_n (pc := 114) hO 1 dX10_addRow_114 rfl rfl ?_
                    refine z_dup (pc := 115) hO dX10_addRow_115 rfl ?_
                    refine gf_X10_rank (pc := 116) hO f_X10_27 dX10_addRow_116 ?_
                    refine z_iconst (pc := 119) hO dX10_addRow_119 ?_
                    refine z_iadd (pc := 120) hO dX10_addRow_120 ?_
                    refine pf_X10_rank (pc := 121) hO f_X10_27 dX10_addRow_121 (fun m41 e42 => ?_)
                    exact z_vret (pc := 124) hO hr hQ dX10_addRow_124 (by first | (first | (refine ⟨?_, by rw [hfr 42 (by omega)], fun a a1 a2 a3 a4 => hfr a a3⟩; unfold adL; rw [if_pos (Or.inl (by rw [← hld]; assumption))]; exact SP_of hS hy42 (hfr 44 (by omega)) (fun k hk => hfr _ (by omega))) | (refine ⟨?_, by rw [hfr 42 (by omega)], fun a a1 a2 a3 a4 => hfr a a3⟩; unfold adL; rw [if_pos (Or.inr (by omega))]; exact SP_of hS hy42 (hfr 44 (by omega)) (fun k hk => hfr _ (by omega))) | exact adR_end hS hy42 hfr hA hld hlr (by assumption) (by omega) e44 hcp hcf (by assumption); done) | (exfalso; omega))
          · refine z_aload_n (pc := 28) hO 0 dX10_addRow_28 rfl rfl ?_
            refine z_aload_n (pc := 29) hO 0 dX10_addRow_29 rfl rfl ?_
            refine gf_X10_rows (pc := 30) hO f_X10_13 dX10_addRow_30 ?_
            refine z_iload_n (pc := 33) hO 1 dX10_addRow_33 rfl rfl ?_
            refine z_srowsI (pc := 34) hO (by omega) dX10_addRow_34 ?_
            refine z_aload_n (pc := 35) hO 0 dX10_addRow_35 rfl rfl ?_
            refine gf_X10_leads (pc := 36) hO f_X10_16 dX10_addRow_36 ?_
            refine z_iload_n (pc := 39) hO 1 dX10_addRow_39 rfl rfl ?_
            refine z_iald (pc := 40) hO isI_44 (by omega) dX10_addRow_40 ?_
            rw [show y 44 i = q.1 by rw [hfr 44 (by omega)]; exact hs3.1]
            refine z_callVV (pc := 41) hO (As := [.ref (gA g (100 + i.toNat)), .int (zi q.1)]) (st := []) (c_X10_reduceBy (qL Γ) g y i.toNat q.1 (rdA (st.take i.toNat) c) q.2 (by exact hA) (by exact VM_of hs3.2.2 (hfr _ (by omega))) (by omega) (by exact hs3.2.1)) k_X10_57 isO_42 rfl (Nat.le_of_ble_eq_true rfl) (by decide) (by decide) ⟨by decide, by decide⟩ dX10_addRow_41 (fun m44 h45 => ?_)
            obtain ⟨hrd, hrf⟩ := h45
            refine z_iinc (pc := 44) hO 1 (lv' := [(1, .int (zi (i + 1))), (0, .ref (gA g 42))]) dX10_addRow_44 rfl (by decide) rfl ?_
            refine z_goto (pc := 47) hO (tgt := 2) dX10_addRow_47 (by decide) ?_
            refine z_sub [1, 0] rfl ?_
            exact ih2 (i + 1) m44 (by omega) (by omega) (by rw [show (i + 1).toNat = i.toNat + 1 by omega, rdA_s hq]; exact hrd) (by intro a ha; rw [hrf a ha]; exact hfr a ha)
  refine z_sub [1, 0] rfl ?_
  exact L2 _ 0 x (Nat.lt_succ_self _) (by omega) (by exact hv) (by intro a _; rfl)

