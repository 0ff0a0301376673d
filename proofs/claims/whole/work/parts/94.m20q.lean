set_option maxHeartbeats 600000 in
theorem c_X12_isLineFit (l : Launch) (g : Gl) (x : Me) (s : Int) (t : Int) (n : Int) (ln : Int) (G : Int → Int) (hn : 1 ≤ n ∧ n ≤ 4) (hK : WK x n G) (hl : 0 ≤ ln ∧ ln < 2 * n + 2) (hs : s = liS n ln) (ht : t = liP n ln) : ctQ l g yX12_isLineFit cX12_isLineFit 7 (some .boolean) 1 20 [.ref (gA g 50), .int (zi s), .int (zi t)] x (QIu g (fun z x' => ((z = 1 ∧ (lnf n G ln)) ∨ (z = 0 ∧ ¬ (lnf n G ln))) ∧ x' = x)) := by
  refine ct_start (own := RX12) (lv := [(0, .ref (gA g 50)), (1, .int (zi s)), (2, .int (zi t))]) (plainFor_of_name (by decide)) rfl (Nat.le_of_ble_eq_true rfl) rfl ?_
  intro Γ hΓ hO hr hQ _
  have h5 := hK.1
  have h4 := sq4 hn
  have hGr := hK.2.2
  have hdu := du4 hn
  refine z_iconst (pc := 0) hO dX12_isLineFit_0 ?_
  refine z_istore_n (pc := 1) hO (lv' := [(3, .int (zi 0)), (0, .ref (gA g 50)), (1, .int (zi s)), (2, .int (zi t))]) dX12_isLineFit_1 rfl (by decide) rfl ?_
  refine z_iconst (pc := 2) hO dX12_isLineFit_2 ?_
  refine z_istore (pc := 3) hO (lv' := [(4, .int (zi 1)), (3, .int (zi 0)), (0, .ref (gA g 50)), (1, .int (zi s)), (2, .int (zi t))]) dX12_isLineFit_3 (by decide) rfl ?_
  refine z_iconst (pc := 5) hO dX12_isLineFit_5 ?_
  refine z_istore (pc := 6) hO (lv' := [(5, .int (zi 0)), (4, .int (zi 1)), (3, .int (zi 0)), (0, .ref (gA g 50)), (1, .int (zi s)), (2, .int (zi t))]) dX12_isLineFit_6 (by decide) rfl ?_
  have L8 : ∀ (N : Nat) (su : Int) (w : Int) (i : Int), (n - i).toNat < N → (0 ≤ i ∧ i ≤ n) → (su = sm (fun i => G (s + i * t)) i.toNat) → (0 ≤ su ∧ su ≤ 1000 * i) → ((w = 1 ∧ sm (fun i => if G (s + i * t) = 0 then 1 else 0) i.toNat = 0) ∨ (w = 0 ∧ 1 ≤ sm (fun i => if G (s + i * t) = 0 then 1 else 0) i.toNat)) → Zz Γ g 7 0 0 x 8 [(0, .ref (gA g 50)), (1, .int (zi s)), (2, .int (zi t)), (3, .int (zi su)), (4, .int (zi w)), (5, .int (zi i))] [] := by
    intro N
    induction N with
    | zero => intro su w i hm; exact absurd hm (Nat.not_lt_zero _)
    | succ N ih8 =>
      intro su w i hm h0 hS hsu hC
      refine z_iload (pc := 8) hO 5 dX12_isLineFit_8 rfl ?_
      refine z_aload_n (pc := 10) hO 0 dX12_isLineFit_10 rfl rfl ?_
      refine gf_X12_side (pc := 11) hO f_X12_150 dX12_isLineFit_11 ?_
      rw [h5]
      refine z_icmp_ge (pc := 14) hO (tgt := 58) dX12_isLineFit_14 (by decide) (by omega) (by omega) (fun b1 => ?_) (fun b1 => ?_)
      · have hin : i = n := by omega
        have hls : lsm n G ln = su := by rw [lsm_l hn hl, ← hs, ← ht, hS, hin]
        have hlk : (w = 1 ∧ lck n G ln = 0) ∨ (w = 0 ∧ 1 ≤ lck n G ln) := by rw [lck_l hn hl, ← hs, ← ht, ← hin]; exact hC
        refine z_aload_n (pc := 58) hO 0 dX12_isLineFit_58 rfl rfl ?_
        refine gf_X12_side (pc := 59) hO f_X12_150 dX12_isLineFit_59 ?_
        rw [h5]
        refine z_aload_n (pc := 62) hO 0 dX12_isLineFit_62 rfl rfl ?_
        refine gf_X12_side (pc := 63) hO f_X12_150 dX12_isLineFit_63 ?_
        rw [h5]
        refine z_aload_n (pc := 66) hO 0 dX12_isLineFit_66 rfl rfl ?_
        refine gf_X12_side (pc := 67) hO f_X12_150 dX12_isLineFit_67 ?_
        rw [h5]
        refine z_imul (pc := 70) hO dX12_isLineFit_70 ?_
        refine z_iconst (pc := 71) hO dX12_isLineFit_71 ?_
        refine z_iadd (pc := 72) hO dX12_isLineFit_72 ?_
        refine z_imul (pc := 73) hO dX12_isLineFit_73 ?_
        refine z_iconst (pc := 74) hO dX12_isLineFit_74 ?_
        refine z_idiv (pc := 75) hO dX12_isLineFit_75 (by omega) (by omega) ?_
        refine z_istore (pc := 76) hO (lv' := [(5, .int (zi ((n * ((n * n) + 1)) / 2))), (0, .ref (gA g 50)), (1, .int (zi s)), (2, .int (zi t)), (3, .int (zi su)), (4, .int (zi w))]) dX12_isLineFit_76 (by decide) rfl ?_
        refine z_iload (pc := 78) hO 5 dX12_isLineFit_78 rfl ?_
        refine z_if_eq (pc := 80) hO (tgt := 97) dX12_isLineFit_80 (by decide) (by omega) (fun b2 => ?_) (fun b2 => ?_)
        · refine z_iload_n (pc := 97) hO 4 dX12_isLineFit_97 rfl rfl ?_
          refine z_iload (pc := 98) hO 0 dX12_isLineFit_98 rfl ?_
          refine z_icmp_ge (pc := 100) hO (tgt := 107) dX12_isLineFit_100 (by decide) (by omega) (by omega) (fun b3 => ?_) (fun b3 => ?_)
          · refine z_iconst (pc := 107) hO dX12_isLineFit_107 ?_
            exact z_iret (pc := 108) hO hr hQ rfl dX12_isLineFit_108 ⟨Or.inr ⟨rfl, by first | (unfold lnf du; omega; done) | (exfalso; omega)⟩, rfl⟩
          · refine z_iconst (pc := 103) hO dX12_isLineFit_103 ?_
            refine z_goto (pc := 104) hO (tgt := 108) dX12_isLineFit_104 (by decide) ?_
            exact z_iret (pc := 108) hO hr hQ rfl dX12_isLineFit_108 ⟨Or.inl ⟨rfl, by first | (unfold lnf du; omega; done) | (exfalso; omega)⟩, rfl⟩
        · refine z_iload_n (pc := 83) hO 4 dX12_isLineFit_83 rfl rfl ?_
          refine z_iload (pc := 84) hO 0 dX12_isLineFit_84 rfl ?_
          refine z_icmp_ne (pc := 86) hO (tgt := 93) dX12_isLineFit_86 (by decide) (by omega) (by omega) (fun b4 => ?_) (fun b4 => ?_)
          · refine z_iconst (pc := 93) hO dX12_isLineFit_93 ?_
            refine z_goto (pc := 94) hO (tgt := 108) dX12_isLineFit_94 (by decide) ?_
            exact z_iret (pc := 108) hO hr hQ rfl dX12_isLineFit_108 ⟨Or.inr ⟨rfl, by first | (unfold lnf du; omega; done) | (exfalso; omega)⟩, rfl⟩
          · refine z_iconst (pc := 89) hO dX12_isLineFit_89 ?_
            refine z_goto (pc := 90) hO (tgt := 108) dX12_isLineFit_90 (by decide) ?_
            exact z_iret (pc := 108) hO hr hQ rfl dX12_isLineFit_108 ⟨Or.inl ⟨rfl, by first | (unfold lnf du; omega; done) | (exfalso; omega)⟩, rfl⟩
      · have hlr := lin_rng hn hl (i := i) (by omega)
        rw [← hs, ← ht] at hlr
        have hgi := hGr (s + i * t)
        refine z_aload_n (pc := 17) hO 0 dX12_isLineFit_17 rfl rfl ?_
        refine gf_X12_work (pc := 18) hO f_X12_19 dX12_isLineFit_18 ?_
        refine z_iload_n (pc := 21) hO 1 dX12_isLineFit_21 rfl rfl ?_
        refine z_iload (pc := 22) hO 5 dX12_isLineFit_22 rfl ?_
        refine z_iload_n (pc := 24) hO 2 dX12_isLineFit_24 rfl rfl ?_
        refine z_imul (pc := 25) hO dX12_isLineFit_25 ?_
        refine z_iadd (pc := 26) hO dX12_isLineFit_26 ?_
        refine z_iald (pc := 27) hO isI_54 (by omega) dX12_isLineFit_27 ?_
        rw [hK.2.1 (s + i * t) hlr.1 hlr.2]
        refine z_istore (pc := 28) hO (lv' := [(6, .int (zi (G (s + i * t)))), (0, .ref (gA g 50)), (1, .int (zi s)), (2, .int (zi t)), (3, .int (zi su)), (4, .int (zi w)), (5, .int (zi i))]) dX12_isLineFit_28 (by decide) rfl ?_
        refine z_iload_n (pc := 30) hO 4 dX12_isLineFit_30 rfl rfl ?_
        refine z_iload (pc := 31) hO 0 dX12_isLineFit_31 rfl ?_
        refine z_iadd (pc := 33) hO dX12_isLineFit_33 ?_
        refine z_istore_n (pc := 34) hO (lv' := [(3, .int (zi (su + (G (s + i * t))))), (6, .int (zi (G (s + i * t)))), (0, .ref (gA g 50)), (1, .int (zi s)), (2, .int (zi t)), (4, .int (zi w)), (5, .int (zi i))]) dX12_isLineFit_34 rfl (by decide) rfl ?_
        refine z_iload (pc := 35) hO 5 dX12_isLineFit_35 rfl ?_
        refine z_if_eq (pc := 37) hO (tgt := 49) dX12_isLineFit_37 (by decide) (by omega) (fun b5 => ?_) (fun b5 => ?_)
        · refine z_iconst (pc := 49) hO dX12_isLineFit_49 ?_
          refine z_istore (pc := 50) hO (lv' := [(4, .int (zi 0)), (3, .int (zi (su + (G (s + i * t))))), (6, .int (zi (G (s + i * t)))), (0, .ref (gA g 50)), (1, .int (zi s)), (2, .int (zi t)), (5, .int (zi i))]) dX12_isLineFit_50 (by decide) rfl ?_
          refine z_iinc (pc := 52) hO 6 (lv' := [(5, .int (zi (i + 1))), (4, .int (zi 0)), (3, .int (zi (su + (G (s + i * t))))), (6, .int (zi (G (s + i * t)))), (0, .ref (gA g 50)), (1, .int (zi s)), (2, .int (zi t))]) dX12_isLineFit_52 rfl (by decide) rfl ?_
          refine z_goto (pc := 55) hO (tgt := 8) dX12_isLineFit_55 (by decide) ?_
          refine z_sub [4, 5, 6, 2, 1, 0] rfl ?_
          exact ih8 (su + (G (s + i * t))) 0 (i + 1) (by omega) (by omega) (by rw [sm_s _ h0.1, ← hS]) (by omega) (by rw [sm_s _ h0.1]; rcases hC with ⟨e, h⟩ | ⟨e, h⟩ <;> first | (rw [if_neg (by omega)]; omega) | (rw [if_pos (by omega)]; omega) | (split <;> omega))
        · refine z_iload (pc := 40) hO 1 dX12_isLineFit_40 rfl ?_
          refine z_if_le (pc := 42) hO (tgt := 49) dX12_isLineFit_42 (by decide) (by omega) (fun b6 => ?_) (fun b6 => ?_)
          · refine z_iconst (pc := 49) hO dX12_isLineFit_49 ?_
            refine z_istore (pc := 50) hO (lv' := [(4, .int (zi 0)), (3, .int (zi (su + (G (s + i * t))))), (6, .int (zi (G (s + i * t)))), (0, .ref (gA g 50)), (1, .int (zi s)), (2, .int (zi t)), (5, .int (zi i))]) dX12_isLineFit_50 (by decide) rfl ?_
            refine z_iinc (pc := 52) hO 6 (lv' := [(5, .int (zi (i + 1))), (4, .int (zi 0)), (3, .int (zi (su + (G (s + i * t))))), (6, .int (zi (G (s + i * t)))), (0, .ref (gA g 50)), (1, .int (zi s)), (2, .int (zi t))]) dX12_isLineFit_52 rfl (by decide) rfl ?_
            refine z_goto (pc := 55) hO (tgt := 8) dX12_isLineFit_55 (by decide) ?_
            refine z_sub [4, 5, 6, 2, 1, 0] rfl ?_
            exact ih8 (su + (G (s + i * t))) 0 (i + 1) (by omega) (by omega) (by rw [sm_s _ h0.1, ← hS]) (by omega) (by rw [sm_s _ h0.1]; rcases hC with ⟨e, h⟩ | ⟨e, h⟩ <;> first | (rw [if_neg (by omega)]; omega) | (rw [if_pos (by omega)]; omega) | (split <;> omega))
          · refine z_iconst (pc := 45) hO dX12_isLineFit_45 ?_
            refine z_goto (pc := 46) hO (tgt := 50) dX12_isLineFit_46 (by decide) ?_
            refine z_istore (pc := 50) hO (lv' := [(4, .int (zi 1)), (3, .int (zi (su + (G (s + i * t))))), (6, .int (zi (G (s + i * t)))), (0, .ref (gA g 50)), (1, .int (zi s)), (2, .int (zi t)), (5, .int (zi i))]) dX12_isLineFit_50 (by decide) rfl ?_
            refine z_iinc (pc := 52) hO 6 (lv' := [(5, .int (zi (i + 1))), (4, .int (zi 1)), (3, .int (zi (su + (G (s + i * t))))), (6, .int (zi (G (s + i * t)))), (0, .ref (gA g 50)), (1, .int (zi s)), (2, .int (zi t))]) dX12_isLineFit_52 rfl (by decide) rfl ?_
            refine z_goto (pc := 55) hO (tgt := 8) dX12_isLineFit_55 (by decide) ?_
            refine z_sub [4, 5, 6, 2, 1, 0] rfl ?_
            exact ih8 (su + (G (s + i * t))) 1 (i + 1) (by omega) (by omega) (by rw [sm_s _ h0.1, ← hS]) (by omega) (by rw [sm_s _ h0.1]; rcases hC with ⟨e, h⟩ | ⟨e, h⟩ <;> first | (rw [if_neg (by omega)]; omega) | (rw [if_pos (by omega)]; omega) | (split <;> omega))
  refine z_sub [3, 4, 5, 2, 1, 0] rfl ?_
  exact L8 _ 0 1 0 (Nat.lt_succ_self _) (by omega) (by rfl) (by omega) (by exact Or.inl ⟨rfl, rfl⟩)

set_option maxHeartbeats 600000 in
theorem c_X12_isFit (l : Launch) (g : Gl) (x : Me)  (n : Int) (G : Int → Int) (hn : 1 ≤ n ∧ n ≤ 4) (hK : WK x n G) : ctQ l g yX12_isFit cX12_isFit 4 (some .boolean) 2 46 [.ref (gA g 50)] x (QIu g (fun z x' => ((z = 1 ∧ (fit n G)) ∨ (z = 0 ∧ ¬ (fit n G))) ∧ x' = x)) := by
  refine ct_start (own := RX12) (lv := [(0, .ref (gA g 50))]) (plainFor_of_name (by decide)) rfl (Nat.le_of_ble_eq_true rfl) rfl ?_
  intro Γ hΓ hO hr hQ _
  have h5 := hK.1
  have h4 := sq4 hn
  have hGr := hK.2.2
  have hdu := du4 hn
  refine z_iconst (pc := 0) hO dX12_isFit_0 ?_
  refine z_istore_n (pc := 1) hO (lv' := [(1, .int (zi 0)), (0, .ref (gA g 50))]) dX12_isFit_1 rfl (by decide) rfl ?_
  have J52 : ∀ (b0 : Int), ((b0 = 1 ∧ (lnf n G (2 * n) ∧ lnf n G (2 * n + 1))) ∨ (b0 = 0 ∧ ¬ (lnf n G (2 * n) ∧ lnf n G (2 * n + 1)))) → Zz Γ g 4 0 0 x 52 [(0, .ref (gA g 50)), (1, .int (zi 0))] [.int (zi b0)] := by
    intro b0 h_b
    refine z_istore_n (pc := 52) hO (lv' := [(2, .int (zi b0)), (0, .ref (gA g 50)), (1, .int (zi 0))]) dX12_isFit_52 rfl (by decide) rfl ?_
    refine z_iconst (pc := 53) hO dX12_isFit_53 ?_
    refine z_istore_n (pc := 54) hO (lv' := [(3, .int (zi 0)), (2, .int (zi b0)), (0, .ref (gA g 50)), (1, .int (zi 0))]) dX12_isFit_54 rfl (by decide) rfl ?_
    have L55 : ∀ (N : Nat) (u : Int) (b : Int) (p : Int), (n * n - p).toNat < N → (0 ≤ p ∧ p ≤ n * n) → (0 ≤ u ∧ u < 131072) → ((b = 1 ∧ (lnf n G (2 * n) ∧ lnf n G (2 * n + 1)) ∧ GDF n G p ∧ u = usm G p.toNat) ∨ (b = 0 ∧ ¬ fit n G)) → Zz Γ g 4 0 0 x 55 [(0, .ref (gA g 50)), (1, .int (zi u)), (2, .int (zi b)), (3, .int (zi p))] [] := by
      intro N
      induction N with
      | zero => intro u b p hm; exact absurd hm (Nat.not_lt_zero _)
      | succ N ih55 =>
        intro u b p hm h0 hu hA
        have hbb : b = 0 ∨ b = 1 := by rcases hA with ⟨e, _⟩ | ⟨e, _⟩ <;> omega
        have hgp := hGr p
        have J152 : ((b = 1 ∧ LNF n G 0 ∧ GDF n G (n * n)) ∨ (b = 0 ∧ ¬ fit n G)) → Zz Γ g 4 0 0 x 152 [(0, .ref (gA g 50)), (1, .int (zi u)), (2, .int (zi b)), (3, .int (zi p))] [] := by
          intro  hE
          refine z_iconst (pc := 152) hO dX12_isFit_152 ?_
          refine z_istore_n (pc := 153) hO (lv' := [(3, .int (zi 0)), (0, .ref (gA g 50)), (1, .int (zi u)), (2, .int (zi b))]) dX12_isFit_153 rfl (by decide) rfl ?_
          have L154 : ∀ (N : Nat) (b2 : Int) (k : Int), (n - k).toNat < N → (0 ≤ k ∧ k ≤ n) → ((b2 = 1 ∧ LNF n G k ∧ GDF n G (n * n)) ∨ (b2 = 0 ∧ ¬ fit n G)) → Zz Γ g 4 0 0 x 154 [(0, .ref (gA g 50)), (1, .int (zi u)), (2, .int (zi b2)), (3, .int (zi k))] [] := by
            intro N
            induction N with
            | zero => intro b2 k hm; exact absurd hm (Nat.not_lt_zero _)
            | succ N ih154 =>
              intro b2 k hm h1 hB
              have hbb2 : b2 = 0 ∨ b2 = 1 := by rcases hB with ⟨e, _⟩ | ⟨e, _⟩ <;> omega
              refine z_iload_n (pc := 154) hO 3 dX12_isFit_154 rfl rfl ?_
              refine z_aload_n (pc := 155) hO 0 dX12_isFit_155 rfl rfl ?_
              refine gf_X12_side (pc := 156) hO f_X12_150 dX12_isFit_156 ?_
              rw [h5]
              refine z_icmp_ge (pc := 159) hO (tgt := 204) dX12_isFit_159 (by decide) (by omega) (by omega) (fun b1 => ?_) (fun b1 => ?_)
              · refine z_iload_n (pc := 204) hO 2 dX12_isFit_204 rfl rfl ?_
                exact z_iret (pc := 205) hO hr hQ (zi_bool (by omega)).1 dX12_isFit_205 (by first | (refine ⟨?_, rfl⟩; rcases hB with ⟨e, h1, h2⟩ | ⟨e, h⟩ <;> first | exact Or.inr ⟨e, h⟩ | exact Or.inl ⟨e, (fit_LNF (by omega)).mpr ⟨(show k = n by omega) ▸ h1, h2⟩⟩ | (exfalso; omega); done) | (exfalso; omega))
              · refine z_iload_n (pc := 162) hO 2 dX12_isFit_162 rfl rfl ?_
                refine z_if_eq (pc := 163) hO (tgt := 204) dX12_isFit_163 (by decide) (by omega) (fun b2 => ?_) (fun b2 => ?_)
                · refine z_iload_n (pc := 204) hO 2 dX12_isFit_204 rfl rfl ?_
                  exact z_iret (pc := 205) hO hr hQ (zi_bool (by omega)).1 dX12_isFit_205 (by first | (refine ⟨?_, rfl⟩; rcases hB with ⟨e, h1, h2⟩ | ⟨e, h⟩ <;> first | exact Or.inr ⟨e, h⟩ | exact Or.inl ⟨e, (fit_LNF (by omega)).mpr ⟨(show k = n by omega) ▸ h1, h2⟩⟩ | (exfalso; omega); done) | (exfalso; omega))
                · have hL2 : LNF n G k ∧ GDF n G (n * n) := by
                      rcases hB with ⟨_, h⟩ | ⟨e, _⟩
                      · exact h
                      · omega
                  refine z_aload_n (pc := 166) hO 0 dX12_isFit_166 rfl rfl ?_
                  refine z_aload_n (pc := 167) hO 0 dX12_isFit_167 rfl rfl ?_
                  refine gf_X12_side (pc := 168) hO f_X12_150 dX12_isFit_168 ?_
                  rw [h5]
                  refine z_iload_n (pc := 171) hO 3 dX12_isFit_171 rfl rfl ?_
                  refine z_imul (pc := 172) hO dX12_isFit_172 ?_
                  refine z_iconst (pc := 173) hO dX12_isFit_173 ?_
                  refine z_callVB (pc := 174) hO (As := [.int (zi (n * k)), .int (zi 1)]) (st := []) (c_X12_isLineFit (qL Γ) g x (n * k) 1 n k G (by first | assumption | omega) (by first | assumption | omega) (by first | assumption | omega) (by unfold liS; rw [if_pos (by omega)]) (by unfold liP; rw [if_pos (by omega)])) k_X12_153 isO_50 rfl (Nat.le_of_ble_eq_true rfl) (by decide) (by decide) ⟨by decide, by decide⟩ dX12_isFit_174 (fun pb3 => ?_) (fun pb3 => ?_)
                  · skip
                    have ha := pb3
                    refine z_if_eq (pc := 177) hO (tgt := 196) dX12_isFit_177 (by decide) (by decide) (fun h => absurd h (by decide)) (fun _ => ?_)
                    refine z_aload_n (pc := 180) hO 0 dX12_isFit_180 rfl rfl ?_
                    refine z_iload_n (pc := 181) hO 3 dX12_isFit_181 rfl rfl ?_
                    refine z_aload_n (pc := 182) hO 0 dX12_isFit_182 rfl rfl ?_
                    refine gf_X12_side (pc := 183) hO f_X12_150 dX12_isFit_183 ?_
                    rw [h5]
                    refine z_callVB (pc := 186) hO (As := [.int (zi k), .int (zi n)]) (st := []) (c_X12_isLineFit (qL Γ) g x k n n (n + k) G (by first | assumption | omega) (by first | assumption | omega) (by first | assumption | omega) (by unfold liS; rw [if_neg (by omega), if_pos (by omega)]; omega) (by unfold liP; rw [if_neg (by omega), if_pos (by omega)])) k_X12_153 isO_50 rfl (Nat.le_of_ble_eq_true rfl) (by decide) (by decide) ⟨by decide, by decide⟩ dX12_isFit_186 (fun pb4 => ?_) (fun pb4 => ?_)
                    · skip
                      have hb := pb4
                      refine z_if_eq (pc := 189) hO (tgt := 196) dX12_isFit_189 (by decide) (by decide) (fun h => absurd h (by decide)) (fun _ => ?_)
                      refine z_iconst (pc := 192) hO dX12_isFit_192 ?_
                      refine z_goto (pc := 193) hO (tgt := 197) dX12_isFit_193 (by decide) ?_
                      refine z_istore_n (pc := 197) hO (lv' := [(2, .int (zi 1)), (0, .ref (gA g 50)), (1, .int (zi u)), (3, .int (zi k))]) dX12_isFit_197 rfl (by decide) rfl ?_
                      refine z_iinc (pc := 198) hO 3 (lv' := [(3, .int (zi (k + 1))), (2, .int (zi 1)), (0, .ref (gA g 50)), (1, .int (zi u))]) dX12_isFit_198 rfl (by decide) rfl ?_
                      refine z_goto (pc := 201) hO (tgt := 154) dX12_isFit_201 (by decide) ?_
                      refine z_sub [2, 3, 1, 0] rfl ?_
                      exact ih154 1 (k + 1) (by omega) (by omega) (by first | exact Or.inl ⟨rfl, ⟨hL2.1.1, fun l a c => dite (l = k) (fun e => by rw [e]; exact ⟨ha, hb⟩) (fun e => hL2.1.2 l a (by omega))⟩, hL2.2⟩ | exact Or.inr ⟨rfl, fun h => hb ((((fit_LNF (by omega)).mp h).1.2 k (by omega) (by omega)).2)⟩ | exact Or.inr ⟨rfl, fun h => ha ((((fit_LNF (by omega)).mp h).1.2 k (by omega) (by omega)).1)⟩)
                    · skip
                      have hb := pb4
                      refine z_if_eq (pc := 189) hO (tgt := 196) dX12_isFit_189 (by decide) (by decide) (fun _ => ?_) (fun h => absurd h (by decide))
                      refine z_iconst (pc := 196) hO dX12_isFit_196 ?_
                      refine z_istore_n (pc := 197) hO (lv' := [(2, .int (zi 0)), (0, .ref (gA g 50)), (1, .int (zi u)), (3, .int (zi k))]) dX12_isFit_197 rfl (by decide) rfl ?_
                      refine z_iinc (pc := 198) hO 3 (lv' := [(3, .int (zi (k + 1))), (2, .int (zi 0)), (0, .ref (gA g 50)), (1, .int (zi u))]) dX12_isFit_198 rfl (by decide) rfl ?_
                      refine z_goto (pc := 201) hO (tgt := 154) dX12_isFit_201 (by decide) ?_
                      refine z_sub [2, 3, 1, 0] rfl ?_
                      exact ih154 0 (k + 1) (by omega) (by omega) (by first | exact Or.inl ⟨rfl, ⟨hL2.1.1, fun l a c => dite (l = k) (fun e => by rw [e]; exact ⟨ha, hb⟩) (fun e => hL2.1.2 l a (by omega))⟩, hL2.2⟩ | exact Or.inr ⟨rfl, fun h => hb ((((fit_LNF (by omega)).mp h).1.2 k (by omega) (by omega)).2)⟩ | exact Or.inr ⟨rfl, fun h => ha ((((fit_LNF (by omega)).mp h).1.2 k (by omega) (by omega)).1)⟩)
                  · skip
                    have ha := pb3
                    refine z_if_eq (pc := 177) hO (tgt := 196) dX12_isFit_177 (by decide) (by decide) (fun _ => ?_) (fun h => absurd h (by decide))
                    refine z_iconst (pc := 196) hO dX12_isFit_196 ?_
                    refine z_istore_n (pc := 197) hO (lv' := [(2, .int (zi 0)), (0, .ref (gA g 50)), (1, .int (zi u)), (3, .int (zi k))]) dX12_isFit_197 rfl (by decide) rfl ?_
                    refine z_iinc (pc := 198) hO 3 (lv' := [(3, .int (zi (k + 1))), (2, .int (zi 0)), (0, .ref (gA g 50)), (1, .int (zi u))]) dX12_isFit_198 rfl (by decide) rfl ?_
                    refine z_goto (pc := 201) hO (tgt := 154) dX12_isFit_201 (by decide) ?_
                    refine z_sub [2, 3, 1, 0] rfl ?_
                    exact ih154 0 (k + 1) (by omega) (by omega) (by first | exact Or.inl ⟨rfl, ⟨hL2.1.1, fun l a c => dite (l = k) (fun e => by rw [e]; exact ⟨ha, hb⟩) (fun e => hL2.1.2 l a (by omega))⟩, hL2.2⟩ | exact Or.inr ⟨rfl, fun h => hb ((((fit_LNF (by omega)).mp h).1.2 k (by omega) (by omega)).2)⟩ | exact Or.inr ⟨rfl, fun h => ha ((((fit_LNF (by omega)).mp h).1.2 k (by omega) (by omega)).1)⟩)
          refine z_sub [1, 2, 3, 0] rfl ?_
          exact L154 _ b 0 (Nat.lt_succ_self _) (by omega) (by exact hE)
        refine z_iload_n (pc := 55) hO 3 dX12_isFit_55 rfl rfl ?_
        refine z_aload_n (pc := 56) hO 0 dX12_isFit_56 rfl rfl ?_
        refine gf_X12_side (pc := 57) hO f_X12_150 dX12_isFit_57 ?_
        rw [h5]
        refine z_aload_n (pc := 60) hO 0 dX12_isFit_60 rfl rfl ?_
        refine gf_X12_side (pc := 61) hO f_X12_150 dX12_isFit_61 ?_
        rw [h5]
        refine z_imul (pc := 64) hO dX12_isFit_64 ?_
        refine z_icmp_ge (pc := 65) hO (tgt := 152) dX12_isFit_65 (by decide) (by omega) (by omega) (fun b5 => ?_) (fun b5 => ?_)
        · refine z_sub [0, 1, 2, 3] rfl ?_
          exact J152 (by rcases hA with ⟨e, h1, h2, _⟩ | ⟨e, h⟩ <;> first | exact Or.inr ⟨e, h⟩ | (exact Or.inl ⟨e, ⟨h1, fun l a c => by omega⟩, (show p = n * n by omega) ▸ h2⟩) | (exfalso; omega))
        · refine z_iload_n (pc := 68) hO 2 dX12_isFit_68 rfl rfl ?_
          refine z_if_eq (pc := 69) hO (tgt := 152) dX12_isFit_69 (by decide) (by omega) (fun b6 => ?_) (fun b6 => ?_)
          · refine z_sub [0, 1, 2, 3] rfl ?_
            exact J152 (by rcases hA with ⟨e, h1, h2, _⟩ | ⟨e, h⟩ <;> first | exact Or.inr ⟨e, h⟩ | (exact Or.inl ⟨e, ⟨h1, fun l a c => by omega⟩, (show p = n * n by omega) ▸ h2⟩) | (exfalso; omega))
          · have hL : (lnf n G (2 * n) ∧ lnf n G (2 * n + 1)) ∧ GDF n G p ∧ u = usm G p.toNat := by
                rcases hA with ⟨_, h⟩ | ⟨e, _⟩
                · exact h
                · omega
            have hsh := shr2_r (a := u) (b := G p) hu.1
            have hbr := bnd2_r (a := shr2 u (G p)) (b := 1) hsh.1
            have hpn := p2_nn (k := G p) (by omega)
            refine z_aload_n (pc := 72) hO 0 dX12_isFit_72 rfl rfl ?_
            refine gf_X12_work (pc := 73) hO f_X12_19 dX12_isFit_73 ?_
            refine z_iload_n (pc := 76) hO 3 dX12_isFit_76 rfl rfl ?_
            refine z_iald (pc := 77) hO isI_54 (by omega) dX12_isFit_77 ?_
            rw [hK.2.1 p (by omega) (by omega)]
            refine z_aload_n (pc := 78) hO 0 dX12_isFit_78 rfl rfl ?_
            refine gf_X12_side (pc := 79) hO f_X12_150 dX12_isFit_79 ?_
            rw [h5]
            refine z_aload_n (pc := 82) hO 0 dX12_isFit_82 rfl rfl ?_
            refine gf_X12_side (pc := 83) hO f_X12_150 dX12_isFit_83 ?_
            rw [h5]
            refine z_imul (pc := 86) hO dX12_isFit_86 ?_
            refine z_icmp_gt (pc := 87) hO (tgt := 116) dX12_isFit_87 (by decide) (by omega) (by omega) (fun b7 => ?_) (fun b7 => ?_)
            · refine z_iconst (pc := 116) hO dX12_isFit_116 ?_
              refine z_istore_n (pc := 117) hO (lv' := [(2, .int (zi 0)), (0, .ref (gA g 50)), (1, .int (zi u)), (3, .int (zi p))]) dX12_isFit_117 rfl (by decide) rfl ?_
              refine z_iload_n (pc := 118) hO 2 dX12_isFit_118 rfl rfl ?_
              refine z_iload_n (pc := 119) hO 0 dX12_isFit_119 rfl rfl ?_
              refine z_if_eq (pc := 120) hO (tgt := 143) dX12_isFit_120 (by decide) (by decide) (fun _ => ?_) (fun h => absurd h (by decide))
              refine z_iconst (pc := 143) hO dX12_isFit_143 ?_
              refine z_ior (pc := 144) hO (zi (bor u 0)) dX12_isFit_144 (by exact bor_z (by omega) (by omega)) ?_
              refine z_istore_n (pc := 145) hO (lv' := [(1, .int (zi (bor u 0))), (2, .int (zi 0)), (0, .ref (gA g 50)), (3, .int (zi p))]) dX12_isFit_145 rfl (by decide) rfl ?_
              refine z_iinc (pc := 146) hO 3 (lv' := [(3, .int (zi (p + 1))), (1, .int (zi (bor u 0))), (2, .int (zi 0)), (0, .ref (gA g 50))]) dX12_isFit_146 rfl (by decide) rfl ?_
              refine z_goto (pc := 149) hO (tgt := 55) dX12_isFit_149 (by decide) ?_
              refine z_sub [3, 1, 2, 0] rfl ?_
              exact ih55 (bor u 0) 0 (p + 1) (by omega) (by omega) (by first | (rw [bor_0 hu.1]; exact hu) | exact bor_lt hu (by omega)) (by first | exact Or.inl ⟨rfl, hL.1, fs_ok h0.1 hL.2.1 hL.2.2 (by omega) (by omega) (by omega), by first | (rw [(usm_s h0.1).1 (by omega), ← hL.2.2]; done) | (rw [(usm_s h0.1).2 (by omega), ← hL.2.2, bor_0 hu.1]; done)⟩ | exact Or.inr ⟨rfl, fs_no (by omega) (by omega) hL.2.2 (by omega) (by omega)⟩)
            · refine z_aload_n (pc := 90) hO 0 dX12_isFit_90 rfl rfl ?_
              refine gf_X12_work (pc := 91) hO f_X12_19 dX12_isFit_91 ?_
              refine z_iload_n (pc := 94) hO 3 dX12_isFit_94 rfl rfl ?_
              refine z_iald (pc := 95) hO isI_54 (by omega) dX12_isFit_95 ?_
              rw [hK.2.1 p (by omega) (by omega)]
              refine z_if_eq (pc := 96) hO (tgt := 112) dX12_isFit_96 (by decide) (by omega) (fun b8 => ?_) (fun b8 => ?_)
              · refine z_iconst (pc := 112) hO dX12_isFit_112 ?_
                refine z_goto (pc := 113) hO (tgt := 117) dX12_isFit_113 (by decide) ?_
                refine z_istore_n (pc := 117) hO (lv' := [(2, .int (zi 1)), (0, .ref (gA g 50)), (1, .int (zi u)), (3, .int (zi p))]) dX12_isFit_117 rfl (by decide) rfl ?_
                refine z_iload_n (pc := 118) hO 2 dX12_isFit_118 rfl rfl ?_
                refine z_iload_n (pc := 119) hO 0 dX12_isFit_119 rfl rfl ?_
                refine z_if_eq (pc := 120) hO (tgt := 143) dX12_isFit_120 (by decide) (by decide) (fun h => absurd h (by decide)) (fun _ => ?_)
                refine z_aload_n (pc := 123) hO 1 dX12_isFit_123 rfl rfl ?_
                refine gf_X12_work (pc := 124) hO f_X12_19 dX12_isFit_124 ?_
                refine z_iload_n (pc := 127) hO 3 dX12_isFit_127 rfl rfl ?_
                refine z_iald (pc := 128) hO isI_54 (by omega) dX12_isFit_128 ?_
                rw [hK.2.1 p (by omega) (by omega)]
                refine z_if_le (pc := 129) hO (tgt := 143) dX12_isFit_129 (by decide) (by omega) (fun b9 => ?_) (fun b9 => ?_)
                · refine z_iconst (pc := 143) hO dX12_isFit_143 ?_
                  refine z_ior (pc := 144) hO (zi (bor u 0)) dX12_isFit_144 (by exact bor_z (by omega) (by omega)) ?_
                  refine z_istore_n (pc := 145) hO (lv' := [(1, .int (zi (bor u 0))), (2, .int (zi 1)), (0, .ref (gA g 50)), (3, .int (zi p))]) dX12_isFit_145 rfl (by decide) rfl ?_
                  refine z_iinc (pc := 146) hO 3 (lv' := [(3, .int (zi (p + 1))), (1, .int (zi (bor u 0))), (2, .int (zi 1)), (0, .ref (gA g 50))]) dX12_isFit_146 rfl (by decide) rfl ?_
                  refine z_goto (pc := 149) hO (tgt := 55) dX12_isFit_149 (by decide) ?_
                  refine z_sub [3, 1, 2, 0] rfl ?_
                  exact ih55 (bor u 0) 1 (p + 1) (by omega) (by omega) (by first | (rw [bor_0 hu.1]; exact hu) | exact bor_lt hu (by omega)) (by first | exact Or.inl ⟨rfl, hL.1, fs_ok h0.1 hL.2.1 hL.2.2 (by omega) (by omega) (by omega), by first | (rw [(usm_s h0.1).1 (by omega), ← hL.2.2]; done) | (rw [(usm_s h0.1).2 (by omega), ← hL.2.2, bor_0 hu.1]; done)⟩ | exact Or.inr ⟨rfl, fs_no (by omega) (by omega) hL.2.2 (by omega) (by omega)⟩)
                · refine z_iconst (pc := 132) hO dX12_isFit_132 ?_
                  refine z_aload_n (pc := 133) hO 1 dX12_isFit_133 rfl rfl ?_
                  refine gf_X12_work (pc := 134) hO f_X12_19 dX12_isFit_134 ?_
                  refine z_iload_n (pc := 137) hO 3 dX12_isFit_137 rfl rfl ?_
                  refine z_iald (pc := 138) hO isI_54 (by omega) dX12_isFit_138 ?_
                  rw [hK.2.1 p (by omega) (by omega)]
                  refine z_ishl (pc := 139) hO (zi (p2 (G p))) dX12_isFit_139 (by exact zn_shl (by omega)) ?_
                  refine z_goto (pc := 140) hO (tgt := 144) dX12_isFit_140 (by decide) ?_
                  refine z_ior (pc := 144) hO (zi (bor u (p2 (G p)))) dX12_isFit_144 (by exact bor_z (by omega) (by omega)) ?_
                  refine z_istore_n (pc := 145) hO (lv' := [(1, .int (zi (bor u (p2 (G p))))), (2, .int (zi 1)), (0, .ref (gA g 50)), (3, .int (zi p))]) dX12_isFit_145 rfl (by decide) rfl ?_
                  refine z_iinc (pc := 146) hO 3 (lv' := [(3, .int (zi (p + 1))), (1, .int (zi (bor u (p2 (G p))))), (2, .int (zi 1)), (0, .ref (gA g 50))]) dX12_isFit_146 rfl (by decide) rfl ?_
                  refine z_goto (pc := 149) hO (tgt := 55) dX12_isFit_149 (by decide) ?_
                  refine z_sub [3, 1, 2, 0] rfl ?_
                  exact ih55 (bor u (p2 (G p))) 1 (p + 1) (by omega) (by omega) (by first | (rw [bor_0 hu.1]; exact hu) | exact bor_lt hu (by omega)) (by first | exact Or.inl ⟨rfl, hL.1, fs_ok h0.1 hL.2.1 hL.2.2 (by omega) (by omega) (by omega), by first | (rw [(usm_s h0.1).1 (by omega), ← hL.2.2]; done) | (rw [(usm_s h0.1).2 (by omega), ← hL.2.2, bor_0 hu.1]; done)⟩ | exact Or.inr ⟨rfl, fs_no (by omega) (by omega) hL.2.2 (by omega) (by omega)⟩)
              · refine z_iload_n (pc := 99) hO 1 dX12_isFit_99 rfl rfl ?_
                refine z_aload_n (pc := 100) hO 0 dX12_isFit_100 rfl rfl ?_
                refine gf_X12_work (pc := 101) hO f_X12_19 dX12_isFit_101 ?_
                refine z_iload_n (pc := 104) hO 3 dX12_isFit_104 rfl rfl ?_
                refine z_iald (pc := 105) hO isI_54 (by omega) dX12_isFit_105 ?_
                rw [hK.2.1 p (by omega) (by omega)]
                refine z_ishr (pc := 106) hO (zi (shr2 u (G p))) dX12_isFit_106 (by exact shr2_z (by omega) (by omega)) ?_
                refine z_iconst (pc := 107) hO dX12_isFit_107 ?_
                refine z_iand (pc := 108) hO (zi (bnd2 (shr2 u (G p)) 1)) dX12_isFit_108 (by exact bnd2_z (by omega) (by omega)) ?_
                refine z_if_ne (pc := 109) hO (tgt := 116) dX12_isFit_109 (by decide) (by omega) (fun b10 => ?_) (fun b10 => ?_)
                · refine z_iconst (pc := 116) hO dX12_isFit_116 ?_
                  refine z_istore_n (pc := 117) hO (lv' := [(2, .int (zi 0)), (0, .ref (gA g 50)), (1, .int (zi u)), (3, .int (zi p))]) dX12_isFit_117 rfl (by decide) rfl ?_
                  refine z_iload_n (pc := 118) hO 2 dX12_isFit_118 rfl rfl ?_
                  refine z_iload_n (pc := 119) hO 0 dX12_isFit_119 rfl rfl ?_
                  refine z_if_eq (pc := 120) hO (tgt := 143) dX12_isFit_120 (by decide) (by decide) (fun _ => ?_) (fun h => absurd h (by decide))
                  refine z_iconst (pc := 143) hO dX12_isFit_143 ?_
                  refine z_ior (pc := 144) hO (zi (bor u 0)) dX12_isFit_144 (by exact bor_z (by omega) (by omega)) ?_
                  refine z_istore_n (pc := 145) hO (lv' := [(1, .int (zi (bor u 0))), (2, .int (zi 0)), (0, .ref (gA g 50)), (3, .int (zi p))]) dX12_isFit_145 rfl (by decide) rfl ?_
                  refine z_iinc (pc := 146) hO 3 (lv' := [(3, .int (zi (p + 1))), (1, .int (zi (bor u 0))), (2, .int (zi 0)), (0, .ref (gA g 50))]) dX12_isFit_146 rfl (by decide) rfl ?_
                  refine z_goto (pc := 149) hO (tgt := 55) dX12_isFit_149 (by decide) ?_
                  refine z_sub [3, 1, 2, 0] rfl ?_
                  exact ih55 (bor u 0) 0 (p + 1) (by omega) (by omega) (by first | (rw [bor_0 hu.1]; exact hu) | exact bor_lt hu (by omega)) (by first | exact Or.inl ⟨rfl, hL.1, fs_ok h0.1 hL.2.1 hL.2.2 (by omega) (by omega) (by omega), by first | (rw [(usm_s h0.1).1 (by omega), ← hL.2.2]; done) | (rw [(usm_s h0.1).2 (by omega), ← hL.2.2, bor_0 hu.1]; done)⟩ | exact Or.inr ⟨rfl, fs_no (by omega) (by omega) hL.2.2 (by omega) (by omega)⟩)
                · refine z_iconst (pc := 112) hO dX12_isFit_112 ?_
                  refine z_goto (pc := 113) hO (tgt := 117) dX12_isFit_113 (by decide) ?_
                  refine z_istore_n (pc := 117) hO (lv' := [(2, .int (zi 1)), (0, .ref (gA g 50)), (1, .int (zi u)), (3, .int (zi p))]) dX12_isFit_117 rfl (by decide) rfl ?_
                  refine z_iload_n (pc := 118) hO 2 dX12_isFit_118 rfl rfl ?_
                  refine z_iload_n (pc := 119) hO 0 dX12_isFit_119 rfl rfl ?_
                  refine z_if_eq (pc := 120) hO (tgt := 143) dX12_isFit_120 (by decide) (by decide) (fun h => absurd h (by decide)) (fun _ => ?_)
                  refine z_aload_n (pc := 123) hO 1 dX12_isFit_123 rfl rfl ?_
                  refine gf_X12_work (pc := 124) hO f_X12_19 dX12_isFit_124 ?_
                  refine z_iload_n (pc := 127) hO 3 dX12_isFit_127 rfl rfl ?_
                  refine z_iald (pc := 128) hO isI_54 (by omega) dX12_isFit_128 ?_
                  rw [hK.2.1 p (by omega) (by omega)]
                  refine z_if_le (pc := 129) hO (tgt := 143) dX12_isFit_129 (by decide) (by omega) (fun b11 => ?_) (fun b11 => ?_)
                  · refine z_iconst (pc := 143) hO dX12_isFit_143 ?_
                    refine z_ior (pc := 144) hO (zi (bor u 0)) dX12_isFit_144 (by exact bor_z (by omega) (by omega)) ?_
                    refine z_istore_n (pc := 145) hO (lv' := [(1, .int (zi (bor u 0))), (2, .int (zi 1)), (0, .ref (gA g 50)), (3, .int (zi p))]) dX12_isFit_145 rfl (by decide) rfl ?_
                    refine z_iinc (pc := 146) hO 3 (lv' := [(3, .int (zi (p + 1))), (1, .int (zi (bor u 0))), (2, .int (zi 1)), (0, .ref (gA g 50))]) dX12_isFit_146 rfl (by decide) rfl ?_
                    refine z_goto (pc := 149) hO (tgt := 55) dX12_isFit_149 (by decide) ?_
                    refine z_sub [3, 1, 2, 0] rfl ?_
                    exact ih55 (bor u 0) 1 (p + 1) (by omega) (by omega) (by first | (rw [bor_0 hu.1]; exact hu) | exact bor_lt hu (by omega)) (by first | exact Or.inl ⟨rfl, hL.1, fs_ok h0.1 hL.2.1 hL.2.2 (by omega) (by omega) (by omega), by first | (rw [(usm_s h0.1).1 (by omega), ← hL.2.2]; done) | (rw [(usm_s h0.1).2 (by omega), ← hL.2.2, bor_0 hu.1]; done)⟩ | exact Or.inr ⟨rfl, fs_no (by omega) (by omega) hL.2.2 (by omega) (by omega)⟩)
                  · refine z_iconst (pc := 132) hO dX12_isFit_132 ?_
                    refine z_aload_n (pc := 133) hO 1 dX12_isFit_133 rfl rfl ?_
                    refine gf_X12_work (pc := 134) hO f_X12_19 dX12_isFit_134 ?_
                    refine z_iload_n (pc := 137) hO 3 dX12_isFit_137 rfl rfl ?_
                    refine z_iald (pc := 138) hO isI_54 (by omega) dX12_isFit_138 ?_
                    rw [hK.2.1 p (by omega) (by omega)]
                    refine z_ishl (pc := 139) hO (zi (p2 (G p))) dX12_isFit_139 (by exact zn_shl (by omega)) ?_
                    refine z_goto (pc := 140) hO (tgt := 144) dX12_isFit_140 (by decide) ?_
                    refine z_ior (pc := 144) hO (zi (bor u (p2 (G p)))) dX12_isFit_144 (by exact bor_z (by omega) (by omega)) ?_
                    refine z_istore_n (pc := 145) hO (lv' := [(1, .int (zi (bor u (p2 (G p))))), (2, .int (zi 1)), (0, .ref (gA g 50)), (3, .int (zi p))]) dX12_isFit_145 rfl (by decide) rfl ?_
                    refine z_iinc (pc := 146) hO 3 (lv' := [(3, .int (zi (p + 1))), (1, .int (zi (bor u (p2 (G p))))), (2, .int (zi 1)), (0, .ref (gA g 50))]) dX12_isFit_146 rfl (by decide) rfl ?_
                    refine z_goto (pc := 149) hO (tgt := 55) dX12_isFit_149 (by decide) ?_
                    refine z_sub [3, 1, 2, 0] rfl ?_
                    exact ih55 (bor u (p2 (G p))) 1 (p + 1) (by omega) (by omega) (by first | (rw [bor_0 hu.1]; exact hu) | exact bor_lt hu (by omega)) (by first | exact Or.inl ⟨rfl, hL.1, fs_ok h0.1 hL.2.1 hL.2.2 (by omega) (by omega) (by omega), by first | (rw [(usm_s h0.1).1 (by omega), ← hL.2.2]; done) | (rw [(usm_s h0.1).2 (by omega), ← hL.2.2, bor_0 hu.1]; done)⟩ | exact Or.inr ⟨rfl, fs_no (by omega) (by omega) hL.2.2 (by omega) (by omega)⟩)
    refine z_sub [2, 3, 1, 0] rfl ?_
    exact L55 _ 0 b0 0 (Nat.lt_succ_self _) (by omega) (by omega) (by rcases h_b with ⟨e, h⟩ | ⟨e, h⟩; exact Or.inl ⟨e, h, GDF_0 n G, rfl⟩; exact Or.inr ⟨e, fun q => h (((fit_LNF (by omega)).mp q).1.1)⟩)
  refine z_aload_n (pc := 2) hO 1 dX12_isFit_2 rfl rfl ?_
  refine z_iconst (pc := 3) hO dX12_isFit_3 ?_
  refine z_aload_n (pc := 4) hO 1 dX12_isFit_4 rfl rfl ?_
  refine gf_X12_side (pc := 5) hO f_X12_150 dX12_isFit_5 ?_
  rw [h5]
  refine z_iconst (pc := 8) hO dX12_isFit_8 ?_
  refine z_iadd (pc := 9) hO dX12_isFit_9 ?_
  refine z_callVB (pc := 10) hO (As := [.int (zi 0), .int (zi (n + 1))]) (st := []) (c_X12_isLineFit (qL Γ) g x 0 (n + 1) n (2 * n) G (by first | assumption | omega) (by first | assumption | omega) (by first | assumption | omega) (by unfold liS; rw [if_neg (by omega), if_neg (by omega), if_pos rfl]) (by unfold liP; rw [if_neg (by omega), if_neg (by omega), if_pos rfl])) k_X12_153 isO_50 rfl (Nat.le_of_ble_eq_true rfl) (by decide) (by decide) ⟨by decide, by decide⟩ dX12_isFit_10 (fun pb12 => ?_) (fun pb12 => ?_)
  · skip
    have hd1 := pb12
    refine z_if_eq (pc := 13) hO (tgt := 51) dX12_isFit_13 (by decide) (by decide) (fun h => absurd h (by decide)) (fun _ => ?_)
    refine z_aload_n (pc := 16) hO 1 dX12_isFit_16 rfl rfl ?_
    refine z_aload_n (pc := 17) hO 1 dX12_isFit_17 rfl rfl ?_
    refine gf_X12_side (pc := 18) hO f_X12_150 dX12_isFit_18 ?_
    rw [h5]
    refine z_iconst (pc := 21) hO dX12_isFit_21 ?_
    refine z_isub (pc := 22) hO dX12_isFit_22 ?_
    refine z_aload_n (pc := 23) hO 1 dX12_isFit_23 rfl rfl ?_
    refine gf_X12_side (pc := 24) hO f_X12_150 dX12_isFit_24 ?_
    rw [h5]
    refine z_iconst (pc := 27) hO dX12_isFit_27 ?_
    refine z_icmp_le (pc := 28) hO (tgt := 40) dX12_isFit_28 (by decide) (by omega) (by omega) (fun b13 => ?_) (fun b13 => ?_)
    · refine z_iconst (pc := 40) hO dX12_isFit_40 ?_
      refine z_callVB (pc := 41) hO (As := [.int (zi (n - 1)), .int (zi 1)]) (st := []) (c_X12_isLineFit (qL Γ) g x (n - 1) 1 n (2 * n + 1) G (by first | assumption | omega) (by first | assumption | omega) (by first | assumption | omega) (by unfold liS; rw [if_neg (by omega), if_neg (by omega), if_neg (by omega)]) (by unfold liP; rw [if_neg (by omega), if_neg (by omega), if_neg (by omega)]; first | (rw [if_pos (by omega)]; done) | (rw [if_neg (by omega)]; done))) k_X12_153 isO_50 rfl (Nat.le_of_ble_eq_true rfl) (by decide) (by decide) ⟨by decide, by decide⟩ dX12_isFit_41 (fun pb14 => ?_) (fun pb14 => ?_)
      · skip
        have hd2 := pb14
        refine z_if_eq (pc := 44) hO (tgt := 51) dX12_isFit_44 (by decide) (by decide) (fun h => absurd h (by decide)) (fun _ => ?_)
        refine z_iconst (pc := 47) hO dX12_isFit_47 ?_
        refine z_goto (pc := 48) hO (tgt := 52) dX12_isFit_48 (by decide) ?_
        refine z_sub [1, 0] rfl ?_
        exact J52 1 (by first | exact Or.inl ⟨rfl, hd1, hd2⟩ | exact Or.inr ⟨rfl, fun h => hd2 h.2⟩ | exact Or.inr ⟨rfl, fun h => hd1 h.1⟩)
      · skip
        have hd2 := pb14
        refine z_if_eq (pc := 44) hO (tgt := 51) dX12_isFit_44 (by decide) (by decide) (fun _ => ?_) (fun h => absurd h (by decide))
        refine z_iconst (pc := 51) hO dX12_isFit_51 ?_
        refine z_sub [1, 0] rfl ?_
        exact J52 0 (by first | exact Or.inl ⟨rfl, hd1, hd2⟩ | exact Or.inr ⟨rfl, fun h => hd2 h.2⟩ | exact Or.inr ⟨rfl, fun h => hd1 h.1⟩)
    · refine z_aload_n (pc := 31) hO 1 dX12_isFit_31 rfl rfl ?_
      refine gf_X12_side (pc := 32) hO f_X12_150 dX12_isFit_32 ?_
      rw [h5]
      refine z_iconst (pc := 35) hO dX12_isFit_35 ?_
      refine z_isub (pc := 36) hO dX12_isFit_36 ?_
      refine z_goto (pc := 37) hO (tgt := 41) dX12_isFit_37 (by decide) ?_
      refine z_callVB (pc := 41) hO (As := [.int (zi (n - 1)), .int (zi (n - 1))]) (st := []) (c_X12_isLineFit (qL Γ) g x (n - 1) (n - 1) n (2 * n + 1) G (by first | assumption | omega) (by first | assumption | omega) (by first | assumption | omega) (by unfold liS; rw [if_neg (by omega), if_neg (by omega), if_neg (by omega)]) (by unfold liP; rw [if_neg (by omega), if_neg (by omega), if_neg (by omega)]; first | (rw [if_pos (by omega)]; done) | (rw [if_neg (by omega)]; done))) k_X12_153 isO_50 rfl (Nat.le_of_ble_eq_true rfl) (by decide) (by decide) ⟨by decide, by decide⟩ dX12_isFit_41 (fun pb15 => ?_) (fun pb15 => ?_)
      · skip
        have hd2 := pb15
        refine z_if_eq (pc := 44) hO (tgt := 51) dX12_isFit_44 (by decide) (by decide) (fun h => absurd h (by decide)) (fun _ => ?_)
        refine z_iconst (pc := 47) hO dX12_isFit_47 ?_
        refine z_goto (pc := 48) hO (tgt := 52) dX12_isFit_48 (by decide) ?_
        refine z_sub [1, 0] rfl ?_
        exact J52 1 (by first | exact Or.inl ⟨rfl, hd1, hd2⟩ | exact Or.inr ⟨rfl, fun h => hd2 h.2⟩ | exact Or.inr ⟨rfl, fun h => hd1 h.1⟩)
      · skip
        have hd2 := pb15
        refine z_if_eq (pc := 44) hO (tgt := 51) dX12_isFit_44 (by decide) (by decide) (fun _ => ?_) (fun h => absurd h (by decide))
        refine z_iconst (pc := 51) hO dX12_isFit_51 ?_
        refine z_sub [1, 0] rfl ?_
        exact J52 0 (by first | exact Or.inl ⟨rfl, hd1, hd2⟩ | exact Or.inr ⟨rfl, fun h => hd2 h.2⟩ | exact Or.inr ⟨rfl, fun h => hd1 h.1⟩)
  · skip
    have hd1 := pb12
    refine z_if_eq (pc := 13) hO (tgt := 51) dX12_isFit_13 (by decide) (by decide) (fun _ => ?_) (fun h => absurd h (by decide))
    refine z_iconst (pc := 51) hO dX12_isFit_51 ?_
    refine z_sub [1, 0] rfl ?_
    exact J52 0 (by first | exact Or.inl ⟨rfl, hd1, hd2⟩ | exact Or.inr ⟨rfl, fun h => hd2 h.2⟩ | exact Or.inr ⟨rfl, fun h => hd1 h.1⟩)

set_option maxHeartbeats 600000 in
theorem c_X12_take (l : Launch) (g : Gl) (x : Me) (q : Int) (set : Int) (F : Int → Int) (hG : MG x q) (hn4 : x 51 q ≤ 4) (hset : 0 ≤ set ∧ set < 65536) (hF : ∀ p, 0 ≤ p → p < (x 51 q * x 51 q) → (bnd2 (shr2 set p) 1 = 1 → F p = nd x q p) ∧ (bnd2 (shr2 set p) 1 ≠ 1 → F p = 0)) (hF2 : ∀ p, 0 ≤ F p ∧ F p ≤ 999) : ctQ l g yX12_take cX12_take 4 none 1 20 [.ref (gA g 50), .int (zi q), .int (zi set)] x (QVu g (fun x' => TI x x' (x 51 q) F (x 51 q * x 51 q))) := by
  refine ct_start (own := RX12) (lv := [(0, .ref (gA g 50)), (1, .int (zi q)), (2, .int (zi set))]) (plainFor_of_name (by decide)) rfl (Nat.le_of_ble_eq_true rfl) rfl ?_
  intro Γ hΓ hO hr hQ _
  obtain ⟨hq, hs, hf⟩ := id hG
  have hsq := sq9 hs
  have h4 := sq4 (n := x 51 q) (by omega)
  refine z_aload_n (pc := 0) hO 0 dX12_take_0 rfl rfl ?_
  refine z_aload_n (pc := 1) hO 0 dX12_take_1 rfl rfl ?_
  refine gf_X12_sideOf (pc := 2) hO f_X12_7 dX12_take_2 ?_
  refine z_iload_n (pc := 5) hO 1 dX12_take_5 rfl rfl ?_
  refine z_iald (pc := 6) hO isI_51 (by omega) dX12_take_6 ?_
  refine pf_X12_side (pc := 7) hO f_X12_150 dX12_take_7 (fun m1 e2 => ?_)
  refine z_aload_n (pc := 10) hO 0 dX12_take_10 rfl rfl ?_
  refine z_iconst (pc := 11) hO dX12_take_11 ?_
  refine pf_X12_empties (pc := 12) hO f_X12_156 dX12_take_12 (fun m3 e4 => ?_)
  refine z_iconst (pc := 15) hO dX12_take_15 ?_
  refine z_istore_n (pc := 16) hO (lv' := [(3, .int (zi 0)), (0, .ref (gA g 50)), (1, .int (zi q)), (2, .int (zi set))]) dX12_take_16 rfl (by decide) rfl ?_
  have L17 : ∀ (N : Nat) (p : Int) (y : Me), ((x 51 q * x 51 q) - p).toNat < N → (0 ≤ p ∧ p ≤ (x 51 q * x 51 q)) → (TI x y (x 51 q) F p) → Zz Γ g 4 0 0 y 17 [(0, .ref (gA g 50)), (1, .int (zi q)), (2, .int (zi set)), (3, .int (zi p))] [] := by
    intro N
    induction N with
    | zero => intro p y hm; exact absurd hm (Nat.not_lt_zero _)
    | succ N ih17 =>
      intro p y hm h0 hI
      have y52 : y 52 = x 52 := hI.2.2.2.2 52 (by omega) (by omega) (by omega)
      have hel := emp_len F p.toNat
      have h7 := hI.2.1.1
      refine z_iload_n (pc := 17) hO 3 dX12_take_17 rfl rfl ?_
      refine z_aload_n (pc := 18) hO 0 dX12_take_18 rfl rfl ?_
      refine gf_X12_side (pc := 19) hO f_X12_150 dX12_take_19 ?_
      rw [hI.1]
      refine z_aload_n (pc := 22) hO 0 dX12_take_22 rfl rfl ?_
      refine gf_X12_side (pc := 23) hO f_X12_150 dX12_take_23 ?_
      rw [hI.1]
      refine z_imul (pc := 26) hO dX12_take_26 ?_
      refine z_icmp_ge (pc := 27) hO (tgt := 95) dX12_take_27 (by decide) (by omega) (by omega) (fun b5 => ?_) (fun b5 => ?_)
      · exact z_vret (pc := 95) hO hr hQ dX12_take_95 (by first | (obtain rfl : p = (x 51 q * x 51 q) := (by omega); exact hI; done) | (exfalso; omega))
      · have hFp := hF p (by omega) (by omega)
        have hgp := hF2 p
        have g1 : nd x q p = y 52 (81 * q + p) := by rw [y52]; exact nd_in (by omega)
        have hsh := shr2_r (a := set) (b := p) hset.1
        have hbr := bnd2_r (a := shr2 set p) (b := 1) hsh.1
        refine z_aload_n (pc := 30) hO 0 dX12_take_30 rfl rfl ?_
        refine gf_X12_work (pc := 31) hO f_X12_19 dX12_take_31 ?_
        refine z_iload_n (pc := 34) hO 3 dX12_take_34 rfl rfl ?_
        refine z_iload_n (pc := 35) hO 2 dX12_take_35 rfl rfl ?_
        refine z_iload_n (pc := 36) hO 3 dX12_take_36 rfl rfl ?_
        refine z_ishr (pc := 37) hO (zi (shr2 set p)) dX12_take_37 (by exact shr2_z (by omega) (by omega)) ?_
        refine z_iconst (pc := 38) hO dX12_take_38 ?_
        refine z_iand (pc := 39) hO (zi (bnd2 (shr2 set p) 1)) dX12_take_39 (by exact bnd2_z (by omega) (by omega)) ?_
        refine z_iconst (pc := 40) hO dX12_take_40 ?_
        refine z_icmp_ne (pc := 41) hO (tgt := 58) dX12_take_41 (by decide) (by omega) (by omega) (fun b6 => ?_) (fun b6 => ?_)
        · refine z_iconst (pc := 58) hO dX12_take_58 ?_
          first | (rw [show 0 = F p by omega]; done) | (rw [← g1, ← hFp.1 (by omega)]) | (rw [show 0 = F p from by rw [hFp.2 (by omega)]])
          refine z_iast (pc := 59) hO isI_54 (by omega) dX12_take_59 (fun m7 e8 => ?_)
          have hst : m7 54 p = F p := by rw [e8, up_s]
          have hvv : F p = F p := rfl
          have hE1 := e8
          have h57 : m7 50 7 = y 50 7 := by rw [e8, up_i _ _ _ (by omega)]
          refine z_aload_n (pc := 60) hO 0 dX12_take_60 rfl rfl ?_
          refine gf_X12_work (pc := 61) hO f_X12_19 dX12_take_61 ?_
          refine z_iload_n (pc := 64) hO 3 dX12_take_64 rfl rfl ?_
          refine z_iald (pc := 65) hO isI_54 (by omega) dX12_take_65 ?_
          refine z_if_ne (pc := 66) hO (tgt := 89) dX12_take_66 (by decide) (by omega) (fun b9 => ?_) (fun b9 => ?_)
          · refine z_iinc (pc := 89) hO 3 (lv' := [(3, .int (zi (p + 1))), (0, .ref (gA g 50)), (1, .int (zi q)), (2, .int (zi set))]) dX12_take_89 rfl (by decide) rfl ?_
            refine z_goto (pc := 92) hO (tgt := 17) dX12_take_92 (by decide) ?_
            refine z_sub [1, 2, 3, 0] rfl ?_
            exact ih17 (p + 1) m7 (by omega) (by omega) (by first | exact TI_1 hI h0.1 (by rw [← hst]; assumption) hvv hE1 | exact TI_2 hI h0.1 (by rw [← hst]; assumption) hvv (by subst m7; first | rfl | (rw [up_i _ _ _ (by omega), up_i _ _ _ (by omega)])))
          · refine z_aload_n (pc := 69) hO 0 dX12_take_69 rfl rfl ?_
            refine gf_X12_empty (pc := 70) hO f_X12_22 dX12_take_70 ?_
            refine z_aload_n (pc := 73) hO 0 dX12_take_73 rfl rfl ?_
            refine gf_X12_empties (pc := 74) hO f_X12_156 dX12_take_74 ?_
            refine z_iload_n (pc := 77) hO 3 dX12_take_77 rfl rfl ?_
            refine z_iast (pc := 78) hO isI_55 (by omega) dX12_take_78 (fun m10 e11 => ?_)
            refine z_aload_n (pc := 79) hO 0 dX12_take_79 rfl rfl ?_
            refine z_dup (pc := 80) hO dX12_take_80 rfl ?_
            refine gf_X12_empties (pc := 81) hO f_X12_156 dX12_take_81 ?_
            refine z_iconst (pc := 84) hO dX12_take_84 ?_
            refine z_iadd (pc := 85) hO dX12_take_85 ?_
            refine pf_X12_empties (pc := 86) hO f_X12_156 dX12_take_86 (fun m12 e13 => ?_)
            refine z_iinc (pc := 89) hO 3 (lv' := [(3, .int (zi (p + 1))), (0, .ref (gA g 50)), (1, .int (zi q)), (2, .int (zi set))]) dX12_take_89 rfl (by decide) rfl ?_
            refine z_goto (pc := 92) hO (tgt := 17) dX12_take_92 (by decide) ?_
            refine z_sub [1, 2, 3, 0] rfl ?_
            exact ih17 (p + 1) m12 (by omega) (by omega) (by first | exact TI_1 hI h0.1 (by rw [← hst]; assumption) hvv hE1 | exact TI_2 hI h0.1 (by rw [← hst]; assumption) hvv (by subst m12 m10 m7; first | rfl | (rw [up_i _ _ _ (by omega), up_i _ _ _ (by omega)])))
        · refine z_aload_n (pc := 44) hO 0 dX12_take_44 rfl rfl ?_
          refine gf_X12_numbers (pc := 45) hO f_X12_13 dX12_take_45 ?_
          refine z_bipush (pc := 48) hO dX12_take_48 (by decide) ?_
          refine z_iload_n (pc := 50) hO 1 dX12_take_50 rfl rfl ?_
          refine z_imul (pc := 51) hO dX12_take_51 ?_
          refine z_iload_n (pc := 52) hO 3 dX12_take_52 rfl rfl ?_
          refine z_iadd (pc := 53) hO dX12_take_53 ?_
          refine z_iald (pc := 54) hO isI_52 (by omega) dX12_take_54 ?_
          refine z_goto (pc := 55) hO (tgt := 59) dX12_take_55 (by decide) ?_
          first | (rw [show (y 52 ((81 * q) + p)) = F p by omega]; done) | (rw [← g1, ← hFp.1 (by omega)]) | (rw [show (y 52 ((81 * q) + p)) = F p from by rw [hFp.2 (by omega)]])
          refine z_iast (pc := 59) hO isI_54 (by omega) dX12_take_59 (fun m14 e15 => ?_)
          have hst : m14 54 p = F p := by rw [e15, up_s]
          have hvv : F p = F p := rfl
          have hE1 := e15
          have h57 : m14 50 7 = y 50 7 := by rw [e15, up_i _ _ _ (by omega)]
          refine z_aload_n (pc := 60) hO 0 dX12_take_60 rfl rfl ?_
          refine gf_X12_work (pc := 61) hO f_X12_19 dX12_take_61 ?_
          refine z_iload_n (pc := 64) hO 3 dX12_take_64 rfl rfl ?_
          refine z_iald (pc := 65) hO isI_54 (by omega) dX12_take_65 ?_
          refine z_if_ne (pc := 66) hO (tgt := 89) dX12_take_66 (by decide) (by omega) (fun b16 => ?_) (fun b16 => ?_)
          · refine z_iinc (pc := 89) hO 3 (lv' := [(3, .int (zi (p + 1))), (0, .ref (gA g 50)), (1, .int (zi q)), (2, .int (zi set))]) dX12_take_89 rfl (by decide) rfl ?_
            refine z_goto (pc := 92) hO (tgt := 17) dX12_take_92 (by decide) ?_
            refine z_sub [1, 2, 3, 0] rfl ?_
            exact ih17 (p + 1) m14 (by omega) (by omega) (by first | exact TI_1 hI h0.1 (by rw [← hst]; assumption) hvv hE1 | exact TI_2 hI h0.1 (by rw [← hst]; assumption) hvv (by subst m14; first | rfl | (rw [up_i _ _ _ (by omega), up_i _ _ _ (by omega)])))
          · refine z_aload_n (pc := 69) hO 0 dX12_take_69 rfl rfl ?_
            refine gf_X12_empty (pc := 70) hO f_X12_22 dX12_take_70 ?_
            refine z_aload_n (pc := 73) hO 0 dX12_take_73 rfl rfl ?_
            refine gf_X12_empties (pc := 74) hO f_X12_156 dX12_take_74 ?_
            refine z_iload_n (pc := 77) hO 3 dX12_take_77 rfl rfl ?_
            refine z_iast (pc := 78) hO isI_55 (by omega) dX12_take_78 (fun m17 e18 => ?_)
            refine z_aload_n (pc := 79) hO 0 dX12_take_79 rfl rfl ?_
            refine z_dup (pc := 80) hO dX12_take_80 rfl ?_
            refine gf_X12_empties (pc := 81) hO f_X12_156 dX12_take_81 ?_
            refine z_iconst (pc := 84) hO dX12_take_84 ?_
            refine z_iadd (pc := 85) hO dX12_take_85 ?_
            refine pf_X12_empties (pc := 86) hO f_X12_156 dX12_take_86 (fun m19 e20 => ?_)
            refine z_iinc (pc := 89) hO 3 (lv' := [(3, .int (zi (p + 1))), (0, .ref (gA g 50)), (1, .int (zi q)), (2, .int (zi set))]) dX12_take_89 rfl (by decide) rfl ?_
            refine z_goto (pc := 92) hO (tgt := 17) dX12_take_92 (by decide) ?_
            refine z_sub [1, 2, 3, 0] rfl ?_
            exact ih17 (p + 1) m19 (by omega) (by omega) (by first | exact TI_1 hI h0.1 (by rw [← hst]; assumption) hvv hE1 | exact TI_2 hI h0.1 (by rw [← hst]; assumption) hvv (by subst m19 m17 m14; first | rfl | (rw [up_i _ _ _ (by omega), up_i _ _ _ (by omega)])))
  refine z_sub [1, 2, 3, 0] rfl ?_
  exact L17 _ 0 m3 (Nat.lt_succ_self _) (by omega) (by exact TI_0 (by subst m3 m1; rfl))

