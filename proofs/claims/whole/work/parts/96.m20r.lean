set_option maxHeartbeats 600000 in
theorem c_X12_goesOn (l : Launch) (g : Gl) (x : Me) (k : Int) (n : Int) (G : Int → Int) (p : Int) (t : Int) (hn : 1 ≤ n ∧ n ≤ 4) (hK : WK x n G) (hk16 : 0 ≤ k ∧ k < 16) (hp55 : x 55 k = p) (hp : 0 ≤ p ∧ p < n * n) (ht : x 56 k = t) (htr : 0 ≤ t ∧ t ≤ n * n) : ctQ l g yX12_goesOn cX12_goesOn 3 (some .boolean) 3 69 [.ref (gA g 50), .int (zi k)] x (QIu g (fun z x' => (z = 1 ∧ GOT n G p t k x x') ∨ (z = 0 ∧ GOF n G p t k x x'))) := by
  refine ct_start (own := RX12) (lv := [(0, .ref (gA g 50)), (1, .int (zi k))]) (plainFor_of_name (by decide)) rfl (Nat.le_of_ble_eq_true rfl) rfl ?_
  intro Γ hΓ hO hr hQ _
  have h5 := hK.1
  have h4 := sq4 hn
  have hGr := hK.2.2
  have hdu := du4 hn
  refine z_aload_n (pc := 0) hO 0 dX12_goesOn_0 rfl rfl ?_
  refine gf_X12_tried (pc := 1) hO f_X12_25 dX12_goesOn_1 ?_
  refine z_iload_n (pc := 4) hO 1 dX12_goesOn_4 rfl rfl ?_
  refine z_iald (pc := 5) hO isI_56 (by omega) dX12_goesOn_5 ?_
  rw [ht]
  refine z_iconst (pc := 6) hO dX12_goesOn_6 ?_
  refine z_iadd (pc := 7) hO dX12_goesOn_7 ?_
  refine z_istore_n (pc := 8) hO (lv' := [(2, .int (zi (t + 1))), (0, .ref (gA g 50)), (1, .int (zi k))]) dX12_goesOn_8 rfl (by decide) rfl ?_
  have L9 : ∀ (N : Nat) (v : Int) (y : Me), (n * n + 1 - v).toNat < N → (t < v ∧ v ≤ n * n + 1) → (∀ w, up y 54 p w = up x 54 p w) → (∀ a, a ≠ 54 → y a = x a) → (∀ u, t < u → u < v → ¬ fit n (uf G p u)) → Zz Γ g 3 0 0 y 9 [(0, .ref (gA g 50)), (1, .int (zi k)), (2, .int (zi v))] [] := by
    intro N
    induction N with
    | zero => intro v y hm; exact absurd hm (Nat.not_lt_zero _)
    | succ N ih9 =>
      intro v y hm h0 hy hfr hN
      have hy55 : y 55 k = x 55 k := by rw [hfr 55 (by omega)]
      have hy50 : y 50 5 = n := by rw [hfr 50 (by omega)]; exact h5
      refine z_iload_n (pc := 9) hO 2 dX12_goesOn_9 rfl rfl ?_
      refine z_aload_n (pc := 10) hO 0 dX12_goesOn_10 rfl rfl ?_
      refine gf_X12_side (pc := 11) hO f_X12_150 dX12_goesOn_11 ?_
      rw [hy50]
      refine z_aload_n (pc := 14) hO 0 dX12_goesOn_14 rfl rfl ?_
      refine gf_X12_side (pc := 15) hO f_X12_150 dX12_goesOn_15 ?_
      rw [hy50]
      refine z_imul (pc := 18) hO dX12_goesOn_18 ?_
      refine z_icmp_gt (pc := 19) hO (tgt := 56) dX12_goesOn_19 (by decide) (by omega) (by omega) (fun b1 => ?_) (fun b1 => ?_)
      · refine z_aload_n (pc := 56) hO 0 dX12_goesOn_56 rfl rfl ?_
        refine gf_X12_work (pc := 57) hO f_X12_19 dX12_goesOn_57 ?_
        refine z_aload_n (pc := 60) hO 0 dX12_goesOn_60 rfl rfl ?_
        refine gf_X12_empty (pc := 61) hO f_X12_22 dX12_goesOn_61 ?_
        refine z_iload_n (pc := 64) hO 1 dX12_goesOn_64 rfl rfl ?_
        refine z_iald (pc := 65) hO isI_55 (by omega) dX12_goesOn_65 ?_
        rw [hy55, hp55]
        refine z_iconst (pc := 66) hO dX12_goesOn_66 ?_
        refine z_iast (pc := 67) hO isI_54 (by omega) dX12_goesOn_67 (fun m2 e3 => ?_)
        refine z_aload_n (pc := 68) hO 0 dX12_goesOn_68 rfl rfl ?_
        refine gf_X12_tried (pc := 69) hO f_X12_25 dX12_goesOn_69 ?_
        refine z_iload_n (pc := 72) hO 1 dX12_goesOn_72 rfl rfl ?_
        refine z_iconst (pc := 73) hO dX12_goesOn_73 ?_
        refine z_iast (pc := 74) hO isI_56 (by omega) dX12_goesOn_74 (fun m4 e5 => ?_)
        refine z_iconst (pc := 75) hO dX12_goesOn_75 ?_
        exact z_iret (pc := 76) hO hr hQ rfl dX12_goesOn_76 (by first | (refine Or.inr ⟨rfl, fun u a c => hN u a (by omega), ?_⟩; subst m4 m2; rw [hy 0]; done) | (exfalso; omega))
      · refine z_aload_n (pc := 22) hO 0 dX12_goesOn_22 rfl rfl ?_
        refine gf_X12_work (pc := 23) hO f_X12_19 dX12_goesOn_23 ?_
        refine z_aload_n (pc := 26) hO 0 dX12_goesOn_26 rfl rfl ?_
        refine gf_X12_empty (pc := 27) hO f_X12_22 dX12_goesOn_27 ?_
        refine z_iload_n (pc := 30) hO 1 dX12_goesOn_30 rfl rfl ?_
        refine z_iald (pc := 31) hO isI_55 (by omega) dX12_goesOn_31 ?_
        rw [hy55, hp55]
        refine z_iload_n (pc := 32) hO 2 dX12_goesOn_32 rfl rfl ?_
        refine z_iast (pc := 33) hO isI_54 (by omega) dX12_goesOn_33 (fun m6 e7 => ?_)
        have hWm : WK m6 n (uf G p v) := by rw [e7, hy v]; exact WK_up hK (by omega)
        refine z_aload_n (pc := 34) hO 0 dX12_goesOn_34 rfl rfl ?_
        refine z_callVB (pc := 35) hO (As := []) (st := []) (c_X12_isFit (qL Γ) g m6 n (uf G p v) (by first | assumption | omega) (by exact hWm)) k_X12_159 isO_50 rfl (Nat.le_of_ble_eq_true rfl) (by decide) (by decide) ⟨by decide, by decide⟩ dX12_goesOn_35 (fun pb8 => ?_) (fun pb8 => ?_)
        · skip
          have hpb := pb8
          refine z_if_eq (pc := 38) hO (tgt := 50) dX12_goesOn_38 (by decide) (by decide) (fun h => absurd h (by decide)) (fun _ => ?_)
          refine z_aload_n (pc := 41) hO 0 dX12_goesOn_41 rfl rfl ?_
          refine gf_X12_tried (pc := 42) hO f_X12_25 dX12_goesOn_42 ?_
          refine z_iload_n (pc := 45) hO 1 dX12_goesOn_45 rfl rfl ?_
          refine z_iload_n (pc := 46) hO 2 dX12_goesOn_46 rfl rfl ?_
          refine z_iast (pc := 47) hO isI_56 (by omega) dX12_goesOn_47 (fun m9 e10 => ?_)
          refine z_iconst (pc := 48) hO dX12_goesOn_48 ?_
          exact z_iret (pc := 49) hO hr hQ rfl dX12_goesOn_49 (by first | (refine Or.inl ⟨rfl, v, by omega, hpb, hN, ?_⟩; subst m9 m6; rw [hy v]; done) | (exfalso; omega))
        · skip
          have hpb := pb8
          refine z_if_eq (pc := 38) hO (tgt := 50) dX12_goesOn_38 (by decide) (by decide) (fun _ => ?_) (fun h => absurd h (by decide))
          refine z_iinc (pc := 50) hO 2 (lv' := [(2, .int (zi (v + 1))), (0, .ref (gA g 50)), (1, .int (zi k))]) dX12_goesOn_50 rfl (by decide) rfl ?_
          refine z_goto (pc := 53) hO (tgt := 9) dX12_goesOn_53 (by decide) ?_
          refine z_sub [1, 2, 0] rfl ?_
          exact ih9 (v + 1) m6 (by omega) (by omega) (by intro w; subst m6; rw [hy v, up_up]) (by intro a ha; subst m6; rw [up_i _ _ _ ha]; exact hfr a ha) (by intro u a b; exact dite (u = v) (fun e => by rw [e]; exact hpb) (fun e => hN u a (by omega)))
  refine z_sub [1, 2, 0] rfl ?_
  exact L9 _ (t + 1) x (Nat.lt_succ_self _) (by omega) (by intro w; rfl) (by intro a _; rfl) (by intro u _ _; omega)

set_option maxHeartbeats 600000 in
theorem c_X12_search (l : Launch) (g : Gl) (x : Me) (most : Int) (n : Int) (E : Int) (e : Int → Int) (G0 : Int → Int) (hE : EH n E e G0) (hK : WK x n G0) (h7 : x 50 7 = E) (he : ∀ j, 0 ≤ j → j < E → x 55 j = e j) (hmo : 0 ≤ most ∧ most ≤ 2147483647) (hlen : ((SLS n E e G0).length : Int) ≤ 2000000000) : ctQ l g yX12_search cX12_search 5 (some .int) 4 91 [.ref (gA g 50), .int (zi most)] x (QIu g (fun z x' => z = min ((SLS n E e G0).length : Int) most ∧ (1 ≤ z → ∀ p, 0 ≤ p → p < n * n → x' 57 p = (SLS n E e G0).getD (z - 1).toNat (fun _ => 0) p) ∧ ∀ a, a ≠ 54 → a ≠ 56 → a ≠ 57 → x' a = x a)) := by
  refine ct_start (own := RX12) (lv := [(0, .ref (gA g 50)), (1, .int (zi most))]) (plainFor_of_name (by decide)) rfl (Nat.le_of_ble_eq_true rfl) rfl ?_
  intro Γ hΓ hO hr hQ _
  obtain ⟨hn, hE1, heR, heZ, heD, hgR⟩ := id hE
  have h5 := hK.1
  have h4 := sq4 hn
  refine z_aload_n (pc := 0) hO 0 dX12_search_0 rfl rfl ?_
  refine z_callVB (pc := 1) hO (As := []) (st := []) (c_X12_isFit (qL Γ) g x n G0 (by first | assumption | omega) (by first | assumption | omega)) k_X12_159 isO_50 rfl (Nat.le_of_ble_eq_true rfl) (by decide) (by decide) ⟨by decide, by decide⟩ dX12_search_1 (fun pb1 => ?_) (fun pb1 => ?_)
  · skip
    have hfit := pb1
    have hLe : SLS n E e G0 = sols n e E.toNat 0 G0 := ci_t hfit
    rw [hLe]  at hlen
    refine z_if_ne (pc := 4) hO (tgt := 9) dX12_search_4 (by decide) (by decide) (fun _ => ?_) (fun h => absurd h (by decide))
    refine z_iconst (pc := 9) hO dX12_search_9 ?_
    refine z_istore_n (pc := 10) hO (lv' := [(2, .int (zi 0)), (0, .ref (gA g 50)), (1, .int (zi most))]) dX12_search_10 rfl (by decide) rfl ?_
    refine z_iconst (pc := 11) hO dX12_search_11 ?_
    refine z_istore_n (pc := 12) hO (lv' := [(3, .int (zi 0)), (2, .int (zi 0)), (0, .ref (gA g 50)), (1, .int (zi most))]) dX12_search_12 rfl (by decide) rfl ?_
    refine z_aload_n (pc := 13) hO 2 dX12_search_13 rfl rfl ?_
    refine gf_X12_tried (pc := 14) hO f_X12_25 dX12_search_14 ?_
    refine z_iconst (pc := 17) hO dX12_search_17 ?_
    refine z_iconst (pc := 18) hO dX12_search_18 ?_
    refine z_iast (pc := 19) hO isI_56 (by omega) dX12_search_19 (fun m2 e3 => ?_)
    have L20 : ∀ (N : Nat) (w : Int) (k : Int) (y : Me) (t : Int → Int) (P : List (Int → Int)), mMl E t k < N → (SRI x y n E e G0 most w k t P) → Zz Γ g 5 0 0 y 20 [(0, .ref (gA g 50)), (1, .int (zi most)), (2, .int (zi w)), (3, .int (zi k))] [] := by
      intro N
      induction N with
      | zero => intro w k y t P hm; exact absurd hm (Nat.not_lt_zero _)
      | succ N ih20 =>
        intro w k y t P hm hI
        have h0 := hI.1
        have hw9 := hI.2.1
        have hfr := hI.2.2.2.2.2.2.2
        refine z_iload_n (pc := 20) hO 3 dX12_search_20 rfl rfl ?_
        refine z_if_lt (pc := 21) hO (tgt := 118) dX12_search_21 (by decide) (by omega) (fun b4 => ?_) (fun b4 => ?_)
        · refine z_iload_n (pc := 118) hO 2 dX12_search_118 rfl rfl ?_
          exact z_iret (pc := 119) hO hr hQ rfl dX12_search_119 (by first | (rw [hLe]; have hz := SRI_end hI (by omega) hE1.1; exact ⟨hz.1, hz.2, hfr⟩; done) | (exfalso; omega))
        · refine z_iload_n (pc := 24) hO 2 dX12_search_24 rfl rfl ?_
          refine z_iload_n (pc := 25) hO 1 dX12_search_25 rfl rfl ?_
          refine z_icmp_ge (pc := 26) hO (tgt := 118) dX12_search_26 (by decide) (by omega) (by omega) (fun b5 => ?_) (fun b5 => ?_)
          · refine z_iload_n (pc := 118) hO 2 dX12_search_118 rfl rfl ?_
            exact z_iret (pc := 119) hO hr hQ rfl dX12_search_119 (by first | (rw [hLe]; have hz := SRI_end hI (by omega) hE1.1; exact ⟨hz.1, hz.2, hfr⟩; done) | (exfalso; omega))
          · refine z_iload_n (pc := 29) hO 3 dX12_search_29 rfl rfl ?_
            refine z_aload_n (pc := 30) hO 0 dX12_search_30 rfl rfl ?_
            refine gf_X12_empties (pc := 31) hO f_X12_156 dX12_search_31 ?_
            rw [hfr 50 (by omega) (by omega) (by omega), h7]
            refine z_icmp_ne (pc := 34) hO (tgt := 83) dX12_search_34 (by decide) (by omega) (by omega) (fun b6 => ?_) (fun b6 => ?_)
            · refine z_aload_n (pc := 83) hO 0 dX12_search_83 rfl rfl ?_
              refine z_iload_n (pc := 84) hO 3 dX12_search_84 rfl rfl ?_
              refine z_callVI (pc := 85) hO (As := [.int (zi k)]) (st := []) (c_X12_goesOn (qL Γ) g y k n (Gk G0 e t (k + 1).toNat) (e k) (t k) (by first | assumption | omega) (by have q := hI.2.2.2.1; rw [show min (k + 1) E = k + 1 by omega] at q; exact q) (by omega) (by rw [hfr 55 (by omega) (by omega) (by omega)]; exact he k (by omega) (by omega)) (by exact heR k (by omega) (by omega)) (by exact hI.2.2.2.2.1 k (by omega) (by omega) (by omega)) (by exact hI.2.2.2.2.2.1 k (by omega) (by omega))) k_X12_163 isO_50 rfl (Nat.le_of_ble_eq_true rfl) (by decide) (by decide) ⟨by decide, by decide⟩ dX12_search_85 (fun z7 m8 h9 => ?_)
              have hgo := h9
              have hz01 : z7 = 0 ∨ z7 = 1 := by rcases hgo with ⟨h, _⟩ | ⟨h, _⟩ <;> omega
              refine z_if_eq (pc := 88) hO (tgt := 112) dX12_search_88 (by decide) (by omega) (fun b10 => ?_) (fun b10 => ?_)
              · have hgf : GOF n (Gk G0 e t (k + 1).toNat) (e k) (t k) k y m8 := by
                    rcases hgo with ⟨h, _⟩ | ⟨_, h⟩
                    · omega
                    · exact h
                obtain ⟨hM2, hI2⟩ := SRI_fail hE hI (by omega) hgf.1 hgf.2
                obtain ⟨t2, ht2⟩ : ∃ t2, t2 = t := ⟨_, rfl⟩
                obtain ⟨P2, hP2⟩ : ∃ P2, P2 = P := ⟨_, rfl⟩
                rw [← hP2] at hI2
                rw [show mMl E t (k + (-1)) = mMl E t2 (k + (-1)) by rw [ht2]] at hM2
                rw [← ht2] at hI2
                refine z_iinc (pc := 112) hO 3 (lv' := [(3, .int (zi (k + (-1)))), (0, .ref (gA g 50)), (1, .int (zi most)), (2, .int (zi w))]) dX12_search_112 rfl (by decide) rfl ?_
                refine z_goto (pc := 115) hO (tgt := 20) dX12_search_115 (by decide) ?_
                refine z_sub [1, 2, 3, 0] rfl ?_
                exact ih20 w (k + (-1)) m8 t2 P2 (by omega) (by first | exact hI2 | exact hG1 (by omega) | (subst m8; exact hG2 (by omega)) | (rename_i hmm; rw [hmm]; exact hG2 (by omega)))
              · have hgt : GOT n (Gk G0 e t (k + 1).toNat) (e k) (t k) k y m8 := by
                    rcases hgo with ⟨_, h⟩ | ⟨h, _⟩
                    · exact h
                    · omega
                obtain ⟨v, hv, hfv, hfu, hx⟩ := hgt
                obtain ⟨hM2, hG1, hG2⟩ := SRI_go hE hI (by omega) hv hfv hfu hx
                obtain ⟨t2, ht2⟩ : ∃ t2, t2 = uf (uf t k v) (k + 1) 0 := ⟨_, rfl⟩
                rw [← ht2] at hM2 hG1 hG2
                obtain ⟨P2, hP2⟩ : ∃ P2, P2 = P := ⟨_, rfl⟩
                rw [← hP2] at hG1 hG2
                have hm7 : m8 50 7 = E := by rw [hx, up_i _ _ _ (by omega), up_i _ _ _ (by omega), hfr 50 (by omega) (by omega) (by omega), h7]
                refine z_iinc (pc := 91) hO 3 (lv' := [(3, .int (zi (k + 1))), (0, .ref (gA g 50)), (1, .int (zi most)), (2, .int (zi w))]) dX12_search_91 rfl (by decide) rfl ?_
                refine z_iload_n (pc := 94) hO 0 dX12_search_94 rfl rfl ?_
                refine z_aload_n (pc := 95) hO 1 dX12_search_95 rfl rfl ?_
                refine gf_X12_empties (pc := 96) hO f_X12_156 dX12_search_96 ?_
                rw [hm7]
                refine z_icmp_ge (pc := 99) hO (tgt := 20) dX12_search_99 (by decide) (by omega) (by omega) (fun b11 => ?_) (fun b11 => ?_)
                · refine z_sub [1, 2, 3, 0] rfl ?_
                  exact ih20 w (k + 1) m8 t2 P2 (by omega) (by first | exact hI2 | exact hG1 (by omega) | (subst m8; exact hG2 (by omega)) | (rename_i hmm; rw [hmm]; exact hG2 (by omega)))
                · refine z_aload_n (pc := 102) hO 1 dX12_search_102 rfl rfl ?_
                  refine gf_X12_tried (pc := 103) hO f_X12_25 dX12_search_103 ?_
                  refine z_iload_n (pc := 106) hO 0 dX12_search_106 rfl rfl ?_
                  refine z_iconst (pc := 107) hO dX12_search_107 ?_
                  refine z_iast (pc := 108) hO isI_56 (by omega) dX12_search_108 (fun m12 e13 => ?_)
                  refine z_goto (pc := 109) hO (tgt := 20) dX12_search_109 (by decide) ?_
                  refine z_sub [1, 2, 3, 0] rfl ?_
                  exact ih20 w (k + 1) m12 t2 P2 (by omega) (by first | exact hI2 | exact hG1 (by omega) | (subst m12 m8; exact hG2 (by omega)) | (rename_i hmm; rw [hmm]; exact hG2 (by omega)))
            · refine z_iinc (pc := 37) hO 2 (lv' := [(2, .int (zi (w + 1))), (0, .ref (gA g 50)), (1, .int (zi most)), (3, .int (zi k))]) dX12_search_37 rfl (by decide) rfl ?_
              refine z_iconst (pc := 40) hO dX12_search_40 ?_
              refine z_istore (pc := 41) hO (lv' := [(4, .int (zi 0)), (2, .int (zi (w + 1))), (0, .ref (gA g 50)), (1, .int (zi most)), (3, .int (zi k))]) dX12_search_41 (by decide) rfl ?_
              have L43 : ∀ (N : Nat) (q : Int) (v : Me), (n * n - q).toNat < N → (0 ≤ q ∧ q ≤ n * n) → (∀ p, 0 ≤ p → p < q → v 57 p = y 54 p) → (∀ a, a ≠ 57 → v a = y a) → Zz Γ g 5 0 0 v 43 [(0, .ref (gA g 50)), (1, .int (zi most)), (2, .int (zi (w + 1))), (3, .int (zi k)), (4, .int (zi q))] [] := by
                intro N
                induction N with
                | zero => intro q v hm; exact absurd hm (Nat.not_lt_zero _)
                | succ N ih43 =>
                  intro q v hm g0 hvA hvf
                  refine z_iload (pc := 43) hO 4 dX12_search_43 rfl ?_
                  refine z_aload_n (pc := 45) hO 0 dX12_search_45 rfl rfl ?_
                  refine gf_X12_side (pc := 46) hO f_X12_150 dX12_search_46 ?_
                  rw [hvf 50 (by omega), hfr 50 (by omega) (by omega) (by omega), h5]
                  refine z_aload_n (pc := 49) hO 0 dX12_search_49 rfl rfl ?_
                  refine gf_X12_side (pc := 50) hO f_X12_150 dX12_search_50 ?_
                  rw [hvf 50 (by omega), hfr 50 (by omega) (by omega) (by omega), h5]
                  refine z_imul (pc := 53) hO dX12_search_53 ?_
                  refine z_icmp_ge (pc := 54) hO (tgt := 77) dX12_search_54 (by decide) (by omega) (by omega) (fun b14 => ?_) (fun b14 => ?_)
                  · obtain ⟨t2, ht2⟩ : ∃ t2, t2 = t := ⟨_, rfl⟩
                    obtain ⟨P2, hP2⟩ : ∃ P2, P2 = P ++ [Gk G0 e t E.toNat] := ⟨_, rfl⟩
                    have hI2 : SRI x v n E e G0 most (w + 1) (k + (-1)) t2 P2 := by rw [ht2, hP2]; exact SRI_full hE hI (by omega) (by omega) (fun p a b => hvA p a (by omega)) hvf
                    have hM2 : mMl E t2 (k + (-1)) < mMl E t k := by rw [ht2, show k + (-1) = E - 1 by omega, show k = E by omega]; exact mMl_full hE1.1
                    refine z_iinc (pc := 77) hO 3 (lv' := [(3, .int (zi (k + (-1)))), (0, .ref (gA g 50)), (1, .int (zi most)), (2, .int (zi (w + 1))), (4, .int (zi q))]) dX12_search_77 rfl (by decide) rfl ?_
                    refine z_goto (pc := 80) hO (tgt := 20) dX12_search_80 (by decide) ?_
                    refine z_sub [1, 2, 3, 0] rfl ?_
                    exact ih20 (w + 1) (k + (-1)) v t2 P2 (by omega) (by first | exact hI2 | exact hG1 (by omega) | (skip; exact hG2 (by omega)) | (rename_i hmm; rw [hmm]; exact hG2 (by omega)))
                  · refine z_aload_n (pc := 57) hO 0 dX12_search_57 rfl rfl ?_
                    refine gf_X12_found (pc := 58) hO f_X12_28 dX12_search_58 ?_
                    refine z_iload (pc := 61) hO 4 dX12_search_61 rfl ?_
                    refine z_aload_n (pc := 63) hO 0 dX12_search_63 rfl rfl ?_
                    refine gf_X12_work (pc := 64) hO f_X12_19 dX12_search_64 ?_
                    refine z_iload (pc := 67) hO 4 dX12_search_67 rfl ?_
                    refine z_iald (pc := 69) hO isI_54 (by omega) dX12_search_69 ?_
                    refine z_iast (pc := 70) hO isI_57 (by omega) dX12_search_70 (fun m15 e16 => ?_)
                    refine z_iinc (pc := 71) hO 4 (lv' := [(4, .int (zi (q + 1))), (0, .ref (gA g 50)), (1, .int (zi most)), (2, .int (zi (w + 1))), (3, .int (zi k))]) dX12_search_71 rfl (by decide) rfl ?_
                    refine z_goto (pc := 74) hO (tgt := 43) dX12_search_74 (by decide) ?_
                    refine z_sub [1, 2, 3, 4, 0] rfl ?_
                    exact ih43 (q + 1) m15 (by omega) (by omega) (by intro p a b; subst m15; exact dite (p = q) (fun e => by rw [e, up_s, hvf 54 (by omega)]) (fun e => by rw [up_n _ _ (by omega)]; exact hvA p a (by omega))) (by intro a ha; subst m15; rw [up_i _ _ _ ha]; exact hvf a ha)
              refine z_sub [2, 3, 1, 4, 0] rfl ?_
              exact L43 _ 0 y (Nat.lt_succ_self _) (by omega) (by intro p _ _; omega) (by intro a _; rfl)
    refine z_sub [2, 3, 1, 0] rfl ?_
    exact L20 _ 0 0 m2 (fun _ => 0) ([]) (Nat.lt_succ_self _) (by exact SRI_0 hE hK hmo.1 (by assumption))
  · skip
    have hnf := pb1
    refine z_if_ne (pc := 4) hO (tgt := 9) dX12_search_4 (by decide) (by decide) (fun h => absurd h (by decide)) (fun _ => ?_)
    refine z_iconst (pc := 7) hO dX12_search_7 ?_
    exact z_iret (pc := 8) hO hr hQ rfl dX12_search_8 (by first | (have hLe : SLS n E e G0 = [] := ci_f hnf; rw [hLe]; exact ⟨by simp; omega, fun h => by omega, fun _ _ _ _ => rfl⟩; done) | (exfalso; omega))

