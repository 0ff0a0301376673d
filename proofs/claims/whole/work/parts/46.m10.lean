set_option maxHeartbeats 4000000 in
theorem c_X8_countChoices (l : Launch) (g : Gl) (x : Me) (p : Int) (n : Int) (G : Int → Int) (hB : SB x n) (hT : ST x n G) (hG : GR n G) (hp : 0 ≤ p ∧ p < n * n) (h0 : G p = 0) (hf : fit n G) : ctQ l g yX8_countChoices cX8_countChoices 5 (some .int) 3 68 [.ref (gA g 30), .int (zi p)] x (QIu g (fun z x' => (z = (chl n G p).length ∧ 0 ≤ z ∧ z ≤ 16) ∧ x' = x)) := by
  refine ct_start (own := RX8) (lv := [(0, .ref (gA g 30)), (1, .int (zi p))]) (plainFor_of_name (by decide)) rfl (Nat.le_of_ble_eq_true rfl) rfl ?_
  intro Γ hΓ hO hr hQ _
  obtain ⟨hn, s7, s8, s35⟩ := id hB
  have h4 := sq4 hn
  have hdu := du_rng hn
  refine z_iconst (pc := 0) hO dX8_countChoices_0 ?_
  refine z_istore_n (pc := 1) hO (lv' := [(2, .int (zi 0)), (0, .ref (gA g 30)), (1, .int (zi p))]) dX8_countChoices_1 rfl (by decide) rfl ?_
  refine z_aload_n (pc := 2) hO 1 dX8_countChoices_2 rfl rfl ?_
  refine z_iload_n (pc := 3) hO 2 dX8_countChoices_3 rfl rfl ?_
  refine z_callVIq (pc := 4) hO (As := [.int (zi p)]) (st := []) (c_X8_highestAt (qL Γ) g x p n G (by first | assumption | omega) (by first | assumption | omega) (by first | assumption | omega) (by first | assumption | omega)) k_X8_110 isO_30 rfl (Nat.le_of_ble_eq_true rfl) (by decide) (by decide) ⟨by decide, by decide⟩ dX8_countChoices_4 (fun hi h2 => ?_)
  obtain ⟨hhi, hhr⟩ := h2
  refine z_istore_n (pc := 7) hO (lv' := [(3, .int (zi hi)), (2, .int (zi 0)), (0, .ref (gA g 30)), (1, .int (zi p))]) dX8_countChoices_7 rfl (by decide) rfl ?_
  refine z_aload_n (pc := 8) hO 2 dX8_countChoices_8 rfl rfl ?_
  refine z_iload_n (pc := 9) hO 3 dX8_countChoices_9 rfl rfl ?_
  refine z_callVIq (pc := 10) hO (As := [.int (zi p)]) (st := []) (c_X8_lowestAt (qL Γ) g x p n G (by first | assumption | omega) (by first | assumption | omega) (by first | assumption | omega) (by first | assumption | omega)) k_X8_113 isO_30 rfl (Nat.le_of_ble_eq_true rfl) (by decide) (by decide) ⟨by decide, by decide⟩ dX8_countChoices_10 (fun lo h4 => ?_)
  obtain ⟨hlo, hlr⟩ := h4
  have hb := bnd hB hT hp h0 hf hlo hhi
  have hlo1 : 1 ≤ lo := ((hlo lo).mp (Int.le_refl _)).1
  refine z_istore (pc := 13) hO (lv' := [(4, .int (zi lo)), (3, .int (zi hi)), (2, .int (zi 0)), (0, .ref (gA g 30)), (1, .int (zi p))]) dX8_countChoices_13 (by decide) rfl ?_
  have L15 : ∀ (N : Nat) (v : Int) (c : Int), (hi + 1 - v).toNat < N → (lo ≤ v ∧ v ≤ 100001) → (c = (vls (CH n G p) (v - 1).toNat).length) → Zz Γ g 5 0 0 x 15 [(0, .ref (gA g 30)), (1, .int (zi p)), (2, .int (zi c)), (3, .int (zi hi)), (4, .int (zi v))] [] := by
    intro N
    induction N with
    | zero => intro v c hm; exact absurd hm (Nat.not_lt_zero _)
    | succ N ih15 =>
      intro v c hm hv1 hc
      refine z_iload (pc := 15) hO 4 dX8_countChoices_15 rfl ?_
      refine z_iload_n (pc := 17) hO 3 dX8_countChoices_17 rfl rfl ?_
      refine z_icmp_gt (pc := 18) hO (tgt := 39) dX8_countChoices_18 (by decide) (by omega) (by omega) (fun b5 => ?_) (fun b5 => ?_)
      · refine z_iload_n (pc := 39) hO 2 dX8_countChoices_39 rfl rfl ?_
        exact z_iret (pc := 40) hO hr hQ rfl dX8_countChoices_40 ⟨by first | (rw [ch_all (by omega) hb (by omega) (by assumption)] at hc; have hl := ch_len (n := n) (p := p) (G := G) (n * n).toNat; exact ⟨hc, by omega, by rw [hc]; unfold chl; omega⟩; done) | (exfalso; omega), rfl⟩
      · refine z_aload_n (pc := 21) hO 0 dX8_countChoices_21 rfl rfl ?_
        refine z_iload (pc := 22) hO 4 dX8_countChoices_22 rfl ?_
        refine z_callVB (pc := 24) hO (As := [.int (zi v)]) (st := []) (c_X8_isFree (qL Γ) g x v n (by exact hB) (by exact ST_z hT) (by first | assumption | omega)) k_X8_54 isO_30 rfl (Nat.le_of_ble_eq_true rfl) (by decide) (by decide) ⟨by decide, by decide⟩ dX8_countChoices_24 (fun pb6 => ?_) (fun pb6 => ?_)
        · skip
          have hfv : fit n (uf G p v) := ((hb v).mpr ⟨by omega, by omega, pb6⟩).2
          have hD : vls (CH n G p) v.toNat = vls (CH n G p) (v - 1).toNat ++ [v] := by rw [vls_s _ (by omega), CH_in hfv]
          refine z_if_eq (pc := 27) hO (tgt := 33) dX8_countChoices_27 (by decide) (by decide) (fun h => absurd h (by decide)) (fun _ => ?_)
          refine z_iinc (pc := 30) hO 2 (lv' := [(2, .int (zi (c + 1))), (0, .ref (gA g 30)), (1, .int (zi p)), (3, .int (zi hi)), (4, .int (zi v))]) dX8_countChoices_30 rfl (by decide) rfl ?_
          refine z_iinc (pc := 33) hO 4 (lv' := [(4, .int (zi (v + 1))), (2, .int (zi (c + 1))), (0, .ref (gA g 30)), (1, .int (zi p)), (3, .int (zi hi))]) dX8_countChoices_33 rfl (by decide) rfl ?_
          refine z_goto (pc := 36) hO (tgt := 15) dX8_countChoices_36 (by decide) ?_
          refine z_sub [2, 3, 1, 4, 0] rfl ?_
          exact ih15 (v + 1) (c + 1) (by omega) (by omega) (by rw [show v + 1 - 1 = v by omega, hD]; first | (rw [List.length_append, hc]; rfl) | exact hc)
        · skip
          have hD : vls (CH n G p) v.toNat = vls (CH n G p) (v - 1).toNat := by
              rw [vls_s _ (by omega), CH_out hb (by omega) (by by_cases q : v ≤ n * n; (right; right; right; intro q2; exact pb6 ⟨⟨by omega, q⟩, q2⟩); omega), List.append_nil]
          refine z_if_eq (pc := 27) hO (tgt := 33) dX8_countChoices_27 (by decide) (by decide) (fun _ => ?_) (fun h => absurd h (by decide))
          refine z_iinc (pc := 33) hO 4 (lv' := [(4, .int (zi (v + 1))), (0, .ref (gA g 30)), (1, .int (zi p)), (2, .int (zi c)), (3, .int (zi hi))]) dX8_countChoices_33 rfl (by decide) rfl ?_
          refine z_goto (pc := 36) hO (tgt := 15) dX8_countChoices_36 (by decide) ?_
          refine z_sub [1, 2, 3, 4, 0] rfl ?_
          exact ih15 (v + 1) c (by omega) (by omega) (by rw [show v + 1 - 1 = v by omega, hD]; first | (rw [List.length_append, hc]; rfl) | exact hc)
  refine z_sub [3, 4, 2, 1, 0] rfl ?_
  exact L15 _ lo 0 (Nat.lt_succ_self _) (by omega) (by rw [ch_lo hb hlo1]; rfl)

set_option maxHeartbeats 4000000 in
theorem c_X8_choiceAt (l : Launch) (g : Gl) (x : Me) (p : Int) (u : Int) (n : Int) (G : Int → Int) (hB : SB x n) (hT : ST x n G) (hG : GR n G) (hp : 0 ≤ p ∧ p < n * n) (h0 : G p = 0) (hf : fit n G) (hu : 0 ≤ u ∧ u < (chl n G p).length) : ctQ l g yX8_choiceAt cX8_choiceAt 6 (some .int) 3 68 [.ref (gA g 30), .int (zi p), .int (zi u)] x (QIu g (fun z x' => (z = (chl n G p).getD u.toNat 0) ∧ x' = x)) := by
  refine ct_start (own := RX8) (lv := [(0, .ref (gA g 30)), (1, .int (zi p)), (2, .int (zi u))]) (plainFor_of_name (by decide)) rfl (Nat.le_of_ble_eq_true rfl) rfl ?_
  intro Γ hΓ hO hr hQ _
  obtain ⟨hn, s7, s8, s35⟩ := id hB
  have h4 := sq4 hn
  have hdu := du_rng hn
  have hl := ch_len (n := n) (p := p) (G := G) (n * n).toNat
  have hle : (chl n G p).length ≤ (n * n).toNat := hl
  refine z_iconst (pc := 0) hO dX8_choiceAt_0 ?_
  refine z_istore_n (pc := 1) hO (lv' := [(3, .int (zi 0)), (0, .ref (gA g 30)), (1, .int (zi p)), (2, .int (zi u))]) dX8_choiceAt_1 rfl (by decide) rfl ?_
  refine z_aload_n (pc := 2) hO 1 dX8_choiceAt_2 rfl rfl ?_
  refine z_iload_n (pc := 3) hO 2 dX8_choiceAt_3 rfl rfl ?_
  refine z_callVIq (pc := 4) hO (As := [.int (zi p)]) (st := []) (c_X8_highestAt (qL Γ) g x p n G (by first | assumption | omega) (by first | assumption | omega) (by first | assumption | omega) (by first | assumption | omega)) k_X8_110 isO_30 rfl (Nat.le_of_ble_eq_true rfl) (by decide) (by decide) ⟨by decide, by decide⟩ dX8_choiceAt_4 (fun hi h2 => ?_)
  obtain ⟨hhi, hhr⟩ := h2
  refine z_istore (pc := 7) hO (lv' := [(4, .int (zi hi)), (3, .int (zi 0)), (0, .ref (gA g 30)), (1, .int (zi p)), (2, .int (zi u))]) dX8_choiceAt_7 (by decide) rfl ?_
  refine z_aload_n (pc := 9) hO 2 dX8_choiceAt_9 rfl rfl ?_
  refine z_iload_n (pc := 10) hO 3 dX8_choiceAt_10 rfl rfl ?_
  refine z_callVIq (pc := 11) hO (As := [.int (zi p)]) (st := []) (c_X8_lowestAt (qL Γ) g x p n G (by first | assumption | omega) (by first | assumption | omega) (by first | assumption | omega) (by first | assumption | omega)) k_X8_113 isO_30 rfl (Nat.le_of_ble_eq_true rfl) (by decide) (by decide) ⟨by decide, by decide⟩ dX8_choiceAt_11 (fun lo h4 => ?_)
  obtain ⟨hlo, hlr⟩ := h4
  have hb := bnd hB hT hp h0 hf hlo hhi
  have hlo1 : 1 ≤ lo := ((hlo lo).mp (Int.le_refl _)).1
  refine z_istore (pc := 14) hO (lv' := [(5, .int (zi lo)), (4, .int (zi hi)), (3, .int (zi 0)), (0, .ref (gA g 30)), (1, .int (zi p)), (2, .int (zi u))]) dX8_choiceAt_14 (by decide) rfl ?_
  have L16 : ∀ (N : Nat) (v : Int) (c : Int), (hi + 1 - v).toNat < N → (lo ≤ v ∧ v ≤ 100001) → (c = (vls (CH n G p) (v - 1).toNat).length) → (c ≤ u) → Zz Γ g 6 0 0 x 16 [(0, .ref (gA g 30)), (1, .int (zi p)), (2, .int (zi u)), (3, .int (zi c)), (4, .int (zi hi)), (5, .int (zi v))] [] := by
    intro N
    induction N with
    | zero => intro v c hm; exact absurd hm (Nat.not_lt_zero _)
    | succ N ih16 =>
      intro v c hm hv1 hc hcu
      have hcr : 0 ≤ c := by omega
      refine z_iload (pc := 16) hO 5 dX8_choiceAt_16 rfl ?_
      refine z_iload (pc := 18) hO 4 dX8_choiceAt_18 rfl ?_
      refine z_icmp_gt (pc := 20) hO (tgt := 49) dX8_choiceAt_20 (by decide) (by omega) (by omega) (fun b5 => ?_) (fun b5 => ?_)
      · refine z_iconst (pc := 49) hO dX8_choiceAt_49 ?_
        exact z_iret (pc := 50) hO hr hQ rfl dX8_choiceAt_50 ⟨by first | (exfalso; rw [ch_all (by omega) hb (by omega) (by assumption)] at hc; omega; done) | (exfalso; omega), rfl⟩
      · refine z_aload_n (pc := 23) hO 0 dX8_choiceAt_23 rfl rfl ?_
        refine z_iload (pc := 24) hO 5 dX8_choiceAt_24 rfl ?_
        refine z_callVB (pc := 26) hO (As := [.int (zi v)]) (st := []) (c_X8_isFree (qL Γ) g x v n (by exact hB) (by exact ST_z hT) (by first | assumption | omega)) k_X8_54 isO_30 rfl (Nat.le_of_ble_eq_true rfl) (by decide) (by decide) ⟨by decide, by decide⟩ dX8_choiceAt_26 (fun pb6 => ?_) (fun pb6 => ?_)
        · skip
          have hfv : fit n (uf G p v) := ((hb v).mpr ⟨by omega, by omega, pb6⟩).2
          have hD : vls (CH n G p) v.toNat = vls (CH n G p) (v - 1).toNat ++ [v] := by rw [vls_s _ (by omega), CH_in hfv]
          refine z_if_eq (pc := 29) hO (tgt := 43) dX8_choiceAt_29 (by decide) (by decide) (fun h => absurd h (by decide)) (fun _ => ?_)
          refine z_iload_n (pc := 32) hO 3 dX8_choiceAt_32 rfl rfl ?_
          refine z_iload_n (pc := 33) hO 2 dX8_choiceAt_33 rfl rfl ?_
          refine z_icmp_ne (pc := 34) hO (tgt := 40) dX8_choiceAt_34 (by decide) (by omega) (by omega) (fun b7 => ?_) (fun b7 => ?_)
          · refine z_iinc (pc := 40) hO 3 (lv' := [(3, .int (zi (c + 1))), (0, .ref (gA g 30)), (1, .int (zi p)), (2, .int (zi u)), (4, .int (zi hi)), (5, .int (zi v))]) dX8_choiceAt_40 rfl (by decide) rfl ?_
            refine z_iinc (pc := 43) hO 5 (lv' := [(5, .int (zi (v + 1))), (3, .int (zi (c + 1))), (0, .ref (gA g 30)), (1, .int (zi p)), (2, .int (zi u)), (4, .int (zi hi))]) dX8_choiceAt_43 rfl (by decide) rfl ?_
            refine z_goto (pc := 46) hO (tgt := 16) dX8_choiceAt_46 (by decide) ?_
            refine z_sub [2, 3, 4, 1, 5, 0] rfl ?_
            exact ih16 (v + 1) (c + 1) (by omega) (by omega) (by rw [show v + 1 - 1 = v by omega, hD]; first | (rw [List.length_append, hc]; rfl) | exact hc) (by omega)
          · refine z_iload (pc := 37) hO 5 dX8_choiceAt_37 rfl ?_
            exact z_iret (pc := 39) hO hr hQ rfl dX8_choiceAt_39 ⟨by first | (obtain ⟨R, hR⟩ := vls_pre (CH n G p) (show v.toNat ≤ (n * n).toNat by have := (hhi v).mp (by omega); have := this.1; omega); unfold chl; rw [hR, hD, show u.toNat = (vls (CH n G p) (v - 1).toNat).length by omega]; exact gI_e.symm; done) | (exfalso; omega), rfl⟩
        · skip
          have hD : vls (CH n G p) v.toNat = vls (CH n G p) (v - 1).toNat := by
              rw [vls_s _ (by omega), CH_out hb (by omega) (by by_cases q : v ≤ n * n; (right; right; right; intro q2; exact pb6 ⟨⟨by omega, q⟩, q2⟩); omega), List.append_nil]
          refine z_if_eq (pc := 29) hO (tgt := 43) dX8_choiceAt_29 (by decide) (by decide) (fun _ => ?_) (fun h => absurd h (by decide))
          refine z_iinc (pc := 43) hO 5 (lv' := [(5, .int (zi (v + 1))), (0, .ref (gA g 30)), (1, .int (zi p)), (2, .int (zi u)), (3, .int (zi c)), (4, .int (zi hi))]) dX8_choiceAt_43 rfl (by decide) rfl ?_
          refine z_goto (pc := 46) hO (tgt := 16) dX8_choiceAt_46 (by decide) ?_
          refine z_sub [1, 2, 3, 4, 5, 0] rfl ?_
          exact ih16 (v + 1) c (by omega) (by omega) (by rw [show v + 1 - 1 = v by omega, hD]; first | (rw [List.length_append, hc]; rfl) | exact hc) (by omega)
  refine z_sub [3, 4, 5, 2, 1, 0] rfl ?_
  exact L16 _ lo 0 (Nat.lt_succ_self _) (by omega) (by rw [ch_lo hb hlo1]; rfl) (by omega)

set_option maxHeartbeats 4000000 in
theorem c_X8_estimateFrom (l : Launch) (g : Gl) (x : Me) (seed : Int) (n : Int) (f : Int → Int) (hL : LD x n f) (hsd : 0 ≤ seed ∧ seed ≤ 65535) : ctQ l g yX8_estimateFrom cX8_estimateFrom 7 (some .long) 4 93 [.ref (gA g 30), .int (zi seed)] x (QLu g (fun z x' => z = est n f seed ∧ ∀ a, a < 30 ∨ 36 < a → x' a = x a)) := by
  refine ct_start (own := RX8) (lv := [(0, .ref (gA g 30)), (1, .int (zi seed))]) (plainFor_of_name (by decide)) rfl (Nat.le_of_ble_eq_true rfl) rfl ?_
  intro Γ hΓ hO hr hQ _
  obtain ⟨G0, hG1, hG2, hG3, hG4⟩ := LD_G hL
  have hft := LD_fit hL hG3
  have h4 := sq4 hL.1.1
  have hEL := EL_0 h4.2.1 f
  obtain ⟨e, he⟩ : ∃ e, e = eF (emp f (n * n).toNat) := ⟨_, rfl⟩
  obtain ⟨E, hE⟩ : ∃ E : Int, E = (emp f (n * n).toNat).length := ⟨_, rfl⟩
  rw [← he, ← hE] at hEL
  have hE16 := hEL.1
  have hB := hL.1
  have h6 : x 30 6 = E := by rw [hE]; exact hL.2.2.1.1
  refine z_aload_n (pc := 0) hO 0 dX8_estimateFrom_0 rfl rfl ?_
  refine z_callVB (pc := 1) hO (As := []) (st := []) (c_X8_fits (qL Γ) g x n G0 (by exact hL.1) (by exact hG1) (by exact hG2) (by exact hG4)) k_X8_99 isO_30 rfl (Nat.le_of_ble_eq_true rfl) (by decide) (by decide) ⟨by decide, by decide⟩ dX8_estimateFrom_1 (fun pb1 => ?_) (fun pb1 => ?_)
  · skip
    have hfit := hft.mp pb1
    have hFS := FS_0 hL pb1.1
    rw [← he, ← hE] at hFS
    refine z_if_ne (pc := 4) hO (tgt := 9) dX8_estimateFrom_4 (by decide) (by decide) (fun _ => ?_) (fun h => absurd h (by decide))
    refine z_lconst (v := 1) (pc := 9) hO dX8_estimateFrom_9 rfl ?_
    refine z_lstore_n (pc := 10) hO (lv' := [(2, .long (zl 1)), (0, .ref (gA g 30)), (1, .int (zi seed))]) dX8_estimateFrom_10 rfl (by decide) rfl ?_
    refine z_iload_n (pc := 11) hO 2 dX8_estimateFrom_11 rfl rfl ?_
    refine z_istore (pc := 12) hO (lv' := [(4, .int (zi seed)), (2, .long (zl 1)), (0, .ref (gA g 30)), (1, .int (zi seed))]) dX8_estimateFrom_12 (by decide) rfl ?_
    refine z_iconst (pc := 14) hO dX8_estimateFrom_14 ?_
    refine z_istore (pc := 15) hO (lv' := [(5, .int (zi 0)), (4, .int (zi seed)), (2, .long (zl 1)), (0, .ref (gA g 30)), (1, .int (zi seed))]) dX8_estimateFrom_15 (by decide) rfl ?_
    have L17 : ∀ (N : Nat) (k : Int) (pr : Int) (s : Int) (y : Me) (G : Int → Int) (r : Nat), (E - k).toNat < N → (0 ≤ k ∧ k + r = E) → (-9223372036854775808 ≤ pr ∧ pr < 9223372036854775808) → (0 ≤ s ∧ s ≤ 65535) → (FS y n e E G) → (0 < pr → EL n e E k G) → (0 < pr → fit n G) → (∀ a, a < 30 ∨ 36 < a → y a = x a) → (est n f seed = esr n e r k G s pr) → Zz Γ g 7 0 0 y 17 [(0, .ref (gA g 30)), (1, .int (zi seed)), (2, .long (zl pr)), (4, .int (zi s)), (5, .int (zi k))] [] := by
      intro N
      induction N with
      | zero => intro k pr s y G r hm; exact absurd hm (Nat.not_lt_zero _)
      | succ N ih17 =>
        intro k pr s y G r hm hk hpr hs hFy hEy hfy hfr hes
        have hy6 := hFy.2.2.2.2.1
        refine z_iload (pc := 17) hO 4 dX8_estimateFrom_17 rfl ?_
        refine z_aload_n (pc := 19) hO 0 dX8_estimateFrom_19 rfl rfl ?_
        refine gf_X8_emptyCount (pc := 20) hO f_X8_69 dX8_estimateFrom_20 ?_
        refine z_icmp_ge (pc := 23) hO (tgt := 114) dX8_estimateFrom_23 (by decide) (by omega) (by omega) (fun b2 => ?_) (fun b2 => ?_)
        · refine z_lload_n (pc := 114) hO 2 dX8_estimateFrom_114 rfl rfl ?_
          exact z_lret (pc := 115) hO hr hQ dX8_estimateFrom_115 (by first | (refine ⟨?_, hfr⟩; rw [hes]; first | (rw [esr_0 (by omega)]; done) | (rw [show r = 0 by omega]; rfl); done) | (exfalso; omega))
        · refine z_iload (pc := 26) hO 4 dX8_estimateFrom_26 rfl ?_
          refine z_aload_n (pc := 28) hO 0 dX8_estimateFrom_28 rfl rfl ?_
          refine gf_X8_empties (pc := 29) hO f_X8_28 dX8_estimateFrom_29 ?_
          refine z_alenI (pc := 32) hO isI_36 dX8_estimateFrom_32 ?_
          refine z_icmp_ge (pc := 33) hO (tgt := 114) dX8_estimateFrom_33 (by decide) (by omega) (by omega) (fun b3 => ?_) (fun b3 => ?_)
          · refine z_lload_n (pc := 114) hO 2 dX8_estimateFrom_114 rfl rfl ?_
            exact z_lret (pc := 115) hO hr hQ dX8_estimateFrom_115 (by first | (refine ⟨?_, hfr⟩; rw [hes]; first | (rw [esr_0 (by omega)]; done) | (rw [show r = 0 by omega]; rfl); done) | (exfalso; omega))
          · refine z_lload_n (pc := 36) hO 2 dX8_estimateFrom_36 rfl rfl ?_
            refine z_lconst (v := 0) (pc := 37) hO dX8_estimateFrom_37 rfl ?_
            refine z_lcmp_le (pc := 38) hO (tgt := 114) dX8_estimateFrom_38 dX8_estimateFrom_39 (by decide) (by omega) (by omega) (fun b4 => ?_) (fun b4 => ?_)
            · refine z_lload_n (pc := 114) hO 2 dX8_estimateFrom_114 rfl rfl ?_
              exact z_lret (pc := 115) hO hr hQ dX8_estimateFrom_115 (by first | (refine ⟨?_, hfr⟩; rw [hes]; first | (rw [esr_0 (by omega)]; done) | (rw [show r = 0 by omega]; rfl); done) | (exfalso; omega))
            · have hEk := hEy (by assumption)
              have hfk := hfy (by assumption)
              have hek := hEL.2.1 k (by omega) (by omega)
              have hz0 := hEk.2.2.2.1 k (Int.le_refl _) (by omega)
              refine z_aload_n (pc := 42) hO 0 dX8_estimateFrom_42 rfl rfl ?_
              refine z_aload_n (pc := 43) hO 0 dX8_estimateFrom_43 rfl rfl ?_
              refine gf_X8_empties (pc := 44) hO f_X8_28 dX8_estimateFrom_44 ?_
              refine z_iload (pc := 47) hO 4 dX8_estimateFrom_47 rfl ?_
              refine z_iald (pc := 49) hO isI_36 (by omega) dX8_estimateFrom_49 ?_
              rw [hFy.2.2.2.2.2 k (by omega) (by omega)]
              refine z_callVIq (pc := 50) hO (As := [.int (zi (e k))]) (st := []) (c_X8_countChoices (qL Γ) g y (e k) n G (by exact hFy.1) (by exact hFy.2.1) (by exact hFy.2.2.1) (by exact hek) (by exact hz0) (by exact hfk)) k_X8_119 isO_30 rfl (Nat.le_of_ble_eq_true rfl) (by decide) (by decide) ⟨by decide, by decide⟩ dX8_estimateFrom_50 (fun c h6 => ?_)
              obtain ⟨hc, hcr⟩ := h6
              refine z_istore (pc := 53) hO (lv' := [(6, .int (zi c)), (0, .ref (gA g 30)), (1, .int (zi seed)), (2, .long (zl pr)), (4, .int (zi s)), (5, .int (zi k))]) dX8_estimateFrom_53 (by decide) rfl ?_
              refine z_lload_n (pc := 55) hO 3 dX8_estimateFrom_55 rfl rfl ?_
              refine z_iload (pc := 56) hO 0 dX8_estimateFrom_56 rfl ?_
              refine z_i2l (pc := 58) hO dX8_estimateFrom_58 (by omega) ?_
              refine z_lmul (pc := 59) hO dX8_estimateFrom_59 ?_
              rw [wr_l (pr * c)]
              refine z_lstore_n (pc := 60) hO (lv' := [(2, .long (zl (wr (pr * c)))), (6, .int (zi c)), (0, .ref (gA g 30)), (1, .int (zi seed)), (4, .int (zi s)), (5, .int (zi k))]) dX8_estimateFrom_60 rfl (by decide) rfl ?_
              refine z_sipush (pc := 61) hO dX8_estimateFrom_61 (by decide) ?_
              refine z_iload (pc := 64) hO 4 dX8_estimateFrom_64 rfl ?_
              refine z_imul (pc := 66) hO dX8_estimateFrom_66 ?_
              refine z_sipush (pc := 67) hO dX8_estimateFrom_67 (by decide) ?_
              refine z_iadd (pc := 70) hO dX8_estimateFrom_70 ?_
              refine z_ldc (pc := 71) hO n_X8_122 dX8_estimateFrom_71 ?_
              refine z_irem (pc := 73) hO dX8_estimateFrom_73 (by omega) (by omega) ?_
              refine z_istore (pc := 74) hO (lv' := [(4, .int (zi (((25173 * s) + 13849) % 65536))), (2, .long (zl (wr (pr * c)))), (6, .int (zi c)), (0, .ref (gA g 30)), (1, .int (zi seed)), (5, .int (zi k))]) dX8_estimateFrom_74 (by decide) rfl ?_
              refine z_iload (pc := 76) hO 2 dX8_estimateFrom_76 rfl ?_
              refine z_if_le (pc := 78) hO (tgt := 108) dX8_estimateFrom_78 (by decide) (by omega) (fun b7 => ?_) (fun b7 => ?_)
              · have hc0 : c = 0 := by omega
                obtain ⟨v, hve⟩ : ∃ v : Int, v = (chl n G (e k)).getD (((25173 * s + 13849) % 65536) % (chl n G (e k)).length).toNat 0 := ⟨_, rfl⟩
                have hv0 : v = 0 := by rw [hve, List.getD_eq_getElem?_getD, List.getElem?_eq_none (by omega)]; rfl
                have hFl : FS y n e E (uf G (e k) v) := by rw [hv0, uf_0 hz0]; exact hFy
                have hEl : 0 < wr (pr * c) → EL n e E (k + 1) (uf G (e k) v) := fun q => by rw [hc0, Int.mul_zero, wr_0] at q; omega
                have hfl : 0 < wr (pr * c) → fit n (uf G (e k) v) := fun q => by rw [hc0, Int.mul_zero, wr_0] at q; omega
                have hfrl := hfr
                obtain ⟨r2, hr2⟩ : ∃ r2, r = r2 + 1 := ⟨r - 1, by omega⟩
                have hes2 : est n f seed = esr n e r2 (k + 1) (uf G (e k) v) ((25173 * s + 13849) % 65536) (wr (pr * c)) := by rw [hes, hr2, esr, if_pos (by assumption), ← hve, ← hc]
                refine z_iinc (pc := 108) hO 5 (lv' := [(5, .int (zi (k + 1))), (4, .int (zi (((25173 * s) + 13849) % 65536))), (2, .long (zl (wr (pr * c)))), (6, .int (zi c)), (0, .ref (gA g 30)), (1, .int (zi seed))]) dX8_estimateFrom_108 rfl (by decide) rfl ?_
                refine z_goto (pc := 111) hO (tgt := 17) dX8_estimateFrom_111 (by decide) ?_
                refine z_sub [4, 5, 2, 1, 0] rfl ?_
                exact ih17 (k + 1) (wr (pr * c)) (((25173 * s) + 13849) % 65536) y (uf G (e k) v) r2 (by omega) (by omega) (by exact wr_r _) (by omega) (by exact hFl) (by exact hEl) (by exact hfl) (by exact hfrl) (by exact hes2)
              · refine z_aload_n (pc := 81) hO 3 dX8_estimateFrom_81 rfl rfl ?_
                refine z_aload_n (pc := 82) hO 3 dX8_estimateFrom_82 rfl rfl ?_
                refine gf_X8_empties (pc := 83) hO f_X8_28 dX8_estimateFrom_83 ?_
                refine z_iload (pc := 86) hO 5 dX8_estimateFrom_86 rfl ?_
                refine z_iald (pc := 88) hO isI_36 (by omega) dX8_estimateFrom_88 ?_
                rw [hFy.2.2.2.2.2 k (by omega) (by omega)]
                refine z_aload_n (pc := 89) hO 3 dX8_estimateFrom_89 rfl rfl ?_
                refine z_aload_n (pc := 90) hO 3 dX8_estimateFrom_90 rfl rfl ?_
                refine gf_X8_empties (pc := 91) hO f_X8_28 dX8_estimateFrom_91 ?_
                refine z_iload (pc := 94) hO 5 dX8_estimateFrom_94 rfl ?_
                refine z_iald (pc := 96) hO isI_36 (by omega) dX8_estimateFrom_96 ?_
                rw [hFy.2.2.2.2.2 k (by omega) (by omega)]
                refine z_iload (pc := 97) hO 0 dX8_estimateFrom_97 rfl ?_
                refine z_iload (pc := 99) hO 2 dX8_estimateFrom_99 rfl ?_
                refine z_irem (pc := 101) hO dX8_estimateFrom_101 (by omega) (by omega) ?_
                refine z_callVIq (pc := 102) hO (As := [.int (zi (e k)), .int (zi ((((25173 * s) + 13849) % 65536) % c))]) (st := [.int (zi (e k)), .ref (gA g 30)]) (c_X8_choiceAt (qL Γ) g y (e k) ((((25173 * s) + 13849) % 65536) % c) n G (by exact hFy.1) (by exact hFy.2.1) (by exact hFy.2.2.1) (by exact hek) (by exact hz0) (by exact hfk) (by rw [← hc]; exact ⟨Int.emod_nonneg _ (by omega), Int.emod_lt_of_pos _ (by omega)⟩)) k_X8_123 isO_30 rfl (Nat.le_of_ble_eq_true rfl) (by decide) (by decide) ⟨by decide, by decide⟩ dX8_estimateFrom_102 (fun v h9 => ?_)
                have hvm : v ∈ chl n G (e k) := by rw [h9]; exact gI_m (by have h1 := Int.emod_lt_of_pos ((25173 * s + 13849) % 65536) (show 0 < c by omega); have h2 := Int.emod_nonneg ((25173 * s + 13849) % 65536) (show c ≠ 0 by omega); omega)
                have hv2 := ch_mem hvm
                have hve : v = (chl n G (e k)).getD (((25173 * s + 13849) % 65536) % (chl n G (e k)).length).toNat 0 := by rw [← hc]; exact h9
                refine z_callVV (pc := 105) hO (As := [.int (zi (e k)), .int (zi v)]) (st := []) (c_X8_lay (qL Γ) g y (e k) v n G (by exact hFy.1) (by exact hFy.2.1) (by exact hek) (by exact hz0) (by omega) (by have q := (fit_step hfk hek hz0 hv2.1.1).mp hv2.2; rw [hFy.2.1.2 v (by omega) (by omega), bi_f q.2.1])) k_X8_58 isO_30 rfl (Nat.le_of_ble_eq_true rfl) (by decide) (by decide) ⟨by decide, by decide⟩ dX8_estimateFrom_105 (fun m11 h12 => ?_)
                have hFl := FS_lay hFy hek hz0 (show 1 ≤ v ∧ v ≤ n * n by omega) h12
                have hEl : 0 < wr (pr * c) → EL n e E (k + 1) (uf G (e k) v) := fun _ => EL_s hEk (by omega) (show v ≠ 0 by omega)
                have hfl : 0 < wr (pr * c) → fit n (uf G (e k) v) := fun _ => hv2.2
                have hfrl : ∀ a, a < 30 ∨ 36 < a → m11 a = x a := fun a ha => by rw [h12.2.2.2 a (by omega) (by omega) (by omega) (by omega)]; exact hfr a ha
                obtain ⟨r2, hr2⟩ : ∃ r2, r = r2 + 1 := ⟨r - 1, by omega⟩
                have hes2 : est n f seed = esr n e r2 (k + 1) (uf G (e k) v) ((25173 * s + 13849) % 65536) (wr (pr * c)) := by rw [hes, hr2, esr, if_pos (by assumption), ← hve, ← hc]
                refine z_iinc (pc := 108) hO 5 (lv' := [(5, .int (zi (k + 1))), (4, .int (zi (((25173 * s) + 13849) % 65536))), (2, .long (zl (wr (pr * c)))), (6, .int (zi c)), (0, .ref (gA g 30)), (1, .int (zi seed))]) dX8_estimateFrom_108 rfl (by decide) rfl ?_
                refine z_goto (pc := 111) hO (tgt := 17) dX8_estimateFrom_111 (by decide) ?_
                refine z_sub [4, 5, 2, 1, 0] rfl ?_
                exact ih17 (k + 1) (wr (pr * c)) (((25173 * s) + 13849) % 65536) m11 (uf G (e k) v) r2 (by omega) (by omega) (by exact wr_r _) (by omega) (by exact hFl) (by exact hEl) (by exact hfl) (by exact hfrl) (by exact hes2)
    refine z_sub [3, 4, 2, 1, 0] rfl ?_
    exact L17 _ 0 1 seed x (tk f (n * n)) ((emp f (n * n).toNat).length) (Nat.lt_succ_self _) (by omega) (by decide) (by omega) (by exact hFS) (by intro _; exact hEL) (by intro _; exact hfit) (by intro _ _; rfl) (by unfold est; rw [ci_t hfit, he])
  · skip
    have hnf : ¬ fit n (tk f (n * n)) := fun q => pb1 (hft.mpr q)
    refine z_if_ne (pc := 4) hO (tgt := 9) dX8_estimateFrom_4 (by decide) (by decide) (fun h => absurd h (by decide)) (fun _ => ?_)
    refine z_lconst (v := 0) (pc := 7) hO dX8_estimateFrom_7 rfl ?_
    exact z_lret (pc := 8) hO hr hQ dX8_estimateFrom_8 (by first | (refine ⟨?_, fun _ _ => rfl⟩; unfold est; rw [ci_f hnf]; done) | (exfalso; omega))

