set_option maxHeartbeats 4000000 in
theorem c_X6_areOrthogonal (l : Launch) (g : Gl) (x : Me) (q : Nat) (r : Nat)  (hF : FG x q) (hFr : FG x r) : ctQ l g yX6_areOrthogonal cX6_areOrthogonal 4 (some .boolean) 2 41 [.ref (gA g (10 + q)), .ref (gA g (10 + r))] x (QIu g (fun z x' => ((z = 1 ∧ (ort (x (10 + q) 1) (nc x q) (nc x r))) ∨ (z = 0 ∧ ¬ (ort (x (10 + q) 1) (nc x q) (nc x r)))) ∧ x' = x)) := by
  refine ct_start (own := RX6) (lv := [(0, .ref (gA g (10 + q))), (1, .ref (gA g (10 + r)))]) (plainFor_of_name (by decide)) rfl (Nat.le_of_ble_eq_true rfl) rfl ?_
  intro Γ hΓ hO hr hQ _
  obtain ⟨hq, hs, hf⟩ := id hF
  have h9 := sq9 hs
  have hN := FG.r hF
  obtain ⟨hqr, hsr, hfr⟩ := id hFr
  have h9r := sq9 hsr
  have hNr := FG.r hFr
  refine z_iconst (pc := 0) hO dX6_areOrthogonal_0 ?_
  refine z_istore_n (pc := 1) hO (lv' := [(2, .int (zi 0)), (0, .ref (gA g (10 + q))), (1, .ref (gA g (10 + r)))]) dX6_areOrthogonal_1 rfl (by decide) rfl ?_
  have L2 : ∀ (N : Nat) (i : Int), (x (10 + q) 1 * x (10 + q) 1 - i).toNat < N → (0 ≤ i ∧ i ≤ x (10 + q) 1 * x (10 + q) 1) → (∀ p, 0 ≤ p → p < i → ∀ k, 0 ≤ k → k < p → ¬ (nc x q p = nc x q k ∧ nc x r p = nc x r k)) → Zz Γ g 4 0 0 x 2 [(0, .ref (gA g (10 + q))), (1, .ref (gA g (10 + r))), (2, .int (zi i))] [] := by
    intro N
    induction N with
    | zero => intro i hm; exact absurd hm (Nat.not_lt_zero _)
    | succ N ih2 =>
      intro i hm h0 hA
      have hR := hN i
      have hRr := hNr i
      refine z_iload_n (pc := 2) hO 2 dX6_areOrthogonal_2 rfl rfl ?_
      refine z_aload_n (pc := 3) hO 0 dX6_areOrthogonal_3 rfl rfl ?_
      refine z_callVIp (pc := 4) hO (As := []) (st := [.int (zi i)]) (c_X1_size (qL Γ) g x q (by first | assumption | omega)) k_X6_9 (isO_fig (by omega : q < 9)) rfl (Nat.le_of_ble_eq_true rfl) (by decide) (by decide) ⟨by decide, by decide⟩ dX6_areOrthogonal_4 ?_
      refine z_icmp_ge (pc := 7) hO (tgt := 57) dX6_areOrthogonal_7 (by decide) (by omega) (by omega) (fun b1 => ?_) (fun b1 => ?_)
      · refine z_iconst (pc := 57) hO dX6_areOrthogonal_57 ?_
        exact z_iret (pc := 58) hO hr hQ rfl dX6_areOrthogonal_58 ⟨Or.inl ⟨rfl, by first | (first | (intro p a b; exact hA p a (by omega)) | (intro h; exact h i (by omega) (by omega) k (by omega) (by omega) ⟨by assumption, by assumption⟩); done) | (exfalso; omega)⟩, rfl⟩
      · refine z_iconst (pc := 10) hO dX6_areOrthogonal_10 ?_
        refine z_istore_n (pc := 11) hO (lv' := [(3, .int (zi 0)), (0, .ref (gA g (10 + q))), (1, .ref (gA g (10 + r))), (2, .int (zi i))]) dX6_areOrthogonal_11 rfl (by decide) rfl ?_
        have L12 : ∀ (N : Nat) (k : Int), (i - k).toNat < N → (0 ≤ k ∧ k ≤ i) → (∀ j, 0 ≤ j → j < k → ¬ (nc x q i = nc x q j ∧ nc x r i = nc x r j)) → Zz Γ g 4 0 0 x 12 [(0, .ref (gA g (10 + q))), (1, .ref (gA g (10 + r))), (2, .int (zi i)), (3, .int (zi k))] [] := by
          intro N
          induction N with
          | zero => intro k hm; exact absurd hm (Nat.not_lt_zero _)
          | succ N ih12 =>
            intro k hm k0 hB
            have hK := hN k
            have hKr := hNr k
            refine z_iload_n (pc := 12) hO 3 dX6_areOrthogonal_12 rfl rfl ?_
            refine z_iload_n (pc := 13) hO 2 dX6_areOrthogonal_13 rfl rfl ?_
            refine z_icmp_ge (pc := 14) hO (tgt := 51) dX6_areOrthogonal_14 (by decide) (by omega) (by omega) (fun b2 => ?_) (fun b2 => ?_)
            · refine z_iinc (pc := 51) hO 2 (lv' := [(2, .int (zi (i + 1))), (0, .ref (gA g (10 + q))), (1, .ref (gA g (10 + r))), (3, .int (zi k))]) dX6_areOrthogonal_51 rfl (by decide) rfl ?_
              refine z_goto (pc := 54) hO (tgt := 2) dX6_areOrthogonal_54 (by decide) ?_
              refine z_sub [1, 2, 0] rfl ?_
              exact ih2 (i + 1) (by omega) (by omega) (by intro p a b k c d; by_cases hl : p = i; (subst hl; exact hB k c (by omega)); exact hA p a (by omega) k c d)
            · refine z_aload_n (pc := 17) hO 0 dX6_areOrthogonal_17 rfl rfl ?_
              refine z_iload_n (pc := 18) hO 2 dX6_areOrthogonal_18 rfl rfl ?_
              refine z_callVIp (pc := 19) hO (As := [.int (zi i)]) (st := []) (c_X1_read (qL Γ) g x q i (by first | assumption | omega) (by first | assumption | omega)) k_X6_15 (isO_fig (by omega : q < 9)) rfl (Nat.le_of_ble_eq_true rfl) (by decide) (by decide) ⟨by decide, by decide⟩ dX6_areOrthogonal_19 ?_
              refine z_aload_n (pc := 22) hO 0 dX6_areOrthogonal_22 rfl rfl ?_
              refine z_iload_n (pc := 23) hO 3 dX6_areOrthogonal_23 rfl rfl ?_
              refine z_callVIp (pc := 24) hO (As := [.int (zi k)]) (st := [.int (zi (nc x q i))]) (c_X1_read (qL Γ) g x q k (by first | assumption | omega) (by first | assumption | omega)) k_X6_15 (isO_fig (by omega : q < 9)) rfl (Nat.le_of_ble_eq_true rfl) (by decide) (by decide) ⟨by decide, by decide⟩ dX6_areOrthogonal_24 ?_
              refine z_icmp_ne (pc := 27) hO (tgt := 45) dX6_areOrthogonal_27 (by decide) (by omega) (by omega) (fun b3 => ?_) (fun b3 => ?_)
              · refine z_iinc (pc := 45) hO 3 (lv' := [(3, .int (zi (k + 1))), (0, .ref (gA g (10 + q))), (1, .ref (gA g (10 + r))), (2, .int (zi i))]) dX6_areOrthogonal_45 rfl (by decide) rfl ?_
                refine z_goto (pc := 48) hO (tgt := 12) dX6_areOrthogonal_48 (by decide) ?_
                refine z_sub [1, 2, 3, 0] rfl ?_
                exact ih12 (k + 1) (by omega) (by omega) (by intro p a b; by_cases hl : p = k; (subst hl; intro h; have h1 := h.1; have h2 := h.2; contradiction); exact hB p a (by omega))
              · refine z_aload_n (pc := 30) hO 1 dX6_areOrthogonal_30 rfl rfl ?_
                refine z_iload_n (pc := 31) hO 2 dX6_areOrthogonal_31 rfl rfl ?_
                refine z_callVIp (pc := 32) hO (As := [.int (zi i)]) (st := []) (c_X1_read (qL Γ) g x r i (by first | assumption | omega) (by first | assumption | omega)) k_X6_15 (isO_fig (by omega : r < 9)) rfl (Nat.le_of_ble_eq_true rfl) (by decide) (by decide) ⟨by decide, by decide⟩ dX6_areOrthogonal_32 ?_
                refine z_aload_n (pc := 35) hO 1 dX6_areOrthogonal_35 rfl rfl ?_
                refine z_iload_n (pc := 36) hO 3 dX6_areOrthogonal_36 rfl rfl ?_
                refine z_callVIp (pc := 37) hO (As := [.int (zi k)]) (st := [.int (zi (nc x r i))]) (c_X1_read (qL Γ) g x r k (by first | assumption | omega) (by first | assumption | omega)) k_X6_15 (isO_fig (by omega : r < 9)) rfl (Nat.le_of_ble_eq_true rfl) (by decide) (by decide) ⟨by decide, by decide⟩ dX6_areOrthogonal_37 ?_
                refine z_icmp_ne (pc := 40) hO (tgt := 45) dX6_areOrthogonal_40 (by decide) (by omega) (by omega) (fun b4 => ?_) (fun b4 => ?_)
                · refine z_iinc (pc := 45) hO 3 (lv' := [(3, .int (zi (k + 1))), (0, .ref (gA g (10 + q))), (1, .ref (gA g (10 + r))), (2, .int (zi i))]) dX6_areOrthogonal_45 rfl (by decide) rfl ?_
                  refine z_goto (pc := 48) hO (tgt := 12) dX6_areOrthogonal_48 (by decide) ?_
                  refine z_sub [1, 2, 3, 0] rfl ?_
                  exact ih12 (k + 1) (by omega) (by omega) (by intro p a b; by_cases hl : p = k; (subst hl; intro h; have h1 := h.1; have h2 := h.2; contradiction); exact hB p a (by omega))
                · refine z_iconst (pc := 43) hO dX6_areOrthogonal_43 ?_
                  exact z_iret (pc := 44) hO hr hQ rfl dX6_areOrthogonal_44 ⟨Or.inr ⟨rfl, by first | (first | (intro p a b; exact hA p a (by omega)) | (intro h; exact h i (by omega) (by omega) k (by omega) (by omega) ⟨by assumption, by assumption⟩); done) | (exfalso; omega)⟩, rfl⟩
        refine z_sub [1, 2, 3, 0] rfl ?_
        exact L12 _ 0 (Nat.lt_succ_self _) (by omega) (by intro p _ _; omega)
  refine z_sub [1, 2, 0] rfl ?_
  exact L2 _ 0 (Nat.lt_succ_self _) (by omega) (by intro p _ _; omega)

set_option maxHeartbeats 4000000 in
theorem c_X6_areBothFull (l : Launch) (g : Gl) (x : Me) (q : Nat) (r : Nat)  (hF : FG x q) (hFr : FG x r) : ctQ l g yX6_areBothFull cX6_areBothFull 2 (some .boolean) 3 64 [.ref (gA g (10 + q)), .ref (gA g (10 + r))] x (QIu g (fun z x' => ((z = 1 ∧ (ful (x (10 + q) 1) (nc x q) ∧ ful (x (10 + r) 1) (nc x r))) ∨ (z = 0 ∧ ¬ (ful (x (10 + q) 1) (nc x q) ∧ ful (x (10 + r) 1) (nc x r)))) ∧ x' = x)) := by
  refine ct_start (own := RX6) (lv := [(0, .ref (gA g (10 + q))), (1, .ref (gA g (10 + r)))]) (plainFor_of_name (by decide)) rfl (Nat.le_of_ble_eq_true rfl) rfl ?_
  intro Γ hΓ hO hr hQ _
  obtain ⟨hq, hs, hf⟩ := id hF
  have h9 := sq9 hs
  have hN := FG.r hF
  obtain ⟨hqr, hsr, hfr⟩ := id hFr
  have h9r := sq9 hsr
  have hNr := FG.r hFr
  have hC := cnt_rng (f := nc x q) hs 0
  have hCr := cnt_rng (f := nc x r) hsr 0
  have hC0 := cnt_0 (f := nc x q) (v := 0) hs
  have hC1 := cnt_0 (f := nc x r) (v := 0) hsr
  refine z_aload_n (pc := 0) hO 0 dX6_areBothFull_0 rfl rfl ?_
  refine z_iconst (pc := 1) hO dX6_areBothFull_1 ?_
  refine z_callVIp (pc := 2) hO (As := [.int (zi 0)]) (st := []) (c_X1_countOf (qL Γ) g x q 0 (by first | assumption | omega) (by first | assumption | omega) (by first | assumption | omega) (by first | assumption | omega)) k_X6_53 (isO_fig (by omega : q < 9)) rfl (Nat.le_of_ble_eq_true rfl) (by decide) (by decide) ⟨by decide, by decide⟩ dX6_areBothFull_2 ?_
  refine z_if_ne (pc := 5) hO (tgt := 20) dX6_areBothFull_5 (by decide) (by omega) (fun b1 => ?_) (fun b1 => ?_)
  · refine z_iconst (pc := 20) hO dX6_areBothFull_20 ?_
    exact z_iret (pc := 21) hO hr hQ rfl dX6_areBothFull_21 ⟨Or.inr ⟨rfl, by first | (first | exact ⟨hC0.mp (by assumption), hC1.mp (by assumption)⟩ | (intro h; have h1 := hC0.mpr h.1; have h2 := hC1.mpr h.2; omega); done) | (exfalso; omega)⟩, rfl⟩
  · refine z_aload_n (pc := 8) hO 1 dX6_areBothFull_8 rfl rfl ?_
    refine z_iconst (pc := 9) hO dX6_areBothFull_9 ?_
    refine z_callVIp (pc := 10) hO (As := [.int (zi 0)]) (st := []) (c_X1_countOf (qL Γ) g x r 0 (by first | assumption | omega) (by first | assumption | omega) (by first | assumption | omega) (by first | assumption | omega)) k_X6_53 (isO_fig (by omega : r < 9)) rfl (Nat.le_of_ble_eq_true rfl) (by decide) (by decide) ⟨by decide, by decide⟩ dX6_areBothFull_10 ?_
    refine z_if_ne (pc := 13) hO (tgt := 20) dX6_areBothFull_13 (by decide) (by omega) (fun b2 => ?_) (fun b2 => ?_)
    · refine z_iconst (pc := 20) hO dX6_areBothFull_20 ?_
      exact z_iret (pc := 21) hO hr hQ rfl dX6_areBothFull_21 ⟨Or.inr ⟨rfl, by first | (first | exact ⟨hC0.mp (by assumption), hC1.mp (by assumption)⟩ | (intro h; have h1 := hC0.mpr h.1; have h2 := hC1.mpr h.2; omega); done) | (exfalso; omega)⟩, rfl⟩
    · refine z_iconst (pc := 16) hO dX6_areBothFull_16 ?_
      refine z_goto (pc := 17) hO (tgt := 21) dX6_areBothFull_17 (by decide) ?_
      exact z_iret (pc := 21) hO hr hQ rfl dX6_areBothFull_21 ⟨Or.inl ⟨rfl, by first | (first | exact ⟨hC0.mp (by assumption), hC1.mp (by assumption)⟩ | (intro h; have h1 := hC0.mpr h.1; have h2 := hC1.mpr h.2; omega); done) | (exfalso; omega)⟩, rfl⟩

theorem hig_rng {f : Int → Int} (hf : FR f) (k : Nat) : 0 ≤ hig f k ∧ hig f k ≤ 999 := by
  induction k with
  | zero => simp [hig]
  | succ k ih => have := hf k; rw [hig]; omega
set_option maxHeartbeats 4000000 in
theorem c_X6_canStack (l : Launch) (g : Gl) (x : Me) (q : Nat) (r : Nat)  (hF : FG x q) (hFr : FG x r) : ctQ l g yX6_canStack cX6_canStack 3 (some .boolean) 4 85 [.ref (gA g (10 + q)), .ref (gA g (10 + r))] x (QIu g (fun z x' => ((z = 1 ∧ (x (10 + q) 1 = x (10 + r) 1 ∧ (ful (x (10 + q) 1) (nc x q) ∧ ful (x (10 + r) 1) (nc x r)) ∧ hig (nc x q) (x (10 + q) 1 * x (10 + q) 1).toNat ≤ x (10 + q) 1 ∧ hig (nc x r) (x (10 + r) 1 * x (10 + r) 1).toNat ≤ x (10 + q) 1)) ∨ (z = 0 ∧ ¬ (x (10 + q) 1 = x (10 + r) 1 ∧ (ful (x (10 + q) 1) (nc x q) ∧ ful (x (10 + r) 1) (nc x r)) ∧ hig (nc x q) (x (10 + q) 1 * x (10 + q) 1).toNat ≤ x (10 + q) 1 ∧ hig (nc x r) (x (10 + r) 1 * x (10 + r) 1).toNat ≤ x (10 + q) 1))) ∧ x' = x)) := by
  refine ct_start (own := RX6) (lv := [(0, .ref (gA g (10 + q))), (1, .ref (gA g (10 + r)))]) (plainFor_of_name (by decide)) rfl (Nat.le_of_ble_eq_true rfl) rfl ?_
  intro Γ hΓ hO hr hQ _
  obtain ⟨hq, hs, hf⟩ := id hF
  have h9 := sq9 hs
  have hN := FG.r hF
  obtain ⟨hqr, hsr, hfr⟩ := id hFr
  have h9r := sq9 hsr
  have hNr := FG.r hFr
  have hG := hig_rng hN (x (10 + q) 1 * x (10 + q) 1).toNat
  have hGr := hig_rng hNr (x (10 + r) 1 * x (10 + r) 1).toNat
  refine z_aload_n (pc := 0) hO 0 dX6_canStack_0 rfl rfl ?_
  refine z_callVIp (pc := 1) hO (As := []) (st := []) (c_X1_side (qL Γ) g x q (by first | assumption | omega)) k_X6_19 (isO_fig (by omega : q < 9)) rfl (Nat.le_of_ble_eq_true rfl) (by decide) (by decide) ⟨by decide, by decide⟩ dX6_canStack_1 ?_
  refine z_istore_n (pc := 4) hO (lv' := [(2, .int (zi (x (10 + q) 1))), (0, .ref (gA g (10 + q))), (1, .ref (gA g (10 + r)))]) dX6_canStack_4 rfl (by decide) rfl ?_
  refine z_iload_n (pc := 5) hO 0 dX6_canStack_5 rfl rfl ?_
  refine z_aload_n (pc := 6) hO 2 dX6_canStack_6 rfl rfl ?_
  refine z_callVIp (pc := 7) hO (As := []) (st := [.int (zi (x (10 + q) 1))]) (c_X1_side (qL Γ) g x r (by first | assumption | omega)) k_X6_19 (isO_fig (by omega : r < 9)) rfl (Nat.le_of_ble_eq_true rfl) (by decide) (by decide) ⟨by decide, by decide⟩ dX6_canStack_7 ?_
  refine z_icmp_ne (pc := 10) hO (tgt := 41) dX6_canStack_10 (by decide) (by omega) (by omega) (fun b1 => ?_) (fun b1 => ?_)
  · refine z_iconst (pc := 41) hO dX6_canStack_41 ?_
    exact z_iret (pc := 42) hO hr hQ rfl dX6_canStack_42 ⟨Or.inr ⟨rfl, by first | (first | exact ⟨by assumption, by assumption, by assumption, by assumption⟩ | (rintro ⟨h1, h2, h3, h4⟩; first | contradiction | omega); done) | (exfalso; omega)⟩, rfl⟩
  · refine z_aload_n (pc := 13) hO 1 dX6_canStack_13 rfl rfl ?_
    refine z_aload_n (pc := 14) hO 2 dX6_canStack_14 rfl rfl ?_
    refine z_callSB (pc := 15) hO (As := [.ref (gA g (10 + q)), .ref (gA g (10 + r))]) (st := []) (c_X6_areBothFull (qL Γ) g x q r (by first | assumption | omega) (by first | assumption | omega)) k_X6_22 rfl (Nat.le_of_ble_eq_true rfl) (by decide) (by decide) ⟨by decide, by decide⟩ dX6_canStack_15 (fun pb2 => ?_) (fun pb2 => ?_)
    · skip
      refine z_if_eq (pc := 18) hO (tgt := 41) dX6_canStack_18 (by decide) (by decide) (fun h => absurd h (by decide)) (fun _ => ?_)
      refine z_aload_n (pc := 21) hO 1 dX6_canStack_21 rfl rfl ?_
      refine z_callVIp (pc := 22) hO (As := []) (st := []) (c_X1_highest (qL Γ) g x q (by first | assumption | omega) (by first | assumption | omega) (by first | assumption | omega)) k_X6_28 (isO_fig (by omega : q < 9)) rfl (Nat.le_of_ble_eq_true rfl) (by decide) (by decide) ⟨by decide, by decide⟩ dX6_canStack_22 ?_
      refine z_iload_n (pc := 25) hO 0 dX6_canStack_25 rfl rfl ?_
      refine z_icmp_gt (pc := 26) hO (tgt := 41) dX6_canStack_26 (by decide) (by omega) (by omega) (fun b3 => ?_) (fun b3 => ?_)
      · refine z_iconst (pc := 41) hO dX6_canStack_41 ?_
        exact z_iret (pc := 42) hO hr hQ rfl dX6_canStack_42 ⟨Or.inr ⟨rfl, by first | (first | exact ⟨by assumption, by assumption, by assumption, by assumption⟩ | (rintro ⟨h1, h2, h3, h4⟩; first | contradiction | omega); done) | (exfalso; omega)⟩, rfl⟩
      · refine z_aload_n (pc := 29) hO 2 dX6_canStack_29 rfl rfl ?_
        refine z_callVIp (pc := 30) hO (As := []) (st := []) (c_X1_highest (qL Γ) g x r (by first | assumption | omega) (by first | assumption | omega) (by first | assumption | omega)) k_X6_28 (isO_fig (by omega : r < 9)) rfl (Nat.le_of_ble_eq_true rfl) (by decide) (by decide) ⟨by decide, by decide⟩ dX6_canStack_30 ?_
        refine z_iload_n (pc := 33) hO 0 dX6_canStack_33 rfl rfl ?_
        refine z_icmp_gt (pc := 34) hO (tgt := 41) dX6_canStack_34 (by decide) (by omega) (by omega) (fun b4 => ?_) (fun b4 => ?_)
        · refine z_iconst (pc := 41) hO dX6_canStack_41 ?_
          exact z_iret (pc := 42) hO hr hQ rfl dX6_canStack_42 ⟨Or.inr ⟨rfl, by first | (first | exact ⟨by assumption, by assumption, by assumption, by assumption⟩ | (rintro ⟨h1, h2, h3, h4⟩; first | contradiction | omega); done) | (exfalso; omega)⟩, rfl⟩
        · refine z_iconst (pc := 37) hO dX6_canStack_37 ?_
          refine z_goto (pc := 38) hO (tgt := 42) dX6_canStack_38 (by decide) ?_
          exact z_iret (pc := 42) hO hr hQ rfl dX6_canStack_42 ⟨Or.inl ⟨rfl, by first | (first | exact ⟨by assumption, by assumption, by assumption, by assumption⟩ | (rintro ⟨h1, h2, h3, h4⟩; first | contradiction | omega); done) | (exfalso; omega)⟩, rfl⟩
    · skip
      refine z_if_eq (pc := 18) hO (tgt := 41) dX6_canStack_18 (by decide) (by decide) (fun _ => ?_) (fun h => absurd h (by decide))
      refine z_iconst (pc := 41) hO dX6_canStack_41 ?_
      exact z_iret (pc := 42) hO hr hQ rfl dX6_canStack_42 ⟨Or.inr ⟨rfl, by first | (first | exact ⟨by assumption, by assumption, by assumption, by assumption⟩ | (rintro ⟨h1, h2, h3, h4⟩; first | contradiction | omega); done) | (exfalso; omega)⟩, rfl⟩

set_option maxHeartbeats 4000000 in
theorem c_X6_multiplied (l : Launch) (g : Gl) (x : Me) (r : Nat) (a : Int) (b : Int)  (hqr : r < 9) : ctQ l g yX6_multiplied cX6_multiplied 3 (some .int) 2 40 [.ref (gA g (10 + r)), .int (zi a), .int (zi b)] x (QIu g (fun z x' => z = (x (10 + r) 1 * x (10 + r) 1 * (a - 1) + b) ∧ x' = x)) := by
  refine ct_start (own := RX6) (lv := [(0, .ref (gA g (10 + r))), (1, .int (zi a)), (2, .int (zi b))]) (plainFor_of_name (by decide)) rfl (Nat.le_of_ble_eq_true rfl) rfl ?_
  intro Γ hΓ hO hr hQ _
  refine z_aload_n (pc := 0) hO 0 dX6_multiplied_0 rfl rfl ?_
  refine z_callVIp (pc := 1) hO (As := []) (st := []) (c_X1_size (qL Γ) g x r (by first | assumption | omega)) k_X6_9 (isO_fig (by omega : r < 9)) rfl (Nat.le_of_ble_eq_true rfl) (by decide) (by decide) ⟨by decide, by decide⟩ dX6_multiplied_1 ?_
  refine z_iload_n (pc := 4) hO 1 dX6_multiplied_4 rfl rfl ?_
  refine z_iconst (pc := 5) hO dX6_multiplied_5 ?_
  refine z_isub (pc := 6) hO dX6_multiplied_6 ?_
  refine z_imul (pc := 7) hO dX6_multiplied_7 ?_
  refine z_iload_n (pc := 8) hO 2 dX6_multiplied_8 rfl rfl ?_
  refine z_iadd (pc := 9) hO dX6_multiplied_9 ?_
  exact z_iret (pc := 10) hO hr hQ rfl dX6_multiplied_10 ⟨by first | rfl | omega, rfl⟩

set_option maxHeartbeats 4000000 in
theorem c_X6_canMultiply (l : Launch) (g : Gl) (x : Me) (q : Nat) (r : Nat)  (hF : FG x q) (hFr : FG x r) : ctQ l g yX6_canMultiply cX6_canMultiply 2 (some .boolean) 4 85 [.ref (gA g (10 + q)), .ref (gA g (10 + r))] x (QIu g (fun z x' => ((z = 1 ∧ (x (10 + q) 1 * x (10 + r) 1 ≤ 9 ∧ (ful (x (10 + q) 1) (nc x q) ∧ ful (x (10 + r) 1) (nc x r)) ∧ x (10 + r) 1 * x (10 + r) 1 * (hig (nc x q) (x (10 + q) 1 * x (10 + q) 1).toNat - 1) + hig (nc x r) (x (10 + r) 1 * x (10 + r) 1).toNat ≤ 999)) ∨ (z = 0 ∧ ¬ (x (10 + q) 1 * x (10 + r) 1 ≤ 9 ∧ (ful (x (10 + q) 1) (nc x q) ∧ ful (x (10 + r) 1) (nc x r)) ∧ x (10 + r) 1 * x (10 + r) 1 * (hig (nc x q) (x (10 + q) 1 * x (10 + q) 1).toNat - 1) + hig (nc x r) (x (10 + r) 1 * x (10 + r) 1).toNat ≤ 999))) ∧ x' = x)) := by
  refine ct_start (own := RX6) (lv := [(0, .ref (gA g (10 + q))), (1, .ref (gA g (10 + r)))]) (plainFor_of_name (by decide)) rfl (Nat.le_of_ble_eq_true rfl) rfl ?_
  intro Γ hΓ hO hr hQ _
  obtain ⟨hq, hs, hf⟩ := id hF
  have h9 := sq9 hs
  have hN := FG.r hF
  obtain ⟨hqr, hsr, hfr⟩ := id hFr
  have h9r := sq9 hsr
  have hNr := FG.r hFr
  have hG := hig_rng hN (x (10 + q) 1 * x (10 + q) 1).toNat
  have hGr := hig_rng hNr (x (10 + r) 1 * x (10 + r) 1).toNat
  have hB1 := Int.mul_le_mul hs.2 hsr.2 (by omega) (by omega)
  have hB0 := Int.mul_nonneg (show 0 ≤ x (10 + q) 1 by omega) (show 0 ≤ x (10 + r) 1 by omega)
  have hB2 : -81 ≤ x (10 + r) 1 * x (10 + r) 1 * (hig (nc x q) (x (10 + q) 1 * x (10 + q) 1).toNat - 1) ∧ x (10 + r) 1 * x (10 + r) 1 * (hig (nc x q) (x (10 + q) 1 * x (10 + q) 1).toNat - 1) ≤ 81 * 999 := by
    generalize hig (nc x q) (x (10 + q) 1 * x (10 + q) 1).toNat = G at hG
    generalize x (10 + r) 1 * x (10 + r) 1 = s at h9r
    by_cases hg0 : G = 0
    · subst hg0; omega
    · have c1 := Int.mul_le_mul h9r.2.1 (show G - 1 ≤ 999 by omega) (by omega) (by omega)
      have c2 := Int.mul_nonneg (show 0 ≤ s by omega) (show 0 ≤ G - 1 by omega)
      omega
  refine z_aload_n (pc := 0) hO 0 dX6_canMultiply_0 rfl rfl ?_
  refine z_callVIp (pc := 1) hO (As := []) (st := []) (c_X1_side (qL Γ) g x q (by first | assumption | omega)) k_X6_19 (isO_fig (by omega : q < 9)) rfl (Nat.le_of_ble_eq_true rfl) (by decide) (by decide) ⟨by decide, by decide⟩ dX6_canMultiply_1 ?_
  refine z_aload_n (pc := 4) hO 1 dX6_canMultiply_4 rfl rfl ?_
  refine z_callVIp (pc := 5) hO (As := []) (st := [.int (zi (x (10 + q) 1))]) (c_X1_side (qL Γ) g x r (by first | assumption | omega)) k_X6_19 (isO_fig (by omega : r < 9)) rfl (Nat.le_of_ble_eq_true rfl) (by decide) (by decide) ⟨by decide, by decide⟩ dX6_canMultiply_5 ?_
  refine z_imul (pc := 8) hO dX6_canMultiply_8 ?_
  refine z_bipush (pc := 9) hO dX6_canMultiply_9 (by decide) ?_
  refine z_icmp_gt (pc := 11) hO (tgt := 44) dX6_canMultiply_11 (by decide) (by omega) (by omega) (fun b1 => ?_) (fun b1 => ?_)
  · refine z_iconst (pc := 44) hO dX6_canMultiply_44 ?_
    exact z_iret (pc := 45) hO hr hQ rfl dX6_canMultiply_45 ⟨Or.inr ⟨rfl, by first | (first | exact ⟨by assumption, by assumption, by assumption⟩ | (rintro ⟨h1, h2, h3⟩; first | contradiction | omega); done) | (exfalso; omega)⟩, rfl⟩
  · refine z_aload_n (pc := 14) hO 0 dX6_canMultiply_14 rfl rfl ?_
    refine z_aload_n (pc := 15) hO 1 dX6_canMultiply_15 rfl rfl ?_
    refine z_callSB (pc := 16) hO (As := [.ref (gA g (10 + q)), .ref (gA g (10 + r))]) (st := []) (c_X6_areBothFull (qL Γ) g x q r (by first | assumption | omega) (by first | assumption | omega)) k_X6_22 rfl (Nat.le_of_ble_eq_true rfl) (by decide) (by decide) ⟨by decide, by decide⟩ dX6_canMultiply_16 (fun pb2 => ?_) (fun pb2 => ?_)
    · skip
      refine z_if_eq (pc := 19) hO (tgt := 44) dX6_canMultiply_19 (by decide) (by decide) (fun h => absurd h (by decide)) (fun _ => ?_)
      refine z_aload_n (pc := 22) hO 1 dX6_canMultiply_22 rfl rfl ?_
      refine z_aload_n (pc := 23) hO 0 dX6_canMultiply_23 rfl rfl ?_
      refine z_callVIp (pc := 24) hO (As := []) (st := [.ref (gA g (10 + r))]) (c_X1_highest (qL Γ) g x q (by first | assumption | omega) (by first | assumption | omega) (by first | assumption | omega)) k_X6_28 (isO_fig (by omega : q < 9)) rfl (Nat.le_of_ble_eq_true rfl) (by decide) (by decide) ⟨by decide, by decide⟩ dX6_canMultiply_24 ?_
      refine z_aload_n (pc := 27) hO 1 dX6_canMultiply_27 rfl rfl ?_
      refine z_callVIp (pc := 28) hO (As := []) (st := [.int (zi (hig (nc x q) (x (10 + q) 1 * x (10 + q) 1).toNat)), .ref (gA g (10 + r))]) (c_X1_highest (qL Γ) g x r (by first | assumption | omega) (by first | assumption | omega) (by first | assumption | omega)) k_X6_28 (isO_fig (by omega : r < 9)) rfl (Nat.le_of_ble_eq_true rfl) (by decide) (by decide) ⟨by decide, by decide⟩ dX6_canMultiply_28 ?_
      refine z_callSIp (pc := 31) hO (As := [.ref (gA g (10 + r)), .int (zi (hig (nc x q) (x (10 + q) 1 * x (10 + q) 1).toNat)), .int (zi (hig (nc x r) (x (10 + r) 1 * x (10 + r) 1).toNat))]) (st := []) (c_X6_multiplied (qL Γ) g x r (hig (nc x q) (x (10 + q) 1 * x (10 + q) 1).toNat) (hig (nc x r) (x (10 + r) 1 * x (10 + r) 1).toNat) (by first | assumption | omega)) k_X6_35 rfl (Nat.le_of_ble_eq_true rfl) (by decide) (by decide) ⟨by decide, by decide⟩ dX6_canMultiply_31 ?_
      refine z_sipush (pc := 34) hO dX6_canMultiply_34 (by decide) ?_
      refine z_icmp_gt (pc := 37) hO (tgt := 44) dX6_canMultiply_37 (by decide) (by omega) (by omega) (fun b3 => ?_) (fun b3 => ?_)
      · refine z_iconst (pc := 44) hO dX6_canMultiply_44 ?_
        exact z_iret (pc := 45) hO hr hQ rfl dX6_canMultiply_45 ⟨Or.inr ⟨rfl, by first | (first | exact ⟨by assumption, by assumption, by assumption⟩ | (rintro ⟨h1, h2, h3⟩; first | contradiction | omega); done) | (exfalso; omega)⟩, rfl⟩
      · refine z_iconst (pc := 40) hO dX6_canMultiply_40 ?_
        refine z_goto (pc := 41) hO (tgt := 45) dX6_canMultiply_41 (by decide) ?_
        exact z_iret (pc := 45) hO hr hQ rfl dX6_canMultiply_45 ⟨Or.inl ⟨rfl, by first | (first | exact ⟨by assumption, by assumption, by assumption⟩ | (rintro ⟨h1, h2, h3⟩; first | contradiction | omega); done) | (exfalso; omega)⟩, rfl⟩
    · skip
      refine z_if_eq (pc := 19) hO (tgt := 44) dX6_canMultiply_19 (by decide) (by decide) (fun _ => ?_) (fun h => absurd h (by decide))
      refine z_iconst (pc := 44) hO dX6_canMultiply_44 ?_
      exact z_iret (pc := 45) hO hr hQ rfl dX6_canMultiply_45 ⟨Or.inr ⟨rfl, by first | (first | exact ⟨by assumption, by assumption, by assumption⟩ | (rintro ⟨h1, h2, h3⟩; first | contradiction | omega); done) | (exfalso; omega)⟩, rfl⟩

set_option maxHeartbeats 4000000 in
theorem c_X6_layStack (l : Launch) (g : Gl) (x : Me) (t : Nat) (q : Nat) (r : Nat)  (ht : t < 9) (hF : FG x q) (hFr : FG x r) (htq : t ≠ q) (htr : t ≠ r) (hst : x (10 + t) 1 = x (10 + q) 1) (hsr9 : x (10 + r) 1 = x (10 + q) 1) (hz : ∀ p, 0 ≤ p → p < 81 → x (20 + t) p = 0) : ctQ l g yX6_layStack cX6_layStack 4 none 2 43 [.ref (gA g (10 + t)), .ref (gA g (10 + q)), .ref (gA g (10 + r))] x (QVu g (fun x' => nc x' t = stk (x (10 + q) 1) (nc x q) (nc x r) ∧ ∀ a, a ≠ 20 + t → x' a = x a)) := by
  refine ct_start (own := RX6) (lv := [(0, .ref (gA g (10 + t))), (1, .ref (gA g (10 + q))), (2, .ref (gA g (10 + r)))]) (plainFor_of_name (by decide)) rfl (Nat.le_of_ble_eq_true rfl) rfl ?_
  intro Γ hΓ hO hr hQ _
  obtain ⟨hq, hs, hf⟩ := id hF
  have h9 := sq9 hs
  have hN := FG.r hF
  obtain ⟨hqr, hsr, hfr⟩ := id hFr
  have h9r := sq9 hsr
  have hNr := FG.r hFr
  refine z_iconst (pc := 0) hO dX6_layStack_0 ?_
  refine z_istore_n (pc := 1) hO (lv' := [(3, .int (zi 0)), (0, .ref (gA g (10 + t))), (1, .ref (gA g (10 + q))), (2, .ref (gA g (10 + r)))]) dX6_layStack_1 rfl (by decide) rfl ?_
  have L2 : ∀ (N : Nat) (i : Int) (y : Me), (x (10 + q) 1 * x (10 + q) 1 - i).toNat < N → (0 ≤ i ∧ i ≤ x (10 + q) 1 * x (10 + q) 1) → (∀ p, i ≤ p → p < 81 → y (20 + t) p = 0) → (∀ p, 0 ≤ p → p < i → y (20 + t) p = x (10 + q) 1 * (nc x q p - 1) + nc x r p) → (∀ a, a ≠ 20 + t → y a = x a) → Zz Γ g 4 0 0 y 2 [(0, .ref (gA g (10 + t))), (1, .ref (gA g (10 + q))), (2, .ref (gA g (10 + r))), (3, .int (zi i))] [] := by
    intro N
    induction N with
    | zero => intro i y hm; exact absurd hm (Nat.not_lt_zero _)
    | succ N ih2 =>
      intro i y hm h0 k3 k4 k5
      have k1 := k5 (10 + q) (by omega)
      have k2 := k5 (10 + t) (by omega)
      have hy : y (10 + q) 1 = x (10 + q) 1 := by rw [k1]
      have hyy : y (10 + q) 1 * y (10 + q) 1 = x (10 + q) 1 * x (10 + q) 1 := by rw [hy]
      have hyt : y (10 + t) 1 * y (10 + t) 1 = x (10 + q) 1 * x (10 + q) 1 := by rw [k2, hst]
      have hc1 : nc y q i = nc x q i := by rw [nc_of (k5 (20 + q) (by omega))]
      have hc2 : nc y r i = nc x r i := by rw [nc_of (k5 (20 + r) (by omega))]
      refine z_iload_n (pc := 2) hO 3 dX6_layStack_2 rfl rfl ?_
      refine z_aload_n (pc := 3) hO 0 dX6_layStack_3 rfl rfl ?_
      refine z_callVIp (pc := 4) hO (As := []) (st := [.int (zi i)]) (c_X1_size (qL Γ) g y t (by first | assumption | omega)) k_X6_9 (isO_fig (by omega : t < 9)) rfl (Nat.le_of_ble_eq_true rfl) (by decide) (by decide) ⟨by decide, by decide⟩ dX6_layStack_4 ?_
      refine z_icmp_ge (pc := 7) hO (tgt := 40) dX6_layStack_7 (by decide) (by omega) (by omega) (fun b1 => ?_) (fun b1 => ?_)
      · exact z_vret (pc := 40) hO hr hQ dX6_layStack_40 (by first | (refine ⟨nc_eq (fun p a0 a1 => ?_) (fun p a0 => ?_), k5⟩; (unfold stk; by_cases hp : p < x (10 + q) 1 * x (10 + q) 1; (rw [if_pos ⟨a0, hp⟩]; exact k4 p a0 (by omega)); (rw [if_neg (by omega)]; exact k3 p (by omega) a1)); (unfold stk; rw [if_neg (by omega)]); done) | (exfalso; omega))
      · refine z_aload_n (pc := 10) hO 0 dX6_layStack_10 rfl rfl ?_
        refine z_iload_n (pc := 11) hO 3 dX6_layStack_11 rfl rfl ?_
        refine z_aload_n (pc := 12) hO 1 dX6_layStack_12 rfl rfl ?_
        refine z_callVIp (pc := 13) hO (As := []) (st := [.int (zi i), .ref (gA g (10 + t))]) (c_X1_side (qL Γ) g y q (by first | assumption | omega)) k_X6_19 (isO_fig (by omega : q < 9)) rfl (Nat.le_of_ble_eq_true rfl) (by decide) (by decide) ⟨by decide, by decide⟩ dX6_layStack_13 ?_
        refine z_aload_n (pc := 16) hO 1 dX6_layStack_16 rfl rfl ?_
        refine z_iload_n (pc := 17) hO 3 dX6_layStack_17 rfl rfl ?_
        refine z_callVIp (pc := 18) hO (As := [.int (zi i)]) (st := [.int (zi (y (10 + q) 1)), .int (zi i), .ref (gA g (10 + t))]) (c_X1_read (qL Γ) g y q i (by first | assumption | omega) (by first | assumption | omega)) k_X6_15 (isO_fig (by omega : q < 9)) rfl (Nat.le_of_ble_eq_true rfl) (by decide) (by decide) ⟨by decide, by decide⟩ dX6_layStack_18 ?_
        refine z_iconst (pc := 21) hO dX6_layStack_21 ?_
        refine z_isub (pc := 22) hO dX6_layStack_22 ?_
        refine z_imul (pc := 23) hO dX6_layStack_23 ?_
        refine z_aload_n (pc := 24) hO 2 dX6_layStack_24 rfl rfl ?_
        refine z_iload_n (pc := 25) hO 3 dX6_layStack_25 rfl rfl ?_
        refine z_callVIp (pc := 26) hO (As := [.int (zi i)]) (st := [.int (zi ((y (10 + q) 1) * ((nc y q i) - 1))), .int (zi i), .ref (gA g (10 + t))]) (c_X1_read (qL Γ) g y r i (by first | assumption | omega) (by first | assumption | omega)) k_X6_15 (isO_fig (by omega : r < 9)) rfl (Nat.le_of_ble_eq_true rfl) (by decide) (by decide) ⟨by decide, by decide⟩ dX6_layStack_26 ?_
        refine z_iadd (pc := 29) hO dX6_layStack_29 ?_
        refine z_callVIm (pc := 30) hO (As := [.int (zi i), .int (zi (((y (10 + q) 1) * ((nc y q i) - 1)) + (nc y r i)))]) (st := []) (c_X1_write (qL Γ) g y t i (((y (10 + q) 1) * ((nc y q i) - 1)) + (nc y r i)) (by first | assumption | omega) (by first | assumption | omega)) k_X6_31 (isO_fig (by omega : t < 9)) rfl (Nat.le_of_ble_eq_true rfl) (by decide) (by decide) ⟨by decide, by decide⟩ dX6_layStack_30 (fun m2 e3 => ?_)
        refine z_pop (pc := 33) hO dX6_layStack_33 rfl ?_
        refine z_iinc (pc := 34) hO 3 (lv' := [(3, .int (zi (i + 1))), (0, .ref (gA g (10 + t))), (1, .ref (gA g (10 + q))), (2, .ref (gA g (10 + r)))]) dX6_layStack_34 rfl (by decide) rfl ?_
        refine z_goto (pc := 37) hO (tgt := 2) dX6_layStack_37 (by decide) ?_
        refine z_sub [1, 2, 3, 0] rfl ?_
        exact ih2 (i + 1) m2 (by omega) (by omega) (by intro p a0 a1; subst m2; rw [up_n _ _ (by omega)]; exact k3 p (by omega) a1) (by intro p a0 a1; subst m2; by_cases hp : p = i; (subst hp; rw [up_s, hc1, hc2, hy]); (rw [up_n _ _ (by omega)]; exact k4 p a0 (by omega))) (by intro a a1; subst m2; rw [up_i _ _ _ a1]; exact k5 a a1)
  refine z_sub [1, 2, 3, 0] rfl ?_
  exact L2 _ 0 x (Nat.lt_succ_self _) (by omega) (by intro p _ _; exact hz p (by omega) (by omega)) (by intro p _ _; omega) (by intro a _; rfl)

theorem prd_b {n m r c : Int} (hn : 1 ≤ n ∧ n ≤ 9) (hm : 1 ≤ m ∧ m ≤ 9) (hr : 0 ≤ r ∧ r < n * m) (hc : 0 ≤ c ∧ c < n * m) : (0 ≤ r / m ∧ r / m < n) ∧ (0 ≤ c / m ∧ c / m < n) ∧ (0 ≤ r % m ∧ r % m < m) ∧ (0 ≤ c % m ∧ c % m < m) ∧ (0 ≤ n * (r / m) + c / m ∧ n * (r / m) + c / m < n * n) ∧ 0 ≤ m * (r % m) + c % m ∧ m * (r % m) + c % m < m * m := by
  have a1 := Int.ediv_nonneg hr.1 (show 0 ≤ m by omega)
  have a2 := Int.ediv_lt_of_lt_mul (show 0 < m by omega) hr.2
  have a3 := Int.ediv_nonneg hc.1 (show 0 ≤ m by omega)
  have a4 := Int.ediv_lt_of_lt_mul (show 0 < m by omega) hc.2
  have hm1 : ∀ v : Int, 0 ≤ v % m ∧ v % m < m := fun v => ⟨Int.emod_nonneg v (by omega), Int.emod_lt_of_pos v (by omega)⟩
  have b1 := pl9 hn ⟨a1, a2⟩ ⟨a3, a4⟩
  have b2 := pl9 hm (hm1 r) (hm1 c)
  exact ⟨⟨a1, a2⟩, ⟨a3, a4⟩, hm1 r, hm1 c, ⟨b1.1, b1.2.1⟩, b2.1, b2.2.1⟩
set_option maxHeartbeats 4000000 in
theorem c_X6_layProduct (l : Launch) (g : Gl) (x : Me) (t : Nat) (q : Nat) (r : Nat)  (ht : t < 9) (hF : FG x q) (hFr : FG x r) (htq : t ≠ q) (htr : t ≠ r) (hst : x (10 + t) 1 = x (10 + q) 1 * x (10 + r) 1) (hnm : x (10 + q) 1 * x (10 + r) 1 ≤ 9) (hz : ∀ p, 0 ≤ p → p < 81 → x (20 + t) p = 0) : ctQ l g yX6_layProduct cX6_layProduct 9 none 3 64 [.ref (gA g (10 + t)), .ref (gA g (10 + q)), .ref (gA g (10 + r))] x (QVu g (fun x' => nc x' t = prd (x (10 + q) 1) (x (10 + r) 1) (nc x q) (nc x r) ∧ ∀ a, a ≠ 20 + t → x' a = x a)) := by
  refine ct_start (own := RX6) (lv := [(0, .ref (gA g (10 + t))), (1, .ref (gA g (10 + q))), (2, .ref (gA g (10 + r)))]) (plainFor_of_name (by decide)) rfl (Nat.le_of_ble_eq_true rfl) rfl ?_
  intro Γ hΓ hO hr hQ _
  obtain ⟨hq, hs, hf⟩ := id hF
  have h9 := sq9 hs
  have hN := FG.r hF
  obtain ⟨hqr, hsr, hfr⟩ := id hFr
  have h9r := sq9 hsr
  have hNr := FG.r hFr
  have hnm1 : 1 ≤ x (10 + q) 1 * x (10 + r) 1 := by have := Int.mul_le_mul hs.1 hsr.1 (by omega) (by omega); omega
  have h9t := sq9 (n := x (10 + q) 1 * x (10 + r) 1) ⟨hnm1, hnm⟩
  refine z_aload_n (pc := 0) hO 2 dX6_layProduct_0 rfl rfl ?_
  refine z_callVIp (pc := 1) hO (As := []) (st := []) (c_X1_side (qL Γ) g x r (by first | assumption | omega)) k_X6_19 (isO_fig (by omega : r < 9)) rfl (Nat.le_of_ble_eq_true rfl) (by decide) (by decide) ⟨by decide, by decide⟩ dX6_layProduct_1 ?_
  refine z_istore_n (pc := 4) hO (lv' := [(3, .int (zi (x (10 + r) 1))), (0, .ref (gA g (10 + t))), (1, .ref (gA g (10 + q))), (2, .ref (gA g (10 + r)))]) dX6_layProduct_4 rfl (by decide) rfl ?_
  refine z_iconst (pc := 5) hO dX6_layProduct_5 ?_
  refine z_istore (pc := 6) hO (lv' := [(4, .int (zi 0)), (3, .int (zi (x (10 + r) 1))), (0, .ref (gA g (10 + t))), (1, .ref (gA g (10 + q))), (2, .ref (gA g (10 + r)))]) dX6_layProduct_6 (by decide) rfl ?_
  have L8 : ∀ (N : Nat) (i : Int) (y : Me), (x (10 + q) 1 * x (10 + r) 1 * (x (10 + q) 1 * x (10 + r) 1) - i).toNat < N → (0 ≤ i ∧ i ≤ x (10 + q) 1 * x (10 + r) 1 * (x (10 + q) 1 * x (10 + r) 1)) → (∀ p, i ≤ p → p < 81 → y (20 + t) p = 0) → (∀ p, 0 ≤ p → p < i → y (20 + t) p = prd (x (10 + q) 1) (x (10 + r) 1) (nc x q) (nc x r) p) → (∀ a, a ≠ 20 + t → y a = x a) → Zz Γ g 9 0 0 y 8 [(0, .ref (gA g (10 + t))), (1, .ref (gA g (10 + q))), (2, .ref (gA g (10 + r))), (3, .int (zi (x (10 + r) 1))), (4, .int (zi i))] [] := by
    intro N
    induction N with
    | zero => intro i y hm; exact absurd hm (Nat.not_lt_zero _)
    | succ N ih8 =>
      intro i y hm h0 k3 k4 k5
      have hyq : y (10 + q) 1 = x (10 + q) 1 := by rw [k5 (10 + q) (by omega)]
      have hyr : y (10 + r) 1 = x (10 + r) 1 := by rw [k5 (10 + r) (by omega)]
      have hyt : y (10 + t) 1 = x (10 + q) 1 * x (10 + r) 1 := by rw [k5 (10 + t) (by omega), hst]
      have hytt : y (10 + t) 1 * y (10 + t) 1 = x (10 + q) 1 * x (10 + r) 1 * (x (10 + q) 1 * x (10 + r) 1) := by rw [hyt]
      have hc1 : nc y q = nc x q := nc_of (k5 (20 + q) (by omega))
      have hc2 : nc y r = nc x r := nc_of (k5 (20 + r) (by omega))
      refine z_iload (pc := 8) hO 4 dX6_layProduct_8 rfl ?_
      refine z_aload_n (pc := 10) hO 0 dX6_layProduct_10 rfl rfl ?_
      refine z_callVIp (pc := 11) hO (As := []) (st := [.int (zi i)]) (c_X1_size (qL Γ) g y t (by first | assumption | omega)) k_X6_9 (isO_fig (by omega : t < 9)) rfl (Nat.le_of_ble_eq_true rfl) (by decide) (by decide) ⟨by decide, by decide⟩ dX6_layProduct_11 ?_
      refine z_icmp_ge (pc := 14) hO (tgt := 104) dX6_layProduct_14 (by decide) (by omega) (by omega) (fun b1 => ?_) (fun b1 => ?_)
      · exact z_vret (pc := 104) hO hr hQ dX6_layProduct_104 (by first | (refine ⟨nc_eq (fun p a0 a1 => ?_) (fun p a0 => ?_), k5⟩; (by_cases hp : p < i; (exact k4 p a0 hp); (unfold prd; rw [if_neg (by omega)]; exact k3 p (by omega) a1)); (unfold prd; rw [if_neg (by omega)]); done) | (exfalso; omega))
      · have hrc := rc9 (n := y (10 + t) 1) (p := i) (by omega) (by omega)
        have hpb := prd_b (n := y (10 + q) 1) (m := x (10 + r) 1) (r := i / y (10 + t) 1) (c := i % y (10 + t) 1) (by omega) (by omega) (by rw [hyq, ← hyt]; omega) (by rw [hyq, ← hyt]; omega)
        have he : y (10 + r) 1 * (i / y (10 + t) 1 % x (10 + r) 1) = x (10 + r) 1 * (i / y (10 + t) 1 % x (10 + r) 1) := by rw [hyr]
        have hq9 : y (10 + q) 1 * y (10 + q) 1 ≤ 81 := by rw [hyq]; omega
        have hr9 : y (10 + r) 1 * y (10 + r) 1 ≤ 81 := by rw [hyr]; omega
        refine z_aload_n (pc := 17) hO 0 dX6_layProduct_17 rfl rfl ?_
        refine z_callVIp (pc := 18) hO (As := []) (st := []) (c_X1_side (qL Γ) g y t (by first | assumption | omega)) k_X6_19 (isO_fig (by omega : t < 9)) rfl (Nat.le_of_ble_eq_true rfl) (by decide) (by decide) ⟨by decide, by decide⟩ dX6_layProduct_18 ?_
        refine z_iload (pc := 21) hO 4 dX6_layProduct_21 rfl ?_
        refine z_callSIp (pc := 23) hO (As := [.int (zi (y (10 + t) 1)), .int (zi i)]) (st := []) (c_X7_rowOf (qL Γ) g y (y (10 + t) 1) i (by first | assumption | omega) (by first | assumption | omega)) k_X6_39 rfl (Nat.le_of_ble_eq_true rfl) (by decide) (by decide) ⟨by decide, by decide⟩ dX6_layProduct_23 ?_
        refine z_istore (pc := 26) hO (lv' := [(5, .int (zi (i / (y (10 + t) 1)))), (0, .ref (gA g (10 + t))), (1, .ref (gA g (10 + q))), (2, .ref (gA g (10 + r))), (3, .int (zi (x (10 + r) 1))), (4, .int (zi i))]) dX6_layProduct_26 (by decide) rfl ?_
        refine z_aload_n (pc := 28) hO 1 dX6_layProduct_28 rfl rfl ?_
        refine z_callVIp (pc := 29) hO (As := []) (st := []) (c_X1_side (qL Γ) g y t (by first | assumption | omega)) k_X6_19 (isO_fig (by omega : t < 9)) rfl (Nat.le_of_ble_eq_true rfl) (by decide) (by decide) ⟨by decide, by decide⟩ dX6_layProduct_29 ?_
        refine z_iload (pc := 32) hO 5 dX6_layProduct_32 rfl ?_
        refine z_callSIp (pc := 34) hO (As := [.int (zi (y (10 + t) 1)), .int (zi i)]) (st := []) (c_X7_columnOf (qL Γ) g y (y (10 + t) 1) i (by first | assumption | omega) (by first | assumption | omega)) k_X6_44 rfl (Nat.le_of_ble_eq_true rfl) (by decide) (by decide) ⟨by decide, by decide⟩ dX6_layProduct_34 ?_
        refine z_istore (pc := 37) hO (lv' := [(6, .int (zi (i % (y (10 + t) 1)))), (5, .int (zi (i / (y (10 + t) 1)))), (0, .ref (gA g (10 + t))), (1, .ref (gA g (10 + q))), (2, .ref (gA g (10 + r))), (3, .int (zi (x (10 + r) 1))), (4, .int (zi i))]) dX6_layProduct_37 (by decide) rfl ?_
        refine z_aload_n (pc := 39) hO 3 dX6_layProduct_39 rfl rfl ?_
        refine z_aload_n (pc := 40) hO 3 dX6_layProduct_40 rfl rfl ?_
        refine z_iload_n (pc := 41) hO 5 dX6_layProduct_41 rfl rfl ?_
        refine z_iload (pc := 42) hO 1 dX6_layProduct_42 rfl ?_
        refine z_callSIp (pc := 44) hO (As := [.int (zi (x (10 + r) 1)), .int (zi (i / (y (10 + t) 1)))]) (st := [.ref (gA g (10 + q)), .ref (gA g (10 + q))]) (c_X7_rowOf (qL Γ) g y (x (10 + r) 1) (i / (y (10 + t) 1)) (by first | assumption | omega) (by first | assumption | omega)) k_X6_39 rfl (Nat.le_of_ble_eq_true rfl) (by decide) (by decide) ⟨by decide, by decide⟩ dX6_layProduct_44 ?_
        refine z_iload_n (pc := 47) hO 5 dX6_layProduct_47 rfl rfl ?_
        refine z_iload (pc := 48) hO 0 dX6_layProduct_48 rfl ?_
        refine z_callSIp (pc := 50) hO (As := [.int (zi (x (10 + r) 1)), .int (zi (i % (y (10 + t) 1)))]) (st := [.int (zi ((i / (y (10 + t) 1)) / (x (10 + r) 1))), .ref (gA g (10 + q)), .ref (gA g (10 + q))]) (c_X7_rowOf (qL Γ) g y (x (10 + r) 1) (i % (y (10 + t) 1)) (by first | assumption | omega) (by first | assumption | omega)) k_X6_39 rfl (Nat.le_of_ble_eq_true rfl) (by decide) (by decide) ⟨by decide, by decide⟩ dX6_layProduct_50 ?_
        refine z_callVIp (pc := 53) hO (As := [.int (zi ((i / (y (10 + t) 1)) / (x (10 + r) 1))), .int (zi ((i % (y (10 + t) 1)) / (x (10 + r) 1)))]) (st := [.ref (gA g (10 + q))]) (c_X1_placeOf (qL Γ) g y q ((i / (y (10 + t) 1)) / (x (10 + r) 1)) ((i % (y (10 + t) 1)) / (x (10 + r) 1)) (by first | assumption | omega)) k_X6_47 (isO_fig (by omega : q < 9)) rfl (Nat.le_of_ble_eq_true rfl) (by decide) (by decide) ⟨by decide, by decide⟩ dX6_layProduct_53 ?_
        refine z_callVIp (pc := 56) hO (As := [.int (zi (y (10 + q) 1 * ((i / (y (10 + t) 1)) / (x (10 + r) 1)) + ((i % (y (10 + t) 1)) / (x (10 + r) 1))))]) (st := []) (c_X1_read (qL Γ) g y q (y (10 + q) 1 * ((i / (y (10 + t) 1)) / (x (10 + r) 1)) + ((i % (y (10 + t) 1)) / (x (10 + r) 1))) (by first | assumption | omega) (by first | assumption | omega)) k_X6_15 (isO_fig (by omega : q < 9)) rfl (Nat.le_of_ble_eq_true rfl) (by decide) (by decide) ⟨by decide, by decide⟩ dX6_layProduct_56 ?_
        refine z_istore (pc := 59) hO (lv' := [(7, .int (zi (nc y q (y (10 + q) 1 * ((i / (y (10 + t) 1)) / (x (10 + r) 1)) + ((i % (y (10 + t) 1)) / (x (10 + r) 1)))))), (6, .int (zi (i % (y (10 + t) 1)))), (5, .int (zi (i / (y (10 + t) 1)))), (0, .ref (gA g (10 + t))), (1, .ref (gA g (10 + q))), (2, .ref (gA g (10 + r))), (3, .int (zi (x (10 + r) 1))), (4, .int (zi i))]) dX6_layProduct_59 (by decide) rfl ?_
        refine z_aload_n (pc := 61) hO 5 dX6_layProduct_61 rfl rfl ?_
        refine z_aload_n (pc := 62) hO 5 dX6_layProduct_62 rfl rfl ?_
        refine z_iload (pc := 63) hO 2 dX6_layProduct_63 rfl ?_
        refine z_iload_n (pc := 65) hO 6 dX6_layProduct_65 rfl rfl ?_
        refine z_callSIp (pc := 66) hO (As := [.int (zi (i / (y (10 + t) 1))), .int (zi (x (10 + r) 1))]) (st := [.ref (gA g (10 + r)), .ref (gA g (10 + r))]) (c_X7_wrap (qL Γ) g y (i / (y (10 + t) 1)) (x (10 + r) 1) (by first | assumption | omega) (by first | assumption | omega)) k_X6_50 rfl (Nat.le_of_ble_eq_true rfl) (by decide) (by decide) ⟨by decide, by decide⟩ dX6_layProduct_66 ?_
        refine z_iload (pc := 69) hO 1 dX6_layProduct_69 rfl ?_
        refine z_iload_n (pc := 71) hO 6 dX6_layProduct_71 rfl rfl ?_
        refine z_callSIp (pc := 72) hO (As := [.int (zi (i % (y (10 + t) 1))), .int (zi (x (10 + r) 1))]) (st := [.int (zi ((i / (y (10 + t) 1)) % (x (10 + r) 1))), .ref (gA g (10 + r)), .ref (gA g (10 + r))]) (c_X7_wrap (qL Γ) g y (i % (y (10 + t) 1)) (x (10 + r) 1) (by first | assumption | omega) (by first | assumption | omega)) k_X6_50 rfl (Nat.le_of_ble_eq_true rfl) (by decide) (by decide) ⟨by decide, by decide⟩ dX6_layProduct_72 ?_
        refine z_callVIp (pc := 75) hO (As := [.int (zi ((i / (y (10 + t) 1)) % (x (10 + r) 1))), .int (zi ((i % (y (10 + t) 1)) % (x (10 + r) 1)))]) (st := [.ref (gA g (10 + r))]) (c_X1_placeOf (qL Γ) g y r ((i / (y (10 + t) 1)) % (x (10 + r) 1)) ((i % (y (10 + t) 1)) % (x (10 + r) 1)) (by first | assumption | omega)) k_X6_47 (isO_fig (by omega : r < 9)) rfl (Nat.le_of_ble_eq_true rfl) (by decide) (by decide) ⟨by decide, by decide⟩ dX6_layProduct_75 ?_
        refine z_callVIp (pc := 78) hO (As := [.int (zi (y (10 + r) 1 * ((i / (y (10 + t) 1)) % (x (10 + r) 1)) + ((i % (y (10 + t) 1)) % (x (10 + r) 1))))]) (st := []) (c_X1_read (qL Γ) g y r (y (10 + r) 1 * ((i / (y (10 + t) 1)) % (x (10 + r) 1)) + ((i % (y (10 + t) 1)) % (x (10 + r) 1))) (by first | assumption | omega) (by first | assumption | omega)) k_X6_15 (isO_fig (by omega : r < 9)) rfl (Nat.le_of_ble_eq_true rfl) (by decide) (by decide) ⟨by decide, by decide⟩ dX6_layProduct_78 ?_
        refine z_istore (pc := 81) hO (lv' := [(8, .int (zi (nc y r (y (10 + r) 1 * ((i / (y (10 + t) 1)) % (x (10 + r) 1)) + ((i % (y (10 + t) 1)) % (x (10 + r) 1)))))), (7, .int (zi (nc y q (y (10 + q) 1 * ((i / (y (10 + t) 1)) / (x (10 + r) 1)) + ((i % (y (10 + t) 1)) / (x (10 + r) 1)))))), (6, .int (zi (i % (y (10 + t) 1)))), (5, .int (zi (i / (y (10 + t) 1)))), (0, .ref (gA g (10 + t))), (1, .ref (gA g (10 + q))), (2, .ref (gA g (10 + r))), (3, .int (zi (x (10 + r) 1))), (4, .int (zi i))]) dX6_layProduct_81 (by decide) rfl ?_
        refine z_aload_n (pc := 83) hO 4 dX6_layProduct_83 rfl rfl ?_
        refine z_iload (pc := 84) hO 8 dX6_layProduct_84 rfl ?_
        refine z_aload_n (pc := 86) hO 6 dX6_layProduct_86 rfl rfl ?_
        refine z_iload (pc := 87) hO 1 dX6_layProduct_87 rfl ?_
        refine z_iload (pc := 89) hO 0 dX6_layProduct_89 rfl ?_
        refine z_callSIp (pc := 91) hO (As := [.ref (gA g (10 + r)), .int (zi (nc y q (y (10 + q) 1 * ((i / (y (10 + t) 1)) / (x (10 + r) 1)) + ((i % (y (10 + t) 1)) / (x (10 + r) 1))))), .int (zi (nc y r (y (10 + r) 1 * ((i / (y (10 + t) 1)) % (x (10 + r) 1)) + ((i % (y (10 + t) 1)) % (x (10 + r) 1)))))]) (st := [.int (zi i), .ref (gA g (10 + t))]) (c_X6_multiplied (qL Γ) g y r (nc y q (y (10 + q) 1 * ((i / (y (10 + t) 1)) / (x (10 + r) 1)) + ((i % (y (10 + t) 1)) / (x (10 + r) 1)))) (nc y r (y (10 + r) 1 * ((i / (y (10 + t) 1)) % (x (10 + r) 1)) + ((i % (y (10 + t) 1)) % (x (10 + r) 1)))) (by first | assumption | omega)) k_X6_35 rfl (Nat.le_of_ble_eq_true rfl) (by decide) (by decide) ⟨by decide, by decide⟩ dX6_layProduct_91 ?_
        refine z_callVIm (pc := 94) hO (As := [.int (zi i), .int (zi (y (10 + r) 1 * y (10 + r) 1 * ((nc y q (y (10 + q) 1 * ((i / (y (10 + t) 1)) / (x (10 + r) 1)) + ((i % (y (10 + t) 1)) / (x (10 + r) 1)))) - 1) + (nc y r (y (10 + r) 1 * ((i / (y (10 + t) 1)) % (x (10 + r) 1)) + ((i % (y (10 + t) 1)) % (x (10 + r) 1))))))]) (st := []) (c_X1_write (qL Γ) g y t i (y (10 + r) 1 * y (10 + r) 1 * ((nc y q (y (10 + q) 1 * ((i / (y (10 + t) 1)) / (x (10 + r) 1)) + ((i % (y (10 + t) 1)) / (x (10 + r) 1)))) - 1) + (nc y r (y (10 + r) 1 * ((i / (y (10 + t) 1)) % (x (10 + r) 1)) + ((i % (y (10 + t) 1)) % (x (10 + r) 1))))) (by first | assumption | omega) (by first | assumption | omega)) k_X6_31 (isO_fig (by omega : t < 9)) rfl (Nat.le_of_ble_eq_true rfl) (by decide) (by decide) ⟨by decide, by decide⟩ dX6_layProduct_94 (fun m2 e3 => ?_)
        refine z_pop (pc := 97) hO dX6_layProduct_97 rfl ?_
        refine z_iinc (pc := 98) hO 8 (lv' := [(4, .int (zi (i + 1))), (8, .int (zi (nc y r (y (10 + r) 1 * ((i / (y (10 + t) 1)) % (x (10 + r) 1)) + ((i % (y (10 + t) 1)) % (x (10 + r) 1)))))), (7, .int (zi (nc y q (y (10 + q) 1 * ((i / (y (10 + t) 1)) / (x (10 + r) 1)) + ((i % (y (10 + t) 1)) / (x (10 + r) 1)))))), (6, .int (zi (i % (y (10 + t) 1)))), (5, .int (zi (i / (y (10 + t) 1)))), (0, .ref (gA g (10 + t))), (1, .ref (gA g (10 + q))), (2, .ref (gA g (10 + r))), (3, .int (zi (x (10 + r) 1)))]) dX6_layProduct_98 rfl (by decide) rfl ?_
        refine z_goto (pc := 101) hO (tgt := 8) dX6_layProduct_101 (by decide) ?_
        refine z_sub [5, 6, 7, 8, 0] rfl ?_
        exact ih8 (i + 1) m2 (by omega) (by omega) (by intro p a0 a1; subst m2; rw [up_n _ _ (by omega)]; exact k3 p (by omega) a1) (by intro p a0 a1; subst m2; by_cases hp : p = i; (subst hp; rw [up_s]; unfold prd; rw [if_pos (by omega), hyr, hyq, hyt, hc1, hc2]); (rw [up_n _ _ (by omega)]; exact k4 p a0 (by omega))) (by intro a a1; subst m2; rw [up_i _ _ _ a1]; exact k5 a a1)
  refine z_sub [2, 3, 4, 1, 0] rfl ?_
  exact L8 _ 0 x (Nat.lt_succ_self _) (by omega) (by intro p _ _; exact hz p (by omega) (by omega)) (by intro p _ _; omega) (by intro a _; rfl)

