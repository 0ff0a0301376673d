set_option maxHeartbeats 4000000 in
theorem c_X12_doesHold (l : Launch) (g : Gl) (x : Me) (mk : Int) (n : Int)  (hm : 0 ≤ mk ∧ mk ≤ 3) (hn : 1 ≤ n ∧ n ≤ 9) : ctQ l g yX12_doesHold cX12_doesHold 2 (some .boolean) 1 20 [.int (zi mk), .int (zi n)] x (QIu g (fun z x' => ((z = 1 ∧ (hld mk n)) ∨ (z = 0 ∧ ¬ (hld mk n))) ∧ x' = x)) := by
  refine ct_start (own := RX12) (lv := [(0, .int (zi mk)), (1, .int (zi n))]) (plainFor_of_name (by decide)) rfl (Nat.le_of_ble_eq_true rfl) rfl ?_
  intro Γ hΓ hO hr hQ _
  refine z_iload_n (pc := 0) hO 0 dX12_doesHold_0 rfl rfl ?_
  have w1 : mk = 0 ∨ mk = 1 ∨ mk = 2 ∨ (mk ≠ 0 ∧ mk ≠ 1 ∧ mk ≠ 2) := by omega
  rcases w1 with w1 | w1 | w1 | w1
  · refine z_tabIn (pc := 1) hO (tgt := 28) dX12_doesHold_1 (by omega) (by omega) (by omega) (by first | (rw [w1]; done) | (rw [w1]; rfl)) (by decide) ?_
    refine z_iload_n (pc := 28) hO 1 dX12_doesHold_28 rfl rfl ?_
    refine z_iconst (pc := 29) hO dX12_doesHold_29 ?_
    refine z_irem (pc := 30) hO dX12_doesHold_30 (by omega) (by omega) ?_
    refine z_iconst (pc := 31) hO dX12_doesHold_31 ?_
    refine z_icmp_ne (pc := 32) hO (tgt := 39) dX12_doesHold_32 (by decide) (by omega) (by omega) (fun b2 => ?_) (fun b2 => ?_)
    · refine z_iconst (pc := 39) hO dX12_doesHold_39 ?_
      exact z_iret (pc := 40) hO hr hQ rfl dX12_doesHold_40 ⟨Or.inr ⟨rfl, by first | (unfold hld; omega; done) | (exfalso; omega)⟩, rfl⟩
    · refine z_iconst (pc := 35) hO dX12_doesHold_35 ?_
      refine z_goto (pc := 36) hO (tgt := 40) dX12_doesHold_36 (by decide) ?_
      exact z_iret (pc := 40) hO hr hQ rfl dX12_doesHold_40 ⟨Or.inl ⟨rfl, by first | (unfold hld; omega; done) | (exfalso; omega)⟩, rfl⟩
  · refine z_tabIn (pc := 1) hO (tgt := 41) dX12_doesHold_1 (by omega) (by omega) (by omega) (by first | (rw [w1]; done) | (rw [w1]; rfl)) (by decide) ?_
    refine z_iload_n (pc := 41) hO 1 dX12_doesHold_41 rfl rfl ?_
    refine z_iconst (pc := 42) hO dX12_doesHold_42 ?_
    refine z_icmp_eq (pc := 43) hO (tgt := 52) dX12_doesHold_43 (by decide) (by omega) (by omega) (fun b3 => ?_) (fun b3 => ?_)
    · refine z_iconst (pc := 52) hO dX12_doesHold_52 ?_
      refine z_goto (pc := 53) hO (tgt := 57) dX12_doesHold_53 (by decide) ?_
      exact z_iret (pc := 57) hO hr hQ rfl dX12_doesHold_57 ⟨Or.inl ⟨rfl, by first | (unfold hld; omega; done) | (exfalso; omega)⟩, rfl⟩
    · refine z_iload_n (pc := 46) hO 1 dX12_doesHold_46 rfl rfl ?_
      refine z_bipush (pc := 47) hO dX12_doesHold_47 (by decide) ?_
      refine z_icmp_ne (pc := 49) hO (tgt := 56) dX12_doesHold_49 (by decide) (by omega) (by omega) (fun b4 => ?_) (fun b4 => ?_)
      · refine z_iconst (pc := 56) hO dX12_doesHold_56 ?_
        exact z_iret (pc := 57) hO hr hQ rfl dX12_doesHold_57 ⟨Or.inr ⟨rfl, by first | (unfold hld; omega; done) | (exfalso; omega)⟩, rfl⟩
      · refine z_iconst (pc := 52) hO dX12_doesHold_52 ?_
        refine z_goto (pc := 53) hO (tgt := 57) dX12_doesHold_53 (by decide) ?_
        exact z_iret (pc := 57) hO hr hQ rfl dX12_doesHold_57 ⟨Or.inl ⟨rfl, by first | (unfold hld; omega; done) | (exfalso; omega)⟩, rfl⟩
  · refine z_tabIn (pc := 1) hO (tgt := 58) dX12_doesHold_1 (by omega) (by omega) (by omega) (by first | (rw [w1]; done) | (rw [w1]; rfl)) (by decide) ?_
    refine z_iload_n (pc := 58) hO 1 dX12_doesHold_58 rfl rfl ?_
    refine z_iconst (pc := 59) hO dX12_doesHold_59 ?_
    refine z_irem (pc := 60) hO dX12_doesHold_60 (by omega) (by omega) ?_
    refine z_iconst (pc := 61) hO dX12_doesHold_61 ?_
    refine z_icmp_ne (pc := 62) hO (tgt := 75) dX12_doesHold_62 (by decide) (by omega) (by omega) (fun b5 => ?_) (fun b5 => ?_)
    · refine z_iconst (pc := 75) hO dX12_doesHold_75 ?_
      exact z_iret (pc := 76) hO hr hQ rfl dX12_doesHold_76 ⟨Or.inr ⟨rfl, by first | (unfold hld; omega; done) | (exfalso; omega)⟩, rfl⟩
    · refine z_iload_n (pc := 65) hO 1 dX12_doesHold_65 rfl rfl ?_
      refine z_iconst (pc := 66) hO dX12_doesHold_66 ?_
      refine z_irem (pc := 67) hO dX12_doesHold_67 (by omega) (by omega) ?_
      refine z_if_eq (pc := 68) hO (tgt := 75) dX12_doesHold_68 (by decide) (by omega) (fun b6 => ?_) (fun b6 => ?_)
      · refine z_iconst (pc := 75) hO dX12_doesHold_75 ?_
        exact z_iret (pc := 76) hO hr hQ rfl dX12_doesHold_76 ⟨Or.inr ⟨rfl, by first | (unfold hld; omega; done) | (exfalso; omega)⟩, rfl⟩
      · refine z_iconst (pc := 71) hO dX12_doesHold_71 ?_
        refine z_goto (pc := 72) hO (tgt := 76) dX12_doesHold_72 (by decide) ?_
        exact z_iret (pc := 76) hO hr hQ rfl dX12_doesHold_76 ⟨Or.inl ⟨rfl, by first | (unfold hld; omega; done) | (exfalso; omega)⟩, rfl⟩
  · refine z_tabOut (pc := 1) hO (tgt := 77) dX12_doesHold_1 (by omega) (by omega) (by decide) ?_
    refine z_iload_n (pc := 77) hO 1 dX12_doesHold_77 rfl rfl ?_
    refine z_bipush (pc := 78) hO dX12_doesHold_78 (by decide) ?_
    refine z_icmp_ne (pc := 80) hO (tgt := 87) dX12_doesHold_80 (by decide) (by omega) (by omega) (fun b7 => ?_) (fun b7 => ?_)
    · refine z_iconst (pc := 87) hO dX12_doesHold_87 ?_
      exact z_iret (pc := 88) hO hr hQ rfl dX12_doesHold_88 ⟨Or.inr ⟨rfl, by first | (unfold hld; omega; done) | (exfalso; omega)⟩, rfl⟩
    · refine z_iconst (pc := 83) hO dX12_doesHold_83 ?_
      refine z_goto (pc := 84) hO (tgt := 88) dX12_doesHold_84 (by decide) ?_
      exact z_iret (pc := 88) hO hr hQ rfl dX12_doesHold_88 ⟨Or.inl ⟨rfl, by first | (unfold hld; omega; done) | (exfalso; omega)⟩, rfl⟩

set_option maxHeartbeats 4000000 in
theorem c_X12_mostBy (l : Launch) (g : Gl) (x : Me) (q : Int) (ch : Int)  (hG : MG x q) (hc : 0 ≤ ch ∧ ch ≤ 5) : ctQ l g yX12_mostBy cX12_mostBy 3 (some .int) 1 20 [.ref (gA g 50), .int (zi q), .int (zi ch)] x (QIu g (fun z x' => z = (mby ch (x 51 q)) ∧ x' = x)) := by
  refine ct_start (own := RX12) (lv := [(0, .ref (gA g 50)), (1, .int (zi q)), (2, .int (zi ch))]) (plainFor_of_name (by decide)) rfl (Nat.le_of_ble_eq_true rfl) rfl ?_
  intro Γ hΓ hO hr hQ _
  obtain ⟨hq, hs, hf⟩ := id hG
  have hsq := sq9 hs
  have hmb := mby_r (ch := ch) hs
  refine z_iload_n (pc := 0) hO 2 dX12_mostBy_0 rfl rfl ?_
  refine z_if_ne (pc := 1) hO (tgt := 8) dX12_mostBy_1 (by decide) (by omega) (fun b1 => ?_) (fun b1 => ?_)
  · refine z_iload_n (pc := 8) hO 2 dX12_mostBy_8 rfl rfl ?_
    refine z_iconst (pc := 9) hO dX12_mostBy_9 ?_
    refine z_icmp_ne (pc := 10) hO (tgt := 17) dX12_mostBy_10 (by decide) (by omega) (by omega) (fun b2 => ?_) (fun b2 => ?_)
    · refine z_iload_n (pc := 17) hO 2 dX12_mostBy_17 rfl rfl ?_
      refine z_iconst (pc := 18) hO dX12_mostBy_18 ?_
      refine z_icmp_ne (pc := 19) hO (tgt := 28) dX12_mostBy_19 (by decide) (by omega) (by omega) (fun b3 => ?_) (fun b3 => ?_)
      · refine z_aload_n (pc := 28) hO 0 dX12_mostBy_28 rfl rfl ?_
        refine gf_X12_sideOf (pc := 29) hO f_X12_7 dX12_mostBy_29 ?_
        refine z_iload_n (pc := 32) hO 1 dX12_mostBy_32 rfl rfl ?_
        refine z_iald (pc := 33) hO isI_51 (by omega) dX12_mostBy_33 ?_
        refine z_iconst (pc := 34) hO dX12_mostBy_34 ?_
        refine z_isub (pc := 35) hO dX12_mostBy_35 ?_
        exact z_iret (pc := 36) hO hr hQ rfl dX12_mostBy_36 ⟨by first | (omega; done) | (exfalso; omega), rfl⟩
      · refine z_sipush (pc := 22) hO dX12_mostBy_22 (by decide) ?_
        refine z_goto (pc := 25) hO (tgt := 36) dX12_mostBy_25 (by decide) ?_
        exact z_iret (pc := 36) hO hr hQ rfl dX12_mostBy_36 ⟨by first | (omega; done) | (exfalso; omega), rfl⟩
    · refine z_iconst (pc := 13) hO dX12_mostBy_13 ?_
      refine z_goto (pc := 14) hO (tgt := 36) dX12_mostBy_14 (by decide) ?_
      exact z_iret (pc := 36) hO hr hQ rfl dX12_mostBy_36 ⟨by first | (omega; done) | (exfalso; omega), rfl⟩
  · refine z_iconst (pc := 4) hO dX12_mostBy_4 ?_
    refine z_goto (pc := 5) hO (tgt := 36) dX12_mostBy_5 (by decide) ?_
    exact z_iret (pc := 36) hO hr hQ rfl dX12_mostBy_36 ⟨by first | (omega; done) | (exfalso; omega), rfl⟩

set_option maxHeartbeats 4000000 in
theorem c_X12_canComplement (l : Launch) (g : Gl) (x : Me) (q : Int) (b : Int)  (hG : MG x q) (hb : 0 ≤ b ∧ b ≤ 1998) : ctQ l g yX12_canComplement cX12_canComplement 6 (some .boolean) 2 42 [.ref (gA g 50), .int (zi q), .int (zi b)] x (QIu g (fun z x' => ((z = 1 ∧ (∀ l, 0 ≤ l → l < (x 51 q * x 51 q) → nd x q l = 0 ∨ (1 ≤ b - nd x q l ∧ b - nd x q l ≤ 999))) ∨ (z = 0 ∧ ¬ (∀ l, 0 ≤ l → l < (x 51 q * x 51 q) → nd x q l = 0 ∨ (1 ≤ b - nd x q l ∧ b - nd x q l ≤ 999)))) ∧ x' = x)) := by
  refine ct_start (own := RX12) (lv := [(0, .ref (gA g 50)), (1, .int (zi q)), (2, .int (zi b))]) (plainFor_of_name (by decide)) rfl (Nat.le_of_ble_eq_true rfl) rfl ?_
  intro Γ hΓ hO hr hQ _
  obtain ⟨hq, hs, hf⟩ := id hG
  have hsq := sq9 hs
  have hN := nd_rng hG
  refine z_iconst (pc := 0) hO dX12_canComplement_0 ?_
  refine z_istore_n (pc := 1) hO (lv' := [(3, .int (zi 1)), (0, .ref (gA g 50)), (1, .int (zi q)), (2, .int (zi b))]) dX12_canComplement_1 rfl (by decide) rfl ?_
  refine z_iconst (pc := 2) hO dX12_canComplement_2 ?_
  refine z_istore (pc := 3) hO (lv' := [(4, .int (zi 0)), (3, .int (zi 1)), (0, .ref (gA g 50)), (1, .int (zi q)), (2, .int (zi b))]) dX12_canComplement_3 (by decide) rfl ?_
  have L5 : ∀ (N : Nat) (f : Int) (i : Int), ((x 51 q * x 51 q) - i).toNat < N → (0 ≤ i ∧ i ≤ (x 51 q * x 51 q)) → ((f = 1 ∧ ∀ l, 0 ≤ l → l < i → nd x q l = 0 ∨ (1 ≤ b - nd x q l ∧ b - nd x q l ≤ 999)) ∨ (f = 0 ∧ ¬ ∀ l, 0 ≤ l → l < (x 51 q * x 51 q) → nd x q l = 0 ∨ (1 ≤ b - nd x q l ∧ b - nd x q l ≤ 999))) → Zz Γ g 6 0 0 x 5 [(0, .ref (gA g 50)), (1, .int (zi q)), (2, .int (zi b)), (3, .int (zi f)), (4, .int (zi i))] [] := by
    intro N
    induction N with
    | zero => intro f i hm; exact absurd hm (Nat.not_lt_zero _)
    | succ N ih5 =>
      intro f i hm h0 hA
      have hbb : f = 0 ∨ f = 1 := by rcases hA with ⟨e, _⟩ | ⟨e, _⟩ <;> omega
      refine z_iload (pc := 5) hO 4 dX12_canComplement_5 rfl ?_
      refine z_aload_n (pc := 7) hO 0 dX12_canComplement_7 rfl rfl ?_
      refine z_iload_n (pc := 8) hO 1 dX12_canComplement_8 rfl rfl ?_
      refine z_callVIp (pc := 9) hO (As := [.int (zi q)]) (st := [.int (zi i)]) (c_X12_areaOf (qL Γ) g x q (by first | assumption | omega)) k_X12_100 isO_50 rfl (Nat.le_of_ble_eq_true rfl) (by decide) (by decide) ⟨by decide, by decide⟩ dX12_canComplement_9 ?_
      refine z_icmp_ge (pc := 12) hO (tgt := 64) dX12_canComplement_12 (by decide) (by omega) (by omega) (fun b1 => ?_) (fun b1 => ?_)
      · refine z_iload_n (pc := 64) hO 3 dX12_canComplement_64 rfl rfl ?_
        exact z_iret (pc := 65) hO hr hQ (zi_bool (by omega)).1 dX12_canComplement_65 (by first | (refine ⟨?_, rfl⟩; rcases hA with ⟨e, h⟩ | ⟨e, h⟩; exact Or.inl ⟨e, fun l a c => h l a (by omega)⟩; exact Or.inr ⟨e, h⟩; done) | (exfalso; omega))
      · have g1 : nd x q i = x 52 (81 * q + i) := nd_in (by omega)
        have n1 := hN i
        refine z_aload_n (pc := 15) hO 0 dX12_canComplement_15 rfl rfl ?_
        refine gf_X12_numbers (pc := 16) hO f_X12_13 dX12_canComplement_16 ?_
        refine z_bipush (pc := 19) hO dX12_canComplement_19 (by decide) ?_
        refine z_iload_n (pc := 21) hO 1 dX12_canComplement_21 rfl rfl ?_
        refine z_imul (pc := 22) hO dX12_canComplement_22 ?_
        refine z_iload (pc := 23) hO 4 dX12_canComplement_23 rfl ?_
        refine z_iadd (pc := 25) hO dX12_canComplement_25 ?_
        refine z_iald (pc := 26) hO isI_52 (by omega) dX12_canComplement_26 ?_
        refine z_istore (pc := 27) hO (lv' := [(5, .int (zi (x 52 ((81 * q) + i)))), (0, .ref (gA g 50)), (1, .int (zi q)), (2, .int (zi b)), (3, .int (zi f)), (4, .int (zi i))]) dX12_canComplement_27 (by decide) rfl ?_
        refine z_iload_n (pc := 29) hO 4 dX12_canComplement_29 rfl rfl ?_
        refine z_if_eq (pc := 30) hO (tgt := 56) dX12_canComplement_30 (by decide) (by omega) (fun b2 => ?_) (fun b2 => ?_)
        · refine z_iconst (pc := 56) hO dX12_canComplement_56 ?_
          refine z_istore_n (pc := 57) hO (lv' := [(3, .int (zi 0)), (5, .int (zi (x 52 ((81 * q) + i)))), (0, .ref (gA g 50)), (1, .int (zi q)), (2, .int (zi b)), (4, .int (zi i))]) dX12_canComplement_57 rfl (by decide) rfl ?_
          refine z_iinc (pc := 58) hO 5 (lv' := [(4, .int (zi (i + 1))), (3, .int (zi 0)), (5, .int (zi (x 52 ((81 * q) + i)))), (0, .ref (gA g 50)), (1, .int (zi q)), (2, .int (zi b))]) dX12_canComplement_58 rfl (by decide) rfl ?_
          refine z_goto (pc := 61) hO (tgt := 5) dX12_canComplement_61 (by decide) ?_
          refine z_sub [3, 4, 5, 1, 0] rfl ?_
          exact ih5 0 (i + 1) (by omega) (by omega) (by first | exact Or.inl ⟨rfl, fun l a c => dite (l = i) (fun e => by rw [e]; first | assumption | omega) (fun e => by rcases hA with ⟨_, h⟩ | ⟨h, _⟩; exact h l a (by omega); omega)⟩ | exact Or.inr ⟨rfl, fun h => by rcases hA with ⟨_, _⟩ | ⟨_, h2⟩; (first | (have := h i (by omega) (by omega); first | contradiction | omega) | omega); exact h2 h⟩)
        · refine z_iload (pc := 33) hO 0 dX12_canComplement_33 rfl ?_
          refine z_if_eq (pc := 35) hO (tgt := 52) dX12_canComplement_35 (by decide) (by omega) (fun b3 => ?_) (fun b3 => ?_)
          · refine z_iconst (pc := 52) hO dX12_canComplement_52 ?_
            refine z_goto (pc := 53) hO (tgt := 57) dX12_canComplement_53 (by decide) ?_
            refine z_istore_n (pc := 57) hO (lv' := [(3, .int (zi 1)), (5, .int (zi (x 52 ((81 * q) + i)))), (0, .ref (gA g 50)), (1, .int (zi q)), (2, .int (zi b)), (4, .int (zi i))]) dX12_canComplement_57 rfl (by decide) rfl ?_
            refine z_iinc (pc := 58) hO 5 (lv' := [(4, .int (zi (i + 1))), (3, .int (zi 1)), (5, .int (zi (x 52 ((81 * q) + i)))), (0, .ref (gA g 50)), (1, .int (zi q)), (2, .int (zi b))]) dX12_canComplement_58 rfl (by decide) rfl ?_
            refine z_goto (pc := 61) hO (tgt := 5) dX12_canComplement_61 (by decide) ?_
            refine z_sub [3, 4, 5, 1, 0] rfl ?_
            exact ih5 1 (i + 1) (by omega) (by omega) (by first | exact Or.inl ⟨rfl, fun l a c => dite (l = i) (fun e => by rw [e]; first | assumption | omega) (fun e => by rcases hA with ⟨_, h⟩ | ⟨h, _⟩; exact h l a (by omega); omega)⟩ | exact Or.inr ⟨rfl, fun h => by rcases hA with ⟨_, _⟩ | ⟨_, h2⟩; (first | (have := h i (by omega) (by omega); first | contradiction | omega) | omega); exact h2 h⟩)
          · refine z_iload_n (pc := 38) hO 3 dX12_canComplement_38 rfl rfl ?_
            refine z_iload (pc := 39) hO 0 dX12_canComplement_39 rfl ?_
            refine z_isub (pc := 41) hO dX12_canComplement_41 ?_
            refine z_iconst (pc := 42) hO dX12_canComplement_42 ?_
            refine z_sipush (pc := 43) hO dX12_canComplement_43 (by decide) ?_
            refine z_callSB (pc := 46) hO (As := [.int (zi (b - (x 52 ((81 * q) + i)))), .int (zi 1), .int (zi 999)]) (st := []) (c_X12_in (qL Γ) g x (b - (x 52 ((81 * q) + i))) 1 999 (by first | assumption | omega) (by first | assumption | omega) (by first | assumption | omega)) k_X12_55 rfl (Nat.le_of_ble_eq_true rfl) (by decide) (by decide) ⟨by decide, by decide⟩ dX12_canComplement_46 (fun pb4 => ?_) (fun pb4 => ?_)
            · skip
              refine z_if_eq (pc := 49) hO (tgt := 56) dX12_canComplement_49 (by decide) (by decide) (fun h => absurd h (by decide)) (fun _ => ?_)
              refine z_iconst (pc := 52) hO dX12_canComplement_52 ?_
              refine z_goto (pc := 53) hO (tgt := 57) dX12_canComplement_53 (by decide) ?_
              refine z_istore_n (pc := 57) hO (lv' := [(3, .int (zi 1)), (5, .int (zi (x 52 ((81 * q) + i)))), (0, .ref (gA g 50)), (1, .int (zi q)), (2, .int (zi b)), (4, .int (zi i))]) dX12_canComplement_57 rfl (by decide) rfl ?_
              refine z_iinc (pc := 58) hO 5 (lv' := [(4, .int (zi (i + 1))), (3, .int (zi 1)), (5, .int (zi (x 52 ((81 * q) + i)))), (0, .ref (gA g 50)), (1, .int (zi q)), (2, .int (zi b))]) dX12_canComplement_58 rfl (by decide) rfl ?_
              refine z_goto (pc := 61) hO (tgt := 5) dX12_canComplement_61 (by decide) ?_
              refine z_sub [3, 4, 5, 1, 0] rfl ?_
              exact ih5 1 (i + 1) (by omega) (by omega) (by first | exact Or.inl ⟨rfl, fun l a c => dite (l = i) (fun e => by rw [e]; first | assumption | omega) (fun e => by rcases hA with ⟨_, h⟩ | ⟨h, _⟩; exact h l a (by omega); omega)⟩ | exact Or.inr ⟨rfl, fun h => by rcases hA with ⟨_, _⟩ | ⟨_, h2⟩; (first | (have := h i (by omega) (by omega); first | contradiction | omega) | omega); exact h2 h⟩)
            · skip
              refine z_if_eq (pc := 49) hO (tgt := 56) dX12_canComplement_49 (by decide) (by decide) (fun _ => ?_) (fun h => absurd h (by decide))
              refine z_iconst (pc := 56) hO dX12_canComplement_56 ?_
              refine z_istore_n (pc := 57) hO (lv' := [(3, .int (zi 0)), (5, .int (zi (x 52 ((81 * q) + i)))), (0, .ref (gA g 50)), (1, .int (zi q)), (2, .int (zi b)), (4, .int (zi i))]) dX12_canComplement_57 rfl (by decide) rfl ?_
              refine z_iinc (pc := 58) hO 5 (lv' := [(4, .int (zi (i + 1))), (3, .int (zi 0)), (5, .int (zi (x 52 ((81 * q) + i)))), (0, .ref (gA g 50)), (1, .int (zi q)), (2, .int (zi b))]) dX12_canComplement_58 rfl (by decide) rfl ?_
              refine z_goto (pc := 61) hO (tgt := 5) dX12_canComplement_61 (by decide) ?_
              refine z_sub [3, 4, 5, 1, 0] rfl ?_
              exact ih5 0 (i + 1) (by omega) (by omega) (by first | exact Or.inl ⟨rfl, fun l a c => dite (l = i) (fun e => by rw [e]; first | assumption | omega) (fun e => by rcases hA with ⟨_, h⟩ | ⟨h, _⟩; exact h l a (by omega); omega)⟩ | exact Or.inr ⟨rfl, fun h => by rcases hA with ⟨_, _⟩ | ⟨_, h2⟩; (first | (have := h i (by omega) (by omega); first | contradiction | omega) | omega); exact h2 h⟩)
  refine z_sub [2, 3, 4, 1, 0] rfl ?_
  exact L5 _ 1 0 (Nat.lt_succ_self _) (by omega) (by exact Or.inl ⟨rfl, fun l a c => by omega⟩)

