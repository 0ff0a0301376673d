set_option maxHeartbeats 4000000 in
theorem c_X12_isNormal (l : Launch) (g : Gl) (x : Me) (q : Int)  (hG : MG x q) : ctQ l g yX12_isNormal cX12_isNormal 6 (some .boolean) 2 41 [.ref (gA g 50), .int (zi q)] x (QIu g (fun z x' => ((z = 1 ∧ (nrm (x 51 q) (nd x q))) ∨ (z = 0 ∧ ¬ (nrm (x 51 q) (nd x q)))) ∧ x' = x)) := by
  refine ct_start (own := RX12) (lv := [(0, .ref (gA g 50)), (1, .int (zi q))]) (plainFor_of_name (by decide)) rfl (Nat.le_of_ble_eq_true rfl) rfl ?_
  intro Γ hΓ hO hr hQ _
  obtain ⟨hq, hs, hf⟩ := id hG
  have hsq := sq9 hs
  have hN := nd_rng hG
  refine z_iconst (pc := 0) hO dX12_isNormal_0 ?_
  refine z_istore_n (pc := 1) hO (lv' := [(2, .int (zi 1)), (0, .ref (gA g 50)), (1, .int (zi q))]) dX12_isNormal_1 rfl (by decide) rfl ?_
  refine z_iconst (pc := 2) hO dX12_isNormal_2 ?_
  refine z_istore_n (pc := 3) hO (lv' := [(3, .int (zi 1)), (2, .int (zi 1)), (0, .ref (gA g 50)), (1, .int (zi q))]) dX12_isNormal_3 rfl (by decide) rfl ?_
  have L4 : ∀ (N : Nat) (b : Int) (v : Int), ((x 51 q * x 51 q) + 1 - v).toNat < N → (1 ≤ v ∧ v ≤ (x 51 q * x 51 q) + 1) → ((b = 1 ∧ ∀ l, 1 ≤ l → l < v → cnt (x 51 q) (nd x q) l = 1) ∨ (b = 0 ∧ ¬ nrm (x 51 q) (nd x q))) → Zz Γ g 6 0 0 x 4 [(0, .ref (gA g 50)), (1, .int (zi q)), (2, .int (zi b)), (3, .int (zi v))] [] := by
    intro N
    induction N with
    | zero => intro b v hm; exact absurd hm (Nat.not_lt_zero _)
    | succ N ih4 =>
      intro b v hm h0 hA
      have hbb : b = 0 ∨ b = 1 := by rcases hA with ⟨e, _⟩ | ⟨e, _⟩ <;> omega
      refine z_iload_n (pc := 4) hO 3 dX12_isNormal_4 rfl rfl ?_
      refine z_aload_n (pc := 5) hO 0 dX12_isNormal_5 rfl rfl ?_
      refine z_iload_n (pc := 6) hO 1 dX12_isNormal_6 rfl rfl ?_
      refine z_callVIp (pc := 7) hO (As := [.int (zi q)]) (st := [.int (zi v)]) (c_X12_areaOf (qL Γ) g x q (by first | assumption | omega)) k_X12_100 isO_50 rfl (Nat.le_of_ble_eq_true rfl) (by decide) (by decide) ⟨by decide, by decide⟩ dX12_isNormal_7 ?_
      refine z_icmp_gt (pc := 10) hO (tgt := 83) dX12_isNormal_10 (by decide) (by omega) (by omega) (fun b1 => ?_) (fun b1 => ?_)
      · refine z_iload_n (pc := 83) hO 2 dX12_isNormal_83 rfl rfl ?_
        exact z_iret (pc := 84) hO hr hQ (zi_bool (by omega)).1 dX12_isNormal_84 (by first | (refine ⟨?_, rfl⟩; rcases hA with ⟨e, h⟩ | ⟨e, h⟩; exact Or.inl ⟨e, fun l a c => h l a (by omega)⟩; exact Or.inr ⟨e, h⟩; done) | (exfalso; omega))
      · refine z_iconst (pc := 13) hO dX12_isNormal_13 ?_
        refine z_istore (pc := 14) hO (lv' := [(4, .int (zi 0)), (0, .ref (gA g 50)), (1, .int (zi q)), (2, .int (zi b)), (3, .int (zi v))]) dX12_isNormal_14 (by decide) rfl ?_
        refine z_iconst (pc := 16) hO dX12_isNormal_16 ?_
        refine z_istore (pc := 17) hO (lv' := [(5, .int (zi 0)), (4, .int (zi 0)), (0, .ref (gA g 50)), (1, .int (zi q)), (2, .int (zi b)), (3, .int (zi v))]) dX12_isNormal_17 (by decide) rfl ?_
        have L19 : ∀ (N : Nat) (c : Int) (i : Int), ((x 51 q * x 51 q) - i).toNat < N → (0 ≤ i ∧ i ≤ (x 51 q * x 51 q)) → (c = sm (fun p => if nd x q p = v then 1 else 0) i.toNat) → (0 ≤ c ∧ c ≤ i) → Zz Γ g 6 0 0 x 19 [(0, .ref (gA g 50)), (1, .int (zi q)), (2, .int (zi b)), (3, .int (zi v)), (4, .int (zi c)), (5, .int (zi i))] [] := by
          intro N
          induction N with
          | zero => intro c i hm; exact absurd hm (Nat.not_lt_zero _)
          | succ N ih19 =>
            intro c i hm h1 hC hc9
            refine z_iload (pc := 19) hO 5 dX12_isNormal_19 rfl ?_
            refine z_aload_n (pc := 21) hO 0 dX12_isNormal_21 rfl rfl ?_
            refine z_iload_n (pc := 22) hO 1 dX12_isNormal_22 rfl rfl ?_
            refine z_callVIp (pc := 23) hO (As := [.int (zi q)]) (st := [.int (zi i)]) (c_X12_areaOf (qL Γ) g x q (by first | assumption | omega)) k_X12_100 isO_50 rfl (Nat.le_of_ble_eq_true rfl) (by decide) (by decide) ⟨by decide, by decide⟩ dX12_isNormal_23 ?_
            refine z_icmp_ge (pc := 26) hO (tgt := 61) dX12_isNormal_26 (by decide) (by omega) (by omega) (fun b2 => ?_) (fun b2 => ?_)
            · have hcn : c = cnt (x 51 q) (nd x q) v := by rw [hC, show i.toNat = (x 51 q * x 51 q).toNat by omega]; rfl
              refine z_iload_n (pc := 61) hO 2 dX12_isNormal_61 rfl rfl ?_
              refine z_if_eq (pc := 62) hO (tgt := 75) dX12_isNormal_62 (by decide) (by omega) (fun b3 => ?_) (fun b3 => ?_)
              · refine z_iconst (pc := 75) hO dX12_isNormal_75 ?_
                refine z_istore_n (pc := 76) hO (lv' := [(2, .int (zi 0)), (0, .ref (gA g 50)), (1, .int (zi q)), (3, .int (zi v)), (4, .int (zi c)), (5, .int (zi i))]) dX12_isNormal_76 rfl (by decide) rfl ?_
                refine z_iinc (pc := 77) hO 3 (lv' := [(3, .int (zi (v + 1))), (2, .int (zi 0)), (0, .ref (gA g 50)), (1, .int (zi q)), (4, .int (zi c)), (5, .int (zi i))]) dX12_isNormal_77 rfl (by decide) rfl ?_
                refine z_goto (pc := 80) hO (tgt := 4) dX12_isNormal_80 (by decide) ?_
                refine z_sub [2, 3, 1, 0] rfl ?_
                exact ih4 0 (v + 1) (by omega) (by omega) (by first | exact Or.inl ⟨rfl, fun l a c => dite (l = v) (fun e => by rw [e]; first | assumption | omega) (fun e => by rcases hA with ⟨_, h⟩ | ⟨h, _⟩; exact h l a (by omega); omega)⟩ | exact Or.inr ⟨rfl, fun h => by rcases hA with ⟨_, _⟩ | ⟨_, h2⟩; (first | (have := h v (by omega) (by omega); first | contradiction | omega) | omega); exact h2 h⟩)
              · refine z_iload (pc := 65) hO 4 dX12_isNormal_65 rfl ?_
                refine z_iconst (pc := 67) hO dX12_isNormal_67 ?_
                refine z_icmp_ne (pc := 68) hO (tgt := 75) dX12_isNormal_68 (by decide) (by omega) (by omega) (fun b4 => ?_) (fun b4 => ?_)
                · refine z_iconst (pc := 75) hO dX12_isNormal_75 ?_
                  refine z_istore_n (pc := 76) hO (lv' := [(2, .int (zi 0)), (0, .ref (gA g 50)), (1, .int (zi q)), (3, .int (zi v)), (4, .int (zi c)), (5, .int (zi i))]) dX12_isNormal_76 rfl (by decide) rfl ?_
                  refine z_iinc (pc := 77) hO 3 (lv' := [(3, .int (zi (v + 1))), (2, .int (zi 0)), (0, .ref (gA g 50)), (1, .int (zi q)), (4, .int (zi c)), (5, .int (zi i))]) dX12_isNormal_77 rfl (by decide) rfl ?_
                  refine z_goto (pc := 80) hO (tgt := 4) dX12_isNormal_80 (by decide) ?_
                  refine z_sub [2, 3, 1, 0] rfl ?_
                  exact ih4 0 (v + 1) (by omega) (by omega) (by first | exact Or.inl ⟨rfl, fun l a c => dite (l = v) (fun e => by rw [e]; first | assumption | omega) (fun e => by rcases hA with ⟨_, h⟩ | ⟨h, _⟩; exact h l a (by omega); omega)⟩ | exact Or.inr ⟨rfl, fun h => by rcases hA with ⟨_, _⟩ | ⟨_, h2⟩; (first | (have := h v (by omega) (by omega); first | contradiction | omega) | omega); exact h2 h⟩)
                · refine z_iconst (pc := 71) hO dX12_isNormal_71 ?_
                  refine z_goto (pc := 72) hO (tgt := 76) dX12_isNormal_72 (by decide) ?_
                  refine z_istore_n (pc := 76) hO (lv' := [(2, .int (zi 1)), (0, .ref (gA g 50)), (1, .int (zi q)), (3, .int (zi v)), (4, .int (zi c)), (5, .int (zi i))]) dX12_isNormal_76 rfl (by decide) rfl ?_
                  refine z_iinc (pc := 77) hO 3 (lv' := [(3, .int (zi (v + 1))), (2, .int (zi 1)), (0, .ref (gA g 50)), (1, .int (zi q)), (4, .int (zi c)), (5, .int (zi i))]) dX12_isNormal_77 rfl (by decide) rfl ?_
                  refine z_goto (pc := 80) hO (tgt := 4) dX12_isNormal_80 (by decide) ?_
                  refine z_sub [2, 3, 1, 0] rfl ?_
                  exact ih4 1 (v + 1) (by omega) (by omega) (by first | exact Or.inl ⟨rfl, fun l a c => dite (l = v) (fun e => by rw [e]; first | assumption | omega) (fun e => by rcases hA with ⟨_, h⟩ | ⟨h, _⟩; exact h l a (by omega); omega)⟩ | exact Or.inr ⟨rfl, fun h => by rcases hA with ⟨_, _⟩ | ⟨_, h2⟩; (first | (have := h v (by omega) (by omega); first | contradiction | omega) | omega); exact h2 h⟩)
            · have g1 : nd x q i = x 52 (81 * q + i) := nd_in (by omega)
              have n1 := hN i
              refine z_iload (pc := 29) hO 4 dX12_isNormal_29 rfl ?_
              refine z_aload_n (pc := 31) hO 0 dX12_isNormal_31 rfl rfl ?_
              refine gf_X12_numbers (pc := 32) hO f_X12_13 dX12_isNormal_32 ?_
              refine z_bipush (pc := 35) hO dX12_isNormal_35 (by decide) ?_
              refine z_iload_n (pc := 37) hO 1 dX12_isNormal_37 rfl rfl ?_
              refine z_imul (pc := 38) hO dX12_isNormal_38 ?_
              refine z_iload (pc := 39) hO 5 dX12_isNormal_39 rfl ?_
              refine z_iadd (pc := 41) hO dX12_isNormal_41 ?_
              refine z_iald (pc := 42) hO isI_52 (by omega) dX12_isNormal_42 ?_
              refine z_iload_n (pc := 43) hO 3 dX12_isNormal_43 rfl rfl ?_
              refine z_icmp_ne (pc := 44) hO (tgt := 51) dX12_isNormal_44 (by decide) (by omega) (by omega) (fun b5 => ?_) (fun b5 => ?_)
              · refine z_iconst (pc := 51) hO dX12_isNormal_51 ?_
                refine z_iadd (pc := 52) hO dX12_isNormal_52 ?_
                refine z_istore (pc := 53) hO (lv' := [(4, .int (zi (c + 0))), (0, .ref (gA g 50)), (1, .int (zi q)), (2, .int (zi b)), (3, .int (zi v)), (5, .int (zi i))]) dX12_isNormal_53 (by decide) rfl ?_
                refine z_iinc (pc := 55) hO 5 (lv' := [(5, .int (zi (i + 1))), (4, .int (zi (c + 0))), (0, .ref (gA g 50)), (1, .int (zi q)), (2, .int (zi b)), (3, .int (zi v))]) dX12_isNormal_55 rfl (by decide) rfl ?_
                refine z_goto (pc := 58) hO (tgt := 19) dX12_isNormal_58 (by decide) ?_
                refine z_sub [2, 3, 4, 5, 1, 0] rfl ?_
                exact ih19 (c + 0) (i + 1) (by omega) (by omega) (by rw [sm_s _ h1.1, ← hC]; first | (rw [if_pos (by omega)]; done) | (rw [if_neg (by omega)]; done)) (by omega)
              · refine z_iconst (pc := 47) hO dX12_isNormal_47 ?_
                refine z_goto (pc := 48) hO (tgt := 52) dX12_isNormal_48 (by decide) ?_
                refine z_iadd (pc := 52) hO dX12_isNormal_52 ?_
                refine z_istore (pc := 53) hO (lv' := [(4, .int (zi (c + 1))), (0, .ref (gA g 50)), (1, .int (zi q)), (2, .int (zi b)), (3, .int (zi v)), (5, .int (zi i))]) dX12_isNormal_53 (by decide) rfl ?_
                refine z_iinc (pc := 55) hO 5 (lv' := [(5, .int (zi (i + 1))), (4, .int (zi (c + 1))), (0, .ref (gA g 50)), (1, .int (zi q)), (2, .int (zi b)), (3, .int (zi v))]) dX12_isNormal_55 rfl (by decide) rfl ?_
                refine z_goto (pc := 58) hO (tgt := 19) dX12_isNormal_58 (by decide) ?_
                refine z_sub [2, 3, 4, 5, 1, 0] rfl ?_
                exact ih19 (c + 1) (i + 1) (by omega) (by omega) (by rw [sm_s _ h1.1, ← hC]; first | (rw [if_pos (by omega)]; done) | (rw [if_neg (by omega)]; done)) (by omega)
        refine z_sub [2, 3, 4, 5, 1, 0] rfl ?_
        exact L19 _ 0 0 (Nat.lt_succ_self _) (by omega) (by rfl) (by omega)
  refine z_sub [2, 3, 1, 0] rfl ?_
  exact L4 _ 1 1 (Nat.lt_succ_self _) (by omega) (by exact Or.inl ⟨rfl, fun l a c => by omega⟩)

