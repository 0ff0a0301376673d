set_option maxHeartbeats 600000 in
theorem c_L_isSum (l : Launch) (g : Gl) (x : Me) (a : Nat) (n : Int) (b0 : Int) (sp : Int)  (hIa : isI g a 16) (hn : n = 3 ∨ n = 4) (hix : ∀ i, 0 ≤ i → i < n → 0 ≤ b0 + i * sp ∧ b0 + i * sp < 16) (hv : ∀ i, 0 ≤ i → i < n → 0 ≤ x a (b0 + i * sp) ∧ x a (b0 + i * sp) ≤ 16) (hs : sm (fun i => x a (b0 + i * sp)) n.toNat = du n) : ctQ l g yL_isSum cL_isSum 6 (some .boolean) 1 20 [.ref (gA g a), .int (zi n), .int (zi b0), .int (zi sp)] x (QIu g (fun z x' => (z = 1) ∧ x' = x)) := by
  refine ct_start (own := RL) (lv := [(0, .ref (gA g a)), (1, .int (zi n)), (2, .int (zi b0)), (3, .int (zi sp))]) (plainFor_of_name (by decide)) rfl (Nat.le_of_ble_eq_true rfl) rfl ?_
  intro Γ hΓ hO hr hQ _
  refine z_iconst (pc := 0) hO dL_isSum_0 ?_
  refine z_istore (pc := 1) hO (lv' := [(4, .int (zi 0)), (0, .ref (gA g a)), (1, .int (zi n)), (2, .int (zi b0)), (3, .int (zi sp))]) dL_isSum_1 (by decide) rfl ?_
  refine z_iconst (pc := 3) hO dL_isSum_3 ?_
  refine z_istore (pc := 4) hO (lv' := [(5, .int (zi 0)), (4, .int (zi 0)), (0, .ref (gA g a)), (1, .int (zi n)), (2, .int (zi b0)), (3, .int (zi sp))]) dL_isSum_4 (by decide) rfl ?_
  have L6 : ∀ (N : Nat) (s : Int) (i : Int), (n - i).toNat < N → (0 ≤ i ∧ i ≤ n) → (s = sm (fun i => x a (b0 + i * sp)) i.toNat) → (0 ≤ s ∧ s ≤ 16 * i) → Zz Γ g 6 0 0 x 6 [(0, .ref (gA g a)), (1, .int (zi n)), (2, .int (zi b0)), (3, .int (zi sp)), (4, .int (zi s)), (5, .int (zi i))] [] := by
    intro N
    induction N with
    | zero => intro s i hm; exact absurd hm (Nat.not_lt_zero _)
    | succ N ih6 =>
      intro s i hm h0 hs1 hs2
      refine z_iload (pc := 6) hO 5 dL_isSum_6 rfl ?_
      refine z_iload_n (pc := 8) hO 1 dL_isSum_8 rfl rfl ?_
      refine z_icmp_ge (pc := 9) hO (tgt := 31) dL_isSum_9 (by decide) (by omega) (by omega) (fun b1 => ?_) (fun b1 => ?_)
      · refine z_iload (pc := 31) hO 4 dL_isSum_31 rfl ?_
        refine z_iload_n (pc := 33) hO 1 dL_isSum_33 rfl rfl ?_
        refine z_iload_n (pc := 34) hO 1 dL_isSum_34 rfl rfl ?_
        refine z_iload_n (pc := 35) hO 1 dL_isSum_35 rfl rfl ?_
        refine z_imul (pc := 36) hO dL_isSum_36 ?_
        refine z_iconst (pc := 37) hO dL_isSum_37 ?_
        refine z_iadd (pc := 38) hO dL_isSum_38 ?_
        refine z_imul (pc := 39) hO dL_isSum_39 ?_
        refine z_iconst (pc := 40) hO dL_isSum_40 ?_
        refine z_idiv (pc := 41) hO dL_isSum_41 (by rcases hn with rfl | rfl <;> omega) (by rcases hn with rfl | rfl <;> omega) ?_
        refine z_icmp_ne (pc := 42) hO (tgt := 49) dL_isSum_42 (by decide) (by rcases hn with rfl | rfl <;> omega) (by rcases hn with rfl | rfl <;> omega) (fun b2 => ?_) (fun b2 => ?_)
        · exfalso; have e : i = n := (by omega); rw [e, hs] at hs1; unfold du at hs1; omega
        · refine z_iconst (pc := 45) hO dL_isSum_45 ?_
          refine z_goto (pc := 46) hO (tgt := 50) dL_isSum_46 (by decide) ?_
          exact z_iret (pc := 50) hO hr hQ rfl dL_isSum_50 ⟨by first | assumption | omega, rfl⟩
      · refine z_iload (pc := 12) hO 4 dL_isSum_12 rfl ?_
        refine z_aload_n (pc := 14) hO 0 dL_isSum_14 rfl rfl ?_
        refine z_iload_n (pc := 15) hO 2 dL_isSum_15 rfl rfl ?_
        refine z_iload (pc := 16) hO 5 dL_isSum_16 rfl ?_
        refine z_iload_n (pc := 18) hO 3 dL_isSum_18 rfl rfl ?_
        refine z_imul (pc := 19) hO dL_isSum_19 ?_
        refine z_iadd (pc := 20) hO dL_isSum_20 ?_
        refine z_iald (pc := 21) hO hIa (by exact hix i h0.1 (by omega)) dL_isSum_21 ?_
        refine z_iadd (pc := 22) hO dL_isSum_22 ?_
        refine z_istore (pc := 23) hO (lv' := [(4, .int (zi (s + (x a (b0 + (i * sp)))))), (0, .ref (gA g a)), (1, .int (zi n)), (2, .int (zi b0)), (3, .int (zi sp)), (5, .int (zi i))]) dL_isSum_23 (by decide) rfl ?_
        refine z_iinc (pc := 25) hO 5 (lv' := [(5, .int (zi (i + 1))), (4, .int (zi (s + (x a (b0 + (i * sp)))))), (0, .ref (gA g a)), (1, .int (zi n)), (2, .int (zi b0)), (3, .int (zi sp))]) dL_isSum_25 rfl (by decide) rfl ?_
        refine z_goto (pc := 28) hO (tgt := 6) dL_isSum_28 (by decide) ?_
        refine z_sub [2, 3, 4, 5, 1, 0] rfl ?_
        exact ih6 (s + (x a (b0 + (i * sp)))) (i + 1) (by omega) (by omega) (by rw [sm_s _ h0.1, hs1]) (by have := hv i h0.1 (by omega); omega)
  refine z_sub [2, 3, 4, 5, 1, 0] rfl ?_
  exact L6 _ 0 0 (Nat.lt_succ_self _) (by omega) (by rfl) (by omega)

set_option maxHeartbeats 600000 in
theorem c_L_compare (l : Launch) (g : Gl) (x : Me) (a : Nat) (b : Nat) (n : Int)  (hIa : isI g a 16) (hIb : isI g b 16) (hn : n = 3 ∨ n = 4) (hv : ∀ p, 0 ≤ p → p < n * n → (0 ≤ x a p ∧ x a p ≤ 16) ∧ 0 ≤ x b p ∧ x b p ≤ 16) : ctQ l g yL_compare cL_compare 4 (some .int) 1 20 [.ref (gA g a), .ref (gA g b), .int (zi n)] x (QIu g (fun z x' => (cmP (x a) (x b) (n * n) z ∧ -16 ≤ z ∧ z ≤ 16) ∧ x' = x)) := by
  refine ct_start (own := RL) (lv := [(0, .ref (gA g a)), (1, .ref (gA g b)), (2, .int (zi n))]) (plainFor_of_name (by decide)) rfl (Nat.le_of_ble_eq_true rfl) rfl ?_
  intro Γ hΓ hO hr hQ _
  have h34 := n34 hn
  refine z_iconst (pc := 0) hO dL_compare_0 ?_
  refine z_istore_n (pc := 1) hO (lv' := [(3, .int (zi 0)), (0, .ref (gA g a)), (1, .ref (gA g b)), (2, .int (zi n))]) dL_compare_1 rfl (by decide) rfl ?_
  have L2 : ∀ (N : Nat) (i : Int), (n * n - i).toNat < N → (0 ≤ i ∧ i ≤ n * n) → (∀ r, 0 ≤ r → r < i → x a r = x b r) → Zz Γ g 4 0 0 x 2 [(0, .ref (gA g a)), (1, .ref (gA g b)), (2, .int (zi n)), (3, .int (zi i))] [] := by
    intro N
    induction N with
    | zero => intro i hm; exact absurd hm (Nat.not_lt_zero _)
    | succ N ih2 =>
      intro i hm h0 he
      refine z_iload_n (pc := 2) hO 3 dL_compare_2 rfl rfl ?_
      refine z_iload_n (pc := 3) hO 2 dL_compare_3 rfl rfl ?_
      refine z_iload_n (pc := 4) hO 2 dL_compare_4 rfl rfl ?_
      refine z_imul (pc := 5) hO dL_compare_5 ?_
      refine z_icmp_ge (pc := 6) hO (tgt := 32) dL_compare_6 (by decide) (by omega) (by omega) (fun b1 => ?_) (fun b1 => ?_)
      · refine z_iconst (pc := 32) hO dL_compare_32 ?_
        exact z_iret (pc := 33) hO hr hQ rfl dL_compare_33 ⟨by first | (exact ⟨Or.inl ⟨rfl, fun p p0 p1 => he p p0 (by omega)⟩, by omega⟩; done) | (exfalso; omega), rfl⟩
      · have hvi := hv i h0.1 (by omega)
        refine z_aload_n (pc := 9) hO 0 dL_compare_9 rfl rfl ?_
        refine z_iload_n (pc := 10) hO 3 dL_compare_10 rfl rfl ?_
        refine z_iald (pc := 11) hO hIa (by omega) dL_compare_11 ?_
        refine z_aload_n (pc := 12) hO 1 dL_compare_12 rfl rfl ?_
        refine z_iload_n (pc := 13) hO 3 dL_compare_13 rfl rfl ?_
        refine z_iald (pc := 14) hO hIb (by omega) dL_compare_14 ?_
        refine z_icmp_eq (pc := 15) hO (tgt := 26) dL_compare_15 (by decide) (by omega) (by omega) (fun b2 => ?_) (fun b2 => ?_)
        · refine z_iinc (pc := 26) hO 3 (lv' := [(3, .int (zi (i + 1))), (0, .ref (gA g a)), (1, .ref (gA g b)), (2, .int (zi n))]) dL_compare_26 rfl (by decide) rfl ?_
          refine z_goto (pc := 29) hO (tgt := 2) dL_compare_29 (by decide) ?_
          refine z_sub [1, 2, 3, 0] rfl ?_
          exact ih2 (i + 1) (by omega) (by omega) (by intro r r0 r1; by_cases e : r = i; (rw [e]; assumption); exact he r r0 (by omega))
        · refine z_aload_n (pc := 18) hO 0 dL_compare_18 rfl rfl ?_
          refine z_iload_n (pc := 19) hO 3 dL_compare_19 rfl rfl ?_
          refine z_iald (pc := 20) hO hIa (by omega) dL_compare_20 ?_
          refine z_aload_n (pc := 21) hO 1 dL_compare_21 rfl rfl ?_
          refine z_iload_n (pc := 22) hO 3 dL_compare_22 rfl rfl ?_
          refine z_iald (pc := 23) hO hIb (by omega) dL_compare_23 ?_
          refine z_isub (pc := 24) hO dL_compare_24 ?_
          exact z_iret (pc := 25) hO hr hQ rfl dL_compare_25 ⟨by first | (exact ⟨Or.inr ⟨i, h0.1, by omega, he, by assumption, rfl⟩, by omega⟩; done) | (exfalso; omega), rfl⟩
  refine z_sub [1, 2, 3, 0] rfl ?_
  exact L2 _ 0 (Nat.lt_succ_self _) (by omega) (by intro r r0 r1; omega)

set_option maxHeartbeats 600000 in
theorem c_L_isRight (l : Launch) (g : Gl) (x : Me) (a : Nat) (n : Int)  (hIa : isI g a 16) (hR : Rt n (x a)) : ctQ l g yL_isRight cL_isRight 5 (some .boolean) 2 45 [.ref (gA g a), .int (zi n)] x (QIu g (fun z x' => (z = 1) ∧ x' = x)) := by
  refine ct_start (own := RL) (lv := [(0, .ref (gA g a)), (1, .int (zi n))]) (plainFor_of_name (by decide)) rfl (Nat.le_of_ble_eq_true rfl) rfl ?_
  intro Γ hΓ hO hr hQ _
  obtain ⟨hn, ⟨hp1, hp2⟩, ⟨hd, ha⟩, hl⟩ := id hR
  have h34 := n34 hn
  have hln := ln34 hn
  refine z_iconst (pc := 0) hO dL_isRight_0 ?_
  refine z_istore_n (pc := 1) hO (lv' := [(2, .int (zi 0)), (0, .ref (gA g a)), (1, .int (zi n))]) dL_isRight_1 rfl (by decide) rfl ?_
  refine z_aload_n (pc := 2) hO 1 dL_isRight_2 rfl rfl ?_
  refine z_iload_n (pc := 3) hO 2 dL_isRight_3 rfl rfl ?_
  refine z_iconst (pc := 4) hO dL_isRight_4 ?_
  refine z_iload_n (pc := 5) hO 2 dL_isRight_5 rfl rfl ?_
  refine z_iconst (pc := 6) hO dL_isRight_6 ?_
  refine z_iadd (pc := 7) hO dL_isRight_7 ?_
  refine z_callSIq (pc := 8) hO (As := [.ref (gA g a), .int (zi n), .int (zi 0), .int (zi (n + 1))]) (st := []) (c_L_isSum (qL Γ) g x a n 0 (n + 1) (by first | assumption | omega) (by first | assumption | omega) (by intro i i0 i1; have := hln.1 i i0 i1; omega) (by intro i i0 i1; have h8 := hln.1 i i0 i1; have := hp1 _ h8.1 h8.2; omega) (by exact hd)) k_L_9 rfl (Nat.le_of_ble_eq_true rfl) (by decide) (by decide) ⟨by decide, by decide⟩ dL_isRight_8 (fun z1 h3 => ?_)
  subst h3
  refine z_if_eq (pc := 11) hO (tgt := 32) dL_isRight_11 (by decide) (by decide) (fun h => absurd h (by decide)) (fun _ => ?_)
  refine z_aload_n (pc := 14) hO 1 dL_isRight_14 rfl rfl ?_
  refine z_iload_n (pc := 15) hO 2 dL_isRight_15 rfl rfl ?_
  refine z_iload_n (pc := 16) hO 2 dL_isRight_16 rfl rfl ?_
  refine z_iconst (pc := 17) hO dL_isRight_17 ?_
  refine z_isub (pc := 18) hO dL_isRight_18 ?_
  refine z_iload_n (pc := 19) hO 2 dL_isRight_19 rfl rfl ?_
  refine z_iconst (pc := 20) hO dL_isRight_20 ?_
  refine z_isub (pc := 21) hO dL_isRight_21 ?_
  refine z_callSIq (pc := 22) hO (As := [.ref (gA g a), .int (zi n), .int (zi (n - 1)), .int (zi (n - 1))]) (st := []) (c_L_isSum (qL Γ) g x a n (n - 1) (n - 1) (by first | assumption | omega) (by first | assumption | omega) (by intro i i0 i1; have := hln.2.1 i i0 i1; omega) (by intro i i0 i1; have h8 := hln.2.1 i i0 i1; have := hp1 _ h8.1 h8.2; omega) (by exact ha)) k_L_9 rfl (Nat.le_of_ble_eq_true rfl) (by decide) (by decide) ⟨by decide, by decide⟩ dL_isRight_22 (fun z4 h6 => ?_)
  subst h6
  refine z_if_eq (pc := 25) hO (tgt := 32) dL_isRight_25 (by decide) (by decide) (fun h => absurd h (by decide)) (fun _ => ?_)
  refine z_iconst (pc := 28) hO dL_isRight_28 ?_
  refine z_goto (pc := 29) hO (tgt := 33) dL_isRight_29 (by decide) ?_
  refine z_istore_n (pc := 33) hO (lv' := [(3, .int (zi 1)), (2, .int (zi 0)), (0, .ref (gA g a)), (1, .int (zi n))]) dL_isRight_33 rfl (by decide) rfl ?_
  refine z_iconst (pc := 34) hO dL_isRight_34 ?_
  refine z_istore (pc := 35) hO (lv' := [(4, .int (zi 0)), (3, .int (zi 1)), (2, .int (zi 0)), (0, .ref (gA g a)), (1, .int (zi n))]) dL_isRight_35 (by decide) rfl ?_
  have L37 : ∀ (N : Nat) (u : Int) (p : Int), (n * n - p).toNat < N → (0 ≤ p ∧ p ≤ n * n) → (0 ≤ u ∧ u < 131072) → (∀ v, 0 ≤ v → v ≤ 16 → (tb u v ↔ ∃ r, 0 ≤ r ∧ r < p ∧ x a r = v)) → Zz Γ g 5 0 0 x 37 [(0, .ref (gA g a)), (1, .int (zi n)), (2, .int (zi u)), (3, .int (zi 1)), (4, .int (zi p))] [] := by
    intro N
    induction N with
    | zero => intro u p hm; exact absurd hm (Nat.not_lt_zero _)
    | succ N ih37 =>
      intro u p hm h0 hu hb
      refine z_iload (pc := 37) hO 4 dL_isRight_37 rfl ?_
      refine z_iload_n (pc := 39) hO 1 dL_isRight_39 rfl rfl ?_
      refine z_iload_n (pc := 40) hO 1 dL_isRight_40 rfl rfl ?_
      refine z_imul (pc := 41) hO dL_isRight_41 ?_
      refine z_icmp_ge (pc := 42) hO (tgt := 107) dL_isRight_42 (by decide) (by omega) (by omega) (fun b7 => ?_) (fun b7 => ?_)
      · refine z_iconst (pc := 107) hO dL_isRight_107 ?_
        refine z_istore (pc := 108) hO (lv' := [(4, .int (zi 0)), (0, .ref (gA g a)), (1, .int (zi n)), (2, .int (zi u)), (3, .int (zi 1))]) dL_isRight_108 (by decide) rfl ?_
        have L110 : ∀ (N : Nat) (k : Int), (n - k).toNat < N → (0 ≤ k ∧ k ≤ n) → Zz Γ g 5 0 0 x 110 [(0, .ref (gA g a)), (1, .int (zi n)), (3, .int (zi 1)), (4, .int (zi k))] [] := by
          intro N
          induction N with
          | zero => intro k hm; exact absurd hm (Nat.not_lt_zero _)
          | succ N ih110 =>
            intro k hm h1
            refine z_iload (pc := 110) hO 3 dL_isRight_110 rfl ?_
            refine z_iload_n (pc := 112) hO 1 dL_isRight_112 rfl rfl ?_
            refine z_icmp_ge (pc := 113) hO (tgt := 156) dL_isRight_113 (by decide) (by omega) (by omega) (fun b8 => ?_) (fun b8 => ?_)
            · refine z_iload_n (pc := 156) hO 2 dL_isRight_156 rfl rfl ?_
              exact z_iret (pc := 157) hO hr hQ rfl dL_isRight_157 ⟨by first | assumption | omega, rfl⟩
            · refine z_iload_n (pc := 116) hO 2 dL_isRight_116 rfl rfl ?_
              refine z_if_eq (pc := 117) hO (tgt := 148) dL_isRight_117 (by decide) (by decide) (fun h => absurd h (by decide)) (fun _ => ?_)
              refine z_aload_n (pc := 120) hO 0 dL_isRight_120 rfl rfl ?_
              refine z_iload_n (pc := 121) hO 1 dL_isRight_121 rfl rfl ?_
              refine z_iload_n (pc := 122) hO 1 dL_isRight_122 rfl rfl ?_
              refine z_iload (pc := 123) hO 3 dL_isRight_123 rfl ?_
              refine z_imul (pc := 125) hO dL_isRight_125 ?_
              refine z_iconst (pc := 126) hO dL_isRight_126 ?_
              refine z_callSIq (pc := 127) hO (As := [.ref (gA g a), .int (zi n), .int (zi (n * k)), .int (zi 1)]) (st := []) (c_L_isSum (qL Γ) g x a n (n * k) 1 (by first | assumption | omega) (by first | assumption | omega) (by intro i i0 i1; have := (hln.2.2 k h1.1 (by omega)).1 i i0 i1; omega) (by intro i i0 i1; have h8 := (hln.2.2 k h1.1 (by omega)).1 i i0 i1; have := hp1 _ h8.1 h8.2; omega) (by exact (hl k h1.1 (by omega)).1)) k_L_9 rfl (Nat.le_of_ble_eq_true rfl) (by decide) (by decide) ⟨by decide, by decide⟩ dL_isRight_127 (fun z9 h11 => ?_)
              subst h11
              refine z_if_eq (pc := 130) hO (tgt := 148) dL_isRight_130 (by decide) (by decide) (fun h => absurd h (by decide)) (fun _ => ?_)
              refine z_aload_n (pc := 133) hO 0 dL_isRight_133 rfl rfl ?_
              refine z_iload_n (pc := 134) hO 1 dL_isRight_134 rfl rfl ?_
              refine z_iload (pc := 135) hO 3 dL_isRight_135 rfl ?_
              refine z_iload_n (pc := 137) hO 1 dL_isRight_137 rfl rfl ?_
              refine z_callSIq (pc := 138) hO (As := [.ref (gA g a), .int (zi n), .int (zi k), .int (zi n)]) (st := []) (c_L_isSum (qL Γ) g x a n k n (by first | assumption | omega) (by first | assumption | omega) (by intro i i0 i1; have := (hln.2.2 k h1.1 (by omega)).2 i i0 i1; omega) (by intro i i0 i1; have h8 := (hln.2.2 k h1.1 (by omega)).2 i i0 i1; have := hp1 _ h8.1 h8.2; omega) (by exact (hl k h1.1 (by omega)).2)) k_L_9 rfl (Nat.le_of_ble_eq_true rfl) (by decide) (by decide) ⟨by decide, by decide⟩ dL_isRight_138 (fun z12 h14 => ?_)
              subst h14
              refine z_if_eq (pc := 141) hO (tgt := 148) dL_isRight_141 (by decide) (by decide) (fun h => absurd h (by decide)) (fun _ => ?_)
              refine z_iconst (pc := 144) hO dL_isRight_144 ?_
              refine z_goto (pc := 145) hO (tgt := 149) dL_isRight_145 (by decide) ?_
              refine z_istore_n (pc := 149) hO (lv' := [(3, .int (zi 1)), (0, .ref (gA g a)), (1, .int (zi n)), (4, .int (zi k))]) dL_isRight_149 rfl (by decide) rfl ?_
              refine z_iinc (pc := 150) hO 3 (lv' := [(4, .int (zi (k + 1))), (3, .int (zi 1)), (0, .ref (gA g a)), (1, .int (zi n))]) dL_isRight_150 rfl (by decide) rfl ?_
              refine z_goto (pc := 153) hO (tgt := 110) dL_isRight_153 (by decide) ?_
              refine z_sub [2, 3, 1, 0] rfl ?_
              exact ih110 (k + 1) (by omega) (by omega)
        refine z_sub [1, 2, 4, 0] rfl ?_
        exact L110 _ 0 (Nat.lt_succ_self _) (by omega)
      · have hpp := hp1 p h0.1 (by omega)
        have hbz : bnd2 (shr u (x a p)) 1 = 0 := by
            rcases bnd_tb u (x a p) with q | q
            · obtain ⟨r, r0, r1, r2⟩ := (hb (x a p) (by omega) (by omega)).mp q.2
              exact absurd r2 (hp2 r r0 (by omega) p h0.1 (by omega) (by omega))
            · exact q.1
        refine z_iload_n (pc := 45) hO 3 dL_isRight_45 rfl rfl ?_
        refine z_if_eq (pc := 46) hO (tgt := 82) dL_isRight_46 (by decide) (by decide) (fun h => absurd h (by decide)) (fun _ => ?_)
        refine z_aload_n (pc := 49) hO 0 dL_isRight_49 rfl rfl ?_
        refine z_iload (pc := 50) hO 4 dL_isRight_50 rfl ?_
        refine z_iald (pc := 52) hO hIa (by omega) dL_isRight_52 ?_
        refine z_iconst (pc := 53) hO dL_isRight_53 ?_
        refine z_icmp_lt (pc := 54) hO (tgt := 82) dL_isRight_54 (by decide) (by omega) (by omega) (fun b15 => ?_) (fun b15 => ?_)
        · exfalso; omega
        · refine z_aload_n (pc := 57) hO 0 dL_isRight_57 rfl rfl ?_
          refine z_iload (pc := 58) hO 4 dL_isRight_58 rfl ?_
          refine z_iald (pc := 60) hO hIa (by omega) dL_isRight_60 ?_
          refine z_iload_n (pc := 61) hO 1 dL_isRight_61 rfl rfl ?_
          refine z_iload_n (pc := 62) hO 1 dL_isRight_62 rfl rfl ?_
          refine z_imul (pc := 63) hO dL_isRight_63 ?_
          refine z_icmp_gt (pc := 64) hO (tgt := 82) dL_isRight_64 (by decide) (by omega) (by omega) (fun b16 => ?_) (fun b16 => ?_)
          · exfalso; omega
          · refine z_iload_n (pc := 67) hO 2 dL_isRight_67 rfl rfl ?_
            refine z_aload_n (pc := 68) hO 0 dL_isRight_68 rfl rfl ?_
            refine z_iload (pc := 69) hO 4 dL_isRight_69 rfl ?_
            refine z_iald (pc := 71) hO hIa (by omega) dL_isRight_71 ?_
            refine z_ishr (pc := 72) hO (zi (shr u (x a p))) dL_isRight_72 (by exact shr_z (by omega) (by omega)) ?_
            refine z_iconst (pc := 73) hO dL_isRight_73 ?_
            refine z_iand (pc := 74) hO (zi (bnd2 (shr u (x a p)) 1)) dL_isRight_74 (by exact bnd2_z (shr_r (by omega)).1 (by omega)) ?_
            refine z_if_ne (pc := 75) hO (tgt := 82) dL_isRight_75 (by decide) (by rw [hbz]; omega) (fun b17 => ?_) (fun b17 => ?_)
            · exfalso; omega
            · refine z_iconst (pc := 78) hO dL_isRight_78 ?_
              refine z_goto (pc := 79) hO (tgt := 83) dL_isRight_79 (by decide) ?_
              refine z_istore_n (pc := 83) hO (lv' := [(3, .int (zi 1)), (0, .ref (gA g a)), (1, .int (zi n)), (2, .int (zi u)), (4, .int (zi p))]) dL_isRight_83 rfl (by decide) rfl ?_
              refine z_iload_n (pc := 84) hO 3 dL_isRight_84 rfl rfl ?_
              refine z_iload_n (pc := 85) hO 0 dL_isRight_85 rfl rfl ?_
              refine z_if_eq (pc := 86) hO (tgt := 98) dL_isRight_86 (by decide) (by decide) (fun h => absurd h (by decide)) (fun _ => ?_)
              refine z_iconst (pc := 89) hO dL_isRight_89 ?_
              refine z_aload_n (pc := 90) hO 1 dL_isRight_90 rfl rfl ?_
              refine z_iload (pc := 91) hO 4 dL_isRight_91 rfl ?_
              refine z_iald (pc := 93) hO hIa (by omega) dL_isRight_93 ?_
              refine z_ishl (pc := 94) hO (zi (p2 (x a p))) dL_isRight_94 (by exact zn_shl (by omega)) ?_
              refine z_goto (pc := 95) hO (tgt := 99) dL_isRight_95 (by decide) ?_
              refine z_ior (pc := 99) hO (zi (bor u (p2 (x a p)))) dL_isRight_99 (by exact bor_z (by omega) (p2_nn _)) ?_
              refine z_istore_n (pc := 100) hO (lv' := [(2, .int (zi (bor u (p2 (x a p))))), (3, .int (zi 1)), (0, .ref (gA g a)), (1, .int (zi n)), (4, .int (zi p))]) dL_isRight_100 rfl (by decide) rfl ?_
              refine z_iinc (pc := 101) hO 4 (lv' := [(4, .int (zi (p + 1))), (2, .int (zi (bor u (p2 (x a p))))), (3, .int (zi 1)), (0, .ref (gA g a)), (1, .int (zi n))]) dL_isRight_101 rfl (by decide) rfl ?_
              refine z_goto (pc := 104) hO (tgt := 37) dL_isRight_104 (by decide) ?_
              refine z_sub [3, 4, 1, 2, 0] rfl ?_
              exact ih37 (bor u (p2 (x a p))) (p + 1) (by omega) (by omega) (by exact bor17 hu (by omega)) (by exact tb_step h0.1 (by omega) hb)
  refine z_sub [3, 4, 2, 1, 0] rfl ?_
  exact L37 _ 0 0 (Nat.lt_succ_self _) (by omega) (by omega) (by intro v _ _; exact ⟨fun q => absurd q (tb_0 v), fun ⟨r, r0, r1, _⟩ => by omega⟩)

