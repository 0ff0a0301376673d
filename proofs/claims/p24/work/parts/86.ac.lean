set_option maxHeartbeats 4000000 in
    theorem ac_body {Γ : Gam} {g : Gl} {kc ns k0 n0 : Nat} (hX : gX g = 2) (hO : Ok Γ g cL_areCompletions 12 RL 64 1293 kc ns) (hkn : k0 ≤ kc ∧ n0 ≤ ns) (x : Me) (sq n s m : Int) (C : List (Int → Int)) (hS : HS x) (hq : 0 ≤ sq ∧ sq < x 0 5) (hn : x (10 + sq.toNat) 1 = n) (hR : Rt n (x 71)) (hC : C = cpl n (nc x sq.toNat)) (hmC : m = C.length) (hm2 : 1 ≤ m ∧ m ≤ 2000000000) (hc9 : cnt n (nc x sq.toNat) 0 ≤ 9) (hb : ∀ p, 0 ≤ p → p < n * n → (tb s p ∧ nc x sq.toNat p = 0) ∨ (¬ tb s p ∧ nc x sq.toNat p = x 71 p)) (hs : 0 ≤ s ∧ s < 131072) (hin : tk (x 71) (n * n) ∈ C) (hpw : C.Pairwise (lxl n)) (hmem : ∀ h ∈ C, Rt n h ∧ ∀ p, 0 ≤ p → p < n * n → nc x sq.toNat p ≠ 0 → h p = x 71 p) (fin : ∀ (x' : Me) (lv : List (Nat × Value)), (∀ a, a ≠ 2 → a ≠ 3 → (a < 30 ∨ 36 < a) → x' a = x a) → Zz Γ g 12 k0 n0 x' 260 lv [.int (zi 1)]) : Zz Γ g 12 k0 n0 x 19 [(0, .ref (gA g 0)), (1, .int (zi sq)), (2, .int (zi n)), (3, .ref (gA g 71)), (4, .int (zi s)), (5, .int (zi m)), (6, .ref (gA g 2)), (7, .ref (gA g 3))] [] := by
  have h34 := n34 hR.1
  have hS1 := hS.1
  refine z_iload (pc := 19) hO 5 dL_areCompletions_19 rfl ?_
  refine z_iconst (pc := 21) hO dL_areCompletions_21 ?_
  refine z_icmp_lt (pc := 22) hO (tgt := 42) dL_areCompletions_22 (by decide) (by omega) (by omega) (fun b1 => ?_) (fun b1 => ?_)
  · exfalso; omega
  · refine z_aload_n (pc := 25) hO 0 dL_areCompletions_25 rfl rfl ?_
    refine z_iload_n (pc := 26) hO 1 dL_areCompletions_26 rfl rfl ?_
    refine z_iload (pc := 27) hO 5 dL_areCompletions_27 rfl ?_
    refine z_iconst (pc := 29) hO dL_areCompletions_29 ?_
    refine z_iconst (pc := 30) hO dL_areCompletions_30 ?_
    refine z_callVI (pc := 31) hO (As := [.int (zi sq), .int (zi m), .int (zi 0), .int (zi 0)]) (st := []) (c_X11_completion (qL Γ) g x sq m 0 0 (by exact hS) (by omega) (by omega) (by omega) (by omega) (by rw [hn]; exact ⟨⟨hq.1, hq.2, ⟨by omega, by omega⟩, by omega, by omega⟩, by omega, by omega, hc9⟩)) k_L_21 isO_0 rfl (Nat.le_of_ble_eq_true rfl) (by decide) (by decide) ⟨by omega, by omega⟩ dL_areCompletions_31 (fun z0 m2 h3 => ?_)
    obtain ⟨hz0, hfr0⟩ := h3
    rw [hn, cgt_out hC (by omega)] at hz0
    subst hz0
    refine z_iconst (pc := 34) hO dL_areCompletions_34 ?_
    refine z_icmp_ne (pc := 35) hO (tgt := 42) dL_areCompletions_35 (by decide) (by decide) (by decide) (fun h => absurd h (by decide)) (fun _ => ?_)
    refine z_iconst (pc := 38) hO dL_areCompletions_38 ?_
    refine z_goto (pc := 39) hO (tgt := 43) dL_areCompletions_39 (by decide) ?_
    refine z_istore (pc := 43) hO (lv' := [(8, .int (zi 1)), (0, .ref (gA g 0)), (1, .int (zi sq)), (2, .int (zi n)), (3, .ref (gA g 71)), (4, .int (zi s)), (5, .int (zi m)), (6, .ref (gA g 2)), (7, .ref (gA g 3))]) dL_areCompletions_43 (by decide) rfl ?_
    have J57 : ∀ (j9 : Int), ((j9 = 1 ∧ 6 < m) ∨ (j9 = 0 ∧ m ≤ 6)) → Zz Γ g 12 k0 n0 m2 57 [(0, .ref (gA g 0)), (1, .int (zi sq)), (2, .int (zi n)), (3, .ref (gA g 71)), (4, .int (zi s)), (5, .int (zi m)), (6, .ref (gA g 2)), (7, .ref (gA g 3)), (8, .int (zi 1))] [.int (zi j9)] := by
      intro j9 hj9
      refine z_istore (pc := 57) hO (lv' := [(9, .int (zi j9)), (0, .ref (gA g 0)), (1, .int (zi sq)), (2, .int (zi n)), (3, .ref (gA g 71)), (4, .int (zi s)), (5, .int (zi m)), (6, .ref (gA g 2)), (7, .ref (gA g 3)), (8, .int (zi 1))]) dL_areCompletions_57 (by decide) rfl ?_
      refine z_iconst (pc := 59) hO dL_areCompletions_59 ?_
      refine z_istore (pc := 60) hO (lv' := [(10, .int (zi 0)), (9, .int (zi j9)), (0, .ref (gA g 0)), (1, .int (zi sq)), (2, .int (zi n)), (3, .ref (gA g 71)), (4, .int (zi s)), (5, .int (zi m)), (6, .ref (gA g 2)), (7, .ref (gA g 3)), (8, .int (zi 1))]) dL_areCompletions_60 (by decide) rfl ?_
      have L62 : ∀ (N : Nat) (w : Int) (z9 : Int) (y : Me), (m - w).toNat < N → (0 ≤ w ∧ w ≤ m) → (iIn n m C (x 71) w z9) → (∀ a, a ≠ 2 → a ≠ 3 → (a < 30 ∨ 36 < a) → y a = x a) → (0 < w → ∀ p, 0 ≤ p → p < n * n → y 3 p = GD C (w - 1) p) → Zz Γ g 12 k0 n0 y 62 [(0, .ref (gA g 0)), (1, .int (zi sq)), (2, .int (zi n)), (3, .ref (gA g 71)), (4, .int (zi s)), (5, .int (zi m)), (6, .ref (gA g 2)), (7, .ref (gA g 3)), (8, .int (zi 1)), (9, .int (zi z9)), (10, .int (zi w))] [] := by
        intro N
        induction N with
        | zero => intro w z9 y hm; exact absurd hm (Nat.not_lt_zero _)
        | succ N ih62 =>
          intro w z9 y hm h0 h9 hfr hbf
          have h91 := h9.1
          refine z_iload (pc := 62) hO 10 dL_areCompletions_62 rfl ?_
          refine z_iload (pc := 64) hO 5 dL_areCompletions_64 rfl ?_
          refine z_icmp_ge (pc := 66) hO (tgt := 245) dL_areCompletions_66 (by decide) (by omega) (by omega) (fun b4 => ?_) (fun b4 => ?_)
          · have hz9 := iIn_e h9 hin hmC (by omega)
            refine z_iload (pc := 245) hO 8 dL_areCompletions_245 rfl ?_
            refine z_if_eq (pc := 247) hO (tgt := 259) dL_areCompletions_247 (by decide) (by decide) (fun h => absurd h (by decide)) (fun _ => ?_)
            refine z_iload (pc := 250) hO 9 dL_areCompletions_250 rfl ?_
            refine z_if_eq (pc := 252) hO (tgt := 259) dL_areCompletions_252 (by decide) (by omega) (fun b5 => ?_) (fun b5 => ?_)
            · exfalso; omega
            · refine z_iconst (pc := 255) hO dL_areCompletions_255 ?_
              refine z_goto (pc := 256) hO (tgt := 260) dL_areCompletions_256 (by decide) ?_
              exact fin _ _ hfr
          · refine z_iload (pc := 69) hO 10 dL_areCompletions_69 rfl ?_
            refine z_bipush (pc := 71) hO dL_areCompletions_71 (by decide) ?_
            refine z_icmp_ge (pc := 73) hO (tgt := 245) dL_areCompletions_73 (by decide) (by omega) (by omega) (fun b6 => ?_) (fun b6 => ?_)
            · have hz9 := iIn_e h9 hin hmC (by omega)
              refine z_iload (pc := 245) hO 8 dL_areCompletions_245 rfl ?_
              refine z_if_eq (pc := 247) hO (tgt := 259) dL_areCompletions_247 (by decide) (by decide) (fun h => absurd h (by decide)) (fun _ => ?_)
              refine z_iload (pc := 250) hO 9 dL_areCompletions_250 rfl ?_
              refine z_if_eq (pc := 252) hO (tgt := 259) dL_areCompletions_252 (by decide) (by omega) (fun b7 => ?_) (fun b7 => ?_)
              · exfalso; omega
              · refine z_iconst (pc := 255) hO dL_areCompletions_255 ?_
                refine z_goto (pc := 256) hO (tgt := 260) dL_areCompletions_256 (by decide) ?_
                exact fin _ _ hfr
            · refine z_iload (pc := 76) hO 8 dL_areCompletions_76 rfl ?_
              refine z_if_eq (pc := 78) hO (tgt := 245) dL_areCompletions_78 (by decide) (by decide) (fun h => absurd h (by decide)) (fun _ => ?_)
              have hgw := hmem _ (GD_mem (C := C) (v := w) ⟨h0.1, by omega⟩)
              refine z_iconst (pc := 81) hO dL_areCompletions_81 ?_
              refine z_istore (pc := 82) hO (lv' := [(11, .int (zi 0)), (0, .ref (gA g 0)), (1, .int (zi sq)), (2, .int (zi n)), (3, .ref (gA g 71)), (4, .int (zi s)), (5, .int (zi m)), (6, .ref (gA g 2)), (7, .ref (gA g 3)), (8, .int (zi 1)), (9, .int (zi z9)), (10, .int (zi w))]) dL_areCompletions_82 (by decide) rfl ?_
              have L84 : ∀ (N : Nat) (p : Int) (u : Me), (n * n - p).toNat < N → (0 ≤ p ∧ p ≤ n * n) → (∀ a, a ≠ 2 → (a < 30 ∨ 36 < a) → u a = y a) → (∀ r, 0 ≤ r → r < p → u 2 r = GD C w r) → Zz Γ g 12 k0 n0 u 84 [(0, .ref (gA g 0)), (1, .int (zi sq)), (2, .int (zi n)), (3, .ref (gA g 71)), (4, .int (zi s)), (5, .int (zi m)), (6, .ref (gA g 2)), (7, .ref (gA g 3)), (8, .int (zi 1)), (9, .int (zi z9)), (10, .int (zi w)), (11, .int (zi p))] [] := by
                intro N
                induction N with
                | zero => intro p u hm; exact absurd hm (Nat.not_lt_zero _)
                | succ N ih84 =>
                  intro p u hm g0 gfr gr
                  have ufr : ∀ a, a ≠ 2 → a ≠ 3 → (a < 30 ∨ 36 < a) → u a = x a := fun a a1 a2 a3 => (gfr a a1 a3).trans (hfr a a1 a2 a3)
                  obtain ⟨k1, k2, k3, k4, u71⟩ := ac_k hS hq ufr
                  refine z_iload (pc := 84) hO 11 dL_areCompletions_84 rfl ?_
                  refine z_iload_n (pc := 86) hO 2 dL_areCompletions_86 rfl rfl ?_
                  refine z_iload_n (pc := 87) hO 2 dL_areCompletions_87 rfl rfl ?_
                  refine z_imul (pc := 88) hO dL_areCompletions_88 ?_
                  refine z_icmp_ge (pc := 89) hO (tgt := 153) dL_areCompletions_89 (by decide) (by omega) (by omega) (fun b8 => ?_) (fun b8 => ?_)
                  · have g2 : ∀ p, 0 ≤ p → p < n * n → u 2 p = GD C w p := fun r r0 r1 => gr r r0 (by omega)
                    refine z_iload (pc := 153) hO 8 dL_areCompletions_153 rfl ?_
                    refine z_if_eq (pc := 155) hO (tgt := 187) dL_areCompletions_155 (by decide) (by decide) (fun h => absurd h (by decide)) (fun _ => ?_)
                    refine z_aload (pc := 158) hO 6 dL_areCompletions_158 rfl ?_
                    refine z_iload_n (pc := 160) hO 2 dL_areCompletions_160 rfl rfl ?_
                    refine z_callSIq (pc := 161) hO (As := [.ref (gA g 2), .int (zi n)]) (st := []) (c_L_isRight (qL Γ) g u 2 n (by exact isI_2 (by rw [hX]; decide)) (by exact Rt_c hgw.1 g2)) k_L_25 rfl (Nat.le_of_ble_eq_true rfl) (by decide) (by decide) ⟨by omega, by omega⟩ dL_areCompletions_161 (fun z9 h11 => ?_)
                    subst h11
                    refine z_if_eq (pc := 164) hO (tgt := 187) dL_areCompletions_164 (by decide) (by decide) (fun h => absurd h (by decide)) (fun _ => ?_)
                    have J183 : (True) → Zz Γ g 12 k0 n0 u 183 [(0, .ref (gA g 0)), (1, .int (zi sq)), (2, .int (zi n)), (3, .ref (gA g 71)), (4, .int (zi s)), (5, .int (zi m)), (6, .ref (gA g 2)), (7, .ref (gA g 3)), (8, .int (zi 1)), (9, .int (zi z9)), (10, .int (zi w)), (11, .int (zi p))] [] := by
                      intro  _hJ
                      refine z_iconst (pc := 183) hO dL_areCompletions_183 ?_
                      refine z_goto (pc := 184) hO (tgt := 188) dL_areCompletions_184 (by decide) ?_
                      refine z_istore (pc := 188) hO (lv' := [(8, .int (zi 1)), (0, .ref (gA g 0)), (1, .int (zi sq)), (2, .int (zi n)), (3, .ref (gA g 71)), (4, .int (zi s)), (5, .int (zi m)), (6, .ref (gA g 2)), (7, .ref (gA g 3)), (9, .int (zi z9)), (10, .int (zi w)), (11, .int (zi p))]) dL_areCompletions_188 (by decide) rfl ?_
                      have J210 : ∀ (j0 : Int), ((j0 = 1 ∨ j0 = 0) ∧ (z9 = 1 → j0 = 1) ∧ ((∀ p, 0 ≤ p → p < n * n → GD C w p = x 71 p) → j0 = 1)) → Zz Γ g 12 k0 n0 u 210 [(0, .ref (gA g 0)), (1, .int (zi sq)), (2, .int (zi n)), (3, .ref (gA g 71)), (4, .int (zi s)), (5, .int (zi m)), (6, .ref (gA g 2)), (7, .ref (gA g 3)), (8, .int (zi 1)), (9, .int (zi z9)), (10, .int (zi w)), (11, .int (zi p))] [.int (zi j0)] := by
                        intro j0 hj0
                        refine z_istore (pc := 210) hO (lv' := [(9, .int (zi j0)), (0, .ref (gA g 0)), (1, .int (zi sq)), (2, .int (zi n)), (3, .ref (gA g 71)), (4, .int (zi s)), (5, .int (zi m)), (6, .ref (gA g 2)), (7, .ref (gA g 3)), (8, .int (zi 1)), (10, .int (zi w)), (11, .int (zi p))]) dL_areCompletions_210 (by decide) rfl ?_
                        refine z_iconst (pc := 212) hO dL_areCompletions_212 ?_
                        refine z_istore (pc := 213) hO (lv' := [(11, .int (zi 0)), (9, .int (zi j0)), (0, .ref (gA g 0)), (1, .int (zi sq)), (2, .int (zi n)), (3, .ref (gA g 71)), (4, .int (zi s)), (5, .int (zi m)), (6, .ref (gA g 2)), (7, .ref (gA g 3)), (8, .int (zi 1)), (10, .int (zi w))]) dL_areCompletions_213 (by decide) rfl ?_
                        have L215 : ∀ (N : Nat) (c : Int) (v : Me), (n * n - c).toNat < N → (0 ≤ c ∧ c ≤ n * n) → (∀ a, a ≠ 3 → v a = u a) → (∀ r, 0 ≤ r → r < c → v 3 r = u 2 r) → Zz Γ g 12 k0 n0 v 215 [(0, .ref (gA g 0)), (1, .int (zi sq)), (2, .int (zi n)), (3, .ref (gA g 71)), (4, .int (zi s)), (5, .int (zi m)), (6, .ref (gA g 2)), (7, .ref (gA g 3)), (8, .int (zi 1)), (9, .int (zi j0)), (10, .int (zi w)), (11, .int (zi c))] [] := by
                          intro N
                          induction N with
                          | zero => intro c v hm; exact absurd hm (Nat.not_lt_zero _)
                          | succ N ih215 =>
                            intro c v hm c0 cfr cr
                            refine z_iload (pc := 215) hO 11 dL_areCompletions_215 rfl ?_
                            refine z_iload_n (pc := 217) hO 2 dL_areCompletions_217 rfl rfl ?_
                            refine z_iload_n (pc := 218) hO 2 dL_areCompletions_218 rfl rfl ?_
                            refine z_imul (pc := 219) hO dL_areCompletions_219 ?_
                            refine z_icmp_ge (pc := 220) hO (tgt := 239) dL_areCompletions_220 (by decide) (by omega) (by omega) (fun b12 => ?_) (fun b12 => ?_)
                            · refine z_iinc (pc := 239) hO 10 (lv' := [(10, .int (zi (w + 1))), (0, .ref (gA g 0)), (1, .int (zi sq)), (2, .int (zi n)), (3, .ref (gA g 71)), (4, .int (zi s)), (5, .int (zi m)), (6, .ref (gA g 2)), (7, .ref (gA g 3)), (8, .int (zi 1)), (9, .int (zi j0)), (11, .int (zi c))]) dL_areCompletions_239 rfl (by decide) rfl ?_
                              refine z_goto (pc := 242) hO (tgt := 62) dL_areCompletions_242 (by decide) ?_
                              refine z_sub [1, 2, 3, 4, 5, 6, 7, 8, 9, 10, 0] rfl ?_
                              exact ih62 (w + 1) j0 v (by omega) (by omega) (by exact iIn_s h9 hj0) (by intro a a1 a2 a3; rw [cfr a a2, gfr a a1 a3]; exact hfr a a1 a2 a3) (by intro _ r r0 r1; rw [show w + 1 - 1 = w by omega, cr r r0 (by omega)]; exact g2 r r0 r1)
                            · refine z_aload (pc := 223) hO 7 dL_areCompletions_223 rfl ?_
                              refine z_iload (pc := 225) hO 11 dL_areCompletions_225 rfl ?_
                              refine z_aload (pc := 227) hO 6 dL_areCompletions_227 rfl ?_
                              refine z_iload (pc := 229) hO 11 dL_areCompletions_229 rfl ?_
                              refine z_iald (pc := 231) hO (isI_2 (by rw [hX]; decide)) (by omega) dL_areCompletions_231 ?_
                              refine z_iast (pc := 232) hO (isI_3 (by rw [hX]; decide)) (by omega) dL_areCompletions_232 (fun m13 e14 => ?_)
                              have hup2 := e14
                              refine z_iinc (pc := 233) hO 11 (lv' := [(11, .int (zi (c + 1))), (0, .ref (gA g 0)), (1, .int (zi sq)), (2, .int (zi n)), (3, .ref (gA g 71)), (4, .int (zi s)), (5, .int (zi m)), (6, .ref (gA g 2)), (7, .ref (gA g 3)), (8, .int (zi 1)), (9, .int (zi j0)), (10, .int (zi w))]) dL_areCompletions_233 rfl (by decide) rfl ?_
                              refine z_goto (pc := 236) hO (tgt := 215) dL_areCompletions_236 (by decide) ?_
                              refine z_sub [1, 2, 3, 4, 5, 6, 7, 8, 9, 10, 11, 0] rfl ?_
                              exact ih215 (c + 1) m13 (by omega) (by omega) (by intro a a1; rw [hup2, up_i _ _ _ a1]; exact cfr a a1) (by intro r r0 r1; rw [hup2]; by_cases e : r = c; (rw [e, up_s, cfr 2 (by decide)]); rw [up_n _ _ (by omega)]; exact cr r r0 (by omega))
                        refine z_sub [2, 3, 4, 5, 6, 7, 8, 9, 10, 1, 11, 0] rfl ?_
                        exact L215 _ 0 u (Nat.lt_succ_self _) (by omega) (by intro a _; rfl) (by intro r r0 r1; omega)
                      refine z_iload (pc := 190) hO 9 dL_areCompletions_190 rfl ?_
                      refine z_if_ne (pc := 192) hO (tgt := 205) dL_areCompletions_192 (by decide) (by omega) (fun b15 => ?_) (fun b15 => ?_)
                      · refine z_iconst (pc := 205) hO dL_areCompletions_205 ?_
                        refine z_goto (pc := 206) hO (tgt := 210) dL_areCompletions_206 (by decide) ?_
                        refine z_sub [1, 2, 3, 4, 5, 6, 7, 8, 0, 9, 10, 11] rfl ?_
                        exact J210 1 (by first | exact ⟨Or.inl rfl, fun _ => rfl, fun _ => rfl⟩ | exact ⟨Or.inr rfl, fun e => absurd e (by omega), fun q => absurd (hzd.mpr (fun r r0 r1 => by rw [g2 r r0 r1, u71]; exact q r r0 r1)) (by assumption)⟩)
                      · refine z_aload (pc := 195) hO 7 dL_areCompletions_195 rfl ?_
                        refine z_aload_n (pc := 197) hO 4 dL_areCompletions_197 rfl rfl ?_
                        refine z_iload_n (pc := 198) hO 3 dL_areCompletions_198 rfl rfl ?_
                        refine z_callSIq (pc := 199) hO (As := [.ref (gA g 2), .ref (gA g 71), .int (zi n)]) (st := []) (c_L_compare (qL Γ) g u 2 71 n (by exact isI_2 (by rw [hX]; decide)) (by exact isI_71) (by exact hR.1) (by intro r r0 r1; rw [g2 r r0 r1, u71]; have e2 := hgw.1.2.1.1 r r0 r1; have e3 := hR.2.1.1 r r0 r1; omega)) k_L_29 rfl (Nat.le_of_ble_eq_true rfl) (by decide) (by decide) ⟨by omega, by omega⟩ dL_areCompletions_199 (fun zd h17 => ?_)
                        have hzd := cmP_0 h17.1
                        have hzd2 := h17.2
                        refine z_if_ne (pc := 202) hO (tgt := 209) dL_areCompletions_202 (by decide) (by omega) (fun b18 => ?_) (fun b18 => ?_)
                        · refine z_iconst (pc := 209) hO dL_areCompletions_209 ?_
                          refine z_sub [1, 2, 3, 4, 5, 6, 7, 8, 0, 9, 10, 11] rfl ?_
                          exact J210 0 (by first | exact ⟨Or.inl rfl, fun _ => rfl, fun _ => rfl⟩ | exact ⟨Or.inr rfl, fun e => absurd e (by omega), fun q => absurd (hzd.mpr (fun r r0 r1 => by rw [g2 r r0 r1, u71]; exact q r r0 r1)) (by assumption)⟩)
                        · refine z_iconst (pc := 205) hO dL_areCompletions_205 ?_
                          refine z_goto (pc := 206) hO (tgt := 210) dL_areCompletions_206 (by decide) ?_
                          refine z_sub [1, 2, 3, 4, 5, 6, 7, 8, 0, 9, 10, 11] rfl ?_
                          exact J210 1 (by first | exact ⟨Or.inl rfl, fun _ => rfl, fun _ => rfl⟩ | exact ⟨Or.inr rfl, fun e => absurd e (by omega), fun q => absurd (hzd.mpr (fun r r0 r1 => by rw [g2 r r0 r1, u71]; exact q r r0 r1)) (by assumption)⟩)
                    refine z_iload (pc := 167) hO 10 dL_areCompletions_167 rfl ?_
                    refine z_if_eq (pc := 169) hO (tgt := 183) dL_areCompletions_169 (by decide) (by omega) (fun b19 => ?_) (fun b19 => ?_)
                    · refine z_sub [0, 1, 2, 3, 4, 5, 6, 7, 8, 9, 10, 11] rfl ?_
                      exact J183 (by trivial)
                    · have g3 : ∀ p, 0 ≤ p → p < n * n → u 3 p = GD C (w - 1) p := fun r r0 r1 => by rw [gfr 3 (by decide) (by omega)]; exact hbf (by omega) r r0 r1
                      have hgv := hmem _ (GD_mem (C := C) (v := w - 1) ⟨by omega, by omega⟩)
                      refine z_aload (pc := 172) hO 7 dL_areCompletions_172 rfl ?_
                      refine z_aload (pc := 174) hO 6 dL_areCompletions_174 rfl ?_
                      refine z_iload_n (pc := 176) hO 2 dL_areCompletions_176 rfl rfl ?_
                      refine z_callSIq (pc := 177) hO (As := [.ref (gA g 3), .ref (gA g 2), .int (zi n)]) (st := []) (c_L_compare (qL Γ) g u 3 2 n (by exact isI_3 (by rw [hX]; decide)) (by exact isI_2 (by rw [hX]; decide)) (by exact hR.1) (by intro r r0 r1; rw [g2 r r0 r1, g3 r r0 r1]; have e2 := hgw.1.2.1.1 r r0 r1; have e3 := hgv.1.2.1.1 r r0 r1; omega)) k_L_29 rfl (Nat.le_of_ble_eq_true rfl) (by decide) (by decide) ⟨by omega, by omega⟩ dL_areCompletions_177 (fun zc h21 => ?_)
                      have hzc := cmP_lt h21.1 (lxl_c g3 g2 (GD_lt hpw ⟨by omega, by omega, by omega⟩))
                      have hzc2 := h21.2
                      refine z_if_ge (pc := 180) hO (tgt := 187) dL_areCompletions_180 (by decide) (by omega) (fun b22 => ?_) (fun b22 => ?_)
                      · exfalso; omega
                      · refine z_sub [0, 1, 2, 3, 4, 5, 6, 7, 8, 9, 10, 11] rfl ?_
                        exact J183 (by trivial)
                  · have hrc := rc9 (n := n) (p := p) h34.2.2.1 ⟨g0.1, by omega⟩
                    refine z_aload (pc := 92) hO 6 dL_areCompletions_92 rfl ?_
                    refine z_iload (pc := 94) hO 11 dL_areCompletions_94 rfl ?_
                    refine z_aload_n (pc := 96) hO 0 dL_areCompletions_96 rfl rfl ?_
                    refine z_iload_n (pc := 97) hO 1 dL_areCompletions_97 rfl rfl ?_
                    refine z_iload (pc := 98) hO 10 dL_areCompletions_98 rfl ?_
                    refine z_iload (pc := 100) hO 11 dL_areCompletions_100 rfl ?_
                    refine z_iload_n (pc := 102) hO 2 dL_areCompletions_102 rfl rfl ?_
                    refine z_idiv (pc := 103) hO dL_areCompletions_103 (by omega) (by omega) ?_
                    refine z_iload (pc := 104) hO 11 dL_areCompletions_104 rfl ?_
                    refine z_iload_n (pc := 106) hO 2 dL_areCompletions_106 rfl rfl ?_
                    refine z_irem (pc := 107) hO dL_areCompletions_107 (by omega) (by omega) ?_
                    refine z_callVI (pc := 108) hO (As := [.int (zi sq), .int (zi w), .int (zi (p / n)), .int (zi (p % n))]) (st := [.int (zi p), .ref (gA g 2)]) (c_X11_completion (qL Γ) g u sq w (p / n) (p % n) (by exact k1) (by omega) (by omega) (by omega) (by omega) (by rw [k2, k3, k4, hn]; exact ⟨⟨hq.1, hq.2, ⟨hrc.1, hrc.2.1⟩, hrc.2.2.1, hrc.2.2.2.1⟩, h0.1, by omega, hc9⟩)) k_L_21 isO_0 rfl (Nat.le_of_ble_eq_true rfl) (by decide) (by decide) ⟨by omega, by omega⟩ dL_areCompletions_108 (fun z1 m23 h24 => ?_)
                    obtain ⟨hz1, hfr1⟩ := h24
                    rw [k3, k4, hn, ← hrc.2.2.2.2, cgt_get hC ⟨h0.1, by omega⟩] at hz1
                    have hzr := hgw.1.2.1.1 p g0.1 (by omega)
                    rw [← hz1] at hzr
                    refine z_iast (pc := 111) hO (isI_2 (by rw [hX]; decide)) (by omega) dL_areCompletions_111 (fun m25 e26 => ?_)
                    have hup := e26
                    refine z_iload (pc := 112) hO 8 dL_areCompletions_112 rfl ?_
                    refine z_if_eq (pc := 114) hO (tgt := 144) dL_areCompletions_114 (by decide) (by decide) (fun h => absurd h (by decide)) (fun _ => ?_)
                    have hbt := bnd_tb s p
                    refine z_iload (pc := 117) hO 4 dL_areCompletions_117 rfl ?_
                    refine z_iload (pc := 119) hO 11 dL_areCompletions_119 rfl ?_
                    refine z_ishr (pc := 121) hO (zi (shr s p)) dL_areCompletions_121 (by exact shr_z (by omega) (by omega)) ?_
                    refine z_iconst (pc := 122) hO dL_areCompletions_122 ?_
                    refine z_iand (pc := 123) hO (zi (bnd2 (shr s p) 1)) dL_areCompletions_123 (by exact bnd2_z (shr_r (by omega)).1 (by omega)) ?_
                    refine z_iconst (pc := 124) hO dL_areCompletions_124 ?_
                    refine z_icmp_eq (pc := 125) hO (tgt := 140) dL_areCompletions_125 (by decide) (by omega) (by omega) (fun b27 => ?_) (fun b27 => ?_)
                    · refine z_iconst (pc := 140) hO dL_areCompletions_140 ?_
                      refine z_goto (pc := 141) hO (tgt := 145) dL_areCompletions_141 (by decide) ?_
                      refine z_istore (pc := 145) hO (lv' := [(8, .int (zi 1)), (0, .ref (gA g 0)), (1, .int (zi sq)), (2, .int (zi n)), (3, .ref (gA g 71)), (4, .int (zi s)), (5, .int (zi m)), (6, .ref (gA g 2)), (7, .ref (gA g 3)), (9, .int (zi z9)), (10, .int (zi w)), (11, .int (zi p))]) dL_areCompletions_145 (by decide) rfl ?_
                      refine z_iinc (pc := 147) hO 11 (lv' := [(11, .int (zi (p + 1))), (8, .int (zi 1)), (0, .ref (gA g 0)), (1, .int (zi sq)), (2, .int (zi n)), (3, .ref (gA g 71)), (4, .int (zi s)), (5, .int (zi m)), (6, .ref (gA g 2)), (7, .ref (gA g 3)), (9, .int (zi z9)), (10, .int (zi w))]) dL_areCompletions_147 rfl (by decide) rfl ?_
                      refine z_goto (pc := 150) hO (tgt := 84) dL_areCompletions_150 (by decide) ?_
                      refine z_sub [2, 3, 4, 5, 6, 7, 8, 9, 1, 10, 11, 0] rfl ?_
                      exact ih84 (p + 1) m25 (by omega) (by omega) (by intro a a1 a3; rw [hup, up_i _ _ _ a1, hfr1 a a3]; exact gfr a a1 a3) (by intro r r0 r1; rw [hup]; by_cases e : r = p; (rw [e, up_s]; exact hz1); rw [up_n _ _ (by omega), hfr1 2 (by omega)]; exact gr r r0 (by omega))
                    · have hfp : nc x sq.toNat p = x 71 p := by
                          rcases hbt with q | q
                          · exact absurd q.1 (by assumption)
                          · rcases hb p g0.1 (by omega) with e | e
                            · exact absurd e.1 q.2
                            · exact e.2
                      have q1 : m25 2 p = x 71 p := by rw [hup, up_s, hz1]; exact hgw.2 p g0.1 (by omega) (by rw [hfp]; have := hR.2.1.1 p g0.1 (by omega); omega)
                      have q2 : m25 71 p = x 71 p := by rw [hup, up_i _ _ _ (by decide), hfr1 71 (by omega), u71]
                      have q3 := hR.2.1.1 p g0.1 (by omega)
                      refine z_aload (pc := 128) hO 6 dL_areCompletions_128 rfl ?_
                      refine z_iload (pc := 130) hO 11 dL_areCompletions_130 rfl ?_
                      refine z_iald (pc := 132) hO (isI_2 (by rw [hX]; decide)) (by omega) dL_areCompletions_132 ?_
                      refine z_aload_n (pc := 133) hO 3 dL_areCompletions_133 rfl rfl ?_
                      refine z_iload (pc := 134) hO 11 dL_areCompletions_134 rfl ?_
                      refine z_iald (pc := 136) hO isI_71 (by omega) dL_areCompletions_136 ?_
                      refine z_icmp_ne (pc := 137) hO (tgt := 144) dL_areCompletions_137 (by decide) (by omega) (by omega) (fun b28 => ?_) (fun b28 => ?_)
                      · exfalso; omega
                      · refine z_iconst (pc := 140) hO dL_areCompletions_140 ?_
                        refine z_goto (pc := 141) hO (tgt := 145) dL_areCompletions_141 (by decide) ?_
                        refine z_istore (pc := 145) hO (lv' := [(8, .int (zi 1)), (0, .ref (gA g 0)), (1, .int (zi sq)), (2, .int (zi n)), (3, .ref (gA g 71)), (4, .int (zi s)), (5, .int (zi m)), (6, .ref (gA g 2)), (7, .ref (gA g 3)), (9, .int (zi z9)), (10, .int (zi w)), (11, .int (zi p))]) dL_areCompletions_145 (by decide) rfl ?_
                        refine z_iinc (pc := 147) hO 11 (lv' := [(11, .int (zi (p + 1))), (8, .int (zi 1)), (0, .ref (gA g 0)), (1, .int (zi sq)), (2, .int (zi n)), (3, .ref (gA g 71)), (4, .int (zi s)), (5, .int (zi m)), (6, .ref (gA g 2)), (7, .ref (gA g 3)), (9, .int (zi z9)), (10, .int (zi w))]) dL_areCompletions_147 rfl (by decide) rfl ?_
                        refine z_goto (pc := 150) hO (tgt := 84) dL_areCompletions_150 (by decide) ?_
                        refine z_sub [2, 3, 4, 5, 6, 7, 8, 9, 1, 10, 11, 0] rfl ?_
                        exact ih84 (p + 1) m25 (by omega) (by omega) (by intro a a1 a3; rw [hup, up_i _ _ _ a1, hfr1 a a3]; exact gfr a a1 a3) (by intro r r0 r1; rw [hup]; by_cases e : r = p; (rw [e, up_s]; exact hz1); rw [up_n _ _ (by omega), hfr1 2 (by omega)]; exact gr r r0 (by omega))
              refine z_sub [1, 2, 3, 4, 5, 6, 7, 8, 9, 10, 11, 0] rfl ?_
              exact L84 _ 0 y (Nat.lt_succ_self _) (by omega) (by intro a _ _; rfl) (by intro r r0 r1; omega)
      refine z_sub [2, 3, 4, 5, 6, 7, 8, 9, 10, 1, 0] rfl ?_
      exact L62 _ 0 j9 m2 (Nat.lt_succ_self _) (by omega) (by exact iIn_0 hj9) (by intro a _ _ a3; exact hfr0 a a3) (by intro q; omega)
    refine z_iload (pc := 45) hO 6 dL_areCompletions_45 rfl ?_
    refine z_bipush (pc := 47) hO dL_areCompletions_47 (by decide) ?_
    refine z_icmp_le (pc := 49) hO (tgt := 56) dL_areCompletions_49 (by decide) (by omega) (by omega) (fun b29 => ?_) (fun b29 => ?_)
    · refine z_iconst (pc := 56) hO dL_areCompletions_56 ?_
      refine z_sub [1, 2, 3, 4, 5, 6, 7, 8, 0] rfl ?_
      exact J57 0 (by omega)
    · refine z_iconst (pc := 52) hO dL_areCompletions_52 ?_
      refine z_goto (pc := 53) hO (tgt := 57) dL_areCompletions_53 (by decide) ?_
      refine z_sub [1, 2, 3, 4, 5, 6, 7, 8, 0] rfl ?_
      exact J57 1 (by omega)

