set_option maxHeartbeats 4000000 in
theorem c_X12_lawsOf (l : Launch) (g : Gl) (x : Me) (q : Int)  (hG : MG x q) : ctQ l g yX12_lawsOf cX12_lawsOf 5 (some .int) 4 95 [.ref (gA g 50), .int (zi q)] x (QIu g (fun z x' => z = (lws (x 51 q) (nd x q) 8) ∧ x' = x)) := by
  refine ct_start (own := RX12) (lv := [(0, .ref (gA g 50)), (1, .int (zi q))]) (plainFor_of_name (by decide)) rfl (Nat.le_of_ble_eq_true rfl) rfl ?_
  intro Γ hΓ hO hr hQ _
  obtain ⟨hq, hs, hf⟩ := id hG
  have hsq := sq9 hs
  have hN := nd_rng hG
  refine z_iconst (pc := 0) hO dX12_lawsOf_0 ?_
  refine z_istore_n (pc := 1) hO (lv' := [(2, .int (zi 1)), (0, .ref (gA g 50)), (1, .int (zi q))]) dX12_lawsOf_1 rfl (by decide) rfl ?_
  refine z_iconst (pc := 2) hO dX12_lawsOf_2 ?_
  refine z_istore_n (pc := 3) hO (lv' := [(3, .int (zi 1)), (2, .int (zi 1)), (0, .ref (gA g 50)), (1, .int (zi q))]) dX12_lawsOf_3 rfl (by decide) rfl ?_
  refine z_iconst (pc := 4) hO dX12_lawsOf_4 ?_
  refine z_istore (pc := 5) hO (lv' := [(4, .int (zi 0)), (3, .int (zi 1)), (2, .int (zi 1)), (0, .ref (gA g 50)), (1, .int (zi q))]) dX12_lawsOf_5 (by decide) rfl ?_
  have L7 : ∀ (N : Nat) (b : Int) (i : Int), ((x 51 q * x 51 q) - i).toNat < N → (0 ≤ i ∧ i ≤ (x 51 q * x 51 q)) → ((b = 1 ∧ ∀ l, 0 ≤ l → l < i → nd x q l ≠ 0) ∨ (b = 0 ∧ ¬ ful (x 51 q) (nd x q))) → Zz Γ g 5 0 0 x 7 [(0, .ref (gA g 50)), (1, .int (zi q)), (2, .int (zi b)), (3, .int (zi 1)), (4, .int (zi i))] [] := by
    intro N
    induction N with
    | zero => intro b i hm; exact absurd hm (Nat.not_lt_zero _)
    | succ N ih7 =>
      intro b i hm h0 hA
      have hbb : b = 0 ∨ b = 1 := by rcases hA with ⟨e, _⟩ | ⟨e, _⟩ <;> omega
      refine z_iload (pc := 7) hO 4 dX12_lawsOf_7 rfl ?_
      refine z_aload_n (pc := 9) hO 0 dX12_lawsOf_9 rfl rfl ?_
      refine z_iload_n (pc := 10) hO 1 dX12_lawsOf_10 rfl rfl ?_
      refine z_callVIp (pc := 11) hO (As := [.int (zi q)]) (st := [.int (zi i)]) (c_X12_areaOf (qL Γ) g x q (by first | assumption | omega)) k_X12_100 isO_50 rfl (Nat.le_of_ble_eq_true rfl) (by decide) (by decide) ⟨by decide, by decide⟩ dX12_lawsOf_11 ?_
      refine z_icmp_ge (pc := 14) hO (tgt := 48) dX12_lawsOf_14 (by decide) (by omega) (by omega) (fun b1 => ?_) (fun b1 => ?_)
      · have hful : b = bi (ful (x 51 q) (nd x q)) := by
            rcases hA with ⟨e, h⟩ | ⟨e, h⟩
            · exact e.trans (bi_t (P := ful (x 51 q) (nd x q)) (fun l a c => h l a (by omega))).symm
            · rw [e, bi_f h]
        refine z_iconst (pc := 48) hO dX12_lawsOf_48 ?_
        refine z_istore (pc := 49) hO (lv' := [(4, .int (zi 0)), (0, .ref (gA g 50)), (1, .int (zi q)), (2, .int (zi b)), (3, .int (zi 1))]) dX12_lawsOf_49 (by decide) rfl ?_
        have L51 : ∀ (N : Nat) (p : Int) (i : Int), (x 51 q - i).toNat < N → (0 ≤ i ∧ i ≤ x 51 q) → ((p = 1 ∧ ∀ l, 0 ≤ l → l < i → lpow (x 51 q) (nd x q) 0 l = lpow (x 51 q) (nd x q) 0 0 ∧ lpow (x 51 q) (nd x q) 1 l = lpow (x 51 q) (nd x q) 0 0) ∨ (p = 0 ∧ ¬ pwr (x 51 q) (nd x q))) → Zz Γ g 5 0 0 x 51 [(0, .ref (gA g 50)), (1, .int (zi q)), (2, .int (zi b)), (3, .int (zi p)), (4, .int (zi i))] [] := by
          intro N
          induction N with
          | zero => intro p i hm; exact absurd hm (Nat.not_lt_zero _)
          | succ N ih51 =>
            intro p i hm h1 hA
            have hpp : p = 0 ∨ p = 1 := by rcases hA with ⟨e, _⟩ | ⟨e, _⟩ <;> omega
            have q1 := lpow_rng hs hN 0 i
            have q2 := lpow_rng hs hN 1 i
            have q3 := lpow_rng hs hN 0 0
            refine z_iload (pc := 51) hO 4 dX12_lawsOf_51 rfl ?_
            refine z_aload_n (pc := 53) hO 0 dX12_lawsOf_53 rfl rfl ?_
            refine gf_X12_sideOf (pc := 54) hO f_X12_7 dX12_lawsOf_54 ?_
            refine z_iload_n (pc := 57) hO 1 dX12_lawsOf_57 rfl rfl ?_
            refine z_iald (pc := 58) hO isI_51 (by omega) dX12_lawsOf_58 ?_
            refine z_icmp_ge (pc := 59) hO (tgt := 114) dX12_lawsOf_59 (by decide) (by omega) (by omega) (fun b2 => ?_) (fun b2 => ?_)
            · have hpw : p = bi (pwr (x 51 q) (nd x q)) := by
                  rcases hA with ⟨e, h⟩ | ⟨e, h⟩
                  · exact e.trans (bi_t (P := pwr (x 51 q) (nd x q)) (fun l a c => h l a (by omega))).symm
                  · rw [e, bi_f h]
              have J123 : ∀ (j1 : Int), (j1 = 1 * bi (ful (x 51 q) (nd x q))) → Zz Γ g 5 0 0 x 123 [(0, .ref (gA g 50)), (1, .int (zi q)), (2, .int (zi b)), (3, .int (zi p)), (4, .int (zi i))] [.int (zi j1)] := by
                intro j1 h_j1
                have J137 : ∀ (j2 : Int), (j2 = 2 * bi (lna (x 51 q) (nd x q) 0 (lsum (x 51 q) (nd x q) 0 0))) → Zz Γ g 5 0 0 x 137 [(0, .ref (gA g 50)), (1, .int (zi q)), (2, .int (zi b)), (3, .int (zi p)), (4, .int (zi i))] [.int (zi j2), .int (zi j1)] := by
                  intro j2 h_j2
                  refine z_iadd (pc := 137) hO dX12_lawsOf_137 ?_
                  have J152 : ∀ (j3 : Int), (j3 = 4 * bi (lna (x 51 q) (nd x q) 1 (lsum (x 51 q) (nd x q) 0 0))) → Zz Γ g 5 0 0 x 152 [(0, .ref (gA g 50)), (1, .int (zi q)), (2, .int (zi b)), (3, .int (zi p)), (4, .int (zi i))] [.int (zi j3), .int (zi (j1 + j2))] := by
                    intro j3 h_j3
                    refine z_iadd (pc := 152) hO dX12_lawsOf_152 ?_
                    have J167 : ∀ (j4 : Int), (j4 = 8 * bi (dia (x 51 q) (nd x q) (lsum (x 51 q) (nd x q) 0 0))) → Zz Γ g 5 0 0 x 167 [(0, .ref (gA g 50)), (1, .int (zi q)), (2, .int (zi b)), (3, .int (zi p)), (4, .int (zi i))] [.int (zi j4), .int (zi ((j1 + j2) + j3))] := by
                      intro j4 h_j4
                      refine z_iadd (pc := 167) hO dX12_lawsOf_167 ?_
                      refine z_istore (pc := 168) hO (lv' := [(4, .int (zi (((j1 + j2) + j3) + j4))), (0, .ref (gA g 50)), (1, .int (zi q)), (2, .int (zi b)), (3, .int (zi p))]) dX12_lawsOf_168 (by decide) rfl ?_
                      refine z_iload (pc := 170) hO 0 dX12_lawsOf_170 rfl ?_
                      have J196 : ∀ (j5 : Int), (j5 = 16 * bi (lna (x 51 q) (nd x q) 2 (lsum (x 51 q) (nd x q) 0 0) ∧ lna (x 51 q) (nd x q) 3 (lsum (x 51 q) (nd x q) 0 0))) → Zz Γ g 5 0 0 x 196 [(0, .ref (gA g 50)), (1, .int (zi q)), (2, .int (zi b)), (3, .int (zi p)), (4, .int (zi (((j1 + j2) + j3) + j4)))] [.int (zi j5), .int (zi (((j1 + j2) + j3) + j4))] := by
                        intro j5 h_j5
                        refine z_iadd (pc := 196) hO dX12_lawsOf_196 ?_
                        refine z_istore (pc := 197) hO (lv' := [(4, .int (zi ((((j1 + j2) + j3) + j4) + j5))), (0, .ref (gA g 50)), (1, .int (zi q)), (2, .int (zi b)), (3, .int (zi p))]) dX12_lawsOf_197 (by decide) rfl ?_
                        refine z_iload (pc := 199) hO 0 dX12_lawsOf_199 rfl ?_
                        have J215 : ∀ (j6 : Int), (j6 = 32 * bi (opo (x 51 q) (nd x q))) → Zz Γ g 5 0 0 x 215 [(0, .ref (gA g 50)), (1, .int (zi q)), (2, .int (zi b)), (3, .int (zi p)), (4, .int (zi ((((j1 + j2) + j3) + j4) + j5)))] [.int (zi j6), .int (zi ((((j1 + j2) + j3) + j4) + j5))] := by
                          intro j6 h_j6
                          refine z_iadd (pc := 215) hO dX12_lawsOf_215 ?_
                          have J230 : ∀ (j7 : Int), (j7 = 64 * bi (nrm (x 51 q) (nd x q))) → Zz Γ g 5 0 0 x 230 [(0, .ref (gA g 50)), (1, .int (zi q)), (2, .int (zi b)), (3, .int (zi p)), (4, .int (zi ((((j1 + j2) + j3) + j4) + j5)))] [.int (zi j7), .int (zi (((((j1 + j2) + j3) + j4) + j5) + j6))] := by
                            intro j7 h_j7
                            refine z_iadd (pc := 230) hO dX12_lawsOf_230 ?_
                            have J242 : ∀ (j8 : Int), (j8 = 128 * bi (pwr (x 51 q) (nd x q))) → Zz Γ g 5 0 0 x 242 [(0, .ref (gA g 50)), (1, .int (zi q)), (2, .int (zi b)), (3, .int (zi p)), (4, .int (zi ((((j1 + j2) + j3) + j4) + j5)))] [.int (zi j8), .int (zi ((((((j1 + j2) + j3) + j4) + j5) + j6) + j7))] := by
                              intro j8 h_j8
                              refine z_iadd (pc := 242) hO dX12_lawsOf_242 ?_
                              exact z_iret (pc := 243) hO hr hQ rfl dX12_lawsOf_243 ⟨by first | (rw [lws_8]; omega; done) | (exfalso; omega), rfl⟩
                            refine z_iload_n (pc := 231) hO 3 dX12_lawsOf_231 rfl rfl ?_
                            refine z_if_eq (pc := 232) hO (tgt := 241) dX12_lawsOf_232 (by decide) (by omega) (fun b3 => ?_) (fun b3 => ?_)
                            · refine z_iconst (pc := 241) hO dX12_lawsOf_241 ?_
                              refine z_sub [0, 1, 2, 3, 4] rfl ?_
                              exact J242 0 (by omega)
                            · refine z_sipush (pc := 235) hO dX12_lawsOf_235 (by decide) ?_
                              refine z_goto (pc := 238) hO (tgt := 242) dX12_lawsOf_238 (by decide) ?_
                              refine z_sub [0, 1, 2, 3, 4] rfl ?_
                              exact J242 128 (by omega)
                          refine z_aload_n (pc := 216) hO 0 dX12_lawsOf_216 rfl rfl ?_
                          refine z_iload_n (pc := 217) hO 1 dX12_lawsOf_217 rfl rfl ?_
                          refine z_callVB (pc := 218) hO (As := [.int (zi q)]) (st := [.int (zi (((((j1 + j2) + j3) + j4) + j5) + j6))]) (c_X12_isNormal (qL Γ) g x q (by first | assumption | omega)) k_X12_115 isO_50 rfl (Nat.le_of_ble_eq_true rfl) (by decide) (by decide) ⟨by decide, by decide⟩ dX12_lawsOf_218 (fun pb4 => ?_) (fun pb4 => ?_)
                          · skip
                            refine z_if_eq (pc := 221) hO (tgt := 229) dX12_lawsOf_221 (by decide) (by decide) (fun h => absurd h (by decide)) (fun _ => ?_)
                            refine z_bipush (pc := 224) hO dX12_lawsOf_224 (by decide) ?_
                            refine z_goto (pc := 226) hO (tgt := 230) dX12_lawsOf_226 (by decide) ?_
                            refine z_sub [0, 1, 2, 3, 4] rfl ?_
                            exact J230 64 (by first | (rw [bi_t (P := nrm (x 51 q) (nd x q)) (by assumption)]; rfl) | (rw [bi_f (P := nrm (x 51 q) (nd x q)) (by assumption)]; rfl))
                          · skip
                            refine z_if_eq (pc := 221) hO (tgt := 229) dX12_lawsOf_221 (by decide) (by decide) (fun _ => ?_) (fun h => absurd h (by decide))
                            refine z_iconst (pc := 229) hO dX12_lawsOf_229 ?_
                            refine z_sub [0, 1, 2, 3, 4] rfl ?_
                            exact J230 0 (by first | (rw [bi_t (P := nrm (x 51 q) (nd x q)) (by assumption)]; rfl) | (rw [bi_f (P := nrm (x 51 q) (nd x q)) (by assumption)]; rfl))
                        refine z_aload_n (pc := 201) hO 1 dX12_lawsOf_201 rfl rfl ?_
                        refine z_iload_n (pc := 202) hO 2 dX12_lawsOf_202 rfl rfl ?_
                        refine z_callVB (pc := 203) hO (As := [.int (zi q)]) (st := [.int (zi ((((j1 + j2) + j3) + j4) + j5))]) (c_X12_areOpposite (qL Γ) g x q (by first | assumption | omega)) k_X12_112 isO_50 rfl (Nat.le_of_ble_eq_true rfl) (by decide) (by decide) ⟨by decide, by decide⟩ dX12_lawsOf_203 (fun pb5 => ?_) (fun pb5 => ?_)
                        · skip
                          refine z_if_eq (pc := 206) hO (tgt := 214) dX12_lawsOf_206 (by decide) (by decide) (fun h => absurd h (by decide)) (fun _ => ?_)
                          refine z_bipush (pc := 209) hO dX12_lawsOf_209 (by decide) ?_
                          refine z_goto (pc := 211) hO (tgt := 215) dX12_lawsOf_211 (by decide) ?_
                          refine z_sub [1, 2, 3, 4, 0] rfl ?_
                          exact J215 32 (by first | (rw [bi_t (P := opo (x 51 q) (nd x q)) (by assumption)]; rfl) | (rw [bi_f (P := opo (x 51 q) (nd x q)) (by assumption)]; rfl))
                        · skip
                          refine z_if_eq (pc := 206) hO (tgt := 214) dX12_lawsOf_206 (by decide) (by decide) (fun _ => ?_) (fun h => absurd h (by decide))
                          refine z_iconst (pc := 214) hO dX12_lawsOf_214 ?_
                          refine z_sub [1, 2, 3, 4, 0] rfl ?_
                          exact J215 0 (by first | (rw [bi_t (P := opo (x 51 q) (nd x q)) (by assumption)]; rfl) | (rw [bi_f (P := opo (x 51 q) (nd x q)) (by assumption)]; rfl))
                      refine z_aload_n (pc := 172) hO 1 dX12_lawsOf_172 rfl rfl ?_
                      refine z_iload_n (pc := 173) hO 2 dX12_lawsOf_173 rfl rfl ?_
                      refine z_iconst (pc := 174) hO dX12_lawsOf_174 ?_
                      refine z_callVB (pc := 175) hO (As := [.int (zi q), .int (zi 2)]) (st := [.int (zi (((j1 + j2) + j3) + j4))]) (c_X12_areAlike (qL Γ) g x q 2 (by first | assumption | omega) (by first | assumption | omega)) k_X12_106 isO_50 rfl (Nat.le_of_ble_eq_true rfl) (by decide) (by decide) ⟨by decide, by decide⟩ dX12_lawsOf_175 (fun pb6 => ?_) (fun pb6 => ?_)
                      · skip
                        refine z_if_eq (pc := 178) hO (tgt := 195) dX12_lawsOf_178 (by decide) (by decide) (fun h => absurd h (by decide)) (fun _ => ?_)
                        refine z_aload_n (pc := 181) hO 1 dX12_lawsOf_181 rfl rfl ?_
                        refine z_iload_n (pc := 182) hO 2 dX12_lawsOf_182 rfl rfl ?_
                        refine z_iconst (pc := 183) hO dX12_lawsOf_183 ?_
                        refine z_callVB (pc := 184) hO (As := [.int (zi q), .int (zi 3)]) (st := [.int (zi (((j1 + j2) + j3) + j4))]) (c_X12_areAlike (qL Γ) g x q 3 (by first | assumption | omega) (by first | assumption | omega)) k_X12_106 isO_50 rfl (Nat.le_of_ble_eq_true rfl) (by decide) (by decide) ⟨by decide, by decide⟩ dX12_lawsOf_184 (fun pb7 => ?_) (fun pb7 => ?_)
                        · skip
                          refine z_if_eq (pc := 187) hO (tgt := 195) dX12_lawsOf_187 (by decide) (by decide) (fun h => absurd h (by decide)) (fun _ => ?_)
                          refine z_bipush (pc := 190) hO dX12_lawsOf_190 (by decide) ?_
                          refine z_goto (pc := 192) hO (tgt := 196) dX12_lawsOf_192 (by decide) ?_
                          refine z_sub [1, 2, 3, 4, 0] rfl ?_
                          exact J196 16 (by first | (rw [bi_t (P := lna (x 51 q) (nd x q) 2 (lsum (x 51 q) (nd x q) 0 0) ∧ lna (x 51 q) (nd x q) 3 (lsum (x 51 q) (nd x q) 0 0)) ⟨by assumption, by assumption⟩]; rfl) | (rw [bi_f (P := lna (x 51 q) (nd x q) 2 (lsum (x 51 q) (nd x q) 0 0) ∧ lna (x 51 q) (nd x q) 3 (lsum (x 51 q) (nd x q) 0 0)) (fun h => by have h1 := h.1; have h2 := h.2; contradiction)]; rfl))
                        · skip
                          refine z_if_eq (pc := 187) hO (tgt := 195) dX12_lawsOf_187 (by decide) (by decide) (fun _ => ?_) (fun h => absurd h (by decide))
                          refine z_iconst (pc := 195) hO dX12_lawsOf_195 ?_
                          refine z_sub [1, 2, 3, 4, 0] rfl ?_
                          exact J196 0 (by first | (rw [bi_t (P := lna (x 51 q) (nd x q) 2 (lsum (x 51 q) (nd x q) 0 0) ∧ lna (x 51 q) (nd x q) 3 (lsum (x 51 q) (nd x q) 0 0)) ⟨by assumption, by assumption⟩]; rfl) | (rw [bi_f (P := lna (x 51 q) (nd x q) 2 (lsum (x 51 q) (nd x q) 0 0) ∧ lna (x 51 q) (nd x q) 3 (lsum (x 51 q) (nd x q) 0 0)) (fun h => by have h1 := h.1; have h2 := h.2; contradiction)]; rfl))
                      · skip
                        refine z_if_eq (pc := 178) hO (tgt := 195) dX12_lawsOf_178 (by decide) (by decide) (fun _ => ?_) (fun h => absurd h (by decide))
                        refine z_iconst (pc := 195) hO dX12_lawsOf_195 ?_
                        refine z_sub [1, 2, 3, 4, 0] rfl ?_
                        exact J196 0 (by first | (rw [bi_t (P := lna (x 51 q) (nd x q) 2 (lsum (x 51 q) (nd x q) 0 0) ∧ lna (x 51 q) (nd x q) 3 (lsum (x 51 q) (nd x q) 0 0)) ⟨by assumption, by assumption⟩]; rfl) | (rw [bi_f (P := lna (x 51 q) (nd x q) 2 (lsum (x 51 q) (nd x q) 0 0) ∧ lna (x 51 q) (nd x q) 3 (lsum (x 51 q) (nd x q) 0 0)) (fun h => by have h1 := h.1; have h2 := h.2; contradiction)]; rfl))
                    refine z_aload_n (pc := 153) hO 0 dX12_lawsOf_153 rfl rfl ?_
                    refine z_iload_n (pc := 154) hO 1 dX12_lawsOf_154 rfl rfl ?_
                    refine z_callVB (pc := 155) hO (As := [.int (zi q)]) (st := [.int (zi ((j1 + j2) + j3))]) (c_X12_areDiagonals (qL Γ) g x q (by first | assumption | omega)) k_X12_109 isO_50 rfl (Nat.le_of_ble_eq_true rfl) (by decide) (by decide) ⟨by decide, by decide⟩ dX12_lawsOf_155 (fun pb8 => ?_) (fun pb8 => ?_)
                    · skip
                      refine z_if_eq (pc := 158) hO (tgt := 166) dX12_lawsOf_158 (by decide) (by decide) (fun h => absurd h (by decide)) (fun _ => ?_)
                      refine z_bipush (pc := 161) hO dX12_lawsOf_161 (by decide) ?_
                      refine z_goto (pc := 163) hO (tgt := 167) dX12_lawsOf_163 (by decide) ?_
                      refine z_sub [0, 1, 2, 3, 4] rfl ?_
                      exact J167 8 (by first | (rw [bi_t (P := dia (x 51 q) (nd x q) (lsum (x 51 q) (nd x q) 0 0)) (by assumption)]; rfl) | (rw [bi_f (P := dia (x 51 q) (nd x q) (lsum (x 51 q) (nd x q) 0 0)) (by assumption)]; rfl))
                    · skip
                      refine z_if_eq (pc := 158) hO (tgt := 166) dX12_lawsOf_158 (by decide) (by decide) (fun _ => ?_) (fun h => absurd h (by decide))
                      refine z_iconst (pc := 166) hO dX12_lawsOf_166 ?_
                      refine z_sub [0, 1, 2, 3, 4] rfl ?_
                      exact J167 0 (by first | (rw [bi_t (P := dia (x 51 q) (nd x q) (lsum (x 51 q) (nd x q) 0 0)) (by assumption)]; rfl) | (rw [bi_f (P := dia (x 51 q) (nd x q) (lsum (x 51 q) (nd x q) 0 0)) (by assumption)]; rfl))
                  refine z_aload_n (pc := 138) hO 0 dX12_lawsOf_138 rfl rfl ?_
                  refine z_iload_n (pc := 139) hO 1 dX12_lawsOf_139 rfl rfl ?_
                  refine z_iconst (pc := 140) hO dX12_lawsOf_140 ?_
                  refine z_callVB (pc := 141) hO (As := [.int (zi q), .int (zi 1)]) (st := [.int (zi (j1 + j2))]) (c_X12_areAlike (qL Γ) g x q 1 (by first | assumption | omega) (by first | assumption | omega)) k_X12_106 isO_50 rfl (Nat.le_of_ble_eq_true rfl) (by decide) (by decide) ⟨by decide, by decide⟩ dX12_lawsOf_141 (fun pb9 => ?_) (fun pb9 => ?_)
                  · skip
                    refine z_if_eq (pc := 144) hO (tgt := 151) dX12_lawsOf_144 (by decide) (by decide) (fun h => absurd h (by decide)) (fun _ => ?_)
                    refine z_iconst (pc := 147) hO dX12_lawsOf_147 ?_
                    refine z_goto (pc := 148) hO (tgt := 152) dX12_lawsOf_148 (by decide) ?_
                    refine z_sub [0, 1, 2, 3, 4] rfl ?_
                    exact J152 4 (by first | (rw [bi_t (P := lna (x 51 q) (nd x q) 1 (lsum (x 51 q) (nd x q) 0 0)) (by assumption)]; rfl) | (rw [bi_f (P := lna (x 51 q) (nd x q) 1 (lsum (x 51 q) (nd x q) 0 0)) (by assumption)]; rfl))
                  · skip
                    refine z_if_eq (pc := 144) hO (tgt := 151) dX12_lawsOf_144 (by decide) (by decide) (fun _ => ?_) (fun h => absurd h (by decide))
                    refine z_iconst (pc := 151) hO dX12_lawsOf_151 ?_
                    refine z_sub [0, 1, 2, 3, 4] rfl ?_
                    exact J152 0 (by first | (rw [bi_t (P := lna (x 51 q) (nd x q) 1 (lsum (x 51 q) (nd x q) 0 0)) (by assumption)]; rfl) | (rw [bi_f (P := lna (x 51 q) (nd x q) 1 (lsum (x 51 q) (nd x q) 0 0)) (by assumption)]; rfl))
                refine z_aload_n (pc := 123) hO 0 dX12_lawsOf_123 rfl rfl ?_
                refine z_iload_n (pc := 124) hO 1 dX12_lawsOf_124 rfl rfl ?_
                refine z_iconst (pc := 125) hO dX12_lawsOf_125 ?_
                refine z_callVB (pc := 126) hO (As := [.int (zi q), .int (zi 0)]) (st := [.int (zi j1)]) (c_X12_areAlike (qL Γ) g x q 0 (by first | assumption | omega) (by first | assumption | omega)) k_X12_106 isO_50 rfl (Nat.le_of_ble_eq_true rfl) (by decide) (by decide) ⟨by decide, by decide⟩ dX12_lawsOf_126 (fun pb10 => ?_) (fun pb10 => ?_)
                · skip
                  refine z_if_eq (pc := 129) hO (tgt := 136) dX12_lawsOf_129 (by decide) (by decide) (fun h => absurd h (by decide)) (fun _ => ?_)
                  refine z_iconst (pc := 132) hO dX12_lawsOf_132 ?_
                  refine z_goto (pc := 133) hO (tgt := 137) dX12_lawsOf_133 (by decide) ?_
                  refine z_sub [0, 1, 2, 3, 4] rfl ?_
                  exact J137 2 (by first | (rw [bi_t (P := lna (x 51 q) (nd x q) 0 (lsum (x 51 q) (nd x q) 0 0)) (by assumption)]; rfl) | (rw [bi_f (P := lna (x 51 q) (nd x q) 0 (lsum (x 51 q) (nd x q) 0 0)) (by assumption)]; rfl))
                · skip
                  refine z_if_eq (pc := 129) hO (tgt := 136) dX12_lawsOf_129 (by decide) (by decide) (fun _ => ?_) (fun h => absurd h (by decide))
                  refine z_iconst (pc := 136) hO dX12_lawsOf_136 ?_
                  refine z_sub [0, 1, 2, 3, 4] rfl ?_
                  exact J137 0 (by first | (rw [bi_t (P := lna (x 51 q) (nd x q) 0 (lsum (x 51 q) (nd x q) 0 0)) (by assumption)]; rfl) | (rw [bi_f (P := lna (x 51 q) (nd x q) 0 (lsum (x 51 q) (nd x q) 0 0)) (by assumption)]; rfl))
              refine z_iload_n (pc := 114) hO 2 dX12_lawsOf_114 rfl rfl ?_
              refine z_if_eq (pc := 115) hO (tgt := 122) dX12_lawsOf_115 (by decide) (by omega) (fun b11 => ?_) (fun b11 => ?_)
              · refine z_iconst (pc := 122) hO dX12_lawsOf_122 ?_
                refine z_sub [0, 1, 2, 3, 4] rfl ?_
                exact J123 0 (by omega)
              · refine z_iconst (pc := 118) hO dX12_lawsOf_118 ?_
                refine z_goto (pc := 119) hO (tgt := 123) dX12_lawsOf_119 (by decide) ?_
                refine z_sub [0, 1, 2, 3, 4] rfl ?_
                exact J123 1 (by omega)
            · refine z_iload_n (pc := 62) hO 3 dX12_lawsOf_62 rfl rfl ?_
              refine z_if_eq (pc := 63) hO (tgt := 106) dX12_lawsOf_63 (by decide) (by omega) (fun b12 => ?_) (fun b12 => ?_)
              · refine z_iconst (pc := 106) hO dX12_lawsOf_106 ?_
                refine z_istore_n (pc := 107) hO (lv' := [(3, .int (zi 0)), (0, .ref (gA g 50)), (1, .int (zi q)), (2, .int (zi b)), (4, .int (zi i))]) dX12_lawsOf_107 rfl (by decide) rfl ?_
                refine z_iinc (pc := 108) hO 4 (lv' := [(4, .int (zi (i + 1))), (3, .int (zi 0)), (0, .ref (gA g 50)), (1, .int (zi q)), (2, .int (zi b))]) dX12_lawsOf_108 rfl (by decide) rfl ?_
                refine z_goto (pc := 111) hO (tgt := 51) dX12_lawsOf_111 (by decide) ?_
                refine z_sub [2, 3, 4, 1, 0] rfl ?_
                exact ih51 0 (i + 1) (by omega) (by omega) (by first | exact Or.inl ⟨rfl, fun l a c => dite (l = i) (fun e => by rw [e]; exact ⟨by assumption, by assumption⟩) (fun e => by rcases hA with ⟨_, h⟩ | ⟨h, _⟩; exact h l a (by omega); omega)⟩ | exact Or.inr ⟨rfl, fun h => by rcases hA with ⟨_, _⟩ | ⟨_, h2⟩; (first | (have := h i (by omega) (by omega); have h4 := this.1; have h5 := this.2; first | contradiction | omega) | omega); exact h2 h⟩)
              · refine z_aload_n (pc := 66) hO 0 dX12_lawsOf_66 rfl rfl ?_
                refine z_iload_n (pc := 67) hO 1 dX12_lawsOf_67 rfl rfl ?_
                refine z_iconst (pc := 68) hO dX12_lawsOf_68 ?_
                refine z_iload (pc := 69) hO 4 dX12_lawsOf_69 rfl ?_
                refine z_callVIp (pc := 71) hO (As := [.int (zi q), .int (zi 0), .int (zi i)]) (st := []) (c_X12_squaresOf (qL Γ) g x q 0 i (by first | assumption | omega) (by first | assumption | omega) (by first | assumption | omega)) k_X12_103 isO_50 rfl (Nat.le_of_ble_eq_true rfl) (by decide) (by decide) ⟨by decide, by decide⟩ dX12_lawsOf_71 ?_
                refine z_aload_n (pc := 74) hO 0 dX12_lawsOf_74 rfl rfl ?_
                refine z_iload_n (pc := 75) hO 1 dX12_lawsOf_75 rfl rfl ?_
                refine z_iconst (pc := 76) hO dX12_lawsOf_76 ?_
                refine z_iconst (pc := 77) hO dX12_lawsOf_77 ?_
                refine z_callVIp (pc := 78) hO (As := [.int (zi q), .int (zi 0), .int (zi 0)]) (st := [.int (zi (lpow (x 51 q) (nd x q) 0 i))]) (c_X12_squaresOf (qL Γ) g x q 0 0 (by first | assumption | omega) (by first | assumption | omega) (by first | assumption | omega)) k_X12_103 isO_50 rfl (Nat.le_of_ble_eq_true rfl) (by decide) (by decide) ⟨by decide, by decide⟩ dX12_lawsOf_78 ?_
                refine z_icmp_ne (pc := 81) hO (tgt := 106) dX12_lawsOf_81 (by decide) (by omega) (by omega) (fun b13 => ?_) (fun b13 => ?_)
                · refine z_iconst (pc := 106) hO dX12_lawsOf_106 ?_
                  refine z_istore_n (pc := 107) hO (lv' := [(3, .int (zi 0)), (0, .ref (gA g 50)), (1, .int (zi q)), (2, .int (zi b)), (4, .int (zi i))]) dX12_lawsOf_107 rfl (by decide) rfl ?_
                  refine z_iinc (pc := 108) hO 4 (lv' := [(4, .int (zi (i + 1))), (3, .int (zi 0)), (0, .ref (gA g 50)), (1, .int (zi q)), (2, .int (zi b))]) dX12_lawsOf_108 rfl (by decide) rfl ?_
                  refine z_goto (pc := 111) hO (tgt := 51) dX12_lawsOf_111 (by decide) ?_
                  refine z_sub [2, 3, 4, 1, 0] rfl ?_
                  exact ih51 0 (i + 1) (by omega) (by omega) (by first | exact Or.inl ⟨rfl, fun l a c => dite (l = i) (fun e => by rw [e]; exact ⟨by assumption, by assumption⟩) (fun e => by rcases hA with ⟨_, h⟩ | ⟨h, _⟩; exact h l a (by omega); omega)⟩ | exact Or.inr ⟨rfl, fun h => by rcases hA with ⟨_, _⟩ | ⟨_, h2⟩; (first | (have := h i (by omega) (by omega); have h4 := this.1; have h5 := this.2; first | contradiction | omega) | omega); exact h2 h⟩)
                · refine z_aload_n (pc := 84) hO 0 dX12_lawsOf_84 rfl rfl ?_
                  refine z_iload_n (pc := 85) hO 1 dX12_lawsOf_85 rfl rfl ?_
                  refine z_iconst (pc := 86) hO dX12_lawsOf_86 ?_
                  refine z_iload (pc := 87) hO 4 dX12_lawsOf_87 rfl ?_
                  refine z_callVIp (pc := 89) hO (As := [.int (zi q), .int (zi 1), .int (zi i)]) (st := []) (c_X12_squaresOf (qL Γ) g x q 1 i (by first | assumption | omega) (by first | assumption | omega) (by first | assumption | omega)) k_X12_103 isO_50 rfl (Nat.le_of_ble_eq_true rfl) (by decide) (by decide) ⟨by decide, by decide⟩ dX12_lawsOf_89 ?_
                  refine z_aload_n (pc := 92) hO 0 dX12_lawsOf_92 rfl rfl ?_
                  refine z_iload_n (pc := 93) hO 1 dX12_lawsOf_93 rfl rfl ?_
                  refine z_iconst (pc := 94) hO dX12_lawsOf_94 ?_
                  refine z_iconst (pc := 95) hO dX12_lawsOf_95 ?_
                  refine z_callVIp (pc := 96) hO (As := [.int (zi q), .int (zi 0), .int (zi 0)]) (st := [.int (zi (lpow (x 51 q) (nd x q) 1 i))]) (c_X12_squaresOf (qL Γ) g x q 0 0 (by first | assumption | omega) (by first | assumption | omega) (by first | assumption | omega)) k_X12_103 isO_50 rfl (Nat.le_of_ble_eq_true rfl) (by decide) (by decide) ⟨by decide, by decide⟩ dX12_lawsOf_96 ?_
                  refine z_icmp_ne (pc := 99) hO (tgt := 106) dX12_lawsOf_99 (by decide) (by omega) (by omega) (fun b14 => ?_) (fun b14 => ?_)
                  · refine z_iconst (pc := 106) hO dX12_lawsOf_106 ?_
                    refine z_istore_n (pc := 107) hO (lv' := [(3, .int (zi 0)), (0, .ref (gA g 50)), (1, .int (zi q)), (2, .int (zi b)), (4, .int (zi i))]) dX12_lawsOf_107 rfl (by decide) rfl ?_
                    refine z_iinc (pc := 108) hO 4 (lv' := [(4, .int (zi (i + 1))), (3, .int (zi 0)), (0, .ref (gA g 50)), (1, .int (zi q)), (2, .int (zi b))]) dX12_lawsOf_108 rfl (by decide) rfl ?_
                    refine z_goto (pc := 111) hO (tgt := 51) dX12_lawsOf_111 (by decide) ?_
                    refine z_sub [2, 3, 4, 1, 0] rfl ?_
                    exact ih51 0 (i + 1) (by omega) (by omega) (by first | exact Or.inl ⟨rfl, fun l a c => dite (l = i) (fun e => by rw [e]; exact ⟨by assumption, by assumption⟩) (fun e => by rcases hA with ⟨_, h⟩ | ⟨h, _⟩; exact h l a (by omega); omega)⟩ | exact Or.inr ⟨rfl, fun h => by rcases hA with ⟨_, _⟩ | ⟨_, h2⟩; (first | (have := h i (by omega) (by omega); have h4 := this.1; have h5 := this.2; first | contradiction | omega) | omega); exact h2 h⟩)
                  · refine z_iconst (pc := 102) hO dX12_lawsOf_102 ?_
                    refine z_goto (pc := 103) hO (tgt := 107) dX12_lawsOf_103 (by decide) ?_
                    refine z_istore_n (pc := 107) hO (lv' := [(3, .int (zi 1)), (0, .ref (gA g 50)), (1, .int (zi q)), (2, .int (zi b)), (4, .int (zi i))]) dX12_lawsOf_107 rfl (by decide) rfl ?_
                    refine z_iinc (pc := 108) hO 4 (lv' := [(4, .int (zi (i + 1))), (3, .int (zi 1)), (0, .ref (gA g 50)), (1, .int (zi q)), (2, .int (zi b))]) dX12_lawsOf_108 rfl (by decide) rfl ?_
                    refine z_goto (pc := 111) hO (tgt := 51) dX12_lawsOf_111 (by decide) ?_
                    refine z_sub [2, 3, 4, 1, 0] rfl ?_
                    exact ih51 1 (i + 1) (by omega) (by omega) (by first | exact Or.inl ⟨rfl, fun l a c => dite (l = i) (fun e => by rw [e]; exact ⟨by assumption, by assumption⟩) (fun e => by rcases hA with ⟨_, h⟩ | ⟨h, _⟩; exact h l a (by omega); omega)⟩ | exact Or.inr ⟨rfl, fun h => by rcases hA with ⟨_, _⟩ | ⟨_, h2⟩; (first | (have := h i (by omega) (by omega); have h4 := this.1; have h5 := this.2; first | contradiction | omega) | omega); exact h2 h⟩)
        refine z_sub [1, 2, 3, 4, 0] rfl ?_
        exact L51 _ 1 0 (Nat.lt_succ_self _) (by omega) (by exact Or.inl ⟨rfl, fun l a c => by omega⟩)
      · refine z_iload_n (pc := 17) hO 2 dX12_lawsOf_17 rfl rfl ?_
        refine z_if_eq (pc := 18) hO (tgt := 40) dX12_lawsOf_18 (by decide) (by omega) (fun b15 => ?_) (fun b15 => ?_)
        · refine z_iconst (pc := 40) hO dX12_lawsOf_40 ?_
          refine z_istore_n (pc := 41) hO (lv' := [(2, .int (zi 0)), (0, .ref (gA g 50)), (1, .int (zi q)), (3, .int (zi 1)), (4, .int (zi i))]) dX12_lawsOf_41 rfl (by decide) rfl ?_
          refine z_iinc (pc := 42) hO 4 (lv' := [(4, .int (zi (i + 1))), (2, .int (zi 0)), (0, .ref (gA g 50)), (1, .int (zi q)), (3, .int (zi 1))]) dX12_lawsOf_42 rfl (by decide) rfl ?_
          refine z_goto (pc := 45) hO (tgt := 7) dX12_lawsOf_45 (by decide) ?_
          refine z_sub [2, 3, 1, 4, 0] rfl ?_
          exact ih7 0 (i + 1) (by omega) (by omega) (by first | exact Or.inl ⟨rfl, fun l a c => dite (l = i) (fun e => by rw [e]; first | assumption | omega) (fun e => by rcases hA with ⟨_, h⟩ | ⟨h, _⟩; exact h l a (by omega); omega)⟩ | exact Or.inr ⟨rfl, fun h => by rcases hA with ⟨_, _⟩ | ⟨_, h2⟩; (first | (have := h i (by omega) (by omega); first | contradiction | omega) | omega); exact h2 h⟩)
        · have g1 : nd x q i = x 52 (81 * q + i) := nd_in (by omega)
          have n1 := hN i
          refine z_aload_n (pc := 21) hO 0 dX12_lawsOf_21 rfl rfl ?_
          refine gf_X12_numbers (pc := 22) hO f_X12_13 dX12_lawsOf_22 ?_
          refine z_bipush (pc := 25) hO dX12_lawsOf_25 (by decide) ?_
          refine z_iload_n (pc := 27) hO 1 dX12_lawsOf_27 rfl rfl ?_
          refine z_imul (pc := 28) hO dX12_lawsOf_28 ?_
          refine z_iload (pc := 29) hO 4 dX12_lawsOf_29 rfl ?_
          refine z_iadd (pc := 31) hO dX12_lawsOf_31 ?_
          refine z_iald (pc := 32) hO isI_52 (by omega) dX12_lawsOf_32 ?_
          refine z_if_le (pc := 33) hO (tgt := 40) dX12_lawsOf_33 (by decide) (by omega) (fun b16 => ?_) (fun b16 => ?_)
          · refine z_iconst (pc := 40) hO dX12_lawsOf_40 ?_
            refine z_istore_n (pc := 41) hO (lv' := [(2, .int (zi 0)), (0, .ref (gA g 50)), (1, .int (zi q)), (3, .int (zi 1)), (4, .int (zi i))]) dX12_lawsOf_41 rfl (by decide) rfl ?_
            refine z_iinc (pc := 42) hO 4 (lv' := [(4, .int (zi (i + 1))), (2, .int (zi 0)), (0, .ref (gA g 50)), (1, .int (zi q)), (3, .int (zi 1))]) dX12_lawsOf_42 rfl (by decide) rfl ?_
            refine z_goto (pc := 45) hO (tgt := 7) dX12_lawsOf_45 (by decide) ?_
            refine z_sub [2, 3, 1, 4, 0] rfl ?_
            exact ih7 0 (i + 1) (by omega) (by omega) (by first | exact Or.inl ⟨rfl, fun l a c => dite (l = i) (fun e => by rw [e]; first | assumption | omega) (fun e => by rcases hA with ⟨_, h⟩ | ⟨h, _⟩; exact h l a (by omega); omega)⟩ | exact Or.inr ⟨rfl, fun h => by rcases hA with ⟨_, _⟩ | ⟨_, h2⟩; (first | (have := h i (by omega) (by omega); first | contradiction | omega) | omega); exact h2 h⟩)
          · refine z_iconst (pc := 36) hO dX12_lawsOf_36 ?_
            refine z_goto (pc := 37) hO (tgt := 41) dX12_lawsOf_37 (by decide) ?_
            refine z_istore_n (pc := 41) hO (lv' := [(2, .int (zi 1)), (0, .ref (gA g 50)), (1, .int (zi q)), (3, .int (zi 1)), (4, .int (zi i))]) dX12_lawsOf_41 rfl (by decide) rfl ?_
            refine z_iinc (pc := 42) hO 4 (lv' := [(4, .int (zi (i + 1))), (2, .int (zi 1)), (0, .ref (gA g 50)), (1, .int (zi q)), (3, .int (zi 1))]) dX12_lawsOf_42 rfl (by decide) rfl ?_
            refine z_goto (pc := 45) hO (tgt := 7) dX12_lawsOf_45 (by decide) ?_
            refine z_sub [2, 3, 1, 4, 0] rfl ?_
            exact ih7 1 (i + 1) (by omega) (by omega) (by first | exact Or.inl ⟨rfl, fun l a c => dite (l = i) (fun e => by rw [e]; first | assumption | omega) (fun e => by rcases hA with ⟨_, h⟩ | ⟨h, _⟩; exact h l a (by omega); omega)⟩ | exact Or.inr ⟨rfl, fun h => by rcases hA with ⟨_, _⟩ | ⟨_, h2⟩; (first | (have := h i (by omega) (by omega); first | contradiction | omega) | omega); exact h2 h⟩)
  refine z_sub [3, 4, 2, 1, 0] rfl ?_
  exact L7 _ 1 0 (Nat.lt_succ_self _) (by omega) (by exact Or.inl ⟨rfl, fun l a c => by omega⟩)

