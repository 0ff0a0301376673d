set_option maxHeartbeats 4000000 in
    theorem law_q0 {Γ : Gam} {g : Gl} {k0 n0 b L : Nat} {xs : Nat → Int32} (hX : gX g = 0) (hO : Ok Γ g cL_law 12 RL 2048 84000 600104 7301314) (hkn : k0 + 2 ≤ 600104 ∧ n0 + 32 ≤ 7301314) (hXs : va_X b L xs (qS Γ) (qS Γ).heap) (hbS : b < gS g) (hL : L ≤ 260) (x : Me) (k v : Int) (hk : 0 ≤ k ∧ k < 6) (hv : 0 ≤ v ∧ v < 2147483648) (I0 : LV x) (fin : ∀ x' : Me, LV x' → Zz Γ g 12 (k0 + 2) (n0 + 32) x' 41 [(0, .ref b), (1, .ref (gA g 0)), (2, .ref (gA g 71)), (3, .int (zi 1)), (4, .int (zi (k + 1)))] []) : Zz Γ g 12 k0 n0 x 72 [(0, .ref b), (1, .ref (gA g 0)), (2, .ref (gA g 71)), (3, .int (zi 1)), (4, .int (zi k)), (5, .int (zi v)), (6, .int (zi 0)), (7, .int (zi 3))] [] := by
  have LS := I0.1.1
  refine z_aload_n (pc := 72) hO 1 dL_law_72 rfl rfl ?_
  refine z_iload (pc := 73) hO 6 dL_law_73 rfl ?_
  refine z_iconst (pc := 75) hO dL_law_75 ?_
  refine z_iload (pc := 76) hO 5 dL_law_76 rfl ?_
  refine z_iconst (pc := 78) hO dL_law_78 ?_
  refine z_idiv (pc := 79) hO dL_law_79 (by omega) (by omega) ?_
  refine z_iconst (pc := 80) hO dL_law_80 ?_
  refine z_irem (pc := 81) hO dL_law_81 (by omega) (by omega) ?_
  refine z_callVI (pc := 82) hO (As := [.int (zi 0), .int (zi 0), .int (zi ((v / 2) % 4))]) (st := []) (c_X11_change (qL Γ) g x 0 0 ((v / 2) % 4) (by exact I0.1) (by omega) (by omega) (by omega) (by exact LV_ok (q := 0) (n := 3) I0 (Or.inl ⟨rfl, rfl⟩) (by unfold chb; omega))) k_L_42 isO_0 rfl (Nat.le_of_ble_eq_true rfl) (by decide) (by decide) ⟨by omega, by omega⟩ dL_law_82 (fun z1 m2 h3 => ?_)
  have I1 := LV_ch (q := 0) (n := 3) I0 (Or.inl ⟨rfl, rfl⟩) (by unfold chb; omega) h3
  refine z_pop (pc := 85) hO dL_law_85 rfl ?_
  refine z_aload_n (pc := 86) hO 1 dL_law_86 rfl rfl ?_
  refine z_iload (pc := 87) hO 6 dL_law_87 rfl ?_
  refine z_iconst (pc := 89) hO dL_law_89 ?_
  refine z_iload (pc := 90) hO 5 dL_law_90 rfl ?_
  refine z_bipush (pc := 92) hO dL_law_92 (by decide) ?_
  refine z_idiv (pc := 94) hO dL_law_94 (by omega) (by omega) ?_
  refine z_iconst (pc := 95) hO dL_law_95 ?_
  refine z_irem (pc := 96) hO dL_law_96 (by omega) (by omega) ?_
  refine z_callVI (pc := 97) hO (As := [.int (zi 0), .int (zi 1), .int (zi ((v / 8) % 2))]) (st := []) (c_X11_change (qL Γ) g m2 0 1 ((v / 8) % 2) (by exact I1.1) (by omega) (by omega) (by omega) (by exact LV_ok (q := 0) (n := 3) I1 (Or.inl ⟨rfl, rfl⟩) (by unfold chb; omega))) k_L_42 isO_0 rfl (Nat.le_of_ble_eq_true rfl) (by decide) (by decide) ⟨by omega, by omega⟩ dL_law_97 (fun z4 m5 h6 => ?_)
  have I2 := LV_ch (q := 0) (n := 3) I1 (Or.inl ⟨rfl, rfl⟩) (by unfold chb; omega) h6
  refine z_pop (pc := 100) hO dL_law_100 rfl ?_
  refine z_aload_n (pc := 101) hO 1 dL_law_101 rfl rfl ?_
  refine z_iload (pc := 102) hO 6 dL_law_102 rfl ?_
  refine z_iconst (pc := 104) hO dL_law_104 ?_
  refine z_iload (pc := 105) hO 7 dL_law_105 rfl ?_
  refine z_iload (pc := 107) hO 7 dL_law_107 rfl ?_
  refine z_imul (pc := 109) hO dL_law_109 ?_
  refine z_iconst (pc := 110) hO dL_law_110 ?_
  refine z_iadd (pc := 111) hO dL_law_111 ?_
  refine z_callVI (pc := 112) hO (As := [.int (zi 0), .int (zi 2), .int (zi ((3 * 3) + 1))]) (st := []) (c_X11_change (qL Γ) g m5 0 2 ((3 * 3) + 1) (by exact I2.1) (by omega) (by omega) (by omega) (by exact LV_ok (q := 0) (n := 3) I2 (Or.inl ⟨rfl, rfl⟩) (by unfold chb; omega))) k_L_42 isO_0 rfl (Nat.le_of_ble_eq_true rfl) (by decide) (by decide) ⟨by omega, by omega⟩ dL_law_112 (fun z7 m8 h9 => ?_)
  have I3 := LV_ch (q := 0) (n := 3) I2 (Or.inl ⟨rfl, rfl⟩) (by unfold chb; omega) h9
  generalize m8 = xa at I3 ⊢
  refine z_pop (pc := 115) hO dL_law_115 rfl ?_
  refine z_iload (pc := 116) hO 6 dL_law_116 rfl ?_
  refine z_iconst (pc := 118) hO dL_law_118 ?_
  refine z_icmp_ne (pc := 119) hO (tgt := 137) dL_law_119 (by decide) (by decide) (by decide) (fun _ => ?_) (fun h => absurd h (by decide))
  refine z_iconst (pc := 137) hO dL_law_137 ?_
  refine z_istore (pc := 138) hO (lv' := [(8, .int (zi 0)), (0, .ref b), (1, .ref (gA g 0)), (2, .ref (gA g 71)), (3, .int (zi 1)), (4, .int (zi k)), (5, .int (zi v)), (6, .int (zi 0)), (7, .int (zi 3))]) dL_law_138 (by decide) rfl ?_
  refine z_iconst (pc := 140) hO dL_law_140 ?_
  refine z_istore (pc := 141) hO (lv' := [(9, .int (zi 0)), (8, .int (zi 0)), (0, .ref b), (1, .ref (gA g 0)), (2, .ref (gA g 71)), (3, .int (zi 1)), (4, .int (zi k)), (5, .int (zi v)), (6, .int (zi 0)), (7, .int (zi 3))]) dL_law_141 (by decide) rfl ?_
  have L143 : ∀ (N : Nat) (i : Int) (y : Me), (3 * 3 - i).toNat < N → (0 ≤ i ∧ i ≤ 3 * 3) → (∀ a, a ≠ 71 → y a = xa a) → (∀ r, 0 ≤ r → r < i → y 71 r = nc xa 0 r) → Zz Γ g 12 k0 n0 y 143 [(0, .ref b), (1, .ref (gA g 0)), (2, .ref (gA g 71)), (3, .int (zi 1)), (4, .int (zi k)), (5, .int (zi v)), (6, .int (zi 0)), (7, .int (zi 3)), (8, .int (zi 0)), (9, .int (zi i))] [] := by
    intro N
    induction N with
    | zero => intro i y hm; exact absurd hm (Nat.not_lt_zero _)
    | succ N ih143 =>
      intro i y hm h0 yf yw
      obtain ⟨y0, y1⟩ := LV_fr I3 yf
      refine z_iload (pc := 143) hO 9 dL_law_143 rfl ?_
      refine z_iload (pc := 145) hO 7 dL_law_145 rfl ?_
      refine z_iload (pc := 147) hO 7 dL_law_147 rfl ?_
      refine z_imul (pc := 149) hO dL_law_149 ?_
      refine z_icmp_ge (pc := 150) hO (tgt := 179) dL_law_150 (by decide) (by omega) (by omega) (fun b10 => ?_) (fun b10 => ?_)
      · have hW : Rt 3 (y 71) := Rt_c (LV_q (q := 0) (n := 3) I3 (Or.inl ⟨rfl, rfl⟩)).2.1 (fun r a1 a2 => yw r a1 (by omega))
        have hcz : cnt 3 (nc y 0) 0 = 0 := (cnt_0 (by omega)).mpr (fun p p0 p1 e => by rw [y1 0 (by decide)] at e; have := (LV_q (q := 0) (n := 3) I3 (Or.inl ⟨rfl, rfl⟩)).2.1.2.1.1 p p0 p1; omega)
        refine z_iload (pc := 179) hO 7 dL_law_179 rfl ?_
        refine z_iconst (pc := 181) hO dL_law_181 ?_
        refine z_icmp_ne (pc := 182) hO (tgt := 197) dL_law_182 (by decide) (by decide) (by decide) (fun h => absurd h (by decide)) (fun _ => ?_)
        refine z_iload (pc := 185) hO 5 dL_law_185 rfl ?_
        refine z_sipush (pc := 187) hO dL_law_187 (by decide) ?_
        refine z_idiv (pc := 190) hO dL_law_190 (by omega) (by omega) ?_
        refine z_bipush (pc := 191) hO dL_law_191 (by decide) ?_
        refine z_irem (pc := 193) hO dL_law_193 (by omega) (by omega) ?_
        refine z_goto (pc := 194) hO (tgt := 206) dL_law_194 (by decide) ?_
        refine z_istore (pc := 206) hO (lv' := [(9, .int (zi ((v / 128) % 10))), (0, .ref b), (1, .ref (gA g 0)), (2, .ref (gA g 71)), (3, .int (zi 1)), (4, .int (zi k)), (5, .int (zi v)), (6, .int (zi 0)), (7, .int (zi 3)), (8, .int (zi 0))]) dL_law_206 (by decide) rfl ?_
        refine z_iconst (pc := 208) hO dL_law_208 ?_
        refine z_istore (pc := 209) hO (lv' := [(10, .int (zi 0)), (9, .int (zi ((v / 128) % 10))), (0, .ref b), (1, .ref (gA g 0)), (2, .ref (gA g 71)), (3, .int (zi 1)), (4, .int (zi k)), (5, .int (zi v)), (6, .int (zi 0)), (7, .int (zi 3)), (8, .int (zi 0))]) dL_law_209 (by decide) rfl ?_
        have L211 : ∀ (N : Nat) (j : Int) (s : Int) (u : Me), (v / 128 % 10 - j).toNat < N → (0 ≤ j ∧ j ≤ v / 128 % 10) → (0 ≤ s ∧ s < 131072) → (∀ a, a ≠ 20 → u a = y a) → (∀ p, 0 ≤ p → p < 3 * 3 → (tb s p ∧ nc u 0 p = 0) ∨ (¬ tb s p ∧ nc u 0 p = y 71 p)) → (HS u) → (cnt 3 (nc u 0) 0 ≤ j) → Zz Γ g 12 k0 n0 u 211 [(0, .ref b), (1, .ref (gA g 0)), (2, .ref (gA g 71)), (3, .int (zi 1)), (4, .int (zi k)), (5, .int (zi v)), (6, .int (zi 0)), (7, .int (zi 3)), (8, .int (zi s)), (9, .int (zi ((v / 128) % 10))), (10, .int (zi j))] [] := by
          intro N
          induction N with
          | zero => intro j s u hm; exact absurd hm (Nat.not_lt_zero _)
          | succ N ih211 =>
            intro j s u hm j0 js uf9 ub uS uc
            have u0 : u 0 5 = 2 := by rw [uf9 0 (by decide)]; exact y0.2.1
            have u1 : u (10 + 0) 1 = 3 := by rw [uf9 (10 + 0) (by decide)]; exact (LV_q (q := 0) (n := 3) y0 (Or.inl ⟨rfl, rfl⟩)).1
            have u71 : u 71 = y 71 := uf9 71 (by decide)
            refine z_iload (pc := 211) hO 10 dL_law_211 rfl ?_
            refine z_iload (pc := 213) hO 9 dL_law_213 rfl ?_
            refine z_icmp_ge (pc := 215) hO (tgt := 274) dL_law_215 (by decide) (by omega) (by omega) (fun b11 => ?_) (fun b11 => ?_)
            · refine z_aload_n (pc := 274) hO 2 dL_law_274 rfl rfl ?_
              refine z_iload (pc := 275) hO 7 dL_law_275 rfl ?_
              refine z_callSIq (pc := 277) hO (As := [.ref (gA g 71), .int (zi 3)]) (st := []) (c_L_isRight (qL Γ) g u 71 3 (by exact isI_71) (by rw [u71]; exact hW)) k_L_25 rfl (Nat.le_of_ble_eq_true rfl) (by decide) (by decide) ⟨by omega, by omega⟩ dL_law_277 (fun z12 h14 => ?_)
              subst h14
              refine z_if_eq (pc := 280) hO (tgt := 301) dL_law_280 (by decide) (by decide) (fun h => absurd h (by decide)) (fun _ => ?_)
              refine z_aload_n (pc := 283) hO 1 dL_law_283 rfl rfl ?_
              refine z_iload (pc := 284) hO 6 dL_law_284 rfl ?_
              refine z_iload (pc := 286) hO 7 dL_law_286 rfl ?_
              refine z_aload_n (pc := 288) hO 2 dL_law_288 rfl rfl ?_
              refine z_iload (pc := 289) hO 8 dL_law_289 rfl ?_
              refine z_mcallSI (pc := 291) hO (As := [.ref (gA g 0), .int (zi 0), .int (zi 3), .ref (gA g 71), .int (zi s)]) (st := []) (c_L_areCompletions (qL Γ) g u 0 3 s (by exact hX) (by exact uS) (by exact ⟨by omega, by rw [u0]; omega⟩) (by exact u1) (by rw [u71]; exact hW) (by rw [if_pos rfl]; exact Int.le_trans uc (by omega)) (by rw [u71]; exact ub) (by exact js)) k_L_52 rfl (Nat.le_of_ble_eq_true rfl) (by decide) (by decide) ⟨by omega, by omega⟩ dL_law_291 (fun zc m15 h16 => ?_)
              obtain ⟨hz1, tf⟩ := h16
              subst hz1
              generalize m15 = t at tf ⊢
              have tS := HS_23 uS tf
              have t71 : t 71 = y 71 := (tf 71 (by decide) (by decide) (by decide)).trans u71
              refine z_if_eq (pc := 294) hO (tgt := 301) dL_law_294 (by decide) (by decide) (fun h => absurd h (by decide)) (fun _ => ?_)
              refine z_iconst (pc := 297) hO dL_law_297 ?_
              refine z_goto (pc := 298) hO (tgt := 302) dL_law_298 (by decide) ?_
              refine z_istore_n (pc := 302) hO (lv' := [(3, .int (zi 1)), (0, .ref b), (1, .ref (gA g 0)), (2, .ref (gA g 71)), (4, .int (zi k)), (5, .int (zi v)), (6, .int (zi 0)), (7, .int (zi 3)), (8, .int (zi s)), (9, .int (zi ((v / 128) % 10))), (10, .int (zi j))]) dL_law_302 rfl (by decide) rfl ?_
              refine z_iconst (pc := 303) hO dL_law_303 ?_
              refine z_istore (pc := 304) hO (lv' := [(10, .int (zi 0)), (3, .int (zi 1)), (0, .ref b), (1, .ref (gA g 0)), (2, .ref (gA g 71)), (4, .int (zi k)), (5, .int (zi v)), (6, .int (zi 0)), (7, .int (zi 3)), (8, .int (zi s)), (9, .int (zi ((v / 128) % 10)))]) dL_law_304 (by decide) rfl ?_
              have L306 : ∀ (N : Nat) (i : Int) (r : Me), (3 * 3 - i).toNat < N → (0 ≤ i ∧ i ≤ 3 * 3) → (∀ a, a ≠ 20 → r a = t a) → (HS r) → (∀ p, 0 ≤ p → p < i → nc r 0 p = y 71 p) → Zz Γ g 12 (k0 + 2) (n0 + 32) r 306 [(0, .ref b), (1, .ref (gA g 0)), (2, .ref (gA g 71)), (3, .int (zi 1)), (4, .int (zi k)), (5, .int (zi v)), (6, .int (zi 0)), (7, .int (zi 3)), (8, .int (zi s)), (9, .int (zi ((v / 128) % 10))), (10, .int (zi i))] [] := by
                intro N
                induction N with
                | zero => intro i r hm; exact absurd hm (Nat.not_lt_zero _)
                | succ N ih306 =>
                  intro i r hm i0 rf rS rw1
                  have r71 : r 71 = y 71 := (rf 71 (by decide)).trans t71
                  have r0 : r 0 5 = 2 := by rw [rf 0 (by decide), tf 0 (by decide) (by decide) (by decide)]; exact u0
                  have r1 : r (10 + 0) 1 = 3 := by rw [rf (10 + 0) (by decide), tf (10 + 0) (by decide) (by decide) (by decide)]; exact u1
                  refine z_iload (pc := 306) hO 10 dL_law_306 rfl ?_
                  refine z_iload (pc := 308) hO 7 dL_law_308 rfl ?_
                  refine z_iload (pc := 310) hO 7 dL_law_310 rfl ?_
                  refine z_imul (pc := 312) hO dL_law_312 ?_
                  refine z_icmp_ge (pc := 313) hO (tgt := 343) dL_law_313 (by decide) (by omega) (by omega) (fun b17 => ?_) (fun b17 => ?_)
                  · have rw0 : ∀ p, 0 ≤ p → p < 3 * 3 → nc r 0 p = y 71 p := fun p p0 p1 => rw1 p p0 (by omega)
                    have rR : Rt 3 (nc r 0) := Rt_c hW rw0
                    have rz : cnt 3 (nc r 0) 0 = 0 := (cnt_0 (by omega)).mpr (fun p p0 p1 e => by have := rR.2.1.1 p p0 p1; omega)
                    refine z_iload_n (pc := 343) hO 3 dL_law_343 rfl rfl ?_
                    refine z_if_eq (pc := 344) hO (tgt := 385) dL_law_344 (by decide) (by decide) (fun h => absurd h (by decide)) (fun _ => ?_)
                    refine z_aload_n (pc := 347) hO 1 dL_law_347 rfl rfl ?_
                    refine z_iload (pc := 348) hO 6 dL_law_348 rfl ?_
                    refine z_callVI (pc := 350) hO (As := [.int (zi 0)]) (st := []) (c_X11_completions (qL Γ) g r 0 (by exact rS) (by omega) (by refine ⟨⟨by omega, by rw [r0]; omega⟩, ?_⟩; show r (10 + 0) 1 ≤ 4 ∧ cnt (r (10 + 0) 1) (nc r 0) 0 ≤ 9; rw [r1, rz]; omega)) k_L_15 isO_0 rfl (Nat.le_of_ble_eq_true rfl) (by decide) (by decide) ⟨by omega, by omega⟩ dL_law_350 (fun zl m18 h19 => ?_)
                    obtain ⟨hzl, wf⟩ := h19
                    have hzl : zl = ((cpl (r (10 + 0) 1) (nc r 0)).length : Int) := hzl
                    rw [r1, cpl_one rR] at hzl
                    have hzl : zl = 1 := hzl
                    subst hzl
                    generalize m18 = w at wf ⊢
                    have wS := HS_c rS wf
                    have w0 : w 0 = r 0 := wf 0 (by decide)
                    have w1 : w (10 + 0) = r (10 + 0) := wf (10 + 0) (by decide)
                    have wn : nc w 0 = nc r 0 := nc_of2 (wf (20 + 0) (by decide))
                    refine z_iconst (pc := 353) hO dL_law_353 ?_
                    refine z_icmp_ne (pc := 354) hO (tgt := 385) dL_law_354 (by decide) (by decide) (by decide) (fun h => absurd h (by decide)) (fun _ => ?_)
                    refine z_aload_n (pc := 357) hO 1 dL_law_357 rfl rfl ?_
                    refine z_iload (pc := 358) hO 6 dL_law_358 rfl ?_
                    refine z_iconst (pc := 360) hO dL_law_360 ?_
                    refine z_iload (pc := 361) hO 7 dL_law_361 rfl ?_
                    refine z_iconst (pc := 363) hO dL_law_363 ?_
                    refine z_isub (pc := 364) hO dL_law_364 ?_
                    refine z_iconst (pc := 365) hO dL_law_365 ?_
                    refine z_callVI (pc := 366) hO (As := [.int (zi 0), .int (zi 0), .int (zi (3 - 1)), .int (zi 0)]) (st := []) (c_X11_completion (qL Γ) g w 0 0 (3 - 1) 0 (by exact wS) (by omega) (by omega) (by omega) (by omega) (by refine ⟨⟨by omega, by rw [w0, r0]; omega, ⟨by omega, ?_⟩, by omega, ?_⟩, by omega, ?_⟩; (show _ < w (10 + 0) 1; rw [w1, r1]; omega); (show _ < w (10 + 0) 1; rw [w1, r1]; omega); show w (10 + 0) 1 ≤ 4 ∧ cnt (w (10 + 0) 1) (nc w 0) 0 ≤ 9; rw [w1, wn, r1, rz]; omega)) k_L_21 isO_0 rfl (Nat.le_of_ble_eq_true rfl) (by decide) (by decide) ⟨by omega, by omega⟩ dL_law_366 (fun zg m20 h21 => ?_)
                    obtain ⟨hzg, gf⟩ := h21
                    have hzg : zg = cgt (w (10 + 0) 1) (nc w 0) 0 (w (10 + 0) 1 * (3 - 1) + 0) := hzg
                    rw [w1, wn, r1, cgt_one rR (by omega), rw0 _ (by omega) (by omega)] at hzg
                    generalize m20 = v9 at gf ⊢
                    have v71 : v9 71 = y 71 := ((gf 71 (by decide)).trans (wf 71 (by decide))).trans r71
                    refine z_aload_n (pc := 369) hO 2 dL_law_369 rfl rfl ?_
                    refine z_iload (pc := 370) hO 7 dL_law_370 rfl ?_
                    refine z_iload (pc := 372) hO 7 dL_law_372 rfl ?_
                    refine z_iconst (pc := 374) hO dL_law_374 ?_
                    refine z_isub (pc := 375) hO dL_law_375 ?_
                    refine z_imul (pc := 376) hO dL_law_376 ?_
                    refine z_iald (pc := 377) hO isI_71 (by omega) dL_law_377 ?_
                    have q78 : v9 71 (3 * (3 - 1)) = zg := by rw [v71, hzg]; rfl
                    have q79 := hW.2.1.1 (3 * (3 - 1)) (by decide) (by decide)
                    have q80 : 1 ≤ zg ∧ zg ≤ 16 := by rw [← q78, v71]; omega
                    refine z_icmp_ne (pc := 378) hO (tgt := 385) dL_law_378 (by decide) (by omega) (by omega) (fun b22 => ?_) (fun b22 => ?_)
                    · exfalso; omega
                    · refine z_iconst (pc := 381) hO dL_law_381 ?_
                      refine z_goto (pc := 382) hO (tgt := 386) dL_law_382 (by decide) ?_
                      refine z_istore_n (pc := 386) hO (lv' := [(3, .int (zi 1)), (0, .ref b), (1, .ref (gA g 0)), (2, .ref (gA g 71)), (4, .int (zi k)), (5, .int (zi v)), (6, .int (zi 0)), (7, .int (zi 3)), (8, .int (zi s)), (9, .int (zi ((v / 128) % 10))), (10, .int (zi i))]) dL_law_386 rfl (by decide) rfl ?_
                      have LE : LV v9 := LV_of (q := 0) (n := 3) I3 (Or.inl ⟨rfl, rfl⟩) (by rw [nc_of2 (q := 0) (gf (20 + 0) (by decide)), wn]; exact rR) (fun p p0 p1 => by rw [gf (20 + 0) (by decide)]; exact (wS.2 0 (by rw [w0, r0]; decide)).2.2 p (by omega) p1) (fun a a1 a2 a3 a4 => by rw [gf a (by omega), wf a (by omega), rf a a1, tf a a2 a3 (by omega), uf9 a a1]; exact yf a (by omega))
                      refine z_iinc (pc := 387) hO 4 (lv' := [(4, .int (zi (k + 1))), (3, .int (zi 1)), (0, .ref b), (1, .ref (gA g 0)), (2, .ref (gA g 71)), (5, .int (zi v)), (6, .int (zi 0)), (7, .int (zi 3)), (8, .int (zi s)), (9, .int (zi ((v / 128) % 10))), (10, .int (zi i))]) dL_law_387 rfl (by decide) rfl ?_
                      refine z_goto (pc := 390) hO (tgt := 41) dL_law_390 (by decide) ?_
                      refine z_sub [2, 3, 4, 1, 0] rfl ?_
                      exact fin v9 (by exact LE)
                  · have hr71 : r 71 i = y 71 i := by rw [r71]
                    have hwi : 1 ≤ r 71 i ∧ r 71 i ≤ 16 := by rw [hr71]; have := hW.2.1.1 i i0.1 (by omega); omega
                    refine z_aload_n (pc := 316) hO 1 dL_law_316 rfl rfl ?_
                    refine z_iload (pc := 317) hO 6 dL_law_317 rfl ?_
                    refine z_iload (pc := 319) hO 10 dL_law_319 rfl ?_
                    refine z_iload (pc := 321) hO 7 dL_law_321 rfl ?_
                    refine z_idiv (pc := 323) hO dL_law_323 (by omega) (by omega) ?_
                    refine z_iload (pc := 324) hO 10 dL_law_324 rfl ?_
                    refine z_iload (pc := 326) hO 7 dL_law_326 rfl ?_
                    refine z_irem (pc := 328) hO dL_law_328 (by omega) (by omega) ?_
                    refine z_aload_n (pc := 329) hO 2 dL_law_329 rfl rfl ?_
                    refine z_iload (pc := 330) hO 10 dL_law_330 rfl ?_
                    refine z_iald (pc := 332) hO isI_71 (by omega) dL_law_332 ?_
                    refine z_callVIm (pc := 333) hO (As := [.int (zi 0), .int (zi (i / 3)), .int (zi (i % 3)), .int (zi (r 71 i))]) (st := []) (c_X11_put (qL Γ) g r 0 (i / 3) (i % 3) (r 71 i) (by exact rS) (by omega) (by omega) (by omega) (by have := hwi; omega) (by refine ⟨⟨by omega, by rw [r0]; omega, ⟨by omega, ?_⟩, by omega, ?_⟩, by have := hwi; omega⟩ <;> (show _ < _; rw [show (0 : Int).toNat = 0 from rfl, r1]; omega))) k_L_49 isO_0 rfl (Nat.le_of_ble_eq_true rfl) (by decide) (by decide) ⟨by omega, by omega⟩ dL_law_333 (fun m23 e24 => ?_)
                    have hm1 := put_eq (q := 0) (n := 3) (c := i) e24 r1 (by omega)
                    rw [hr71] at hm1
                    refine z_pop (pc := 336) hO dL_law_336 rfl ?_
                    refine z_iinc (pc := 337) hO 10 (lv' := [(10, .int (zi (i + 1))), (0, .ref b), (1, .ref (gA g 0)), (2, .ref (gA g 71)), (3, .int (zi 1)), (4, .int (zi k)), (5, .int (zi v)), (6, .int (zi 0)), (7, .int (zi 3)), (8, .int (zi s)), (9, .int (zi ((v / 128) % 10)))]) dL_law_337 rfl (by decide) rfl ?_
                    refine z_goto (pc := 340) hO (tgt := 306) dL_law_340 (by decide) ?_
                    refine z_sub [1, 2, 3, 4, 5, 6, 7, 8, 9, 10, 0] rfl ?_
                    exact ih306 (i + 1) m23 (by omega) (by omega) (by intro a a1; rw [hm1, up_i _ _ _ a1]; exact rf a a1) (by exact put_S rS hm1 (by rw [← hr71]; have := hwi; omega)) (by exact bk_step hm1 (by omega) rw1)
              refine z_sub [2, 3, 4, 1, 5, 6, 7, 8, 9, 10, 0] rfl ?_
              exact L306 _ 0 t (Nat.lt_succ_self _) (by omega) (by intro a _; rfl) (by exact tS) (by intro p _ _; omega)
            · refine z_aload_n (pc := 218) hO 0 dL_law_218 rfl rfl ?_
              refine z_bipush (pc := 219) hO dL_law_219 (by decide) ?_
              refine z_bipush (pc := 221) hO dL_law_221 (by decide) ?_
              refine z_iload (pc := 223) hO 4 dL_law_223 rfl ?_
              refine z_imul (pc := 225) hO dL_law_225 ?_
              refine z_iadd (pc := 226) hO dL_law_226 ?_
              refine z_iload (pc := 227) hO 10 dL_law_227 rfl ?_
              refine z_iadd (pc := 229) hO dL_law_229 ?_
              refine z_told (pc := 230) hO hXs hbS hL (j := (6 + (9 * k)) + j) (by omega) k_L_38 (Nat.le_of_ble_eq_true rfl) (by decide) (by decide) ⟨by omega, by omega⟩ dL_law_230 (fun z25 hz26 => ?_)
              refine z_iload (pc := 233) hO 7 dL_law_233 rfl ?_
              refine z_iload (pc := 235) hO 7 dL_law_235 rfl ?_
              refine z_imul (pc := 237) hO dL_law_237 ?_
              refine z_irem (pc := 238) hO dL_law_238 (by omega) (by omega) ?_
              obtain ⟨cc, hcc⟩ : ∃ cc : Int, cc = (z25 % (3 * 3)) := ⟨_, rfl⟩; rw [← hcc]; have hc9 : 0 ≤ cc ∧ cc < 9 := by omega
              refine z_istore (pc := 239) hO (lv' := [(11, .int (zi cc)), (0, .ref b), (1, .ref (gA g 0)), (2, .ref (gA g 71)), (3, .int (zi 1)), (4, .int (zi k)), (5, .int (zi v)), (6, .int (zi 0)), (7, .int (zi 3)), (8, .int (zi s)), (9, .int (zi ((v / 128) % 10))), (10, .int (zi j))]) dL_law_239 (by decide) rfl ?_
              refine z_iload (pc := 241) hO 9 dL_law_241 rfl ?_
              refine z_iconst (pc := 243) hO dL_law_243 ?_
              refine z_iload (pc := 244) hO 0 dL_law_244 rfl ?_
              refine z_ishl (pc := 246) hO (zi (p2 cc)) dL_law_246 (by exact zn_shl (by omega)) ?_
              refine z_ior (pc := 247) hO (zi (bor s (p2 cc))) dL_law_247 (by exact bor_z (by omega) (p2_nn _)) ?_
              refine z_istore (pc := 248) hO (lv' := [(8, .int (zi (bor s (p2 cc)))), (11, .int (zi cc)), (0, .ref b), (1, .ref (gA g 0)), (2, .ref (gA g 71)), (3, .int (zi 1)), (4, .int (zi k)), (5, .int (zi v)), (6, .int (zi 0)), (7, .int (zi 3)), (9, .int (zi ((v / 128) % 10))), (10, .int (zi j))]) dL_law_248 (by decide) rfl ?_
              refine z_aload_n (pc := 250) hO 3 dL_law_250 rfl rfl ?_
              refine z_iload (pc := 251) hO 8 dL_law_251 rfl ?_
              refine z_iload (pc := 253) hO 1 dL_law_253 rfl ?_
              refine z_iload (pc := 255) hO 9 dL_law_255 rfl ?_
              refine z_idiv (pc := 257) hO dL_law_257 (by omega) (by omega) ?_
              refine z_iload (pc := 258) hO 1 dL_law_258 rfl ?_
              refine z_iload (pc := 260) hO 9 dL_law_260 rfl ?_
              refine z_irem (pc := 262) hO dL_law_262 (by omega) (by omega) ?_
              refine z_iconst (pc := 263) hO dL_law_263 ?_
              refine z_callVIm (pc := 264) hO (As := [.int (zi 0), .int (zi (cc / 3)), .int (zi (cc % 3)), .int (zi 0)]) (st := []) (c_X11_put (qL Γ) g u 0 (cc / 3) (cc % 3) 0 (by exact uS) (by omega) (by omega) (by omega) (by omega) (by refine ⟨⟨by omega, by rw [u0]; omega, ⟨by omega, ?_⟩, by omega, ?_⟩, by omega⟩ <;> (show _ < _; rw [show (0 : Int).toNat = 0 from rfl, u1]; omega))) k_L_49 isO_0 rfl (Nat.le_of_ble_eq_true rfl) (by decide) (by decide) ⟨by omega, by omega⟩ dL_law_264 (fun m27 e28 => ?_)
              have hm0 := put_eq (q := 0) (n := 3) (c := cc) e28 u1 (by omega)
              refine z_pop (pc := 267) hO dL_law_267 rfl ?_
              refine z_iinc (pc := 268) hO 11 (lv' := [(10, .int (zi (j + 1))), (8, .int (zi (bor s (p2 cc)))), (11, .int (zi cc)), (0, .ref b), (1, .ref (gA g 0)), (2, .ref (gA g 71)), (3, .int (zi 1)), (4, .int (zi k)), (5, .int (zi v)), (6, .int (zi 0)), (7, .int (zi 3)), (9, .int (zi ((v / 128) % 10)))]) dL_law_268 rfl (by decide) rfl ?_
              refine z_goto (pc := 271) hO (tgt := 211) dL_law_271 (by decide) ?_
              refine z_sub [3, 4, 5, 6, 7, 8, 9, 10, 1, 11, 0] rfl ?_
              exact ih211 (j + 1) (bor s (p2 cc)) m27 (by omega) (by omega) (by exact bor17 js (by omega)) (by intro a a1; rw [hm0, up_i _ _ _ a1]; exact uf9 a a1) (by exact em_step hm0 (by omega) ub) (by exact put_S uS hm0 (by omega)) (by have := cnt_up (n := 3) hm0 (by omega) (by decide); omega)
        refine z_sub [2, 3, 4, 5, 6, 7, 8, 9, 10, 1, 0] rfl ?_
        exact L211 _ 0 0 y (Nat.lt_succ_self _) (by omega) (by omega) (by intro a _; rfl) (by intro p p0 p1; exact Or.inr ⟨tb_0 p, by rw [y1 0 (by decide)]; exact (yw p p0 (by omega)).symm⟩) (by exact y0.1) (by rw [hcz]; omega)
      · refine z_aload_n (pc := 153) hO 2 dL_law_153 rfl rfl ?_
        refine z_iload (pc := 154) hO 9 dL_law_154 rfl ?_
        refine z_aload_n (pc := 156) hO 1 dL_law_156 rfl rfl ?_
        refine z_iload (pc := 157) hO 6 dL_law_157 rfl ?_
        refine z_iload (pc := 159) hO 9 dL_law_159 rfl ?_
        refine z_iload (pc := 161) hO 7 dL_law_161 rfl ?_
        refine z_idiv (pc := 163) hO dL_law_163 (by omega) (by omega) ?_
        refine z_iload (pc := 164) hO 9 dL_law_164 rfl ?_
        refine z_iload (pc := 166) hO 7 dL_law_166 rfl ?_
        refine z_irem (pc := 168) hO dL_law_168 (by omega) (by omega) ?_
        refine z_callVIp (pc := 169) hO (As := [.int (zi 0), .int (zi (i / 3)), .int (zi (i % 3))]) (st := [.int (zi i), .ref (gA g 71)]) (c_X11_at (qL Γ) g y 0 (i / 3) (i % 3) (by exact y0.1) (by omega) (by omega) (by omega) (by have e1 := y0.2.1; have e2 := (LV_q (q := 0) (n := 3) y0 (Or.inl ⟨rfl, rfl⟩)).1; refine ⟨by omega, by omega, ⟨by omega, ?_⟩, by omega, ?_⟩ <;> (show _ < _; rw [show (0 : Int).toNat = 0 from rfl, e2]; omega))) k_L_46 isO_0 rfl (Nat.le_of_ble_eq_true rfl) (by decide) (by decide) ⟨by omega, by omega⟩ dL_law_169 ?_
        rw [show (nc y (0 : Int).toNat (y (10 + (0 : Int).toNat) 1 * (i / 3) + (i % 3))) = nc xa 0 i from at_eq (q := 0) (n := 3) (y1 0 (by decide)) (LV_q (q := 0) (n := 3) y0 (Or.inl ⟨rfl, rfl⟩)).1 (by omega)]
        refine z_iast (pc := 172) hO isI_71 (by omega) dL_law_172 (fun m29 e30 => ?_)
        have hup := e30
        refine z_iinc (pc := 173) hO 9 (lv' := [(9, .int (zi (i + 1))), (0, .ref b), (1, .ref (gA g 0)), (2, .ref (gA g 71)), (3, .int (zi 1)), (4, .int (zi k)), (5, .int (zi v)), (6, .int (zi 0)), (7, .int (zi 3)), (8, .int (zi 0))]) dL_law_173 rfl (by decide) rfl ?_
        refine z_goto (pc := 176) hO (tgt := 143) dL_law_176 (by decide) ?_
        refine z_sub [1, 2, 3, 4, 5, 6, 7, 8, 9, 0] rfl ?_
        exact ih143 (i + 1) m29 (by omega) (by omega) (by intro a a1; rw [hup, up_i _ _ _ a1]; exact yf a a1) (by intro r a1 a2; rw [hup]; by_cases e : r = i; (rw [e, up_s]); rw [up_n _ _ (by omega)]; exact yw r a1 (by omega))
  refine z_sub [2, 3, 4, 5, 6, 7, 8, 9, 1, 0] rfl ?_
  exact L143 _ 0 xa (Nat.lt_succ_self _) (by omega) (by intro a _; rfl) (by intro r _ _; omega)

