theorem kW_square : lkSW RL 86 yL_square cL_square 4 [(0, 9, 12, 13), (0, 9, 15, 15)] 3 := ⟨gi_SW (tb2 (i := 24) rfl rfl) wz_L_square wi_RL (tb2 (i := 26) rfl rfl), pd_L_square⟩
theorem kW_put : lkSW RL 96 yL_put cL_put 7 [(0, 14, 17, 21), (0, 14, 21, 13)] 6 := ⟨gi_SW (tb2 (i := 80) rfl rfl) wz_L_put wi_RL (tb2 (i := 82) rfl rfl), pd_L_put⟩
theorem kW_at : lkSW RL 100 yL_at cL_at 6 [(0, 12, 15, 21)] 5 := ⟨gi_SW (tb2 (i := 102) rfl rfl) wz_L_at wi_RL (tb2 (i := 104) rfl rfl), pd_L_at⟩
theorem kW_make : lkSW RL 104 yL_make cL_make 5 [(0, 10, 13, 13), (0, 10, 17, 15)] 4 := ⟨gi_SW (tb2 (i := 110) rfl rfl) wz_L_make wi_RL (tb2 (i := 112) rfl rfl), pd_L_make⟩
theorem kW_laws : lkSW RL 108 yL_laws cL_laws 4 [(0, 9, 12, 21)] 3 := ⟨gi_SW (tb2 (i := 153) rfl rfl) wz_L_laws wi_RL (tb2 (i := 155) rfl rfl), pd_L_laws⟩
theorem kW_sum : lkSW RL 111 yL_sum cL_sum 6 [(0, 12, 15, 21), (0, 12, 19, 13)] 5 := ⟨gi_SW (tb2 (i := 201) rfl rfl) wz_L_sum wi_RL (tb2 (i := 203) rfl rfl), pd_L_sum⟩
theorem kW_change : lkSW RL 114 yL_change cL_change 6 [(0, 12, 15, 21), (0, 12, 19, 13), (0, 12, 23, 15)] 5 := ⟨gi_SW (tb2 (i := 209) rfl rfl) wz_L_change wi_RL (tb2 (i := 211) rfl rfl), pd_L_change⟩
theorem kW_same : lkSW RL 117 yL_same cL_same 5 [(0, 17, 20, 21)] 4 := ⟨gi_SW (tb3 (i := 14) rfl rfl) wz_L_same wi_RL (tb3 (i := 16) rfl rfl), pd_L_same⟩
theorem kW_least : lkSW RL 120 yL_least cL_least 6 [(0, 12, 15, 21)] 5 := ⟨gi_SW (tb3 (i := 21) rfl rfl) wz_L_least wi_RL (tb3 (i := 23) rfl rfl), pd_L_least⟩
theorem kW_kin : lkSW RL 123 yL_kin cL_kin 4 [(0, 9, 12, 21)] 3 := ⟨gi_SW (tb3 (i := 35) rfl rfl) wz_L_kin wi_RL (tb3 (i := 37) rfl rfl), pd_L_kin⟩
theorem kW_completions : lkSW RL 130 yL_completions cL_completions 4 [(0, 9, 12, 21), (0, 9, 15, 15)] 3 := ⟨gi_SW (tb3 (i := 45) rfl rfl) wz_L_completions wi_RL (tb3 (i := 47) rfl rfl), pd_L_completions⟩
theorem kW_completion : lkSW RL 133 yL_completion cL_completion 7 [(0, 14, 17, 21), (0, 14, 21, 13), (0, 14, 25, 15)] 6 := ⟨gi_SW (tb3 (i := 134) rfl rfl) wz_L_completion wi_RL (tb3 (i := 136) rfl rfl), pd_L_completion⟩
theorem kW_estimate : lkSW RL 136 yL_estimate cL_estimate 5 [(0, 9, 12, 21), (0, 9, 16, 13), (0, 9, 20, 15)] 4 := ⟨gi_SW (tb3 (i := 146) rfl rfl) wz_L_estimate wi_RL (tb3 (i := 148) rfl rfl), pd_L_estimate⟩
theorem kW_givens : lkSW RL 139 yL_givens cL_givens 5 [(0, 10, 13, 21), (0, 10, 17, 15)] 4 := ⟨gi_SW (tb3 (i := 167) rfl rfl) wz_L_givens wi_RL (tb3 (i := 169) rfl rfl), pd_L_givens⟩
theorem kW_slip : lkSW RL 143 yL_slip cL_slip 5 [(0, 10, 13, 21), (0, 10, 17, 13)] 4 := ⟨gi_SW (tb3 (i := 199) rfl rfl) wz_L_slip wi_RL (tb3 (i := 201) rfl rfl), pd_L_slip⟩
theorem kW_orthogonal : lkSW RL 146 yL_orthogonal cL_orthogonal 5 [(0, 17, 20, 21), (0, 17, 24, 15)] 4 := ⟨gi_SW (tb3 (i := 222) rfl rfl) wz_L_orthogonal wi_RL (tb3 (i := 224) rfl rfl), pd_L_orthogonal⟩
theorem kW_stack : lkSW RL 149 yL_stack cL_stack 5 [(0, 10, 13, 21), (0, 10, 17, 15)] 4 := ⟨gi_SW (tb3 (i := 234) rfl rfl) wz_L_stack wi_RL (tb3 (i := 236) rfl rfl), pd_L_stack⟩
theorem kW_product : lkSW RL 152 yL_product cL_product 5 [(0, 10, 13, 21), (0, 10, 17, 15)] 4 := ⟨gi_SW (tb4 (i := 18) rfl rfl) wz_L_product wi_RL (tb4 (i := 20) rfl rfl), pd_L_product⟩
theorem kW_crossings : lkSW RL 155 yL_crossings cL_crossings 5 [(0, 10, 13, 21), (0, 10, 17, 13), (0, 10, 21, 15)] 4 := ⟨gi_SW (tb4 (i := 38) rfl rfl) wz_L_crossings wi_RL (tb4 (i := 40) rfl rfl), pd_L_crossings⟩
theorem kW_dimension : lkSW RL 158 yL_dimension cL_dimension 5 [(0, 10, 13, 13)] 4 := ⟨gi_SW (tb4 (i := 48) rfl rfl) wz_L_dimension wi_RL (tb4 (i := 50) rfl rfl), pd_L_dimension⟩
abbrev lvL (b : Nat) (g : Gl) (t : Int) : List (Nat × Value) := [(0, .ref b), (1, .ref (gA g 0)), (2, .ref (gA g 50)), (3, .ref (gA g 70)), (4, .int (zi (5 * t)))]
set_option maxHeartbeats 1000000 in
theorem case_square {Γ : Gam} {g : Gl} {b L : Nat} {xs : Nat → Int32} {k n : Nat} {t : Int} {x : Me} (hO : Ok Γ g cL_law 8 RL 2048 84000 601024 7293034) (hN : pw_N (qS Γ)) (hX : va_X b L xs (qS Γ) (qS Γ).heap) (hb : b < gS g) (hl : (qL Γ).stackTraces = false) (hL : L ≤ 2560) (hJ : JI x) (ht : 0 ≤ t ∧ 5 * t + 5 ≤ L) (hk : k + 1 ≤ 601024 ∧ n + 6 ≤ 7293034) (back : ∀ w : Me, JI w → Zz Γ g 8 (k + 1) (n + 6) w 1586 (lvL b g t) []) : Zz Γ g 8 k n x 136 (lvL b g t) [] := by
  refine z_aload_n (pc := 136) hO 1 dL_law_136 rfl rfl ?_
  refine z_aload_n (pc := 137) hO 0 dL_law_137 rfl rfl ?_
  refine z_iload (pc := 138) hO 4 dL_law_138 rfl ?_
  refine z_iconst (pc := 140) hO dL_law_140 ?_
  refine z_iadd (pc := 141) hO dL_law_141 ?_
  refine z_sld (pc := 142) hO hX hb (by omega) (by omega) dL_law_142 ?_
  refine z_aload_n (pc := 143) hO 3 dL_law_143 rfl rfl ?_
  refine z_lawC (pc := 144) hO hN (As := [.ref (gA g 0), .int (zi (xs (5 * t + 1).toNat).toInt), .ref (gA g 70)]) (st := []) (D_square (l := qL Γ) (g := g) (x := x) hl hJ (zi_rng _)) kW_square (by decide) (by decide) (by decide) (Nat.le_of_ble_eq_true rfl) rfl ⟨by omega, by omega⟩ dL_law_144 (fun z1 y hz => ?_)
  obtain ⟨hz3, F2, L2, P, hF2, hL2, hM, hPo⟩ := hz
  refine z_istore (pc := 147) (lv' := (5, .int (zi z1)) :: lvL b g t) hO dL_law_147 (by decide) rfl ?_
  refine z_aload_n (pc := 149) hO 3 dL_law_149 rfl rfl ?_
  refine z_aload_n (pc := 150) hO 1 dL_law_150 rfl rfl ?_
  refine z_iload (pc := 151) hO 5 dL_law_151 rfl ?_
  refine z_iconst (pc := 153) hO dL_law_153 ?_
  refine z_iadd (pc := 154) hO dL_law_154 ?_
  refine z_sld (pc := 155) hO hX hb (by omega) (by omega) dL_law_155 ?_
  refine z_callVI (pc := 156) hO (As := [.int (zi (xs (5 * t + 1).toNat).toInt)]) (st := []) hM k_L_91 isO_50 rfl (Nat.le_of_ble_eq_true rfl) (by omega) (by omega) ⟨by omega, by omega⟩ dL_law_156 (fun r w hp => ?_)
  obtain ⟨h0, hJw, h70⟩ := hPo r w hp
  refine z_istore (pc := 159) (lv' := (6, .int (zi r)) :: (5, .int (zi z1)) :: lvL b g t) hO dL_law_159 (by decide) rfl ?_
  refine z_aload_n (pc := 161) hO 4 dL_law_161 rfl rfl ?_
  refine z_callVIp (pc := 162) hO (As := []) (st := []) (c_X12_thrown (qL Γ) g w) k_L_92 isO_50 rfl (Nat.le_of_ble_eq_true rfl) (by decide) (by decide) ⟨by omega, by omega⟩ dL_law_162 ?_
  refine z_iload (pc := 165) hO 1 dL_law_165 rfl ?_
  refine z_icmp_eq (pc := 167) (tgt := 172) hO dL_law_167 (by decide) (by omega) (by omega) (fun _ => ?_) (fun hne => absurd h0 hne)
  refine z_iload (pc := 172) hO 1 dL_law_172 rfl ?_
  refine z_if_ne (pc := 174) (tgt := 189) hO dL_law_174 (by decide) (by omega) (fun hz1 => ?_) (fun hz1 => ?_)
  · refine z_goto (pc := 189) (tgt := 1586) hO dL_law_189 (by decide) ?_
    exact z_sub [2, 3, 4, 5, 6] rfl (back w hJw)
  · refine z_aload_n (pc := 177) hO 5 dL_law_177 rfl rfl ?_
    refine z_iconst (pc := 178) hO dL_law_178 ?_
    refine z_lald (pc := 179) hO isL_70 (by decide) dL_law_179 ?_
    rw [h70 hz1]
    refine z_iload (pc := 180) hO 0 dL_law_180 rfl ?_
    refine z_i2lq (pc := 182) hO dL_law_182 ?_
    refine z_lcmp_same (pc := 183) (tgt := 189) hO dL_law_183 dL_law_184 (by decide) ?_
    refine z_goto (pc := 189) (tgt := 1586) hO dL_law_189 (by decide) ?_
    exact z_sub [2, 3, 4, 5, 6] rfl (back w hJw)
set_option maxHeartbeats 1000000 in
theorem case_put {Γ : Gam} {g : Gl} {b L : Nat} {xs : Nat → Int32} {k n : Nat} {t : Int} {x : Me} (hO : Ok Γ g cL_law 8 RL 2048 84000 601024 7293034) (hN : pw_N (qS Γ)) (hX : va_X b L xs (qS Γ) (qS Γ).heap) (hb : b < gS g) (hl : (qL Γ).stackTraces = false) (hL : L ≤ 2560) (hJ : JI x) (ht : 0 ≤ t ∧ 5 * t + 5 ≤ L) (hk : k + 1 ≤ 601024 ∧ n + 6 ≤ 7293034) (back : ∀ w : Me, JI w → Zz Γ g 8 (k + 1) (n + 6) w 1586 (lvL b g t) []) : Zz Γ g 8 k n x 192 (lvL b g t) [] := by
  refine z_aload_n (pc := 192) hO 1 dL_law_192 rfl rfl ?_
  refine z_aload_n (pc := 193) hO 0 dL_law_193 rfl rfl ?_
  refine z_iload (pc := 194) hO 4 dL_law_194 rfl ?_
  refine z_iconst (pc := 196) hO dL_law_196 ?_
  refine z_iadd (pc := 197) hO dL_law_197 ?_
  refine z_sld (pc := 198) hO hX hb (by omega) (by omega) dL_law_198 ?_
  refine z_aload_n (pc := 199) hO 0 dL_law_199 rfl rfl ?_
  refine z_iload (pc := 200) hO 4 dL_law_200 rfl ?_
  refine z_iconst (pc := 202) hO dL_law_202 ?_
  refine z_iadd (pc := 203) hO dL_law_203 ?_
  refine z_sld (pc := 204) hO hX hb (by omega) (by omega) dL_law_204 ?_
  refine z_aload_n (pc := 205) hO 0 dL_law_205 rfl rfl ?_
  refine z_iload (pc := 206) hO 4 dL_law_206 rfl ?_
  refine z_iconst (pc := 208) hO dL_law_208 ?_
  refine z_iadd (pc := 209) hO dL_law_209 ?_
  refine z_sld (pc := 210) hO hX hb (by omega) (by omega) dL_law_210 ?_
  refine z_aload_n (pc := 211) hO 0 dL_law_211 rfl rfl ?_
  refine z_iload (pc := 212) hO 4 dL_law_212 rfl ?_
  refine z_iconst (pc := 214) hO dL_law_214 ?_
  refine z_iadd (pc := 215) hO dL_law_215 ?_
  refine z_sld (pc := 216) hO hX hb (by omega) (by omega) dL_law_216 ?_
  refine z_aload_n (pc := 217) hO 3 dL_law_217 rfl rfl ?_
  refine z_lawC (pc := 218) hO hN (As := [.ref (gA g 0), .int (zi (xs (5 * t + 1).toNat).toInt), .int (zi (xs (5 * t + 2).toNat).toInt), .int (zi (xs (5 * t + 3).toNat).toInt), .int (zi (xs (5 * t + 4).toNat).toInt), .ref (gA g 70)]) (st := []) (D_put (l := qL Γ) (g := g) (x := x) hl hJ (zi_rng _) (zi_rng _) (zi_rng _) (zi_rng _)) kW_put (by decide) (by decide) (by decide) (Nat.le_of_ble_eq_true rfl) rfl ⟨by omega, by omega⟩ dL_law_218 (fun z1 y hz => ?_)
  obtain ⟨hz3, F2, L2, P, hF2, hL2, hM, hPo⟩ := hz
  refine z_istore (pc := 221) (lv' := (5, .int (zi z1)) :: lvL b g t) hO dL_law_221 (by decide) rfl ?_
  refine z_aload_n (pc := 223) hO 3 dL_law_223 rfl rfl ?_
  refine z_aload_n (pc := 224) hO 1 dL_law_224 rfl rfl ?_
  refine z_iload (pc := 225) hO 5 dL_law_225 rfl ?_
  refine z_iconst (pc := 227) hO dL_law_227 ?_
  refine z_iadd (pc := 228) hO dL_law_228 ?_
  refine z_sld (pc := 229) hO hX hb (by omega) (by omega) dL_law_229 ?_
  refine z_aload_n (pc := 230) hO 1 dL_law_230 rfl rfl ?_
  refine z_iload (pc := 231) hO 5 dL_law_231 rfl ?_
  refine z_iconst (pc := 233) hO dL_law_233 ?_
  refine z_iadd (pc := 234) hO dL_law_234 ?_
  refine z_sld (pc := 235) hO hX hb (by omega) (by omega) dL_law_235 ?_
  refine z_aload_n (pc := 236) hO 1 dL_law_236 rfl rfl ?_
  refine z_iload (pc := 237) hO 5 dL_law_237 rfl ?_
  refine z_iconst (pc := 239) hO dL_law_239 ?_
  refine z_iadd (pc := 240) hO dL_law_240 ?_
  refine z_sld (pc := 241) hO hX hb (by omega) (by omega) dL_law_241 ?_
  refine z_aload_n (pc := 242) hO 1 dL_law_242 rfl rfl ?_
  refine z_iload (pc := 243) hO 5 dL_law_243 rfl ?_
  refine z_iconst (pc := 245) hO dL_law_245 ?_
  refine z_iadd (pc := 246) hO dL_law_246 ?_
  refine z_sld (pc := 247) hO hX hb (by omega) (by omega) dL_law_247 ?_
  refine z_callVI (pc := 248) hO (As := [.int (zi (xs (5 * t + 1).toNat).toInt), .int (zi (xs (5 * t + 2).toNat).toInt), .int (zi (xs (5 * t + 3).toNat).toInt), .int (zi (xs (5 * t + 4).toNat).toInt)]) (st := []) hM k_L_99 isO_50 rfl (Nat.le_of_ble_eq_true rfl) (by omega) (by omega) ⟨by omega, by omega⟩ dL_law_248 (fun r w hp => ?_)
  obtain ⟨h0, hJw, h70⟩ := hPo r w hp
  refine z_istore (pc := 251) (lv' := (6, .int (zi r)) :: (5, .int (zi z1)) :: lvL b g t) hO dL_law_251 (by decide) rfl ?_
  refine z_aload_n (pc := 253) hO 4 dL_law_253 rfl rfl ?_
  refine z_callVIp (pc := 254) hO (As := []) (st := []) (c_X12_thrown (qL Γ) g w) k_L_92 isO_50 rfl (Nat.le_of_ble_eq_true rfl) (by decide) (by decide) ⟨by omega, by omega⟩ dL_law_254 ?_
  refine z_iload (pc := 257) hO 1 dL_law_257 rfl ?_
  refine z_icmp_eq (pc := 259) (tgt := 264) hO dL_law_259 (by decide) (by omega) (by omega) (fun _ => ?_) (fun hne => absurd h0 hne)
  refine z_iload (pc := 264) hO 1 dL_law_264 rfl ?_
  refine z_if_ne (pc := 266) (tgt := 281) hO dL_law_266 (by decide) (by omega) (fun hz1 => ?_) (fun hz1 => ?_)
  · refine z_goto (pc := 281) (tgt := 1586) hO dL_law_281 (by decide) ?_
    exact z_sub [2, 3, 4, 5, 6] rfl (back w hJw)
  · refine z_aload_n (pc := 269) hO 5 dL_law_269 rfl rfl ?_
    refine z_iconst (pc := 270) hO dL_law_270 ?_
    refine z_lald (pc := 271) hO isL_70 (by decide) dL_law_271 ?_
    rw [h70 hz1]
    refine z_iload (pc := 272) hO 0 dL_law_272 rfl ?_
    refine z_i2lq (pc := 274) hO dL_law_274 ?_
    refine z_lcmp_same (pc := 275) (tgt := 281) hO dL_law_275 dL_law_276 (by decide) ?_
    refine z_goto (pc := 281) (tgt := 1586) hO dL_law_281 (by decide) ?_
    exact z_sub [2, 3, 4, 5, 6] rfl (back w hJw)
set_option maxHeartbeats 1000000 in
theorem case_at {Γ : Gam} {g : Gl} {b L : Nat} {xs : Nat → Int32} {k n : Nat} {t : Int} {x : Me} (hO : Ok Γ g cL_law 8 RL 2048 84000 601024 7293034) (hN : pw_N (qS Γ)) (hX : va_X b L xs (qS Γ) (qS Γ).heap) (hb : b < gS g) (hl : (qL Γ).stackTraces = false) (hL : L ≤ 2560) (hJ : JI x) (ht : 0 ≤ t ∧ 5 * t + 5 ≤ L) (hk : k + 1 ≤ 601024 ∧ n + 6 ≤ 7293034) (back : ∀ w : Me, JI w → Zz Γ g 8 (k + 1) (n + 6) w 1586 (lvL b g t) []) : Zz Γ g 8 k n x 284 (lvL b g t) [] := by
  refine z_aload_n (pc := 284) hO 1 dL_law_284 rfl rfl ?_
  refine z_aload_n (pc := 285) hO 0 dL_law_285 rfl rfl ?_
  refine z_iload (pc := 286) hO 4 dL_law_286 rfl ?_
  refine z_iconst (pc := 288) hO dL_law_288 ?_
  refine z_iadd (pc := 289) hO dL_law_289 ?_
  refine z_sld (pc := 290) hO hX hb (by omega) (by omega) dL_law_290 ?_
  refine z_aload_n (pc := 291) hO 0 dL_law_291 rfl rfl ?_
  refine z_iload (pc := 292) hO 4 dL_law_292 rfl ?_
  refine z_iconst (pc := 294) hO dL_law_294 ?_
  refine z_iadd (pc := 295) hO dL_law_295 ?_
  refine z_sld (pc := 296) hO hX hb (by omega) (by omega) dL_law_296 ?_
  refine z_aload_n (pc := 297) hO 0 dL_law_297 rfl rfl ?_
  refine z_iload (pc := 298) hO 4 dL_law_298 rfl ?_
  refine z_iconst (pc := 300) hO dL_law_300 ?_
  refine z_iadd (pc := 301) hO dL_law_301 ?_
  refine z_sld (pc := 302) hO hX hb (by omega) (by omega) dL_law_302 ?_
  refine z_aload_n (pc := 303) hO 3 dL_law_303 rfl rfl ?_
  refine z_lawC (pc := 304) hO hN (As := [.ref (gA g 0), .int (zi (xs (5 * t + 1).toNat).toInt), .int (zi (xs (5 * t + 2).toNat).toInt), .int (zi (xs (5 * t + 3).toNat).toInt), .ref (gA g 70)]) (st := []) (D_at (l := qL Γ) (g := g) (x := x) hl hJ (zi_rng _) (zi_rng _) (zi_rng _)) kW_at (by decide) (by decide) (by decide) (Nat.le_of_ble_eq_true rfl) rfl ⟨by omega, by omega⟩ dL_law_304 (fun z1 y hz => ?_)
  obtain ⟨hz3, F2, L2, P, hF2, hL2, hM, hPo⟩ := hz
  refine z_istore (pc := 307) (lv' := (5, .int (zi z1)) :: lvL b g t) hO dL_law_307 (by decide) rfl ?_
  refine z_aload_n (pc := 309) hO 3 dL_law_309 rfl rfl ?_
  refine z_aload_n (pc := 310) hO 1 dL_law_310 rfl rfl ?_
  refine z_iload (pc := 311) hO 5 dL_law_311 rfl ?_
  refine z_iconst (pc := 313) hO dL_law_313 ?_
  refine z_iadd (pc := 314) hO dL_law_314 ?_
  refine z_sld (pc := 315) hO hX hb (by omega) (by omega) dL_law_315 ?_
  refine z_aload_n (pc := 316) hO 1 dL_law_316 rfl rfl ?_
  refine z_iload (pc := 317) hO 5 dL_law_317 rfl ?_
  refine z_iconst (pc := 319) hO dL_law_319 ?_
  refine z_iadd (pc := 320) hO dL_law_320 ?_
  refine z_sld (pc := 321) hO hX hb (by omega) (by omega) dL_law_321 ?_
  refine z_aload_n (pc := 322) hO 1 dL_law_322 rfl rfl ?_
  refine z_iload (pc := 323) hO 5 dL_law_323 rfl ?_
  refine z_iconst (pc := 325) hO dL_law_325 ?_
  refine z_iadd (pc := 326) hO dL_law_326 ?_
  refine z_sld (pc := 327) hO hX hb (by omega) (by omega) dL_law_327 ?_
  refine z_callVI (pc := 328) hO (As := [.int (zi (xs (5 * t + 1).toNat).toInt), .int (zi (xs (5 * t + 2).toNat).toInt), .int (zi (xs (5 * t + 3).toNat).toInt)]) (st := []) hM k_L_103 isO_50 rfl (Nat.le_of_ble_eq_true rfl) (by omega) (by omega) ⟨by omega, by omega⟩ dL_law_328 (fun r w hp => ?_)
  obtain ⟨h0, hJw, h70⟩ := hPo r w hp
  refine z_istore (pc := 331) (lv' := (6, .int (zi r)) :: (5, .int (zi z1)) :: lvL b g t) hO dL_law_331 (by decide) rfl ?_
  refine z_aload_n (pc := 333) hO 4 dL_law_333 rfl rfl ?_
  refine z_callVIp (pc := 334) hO (As := []) (st := []) (c_X12_thrown (qL Γ) g w) k_L_92 isO_50 rfl (Nat.le_of_ble_eq_true rfl) (by decide) (by decide) ⟨by omega, by omega⟩ dL_law_334 ?_
  refine z_iload (pc := 337) hO 1 dL_law_337 rfl ?_
  refine z_icmp_eq (pc := 339) (tgt := 344) hO dL_law_339 (by decide) (by omega) (by omega) (fun _ => ?_) (fun hne => absurd h0 hne)
  refine z_iload (pc := 344) hO 1 dL_law_344 rfl ?_
  refine z_if_ne (pc := 346) (tgt := 361) hO dL_law_346 (by decide) (by omega) (fun hz1 => ?_) (fun hz1 => ?_)
  · refine z_goto (pc := 361) (tgt := 1586) hO dL_law_361 (by decide) ?_
    exact z_sub [2, 3, 4, 5, 6] rfl (back w hJw)
  · refine z_aload_n (pc := 349) hO 5 dL_law_349 rfl rfl ?_
    refine z_iconst (pc := 350) hO dL_law_350 ?_
    refine z_lald (pc := 351) hO isL_70 (by decide) dL_law_351 ?_
    rw [h70 hz1]
    refine z_iload (pc := 352) hO 0 dL_law_352 rfl ?_
    refine z_i2lq (pc := 354) hO dL_law_354 ?_
    refine z_lcmp_same (pc := 355) (tgt := 361) hO dL_law_355 dL_law_356 (by decide) ?_
    refine z_goto (pc := 361) (tgt := 1586) hO dL_law_361 (by decide) ?_
    exact z_sub [2, 3, 4, 5, 6] rfl (back w hJw)
set_option maxHeartbeats 1000000 in
theorem case_make {Γ : Gam} {g : Gl} {b L : Nat} {xs : Nat → Int32} {k n : Nat} {t : Int} {x : Me} (hO : Ok Γ g cL_law 8 RL 2048 84000 601024 7293034) (hN : pw_N (qS Γ)) (hX : va_X b L xs (qS Γ) (qS Γ).heap) (hb : b < gS g) (hl : (qL Γ).stackTraces = false) (hL : L ≤ 2560) (hJ : JI x) (ht : 0 ≤ t ∧ 5 * t + 5 ≤ L) (hk : k + 1 ≤ 601024 ∧ n + 6 ≤ 7293034) (back : ∀ w : Me, JI w → Zz Γ g 8 (k + 1) (n + 6) w 1586 (lvL b g t) []) : Zz Γ g 8 k n x 364 (lvL b g t) [] := by
  refine z_aload_n (pc := 364) hO 1 dL_law_364 rfl rfl ?_
  refine z_aload_n (pc := 365) hO 0 dL_law_365 rfl rfl ?_
  refine z_iload (pc := 366) hO 4 dL_law_366 rfl ?_
  refine z_iconst (pc := 368) hO dL_law_368 ?_
  refine z_iadd (pc := 369) hO dL_law_369 ?_
  refine z_sld (pc := 370) hO hX hb (by omega) (by omega) dL_law_370 ?_
  refine z_aload_n (pc := 371) hO 0 dL_law_371 rfl rfl ?_
  refine z_iload (pc := 372) hO 4 dL_law_372 rfl ?_
  refine z_iconst (pc := 374) hO dL_law_374 ?_
  refine z_iadd (pc := 375) hO dL_law_375 ?_
  refine z_sld (pc := 376) hO hX hb (by omega) (by omega) dL_law_376 ?_
  refine z_aload_n (pc := 377) hO 3 dL_law_377 rfl rfl ?_
  refine z_lawC (pc := 378) hO hN (As := [.ref (gA g 0), .int (zi (xs (5 * t + 1).toNat).toInt), .int (zi (xs (5 * t + 2).toNat).toInt), .ref (gA g 70)]) (st := []) (D_make (l := qL Γ) (g := g) (x := x) hl hJ (zi_rng _) (zi_rng _)) kW_make (by decide) (by decide) (by decide) (Nat.le_of_ble_eq_true rfl) rfl ⟨by omega, by omega⟩ dL_law_378 (fun z1 y hz => ?_)
  obtain ⟨hz3, F2, L2, P, hF2, hL2, hM, hPo⟩ := hz
  refine z_istore (pc := 381) (lv' := (5, .int (zi z1)) :: lvL b g t) hO dL_law_381 (by decide) rfl ?_
  refine z_aload_n (pc := 383) hO 3 dL_law_383 rfl rfl ?_
  refine z_aload_n (pc := 384) hO 1 dL_law_384 rfl rfl ?_
  refine z_iload (pc := 385) hO 5 dL_law_385 rfl ?_
  refine z_iconst (pc := 387) hO dL_law_387 ?_
  refine z_iadd (pc := 388) hO dL_law_388 ?_
  refine z_sld (pc := 389) hO hX hb (by omega) (by omega) dL_law_389 ?_
  refine z_aload_n (pc := 390) hO 1 dL_law_390 rfl rfl ?_
  refine z_iload (pc := 391) hO 5 dL_law_391 rfl ?_
  refine z_iconst (pc := 393) hO dL_law_393 ?_
  refine z_iadd (pc := 394) hO dL_law_394 ?_
  refine z_sld (pc := 395) hO hX hb (by omega) (by omega) dL_law_395 ?_
  refine z_callVI (pc := 396) hO (As := [.int (zi (xs (5 * t + 1).toNat).toInt), .int (zi (xs (5 * t + 2).toNat).toInt)]) (st := []) hM k_L_107 isO_50 rfl (Nat.le_of_ble_eq_true rfl) (by omega) (by omega) ⟨by omega, by omega⟩ dL_law_396 (fun r w hp => ?_)
  obtain ⟨h0, hJw, h70⟩ := hPo r w hp
  refine z_istore (pc := 399) (lv' := (6, .int (zi r)) :: (5, .int (zi z1)) :: lvL b g t) hO dL_law_399 (by decide) rfl ?_
  refine z_aload_n (pc := 401) hO 4 dL_law_401 rfl rfl ?_
  refine z_callVIp (pc := 402) hO (As := []) (st := []) (c_X12_thrown (qL Γ) g w) k_L_92 isO_50 rfl (Nat.le_of_ble_eq_true rfl) (by decide) (by decide) ⟨by omega, by omega⟩ dL_law_402 ?_
  refine z_iload (pc := 405) hO 1 dL_law_405 rfl ?_
  refine z_icmp_eq (pc := 407) (tgt := 412) hO dL_law_407 (by decide) (by omega) (by omega) (fun _ => ?_) (fun hne => absurd h0 hne)
  refine z_iload (pc := 412) hO 1 dL_law_412 rfl ?_
  refine z_if_ne (pc := 414) (tgt := 429) hO dL_law_414 (by decide) (by omega) (fun hz1 => ?_) (fun hz1 => ?_)
  · refine z_goto (pc := 429) (tgt := 1586) hO dL_law_429 (by decide) ?_
    exact z_sub [2, 3, 4, 5, 6] rfl (back w hJw)
  · refine z_aload_n (pc := 417) hO 5 dL_law_417 rfl rfl ?_
    refine z_iconst (pc := 418) hO dL_law_418 ?_
    refine z_lald (pc := 419) hO isL_70 (by decide) dL_law_419 ?_
    rw [h70 hz1]
    refine z_iload (pc := 420) hO 0 dL_law_420 rfl ?_
    refine z_i2lq (pc := 422) hO dL_law_422 ?_
    refine z_lcmp_same (pc := 423) (tgt := 429) hO dL_law_423 dL_law_424 (by decide) ?_
    refine z_goto (pc := 429) (tgt := 1586) hO dL_law_429 (by decide) ?_
    exact z_sub [2, 3, 4, 5, 6] rfl (back w hJw)
set_option maxHeartbeats 1000000 in
theorem case_laws {Γ : Gam} {g : Gl} {b L : Nat} {xs : Nat → Int32} {k n : Nat} {t : Int} {x : Me} (hO : Ok Γ g cL_law 8 RL 2048 84000 601024 7293034) (hN : pw_N (qS Γ)) (hX : va_X b L xs (qS Γ) (qS Γ).heap) (hb : b < gS g) (hl : (qL Γ).stackTraces = false) (hL : L ≤ 2560) (hJ : JI x) (ht : 0 ≤ t ∧ 5 * t + 5 ≤ L) (hk : k + 1 ≤ 601024 ∧ n + 6 ≤ 7293034) (back : ∀ w : Me, JI w → Zz Γ g 8 (k + 1) (n + 6) w 1586 (lvL b g t) []) : Zz Γ g 8 k n x 432 (lvL b g t) [] := by
  refine z_aload_n (pc := 432) hO 1 dL_law_432 rfl rfl ?_
  refine z_aload_n (pc := 433) hO 0 dL_law_433 rfl rfl ?_
  refine z_iload (pc := 434) hO 4 dL_law_434 rfl ?_
  refine z_iconst (pc := 436) hO dL_law_436 ?_
  refine z_iadd (pc := 437) hO dL_law_437 ?_
  refine z_sld (pc := 438) hO hX hb (by omega) (by omega) dL_law_438 ?_
  refine z_aload_n (pc := 439) hO 3 dL_law_439 rfl rfl ?_
  refine z_lawC (pc := 440) hO hN (As := [.ref (gA g 0), .int (zi (xs (5 * t + 1).toNat).toInt), .ref (gA g 70)]) (st := []) (D_laws (l := qL Γ) (g := g) (x := x) hl hJ (zi_rng _)) kW_laws (by decide) (by decide) (by decide) (Nat.le_of_ble_eq_true rfl) rfl ⟨by omega, by omega⟩ dL_law_440 (fun z1 y hz => ?_)
  obtain ⟨hz3, F2, L2, P, hF2, hL2, hM, hPo⟩ := hz
  refine z_istore (pc := 443) (lv' := (5, .int (zi z1)) :: lvL b g t) hO dL_law_443 (by decide) rfl ?_
  refine z_aload_n (pc := 445) hO 3 dL_law_445 rfl rfl ?_
  refine z_aload_n (pc := 446) hO 1 dL_law_446 rfl rfl ?_
  refine z_iload (pc := 447) hO 5 dL_law_447 rfl ?_
  refine z_iconst (pc := 449) hO dL_law_449 ?_
  refine z_iadd (pc := 450) hO dL_law_450 ?_
  refine z_sld (pc := 451) hO hX hb (by omega) (by omega) dL_law_451 ?_
  refine z_callVI (pc := 452) hO (As := [.int (zi (xs (5 * t + 1).toNat).toInt)]) (st := []) hM k_L_110 isO_50 rfl (Nat.le_of_ble_eq_true rfl) (by omega) (by omega) ⟨by omega, by omega⟩ dL_law_452 (fun r w hp => ?_)
  obtain ⟨h0, hJw, h70⟩ := hPo r w hp
  refine z_istore (pc := 455) (lv' := (6, .int (zi r)) :: (5, .int (zi z1)) :: lvL b g t) hO dL_law_455 (by decide) rfl ?_
  refine z_aload_n (pc := 457) hO 4 dL_law_457 rfl rfl ?_
  refine z_callVIp (pc := 458) hO (As := []) (st := []) (c_X12_thrown (qL Γ) g w) k_L_92 isO_50 rfl (Nat.le_of_ble_eq_true rfl) (by decide) (by decide) ⟨by omega, by omega⟩ dL_law_458 ?_
  refine z_iload (pc := 461) hO 1 dL_law_461 rfl ?_
  refine z_icmp_eq (pc := 463) (tgt := 468) hO dL_law_463 (by decide) (by omega) (by omega) (fun _ => ?_) (fun hne => absurd h0 hne)
  refine z_iload (pc := 468) hO 1 dL_law_468 rfl ?_
  refine z_if_ne (pc := 470) (tgt := 485) hO dL_law_470 (by decide) (by omega) (fun hz1 => ?_) (fun hz1 => ?_)
  · refine z_goto (pc := 485) (tgt := 1586) hO dL_law_485 (by decide) ?_
    exact z_sub [2, 3, 4, 5, 6] rfl (back w hJw)
  · refine z_aload_n (pc := 473) hO 5 dL_law_473 rfl rfl ?_
    refine z_iconst (pc := 474) hO dL_law_474 ?_
    refine z_lald (pc := 475) hO isL_70 (by decide) dL_law_475 ?_
    rw [h70 hz1]
    refine z_iload (pc := 476) hO 0 dL_law_476 rfl ?_
    refine z_i2lq (pc := 478) hO dL_law_478 ?_
    refine z_lcmp_same (pc := 479) (tgt := 485) hO dL_law_479 dL_law_480 (by decide) ?_
    refine z_goto (pc := 485) (tgt := 1586) hO dL_law_485 (by decide) ?_
    exact z_sub [2, 3, 4, 5, 6] rfl (back w hJw)
set_option maxHeartbeats 1000000 in
theorem case_sum {Γ : Gam} {g : Gl} {b L : Nat} {xs : Nat → Int32} {k n : Nat} {t : Int} {x : Me} (hO : Ok Γ g cL_law 8 RL 2048 84000 601024 7293034) (hN : pw_N (qS Γ)) (hX : va_X b L xs (qS Γ) (qS Γ).heap) (hb : b < gS g) (hl : (qL Γ).stackTraces = false) (hL : L ≤ 2560) (hJ : JI x) (ht : 0 ≤ t ∧ 5 * t + 5 ≤ L) (hk : k + 1 ≤ 601024 ∧ n + 6 ≤ 7293034) (back : ∀ w : Me, JI w → Zz Γ g 8 (k + 1) (n + 6) w 1586 (lvL b g t) []) : Zz Γ g 8 k n x 488 (lvL b g t) [] := by
  refine z_aload_n (pc := 488) hO 1 dL_law_488 rfl rfl ?_
  refine z_aload_n (pc := 489) hO 0 dL_law_489 rfl rfl ?_
  refine z_iload (pc := 490) hO 4 dL_law_490 rfl ?_
  refine z_iconst (pc := 492) hO dL_law_492 ?_
  refine z_iadd (pc := 493) hO dL_law_493 ?_
  refine z_sld (pc := 494) hO hX hb (by omega) (by omega) dL_law_494 ?_
  refine z_aload_n (pc := 495) hO 0 dL_law_495 rfl rfl ?_
  refine z_iload (pc := 496) hO 4 dL_law_496 rfl ?_
  refine z_iconst (pc := 498) hO dL_law_498 ?_
  refine z_iadd (pc := 499) hO dL_law_499 ?_
  refine z_sld (pc := 500) hO hX hb (by omega) (by omega) dL_law_500 ?_
  refine z_aload_n (pc := 501) hO 0 dL_law_501 rfl rfl ?_
  refine z_iload (pc := 502) hO 4 dL_law_502 rfl ?_
  refine z_iconst (pc := 504) hO dL_law_504 ?_
  refine z_iadd (pc := 505) hO dL_law_505 ?_
  refine z_sld (pc := 506) hO hX hb (by omega) (by omega) dL_law_506 ?_
  refine z_aload_n (pc := 507) hO 3 dL_law_507 rfl rfl ?_
  refine z_lawC (pc := 508) hO hN (As := [.ref (gA g 0), .int (zi (xs (5 * t + 1).toNat).toInt), .int (zi (xs (5 * t + 2).toNat).toInt), .int (zi (xs (5 * t + 3).toNat).toInt), .ref (gA g 70)]) (st := []) (D_sum (l := qL Γ) (g := g) (x := x) hl hJ (zi_rng _) (zi_rng _) (zi_rng _)) kW_sum (by decide) (by decide) (by decide) (Nat.le_of_ble_eq_true rfl) rfl ⟨by omega, by omega⟩ dL_law_508 (fun z1 y hz => ?_)
  obtain ⟨hz3, F2, L2, P, hF2, hL2, hM, hPo⟩ := hz
  refine z_istore (pc := 511) (lv' := (5, .int (zi z1)) :: lvL b g t) hO dL_law_511 (by decide) rfl ?_
  refine z_aload_n (pc := 513) hO 3 dL_law_513 rfl rfl ?_
  refine z_aload_n (pc := 514) hO 1 dL_law_514 rfl rfl ?_
  refine z_iload (pc := 515) hO 5 dL_law_515 rfl ?_
  refine z_iconst (pc := 517) hO dL_law_517 ?_
  refine z_iadd (pc := 518) hO dL_law_518 ?_
  refine z_sld (pc := 519) hO hX hb (by omega) (by omega) dL_law_519 ?_
  refine z_aload_n (pc := 520) hO 1 dL_law_520 rfl rfl ?_
  refine z_iload (pc := 521) hO 5 dL_law_521 rfl ?_
  refine z_iconst (pc := 523) hO dL_law_523 ?_
  refine z_iadd (pc := 524) hO dL_law_524 ?_
  refine z_sld (pc := 525) hO hX hb (by omega) (by omega) dL_law_525 ?_
  refine z_aload_n (pc := 526) hO 1 dL_law_526 rfl rfl ?_
  refine z_iload (pc := 527) hO 5 dL_law_527 rfl ?_
  refine z_iconst (pc := 529) hO dL_law_529 ?_
  refine z_iadd (pc := 530) hO dL_law_530 ?_
  refine z_sld (pc := 531) hO hX hb (by omega) (by omega) dL_law_531 ?_
  refine z_callVI (pc := 532) hO (As := [.int (zi (xs (5 * t + 1).toNat).toInt), .int (zi (xs (5 * t + 2).toNat).toInt), .int (zi (xs (5 * t + 3).toNat).toInt)]) (st := []) hM k_L_113 isO_50 rfl (Nat.le_of_ble_eq_true rfl) (by omega) (by omega) ⟨by omega, by omega⟩ dL_law_532 (fun r w hp => ?_)
  obtain ⟨h0, hJw, h70⟩ := hPo r w hp
  refine z_istore (pc := 535) (lv' := (6, .int (zi r)) :: (5, .int (zi z1)) :: lvL b g t) hO dL_law_535 (by decide) rfl ?_
  refine z_aload_n (pc := 537) hO 4 dL_law_537 rfl rfl ?_
  refine z_callVIp (pc := 538) hO (As := []) (st := []) (c_X12_thrown (qL Γ) g w) k_L_92 isO_50 rfl (Nat.le_of_ble_eq_true rfl) (by decide) (by decide) ⟨by omega, by omega⟩ dL_law_538 ?_
  refine z_iload (pc := 541) hO 1 dL_law_541 rfl ?_
  refine z_icmp_eq (pc := 543) (tgt := 548) hO dL_law_543 (by decide) (by omega) (by omega) (fun _ => ?_) (fun hne => absurd h0 hne)
  refine z_iload (pc := 548) hO 1 dL_law_548 rfl ?_
  refine z_if_ne (pc := 550) (tgt := 565) hO dL_law_550 (by decide) (by omega) (fun hz1 => ?_) (fun hz1 => ?_)
  · refine z_goto (pc := 565) (tgt := 1586) hO dL_law_565 (by decide) ?_
    exact z_sub [2, 3, 4, 5, 6] rfl (back w hJw)
  · refine z_aload_n (pc := 553) hO 5 dL_law_553 rfl rfl ?_
    refine z_iconst (pc := 554) hO dL_law_554 ?_
    refine z_lald (pc := 555) hO isL_70 (by decide) dL_law_555 ?_
    rw [h70 hz1]
    refine z_iload (pc := 556) hO 0 dL_law_556 rfl ?_
    refine z_i2lq (pc := 558) hO dL_law_558 ?_
    refine z_lcmp_same (pc := 559) (tgt := 565) hO dL_law_559 dL_law_560 (by decide) ?_
    refine z_goto (pc := 565) (tgt := 1586) hO dL_law_565 (by decide) ?_
    exact z_sub [2, 3, 4, 5, 6] rfl (back w hJw)
set_option maxHeartbeats 1000000 in
theorem case_change {Γ : Gam} {g : Gl} {b L : Nat} {xs : Nat → Int32} {k n : Nat} {t : Int} {x : Me} (hO : Ok Γ g cL_law 8 RL 2048 84000 601024 7293034) (hN : pw_N (qS Γ)) (hX : va_X b L xs (qS Γ) (qS Γ).heap) (hb : b < gS g) (hl : (qL Γ).stackTraces = false) (hL : L ≤ 2560) (hJ : JI x) (ht : 0 ≤ t ∧ 5 * t + 5 ≤ L) (hk : k + 1 ≤ 601024 ∧ n + 6 ≤ 7293034) (back : ∀ w : Me, JI w → Zz Γ g 8 (k + 1) (n + 6) w 1586 (lvL b g t) []) : Zz Γ g 8 k n x 568 (lvL b g t) [] := by
  refine z_aload_n (pc := 568) hO 1 dL_law_568 rfl rfl ?_
  refine z_aload_n (pc := 569) hO 0 dL_law_569 rfl rfl ?_
  refine z_iload (pc := 570) hO 4 dL_law_570 rfl ?_
  refine z_iconst (pc := 572) hO dL_law_572 ?_
  refine z_iadd (pc := 573) hO dL_law_573 ?_
  refine z_sld (pc := 574) hO hX hb (by omega) (by omega) dL_law_574 ?_
  refine z_aload_n (pc := 575) hO 0 dL_law_575 rfl rfl ?_
  refine z_iload (pc := 576) hO 4 dL_law_576 rfl ?_
  refine z_iconst (pc := 578) hO dL_law_578 ?_
  refine z_iadd (pc := 579) hO dL_law_579 ?_
  refine z_sld (pc := 580) hO hX hb (by omega) (by omega) dL_law_580 ?_
  refine z_aload_n (pc := 581) hO 0 dL_law_581 rfl rfl ?_
  refine z_iload (pc := 582) hO 4 dL_law_582 rfl ?_
  refine z_iconst (pc := 584) hO dL_law_584 ?_
  refine z_iadd (pc := 585) hO dL_law_585 ?_
  refine z_sld (pc := 586) hO hX hb (by omega) (by omega) dL_law_586 ?_
  refine z_aload_n (pc := 587) hO 3 dL_law_587 rfl rfl ?_
  refine z_lawC (pc := 588) hO hN (As := [.ref (gA g 0), .int (zi (xs (5 * t + 1).toNat).toInt), .int (zi (xs (5 * t + 2).toNat).toInt), .int (zi (xs (5 * t + 3).toNat).toInt), .ref (gA g 70)]) (st := []) (D_change (l := qL Γ) (g := g) (x := x) hl hJ (zi_rng _) (zi_rng _) (zi_rng _)) kW_change (by decide) (by decide) (by decide) (Nat.le_of_ble_eq_true rfl) rfl ⟨by omega, by omega⟩ dL_law_588 (fun z1 y hz => ?_)
  obtain ⟨hz3, F2, L2, P, hF2, hL2, hM, hPo⟩ := hz
  refine z_istore (pc := 591) (lv' := (5, .int (zi z1)) :: lvL b g t) hO dL_law_591 (by decide) rfl ?_
  refine z_aload_n (pc := 593) hO 3 dL_law_593 rfl rfl ?_
  refine z_aload_n (pc := 594) hO 1 dL_law_594 rfl rfl ?_
  refine z_iload (pc := 595) hO 5 dL_law_595 rfl ?_
  refine z_iconst (pc := 597) hO dL_law_597 ?_
  refine z_iadd (pc := 598) hO dL_law_598 ?_
  refine z_sld (pc := 599) hO hX hb (by omega) (by omega) dL_law_599 ?_
  refine z_aload_n (pc := 600) hO 1 dL_law_600 rfl rfl ?_
  refine z_iload (pc := 601) hO 5 dL_law_601 rfl ?_
  refine z_iconst (pc := 603) hO dL_law_603 ?_
  refine z_iadd (pc := 604) hO dL_law_604 ?_
  refine z_sld (pc := 605) hO hX hb (by omega) (by omega) dL_law_605 ?_
  refine z_aload_n (pc := 606) hO 1 dL_law_606 rfl rfl ?_
  refine z_iload (pc := 607) hO 5 dL_law_607 rfl ?_
  refine z_iconst (pc := 609) hO dL_law_609 ?_
  refine z_iadd (pc := 610) hO dL_law_610 ?_
  refine z_sld (pc := 611) hO hX hb (by omega) (by omega) dL_law_611 ?_
  refine z_callVI (pc := 612) hO (As := [.int (zi (xs (5 * t + 1).toNat).toInt), .int (zi (xs (5 * t + 2).toNat).toInt), .int (zi (xs (5 * t + 3).toNat).toInt)]) (st := []) hM k_L_116 isO_50 rfl (Nat.le_of_ble_eq_true rfl) (by omega) (by omega) ⟨by omega, by omega⟩ dL_law_612 (fun r w hp => ?_)
  obtain ⟨h0, hJw, h70⟩ := hPo r w hp
  refine z_istore (pc := 615) (lv' := (6, .int (zi r)) :: (5, .int (zi z1)) :: lvL b g t) hO dL_law_615 (by decide) rfl ?_
  refine z_aload_n (pc := 617) hO 4 dL_law_617 rfl rfl ?_
  refine z_callVIp (pc := 618) hO (As := []) (st := []) (c_X12_thrown (qL Γ) g w) k_L_92 isO_50 rfl (Nat.le_of_ble_eq_true rfl) (by decide) (by decide) ⟨by omega, by omega⟩ dL_law_618 ?_
  refine z_iload (pc := 621) hO 1 dL_law_621 rfl ?_
  refine z_icmp_eq (pc := 623) (tgt := 628) hO dL_law_623 (by decide) (by omega) (by omega) (fun _ => ?_) (fun hne => absurd h0 hne)
  refine z_iload (pc := 628) hO 1 dL_law_628 rfl ?_
  refine z_if_ne (pc := 630) (tgt := 645) hO dL_law_630 (by decide) (by omega) (fun hz1 => ?_) (fun hz1 => ?_)
  · refine z_goto (pc := 645) (tgt := 1586) hO dL_law_645 (by decide) ?_
    exact z_sub [2, 3, 4, 5, 6] rfl (back w hJw)
  · refine z_aload_n (pc := 633) hO 5 dL_law_633 rfl rfl ?_
    refine z_iconst (pc := 634) hO dL_law_634 ?_
    refine z_lald (pc := 635) hO isL_70 (by decide) dL_law_635 ?_
    rw [h70 hz1]
    refine z_iload (pc := 636) hO 0 dL_law_636 rfl ?_
    refine z_i2lq (pc := 638) hO dL_law_638 ?_
    refine z_lcmp_same (pc := 639) (tgt := 645) hO dL_law_639 dL_law_640 (by decide) ?_
    refine z_goto (pc := 645) (tgt := 1586) hO dL_law_645 (by decide) ?_
    exact z_sub [2, 3, 4, 5, 6] rfl (back w hJw)
set_option maxHeartbeats 1000000 in
theorem case_same {Γ : Gam} {g : Gl} {b L : Nat} {xs : Nat → Int32} {k n : Nat} {t : Int} {x : Me} (hO : Ok Γ g cL_law 8 RL 2048 84000 601024 7293034) (hN : pw_N (qS Γ)) (hX : va_X b L xs (qS Γ) (qS Γ).heap) (hb : b < gS g) (hl : (qL Γ).stackTraces = false) (hL : L ≤ 2560) (hJ : JI x) (ht : 0 ≤ t ∧ 5 * t + 5 ≤ L) (hk : k + 1 ≤ 601024 ∧ n + 6 ≤ 7293034) (back : ∀ w : Me, JI w → Zz Γ g 8 (k + 1) (n + 6) w 1586 (lvL b g t) []) : Zz Γ g 8 k n x 648 (lvL b g t) [] := by
  refine z_aload_n (pc := 648) hO 1 dL_law_648 rfl rfl ?_
  refine z_aload_n (pc := 649) hO 0 dL_law_649 rfl rfl ?_
  refine z_iload (pc := 650) hO 4 dL_law_650 rfl ?_
  refine z_iconst (pc := 652) hO dL_law_652 ?_
  refine z_iadd (pc := 653) hO dL_law_653 ?_
  refine z_sld (pc := 654) hO hX hb (by omega) (by omega) dL_law_654 ?_
  refine z_aload_n (pc := 655) hO 0 dL_law_655 rfl rfl ?_
  refine z_iload (pc := 656) hO 4 dL_law_656 rfl ?_
  refine z_iconst (pc := 658) hO dL_law_658 ?_
  refine z_iadd (pc := 659) hO dL_law_659 ?_
  refine z_sld (pc := 660) hO hX hb (by omega) (by omega) dL_law_660 ?_
  refine z_aload_n (pc := 661) hO 3 dL_law_661 rfl rfl ?_
  refine z_lawC (pc := 662) hO hN (As := [.ref (gA g 0), .int (zi (xs (5 * t + 1).toNat).toInt), .int (zi (xs (5 * t + 2).toNat).toInt), .ref (gA g 70)]) (st := []) (D_same (l := qL Γ) (g := g) (x := x) hl hJ (zi_rng _) (zi_rng _)) kW_same (by decide) (by decide) (by decide) (Nat.le_of_ble_eq_true rfl) rfl ⟨by omega, by omega⟩ dL_law_662 (fun z1 y hz => ?_)
  obtain ⟨hz3, F2, L2, P, hF2, hL2, hM, hPo⟩ := hz
  refine z_istore (pc := 665) (lv' := (5, .int (zi z1)) :: lvL b g t) hO dL_law_665 (by decide) rfl ?_
  refine z_aload_n (pc := 667) hO 3 dL_law_667 rfl rfl ?_
  refine z_aload_n (pc := 668) hO 1 dL_law_668 rfl rfl ?_
  refine z_iload (pc := 669) hO 5 dL_law_669 rfl ?_
  refine z_iconst (pc := 671) hO dL_law_671 ?_
  refine z_iadd (pc := 672) hO dL_law_672 ?_
  refine z_sld (pc := 673) hO hX hb (by omega) (by omega) dL_law_673 ?_
  refine z_aload_n (pc := 674) hO 1 dL_law_674 rfl rfl ?_
  refine z_iload (pc := 675) hO 5 dL_law_675 rfl ?_
  refine z_iconst (pc := 677) hO dL_law_677 ?_
  refine z_iadd (pc := 678) hO dL_law_678 ?_
  refine z_sld (pc := 679) hO hX hb (by omega) (by omega) dL_law_679 ?_
  refine z_callVI (pc := 680) hO (As := [.int (zi (xs (5 * t + 1).toNat).toInt), .int (zi (xs (5 * t + 2).toNat).toInt)]) (st := []) hM k_L_119 isO_50 rfl (Nat.le_of_ble_eq_true rfl) (by omega) (by omega) ⟨by omega, by omega⟩ dL_law_680 (fun r w hp => ?_)
  obtain ⟨h0, hJw, h01, h70⟩ := hPo r w hp
  refine z_istore (pc := 683) (lv' := (6, .int (zi r)) :: (5, .int (zi z1)) :: lvL b g t) hO dL_law_683 (by decide) rfl ?_
  refine z_aload_n (pc := 685) hO 4 dL_law_685 rfl rfl ?_
  refine z_callVIp (pc := 686) hO (As := []) (st := []) (c_X12_thrown (qL Γ) g w) k_L_92 isO_50 rfl (Nat.le_of_ble_eq_true rfl) (by decide) (by decide) ⟨by omega, by omega⟩ dL_law_686 ?_
  refine z_iload (pc := 689) hO 1 dL_law_689 rfl ?_
  refine z_icmp_eq (pc := 691) (tgt := 696) hO dL_law_691 (by decide) (by omega) (by omega) (fun _ => ?_) (fun hne => absurd h0 hne)
  refine z_iload (pc := 696) hO 1 dL_law_696 rfl ?_
  refine z_if_ne (pc := 698) (tgt := 720) hO dL_law_698 (by decide) (by omega) (fun hz1 => ?_) (fun hz1 => ?_)
  · refine z_goto (pc := 720) (tgt := 1586) hO dL_law_720 (by decide) ?_
    exact z_sub [2, 3, 4, 5, 6] rfl (back w hJw)
  · refine z_aload_n (pc := 701) hO 5 dL_law_701 rfl rfl ?_
    refine z_iconst (pc := 702) hO dL_law_702 ?_
    refine z_lald (pc := 703) hO isL_70 (by decide) dL_law_703 ?_
    refine z_iload (pc := 704) hO 0 dL_law_704 rfl ?_
    refine z_if_eq (pc := 706) (tgt := 713) hO dL_law_706 (by decide) (by omega) (fun b1 => ?_) (fun b1 => ?_)
    · refine z_lconst (pc := 713) (v := 0) hO dL_law_713 rfl ?_
      rw [show w 70 0 = 0 by have := h70 hz1; omega]
      refine z_lcmp_same (pc := 714) (tgt := 720) hO dL_law_714 dL_law_715 (by decide) ?_
      refine z_goto (pc := 720) (tgt := 1586) hO dL_law_720 (by decide) ?_
      exact z_sub [2, 3, 4, 5, 6] rfl (back w hJw)
    · refine z_lconst (pc := 709) (v := 1) hO dL_law_709 rfl ?_
      refine z_goto (pc := 710) (tgt := 714) hO dL_law_710 (by decide) ?_
      rw [show w 70 0 = 1 by have := h70 hz1; omega]
      refine z_lcmp_same (pc := 714) (tgt := 720) hO dL_law_714 dL_law_715 (by decide) ?_
      refine z_goto (pc := 720) (tgt := 1586) hO dL_law_720 (by decide) ?_
      exact z_sub [2, 3, 4, 5, 6] rfl (back w hJw)
set_option maxHeartbeats 1000000 in
theorem case_least {Γ : Gam} {g : Gl} {b L : Nat} {xs : Nat → Int32} {k n : Nat} {t : Int} {x : Me} (hO : Ok Γ g cL_law 8 RL 2048 84000 601024 7293034) (hN : pw_N (qS Γ)) (hX : va_X b L xs (qS Γ) (qS Γ).heap) (hb : b < gS g) (hl : (qL Γ).stackTraces = false) (hL : L ≤ 2560) (hJ : JI x) (ht : 0 ≤ t ∧ 5 * t + 5 ≤ L) (hk : k + 1 ≤ 601024 ∧ n + 6 ≤ 7293034) (back : ∀ w : Me, JI w → Zz Γ g 8 (k + 1) (n + 6) w 1586 (lvL b g t) []) : Zz Γ g 8 k n x 723 (lvL b g t) [] := by
  refine z_aload_n (pc := 723) hO 1 dL_law_723 rfl rfl ?_
  refine z_aload_n (pc := 724) hO 0 dL_law_724 rfl rfl ?_
  refine z_iload (pc := 725) hO 4 dL_law_725 rfl ?_
  refine z_iconst (pc := 727) hO dL_law_727 ?_
  refine z_iadd (pc := 728) hO dL_law_728 ?_
  refine z_sld (pc := 729) hO hX hb (by omega) (by omega) dL_law_729 ?_
  refine z_aload_n (pc := 730) hO 0 dL_law_730 rfl rfl ?_
  refine z_iload (pc := 731) hO 4 dL_law_731 rfl ?_
  refine z_iconst (pc := 733) hO dL_law_733 ?_
  refine z_iadd (pc := 734) hO dL_law_734 ?_
  refine z_sld (pc := 735) hO hX hb (by omega) (by omega) dL_law_735 ?_
  refine z_aload_n (pc := 736) hO 0 dL_law_736 rfl rfl ?_
  refine z_iload (pc := 737) hO 4 dL_law_737 rfl ?_
  refine z_iconst (pc := 739) hO dL_law_739 ?_
  refine z_iadd (pc := 740) hO dL_law_740 ?_
  refine z_sld (pc := 741) hO hX hb (by omega) (by omega) dL_law_741 ?_
  refine z_aload_n (pc := 742) hO 3 dL_law_742 rfl rfl ?_
  refine z_lawC (pc := 743) hO hN (As := [.ref (gA g 0), .int (zi (xs (5 * t + 1).toNat).toInt), .int (zi (xs (5 * t + 2).toNat).toInt), .int (zi (xs (5 * t + 3).toNat).toInt), .ref (gA g 70)]) (st := []) (D_least (l := qL Γ) (g := g) (x := x) hl hJ (zi_rng _) (zi_rng _) (zi_rng _)) kW_least (by decide) (by decide) (by decide) (Nat.le_of_ble_eq_true rfl) rfl ⟨by omega, by omega⟩ dL_law_743 (fun z1 y hz => ?_)
  obtain ⟨hz3, F2, L2, P, hF2, hL2, hM, hPo⟩ := hz
  refine z_istore (pc := 746) (lv' := (5, .int (zi z1)) :: lvL b g t) hO dL_law_746 (by decide) rfl ?_
  refine z_aload_n (pc := 748) hO 3 dL_law_748 rfl rfl ?_
  refine z_aload_n (pc := 749) hO 1 dL_law_749 rfl rfl ?_
  refine z_iload (pc := 750) hO 5 dL_law_750 rfl ?_
  refine z_iconst (pc := 752) hO dL_law_752 ?_
  refine z_iadd (pc := 753) hO dL_law_753 ?_
  refine z_sld (pc := 754) hO hX hb (by omega) (by omega) dL_law_754 ?_
  refine z_aload_n (pc := 755) hO 1 dL_law_755 rfl rfl ?_
  refine z_iload (pc := 756) hO 5 dL_law_756 rfl ?_
  refine z_iconst (pc := 758) hO dL_law_758 ?_
  refine z_iadd (pc := 759) hO dL_law_759 ?_
  refine z_sld (pc := 760) hO hX hb (by omega) (by omega) dL_law_760 ?_
  refine z_aload_n (pc := 761) hO 1 dL_law_761 rfl rfl ?_
  refine z_iload (pc := 762) hO 5 dL_law_762 rfl ?_
  refine z_iconst (pc := 764) hO dL_law_764 ?_
  refine z_iadd (pc := 765) hO dL_law_765 ?_
  refine z_sld (pc := 766) hO hX hb (by omega) (by omega) dL_law_766 ?_
  refine z_callVI (pc := 767) hO (As := [.int (zi (xs (5 * t + 1).toNat).toInt), .int (zi (xs (5 * t + 2).toNat).toInt), .int (zi (xs (5 * t + 3).toNat).toInt)]) (st := []) hM k_L_122 isO_50 rfl (Nat.le_of_ble_eq_true rfl) (by omega) (by omega) ⟨by omega, by omega⟩ dL_law_767 (fun r w hp => ?_)
  obtain ⟨h0, hJw, h70⟩ := hPo r w hp
  refine z_istore (pc := 770) (lv' := (6, .int (zi r)) :: (5, .int (zi z1)) :: lvL b g t) hO dL_law_770 (by decide) rfl ?_
  refine z_aload_n (pc := 772) hO 4 dL_law_772 rfl rfl ?_
  refine z_callVIp (pc := 773) hO (As := []) (st := []) (c_X12_thrown (qL Γ) g w) k_L_92 isO_50 rfl (Nat.le_of_ble_eq_true rfl) (by decide) (by decide) ⟨by omega, by omega⟩ dL_law_773 ?_
  refine z_iload (pc := 776) hO 1 dL_law_776 rfl ?_
  refine z_icmp_eq (pc := 778) (tgt := 783) hO dL_law_778 (by decide) (by omega) (by omega) (fun _ => ?_) (fun hne => absurd h0 hne)
  refine z_iload (pc := 783) hO 1 dL_law_783 rfl ?_
  refine z_if_ne (pc := 785) (tgt := 800) hO dL_law_785 (by decide) (by omega) (fun hz1 => ?_) (fun hz1 => ?_)
  · refine z_goto (pc := 800) (tgt := 1586) hO dL_law_800 (by decide) ?_
    exact z_sub [2, 3, 4, 5, 6] rfl (back w hJw)
  · refine z_aload_n (pc := 788) hO 5 dL_law_788 rfl rfl ?_
    refine z_iconst (pc := 789) hO dL_law_789 ?_
    refine z_lald (pc := 790) hO isL_70 (by decide) dL_law_790 ?_
    rw [h70 hz1]
    refine z_iload (pc := 791) hO 0 dL_law_791 rfl ?_
    refine z_i2lq (pc := 793) hO dL_law_793 ?_
    refine z_lcmp_same (pc := 794) (tgt := 800) hO dL_law_794 dL_law_795 (by decide) ?_
    refine z_goto (pc := 800) (tgt := 1586) hO dL_law_800 (by decide) ?_
    exact z_sub [2, 3, 4, 5, 6] rfl (back w hJw)
set_option maxHeartbeats 1000000 in
theorem case_kin {Γ : Gam} {g : Gl} {b L : Nat} {xs : Nat → Int32} {k n : Nat} {t : Int} {x : Me} (hO : Ok Γ g cL_law 8 RL 2048 84000 601024 7293034) (hN : pw_N (qS Γ)) (hX : va_X b L xs (qS Γ) (qS Γ).heap) (hb : b < gS g) (hl : (qL Γ).stackTraces = false) (hL : L ≤ 2560) (hJ : JI x) (ht : 0 ≤ t ∧ 5 * t + 5 ≤ L) (hk : k + 1 ≤ 601024 ∧ n + 6 ≤ 7293034) (back : ∀ w : Me, JI w → Zz Γ g 8 (k + 1) (n + 6) w 1586 (lvL b g t) []) : Zz Γ g 8 k n x 803 (lvL b g t) [] := by
  refine z_aload_n (pc := 803) hO 1 dL_law_803 rfl rfl ?_
  refine z_aload_n (pc := 804) hO 0 dL_law_804 rfl rfl ?_
  refine z_iload (pc := 805) hO 4 dL_law_805 rfl ?_
  refine z_iconst (pc := 807) hO dL_law_807 ?_
  refine z_iadd (pc := 808) hO dL_law_808 ?_
  refine z_sld (pc := 809) hO hX hb (by omega) (by omega) dL_law_809 ?_
  refine z_aload_n (pc := 810) hO 3 dL_law_810 rfl rfl ?_
  refine z_lawC (pc := 811) hO hN (As := [.ref (gA g 0), .int (zi (xs (5 * t + 1).toNat).toInt), .ref (gA g 70)]) (st := []) (D_kin (l := qL Γ) (g := g) (x := x) hl hJ (zi_rng _)) kW_kin (by decide) (by decide) (by decide) (Nat.le_of_ble_eq_true rfl) rfl ⟨by omega, by omega⟩ dL_law_811 (fun z1 y hz => ?_)
  obtain ⟨hz3, F2, L2, P, hF2, hL2, hM, hPo⟩ := hz
  refine z_istore (pc := 814) (lv' := (5, .int (zi z1)) :: lvL b g t) hO dL_law_814 (by decide) rfl ?_
  refine z_aload_n (pc := 816) hO 3 dL_law_816 rfl rfl ?_
  refine z_aload_n (pc := 817) hO 1 dL_law_817 rfl rfl ?_
  refine z_iload (pc := 818) hO 5 dL_law_818 rfl ?_
  refine z_iconst (pc := 820) hO dL_law_820 ?_
  refine z_iadd (pc := 821) hO dL_law_821 ?_
  refine z_sld (pc := 822) hO hX hb (by omega) (by omega) dL_law_822 ?_
  refine z_callVI (pc := 823) hO (As := [.int (zi (xs (5 * t + 1).toNat).toInt)]) (st := []) hM k_L_125 isO_50 rfl (Nat.le_of_ble_eq_true rfl) (by omega) (by omega) ⟨by omega, by omega⟩ dL_law_823 (fun r w hp => ?_)
  obtain ⟨h0, hJw, h70⟩ := hPo r w hp
  refine z_istore (pc := 826) (lv' := (6, .int (zi r)) :: (5, .int (zi z1)) :: lvL b g t) hO dL_law_826 (by decide) rfl ?_
  refine z_aload_n (pc := 828) hO 4 dL_law_828 rfl rfl ?_
  refine z_callVIp (pc := 829) hO (As := []) (st := []) (c_X12_thrown (qL Γ) g w) k_L_92 isO_50 rfl (Nat.le_of_ble_eq_true rfl) (by decide) (by decide) ⟨by omega, by omega⟩ dL_law_829 ?_
  refine z_iload (pc := 832) hO 1 dL_law_832 rfl ?_
  refine z_icmp_eq (pc := 834) (tgt := 839) hO dL_law_834 (by decide) (by omega) (by omega) (fun _ => ?_) (fun hne => absurd h0 hne)
  refine z_iload (pc := 839) hO 1 dL_law_839 rfl ?_
  refine z_if_ne (pc := 841) (tgt := 856) hO dL_law_841 (by decide) (by omega) (fun hz1 => ?_) (fun hz1 => ?_)
  · refine z_goto (pc := 856) (tgt := 1586) hO dL_law_856 (by decide) ?_
    exact z_sub [2, 3, 4, 5, 6] rfl (back w hJw)
  · refine z_aload_n (pc := 844) hO 5 dL_law_844 rfl rfl ?_
    refine z_iconst (pc := 845) hO dL_law_845 ?_
    refine z_lald (pc := 846) hO isL_70 (by decide) dL_law_846 ?_
    rw [h70 hz1]
    refine z_iload (pc := 847) hO 0 dL_law_847 rfl ?_
    refine z_i2lq (pc := 849) hO dL_law_849 ?_
    refine z_lcmp_same (pc := 850) (tgt := 856) hO dL_law_850 dL_law_851 (by decide) ?_
    refine z_goto (pc := 856) (tgt := 1586) hO dL_law_856 (by decide) ?_
    exact z_sub [2, 3, 4, 5, 6] rfl (back w hJw)
set_option maxHeartbeats 1000000 in
theorem case_classes {Γ : Gam} {g : Gl} {b L : Nat} {xs : Nat → Int32} {k n : Nat} {t : Int} {x : Me} (hO : Ok Γ g cL_law 8 RL 2048 84000 601024 7293034) (hN : pw_N (qS Γ)) (hX : va_X b L xs (qS Γ) (qS Γ).heap) (hb : b < gS g) (hl : (qL Γ).stackTraces = false) (hL : L ≤ 2560) (hJ : JI x) (ht : 0 ≤ t ∧ 5 * t + 5 ≤ L) (hk : k + 1 ≤ 601024 ∧ n + 6 ≤ 7293034) (back : ∀ w : Me, JI w → Zz Γ g 8 (k + 1) (n + 6) w 1586 (lvL b g t) []) : Zz Γ g 8 k n x 859 (lvL b g t) [] := by
  refine z_aload_n (pc := 859) hO 1 dL_law_859 rfl rfl ?_
  refine z_callVIp (pc := 860) hO (As := []) (st := []) (c_X11_classes (l := qL Γ) (g := g) (x := x) (hS := hJ.1)) k_L_126 isO_0 rfl (Nat.le_of_ble_eq_true rfl) (by decide) (by decide) ⟨by omega, by omega⟩ dL_law_860 ?_
  refine z_aload_n (pc := 863) hO 2 dL_law_863 rfl rfl ?_
  refine z_callVIm (pc := 864) hO (As := []) (st := [.int (zi _)]) (c_X12_classes (l := qL Γ) (g := g) (x := x) (hM := hJ.2.1)) k_L_129 isO_50 rfl (Nat.le_of_ble_eq_true rfl) (by decide) (by decide) ⟨by omega, by omega⟩ dL_law_864 (fun w hw => ?_)
  have hJw : JI w := by rw [hw]; exact JI_th hJ
  rw [← cls_eq hJ]
  refine z_icmp_same (pc := 867) (tgt := 1586) hO dL_law_867 (by decide) ?_
  exact z_widen (by omega) (by omega) (back w hJw)
set_option maxHeartbeats 1000000 in
theorem case_completions {Γ : Gam} {g : Gl} {b L : Nat} {xs : Nat → Int32} {k n : Nat} {t : Int} {x : Me} (hO : Ok Γ g cL_law 8 RL 2048 84000 601024 7293034) (hN : pw_N (qS Γ)) (hX : va_X b L xs (qS Γ) (qS Γ).heap) (hb : b < gS g) (hl : (qL Γ).stackTraces = false) (hL : L ≤ 2560) (hJ : JI x) (ht : 0 ≤ t ∧ 5 * t + 5 ≤ L) (hk : k + 1 ≤ 601024 ∧ n + 6 ≤ 7293034) (back : ∀ w : Me, JI w → Zz Γ g 8 (k + 1) (n + 6) w 1586 (lvL b g t) []) : Zz Γ g 8 k n x 872 (lvL b g t) [] := by
  refine z_aload_n (pc := 872) hO 1 dL_law_872 rfl rfl ?_
  refine z_aload_n (pc := 873) hO 0 dL_law_873 rfl rfl ?_
  refine z_iload (pc := 874) hO 4 dL_law_874 rfl ?_
  refine z_iconst (pc := 876) hO dL_law_876 ?_
  refine z_iadd (pc := 877) hO dL_law_877 ?_
  refine z_sld (pc := 878) hO hX hb (by omega) (by omega) dL_law_878 ?_
  refine z_aload_n (pc := 879) hO 3 dL_law_879 rfl rfl ?_
  refine z_lawC (pc := 880) hO hN (As := [.ref (gA g 0), .int (zi (xs (5 * t + 1).toNat).toInt), .ref (gA g 70)]) (st := []) (D_completions (l := qL Γ) (g := g) (x := x) hl hJ (zi_rng _)) kW_completions (by decide) (by decide) (by decide) (Nat.le_of_ble_eq_true rfl) rfl ⟨by omega, by omega⟩ dL_law_880 (fun z1 y hz => ?_)
  obtain ⟨hz3, F2, L2, P, hF2, hL2, hM, hPo⟩ := hz
  refine z_istore (pc := 883) (lv' := (5, .int (zi z1)) :: lvL b g t) hO dL_law_883 (by decide) rfl ?_
  refine z_aload_n (pc := 885) hO 3 dL_law_885 rfl rfl ?_
  refine z_aload_n (pc := 886) hO 1 dL_law_886 rfl rfl ?_
  refine z_iload (pc := 887) hO 5 dL_law_887 rfl ?_
  refine z_iconst (pc := 889) hO dL_law_889 ?_
  refine z_iadd (pc := 890) hO dL_law_890 ?_
  refine z_sld (pc := 891) hO hX hb (by omega) (by omega) dL_law_891 ?_
  refine z_callVI (pc := 892) hO (As := [.int (zi (xs (5 * t + 1).toNat).toInt)]) (st := []) hM k_L_132 isO_50 rfl (Nat.le_of_ble_eq_true rfl) (by omega) (by omega) ⟨by omega, by omega⟩ dL_law_892 (fun r w hp => ?_)
  obtain ⟨h0, hJw, h70⟩ := hPo r w hp
  refine z_istore (pc := 895) (lv' := (6, .int (zi r)) :: (5, .int (zi z1)) :: lvL b g t) hO dL_law_895 (by decide) rfl ?_
  refine z_aload_n (pc := 897) hO 4 dL_law_897 rfl rfl ?_
  refine z_callVIp (pc := 898) hO (As := []) (st := []) (c_X12_thrown (qL Γ) g w) k_L_92 isO_50 rfl (Nat.le_of_ble_eq_true rfl) (by decide) (by decide) ⟨by omega, by omega⟩ dL_law_898 ?_
  refine z_iload (pc := 901) hO 1 dL_law_901 rfl ?_
  refine z_icmp_eq (pc := 903) (tgt := 908) hO dL_law_903 (by decide) (by omega) (by omega) (fun _ => ?_) (fun hne => absurd h0 hne)
  refine z_iload (pc := 908) hO 1 dL_law_908 rfl ?_
  refine z_if_ne (pc := 910) (tgt := 925) hO dL_law_910 (by decide) (by omega) (fun hz1 => ?_) (fun hz1 => ?_)
  · refine z_goto (pc := 925) (tgt := 1586) hO dL_law_925 (by decide) ?_
    exact z_sub [2, 3, 4, 5, 6] rfl (back w hJw)
  · refine z_aload_n (pc := 913) hO 5 dL_law_913 rfl rfl ?_
    refine z_iconst (pc := 914) hO dL_law_914 ?_
    refine z_lald (pc := 915) hO isL_70 (by decide) dL_law_915 ?_
    rw [h70 hz1]
    refine z_iload (pc := 916) hO 0 dL_law_916 rfl ?_
    refine z_i2lq (pc := 918) hO dL_law_918 ?_
    refine z_lcmp_same (pc := 919) (tgt := 925) hO dL_law_919 dL_law_920 (by decide) ?_
    refine z_goto (pc := 925) (tgt := 1586) hO dL_law_925 (by decide) ?_
    exact z_sub [2, 3, 4, 5, 6] rfl (back w hJw)
set_option maxHeartbeats 1000000 in
theorem case_completion {Γ : Gam} {g : Gl} {b L : Nat} {xs : Nat → Int32} {k n : Nat} {t : Int} {x : Me} (hO : Ok Γ g cL_law 8 RL 2048 84000 601024 7293034) (hN : pw_N (qS Γ)) (hX : va_X b L xs (qS Γ) (qS Γ).heap) (hb : b < gS g) (hl : (qL Γ).stackTraces = false) (hL : L ≤ 2560) (hJ : JI x) (ht : 0 ≤ t ∧ 5 * t + 5 ≤ L) (hk : k + 1 ≤ 601024 ∧ n + 6 ≤ 7293034) (back : ∀ w : Me, JI w → Zz Γ g 8 (k + 1) (n + 6) w 1586 (lvL b g t) []) : Zz Γ g 8 k n x 928 (lvL b g t) [] := by
  refine z_aload_n (pc := 928) hO 1 dL_law_928 rfl rfl ?_
  refine z_aload_n (pc := 929) hO 0 dL_law_929 rfl rfl ?_
  refine z_iload (pc := 930) hO 4 dL_law_930 rfl ?_
  refine z_iconst (pc := 932) hO dL_law_932 ?_
  refine z_iadd (pc := 933) hO dL_law_933 ?_
  refine z_sld (pc := 934) hO hX hb (by omega) (by omega) dL_law_934 ?_
  refine z_aload_n (pc := 935) hO 0 dL_law_935 rfl rfl ?_
  refine z_iload (pc := 936) hO 4 dL_law_936 rfl ?_
  refine z_iconst (pc := 938) hO dL_law_938 ?_
  refine z_iadd (pc := 939) hO dL_law_939 ?_
  refine z_sld (pc := 940) hO hX hb (by omega) (by omega) dL_law_940 ?_
  refine z_aload_n (pc := 941) hO 0 dL_law_941 rfl rfl ?_
  refine z_iload (pc := 942) hO 4 dL_law_942 rfl ?_
  refine z_iconst (pc := 944) hO dL_law_944 ?_
  refine z_iadd (pc := 945) hO dL_law_945 ?_
  refine z_sld (pc := 946) hO hX hb (by omega) (by omega) dL_law_946 ?_
  refine z_aload_n (pc := 947) hO 0 dL_law_947 rfl rfl ?_
  refine z_iload (pc := 948) hO 4 dL_law_948 rfl ?_
  refine z_iconst (pc := 950) hO dL_law_950 ?_
  refine z_iadd (pc := 951) hO dL_law_951 ?_
  refine z_sld (pc := 952) hO hX hb (by omega) (by omega) dL_law_952 ?_
  refine z_aload_n (pc := 953) hO 3 dL_law_953 rfl rfl ?_
  refine z_lawC (pc := 954) hO hN (As := [.ref (gA g 0), .int (zi (xs (5 * t + 1).toNat).toInt), .int (zi (xs (5 * t + 2).toNat).toInt), .int (zi (xs (5 * t + 3).toNat).toInt), .int (zi (xs (5 * t + 4).toNat).toInt), .ref (gA g 70)]) (st := []) (D_completion (l := qL Γ) (g := g) (x := x) hl hJ (zi_rng _) (zi_rng _) (zi_rng _) (zi_rng _)) kW_completion (by decide) (by decide) (by decide) (Nat.le_of_ble_eq_true rfl) rfl ⟨by omega, by omega⟩ dL_law_954 (fun z1 y hz => ?_)
  obtain ⟨hz3, F2, L2, P, hF2, hL2, hM, hPo⟩ := hz
  refine z_istore (pc := 957) (lv' := (5, .int (zi z1)) :: lvL b g t) hO dL_law_957 (by decide) rfl ?_
  refine z_aload_n (pc := 959) hO 3 dL_law_959 rfl rfl ?_
  refine z_aload_n (pc := 960) hO 1 dL_law_960 rfl rfl ?_
  refine z_iload (pc := 961) hO 5 dL_law_961 rfl ?_
  refine z_iconst (pc := 963) hO dL_law_963 ?_
  refine z_iadd (pc := 964) hO dL_law_964 ?_
  refine z_sld (pc := 965) hO hX hb (by omega) (by omega) dL_law_965 ?_
  refine z_aload_n (pc := 966) hO 1 dL_law_966 rfl rfl ?_
  refine z_iload (pc := 967) hO 5 dL_law_967 rfl ?_
  refine z_iconst (pc := 969) hO dL_law_969 ?_
  refine z_iadd (pc := 970) hO dL_law_970 ?_
  refine z_sld (pc := 971) hO hX hb (by omega) (by omega) dL_law_971 ?_
  refine z_aload_n (pc := 972) hO 1 dL_law_972 rfl rfl ?_
  refine z_iload (pc := 973) hO 5 dL_law_973 rfl ?_
  refine z_iconst (pc := 975) hO dL_law_975 ?_
  refine z_iadd (pc := 976) hO dL_law_976 ?_
  refine z_sld (pc := 977) hO hX hb (by omega) (by omega) dL_law_977 ?_
  refine z_aload_n (pc := 978) hO 1 dL_law_978 rfl rfl ?_
  refine z_iload (pc := 979) hO 5 dL_law_979 rfl ?_
  refine z_iconst (pc := 981) hO dL_law_981 ?_
  refine z_iadd (pc := 982) hO dL_law_982 ?_
  refine z_sld (pc := 983) hO hX hb (by omega) (by omega) dL_law_983 ?_
  refine z_callVI (pc := 984) hO (As := [.int (zi (xs (5 * t + 1).toNat).toInt), .int (zi (xs (5 * t + 2).toNat).toInt), .int (zi (xs (5 * t + 3).toNat).toInt), .int (zi (xs (5 * t + 4).toNat).toInt)]) (st := []) hM k_L_135 isO_50 rfl (Nat.le_of_ble_eq_true rfl) (by omega) (by omega) ⟨by omega, by omega⟩ dL_law_984 (fun r w hp => ?_)
  obtain ⟨h0, hJw, h70⟩ := hPo r w hp
  refine z_istore (pc := 987) (lv' := (6, .int (zi r)) :: (5, .int (zi z1)) :: lvL b g t) hO dL_law_987 (by decide) rfl ?_
  refine z_aload_n (pc := 989) hO 4 dL_law_989 rfl rfl ?_
  refine z_callVIp (pc := 990) hO (As := []) (st := []) (c_X12_thrown (qL Γ) g w) k_L_92 isO_50 rfl (Nat.le_of_ble_eq_true rfl) (by decide) (by decide) ⟨by omega, by omega⟩ dL_law_990 ?_
  refine z_iload (pc := 993) hO 1 dL_law_993 rfl ?_
  refine z_icmp_eq (pc := 995) (tgt := 1000) hO dL_law_995 (by decide) (by omega) (by omega) (fun _ => ?_) (fun hne => absurd h0 hne)
  refine z_iload (pc := 1000) hO 1 dL_law_1000 rfl ?_
  refine z_if_ne (pc := 1002) (tgt := 1017) hO dL_law_1002 (by decide) (by omega) (fun hz1 => ?_) (fun hz1 => ?_)
  · refine z_goto (pc := 1017) (tgt := 1586) hO dL_law_1017 (by decide) ?_
    exact z_sub [2, 3, 4, 5, 6] rfl (back w hJw)
  · refine z_aload_n (pc := 1005) hO 5 dL_law_1005 rfl rfl ?_
    refine z_iconst (pc := 1006) hO dL_law_1006 ?_
    refine z_lald (pc := 1007) hO isL_70 (by decide) dL_law_1007 ?_
    rw [h70 hz1]
    refine z_iload (pc := 1008) hO 0 dL_law_1008 rfl ?_
    refine z_i2lq (pc := 1010) hO dL_law_1010 ?_
    refine z_lcmp_same (pc := 1011) (tgt := 1017) hO dL_law_1011 dL_law_1012 (by decide) ?_
    refine z_goto (pc := 1017) (tgt := 1586) hO dL_law_1017 (by decide) ?_
    exact z_sub [2, 3, 4, 5, 6] rfl (back w hJw)
set_option maxHeartbeats 1000000 in
theorem case_estimate {Γ : Gam} {g : Gl} {b L : Nat} {xs : Nat → Int32} {k n : Nat} {t : Int} {x : Me} (hO : Ok Γ g cL_law 8 RL 2048 84000 601024 7293034) (hN : pw_N (qS Γ)) (hX : va_X b L xs (qS Γ) (qS Γ).heap) (hb : b < gS g) (hl : (qL Γ).stackTraces = false) (hL : L ≤ 2560) (hJ : JI x) (ht : 0 ≤ t ∧ 5 * t + 5 ≤ L) (hk : k + 1 ≤ 601024 ∧ n + 6 ≤ 7293034) (back : ∀ w : Me, JI w → Zz Γ g 8 (k + 1) (n + 6) w 1586 (lvL b g t) []) : Zz Γ g 8 k n x 1020 (lvL b g t) [] := by
  refine z_aload_n (pc := 1020) hO 1 dL_law_1020 rfl rfl ?_
  refine z_aload_n (pc := 1021) hO 0 dL_law_1021 rfl rfl ?_
  refine z_iload (pc := 1022) hO 4 dL_law_1022 rfl ?_
  refine z_iconst (pc := 1024) hO dL_law_1024 ?_
  refine z_iadd (pc := 1025) hO dL_law_1025 ?_
  refine z_sld (pc := 1026) hO hX hb (by omega) (by omega) dL_law_1026 ?_
  refine z_aload_n (pc := 1027) hO 0 dL_law_1027 rfl rfl ?_
  refine z_iload (pc := 1028) hO 4 dL_law_1028 rfl ?_
  refine z_iconst (pc := 1030) hO dL_law_1030 ?_
  refine z_iadd (pc := 1031) hO dL_law_1031 ?_
  refine z_sld (pc := 1032) hO hX hb (by omega) (by omega) dL_law_1032 ?_
  refine z_aload_n (pc := 1033) hO 3 dL_law_1033 rfl rfl ?_
  refine z_lawC (pc := 1034) hO hN (As := [.ref (gA g 0), .int (zi (xs (5 * t + 1).toNat).toInt), .int (zi (xs (5 * t + 2).toNat).toInt), .ref (gA g 70)]) (st := []) (D_estimate (l := qL Γ) (g := g) (x := x) hl hJ (zi_rng _) (zi_rng _)) kW_estimate (by decide) (by decide) (by decide) (Nat.le_of_ble_eq_true rfl) rfl ⟨by omega, by omega⟩ dL_law_1034 (fun z1 y hz => ?_)
  obtain ⟨hz3, F2, L2, P, hF2, hL2, hM, hPo⟩ := hz
  refine z_istore (pc := 1037) (lv' := (5, .int (zi z1)) :: lvL b g t) hO dL_law_1037 (by decide) rfl ?_
  refine z_aload_n (pc := 1039) hO 3 dL_law_1039 rfl rfl ?_
  refine z_aload_n (pc := 1040) hO 1 dL_law_1040 rfl rfl ?_
  refine z_iload (pc := 1041) hO 5 dL_law_1041 rfl ?_
  refine z_iconst (pc := 1043) hO dL_law_1043 ?_
  refine z_iadd (pc := 1044) hO dL_law_1044 ?_
  refine z_sld (pc := 1045) hO hX hb (by omega) (by omega) dL_law_1045 ?_
  refine z_aload_n (pc := 1046) hO 1 dL_law_1046 rfl rfl ?_
  refine z_iload (pc := 1047) hO 5 dL_law_1047 rfl ?_
  refine z_iconst (pc := 1049) hO dL_law_1049 ?_
  refine z_iadd (pc := 1050) hO dL_law_1050 ?_
  refine z_sld (pc := 1051) hO hX hb (by omega) (by omega) dL_law_1051 ?_
  refine z_callVL (pc := 1052) hO (As := [.int (zi (xs (5 * t + 1).toNat).toInt), .int (zi (xs (5 * t + 2).toNat).toInt)]) (st := []) hM k_L_138 isO_50 rfl (Nat.le_of_ble_eq_true rfl) (by omega) (by omega) ⟨by omega, by omega⟩ dL_law_1052 (fun r w hp => ?_)
  obtain ⟨h0, hJw, h70⟩ := hPo r w hp
  refine z_lstore (pc := 1055) (lv' := (6, .long (zl r)) :: (5, .int (zi z1)) :: lvL b g t) hO dL_law_1055 (by decide) rfl ?_
  refine z_aload_n (pc := 1057) hO 4 dL_law_1057 rfl rfl ?_
  refine z_callVIp (pc := 1058) hO (As := []) (st := []) (c_X12_thrown (qL Γ) g w) k_L_92 isO_50 rfl (Nat.le_of_ble_eq_true rfl) (by decide) (by decide) ⟨by omega, by omega⟩ dL_law_1058 ?_
  refine z_iload (pc := 1061) hO 1 dL_law_1061 rfl ?_
  refine z_icmp_eq (pc := 1063) (tgt := 1068) hO dL_law_1063 (by decide) (by omega) (by omega) (fun _ => ?_) (fun hne => absurd h0 hne)
  refine z_iload (pc := 1068) hO 1 dL_law_1068 rfl ?_
  refine z_if_ne (pc := 1070) (tgt := 1084) hO dL_law_1070 (by decide) (by omega) (fun hz1 => ?_) (fun hz1 => ?_)
  · refine z_goto (pc := 1084) (tgt := 1586) hO dL_law_1084 (by decide) ?_
    exact z_sub [2, 3, 4, 5, 6] rfl (back w hJw)
  · refine z_aload_n (pc := 1073) hO 5 dL_law_1073 rfl rfl ?_
    refine z_iconst (pc := 1074) hO dL_law_1074 ?_
    refine z_lald (pc := 1075) hO isL_70 (by decide) dL_law_1075 ?_
    rw [h70 hz1]
    refine z_lload (pc := 1076) hO 0 dL_law_1076 rfl ?_
    refine z_lcmp_same (pc := 1078) (tgt := 1084) hO dL_law_1078 dL_law_1079 (by decide) ?_
    refine z_goto (pc := 1084) (tgt := 1586) hO dL_law_1084 (by decide) ?_
    exact z_sub [2, 3, 4, 5, 6] rfl (back w hJw)
set_option maxHeartbeats 1000000 in
theorem case_givens {Γ : Gam} {g : Gl} {b L : Nat} {xs : Nat → Int32} {k n : Nat} {t : Int} {x : Me} (hO : Ok Γ g cL_law 8 RL 2048 84000 601024 7293034) (hN : pw_N (qS Γ)) (hX : va_X b L xs (qS Γ) (qS Γ).heap) (hb : b < gS g) (hl : (qL Γ).stackTraces = false) (hL : L ≤ 2560) (hJ : JI x) (ht : 0 ≤ t ∧ 5 * t + 5 ≤ L) (hk : k + 1 ≤ 601024 ∧ n + 6 ≤ 7293034) (back : ∀ w : Me, JI w → Zz Γ g 8 (k + 1) (n + 6) w 1586 (lvL b g t) []) : Zz Γ g 8 k n x 1087 (lvL b g t) [] := by
  refine z_aload_n (pc := 1087) hO 1 dL_law_1087 rfl rfl ?_
  refine z_aload_n (pc := 1088) hO 0 dL_law_1088 rfl rfl ?_
  refine z_iload (pc := 1089) hO 4 dL_law_1089 rfl ?_
  refine z_iconst (pc := 1091) hO dL_law_1091 ?_
  refine z_iadd (pc := 1092) hO dL_law_1092 ?_
  refine z_sld (pc := 1093) hO hX hb (by omega) (by omega) dL_law_1093 ?_
  refine z_aload_n (pc := 1094) hO 0 dL_law_1094 rfl rfl ?_
  refine z_iload (pc := 1095) hO 4 dL_law_1095 rfl ?_
  refine z_iconst (pc := 1097) hO dL_law_1097 ?_
  refine z_iadd (pc := 1098) hO dL_law_1098 ?_
  refine z_sld (pc := 1099) hO hX hb (by omega) (by omega) dL_law_1099 ?_
  refine z_if_eq (pc := 1100) (tgt := 1107) hO dL_law_1100 (by decide) (zi_rng _) (fun hg0 => ?_) (fun hg0 => ?_)
  · refine z_iconst (pc := 1107) hO dL_law_1107 ?_
    refine z_aload_n (pc := 1108) hO 3 dL_law_1108 rfl rfl ?_
    refine z_lawC (pc := 1109) hO hN (As := [.ref (gA g 0), .int (zi (xs (5 * t + 1).toNat).toInt), .int (zi 0), .ref (gA g 70)]) (st := []) (D_givens (l := qL Γ) (g := g) (x := x) hl hJ (zi_rng _) (by decide) (by decide)) kW_givens (by decide) (by decide) (by decide) (Nat.le_of_ble_eq_true rfl) rfl ⟨by omega, by omega⟩ dL_law_1109 (fun z1 y hz => ?_)
    obtain ⟨hz3, F2, L2, P, hF2, hL2, hM, hPo⟩ := hz
    refine z_istore (pc := 1112) (lv' := (5, .int (zi z1)) :: lvL b g t) hO dL_law_1112 (by decide) rfl ?_
    refine z_aload_n (pc := 1114) hO 3 dL_law_1114 rfl rfl ?_
    refine z_aload_n (pc := 1115) hO 1 dL_law_1115 rfl rfl ?_
    refine z_iload (pc := 1116) hO 5 dL_law_1116 rfl ?_
    refine z_iconst (pc := 1118) hO dL_law_1118 ?_
    refine z_iadd (pc := 1119) hO dL_law_1119 ?_
    refine z_sld (pc := 1120) hO hX hb (by omega) (by omega) dL_law_1120 ?_
    refine z_aload_n (pc := 1121) hO 1 dL_law_1121 rfl rfl ?_
    refine z_iload (pc := 1122) hO 5 dL_law_1122 rfl ?_
    refine z_iconst (pc := 1124) hO dL_law_1124 ?_
    refine z_iadd (pc := 1125) hO dL_law_1125 ?_
    refine z_sld (pc := 1126) hO hX hb (by omega) (by omega) dL_law_1126 ?_
    refine z_if_eq (pc := 1127) (tgt := 1134) hO dL_law_1127 (by decide) (zi_rng _) (fun _ => ?_) (fun q => absurd hg0 q)
    refine z_iconst (pc := 1134) hO dL_law_1134 ?_
    refine z_callVI (pc := 1135) hO (As := [.int (zi (xs (5 * t + 1).toNat).toInt), .int (zi 0)]) (st := []) hM k_L_142 isO_50 rfl (Nat.le_of_ble_eq_true rfl) (by omega) (by omega) ⟨by omega, by omega⟩ dL_law_1135 (fun r w hp => ?_)
    obtain ⟨h0, hJw, h70⟩ := hPo r w hp
    refine z_istore (pc := 1138) (lv' := (6, .int (zi r)) :: (5, .int (zi z1)) :: lvL b g t) hO dL_law_1138 (by decide) rfl ?_
    refine z_aload_n (pc := 1140) hO 4 dL_law_1140 rfl rfl ?_
    refine z_callVIp (pc := 1141) hO (As := []) (st := []) (c_X12_thrown (qL Γ) g w) k_L_92 isO_50 rfl (Nat.le_of_ble_eq_true rfl) (by decide) (by decide) ⟨by omega, by omega⟩ dL_law_1141 ?_
    refine z_iload (pc := 1144) hO 1 dL_law_1144 rfl ?_
    refine z_icmp_eq (pc := 1146) (tgt := 1151) hO dL_law_1146 (by decide) (by omega) (by omega) (fun _ => ?_) (fun hne => absurd h0 hne)
    refine z_iload (pc := 1151) hO 1 dL_law_1151 rfl ?_
    refine z_if_ne (pc := 1153) (tgt := 1168) hO dL_law_1153 (by decide) (by omega) (fun hz1 => ?_) (fun hz1 => ?_)
    · refine z_goto (pc := 1168) (tgt := 1586) hO dL_law_1168 (by decide) ?_
      exact z_sub [2, 3, 4, 5, 6] rfl (back w hJw)
    · refine z_aload_n (pc := 1156) hO 5 dL_law_1156 rfl rfl ?_
      refine z_iconst (pc := 1157) hO dL_law_1157 ?_
      refine z_lald (pc := 1158) hO isL_70 (by decide) dL_law_1158 ?_
      rw [h70 hz1]
      refine z_iload (pc := 1159) hO 0 dL_law_1159 rfl ?_
      refine z_i2lq (pc := 1161) hO dL_law_1161 ?_
      refine z_lcmp_same (pc := 1162) (tgt := 1168) hO dL_law_1162 dL_law_1163 (by decide) ?_
      refine z_goto (pc := 1168) (tgt := 1586) hO dL_law_1168 (by decide) ?_
      exact z_sub [2, 3, 4, 5, 6] rfl (back w hJw)
  · refine z_iconst (pc := 1103) hO dL_law_1103 ?_
    refine z_goto (pc := 1104) (tgt := 1108) hO dL_law_1104 (by decide) ?_
    refine z_aload_n (pc := 1108) hO 3 dL_law_1108 rfl rfl ?_
    refine z_lawC (pc := 1109) hO hN (As := [.ref (gA g 0), .int (zi (xs (5 * t + 1).toNat).toInt), .int (zi 1), .ref (gA g 70)]) (st := []) (D_givens (l := qL Γ) (g := g) (x := x) hl hJ (zi_rng _) (by decide) (by decide)) kW_givens (by decide) (by decide) (by decide) (Nat.le_of_ble_eq_true rfl) rfl ⟨by omega, by omega⟩ dL_law_1109 (fun z1 y hz => ?_)
    obtain ⟨hz3, F2, L2, P, hF2, hL2, hM, hPo⟩ := hz
    refine z_istore (pc := 1112) (lv' := (5, .int (zi z1)) :: lvL b g t) hO dL_law_1112 (by decide) rfl ?_
    refine z_aload_n (pc := 1114) hO 3 dL_law_1114 rfl rfl ?_
    refine z_aload_n (pc := 1115) hO 1 dL_law_1115 rfl rfl ?_
    refine z_iload (pc := 1116) hO 5 dL_law_1116 rfl ?_
    refine z_iconst (pc := 1118) hO dL_law_1118 ?_
    refine z_iadd (pc := 1119) hO dL_law_1119 ?_
    refine z_sld (pc := 1120) hO hX hb (by omega) (by omega) dL_law_1120 ?_
    refine z_aload_n (pc := 1121) hO 1 dL_law_1121 rfl rfl ?_
    refine z_iload (pc := 1122) hO 5 dL_law_1122 rfl ?_
    refine z_iconst (pc := 1124) hO dL_law_1124 ?_
    refine z_iadd (pc := 1125) hO dL_law_1125 ?_
    refine z_sld (pc := 1126) hO hX hb (by omega) (by omega) dL_law_1126 ?_
    refine z_if_eq (pc := 1127) (tgt := 1134) hO dL_law_1127 (by decide) (zi_rng _) (fun q => absurd q hg0) (fun _ => ?_)
    refine z_iconst (pc := 1130) hO dL_law_1130 ?_
    refine z_goto (pc := 1131) (tgt := 1135) hO dL_law_1131 (by decide) ?_
    refine z_callVI (pc := 1135) hO (As := [.int (zi (xs (5 * t + 1).toNat).toInt), .int (zi 1)]) (st := []) hM k_L_142 isO_50 rfl (Nat.le_of_ble_eq_true rfl) (by omega) (by omega) ⟨by omega, by omega⟩ dL_law_1135 (fun r w hp => ?_)
    obtain ⟨h0, hJw, h70⟩ := hPo r w hp
    refine z_istore (pc := 1138) (lv' := (6, .int (zi r)) :: (5, .int (zi z1)) :: lvL b g t) hO dL_law_1138 (by decide) rfl ?_
    refine z_aload_n (pc := 1140) hO 4 dL_law_1140 rfl rfl ?_
    refine z_callVIp (pc := 1141) hO (As := []) (st := []) (c_X12_thrown (qL Γ) g w) k_L_92 isO_50 rfl (Nat.le_of_ble_eq_true rfl) (by decide) (by decide) ⟨by omega, by omega⟩ dL_law_1141 ?_
    refine z_iload (pc := 1144) hO 1 dL_law_1144 rfl ?_
    refine z_icmp_eq (pc := 1146) (tgt := 1151) hO dL_law_1146 (by decide) (by omega) (by omega) (fun _ => ?_) (fun hne => absurd h0 hne)
    refine z_iload (pc := 1151) hO 1 dL_law_1151 rfl ?_
    refine z_if_ne (pc := 1153) (tgt := 1168) hO dL_law_1153 (by decide) (by omega) (fun hz1 => ?_) (fun hz1 => ?_)
    · refine z_goto (pc := 1168) (tgt := 1586) hO dL_law_1168 (by decide) ?_
      exact z_sub [2, 3, 4, 5, 6] rfl (back w hJw)
    · refine z_aload_n (pc := 1156) hO 5 dL_law_1156 rfl rfl ?_
      refine z_iconst (pc := 1157) hO dL_law_1157 ?_
      refine z_lald (pc := 1158) hO isL_70 (by decide) dL_law_1158 ?_
      rw [h70 hz1]
      refine z_iload (pc := 1159) hO 0 dL_law_1159 rfl ?_
      refine z_i2lq (pc := 1161) hO dL_law_1161 ?_
      refine z_lcmp_same (pc := 1162) (tgt := 1168) hO dL_law_1162 dL_law_1163 (by decide) ?_
      refine z_goto (pc := 1168) (tgt := 1586) hO dL_law_1168 (by decide) ?_
      exact z_sub [2, 3, 4, 5, 6] rfl (back w hJw)
set_option maxHeartbeats 1000000 in
theorem case_slip {Γ : Gam} {g : Gl} {b L : Nat} {xs : Nat → Int32} {k n : Nat} {t : Int} {x : Me} (hO : Ok Γ g cL_law 8 RL 2048 84000 601024 7293034) (hN : pw_N (qS Γ)) (hX : va_X b L xs (qS Γ) (qS Γ).heap) (hb : b < gS g) (hl : (qL Γ).stackTraces = false) (hL : L ≤ 2560) (hJ : JI x) (ht : 0 ≤ t ∧ 5 * t + 5 ≤ L) (hk : k + 1 ≤ 601024 ∧ n + 6 ≤ 7293034) (back : ∀ w : Me, JI w → Zz Γ g 8 (k + 1) (n + 6) w 1586 (lvL b g t) []) : Zz Γ g 8 k n x 1171 (lvL b g t) [] := by
  refine z_aload_n (pc := 1171) hO 1 dL_law_1171 rfl rfl ?_
  refine z_aload_n (pc := 1172) hO 0 dL_law_1172 rfl rfl ?_
  refine z_iload (pc := 1173) hO 4 dL_law_1173 rfl ?_
  refine z_iconst (pc := 1175) hO dL_law_1175 ?_
  refine z_iadd (pc := 1176) hO dL_law_1176 ?_
  refine z_sld (pc := 1177) hO hX hb (by omega) (by omega) dL_law_1177 ?_
  refine z_aload_n (pc := 1178) hO 0 dL_law_1178 rfl rfl ?_
  refine z_iload (pc := 1179) hO 4 dL_law_1179 rfl ?_
  refine z_iconst (pc := 1181) hO dL_law_1181 ?_
  refine z_iadd (pc := 1182) hO dL_law_1182 ?_
  refine z_sld (pc := 1183) hO hX hb (by omega) (by omega) dL_law_1183 ?_
  refine z_aload_n (pc := 1184) hO 3 dL_law_1184 rfl rfl ?_
  refine z_lawC (pc := 1185) hO hN (As := [.ref (gA g 0), .int (zi (xs (5 * t + 1).toNat).toInt), .int (zi (xs (5 * t + 2).toNat).toInt), .ref (gA g 70)]) (st := []) (D_slip (l := qL Γ) (g := g) (x := x) hl hJ (zi_rng _) (zi_rng _)) kW_slip (by decide) (by decide) (by decide) (Nat.le_of_ble_eq_true rfl) rfl ⟨by omega, by omega⟩ dL_law_1185 (fun z1 y hz => ?_)
  obtain ⟨hz3, F2, L2, P, hF2, hL2, hM, hPo⟩ := hz
  refine z_istore (pc := 1188) (lv' := (5, .int (zi z1)) :: lvL b g t) hO dL_law_1188 (by decide) rfl ?_
  refine z_aload_n (pc := 1190) hO 3 dL_law_1190 rfl rfl ?_
  refine z_aload_n (pc := 1191) hO 1 dL_law_1191 rfl rfl ?_
  refine z_iload (pc := 1192) hO 5 dL_law_1192 rfl ?_
  refine z_iconst (pc := 1194) hO dL_law_1194 ?_
  refine z_iadd (pc := 1195) hO dL_law_1195 ?_
  refine z_sld (pc := 1196) hO hX hb (by omega) (by omega) dL_law_1196 ?_
  refine z_aload_n (pc := 1197) hO 1 dL_law_1197 rfl rfl ?_
  refine z_iload (pc := 1198) hO 5 dL_law_1198 rfl ?_
  refine z_iconst (pc := 1200) hO dL_law_1200 ?_
  refine z_iadd (pc := 1201) hO dL_law_1201 ?_
  refine z_sld (pc := 1202) hO hX hb (by omega) (by omega) dL_law_1202 ?_
  refine z_callVI (pc := 1203) hO (As := [.int (zi (xs (5 * t + 1).toNat).toInt), .int (zi (xs (5 * t + 2).toNat).toInt)]) (st := []) hM k_L_145 isO_50 rfl (Nat.le_of_ble_eq_true rfl) (by omega) (by omega) ⟨by omega, by omega⟩ dL_law_1203 (fun r w hp => ?_)
  obtain ⟨h0, hJw, h70⟩ := hPo r w hp
  refine z_istore (pc := 1206) (lv' := (6, .int (zi r)) :: (5, .int (zi z1)) :: lvL b g t) hO dL_law_1206 (by decide) rfl ?_
  refine z_aload_n (pc := 1208) hO 4 dL_law_1208 rfl rfl ?_
  refine z_callVIp (pc := 1209) hO (As := []) (st := []) (c_X12_thrown (qL Γ) g w) k_L_92 isO_50 rfl (Nat.le_of_ble_eq_true rfl) (by decide) (by decide) ⟨by omega, by omega⟩ dL_law_1209 ?_
  refine z_iload (pc := 1212) hO 1 dL_law_1212 rfl ?_
  refine z_icmp_eq (pc := 1214) (tgt := 1219) hO dL_law_1214 (by decide) (by omega) (by omega) (fun _ => ?_) (fun hne => absurd h0 hne)
  refine z_iload (pc := 1219) hO 1 dL_law_1219 rfl ?_
  refine z_if_ne (pc := 1221) (tgt := 1236) hO dL_law_1221 (by decide) (by omega) (fun hz1 => ?_) (fun hz1 => ?_)
  · refine z_goto (pc := 1236) (tgt := 1586) hO dL_law_1236 (by decide) ?_
    exact z_sub [2, 3, 4, 5, 6] rfl (back w hJw)
  · refine z_aload_n (pc := 1224) hO 5 dL_law_1224 rfl rfl ?_
    refine z_iconst (pc := 1225) hO dL_law_1225 ?_
    refine z_lald (pc := 1226) hO isL_70 (by decide) dL_law_1226 ?_
    rw [h70 hz1]
    refine z_iload (pc := 1227) hO 0 dL_law_1227 rfl ?_
    refine z_i2lq (pc := 1229) hO dL_law_1229 ?_
    refine z_lcmp_same (pc := 1230) (tgt := 1236) hO dL_law_1230 dL_law_1231 (by decide) ?_
    refine z_goto (pc := 1236) (tgt := 1586) hO dL_law_1236 (by decide) ?_
    exact z_sub [2, 3, 4, 5, 6] rfl (back w hJw)
set_option maxHeartbeats 1000000 in
theorem case_orthogonal {Γ : Gam} {g : Gl} {b L : Nat} {xs : Nat → Int32} {k n : Nat} {t : Int} {x : Me} (hO : Ok Γ g cL_law 8 RL 2048 84000 601024 7293034) (hN : pw_N (qS Γ)) (hX : va_X b L xs (qS Γ) (qS Γ).heap) (hb : b < gS g) (hl : (qL Γ).stackTraces = false) (hL : L ≤ 2560) (hJ : JI x) (ht : 0 ≤ t ∧ 5 * t + 5 ≤ L) (hk : k + 1 ≤ 601024 ∧ n + 6 ≤ 7293034) (back : ∀ w : Me, JI w → Zz Γ g 8 (k + 1) (n + 6) w 1586 (lvL b g t) []) : Zz Γ g 8 k n x 1239 (lvL b g t) [] := by
  refine z_aload_n (pc := 1239) hO 1 dL_law_1239 rfl rfl ?_
  refine z_aload_n (pc := 1240) hO 0 dL_law_1240 rfl rfl ?_
  refine z_iload (pc := 1241) hO 4 dL_law_1241 rfl ?_
  refine z_iconst (pc := 1243) hO dL_law_1243 ?_
  refine z_iadd (pc := 1244) hO dL_law_1244 ?_
  refine z_sld (pc := 1245) hO hX hb (by omega) (by omega) dL_law_1245 ?_
  refine z_aload_n (pc := 1246) hO 0 dL_law_1246 rfl rfl ?_
  refine z_iload (pc := 1247) hO 4 dL_law_1247 rfl ?_
  refine z_iconst (pc := 1249) hO dL_law_1249 ?_
  refine z_iadd (pc := 1250) hO dL_law_1250 ?_
  refine z_sld (pc := 1251) hO hX hb (by omega) (by omega) dL_law_1251 ?_
  refine z_aload_n (pc := 1252) hO 3 dL_law_1252 rfl rfl ?_
  refine z_lawC (pc := 1253) hO hN (As := [.ref (gA g 0), .int (zi (xs (5 * t + 1).toNat).toInt), .int (zi (xs (5 * t + 2).toNat).toInt), .ref (gA g 70)]) (st := []) (D_orthogonal (l := qL Γ) (g := g) (x := x) hl hJ (zi_rng _) (zi_rng _)) kW_orthogonal (by decide) (by decide) (by decide) (Nat.le_of_ble_eq_true rfl) rfl ⟨by omega, by omega⟩ dL_law_1253 (fun z1 y hz => ?_)
  obtain ⟨hz3, F2, L2, P, hF2, hL2, hM, hPo⟩ := hz
  refine z_istore (pc := 1256) (lv' := (5, .int (zi z1)) :: lvL b g t) hO dL_law_1256 (by decide) rfl ?_
  refine z_aload_n (pc := 1258) hO 3 dL_law_1258 rfl rfl ?_
  refine z_aload_n (pc := 1259) hO 1 dL_law_1259 rfl rfl ?_
  refine z_iload (pc := 1260) hO 5 dL_law_1260 rfl ?_
  refine z_iconst (pc := 1262) hO dL_law_1262 ?_
  refine z_iadd (pc := 1263) hO dL_law_1263 ?_
  refine z_sld (pc := 1264) hO hX hb (by omega) (by omega) dL_law_1264 ?_
  refine z_aload_n (pc := 1265) hO 1 dL_law_1265 rfl rfl ?_
  refine z_iload (pc := 1266) hO 5 dL_law_1266 rfl ?_
  refine z_iconst (pc := 1268) hO dL_law_1268 ?_
  refine z_iadd (pc := 1269) hO dL_law_1269 ?_
  refine z_sld (pc := 1270) hO hX hb (by omega) (by omega) dL_law_1270 ?_
  refine z_callVI (pc := 1271) hO (As := [.int (zi (xs (5 * t + 1).toNat).toInt), .int (zi (xs (5 * t + 2).toNat).toInt)]) (st := []) hM k_L_148 isO_50 rfl (Nat.le_of_ble_eq_true rfl) (by omega) (by omega) ⟨by omega, by omega⟩ dL_law_1271 (fun r w hp => ?_)
  obtain ⟨h0, hJw, h01, h70⟩ := hPo r w hp
  refine z_istore (pc := 1274) (lv' := (6, .int (zi r)) :: (5, .int (zi z1)) :: lvL b g t) hO dL_law_1274 (by decide) rfl ?_
  refine z_aload_n (pc := 1276) hO 4 dL_law_1276 rfl rfl ?_
  refine z_callVIp (pc := 1277) hO (As := []) (st := []) (c_X12_thrown (qL Γ) g w) k_L_92 isO_50 rfl (Nat.le_of_ble_eq_true rfl) (by decide) (by decide) ⟨by omega, by omega⟩ dL_law_1277 ?_
  refine z_iload (pc := 1280) hO 1 dL_law_1280 rfl ?_
  refine z_icmp_eq (pc := 1282) (tgt := 1287) hO dL_law_1282 (by decide) (by omega) (by omega) (fun _ => ?_) (fun hne => absurd h0 hne)
  refine z_iload (pc := 1287) hO 1 dL_law_1287 rfl ?_
  refine z_if_ne (pc := 1289) (tgt := 1311) hO dL_law_1289 (by decide) (by omega) (fun hz1 => ?_) (fun hz1 => ?_)
  · refine z_goto (pc := 1311) (tgt := 1586) hO dL_law_1311 (by decide) ?_
    exact z_sub [2, 3, 4, 5, 6] rfl (back w hJw)
  · refine z_aload_n (pc := 1292) hO 5 dL_law_1292 rfl rfl ?_
    refine z_iconst (pc := 1293) hO dL_law_1293 ?_
    refine z_lald (pc := 1294) hO isL_70 (by decide) dL_law_1294 ?_
    refine z_iload (pc := 1295) hO 0 dL_law_1295 rfl ?_
    refine z_if_eq (pc := 1297) (tgt := 1304) hO dL_law_1297 (by decide) (by omega) (fun b1 => ?_) (fun b1 => ?_)
    · refine z_lconst (pc := 1304) (v := 0) hO dL_law_1304 rfl ?_
      rw [show w 70 0 = 0 by have := h70 hz1; omega]
      refine z_lcmp_same (pc := 1305) (tgt := 1311) hO dL_law_1305 dL_law_1306 (by decide) ?_
      refine z_goto (pc := 1311) (tgt := 1586) hO dL_law_1311 (by decide) ?_
      exact z_sub [2, 3, 4, 5, 6] rfl (back w hJw)
    · refine z_lconst (pc := 1300) (v := 1) hO dL_law_1300 rfl ?_
      refine z_goto (pc := 1301) (tgt := 1305) hO dL_law_1301 (by decide) ?_
      rw [show w 70 0 = 1 by have := h70 hz1; omega]
      refine z_lcmp_same (pc := 1305) (tgt := 1311) hO dL_law_1305 dL_law_1306 (by decide) ?_
      refine z_goto (pc := 1311) (tgt := 1586) hO dL_law_1311 (by decide) ?_
      exact z_sub [2, 3, 4, 5, 6] rfl (back w hJw)
set_option maxHeartbeats 1000000 in
theorem case_stack {Γ : Gam} {g : Gl} {b L : Nat} {xs : Nat → Int32} {k n : Nat} {t : Int} {x : Me} (hO : Ok Γ g cL_law 8 RL 2048 84000 601024 7293034) (hN : pw_N (qS Γ)) (hX : va_X b L xs (qS Γ) (qS Γ).heap) (hb : b < gS g) (hl : (qL Γ).stackTraces = false) (hL : L ≤ 2560) (hJ : JI x) (ht : 0 ≤ t ∧ 5 * t + 5 ≤ L) (hk : k + 1 ≤ 601024 ∧ n + 6 ≤ 7293034) (back : ∀ w : Me, JI w → Zz Γ g 8 (k + 1) (n + 6) w 1586 (lvL b g t) []) : Zz Γ g 8 k n x 1314 (lvL b g t) [] := by
  refine z_aload_n (pc := 1314) hO 1 dL_law_1314 rfl rfl ?_
  refine z_aload_n (pc := 1315) hO 0 dL_law_1315 rfl rfl ?_
  refine z_iload (pc := 1316) hO 4 dL_law_1316 rfl ?_
  refine z_iconst (pc := 1318) hO dL_law_1318 ?_
  refine z_iadd (pc := 1319) hO dL_law_1319 ?_
  refine z_sld (pc := 1320) hO hX hb (by omega) (by omega) dL_law_1320 ?_
  refine z_aload_n (pc := 1321) hO 0 dL_law_1321 rfl rfl ?_
  refine z_iload (pc := 1322) hO 4 dL_law_1322 rfl ?_
  refine z_iconst (pc := 1324) hO dL_law_1324 ?_
  refine z_iadd (pc := 1325) hO dL_law_1325 ?_
  refine z_sld (pc := 1326) hO hX hb (by omega) (by omega) dL_law_1326 ?_
  refine z_aload_n (pc := 1327) hO 3 dL_law_1327 rfl rfl ?_
  refine z_lawC (pc := 1328) hO hN (As := [.ref (gA g 0), .int (zi (xs (5 * t + 1).toNat).toInt), .int (zi (xs (5 * t + 2).toNat).toInt), .ref (gA g 70)]) (st := []) (D_stack (l := qL Γ) (g := g) (x := x) hl hJ (zi_rng _) (zi_rng _)) kW_stack (by decide) (by decide) (by decide) (Nat.le_of_ble_eq_true rfl) rfl ⟨by omega, by omega⟩ dL_law_1328 (fun z1 y hz => ?_)
  obtain ⟨hz3, F2, L2, P, hF2, hL2, hM, hPo⟩ := hz
  refine z_istore (pc := 1331) (lv' := (5, .int (zi z1)) :: lvL b g t) hO dL_law_1331 (by decide) rfl ?_
  refine z_aload_n (pc := 1333) hO 3 dL_law_1333 rfl rfl ?_
  refine z_aload_n (pc := 1334) hO 1 dL_law_1334 rfl rfl ?_
  refine z_iload (pc := 1335) hO 5 dL_law_1335 rfl ?_
  refine z_iconst (pc := 1337) hO dL_law_1337 ?_
  refine z_iadd (pc := 1338) hO dL_law_1338 ?_
  refine z_sld (pc := 1339) hO hX hb (by omega) (by omega) dL_law_1339 ?_
  refine z_aload_n (pc := 1340) hO 1 dL_law_1340 rfl rfl ?_
  refine z_iload (pc := 1341) hO 5 dL_law_1341 rfl ?_
  refine z_iconst (pc := 1343) hO dL_law_1343 ?_
  refine z_iadd (pc := 1344) hO dL_law_1344 ?_
  refine z_sld (pc := 1345) hO hX hb (by omega) (by omega) dL_law_1345 ?_
  refine z_callVI (pc := 1346) hO (As := [.int (zi (xs (5 * t + 1).toNat).toInt), .int (zi (xs (5 * t + 2).toNat).toInt)]) (st := []) hM k_L_151 isO_50 rfl (Nat.le_of_ble_eq_true rfl) (by omega) (by omega) ⟨by omega, by omega⟩ dL_law_1346 (fun r w hp => ?_)
  obtain ⟨h0, hJw, h70⟩ := hPo r w hp
  refine z_istore (pc := 1349) (lv' := (6, .int (zi r)) :: (5, .int (zi z1)) :: lvL b g t) hO dL_law_1349 (by decide) rfl ?_
  refine z_aload_n (pc := 1351) hO 4 dL_law_1351 rfl rfl ?_
  refine z_callVIp (pc := 1352) hO (As := []) (st := []) (c_X12_thrown (qL Γ) g w) k_L_92 isO_50 rfl (Nat.le_of_ble_eq_true rfl) (by decide) (by decide) ⟨by omega, by omega⟩ dL_law_1352 ?_
  refine z_iload (pc := 1355) hO 1 dL_law_1355 rfl ?_
  refine z_icmp_eq (pc := 1357) (tgt := 1362) hO dL_law_1357 (by decide) (by omega) (by omega) (fun _ => ?_) (fun hne => absurd h0 hne)
  refine z_iload (pc := 1362) hO 1 dL_law_1362 rfl ?_
  refine z_if_ne (pc := 1364) (tgt := 1379) hO dL_law_1364 (by decide) (by omega) (fun hz1 => ?_) (fun hz1 => ?_)
  · refine z_goto (pc := 1379) (tgt := 1586) hO dL_law_1379 (by decide) ?_
    exact z_sub [2, 3, 4, 5, 6] rfl (back w hJw)
  · refine z_aload_n (pc := 1367) hO 5 dL_law_1367 rfl rfl ?_
    refine z_iconst (pc := 1368) hO dL_law_1368 ?_
    refine z_lald (pc := 1369) hO isL_70 (by decide) dL_law_1369 ?_
    rw [h70 hz1]
    refine z_iload (pc := 1370) hO 0 dL_law_1370 rfl ?_
    refine z_i2lq (pc := 1372) hO dL_law_1372 ?_
    refine z_lcmp_same (pc := 1373) (tgt := 1379) hO dL_law_1373 dL_law_1374 (by decide) ?_
    refine z_goto (pc := 1379) (tgt := 1586) hO dL_law_1379 (by decide) ?_
    exact z_sub [2, 3, 4, 5, 6] rfl (back w hJw)
set_option maxHeartbeats 1000000 in
theorem case_product {Γ : Gam} {g : Gl} {b L : Nat} {xs : Nat → Int32} {k n : Nat} {t : Int} {x : Me} (hO : Ok Γ g cL_law 8 RL 2048 84000 601024 7293034) (hN : pw_N (qS Γ)) (hX : va_X b L xs (qS Γ) (qS Γ).heap) (hb : b < gS g) (hl : (qL Γ).stackTraces = false) (hL : L ≤ 2560) (hJ : JI x) (ht : 0 ≤ t ∧ 5 * t + 5 ≤ L) (hk : k + 1 ≤ 601024 ∧ n + 6 ≤ 7293034) (back : ∀ w : Me, JI w → Zz Γ g 8 (k + 1) (n + 6) w 1586 (lvL b g t) []) : Zz Γ g 8 k n x 1382 (lvL b g t) [] := by
  refine z_aload_n (pc := 1382) hO 1 dL_law_1382 rfl rfl ?_
  refine z_aload_n (pc := 1383) hO 0 dL_law_1383 rfl rfl ?_
  refine z_iload (pc := 1384) hO 4 dL_law_1384 rfl ?_
  refine z_iconst (pc := 1386) hO dL_law_1386 ?_
  refine z_iadd (pc := 1387) hO dL_law_1387 ?_
  refine z_sld (pc := 1388) hO hX hb (by omega) (by omega) dL_law_1388 ?_
  refine z_aload_n (pc := 1389) hO 0 dL_law_1389 rfl rfl ?_
  refine z_iload (pc := 1390) hO 4 dL_law_1390 rfl ?_
  refine z_iconst (pc := 1392) hO dL_law_1392 ?_
  refine z_iadd (pc := 1393) hO dL_law_1393 ?_
  refine z_sld (pc := 1394) hO hX hb (by omega) (by omega) dL_law_1394 ?_
  refine z_aload_n (pc := 1395) hO 3 dL_law_1395 rfl rfl ?_
  refine z_lawC (pc := 1396) hO hN (As := [.ref (gA g 0), .int (zi (xs (5 * t + 1).toNat).toInt), .int (zi (xs (5 * t + 2).toNat).toInt), .ref (gA g 70)]) (st := []) (D_product (l := qL Γ) (g := g) (x := x) hl hJ (zi_rng _) (zi_rng _)) kW_product (by decide) (by decide) (by decide) (Nat.le_of_ble_eq_true rfl) rfl ⟨by omega, by omega⟩ dL_law_1396 (fun z1 y hz => ?_)
  obtain ⟨hz3, F2, L2, P, hF2, hL2, hM, hPo⟩ := hz
  refine z_istore (pc := 1399) (lv' := (5, .int (zi z1)) :: lvL b g t) hO dL_law_1399 (by decide) rfl ?_
  refine z_aload_n (pc := 1401) hO 3 dL_law_1401 rfl rfl ?_
  refine z_aload_n (pc := 1402) hO 1 dL_law_1402 rfl rfl ?_
  refine z_iload (pc := 1403) hO 5 dL_law_1403 rfl ?_
  refine z_iconst (pc := 1405) hO dL_law_1405 ?_
  refine z_iadd (pc := 1406) hO dL_law_1406 ?_
  refine z_sld (pc := 1407) hO hX hb (by omega) (by omega) dL_law_1407 ?_
  refine z_aload_n (pc := 1408) hO 1 dL_law_1408 rfl rfl ?_
  refine z_iload (pc := 1409) hO 5 dL_law_1409 rfl ?_
  refine z_iconst (pc := 1411) hO dL_law_1411 ?_
  refine z_iadd (pc := 1412) hO dL_law_1412 ?_
  refine z_sld (pc := 1413) hO hX hb (by omega) (by omega) dL_law_1413 ?_
  refine z_callVI (pc := 1414) hO (As := [.int (zi (xs (5 * t + 1).toNat).toInt), .int (zi (xs (5 * t + 2).toNat).toInt)]) (st := []) hM k_L_154 isO_50 rfl (Nat.le_of_ble_eq_true rfl) (by omega) (by omega) ⟨by omega, by omega⟩ dL_law_1414 (fun r w hp => ?_)
  obtain ⟨h0, hJw, h70⟩ := hPo r w hp
  refine z_istore (pc := 1417) (lv' := (6, .int (zi r)) :: (5, .int (zi z1)) :: lvL b g t) hO dL_law_1417 (by decide) rfl ?_
  refine z_aload_n (pc := 1419) hO 4 dL_law_1419 rfl rfl ?_
  refine z_callVIp (pc := 1420) hO (As := []) (st := []) (c_X12_thrown (qL Γ) g w) k_L_92 isO_50 rfl (Nat.le_of_ble_eq_true rfl) (by decide) (by decide) ⟨by omega, by omega⟩ dL_law_1420 ?_
  refine z_iload (pc := 1423) hO 1 dL_law_1423 rfl ?_
  refine z_icmp_eq (pc := 1425) (tgt := 1430) hO dL_law_1425 (by decide) (by omega) (by omega) (fun _ => ?_) (fun hne => absurd h0 hne)
  refine z_iload (pc := 1430) hO 1 dL_law_1430 rfl ?_
  refine z_if_ne (pc := 1432) (tgt := 1447) hO dL_law_1432 (by decide) (by omega) (fun hz1 => ?_) (fun hz1 => ?_)
  · refine z_goto (pc := 1447) (tgt := 1586) hO dL_law_1447 (by decide) ?_
    exact z_sub [2, 3, 4, 5, 6] rfl (back w hJw)
  · refine z_aload_n (pc := 1435) hO 5 dL_law_1435 rfl rfl ?_
    refine z_iconst (pc := 1436) hO dL_law_1436 ?_
    refine z_lald (pc := 1437) hO isL_70 (by decide) dL_law_1437 ?_
    rw [h70 hz1]
    refine z_iload (pc := 1438) hO 0 dL_law_1438 rfl ?_
    refine z_i2lq (pc := 1440) hO dL_law_1440 ?_
    refine z_lcmp_same (pc := 1441) (tgt := 1447) hO dL_law_1441 dL_law_1442 (by decide) ?_
    refine z_goto (pc := 1447) (tgt := 1586) hO dL_law_1447 (by decide) ?_
    exact z_sub [2, 3, 4, 5, 6] rfl (back w hJw)
set_option maxHeartbeats 1000000 in
theorem case_crossings {Γ : Gam} {g : Gl} {b L : Nat} {xs : Nat → Int32} {k n : Nat} {t : Int} {x : Me} (hO : Ok Γ g cL_law 8 RL 2048 84000 601024 7293034) (hN : pw_N (qS Γ)) (hX : va_X b L xs (qS Γ) (qS Γ).heap) (hb : b < gS g) (hl : (qL Γ).stackTraces = false) (hL : L ≤ 2560) (hJ : JI x) (ht : 0 ≤ t ∧ 5 * t + 5 ≤ L) (hk : k + 1 ≤ 601024 ∧ n + 6 ≤ 7293034) (back : ∀ w : Me, JI w → Zz Γ g 8 (k + 1) (n + 6) w 1586 (lvL b g t) []) : Zz Γ g 8 k n x 1450 (lvL b g t) [] := by
  refine z_aload_n (pc := 1450) hO 1 dL_law_1450 rfl rfl ?_
  refine z_aload_n (pc := 1451) hO 0 dL_law_1451 rfl rfl ?_
  refine z_iload (pc := 1452) hO 4 dL_law_1452 rfl ?_
  refine z_iconst (pc := 1454) hO dL_law_1454 ?_
  refine z_iadd (pc := 1455) hO dL_law_1455 ?_
  refine z_sld (pc := 1456) hO hX hb (by omega) (by omega) dL_law_1456 ?_
  refine z_aload_n (pc := 1457) hO 0 dL_law_1457 rfl rfl ?_
  refine z_iload (pc := 1458) hO 4 dL_law_1458 rfl ?_
  refine z_iconst (pc := 1460) hO dL_law_1460 ?_
  refine z_iadd (pc := 1461) hO dL_law_1461 ?_
  refine z_sld (pc := 1462) hO hX hb (by omega) (by omega) dL_law_1462 ?_
  refine z_aload_n (pc := 1463) hO 3 dL_law_1463 rfl rfl ?_
  refine z_lawC (pc := 1464) hO hN (As := [.ref (gA g 0), .int (zi (xs (5 * t + 1).toNat).toInt), .int (zi (xs (5 * t + 2).toNat).toInt), .ref (gA g 70)]) (st := []) (D_crossings (l := qL Γ) (g := g) (x := x) hl hJ (zi_rng _) (zi_rng _)) kW_crossings (by decide) (by decide) (by decide) (Nat.le_of_ble_eq_true rfl) rfl ⟨by omega, by omega⟩ dL_law_1464 (fun z1 y hz => ?_)
  obtain ⟨hz3, F2, L2, P, hF2, hL2, hM, hPo⟩ := hz
  refine z_istore (pc := 1467) (lv' := (5, .int (zi z1)) :: lvL b g t) hO dL_law_1467 (by decide) rfl ?_
  refine z_aload_n (pc := 1469) hO 3 dL_law_1469 rfl rfl ?_
  refine z_aload_n (pc := 1470) hO 1 dL_law_1470 rfl rfl ?_
  refine z_iload (pc := 1471) hO 5 dL_law_1471 rfl ?_
  refine z_iconst (pc := 1473) hO dL_law_1473 ?_
  refine z_iadd (pc := 1474) hO dL_law_1474 ?_
  refine z_sld (pc := 1475) hO hX hb (by omega) (by omega) dL_law_1475 ?_
  refine z_aload_n (pc := 1476) hO 1 dL_law_1476 rfl rfl ?_
  refine z_iload (pc := 1477) hO 5 dL_law_1477 rfl ?_
  refine z_iconst (pc := 1479) hO dL_law_1479 ?_
  refine z_iadd (pc := 1480) hO dL_law_1480 ?_
  refine z_sld (pc := 1481) hO hX hb (by omega) (by omega) dL_law_1481 ?_
  refine z_callVI (pc := 1482) hO (As := [.int (zi (xs (5 * t + 1).toNat).toInt), .int (zi (xs (5 * t + 2).toNat).toInt)]) (st := []) hM k_L_157 isO_50 rfl (Nat.le_of_ble_eq_true rfl) (by omega) (by omega) ⟨by omega, by omega⟩ dL_law_1482 (fun r w hp => ?_)
  obtain ⟨h0, hJw, h70⟩ := hPo r w hp
  refine z_istore (pc := 1485) (lv' := (6, .int (zi r)) :: (5, .int (zi z1)) :: lvL b g t) hO dL_law_1485 (by decide) rfl ?_
  refine z_aload_n (pc := 1487) hO 4 dL_law_1487 rfl rfl ?_
  refine z_callVIp (pc := 1488) hO (As := []) (st := []) (c_X12_thrown (qL Γ) g w) k_L_92 isO_50 rfl (Nat.le_of_ble_eq_true rfl) (by decide) (by decide) ⟨by omega, by omega⟩ dL_law_1488 ?_
  refine z_iload (pc := 1491) hO 1 dL_law_1491 rfl ?_
  refine z_icmp_eq (pc := 1493) (tgt := 1498) hO dL_law_1493 (by decide) (by omega) (by omega) (fun _ => ?_) (fun hne => absurd h0 hne)
  refine z_iload (pc := 1498) hO 1 dL_law_1498 rfl ?_
  refine z_if_ne (pc := 1500) (tgt := 1515) hO dL_law_1500 (by decide) (by omega) (fun hz1 => ?_) (fun hz1 => ?_)
  · refine z_goto (pc := 1515) (tgt := 1586) hO dL_law_1515 (by decide) ?_
    exact z_sub [2, 3, 4, 5, 6] rfl (back w hJw)
  · refine z_aload_n (pc := 1503) hO 5 dL_law_1503 rfl rfl ?_
    refine z_iconst (pc := 1504) hO dL_law_1504 ?_
    refine z_lald (pc := 1505) hO isL_70 (by decide) dL_law_1505 ?_
    rw [h70 hz1]
    refine z_iload (pc := 1506) hO 0 dL_law_1506 rfl ?_
    refine z_i2lq (pc := 1508) hO dL_law_1508 ?_
    refine z_lcmp_same (pc := 1509) (tgt := 1515) hO dL_law_1509 dL_law_1510 (by decide) ?_
    refine z_goto (pc := 1515) (tgt := 1586) hO dL_law_1515 (by decide) ?_
    exact z_sub [2, 3, 4, 5, 6] rfl (back w hJw)
set_option maxHeartbeats 1000000 in
theorem case_dimension {Γ : Gam} {g : Gl} {b L : Nat} {xs : Nat → Int32} {k n : Nat} {t : Int} {x : Me} (hO : Ok Γ g cL_law 8 RL 2048 84000 601024 7293034) (hN : pw_N (qS Γ)) (hX : va_X b L xs (qS Γ) (qS Γ).heap) (hb : b < gS g) (hl : (qL Γ).stackTraces = false) (hL : L ≤ 2560) (hJ : JI x) (ht : 0 ≤ t ∧ 5 * t + 5 ≤ L) (hk : k + 1 ≤ 601024 ∧ n + 6 ≤ 7293034) (back : ∀ w : Me, JI w → Zz Γ g 8 (k + 1) (n + 6) w 1586 (lvL b g t) []) : Zz Γ g 8 k n x 1518 (lvL b g t) [] := by
  refine z_aload_n (pc := 1518) hO 1 dL_law_1518 rfl rfl ?_
  refine z_aload_n (pc := 1519) hO 0 dL_law_1519 rfl rfl ?_
  refine z_iload (pc := 1520) hO 4 dL_law_1520 rfl ?_
  refine z_iconst (pc := 1522) hO dL_law_1522 ?_
  refine z_iadd (pc := 1523) hO dL_law_1523 ?_
  refine z_sld (pc := 1524) hO hX hb (by omega) (by omega) dL_law_1524 ?_
  refine z_aload_n (pc := 1525) hO 0 dL_law_1525 rfl rfl ?_
  refine z_iload (pc := 1526) hO 4 dL_law_1526 rfl ?_
  refine z_iconst (pc := 1528) hO dL_law_1528 ?_
  refine z_iadd (pc := 1529) hO dL_law_1529 ?_
  refine z_sld (pc := 1530) hO hX hb (by omega) (by omega) dL_law_1530 ?_
  refine z_aload_n (pc := 1531) hO 3 dL_law_1531 rfl rfl ?_
  refine z_lawC (pc := 1532) hO hN (As := [.ref (gA g 0), .int (zi (xs (5 * t + 1).toNat).toInt), .int (zi (xs (5 * t + 2).toNat).toInt), .ref (gA g 70)]) (st := []) (D_dimension (l := qL Γ) (g := g) (x := x) hl hJ (zi_rng _) (zi_rng _)) kW_dimension (by decide) (by decide) (by decide) (Nat.le_of_ble_eq_true rfl) rfl ⟨by omega, by omega⟩ dL_law_1532 (fun z1 y hz => ?_)
  obtain ⟨hz3, F2, L2, P, hF2, hL2, hM, hPo⟩ := hz
  refine z_istore (pc := 1535) (lv' := (5, .int (zi z1)) :: lvL b g t) hO dL_law_1535 (by decide) rfl ?_
  refine z_aload_n (pc := 1537) hO 3 dL_law_1537 rfl rfl ?_
  refine z_aload_n (pc := 1538) hO 1 dL_law_1538 rfl rfl ?_
  refine z_iload (pc := 1539) hO 5 dL_law_1539 rfl ?_
  refine z_iconst (pc := 1541) hO dL_law_1541 ?_
  refine z_iadd (pc := 1542) hO dL_law_1542 ?_
  refine z_sld (pc := 1543) hO hX hb (by omega) (by omega) dL_law_1543 ?_
  refine z_aload_n (pc := 1544) hO 1 dL_law_1544 rfl rfl ?_
  refine z_iload (pc := 1545) hO 5 dL_law_1545 rfl ?_
  refine z_iconst (pc := 1547) hO dL_law_1547 ?_
  refine z_iadd (pc := 1548) hO dL_law_1548 ?_
  refine z_sld (pc := 1549) hO hX hb (by omega) (by omega) dL_law_1549 ?_
  refine z_callVI (pc := 1550) hO (As := [.int (zi (xs (5 * t + 1).toNat).toInt), .int (zi (xs (5 * t + 2).toNat).toInt)]) (st := []) hM k_L_160 isO_50 rfl (Nat.le_of_ble_eq_true rfl) (by omega) (by omega) ⟨by omega, by omega⟩ dL_law_1550 (fun r w hp => ?_)
  obtain ⟨h0, hJw, h70⟩ := hPo r w hp
  refine z_istore (pc := 1553) (lv' := (6, .int (zi r)) :: (5, .int (zi z1)) :: lvL b g t) hO dL_law_1553 (by decide) rfl ?_
  refine z_aload_n (pc := 1555) hO 4 dL_law_1555 rfl rfl ?_
  refine z_callVIp (pc := 1556) hO (As := []) (st := []) (c_X12_thrown (qL Γ) g w) k_L_92 isO_50 rfl (Nat.le_of_ble_eq_true rfl) (by decide) (by decide) ⟨by omega, by omega⟩ dL_law_1556 ?_
  refine z_iload (pc := 1559) hO 1 dL_law_1559 rfl ?_
  refine z_icmp_eq (pc := 1561) (tgt := 1566) hO dL_law_1561 (by decide) (by omega) (by omega) (fun _ => ?_) (fun hne => absurd h0 hne)
  refine z_iload (pc := 1566) hO 1 dL_law_1566 rfl ?_
  refine z_if_ne (pc := 1568) (tgt := 1583) hO dL_law_1568 (by decide) (by omega) (fun hz1 => ?_) (fun hz1 => ?_)
  · refine z_goto (pc := 1583) (tgt := 1586) hO dL_law_1583 (by decide) ?_
    exact z_sub [2, 3, 4, 5, 6] rfl (back w hJw)
  · refine z_aload_n (pc := 1571) hO 5 dL_law_1571 rfl rfl ?_
    refine z_iconst (pc := 1572) hO dL_law_1572 ?_
    refine z_lald (pc := 1573) hO isL_70 (by decide) dL_law_1573 ?_
    rw [h70 hz1]
    refine z_iload (pc := 1574) hO 0 dL_law_1574 rfl ?_
    refine z_i2lq (pc := 1576) hO dL_law_1576 ?_
    refine z_lcmp_same (pc := 1577) (tgt := 1583) hO dL_law_1577 dL_law_1578 (by decide) ?_
    refine z_goto (pc := 1583) (tgt := 1586) hO dL_law_1583 (by decide) ?_
    exact z_sub [2, 3, 4, 5, 6] rfl (back w hJw)
