section Tab
variable {Γ : Gam} {g : Gl} {cc : ByteArray} {own : String} {nL k n F Lc kc ns pc : Nat} {x : Me} {lv : List (Nat × Value)} {st : List Value}
theorem z_tabO (hO : Ok Γ g cc nL own F Lc kc ns) {dflt lo hi : Int} {offs : Array Int} {len tgt : Nat} {a : Int32} (d : decode cc pc = .ok (.tableswitch dflt lo hi offs, len)) (h : a.toInt < lo ∨ hi < a.toInt) (ht : (pc : Int) + dflt = (tgt : Int)) (kk : Zz Γ g nL k n x tgt lv st) : Zz Γ g nL k n x pc lv (.int a :: st) := fun H locs ls hP hS hv => lv_tableOut (okx hO) (okb hO) d h ht (kk H locs ls hP hS hv)
theorem z_tabI (hO : Ok Γ g cc nL own F Lc kc ns) {dflt lo hi off : Int} {offs : Array Int} {len tgt : Nat} {a : Int32} (i : Int) (d : decode cc pc = .ok (.tableswitch dflt lo hi offs, len)) (hi0 : a.toInt = i) (h1 : lo ≤ i) (h2 : i ≤ hi) (ho : offs[(i - lo).toNat]? = some off) (ht : (pc : Int) + off = (tgt : Int)) (kk : Zz Γ g nL k n x tgt lv st) : Zz Γ g nL k n x pc lv (.int a :: st) := fun H locs ls hP hS hv => lv_tableIn (okx hO) (okb hO) d (by omega) (by omega) (by rw [hi0]; exact ho) ht (kk H locs ls hP hS hv)
end Tab
set_option maxHeartbeats 1000000 in
theorem law_loop {Γ : Gam} {g : Gl} {b L : Nat} {xs : Nat → Int32} (hO : Ok Γ g cL_law 8 RL 2048 84000 601024 7293034) (hN : pw_N (qS Γ)) (hX : va_X b L xs (qS Γ) (qS Γ).heap) (hb : b < gS g) (hl : (qL Γ).stackTraces = false) (hL : L ≤ 2560) (fin : ∀ (x : Me) (t : Int) (k n : Nat), k ≤ 601024 → n ≤ 7293034 → Zz Γ g 8 k n x 1592 (lvL b g t) []) :
    ∀ (N : Nat) (t : Int) (x : Me) (k n : Nat), (L - 5 * t).toNat < N → 0 ≤ t → 5 * t ≤ L → JI x → (k : Int) ≤ 85 + t → (n : Int) ≤ 4708 + 6 * t → Zz Γ g 8 k n x 23 (lvL b g t) []
  | 0, _, _, _, _, h, _, _, _, _, _ => absurd h (Nat.not_lt_zero _)
  | N + 1, t, x, k, n, hm, h0, h1, hJ, hk, hn => by
    refine z_iload (pc := 23) hO 4 dL_law_23 rfl ?_
    refine z_aload_n (pc := 25) hO 0 dL_law_25 rfl rfl ?_
    refine z_slen (pc := 26) hO hX hb dL_law_26 ?_
    refine z_iconst (pc := 27) hO dL_law_27 ?_
    refine z_isub (pc := 28) hO dL_law_28 ?_
    refine z_icmp_gt (pc := 29) (tgt := 1592) hO dL_law_29 (by decide) (by omega) (by omega) (fun _ => fin x t k n (by omega) (by omega)) (fun hle => ?_)
    have ht : 0 ≤ t ∧ 5 * t + 5 ≤ L := ⟨h0, by omega⟩
    have hkc : k + 1 ≤ 601024 ∧ n + 6 ≤ 7293034 := ⟨by omega, by omega⟩
    have back : ∀ w : Me, JI w → Zz Γ g 8 (k + 1) (n + 6) w 1586 (lvL b g t) [] := by
      intro w hw
      refine z_iinc (pc := 1586) (lv' := [(4, .int (zi (5 * t + 5))), (0, .ref b), (1, .ref (gA g 0)), (2, .ref (gA g 50)), (3, .ref (gA g 70))]) hO 4 dL_law_1586 rfl (by decide) rfl ?_
      refine z_goto (pc := 1589) (tgt := 23) hO dL_law_1589 (by decide) ?_
      rw [show 5 * t + 5 = 5 * (t + 1) by omega]
      refine z_sub (lv' := lvL b g (t + 1)) [1, 2, 3, 4, 0] rfl ?_
      exact law_loop hO hN hX hb hl hL fin N (t + 1) w (k + 1) (n + 6) (by omega) (by omega) (by omega) hw (by omega) (by omega)
    refine z_aload_n (pc := 32) hO 0 dL_law_32 rfl rfl ?_
    refine z_iload (pc := 33) hO 4 dL_law_33 rfl ?_
    refine z_sld (pc := 35) hO hX hb (by omega) (by omega) dL_law_35 ?_
    refine z_bipush (pc := 36) hO dL_law_36 (by decide) ?_
    refine z_iand (pc := 38) hO _ dL_law_38 rfl ?_
    generalize hv : zi (xs (5 * t).toNat).toInt &&& zi 31 = v
    by_cases ho : v.toInt < 0 ∨ 20 < v.toInt
    · exact z_tabO (pc := 39) (tgt := 1586) hO dL_law_39 ho (by decide) (z_widen (by omega) (by omega) (back x hJ))
    · have h21 : v.toInt = 0 ∨ v.toInt = 1 ∨ v.toInt = 2 ∨ v.toInt = 3 ∨ v.toInt = 4 ∨ v.toInt = 5 ∨ v.toInt = 6 ∨ v.toInt = 7 ∨ v.toInt = 8 ∨ v.toInt = 9 ∨ v.toInt = 10 ∨ v.toInt = 11 ∨ v.toInt = 12 ∨ v.toInt = 13 ∨ v.toInt = 14 ∨ v.toInt = 15 ∨ v.toInt = 16 ∨ v.toInt = 17 ∨ v.toInt = 18 ∨ v.toInt = 19 ∨ v.toInt = 20 := by omega
      rcases h21 with h | h | h | h | h | h | h | h | h | h | h | h | h | h | h | h | h | h | h | h | h
      · exact z_tabI (pc := 39) (tgt := 136) hO 0 dL_law_39 h (by decide) (by decide) rfl (by decide) (case_square hO hN hX hb hl hL hJ ht hkc back)
      · exact z_tabI (pc := 39) (tgt := 192) hO 1 dL_law_39 h (by decide) (by decide) rfl (by decide) (case_put hO hN hX hb hl hL hJ ht hkc back)
      · exact z_tabI (pc := 39) (tgt := 284) hO 2 dL_law_39 h (by decide) (by decide) rfl (by decide) (case_at hO hN hX hb hl hL hJ ht hkc back)
      · exact z_tabI (pc := 39) (tgt := 364) hO 3 dL_law_39 h (by decide) (by decide) rfl (by decide) (case_make hO hN hX hb hl hL hJ ht hkc back)
      · exact z_tabI (pc := 39) (tgt := 432) hO 4 dL_law_39 h (by decide) (by decide) rfl (by decide) (case_laws hO hN hX hb hl hL hJ ht hkc back)
      · exact z_tabI (pc := 39) (tgt := 488) hO 5 dL_law_39 h (by decide) (by decide) rfl (by decide) (case_sum hO hN hX hb hl hL hJ ht hkc back)
      · exact z_tabI (pc := 39) (tgt := 568) hO 6 dL_law_39 h (by decide) (by decide) rfl (by decide) (case_change hO hN hX hb hl hL hJ ht hkc back)
      · exact z_tabI (pc := 39) (tgt := 648) hO 7 dL_law_39 h (by decide) (by decide) rfl (by decide) (case_same hO hN hX hb hl hL hJ ht hkc back)
      · exact z_tabI (pc := 39) (tgt := 723) hO 8 dL_law_39 h (by decide) (by decide) rfl (by decide) (case_least hO hN hX hb hl hL hJ ht hkc back)
      · exact z_tabI (pc := 39) (tgt := 803) hO 9 dL_law_39 h (by decide) (by decide) rfl (by decide) (case_kin hO hN hX hb hl hL hJ ht hkc back)
      · exact z_tabI (pc := 39) (tgt := 859) hO 10 dL_law_39 h (by decide) (by decide) rfl (by decide) (case_classes hO hN hX hb hl hL hJ ht hkc back)
      · exact z_tabI (pc := 39) (tgt := 872) hO 11 dL_law_39 h (by decide) (by decide) rfl (by decide) (case_completions hO hN hX hb hl hL hJ ht hkc back)
      · exact z_tabI (pc := 39) (tgt := 928) hO 12 dL_law_39 h (by decide) (by decide) rfl (by decide) (case_completion hO hN hX hb hl hL hJ ht hkc back)
      · exact z_tabI (pc := 39) (tgt := 1020) hO 13 dL_law_39 h (by decide) (by decide) rfl (by decide) (case_estimate hO hN hX hb hl hL hJ ht hkc back)
      · exact z_tabI (pc := 39) (tgt := 1087) hO 14 dL_law_39 h (by decide) (by decide) rfl (by decide) (case_givens hO hN hX hb hl hL hJ ht hkc back)
      · exact z_tabI (pc := 39) (tgt := 1171) hO 15 dL_law_39 h (by decide) (by decide) rfl (by decide) (case_slip hO hN hX hb hl hL hJ ht hkc back)
      · exact z_tabI (pc := 39) (tgt := 1239) hO 16 dL_law_39 h (by decide) (by decide) rfl (by decide) (case_orthogonal hO hN hX hb hl hL hJ ht hkc back)
      · exact z_tabI (pc := 39) (tgt := 1314) hO 17 dL_law_39 h (by decide) (by decide) rfl (by decide) (case_stack hO hN hX hb hl hL hJ ht hkc back)
      · exact z_tabI (pc := 39) (tgt := 1382) hO 18 dL_law_39 h (by decide) (by decide) rfl (by decide) (case_product hO hN hX hb hl hL hJ ht hkc back)
      · exact z_tabI (pc := 39) (tgt := 1450) hO 19 dL_law_39 h (by decide) (by decide) rfl (by decide) (case_crossings hO hN hX hb hl hL hJ ht hkc back)
      · exact z_tabI (pc := 39) (tgt := 1518) hO 20 dL_law_39 h (by decide) (by decide) rfl (by decide) (case_dimension hO hN hX hb hl hL hJ ht hkc back)
