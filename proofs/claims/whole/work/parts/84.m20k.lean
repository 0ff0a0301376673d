set_option maxHeartbeats 4000000 in
theorem c_X12_comesFrom (l : Launch) (g : Gl) (x : Me) (n : Int) (ch : Int) (b : Int) (p : Int)  (hn : 1 ≤ n ∧ n ≤ 9) (hp : 0 ≤ p ∧ p < n * n) (hc : 0 ≤ ch ∧ ch ≤ 5 ∧ ch ≠ 2) (hb : 0 ≤ b ∧ b ≤ 9 ∧ (ch = 0 → b ≤ 3) ∧ (ch = 1 → b ≤ 1) ∧ (3 ≤ ch → b < n)) : ctQ l g yX12_comesFrom cX12_comesFrom 7 (some .int) 2 45 [.int (zi n), .int (zi ch), .int (zi b), .int (zi p)] x (QIu g (fun z x' => z = (ahd n ch b p) ∧ x' = x)) := by
  refine ct_start (own := RX12) (lv := [(0, .int (zi n)), (1, .int (zi ch)), (2, .int (zi b)), (3, .int (zi p))]) (plainFor_of_name (by decide)) rfl (Nat.le_of_ble_eq_true rfl) rfl ?_
  intro Γ hΓ hO hr hQ _
  have hsq := sq9 hn
  have hd := rc9 hn hp
  have e1 := Int.add_emod_right (p / n - b) n
  have e2 := Int.add_emod_right (p % n - b) n
  have e3 : (p % n - 0) % n = p % n := by rw [Int.sub_zero, Int.emod_emod]
  have e4 : (p / n - 0) % n = p / n := by rw [Int.sub_zero]; exact Int.emod_eq_of_lt (by omega) (by omega)
  refine z_iload_n (pc := 0) hO 3 dX12_comesFrom_0 rfl rfl ?_
  refine z_iload_n (pc := 1) hO 0 dX12_comesFrom_1 rfl rfl ?_
  refine z_idiv (pc := 2) hO dX12_comesFrom_2 (by omega) (by omega) ?_
  refine z_istore (pc := 3) hO (lv' := [(4, .int (zi (p / n))), (0, .int (zi n)), (1, .int (zi ch)), (2, .int (zi b)), (3, .int (zi p))]) dX12_comesFrom_3 (by decide) rfl ?_
  refine z_iload_n (pc := 5) hO 4 dX12_comesFrom_5 rfl rfl ?_
  refine z_iload_n (pc := 6) hO 1 dX12_comesFrom_6 rfl rfl ?_
  refine z_irem (pc := 7) hO dX12_comesFrom_7 (by omega) (by omega) ?_
  refine z_istore (pc := 8) hO (lv' := [(5, .int (zi (p % n))), (4, .int (zi (p / n))), (0, .int (zi n)), (1, .int (zi ch)), (2, .int (zi b)), (3, .int (zi p))]) dX12_comesFrom_8 (by decide) rfl ?_
  refine z_iload_n (pc := 10) hO 2 dX12_comesFrom_10 rfl rfl ?_
  refine z_iconst (pc := 11) hO dX12_comesFrom_11 ?_
  refine z_isub (pc := 12) hO dX12_comesFrom_12 ?_
  refine z_istore (pc := 13) hO (lv' := [(6, .int (zi (n - 1))), (5, .int (zi (p % n))), (4, .int (zi (p / n))), (0, .int (zi n)), (1, .int (zi ch)), (2, .int (zi b)), (3, .int (zi p))]) dX12_comesFrom_13 (by decide) rfl ?_
  refine z_iload_n (pc := 15) hO 4 dX12_comesFrom_15 rfl rfl ?_
  have w1 : ch = 0 ∨ ch = 1 ∨ ch = 2 ∨ ch = 3 ∨ ch = 4 ∨ (ch ≠ 0 ∧ ch ≠ 1 ∧ ch ≠ 2 ∧ ch ≠ 3 ∧ ch ≠ 4) := by omega
  rcases w1 with w1 | w1 | w1 | w1 | w1 | w1
  · refine z_tabIn (pc := 16) hO (tgt := 52) dX12_comesFrom_16 (by omega) (by omega) (by omega) (by first | (rw [w1]; done) | (rw [w1]; rfl)) (by decide) ?_
    refine z_iload_n (pc := 52) hO 3 dX12_comesFrom_52 rfl rfl ?_
    refine z_iload_n (pc := 53) hO 5 dX12_comesFrom_53 rfl rfl ?_
    refine z_iload_n (pc := 54) hO 6 dX12_comesFrom_54 rfl rfl ?_
    refine z_callSIp (pc := 55) hO (As := [.int (zi n), .int (zi b), .int (zi p)]) (st := []) (c_X12_turned (qL Γ) g x n b p (by first | assumption | omega) (by first | assumption | omega) (by first | assumption | omega)) k_X12_121 rfl (Nat.le_of_ble_eq_true rfl) (by decide) (by decide) ⟨by decide, by decide⟩ dX12_comesFrom_55 ?_
    exact z_iret (pc := 58) hO hr hQ rfl dX12_comesFrom_58 ⟨by first | (unfold ahd; rw [if_pos (by omega)]; done) | (exfalso; omega), rfl⟩
  · refine z_tabIn (pc := 16) hO (tgt := 59) dX12_comesFrom_16 (by omega) (by omega) (by omega) (by first | (rw [w1]; done) | (rw [w1]; rfl)) (by decide) ?_
    refine z_iload_n (pc := 59) hO 5 dX12_comesFrom_59 rfl rfl ?_
    refine z_if_ne (pc := 60) hO (tgt := 67) dX12_comesFrom_60 (by decide) (by omega) (fun b2 => ?_) (fun b2 => ?_)
    · refine z_iload_n (pc := 67) hO 3 dX12_comesFrom_67 rfl rfl ?_
      refine z_iload_n (pc := 68) hO 6 dX12_comesFrom_68 rfl rfl ?_
      refine z_callSIp (pc := 69) hO (As := [.int (zi n), .int (zi p)]) (st := []) (c_X12_flipped (qL Γ) g x n p (by first | assumption | omega) (by first | assumption | omega)) k_X12_124 rfl (Nat.le_of_ble_eq_true rfl) (by decide) (by decide) ⟨by decide, by decide⟩ dX12_comesFrom_69 ?_
      exact z_iret (pc := 72) hO hr hQ rfl dX12_comesFrom_72 ⟨by first | (unfold ahd; rw [if_neg (by omega), if_pos (by omega)]; first | (rw [show b = 0 by omega]; rfl) | (rw [show b = 1 by omega]; done) | (unfold fli; rw [if_neg (by omega), if_neg (by omega)]; done); done) | (exfalso; omega), rfl⟩
    · refine z_iload_n (pc := 63) hO 6 dX12_comesFrom_63 rfl rfl ?_
      refine z_goto (pc := 64) hO (tgt := 72) dX12_comesFrom_64 (by decide) ?_
      exact z_iret (pc := 72) hO hr hQ rfl dX12_comesFrom_72 ⟨by first | (unfold ahd; rw [if_neg (by omega), if_pos (by omega)]; first | (rw [show b = 0 by omega]; rfl) | (rw [show b = 1 by omega]; done) | (unfold fli; rw [if_neg (by omega), if_neg (by omega)]; done); done) | (exfalso; omega), rfl⟩
  · refine z_tabIn (pc := 16) hO (tgt := 101) dX12_comesFrom_16 (by omega) (by omega) (by omega) (by first | (rw [w1]; done) | (rw [w1]; rfl)) (by decide) ?_
    refine z_iload_n (pc := 101) hO 3 dX12_comesFrom_101 rfl rfl ?_
    refine z_iload (pc := 102) hO 2 dX12_comesFrom_102 rfl ?_
    refine z_iload_n (pc := 104) hO 5 dX12_comesFrom_104 rfl rfl ?_
    refine z_icmp_ne (pc := 105) hO (tgt := 115) dX12_comesFrom_105 (by decide) (by omega) (by omega) (fun b3 => ?_) (fun b3 => ?_)
    · refine z_iload (pc := 115) hO 2 dX12_comesFrom_115 rfl ?_
      refine z_iload (pc := 117) hO 0 dX12_comesFrom_117 rfl ?_
      refine z_iload_n (pc := 119) hO 5 dX12_comesFrom_119 rfl rfl ?_
      refine z_isub (pc := 120) hO dX12_comesFrom_120 ?_
      refine z_icmp_ne (pc := 121) hO (tgt := 128) dX12_comesFrom_121 (by decide) (by omega) (by omega) (fun b4 => ?_) (fun b4 => ?_)
      · refine z_iload (pc := 128) hO 2 dX12_comesFrom_128 rfl ?_
        refine z_imul (pc := 130) hO dX12_comesFrom_130 ?_
        refine z_iload (pc := 131) hO 1 dX12_comesFrom_131 rfl ?_
        refine z_iload_n (pc := 133) hO 5 dX12_comesFrom_133 rfl rfl ?_
        refine z_icmp_ne (pc := 134) hO (tgt := 144) dX12_comesFrom_134 (by decide) (by omega) (by omega) (fun b5 => ?_) (fun b5 => ?_)
        · refine z_iload (pc := 144) hO 1 dX12_comesFrom_144 rfl ?_
          refine z_iload (pc := 146) hO 0 dX12_comesFrom_146 rfl ?_
          refine z_iload_n (pc := 148) hO 5 dX12_comesFrom_148 rfl rfl ?_
          refine z_isub (pc := 149) hO dX12_comesFrom_149 ?_
          refine z_icmp_ne (pc := 150) hO (tgt := 157) dX12_comesFrom_150 (by decide) (by omega) (by omega) (fun b6 => ?_) (fun b6 => ?_)
          · refine z_iload (pc := 157) hO 1 dX12_comesFrom_157 rfl ?_
            refine z_iadd (pc := 159) hO dX12_comesFrom_159 ?_
            exact z_iret (pc := 160) hO hr hQ rfl dX12_comesFrom_160 ⟨by first | (unfold ahd; rw [if_neg (by omega), if_neg (by omega), if_neg (by omega), if_neg (by omega), if_pos (by omega)]; unfold prs swp; (first | rw [if_pos (by omega)] | rw [if_neg (by omega)]); (first | rw [if_pos (by omega)] | rw [if_neg (by omega)]); first | done | rfl | (congr 1 <;> (first | omega | (congr 1; omega))); done) | (exfalso; omega), rfl⟩
          · refine z_iload_n (pc := 153) hO 5 dX12_comesFrom_153 rfl rfl ?_
            refine z_goto (pc := 154) hO (tgt := 159) dX12_comesFrom_154 (by decide) ?_
            refine z_iadd (pc := 159) hO dX12_comesFrom_159 ?_
            exact z_iret (pc := 160) hO hr hQ rfl dX12_comesFrom_160 ⟨by first | (unfold ahd; rw [if_neg (by omega), if_neg (by omega), if_neg (by omega), if_neg (by omega), if_pos (by omega)]; unfold prs swp; (first | rw [if_pos (by omega)] | rw [if_neg (by omega)]); (first | rw [if_pos (by omega)] | rw [if_neg (by omega)]); first | done | rfl | (congr 1 <;> (first | omega | (congr 1; omega))); done) | (exfalso; omega), rfl⟩
        · refine z_iload (pc := 137) hO 0 dX12_comesFrom_137 rfl ?_
          refine z_iload_n (pc := 139) hO 5 dX12_comesFrom_139 rfl rfl ?_
          refine z_isub (pc := 140) hO dX12_comesFrom_140 ?_
          refine z_goto (pc := 141) hO (tgt := 159) dX12_comesFrom_141 (by decide) ?_
          refine z_iadd (pc := 159) hO dX12_comesFrom_159 ?_
          exact z_iret (pc := 160) hO hr hQ rfl dX12_comesFrom_160 ⟨by first | (unfold ahd; rw [if_neg (by omega), if_neg (by omega), if_neg (by omega), if_neg (by omega), if_pos (by omega)]; unfold prs swp; (first | rw [if_pos (by omega)] | rw [if_neg (by omega)]); (first | rw [if_pos (by omega)] | rw [if_neg (by omega)]); first | done | rfl | (congr 1 <;> (first | omega | (congr 1; omega))); done) | (exfalso; omega), rfl⟩
      · refine z_iload_n (pc := 124) hO 5 dX12_comesFrom_124 rfl rfl ?_
        refine z_goto (pc := 125) hO (tgt := 130) dX12_comesFrom_125 (by decide) ?_
        refine z_imul (pc := 130) hO dX12_comesFrom_130 ?_
        refine z_iload (pc := 131) hO 1 dX12_comesFrom_131 rfl ?_
        refine z_iload_n (pc := 133) hO 5 dX12_comesFrom_133 rfl rfl ?_
        refine z_icmp_ne (pc := 134) hO (tgt := 144) dX12_comesFrom_134 (by decide) (by omega) (by omega) (fun b7 => ?_) (fun b7 => ?_)
        · refine z_iload (pc := 144) hO 1 dX12_comesFrom_144 rfl ?_
          refine z_iload (pc := 146) hO 0 dX12_comesFrom_146 rfl ?_
          refine z_iload_n (pc := 148) hO 5 dX12_comesFrom_148 rfl rfl ?_
          refine z_isub (pc := 149) hO dX12_comesFrom_149 ?_
          refine z_icmp_ne (pc := 150) hO (tgt := 157) dX12_comesFrom_150 (by decide) (by omega) (by omega) (fun b8 => ?_) (fun b8 => ?_)
          · refine z_iload (pc := 157) hO 1 dX12_comesFrom_157 rfl ?_
            refine z_iadd (pc := 159) hO dX12_comesFrom_159 ?_
            exact z_iret (pc := 160) hO hr hQ rfl dX12_comesFrom_160 ⟨by first | (unfold ahd; rw [if_neg (by omega), if_neg (by omega), if_neg (by omega), if_neg (by omega), if_pos (by omega)]; unfold prs swp; (first | rw [if_pos (by omega)] | rw [if_neg (by omega)]); (first | rw [if_pos (by omega)] | rw [if_neg (by omega)]); first | done | rfl | (congr 1 <;> (first | omega | (congr 1; omega))); done) | (exfalso; omega), rfl⟩
          · refine z_iload_n (pc := 153) hO 5 dX12_comesFrom_153 rfl rfl ?_
            refine z_goto (pc := 154) hO (tgt := 159) dX12_comesFrom_154 (by decide) ?_
            refine z_iadd (pc := 159) hO dX12_comesFrom_159 ?_
            exact z_iret (pc := 160) hO hr hQ rfl dX12_comesFrom_160 ⟨by first | (unfold ahd; rw [if_neg (by omega), if_neg (by omega), if_neg (by omega), if_neg (by omega), if_pos (by omega)]; unfold prs swp; (first | rw [if_pos (by omega)] | rw [if_neg (by omega)]); (first | rw [if_pos (by omega)] | rw [if_neg (by omega)]); first | done | rfl | (congr 1 <;> (first | omega | (congr 1; omega))); done) | (exfalso; omega), rfl⟩
        · refine z_iload (pc := 137) hO 0 dX12_comesFrom_137 rfl ?_
          refine z_iload_n (pc := 139) hO 5 dX12_comesFrom_139 rfl rfl ?_
          refine z_isub (pc := 140) hO dX12_comesFrom_140 ?_
          refine z_goto (pc := 141) hO (tgt := 159) dX12_comesFrom_141 (by decide) ?_
          refine z_iadd (pc := 159) hO dX12_comesFrom_159 ?_
          exact z_iret (pc := 160) hO hr hQ rfl dX12_comesFrom_160 ⟨by first | (unfold ahd; rw [if_neg (by omega), if_neg (by omega), if_neg (by omega), if_neg (by omega), if_pos (by omega)]; unfold prs swp; (first | rw [if_pos (by omega)] | rw [if_neg (by omega)]); (first | rw [if_pos (by omega)] | rw [if_neg (by omega)]); first | done | rfl | (congr 1 <;> (first | omega | (congr 1; omega))); done) | (exfalso; omega), rfl⟩
    · refine z_iload (pc := 108) hO 0 dX12_comesFrom_108 rfl ?_
      refine z_iload_n (pc := 110) hO 5 dX12_comesFrom_110 rfl rfl ?_
      refine z_isub (pc := 111) hO dX12_comesFrom_111 ?_
      refine z_goto (pc := 112) hO (tgt := 130) dX12_comesFrom_112 (by decide) ?_
      refine z_imul (pc := 130) hO dX12_comesFrom_130 ?_
      refine z_iload (pc := 131) hO 1 dX12_comesFrom_131 rfl ?_
      refine z_iload_n (pc := 133) hO 5 dX12_comesFrom_133 rfl rfl ?_
      refine z_icmp_ne (pc := 134) hO (tgt := 144) dX12_comesFrom_134 (by decide) (by omega) (by omega) (fun b9 => ?_) (fun b9 => ?_)
      · refine z_iload (pc := 144) hO 1 dX12_comesFrom_144 rfl ?_
        refine z_iload (pc := 146) hO 0 dX12_comesFrom_146 rfl ?_
        refine z_iload_n (pc := 148) hO 5 dX12_comesFrom_148 rfl rfl ?_
        refine z_isub (pc := 149) hO dX12_comesFrom_149 ?_
        refine z_icmp_ne (pc := 150) hO (tgt := 157) dX12_comesFrom_150 (by decide) (by omega) (by omega) (fun b10 => ?_) (fun b10 => ?_)
        · refine z_iload (pc := 157) hO 1 dX12_comesFrom_157 rfl ?_
          refine z_iadd (pc := 159) hO dX12_comesFrom_159 ?_
          exact z_iret (pc := 160) hO hr hQ rfl dX12_comesFrom_160 ⟨by first | (unfold ahd; rw [if_neg (by omega), if_neg (by omega), if_neg (by omega), if_neg (by omega), if_pos (by omega)]; unfold prs swp; (first | rw [if_pos (by omega)] | rw [if_neg (by omega)]); (first | rw [if_pos (by omega)] | rw [if_neg (by omega)]); first | done | rfl | (congr 1 <;> (first | omega | (congr 1; omega))); done) | (exfalso; omega), rfl⟩
        · refine z_iload_n (pc := 153) hO 5 dX12_comesFrom_153 rfl rfl ?_
          refine z_goto (pc := 154) hO (tgt := 159) dX12_comesFrom_154 (by decide) ?_
          refine z_iadd (pc := 159) hO dX12_comesFrom_159 ?_
          exact z_iret (pc := 160) hO hr hQ rfl dX12_comesFrom_160 ⟨by first | (unfold ahd; rw [if_neg (by omega), if_neg (by omega), if_neg (by omega), if_neg (by omega), if_pos (by omega)]; unfold prs swp; (first | rw [if_pos (by omega)] | rw [if_neg (by omega)]); (first | rw [if_pos (by omega)] | rw [if_neg (by omega)]); first | done | rfl | (congr 1 <;> (first | omega | (congr 1; omega))); done) | (exfalso; omega), rfl⟩
      · refine z_iload (pc := 137) hO 0 dX12_comesFrom_137 rfl ?_
        refine z_iload_n (pc := 139) hO 5 dX12_comesFrom_139 rfl rfl ?_
        refine z_isub (pc := 140) hO dX12_comesFrom_140 ?_
        refine z_goto (pc := 141) hO (tgt := 159) dX12_comesFrom_141 (by decide) ?_
        refine z_iadd (pc := 159) hO dX12_comesFrom_159 ?_
        exact z_iret (pc := 160) hO hr hQ rfl dX12_comesFrom_160 ⟨by first | (unfold ahd; rw [if_neg (by omega), if_neg (by omega), if_neg (by omega), if_neg (by omega), if_pos (by omega)]; unfold prs swp; (first | rw [if_pos (by omega)] | rw [if_neg (by omega)]); (first | rw [if_pos (by omega)] | rw [if_neg (by omega)]); first | done | rfl | (congr 1 <;> (first | omega | (congr 1; omega))); done) | (exfalso; omega), rfl⟩
  · refine z_tabIn (pc := 16) hO (tgt := 73) dX12_comesFrom_16 (by omega) (by omega) (by omega) (by first | (rw [w1]; done) | (rw [w1]; rfl)) (by decide) ?_
    refine z_iload_n (pc := 73) hO 3 dX12_comesFrom_73 rfl rfl ?_
    refine z_iload (pc := 74) hO 2 dX12_comesFrom_74 rfl ?_
    refine z_iload_n (pc := 76) hO 5 dX12_comesFrom_76 rfl rfl ?_
    refine z_isub (pc := 77) hO dX12_comesFrom_77 ?_
    refine z_iload_n (pc := 78) hO 3 dX12_comesFrom_78 rfl rfl ?_
    refine z_iadd (pc := 79) hO dX12_comesFrom_79 ?_
    refine z_iload_n (pc := 80) hO 3 dX12_comesFrom_80 rfl rfl ?_
    refine z_irem (pc := 81) hO dX12_comesFrom_81 (by omega) (by omega) ?_
    refine z_imul (pc := 82) hO dX12_comesFrom_82 ?_
    refine z_iload (pc := 83) hO 1 dX12_comesFrom_83 rfl ?_
    refine z_iadd (pc := 85) hO dX12_comesFrom_85 ?_
    exact z_iret (pc := 86) hO hr hQ rfl dX12_comesFrom_86 ⟨by first | (unfold ahd; rw [if_neg (by omega), if_neg (by omega), if_pos (by omega)]; unfold shf; rw [e1, e3]; done) | (exfalso; omega), rfl⟩
  · refine z_tabIn (pc := 16) hO (tgt := 87) dX12_comesFrom_16 (by omega) (by omega) (by omega) (by first | (rw [w1]; done) | (rw [w1]; rfl)) (by decide) ?_
    refine z_iload_n (pc := 87) hO 3 dX12_comesFrom_87 rfl rfl ?_
    refine z_iload (pc := 88) hO 2 dX12_comesFrom_88 rfl ?_
    refine z_imul (pc := 90) hO dX12_comesFrom_90 ?_
    refine z_iload (pc := 91) hO 1 dX12_comesFrom_91 rfl ?_
    refine z_iload_n (pc := 93) hO 5 dX12_comesFrom_93 rfl rfl ?_
    refine z_isub (pc := 94) hO dX12_comesFrom_94 ?_
    refine z_iload_n (pc := 95) hO 3 dX12_comesFrom_95 rfl rfl ?_
    refine z_iadd (pc := 96) hO dX12_comesFrom_96 ?_
    refine z_iload_n (pc := 97) hO 3 dX12_comesFrom_97 rfl rfl ?_
    refine z_irem (pc := 98) hO dX12_comesFrom_98 (by omega) (by omega) ?_
    refine z_iadd (pc := 99) hO dX12_comesFrom_99 ?_
    exact z_iret (pc := 100) hO hr hQ rfl dX12_comesFrom_100 ⟨by first | (unfold ahd; rw [if_neg (by omega), if_neg (by omega), if_neg (by omega), if_pos (by omega)]; unfold shf; rw [e2, e4]; done) | (exfalso; omega), rfl⟩
  · refine z_tabOut (pc := 16) hO (tgt := 101) dX12_comesFrom_16 (by omega) (by omega) (by decide) ?_
    refine z_iload_n (pc := 101) hO 3 dX12_comesFrom_101 rfl rfl ?_
    refine z_iload (pc := 102) hO 2 dX12_comesFrom_102 rfl ?_
    refine z_iload_n (pc := 104) hO 5 dX12_comesFrom_104 rfl rfl ?_
    refine z_icmp_ne (pc := 105) hO (tgt := 115) dX12_comesFrom_105 (by decide) (by omega) (by omega) (fun b11 => ?_) (fun b11 => ?_)
    · refine z_iload (pc := 115) hO 2 dX12_comesFrom_115 rfl ?_
      refine z_iload (pc := 117) hO 0 dX12_comesFrom_117 rfl ?_
      refine z_iload_n (pc := 119) hO 5 dX12_comesFrom_119 rfl rfl ?_
      refine z_isub (pc := 120) hO dX12_comesFrom_120 ?_
      refine z_icmp_ne (pc := 121) hO (tgt := 128) dX12_comesFrom_121 (by decide) (by omega) (by omega) (fun b12 => ?_) (fun b12 => ?_)
      · refine z_iload (pc := 128) hO 2 dX12_comesFrom_128 rfl ?_
        refine z_imul (pc := 130) hO dX12_comesFrom_130 ?_
        refine z_iload (pc := 131) hO 1 dX12_comesFrom_131 rfl ?_
        refine z_iload_n (pc := 133) hO 5 dX12_comesFrom_133 rfl rfl ?_
        refine z_icmp_ne (pc := 134) hO (tgt := 144) dX12_comesFrom_134 (by decide) (by omega) (by omega) (fun b13 => ?_) (fun b13 => ?_)
        · refine z_iload (pc := 144) hO 1 dX12_comesFrom_144 rfl ?_
          refine z_iload (pc := 146) hO 0 dX12_comesFrom_146 rfl ?_
          refine z_iload_n (pc := 148) hO 5 dX12_comesFrom_148 rfl rfl ?_
          refine z_isub (pc := 149) hO dX12_comesFrom_149 ?_
          refine z_icmp_ne (pc := 150) hO (tgt := 157) dX12_comesFrom_150 (by decide) (by omega) (by omega) (fun b14 => ?_) (fun b14 => ?_)
          · refine z_iload (pc := 157) hO 1 dX12_comesFrom_157 rfl ?_
            refine z_iadd (pc := 159) hO dX12_comesFrom_159 ?_
            exact z_iret (pc := 160) hO hr hQ rfl dX12_comesFrom_160 ⟨by first | (unfold ahd; rw [if_neg (by omega), if_neg (by omega), if_neg (by omega), if_neg (by omega), if_pos (by omega)]; unfold prs swp; (first | rw [if_pos (by omega)] | rw [if_neg (by omega)]); (first | rw [if_pos (by omega)] | rw [if_neg (by omega)]); first | done | rfl | (congr 1 <;> (first | omega | (congr 1; omega))); done) | (exfalso; omega), rfl⟩
          · refine z_iload_n (pc := 153) hO 5 dX12_comesFrom_153 rfl rfl ?_
            refine z_goto (pc := 154) hO (tgt := 159) dX12_comesFrom_154 (by decide) ?_
            refine z_iadd (pc := 159) hO dX12_comesFrom_159 ?_
            exact z_iret (pc := 160) hO hr hQ rfl dX12_comesFrom_160 ⟨by first | (unfold ahd; rw [if_neg (by omega), if_neg (by omega), if_neg (by omega), if_neg (by omega), if_pos (by omega)]; unfold prs swp; (first | rw [if_pos (by omega)] | rw [if_neg (by omega)]); (first | rw [if_pos (by omega)] | rw [if_neg (by omega)]); first | done | rfl | (congr 1 <;> (first | omega | (congr 1; omega))); done) | (exfalso; omega), rfl⟩
        · refine z_iload (pc := 137) hO 0 dX12_comesFrom_137 rfl ?_
          refine z_iload_n (pc := 139) hO 5 dX12_comesFrom_139 rfl rfl ?_
          refine z_isub (pc := 140) hO dX12_comesFrom_140 ?_
          refine z_goto (pc := 141) hO (tgt := 159) dX12_comesFrom_141 (by decide) ?_
          refine z_iadd (pc := 159) hO dX12_comesFrom_159 ?_
          exact z_iret (pc := 160) hO hr hQ rfl dX12_comesFrom_160 ⟨by first | (unfold ahd; rw [if_neg (by omega), if_neg (by omega), if_neg (by omega), if_neg (by omega), if_pos (by omega)]; unfold prs swp; (first | rw [if_pos (by omega)] | rw [if_neg (by omega)]); (first | rw [if_pos (by omega)] | rw [if_neg (by omega)]); first | done | rfl | (congr 1 <;> (first | omega | (congr 1; omega))); done) | (exfalso; omega), rfl⟩
      · refine z_iload_n (pc := 124) hO 5 dX12_comesFrom_124 rfl rfl ?_
        refine z_goto (pc := 125) hO (tgt := 130) dX12_comesFrom_125 (by decide) ?_
        refine z_imul (pc := 130) hO dX12_comesFrom_130 ?_
        refine z_iload (pc := 131) hO 1 dX12_comesFrom_131 rfl ?_
        refine z_iload_n (pc := 133) hO 5 dX12_comesFrom_133 rfl rfl ?_
        refine z_icmp_ne (pc := 134) hO (tgt := 144) dX12_comesFrom_134 (by decide) (by omega) (by omega) (fun b15 => ?_) (fun b15 => ?_)
        · refine z_iload (pc := 144) hO 1 dX12_comesFrom_144 rfl ?_
          refine z_iload (pc := 146) hO 0 dX12_comesFrom_146 rfl ?_
          refine z_iload_n (pc := 148) hO 5 dX12_comesFrom_148 rfl rfl ?_
          refine z_isub (pc := 149) hO dX12_comesFrom_149 ?_
          refine z_icmp_ne (pc := 150) hO (tgt := 157) dX12_comesFrom_150 (by decide) (by omega) (by omega) (fun b16 => ?_) (fun b16 => ?_)
          · refine z_iload (pc := 157) hO 1 dX12_comesFrom_157 rfl ?_
            refine z_iadd (pc := 159) hO dX12_comesFrom_159 ?_
            exact z_iret (pc := 160) hO hr hQ rfl dX12_comesFrom_160 ⟨by first | (unfold ahd; rw [if_neg (by omega), if_neg (by omega), if_neg (by omega), if_neg (by omega), if_pos (by omega)]; unfold prs swp; (first | rw [if_pos (by omega)] | rw [if_neg (by omega)]); (first | rw [if_pos (by omega)] | rw [if_neg (by omega)]); first | done | rfl | (congr 1 <;> (first | omega | (congr 1; omega))); done) | (exfalso; omega), rfl⟩
          · refine z_iload_n (pc := 153) hO 5 dX12_comesFrom_153 rfl rfl ?_
            refine z_goto (pc := 154) hO (tgt := 159) dX12_comesFrom_154 (by decide) ?_
            refine z_iadd (pc := 159) hO dX12_comesFrom_159 ?_
            exact z_iret (pc := 160) hO hr hQ rfl dX12_comesFrom_160 ⟨by first | (unfold ahd; rw [if_neg (by omega), if_neg (by omega), if_neg (by omega), if_neg (by omega), if_pos (by omega)]; unfold prs swp; (first | rw [if_pos (by omega)] | rw [if_neg (by omega)]); (first | rw [if_pos (by omega)] | rw [if_neg (by omega)]); first | done | rfl | (congr 1 <;> (first | omega | (congr 1; omega))); done) | (exfalso; omega), rfl⟩
        · refine z_iload (pc := 137) hO 0 dX12_comesFrom_137 rfl ?_
          refine z_iload_n (pc := 139) hO 5 dX12_comesFrom_139 rfl rfl ?_
          refine z_isub (pc := 140) hO dX12_comesFrom_140 ?_
          refine z_goto (pc := 141) hO (tgt := 159) dX12_comesFrom_141 (by decide) ?_
          refine z_iadd (pc := 159) hO dX12_comesFrom_159 ?_
          exact z_iret (pc := 160) hO hr hQ rfl dX12_comesFrom_160 ⟨by first | (unfold ahd; rw [if_neg (by omega), if_neg (by omega), if_neg (by omega), if_neg (by omega), if_pos (by omega)]; unfold prs swp; (first | rw [if_pos (by omega)] | rw [if_neg (by omega)]); (first | rw [if_pos (by omega)] | rw [if_neg (by omega)]); first | done | rfl | (congr 1 <;> (first | omega | (congr 1; omega))); done) | (exfalso; omega), rfl⟩
    · refine z_iload (pc := 108) hO 0 dX12_comesFrom_108 rfl ?_
      refine z_iload_n (pc := 110) hO 5 dX12_comesFrom_110 rfl rfl ?_
      refine z_isub (pc := 111) hO dX12_comesFrom_111 ?_
      refine z_goto (pc := 112) hO (tgt := 130) dX12_comesFrom_112 (by decide) ?_
      refine z_imul (pc := 130) hO dX12_comesFrom_130 ?_
      refine z_iload (pc := 131) hO 1 dX12_comesFrom_131 rfl ?_
      refine z_iload_n (pc := 133) hO 5 dX12_comesFrom_133 rfl rfl ?_
      refine z_icmp_ne (pc := 134) hO (tgt := 144) dX12_comesFrom_134 (by decide) (by omega) (by omega) (fun b17 => ?_) (fun b17 => ?_)
      · refine z_iload (pc := 144) hO 1 dX12_comesFrom_144 rfl ?_
        refine z_iload (pc := 146) hO 0 dX12_comesFrom_146 rfl ?_
        refine z_iload_n (pc := 148) hO 5 dX12_comesFrom_148 rfl rfl ?_
        refine z_isub (pc := 149) hO dX12_comesFrom_149 ?_
        refine z_icmp_ne (pc := 150) hO (tgt := 157) dX12_comesFrom_150 (by decide) (by omega) (by omega) (fun b18 => ?_) (fun b18 => ?_)
        · refine z_iload (pc := 157) hO 1 dX12_comesFrom_157 rfl ?_
          refine z_iadd (pc := 159) hO dX12_comesFrom_159 ?_
          exact z_iret (pc := 160) hO hr hQ rfl dX12_comesFrom_160 ⟨by first | (unfold ahd; rw [if_neg (by omega), if_neg (by omega), if_neg (by omega), if_neg (by omega), if_pos (by omega)]; unfold prs swp; (first | rw [if_pos (by omega)] | rw [if_neg (by omega)]); (first | rw [if_pos (by omega)] | rw [if_neg (by omega)]); first | done | rfl | (congr 1 <;> (first | omega | (congr 1; omega))); done) | (exfalso; omega), rfl⟩
        · refine z_iload_n (pc := 153) hO 5 dX12_comesFrom_153 rfl rfl ?_
          refine z_goto (pc := 154) hO (tgt := 159) dX12_comesFrom_154 (by decide) ?_
          refine z_iadd (pc := 159) hO dX12_comesFrom_159 ?_
          exact z_iret (pc := 160) hO hr hQ rfl dX12_comesFrom_160 ⟨by first | (unfold ahd; rw [if_neg (by omega), if_neg (by omega), if_neg (by omega), if_neg (by omega), if_pos (by omega)]; unfold prs swp; (first | rw [if_pos (by omega)] | rw [if_neg (by omega)]); (first | rw [if_pos (by omega)] | rw [if_neg (by omega)]); first | done | rfl | (congr 1 <;> (first | omega | (congr 1; omega))); done) | (exfalso; omega), rfl⟩
      · refine z_iload (pc := 137) hO 0 dX12_comesFrom_137 rfl ?_
        refine z_iload_n (pc := 139) hO 5 dX12_comesFrom_139 rfl rfl ?_
        refine z_isub (pc := 140) hO dX12_comesFrom_140 ?_
        refine z_goto (pc := 141) hO (tgt := 159) dX12_comesFrom_141 (by decide) ?_
        refine z_iadd (pc := 159) hO dX12_comesFrom_159 ?_
        exact z_iret (pc := 160) hO hr hQ rfl dX12_comesFrom_160 ⟨by first | (unfold ahd; rw [if_neg (by omega), if_neg (by omega), if_neg (by omega), if_neg (by omega), if_pos (by omega)]; unfold prs swp; (first | rw [if_pos (by omega)] | rw [if_neg (by omega)]); (first | rw [if_pos (by omega)] | rw [if_neg (by omega)]); first | done | rfl | (congr 1 <;> (first | omega | (congr 1; omega))); done) | (exfalso; omega), rfl⟩

