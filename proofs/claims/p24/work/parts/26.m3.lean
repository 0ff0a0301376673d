set_option maxHeartbeats 600000 in
theorem c_X0_mostBy (l : Launch) (g : Gl) (x : Me) (ch : Int) (n : Int)  (hc : 0 ≤ ch ∧ ch ≤ 5) (hn : 1 ≤ n ∧ n ≤ 9) : ctQ l g yX0_mostBy cX0_mostBy 2 (some .int) 1 20 [.int (zi ch), .int (zi n)] x (QIu g (fun z x' => z = (if ch = 0 then 3 else if ch = 1 then 1 else if ch = 2 then 1998 else n - 1) ∧ x' = x)) := by
  refine ct_start (own := RX0) (lv := [(0, .int (zi ch)), (1, .int (zi n))]) (plainFor_of_name (by decide)) rfl (Nat.le_of_ble_eq_true rfl) rfl ?_
  intro Γ hΓ hO hr hQ _
  refine z_iload_n (pc := 0) hO 0 dX0_mostBy_0 rfl rfl ?_
  have w1 : ch = 0 ∨ ch = 1 ∨ ch = 2 ∨ (ch ≠ 0 ∧ ch ≠ 1 ∧ ch ≠ 2) := by omega
  rcases w1 with w1 | w1 | w1 | w1
  · refine z_tabIn (pc := 1) hO (tgt := 28) dX0_mostBy_1 (by omega) (by omega) (by omega) (by first | (rw [w1]; done) | (rw [w1]; rfl)) (by decide) ?_
    refine z_iconst (pc := 28) hO dX0_mostBy_28 ?_
    exact z_iret (pc := 29) hO hr hQ rfl dX0_mostBy_29 ⟨by first | (simp [*]; done) | (exfalso; omega), rfl⟩
  · refine z_tabIn (pc := 1) hO (tgt := 30) dX0_mostBy_1 (by omega) (by omega) (by omega) (by first | (rw [w1]; done) | (rw [w1]; rfl)) (by decide) ?_
    refine z_iconst (pc := 30) hO dX0_mostBy_30 ?_
    exact z_iret (pc := 31) hO hr hQ rfl dX0_mostBy_31 ⟨by first | (simp [*]; done) | (exfalso; omega), rfl⟩
  · refine z_tabIn (pc := 1) hO (tgt := 32) dX0_mostBy_1 (by omega) (by omega) (by omega) (by first | (rw [w1]; done) | (rw [w1]; rfl)) (by decide) ?_
    refine z_sipush (pc := 32) hO dX0_mostBy_32 (by decide) ?_
    exact z_iret (pc := 35) hO hr hQ rfl dX0_mostBy_35 ⟨by first | (simp [*]; done) | (exfalso; omega), rfl⟩
  · refine z_tabOut (pc := 1) hO (tgt := 36) dX0_mostBy_1 (by omega) (by omega) (by decide) ?_
    refine z_iload_n (pc := 36) hO 1 dX0_mostBy_36 rfl rfl ?_
    refine z_iconst (pc := 37) hO dX0_mostBy_37 ?_
    refine z_isub (pc := 38) hO dX0_mostBy_38 ?_
    exact z_iret (pc := 39) hO hr hQ rfl dX0_mostBy_39 ⟨by first | (simp [*]; done) | (exfalso; omega), rfl⟩

set_option maxHeartbeats 600000 in
theorem c_X0_aheadOf (l : Launch) (g : Gl) (x : Me) (n : Int) (ch : Int) (b : Int) (p : Int)  (hn : 1 ≤ n ∧ n ≤ 9) (hc : 0 ≤ ch ∧ ch ≤ 5) (hb : 0 ≤ b ∧ b ≤ 9 ∧ (ch = 0 → b ≤ 3) ∧ (ch = 1 → b ≤ 1)) (hp : 0 ≤ p ∧ p < n * n) : ctQ l g yX0_aheadOf cX0_aheadOf 4 (some .int) 4 86 [.int (zi n), .int (zi ch), .int (zi b), .int (zi p)] x (QIu g (fun z x' => z = (ahd n ch b p) ∧ x' = x)) := by
  refine ct_start (own := RX0) (lv := [(0, .int (zi n)), (1, .int (zi ch)), (2, .int (zi b)), (3, .int (zi p))]) (plainFor_of_name (by decide)) rfl (Nat.le_of_ble_eq_true rfl) rfl ?_
  intro Γ hΓ hO hr hQ _
  have h9 := sq9 hn
  refine z_iload_n (pc := 0) hO 1 dX0_aheadOf_0 rfl rfl ?_
  have w1 : ch = 0 ∨ ch = 1 ∨ ch = 2 ∨ ch = 3 ∨ ch = 4 ∨ ch = 5 ∨ (ch ≠ 0 ∧ ch ≠ 1 ∧ ch ≠ 2 ∧ ch ≠ 3 ∧ ch ≠ 4 ∧ ch ≠ 5) := by omega
  rcases w1 with w1 | w1 | w1 | w1 | w1 | w1 | w1
  · refine z_tabIn (pc := 1) hO (tgt := 40) dX0_aheadOf_1 (by omega) (by omega) (by omega) (by first | (rw [w1]; done) | (rw [w1]; rfl)) (by decide) ?_
    refine z_iload_n (pc := 40) hO 0 dX0_aheadOf_40 rfl rfl ?_
    refine z_iload_n (pc := 41) hO 2 dX0_aheadOf_41 rfl rfl ?_
    refine z_iload_n (pc := 42) hO 3 dX0_aheadOf_42 rfl rfl ?_
    refine z_callSIp (pc := 43) hO (As := [.int (zi n), .int (zi b), .int (zi p)]) (st := []) (c_X7_aheadOfTurn (qL Γ) g x n b p (by first | assumption | omega) (by first | assumption | omega) (by first | assumption | omega)) k_X0_36 rfl (Nat.le_of_ble_eq_true rfl) (by decide) (by decide) ⟨by decide, by decide⟩ dX0_aheadOf_43 ?_
    exact z_iret (pc := 46) hO hr hQ rfl dX0_aheadOf_46 ⟨by first | (unfold ahd; simp [*]; done) | (exfalso; omega), rfl⟩
  · refine z_tabIn (pc := 1) hO (tgt := 47) dX0_aheadOf_1 (by omega) (by omega) (by omega) (by first | (rw [w1]; done) | (rw [w1]; rfl)) (by decide) ?_
    refine z_iload_n (pc := 47) hO 0 dX0_aheadOf_47 rfl rfl ?_
    refine z_iload_n (pc := 48) hO 2 dX0_aheadOf_48 rfl rfl ?_
    refine z_iload_n (pc := 49) hO 3 dX0_aheadOf_49 rfl rfl ?_
    refine z_callSIp (pc := 50) hO (As := [.int (zi n), .int (zi b), .int (zi p)]) (st := []) (c_X7_aheadOfFlip (qL Γ) g x n b p (by first | assumption | omega) (by first | assumption | omega) (by first | assumption | omega)) k_X0_42 rfl (Nat.le_of_ble_eq_true rfl) (by decide) (by decide) ⟨by decide, by decide⟩ dX0_aheadOf_50 ?_
    exact z_iret (pc := 53) hO hr hQ rfl dX0_aheadOf_53 ⟨by first | (unfold ahd; simp [*]; done) | (exfalso; omega), rfl⟩
  · refine z_tabIn (pc := 1) hO (tgt := 77) dX0_aheadOf_1 (by omega) (by omega) (by omega) (by first | (rw [w1]; done) | (rw [w1]; rfl)) (by decide) ?_
    refine z_iload_n (pc := 77) hO 3 dX0_aheadOf_77 rfl rfl ?_
    exact z_iret (pc := 78) hO hr hQ rfl dX0_aheadOf_78 ⟨by first | (unfold ahd; simp [*]; done) | (exfalso; omega), rfl⟩
  · refine z_tabIn (pc := 1) hO (tgt := 54) dX0_aheadOf_1 (by omega) (by omega) (by omega) (by first | (rw [w1]; done) | (rw [w1]; rfl)) (by decide) ?_
    refine z_iload_n (pc := 54) hO 0 dX0_aheadOf_54 rfl rfl ?_
    refine z_iload_n (pc := 55) hO 2 dX0_aheadOf_55 rfl rfl ?_
    refine z_iconst (pc := 56) hO dX0_aheadOf_56 ?_
    refine z_iload_n (pc := 57) hO 3 dX0_aheadOf_57 rfl rfl ?_
    refine z_callSIp (pc := 58) hO (As := [.int (zi n), .int (zi b), .int (zi 0), .int (zi p)]) (st := []) (c_X7_aheadOfShift (qL Γ) g x n b 0 p (by first | assumption | omega) (by first | assumption | omega) (by first | assumption | omega) (by first | assumption | omega)) k_X0_45 rfl (Nat.le_of_ble_eq_true rfl) (by decide) (by decide) ⟨by decide, by decide⟩ dX0_aheadOf_58 ?_
    exact z_iret (pc := 61) hO hr hQ rfl dX0_aheadOf_61 ⟨by first | (unfold ahd; simp [*]; done) | (exfalso; omega), rfl⟩
  · refine z_tabIn (pc := 1) hO (tgt := 62) dX0_aheadOf_1 (by omega) (by omega) (by omega) (by first | (rw [w1]; done) | (rw [w1]; rfl)) (by decide) ?_
    refine z_iload_n (pc := 62) hO 0 dX0_aheadOf_62 rfl rfl ?_
    refine z_iconst (pc := 63) hO dX0_aheadOf_63 ?_
    refine z_iload_n (pc := 64) hO 2 dX0_aheadOf_64 rfl rfl ?_
    refine z_iload_n (pc := 65) hO 3 dX0_aheadOf_65 rfl rfl ?_
    refine z_callSIp (pc := 66) hO (As := [.int (zi n), .int (zi 0), .int (zi b), .int (zi p)]) (st := []) (c_X7_aheadOfShift (qL Γ) g x n 0 b p (by first | assumption | omega) (by first | assumption | omega) (by first | assumption | omega) (by first | assumption | omega)) k_X0_45 rfl (Nat.le_of_ble_eq_true rfl) (by decide) (by decide) ⟨by decide, by decide⟩ dX0_aheadOf_66 ?_
    exact z_iret (pc := 69) hO hr hQ rfl dX0_aheadOf_69 ⟨by first | (unfold ahd; simp [*]; done) | (exfalso; omega), rfl⟩
  · refine z_tabIn (pc := 1) hO (tgt := 70) dX0_aheadOf_1 (by omega) (by omega) (by omega) (by first | (rw [w1]; done) | (rw [w1]; rfl)) (by decide) ?_
    refine z_iload_n (pc := 70) hO 0 dX0_aheadOf_70 rfl rfl ?_
    refine z_iload_n (pc := 71) hO 2 dX0_aheadOf_71 rfl rfl ?_
    refine z_iload_n (pc := 72) hO 3 dX0_aheadOf_72 rfl rfl ?_
    refine z_callSIp (pc := 73) hO (As := [.int (zi n), .int (zi b), .int (zi p)]) (st := []) (c_X7_aheadOfPairs (qL Γ) g x n b p (by first | assumption | omega) (by first | assumption | omega) (by first | assumption | omega)) k_X0_48 rfl (Nat.le_of_ble_eq_true rfl) (by decide) (by decide) ⟨by decide, by decide⟩ dX0_aheadOf_73 ?_
    exact z_iret (pc := 76) hO hr hQ rfl dX0_aheadOf_76 ⟨by first | (unfold ahd; simp [*]; done) | (exfalso; omega), rfl⟩
  · refine z_tabOut (pc := 1) hO (tgt := 77) dX0_aheadOf_1 (by omega) (by omega) (by decide) ?_
    refine z_iload_n (pc := 77) hO 3 dX0_aheadOf_77 rfl rfl ?_
    exact z_iret (pc := 78) hO hr hQ rfl dX0_aheadOf_78 ⟨by first | (unfold ahd; simp [*]; done) | (exfalso; omega), rfl⟩

set_option maxHeartbeats 600000 in
theorem c_X1_copyFrom (l : Launch) (g : Gl) (x : Me) (q : Nat) (o : Nat)  (hq : q < 9) (hFo : FG x o) (hqo : q ≠ o) : ctQ l g yX1_copyFrom cX1_copyFrom 3 none 2 43 [.ref (gA g (10 + q)), .ref (gA g (10 + o))] x (QVu g (fun x' => x' (10 + q) 1 = x (10 + o) 1 ∧ (∀ p, 0 ≤ p → p < x (10 + o) 1 * x (10 + o) 1 → x' (20 + q) p = x (20 + o) p) ∧ ∀ a, a ≠ 10 + q → a ≠ 20 + q → x' a = x a)) := by
  refine ct_start (own := RX1) (lv := [(0, .ref (gA g (10 + q))), (1, .ref (gA g (10 + o)))]) (plainFor_of_name (by decide)) rfl (Nat.le_of_ble_eq_true rfl) rfl ?_
  intro Γ hΓ hO hr hQ _
  obtain ⟨hqo, hso, hfo⟩ := id hFo
  have h9o := sq9 hso
  have hNo := FG.r hFo
  refine z_aload_n (pc := 0) hO 0 dX1_copyFrom_0 rfl rfl ?_
  refine z_aload_n (pc := 1) hO 1 dX1_copyFrom_1 rfl rfl ?_
  refine z_callVIp (pc := 2) hO (As := []) (st := [.ref (gA g (10 + q))]) (c_X1_side (qL Γ) g x o (by first | assumption | omega)) k_X1_19 (isO_fig (by omega : o < 9)) rfl (Nat.le_of_ble_eq_true rfl) (by decide) (by decide) ⟨by decide, by decide⟩ dX1_copyFrom_2 ?_
  refine z_callVV (pc := 5) hO (As := [.int (zi (x (10 + o) 1))]) (st := []) (c_X1_begin (qL Γ) g x q (x (10 + o) 1) (by first | assumption | omega)) k_X1_22 (isO_fig (by omega : q < 9)) rfl (Nat.le_of_ble_eq_true rfl) (by decide) (by decide) ⟨by decide, by decide⟩ dX1_copyFrom_5 (fun m2 h3 => ?_)
  have c1 : m2 (10 + q) 1 = x (10 + o) 1 := by rw [h3]; unfold clr; rw [if_neg (by omega), up_s]
  have c2 : ∀ a, a ≠ 10 + q → a ≠ 20 + q → m2 a = x a := by
      intro a h1 h2; rw [h3]; funext b; unfold clr; rw [if_neg (by omega), up_n _ _ (by omega)]
  clear h3
  refine z_iconst (pc := 8) hO dX1_copyFrom_8 ?_
  refine z_istore_n (pc := 9) hO (lv' := [(2, .int (zi 0)), (0, .ref (gA g (10 + q))), (1, .ref (gA g (10 + o)))]) dX1_copyFrom_9 rfl (by decide) rfl ?_
  have L10 : ∀ (N : Nat) (i : Int) (y : Me), (x (10 + o) 1 * x (10 + o) 1 - i).toNat < N → (0 ≤ i ∧ i ≤ x (10 + o) 1 * x (10 + o) 1) → (y (10 + q) 1 = x (10 + o) 1) → (∀ p, 0 ≤ p → p < i → y (20 + q) p = x (20 + o) p) → (∀ a, a ≠ 10 + q → a ≠ 20 + q → y a = x a) → Zz Γ g 3 0 0 y 10 [(0, .ref (gA g (10 + q))), (1, .ref (gA g (10 + o))), (2, .int (zi i))] [] := by
    intro N
    induction N with
    | zero => intro i y hm; exact absurd hm (Nat.not_lt_zero _)
    | succ N ih10 =>
      intro i y hm h0 k1 k2 k3
      have hyy : y (10 + q) 1 * y (10 + q) 1 = x (10 + o) 1 * x (10 + o) 1 := by rw [k1]
      have hv : 0 ≤ i → i < 81 → nc y o i = x (20 + o) i := fun a b => by rw [nc_in ⟨a, b⟩, k3 (20 + o) (by omega) (by omega)]
      refine z_iload_n (pc := 10) hO 2 dX1_copyFrom_10 rfl rfl ?_
      refine z_aload_n (pc := 11) hO 0 dX1_copyFrom_11 rfl rfl ?_
      refine z_callVIp (pc := 12) hO (As := []) (st := [.int (zi i)]) (c_X1_size (qL Γ) g y q (by first | assumption | omega)) k_X1_26 (isO_fig (by omega : q < 9)) rfl (Nat.le_of_ble_eq_true rfl) (by decide) (by decide) ⟨by decide, by decide⟩ dX1_copyFrom_12 ?_
      refine z_icmp_ge (pc := 15) hO (tgt := 35) dX1_copyFrom_15 (by decide) (by omega) (by omega) (fun b4 => ?_) (fun b4 => ?_)
      · exact z_vret (pc := 35) hO hr hQ dX1_copyFrom_35 (by first | (refine ⟨k1, fun p a b => k2 p a (by omega), k3⟩; done) | (exfalso; omega))
      · have hv := hv (by omega) (by omega)
        refine z_aload_n (pc := 18) hO 0 dX1_copyFrom_18 rfl rfl ?_
        refine z_iload_n (pc := 19) hO 2 dX1_copyFrom_19 rfl rfl ?_
        refine z_aload_n (pc := 20) hO 1 dX1_copyFrom_20 rfl rfl ?_
        refine z_iload_n (pc := 21) hO 2 dX1_copyFrom_21 rfl rfl ?_
        refine z_callVIp (pc := 22) hO (As := [.int (zi i)]) (st := [.int (zi i), .ref (gA g (10 + q))]) (c_X1_read (qL Γ) g y o i (by first | assumption | omega) (by first | assumption | omega)) k_X1_29 (isO_fig (by omega : o < 9)) rfl (Nat.le_of_ble_eq_true rfl) (by decide) (by decide) ⟨by decide, by decide⟩ dX1_copyFrom_22 ?_
        refine z_callVIm (pc := 25) hO (As := [.int (zi i), .int (zi (nc y o i))]) (st := []) (c_X1_write (qL Γ) g y q i (nc y o i) (by first | assumption | omega) (by first | assumption | omega)) k_X1_33 (isO_fig (by omega : q < 9)) rfl (Nat.le_of_ble_eq_true rfl) (by decide) (by decide) ⟨by decide, by decide⟩ dX1_copyFrom_25 (fun m5 e6 => ?_)
        refine z_pop (pc := 28) hO dX1_copyFrom_28 rfl ?_
        refine z_iinc (pc := 29) hO 2 (lv' := [(2, .int (zi (i + 1))), (0, .ref (gA g (10 + q))), (1, .ref (gA g (10 + o)))]) dX1_copyFrom_29 rfl (by decide) rfl ?_
        refine z_goto (pc := 32) hO (tgt := 10) dX1_copyFrom_32 (by decide) ?_
        refine z_sub [1, 2, 0] rfl ?_
        exact ih10 (i + 1) m5 (by omega) (by omega) (by subst m5; rw [up_i _ _ _ (by omega)]; exact k1) (by intro p a b; subst m5; by_cases hp : p = i; (subst hp; rw [up_s]; exact hv); (rw [up_n _ _ (by omega)]; exact k2 p a (by omega))) (by intro a h1 h2; subst m5; rw [up_i _ _ _ h2]; exact k3 a h1 h2)
  refine z_sub [1, 2, 0] rfl ?_
  exact L10 _ 0 m2 (Nat.lt_succ_self _) (by omega) (by assumption) (by intro p a b; omega) (by assumption)

