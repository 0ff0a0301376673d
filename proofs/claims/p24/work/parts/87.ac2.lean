set_option maxHeartbeats 4000000 in
theorem c_L_areCompletions (l : Launch) (g : Gl) (x : Me) (sq n s : Int) (hX : gX g = 0) (hS : HS x) (hq : 0 ≤ sq ∧ sq < x 0 5) (hn : x (10 + sq.toNat) 1 = n) (hR : Rt n (x 71)) (hc : cnt n (nc x sq.toNat) 0 ≤ (if n = 3 then 9 else 6)) (hb : ∀ p, 0 ≤ p → p < n * n → (tb s p ∧ nc x sq.toNat p = 0) ∨ (¬ tb s p ∧ nc x sq.toNat p = x 71 p)) (hs : 0 ≤ s ∧ s < 131072) : cmQ l g yL_areCompletions cL_areCompletions 12 (some .boolean) 64 1293 2 32 [.ref (gA g 0), .int (zi sq), .int (zi n), .ref (gA g 71), .int (zi s)] x (QIu g (fun z x' => z = 1 ∧ ∀ a, a ≠ 2 → a ≠ 3 → (a < 30 ∨ 36 < a) → x' a = x a)) := by
  have h34 := n34 hR.1
  have hS1 := hS.1
  have hc9 : cnt n (nc x sq.toNat) 0 ≤ 9 := by split at hc <;> omega
  have hW : ∀ p, 0 ≤ p → p < n * n → nc x sq.toNat p = x 71 p ∨ nc x sq.toNat p = 0 := fun p a b => (hb p a b).elim (fun q => Or.inr q.2) (fun q => Or.inl q.2)
  obtain ⟨hin, hpw, hmem⟩ := cpl_all hR hW
  have hlen := cpl_len hR.1 hc
  have hlen1 : 1 ≤ ((cpl n (nc x sq.toNat)).length : Int) := by
    obtain ⟨v, v0, v1, -⟩ := GD_of hin
    omega
  refine cm_start (own := RL) (lv := [(0, .ref (gA g 0)), (1, .int (zi sq)), (2, .int (zi n)), (3, .ref (gA g 71)), (4, .int (zi s))]) (plainFor_of_name (by decide)) rfl (Nat.le_of_ble_eq_true rfl) rfl ?_
  intro Γ hΓ hO hr hQ
  refine z_aload_n (pc := 0) hO 0 dL_areCompletions_0 rfl rfl ?_
  refine z_iload_n (pc := 1) hO 1 dL_areCompletions_1 rfl rfl ?_
  refine z_callVI (pc := 2) hO (As := [.int (zi sq)]) (st := []) (c_X11_completions (qL Γ) g x sq hS (by omega) (by rw [hn]; exact ⟨hq, by omega, hc9⟩)) k_L_15 isO_0 rfl (Nat.le_of_ble_eq_true rfl) (by decide) (by decide) ⟨by decide, by decide⟩ dL_areCompletions_2 (fun m x1 h1 => ?_)
  obtain ⟨hm, hf1⟩ := h1
  rw [hn] at hm
  refine z_istore (pc := 5) hO (lv' := [(5, .int (zi m)), (0, .ref (gA g 0)), (1, .int (zi sq)), (2, .int (zi n)), (3, .ref (gA g 71)), (4, .int (zi s))]) dL_areCompletions_5 (by decide) rfl ?_
  refine z_bipush (pc := 7) hO dL_areCompletions_7 (by decide) ?_
  refine z_new16 (pc := 9) 0 (by decide) hX hO dL_areCompletions_9 (by decide) (by decide) (fun g2 hX2 hA2 hS2 hP2 hO2 x2 hx2 => ?_)
  rw [← hA2 0 (by decide), ← hA2 71 (by decide)]
  refine z_astore (pc := 11) hO2 (lv' := [(6, .ref (gA g2 2)), (5, .int (zi m)), (0, .ref (gA g2 0)), (1, .int (zi sq)), (2, .int (zi n)), (3, .ref (gA g2 71)), (4, .int (zi s))]) dL_areCompletions_11 (by decide) rfl ?_
  refine z_bipush (pc := 13) hO2 dL_areCompletions_13 (by decide) ?_
  refine z_new16 (pc := 15) 1 (by decide) hX2 hO2 dL_areCompletions_15 (by decide) (by decide) (fun g3 hX3 hA3 hS3 hP3 hO3 x3 hx3 => ?_)
  rw [← hA3 0 (by decide), ← hA3 71 (by decide), ← hA3 2 (by decide)]
  refine z_astore (pc := 17) hO3 (lv' := [(7, .ref (gA g3 3)), (6, .ref (gA g3 2)), (5, .int (zi m)), (0, .ref (gA g3 0)), (1, .int (zi sq)), (2, .int (zi n)), (3, .ref (gA g3 71)), (4, .int (zi s))]) dL_areCompletions_17 (by decide) rfl ?_
  refine z_sub [3, 4, 5, 6, 7, 2, 1, 0] rfl ?_
  have hfr : ∀ a, a ≠ 2 → a ≠ 3 → (a < 30 ∨ 36 < a) → x3 a = x a := fun a a2 a3 h => (hx3 a a3).trans ((hx2 a a2).trans (hf1 a h))
  obtain ⟨k1, k2, k3, k4, k71⟩ := ac_k hS hq hfr
  refine ac_body hX3 hO3 ⟨by decide, by decide⟩ x3 sq n s m (cpl n (nc x sq.toNat)) k1 (by rw [k2]; exact hq) (by rw [k3]; exact hn) (by rw [k71]; exact hR) (by rw [k4]) hm ⟨by omega, by omega⟩ (by rw [k4]; exact hc9) (by rw [k4, k71]; exact hb) hs (by rw [k71]; exact hin) hpw (by rw [k4, k71]; exact hmem) (fun x' lv h => ?_)
  exact z_iretM (pc := 260) (g0 := g) hO3 (fun H h => hP2 _ _ (hP3 _ _ h)) (hS3.trans hS2) hr hQ rfl dL_areCompletions_260 ⟨rfl, fun a a2 a3 h2 => (h a a2 a3 h2).trans (hfr a a2 a3 h2)⟩
/-! what holds at each turn of the law -/
def LV (x : Me) : Prop := HS x ∧ x 0 5 = 2 ∧ (x 10 1 = 3 ∧ x 11 1 = 4) ∧ Rt 3 (nc x 0) ∧ Rt 4 (nc x 1)
def qn (q : Nat) (n : Int) : Prop := (q = 0 ∧ n = 3) ∨ (q = 1 ∧ n = 4)
def chb (n ch b : Int) : Prop := (ch = 0 ∧ 0 ≤ b ∧ b ≤ 3) ∨ (ch = 1 ∧ 0 ≤ b ∧ b ≤ 1) ∨ (ch = 5 ∧ n = 4 ∧ 0 ≤ b ∧ b ≤ 3) ∨ (ch = 2 ∧ b = n * n + 1)
theorem LV_q {x : Me} {q : Nat} {n : Int} (h : LV x) (hq : qn q n) : x (10 + q) 1 = n ∧ Rt n (nc x q) ∧ (q : Int) < x 0 5 ∧ q < 2 ∧ (n = 3 ∨ n = 4) := by
  obtain ⟨h1, h2, h3, h4, h5⟩ := h
  rcases hq with ⟨rfl, rfl⟩ | ⟨rfl, rfl⟩
  · exact ⟨h3.1, h4, by omega, by decide, by omega⟩
  · exact ⟨h3.2, h5, by omega, by decide, by omega⟩
theorem LV_ok {x : Me} {q : Nat} {n ch b : Int} (h : LV x) (hq : qn q n) (hc : chb n ch b) : (0 ≤ (q : Int) ∧ (q : Int) < x 0 5) ∧ ((0 ≤ ch ∧ ch ≤ 5) ∧ 0 ≤ b ∧ b ≤ mby ch (x (10 + q) 1)) ∧ (ch = 2 → ∀ p, 0 ≤ p → p < x (10 + q) 1 * x (10 + q) 1 → nc x q p = 0 ∨ (1 ≤ b - nc x q p ∧ b - nc x q p ≤ 999)) := by
  obtain ⟨l1, l2, l3, l4, l5⟩ := LV_q h hq
  have h34 := n34 l5
  rw [l1]
  have hm := mby_r (ch := ch) (n := n) h34.2.2.1
  refine ⟨⟨by omega, l3⟩, ?_, fun e p p0 p1 => Or.inr ?_⟩
  · rcases hc with ⟨rfl, c0, c1⟩ | ⟨rfl, c0, c1⟩ | ⟨rfl, c2, c0, c1⟩ | ⟨rfl, c0⟩
    · have := hm.1 rfl; omega
    · have := hm.2.1 rfl; omega
    · have := hm.2.2.2.1 (by decide) (by decide) (by decide); omega
    · have := hm.2.2.1 rfl; omega
  · have hp := l2.2.1.1 p p0 p1
    rcases hc with ⟨c, -⟩ | ⟨c, -⟩ | ⟨c, -⟩ | ⟨c, c0⟩ <;> omega
theorem cha_out {n ch b p : Int} {f : Int → Int} (h : ¬ (0 ≤ p ∧ p < n * n)) : cha n f ch b p = f p := by
  unfold cha cpf mvf
  split <;> exact if_neg h
theorem LV_of {x y : Me} {q : Nat} {n : Int} (h : LV x) (hq : qn q n) (hR : Rt n (nc y q)) (ho : ∀ p, n * n ≤ p → p < 81 → 0 ≤ y (20 + q) p ∧ y (20 + q) p ≤ 999) (hf : ∀ a, a ≠ 20 + q → a ≠ 2 → a ≠ 3 → (a < 18 ∨ (18 < a ∧ a < 28)) → y a = x a) : LV y := by
  have hq2 := LV_q h hq
  obtain ⟨h1, h2, h3, h4, h5⟩ := h
  have e0 : y 0 = x 0 := hf 0 (by omega) (by omega) (by omega) (by omega)
  have h34 := n34 hq2.2.2.2.2
  refine ⟨⟨by rw [e0]; exact h1.1, fun r hr => ?_⟩, by rw [e0]; exact h2, ⟨by rw [hf 10 (by omega) (by omega) (by omega) (by omega)]; exact h3.1, by rw [hf 11 (by omega) (by omega) (by omega) (by omega)]; exact h3.2⟩, ?_⟩
  · rw [e0] at hr
    obtain ⟨f1, f2, f3⟩ := h1.2 r hr
    refine ⟨f1, by rw [hf (10 + r) (by omega) (by omega) (by omega) (by omega)]; exact f2, fun p p0 p1 => ?_⟩
    by_cases e : r = q
    · subst e
      by_cases w : p < n * n
      · have h9 := hR.2.1.1 p p0 w
        rw [nc_in ⟨p0, p1⟩] at h9
        omega
      · exact ho p (by omega) p1
    · rw [hf (20 + r) (by omega) (by omega) (by omega) (by omega)]; exact f3 p p0 p1
  · rcases hq with ⟨rfl, rfl⟩ | ⟨rfl, rfl⟩
    · exact ⟨hR, by rw [nc_of2 (hf (20 + 1) (by decide) (by decide) (by decide) (by decide))]; exact h5⟩
    · exact ⟨by rw [nc_of2 (hf (20 + 0) (by decide) (by decide) (by decide) (by decide))]; exact h4, hR⟩
theorem LV_ch {x y : Me} {q : Nat} {n ch b z w : Int} (h : LV x) (hq : qn q n) (hc : chb n ch b) (H : z = w ∧ nc y q = cha (x (10 + q) 1) (nc x q) ch b ∧ ∀ a, a ≠ 20 + q → a ≠ 10 + 8 → a ≠ 20 + 8 → y a = x a) : LV y := by
  obtain ⟨-, H2, H3⟩ := H
  obtain ⟨l1, l2, l3, l4, l5⟩ := LV_q h hq
  rw [l1] at H2
  have h34 := n34 l5
  refine LV_of h hq (by rw [H2]; exact rt_cha l2 hc) (fun p p0 p1 => ?_) (fun a a1 _ _ a2 => H3 a a1 (by omega) (by omega))
  have e : nc y q p = nc x q p := by rw [H2, cha_out (by omega)]
  rw [nc_in (by omega), nc_in (by omega)] at e
  rw [e]
  exact (h.1.2 q l3).2.2 p (by omega) p1
theorem LV_fr {x y : Me} (h : LV x) (hf : ∀ a, a ≠ 71 → y a = x a) : LV y ∧ ∀ q, q < 2 → nc y q = nc x q := by
  have e : ∀ q, q < 9 → nc y q = nc x q := fun q hq => nc_of2 (hf (20 + q) (by omega))
  refine ⟨LV_of (q := 0) (n := 3) h (Or.inl ⟨rfl, rfl⟩) (by rw [e 0 (by decide)]; exact h.2.2.2.1) (fun p p0 p1 => ?_) (fun a _ _ _ a2 => hf a (by omega)), fun q hq => e q (by omega)⟩
  rw [hf (20 + 0) (by decide)]
  have h2 := h.2.1
  exact (h.1.2 0 (by omega)).2.2 p (by omega) p1
theorem at_eq {y x : Me} {q : Nat} {n i : Int} (h1 : nc y q = nc x q) (h2 : y (10 + q) 1 = n) (hn : n = 3 ∨ n = 4) : nc y q (y (10 + q) 1 * (i / n) + i % n) = nc x q i := by
  rw [h2, h1]
  congr 1
  rcases hn with rfl | rfl <;> omega
theorem put_eq {u m : Me} {q : Nat} {n c v : Int} (h : m = up u (20 + q) (u (10 + q) 1 * (c / n) + c % n) v) (h2 : u (10 + q) 1 = n) (hn : n = 3 ∨ n = 4) : m = up u (20 + q) c v := by
  rw [h, h2]
  congr 1
  rcases hn with rfl | rfl <;> omega
theorem put_S {u m : Me} {q : Nat} {c v : Int} (hS : HS u) (hm : m = up u (20 + q) c v) (hv : 0 ≤ v ∧ v ≤ 999) : HS m := by
  have e0 : m 0 = u 0 := by rw [hm, up_i _ _ _ (by omega)]
  refine ⟨by rw [e0]; exact hS.1, fun r hr => ?_⟩
  rw [e0] at hr
  obtain ⟨f1, f2, f3⟩ := hS.2 r hr
  refine ⟨f1, ?_, fun p p0 p1 => ?_⟩
  · by_cases e : 10 + r = 20 + q
    · omega
    · rw [hm, up_i _ _ _ e]; exact f2
  · by_cases e : 20 + r = 20 + q ∧ p = c
    · rw [hm, e.1, e.2, up_s]; exact hv
    · rw [hm, up_n _ _ e]; exact f3 p p0 p1
theorem ncu_p {u m : Me} {q : Nat} {c v p : Int} (hm : m = up u (20 + q) c v) (hc : 0 ≤ c ∧ c < 81) : nc m q p = if p = c then v else nc u q p := by
  unfold nc
  by_cases e : p = c
  · subst e
    rw [if_pos hc, if_pos rfl, hm, up_s]
  · rw [if_neg e, hm, up_n _ _ (by omega)]
theorem em_step {u m : Me} {q : Nat} {c s N : Int} {W : Int → Int} (hm : m = up u (20 + q) c 0) (hc : 0 ≤ c ∧ c < 81) (h : ∀ p, 0 ≤ p → p < N → (tb s p ∧ nc u q p = 0) ∨ (¬ tb s p ∧ nc u q p = W p)) : ∀ p, 0 ≤ p → p < N → (tb (bor s (p2 c)) p ∧ nc m q p = 0) ∨ (¬ tb (bor s (p2 c)) p ∧ nc m q p = W p) := by
  intro p p0 p1
  rw [ncu_p hm hc, tb_or hc.1 p0]
  by_cases e : p = c
  · rw [if_pos e]; exact Or.inl ⟨Or.inr e, rfl⟩
  · rw [if_neg e]
    rcases h p p0 p1 with ⟨a, b⟩ | ⟨a, b⟩
    · exact Or.inl ⟨Or.inl a, b⟩
    · exact Or.inr ⟨fun w => w.elim a e, b⟩
theorem cnt_up {u m : Me} {q : Nat} {c n : Int} (hm : m = up u (20 + q) c 0) (hc : 0 ≤ c ∧ c < n * n) (h81 : n * n ≤ 81) : cnt n (nc m q) 0 ≤ cnt n (nc u q) 0 + 1 := by
  unfold cnt
  rw [sm_at (F := fun p => if nc u q p = 0 then 1 else 0) (F' := fun p => if nc m q p = 0 then 1 else 0) (p := c) (by omega) (fun a ha => by rw [ncu_p hm (by omega), if_neg ha])]
  split <;> split <;> omega
theorem bk_step {u m : Me} {q : Nat} {c : Int} {W : Int → Int} (hm : m = up u (20 + q) c (W c)) (hc : 0 ≤ c ∧ c < 81) (h : ∀ p, 0 ≤ p → p < c → nc u q p = W p) : ∀ p, 0 ≤ p → p < c + 1 → nc m q p = W p := by
  intro p p0 p1
  rw [ncu_p hm hc]
  by_cases e : p = c
  · rw [if_pos e, e]
  · rw [if_neg e]; exact h p p0 (by omega)
theorem cgt_one {n : Int} {f : Int → Int} {p : Int} (hR : Rt n f) (hp : 0 ≤ p ∧ p < n * n) : cgt n f 0 p = f p := by
  rw [cgt_get (cpl_one hR).symm (by simp)]
  show tk f (n * n) p = f p
  exact tk_in hp
theorem HS_c {x y : Me} (hS : HS x) (h : ∀ a, a < 30 ∨ 36 < a → y a = x a) : HS y := by
  have e0 : y 0 = x 0 := h 0 (by omega)
  refine ⟨by rw [e0]; exact hS.1, fun r hr => ?_⟩
  rw [e0] at hr
  obtain ⟨f1, f2, f3⟩ := hS.2 r hr
  exact ⟨f1, by rw [h (10 + r) (by omega)]; exact f2, fun p p0 p1 => by rw [h (20 + r) (by omega)]; exact f3 p p0 p1⟩
theorem HS_23 {x y : Me} (hS : HS x) (h : ∀ a, a ≠ 2 → a ≠ 3 → (a < 30 ∨ 36 < a) → y a = x a) : HS y := by
  have e0 : y 0 = x 0 := h 0 (by omega) (by omega) (by omega)
  refine ⟨by rw [e0]; exact hS.1, fun r hr => ?_⟩
  rw [e0] at hr
  obtain ⟨f1, f2, f3⟩ := hS.2 r hr
  exact ⟨f1, by rw [h (10 + r) (by omega) (by omega) (by omega)]; exact f2, fun p p0 p1 => by rw [h (20 + r) (by omega) (by omega) (by omega)]; exact f3 p p0 p1⟩
