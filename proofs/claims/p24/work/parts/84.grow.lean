/-! rows that a helper of the law makes: the pool grows by one cell -/
theorem we_c {D : va_G} {C : Nat → ClassId} {a a2 : Nat → Nat} {s t s2 t2 : Nat} (h : ∀ j, j ≠ 2 → j ≠ 3 → a2 j = a j) (i : Nat) (f : Int → Int) : we (D, a2, C, s2, t2) i f = we (D, a, C, s, t) i f := by
  have eF : (fun k => some (a2 (10 + k))) = fun k => some (a (10 + k)) := funext fun k => by rw [h (10 + k) (by omega) (by omega)]
  have eR : (fun k => some (a2 (100 + k))) = fun k => some (a (100 + k)) := funext fun k => by rw [h (100 + k) (by omega) (by omega)]
  unfold we ai az aq
  dsimp only [gA, gC]
  rw [eF, eR]
  by_cases h10 : i < 10
  · rw [if_pos h10, if_pos h10, h 1 (by decide) (by decide), h 18 (by decide) (by decide), h 30 (by decide) (by decide), h 40 (by decide) (by decide), h 42 (by decide) (by decide)]
  · rw [if_neg h10, if_neg h10]
    rw [h (i + 10) (by omega) (by omega), h 31 (by decide) (by decide), h 32 (by decide) (by decide), h 33 (by decide) (by decide), h 34 (by decide) (by decide), h 35 (by decide) (by decide), h 36 (by decide) (by decide), h 41 (by decide) (by decide), h 43 (by decide) (by decide), h 44 (by decide) (by decide), h 45 (by decide) (by decide)]
theorem dlM_s : ∀ t, t < 2 → dlM.take (72 + (t + 1)) = dlM.take (72 + t) ++ [2 + t] := by decide +kernel
theorem dlM_n : ∀ t, t < 2 → 2 + t ∉ dlM.take (72 + t) := by decide +kernel
theorem wl_grow {D : va_G} {C : Nat → ClassId} {a : Nat → Nat} {s t q : Nat} (ht : t < 2) (x : Me) (f : Int → Int) : wl (D, (fun i => if i = 2 + t then q else a i), C, s, t + 1) (fun i => if i = 2 + t then f else x i) = wl (D, a, C, s, t) x ++ [(q, ai (D, a, C, s, t) f 16)] := by
  show (dlM.take (72 + (t + 1))).map _ = (dlM.take (72 + t)).map _ ++ _
  rw [dlM_s t ht, List.map_append]
  congr 1
  · refine List.map_congr_left (fun i hi => ?_)
    have hne : i ≠ 2 + t := fun e => dlM_n t ht (e ▸ hi)
    show ((if i = 2 + t then q else a i), we _ i (if i = 2 + t then f else x i)) = (a i, we _ i (x i))
    rw [if_neg hne, if_neg hne]
    congr 1
    exact we_c (fun j h2 h3 => if_neg (by omega)) i (x i)
  · show [((if 2 + t = 2 + t then q else a (2 + t)), we _ (2 + t) (if 2 + t = 2 + t then f else x (2 + t)))] = _
    rw [if_pos rfl, if_pos rfl]
    have e : t = 0 ∨ t = 1 := by omega
    rcases e with rfl | rfl <;> rfl
theorem wl_G {g : Gl} {x : Me} {A : Nat → Prop} (hA : ∀ q, A q → gS g ≤ q) (hD : va_D A (wl g x)) : pw_G g := by
  refine ⟨fun i hi j hj he => ?_, fun i hi => ?_⟩
  · obtain ⟨a, ha, ha2⟩ := wl_at (x := x) hi
    obtain ⟨c, hc, hc2⟩ := wl_at (x := x) hj
    have h := hD.1 a c _ _ ha hc he
    subst h
    exact Option.some.inj (ha2.symm.trans hc2)
  · obtain ⟨a, ha, -⟩ := wl_at (x := x) hi
    exact hA _ (hD.2 a _ ha)
section Grow
variable {Γ : Gam} {g : Gl} {cc : ByteArray} {own : String} {nL k n F Lc kc ns pc : Nat} {x : Me} {lv : List (Nat × Value)} {st : List Value}
theorem z_new16 (t : Nat) (ht : t < 2) (hX : gX g = t) (hO : Ok Γ g cc nL own F Lc kc ns) (d : decode cc pc = .ok (.newarray .int, 2)) (hk : k + 1 ≤ kc) (hs : n + 16 ≤ ns)
    (kk : ∀ g2 : Gl, gX g2 = t + 1 → (∀ i, i ≠ 2 + t → gA g2 i = gA g i) → gS g2 = gS g → (∀ (y : Me) (H : Heap), pw_P g2 y H → pw_P g y H) → Ok Γ g2 cc nL own F Lc kc ns → ∀ x2 : Me, (∀ i, i ≠ 2 + t → x2 i = x i) → Zz Γ g2 nL (k + 1) (n + 16) x2 (pc + 2) lv (.ref (gA g2 (2 + t)) :: st)) : Zz Γ g nL k n x pc lv (.int (zi 16) :: st) := by
  intro H locs ls hP hS hv
  obtain ⟨D, a, C, s, t'⟩ := g
  have hX : t' = t := hX
  subst hX
  refine va_newa (atype := .int) (ty := .int) (N' := 16) (a0 := (16, .inl (fun _ => zi 0))) (okx hO) (okb hO) (okw hO _ wao_i) rfl (okk hO) hP (wl_D (okg hO) x) hS (okA hO) (fun cA => rfl) (zi_nn ⟨by omega, by omega⟩) (by rw [zi_clamp (by omega)]; rfl) (by show 16 * 4 ≤ _; omega) (by rw [okr hO]; exact hk) (by rw [okr hO]; exact hs) d (fun q cA H1 hK1 hP1 hD1 hS1 => ?_)
  obtain rfl := tys_at (t := 0) (okk hO) hK1 rfl
  have hw := wl_grow (D := D) (C := C) (a := a) (s := s) (q := q) ht x (fun _ => 0)
  have hD2 : va_D (pA (D, a, C, s, t')) (wl (D, (fun i => if i = 2 + t' then q else a i), C, s, t' + 1) (fun i => if i = 2 + t' then (fun _ => 0) else x i)) := by rw [hw]; exact hD1
  have hG : pw_G (D, (fun i => if i = 2 + t' then q else a i), C, s, t' + 1) := wl_G (fun _ h => h) hD2
  have hP2 : pw_P (D, (fun i => if i = 2 + t' then q else a i), C, s, t' + 1) (fun i => if i = 2 + t' then (fun _ => 0) else x i) H1 := by
    unfold pw_P
    rw [hw]
    exact hP1
  obtain ⟨o1, o2, o3, o4, o5, o6, o7, o8, o9, o10, o11⟩ := id hO
  have h := kk (D, (fun i => if i = 2 + t' then q else a i), C, s, t' + 1) rfl (fun i hi => if_neg hi) rfl (fun y H' h => ?_) ⟨o1, o2, o3, o4, o5, o6, o7, o8, o9, hG, o11⟩ (fun i => if i = 2 + t' then (fun _ => 0) else x i) (fun i hi => if_neg hi) H1 locs ls hP2 hS1 hv
  · rw [show gA (D, (fun i => if i = 2 + t' then q else a i), C, s, t' + 1) (2 + t') = q from if_pos rfl] at h
    exact h
  · have hw2 := wl_grow (D := D) (C := C) (a := a) (s := s) (q := q) ht y (y (2 + t'))
    rw [show (fun i => if i = 2 + t' then y (2 + t') else y i) = y from funext fun i => by
      by_cases e : i = 2 + t'
      · rw [if_pos e, e]
      · rw [if_neg e]] at hw2
    intro j e he
    refine h j e ?_
    rw [hw2, List.getElem?_append_left (List.getElem?_eq_some_iff.mp he).1]
    exact he
/-! a helper that makes cells -/
def cmQ (l : Launch) (g : Gl) (y : MethodName) (cc : ByteArray) (nL : Nat) (rt : Option FieldType) (F Lc mc ms : Nat) (av : List Value) (x : Me) (Qc : Qt) : Prop :=
  Met l y (.code y cc nL rt :: wsU) (rmm F Lc mc ms) (va_Pc av (pw_U g x)) Qc mc ms (pA g)
theorem cm_start {l : Launch} {y : MethodName} {rt : Option FieldType} {av : List Value} {Qc : Qt} {mc ms : Nat} (hy : plainFor y = true) (hown : y.cls = own) (hav : (lg_sl av).length ≤ nL) (hl : lv_args 0 av = lv)
    (body : ∀ Γ : Gam, qL Γ = l → Ok Γ g cc nL own F Lc mc ms → (qm Γ).sig.returnType = rt → qQ Γ = MQ (qb Γ) Qc (qa Γ) (qS Γ) mc ms (pA g) → Zz Γ g nL 0 0 x 0 lv []) : cmQ l g y cc nL rt F Lc mc ms av x Qc := by
  refine ofWF (cc := cc) (maxL := nL) (ret := rt) hy rfl ?_
  intro p e s m args below meth c s₁ B hml hv
  obtain ⟨rfl, hU⟩ := hv
  have hO := ok_start (g := g) (x := x) (own := own) (Q := MQ below Qc av.toArray s mc ms (pA g)) hown B hml hU
  have hb := body _ rfl hO B.returns rfl s.heap [] _ hU.1 va_S.rf (by rw [← hl]; exact lv_entry av (n := nL) hav)
  rw [lg_entry_eq]
  exact hb
theorem z_iretM {g0 : Gl} (hO : Ok Γ g cc nL own F Lc kc ns) (hp : ∀ H, pw_P g x H → pw_P g0 x H) (hg : gS g = gS g0) {rt : FieldType} {post : Int → Me → Prop} {z : Int} (hr : (qm Γ).sig.returnType = some rt) (hQ : qQ Γ = MQ (qb Γ) (QIu g0 post) (qa Γ) (qS Γ) k n (pA g0)) (hn : narrow rt (.int (zi z)) = .int (zi z)) (d : decode cc pc = .ok (.ireturn, 1)) (h : post z x) : Zz Γ g nL k n x pc lv [.int (zi z)] := by
  have hA : pA g = pA g0 := by unfold pA; rw [hg]
  intro H locs ls hP hS hv
  rw [hQ]
  rw [hA] at hS
  exact W.zret (okx hO) (okb hO) hr hn (fun t ht hW => ⟨⟨zi z, x, rfl, ⟨z, rfl, h⟩, (pw_at ht (hp _ hP))⟩, hS.F ht⟩) hS.2.2 d (okl hO)
theorem z_mcallSI (hO : Ok Γ g cc nL own F Lc kc ns) {index nY na F' Lc' mc ms : Nat} {y : MethodName} {cy : ByteArray} {rt : FieldType} {post : Int → Me → Prop} {As : List Value} (hM : cmQ (qL Γ) g y cy nY (some rt) F' Lc' mc ms As x (QIu g post)) (hk : lkS own index y cy nY (some rt) na) (hn : As.length = na) (hcat : (st.map fun v => v.category).sum ≤ 8) (hF : F' + 1 ≤ F) (hLl : 8 + (nY + 11) + Lc' ≤ Lc) (hc : k + mc ≤ kc ∧ n + ms ≤ ns) (d : decode cc pc = .ok (.invokestatic index, 3))
    (kk : ∀ (z : Int) (x' : Me), post z x' → Zz Γ g nL (k + mc) (n + ms) x' (pc + 3) lv (.int (zi z) :: st)) : Zz Γ g nL k n x pc lv (As.reverse ++ st) := by
  intro H locs ls hP hS hv
  have hr := va_runS (p := qP Γ) (l := qL Γ) (e := qE Γ) (R := qR Γ) (below := qb Γ) (meth := qm Γ) (locs := locs) (cells := k) (slots := n) (As := As) (rest := st) (g := F0 (qM Γ) pc ls (As.reverse ++ st)) ⟨okx hO, okb hO, okm hO, oko hO, okw hO⟩ hM (va_cwS na (okw hO) hk.1 rfl rfl rfl hk.2 ⟨by rw [okr hO]; exact hF, by rw [okr hO]; exact hLl⟩) (pre_S hO hP hS) rfl hn hv.1 rfl (lv_room hcat) d (by rw [okr hO]; exact hc)
  refine va_calli hr hS pAf (fun _ h => h) (fun r u t H1 locs1 ht hvm hw hB hz1 hk1 hS1 => by obtain ⟨z, rfl, hz⟩ := hw; exact kk z u hz H1 locs1 ls (pw_to ht hB) hS1 hv)
/-! a helper that reads the script -/
def pw_UB (g : Gl) (x : Me) (b L : Nat) (xs : Nat → Int32) (U : State) : Prop := pw_U g x U ∧ va_X b L xs U U.heap
theorem pw_UB_blind (g : Gl) (x : Me) (b L : Nat) (xs : Nat → Int32) (av : List Value) : FrameBlind (va_Pc av (pw_UB g x b L xs)) := by
  intro a U f mk h
  obtain ⟨h0, h1, h2⟩ := h
  obtain ⟨q0, q1⟩ := pw_U_blind g x av a U f mk ⟨h0, h1⟩
  exact ⟨q0, q1, va_X.moved (u := U) (U := U.calling f mk a) (Vm.Alike.refl U.vm) h2⟩
def ctB (l : Launch) (g : Gl) (y : MethodName) (cc : ByteArray) (nL F Lc : Nat) (av : List Value) (x : Me) (b L : Nat) (xs : Nat → Int32) (Qc : Qt) : Prop :=
  Met l y (.code y cc nL (some .int) :: wsU) (rmm F Lc 0 0) (va_Pc av (pw_UB g x b L xs)) Qc 0 0 (pA g)
theorem cb_start {l : Launch} {y : MethodName} {av : List Value} {Qc : Qt} {b L : Nat} {xs : Nat → Int32} (hy : plainFor y = true) (hown : y.cls = own) (hav : (lg_sl av).length ≤ nL) (hl : lv_args 0 av = lv)
    (body : ∀ Γ : Gam, qL Γ = l → Ok Γ g cc nL own F Lc 0 0 → (qm Γ).sig.returnType = some .int → qQ Γ = MQ (qb Γ) Qc (qa Γ) (qS Γ) 0 0 (pA g) → va_X b L xs (qS Γ) (qS Γ).heap → Zz Γ g nL 0 0 x 0 lv []) : ctB l g y cc nL F Lc av x b L xs Qc := by
  refine ofWF (cc := cc) (maxL := nL) (ret := some .int) hy rfl ?_
  intro p e s m args below meth c s₁ B hml hv
  obtain ⟨rfl, hU, hX⟩ := hv
  have hO := ok_start (g := g) (x := x) (own := own) (Q := MQ below Qc av.toArray s 0 0 (pA g)) hown B hml hU
  have hb := body _ rfl hO B.returns rfl hX s.heap [] _ hU.1 va_S.rf (by rw [← hl]; exact lv_entry av (n := nL) hav)
  rw [lg_entry_eq]
  exact hb
theorem z_slen (hO : Ok Γ g cc nL own F Lc kc ns) {b L : Nat} {xs : Nat → Int32} (hX : va_X b L xs (qS Γ) (qS Γ).heap) (hb : b < gS g) (d : decode cc pc = .ok (.arraylength, 1)) (kk : Zz Γ g nL k n x (pc + 1) lv (.int (zi L) :: st)) : Zz Γ g nL k n x pc lv (.ref b :: st) := fun H locs ls hP hS hv =>
  va_slen (okx hO) (okb hO) hX (Nat.lt_of_lt_of_le hb (oks hO)) (fun h => absurd hb (Nat.not_lt.mpr h)) hS d (kk H locs ls hP hS hv)
theorem z_sld (hO : Ok Γ g cc nL own F Lc kc ns) {b L : Nat} {xs : Nat → Int32} (hX : va_X b L xs (qS Γ) (qS Γ).heap) (hb : b < gS g) {j : Int} (hj : 0 ≤ j ∧ j < L) (hL : L < 2147483648) (d : decode cc pc = .ok (.iaload, 1)) (kk : Zz Γ g nL k n x (pc + 1) lv (.int (zi (xs j.toNat).toInt) :: st)) : Zz Γ g nL k n x pc lv (.int (zi j) :: .ref b :: st) := fun H locs ls hP hS hv => by
  refine va_sld (okx hO) (okb hO) hX (Nat.lt_of_lt_of_le hb (oks hO)) (fun h => absurd hb (Nat.not_lt.mpr h)) hS (zi_in hj hL) d ?_
  rw [zi_clamp (by omega)]
  have h := kk H locs ls hP hS hv
  rw [zi_all] at h
  exact h
end Grow
theorem and31 (v : Int32) : 0 ≤ (v &&& zi 2147483647).toInt := by
  have e2 : (v &&& zi 2147483647).toInt < 0 ↔ (v &&& zi 2147483647).toBitVec.msb = true := by
    rw [← Int32.toInt_toBitVec, BitVec.toInt_neg_iff, BitVec.msb_eq_true_iff_two_mul_ge]
  have e3 : (v &&& zi 2147483647).toBitVec.msb = false := by
    rw [Int32.toBitVec_and, BitVec.msb_and, show (zi 2147483647).toBitVec.msb = false from by decide, Bool.and_false]
  apply Int.not_lt.mp
  intro q
  rw [e2, e3] at q
  cases q
theorem c_L_told (l : Launch) (g : Gl) (x : Me) (b L : Nat) (xs : Nat → Int32) (j : Int) (hb : b < gS g) (hL : L ≤ 260) (hj : 0 ≤ j ∧ j ≤ 100) : ctB l g yL_told cL_told 2 1 20 [.ref b, .int (zi j)] x b L xs (QIu g (fun z x' => (0 ≤ z ∧ z < 2147483648) ∧ x' = x)) := by
  refine cb_start (own := RL) (lv := [(0, .ref b), (1, .int (zi j))]) (plainFor_of_name (by decide)) rfl (Nat.le_of_ble_eq_true rfl) rfl ?_
  intro Γ hΓ hO hr hQ hX
  have J : ∀ z : Int, Zz Γ g 2 0 0 x 23 [(0, .ref b), (1, .int (zi j))] [.int (zi z)] := by
    intro z
    refine z_ldc (pc := 23) hO n_L_8 dL_told_23 ?_
    refine z_iand (pc := 25) hO (zi ((zi z &&& zi 2147483647).toInt)) dL_told_25 (zi_all _).symm ?_
    exact z_iret (pc := 26) hO hr hQ rfl dL_told_26 ⟨⟨and31 _, (zi_rng _).2⟩, rfl⟩
  refine z_iload_n (pc := 0) hO 1 dL_told_0 rfl rfl ?_
  refine z_aload_n (pc := 1) hO 0 dL_told_1 rfl rfl ?_
  refine z_slen (pc := 2) hO hX hb dL_told_2 ?_
  refine z_icmp_ge (pc := 3) hO (tgt := 12) dL_told_3 (by decide) (by omega) (by omega) (fun h => ?_) (fun h => ?_)
  · refine z_ldc (pc := 12) hO n_L_7 dL_told_12 ?_
    refine z_iload_n (pc := 14) hO 1 dL_told_14 rfl rfl ?_
    refine z_iconst (pc := 15) hO dL_told_15 ?_
    refine z_iadd (pc := 16) hO dL_told_16 ?_
    refine z_imul (pc := 17) hO dL_told_17 ?_
    refine z_iload_n (pc := 18) hO 1 dL_told_18 rfl rfl ?_
    refine z_bipush (pc := 19) hO dL_told_19 (by decide) ?_
    refine z_iadd (pc := 21) hO dL_told_21 ?_
    refine z_imul (pc := 22) hO dL_told_22 ?_
    exact J _
  · refine z_aload_n (pc := 6) hO 0 dL_told_6 rfl rfl ?_
    refine z_iload_n (pc := 7) hO 1 dL_told_7 rfl rfl ?_
    refine z_sld (pc := 8) hO hX hb (by omega) (by omega) dL_told_8 ?_
    refine z_goto (pc := 9) hO (tgt := 23) dL_told_9 (by decide) ?_
    exact J _
theorem z_told {Γ : Gam} {g : Gl} {cc : ByteArray} {nL k n F Lc kc ns pc : Nat} {x : Me} {lv : List (Nat × Value)} {st : List Value} (hO : Ok Γ g cc nL RL F Lc kc ns) {b L index : Nat} {xs : Nat → Int32} (hX : va_X b L xs (qS Γ) (qS Γ).heap) (hb : b < gS g) (hL : L ≤ 260) {j : Int} (hj : 0 ≤ j ∧ j ≤ 100) (hk : lkS RL index yL_told cL_told 2 (some .int) 2) (hcat : (st.map fun v => v.category).sum ≤ 8) (hF : 2 ≤ F) (hLl : 41 ≤ Lc) (hc : k ≤ kc ∧ n ≤ ns) (d : decode cc pc = .ok (.invokestatic index, 3))
    (kk : ∀ v : Int, 0 ≤ v ∧ v < 2147483648 → Zz Γ g nL k n x (pc + 3) lv (.int (zi v) :: st)) : Zz Γ g nL k n x pc lv (.int (zi j) :: .ref b :: st) := by
  intro H locs ls hP hS hv
  have hbs : b < (qS Γ).heap.size := Nat.lt_of_lt_of_le hb (oks hO)
  have hnb : ¬ pA g b := fun h => absurd hb (Nat.not_lt.mpr h)
  have hpre : PreS (qS Γ) H (va_Pc [.ref b, .int (zi j)] (pw_UB g x b L xs)) [.ref b, .int (zi j)] := ⟨pw_UB_blind _ _ _ _ _ _, fun U hU hW => ⟨rfl, pw_end hO hP hS hU hW, by
    have h1 : va_X b L xs U (qS Γ).heap := va_X.moved hW.alike hX
    exact h1.kept (by rw [hU]; exact hS.2.1 b hbs hnb)⟩⟩
  have hr := va_runS (p := qP Γ) (l := qL Γ) (e := qE Γ) (R := qR Γ) (below := qb Γ) (meth := qm Γ) (locs := locs) (cells := k) (slots := n) (As := [.ref b, .int (zi j)]) (rest := st) (g := F0 (qM Γ) pc ls (.int (zi j) :: .ref b :: st)) ⟨okx hO, okb hO, okm hO, oko hO, okw hO⟩ (c_L_told (qL Γ) g x b L xs j hb hL hj) (va_cwS 2 (okw hO) hk.1 rfl rfl rfl hk.2 ⟨by rw [okr hO]; exact hF, by rw [okr hO]; show 8 + (2 + 11) + 20 ≤ Lc; omega⟩) hpre rfl rfl hv.1 rfl (lv_room hcat) d (by rw [okr hO]; exact hc)
  refine va_calli hr hS pAf (fun _ h => h) (fun r u t H1 locs1 ht hvm hw hB hz1 hk1 hS1 => by
    obtain ⟨z, rfl, hz, rfl⟩ := hw
    exact kk z hz H1 locs1 ls (pw_to ht hB) hS1 hv)
