/-! constructors: the world is a list, and grows -/
theorem woO : Cond.instanceMethod objectInit ∈ wsU := tb1 (i := 22) rfl rfl
theorem woC : Cond.code objectInit ⟨#[0xb1]⟩ 1 none ∈ wsU := tb1 (i := 23) rfl rfl
theorem wao_i : Cond.arrayClass .int ∈ wsU := tb1 (i := 38) rfl rfl
theorem wao_z : Cond.arrayClass .boolean ∈ wsU := tb1 (i := 88) rfl rfl
theorem wn_RX11 : Cond.instantiable RX11 6 ∈ wsU := tb1 (i := 17) rfl rfl
theorem wn_RX1 : Cond.instantiable RX1 2 ∈ wsU := tb1 (i := 26) rfl rfl
theorem wn_RX8 : Cond.instantiable RX8 14 ∈ wsU := tb1 (i := 40) rfl rfl
theorem wn_RX3 : Cond.instantiable RX3 1 ∈ wsU := tb1 (i := 90) rfl rfl
theorem wn_RX10 : Cond.instantiable RX10 5 ∈ wsU := tb1 (i := 100) rfl rfl
theorem wo_X11 : Cond.methodLink RX11 1 objectInit ∈ wsU := tb1 (i := 21) rfl rfl
theorem wo_X1 : Cond.methodLink RX1 3 objectInit ∈ wsU := tb1 (i := 30) rfl rfl
theorem wo_X8 : Cond.methodLink RX8 3 objectInit ∈ wsU := tb1 (i := 44) rfl rfl
theorem wo_X3 : Cond.methodLink RX3 1 objectInit ∈ wsU := tb1 (i := 94) rfl rfl
theorem wo_X10 : Cond.methodLink RX10 5 objectInit ∈ wsU := tb1 (i := 104) rfl rfl
def OkY (Γ : Gam) (g : Gl) (A : Nat → Prop) (cc : ByteArray) (nL : Nat) (own : String) (F Lc kc ns : Nat) : Prop :=
  (qP Γ).tables.exec = Jvm.exec ∧ (qc Γ).code = cc ∧ (qc Γ).maxLocals = nL ∧ (qS Γ).vm.findClass own = some (qM Γ).cls ∧ (∀ w ∈ wsU, w.before (qa Γ) (qS Γ) = true) ∧ va_K (gD g) vwCl (tys5 g) (qS Γ) ∧ (∀ q, (qS Γ).heap.size ≤ q → A q) ∧ qR Γ = rmm F Lc kc ns ∧ (qm Γ).locks = false ∧ va_AO RX1 (qS Γ) ∧ va_AOA .int (qS Γ)
def Yy (Γ : Gam) (g : Gl) (A : Nat → Prop) (nL k n : Nat) (ws : va_W) (pc : Nat) (lv : List (Nat × Value)) (st : List Value) : Prop :=
  ∀ (H : Heap) (locs : List Loc) (ls : Array Slot), va_P (gD g) vwCl ws H → va_D A ws → va_S A (qS Γ).heap H locs → lv_has ls nL lv → W (qP Γ) (qL Γ) (qE Γ) (qR Γ) (qS Γ) (qM Γ) (qa Γ) (qb Γ) (qm Γ) (qc Γ) H locs k n (qQ Γ) (F0 (qM Γ) pc ls st)
theorem tys_at {g : Gl} {U : State} {t : Nat} {ty : FieldType} {cA : ClassId} (h : va_K (gD g) vwCl (tys5 g) U) (h5 : va_K (gD g) vwCl (tys5 g ++ [(cA, ty)]) U) (ht : (tys5 g)[t]? = some (gC g t, ty)) : cA = gC g t := by
  have h1 := (h.2 t _ ht).2
  have h2 := (h5.2 5 (cA, ty) rfl).2
  unfold va_RA at h1 h2
  cases ty with
  | object C =>
    obtain ⟨_, _, _, _, _, q1⟩ := h1
    obtain ⟨_, _, _, _, _, q2⟩ := h2
    exact Option.some.inj (q2.symm.trans q1)
  | _ => exact Option.some.inj (h2.symm.trans h1)
theorem arrV_ext {c : ClassId} {N : Nat} {f f' : Nat → Value} (h : ∀ j, j < N → f j = f' j) : arrV c N f = arrV c N f' := by
  unfold arrV
  congr 1
  refine congrArg Array.ofFn (funext fun j => ?_)
  exact h j.1 j.2
theorem zi_nn {a : Int} (h : 0 ≤ a ∧ a < 2147483648) : ¬ zi a < 0 := by
  intro q
  have h0 : (0 : Int32) = zi 0 := rfl
  rw [h0] at q
  have := (zi_lt (a := a) (b := 0) (by omega) (by decide)).mp q
  omega
theorem innerV (c : ClassId) (M : Nat) : Jvm.Free.Multi.innerC c M (defaultValue .int) = vp_cell c (M, .inl (fun _ => zi 0)) := by
  show ({ cls := c, slots := Array.replicate M (.int 0), vm := .none } : Cell) = _
  rw [arrV_new]; rfl
theorem pl_rows {N : Nat} {r : Nat → Nat} {f : Nat → va_E} {e : va_E} : va_pl ([] ++ (List.range N).map r) (vr_up f ((List.range N).map r) e) = (List.range N).map (fun i => (r i, e)) := by
  unfold va_pl
  rw [List.nil_append, List.map_map]
  apply List.map_congr_left
  intro a ha
  show (r a, vr_up f ((List.range N).map r) e (r a)) = (r a, e)
  rw [vr_up_in (List.mem_map.mpr ⟨a, ha, rfl⟩)]
section Yrows
variable {Γ : Gam} {g : Gl} {A : Nat → Prop} {cc : ByteArray} {own : String} {nL k n F Lc kc ns pc : Nat} {ws : va_W} {lv : List (Nat × Value)} {st : List Value}
theorem ykx (h : OkY Γ g A cc nL own F Lc kc ns) : (qP Γ).tables.exec = Jvm.exec := h.1
theorem ykb (h : OkY Γ g A cc nL own F Lc kc ns) : (qc Γ).code = cc := h.2.1
theorem ykm (h : OkY Γ g A cc nL own F Lc kc ns) : (qc Γ).maxLocals = nL := h.2.2.1
theorem yko (h : OkY Γ g A cc nL own F Lc kc ns) : (qS Γ).vm.findClass own = some (qM Γ).cls := h.2.2.2.1
theorem ykw (h : OkY Γ g A cc nL own F Lc kc ns) : ∀ w ∈ wsU, w.before (qa Γ) (qS Γ) = true := h.2.2.2.2.1
theorem ykk (h : OkY Γ g A cc nL own F Lc kc ns) : va_K (gD g) vwCl (tys5 g) (qS Γ) := h.2.2.2.2.2.1
theorem yka (h : OkY Γ g A cc nL own F Lc kc ns) : ∀ q, (qS Γ).heap.size ≤ q → A q := h.2.2.2.2.2.2.1
theorem ykr (h : OkY Γ g A cc nL own F Lc kc ns) : qR Γ = rmm F Lc kc ns := h.2.2.2.2.2.2.2.1
theorem ykl (h : OkY Γ g A cc nL own F Lc kc ns) : (qm Γ).locks = false := h.2.2.2.2.2.2.2.2.1
theorem ykf (h : OkY Γ g A cc nL own F Lc kc ns) : va_AO RX1 (qS Γ) := h.2.2.2.2.2.2.2.2.2.1
theorem ykg (h : OkY Γ g A cc nL own F Lc kc ns) : va_AOA .int (qS Γ) := h.2.2.2.2.2.2.2.2.2.2
theorem y_iconst (hO : OkY Γ g A cc nL own F Lc kc ns) {c : Int} (d : decode cc pc = .ok (.iconst c, 1)) (kk : Yy Γ g A nL k n ws (pc + 1) lv (.int (zi c) :: st)) : Yy Γ g A nL k n ws pc lv st := fun H locs ls hP hD hS hv => lv_iconst (ykx hO) (ykb hO) d rfl (kk H locs ls hP hD hS hv)
theorem y_bipush (hO : OkY Γ g A cc nL own F Lc kc ns) {c : Int} (d : decode cc pc = .ok (.bipush c, 2)) (h : (Int8.ofInt c).toInt32 = zi c) (kk : Yy Γ g A nL k n ws (pc + 2) lv (.int (zi c) :: st)) : Yy Γ g A nL k n ws pc lv st := fun H locs ls hP hD hS hv => lv_bipush (ykx hO) (ykb hO) d h (kk H locs ls hP hD hS hv)
theorem y_sipush (hO : OkY Γ g A cc nL own F Lc kc ns) {c : Int} (d : decode cc pc = .ok (.sipush c, 3)) (h : (Int16.ofInt c).toInt32 = zi c) (kk : Yy Γ g A nL k n ws (pc + 3) lv (.int (zi c) :: st)) : Yy Γ g A nL k n ws pc lv st := fun H locs ls hP hD hS hv => lv_sipush (ykx hO) (ykb hO) d h (kk H locs ls hP hD hS hv)
theorem y_aload_n (hO : OkY Γ g A cc nL own F Lc kc ns) {j : Fin 4} {i : Nat} {v : Nat} (ix : Nat) (d : decode cc pc = .ok (.aload_n j, 1)) (hi : (j : Nat) = i) (hl : lv[ix]? = some (i, .ref v)) (kk : Yy Γ g A nL k n ws (pc + 1) lv (.ref v :: st)) : Yy Γ g A nL k n ws pc lv st := fun H locs ls hP hD hS hv => lv_aload_n (ykx hO) (ykb hO) d hi (lv_at hv ix hl) (kk H locs ls hP hD hS hv)
theorem y_iload_n (hO : OkY Γ g A cc nL own F Lc kc ns) {j : Fin 4} {i : Nat} {v : Int32} (ix : Nat) (d : decode cc pc = .ok (.iload_n j, 1)) (hi : (j : Nat) = i) (hl : lv[ix]? = some (i, .int v)) (kk : Yy Γ g A nL k n ws (pc + 1) lv (.int v :: st)) : Yy Γ g A nL k n ws pc lv st := fun H locs ls hP hD hS hv => lv_iload_n (ykx hO) (ykb hO) d hi (lv_at hv ix hl) (kk H locs ls hP hD hS hv)
theorem y_istore_n (hO : OkY Γ g A cc nL own F Lc kc ns) {j : Fin 4} {i : Nat} {v : Int32} {lv' : List (Nat × Value)} (d : decode cc pc = .ok (.istore_n j, 1)) (hi : (j : Nat) = i) (hn : i < nL) (hl : (i, Value.int v) :: lv.filter (fun q => !(q.1 == i) && !(q.1 + 1 == i && q.2.category == 2)) = lv') (kk : Yy Γ g A nL k n ws (pc + 1) lv' st) : Yy Γ g A nL k n ws pc lv (.int v :: st) := fun H locs ls hP hD hS hv => lv_istore_n (ykx hO) (ykb hO) d hi hv hn hl (fun ls' hv' => kk H locs ls' hP hD hS hv')
theorem y_istore (hO : OkY Γ g A cc nL own F Lc kc ns) {i : Nat} {v : Int32} {lv' : List (Nat × Value)} (d : decode cc pc = .ok (.istore i, 2)) (hn : i < nL) (hl : (i, Value.int v) :: lv.filter (fun q => !(q.1 == i) && !(q.1 + 1 == i && q.2.category == 2)) = lv') (kk : Yy Γ g A nL k n ws (pc + 2) lv' st) : Yy Γ g A nL k n ws pc lv (.int v :: st) := fun H locs ls hP hD hS hv => lv_istore (ykx hO) (ykb hO) d hv hn hl (fun ls' hv' => kk H locs ls' hP hD hS hv')
theorem y_astore_n (hO : OkY Γ g A cc nL own F Lc kc ns) {j : Fin 4} {i : Nat} {v : Nat} {lv' : List (Nat × Value)} (d : decode cc pc = .ok (.astore_n j, 1)) (hi : (j : Nat) = i) (hn : i < nL) (hl : (i, Value.ref v) :: lv.filter (fun q => !(q.1 == i) && !(q.1 + 1 == i && q.2.category == 2)) = lv') (kk : Yy Γ g A nL k n ws (pc + 1) lv' st) : Yy Γ g A nL k n ws pc lv (.ref v :: st) := fun H locs ls hP hD hS hv => lv_astore_n (ykx hO) (ykb hO) d hi hv hn hl (fun ls' hv' => kk H locs ls' hP hD hS hv')
theorem y_iinc (hO : OkY Γ g A cc nL own F Lc kc ns) {i : Nat} {c a b : Int} {lv' : List (Nat × Value)} (ix : Nat) (d : decode cc pc = .ok (.iinc i c, 3)) (hk : lv[ix]? = some (i, .int (zi a))) (hn : i < nL) (hb : a + c = b) (hl : (i, Value.int (zi b)) :: lv.filter (fun q => !(q.1 == i) && !(q.1 + 1 == i && q.2.category == 2)) = lv') (kk : Yy Γ g A nL k n ws (pc + 3) lv' st) : Yy Γ g A nL k n ws pc lv st := by
  subst hb
  exact fun H locs ls hP hD hS hv => lv_iinc (ykx hO) (ykb hO) d hv hk (zi_add a c) hn hl (fun ls' hv' => kk H locs ls' hP hD hS hv')
theorem y_dup (hO : OkY Γ g A cc nL own F Lc kc ns) {v : Value} (d : decode cc pc = .ok (.dup, 1)) (hc : v.category = 1) (kk : Yy Γ g A nL k n ws (pc + 1) lv (v :: v :: st)) : Yy Γ g A nL k n ws pc lv (v :: st) := fun H locs ls hP hD hS hv => lv_dup (ykx hO) (ykb hO) d hc (kk H locs ls hP hD hS hv)
theorem y_goto (hO : OkY Γ g A cc nL own F Lc kc ns) {off : Int} {tgt : Nat} (d : decode cc pc = .ok (.goto off, 3)) (ht : (pc : Int) + off = (tgt : Int)) (kk : Yy Γ g A nL k n ws tgt lv st) : Yy Γ g A nL k n ws pc lv st := fun H locs ls hP hD hS hv => lv_goto (ykx hO) (ykb hO) d ht (kk H locs ls hP hD hS hv)
theorem y_ge_t (hO : OkY Γ g A cc nL own F Lc kc ns) {a b off : Int} {tgt : Nat} (d : decode cc pc = .ok (.if_icmp .ge off, 3)) (ht : (pc : Int) + off = (tgt : Int)) (ha : -2147483648 ≤ a ∧ a < 2147483648) (hb : -2147483648 ≤ b ∧ b < 2147483648) (h : b ≤ a) (kt : Yy Γ g A nL k n ws tgt lv st) : Yy Γ g A nL k n ws pc lv (.int (zi b) :: .int (zi a) :: st) := fun H locs ls hP hD hS hv => lv_icmp_ge (ykx hO) (ykb hO) d ht (fun _ => kt H locs ls hP hD hS hv) (fun q => absurd ((zi_le hb ha).mpr h) q)
theorem y_ge_f (hO : OkY Γ g A cc nL own F Lc kc ns) {a b off : Int} {tgt : Nat} (d : decode cc pc = .ok (.if_icmp .ge off, 3)) (ht : (pc : Int) + off = (tgt : Int)) (ha : -2147483648 ≤ a ∧ a < 2147483648) (hb : -2147483648 ≤ b ∧ b < 2147483648) (h : a < b) (kf : Yy Γ g A nL k n ws (pc + 3) lv st) : Yy Γ g A nL k n ws pc lv (.int (zi b) :: .int (zi a) :: st) := fun H locs ls hP hD hS hv => lv_icmp_ge (ykx hO) (ykb hO) d ht (fun q => absurd ((zi_le hb ha).mp q) (by omega)) (fun _ => kf H locs ls hP hD hS hv)
theorem y_obj (hO : OkY Γ g A cc nL own F Lc kc ns) {idx a : Nat} (hl : Cond.methodLink own idx objectInit ∈ wsU) (d : decode cc pc = .ok (.invokespecial idx, 3)) (hF : 1 ≤ F) (hLc : 12 ≤ Lc) (kk : Yy Γ g A nL k n ws (pc + 3) lv []) : Yy Γ g A nL k n ws pc lv [.ref a] := fun H locs ls hP hD hS hv => by
  refine W.objInit (ykx hO) (ykb hO) (yko hO) (ykw hO _ hl) (ykw hO _ woO) (ykw hO _ woC) rfl (by rw [ykm hO]; exact hv.1) rfl d (by rw [ykr hO]; exact hF) (by rw [ykr hO]; exact hLc) ?_
  exact W.eq (g2 := F0 (qM Γ) (pc + 3) ls []) rfl (kk H locs ls hP hD hS hv)
theorem y_newi (hO : OkY Γ g A cc nL own F Lc kc ns) {N : Nat} {c : Int} (hc : c = N) (hN : N < 100000) (d : decode cc pc = .ok (.newarray .int, 2)) (hk : k + 1 ≤ kc) (hs : n + N ≤ ns) (kk : ∀ q, Yy Γ g A nL (k + 1) (n + N) (ws ++ [(q, ai g (fun _ => 0) N)]) (pc + 2) lv (.ref q :: st)) : Yy Γ g A nL k n ws pc lv (.int (zi c) :: st) := fun H locs ls hP hD hS hv => by
  subst hc
  refine va_newa (atype := .int) (ty := .int) (N' := N) (a0 := (N, .inl (fun _ => zi 0))) (ykx hO) (ykb hO) (ykw hO _ wao_i) rfl (ykk hO) hP hD hS (yka hO) (fun cA => rfl) (zi_nn ⟨by omega, by omega⟩) (by rw [zi_clamp (by omega)]; rfl) (by show N * 4 ≤ _; omega) (by rw [ykr hO]; exact hk) (by rw [ykr hO]; exact hs) d (fun q cA H1 hK1 hP1 hD1 hS1 => ?_)
  obtain rfl := tys_at (t := 0) (ykk hO) hK1 rfl
  exact kk q H1 locs ls hP1 hD1 hS1 hv
theorem y_newz (hO : OkY Γ g A cc nL own F Lc kc ns) {N : Nat} {c : Int} (hc : c = N) (hN : N < 100000) (d : decode cc pc = .ok (.newarray .boolean, 2)) (hk : k + 1 ≤ kc) (hs : n + N ≤ ns) (kk : ∀ q, Yy Γ g A nL (k + 1) (n + N) (ws ++ [(q, az g (fun _ => 0) N)]) (pc + 2) lv (.ref q :: st)) : Yy Γ g A nL k n ws pc lv (.int (zi c) :: st) := fun H locs ls hP hD hS hv => by
  subst hc
  refine va_newa (atype := .boolean) (ty := .boolean) (N' := N) (a0 := (N, .inl (fun _ => zi 0))) (ykx hO) (ykb hO) (ykw hO _ wao_z) rfl (ykk hO) hP hD hS (yka hO) (fun cA => rfl) (zi_nn ⟨by omega, by omega⟩) (by rw [zi_clamp (by omega)]; rfl) (by show N * 1 ≤ _; omega) (by rw [ykr hO]; exact hk) (by rw [ykr hO]; exact hs) d (fun q cA H1 hK1 hP1 hD1 hS1 => ?_)
  obtain rfl := tys_at (t := 2) (ykk hO) hK1 rfl
  exact kk q H1 locs ls hP1 hD1 hS1 hv
theorem y_newF (hO : OkY Γ g A cc nL own F Lc kc ns) {index N : Nat} {c : Int} (hl : Cond.classLink own index RX1 ∈ wsU) (hc : c = N) (hN : N < 100000) (d : decode cc pc = .ok (.anewarray index, 3)) (hk : k + 1 ≤ kc) (hs : n + N ≤ ns) (kk : ∀ q, Yy Γ g A nL (k + 1) (n + N) (ws ++ [(q, .inl (gC g 3, N, .inr (.inr (.inr (.inr (fun _ => none))))))]) (pc + 3) lv (.ref q :: st)) : Yy Γ g A nL k n ws pc lv (.int (zi c) :: st) := fun H locs ls hP hD hS hv => by
  subst hc
  refine va_newq (C := RX1) (N' := N) (ykx hO) (ykb hO) (yko hO) (ykw hO _ hl) (ykf hO) (ykk hO) hP hD hS (yka hO) (zi_nn ⟨by omega, by omega⟩) (by rw [zi_clamp (by omega)]; rfl) (by omega) (by rw [ykr hO]; exact hk) (by rw [ykr hO]; exact hs) d (fun q cA H1 hK1 hP1 hD1 hS1 => ?_)
  obtain rfl := tys_at (t := 3) (ykk hO) hK1 rfl
  exact kk q H1 locs ls hP1 hD1 hS1 hv
theorem y_new (hO : OkY Γ g A cc nL own F Lc kc ns) {C : String} {T : u_T} {N ci index : Nat} (fs : List Value) (hin : ∀ w ∈ u_ws C T N, w ∈ wsU) (ty : Nat → FieldType) (hty : ∀ k, k < N → parseFieldDescriptor (T k).2.2.1 = some (ty k)) (hl : Cond.classLink own index C ∈ wsU) (hi : Cond.instantiable C N ∈ wsU) (hini : Cond.initialized C ∈ wsU) (hc : vwCl[ci]? = some (C, T, N)) (hfs : ∀ j, j < N → defaultValue (ty j) = vp_V fs j) (d : decode cc pc = .ok (.new index, 3)) (hk : k + 1 ≤ kc) (hs : n + N ≤ ns) (kk : ∀ q, Yy Γ g A nL (k + 1) (n + N) (ws ++ [(q, .inr (ci, fs))]) (pc + 3) lv (.ref q :: st)) : Yy Γ g A nL k n ws pc lv st := fun H locs ls hP hD hS hv =>
  va_new (ci := ci) (fs := fs) (C := C) (T := T) (N := N) (ykx hO) (ykb hO) (ykw hO) hin ty hty (yko hO) (ykw hO _ hl) (ykw hO _ hi) (ykw hO _ hini) (ykk hO) hP hD hS (yka hO) hc hfs (by rw [ykr hO]; exact hk) (by rw [ykr hO]; exact hs) d (fun q H1 hP1 hD1 hS1 => kk q H1 locs ls hP1 hD1 hS1 hv)
theorem y_put (hO : OkY Γ g A cc nL own F Lc kc ns) {index ci N a : Nat} {C nm ds : String} {T : u_T} {fs : List Value} {v : Value} {ty : FieldType} {ty0 : Nat → FieldType} {ws' : va_W} (q0 kf : Nat) (he : ws[q0]? = some (a, .inr (ci, fs))) (hlink : Cond.fieldLink own index C nm ds ∈ wsU) (hc : vwCl[ci]? = some (C, T, N)) (hin : ∀ w ∈ u_ws C T N, w ∈ wsU) (hty : ∀ k, k < N → parseFieldDescriptor (T k).2.2.1 = some (ty0 k)) (hnm : ∀ a, a < N → ∀ b, b < N → a ≠ b → (T a).2.1 ≠ (T b).2.1) (hk : kf < N) (hT : T kf = (C, nm, ds, false)) (hd : parseFieldDescriptor ds = some ty) (hn : narrow ty v = v) (hfit : fits ty v = true) (hl : kf < fs.length) (hw : ws.set q0 (a, .inr (ci, fs.set kf v)) = ws') (d : decode cc pc = .ok (.putfield index, 3)) (kk : Yy Γ g A nL k n ws' (pc + 3) lv st) : Yy Γ g A nL k n ws pc lv (v :: .ref a :: st) := fun H locs ls hP hD hS hv => by
  subst hw
  exact va_put (ykx hO) (ykb hO) (ykw hO) hin ty0 hty hnm (yko hO) (ykk hO) hP hD hS q0 he hc kf hk (by rw [hT]; exact ykw hO _ hlink) (by rw [hT]; exact fun _ h => h) (by rw [hT]) (by rw [hT]; exact hd) hn hfit hl d (fun H1 locs1 hP1 hD1 hS1 => kk H1 locs1 ls hP1 hD1 hS1 hv)
theorem y_putF (hO : OkY Γ g A cc nL own F Lc kc ns) (hin2 : (qm Γ).name = "<init>") {index ci N a : Nat} {nm ds : String} {T : u_T} {fs : List Value} {v : Value} {ty : FieldType} {ty0 : Nat → FieldType} {ws' : va_W} (q0 kf : Nat) (he : ws[q0]? = some (a, .inr (ci, fs))) (hlink : Cond.fieldLink own index own nm ds ∈ wsU) (hc : vwCl[ci]? = some (own, T, N)) (hin : ∀ w ∈ u_ws own T N, w ∈ wsU) (hty : ∀ k, k < N → parseFieldDescriptor (T k).2.2.1 = some (ty0 k)) (hnm : ∀ a, a < N → ∀ b, b < N → a ≠ b → (T a).2.1 ≠ (T b).2.1) (hk : kf < N) (hT : T kf = (own, nm, ds, true)) (hd : parseFieldDescriptor ds = some ty) (hn : narrow ty v = v) (hfit : fits ty v = true) (hl : kf < fs.length) (hw : ws.set q0 (a, .inr (ci, fs.set kf v)) = ws') (d : decode cc pc = .ok (.putfield index, 3)) (kk : Yy Γ g A nL k n ws' (pc + 3) lv st) : Yy Γ g A nL k n ws pc lv (v :: .ref a :: st) := fun H locs ls hP hD hS hv => by
  subst hw
  exact va_putF (ykx hO) (ykb hO) (ykw hO) hin ty0 hty hnm (yko hO) (ykk hO) hP hD hS q0 he hc kf hk (by rw [hT]; exact ykw hO _ hlink) (by rw [hT]; exact fun _ h => h) (by rw [hT]) hin2 (by rw [hT]) (by rw [hT]; exact hd) hn hfit hl d (fun H1 locs1 hP1 hD1 hS1 => kk H1 locs1 ls hP1 hD1 hS1 hv)
theorem y_get (hO : OkY Γ g A cc nL own F Lc kc ns) {index ci N a : Nat} {C nm ds : String} {b : Bool} {T : u_T} {fs : List Value} {v : Value} (q0 kf : Nat) (he : ws[q0]? = some (a, .inr (ci, fs))) (hlink : Cond.fieldLink own index C nm ds ∈ wsU) (hc : vwCl[ci]? = some (C, T, N)) (hin : ∀ w ∈ u_ws C T N, w ∈ wsU) (hk : kf < N) (hT : T kf = (C, nm, ds, b)) (hf : fs[kf]? = some v) (d : decode cc pc = .ok (.getfield index, 3)) (kk : Yy Γ g A nL k n ws (pc + 3) lv (v :: st)) : Yy Γ g A nL k n ws pc lv (.ref a :: st) := fun H locs ls hP hD hS hv =>
  va_get (ykx hO) (ykb hO) (ykw hO) hin (yko hO) (ykk hO) hP q0 he hc kf hk (by rw [hT]; exact ykw hO _ hlink) (by rw [hT]; exact fun _ h => h) hf d (kk H locs ls hP hD hS hv)
theorem y_alenF (hO : OkY Γ g A cc nL own F Lc kc ns) {a N : Nat} {f : Nat → Option Nat} (q0 : Nat) (he : ws[q0]? = some (a, .inl (gC g 3, N, .inr (.inr (.inr (.inr f)))))) (d : decode cc pc = .ok (.arraylength, 1)) (kk : Yy Γ g A nL k n ws (pc + 1) lv (.int (zi N) :: st)) : Yy Γ g A nL k n ws pc lv (.ref a :: st) := fun H locs ls hP hD hS hv =>
  va_alen (ykx hO) (ykb hO) (ykk hO) hP q0 3 he rfl (v := zi N) rfl d (kk H locs ls hP hD hS hv)
theorem y_astF (hO : OkY Γ g A cc nL own F Lc kc ns) {a v N : Nat} {i : Int} {vs : List Value} {f : Nat → Option Nat} {ws' : va_W} (q0 qk : Nat) (he : ws[q0]? = some (a, .inl (gC g 3, N, .inr (.inr (.inr (.inr f)))))) (hv2 : ws[qk]? = some (v, .inr (0, vs))) (hi : 0 ≤ i ∧ i < N) (hN : N < 100000) (hw : ws.set q0 (a, .inl (gC g 3, N, .inr (.inr (.inr (.inr (va_up f i.toNat (some v))))))) = ws') (d : decode cc pc = .ok (.aastore, 1)) (kk : Yy Γ g A nL k n ws' (pc + 1) lv st) : Yy Γ g A nL k n ws pc lv (.ref v :: .int (zi i) :: .ref a :: st) := fun H locs ls hP hD hS hv => by
  subst hw
  refine va_astq (r := (RX1, TX1, 2)) (ykx hO) (ykb hO) (ykk hO) hP hD hS q0 3 qk 0 he rfl hv2 rfl (zi_in hi (by omega)) d (fun H1 locs1 hP1 hD1 hS1 => ?_)
  rw [zi_clamp (by omega)] at hP1 hD1
  exact kk H1 locs1 ls hP1 hD1 hS1 hv
/-- a row of references, told otherwise -/
theorem y_qx (t : Nat) {a N : Nat} {c : ClassId} {f : Nat → Option Nat} (f' : Nat → Option Nat) {ws' : va_W} (q0 : Nat) (he : ws[q0]? = some (a, .inl (c, N, .inr (.inr (.inr (.inr f)))))) (hf : ∀ j, j < N → f j = f' j) (hw : ws.set q0 (a, .inl (c, N, .inr (.inr (.inr (.inr f'))))) = ws') (kk : Yy Γ g A nL k n ws' pc lv st) : Yy Γ g A nL k n ws pc lv st := fun H locs ls hP hD hS hv => by
  subst hw
  refine kk H locs ls (fun k x hx => ?_) (hD.set he) hS hv
  rw [List.getElem?_set] at hx
  by_cases e : q0 = k
  · subst e
    rw [if_pos rfl, if_pos (List.getElem?_eq_some_iff.mp he).1] at hx
    cases hx
    have h0 : H[a]? = some (vp_cell c (N, .inr (.inr (.inr (.inr f))))) := hP q0 _ he
    show H[a]? = some (vp_cell c (N, .inr (.inr (.inr (.inr f')))))
    rw [h0, vp_cell_q, vp_cell_q]
    exact congrArg some (arrV_ext (fun j hj => by rw [hf j hj]))
  · rw [if_neg e] at hx
    exact hP k x hx
theorem y_mna (hO : OkY Γ g A cc nL own F Lc kc ns) {index N M : Nat} {c d0 : Int} (hl : Cond.classLink own index "[[I" ∈ wsU) (hc : c = N) (hN : N < 100000) (hc2 : d0 = M) (hM : M < 100000) (d : decode cc pc = .ok (.multianewarray index 2, 4)) (hk : k + 1 + N ≤ kc) (hs : n + N + N * M ≤ ns) (kk : ∀ (q : Nat) (r : Nat → Nat), Yy Γ g A nL (k + 1 + N) (n + N + N * M) (ws ++ [(q, .inl (gC g 4, N, .inr (.inr (.inr (.inr (fun i => if i < N then some (r i) else none))))))] ++ (List.range N).map (fun i => (r i, ai g (fun _ => 0) M))) (pc + 4) lv (.ref q :: st)) : Yy Γ g A nL k n ws pc lv (.int (zi d0) :: .int (zi c) :: st) := fun H locs ls hP hD hS hv => by
  subst hc hc2
  have hcy : (qS Γ).vm.findClass (FieldType.array .int).toString = some (gC g 0) := ((ykk hO).2 0 (gC g 0, .int) rfl).2
  refine va_mna (X := ws) (L := []) (f := fun _ => .inr (0, [])) (ty := .int) (cy := gC g 0) (N' := N) (K' := M) (z := (M, .inl (fun _ => zi 0))) (ykx hO) (ykb hO) (yko hO) (ykw hO _ hl) (ykg hO) (ykw hO _ wao_i) hcy (ykk hO) (by simpa [va_pl] using hP) (by simpa [va_pl] using hD) hS (yka hO) (zi_nn ⟨by omega, by omega⟩) (zi_nn ⟨by omega, by omega⟩) (by rw [zi_clamp (by omega)]; rfl) (by rw [zi_clamp (by omega)]; rfl) (by omega) (by show M * 4 ≤ _; omega) (by omega) rfl rfl (by rw [ykr hO]; show k + (1 + N) ≤ kc; omega) (by rw [ykr hO]; show n + (N + N * M) ≤ ns; omega) (fun c => innerV c M) d (fun q r cA H1 hr1 hr2 hK1 hP1 hD1 hS1 => ?_)
  obtain rfl := tys_at (t := 4) (ykk hO) hK1 rfl
  rw [pl_rows] at hP1 hD1
  exact kk q r H1 locs ls hP1 hD1 hS1 hv
/-! contracts of constructors -/
def yU (g : Gl) (ws0 : va_W) (sz : Nat) (U : State) : Prop := U.heap.size = sz ∧ va_P (gD g) vwCl ws0 U.heap ∧ va_K (gD g) vwCl (tys5 g) U ∧ va_D (fun _ => True) ws0 ∧ va_AO RX1 U ∧ va_AOA .int U
def yQ (g : Gl) (ws0 : va_W) (W1 : (Nat → Nat) → va_W) (sz : Nat) : Qt := va_Qv (fun _ : Nat → Nat => True) (fun u t => va_P (gD g) vwCl (W1 u) t.heap ∧ va_D (va_A ws0 sz) (W1 u)) (va_A ws0 sz)
def cnQ (l : Launch) (g : Gl) (y : MethodName) (cc : ByteArray) (nL F Lc mc ms q : Nat) (ws0 : va_W) (W1 : (Nat → Nat) → va_W) (sz : Nat) : Prop :=
  Met l y (.code y cc nL none :: wsU) (rmm F Lc mc ms) (va_Pc [.ref q] (yU g ws0 sz)) (yQ g ws0 W1 sz) mc ms (va_A ws0 sz)
theorem cn_start {l : Launch} {y : MethodName} {q mc ms sz : Nat} {ws0 : va_W} {W1 : (Nat → Nat) → va_W} (hy : plainFor y = true) (hown : y.cls = own) (hy1 : y.name = "<init>") (hav : (lg_sl [Value.ref q]).length ≤ nL)
    (body : ∀ Γ : Gam, qL Γ = l → OkY Γ g (va_A ws0 sz) cc nL own F Lc mc ms → (qm Γ).name = "<init>" → (qm Γ).sig.returnType = none → qQ Γ = MQ (qb Γ) (yQ g ws0 W1 sz) (qa Γ) (qS Γ) mc ms (va_A ws0 sz) → Yy Γ g (va_A ws0 sz) nL 0 0 ws0 0 [(0, .ref q)] []) : cnQ l g y cc nL F Lc mc ms q ws0 W1 sz := by
  refine ofWF (cc := cc) (maxL := nL) (ret := none) hy rfl ?_
  intro p e s m args below meth c s₁ B hml hv
  obtain ⟨rfl, hsz, hP, hK, hD0, hF, hG⟩ := hv
  have hts := atoms_spec (ws := Cond.code y cc nL none :: wsU) B.pre
  have hin : meth.name = "<init>" := (name_of_methodNamed B.named B.method).1.trans hy1
  have hO : OkY (p, l, e, (headSpec (.code y cc nL none :: wsU) (rmm F Lc mc ms)).room, s, m, [Value.ref q].toArray, below, meth, c, MQ below (yQ g ws0 W1 sz) [Value.ref q].toArray s mc ms (va_A ws0 sz)) g (va_A ws0 sz) cc nL own F Lc mc ms := by
    refine ⟨B.exec, B.bytes, hml, ?_, fun w hw => hts w (List.mem_cons_of_mem _ hw), hK, fun q0 h => Or.inr (by rw [← hsz]; exact h), rfl, B.notSynchronized, hF, hG⟩
    rw [← hown]
    exact findClass_of_methodNamed B.named
  have hb := body _ rfl hO hin B.returns rfl s.heap [] _ hP hD0.self va_S.rf (by exact lv_entry [Value.ref q] (n := nL) hav)
  rw [lg_entry_eq]
  exact hb
theorem y_vret (hO : OkY Γ g A cc nL own F Lc kc ns) {ws0 : va_W} {W1 : (Nat → Nat) → va_W} {sz : Nat} (hA : A = va_A ws0 sz) (hr : (qm Γ).sig.returnType = none) (hQ : qQ Γ = MQ (qb Γ) (yQ g ws0 W1 sz) (qa Γ) (qS Γ) k n A) (u : Nat → Nat) (hw : ws = W1 u) (d : decode cc pc = .ok (.return_, 1)) : Yy Γ g A nL k n ws pc lv [] := by
  subst hw hA
  intro H locs ls hP hD hS hv
  rw [hQ]
  exact W.vret (ykx hO) (ykb hO) hr (fun t ht hW => ⟨⟨u, rfl, trivial, by rw [ht]; exact hP, hD⟩, hS.F ht⟩) hS.2.2 d (ykl hO)
theorem y_call (hO : OkY Γ g A cc nL own F Lc kc ns) {y : MethodName} {cy : ByteArray} {nY F' Lc' mc ms q index : Nat} {ws0 wr : va_W} {W1 ws' : (Nat → Nat) → va_W} (hM : ∀ sz, cnQ (qL Γ) g y cy nY F' Lc' mc ms q ws0 W1 sz) (hl : Cond.methodLink own index y ∈ wsU) (hc : Cond.code y cy nY none ∈ wsU) (hi : Cond.instanceMethod y ∈ wsU) (hini : Cond.initialized y.cls ∈ wsU) (hy1 : y.name = "<init>") (hpd : y.cls ≠ "java/lang/invoke/MethodHandle" ∧ y.cls ≠ "java/lang/invoke/VarHandle" ∧ (parseMethodDescriptor y.desc).map (fun d => d.parameters.length) = some 0) (hF : F' + 1 ≤ F) (hL : 8 + (nY + 11) + Lc' ≤ Lc) (hcat : (st.map fun v => v.category).sum ≤ 8) (hcc : k + mc ≤ kc ∧ n + ms ≤ ns)
    (isC isR : List Nat) (hC : isC.map (fun i => ws[i]?) = ws0.map some) (hR : isR.map (fun i => ws[i]?) = wr.map some) (hnC : va_nd isC = true) (hn : va_nd isR = true) (hdis : ∀ i ∈ isR, i ∉ isC) (hw : ∀ u, wr ++ W1 u = ws' u) (d : decode cc pc = .ok (.invokespecial index, 3)) (kk : ∀ u, Yy Γ g A nL (k + mc) (n + ms) (ws' u) (pc + 3) lv st) : Yy Γ g A nL k n ws pc lv (.ref q :: st) := fun H locs ls hP hD hS hv => by
  have hCf : isC.filterMap (fun i => ws[i]?) = ws0 := by
    have h1 : isC.filterMap (fun i => ws[i]?) = (isC.map (fun i => ws[i]?)).filterMap id := by rw [List.filterMap_map]; rfl
    rw [h1, hC, List.filterMap_map]
    exact List.filterMap_some
  have hPc := hP.sub (ws' := ws0) isC hCf
  have hDc := hD.sub (ws' := ws0) isC hnC hC
  have hFc := va_free (wc := ws0) hD hS (yka hO) isC hC
  have hG : GoodIn wsU (Cond.code y cy nY none :: wsU) := by
    intro w hw
    rcases List.mem_cons.mp hw with rfl | h
    · exact ⟨hc, wsU_good _ hc⟩
    · exact ⟨h, wsU_good _ h⟩
  refine va_callv (va_runI (As := []) (rest := st) ⟨ykx hO, ykb hO, ykm hO, yko hO, ykw hO⟩ (hM H.size) (cwI 0 (ykw hO) hG rfl rfl rfl (ykw hO _ hini) (ykw hO _ hl) (ykw hO _ hi) hy1 hpd ⟨by rw [ykr hO]; exact hF, by rw [ykr hO]; exact hL⟩) ⟨?_, fun U hU hW => ⟨rfl, by rw [hU], by rw [hU]; exact hPc, va_K.moved hW.alike (ykk hO), hDc.weaken (fun _ _ _ _ => trivial), va_AO.moved hW.alike (ykf hO), va_AOA.moved hW.alike (ykg hO)⟩⟩ rfl rfl hv.1 rfl (lv_room hcat) d (by rw [ykr hO]; exact hcc)) hS (fun q _ h => hFc q h) hFc (fun u t H1 locs1 ht hvm _ hB hz1 hk1 hS1 => ?_)
  · intro a U f mk h
    obtain ⟨q0, q1, qP, qK, qD, qF, qG⟩ := h
    exact ⟨q0, q1, qP, va_K.moved (u := U) (U := U.calling f mk a) (Vm.Alike.refl U.vm) qK, qD, va_AO.moved (u := U) (U := U.calling f mk a) (Vm.Alike.refl U.vm) qF, va_AOA.moved (u := U) (U := U.calling f mk a) (Vm.Alike.refl U.vm) qG⟩
  · obtain ⟨hP1, hD1⟩ := hB
    rw [ht] at hP1
    obtain ⟨hP2, hD2⟩ := va_join (wr := wr) (w1 := W1 u) hP hD isC isR hC hR hn hdis hk1 hFc hP1 hD1
    rw [hw u] at hP2 hD2
    exact kk u H1 locs1 ls hP2 hD2 hS1 hv
end Yrows
