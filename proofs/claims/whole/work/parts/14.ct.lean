/-! contracts -/
abbrev post_t : Type := Int → Me → Prop
abbrev Qt : Type := Array Value → State → Outcome → State → Prop
def QIu (g : Gl) (post : Int → Me → Prop) : Qt := va_Qi (fun r (x' : Me) => ∃ z : Int, r = zi z ∧ post z x') (fun x' t => pw_P g x' t.heap) (pA g)
def QLu (g : Gl) (post : Int → Me → Prop) : Qt := va_Ql (fun r (x' : Me) => ∃ z : Int, r = zl z ∧ post z x') (fun x' t => pw_P g x' t.heap) (pA g)
def QVu (g : Gl) (post : Me → Prop) : Qt := va_Qv (fun (x' : Me) => post x') (fun x' t => pw_P g x' t.heap) (pA g)
def QRu (g : Gl) (post : Nat → Me → Prop) : Qt := va_Qr (fun (u : Nat × Me) => post u.1 u.2) (fun u a t => a = gA g u.1 ∧ pw_P g u.2 t.heap) (pA g)
def XCu (g : Gl) (pX : String → Prop) (x : Me) : String → State → State → Prop := vx_X (S := Unit) (fun _ => True) (fun E _ t => pX E ∧ pw_P g x t.heap) (pA g)
def ctQ (l : Launch) (g : Gl) (y : MethodName) (cc : ByteArray) (nL : Nat) (rt : Option FieldType) (F Lc : Nat) (av : List Value) (x : Me) (Qc : Qt) : Prop :=
  Met l y (.code y cc nL rt :: wsU) (rmm F Lc 0 0) (va_Pc av (pw_U g x)) Qc 0 0 (pA g)
def cxQ (l : Launch) (g : Gl) (y : MethodName) (cc : ByteArray) (nL : Nat) (rt : Option FieldType) (F Lc mc ms : Nat) (av : List Value) (x : Me) (Qc : Qt) (pX : String → Prop) : Prop :=
  vx_Met l y (.code y cc nL rt :: wsU) (rmm F Lc mc ms) (va_Pc av (pw_U g x)) Qc (XCu g pX x) mc ms (pA g)
theorem pw_U_blind (g : Gl) (x : Me) (av : List Value) : FrameBlind (va_Pc av (pw_U g x)) := by
  intro a U f mk h
  obtain ⟨h0, h1, h2, h3, h4, h5, h6, h7⟩ := h
  exact ⟨h0, h1, va_K.moved (u := U) (U := U.calling f mk a) (Vm.Alike.refl U.vm) h2, vx_Zq.moved (u := U) (U := U.calling f mk a) (Vm.Alike.refl U.vm) h3, vx_Zq.moved (u := U) (U := U.calling f mk a) (Vm.Alike.refl U.vm) h4, h5, h6, h7.same (u := U) rfl⟩
section Ends
variable {Γ : Gam} {g : Gl} {cc : ByteArray} {own : String} {nL k n F Lc kc ns pc : Nat} {x : Me} {lv : List (Nat × Value)} {st : List Value}
theorem pw_at {H : Heap} {t : State} (h : t.heap = H) (hP : pw_P g x H) : pw_P g x t.heap := h ▸ hP
theorem pw_to {H : Heap} {t : State} (h : t.heap = H) (hP : pw_P g x t.heap) : pw_P g x H := h ▸ hP
theorem pw_end {H : Heap} {locs : List Loc} {t : State} (hO : Ok Γ g cc nL own F Lc kc ns) (hP : pw_P g x H) (hS : va_S (pA g) (qS Γ).heap H locs) (ht : t.heap = H) (hW : (qS Γ).WarmedH t.vm) : pw_U g x t := by
  subst ht
  exact ⟨hP, va_K.moved hW.alike (okk hO), vx_Zq.moved hW.alike ((oku hO).kept hS.2.1), vx_Zq.moved hW.alike ((okn hO).kept hS.2.1), Nat.le_trans (oks hO) hS.1, okg hO, (okV hO).warm hW⟩
theorem ok_start {l : Launch} {y : MethodName} {rt : Option FieldType} {mc ms : Nat} {p : Program} {e : Env} {s : State} {m : MethodId} {args : Array Value} {below : List Frame} {meth : Method} {c : Code} {s₁ : State} {Q : State → Prop} (hy : y.cls = own) (B : BodyLoose p l y (headSpec (.code y cc nL rt :: wsU) (rmm F Lc mc ms)) cc nL rt e s m args below meth c s₁) (hml : c.maxLocals = nL) (h : pw_U g x s) : Ok (p, l, e, (headSpec (.code y cc nL rt :: wsU) (rmm F Lc mc ms)).room, s, m, args, below, meth, c, Q) g cc nL own F Lc mc ms := by
  obtain ⟨h1, h2, h3, h4, h5, h6, h7⟩ := h
  have hts := atoms_spec (ws := Cond.code y cc nL rt :: wsU) B.pre
  refine ⟨B.exec, B.bytes, hml, ?_, fun w hw => hts w (List.mem_cons_of_mem _ hw), h2, h3, h4, h5, h6, rfl, B.notSynchronized, h7⟩
  rw [← hy]
  exact findClass_of_methodNamed B.named
/-- a contract, from its body's walk -/
theorem ct_start {l : Launch} {y : MethodName} {rt : Option FieldType} {av : List Value} {Qc : Qt} (hy : plainName y.cls = true) (hown : y.cls = own) (hav : (lg_sl av).length ≤ nL) (hl : lv_args 0 av = lv)
    (body : ∀ Γ : Gam, qL Γ = l → Ok Γ g cc nL own F Lc 0 0 → (qm Γ).sig.returnType = rt → qQ Γ = MQ (qb Γ) Qc (qa Γ) (qS Γ) 0 0 (pA g) → (qS Γ).heap = (qS Γ).heap → Zz Γ g nL 0 0 x 0 lv []) : ctQ l g y cc nL rt F Lc av x Qc := by
  refine Met.ofW (cc := cc) (maxL := nL) (ret := rt) hy rfl ?_
  intro p e s m args below meth c s₁ B hml hv
  obtain ⟨rfl, hU⟩ := hv
  have hO := ok_start (g := g) (x := x) (own := own) (Q := MQ below Qc av.toArray s 0 0 (pA g)) hown B hml hU
  have hb := body _ rfl hO B.returns rfl rfl s.heap [] _ hU.1 va_S.rf (by rw [← hl]; exact lv_entry av (n := nL) hav)
  rw [lg_entry_eq]
  exact hb
theorem cx_start {l : Launch} {y : MethodName} {rt : Option FieldType} {av : List Value} {Qc : Qt} {pX : String → Prop} {mc ms : Nat} (hy : plainName y.cls = true) (hown : y.cls = own) (hav : (lg_sl av).length ≤ nL) (hl : lv_args 0 av = lv)
    (body : ∀ Γ : Gam, qL Γ = l → Ok Γ g cc nL own F Lc mc ms → (qm Γ).sig.returnType = rt → qQ Γ = vx_MQ (qb Γ) Qc (XCu g pX x) (qa Γ) (qS Γ) mc ms (pA g) → (∀ y ∈ (qc Γ).exceptionTable.toList, False) → Zz Γ g nL 0 0 x 0 lv []) : cxQ l g y cc nL rt F Lc mc ms av x Qc pX := by
  refine vx_ofW (cc := cc) (maxL := nL) (ret := rt) hy rfl ?_
  intro p e s m args below meth c s₁ B hml hh hv
  obtain ⟨rfl, hU⟩ := hv
  have hO := ok_start (g := g) (x := x) (own := own) (Q := vx_MQ below Qc (XCu g pX x) av.toArray s mc ms (pA g)) hown B hml hU
  have hb := body _ rfl hO B.returns rfl hh s.heap [] _ hU.1 va_S.rf (by rw [← hl]; exact lv_entry av (n := nL) hav)
  rw [lg_entry_eq]
  exact hb
theorem loc_free {H : Heap} {locs : List Loc} {H0 : Heap} (hS : va_S (pA g) H0 H locs) : ∀ q ∈ locs, pA g q.base := hS.2.2
/-! returns -/
theorem z_iret (hO : Ok Γ g cc nL own F Lc kc ns) {rt : FieldType} {post : Int → Me → Prop} {z : Int} (hr : (qm Γ).sig.returnType = some rt) (hQ : qQ Γ = MQ (qb Γ) (QIu g post) (qa Γ) (qS Γ) k n (pA g)) (hn : narrow rt (.int (zi z)) = .int (zi z)) (d : decode cc pc = .ok (.ireturn, 1)) (h : post z x) : Zz Γ g nL k n x pc lv [.int (zi z)] := by
  intro H locs ls hP hS hv
  rw [hQ]
  exact W.zret (okx hO) (okb hO) hr hn (fun t ht hW => ⟨⟨zi z, x, rfl, ⟨z, rfl, h⟩, (pw_at ht hP)⟩, hS.F ht⟩) (loc_free hS) d (okl hO)
theorem z_lret (hO : Ok Γ g cc nL own F Lc kc ns) {post : Int → Me → Prop} {z : Int} (hr : (qm Γ).sig.returnType = some .long) (hQ : qQ Γ = MQ (qb Γ) (QLu g post) (qa Γ) (qS Γ) k n (pA g)) (d : decode cc pc = .ok (.lreturn, 1)) (h : post z x) : Zz Γ g nL k n x pc lv [.long (zl z)] := by
  intro H locs ls hP hS hv
  rw [hQ]
  exact W.lret (okx hO) (okb hO) hr (fun t ht hW => ⟨⟨zl z, x, rfl, ⟨z, rfl, h⟩, (pw_at ht hP)⟩, hS.F ht⟩) (loc_free hS) d (okl hO)
theorem z_vret (hO : Ok Γ g cc nL own F Lc kc ns) {post : Me → Prop} (hr : (qm Γ).sig.returnType = none) (hQ : qQ Γ = MQ (qb Γ) (QVu g post) (qa Γ) (qS Γ) k n (pA g)) (d : decode cc pc = .ok (.return_, 1)) (h : post x) : Zz Γ g nL k n x pc lv [] := by
  intro H locs ls hP hS hv
  rw [hQ]
  exact W.vret (okx hO) (okb hO) hr (fun t ht hW => ⟨⟨x, rfl, h, (pw_at ht hP)⟩, hS.F ht⟩) (loc_free hS) d (okl hO)
theorem z_iretx (hO : Ok Γ g cc nL own F Lc kc ns) {rt : FieldType} {post : Int → Me → Prop} {XC : String → State → State → Prop} {z : Int} (hr : (qm Γ).sig.returnType = some rt) (hQ : qQ Γ = vx_MQ (qb Γ) (QIu g post) XC (qa Γ) (qS Γ) kc ns (pA g)) (hk : k ≤ kc) (hns : n ≤ ns) (hn : narrow rt (.int (zi z)) = .int (zi z)) (d : decode cc pc = .ok (.ireturn, 1)) (h : post z x) : Zz Γ g nL k n x pc lv [.int (zi z)] := by
  intro H locs ls hP hS hv
  rw [hQ]
  exact W.widen hk hns (vx_ret (W.zret (okx hO) (okb hO) hr hn (fun t ht hW => ⟨⟨zi z, x, rfl, ⟨z, rfl, h⟩, (pw_at ht hP)⟩, hS.F ht⟩) (loc_free hS) d (okl hO)))
theorem z_lretx (hO : Ok Γ g cc nL own F Lc kc ns) {post : Int → Me → Prop} {XC : String → State → State → Prop} {z : Int} (hr : (qm Γ).sig.returnType = some .long) (hQ : qQ Γ = vx_MQ (qb Γ) (QLu g post) XC (qa Γ) (qS Γ) kc ns (pA g)) (hk : k ≤ kc) (hns : n ≤ ns) (d : decode cc pc = .ok (.lreturn, 1)) (h : post z x) : Zz Γ g nL k n x pc lv [.long (zl z)] := by
  intro H locs ls hP hS hv
  rw [hQ]
  exact W.widen hk hns (vx_ret (W.lret (okx hO) (okb hO) hr (fun t ht hW => ⟨⟨zl z, x, rfl, ⟨z, rfl, h⟩, (pw_at ht hP)⟩, hS.F ht⟩) (loc_free hS) d (okl hO)))
theorem z_vretx (hO : Ok Γ g cc nL own F Lc kc ns) {post : Me → Prop} {XC : String → State → State → Prop} (hr : (qm Γ).sig.returnType = none) (hQ : qQ Γ = vx_MQ (qb Γ) (QVu g post) XC (qa Γ) (qS Γ) kc ns (pA g)) (hk : k ≤ kc) (hns : n ≤ ns) (d : decode cc pc = .ok (.return_, 1)) (h : post x) : Zz Γ g nL k n x pc lv [] := by
  intro H locs ls hP hS hv
  rw [hQ]
  exact W.widen hk hns (vx_ret (W.vret (okx hO) (okb hO) hr (fun t ht hW => ⟨⟨x, rfl, h, (pw_at ht hP)⟩, hS.F ht⟩) (loc_free hS) d (okl hO)))
theorem z_aretx (hO : Ok Γ g cc nL own F Lc kc ns) {C : String} {post : Nat → Me → Prop} {XC : String → State → State → Prop} {i : Nat} (hr : (qm Γ).sig.returnType = some (.object C)) (hQ : qQ Γ = vx_MQ (qb Γ) (QRu g post) XC (qa Γ) (qS Γ) kc ns (pA g)) (hk : k ≤ kc) (hns : n ≤ ns) (d : decode cc pc = .ok (.areturn, 1)) (h : post i x) : Zz Γ g nL k n x pc lv [.ref (gA g i)] := by
  intro H locs ls hP hS hv
  rw [hQ]
  exact W.widen hk hns (vx_ret (W.aret (okx hO) (okb hO) hr (Or.inl ⟨C, rfl⟩) (Or.inr ⟨_, rfl⟩) (fun t ht hW => ⟨⟨(i, x), gA g i, rfl, h, rfl, (pw_at ht hP)⟩, hS.F ht⟩) (loc_free hS) d (okl hO)))
/-! calls -/
theorem vy_callr {p : Program} {l : Launch} {e : Env} {R : Room} {s : State} {m : MethodId} {args : Array Value} {below : List Frame} {meth : Method} {c : Code} {H : Heap} {locs : List Loc} {cells slots mc ms pc : Nat} {Q : State → Prop} {ls : Array Slot} {st0 rest : List Value} {A0 A1 : Nat → Prop} {H0 : Heap} {a : Array Value} {free : Addr → Prop} {S SX : Type} {post : S → Prop} {px : SX → Prop} {B : S → Nat → State → Prop} {BX : String → SX → State → Prop} {AX : Nat → Prop} (hr : vx_Run p l e R s m args below meth c H locs cells slots mc ms (F0 m pc ls st0) rest (va_Qr post B A1 a) (vx_X px BX AX) free) (hS : va_S A0 H0 H locs) (hA : ∀ q, q < H.size → A1 q → A0 q) (hf : ∀ q, free q → A0 q) (hAX : ∀ q, q < H.size → AX q → A0 q)
    (kx : ∀ (E : String) (ce : Cell) (q9 : Addr) (u : SX) (t : State) (H1 : Heap) (locs1 : List Loc), t.heap = H1 → s.vm.Alike t.vm → px u → BX E u t → H.size ≤ H1.size → (∀ q : Nat, q < H.size → ¬ AX q → H1[q]? = H[q]?) → va_S A0 H0 H1 locs1 → H1[q9]? = some ce → ce.vm = .none → s.vm.findClass E = some ce.cls → vx_W p l e R s m args below meth c H1 locs1 (cells + mc) (slots + ms) Q (F0 m pc ls rest) q9)
    (kk : ∀ (u : S) (ra : Nat) (t : State) (H1 : Heap) (locs1 : List Loc), t.heap = H1 → s.vm.Alike t.vm → post u → B u ra t → H.size ≤ H1.size → (∀ q : Nat, q < H.size → ¬ A1 q → H1[q]? = H[q]?) → va_S A0 H0 H1 locs1 → W p l e R s m args below meth c H1 locs1 (cells + mc) (slots + ms) Q (F0 m (pc + 3) ls (.ref ra :: rest))) : W p l e R s m args below meth c H locs cells slots Q (F0 m pc ls st0) := by
  intro T hT X
  rcases hr T hT X with ⟨v, st₀, t, T', L, h0, X', hL, e1, e2, ⟨⟨u, ra, hv, hp, hb⟩, hF⟩, st⟩ | ⟨q, st₀, t, T', L, E, ce, h0, X', hL, e1, e2, ⟨u, hp, hb, hF⟩, hce, hcv, hcl, st⟩
  · cases hv
    obtain ⟨k1, k2, k3⟩ := vx_keep h0 e1 hS hA hf hL hF
    obtain ⟨t2, a1, b1⟩ := kk u ra t T'.heap (locs ++ L) e1.symm (by rw [← e2]; exact X'.warmed.alike) hp hb k1 k2 k3 T' rfl X'
    exact ⟨t2, st t2 a1, b1⟩
  · obtain ⟨k1, k2, k3⟩ := vx_keep h0 e1 hS hAX hf hL hF
    obtain ⟨t2, a1, b1⟩ := kx E ce q u t T'.heap (locs ++ L) e1.symm (by rw [← e2]; exact X'.warmed.alike) hp hb k1 k2 k3 (by rw [e1]; exact hce) hcv hcl T' rfl X'
    exact ⟨t2, st.trans a1, b1⟩
def lkV (own C : String) (index : Nat) (y : MethodName) (cc : ByteArray) (nL : Nat) (rt : Option FieldType) (n : Nat) : Prop := GoodIn wsU (wsV own index C y (Cond.code y cc nL rt :: wsU)) ∧ (y.cls = C ∧ y.cls ≠ "java/lang/invoke/MethodHandle" ∧ y.cls ≠ "java/lang/invoke/VarHandle" ∧ (parseMethodDescriptor y.desc).map (fun d => d.parameters.length) = some n)
def lkS (own : String) (index : Nat) (y : MethodName) (cc : ByteArray) (nL : Nat) (rt : Option FieldType) (n : Nat) : Prop := GoodIn wsU (va_wsS own index y (Cond.code y cc nL rt :: wsU)) ∧ (y.cls ≠ "java/lang/invoke/MethodHandle" ∧ y.cls ≠ "java/lang/invoke/VarHandle" ∧ (parseMethodDescriptor y.desc).map (fun d => d.parameters.length) = some n)
theorem pre_V {H : Heap} {locs : List Loc} {C : String} {As : List Value} (hO : Ok Γ g cc nL own F Lc kc ns) {i : Nat} (hi : isO g i C) (hP : pw_P g x H) (hS : va_S (pA g) (qS Γ).heap H locs) : PreV (qS Γ) H C (gA g i) (va_Pc (.ref (gA g i) :: As) (pw_U g x)) As := by
  obtain ⟨hd, ci, N, T, hc, hf⟩ := hi
  obtain ⟨fs, hfs⟩ := hf (x i)
  obtain ⟨q0, h0, -⟩ := wl_at (g := g) (x := x) hd
  rw [hfs] at h0
  exact ⟨pw_U_blind _ _ _, va_recv (okk hO) hP hc h0, fun U hU hW => ⟨rfl, pw_end hO hP hS hU hW⟩⟩
theorem pre_S {H : Heap} {locs : List Loc} {As : List Value} (hO : Ok Γ g cc nL own F Lc kc ns) (hP : pw_P g x H) (hS : va_S (pA g) (qS Γ).heap H locs) : PreS (qS Γ) H (va_Pc As (pw_U g x)) As := ⟨pw_U_blind _ _ _, fun U hU hW => ⟨rfl, pw_end hO hP hS hU hW⟩⟩
theorem pAf {H : Heap} {g : Gl} : ∀ q, q < H.size → pA g q → pA g q := fun _ _ h => h
theorem z_callVI (hO : Ok Γ g cc nL own F Lc kc ns) {index nY na F' Lc' : Nat} {y : MethodName} {cy : ByteArray} {rt : FieldType} {C : String} {i : Nat} {post : Int → Me → Prop} {As : List Value} (hM : ctQ (qL Γ) g y cy nY (some rt) F' Lc' (.ref (gA g i) :: As) x (QIu g post)) (hk : lkV own C index y cy nY (some rt) na) (hi : isO g i C) (hn : As.length = na) (hcat : (st.map fun v => v.category).sum ≤ 8) (hF : F' + 1 ≤ F) (hLl : 8 + (nY + 11) + Lc' ≤ Lc) (hc : k ≤ kc ∧ n ≤ ns) (d : decode cc pc = .ok (.invokevirtual index, 3))
    (kk : ∀ (z : Int) (x' : Me), post z x' → Zz Γ g nL k n x' (pc + 3) lv (.int (zi z) :: st)) : Zz Γ g nL k n x pc lv (As.reverse ++ .ref (gA g i) :: st) := by
  intro H locs ls hP hS hv
  have hr := va_runV (p := qP Γ) (l := qL Γ) (e := qE Γ) (R := qR Γ) (below := qb Γ) (meth := qm Γ) (locs := locs) (cells := k) (slots := n) (As := As) (rest := st) (g := F0 (qM Γ) pc ls (As.reverse ++ .ref (gA g i) :: st)) ⟨okx hO, okb hO, okm hO, oko hO, okw hO⟩ hM (cwV na (okw hO) hk.1 rfl rfl rfl hk.2 ⟨by rw [okr hO]; exact hF, by rw [okr hO]; exact hLl⟩) (pre_V hO hi hP hS) rfl hn hv.1 rfl (lv_room hcat) d (by rw [okr hO]; exact hc)
  refine va_calli hr hS pAf (fun _ h => h) (fun r u t H1 locs1 ht hvm hw hB hz1 hk1 hS1 => by obtain ⟨z, rfl, hz⟩ := hw; exact kk z u hz H1 locs1 ls (pw_to ht hB) hS1 hv)
theorem z_callVL (hO : Ok Γ g cc nL own F Lc kc ns) {index nY na F' Lc' : Nat} {y : MethodName} {cy : ByteArray} {C : String} {i : Nat} {post : Int → Me → Prop} {As : List Value} (hM : ctQ (qL Γ) g y cy nY (some .long) F' Lc' (.ref (gA g i) :: As) x (QLu g post)) (hk : lkV own C index y cy nY (some .long) na) (hi : isO g i C) (hn : As.length = na) (hcat : (st.map fun v => v.category).sum ≤ 8) (hF : F' + 1 ≤ F) (hLl : 8 + (nY + 11) + Lc' ≤ Lc) (hc : k ≤ kc ∧ n ≤ ns) (d : decode cc pc = .ok (.invokevirtual index, 3))
    (kk : ∀ (z : Int) (x' : Me), post z x' → Zz Γ g nL k n x' (pc + 3) lv (.long (zl z) :: st)) : Zz Γ g nL k n x pc lv (As.reverse ++ .ref (gA g i) :: st) := by
  intro H locs ls hP hS hv
  have hr := va_runV (p := qP Γ) (l := qL Γ) (e := qE Γ) (R := qR Γ) (below := qb Γ) (meth := qm Γ) (locs := locs) (cells := k) (slots := n) (As := As) (rest := st) (g := F0 (qM Γ) pc ls (As.reverse ++ .ref (gA g i) :: st)) ⟨okx hO, okb hO, okm hO, oko hO, okw hO⟩ hM (cwV na (okw hO) hk.1 rfl rfl rfl hk.2 ⟨by rw [okr hO]; exact hF, by rw [okr hO]; exact hLl⟩) (pre_V hO hi hP hS) rfl hn hv.1 rfl (lv_room hcat) d (by rw [okr hO]; exact hc)
  refine va_calll hr hS pAf (fun _ h => h) (fun r u t H1 locs1 ht hvm hw hB hz1 hk1 hS1 => by obtain ⟨z, rfl, hz⟩ := hw; exact kk z u hz H1 locs1 ls (pw_to ht hB) hS1 hv)
theorem z_callVV (hO : Ok Γ g cc nL own F Lc kc ns) {index nY na F' Lc' : Nat} {y : MethodName} {cy : ByteArray} {C : String} {i : Nat} {post : Me → Prop} {As : List Value} (hM : ctQ (qL Γ) g y cy nY none F' Lc' (.ref (gA g i) :: As) x (QVu g post)) (hk : lkV own C index y cy nY none na) (hi : isO g i C) (hn : As.length = na) (hcat : (st.map fun v => v.category).sum ≤ 8) (hF : F' + 1 ≤ F) (hLl : 8 + (nY + 11) + Lc' ≤ Lc) (hc : k ≤ kc ∧ n ≤ ns) (d : decode cc pc = .ok (.invokevirtual index, 3))
    (kk : ∀ (x' : Me), post x' → Zz Γ g nL k n x' (pc + 3) lv st) : Zz Γ g nL k n x pc lv (As.reverse ++ .ref (gA g i) :: st) := by
  intro H locs ls hP hS hv
  have hr := va_runV (p := qP Γ) (l := qL Γ) (e := qE Γ) (R := qR Γ) (below := qb Γ) (meth := qm Γ) (locs := locs) (cells := k) (slots := n) (As := As) (rest := st) (g := F0 (qM Γ) pc ls (As.reverse ++ .ref (gA g i) :: st)) ⟨okx hO, okb hO, okm hO, oko hO, okw hO⟩ hM (cwV na (okw hO) hk.1 rfl rfl rfl hk.2 ⟨by rw [okr hO]; exact hF, by rw [okr hO]; exact hLl⟩) (pre_V hO hi hP hS) rfl hn hv.1 rfl (lv_room hcat) d (by rw [okr hO]; exact hc)
  refine va_callv hr hS pAf (fun _ h => h) (fun u t H1 locs1 ht hvm hw hB hz1 hk1 hS1 => kk u hw H1 locs1 ls (pw_to ht hB) hS1 hv)
theorem z_callSI (hO : Ok Γ g cc nL own F Lc kc ns) {index nY na F' Lc' : Nat} {y : MethodName} {cy : ByteArray} {rt : FieldType} {post : Int → Me → Prop} {As : List Value} (hM : ctQ (qL Γ) g y cy nY (some rt) F' Lc' As x (QIu g post)) (hk : lkS own index y cy nY (some rt) na) (hn : As.length = na) (hcat : (st.map fun v => v.category).sum ≤ 8) (hF : F' + 1 ≤ F) (hLl : 8 + (nY + 11) + Lc' ≤ Lc) (hc : k ≤ kc ∧ n ≤ ns) (d : decode cc pc = .ok (.invokestatic index, 3))
    (kk : ∀ (z : Int) (x' : Me), post z x' → Zz Γ g nL k n x' (pc + 3) lv (.int (zi z) :: st)) : Zz Γ g nL k n x pc lv (As.reverse ++ st) := by
  intro H locs ls hP hS hv
  have hr := va_runS (p := qP Γ) (l := qL Γ) (e := qE Γ) (R := qR Γ) (below := qb Γ) (meth := qm Γ) (locs := locs) (cells := k) (slots := n) (As := As) (rest := st) (g := F0 (qM Γ) pc ls (As.reverse ++ st)) ⟨okx hO, okb hO, okm hO, oko hO, okw hO⟩ hM (va_cwS na (okw hO) hk.1 rfl rfl rfl hk.2 ⟨by rw [okr hO]; exact hF, by rw [okr hO]; exact hLl⟩) (pre_S hO hP hS) rfl hn hv.1 rfl (lv_room hcat) d (by rw [okr hO]; exact hc)
  refine va_calli hr hS pAf (fun _ h => h) (fun r u t H1 locs1 ht hvm hw hB hz1 hk1 hS1 => by obtain ⟨z, rfl, hz⟩ := hw; exact kk z u hz H1 locs1 ls (pw_to ht hB) hS1 hv)
theorem z_callSL (hO : Ok Γ g cc nL own F Lc kc ns) {index nY na F' Lc' : Nat} {y : MethodName} {cy : ByteArray} {post : Int → Me → Prop} {As : List Value} (hM : ctQ (qL Γ) g y cy nY (some .long) F' Lc' As x (QLu g post)) (hk : lkS own index y cy nY (some .long) na) (hn : As.length = na) (hcat : (st.map fun v => v.category).sum ≤ 8) (hF : F' + 1 ≤ F) (hLl : 8 + (nY + 11) + Lc' ≤ Lc) (hc : k ≤ kc ∧ n ≤ ns) (d : decode cc pc = .ok (.invokestatic index, 3))
    (kk : ∀ (z : Int) (x' : Me), post z x' → Zz Γ g nL k n x' (pc + 3) lv (.long (zl z) :: st)) : Zz Γ g nL k n x pc lv (As.reverse ++ st) := by
  intro H locs ls hP hS hv
  have hr := va_runS (p := qP Γ) (l := qL Γ) (e := qE Γ) (R := qR Γ) (below := qb Γ) (meth := qm Γ) (locs := locs) (cells := k) (slots := n) (As := As) (rest := st) (g := F0 (qM Γ) pc ls (As.reverse ++ st)) ⟨okx hO, okb hO, okm hO, oko hO, okw hO⟩ hM (va_cwS na (okw hO) hk.1 rfl rfl rfl hk.2 ⟨by rw [okr hO]; exact hF, by rw [okr hO]; exact hLl⟩) (pre_S hO hP hS) rfl hn hv.1 rfl (lv_room hcat) d (by rw [okr hO]; exact hc)
  refine va_calll hr hS pAf (fun _ h => h) (fun r u t H1 locs1 ht hvm hw hB hz1 hk1 hS1 => by obtain ⟨z, rfl, hz⟩ := hw; exact kk z u hz H1 locs1 ls (pw_to ht hB) hS1 hv)
theorem z_callSV (hO : Ok Γ g cc nL own F Lc kc ns) {index nY na F' Lc' : Nat} {y : MethodName} {cy : ByteArray} {post : Me → Prop} {As : List Value} (hM : ctQ (qL Γ) g y cy nY none F' Lc' As x (QVu g post)) (hk : lkS own index y cy nY none na) (hn : As.length = na) (hcat : (st.map fun v => v.category).sum ≤ 8) (hF : F' + 1 ≤ F) (hLl : 8 + (nY + 11) + Lc' ≤ Lc) (hc : k ≤ kc ∧ n ≤ ns) (d : decode cc pc = .ok (.invokestatic index, 3))
    (kk : ∀ (x' : Me), post x' → Zz Γ g nL k n x' (pc + 3) lv st) : Zz Γ g nL k n x pc lv (As.reverse ++ st) := by
  intro H locs ls hP hS hv
  have hr := va_runS (p := qP Γ) (l := qL Γ) (e := qE Γ) (R := qR Γ) (below := qb Γ) (meth := qm Γ) (locs := locs) (cells := k) (slots := n) (As := As) (rest := st) (g := F0 (qM Γ) pc ls (As.reverse ++ st)) ⟨okx hO, okb hO, okm hO, oko hO, okw hO⟩ hM (va_cwS na (okw hO) hk.1 rfl rfl rfl hk.2 ⟨by rw [okr hO]; exact hF, by rw [okr hO]; exact hLl⟩) (pre_S hO hP hS) rfl hn hv.1 rfl (lv_room hcat) d (by rw [okr hO]; exact hc)
  refine va_callv hr hS pAf (fun _ h => h) (fun u t H1 locs1 ht hvm hw hB hz1 hk1 hS1 => kk u hw H1 locs1 ls (pw_to ht hB) hS1 hv)
theorem z_xcallVI (hO : Ok Γ g cc nL own F Lc kc ns) {index nY na F' Lc' : Nat} {y : MethodName} {cy : ByteArray} {rt : FieldType} {C : String} {i : Nat} {post : Int → Me → Prop} {As : List Value} {mc ms : Nat} {pY pX : String → Prop} {Qc : Qt} (hQ : qQ Γ = vx_MQ (qb Γ) Qc (XCu g pX x) (qa Γ) (qS Γ) kc ns (pA g)) (hh : ∀ y ∈ (qc Γ).exceptionTable.toList, False) (hpx : ∀ E, pY E → pX E) (hM : cxQ (qL Γ) g y cy nY (some rt) F' Lc' mc ms (.ref (gA g i) :: As) x (QIu g post) pY) (hk : lkV own C index y cy nY (some rt) na) (hi : isO g i C) (hn : As.length = na) (hcat : (st.map fun v => v.category).sum ≤ 8) (hF : F' + 1 ≤ F) (hLl : 8 + (nY + 11) + Lc' ≤ Lc) (hc : k + mc ≤ kc ∧ n + ms ≤ ns) (d : decode cc pc = .ok (.invokevirtual index, 3))
    (kk : ∀ (z : Int) (x' : Me), post z x' → Zz Γ g nL (k + mc) (n + ms) x' (pc + 3) lv (.int (zi z) :: st)) : Zz Γ g nL k n x pc lv (As.reverse ++ .ref (gA g i) :: st) := by
  intro H locs ls hP hS hv
  have hr := vx_runV (p := qP Γ) (l := qL Γ) (e := qE Γ) (R := qR Γ) (below := qb Γ) (meth := qm Γ) (locs := locs) (cells := k) (slots := n) (As := As) (rest := st) (g := F0 (qM Γ) pc ls (As.reverse ++ .ref (gA g i) :: st)) ⟨okx hO, okb hO, okm hO, oko hO, okw hO⟩ hM (cwV na (okw hO) hk.1 rfl rfl rfl hk.2 ⟨by rw [okr hO]; exact hF, by rw [okr hO]; exact hLl⟩) (pre_V hO hi hP hS) rfl hn hv.1 rfl (lv_room hcat) d (by rw [okr hO]; exact hc)
  refine vx_calli hr hS pAf (fun _ h => h) pAf (fun E ce q9 u t H1 locs1 ht hvm hp hB hz1 hk1 hS1 hce hcv hcl => ?_) (fun r u t H1 locs1 ht hvm hw hB hz1 hk1 hS1 => by obtain ⟨z, rfl, hz⟩ := hw; exact kk z u hz H1 locs1 ls (pw_to ht hB) hS1 hv)
  rw [hQ]
  exact vx_out (fun y hy => absurd hy (fun h => hh y h)) (okl hO) hce hcv hcl (fun t' ht' hvm' => ⟨(), trivial, ⟨hpx E hB.1, (pw_at ht' (pw_to ht hB.2))⟩, hS1.F ht'⟩) (loc_free hS1) hc.1 hc.2
theorem z_xcallVL (hO : Ok Γ g cc nL own F Lc kc ns) {index nY na F' Lc' : Nat} {y : MethodName} {cy : ByteArray} {C : String} {i : Nat} {post : Int → Me → Prop} {As : List Value} {mc ms : Nat} {pY pX : String → Prop} {Qc : Qt} (hQ : qQ Γ = vx_MQ (qb Γ) Qc (XCu g pX x) (qa Γ) (qS Γ) kc ns (pA g)) (hh : ∀ y ∈ (qc Γ).exceptionTable.toList, False) (hpx : ∀ E, pY E → pX E) (hM : cxQ (qL Γ) g y cy nY (some .long) F' Lc' mc ms (.ref (gA g i) :: As) x (QLu g post) pY) (hk : lkV own C index y cy nY (some .long) na) (hi : isO g i C) (hn : As.length = na) (hcat : (st.map fun v => v.category).sum ≤ 8) (hF : F' + 1 ≤ F) (hLl : 8 + (nY + 11) + Lc' ≤ Lc) (hc : k + mc ≤ kc ∧ n + ms ≤ ns) (d : decode cc pc = .ok (.invokevirtual index, 3))
    (kk : ∀ (z : Int) (x' : Me), post z x' → Zz Γ g nL (k + mc) (n + ms) x' (pc + 3) lv (.long (zl z) :: st)) : Zz Γ g nL k n x pc lv (As.reverse ++ .ref (gA g i) :: st) := by
  intro H locs ls hP hS hv
  have hr := vx_runV (p := qP Γ) (l := qL Γ) (e := qE Γ) (R := qR Γ) (below := qb Γ) (meth := qm Γ) (locs := locs) (cells := k) (slots := n) (As := As) (rest := st) (g := F0 (qM Γ) pc ls (As.reverse ++ .ref (gA g i) :: st)) ⟨okx hO, okb hO, okm hO, oko hO, okw hO⟩ hM (cwV na (okw hO) hk.1 rfl rfl rfl hk.2 ⟨by rw [okr hO]; exact hF, by rw [okr hO]; exact hLl⟩) (pre_V hO hi hP hS) rfl hn hv.1 rfl (lv_room hcat) d (by rw [okr hO]; exact hc)
  refine vx_calll hr hS pAf (fun _ h => h) pAf (fun E ce q9 u t H1 locs1 ht hvm hp hB hz1 hk1 hS1 hce hcv hcl => ?_) (fun r u t H1 locs1 ht hvm hw hB hz1 hk1 hS1 => by obtain ⟨z, rfl, hz⟩ := hw; exact kk z u hz H1 locs1 ls (pw_to ht hB) hS1 hv)
  rw [hQ]
  exact vx_out (fun y hy => absurd hy (fun h => hh y h)) (okl hO) hce hcv hcl (fun t' ht' hvm' => ⟨(), trivial, ⟨hpx E hB.1, (pw_at ht' (pw_to ht hB.2))⟩, hS1.F ht'⟩) (loc_free hS1) hc.1 hc.2
theorem z_xcallVV (hO : Ok Γ g cc nL own F Lc kc ns) {index nY na F' Lc' : Nat} {y : MethodName} {cy : ByteArray} {C : String} {i : Nat} {post : Me → Prop} {As : List Value} {mc ms : Nat} {pY pX : String → Prop} {Qc : Qt} (hQ : qQ Γ = vx_MQ (qb Γ) Qc (XCu g pX x) (qa Γ) (qS Γ) kc ns (pA g)) (hh : ∀ y ∈ (qc Γ).exceptionTable.toList, False) (hpx : ∀ E, pY E → pX E) (hM : cxQ (qL Γ) g y cy nY none F' Lc' mc ms (.ref (gA g i) :: As) x (QVu g post) pY) (hk : lkV own C index y cy nY none na) (hi : isO g i C) (hn : As.length = na) (hcat : (st.map fun v => v.category).sum ≤ 8) (hF : F' + 1 ≤ F) (hLl : 8 + (nY + 11) + Lc' ≤ Lc) (hc : k + mc ≤ kc ∧ n + ms ≤ ns) (d : decode cc pc = .ok (.invokevirtual index, 3))
    (kk : ∀ (x' : Me), post x' → Zz Γ g nL (k + mc) (n + ms) x' (pc + 3) lv st) : Zz Γ g nL k n x pc lv (As.reverse ++ .ref (gA g i) :: st) := by
  intro H locs ls hP hS hv
  have hr := vx_runV (p := qP Γ) (l := qL Γ) (e := qE Γ) (R := qR Γ) (below := qb Γ) (meth := qm Γ) (locs := locs) (cells := k) (slots := n) (As := As) (rest := st) (g := F0 (qM Γ) pc ls (As.reverse ++ .ref (gA g i) :: st)) ⟨okx hO, okb hO, okm hO, oko hO, okw hO⟩ hM (cwV na (okw hO) hk.1 rfl rfl rfl hk.2 ⟨by rw [okr hO]; exact hF, by rw [okr hO]; exact hLl⟩) (pre_V hO hi hP hS) rfl hn hv.1 rfl (lv_room hcat) d (by rw [okr hO]; exact hc)
  refine vx_callv hr hS pAf (fun _ h => h) pAf (fun E ce q9 u t H1 locs1 ht hvm hp hB hz1 hk1 hS1 hce hcv hcl => ?_) (fun u t H1 locs1 ht hvm hw hB hz1 hk1 hS1 => kk u hw H1 locs1 ls (pw_to ht hB) hS1 hv)
  rw [hQ]
  exact vx_out (fun y hy => absurd hy (fun h => hh y h)) (okl hO) hce hcv hcl (fun t' ht' hvm' => ⟨(), trivial, ⟨hpx E hB.1, (pw_at ht' (pw_to ht hB.2))⟩, hS1.F ht'⟩) (loc_free hS1) hc.1 hc.2
theorem z_xcallVR (hO : Ok Γ g cc nL own F Lc kc ns) {index nY na F' Lc' : Nat} {y : MethodName} {cy : ByteArray} {rt : FieldType} {C : String} {i : Nat} {post : Nat → Me → Prop} {As : List Value} {mc ms : Nat} {pY pX : String → Prop} {Qc : Qt} (hQ : qQ Γ = vx_MQ (qb Γ) Qc (XCu g pX x) (qa Γ) (qS Γ) kc ns (pA g)) (hh : ∀ y ∈ (qc Γ).exceptionTable.toList, False) (hpx : ∀ E, pY E → pX E) (hM : cxQ (qL Γ) g y cy nY (some rt) F' Lc' mc ms (.ref (gA g i) :: As) x (QRu g post) pY) (hk : lkV own C index y cy nY (some rt) na) (hi : isO g i C) (hn : As.length = na) (hcat : (st.map fun v => v.category).sum ≤ 8) (hF : F' + 1 ≤ F) (hLl : 8 + (nY + 11) + Lc' ≤ Lc) (hc : k + mc ≤ kc ∧ n + ms ≤ ns) (d : decode cc pc = .ok (.invokevirtual index, 3))
    (kk : ∀ (j : Nat) (x' : Me), post j x' → Zz Γ g nL (k + mc) (n + ms) x' (pc + 3) lv (.ref (gA g j) :: st)) : Zz Γ g nL k n x pc lv (As.reverse ++ .ref (gA g i) :: st) := by
  intro H locs ls hP hS hv
  have hr := vx_runV (p := qP Γ) (l := qL Γ) (e := qE Γ) (R := qR Γ) (below := qb Γ) (meth := qm Γ) (locs := locs) (cells := k) (slots := n) (As := As) (rest := st) (g := F0 (qM Γ) pc ls (As.reverse ++ .ref (gA g i) :: st)) ⟨okx hO, okb hO, okm hO, oko hO, okw hO⟩ hM (cwV na (okw hO) hk.1 rfl rfl rfl hk.2 ⟨by rw [okr hO]; exact hF, by rw [okr hO]; exact hLl⟩) (pre_V hO hi hP hS) rfl hn hv.1 rfl (lv_room hcat) d (by rw [okr hO]; exact hc)
  refine vy_callr hr hS pAf (fun _ h => h) pAf (fun E ce q9 u t H1 locs1 ht hvm hp hB hz1 hk1 hS1 hce hcv hcl => ?_) (fun u a t H1 locs1 ht hvm hw hB hz1 hk1 hS1 => by obtain ⟨rfl, hB⟩ := hB; exact kk u.1 u.2 hw H1 locs1 ls (pw_to ht hB) hS1 hv)
  rw [hQ]
  exact vx_out (fun y hy => absurd hy (fun h => hh y h)) (okl hO) hce hcv hcl (fun t' ht' hvm' => ⟨(), trivial, ⟨hpx E hB.1, (pw_at ht' (pw_to ht hB.2))⟩, hS1.F ht'⟩) (loc_free hS1) hc.1 hc.2
theorem z_xcallSV (hO : Ok Γ g cc nL own F Lc kc ns) {index nY na F' Lc' : Nat} {y : MethodName} {cy : ByteArray} {post : Me → Prop} {As : List Value} {mc ms : Nat} {pY pX : String → Prop} {Qc : Qt} (hQ : qQ Γ = vx_MQ (qb Γ) Qc (XCu g pX x) (qa Γ) (qS Γ) kc ns (pA g)) (hh : ∀ y ∈ (qc Γ).exceptionTable.toList, False) (hpx : ∀ E, pY E → pX E) (hM : cxQ (qL Γ) g y cy nY none F' Lc' mc ms As x (QVu g post) pY) (hk : lkS own index y cy nY none na) (hn : As.length = na) (hcat : (st.map fun v => v.category).sum ≤ 8) (hF : F' + 1 ≤ F) (hLl : 8 + (nY + 11) + Lc' ≤ Lc) (hc : k + mc ≤ kc ∧ n + ms ≤ ns) (d : decode cc pc = .ok (.invokestatic index, 3))
    (kk : ∀ (x' : Me), post x' → Zz Γ g nL (k + mc) (n + ms) x' (pc + 3) lv st) : Zz Γ g nL k n x pc lv (As.reverse ++ st) := by
  intro H locs ls hP hS hv
  have hr := vx_runS (p := qP Γ) (l := qL Γ) (e := qE Γ) (R := qR Γ) (below := qb Γ) (meth := qm Γ) (locs := locs) (cells := k) (slots := n) (As := As) (rest := st) (g := F0 (qM Γ) pc ls (As.reverse ++ st)) ⟨okx hO, okb hO, okm hO, oko hO, okw hO⟩ hM (va_cwS na (okw hO) hk.1 rfl rfl rfl hk.2 ⟨by rw [okr hO]; exact hF, by rw [okr hO]; exact hLl⟩) (pre_S hO hP hS) rfl hn hv.1 rfl (lv_room hcat) d (by rw [okr hO]; exact hc)
  refine vx_callv hr hS pAf (fun _ h => h) pAf (fun E ce q9 u t H1 locs1 ht hvm hp hB hz1 hk1 hS1 hce hcv hcl => ?_) (fun u t H1 locs1 ht hvm hw hB hz1 hk1 hS1 => kk u hw H1 locs1 ls (pw_to ht hB) hS1 hv)
  rw [hQ]
  exact vx_out (fun y hy => absurd hy (fun h => hh y h)) (okl hO) hce hcv hcl (fun t' ht' hvm' => ⟨(), trivial, ⟨hpx E hB.1, (pw_at ht' (pw_to ht hB.2))⟩, hS1.F ht'⟩) (loc_free hS1) hc.1 hc.2
end Ends
