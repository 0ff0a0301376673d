/-! ===== BEGIN a static call of a method with an exception table ===== -/
section VXS
variable {p : Program} {l : Launch} {e : Env} {R : Room} {s : State} {m : MethodId} {args : Array Value} {below : List Frame} {meth : Method} {c : Code} {T : State} {H : Heap} {locs : List Loc} {cells slots : Nat}
abbrev vx_CSW (R : Room) (s : State) (args : Array Value) (own : String) (index : Nat) (y : MethodName) (bytes : ByteArray) (maxL : Nat) (ret : Option FieldType) (hh : List (Nat × Nat × Nat × Nat)) (ws : List Cond) (rm : Room) (mc ms n : Nat) : Prop :=
  (rm.cells = mc ∧ rm.slots = ms ∧ rm.frames + 1 ≤ R.frames ∧ 8 + (maxL + 11) + rm.locals ≤ R.locals ∧ (∀ w ∈ ws, ∀ (a' : Array Value) (U : State), s.WarmedH U.vm → w.before a' U = true) ∧ Cond.codeWith y bytes maxL ret hh ∈ ws) ∧
  (Cond.codeWith y bytes maxL ret hh).before args s = true ∧ (Cond.initialized y.cls).before args s = true ∧ (y.cls ≠ "java/lang/invoke/MethodHandle" ∧ y.cls ≠ "java/lang/invoke/VarHandle") ∧
  (∀ sig, parseMethodDescriptor y.desc = some sig → n = sig.parameters.length) ∧ (Cond.methodLink own index y).before args s = true ∧ (Cond.static y).before args s = true
theorem vx_cwSW {own : String} {index maxL mc ms : Nat} {y : MethodName} {bytes : ByteArray} {ret : Option FieldType} {hh : List (Nat × Nat × Nat × Nat)} {Ts ws ws' : List Cond} {rm : Room} (n : Nat) (ht : ∀ w ∈ Ts, w.before args s = true) (hT : GoodIn Ts (va_wsS own index y ws)) (hw : ws = Cond.codeWith y bytes maxL ret hh :: ws') (hrc : rm.cells = mc) (hrs : rm.slots = ms)
    (hd : y.cls ≠ "java/lang/invoke/MethodHandle" ∧ y.cls ≠ "java/lang/invoke/VarHandle" ∧ (parseMethodDescriptor y.desc).map (fun d => d.parameters.length) = some n) (hR : rm.frames + 1 ≤ R.frames ∧ 8 + (maxL + 11) + rm.locals ≤ R.locals) :
    vx_CSW R s args own index y bytes maxL ret hh ws rm mc ms n := by
  have ok : ∀ w ∈ va_wsS own index y ws, w.before args s = true := fun w h => ht w (hT w h).1
  have hG : GoodIn Ts ws := fun w h => hT w (by unfold va_wsS; exact List.mem_append_right _ h)
  have hc : Cond.codeWith y bytes maxL ret hh ∈ ws := by rw [hw]; exact List.mem_cons_self
  refine ⟨⟨hrc, hrs, hR.1, hR.2, pay_in ht hG, hc⟩, ht _ (hG _ hc).1, ok _ (by simp [va_wsS]), ⟨hd.1, hd.2.1⟩, fun sig h => ?_, ok _ (by simp [va_wsS]), ok _ (by simp [va_wsS])⟩
  have h2 := hd.2.2
  rw [h] at h2
  exact (Option.some.inj h2).symm
theorem vx_callSW (X : Stand p l e R s m args below meth c T locs cells slots) (hexec : p.tables.exec = Jvm.exec) {own : String} {index : Nat} {y : MethodName} {bytes : ByteArray} {maxL : Nat} {ret : Option FieldType} {hh : List (Nat × Nat × Nat × Nat)}
    (hown : s.vm.findClass own = some m.cls) (hlink : (Cond.methodLink own index y).before args s = true) (hstat : (Cond.static y).before args s = true) (hinit : (Cond.initialized y.cls).before args s = true)
    (hcode : (Cond.codeWith y bytes maxL ret hh).before args s = true) (hy : y.cls ≠ "java/lang/invoke/MethodHandle" ∧ y.cls ≠ "java/lang/invoke/VarHandle")
    {W9 : Nat} {Pre : Pt → Array Value → Prop} {Post : Pt → Array Value → Option Value → Pt → Prop} (hK : Back l R p e below s args y 3 W9 Pre Post)
    {g : JFrame} (hg : g.method = m) (hsize : g.locals.size = c.maxLocals) {argsL rest : List Value} (hlen : ∀ sig, parseMethodDescriptor y.desc = some sig → argsL.length = sig.parameters.length)
    (hstack : g.stack = argsL.reverse ++ rest) (hW : 2 * g.monitorRoom + (rest.map fun v => v.category).sum ≤ W9) (hdg : decode c.code g.pc = .ok (.invokestatic index, 3))
    (hpre : ∀ vm₁, s.WarmedH vm₁ → Pre ⟨T.setVm vm₁, locs, cells, slots⟩ argsL.toArray) :
    ∃ (v : Option Value) (vm₁ : Vm) (B : Pt), s.WarmedH vm₁ ∧ Stand p l e R s m args below meth c B.U B.locs B.cells B.slots ∧ Post ⟨T.setVm vm₁, locs, cells, slots⟩ argsL.toArray v B ∧
      ∀ target, Steps p.tables e below (B.U.setTop { g with pc := g.pc + 3, stack := v.toList ++ rest }) target → Steps p.tables e below (T.setTop g) target := by
  obtain ⟨mk, methM, cM, hnamed, hmethM, -, -, -, -, -, -, hsigM⟩ := Cond.codeWith_spec hcode
  have hstatic : methM.isStatic = true := Cond.static_spec hnamed hmethM hstat
  obtain ⟨kP, hkP, -⟩ := className_of_methodNamed hnamed
  have hinitP : kP.init = .initialized := Cond.initialized_spec (findClass_of_methodNamed hnamed) hkP hinit
  obtain ⟨vm₁, X₁, hstep₁⟩ := X.invokestatic hexec hown hlink hnamed hmethM hstatic hkP hinitP hy (g := g) hg (argsL := argsL) (rest := rest) (hlen _ hsigM) hstack hdg
  obtain ⟨v, B, X', hpost, hsteps⟩ := hK m meth c ⟨T.setVm vm₁, locs, cells, slots⟩ { g with stack := rest } (.invokestatic index) mk argsL.toArray X₁ hg hsize hdg hW (X₁.named hnamed) (hpre vm₁ X₁.warmed)
  exact ⟨v, vm₁, B, X₁.warmed, X', hpost, fun target h => hstep₁ _ fun acts => by rw [doInvoke_state]; exact hsteps.trans h⟩
theorem vx_runSW {y : MethodName} {bytes cc : ByteArray} {maxL nL mc ms n index : Nat} {ret : Option FieldType} {hh : List (Nat × Nat × Nat × Nat)} {ws : List Cond} {rm : Room} {Pc : Array Value → State → Prop} {Qc : Array Value → State → Outcome → State → Prop} {free : Addr → Prop} {Ts : List Cond} {own : String} {As rest : List Value} {g : JFrame}
    (S : CallFix p m c cc nL s args Ts own) (hM : Met l y ws rm Pc Qc mc ms free) (cw : vx_CSW R s args own index y bytes maxL ret hh ws rm mc ms n) (hp : PreS s H Pc As)
    (hg : g.method = m) (hn : As.length = n) (hsize : g.locals.size = nL) (hstack : g.stack = As.reverse ++ rest) (hW : 2 * g.monitorRoom + (rest.map fun v => v.category).sum ≤ 8) (hdg : decode cc g.pc = .ok (.invokestatic index, 3)) (hf : cells + mc ≤ R.cells ∧ slots + ms ≤ R.slots) :
    va_Run p l e R s m args below meth c H locs cells slots mc ms g rest (Qc As.toArray) (free) := by
  obtain ⟨⟨hrc, hrs, hfr, hlo, hws, hcw⟩, hcode, hini, hy, hlen, hl, hstt⟩ := cw
  have hK : Back l R p e below s args y 3 8 (PreOf R mc ms Pc) (PostOf Qc mc ms free) := va_backW (hh := hh) (bytes := bytes) (maxL := maxL) (ret := ret) hM hp.1 hrc hrs hfr hlo hws hcw (fun a' U hW => word_at hW (Or.inl (by first | rfl | simp [Cond.onTables, Cond.keeps, Cond.steady])) hini)
  obtain ⟨hx, hb, hml, ho, -⟩ := S
  intro T hT X
  obtain ⟨v, vm₁, ⟨U', l2, c2, s2⟩, hW₁, X', ⟨g', mk, t, L, e1, e2, hq, h1, hL, h2, h3⟩, st⟩ := vx_callSW X hx (hh := hh) (bytes := bytes) (maxL := maxL) (ret := ret) ho hl hstt hini hcode hy hK hg (hsize.trans hml.symm) (argsL := As) (rest := rest) (fun sig h => hn.trans (hlen sig h)) hstack hW (by rw [hb]; exact hdg)
    (fun vm₁ hW₁ => ⟨hf.1, hf.2, hp.2 (T.setVm vm₁) hT hW₁⟩)
  dsimp only [Pt.U, Pt.locs, Pt.cells, Pt.slots] at X' e1 e2 h1 h2 h3 st
  subst h1; subst h2; subst h3
  exact ⟨v, (T.setVm vm₁).calling g' mk As.toArray, t, U', L, hT, X', hL, e1, e2, hq, st⟩
/-- not caught here, past rows that name other classes: it goes on to the caller -/
theorem vx_outP {p : Program} {l : Launch} {e : Env} {R : Room} {s : State} {m : MethodId} {args : Array Value} {below : List Frame} {meth : Method} {c : Code} {H : Heap} {locs : List Loc} {cells slots : Nat} {free : Addr → Prop} {ls : Array Slot} {rest : List Value} {Qc : Array Value → State → Outcome → State → Prop} {XC : String → State → State → Prop}
    {pc : Nat} {own E : String} {ce : Cell} {q : Addr} {mc ms : Nat} (hown : s.vm.findClass own = some m.cls) (hlocks : meth.locks = false)
    (hpass : ∀ z ∈ c.exceptionTable.toList, covers z pc = false ∨ (z.catchType ≠ 0 ∧ ∃ nm : String, (Cond.classLink own z.catchType nm).before args s = true ∧ va_Nc E nm s)) (hcell : H[q]? = some ce) (hv : ce.vm = .none) (hcl : s.vm.findClass E = some ce.cls)
    (hx : ∀ t : State, t.heap = H → s.vm.Alike t.vm → XC E s t) (hf : ∀ z ∈ locs, free z.base) (hc : cells ≤ mc) (hs : slots ≤ ms) :
    vx_W p l e R s m args below meth c H locs cells slots (vx_MQ below Qc XC args s mc ms free) (F0 m pc ls rest) q := by
  intro T hT X
  have hpl : e.platform.magicAccessors = ({} : Platform).magicAccessors := by rw [X.admits.platform]
  obtain ⟨vm', hW', X', st⟩ := X.outThrough hlocks q (g := F0 m pc ls rest) rfl rfl rfl (cell := ce) (by rw [hT]; exact hcell) (by rw [hv]; rfl)
    (by obtain ⟨k9, h9, -⟩ := Vm.findClass_spec hcl; exact ⟨k9, h9⟩) (fun z hz => by
      rcases hpass z hz with h | ⟨hz0, nm, hl1, hn1⟩
      · exact Or.inl h
      · obtain ⟨c6, hc6, hcl6⟩ := Cond.classLink_spec hown hl1 e.platform hpl
        obtain ⟨a8, b8, h1, h2, h3⟩ := hn1
        cases Option.some.inj (h1.symm.trans hcl)
        cases Option.some.inj (h2.symm.trans hc6)
        exact Or.inr ⟨hz0, _, hcl6, h3⟩)
  obtain ⟨g₀, hfr⟩ := X'.frames_eq
  have hcell9 : ((T.setVm vm').setFrames (.throwing q :: below)).heap[q]? = some ce := by
    show T.heap[q]? = some ce
    rw [hT]; exact hcell
  have hend : Ended ((T.setVm vm').setFrames (.throwing q :: below)) below (.threw q) := State.frames_setFrames _ (State.cur_lt_of_frames hfr)
  refine ⟨(T.setVm vm').setFrames (.throwing q :: below), ?_, .threw q, X'.here.running, hend, Or.inr ⟨q, rfl, E, ce, locs, hx _ hT (X'.ends _).1.alike, hcell9, hv, hcl, (X'.ends _).1, (X'.ends _).2.mono hc hs, hf⟩⟩
  rw [X.pushThrowing_eq]
  exact st
/-- a thing of a world lies in the heap -/
theorem vx_lt {D : va_G} {cl : List vw_C} {ws : va_W} {H1 : Heap} (h : va_P D cl ws H1) {k : Nat} {q : Nat × va_E} (hk : ws[k]? = some q) : q.1 < H1.size := (h k q hk).lt
end VXS
/-! ===== END ===== -/
/-! the law's wrappers: methods with a table -/
def pw_N (U : State) : Prop := (va_Nc eIA eIO U ∧ va_Nc eIS eIO U ∧ va_Nc eIS eIA U) ∧ va_Nw (.castable eIO eIO) U ∧ va_Nw (.castable eIA eIA) U ∧ va_Nw (.castable eIS eIS) U
theorem pw_N.warm {s U : State} (hW : s.WarmedH U.vm) (h : pw_N s) : pw_N U := ⟨⟨h.1.1.moved hW.alike, h.1.2.1.moved hW.alike, h.1.2.2.moved hW.alike⟩, va_Nw.warmC hW h.2.1, va_Nw.warmC hW h.2.2.1, va_Nw.warmC hW h.2.2.2⟩
theorem pw_N.same {u U : State} (hv : u.vm = U.vm) (h : pw_N u) : pw_N U := ⟨⟨h.1.1.moved (hv ▸ Vm.Alike.refl u.vm), h.1.2.1.moved (hv ▸ Vm.Alike.refl u.vm), h.1.2.2.moved (hv ▸ Vm.Alike.refl u.vm)⟩, va_Nw.same rfl hv h.2.1, va_Nw.same rfl hv h.2.2.1, va_Nw.same rfl hv h.2.2.2⟩
theorem wl_B : Cond.classLink RL 21 eIO ∈ wsU := tb2 (i := 83) rfl rfl
theorem wl_I : Cond.classLink RL 13 eIA ∈ wsU := tb2 (i := 27) rfl rfl
theorem wl_S : Cond.classLink RL 15 eIS ∈ wsU := tb2 (i := 28) rfl rfl
theorem ofWL {l : Launch} {y : MethodName} {ws ws' : List Cond} {rm : Room} {Pc : Array Value → State → Prop} {Qc : Array Value → State → Outcome → State → Prop} {mc ms : Nat} {free : Addr → Prop} {cc : ByteArray} {maxL : Nat} {ret : Option FieldType} {hh : List (Nat × Nat × Nat × Nat)}
    (hy : plainFor y = true) (hw : ws = Cond.codeWith y cc maxL ret hh :: ws')
    (body : ∀ p e s m args below meth c s₁, BodyLoose p l y (headSpec ws rm) cc maxL ret e s m args below meth c s₁ → c.maxLocals = maxL → c.exceptionTable.toList = tableOf hh → Pc args s →
      W p l e (headSpec ws rm).room s m args below meth c s.heap [] 0 0 (MQ below Qc args s mc ms free) (entryFrame m args maxL)) : Met l y ws rm Pc Qc mc ms free := by
  refine MetFree.of_bodySF (code := cc) (maxLocals := maxL) (ret := ret) hy ?_ ?_
  · intro args s m h hn
    obtain ⟨m9, meth, c, hn9, h1, h2, h3, h4, -, h5, h6, -⟩ := Cond.codeWith_spec (atoms_spec (ws := ws) h _ (by rw [hw]; exact List.mem_cons_self))
    cases hn.symm.trans hn9
    exact ⟨meth, c, h1, h2, h3, h4, h5, h6⟩
  · intro p e s m args below meth c s₁ B hml hP _
    have hh0 : s₁.heap = s.heap := by rw [B.state]; rfl
    have htab := vx_table (x := y) B (atoms_spec (ws := ws) B.pre _ (by rw [hw]; exact List.mem_cons_self))
    obtain ⟨t, a1, o, b1, b2, b3⟩ := body p e s m args below meth c s₁ B hml htab hP s₁ hh0 (Stand.of_body B)
    exact ⟨t, o, a1, b1, b2, ⟨b3.1, b3.2⟩⟩
def pw_UN (g : Gl) (x : Me) (U : State) : Prop := pw_U g x U ∧ pw_N U
theorem pw_UN_blind (g : Gl) (x : Me) (av : List Value) : FrameBlind (va_Pc av (pw_UN g x)) := by
  intro a U f mk h
  obtain ⟨h0, h1, h2⟩ := h
  obtain ⟨q0, q1⟩ := pw_U_blind g x av a U f mk ⟨h0, h1⟩
  exact ⟨q0, q1, h2.same (u := U) (U := U.calling f mk a) rfl⟩
def ctL (l : Launch) (g : Gl) (y : MethodName) (cc : ByteArray) (nL : Nat) (hh : List (Nat × Nat × Nat × Nat)) (F Lc mc ms : Nat) (av : List Value) (x : Me) (Qc : Qt) : Prop :=
  Met l y (.codeWith y cc nL (some .int) hh :: wsU) (rmm F Lc mc ms) (va_Pc av (pw_UN g x)) Qc mc ms (pA g)
section Lrows
variable {Γ : Gam} {g : Gl} {cc : ByteArray} {own : String} {nL k n F Lc kc ns pc : Nat} {x : Me} {lv : List (Nat × Value)} {st : List Value}
theorem cl_start {l : Launch} {y : MethodName} {av : List Value} {Qc : Qt} {hh : List (Nat × Nat × Nat × Nat)} {mc ms : Nat} (hy : plainFor y = true) (hown : y.cls = own) (hav : (lg_sl av).length ≤ nL) (hl : lv_args 0 av = lv)
    (body : ∀ Γ : Gam, qL Γ = l → Ok Γ g cc nL own F Lc mc ms → (qm Γ).sig.returnType = some .int → qQ Γ = MQ (qb Γ) Qc (qa Γ) (qS Γ) mc ms (pA g) → (qc Γ).exceptionTable.toList = tableOf hh → pw_N (qS Γ) → Zz Γ g nL 0 0 x 0 lv []) : ctL l g y cc nL hh F Lc mc ms av x Qc := by
  refine ofWL (cc := cc) (maxL := nL) (ret := some .int) hy rfl ?_
  intro p e s m args below meth c s₁ B hml htab hv
  obtain ⟨rfl, hU, hN⟩ := hv
  have hts := atoms_spec (ws := Cond.codeWith y cc nL (some .int) hh :: wsU) B.pre
  have hO : Ok (p, l, e, (headSpec (.codeWith y cc nL (some .int) hh :: wsU) (rmm F Lc mc ms)).room, s, m, av.toArray, below, meth, c, MQ below Qc av.toArray s mc ms (pA g)) g cc nL own F Lc mc ms := by
    obtain ⟨h1, h2, h3, h4, h5, h6, h7⟩ := id hU
    refine ⟨B.exec, B.bytes, hml, ?_, fun w hw => hts w (List.mem_cons_of_mem _ hw), h2, h3, h4, h5, h6, rfl, B.notSynchronized, h7⟩
    rw [← hown]
    exact findClass_of_methodNamed B.named
  have hb := body _ rfl hO B.returns rfl htab hN s.heap [] _ hU.1 va_S.rf (by rw [← hl]; exact lv_entry av (n := nL) hav)
  rw [lg_entry_eq]
  exact hb
theorem z_i2lq (hO : Ok Γ g cc nL own F Lc kc ns) {a : Int} (d : decode cc pc = .ok (.i2l, 1)) (kk : Zz Γ g nL k n x (pc + 1) lv (.long (zl (zi a).toInt) :: st)) : Zz Γ g nL k n x pc lv (.int (zi a) :: st) := by
  have h := z_i2l (k := k) (n := n) (x := x) (lv := lv) (st := st) hO (a := (zi a).toInt) d (zi_rng _) kk
  rw [zi_all] at h
  exact h
/-- a call that throws E, and is caught by this method's own table -/
theorem z_callC (hO : Ok Γ g cc nL own F Lc kc ns) {hh : List (Nat × Nat × Nat × Nat)} (ht : (qc Γ).exceptionTable.toList = tableOf hh) {E : String} (pre : List ExceptionTableEntry) (x0 : ExceptionTableEntry) (suf : List ExceptionTableEntry) (hsp : tableOf hh = pre ++ x0 :: suf) (hpass : ∀ z ∈ pre, z.catchType ≠ 0 ∧ ∃ nm, Cond.classLink own z.catchType nm ∈ wsU ∧ va_Nc E nm (qS Γ)) (hx : covers x0 pc = true) (h0 : x0.catchType ≠ 0) (hlink : Cond.classLink own x0.catchType E ∈ wsU) (hcast : va_Nw (.castable E E) (qS Γ))
    {index nY na F' Lc' : Nat} {y : MethodName} {cy : ByteArray} {rt : FieldType} {C : String} {i : Nat} {As : List Value} {mc ms : Nat} {pY : String → Prop} {Qc : Qt} (hQc : Qc = QIu g (fun _ _ => False) ∨ Qc = QLu g (fun _ _ => False)) (hpY : ∀ E', pY E' → E' = E) (hM : cxQ (qL Γ) g y cy nY (some rt) F' Lc' mc ms (.ref (gA g i) :: As) x Qc pY) (hk : lkV own C index y cy nY (some rt) na) (hi : isO g i C) (hn : As.length = na) (hcat : (st.map fun v => v.category).sum ≤ 8) (hF : F' + 1 ≤ F) (hLl : 8 + (nY + 11) + Lc' ≤ Lc) (hc : k + mc ≤ kc ∧ n + ms ≤ ns) (d : decode cc pc = .ok (.invokevirtual index, 3))
    (kk : ∀ v : Nat, Zz Γ g nL (k + mc) (n + ms) x x0.handlerPc lv [.ref v]) : Zz Γ g nL k n x pc lv (As.reverse ++ .ref (gA g i) :: st) := by
  intro H locs ls hP hS hv
  have hr := vx_runV (p := qP Γ) (l := qL Γ) (e := qE Γ) (R := qR Γ) (below := qb Γ) (meth := qm Γ) (locs := locs) (cells := k) (slots := n) (As := As) (rest := st) (g := F0 (qM Γ) pc ls (As.reverse ++ .ref (gA g i) :: st)) ⟨okx hO, okb hO, okm hO, oko hO, okw hO⟩ hM (cwV na (okw hO) hk.1 rfl rfl rfl hk.2 ⟨by rw [okr hO]; exact hF, by rw [okr hO]; exact hLl⟩) (pre_V hO hi hP hS) rfl hn hv.1 rfl (lv_room hcat) d (by rw [okr hO]; exact hc)
  have hcat : ∀ (E' : String) (ce : Cell) (q9 : Addr) (t : State) (H1 : Heap) (locs1 : List Loc), t.heap = H1 → pY E' ∧ pw_P g x t.heap → va_S (pA g) (qS Γ).heap H1 locs1 → H1[q9]? = some ce → ce.vm = .none → (qS Γ).vm.findClass E' = some ce.cls → vx_W (qP Γ) (qL Γ) (qE Γ) (qR Γ) (qS Γ) (qM Γ) (qa Γ) (qb Γ) (qm Γ) (qc Γ) H1 locs1 (k + mc) (n + ms) (qQ Γ) (F0 (qM Γ) pc ls st) q9 := by
    intro E' ce q9 t H1 locs1 h1 hB hS1 hce hcv hcl
    obtain rfl := hpY E' hB.1
    refine vx_catch (oko hO) pre x0 suf (ht.trans hsp) (fun z hz => ?_) hx h0 (okw hO _ hlink) (va_Nw.use rfl hcast) hce hcv hcl (kk q9 H1 locs1 ls (pw_to h1 hB.2) hS1 hv)
    obtain ⟨a1, nm, a2, a3⟩ := hpass z hz
    exact Or.inr ⟨a1, nm, okw hO _ a2, a3⟩
  rcases hQc with rfl | rfl
  · exact vx_calli hr hS pAf (fun _ h => h) pAf (fun E' ce q9 u t H1 locs1 h1 hvm hp hB hz1 hk1 hS1 hce hcv hcl => hcat E' ce q9 t H1 locs1 h1 hB hS1 hce hcv hcl) (fun r u t H1 locs1 h1 hvm hw hB hz1 hk1 hS1 => by obtain ⟨z, -, hz⟩ := hw; exact hz.elim)
  · exact vx_calll hr hS pAf (fun _ h => h) pAf (fun E' ce q9 u t H1 locs1 h1 hvm hp hB hz1 hk1 hS1 hce hcv hcl => hcat E' ce q9 t H1 locs1 h1 hB hS1 hce hcv hcl) (fun r u t H1 locs1 h1 hvm hw hB hz1 hk1 hS1 => by obtain ⟨z, -, hz⟩ := hw; exact hz.elim)
end Lrows
