/-! the words: all good ones of the tables -/
def wsU : List Cond := lw_tbl.filter goodWord
theorem wsU_good : ∀ w ∈ wsU, (w.onTables && w.keeps) = true ∨ ∃ ty, w = .arrayClass ty := fun w h => good_of_word (List.mem_filter.mp h).2
theorem wsU_in {w : Cond} (h : w ∈ lw_tbl) (hg : goodWord w = true) : w ∈ wsU := List.mem_filter.mpr ⟨h, hg⟩
theorem gi_V {own C : String} {index nL : Nat} {y : MethodName} {cc : ByteArray} {rt : Option FieldType} (h1 : Cond.methodLink own index y ∈ wsU) (h2 : Cond.instanceMethod y ∈ wsU) (h3 : Cond.selects C y y ∈ wsU) (h4 : Cond.initialized C ∈ wsU) (h5 : Cond.code y cc nL rt ∈ wsU) : GoodIn wsU (wsV own index C y (Cond.code y cc nL rt :: wsU)) := by
  intro w hw
  have : w ∈ wsU := by
    simp only [wsV, List.cons_append, List.nil_append, List.mem_cons] at hw
    rcases hw with rfl | rfl | rfl | rfl | rfl | h <;> assumption
  exact ⟨this, wsU_good w this⟩
theorem gi_S {own : String} {index nL : Nat} {y : MethodName} {cc : ByteArray} {rt : Option FieldType} (h1 : Cond.methodLink own index y ∈ wsU) (h2 : Cond.static y ∈ wsU) (h4 : Cond.initialized y.cls ∈ wsU) (h5 : Cond.code y cc nL rt ∈ wsU) : GoodIn wsU (va_wsS own index y (Cond.code y cc nL rt :: wsU)) := by
  intro w hw
  have : w ∈ wsU := by
    simp only [va_wsS, List.cons_append, List.nil_append, List.mem_cons] at hw
    rcases hw with rfl | rfl | rfl | rfl | h <;> assumption
  exact ⟨this, wsU_good w this⟩
def pw_V (_ : State) : Prop := True
theorem pw_V.same {u U : State} (_ : U.vm = u.vm) (_ : pw_V u) : pw_V U := trivial
theorem pw_V.warm {s U : State} (_ : s.WarmedH U.vm) (_ : pw_V s) : pw_V U := trivial
def pw_U (g : Gl) (x : Me) (U : State) : Prop := pw_P g x U.heap ∧ va_K (gD g) vwCl (tys5 g) U ∧ vx_Zq Bundle.tN "UNASSIGNED_STACK" Bundle.steD (pA g) U U.heap ∧ vx_Zq Bundle.tN "SUPPRESSED_SENTINEL" Bundle.listD (pA g) U U.heap ∧ gS g ≤ U.heap.size ∧ pw_G g ∧ pw_V U
/-! the context of a walk -/
abbrev Gam : Type := Program × Launch × Env × Room × State × MethodId × Array Value × List Frame × Method × Code × (State → Prop)
abbrev qP (Γ : Gam) : Program := Γ.1
abbrev qL (Γ : Gam) : Launch := Γ.2.1
abbrev qE (Γ : Gam) : Env := Γ.2.2.1
abbrev qR (Γ : Gam) : Room := Γ.2.2.2.1
abbrev qS (Γ : Gam) : State := Γ.2.2.2.2.1
abbrev qM (Γ : Gam) : MethodId := Γ.2.2.2.2.2.1
abbrev qa (Γ : Gam) : Array Value := Γ.2.2.2.2.2.2.1
abbrev qb (Γ : Gam) : List Frame := Γ.2.2.2.2.2.2.2.1
abbrev qm (Γ : Gam) : Method := Γ.2.2.2.2.2.2.2.2.1
abbrev qc (Γ : Gam) : Code := Γ.2.2.2.2.2.2.2.2.2.1
abbrev qQ (Γ : Gam) : State → Prop := Γ.2.2.2.2.2.2.2.2.2.2
def Zz (Γ : Gam) (g : Gl) (nL k n : Nat) (x : Me) (pc : Nat) (lv : List (Nat × Value)) (st : List Value) : Prop :=
  ∀ (H : Heap) (locs : List Loc) (ls : Array Slot), pw_P g x H → va_S (pA g) (qS Γ).heap H locs → lv_has ls nL lv → W (qP Γ) (qL Γ) (qE Γ) (qR Γ) (qS Γ) (qM Γ) (qa Γ) (qb Γ) (qm Γ) (qc Γ) H locs k n (qQ Γ) (F0 (qM Γ) pc ls st)
abbrev rmm (F Lc k n : Nat) : Room := { frames := F, cells := k, slots := n, locals := Lc }
def Ok (Γ : Gam) (g : Gl) (cc : ByteArray) (nL : Nat) (own : String) (F Lc kc ns : Nat) : Prop :=
  (qP Γ).tables.exec = Jvm.exec ∧ (qc Γ).code = cc ∧ (qc Γ).maxLocals = nL ∧ (qS Γ).vm.findClass own = some (qM Γ).cls ∧ (∀ w ∈ wsU, w.before (qa Γ) (qS Γ) = true) ∧ va_K (gD g) vwCl (tys5 g) (qS Γ) ∧
  vx_Zq Bundle.tN "UNASSIGNED_STACK" Bundle.steD (pA g) (qS Γ) (qS Γ).heap ∧ vx_Zq Bundle.tN "SUPPRESSED_SENTINEL" Bundle.listD (pA g) (qS Γ) (qS Γ).heap ∧ gS g ≤ (qS Γ).heap.size ∧ pw_G g ∧ qR Γ = rmm F Lc kc ns ∧ (qm Γ).locks = false ∧ pw_V (qS Γ)
section Okp
variable {Γ : Gam} {g : Gl} {cc : ByteArray} {own : String} {nL F Lc kc ns : Nat}
theorem okx (h : Ok Γ g cc nL own F Lc kc ns) : (qP Γ).tables.exec = Jvm.exec := h.1
theorem okb (h : Ok Γ g cc nL own F Lc kc ns) : (qc Γ).code = cc := h.2.1
theorem okm (h : Ok Γ g cc nL own F Lc kc ns) : (qc Γ).maxLocals = nL := h.2.2.1
theorem oko (h : Ok Γ g cc nL own F Lc kc ns) : (qS Γ).vm.findClass own = some (qM Γ).cls := h.2.2.2.1
theorem okw (h : Ok Γ g cc nL own F Lc kc ns) : ∀ w ∈ wsU, w.before (qa Γ) (qS Γ) = true := h.2.2.2.2.1
theorem okk (h : Ok Γ g cc nL own F Lc kc ns) : va_K (gD g) vwCl (tys5 g) (qS Γ) := h.2.2.2.2.2.1
theorem oku (h : Ok Γ g cc nL own F Lc kc ns) : vx_Zq Bundle.tN "UNASSIGNED_STACK" Bundle.steD (pA g) (qS Γ) (qS Γ).heap := h.2.2.2.2.2.2.1
theorem okn (h : Ok Γ g cc nL own F Lc kc ns) : vx_Zq Bundle.tN "SUPPRESSED_SENTINEL" Bundle.listD (pA g) (qS Γ) (qS Γ).heap := h.2.2.2.2.2.2.2.1
theorem oks (h : Ok Γ g cc nL own F Lc kc ns) : gS g ≤ (qS Γ).heap.size := h.2.2.2.2.2.2.2.2.1
theorem okg (h : Ok Γ g cc nL own F Lc kc ns) : pw_G g := h.2.2.2.2.2.2.2.2.2.1
theorem okr (h : Ok Γ g cc nL own F Lc kc ns) : qR Γ = rmm F Lc kc ns := h.2.2.2.2.2.2.2.2.2.2.1
theorem okl (h : Ok Γ g cc nL own F Lc kc ns) : (qm Γ).locks = false := h.2.2.2.2.2.2.2.2.2.2.2.1
theorem okV (h : Ok Γ g cc nL own F Lc kc ns) : pw_V (qS Γ) := h.2.2.2.2.2.2.2.2.2.2.2.2
theorem okA (h : Ok Γ g cc nL own F Lc kc ns) : ∀ q, (qS Γ).heap.size ≤ q → pA g q := fun q hq => Nat.le_trans (oks h) hq
end Okp
section Zrows
variable {Γ : Gam} {g : Gl} {cc : ByteArray} {own : String} {nL k n F Lc kc ns pc : Nat} {x : Me} {lv : List (Nat × Value)} {st : List Value}
theorem z_sub {lv' : List (Nat × Value)} (ks : List Nat) (hl : lv_pick lv ks = lv') (kk : Zz Γ g nL k n x pc lv' st) : Zz Γ g nL k n x pc lv st := fun H locs ls hP hS hv => kk H locs ls hP hS (lv_sub hv ks hl)
theorem z_widen {k' n' : Nat} (h1 : k ≤ k') (h2 : n ≤ n') (kk : Zz Γ g nL k' n' x pc lv st) : Zz Γ g nL k n x pc lv st := fun H locs ls hP hS hv => W.widen h1 h2 (kk H locs ls hP hS hv)
theorem z_eq {x' : Me} (h : x' = x) (kk : Zz Γ g nL k n x' pc lv st) : Zz Γ g nL k n x pc lv st := h ▸ kk
theorem z_iconst (hO : Ok Γ g cc nL own F Lc kc ns) {c : Int} (d : decode cc pc = .ok (.iconst c, 1)) (kk : Zz Γ g nL k n x (pc + 1) lv (.int (zi c) :: st)) : Zz Γ g nL k n x pc lv st := fun H locs ls hP hS hv => lv_iconst (okx hO) (okb hO) d rfl (kk H locs ls hP hS hv)
theorem z_bipush (hO : Ok Γ g cc nL own F Lc kc ns) {c : Int} (d : decode cc pc = .ok (.bipush c, 2)) (h : (Int8.ofInt c).toInt32 = zi c) (kk : Zz Γ g nL k n x (pc + 2) lv (.int (zi c) :: st)) : Zz Γ g nL k n x pc lv st := fun H locs ls hP hS hv => lv_bipush (okx hO) (okb hO) d h (kk H locs ls hP hS hv)
theorem z_sipush (hO : Ok Γ g cc nL own F Lc kc ns) {c : Int} (d : decode cc pc = .ok (.sipush c, 3)) (h : (Int16.ofInt c).toInt32 = zi c) (kk : Zz Γ g nL k n x (pc + 3) lv (.int (zi c) :: st)) : Zz Γ g nL k n x pc lv st := fun H locs ls hP hS hv => lv_sipush (okx hO) (okb hO) d h (kk H locs ls hP hS hv)
theorem z_lconst (hO : Ok Γ g cc nL own F Lc kc ns) {c : Fin 2} {v : Int} (d : decode cc pc = .ok (.lconst c, 1)) (h : Int64.ofNat (c : Nat) = zl v) (kk : Zz Γ g nL k n x (pc + 1) lv (.long (zl v) :: st)) : Zz Γ g nL k n x pc lv st := fun H locs ls hP hS hv => lv_lconst (okx hO) (okb hO) d h (kk H locs ls hP hS hv)
theorem z_ldc (hO : Ok Γ g cc nL own F Lc kc ns) {i : Nat} {v : Int} (hw : Cond.constant own i (zi v) ∈ wsU) (d : decode cc pc = .ok (.ldc i, 2)) (kk : Zz Γ g nL k n x (pc + 2) lv (.int (zi v) :: st)) : Zz Γ g nL k n x pc lv st := fun H locs ls hP hS hv => lv_ldc (okx hO) (okb hO) (oko hO) (okw hO _ hw) d (kk H locs ls hP hS hv)
theorem z_ldc_w (hO : Ok Γ g cc nL own F Lc kc ns) {i : Nat} {v : Int} (hw : Cond.constant own i (zi v) ∈ wsU) (d : decode cc pc = .ok (.ldc_w i, 3)) (kk : Zz Γ g nL k n x (pc + 3) lv (.int (zi v) :: st)) : Zz Γ g nL k n x pc lv st := fun H locs ls hP hS hv => lv_ldcw (okx hO) (okb hO) (oko hO) (okw hO _ hw) d (kk H locs ls hP hS hv)
theorem z_ldc2 (hO : Ok Γ g cc nL own F Lc kc ns) {i : Nat} {v : Int} (hw : Cond.constantLong own i (zl v) ∈ wsU) (d : decode cc pc = .ok (.ldc2_w i, 3)) (kk : Zz Γ g nL k n x (pc + 3) lv (.long (zl v) :: st)) : Zz Γ g nL k n x pc lv st := fun H locs ls hP hS hv => lv_ldc2 (okx hO) (okb hO) (oko hO) (okw hO _ hw) d (kk H locs ls hP hS hv)
theorem z_iload_n (hO : Ok Γ g cc nL own F Lc kc ns) {j : Fin 4} {i : Nat} {v : Int32} (ix : Nat) (d : decode cc pc = .ok (.iload_n j, 1)) (hi : (j : Nat) = i) (hl : lv[ix]? = some (i, .int v)) (kk : Zz Γ g nL k n x (pc + 1) lv (.int v :: st)) : Zz Γ g nL k n x pc lv st := fun H locs ls hP hS hv => lv_iload_n (okx hO) (okb hO) d hi (lv_at hv ix hl) (kk H locs ls hP hS hv)
theorem z_iload (hO : Ok Γ g cc nL own F Lc kc ns) {i : Nat} {v : Int32} (ix : Nat) (d : decode cc pc = .ok (.iload i, 2)) (hl : lv[ix]? = some (i, .int v)) (kk : Zz Γ g nL k n x (pc + 2) lv (.int v :: st)) : Zz Γ g nL k n x pc lv st := fun H locs ls hP hS hv => lv_iload (okx hO) (okb hO) d (lv_at hv ix hl) (kk H locs ls hP hS hv)
theorem z_istore_n (hO : Ok Γ g cc nL own F Lc kc ns) {j : Fin 4} {i : Nat} {v : Int32} {lv' : List (Nat × Value)} (d : decode cc pc = .ok (.istore_n j, 1)) (hi : (j : Nat) = i) (hn : i < nL) (hl : (i, Value.int v) :: lv.filter (fun q => !(q.1 == i) && !(q.1 + 1 == i && q.2.category == 2)) = lv') (kk : Zz Γ g nL k n x (pc + 1) lv' st) : Zz Γ g nL k n x pc lv (.int v :: st) := fun H locs ls hP hS hv => lv_istore_n (okx hO) (okb hO) d hi hv hn hl (fun ls' hv' => kk H locs ls' hP hS hv')
theorem z_istore (hO : Ok Γ g cc nL own F Lc kc ns) {i : Nat} {v : Int32} {lv' : List (Nat × Value)} (d : decode cc pc = .ok (.istore i, 2)) (hn : i < nL) (hl : (i, Value.int v) :: lv.filter (fun q => !(q.1 == i) && !(q.1 + 1 == i && q.2.category == 2)) = lv') (kk : Zz Γ g nL k n x (pc + 2) lv' st) : Zz Γ g nL k n x pc lv (.int v :: st) := fun H locs ls hP hS hv => lv_istore (okx hO) (okb hO) d hv hn hl (fun ls' hv' => kk H locs ls' hP hS hv')
theorem z_lload_n (hO : Ok Γ g cc nL own F Lc kc ns) {j : Fin 4} {i : Nat} {v : Int64} (ix : Nat) (d : decode cc pc = .ok (.lload_n j, 1)) (hi : (j : Nat) = i) (hl : lv[ix]? = some (i, .long v)) (kk : Zz Γ g nL k n x (pc + 1) lv (.long v :: st)) : Zz Γ g nL k n x pc lv st := fun H locs ls hP hS hv => lv_lload_n (okx hO) (okb hO) d hi (lv_at hv ix hl) (kk H locs ls hP hS hv)
theorem z_lload (hO : Ok Γ g cc nL own F Lc kc ns) {i : Nat} {v : Int64} (ix : Nat) (d : decode cc pc = .ok (.lload i, 2)) (hl : lv[ix]? = some (i, .long v)) (kk : Zz Γ g nL k n x (pc + 2) lv (.long v :: st)) : Zz Γ g nL k n x pc lv st := fun H locs ls hP hS hv => lv_lload (okx hO) (okb hO) d (lv_at hv ix hl) (kk H locs ls hP hS hv)
theorem z_lstore_n (hO : Ok Γ g cc nL own F Lc kc ns) {j : Fin 4} {i : Nat} {v : Int64} {lv' : List (Nat × Value)} (d : decode cc pc = .ok (.lstore_n j, 1)) (hi : (j : Nat) = i) (hn : i + 1 < nL) (hl : (i, Value.long v) :: lv.filter (fun q => !(q.1 == i) && (!(q.1 == i + 1) && !(q.1 + 1 == i && q.2.category == 2))) = lv') (kk : Zz Γ g nL k n x (pc + 1) lv' st) : Zz Γ g nL k n x pc lv (.long v :: st) := fun H locs ls hP hS hv => lv_lstore_n (okx hO) (okb hO) d hi hv hn hl (fun ls' hv' => kk H locs ls' hP hS hv')
theorem z_lstore (hO : Ok Γ g cc nL own F Lc kc ns) {i : Nat} {v : Int64} {lv' : List (Nat × Value)} (d : decode cc pc = .ok (.lstore i, 2)) (hn : i + 1 < nL) (hl : (i, Value.long v) :: lv.filter (fun q => !(q.1 == i) && (!(q.1 == i + 1) && !(q.1 + 1 == i && q.2.category == 2))) = lv') (kk : Zz Γ g nL k n x (pc + 2) lv' st) : Zz Γ g nL k n x pc lv (.long v :: st) := fun H locs ls hP hS hv => lv_lstore (okx hO) (okb hO) d hv hn hl (fun ls' hv' => kk H locs ls' hP hS hv')
theorem z_aload_n (hO : Ok Γ g cc nL own F Lc kc ns) {j : Fin 4} {i : Nat} {v : Nat} (ix : Nat) (d : decode cc pc = .ok (.aload_n j, 1)) (hi : (j : Nat) = i) (hl : lv[ix]? = some (i, .ref v)) (kk : Zz Γ g nL k n x (pc + 1) lv (.ref v :: st)) : Zz Γ g nL k n x pc lv st := fun H locs ls hP hS hv => lv_aload_n (okx hO) (okb hO) d hi (lv_at hv ix hl) (kk H locs ls hP hS hv)
theorem z_aload (hO : Ok Γ g cc nL own F Lc kc ns) {i : Nat} {v : Nat} (ix : Nat) (d : decode cc pc = .ok (.aload i, 2)) (hl : lv[ix]? = some (i, .ref v)) (kk : Zz Γ g nL k n x (pc + 2) lv (.ref v :: st)) : Zz Γ g nL k n x pc lv st := fun H locs ls hP hS hv => lv_aload (okx hO) (okb hO) d (lv_at hv ix hl) (kk H locs ls hP hS hv)
theorem z_astore_n (hO : Ok Γ g cc nL own F Lc kc ns) {j : Fin 4} {i : Nat} {v : Nat} {lv' : List (Nat × Value)} (d : decode cc pc = .ok (.astore_n j, 1)) (hi : (j : Nat) = i) (hn : i < nL) (hl : (i, Value.ref v) :: lv.filter (fun q => !(q.1 == i) && !(q.1 + 1 == i && q.2.category == 2)) = lv') (kk : Zz Γ g nL k n x (pc + 1) lv' st) : Zz Γ g nL k n x pc lv (.ref v :: st) := fun H locs ls hP hS hv => lv_astore_n (okx hO) (okb hO) d hi hv hn hl (fun ls' hv' => kk H locs ls' hP hS hv')
theorem z_astore (hO : Ok Γ g cc nL own F Lc kc ns) {i : Nat} {v : Nat} {lv' : List (Nat × Value)} (d : decode cc pc = .ok (.astore i, 2)) (hn : i < nL) (hl : (i, Value.ref v) :: lv.filter (fun q => !(q.1 == i) && !(q.1 + 1 == i && q.2.category == 2)) = lv') (kk : Zz Γ g nL k n x (pc + 2) lv' st) : Zz Γ g nL k n x pc lv (.ref v :: st) := fun H locs ls hP hS hv => lv_astore (okx hO) (okb hO) d hv hn hl (fun ls' hv' => kk H locs ls' hP hS hv')
theorem z_iinc (hO : Ok Γ g cc nL own F Lc kc ns) {i : Nat} {c a : Int} {lv' : List (Nat × Value)} (ix : Nat) (d : decode cc pc = .ok (.iinc i c, 3)) (hk : lv[ix]? = some (i, .int (zi a))) (hn : i < nL) (hl : (i, Value.int (zi (a + c))) :: lv.filter (fun q => !(q.1 == i) && !(q.1 + 1 == i && q.2.category == 2)) = lv') (kk : Zz Γ g nL k n x (pc + 3) lv' st) : Zz Γ g nL k n x pc lv st := fun H locs ls hP hS hv => lv_iinc (okx hO) (okb hO) d hv hk (zi_add a c) hn hl (fun ls' hv' => kk H locs ls' hP hS hv')
theorem z_pop (hO : Ok Γ g cc nL own F Lc kc ns) {v : Value} (d : decode cc pc = .ok (.pop, 1)) (hc : v.category = 1) (kk : Zz Γ g nL k n x (pc + 1) lv st) : Zz Γ g nL k n x pc lv (v :: st) := fun H locs ls hP hS hv => lv_pop (okx hO) (okb hO) d hc (kk H locs ls hP hS hv)
theorem z_dup (hO : Ok Γ g cc nL own F Lc kc ns) {v : Value} (d : decode cc pc = .ok (.dup, 1)) (hc : v.category = 1) (kk : Zz Γ g nL k n x (pc + 1) lv (v :: v :: st)) : Zz Γ g nL k n x pc lv (v :: st) := fun H locs ls hP hS hv => lv_dup (okx hO) (okb hO) d hc (kk H locs ls hP hS hv)
theorem z_dup2 (hO : Ok Γ g cc nL own F Lc kc ns) {v w : Value} (d : decode cc pc = .ok (.dup2, 1)) (hc : v.category = 1) (hd : w.category = 1) (kk : Zz Γ g nL k n x (pc + 1) lv (v :: w :: v :: w :: st)) : Zz Γ g nL k n x pc lv (v :: w :: st) := fun H locs ls hP hS hv => lv_dup2_11 (okx hO) (okb hO) d hc hd (kk H locs ls hP hS hv)
theorem z_iadd (hO : Ok Γ g cc nL own F Lc kc ns) {a b : Int} (d : decode cc pc = .ok (.iadd, 1)) (kk : Zz Γ g nL k n x (pc + 1) lv (.int (zi (a + b)) :: st)) : Zz Γ g nL k n x pc lv (.int (zi b) :: .int (zi a) :: st) := fun H locs ls hP hS hv => lv_iadd (okx hO) (okb hO) d (by rw [zi_add]; exact (kk H locs ls hP hS hv))
theorem z_ladd (hO : Ok Γ g cc nL own F Lc kc ns) {a b : Int} (d : decode cc pc = .ok (.ladd, 1)) (kk : Zz Γ g nL k n x (pc + 1) lv (.long (zl (a + b)) :: st)) : Zz Γ g nL k n x pc lv (.long (zl b) :: .long (zl a) :: st) := fun H locs ls hP hS hv => lv_ladd (okx hO) (okb hO) d (by rw [zl_add]; exact (kk H locs ls hP hS hv))
theorem z_isub (hO : Ok Γ g cc nL own F Lc kc ns) {a b : Int} (d : decode cc pc = .ok (.isub, 1)) (kk : Zz Γ g nL k n x (pc + 1) lv (.int (zi (a - b)) :: st)) : Zz Γ g nL k n x pc lv (.int (zi b) :: .int (zi a) :: st) := fun H locs ls hP hS hv => lv_isub (okx hO) (okb hO) d (by rw [zi_sub]; exact (kk H locs ls hP hS hv))
theorem z_lsub (hO : Ok Γ g cc nL own F Lc kc ns) {a b : Int} (d : decode cc pc = .ok (.lsub, 1)) (kk : Zz Γ g nL k n x (pc + 1) lv (.long (zl (a - b)) :: st)) : Zz Γ g nL k n x pc lv (.long (zl b) :: .long (zl a) :: st) := fun H locs ls hP hS hv => lv_lsub (okx hO) (okb hO) d (by rw [zl_sub]; exact (kk H locs ls hP hS hv))
theorem z_imul (hO : Ok Γ g cc nL own F Lc kc ns) {a b : Int} (d : decode cc pc = .ok (.imul, 1)) (kk : Zz Γ g nL k n x (pc + 1) lv (.int (zi (a * b)) :: st)) : Zz Γ g nL k n x pc lv (.int (zi b) :: .int (zi a) :: st) := fun H locs ls hP hS hv => lv_imul (okx hO) (okb hO) d (by rw [zi_mul]; exact (kk H locs ls hP hS hv))
theorem z_lmul (hO : Ok Γ g cc nL own F Lc kc ns) {a b : Int} (d : decode cc pc = .ok (.lmul, 1)) (kk : Zz Γ g nL k n x (pc + 1) lv (.long (zl (a * b)) :: st)) : Zz Γ g nL k n x pc lv (.long (zl b) :: .long (zl a) :: st) := fun H locs ls hP hS hv => lv_lmul (okx hO) (okb hO) d (by rw [zl_mul]; exact (kk H locs ls hP hS hv))
theorem z_ineg (hO : Ok Γ g cc nL own F Lc kc ns) {a : Int} (d : decode cc pc = .ok (.ineg, 1)) (kk : Zz Γ g nL k n x (pc + 1) lv (.int (zi (-a)) :: st)) : Zz Γ g nL k n x pc lv (.int (zi a) :: st) := fun H locs ls hP hS hv => lv_ineg (okx hO) (okb hO) d (by rw [zi_neg]; exact (kk H locs ls hP hS hv))
theorem zi_ne0 {b : Int} (hb : 0 < b ∧ b < 2147483648) : ¬ zi b = 0 := by
  intro h
  have h2 := congrArg Int32.toInt h
  rw [zi_toInt (by omega)] at h2
  have h3 : (0 : Int32).toInt = 0 := by decide
  omega
theorem zl_ne0 {b : Int} (hb : 0 < b ∧ b < 9223372036854775808) : ¬ zl b = 0 := by
  intro h
  have h2 := congrArg Int64.toInt h
  rw [zl_toInt (by omega)] at h2
  have h3 : (0 : Int64).toInt = 0 := by decide
  omega
theorem zi_tmod {a b : Int} (ha : -2147483648 ≤ a ∧ a < 2147483648) (hb : 0 < b ∧ b < 2147483648) : zi a - zi a / zi b * zi b = zi (Int.tmod a b) := by
  have h : zi a / zi b = zi (a.tdiv b) := by
    rw [← zi_all (zi a / zi b), Int32.toInt_div_of_ne_right]
    · rw [zi_toInt (by omega), zi_toInt (by omega)]
    · intro h
      have h2 := congrArg Int32.toInt h
      rw [zi_toInt (by omega)] at h2
      have h3 : (-1 : Int32).toInt = -1 := by decide
      omega
  rw [h, zi_mul, zi_sub, Int.tmod_def, Int.mul_comm]
theorem zi_rng (v : Int32) : -2147483648 ≤ v.toInt ∧ v.toInt < 2147483648 := ⟨Int32.le_toInt v, by have := Int32.toInt_lt v; omega⟩
theorem zl_tmod {a b : Int} (ha : -9223372036854775808 ≤ a ∧ a < 9223372036854775808) (hb : 0 < b ∧ b < 9223372036854775808) : zl a - zl a / zl b * zl b = zl (Int.tmod a b) := by
  have h : zl a / zl b = zl (a.tdiv b) := by
    rw [← zl_all (zl a / zl b), Int64.toInt_div_of_ne_right]
    · rw [zl_toInt (by omega), zl_toInt (by omega)]
    · intro h
      have h2 := congrArg Int64.toInt h
      rw [zl_toInt (by omega)] at h2
      have h3 : (-1 : Int64).toInt = -1 := by decide
      omega
  rw [h, zl_mul, zl_sub, Int.tmod_def, Int.mul_comm]
theorem zl_rng (v : Int64) : -9223372036854775808 ≤ v.toInt ∧ v.toInt < 9223372036854775808 := ⟨Int64.le_toInt v, by have := Int64.toInt_lt v; omega⟩
theorem z_idiv (hO : Ok Γ g cc nL own F Lc kc ns) {a b : Int} (d : decode cc pc = .ok (.idiv, 1)) (ha : 0 ≤ a ∧ a < 2147483648) (hb : 0 < b ∧ b < 2147483648) (kk : Zz Γ g nL k n x (pc + 1) lv (.int (zi (a / b)) :: st)) : Zz Γ g nL k n x pc lv (.int (zi b) :: .int (zi a) :: st) := fun H locs ls hP hS hv => lv_idiv (okx hO) (okb hO) d (zi_ne0 hb) (by rw [zi_div ha hb]; exact (kk H locs ls hP hS hv))
theorem z_irem (hO : Ok Γ g cc nL own F Lc kc ns) {a b : Int} (d : decode cc pc = .ok (.irem, 1)) (ha : 0 ≤ a ∧ a < 2147483648) (hb : 0 < b ∧ b < 2147483648) (kk : Zz Γ g nL k n x (pc + 1) lv (.int (zi (a % b)) :: st)) : Zz Γ g nL k n x pc lv (.int (zi b) :: .int (zi a) :: st) := fun H locs ls hP hS hv => lv_irem (okx hO) (okb hO) d (zi_ne0 hb) (by rw [zi_mod ha hb]; exact (kk H locs ls hP hS hv))
theorem z_ldiv (hO : Ok Γ g cc nL own F Lc kc ns) {a b : Int} (d : decode cc pc = .ok (.ldiv, 1)) (ha : 0 ≤ a ∧ a < 9223372036854775808) (hb : 0 < b ∧ b < 9223372036854775808) (kk : Zz Γ g nL k n x (pc + 1) lv (.long (zl (a / b)) :: st)) : Zz Γ g nL k n x pc lv (.long (zl b) :: .long (zl a) :: st) := fun H locs ls hP hS hv => lv_ldiv (okx hO) (okb hO) d (zl_ne0 hb) (by rw [zl_div ha hb]; exact (kk H locs ls hP hS hv))
theorem z_lrem (hO : Ok Γ g cc nL own F Lc kc ns) {a b : Int} (d : decode cc pc = .ok (.lrem, 1)) (ha : 0 ≤ a ∧ a < 9223372036854775808) (hb : 0 < b ∧ b < 9223372036854775808) (kk : Zz Γ g nL k n x (pc + 1) lv (.long (zl (a % b)) :: st)) : Zz Γ g nL k n x pc lv (.long (zl b) :: .long (zl a) :: st) := fun H locs ls hP hS hv => lv_lrem (okx hO) (okb hO) d (zl_ne0 hb) (by rw [zl_mod ha hb]; exact (kk H locs ls hP hS hv))
theorem z_iremS (hO : Ok Γ g cc nL own F Lc kc ns) {a b : Int} (d : decode cc pc = .ok (.irem, 1)) (ha : -2147483648 ≤ a ∧ a < 2147483648) (hb : 0 < b ∧ b < 2147483648) (kk : Zz Γ g nL k n x (pc + 1) lv (.int (zi (Int.tmod a b)) :: st)) : Zz Γ g nL k n x pc lv (.int (zi b) :: .int (zi a) :: st) := fun H locs ls hP hS hv => lv_irem (okx hO) (okb hO) d (zi_ne0 hb) (by rw [zi_tmod ha hb]; exact (kk H locs ls hP hS hv))
theorem z_lremS (hO : Ok Γ g cc nL own F Lc kc ns) {a b : Int} (d : decode cc pc = .ok (.lrem, 1)) (ha : -9223372036854775808 ≤ a ∧ a < 9223372036854775808) (hb : 0 < b ∧ b < 9223372036854775808) (kk : Zz Γ g nL k n x (pc + 1) lv (.long (zl (Int.tmod a b)) :: st)) : Zz Γ g nL k n x pc lv (.long (zl b) :: .long (zl a) :: st) := fun H locs ls hP hS hv => lv_lrem (okx hO) (okb hO) d (zl_ne0 hb) (by rw [zl_tmod ha hb]; exact (kk H locs ls hP hS hv))
theorem z_iand (hO : Ok Γ g cc nL own F Lc kc ns) {a b : Int32} (v : Int32) (d : decode cc pc = .ok (.iand, 1)) (h : a &&& b = v) (kk : Zz Γ g nL k n x (pc + 1) lv (.int v :: st)) : Zz Γ g nL k n x pc lv (.int b :: .int a :: st) := fun H locs ls hP hS hv => lv_iand (okx hO) (okb hO) d (by rw [h]; exact (kk H locs ls hP hS hv))
theorem z_ior (hO : Ok Γ g cc nL own F Lc kc ns) {a b : Int32} (v : Int32) (d : decode cc pc = .ok (.ior, 1)) (h : a ||| b = v) (kk : Zz Γ g nL k n x (pc + 1) lv (.int v :: st)) : Zz Γ g nL k n x pc lv (.int b :: .int a :: st) := fun H locs ls hP hS hv => lv_ior (okx hO) (okb hO) d (by rw [h]; exact (kk H locs ls hP hS hv))
theorem z_ixor (hO : Ok Γ g cc nL own F Lc kc ns) {a b : Int32} (v : Int32) (d : decode cc pc = .ok (.ixor, 1)) (h : a ^^^ b = v) (kk : Zz Γ g nL k n x (pc + 1) lv (.int v :: st)) : Zz Γ g nL k n x pc lv (.int b :: .int a :: st) := fun H locs ls hP hS hv => lv_ixor (okx hO) (okb hO) d (by rw [h]; exact (kk H locs ls hP hS hv))
theorem z_ishl (hO : Ok Γ g cc nL own F Lc kc ns) {a b : Int32} (v : Int32) (d : decode cc pc = .ok (.ishl, 1)) (h : a <<< (b &&& 31) = v) (kk : Zz Γ g nL k n x (pc + 1) lv (.int v :: st)) : Zz Γ g nL k n x pc lv (.int b :: .int a :: st) := fun H locs ls hP hS hv => lv_ishl (okx hO) (okb hO) d (by rw [h]; exact (kk H locs ls hP hS hv))
theorem z_ishr (hO : Ok Γ g cc nL own F Lc kc ns) {a b : Int32} (v : Int32) (d : decode cc pc = .ok (.ishr, 1)) (h : a >>> (b &&& 31) = v) (kk : Zz Γ g nL k n x (pc + 1) lv (.int v :: st)) : Zz Γ g nL k n x pc lv (.int b :: .int a :: st) := fun H locs ls hP hS hv => lv_ishr (okx hO) (okb hO) d (by rw [h]; exact (kk H locs ls hP hS hv))
theorem z_iushr (hO : Ok Γ g cc nL own F Lc kc ns) {a b : Int32} (v : Int32) (d : decode cc pc = .ok (.iushr, 1)) (h : (a.toUInt32 >>> (b.toUInt32 &&& Int32.toUInt32 31)).toInt32 = v) (kk : Zz Γ g nL k n x (pc + 1) lv (.int v :: st)) : Zz Γ g nL k n x pc lv (.int b :: .int a :: st) := fun H locs ls hP hS hv => lv_iushr (okx hO) (okb hO) d h (kk H locs ls hP hS hv)
theorem z_lxor (hO : Ok Γ g cc nL own F Lc kc ns) {a b : Int64} (v : Int64) (d : decode cc pc = .ok (.lxor, 1)) (h : a ^^^ b = v) (kk : Zz Γ g nL k n x (pc + 1) lv (.long v :: st)) : Zz Γ g nL k n x pc lv (.long b :: .long a :: st) := fun H locs ls hP hS hv => lv_lxor (okx hO) (okb hO) d (by rw [h]; exact (kk H locs ls hP hS hv))
theorem z_i2l (hO : Ok Γ g cc nL own F Lc kc ns) {a : Int} (d : decode cc pc = .ok (.i2l, 1)) (h : -2147483648 ≤ a ∧ a < 2147483648) (kk : Zz Γ g nL k n x (pc + 1) lv (.long (zl a) :: st)) : Zz Γ g nL k n x pc lv (.int (zi a) :: st) := fun H locs ls hP hS hv => lv_i2l (okx hO) (okb hO) d (zi_l h) (kk H locs ls hP hS hv)
theorem z_l2i (hO : Ok Γ g cc nL own F Lc kc ns) {a : Int} (d : decode cc pc = .ok (.l2i, 1)) (h : -2147483648 ≤ a ∧ a < 2147483648) (kk : Zz Γ g nL k n x (pc + 1) lv (.int (zi a) :: st)) : Zz Γ g nL k n x pc lv (.long (zl a) :: st) := fun H locs ls hP hS hv => lv_l2i (okx hO) (okb hO) d (zl_i h) (kk H locs ls hP hS hv)
theorem z_goto (hO : Ok Γ g cc nL own F Lc kc ns) {off : Int} {tgt : Nat} (d : decode cc pc = .ok (.goto off, 3)) (ht : (pc : Int) + off = (tgt : Int)) (kk : Zz Γ g nL k n x tgt lv st) : Zz Γ g nL k n x pc lv st := fun H locs ls hP hS hv => lv_goto (okx hO) (okb hO) d ht (kk H locs ls hP hS hv)
theorem z_icmp_eq (hO : Ok Γ g cc nL own F Lc kc ns) {a b off : Int} {tgt : Nat} (d : decode cc pc = .ok (.if_icmp .eq off, 3)) (ht : (pc : Int) + off = (tgt : Int)) (ha : -2147483648 ≤ a ∧ a < 2147483648) (hb : -2147483648 ≤ b ∧ b < 2147483648) (kt : a = b → Zz Γ g nL k n x tgt lv st) (kf : a ≠ b → Zz Γ g nL k n x (pc + 3) lv st) : Zz Γ g nL k n x pc lv (.int (zi b) :: .int (zi a) :: st) := fun H locs ls hP hS hv => lv_icmp_eq (okx hO) (okb hO) d ht (fun h => kt ((zi_eq ha hb).mp h) H locs ls hP hS hv) (fun h => kf (fun h2 => h ((zi_eq ha hb).mpr h2)) H locs ls hP hS hv)
theorem z_if_eq (hO : Ok Γ g cc nL own F Lc kc ns) {a off : Int} {tgt : Nat} (d : decode cc pc = .ok (.ifCond .eq off, 3)) (ht : (pc : Int) + off = (tgt : Int)) (ha : -2147483648 ≤ a ∧ a < 2147483648) (kt : a = 0 → Zz Γ g nL k n x tgt lv st) (kf : a ≠ 0 → Zz Γ g nL k n x (pc + 3) lv st) : Zz Γ g nL k n x pc lv (.int (zi a) :: st) := fun H locs ls hP hS hv => lv_if_eq (okx hO) (okb hO) d ht (fun h => kt ((zi_eq ha (show -2147483648 ≤ (0 : Int) ∧ (0 : Int) < 2147483648 by decide)).mp h) H locs ls hP hS hv) (fun h => kf (fun h2 => h ((zi_eq ha (show -2147483648 ≤ (0 : Int) ∧ (0 : Int) < 2147483648 by decide)).mpr h2)) H locs ls hP hS hv)
theorem z_icmp_ne (hO : Ok Γ g cc nL own F Lc kc ns) {a b off : Int} {tgt : Nat} (d : decode cc pc = .ok (.if_icmp .ne off, 3)) (ht : (pc : Int) + off = (tgt : Int)) (ha : -2147483648 ≤ a ∧ a < 2147483648) (hb : -2147483648 ≤ b ∧ b < 2147483648) (kt : a ≠ b → Zz Γ g nL k n x tgt lv st) (kf : a = b → Zz Γ g nL k n x (pc + 3) lv st) : Zz Γ g nL k n x pc lv (.int (zi b) :: .int (zi a) :: st) := fun H locs ls hP hS hv => lv_icmp_ne (okx hO) (okb hO) d ht (fun h => kt ((not_congr (zi_eq ha hb)).mp h) H locs ls hP hS hv) (fun h => kf ((zi_eq ha hb).mp h) H locs ls hP hS hv)
theorem z_if_ne (hO : Ok Γ g cc nL own F Lc kc ns) {a off : Int} {tgt : Nat} (d : decode cc pc = .ok (.ifCond .ne off, 3)) (ht : (pc : Int) + off = (tgt : Int)) (ha : -2147483648 ≤ a ∧ a < 2147483648) (kt : a ≠ 0 → Zz Γ g nL k n x tgt lv st) (kf : a = 0 → Zz Γ g nL k n x (pc + 3) lv st) : Zz Γ g nL k n x pc lv (.int (zi a) :: st) := fun H locs ls hP hS hv => lv_if_ne (okx hO) (okb hO) d ht (fun h => kt ((not_congr (zi_eq ha (show -2147483648 ≤ (0 : Int) ∧ (0 : Int) < 2147483648 by decide))).mp h) H locs ls hP hS hv) (fun h => kf ((zi_eq ha (show -2147483648 ≤ (0 : Int) ∧ (0 : Int) < 2147483648 by decide)).mp h) H locs ls hP hS hv)
theorem z_icmp_lt (hO : Ok Γ g cc nL own F Lc kc ns) {a b off : Int} {tgt : Nat} (d : decode cc pc = .ok (.if_icmp .lt off, 3)) (ht : (pc : Int) + off = (tgt : Int)) (ha : -2147483648 ≤ a ∧ a < 2147483648) (hb : -2147483648 ≤ b ∧ b < 2147483648) (kt : a < b → Zz Γ g nL k n x tgt lv st) (kf : b ≤ a → Zz Γ g nL k n x (pc + 3) lv st) : Zz Γ g nL k n x pc lv (.int (zi b) :: .int (zi a) :: st) := fun H locs ls hP hS hv => lv_icmp_lt (okx hO) (okb hO) d ht (fun h => kt ((zi_lt ha hb).mp h) H locs ls hP hS hv) (fun h => kf (Int.not_lt.mp fun h2 => h ((zi_lt ha hb).mpr h2)) H locs ls hP hS hv)
theorem z_if_lt (hO : Ok Γ g cc nL own F Lc kc ns) {a off : Int} {tgt : Nat} (d : decode cc pc = .ok (.ifCond .lt off, 3)) (ht : (pc : Int) + off = (tgt : Int)) (ha : -2147483648 ≤ a ∧ a < 2147483648) (kt : a < 0 → Zz Γ g nL k n x tgt lv st) (kf : 0 ≤ a → Zz Γ g nL k n x (pc + 3) lv st) : Zz Γ g nL k n x pc lv (.int (zi a) :: st) := fun H locs ls hP hS hv => lv_if_lt (okx hO) (okb hO) d ht (fun h => kt ((zi_lt ha (show -2147483648 ≤ (0 : Int) ∧ (0 : Int) < 2147483648 by decide)).mp h) H locs ls hP hS hv) (fun h => kf (Int.not_lt.mp fun h2 => h ((zi_lt ha (show -2147483648 ≤ (0 : Int) ∧ (0 : Int) < 2147483648 by decide)).mpr h2)) H locs ls hP hS hv)
theorem z_icmp_ge (hO : Ok Γ g cc nL own F Lc kc ns) {a b off : Int} {tgt : Nat} (d : decode cc pc = .ok (.if_icmp .ge off, 3)) (ht : (pc : Int) + off = (tgt : Int)) (ha : -2147483648 ≤ a ∧ a < 2147483648) (hb : -2147483648 ≤ b ∧ b < 2147483648) (kt : b ≤ a → Zz Γ g nL k n x tgt lv st) (kf : a < b → Zz Γ g nL k n x (pc + 3) lv st) : Zz Γ g nL k n x pc lv (.int (zi b) :: .int (zi a) :: st) := fun H locs ls hP hS hv => lv_icmp_ge (okx hO) (okb hO) d ht (fun h => kt ((zi_le hb ha).mp h) H locs ls hP hS hv) (fun h => kf (Int.not_le.mp fun h2 => h ((zi_le hb ha).mpr h2)) H locs ls hP hS hv)
theorem z_if_ge (hO : Ok Γ g cc nL own F Lc kc ns) {a off : Int} {tgt : Nat} (d : decode cc pc = .ok (.ifCond .ge off, 3)) (ht : (pc : Int) + off = (tgt : Int)) (ha : -2147483648 ≤ a ∧ a < 2147483648) (kt : 0 ≤ a → Zz Γ g nL k n x tgt lv st) (kf : a < 0 → Zz Γ g nL k n x (pc + 3) lv st) : Zz Γ g nL k n x pc lv (.int (zi a) :: st) := fun H locs ls hP hS hv => lv_if_ge (okx hO) (okb hO) d ht (fun h => kt ((zi_le (show -2147483648 ≤ (0 : Int) ∧ (0 : Int) < 2147483648 by decide) ha).mp h) H locs ls hP hS hv) (fun h => kf (Int.not_le.mp fun h2 => h ((zi_le (show -2147483648 ≤ (0 : Int) ∧ (0 : Int) < 2147483648 by decide) ha).mpr h2)) H locs ls hP hS hv)
theorem z_icmp_gt (hO : Ok Γ g cc nL own F Lc kc ns) {a b off : Int} {tgt : Nat} (d : decode cc pc = .ok (.if_icmp .gt off, 3)) (ht : (pc : Int) + off = (tgt : Int)) (ha : -2147483648 ≤ a ∧ a < 2147483648) (hb : -2147483648 ≤ b ∧ b < 2147483648) (kt : b < a → Zz Γ g nL k n x tgt lv st) (kf : a ≤ b → Zz Γ g nL k n x (pc + 3) lv st) : Zz Γ g nL k n x pc lv (.int (zi b) :: .int (zi a) :: st) := fun H locs ls hP hS hv => lv_icmp_gt (okx hO) (okb hO) d ht (fun h => kt ((zi_lt hb ha).mp h) H locs ls hP hS hv) (fun h => kf (Int.not_lt.mp fun h2 => h ((zi_lt hb ha).mpr h2)) H locs ls hP hS hv)
theorem z_if_gt (hO : Ok Γ g cc nL own F Lc kc ns) {a off : Int} {tgt : Nat} (d : decode cc pc = .ok (.ifCond .gt off, 3)) (ht : (pc : Int) + off = (tgt : Int)) (ha : -2147483648 ≤ a ∧ a < 2147483648) (kt : 0 < a → Zz Γ g nL k n x tgt lv st) (kf : a ≤ 0 → Zz Γ g nL k n x (pc + 3) lv st) : Zz Γ g nL k n x pc lv (.int (zi a) :: st) := fun H locs ls hP hS hv => lv_if_gt (okx hO) (okb hO) d ht (fun h => kt ((zi_lt (show -2147483648 ≤ (0 : Int) ∧ (0 : Int) < 2147483648 by decide) ha).mp h) H locs ls hP hS hv) (fun h => kf (Int.not_lt.mp fun h2 => h ((zi_lt (show -2147483648 ≤ (0 : Int) ∧ (0 : Int) < 2147483648 by decide) ha).mpr h2)) H locs ls hP hS hv)
theorem z_icmp_le (hO : Ok Γ g cc nL own F Lc kc ns) {a b off : Int} {tgt : Nat} (d : decode cc pc = .ok (.if_icmp .le off, 3)) (ht : (pc : Int) + off = (tgt : Int)) (ha : -2147483648 ≤ a ∧ a < 2147483648) (hb : -2147483648 ≤ b ∧ b < 2147483648) (kt : a ≤ b → Zz Γ g nL k n x tgt lv st) (kf : b < a → Zz Γ g nL k n x (pc + 3) lv st) : Zz Γ g nL k n x pc lv (.int (zi b) :: .int (zi a) :: st) := fun H locs ls hP hS hv => lv_icmp_le (okx hO) (okb hO) d ht (fun h => kt ((zi_le ha hb).mp h) H locs ls hP hS hv) (fun h => kf (Int.not_le.mp fun h2 => h ((zi_le ha hb).mpr h2)) H locs ls hP hS hv)
theorem z_if_le (hO : Ok Γ g cc nL own F Lc kc ns) {a off : Int} {tgt : Nat} (d : decode cc pc = .ok (.ifCond .le off, 3)) (ht : (pc : Int) + off = (tgt : Int)) (ha : -2147483648 ≤ a ∧ a < 2147483648) (kt : a ≤ 0 → Zz Γ g nL k n x tgt lv st) (kf : 0 < a → Zz Γ g nL k n x (pc + 3) lv st) : Zz Γ g nL k n x pc lv (.int (zi a) :: st) := fun H locs ls hP hS hv => lv_if_le (okx hO) (okb hO) d ht (fun h => kt ((zi_le ha (show -2147483648 ≤ (0 : Int) ∧ (0 : Int) < 2147483648 by decide)).mp h) H locs ls hP hS hv) (fun h => kf (Int.not_le.mp fun h2 => h ((zi_le ha (show -2147483648 ≤ (0 : Int) ∧ (0 : Int) < 2147483648 by decide)).mpr h2)) H locs ls hP hS hv)
theorem z_ifnull (hO : Ok Γ g cc nL own F Lc kc ns) {a : Nat} {off : Int} (d : decode cc pc = .ok (.ifnull off, 3)) (kk : Zz Γ g nL k n x (pc + 3) lv st) : Zz Γ g nL k n x pc lv (.ref a :: st) := fun H locs ls hP hS hv => lv_ifnull (okx hO) (okb hO) d (kk H locs ls hP hS hv)
theorem z_ifnonnull (hO : Ok Γ g cc nL own F Lc kc ns) {a tgt : Nat} {off : Int} (d : decode cc pc = .ok (.ifnonnull off, 3)) (ht : (pc : Int) + off = (tgt : Int)) (kk : Zz Γ g nL k n x tgt lv st) : Zz Γ g nL k n x pc lv (.ref a :: st) := fun H locs ls hP hS hv => lv_ifnonnull (okx hO) (okb hO) d ht (kk H locs ls hP hS hv)
theorem lg_cmp_z {a b : Int} (ha : -9223372036854775808 ≤ a ∧ a < 9223372036854775808) (hb : -9223372036854775808 ≤ b ∧ b < 9223372036854775808) : lg_cmp (zl a) (zl b) = zi (if b < a then 1 else if a < b then -1 else 0) := by
  unfold lg_cmp
  have e1 := zl_lt hb ha
  have e2 := zl_eq ha hb
  by_cases h1 : b < a
  · rw [if_pos (e1.mpr h1), if_pos h1]; rfl
  · rw [if_neg (fun h => h1 (e1.mp h)), if_neg h1]
    by_cases h2 : a = b
    · rw [if_pos (e2.mpr h2), if_neg (by omega)]; rfl
    · rw [if_neg (fun h => h2 (e2.mp h)), if_pos (by omega)]; rfl
theorem z_lcmp_eq (hO : Ok Γ g cc nL own F Lc kc ns) {a b off : Int} {tgt : Nat} (d0 : decode cc pc = .ok (.lcmp, 1)) (d : decode cc (pc + 1) = .ok (.ifCond .eq off, 3)) (ht : ((pc + 1 : Nat) : Int) + off = (tgt : Int)) (ha : -9223372036854775808 ≤ a ∧ a < 9223372036854775808) (hb : -9223372036854775808 ≤ b ∧ b < 9223372036854775808) (kt : a = b → Zz Γ g nL k n x tgt lv st) (kf : a ≠ b → Zz Γ g nL k n x (pc + 1 + 3) lv st) : Zz Γ g nL k n x pc lv (.long (zl b) :: .long (zl a) :: st) := by
  intro H locs ls hP hS hv
  refine W.lcmp (okx hO) (okb hO) d0 ?_
  rw [lg_cmp_z ha hb]
  exact z_if_eq hO d ht (by split <;> first | omega | (split <;> omega)) (fun h => kt (by split at h <;> first | omega | (split at h <;> omega))) (fun h => kf (by split at h <;> first | omega | (split at h <;> omega))) H locs ls hP hS hv
theorem z_lcmp_ne (hO : Ok Γ g cc nL own F Lc kc ns) {a b off : Int} {tgt : Nat} (d0 : decode cc pc = .ok (.lcmp, 1)) (d : decode cc (pc + 1) = .ok (.ifCond .ne off, 3)) (ht : ((pc + 1 : Nat) : Int) + off = (tgt : Int)) (ha : -9223372036854775808 ≤ a ∧ a < 9223372036854775808) (hb : -9223372036854775808 ≤ b ∧ b < 9223372036854775808) (kt : a ≠ b → Zz Γ g nL k n x tgt lv st) (kf : a = b → Zz Γ g nL k n x (pc + 1 + 3) lv st) : Zz Γ g nL k n x pc lv (.long (zl b) :: .long (zl a) :: st) := by
  intro H locs ls hP hS hv
  refine W.lcmp (okx hO) (okb hO) d0 ?_
  rw [lg_cmp_z ha hb]
  exact z_if_ne hO d ht (by split <;> first | omega | (split <;> omega)) (fun h => kt (by split at h <;> first | omega | (split at h <;> omega))) (fun h => kf (by split at h <;> first | omega | (split at h <;> omega))) H locs ls hP hS hv
theorem z_lcmp_lt (hO : Ok Γ g cc nL own F Lc kc ns) {a b off : Int} {tgt : Nat} (d0 : decode cc pc = .ok (.lcmp, 1)) (d : decode cc (pc + 1) = .ok (.ifCond .lt off, 3)) (ht : ((pc + 1 : Nat) : Int) + off = (tgt : Int)) (ha : -9223372036854775808 ≤ a ∧ a < 9223372036854775808) (hb : -9223372036854775808 ≤ b ∧ b < 9223372036854775808) (kt : a < b → Zz Γ g nL k n x tgt lv st) (kf : b ≤ a → Zz Γ g nL k n x (pc + 1 + 3) lv st) : Zz Γ g nL k n x pc lv (.long (zl b) :: .long (zl a) :: st) := by
  intro H locs ls hP hS hv
  refine W.lcmp (okx hO) (okb hO) d0 ?_
  rw [lg_cmp_z ha hb]
  exact z_if_lt hO d ht (by split <;> first | omega | (split <;> omega)) (fun h => kt (by split at h <;> first | omega | (split at h <;> omega))) (fun h => kf (by split at h <;> first | omega | (split at h <;> omega))) H locs ls hP hS hv
theorem z_lcmp_ge (hO : Ok Γ g cc nL own F Lc kc ns) {a b off : Int} {tgt : Nat} (d0 : decode cc pc = .ok (.lcmp, 1)) (d : decode cc (pc + 1) = .ok (.ifCond .ge off, 3)) (ht : ((pc + 1 : Nat) : Int) + off = (tgt : Int)) (ha : -9223372036854775808 ≤ a ∧ a < 9223372036854775808) (hb : -9223372036854775808 ≤ b ∧ b < 9223372036854775808) (kt : b ≤ a → Zz Γ g nL k n x tgt lv st) (kf : a < b → Zz Γ g nL k n x (pc + 1 + 3) lv st) : Zz Γ g nL k n x pc lv (.long (zl b) :: .long (zl a) :: st) := by
  intro H locs ls hP hS hv
  refine W.lcmp (okx hO) (okb hO) d0 ?_
  rw [lg_cmp_z ha hb]
  exact z_if_ge hO d ht (by split <;> first | omega | (split <;> omega)) (fun h => kt (by split at h <;> first | omega | (split at h <;> omega))) (fun h => kf (by split at h <;> first | omega | (split at h <;> omega))) H locs ls hP hS hv
theorem z_lcmp_gt (hO : Ok Γ g cc nL own F Lc kc ns) {a b off : Int} {tgt : Nat} (d0 : decode cc pc = .ok (.lcmp, 1)) (d : decode cc (pc + 1) = .ok (.ifCond .gt off, 3)) (ht : ((pc + 1 : Nat) : Int) + off = (tgt : Int)) (ha : -9223372036854775808 ≤ a ∧ a < 9223372036854775808) (hb : -9223372036854775808 ≤ b ∧ b < 9223372036854775808) (kt : b < a → Zz Γ g nL k n x tgt lv st) (kf : a ≤ b → Zz Γ g nL k n x (pc + 1 + 3) lv st) : Zz Γ g nL k n x pc lv (.long (zl b) :: .long (zl a) :: st) := by
  intro H locs ls hP hS hv
  refine W.lcmp (okx hO) (okb hO) d0 ?_
  rw [lg_cmp_z ha hb]
  exact z_if_gt hO d ht (by split <;> first | omega | (split <;> omega)) (fun h => kt (by split at h <;> first | omega | (split at h <;> omega))) (fun h => kf (by split at h <;> first | omega | (split at h <;> omega))) H locs ls hP hS hv
theorem z_lcmp_le (hO : Ok Γ g cc nL own F Lc kc ns) {a b off : Int} {tgt : Nat} (d0 : decode cc pc = .ok (.lcmp, 1)) (d : decode cc (pc + 1) = .ok (.ifCond .le off, 3)) (ht : ((pc + 1 : Nat) : Int) + off = (tgt : Int)) (ha : -9223372036854775808 ≤ a ∧ a < 9223372036854775808) (hb : -9223372036854775808 ≤ b ∧ b < 9223372036854775808) (kt : a ≤ b → Zz Γ g nL k n x tgt lv st) (kf : b < a → Zz Γ g nL k n x (pc + 1 + 3) lv st) : Zz Γ g nL k n x pc lv (.long (zl b) :: .long (zl a) :: st) := by
  intro H locs ls hP hS hv
  refine W.lcmp (okx hO) (okb hO) d0 ?_
  rw [lg_cmp_z ha hb]
  exact z_if_le hO d ht (by split <;> first | omega | (split <;> omega)) (fun h => kt (by split at h <;> first | omega | (split at h <;> omega))) (fun h => kf (by split at h <;> first | omega | (split at h <;> omega))) H locs ls hP hS hv
theorem z_tabIn (hO : Ok Γ g cc nL own F Lc kc ns) {dflt lo hi off a : Int} {offs : Array Int} {len tgt : Nat} (d : decode cc pc = .ok (.tableswitch dflt lo hi offs, len)) (ha : -2147483648 ≤ a ∧ a < 2147483648) (h1 : lo ≤ a) (h2 : a ≤ hi) (ho : offs[(a - lo).toNat]? = some off) (ht : (pc : Int) + off = (tgt : Int)) (kk : Zz Γ g nL k n x tgt lv st) : Zz Γ g nL k n x pc lv (.int (zi a) :: st) := fun H locs ls hP hS hv => lv_tableIn (okx hO) (okb hO) d (by rw [zi_toInt ha]; omega) (by rw [zi_toInt ha]; omega) (by rw [zi_toInt ha]; exact ho) ht (kk H locs ls hP hS hv)
theorem z_tabOut (hO : Ok Γ g cc nL own F Lc kc ns) {dflt lo hi a : Int} {offs : Array Int} {len tgt : Nat} (d : decode cc pc = .ok (.tableswitch dflt lo hi offs, len)) (ha : -2147483648 ≤ a ∧ a < 2147483648) (h : a < lo ∨ hi < a) (ht : (pc : Int) + dflt = (tgt : Int)) (kk : Zz Γ g nL k n x tgt lv st) : Zz Γ g nL k n x pc lv (.int (zi a) :: st) := fun H locs ls hP hS hv => lv_tableOut (okx hO) (okb hO) d (by rw [zi_toInt ha]; exact h) ht (kk H locs ls hP hS hv)
theorem z_look (hO : Ok Γ g cc nL own F Lc kc ns) {dflt off a : Int} {ps : Array (Int × Int)} {len tgt : Nat} (d : decode cc pc = .ok (.lookupswitch dflt ps, len)) (ha : -2147483648 ≤ a ∧ a < 2147483648) (hp : (ps.toList.zip (ps.toList.drop 1)).all (fun (a, next) => a.1 < next.1) = true) (ho : Op.lookupswitch.offset ps.toList dflt a = off) (ht : (pc : Int) + off = (tgt : Int)) (kk : Zz Γ g nL k n x tgt lv st) : Zz Γ g nL k n x pc lv (.int (zi a) :: st) := fun H locs ls hP hS hv => lv_lookup (okx hO) (okb hO) d hp (by rw [zi_toInt ha]; exact ho) ht (kk H locs ls hP hS hv)
end Zrows
