/-! what holds at the law's entry -/
theorem str_ev {own tx : String} {k : Nat} {A : Array Value} {s : State} (h : (Cond.stringRef own k tx).before A s = true) : ∃ sa : Nat, vk_R own k tx sa s := by
  have h1 : (Cond.stringRef own k tx).before A s = true := h
  unfold Cond.before Cond.holds at h1
  simp only [Cond.value] at h1
  cases hr : s.resolvedAt? own k with
  | none => cases hc : s.vm.findClass own <;> simp [hc, hr] at h1
  | some q =>
    cases q with
    | string a =>
      refine ⟨a, vk_R.of (A := A) h ?_⟩
      unfold State.resolvedAt? at hr
      simp only [Term.eval]
      cases hc : s.vm.findClass own with
      | none => rw [hc] at hr; cases hr
      | some c =>
        rw [hc] at hr
        have hr1 : (s.vm.classes[c]?).bind (fun K => (K.resolved[k]?).join) = some (Resolved.string a) := hr
        cases hk : s.vm.classes[c]? with
        | none => rw [hk] at hr1; cases hr1
        | some K =>
          rw [hk] at hr1
          have hr2 : (K.resolved[k]?).join = some (Resolved.string a) := hr1
          show (s.vm.classes[c]?).bind _ = _
          rw [hk]
          show ((K.resolved[k]?).join).bind _ = _
          rw [hr2]
          rfl
    | _ => cases hc : s.vm.findClass own <;> simp [hc, hr] at h1
theorem kn_all {s : State} {A : Array Value} (hts : ∀ w ∈ wsU, w.before A s = true) : ∃ D : va_G, ∀ (k : Nat) (q : vw_C), vwCl[k]? = some q → u_Kn s q.1 q.2.1 q.2.2 (D.1 k) (D.2 k) := by
  obtain ⟨c0, i0, h0⟩ := u_known (C := RX1) (T := TX1) (N := 2) (n := 2) hts in_X1 (hts _ wn_RX1)
  obtain ⟨c1, i1, h1⟩ := u_known (C := RX3) (T := TX3) (N := 1) (n := 1) hts in_X3 (hts _ wn_RX3)
  obtain ⟨c2, i2, h2⟩ := u_known (C := RX8) (T := TX8) (N := 14) (n := 14) hts in_X8 (hts _ wn_RX8)
  obtain ⟨c3, i3, h3⟩ := u_known (C := RX10) (T := TX10) (N := 5) (n := 5) hts in_X10 (hts _ wn_RX10)
  obtain ⟨c4, i4, h4⟩ := u_known (C := RX11) (T := TX11) (N := 6) (n := 6) hts in_X11 (hts _ wn_RX11)
  obtain ⟨c5, i5, h5⟩ := u_known (C := RX12) (T := TX12) (N := 16) (n := 16) hts in_X12 (hts _ wn_RX12)
  refine ⟨(fun k => if k = 0 then c0 else if k = 1 then c1 else if k = 2 then c2 else if k = 3 then c3 else if k = 4 then c4 else c5, fun k => if k = 0 then i0 else if k = 1 then i1 else if k = 2 then i2 else if k = 3 then i3 else if k = 4 then i4 else i5), fun k q hq => ?_⟩
  match k, hq with
  | 0, hq => cases hq; exact h0
  | 1, hq => cases hq; exact h1
  | 2, hq => cases hq; exact h2
  | 3, hq => cases hq; exact h3
  | 4, hq => cases hq; exact h4
  | 5, hq => cases hq; exact h5
  | k + 6, hq => simp at hq
theorem arr_p {s : State} {A : Array Value} {ty : FieldType} (h : (Cond.arrayClass ty).before A s = true) : ∃ c : ClassId, ArrOfT s c ty ∧ s.vm.findClass ("[" ++ ty.toString) = some c := by
  obtain ⟨cA, kA, comp, h1, h2, h3⟩ := Cond.arrayClass_spec h
  exact ⟨cA, fun n z => ⟨fun k h => (by cases h), kA, h2, comp, h3⟩, h1⟩
theorem wao_F {s : State} {b : Nat} (hts : ∀ w ∈ lw_tbl, w.before #[Value.ref b] s = true) : va_AO RX1 s := va_AO.of (hts (.arrayOver (.object RX1)) (List.mem_append_right _ (have h : Cond.arrayOver (.object RX1) ∈ tables_1_1 := List.mem_of_getElem? (i := 31) rfl; List.mem_append_left _ h)))
theorem wao_I {s : State} {b : Nat} (hts : ∀ w ∈ lw_tbl, w.before #[Value.ref b] s = true) : va_AOA .int s := hts (.arrayOver (.array .int)) (List.mem_append_right _ (have h : Cond.arrayOver (.array .int) ∈ tables_1_1 := List.mem_of_getElem? (i := 112) rfl; List.mem_append_left _ h))
theorem arr_all {s : State} {b : Nat} (hts : ∀ w ∈ lw_tbl, w.before #[Value.ref b] s = true) : ∃ C : Nat → ClassId, ∀ (k : Nat) (q : ClassId × FieldType), ([(C 0, .int), (C 1, .long), (C 2, .boolean), (C 3, .object RX1), (C 4, .array .int)] : List (ClassId × FieldType))[k]? = some q → ArrOfT s q.1 q.2 ∧ va_RA s q.1 q.2 := by
  have htu : ∀ w ∈ wsU, w.before #[Value.ref b] s = true := fun w hw => hts w (List.mem_filter.mp hw).1
  obtain ⟨c0, a0, b0⟩ := arr_p (htu _ wao_i)
  obtain ⟨c1, a1, b1⟩ := arr_p (htu _ wao_l)
  obtain ⟨c2, a2, b2⟩ := arr_p (htu _ wao_z)
  obtain ⟨m3, c3, k3, p1, -, p3, p4, p5⟩ := Cond.arrayOver_spec (wao_F hts)
  obtain ⟨m4, c4, k4, q1, -, q3, q4, q5⟩ := arrayOver_specB (wao_I hts)
  refine ⟨fun k => if k = 0 then c0 else if k = 1 then c1 else if k = 2 then c2 else if k = 3 then c3 else c4, fun k q hq => ?_⟩
  match k, hq with
  | 0, hq => cases hq; exact ⟨a0, b0⟩
  | 1, hq => cases hq; exact ⟨a1, b1⟩
  | 2, hq => cases hq; exact ⟨a2, b2⟩
  | 3, hq => cases hq; exact ⟨fun n z => ⟨fun k h => (by cases h), k3, p3, m3, p4⟩, k3, m3, p3, p4, p1, p5⟩
  | 4, hq => cases hq; exact ⟨fun n z => ⟨fun k h => (by cases h), k4, q3, m4, q4⟩, q5⟩
  | k + 5, hq => simp at hq
theorem wsF_in : wsF.all (fun w => decide (w ∈ lw_tbl)) = true := by decide +kernel
theorem st7_in : sts7.all (fun q => decide (Cond.stringRef RX11 q.1 q.2 ∈ lw_tbl)) = true := by decide +kernel
theorem st_V {s : State} {b : Nat} (hts : ∀ w ∈ lw_tbl, w.before #[Value.ref b] s = true) : pw_V s := by
  refine ⟨fun w hw => ?_, fun q hq => str_ev (hts _ (of_decide_eq_true (List.all_eq_true.mp st7_in q hq)))⟩
  have ho := List.all_eq_true.mp wsF_ok w hw
  simp only [Bool.and_eq_true] at ho
  exact va_tabs ho.1 rfl (hts w (of_decide_eq_true (List.all_eq_true.mp wsF_in w hw)))
theorem st_N {s : State} {b : Nat} (hts : ∀ w ∈ lw_tbl, w.before #[Value.ref b] s = true) (hg : (Jvm.Cond.and given_1 narrow_1).before #[Value.ref b] s = true) : pw_N s := by
  have hs := flat_of_before _ hg
  exact ⟨⟨va_Nc.of (hs (.not (.castable eIA eIO)) (by decide +kernel)), va_Nc.of (hs (.not (.castable eIS eIO)) (by decide +kernel)), va_Nc.of (hs (.not (.castable eIS eIA)) (by decide +kernel))⟩, va_Nw.of rfl (hts (.castable eIO eIO) (by decide +kernel)), va_Nw.of rfl (hts (.castable eIA eIA) (by decide +kernel)), va_Nw.of rfl (hts (.castable eIS eIS) (by decide +kernel))⟩
theorem st_U {s : State} {b : Nat} (hts : ∀ w ∈ lw_tbl, w.before #[Value.ref b] s = true) (hg : (Jvm.Cond.and given_1 narrow_1).before #[Value.ref b] s = true) : vx_Zq Bundle.tN "UNASSIGNED_STACK" Bundle.steD (fun q => s.heap.size ≤ q) s s.heap ∧ vx_Zq Bundle.tN "SUPPRESSED_SENTINEL" Bundle.listD (fun q => s.heap.size ≤ q) s s.heap := by
  have hs := flat_of_before _ hg
  exact ⟨vx_Zqof (hts (.laysStatic "java/lang/Throwable" "UNASSIGNED_STACK" "[Ljava/lang/StackTraceElement;") (by decide +kernel)) (hts (.initialized "java/lang/Throwable") (by decide +kernel)) (hs (.isRef (.static "java/lang/Throwable" "UNASSIGNED_STACK" "[Ljava/lang/StackTraceElement;")) (by decide +kernel)) (fun a h => Nat.not_le.mpr h),
    vx_Zqof (hts (.laysStatic "java/lang/Throwable" "SUPPRESSED_SENTINEL" "Ljava/util/List;") (by decide +kernel)) (hts (.initialized "java/lang/Throwable") (by decide +kernel)) (hs (.isRef (.static "java/lang/Throwable" "SUPPRESSED_SENTINEL" "Ljava/util/List;")) (by decide +kernel)) (fun a h => Nat.not_le.mpr h)⟩
