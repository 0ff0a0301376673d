/-! what holds at the law's entry -/
theorem kn_all {s : State} {A : Array Value} (hts : ∀ w ∈ wsU, w.before A s = true) : ∃ D : va_G, ∀ (k : Nat) (q : vw_C), vwCl[k]? = some q → u_Kn s q.1 q.2.1 q.2.2 (D.1 k) (D.2 k) := by
  obtain ⟨c0, i0, h0⟩ := u_known (C := RX1) (T := TX1) (N := 2) (n := 2) hts in_X1 (hts _ wn_RX1)
  obtain ⟨c1, i1, h1⟩ := u_known (C := RX3) (T := TX3) (N := 1) (n := 1) hts in_X3 (hts _ wn_RX3)
  obtain ⟨c2, i2, h2⟩ := u_known (C := RX8) (T := TX8) (N := 14) (n := 14) hts in_X8 (hts _ wn_RX8)
  obtain ⟨c3, i3, h3⟩ := u_known (C := RX10) (T := TX10) (N := 5) (n := 5) hts in_X10 (hts _ wn_RX10)
  obtain ⟨c4, i4, h4⟩ := u_known (C := RX11) (T := TX11) (N := 6) (n := 6) hts in_X11 (hts _ wn_RX11)
  refine ⟨(fun k => if k = 0 then c0 else if k = 1 then c1 else if k = 2 then c2 else if k = 3 then c3 else c4, fun k => if k = 0 then i0 else if k = 1 then i1 else if k = 2 then i2 else if k = 3 then i3 else i4), fun k q hq => ?_⟩
  match k, hq with
  | 0, hq => cases hq; exact h0
  | 1, hq => cases hq; exact h1
  | 2, hq => cases hq; exact h2
  | 3, hq => cases hq; exact h3
  | 4, hq => cases hq; exact h4
  | k + 5, hq => simp at hq
theorem arr_p {s : State} {A : Array Value} {ty : FieldType} (h : (Cond.arrayClass ty).before A s = true) : ∃ c : ClassId, ArrOfT s c ty ∧ s.vm.findClass ("[" ++ ty.toString) = some c := by
  obtain ⟨cA, kA, comp, h1, h2, h3⟩ := Cond.arrayClass_spec h
  exact ⟨cA, fun n z => ⟨fun k h => (by cases h), kA, h2, comp, h3⟩, h1⟩
theorem wao_F {s : State} {b : Nat} (hts : ∀ w ∈ lw_tbl, w.before #[Value.ref b] s = true) : va_AO RX1 s := va_AO.of (hts (.arrayOver (.object RX1)) (List.mem_append_right _ (have h : Cond.arrayOver (.object RX1) ∈ tables_1_1 := List.mem_of_getElem? (i := 25) rfl; List.mem_append_left _ h)))
theorem wao_I {s : State} {b : Nat} (hts : ∀ w ∈ lw_tbl, w.before #[Value.ref b] s = true) : va_AOA .int s := hts (.arrayOver (.array .int)) (List.mem_append_right _ (have h : Cond.arrayOver (.array .int) ∈ tables_1_1 := List.mem_of_getElem? (i := 106) rfl; List.mem_append_left _ h))
theorem arr_all {s : State} {b : Nat} (hts : ∀ w ∈ lw_tbl, w.before #[Value.ref b] s = true) : ∃ C : Nat → ClassId, ∀ (k : Nat) (q : ClassId × FieldType), ([(C 0, .int), (C 0, .int), (C 2, .boolean), (C 3, .object RX1), (C 4, .array .int)] : List (ClassId × FieldType))[k]? = some q → ArrOfT s q.1 q.2 ∧ va_RA s q.1 q.2 := by
  have htu : ∀ w ∈ wsU, w.before #[Value.ref b] s = true := fun w hw => hts w (List.mem_filter.mp hw).1
  obtain ⟨c0, a0, b0⟩ := arr_p (htu _ wao_i)
  obtain ⟨c2, a2, b2⟩ := arr_p (htu _ wao_z)
  obtain ⟨m3, c3, k3, p1, -, p3, p4, p5⟩ := Cond.arrayOver_spec (wao_F hts)
  obtain ⟨m4, c4, k4, q1, -, q3, q4, q5⟩ := arrayOver_specB (wao_I hts)
  refine ⟨fun k => if k = 0 then c0 else if k = 2 then c2 else if k = 3 then c3 else c4, fun k q hq => ?_⟩
  match k, hq with
  | 0, hq => cases hq; exact ⟨a0, b0⟩
  | 1, hq => cases hq; exact ⟨a0, b0⟩
  | 2, hq => cases hq; exact ⟨a2, b2⟩
  | 3, hq => cases hq; exact ⟨fun n z => ⟨fun k h => (by cases h), k3, p3, m3, p4⟩, k3, m3, p3, p4, p1, p5⟩
  | 4, hq => cases hq; exact ⟨fun n z => ⟨fun k h => (by cases h), k4, q3, m4, q4⟩, q5⟩
  | k + 5, hq => simp at hq
theorem st_U {s : State} {b : Nat} (hts : ∀ w ∈ lw_tbl, w.before #[Value.ref b] s = true) (hg : (Jvm.Cond.and given_1 narrow_1).before #[Value.ref b] s = true) : vx_Zq Bundle.tN "UNASSIGNED_STACK" Bundle.steD (fun q => s.heap.size ≤ q) s s.heap ∧ vx_Zq Bundle.tN "SUPPRESSED_SENTINEL" Bundle.listD (fun q => s.heap.size ≤ q) s s.heap := by
  have hs := flat_of_before _ hg
  exact ⟨vx_Zqof (hts (.laysStatic "java/lang/Throwable" "UNASSIGNED_STACK" "[Ljava/lang/StackTraceElement;") (by decide +kernel)) (hts (.initialized "java/lang/Throwable") (by decide +kernel)) (hs (.isRef (.static "java/lang/Throwable" "UNASSIGNED_STACK" "[Ljava/lang/StackTraceElement;")) (by decide +kernel)) (fun a h => Nat.not_le.mpr h),
    vx_Zqof (hts (.laysStatic "java/lang/Throwable" "SUPPRESSED_SENTINEL" "Ljava/util/List;") (by decide +kernel)) (hts (.initialized "java/lang/Throwable") (by decide +kernel)) (hs (.isRef (.static "java/lang/Throwable" "SUPPRESSED_SENTINEL" "Ljava/util/List;")) (by decide +kernel)) (fun a h => Nat.not_le.mpr h)⟩
