theorem wsX_at {args : Array Value} {s : State} (h1 : ∀ w ∈ wsU, w.before args s = true) (h2 : pw_V s) : ∀ w ∈ wsX, w.before args s = true := by
  intro w hw
  by_cases hg : goodWord w = true
  · have h := List.all_eq_true.mp wsX_g w (List.mem_filter.mpr ⟨hw, hg⟩)
    exact h1 w (wsU_in (of_decide_eq_true h) hg)
  · have hf : w ∈ wsF := List.mem_filter.mpr ⟨hw, by simpa using hg⟩
    have ho := List.all_eq_true.mp wsF_ok w hf
    simp only [Bool.and_eq_true] at ho
    exact va_tabs ho.1 rfl (h2.1 w hf)
theorem z_throw {Γ : Gam} {g : Gl} {cc : ByteArray} {nL k n F Lc kc ns pc : Nat} {x : Me} {lv : List (Nat × Value)} {st : List Value} (hO : Ok Γ g cc nL RX11 F Lc kc ns) (hl : (qL Γ).stackTraces = false) {Qc : Qt} {pX : String → Prop} (hQ : qQ Γ = vx_MQ (qb Γ) Qc (XCu g pX x) (qa Γ) (qS Γ) kc ns (pA g)) (hh : ∀ y ∈ (qc Γ).exceptionTable.toList, False) {ik is ic : Nat} {cls text : String} (hcls : Bundle.fit cls = true) (hk : Cond.classLink RX11 ik cls ∈ wsU) (hini : Cond.initialized cls ∈ wsU) (hs : (is, text) ∈ sts7) (hat : ∀ w ∈ vx_atS RX11 ic cls nmR, w ∈ wsX) (d0 : decode cc pc = .ok (.new ik, 3)) (d3 : decode cc (pc + 3) = .ok (.dup, 1)) (d4 : decode cc (pc + 4) = .ok (.ldc is, 2)) (d6 : decode cc (pc + 6) = .ok (.invokespecial ic, 3)) (d9 : decode cc (pc + 9) = .ok (.athrow, 1)) (hF : 5 < F) (hL : (st.map fun v => v.category).sum + 82 ≤ Lc) (hc : k + 1 ≤ kc ∧ n + 6 ≤ ns) (hx : pX cls) : Zz Γ g nL k n x pc lv st := by
  intro H locs ls hP hS hv
  obtain ⟨sa, hsa⟩ := (okV hO).2 _ hs
  rw [hQ]
  refine vx_throwS (okx hO) (okb hO) hl (names := nmR) (oko hO) hcls (by decide +kernel) (okw hO _ hk) (okw hO _ hini) hsa (fun w hw => wsX_at (okw hO) (okV hO) w (hat w hw)) ?_ (oku hO) (okn hO) hS (hv.1.trans (okm hO).symm) d0 d3 d4 d6 d9 (fun y hy => absurd hy (fun h => hh y h)) (by rw [okr hO]; exact hF) (by rw [okr hO]; exact hL) (by rw [okr hO]; exact hc.1) (by rw [okr hO]; exact hc.2) (okl hO) (fun t hvm hz hq => ⟨(), trivial, ⟨hx, hP.kept (fun i q hi => hq q.1 (hP i q hi).lt)⟩, ⟨Nat.le_trans hS.1 hz, fun q h1 h2 => (hq q (Nat.lt_of_lt_of_le h1 hS.1)).trans (hS.2.1 q h1 h2)⟩⟩) (loc_free hS) hc.1 hc.2
  · intro w hw
    rcases List.mem_cons.mp hw with rfl | hw
    · simp only [vx_ot, Bool.or_eq_true]; exact Or.inr (List.mem_filter.mp hk).2
    · rcases List.mem_cons.mp hw with rfl | hw
      · simp only [vx_ot, Bool.or_eq_true]; exact Or.inr (List.mem_filter.mp hini).2
      · exact List.all_eq_true.mp wsX_ot w (hat w hw)

