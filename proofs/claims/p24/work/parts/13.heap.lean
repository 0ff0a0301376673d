section Zheap
variable {Γ : Gam} {g : Gl} {cc : ByteArray} {own : String} {nL k n F Lc kc ns pc : Nat} {x : Me} {lv : List (Nat × Value)} {st : List Value}
theorem z_get (hO : Ok Γ g cc nL own F Lc kc ns) {index ci kf N : Nat} {C nm ds : String} {b : Bool} {T : u_T} {fs : List Value} {v : Value} (i : Nat) (hi : i ∈ (dl g)) (d : decode cc pc = .ok (.getfield index, 3)) (hlink : Cond.fieldLink own index C nm ds ∈ wsU) (hc : vwCl[ci]? = some (C, T, N)) (hin : ∀ w ∈ u_ws C T N, w ∈ wsU) (hk : kf < N) (hT : T kf = (C, nm, ds, b)) (he : we g i (x i) = .inr (ci, fs)) (hf : fs[kf]? = some v) (kk : Zz Γ g nL k n x (pc + 3) lv (v :: st)) : Zz Γ g nL k n x pc lv (.ref (gA g i) :: st) := by
  intro H locs ls hP hS hv
  obtain ⟨q0, h0, -⟩ := wl_at (g := g) (x := x) hi
  rw [he] at h0
  exact va_get (okx hO) (okb hO) (okw hO) hin (oko hO) (okk hO) hP q0 h0 hc kf hk (by rw [hT]; exact okw hO _ hlink) (by rw [hT]; exact fun _ h => h) hf d (kk H locs ls hP hS hv)
theorem z_put (hO : Ok Γ g cc nL own F Lc kc ns) {index ci kf N : Nat} {C nm ds : String} {T : u_T} {fs : List Value} {v : Int} {ty : FieldType} {ty0 : Nat → FieldType} (i : Nat) (kz : Int) (hi : i ∈ (dl g)) (d : decode cc pc = .ok (.putfield index, 3)) (hlink : Cond.fieldLink own index C nm ds ∈ wsU) (hc : vwCl[ci]? = some (C, T, N)) (hin : ∀ w ∈ u_ws C T N, w ∈ wsU) (hty : ∀ k, k < N → parseFieldDescriptor (T k).2.2.1 = some (ty0 k)) (hnm : ∀ a, a < N → ∀ b, b < N → a ≠ b → (T a).2.1 ≠ (T b).2.1) (hk : kf < N) (hT : T kf = (C, nm, ds, false)) (hd : parseFieldDescriptor ds = some ty) (hn : narrow ty (.int (zi v)) = .int (zi v)) (hfit : fits ty (.int (zi v)) = true) (hl : kf < fs.length) (he : we g i (x i) = .inr (ci, fs)) (hx : we g i (up x i kz v i) = .inr (ci, fs.set kf (.int (zi v)))) (kk : ∀ x' : Me, x' = up x i kz v → Zz Γ g nL k n x' (pc + 3) lv st) : Zz Γ g nL k n x pc lv (.int (zi v) :: .ref (gA g i) :: st) := by
  intro H locs ls hP hS hv
  obtain ⟨q0, h0, h1⟩ := wl_at (g := g) (x := x) hi
  rw [he] at h0
  refine va_put (okx hO) (okb hO) (okw hO) hin ty0 hty hnm (oko hO) (okk hO) hP (wl_D (okg hO) x) hS q0 h0 hc kf hk (by rw [hT]; exact okw hO _ hlink) (by rw [hT]; exact fun _ h => h) (by rw [hT]) (by rw [hT]; exact hd) hn hfit hl d (fun H1 locs1 hP1 hD1 hS1 => ?_)
  rw [wl_set h1 (x' := up x i kz v) (fun a ha => up_i x kz v ha) hx.symm] at hP1
  exact kk _ rfl H1 locs1 ls hP1 hS1 hv
/-! arrays -/
def isI (g : Gl) (i len : Nat) : Prop := i ∈ (dl g) ∧ (∀ f, we g i f = ai g f len) ∧ len < 2147483648
def isZ (g : Gl) (i len : Nat) : Prop := i ∈ (dl g) ∧ (∀ f, we g i f = az g f len) ∧ len < 2147483648
def isO (g : Gl) (i : Nat) (C : String) : Prop := i ∈ (dl g) ∧ ∃ (ci N : Nat) (T : u_T), vwCl[ci]? = some (C, T, N) ∧ ∀ f, ∃ fs, we g i f = .inr (ci, fs)
theorem z_iald (hO : Ok Γ g cc nL own F Lc kc ns) {i len : Nat} {j : Int} (hI : isI g i len) (hj : 0 ≤ j ∧ j < len) (d : decode cc pc = .ok (.iaload, 1)) (kk : Zz Γ g nL k n x (pc + 1) lv (.int (zi (x i j)) :: st)) : Zz Γ g nL k n x pc lv (.int (zi j) :: .ref (gA g i) :: st) := by
  intro H locs ls hP hS hv
  obtain ⟨q0, h0, -⟩ := wl_at (g := g) (x := x) hI.1
  rw [hI.2.1] at h0
  refine va_iald (okx hO) (okb hO) (okk hO) hP q0 0 h0 rfl (zi_in hj hI.2.2) d ?_
  have hq := hI.2.2
  rw [zi_clamp (by omega), Int.toNat_of_nonneg hj.1]
  exact kk H locs ls hP hS hv
theorem z_zald (hO : Ok Γ g cc nL own F Lc kc ns) {i len : Nat} {j : Int} (hI : isZ g i len) (hj : 0 ≤ j ∧ j < len) (d : decode cc pc = .ok (.baload, 1)) (kk : Zz Γ g nL k n x (pc + 1) lv (.int (zi (x i j)) :: st)) : Zz Γ g nL k n x pc lv (.int (zi j) :: .ref (gA g i) :: st) := by
  intro H locs ls hP hS hv
  obtain ⟨q0, h0, -⟩ := wl_at (g := g) (x := x) hI.1
  rw [hI.2.1] at h0
  refine va_zald (okx hO) (okb hO) (okk hO) hP q0 2 h0 rfl (zi_in hj hI.2.2) d ?_
  have hq := hI.2.2
  rw [zi_clamp (by omega), Int.toNat_of_nonneg hj.1]
  exact kk H locs ls hP hS hv
theorem upd_z (x : Me) (i : Nat) (j v : Int) (h : 0 ≤ j ∧ j < 2147483648) : upd (fun k : Nat => zi (x i k)) (zi j).toNatClampNeg (zi v) = fun k : Nat => zi (up x i j v i k) := by
  funext a
  rw [zi_clamp h]
  by_cases ha : a = j.toNat
  · subst ha
    rw [pk_us, Int.toNat_of_nonneg h.1, up_s]
  · rw [pk_un ha, up_n x v (by omega)]
theorem z_iast (hO : Ok Γ g cc nL own F Lc kc ns) {i len : Nat} {j v : Int} (hI : isI g i len) (hj : 0 ≤ j ∧ j < len) (d : decode cc pc = .ok (.iastore, 1)) (kk : ∀ x' : Me, x' = up x i j v → Zz Γ g nL k n x' (pc + 1) lv st) : Zz Γ g nL k n x pc lv (.int (zi v) :: .int (zi j) :: .ref (gA g i) :: st) := by
  intro H locs ls hP hS hv
  obtain ⟨q0, h0, h1⟩ := wl_at (g := g) (x := x) hI.1
  rw [hI.2.1] at h0
  have hq := hI.2.2
  refine va_iast (okx hO) (okb hO) (okk hO) hP (wl_D (okg hO) x) hS q0 0 h0 rfl (zi_in hj hI.2.2) d (fun H1 locs1 hP1 hD1 hS1 => ?_)
  rw [upd_z x i j v (by omega)] at hP1
  have e : (Sum.inl (gC g 0, len, Sum.inl (fun k : Nat => zi (up x i j v i k))) : va_E) = we g i (up x i j v i) := by rw [hI.2.1]; rfl
  rw [wl_set h1 (x' := up x i j v) (fun a ha => up_i x j v ha) e] at hP1
  exact kk _ rfl H1 locs1 ls hP1 hS1 hv
theorem zi_bool {v : Int} (h : v = 0 ∨ v = 1) : narrow .boolean (.int (zi v)) = .int (zi v) ∧ vp_nar .boolean (zi v) = zi v ∧ fits .boolean (.int (zi v)) = true := by
  rcases h with rfl | rfl <;> refine ⟨?_, ?_, ?_⟩ <;> decide
theorem z_zast (hO : Ok Γ g cc nL own F Lc kc ns) {i len : Nat} {j v : Int} (hI : isZ g i len) (hj : 0 ≤ j ∧ j < len) (hb : v = 0 ∨ v = 1) (d : decode cc pc = .ok (.bastore, 1)) (kk : ∀ x' : Me, x' = up x i j v → Zz Γ g nL k n x' (pc + 1) lv st) : Zz Γ g nL k n x pc lv (.int (zi v) :: .int (zi j) :: .ref (gA g i) :: st) := by
  intro H locs ls hP hS hv
  obtain ⟨q0, h0, h1⟩ := wl_at (g := g) (x := x) hI.1
  rw [hI.2.1] at h0
  have hq := hI.2.2
  refine va_zast (okx hO) (okb hO) (okk hO) hP (wl_D (okg hO) x) hS q0 2 h0 rfl (zi_in hj hI.2.2) d (fun H1 locs1 hP1 hD1 hS1 => ?_)
  rw [(zi_bool hb).2.1, upd_z x i j v (by omega)] at hP1
  have e : (Sum.inl (gC g 2, len, Sum.inl (fun k : Nat => zi (up x i j v i k))) : va_E) = we g i (up x i j v i) := by rw [hI.2.1]; rfl
  rw [wl_set h1 (x' := up x i j v) (fun a ha => up_i x j v ha) e] at hP1
  exact kk _ rfl H1 locs1 ls hP1 hS1 hv
theorem z_figs (hO : Ok Γ g cc nL own F Lc kc ns) {j : Nat} (hj : j < 8) (d : decode cc pc = .ok (.aaload, 1)) (kk : Zz Γ g nL k n x (pc + 1) lv (.ref (gA g (10 + j)) :: st)) : Zz Γ g nL k n x pc lv (.int (zi j) :: .ref (gA g 1) :: st) := by
  intro H locs ls hP hS hv
  obtain ⟨q0, h0, -⟩ := wl_at (g := g) (x := x) (i := 1) (dl_b (by decide +kernel))
  have h0 : (wl g x)[q0]? = some (gA g 1, aq g 3 (fun k => 10 + k) 8) := h0
  refine va_aldq (okx hO) (okb hO) (okk hO) hP q0 3 h0 rfl (zi_in (by omega) (by omega)) d ?_
  rw [zi_clamp (by omega)]
  exact kk H locs ls hP hS hv
theorem z_srows (hO : Ok Γ g cc nL own F Lc kc ns) {j : Nat} (hj : j < 38) (d : decode cc pc = .ok (.aaload, 1)) (kk : Zz Γ g nL k n x (pc + 1) lv (.ref (gA g (100 + j)) :: st)) : Zz Γ g nL k n x pc lv (.int (zi j) :: .ref (gA g 43) :: st) := by
  intro H locs ls hP hS hv
  obtain ⟨q0, h0, -⟩ := wl_at (g := g) (x := x) (i := 43) (dl_b (by decide +kernel))
  have h0 : (wl g x)[q0]? = some (gA g 43, aq g 4 (fun k => 100 + k) 38) := h0
  have hin : vp_in (zi j) 38 := zi_in (by omega) (by omega)
  have hlt : (zi j).toNatClampNeg < 38 := Nat.not_le.mp fun q => hin (Or.inr q)
  have e1 : (zi j).toNatClampNeg = j := by rw [zi_clamp (by omega)]; rfl
  refine W.aald (v := .ref (gA g (100 + j))) (okx hO) (okb hO) (cell := arrV (gC g 4) 38 (fun j => va_rf (some (gA g (100 + j))))) (hP q0 _ h0) (((okk hO).2 4 (gC g 4, .array .int) rfl).1 38 (fun j => va_rf (some (gA g (100 + j))))) rfl (fun q => by cases q) (by show ¬ (zi j < 0 ∨ (arrV _ _ _).slots.size ≤ _); rw [arrV_size]; exact hin) (by show (arrV _ _ _).slots[_]? = _; rw [arrV_read _ _ hlt, e1]; rfl) rfl rfl d (kk H locs ls hP hS hv)
theorem z_alen (hO : Ok Γ g cc nL own F Lc kc ns) {i len t : Nat} {cA : ClassId} {ty : FieldType} {b : (Nat → Int32) ⊕ (Nat → Int64) ⊕ (Nat → UInt32) ⊕ (Nat → UInt64) ⊕ (Nat → Option Nat)} (hi : i ∈ (dl g)) (he : we g i (x i) = .inl (cA, len, b)) (ht : (tys5 g)[t]? = some (cA, ty)) (d : decode cc pc = .ok (.arraylength, 1)) (kk : Zz Γ g nL k n x (pc + 1) lv (.int (zi len) :: st)) : Zz Γ g nL k n x pc lv (.ref (gA g i) :: st) := by
  intro H locs ls hP hS hv
  obtain ⟨q0, h0, -⟩ := wl_at (g := g) (x := x) hi
  rw [he] at h0
  exact va_alen (okx hO) (okb hO) (okk hO) hP q0 t h0 ht (v := zi len) rfl d (kk H locs ls hP hS hv)
theorem z_alenI (hO : Ok Γ g cc nL own F Lc kc ns) {i len : Nat} (hI : isI g i len) (d : decode cc pc = .ok (.arraylength, 1)) (kk : Zz Γ g nL k n x (pc + 1) lv (.int (zi len) :: st)) : Zz Γ g nL k n x pc lv (.ref (gA g i) :: st) := z_alen hO hI.1 (hI.2.1 (x i)) (t := 0) rfl d kk
theorem z_alenZ (hO : Ok Γ g cc nL own F Lc kc ns) {i len : Nat} (hI : isZ g i len) (d : decode cc pc = .ok (.arraylength, 1)) (kk : Zz Γ g nL k n x (pc + 1) lv (.int (zi len) :: st)) : Zz Γ g nL k n x pc lv (.ref (gA g i) :: st) := z_alen hO hI.1 (hI.2.1 (x i)) (t := 2) rfl d kk
theorem z_alenF (hO : Ok Γ g cc nL own F Lc kc ns) (d : decode cc pc = .ok (.arraylength, 1)) (kk : Zz Γ g nL k n x (pc + 1) lv (.int (zi 8) :: st)) : Zz Γ g nL k n x pc lv (.ref (gA g 1) :: st) := z_alen hO (dl_b (by decide +kernel)) (show we g 1 (x 1) = aq g 3 (fun k => 10 + k) 8 from rfl) (t := 3) rfl d kk
theorem z_alenR (hO : Ok Γ g cc nL own F Lc kc ns) (d : decode cc pc = .ok (.arraylength, 1)) (kk : Zz Γ g nL k n x (pc + 1) lv (.int (zi 38) :: st)) : Zz Γ g nL k n x pc lv (.ref (gA g 43) :: st) := z_alen hO (dl_b (by decide +kernel)) (show we g 43 (x 43) = aq g 4 (fun k => 100 + k) 38 from rfl) (t := 4) rfl d kk
end Zheap
/-! the cells by their numbers -/
theorem dl_fig {g : Gl} {q : Nat} (h : q < 9) : 10 + q ∈ dl g := dl_b ((by decide +kernel : ∀ q, q < 9 → 10 + q ∈ dlM.take 72) q h)
theorem dl_arr {g : Gl} {q : Nat} (h : q < 9) : 20 + q ∈ dl g := dl_b ((by decide +kernel : ∀ q, q < 9 → 20 + q ∈ dlM.take 72) q h)
theorem dl_row {g : Gl} {q : Nat} (h : q < 38) : 100 + q ∈ dl g := dl_b ((by decide +kernel : ∀ q, q < 38 → 100 + q ∈ dlM.take 72) q h)
theorem we_fig {g : Gl} {q : Nat} (h : q < 9) (f : Int → Int) : we g (10 + q) f = .inr (0, [.ref (gA g (20 + q)), .int (zi (f 1))]) := by
  unfold we
  rw [if_neg (by omega), if_pos (by omega), show 10 + q + 10 = 20 + q by omega]
theorem isI_arr {g : Gl} {q : Nat} (h : q < 9) : isI g (20 + q) 81 := ⟨dl_arr h, fun f => by
  unfold we
  rw [if_neg (by omega), if_neg (by omega), if_pos (by omega)], by decide⟩
theorem isI_row {g : Gl} {q : Nat} (h : q < 38) : isI g (100 + q) 38 := ⟨dl_row h, fun f => by
  unfold we
  iterate 17 rw [if_neg (by omega)], by decide⟩
theorem isO_fig {g : Gl} {q : Nat} (h : q < 9) : isO g (10 + q) RX1 := ⟨dl_fig h, 0, 2, TX1, rfl, fun f => ⟨_, we_fig h f⟩⟩
theorem isI_31 {g : Gl} : isI g 31 16 := ⟨dl_b (by decide +kernel), fun f => rfl, by decide⟩
theorem isI_33 {g : Gl} : isI g 33 10 := ⟨dl_b (by decide +kernel), fun f => rfl, by decide⟩
theorem isI_34 {g : Gl} : isI g 34 10 := ⟨dl_b (by decide +kernel), fun f => rfl, by decide⟩
theorem isI_35 {g : Gl} : isI g 35 64 := ⟨dl_b (by decide +kernel), fun f => rfl, by decide⟩
theorem isI_36 {g : Gl} : isI g 36 16 := ⟨dl_b (by decide +kernel), fun f => rfl, by decide⟩
theorem isI_41 {g : Gl} : isI g 41 8 := ⟨dl_b (by decide +kernel), fun f => rfl, by decide⟩
theorem isI_44 {g : Gl} : isI g 44 38 := ⟨dl_b (by decide +kernel), fun f => rfl, by decide⟩
theorem isI_45 {g : Gl} : isI g 45 38 := ⟨dl_b (by decide +kernel), fun f => rfl, by decide⟩
theorem isZ_32 {g : Gl} : isZ g 32 17 := ⟨dl_b (by decide +kernel), fun f => rfl, by decide⟩
theorem isO_0 {g : Gl} : isO g 0 RX11 := ⟨dl_b (by decide +kernel), 4, 6, TX11, rfl, fun f => ⟨_, rfl⟩⟩
theorem isO_30 {g : Gl} : isO g 30 RX8 := ⟨dl_b (by decide +kernel), 2, 14, TX8, rfl, fun f => ⟨_, rfl⟩⟩
theorem isO_40 {g : Gl} : isO g 40 RX3 := ⟨dl_b (by decide +kernel), 1, 1, TX3, rfl, fun f => ⟨_, rfl⟩⟩
theorem isO_42 {g : Gl} : isO g 42 RX10 := ⟨dl_b (by decide +kernel), 3, 5, TX10, rfl, fun f => ⟨_, rfl⟩⟩
theorem isI_71 {g : Gl} : isI g 71 16 := ⟨dl_b (by decide +kernel), fun f => rfl, by decide⟩
theorem isI_2 {g : Gl} (h : 1 ≤ gX g) : isI g 2 16 := ⟨dl_e (k := 72) rfl (by omega), fun f => rfl, by decide⟩
theorem isI_3 {g : Gl} (h : 2 ≤ gX g) : isI g 3 16 := ⟨dl_e (k := 73) rfl (by omega), fun f => rfl, by decide⟩
