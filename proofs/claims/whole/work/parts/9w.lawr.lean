/-! kin goes both ways -/
def ivf (fm : Int) : Int := if fm = 1 then 3 else if fm = 3 then 1 else fm
theorem ivf_d : ∀ n : Fin 9, ∀ fm : Fin 8, ∀ p : Fin 81, (p.val : Int) < ((n.val : Int) + 1) * ((n.val : Int) + 1) → (0 ≤ fmp ((n.val : Int) + 1) (ivf (fm.val : Int)) (p.val : Int) ∧ fmp ((n.val : Int) + 1) (ivf (fm.val : Int)) (p.val : Int) < ((n.val : Int) + 1) * ((n.val : Int) + 1)) ∧ fmp ((n.val : Int) + 1) (fm.val : Int) (fmp ((n.val : Int) + 1) (ivf (fm.val : Int)) (p.val : Int)) = (p.val : Int) := by decide +kernel
theorem ivf_r {n fm p : Int} (hn : 1 ≤ n ∧ n ≤ 9) (hf : 0 ≤ fm ∧ fm < 8) (hp : 0 ≤ p ∧ p < n * n) : (0 ≤ fmp n (ivf fm) p ∧ fmp n (ivf fm) p < n * n) ∧ fmp n fm (fmp n (ivf fm) p) = p := by
  have h9 := sq9 hn
  obtain ⟨a, rfl⟩ : ∃ a : Nat, n = (a : Int) + 1 := ⟨(n - 1).toNat, by omega⟩
  obtain ⟨b, rfl⟩ : ∃ b : Nat, fm = b := ⟨fm.toNat, by omega⟩
  obtain ⟨c, rfl⟩ : ∃ c : Nat, p = c := ⟨p.toNat, by omega⟩
  exact ivf_d ⟨a, by omega⟩ ⟨b, by omega⟩ ⟨c, by omega⟩ hp.2
theorem isF_inv {n fm : Int} {f h : Int → Int} (hn : 1 ≤ n ∧ n ≤ 9) (hf : 0 ≤ fm ∧ fm < 8) (hi : isF n f fm h) : isF n h (ivf fm) f := fun p a b => by
  obtain ⟨h1, h2⟩ := ivf_r hn hf ⟨a, b⟩
  rw [← hi _ h1.1 h1.2, h2]
theorem ivf_8 {fm : Int} (hf : 0 ≤ fm ∧ fm < 8) : 0 ≤ ivf fm ∧ ivf fm < 8 := by unfold ivf; split; omega; split <;> omega
theorem KN_KD {x : Me} (hJ : JI x) {e k : Int} (he : 0 ≤ e ∧ e < x 0 5) (hk : 0 ≤ k ∧ k < x 0 5) : KN x e.toNat k.toNat ↔ KD x k e := by
  have q1 := JI_q hJ he
  have q2 := JI_q hJ hk
  have g1 := (hJ.1.2 e.toNat (by omega)).2.1
  have g2 := (hJ.1.2 k.toNat (by omega)).2.1
  unfold KN KD
  rw [q1.1, q1.2, q2.1, q2.2]
  constructor
  · rintro ⟨fm, a, b, c, d⟩
    refine ⟨ivf fm, (ivf_8 ⟨a, b⟩).1, (ivf_8 ⟨a, b⟩).2, c.symm, ?_⟩
    rw [← c]
    exact isF_inv g1 ⟨a, b⟩ d
  · rintro ⟨fm, a, b, c, d⟩
    refine ⟨ivf fm, (ivf_8 ⟨a, b⟩).1, (ivf_8 ⟨a, b⟩).2, c.symm, ?_⟩
    rw [← c]
    exact isF_inv g2 ⟨a, b⟩ d
theorem cls_eq {x : Me} (hJ : JI x) : sm (fun j => bi (¬ ∃ e : Nat, (e : Int) < j ∧ KN x e j.toNat)) (x 0 5).toNat = sm (fun j => bi (∀ e : Int, 0 ≤ e → e < j → ¬ KD x j e)) (x 50 1).toNat := by
  rw [← hJ.2.2.1]
  refine sm_congr (fun k a b => bi_c ⟨fun h e c d hk => h ⟨e.toNat, by omega, (KN_KD hJ (by omega) (by omega)).mpr hk⟩, fun h => ?_⟩)
  rintro ⟨e, he, hk⟩
  refine h e (by omega) he ?_
  have h1 := (KN_KD (e := (e : Int)) (k := k) hJ (by omega) (by omega)).mp
  rw [Int.toNat_natCast] at h1
  exact h1 hk
/-! rows of the law's own body -/
def lkSW (own : String) (index : Nat) (y : MethodName) (cc : ByteArray) (nL : Nat) (hh : List (Nat × Nat × Nat × Nat)) (n : Nat) : Prop := GoodIn wsU (va_wsS own index y (Cond.codeWith y cc nL (some .int) hh :: wsU)) ∧ (y.cls ≠ "java/lang/invoke/MethodHandle" ∧ y.cls ≠ "java/lang/invoke/VarHandle" ∧ (parseMethodDescriptor y.desc).map (fun d => d.parameters.length) = some n)
theorem gi_SW {own : String} {index nL : Nat} {y : MethodName} {cc : ByteArray} {hh : List (Nat × Nat × Nat × Nat)} (h1 : Cond.methodLink own index y ∈ wsU) (h2 : Cond.static y ∈ wsU) (h4 : Cond.initialized y.cls ∈ wsU) (h5 : Cond.codeWith y cc nL (some .int) hh ∈ wsU) : GoodIn wsU (va_wsS own index y (Cond.codeWith y cc nL (some .int) hh :: wsU)) := by
  intro w hw
  have : w ∈ wsU := by
    simp only [va_wsS, List.cons_append, List.nil_append, List.mem_cons] at hw
    rcases hw with rfl | rfl | rfl | rfl | h <;> assumption
  exact ⟨this, wsU_good w this⟩
section Wrows
variable {Γ : Gam} {g : Gl} {cc : ByteArray} {own : String} {nL k n F Lc kc ns pc : Nat} {x : Me} {lv : List (Nat × Value)} {st : List Value}
theorem z_slen (hO : Ok Γ g cc nL own F Lc kc ns) {b L : Nat} {xs : Nat → Int32} (hX : va_X b L xs (qS Γ) (qS Γ).heap) (hb : b < gS g) (d : decode cc pc = .ok (.arraylength, 1)) (kk : Zz Γ g nL k n x (pc + 1) lv (.int (zi L) :: st)) : Zz Γ g nL k n x pc lv (.ref b :: st) := fun H locs ls hP hS hv =>
  va_slen (okx hO) (okb hO) hX (Nat.lt_of_lt_of_le hb (oks hO)) (fun h => absurd hb (Nat.not_lt.mpr h)) hS d (kk H locs ls hP hS hv)
theorem z_sld (hO : Ok Γ g cc nL own F Lc kc ns) {b L : Nat} {xs : Nat → Int32} (hX : va_X b L xs (qS Γ) (qS Γ).heap) (hb : b < gS g) {j : Int} (hj : 0 ≤ j ∧ j < L) (hL : L < 2147483648) (d : decode cc pc = .ok (.iaload, 1)) (kk : Zz Γ g nL k n x (pc + 1) lv (.int (zi (xs j.toNat).toInt) :: st)) : Zz Γ g nL k n x pc lv (.int (zi j) :: .ref b :: st) := fun H locs ls hP hS hv => by
  refine va_sld (okx hO) (okb hO) hX (Nat.lt_of_lt_of_le hb (oks hO)) (fun h => absurd hb (Nat.not_lt.mpr h)) hS (zi_in hj hL) d ?_
  rw [zi_clamp (by omega), ← zi_all (xs j.toNat)]
  exact kk H locs ls hP hS hv
theorem z_lcmp_same (hO : Ok Γ g cc nL own F Lc kc ns) {a off : Int} {tgt : Nat} (d0 : decode cc pc = .ok (.lcmp, 1)) (d : decode cc (pc + 1) = .ok (.ifCond .eq off, 3)) (ht : ((pc + 1 : Nat) : Int) + off = (tgt : Int)) (kt : Zz Γ g nL k n x tgt lv st) : Zz Γ g nL k n x pc lv (.long (zl a) :: .long (zl a) :: st) := by
  rw [← zl_all (zl a)]
  exact z_lcmp_eq hO d0 d ht (zl_rng _) (zl_rng _) (fun _ => kt) (fun h => absurd rfl h)
theorem z_icmp_same (hO : Ok Γ g cc nL own F Lc kc ns) {a off : Int} {tgt : Nat} (d : decode cc pc = .ok (.if_icmp .eq off, 3)) (ht : (pc : Int) + off = (tgt : Int)) (kt : Zz Γ g nL k n x tgt lv st) : Zz Γ g nL k n x pc lv (.int (zi a) :: .int (zi a) :: st) := by
  rw [← zi_all (zi a)]
  exact z_icmp_eq hO d ht (zi_rng _) (zi_rng _) (fun _ => kt) (fun h => absurd rfl h)
theorem z_if_eqq (hO : Ok Γ g cc nL own F Lc kc ns) {a off : Int} {tgt : Nat} (d : decode cc pc = .ok (.ifCond .eq off, 3)) (ht : (pc : Int) + off = (tgt : Int)) (kt : Zz Γ g nL k n x tgt lv st) (kf : Zz Γ g nL k n x (pc + 3) lv st) : Zz Γ g nL k n x pc lv (.int (zi a) :: st) := by
  rw [← zi_all (zi a)]
  exact z_if_eq hO d ht (zi_rng _) (fun _ => kt) (fun _ => kf)
theorem z_lawC (hO : Ok Γ g cc nL own F Lc kc ns) (hN : pw_N (qS Γ)) {y : MethodName} {cy : ByteArray} {nY na index : Nat} {hh : List (Nat × Nat × Nat × Nat)} {As : List Value} {post : Int → Me → Prop} (hC : LC (qL Γ) g y cy nY hh As x post) (hk : lkSW own index y cy nY hh na) (hF : 2001 ≤ F) (hLc : 80100 ≤ Lc) (hnY : nY ≤ 10) (hcat : (st.map fun v => v.category).sum ≤ 8) (hn : As.length = na) (hc : k + 1 ≤ kc ∧ n + 6 ≤ ns) (d : decode cc pc = .ok (.invokestatic index, 3)) (kk : ∀ (z : Int) (x' : Me), post z x' → Zz Γ g nL (k + 1) (n + 6) x' (pc + 3) lv (.int (zi z) :: st)) : Zz Γ g nL k n x pc lv (As.reverse ++ st) := by
  intro H locs ls hP hS hv
  obtain ⟨F', Lc', mc, ms, P, h1, h2, ⟨h3, h4⟩, hM, hPo⟩ := hC
  have hr := vx_runSW (p := qP Γ) (l := qL Γ) (e := qE Γ) (R := qR Γ) (below := qb Γ) (meth := qm Γ) (locs := locs) (cells := k) (slots := n) (As := As) (rest := st) (g := F0 (qM Γ) pc ls (As.reverse ++ st)) ⟨okx hO, okb hO, okm hO, oko hO, okw hO⟩ hM (vx_cwSW na (okw hO) hk.1 rfl rfl rfl hk.2 ⟨by rw [okr hO]; show F' + 1 ≤ F; omega, by rw [okr hO]; show 8 + (nY + 11) + Lc' ≤ Lc; omega⟩) ⟨pw_UN_blind _ _ _, fun U hU hW => ⟨rfl, pw_end hO hP hS hU hW, hN.warm hW⟩⟩ rfl hn hv.1 rfl (lv_room hcat) d (by rw [okr hO]; show k + mc ≤ kc ∧ n + ms ≤ ns; omega)
  refine va_calli hr hS pAf (fun _ h => h) (fun r u t H1 locs1 ht hvm hw hB hz1 hk1 hS1 => ?_)
  obtain ⟨z, rfl, hz⟩ := hw
  exact W.widen (k := k + 1) (n := n + 6) (by omega) (by omega) (kk z u (hPo z u hz) H1 locs1 ls (pw_to ht hB) hS1 hv)
end Wrows
