section Zi3
variable {Γ : Gam} {g : Gl} {cc : ByteArray} {own : String} {nL k n F Lc kc ns pc : Nat} {x : Me} {lv : List (Nat × Value)} {st : List Value}
theorem z_aret (hO : Ok Γ g cc nL own F Lc kc ns) {C : String} {post : Nat → Me → Prop} {i : Nat} (hr : (qm Γ).sig.returnType = some (.object C)) (hQ : qQ Γ = MQ (qb Γ) (QRu g post) (qa Γ) (qS Γ) k n (pA g)) (d : decode cc pc = .ok (.areturn, 1)) (h : post i x) : Zz Γ g nL k n x pc lv [.ref (gA g i)] := by
  intro H locs ls hP hS hv
  rw [hQ]
  exact W.aret (okx hO) (okb hO) hr (Or.inl ⟨C, rfl⟩) (Or.inr ⟨_, rfl⟩) (fun t ht hW => ⟨⟨(i, x), gA g i, rfl, h, rfl, (pw_at ht hP)⟩, hS.F ht⟩) (loc_free hS) d (okl hO)
theorem z_callVR (hO : Ok Γ g cc nL own F Lc kc ns) {index nY na F' Lc' : Nat} {y : MethodName} {cy : ByteArray} {rt : FieldType} {C : String} {i : Nat} {post : Nat → Me → Prop} {As : List Value} (hM : ctQ (qL Γ) g y cy nY (some rt) F' Lc' (.ref (gA g i) :: As) x (QRu g post)) (hk : lkV own C index y cy nY (some rt) na) (hi : isO g i C) (hn : As.length = na) (hcat : (st.map fun v => v.category).sum ≤ 8) (hF : F' + 1 ≤ F) (hLl : 8 + (nY + 11) + Lc' ≤ Lc) (hc : k ≤ kc ∧ n ≤ ns) (d : decode cc pc = .ok (.invokevirtual index, 3))
    (kk : ∀ (z : Nat) (x' : Me), post z x' → Zz Γ g nL k n x' (pc + 3) lv (.ref (gA g z) :: st)) : Zz Γ g nL k n x pc lv (As.reverse ++ .ref (gA g i) :: st) := by
  intro H locs ls hP hS hv
  have hr := va_runV (p := qP Γ) (l := qL Γ) (e := qE Γ) (R := qR Γ) (below := qb Γ) (meth := qm Γ) (locs := locs) (cells := k) (slots := n) (As := As) (rest := st) (g := F0 (qM Γ) pc ls (As.reverse ++ .ref (gA g i) :: st)) ⟨okx hO, okb hO, okm hO, oko hO, okw hO⟩ hM (cwV na (okw hO) hk.1 rfl rfl rfl hk.2 ⟨by rw [okr hO]; exact hF, by rw [okr hO]; exact hLl⟩) (pre_V hO hi hP hS) rfl hn hv.1 rfl (lv_room hcat) d (by rw [okr hO]; exact hc)
  refine va_callr hr hS pAf (fun _ h => h) (fun u a t H1 locs1 ht hvm hw hB hz1 hk1 hS1 => by obtain ⟨rfl, hB⟩ := hB; exact kk u.1 u.2 hw H1 locs1 ls (pw_to ht hB) hS1 hv)
theorem z_callVRq (hO : Ok Γ g cc nL own F Lc kc ns) {index nY na F' Lc' : Nat} {y : MethodName} {cy : ByteArray} {rt : FieldType} {C : String} {i : Nat} {pz : Nat → Prop} {As : List Value} (hM : ctQ (qL Γ) g y cy nY (some rt) F' Lc' (.ref (gA g i) :: As) x (QRu g (fun z x1 => pz z ∧ x1 = x))) (hk : lkV own C index y cy nY (some rt) na) (hi : isO g i C) (hn : As.length = na) (hcat : (st.map fun v => v.category).sum ≤ 8) (hF : F' + 1 ≤ F) (hLl : 8 + (nY + 11) + Lc' ≤ Lc) (hc : k ≤ kc ∧ n ≤ ns) (d : decode cc pc = .ok (.invokevirtual index, 3)) (kk : ∀ z : Nat, pz z → Zz Γ g nL k n x (pc + 3) lv (.ref (gA g z) :: st)) : Zz Γ g nL k n x pc lv (As.reverse ++ .ref (gA g i) :: st) := z_callVR hO hM hk hi hn hcat hF hLl hc d (fun z x1 h => h.2 ▸ kk z h.1)
end Zi3
def adF (x : Me) (s : Int) : Me := up (clr (up x (10 + (x 0 5).toNat) 1 s) (20 + (x 0 5).toNat) 81) 0 5 (x 0 5 + 1)
def eIO : String := "java/lang/IndexOutOfBoundsException"
def eIA : String := "java/lang/IllegalArgumentException"
def eIS : String := "java/lang/IllegalStateException"
/-- what is thrown, if one of three conditions fails -/
noncomputable def exc (a b : Prop) : String := @ite _ (¬ a) (Classical.propDecidable _) eIO (@ite _ (¬ b) (Classical.propDecidable _) eIA eIS)
theorem exc_io {a b : Prop} (h : ¬ a) : eIO = exc a b := by unfold exc; rw [if_pos h]
theorem exc_ia {a b : Prop} (h : a) (h2 : ¬ b) : eIA = exc a b := by unfold exc; rw [if_neg (fun q => q h), if_pos h2]
theorem exc_is {a b : Prop} (h : a) (h2 : b) : eIS = exc a b := by unfold exc; rw [if_neg (fun q => q h), if_neg (fun q => q h2)]
def HS (x : Me) : Prop := (0 ≤ x 0 5 ∧ x 0 5 ≤ 8) ∧ ∀ q : Nat, (q : Int) < x 0 5 → FG x q
