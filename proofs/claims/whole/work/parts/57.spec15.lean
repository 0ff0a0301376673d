section Zi3
variable {Γ : Gam} {g : Gl} {cc : ByteArray} {own : String} {nL k n F Lc kc ns pc : Nat} {x : Me} {lv : List (Nat × Value)} {st : List Value}
theorem z_aret (hO : Ok Γ g cc nL own F Lc kc ns) {C : String} {post : Nat → Me → Prop} {i : Nat} (hr : (qm Γ).sig.returnType = some (.object C)) (hQ : qQ Γ = MQ (qb Γ) (QRu g post) (qa Γ) (qS Γ) k n (pA g)) (d : decode cc pc = .ok (.areturn, 1)) (h : post i x) : Zz Γ g nL k n x pc lv [.ref (gA g i)] := by
  intro H locs ls hP hS hv
  rw [hQ]
  exact W.aret (okx hO) (okb hO) hr (Or.inl ⟨C, rfl⟩) (Or.inr ⟨_, rfl⟩) (fun t ht hW => ⟨⟨(i, x), gA g i, rfl, h, rfl, (pw_at ht hP)⟩, hS.F ht⟩) (loc_free hS) d (okl hO)
end Zi3
def eIO : String := "java/lang/IndexOutOfBoundsException"
def eIA : String := "java/lang/IllegalArgumentException"
def eIS : String := "java/lang/IllegalStateException"
/-- what is thrown, if one of three conditions fails -/
noncomputable def exc (a b : Prop) : String := @ite _ (¬ a) (Classical.propDecidable _) eIO (@ite _ (¬ b) (Classical.propDecidable _) eIA eIS)
theorem exc_io {a b : Prop} (h : ¬ a) : eIO = exc a b := by unfold exc; rw [if_pos h]
theorem exc_ia {a b : Prop} (h : a) (h2 : ¬ b) : eIA = exc a b := by unfold exc; rw [if_neg (fun q => q h), if_pos h2]
theorem exc_is {a b : Prop} (h : a) (h2 : b) : eIS = exc a b := by unfold exc; rw [if_neg (fun q => q h), if_neg (fun q => q h2)]
def HS (x : Me) : Prop := (0 ≤ x 0 5 ∧ x 0 5 ≤ 8) ∧ ∀ q : Nat, (q : Int) < x 0 5 → FG x q
