/-! the class and the model side by side -/
def JI (x : Me) : Prop := HS x ∧ MS x ∧ x 0 5 = x 50 1 ∧ ∀ q : Nat, (q : Int) < x 0 5 → x (10 + q) 1 = x 51 q ∧ nc x q = nd x q
theorem FG_q {x y : Me} {q : Nat} (h : FG x q) (e1 : y (10 + q) 1 = x (10 + q) 1) (e2 : y (20 + q) = x (20 + q)) : FG y q := ⟨h.1, by rw [e1]; exact h.2.1, fun p a b => by rw [e2]; exact h.2.2 p a b⟩
theorem JI_of {x y : Me} (h : JI x) (h0 : y 0 5 = x 0 5) (hq : ∀ q : Nat, q < 8 → y (10 + q) 1 = x (10 + q) 1 ∧ y (20 + q) = x (20 + q)) (h1 : y 50 1 = x 50 1) (h2 : y 51 = x 51) (h3 : y 52 = x 52) : JI y := by
  obtain ⟨hS, hM, h5, hj⟩ := h
  refine ⟨⟨by rw [h0]; exact hS.1, fun q hl => ?_⟩, ⟨by rw [h1]; exact hM.1, fun q a b => MG_of (hM.2 q a (by rw [← h1]; exact b)) h2 h3⟩, by rw [h0, h1]; exact h5, fun q hl => ?_⟩
  · rw [h0] at hl
    have h8 : q < 8 := by have := hS.1.2; omega
    exact FG_q (hS.2 q hl) (hq q h8).1 (hq q h8).2
  · rw [h0] at hl
    have h8 : q < 8 := by have := hS.1.2; omega
    rw [(hq q h8).1, h2, nc_of (hq q h8).2, nd_of h3]
    exact hj q hl
theorem JI_fr {x y : Me} (h : JI x) (hf : ∀ a, a < 28 → a ≠ 18 → y a = x a) (h1 : y 50 1 = x 50 1) (h2 : y 51 = x 51) (h3 : y 52 = x 52) : JI y :=
  JI_of h (by rw [hf 0 (by omega) (by omega)]) (fun q hq => ⟨by rw [hf (10 + q) (by omega) (by omega)], hf (20 + q) (by omega) (by omega)⟩) h1 h2 h3
theorem JI_f2 {x y : Me} (h : JI x) (hf : ∀ a, a < 30 ∨ (50 ≤ a ∧ a ≤ 62) → y a = x a) : JI y := JI_fr h (fun a ha _ => hf a (Or.inl (by omega))) (by rw [hf 50 (Or.inr (by omega))]) (hf 51 (Or.inr (by omega))) (hf 52 (Or.inr (by omega)))
theorem JI_th {x : Me} {t : Int} (h : JI x) : JI (up x 50 0 t) := JI_fr h (fun a ha _ => up_i _ _ _ (by omega)) (up_n _ _ (by omega)) (up_i _ _ _ (by omega)) (up_i _ _ _ (by omega))
theorem KM_th {x y : Me} (h : y = up x 50 0 0) : KM x y := by
  subst h
  exact ⟨up_s _ _ _ _, up_n _ _ (by omega), up_i _ _ _ (by omega), up_i _ _ _ (by omega), fun a ha => up_i _ _ _ (by omega)⟩
theorem JI_KM {x y : Me} (h : JI x) (hk : KM x y) : JI y := JI_fr h (fun a ha _ => hk.2.2.2.2 a (by omega)) hk.2.1 hk.2.2.1 hk.2.2.2.1
def MCI (l : Launch) (g : Gl) (m : MethodName) (cc : ByteArray) (nL : Nat) (rt : FieldType) (av : List Value) (z : Int) (y : Me) : Prop := (0 ≤ z ∧ z ≤ 3) ∧ ∃ (F Lc : Nat) (P : Int → Me → Prop), F ≤ 2000 ∧ Lc ≤ 80000 ∧ ctQ l g m cc nL (some rt) F Lc av y (QIu g P) ∧ ∀ r w, P r w → w 50 0 = z ∧ JI w ∧ (z = 0 → w 70 0 = (zi r).toInt)
def MCB (l : Launch) (g : Gl) (m : MethodName) (cc : ByteArray) (nL : Nat) (rt : FieldType) (av : List Value) (z : Int) (y : Me) : Prop := (0 ≤ z ∧ z ≤ 3) ∧ ∃ (F Lc : Nat) (P : Int → Me → Prop), F ≤ 2000 ∧ Lc ≤ 80000 ∧ ctQ l g m cc nL (some rt) F Lc av y (QIu g P) ∧ ∀ r w, P r w → w 50 0 = z ∧ JI w ∧ (r = 0 ∨ r = 1) ∧ (z = 0 → w 70 0 = r)
def MCL (l : Launch) (g : Gl) (m : MethodName) (cc : ByteArray) (nL : Nat) (rt : FieldType) (av : List Value) (z : Int) (y : Me) : Prop := (0 ≤ z ∧ z ≤ 3) ∧ ∃ (F Lc : Nat) (P : Int → Me → Prop), F ≤ 2000 ∧ Lc ≤ 80000 ∧ ctQ l g m cc nL (some rt) F Lc av y (QLu g P) ∧ ∀ r w, P r w → w 50 0 = z ∧ JI w ∧ (z = 0 → w 70 0 = r)
def LC (l : Launch) (g : Gl) (y : MethodName) (cc : ByteArray) (nL : Nat) (hh : List (Nat × Nat × Nat × Nat)) (av : List Value) (x : Me) (post : Int → Me → Prop) : Prop := ∃ (F Lc mc ms : Nat) (P : Int → Me → Prop), F ≤ 2000 ∧ Lc ≤ 80000 ∧ (mc ≤ 1 ∧ ms ≤ 6) ∧ ctL l g y cc nL hh F Lc mc ms av x (QIu g P) ∧ ∀ z w, P z w → post z w
/-- what the model holds where the class's number q is -/
theorem JI_q {x : Me} {a : Int} (h : JI x) (ha : 0 ≤ a ∧ a < x 0 5) : x 51 a = x (10 + a.toNat) 1 ∧ nd x a = nc x a.toNat := by
  have e : ((a.toNat : Nat) : Int) = a := by omega
  have h1 := h.2.2.2 a.toNat (by omega)
  rw [e] at h1
  exact ⟨h1.1.symm, h1.2.symm⟩
