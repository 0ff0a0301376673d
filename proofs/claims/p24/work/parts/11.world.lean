abbrev Me : Type := Nat → Int → Int
abbrev Gl : Type := va_G × (Nat → Nat) × (Nat → ClassId) × Nat × Nat
abbrev gD (g : Gl) : va_G := g.1
abbrev gA (g : Gl) : Nat → Nat := g.2.1
abbrev gC (g : Gl) : Nat → ClassId := g.2.2.1
abbrev gS (g : Gl) : Nat := g.2.2.2.1
/-- how many rows of a helper of the law there are beside the others -/
abbrev gX (g : Gl) : Nat := g.2.2.2.2
def pA (g : Gl) : Nat → Prop := fun q => gS g ≤ q
abbrev tys5 (g : Gl) : List (ClassId × FieldType) := [(gC g 0, .int), (gC g 0, .int), (gC g 2, .boolean), (gC g 3, .object "LoshuHall$Figure"), (gC g 4, .array .int)]
def ai (g : Gl) (f : Int → Int) (n : Nat) : va_E := .inl (gC g 0, (n, .inl (fun k => zi (f k))))
def az (g : Gl) (f : Int → Int) (n : Nat) : va_E := .inl (gC g 2, (n, .inl (fun k => zi (f k))))
def aq (g : Gl) (t : Nat) (f : Nat → Nat) (n : Nat) : va_E := .inl (gC g t, (n, .inr (.inr (.inr (.inr (fun k => some (gA g (f k))))))))
/-- what the cell of a number holds, of the row of the memory that is its own -/
def we (g : Gl) (i : Nat) (f : Int → Int) : va_E :=
  if i < 10 then (if i = 0 then .inr (4, [.ref (gA g 1), .ref (gA g 18), .ref (gA g 30), .ref (gA g 40), .ref (gA g 42), .int (zi (f 5))]) else if i = 2 then ai g f 16 else if i = 3 then ai g f 16 else aq g 3 (fun k => 10 + k) 8)
  else if i < 20 then .inr (0, [.ref (gA g (i + 10)), .int (zi (f 1))])
  else if i < 30 then ai g f 81
  else if i = 30 then .inr (2, [.ref (gA g 31), .ref (gA g 32), .ref (gA g 33), .ref (gA g 34), .ref (gA g 35), .ref (gA g 36), .int (zi (f 6)), .int (zi (f 7)), .int (zi (f 8)), .int (zi (f 9)), .int (zi (f 10)), .int (zi (f 11)), .int (zi (f 12)), .int (zi (f 13))])
  else if i = 31 then ai g f 16
  else if i = 32 then az g f 17
  else if i = 33 then ai g f 10
  else if i = 34 then ai g f 10
  else if i = 35 then ai g f 64
  else if i = 36 then ai g f 16
  else if i = 40 then .inr (1, [.ref (gA g 41)])
  else if i = 41 then ai g f 8
  else if i = 42 then .inr (3, [.ref (gA g 43), .ref (gA g 44), .ref (gA g 45), .int (zi (f 3)), .int (zi (f 4))])
  else if i = 43 then aq g 4 (fun k => 100 + k) 38
  else if i = 44 then ai g f 38
  else if i = 45 then ai g f 38
  else if i = 71 then ai g f 16
  else ai g f 38
def dlM : List Nat := [0, 1, 10, 11, 12, 13, 14, 15, 16, 17, 18, 20, 21, 22, 23, 24, 25, 26, 27, 28, 30, 31, 32, 33, 34, 35, 36, 40, 41, 42, 43, 44, 45, 71, 100, 101, 102, 103, 104, 105, 106, 107, 108, 109, 110, 111, 112, 113, 114, 115, 116, 117, 118, 119, 120, 121, 122, 123, 124, 125, 126, 127, 128, 129, 130, 131, 132, 133, 134, 135, 136, 137, 2, 3]
def dl (g : Gl) : List Nat := dlM.take (72 + gX g)
theorem dl_up {g : Gl} {a i : Nat} (h : (dl g)[a]? = some i) : dlM[a]? = some i := by
  unfold dl at h
  rw [List.getElem?_take] at h
  split at h
  · exact h
  · cases h
theorem dl_b {g : Gl} {i : Nat} (h : i ∈ dlM.take 72) : i ∈ dl g := by
  obtain ⟨k, hk⟩ := List.getElem?_of_mem h
  rw [List.getElem?_take] at hk
  split at hk
  · next hlt =>
    refine List.mem_of_getElem? (i := k) ?_
    unfold dl
    rw [List.getElem?_take, if_pos (by omega)]
    exact hk
  · cases hk
theorem dl_e {g : Gl} {k i : Nat} (h : dlM[k]? = some i) (hk : k < 72 + gX g) : i ∈ dl g := by
  refine List.mem_of_getElem? (i := k) ?_
  unfold dl
  rw [List.getElem?_take, if_pos hk]
  exact h
theorem dl_inj0 : ∀ a, a < 74 → ∀ b, b < 74 → dlM[a]? = dlM[b]? → a = b := by decide +kernel
theorem dl_inj {g : Gl} {a b i : Nat} (ha : (dl g)[a]? = some i) (hb : (dl g)[b]? = some i) : a = b := by
  have ha := dl_up ha
  have hb := dl_up hb
  have h1 : a < dlM.length := (List.getElem?_eq_some_iff.mp ha).1
  have h2 : b < dlM.length := (List.getElem?_eq_some_iff.mp hb).1
  exact dl_inj0 a h1 b h2 (ha.trans hb.symm)
abbrev wl (g : Gl) (x : Me) : va_W := (dl g).map (fun i => (gA g i, we g i (x i)))
def pw_P (g : Gl) (x : Me) (H : Heap) : Prop := va_P (gD g) vwCl (wl g x) H
def pw_G (g : Gl) : Prop := (∀ i, i ∈ (dl g) → ∀ j, j ∈ (dl g) → gA g i = gA g j → i = j) ∧ ∀ i, i ∈ (dl g) → gS g ≤ gA g i
def up (x : Me) (i : Nat) (j v : Int) : Me := fun a b => if a = i ∧ b = j then v else x a b
theorem up_s (x : Me) (i : Nat) (j v : Int) : up x i j v i j = v := by simp [up]
theorem up_n (x : Me) {i a : Nat} {j b : Int} (v : Int) (h : ¬ (a = i ∧ b = j)) : up x i j v a b = x a b := by simp [up, h]
theorem up_i (x : Me) {i a : Nat} (j v : Int) (h : a ≠ i) : up x i j v a = x a := by funext b; simp [up, h]
theorem wl_at {g : Gl} {x : Me} {i : Nat} (h : i ∈ (dl g)) : ∃ k : Nat, (wl g x)[k]? = some (gA g i, we g i (x i)) ∧ (dl g)[k]? = some i := by
  obtain ⟨k, hk⟩ := List.getElem?_of_mem h
  exact ⟨k, by simp [wl, List.getElem?_map, hk], hk⟩
theorem wl_D {g : Gl} (h : pw_G g) (x : Me) : va_D (pA g) (wl g x) := by
  refine ⟨fun i j p q hp hq he => ?_, fun k q hq => ?_⟩
  · simp only [wl, List.getElem?_map, Option.map_eq_some_iff] at hp hq
    obtain ⟨a, ha, rfl⟩ := hp
    obtain ⟨b, hb, rfl⟩ := hq
    have hab := h.1 a (List.mem_of_getElem? ha) b (List.mem_of_getElem? hb) he
    subst hab
    exact dl_inj ha hb
  · simp only [wl, List.getElem?_map, Option.map_eq_some_iff] at hq
    obtain ⟨a, ha, rfl⟩ := hq
    exact h.2 a (List.mem_of_getElem? ha)
theorem wl_set {g : Gl} {x x' : Me} {i k : Nat} (hk : (dl g)[k]? = some i) (ho : ∀ a, a ≠ i → x' a = x a) {e : va_E} (he : e = we g i (x' i)) : (wl g x).set k (gA g i, e) = wl g x' := by
  subst he
  apply List.ext_getElem?
  intro n
  rw [List.getElem?_set]
  by_cases hn : k = n
  · subst hn
    obtain ⟨hlt, hv⟩ := List.getElem?_eq_some_iff.mp hk
    simp [wl, hv, hlt]
  · simp only [wl, List.getElem?_map, hn, if_false]
    cases hb : (dl g)[n]? with
    | none => rfl
    | some a =>
      have hai : a ≠ i := by
        intro e
        subst e
        exact hn (dl_inj hk hb)
      simp [ho a hai]
