def onb (n l p : Int) : Bool := decide ((l < n ∧ p / n = l) ∨ (n ≤ l ∧ l < 2 * n ∧ p % n = l - n) ∨ (l = 2 * n ∧ p / n = p % n) ∨ (l = 2 * n + 1 ∧ p / n + p % n = n - 1))
theorem onb_iff {n l p : Int} : onb n l p = true ↔ ono n l p := by unfold onb ono; exact decide_eq_true_iff
theorem lck0_b (n l : Int) : lck n (fun _ => 0) l = sm (fun p => if onb n l p = true then 1 else 0) (n * n).toNat := by
  unfold lck
  apply sm_congr
  intro k _ _
  by_cases h : ono n l k
  · rw [bi_t ⟨h, rfl⟩, if_pos (onb_iff.mpr h)]
  · rw [bi_f (fun q => h q.1), if_neg (fun q => h (onb_iff.mp q))]
theorem lck0 {n l : Int} (hn : 1 ≤ n ∧ n ≤ 4) (hl : 0 ≤ l ∧ l < 2 * n + 2) : lck n (fun _ => 0) l = n := by
  rw [lck0_b]
  have h1 : n = 1 ∨ n = 2 ∨ n = 3 ∨ n = 4 := by omega
  rcases h1 with rfl | rfl | rfl | rfl
  · have h2 : l = 0 ∨ l = 1 ∨ l = 2 ∨ l = 3 := by omega
    rcases h2 with rfl | rfl | rfl | rfl <;> decide
  · have h2 : l = 0 ∨ l = 1 ∨ l = 2 ∨ l = 3 ∨ l = 4 ∨ l = 5 := by omega
    rcases h2 with rfl | rfl | rfl | rfl | rfl | rfl <;> decide
  · have h2 : l = 0 ∨ l = 1 ∨ l = 2 ∨ l = 3 ∨ l = 4 ∨ l = 5 ∨ l = 6 ∨ l = 7 := by omega
    rcases h2 with rfl | rfl | rfl | rfl | rfl | rfl | rfl | rfl <;> decide
  · have h2 : l = 0 ∨ l = 1 ∨ l = 2 ∨ l = 3 ∨ l = 4 ∨ l = 5 ∨ l = 6 ∨ l = 7 ∨ l = 8 ∨ l = 9 := by omega
    rcases h2 with rfl | rfl | rfl | rfl | rfl | rfl | rfl | rfl | rfl | rfl <;> decide
theorem sm_0f (N : Nat) {f : Int → Int} (h : ∀ k, f k = 0) : sm f N = 0 := by
  induction N with
  | zero => rfl
  | succ N ih => rw [sm, ih, h]; rfl
theorem lsm0 (n l : Int) : lsm n (fun _ => 0) l = 0 := sm_0f _ (fun k => by
  by_cases h : ono n l k
  · exact ci_t h
  · exact ci_f h)
theorem usd0 (n v : Int) : ¬ usd n (fun _ => 0) v := by rintro ⟨h1, p, -, -, h2⟩; dsimp only at h2; omega
theorem usc0 (n : Int) : usc n (fun _ => 0) = 0 := sm_0f _ (fun k => bi_f (usd0 n _))
def tk (f : Int → Int) (i : Int) : Int → Int := fun p => if 0 ≤ p ∧ p < i then f p else 0
theorem tk_in {f : Int → Int} {i p : Int} (h : 0 ≤ p ∧ p < i) : tk f i p = f p := if_pos h
theorem tk_out {f : Int → Int} {i p : Int} (h : ¬ (0 ≤ p ∧ p < i)) : tk f i p = 0 := if_neg h
theorem tk_0 (f : Int → Int) : tk f 0 = fun _ => 0 := by funext p; exact tk_out (by omega)
theorem tk_s {f : Int → Int} {i : Int} (h : 0 ≤ i) : tk f (i + 1) = uf (tk f i) i (f i) := by
  funext p
  by_cases e : p = i
  · subst e; rw [uf_s, tk_in (by omega)]
  · rw [uf_n _ _ e]
    by_cases h2 : 0 ≤ p ∧ p < i
    · rw [tk_in h2, tk_in (by omega)]
    · rw [tk_out h2, tk_out (by omega)]
theorem tk_s0 {f : Int → Int} {i : Int} (h : 0 ≤ i) (h0 : f i = 0) : tk f (i + 1) = tk f i := by
  rw [tk_s h, h0]
  funext p
  by_cases e : p = i
  · subst e; rw [uf_s, tk_out (by omega)]
  · rw [uf_n _ _ e]
/-- the empty places, by their order -/
def emp (g : Int → Int) : Nat → List Int
  | 0 => []
  | p + 1 => emp g p ++ (if g p = 0 then [(p : Int)] else [])
theorem emp_s0 {g : Int → Int} {i : Int} (h : 0 ≤ i) (h0 : g i = 0) : emp g (i + 1).toNat = emp g i.toNat ++ [i] := by
  have e : (i + 1).toNat = i.toNat + 1 := by omega
  have e2 : ((i.toNat : Nat) : Int) = i := by omega
  rw [e, emp, e2, if_pos h0]
theorem emp_s1 {g : Int → Int} {i : Int} (h : 0 ≤ i) (h0 : g i ≠ 0) : emp g (i + 1).toNat = emp g i.toNat := by
  have e : (i + 1).toNat = i.toNat + 1 := by omega
  have e2 : ((i.toNat : Nat) : Int) = i := by omega
  rw [e, emp, e2, if_neg h0, List.append_nil]
theorem emp_len (g : Int → Int) (N : Nat) : (emp g N).length ≤ N := by
  induction N with
  | zero => simp [emp]
  | succ N ih => rw [emp, List.length_append]; split <;> simp <;> omega
theorem emp_in {g : Int → Int} {N : Nat} {v : Int} (h : v ∈ emp g N) : 0 ≤ v ∧ v < N ∧ g v = 0 := by
  induction N with
  | zero => simp [emp] at h
  | succ N ih =>
    rw [emp] at h
    rcases List.mem_append.mp h with h | h
    · have := ih h; omega
    · split at h
      · next h0 => simp at h; subst h; omega
      · simp at h
theorem emp_all {g : Int → Int} {N : Nat} {p : Int} (h : 0 ≤ p ∧ p < N) (h0 : g p = 0) : p ∈ emp g N := by
  induction N with
  | zero => omega
  | succ N ih =>
    rw [emp]
    by_cases e : p = N
    · subst e; rw [if_pos h0]; simp
    · exact List.mem_append_left _ (ih (by omega))
theorem emp_nd (g : Int → Int) (N : Nat) : (emp g N).Pairwise (fun a b => a < b) := by
  induction N with
  | zero => simp [emp]
  | succ N ih =>
    rw [emp, List.pairwise_append]
    refine ⟨ih, by split <;> simp, fun a ha b hb => ?_⟩
    have := emp_in ha
    split at hb
    · simp at hb; subst hb; omega
    · simp at hb
theorem emp_congr {f g : Int → Int} {N : Nat} (h : ∀ p : Int, 0 ≤ p → p < N → f p = g p) : emp f N = emp g N := by
  induction N with
  | zero => rfl
  | succ N ih => rw [emp, emp, ih (fun p a b => h p a (by omega)), h N (by omega) (by omega)]
theorem gtD {l : List Int} {k : Nat} (h : k < l.length) : l.getD k 0 = l[k] := by
  rw [List.getD_eq_getElem?_getD, List.getElem?_eq_getElem h]; rfl
def eF (l : List Int) : Int → Int := fun j => l.getD j.toNat 0
theorem eF_at {l : List Int} {j : Int} (h : 0 ≤ j ∧ j < l.length) : eF l j ∈ l ∧ l[j.toNat]? = some (eF l j) := by
  have h1 : j.toNat < l.length := by omega
  unfold eF
  rw [gtD h1]
  exact ⟨List.getElem_mem h1, List.getElem?_eq_getElem h1⟩
theorem eF_lt {l : List Int} (hl : l.Pairwise (fun a b => a < b)) {i j : Int} (h : 0 ≤ i ∧ i < j ∧ j < l.length) : eF l i < eF l j := by
  have h1 : i.toNat < l.length := by omega
  have h2 : j.toNat < l.length := by omega
  unfold eF
  rw [gtD h1, gtD h2]
  exact (List.pairwise_iff_getElem.mp hl) _ _ h1 h2 (by omega)
theorem eF_of {l : List Int} {p : Int} (h : p ∈ l) : ∃ j : Int, 0 ≤ j ∧ j < l.length ∧ p = eF l j := by
  obtain ⟨k, hk, e⟩ := List.getElem_of_mem h
  refine ⟨k, by omega, by omega, ?_⟩
  unfold eF
  rw [show ((k : Int)).toNat = k by omega, gtD hk, e]
theorem eF_app {l : List Int} {v : Int} : (∀ j : Int, 0 ≤ j → j < l.length → eF (l ++ [v]) j = eF l j) ∧ eF (l ++ [v]) l.length = v := by
  refine ⟨fun j a b => ?_, ?_⟩
  · unfold eF
    rw [gtD (by simp; omega), gtD (by omega), List.getElem_append_left (by omega)]
  · unfold eF
    rw [show ((l.length : Int)).toNat = l.length by omega]
    simp
noncomputable def cpl (n : Int) (f : Int → Int) : List (Int → Int) := ci (fit n (tk f (n * n))) (sols n (eF (emp (tk f (n * n)) (n * n).toNat)) (emp (tk f (n * n)) (n * n).toNat).length 0 (tk f (n * n))) []
