theorem sm9 (F : Int → Int) : sm F 9 = F 0 + F 1 + F 2 + F 3 + F 4 + F 5 + F 6 + F 7 + F 8 := by
  show 0 + F 0 + F 1 + F 2 + F 3 + F 4 + F 5 + F 6 + F 7 + F 8 = _; omega
theorem sm2 (F : Int → Int) : sm F 2 = F 0 + F 1 := by
  show 0 + F 0 + F 1 = _; omega
theorem sm1 (F : Int → Int) : sm F 1 = F 0 := by
  show 0 + F 0 = _; omega
theorem mag3 {f : Int → Int} (hN : nrm 3 f) (hM : mag 3 f) : ∃ i : Int, (0 ≤ i ∧ i < 8) ∧ ∀ p, 0 ≤ p → p < 9 → f p = qq (fmp 3 i p) := by
  have hr : ∀ p, 0 ≤ p → p < 9 → 1 ≤ f p ∧ f p ≤ 9 := fun p a b => nrm_rng (n := 3) (by omega) hN (by omega)
  have hd : ∀ p r, 0 ≤ p → p < r → r < 9 → f p ≠ f r := fun p r a b c => nrm_dst (n := 3) (by omega) hN ⟨a, b⟩ (by omega)
  have ht : sm (fun p => if 1 ≤ f p ∧ f p ≤ 3 * 3 then f p else 0) 9 = sm (fun v => v + 1) 9 := nrm_sum (n := 3) (by omega) hN (fun v => v)
  have h45 : sm (fun v => v + 1) 9 = 45 := by decide
  rw [h45, sm9] at ht
  have i0 := hr 0 (by omega) (by omega)
  have i1 := hr 1 (by omega) (by omega)
  have i2 := hr 2 (by omega) (by omega)
  have i3 := hr 3 (by omega) (by omega)
  have i4 := hr 4 (by omega) (by omega)
  have i5 := hr 5 (by omega) (by omega)
  have i6 := hr 6 (by omega) (by omega)
  have i7 := hr 7 (by omega) (by omega)
  have i8 := hr 8 (by omega) (by omega)
  rw [if_pos (by omega), if_pos (by omega), if_pos (by omega), if_pos (by omega), if_pos (by omega), if_pos (by omega), if_pos (by omega), if_pos (by omega), if_pos (by omega)] at ht
  obtain ⟨m0, m1, m2, m3⟩ := hM
  have hD : lsum 3 f 0 0 = f 0 + f 1 + f 2 := sm3 _
  have s1 : f 3 + f 4 + f 5 = lsum 3 f 0 0 := (sm3 _).symm.trans (m0 1 (by omega) (by omega))
  have s2 : f 6 + f 7 + f 8 = lsum 3 f 0 0 := (sm3 _).symm.trans (m0 2 (by omega) (by omega))
  have s3 : f 0 + f 3 + f 6 = lsum 3 f 0 0 := (sm3 _).symm.trans (m1 0 (by omega) (by omega))
  have s4 : f 1 + f 4 + f 7 = lsum 3 f 0 0 := (sm3 _).symm.trans (m1 1 (by omega) (by omega))
  have s5 : f 2 + f 5 + f 8 = lsum 3 f 0 0 := (sm3 _).symm.trans (m1 2 (by omega) (by omega))
  have s6 : f 0 + f 4 + f 8 = lsum 3 f 0 0 := (sm3 _).symm.trans m2
  have s7 : f 2 + f 4 + f 6 = lsum 3 f 0 0 := (sm3 _).symm.trans m3
  exact EN3 hr hd (by omega) (by omega) (by omega) (by omega) (by omega) (by omega) (by omega) (by omega)
theorem cmpI {i j : Int} (hi : 0 ≤ i ∧ i < 8) (hj : 0 ≤ j ∧ j < 8) : ∃ m : Int, (0 ≤ m ∧ m < 8) ∧ ∀ p, 0 ≤ p → p < 9 → fmp 3 i (fmp 3 m p) = fmp 3 j p := by
  obtain ⟨a, rfl⟩ : ∃ k : Nat, i = k := ⟨i.toNat, by omega⟩
  obtain ⟨b, rfl⟩ : ∃ k : Nat, j = k := ⟨j.toNat, by omega⟩
  obtain ⟨m, hm⟩ := fmp_cmp ⟨a, by omega⟩ ⟨b, by omega⟩
  refine ⟨m.val, by omega, fun p c d => ?_⟩
  obtain ⟨q, rfl⟩ : ∃ q : Nat, p = q := ⟨p.toNat, by omega⟩
  exact hm ⟨q, by omega⟩
theorem grpI {i m : Int} (hi : 0 ≤ i ∧ i < 8) (hm : 0 ≤ m ∧ m < 8) : ∃ j : Int, (0 ≤ j ∧ j < 8) ∧ ∀ p, 0 ≤ p → p < 9 → fmp 3 i (fmp 3 m p) = fmp 3 j p := by
  obtain ⟨a, rfl⟩ : ∃ k : Nat, i = k := ⟨i.toNat, by omega⟩
  obtain ⟨b, rfl⟩ : ∃ k : Nat, m = k := ⟨m.toNat, by omega⟩
  obtain ⟨j, hj⟩ := fmp_grp ⟨a, by omega⟩ ⟨b, by omega⟩
  refine ⟨j.val, by omega, fun p c d => ?_⟩
  obtain ⟨q, rfl⟩ : ∃ q : Nat, p = q := ⟨p.toNat, by omega⟩
  exact hj ⟨q, by omega⟩
theorem fit1 {g : Int → Int} (h : g 0 = 1) : fit 1 g := by
  have h0 : ∀ p, 0 ≤ p → p < (1 : Int) * 1 → g p = 1 := fun p a b => by rw [show p = 0 by omega]; exact h
  refine fit_of (by omega) (fun p a b => by rw [h0 p a b]; omega) (fun l a b => ?_) (fun p r a b c => by omega)
  have hl : l = 0 ∨ l = 1 ∨ l = 2 ∨ l = 3 := by omega
  have e : sm (fun i => g (liS 1 l + i * liP 1 l)) 1 = g 0 := by
    rcases hl with rfl | rfl | rfl | rfl <;> exact sm1 _
  exact e.trans h
theorem PR_of {n : Int} {f : Int → Int} (hn : 1 ≤ n ∧ n ≤ 3) (hN : nrm n f) (hM : mag n f) : PR n f := by
  have h1 : n = 1 ∨ n = 2 ∨ n = 3 := by omega
  rcases h1 with rfl | rfl | rfl
  · have h0 : f 0 = 1 := by have := nrm_rng (n := 1) (p := 0) (by omega) hN (by omega); omega
    have hz : ∀ m, fmp 1 m 0 = 0 := fun m => by have := fmp_rng (n := 1) (form := m) (p := 0) (by omega) (by omega); omega
    refine ⟨fun p a b => by rw [show p = 0 by omega, h0]; omega, fun h hf hp => ⟨0, by omega, fun p a b => ?_⟩, fun m a b => fit1 ?_⟩
    · have e := hf.2.1 0 (by omega) (by omega)
      have e2 := hp 0 (by omega) (by omega)
      rw [show p = 0 by omega, hz, h0]; omega
    · rw [tk_in (by omega), hz, h0]
  · exfalso
    obtain ⟨m0, m1, -, -⟩ := hM
    have hD : lsum 2 f 0 0 = f 0 + f 1 := sm2 _
    have s1 : f 0 + f 2 = lsum 2 f 0 0 := (sm2 _).symm.trans (m1 0 (by omega) (by omega))
    have := nrm_dst (n := 2) (p := 1) (r := 2) (by omega) hN (by omega) (by omega)
    omega
  · obtain ⟨i, hi, hfi⟩ := mag3 hN hM
    have hff : ∀ m p, 0 ≤ p → p < 9 → f (fmp 3 m p) = qq (fmp 3 i (fmp 3 m p)) := fun m p a b => by
      have := fmp_rng (n := 3) (form := m) (p := p) (by omega) (by omega)
      exact hfi _ (by omega) (by omega)
    refine ⟨fun p a b => (nrm_rng (n := 3) (by omega) hN ⟨a, b⟩).1, fun h hf hp => ?_, fun m a b => ?_⟩
    · obtain ⟨j, hj, hhj⟩ := fit3 hf hp
      obtain ⟨m, hm, hmm⟩ := cmpI hi hj
      exact ⟨m, hm, fun p a b => by rw [hff m p a (by omega), hmm p a (by omega)]; exact hhj p a (by omega)⟩
    · obtain ⟨j, hj, hjj⟩ := grpI hi ⟨a, b⟩
      exact fit_c (by omega) (fun p c d => by rw [tk_in ⟨c, d⟩, hff m p c (by omega), hjj p c (by omega)]) (FQ hj)
/-! sets of places as bits -/
theorem dfA_bit (n : Int) (f : Int → Int) (m : Int) : ∀ (K j : Nat), (dfA n f m K).toNat.testBit j = true ↔ (j < K ∧ f (fmp n m j) ≠ f j)
  | 0, j => by
    show (0 : Nat).testBit j = true ↔ _
    rw [Nat.zero_testBit]
    exact ⟨fun h => Bool.noConfusion h, fun h => by omega⟩
  | K + 1, j => by
    have hr := dfA_r n f m K
    rw [p2_nat] at hr
    have ih := dfA_bit n f m K j
    have hlt : (dfA n f m K).toNat < 2 ^ K := by omega
    rw [dfA]
    by_cases hK : f (fmp n m K) ≠ f K
    · rw [if_pos hK, p2_nat]
      have e : (dfA n f m K + ((2 ^ K : Nat) : Int)).toNat = 2 ^ K + (dfA n f m K).toNat := by omega
      rw [e]
      by_cases h1 : j < K
      · rw [Nat.testBit_two_pow_add_gt h1, ih]
        exact ⟨fun q => ⟨by omega, q.2⟩, fun q => ⟨h1, q.2⟩⟩
      · by_cases h2 : j = K
        · subst h2
          rw [Nat.testBit_two_pow_add_eq, Nat.testBit_lt_two_pow hlt]
          exact ⟨fun _ => ⟨by omega, hK⟩, fun _ => rfl⟩
        · have h3 : 2 ^ K + (dfA n f m K).toNat < 2 ^ j := by
            have h4 : 2 ^ (K + 1) ≤ 2 ^ j := Nat.pow_le_pow_right (by omega) (by omega)
            rw [Nat.pow_succ] at h4
            omega
          rw [Nat.testBit_lt_two_pow h3]
          exact ⟨fun h => Bool.noConfusion h, fun h => by omega⟩
    · rw [if_neg hK, Int.add_zero, ih]
      constructor
      · rintro ⟨a, b⟩; exact ⟨by omega, b⟩
      · rintro ⟨a, b⟩
        by_cases h2 : j = K
        · subst h2; exact absurd b hK
        · exact ⟨by omega, b⟩
theorem bnd2_bit {a b : Int} : bnd2 a b ≠ 0 ↔ ∃ j : Nat, a.toNat.testBit j = true ∧ b.toNat.testBit j = true := by
  unfold bnd2
  constructor
  · intro h
    obtain ⟨j, hj⟩ := Nat.exists_testBit_of_ne_zero (show a.toNat &&& b.toNat ≠ 0 by omega)
    rw [Nat.testBit_and, Bool.and_eq_true] at hj
    exact ⟨j, hj⟩
  · rintro ⟨j, h1, h2⟩ h
    have h3 : (a.toNat &&& b.toNat).testBit j = true := by rw [Nat.testBit_and, h1, h2]; rfl
    rw [show a.toNat &&& b.toNat = 0 by omega, Nat.zero_testBit] at h3
    exact Bool.noConfusion h3
theorem dfA_0 {n : Int} {f : Int → Int} {m : Int} {K : Nat} : dfA n f m K = 0 ↔ ∀ j : Int, 0 ≤ j → j < K → f (fmp n m j) = f j := by
  constructor
  · intro h j a b
    rcases Classical.em (f (fmp n m j) = f j) with q | q
    · exact q
    · have := (dfA_bit n f m K j.toNat).mpr ⟨by omega, by rw [Int.toNat_of_nonneg a]; exact q⟩
      rw [h] at this
      have h0 : (0 : Nat).testBit j.toNat = true := this
      rw [Nat.zero_testBit] at h0
      exact Bool.noConfusion h0
  · intro h
    rcases Classical.em (dfA n f m K = 0) with q | q
    · exact q
    · have hr := dfA_r n f m K
      obtain ⟨j, hj⟩ := Nat.exists_testBit_of_ne_zero (show (dfA n f m K).toNat ≠ 0 by omega)
      have := (dfA_bit n f m K j).mp hj
      exact absurd (h j (by omega) (by omega)) this.2
def inS (s p : Int) : Prop := bnd2 (shr2 s p) 1 = 1
theorem inS_bit {s p : Int} (hp : 0 ≤ p) : inS s p ↔ s.toNat.testBit p.toNat = true := by
  unfold inS
  have h := bit_v s.toNat p.toNat
  have e : shr2 ((s.toNat : Nat) : Int) ((p.toNat : Nat) : Int) = shr2 s p := by
    unfold shr2; rw [Int.toNat_natCast, Int.toNat_natCast]
  rw [e] at h
  rw [h]
  split
  · next q => exact ⟨fun _ => q, fun _ => rfl⟩
  · next q => exact ⟨fun z => by omega, fun z => absurd z q⟩
noncomputable def sel (n : Int) (f : Int → Int) (s : Int) : Int → Int := fun p => ci ((0 ≤ p ∧ p < n * n) ∧ inS s p) (f p) 0
theorem sel_t {n : Int} {f : Int → Int} {s p : Int} (h : 0 ≤ p ∧ p < n * n) (h2 : inS s p) : sel n f s p = f p := ci_t ⟨h, h2⟩
theorem sel_f {n : Int} {f : Int → Int} {s p : Int} (h : ¬ inS s p) : sel n f s p = 0 := ci_f (fun q => h q.2)
theorem sel_o {n : Int} {f : Int → Int} {s p : Int} (h : ¬ (0 ≤ p ∧ p < n * n)) : sel n f s p = 0 := ci_f (fun q => h q.1)
noncomputable def LSs (n : Int) (f : Int → Int) (s : Int) : List (Int → Int) := SLS n (emp (sel n f s) (n * n).toNat).length (eF (emp (sel n f s) (n * n).toNat)) (sel n f s)
/-- a set leaves one completion, if it tells the square from each of its forms that is another -/
theorem TEL {n : Int} {f : Int → Int} {s : Int} (hn : 1 ≤ n ∧ n ≤ 3) (hP : PR n f) : telB (fun m => dfA n f m (n * n).toNat) s = true ↔ (LSs n f s).length = 1 := by
  have h4 := sq4 (n := n) (by omega)
  obtain ⟨p1, p2, p3⟩ := hP
  have hE := EL_0 (n := n) h4.2.1 (sel n f s)
  have hsel : tk (sel n f s) (n * n) = sel n f s := by
    funext p
    by_cases q : 0 ≤ p ∧ p < n * n
    · exact tk_in q
    · rw [tk_out q, sel_o q]
  rw [hsel] at hE
  obtain ⟨-, e1, e2, e3, e4⟩ := hE
  -- where a place is not one of the empty ones
  have hoff : ∀ p, (∀ j, 0 ≤ j → j < 0 + ((emp (sel n f s) (n * n).toNat).length : Int) → p ≠ eF (emp (sel n f s) (n * n).toNat) j) ↔ ¬ ((0 ≤ p ∧ p < n * n) ∧ sel n f s p = 0) := by
    intro p
    constructor
    · rintro h ⟨a, b⟩
      obtain ⟨j, c, d, q⟩ := e4 p a.1 a.2 b
      exact h j c (by omega) q
    · intro h j c d q
      exact h ⟨by rw [q]; exact e1 j c (by omega), by rw [q]; exact e3 j c (by omega)⟩
  have hfull : ∀ m, 0 ≤ m → m < 8 → (∀ p, 0 ≤ p → p < n * n → inS s p → f (fmp n m p) = f p) → tk (fun p => f (fmp n m p)) (n * n) ∈ sols n (eF (emp (sel n f s) (n * n).toNat)) (emp (sel n f s) (n * n).toNat).length 0 (sel n f s) := by
    intro m a b hm
    have hpos : ∀ p, 0 ≤ p → p < n * n → 1 ≤ tk (fun p => f (fmp n m p)) (n * n) p := fun p c d => by
      rw [tk_in ⟨c, d⟩]
      have := fmp_rng (n := n) (form := m) (p := p) (by omega) ⟨c, d⟩
      exact p1 _ this.1 this.2
    refine sols_all (by omega) (p3 m a b) hpos _ 0 _ (fun j c d => ⟨e1 j c (by omega), e3 j c (by omega)⟩) (fun i j c d q => e2 i j c d (by omega)) (fun p hp => ?_)
    have hp2 := (hoff p).mp hp
    by_cases q : 0 ≤ p ∧ p < n * n
    · rw [tk_in q]
      have hs0 : sel n f s p ≠ 0 := fun z => hp2 ⟨q, z⟩
      have hin : inS s p := by
        rcases Classical.em (inS s p) with z | z
        · exact z
        · exact absurd (sel_f z) hs0
      rw [sel_t q hin]; exact hm p q.1 q.2 hin
    · rw [tk_out q, sel_o q]
  have hid : ∀ p, fmp n 0 p = p := fun p => by unfold fmp fli tur; rfl
  have hf0 : tk f (n * n) = tk (fun p => f (fmp n 0 p)) (n * n) := by
    funext p; unfold tk; split
    · show f p = f (fmp n 0 p)
      rw [hid]
    · rfl
  have hmem0 := hfull 0 (by omega) (by omega) (fun p _ _ _ => by rw [hid])
  have hfitf := p3 0 (by omega) (by omega)
  rw [← hf0] at hmem0 hfitf
  have hposf : ∀ p, 0 ≤ p → p < n * n → 1 ≤ tk f (n * n) p := fun p a b => by rw [tk_in ⟨a, b⟩]; exact p1 p a b
  have hfitS : fit n (sel n f s) := fit_mono (by omega) hfitf hposf (fun p a b => by
    rcases Classical.em (inS s p) with z | z
    · right; rw [sel_t ⟨a, b⟩ z, tk_in ⟨a, b⟩]
    · exact Or.inl (sel_f z))
  have hLS : LSs n f s = sols n (eF (emp (sel n f s) (n * n).toNat)) (emp (sel n f s) (n * n).toNat).length 0 (sel n f s) := by
    unfold LSs SLS; rw [ci_t hfitS, Int.toNat_natCast]
  rw [hLS, telB_iff]
  have hND := sols_nd (n := n) (emp (sel n f s) (n * n).toNat).length 0 (sel n f s) (fun i j a b c => e2 i j a b (by omega))
  constructor
  · intro hT
    refine len1 hND hmem0 (fun h hh => ?_)
    have hhf := sols_fit _ _ _ hh hfitS
    have hhoff : ∀ p, ¬ ((0 ≤ p ∧ p < n * n) ∧ sel n f s p = 0) → h p = sel n f s p := fun p hp => sols_off _ _ _ hh p ((hoff p).mpr hp)
    have hhpos : ∀ p, 0 ≤ p → p < n * n → 1 ≤ h p := fun p a b => by
      by_cases q : sel n f s p = 0
      · obtain ⟨j, c, d, e⟩ := e4 p a b q
        rw [e]; exact sols_pos _ _ _ (fun i j a b c => e2 i j a b (by omega)) hh j c (by omega)
      · rw [hhoff p (fun z => q z.2)]
        have hin : inS s p := by
          rcases Classical.em (inS s p) with z | z
          · exact z
          · exact absurd (sel_f z) q
        rw [sel_t ⟨a, b⟩ hin]; exact p1 p a b
    obtain ⟨m, hm, hmm⟩ := p2 h hhf hhpos
    have hz : dfA n f m (n * n).toNat = 0 := by
      rcases hT m hm.1 hm.2 with q | q
      · exact q
      · exfalso
        obtain ⟨j, ja, jb⟩ := bnd2_bit.mp q
        have jc := (dfA_bit n f m (n * n).toNat j).mp ja
        have hjr : 0 ≤ (j : Int) ∧ (j : Int) < n * n := by omega
        have hin : inS s j := (inS_bit hjr.1).mpr (by rw [Int.toNat_natCast]; exact jb)
        have hs : sel n f s j = f j := sel_t hjr hin
        have h1 := p1 j hjr.1 hjr.2
        have := hhoff j (fun z => by have := z.2; omega)
        rw [hmm j hjr.1 hjr.2, hs] at this
        exact jc.2 this
    funext p
    by_cases q : 0 ≤ p ∧ p < n * n
    · rw [tk_in q, hmm p q.1 q.2]; exact dfA_0.mp hz p q.1 (by omega)
    · rw [tk_out q, hhoff p (fun z => q z.1), sel_o q]
  · intro hl m a b
    rcases Classical.em (dfA n f m (n * n).toNat = 0) with q | q
    · exact Or.inl q
    · right
      intro hb
      have hag : ∀ p, 0 ≤ p → p < n * n → inS s p → f (fmp n m p) = f p := fun p c d hin => by
        rcases Classical.em (f (fmp n m p) = f p) with z | z
        · exact z
        · have h1 := (dfA_bit n f m (n * n).toNat p.toNat).mpr ⟨by omega, by rw [Int.toNat_of_nonneg c]; exact z⟩
          exact absurd hb (bnd2_bit.mpr ⟨p.toNat, h1, (inS_bit c).mp hin⟩)
      refine len2 hmem0 (hfull m a b hag) (fun e => q (dfA_0.mpr (fun j c d => ?_))) hl
      have := congrFun e j
      rw [tk_in (by omega), tk_in (by omega)] at this
      exact this.symm
