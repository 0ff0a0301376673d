def WI (n : Int) (f : Int → Int) (m : Int) : Prop := ∀ l, 0 ≤ l → l < n * n → 1 ≤ f l ∧ f l ≤ m
