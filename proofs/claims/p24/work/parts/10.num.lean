/-! numbers -/
def zi (z : Int) : Int32 := Int32.ofInt z
def zl (z : Int) : Int64 := Int64.ofInt z
theorem zi_add (a b : Int) : zi a + zi b = zi (a + b) := (Int32.ofInt_add a b).symm
theorem zi_sub (a b : Int) : zi a - zi b = zi (a - b) := (Int32.ofInt_sub a b).symm
theorem zi_mul (a b : Int) : zi a * zi b = zi (a * b) := (Int32.ofInt_mul a b).symm
theorem zi_neg (a : Int) : - zi a = zi (-a) := (Int32.ofInt_neg a).symm
theorem zl_add (a b : Int) : zl a + zl b = zl (a + b) := (Int64.ofInt_add a b).symm
theorem zl_sub (a b : Int) : zl a - zl b = zl (a - b) := (Int64.ofInt_sub a b).symm
theorem zl_mul (a b : Int) : zl a * zl b = zl (a * b) := (Int64.ofInt_mul a b).symm
theorem zi_toInt {a : Int} (h : -2147483648 ≤ a ∧ a < 2147483648) : (zi a).toInt = a := Int32.toInt_ofInt_of_le (by omega) (by omega)
theorem zl_toInt {a : Int} (h : -9223372036854775808 ≤ a ∧ a < 9223372036854775808) : (zl a).toInt = a := Int64.toInt_ofInt_of_le (by omega) (by omega)
theorem zi_lt {a b : Int} (ha : -2147483648 ≤ a ∧ a < 2147483648) (hb : -2147483648 ≤ b ∧ b < 2147483648) : zi a < zi b ↔ a < b := by
  rw [Int32.lt_iff_toInt_lt, zi_toInt ha, zi_toInt hb]
theorem zi_le {a b : Int} (ha : -2147483648 ≤ a ∧ a < 2147483648) (hb : -2147483648 ≤ b ∧ b < 2147483648) : zi a ≤ zi b ↔ a ≤ b := by
  rw [Int32.le_iff_toInt_le, zi_toInt ha, zi_toInt hb]
theorem zi_eq {a b : Int} (ha : -2147483648 ≤ a ∧ a < 2147483648) (hb : -2147483648 ≤ b ∧ b < 2147483648) : zi a = zi b ↔ a = b := by
  rw [← Int32.toInt_inj, zi_toInt ha, zi_toInt hb]
theorem zl_lt {a b : Int} (ha : -9223372036854775808 ≤ a ∧ a < 9223372036854775808) (hb : -9223372036854775808 ≤ b ∧ b < 9223372036854775808) : zl a < zl b ↔ a < b := by
  rw [Int64.lt_iff_toInt_lt, zl_toInt ha, zl_toInt hb]
theorem zl_eq {a b : Int} (ha : -9223372036854775808 ≤ a ∧ a < 9223372036854775808) (hb : -9223372036854775808 ≤ b ∧ b < 9223372036854775808) : zl a = zl b ↔ a = b := by
  rw [← Int64.toInt_inj, zl_toInt ha, zl_toInt hb]
theorem zi_all (v : Int32) : zi v.toInt = v := Int32.ofInt_toInt v
theorem zl_all (v : Int64) : zl v.toInt = v := Int64.ofInt_toInt v
theorem zi_div {a b : Int} (ha : 0 ≤ a ∧ a < 2147483648) (hb : 0 < b ∧ b < 2147483648) : zi a / zi b = zi (a / b) := by
  rw [← zi_all (zi a / zi b), Int32.toInt_div_of_ne_left]
  · rw [zi_toInt (by omega), zi_toInt (by omega), Int.tdiv_eq_ediv_of_nonneg ha.1]
  · intro h
    have h2 := congrArg Int32.toInt h
    rw [zi_toInt (by omega)] at h2
    have h3 : (Int32.minValue).toInt = -2147483648 := by decide
    omega
theorem zi_mod {a b : Int} (ha : 0 ≤ a ∧ a < 2147483648) (hb : 0 < b ∧ b < 2147483648) : zi a - zi a / zi b * zi b = zi (a % b) := by
  rw [zi_div ha hb, zi_mul, zi_sub, Int.emod_def, Int.mul_comm]
theorem zl_div {a b : Int} (ha : 0 ≤ a ∧ a < 9223372036854775808) (hb : 0 < b ∧ b < 9223372036854775808) : zl a / zl b = zl (a / b) := by
  rw [← zl_all (zl a / zl b), Int64.toInt_div_of_ne_left]
  · rw [zl_toInt (by omega), zl_toInt (by omega), Int.tdiv_eq_ediv_of_nonneg ha.1]
  · intro h
    have h2 := congrArg Int64.toInt h
    rw [zl_toInt (by omega)] at h2
    have h3 : (Int64.minValue).toInt = -9223372036854775808 := by decide
    omega
theorem zl_mod {a b : Int} (ha : 0 ≤ a ∧ a < 9223372036854775808) (hb : 0 < b ∧ b < 9223372036854775808) : zl a - zl a / zl b * zl b = zl (a % b) := by
  rw [zl_div ha hb, zl_mul, zl_sub, Int.emod_def, Int.mul_comm]
theorem zi_clamp {a : Int} (h : 0 ≤ a ∧ a < 2147483648) : (zi a).toNatClampNeg = a.toNat := by
  show (zi a).toInt.toNat = a.toNat
  rw [zi_toInt (by omega)]
theorem zi_in {a : Int} {n : Nat} (h : 0 ≤ a ∧ a < n) (hn : n < 2147483648) : vp_in (zi a) n := by
  rw [vp_in_iff, zi_toInt (by omega)]
  exact h
theorem zi_l {a : Int} (h : -2147483648 ≤ a ∧ a < 2147483648) : (zi a).toInt64 = zl a := by
  rw [← zl_all (zi a).toInt64, Int32.toInt_toInt64, zi_toInt h]
theorem zl_i {a : Int} (h : -2147483648 ≤ a ∧ a < 2147483648) : (zl a).toInt32 = zi a := by
  rw [← zi_all (zl a).toInt32, Int64.toInt_toInt32, zl_toInt (by omega), Int.bmod_eq_of_le (by omega) (by omega)]
