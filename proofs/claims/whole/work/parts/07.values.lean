/-! numbers: every int of the machine is I a, every long J a, a an Int -/
def I (a : Int) : Int32 := Int32.ofInt a
def J (a : Int) : Int64 := Int64.ofInt a
theorem I_add (a b : Int) : I a + I b = I (a + b) := (Int32.ofInt_add a b).symm
theorem I_sub (a b : Int) : I a - I b = I (a - b) := (Int32.ofInt_sub a b).symm
theorem I_mul (a b : Int) : I a * I b = I (a * b) := (Int32.ofInt_mul a b).symm
theorem I_neg (a : Int) : - I a = I (-a) := (Int32.ofInt_neg a).symm
theorem J_add (a b : Int) : J a + J b = J (a + b) := (Int64.ofInt_add a b).symm
theorem J_sub (a b : Int) : J a - J b = J (a - b) := (Int64.ofInt_sub a b).symm
theorem J_mul (a b : Int) : J a * J b = J (a * b) := (Int64.ofInt_mul a b).symm
theorem J_neg (a : Int) : - J a = J (-a) := (Int64.ofInt_neg a).symm
theorem I_of (x : Int32) : x = I x.toInt := (Int32.ofInt_toInt x).symm
theorem J_of (x : Int64) : x = J x.toInt := (Int64.ofInt_toInt x).symm
theorem I_int {a : Int} (h : -2147483648 ≤ a ∧ a < 2147483648) : (I a).toInt = a := Int32.toInt_ofInt_of_le (by omega) (by omega)
theorem J_int {a : Int} (h : -9223372036854775808 ≤ a ∧ a < 9223372036854775808) : (J a).toInt = a := Int64.toInt_ofInt_of_le (by omega) (by omega)
theorem I_rg (x : Int32) : -2147483648 ≤ x.toInt ∧ x.toInt < 2147483648 := ⟨by have := Int32.le_toInt x; omega, by have := Int32.toInt_lt x; omega⟩
theorem I_lt {a b : Int} (ha : -2147483648 ≤ a ∧ a < 2147483648) (hb : -2147483648 ≤ b ∧ b < 2147483648) : I a < I b ↔ a < b := by rw [Int32.lt_iff_toInt_lt, I_int ha, I_int hb]
theorem I_le {a b : Int} (ha : -2147483648 ≤ a ∧ a < 2147483648) (hb : -2147483648 ≤ b ∧ b < 2147483648) : I a ≤ I b ↔ a ≤ b := by rw [Int32.le_iff_toInt_le, I_int ha, I_int hb]
theorem I_eq {a b : Int} (ha : -2147483648 ≤ a ∧ a < 2147483648) (hb : -2147483648 ≤ b ∧ b < 2147483648) : I a = I b ↔ a = b := by rw [← Int32.toInt_inj, I_int ha, I_int hb]
theorem J_lt {a b : Int} (ha : -9223372036854775808 ≤ a ∧ a < 9223372036854775808) (hb : -9223372036854775808 ≤ b ∧ b < 9223372036854775808) : J a < J b ↔ a < b := by rw [Int64.lt_iff_toInt_lt, J_int ha, J_int hb]
theorem J_le {a b : Int} (ha : -9223372036854775808 ≤ a ∧ a < 9223372036854775808) (hb : -9223372036854775808 ≤ b ∧ b < 9223372036854775808) : J a ≤ J b ↔ a ≤ b := by rw [Int64.le_iff_toInt_le, J_int ha, J_int hb]
theorem J_eq {a b : Int} (ha : -9223372036854775808 ≤ a ∧ a < 9223372036854775808) (hb : -9223372036854775808 ≤ b ∧ b < 9223372036854775808) : J a = J b ↔ a = b := by rw [← Int64.toInt_inj, J_int ha, J_int hb]
theorem I_0 : (0 : Int32) = I 0 := by decide +kernel
theorem J_0 : (0 : Int64) = J 0 := by decide +kernel
theorem I_J {a : Int} (h : -2147483648 ≤ a ∧ a < 2147483648) : (I a).toInt64 = J a := by
  apply Int64.toInt_inj.mp
  rw [Int32.toInt_toInt64, I_int h, J_int (by omega)]
theorem J_I (a : Int) : (J a).toInt32 = I a := Int64.toInt32_ofInt
theorem I_nat {a : Int} (h : 0 ≤ a ∧ a < 2147483648) : (I a).toNatClampNeg = a.toNat := by
  show (I a).toInt.toNat = a.toNat
  rw [I_int (by omega)]
theorem I_in {a : Int} {n : Nat} (h0 : 0 ≤ a) (h : a < n) (hn : n < 2147483648) : vp_in (I a) n := by
  rw [vp_in_iff, I_int (by omega)]
  omega
theorem I_8 {n : Int} (h : -128 ≤ n ∧ n < 128) : (Int8.ofInt n).toInt32 = I n := by
  apply Int32.toInt_inj.mp
  rw [Int8.toInt_toInt32, Int8.toInt_ofInt_of_le (by omega) (by omega), I_int (by omega)]
theorem I_16 {n : Int} (h : -32768 ≤ n ∧ n < 32768) : (Int16.ofInt n).toInt32 = I n := by
  apply Int32.toInt_inj.mp
  rw [Int16.toInt_toInt32, Int16.toInt_ofInt_of_le (by omega) (by omega), I_int (by omega)]
theorem td_abs {a b : Int} (hb : 0 < b) : -(a.tdiv b) ≤ a.natAbs ∧ a.tdiv b ≤ a.natAbs := by
  have h := Int.natAbs_tdiv_le_natAbs a b
  omega
theorem J_div {a b : Int} (ha : -9223372036854775808 < a ∧ a < 9223372036854775808) (hb : 0 < b ∧ b < 9223372036854775808) : J a / J b = J (a.tdiv b) := by
  apply Int64.toInt_inj.mp
  have h := td_abs (a := a) hb.1
  rw [Int64.toInt_div_of_ne_left, J_int (by omega), J_int (by omega), J_int (by omega)]
  intro h2
  have h3 := congrArg Int64.toInt h2
  rw [J_int (by omega)] at h3
  have h4 : Int64.minValue.toInt = -9223372036854775808 := by decide +kernel
  omega
theorem I_div {a b : Int} (ha : -2147483648 < a ∧ a < 2147483648) (hb : 0 < b ∧ b < 2147483648) : I a / I b = I (a.tdiv b) := by
  apply Int32.toInt_inj.mp
  have h := td_abs (a := a) hb.1
  rw [Int32.toInt_div_of_ne_left, I_int (by omega), I_int (by omega), I_int (by omega)]
  intro h2
  have h3 := congrArg Int32.toInt h2
  rw [I_int (by omega)] at h3
  have h4 : Int32.minValue.toInt = -2147483648 := by decide +kernel
  omega
theorem I_ne0 {a : Int} (h : -2147483648 ≤ a ∧ a < 2147483648) (h0 : a ≠ 0) : ¬ I a = 0 := by
  rw [I_0, I_eq h (by omega)]; exact h0
theorem J_ne0 {a : Int} (h : -9223372036854775808 ≤ a ∧ a < 9223372036854775808) (h0 : a ≠ 0) : ¬ J a = 0 := by
  rw [J_0, J_eq h (by omega)]; exact h0
theorem I_nI (n : Nat) : I (n : Int) = nI n := by
  show Int32.ofInt (n : Int) = Int32.ofNat n
  rfl
