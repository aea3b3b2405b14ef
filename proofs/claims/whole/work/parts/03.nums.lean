/-! numbers: ints and longs as Int -/
def iI (a : Int) : Int32 := Int32.ofInt a
def lL (a : Int) : Int64 := Int64.ofInt a
theorem iI_toInt (x : Int32) : iI x.toInt = x := by simp [iI]
theorem lL_toInt (x : Int64) : lL x.toInt = x := by simp [lL]
theorem iI_of {a : Int} (h : -2147483648 ≤ a ∧ a ≤ 2147483647) : (iI a).toInt = a := by
  unfold iI
  rw [Int32.toInt_ofInt]
  apply Int.bmod_eq_of_le <;> simp [Int32.size] <;> omega
theorem lL_of {a : Int} (h : -9223372036854775808 ≤ a ∧ a ≤ 9223372036854775807) : (lL a).toInt = a := by
  unfold lL
  rw [Int64.toInt_ofInt]
  apply Int.bmod_eq_of_le <;> simp [Int64.size] <;> omega
theorem iI_rng (x : Int32) : -2147483648 ≤ x.toInt ∧ x.toInt ≤ 2147483647 := by
  have h1 := Int32.le_toInt x
  have h2 := Int32.toInt_lt x
  constructor <;> omega
theorem iI_add (a b : Int) : iI a + iI b = iI (a + b) := by simp [iI, Int32.ofInt_add]
theorem iI_sub (a b : Int) : iI a - iI b = iI (a - b) := by simp [iI, Int32.ofInt_sub]
theorem iI_mul (a b : Int) : iI a * iI b = iI (a * b) := by simp [iI, Int32.ofInt_mul]
theorem lL_add (a b : Int) : lL a + lL b = lL (a + b) := by simp [lL, Int64.ofInt_add]
theorem lL_sub (a b : Int) : lL a - lL b = lL (a - b) := by simp [lL, Int64.ofInt_sub]
theorem lL_mul (a b : Int) : lL a * lL b = lL (a * b) := by simp [lL, Int64.ofInt_mul]
theorem iI_lt {a b : Int} (ha : -2147483648 ≤ a ∧ a ≤ 2147483647) (hb : -2147483648 ≤ b ∧ b ≤ 2147483647) : iI a < iI b ↔ a < b := by
  rw [Int32.lt_iff_toInt_lt, iI_of ha, iI_of hb]
theorem iI_le {a b : Int} (ha : -2147483648 ≤ a ∧ a ≤ 2147483647) (hb : -2147483648 ≤ b ∧ b ≤ 2147483647) : iI a ≤ iI b ↔ a ≤ b := by
  rw [Int32.le_iff_toInt_le, iI_of ha, iI_of hb]
theorem iI_eq {a b : Int} (ha : -2147483648 ≤ a ∧ a ≤ 2147483647) (hb : -2147483648 ≤ b ∧ b ≤ 2147483647) : iI a = iI b ↔ a = b := by
  rw [← Int32.toInt_inj, iI_of ha, iI_of hb]
theorem lL_lt {a b : Int} (ha : -9223372036854775808 ≤ a ∧ a ≤ 9223372036854775807) (hb : -9223372036854775808 ≤ b ∧ b ≤ 9223372036854775807) : lL a < lL b ↔ a < b := by
  rw [Int64.lt_iff_toInt_lt, lL_of ha, lL_of hb]
theorem lL_le {a b : Int} (ha : -9223372036854775808 ≤ a ∧ a ≤ 9223372036854775807) (hb : -9223372036854775808 ≤ b ∧ b ≤ 9223372036854775807) : lL a ≤ lL b ↔ a ≤ b := by
  rw [Int64.le_iff_toInt_le, lL_of ha, lL_of hb]
theorem lL_eq {a b : Int} (ha : -9223372036854775808 ≤ a ∧ a ≤ 9223372036854775807) (hb : -9223372036854775808 ≤ b ∧ b ≤ 9223372036854775807) : lL a = lL b ↔ a = b := by
  rw [← Int64.toInt_inj, lL_of ha, lL_of hb]
theorem lL_div {a b : Int} (ha : 0 ≤ a ∧ a ≤ 9223372036854775807) (hb : 0 < b ∧ b ≤ 9223372036854775807) : lL a / lL b = lL (a / b) := by
  have h0 : a / b ≤ a := Int.ediv_le_self b ha.1
  have h1 : 0 ≤ a / b := Int.ediv_nonneg ha.1 (by omega)
  apply Int64.toInt_inj.mp
  rw [Int64.toInt_div, lL_of (by omega), lL_of (by omega), lL_of (by omega), Int.tdiv_eq_ediv_of_nonneg ha.1]
  apply Int.bmod_eq_of_le <;> simp [Int64.size] <;> omega
theorem lL_rem {a b : Int} (ha : 0 ≤ a ∧ a ≤ 9223372036854775807) (hb : 0 < b ∧ b ≤ 9223372036854775807) : lL a - lL a / lL b * lL b = lL (a % b) := by
  rw [lL_div ha hb, lL_mul, lL_sub]
  congr 1
  rw [Int.emod_def, Int.mul_comm b (a / b)]
theorem iI_div {a b : Int} (ha : 0 ≤ a ∧ a ≤ 2147483647) (hb : 0 < b ∧ b ≤ 2147483647) : iI a / iI b = iI (a / b) := by
  have h0 : a / b ≤ a := Int.ediv_le_self b ha.1
  have h1 : 0 ≤ a / b := Int.ediv_nonneg ha.1 (by omega)
  apply Int32.toInt_inj.mp
  rw [Int32.toInt_div, iI_of (by omega), iI_of (by omega), iI_of (by omega), Int.tdiv_eq_ediv_of_nonneg ha.1]
  apply Int.bmod_eq_of_le <;> simp [Int32.size] <;> omega
theorem iI_rem {a b : Int} (ha : 0 ≤ a ∧ a ≤ 2147483647) (hb : 0 < b ∧ b ≤ 2147483647) : iI a - iI a / iI b * iI b = iI (a % b) := by
  rw [iI_div ha hb, iI_mul, iI_sub]
  congr 1
  rw [Int.emod_def, Int.mul_comm b (a / b)]
theorem iI_l {a : Int} (h : -2147483648 ≤ a ∧ a ≤ 2147483647) : (iI a).toInt64 = lL a := by
  apply Int64.toInt_inj.mp
  rw [Int32.toInt_toInt64, iI_of h, lL_of (by omega)]
theorem lL_i (a : Int) : (lL a).toInt32 = iI a := by simp [lL, iI]
theorem iI_clamp {a : Int} (h : 0 ≤ a ∧ a ≤ 2147483647) : (iI a).toNatClampNeg = a.toNat := by
  show (iI a).toInt.toNat = _
  rw [iI_of (by omega)]
theorem iI_in {a : Int} {n : Nat} (h0 : 0 ≤ a) (h : a < n) (hn : n < 2147483648) : vp_in (iI a) n := by
  rw [vp_in_iff, iI_of (by omega)]
  exact ⟨h0, h⟩
