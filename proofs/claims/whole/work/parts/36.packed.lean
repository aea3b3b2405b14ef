/-! numbers packed six bits each -/
theorem and63 {a : Nat} (ha : a < 2147483648) : (iI (a : Nat) &&& iI 63).toInt = ((a % 64 : Nat) : Int) := by
  have h1 : iI (a : Nat) &&& iI ((63 : Nat) : Nat) = iI ((a % 64 : Nat) : Nat) := by
    apply Int32.toBitVec_inj.mp
    rw [Int32.toBitVec_and]
    show (nI a).toBitVec &&& (nI 63).toBitVec = (nI (a % 64)).toBitVec
    apply BitVec.eq_of_toNat_eq
    rw [BitVec.toNat_and, pk_tn (by omega), pk_tn (by omega), pk_tn (by omega)]
    exact Nat.and_two_pow_sub_one_eq_mod a 6
  rw [show iI 63 = iI ((63 : Nat) : Nat) from rfl, h1, iI_of (by omega)]
theorem or6 {a x : Nat} (ha : a < 33554432) (hx : x < 64) : (iI ((a * 64 : Nat) : Int) ||| iI (x : Nat)).toInt = ((a * 64 + x : Nat) : Int) := by
  have h1 : iI ((a * 64 : Nat) : Int) ||| iI (x : Nat) = iI ((a * 64 + x : Nat) : Nat) := by
    apply Int32.toBitVec_inj.mp
    rw [Int32.toBitVec_or]
    show (nI (a * 64)).toBitVec ||| (nI x).toBitVec = (nI (a * 64 + x)).toBitVec
    apply BitVec.eq_of_toNat_eq
    rw [BitVec.toNat_or, pk_tn (by omega), pk_tn (by omega), pk_tn (by omega)]
    have := Nat.two_pow_add_eq_or_of_lt (i := 6) (show x < 2 ^ 6 by omega) a
    rw [show (2 : Nat) ^ 6 = 64 from rfl, Nat.mul_comm 64 a] at this
    exact this.symm
  rw [h1, iI_of (by omega)]
theorem shl6 {a : Nat} (ha : a < 33554432) : (iI (a : Nat) <<< (iI 6 &&& 31)).toInt = ((a * 64 : Nat) : Int) := by
  have h1 : iI (a : Nat) <<< (iI 6 &&& 31) = iI ((a * 64 : Nat) : Int) := by
    apply Int32.toBitVec_inj.mp
    rw [show (iI 6 &&& 31) = 6 by decide, Int32.toBitVec_shiftLeft]
    show (nI a).toBitVec <<< _ = (nI (a * 64)).toBitVec
    rw [show (Int32.toBitVec 6).smod 32 = 6#32 by decide]
    apply BitVec.eq_of_toNat_eq
    rw [BitVec.shiftLeft_eq', BitVec.toNat_shiftLeft, pk_tn (by omega), pk_tn (by omega), show (6#32).toNat = 6 from rfl, Nat.shiftLeft_eq, Nat.mod_eq_of_lt (by omega)]
  rw [h1, iI_of (by omega)]
theorem shr6 {a : Nat} (ha : a < 2147483648) (k : Nat) (s : Int32) (hs : iI (k : Int) &&& 31 = s) (hm : (s.toBitVec.smod 32).toNat = k) : (iI (a : Nat) >>> (iI (k : Int) &&& 31)).toInt = ((a / 2 ^ k : Nat) : Int) := by
  rw [hs]
  show (iI (a : Nat) >>> s).toBitVec.toInt = _
  rw [Int32.toBitVec_shiftRight]
  rw [BitVec.sshiftRight', BitVec.toInt_sshiftRight, hm]
  show (iI (a : Nat)).toInt >>> k = _
  rw [iI_of (by omega), Int.shiftRight_eq_div_pow]
  rw [← Int.natCast_ediv]
