/-! covered, open, ask: the pure side -/
theorem or_pow {a r : Nat} (hr : r < 31) (ha : a < 2 ^ r) : (iI (a : Nat) ||| iI ((2 ^ r : Nat) : Nat)).toInt = ((a + 2 ^ r : Nat) : Int) := by
  have hp : 2 ^ r ≤ 2 ^ 30 := Nat.pow_le_pow_right (by decide) (by omega)
  have hs : a + 2 ^ r < 2 ^ 31 := by
    have : (2 : Nat) ^ 31 = 2 ^ 30 + 2 ^ 30 := by decide
    omega
  have h1 : iI (a : Nat) ||| iI ((2 ^ r : Nat) : Nat) = iI ((a + 2 ^ r : Nat) : Nat) := by
    apply Int32.toBitVec_inj.mp
    rw [Int32.toBitVec_or]
    show (nI a).toBitVec ||| (nI (2 ^ r)).toBitVec = (nI (a + 2 ^ r)).toBitVec
    apply BitVec.eq_of_toNat_eq
    rw [BitVec.toNat_or, pk_tn (by omega), pk_tn (by omega), pk_tn (by omega)]
    have := Nat.two_pow_add_eq_or_of_lt ha 1
    rw [Nat.mul_one] at this
    rw [Nat.add_comm a, this, Nat.or_comm]
  rw [h1, iI_of (by omega)]
theorem and32a : (List.range 32).all (fun a => decide ((List.range 32).all (fun b => decide ((iI (a : Nat) &&& iI (b : Nat)).toInt = ((a &&& b : Nat) : Int))) = true)) = true := by decide +kernel
theorem and32 {a b : Nat} (ha : a < 32) (hb : b < 32) : (iI (a : Nat) &&& iI (b : Nat)).toInt = ((a &&& b : Nat) : Int) := all_lt (all_lt (P := fun a => (List.range 32).all (fun b => decide ((iI (a : Nat) &&& iI (b : Nat)).toInt = ((a &&& b : Nat) : Int))) = true) and32a ha) hb
theorem and_lt32 {a b : Nat} (ha : a < 32) : a &&& b < 32 := Nat.lt_of_le_of_lt Nat.and_le_left ha
def popc (a : Nat) : Nat := a % 2 + a / 2 % 2 + a / 4 % 2 + a / 8 % 2 + a / 16 % 2
theorem popc_le (a : Nat) : popc a ≤ 5 := by unfold popc; omega
def andm (N m r : Int) : Nat → Nat → Nat → Nat
  | _, 0, on => on
  | k, c + 1, on => andm N m r (k + 1) c (on &&& held N (r + k * m))
theorem andm_and (N m r : Int) (a : Nat) : ∀ (c k b : Nat), andm N m r k c (a &&& b) = a &&& andm N m r k c b
  | 0, _, _ => rfl
  | c + 1, k, b => by
    unfold andm
    rw [Nat.and_assoc, andm_and N m r a c]
theorem andm_0 (N m r : Int) : ∀ (c k : Nat), andm N m r k c 0 = 0
  | 0, _ => rfl
  | c + 1, k => by
    unfold andm
    rw [Nat.zero_and, andm_0 N m r c]
theorem andm_lt (N m r : Int) : ∀ (c k b : Nat), b < 32 → andm N m r k c b < 32
  | 0, _, _, h => h
  | c + 1, k, b, h => by
    unfold andm
    exact andm_lt N m r c _ _ (and_lt32 h)
theorem per_all {P : Nat → Prop} {T : Nat} (hT : 1 ≤ T) (hper : ∀ j, P (j + T) ↔ P j) (a c : Nat) (hc : T ≤ c) (h : ∀ j, a ≤ j → j < a + c → P j) : ∀ j, P j := by
  have up : ∀ x, a ≤ x → P x := by
    intro x
    induction x using Nat.strongRecOn with
    | ind x ih =>
      intro hx
      by_cases q : x < a + c
      · exact h x hx q
      · have h1 := ih (x - T) (by omega) (by omega)
        have h2 := (hper (x - T)).mpr h1
        rw [show x - T + T = x by omega] at h2
        exact h2
  have sh : ∀ t j, P (j + t * T) ↔ P j := by
    intro t
    induction t with
    | zero => intro j; simp
    | succ t ih => intro j; rw [show j + (t + 1) * T = (j + t * T) + T by rw [Nat.succ_mul]; omega, hper, ih]
  intro j
  refine (sh a j).mp (up _ ?_)
  have : a * 1 ≤ a * T := Nat.mul_le_mul_left a hT
  omega
theorem hold_per {N : Int} (hN : 2 ≤ N ∧ N ≤ 7) {i : Nat} (hi : i < 5) : ∃ T : Nat, 1 ≤ T ∧ (T : Int) ≤ 2 * N ∧ ∀ (r m : Int) (j : Nat), hold N (r + ((j + T : Nat) : Int) * m) i = hold N (r + (j : Int) * m) i := by
  have e : ∀ (r m : Int) (j T : Nat) (c : Int), r + ((j + T : Nat) : Int) * m + c = (r + (j : Int) * m + c) + (T : Int) * m := by
    intro r m j T c
    rw [Int.natCast_add, Int.add_mul]
    omega
  have e0 : ∀ (r m : Int) (j T : Nat), r + ((j + T : Nat) : Int) * m = (r + (j : Int) * m) + (T : Int) * m := by
    intro r m j T
    have := e r m j T 0
    omega
  have hc : i = 0 ∨ i = 1 ∨ i = 2 ∨ i = 3 ∨ i = 4 := by omega
  rcases hc with rfl | rfl | rfl | rfl | rfl
  · refine ⟨N.toNat, by omega, by omega, fun r m j => ?_⟩
    simp only [hold]
    rw [e0, show ((N.toNat : Nat) : Int) = N by omega, Int.add_mul_emod_self_left]
  · refine ⟨N.toNat, by omega, by omega, fun r m j => ?_⟩
    simp only [hold]
    rw [e, show ((N.toNat : Nat) : Int) = N by omega, Int.add_mul_emod_self_left]
  · refine ⟨(2 * N).toNat, by omega, by omega, fun r m j => ?_⟩
    simp only [hold]
    rw [e, e0, show (((2 * N).toNat : Nat) : Int) = N * 2 by omega, Int.mul_assoc, Int.add_mul_emod_self_left, show N * (2 * m) = 2 * (N * m) by rw [← Int.mul_assoc, Int.mul_comm N 2, Int.mul_assoc], Int.add_mul_emod_self_left]
  · refine ⟨(N - 1).toNat, by omega, by omega, fun r m j => ?_⟩
    simp only [hold]
    rw [e, show (((N - 1).toNat : Nat) : Int) = N - 1 by omega, Int.add_mul_emod_self_left]
  · refine ⟨(N - 1).toNat, by omega, by omega, fun r m j => ?_⟩
    simp only [hold]
    rw [e0, show (((N - 1).toNat : Nat) : Int) = N - 1 by omega, Int.add_mul_emod_self_left]
theorem bit5 : ∀ b0 b1 b2 b3 b4 : Bool, (List.range 5).all (fun i => Nat.testBit (0 + (if b0 then 2 ^ 0 else 0) + (if b1 then 2 ^ 1 else 0) + (if b2 then 2 ^ 2 else 0) + (if b3 then 2 ^ 3 else 0) + (if b4 then 2 ^ 4 else 0)) i == ([b0, b1, b2, b3, b4].getD i false)) = true := by decide
theorem held_bit (N n : Int) {i : Nat} (hi : i < 5) : (held N n).testBit i = hold N n i := by
  have h := List.all_eq_true.mp (bit5 (hold N n 0) (hold N n 1) (hold N n 2) (hold N n 3) (hold N n 4)) i (List.mem_range.mpr hi)
  have h := eq_of_beq h
  refine Eq.trans h ?_
  have hc : i = 0 ∨ i = 1 ∨ i = 2 ∨ i = 3 ∨ i = 4 := by omega
  rcases hc with rfl | rfl | rfl | rfl | rfl <;> rfl
theorem andm_bit (N m r : Int) {i : Nat} (hi : i < 5) : ∀ (c k on : Nat), (andm N m r k c on).testBit i = true ↔ on.testBit i = true ∧ ∀ j, k ≤ j → j < k + c → hold N (r + (j : Int) * m) i = true
  | 0, k, on => by
    constructor
    · intro h
      exact ⟨h, fun j h1 h2 => by omega⟩
    · intro h
      exact h.1
  | c + 1, k, on => by
    unfold andm
    rw [andm_bit N m r hi c (k + 1), Nat.testBit_and, Bool.and_eq_true, held_bit _ _ hi]
    constructor
    · rintro ⟨⟨h1, h2⟩, h3⟩
      refine ⟨h1, fun j g1 g2 => ?_⟩
      by_cases q : j = k
      · subst q; exact h2
      · exact h3 j (by omega) (by omega)
    · rintro ⟨h1, h2⟩
      exact ⟨⟨h1, h2 k (by omega) (by omega)⟩, fun j g1 g2 => h2 j (by omega) (by omega)⟩
theorem cov_eq {N m r : Int} {on : Nat} (hN : 2 ≤ N ∧ N ≤ 7) (ho : on < 32) (s : Nat) (hs : s ≤ 1) : andm N m r 1 (2 * N).toNat on = andm N m r s (85 - s) on := by
  apply Nat.eq_of_testBit_eq
  intro i
  by_cases hi : i < 5
  · obtain ⟨T, h1, h2, h3⟩ := hold_per hN hi
    have hp : ∀ j : Nat, (hold N (r + ((j + T : Nat) : Int) * m) i = true) ↔ (hold N (r + (j : Int) * m) i = true) := fun j => by rw [h3]
    apply Bool.eq_iff_iff.mpr
    rw [andm_bit N m r hi, andm_bit N m r hi]
    constructor
    · rintro ⟨g1, g2⟩
      have := per_all (P := fun j => hold N (r + (j : Int) * m) i = true) h1 hp 1 (2 * N).toNat (by omega) g2
      exact ⟨g1, fun j _ _ => this j⟩
    · rintro ⟨g1, g2⟩
      have := per_all (P := fun j => hold N (r + (j : Int) * m) i = true) h1 hp s (85 - s) (by omega) g2
      exact ⟨g1, fun j _ _ => this j⟩
  · have h32 : (32 : Nat) ≤ 2 ^ i := by
      have : (2 : Nat) ^ 5 ≤ 2 ^ i := Nat.pow_le_pow_right (by decide) (by omega)
      exact this
    rw [Nat.testBit_lt_two_pow (Nat.lt_of_lt_of_le (andm_lt N m r _ _ on ho) h32), Nat.testBit_lt_two_pow (Nat.lt_of_lt_of_le (andm_lt N m r _ _ on ho) h32)]
def covS (N m : Int) (on : Nat) : Nat → Nat
  | 0 => 0
  | r + 1 => covS N m on r + if andm N m r 1 (2 * N).toNat on ≠ 0 then 2 ^ r else 0
theorem covS_lt (N m : Int) (on : Nat) : ∀ r, covS N m on r < 2 ^ r
  | 0 => by simp [covS]
  | r + 1 => by
    have := covS_lt N m on r
    unfold covS
    rw [Nat.pow_succ]
    split <;> omega
def opnS (N : Int) (on : Nat) : Nat → Nat → Int
  | 0, _ => -9
  | c + 1, k => if held N (k : Int) &&& on = 0 then (k : Int) else opnS N on c (k + 1)
-- what a number would leave, split or not
def gpS (N : Int) (set k : Nat) : Int := let s := popc (set &&& held N (k : Int)); if s < popc set - s then ((popc set - s : Nat) : Int) else (s : Int)
def bqS (N : Int) (set : Nat) : Nat → Nat → Int → Int → Int
  | 0, _, best, _ => best
  | c + 1, k, best, small => if gpS N set k < small then bqS N set c (k + 1) (k : Int) (gpS N set k) else bqS N set c (k + 1) best small
def askS (N : Int) (set : Nat) : Int := if popc set ≤ 1 then -9 else bqS N set 98 2 1 (gpS N set 1)
theorem popc_chk : (List.range 32).all (fun a => (List.range 32).all (fun b => decide (popc (a &&& b) ≤ popc a))) = true := by decide +kernel
theorem popc_and_le {a b : Nat} (ha : a < 32) (hb : b < 32) : popc (a &&& b) ≤ popc a := of_decide_eq_true (List.all_eq_true.mp (List.all_eq_true.mp popc_chk a (List.mem_range.mpr ha)) b (List.mem_range.mpr hb))
