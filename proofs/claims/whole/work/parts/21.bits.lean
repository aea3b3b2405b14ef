/-! classes: which identity holds; both sides' methods -/
def hold (N n : Int) : Nat → Bool
  | 0 => n % N == 0
  | 1 => (n + 1) % N == 0
  | 2 => (n + 2) % N == 0 && n % 2 == 0
  | 3 => (n + 1) % (N - 1) == 0
  | 4 => n % (N - 1) == 0
  | _ => false
def hb (N n : Int) : Nat → Nat
  | 0 => 0
  | k + 1 => hb N n k + if hold N n k then 2 ^ k else 0
abbrev held (N n : Int) : Nat := hb N n 5
theorem hb_lt (N n : Int) : ∀ k, hb N n k < 2 ^ k
  | 0 => by simp [hb]
  | k + 1 => by
    have := hb_lt N n k
    unfold hb
    rw [Nat.pow_succ]
    split <;> omega
theorem held_lt (N n : Int) : held N n < 32 := hb_lt N n 5
theorem all_lt {P : Nat → Prop} [DecidablePred P] {n : Nat} (h : (List.range n).all (fun k => decide (P k)) = true) {k : Nat} (hk : k < n) : P k := of_decide_eq_true (List.all_eq_true.mp h k (List.mem_range.mpr hk))
theorem or32a : (List.range 32).all (fun a => decide ((List.range 5).all (fun k => decide (a < 2 ^ k → (iI a ||| iI (2 ^ k : Nat)).toInt = ((a + 2 ^ k : Nat) : Int))) = true)) = true := by decide +kernel
theorem or32 {a k : Nat} (hk : k < 5) (ha : a < 2 ^ k) : (iI a ||| iI (2 ^ k : Nat)).toInt = ((a + 2 ^ k : Nat) : Int) := by
  have h1 : a < 32 := Nat.lt_of_lt_of_le ha (Nat.pow_le_pow_right (n := 2) (by decide) (by omega : k ≤ 5))
  exact all_lt (all_lt (P := fun a => (List.range 5).all (fun k => decide (a < 2 ^ k → (iI a ||| iI (2 ^ k : Nat)).toInt = ((a + 2 ^ k : Nat) : Int))) = true) or32a h1) hk ha
theorem shl5a : (List.range 31).all (fun k => decide ((iI 1 <<< (iI (k : Nat) &&& 31)).toInt = ((2 ^ k : Nat) : Int))) = true := by decide +kernel
theorem shl5 {k : Nat} (hk : k < 31) : (iI 1 <<< (iI (k : Nat) &&& 31)).toInt = ((2 ^ k : Nat) : Int) := all_lt shl5a hk
theorem or0 {a : Int} (h : 0 ≤ a ∧ a ≤ 2147483647) : (iI a ||| iI 0).toInt = a := by
  have : iI a ||| iI 0 = iI a := by
    show iI a ||| 0 = iI a
    simp
  rw [this, iI_of (by omega)]
section Bits
variable {d n : Nat} {h : AH}
theorem c_isLength {k : Int} (hk : -2147483648 ≤ k ∧ k ≤ 2147483647) : AC mX5_isLength d 0 0 n h [aI k] (aqi n fun v h' => v = (if 1 ≤ k ∧ k ≤ 5 then 1 else 0) ∧ h' = h) := by
  refine AC.of (by decide) (Nat.le_of_ble_eq_true rfl) ?_
  refine aw_iload_n dX5_isLength_0 rfl ?_
  refine aw_iconst dX5_isLength_1 ?_
  -- at 2: .if_icmp .lt 12
  refine aw_icmp_lt (tgt := 14) dX5_isLength_2 (by omega) (by omega) (by decide) (fun c1 => ?_) (fun c1 => ?_)
  · refine aw_iconst dX5_isLength_14 ?_
    -- at 15: .ireturn
    exact aw_zret rfl dX5_isLength_15 (by omega) ⟨rfl, _, rfl, by rw [if_neg (by omega)], rfl⟩
  · refine aw_iload_n dX5_isLength_5 rfl ?_
    refine aw_iconst dX5_isLength_6 ?_
    -- at 7: .if_icmp .gt 7
    refine aw_icmp_gt (tgt := 14) dX5_isLength_7 (by omega) (by omega) (by decide) (fun c2 => ?_) (fun c2 => ?_)
    · refine aw_iconst dX5_isLength_14 ?_
      -- at 15: .ireturn
      exact aw_zret rfl dX5_isLength_15 (by omega) ⟨rfl, _, rfl, by rw [if_neg (by omega)], rfl⟩
    · refine aw_iconst dX5_isLength_10 ?_
      refine aw_goto (tgt := 15) dX5_isLength_11 (by decide) ?_
      -- at 15: .ireturn
      exact aw_zret rfl dX5_isLength_15 (by omega) ⟨rfl, _, rfl, by rw [if_pos (by omega)], rfl⟩
theorem c_isBound {k : Int} (hk : -2147483648 ≤ k ∧ k ≤ 2147483647) : AC mX5_isBound d 0 0 n h [aI k] (aqi n fun v h' => v = (if 1 ≤ k ∧ k ≤ 60 then 1 else 0) ∧ h' = h) := by
  refine AC.of (by decide) (Nat.le_of_ble_eq_true rfl) ?_
  refine aw_iload_n dX5_isBound_0 rfl ?_
  refine aw_iconst dX5_isBound_1 ?_
  -- at 2: .if_icmp .lt 13
  refine aw_icmp_lt (tgt := 15) dX5_isBound_2 (by omega) (by omega) (by decide) (fun c1 => ?_) (fun c1 => ?_)
  · refine aw_iconst dX5_isBound_15 ?_
    -- at 16: .ireturn
    exact aw_zret rfl dX5_isBound_16 (by omega) ⟨rfl, _, rfl, by rw [if_neg (by omega)], rfl⟩
  · refine aw_iload_n dX5_isBound_5 rfl ?_
    refine aw_bipush dX5_isBound_6 (by decide) ?_
    -- at 8: .if_icmp .gt 7
    refine aw_icmp_gt (tgt := 15) dX5_isBound_8 (by omega) (by omega) (by decide) (fun c2 => ?_) (fun c2 => ?_)
    · refine aw_iconst dX5_isBound_15 ?_
      -- at 16: .ireturn
      exact aw_zret rfl dX5_isBound_16 (by omega) ⟨rfl, _, rfl, by rw [if_neg (by omega)], rfl⟩
    · refine aw_iconst dX5_isBound_11 ?_
      refine aw_goto (tgt := 16) dX5_isBound_12 (by decide) ?_
      -- at 16: .ireturn
      exact aw_zret rfl dX5_isBound_16 (by omega) ⟨rfl, _, rfl, by rw [if_pos (by omega)], rfl⟩
theorem c_isNumerator {k : Int} (hk : -2147483648 ≤ k ∧ k ≤ 2147483647) : AC mX5_isNumerator d 0 0 n h [aI k] (aqi n fun v h' => v = (if 2 ≤ k ∧ k ≤ 7 then 1 else 0) ∧ h' = h) := by
  refine AC.of (by decide) (Nat.le_of_ble_eq_true rfl) ?_
  refine aw_iload_n dX5_isNumerator_0 rfl ?_
  refine aw_iconst dX5_isNumerator_1 ?_
  -- at 2: .if_icmp .lt 13
  refine aw_icmp_lt (tgt := 15) dX5_isNumerator_2 (by omega) (by omega) (by decide) (fun c1 => ?_) (fun c1 => ?_)
  · refine aw_iconst dX5_isNumerator_15 ?_
    -- at 16: .ireturn
    exact aw_zret rfl dX5_isNumerator_16 (by omega) ⟨rfl, _, rfl, by rw [if_neg (by omega)], rfl⟩
  · refine aw_iload_n dX5_isNumerator_5 rfl ?_
    refine aw_bipush dX5_isNumerator_6 (by decide) ?_
    -- at 8: .if_icmp .gt 7
    refine aw_icmp_gt (tgt := 15) dX5_isNumerator_8 (by omega) (by omega) (by decide) (fun c2 => ?_) (fun c2 => ?_)
    · refine aw_iconst dX5_isNumerator_15 ?_
      -- at 16: .ireturn
      exact aw_zret rfl dX5_isNumerator_16 (by omega) ⟨rfl, _, rfl, by rw [if_neg (by omega)], rfl⟩
    · refine aw_iconst dX5_isNumerator_11 ?_
      refine aw_goto (tgt := 16) dX5_isNumerator_12 (by decide) ?_
      -- at 16: .ireturn
      exact aw_zret rfl dX5_isNumerator_16 (by omega) ⟨rfl, _, rfl, by rw [if_pos (by omega)], rfl⟩
theorem c_isChoice {k : Int} (hk : -2147483648 ≤ k ∧ k ≤ 2147483647) : AC mX5_isChoice d 0 0 n h [aI k] (aqi n fun v h' => v = (if 0 ≤ k ∧ k ≤ 31 then 1 else 0) ∧ h' = h) := by
  refine AC.of (by decide) (Nat.le_of_ble_eq_true rfl) ?_
  refine aw_iload_n dX5_isChoice_0 rfl ?_
  -- at 1: .ifCond .lt 13
  refine aw_if_lt (tgt := 14) dX5_isChoice_1 (by omega) (by decide) (fun c1 => ?_) (fun c1 => ?_)
  · refine aw_iconst dX5_isChoice_14 ?_
    -- at 15: .ireturn
    exact aw_zret rfl dX5_isChoice_15 (by omega) ⟨rfl, _, rfl, by rw [if_neg (by omega)], rfl⟩
  · refine aw_iload_n dX5_isChoice_4 rfl ?_
    refine aw_bipush dX5_isChoice_5 (by decide) ?_
    -- at 7: .if_icmp .gt 7
    refine aw_icmp_gt (tgt := 14) dX5_isChoice_7 (by omega) (by omega) (by decide) (fun c2 => ?_) (fun c2 => ?_)
    · refine aw_iconst dX5_isChoice_14 ?_
      -- at 15: .ireturn
      exact aw_zret rfl dX5_isChoice_15 (by omega) ⟨rfl, _, rfl, by rw [if_neg (by omega)], rfl⟩
    · refine aw_iconst dX5_isChoice_10 ?_
      refine aw_goto (tgt := 15) dX5_isChoice_11 (by decide) ?_
      -- at 15: .ireturn
      exact aw_zret rfl dX5_isChoice_15 (by omega) ⟨rfl, _, rfl, by rw [if_pos (by omega)], rfl⟩
theorem c_divides {k m : Int} (hk : 1 ≤ k ∧ k ≤ 100) (hm : 0 ≤ m ∧ m ≤ 100000) : AC mX5_divides d 0 0 n h [aI k, aI m] (aqi n fun v h' => v = (if m % k = 0 then 1 else 0) ∧ h' = h) := by
  refine AC.of (by decide) (Nat.le_of_ble_eq_true rfl) ?_
  have h1 : 0 ≤ m % k := Int.emod_nonneg _ (by omega)
  have h2 : m % k < k := Int.emod_lt_of_pos _ (by omega)
  refine aw_iload_n dX5_divides_0 rfl ?_
  -- at 1: .ifCond .le 13
  refine aw_if_le (tgt := 14) dX5_divides_1 (by omega) (by decide) (fun c1 => ?_) (fun c1 => ?_)
  · omega
  · refine aw_iload_n dX5_divides_4 rfl ?_
    refine aw_iload_n dX5_divides_5 rfl ?_
    refine aw_irem dX5_divides_6 (by omega) (by omega) ?_
    -- at 7: .ifCond .ne 7
    refine aw_if_ne (tgt := 14) dX5_divides_7 (by omega) (by decide) (fun c2 => ?_) (fun c2 => ?_)
    · refine aw_iconst dX5_divides_14 ?_
      -- at 15: .ireturn
      exact aw_zret rfl dX5_divides_15 (by omega) ⟨rfl, _, rfl, by rw [if_neg c2], rfl⟩
    · refine aw_iconst dX5_divides_10 ?_
      refine aw_goto (tgt := 15) dX5_divides_11 (by decide) ?_
      -- at 15: .ireturn
      exact aw_zret rfl dX5_divides_15 (by omega) ⟨rfl, _, rfl, by rw [if_pos (by omega)], rfl⟩
theorem c_isSplit {N m : Int} {k : Nat} (hN : 2 ≤ N ∧ N ≤ 7) (hm : 0 ≤ m ∧ m ≤ 50000) (hk : k < 5) : AC mX5_isSplit (d + 1) 0 0 n h [aI N, aI (k : Int), aI m] (aqi n fun v h' => v = (if hold N m k = true then 1 else 0) ∧ h' = h) := by
  refine AC.of (by decide) (Nat.le_of_ble_eq_true rfl) ?_
  refine aw_iload_n dX5_isSplit_0 rfl ?_
  -- at 1: .tableswitch 91 0 4 #[35, 41, 49, 73, 83]
  have hc : k = 0 ∨ k = 1 ∨ k = 2 ∨ k = 3 ∨ k = 4 := by omega
  rcases hc with rfl | rfl | rfl | rfl | rfl
  · refine aw_tableIn (tgt := 36) dX5_isSplit_1 (by decide) (by decide) (by decide) rfl (by decide) ?_
    refine aw_iload_n dX5_isSplit_36 rfl ?_
    refine aw_iload_n dX5_isSplit_37 rfl ?_
    -- at 38: .invokestatic 219
    refine aw_Si2 kc_X5_219 (c_divides (d := d) (by omega) (by omega)) rfl (by omega) (Nat.le_of_ble_eq_true rfl) dX5_isSplit_38 (fun v h' q => ?_)
    obtain ⟨rfl, rfl⟩ := q
    exact aw_zret rfl dX5_isSplit_41 (by split <;> simp) ⟨rfl, _, rfl, by simp [hold], rfl⟩
  · refine aw_tableIn (tgt := 42) dX5_isSplit_1 (by decide) (by decide) (by decide) rfl (by decide) ?_
    refine aw_iload_n dX5_isSplit_42 rfl ?_
    refine aw_iload_n dX5_isSplit_43 rfl ?_
    refine aw_iconst dX5_isSplit_44 ?_
    refine aw_iadd dX5_isSplit_45 ?_
    -- at 46: .invokestatic 219
    refine aw_Si2 kc_X5_219 (c_divides (d := d) (by omega) (by omega)) rfl (by omega) (Nat.le_of_ble_eq_true rfl) dX5_isSplit_46 (fun v h' q => ?_)
    obtain ⟨rfl, rfl⟩ := q
    exact aw_zret rfl dX5_isSplit_49 (by split <;> simp) ⟨rfl, _, rfl, by simp [hold], rfl⟩
  · refine aw_tableIn (tgt := 50) dX5_isSplit_1 (by decide) (by decide) (by decide) rfl (by decide) ?_
    refine aw_iload_n dX5_isSplit_50 rfl ?_
    refine aw_iload_n dX5_isSplit_51 rfl ?_
    refine aw_iconst dX5_isSplit_52 ?_
    refine aw_iadd dX5_isSplit_53 ?_
    -- at 54: .invokestatic 219
    refine aw_Si2 kc_X5_219 (c_divides (d := d) (by omega) (by omega)) rfl (by omega) (Nat.le_of_ble_eq_true rfl) dX5_isSplit_54 (fun v h' q => ?_)
    obtain ⟨rfl, rfl⟩ := q
    refine aw_flag_eq (tgt := 72) dX5_isSplit_57 (by decide) (fun c1 => ?_) (fun c1 => ?_)
    · refine aw_iconst dX5_isSplit_72 ?_
      -- at 73: .ireturn
      exact aw_zret rfl dX5_isSplit_73 (by omega) ⟨rfl, _, rfl, by simp [hold, c1], rfl⟩
    · refine aw_iconst dX5_isSplit_60 ?_
      refine aw_iload_n dX5_isSplit_61 rfl ?_
      -- at 62: .invokestatic 219
      refine aw_Si2 kc_X5_219 (c_divides (d := d) (by omega) (by omega)) rfl (by omega) (Nat.le_of_ble_eq_true rfl) dX5_isSplit_62 (fun v h' q => ?_)
      obtain ⟨rfl, rfl⟩ := q
      refine aw_flag_eq (tgt := 72) dX5_isSplit_65 (by decide) (fun c2 => ?_) (fun c2 => ?_)
      · refine aw_iconst dX5_isSplit_72 ?_
        -- at 73: .ireturn
        exact aw_zret rfl dX5_isSplit_73 (by omega) ⟨rfl, _, rfl, by simp [hold, c1, c2], rfl⟩
      · refine aw_iconst dX5_isSplit_68 ?_
        refine aw_goto (tgt := 73) dX5_isSplit_69 (by decide) ?_
        -- at 73: .ireturn
        exact aw_zret rfl dX5_isSplit_73 (by omega) ⟨rfl, _, rfl, by simp [hold, c1, c2], rfl⟩
  · refine aw_tableIn (tgt := 74) dX5_isSplit_1 (by decide) (by decide) (by decide) rfl (by decide) ?_
    refine aw_iload_n dX5_isSplit_74 rfl ?_
    refine aw_iconst dX5_isSplit_75 ?_
    refine aw_isub dX5_isSplit_76 ?_
    refine aw_iload_n dX5_isSplit_77 rfl ?_
    refine aw_iconst dX5_isSplit_78 ?_
    refine aw_iadd dX5_isSplit_79 ?_
    -- at 80: .invokestatic 219
    refine aw_Si2 kc_X5_219 (c_divides (d := d) (by omega) (by omega)) rfl (by omega) (Nat.le_of_ble_eq_true rfl) dX5_isSplit_80 (fun v h' q => ?_)
    obtain ⟨rfl, rfl⟩ := q
    exact aw_zret rfl dX5_isSplit_83 (by split <;> simp) ⟨rfl, _, rfl, by simp [hold], rfl⟩
  · refine aw_tableIn (tgt := 84) dX5_isSplit_1 (by decide) (by decide) (by decide) rfl (by decide) ?_
    refine aw_iload_n dX5_isSplit_84 rfl ?_
    refine aw_iconst dX5_isSplit_85 ?_
    refine aw_isub dX5_isSplit_86 ?_
    refine aw_iload_n dX5_isSplit_87 rfl ?_
    -- at 88: .invokestatic 219
    refine aw_Si2 kc_X5_219 (c_divides (d := d) (by omega) (by omega)) rfl (by omega) (Nat.le_of_ble_eq_true rfl) dX5_isSplit_88 (fun v h' q => ?_)
    obtain ⟨rfl, rfl⟩ := q
    exact aw_zret rfl dX5_isSplit_91 (by split <;> simp) ⟨rfl, _, rfl, by simp [hold], rfl⟩
theorem splitters_loop {N m : Int} {Z : AZ} (hN : 2 ≤ N ∧ N ≤ 7) (hm : 0 ≤ m ∧ m ≤ 50000) (kk : ∀ L, lk L 2 = some (aI (held N m : Int)) → AW mX5_splitters (am_R (d + 2) 0 0) Z 0 0 n h 30 L []) :
    ∀ (e k : Nat), e + k = 5 → AW mX5_splitters (am_R (d + 2) 0 0) Z 0 0 n h 4 [some (aI N), some (aI m), some (aI (hb N m k : Int)), some (aI (k : Int))] [] := by
  intro e
  induction e with
  | zero =>
    intro k hk
    have : k = 5 := by omega
    subst this
    refine aw_iload_n dX5_splitters_4 rfl ?_
    refine aw_iconst dX5_splitters_5 ?_
    -- at 6: .if_icmp .ge 24
    refine aw_icmp_ge (tgt := 30) dX5_splitters_6 (by omega) (by omega) (by decide) (fun c1 => ?_) (fun c1 => ?_)
    · exact kk _ rfl
    · omega
  | succ e ih =>
    intro k hk
    have K := ih (k + 1) (by omega)
    refine aw_iload_n dX5_splitters_4 rfl ?_
    refine aw_iconst dX5_splitters_5 ?_
    -- at 6: .if_icmp .ge 24
    refine aw_icmp_ge (tgt := 30) dX5_splitters_6 (by omega) (by omega) (by decide) (fun c1 => ?_) (fun c1 => ?_)
    · omega
    · refine aw_iload_n dX5_splitters_9 rfl ?_
      refine aw_iload_n dX5_splitters_10 rfl ?_
      refine aw_iload_n dX5_splitters_11 rfl ?_
      -- at 12: .invokestatic 153
      refine aw_Si3 kc_X5_153 (c_isSplit (d := d) (k := k) hN hm (by omega)) rfl (by omega) (Nat.le_of_ble_eq_true rfl) dX5_splitters_12 (fun v h' q => ?_)
      obtain ⟨rfl, rfl⟩ := q
      have e1 : ((k + 1 : Nat) : Int) = (k : Int) + 1 := by omega
      rw [e1] at K
      have hlt := hb_lt N m k
      have hp : 2 ^ k ≤ 16 := Nat.pow_le_pow_right (n := 2) (by decide) (by omega : k ≤ 4)
      refine aw_flag_eq (tgt := 24) dX5_splitters_15 (by decide) (fun c2 => ?_) (fun c2 => ?_)
      · refine aw_iinc dX5_splitters_24 rfl (by decide) ?_
        refine aw_goto (tgt := 4) dX5_splitters_27 (by decide) ?_
        have e2 : hb N m (k + 1) = hb N m k := by simp [hb, c2]
        rw [e2] at K
        exact K
      · refine aw_iload_n dX5_splitters_18 rfl ?_
        refine aw_iconst dX5_splitters_19 ?_
        refine aw_iload_n dX5_splitters_20 rfl ?_
        refine aw_ishl dX5_splitters_21 ?_
        refine aw_val (w := aI ((2 ^ k : Nat) : Int)) (by rw [shl5 (by omega)]) ?_
        refine aw_ior dX5_splitters_22 ?_
        refine aw_val (w := aI (hb N m (k + 1) : Int)) (by rw [or32 (by omega) hlt]; simp [hb, c2]) ?_
        refine aw_istore_n dX5_splitters_23 (by decide) ?_
        refine aw_iinc dX5_splitters_24 rfl (by decide) ?_
        refine aw_goto (tgt := 4) dX5_splitters_27 (by decide) ?_
        exact K
theorem c_splitters {N m : Int} (hN : 2 ≤ N ∧ N ≤ 7) (hm : 0 ≤ m ∧ m ≤ 50000) : AC mX5_splitters (d + 2) 0 0 n h [aI N, aI m] (aqi n fun v h' => v = (held N m : Int) ∧ h' = h) := by
  refine AC.of (by decide) (Nat.le_of_ble_eq_true rfl) ?_
  refine aw_iconst dX5_splitters_0 ?_
  refine aw_istore_n dX5_splitters_1 (by decide) ?_
  refine aw_iconst dX5_splitters_2 ?_
  refine aw_istore_n dX5_splitters_3 (by decide) ?_
  exact splitters_loop hN hm (fun L hL => by
    refine aw_iload_n dX5_splitters_30 hL ?_
    exact aw_iret rfl dX5_splitters_31 ⟨rfl, _, rfl, rfl, rfl⟩) 5 0 rfl
-- the reference
theorem c_in {v a b : Int} (hv : -2147483648 ≤ v ∧ v ≤ 2147483647) (ha : -2147483648 ≤ a ∧ a ≤ 2147483647) (hb : -2147483648 ≤ b ∧ b ≤ 2147483647) : AC mX6_in d 0 0 n h [aL v, aL a, aL b] (aqi n fun r h' => r = (if a ≤ v ∧ v ≤ b then 1 else 0) ∧ h' = h) := by
  refine AC.of (by decide) (Nat.le_of_ble_eq_true rfl) ?_
  refine aw_lload_n dX6_in_0 rfl ?_
  refine aw_lload_n dX6_in_1 rfl ?_
  -- at 2: .lcmp
  refine aw_lcmp_lt (tgt := 17) dX6_in_2 dX6_in_3 (by omega) (by omega) (by decide) (fun c1 => ?_) (fun c1 => ?_)
  · refine aw_iconst dX6_in_17 ?_
    -- at 18: .ireturn
    exact aw_zret rfl dX6_in_18 (by omega) ⟨rfl, _, rfl, by rw [if_neg (by omega)], rfl⟩
  · refine aw_lload_n dX6_in_6 rfl ?_
    refine aw_lload dX6_in_7 rfl ?_
    -- at 9: .lcmp
    refine aw_lcmp_gt (tgt := 17) dX6_in_9 dX6_in_10 (by omega) (by omega) (by decide) (fun c2 => ?_) (fun c2 => ?_)
    · refine aw_iconst dX6_in_17 ?_
      -- at 18: .ireturn
      exact aw_zret rfl dX6_in_18 (by omega) ⟨rfl, _, rfl, by rw [if_neg (by omega)], rfl⟩
    · refine aw_iconst dX6_in_13 ?_
      refine aw_goto (tgt := 18) dX6_in_14 (by decide) ?_
      -- at 18: .ireturn
      exact aw_zret rfl dX6_in_18 (by omega) ⟨rfl, _, rfl, by rw [if_pos (by omega)], rfl⟩
theorem emod_rng (m k : Int) (hk : 1 ≤ k ∧ k ≤ 100) : -2147483648 ≤ m % k ∧ m % k ≤ 2147483647 := by
  have h1 : 0 ≤ m % k := Int.emod_nonneg _ (by omega)
  have h2 : m % k < k := Int.emod_lt_of_pos _ (by omega)
  omega
theorem c_isHeld {N m : Int} {k : Nat} (hN : 2 ≤ N ∧ N ≤ 7) (hm : 0 ≤ m ∧ m ≤ 50000) (hk : k < 5) : AC mX6_isHeld d 0 0 n h [aI N, aI (k : Int), aI m] (aqi n fun v h' => v = (if hold N m k = true then 1 else 0) ∧ h' = h) := by
  refine AC.of (by decide) (Nat.le_of_ble_eq_true rfl) ?_
  refine aw_iload_n dX6_isHeld_0 rfl ?_
  -- at 1: .tableswitch 93 0 3 #[31, 43, 57, 77]
  have r1 := emod_rng m N (by omega)
  have r2 := emod_rng (m + 1) N (by omega)
  have r3 := emod_rng (m + 2) N (by omega)
  have r4 := emod_rng m 2 (by omega)
  have r5 := emod_rng (m + 1) (N - 1) (by omega)
  have r6 := emod_rng m (N - 1) (by omega)
  have hc : k = 0 ∨ k = 1 ∨ k = 2 ∨ k = 3 ∨ k = 4 := by omega
  rcases hc with rfl | rfl | rfl | rfl | rfl
  · refine aw_tableIn (tgt := 32) dX6_isHeld_1 (by decide) (by decide) (by decide) rfl (by decide) ?_
    refine aw_iload_n dX6_isHeld_32 rfl ?_
    refine aw_iload_n dX6_isHeld_33 rfl ?_
    refine aw_irem dX6_isHeld_34 (by omega) (by omega) ?_
    -- at 35: .ifCond .ne 7
    refine aw_if_ne (tgt := 42) dX6_isHeld_35 r1 (by decide) (fun c1 => ?_) (fun c1 => ?_)
    · refine aw_iconst dX6_isHeld_42 ?_
      -- at 43: .ireturn
      exact aw_zret rfl dX6_isHeld_43 (by omega) ⟨rfl, _, rfl, by simp [hold, c1], rfl⟩
    · refine aw_iconst dX6_isHeld_38 ?_
      refine aw_goto (tgt := 43) dX6_isHeld_39 (by decide) ?_
      -- at 43: .ireturn
      exact aw_zret rfl dX6_isHeld_43 (by omega) ⟨rfl, _, rfl, by simp [hold, Decidable.not_not.mp c1], rfl⟩
  · refine aw_tableIn (tgt := 44) dX6_isHeld_1 (by decide) (by decide) (by decide) rfl (by decide) ?_
    refine aw_iload_n dX6_isHeld_44 rfl ?_
    refine aw_iconst dX6_isHeld_45 ?_
    refine aw_iadd dX6_isHeld_46 ?_
    refine aw_iload_n dX6_isHeld_47 rfl ?_
    refine aw_irem dX6_isHeld_48 (by omega) (by omega) ?_
    -- at 49: .ifCond .ne 7
    refine aw_if_ne (tgt := 56) dX6_isHeld_49 r2 (by decide) (fun c1 => ?_) (fun c1 => ?_)
    · refine aw_iconst dX6_isHeld_56 ?_
      -- at 57: .ireturn
      exact aw_zret rfl dX6_isHeld_57 (by omega) ⟨rfl, _, rfl, by simp [hold, c1], rfl⟩
    · refine aw_iconst dX6_isHeld_52 ?_
      refine aw_goto (tgt := 57) dX6_isHeld_53 (by decide) ?_
      -- at 57: .ireturn
      exact aw_zret rfl dX6_isHeld_57 (by omega) ⟨rfl, _, rfl, by simp [hold, Decidable.not_not.mp c1], rfl⟩
  · refine aw_tableIn (tgt := 58) dX6_isHeld_1 (by decide) (by decide) (by decide) rfl (by decide) ?_
    refine aw_iload_n dX6_isHeld_58 rfl ?_
    refine aw_iconst dX6_isHeld_59 ?_
    refine aw_iadd dX6_isHeld_60 ?_
    refine aw_iload_n dX6_isHeld_61 rfl ?_
    refine aw_irem dX6_isHeld_62 (by omega) (by omega) ?_
    -- at 63: .ifCond .ne 13
    refine aw_if_ne (tgt := 76) dX6_isHeld_63 r3 (by decide) (fun c1 => ?_) (fun c1 => ?_)
    · refine aw_iconst dX6_isHeld_76 ?_
      -- at 77: .ireturn
      exact aw_zret rfl dX6_isHeld_77 (by omega) ⟨rfl, _, rfl, by simp [hold, c1], rfl⟩
    · refine aw_iload_n dX6_isHeld_66 rfl ?_
      refine aw_iconst dX6_isHeld_67 ?_
      refine aw_irem dX6_isHeld_68 (by omega) (by omega) ?_
      -- at 69: .ifCond .ne 7
      refine aw_if_ne (tgt := 76) dX6_isHeld_69 r4 (by decide) (fun c2 => ?_) (fun c2 => ?_)
      · refine aw_iconst dX6_isHeld_76 ?_
        -- at 77: .ireturn
        exact aw_zret rfl dX6_isHeld_77 (by omega) ⟨rfl, _, rfl, by simp [hold, c2], rfl⟩
      · refine aw_iconst dX6_isHeld_72 ?_
        refine aw_goto (tgt := 77) dX6_isHeld_73 (by decide) ?_
        -- at 77: .ireturn
        exact aw_zret rfl dX6_isHeld_77 (by omega) ⟨rfl, _, rfl, by simp [hold, Decidable.not_not.mp c1, Decidable.not_not.mp c2], rfl⟩
  · refine aw_tableIn (tgt := 78) dX6_isHeld_1 (by decide) (by decide) (by decide) rfl (by decide) ?_
    refine aw_iload_n dX6_isHeld_78 rfl ?_
    refine aw_iconst dX6_isHeld_79 ?_
    refine aw_iadd dX6_isHeld_80 ?_
    refine aw_iload_n dX6_isHeld_81 rfl ?_
    refine aw_iconst dX6_isHeld_82 ?_
    refine aw_isub dX6_isHeld_83 ?_
    refine aw_irem dX6_isHeld_84 (by omega) (by omega) ?_
    -- at 85: .ifCond .ne 7
    refine aw_if_ne (tgt := 92) dX6_isHeld_85 r5 (by decide) (fun c1 => ?_) (fun c1 => ?_)
    · refine aw_iconst dX6_isHeld_92 ?_
      -- at 93: .ireturn
      exact aw_zret rfl dX6_isHeld_93 (by omega) ⟨rfl, _, rfl, by simp [hold, c1], rfl⟩
    · refine aw_iconst dX6_isHeld_88 ?_
      refine aw_goto (tgt := 93) dX6_isHeld_89 (by decide) ?_
      -- at 93: .ireturn
      exact aw_zret rfl dX6_isHeld_93 (by omega) ⟨rfl, _, rfl, by simp [hold, Decidable.not_not.mp c1], rfl⟩
  · refine aw_tableOut (tgt := 94) dX6_isHeld_1 (by decide) (by decide) (by decide) ?_
    refine aw_iload_n dX6_isHeld_94 rfl ?_
    refine aw_iload_n dX6_isHeld_95 rfl ?_
    refine aw_iconst dX6_isHeld_96 ?_
    refine aw_isub dX6_isHeld_97 ?_
    refine aw_irem dX6_isHeld_98 (by omega) (by omega) ?_
    -- at 99: .ifCond .ne 7
    refine aw_if_ne (tgt := 106) dX6_isHeld_99 r6 (by decide) (fun c1 => ?_) (fun c1 => ?_)
    · refine aw_iconst dX6_isHeld_106 ?_
      -- at 107: .ireturn
      exact aw_zret rfl dX6_isHeld_107 (by omega) ⟨rfl, _, rfl, by simp [hold, c1], rfl⟩
    · refine aw_iconst dX6_isHeld_102 ?_
      refine aw_goto (tgt := 107) dX6_isHeld_103 (by decide) ?_
      -- at 107: .ireturn
      exact aw_zret rfl dX6_isHeld_107 (by omega) ⟨rfl, _, rfl, by simp [hold, Decidable.not_not.mp c1], rfl⟩
theorem held_loop {N m : Int} {Z : AZ} (hN : 2 ≤ N ∧ N ≤ 7) (hm : 0 ≤ m ∧ m ≤ 50000) (kk : ∀ L, lk L 2 = some (aI (held N m : Int)) → AW mX6_held (am_R (d + 1) 0 0) Z 0 0 n h 34 L []) :
    ∀ (e k : Nat), e + k = 5 → AW mX6_held (am_R (d + 1) 0 0) Z 0 0 n h 4 [some (aI N), some (aI m), some (aI (hb N m k : Int)), some (aI (k : Int))] [] := by
  intro e
  induction e with
  | zero =>
    intro k hk
    have : k = 5 := by omega
    subst this
    refine aw_iload_n dX6_held_4 rfl ?_
    refine aw_iconst dX6_held_5 ?_
    -- at 6: .if_icmp .ge 28
    refine aw_icmp_ge (tgt := 34) dX6_held_6 (by omega) (by omega) (by decide) (fun c1 => ?_) (fun c1 => ?_)
    · exact kk _ rfl
    · omega
  | succ e ih =>
    intro k hk
    have K := ih (k + 1) (by omega)
    refine aw_iload_n dX6_held_4 rfl ?_
    refine aw_iconst dX6_held_5 ?_
    -- at 6: .if_icmp .ge 28
    refine aw_icmp_ge (tgt := 34) dX6_held_6 (by omega) (by omega) (by decide) (fun c1 => ?_) (fun c1 => ?_)
    · omega
    · refine aw_iload_n dX6_held_9 rfl ?_
      refine aw_iload_n dX6_held_10 rfl ?_
      refine aw_iload_n dX6_held_11 rfl ?_
      refine aw_iload_n dX6_held_12 rfl ?_
      -- at 13: .invokestatic 189
      refine aw_Si3 kc_X6_189 (c_isHeld (d := d) (k := k) hN hm (by omega)) rfl (by omega) (Nat.le_of_ble_eq_true rfl) dX6_held_13 (fun v h' q => ?_)
      obtain ⟨rfl, rfl⟩ := q
      have e1 : ((k + 1 : Nat) : Int) = (k : Int) + 1 := by omega
      rw [e1] at K
      have hlt := hb_lt N m k
      have hp : 2 ^ k ≤ 16 := Nat.pow_le_pow_right (n := 2) (by decide) (by omega : k ≤ 4)
      refine aw_flag_eq (tgt := 25) dX6_held_16 (by decide) (fun c2 => ?_) (fun c2 => ?_)
      · refine aw_iconst dX6_held_25 ?_
        refine aw_ior dX6_held_26 ?_
        refine aw_val (w := aI (hb N m (k + 1) : Int)) (by rw [or0 (by omega)]; simp [hb, c2]) ?_
        refine aw_istore_n dX6_held_27 (by decide) ?_
        refine aw_iinc dX6_held_28 rfl (by decide) ?_
        refine aw_goto (tgt := 4) dX6_held_31 (by decide) ?_
        exact K
      · refine aw_iconst dX6_held_19 ?_
        refine aw_iload_n dX6_held_20 rfl ?_
        refine aw_ishl dX6_held_21 ?_
        refine aw_val (w := aI ((2 ^ k : Nat) : Int)) (by rw [shl5 (by omega)]) ?_
        refine aw_goto (tgt := 26) dX6_held_22 (by decide) ?_
        refine aw_ior dX6_held_26 ?_
        refine aw_val (w := aI (hb N m (k + 1) : Int)) (by rw [or32 (by omega) hlt]; simp [hb, c2]) ?_
        refine aw_istore_n dX6_held_27 (by decide) ?_
        refine aw_iinc dX6_held_28 rfl (by decide) ?_
        refine aw_goto (tgt := 4) dX6_held_31 (by decide) ?_
        exact K
theorem c_held {N m : Int} (hN : 2 ≤ N ∧ N ≤ 7) (hm : 0 ≤ m ∧ m ≤ 50000) : AC mX6_held (d + 1) 0 0 n h [aI N, aI m] (aqi n fun v h' => v = (held N m : Int) ∧ h' = h) := by
  refine AC.of (by decide) (Nat.le_of_ble_eq_true rfl) ?_
  refine aw_iconst dX6_held_0 ?_
  refine aw_istore_n dX6_held_1 (by decide) ?_
  refine aw_iconst dX6_held_2 ?_
  refine aw_istore_n dX6_held_3 (by decide) ?_
  exact held_loop hN hm (fun L hL => by
    refine aw_iload_n dX6_held_34 hL ?_
    exact aw_iret rfl dX6_held_35 ⟨rfl, _, rfl, rfl, rfl⟩) 5 0 rfl
end Bits
