/-! holds, covered, open, the best question: both sides -/
def holdsS (N k m : Int) : Int := if (2 ≤ N ∧ N ≤ 7) ∧ (0 ≤ k ∧ k ≤ 4) ∧ (1 ≤ m ∧ m ≤ 999) then (if hold N m k.toNat = true then 1 else 0) else -1
def coveredS (N m on : Int) : Int := if (2 ≤ N ∧ N ≤ 7) ∧ (1 ≤ m ∧ m ≤ 24) ∧ (0 ≤ on ∧ on ≤ 31) then (covS N m on.toNat m.toNat : Int) else -1
def openS (N on : Int) : Int := if (2 ≤ N ∧ N ≤ 7) ∧ (0 ≤ on ∧ on ≤ 31) then opnS N on.toNat 999 1 else -1
theorem shr5a : (List.range 32).all (fun s => (List.range 5).all (fun k => decide ((iI (iI (s : Nat) >>> (iI (k : Nat) &&& 31)).toInt &&& iI 1).toInt = if Nat.testBit s k then 1 else 0))) = true := by decide +kernel
theorem shr5 {s k : Nat} (hs : s < 32) (hk : k < 5) : (iI (iI (s : Nat) >>> (iI (k : Nat) &&& 31)).toInt &&& iI 1).toInt = if Nat.testBit s k then 1 else 0 := of_decide_eq_true (List.all_eq_true.mp (List.all_eq_true.mp shr5a s (List.mem_range.mpr hs)) k (List.mem_range.mpr hk))
section Cover
variable {d n : Nat} {h : AH}
theorem c5_holds {x : Nat} {N k m : Int} (hN : -2147483648 ≤ N ∧ N ≤ 2147483647) (hk : -2147483648 ≤ k ∧ k ≤ 2147483647) (hm : -2147483648 ≤ m ∧ m ≤ 2147483647) : AC mX5_holds (d + 10) 0 0 n h [aR x, aI N, aI k, aI m] (aqi n fun v h' => v = holdsS N k m ∧ h' = h) := by
  refine AC.of (by decide) (Nat.le_of_ble_eq_true rfl) ?_
  refine aw_iload_n dX5_holds_0 rfl ?_
  -- at 1: .invokestatic 150
  refine aw_Si1 kc_X5_150 (c_isNumerator (d := d) hN) rfl (by omega) (Nat.le_of_ble_eq_true rfl) dX5_holds_1 (fun v h' q => ?_)
  obtain ⟨rfl, rfl⟩ := q
  refine aw_flag_eq (tgt := 28) dX5_holds_4 (by decide) (fun c1 => ?_) (fun c1 => ?_)
  · refine aw_iconst dX5_holds_28 ?_
    -- at 29: .ireturn
    exact aw_iret rfl dX5_holds_29 ⟨rfl, _, rfl, by rw [holdsS, if_neg (by omega)], rfl⟩
  · refine aw_iload_n dX5_holds_7 rfl ?_
    -- at 8: .ifCond .lt 20
    refine aw_if_lt (tgt := 28) dX5_holds_8 (by omega) (by decide) (fun c2 => ?_) (fun c2 => ?_)
    · refine aw_iconst dX5_holds_28 ?_
      -- at 29: .ireturn
      exact aw_iret rfl dX5_holds_29 ⟨rfl, _, rfl, by rw [holdsS, if_neg (by omega)], rfl⟩
    · refine aw_iload_n dX5_holds_11 rfl ?_
      refine aw_iconst dX5_holds_12 ?_
      -- at 13: .if_icmp .ge 15
      refine aw_icmp_ge (tgt := 28) dX5_holds_13 (by omega) (by omega) (by decide) (fun c3 => ?_) (fun c3 => ?_)
      · refine aw_iconst dX5_holds_28 ?_
        -- at 29: .ireturn
        exact aw_iret rfl dX5_holds_29 ⟨rfl, _, rfl, by rw [holdsS, if_neg (by omega)], rfl⟩
      · refine aw_iload_n dX5_holds_16 rfl ?_
        refine aw_iconst dX5_holds_17 ?_
        -- at 18: .if_icmp .lt 10
        refine aw_icmp_lt (tgt := 28) dX5_holds_18 (by omega) (by omega) (by decide) (fun c4 => ?_) (fun c4 => ?_)
        · refine aw_iconst dX5_holds_28 ?_
          -- at 29: .ireturn
          exact aw_iret rfl dX5_holds_29 ⟨rfl, _, rfl, by rw [holdsS, if_neg (by omega)], rfl⟩
        · refine aw_iload_n dX5_holds_21 rfl ?_
          refine aw_sipush dX5_holds_22 (by decide) ?_
          -- at 25: .if_icmp .le 5
          refine aw_icmp_le (tgt := 30) dX5_holds_25 (by omega) (by omega) (by decide) (fun c5 => ?_) (fun c5 => ?_)
          · refine aw_iload_n dX5_holds_30 rfl ?_
            refine aw_iload_n dX5_holds_31 rfl ?_
            refine aw_iload_n dX5_holds_32 rfl ?_
            -- at 33: .invokestatic 153
            have ek : k = ((k.toNat : Nat) : Int) := by omega
            rw [ek]
            refine aw_Si3 kc_X5_153 (c_isSplit (d := d) (k := k.toNat) c1 (by omega) (by omega)) rfl (by omega) (Nat.le_of_ble_eq_true rfl) dX5_holds_33 (fun v h' q => ?_)
            obtain ⟨rfl, rfl⟩ := q
            rw [← ek]
            refine aw_flag_eq (tgt := 43) dX5_holds_36 (by decide) (fun c6 => ?_) (fun c6 => ?_)
            · refine aw_iconst dX5_holds_43 ?_
              -- at 44: .ireturn
              exact aw_iret rfl dX5_holds_44 ⟨rfl, _, rfl, by rw [holdsS, if_pos (by omega), if_neg c6], rfl⟩
            · refine aw_iconst dX5_holds_39 ?_
              refine aw_goto (tgt := 44) dX5_holds_40 (by decide) ?_
              -- at 44: .ireturn
              exact aw_iret rfl dX5_holds_44 ⟨rfl, _, rfl, by rw [holdsS, if_pos (by omega), if_pos c6], rfl⟩
          · refine aw_iconst dX5_holds_28 ?_
            -- at 29: .ireturn
            exact aw_iret rfl dX5_holds_29 ⟨rfl, _, rfl, by rw [holdsS, if_neg (by omega)], rfl⟩
theorem c6_holds {x : Nat} {N k m : Int} (hN : -2147483648 ≤ N ∧ N ≤ 2147483647) (hk : -2147483648 ≤ k ∧ k ≤ 2147483647) (hm : -2147483648 ≤ m ∧ m ≤ 2147483647) : AC mX6_holds (d + 10) 0 0 n h [aR x, aI N, aI k, aI m] (aqi n fun v h' => v = holdsS N k m ∧ h' = h) := by
  refine AC.of (by decide) (Nat.le_of_ble_eq_true rfl) ?_
  refine aw_iload_n dX6_holds_0 rfl ?_
  refine aw_i2l dX6_holds_1 (by omega) ?_
  refine aw_ldc2 kl_X6_126 dX6_holds_2 ?_
  refine aw_ldc2 kl_X6_193 dX6_holds_5 ?_
  -- at 8: .invokestatic 66
  refine aw_Si3 kc_X6_66 (c_in (d := d) hN (by decide) (by decide)) rfl (by omega) (Nat.le_of_ble_eq_true rfl) dX6_holds_8 (fun v h' q => ?_)
  obtain ⟨rfl, rfl⟩ := q
  refine aw_flag_eq (tgt := 38) dX6_holds_11 (by decide) (fun c1 => ?_) (fun c1 => ?_)
  · refine aw_iconst dX6_holds_38 ?_
    refine aw_goto (tgt := 51) dX6_holds_39 (by decide) ?_
    -- at 51: .ireturn
    exact aw_iret rfl dX6_holds_51 ⟨rfl, _, rfl, by rw [holdsS, if_neg (by omega)], rfl⟩
  · refine aw_iload_n dX6_holds_14 rfl ?_
    refine aw_i2l dX6_holds_15 (by omega) ?_
    refine aw_lconst (a := 0) dX6_holds_16 (by decide) ?_
    refine aw_ldc2 kl_X6_168 dX6_holds_17 ?_
    -- at 20: .invokestatic 66
    refine aw_Si3 kc_X6_66 (c_in (d := d) hk (by decide) (by decide)) rfl (by omega) (Nat.le_of_ble_eq_true rfl) dX6_holds_20 (fun v h' q => ?_)
    obtain ⟨rfl, rfl⟩ := q
    refine aw_flag_eq (tgt := 38) dX6_holds_23 (by decide) (fun c2 => ?_) (fun c2 => ?_)
    · refine aw_iconst dX6_holds_38 ?_
      refine aw_goto (tgt := 51) dX6_holds_39 (by decide) ?_
      -- at 51: .ireturn
      exact aw_iret rfl dX6_holds_51 ⟨rfl, _, rfl, by rw [holdsS, if_neg (by omega)], rfl⟩
    · refine aw_iload_n dX6_holds_26 rfl ?_
      refine aw_i2l dX6_holds_27 (by omega) ?_
      refine aw_lconst (a := 1) dX6_holds_28 (by decide) ?_
      refine aw_ldc2 kl_X6_195 dX6_holds_29 ?_
      -- at 32: .invokestatic 66
      refine aw_Si3 kc_X6_66 (c_in (d := d) hm (by decide) (by decide)) rfl (by omega) (Nat.le_of_ble_eq_true rfl) dX6_holds_32 (fun v h' q => ?_)
      obtain ⟨rfl, rfl⟩ := q
      refine aw_flag_ne (tgt := 42) dX6_holds_35 (by decide) (fun c3 => ?_) (fun c3 => ?_)
      · refine aw_iload_n dX6_holds_42 rfl ?_
        refine aw_iload_n dX6_holds_43 rfl ?_
        -- at 44: .invokestatic 197
        refine aw_Si2 kc_X6_197 (c_held (d := d) c1 (by omega)) rfl (by omega) (Nat.le_of_ble_eq_true rfl) dX6_holds_44 (fun v h' q => ?_)
        obtain ⟨rfl, rfl⟩ := q
        refine aw_iload_n dX6_holds_47 rfl ?_
        refine aw_ishr dX6_holds_48 ?_
        refine aw_iconst dX6_holds_49 ?_
        refine aw_iand dX6_holds_50 ?_
        -- at 51: .ireturn
        obtain ⟨kn, rfl⟩ : ∃ kn : Nat, k = (kn : Int) := ⟨k.toNat, by omega⟩
        refine aw_val (w := aI (if hold N m kn = true then 1 else 0)) ?_ ?_
        · rw [shr5 (held_lt N m) (by omega), held_bit N m (by omega)]
        · exact aw_iret rfl dX6_holds_51 ⟨rfl, _, rfl, (if_pos (by omega) : holdsS N (kn : Int) m = _).symm, rfl⟩
      · refine aw_iconst dX6_holds_38 ?_
        refine aw_goto (tgt := 51) dX6_holds_39 (by decide) ?_
        -- at 51: .ireturn
        exact aw_iret rfl dX6_holds_51 ⟨rfl, _, rfl, by rw [holdsS, if_neg (by omega)], rfl⟩
theorem mul_rng {m k : Int} (hm : 1 ≤ m ∧ m ≤ 24) (hk : 0 ≤ k ∧ k ≤ 100) : 0 ≤ m * k ∧ m * k ≤ 2400 := by
  have h1 : 0 ≤ m * k := Int.mul_nonneg (by omega) hk.1
  have h2 : m * k ≤ 24 * 100 := Int.mul_le_mul hm.2 hk.2 hk.1 (by omega)
  omega
theorem isCov_loop {N m r : Int} {on : Int} {Z : AZ} (hN : 2 ≤ N ∧ N ≤ 7) (hm : 1 ≤ m ∧ m ≤ 24) (hr : 0 ≤ r ∧ r < m)
    (kk : ∀ (w : Nat) L, w < 32 → lk L 5 = some (aI (w : Int)) → (w ≠ 0 ↔ andm N m r 1 (2 * N).toNat on.toNat ≠ 0) → AW mX5_isCovered (am_R (d + 3) 0 0) Z 0 0 n h 44 L []) :
    ∀ (e k w : Nat), e + k = (2 * N).toNat + 1 → 1 ≤ k → w < 32 → (andm N m r k e w = andm N m r 1 (2 * N).toNat on.toNat) → AW mX5_isCovered (am_R (d + 3) 0 0) Z 0 0 n h 11 [some (aI N), some (aI m), some (aI r), some (aI on), some (aI (2 * N)), some (aI (w : Int)), some (aI (k : Int))] [] := by
  intro e
  induction e with
  | zero =>
    intro k w hk h1 hw hq
    refine aw_iload dX5_isCovered_11 rfl ?_
    refine aw_iload dX5_isCovered_13 rfl ?_
    -- at 15: .if_icmp .gt 29
    refine aw_icmp_gt (tgt := 44) dX5_isCovered_15 (by omega) (by omega) (by decide) (fun c1 => ?_) (fun c1 => ?_)
    · exact kk w _ hw rfl (by rw [← hq]; rfl)
    · omega
  | succ e ih =>
    intro k w hk h1 hw hq
    refine aw_iload dX5_isCovered_11 rfl ?_
    refine aw_iload dX5_isCovered_13 rfl ?_
    -- at 15: .if_icmp .gt 29
    refine aw_icmp_gt (tgt := 44) dX5_isCovered_15 (by omega) (by omega) (by decide) (fun c1 => ?_) (fun c1 => ?_)
    · omega
    · refine aw_iload dX5_isCovered_18 rfl ?_
      -- at 20: .ifCond .eq 24
      refine aw_if_eq (tgt := 44) dX5_isCovered_20 (by omega) (by decide) (fun c2 => ?_) (fun c2 => ?_)
      · have hw0 : w = 0 := by omega
        subst hw0
        refine kk 0 _ (by omega) rfl ?_
        rw [← hq, andm_0]
      · have hmul := mul_rng hm (k := k) (by omega)
        refine aw_iload dX5_isCovered_23 rfl ?_
        refine aw_iload_n dX5_isCovered_25 rfl ?_
        refine aw_iload_n dX5_isCovered_26 rfl ?_
        refine aw_iload_n dX5_isCovered_27 rfl ?_
        refine aw_iload dX5_isCovered_28 rfl ?_
        refine aw_imul dX5_isCovered_30 ?_
        refine aw_iadd dX5_isCovered_31 ?_
        -- at 32: .invokestatic 164
        refine aw_Si2 kc_X5_164 (c_splitters (d := d) hN (by omega)) rfl (by omega) (Nat.le_of_ble_eq_true rfl) dX5_isCovered_32 (fun v h' q => ?_)
        obtain ⟨rfl, rfl⟩ := q
        refine aw_iand dX5_isCovered_35 ?_
        have e0 : r + m * (k : Int) = r + (k : Int) * m := by rw [Int.mul_comm]
        have hl := held_lt N (r + (k : Int) * m)
        refine aw_val (w := aI ((w &&& held N (r + (k : Int) * m) : Nat) : Int)) (by rw [e0, and32 hw hl]) ?_
        refine aw_istore dX5_isCovered_36 (by decide) ?_
        refine aw_iinc dX5_isCovered_38 rfl (by decide) ?_
        refine aw_goto (tgt := 11) dX5_isCovered_41 (by decide) ?_
        have K := ih (k + 1) (w &&& held N (r + (k : Int) * m)) (by omega) (by omega) (and_lt32 hw) hq
        rw [show ((k + 1 : Nat) : Int) = (k : Int) + 1 by omega] at K
        exact K
theorem c_isCovered {N m r on : Int} (hN : 2 ≤ N ∧ N ≤ 7) (hm : 1 ≤ m ∧ m ≤ 24) (hr : 0 ≤ r ∧ r < m) (ho : 0 ≤ on ∧ on ≤ 31) : AC mX5_isCovered (d + 3) 0 0 n h [aI N, aI m, aI r, aI on] (aqi n fun v h' => v = (if andm N m r 1 (2 * N).toNat on.toNat ≠ 0 then 1 else 0) ∧ h' = h) := by
  refine AC.of (by decide) (Nat.le_of_ble_eq_true rfl) ?_
  refine aw_iconst dX5_isCovered_0 ?_
  refine aw_iload_n dX5_isCovered_1 rfl ?_
  refine aw_imul dX5_isCovered_2 ?_
  refine aw_istore dX5_isCovered_3 (by decide) ?_
  refine aw_iload_n dX5_isCovered_5 rfl ?_
  refine aw_istore dX5_isCovered_6 (by decide) ?_
  refine aw_iconst dX5_isCovered_8 ?_
  refine aw_istore dX5_isCovered_9 (by decide) ?_
  have K := isCov_loop (d := d) (n := n) (h := h) (on := on) (Z := am_Z (aqi n fun v h' => v = (if andm N m r 1 (2 * N).toNat on.toNat ≠ 0 then 1 else 0) ∧ h' = h) 0 0) hN hm hr (fun w L hw hL hq => by
    refine aw_iload dX5_isCovered_44 hL ?_
    refine aw_if_eq (tgt := 53) dX5_isCovered_46 (by omega) (by decide) (fun c1 => ?_) (fun c1 => ?_)
    · refine aw_iconst dX5_isCovered_53 ?_
      -- at 54: .ireturn
      exact aw_zret rfl dX5_isCovered_54 (by omega) ⟨rfl, _, rfl, by rw [if_neg (fun z => (hq.mpr z) (by omega))], rfl⟩
    · refine aw_iconst dX5_isCovered_49 ?_
      refine aw_goto (tgt := 54) dX5_isCovered_50 (by decide) ?_
      -- at 54: .ireturn
      exact aw_zret rfl dX5_isCovered_54 (by omega) ⟨rfl, _, rfl, by rw [if_pos (hq.mp (by omega))], rfl⟩) (2 * N).toNat 1 on.toNat (by omega) (by omega) (by omega) rfl
  rw [show ((on.toNat : Nat) : Int) = on by omega] at K
  exact K
theorem cov_loop {x : Nat} {N m on : Int} {Z : AZ} (hN : 2 ≤ N ∧ N ≤ 7) (hm : 1 ≤ m ∧ m ≤ 24) (ho : 0 ≤ on ∧ on ≤ 31)
    (kk : ∀ L, lk L 4 = some (aI (covS N m on.toNat m.toNat : Int)) → AW mX5_covered (am_R (d + 10) 0 0) Z 0 0 n h 65 L []) :
    ∀ (e r : Nat), e + r = m.toNat → AW mX5_covered (am_R (d + 10) 0 0) Z 0 0 n h 33 [some (aR x), some (aI N), some (aI m), some (aI on), some (aI (covS N m on.toNat r : Int)), some (aI (r : Int))] [] := by
  intro e
  induction e with
  | zero =>
    intro r hr
    have : r = m.toNat := by omega
    refine aw_iload dX5_covered_33 rfl ?_
    refine aw_iload_n dX5_covered_35 rfl ?_
    -- at 36: .if_icmp .ge 29
    refine aw_icmp_ge (tgt := 65) dX5_covered_36 (by omega) (by omega) (by decide) (fun c1 => ?_) (fun c1 => ?_)
    · exact kk _ (by rw [← this]; rfl)
    · omega
  | succ e ih =>
    intro r hr
    have K := ih (r + 1) (by omega)
    rw [show ((r + 1 : Nat) : Int) = (r : Int) + 1 by omega] at K
    refine aw_iload dX5_covered_33 rfl ?_
    refine aw_iload_n dX5_covered_35 rfl ?_
    -- at 36: .if_icmp .ge 29
    refine aw_icmp_ge (tgt := 65) dX5_covered_36 (by omega) (by omega) (by decide) (fun c1 => ?_) (fun c1 => ?_)
    · omega
    · refine aw_iload_n dX5_covered_39 rfl ?_
      refine aw_iload_n dX5_covered_40 rfl ?_
      refine aw_iload dX5_covered_41 rfl ?_
      refine aw_iload_n dX5_covered_43 rfl ?_
      -- at 44: .invokestatic 160
      refine aw_Si4 kc_X5_160 (c_isCovered (d := d) hN hm (r := r) (by omega) ho) rfl (by omega) (Nat.le_of_ble_eq_true rfl) dX5_covered_44 (fun v h' q => ?_)
      obtain ⟨rfl, rfl⟩ := q
      have hlt := covS_lt N m on.toNat r
      refine aw_flag_eq (tgt := 59) dX5_covered_47 (by decide) (fun c2 => ?_) (fun c2 => ?_)
      · refine aw_iinc dX5_covered_59 rfl (by decide) ?_
        refine aw_goto (tgt := 33) dX5_covered_62 (by decide) ?_
        have e2 : covS N m on.toNat (r + 1) = covS N m on.toNat r := by rw [covS, if_neg c2]; rfl
        rw [e2] at K
        exact K
      · refine aw_iload dX5_covered_50 rfl ?_
        refine aw_iconst dX5_covered_52 ?_
        refine aw_iload dX5_covered_53 rfl ?_
        refine aw_ishl dX5_covered_55 ?_
        refine aw_val (w := aI ((2 ^ r : Nat) : Int)) (by rw [shl5 (by omega)]) ?_
        refine aw_ior dX5_covered_56 ?_
        refine aw_val (w := aI (covS N m on.toNat (r + 1) : Int)) (by rw [or_pow (by omega) hlt, covS, if_pos c2]) ?_
        refine aw_istore dX5_covered_57 (by decide) ?_
        refine aw_iinc dX5_covered_59 rfl (by decide) ?_
        refine aw_goto (tgt := 33) dX5_covered_62 (by decide) ?_
        exact K
theorem c5_covered {x : Nat} {N m on : Int} (hN : -2147483648 ≤ N ∧ N ≤ 2147483647) (hm : -2147483648 ≤ m ∧ m ≤ 2147483647) (ho : -2147483648 ≤ on ∧ on ≤ 2147483647) : AC mX5_covered (d + 10) 0 0 n h [aR x, aI N, aI m, aI on] (aqi n fun v h' => v = coveredS N m on ∧ h' = h) := by
  refine AC.of (by decide) (Nat.le_of_ble_eq_true rfl) ?_
  refine aw_iload_n dX5_covered_0 rfl ?_
  -- at 1: .invokestatic 150
  refine aw_Si1 kc_X5_150 (c_isNumerator (d := d) hN) rfl (by omega) (Nat.le_of_ble_eq_true rfl) dX5_covered_1 (fun v h' q => ?_)
  obtain ⟨rfl, rfl⟩ := q
  refine aw_flag_eq (tgt := 25) dX5_covered_4 (by decide) (fun c1 => ?_) (fun c1 => ?_)
  · refine aw_iconst dX5_covered_25 ?_
    -- at 26: .ireturn
    exact aw_iret rfl dX5_covered_26 ⟨rfl, _, rfl, by rw [coveredS, if_neg (by omega)], rfl⟩
  · refine aw_iload_n dX5_covered_7 rfl ?_
    refine aw_iconst dX5_covered_8 ?_
    -- at 9: .if_icmp .lt 16
    refine aw_icmp_lt (tgt := 25) dX5_covered_9 (by omega) (by omega) (by decide) (fun c2 => ?_) (fun c2 => ?_)
    · refine aw_iconst dX5_covered_25 ?_
      -- at 26: .ireturn
      exact aw_iret rfl dX5_covered_26 ⟨rfl, _, rfl, by rw [coveredS, if_neg (by omega)], rfl⟩
    · refine aw_iload_n dX5_covered_12 rfl ?_
      refine aw_bipush dX5_covered_13 (by decide) ?_
      -- at 15: .if_icmp .gt 10
      refine aw_icmp_gt (tgt := 25) dX5_covered_15 (by omega) (by omega) (by decide) (fun c3 => ?_) (fun c3 => ?_)
      · refine aw_iconst dX5_covered_25 ?_
        -- at 26: .ireturn
        exact aw_iret rfl dX5_covered_26 ⟨rfl, _, rfl, by rw [coveredS, if_neg (by omega)], rfl⟩
      · refine aw_iload_n dX5_covered_18 rfl ?_
        -- at 19: .invokestatic 157
        refine aw_Si1 kc_X5_157 (c_isChoice (d := d) ho) rfl (by omega) (Nat.le_of_ble_eq_true rfl) dX5_covered_19 (fun v h' q => ?_)
        obtain ⟨rfl, rfl⟩ := q
        refine aw_flag_ne (tgt := 27) dX5_covered_22 (by decide) (fun c4 => ?_) (fun c4 => ?_)
        · refine aw_iconst dX5_covered_27 ?_
          refine aw_istore dX5_covered_28 (by decide) ?_
          refine aw_iconst dX5_covered_30 ?_
          refine aw_istore dX5_covered_31 (by decide) ?_
          exact cov_loop c1 (by omega) c4 (fun L hL => by
            refine aw_iload dX5_covered_65 hL ?_
            exact aw_iret rfl dX5_covered_67 ⟨rfl, _, rfl, by rw [coveredS, if_pos (by omega)], rfl⟩) m.toNat 0 (by omega)
        · refine aw_iconst dX5_covered_25 ?_
          -- at 26: .ireturn
          exact aw_iret rfl dX5_covered_26 ⟨rfl, _, rfl, by rw [coveredS, if_neg (by omega)], rfl⟩
theorem cov6_in {x : Nat} {N m on : Int} {r : Nat} {acc : Int} {Z : AZ} (hN : 2 ≤ N ∧ N ≤ 7) (hm : 1 ≤ m ∧ m ≤ 24) (hr : (r : Int) < m)
    (kk : ∀ (w : Nat) L7, w < 32 → w = andm N m r 1 (2 * N).toNat on.toNat → AW mX6_covered (am_R (d + 10) 0 0) Z 0 0 n h 96 [some (aR x), some (aI N), some (aI m), some (aI on), some (aI acc), some (aI (r : Int)), some (aI (w : Int)), L7] []) :
    ∀ (e k w : Nat), e + k = 85 → w < 32 → (andm N m r k e w = andm N m r 1 (2 * N).toNat on.toNat) → AW mX6_covered (am_R (d + 10) 0 0) Z 0 0 n h 67 [some (aR x), some (aI N), some (aI m), some (aI on), some (aI acc), some (aI (r : Int)), some (aI (w : Int)), some (aI (k : Int))] [] := by
  intro e
  induction e with
  | zero =>
    intro k w hk hw hq
    refine aw_iload dX6_covered_67 rfl ?_
    refine aw_bipush dX6_covered_69 (by decide) ?_
    -- at 71: .if_icmp .ge 25
    refine aw_icmp_ge (tgt := 96) dX6_covered_71 (by omega) (by omega) (by decide) (fun c1 => ?_) (fun c1 => ?_)
    · exact kk w _ hw hq
    · omega
  | succ e ih =>
    intro k w hk hw hq
    refine aw_iload dX6_covered_67 rfl ?_
    refine aw_bipush dX6_covered_69 (by decide) ?_
    -- at 71: .if_icmp .ge 25
    refine aw_icmp_ge (tgt := 96) dX6_covered_71 (by omega) (by omega) (by decide) (fun c1 => ?_) (fun c1 => ?_)
    · omega
    · have hmul := mul_rng hm (k := k) (by omega)
      rw [Int.mul_comm] at hmul
      refine aw_iload dX6_covered_74 rfl ?_
      refine aw_iload_n dX6_covered_76 rfl ?_
      refine aw_iload dX6_covered_77 rfl ?_
      refine aw_iload dX6_covered_79 rfl ?_
      refine aw_iload_n dX6_covered_81 rfl ?_
      refine aw_imul dX6_covered_82 ?_
      refine aw_iadd dX6_covered_83 ?_
      -- at 84: .invokestatic 197
      refine aw_Si2 kc_X6_197 (c_held (d := d) hN (by omega)) rfl (by omega) (Nat.le_of_ble_eq_true rfl) dX6_covered_84 (fun v h' q => ?_)
      obtain ⟨rfl, rfl⟩ := q
      refine aw_iand dX6_covered_87 ?_
      have hl := held_lt N ((r : Int) + (k : Int) * m)
      refine aw_val (w := aI ((w &&& held N ((r : Int) + (k : Int) * m) : Nat) : Int)) (by rw [and32 hw hl]) ?_
      refine aw_istore dX6_covered_88 (by decide) ?_
      refine aw_iinc dX6_covered_90 rfl (by decide) ?_
      refine aw_goto (tgt := 67) dX6_covered_93 (by decide) ?_
      have K := ih (k + 1) (w &&& held N ((r : Int) + (k : Int) * m)) (by omega) (and_lt32 hw) hq
      rw [show ((k + 1 : Nat) : Int) = (k : Int) + 1 by omega] at K
      exact K
theorem cov6_loop {x : Nat} {N m on : Int} {Z : AZ} (hN : 2 ≤ N ∧ N ≤ 7) (hm : 1 ≤ m ∧ m ≤ 24) (ho : 0 ≤ on ∧ on ≤ 31)
    (kk : ∀ L, lk L 4 = some (aI (covS N m on.toNat m.toNat : Int)) → AW mX6_covered (am_R (d + 10) 0 0) Z 0 0 n h 120 L []) :
    ∀ (e r : Nat) (L6 L7 : Option AV), e + r = m.toNat → AW mX6_covered (am_R (d + 10) 0 0) Z 0 0 n h 46 [some (aR x), some (aI N), some (aI m), some (aI on), some (aI (covS N m on.toNat r : Int)), some (aI (r : Int)), L6, L7] [] := by
  intro e
  induction e with
  | zero =>
    intro r L6 L7 hr
    have : r = m.toNat := by omega
    refine aw_iload dX6_covered_46 rfl ?_
    refine aw_iload_n dX6_covered_48 rfl ?_
    -- at 49: .if_icmp .ge 71
    refine aw_icmp_ge (tgt := 120) dX6_covered_49 (by omega) (by omega) (by decide) (fun c1 => ?_) (fun c1 => ?_)
    · exact kk _ (by rw [← this]; rfl)
    · omega
  | succ e ih =>
    intro r L6 L7 hr
    have hlt := covS_lt N m on.toNat r
    have hp : 2 ^ r ≤ 2 ^ 24 := Nat.pow_le_pow_right (by decide) (by omega)
    have hp2 : (2 : Nat) ^ 24 = 16777216 := by decide
    refine aw_iload dX6_covered_46 rfl ?_
    refine aw_iload_n dX6_covered_48 rfl ?_
    -- at 49: .if_icmp .ge 71
    refine aw_icmp_ge (tgt := 120) dX6_covered_49 (by omega) (by omega) (by decide) (fun c1 => ?_) (fun c1 => ?_)
    · omega
    · have fin : ∀ (w : Nat) L7, w < 32 → w = andm N m r 1 (2 * N).toNat on.toNat → AW mX6_covered (am_R (d + 10) 0 0) Z 0 0 n h 96 [some (aR x), some (aI N), some (aI m), some (aI on), some (aI (covS N m on.toNat r : Int)), some (aI (r : Int)), some (aI (w : Int)), L7] [] := by
        intro w L7 hw hq
        have K := ih (r + 1) (some (aI (w : Int))) L7 (by omega)
        rw [show ((r + 1 : Nat) : Int) = (r : Int) + 1 by omega] at K
        refine aw_iload dX6_covered_96 rfl ?_
        refine aw_iload dX6_covered_98 rfl ?_
        -- at 100: .ifCond .eq 10
        refine aw_if_eq (tgt := 110) dX6_covered_100 (by omega) (by decide) (fun c2 => ?_) (fun c2 => ?_)
        · refine aw_iconst dX6_covered_110 ?_
          refine aw_ior dX6_covered_111 ?_
          refine aw_val (w := aI (covS N m on.toNat (r + 1) : Int)) (by rw [or0 (by omega), covS, if_neg (by rw [← hq]; omega)]; rfl) ?_
          refine aw_istore dX6_covered_112 (by decide) ?_
          refine aw_iinc dX6_covered_114 rfl (by decide) ?_
          refine aw_goto (tgt := 46) dX6_covered_117 (by decide) ?_
          exact K
        · refine aw_iconst dX6_covered_103 ?_
          refine aw_iload dX6_covered_104 rfl ?_
          refine aw_ishl dX6_covered_106 ?_
          refine aw_val (w := aI ((2 ^ r : Nat) : Int)) (by rw [shl5 (by omega)]) ?_
          refine aw_goto (tgt := 111) dX6_covered_107 (by decide) ?_
          refine aw_ior dX6_covered_111 ?_
          refine aw_val (w := aI (covS N m on.toNat (r + 1) : Int)) (by rw [or_pow (by omega) hlt, covS, if_pos (by rw [← hq]; omega)]) ?_
          refine aw_istore dX6_covered_112 (by decide) ?_
          refine aw_iinc dX6_covered_114 rfl (by decide) ?_
          refine aw_goto (tgt := 46) dX6_covered_117 (by decide) ?_
          exact K
      refine aw_iload_n dX6_covered_52 rfl ?_
      refine aw_istore dX6_covered_53 (by decide) ?_
      refine aw_iload dX6_covered_55 rfl ?_
      -- at 57: .ifCond .ne 7
      refine aw_if_ne (tgt := 64) dX6_covered_57 (by omega) (by decide) (fun c2 => ?_) (fun c2 => ?_)
      · refine aw_iconst dX6_covered_64 ?_
        refine aw_istore dX6_covered_65 (by decide) ?_
        have K := cov6_in (x := x) (acc := (covS N m on.toNat r : Int)) hN hm (by omega) fin 85 0 on.toNat (by omega) (by omega) (cov_eq hN (by omega) 0 (by omega)).symm
        rw [show ((on.toNat : Nat) : Int) = on by omega] at K
        exact K
      · refine aw_iconst dX6_covered_60 ?_
        refine aw_goto (tgt := 65) dX6_covered_61 (by decide) ?_
        refine aw_istore dX6_covered_65 (by decide) ?_
        have K := cov6_in (x := x) (acc := (covS N m on.toNat r : Int)) hN hm (by omega) fin 84 1 on.toNat (by omega) (by omega) (cov_eq hN (by omega) 1 (by omega)).symm
        rw [show ((on.toNat : Nat) : Int) = on by omega] at K
        exact K
theorem c6_covered {x : Nat} {N m on : Int} (hN : -2147483648 ≤ N ∧ N ≤ 2147483647) (hm : -2147483648 ≤ m ∧ m ≤ 2147483647) (ho : -2147483648 ≤ on ∧ on ≤ 2147483647) : AC mX6_covered (d + 10) 0 0 n h [aR x, aI N, aI m, aI on] (aqi n fun v h' => v = coveredS N m on ∧ h' = h) := by
  refine AC.of (by decide) (Nat.le_of_ble_eq_true rfl) ?_
  refine aw_iload_n dX6_covered_0 rfl ?_
  refine aw_i2l dX6_covered_1 (by omega) ?_
  refine aw_ldc2 kl_X6_126 dX6_covered_2 ?_
  refine aw_ldc2 kl_X6_193 dX6_covered_5 ?_
  -- at 8: .invokestatic 66
  refine aw_Si3 kc_X6_66 (c_in (d := d) hN (by decide) (by decide)) rfl (by omega) (Nat.le_of_ble_eq_true rfl) dX6_covered_8 (fun v h' q => ?_)
  obtain ⟨rfl, rfl⟩ := q
  refine aw_flag_eq (tgt := 38) dX6_covered_11 (by decide) (fun c1 => ?_) (fun c1 => ?_)
  · refine aw_iconst dX6_covered_38 ?_
    -- at 39: .ireturn
    exact aw_iret rfl dX6_covered_39 ⟨rfl, _, rfl, by rw [coveredS, if_neg (by omega)], rfl⟩
  · refine aw_iload_n dX6_covered_14 rfl ?_
    refine aw_i2l dX6_covered_15 (by omega) ?_
    refine aw_lconst (a := 1) dX6_covered_16 (by decide) ?_
    refine aw_ldc2 kl_X6_200 dX6_covered_17 ?_
    -- at 20: .invokestatic 66
    refine aw_Si3 kc_X6_66 (c_in (d := d) hm (by decide) (by decide)) rfl (by omega) (Nat.le_of_ble_eq_true rfl) dX6_covered_20 (fun v h' q => ?_)
    obtain ⟨rfl, rfl⟩ := q
    refine aw_flag_eq (tgt := 38) dX6_covered_23 (by decide) (fun c2 => ?_) (fun c2 => ?_)
    · refine aw_iconst dX6_covered_38 ?_
      -- at 39: .ireturn
      exact aw_iret rfl dX6_covered_39 ⟨rfl, _, rfl, by rw [coveredS, if_neg (by omega)], rfl⟩
    · refine aw_iload_n dX6_covered_26 rfl ?_
      refine aw_i2l dX6_covered_27 (by omega) ?_
      refine aw_lconst (a := 0) dX6_covered_28 (by decide) ?_
      refine aw_ldc2 kl_X6_202 dX6_covered_29 ?_
      -- at 32: .invokestatic 66
      refine aw_Si3 kc_X6_66 (c_in (d := d) ho (by decide) (by decide)) rfl (by omega) (Nat.le_of_ble_eq_true rfl) dX6_covered_32 (fun v h' q => ?_)
      obtain ⟨rfl, rfl⟩ := q
      refine aw_flag_ne (tgt := 40) dX6_covered_35 (by decide) (fun c3 => ?_) (fun c3 => ?_)
      · refine aw_iconst dX6_covered_40 ?_
        refine aw_istore dX6_covered_41 (by decide) ?_
        refine aw_iconst dX6_covered_43 ?_
        refine aw_istore dX6_covered_44 (by decide) ?_
        exact cov6_loop c1 c2 c3 (fun L hL => by
          refine aw_iload dX6_covered_120 hL ?_
          exact aw_iret rfl dX6_covered_122 ⟨rfl, _, rfl, by rw [coveredS, if_pos (by omega)], rfl⟩) m.toNat 0 none none (by omega)
      · refine aw_iconst dX6_covered_38 ?_
        -- at 39: .ireturn
        exact aw_iret rfl dX6_covered_39 ⟨rfl, _, rfl, by rw [coveredS, if_neg (by omega)], rfl⟩
-- open
theorem opn_loop {x : Nat} {N on : Int} {V : Int} (hN : 2 ≤ N ∧ N ≤ 7) (ho : 0 ≤ on ∧ on ≤ 31) :
    ∀ (c k : Nat), c + k = 1000 → 1 ≤ k → opnS N on.toNat c k = V → AW mX5_open (am_R (d + 10) 0 0) (am_Z (aqi n fun v h' => v = V ∧ h' = h) 0 0) 0 0 n h 18 [some (aR x), some (aI N), some (aI on), some (aI (k : Int))] [] := by
  intro c
  induction c with
  | zero =>
    intro k hk h1 hV
    refine aw_iload_n dX5_open_18 rfl ?_
    refine aw_sipush dX5_open_19 (by decide) ?_
    -- at 22: .if_icmp .gt 21
    refine aw_icmp_gt (tgt := 43) dX5_open_22 (by omega) (by omega) (by decide) (fun c1 => ?_) (fun c1 => ?_)
    · refine aw_bipush dX5_open_43 (by decide) ?_
      -- at 45: .ireturn
      exact aw_iret rfl dX5_open_45 ⟨rfl, _, rfl, hV, rfl⟩
    · omega
  | succ c ih =>
    intro k hk h1 hV
    refine aw_iload_n dX5_open_18 rfl ?_
    refine aw_sipush dX5_open_19 (by decide) ?_
    -- at 22: .if_icmp .gt 21
    refine aw_icmp_gt (tgt := 43) dX5_open_22 (by omega) (by omega) (by decide) (fun c1 => ?_) (fun c1 => ?_)
    · omega
    · refine aw_iload_n dX5_open_25 rfl ?_
      refine aw_iload_n dX5_open_26 rfl ?_
      -- at 27: .invokestatic 164
      refine aw_Si2 kc_X5_164 (c_splitters (d := d) hN (by omega)) rfl (by omega) (Nat.le_of_ble_eq_true rfl) dX5_open_27 (fun v h' q => ?_)
      obtain ⟨rfl, rfl⟩ := q
      refine aw_iload_n dX5_open_30 rfl ?_
      refine aw_iand dX5_open_31 ?_
      -- at 32: .ifCond .ne 5
      have hl := held_lt N (k : Int)
      have hal := and_lt32 (b := on.toNat) hl
      refine aw_val (w := aI ((held N (k : Int) &&& on.toNat : Nat) : Int)) (by rw [← and32 hl (by omega : on.toNat < 32), show ((on.toNat : Nat) : Int) = on by omega]) ?_
      rw [opnS] at hV
      refine aw_if_ne (tgt := 37) dX5_open_32 (by omega) (by decide) (fun c2 => ?_) (fun c2 => ?_)
      · refine aw_iinc dX5_open_37 rfl (by decide) ?_
        refine aw_goto (tgt := 18) dX5_open_40 (by decide) ?_
        rw [if_neg (by omega)] at hV
        have K := ih (k + 1) (by omega) (by omega) hV
        rw [show ((k + 1 : Nat) : Int) = (k : Int) + 1 by omega] at K
        exact K
      · refine aw_iload_n dX5_open_35 rfl ?_
        -- at 36: .ireturn
        rw [if_pos (by omega)] at hV
        exact aw_iret rfl dX5_open_36 ⟨rfl, _, rfl, hV, rfl⟩
theorem c5_open {x : Nat} {N on : Int} (hN : -2147483648 ≤ N ∧ N ≤ 2147483647) (ho : -2147483648 ≤ on ∧ on ≤ 2147483647) : AC mX5_open (d + 10) 0 0 n h [aR x, aI N, aI on] (aqi n fun v h' => v = openS N on ∧ h' = h) := by
  refine AC.of (by decide) (Nat.le_of_ble_eq_true rfl) ?_
  refine aw_iload_n dX5_open_0 rfl ?_
  -- at 1: .invokestatic 150
  refine aw_Si1 kc_X5_150 (c_isNumerator (d := d) hN) rfl (by omega) (Nat.le_of_ble_eq_true rfl) dX5_open_1 (fun v h' q => ?_)
  obtain ⟨rfl, rfl⟩ := q
  refine aw_flag_eq (tgt := 14) dX5_open_4 (by decide) (fun c1 => ?_) (fun c1 => ?_)
  · refine aw_iconst dX5_open_14 ?_
    -- at 15: .ireturn
    exact aw_iret rfl dX5_open_15 ⟨rfl, _, rfl, by rw [openS, if_neg (by omega)], rfl⟩
  · refine aw_iload_n dX5_open_7 rfl ?_
    -- at 8: .invokestatic 157
    refine aw_Si1 kc_X5_157 (c_isChoice (d := d) ho) rfl (by omega) (Nat.le_of_ble_eq_true rfl) dX5_open_8 (fun v h' q => ?_)
    obtain ⟨rfl, rfl⟩ := q
    refine aw_flag_ne (tgt := 16) dX5_open_11 (by decide) (fun c2 => ?_) (fun c2 => ?_)
    · refine aw_iconst dX5_open_16 ?_
      refine aw_istore_n dX5_open_17 (by decide) ?_
      exact opn_loop c1 c2 999 1 rfl (by omega) (if_pos ⟨c1, c2⟩ : openS N on = _).symm
    · refine aw_iconst dX5_open_14 ?_
      -- at 15: .ireturn
      exact aw_iret rfl dX5_open_15 ⟨rfl, _, rfl, by rw [openS, if_neg (by omega)], rfl⟩
theorem opn6_loop {x : Nat} {N on : Int} {V : Int} (hN : 2 ≤ N ∧ N ≤ 7) (ho : 0 ≤ on ∧ on ≤ 31) :
    ∀ (c k : Nat), c + k = 1000 → 1 ≤ k → opnS N on.toNat c k = V → AW mX6_open (am_R (d + 10) 0 0) (am_Z (aqi n fun v h' => v = V ∧ h' = h) 0 0) 0 0 n h 30 [some (aR x), some (aI N), some (aI on), some (aI (k : Int))] [] := by
  intro c
  induction c with
  | zero =>
    intro k hk h1 hV
    refine aw_iload_n dX6_open_30 rfl ?_
    refine aw_sipush dX6_open_31 (by decide) ?_
    -- at 34: .if_icmp .ge 19
    refine aw_icmp_ge (tgt := 53) dX6_open_34 (by omega) (by omega) (by decide) (fun c1 => ?_) (fun c1 => ?_)
    · refine aw_iload_n dX6_open_53 rfl ?_
      refine aw_sipush dX6_open_54 (by decide) ?_
      -- at 57: .if_icmp .ge 7
      refine aw_icmp_ge (tgt := 64) dX6_open_57 (by omega) (by omega) (by decide) (fun c2 => ?_) (fun c2 => ?_)
      · refine aw_bipush dX6_open_64 (by decide) ?_
        -- at 66: .ireturn
        exact aw_iret rfl dX6_open_66 ⟨rfl, _, rfl, hV, rfl⟩
      · omega
    · omega
  | succ c ih =>
    intro k hk h1 hV
    refine aw_iload_n dX6_open_30 rfl ?_
    refine aw_sipush dX6_open_31 (by decide) ?_
    -- at 34: .if_icmp .ge 19
    refine aw_icmp_ge (tgt := 53) dX6_open_34 (by omega) (by omega) (by decide) (fun c1 => ?_) (fun c1 => ?_)
    · omega
    · refine aw_iload_n dX6_open_37 rfl ?_
      refine aw_iload_n dX6_open_38 rfl ?_
      -- at 39: .invokestatic 197
      refine aw_Si2 kc_X6_197 (c_held (d := d) hN (by omega)) rfl (by omega) (Nat.le_of_ble_eq_true rfl) dX6_open_39 (fun v h' q => ?_)
      obtain ⟨rfl, rfl⟩ := q
      refine aw_iload_n dX6_open_42 rfl ?_
      refine aw_iand dX6_open_43 ?_
      -- at 44: .ifCond .eq 9
      have hl := held_lt N (k : Int)
      have hal := and_lt32 (b := on.toNat) hl
      refine aw_val (w := aI ((held N (k : Int) &&& on.toNat : Nat) : Int)) (by rw [← and32 hl (by omega : on.toNat < 32), show ((on.toNat : Nat) : Int) = on by omega]) ?_
      rw [opnS] at hV
      refine aw_if_eq (tgt := 53) dX6_open_44 (by omega) (by decide) (fun c2 => ?_) (fun c2 => ?_)
      · refine aw_iload_n dX6_open_53 rfl ?_
        refine aw_sipush dX6_open_54 (by decide) ?_
        -- at 57: .if_icmp .ge 7
        refine aw_icmp_ge (tgt := 64) dX6_open_57 (by omega) (by omega) (by decide) (fun c3 => ?_) (fun c3 => ?_)
        · omega
        · refine aw_iload_n dX6_open_60 rfl ?_
          refine aw_goto (tgt := 66) dX6_open_61 (by decide) ?_
          -- at 66: .ireturn
          rw [if_pos (by omega)] at hV
          exact aw_iret rfl dX6_open_66 ⟨rfl, _, rfl, hV, rfl⟩
      · refine aw_iinc dX6_open_47 rfl (by decide) ?_
        refine aw_goto (tgt := 30) dX6_open_50 (by decide) ?_
        rw [if_neg (by omega)] at hV
        have K := ih (k + 1) (by omega) (by omega) hV
        rw [show ((k + 1 : Nat) : Int) = (k : Int) + 1 by omega] at K
        exact K
theorem c6_open {x : Nat} {N on : Int} (hN : -2147483648 ≤ N ∧ N ≤ 2147483647) (ho : -2147483648 ≤ on ∧ on ≤ 2147483647) : AC mX6_open (d + 10) 0 0 n h [aR x, aI N, aI on] (aqi n fun v h' => v = openS N on ∧ h' = h) := by
  refine AC.of (by decide) (Nat.le_of_ble_eq_true rfl) ?_
  refine aw_iload_n dX6_open_0 rfl ?_
  refine aw_i2l dX6_open_1 (by omega) ?_
  refine aw_ldc2 kl_X6_126 dX6_open_2 ?_
  refine aw_ldc2 kl_X6_193 dX6_open_5 ?_
  -- at 8: .invokestatic 66
  refine aw_Si3 kc_X6_66 (c_in (d := d) hN (by decide) (by decide)) rfl (by omega) (Nat.le_of_ble_eq_true rfl) dX6_open_8 (fun v h' q => ?_)
  obtain ⟨rfl, rfl⟩ := q
  refine aw_flag_eq (tgt := 26) dX6_open_11 (by decide) (fun c1 => ?_) (fun c1 => ?_)
  · refine aw_iconst dX6_open_26 ?_
    -- at 27: .ireturn
    exact aw_iret rfl dX6_open_27 ⟨rfl, _, rfl, by rw [openS, if_neg (by omega)], rfl⟩
  · refine aw_iload_n dX6_open_14 rfl ?_
    refine aw_i2l dX6_open_15 (by omega) ?_
    refine aw_lconst (a := 0) dX6_open_16 (by decide) ?_
    refine aw_ldc2 kl_X6_202 dX6_open_17 ?_
    -- at 20: .invokestatic 66
    refine aw_Si3 kc_X6_66 (c_in (d := d) ho (by decide) (by decide)) rfl (by omega) (Nat.le_of_ble_eq_true rfl) dX6_open_20 (fun v h' q => ?_)
    obtain ⟨rfl, rfl⟩ := q
    refine aw_flag_ne (tgt := 28) dX6_open_23 (by decide) (fun c2 => ?_) (fun c2 => ?_)
    · refine aw_iconst dX6_open_28 ?_
      refine aw_istore_n dX6_open_29 (by decide) ?_
      exact opn6_loop c1 c2 999 1 rfl (by omega) (if_pos ⟨c1, c2⟩ : openS N on = _).symm
    · refine aw_iconst dX6_open_26 ?_
      -- at 27: .ireturn
      exact aw_iret rfl dX6_open_27 ⟨rfl, _, rfl, by rw [openS, if_neg (by omega)], rfl⟩
end Cover
