/-! sums, sum, fewest, bound: the class -/
def sumsQ (p q k D : Int) : Int := if (1 ≤ k ∧ k ≤ 5) ∧ (1 ≤ D ∧ D ≤ 60) then howS k D p q else -1
def sumQ (p q k D j i : Int) : Int := if (1 ≤ k ∧ k ≤ 5) ∧ (1 ≤ D ∧ D ≤ 60) ∧ 0 ≤ j ∧ 0 ≤ i then numS k D p q j i else -1
def fewQ (p q D : Int) : Int := if 1 ≤ D ∧ D ≤ 60 then few5 (fun k => howS k D p q) 5 1 else -1
def bndQ (p q k : Int) : Int := if 1 ≤ k ∧ k ≤ 5 then bndS k p q else -1
section Sums5
variable {d n : Nat} {p q : Int} {h : AH}
theorem c5_sums {k D : Int} (hk : -2147483648 ≤ k ∧ k ≤ 2147483647) (hD : -2147483648 ≤ D ∧ D ≤ 2147483647) (hp : 0 ≤ p ∧ p ≤ 99) (hq : 1 ≤ q ∧ q ≤ 99) (h0 : h 1 = aO 5 (top5 p q)) (H : finSt h p q) : AC mX5_sums (d + 10) 0 0 n h [aR 1, aI k, aI D] (aqi n fun v h' => v = sumsQ p q k D ∧ finSt h' p q ∧ ∀ j, (j < 38 ∨ 47 < j) → h' j = h j) := by
  refine AC.of (by decide) (Nat.le_of_ble_eq_true rfl) ?_
  have a1 := H.1
  have bad : ∀ L, ¬ ((1 ≤ k ∧ k ≤ 5) ∧ (1 ≤ D ∧ D ≤ 60)) → AW mX5_sums (am_R (d + 10) 0 0) (am_Z (aqi n fun v h' => v = sumsQ p q k D ∧ finSt h' p q ∧ ∀ j, (j < 38 ∨ 47 < j) → h' j = h j) 0 0) 0 0 n h 14 L [] := by
    intro L z
    refine aw_iconst dX5_sums_14 ?_
    -- at 15: .ireturn
    exact aw_iret rfl dX5_sums_15 ⟨rfl, _, rfl, by rw [sumsQ, if_neg z], H, fun _ _ => rfl⟩
  refine aw_iload_n dX5_sums_0 rfl ?_
  -- at 1: .invokestatic 131
  refine aw_Si1 kc_X5_131 (c_isLength (d := d + 9) hk) rfl (by omega) (Nat.le_of_ble_eq_true rfl) dX5_sums_1 (fun v h' q1 => ?_)
  obtain ⟨rfl, rfl⟩ := q1
  refine aw_flag_eq (tgt := 14) dX5_sums_4 (by decide) (fun c1 => ?_) (fun c1 => ?_)
  · exact bad _ (fun z => c1 z.1)
  · refine aw_iload_n dX5_sums_7 rfl ?_
    -- at 8: .invokestatic 134
    refine aw_Si1 kc_X5_134 (c_isBound (d := d + 9) hD) rfl (by omega) (Nat.le_of_ble_eq_true rfl) dX5_sums_8 (fun v h' q1 => ?_)
    obtain ⟨rfl, rfl⟩ := q1
    refine aw_flag_ne (tgt := 16) dX5_sums_11 (by decide) (fun c2 => ?_) (fun c2 => ?_)
    rotate_left
    · exact bad _ (fun z => c2 z.2)
    · refine aw_aload_n dX5_sums_16 rfl ?_
      refine aw_get kg_X5_51 (by assumption) (by rfl) dX5_sums_17 ?_
      refine aw_iload_n dX5_sums_20 rfl ?_
      refine aw_iload_n dX5_sums_21 rfl ?_
      -- at 22: .invokevirtual 137
      refine aw_Vi2 kc_X5_137 (c_howMany (d := d + 1) hk hD hp hq H) (by assumption) rfl rfl (by omega) (Nat.le_of_ble_eq_true rfl) dX5_sums_22 (fun v h1 q1 => ?_)
      obtain ⟨rfl, q2, q3⟩ := q1
      exact aw_iret rfl dX5_sums_25 ⟨rfl, _, rfl, by rw [sumsQ, if_pos ⟨c1, c2⟩], q2, q3⟩
theorem c5_sum {k D e i : Int} (hk : -2147483648 ≤ k ∧ k ≤ 2147483647) (hD : -2147483648 ≤ D ∧ D ≤ 2147483647) (he : -2147483648 ≤ e ∧ e ≤ 2147483647) (hi : -2147483648 ≤ i ∧ i ≤ 2147483647) (hp : 0 ≤ p ∧ p ≤ 99) (hq : 1 ≤ q ∧ q ≤ 99) (h0 : h 1 = aO 5 (top5 p q)) (H : finSt h p q) : AC mX5_sum (d + 10) 0 0 n h [aR 1, aI k, aI D, aI e, aI i] (aqi n fun v h' => v = sumQ p q k D e i ∧ finSt h' p q ∧ ∀ j, (j < 38 ∨ 47 < j) → h' j = h j) := by
  refine AC.of (by decide) (Nat.le_of_ble_eq_true rfl) ?_
  have a1 := H.1
  have bad : ∀ L, ¬ ((1 ≤ k ∧ k ≤ 5) ∧ (1 ≤ D ∧ D ≤ 60) ∧ 0 ≤ e ∧ 0 ≤ i) → AW mX5_sum (am_R (d + 10) 0 0) (am_Z (aqi n fun v h' => v = sumQ p q k D e i ∧ finSt h' p q ∧ ∀ j, (j < 38 ∨ 47 < j) → h' j = h j) 0 0) 0 0 n h 23 L [] := by
    intro L z
    refine aw_iconst dX5_sum_23 ?_
    -- at 24: .ireturn
    exact aw_iret rfl dX5_sum_24 ⟨rfl, _, rfl, by rw [sumQ, if_neg z], H, fun _ _ => rfl⟩
  refine aw_iload_n dX5_sum_0 rfl ?_
  -- at 1: .invokestatic 131
  refine aw_Si1 kc_X5_131 (c_isLength (d := d + 9) hk) rfl (by omega) (Nat.le_of_ble_eq_true rfl) dX5_sum_1 (fun v h' q1 => ?_)
  obtain ⟨rfl, rfl⟩ := q1
  refine aw_flag_eq (tgt := 23) dX5_sum_4 (by decide) (fun c1 => ?_) (fun c1 => ?_)
  · exact bad _ (fun z => c1 z.1)
  · refine aw_iload_n dX5_sum_7 rfl ?_
    -- at 8: .invokestatic 134
    refine aw_Si1 kc_X5_134 (c_isBound (d := d + 9) hD) rfl (by omega) (Nat.le_of_ble_eq_true rfl) dX5_sum_8 (fun v h' q1 => ?_)
    obtain ⟨rfl, rfl⟩ := q1
    refine aw_flag_eq (tgt := 23) dX5_sum_11 (by decide) (fun c2 => ?_) (fun c2 => ?_)
    · exact bad _ (fun z => c2 z.2.1)
    · refine aw_iload_n dX5_sum_14 rfl ?_
      -- at 15: .ifCond .lt 8
      refine aw_if_lt (tgt := 23) dX5_sum_15 (by omega) (by decide) (fun c3 => ?_) (fun c3 => ?_)
      · exact bad _ (by omega)
      · refine aw_iload dX5_sum_18 rfl ?_
        -- at 20: .ifCond .ge 5
        refine aw_if_ge (tgt := 25) dX5_sum_20 (by omega) (by decide) (fun c4 => ?_) (fun c4 => ?_)
        rotate_left
        · exact bad _ (by omega)
        · refine aw_aload_n dX5_sum_25 rfl ?_
          refine aw_get kg_X5_51 (by assumption) (by rfl) dX5_sum_26 ?_
          refine aw_iload_n dX5_sum_29 rfl ?_
          refine aw_iload_n dX5_sum_30 rfl ?_
          refine aw_iload_n dX5_sum_31 rfl ?_
          refine aw_iload dX5_sum_32 rfl ?_
          -- at 34: .invokevirtual 140
          refine aw_Vi4 kc_X5_140 (c_numberOf (d := d) hk hD he hi hp hq H) (by assumption) rfl rfl (by omega) (Nat.le_of_ble_eq_true rfl) dX5_sum_34 (fun v h1 q1 => ?_)
          obtain ⟨rfl, q2, q3⟩ := q1
          exact aw_iret rfl dX5_sum_37 ⟨rfl, _, rfl, by rw [sumQ, if_pos (by omega)], q2, q3⟩
theorem c5_fewest {D : Int} (hD : -2147483648 ≤ D ∧ D ≤ 2147483647) (hp : 0 ≤ p ∧ p ≤ 99) (hq : 1 ≤ q ∧ q ≤ 99) (h0 : h 1 = aO 5 (top5 p q)) (H : finSt h p q) : AC mX5_fewest (d + 10) 0 0 n h [aR 1, aI D] (aqi n fun v h' => v = fewQ p q D ∧ finSt h' p q ∧ ∀ j, (j < 38 ∨ 47 < j) → h' j = h j) := by
  refine AC.of (by decide) (Nat.le_of_ble_eq_true rfl) ?_
  have a1 := H.1
  refine aw_iload_n dX5_fewest_0 rfl ?_
  -- at 1: .invokestatic 134
  refine aw_Si1 kc_X5_134 (c_isBound (d := d + 9) hD) rfl (by omega) (Nat.le_of_ble_eq_true rfl) dX5_fewest_1 (fun v h' q1 => ?_)
  obtain ⟨rfl, rfl⟩ := q1
  refine aw_flag_ne (tgt := 9) dX5_fewest_4 (by decide) (fun c2 => ?_) (fun c2 => ?_)
  rotate_left
  · refine aw_iconst dX5_fewest_7 ?_
    -- at 8: .ireturn
    exact aw_iret rfl dX5_fewest_8 ⟨rfl, _, rfl, by rw [fewQ, if_neg c2], H, fun _ _ => rfl⟩
  · refine aw_aload_n dX5_fewest_9 rfl ?_
    refine aw_get kg_X5_51 (by assumption) (by rfl) dX5_fewest_10 ?_
    refine aw_iload_n dX5_fewest_13 rfl ?_
    -- at 14: .invokevirtual 144
    refine aw_Vi1 kc_X5_144 (c_leastLength (d := d) hD hp hq H) (by assumption) rfl rfl (by omega) (Nat.le_of_ble_eq_true rfl) dX5_fewest_14 (fun v h1 q1 => ?_)
    obtain ⟨rfl, q2, q3⟩ := q1
    exact aw_iret rfl dX5_fewest_17 ⟨rfl, _, rfl, by rw [fewQ, if_pos c2], q2, q3⟩
theorem c5_bound {k : Int} (hk : -2147483648 ≤ k ∧ k ≤ 2147483647) (hp : 0 ≤ p ∧ p ≤ 99) (hq : 1 ≤ q ∧ q ≤ 99) (h0 : h 1 = aO 5 (top5 p q)) (H : finSt h p q) : AC mX5_bound (d + 10) 0 0 n h [aR 1, aI k] (aqi n fun v h' => v = bndQ p q k ∧ finSt h' p q ∧ ∀ j, (j < 38 ∨ 47 < j) → h' j = h j) := by
  refine AC.of (by decide) (Nat.le_of_ble_eq_true rfl) ?_
  have a1 := H.1
  refine aw_iload_n dX5_bound_0 rfl ?_
  -- at 1: .invokestatic 131
  refine aw_Si1 kc_X5_131 (c_isLength (d := d + 9) hk) rfl (by omega) (Nat.le_of_ble_eq_true rfl) dX5_bound_1 (fun v h' q1 => ?_)
  obtain ⟨rfl, rfl⟩ := q1
  refine aw_flag_ne (tgt := 9) dX5_bound_4 (by decide) (fun c2 => ?_) (fun c2 => ?_)
  rotate_left
  · refine aw_iconst dX5_bound_7 ?_
    -- at 8: .ireturn
    exact aw_iret rfl dX5_bound_8 ⟨rfl, _, rfl, by rw [bndQ, if_neg c2], H, fun _ _ => rfl⟩
  · refine aw_aload_n dX5_bound_9 rfl ?_
    refine aw_get kg_X5_51 (by assumption) (by rfl) dX5_bound_10 ?_
    refine aw_iload_n dX5_bound_13 rfl ?_
    -- at 14: .invokevirtual 147
    refine aw_Vi1 kc_X5_147 (c_leastBound (d := d + 1) hk hp hq H) (by assumption) rfl rfl (by omega) (Nat.le_of_ble_eq_true rfl) dX5_bound_14 (fun v h1 q1 => ?_)
    obtain ⟨rfl, q2, q3⟩ := q1
    exact aw_iret rfl dX5_bound_17 ⟨rfl, _, rfl, by rw [bndQ, if_pos c2], q2, q3⟩
end Sums5
