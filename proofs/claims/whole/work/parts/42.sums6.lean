/-! few, top, firstOf, byLeastTop; sums, sum, fewest, bound: the reference -/
theorem wS_none {w : Int} : ∀ (S : List (List Int)) (f : Nat) (g : Nat → Int), w < (f : Int) → wS w S f g = g
  | [], _, _, _ => rfl
  | l :: r, f, g, h => by
    rw [wS, wS_none r (f + 1) _ (by omega)]
    funext i
    rw [if_neg (by omega)]
theorem wS_at {w : Int} : ∀ (S : List (List Int)) (f k : Nat) (g : Nat → Int) (hk : k < S.length), w = ((f + k : Nat) : Int) → wS w S f g = fun i => (S[k]).getD i 0
  | [], _, _, _, hk, _ => absurd hk (by simp)
  | l :: r, f, 0, g, _, h => by
    rw [wS, wS_none r (f + 1) _ (by omega)]
    funext i
    rw [if_pos (by omega)]
    rfl
  | l :: r, f, k + 1, g, hk, h => by
    rw [wS]
    exact wS_at r (f + 1) k _ (by simpa using hk) (by omega)
theorem pckS_get {D : Int} : ∀ (S : List (List Int)) (k : Nat), pckS D S (k : Int) = (S.filter (wth D))[k]?
  | [], k => by simp [pckS]
  | l :: r, k => by
    rw [pckS, List.filter_cons]
    by_cases z : lastN l ≤ D
    · rw [if_pos z, if_pos (show wth D l = true by simpa using z)]
      cases k with
      | zero => rfl
      | succ k =>
        rw [if_neg (by omega), List.getElem?_cons_succ, ← pckS_get r k]
        congr 1
        omega
    · rw [if_neg z, if_neg (show ¬ wth D l = true by simpa using z), pckS_get r k]
section Same
variable {p q : Int}
theorem within_eq {k D : Nat} (hk : 1 ≤ k) (hD : D ≤ 60) : sm D k 0 p q = (S60 k p q).filter (wth (D : Int)) := by
  obtain ⟨m, rfl⟩ : ∃ m, k = m + 1 := ⟨k - 1, by omega⟩
  exact sm_within hD m 0 p q
theorem howS_eq {k D : Nat} (hk : 1 ≤ k ∧ k ≤ 5) (hD : D ≤ 60) : howS (k : Int) (D : Int) p q = ((sm D k 0 p q).length : Int) := by
  rw [howS, if_pos (by omega), Int.toNat_natCast, hmS, within_eq hk.1 hD]
theorem pickS_eq {k D j : Nat} (hk : 1 ≤ k ∧ k ≤ 5) (hD : D ≤ 60) : pickS (k : Int) (D : Int) p q (j : Int) = (sm D k 0 p q)[j]? := by
  rw [pickS, if_pos (by omega), Int.toNat_natCast, pckS_get, within_eq hk.1 hD]
theorem bndS_eq {k : Nat} (hk : 1 ≤ k ∧ k ≤ 5) : bndS (k : Int) p q = lbS (sm 60 k 0 p q) (-9) := by
  rw [bndS, if_pos (by omega), Int.toNat_natCast]
theorem sm_len {k D : Nat} (hk : 1 ≤ k ∧ k ≤ 5) (hD : D ≤ 60) (hp : 0 ≤ p) (hq : 1 ≤ q ∧ q ≤ 99) : (sm D k 0 p q).length < 128 := by
  rw [within_eq hk.1 hD]
  exact Nat.lt_of_le_of_lt (List.length_filter_le _ _) (sm_128 hk.1 hk.2 hp hq)
theorem lbS_mem : ∀ (S : List (List Int)) (m : Int), lbS S m = m ∨ ∃ l, l ∈ S ∧ lastN l = lbS S m
  | [], m => Or.inl rfl
  | l :: r, m => by
    rw [lbS]
    rcases lbS_mem r (if m = -9 ∨ lastN l < m then lastN l else m) with h | ⟨l', h1, h2⟩
    · rw [h]
      by_cases z : m = -9 ∨ lastN l < m
      · rw [if_pos z]
        exact Or.inr ⟨l, List.mem_cons_self .., rfl⟩
      · rw [if_neg z]
        exact Or.inl rfl
    · exact Or.inr ⟨l', List.mem_cons_of_mem _ h1, h2⟩
/-- the least bound is one -/
theorem bnd_some {k : Nat} (hk : 1 ≤ k ∧ k ≤ 5) (h : bndS (k : Int) p q ≠ -9) : 1 ≤ bndS (k : Int) p q ∧ bndS (k : Int) p q ≤ 60 ∧ 0 < (sm (bndS (k : Int) p q).toNat k 0 p q).length := by
  have e := bndS_eq (p := p) (q := q) hk
  rcases lbS_mem (sm 60 k 0 p q) (-9) with z | ⟨l, h1, h2⟩
  · omega
  · have g := pk_sum hk.1 hk.2 h1
    rw [← e] at h2
    refine ⟨by omega, by omega, ?_⟩
    rw [within_eq hk.1 (by omega)]
    refine List.length_pos_of_mem (a := l) (List.mem_filter.mpr ⟨h1, ?_⟩)
    simp
    omega
end Same
def gtA (h : AH) : Prop := (∃ f, h 61 = aA 3 5 f) ∧ (∃ f, h 62 = aA 3 5 f) ∧ (∃ f, h 63 = aA 0 5 f) ∧ ∃ f, h 64 = aA 0 5 f
theorem gtA.fr {h h' : AH} (H : gtA h) (hf : ∀ j, 61 ≤ j → j ≤ 64 → h' j = h j) : gtA h' := by
  obtain ⟨⟨a, x1⟩, ⟨b, x2⟩, ⟨c, x3⟩, ⟨e, x4⟩⟩ := H
  exact ⟨⟨a, (hf 61 (by omega) (by omega)).trans x1⟩, ⟨b, (hf 62 (by omega) (by omega)).trans x2⟩, ⟨c, (hf 63 (by omega) (by omega)).trans x3⟩, ⟨e, (hf 64 (by omega) (by omega)).trans x4⟩⟩
section Sums6
variable {d N : Nat} {u p q sn ls e1 e2 e3 e4 e5 e6 e7 e8 : Int} {h : AH}
/-- what going through leaves -/
def gtQ (h : AH) (F : Int → List AV) (S : List (List Int)) (w : Int) (k : Nat) (v : Int) (h' : AH) : Prop := v = (S.length : Int) ∧ h' 52 = aO 6 (F (lbS S (-9))) ∧ gtA h' ∧ (∀ j (hj : j < S.length), w = (j : Int) → isArr h' 64 5 (S[j])) ∧ ∀ j, j ≠ 52 → (j < 61 ∨ 64 < j) → h' j = h j
theorem c6_goes {k D : Nat} {w : Int} (hk : 1 ≤ k ∧ k ≤ 5) (hD : D ≤ 60) (hw : -2147483648 ≤ w ∧ w ≤ 2147483647) (hp : 0 ≤ p ∧ p ≤ 99) (hq : 1 ≤ q ∧ q ≤ 99) (hM : h 52 = aO 6 (mdl u p q sn ls e1 e2 e3 e4 e5 e6 e7 e8)) (hA : gtA h) : AC mX6_goesThrough d 0 0 N h [aR 52, aI (k : Int), aI (D : Int), aI w] (aqi N fun v h' => gtQ h (mdl u p q sn ls e1 e2 e3 e4 e5 e6 e7) (sm D k 0 p q) w k v h') := by
  refine AC.of (by decide) (Nat.le_of_ble_eq_true rfl) ?_
  obtain ⟨⟨fu, x1⟩, ⟨fl, x2⟩, ⟨fr, x3⟩, ⟨fw, x4⟩⟩ := hA
  have hlen := sm_len hk hD hp.1 hq
  refine aw_iconst dX6_goesThrough_0 ?_
  refine aw_istore dX6_goesThrough_1 (by decide) ?_
  refine aw_iconst dX6_goesThrough_3 ?_
  refine aw_istore dX6_goesThrough_4 (by decide) ?_
  refine aw_aload_n dX6_goesThrough_6 rfl ?_
  refine aw_bipush dX6_goesThrough_7 (by decide) ?_
  -- at 9: .putfield 134
  refine aw_putO kp_X6_134 (by assumption) (by simp) (aw_ni _) dX6_goesThrough_9 (fun h1 b1 f1 => ?_)
  have b1 : h1 52 = aO 6 (mdl u p q sn ls e1 e2 e3 e4 e5 e6 e7 (-9)) := b1
  have x1 := (f1 61 (by omega)).trans x1
  have x2 := (f1 62 (by omega)).trans x2
  have x3 := (f1 63 (by omega)).trans x3
  have x4 := (f1 64 (by omega)).trans x4
  refine aw_aload_n dX6_goesThrough_12 rfl ?_
  refine aw_get kg_X6_42 (by assumption) (by rfl) dX6_goesThrough_13 ?_
  refine aw_iconst dX6_goesThrough_16 ?_
  refine aw_aload_n dX6_goesThrough_17 rfl ?_
  refine aw_get kg_X6_17 (by assumption) (by rfl) dX6_goesThrough_18 ?_
  refine aw_i2l dX6_goesThrough_21 (by omega) ?_
  -- at 22: .lastore
  refine aw_lastO (by assumption) (by omega) dX6_goesThrough_22 (fun h2 b2 f2 => ?_)
  have b1 := (f2 52 (by omega)).trans b1
  have x2 := (f2 62 (by omega)).trans x2
  have x3 := (f2 63 (by omega)).trans x3
  have x4 := (f2 64 (by omega)).trans x4
  refine aw_aload_n dX6_goesThrough_23 rfl ?_
  refine aw_get kg_X6_46 (by assumption) (by rfl) dX6_goesThrough_24 ?_
  refine aw_iconst dX6_goesThrough_27 ?_
  refine aw_aload_n dX6_goesThrough_28 rfl ?_
  refine aw_get kg_X6_21 (by assumption) (by rfl) dX6_goesThrough_29 ?_
  refine aw_i2l dX6_goesThrough_32 (by omega) ?_
  -- at 33: .lastore
  refine aw_lastO (by assumption) (by omega) dX6_goesThrough_33 (fun h3 b3 f3 => ?_)
  have b1 := (f3 52 (by omega)).trans b1
  have b2 := (f3 61 (by omega)).trans b2
  have x3 := (f3 63 (by omega)).trans x3
  have x4 := (f3 64 (by omega)).trans x4
  refine aw_aload_n dX6_goesThrough_34 rfl ?_
  refine aw_get kg_X6_49 (by assumption) (by rfl) dX6_goesThrough_35 ?_
  refine aw_iconst dX6_goesThrough_38 ?_
  refine aw_iconst dX6_goesThrough_39 ?_
  -- at 40: .iastore
  refine aw_iastO (by assumption) (by omega) dX6_goesThrough_40 (fun h4 b4 f4 => ?_)
  have b1 := (f4 52 (by omega)).trans b1
  have b2 := (f4 61 (by omega)).trans b2
  have b3 := (f4 62 (by omega)).trans b3
  have x4 := (f4 64 (by omega)).trans x4
  obtain ⟨m, rfl⟩ : ∃ m, k = m + 1 := ⟨k - 1, by omega⟩
  have pw : (60 : Nat) ^ m ≤ 60 ^ 4 := Nat.pow_le_pow_right (by decide) (by omega)
  have e4' : (60 : Nat) ^ 4 = 12960000 := by decide
  refine gt_run (h0 := h) hk.2 hD hw m 0 (fun _ => p) (fun _ => q) 99 [] (sm D (m + 1) 0 p q).length (lbS (sm D (m + 1) 0 p q) (-9)) (wS w (sm D (m + 1) 0 p q) 0 fw) (by omega) (by omega) (by omega) (by omega) rfl (by omega) (fun h5 L6 L8 L10 L11 L12 L14 L15 H5 => ?_) 60 0 h4 (-9) fw 0 none none none none none none none (by omega) ⟨b1, ⟨_, b2, fun i hi => ?_⟩, ⟨_, b3, fun i hi => ?_⟩, ⟨_, b4, fun i hi => ?_⟩, ⟨fw, x4, fun i _ => rfl⟩, fun j j1 j2 => (f4 j (by omega)).trans ((f3 j (by omega)).trans ((f2 j (by omega)).trans (f1 j (by omega))))⟩ (by omega) (by omega) (by simp) (by simp)
  · obtain ⟨z1, ⟨gu, z2, -⟩, ⟨gl, z3, -⟩, ⟨gr, z4, -⟩, ⟨gw, z5, z6⟩, z7⟩ := H5
    refine aw_iload dX6_goesThrough_41 rfl ?_
    refine aw_if_lt (tgt := 316) dX6_goesThrough_43 (by omega) (by decide) (fun c1 => ?_) (fun c1 => ?_)
    · refine aw_iload dX6_goesThrough_316 rfl ?_
      -- at 318: .ireturn
      refine aw_iret rfl dX6_goesThrough_318 ⟨rfl, _, rfl, rfl, z1, ⟨⟨gu, z2⟩, ⟨gl, z3⟩, ⟨gr, z4⟩, ⟨gw, z5⟩⟩, fun j hj e => ⟨gw, z5, fun i hi => ?_⟩, z7⟩
      obtain ⟨g1, g2⟩ := sm_mem _ _ _ _ (List.getElem_mem hj)
      rw [z6 i (by omega), wS_at _ 0 j _ hj (by omega)]
    · omega
  · have : i = 0 := by omega
    subst this
    exact va_up_s ..
  · have : i = 0 := by omega
    subst this
    exact va_up_s ..
  · have : i = 0 := by omega
    subst this
    exact va_up_s ..
theorem c6_sums {k D : Int} (hk : -2147483648 ≤ k ∧ k ≤ 2147483647) (hD : -2147483648 ≤ D ∧ D ≤ 2147483647) (hp : 0 ≤ p ∧ p ≤ 99) (hq : 1 ≤ q ∧ q ≤ 99) (hM : h 52 = aO 6 (mdl u p q sn ls e1 e2 e3 e4 e5 e6 e7 e8)) (hA : gtA h) : AC mX6_sums (d + 10) 0 0 N h [aR 52, aI k, aI D] (aqi N fun v h' => v = sumsQ p q k D ∧ (∃ t, h' 52 = aO 6 (mdl u p q sn ls e1 e2 e3 e4 e5 e6 e7 t)) ∧ gtA h' ∧ ∀ j, j ≠ 52 → (j < 61 ∨ 64 < j) → h' j = h j) := by
  refine AC.of (by decide) (Nat.le_of_ble_eq_true rfl) ?_
  have bad : ∀ L, ¬ ((1 ≤ k ∧ k ≤ 5) ∧ (1 ≤ D ∧ D ≤ 60)) → AW mX6_sums (am_R (d + 10) 0 0) (am_Z (aqi N fun v h' => v = sumsQ p q k D ∧ (∃ t, h' 52 = aO 6 (mdl u p q sn ls e1 e2 e3 e4 e5 e6 e7 t)) ∧ gtA h' ∧ ∀ j, j ≠ 52 → (j < 61 ∨ 64 < j) → h' j = h j) 0 0) 0 0 N h 24 L [] := by
    intro L z
    refine aw_iconst dX6_sums_24 ?_
    refine aw_goto (tgt := 36) dX6_sums_25 (by decide) ?_
    -- at 36: .ireturn
    exact aw_iret rfl dX6_sums_36 ⟨rfl, _, rfl, by rw [sumsQ, if_neg z], ⟨_, hM⟩, hA, fun _ _ _ => rfl⟩
  refine aw_iload_n dX6_sums_0 rfl ?_
  refine aw_i2l dX6_sums_1 (by omega) ?_
  refine aw_lconst (a := 1) dX6_sums_2 (by decide) ?_
  refine aw_ldc2 kl_X6_154 dX6_sums_3 ?_
  -- at 6: .invokestatic 66
  refine aw_Si3 kc_X6_66 (c_in (d := d + 9) (by omega) (by omega) (by omega)) rfl (by omega) (Nat.le_of_ble_eq_true rfl) dX6_sums_6 (fun v h' q1 => ?_)
  obtain ⟨rfl, rfl⟩ := q1
  refine aw_flag_eq (tgt := 24) dX6_sums_9 (by decide) (fun c1 => ?_) (fun c1 => ?_)
  · exact bad _ (fun z => c1 z.1)
  · refine aw_iload_n dX6_sums_12 rfl ?_
    refine aw_i2l dX6_sums_13 (by omega) ?_
    refine aw_lconst (a := 1) dX6_sums_14 (by decide) ?_
    refine aw_ldc2 kl_X6_137 dX6_sums_15 ?_
    -- at 18: .invokestatic 66
    refine aw_Si3 kc_X6_66 (c_in (d := d + 9) (by omega) (by omega) (by omega)) rfl (by omega) (Nat.le_of_ble_eq_true rfl) dX6_sums_18 (fun v h' q1 => ?_)
    obtain ⟨rfl, rfl⟩ := q1
    refine aw_flag_ne (tgt := 28) dX6_sums_21 (by decide) (fun c2 => ?_) (fun c2 => ?_)
    rotate_left
    · exact bad _ (fun z => c2 z.2)
    · obtain ⟨k, rfl⟩ : ∃ k' : Nat, k = (k' : Int) := ⟨k.toNat, by omega⟩
      obtain ⟨D, rfl⟩ : ∃ D' : Nat, D = (D' : Int) := ⟨D.toNat, by omega⟩
      refine aw_aload_n dX6_sums_28 rfl ?_
      refine aw_iload_n dX6_sums_29 rfl ?_
      refine aw_iload_n dX6_sums_30 rfl ?_
      refine aw_bipush dX6_sums_31 (by decide) ?_
      -- at 33: .invokevirtual 139
      refine aw_Vi3 kc_X6_139 (c6_goes (d := d + 9) (by omega) (by omega) (by omega) hp hq hM hA) (by assumption) rfl rfl (by omega) (Nat.le_of_ble_eq_true rfl) dX6_sums_33 (fun v h1 q1 => ?_)
      obtain ⟨rfl, q2, q3, -, q5⟩ := q1
      exact aw_iret rfl dX6_sums_36 ⟨rfl, _, rfl, by rw [sumsQ, if_pos ⟨c1, c2⟩, howS_eq (by omega) (by omega)], ⟨_, q2⟩, q3, q5⟩
theorem c6_sum {k D e i : Int} (hk : -2147483648 ≤ k ∧ k ≤ 2147483647) (hD : -2147483648 ≤ D ∧ D ≤ 2147483647) (he : -2147483648 ≤ e ∧ e ≤ 2147483647) (hi : -2147483648 ≤ i ∧ i ≤ 2147483647) (hp : 0 ≤ p ∧ p ≤ 99) (hq : 1 ≤ q ∧ q ≤ 99) (hM : h 52 = aO 6 (mdl u p q sn ls e1 e2 e3 e4 e5 e6 e7 e8)) (hA : gtA h) : AC mX6_sum (d + 10) 0 0 N h [aR 52, aI k, aI D, aI e, aI i] (aqi N fun v h' => v = sumQ p q k D e i ∧ (∃ t, h' 52 = aO 6 (mdl u p q sn ls e1 e2 e3 e4 e5 e6 e7 t)) ∧ gtA h' ∧ ∀ j, j ≠ 52 → (j < 61 ∨ 64 < j) → h' j = h j) := by
  refine AC.of (by decide) (Nat.le_of_ble_eq_true rfl) ?_
  have bad : ∀ L, ¬ ((1 ≤ k ∧ k ≤ 5) ∧ (1 ≤ D ∧ D ≤ 60) ∧ 0 ≤ e ∧ 0 ≤ i) → AW mX6_sum (am_R (d + 10) 0 0) (am_Z (aqi N fun v h' => v = sumQ p q k D e i ∧ (∃ t, h' 52 = aO 6 (mdl u p q sn ls e1 e2 e3 e4 e5 e6 e7 t)) ∧ gtA h' ∧ ∀ j, j ≠ 52 → (j < 61 ∨ 64 < j) → h' j = h j) 0 0) 0 0 N h 33 L [] := by
    intro L z
    refine aw_iconst dX6_sum_33 ?_
    -- at 34: .ireturn
    exact aw_iret rfl dX6_sum_34 ⟨rfl, _, rfl, by rw [sumQ, if_neg z], ⟨_, hM⟩, hA, fun _ _ _ => rfl⟩
  refine aw_iload_n dX6_sum_0 rfl ?_
  refine aw_i2l dX6_sum_1 (by omega) ?_
  refine aw_lconst (a := 1) dX6_sum_2 (by decide) ?_
  refine aw_ldc2 kl_X6_154 dX6_sum_3 ?_
  -- at 6: .invokestatic 66
  refine aw_Si3 kc_X6_66 (c_in (d := d + 9) (by omega) (by omega) (by omega)) rfl (by omega) (Nat.le_of_ble_eq_true rfl) dX6_sum_6 (fun v h' q1 => ?_)
  obtain ⟨rfl, rfl⟩ := q1
  refine aw_flag_eq (tgt := 33) dX6_sum_9 (by decide) (fun c1 => ?_) (fun c1 => ?_)
  · exact bad _ (fun z => c1 z.1)
  · refine aw_iload_n dX6_sum_12 rfl ?_
    refine aw_i2l dX6_sum_13 (by omega) ?_
    refine aw_lconst (a := 1) dX6_sum_14 (by decide) ?_
    refine aw_ldc2 kl_X6_137 dX6_sum_15 ?_
    -- at 18: .invokestatic 66
    refine aw_Si3 kc_X6_66 (c_in (d := d + 9) (by omega) (by omega) (by omega)) rfl (by omega) (Nat.le_of_ble_eq_true rfl) dX6_sum_18 (fun v h' q1 => ?_)
    obtain ⟨rfl, rfl⟩ := q1
    refine aw_flag_eq (tgt := 33) dX6_sum_21 (by decide) (fun c2 => ?_) (fun c2 => ?_)
    · exact bad _ (fun z => c2 z.2.1)
    · refine aw_iload_n dX6_sum_24 rfl ?_
      -- at 25: .ifCond .lt 8
      refine aw_if_lt (tgt := 33) dX6_sum_25 (by omega) (by decide) (fun c3 => ?_) (fun c3 => ?_)
      · exact bad _ (by omega)
      · refine aw_iload dX6_sum_28 rfl ?_
        -- at 30: .ifCond .ge 5
        refine aw_if_ge (tgt := 35) dX6_sum_30 (by omega) (by decide) (fun c4 => ?_) (fun c4 => ?_)
        rotate_left
        · exact bad _ (by omega)
        · obtain ⟨k, rfl⟩ : ∃ k' : Nat, k = (k' : Int) := ⟨k.toNat, by omega⟩
          obtain ⟨D, rfl⟩ : ∃ D' : Nat, D = (D' : Int) := ⟨D.toNat, by omega⟩
          obtain ⟨e, rfl⟩ : ∃ e' : Nat, e = (e' : Int) := ⟨e.toNat, by omega⟩
          have hlen := sm_len (k := k) (D := D) (by omega) (by omega) hp.1 hq
          have ans : sumQ p q (k : Int) (D : Int) (e : Int) i = match (sm D k 0 p q)[e]? with | none => -9 | some l => if 0 ≤ i ∧ i < (k : Int) then l.getD i.toNat 0 else -9 := by
            rw [sumQ, if_pos (by omega), numS, pickS_eq (by omega) (by omega)]
            all_goals (cases (sm D k 0 p q)[e]? <;> rfl)
          refine aw_aload_n dX6_sum_35 rfl ?_
          refine aw_iload_n dX6_sum_36 rfl ?_
          refine aw_iload_n dX6_sum_37 rfl ?_
          refine aw_iload_n dX6_sum_38 rfl ?_
          -- at 39: .invokevirtual 139
          refine aw_Vi3 kc_X6_139 (c6_goes (d := d + 9) (by omega) (by omega) (by omega) hp hq hM hA) (by assumption) rfl rfl (by omega) (Nat.le_of_ble_eq_true rfl) dX6_sum_39 (fun v h1 q1 => ?_)
          obtain ⟨rfl, q2, q3, q4, q5⟩ := q1
          refine aw_iload_n dX6_sum_42 rfl ?_
          -- at 43: .if_icmp .le 19
          refine aw_icmp_le (tgt := 62) dX6_sum_43 (by omega) (by omega) (by decide) (fun c5 => ?_) (fun c5 => ?_)
          · refine aw_bipush dX6_sum_62 (by decide) ?_
            -- at 64: .ireturn
            exact aw_iret rfl dX6_sum_64 ⟨rfl, _, rfl, by rw [ans, List.getElem?_eq_none (by omega)], ⟨_, q2⟩, q3, q5⟩
          · have he' : e < (sm D k 0 p q).length := by omega
            obtain ⟨g1, g2⟩ := sm_mem _ _ _ _ (List.getElem_mem he')
            obtain ⟨fw, y1, y2⟩ := q4 e he' rfl
            rw [List.getElem?_eq_getElem he'] at ans
            dsimp only at ans
            refine aw_iload dX6_sum_46 rfl ?_
            refine aw_iload_n dX6_sum_48 rfl ?_
            -- at 49: .if_icmp .ge 13
            refine aw_icmp_ge (tgt := 62) dX6_sum_49 (by omega) (by omega) (by decide) (fun c6 => ?_) (fun c6 => ?_)
            · refine aw_bipush dX6_sum_62 (by decide) ?_
              -- at 64: .ireturn
              exact aw_iret rfl dX6_sum_64 ⟨rfl, _, rfl, by rw [ans, if_neg (by omega)], ⟨_, q2⟩, q3, q5⟩
            · refine aw_aload_n dX6_sum_52 rfl ?_
              refine aw_get kg_X6_52 (by assumption) (by rfl) dX6_sum_53 ?_
              refine aw_iload dX6_sum_56 rfl ?_
              refine aw_iald (by assumption) (by omega) dX6_sum_58 ?_
              refine aw_goto (tgt := 64) dX6_sum_59 (by decide) ?_
              -- at 64: .ireturn
              exact aw_iret rfl dX6_sum_64 ⟨rfl, _, rfl, by rw [ans, if_pos (by omega)]; exact y2 _ (by omega), ⟨_, q2⟩, q3, q5⟩
theorem c6_few {D : Nat} (hD : D ≤ 60) (hp : 0 ≤ p ∧ p ≤ 99) (hq : 1 ≤ q ∧ q ≤ 99) (hM : h 52 = aO 6 (mdl u p q sn ls e1 e2 e3 e4 e5 e6 e7 e8)) (hA : gtA h) : AC mX6_few (d + 1) 0 0 N h [aR 52, aI (D : Int)] (aqi N fun v h' => v = few5 (fun k => howS k (D : Int) p q) 5 1 ∧ (∃ t, h' 52 = aO 6 (mdl u p q sn ls e1 e2 e3 e4 e5 e6 e7 t)) ∧ gtA h' ∧ ∀ j, j ≠ 52 → (j < 61 ∨ 64 < j) → h' j = h j) := by
  refine AC.of (by decide) (Nat.le_of_ble_eq_true rfl) ?_
  have loop : ∀ (c k : Nat) (h1 : AH) (t : Int), k + c = 6 → 1 ≤ k → h1 52 = aO 6 (mdl u p q sn ls e1 e2 e3 e4 e5 e6 e7 t) → gtA h1 → (∀ j, j ≠ 52 → (j < 61 ∨ 64 < j) → h1 j = h j) → few5 (fun k => howS k (D : Int) p q) c (k : Int) = few5 (fun k => howS k (D : Int) p q) 5 1 → AW mX6_few (am_R (d + 1) 0 0) (am_Z (aqi N fun v h' => v = few5 (fun k => howS k (D : Int) p q) 5 1 ∧ (∃ t, h' 52 = aO 6 (mdl u p q sn ls e1 e2 e3 e4 e5 e6 e7 t)) ∧ gtA h' ∧ ∀ j, j ≠ 52 → (j < 61 ∨ 64 < j) → h' j = h j) 0 0) 0 0 N h1 2 [some (aR 52), some (aI (D : Int)), some (aI (k : Int))] [] := by
    intro c
    induction c with
    | zero =>
      intro k h1 t hk hk1 M1 A1 hfr hV
      refine aw_iload_n dX6_few_2 rfl ?_
      refine aw_iconst dX6_few_3 ?_
      -- at 4: .if_icmp .gt 22
      refine aw_icmp_gt (tgt := 26) dX6_few_4 (by omega) (by omega) (by decide) (fun c1 => ?_) (fun c1 => ?_)
      · refine aw_bipush dX6_few_26 (by decide) ?_
        -- at 28: .ireturn
        exact aw_iret rfl dX6_few_28 ⟨rfl, _, rfl, by rw [← hV]; rfl, ⟨t, M1⟩, A1, hfr⟩
      · omega
    | succ c ih =>
      intro k h1 t hk hk1 M1 A1 hfr hV
      have hlen := sm_len (k := k) (D := D) (by omega) hD hp.1 hq
      rw [few5] at hV
      rw [howS_eq (by omega) hD] at hV
      refine aw_iload_n dX6_few_2 rfl ?_
      refine aw_iconst dX6_few_3 ?_
      -- at 4: .if_icmp .gt 22
      refine aw_icmp_gt (tgt := 26) dX6_few_4 (by omega) (by omega) (by decide) (fun c1 => ?_) (fun c1 => ?_)
      · omega
      · refine aw_aload_n dX6_few_7 rfl ?_
        refine aw_iload_n dX6_few_8 rfl ?_
        refine aw_iload_n dX6_few_9 rfl ?_
        refine aw_bipush dX6_few_10 (by decide) ?_
        -- at 12: .invokevirtual 139
        refine aw_Vi3 kc_X6_139 (c6_goes (d := d) (by omega) hD (by omega) hp hq M1 A1) (by assumption) rfl rfl (by omega) (Nat.le_of_ble_eq_true rfl) dX6_few_12 (fun v h2 q1 => ?_)
        obtain ⟨rfl, q2, q3, -, q5⟩ := q1
        refine aw_if_le (tgt := 20) dX6_few_15 (by omega) (by decide) (fun c2 => ?_) (fun c2 => ?_)
        · rw [if_neg (by omega)] at hV
          refine aw_iinc dX6_few_20 rfl (by decide) ?_
          refine aw_goto (tgt := 2) dX6_few_23 (by decide) ?_
          have K := ih (k + 1) h2 _ (by omega) (by omega) q2 q3 (fun j j1 j2 => (q5 j j1 j2).trans (hfr j j1 j2)) (by rw [← hV]; congr 1)
          rw [show ((k + 1 : Nat) : Int) = (k : Int) + 1 by omega] at K
          exact K
        · rw [if_pos (by omega)] at hV
          refine aw_iload_n dX6_few_18 rfl ?_
          -- at 19: .ireturn
          exact aw_iret rfl dX6_few_19 ⟨rfl, _, rfl, hV, ⟨_, q2⟩, q3, fun j j1 j2 => (q5 j j1 j2).trans (hfr j j1 j2)⟩
  refine aw_iconst dX6_few_0 ?_
  refine aw_istore_n dX6_few_1 (by decide) ?_
  exact loop 5 1 h _ rfl (by omega) hM hA (fun _ _ _ => rfl) rfl
theorem c6_top {k : Nat} (hk : 1 ≤ k ∧ k ≤ 5) (hp : 0 ≤ p ∧ p ≤ 99) (hq : 1 ≤ q ∧ q ≤ 99) (hM : h 52 = aO 6 (mdl u p q sn ls e1 e2 e3 e4 e5 e6 e7 e8)) (hA : gtA h) : AC mX6_top (d + 1) 0 0 N h [aR 52, aI (k : Int)] (aqi N fun v h' => v = bndS (k : Int) p q ∧ (∃ t, h' 52 = aO 6 (mdl u p q sn ls e1 e2 e3 e4 e5 e6 e7 t)) ∧ gtA h' ∧ ∀ j, j ≠ 52 → (j < 61 ∨ 64 < j) → h' j = h j) := by
  refine AC.of (by decide) (Nat.le_of_ble_eq_true rfl) ?_
  refine aw_aload_n dX6_top_0 rfl ?_
  refine aw_iload_n dX6_top_1 rfl ?_
  refine aw_bipush dX6_top_2 (by decide) ?_
  refine aw_bipush dX6_top_4 (by decide) ?_
  -- at 6: .invokevirtual 139
  refine aw_Vi3 kc_X6_139 (c6_goes (d := d) (D := 60) hk (by omega) (by omega) hp hq hM hA) (by assumption) rfl rfl (by omega) (Nat.le_of_ble_eq_true rfl) dX6_top_6 (fun v h2 q1 => ?_)
  obtain ⟨rfl, q2, q3, -, q5⟩ := q1
  refine aw_pop dX6_top_9 rfl ?_
  refine aw_aload_n dX6_top_10 rfl ?_
  refine aw_get kg_X6_134 (by assumption) (by rfl) dX6_top_11 ?_
  -- at 14: .ireturn
  exact aw_iret rfl dX6_top_14 ⟨rfl, _, rfl, by rw [bndS_eq hk], ⟨_, q2⟩, q3, q5⟩
/-- numbers made, or none -/
def frQ (h : AH) (F : Int → List AV) (res : Option (List Int)) (v : Int) (h' : AH) : Prop := ((∃ l, res = some l ∧ v = (l.length : Int) ∧ isArr h' 60 8 l) ∨ (res = none ∧ v = -9 ∧ isArr h' 60 8 [])) ∧ (∃ t, h' 52 = aO 6 (F t)) ∧ gtA h' ∧ ∀ j, j ≠ 52 → j ≠ 60 → (j < 61 ∨ 64 < j) → h' j = h j
theorem isArr.nil {h : AH} {r len : Nat} {l : List Int} (H : isArr h r len l) : isArr h r len [] := by
  obtain ⟨f, x, -⟩ := H
  exact ⟨f, x, fun i hi => absurd hi (by simp)⟩
theorem c6_firstOf {k D : Int} (hk : k = -9 ∨ ((1 ≤ k ∧ k ≤ 5) ∧ (0 ≤ D ∧ D ≤ 60) ∧ 0 < (sm D.toNat k.toNat 0 p q).length)) (hp : 0 ≤ p ∧ p ≤ 99) (hq : 1 ≤ q ∧ q ≤ 99) (hM : h 52 = aO 6 (mdl u p q sn ls e1 e2 e3 e4 e5 e6 e7 e8)) (hA : gtA h) (hB : isArr h 60 8 []) : AC mX6_firstOf (d + 1) 0 0 N h [aR 52, aI k, aI D] (aqi N fun v h' => frQ h (mdl u p q sn ls e1 e2 e3 e4 e5 e6 e7) (pickS k D p q 0) v h') := by
  refine AC.of (by decide) (Nat.le_of_ble_eq_true rfl) ?_
  rcases hk with rfl | ⟨k1, k2, k3⟩
  · refine aw_iload_n dX6_firstOf_0 rfl ?_
    refine aw_bipush dX6_firstOf_1 (by decide) ?_
    -- at 3: .if_icmp .ne 6
    refine aw_icmp_ne (tgt := 9) dX6_firstOf_3 (by omega) (by omega) (by decide) (fun c1 => ?_) (fun c1 => ?_)
    · omega
    · refine aw_bipush dX6_firstOf_6 (by decide) ?_
      -- at 8: .ireturn
      exact aw_iret rfl dX6_firstOf_8 ⟨rfl, _, rfl, Or.inr ⟨by rw [pickS, if_neg (by omega)], rfl, hB⟩, ⟨_, hM⟩, hA, fun _ _ _ _ => rfl⟩
  · obtain ⟨k, rfl⟩ : ∃ k' : Nat, k = (k' : Int) := ⟨k.toNat, by omega⟩
    obtain ⟨D, rfl⟩ : ∃ D' : Nat, D = (D' : Int) := ⟨D.toNat, by omega⟩
    rw [Int.toNat_natCast, Int.toNat_natCast] at k3
    have eP : pickS (k : Int) (D : Int) p q 0 = some ((sm D k 0 p q)[0]) := by
      have := pickS_eq (p := p) (q := q) (k := k) (D := D) (j := 0) (by omega) (by omega)
      rw [List.getElem?_eq_getElem k3] at this
      exact this
    obtain ⟨g1, g2⟩ := sm_mem _ _ _ _ (List.getElem_mem k3)
    rw [eP]
    refine aw_iload_n dX6_firstOf_0 rfl ?_
    refine aw_bipush dX6_firstOf_1 (by decide) ?_
    -- at 3: .if_icmp .ne 6
    refine aw_icmp_ne (tgt := 9) dX6_firstOf_3 (by omega) (by omega) (by decide) (fun c1 => ?_) (fun c1 => ?_)
    rotate_left
    · omega
    · refine aw_aload_n dX6_firstOf_9 rfl ?_
      refine aw_iload_n dX6_firstOf_10 rfl ?_
      refine aw_iload_n dX6_firstOf_11 rfl ?_
      refine aw_iconst dX6_firstOf_12 ?_
      -- at 13: .invokevirtual 139
      refine aw_Vi3 kc_X6_139 (c6_goes (d := d) (by omega) (by omega) (by omega) hp hq hM hA) (by assumption) rfl rfl (by omega) (Nat.le_of_ble_eq_true rfl) dX6_firstOf_13 (fun v h2 q1 => ?_)
      obtain ⟨rfl, q2, q3, q4, q5⟩ := q1
      obtain ⟨fw, y1, y2⟩ := q4 0 k3 rfl
      obtain ⟨fb, b1, -⟩ := hB
      have loop : ∀ (c i : Nat) (h3 : AH) (f3 : Nat → Int), i + c = k → h3 60 = aA 0 8 f3 → (∀ j, j < i → f3 j = ((sm D k 0 p q)[0]).getD j 0) → (∀ j, j ≠ 60 → h3 j = h2 j) → AW mX6_firstOf (am_R (d + 1) 0 0) (am_Z (aqi N fun v h' => frQ h (mdl u p q sn ls e1 e2 e3 e4 e5 e6 e7) (some ((sm D k 0 p q)[0])) v h') 0 0) 0 0 N h3 19 [some (aR 52), some (aI (k : Int)), some (aI (D : Int)), some (aI (i : Int))] [] := by
        intro c
        induction c with
        | zero =>
          intro i h3 f3 hi e3 e4 hfr
          refine aw_iload_n dX6_firstOf_19 rfl ?_
          refine aw_iload_n dX6_firstOf_20 rfl ?_
          -- at 21: .if_icmp .ge 21
          refine aw_icmp_ge (tgt := 42) dX6_firstOf_21 (by omega) (by omega) (by decide) (fun c2 => ?_) (fun c2 => ?_)
          · refine aw_iload_n dX6_firstOf_42 rfl ?_
            -- at 43: .ireturn
            exact aw_iret rfl dX6_firstOf_43 ⟨rfl, _, rfl, Or.inl ⟨_, rfl, by omega, f3, e3, fun j hj => e4 j (by omega)⟩, ⟨_, (hfr 52 (by omega)).trans q2⟩, q3.fr (fun j j1 j2 => hfr j (by omega)), fun j j1 j2 j3 => (hfr j j2).trans (q5 j j1 j3)⟩
          · omega
        | succ c ih =>
          intro i h3 f3 hi e3 e4 hfr
          have m3 := (hfr 52 (by omega)).trans q2
          have w3 := (hfr 64 (by omega)).trans y1
          refine aw_iload_n dX6_firstOf_19 rfl ?_
          refine aw_iload_n dX6_firstOf_20 rfl ?_
          -- at 21: .if_icmp .ge 21
          refine aw_icmp_ge (tgt := 42) dX6_firstOf_21 (by omega) (by omega) (by decide) (fun c2 => ?_) (fun c2 => ?_)
          · omega
          · refine aw_aload_n dX6_firstOf_24 rfl ?_
            refine aw_get kg_X6_39 (by assumption) (by rfl) dX6_firstOf_25 ?_
            refine aw_iload_n dX6_firstOf_28 rfl ?_
            refine aw_aload_n dX6_firstOf_29 rfl ?_
            refine aw_get kg_X6_52 (by assumption) (by rfl) dX6_firstOf_30 ?_
            refine aw_iload_n dX6_firstOf_33 rfl ?_
            refine aw_iald (by assumption) (by omega) dX6_firstOf_34 ?_
            -- at 35: .iastore
            refine aw_iastO (by assumption) (by omega) dX6_firstOf_35 (fun h4 b4 f4 => ?_)
            rw [Int.toNat_natCast] at b4
            refine aw_iinc dX6_firstOf_36 rfl (by decide) ?_
            refine aw_goto (tgt := 19) dX6_firstOf_39 (by decide) ?_
            have K := ih (i + 1) h4 _ (by omega) b4 (fun j hj => ?_) (fun j hj => (f4 j hj).trans (hfr j hj))
            · rw [show ((i + 1 : Nat) : Int) = (i : Int) + 1 by omega] at K
              exact K
            · by_cases z : j = i
              · rw [z, va_up_s]; exact y2 i (by omega)
              · rw [va_up_n _ _ _ z]; exact e4 j (by omega)
      refine aw_pop dX6_firstOf_16 rfl ?_
      refine aw_iconst dX6_firstOf_17 ?_
      refine aw_istore_n dX6_firstOf_18 (by decide) ?_
      exact loop k 0 h2 fb (Nat.zero_add _) ((q5 60 (by omega) (by omega)).trans b1) (fun j hj => by omega) (fun _ _ => rfl)
theorem c6_byLeastTop (hp : 0 ≤ p ∧ p ≤ 99) (hq : 1 ≤ q ∧ q ≤ 99) (hM : h 52 = aO 6 (mdl u p q sn ls e1 e2 e3 e4 e5 e6 e7 e8)) (hA : gtA h) (hB : isArr h 60 8 []) : AC mX6_byLeastTop (d + 2) 0 0 N h [aR 52] (aqi N fun v h' => frQ h (mdl u p q sn ls e1 e2 e3 e4 e5 e6 e7) (pickS (bl5 (fun k => bndS k p q) 5 1 (-9) 61).1 (bndS (bl5 (fun k => bndS k p q) 5 1 (-9) 61).1 p q) p q 0) v h') := by
  refine AC.of (by decide) (Nat.le_of_ble_eq_true rfl) ?_
  have loop : ∀ (c k : Nat) (best least t : Int) (h1 : AH) (L4 : Option AV), k + c = 6 → 1 ≤ k → -9 ≤ least ∧ least ≤ 61 → (best = -9 ∨ ((1 ≤ best ∧ best ≤ 5) ∧ least = bndS best p q ∧ least ≠ -9)) → h1 52 = aO 6 (mdl u p q sn ls e1 e2 e3 e4 e5 e6 e7 t) → gtA h1 → (∀ j, j ≠ 52 → (j < 61 ∨ 64 < j) → h1 j = h j) → bl5 (fun k => bndS k p q) c (k : Int) best least = bl5 (fun k => bndS k p q) 5 1 (-9) 61 → AW mX6_byLeastTop (am_R (d + 2) 0 0) (am_Z (aqi N fun v h' => frQ h (mdl u p q sn ls e1 e2 e3 e4 e5 e6 e7) (pickS (bl5 (fun k => bndS k p q) 5 1 (-9) 61).1 (bndS (bl5 (fun k => bndS k p q) 5 1 (-9) 61).1 p q) p q 0) v h') 0 0) 0 0 N h1 8 [some (aR 52), some (aI best), some (aI least), some (aI (k : Int)), L4] [] := by
    intro c
    induction c with
    | zero =>
      intro k best least t h1 L4 hk hk1 hl hb M1 A1 hfr hV
      rw [← hV]
      have eb : bl5 (fun k => bndS k p q) 0 (k : Int) best least = (best, least) := rfl
      rw [eb]
      dsimp only
      refine aw_iload_n dX6_byLeastTop_8 rfl ?_
      refine aw_iconst dX6_byLeastTop_9 ?_
      -- at 10: .if_icmp .gt 34
      refine aw_icmp_gt (tgt := 44) dX6_byLeastTop_10 (by omega) (by omega) (by decide) (fun c1 => ?_) (fun c1 => ?_)
      · refine aw_aload_n dX6_byLeastTop_44 rfl ?_
        refine aw_iload_n dX6_byLeastTop_45 rfl ?_
        refine aw_iload_n dX6_byLeastTop_46 rfl ?_
        -- at 47: .invokevirtual 147
        rcases hb with rfl | ⟨b1, rfl, b3⟩
        · refine aw_Vi2 kc_X6_147 (c6_firstOf (d := d) (Or.inl rfl) hp hq M1 A1 (hB.fr (hfr 60 (by omega) (by omega)))) (by assumption) rfl rfl (by omega) (Nat.le_of_ble_eq_true rfl) dX6_byLeastTop_47 (fun v h2 q1 => ?_)
          obtain ⟨q1, q2, q3, q4⟩ := q1
          have e : pickS (-9) least p q 0 = pickS (-9) (bndS (-9) p q) p q 0 := by rw [pickS, pickS, if_neg (by omega), if_neg (by omega)]
          rw [e] at q1
          exact aw_iret rfl dX6_byLeastTop_50 ⟨rfl, _, rfl, q1, q2, q3, fun j j1 j2 j3 => (q4 j j1 j2 j3).trans (hfr j j1 j3)⟩
        · obtain ⟨B, rfl⟩ : ∃ B : Nat, best = (B : Int) := ⟨best.toNat, by omega⟩
          obtain ⟨s1, s2, s3⟩ := bnd_some (by omega) b3
          refine aw_Vi2 kc_X6_147 (c6_firstOf (d := d) (Or.inr ⟨b1, ⟨by omega, s2⟩, by rw [Int.toNat_natCast]; exact s3⟩) hp hq M1 A1 (hB.fr (hfr 60 (by omega) (by omega)))) (by assumption) rfl rfl (by omega) (Nat.le_of_ble_eq_true rfl) dX6_byLeastTop_47 (fun v h2 q1 => ?_)
          obtain ⟨q1, q2, q3, q4⟩ := q1
          exact aw_iret rfl dX6_byLeastTop_50 ⟨rfl, _, rfl, q1, q2, q3, fun j j1 j2 j3 => (q4 j j1 j2 j3).trans (hfr j j1 j3)⟩
      · omega
    | succ c ih =>
      intro k best least t h1 L4 hk hk1 hl hb M1 A1 hfr hV
      have rng := bndS_rng (k : Int) p q
      rw [bl5] at hV
      refine aw_iload_n dX6_byLeastTop_8 rfl ?_
      refine aw_iconst dX6_byLeastTop_9 ?_
      -- at 10: .if_icmp .gt 34
      refine aw_icmp_gt (tgt := 44) dX6_byLeastTop_10 (by omega) (by omega) (by decide) (fun c1 => ?_) (fun c1 => ?_)
      · omega
      · refine aw_aload_n dX6_byLeastTop_13 rfl ?_
        refine aw_iload_n dX6_byLeastTop_14 rfl ?_
        -- at 15: .invokevirtual 143
        refine aw_Vi1 kc_X6_143 (c6_top (d := d) (by omega) hp hq M1 A1) (by assumption) rfl rfl (by omega) (Nat.le_of_ble_eq_true rfl) dX6_byLeastTop_15 (fun v h2 q1 => ?_)
        obtain ⟨rfl, ⟨t2, q2⟩, q3, q5⟩ := q1
        have skip : ¬ (bndS (k : Int) p q ≠ -9 ∧ bndS (k : Int) p q < least) → AW mX6_byLeastTop (am_R (d + 2) 0 0) (am_Z (aqi N fun v h' => frQ h (mdl u p q sn ls e1 e2 e3 e4 e5 e6 e7) (pickS (bl5 (fun k => bndS k p q) 5 1 (-9) 61).1 (bndS (bl5 (fun k => bndS k p q) 5 1 (-9) 61).1 p q) p q 0) v h') 0 0) 0 0 N h2 38 [some (aR 52), some (aI best), some (aI least), some (aI (k : Int)), some (aI (bndS (k : Int) p q))] [] := by
          intro z
          rw [if_neg z] at hV
          refine aw_iinc dX6_byLeastTop_38 rfl (by decide) ?_
          refine aw_goto (tgt := 8) dX6_byLeastTop_41 (by decide) ?_
          have K := ih (k + 1) best least t2 h2 (some (aI (bndS (k : Int) p q))) (by omega) (by omega) hl hb q2 q3 (fun j j1 j2 => (q5 j j1 j2).trans (hfr j j1 j2)) (by rw [← hV]; congr 1)
          rw [show ((k + 1 : Nat) : Int) = (k : Int) + 1 by omega] at K
          exact K
        refine aw_istore dX6_byLeastTop_18 (by decide) ?_
        refine aw_iload dX6_byLeastTop_20 rfl ?_
        refine aw_bipush dX6_byLeastTop_22 (by decide) ?_
        -- at 24: .if_icmp .eq 14
        refine aw_icmp_eq (tgt := 38) dX6_byLeastTop_24 (by omega) (by omega) (by decide) (fun c2 => ?_) (fun c2 => ?_)
        · exact skip (by omega)
        · refine aw_iload dX6_byLeastTop_27 rfl ?_
          refine aw_iload_n dX6_byLeastTop_29 rfl ?_
          -- at 30: .if_icmp .ge 8
          refine aw_icmp_ge (tgt := 38) dX6_byLeastTop_30 (by omega) (by omega) (by decide) (fun c3 => ?_) (fun c3 => ?_)
          · exact skip (by omega)
          · rw [if_pos (by omega)] at hV
            refine aw_iload_n dX6_byLeastTop_33 rfl ?_
            refine aw_istore_n dX6_byLeastTop_34 (by decide) ?_
            refine aw_iload dX6_byLeastTop_35 rfl ?_
            refine aw_istore_n dX6_byLeastTop_37 (by decide) ?_
            refine aw_iinc dX6_byLeastTop_38 rfl (by decide) ?_
            refine aw_goto (tgt := 8) dX6_byLeastTop_41 (by decide) ?_
            have K := ih (k + 1) (k : Int) (bndS (k : Int) p q) t2 h2 (some (aI (bndS (k : Int) p q))) (by omega) (by omega) (by omega) (Or.inr ⟨by omega, rfl, c2⟩) q2 q3 (fun j j1 j2 => (q5 j j1 j2).trans (hfr j j1 j2)) (by rw [← hV]; congr 1)
            rw [show ((k + 1 : Nat) : Int) = (k : Int) + 1 by omega] at K
            exact K
  refine aw_bipush dX6_byLeastTop_0 (by decide) ?_
  refine aw_istore_n dX6_byLeastTop_2 (by decide) ?_
  refine aw_bipush dX6_byLeastTop_3 (by decide) ?_
  refine aw_istore_n dX6_byLeastTop_5 (by decide) ?_
  refine aw_iconst dX6_byLeastTop_6 ?_
  refine aw_istore_n dX6_byLeastTop_7 (by decide) ?_
  exact loop 5 1 (-9) 61 _ h none rfl (by omega) (by omega) (Or.inl rfl) hM hA (fun _ _ _ => rfl) rfl
theorem c6_fewest {D : Int} (hD : -2147483648 ≤ D ∧ D ≤ 2147483647) (hp : 0 ≤ p ∧ p ≤ 99) (hq : 1 ≤ q ∧ q ≤ 99) (hM : h 52 = aO 6 (mdl u p q sn ls e1 e2 e3 e4 e5 e6 e7 e8)) (hA : gtA h) : AC mX6_fewest (d + 10) 0 0 N h [aR 52, aI D] (aqi N fun v h' => v = fewQ p q D ∧ (∃ t, h' 52 = aO 6 (mdl u p q sn ls e1 e2 e3 e4 e5 e6 e7 t)) ∧ gtA h' ∧ ∀ j, j ≠ 52 → (j < 61 ∨ 64 < j) → h' j = h j) := by
  refine AC.of (by decide) (Nat.le_of_ble_eq_true rfl) ?_
  refine aw_iload_n dX6_fewest_0 rfl ?_
  refine aw_i2l dX6_fewest_1 (by omega) ?_
  refine aw_lconst (a := 1) dX6_fewest_2 (by decide) ?_
  refine aw_ldc2 kl_X6_137 dX6_fewest_3 ?_
  -- at 6: .invokestatic 66
  refine aw_Si3 kc_X6_66 (c_in (d := d + 9) (by omega) (by omega) (by omega)) rfl (by omega) (Nat.le_of_ble_eq_true rfl) dX6_fewest_6 (fun v h' q1 => ?_)
  obtain ⟨rfl, rfl⟩ := q1
  refine aw_flag_eq (tgt := 20) dX6_fewest_9 (by decide) (fun c1 => ?_) (fun c1 => ?_)
  · refine aw_iconst dX6_fewest_20 ?_
    -- at 21: .ireturn
    exact aw_iret rfl dX6_fewest_21 ⟨rfl, _, rfl, by rw [fewQ, if_neg c1], ⟨_, hM⟩, hA, fun _ _ _ => rfl⟩
  · obtain ⟨D, rfl⟩ : ∃ D' : Nat, D = (D' : Int) := ⟨D.toNat, by omega⟩
    refine aw_aload_n dX6_fewest_12 rfl ?_
    refine aw_iload_n dX6_fewest_13 rfl ?_
    -- at 14: .invokevirtual 156
    refine aw_Vi1 kc_X6_156 (c6_few (d := d + 8) (by omega) hp hq hM hA) (by assumption) rfl rfl (by omega) (Nat.le_of_ble_eq_true rfl) dX6_fewest_14 (fun v h1 q1 => ?_)
    obtain ⟨rfl, q2, q3, q5⟩ := q1
    refine aw_goto (tgt := 21) dX6_fewest_17 (by decide) ?_
    -- at 21: .ireturn
    exact aw_iret rfl dX6_fewest_21 ⟨rfl, _, rfl, by rw [fewQ, if_pos c1], q2, q3, q5⟩
theorem c6_bound {k : Int} (hk : -2147483648 ≤ k ∧ k ≤ 2147483647) (hp : 0 ≤ p ∧ p ≤ 99) (hq : 1 ≤ q ∧ q ≤ 99) (hM : h 52 = aO 6 (mdl u p q sn ls e1 e2 e3 e4 e5 e6 e7 e8)) (hA : gtA h) : AC mX6_bound (d + 10) 0 0 N h [aR 52, aI k] (aqi N fun v h' => v = bndQ p q k ∧ (∃ t, h' 52 = aO 6 (mdl u p q sn ls e1 e2 e3 e4 e5 e6 e7 t)) ∧ gtA h' ∧ ∀ j, j ≠ 52 → (j < 61 ∨ 64 < j) → h' j = h j) := by
  refine AC.of (by decide) (Nat.le_of_ble_eq_true rfl) ?_
  refine aw_iload_n dX6_bound_0 rfl ?_
  refine aw_i2l dX6_bound_1 (by omega) ?_
  refine aw_lconst (a := 1) dX6_bound_2 (by decide) ?_
  refine aw_ldc2 kl_X6_154 dX6_bound_3 ?_
  -- at 6: .invokestatic 66
  refine aw_Si3 kc_X6_66 (c_in (d := d + 9) (by omega) (by omega) (by omega)) rfl (by omega) (Nat.le_of_ble_eq_true rfl) dX6_bound_6 (fun v h' q1 => ?_)
  obtain ⟨rfl, rfl⟩ := q1
  refine aw_flag_eq (tgt := 20) dX6_bound_9 (by decide) (fun c1 => ?_) (fun c1 => ?_)
  · refine aw_iconst dX6_bound_20 ?_
    -- at 21: .ireturn
    exact aw_iret rfl dX6_bound_21 ⟨rfl, _, rfl, by rw [bndQ, if_neg c1], ⟨_, hM⟩, hA, fun _ _ _ => rfl⟩
  · obtain ⟨k, rfl⟩ : ∃ k' : Nat, k = (k' : Int) := ⟨k.toNat, by omega⟩
    refine aw_aload_n dX6_bound_12 rfl ?_
    refine aw_iload_n dX6_bound_13 rfl ?_
    -- at 14: .invokevirtual 143
    refine aw_Vi1 kc_X6_143 (c6_top (d := d + 8) (by omega) hp hq hM hA) (by assumption) rfl rfl (by omega) (Nat.le_of_ble_eq_true rfl) dX6_bound_14 (fun v h1 q1 => ?_)
    obtain ⟨rfl, q2, q3, q5⟩ := q1
    refine aw_goto (tgt := 21) dX6_bound_17 (by decide) ?_
    -- at 21: .ireturn
    exact aw_iret rfl dX6_bound_21 ⟨rfl, _, rfl, by rw [bndQ, if_pos c1], q2, q3, q5⟩
end Sums6
