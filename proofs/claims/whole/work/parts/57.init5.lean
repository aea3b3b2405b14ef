/-! the class made anew -/
section Init5
variable {d : Nat} {h : AH}
theorem c5_init (hX0 : ∀ (d : Nat) (h : AH), h 38 = aO 0 [aI 0, aI 0, aN, aN, aN] → AC mX0_init (d + 4) 9 786 38 h [aR 38] (fun o n' h' => o = none ∧ n' = 47 ∧ finSt h' 2 3 ∧ ∀ j, j < 38 → h' j = h j)) (H : h 1 = aO 5 [aI 0, aI 0, aN, aN, aN, aN, aN, aN, aN, aN]) : AC mX5_init (d + 10) 50 1048 1 h [aR 1] (fun o n' h' => o = none ∧ n' = 51 ∧ RC h' s0W ∧ ∀ j, j < 1 → h' j = h j) := by
  refine AC.of (by decide) (Nat.le_of_ble_eq_true rfl) ?_
  refine aw_aload_n dX5_init_0 rfl ?_
  refine aw_objInit kc_X5_1 ks_obj kd_obj (Nat.le_of_ble_eq_true rfl) (by show 1 ≤ d + 10; omega) (by show 20 ≤ 64 * (d + 10); omega) dX5_init_1 ?_
  refine aw_aload_n dX5_init_4 rfl ?_
  refine aw_iconst dX5_init_5 ?_
  -- at 6: .putfield 9
  refine aw_putO kp_X5_9 (by assumption) (by simp) (aw_ni _) dX5_init_6 (fun h1 x1 y1 => ?_)
  have x1 : h1 1 = aO 5 [aI 2, aI 0, aN, aN, aN, aN, aN, aN, aN, aN] := x1
  refine aw_aload_n dX5_init_9 rfl ?_
  refine aw_iconst dX5_init_10 ?_
  -- at 11: .putfield 13
  refine aw_putO kp_X5_13 (by assumption) (by simp) (aw_ni _) dX5_init_11 (fun h2 x2 y2 => ?_)
  have x2 : h2 1 = aO 5 [aI 2, aI 3, aN, aN, aN, aN, aN, aN, aN, aN] := x2
  refine aw_aload_n dX5_init_14 rfl ?_
  -- at 15: .new 16
  refine aw_new an_X5_16 (Nat.le_of_ble_eq_true rfl) (Nat.le_of_ble_eq_true rfl) dX5_init_15 ?_
  refine aw_dup dX5_init_18 rfl ?_
  obtain ⟨g3, hg3⟩ : ∃ g, g = va_up h2 2 (aO 2 [aN, aI 0]) := ⟨_, rfl⟩
  refine aw_hp hg3.symm ?_
  have a3 : g3 2 = aO 2 [aN, aI 0] := by rw [hg3]; exact va_up_s ..
  have u3 : ∀ j, j ≠ 2 → g3 j = h2 j := fun j hj => by rw [hg3, va_up_n _ _ _ hj]
  refine aw_callJ (As := []) (d := d + 1) (mc := 1) (ms := 8) kc_X5_18 (c_Row_init (d := d) (n := 2) (Nat.le_refl _) a3) a3 rfl rfl (by show d + 1 + 1 ≤ d + 10; omega) (by show 64 * (d + 1) + 59 ≤ 64 * (d + 10); omega) (Nat.le_of_ble_eq_true rfl) (Nat.le_of_ble_eq_true rfl) (Nat.le_of_ble_eq_true rfl) dX5_init_19 (fun o n' k3 q3 => ?_)
  obtain ⟨rfl, rfl, r3, w3⟩ := q3
  have v3 : ∀ j, j < 2 → k3 j = h2 j := fun j hj => (w3 j (by omega) (by omega)).trans (u3 j (by omega))
  have m3 := (v3 1 (by omega)).trans x2
  have z3 := r3.1
  refine aw_putFO kp_X5_19 rfl (by assumption) (by simp) (aw_no _ _) dX5_init_22 (fun h3 x3 y3 => ?_)
  have x3 : h3 1 = aO 5 [aI 2, aI 3, aR 2, aN, aN, aN, aN, aN, aN, aN] := x3
  refine aw_aload_n dX5_init_25 rfl ?_
  -- at 26: .new 16
  refine aw_new an_X5_16 (Nat.le_of_ble_eq_true rfl) (Nat.le_of_ble_eq_true rfl) dX5_init_26 ?_
  refine aw_dup dX5_init_29 rfl ?_
  obtain ⟨g4, hg4⟩ : ∃ g, g = va_up h3 4 (aO 2 [aN, aI 0]) := ⟨_, rfl⟩
  refine aw_hp hg4.symm ?_
  have a4 : g4 4 = aO 2 [aN, aI 0] := by rw [hg4]; exact va_up_s ..
  have u4 : ∀ j, j ≠ 4 → g4 j = h3 j := fun j hj => by rw [hg4, va_up_n _ _ _ hj]
  refine aw_callJ (As := []) (d := d + 1) (mc := 1) (ms := 8) kc_X5_18 (c_Row_init (d := d) (n := 4) (Nat.le_refl _) a4) a4 rfl rfl (by show d + 1 + 1 ≤ d + 10; omega) (by show 64 * (d + 1) + 59 ≤ 64 * (d + 10); omega) (Nat.le_of_ble_eq_true rfl) (Nat.le_of_ble_eq_true rfl) (Nat.le_of_ble_eq_true rfl) dX5_init_30 (fun o n' k4 q4 => ?_)
  obtain ⟨rfl, rfl, r4, w4⟩ := q4
  have v4 : ∀ j, j < 4 → k4 j = h3 j := fun j hj => (w4 j (by omega) (by omega)).trans (u4 j (by omega))
  have m4 := (v4 1 (by omega)).trans x3
  have z4 := r4.1
  refine aw_putFO kp_X5_23 rfl (by assumption) (by simp) (aw_no _ _) dX5_init_33 (fun h4 x4 y4 => ?_)
  have x4 : h4 1 = aO 5 [aI 2, aI 3, aR 2, aR 4, aN, aN, aN, aN, aN, aN] := x4
  refine aw_aload_n dX5_init_36 rfl ?_
  -- at 37: .new 26
  refine aw_new an_X5_26 (Nat.le_of_ble_eq_true rfl) (Nat.le_of_ble_eq_true rfl) dX5_init_37 ?_
  refine aw_dup dX5_init_40 rfl ?_
  obtain ⟨g5, hg5⟩ : ∃ g, g = va_up h4 6 (aO 3 [aN, aI 0, aI 0, aI 0, aI 0, aI 0, aI 0, aI 0, aN]) := ⟨_, rfl⟩
  refine aw_hp hg5.symm ?_
  have a5 : g5 6 = aO 3 [aN, aI 0, aI 0, aI 0, aI 0, aI 0, aI 0, aI 0, aN] := by rw [hg5]; exact va_up_s ..
  have u5 : ∀ j, j ≠ 6 → g5 j = h4 j := fun j hj => by rw [hg5, va_up_n _ _ _ hj]
  refine aw_callJ (As := []) (d := d + 4) (mc := 3) (ms := 70) kc_X5_28 (c_Scr_init (d := d) (n := 6) (Nat.le_refl _) a5) a5 rfl rfl (by show d + 4 + 1 ≤ d + 10; omega) (by show 64 * (d + 4) + 59 ≤ 64 * (d + 10); omega) (Nat.le_of_ble_eq_true rfl) (Nat.le_of_ble_eq_true rfl) (Nat.le_of_ble_eq_true rfl) dX5_init_41 (fun o n' k5 q5 => ?_)
  obtain ⟨rfl, rfl, r5, r5', r5'', w5⟩ := q5
  have v5 : ∀ j, j < 6 → k5 j = h4 j := fun j hj => (w5 j (by omega) (by omega)).trans (u5 j (by omega))
  have m5 := (v5 1 (by omega)).trans x4
  refine aw_putFO kp_X5_29 rfl (by assumption) (by simp) (aw_no _ _) dX5_init_44 (fun h5 x5 y5 => ?_)
  have x5 : h5 1 = aO 5 [aI 2, aI 3, aR 2, aR 4, aR 6, aN, aN, aN, aN, aN] := x5
  refine aw_aload_n dX5_init_47 rfl ?_
  -- at 48: .new 33
  refine aw_new an_X5_33 (Nat.le_of_ble_eq_true rfl) (Nat.le_of_ble_eq_true rfl) dX5_init_48 ?_
  refine aw_dup dX5_init_51 rfl ?_
  obtain ⟨g6, hg6⟩ : ∃ g, g = va_up h5 10 (aO 1 [aN, aI 0]) := ⟨_, rfl⟩
  refine aw_hp hg6.symm ?_
  have a6 : g6 10 = aO 1 [aN, aI 0] := by rw [hg6]; exact va_up_s ..
  have u6 : ∀ j, j ≠ 10 → g6 j = h5 j := fun j hj => by rw [hg6, va_up_n _ _ _ hj]
  refine aw_callI (As := []) (d := d + 4) (mc := 21) (ms := 110) kc_X5_35 (c_Hist_init (d := d) (n := 10) (Nat.le_refl _) a6) a6 rfl rfl (by show d + 4 + 1 ≤ d + 10; omega) (by show 64 * (d + 4) + 59 ≤ 64 * (d + 10); omega) (Nat.le_of_ble_eq_true rfl) (Nat.le_of_ble_eq_true rfl) (Nat.le_of_ble_eq_true rfl) dX5_init_52 (fun o n' k6 q6 => ?_)
  obtain ⟨rfl, rfl, r6, r6', r6'', w6⟩ := q6
  have v6 : ∀ j, j < 10 → k6 j = h5 j := fun j hj => (w6 j (by omega) (by omega)).trans (u6 j (by omega))
  have m6 := (v6 1 (by omega)).trans x5
  refine aw_putFO kp_X5_36 rfl (by assumption) (by simp) (aw_no _ _) dX5_init_55 (fun h6 x6 y6 => ?_)
  have x6 : h6 1 = aO 5 [aI 2, aI 3, aR 2, aR 4, aR 6, aR 10, aN, aN, aN, aN] := x6
  refine aw_aload_n dX5_init_58 rfl ?_
  refine aw_iconst dX5_init_59 ?_
  refine aw_newR kn_X5_16 (by decide) (Nat.le_of_ble_eq_true rfl) (Nat.le_of_ble_eq_true rfl) dX5_init_60 ?_
  obtain ⟨g7, hg7⟩ : ∃ g, g = va_up h6 32 (aQ 4 (2 : Int).toNat (fun _ => none)) := ⟨_, rfl⟩
  refine aw_hp hg7.symm ?_
  have a7 : g7 32 = aQ 4 2 (fun _ => none) := by rw [hg7]; exact va_up_s ..
  have u7 : ∀ j, j ≠ 32 → g7 j = h6 j := fun j hj => by rw [hg7, va_up_n _ _ _ hj]
  have m7 := (u7 1 (by omega)).trans x6
  refine aw_putFO kp_X5_40 rfl (by assumption) (by simp) (aw_na _ _) dX5_init_63 (fun h7 x7 y7 => ?_)
  have x7 : h7 1 = aO 5 [aI 2, aI 3, aR 2, aR 4, aR 6, aR 10, aR 32, aN, aN, aN] := x7
  have i7 : h7 32 = aQ 4 2 (fun _ => none) := (y7 32 (by omega)).trans a7
  refine aw_iconst dX5_init_66 ?_
  refine aw_istore_n dX5_init_67 (by decide) ?_
  refine aw_iload_n dX5_init_68 rfl ?_
  refine aw_iconst dX5_init_69 ?_
  refine aw_icmp_ge (tgt := 92) dX5_init_70 (by omega) (by omega) (by decide) (fun c1 => ?_) (fun c1 => ?_)
  · omega
  refine aw_aload_n dX5_init_73 rfl ?_
  refine aw_get kg_X5_40 x7 (by rfl) dX5_init_74 ?_
  refine aw_iload_n dX5_init_77 rfl ?_
  refine aw_new an_X5_16 (Nat.le_of_ble_eq_true rfl) (Nat.le_of_ble_eq_true rfl) dX5_init_78 ?_
  refine aw_dup dX5_init_81 rfl ?_
  obtain ⟨g8, hg8⟩ : ∃ g, g = va_up h7 33 (aO 2 [aN, aI 0]) := ⟨_, rfl⟩
  refine aw_hp hg8.symm ?_
  have a8 : g8 33 = aO 2 [aN, aI 0] := by rw [hg8]; exact va_up_s ..
  have u8 : ∀ j, j ≠ 33 → g8 j = h7 j := fun j hj => by rw [hg8, va_up_n _ _ _ hj]
  refine aw_callJ (As := []) (d := d + 1) (mc := 1) (ms := 8) kc_X5_18 (c_Row_init (d := d) (n := 33) (Nat.le_refl _) a8) a8 rfl rfl (by show d + 1 + 1 ≤ d + 10; omega) (by show 64 * (d + 1) + 59 ≤ 64 * (d + 10); omega) (Nat.le_of_ble_eq_true rfl) (Nat.le_of_ble_eq_true rfl) (Nat.le_of_ble_eq_true rfl) dX5_init_82 (fun o n' k8 q8 => ?_)
  obtain ⟨rfl, rfl, r8, w8⟩ := q8
  have v8 : ∀ j, j < 33 → k8 j = h7 j := fun j hj => (w8 j (by omega) (by omega)).trans (u8 j (by omega))
  have m8 := (v8 1 (by omega)).trans x7
  have z8 := r8.1
  have i8 := (v8 32 (by omega)).trans i7
  refine aw_aast i8 (by omega) z8 dX5_init_85 ?_
  obtain ⟨h8, hh8⟩ : ∃ g, g = va_up k8 32 (aQ 4 2 (va_up (fun _ => none) (0 : Int).toNat (some 33))) := ⟨_, rfl⟩
  refine aw_hp hh8.symm ?_
  have j8 : h8 32 = aQ 4 2 (va_up (fun _ => none) 0 (some 33)) := by rw [hh8]; exact va_up_s ..
  have y8 : ∀ j, j ≠ 32 → h8 j = k8 j := fun j hj => by rw [hh8, va_up_n _ _ _ hj]
  have x8 := (y8 1 (by omega)).trans m8
  refine aw_iinc dX5_init_86 rfl (by decide) ?_
  refine aw_goto (tgt := 68) dX5_init_89 (by decide) ?_
  refine aw_iload_n dX5_init_68 rfl ?_
  refine aw_iconst dX5_init_69 ?_
  refine aw_icmp_ge (tgt := 92) dX5_init_70 (by omega) (by omega) (by decide) (fun c2 => ?_) (fun c2 => ?_)
  · omega
  refine aw_aload_n dX5_init_73 rfl ?_
  refine aw_get kg_X5_40 x8 (by rfl) dX5_init_74 ?_
  refine aw_iload_n dX5_init_77 rfl ?_
  refine aw_new an_X5_16 (Nat.le_of_ble_eq_true rfl) (Nat.le_of_ble_eq_true rfl) dX5_init_78 ?_
  refine aw_dup dX5_init_81 rfl ?_
  obtain ⟨g9, hg9⟩ : ∃ g, g = va_up h8 35 (aO 2 [aN, aI 0]) := ⟨_, rfl⟩
  refine aw_hp hg9.symm ?_
  have a9 : g9 35 = aO 2 [aN, aI 0] := by rw [hg9]; exact va_up_s ..
  have u9 : ∀ j, j ≠ 35 → g9 j = h8 j := fun j hj => by rw [hg9, va_up_n _ _ _ hj]
  refine aw_callJ (As := []) (d := d + 1) (mc := 1) (ms := 8) kc_X5_18 (c_Row_init (d := d) (n := 35) (Nat.le_refl _) a9) a9 rfl rfl (by show d + 1 + 1 ≤ d + 10; omega) (by show 64 * (d + 1) + 59 ≤ 64 * (d + 10); omega) (Nat.le_of_ble_eq_true rfl) (Nat.le_of_ble_eq_true rfl) (Nat.le_of_ble_eq_true rfl) dX5_init_82 (fun o n' k9 q9 => ?_)
  obtain ⟨rfl, rfl, r9, w9⟩ := q9
  have v9 : ∀ j, j < 35 → k9 j = h8 j := fun j hj => (w9 j (by omega) (by omega)).trans (u9 j (by omega))
  have m9 := (v9 1 (by omega)).trans x8
  have z9 := r9.1
  have i9 := (v9 32 (by omega)).trans j8
  refine aw_aast i9 (by omega) z9 dX5_init_85 ?_
  obtain ⟨h9, hh9⟩ : ∃ g, g = va_up k9 32 (aQ 4 2 (va_up (va_up (fun _ => none) 0 (some 33)) ((0 : Int) + 1).toNat (some 35))) := ⟨_, rfl⟩
  refine aw_hp hh9.symm ?_
  have j9 : h9 32 = aQ 4 2 (va_up (va_up (fun _ => none) 0 (some 33)) 1 (some 35)) := by rw [hh9]; exact va_up_s ..
  have y9 : ∀ j, j ≠ 32 → h9 j = k9 j := fun j hj => by rw [hh9, va_up_n _ _ _ hj]
  have x9 := (y9 1 (by omega)).trans m9
  refine aw_iinc dX5_init_86 rfl (by decide) ?_
  refine aw_goto (tgt := 68) dX5_init_89 (by decide) ?_
  refine aw_iload_n dX5_init_68 rfl ?_
  refine aw_iconst dX5_init_69 ?_
  refine aw_icmp_ge (tgt := 92) dX5_init_70 (by omega) (by omega) (by decide) (fun c3 => ?_) (fun c3 => ?_)
  rotate_left
  · omega
  refine aw_aload_n dX5_init_92 rfl ?_
  refine aw_iconst dX5_init_93 ?_
  refine aw_newZ ka_boolean (by decide) (Nat.le_of_ble_eq_true rfl) (Nat.le_of_ble_eq_true rfl) dX5_init_94 ?_
  obtain ⟨g10, hg10⟩ : ∃ g, g = va_up h9 37 (aA 1 (2 : Int).toNat (fun _ => 0)) := ⟨_, rfl⟩
  refine aw_hp hg10.symm ?_
  have a10 : g10 37 = aA 1 2 (fun _ => 0) := by rw [hg10]; exact va_up_s ..
  have u10 : ∀ j, j ≠ 37 → g10 j = h9 j := fun j hj => by rw [hg10, va_up_n _ _ _ hj]
  have m10 := (u10 1 (by omega)).trans x9
  refine aw_putFO kp_X5_44 rfl (by assumption) (by simp) (aw_na _ _) dX5_init_96 (fun h10 x10 y10 => ?_)
  have x10 : h10 1 = aO 5 [aI 2, aI 3, aR 2, aR 4, aR 6, aR 10, aR 32, aR 37, aN, aN] := x10
  refine aw_aload_n dX5_init_99 rfl ?_
  -- at 100: .new 48
  refine aw_new an_X5_48 (Nat.le_of_ble_eq_true rfl) (Nat.le_of_ble_eq_true rfl) dX5_init_100 ?_
  refine aw_dup dX5_init_103 rfl ?_
  obtain ⟨g11, hg11⟩ : ∃ g, g = va_up h10 38 (aO 0 [aI 0, aI 0, aN, aN, aN]) := ⟨_, rfl⟩
  refine aw_hp hg11.symm ?_
  have a11 : g11 38 = aO 0 [aI 0, aI 0, aN, aN, aN] := by rw [hg11]; exact va_up_s ..
  have u11 : ∀ j, j ≠ 38 → g11 j = h10 j := fun j hj => by rw [hg11, va_up_n _ _ _ hj]
  refine aw_callJ (As := []) (d := d + 4) (mc := 9) (ms := 786) kc_X5_50 (hX0 d g11 a11) a11 rfl rfl (by show d + 4 + 1 ≤ d + 10; omega) (by show 64 * (d + 4) + 59 ≤ 64 * (d + 10); omega) (Nat.le_of_ble_eq_true rfl) (Nat.le_of_ble_eq_true rfl) (Nat.le_of_ble_eq_true rfl) dX5_init_104 (fun o n' k11 q11 => ?_)
  obtain ⟨rfl, rfl, r11, w11⟩ := q11
  have v11 : ∀ j, j < 38 → k11 j = h10 j := fun j hj => (w11 j hj).trans (u11 j (by omega))
  have m11 := (v11 1 (by omega)).trans x10
  have z11 := r11.1
  refine aw_putFO kp_X5_51 rfl (by assumption) (by simp) (aw_no _ _) dX5_init_107 (fun h11 x11 y11 => ?_)
  have x11 : h11 1 = aO 5 [aI 2, aI 3, aR 2, aR 4, aR 6, aR 10, aR 32, aR 37, aR 38, aN] := x11
  refine aw_aload_n dX5_init_110 rfl ?_
  -- at 111: .new 55
  refine aw_new an_X5_55 (Nat.le_of_ble_eq_true rfl) (Nat.le_of_ble_eq_true rfl) dX5_init_111 ?_
  refine aw_dup dX5_init_114 rfl ?_
  obtain ⟨g12, hg12⟩ : ∃ g, g = va_up h11 48 (aO 4 [aN, aN, aN, aI 0]) := ⟨_, rfl⟩
  refine aw_hp hg12.symm ?_
  have a12 : g12 48 = aO 4 [aN, aN, aN, aI 0] := by rw [hg12]; exact va_up_s ..
  have u12 : ∀ j, j ≠ 48 → g12 j = h11 j := fun j hj => by rw [hg12, va_up_n _ _ _ hj]
  refine aw_callJ (As := []) (d := d + 4) (mc := 3) (ms := 18) kc_X5_57 (c_Wit_init (d := d) (n := 48) (Nat.le_refl _) a12) a12 rfl rfl (by show d + 4 + 1 ≤ d + 10; omega) (by show 64 * (d + 4) + 59 ≤ 64 * (d + 10); omega) (Nat.le_of_ble_eq_true rfl) (Nat.le_of_ble_eq_true rfl) (Nat.le_of_ble_eq_true rfl) dX5_init_115 (fun o n' k12 q12 => ?_)
  obtain ⟨rfl, rfl, r12, r12a, r12b, r12c, w12⟩ := q12
  have v12 : ∀ j, j < 48 → k12 j = h11 j := fun j hj => (w12 j (by omega) (by omega)).trans (u12 j (by omega))
  have m12 := (v12 1 (by omega)).trans x11
  refine aw_putFO kp_X5_58 rfl (by assumption) (by simp) (aw_no _ _) dX5_init_118 (fun h12 x12 y12 => ?_)
  have x12 : h12 1 = aO 5 [aI 2, aI 3, aR 2, aR 4, aR 6, aR 10, aR 32, aR 37, aR 38, aR 48] := x12
  have t12 : ∀ j, j ≠ 1 → j < 48 → h12 j = h11 j := fun j j1 j2 => (y12 j j1).trans (v12 j j2)
  have t11 : ∀ j, j ≠ 1 → j < 38 → h12 j = h10 j := fun j j1 j2 => (t12 j j1 (by omega)).trans ((y11 j j1).trans (v11 j j2))
  have t10 : ∀ j, j ≠ 1 → j < 37 → h12 j = h9 j := fun j j1 j2 => (t11 j j1 (by omega)).trans ((y10 j j1).trans (u10 j (by omega)))
  have t9 : ∀ j, j ≠ 1 → j ≠ 32 → j < 35 → h12 j = h8 j := fun j j1 j2 j3 => (t10 j j1 (by omega)).trans ((y9 j j2).trans (v9 j j3))
  have t8 : ∀ j, j ≠ 1 → j ≠ 32 → j < 33 → h12 j = h7 j := fun j j1 j2 j3 => (t9 j j1 j2 (by omega)).trans ((y8 j j2).trans (v8 j j3))
  have t7 : ∀ j, j ≠ 1 → j < 32 → h12 j = h6 j := fun j j1 j2 => (t8 j j1 (by omega) (by omega)).trans ((y7 j j1).trans (u7 j (by omega)))
  have t6 : ∀ j, j ≠ 1 → j < 10 → h12 j = h5 j := fun j j1 j2 => (t7 j j1 (by omega)).trans ((y6 j j1).trans (v6 j j2))
  have t5 : ∀ j, j ≠ 1 → j < 6 → h12 j = h4 j := fun j j1 j2 => (t6 j j1 (by omega)).trans ((y5 j j1).trans (v5 j j2))
  have t4 : ∀ j, j ≠ 1 → j < 4 → h12 j = h3 j := fun j j1 j2 => (t5 j j1 (by omega)).trans ((y4 j j1).trans (v4 j j2))
  have t3 : ∀ j, j < 1 → h12 j = h j := fun j j1 => (t4 j (by omega) (by omega)).trans ((y3 j (by omega)).trans ((v3 j (by omega)).trans ((y2 j (by omega)).trans (y1 j (by omega)))))
  refine aw_vret rfl dX5_init_121 ⟨rfl, rfl, ⟨x12, r3.fr ((t4 2 (by omega) (by omega)).trans (y3 2 (by omega))) ((t4 3 (by omega) (by omega)).trans (y3 3 (by omega))), ⟨[], r4.fr ((t5 4 (by omega) (by omega)).trans (y4 4 (by omega))) ((t5 5 (by omega) (by omega)).trans (y4 5 (by omega))), inRow_nil⟩, ⟨⟨0, 0, 0, 0, 2, 3, by omega, (t6 6 (by omega) (by omega)).trans ((y5 6 (by omega)).trans r5)⟩, ⟨_, (t6 7 (by omega) (by omega)).trans ((y5 7 (by omega)).trans r5'), fun i hi => absurd hi (by simp)⟩, [], r5''.fr ((t6 8 (by omega) (by omega)).trans (y5 8 (by omega))) ((t6 9 (by omega) (by omega)).trans (y5 9 (by omega)))⟩, ⟨(t7 10 (by omega) (by omega)).trans ((y6 10 (by omega)).trans r6), fun i => 12 + 2 * i, fun _ => [], ⟨?_, fun i hi => by dsimp only; omega, fun i j _ _ e => by dsimp only at e; omega, fun i hi => ?_⟩, fun i hi => absurd hi (by simp)⟩, ⟨⟨_, (t10 32 (by omega) (by omega)).trans j9, rfl, rfl⟩, r8.fr ((t9 33 (by omega) (by omega) (by omega)).trans (y8 33 (by omega))) ((t9 34 (by omega) (by omega) (by omega)).trans (y8 34 (by omega))), r9.fr ((t10 35 (by omega) (by omega)).trans (y9 35 (by omega))) ((t10 36 (by omega) (by omega)).trans (y9 36 (by omega))), _, (t11 37 (by omega) (by omega)).trans ((y10 37 (by omega)).trans a10), rfl, rfl⟩, r11.fr (fun j j1 j2 => (t12 j (by omega) (by omega)).trans (y11 j (by omega))), ⟨(y12 48 (by omega)).trans r12, _, _, _, (y12 49 (by omega)).trans r12a, (y12 50 (by omega)).trans r12b, (y12 51 (by omega)).trans r12c, fun i hi => absurd hi (by simp)⟩⟩, t3⟩
  · obtain ⟨g, e1, e2⟩ := r6'
    exact ⟨g, (t7 11 (by omega) (by omega)).trans ((y6 11 (by omega)).trans e1), fun i hi => (e2 i hi).trans (by congr 1)⟩
  · have := (r6'' i hi).fr (h' := h12) ((t7 _ (by omega) (by omega)).trans (y6 _ (by omega))) ((t7 _ (by omega) (by omega)).trans (y6 _ (by omega)))
    rw [show 10 + 2 + 2 * i = 12 + 2 * i by omega, show 10 + 3 + 2 * i = 12 + 2 * i + 1 by omega] at this
    exact this
end Init5
