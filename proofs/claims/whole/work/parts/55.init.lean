/-! made anew: a row -/
theorem an_X5_16 : an_N RX5 16 2 2 [aN, aI 0] := ⟨(RX2, TX2, 2), tyX2, rfl, rfl, kn_X5_16, tt_in 54 (by decide +kernel) (by decide +kernel), ti_X2, tl_X2, tyX2_ok, fun G j hj => match j, hj with | 0, _ => rfl | 1, _ => rfl⟩
theorem an_X3_37 : an_N RX3 37 2 2 [aN, aI 0] := ⟨(RX2, TX2, 2), tyX2, rfl, rfl, kn_X3_37, tt_in 54 (by decide +kernel) (by decide +kernel), ti_X2, tl_X2, tyX2_ok, fun G j hj => match j, hj with | 0, _ => rfl | 1, _ => rfl⟩
theorem an_X1_9 : an_N RX1 9 2 2 [aN, aI 0] := ⟨(RX2, TX2, 2), tyX2, rfl, rfl, kn_X1_9, tt_in 54 (by decide +kernel) (by decide +kernel), ti_X2, tl_X2, tyX2_ok, fun G j hj => match j, hj with | 0, _ => rfl | 1, _ => rfl⟩
theorem an_X5_26 : an_N RX5 26 3 9 [aN, aI 0, aI 0, aI 0, aI 0, aI 0, aI 0, aI 0, aN] := ⟨(RX3, TX3, 9), tyX3, rfl, rfl, kn_X5_26, tt_in 68 (by decide +kernel) (by decide +kernel), ti_X3, tl_X3, tyX3_ok, fun G j hj => match j, hj with | 0, _ => rfl | 1, _ => rfl | 2, _ => rfl | 3, _ => rfl | 4, _ => rfl | 5, _ => rfl | 6, _ => rfl | 7, _ => rfl | 8, _ => rfl⟩
theorem an_X5_33 : an_N RX5 33 1 2 [aN, aI 0] := ⟨(RX1, TX1, 2), tyX1, rfl, rfl, kn_X5_33, tt_in 105 (by decide +kernel) (by decide +kernel), ti_X1, tl_X1, tyX1_ok, fun G j hj => match j, hj with | 0, _ => rfl | 1, _ => rfl⟩
theorem an_X5_48 : an_N RX5 48 0 5 [aI 0, aI 0, aN, aN, aN] := ⟨(RX0, TX0, 5), tyX0, rfl, rfl, kn_X5_48, tt_in 121 (by decide +kernel) (by decide +kernel), ti_X0, tl_X0, tyX0_ok, fun G j hj => match j, hj with | 0, _ => rfl | 1, _ => rfl | 2, _ => rfl | 3, _ => rfl | 4, _ => rfl⟩
theorem an_X5_55 : an_N RX5 55 4 4 [aN, aN, aN, aI 0] := ⟨(RX4, TX4, 4), tyX4, rfl, rfl, kn_X5_55, tt_in 146 (by decide +kernel) (by decide +kernel), ti_X4, tl_X4, tyX4_ok, fun G j hj => match j, hj with | 0, _ => rfl | 1, _ => rfl | 2, _ => rfl | 3, _ => rfl⟩
theorem an_L_7 : an_N RL 7 5 10 [aI 0, aI 0, aN, aN, aN, aN, aN, aN, aN, aN] := ⟨(RX5, TX5, 10), tyX5, rfl, rfl, kn_L_7, tt_in 46 (by decide +kernel) (by decide +kernel), ti_X5, tl_X5, tyX5_ok, fun G j hj => match j, hj with | 0, _ => rfl | 1, _ => rfl | 2, _ => rfl | 3, _ => rfl | 4, _ => rfl | 5, _ => rfl | 6, _ => rfl | 7, _ => rfl | 8, _ => rfl | 9, _ => rfl⟩
theorem an_L_10 : an_N RL 10 6 25 [aN, aN, aI 0, aI 0, aI 0, aN, aN, aN, aI 0, aN, aI 0, aI 0, aI 0, aI 0, aI 0, aI 0, aI 0, aI 0, aN, aN, aN, aN, aN, aN, aI 0] := ⟨(RX6, TX6, 25), tyX6, rfl, rfl, kn_L_10, tt_in 560 (by decide +kernel) (by decide +kernel), ti_X6, tl_X6, tyX6_ok, fun G j hj => match j, hj with | 0, _ => rfl | 1, _ => rfl | 2, _ => rfl | 3, _ => rfl | 4, _ => rfl | 5, _ => rfl | 6, _ => rfl | 7, _ => rfl | 8, _ => rfl | 9, _ => rfl | 10, _ => rfl | 11, _ => rfl | 12, _ => rfl | 13, _ => rfl | 14, _ => rfl | 15, _ => rfl | 16, _ => rfl | 17, _ => rfl | 18, _ => rfl | 19, _ => rfl | 20, _ => rfl | 21, _ => rfl | 22, _ => rfl | 23, _ => rfl | 24, _ => rfl | k + 25, h => absurd h (by show ¬ k + 25 < 25; omega)⟩
section Init
variable {d n : Nat} {h : AH}
theorem c_Row_init {r : Nat} (hr : r ≤ n) (H : h r = aO 2 [aN, aI 0]) : AC mX2_init (d + 1) 1 8 n h [aR r] (fun o n' h' => o = none ∧ n' = n + 1 ∧ isRow h' r (n + 1) [] ∧ ∀ j, j ≠ r → j ≠ n + 1 → h' j = h j) := by
  refine AC.of (by decide) (Nat.le_of_ble_eq_true rfl) ?_
  refine aw_aload_n dX2_init_0 rfl ?_
  refine aw_objInit kc_X2_3 ks_obj kd_obj (Nat.le_of_ble_eq_true rfl) (by show 1 ≤ d + 1; omega) (by show 20 ≤ 64 * (d + 1); omega) dX2_init_1 ?_
  refine aw_aload_n dX2_init_4 rfl ?_
  refine aw_bipush dX2_init_5 (by decide) ?_
  refine aw_newI ka_int (by decide) (Nat.le_of_ble_eq_true rfl) (Nat.le_of_ble_eq_true rfl) dX2_init_7 ?_
  have b0 : va_up h (n + 1) (aA 0 (8 : Int).toNat (fun _ => 0)) r = aO 2 [aN, aI 0] := by rw [va_up_n _ _ _ (by omega)]; exact H
  have b1 : va_up h (n + 1) (aA 0 (8 : Int).toNat (fun _ => 0)) (n + 1) = aA 0 8 (fun _ => 0) := va_up_s ..
  refine aw_putFO kp_X2_9 rfl (by assumption) (by simp) (aw_na _ _) dX2_init_9 (fun h1 x1 y1 => ?_)
  have x1 : h1 r = aO 2 [aR (n + 1), aI 0] := x1
  refine aw_aload_n dX2_init_12 rfl ?_
  refine aw_iconst dX2_init_13 ?_
  -- at 14: .putfield 15
  refine aw_putO kp_X2_15 (by assumption) (by simp) (aw_ni _) dX2_init_14 (fun h2 x2 y2 => ?_)
  have x2 : h2 r = aO 2 [aR (n + 1), aI 0] := x2
  refine aw_vret rfl dX2_init_17 ⟨rfl, rfl, ⟨x2, _, (y2 _ (by omega)).trans ((y1 _ (by omega)).trans b1), fun i hi => absurd hi (by simp)⟩, fun j j1 j2 => (y2 j j1).trans ((y1 j j1).trans (va_up_n _ _ _ j2))⟩
theorem c_Scr_init {r : Nat} (hr : r ≤ n) (H : h r = aO 3 [aN, aI 0, aI 0, aI 0, aI 0, aI 0, aI 0, aI 0, aN]) : AC mX3_init (d + 4) 3 70 n h [aR r] (fun o n' h' => o = none ∧ n' = n + 3 ∧ h' r = aO 3 [aR (n + 1), aI 0, aI 0, aI 0, aI 0, aI 0, aI 2, aI 3, aR (n + 2)] ∧ h' (n + 1) = aA 2 60 (fun _ => 0) ∧ isRow h' (n + 2) (n + 3) [] ∧ ∀ j, j ≠ r → j ≤ n → h' j = h j) := by
  refine AC.of (by decide) (Nat.le_of_ble_eq_true rfl) ?_
  refine aw_aload_n dX3_init_0 rfl ?_
  refine aw_objInit kc_X3_3 ks_obj kd_obj (Nat.le_of_ble_eq_true rfl) (by show 1 ≤ d + 4; omega) (by show 20 ≤ 64 * (d + 4); omega) dX3_init_1 ?_
  refine aw_aload_n dX3_init_4 rfl ?_
  refine aw_bipush dX3_init_5 (by decide) ?_
  refine aw_newC ka_char (by decide) (Nat.le_of_ble_eq_true rfl) (Nat.le_of_ble_eq_true rfl) dX3_init_7 ?_
  have b0 : va_up h (n + 1) (aA 2 (60 : Int).toNat (fun _ => 0)) r = aO 3 [aN, aI 0, aI 0, aI 0, aI 0, aI 0, aI 0, aI 0, aN] := by rw [va_up_n _ _ _ (by omega)]; exact H
  have b1 : va_up h (n + 1) (aA 2 (60 : Int).toNat (fun _ => 0)) (n + 1) = aA 2 60 (fun _ => 0) := va_up_s ..
  refine aw_putFO kp_X3_9 rfl (by assumption) (by simp) (aw_na _ _) dX3_init_9 (fun h1 x1 y1 => ?_)
  have x1 : h1 r = aO 3 [aR (n + 1), aI 0, aI 0, aI 0, aI 0, aI 0, aI 0, aI 0, aN] := x1
  refine aw_aload_n dX3_init_12 rfl ?_
  refine aw_iconst dX3_init_13 ?_
  -- at 14: .putfield 15
  refine aw_putO kp_X3_15 (by assumption) (by simp) (aw_ni _) dX3_init_14 (fun h2 x2 y2 => ?_)
  have x2 : h2 r = aO 3 [aR (n + 1), aI 0, aI 0, aI 0, aI 0, aI 0, aI 0, aI 0, aN] := x2
  refine aw_aload_n dX3_init_17 rfl ?_
  refine aw_iconst dX3_init_18 ?_
  -- at 19: .putfield 19
  refine aw_putO kp_X3_19 (by assumption) (by simp) (aw_ni _) dX3_init_19 (fun h3 x3 y3 => ?_)
  have x3 : h3 r = aO 3 [aR (n + 1), aI 0, aI 0, aI 0, aI 0, aI 0, aI 0, aI 0, aN] := x3
  refine aw_aload_n dX3_init_22 rfl ?_
  refine aw_iconst dX3_init_23 ?_
  -- at 24: .putfield 22
  refine aw_putO kp_X3_22 (by assumption) (by simp) (aw_ni _) dX3_init_24 (fun h4 x4 y4 => ?_)
  have x4 : h4 r = aO 3 [aR (n + 1), aI 0, aI 0, aI 0, aI 0, aI 0, aI 0, aI 0, aN] := x4
  refine aw_aload_n dX3_init_27 rfl ?_
  refine aw_iconst dX3_init_28 ?_
  -- at 29: .putfield 25
  refine aw_putO kp_X3_25 (by assumption) (by simp) (aw_ni _) dX3_init_29 (fun h5 x5 y5 => ?_)
  have x5 : h5 r = aO 3 [aR (n + 1), aI 0, aI 0, aI 0, aI 0, aI 0, aI 0, aI 0, aN] := x5
  refine aw_aload_n dX3_init_32 rfl ?_
  refine aw_iconst dX3_init_33 ?_
  -- at 34: .putfield 28
  refine aw_putO kp_X3_28 (by assumption) (by simp) (aw_ni _) dX3_init_34 (fun h6 x6 y6 => ?_)
  have x6 : h6 r = aO 3 [aR (n + 1), aI 0, aI 0, aI 0, aI 0, aI 0, aI 0, aI 0, aN] := x6
  refine aw_aload_n dX3_init_37 rfl ?_
  refine aw_iconst dX3_init_38 ?_
  -- at 39: .putfield 31
  refine aw_putO kp_X3_31 (by assumption) (by simp) (aw_ni _) dX3_init_39 (fun h7 x7 y7 => ?_)
  have x7 : h7 r = aO 3 [aR (n + 1), aI 0, aI 0, aI 0, aI 0, aI 0, aI 2, aI 0, aN] := x7
  refine aw_aload_n dX3_init_42 rfl ?_
  refine aw_iconst dX3_init_43 ?_
  -- at 44: .putfield 34
  refine aw_putO kp_X3_34 (by assumption) (by simp) (aw_ni _) dX3_init_44 (fun h8 x8 y8 => ?_)
  have x8 : h8 r = aO 3 [aR (n + 1), aI 0, aI 0, aI 0, aI 0, aI 0, aI 2, aI 3, aN] := x8
  have fr8 : ∀ j, j ≠ r → h8 j = va_up h (n + 1) (aA 2 (60 : Int).toNat (fun _ => 0)) j := fun j j1 => (y8 j j1).trans ((y7 j j1).trans ((y6 j j1).trans ((y5 j j1).trans ((y4 j j1).trans ((y3 j j1).trans ((y2 j j1).trans (y1 j j1)))))))
  refine aw_aload_n dX3_init_47 rfl ?_
  -- at 48: .new 37
  refine aw_new an_X3_37 (Nat.le_of_ble_eq_true rfl) (Nat.le_of_ble_eq_true rfl) dX3_init_48 ?_
  refine aw_dup dX3_init_51 rfl ?_
  refine aw_callJ (As := []) (d := d + 1) (mc := 1) (ms := 8) kc_X3_39 (c_Row_init (d := d) (Nat.le_refl _) (va_up_s ..)) (va_up_s ..) rfl rfl (by show d + 1 + 1 ≤ d + 4; omega) (by show 64 * (d + 1) + 59 ≤ 64 * (d + 4); omega) (Nat.le_of_ble_eq_true rfl) (Nat.le_of_ble_eq_true rfl) (Nat.le_of_ble_eq_true rfl) dX3_init_52 (fun o n' h9 q => ?_)
  obtain ⟨rfl, rfl, q1, q2⟩ := q
  have x9 : h9 r = aO 3 [aR (n + 1), aI 0, aI 0, aI 0, aI 0, aI 0, aI 2, aI 3, aN] := (q2 r (by omega) (by omega)).trans ((va_up_n _ _ _ (by omega)).trans x8)
  have z9 := q1.1
  refine aw_putFO kp_X3_40 rfl (by assumption) (by simp) (aw_no _ _) dX3_init_55 (fun h10 x10 y10 => ?_)
  have x10 : h10 r = aO 3 [aR (n + 1), aI 0, aI 0, aI 0, aI 0, aI 0, aI 2, aI 3, aR (n + 2)] := x10
  have fr10 : ∀ j, j ≠ r → j ≤ n + 1 → h10 j = va_up h (n + 1) (aA 2 (60 : Int).toNat (fun _ => 0)) j := fun j j1 j2 => (y10 j j1).trans ((q2 j (by omega) (by omega)).trans ((va_up_n _ _ _ (by omega)).trans (fr8 j j1)))
  exact aw_vret rfl dX3_init_58 ⟨rfl, rfl, x10, (fr10 (n + 1) (by omega) (by omega)).trans b1, q1.fr (y10 _ (by omega)) (y10 _ (by omega)), fun j j1 j2 => (fr10 j j1 (by omega)).trans (va_up_n _ _ _ (by omega))⟩
theorem c_Wit_init {r : Nat} (hr : r ≤ n) (H : h r = aO 4 [aN, aN, aN, aI 0]) : AC mX4_init (d + 4) 3 18 n h [aR r] (fun o n' h' => o = none ∧ n' = n + 3 ∧ h' r = aO 4 [aR (n + 1), aR (n + 2), aR (n + 3), aI 0] ∧ h' (n + 1) = aA 0 6 (fun _ => 0) ∧ h' (n + 2) = aA 0 6 (fun _ => 0) ∧ h' (n + 3) = aA 1 6 (fun _ => 0) ∧ ∀ j, j ≠ r → j ≤ n → h' j = h j) := by
  refine AC.of (by decide) (Nat.le_of_ble_eq_true rfl) ?_
  refine aw_aload_n dX4_init_0 rfl ?_
  refine aw_objInit kc_X4_3 ks_obj kd_obj (Nat.le_of_ble_eq_true rfl) (by show 1 ≤ d + 4; omega) (by show 20 ≤ 64 * (d + 4); omega) dX4_init_1 ?_
  refine aw_aload_n dX4_init_4 rfl ?_
  refine aw_bipush dX4_init_5 (by decide) ?_
  refine aw_newI ka_int (by decide) (Nat.le_of_ble_eq_true rfl) (Nat.le_of_ble_eq_true rfl) dX4_init_7 ?_
  obtain ⟨g1, hg1⟩ : ∃ g, g = va_up h (n + 1) (aA 0 (6 : Int).toNat (fun _ => 0)) := ⟨_, rfl⟩
  rw [← hg1]
  have a1 : g1 (n + 1) = aA 0 6 (fun _ => 0) := by rw [hg1]; exact va_up_s ..
  have b0 : g1 r = aO 4 [aN, aN, aN, aI 0] := by rw [hg1, va_up_n _ _ _ (by omega)]; exact H
  have fg1 : ∀ j, j ≠ n + 1 → g1 j = h j := fun j hj => by rw [hg1, va_up_n _ _ _ hj]
  refine aw_putFO kp_X4_9 rfl (by assumption) (by simp) (aw_na _ _) dX4_init_9 (fun h1 x1 y1 => ?_)
  have x1 : h1 r = aO 4 [aR (n + 1), aN, aN, aI 0] := x1
  refine aw_aload_n dX4_init_12 rfl ?_
  refine aw_bipush dX4_init_13 (by decide) ?_
  refine aw_newI ka_int (by decide) (Nat.le_of_ble_eq_true rfl) (Nat.le_of_ble_eq_true rfl) dX4_init_15 ?_
  obtain ⟨g2, hg2⟩ : ∃ g, g = va_up h1 (n + 1 + 1) (aA 0 (6 : Int).toNat (fun _ => 0)) := ⟨_, rfl⟩
  rw [← hg2]
  have a2 : g2 (n + 1 + 1) = aA 0 6 (fun _ => 0) := by rw [hg2]; exact va_up_s ..
  have b2 : g2 r = aO 4 [aR (n + 1), aN, aN, aI 0] := by rw [hg2, va_up_n _ _ _ (by omega)]; exact x1
  have fg2 : ∀ j, j ≠ n + 1 + 1 → g2 j = h1 j := fun j hj => by rw [hg2, va_up_n _ _ _ hj]
  refine aw_putFO kp_X4_15 rfl (by assumption) (by simp) (aw_na _ _) dX4_init_17 (fun h2 x2 y2 => ?_)
  have x2 : h2 r = aO 4 [aR (n + 1), aR (n + 1 + 1), aN, aI 0] := x2
  refine aw_aload_n dX4_init_20 rfl ?_
  refine aw_bipush dX4_init_21 (by decide) ?_
  refine aw_newZ ka_boolean (by decide) (Nat.le_of_ble_eq_true rfl) (Nat.le_of_ble_eq_true rfl) dX4_init_23 ?_
  obtain ⟨g3, hg3⟩ : ∃ g, g = va_up h2 (n + 1 + 1 + 1) (aA 1 (6 : Int).toNat (fun _ => 0)) := ⟨_, rfl⟩
  rw [← hg3]
  have a3 : g3 (n + 1 + 1 + 1) = aA 1 6 (fun _ => 0) := by rw [hg3]; exact va_up_s ..
  have b3 : g3 r = aO 4 [aR (n + 1), aR (n + 1 + 1), aN, aI 0] := by rw [hg3, va_up_n _ _ _ (by omega)]; exact x2
  have fg3 : ∀ j, j ≠ n + 1 + 1 + 1 → g3 j = h2 j := fun j hj => by rw [hg3, va_up_n _ _ _ hj]
  refine aw_putFO kp_X4_18 rfl (by assumption) (by simp) (aw_na _ _) dX4_init_25 (fun h3 x3 y3 => ?_)
  have x3 : h3 r = aO 4 [aR (n + 1), aR (n + 1 + 1), aR (n + 1 + 1 + 1), aI 0] := x3
  refine aw_aload_n dX4_init_28 rfl ?_
  refine aw_iconst dX4_init_29 ?_
  -- at 30: .putfield 22
  refine aw_putO kp_X4_22 (by assumption) (by simp) (aw_ni _) dX4_init_30 (fun h4 x4 y4 => ?_)
  have x4 : h4 r = aO 4 [aR (n + 1), aR (n + 2), aR (n + 3), aI 0] := x4
  have fr : ∀ j, j ≠ r → j ≠ n + 1 + 1 + 1 → h4 j = h2 j := fun j j1 j2 => (y4 j j1).trans ((y3 j j1).trans (fg3 j j2))
  have fr2 : ∀ j, j ≠ r → j ≠ n + 1 + 1 + 1 → j ≠ n + 1 + 1 → h4 j = h1 j := fun j j1 j2 j3 => (fr j j1 j2).trans ((y2 j j1).trans (fg2 j j3))
  exact aw_vret rfl dX4_init_33 ⟨rfl, rfl, x4, (fr2 (n + 1) (by omega) (by omega) (by omega)).trans ((y1 _ (by omega)).trans a1), (fr (n + 1 + 1) (by omega) (by omega)).trans ((y2 _ (by omega)).trans a2), (y4 (n + 1 + 1 + 1) (by omega)).trans ((y3 _ (by omega)).trans a3), fun j j1 j2 => (fr2 j j1 (by omega) (by omega)).trans ((y1 j j1).trans (fg1 j (by omega)))⟩
theorem c_Hist_init {r : Nat} (hr : r ≤ n) (H : h r = aO 1 [aN, aI 0]) : AC mX1_init (d + 4) 21 110 n h [aR r] (fun o n' h' => o = none ∧ n' = n + 21 ∧ h' r = aO 1 [aR (n + 1), aI 0] ∧ (∃ g, h' (n + 1) = aQ 4 10 g ∧ ∀ i, i < 10 → g i = some (n + 2 + 2 * i)) ∧ (∀ i, i < 10 → isRow h' (n + 2 + 2 * i) (n + 3 + 2 * i) []) ∧ ∀ j, j ≠ r → j ≤ n → h' j = h j) := by
  refine AC.of (by decide) (Nat.le_of_ble_eq_true rfl) ?_
  refine aw_aload_n dX1_init_0 rfl ?_
  refine aw_objInit kc_X1_3 ks_obj kd_obj (Nat.le_of_ble_eq_true rfl) (by show 1 ≤ d + 4; omega) (by show 20 ≤ 64 * (d + 4); omega) dX1_init_1 ?_
  refine aw_aload_n dX1_init_4 rfl ?_
  refine aw_bipush dX1_init_5 (by decide) ?_
  refine aw_newR kn_X1_9 (by decide) (Nat.le_of_ble_eq_true rfl) (Nat.le_of_ble_eq_true rfl) dX1_init_7 ?_
  obtain ⟨g1, hg1⟩ : ∃ g, g = va_up h (n + 1) (aQ 4 (10 : Int).toNat (fun _ => none)) := ⟨_, rfl⟩
  rw [← hg1]
  have a1 : g1 (n + 1) = aQ 4 10 (fun _ => none) := by rw [hg1]; exact va_up_s ..
  have b0 : g1 r = aO 1 [aN, aI 0] := by rw [hg1, va_up_n _ _ _ (by omega)]; exact H
  have fg1 : ∀ j, j ≠ n + 1 → g1 j = h j := fun j hj => by rw [hg1, va_up_n _ _ _ hj]
  refine aw_putFO kp_X1_11 rfl (by assumption) (by simp) (aw_na _ _) dX1_init_10 (fun h1 x1 y1 => ?_)
  have x1 : h1 r = aO 1 [aR (n + 1), aI 0] := x1
  refine aw_aload_n dX1_init_13 rfl ?_
  refine aw_iconst dX1_init_14 ?_
  -- at 15: .putfield 17
  refine aw_putO kp_X1_17 (by assumption) (by simp) (aw_ni _) dX1_init_15 (fun h2 x2 y2 => ?_)
  have x2 : h2 r = aO 1 [aR (n + 1), aI 0] := x2
  have loop : ∀ (c k : Nat) (h3 : AH) (g : Nat → Option Nat), k + c = 10 → h3 r = aO 1 [aR (n + 1), aI 0] → h3 (n + 1) = aQ 4 10 g → (∀ i, i < k → g i = some (n + 2 + 2 * i)) → (∀ i, i < k → isRow h3 (n + 2 + 2 * i) (n + 3 + 2 * i) []) → (∀ j, j ≠ r → j ≤ n → h3 j = h j) → AW mX1_init (am_R (d + 4) 21 110) (am_Z (fun o n' h' => o = none ∧ n' = n + 21 ∧ h' r = aO 1 [aR (n + 1), aI 0] ∧ (∃ g, h' (n + 1) = aQ 4 10 g ∧ ∀ i, i < 10 → g i = some (n + 2 + 2 * i)) ∧ (∀ i, i < 10 → isRow h' (n + 2 + 2 * i) (n + 3 + 2 * i) []) ∧ ∀ j, j ≠ r → j ≤ n → h' j = h j) 21 110) (1 + 2 * k) (10 + 10 * k) (n + 1 + 2 * k) h3 20 [some (aR r), some (aI (k : Int))] [] := by
    intro c
    induction c with
    | zero =>
      intro k h3 g hk e1 e2 e3 e4 hfr
      have : k = 10 := by omega
      subst this
      refine aw_iload_n dX1_init_20 rfl ?_
      refine aw_bipush dX1_init_21 (by decide) ?_
      -- at 23: .if_icmp .ge 22
      refine aw_icmp_ge (tgt := 45) dX1_init_23 (by omega) (by omega) (by decide) (fun c1 => ?_) (fun c1 => ?_)
      · exact aw_vret rfl dX1_init_45 ⟨rfl, rfl, e1, ⟨g, e2, e3⟩, e4, hfr⟩
      · omega
    | succ c ih =>
      intro k h3 g hk e1 e2 e3 e4 hfr
      refine aw_iload_n dX1_init_20 rfl ?_
      refine aw_bipush dX1_init_21 (by decide) ?_
      -- at 23: .if_icmp .ge 22
      refine aw_icmp_ge (tgt := 45) dX1_init_23 (by omega) (by omega) (by decide) (fun c1 => ?_) (fun c1 => ?_)
      · omega
      · refine aw_aload_n dX1_init_26 rfl ?_
        refine aw_get kg_X1_11 (by assumption) (by rfl) dX1_init_27 ?_
        refine aw_iload_n dX1_init_30 rfl ?_
        -- at 31: .new 9
        refine aw_new an_X1_9 (by show 1 + 2 * k + 1 ≤ 21; omega) (by show 10 + 10 * k + 2 ≤ 110; omega) dX1_init_31 ?_
        refine aw_dup dX1_init_34 rfl ?_
        refine aw_callJ (As := []) (d := d + 1) (mc := 1) (ms := 8) kc_X1_21 (c_Row_init (d := d) (Nat.le_refl _) (va_up_s ..)) (va_up_s ..) rfl rfl (by show d + 1 + 1 ≤ d + 4; omega) (by show 64 * (d + 1) + 59 ≤ 64 * (d + 4); omega) (by show 1 + 2 * k + 1 + 1 ≤ 21; omega) (by show 10 + 10 * k + 2 + 8 ≤ 110; omega) (Nat.le_of_ble_eq_true rfl) dX1_init_35 (fun o n' h4 q => ?_)
        obtain ⟨rfl, rfl, q1, q2⟩ := q
        have fr4 : ∀ j, j ≤ n + 1 + 2 * k → h4 j = h3 j := fun j j1 => (q2 j (by omega) (by omega)).trans (va_up_n _ _ _ (by omega))
        have z4 := q1.1
        have w4 := (fr4 (n + 1) (by omega)).trans e2
        refine aw_aast w4 (by omega) z4 dX1_init_38 ?_
        rw [Int.toNat_natCast]
        refine aw_iinc dX1_init_39 rfl (by decide) ?_
        refine aw_goto (tgt := 20) dX1_init_42 (by decide) ?_
        have K := ih (k + 1) (va_up h4 (n + 1) (aQ 4 10 (va_up g k (some (n + 1 + 2 * k + 1))))) (va_up g k (some (n + 1 + 2 * k + 1))) (by omega) ((va_up_n _ _ _ (by omega)).trans ((fr4 r (by omega)).trans e1)) (va_up_s ..) (fun i hi => ?_) (fun i hi => ?_) (fun j j1 j2 => (va_up_n _ _ _ (by omega)).trans ((fr4 j (by omega)).trans (hfr j j1 j2)))
        · rw [show 1 + 2 * (k + 1) = 1 + 2 * k + 1 + 1 by omega, show 10 + 10 * (k + 1) = 10 + 10 * k + 2 + 8 by omega, show n + 1 + 2 * (k + 1) = n + 1 + 2 * k + 1 + 1 by omega, show ((k + 1 : Nat) : Int) = (k : Int) + 1 by omega] at K
          exact K
        · by_cases z : i = k
          · rw [z, va_up_s]; congr 1; omega
          · rw [va_up_n _ _ _ z]; exact e3 i (by omega)
        · by_cases z : i = k
          · subst z
            have q1' := q1.fr (h' := va_up h4 (n + 1) (aQ 4 10 (va_up g i (some (n + 1 + 2 * i + 1))))) (va_up_n _ _ _ (by omega)) (va_up_n _ _ _ (by omega))
            rw [show n + 1 + 2 * i + 1 = n + 2 + 2 * i by omega] at q1' ⊢
            rw [show n + 2 + 2 * i + 1 = n + 3 + 2 * i by omega] at q1'
            exact q1'
          · exact (e4 i (by omega)).fr ((va_up_n _ _ _ (by omega)).trans (fr4 _ (by omega))) ((va_up_n _ _ _ (by omega)).trans (fr4 _ (by omega)))
  refine aw_iconst dX1_init_18 ?_
  refine aw_istore_n dX1_init_19 (by decide) ?_
  exact loop 10 0 h2 _ rfl x2 ((y2 _ (by omega)).trans ((y1 _ (by omega)).trans a1)) (fun i hi => by omega) (fun i hi => by omega) (fun j j1 j2 => (y2 j j1).trans ((y1 j j1).trans (fg1 j (by omega))))
end Init
