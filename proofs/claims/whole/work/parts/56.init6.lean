/-! the reference made anew -/
def s0W : WS := (2, 3, [], [], (0, []), (0, []), [], [])
theorem aw_hp {M : AM} {R : Room} {Z : AZ} {cu su n pc : Nat} {h h' : AH} {L : List (Option AV)} {st : List AV} (e : h = h') (kk : AW M R Z cu su n h' pc L st) : AW M R Z cu su n h pc L st := e ▸ kk
section Init6
variable {d : Nat} {h : AH}
theorem c6_init (H : h 52 = aO 6 [aN, aN, aI 0, aI 0, aI 0, aN, aN, aN, aI 0, aN, aI 0, aI 0, aI 0, aI 0, aI 0, aI 0, aI 0, aI 0, aN, aN, aN, aN, aN, aN, aI 0]) : AC mX6_init (d + 4) 12 233 52 h [aR 52] (fun o n' h' => o = none ∧ n' = 64 ∧ RM h' s0W ∧ ∀ j, j < 52 → h' j = h j) := by
  refine AC.of (by decide) (Nat.le_of_ble_eq_true rfl) ?_
  refine aw_aload_n dX6_init_0 rfl ?_
  refine aw_objInit kc_X6_1 ks_obj kd_obj (Nat.le_of_ble_eq_true rfl) (by show 1 ≤ d + 4; omega) (by show 20 ≤ 64 * (d + 4); omega) dX6_init_1 ?_
  refine aw_aload_n dX6_init_4 rfl ?_
  refine aw_bipush dX6_init_5 (by decide) ?_
  refine aw_newI ka_int (by decide) (Nat.le_of_ble_eq_true rfl) (Nat.le_of_ble_eq_true rfl) dX6_init_7 ?_
  obtain ⟨g1, hg1⟩ : ∃ g, g = va_up h 53 (aA 0 (117 : Int).toNat (fun _ => 0)) := ⟨_, rfl⟩
  refine aw_hp hg1.symm ?_
  have a1 : g1 53 = aA 0 117 (fun _ => 0) := by rw [hg1]; exact va_up_s ..
  have b1 : g1 52 = aO 6 [aN, aN, aI 0, aI 0, aI 0, aN, aN, aN, aI 0, aN, aI 0, aI 0, aI 0, aI 0, aI 0, aI 0, aI 0, aI 0, aN, aN, aN, aN, aN, aN, aI 0] := by rw [hg1, va_up_n _ _ _ (by omega)]; exact H
  have u1 : ∀ j, j ≠ 53 → g1 j = h j := fun j hj => by rw [hg1, va_up_n _ _ _ hj]
  refine aw_putFO kp_X6_7 rfl (by assumption) (by simp) (aw_na _ _) dX6_init_9 (fun h1 x1 y1 => ?_)
  have x1 : h1 52 = aO 6 [aR 53, aN, aI 0, aI 0, aI 0, aN, aN, aN, aI 0, aN, aI 0, aI 0, aI 0, aI 0, aI 0, aI 0, aI 0, aI 0, aN, aN, aN, aN, aN, aN, aI 0] := x1
  have v1 : ∀ j, j ≠ 52 → j ≠ 53 → h1 j = h j := fun j j1 j2 => (y1 j j1).trans (u1 j j2)
  have c1 : h1 53 = aA 0 117 (fun _ => 0) := (y1 53 (by omega)).trans a1
  refine aw_aload_n dX6_init_12 rfl ?_
  refine aw_iconst dX6_init_13 ?_
  refine aw_newZ ka_boolean (by decide) (Nat.le_of_ble_eq_true rfl) (Nat.le_of_ble_eq_true rfl) dX6_init_14 ?_
  obtain ⟨g2, hg2⟩ : ∃ g, g = va_up h1 54 (aA 1 (2 : Int).toNat (fun _ => 0)) := ⟨_, rfl⟩
  refine aw_hp hg2.symm ?_
  have a2 : g2 54 = aA 1 2 (fun _ => 0) := by rw [hg2]; exact va_up_s ..
  have b2 : g2 52 = aO 6 [aR 53, aN, aI 0, aI 0, aI 0, aN, aN, aN, aI 0, aN, aI 0, aI 0, aI 0, aI 0, aI 0, aI 0, aI 0, aI 0, aN, aN, aN, aN, aN, aN, aI 0] := by rw [hg2, va_up_n _ _ _ (by omega)]; exact x1
  have u2 : ∀ j, j ≠ 54 → g2 j = h1 j := fun j hj => by rw [hg2, va_up_n _ _ _ hj]
  refine aw_putFO kp_X6_13 rfl (by assumption) (by simp) (aw_na _ _) dX6_init_16 (fun h2 x2 y2 => ?_)
  have x2 : h2 52 = aO 6 [aR 53, aR 54, aI 0, aI 0, aI 0, aN, aN, aN, aI 0, aN, aI 0, aI 0, aI 0, aI 0, aI 0, aI 0, aI 0, aI 0, aN, aN, aN, aN, aN, aN, aI 0] := x2
  have v2 : ∀ j, j ≠ 52 → j ≠ 54 → h2 j = h1 j := fun j j1 j2 => (y2 j j1).trans (u2 j j2)
  have c2 : h2 54 = aA 1 2 (fun _ => 0) := (y2 54 (by omega)).trans a2
  refine aw_aload_n dX6_init_19 rfl ?_
  refine aw_iconst dX6_init_20 ?_
  -- at 21: .putfield 17
  refine aw_putO kp_X6_17 (by assumption) (by simp) (aw_ni _) dX6_init_21 (fun h3 x3 y3 => ?_)
  have x3 : h3 52 = aO 6 [aR 53, aR 54, aI 0, aI 2, aI 0, aN, aN, aN, aI 0, aN, aI 0, aI 0, aI 0, aI 0, aI 0, aI 0, aI 0, aI 0, aN, aN, aN, aN, aN, aN, aI 0] := x3
  refine aw_aload_n dX6_init_24 rfl ?_
  refine aw_iconst dX6_init_25 ?_
  -- at 26: .putfield 21
  refine aw_putO kp_X6_21 (by assumption) (by simp) (aw_ni _) dX6_init_26 (fun h4 x4 y4 => ?_)
  have x4 : h4 52 = aO 6 [aR 53, aR 54, aI 0, aI 2, aI 3, aN, aN, aN, aI 0, aN, aI 0, aI 0, aI 0, aI 0, aI 0, aI 0, aI 0, aI 0, aN, aN, aN, aN, aN, aN, aI 0] := x4
  refine aw_aload_n dX6_init_29 rfl ?_
  refine aw_bipush dX6_init_30 (by decide) ?_
  refine aw_newI ka_int (by decide) (Nat.le_of_ble_eq_true rfl) (Nat.le_of_ble_eq_true rfl) dX6_init_32 ?_
  obtain ⟨g5, hg5⟩ : ∃ g, g = va_up h4 55 (aA 0 (6 : Int).toNat (fun _ => 0)) := ⟨_, rfl⟩
  refine aw_hp hg5.symm ?_
  have a5 : g5 55 = aA 0 6 (fun _ => 0) := by rw [hg5]; exact va_up_s ..
  have b5 : g5 52 = aO 6 [aR 53, aR 54, aI 0, aI 2, aI 3, aN, aN, aN, aI 0, aN, aI 0, aI 0, aI 0, aI 0, aI 0, aI 0, aI 0, aI 0, aN, aN, aN, aN, aN, aN, aI 0] := by rw [hg5, va_up_n _ _ _ (by omega)]; exact x4
  have u5 : ∀ j, j ≠ 55 → g5 j = h4 j := fun j hj => by rw [hg5, va_up_n _ _ _ hj]
  refine aw_putFO kp_X6_24 rfl (by assumption) (by simp) (aw_na _ _) dX6_init_34 (fun h5 x5 y5 => ?_)
  have x5 : h5 52 = aO 6 [aR 53, aR 54, aI 0, aI 2, aI 3, aR 55, aN, aN, aI 0, aN, aI 0, aI 0, aI 0, aI 0, aI 0, aI 0, aI 0, aI 0, aN, aN, aN, aN, aN, aN, aI 0] := x5
  have v5 : ∀ j, j ≠ 52 → j ≠ 55 → h5 j = h4 j := fun j j1 j2 => (y5 j j1).trans (u5 j j2)
  have c5 : h5 55 = aA 0 6 (fun _ => 0) := (y5 55 (by omega)).trans a5
  refine aw_aload_n dX6_init_37 rfl ?_
  refine aw_bipush dX6_init_38 (by decide) ?_
  refine aw_newI ka_int (by decide) (Nat.le_of_ble_eq_true rfl) (Nat.le_of_ble_eq_true rfl) dX6_init_40 ?_
  obtain ⟨g6, hg6⟩ : ∃ g, g = va_up h5 56 (aA 0 (6 : Int).toNat (fun _ => 0)) := ⟨_, rfl⟩
  refine aw_hp hg6.symm ?_
  have a6 : g6 56 = aA 0 6 (fun _ => 0) := by rw [hg6]; exact va_up_s ..
  have b6 : g6 52 = aO 6 [aR 53, aR 54, aI 0, aI 2, aI 3, aR 55, aN, aN, aI 0, aN, aI 0, aI 0, aI 0, aI 0, aI 0, aI 0, aI 0, aI 0, aN, aN, aN, aN, aN, aN, aI 0] := by rw [hg6, va_up_n _ _ _ (by omega)]; exact x5
  have u6 : ∀ j, j ≠ 56 → g6 j = h5 j := fun j hj => by rw [hg6, va_up_n _ _ _ hj]
  refine aw_putFO kp_X6_27 rfl (by assumption) (by simp) (aw_na _ _) dX6_init_42 (fun h6 x6 y6 => ?_)
  have x6 : h6 52 = aO 6 [aR 53, aR 54, aI 0, aI 2, aI 3, aR 55, aR 56, aN, aI 0, aN, aI 0, aI 0, aI 0, aI 0, aI 0, aI 0, aI 0, aI 0, aN, aN, aN, aN, aN, aN, aI 0] := x6
  have v6 : ∀ j, j ≠ 52 → j ≠ 56 → h6 j = h5 j := fun j j1 j2 => (y6 j j1).trans (u6 j j2)
  have c6 : h6 56 = aA 0 6 (fun _ => 0) := (y6 56 (by omega)).trans a6
  refine aw_aload_n dX6_init_45 rfl ?_
  refine aw_bipush dX6_init_46 (by decide) ?_
  refine aw_newI ka_int (by decide) (Nat.le_of_ble_eq_true rfl) (Nat.le_of_ble_eq_true rfl) dX6_init_48 ?_
  obtain ⟨g7, hg7⟩ : ∃ g, g = va_up h6 57 (aA 0 (6 : Int).toNat (fun _ => 0)) := ⟨_, rfl⟩
  refine aw_hp hg7.symm ?_
  have a7 : g7 57 = aA 0 6 (fun _ => 0) := by rw [hg7]; exact va_up_s ..
  have b7 : g7 52 = aO 6 [aR 53, aR 54, aI 0, aI 2, aI 3, aR 55, aR 56, aN, aI 0, aN, aI 0, aI 0, aI 0, aI 0, aI 0, aI 0, aI 0, aI 0, aN, aN, aN, aN, aN, aN, aI 0] := by rw [hg7, va_up_n _ _ _ (by omega)]; exact x6
  have u7 : ∀ j, j ≠ 57 → g7 j = h6 j := fun j hj => by rw [hg7, va_up_n _ _ _ hj]
  refine aw_putFO kp_X6_30 rfl (by assumption) (by simp) (aw_na _ _) dX6_init_50 (fun h7 x7 y7 => ?_)
  have x7 : h7 52 = aO 6 [aR 53, aR 54, aI 0, aI 2, aI 3, aR 55, aR 56, aR 57, aI 0, aN, aI 0, aI 0, aI 0, aI 0, aI 0, aI 0, aI 0, aI 0, aN, aN, aN, aN, aN, aN, aI 0] := x7
  have v7 : ∀ j, j ≠ 52 → j ≠ 57 → h7 j = h6 j := fun j j1 j2 => (y7 j j1).trans (u7 j j2)
  have c7 : h7 57 = aA 0 6 (fun _ => 0) := (y7 57 (by omega)).trans a7
  refine aw_aload_n dX6_init_53 rfl ?_
  refine aw_bipush dX6_init_54 (by decide) ?_
  refine aw_newI ka_int (by decide) (Nat.le_of_ble_eq_true rfl) (Nat.le_of_ble_eq_true rfl) dX6_init_56 ?_
  obtain ⟨g8, hg8⟩ : ∃ g, g = va_up h7 58 (aA 0 (60 : Int).toNat (fun _ => 0)) := ⟨_, rfl⟩
  refine aw_hp hg8.symm ?_
  have a8 : g8 58 = aA 0 60 (fun _ => 0) := by rw [hg8]; exact va_up_s ..
  have b8 : g8 52 = aO 6 [aR 53, aR 54, aI 0, aI 2, aI 3, aR 55, aR 56, aR 57, aI 0, aN, aI 0, aI 0, aI 0, aI 0, aI 0, aI 0, aI 0, aI 0, aN, aN, aN, aN, aN, aN, aI 0] := by rw [hg8, va_up_n _ _ _ (by omega)]; exact x7
  have u8 : ∀ j, j ≠ 58 → g8 j = h7 j := fun j hj => by rw [hg8, va_up_n _ _ _ hj]
  refine aw_putFO kp_X6_33 rfl (by assumption) (by simp) (aw_na _ _) dX6_init_58 (fun h8 x8 y8 => ?_)
  have x8 : h8 52 = aO 6 [aR 53, aR 54, aI 0, aI 2, aI 3, aR 55, aR 56, aR 57, aI 0, aR 58, aI 0, aI 0, aI 0, aI 0, aI 0, aI 0, aI 0, aI 0, aN, aN, aN, aN, aN, aN, aI 0] := x8
  have v8 : ∀ j, j ≠ 52 → j ≠ 58 → h8 j = h7 j := fun j j1 j2 => (y8 j j1).trans (u8 j j2)
  have c8 : h8 58 = aA 0 60 (fun _ => 0) := (y8 58 (by omega)).trans a8
  refine aw_aload_n dX6_init_61 rfl ?_
  refine aw_bipush dX6_init_62 (by decide) ?_
  refine aw_newI ka_int (by decide) (Nat.le_of_ble_eq_true rfl) (Nat.le_of_ble_eq_true rfl) dX6_init_64 ?_
  obtain ⟨g9, hg9⟩ : ∃ g, g = va_up h8 59 (aA 0 (8 : Int).toNat (fun _ => 0)) := ⟨_, rfl⟩
  refine aw_hp hg9.symm ?_
  have a9 : g9 59 = aA 0 8 (fun _ => 0) := by rw [hg9]; exact va_up_s ..
  have b9 : g9 52 = aO 6 [aR 53, aR 54, aI 0, aI 2, aI 3, aR 55, aR 56, aR 57, aI 0, aR 58, aI 0, aI 0, aI 0, aI 0, aI 0, aI 0, aI 0, aI 0, aN, aN, aN, aN, aN, aN, aI 0] := by rw [hg9, va_up_n _ _ _ (by omega)]; exact x8
  have u9 : ∀ j, j ≠ 59 → g9 j = h8 j := fun j hj => by rw [hg9, va_up_n _ _ _ hj]
  refine aw_putFO kp_X6_36 rfl (by assumption) (by simp) (aw_na _ _) dX6_init_66 (fun h9 x9 y9 => ?_)
  have x9 : h9 52 = aO 6 [aR 53, aR 54, aI 0, aI 2, aI 3, aR 55, aR 56, aR 57, aI 0, aR 58, aI 0, aI 0, aI 0, aI 0, aI 0, aI 0, aI 0, aI 0, aR 59, aN, aN, aN, aN, aN, aI 0] := x9
  have v9 : ∀ j, j ≠ 52 → j ≠ 59 → h9 j = h8 j := fun j j1 j2 => (y9 j j1).trans (u9 j j2)
  have c9 : h9 59 = aA 0 8 (fun _ => 0) := (y9 59 (by omega)).trans a9
  refine aw_aload_n dX6_init_69 rfl ?_
  refine aw_bipush dX6_init_70 (by decide) ?_
  refine aw_newI ka_int (by decide) (Nat.le_of_ble_eq_true rfl) (Nat.le_of_ble_eq_true rfl) dX6_init_72 ?_
  obtain ⟨g10, hg10⟩ : ∃ g, g = va_up h9 60 (aA 0 (8 : Int).toNat (fun _ => 0)) := ⟨_, rfl⟩
  refine aw_hp hg10.symm ?_
  have a10 : g10 60 = aA 0 8 (fun _ => 0) := by rw [hg10]; exact va_up_s ..
  have b10 : g10 52 = aO 6 [aR 53, aR 54, aI 0, aI 2, aI 3, aR 55, aR 56, aR 57, aI 0, aR 58, aI 0, aI 0, aI 0, aI 0, aI 0, aI 0, aI 0, aI 0, aR 59, aN, aN, aN, aN, aN, aI 0] := by rw [hg10, va_up_n _ _ _ (by omega)]; exact x9
  have u10 : ∀ j, j ≠ 60 → g10 j = h9 j := fun j hj => by rw [hg10, va_up_n _ _ _ hj]
  refine aw_putFO kp_X6_39 rfl (by assumption) (by simp) (aw_na _ _) dX6_init_74 (fun h10 x10 y10 => ?_)
  have x10 : h10 52 = aO 6 [aR 53, aR 54, aI 0, aI 2, aI 3, aR 55, aR 56, aR 57, aI 0, aR 58, aI 0, aI 0, aI 0, aI 0, aI 0, aI 0, aI 0, aI 0, aR 59, aR 60, aN, aN, aN, aN, aI 0] := x10
  have v10 : ∀ j, j ≠ 52 → j ≠ 60 → h10 j = h9 j := fun j j1 j2 => (y10 j j1).trans (u10 j j2)
  have c10 : h10 60 = aA 0 8 (fun _ => 0) := (y10 60 (by omega)).trans a10
  refine aw_aload_n dX6_init_77 rfl ?_
  refine aw_iconst dX6_init_78 ?_
  refine aw_newJ ka_long (by decide) (Nat.le_of_ble_eq_true rfl) (Nat.le_of_ble_eq_true rfl) dX6_init_79 ?_
  obtain ⟨g11, hg11⟩ : ∃ g, g = va_up h10 61 (aA 3 (5 : Int).toNat (fun _ => 0)) := ⟨_, rfl⟩
  refine aw_hp hg11.symm ?_
  have a11 : g11 61 = aA 3 5 (fun _ => 0) := by rw [hg11]; exact va_up_s ..
  have b11 : g11 52 = aO 6 [aR 53, aR 54, aI 0, aI 2, aI 3, aR 55, aR 56, aR 57, aI 0, aR 58, aI 0, aI 0, aI 0, aI 0, aI 0, aI 0, aI 0, aI 0, aR 59, aR 60, aN, aN, aN, aN, aI 0] := by rw [hg11, va_up_n _ _ _ (by omega)]; exact x10
  have u11 : ∀ j, j ≠ 61 → g11 j = h10 j := fun j hj => by rw [hg11, va_up_n _ _ _ hj]
  refine aw_putFO kp_X6_42 rfl (by assumption) (by simp) (aw_na _ _) dX6_init_81 (fun h11 x11 y11 => ?_)
  have x11 : h11 52 = aO 6 [aR 53, aR 54, aI 0, aI 2, aI 3, aR 55, aR 56, aR 57, aI 0, aR 58, aI 0, aI 0, aI 0, aI 0, aI 0, aI 0, aI 0, aI 0, aR 59, aR 60, aR 61, aN, aN, aN, aI 0] := x11
  have v11 : ∀ j, j ≠ 52 → j ≠ 61 → h11 j = h10 j := fun j j1 j2 => (y11 j j1).trans (u11 j j2)
  have c11 : h11 61 = aA 3 5 (fun _ => 0) := (y11 61 (by omega)).trans a11
  refine aw_aload_n dX6_init_84 rfl ?_
  refine aw_iconst dX6_init_85 ?_
  refine aw_newJ ka_long (by decide) (Nat.le_of_ble_eq_true rfl) (Nat.le_of_ble_eq_true rfl) dX6_init_86 ?_
  obtain ⟨g12, hg12⟩ : ∃ g, g = va_up h11 62 (aA 3 (5 : Int).toNat (fun _ => 0)) := ⟨_, rfl⟩
  refine aw_hp hg12.symm ?_
  have a12 : g12 62 = aA 3 5 (fun _ => 0) := by rw [hg12]; exact va_up_s ..
  have b12 : g12 52 = aO 6 [aR 53, aR 54, aI 0, aI 2, aI 3, aR 55, aR 56, aR 57, aI 0, aR 58, aI 0, aI 0, aI 0, aI 0, aI 0, aI 0, aI 0, aI 0, aR 59, aR 60, aR 61, aN, aN, aN, aI 0] := by rw [hg12, va_up_n _ _ _ (by omega)]; exact x11
  have u12 : ∀ j, j ≠ 62 → g12 j = h11 j := fun j hj => by rw [hg12, va_up_n _ _ _ hj]
  refine aw_putFO kp_X6_46 rfl (by assumption) (by simp) (aw_na _ _) dX6_init_88 (fun h12 x12 y12 => ?_)
  have x12 : h12 52 = aO 6 [aR 53, aR 54, aI 0, aI 2, aI 3, aR 55, aR 56, aR 57, aI 0, aR 58, aI 0, aI 0, aI 0, aI 0, aI 0, aI 0, aI 0, aI 0, aR 59, aR 60, aR 61, aR 62, aN, aN, aI 0] := x12
  have v12 : ∀ j, j ≠ 52 → j ≠ 62 → h12 j = h11 j := fun j j1 j2 => (y12 j j1).trans (u12 j j2)
  have c12 : h12 62 = aA 3 5 (fun _ => 0) := (y12 62 (by omega)).trans a12
  refine aw_aload_n dX6_init_91 rfl ?_
  refine aw_iconst dX6_init_92 ?_
  refine aw_newI ka_int (by decide) (Nat.le_of_ble_eq_true rfl) (Nat.le_of_ble_eq_true rfl) dX6_init_93 ?_
  obtain ⟨g13, hg13⟩ : ∃ g, g = va_up h12 63 (aA 0 (5 : Int).toNat (fun _ => 0)) := ⟨_, rfl⟩
  refine aw_hp hg13.symm ?_
  have a13 : g13 63 = aA 0 5 (fun _ => 0) := by rw [hg13]; exact va_up_s ..
  have b13 : g13 52 = aO 6 [aR 53, aR 54, aI 0, aI 2, aI 3, aR 55, aR 56, aR 57, aI 0, aR 58, aI 0, aI 0, aI 0, aI 0, aI 0, aI 0, aI 0, aI 0, aR 59, aR 60, aR 61, aR 62, aN, aN, aI 0] := by rw [hg13, va_up_n _ _ _ (by omega)]; exact x12
  have u13 : ∀ j, j ≠ 63 → g13 j = h12 j := fun j hj => by rw [hg13, va_up_n _ _ _ hj]
  refine aw_putFO kp_X6_49 rfl (by assumption) (by simp) (aw_na _ _) dX6_init_95 (fun h13 x13 y13 => ?_)
  have x13 : h13 52 = aO 6 [aR 53, aR 54, aI 0, aI 2, aI 3, aR 55, aR 56, aR 57, aI 0, aR 58, aI 0, aI 0, aI 0, aI 0, aI 0, aI 0, aI 0, aI 0, aR 59, aR 60, aR 61, aR 62, aR 63, aN, aI 0] := x13
  have v13 : ∀ j, j ≠ 52 → j ≠ 63 → h13 j = h12 j := fun j j1 j2 => (y13 j j1).trans (u13 j j2)
  have c13 : h13 63 = aA 0 5 (fun _ => 0) := (y13 63 (by omega)).trans a13
  refine aw_aload_n dX6_init_98 rfl ?_
  refine aw_iconst dX6_init_99 ?_
  refine aw_newI ka_int (by decide) (Nat.le_of_ble_eq_true rfl) (Nat.le_of_ble_eq_true rfl) dX6_init_100 ?_
  obtain ⟨g14, hg14⟩ : ∃ g, g = va_up h13 64 (aA 0 (5 : Int).toNat (fun _ => 0)) := ⟨_, rfl⟩
  refine aw_hp hg14.symm ?_
  have a14 : g14 64 = aA 0 5 (fun _ => 0) := by rw [hg14]; exact va_up_s ..
  have b14 : g14 52 = aO 6 [aR 53, aR 54, aI 0, aI 2, aI 3, aR 55, aR 56, aR 57, aI 0, aR 58, aI 0, aI 0, aI 0, aI 0, aI 0, aI 0, aI 0, aI 0, aR 59, aR 60, aR 61, aR 62, aR 63, aN, aI 0] := by rw [hg14, va_up_n _ _ _ (by omega)]; exact x13
  have u14 : ∀ j, j ≠ 64 → g14 j = h13 j := fun j hj => by rw [hg14, va_up_n _ _ _ hj]
  refine aw_putFO kp_X6_52 rfl (by assumption) (by simp) (aw_na _ _) dX6_init_102 (fun h14 x14 y14 => ?_)
  have x14 : h14 52 = aO 6 [aR 53, aR 54, aI 0, aI 2, aI 3, aR 55, aR 56, aR 57, aI 0, aR 58, aI 0, aI 0, aI 0, aI 0, aI 0, aI 0, aI 0, aI 0, aR 59, aR 60, aR 61, aR 62, aR 63, aR 64, aI 0] := x14
  have v14 : ∀ j, j ≠ 52 → j ≠ 64 → h14 j = h13 j := fun j j1 j2 => (y14 j j1).trans (u14 j j2)
  have c14 : h14 64 = aA 0 5 (fun _ => 0) := (y14 64 (by omega)).trans a14
  have p53 : h14 53 = aA 0 117 (fun _ => 0) := (v14 53 (by omega) (by omega)).trans ((v13 53 (by omega) (by omega)).trans ((v12 53 (by omega) (by omega)).trans ((v11 53 (by omega) (by omega)).trans ((v10 53 (by omega) (by omega)).trans ((v9 53 (by omega) (by omega)).trans ((v8 53 (by omega) (by omega)).trans ((v7 53 (by omega) (by omega)).trans ((v6 53 (by omega) (by omega)).trans ((v5 53 (by omega) (by omega)).trans ((y4 53 (by omega)).trans ((y3 53 (by omega)).trans ((v2 53 (by omega) (by omega)).trans (c1)))))))))))))
  have p54 : h14 54 = aA 1 2 (fun _ => 0) := (v14 54 (by omega) (by omega)).trans ((v13 54 (by omega) (by omega)).trans ((v12 54 (by omega) (by omega)).trans ((v11 54 (by omega) (by omega)).trans ((v10 54 (by omega) (by omega)).trans ((v9 54 (by omega) (by omega)).trans ((v8 54 (by omega) (by omega)).trans ((v7 54 (by omega) (by omega)).trans ((v6 54 (by omega) (by omega)).trans ((v5 54 (by omega) (by omega)).trans ((y4 54 (by omega)).trans ((y3 54 (by omega)).trans (c2))))))))))))
  have p55 : h14 55 = aA 0 6 (fun _ => 0) := (v14 55 (by omega) (by omega)).trans ((v13 55 (by omega) (by omega)).trans ((v12 55 (by omega) (by omega)).trans ((v11 55 (by omega) (by omega)).trans ((v10 55 (by omega) (by omega)).trans ((v9 55 (by omega) (by omega)).trans ((v8 55 (by omega) (by omega)).trans ((v7 55 (by omega) (by omega)).trans ((v6 55 (by omega) (by omega)).trans (c5)))))))))
  have p56 : h14 56 = aA 0 6 (fun _ => 0) := (v14 56 (by omega) (by omega)).trans ((v13 56 (by omega) (by omega)).trans ((v12 56 (by omega) (by omega)).trans ((v11 56 (by omega) (by omega)).trans ((v10 56 (by omega) (by omega)).trans ((v9 56 (by omega) (by omega)).trans ((v8 56 (by omega) (by omega)).trans ((v7 56 (by omega) (by omega)).trans (c6))))))))
  have p57 : h14 57 = aA 0 6 (fun _ => 0) := (v14 57 (by omega) (by omega)).trans ((v13 57 (by omega) (by omega)).trans ((v12 57 (by omega) (by omega)).trans ((v11 57 (by omega) (by omega)).trans ((v10 57 (by omega) (by omega)).trans ((v9 57 (by omega) (by omega)).trans ((v8 57 (by omega) (by omega)).trans (c7)))))))
  have p58 : h14 58 = aA 0 60 (fun _ => 0) := (v14 58 (by omega) (by omega)).trans ((v13 58 (by omega) (by omega)).trans ((v12 58 (by omega) (by omega)).trans ((v11 58 (by omega) (by omega)).trans ((v10 58 (by omega) (by omega)).trans ((v9 58 (by omega) (by omega)).trans (c8))))))
  have p59 : h14 59 = aA 0 8 (fun _ => 0) := (v14 59 (by omega) (by omega)).trans ((v13 59 (by omega) (by omega)).trans ((v12 59 (by omega) (by omega)).trans ((v11 59 (by omega) (by omega)).trans ((v10 59 (by omega) (by omega)).trans (c9)))))
  have p60 : h14 60 = aA 0 8 (fun _ => 0) := (v14 60 (by omega) (by omega)).trans ((v13 60 (by omega) (by omega)).trans ((v12 60 (by omega) (by omega)).trans ((v11 60 (by omega) (by omega)).trans (c10))))
  have p61 : h14 61 = aA 3 5 (fun _ => 0) := (v14 61 (by omega) (by omega)).trans ((v13 61 (by omega) (by omega)).trans ((v12 61 (by omega) (by omega)).trans (c11)))
  have p62 : h14 62 = aA 3 5 (fun _ => 0) := (v14 62 (by omega) (by omega)).trans ((v13 62 (by omega) (by omega)).trans (c12))
  have p63 : h14 63 = aA 0 5 (fun _ => 0) := (v14 63 (by omega) (by omega)).trans (c13)
  have p64 : h14 64 = aA 0 5 (fun _ => 0) := c14
  have emp : ∀ b, inW (fun _ => 0) b [] := fun b => ⟨rfl, fun i hi => absurd hi (by simp)⟩
  have nl : ∀ (r len : Nat), h14 r = aA 0 len (fun _ => 0) → isArr h14 r len [] := fun r len e => ⟨_, e, fun i hi => absurd hi (by simp)⟩
  exact aw_vret rfl dX6_init_105 ⟨rfl, rfl, ⟨⟨_, _, _, _, _, _, _, _, x14⟩, ⟨_, p53, emp 0, emp 9, emp 18, fun k hk => absurd hk (by simp)⟩, ⟨_, p54, rfl, rfl⟩, ⟨_, _, _, p55, p56, p57, fun i hi => absurd hi (by simp)⟩, ⟨_, p58, fun i hi => absurd hi (by simp)⟩, nl 59 8 p59, nl 60 8 p60, ⟨_, p61⟩, ⟨_, p62⟩, ⟨_, p63⟩, ⟨_, p64⟩⟩, fun j hj => (v14 j (by omega) (by omega)).trans ((v13 j (by omega) (by omega)).trans ((v12 j (by omega) (by omega)).trans ((v11 j (by omega) (by omega)).trans ((v10 j (by omega) (by omega)).trans ((v9 j (by omega) (by omega)).trans ((v8 j (by omega) (by omega)).trans ((v7 j (by omega) (by omega)).trans ((v6 j (by omega) (by omega)).trans ((v5 j (by omega) (by omega)).trans ((y4 j (by omega)).trans ((y3 j (by omega)).trans ((v2 j (by omega) (by omega)).trans ((v1 j (by omega) (by omega)))))))))))))))⟩
end Init6
