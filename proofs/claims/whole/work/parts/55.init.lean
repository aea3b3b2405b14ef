/-! made anew: a row -/
section Init
variable {d n : Nat} {h : AH}
theorem c_Row_init {r : Nat} (hr : r ≤ n) (H : h r = aO 2 [aN, aI 0]) : AC mX2_init (d + 1) 1 8 n h [aR r] (fun o n' h' => o = none ∧ n' = n + 1 ∧ isRow h' r (n + 1) [] ∧ ∀ j, j ≠ r → j ≠ n + 1 → h' j = h j) := by
  refine AC.of (by decide) (Nat.le_of_ble_eq_true rfl) ?_
  refine aw_aload_n dX2_init_0 rfl ?_
  refine aw_objInit kc_X2_3 ks_obj kd_obj (Nat.le_of_ble_eq_true rfl) (by show 1 ≤ d + 1; omega) (by show 20 ≤ 64 * (d + 1); omega) dX2_init_1 ?_
  refine aw_aload_n dX2_init_4 rfl ?_
  refine aw_bipush dX2_init_5 (by decide) ?_
  refine aw_newI ka_int (by decide) (Nat.le_of_ble_eq_true rfl) (Nat.le_of_ble_eq_true rfl) dX2_init_7 ?_
  have b0 : va_up h (n + 1) (aA 0 (8 : Int).toNat (fun _ => 0)) r = aO 2 [aN, aI 0] := by rw [va_up_n _ _ _ (by omega)]; exact H
  have b1 : va_up h (n + 1) (aA 0 (8 : Int).toNat (fun _ => 0)) (n + 1) = aA 0 8 (fun _ => 0) := va_up_s ..
  refine aw_putFO kp_X2_9 rfl (by assumption) (by simp) (aw_na _ _) dX2_init_9 (fun h1 x1 y1 => ?_)
  have x1 : h1 r = aO 2 [aR (n + 1), aI 0] := x1
  refine aw_aload_n dX2_init_12 rfl ?_
  refine aw_iconst dX2_init_13 ?_
  -- at 14: .putfield 15
  refine aw_putO kp_X2_15 (by assumption) (by simp) (aw_ni _) dX2_init_14 (fun h2 x2 y2 => ?_)
  have x2 : h2 r = aO 2 [aR (n + 1), aI 0] := x2
  refine aw_vret rfl dX2_init_17 ⟨rfl, rfl, ⟨x2, _, (y2 _ (by omega)).trans ((y1 _ (by omega)).trans b1), fun i hi => absurd hi (by simp)⟩, fun j j1 j2 => (y2 j j1).trans ((y1 j j1).trans (va_up_n _ _ _ j2))⟩
end Init
