/-! the law from its first row -/
theorem okS0 : okS s0W := ⟨⟨by decide, by decide, by decide⟩, okRow_nil, okPast_nil, ⟨Or.inl rfl, okRow_nil⟩, ⟨Or.inl rfl, okRow_nil⟩, okSeen_nil, okTx_nil⟩
theorem law_head {Z : AZ} {h : AH} {len : Nat} {xs : Nat → Int} (hX0 : ∀ (d : Nat) (h : AH), h 38 = aO 0 [aI 0, aI 0, aN, aN, aN] → AC mX0_init (d + 4) 9 786 38 h [aR 38] (fun o n' h' => o = none ∧ n' = 47 ∧ finSt h' 2 3 ∧ ∀ j, j < 38 → h' j = h j)) (hz : len ≤ 2560) (hx : ∀ j, -2147483648 ≤ xs j ∧ xs j ≤ 2147483647) (hs : h 0 = aA 6 len xs) (fin : ∀ h L, AW mL_law room_1 Z 64 1316 64 h 765 L []) : AW mL_law room_1 Z 0 0 0 h 0 [some (aR 0), none, none, none] [] := by
  refine aw_new an_L_7 (Nat.le_of_ble_eq_true rfl) (Nat.le_of_ble_eq_true rfl) dL_law_0 ?_
  refine aw_dup dL_law_3 rfl ?_
  refine aw_callI (As := []) (d := 60) (mc := 50) (ms := 1048) kc_L_9 (c5_init (d := 50) hX0 (va_up_s ..)) (va_up_s ..) rfl rfl (Nat.le_of_ble_eq_true rfl) (Nat.le_of_ble_eq_true rfl) (Nat.le_of_ble_eq_true rfl) (Nat.le_of_ble_eq_true rfl) (Nat.le_of_ble_eq_true rfl) dL_law_4 (fun o n' h1 q => ?_)
  obtain ⟨rfl, rfl, q1, q2⟩ := q
  refine aw_astore_n dL_law_7 (by decide) ?_
  refine aw_new an_L_10 (Nat.le_of_ble_eq_true rfl) (Nat.le_of_ble_eq_true rfl) dL_law_8 ?_
  refine aw_dup dL_law_11 rfl ?_
  refine aw_callI (As := []) (d := 60) (mc := 12) (ms := 233) kc_L_12 (c6_init (d := 56) (va_up_s ..)) (va_up_s ..) rfl rfl (Nat.le_of_ble_eq_true rfl) (Nat.le_of_ble_eq_true rfl) (Nat.le_of_ble_eq_true rfl) (Nat.le_of_ble_eq_true rfl) (Nat.le_of_ble_eq_true rfl) dL_law_12 (fun o n' h2 q => ?_)
  obtain ⟨rfl, rfl, q3, q4⟩ := q
  refine aw_astore_n dL_law_15 (by decide) ?_
  refine aw_iconst dL_law_16 ?_
  refine aw_istore_n dL_law_17 (by decide) ?_
  have e0 : h2 0 = aA 6 len xs := (q4 0 (by omega)).trans ((va_up_n _ _ _ (by omega)).trans ((q2 0 (by omega)).trans ((va_up_n _ _ _ (by omega)).trans hs)))
  exact law_loop (cu := 64) (su := 1316) (by omega) (by omega) hz hx fin len 0 h2 s0W (by omega) (by omega) e0 (q1.fr (fun j j1 j2 => (q4 j (by omega)).trans (va_up_n _ _ _ (by omega)))) q3 okS0
