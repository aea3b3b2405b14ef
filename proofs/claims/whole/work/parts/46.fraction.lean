/-! the class: type, clear, fraction -/
def typeF (x : Int) : WS → Int × WS := fun (p, q, t, past, a, b, sn, tx) => if 0 ≤ x ∧ x ≤ 255 then (if tx.length < 60 then ((tx.length : Int) + 1, (p, q, t, past, a, b, sn, tx ++ [x])) else (-3, (p, q, t, past, a, b, sn, tx))) else (-1, (p, q, t, past, a, b, sn, tx))
def clearF : WS → Int × WS := fun (p, q, t, past, a, b, sn, tx) => ((tx.length : Int), (p, q, t, past, a, b, sn, []))
def fracF : WS → Int × WS := fun (p, q, t, past, a, b, sn, tx) => if 0 ≤ (telS tx).1 then ((telS tx).1, ((telS tx).2.1, (telS tx).2.2.1, (telS tx).2.2.2, [], (0, a.2), (0, b.2), [], [])) else ((telS tx).1, (p, q, t, past, a, b, sn, tx))
theorem isTx.nil {h : AH} {t : List Int} (H : isTx h t) : isTx h [] := by
  obtain ⟨f, x, -⟩ := H
  exact ⟨f, x, fun i hi => absurd hi (by simp)⟩
theorem runS_rng {t : List Int} (ht : t.length ≤ 60) : ∀ (m s ps : Nat) (P Q : Int) (l : List Int), ps ≤ t.length → -70 ≤ (runS t m s ps P Q l).1 ∧ (runS t m s ps P Q l).1 ≤ 2
  | 0, s, ps, P, Q, l, hps => by
    show -70 ≤ finS t s ∧ finS t s ≤ 2
    unfold finS
    split
    · omega
    · split
      · omega
      · split <;> omega
  | m + 1, s, ps, P, Q, l, hps => by
    have h1 := stS_le hps
    have h2 := nxS_le hps
    rw [runS]
    split
    · show -70 ≤ finS t s ∧ finS t s ≤ 2
      unfold finS
      split
      · omega
      · split
        · omega
        · split <;> omega
    · split
      · show -70 ≤ -10 - (stS t ps : Int) ∧ -10 - (stS t ps : Int) ≤ 2
        omega
      · exact runS_rng ht m _ _ _ _ _ h2.2
theorem telS_rng {t : List Int} (ht : t.length ≤ 60) : -70 ≤ (telS t).1 ∧ (telS t).1 ≤ 2 := runS_rng ht 60 0 0 2 3 [] (Nat.zero_le _)
section Fraction
variable {d n : Nat} {h : AH} {s : WS}
theorem c5_type {x : Int} (hx : -2147483648 ≤ x ∧ x ≤ 2147483647) (H : RC h s) (ok : okS s) : AC mX5_type (d + 20) 0 0 n h [aR 1, aI x] (cQ n h (typeF x s)) := by
  obtain ⟨p, q, t, past, ⟨k0, i0⟩, ⟨k1, i1⟩, sn, tx⟩ := s
  have H0 := H
  obtain ⟨a1, a2, a3, ⟨⟨pl, tk, sta, vl, ab, be, a4, a4'⟩, a4'', l8, a48⟩, a5, a6, a7, a8⟩ := H
  obtain ⟨o1, o2, o3, o4, o5, o6, o7⟩ := ok
  refine AC.of (by decide) (Nat.le_of_ble_eq_true rfl) ?_
  have bad : ∀ L, ¬ (0 ≤ x ∧ x ≤ 255) → AW mX5_type (am_R (d + 20) 0 0) (am_Z (cQ n h (typeF x (p, q, t, past, (k0, i0), (k1, i1), sn, tx))) 0 0) 0 0 n h 11 L [] := by
    intro L z
    refine aw_iconst dX5_type_11 ?_
    -- at 12: .ireturn
    refine aw_iret rfl dX5_type_12 ⟨rfl, _, rfl, ?_⟩
    rw [typeF, if_neg z]
    exact ⟨rfl, H0, fun _ _ => rfl⟩
  refine aw_iload_n dX5_type_0 rfl ?_
  -- at 1: .ifCond .lt 10
  refine aw_if_lt (tgt := 11) dX5_type_1 (by omega) (by decide) (fun c1 => ?_) (fun c1 => ?_)
  · exact bad _ (by omega)
  · refine aw_iload_n dX5_type_4 rfl ?_
    refine aw_sipush dX5_type_5 (by decide) ?_
    -- at 8: .if_icmp .le 5
    refine aw_icmp_le (tgt := 13) dX5_type_8 (by omega) (by omega) (by decide) (fun c2 => ?_) (fun c2 => ?_)
    rotate_left
    · exact bad _ (by omega)
    · refine aw_aload_n dX5_type_13 rfl ?_
      refine aw_get kg_X5_29 (by assumption) (by rfl) dX5_type_14 ?_
      refine aw_iload_n dX5_type_17 rfl ?_
      -- at 18: .invokevirtual 62
      refine aw_Vi1 kc_X5_62 (c_Scr_append (d := d + 19) (by omega) a4' a4'' o7) (by assumption) rfl rfl (by omega) (Nat.le_of_ble_eq_true rfl) dX5_type_18 (fun v h1 q1 => ?_)
      rcases q1 with ⟨q1, rfl, q2, q3, q4⟩ | ⟨q1, rfl, rfl⟩
      · have a1' := (q4 1 (by omega) (by omega)).trans a1
        have el : ((tx.length : Int) + 1) = ((tx ++ [x]).length : Int) := by simp
        rw [el] at q2
        refine aw_if_eq (tgt := 34) dX5_type_21 (by omega) (by decide) (fun c3 => ?_) (fun c3 => ?_)
        · omega
        · refine aw_aload_n dX5_type_24 rfl ?_
          refine aw_get kg_X5_29 (by assumption) (by rfl) dX5_type_25 ?_
          -- at 28: .invokevirtual 66
          refine aw_Vi0 kc_X5_66 (c_Scr_length (d := d + 19) q2) (by assumption) rfl rfl (by omega) (Nat.le_of_ble_eq_true rfl) dX5_type_28 (fun v h2 q5 => ?_)
          obtain ⟨rfl, rfl⟩ := q5
          refine aw_goto (tgt := 36) dX5_type_31 (by decide) ?_
          -- at 36: .ireturn
          refine aw_iret rfl dX5_type_36 ⟨rfl, _, rfl, ?_⟩
          rw [typeF, if_pos (by omega), if_pos q1]
          exact ⟨el.symm, ⟨a1', a2.fr (q4 2 (by omega) (by omega)) (q4 3 (by omega) (by omega)), a3.fr (q4 4 (by omega) (by omega)) (q4 5 (by omega) (by omega)), ⟨⟨pl, tk, sta, vl, ab, be, a4, q2⟩, q3, l8, a48.fr (q4 8 (by omega) (by omega)) (q4 9 (by omega) (by omega))⟩, a5.fr (fun j j1 j2 => q4 j (by omega) (by omega)), a6.fr (fun j j1 j2 => q4 j (by omega) (by omega)), a7.fr (fun j j1 j2 => q4 j (by omega) (by omega)), a8.fr (fun j j1 j2 => q4 j (by omega) (by omega))⟩, fun j hj => q4 j (by omega) (by omega)⟩
      · refine aw_if_eq (tgt := 34) dX5_type_21 (by omega) (by decide) (fun c3 => ?_) (fun c3 => ?_)
        · refine aw_bipush dX5_type_34 (by decide) ?_
          -- at 36: .ireturn
          refine aw_iret rfl dX5_type_36 ⟨rfl, _, rfl, ?_⟩
          rw [typeF, if_pos (by omega), if_neg (by omega)]
          exact ⟨rfl, H0, fun _ _ => rfl⟩
        · omega
theorem c5_clear (H : RC h s) (ok : okS s) : AC mX5_clear (d + 20) 0 0 n h [aR 1] (cQ n h (clearF s)) := by
  obtain ⟨p, q, t, past, ⟨k0, i0⟩, ⟨k1, i1⟩, sn, tx⟩ := s
  obtain ⟨a1, a2, a3, ⟨⟨pl, tk, sta, vl, ab, be, a4, a4'⟩, a4'', l8, a48⟩, a5, a6, a7, a8⟩ := H
  refine AC.of (by decide) (Nat.le_of_ble_eq_true rfl) ?_
  refine aw_aload_n dX5_clear_0 rfl ?_
  refine aw_get kg_X5_29 (by assumption) (by rfl) dX5_clear_1 ?_
  -- at 4: .invokevirtual 66
  refine aw_Vi0 kc_X5_66 (c_Scr_length (d := d + 19) a4') (by assumption) rfl rfl (by omega) (Nat.le_of_ble_eq_true rfl) dX5_clear_4 (fun v h1 q1 => ?_)
  obtain ⟨rfl, rfl⟩ := q1
  refine aw_istore_n dX5_clear_7 (by decide) ?_
  refine aw_aload_n dX5_clear_8 rfl ?_
  refine aw_get kg_X5_29 (by assumption) (by rfl) dX5_clear_9 ?_
  -- at 12: .invokevirtual 70
  refine aw_Vv0 kc_X5_70 (c_Scr_wipe (d := d + 19) a4') (by assumption) rfl rfl (by omega) (Nat.le_of_ble_eq_true rfl) dX5_clear_12 (fun h2 q1 => ?_)
  obtain ⟨q2, q4⟩ := q1
  refine aw_iload_n dX5_clear_15 rfl ?_
  -- at 16: .ireturn
  exact aw_iret rfl dX5_clear_16 ⟨rfl, _, rfl, rfl, ⟨(q4 1 (by omega)).trans a1, a2.fr (q4 2 (by omega)) (q4 3 (by omega)), a3.fr (q4 4 (by omega)) (q4 5 (by omega)), ⟨⟨pl, tk, sta, vl, ab, be, a4, q2⟩, (a4''.fr (q4 7 (by omega))).nil, l8, a48.fr (q4 8 (by omega)) (q4 9 (by omega))⟩, a5.fr (fun j j1 j2 => q4 j (by omega)), a6.fr (fun j j1 j2 => q4 j (by omega)), a7.fr (fun j j1 j2 => q4 j (by omega)), a8.fr (fun j j1 j2 => q4 j (by omega))⟩, fun j hj => q4 j (by omega)⟩
theorem c_toldP {tx : List Int} {pl tk sta vl ab be : Int} (h1 : h 6 = aO 3 (scr (tx.length : Int) pl tk sta vl ab be)) : AC mX3_toldP d 0 0 n h [aR 6] (aqi n fun v h' => v = ab ∧ h' = h) := by
  refine AC.of (by decide) (Nat.le_of_ble_eq_true rfl) ?_
  refine aw_aload_n dX3_toldP_0 rfl ?_
  refine aw_get kg_X3_31 (by assumption) (by rfl) dX3_toldP_1 ?_
  -- at 4: .ireturn
  exact aw_iret rfl dX3_toldP_4 ⟨rfl, _, rfl, rfl, rfl⟩
theorem c_toldQ {tx : List Int} {pl tk sta vl ab be : Int} (h1 : h 6 = aO 3 (scr (tx.length : Int) pl tk sta vl ab be)) : AC mX3_toldQ d 0 0 n h [aR 6] (aqi n fun v h' => v = be ∧ h' = h) := by
  refine AC.of (by decide) (Nat.le_of_ble_eq_true rfl) ?_
  refine aw_aload_n dX3_toldQ_0 rfl ?_
  refine aw_get kg_X3_34 (by assumption) (by rfl) dX3_toldQ_1 ?_
  -- at 4: .ireturn
  exact aw_iret rfl dX3_toldQ_4 ⟨rfl, _, rfl, rfl, rfl⟩
theorem c_toldT {tx : List Int} {pl tk sta vl ab be : Int} (h1 : h 6 = aO 3 (scr (tx.length : Int) pl tk sta vl ab be)) : AC mX3_toldTerms d 0 0 n h [aR 6] (aqr n fun v h' => v = 8 ∧ h' = h) := by
  refine AC.of (by decide) (Nat.le_of_ble_eq_true rfl) ?_
  refine aw_aload_n dX3_toldTerms_0 rfl ?_
  refine aw_get kg_X3_40 (by assumption) (by rfl) dX3_toldTerms_1 ?_
  -- at 4: .areturn
  exact aw_aret rfl (Or.inl ⟨_, rfl⟩) dX3_toldTerms_4 ⟨rfl, _, rfl, rfl, rfl⟩
theorem c_startAnew {p q : Int} {t : List Int} {past : List (List Int)} {k0 k1 : Int} {i0 i1 : List Int} {sn : List Seen} {tx : List Int} {pl tk sta vl P Q : Int} {l : List Int} (H : RC h (p, q, t, past, (k0, i0), (k1, i1), sn, tx)) (hv : -2147483648 ≤ vl ∧ vl ≤ 2147483647) (h6 : h 6 = aO 3 (scr (tx.length : Int) pl tk sta vl P Q)) (h8 : isRow h 8 9 l) (hl : inRow l) : AC mX5_startAnew (d + 10) 0 0 n h [aR 1] (aqv n fun h' => RC h' (P, Q, l, [], (0, i0), (0, i1), [], []) ∧ ∀ j, (j < 1 ∨ 51 < j) → h' j = h j) := by
  obtain ⟨a1, a2, a3, a4, a5, a6, a7, a8⟩ := H
  obtain ⟨-, a4x, -⟩ := a4
  refine AC.of (by decide) (Nat.le_of_ble_eq_true rfl) ?_
  refine aw_aload_n dX5_startAnew_0 rfl ?_
  refine aw_aload_n dX5_startAnew_1 rfl ?_
  refine aw_get kg_X5_29 (by assumption) (by rfl) dX5_startAnew_2 ?_
  -- at 5: .invokevirtual 180
  refine aw_Vi0 kc_X5_180 (c_toldP (d := d + 9) h6) (by assumption) rfl rfl (by omega) (Nat.le_of_ble_eq_true rfl) dX5_startAnew_5 (fun v h1 q1 => ?_)
  obtain ⟨rfl, rfl⟩ := q1
  refine aw_putO kp_X5_9 (by assumption) (by simp) (aw_ni _) dX5_startAnew_8 (fun g1 b1 f1 => ?_)
  have b1 : g1 1 = aO 5 (top5 v q) := b1
  have h61 := (f1 6 (by omega)).trans h6
  refine aw_aload_n dX5_startAnew_11 rfl ?_
  refine aw_aload_n dX5_startAnew_12 rfl ?_
  refine aw_get kg_X5_29 (by assumption) (by rfl) dX5_startAnew_13 ?_
  -- at 16: .invokevirtual 183
  refine aw_Vi0 kc_X5_183 (c_toldQ (d := d + 9) h61) (by assumption) rfl rfl (by omega) (Nat.le_of_ble_eq_true rfl) dX5_startAnew_16 (fun w g1' q1 => ?_)
  obtain ⟨rfl, rfl⟩ := q1
  refine aw_putO kp_X5_13 (by assumption) (by simp) (aw_ni _) dX5_startAnew_19 (fun g2 b2 f2 => ?_)
  have b2 : g2 1 = aO 5 (top5 v w) := b2
  have fr2 : ∀ j, j ≠ 1 → g2 j = h1 j := fun j j1 => (f2 j j1).trans (f1 j j1)
  have h62 := (fr2 6 (by omega)).trans h6
  have a22 := a2.fr (fr2 2 (by omega)) (fr2 3 (by omega))
  have h82 := h8.fr (fr2 8 (by omega)) (fr2 9 (by omega))
  have a221 := a22.1
  refine aw_aload_n dX5_startAnew_22 rfl ?_
  refine aw_get kg_X5_19 (by assumption) (by rfl) dX5_startAnew_23 ?_
  refine aw_aload_n dX5_startAnew_26 rfl ?_
  refine aw_get kg_X5_29 (by assumption) (by rfl) dX5_startAnew_27 ?_
  -- at 30: .invokevirtual 186
  refine aw_Vr0 kc_X5_186 (c_toldT (d := d + 9) h62) (by assumption) rfl rfl (by omega) (Nat.le_of_ble_eq_true rfl) dX5_startAnew_30 (fun r g3 q1 => ?_)
  obtain ⟨rfl, rfl⟩ := q1
  refine aw_Vv1 kc_X5_88 (c_Row_copy (d := d + 8) a22 h82 hl (by omega) (by omega)) (by assumption) rfl rfl (by omega) (Nat.le_of_ble_eq_true rfl) dX5_startAnew_33 (fun g4 q1 => ?_)
  obtain ⟨q2, q3⟩ := q1
  have b4 := (q3 1 (by omega) (by omega)).trans b2
  have h64 := (q3 6 (by omega) (by omega)).trans h62
  refine aw_aload_n dX5_startAnew_36 rfl ?_
  refine aw_get kg_X5_29 (by assumption) (by rfl) dX5_startAnew_37 ?_
  -- at 40: .invokevirtual 70
  refine aw_Vv0 kc_X5_70 (c_Scr_wipe (d := d + 9) h64) (by assumption) rfl rfl (by omega) (Nat.le_of_ble_eq_true rfl) dX5_startAnew_40 (fun g5 q4 => ?_)
  obtain ⟨q5, q6⟩ := q4
  have b5 := (q6 1 (by omega)).trans b4
  have fr5 : ∀ j, j ≠ 1 → j ≠ 2 → j ≠ 3 → j ≠ 6 → g5 j = h1 j := fun j j1 j2 j3 j4 => (q6 j j4).trans ((q3 j j2 j3).trans (fr2 j j1))
  have a55 := a5.fr (h' := g5) (fun j j1 j2 => fr5 j (by omega) (by omega) (by omega) (by omega))
  have a551 := a55.1
  refine aw_aload_n dX5_startAnew_43 rfl ?_
  refine aw_get kg_X5_36 (by assumption) (by rfl) dX5_startAnew_44 ?_
  -- at 47: .invokevirtual 179
  refine aw_Vv0 kc_X5_179 (c_Hist_wipe (d := d + 9) a55) (by assumption) rfl rfl (by omega) (Nat.le_of_ble_eq_true rfl) dX5_startAnew_47 (fun g6 q7 => ?_)
  obtain ⟨q8, q9⟩ := q7
  have b6 := (q9 1 (by omega)).trans b5
  have a86 := a8.fr (h' := g6) (fun j j1 j2 => (q9 j (by omega)).trans (fr5 j (by omega) (by omega) (by omega) (by omega)))
  have a861 := a86.1
  refine aw_aload_n dX5_startAnew_50 rfl ?_
  refine aw_get kg_X5_58 (by assumption) (by rfl) dX5_startAnew_51 ?_
  -- at 54: .invokevirtual 172
  refine aw_Vv0 kc_X5_172 (c_Wit_wipe (d := d + 9) a86) (by assumption) rfl rfl (by omega) (Nat.le_of_ble_eq_true rfl) dX5_startAnew_54 (fun g7 q10 => ?_)
  obtain ⟨q11, q12⟩ := q10
  have b7 := (q12 1 (by omega)).trans b6
  have fr7 : ∀ j, j ≠ 1 → j ≠ 2 → j ≠ 3 → j ≠ 6 → j ≠ 10 → (j < 48 ∨ 51 < j) → g7 j = h1 j := fun j j1 j2 j3 j4 j5 j6 => (q12 j (by omega)).trans ((q9 j j5).trans (fr5 j j1 j2 j3 j4))
  have a77 := a7.fr (h' := g7) (fun j j1 j2 => fr7 j (by omega) (by omega) (by omega) (by omega) (by omega) (by omega))
  have a771 := a77.1
  refine aw_aload_n dX5_startAnew_57 rfl ?_
  refine aw_get kg_X5_51 (by assumption) (by rfl) dX5_startAnew_58 ?_
  refine aw_aload_n dX5_startAnew_61 rfl ?_
  refine aw_get kg_X5_9 (by assumption) (by rfl) dX5_startAnew_62 ?_
  refine aw_aload_n dX5_startAnew_65 rfl ?_
  refine aw_get kg_X5_13 (by assumption) (by rfl) dX5_startAnew_66 ?_
  -- at 69: .invokevirtual 190
  refine aw_Vv2 kc_X5_190 (c_turnTo (d := d + 9) a77) (by assumption) rfl rfl (by omega) (Nat.le_of_ble_eq_true rfl) dX5_startAnew_69 (fun g8 q13 => ?_)
  obtain ⟨q14, q15⟩ := q13
  have b8 := (q15 1 (by omega)).trans b7
  have a68 := a6.fr (h' := g8) (fun j j1 j2 => (q15 j (by omega)).trans (fr7 j (by omega) (by omega) (by omega) (by omega) (by omega) (by omega)))
  obtain ⟨⟨g, m1, m2, m3⟩, m4, m5, f, m6, m7, m8⟩ := a68
  -- the images are kept no longer
  refine aw_iconst dX5_startAnew_72 ?_
  refine aw_istore_n dX5_startAnew_73 (by decide) ?_
  refine aw_iload_n dX5_startAnew_74 rfl ?_
  refine aw_iconst dX5_startAnew_75 ?_
  -- at 76: .if_icmp .ge 16
  refine aw_icmp_ge (tgt := 92) dX5_startAnew_76 (by omega) (by omega) (by decide) (fun c1 => ?_) (fun c1 => ?_)
  · omega
  · refine aw_aload_n dX5_startAnew_79 rfl ?_
    refine aw_get kg_X5_44 (by assumption) (by rfl) dX5_startAnew_80 ?_
    refine aw_iload_n dX5_startAnew_83 rfl ?_
    refine aw_iconst dX5_startAnew_84 ?_
    -- at 85: .bastore
    refine aw_zastO (by assumption) (by omega) (by omega) dX5_startAnew_85 (fun g9 b9 f9 => ?_)
    have b19 := (f9 1 (by omega)).trans b8
    refine aw_iinc dX5_startAnew_86 rfl (by decide) ?_
    refine aw_goto (tgt := 74) dX5_startAnew_89 (by decide) ?_
    refine aw_iload_n dX5_startAnew_74 rfl ?_
    refine aw_iconst dX5_startAnew_75 ?_
    -- at 76: .if_icmp .ge 16
    refine aw_icmp_ge (tgt := 92) dX5_startAnew_76 (by omega) (by omega) (by decide) (fun c2 => ?_) (fun c2 => ?_)
    · omega
    · refine aw_aload_n dX5_startAnew_79 rfl ?_
      refine aw_get kg_X5_44 (by assumption) (by rfl) dX5_startAnew_80 ?_
      refine aw_iload_n dX5_startAnew_83 rfl ?_
      refine aw_iconst dX5_startAnew_84 ?_
      -- at 85: .bastore
      refine aw_zastO (by assumption) (by omega) (by omega) dX5_startAnew_85 (fun g10 b10 f10 => ?_)
      have b110 := (f10 1 (by omega)).trans b19
      refine aw_iinc dX5_startAnew_86 rfl (by decide) ?_
      refine aw_goto (tgt := 74) dX5_startAnew_89 (by decide) ?_
      refine aw_iload_n dX5_startAnew_74 rfl ?_
      refine aw_iconst dX5_startAnew_75 ?_
      -- at 76: .if_icmp .ge 16
      refine aw_icmp_ge (tgt := 92) dX5_startAnew_76 (by omega) (by omega) (by decide) (fun c3 => ?_) (fun c3 => ?_)
      rotate_left
      · omega
      · have fr8 : ∀ j, j ≠ 37 → g10 j = g8 j := fun j j1 => (f10 j j1).trans (f9 j j1)
        have up8 : ∀ j, j ≠ 37 → (j < 38 ∨ 47 < j) → g10 j = g7 j := fun j j1 j2 => (fr8 j j1).trans (q15 j j2)
        have up7 : ∀ j, j ≠ 37 → (j < 38 ∨ 51 < j) → g10 j = g6 j := fun j j1 j2 => (up8 j j1 (by omega)).trans (q12 j (by omega))
        have up6 : ∀ j, j ≠ 37 → j ≠ 10 → (j < 38 ∨ 51 < j) → g10 j = g5 j := fun j j1 j2 j3 => (up7 j j1 j3).trans (q9 j j2)
        refine aw_vret rfl dX5_startAnew_92 ⟨rfl, rfl, ⟨b110, q2.fr ((up6 2 (by omega) (by omega) (by omega)).trans (q6 2 (by omega))) ((up6 3 (by omega) (by omega) (by omega)).trans (q6 3 (by omega))), a3.fr ((up6 4 (by omega) (by omega) (by omega)).trans (fr5 4 (by omega) (by omega) (by omega) (by omega))) ((up6 5 (by omega) (by omega) (by omega)).trans (fr5 5 (by omega) (by omega) (by omega) (by omega))), ⟨⟨_, _, _, _, _, _, hv, (up6 6 (by omega) (by omega) (by omega)).trans q5⟩, (a4x.fr ((up6 7 (by omega) (by omega) (by omega)).trans (fr5 7 (by omega) (by omega) (by omega) (by omega)))).nil, l, h8.fr ((up6 8 (by omega) (by omega) (by omega)).trans (fr5 8 (by omega) (by omega) (by omega) (by omega))) ((up6 9 (by omega) (by omega) (by omega)).trans (fr5 9 (by omega) (by omega) (by omega) (by omega)))⟩, q8.fr (fun j j1 j2 => up7 j (by omega) (by omega)), ⟨⟨g, (fr8 32 (by omega)).trans m1, m2, m3⟩, m4.fr (fr8 33 (by omega)) (fr8 34 (by omega)), m5.fr (fr8 35 (by omega)) (fr8 36 (by omega)), _, b10, ?_, va_up_s ..⟩, q14.fr (fun j j1 j2 => fr8 j (by omega)), q11.fr (fun j j1 j2 => up8 j (by omega) (by omega))⟩, fun j hj => (up6 j (by omega) (by omega) (by omega)).trans (fr5 j (by omega) (by omega) (by omega) (by omega))⟩
        exact (va_up_n _ _ _ (by decide)).trans (va_up_s ..)
theorem c5_fraction (H : RC h s) (ok : okS s) : AC mX5_fraction (d + 20) 0 0 n h [aR 1] (cQ n h (fracF s)) := by
  obtain ⟨p, q, t, past, ⟨k0, i0⟩, ⟨k1, i1⟩, sn, tx⟩ := s
  obtain ⟨a1, a2, a3, ⟨⟨pl, tk, sta, vl, ab, be, a4, a4'⟩, a4'', l8, a48⟩, a5, a6, a7, a8⟩ := H
  obtain ⟨o1, o2, o3, o4, o5, o6, o7⟩ := ok
  have hT := telS_rng (t := tx) o7.1
  refine AC.of (by decide) (Nat.le_of_ble_eq_true rfl) ?_
  refine aw_aload_n dX5_fraction_0 rfl ?_
  refine aw_get kg_X5_29 (by assumption) (by rfl) dX5_fraction_1 ?_
  -- at 4: .invokevirtual 73
  refine aw_Vi0 kc_X5_73 (c_read (d := d + 11) a4' a4'' o7 a48 a4) (by assumption) rfl rfl (by omega) (Nat.le_of_ble_eq_true rfl) dX5_fraction_4 (fun v h1 q1 => ?_)
  obtain ⟨rfl, ⟨pl', tk', sta', vl', q2, q3⟩, q4, q5⟩ := q1
  have H1 : RC h1 (p, q, t, past, (k0, i0), (k1, i1), sn, tx) := ⟨(q5 1 (by omega) (by omega) (by omega)).trans a1, a2.fr (q5 2 (by omega) (by omega) (by omega)) (q5 3 (by omega) (by omega) (by omega)), a3.fr (q5 4 (by omega) (by omega) (by omega)) (q5 5 (by omega) (by omega) (by omega)), ⟨⟨_, _, _, _, _, _, q2, q3⟩, a4''.fr (q5 7 (by omega) (by omega) (by omega)), _, q4⟩, a5.fr (fun j j1 j2 => q5 j (by omega) (by omega) (by omega)), a6.fr (fun j j1 j2 => q5 j (by omega) (by omega) (by omega)), a7.fr (fun j j1 j2 => q5 j (by omega) (by omega) (by omega)), a8.fr (fun j j1 j2 => q5 j (by omega) (by omega) (by omega))⟩
  have a1' := H1.1
  refine aw_istore_n dX5_fraction_7 (by decide) ?_
  refine aw_iload_n dX5_fraction_8 rfl ?_
  -- at 9: .ifCond .lt 7
  refine aw_if_lt (tgt := 16) dX5_fraction_9 (by omega) (by decide) (fun c1 => ?_) (fun c1 => ?_)
  · refine aw_iload_n dX5_fraction_16 rfl ?_
    -- at 17: .ireturn
    refine aw_iret rfl dX5_fraction_17 ⟨rfl, _, rfl, ?_⟩
    rw [fracF, if_neg (by omega)]
    exact ⟨rfl, H1, fun j hj => q5 j (by omega) (by omega) (by omega)⟩
  · have hok := telS_ok (t := tx) (by omega)
    refine aw_aload_n dX5_fraction_12 rfl ?_
    -- at 13: .invokevirtual 76
    refine aw_Vv0 kc_X5_76 (c_startAnew (d := d + 9) H1 q2 q3 q4 hok.2.2.1.row) (by assumption) rfl rfl (by omega) (Nat.le_of_ble_eq_true rfl) dX5_fraction_13 (fun h2 q6 => ?_)
    obtain ⟨q7, q8⟩ := q6
    refine aw_iload_n dX5_fraction_16 rfl ?_
    -- at 17: .ireturn
    refine aw_iret rfl dX5_fraction_17 ⟨rfl, _, rfl, ?_⟩
    rw [fracF, if_pos (by omega)]
    exact ⟨rfl, q7, fun j hj => (q8 j hj).trans (q5 j (by omega) (by omega) (by omega))⟩
end Fraction
