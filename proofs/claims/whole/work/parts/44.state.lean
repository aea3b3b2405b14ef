/-! the state that both sides stand for; the class: undo, term, keep, back, count -/
abbrev WS : Type := Int × Int × List Int × List (List Int) × (Int × List Int) × (Int × List Int) × List Seen × List Int
def isImg (h : AH) (k0 : Int) (i0 : List Int) (k1 : Int) (i1 : List Int) : Prop := (∃ g, h 32 = aQ 4 2 g ∧ g 0 = some 33 ∧ g 1 = some 35) ∧ isRow h 33 34 i0 ∧ isRow h 35 36 i1 ∧ ∃ f, h 37 = aA 1 2 f ∧ f 0 = k0 ∧ f 1 = k1
def isScr (h : AH) (tx : List Int) : Prop := (∃ pl tk sta vl ab be, (-2147483648 ≤ vl ∧ vl ≤ 2147483647) ∧ h 6 = aO 3 (scr (tx.length : Int) pl tk sta vl ab be)) ∧ isTx h tx ∧ ∃ l, isRow h 8 9 l
def isDr (h : AH) : Prop := ∃ l, isRow h 4 5 l ∧ inRow l
def RC (h : AH) : WS → Prop := fun (p, q, t, past, (k0, i0), (k1, i1), sn, tx) => h 1 = aO 5 (top5 p q) ∧ isRow h 2 3 t ∧ isDr h ∧ isScr h tx ∧ isHist h past ∧ isImg h k0 i0 k1 i1 ∧ finSt h p q ∧ isWit h sn
def okRow (l : List Int) : Prop := inRow l ∧ rising l
def okS : WS → Prop := fun (p, q, t, past, (k0, i0), (k1, i1), sn, tx) => ((1 ≤ p ∧ p ≤ 99) ∧ (1 ≤ q ∧ q ≤ 99) ∧ p ≤ 2 * q) ∧ okRow t ∧ okPast past ∧ ((k0 = 0 ∨ k0 = 1) ∧ okRow i0) ∧ ((k1 = 0 ∨ k1 = 1) ∧ okRow i1) ∧ okSeen sn ∧ okTx tx
theorem isImg.fr {h h' : AH} {k0 k1 : Int} {i0 i1 : List Int} (H : isImg h k0 i0 k1 i1) (hf : ∀ j, 32 ≤ j → j ≤ 37 → h' j = h j) : isImg h' k0 i0 k1 i1 := by
  obtain ⟨⟨g, a1, a2⟩, a3, a4, f, a5, a6⟩ := H
  exact ⟨⟨g, (hf 32 (by omega) (by omega)).trans a1, a2⟩, a3.fr (hf 33 (by omega) (by omega)) (hf 34 (by omega) (by omega)), a4.fr (hf 35 (by omega) (by omega)) (hf 36 (by omega) (by omega)), f, (hf 37 (by omega) (by omega)).trans a5, a6⟩
theorem isScr.fr {h h' : AH} {tx : List Int} (H : isScr h tx) (hf : ∀ j, 6 ≤ j → j ≤ 9 → h' j = h j) : isScr h' tx := by
  obtain ⟨⟨a, b, c, d, e, f, a1, a2⟩, a3, l, a4⟩ := H
  exact ⟨⟨a, b, c, d, e, f, a1, (hf 6 (by omega) (by omega)).trans a2⟩, a3.fr (hf 7 (by omega) (by omega)), l, a4.fr (hf 8 (by omega) (by omega)) (hf 9 (by omega) (by omega))⟩
theorem isDr.fr {h h' : AH} (H : isDr h) (h4 : h' 4 = h 4) (h5 : h' 5 = h 5) : isDr h' := by
  obtain ⟨l, a, b⟩ := H
  exact ⟨l, a.fr h4 h5, b⟩
theorem RC.fr {h h' : AH} {s : WS} (H : RC h s) (hf : ∀ j, 1 ≤ j → j ≤ 51 → h' j = h j) : RC h' s := by
  obtain ⟨p, q, t, past, ⟨k0, i0⟩, ⟨k1, i1⟩, sn, tx⟩ := s
  obtain ⟨a1, a2, a3, a4, a5, a6, a7, a8⟩ := H
  exact ⟨(hf 1 (by omega) (by omega)).trans a1, a2.fr (hf 2 (by omega) (by omega)) (hf 3 (by omega) (by omega)), a3.fr (hf 4 (by omega) (by omega)) (hf 5 (by omega) (by omega)), a4.fr (fun j j1 j2 => hf j (by omega) (by omega)), a5.fr (fun j j1 j2 => hf j (by omega) (by omega)), a6.fr (fun j j1 j2 => hf j (by omega) (by omega)), a7.fr (fun j j1 j2 => hf j (by omega) (by omega)), a8.fr (fun j j1 j2 => hf j (by omega) (by omega))⟩
/-- a call of the class: its answer, the state behind it -/
abbrev cQ (n : Nat) (h : AH) (r : Int × WS) : AQ := aqi n fun v h' => v = r.1 ∧ RC h' r.2 ∧ ∀ j, (j < 1 ∨ 51 < j) → h' j = h j
def undoF : WS → Int × WS := fun (p, q, t, past, a, b, sn, tx) => if past.length = 0 then (-2, (p, q, t, past, a, b, sn, tx)) else ((past.length : Int) - 1, (p, q, past.getD (past.length - 1) [], past.dropLast, a, b, sn, tx))
def termF (k : Int) : WS → Int × WS := fun s => (if k < 0 then -1 else if k < s.2.2.1.length then s.2.2.1.getD k.toNat 0 else -9, s)
def keepF (k : Int) : WS → Int × WS := fun (p, q, t, past, a, b, sn, tx) => if 0 ≤ k ∧ k ≤ 1 then ((t.length : Int), (p, q, t, past, (if k = 0 then (1, t) else a), (if k = 1 then (1, t) else b), sn, tx)) else (-1, (p, q, t, past, a, b, sn, tx))
def backF (k : Int) : WS → Int × WS := fun (p, q, t, past, a, b, sn, tx) => if 0 ≤ k ∧ k ≤ 1 then (if (if k = 0 then a.1 else b.1) = 0 then (-2, (p, q, t, past, a, b, sn, tx)) else (((if k = 0 then a.2 else b.2).length : Int), (p, q, (if k = 0 then a.2 else b.2), [], a, b, sn, tx))) else (-1, (p, q, t, past, a, b, sn, tx))
def countF (k : Int) : WS → Int × WS := fun (p, q, t, past, a, b, sn, tx) => (if k = 0 then p else if k = 1 then q else if k = 2 then (t.length : Int) else if k = 3 then (if 0 < t.length then t.getD (t.length - 1) 0 else -9) else if k = 4 then (sn.length : Int) else if k = 5 then (tx.length : Int) else if k = 6 then (past.length : Int) else -1, (p, q, t, past, a, b, sn, tx))
section State
variable {d n : Nat} {h : AH} {s : WS}
theorem c5_undo (H : RC h s) (ok : okS s) : AC mX5_undo (d + 20) 0 0 n h [aR 1] (cQ n h (undoF s)) := by
  obtain ⟨p, q, t, past, ⟨k0, i0⟩, ⟨k1, i1⟩, sn, tx⟩ := s
  obtain ⟨a1, a2, a3, a4, a5, a6, a7, a8⟩ := H
  obtain ⟨o1, o2, o3, o4, o5, o6, o7⟩ := ok
  refine AC.of (by decide) (Nat.le_of_ble_eq_true rfl) ?_
  have b5 := a5.1
  have o31 := o3.1
  refine aw_aload_n dX5_undo_0 rfl ?_
  refine aw_get kg_X5_36 (by assumption) (by rfl) dX5_undo_1 ?_
  refine aw_aload_n dX5_undo_4 rfl ?_
  refine aw_get kg_X5_19 (by assumption) (by rfl) dX5_undo_5 ?_
  -- at 8: .invokevirtual 121
  refine aw_Vi1 kc_X5_121 (c_restore (d := d + 17) a5 o3 a2 (by omega)) (by assumption) rfl rfl (by omega) (Nat.le_of_ble_eq_true rfl) dX5_undo_8 (fun v h1 q1 => ?_)
  rcases q1 with ⟨q1, rfl, rfl⟩ | ⟨q1, rfl, q2, q3, q4⟩
  · refine aw_if_eq (tgt := 24) dX5_undo_11 (by omega) (by decide) (fun c1 => ?_) (fun c1 => ?_)
    · refine aw_bipush dX5_undo_24 (by decide) ?_
      -- at 26: .ireturn
      refine aw_iret rfl dX5_undo_26 ⟨rfl, _, rfl, ?_⟩
      rw [undoF, if_pos q1]
      exact ⟨rfl, ⟨a1, a2, a3, a4, a5, a6, a7, a8⟩, fun _ _ => rfl⟩
    · omega
  · have a1' := (q4 1 (by omega) (by omega) (by omega)).trans a1
    have b5' := q2.1
    refine aw_if_eq (tgt := 24) dX5_undo_11 (by omega) (by decide) (fun c1 => ?_) (fun c1 => ?_)
    · omega
    · refine aw_aload_n dX5_undo_14 rfl ?_
      refine aw_get kg_X5_36 (by assumption) (by rfl) dX5_undo_15 ?_
      -- at 18: .invokevirtual 125
      refine aw_Vi0 kc_X5_125 (c_Hist_length (d := d + 19) q2) (by assumption) rfl rfl (by omega) (Nat.le_of_ble_eq_true rfl) dX5_undo_18 (fun v h2 q5 => ?_)
      obtain ⟨rfl, rfl⟩ := q5
      refine aw_goto (tgt := 26) dX5_undo_21 (by decide) ?_
      -- at 26: .ireturn
      refine aw_iret rfl dX5_undo_26 ⟨rfl, _, rfl, ?_⟩
      rw [undoF, if_neg (by omega)]
      refine ⟨?_, ⟨a1', q3, a3.fr (q4 4 (by omega) (by omega) (by omega)) (q4 5 (by omega) (by omega) (by omega)), a4.fr (fun j j1 j2 => q4 j (by omega) (by omega) (by omega)), q2, a6.fr (fun j j1 j2 => q4 j (by omega) (by omega) (by omega)), a7.fr (fun j j1 j2 => q4 j (by omega) (by omega) (by omega)), a8.fr (fun j j1 j2 => q4 j (by omega) (by omega) (by omega))⟩, fun j hj => q4 j (by omega) (by omega) (by omega)⟩
      simp
      omega
theorem c5_term {k : Int} (hk : -2147483648 ≤ k ∧ k ≤ 2147483647) (H : RC h s) (ok : okS s) : AC mX5_term (d + 20) 0 0 n h [aR 1, aI k] (cQ n h (termF k s)) := by
  obtain ⟨p, q, t, past, ⟨k0, i0⟩, ⟨k1, i1⟩, sn, tx⟩ := s
  have H0 := H
  obtain ⟨a1, a2, a3, a4, a5, a6, a7, a8⟩ := H
  obtain ⟨o1, o2, o3, o4, o5, o6, o7⟩ := ok
  refine AC.of (by decide) (Nat.le_of_ble_eq_true rfl) ?_
  have b2 := a2.1
  refine aw_iload_n dX5_term_0 rfl ?_
  -- at 1: .ifCond .ge 5
  refine aw_if_ge (tgt := 6) dX5_term_1 (by omega) (by decide) (fun c1 => ?_) (fun c1 => ?_)
  · refine aw_aload_n dX5_term_6 rfl ?_
    refine aw_get kg_X5_19 (by assumption) (by rfl) dX5_term_7 ?_
    refine aw_iload_n dX5_term_10 rfl ?_
    -- at 11: .invokevirtual 96
    refine aw_Vi1 kc_X5_96 (c_Row_at (d := d + 18) hk a2 o2.1) (by assumption) rfl rfl (by omega) (Nat.le_of_ble_eq_true rfl) dX5_term_11 (fun v h1 q1 => ?_)
    obtain ⟨rfl, rfl⟩ := q1
    refine aw_iret rfl dX5_term_14 ⟨rfl, _, rfl, ?_, H0, fun _ _ => rfl⟩
    show _ = (if k < 0 then -1 else if k < t.length then t.getD k.toNat 0 else -9)
    rw [if_neg (show ¬ k < 0 by omega)]
    by_cases z : k < t.length
    · rw [if_pos z, if_pos (by omega)]
    · rw [if_neg z, if_neg (by omega)]
  · refine aw_iconst dX5_term_4 ?_
    -- at 5: .ireturn
    refine aw_iret rfl dX5_term_5 ⟨rfl, _, rfl, ?_, H0, fun _ _ => rfl⟩
    show _ = (if k < 0 then -1 else if k < t.length then t.getD k.toNat 0 else -9)
    rw [if_pos (by omega)]
theorem c5_count {k : Int} (hk : -2147483648 ≤ k ∧ k ≤ 2147483647) (H : RC h s) (ok : okS s) : AC mX5_count (d + 20) 0 0 n h [aR 1, aI k] (cQ n h (countF k s)) := by
  obtain ⟨p, q, t, past, ⟨k0, i0⟩, ⟨k1, i1⟩, sn, tx⟩ := s
  have H0 := H
  obtain ⟨a1, a2, a3, ⟨⟨pl, tk, sta, vl, ab, be, a4, a4'⟩, a4''⟩, a5, a6, a7, a8⟩ := H
  obtain ⟨o1, o2, o3, o4, o5, o6, o7⟩ := ok
  refine AC.of (by decide) (Nat.le_of_ble_eq_true rfl) ?_
  have b2 := a2.1
  have b5 := a5.1
  have b8 := a8.1
  have len8 := o2.1.1
  refine aw_iload_n dX5_count_0 rfl ?_
  -- at 1: .tableswitch 102 0 6 #[43, 48, 53, 61, 78, 86, 94]
  by_cases z0 : k = 0
  · subst z0
    refine aw_tableIn (tgt := 44) dX5_count_1 (by decide) (by decide) (by decide) rfl (by decide) ?_
    refine aw_aload_n dX5_count_44 rfl ?_
    refine aw_get kg_X5_9 (by assumption) (by rfl) dX5_count_45 ?_
    -- at 48: .ireturn
    exact aw_iret rfl dX5_count_48 ⟨rfl, _, rfl, rfl, H0, fun _ _ => rfl⟩
  by_cases z1 : k = 1
  · subst z1
    refine aw_tableIn (tgt := 49) dX5_count_1 (by decide) (by decide) (by decide) rfl (by decide) ?_
    refine aw_aload_n dX5_count_49 rfl ?_
    refine aw_get kg_X5_13 (by assumption) (by rfl) dX5_count_50 ?_
    -- at 53: .ireturn
    exact aw_iret rfl dX5_count_53 ⟨rfl, _, rfl, rfl, H0, fun _ _ => rfl⟩
  by_cases z2 : k = 2
  · subst z2
    refine aw_tableIn (tgt := 54) dX5_count_1 (by decide) (by decide) (by decide) rfl (by decide) ?_
    refine aw_aload_n dX5_count_54 rfl ?_
    refine aw_get kg_X5_19 (by assumption) (by rfl) dX5_count_55 ?_
    -- at 58: .invokevirtual 130
    refine aw_Vi0 kc_X5_130 (c_Row_length (d := d + 19) a2) (by assumption) rfl rfl (by omega) (Nat.le_of_ble_eq_true rfl) dX5_count_58 (fun v h1 q1 => ?_)
    obtain ⟨rfl, rfl⟩ := q1
    exact aw_iret rfl dX5_count_61 ⟨rfl, _, rfl, rfl, H0, fun _ _ => rfl⟩
  by_cases z3 : k = 3
  · subst z3
    refine aw_tableIn (tgt := 62) dX5_count_1 (by decide) (by decide) (by decide) rfl (by decide) ?_
    refine aw_aload_n dX5_count_62 rfl ?_
    refine aw_get kg_X5_19 (by assumption) (by rfl) dX5_count_63 ?_
    refine aw_aload_n dX5_count_66 rfl ?_
    refine aw_get kg_X5_19 (by assumption) (by rfl) dX5_count_67 ?_
    -- at 70: .invokevirtual 130
    refine aw_Vi0 kc_X5_130 (c_Row_length (d := d + 19) a2) (by assumption) rfl rfl (by omega) (Nat.le_of_ble_eq_true rfl) dX5_count_70 (fun v h1 q1 => ?_)
    obtain ⟨rfl, rfl⟩ := q1
    refine aw_iconst dX5_count_73 ?_
    refine aw_isub dX5_count_74 ?_
    -- at 75: .invokevirtual 96
    refine aw_Vi1 kc_X5_96 (c_Row_at (d := d + 18) (by omega) a2 o2.1) (by assumption) rfl rfl (by omega) (Nat.le_of_ble_eq_true rfl) dX5_count_75 (fun v h1 q1 => ?_)
    obtain ⟨rfl, rfl⟩ := q1
    refine aw_iret rfl dX5_count_78 ⟨rfl, _, rfl, ?_, H0, fun _ _ => rfl⟩
    show _ = (if 0 < t.length then t.getD (t.length - 1) 0 else -9)
    by_cases z : 0 < t.length
    · rw [if_pos z, if_pos (by omega), show ((t.length : Int) - 1).toNat = t.length - 1 by omega]
    · rw [if_neg z, if_neg (by omega)]
  by_cases z4 : k = 4
  · subst z4
    refine aw_tableIn (tgt := 79) dX5_count_1 (by decide) (by decide) (by decide) rfl (by decide) ?_
    refine aw_aload_n dX5_count_79 rfl ?_
    refine aw_get kg_X5_58 (by assumption) (by rfl) dX5_count_80 ?_
    -- at 83: .invokevirtual 171
    refine aw_Vi0 kc_X5_171 (c_Wit_length (d := d + 19) a8) (by assumption) rfl rfl (by omega) (Nat.le_of_ble_eq_true rfl) dX5_count_83 (fun v h1 q1 => ?_)
    obtain ⟨rfl, rfl⟩ := q1
    exact aw_iret rfl dX5_count_86 ⟨rfl, _, rfl, rfl, H0, fun _ _ => rfl⟩
  by_cases z5 : k = 5
  · subst z5
    refine aw_tableIn (tgt := 87) dX5_count_1 (by decide) (by decide) (by decide) rfl (by decide) ?_
    refine aw_aload_n dX5_count_87 rfl ?_
    refine aw_get kg_X5_29 (by assumption) (by rfl) dX5_count_88 ?_
    -- at 91: .invokevirtual 66
    refine aw_Vi0 kc_X5_66 (c_Scr_length (d := d + 19) a4') (by assumption) rfl rfl (by omega) (Nat.le_of_ble_eq_true rfl) dX5_count_91 (fun v h1 q1 => ?_)
    obtain ⟨rfl, rfl⟩ := q1
    exact aw_iret rfl dX5_count_94 ⟨rfl, _, rfl, rfl, H0, fun _ _ => rfl⟩
  by_cases z6 : k = 6
  · subst z6
    refine aw_tableIn (tgt := 95) dX5_count_1 (by decide) (by decide) (by decide) rfl (by decide) ?_
    refine aw_aload_n dX5_count_95 rfl ?_
    refine aw_get kg_X5_36 (by assumption) (by rfl) dX5_count_96 ?_
    -- at 99: .invokevirtual 125
    refine aw_Vi0 kc_X5_125 (c_Hist_length (d := d + 19) a5) (by assumption) rfl rfl (by omega) (Nat.le_of_ble_eq_true rfl) dX5_count_99 (fun v h1 q1 => ?_)
    obtain ⟨rfl, rfl⟩ := q1
    exact aw_iret rfl dX5_count_102 ⟨rfl, _, rfl, rfl, H0, fun _ _ => rfl⟩
  · refine aw_tableOut (tgt := 103) dX5_count_1 hk (by omega) (by decide) ?_
    refine aw_iconst dX5_count_103 ?_
    -- at 104: .ireturn
    refine aw_iret rfl dX5_count_104 ⟨rfl, _, rfl, ?_, H0, fun _ _ => rfl⟩
    show _ = (if k = 0 then p else if k = 1 then q else if k = 2 then (t.length : Int) else if k = 3 then (if 0 < t.length then t.getD (t.length - 1) 0 else -9) else if k = 4 then (sn.length : Int) else if k = 5 then (tx.length : Int) else if k = 6 then (past.length : Int) else -1)
    rw [if_neg z0, if_neg z1, if_neg z2, if_neg z3, if_neg z4, if_neg z5, if_neg z6]
theorem c5_keep {k : Int} (hk : -2147483648 ≤ k ∧ k ≤ 2147483647) (H : RC h s) (ok : okS s) : AC mX5_keep (d + 20) 0 0 n h [aR 1, aI k] (cQ n h (keepF k s)) := by
  obtain ⟨p, q, t, past, ⟨k0, i0⟩, ⟨k1, i1⟩, sn, tx⟩ := s
  have H0 := H
  obtain ⟨a1, a2, a3, a4, a5, a6, a7, a8⟩ := H
  obtain ⟨o1, o2, o3, o4, o5, o6, o7⟩ := ok
  obtain ⟨⟨g, b1, b2, b3⟩, b4, b5, f, b6, b7, b8⟩ := a6
  refine AC.of (by decide) (Nat.le_of_ble_eq_true rfl) ?_
  have bad : ¬ (0 ≤ k ∧ k ≤ 1) → ∀ L, AW mX5_keep (am_R (d + 20) 0 0) (am_Z (cQ n h (keepF k (p, q, t, past, (k0, i0), (k1, i1), sn, tx))) 0 0) 0 0 n h 9 L [] := by
    intro z L
    refine aw_iconst dX5_keep_9 ?_
    -- at 10: .ireturn
    refine aw_iret rfl dX5_keep_10 ⟨rfl, _, rfl, ?_⟩
    rw [keepF, if_neg z]
    exact ⟨rfl, H0, fun _ _ => rfl⟩
  refine aw_iload_n dX5_keep_0 rfl ?_
  -- at 1: .ifCond .lt 8
  refine aw_if_lt (tgt := 9) dX5_keep_1 (by omega) (by decide) (fun c1 => ?_) (fun c1 => ?_)
  · exact bad (by omega) _
  · refine aw_iload_n dX5_keep_4 rfl ?_
    refine aw_iconst dX5_keep_5 ?_
    -- at 6: .if_icmp .lt 5
    refine aw_icmp_lt (tgt := 11) dX5_keep_6 (by omega) (by omega) (by decide) (fun c2 => ?_) (fun c2 => ?_)
    rotate_left
    · exact bad (by omega) _
    · have b41 := b4.1
      have b51 := b5.1
      by_cases z : k = 0
      · subst z
        refine aw_aload_n dX5_keep_11 rfl ?_
        refine aw_get kg_X5_40 (by assumption) (by rfl) dX5_keep_12 ?_
        refine aw_iload_n dX5_keep_15 rfl ?_
        refine aw_aaldR b1 (by omega) b2 dX5_keep_16 ?_
        refine aw_aload_n dX5_keep_17 rfl ?_
        refine aw_get kg_X5_19 (by assumption) (by rfl) dX5_keep_18 ?_
        -- at 21: .invokevirtual 88
        refine aw_Vv1 kc_X5_88 (c_Row_copy (d := d + 18) b4 a2 o2.1 (by omega) (by omega)) (by assumption) rfl rfl (by omega) (Nat.le_of_ble_eq_true rfl) dX5_keep_21 (fun h1 q1 => ?_)
        obtain ⟨q2, q3⟩ := q1
        have a1' := (q3 1 (by omega) (by omega)).trans a1
        have b6' := (q3 37 (by omega) (by omega)).trans b6
        refine aw_aload_n dX5_keep_24 rfl ?_
        refine aw_get kg_X5_44 (by assumption) (by rfl) dX5_keep_25 ?_
        refine aw_iload_n dX5_keep_28 rfl ?_
        refine aw_iconst dX5_keep_29 ?_
        -- at 30: .bastore
        refine aw_zastO (by assumption) (by omega) (by omega) dX5_keep_30 (fun h2 b9 f9 => ?_)
        have a1'' := (f9 1 (by omega)).trans a1'
        have fr : ∀ j, j ≠ 33 → j ≠ 34 → j ≠ 37 → h2 j = h j := fun j j1 j2 j3 => (f9 j j3).trans (q3 j j1 j2)
        have a2' := a2.fr (fr 2 (by omega) (by omega) (by omega)) (fr 3 (by omega) (by omega) (by omega))
        have a21 := a2'.1
        refine aw_aload_n dX5_keep_31 rfl ?_
        refine aw_get kg_X5_19 (by assumption) (by rfl) dX5_keep_32 ?_
        -- at 35: .invokevirtual 130
        refine aw_Vi0 kc_X5_130 (c_Row_length (d := d + 19) a2') (by assumption) rfl rfl (by omega) (Nat.le_of_ble_eq_true rfl) dX5_keep_35 (fun v h3 q1 => ?_)
        obtain ⟨rfl, rfl⟩ := q1
        refine aw_iret rfl dX5_keep_38 ⟨rfl, _, rfl, ?_⟩
        rw [keepF, if_pos (by omega)]
        refine ⟨rfl, ⟨a1'', a2', a3.fr (fr 4 (by omega) (by omega) (by omega)) (fr 5 (by omega) (by omega) (by omega)), a4.fr (fun j j1 j2 => fr j (by omega) (by omega) (by omega)), a5.fr (fun j j1 j2 => fr j (by omega) (by omega) (by omega)), ⟨⟨g, (fr 32 (by omega) (by omega) (by omega)).trans b1, b2, b3⟩, q2.fr (f9 33 (by omega)) (f9 34 (by omega)), b5.fr (fr 35 (by omega) (by omega) (by omega)) (fr 36 (by omega) (by omega) (by omega)), _, b9, va_up_s .., ?_⟩, a7.fr (fun j j1 j2 => fr j (by omega) (by omega) (by omega)), a8.fr (fun j j1 j2 => fr j (by omega) (by omega) (by omega))⟩, fun j hj => fr j (by omega) (by omega) (by omega)⟩
        exact (va_up_n _ _ _ (by decide)).trans b8
      · have z1 : k = 1 := by omega
        subst z1
        refine aw_aload_n dX5_keep_11 rfl ?_
        refine aw_get kg_X5_40 (by assumption) (by rfl) dX5_keep_12 ?_
        refine aw_iload_n dX5_keep_15 rfl ?_
        refine aw_aaldR b1 (by omega) b3 dX5_keep_16 ?_
        refine aw_aload_n dX5_keep_17 rfl ?_
        refine aw_get kg_X5_19 (by assumption) (by rfl) dX5_keep_18 ?_
        -- at 21: .invokevirtual 88
        refine aw_Vv1 kc_X5_88 (c_Row_copy (d := d + 18) b5 a2 o2.1 (by omega) (by omega)) (by assumption) rfl rfl (by omega) (Nat.le_of_ble_eq_true rfl) dX5_keep_21 (fun h1 q1 => ?_)
        obtain ⟨q2, q3⟩ := q1
        have a1' := (q3 1 (by omega) (by omega)).trans a1
        have b6' := (q3 37 (by omega) (by omega)).trans b6
        refine aw_aload_n dX5_keep_24 rfl ?_
        refine aw_get kg_X5_44 (by assumption) (by rfl) dX5_keep_25 ?_
        refine aw_iload_n dX5_keep_28 rfl ?_
        refine aw_iconst dX5_keep_29 ?_
        -- at 30: .bastore
        refine aw_zastO (by assumption) (by omega) (by omega) dX5_keep_30 (fun h2 b9 f9 => ?_)
        have a1'' := (f9 1 (by omega)).trans a1'
        have fr : ∀ j, j ≠ 35 → j ≠ 36 → j ≠ 37 → h2 j = h j := fun j j1 j2 j3 => (f9 j j3).trans (q3 j j1 j2)
        have a2' := a2.fr (fr 2 (by omega) (by omega) (by omega)) (fr 3 (by omega) (by omega) (by omega))
        have a21 := a2'.1
        refine aw_aload_n dX5_keep_31 rfl ?_
        refine aw_get kg_X5_19 (by assumption) (by rfl) dX5_keep_32 ?_
        -- at 35: .invokevirtual 130
        refine aw_Vi0 kc_X5_130 (c_Row_length (d := d + 19) a2') (by assumption) rfl rfl (by omega) (Nat.le_of_ble_eq_true rfl) dX5_keep_35 (fun v h3 q1 => ?_)
        obtain ⟨rfl, rfl⟩ := q1
        refine aw_iret rfl dX5_keep_38 ⟨rfl, _, rfl, ?_⟩
        rw [keepF, if_pos (by omega)]
        refine ⟨rfl, ⟨a1'', a2', a3.fr (fr 4 (by omega) (by omega) (by omega)) (fr 5 (by omega) (by omega) (by omega)), a4.fr (fun j j1 j2 => fr j (by omega) (by omega) (by omega)), a5.fr (fun j j1 j2 => fr j (by omega) (by omega) (by omega)), ⟨⟨g, (fr 32 (by omega) (by omega) (by omega)).trans b1, b2, b3⟩, b4.fr (fr 33 (by omega) (by omega) (by omega)) (fr 34 (by omega) (by omega) (by omega)), q2.fr (f9 35 (by omega)) (f9 36 (by omega)), _, b9, ?_, va_up_s ..⟩, a7.fr (fun j j1 j2 => fr j (by omega) (by omega) (by omega)), a8.fr (fun j j1 j2 => fr j (by omega) (by omega) (by omega))⟩, fun j hj => fr j (by omega) (by omega) (by omega)⟩
        exact (va_up_n _ _ _ (by decide)).trans b7
theorem c5_back {k : Int} (hk : -2147483648 ≤ k ∧ k ≤ 2147483647) (H : RC h s) (ok : okS s) : AC mX5_back (d + 20) 0 0 n h [aR 1, aI k] (cQ n h (backF k s)) := by
  obtain ⟨p, q, t, past, ⟨k0, i0⟩, ⟨k1, i1⟩, sn, tx⟩ := s
  have H0 := H
  obtain ⟨a1, a2, a3, a4, a5, a6, a7, a8⟩ := H
  obtain ⟨o1, o2, o3, o4, o5, o6, o7⟩ := ok
  have a6' := a6
  obtain ⟨⟨g, b1, b2, b3⟩, b4, b5, f, b6, b7, b8⟩ := a6
  refine AC.of (by decide) (Nat.le_of_ble_eq_true rfl) ?_
  have bad : ¬ (0 ≤ k ∧ k ≤ 1) → ∀ L, AW mX5_back (am_R (d + 20) 0 0) (am_Z (cQ n h (backF k (p, q, t, past, (k0, i0), (k1, i1), sn, tx))) 0 0) 0 0 n h 9 L [] := by
    intro z L
    refine aw_iconst dX5_back_9 ?_
    -- at 10: .ireturn
    refine aw_iret rfl dX5_back_10 ⟨rfl, _, rfl, ?_⟩
    rw [backF, if_neg z]
    exact ⟨rfl, H0, fun _ _ => rfl⟩
  have b21 := a2.1
  have rest : ∀ (ri ra : Nat) (im : List Int), 33 ≤ ri ∧ ri ≤ 36 → 33 ≤ ra ∧ ra ≤ 36 → isRow h ri ra im → okRow im → backF k (p, q, t, past, (k0, i0), (k1, i1), sn, tx) = ((im.length : Int), (p, q, im, [], (k0, i0), (k1, i1), sn, tx)) → AW mX5_back (am_R (d + 20) 0 0) (am_Z (cQ n h (backF k (p, q, t, past, (k0, i0), (k1, i1), sn, tx))) 0 0) 0 0 n h 33 [some (aR 1), some (aI k)] [aR ri, aR 2] := by
    intro ri ra im r1 r2 HI oI e
    refine aw_Vv1 kc_X5_88 (c_Row_copy (d := d + 18) a2 HI oI.1 (by omega) (by omega)) (by assumption) rfl rfl (by omega) (Nat.le_of_ble_eq_true rfl) dX5_back_33 (fun h1 q1 => ?_)
    obtain ⟨q2, q3⟩ := q1
    have a1' := (q3 1 (by omega) (by omega)).trans a1
    have a5' := a5.fr (h' := h1) (fun j j1 j2 => q3 j (by omega) (by omega))
    have a51 := a5'.1
    refine aw_aload_n dX5_back_36 rfl ?_
    refine aw_get kg_X5_36 (by assumption) (by rfl) dX5_back_37 ?_
    -- at 40: .invokevirtual 179
    refine aw_Vv0 kc_X5_179 (c_Hist_wipe (d := d + 19) a5') (by assumption) rfl rfl (by omega) (Nat.le_of_ble_eq_true rfl) dX5_back_40 (fun h2 q4 => ?_)
    obtain ⟨q5, q6⟩ := q4
    have fr : ∀ j, j ≠ 2 → j ≠ 3 → j ≠ 10 → h2 j = h j := fun j j1 j2 j3 => (q6 j j3).trans (q3 j j1 j2)
    have a1'' := (q6 1 (by omega)).trans a1'
    have a2' := q2.fr (q6 2 (by omega)) (q6 3 (by omega))
    have a21 := a2'.1
    refine aw_aload_n dX5_back_43 rfl ?_
    refine aw_get kg_X5_19 (by assumption) (by rfl) dX5_back_44 ?_
    -- at 47: .invokevirtual 130
    refine aw_Vi0 kc_X5_130 (c_Row_length (d := d + 19) a2') (by assumption) rfl rfl (by omega) (Nat.le_of_ble_eq_true rfl) dX5_back_47 (fun v h3 q1 => ?_)
    obtain ⟨rfl, rfl⟩ := q1
    refine aw_iret rfl dX5_back_50 ⟨rfl, _, rfl, ?_⟩
    rw [e]
    exact ⟨rfl, ⟨a1'', a2', a3.fr (fr 4 (by omega) (by omega) (by omega)) (fr 5 (by omega) (by omega) (by omega)), a4.fr (fun j j1 j2 => fr j (by omega) (by omega) (by omega)), q5, a6'.fr (fun j j1 j2 => fr j (by omega) (by omega) (by omega)), a7.fr (fun j j1 j2 => fr j (by omega) (by omega) (by omega)), a8.fr (fun j j1 j2 => fr j (by omega) (by omega) (by omega))⟩, fun j hj => fr j (by omega) (by omega) (by omega)⟩
  refine aw_iload_n dX5_back_0 rfl ?_
  -- at 1: .ifCond .lt 8
  refine aw_if_lt (tgt := 9) dX5_back_1 (by omega) (by decide) (fun c1 => ?_) (fun c1 => ?_)
  · exact bad (by omega) _
  · refine aw_iload_n dX5_back_4 rfl ?_
    refine aw_iconst dX5_back_5 ?_
    -- at 6: .if_icmp .lt 5
    refine aw_icmp_lt (tgt := 11) dX5_back_6 (by omega) (by omega) (by decide) (fun c2 => ?_) (fun c2 => ?_)
    rotate_left
    · exact bad (by omega) _
    · by_cases z : k = 0
      · subst z
        refine aw_aload_n dX5_back_11 rfl ?_
        refine aw_get kg_X5_44 (by assumption) (by rfl) dX5_back_12 ?_
        refine aw_iload_n dX5_back_15 rfl ?_
        refine aw_zald (by assumption) (by omega) dX5_back_16 ?_
        refine aw_val (w := aI k0) (by rw [← b7]; rfl) ?_
        refine aw_if_ne (tgt := 23) dX5_back_17 (by omega) (by decide) (fun c3 => ?_) (fun c3 => ?_)
        · refine aw_aload_n dX5_back_23 rfl ?_
          refine aw_get kg_X5_19 (by assumption) (by rfl) dX5_back_24 ?_
          refine aw_aload_n dX5_back_27 rfl ?_
          refine aw_get kg_X5_40 (by assumption) (by rfl) dX5_back_28 ?_
          refine aw_iload_n dX5_back_31 rfl ?_
          refine aw_aaldR b1 (by omega) b2 dX5_back_32 ?_
          exact rest 33 34 i0 (by omega) (by omega) b4 o4.2 (by rw [backF, if_pos (by omega), if_neg (by simpa using c3)]; rfl)
        · refine aw_bipush dX5_back_20 (by decide) ?_
          -- at 22: .ireturn
          refine aw_iret rfl dX5_back_22 ⟨rfl, _, rfl, ?_⟩
          rw [backF, if_pos (by omega), if_pos (by simpa using c3)]
          exact ⟨rfl, H0, fun _ _ => rfl⟩
      · have z1 : k = 1 := by omega
        subst z1
        refine aw_aload_n dX5_back_11 rfl ?_
        refine aw_get kg_X5_44 (by assumption) (by rfl) dX5_back_12 ?_
        refine aw_iload_n dX5_back_15 rfl ?_
        refine aw_zald (by assumption) (by omega) dX5_back_16 ?_
        refine aw_val (w := aI k1) (by rw [← b8]; rfl) ?_
        refine aw_if_ne (tgt := 23) dX5_back_17 (by omega) (by decide) (fun c3 => ?_) (fun c3 => ?_)
        · refine aw_aload_n dX5_back_23 rfl ?_
          refine aw_get kg_X5_19 (by assumption) (by rfl) dX5_back_24 ?_
          refine aw_aload_n dX5_back_27 rfl ?_
          refine aw_get kg_X5_40 (by assumption) (by rfl) dX5_back_28 ?_
          refine aw_iload_n dX5_back_31 rfl ?_
          refine aw_aaldR b1 (by omega) b3 dX5_back_32 ?_
          exact rest 35 36 i1 (by omega) (by omega) b5 o5.2 (by rw [backF, if_pos (by omega), if_neg (by simpa using c3)]; rfl)
        · refine aw_bipush dX5_back_20 (by decide) ?_
          -- at 22: .ireturn
          refine aw_iret rfl dX5_back_22 ⟨rfl, _, rfl, ?_⟩
          rw [backF, if_pos (by omega), if_pos (by simpa using c3)]
          exact ⟨rfl, H0, fun _ _ => rfl⟩
end State
