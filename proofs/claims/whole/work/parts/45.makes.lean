/-! the class: makes, type, clear, fraction -/
def makeS (p q way : Int) : Option (List Int) := if way = 0 then greedyS p q false else if way = 1 then greedyS p q true else if way = 2 then pickS (few5 (fun k => howS k 60 p q) 5 1) 60 p q 0 else pickS (bl5 (fun k => bndS k p q) 5 1 (-9) 61).1 (bndS (bl5 (fun k => bndS k p q) 5 1 (-9) 61).1 p q) p q 0
theorem pick_row {k D p q j : Int} {l : List Int} (h : pickS k D p q j = some l) : okRow l := by
  obtain ⟨k1, k2⟩ := pickS_mem h
  exact sum_row (by omega) (by omega) k2
theorem makeS_row {p q way : Int} {l : List Int} (hq : 1 ≤ q) (h : makeS p q way = some l) : okRow l := by
  unfold makeS at h
  split at h
  · exact greedyS_ok hq h
  · split at h
    · exact greedyS_ok hq h
    · split at h
      · exact pick_row h
      · exact pick_row h
/-- another sum in the place of the one there is -/
def takeF (l : List Int) : WS → WS := fun (p, q, t, past, a, b, sn, tx) => (p, q, l, storeS past t, a, b, sn, tx)
def makesF (way : Int) : WS → Int × WS := fun s => if 0 ≤ way ∧ way ≤ 3 then (match makeS s.1 s.2.1 way with | none => (-2, s) | some l => ((l.length : Int), takeF l s)) else (-1, s)
section Makes
variable {d n : Nat} {h : AH} {s : WS}
theorem c_takeDraft {l : List Int} (H : RC h s) (ok : okS s) (HD : isRow h 4 5 l) (hl : inRow l) : AC mX5_takeDraft (d + 10) 0 0 n h [aR 1] (cQ n h ((l.length : Int), takeF l s)) := by
  obtain ⟨p, q, t, past, ⟨k0, i0⟩, ⟨k1, i1⟩, sn, tx⟩ := s
  obtain ⟨a1, a2, a3, a4, a5, a6, a7, a8⟩ := H
  obtain ⟨o1, o2, o3, o4, o5, o6, o7⟩ := ok
  refine AC.of (by decide) (Nat.le_of_ble_eq_true rfl) ?_
  have b5 := a5.1
  refine aw_aload_n dX5_takeDraft_0 rfl ?_
  refine aw_get kg_X5_36 (by assumption) (by rfl) dX5_takeDraft_1 ?_
  refine aw_aload_n dX5_takeDraft_4 rfl ?_
  refine aw_get kg_X5_19 (by assumption) (by rfl) dX5_takeDraft_5 ?_
  -- at 8: .invokevirtual 194
  refine aw_Vv1 kc_X5_194 (c_store (d := d + 7) a5 o3 a2 o2.1 (by omega)) (by assumption) rfl rfl (by omega) (Nat.le_of_ble_eq_true rfl) dX5_takeDraft_8 (fun h1 q1 => ?_)
  obtain ⟨q2, q3⟩ := q1
  have a1' := (q3 1 (by omega)).trans a1
  have a2' := a2.fr (q3 2 (by omega)) (q3 3 (by omega))
  have HD' := HD.fr (q3 4 (by omega)) (q3 5 (by omega))
  have b2' := a2'.1
  refine aw_aload_n dX5_takeDraft_11 rfl ?_
  refine aw_get kg_X5_19 (by assumption) (by rfl) dX5_takeDraft_12 ?_
  refine aw_aload_n dX5_takeDraft_15 rfl ?_
  refine aw_get kg_X5_23 (by assumption) (by rfl) dX5_takeDraft_16 ?_
  -- at 19: .invokevirtual 88
  refine aw_Vv1 kc_X5_88 (c_Row_copy (d := d + 8) a2' HD' hl (by omega) (by omega)) (by assumption) rfl rfl (by omega) (Nat.le_of_ble_eq_true rfl) dX5_takeDraft_19 (fun h2 q4 => ?_)
  obtain ⟨q5, q6⟩ := q4
  have a1'' := (q6 1 (by omega) (by omega)).trans a1'
  have b2'' := q5.1
  have fr : ∀ j, (j < 10 ∨ 31 < j) → j ≠ 2 → j ≠ 3 → h2 j = h j := fun j j1 j2 j3 => (q6 j j2 j3).trans (q3 j j1)
  refine aw_aload_n dX5_takeDraft_22 rfl ?_
  refine aw_get kg_X5_19 (by assumption) (by rfl) dX5_takeDraft_23 ?_
  -- at 26: .invokevirtual 130
  refine aw_Vi0 kc_X5_130 (c_Row_length (d := d + 9) q5) (by assumption) rfl rfl (by omega) (Nat.le_of_ble_eq_true rfl) dX5_takeDraft_26 (fun v h3 q7 => ?_)
  obtain ⟨rfl, rfl⟩ := q7
  exact aw_iret rfl dX5_takeDraft_29 ⟨rfl, _, rfl, rfl, ⟨a1'', q5, a3.fr (fr 4 (by omega) (by omega) (by omega)) (fr 5 (by omega) (by omega) (by omega)), a4.fr (fun j j1 j2 => fr j (by omega) (by omega) (by omega)), q2.fr (fun j j1 j2 => q6 j (by omega) (by omega)), a6.fr (fun j j1 j2 => fr j (by omega) (by omega) (by omega)), a7.fr (fun j j1 j2 => fr j (by omega) (by omega) (by omega)), a8.fr (fun j j1 j2 => fr j (by omega) (by omega) (by omega))⟩, fun j hj => fr j (by omega) (by omega) (by omega)⟩
/-- the draft made, or not; all else as it was -/
def drQ (h : AH) (p q : Int) (res : Option (List Int)) (v : Int) (h' : AH) : Prop := finSt h' p q ∧ (∀ j, (j < 38 ∨ 47 < j) → j ≠ 4 → j ≠ 5 → h' j = h j) ∧ ((v = 1 ∧ ∃ l, res = some l ∧ isRow h' 4 5 l) ∨ (v = 0 ∧ res = none ∧ ∃ l, inRow l ∧ isRow h' 4 5 l))
theorem c_draftBy {p q way : Int} {l0 : List Int} (hw : 0 ≤ way ∧ way ≤ 3) (hp : 1 ≤ p ∧ p ≤ 99) (hq : 1 ≤ q ∧ q ≤ 99) (hpq : p ≤ 2 * q) (a1 : h 1 = aO 5 (top5 p q)) (HD : isRow h 4 5 l0) (hl0 : inRow l0) (HF : finSt h p q) : AC mX5_draftBy (d + 15) 0 0 n h [aR 1, aI way] (aqi n fun v h' => drQ h p q (makeS p q way) v h') := by
  refine AC.of (by decide) (Nat.le_of_ble_eq_true rfl) ?_
  have f1 := HF.1
  have d1 := HD.1
  refine aw_iload_n dX5_draftBy_0 rfl ?_
  refine aw_iconst dX5_draftBy_1 ?_
  -- at 2: .if_icmp .ge 29
  refine aw_icmp_ge (tgt := 31) dX5_draftBy_2 (by omega) (by omega) (by decide) (fun c1 => ?_) (fun c1 => ?_)
  · refine aw_iload_n dX5_draftBy_31 rfl ?_
    refine aw_iconst dX5_draftBy_32 ?_
    -- at 33: .if_icmp .ne 26
    refine aw_icmp_ne (tgt := 59) dX5_draftBy_33 (by omega) (by omega) (by decide) (fun c2 => ?_) (fun c2 => ?_)
    · -- the least bound
      refine aw_aload_n dX5_draftBy_59 rfl ?_
      refine aw_get kg_X5_51 (by assumption) (by rfl) dX5_draftBy_60 ?_
      -- at 63: .invokevirtual 201
      refine aw_Vi0 kc_X5_201 (c_lengthOf (d := d + 5) (by omega) hq HF) (by assumption) rfl rfl (by omega) (Nat.le_of_ble_eq_true rfl) dX5_draftBy_63 (fun v h1 q1 => ?_)
      obtain ⟨rfl, q2, q3⟩ := q1
      have a1' := (q3 1 (by omega)).trans a1
      have f1' := q2.1
      have rb : -9 ≤ (bl5 (fun k => bndS k p q) 5 1 (-9) 61).1 ∧ (bl5 (fun k => bndS k p q) 5 1 (-9) 61).1 ≤ 6 := by
        have key : ∀ (c : Nat) (m best least : Int), 1 ≤ m ∧ m + c ≤ 6 → -9 ≤ best ∧ best ≤ 6 → -9 ≤ (bl5 (fun k => bndS k p q) c m best least).1 ∧ (bl5 (fun k => bndS k p q) c m best least).1 ≤ 6 := by
          intro c
          induction c with
          | zero => intro m best least h1 h2; exact h2
          | succ c ih =>
            intro m best least h1 h2
            rw [bl5]
            split
            · exact ih _ _ _ (by omega) (by omega)
            · exact ih _ _ _ (by omega) h2
        exact key 5 1 (-9) 61 (by omega) (by omega)
      have rr := bndS_rng (bl5 (fun k => bndS k p q) 5 1 (-9) 61).1 p q
      refine aw_istore_n dX5_draftBy_66 (by decide) ?_
      refine aw_aload_n dX5_draftBy_67 rfl ?_
      refine aw_get kg_X5_51 (by assumption) (by rfl) dX5_draftBy_68 ?_
      refine aw_iload_n dX5_draftBy_71 rfl ?_
      refine aw_aload_n dX5_draftBy_72 rfl ?_
      refine aw_get kg_X5_51 (by assumption) (by rfl) dX5_draftBy_73 ?_
      refine aw_iload_n dX5_draftBy_76 rfl ?_
      -- at 77: .invokevirtual 147
      refine aw_Vi1 kc_X5_147 (c_leastBound (d := d + 6) (by omega) (by omega) hq q2) (by assumption) rfl rfl (by omega) (Nat.le_of_ble_eq_true rfl) dX5_draftBy_77 (fun v h2 q4 => ?_)
      obtain ⟨rfl, q5, q6⟩ := q4
      have fr : ∀ j, (j < 38 ∨ 47 < j) → h2 j = h j := fun j j1 => (q6 j j1).trans (q3 j j1)
      have a1'' := (fr 1 (by omega)).trans a1
      have f1'' := q5.1
      have HD' := HD.fr (fr 4 (by omega)) (fr 5 (by omega))
      refine aw_aload_n dX5_draftBy_80 rfl ?_
      refine aw_get kg_X5_23 (by assumption) (by rfl) dX5_draftBy_81 ?_
      -- at 84: .invokevirtual 197
      refine aw_Vi3 kc_X5_197 (c_copyFirst (d := d + 5) (by omega) (by omega) (by omega) hq q5 HD' (by omega)) (by assumption) rfl rfl (by omega) (Nat.le_of_ble_eq_true rfl) dX5_draftBy_84 (fun v h3 q7 => ?_)
      obtain ⟨q8, q9, q10⟩ := q7
      have em : makeS p q way = pickS (bl5 (fun k => bndS k p q) 5 1 (-9) 61).1 (bndS (bl5 (fun k => bndS k p q) 5 1 (-9) 61).1 p q) p q 0 := by rw [makeS, if_neg (by omega), if_neg (by omega), if_neg (by omega)]
      refine aw_zret rfl dX5_draftBy_87 (by rcases q10 with ⟨z, -⟩ | ⟨z, -⟩ <;> omega) ⟨rfl, _, rfl, q8, fun j j1 j2 j3 => (q9 j j1 j2 j3).trans (fr j j1), ?_⟩
      rw [em]
      rcases q10 with ⟨z, l, z2, z3⟩ | ⟨z, z2, z3⟩
      · exact Or.inl ⟨z, l, z2, z3⟩
      · exact Or.inr ⟨z, z2, l0, hl0, z3⟩
    · -- the fewest
      have fr0 : -9 ≤ few5 (fun k => howS k 60 p q) 5 1 ∧ few5 (fun k => howS k 60 p q) 5 1 ≤ 6 := by
        have key : ∀ (c : Nat) (m : Int), 1 ≤ m ∧ m + c ≤ 6 → -9 ≤ few5 (fun k => howS k 60 p q) c m ∧ few5 (fun k => howS k 60 p q) c m ≤ 6 := by
          intro c
          induction c with
          | zero => intro m h1; rw [few5]; omega
          | succ c ih =>
            intro m h1
            rw [few5]
            split
            · omega
            · exact ih _ (by omega)
        exact key 5 1 (by omega)
      refine aw_aload_n dX5_draftBy_36 rfl ?_
      refine aw_get kg_X5_51 (by assumption) (by rfl) dX5_draftBy_37 ?_
      refine aw_aload_n dX5_draftBy_40 rfl ?_
      refine aw_get kg_X5_51 (by assumption) (by rfl) dX5_draftBy_41 ?_
      refine aw_bipush dX5_draftBy_44 (by decide) ?_
      -- at 46: .invokevirtual 144
      refine aw_Vi1 kc_X5_144 (c_leastLength (d := d + 5) (by omega) (by omega) hq HF) (by assumption) rfl rfl (by omega) (Nat.le_of_ble_eq_true rfl) dX5_draftBy_46 (fun v h1 q1 => ?_)
      obtain ⟨rfl, q2, q3⟩ := q1
      have a1' := (q3 1 (by omega)).trans a1
      have f1' := q2.1
      have HD' := HD.fr (q3 4 (by omega)) (q3 5 (by omega))
      refine aw_bipush dX5_draftBy_49 (by decide) ?_
      refine aw_aload_n dX5_draftBy_51 rfl ?_
      refine aw_get kg_X5_23 (by assumption) (by rfl) dX5_draftBy_52 ?_
      -- at 55: .invokevirtual 197
      refine aw_Vi3 kc_X5_197 (c_copyFirst (d := d + 5) (by omega) (by omega) (by omega) hq q2 HD' (by omega)) (by assumption) rfl rfl (by omega) (Nat.le_of_ble_eq_true rfl) dX5_draftBy_55 (fun v h3 q7 => ?_)
      obtain ⟨q8, q9, q10⟩ := q7
      have em : makeS p q way = pickS (few5 (fun k => howS k 60 p q) 5 1) 60 p q 0 := by rw [makeS, if_neg (by omega), if_neg (by omega), if_pos (by omega)]
      refine aw_zret rfl dX5_draftBy_58 (by rcases q10 with ⟨z, -⟩ | ⟨z, -⟩ <;> omega) ⟨rfl, _, rfl, q8, fun j j1 j2 j3 => (q9 j j1 j2 j3).trans (q3 j j1), ?_⟩
      rw [em]
      rcases q10 with ⟨z, l, z2, z3⟩ | ⟨z, z2, z3⟩
      · exact Or.inl ⟨z, l, z2, z3⟩
      · exact Or.inr ⟨z, z2, l0, hl0, z3⟩
  · have rest : ∀ (odd : Bool), makeS p q way = greedyS p q odd → AW mX5_draftBy (am_R (d + 15) 0 0) (am_Z (aqi n fun v h' => drQ h p q (makeS p q way) v h') 0 0) 0 0 n h 23 [some (aR 1), some (aI way), none] [aI (if odd = true then 1 else 0), aI q, aI p] := by
      intro odd em
      rw [em]
      refine aw_aload_n dX5_draftBy_23 rfl ?_
      refine aw_get kg_X5_23 (by assumption) (by rfl) dX5_draftBy_24 ?_
      -- at 27: .invokestatic 126
      refine aw_Si4 kc_X5_126 (c_takeGreedily (d := d + 12) hp hq hpq HD) rfl (by omega) (Nat.le_of_ble_eq_true rfl) dX5_draftBy_27 (fun v h1 q1 => ?_)
      obtain ⟨q2, q3⟩ := q1
      refine aw_zret rfl dX5_draftBy_30 (by rcases q3 with ⟨z, -⟩ | ⟨z, -⟩ <;> omega) ⟨rfl, _, rfl, HF.fr (fun j j1 j2 => q2 j (by omega) (by omega)), fun j _ j1 j2 => q2 j j1 j2, q3⟩
    refine aw_aload_n dX5_draftBy_5 rfl ?_
    refine aw_get kg_X5_9 (by assumption) (by rfl) dX5_draftBy_6 ?_
    refine aw_aload_n dX5_draftBy_9 rfl ?_
    refine aw_get kg_X5_13 (by assumption) (by rfl) dX5_draftBy_10 ?_
    refine aw_iload_n dX5_draftBy_13 rfl ?_
    refine aw_iconst dX5_draftBy_14 ?_
    -- at 15: .if_icmp .ne 7
    refine aw_icmp_ne (tgt := 22) dX5_draftBy_15 (by omega) (by omega) (by decide) (fun c2 => ?_) (fun c2 => ?_)
    · refine aw_iconst dX5_draftBy_22 ?_
      exact rest false (by rw [makeS, if_pos (by omega)])
    · refine aw_iconst dX5_draftBy_18 ?_
      refine aw_goto (tgt := 23) dX5_draftBy_19 (by decide) ?_
      exact rest true (by rw [makeS, if_neg (by omega), if_pos (by omega)])
theorem c5_makes {way : Int} (hw : -2147483648 ≤ way ∧ way ≤ 2147483647) (H : RC h s) (ok : okS s) : AC mX5_makes (d + 20) 0 0 n h [aR 1, aI way] (cQ n h (makesF way s)) := by
  obtain ⟨p, q, t, past, ⟨k0, i0⟩, ⟨k1, i1⟩, sn, tx⟩ := s
  have H0 := H
  have ok0 := ok
  obtain ⟨a1, a2, ⟨l0, a3, a3'⟩, a4, a5, a6, a7, a8⟩ := H
  obtain ⟨o1, o2, o3, o4, o5, o6, o7⟩ := ok
  refine AC.of (by decide) (Nat.le_of_ble_eq_true rfl) ?_
  have bad : ∀ L, ¬ (0 ≤ way ∧ way ≤ 3) → AW mX5_makes (am_R (d + 20) 0 0) (am_Z (cQ n h (makesF way (p, q, t, past, (k0, i0), (k1, i1), sn, tx))) 0 0) 0 0 n h 9 L [] := by
    intro L z
    refine aw_iconst dX5_makes_9 ?_
    -- at 10: .ireturn
    refine aw_iret rfl dX5_makes_10 ⟨rfl, _, rfl, ?_⟩
    rw [makesF, if_neg z]
    exact ⟨rfl, H0, fun _ _ => rfl⟩
  refine aw_iload_n dX5_makes_0 rfl ?_
  -- at 1: .ifCond .lt 8
  refine aw_if_lt (tgt := 9) dX5_makes_1 (by omega) (by decide) (fun c1 => ?_) (fun c1 => ?_)
  · exact bad _ (by omega)
  · refine aw_iload_n dX5_makes_4 rfl ?_
    refine aw_iconst dX5_makes_5 ?_
    -- at 6: .if_icmp .lt 5
    refine aw_icmp_lt (tgt := 11) dX5_makes_6 (by omega) (by omega) (by decide) (fun c2 => ?_) (fun c2 => ?_)
    rotate_left
    · exact bad _ (by omega)
    · refine aw_aload_n dX5_makes_11 rfl ?_
      refine aw_iload_n dX5_makes_12 rfl ?_
      -- at 13: .invokevirtual 79
      refine aw_Vi1 kc_X5_79 (c_draftBy (d := d + 4) (by omega) o1.1 o1.2.1 o1.2.2 a1 a3 a3' a7) (by assumption) rfl rfl (by omega) (Nat.le_of_ble_eq_true rfl) dX5_makes_13 (fun v h1 q1 => ?_)
      obtain ⟨q2, q3, q4⟩ := q1
      have a1' := (q3 1 (by omega) (by omega) (by omega)).trans a1
      have mk : ∀ l, inRow l → isRow h1 4 5 l → RC h1 (p, q, t, past, (k0, i0), (k1, i1), sn, tx) := fun l x1 x2 => ⟨a1', a2.fr (q3 2 (by omega) (by omega) (by omega)) (q3 3 (by omega) (by omega) (by omega)), ⟨l, x2, x1⟩, a4.fr (fun j j1 j2 => q3 j (by omega) (by omega) (by omega)), a5.fr (fun j j1 j2 => q3 j (by omega) (by omega) (by omega)), a6.fr (fun j j1 j2 => q3 j (by omega) (by omega) (by omega)), q2, a8.fr (fun j j1 j2 => q3 j (by omega) (by omega) (by omega))⟩
      rcases q4 with ⟨rfl, l, e, q5⟩ | ⟨rfl, e, l, q6, q5⟩
      · have hl := makeS_row o1.2.1.1 e
        have em : makesF way (p, q, t, past, (k0, i0), (k1, i1), sn, tx) = ((l.length : Int), takeF l (p, q, t, past, (k0, i0), (k1, i1), sn, tx)) := by
          rw [makesF, if_pos (by omega)]
          dsimp only
          rw [e]
        refine aw_if_eq (tgt := 26) dX5_makes_16 (by omega) (by decide) (fun c3 => ?_) (fun c3 => ?_)
        · omega
        · refine aw_aload_n dX5_makes_19 rfl ?_
          -- at 20: .invokevirtual 82
          refine aw_Vi0 kc_X5_82 (c_takeDraft (d := d + 9) (mk l hl.1 q5) ok0 q5 hl.1) (by assumption) rfl rfl (by omega) (Nat.le_of_ble_eq_true rfl) dX5_makes_20 (fun v h2 q7 => ?_)
          obtain ⟨rfl, q8, q9⟩ := q7
          refine aw_goto (tgt := 28) dX5_makes_23 (by decide) ?_
          -- at 28: .ireturn
          refine aw_iret rfl dX5_makes_28 ⟨rfl, _, rfl, ?_⟩
          rw [em]
          exact ⟨rfl, q8, fun j hj => (q9 j hj).trans (q3 j (by omega) (by omega) (by omega))⟩
      · have em : makesF way (p, q, t, past, (k0, i0), (k1, i1), sn, tx) = (-2, (p, q, t, past, (k0, i0), (k1, i1), sn, tx)) := by
          rw [makesF, if_pos (by omega)]
          dsimp only
          rw [e]
        refine aw_if_eq (tgt := 26) dX5_makes_16 (by omega) (by decide) (fun c3 => ?_) (fun c3 => ?_)
        · refine aw_bipush dX5_makes_26 (by decide) ?_
          -- at 28: .ireturn
          refine aw_iret rfl dX5_makes_28 ⟨rfl, _, rfl, ?_⟩
          rw [em]
          exact ⟨rfl, mk l q6 q5, fun j hj => q3 j (by omega) (by omega) (by omega)⟩
        · omega
end Makes
