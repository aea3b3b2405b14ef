/-! the law: its loop, over both sides -/
abbrev mL_law : AM := (yL_law, cL_law, 4, (some .boolean), 1)
theorem RC.top {h : AH} {s : WS} (H : RC h s) : h 1 = aO 5 (top5 s.1 s.2.1) := by
  obtain ⟨p, q, t, past, ⟨k0, i0⟩, ⟨k1, i1⟩, sn, tx⟩ := s
  exact H.1
theorem RC.dr {h : AH} {s : WS} (H : RC h s) : isDr h := by
  obtain ⟨p, q, t, past, ⟨k0, i0⟩, ⟨k1, i1⟩, sn, tx⟩ := s
  exact H.2.2.1
theorem RC.fn {h : AH} {s : WS} (H : RC h s) : finSt h s.1 s.2.1 := by
  obtain ⟨p, q, t, past, ⟨k0, i0⟩, ⟨k1, i1⟩, sn, tx⟩ := s
  exact H.2.2.2.2.2.2.1
theorem RC.wt {h : AH} {s : WS} (H : RC h s) : isWit h s.2.2.2.2.2.2.1 := by
  obtain ⟨p, q, t, past, ⟨k0, i0⟩, ⟨k1, i1⟩, sn, tx⟩ := s
  exact H.2.2.2.2.2.2.2
theorem RM.md {h : AH} {s : WS} (H : RM h s) : isMd h (s.2.2.2.1.length : Int) s.1 s.2.1 (s.2.2.2.2.2.2.1.length : Int) (s.2.2.2.2.2.2.2.length : Int) := by
  obtain ⟨p, q, t, past, ⟨k0, i0⟩, ⟨k1, i1⟩, sn, tx⟩ := s
  exact H.1
theorem RM.s {h : AH} {s : WS} (H : RM h s) : isSn h s.2.2.2.2.2.2.1 := by
  obtain ⟨p, q, t, past, ⟨k0, i0⟩, ⟨k1, i1⟩, sn, tx⟩ := s
  exact H.2.2.2.1
theorem RM.a60 {h : AH} {s : WS} (H : RM h s) : isArr h 60 8 [] := by
  obtain ⟨p, q, t, past, ⟨k0, i0⟩, ⟨k1, i1⟩, sn, tx⟩ := s
  exact H.2.2.2.2.2.2.1
theorem RM.ga {h : AH} {s : WS} (H : RM h s) : gtA h := by
  obtain ⟨p, q, t, past, ⟨k0, i0⟩, ⟨k1, i1⟩, sn, tx⟩ := s
  exact H.2.2.2.2.2.2.2
theorem okS.p {s : WS} (H : okS s) : 1 ≤ s.1 ∧ s.1 ≤ 99 := by
  obtain ⟨p, q, t, past, ⟨k0, i0⟩, ⟨k1, i1⟩, sn, tx⟩ := s
  exact H.1.1
theorem okS.p0 {s : WS} (H : okS s) : 0 ≤ s.1 ∧ s.1 ≤ 99 := by
  have := okS.p H
  omega
theorem okS.q {s : WS} (H : okS s) : 1 ≤ s.2.1 ∧ s.2.1 ≤ 99 := by
  obtain ⟨p, q, t, past, ⟨k0, i0⟩, ⟨k1, i1⟩, sn, tx⟩ := s
  exact H.1.2.1
theorem okS.pq {s : WS} (H : okS s) : s.1 ≤ 2 * s.2.1 := by
  obtain ⟨p, q, t, past, ⟨k0, i0⟩, ⟨k1, i1⟩, sn, tx⟩ := s
  exact H.1.2.2
theorem okS.sn {s : WS} (H : okS s) : okSeen s.2.2.2.2.2.2.1 := by
  obtain ⟨p, q, t, past, ⟨k0, i0⟩, ⟨k1, i1⟩, sn, tx⟩ := s
  exact H.2.2.2.2.2.1
section Conv
variable {h h' : AH} {s : WS} {v w : Int}
theorem g5_greedy (H : RC h s) (q : v = w ∧ (∃ l, inRow l ∧ isRow h' 4 5 l) ∧ ∀ j, j ≠ 4 → j ≠ 5 → h' j = h j) : v = w ∧ RC h' s ∧ ∀ j, (j < 1 ∨ 51 < j) → h' j = h j := by
  obtain ⟨q1, ⟨l, q2, q3⟩, q4⟩ := q
  exact ⟨q1, RC.draft H q4 q3 q2, fun j hj => q4 j (by omega) (by omega)⟩
theorem g5_fin (H : RC h s) (q : v = w ∧ finSt h' s.1 s.2.1 ∧ ∀ j, (j < 38 ∨ 47 < j) → h' j = h j) : v = w ∧ RC h' s ∧ ∀ j, (j < 1 ∨ 51 < j) → h' j = h j := ⟨q.1, RC.fin H q.2.1 q.2.2, fun j hj => q.2.2 j (by omega)⟩
theorem g5_same (H : RC h s) (q : v = w ∧ h' = h) : v = w ∧ RC h' s ∧ ∀ j, (j < 1 ∨ 51 < j) → h' j = h j := by
  obtain ⟨q1, rfl⟩ := q
  exact ⟨q1, H, fun _ _ => rfl⟩
theorem g6_same (H : RM h s) (q : v = w ∧ h' = h) : v = w ∧ RM h' s ∧ ∀ j, (j < 52 ∨ 64 < j) → h' j = h j := by
  obtain ⟨q1, rfl⟩ := q
  exact ⟨q1, H, fun _ _ => rfl⟩
theorem g6_greedy (H : RM h s) (q : v = w ∧ isArr h' 60 8 [] ∧ ∀ j, j ≠ 60 → h' j = h j) : v = w ∧ RM h' s ∧ ∀ j, (j < 52 ∨ 64 < j) → h' j = h j := ⟨q.1, RM.made H q.2.1 q.2.2, fun j hj => q.2.2 j (by omega)⟩
theorem g6_gt {e1 e2 e3 e4 e5 e6 e7 : Int} (H : RM h s) (q : v = w ∧ (∃ t, h' 52 = aO 6 (mdl (s.2.2.2.1.length : Int) s.1 s.2.1 (s.2.2.2.2.2.2.1.length : Int) (s.2.2.2.2.2.2.2.length : Int) e1 e2 e3 e4 e5 e6 e7 t)) ∧ gtA h' ∧ ∀ j, j ≠ 52 → (j < 61 ∨ 64 < j) → h' j = h j) : v = w ∧ RM h' s ∧ ∀ j, (j < 52 ∨ 64 < j) → h' j = h j := by
  obtain ⟨q1, ⟨t, q2⟩, q3, q4⟩ := q
  exact ⟨q1, RM.gt H ⟨_, _, _, _, _, _, _, _, q2⟩ q3 q4, fun j hj => q4 j (by omega) (by omega)⟩
theorem g5_sees {N m i : Int} (H : RC h s) (q : (¬ seesOK N m i ∧ v = -1 ∧ h' = h) ∨ (seesOK N m i ∧ 6 ≤ s.2.2.2.2.2.2.1.length ∧ v = -3 ∧ h' = h) ∨ (seesOK N m i ∧ s.2.2.2.2.2.2.1.length < 6 ∧ v = (s.2.2.2.2.2.2.1.length : Int) + 1 ∧ isWit h' (s.2.2.2.2.2.2.1 ++ [(N, m, i)]) ∧ ∀ j, (j < 48 ∨ 51 < j) → h' j = h j)) : v = (seesF N m i s).1 ∧ RC h' (seesF N m i s).2 ∧ ∀ j, (j < 1 ∨ 51 < j) → h' j = h j := by
  unfold seesOK at q
  unfold seesF
  rcases q with ⟨q1, rfl, rfl⟩ | ⟨q1, q2, rfl, rfl⟩ | ⟨q1, q2, rfl, q3, q4⟩
  · rw [if_neg q1]
    exact ⟨rfl, H, fun _ _ => rfl⟩
  · rw [if_pos q1, if_neg (by omega)]
    exact ⟨rfl, H, fun _ _ => rfl⟩
  · rw [if_pos q1, if_pos q2]
    exact ⟨rfl, RC.wit H q3 q4, fun j hj => q4 j (by omega)⟩
theorem g6_sees {N m i e1 e2 e3 e4 e5 e6 e7 e8 : Int} (H : RM h s) (q : (¬ seesOK N m i ∧ v = -1 ∧ h' = h) ∨ (seesOK N m i ∧ 6 ≤ s.2.2.2.2.2.2.1.length ∧ v = -3 ∧ h' = h) ∨ (seesOK N m i ∧ s.2.2.2.2.2.2.1.length < 6 ∧ v = (s.2.2.2.2.2.2.1.length : Int) + 1 ∧ h' 52 = aO 6 (mdl (s.2.2.2.1.length : Int) s.1 s.2.1 ((s.2.2.2.2.2.2.1.length : Int) + 1) (s.2.2.2.2.2.2.2.length : Int) e1 e2 e3 e4 e5 e6 e7 e8) ∧ isSn h' (s.2.2.2.2.2.2.1 ++ [(N, m, i)]) ∧ ∀ j, j ≠ 52 → (j < 55 ∨ 57 < j) → h' j = h j)) : v = (seesF N m i s).1 ∧ RM h' (seesF N m i s).2 ∧ ∀ j, (j < 52 ∨ 64 < j) → h' j = h j := by
  unfold seesOK at q
  unfold seesF
  rcases q with ⟨q1, rfl, rfl⟩ | ⟨q1, q2, rfl, rfl⟩ | ⟨q1, q2, rfl, q3, q4, q5⟩
  · rw [if_neg q1]
    exact ⟨rfl, H, fun _ _ => rfl⟩
  · rw [if_pos q1, if_neg (by omega)]
    exact ⟨rfl, H, fun _ _ => rfl⟩
  · rw [if_pos q1, if_pos q2]
    refine ⟨rfl, RM.sn H ⟨e1, e2, e3, e4, e5, e6, e7, e8, by rw [q3]; simp⟩ q4 q5, fun j hj => q5 j (by omega) (by omega)⟩
theorem g5_forget (H : RC h s) (q : v = (s.2.2.2.2.2.2.1.length : Int) ∧ isWit h' [] ∧ ∀ j, (j < 48 ∨ 51 < j) → h' j = h j) : v = (forgetF s).1 ∧ RC h' (forgetF s).2 ∧ ∀ j, (j < 1 ∨ 51 < j) → h' j = h j := ⟨q.1, RC.wit H q.2.1 q.2.2, fun j hj => q.2.2 j (by omega)⟩
theorem g6_forget {e1 e2 e3 e4 e5 e6 e7 e8 : Int} (H : RM h s) (q : v = (s.2.2.2.2.2.2.1.length : Int) ∧ h' 52 = aO 6 (mdl (s.2.2.2.1.length : Int) s.1 s.2.1 0 (s.2.2.2.2.2.2.2.length : Int) e1 e2 e3 e4 e5 e6 e7 e8) ∧ ∀ j, j ≠ 52 → h' j = h j) : v = (forgetF s).1 ∧ RM h' (forgetF s).2 ∧ ∀ j, (j < 52 ∨ 64 < j) → h' j = h j := ⟨q.1, RM.sn H ⟨e1, e2, e3, e4, e5, e6, e7, e8, q.2.1⟩ ((RM.s H).fr (fun j j1 j2 => q.2.2 j (by omega))).nil (fun j j1 _ => q.2.2 j j1), fun j hj => q.2.2 j (by omega)⟩
end Conv
theorem and31 (a : Int) : 0 ≤ (iI a &&& iI 31).toInt ∧ (iI a &&& iI 31).toInt ≤ 31 := by
  have h1 : (iI a &&& iI 31).toInt = ((iI a).toBitVec &&& (iI 31).toBitVec).toInt := by
    show (iI a &&& iI 31).toBitVec.toInt = _
    rw [Int32.toBitVec_and]
  have h2 : ((iI a).toBitVec &&& (iI 31).toBitVec).toNat ≤ 31 := by
    rw [BitVec.toNat_and, show (iI 31).toBitVec.toNat = 31 by decide]
    exact Nat.and_le_right
  rw [h1, BitVec.toInt_eq_toNat_of_lt (by omega)]
  omega
section LawCalls
variable {M N : AM} {Z : AZ} {cu su n pc idx b ci : Nat} {h : AH} {L : List (Option AV)} {st fs : List AV}
theorem aw_same {R : Room} {a off : Int} {tgt : Nat} (hd : decode M.2.1 pc = .ok (.if_icmp .eq off, 3)) (ht : (pc : Int) + off = (tgt : Int)) (kk : AW M R Z cu su n h tgt L st) : AW M R Z cu su n h pc L (aI a :: aI a :: st) := by
  intro p l e s m args below meth c G H locs ls C Wd hS hl
  have r1 := (iI a).toInt_lt
  have r2 := (iI a).le_toInt
  have := aw_icmp_eq (a := (iI a).toInt) (b := (iI a).toInt) hd (by omega) (by omega) ht (fun _ => kk) (fun z => absurd rfl z) p l e s m args below meth c G H locs ls C Wd hS hl
  have e1 : am_v G (aI (iI a).toInt) = am_v G (aI a) := by
    show Value.int (iI (iI a).toInt) = Value.int (iI a)
    rw [iI_toInt]
  rw [List.map_cons, List.map_cons, e1] at this
  exact this
theorem aw_LV0 {P : Int → AH → Prop} (hc : ac_V M.1.cls idx N) (hM : AC N 60 0 0 n h (aR b :: []) (aqi n P)) (hb : h b = aO ci fs) (hci : (vwCl[ci]?).map (fun q => q.1) = some N.1.cls) (hn : 0 = N.2.2.2.2) (hcu : cu ≤ 600000) (hsu : su ≤ 7302250) (hw : (st.map am_cat).sum ≤ 8) (hd : decode M.2.1 pc = .ok (.invokevirtual idx, 3)) (kk : ∀ v h', P v h' → AW M room_1 Z cu su n h' (pc + 3) L (aI v :: st)) : AW M room_1 Z cu su n h pc L (aR b :: st) :=
  aw_callV (As := []) (d := 60) (mc := 0) (ms := 0) hc hM hb hci hn (Nat.le_of_ble_eq_true rfl) (Nat.le_of_ble_eq_true rfl) hcu hsu hw hd (fun r n' h' q => by
    obtain ⟨rfl, a, rfl, hP⟩ := q
    exact kk a h' hP)
theorem aw_LV1 {x1 : AV} {P : Int → AH → Prop} (hc : ac_V M.1.cls idx N) (hM : AC N 60 0 0 n h (aR b :: [x1]) (aqi n P)) (hb : h b = aO ci fs) (hci : (vwCl[ci]?).map (fun q => q.1) = some N.1.cls) (hn : 1 = N.2.2.2.2) (hcu : cu ≤ 600000) (hsu : su ≤ 7302250) (hw : (st.map am_cat).sum ≤ 8) (hd : decode M.2.1 pc = .ok (.invokevirtual idx, 3)) (kk : ∀ v h', P v h' → AW M room_1 Z cu su n h' (pc + 3) L (aI v :: st)) : AW M room_1 Z cu su n h pc L (x1 :: aR b :: st) :=
  aw_callV (As := [x1]) (d := 60) (mc := 0) (ms := 0) hc hM hb hci hn (Nat.le_of_ble_eq_true rfl) (Nat.le_of_ble_eq_true rfl) hcu hsu hw hd (fun r n' h' q => by
    obtain ⟨rfl, a, rfl, hP⟩ := q
    exact kk a h' hP)
theorem aw_LV2 {x1 x2 : AV} {P : Int → AH → Prop} (hc : ac_V M.1.cls idx N) (hM : AC N 60 0 0 n h (aR b :: [x1, x2]) (aqi n P)) (hb : h b = aO ci fs) (hci : (vwCl[ci]?).map (fun q => q.1) = some N.1.cls) (hn : 2 = N.2.2.2.2) (hcu : cu ≤ 600000) (hsu : su ≤ 7302250) (hw : (st.map am_cat).sum ≤ 8) (hd : decode M.2.1 pc = .ok (.invokevirtual idx, 3)) (kk : ∀ v h', P v h' → AW M room_1 Z cu su n h' (pc + 3) L (aI v :: st)) : AW M room_1 Z cu su n h pc L (x2 :: x1 :: aR b :: st) :=
  aw_callV (As := [x1, x2]) (d := 60) (mc := 0) (ms := 0) hc hM hb hci hn (Nat.le_of_ble_eq_true rfl) (Nat.le_of_ble_eq_true rfl) hcu hsu hw hd (fun r n' h' q => by
    obtain ⟨rfl, a, rfl, hP⟩ := q
    exact kk a h' hP)
theorem aw_LV3 {x1 x2 x3 : AV} {P : Int → AH → Prop} (hc : ac_V M.1.cls idx N) (hM : AC N 60 0 0 n h (aR b :: [x1, x2, x3]) (aqi n P)) (hb : h b = aO ci fs) (hci : (vwCl[ci]?).map (fun q => q.1) = some N.1.cls) (hn : 3 = N.2.2.2.2) (hcu : cu ≤ 600000) (hsu : su ≤ 7302250) (hw : (st.map am_cat).sum ≤ 8) (hd : decode M.2.1 pc = .ok (.invokevirtual idx, 3)) (kk : ∀ v h', P v h' → AW M room_1 Z cu su n h' (pc + 3) L (aI v :: st)) : AW M room_1 Z cu su n h pc L (x3 :: x2 :: x1 :: aR b :: st) :=
  aw_callV (As := [x1, x2, x3]) (d := 60) (mc := 0) (ms := 0) hc hM hb hci hn (Nat.le_of_ble_eq_true rfl) (Nat.le_of_ble_eq_true rfl) hcu hsu hw hd (fun r n' h' q => by
    obtain ⟨rfl, a, rfl, hP⟩ := q
    exact kk a h' hP)
theorem aw_LV4 {x1 x2 x3 x4 : AV} {P : Int → AH → Prop} (hc : ac_V M.1.cls idx N) (hM : AC N 60 0 0 n h (aR b :: [x1, x2, x3, x4]) (aqi n P)) (hb : h b = aO ci fs) (hci : (vwCl[ci]?).map (fun q => q.1) = some N.1.cls) (hn : 4 = N.2.2.2.2) (hcu : cu ≤ 600000) (hsu : su ≤ 7302250) (hw : (st.map am_cat).sum ≤ 8) (hd : decode M.2.1 pc = .ok (.invokevirtual idx, 3)) (kk : ∀ v h', P v h' → AW M room_1 Z cu su n h' (pc + 3) L (aI v :: st)) : AW M room_1 Z cu su n h pc L (x4 :: x3 :: x2 :: x1 :: aR b :: st) :=
  aw_callV (As := [x1, x2, x3, x4]) (d := 60) (mc := 0) (ms := 0) hc hM hb hci hn (Nat.le_of_ble_eq_true rfl) (Nat.le_of_ble_eq_true rfl) hcu hsu hw hd (fun r n' h' q => by
    obtain ⟨rfl, a, rfl, hP⟩ := q
    exact kk a h' hP)
end LawCalls
section Law
variable {Z : AZ} {cu su n len : Nat} {xs : Nat → Int}
theorem law_type {h : AH} {s : WS} {i : Nat} (hcu : cu ≤ 600000) (hsu : su ≤ 7302250) (hz : len < 2147483648) (hx : ∀ j, -2147483648 ≤ xs j ∧ xs j ≤ 2147483647) (hs : h 0 = aA 6 len xs) (hi : i + 5 ≤ len) (HC : RC h s) (HM : RM h s) (ok : okS s) (K : ∀ h' s', h' 0 = aA 6 len xs → RC h' s' → RM h' s' → okS s' → AW mL_law room_1 Z cu su n h' 759 [some (aR 0), some (aR 1), some (aR 52), some (aI (i : Int))] []) : AW mL_law room_1 Z cu su n h 140 [some (aR 0), some (aR 1), some (aR 52), some (aI (i : Int))] [] := by
  have e1 := RC.top HC
  refine aw_aload_n dL_law_140 rfl ?_
  refine aw_aload_n dL_law_141 rfl ?_
  refine aw_iload_n dL_law_142 rfl ?_
  refine aw_iconst dL_law_143 ?_
  refine aw_iadd dL_law_144 ?_
  refine aw_sld hs (by omega) hz dL_law_145 ?_
  refine aw_LV1 kc_L_13 (c5_type (d := 40) (hx ((i : Int) + 1).toNat) HC ok) e1 rfl rfl hcu hsu (Nat.le_of_ble_eq_true rfl) dL_law_146 (fun v h1 q1 => ?_)
  obtain ⟨F, hF⟩ : ∃ F : WS → Int × WS, F = (typeF (xs ((i : Int) + 1).toNat)) := ⟨_, rfl⟩
  have q1' : v = (F s).1 ∧ RC h1 (F s).2 ∧ ∀ j, (j < 1 ∨ 51 < j) → h1 j = h j := by rw [hF]; exact q1
  obtain ⟨rfl, r1, f1⟩ := q1'
  have m1 : RM h1 s := HM.fr (fun j j1 j2 => f1 j (by omega))
  have s1 : h1 0 = aA 6 len xs := (f1 0 (by omega)).trans hs
  obtain ⟨y1, y2, y3, y4, y5, y6, y7, y8, e52⟩ := RM.md m1
  refine aw_aload_n dL_law_149 rfl ?_
  refine aw_aload_n dL_law_150 rfl ?_
  refine aw_iload_n dL_law_151 rfl ?_
  refine aw_iconst dL_law_152 ?_
  refine aw_iadd dL_law_153 ?_
  refine aw_sld s1 (by omega) hz dL_law_154 ?_
  refine aw_LV1 kc_L_17 (c6_type (d := 40) (hx ((i : Int) + 1).toNat) m1 ok) e52 rfl rfl hcu hsu (Nat.le_of_ble_eq_true rfl) dL_law_155 (fun v h2 q2 => ?_)
  have q2' : v = (F s).1 ∧ RM h2 (F s).2 ∧ ∀ j, (j < 52 ∨ 64 < j) → h2 j = h1 j := by rw [hF]; exact q2
  obtain ⟨rfl, r2, f2⟩ := q2'
  refine aw_same (tgt := 759) dL_law_158 (by decide) ?_
  exact K h2 (F s).2 ((f2 0 (by omega)).trans s1) (r1.fr (fun j j1 j2 => f2 j (by omega))) r2 (by rw [hF]; exact ok_type ok)
theorem law_clear {h : AH} {s : WS} {i : Nat} (hcu : cu ≤ 600000) (hsu : su ≤ 7302250) (hz : len < 2147483648) (hx : ∀ j, -2147483648 ≤ xs j ∧ xs j ≤ 2147483647) (hs : h 0 = aA 6 len xs) (hi : i + 5 ≤ len) (HC : RC h s) (HM : RM h s) (ok : okS s) (K : ∀ h' s', h' 0 = aA 6 len xs → RC h' s' → RM h' s' → okS s' → AW mL_law room_1 Z cu su n h' 759 [some (aR 0), some (aR 1), some (aR 52), some (aI (i : Int))] []) : AW mL_law room_1 Z cu su n h 163 [some (aR 0), some (aR 1), some (aR 52), some (aI (i : Int))] [] := by
  have e1 := RC.top HC
  refine aw_aload_n dL_law_163 rfl ?_
  refine aw_LV0 kc_L_18 (c5_clear (d := 40) HC ok) e1 rfl rfl hcu hsu (Nat.le_of_ble_eq_true rfl) dL_law_164 (fun v h1 q1 => ?_)
  obtain ⟨F, hF⟩ : ∃ F : WS → Int × WS, F = (clearF) := ⟨_, rfl⟩
  have q1' : v = (F s).1 ∧ RC h1 (F s).2 ∧ ∀ j, (j < 1 ∨ 51 < j) → h1 j = h j := by rw [hF]; exact q1
  obtain ⟨rfl, r1, f1⟩ := q1'
  have m1 : RM h1 s := HM.fr (fun j j1 j2 => f1 j (by omega))
  have s1 : h1 0 = aA 6 len xs := (f1 0 (by omega)).trans hs
  obtain ⟨y1, y2, y3, y4, y5, y6, y7, y8, e52⟩ := RM.md m1
  refine aw_aload_n dL_law_167 rfl ?_
  refine aw_LV0 kc_L_22 (c6_clear (d := 40) m1 ok) e52 rfl rfl hcu hsu (Nat.le_of_ble_eq_true rfl) dL_law_168 (fun v h2 q2 => ?_)
  have q2' : v = (F s).1 ∧ RM h2 (F s).2 ∧ ∀ j, (j < 52 ∨ 64 < j) → h2 j = h1 j := by rw [hF]; exact q2
  obtain ⟨rfl, r2, f2⟩ := q2'
  refine aw_same (tgt := 759) dL_law_171 (by decide) ?_
  exact K h2 (F s).2 ((f2 0 (by omega)).trans s1) (r1.fr (fun j j1 j2 => f2 j (by omega))) r2 (by rw [hF]; exact ok_clear ok)
theorem law_fraction {h : AH} {s : WS} {i : Nat} (hcu : cu ≤ 600000) (hsu : su ≤ 7302250) (hz : len < 2147483648) (hx : ∀ j, -2147483648 ≤ xs j ∧ xs j ≤ 2147483647) (hs : h 0 = aA 6 len xs) (hi : i + 5 ≤ len) (HC : RC h s) (HM : RM h s) (ok : okS s) (K : ∀ h' s', h' 0 = aA 6 len xs → RC h' s' → RM h' s' → okS s' → AW mL_law room_1 Z cu su n h' 759 [some (aR 0), some (aR 1), some (aR 52), some (aI (i : Int))] []) : AW mL_law room_1 Z cu su n h 176 [some (aR 0), some (aR 1), some (aR 52), some (aI (i : Int))] [] := by
  have e1 := RC.top HC
  refine aw_aload_n dL_law_176 rfl ?_
  refine aw_LV0 kc_L_23 (c5_fraction (d := 40) HC ok) e1 rfl rfl hcu hsu (Nat.le_of_ble_eq_true rfl) dL_law_177 (fun v h1 q1 => ?_)
  obtain ⟨F, hF⟩ : ∃ F : WS → Int × WS, F = (fracF) := ⟨_, rfl⟩
  have q1' : v = (F s).1 ∧ RC h1 (F s).2 ∧ ∀ j, (j < 1 ∨ 51 < j) → h1 j = h j := by rw [hF]; exact q1
  obtain ⟨rfl, r1, f1⟩ := q1'
  have m1 : RM h1 s := HM.fr (fun j j1 j2 => f1 j (by omega))
  have s1 : h1 0 = aA 6 len xs := (f1 0 (by omega)).trans hs
  obtain ⟨y1, y2, y3, y4, y5, y6, y7, y8, e52⟩ := RM.md m1
  refine aw_aload_n dL_law_180 rfl ?_
  refine aw_LV0 kc_L_26 (c6_fraction (d := 40) m1 ok) e52 rfl rfl hcu hsu (Nat.le_of_ble_eq_true rfl) dL_law_181 (fun v h2 q2 => ?_)
  have q2' : v = (F s).1 ∧ RM h2 (F s).2 ∧ ∀ j, (j < 52 ∨ 64 < j) → h2 j = h1 j := by rw [hF]; exact q2
  obtain ⟨rfl, r2, f2⟩ := q2'
  refine aw_same (tgt := 759) dL_law_184 (by decide) ?_
  exact K h2 (F s).2 ((f2 0 (by omega)).trans s1) (r1.fr (fun j j1 j2 => f2 j (by omega))) r2 (by rw [hF]; exact ok_frac ok)
theorem law_makes {h : AH} {s : WS} {i : Nat} (hcu : cu ≤ 600000) (hsu : su ≤ 7302250) (hz : len < 2147483648) (hx : ∀ j, -2147483648 ≤ xs j ∧ xs j ≤ 2147483647) (hs : h 0 = aA 6 len xs) (hi : i + 5 ≤ len) (HC : RC h s) (HM : RM h s) (ok : okS s) (K : ∀ h' s', h' 0 = aA 6 len xs → RC h' s' → RM h' s' → okS s' → AW mL_law room_1 Z cu su n h' 759 [some (aR 0), some (aR 1), some (aR 52), some (aI (i : Int))] []) : AW mL_law room_1 Z cu su n h 189 [some (aR 0), some (aR 1), some (aR 52), some (aI (i : Int))] [] := by
  have e1 := RC.top HC
  refine aw_aload_n dL_law_189 rfl ?_
  refine aw_aload_n dL_law_190 rfl ?_
  refine aw_iload_n dL_law_191 rfl ?_
  refine aw_iconst dL_law_192 ?_
  refine aw_iadd dL_law_193 ?_
  refine aw_sld hs (by omega) hz dL_law_194 ?_
  refine aw_LV1 kc_L_27 (c5_makes (d := 40) (hx ((i : Int) + 1).toNat) HC ok) e1 rfl rfl hcu hsu (Nat.le_of_ble_eq_true rfl) dL_law_195 (fun v h1 q1 => ?_)
  obtain ⟨F, hF⟩ : ∃ F : WS → Int × WS, F = (makesF (xs ((i : Int) + 1).toNat)) := ⟨_, rfl⟩
  have q1' : v = (F s).1 ∧ RC h1 (F s).2 ∧ ∀ j, (j < 1 ∨ 51 < j) → h1 j = h j := by rw [hF]; exact q1
  obtain ⟨rfl, r1, f1⟩ := q1'
  have m1 : RM h1 s := HM.fr (fun j j1 j2 => f1 j (by omega))
  have s1 : h1 0 = aA 6 len xs := (f1 0 (by omega)).trans hs
  obtain ⟨y1, y2, y3, y4, y5, y6, y7, y8, e52⟩ := RM.md m1
  refine aw_aload_n dL_law_198 rfl ?_
  refine aw_aload_n dL_law_199 rfl ?_
  refine aw_iload_n dL_law_200 rfl ?_
  refine aw_iconst dL_law_201 ?_
  refine aw_iadd dL_law_202 ?_
  refine aw_sld s1 (by omega) hz dL_law_203 ?_
  refine aw_LV1 kc_L_30 (c6_makes (d := 40) (hx ((i : Int) + 1).toNat) m1 ok) e52 rfl rfl hcu hsu (Nat.le_of_ble_eq_true rfl) dL_law_204 (fun v h2 q2 => ?_)
  have q2' : v = (F s).1 ∧ RM h2 (F s).2 ∧ ∀ j, (j < 52 ∨ 64 < j) → h2 j = h1 j := by rw [hF]; exact q2
  obtain ⟨rfl, r2, f2⟩ := q2'
  refine aw_same (tgt := 759) dL_law_207 (by decide) ?_
  exact K h2 (F s).2 ((f2 0 (by omega)).trans s1) (r1.fr (fun j j1 j2 => f2 j (by omega))) r2 (by rw [hF]; exact ok_makes ok)
theorem law_splits {h : AH} {s : WS} {i : Nat} (hcu : cu ≤ 600000) (hsu : su ≤ 7302250) (hz : len < 2147483648) (hx : ∀ j, -2147483648 ≤ xs j ∧ xs j ≤ 2147483647) (hs : h 0 = aA 6 len xs) (hi : i + 5 ≤ len) (HC : RC h s) (HM : RM h s) (ok : okS s) (K : ∀ h' s', h' 0 = aA 6 len xs → RC h' s' → RM h' s' → okS s' → AW mL_law room_1 Z cu su n h' 759 [some (aR 0), some (aR 1), some (aR 52), some (aI (i : Int))] []) : AW mL_law room_1 Z cu su n h 212 [some (aR 0), some (aR 1), some (aR 52), some (aI (i : Int))] [] := by
  have e1 := RC.top HC
  refine aw_aload_n dL_law_212 rfl ?_
  refine aw_aload_n dL_law_213 rfl ?_
  refine aw_iload_n dL_law_214 rfl ?_
  refine aw_iconst dL_law_215 ?_
  refine aw_iadd dL_law_216 ?_
  refine aw_sld hs (by omega) hz dL_law_217 ?_
  refine aw_aload_n dL_law_218 rfl ?_
  refine aw_iload_n dL_law_219 rfl ?_
  refine aw_iconst dL_law_220 ?_
  refine aw_iadd dL_law_221 ?_
  refine aw_sld hs (by omega) hz dL_law_222 ?_
  refine aw_LV2 kc_L_31 (c5_splits (d := 40) (hx ((i : Int) + 1).toNat) (hx ((i : Int) + 2).toNat) HC ok) e1 rfl rfl hcu hsu (Nat.le_of_ble_eq_true rfl) dL_law_223 (fun v h1 q1 => ?_)
  obtain ⟨F, hF⟩ : ∃ F : WS → Int × WS, F = (splitsF (xs ((i : Int) + 1).toNat) (xs ((i : Int) + 2).toNat)) := ⟨_, rfl⟩
  have q1' : v = (F s).1 ∧ RC h1 (F s).2 ∧ ∀ j, (j < 1 ∨ 51 < j) → h1 j = h j := by rw [hF]; exact q1
  obtain ⟨rfl, r1, f1⟩ := q1'
  have m1 : RM h1 s := HM.fr (fun j j1 j2 => f1 j (by omega))
  have s1 : h1 0 = aA 6 len xs := (f1 0 (by omega)).trans hs
  obtain ⟨y1, y2, y3, y4, y5, y6, y7, y8, e52⟩ := RM.md m1
  refine aw_aload_n dL_law_226 rfl ?_
  refine aw_aload_n dL_law_227 rfl ?_
  refine aw_iload_n dL_law_228 rfl ?_
  refine aw_iconst dL_law_229 ?_
  refine aw_iadd dL_law_230 ?_
  refine aw_sld s1 (by omega) hz dL_law_231 ?_
  refine aw_aload_n dL_law_232 rfl ?_
  refine aw_iload_n dL_law_233 rfl ?_
  refine aw_iconst dL_law_234 ?_
  refine aw_iadd dL_law_235 ?_
  refine aw_sld s1 (by omega) hz dL_law_236 ?_
  refine aw_LV2 kc_L_35 (c6_splits (d := 40) (hx ((i : Int) + 1).toNat) (hx ((i : Int) + 2).toNat) m1 ok) e52 rfl rfl hcu hsu (Nat.le_of_ble_eq_true rfl) dL_law_237 (fun v h2 q2 => ?_)
  have q2' : v = (F s).1 ∧ RM h2 (F s).2 ∧ ∀ j, (j < 52 ∨ 64 < j) → h2 j = h1 j := by rw [hF]; exact q2
  obtain ⟨rfl, r2, f2⟩ := q2'
  refine aw_same (tgt := 759) dL_law_240 (by decide) ?_
  exact K h2 (F s).2 ((f2 0 (by omega)).trans s1) (r1.fr (fun j j1 j2 => f2 j (by omega))) r2 (by rw [hF]; exact ok_splits ok)
theorem law_joins {h : AH} {s : WS} {i : Nat} (hcu : cu ≤ 600000) (hsu : su ≤ 7302250) (hz : len < 2147483648) (hx : ∀ j, -2147483648 ≤ xs j ∧ xs j ≤ 2147483647) (hs : h 0 = aA 6 len xs) (hi : i + 5 ≤ len) (HC : RC h s) (HM : RM h s) (ok : okS s) (K : ∀ h' s', h' 0 = aA 6 len xs → RC h' s' → RM h' s' → okS s' → AW mL_law room_1 Z cu su n h' 759 [some (aR 0), some (aR 1), some (aR 52), some (aI (i : Int))] []) : AW mL_law room_1 Z cu su n h 245 [some (aR 0), some (aR 1), some (aR 52), some (aI (i : Int))] [] := by
  have e1 := RC.top HC
  refine aw_aload_n dL_law_245 rfl ?_
  refine aw_aload_n dL_law_246 rfl ?_
  refine aw_iload_n dL_law_247 rfl ?_
  refine aw_iconst dL_law_248 ?_
  refine aw_iadd dL_law_249 ?_
  refine aw_sld hs (by omega) hz dL_law_250 ?_
  refine aw_aload_n dL_law_251 rfl ?_
  refine aw_iload_n dL_law_252 rfl ?_
  refine aw_iconst dL_law_253 ?_
  refine aw_iadd dL_law_254 ?_
  refine aw_sld hs (by omega) hz dL_law_255 ?_
  refine aw_LV2 kc_L_36 (c5_joins (d := 40) (hx ((i : Int) + 1).toNat) (hx ((i : Int) + 2).toNat) HC ok) e1 rfl rfl hcu hsu (Nat.le_of_ble_eq_true rfl) dL_law_256 (fun v h1 q1 => ?_)
  obtain ⟨F, hF⟩ : ∃ F : WS → Int × WS, F = (joinsF (xs ((i : Int) + 1).toNat) (xs ((i : Int) + 2).toNat)) := ⟨_, rfl⟩
  have q1' : v = (F s).1 ∧ RC h1 (F s).2 ∧ ∀ j, (j < 1 ∨ 51 < j) → h1 j = h j := by rw [hF]; exact q1
  obtain ⟨rfl, r1, f1⟩ := q1'
  have m1 : RM h1 s := HM.fr (fun j j1 j2 => f1 j (by omega))
  have s1 : h1 0 = aA 6 len xs := (f1 0 (by omega)).trans hs
  obtain ⟨y1, y2, y3, y4, y5, y6, y7, y8, e52⟩ := RM.md m1
  refine aw_aload_n dL_law_259 rfl ?_
  refine aw_aload_n dL_law_260 rfl ?_
  refine aw_iload_n dL_law_261 rfl ?_
  refine aw_iconst dL_law_262 ?_
  refine aw_iadd dL_law_263 ?_
  refine aw_sld s1 (by omega) hz dL_law_264 ?_
  refine aw_aload_n dL_law_265 rfl ?_
  refine aw_iload_n dL_law_266 rfl ?_
  refine aw_iconst dL_law_267 ?_
  refine aw_iadd dL_law_268 ?_
  refine aw_sld s1 (by omega) hz dL_law_269 ?_
  refine aw_LV2 kc_L_39 (c6_joins (d := 40) (hx ((i : Int) + 1).toNat) (hx ((i : Int) + 2).toNat) m1 ok) e52 rfl rfl hcu hsu (Nat.le_of_ble_eq_true rfl) dL_law_270 (fun v h2 q2 => ?_)
  have q2' : v = (F s).1 ∧ RM h2 (F s).2 ∧ ∀ j, (j < 52 ∨ 64 < j) → h2 j = h1 j := by rw [hF]; exact q2
  obtain ⟨rfl, r2, f2⟩ := q2'
  refine aw_same (tgt := 759) dL_law_273 (by decide) ?_
  exact K h2 (F s).2 ((f2 0 (by omega)).trans s1) (r1.fr (fun j j1 j2 => f2 j (by omega))) r2 (by rw [hF]; exact ok_joins ok)
theorem law_undo {h : AH} {s : WS} {i : Nat} (hcu : cu ≤ 600000) (hsu : su ≤ 7302250) (hz : len < 2147483648) (hx : ∀ j, -2147483648 ≤ xs j ∧ xs j ≤ 2147483647) (hs : h 0 = aA 6 len xs) (hi : i + 5 ≤ len) (HC : RC h s) (HM : RM h s) (ok : okS s) (K : ∀ h' s', h' 0 = aA 6 len xs → RC h' s' → RM h' s' → okS s' → AW mL_law room_1 Z cu su n h' 759 [some (aR 0), some (aR 1), some (aR 52), some (aI (i : Int))] []) : AW mL_law room_1 Z cu su n h 278 [some (aR 0), some (aR 1), some (aR 52), some (aI (i : Int))] [] := by
  have e1 := RC.top HC
  refine aw_aload_n dL_law_278 rfl ?_
  refine aw_LV0 kc_L_40 (c5_undo (d := 40) HC ok) e1 rfl rfl hcu hsu (Nat.le_of_ble_eq_true rfl) dL_law_279 (fun v h1 q1 => ?_)
  obtain ⟨F, hF⟩ : ∃ F : WS → Int × WS, F = (undoF) := ⟨_, rfl⟩
  have q1' : v = (F s).1 ∧ RC h1 (F s).2 ∧ ∀ j, (j < 1 ∨ 51 < j) → h1 j = h j := by rw [hF]; exact q1
  obtain ⟨rfl, r1, f1⟩ := q1'
  have m1 : RM h1 s := HM.fr (fun j j1 j2 => f1 j (by omega))
  have s1 : h1 0 = aA 6 len xs := (f1 0 (by omega)).trans hs
  obtain ⟨y1, y2, y3, y4, y5, y6, y7, y8, e52⟩ := RM.md m1
  refine aw_aload_n dL_law_282 rfl ?_
  refine aw_LV0 kc_L_43 (c6_undo (d := 40) m1 ok) e52 rfl rfl hcu hsu (Nat.le_of_ble_eq_true rfl) dL_law_283 (fun v h2 q2 => ?_)
  have q2' : v = (F s).1 ∧ RM h2 (F s).2 ∧ ∀ j, (j < 52 ∨ 64 < j) → h2 j = h1 j := by rw [hF]; exact q2
  obtain ⟨rfl, r2, f2⟩ := q2'
  refine aw_same (tgt := 759) dL_law_286 (by decide) ?_
  exact K h2 (F s).2 ((f2 0 (by omega)).trans s1) (r1.fr (fun j j1 j2 => f2 j (by omega))) r2 (by rw [hF]; exact ok_undo ok)
theorem law_term {h : AH} {s : WS} {i : Nat} (hcu : cu ≤ 600000) (hsu : su ≤ 7302250) (hz : len < 2147483648) (hx : ∀ j, -2147483648 ≤ xs j ∧ xs j ≤ 2147483647) (hs : h 0 = aA 6 len xs) (hi : i + 5 ≤ len) (HC : RC h s) (HM : RM h s) (ok : okS s) (K : ∀ h' s', h' 0 = aA 6 len xs → RC h' s' → RM h' s' → okS s' → AW mL_law room_1 Z cu su n h' 759 [some (aR 0), some (aR 1), some (aR 52), some (aI (i : Int))] []) : AW mL_law room_1 Z cu su n h 291 [some (aR 0), some (aR 1), some (aR 52), some (aI (i : Int))] [] := by
  have e1 := RC.top HC
  refine aw_aload_n dL_law_291 rfl ?_
  refine aw_aload_n dL_law_292 rfl ?_
  refine aw_iload_n dL_law_293 rfl ?_
  refine aw_iconst dL_law_294 ?_
  refine aw_iadd dL_law_295 ?_
  refine aw_sld hs (by omega) hz dL_law_296 ?_
  refine aw_LV1 kc_L_44 (c5_term (d := 40) (hx ((i : Int) + 1).toNat) HC ok) e1 rfl rfl hcu hsu (Nat.le_of_ble_eq_true rfl) dL_law_297 (fun v h1 q1 => ?_)
  obtain ⟨F, hF⟩ : ∃ F : WS → Int × WS, F = (termF (xs ((i : Int) + 1).toNat)) := ⟨_, rfl⟩
  have q1' : v = (F s).1 ∧ RC h1 (F s).2 ∧ ∀ j, (j < 1 ∨ 51 < j) → h1 j = h j := by rw [hF]; exact q1
  obtain ⟨rfl, r1, f1⟩ := q1'
  have m1 : RM h1 s := HM.fr (fun j j1 j2 => f1 j (by omega))
  have s1 : h1 0 = aA 6 len xs := (f1 0 (by omega)).trans hs
  obtain ⟨y1, y2, y3, y4, y5, y6, y7, y8, e52⟩ := RM.md m1
  refine aw_aload_n dL_law_300 rfl ?_
  refine aw_aload_n dL_law_301 rfl ?_
  refine aw_iload_n dL_law_302 rfl ?_
  refine aw_iconst dL_law_303 ?_
  refine aw_iadd dL_law_304 ?_
  refine aw_sld s1 (by omega) hz dL_law_305 ?_
  refine aw_LV1 kc_L_47 (c6_term (d := 40) (hx ((i : Int) + 1).toNat) m1 ok) e52 rfl rfl hcu hsu (Nat.le_of_ble_eq_true rfl) dL_law_306 (fun v h2 q2 => ?_)
  have q2' : v = (F s).1 ∧ RM h2 (F s).2 ∧ ∀ j, (j < 52 ∨ 64 < j) → h2 j = h1 j := by rw [hF]; exact q2
  obtain ⟨rfl, r2, f2⟩ := q2'
  refine aw_same (tgt := 759) dL_law_309 (by decide) ?_
  exact K h2 (F s).2 ((f2 0 (by omega)).trans s1) (r1.fr (fun j j1 j2 => f2 j (by omega))) r2 (by rw [hF]; exact ok)
theorem law_greedy {h : AH} {s : WS} {i : Nat} (hcu : cu ≤ 600000) (hsu : su ≤ 7302250) (hz : len < 2147483648) (hx : ∀ j, -2147483648 ≤ xs j ∧ xs j ≤ 2147483647) (hs : h 0 = aA 6 len xs) (hi : i + 5 ≤ len) (HC : RC h s) (HM : RM h s) (ok : okS s) (K : ∀ h' s', h' 0 = aA 6 len xs → RC h' s' → RM h' s' → okS s' → AW mL_law room_1 Z cu su n h' 759 [some (aR 0), some (aR 1), some (aR 52), some (aI (i : Int))] []) : AW mL_law room_1 Z cu su n h 314 [some (aR 0), some (aR 1), some (aR 52), some (aI (i : Int))] [] := by
  have e1 := RC.top HC
  refine aw_aload_n dL_law_314 rfl ?_
  refine aw_aload_n dL_law_315 rfl ?_
  refine aw_iload_n dL_law_316 rfl ?_
  refine aw_iconst dL_law_317 ?_
  refine aw_iadd dL_law_318 ?_
  refine aw_sld hs (by omega) hz dL_law_319 ?_
  refine aw_aload_n dL_law_320 rfl ?_
  refine aw_iload_n dL_law_321 rfl ?_
  refine aw_iconst dL_law_322 ?_
  refine aw_iadd dL_law_323 ?_
  refine aw_sld hs (by omega) hz dL_law_324 ?_
  refine aw_LV2 kc_L_48 (c5_greedy (d := 50) (hx ((i : Int) + 1).toNat) (hx ((i : Int) + 2).toNat) (okS.p ok) (okS.q ok) (okS.pq ok) (RC.top HC) (RC.dr HC).choose_spec.1 (RC.dr HC).choose_spec.2) e1 rfl rfl hcu hsu (Nat.le_of_ble_eq_true rfl) dL_law_325 (fun v h1 q1 => ?_)
  obtain ⟨F, hF⟩ : ∃ F : WS → Int × WS, F = (fun s => (grdQ s.1 s.2.1 (xs ((i : Int) + 1).toNat) (xs ((i : Int) + 2).toNat), s)) := ⟨_, rfl⟩
  have q1' : v = (F s).1 ∧ RC h1 (F s).2 ∧ ∀ j, (j < 1 ∨ 51 < j) → h1 j = h j := by rw [hF]; exact g5_greedy HC q1
  obtain ⟨rfl, r1, f1⟩ := q1'
  have m1 : RM h1 s := HM.fr (fun j j1 j2 => f1 j (by omega))
  have s1 : h1 0 = aA 6 len xs := (f1 0 (by omega)).trans hs
  obtain ⟨y1, y2, y3, y4, y5, y6, y7, y8, e52⟩ := RM.md m1
  refine aw_aload_n dL_law_328 rfl ?_
  refine aw_aload_n dL_law_329 rfl ?_
  refine aw_iload_n dL_law_330 rfl ?_
  refine aw_iconst dL_law_331 ?_
  refine aw_iadd dL_law_332 ?_
  refine aw_sld s1 (by omega) hz dL_law_333 ?_
  refine aw_aload_n dL_law_334 rfl ?_
  refine aw_iload_n dL_law_335 rfl ?_
  refine aw_iconst dL_law_336 ?_
  refine aw_iadd dL_law_337 ?_
  refine aw_sld s1 (by omega) hz dL_law_338 ?_
  refine aw_LV2 kc_L_51 (c6_greedy (d := 50) (hx ((i : Int) + 1).toNat) (hx ((i : Int) + 2).toNat) (okS.p ok) (okS.q ok) (okS.pq ok) e52 (RM.a60 m1)) e52 rfl rfl hcu hsu (Nat.le_of_ble_eq_true rfl) dL_law_339 (fun v h2 q2 => ?_)
  have q2' : v = (F s).1 ∧ RM h2 (F s).2 ∧ ∀ j, (j < 52 ∨ 64 < j) → h2 j = h1 j := by rw [hF]; exact g6_greedy m1 q2
  obtain ⟨rfl, r2, f2⟩ := q2'
  refine aw_same (tgt := 759) dL_law_342 (by decide) ?_
  exact K h2 (F s).2 ((f2 0 (by omega)).trans s1) (r1.fr (fun j j1 j2 => f2 j (by omega))) r2 (by rw [hF]; exact ok)
theorem law_sums {h : AH} {s : WS} {i : Nat} (hcu : cu ≤ 600000) (hsu : su ≤ 7302250) (hz : len < 2147483648) (hx : ∀ j, -2147483648 ≤ xs j ∧ xs j ≤ 2147483647) (hs : h 0 = aA 6 len xs) (hi : i + 5 ≤ len) (HC : RC h s) (HM : RM h s) (ok : okS s) (K : ∀ h' s', h' 0 = aA 6 len xs → RC h' s' → RM h' s' → okS s' → AW mL_law room_1 Z cu su n h' 759 [some (aR 0), some (aR 1), some (aR 52), some (aI (i : Int))] []) : AW mL_law room_1 Z cu su n h 347 [some (aR 0), some (aR 1), some (aR 52), some (aI (i : Int))] [] := by
  have e1 := RC.top HC
  refine aw_aload_n dL_law_347 rfl ?_
  refine aw_aload_n dL_law_348 rfl ?_
  refine aw_iload_n dL_law_349 rfl ?_
  refine aw_iconst dL_law_350 ?_
  refine aw_iadd dL_law_351 ?_
  refine aw_sld hs (by omega) hz dL_law_352 ?_
  refine aw_aload_n dL_law_353 rfl ?_
  refine aw_iload_n dL_law_354 rfl ?_
  refine aw_iconst dL_law_355 ?_
  refine aw_iadd dL_law_356 ?_
  refine aw_sld hs (by omega) hz dL_law_357 ?_
  refine aw_LV2 kc_L_52 (c5_sums (d := 50) (hx ((i : Int) + 1).toNat) (hx ((i : Int) + 2).toNat) (okS.p0 ok) (okS.q ok) (RC.top HC) (RC.fn HC)) e1 rfl rfl hcu hsu (Nat.le_of_ble_eq_true rfl) dL_law_358 (fun v h1 q1 => ?_)
  obtain ⟨F, hF⟩ : ∃ F : WS → Int × WS, F = (fun s => (sumsQ s.1 s.2.1 (xs ((i : Int) + 1).toNat) (xs ((i : Int) + 2).toNat), s)) := ⟨_, rfl⟩
  have q1' : v = (F s).1 ∧ RC h1 (F s).2 ∧ ∀ j, (j < 1 ∨ 51 < j) → h1 j = h j := by rw [hF]; exact g5_fin HC q1
  obtain ⟨rfl, r1, f1⟩ := q1'
  have m1 : RM h1 s := HM.fr (fun j j1 j2 => f1 j (by omega))
  have s1 : h1 0 = aA 6 len xs := (f1 0 (by omega)).trans hs
  obtain ⟨y1, y2, y3, y4, y5, y6, y7, y8, e52⟩ := RM.md m1
  refine aw_aload_n dL_law_361 rfl ?_
  refine aw_aload_n dL_law_362 rfl ?_
  refine aw_iload_n dL_law_363 rfl ?_
  refine aw_iconst dL_law_364 ?_
  refine aw_iadd dL_law_365 ?_
  refine aw_sld s1 (by omega) hz dL_law_366 ?_
  refine aw_aload_n dL_law_367 rfl ?_
  refine aw_iload_n dL_law_368 rfl ?_
  refine aw_iconst dL_law_369 ?_
  refine aw_iadd dL_law_370 ?_
  refine aw_sld s1 (by omega) hz dL_law_371 ?_
  refine aw_LV2 kc_L_55 (c6_sums (d := 50) (hx ((i : Int) + 1).toNat) (hx ((i : Int) + 2).toNat) (okS.p0 ok) (okS.q ok) e52 (RM.ga m1)) e52 rfl rfl hcu hsu (Nat.le_of_ble_eq_true rfl) dL_law_372 (fun v h2 q2 => ?_)
  have q2' : v = (F s).1 ∧ RM h2 (F s).2 ∧ ∀ j, (j < 52 ∨ 64 < j) → h2 j = h1 j := by rw [hF]; exact g6_gt m1 q2
  obtain ⟨rfl, r2, f2⟩ := q2'
  refine aw_same (tgt := 759) dL_law_375 (by decide) ?_
  exact K h2 (F s).2 ((f2 0 (by omega)).trans s1) (r1.fr (fun j j1 j2 => f2 j (by omega))) r2 (by rw [hF]; exact ok)
theorem law_sum {h : AH} {s : WS} {i : Nat} (hcu : cu ≤ 600000) (hsu : su ≤ 7302250) (hz : len < 2147483648) (hx : ∀ j, -2147483648 ≤ xs j ∧ xs j ≤ 2147483647) (hs : h 0 = aA 6 len xs) (hi : i + 5 ≤ len) (HC : RC h s) (HM : RM h s) (ok : okS s) (K : ∀ h' s', h' 0 = aA 6 len xs → RC h' s' → RM h' s' → okS s' → AW mL_law room_1 Z cu su n h' 759 [some (aR 0), some (aR 1), some (aR 52), some (aI (i : Int))] []) : AW mL_law room_1 Z cu su n h 380 [some (aR 0), some (aR 1), some (aR 52), some (aI (i : Int))] [] := by
  have e1 := RC.top HC
  refine aw_aload_n dL_law_380 rfl ?_
  refine aw_aload_n dL_law_381 rfl ?_
  refine aw_iload_n dL_law_382 rfl ?_
  refine aw_iconst dL_law_383 ?_
  refine aw_iadd dL_law_384 ?_
  refine aw_sld hs (by omega) hz dL_law_385 ?_
  refine aw_aload_n dL_law_386 rfl ?_
  refine aw_iload_n dL_law_387 rfl ?_
  refine aw_iconst dL_law_388 ?_
  refine aw_iadd dL_law_389 ?_
  refine aw_sld hs (by omega) hz dL_law_390 ?_
  refine aw_aload_n dL_law_391 rfl ?_
  refine aw_iload_n dL_law_392 rfl ?_
  refine aw_iconst dL_law_393 ?_
  refine aw_iadd dL_law_394 ?_
  refine aw_sld hs (by omega) hz dL_law_395 ?_
  refine aw_aload_n dL_law_396 rfl ?_
  refine aw_iload_n dL_law_397 rfl ?_
  refine aw_iconst dL_law_398 ?_
  refine aw_iadd dL_law_399 ?_
  refine aw_sld hs (by omega) hz dL_law_400 ?_
  refine aw_LV4 kc_L_56 (c5_sum (d := 50) (hx ((i : Int) + 1).toNat) (hx ((i : Int) + 2).toNat) (hx ((i : Int) + 3).toNat) (hx ((i : Int) + 4).toNat) (okS.p0 ok) (okS.q ok) (RC.top HC) (RC.fn HC)) e1 rfl rfl hcu hsu (Nat.le_of_ble_eq_true rfl) dL_law_401 (fun v h1 q1 => ?_)
  obtain ⟨F, hF⟩ : ∃ F : WS → Int × WS, F = (fun s => (sumQ s.1 s.2.1 (xs ((i : Int) + 1).toNat) (xs ((i : Int) + 2).toNat) (xs ((i : Int) + 3).toNat) (xs ((i : Int) + 4).toNat), s)) := ⟨_, rfl⟩
  have q1' : v = (F s).1 ∧ RC h1 (F s).2 ∧ ∀ j, (j < 1 ∨ 51 < j) → h1 j = h j := by rw [hF]; exact g5_fin HC q1
  obtain ⟨rfl, r1, f1⟩ := q1'
  have m1 : RM h1 s := HM.fr (fun j j1 j2 => f1 j (by omega))
  have s1 : h1 0 = aA 6 len xs := (f1 0 (by omega)).trans hs
  obtain ⟨y1, y2, y3, y4, y5, y6, y7, y8, e52⟩ := RM.md m1
  refine aw_aload_n dL_law_404 rfl ?_
  refine aw_aload_n dL_law_405 rfl ?_
  refine aw_iload_n dL_law_406 rfl ?_
  refine aw_iconst dL_law_407 ?_
  refine aw_iadd dL_law_408 ?_
  refine aw_sld s1 (by omega) hz dL_law_409 ?_
  refine aw_aload_n dL_law_410 rfl ?_
  refine aw_iload_n dL_law_411 rfl ?_
  refine aw_iconst dL_law_412 ?_
  refine aw_iadd dL_law_413 ?_
  refine aw_sld s1 (by omega) hz dL_law_414 ?_
  refine aw_aload_n dL_law_415 rfl ?_
  refine aw_iload_n dL_law_416 rfl ?_
  refine aw_iconst dL_law_417 ?_
  refine aw_iadd dL_law_418 ?_
  refine aw_sld s1 (by omega) hz dL_law_419 ?_
  refine aw_aload_n dL_law_420 rfl ?_
  refine aw_iload_n dL_law_421 rfl ?_
  refine aw_iconst dL_law_422 ?_
  refine aw_iadd dL_law_423 ?_
  refine aw_sld s1 (by omega) hz dL_law_424 ?_
  refine aw_LV4 kc_L_60 (c6_sum (d := 50) (hx ((i : Int) + 1).toNat) (hx ((i : Int) + 2).toNat) (hx ((i : Int) + 3).toNat) (hx ((i : Int) + 4).toNat) (okS.p0 ok) (okS.q ok) e52 (RM.ga m1)) e52 rfl rfl hcu hsu (Nat.le_of_ble_eq_true rfl) dL_law_425 (fun v h2 q2 => ?_)
  have q2' : v = (F s).1 ∧ RM h2 (F s).2 ∧ ∀ j, (j < 52 ∨ 64 < j) → h2 j = h1 j := by rw [hF]; exact g6_gt m1 q2
  obtain ⟨rfl, r2, f2⟩ := q2'
  refine aw_same (tgt := 759) dL_law_428 (by decide) ?_
  exact K h2 (F s).2 ((f2 0 (by omega)).trans s1) (r1.fr (fun j j1 j2 => f2 j (by omega))) r2 (by rw [hF]; exact ok)
theorem law_fewest {h : AH} {s : WS} {i : Nat} (hcu : cu ≤ 600000) (hsu : su ≤ 7302250) (hz : len < 2147483648) (hx : ∀ j, -2147483648 ≤ xs j ∧ xs j ≤ 2147483647) (hs : h 0 = aA 6 len xs) (hi : i + 5 ≤ len) (HC : RC h s) (HM : RM h s) (ok : okS s) (K : ∀ h' s', h' 0 = aA 6 len xs → RC h' s' → RM h' s' → okS s' → AW mL_law room_1 Z cu su n h' 759 [some (aR 0), some (aR 1), some (aR 52), some (aI (i : Int))] []) : AW mL_law room_1 Z cu su n h 433 [some (aR 0), some (aR 1), some (aR 52), some (aI (i : Int))] [] := by
  have e1 := RC.top HC
  refine aw_aload_n dL_law_433 rfl ?_
  refine aw_aload_n dL_law_434 rfl ?_
  refine aw_iload_n dL_law_435 rfl ?_
  refine aw_iconst dL_law_436 ?_
  refine aw_iadd dL_law_437 ?_
  refine aw_sld hs (by omega) hz dL_law_438 ?_
  refine aw_LV1 kc_L_61 (c5_fewest (d := 50) (hx ((i : Int) + 1).toNat) (okS.p0 ok) (okS.q ok) (RC.top HC) (RC.fn HC)) e1 rfl rfl hcu hsu (Nat.le_of_ble_eq_true rfl) dL_law_439 (fun v h1 q1 => ?_)
  obtain ⟨F, hF⟩ : ∃ F : WS → Int × WS, F = (fun s => (fewQ s.1 s.2.1 (xs ((i : Int) + 1).toNat), s)) := ⟨_, rfl⟩
  have q1' : v = (F s).1 ∧ RC h1 (F s).2 ∧ ∀ j, (j < 1 ∨ 51 < j) → h1 j = h j := by rw [hF]; exact g5_fin HC q1
  obtain ⟨rfl, r1, f1⟩ := q1'
  have m1 : RM h1 s := HM.fr (fun j j1 j2 => f1 j (by omega))
  have s1 : h1 0 = aA 6 len xs := (f1 0 (by omega)).trans hs
  obtain ⟨y1, y2, y3, y4, y5, y6, y7, y8, e52⟩ := RM.md m1
  refine aw_aload_n dL_law_442 rfl ?_
  refine aw_aload_n dL_law_443 rfl ?_
  refine aw_iload_n dL_law_444 rfl ?_
  refine aw_iconst dL_law_445 ?_
  refine aw_iadd dL_law_446 ?_
  refine aw_sld s1 (by omega) hz dL_law_447 ?_
  refine aw_LV1 kc_L_64 (c6_fewest (d := 50) (hx ((i : Int) + 1).toNat) (okS.p0 ok) (okS.q ok) e52 (RM.ga m1)) e52 rfl rfl hcu hsu (Nat.le_of_ble_eq_true rfl) dL_law_448 (fun v h2 q2 => ?_)
  have q2' : v = (F s).1 ∧ RM h2 (F s).2 ∧ ∀ j, (j < 52 ∨ 64 < j) → h2 j = h1 j := by rw [hF]; exact g6_gt m1 q2
  obtain ⟨rfl, r2, f2⟩ := q2'
  refine aw_same (tgt := 759) dL_law_451 (by decide) ?_
  exact K h2 (F s).2 ((f2 0 (by omega)).trans s1) (r1.fr (fun j j1 j2 => f2 j (by omega))) r2 (by rw [hF]; exact ok)
theorem law_bound {h : AH} {s : WS} {i : Nat} (hcu : cu ≤ 600000) (hsu : su ≤ 7302250) (hz : len < 2147483648) (hx : ∀ j, -2147483648 ≤ xs j ∧ xs j ≤ 2147483647) (hs : h 0 = aA 6 len xs) (hi : i + 5 ≤ len) (HC : RC h s) (HM : RM h s) (ok : okS s) (K : ∀ h' s', h' 0 = aA 6 len xs → RC h' s' → RM h' s' → okS s' → AW mL_law room_1 Z cu su n h' 759 [some (aR 0), some (aR 1), some (aR 52), some (aI (i : Int))] []) : AW mL_law room_1 Z cu su n h 456 [some (aR 0), some (aR 1), some (aR 52), some (aI (i : Int))] [] := by
  have e1 := RC.top HC
  refine aw_aload_n dL_law_456 rfl ?_
  refine aw_aload_n dL_law_457 rfl ?_
  refine aw_iload_n dL_law_458 rfl ?_
  refine aw_iconst dL_law_459 ?_
  refine aw_iadd dL_law_460 ?_
  refine aw_sld hs (by omega) hz dL_law_461 ?_
  refine aw_LV1 kc_L_65 (c5_bound (d := 50) (hx ((i : Int) + 1).toNat) (okS.p0 ok) (okS.q ok) (RC.top HC) (RC.fn HC)) e1 rfl rfl hcu hsu (Nat.le_of_ble_eq_true rfl) dL_law_462 (fun v h1 q1 => ?_)
  obtain ⟨F, hF⟩ : ∃ F : WS → Int × WS, F = (fun s => (bndQ s.1 s.2.1 (xs ((i : Int) + 1).toNat), s)) := ⟨_, rfl⟩
  have q1' : v = (F s).1 ∧ RC h1 (F s).2 ∧ ∀ j, (j < 1 ∨ 51 < j) → h1 j = h j := by rw [hF]; exact g5_fin HC q1
  obtain ⟨rfl, r1, f1⟩ := q1'
  have m1 : RM h1 s := HM.fr (fun j j1 j2 => f1 j (by omega))
  have s1 : h1 0 = aA 6 len xs := (f1 0 (by omega)).trans hs
  obtain ⟨y1, y2, y3, y4, y5, y6, y7, y8, e52⟩ := RM.md m1
  refine aw_aload_n dL_law_465 rfl ?_
  refine aw_aload_n dL_law_466 rfl ?_
  refine aw_iload_n dL_law_467 rfl ?_
  refine aw_iconst dL_law_468 ?_
  refine aw_iadd dL_law_469 ?_
  refine aw_sld s1 (by omega) hz dL_law_470 ?_
  refine aw_LV1 kc_L_68 (c6_bound (d := 50) (hx ((i : Int) + 1).toNat) (okS.p0 ok) (okS.q ok) e52 (RM.ga m1)) e52 rfl rfl hcu hsu (Nat.le_of_ble_eq_true rfl) dL_law_471 (fun v h2 q2 => ?_)
  have q2' : v = (F s).1 ∧ RM h2 (F s).2 ∧ ∀ j, (j < 52 ∨ 64 < j) → h2 j = h1 j := by rw [hF]; exact g6_gt m1 q2
  obtain ⟨rfl, r2, f2⟩ := q2'
  refine aw_same (tgt := 759) dL_law_474 (by decide) ?_
  exact K h2 (F s).2 ((f2 0 (by omega)).trans s1) (r1.fr (fun j j1 j2 => f2 j (by omega))) r2 (by rw [hF]; exact ok)
theorem law_holds {h : AH} {s : WS} {i : Nat} (hcu : cu ≤ 600000) (hsu : su ≤ 7302250) (hz : len < 2147483648) (hx : ∀ j, -2147483648 ≤ xs j ∧ xs j ≤ 2147483647) (hs : h 0 = aA 6 len xs) (hi : i + 5 ≤ len) (HC : RC h s) (HM : RM h s) (ok : okS s) (K : ∀ h' s', h' 0 = aA 6 len xs → RC h' s' → RM h' s' → okS s' → AW mL_law room_1 Z cu su n h' 759 [some (aR 0), some (aR 1), some (aR 52), some (aI (i : Int))] []) : AW mL_law room_1 Z cu su n h 479 [some (aR 0), some (aR 1), some (aR 52), some (aI (i : Int))] [] := by
  have e1 := RC.top HC
  refine aw_aload_n dL_law_479 rfl ?_
  refine aw_aload_n dL_law_480 rfl ?_
  refine aw_iload_n dL_law_481 rfl ?_
  refine aw_iconst dL_law_482 ?_
  refine aw_iadd dL_law_483 ?_
  refine aw_sld hs (by omega) hz dL_law_484 ?_
  refine aw_aload_n dL_law_485 rfl ?_
  refine aw_iload_n dL_law_486 rfl ?_
  refine aw_iconst dL_law_487 ?_
  refine aw_iadd dL_law_488 ?_
  refine aw_sld hs (by omega) hz dL_law_489 ?_
  refine aw_aload_n dL_law_490 rfl ?_
  refine aw_iload_n dL_law_491 rfl ?_
  refine aw_iconst dL_law_492 ?_
  refine aw_iadd dL_law_493 ?_
  refine aw_sld hs (by omega) hz dL_law_494 ?_
  refine aw_LV3 kc_L_69 (c5_holds (d := 50) (hx ((i : Int) + 1).toNat) (hx ((i : Int) + 2).toNat) (hx ((i : Int) + 3).toNat)) e1 rfl rfl hcu hsu (Nat.le_of_ble_eq_true rfl) dL_law_495 (fun v h1 q1 => ?_)
  obtain ⟨F, hF⟩ : ∃ F : WS → Int × WS, F = (fun s => (holdsS (xs ((i : Int) + 1).toNat) (xs ((i : Int) + 2).toNat) (xs ((i : Int) + 3).toNat), s)) := ⟨_, rfl⟩
  have q1' : v = (F s).1 ∧ RC h1 (F s).2 ∧ ∀ j, (j < 1 ∨ 51 < j) → h1 j = h j := by rw [hF]; exact g5_same HC q1
  obtain ⟨rfl, r1, f1⟩ := q1'
  have m1 : RM h1 s := HM.fr (fun j j1 j2 => f1 j (by omega))
  have s1 : h1 0 = aA 6 len xs := (f1 0 (by omega)).trans hs
  obtain ⟨y1, y2, y3, y4, y5, y6, y7, y8, e52⟩ := RM.md m1
  refine aw_aload_n dL_law_498 rfl ?_
  refine aw_aload_n dL_law_499 rfl ?_
  refine aw_iload_n dL_law_500 rfl ?_
  refine aw_iconst dL_law_501 ?_
  refine aw_iadd dL_law_502 ?_
  refine aw_sld s1 (by omega) hz dL_law_503 ?_
  refine aw_aload_n dL_law_504 rfl ?_
  refine aw_iload_n dL_law_505 rfl ?_
  refine aw_iconst dL_law_506 ?_
  refine aw_iadd dL_law_507 ?_
  refine aw_sld s1 (by omega) hz dL_law_508 ?_
  refine aw_aload_n dL_law_509 rfl ?_
  refine aw_iload_n dL_law_510 rfl ?_
  refine aw_iconst dL_law_511 ?_
  refine aw_iadd dL_law_512 ?_
  refine aw_sld s1 (by omega) hz dL_law_513 ?_
  refine aw_LV3 kc_L_73 (c6_holds (d := 50) (hx ((i : Int) + 1).toNat) (hx ((i : Int) + 2).toNat) (hx ((i : Int) + 3).toNat)) e52 rfl rfl hcu hsu (Nat.le_of_ble_eq_true rfl) dL_law_514 (fun v h2 q2 => ?_)
  have q2' : v = (F s).1 ∧ RM h2 (F s).2 ∧ ∀ j, (j < 52 ∨ 64 < j) → h2 j = h1 j := by rw [hF]; exact g6_same m1 q2
  obtain ⟨rfl, r2, f2⟩ := q2'
  refine aw_same (tgt := 759) dL_law_517 (by decide) ?_
  exact K h2 (F s).2 ((f2 0 (by omega)).trans s1) (r1.fr (fun j j1 j2 => f2 j (by omega))) r2 (by rw [hF]; exact ok)
theorem law_covered {h : AH} {s : WS} {i : Nat} (hcu : cu ≤ 600000) (hsu : su ≤ 7302250) (hz : len < 2147483648) (hx : ∀ j, -2147483648 ≤ xs j ∧ xs j ≤ 2147483647) (hs : h 0 = aA 6 len xs) (hi : i + 5 ≤ len) (HC : RC h s) (HM : RM h s) (ok : okS s) (K : ∀ h' s', h' 0 = aA 6 len xs → RC h' s' → RM h' s' → okS s' → AW mL_law room_1 Z cu su n h' 759 [some (aR 0), some (aR 1), some (aR 52), some (aI (i : Int))] []) : AW mL_law room_1 Z cu su n h 522 [some (aR 0), some (aR 1), some (aR 52), some (aI (i : Int))] [] := by
  have e1 := RC.top HC
  refine aw_aload_n dL_law_522 rfl ?_
  refine aw_aload_n dL_law_523 rfl ?_
  refine aw_iload_n dL_law_524 rfl ?_
  refine aw_iconst dL_law_525 ?_
  refine aw_iadd dL_law_526 ?_
  refine aw_sld hs (by omega) hz dL_law_527 ?_
  refine aw_aload_n dL_law_528 rfl ?_
  refine aw_iload_n dL_law_529 rfl ?_
  refine aw_iconst dL_law_530 ?_
  refine aw_iadd dL_law_531 ?_
  refine aw_sld hs (by omega) hz dL_law_532 ?_
  refine aw_aload_n dL_law_533 rfl ?_
  refine aw_iload_n dL_law_534 rfl ?_
  refine aw_iconst dL_law_535 ?_
  refine aw_iadd dL_law_536 ?_
  refine aw_sld hs (by omega) hz dL_law_537 ?_
  refine aw_LV3 kc_L_74 (c5_covered (d := 50) (hx ((i : Int) + 1).toNat) (hx ((i : Int) + 2).toNat) (hx ((i : Int) + 3).toNat)) e1 rfl rfl hcu hsu (Nat.le_of_ble_eq_true rfl) dL_law_538 (fun v h1 q1 => ?_)
  obtain ⟨F, hF⟩ : ∃ F : WS → Int × WS, F = (fun s => (coveredS (xs ((i : Int) + 1).toNat) (xs ((i : Int) + 2).toNat) (xs ((i : Int) + 3).toNat), s)) := ⟨_, rfl⟩
  have q1' : v = (F s).1 ∧ RC h1 (F s).2 ∧ ∀ j, (j < 1 ∨ 51 < j) → h1 j = h j := by rw [hF]; exact g5_same HC q1
  obtain ⟨rfl, r1, f1⟩ := q1'
  have m1 : RM h1 s := HM.fr (fun j j1 j2 => f1 j (by omega))
  have s1 : h1 0 = aA 6 len xs := (f1 0 (by omega)).trans hs
  obtain ⟨y1, y2, y3, y4, y5, y6, y7, y8, e52⟩ := RM.md m1
  refine aw_aload_n dL_law_541 rfl ?_
  refine aw_aload_n dL_law_542 rfl ?_
  refine aw_iload_n dL_law_543 rfl ?_
  refine aw_iconst dL_law_544 ?_
  refine aw_iadd dL_law_545 ?_
  refine aw_sld s1 (by omega) hz dL_law_546 ?_
  refine aw_aload_n dL_law_547 rfl ?_
  refine aw_iload_n dL_law_548 rfl ?_
  refine aw_iconst dL_law_549 ?_
  refine aw_iadd dL_law_550 ?_
  refine aw_sld s1 (by omega) hz dL_law_551 ?_
  refine aw_aload_n dL_law_552 rfl ?_
  refine aw_iload_n dL_law_553 rfl ?_
  refine aw_iconst dL_law_554 ?_
  refine aw_iadd dL_law_555 ?_
  refine aw_sld s1 (by omega) hz dL_law_556 ?_
  refine aw_LV3 kc_L_77 (c6_covered (d := 50) (hx ((i : Int) + 1).toNat) (hx ((i : Int) + 2).toNat) (hx ((i : Int) + 3).toNat)) e52 rfl rfl hcu hsu (Nat.le_of_ble_eq_true rfl) dL_law_557 (fun v h2 q2 => ?_)
  have q2' : v = (F s).1 ∧ RM h2 (F s).2 ∧ ∀ j, (j < 52 ∨ 64 < j) → h2 j = h1 j := by rw [hF]; exact g6_same m1 q2
  obtain ⟨rfl, r2, f2⟩ := q2'
  refine aw_same (tgt := 759) dL_law_560 (by decide) ?_
  exact K h2 (F s).2 ((f2 0 (by omega)).trans s1) (r1.fr (fun j j1 j2 => f2 j (by omega))) r2 (by rw [hF]; exact ok)
theorem law_open {h : AH} {s : WS} {i : Nat} (hcu : cu ≤ 600000) (hsu : su ≤ 7302250) (hz : len < 2147483648) (hx : ∀ j, -2147483648 ≤ xs j ∧ xs j ≤ 2147483647) (hs : h 0 = aA 6 len xs) (hi : i + 5 ≤ len) (HC : RC h s) (HM : RM h s) (ok : okS s) (K : ∀ h' s', h' 0 = aA 6 len xs → RC h' s' → RM h' s' → okS s' → AW mL_law room_1 Z cu su n h' 759 [some (aR 0), some (aR 1), some (aR 52), some (aI (i : Int))] []) : AW mL_law room_1 Z cu su n h 565 [some (aR 0), some (aR 1), some (aR 52), some (aI (i : Int))] [] := by
  have e1 := RC.top HC
  refine aw_aload_n dL_law_565 rfl ?_
  refine aw_aload_n dL_law_566 rfl ?_
  refine aw_iload_n dL_law_567 rfl ?_
  refine aw_iconst dL_law_568 ?_
  refine aw_iadd dL_law_569 ?_
  refine aw_sld hs (by omega) hz dL_law_570 ?_
  refine aw_aload_n dL_law_571 rfl ?_
  refine aw_iload_n dL_law_572 rfl ?_
  refine aw_iconst dL_law_573 ?_
  refine aw_iadd dL_law_574 ?_
  refine aw_sld hs (by omega) hz dL_law_575 ?_
  refine aw_LV2 kc_L_78 (c5_open (d := 50) (hx ((i : Int) + 1).toNat) (hx ((i : Int) + 2).toNat)) e1 rfl rfl hcu hsu (Nat.le_of_ble_eq_true rfl) dL_law_576 (fun v h1 q1 => ?_)
  obtain ⟨F, hF⟩ : ∃ F : WS → Int × WS, F = (fun s => (openS (xs ((i : Int) + 1).toNat) (xs ((i : Int) + 2).toNat), s)) := ⟨_, rfl⟩
  have q1' : v = (F s).1 ∧ RC h1 (F s).2 ∧ ∀ j, (j < 1 ∨ 51 < j) → h1 j = h j := by rw [hF]; exact g5_same HC q1
  obtain ⟨rfl, r1, f1⟩ := q1'
  have m1 : RM h1 s := HM.fr (fun j j1 j2 => f1 j (by omega))
  have s1 : h1 0 = aA 6 len xs := (f1 0 (by omega)).trans hs
  obtain ⟨y1, y2, y3, y4, y5, y6, y7, y8, e52⟩ := RM.md m1
  refine aw_aload_n dL_law_579 rfl ?_
  refine aw_aload_n dL_law_580 rfl ?_
  refine aw_iload_n dL_law_581 rfl ?_
  refine aw_iconst dL_law_582 ?_
  refine aw_iadd dL_law_583 ?_
  refine aw_sld s1 (by omega) hz dL_law_584 ?_
  refine aw_aload_n dL_law_585 rfl ?_
  refine aw_iload_n dL_law_586 rfl ?_
  refine aw_iconst dL_law_587 ?_
  refine aw_iadd dL_law_588 ?_
  refine aw_sld s1 (by omega) hz dL_law_589 ?_
  refine aw_LV2 kc_L_81 (c6_open (d := 50) (hx ((i : Int) + 1).toNat) (hx ((i : Int) + 2).toNat)) e52 rfl rfl hcu hsu (Nat.le_of_ble_eq_true rfl) dL_law_590 (fun v h2 q2 => ?_)
  have q2' : v = (F s).1 ∧ RM h2 (F s).2 ∧ ∀ j, (j < 52 ∨ 64 < j) → h2 j = h1 j := by rw [hF]; exact g6_same m1 q2
  obtain ⟨rfl, r2, f2⟩ := q2'
  refine aw_same (tgt := 759) dL_law_593 (by decide) ?_
  exact K h2 (F s).2 ((f2 0 (by omega)).trans s1) (r1.fr (fun j j1 j2 => f2 j (by omega))) r2 (by rw [hF]; exact ok)
theorem law_sees {h : AH} {s : WS} {i : Nat} (hcu : cu ≤ 600000) (hsu : su ≤ 7302250) (hz : len < 2147483648) (hx : ∀ j, -2147483648 ≤ xs j ∧ xs j ≤ 2147483647) (hs : h 0 = aA 6 len xs) (hi : i + 5 ≤ len) (HC : RC h s) (HM : RM h s) (ok : okS s) (K : ∀ h' s', h' 0 = aA 6 len xs → RC h' s' → RM h' s' → okS s' → AW mL_law room_1 Z cu su n h' 759 [some (aR 0), some (aR 1), some (aR 52), some (aI (i : Int))] []) : AW mL_law room_1 Z cu su n h 598 [some (aR 0), some (aR 1), some (aR 52), some (aI (i : Int))] [] := by
  have e1 := RC.top HC
  refine aw_aload_n dL_law_598 rfl ?_
  refine aw_aload_n dL_law_599 rfl ?_
  refine aw_iload_n dL_law_600 rfl ?_
  refine aw_iconst dL_law_601 ?_
  refine aw_iadd dL_law_602 ?_
  refine aw_sld hs (by omega) hz dL_law_603 ?_
  refine aw_aload_n dL_law_604 rfl ?_
  refine aw_iload_n dL_law_605 rfl ?_
  refine aw_iconst dL_law_606 ?_
  refine aw_iadd dL_law_607 ?_
  refine aw_sld hs (by omega) hz dL_law_608 ?_
  refine aw_aload_n dL_law_609 rfl ?_
  refine aw_iload_n dL_law_610 rfl ?_
  refine aw_iconst dL_law_611 ?_
  refine aw_iadd dL_law_612 ?_
  refine aw_sld hs (by omega) hz dL_law_613 ?_
  refine aw_LV3 kc_L_82 (c5_sees (d := 50) (hx ((i : Int) + 1).toNat) (hx ((i : Int) + 2).toNat) (hx ((i : Int) + 3).toNat) (RC.top HC) (RC.wt HC) (okS.sn ok)) e1 rfl rfl hcu hsu (Nat.le_of_ble_eq_true rfl) dL_law_614 (fun v h1 q1 => ?_)
  obtain ⟨F, hF⟩ : ∃ F : WS → Int × WS, F = (seesF (xs ((i : Int) + 1).toNat) (xs ((i : Int) + 2).toNat) (xs ((i : Int) + 3).toNat)) := ⟨_, rfl⟩
  have q1' : v = (F s).1 ∧ RC h1 (F s).2 ∧ ∀ j, (j < 1 ∨ 51 < j) → h1 j = h j := by rw [hF]; exact g5_sees HC q1
  obtain ⟨rfl, r1, f1⟩ := q1'
  have m1 : RM h1 s := HM.fr (fun j j1 j2 => f1 j (by omega))
  have s1 : h1 0 = aA 6 len xs := (f1 0 (by omega)).trans hs
  obtain ⟨y1, y2, y3, y4, y5, y6, y7, y8, e52⟩ := RM.md m1
  refine aw_aload_n dL_law_617 rfl ?_
  refine aw_aload_n dL_law_618 rfl ?_
  refine aw_iload_n dL_law_619 rfl ?_
  refine aw_iconst dL_law_620 ?_
  refine aw_iadd dL_law_621 ?_
  refine aw_sld s1 (by omega) hz dL_law_622 ?_
  refine aw_aload_n dL_law_623 rfl ?_
  refine aw_iload_n dL_law_624 rfl ?_
  refine aw_iconst dL_law_625 ?_
  refine aw_iadd dL_law_626 ?_
  refine aw_sld s1 (by omega) hz dL_law_627 ?_
  refine aw_aload_n dL_law_628 rfl ?_
  refine aw_iload_n dL_law_629 rfl ?_
  refine aw_iconst dL_law_630 ?_
  refine aw_iadd dL_law_631 ?_
  refine aw_sld s1 (by omega) hz dL_law_632 ?_
  refine aw_LV3 kc_L_85 (c6_sees (d := 50) (hx ((i : Int) + 1).toNat) (hx ((i : Int) + 2).toNat) (hx ((i : Int) + 3).toNat) e52 (RM.s m1) (okS.sn ok)) e52 rfl rfl hcu hsu (Nat.le_of_ble_eq_true rfl) dL_law_633 (fun v h2 q2 => ?_)
  have q2' : v = (F s).1 ∧ RM h2 (F s).2 ∧ ∀ j, (j < 52 ∨ 64 < j) → h2 j = h1 j := by rw [hF]; exact g6_sees m1 q2
  obtain ⟨rfl, r2, f2⟩ := q2'
  refine aw_same (tgt := 759) dL_law_636 (by decide) ?_
  exact K h2 (F s).2 ((f2 0 (by omega)).trans s1) (r1.fr (fun j j1 j2 => f2 j (by omega))) r2 (by rw [hF]; exact ok_sees ok)
theorem law_forget {h : AH} {s : WS} {i : Nat} (hcu : cu ≤ 600000) (hsu : su ≤ 7302250) (hz : len < 2147483648) (hx : ∀ j, -2147483648 ≤ xs j ∧ xs j ≤ 2147483647) (hs : h 0 = aA 6 len xs) (hi : i + 5 ≤ len) (HC : RC h s) (HM : RM h s) (ok : okS s) (K : ∀ h' s', h' 0 = aA 6 len xs → RC h' s' → RM h' s' → okS s' → AW mL_law room_1 Z cu su n h' 759 [some (aR 0), some (aR 1), some (aR 52), some (aI (i : Int))] []) : AW mL_law room_1 Z cu su n h 641 [some (aR 0), some (aR 1), some (aR 52), some (aI (i : Int))] [] := by
  have e1 := RC.top HC
  refine aw_aload_n dL_law_641 rfl ?_
  refine aw_LV0 kc_L_86 (c5_forget (d := 50) (RC.top HC) (RC.wt HC) (okS.sn ok)) e1 rfl rfl hcu hsu (Nat.le_of_ble_eq_true rfl) dL_law_642 (fun v h1 q1 => ?_)
  obtain ⟨F, hF⟩ : ∃ F : WS → Int × WS, F = (forgetF) := ⟨_, rfl⟩
  have q1' : v = (F s).1 ∧ RC h1 (F s).2 ∧ ∀ j, (j < 1 ∨ 51 < j) → h1 j = h j := by rw [hF]; exact g5_forget HC q1
  obtain ⟨rfl, r1, f1⟩ := q1'
  have m1 : RM h1 s := HM.fr (fun j j1 j2 => f1 j (by omega))
  have s1 : h1 0 = aA 6 len xs := (f1 0 (by omega)).trans hs
  obtain ⟨y1, y2, y3, y4, y5, y6, y7, y8, e52⟩ := RM.md m1
  refine aw_aload_n dL_law_645 rfl ?_
  refine aw_LV0 kc_L_89 (c6_forget (d := 60) e52 (okS.sn ok)) e52 rfl rfl hcu hsu (Nat.le_of_ble_eq_true rfl) dL_law_646 (fun v h2 q2 => ?_)
  have q2' : v = (F s).1 ∧ RM h2 (F s).2 ∧ ∀ j, (j < 52 ∨ 64 < j) → h2 j = h1 j := by rw [hF]; exact g6_forget m1 q2
  obtain ⟨rfl, r2, f2⟩ := q2'
  refine aw_same (tgt := 759) dL_law_649 (by decide) ?_
  exact K h2 (F s).2 ((f2 0 (by omega)).trans s1) (r1.fr (fun j j1 j2 => f2 j (by omega))) r2 (by rw [hF]; exact ok_forget ok)
theorem law_unseen {h : AH} {s : WS} {i : Nat} (hcu : cu ≤ 600000) (hsu : su ≤ 7302250) (hz : len < 2147483648) (hx : ∀ j, -2147483648 ≤ xs j ∧ xs j ≤ 2147483647) (hs : h 0 = aA 6 len xs) (hi : i + 5 ≤ len) (HC : RC h s) (HM : RM h s) (ok : okS s) (K : ∀ h' s', h' 0 = aA 6 len xs → RC h' s' → RM h' s' → okS s' → AW mL_law room_1 Z cu su n h' 759 [some (aR 0), some (aR 1), some (aR 52), some (aI (i : Int))] []) : AW mL_law room_1 Z cu su n h 654 [some (aR 0), some (aR 1), some (aR 52), some (aI (i : Int))] [] := by
  have e1 := RC.top HC
  refine aw_aload_n dL_law_654 rfl ?_
  refine aw_LV0 kc_L_90 (c5_unseen (d := 50) (RC.top HC) (RC.wt HC) (okS.sn ok)) e1 rfl rfl hcu hsu (Nat.le_of_ble_eq_true rfl) dL_law_655 (fun v h1 q1 => ?_)
  obtain ⟨F, hF⟩ : ∃ F : WS → Int × WS, F = (fun s => ((unseenS s.2.2.2.2.2.2.1 : Int), s)) := ⟨_, rfl⟩
  have q1' : v = (F s).1 ∧ RC h1 (F s).2 ∧ ∀ j, (j < 1 ∨ 51 < j) → h1 j = h j := by rw [hF]; exact g5_same HC q1
  obtain ⟨rfl, r1, f1⟩ := q1'
  have m1 : RM h1 s := HM.fr (fun j j1 j2 => f1 j (by omega))
  have s1 : h1 0 = aA 6 len xs := (f1 0 (by omega)).trans hs
  obtain ⟨y1, y2, y3, y4, y5, y6, y7, y8, e52⟩ := RM.md m1
  refine aw_aload_n dL_law_658 rfl ?_
  refine aw_LV0 kc_L_93 (c6_unseen (d := 57) e52 (RM.s m1) (okS.sn ok)) e52 rfl rfl hcu hsu (Nat.le_of_ble_eq_true rfl) dL_law_659 (fun v h2 q2 => ?_)
  have q2' : v = (F s).1 ∧ RM h2 (F s).2 ∧ ∀ j, (j < 52 ∨ 64 < j) → h2 j = h1 j := by rw [hF]; exact g6_same m1 q2
  obtain ⟨rfl, r2, f2⟩ := q2'
  refine aw_same (tgt := 759) dL_law_662 (by decide) ?_
  exact K h2 (F s).2 ((f2 0 (by omega)).trans s1) (r1.fr (fun j j1 j2 => f2 j (by omega))) r2 (by rw [hF]; exact ok)
theorem law_ask {h : AH} {s : WS} {i : Nat} (hcu : cu ≤ 600000) (hsu : su ≤ 7302250) (hz : len < 2147483648) (hx : ∀ j, -2147483648 ≤ xs j ∧ xs j ≤ 2147483647) (hs : h 0 = aA 6 len xs) (hi : i + 5 ≤ len) (HC : RC h s) (HM : RM h s) (ok : okS s) (K : ∀ h' s', h' 0 = aA 6 len xs → RC h' s' → RM h' s' → okS s' → AW mL_law room_1 Z cu su n h' 759 [some (aR 0), some (aR 1), some (aR 52), some (aI (i : Int))] []) : AW mL_law room_1 Z cu su n h 667 [some (aR 0), some (aR 1), some (aR 52), some (aI (i : Int))] [] := by
  have e1 := RC.top HC
  refine aw_aload_n dL_law_667 rfl ?_
  refine aw_aload_n dL_law_668 rfl ?_
  refine aw_iload_n dL_law_669 rfl ?_
  refine aw_iconst dL_law_670 ?_
  refine aw_iadd dL_law_671 ?_
  refine aw_sld hs (by omega) hz dL_law_672 ?_
  refine aw_LV1 kc_L_94 (c5_ask (d := 50) (hx ((i : Int) + 1).toNat) (RC.top HC) (RC.wt HC) (okS.sn ok)) e1 rfl rfl hcu hsu (Nat.le_of_ble_eq_true rfl) dL_law_673 (fun v h1 q1 => ?_)
  obtain ⟨F, hF⟩ : ∃ F : WS → Int × WS, F = (fun s => (askQ (xs ((i : Int) + 1).toNat) s.2.2.2.2.2.2.1, s)) := ⟨_, rfl⟩
  have q1' : v = (F s).1 ∧ RC h1 (F s).2 ∧ ∀ j, (j < 1 ∨ 51 < j) → h1 j = h j := by rw [hF]; exact g5_same HC q1
  obtain ⟨rfl, r1, f1⟩ := q1'
  have m1 : RM h1 s := HM.fr (fun j j1 j2 => f1 j (by omega))
  have s1 : h1 0 = aA 6 len xs := (f1 0 (by omega)).trans hs
  obtain ⟨y1, y2, y3, y4, y5, y6, y7, y8, e52⟩ := RM.md m1
  refine aw_aload_n dL_law_676 rfl ?_
  refine aw_aload_n dL_law_677 rfl ?_
  refine aw_iload_n dL_law_678 rfl ?_
  refine aw_iconst dL_law_679 ?_
  refine aw_iadd dL_law_680 ?_
  refine aw_sld s1 (by omega) hz dL_law_681 ?_
  refine aw_LV1 kc_L_97 (c6_ask (d := 50) (hx ((i : Int) + 1).toNat) e52 (RM.s m1) (okS.sn ok)) e52 rfl rfl hcu hsu (Nat.le_of_ble_eq_true rfl) dL_law_682 (fun v h2 q2 => ?_)
  have q2' : v = (F s).1 ∧ RM h2 (F s).2 ∧ ∀ j, (j < 52 ∨ 64 < j) → h2 j = h1 j := by rw [hF]; exact g6_same m1 q2
  obtain ⟨rfl, r2, f2⟩ := q2'
  refine aw_same (tgt := 759) dL_law_685 (by decide) ?_
  exact K h2 (F s).2 ((f2 0 (by omega)).trans s1) (r1.fr (fun j j1 j2 => f2 j (by omega))) r2 (by rw [hF]; exact ok)
theorem law_keep {h : AH} {s : WS} {i : Nat} (hcu : cu ≤ 600000) (hsu : su ≤ 7302250) (hz : len < 2147483648) (hx : ∀ j, -2147483648 ≤ xs j ∧ xs j ≤ 2147483647) (hs : h 0 = aA 6 len xs) (hi : i + 5 ≤ len) (HC : RC h s) (HM : RM h s) (ok : okS s) (K : ∀ h' s', h' 0 = aA 6 len xs → RC h' s' → RM h' s' → okS s' → AW mL_law room_1 Z cu su n h' 759 [some (aR 0), some (aR 1), some (aR 52), some (aI (i : Int))] []) : AW mL_law room_1 Z cu su n h 690 [some (aR 0), some (aR 1), some (aR 52), some (aI (i : Int))] [] := by
  have e1 := RC.top HC
  refine aw_aload_n dL_law_690 rfl ?_
  refine aw_aload_n dL_law_691 rfl ?_
  refine aw_iload_n dL_law_692 rfl ?_
  refine aw_iconst dL_law_693 ?_
  refine aw_iadd dL_law_694 ?_
  refine aw_sld hs (by omega) hz dL_law_695 ?_
  refine aw_LV1 kc_L_98 (c5_keep (d := 40) (hx ((i : Int) + 1).toNat) HC ok) e1 rfl rfl hcu hsu (Nat.le_of_ble_eq_true rfl) dL_law_696 (fun v h1 q1 => ?_)
  obtain ⟨F, hF⟩ : ∃ F : WS → Int × WS, F = (keepF (xs ((i : Int) + 1).toNat)) := ⟨_, rfl⟩
  have q1' : v = (F s).1 ∧ RC h1 (F s).2 ∧ ∀ j, (j < 1 ∨ 51 < j) → h1 j = h j := by rw [hF]; exact q1
  obtain ⟨rfl, r1, f1⟩ := q1'
  have m1 : RM h1 s := HM.fr (fun j j1 j2 => f1 j (by omega))
  have s1 : h1 0 = aA 6 len xs := (f1 0 (by omega)).trans hs
  obtain ⟨y1, y2, y3, y4, y5, y6, y7, y8, e52⟩ := RM.md m1
  refine aw_aload_n dL_law_699 rfl ?_
  refine aw_aload_n dL_law_700 rfl ?_
  refine aw_iload_n dL_law_701 rfl ?_
  refine aw_iconst dL_law_702 ?_
  refine aw_iadd dL_law_703 ?_
  refine aw_sld s1 (by omega) hz dL_law_704 ?_
  refine aw_LV1 kc_L_101 (c6_keep (d := 40) (hx ((i : Int) + 1).toNat) m1 ok) e52 rfl rfl hcu hsu (Nat.le_of_ble_eq_true rfl) dL_law_705 (fun v h2 q2 => ?_)
  have q2' : v = (F s).1 ∧ RM h2 (F s).2 ∧ ∀ j, (j < 52 ∨ 64 < j) → h2 j = h1 j := by rw [hF]; exact q2
  obtain ⟨rfl, r2, f2⟩ := q2'
  refine aw_same (tgt := 759) dL_law_708 (by decide) ?_
  exact K h2 (F s).2 ((f2 0 (by omega)).trans s1) (r1.fr (fun j j1 j2 => f2 j (by omega))) r2 (by rw [hF]; exact ok_keep ok)
theorem law_back {h : AH} {s : WS} {i : Nat} (hcu : cu ≤ 600000) (hsu : su ≤ 7302250) (hz : len < 2147483648) (hx : ∀ j, -2147483648 ≤ xs j ∧ xs j ≤ 2147483647) (hs : h 0 = aA 6 len xs) (hi : i + 5 ≤ len) (HC : RC h s) (HM : RM h s) (ok : okS s) (K : ∀ h' s', h' 0 = aA 6 len xs → RC h' s' → RM h' s' → okS s' → AW mL_law room_1 Z cu su n h' 759 [some (aR 0), some (aR 1), some (aR 52), some (aI (i : Int))] []) : AW mL_law room_1 Z cu su n h 713 [some (aR 0), some (aR 1), some (aR 52), some (aI (i : Int))] [] := by
  have e1 := RC.top HC
  refine aw_aload_n dL_law_713 rfl ?_
  refine aw_aload_n dL_law_714 rfl ?_
  refine aw_iload_n dL_law_715 rfl ?_
  refine aw_iconst dL_law_716 ?_
  refine aw_iadd dL_law_717 ?_
  refine aw_sld hs (by omega) hz dL_law_718 ?_
  refine aw_LV1 kc_L_102 (c5_back (d := 40) (hx ((i : Int) + 1).toNat) HC ok) e1 rfl rfl hcu hsu (Nat.le_of_ble_eq_true rfl) dL_law_719 (fun v h1 q1 => ?_)
  obtain ⟨F, hF⟩ : ∃ F : WS → Int × WS, F = (backF (xs ((i : Int) + 1).toNat)) := ⟨_, rfl⟩
  have q1' : v = (F s).1 ∧ RC h1 (F s).2 ∧ ∀ j, (j < 1 ∨ 51 < j) → h1 j = h j := by rw [hF]; exact q1
  obtain ⟨rfl, r1, f1⟩ := q1'
  have m1 : RM h1 s := HM.fr (fun j j1 j2 => f1 j (by omega))
  have s1 : h1 0 = aA 6 len xs := (f1 0 (by omega)).trans hs
  obtain ⟨y1, y2, y3, y4, y5, y6, y7, y8, e52⟩ := RM.md m1
  refine aw_aload_n dL_law_722 rfl ?_
  refine aw_aload_n dL_law_723 rfl ?_
  refine aw_iload_n dL_law_724 rfl ?_
  refine aw_iconst dL_law_725 ?_
  refine aw_iadd dL_law_726 ?_
  refine aw_sld s1 (by omega) hz dL_law_727 ?_
  refine aw_LV1 kc_L_105 (c6_back (d := 40) (hx ((i : Int) + 1).toNat) m1 ok) e52 rfl rfl hcu hsu (Nat.le_of_ble_eq_true rfl) dL_law_728 (fun v h2 q2 => ?_)
  have q2' : v = (F s).1 ∧ RM h2 (F s).2 ∧ ∀ j, (j < 52 ∨ 64 < j) → h2 j = h1 j := by rw [hF]; exact q2
  obtain ⟨rfl, r2, f2⟩ := q2'
  refine aw_same (tgt := 759) dL_law_731 (by decide) ?_
  exact K h2 (F s).2 ((f2 0 (by omega)).trans s1) (r1.fr (fun j j1 j2 => f2 j (by omega))) r2 (by rw [hF]; exact ok_back ok)
theorem law_count {h : AH} {s : WS} {i : Nat} (hcu : cu ≤ 600000) (hsu : su ≤ 7302250) (hz : len < 2147483648) (hx : ∀ j, -2147483648 ≤ xs j ∧ xs j ≤ 2147483647) (hs : h 0 = aA 6 len xs) (hi : i + 5 ≤ len) (HC : RC h s) (HM : RM h s) (ok : okS s) (K : ∀ h' s', h' 0 = aA 6 len xs → RC h' s' → RM h' s' → okS s' → AW mL_law room_1 Z cu su n h' 759 [some (aR 0), some (aR 1), some (aR 52), some (aI (i : Int))] []) : AW mL_law room_1 Z cu su n h 736 [some (aR 0), some (aR 1), some (aR 52), some (aI (i : Int))] [] := by
  have e1 := RC.top HC
  refine aw_aload_n dL_law_736 rfl ?_
  refine aw_aload_n dL_law_737 rfl ?_
  refine aw_iload_n dL_law_738 rfl ?_
  refine aw_iconst dL_law_739 ?_
  refine aw_iadd dL_law_740 ?_
  refine aw_sld hs (by omega) hz dL_law_741 ?_
  refine aw_LV1 kc_L_106 (c5_count (d := 40) (hx ((i : Int) + 1).toNat) HC ok) e1 rfl rfl hcu hsu (Nat.le_of_ble_eq_true rfl) dL_law_742 (fun v h1 q1 => ?_)
  obtain ⟨F, hF⟩ : ∃ F : WS → Int × WS, F = (countF (xs ((i : Int) + 1).toNat)) := ⟨_, rfl⟩
  have q1' : v = (F s).1 ∧ RC h1 (F s).2 ∧ ∀ j, (j < 1 ∨ 51 < j) → h1 j = h j := by rw [hF]; exact q1
  obtain ⟨rfl, r1, f1⟩ := q1'
  have m1 : RM h1 s := HM.fr (fun j j1 j2 => f1 j (by omega))
  have s1 : h1 0 = aA 6 len xs := (f1 0 (by omega)).trans hs
  obtain ⟨y1, y2, y3, y4, y5, y6, y7, y8, e52⟩ := RM.md m1
  refine aw_aload_n dL_law_745 rfl ?_
  refine aw_aload_n dL_law_746 rfl ?_
  refine aw_iload_n dL_law_747 rfl ?_
  refine aw_iconst dL_law_748 ?_
  refine aw_iadd dL_law_749 ?_
  refine aw_sld s1 (by omega) hz dL_law_750 ?_
  refine aw_LV1 kc_L_109 (c6_count (d := 40) (hx ((i : Int) + 1).toNat) m1 ok) e52 rfl rfl hcu hsu (Nat.le_of_ble_eq_true rfl) dL_law_751 (fun v h2 q2 => ?_)
  have q2' : v = (F s).1 ∧ RM h2 (F s).2 ∧ ∀ j, (j < 52 ∨ 64 < j) → h2 j = h1 j := by rw [hF]; exact q2
  obtain ⟨rfl, r2, f2⟩ := q2'
  refine aw_same (tgt := 759) dL_law_754 (by decide) ?_
  exact K h2 (F s).2 ((f2 0 (by omega)).trans s1) (r1.fr (fun j j1 j2 => f2 j (by omega))) r2 (by rw [hF]; exact ok)
/-- the law's loop: from its head it comes to its end -/
theorem law_loop (hcu : cu ≤ 600000) (hsu : su ≤ 7302250) (hz : len ≤ 2560) (hx : ∀ j, -2147483648 ≤ xs j ∧ xs j ≤ 2147483647) (fin : ∀ h L, AW mL_law room_1 Z cu su n h 765 L []) :
    ∀ (c i : Nat) (h : AH) (s : WS), len < i + 5 + c → i ≤ len + 5 → h 0 = aA 6 len xs → RC h s → RM h s → okS s → AW mL_law room_1 Z cu su n h 18 [some (aR 0), some (aR 1), some (aR 52), some (aI (i : Int))] [] := by
  have hz' : len < 2147483648 := by omega
  have out : ∀ (i : Nat) (h : AH), len < i + 5 → i ≤ len + 5 → h 0 = aA 6 len xs → AW mL_law room_1 Z cu su n h 18 [some (aR 0), some (aR 1), some (aR 52), some (aI (i : Int))] [] := by
    intro i h hi hi2 hs
    refine aw_iload_n dL_law_18 rfl ?_
    refine aw_aload_n dL_law_19 rfl ?_
    refine aw_slen hs hz' dL_law_20 ?_
    refine aw_iconst dL_law_21 ?_
    refine aw_isub dL_law_22 ?_
    -- at 23: .if_icmp .gt 742
    refine aw_icmp_gt (tgt := 765) dL_law_23 (by omega) (by omega) (by decide) (fun c1 => ?_) (fun c1 => ?_)
    · exact fin _ _
    · omega
  intro c
  induction c with
  | zero => intro i h s hc hi hs HC HM ok; exact out i h (by omega) hi hs
  | succ c ih =>
    intro i h s hc hi2 hs HC HM ok
    by_cases hi : i + 5 ≤ len
    · have K : ∀ h' s', h' 0 = aA 6 len xs → RC h' s' → RM h' s' → okS s' → AW mL_law room_1 Z cu su n h' 759 [some (aR 0), some (aR 1), some (aR 52), some (aI (i : Int))] [] := by
        intro h' s' z1 z2 z3 z4
        refine aw_iinc dL_law_759 rfl (by decide) ?_
        refine aw_goto (tgt := 18) dL_law_762 (by decide) ?_
        have KK := ih (i + 5) h' s' (by omega) (by omega) z1 z2 z3 z4
        rw [show ((i + 5 : Nat) : Int) = (i : Int) + 5 by omega] at KK
        exact KK
      refine aw_iload_n dL_law_18 rfl ?_
      refine aw_aload_n dL_law_19 rfl ?_
      refine aw_slen hs hz' dL_law_20 ?_
      refine aw_iconst dL_law_21 ?_
      refine aw_isub dL_law_22 ?_
      -- at 23: .if_icmp .gt 742
      refine aw_icmp_gt (tgt := 765) dL_law_23 (by omega) (by omega) (by decide) (fun c1 => ?_) (fun c1 => ?_)
      · omega
      · refine aw_aload_n dL_law_26 rfl ?_
        refine aw_iload_n dL_law_27 rfl ?_
        refine aw_sld hs (by omega) hz' dL_law_28 ?_
        refine aw_bipush dL_law_29 (by decide) ?_
        refine aw_iand dL_law_31 ?_
        have rz := and31 (xs (i : Int).toNat)
        obtain ⟨z, hzz⟩ : ∃ z : Int, z = (iI (xs (i : Int).toNat) &&& iI 31).toInt := ⟨_, rfl⟩
        rw [← hzz] at rz
        refine aw_val (w := aI z) (by rw [hzz]) ?_
        by_cases z0 : z = 0
        · rw [z0]
          refine aw_tableIn (tgt := 140) dL_law_32 (by decide) (by decide) (by decide) rfl (by decide) ?_
          exact law_type hcu hsu hz' hx hs hi HC HM ok K
        by_cases z1 : z = 1
        · rw [z1]
          refine aw_tableIn (tgt := 163) dL_law_32 (by decide) (by decide) (by decide) rfl (by decide) ?_
          exact law_clear hcu hsu hz' hx hs hi HC HM ok K
        by_cases z2 : z = 2
        · rw [z2]
          refine aw_tableIn (tgt := 176) dL_law_32 (by decide) (by decide) (by decide) rfl (by decide) ?_
          exact law_fraction hcu hsu hz' hx hs hi HC HM ok K
        by_cases z3 : z = 3
        · rw [z3]
          refine aw_tableIn (tgt := 189) dL_law_32 (by decide) (by decide) (by decide) rfl (by decide) ?_
          exact law_makes hcu hsu hz' hx hs hi HC HM ok K
        by_cases z4 : z = 4
        · rw [z4]
          refine aw_tableIn (tgt := 212) dL_law_32 (by decide) (by decide) (by decide) rfl (by decide) ?_
          exact law_splits hcu hsu hz' hx hs hi HC HM ok K
        by_cases z5 : z = 5
        · rw [z5]
          refine aw_tableIn (tgt := 245) dL_law_32 (by decide) (by decide) (by decide) rfl (by decide) ?_
          exact law_joins hcu hsu hz' hx hs hi HC HM ok K
        by_cases z6 : z = 6
        · rw [z6]
          refine aw_tableIn (tgt := 278) dL_law_32 (by decide) (by decide) (by decide) rfl (by decide) ?_
          exact law_undo hcu hsu hz' hx hs hi HC HM ok K
        by_cases z7 : z = 7
        · rw [z7]
          refine aw_tableIn (tgt := 291) dL_law_32 (by decide) (by decide) (by decide) rfl (by decide) ?_
          exact law_term hcu hsu hz' hx hs hi HC HM ok K
        by_cases z8 : z = 8
        · rw [z8]
          refine aw_tableIn (tgt := 314) dL_law_32 (by decide) (by decide) (by decide) rfl (by decide) ?_
          exact law_greedy hcu hsu hz' hx hs hi HC HM ok K
        by_cases z9 : z = 9
        · rw [z9]
          refine aw_tableIn (tgt := 347) dL_law_32 (by decide) (by decide) (by decide) rfl (by decide) ?_
          exact law_sums hcu hsu hz' hx hs hi HC HM ok K
        by_cases z10 : z = 10
        · rw [z10]
          refine aw_tableIn (tgt := 380) dL_law_32 (by decide) (by decide) (by decide) rfl (by decide) ?_
          exact law_sum hcu hsu hz' hx hs hi HC HM ok K
        by_cases z11 : z = 11
        · rw [z11]
          refine aw_tableIn (tgt := 433) dL_law_32 (by decide) (by decide) (by decide) rfl (by decide) ?_
          exact law_fewest hcu hsu hz' hx hs hi HC HM ok K
        by_cases z12 : z = 12
        · rw [z12]
          refine aw_tableIn (tgt := 456) dL_law_32 (by decide) (by decide) (by decide) rfl (by decide) ?_
          exact law_bound hcu hsu hz' hx hs hi HC HM ok K
        by_cases z13 : z = 13
        · rw [z13]
          refine aw_tableIn (tgt := 479) dL_law_32 (by decide) (by decide) (by decide) rfl (by decide) ?_
          exact law_holds hcu hsu hz' hx hs hi HC HM ok K
        by_cases z14 : z = 14
        · rw [z14]
          refine aw_tableIn (tgt := 522) dL_law_32 (by decide) (by decide) (by decide) rfl (by decide) ?_
          exact law_covered hcu hsu hz' hx hs hi HC HM ok K
        by_cases z15 : z = 15
        · rw [z15]
          refine aw_tableIn (tgt := 565) dL_law_32 (by decide) (by decide) (by decide) rfl (by decide) ?_
          exact law_open hcu hsu hz' hx hs hi HC HM ok K
        by_cases z16 : z = 16
        · rw [z16]
          refine aw_tableIn (tgt := 598) dL_law_32 (by decide) (by decide) (by decide) rfl (by decide) ?_
          exact law_sees hcu hsu hz' hx hs hi HC HM ok K
        by_cases z17 : z = 17
        · rw [z17]
          refine aw_tableIn (tgt := 641) dL_law_32 (by decide) (by decide) (by decide) rfl (by decide) ?_
          exact law_forget hcu hsu hz' hx hs hi HC HM ok K
        by_cases z18 : z = 18
        · rw [z18]
          refine aw_tableIn (tgt := 654) dL_law_32 (by decide) (by decide) (by decide) rfl (by decide) ?_
          exact law_unseen hcu hsu hz' hx hs hi HC HM ok K
        by_cases z19 : z = 19
        · rw [z19]
          refine aw_tableIn (tgt := 667) dL_law_32 (by decide) (by decide) (by decide) rfl (by decide) ?_
          exact law_ask hcu hsu hz' hx hs hi HC HM ok K
        by_cases z20 : z = 20
        · rw [z20]
          refine aw_tableIn (tgt := 690) dL_law_32 (by decide) (by decide) (by decide) rfl (by decide) ?_
          exact law_keep hcu hsu hz' hx hs hi HC HM ok K
        by_cases z21 : z = 21
        · rw [z21]
          refine aw_tableIn (tgt := 713) dL_law_32 (by decide) (by decide) (by decide) rfl (by decide) ?_
          exact law_back hcu hsu hz' hx hs hi HC HM ok K
        by_cases z22 : z = 22
        · rw [z22]
          refine aw_tableIn (tgt := 736) dL_law_32 (by decide) (by decide) (by decide) rfl (by decide) ?_
          exact law_count hcu hsu hz' hx hs hi HC HM ok K
        refine aw_tableOut (tgt := 759) dL_law_32 (by omega) (by omega) (by decide) ?_
        exact K h s hs HC HM ok
    · exact out i h (by omega) hi2 hs
end Law
