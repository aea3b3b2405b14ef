/-! what is left of a state by calls that change little; states stay good -/
section Join
variable {h h' : AH} {s : WS}
theorem RC.fin (H : RC h s) (hF : finSt h' s.1 s.2.1) (hf : ∀ j, (j < 38 ∨ 47 < j) → h' j = h j) : RC h' s := by
  obtain ⟨p, q, t, past, ⟨k0, i0⟩, ⟨k1, i1⟩, sn, tx⟩ := s
  obtain ⟨a1, a2, a3, a4, a5, a6, a7, a8⟩ := H
  exact ⟨(hf 1 (by omega)).trans a1, a2.fr (hf 2 (by omega)) (hf 3 (by omega)), a3.fr (hf 4 (by omega)) (hf 5 (by omega)), a4.fr (fun j j1 j2 => hf j (by omega)), a5.fr (fun j j1 j2 => hf j (by omega)), a6.fr (fun j j1 j2 => hf j (by omega)), hF, a8.fr (fun j j1 j2 => hf j (by omega))⟩
/-- other things seen -/
def seenF (l : List Seen) : WS → WS := fun (p, q, t, past, a, b, _, tx) => (p, q, t, past, a, b, l, tx)
theorem RC.wit {l : List Seen} (H : RC h s) (hW : isWit h' l) (hf : ∀ j, (j < 48 ∨ 51 < j) → h' j = h j) : RC h' (seenF l s) := by
  obtain ⟨p, q, t, past, ⟨k0, i0⟩, ⟨k1, i1⟩, sn, tx⟩ := s
  obtain ⟨a1, a2, a3, a4, a5, a6, a7, a8⟩ := H
  exact ⟨(hf 1 (by omega)).trans a1, a2.fr (hf 2 (by omega)) (hf 3 (by omega)), a3.fr (hf 4 (by omega)) (hf 5 (by omega)), a4.fr (fun j j1 j2 => hf j (by omega)), a5.fr (fun j j1 j2 => hf j (by omega)), a6.fr (fun j j1 j2 => hf j (by omega)), a7.fr (fun j j1 j2 => hf j (by omega)), hW⟩
theorem RM.gt (H : RM h s) (hM : isMd h' (s.2.2.2.1.length : Int) s.1 s.2.1 (s.2.2.2.2.2.2.1.length : Int) (s.2.2.2.2.2.2.2.length : Int)) (hG : gtA h') (hf : ∀ j, j ≠ 52 → (j < 61 ∨ 64 < j) → h' j = h j) : RM h' s := by
  obtain ⟨p, q, t, past, ⟨k0, i0⟩, ⟨k1, i1⟩, sn, tx⟩ := s
  obtain ⟨a1, a2, a3, a4, a5, a6, a7, a8⟩ := H
  exact ⟨hM, a2.fr (hf 53 (by omega) (by omega)), a3.fr (hf 54 (by omega) (by omega)), a4.fr (fun j j1 j2 => hf j (by omega) (by omega)), a5.fr (hf 58 (by omega) (by omega)), a6.fr (hf 59 (by omega) (by omega)), a7.fr (hf 60 (by omega) (by omega)), hG⟩
theorem RM.made (H : RM h s) (hA : isArr h' 60 8 []) (hf : ∀ j, j ≠ 60 → h' j = h j) : RM h' s := by
  obtain ⟨p, q, t, past, ⟨k0, i0⟩, ⟨k1, i1⟩, sn, tx⟩ := s
  obtain ⟨a1, a2, a3, a4, a5, a6, a7, a8⟩ := H
  exact ⟨a1.fr (hf 52 (by omega)), a2.fr (hf 53 (by omega)), a3.fr (hf 54 (by omega)), a4.fr (fun j j1 j2 => hf j (by omega)), a5.fr (hf 58 (by omega)), a6.fr (hf 59 (by omega)), hA, a8.fr (fun j j1 j2 => hf j (by omega))⟩
theorem RM.sn {l : List Seen} (H : RM h s) (hM : isMd h' (s.2.2.2.1.length : Int) s.1 s.2.1 (l.length : Int) (s.2.2.2.2.2.2.2.length : Int)) (hS : isSn h' l) (hf : ∀ j, j ≠ 52 → (j < 55 ∨ 57 < j) → h' j = h j) : RM h' (seenF l s) := by
  obtain ⟨p, q, t, past, ⟨k0, i0⟩, ⟨k1, i1⟩, sn, tx⟩ := s
  obtain ⟨a1, a2, a3, a4, a5, a6, a7, a8⟩ := H
  exact ⟨hM, a2.fr (hf 53 (by omega) (by omega)), a3.fr (hf 54 (by omega) (by omega)), hS, a5.fr (hf 58 (by omega) (by omega)), a6.fr (hf 59 (by omega) (by omega)), a7.fr (hf 60 (by omega) (by omega)), a8.fr (fun j j1 j2 => hf j (by omega) (by omega))⟩
/-- what the calls answer that change nothing -/
def seesF (N m i : Int) : WS → Int × WS := fun s => if (2 ≤ N ∧ N ≤ 7) ∧ (1 ≤ m ∧ m ≤ 999) ∧ (0 ≤ i ∧ i ≤ 1) then (if s.2.2.2.2.2.2.1.length < 6 then ((s.2.2.2.2.2.2.1.length : Int) + 1, seenF (s.2.2.2.2.2.2.1 ++ [(N, m, i)]) s) else (-3, s)) else (-1, s)
def forgetF : WS → Int × WS := fun s => ((s.2.2.2.2.2.2.1.length : Int), seenF [] s)
theorem okRow_nil : okRow [] := ⟨inRow_nil, rising_nil⟩
theorem okPast_nil : okPast [] := ⟨by simp, fun l hl => by cases hl⟩
theorem ok_undo (ok : okS s) : okS (undoF s).2 := by
  obtain ⟨p, q, t, past, ⟨k0, i0⟩, ⟨k1, i1⟩, sn, tx⟩ := s
  have ok0 := ok
  obtain ⟨o1, o2, o3, o4, o5, o6, o7⟩ := ok
  rw [undoF]
  by_cases z : past.length = 0
  · rw [if_pos z]; exact ok0
  · rw [if_neg z]
    refine ⟨o1, o3.at (by omega), ⟨by have := o3.1; simp; omega, fun l hl => o3.2 l ((List.dropLast_sublist past).subset hl)⟩, o4, o5, o6, o7⟩
theorem ok_keep {k : Int} (ok : okS s) : okS (keepF k s).2 := by
  obtain ⟨p, q, t, past, ⟨k0, i0⟩, ⟨k1, i1⟩, sn, tx⟩ := s
  have ok0 := ok
  obtain ⟨o1, o2, o3, o4, o5, o6, o7⟩ := ok
  rw [keepF]
  by_cases z : 0 ≤ k ∧ k ≤ 1
  · rw [if_pos z]
    by_cases y : k = 0
    · rw [if_pos y, if_neg (by omega)]
      exact ⟨o1, o2, o3, ⟨Or.inr rfl, o2⟩, o5, o6, o7⟩
    · rw [if_neg y, if_pos (by omega)]
      exact ⟨o1, o2, o3, o4, ⟨Or.inr rfl, o2⟩, o6, o7⟩
  · rw [if_neg z]; exact ok0
theorem ok_back {k : Int} (ok : okS s) : okS (backF k s).2 := by
  obtain ⟨p, q, t, past, ⟨k0, i0⟩, ⟨k1, i1⟩, sn, tx⟩ := s
  have ok0 := ok
  obtain ⟨o1, o2, o3, o4, o5, o6, o7⟩ := ok
  rw [backF]
  by_cases z : 0 ≤ k ∧ k ≤ 1
  · rw [if_pos z]
    by_cases y : k = 0
    · rw [if_pos y, if_pos y]
      by_cases x : k0 = 0
      · rw [if_pos x]; exact ok0
      · rw [if_neg x]; exact ⟨o1, o4.2, okPast_nil, o4, o5, o6, o7⟩
    · rw [if_neg y, if_neg y]
      by_cases x : k1 = 0
      · rw [if_pos x]; exact ok0
      · rw [if_neg x]; exact ⟨o1, o5.2, okPast_nil, o4, o5, o6, o7⟩
  · rw [if_neg z]; exact ok0
theorem ok_take {l : List Int} (ok : okS s) (hl : okRow l) : okS (takeF l s) := by
  obtain ⟨p, q, t, past, ⟨k0, i0⟩, ⟨k1, i1⟩, sn, tx⟩ := s
  obtain ⟨o1, o2, o3, o4, o5, o6, o7⟩ := ok
  exact ⟨o1, hl, o3.store o2, o4, o5, o6, o7⟩
theorem ok_makes {way : Int} (ok : okS s) : okS (makesF way s).2 := by
  unfold makesF
  split
  · cases e : makeS s.1 s.2.1 way with
    | none => exact ok
    | some l =>
      obtain ⟨p, q, t, past, ⟨k0, i0⟩, ⟨k1, i1⟩, sn, tx⟩ := s
      exact ok_take ok (makeS_row ok.1.2.1.1 e)
  · exact ok
theorem ok_splits {k rule : Int} (ok : okS s) : okS (splitsF k rule s).2 := by
  unfold splitsF
  split
  · cases e : splitS (s.2.2.1.eraseIdx k.toNat) (s.2.2.1.getD k.toNat 0) rule with
    | none => exact ok
    | some l =>
      obtain ⟨p, q, t, past, ⟨k0, i0⟩, ⟨k1, i1⟩, sn, tx⟩ := s
      have o2 : okRow t := ok.2.1
      refine ok_take ok ?_
      unfold splitS at e
      split at e
      · cases e
      · exact insAll_ok _ _ _ (o2.erase _) e
  · exact ok
theorem ok_joins {j k : Int} (ok : okS s) : okS (joinsF j k s).2 := by
  unfold joinsF
  split
  · cases e : insAll ((s.2.2.1.eraseIdx (if j < k then k else j).toNat).eraseIdx (if j < k then j else k).toNat) [joinC (s.2.2.1.getD j.toNat 0) (s.2.2.1.getD k.toNat 0)] with
    | none => exact ok
    | some l =>
      obtain ⟨p, q, t, past, ⟨k0, i0⟩, ⟨k1, i1⟩, sn, tx⟩ := s
      have o2 : okRow t := ok.2.1
      exact ok_take ok (insAll_ok _ _ _ ((o2.erase _).erase _) e)
  · exact ok
theorem ok_type {x : Int} (ok : okS s) : okS (typeF x s).2 := by
  obtain ⟨p, q, t, past, ⟨k0, i0⟩, ⟨k1, i1⟩, sn, tx⟩ := s
  have ok0 := ok
  obtain ⟨o1, o2, o3, o4, o5, o6, o7⟩ := ok
  rw [typeF]
  by_cases z : 0 ≤ x ∧ x ≤ 255
  · rw [if_pos z]
    by_cases y : tx.length < 60
    · rw [if_pos y]
      refine ⟨o1, o2, o3, o4, o5, o6, by simp; omega, fun i hi => ?_⟩
      simp at hi
      rw [gd_app]
      by_cases w : i < tx.length
      · rw [if_pos w]; exact o7.2 i w
      · rw [if_neg w, if_pos (by omega)]; exact z
    · rw [if_neg y]; exact ok0
  · rw [if_neg z]; exact ok0
theorem okTx_nil : okTx [] := ⟨by simp, fun i hi => absurd hi (by simp)⟩
theorem okSeen_nil : okSeen [] := ⟨by simp, fun i hi => absurd hi (by simp)⟩
theorem ok_clear (ok : okS s) : okS (clearF s).2 := by
  obtain ⟨p, q, t, past, ⟨k0, i0⟩, ⟨k1, i1⟩, sn, tx⟩ := s
  obtain ⟨o1, o2, o3, o4, o5, o6, o7⟩ := ok
  exact ⟨o1, o2, o3, o4, o5, o6, okTx_nil⟩
theorem ok_frac (ok : okS s) : okS (fracF s).2 := by
  obtain ⟨p, q, t, past, ⟨k0, i0⟩, ⟨k1, i1⟩, sn, tx⟩ := s
  have ok0 := ok
  obtain ⟨o1, o2, o3, o4, o5, o6, o7⟩ := ok
  rw [fracF]
  by_cases z : 0 ≤ (telS tx).1
  · rw [if_pos z]
    obtain ⟨k1', k2', k3', k4', k5'⟩ := telS_ok z
    exact ⟨⟨k1', k2', k5' (by omega)⟩, ⟨k3'.row, k4'⟩, okPast_nil, ⟨Or.inl rfl, o4.2⟩, ⟨Or.inl rfl, o5.2⟩, okSeen_nil, okTx_nil⟩
  · rw [if_neg z]; exact ok0
theorem ok_seen {l : List Seen} (ok : okS s) (hl : okSeen l) : okS (seenF l s) := by
  obtain ⟨p, q, t, past, ⟨k0, i0⟩, ⟨k1, i1⟩, sn, tx⟩ := s
  obtain ⟨o1, o2, o3, o4, o5, o6, o7⟩ := ok
  exact ⟨o1, o2, o3, o4, o5, hl, o7⟩
theorem ok_sees {N m i : Int} (ok : okS s) : okS (seesF N m i s).2 := by
  unfold seesF
  split
  · split
    · obtain ⟨p, q, t, past, ⟨k0, i0⟩, ⟨k1, i1⟩, sn, tx⟩ := s
      exact ok_seen ok (okSeen.app ok.2.2.2.2.2.1 (by assumption) (by assumption))
    · exact ok
  · exact ok
theorem ok_forget (ok : okS s) : okS (forgetF s).2 := ok_seen ok okSeen_nil
end Join
