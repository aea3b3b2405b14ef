/-! Row: unlike numbers, rising, eight at most -/
-- lists of numbers
theorem gd_ins (l : List Int) (x : Int) (p i : Nat) (hp : p ≤ l.length) : (l.take p ++ x :: l.drop p).getD i 0 = if i < p then l.getD i 0 else if i = p then x else l.getD (i - 1) 0 := by
  simp only [List.getD_eq_getElem?_getD]
  by_cases h1 : i < p
  · rw [if_pos h1, List.getElem?_append_left (by simp; omega), List.getElem?_take_of_lt h1]
  · rw [if_neg h1, List.getElem?_append_right (by simp; omega)]
    have e : (l.take p).length = p := by simp; omega
    rw [e]
    by_cases h2 : i = p
    · subst h2
      simp
    · rw [if_neg h2]
      obtain ⟨k, hk⟩ : ∃ k, i - p = k + 1 := ⟨i - p - 1, by omega⟩
      rw [hk, List.getElem?_cons_succ, List.getElem?_drop]
      congr 2
      omega
theorem gd_erase (l : List Int) (k i : Nat) : (l.eraseIdx k).getD i 0 = if i < k then l.getD i 0 else l.getD (i + 1) 0 := by
  simp only [List.getD_eq_getElem?_getD, List.getElem?_eraseIdx]
  by_cases h : i < k <;> simp [h]
theorem gd_oob (l : List Int) {i : Nat} (h : l.length ≤ i) : l.getD i 0 = 0 := by
  simp [List.getD_eq_getElem?_getD, List.getElem?_eq_none h]
theorem gd_ext {l l' : List Int} (h : l.length = l'.length) (hi : ∀ i, i < l.length → l.getD i 0 = l'.getD i 0) : l = l' := by
  apply List.ext_getElem?
  intro i
  by_cases h1 : i < l.length
  · have := hi i h1
    simp only [List.getD_eq_getElem?_getD] at this
    rw [List.getElem?_eq_getElem h1, List.getElem?_eq_getElem (by omega)] at this ⊢
    simpa using this
  · rw [List.getElem?_eq_none (by omega), List.getElem?_eq_none (by omega)]
def plc (l : List Int) (x : Int) : Nat → Nat
  | 0 => 0
  | p + 1 => if x ≤ l.getD p 0 then plc l x p else p + 1
theorem plc_le (l : List Int) (x : Int) : ∀ p, plc l x p ≤ p
  | 0 => Nat.le_refl _
  | p + 1 => by
    unfold plc
    split
    · have := plc_le l x p; omega
    · exact Nat.le_refl _
abbrev plL (l : List Int) (x : Int) : Nat := plc l x l.length
def insL (l : List Int) (x : Int) : List Int := l.take (plL l x) ++ x :: l.drop (plL l x)
theorem insL_len (l : List Int) (x : Int) : (insL l x).length = l.length + 1 := by
  have := plc_le l x l.length
  simp [insL]
  omega
theorem insL_gd (l : List Int) (x : Int) (i : Nat) : (insL l x).getD i 0 = if i < plL l x then l.getD i 0 else if i = plL l x then x else l.getD (i - 1) 0 := gd_ins l x _ i (plc_le _ _ _)
def insOK (l : List Int) (x : Int) : Prop := 1 ≤ x ∧ x ≤ 1000000 ∧ l.length < 8 ∧ ¬ (plL l x < l.length ∧ l.getD (plL l x) 0 = x)
/-- at most eight numbers, each 1 to 1000000 -/
def inRow (l : List Int) : Prop := l.length ≤ 8 ∧ ∀ i, i < l.length → 1 ≤ l.getD i 0 ∧ l.getD i 0 ≤ 1000000
def isRow (h : AH) (r a : Nat) (l : List Int) : Prop := h r = aO 2 [aR a, aI (l.length : Int)] ∧ ∃ f, h a = aA 0 8 f ∧ ∀ i, i < l.length → f i = l.getD i 0
theorem isRow.ne {h : AH} {r a : Nat} {l : List Int} (H : isRow h r a l) : r ≠ a := by
  rintro rfl
  obtain ⟨h1, f, h2, -⟩ := H
  rw [h1] at h2
  cases h2
theorem isRow.fr {h h' : AH} {r a : Nat} {l : List Int} (H : isRow h r a l) (h1 : h' r = h r) (h2 : h' a = h a) : isRow h' r a l := ⟨h1.trans H.1, H.2.choose, h2.trans H.2.choose_spec.1, H.2.choose_spec.2⟩
section Row
variable {d n : Nat} {h : AH} {r a : Nat} {l : List Int}
theorem c_Row_length (H : isRow h r a l) : AC mX2_length d 0 0 n h [aR r] (aqi n fun v h' => v = l.length ∧ h' = h) := by
  refine AC.of (by decide) (Nat.le_of_ble_eq_true rfl) ?_
  obtain ⟨hr, f, ha, hf⟩ := H
  refine aw_aload_n dX2_length_0 rfl ?_
  refine aw_get kg_X2_15 (by assumption) (by rfl) dX2_length_1 ?_
  -- at 4: .ireturn
  exact aw_iret rfl dX2_length_4 ⟨rfl, _, rfl, rfl, rfl⟩
theorem c_Row_reaches {k : Int} (hk : -2147483648 ≤ k ∧ k ≤ 2147483647) (H : isRow h r a l) (hl : inRow l) : AC mX2_reaches d 0 0 n h [aR r, aI k] (aqi n fun v h' => v = (if 0 ≤ k ∧ k < l.length then 1 else 0) ∧ h' = h) := by
  refine AC.of (by decide) (Nat.le_of_ble_eq_true rfl) ?_
  obtain ⟨hr, f, ha, hf⟩ := H
  have hl8 := hl.1
  refine aw_iload_n dX2_reaches_0 rfl ?_
  -- at 1: .ifCond .lt 15
  refine aw_if_lt (tgt := 16) dX2_reaches_1 (by omega) (by decide) (fun c1 => ?_) (fun c1 => ?_)
  · refine aw_iconst dX2_reaches_16 ?_
    -- at 17: .ireturn
    exact aw_zret rfl dX2_reaches_17 (by omega) ⟨rfl, _, rfl, by rw [if_neg (by omega)], rfl⟩
  · refine aw_iload_n dX2_reaches_4 rfl ?_
    refine aw_aload_n dX2_reaches_5 rfl ?_
    refine aw_get kg_X2_15 (by assumption) (by rfl) dX2_reaches_6 ?_
    -- at 9: .if_icmp .ge 7
    refine aw_icmp_ge (tgt := 16) dX2_reaches_9 (by omega) (by omega) (by decide) (fun c2 => ?_) (fun c2 => ?_)
    · refine aw_iconst dX2_reaches_16 ?_
      -- at 17: .ireturn
      exact aw_zret rfl dX2_reaches_17 (by omega) ⟨rfl, _, rfl, by rw [if_neg (by omega)], rfl⟩
    · refine aw_iconst dX2_reaches_12 ?_
      refine aw_goto (tgt := 17) dX2_reaches_13 (by decide) ?_
      -- at 17: .ireturn
      exact aw_zret rfl dX2_reaches_17 (by omega) ⟨rfl, _, rfl, by rw [if_pos (by omega)], rfl⟩
theorem c_Row_at {k : Int} (hk : -2147483648 ≤ k ∧ k ≤ 2147483647) (H : isRow h r a l) (hl : inRow l) : AC mX2_at (d + 1) 0 0 n h [aR r, aI k] (aqi n fun v h' => v = (if 0 ≤ k ∧ k < l.length then l.getD k.toNat 0 else -9) ∧ h' = h) := by
  refine AC.of (by decide) (Nat.le_of_ble_eq_true rfl) ?_
  have H0 := H
  obtain ⟨hr, f, ha, hf⟩ := H
  have hl8 := hl.1
  refine aw_aload_n dX2_at_0 rfl ?_
  refine aw_iload_n dX2_at_1 rfl ?_
  -- at 2: .invokevirtual 19
  refine aw_Vi1 kc_X2_19 (c_Row_reaches (d := d) hk H0 hl) (by assumption) rfl rfl (by omega) (Nat.le_of_ble_eq_true rfl) dX2_at_2 (fun v h' q => ?_)
  obtain ⟨rfl, rfl⟩ := q
  refine aw_flag_eq (tgt := 17) dX2_at_5 (by decide) (fun c1 => ?_) (fun c1 => ?_)
  · refine aw_bipush dX2_at_17 (by decide) ?_
    -- at 19: .ireturn
    exact aw_iret rfl dX2_at_19 ⟨rfl, _, rfl, by rw [if_neg c1], rfl⟩
  · refine aw_aload_n dX2_at_8 rfl ?_
    refine aw_get kg_X2_9 (by assumption) (by rfl) dX2_at_9 ?_
    refine aw_iload_n dX2_at_12 rfl ?_
    refine aw_iald (by assumption) (by omega) dX2_at_13 ?_
    refine aw_goto (tgt := 19) dX2_at_14 (by decide) ?_
    -- at 19: .ireturn
    exact aw_iret rfl dX2_at_19 ⟨rfl, _, rfl, by rw [if_pos c1]; exact hf _ (by omega), rfl⟩
theorem c_Row_wipe (H : isRow h r a l) : AC mX2_wipe d 0 0 n h [aR r] (aqv n fun h' => isRow h' r a [] ∧ ∀ j, j ≠ r → j ≠ a → h' j = h j) := by
  refine AC.of (by decide) (Nat.le_of_ble_eq_true rfl) ?_
  have hne := H.ne
  obtain ⟨hr, f, ha, hf⟩ := H
  refine aw_aload_n dX2_wipe_0 rfl ?_
  refine aw_iconst dX2_wipe_1 ?_
  -- at 2: .putfield 15
  refine aw_putO kp_X2_15 (by assumption) (by simp) (aw_ni _) dX2_wipe_2 (fun h1 hr1 hf1 => ?_)
  exact aw_vret rfl dX2_wipe_5 ⟨rfl, rfl, ⟨hr1, f, (hf1 a hne.symm).trans ha, fun i hi => absurd hi (by simp)⟩, fun j h1 _ => hf1 j h1⟩
end Row
