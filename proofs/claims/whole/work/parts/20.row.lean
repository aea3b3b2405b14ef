/-! Row: unlike numbers, rising, eight at most -/
-- lists of numbers
theorem gd_ins (l : List Int) (x : Int) (p i : Nat) (hp : p ≤ l.length) : (l.take p ++ x :: l.drop p).getD i 0 = if i < p then l.getD i 0 else if i = p then x else l.getD (i - 1) 0 := by
  simp only [List.getD_eq_getElem?_getD]
  by_cases h1 : i < p
  · rw [if_pos h1, List.getElem?_append_left (by simp; omega), List.getElem?_take_of_lt h1]
  · rw [if_neg h1, List.getElem?_append_right (by simp; omega)]
    have e : (l.take p).length = p := by simp; omega
    rw [e]
    by_cases h2 : i = p
    · subst h2
      simp
    · rw [if_neg h2]
      obtain ⟨k, hk⟩ : ∃ k, i - p = k + 1 := ⟨i - p - 1, by omega⟩
      rw [hk, List.getElem?_cons_succ, List.getElem?_drop]
      congr 2
      omega
theorem gd_erase (l : List Int) (k i : Nat) : (l.eraseIdx k).getD i 0 = if i < k then l.getD i 0 else l.getD (i + 1) 0 := by
  simp only [List.getD_eq_getElem?_getD, List.getElem?_eraseIdx]
  by_cases h : i < k <;> simp [h]
theorem gd_oob (l : List Int) {i : Nat} (h : l.length ≤ i) : l.getD i 0 = 0 := by
  simp [List.getD_eq_getElem?_getD, List.getElem?_eq_none h]
theorem gd_ext {l l' : List Int} (h : l.length = l'.length) (hi : ∀ i, i < l.length → l.getD i 0 = l'.getD i 0) : l = l' := by
  apply List.ext_getElem?
  intro i
  by_cases h1 : i < l.length
  · have := hi i h1
    simp only [List.getD_eq_getElem?_getD] at this
    rw [List.getElem?_eq_getElem h1, List.getElem?_eq_getElem (by omega)] at this ⊢
    simpa using this
  · rw [List.getElem?_eq_none (by omega), List.getElem?_eq_none (by omega)]
def plc (l : List Int) (x : Int) : Nat → Nat
  | 0 => 0
  | p + 1 => if x ≤ l.getD p 0 then plc l x p else p + 1
theorem plc_le (l : List Int) (x : Int) : ∀ p, plc l x p ≤ p
  | 0 => Nat.le_refl _
  | p + 1 => by
    unfold plc
    split
    · have := plc_le l x p; omega
    · exact Nat.le_refl _
abbrev plL (l : List Int) (x : Int) : Nat := plc l x l.length
def insL (l : List Int) (x : Int) : List Int := l.take (plL l x) ++ x :: l.drop (plL l x)
theorem insL_len (l : List Int) (x : Int) : (insL l x).length = l.length + 1 := by
  have := plc_le l x l.length
  simp [insL]
  omega
theorem insL_gd (l : List Int) (x : Int) (i : Nat) : (insL l x).getD i 0 = if i < plL l x then l.getD i 0 else if i = plL l x then x else l.getD (i - 1) 0 := gd_ins l x _ i (plc_le _ _ _)
def insOK (l : List Int) (x : Int) : Prop := 1 ≤ x ∧ x ≤ 1000000 ∧ l.length < 8 ∧ ¬ (plL l x < l.length ∧ l.getD (plL l x) 0 = x)
/-- at most eight numbers, each 1 to 1000000 -/
def inRow (l : List Int) : Prop := l.length ≤ 8 ∧ ∀ i, i < l.length → 1 ≤ l.getD i 0 ∧ l.getD i 0 ≤ 1000000
def isRow (h : AH) (r a : Nat) (l : List Int) : Prop := h r = aO 2 [aR a, aI (l.length : Int)] ∧ ∃ f, h a = aA 0 8 f ∧ ∀ i, i < l.length → f i = l.getD i 0
theorem isRow.ne {h : AH} {r a : Nat} {l : List Int} (H : isRow h r a l) : r ≠ a := by
  rintro rfl
  obtain ⟨h1, f, h2, -⟩ := H
  rw [h1] at h2
  cases h2
theorem isRow.fr {h h' : AH} {r a : Nat} {l : List Int} (H : isRow h r a l) (h1 : h' r = h r) (h2 : h' a = h a) : isRow h' r a l := ⟨h1.trans H.1, H.2.choose, h2.trans H.2.choose_spec.1, H.2.choose_spec.2⟩
section Row
variable {d n : Nat} {h : AH} {r a : Nat} {l : List Int}
theorem c_Row_length (H : isRow h r a l) : AC mX2_length d 0 0 n h [aR r] (aqi n fun v h' => v = l.length ∧ h' = h) := by
  refine AC.of (by decide) (Nat.le_of_ble_eq_true rfl) ?_
  obtain ⟨hr, f, ha, hf⟩ := H
  refine aw_aload_n dX2_length_0 rfl ?_
  refine aw_get kg_X2_15 (by assumption) (by rfl) dX2_length_1 ?_
  -- at 4: .ireturn
  exact aw_iret rfl dX2_length_4 ⟨rfl, _, rfl, rfl, rfl⟩
theorem c_Row_reaches {k : Int} (hk : -2147483648 ≤ k ∧ k ≤ 2147483647) (H : isRow h r a l) (hl : inRow l) : AC mX2_reaches d 0 0 n h [aR r, aI k] (aqi n fun v h' => v = (if 0 ≤ k ∧ k < l.length then 1 else 0) ∧ h' = h) := by
  refine AC.of (by decide) (Nat.le_of_ble_eq_true rfl) ?_
  obtain ⟨hr, f, ha, hf⟩ := H
  have hl8 := hl.1
  refine aw_iload_n dX2_reaches_0 rfl ?_
  -- at 1: .ifCond .lt 15
  refine aw_if_lt (tgt := 16) dX2_reaches_1 (by omega) (by decide) (fun c1 => ?_) (fun c1 => ?_)
  · refine aw_iconst dX2_reaches_16 ?_
    -- at 17: .ireturn
    exact aw_zret rfl dX2_reaches_17 (by omega) ⟨rfl, _, rfl, by rw [if_neg (by omega)], rfl⟩
  · refine aw_iload_n dX2_reaches_4 rfl ?_
    refine aw_aload_n dX2_reaches_5 rfl ?_
    refine aw_get kg_X2_15 (by assumption) (by rfl) dX2_reaches_6 ?_
    -- at 9: .if_icmp .ge 7
    refine aw_icmp_ge (tgt := 16) dX2_reaches_9 (by omega) (by omega) (by decide) (fun c2 => ?_) (fun c2 => ?_)
    · refine aw_iconst dX2_reaches_16 ?_
      -- at 17: .ireturn
      exact aw_zret rfl dX2_reaches_17 (by omega) ⟨rfl, _, rfl, by rw [if_neg (by omega)], rfl⟩
    · refine aw_iconst dX2_reaches_12 ?_
      refine aw_goto (tgt := 17) dX2_reaches_13 (by decide) ?_
      -- at 17: .ireturn
      exact aw_zret rfl dX2_reaches_17 (by omega) ⟨rfl, _, rfl, by rw [if_pos (by omega)], rfl⟩
theorem c_Row_at {k : Int} (hk : -2147483648 ≤ k ∧ k ≤ 2147483647) (H : isRow h r a l) (hl : inRow l) : AC mX2_at (d + 1) 0 0 n h [aR r, aI k] (aqi n fun v h' => v = (if 0 ≤ k ∧ k < l.length then l.getD k.toNat 0 else -9) ∧ h' = h) := by
  refine AC.of (by decide) (Nat.le_of_ble_eq_true rfl) ?_
  have H0 := H
  obtain ⟨hr, f, ha, hf⟩ := H
  have hl8 := hl.1
  refine aw_aload_n dX2_at_0 rfl ?_
  refine aw_iload_n dX2_at_1 rfl ?_
  -- at 2: .invokevirtual 19
  refine aw_Vi1 kc_X2_19 (c_Row_reaches (d := d) hk H0 hl) (by assumption) rfl rfl (by omega) (Nat.le_of_ble_eq_true rfl) dX2_at_2 (fun v h' q => ?_)
  obtain ⟨rfl, rfl⟩ := q
  refine aw_flag_eq (tgt := 17) dX2_at_5 (by decide) (fun c1 => ?_) (fun c1 => ?_)
  · refine aw_bipush dX2_at_17 (by decide) ?_
    -- at 19: .ireturn
    exact aw_iret rfl dX2_at_19 ⟨rfl, _, rfl, by rw [if_neg c1], rfl⟩
  · refine aw_aload_n dX2_at_8 rfl ?_
    refine aw_get kg_X2_9 (by assumption) (by rfl) dX2_at_9 ?_
    refine aw_iload_n dX2_at_12 rfl ?_
    refine aw_iald (by assumption) (by omega) dX2_at_13 ?_
    refine aw_goto (tgt := 19) dX2_at_14 (by decide) ?_
    -- at 19: .ireturn
    exact aw_iret rfl dX2_at_19 ⟨rfl, _, rfl, by rw [if_pos c1]; exact hf _ (by omega), rfl⟩
theorem c_Row_wipe (H : isRow h r a l) : AC mX2_wipe d 0 0 n h [aR r] (aqv n fun h' => isRow h' r a [] ∧ ∀ j, j ≠ r → j ≠ a → h' j = h j) := by
  refine AC.of (by decide) (Nat.le_of_ble_eq_true rfl) ?_
  have hne := H.ne
  obtain ⟨hr, f, ha, hf⟩ := H
  refine aw_aload_n dX2_wipe_0 rfl ?_
  refine aw_iconst dX2_wipe_1 ?_
  -- at 2: .putfield 15
  refine aw_putO kp_X2_15 (by assumption) (by simp) (aw_ni _) dX2_wipe_2 (fun h1 hr1 hf1 => ?_)
  exact aw_vret rfl dX2_wipe_5 ⟨rfl, rfl, ⟨hr1, f, (hf1 a hne.symm).trans ha, fun i hi => absurd hi (by simp)⟩, fun j h1 _ => hf1 j h1⟩
theorem c_Row_copy {r2 a2 : Nat} {l2 : List Int} (H : isRow h r a l) (H2 : isRow h r2 a2 l2) (hl2 : inRow l2) (n1 : r ≠ r2) (n2 : a ≠ a2) : AC mX2_copy (d + 1) 0 0 n h [aR r, aR r2] (aqv n fun h' => isRow h' r a l2 ∧ ∀ j, j ≠ r → j ≠ a → h' j = h j) := by
  refine AC.of (by decide) (Nat.le_of_ble_eq_true rfl) ?_
  have hne := H.ne
  have hne2 := H2.ne
  obtain ⟨hr, f, ha, hf⟩ := H
  obtain ⟨hr2, f2, ha2, hf2⟩ := H2
  have hra : r ≠ a2 := by rintro rfl; rw [hr] at ha2; cases ha2
  have hl8 := hl2.1
  refine aw_aload_n dX2_copy_0 rfl ?_
  refine aw_aload_n dX2_copy_1 rfl ?_
  refine aw_get kg_X2_15 (by assumption) (by rfl) dX2_copy_2 ?_
  -- at 5: .putfield 15
  refine aw_putO kp_X2_15 (by assumption) (by simp) (aw_ni _) dX2_copy_5 (fun h1 hr1 hf1 => ?_)
  have hr1 : h1 r = aO 2 [aR a, aI (l2.length : Int)] := hr1
  have hr21 := (hf1 r2 n1.symm).trans hr2
  have ha1 := (hf1 a hne.symm).trans ha
  have ha21 := (hf1 a2 hra.symm).trans ha2
  refine aw_aload_n dX2_copy_8 rfl ?_
  refine aw_get kg_X2_9 (by assumption) (by rfl) dX2_copy_9 ?_
  refine aw_iconst dX2_copy_12 ?_
  refine aw_aload_n dX2_copy_13 rfl ?_
  refine aw_get kg_X2_9 (by assumption) (by rfl) dX2_copy_14 ?_
  refine aw_iconst dX2_copy_17 ?_
  refine aw_aload_n dX2_copy_18 rfl ?_
  refine aw_get kg_X2_15 (by assumption) (by rfl) dX2_copy_19 ?_
  -- at 22: .invokestatic 23
  refine aw_copyi kc_X2_23 ks_cpn ks_cps ti_J10 ha21 ha1 (by omega) (Nat.le_of_ble_eq_true rfl) (by show 1 ≤ d + 1; omega) (by show 64 ≤ 64 * (d + 1); omega) dX2_copy_22 ?_
  refine aw_vret rfl dX2_copy_25 ⟨rfl, rfl, ⟨?_, _, va_up_s _ _ _, fun i hi => ?_⟩, fun j g1 g2 => ?_⟩
  · rw [va_up_n _ _ _ hne]
    exact hr1
  · rw [if_pos (by omega)]
    exact hf2 i hi
  · rw [va_up_n _ _ _ g2]
    exact hf1 j g1
theorem drop_loop {R : Room} {Z : AZ} {f : Nat → Int} {k : Nat} {L1 : Int} (hr : h r = aO 2 [aR a, aI ((l.length : Int) - 1)]) (hl8 : l.length ≤ 8) (hne : r ≠ a) (hk : k < l.length)
    (kk : ∀ h', h' r = h r → (∃ g, h' a = aA 0 8 g ∧ ∀ i, i < l.length - 1 → g i = if i < k then f i else f (i + 1)) → (∀ j, j ≠ r → j ≠ a → h' j = h j) → ∀ L', AW mX2_drop R Z 0 0 n h' 49 L' []) :
    ∀ (m e : Nat), m + e = l.length - 1 → k ≤ e → ∀ h1, h1 r = h r → (∃ g, h1 a = aA 0 8 g ∧ ∀ i, i < l.length → g i = if i < k then f i else if i < e then f (i + 1) else f i) → (∀ j, j ≠ r → j ≠ a → h1 j = h j) → AW mX2_drop R Z 0 0 n h1 21 [some (aR r), some (aI L1), some (aI (e : Int))] [] := by
  intro m
  induction m with
  | zero =>
    intro e he hke h1 hr1 ⟨g, hg, hgi⟩ hfr
    have hr1' := hr1.trans hr
    refine aw_iload_n dX2_drop_21 rfl ?_
    refine aw_aload_n dX2_drop_22 rfl ?_
    refine aw_get kg_X2_15 (by assumption) (by rfl) dX2_drop_23 ?_
    -- at 26: .if_icmp .ge 23
    refine aw_icmp_ge (tgt := 49) dX2_drop_26 (by omega) (by omega) (by decide) (fun c1 => ?_) (fun c1 => ?_)
    · refine kk h1 hr1 ⟨g, hg, fun i hi => ?_⟩ hfr _
      rw [hgi i (by omega)]
      by_cases q : i < k
      · rw [if_pos q, if_pos q]
      · rw [if_neg q, if_neg q, if_pos (by omega)]
    · omega
  | succ m ih =>
    intro e he hke h1 hr1 ⟨g, hg, hgi⟩ hfr
    have hr1' := hr1.trans hr
    refine aw_iload_n dX2_drop_21 rfl ?_
    refine aw_aload_n dX2_drop_22 rfl ?_
    refine aw_get kg_X2_15 (by assumption) (by rfl) dX2_drop_23 ?_
    -- at 26: .if_icmp .ge 23
    refine aw_icmp_ge (tgt := 49) dX2_drop_26 (by omega) (by omega) (by decide) (fun c1 => ?_) (fun c1 => ?_)
    · omega
    · refine aw_aload_n dX2_drop_29 rfl ?_
      refine aw_get kg_X2_9 (by assumption) (by rfl) dX2_drop_30 ?_
      refine aw_iload_n dX2_drop_33 rfl ?_
      refine aw_aload_n dX2_drop_34 rfl ?_
      refine aw_get kg_X2_9 (by assumption) (by rfl) dX2_drop_35 ?_
      refine aw_iload_n dX2_drop_38 rfl ?_
      refine aw_iconst dX2_drop_39 ?_
      refine aw_iadd dX2_drop_40 ?_
      refine aw_iald (by assumption) (by omega) dX2_drop_41 ?_
      -- at 42: .iastore
      refine aw_iastO (by assumption) (by omega) dX2_drop_42 (fun h2 ha2 hf2 => ?_)
      refine aw_iinc dX2_drop_43 rfl (by decide) ?_
      refine aw_goto (tgt := 21) dX2_drop_46 (by decide) ?_
      have K := ih (e + 1) (by omega) (by omega) h2 ((hf2 r hne).trans hr1) ⟨_, ha2, fun i hi => ?_⟩ (fun j g1 g2 => (hf2 j g2).trans (hfr j g1 g2))
      · rw [show ((e + 1 : Nat) : Int) = (e : Int) + 1 by omega] at K
        exact K
      have e1 : ((e : Int) + 1).toNat = e + 1 := by omega
      have e2 : (e : Int).toNat = e := by omega
      rw [e1, e2]
      by_cases q : i = e
      · subst q
        rw [va_up_s, hgi _ (by omega), if_neg (by omega), if_neg (by omega), if_neg (by omega), if_pos (by omega)]
      · rw [va_up_n _ _ _ q, hgi i hi]
        by_cases q2 : i < k
        · rw [if_pos q2, if_pos q2]
        · rw [if_neg q2, if_neg q2]
          by_cases q3 : i < e
          · rw [if_pos q3, if_pos (by omega)]
          · rw [if_neg q3, if_neg (by omega)]
theorem c_Row_drop {k : Int} (hk : -2147483648 ≤ k ∧ k ≤ 2147483647) (H : isRow h r a l) (hl : inRow l) : AC mX2_drop (d + 1) 0 0 n h [aR r, aI k] (aqv n fun h' => isRow h' r a (if 0 ≤ k ∧ k < l.length then l.eraseIdx k.toNat else l) ∧ ∀ j, j ≠ r → j ≠ a → h' j = h j) := by
  refine AC.of (by decide) (Nat.le_of_ble_eq_true rfl) ?_
  have H0 := H
  have hne := H.ne
  obtain ⟨hr, f, ha, hf⟩ := H
  have hl8 := hl.1
  refine aw_aload_n dX2_drop_0 rfl ?_
  refine aw_iload_n dX2_drop_1 rfl ?_
  -- at 2: .invokevirtual 19
  refine aw_Vi1 kc_X2_19 (c_Row_reaches (d := d) hk H0 hl) (by assumption) rfl rfl (by omega) (Nat.le_of_ble_eq_true rfl) dX2_drop_2 (fun v h' q => ?_)
  obtain ⟨rfl, rfl⟩ := q
  refine aw_flag_ne (tgt := 9) dX2_drop_5 (by decide) (fun c1 => ?_) (fun c1 => ?_)
  · refine aw_aload_n dX2_drop_9 rfl ?_
    refine aw_dup dX2_drop_10 rfl ?_
    refine aw_get kg_X2_15 (by assumption) (by rfl) dX2_drop_11 ?_
    refine aw_iconst dX2_drop_14 ?_
    refine aw_isub dX2_drop_15 ?_
    -- at 16: .putfield 15
    refine aw_putO kp_X2_15 (by assumption) (by simp) (aw_ni _) dX2_drop_16 (fun h1 hr1 hf1 => ?_)
    have hr1 : h1 r = aO 2 [aR a, aI ((l.length : Int) - 1)] := hr1
    have ha1 := (hf1 a hne.symm).trans ha
    refine aw_iload_n dX2_drop_19 rfl ?_
    refine aw_istore_n dX2_drop_20 (by decide) ?_
    have hkk := drop_loop (L1 := k) (l := l) (h := h1) (n := n) (R := am_R (d + 1) 0 0) (Z := am_Z (aqv n fun h'' => isRow h'' r a (if 0 ≤ k ∧ k < l.length then l.eraseIdx k.toNat else l) ∧ ∀ j, j ≠ r → j ≠ a → h'' j = h' j) 0 0) (f := f) (k := k.toNat) hr1 hl8 hne (by omega) (fun h2 hr2 ⟨g, hg, hgi⟩ hfr L' => by
      refine aw_vret rfl dX2_drop_49 ⟨rfl, rfl, ?_, fun j g1 g2 => (hfr j g1 g2).trans (hf1 j g1)⟩
      rw [if_pos c1]
      have hlen : (l.eraseIdx k.toNat).length = l.length - 1 := by rw [List.length_eraseIdx, if_pos (by omega)]
      refine ⟨?_, g, hg, fun i hi => ?_⟩
      · rw [hr2, hr1, hlen]
        have : ((l.length - 1 : Nat) : Int) = (l.length : Int) - 1 := by omega
        rw [this]
      · rw [hlen] at hi
        rw [hgi i hi, gd_erase]
        by_cases q : i < k.toNat
        · rw [if_pos q, if_pos q]
          exact hf i (by omega)
        · rw [if_neg q, if_neg q]
          exact hf (i + 1) (by omega)) (l.length - 1 - k.toNat) k.toNat (by omega) (Nat.le_refl _) h1 rfl ⟨f, ha1, fun i hi => by
            by_cases q : i < k.toNat
            · rw [if_pos q]
            · rw [if_neg q, if_neg q]⟩ (fun _ _ _ => rfl)
    have ek : ((k.toNat : Nat) : Int) = k := by omega
    rw [ek] at hkk
    exact hkk
  · exact aw_vret rfl dX2_drop_8 ⟨rfl, rfl, by rw [if_neg c1]; exact H0, fun _ _ _ => rfl⟩
theorem ins_l1 {R : Room} {Z : AZ} {f : Nat → Int} {x : Int} {L4 : Option AV} (hr : h r = aO 2 [aR a, aI (l.length : Int)]) (ha : h a = aA 0 8 f) (hf : ∀ i, i < l.length → f i = l.getD i 0) (hl : inRow l) (hx : 1 ≤ x ∧ x ≤ 1000000) :
    ∀ p : Nat, p ≤ l.length → AW mX2_insert R Z 0 0 n h 54 [some (aR r), some (aL x), none, some (aI (plc l x p : Int)), L4] [] → AW mX2_insert R Z 0 0 n h 30 [some (aR r), some (aL x), none, some (aI (p : Int)), L4] [] := by
  have hl8 := hl.1
  intro p
  induction p with
  | zero =>
    intro _ kk
    refine aw_iload_n dX2_insert_30 rfl ?_
    -- at 31: .ifCond .le 23
    refine aw_if_le (tgt := 54) dX2_insert_31 (by omega) (by decide) (fun c1 => ?_) (fun c1 => ?_)
    · exact kk
    · omega
  | succ p ih =>
    intro hp kk
    have hv := hl.2 p (by omega)
    refine aw_iload_n dX2_insert_30 rfl ?_
    -- at 31: .ifCond .le 23
    refine aw_if_le (tgt := 54) dX2_insert_31 (by omega) (by decide) (fun c1 => ?_) (fun c1 => ?_)
    · omega
    · refine aw_aload_n dX2_insert_34 rfl ?_
      refine aw_get kg_X2_9 (by assumption) (by rfl) dX2_insert_35 ?_
      refine aw_iload_n dX2_insert_38 rfl ?_
      refine aw_iconst dX2_insert_39 ?_
      refine aw_isub dX2_insert_40 ?_
      refine aw_iald (by assumption) (by omega) dX2_insert_41 ?_
      have e1 : (((p + 1 : Nat) : Int) - 1).toNat = p := by omega
      refine aw_val (w := aI (l.getD p 0)) (by rw [e1, hf p (by omega)]) ?_
      refine aw_i2l dX2_insert_42 (by omega) ?_
      refine aw_lload_n dX2_insert_43 rfl ?_
      -- at 44: .lcmp
      refine aw_lcmp_lt (tgt := 54) dX2_insert_44 dX2_insert_45 (by omega) (by omega) (by decide) (fun c2 => ?_) (fun c2 => ?_)
      · rw [plc, if_neg (by omega)] at kk
        exact kk
      · refine aw_iinc dX2_insert_48 rfl (by decide) ?_
        refine aw_goto (tgt := 30) dX2_insert_51 (by decide) ?_
        rw [plc, if_pos (by omega)] at kk
        have := ih (by omega) kk
        have e2 : ((p + 1 : Nat) : Int) + -1 = (p : Int) := by omega
        show AW mX2_insert R Z 0 0 n h 30 [some (aR r), some (aL x), none, some (aI (((p + 1 : Nat) : Int) + -1)), L4] []
        rw [e2]
        exact this
theorem ins_l2 {R : Room} {Z : AZ} {f : Nat → Int} {p : Nat} {x : Int} (hr : h r = aO 2 [aR a, aI (l.length : Int)]) (hl8 : l.length < 8) (hne : r ≠ a) (hp : p ≤ l.length)
    (kk : ∀ h', h' r = h r → (∃ g, h' a = aA 0 8 g ∧ ∀ i, i ≤ l.length → i ≠ p → g i = if i < p then f i else f (i - 1)) → (∀ j, j ≠ r → j ≠ a → h' j = h j) → ∀ L4, AW mX2_insert R Z 0 0 n h' 110 [some (aR r), some (aL x), none, some (aI (p : Int)), L4] []) :
    ∀ (e : Nat), p ≤ e → e ≤ l.length → ∀ h1, h1 r = h r → (∃ g, h1 a = aA 0 8 g ∧ ∀ i, i ≤ l.length → (i < e → g i = f i) ∧ (e < i → g i = f (i - 1)) ∧ (i = e → e < l.length ∨ i = p → True)) → (∀ j, j ≠ r → j ≠ a → h1 j = h j) → (∀ g, h1 a = aA 0 8 g → e = l.length → True) → AW mX2_insert R Z 0 0 n h1 82 [some (aR r), some (aL x), none, some (aI (p : Int)), some (aI (e : Int))] [] := by
  intro e
  induction e with
  | zero =>
    intro he hel h1 hr1 ⟨g, hg, hgi⟩ hfr _
    refine aw_iload dX2_insert_82 rfl ?_
    refine aw_iload_n dX2_insert_84 rfl ?_
    -- at 85: .if_icmp .le 25
    refine aw_icmp_le (tgt := 110) dX2_insert_85 (by omega) (by omega) (by decide) (fun c1 => ?_) (fun c1 => ?_)
    · refine kk h1 hr1 ⟨g, hg, fun i hi hip => ?_⟩ hfr _
      have := hgi i hi
      rw [if_neg (by omega)]
      exact this.2.1 (by omega)
    · omega
  | succ e ih =>
    intro he hel h1 hr1 ⟨g, hg, hgi⟩ hfr _
    have hr1' := hr1.trans hr
    refine aw_iload dX2_insert_82 rfl ?_
    refine aw_iload_n dX2_insert_84 rfl ?_
    -- at 85: .if_icmp .le 25
    refine aw_icmp_le (tgt := 110) dX2_insert_85 (by omega) (by omega) (by decide) (fun c1 => ?_) (fun c1 => ?_)
    · refine kk h1 hr1 ⟨g, hg, fun i hi hip => ?_⟩ hfr _
      have := hgi i hi
      by_cases q : i < p
      · rw [if_pos q]; exact this.1 (by omega)
      · rw [if_neg q]; exact this.2.1 (by omega)
    · refine aw_aload_n dX2_insert_88 rfl ?_
      refine aw_get kg_X2_9 (by assumption) (by rfl) dX2_insert_89 ?_
      refine aw_iload dX2_insert_92 rfl ?_
      refine aw_aload_n dX2_insert_94 rfl ?_
      refine aw_get kg_X2_9 (by assumption) (by rfl) dX2_insert_95 ?_
      refine aw_iload dX2_insert_98 rfl ?_
      refine aw_iconst dX2_insert_100 ?_
      refine aw_isub dX2_insert_101 ?_
      refine aw_iald (by assumption) (by omega) dX2_insert_102 ?_
      -- at 103: .iastore
      refine aw_iastO (by assumption) (by omega) dX2_insert_103 (fun h2 ha2 hf2 => ?_)
      refine aw_iinc dX2_insert_104 rfl (by decide) ?_
      refine aw_goto (tgt := 82) dX2_insert_107 (by decide) ?_
      have := ih (by omega) (by omega) h2 ((hf2 r hne).trans hr1) ⟨_, ha2, fun i hi => ⟨fun q => ?_, fun q => ?_, fun _ _ => trivial⟩⟩ (fun j g1 g2 => (hf2 j g2).trans (hfr j g1 g2)) (fun _ _ _ => trivial)
      · have e2 : ((e + 1 : Nat) : Int) + -1 = (e : Int) := by omega
        show AW mX2_insert R Z 0 0 n h2 82 [some (aR r), some (aL x), none, some (aI (p : Int)), some (aI (((e + 1 : Nat) : Int) + -1))] []
        rw [e2]
        exact this
      · rw [va_up_n _ _ _ (by omega)]
        exact (hgi i hi).1 (by omega)
      · by_cases q2 : i = e + 1
        · subst q2
          have e3 : (((e + 1 : Nat) : Int)).toNat = e + 1 := by omega
          have e4 : (((e + 1 : Nat) : Int) - 1).toNat = e := by omega
          rw [e3, e4, va_up_s]
          exact (hgi e (by omega)).1 (by omega)
        · rw [va_up_n _ _ _ (by omega)]
          exact (hgi i hi).2.1 (by omega)
theorem c_Row_insert {x : Int} (hx : -9223372036854775808 ≤ x ∧ x ≤ 9223372036854775807) (H : isRow h r a l) (hl : inRow l) : AC mX2_insert d 0 0 n h [aR r, aL x] (aqi n fun v h' => (insOK l x ∧ v = 1 ∧ isRow h' r a (insL l x) ∧ ∀ j, j ≠ r → j ≠ a → h' j = h j) ∨ (¬ insOK l x ∧ v = 0 ∧ h' = h)) := by
  refine AC.of (by decide) (Nat.le_of_ble_eq_true rfl) ?_
  have H0 := H
  have hne := H.ne
  obtain ⟨hr, f, ha, hf⟩ := H
  have hl8 := hl.1
  refine aw_lload_n dX2_insert_0 rfl ?_
  refine aw_lconst (a := 1) dX2_insert_1 (by decide) ?_
  -- at 2: .lcmp
  refine aw_lcmp_lt (tgt := 23) dX2_insert_2 dX2_insert_3 (by omega) (by omega) (by decide) (fun c1 => ?_) (fun c1 => ?_)
  · refine aw_iconst dX2_insert_23 ?_
    -- at 24: .ireturn
    exact aw_zret rfl dX2_insert_24 (by omega) ⟨rfl, _, rfl, Or.inr ⟨fun q => by have := q.1; omega, rfl, rfl⟩⟩
  · refine aw_lload_n dX2_insert_6 rfl ?_
    refine aw_ldc2 kl_X2_29 dX2_insert_7 ?_
    -- at 10: .lcmp
    refine aw_lcmp_gt (tgt := 23) dX2_insert_10 dX2_insert_11 (by omega) (by omega) (by decide) (fun c2 => ?_) (fun c2 => ?_)
    · refine aw_iconst dX2_insert_23 ?_
      -- at 24: .ireturn
      exact aw_zret rfl dX2_insert_24 (by omega) ⟨rfl, _, rfl, Or.inr ⟨fun q => by have := q.2.1; omega, rfl, rfl⟩⟩
    · refine aw_aload_n dX2_insert_14 rfl ?_
      refine aw_get kg_X2_15 (by assumption) (by rfl) dX2_insert_15 ?_
      refine aw_bipush dX2_insert_18 (by decide) ?_
      -- at 20: .if_icmp .lt 5
      refine aw_icmp_lt (tgt := 25) dX2_insert_20 (by omega) (by omega) (by decide) (fun c3 => ?_) (fun c3 => ?_)
      · refine aw_aload_n dX2_insert_25 rfl ?_
        refine aw_get kg_X2_15 (by assumption) (by rfl) dX2_insert_26 ?_
        refine aw_istore_n dX2_insert_29 (by decide) ?_
        have hpl := plc_le l x l.length
        have epl : plL l x = plc l x l.length := rfl
        refine ins_l1 hr ha hf hl (by omega) l.length (Nat.le_refl _) ?_
        refine aw_iload_n dX2_insert_54 rfl ?_
        refine aw_aload_n dX2_insert_55 rfl ?_
        refine aw_get kg_X2_15 (by assumption) (by rfl) dX2_insert_56 ?_
        -- at 59: .if_icmp .ge 17
        have K76 : ¬ (plL l x < l.length ∧ l.getD (plL l x) 0 = x) → AW mX2_insert (am_R d 0 0) (am_Z (aqi n fun v h' => (insOK l x ∧ v = 1 ∧ isRow h' r a (insL l x) ∧ ∀ j, j ≠ r → j ≠ a → h' j = h j) ∨ (¬ insOK l x ∧ v = 0 ∧ h' = h)) 0 0) 0 0 n h 76 [some (aR r), some (aL x), none, some (aI (plc l x l.length : Int)), none] [] := by
          intro hno
          refine aw_aload_n dX2_insert_76 rfl ?_
          refine aw_get kg_X2_15 (by assumption) (by rfl) dX2_insert_77 ?_
          refine aw_istore dX2_insert_80 (by decide) ?_
          refine ins_l2 (l := l) (h := h) (f := f) hr (by omega) hne hpl (fun h' hr' ⟨g, hg, hgi⟩ hfr L4 => ?_) l.length hpl (Nat.le_refl _) h rfl ⟨f, ha, fun i hi => ⟨fun _ => rfl, fun q => by omega, fun _ _ => trivial⟩⟩ (fun _ _ _ => rfl) (fun _ _ _ => trivial)
          have hr' := hr'.trans hr
          refine aw_aload_n dX2_insert_110 rfl ?_
          refine aw_get kg_X2_9 (by assumption) (by rfl) dX2_insert_111 ?_
          refine aw_iload_n dX2_insert_114 rfl ?_
          refine aw_lload_n dX2_insert_115 rfl ?_
          refine aw_l2i dX2_insert_116 ?_
          -- at 117: .iastore
          refine aw_iastO (by assumption) (by omega) dX2_insert_117 (fun h2 ha2 hf2 => ?_)
          have hr2 := (hf2 r hne).trans hr'
          refine aw_aload_n dX2_insert_118 rfl ?_
          refine aw_dup dX2_insert_119 rfl ?_
          refine aw_get kg_X2_15 (by assumption) (by rfl) dX2_insert_120 ?_
          refine aw_iconst dX2_insert_123 ?_
          refine aw_iadd dX2_insert_124 ?_
          -- at 125: .putfield 15
          refine aw_putO kp_X2_15 (by assumption) (by simp) (aw_ni _) dX2_insert_125 (fun h3 hr3 hf3 => ?_)
          refine aw_iconst dX2_insert_128 ?_
          -- at 129: .ireturn
          refine aw_zret rfl dX2_insert_129 (by omega) ⟨rfl, _, rfl, Or.inl ⟨⟨by omega, by omega, by omega, hno⟩, rfl, ⟨?_, _, (hf3 a hne.symm).trans ha2, fun i hi => ?_⟩, fun j g1 g2 => (hf3 j g1).trans ((hf2 j g2).trans (hfr j g1 g2))⟩⟩
          · rw [hr3, insL_len]
            rfl
          · rw [insL_len] at hi
            rw [insL_gd]
            have ep : ((plc l x l.length : Nat) : Int).toNat = plL l x := by simp [plL]
            rw [ep]
            by_cases q : i = plL l x
            · rw [q, va_up_s, if_neg (by omega), if_pos rfl]
            · rw [va_up_n _ _ _ q, hgi i (by omega) q]
              by_cases q2 : i < plL l x
              · rw [if_pos q2, if_pos q2]
                exact hf i (by omega)
              · rw [if_neg q2, if_neg q2, if_neg q]
                exact hf (i - 1) (by omega)
        refine aw_icmp_ge (tgt := 76) dX2_insert_59 (by omega) (by omega) (by decide) (fun c4 => ?_) (fun c4 => ?_)
        · exact K76 (by omega)
        · refine aw_aload_n dX2_insert_62 rfl ?_
          refine aw_get kg_X2_9 (by assumption) (by rfl) dX2_insert_63 ?_
          refine aw_iload_n dX2_insert_66 rfl ?_
          refine aw_iald (by assumption) (by omega) dX2_insert_67 ?_
          have hv := hl.2 (plL l x) (by omega)
          have ep : ((plc l x l.length : Nat) : Int).toNat = plL l x := by simp [plL]
          refine aw_val (w := aI (l.getD (plL l x) 0)) (by rw [ep, hf _ (by omega)]) ?_
          refine aw_i2l dX2_insert_68 (by omega) ?_
          refine aw_lload_n dX2_insert_69 rfl ?_
          -- at 70: .lcmp
          refine aw_lcmp_ne (tgt := 76) dX2_insert_70 dX2_insert_71 (by omega) (by omega) (by decide) (fun c5 => ?_) (fun c5 => ?_)
          · exact K76 (by omega)
          · refine aw_iconst dX2_insert_74 ?_
            -- at 75: .ireturn
            exact aw_zret rfl dX2_insert_75 (by omega) ⟨rfl, _, rfl, Or.inr ⟨fun q => q.2.2.2 ⟨by omega, by omega⟩, rfl, rfl⟩⟩
      · refine aw_iconst dX2_insert_23 ?_
        -- at 24: .ireturn
        exact aw_zret rfl dX2_insert_24 (by omega) ⟨rfl, _, rfl, Or.inr ⟨fun q => by have := q.2.2.1; omega, rfl, rfl⟩⟩
end Row
