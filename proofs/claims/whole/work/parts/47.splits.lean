/-! the class: splits, joins -/
theorem plc_ge (l : List Int) (x : Int) : ∀ (p i : Nat), plc l x p ≤ i → i < p → x ≤ l.getD i 0
  | 0, i, _, h => by omega
  | p + 1, i, h1, h2 => by
    unfold plc at h1
    by_cases z : x ≤ l.getD p 0
    · rw [if_pos z] at h1
      by_cases e : i = p
      · rw [e]; exact z
      · exact plc_ge l x p i h1 (by omega)
    · rw [if_neg z] at h1
      omega
theorem plc_lt (l : List Int) (x : Int) : ∀ (p : Nat), plc l x p = 0 ∨ l.getD (plc l x p - 1) 0 < x
  | 0 => Or.inl rfl
  | p + 1 => by
    unfold plc
    by_cases z : x ≤ l.getD p 0
    · rw [if_pos z]; exact plc_lt l x p
    · rw [if_neg z]
      right
      rw [Nat.add_sub_cancel]
      omega
theorem plL_lt {l : List Int} {x : Int} (hr : rising l) {i : Nat} (hi : i < plL l x) : l.getD i 0 < x := by
  have hle := plc_le l x l.length
  rcases plc_lt l x l.length with z | z
  · have : plL l x = 0 := z
    omega
  · have e : plL l x = plc l x l.length := rfl
    by_cases y : i = plc l x l.length - 1
    · rw [y]; exact z
    · have := hr i (plc l x l.length - 1) (by omega) (by omega)
      omega
theorem insOK_iff {l : List Int} {x : Int} (hr : rising l) : insOK l x ↔ (1 ≤ x ∧ x ≤ 1000000) ∧ l.length < 8 ∧ ∀ i, i < l.length → l.getD i 0 ≠ x := by
  have hle := plc_le l x l.length
  have e0 : plL l x = plc l x l.length := rfl
  constructor
  · rintro ⟨h1, h2, h3, h4⟩
    refine ⟨⟨h1, h2⟩, h3, fun i hi e => ?_⟩
    by_cases z : i < plL l x
    · have := plL_lt hr z; omega
    · by_cases y : i = plL l x
      · exact h4 ⟨by omega, by rw [← y]; exact e⟩
      · have a1 := plc_ge l x l.length (plL l x) (Nat.le_refl _) (by omega)
        have a2 := hr (plL l x) i (by omega) hi
        omega
  · rintro ⟨⟨h1, h2⟩, h3, h4⟩
    exact ⟨h1, h2, h3, fun z => h4 _ z.1 z.2⟩
theorem okRow.ins {l : List Int} {x : Int} (h : okRow l) (hx : insOK l x) : okRow (insL l x) := by
  obtain ⟨⟨h1, h2⟩, hr⟩ := h
  obtain ⟨⟨x1, x2⟩, x3, x4⟩ := (insOK_iff hr).mp hx
  have hle := plc_le l x l.length
  have e0 : plL l x = plc l x l.length := rfl
  have gt : ∀ i, plL l x ≤ i → i < l.length → x < l.getD i 0 := by
    intro i i1 i2
    have a1 := plc_ge l x l.length i i1 i2
    have a2 := x4 i i2
    omega
  refine ⟨⟨by rw [insL_len]; omega, fun i hi => ?_⟩, fun i j hij hj => ?_⟩
  · rw [insL_len] at hi
    rw [insL_gd]
    split
    · exact h2 i (by omega)
    · split
      · omega
      · exact h2 _ (by omega)
  · rw [insL_len] at hj
    rw [insL_gd, insL_gd]
    by_cases i1 : i < plL l x
    · have a1 := plL_lt hr i1
      rw [if_pos i1]
      by_cases j1 : j < plL l x
      · rw [if_pos j1]; exact hr i j hij (by omega)
      · rw [if_neg j1]
        by_cases j2 : j = plL l x
        · rw [if_pos j2]; exact a1
        · rw [if_neg j2]
          have := gt (j - 1) (by omega) (by omega)
          omega
    · rw [if_neg i1, if_neg (show ¬ j < plL l x by omega), if_neg (show ¬ j = plL l x by omega)]
      by_cases i2 : i = plL l x
      · rw [if_pos i2]
        exact gt (j - 1) (by omega) (by omega)
      · rw [if_neg i2]
        exact hr (i - 1) (j - 1) (by omega) (by omega)
theorem okRow.erase {l : List Int} (h : okRow l) (k : Nat) : okRow (l.eraseIdx k) := by
  obtain ⟨⟨h1, h2⟩, hr⟩ := h
  have hlen : (l.eraseIdx k).length = if k < l.length then l.length - 1 else l.length := List.length_eraseIdx
  by_cases z : k < l.length
  · rw [if_pos z] at hlen
    refine ⟨⟨by omega, fun i hi => ?_⟩, fun i j hij hj => ?_⟩
    · rw [gd_erase]
      split
      · exact h2 i (by omega)
      · exact h2 _ (by omega)
    · rw [gd_erase, gd_erase]
      split
      · split
        · exact hr _ _ (by omega) (by omega)
        · exact hr _ _ (by omega) (by omega)
      · rw [if_neg (by omega)]
        exact hr _ _ (by omega) (by omega)
  · rw [List.eraseIdx_of_length_le (by omega)]
    exact ⟨⟨h1, h2⟩, hr⟩
def insB (l : List Int) (x : Int) : Bool := decide (1 ≤ x ∧ x ≤ 1000000 ∧ l.length < 8 ∧ ¬ (plL l x < l.length ∧ l.getD (plL l x) 0 = x))
theorem insB_iff {l : List Int} {x : Int} : insB l x = true ↔ insOK l x := decide_eq_true_iff
def insAll : List Int → List Int → Option (List Int)
  | l, [] => some l
  | l, x :: xs => bif insB l x then insAll (insL l x) xs else none
theorem insAll_ok : ∀ (xs l l' : List Int), okRow l → insAll l xs = some l' → okRow l'
  | [], l, l', h, e => by rw [insAll] at e; cases e; exact h
  | x :: xs, l, l', h, e => by
    rw [insAll] at e
    cases hb : insB l x with
    | false => rw [hb] at e; cases e
    | true => rw [hb] at e; exact insAll_ok xs _ l' (h.ins (insB_iff.mp hb)) e
def prt (D rule : Int) : Option (List Int) := if rule = 0 then some [D + 1, D * (D + 1)] else if rule = 1 then (if D % 2 = 0 then some [D / 2 * 3, D * 3] else none) else if rule = 2 then (if D % 3 = 0 then some [D / 3 * 4, D * 4] else none) else some [D * 2, D * 3, D * 6]
def splitS (l : List Int) (D rule : Int) : Option (List Int) := match prt D rule with
  | none => none
  | some xs => insAll l xs
def joinC (a b : Int) : Int := if a * b % (a + b) = 0 then a * b / (a + b) else -9
def splitsF (k rule : Int) : WS → Int × WS := fun s => if (0 ≤ k ∧ k < s.2.2.1.length) ∧ 0 ≤ rule ∧ rule ≤ 3 then (match splitS (s.2.2.1.eraseIdx k.toNat) (s.2.2.1.getD k.toNat 0) rule with | none => (-2, s) | some l => ((l.length : Int), takeF l s)) else (-1, s)
def joinsF (j k : Int) : WS → Int × WS := fun s => if (0 ≤ j ∧ j < s.2.2.1.length) ∧ (0 ≤ k ∧ k < s.2.2.1.length) ∧ j ≠ k then (match insAll ((s.2.2.1.eraseIdx (if j < k then k else j).toNat).eraseIdx (if j < k then j else k).toNat) [joinC (s.2.2.1.getD j.toNat 0) (s.2.2.1.getD k.toNat 0)] with | none => (-2, s) | some l => (joinC (s.2.2.1.getD j.toNat 0) (s.2.2.1.getD k.toNat 0), takeF l s)) else (-1, s)
section Splits
variable {d n : Nat} {h : AH} {s : WS}
/-- a row after what was put in, or not -/
def inQ (h : AH) (r ra : Nat) (res : Option (List Int)) (v : Int) (h' : AH) : Prop := (∀ j, j ≠ r → j ≠ ra → h' j = h j) ∧ ((v = 1 ∧ ∃ l, res = some l ∧ isRow h' r ra l ∧ okRow l) ∨ (v = 0 ∧ res = none ∧ ∃ l, isRow h' r ra l ∧ inRow l))
theorem ins_conv {h' : AH} {r ra : Nat} {l : List Int} {x v : Int} (hl : okRow l) (q : (insOK l x ∧ v = 1 ∧ isRow h' r ra (insL l x) ∧ ∀ j, j ≠ r → j ≠ ra → h' j = h j) ∨ (¬ insOK l x ∧ v = 0 ∧ h' = h)) : (insB l x = true ∧ v = 1 ∧ isRow h' r ra (insL l x) ∧ okRow (insL l x) ∧ ∀ j, j ≠ r → j ≠ ra → h' j = h j) ∨ (insB l x = false ∧ v = 0 ∧ h' = h) := by
  rcases q with ⟨q1, q2, q3, q4⟩ | ⟨q1, q2, q3⟩
  · exact Or.inl ⟨insB_iff.mpr q1, q2, q3, hl.ins q1, q4⟩
  · refine Or.inr ⟨?_, q2, q3⟩
    cases hb : insB l x with
    | false => rfl
    | true => exact absurd (insB_iff.mp hb) q1
theorem c_splitInto {r ra : Nat} {l : List Int} {D rule : Int} (hD : 1 ≤ D ∧ D ≤ 1000000) (hr : 0 ≤ rule ∧ rule ≤ 3) (H : isRow h r ra l) (hl : okRow l) : AC mX5_splitInto (d + 1) 0 0 n h [aR r, aL D, aI rule] (aqi n fun v h' => inQ h r ra (splitS l D rule) v h') := by
  refine AC.of (by decide) (Nat.le_of_ble_eq_true rfl) ?_
  have hr0 := H.1
  have dd : 0 ≤ D * (D + 1) ∧ D * (D + 1) ≤ 1000000 * 1000001 := ⟨Int.mul_nonneg (by omega) (by omega), Int.mul_le_mul (by omega) (by omega) (by omega) (by omega)⟩
  refine aw_iload_n dX5_splitInto_0 rfl ?_
  -- at 1: .tableswitch 189 0 3 #[31, 59, 103, 147]
  by_cases z0 : rule = 0
  · subst z0
    have e : splitS l D 0 = insAll l [D + 1, D * (D + 1)] := rfl
    rw [e, insAll]
    refine aw_tableIn (tgt := 32) dX5_splitInto_1 (by decide) (by decide) (by decide) rfl (by decide) ?_
    refine aw_aload_n dX5_splitInto_32 rfl ?_
    refine aw_lload_n dX5_splitInto_33 rfl ?_
    refine aw_lconst (a := 1) dX5_splitInto_34 (by decide) ?_
    refine aw_ladd dX5_splitInto_35 ?_
    -- at 36: .invokevirtual 117
    refine aw_Vi1 kc_X5_117 (c_Row_insert (d := d) (by omega) H hl.1) (by assumption) rfl rfl (by omega) (Nat.le_of_ble_eq_true rfl) dX5_splitInto_36 (fun v h1 qa => ?_)
    rcases ins_conv hl qa with ⟨q1, rfl, q2, q3, q4⟩ | ⟨q1, rfl, rfl⟩
    · rw [q1, cond_true, insAll]
      have hr1 := q2.1
      refine aw_if_eq (tgt := 58) dX5_splitInto_39 (by omega) (by decide) (fun c1 => ?_) (fun c1 => ?_)
      · omega
      · refine aw_aload_n dX5_splitInto_42 rfl ?_
        refine aw_lload_n dX5_splitInto_43 rfl ?_
        refine aw_lload_n dX5_splitInto_44 rfl ?_
        refine aw_lconst (a := 1) dX5_splitInto_45 (by decide) ?_
        refine aw_ladd dX5_splitInto_46 ?_
        refine aw_lmul dX5_splitInto_47 ?_
        -- at 48: .invokevirtual 117
        refine aw_Vi1 kc_X5_117 (c_Row_insert (d := d) (by omega) q2 q3.1) (by assumption) rfl rfl (by omega) (Nat.le_of_ble_eq_true rfl) dX5_splitInto_48 (fun v h2 qb => ?_)
        rcases ins_conv q3 qb with ⟨q5, rfl, q6, q7, q8⟩ | ⟨q5, rfl, rfl⟩
        · rw [q5, cond_true, insAll]
          refine aw_if_eq (tgt := 58) dX5_splitInto_51 (by omega) (by decide) (fun c2 => ?_) (fun c2 => ?_)
          · omega
          · refine aw_iconst dX5_splitInto_54 ?_
            refine aw_goto (tgt := 59) dX5_splitInto_55 (by decide) ?_
            -- at 59: .ireturn
            exact aw_zret rfl dX5_splitInto_59 (by omega) ⟨rfl, _, rfl, fun j j1 j2 => (q8 j j1 j2).trans (q4 j j1 j2), Or.inl ⟨rfl, _, rfl, q6, q7⟩⟩
        · rw [q5, cond_false]
          refine aw_if_eq (tgt := 58) dX5_splitInto_51 (by omega) (by decide) (fun c2 => ?_) (fun c2 => ?_)
          · refine aw_iconst dX5_splitInto_58 ?_
            -- at 59: .ireturn
            exact aw_zret rfl dX5_splitInto_59 (by omega) ⟨rfl, _, rfl, q4, Or.inr ⟨rfl, rfl, _, q2, q3.1⟩⟩
          · omega
    · rw [q1, cond_false]
      refine aw_if_eq (tgt := 58) dX5_splitInto_39 (by omega) (by decide) (fun c1 => ?_) (fun c1 => ?_)
      · refine aw_iconst dX5_splitInto_58 ?_
        -- at 59: .ireturn
        exact aw_zret rfl dX5_splitInto_59 (by omega) ⟨rfl, _, rfl, fun _ _ _ => rfl, Or.inr ⟨rfl, rfl, _, H, hl.1⟩⟩
      · omega
  by_cases z1 : rule = 1
  · subst z1
    refine aw_tableIn (tgt := 60) dX5_splitInto_1 (by decide) (by decide) (by decide) rfl (by decide) ?_
    refine aw_lload_n dX5_splitInto_60 rfl ?_
    refine aw_ldc2 kl_X5_204 dX5_splitInto_61 ?_
    refine aw_lrem dX5_splitInto_64 (by omega) (by omega) ?_
    refine aw_lconst (a := 0) dX5_splitInto_65 (by decide) ?_
    -- at 66: .lcmp
    refine aw_lcmp_ne (tgt := 102) dX5_splitInto_66 dX5_splitInto_67 (by omega) (by omega) (by decide) (fun c0 => ?_) (fun c0 => ?_)
    · have e : splitS l D 1 = none := by
        unfold splitS prt
        rw [if_neg (by omega), if_pos rfl, if_neg c0]
      rw [e]
      refine aw_iconst dX5_splitInto_102 ?_
      -- at 103: .ireturn
      exact aw_zret rfl dX5_splitInto_103 (by omega) ⟨rfl, _, rfl, fun _ _ _ => rfl, Or.inr ⟨rfl, rfl, _, H, hl.1⟩⟩
    · have e : splitS l D 1 = insAll l [D / 2 * 3, D * 3] := by
        unfold splitS prt
        rw [if_neg (by omega), if_pos rfl, if_pos (by omega)]
      rw [e, insAll]
      refine aw_aload_n dX5_splitInto_70 rfl ?_
      refine aw_lload_n dX5_splitInto_71 rfl ?_
      refine aw_ldc2 kl_X5_204 dX5_splitInto_72 ?_
      refine aw_ldiv dX5_splitInto_75 (by omega) (by omega) ?_
      refine aw_ldc2 kl_X5_206 dX5_splitInto_76 ?_
      refine aw_lmul dX5_splitInto_79 ?_
      -- at 80: .invokevirtual 117
      refine aw_Vi1 kc_X5_117 (c_Row_insert (d := d) (by omega) H hl.1) (by assumption) rfl rfl (by omega) (Nat.le_of_ble_eq_true rfl) dX5_splitInto_80 (fun v h1 qa => ?_)
      rcases ins_conv hl qa with ⟨q1, rfl, q2, q3, q4⟩ | ⟨q1, rfl, rfl⟩
      · rw [q1, cond_true, insAll]
        have hr1 := q2.1
        refine aw_if_eq (tgt := 102) dX5_splitInto_83 (by omega) (by decide) (fun c1 => ?_) (fun c1 => ?_)
        · omega
        · refine aw_aload_n dX5_splitInto_86 rfl ?_
          refine aw_lload_n dX5_splitInto_87 rfl ?_
          refine aw_ldc2 kl_X5_206 dX5_splitInto_88 ?_
          refine aw_lmul dX5_splitInto_91 ?_
          -- at 92: .invokevirtual 117
          refine aw_Vi1 kc_X5_117 (c_Row_insert (d := d) (by omega) q2 q3.1) (by assumption) rfl rfl (by omega) (Nat.le_of_ble_eq_true rfl) dX5_splitInto_92 (fun v h2 qb => ?_)
          rcases ins_conv q3 qb with ⟨q5, rfl, q6, q7, q8⟩ | ⟨q5, rfl, rfl⟩
          · rw [q5, cond_true, insAll]
            refine aw_if_eq (tgt := 102) dX5_splitInto_95 (by omega) (by decide) (fun c2 => ?_) (fun c2 => ?_)
            · omega
            · refine aw_iconst dX5_splitInto_98 ?_
              refine aw_goto (tgt := 103) dX5_splitInto_99 (by decide) ?_
              -- at 103: .ireturn
              exact aw_zret rfl dX5_splitInto_103 (by omega) ⟨rfl, _, rfl, fun j j1 j2 => (q8 j j1 j2).trans (q4 j j1 j2), Or.inl ⟨rfl, _, rfl, q6, q7⟩⟩
          · rw [q5, cond_false]
            refine aw_if_eq (tgt := 102) dX5_splitInto_95 (by omega) (by decide) (fun c2 => ?_) (fun c2 => ?_)
            · refine aw_iconst dX5_splitInto_102 ?_
              -- at 103: .ireturn
              exact aw_zret rfl dX5_splitInto_103 (by omega) ⟨rfl, _, rfl, q4, Or.inr ⟨rfl, rfl, _, q2, q3.1⟩⟩
            · omega
      · rw [q1, cond_false]
        refine aw_if_eq (tgt := 102) dX5_splitInto_83 (by omega) (by decide) (fun c1 => ?_) (fun c1 => ?_)
        · refine aw_iconst dX5_splitInto_102 ?_
          -- at 103: .ireturn
          exact aw_zret rfl dX5_splitInto_103 (by omega) ⟨rfl, _, rfl, fun _ _ _ => rfl, Or.inr ⟨rfl, rfl, _, H, hl.1⟩⟩
        · omega
  by_cases z2 : rule = 2
  · subst z2
    refine aw_tableIn (tgt := 104) dX5_splitInto_1 (by decide) (by decide) (by decide) rfl (by decide) ?_
    refine aw_lload_n dX5_splitInto_104 rfl ?_
    refine aw_ldc2 kl_X5_206 dX5_splitInto_105 ?_
    refine aw_lrem dX5_splitInto_108 (by omega) (by omega) ?_
    refine aw_lconst (a := 0) dX5_splitInto_109 (by decide) ?_
    -- at 110: .lcmp
    refine aw_lcmp_ne (tgt := 146) dX5_splitInto_110 dX5_splitInto_111 (by omega) (by omega) (by decide) (fun c0 => ?_) (fun c0 => ?_)
    · have e : splitS l D 2 = none := by
        unfold splitS prt
        rw [if_neg (by omega), if_neg (by omega), if_pos rfl, if_neg c0]
      rw [e]
      refine aw_iconst dX5_splitInto_146 ?_
      -- at 147: .ireturn
      exact aw_zret rfl dX5_splitInto_147 (by omega) ⟨rfl, _, rfl, fun _ _ _ => rfl, Or.inr ⟨rfl, rfl, _, H, hl.1⟩⟩
    · have e : splitS l D 2 = insAll l [D / 3 * 4, D * 4] := by
        unfold splitS prt
        rw [if_neg (by omega), if_neg (by omega), if_pos rfl, if_pos (by omega)]
      rw [e, insAll]
      refine aw_aload_n dX5_splitInto_114 rfl ?_
      refine aw_lload_n dX5_splitInto_115 rfl ?_
      refine aw_ldc2 kl_X5_206 dX5_splitInto_116 ?_
      refine aw_ldiv dX5_splitInto_119 (by omega) (by omega) ?_
      refine aw_ldc2 kl_X5_208 dX5_splitInto_120 ?_
      refine aw_lmul dX5_splitInto_123 ?_
      -- at 124: .invokevirtual 117
      refine aw_Vi1 kc_X5_117 (c_Row_insert (d := d) (by omega) H hl.1) (by assumption) rfl rfl (by omega) (Nat.le_of_ble_eq_true rfl) dX5_splitInto_124 (fun v h1 qa => ?_)
      rcases ins_conv hl qa with ⟨q1, rfl, q2, q3, q4⟩ | ⟨q1, rfl, rfl⟩
      · rw [q1, cond_true, insAll]
        have hr1 := q2.1
        refine aw_if_eq (tgt := 146) dX5_splitInto_127 (by omega) (by decide) (fun c1 => ?_) (fun c1 => ?_)
        · omega
        · refine aw_aload_n dX5_splitInto_130 rfl ?_
          refine aw_lload_n dX5_splitInto_131 rfl ?_
          refine aw_ldc2 kl_X5_208 dX5_splitInto_132 ?_
          refine aw_lmul dX5_splitInto_135 ?_
          -- at 136: .invokevirtual 117
          refine aw_Vi1 kc_X5_117 (c_Row_insert (d := d) (by omega) q2 q3.1) (by assumption) rfl rfl (by omega) (Nat.le_of_ble_eq_true rfl) dX5_splitInto_136 (fun v h2 qb => ?_)
          rcases ins_conv q3 qb with ⟨q5, rfl, q6, q7, q8⟩ | ⟨q5, rfl, rfl⟩
          · rw [q5, cond_true, insAll]
            refine aw_if_eq (tgt := 146) dX5_splitInto_139 (by omega) (by decide) (fun c2 => ?_) (fun c2 => ?_)
            · omega
            · refine aw_iconst dX5_splitInto_142 ?_
              refine aw_goto (tgt := 147) dX5_splitInto_143 (by decide) ?_
              -- at 147: .ireturn
              exact aw_zret rfl dX5_splitInto_147 (by omega) ⟨rfl, _, rfl, fun j j1 j2 => (q8 j j1 j2).trans (q4 j j1 j2), Or.inl ⟨rfl, _, rfl, q6, q7⟩⟩
          · rw [q5, cond_false]
            refine aw_if_eq (tgt := 146) dX5_splitInto_139 (by omega) (by decide) (fun c2 => ?_) (fun c2 => ?_)
            · refine aw_iconst dX5_splitInto_146 ?_
              -- at 147: .ireturn
              exact aw_zret rfl dX5_splitInto_147 (by omega) ⟨rfl, _, rfl, q4, Or.inr ⟨rfl, rfl, _, q2, q3.1⟩⟩
            · omega
      · rw [q1, cond_false]
        refine aw_if_eq (tgt := 146) dX5_splitInto_127 (by omega) (by decide) (fun c1 => ?_) (fun c1 => ?_)
        · refine aw_iconst dX5_splitInto_146 ?_
          -- at 147: .ireturn
          exact aw_zret rfl dX5_splitInto_147 (by omega) ⟨rfl, _, rfl, fun _ _ _ => rfl, Or.inr ⟨rfl, rfl, _, H, hl.1⟩⟩
        · omega
  · have z3 : rule = 3 := by omega
    subst z3
    have e : splitS l D 3 = insAll l [D * 2, D * 3, D * 6] := rfl
    rw [e, insAll]
    refine aw_tableIn (tgt := 148) dX5_splitInto_1 (by decide) (by decide) (by decide) rfl (by decide) ?_
    refine aw_aload_n dX5_splitInto_148 rfl ?_
    refine aw_lload_n dX5_splitInto_149 rfl ?_
    refine aw_ldc2 kl_X5_204 dX5_splitInto_150 ?_
    refine aw_lmul dX5_splitInto_153 ?_
    -- at 154: .invokevirtual 117
    refine aw_Vi1 kc_X5_117 (c_Row_insert (d := d) (by omega) H hl.1) (by assumption) rfl rfl (by omega) (Nat.le_of_ble_eq_true rfl) dX5_splitInto_154 (fun v h1 qa => ?_)
    rcases ins_conv hl qa with ⟨q1, rfl, q2, q3, q4⟩ | ⟨q1, rfl, rfl⟩
    · rw [q1, cond_true, insAll]
      have hr1 := q2.1
      refine aw_if_eq (tgt := 188) dX5_splitInto_157 (by omega) (by decide) (fun c1 => ?_) (fun c1 => ?_)
      · omega
      · refine aw_aload_n dX5_splitInto_160 rfl ?_
        refine aw_lload_n dX5_splitInto_161 rfl ?_
        refine aw_ldc2 kl_X5_206 dX5_splitInto_162 ?_
        refine aw_lmul dX5_splitInto_165 ?_
        -- at 166: .invokevirtual 117
        refine aw_Vi1 kc_X5_117 (c_Row_insert (d := d) (by omega) q2 q3.1) (by assumption) rfl rfl (by omega) (Nat.le_of_ble_eq_true rfl) dX5_splitInto_166 (fun v h2 qb => ?_)
        rcases ins_conv q3 qb with ⟨q5, rfl, q6, q7, q8⟩ | ⟨q5, rfl, rfl⟩
        · rw [q5, cond_true, insAll]
          have hr2 := q6.1
          refine aw_if_eq (tgt := 188) dX5_splitInto_169 (by omega) (by decide) (fun c2 => ?_) (fun c2 => ?_)
          · omega
          · refine aw_aload_n dX5_splitInto_172 rfl ?_
            refine aw_lload_n dX5_splitInto_173 rfl ?_
            refine aw_ldc2 kl_X5_210 dX5_splitInto_174 ?_
            refine aw_lmul dX5_splitInto_177 ?_
            -- at 178: .invokevirtual 117
            refine aw_Vi1 kc_X5_117 (c_Row_insert (d := d) (by omega) q6 q7.1) (by assumption) rfl rfl (by omega) (Nat.le_of_ble_eq_true rfl) dX5_splitInto_178 (fun v h3 qc => ?_)
            rcases ins_conv q7 qc with ⟨q9, rfl, q10, q11, q12⟩ | ⟨q9, rfl, rfl⟩
            · rw [q9, cond_true, insAll]
              refine aw_if_eq (tgt := 188) dX5_splitInto_181 (by omega) (by decide) (fun c3 => ?_) (fun c3 => ?_)
              · omega
              · refine aw_iconst dX5_splitInto_184 ?_
                refine aw_goto (tgt := 189) dX5_splitInto_185 (by decide) ?_
                -- at 189: .ireturn
                exact aw_zret rfl dX5_splitInto_189 (by omega) ⟨rfl, _, rfl, fun j j1 j2 => (q12 j j1 j2).trans ((q8 j j1 j2).trans (q4 j j1 j2)), Or.inl ⟨rfl, _, rfl, q10, q11⟩⟩
            · rw [q9, cond_false]
              refine aw_if_eq (tgt := 188) dX5_splitInto_181 (by omega) (by decide) (fun c3 => ?_) (fun c3 => ?_)
              · refine aw_iconst dX5_splitInto_188 ?_
                -- at 189: .ireturn
                exact aw_zret rfl dX5_splitInto_189 (by omega) ⟨rfl, _, rfl, fun j j1 j2 => (q8 j j1 j2).trans (q4 j j1 j2), Or.inr ⟨rfl, rfl, _, q6, q7.1⟩⟩
              · omega
        · rw [q5, cond_false]
          refine aw_if_eq (tgt := 188) dX5_splitInto_169 (by omega) (by decide) (fun c2 => ?_) (fun c2 => ?_)
          · refine aw_iconst dX5_splitInto_188 ?_
            -- at 189: .ireturn
            exact aw_zret rfl dX5_splitInto_189 (by omega) ⟨rfl, _, rfl, q4, Or.inr ⟨rfl, rfl, _, q2, q3.1⟩⟩
          · omega
    · rw [q1, cond_false]
      refine aw_if_eq (tgt := 188) dX5_splitInto_157 (by omega) (by decide) (fun c1 => ?_) (fun c1 => ?_)
      · refine aw_iconst dX5_splitInto_188 ?_
        -- at 189: .ireturn
        exact aw_zret rfl dX5_splitInto_189 (by omega) ⟨rfl, _, rfl, fun _ _ _ => rfl, Or.inr ⟨rfl, rfl, _, H, hl.1⟩⟩
      · omega
theorem c_oneForTwo {a b : Int} (ha : 1 ≤ a ∧ a ≤ 1000000) (hb : 1 ≤ b ∧ b ≤ 1000000) : AC mX5_oneForTwo d 0 0 n h [aL a, aL b] (aqi n fun v h' => v = joinC a b ∧ h' = h) := by
  refine AC.of (by decide) (Nat.le_of_ble_eq_true rfl) ?_
  obtain ⟨P, hP⟩ : ∃ P : Int, a * b = P := ⟨_, rfl⟩
  have rP : 0 ≤ P ∧ P ≤ 1000000 * 1000000 := by
    rw [← hP]
    exact ⟨Int.mul_nonneg (by omega) (by omega), Int.mul_le_mul (by omega) (by omega) (by omega) (by omega)⟩
  have m1 := Int.emod_nonneg P (show a + b ≠ 0 by omega)
  have m2 := Int.emod_lt_of_pos P (show 0 < a + b by omega)
  unfold joinC
  rw [hP]
  refine aw_lload_n dX5_oneForTwo_0 rfl ?_
  refine aw_lload_n dX5_oneForTwo_1 rfl ?_
  refine aw_ladd dX5_oneForTwo_2 ?_
  refine aw_lstore dX5_oneForTwo_3 (by decide) ?_
  refine aw_lload dX5_oneForTwo_5 rfl ?_
  refine aw_lconst (a := 0) dX5_oneForTwo_7 (by decide) ?_
  -- at 8: .lcmp
  refine aw_lcmp_le (tgt := 23) dX5_oneForTwo_8 dX5_oneForTwo_9 (by omega) (by omega) (by decide) (fun c1 => ?_) (fun c1 => ?_)
  · omega
  · refine aw_lload_n dX5_oneForTwo_12 rfl ?_
    refine aw_lload_n dX5_oneForTwo_13 rfl ?_
    refine aw_lmul dX5_oneForTwo_14 ?_
    refine aw_val (w := aL P) (by rw [hP]) ?_
    refine aw_lload dX5_oneForTwo_15 rfl ?_
    refine aw_lrem dX5_oneForTwo_17 (by omega) (by omega) ?_
    refine aw_lconst (a := 0) dX5_oneForTwo_18 (by decide) ?_
    -- at 19: .lcmp
    refine aw_lcmp_eq (tgt := 26) dX5_oneForTwo_19 dX5_oneForTwo_20 (by omega) (by omega) (by decide) (fun c2 => ?_) (fun c2 => ?_)
    · refine aw_lload_n dX5_oneForTwo_26 rfl ?_
      refine aw_lload_n dX5_oneForTwo_27 rfl ?_
      refine aw_lmul dX5_oneForTwo_28 ?_
      refine aw_val (w := aL P) (by rw [hP]) ?_
      refine aw_lload dX5_oneForTwo_29 rfl ?_
      refine aw_ldiv dX5_oneForTwo_31 (by omega) (by omega) ?_
      refine aw_l2i dX5_oneForTwo_32 ?_
      -- at 33: .ireturn
      exact aw_iret rfl dX5_oneForTwo_33 ⟨rfl, _, rfl, by rw [if_pos c2], rfl⟩
    · refine aw_bipush dX5_oneForTwo_23 (by decide) ?_
      -- at 25: .ireturn
      exact aw_iret rfl dX5_oneForTwo_25 ⟨rfl, _, rfl, by rw [if_neg c2], rfl⟩
theorem RC.draft {h' : AH} {l : List Int} (H : RC h s) (hf : ∀ j, j ≠ 4 → j ≠ 5 → h' j = h j) (HD : isRow h' 4 5 l) (hl : inRow l) : RC h' s := by
  obtain ⟨p, q, t, past, ⟨k0, i0⟩, ⟨k1, i1⟩, sn, tx⟩ := s
  obtain ⟨a1, a2, a3, a4, a5, a6, a7, a8⟩ := H
  exact ⟨(hf 1 (by omega) (by omega)).trans a1, a2.fr (hf 2 (by omega) (by omega)) (hf 3 (by omega) (by omega)), ⟨l, HD, hl⟩, a4.fr (fun j j1 j2 => hf j (by omega) (by omega)), a5.fr (fun j j1 j2 => hf j (by omega) (by omega)), a6.fr (fun j j1 j2 => hf j (by omega) (by omega)), a7.fr (fun j j1 j2 => hf j (by omega) (by omega)), a8.fr (fun j j1 j2 => hf j (by omega) (by omega))⟩
theorem c5_splits {k rule : Int} (hk : -2147483648 ≤ k ∧ k ≤ 2147483647) (hr : -2147483648 ≤ rule ∧ rule ≤ 2147483647) (H : RC h s) (ok : okS s) : AC mX5_splits (d + 20) 0 0 n h [aR 1, aI k, aI rule] (cQ n h (splitsF k rule s)) := by
  obtain ⟨p, q, t, past, ⟨k0, i0⟩, ⟨k1, i1⟩, sn, tx⟩ := s
  have H0 := H
  have ok0 := ok
  obtain ⟨a1, a2, ⟨l0, a3, a3'⟩, a4, a5, a6, a7, a8⟩ := H
  obtain ⟨o1, o2, o3, o4, o5, o6, o7⟩ := ok
  refine AC.of (by decide) (Nat.le_of_ble_eq_true rfl) ?_
  have b2 := a2.1
  have b3 := a3.1
  have bad : ∀ L, ¬ ((0 ≤ k ∧ k < t.length) ∧ 0 ≤ rule ∧ rule ≤ 3) → AW mX5_splits (am_R (d + 20) 0 0) (am_Z (cQ n h (splitsF k rule (p, q, t, past, (k0, i0), (k1, i1), sn, tx))) 0 0) 0 0 n h 20 L [] := by
    intro L z
    refine aw_iconst dX5_splits_20 ?_
    -- at 21: .ireturn
    refine aw_iret rfl dX5_splits_21 ⟨rfl, _, rfl, ?_⟩
    rw [splitsF, if_neg z]
    exact ⟨rfl, H0, fun _ _ => rfl⟩
  refine aw_aload_n dX5_splits_0 rfl ?_
  refine aw_get kg_X5_19 (by assumption) (by rfl) dX5_splits_1 ?_
  refine aw_iload_n dX5_splits_4 rfl ?_
  -- at 5: .invokevirtual 85
  refine aw_Vi1 kc_X5_85 (c_Row_reaches (d := d + 19) hk a2 o2.1) (by assumption) rfl rfl (by omega) (Nat.le_of_ble_eq_true rfl) dX5_splits_5 (fun v h1 q1 => ?_)
  obtain ⟨rfl, rfl⟩ := q1
  refine aw_flag_eq (tgt := 20) dX5_splits_8 (by decide) (fun c1 => ?_) (fun c1 => ?_)
  · exact bad _ (fun z => c1 z.1)
  · refine aw_iload_n dX5_splits_11 rfl ?_
    -- at 12: .ifCond .lt 8
    refine aw_if_lt (tgt := 20) dX5_splits_12 (by omega) (by decide) (fun c2 => ?_) (fun c2 => ?_)
    · exact bad _ (by omega)
    · refine aw_iload_n dX5_splits_15 rfl ?_
      refine aw_iconst dX5_splits_16 ?_
      -- at 17: .if_icmp .lt 5
      refine aw_icmp_lt (tgt := 22) dX5_splits_17 (by omega) (by omega) (by decide) (fun c3 => ?_) (fun c3 => ?_)
      rotate_left
      · exact bad _ (by omega)
      · obtain ⟨K, rfl⟩ : ∃ K : Nat, k = (K : Int) := ⟨k.toNat, by omega⟩
        have tv := o2.1.2 K (by omega)
        have es : splitsF (K : Int) rule (p, q, t, past, (k0, i0), (k1, i1), sn, tx) = match splitS (t.eraseIdx K) (t.getD K 0) rule with | none => (-2, (p, q, t, past, (k0, i0), (k1, i1), sn, tx)) | some l => ((l.length : Int), takeF l (p, q, t, past, (k0, i0), (k1, i1), sn, tx)) := by
          rw [splitsF, if_pos ⟨c1, by omega⟩]
          dsimp only
          rw [Int.toNat_natCast]
        refine aw_aload_n dX5_splits_22 rfl ?_
        refine aw_get kg_X5_23 (by assumption) (by rfl) dX5_splits_23 ?_
        refine aw_aload_n dX5_splits_26 rfl ?_
        refine aw_get kg_X5_19 (by assumption) (by rfl) dX5_splits_27 ?_
        -- at 30: .invokevirtual 88
        refine aw_Vv1 kc_X5_88 (c_Row_copy (d := d + 18) a3 a2 o2.1 (by omega) (by omega)) (by assumption) rfl rfl (by omega) (Nat.le_of_ble_eq_true rfl) dX5_splits_30 (fun h2 q1 => ?_)
        obtain ⟨q2, q3⟩ := q1
        have a1' := (q3 1 (by omega) (by omega)).trans a1
        have b3' := q2.1
        refine aw_aload_n dX5_splits_33 rfl ?_
        refine aw_get kg_X5_23 (by assumption) (by rfl) dX5_splits_34 ?_
        refine aw_iload_n dX5_splits_37 rfl ?_
        -- at 38: .invokevirtual 92
        refine aw_Vv1 kc_X5_92 (c_Row_drop (d := d + 18) hk q2 o2.1) (by assumption) rfl rfl (by omega) (Nat.le_of_ble_eq_true rfl) dX5_splits_38 (fun h3 q4 => ?_)
        obtain ⟨q5, q6⟩ := q4
        rw [if_pos c1, Int.toNat_natCast] at q5
        have fr3 : ∀ j, j ≠ 4 → j ≠ 5 → h3 j = h1 j := fun j j1 j2 => (q6 j j1 j2).trans (q3 j j1 j2)
        have a13 := (fr3 1 (by omega) (by omega)).trans a1
        have a23 := a2.fr (fr3 2 (by omega) (by omega)) (fr3 3 (by omega) (by omega))
        have b23 := a23.1
        refine aw_aload_n dX5_splits_41 rfl ?_
        refine aw_get kg_X5_23 (by assumption) (by rfl) dX5_splits_42 ?_
        refine aw_aload_n dX5_splits_45 rfl ?_
        refine aw_get kg_X5_19 (by assumption) (by rfl) dX5_splits_46 ?_
        refine aw_iload_n dX5_splits_49 rfl ?_
        -- at 50: .invokevirtual 96
        refine aw_Vi1 kc_X5_96 (c_Row_at (d := d + 18) hk a23 o2.1) (by assumption) rfl rfl (by omega) (Nat.le_of_ble_eq_true rfl) dX5_splits_50 (fun v h4 q7 => ?_)
        obtain ⟨rfl, rfl⟩ := q7
        rw [if_pos c1, Int.toNat_natCast]
        refine aw_i2l dX5_splits_53 (by omega) ?_
        refine aw_iload_n dX5_splits_54 rfl ?_
        -- at 55: .invokestatic 100
        refine aw_Si3 kc_X5_100 (c_splitInto (d := d + 18) tv (by omega) q5 (o2.erase K)) rfl (by omega) (Nat.le_of_ble_eq_true rfl) dX5_splits_55 (fun v h5 q8 => ?_)
        obtain ⟨q9, ⟨rfl, l, e, q10, q11⟩ | ⟨rfl, e, l, q10, q11⟩⟩ := q8
        · have RC5 := RC.draft H0 (fun j j1 j2 => (q9 j j1 j2).trans (fr3 j j1 j2)) q10 q11.1
          have a15 := RC5.1
          rw [e] at es
          refine aw_if_eq (tgt := 68) dX5_splits_58 (by omega) (by decide) (fun c4 => ?_) (fun c4 => ?_)
          · omega
          · refine aw_aload_n dX5_splits_61 rfl ?_
            -- at 62: .invokevirtual 82
            refine aw_Vi0 kc_X5_82 (c_takeDraft (d := d + 9) RC5 ok0 q10 q11.1) (by assumption) rfl rfl (by omega) (Nat.le_of_ble_eq_true rfl) dX5_splits_62 (fun v h6 q12 => ?_)
            obtain ⟨rfl, q13, q14⟩ := q12
            refine aw_goto (tgt := 70) dX5_splits_65 (by decide) ?_
            -- at 70: .ireturn
            refine aw_iret rfl dX5_splits_70 ⟨rfl, _, rfl, ?_⟩
            rw [es]
            exact ⟨rfl, q13, fun j hj => (q14 j hj).trans ((q9 j (by omega) (by omega)).trans (fr3 j (by omega) (by omega)))⟩
        · have RC5 := RC.draft H0 (fun j j1 j2 => (q9 j j1 j2).trans (fr3 j j1 j2)) q10 q11
          rw [e] at es
          refine aw_if_eq (tgt := 68) dX5_splits_58 (by omega) (by decide) (fun c4 => ?_) (fun c4 => ?_)
          · refine aw_bipush dX5_splits_68 (by decide) ?_
            -- at 70: .ireturn
            refine aw_iret rfl dX5_splits_70 ⟨rfl, _, rfl, ?_⟩
            rw [es]
            exact ⟨rfl, RC5, fun j hj => (q9 j (by omega) (by omega)).trans (fr3 j (by omega) (by omega))⟩
          · omega
theorem c5_joins {j k : Int} (hj : -2147483648 ≤ j ∧ j ≤ 2147483647) (hk : -2147483648 ≤ k ∧ k ≤ 2147483647) (H : RC h s) (ok : okS s) : AC mX5_joins (d + 20) 0 0 n h [aR 1, aI j, aI k] (cQ n h (joinsF j k s)) := by
  obtain ⟨p, q, t, past, ⟨k0, i0⟩, ⟨k1, i1⟩, sn, tx⟩ := s
  have H0 := H
  have ok0 := ok
  obtain ⟨a1, a2, ⟨l0, a3, a3'⟩, a4, a5, a6, a7, a8⟩ := H
  obtain ⟨o1, o2, o3, o4, o5, o6, o7⟩ := ok
  refine AC.of (by decide) (Nat.le_of_ble_eq_true rfl) ?_
  have b2 := a2.1
  have b3 := a3.1
  have bad : ∀ L, ¬ ((0 ≤ j ∧ j < t.length) ∧ (0 ≤ k ∧ k < t.length) ∧ j ≠ k) → AW mX5_joins (am_R (d + 20) 0 0) (am_Z (cQ n h (joinsF j k (p, q, t, past, (k0, i0), (k1, i1), sn, tx))) 0 0) 0 0 n h 27 L [] := by
    intro L z
    refine aw_iconst dX5_joins_27 ?_
    -- at 28: .ireturn
    refine aw_iret rfl dX5_joins_28 ⟨rfl, _, rfl, ?_⟩
    rw [joinsF, if_neg z]
    exact ⟨rfl, H0, fun _ _ => rfl⟩
  refine aw_aload_n dX5_joins_0 rfl ?_
  refine aw_get kg_X5_19 (by assumption) (by rfl) dX5_joins_1 ?_
  refine aw_iload_n dX5_joins_4 rfl ?_
  -- at 5: .invokevirtual 85
  refine aw_Vi1 kc_X5_85 (c_Row_reaches (d := d + 19) hj a2 o2.1) (by assumption) rfl rfl (by omega) (Nat.le_of_ble_eq_true rfl) dX5_joins_5 (fun v h1 q1 => ?_)
  obtain ⟨rfl, rfl⟩ := q1
  refine aw_flag_eq (tgt := 27) dX5_joins_8 (by decide) (fun c1 => ?_) (fun c1 => ?_)
  · exact bad _ (fun z => c1 z.1)
  · refine aw_aload_n dX5_joins_11 rfl ?_
    refine aw_get kg_X5_19 (by assumption) (by rfl) dX5_joins_12 ?_
    refine aw_iload_n dX5_joins_15 rfl ?_
    -- at 16: .invokevirtual 85
    refine aw_Vi1 kc_X5_85 (c_Row_reaches (d := d + 19) hk a2 o2.1) (by assumption) rfl rfl (by omega) (Nat.le_of_ble_eq_true rfl) dX5_joins_16 (fun v h1 q1 => ?_)
    obtain ⟨rfl, rfl⟩ := q1
    refine aw_flag_eq (tgt := 27) dX5_joins_19 (by decide) (fun c2 => ?_) (fun c2 => ?_)
    · exact bad _ (fun z => c2 z.2.1)
    · refine aw_iload_n dX5_joins_22 rfl ?_
      refine aw_iload_n dX5_joins_23 rfl ?_
      -- at 24: .if_icmp .ne 5
      refine aw_icmp_ne (tgt := 29) dX5_joins_24 (by omega) (by omega) (by decide) (fun c3 => ?_) (fun c3 => ?_)
      rotate_left
      · exact bad _ (fun z => c3 z.2.2)
      · have tj := o2.1.2 j.toNat (by omega)
        have tk := o2.1.2 k.toNat (by omega)
        obtain ⟨C, hC⟩ : ∃ C, C = joinC (t.getD j.toNat 0) (t.getD k.toNat 0) := ⟨_, rfl⟩
        have rC : -9 ≤ C ∧ C ≤ 1000000 := by
          rw [hC, joinC]
          split
          · have e1 := Int.mul_nonneg (show 0 ≤ t.getD j.toNat 0 by omega) (show 0 ≤ t.getD k.toNat 0 by omega)
            have e2 : 0 ≤ t.getD j.toNat 0 * t.getD k.toNat 0 / (t.getD j.toNat 0 + t.getD k.toNat 0) := Int.ediv_nonneg e1 (by omega)
            have e3 : t.getD j.toNat 0 * t.getD k.toNat 0 / (t.getD j.toNat 0 + t.getD k.toNat 0) ≤ t.getD j.toNat 0 := by
              apply Int.ediv_le_of_le_mul (by omega)
              exact Int.mul_le_mul_of_nonneg_left (by omega) (by omega)
            omega
          · omega
        obtain ⟨T2, hT2⟩ : ∃ T2, T2 = (t.eraseIdx (if j < k then k else j).toNat).eraseIdx (if j < k then j else k).toNat := ⟨_, rfl⟩
        have oT2 : okRow T2 := by rw [hT2]; exact (o2.erase _).erase _
        have es : joinsF j k (p, q, t, past, (k0, i0), (k1, i1), sn, tx) = match insAll T2 [C] with | none => (-2, (p, q, t, past, (k0, i0), (k1, i1), sn, tx)) | some l => (C, takeF l (p, q, t, past, (k0, i0), (k1, i1), sn, tx)) := by
          rw [joinsF, if_pos ⟨c1, c2, c3⟩]
          dsimp only
          rw [← hC, ← hT2]
        refine aw_aload_n dX5_joins_29 rfl ?_
        refine aw_get kg_X5_19 (by assumption) (by rfl) dX5_joins_30 ?_
        refine aw_iload_n dX5_joins_33 rfl ?_
        -- at 34: .invokevirtual 96
        refine aw_Vi1 kc_X5_96 (c_Row_at (d := d + 18) hj a2 o2.1) (by assumption) rfl rfl (by omega) (Nat.le_of_ble_eq_true rfl) dX5_joins_34 (fun v h2 q1 => ?_)
        obtain ⟨rfl, rfl⟩ := q1
        rw [if_pos c1]
        refine aw_i2l dX5_joins_37 (by omega) ?_
        refine aw_aload_n dX5_joins_38 rfl ?_
        refine aw_get kg_X5_19 (by assumption) (by rfl) dX5_joins_39 ?_
        refine aw_iload_n dX5_joins_42 rfl ?_
        -- at 43: .invokevirtual 96
        refine aw_Vi1 kc_X5_96 (c_Row_at (d := d + 18) hk a2 o2.1) (by assumption) rfl rfl (by omega) (Nat.le_of_ble_eq_true rfl) dX5_joins_43 (fun v h2 q1 => ?_)
        obtain ⟨rfl, rfl⟩ := q1
        rw [if_pos c2]
        refine aw_i2l dX5_joins_46 (by omega) ?_
        -- at 47: .invokestatic 104
        refine aw_Si2 kc_X5_104 (c_oneForTwo (d := d + 19) tj tk) rfl (by omega) (Nat.le_of_ble_eq_true rfl) dX5_joins_47 (fun v h2 q1 => ?_)
        obtain ⟨rfl, rfl⟩ := q1
        rw [← hC]
        refine aw_istore_n dX5_joins_50 (by decide) ?_
        refine aw_aload_n dX5_joins_51 rfl ?_
        refine aw_get kg_X5_23 (by assumption) (by rfl) dX5_joins_52 ?_
        refine aw_aload_n dX5_joins_55 rfl ?_
        refine aw_get kg_X5_19 (by assumption) (by rfl) dX5_joins_56 ?_
        -- at 59: .invokevirtual 88
        refine aw_Vv1 kc_X5_88 (c_Row_copy (d := d + 18) a3 a2 o2.1 (by omega) (by omega)) (by assumption) rfl rfl (by omega) (Nat.le_of_ble_eq_true rfl) dX5_joins_59 (fun h3 q1 => ?_)
        obtain ⟨q2, q3⟩ := q1
        have a13 := (q3 1 (by omega) (by omega)).trans a1
        have b33 := q2.1
        refine aw_aload_n dX5_joins_62 rfl ?_
        refine aw_get kg_X5_23 (by assumption) (by rfl) dX5_joins_63 ?_
        refine aw_iload_n dX5_joins_66 rfl ?_
        refine aw_iload_n dX5_joins_67 rfl ?_
        -- at 68: .invokestatic 108
        refine aw_mmax kc_X5_108 ks_Lib_Math_max_name ti_J9 kd_Lib_Math_max_name (by omega) (by omega) (Nat.le_of_ble_eq_true rfl) (by show 1 ≤ d + 20; omega) (by show 30 ≤ 64 * (d + 20); omega) (Nat.le_refl _) (Nat.le_refl _) dX5_joins_68 ?_
        refine aw_val (w := aI (if j < k then k else j)) (by congr 1) ?_
        have rmx : 0 ≤ (if j < k then k else j) ∧ (if j < k then k else j) < (t.length : Int) := by split <;> omega
        have rmn : 0 ≤ (if j < k then j else k) ∧ (if j < k then j else k) < (t.length : Int) - 1 := by split <;> omega
        have t8 := o2.1.1
        refine aw_Vv1 kc_X5_92 (c_Row_drop (d := d + 18) (by omega) q2 o2.1) (by assumption) rfl rfl (by omega) (Nat.le_of_ble_eq_true rfl) dX5_joins_71 (fun h4 q4 => ?_)
        obtain ⟨q5, q6⟩ := q4
        rw [if_pos rmx] at q5
        have len1 : (t.eraseIdx (if j < k then k else j).toNat).length = t.length - 1 := by rw [List.length_eraseIdx, if_pos (by omega)]
        have a14 := (q6 1 (by omega) (by omega)).trans a13
        have b34 := q5.1
        refine aw_aload_n dX5_joins_74 rfl ?_
        refine aw_get kg_X5_23 (by assumption) (by rfl) dX5_joins_75 ?_
        refine aw_iload_n dX5_joins_78 rfl ?_
        refine aw_iload_n dX5_joins_79 rfl ?_
        -- at 80: .invokestatic 114
        refine aw_mmin kc_X5_114 ks_Lib_Math_min_name ti_J9 kd_Lib_Math_min_name (by omega) (by omega) (Nat.le_of_ble_eq_true rfl) (by show 1 ≤ d + 20; omega) (by show 30 ≤ 64 * (d + 20); omega) (Nat.le_refl _) (Nat.le_refl _) dX5_joins_80 ?_
        refine aw_val (w := aI (if j < k then j else k)) (by congr 1; split <;> split <;> omega) ?_
        refine aw_Vv1 kc_X5_92 (c_Row_drop (d := d + 18) (by omega) q5 (o2.erase _).1) (by assumption) rfl rfl (by omega) (Nat.le_of_ble_eq_true rfl) dX5_joins_83 (fun h5 q7 => ?_)
        obtain ⟨q8, q9⟩ := q7
        rw [if_pos (by omega), ← hT2] at q8
        have fr5 : ∀ i, i ≠ 4 → i ≠ 5 → h5 i = h2 i := fun i j1 j2 => (q9 i j1 j2).trans ((q6 i j1 j2).trans (q3 i j1 j2))
        have a15 := (fr5 1 (by omega) (by omega)).trans a1
        have b35 := q8.1
        refine aw_aload_n dX5_joins_86 rfl ?_
        refine aw_get kg_X5_23 (by assumption) (by rfl) dX5_joins_87 ?_
        refine aw_iload_n dX5_joins_90 rfl ?_
        refine aw_i2l dX5_joins_91 (by omega) ?_
        -- at 92: .invokevirtual 117
        refine aw_Vi1 kc_X5_117 (c_Row_insert (d := d + 19) (by omega) q8 oT2.1) (by assumption) rfl rfl (by omega) (Nat.le_of_ble_eq_true rfl) dX5_joins_92 (fun v h6 qa => ?_)
        rw [insAll] at es
        rcases ins_conv oT2 qa with ⟨q10, rfl, q11, q12, q13⟩ | ⟨q10, rfl, rfl⟩
        · rw [q10, cond_true, insAll] at es
          have RC6 := RC.draft H0 (fun i j1 j2 => (q13 i j1 j2).trans (fr5 i j1 j2)) q11 q12.1
          have a16 := RC6.1
          refine aw_if_ne (tgt := 101) dX5_joins_95 (by omega) (by decide) (fun c4 => ?_) (fun c4 => ?_)
          rotate_left
          · omega
          · refine aw_aload_n dX5_joins_101 rfl ?_
            -- at 102: .invokevirtual 82
            refine aw_Vi0 kc_X5_82 (c_takeDraft (d := d + 9) RC6 ok0 q11 q12.1) (by assumption) rfl rfl (by omega) (Nat.le_of_ble_eq_true rfl) dX5_joins_102 (fun v h7 q14 => ?_)
            obtain ⟨-, q15, q16⟩ := q14
            refine aw_pop dX5_joins_105 rfl ?_
            refine aw_iload_n dX5_joins_106 rfl ?_
            -- at 107: .ireturn
            refine aw_iret rfl dX5_joins_107 ⟨rfl, _, rfl, ?_⟩
            rw [es]
            exact ⟨rfl, q15, fun i hi => (q16 i hi).trans ((q13 i (by omega) (by omega)).trans (fr5 i (by omega) (by omega)))⟩
        · rw [q10, cond_false] at es
          have RC6 := RC.draft H0 fr5 q8 oT2.1
          refine aw_if_ne (tgt := 101) dX5_joins_95 (by omega) (by decide) (fun c4 => ?_) (fun c4 => ?_)
          · omega
          · refine aw_bipush dX5_joins_98 (by decide) ?_
            -- at 100: .ireturn
            refine aw_iret rfl dX5_joins_100 ⟨rfl, _, rfl, ?_⟩
            rw [es]
            exact ⟨rfl, RC6, fun i hi => fr5 i (by omega) (by omega)⟩
end Splits
