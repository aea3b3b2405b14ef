/-! the text: tokens, both sides -/
def okTx (t : List Int) : Prop := t.length ≤ 60 ∧ ∀ i, i < t.length → 0 ≤ t.getD i 0 ∧ t.getD i 0 ≤ 255
def skp (t : List Int) : Nat → Nat → Nat
  | 0, p => p
  | k + 1, p => if p < t.length ∧ t.getD p 0 = 32 then skp t k (p + 1) else p
theorem skp_le (t : List Int) : ∀ k p, p ≤ skp t k p ∧ skp t k p ≤ p + k
  | 0, p => ⟨Nat.le_refl _, Nat.le_refl _⟩
  | k + 1, p => by
    unfold skp
    have := skp_le t k (p + 1)
    split <;> omega
def stS (t : List Int) (p : Nat) : Nat := skp t (t.length - p) p
def nen (t : List Int) : Nat → Nat → Nat
  | 0, p => p
  | k + 1, p => if p < t.length ∧ (48 ≤ t.getD p 0 ∧ t.getD p 0 ≤ 57) then nen t k (p + 1) else p
theorem nen_le (t : List Int) : ∀ k p, p ≤ nen t k p ∧ nen t k p ≤ p + k
  | 0, p => ⟨Nat.le_refl _, Nat.le_refl _⟩
  | k + 1, p => by
    unfold nen
    have := nen_le t k (p + 1)
    split <;> omega
/-- where the figures that begin at s end -/
def neS (t : List Int) (s : Nat) : Nat := nen t (t.length - s) s
/-- what k figures from s on are: 1000, if they are no number -/
def vS (t : List Int) (s k : Nat) : Int := if k = 1 then t.getD s 0 - 48 else if k = 2 ∧ 0 < t.getD s 0 - 48 then 10 * (t.getD s 0 - 48) + (t.getD (s + 1) 0 - 48) else 1000
def isDg (t : List Int) (s : Nat) : Prop := 48 ≤ t.getD s 0 ∧ t.getD s 0 ≤ 57
/-- the token at a place: -1 the end, a letter, 1000 and a number (2000: a wrong one) -/
def tkS (t : List Int) (p : Nat) : Int := if t.length ≤ stS t p then -1 else if 48 ≤ t.getD (stS t p) 0 ∧ t.getD (stS t p) 0 ≤ 57 then 1000 + vS t (stS t p) (neS t (stS t p) - stS t p) else t.getD (stS t p) 0
def nxS (t : List Int) (p : Nat) : Nat := if t.length ≤ stS t p then stS t p else if 48 ≤ t.getD (stS t p) 0 ∧ t.getD (stS t p) 0 ≤ 57 then neS t (stS t p) else stS t p + 1
theorem nen_dg (t : List Int) : ∀ k p i, p ≤ i → i < nen t k p → 48 ≤ t.getD i 0 ∧ t.getD i 0 ≤ 57
  | 0, p, i, h1, h2 => by unfold nen at h2; omega
  | k + 1, p, i, h1, h2 => by
    unfold nen at h2
    split at h2
    · rename_i hc
      by_cases q : i = p
      · subst q; exact hc.2
      · exact nen_dg t k (p + 1) i (by omega) h2
    · omega
theorem stS_le {t : List Int} {p : Nat} (h : p ≤ t.length) : p ≤ stS t p ∧ stS t p ≤ t.length := by
  have := skp_le t (t.length - p) p
  unfold stS
  omega
theorem neS_le {t : List Int} {p : Nat} (h : p ≤ t.length) : p ≤ neS t p ∧ neS t p ≤ t.length := by
  have := nen_le t (t.length - p) p
  unfold neS
  omega
theorem neS_lt {t : List Int} {p : Nat} (h : p < t.length) (hd : 48 ≤ t.getD p 0 ∧ t.getD p 0 ≤ 57) : p < neS t p := by
  obtain ⟨k, hk⟩ : ∃ k, t.length - p = k + 1 := ⟨t.length - p - 1, by omega⟩
  have := nen_le t k (p + 1)
  unfold neS
  rw [hk, nen, if_pos ⟨h, hd⟩]
  omega
theorem nxS_le {t : List Int} {p : Nat} (h : p ≤ t.length) : p ≤ nxS t p ∧ nxS t p ≤ t.length := by
  have h1 := stS_le h
  have h2 := neS_le h1.2
  unfold nxS
  split
  · omega
  · split <;> omega
theorem vS_rng {t : List Int} (ht : okTx t) {p : Nat} (h : p ≤ t.length) (h2 : stS t p < t.length) (hd : 48 ≤ t.getD (stS t p) 0 ∧ t.getD (stS t p) 0 ≤ 57) : 0 ≤ vS t (stS t p) (neS t (stS t p) - stS t p) ∧ vS t (stS t p) (neS t (stS t p) - stS t p) ≤ 1000 ∧ (vS t (stS t p) (neS t (stS t p) - stS t p) ≤ 99 ∨ vS t (stS t p) (neS t (stS t p) - stS t p) = 1000) := by
  have hlt := neS_lt h2 hd
  unfold vS
  split
  · omega
  · split
    · have := nen_dg t (t.length - stS t p) (stS t p) (stS t p + 1) (by omega) (by show _ < neS t (stS t p); omega)
      omega
    · omega
theorem tkS_rng {t : List Int} (ht : okTx t) {p : Nat} (h : p ≤ t.length) : -1 ≤ tkS t p ∧ tkS t p ≤ 2000 ∧ (tkS t p ≤ 1099 ∨ tkS t p = 2000) := by
  have h1 := stS_le h
  unfold tkS
  split
  · omega
  · have := ht.2 (stS t p) (by omega)
    split
    · rename_i hd
      have := vS_rng ht h (by omega) hd
      omega
    · omega
-- the class's own value: never above 100
def cvs (a x : Int) : Int := if 100 ≤ a * 10 + x then 100 else a * 10 + x
theorem cvs_s {a x : Int} (h : a * 10 + x < 100) : cvs a x = a * 10 + x := if_neg (by omega)
theorem cvs_b {a x : Int} (h : 100 ≤ a * 10 + x) : cvs a x = 100 := if_pos h
def cv (t : List Int) (s : Nat) : Nat → Int
  | 0 => 0
  | k + 1 => cvs (cv t s k) (t.getD (s + k) 0 - 48)
theorem cv_rng (t : List Int) (s : Nat) : ∀ k, (∀ i, i < k → 48 ≤ t.getD (s + i) 0 ∧ t.getD (s + i) 0 ≤ 57) → 0 ≤ cv t s k ∧ cv t s k ≤ 100
  | 0, _ => by simp [cv]
  | k + 1, h => by
    have := cv_rng t s k (fun i hi => h i (by omega))
    have := h k (by omega)
    unfold cv cvs
    split <;> omega
theorem cv_1 {t : List Int} {s : Nat} (e0 : 48 ≤ t.getD s 0 ∧ t.getD s 0 ≤ 57) : cv t s 1 = t.getD s 0 - 48 := by
  show cvs 0 (t.getD (s + 0) 0 - 48) = _
  rw [Nat.add_zero, cvs_s (by omega)]
  omega
theorem cv_2 {t : List Int} {s : Nat} (e0 : 48 ≤ t.getD s 0 ∧ t.getD s 0 ≤ 57) (e1 : 48 ≤ t.getD (s + 1) 0 ∧ t.getD (s + 1) 0 ≤ 57) : cv t s 2 = 10 * (t.getD s 0 - 48) + (t.getD (s + 1) 0 - 48) := by
  show cvs (cv t s 1) (t.getD (s + 1) 0 - 48) = _
  rw [cv_1 e0, cvs_s (by omega)]
  omega
theorem cv_big (t : List Int) (s : Nat) : ∀ k, 3 ≤ k → (∀ i, i < k → 48 ≤ t.getD (s + i) 0 ∧ t.getD (s + i) 0 ≤ 57) → t.getD s 0 ≠ 48 → cv t s k = 100
  | 0, h3, _, _ => by omega
  | 1, h3, _, _ => by omega
  | 2, h3, _, _ => by omega
  | k + 3, _, h, h0 => by
    have h2 := h (k + 2) (by omega)
    by_cases q : k = 0
    · subst q
      have e0 := h 0 (by omega)
      have e1 := h 1 (by omega)
      simp only [Nat.add_zero] at e0
      simp only [Nat.zero_add] at h2
      show cvs (cv t s 2) (t.getD (s + 2) 0 - 48) = _
      rw [cv_2 e0 e1, cvs_b (by omega)]
    · have := cv_big t s (k + 2) (by omega) (fun i hi => h i (by omega)) h0
      show cvs (cv t s (k + 2)) (t.getD (s + (k + 2)) 0 - 48) = _
      rw [this, cvs_b (by omega)]
/-- the class's token and value out of the figures -/
theorem cv_tok {t : List Int} {s k : Nat} (hk : 1 ≤ k) (h : ∀ i, i < k → 48 ≤ t.getD (s + i) 0 ∧ t.getD (s + i) 0 ≤ 57) : (((t.getD s 0 = 48 ∧ 1 < k) ∨ 99 < cv t s k) ∧ vS t s k = 1000) ∨ (¬ ((t.getD s 0 = 48 ∧ 1 < k) ∨ 99 < cv t s k) ∧ vS t s k = cv t s k) := by
  have e0 := h 0 (by omega)
  simp only [Nat.add_zero] at e0
  by_cases k1 : k = 1
  · subst k1
    have ec := cv_1 e0
    right
    rw [ec, vS, if_pos rfl]
    exact ⟨by omega, rfl⟩
  · by_cases k2 : k = 2
    · subst k2
      have e1 := h 1 (by omega)
      have ec := cv_2 e0 e1
      by_cases z : t.getD s 0 = 48
      · left
        refine ⟨Or.inl ⟨z, by omega⟩, ?_⟩
        rw [vS, if_neg (by omega), if_neg (by omega)]
      · right
        rw [ec, vS, if_neg (by omega), if_pos (by omega)]
        exact ⟨by omega, rfl⟩
    · left
      refine ⟨?_, by rw [vS, if_neg k1, if_neg (by omega)]⟩
      by_cases z : t.getD s 0 = 48
      · exact Or.inl ⟨z, by omega⟩
      · exact Or.inr (by rw [cv_big t s k (by omega) h z]; omega)
-- the class
abbrev scr (lt pl tk sta vl ab be : Int) : List AV := [aR 7, aI lt, aI pl, aI tk, aI sta, aI vl, aI ab, aI be, aR 8]
def isTx (h : AH) (t : List Int) : Prop := ∃ f, h 7 = aA 2 60 f ∧ ∀ i, i < t.length → f i = t.getD i 0
theorem isTx.fr {h h' : AH} {t : List Int} (H : isTx h t) (e : h' 7 = h 7) : isTx h' t := ⟨H.choose, e.trans H.choose_spec.1, H.choose_spec.2⟩
def isTy (h : AH) (t : List Int) : Prop := ∃ f, h 58 = aA 0 60 f ∧ ∀ i, i < t.length → f i = t.getD i 0
theorem isTy.fr {h h' : AH} {t : List Int} (H : isTy h t) (e : h' 58 = h 58) : isTy h' t := ⟨H.choose, e.trans H.choose_spec.1, H.choose_spec.2⟩
theorem okTx.app {t : List Int} {x : Int} (h : okTx t) (h6 : t.length < 60) (hx : 0 ≤ x ∧ x ≤ 255) : okTx (t ++ [x]) := by
  refine ⟨by simp; omega, fun i hi => ?_⟩
  rw [gd_app]
  simp at hi
  by_cases q : i < t.length
  · rw [if_pos q]
    exact h.2 i q
  · rw [if_neg q, if_pos (by omega)]
    exact hx
section Text
variable {d n : Nat} {h : AH} {t : List Int} {pl tk sta vl ab be : Int}
theorem c_Scr_length (h1 : h 6 = aO 3 (scr (t.length : Int) pl tk sta vl ab be)) : AC mX3_length d 0 0 n h [aR 6] (aqi n fun v h' => v = (t.length : Int) ∧ h' = h) := by
  refine AC.of (by decide) (Nat.le_of_ble_eq_true rfl) ?_
  refine aw_aload_n dX3_length_0 rfl ?_
  refine aw_get kg_X3_15 (by assumption) (by rfl) dX3_length_1 ?_
  -- at 4: .ireturn
  exact aw_iret rfl dX3_length_4 ⟨rfl, _, rfl, rfl, rfl⟩
theorem c_Scr_wipe (h1 : h 6 = aO 3 (scr (t.length : Int) pl tk sta vl ab be)) : AC mX3_wipe d 0 0 n h [aR 6] (aqv n fun h' => h' 6 = aO 3 (scr 0 pl tk sta vl ab be) ∧ ∀ j, j ≠ 6 → h' j = h j) := by
  refine AC.of (by decide) (Nat.le_of_ble_eq_true rfl) ?_
  refine aw_aload_n dX3_wipe_0 rfl ?_
  refine aw_iconst dX3_wipe_1 ?_
  -- at 2: .putfield 15
  refine aw_putO kp_X3_15 (by assumption) (by simp) (aw_ni _) dX3_wipe_2 (fun h' hr hf => ?_)
  exact aw_vret rfl dX3_wipe_5 ⟨rfl, rfl, hr, hf⟩
theorem c_Scr_append {x : Int} (hx : 0 ≤ x ∧ x ≤ 255) (h1 : h 6 = aO 3 (scr (t.length : Int) pl tk sta vl ab be)) (H : isTx h t) (ht : okTx t) : AC mX3_append d 0 0 n h [aR 6, aI x] (aqi n fun v h' => (t.length < 60 ∧ v = 1 ∧ h' 6 = aO 3 (scr ((t.length : Int) + 1) pl tk sta vl ab be) ∧ isTx h' (t ++ [x]) ∧ ∀ j, j ≠ 6 → j ≠ 7 → h' j = h j) ∨ (60 ≤ t.length ∧ v = 0 ∧ h' = h)) := by
  refine AC.of (by decide) (Nat.le_of_ble_eq_true rfl) ?_
  obtain ⟨f, h2, h3⟩ := H
  have ht6 := ht.1
  refine aw_aload_n dX3_append_0 rfl ?_
  refine aw_get kg_X3_15 (by assumption) (by rfl) dX3_append_1 ?_
  refine aw_bipush dX3_append_4 (by decide) ?_
  -- at 6: .if_icmp .lt 5
  refine aw_icmp_lt (tgt := 11) dX3_append_6 (by omega) (by omega) (by decide) (fun c1 => ?_) (fun c1 => ?_)
  · refine aw_aload_n dX3_append_11 rfl ?_
    refine aw_get kg_X3_9 (by assumption) (by rfl) dX3_append_12 ?_
    refine aw_aload_n dX3_append_15 rfl ?_
    refine aw_get kg_X3_15 (by assumption) (by rfl) dX3_append_16 ?_
    refine aw_iload_n dX3_append_19 rfl ?_
    refine aw_i2c dX3_append_20 (by omega) ?_
    -- at 21: .castore
    refine aw_castO (by assumption) (by omega) (by omega) dX3_append_21 (fun ha b1 f1 => ?_)
    have q6 := (f1 6 (by decide)).trans h1
    refine aw_aload_n dX3_append_22 rfl ?_
    refine aw_dup dX3_append_23 rfl ?_
    refine aw_get kg_X3_15 (by assumption) (by rfl) dX3_append_24 ?_
    refine aw_iconst dX3_append_27 ?_
    refine aw_iadd dX3_append_28 ?_
    -- at 29: .putfield 15
    refine aw_putO kp_X3_15 (by assumption) (by simp) (aw_ni _) dX3_append_29 (fun hb b2 f2 => ?_)
    refine aw_iconst dX3_append_32 ?_
    -- at 33: .ireturn
    refine aw_zret rfl dX3_append_33 (by omega) ⟨rfl, _, rfl, Or.inl ⟨by omega, rfl, b2, ⟨_, (f2 7 (by decide)).trans b1, fun i hi => ?_⟩, fun j j1 j2 => (f2 j j1).trans (f1 j j2)⟩⟩
    rw [gd_app]
    simp at hi
    rw [Int.toNat_natCast]
    by_cases q : i < t.length
    · rw [if_pos q, va_up_n _ _ _ (by omega)]
      exact h3 i q
    · have : i = t.length := by omega
      subst this
      rw [if_neg q, if_pos rfl, va_up_s]
  · refine aw_iconst dX3_append_9 ?_
    -- at 10: .ireturn
    exact aw_zret rfl dX3_append_10 (by omega) ⟨rfl, _, rfl, Or.inr ⟨by omega, rfl, rfl⟩⟩
theorem c_isFigure {x : Int} (hx : 0 ≤ x ∧ x ≤ 65535) : AC mX3_isFigure d 0 0 n h [aI x] (aqi n fun v h' => v = (if 48 ≤ x ∧ x ≤ 57 then 1 else 0) ∧ h' = h) := by
  refine AC.of (by decide) (Nat.le_of_ble_eq_true rfl) ?_
  refine aw_iload_n dX3_isFigure_0 rfl ?_
  refine aw_bipush dX3_isFigure_1 (by decide) ?_
  -- at 3: .if_icmp .lt 13
  refine aw_icmp_lt (tgt := 16) dX3_isFigure_3 (by omega) (by omega) (by decide) (fun c1 => ?_) (fun c1 => ?_)
  · refine aw_iconst dX3_isFigure_16 ?_
    -- at 17: .ireturn
    exact aw_zret rfl dX3_isFigure_17 (by omega) ⟨rfl, _, rfl, by rw [if_neg (by omega)], rfl⟩
  · refine aw_iload_n dX3_isFigure_6 rfl ?_
    refine aw_bipush dX3_isFigure_7 (by decide) ?_
    -- at 9: .if_icmp .gt 7
    refine aw_icmp_gt (tgt := 16) dX3_isFigure_9 (by omega) (by omega) (by decide) (fun c2 => ?_) (fun c2 => ?_)
    · refine aw_iconst dX3_isFigure_16 ?_
      -- at 17: .ireturn
      exact aw_zret rfl dX3_isFigure_17 (by omega) ⟨rfl, _, rfl, by rw [if_neg (by omega)], rfl⟩
    · refine aw_iconst dX3_isFigure_12 ?_
      refine aw_goto (tgt := 17) dX3_isFigure_13 (by decide) ?_
      -- at 17: .ireturn
      exact aw_zret rfl dX3_isFigure_17 (by omega) ⟨rfl, _, rfl, by rw [if_pos (by omega)], rfl⟩
def kndS (x : Int) : Int := if x = 112 then 1 else if x = 115 then 2 else if x = 59 then 3 else 5
theorem c_kindOf {x : Int} (hx : 0 ≤ x ∧ x ≤ 65535) : AC mX3_kindOf d 0 0 n h [aI x] (aqi n fun v h' => v = kndS x ∧ h' = h) := by
  refine AC.of (by decide) (Nat.le_of_ble_eq_true rfl) ?_
  refine aw_iload_n dX3_kindOf_0 rfl ?_
  -- at 1: .lookupswitch 41 #[(59, 39), (112, 35), (115, 37)]
  by_cases q1 : x = 112
  · subst q1
    refine aw_lookup (tgt := 36) (off := 35) dX3_kindOf_1 (by decide) (by decide) (by decide) (by decide) ?_
    refine aw_iconst dX3_kindOf_36 ?_
    -- at 37: .ireturn
    exact aw_iret rfl dX3_kindOf_37 ⟨rfl, _, rfl, rfl, rfl⟩
  · by_cases q2 : x = 115
    · subst q2
      refine aw_lookup (tgt := 38) (off := 37) dX3_kindOf_1 (by decide) (by decide) (by decide) (by decide) ?_
      refine aw_iconst dX3_kindOf_38 ?_
      -- at 39: .ireturn
      exact aw_iret rfl dX3_kindOf_39 ⟨rfl, _, rfl, rfl, rfl⟩
    · by_cases q3 : x = 59
      · subst q3
        refine aw_lookup (tgt := 40) (off := 39) dX3_kindOf_1 (by decide) (by decide) (by decide) (by decide) ?_
        refine aw_iconst dX3_kindOf_40 ?_
        -- at 41: .ireturn
        exact aw_iret rfl dX3_kindOf_41 ⟨rfl, _, rfl, rfl, rfl⟩
      · refine aw_lookup (tgt := 42) (off := 41) dX3_kindOf_1 (by omega) (by decide) (by simp [Op.lookupswitch.offset_cons, Ne.symm q1, Ne.symm q2, Ne.symm q3]; rfl) (by decide) ?_
        refine aw_iconst dX3_kindOf_42 ?_
        -- at 43: .ireturn
        exact aw_iret rfl dX3_kindOf_43 ⟨rfl, _, rfl, by rw [kndS, if_neg q1, if_neg q2, if_neg q3], rfl⟩
end Text
