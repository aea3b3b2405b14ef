/-! what was seen of the unknown identity: both sides -/
theorem gd_app {α : Type} (l : List α) (x z : α) (i : Nat) : (l ++ [x]).getD i z = if i < l.length then l.getD i z else if i = l.length then x else z := by
  simp only [List.getD_eq_getElem?_getD]
  by_cases h1 : i < l.length
  · rw [if_pos h1, List.getElem?_append_left h1]
  · rw [if_neg h1]
    by_cases h2 : i = l.length
    · subst h2
      simp
    · rw [if_neg h2, List.getElem?_eq_none (by simp; omega)]
      rfl
abbrev Seen : Type := Int × Int × Int
abbrev s0 : Seen := (2, 1, 0)
def okSeen (l : List Seen) : Prop := l.length ≤ 6 ∧ ∀ i, i < l.length → (2 ≤ (l.getD i s0).1 ∧ (l.getD i s0).1 ≤ 7) ∧ (1 ≤ (l.getD i s0).2.1 ∧ (l.getD i s0).2.1 ≤ 999) ∧ ((l.getD i s0).2.2 = 0 ∨ (l.getD i s0).2.2 = 1)
def sus (l : List Seen) : Nat → Nat
  | 0 => 31
  | k + 1 => if (l.getD k s0).2.2 = 1 then sus l k &&& held (l.getD k s0).1 (l.getD k s0).2.1 else sus l k &&& (31 - held (l.getD k s0).1 (l.getD k s0).2.1)
theorem sus_lt (l : List Seen) : ∀ k, sus l k < 32
  | 0 => by simp [sus]
  | k + 1 => by
    unfold sus
    split
    · exact and_lt32 (sus_lt l k)
    · exact and_lt32 (sus_lt l k)
abbrev unseenS (l : List Seen) : Nat := sus l l.length
def seesOK (N m s : Int) : Prop := (2 ≤ N ∧ N ≤ 7) ∧ (1 ≤ m ∧ m ≤ 999) ∧ (0 ≤ s ∧ s ≤ 1)
theorem not32a : (List.range 32).all (fun a => (List.range 32).all (fun b => decide ((iI (a : Nat) &&& iI (iI (b : Nat) ^^^ iI (-1)).toInt).toInt = ((a &&& (31 - b) : Nat) : Int)))) = true := by decide +kernel
theorem not32 {a b : Nat} (ha : a < 32) (hb : b < 32) : (iI (a : Nat) &&& iI (iI (b : Nat) ^^^ iI (-1)).toInt).toInt = ((a &&& (31 - b) : Nat) : Int) := of_decide_eq_true (List.all_eq_true.mp (List.all_eq_true.mp not32a a (List.mem_range.mpr ha)) b (List.mem_range.mpr hb))
def isWit (h : AH) (l : List Seen) : Prop := h 48 = aO 4 [aR 49, aR 50, aR 51, aI (l.length : Int)] ∧ ∃ f g s, h 49 = aA 0 6 f ∧ h 50 = aA 0 6 g ∧ h 51 = aA 1 6 s ∧ ∀ i, i < l.length → f i = (l.getD i s0).1 ∧ g i = (l.getD i s0).2.1 ∧ s i = (l.getD i s0).2.2
theorem isWit.fr {h h' : AH} {l : List Seen} (H : isWit h l) (hf : ∀ j, 48 ≤ j → j ≤ 51 → h' j = h j) : isWit h' l := by
  obtain ⟨h1, f, g, s, h2, h3, h4, h5⟩ := H
  exact ⟨(hf 48 (by omega) (by omega)).trans h1, f, g, s, (hf 49 (by omega) (by omega)).trans h2, (hf 50 (by omega) (by omega)).trans h3, (hf 51 (by omega) (by omega)).trans h4, h5⟩
theorem okSeen.app {l : List Seen} {N m s : Int} (h : okSeen l) (h6 : l.length < 6) (hs : seesOK N m s) : okSeen (l ++ [(N, m, s)]) := by
  refine ⟨by simp; omega, fun i hi => ?_⟩
  rw [gd_app]
  simp at hi
  by_cases q : i < l.length
  · rw [if_pos q]
    exact h.2 i q
  · rw [if_neg q, if_pos (by omega)]
    obtain ⟨h1, h2, h3⟩ := hs
    exact ⟨h1, h2, by show s = 0 ∨ s = 1; omega⟩
/-- the reference's own cell -/
abbrev mdl (u p q sn lt e1 e2 e3 e4 e5 e6 e7 e8 : Int) : List AV := [aR 53, aR 54, aI u, aI p, aI q, aR 55, aR 56, aR 57, aI sn, aR 58, aI lt, aI e1, aI e2, aI e3, aI e4, aI e5, aI e6, aI e7, aR 59, aR 60, aR 61, aR 62, aR 63, aR 64, aI e8]
def isSn (h : AH) (l : List Seen) : Prop := ∃ f g s, h 55 = aA 0 6 f ∧ h 56 = aA 0 6 g ∧ h 57 = aA 0 6 s ∧ ∀ i, i < l.length → f i = (l.getD i s0).1 ∧ g i = (l.getD i s0).2.1 ∧ s i = (l.getD i s0).2.2
theorem isSn.fr {h h' : AH} {l : List Seen} (H : isSn h l) (hf : ∀ j, 55 ≤ j → j ≤ 57 → h' j = h j) : isSn h' l := by
  obtain ⟨f, g, s, h2, h3, h4, h5⟩ := H
  exact ⟨f, g, s, (hf 55 (by omega) (by omega)).trans h2, (hf 56 (by omega) (by omega)).trans h3, (hf 57 (by omega) (by omega)).trans h4, h5⟩
section Wit
variable {d n : Nat} {h : AH} {l : List Seen}
theorem c_Wit_length (H : isWit h l) : AC mX4_length d 0 0 n h [aR 48] (aqi n fun v h' => v = (l.length : Int) ∧ h' = h) := by
  refine AC.of (by decide) (Nat.le_of_ble_eq_true rfl) ?_
  obtain ⟨h1, -⟩ := H
  refine aw_aload_n dX4_length_0 rfl ?_
  refine aw_get kg_X4_22 (by assumption) (by rfl) dX4_length_1 ?_
  -- at 4: .ireturn
  exact aw_iret rfl dX4_length_4 ⟨rfl, _, rfl, rfl, rfl⟩
theorem c_Wit_wipe (H : isWit h l) : AC mX4_wipe d 0 0 n h [aR 48] (aqv n fun h' => isWit h' [] ∧ ∀ j, j ≠ 48 → h' j = h j) := by
  refine AC.of (by decide) (Nat.le_of_ble_eq_true rfl) ?_
  obtain ⟨h1, f, g, s, h2, h3, h4, h5⟩ := H
  refine aw_aload_n dX4_wipe_0 rfl ?_
  refine aw_iconst dX4_wipe_1 ?_
  -- at 2: .putfield 22
  refine aw_putO kp_X4_22 (by assumption) (by simp) (aw_ni _) dX4_wipe_2 (fun h' hr hf => ?_)
  exact aw_vret rfl dX4_wipe_5 ⟨rfl, rfl, ⟨hr, f, g, s, (hf 49 (by decide)).trans h2, (hf 50 (by decide)).trans h3, (hf 51 (by decide)).trans h4, fun i hi => absurd hi (by simp)⟩, hf⟩
theorem c_Wit_add {N m s : Int} (H : isWit h l) (hl : okSeen l) (hs : seesOK N m s) : AC mX4_add d 0 0 n h [aR 48, aI N, aI m, aI s] (aqi n fun v h' => (l.length < 6 ∧ v = 1 ∧ isWit h' (l ++ [(N, m, s)]) ∧ ∀ j, (j < 48 ∨ 51 < j) → h' j = h j) ∨ (6 ≤ l.length ∧ v = 0 ∧ h' = h)) := by
  refine AC.of (by decide) (Nat.le_of_ble_eq_true rfl) ?_
  obtain ⟨h1, f, g, t, h2, h3, h4, h5⟩ := H
  have hl6 := hl.1
  obtain ⟨hN, hm, hs1⟩ := id hs
  refine aw_aload_n dX4_add_0 rfl ?_
  refine aw_get kg_X4_22 (by assumption) (by rfl) dX4_add_1 ?_
  refine aw_bipush dX4_add_4 (by decide) ?_
  -- at 6: .if_icmp .lt 5
  refine aw_icmp_lt (tgt := 11) dX4_add_6 (by omega) (by omega) (by decide) (fun c1 => ?_) (fun c1 => ?_)
  · refine aw_aload_n dX4_add_11 rfl ?_
    refine aw_get kg_X4_9 (by assumption) (by rfl) dX4_add_12 ?_
    refine aw_aload_n dX4_add_15 rfl ?_
    refine aw_get kg_X4_22 (by assumption) (by rfl) dX4_add_16 ?_
    refine aw_iload_n dX4_add_19 rfl ?_
    -- at 20: .iastore
    refine aw_iastO (by assumption) (by omega) dX4_add_20 (fun ha b1 f1 => ?_)
    have q48 := (f1 48 (by decide)).trans h1
    have q50 := (f1 50 (by decide)).trans h3
    have q51 := (f1 51 (by decide)).trans h4
    refine aw_aload_n dX4_add_21 rfl ?_
    refine aw_get kg_X4_15 (by assumption) (by rfl) dX4_add_22 ?_
    refine aw_aload_n dX4_add_25 rfl ?_
    refine aw_get kg_X4_22 (by assumption) (by rfl) dX4_add_26 ?_
    refine aw_iload_n dX4_add_29 rfl ?_
    -- at 30: .iastore
    refine aw_iastO (by assumption) (by omega) dX4_add_30 (fun hb b2 f2 => ?_)
    have r48 := (f2 48 (by decide)).trans q48
    have r49 := (f2 49 (by decide)).trans b1
    have r51 := (f2 51 (by decide)).trans q51
    refine aw_aload_n dX4_add_31 rfl ?_
    refine aw_get kg_X4_18 (by assumption) (by rfl) dX4_add_32 ?_
    refine aw_aload_n dX4_add_35 rfl ?_
    refine aw_get kg_X4_22 (by assumption) (by rfl) dX4_add_36 ?_
    refine aw_iload_n dX4_add_39 rfl ?_
    -- at 40: .bastore
    refine aw_zastO (by assumption) (by omega) (by omega) dX4_add_40 (fun hc b3 f3 => ?_)
    have t48 := (f3 48 (by decide)).trans r48
    have t49 := (f3 49 (by decide)).trans r49
    have t50 := (f3 50 (by decide)).trans b2
    refine aw_aload_n dX4_add_41 rfl ?_
    refine aw_dup dX4_add_42 rfl ?_
    refine aw_get kg_X4_22 (by assumption) (by rfl) dX4_add_43 ?_
    refine aw_iconst dX4_add_46 ?_
    refine aw_iadd dX4_add_47 ?_
    -- at 48: .putfield 22
    refine aw_putO kp_X4_22 (by assumption) (by simp) (aw_ni _) dX4_add_48 (fun hd b4 f4 => ?_)
    refine aw_iconst dX4_add_51 ?_
    -- at 52: .ireturn
    refine aw_zret rfl dX4_add_52 (by omega) ⟨rfl, _, rfl, Or.inl ⟨by omega, rfl, ⟨?_, _, _, _, (f4 49 (by decide)).trans t49, (f4 50 (by decide)).trans t50, (f4 51 (by decide)).trans b3, fun i hi => ?_⟩, fun j hj => ?_⟩⟩
    · rw [b4, List.length_append]
      rfl
    · rw [gd_app]
      simp at hi
      simp only [Int.toNat_natCast]
      by_cases q : i < l.length
      · rw [if_pos q, va_up_n _ _ _ (by omega), va_up_n _ _ _ (by omega), va_up_n _ _ _ (by omega)]
        exact h5 i q
      · have : i = l.length := by omega
        subst this
        rw [if_neg q, if_pos rfl, va_up_s, va_up_s, va_up_s]
        exact ⟨rfl, rfl, rfl⟩
    · rw [f4 j (by omega), f3 j (by omega), f2 j (by omega), f1 j (by omega)]
  · refine aw_iconst dX4_add_9 ?_
    -- at 10: .ireturn
    exact aw_zret rfl dX4_add_10 (by omega) ⟨rfl, _, rfl, Or.inr ⟨by omega, rfl, rfl⟩⟩
theorem sus_loop {Z : AZ} (H : isWit h l) (hl : okSeen l) (kk : ∀ L, lk L 1 = some (aI (unseenS l : Int)) → AW mX4_suspects (am_R (d + 3) 0 0) Z 0 0 n h 54 L []) :
    ∀ (e k : Nat) (L3 : Option AV), e + k = l.length → AW mX4_suspects (am_R (d + 3) 0 0) Z 0 0 n h 5 [some (aR 48), some (aI (sus l k : Int)), some (aI (k : Int)), L3] [] := by
  obtain ⟨h1, f, g, t, h2, h3, h4, h5⟩ := H
  have hl6 := hl.1
  intro e
  induction e with
  | zero =>
    intro k L3 hk
    have : k = l.length := by omega
    refine aw_iload_n dX4_suspects_5 rfl ?_
    refine aw_aload_n dX4_suspects_6 rfl ?_
    refine aw_get kg_X4_22 (by assumption) (by rfl) dX4_suspects_7 ?_
    -- at 10: .if_icmp .ge 44
    refine aw_icmp_ge (tgt := 54) dX4_suspects_10 (by omega) (by omega) (by decide) (fun c1 => ?_) (fun c1 => ?_)
    · exact kk _ (by rw [this]; rfl)
    · omega
  | succ e ih =>
    intro k L3 hk
    have hv := hl.2 k (by omega)
    obtain ⟨p1, p2, p3⟩ := h5 k (by omega)
    refine aw_iload_n dX4_suspects_5 rfl ?_
    refine aw_aload_n dX4_suspects_6 rfl ?_
    refine aw_get kg_X4_22 (by assumption) (by rfl) dX4_suspects_7 ?_
    -- at 10: .if_icmp .ge 44
    refine aw_icmp_ge (tgt := 54) dX4_suspects_10 (by omega) (by omega) (by decide) (fun c1 => ?_) (fun c1 => ?_)
    · omega
    · refine aw_aload_n dX4_suspects_13 rfl ?_
      refine aw_get kg_X4_9 (by assumption) (by rfl) dX4_suspects_14 ?_
      refine aw_iload_n dX4_suspects_17 rfl ?_
      refine aw_iald (by assumption) (by omega) dX4_suspects_18 ?_
      refine aw_val (w := aI (l.getD k s0).1) (by rw [Int.toNat_natCast, p1]) ?_
      refine aw_aload_n dX4_suspects_19 rfl ?_
      refine aw_get kg_X4_15 (by assumption) (by rfl) dX4_suspects_20 ?_
      refine aw_iload_n dX4_suspects_23 rfl ?_
      refine aw_iald (by assumption) (by omega) dX4_suspects_24 ?_
      -- at 25: .invokestatic 26
      refine aw_val (w := aI (l.getD k s0).2.1) (by rw [Int.toNat_natCast, p2]) ?_
      refine aw_Ti2 kc_X4_26 (c_splitters (d := d) hv.1 (by omega)) rfl (by omega) (Nat.le_of_ble_eq_true rfl) dX4_suspects_25 (fun v h' q => ?_)
      obtain ⟨rfl, rfl⟩ := q
      refine aw_istore_n dX4_suspects_28 (by decide) ?_
      refine aw_iload_n dX4_suspects_29 rfl ?_
      refine aw_aload_n dX4_suspects_30 rfl ?_
      refine aw_get kg_X4_18 (by assumption) (by rfl) dX4_suspects_31 ?_
      refine aw_iload_n dX4_suspects_34 rfl ?_
      refine aw_zald (by assumption) (by omega) dX4_suspects_35 ?_
      -- at 36: .ifCond .eq 7
      refine aw_val (w := aI (l.getD k s0).2.2) (by rw [Int.toNat_natCast, p3]) ?_
      have hlt := sus_lt l k
      have hhl := held_lt (l.getD k s0).1 (l.getD k s0).2.1
      have K := ih (k + 1) (some (aI (held (l.getD k s0).1 (l.getD k s0).2.1 : Int))) (by omega)
      rw [show ((k + 1 : Nat) : Int) = (k : Int) + 1 by omega] at K
      refine aw_if_eq (tgt := 43) dX4_suspects_36 (by omega) (by decide) (fun c2 => ?_) (fun c2 => ?_)
      · refine aw_iload_n dX4_suspects_43 rfl ?_
        refine aw_iconst dX4_suspects_44 ?_
        refine aw_ixor dX4_suspects_45 ?_
        refine aw_iand dX4_suspects_46 ?_
        refine aw_val (w := aI (sus l (k + 1) : Int)) (by rw [not32 hlt hhl, sus, if_neg (by omega)]) ?_
        refine aw_istore_n dX4_suspects_47 (by decide) ?_
        refine aw_iinc dX4_suspects_48 rfl (by decide) ?_
        refine aw_goto (tgt := 5) dX4_suspects_51 (by decide) ?_
        exact K
      · refine aw_iload_n dX4_suspects_39 rfl ?_
        refine aw_goto (tgt := 46) dX4_suspects_40 (by decide) ?_
        refine aw_iand dX4_suspects_46 ?_
        refine aw_val (w := aI (sus l (k + 1) : Int)) (by rw [and32 hlt hhl, sus, if_pos (by omega)]) ?_
        refine aw_istore_n dX4_suspects_47 (by decide) ?_
        refine aw_iinc dX4_suspects_48 rfl (by decide) ?_
        refine aw_goto (tgt := 5) dX4_suspects_51 (by decide) ?_
        exact K
theorem c_Wit_suspects (H : isWit h l) (hl : okSeen l) : AC mX4_suspects (d + 3) 0 0 n h [aR 48] (aqi n fun v h' => v = (unseenS l : Int) ∧ h' = h) := by
  refine AC.of (by decide) (Nat.le_of_ble_eq_true rfl) ?_
  refine aw_bipush dX4_suspects_0 (by decide) ?_
  refine aw_istore_n dX4_suspects_2 (by decide) ?_
  refine aw_iconst dX4_suspects_3 ?_
  refine aw_istore_n dX4_suspects_4 (by decide) ?_
  exact sus_loop H hl (fun L hL => by
    refine aw_iload_n dX4_suspects_54 hL ?_
    exact aw_iret rfl dX4_suspects_55 ⟨rfl, _, rfl, rfl, rfl⟩) l.length 0 none (by omega)
theorem sus6_loop {Z : AZ} {u p q lt e1 e2 e3 e4 e5 e6 e7 e8 : Int} (h1 : h 52 = aO 6 (mdl u p q (l.length : Int) lt e1 e2 e3 e4 e5 e6 e7 e8)) (H : isSn h l) (hl : okSeen l) (kk : ∀ L, lk L 1 = some (aI (unseenS l : Int)) → AW mX6_unseen (am_R (d + 3) 0 0) Z 0 0 n h 55 L []) :
    ∀ (e k : Nat) (L3 : Option AV), e + k = l.length → AW mX6_unseen (am_R (d + 3) 0 0) Z 0 0 n h 5 [some (aR 52), some (aI (sus l k : Int)), some (aI (k : Int)), L3] [] := by
  obtain ⟨f, g, t, h2, h3, h4, h5⟩ := H
  have hl6 := hl.1
  intro e
  induction e with
  | zero =>
    intro k L3 hk
    have : k = l.length := by omega
    refine aw_iload_n dX6_unseen_5 rfl ?_
    refine aw_aload_n dX6_unseen_6 rfl ?_
    refine aw_get kg_X6_123 (by assumption) (by rfl) dX6_unseen_7 ?_
    -- at 10: .if_icmp .ge 45
    refine aw_icmp_ge (tgt := 55) dX6_unseen_10 (by omega) (by omega) (by decide) (fun c1 => ?_) (fun c1 => ?_)
    · exact kk _ (by rw [this]; rfl)
    · omega
  | succ e ih =>
    intro k L3 hk
    have hv := hl.2 k (by omega)
    obtain ⟨p1, p2, p3⟩ := h5 k (by omega)
    refine aw_iload_n dX6_unseen_5 rfl ?_
    refine aw_aload_n dX6_unseen_6 rfl ?_
    refine aw_get kg_X6_123 (by assumption) (by rfl) dX6_unseen_7 ?_
    -- at 10: .if_icmp .ge 45
    refine aw_icmp_ge (tgt := 55) dX6_unseen_10 (by omega) (by omega) (by decide) (fun c1 => ?_) (fun c1 => ?_)
    · omega
    · refine aw_aload_n dX6_unseen_13 rfl ?_
      refine aw_get kg_X6_24 (by assumption) (by rfl) dX6_unseen_14 ?_
      refine aw_iload_n dX6_unseen_17 rfl ?_
      refine aw_iald (by assumption) (by omega) dX6_unseen_18 ?_
      refine aw_val (w := aI (l.getD k s0).1) (by rw [Int.toNat_natCast, p1]) ?_
      refine aw_aload_n dX6_unseen_19 rfl ?_
      refine aw_get kg_X6_27 (by assumption) (by rfl) dX6_unseen_20 ?_
      refine aw_iload_n dX6_unseen_23 rfl ?_
      refine aw_iald (by assumption) (by omega) dX6_unseen_24 ?_
      -- at 25: .invokestatic 197
      refine aw_val (w := aI (l.getD k s0).2.1) (by rw [Int.toNat_natCast, p2]) ?_
      refine aw_Si2 kc_X6_197 (c_held (d := d) hv.1 (by omega)) rfl (by omega) (Nat.le_of_ble_eq_true rfl) dX6_unseen_25 (fun v h' q => ?_)
      obtain ⟨rfl, rfl⟩ := q
      refine aw_istore_n dX6_unseen_28 (by decide) ?_
      refine aw_iload_n dX6_unseen_29 rfl ?_
      refine aw_aload_n dX6_unseen_30 rfl ?_
      refine aw_get kg_X6_30 (by assumption) (by rfl) dX6_unseen_31 ?_
      refine aw_iload_n dX6_unseen_34 rfl ?_
      refine aw_iald (by assumption) (by omega) dX6_unseen_35 ?_
      refine aw_val (w := aI (l.getD k s0).2.2) (by rw [Int.toNat_natCast, p3]) ?_
      have hlt := sus_lt l k
      have hhl := held_lt (l.getD k s0).1 (l.getD k s0).2.1
      have K := ih (k + 1) (some (aI (held (l.getD k s0).1 (l.getD k s0).2.1 : Int))) (by omega)
      rw [show ((k + 1 : Nat) : Int) = (k : Int) + 1 by omega] at K
      refine aw_iconst dX6_unseen_36 ?_
      -- at 37: .if_icmp .ne 7
      refine aw_icmp_ne (tgt := 44) dX6_unseen_37 (by omega) (by omega) (by decide) (fun c2 => ?_) (fun c2 => ?_)
      · refine aw_iload_n dX6_unseen_44 rfl ?_
        refine aw_iconst dX6_unseen_45 ?_
        refine aw_ixor dX6_unseen_46 ?_
        refine aw_iand dX6_unseen_47 ?_
        refine aw_val (w := aI (sus l (k + 1) : Int)) (by rw [not32 hlt hhl, sus, if_neg (by omega)]) ?_
        refine aw_istore_n dX6_unseen_48 (by decide) ?_
        refine aw_iinc dX6_unseen_49 rfl (by decide) ?_
        refine aw_goto (tgt := 5) dX6_unseen_52 (by decide) ?_
        exact K
      · refine aw_iload_n dX6_unseen_40 rfl ?_
        refine aw_goto (tgt := 47) dX6_unseen_41 (by decide) ?_
        refine aw_iand dX6_unseen_47 ?_
        refine aw_val (w := aI (sus l (k + 1) : Int)) (by rw [and32 hlt hhl, sus, if_pos (by omega)]) ?_
        refine aw_istore_n dX6_unseen_48 (by decide) ?_
        refine aw_iinc dX6_unseen_49 rfl (by decide) ?_
        refine aw_goto (tgt := 5) dX6_unseen_52 (by decide) ?_
        exact K
theorem c6_unseen {u p q lt e1 e2 e3 e4 e5 e6 e7 e8 : Int} (h1 : h 52 = aO 6 (mdl u p q (l.length : Int) lt e1 e2 e3 e4 e5 e6 e7 e8)) (H : isSn h l) (hl : okSeen l) : AC mX6_unseen (d + 3) 0 0 n h [aR 52] (aqi n fun v h' => v = (unseenS l : Int) ∧ h' = h) := by
  refine AC.of (by decide) (Nat.le_of_ble_eq_true rfl) ?_
  refine aw_bipush dX6_unseen_0 (by decide) ?_
  refine aw_istore_n dX6_unseen_2 (by decide) ?_
  refine aw_iconst dX6_unseen_3 ?_
  refine aw_istore_n dX6_unseen_4 (by decide) ?_
  exact sus6_loop h1 H hl (fun L hL => by
    refine aw_iload_n dX6_unseen_55 hL ?_
    exact aw_iret rfl dX6_unseen_56 ⟨rfl, _, rfl, rfl, rfl⟩) l.length 0 none (by omega)
theorem c6_forget {u p q lt e1 e2 e3 e4 e5 e6 e7 e8 : Int} (h1 : h 52 = aO 6 (mdl u p q (l.length : Int) lt e1 e2 e3 e4 e5 e6 e7 e8)) (hl : okSeen l) : AC mX6_forget d 0 0 n h [aR 52] (aqi n fun v h' => v = (l.length : Int) ∧ h' 52 = aO 6 (mdl u p q 0 lt e1 e2 e3 e4 e5 e6 e7 e8) ∧ ∀ j, j ≠ 52 → h' j = h j) := by
  refine AC.of (by decide) (Nat.le_of_ble_eq_true rfl) ?_
  refine aw_aload_n dX6_forget_0 rfl ?_
  refine aw_get kg_X6_123 (by assumption) (by rfl) dX6_forget_1 ?_
  refine aw_istore_n dX6_forget_4 (by decide) ?_
  refine aw_aload_n dX6_forget_5 rfl ?_
  refine aw_iconst dX6_forget_6 ?_
  -- at 7: .putfield 123
  refine aw_putO kp_X6_123 (by assumption) (by simp) (aw_ni _) dX6_forget_7 (fun h' hr hf => ?_)
  refine aw_iload_n dX6_forget_10 rfl ?_
  -- at 11: .ireturn
  exact aw_iret rfl dX6_forget_11 ⟨rfl, _, rfl, rfl, hr, hf⟩
theorem c6_sees {N m s : Int} {u p q lt e1 e2 e3 e4 e5 e6 e7 e8 : Int} (hN : -2147483648 ≤ N ∧ N ≤ 2147483647) (hm : -2147483648 ≤ m ∧ m ≤ 2147483647) (hs : -2147483648 ≤ s ∧ s ≤ 2147483647) (h1 : h 52 = aO 6 (mdl u p q (l.length : Int) lt e1 e2 e3 e4 e5 e6 e7 e8)) (H : isSn h l) (hl : okSeen l) : AC mX6_sees (d + 10) 0 0 n h [aR 52, aI N, aI m, aI s]
    (aqi n fun v h' => (¬ seesOK N m s ∧ v = -1 ∧ h' = h) ∨ (seesOK N m s ∧ 6 ≤ l.length ∧ v = -3 ∧ h' = h) ∨ (seesOK N m s ∧ l.length < 6 ∧ v = (l.length : Int) + 1 ∧ h' 52 = aO 6 (mdl u p q ((l.length : Int) + 1) lt e1 e2 e3 e4 e5 e6 e7 e8) ∧ isSn h' (l ++ [(N, m, s)]) ∧ ∀ j, j ≠ 52 → (j < 55 ∨ 57 < j) → h' j = h j)) := by
  refine AC.of (by decide) (Nat.le_of_ble_eq_true rfl) ?_
  obtain ⟨f, g, t, h2, h3, h4, h5⟩ := H
  have hl6 := hl.1
  refine aw_iload_n dX6_sees_0 rfl ?_
  refine aw_i2l dX6_sees_1 (by omega) ?_
  refine aw_ldc2 kl_X6_126 dX6_sees_2 ?_
  refine aw_ldc2 kl_X6_193 dX6_sees_5 ?_
  -- at 8: .invokestatic 66
  refine aw_Si3 kc_X6_66 (c_in (d := d) hN (by decide) (by decide)) rfl (by omega) (Nat.le_of_ble_eq_true rfl) dX6_sees_8 (fun v h' q => ?_)
  obtain ⟨rfl, rfl⟩ := q
  refine aw_flag_eq (tgt := 36) dX6_sees_11 (by decide) (fun c1 => ?_) (fun c1 => ?_)
  · refine aw_iconst dX6_sees_36 ?_
    -- at 37: .ireturn
    exact aw_iret rfl dX6_sees_37 ⟨rfl, _, rfl, Or.inl ⟨fun z => c1 z.1, rfl, rfl⟩⟩
  · refine aw_iload_n dX6_sees_14 rfl ?_
    refine aw_i2l dX6_sees_15 (by omega) ?_
    refine aw_lconst (a := 1) dX6_sees_16 (by decide) ?_
    refine aw_ldc2 kl_X6_195 dX6_sees_17 ?_
    -- at 20: .invokestatic 66
    refine aw_Si3 kc_X6_66 (c_in (d := d) hm (by decide) (by decide)) rfl (by omega) (Nat.le_of_ble_eq_true rfl) dX6_sees_20 (fun v h' q => ?_)
    obtain ⟨rfl, rfl⟩ := q
    refine aw_flag_eq (tgt := 36) dX6_sees_23 (by decide) (fun c2 => ?_) (fun c2 => ?_)
    · refine aw_iconst dX6_sees_36 ?_
      -- at 37: .ireturn
      exact aw_iret rfl dX6_sees_37 ⟨rfl, _, rfl, Or.inl ⟨fun z => c2 z.2.1, rfl, rfl⟩⟩
    · refine aw_iload_n dX6_sees_26 rfl ?_
      refine aw_i2l dX6_sees_27 (by omega) ?_
      refine aw_lconst (a := 0) dX6_sees_28 (by decide) ?_
      refine aw_lconst (a := 1) dX6_sees_29 (by decide) ?_
      -- at 30: .invokestatic 66
      refine aw_Si3 kc_X6_66 (c_in (d := d) hs (by decide) (by decide)) rfl (by omega) (Nat.le_of_ble_eq_true rfl) dX6_sees_30 (fun v h' q => ?_)
      obtain ⟨rfl, rfl⟩ := q
      refine aw_flag_ne (tgt := 38) dX6_sees_33 (by decide) (fun c3 => ?_) (fun c3 => ?_)
      · refine aw_aload_n dX6_sees_38 rfl ?_
        refine aw_get kg_X6_123 (by assumption) (by rfl) dX6_sees_39 ?_
        refine aw_bipush dX6_sees_42 (by decide) ?_
        -- at 44: .if_icmp .ne 6
        refine aw_icmp_ne (tgt := 50) dX6_sees_44 (by omega) (by omega) (by decide) (fun c4 => ?_) (fun c4 => ?_)
        · refine aw_aload_n dX6_sees_50 rfl ?_
          refine aw_get kg_X6_24 (by assumption) (by rfl) dX6_sees_51 ?_
          refine aw_aload_n dX6_sees_54 rfl ?_
          refine aw_get kg_X6_123 (by assumption) (by rfl) dX6_sees_55 ?_
          refine aw_iload_n dX6_sees_58 rfl ?_
          -- at 59: .iastore
          refine aw_iastO (by assumption) (by omega) dX6_sees_59 (fun ha b1 f1 => ?_)
          have q48 := (f1 52 (by decide)).trans h1
          have q50 := (f1 56 (by decide)).trans h3
          have q51 := (f1 57 (by decide)).trans h4
          refine aw_aload_n dX6_sees_60 rfl ?_
          refine aw_get kg_X6_27 (by assumption) (by rfl) dX6_sees_61 ?_
          refine aw_aload_n dX6_sees_64 rfl ?_
          refine aw_get kg_X6_123 (by assumption) (by rfl) dX6_sees_65 ?_
          refine aw_iload_n dX6_sees_68 rfl ?_
          -- at 69: .iastore
          refine aw_iastO (by assumption) (by omega) dX6_sees_69 (fun hb b2 f2 => ?_)
          have r48 := (f2 52 (by decide)).trans q48
          have r49 := (f2 55 (by decide)).trans b1
          have r51 := (f2 57 (by decide)).trans q51
          refine aw_aload_n dX6_sees_70 rfl ?_
          refine aw_get kg_X6_30 (by assumption) (by rfl) dX6_sees_71 ?_
          refine aw_aload_n dX6_sees_74 rfl ?_
          refine aw_get kg_X6_123 (by assumption) (by rfl) dX6_sees_75 ?_
          refine aw_iload_n dX6_sees_78 rfl ?_
          -- at 79: .iastore
          refine aw_iastO (by assumption) (by omega) dX6_sees_79 (fun hc b3 f3 => ?_)
          have t48 := (f3 52 (by decide)).trans r48
          have t49 := (f3 55 (by decide)).trans r49
          have t50 := (f3 56 (by decide)).trans b2
          refine aw_aload_n dX6_sees_80 rfl ?_
          refine aw_dup dX6_sees_81 rfl ?_
          refine aw_get kg_X6_123 (by assumption) (by rfl) dX6_sees_82 ?_
          refine aw_iconst dX6_sees_85 ?_
          refine aw_iadd dX6_sees_86 ?_
          -- at 87: .putfield 123
          refine aw_putO kp_X6_123 (by assumption) (by simp) (aw_ni _) dX6_sees_87 (fun hd b4 f4 => ?_)
          have b4 : hd 52 = aO 6 (mdl u p q ((l.length : Int) + 1) lt e1 e2 e3 e4 e5 e6 e7 e8) := b4
          refine aw_aload_n dX6_sees_90 rfl ?_
          refine aw_get kg_X6_123 (by assumption) (by rfl) dX6_sees_91 ?_
          -- at 94: .ireturn
          refine aw_iret rfl dX6_sees_94 ⟨rfl, _, rfl, Or.inr (Or.inr ⟨⟨c1, c2, c3⟩, by omega, rfl, b4, ⟨_, _, _, (f4 55 (by decide)).trans t49, (f4 56 (by decide)).trans t50, (f4 57 (by decide)).trans b3, fun i hi => ?_⟩, fun j hj0 hj => ?_⟩)⟩
          · rw [gd_app]
            simp at hi
            simp only [Int.toNat_natCast]
            by_cases q : i < l.length
            · rw [if_pos q, va_up_n _ _ _ (by omega), va_up_n _ _ _ (by omega), va_up_n _ _ _ (by omega)]
              exact h5 i q
            · have : i = l.length := by omega
              subst this
              rw [if_neg q, if_pos rfl, va_up_s, va_up_s, va_up_s]
              exact ⟨rfl, rfl, rfl⟩
          · rw [f4 j (by omega), f3 j (by omega), f2 j (by omega), f1 j (by omega)]
        · refine aw_bipush dX6_sees_47 (by decide) ?_
          -- at 49: .ireturn
          exact aw_iret rfl dX6_sees_49 ⟨rfl, _, rfl, Or.inr (Or.inl ⟨⟨c1, c2, c3⟩, by omega, rfl, rfl⟩)⟩
      · refine aw_iconst dX6_sees_36 ?_
        -- at 37: .ireturn
        exact aw_iret rfl dX6_sees_37 ⟨rfl, _, rfl, Or.inl ⟨fun z => c3 z.2.2, rfl, rfl⟩⟩
end Wit
