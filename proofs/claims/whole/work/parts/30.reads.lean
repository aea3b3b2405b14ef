/-! the reference's reader -/
theorem tk_end {t : List Int} (ht : okTx t) {ps : Nat} (hp : ps ≤ t.length) (h : tkS t ps = -1) : stS t ps = t.length := by
  have h1 := stS_le hp
  unfold tkS at h
  by_cases q : t.length ≤ stS t ps
  · omega
  · rw [if_neg q] at h
    by_cases q2 : 48 ≤ t.getD (stS t ps) 0 ∧ t.getD (stS t ps) 0 ≤ 57
    · rw [if_pos q2] at h
      have := vS_rng ht hp (by omega) q2
      omega
    · rw [if_neg q2] at h
      have := ht.2 (stS t ps) (by omega)
      omega
theorem runS_bad {t : List Int} (ht : okTx t) {ps s f : Nat} {P Q : Int} {l : List Int} (hp : ps ≤ t.length) (h : (tkS t ps = -1 ∧ s ≠ 0 ∧ s ≠ 4 ∧ s ≠ 7) ∨ (tkS t ps ≠ -1 ∧ (foll (tkS t ps) s P Q l).1 = 8)) : (runS t (f + 1) s ps P Q l).1 = -10 - (stS t ps : Int) := by
  rw [runS]
  rcases h with ⟨h1, h2, h3, h4⟩ | ⟨h1, h2⟩
  · rw [if_pos h1, finS, if_neg h2, if_neg h3, if_neg h4, tk_end ht hp h1]
  · rw [if_neg h1, if_pos h2]
theorem runS_go {t : List Int} {ps s f s' : Nat} {P Q P' Q' : Int} {l l' : List Int} (h1 : tkS t ps ≠ -1) (h2 : foll (tkS t ps) s P Q l = (s', P', Q', l')) (h3 : s' ≠ 8) : runS t (f + 1) s ps P Q l = runS t f s' (nxS t ps) P' Q' l' := by
  rw [runS, if_neg h1, h2, if_neg h3]
theorem foll5 {tk P Q : Int} {l : List Int} {s : Nat} (hs : s = 5 ∨ (s = 6 ∧ tk ≠ 59)) : foll tk s P Q l = if trmOK tk l then (6, P, Q, l ++ [tk - 1000]) else (8, P, Q, l) := by
  rcases hs with rfl | ⟨rfl, h⟩
  · unfold foll
    rw [if_neg (by omega), if_neg (by omega), if_neg (by omega), if_neg (by omega), if_neg (by omega), if_pos rfl]
  · unfold foll
    rw [if_neg (by omega), if_neg (by omega), if_neg (by omega), if_neg (by omega), if_neg (by omega), if_neg (by omega), if_pos rfl, if_neg h]
theorem foll6 {P Q : Int} {l : List Int} : foll 59 6 P Q l = if whS P Q l then (7, P, Q, l) else (8, P, Q, l) := by
  unfold foll
  rw [if_neg (by omega), if_neg (by omega), if_neg (by omega), if_neg (by omega), if_neg (by omega), if_neg (by omega), if_pos rfl, if_pos rfl]
def isNT (h : AH) (l : List Int) : Prop := ∃ f, h 59 = aA 0 8 f ∧ ∀ i, i < l.length → f i = l.getD i 0
section Reads
variable {d n : Nat} {h : AH} {t l : List Int} {u p q sn it P Q nm tp : Int}
/-- the current token is the one at ps -/
abbrev cur (t : List Int) (u p q sn it P Q nm tp : Int) (ps : Nat) : List AV := mdl u p q sn (t.length : Int) (nxS t ps : Int) (stS t ps : Int) (tkS t ps) it P Q nm tp
theorem c6_isNumber {tk a b lt e1 e2 : Int} (ha : 0 ≤ a ∧ a ≤ 100) (hb : 0 ≤ b ∧ b ≤ 100) (hk : -1 ≤ tk ∧ tk ≤ 2000) (h1 : h 52 = aO 6 (mdl u p q sn lt e1 e2 tk it P Q nm tp)) : AC mX6_isNumber (d + 1) 0 0 n h [aR 52, aI a, aI b] (aqi n fun v h' => v = (if 1000 + a ≤ tk ∧ tk ≤ 1000 + b then 1 else 0) ∧ h' = h) := by
  refine AC.of (by decide) (Nat.le_of_ble_eq_true rfl) ?_
  refine aw_aload_n dX6_isNumber_0 rfl ?_
  refine aw_get kg_X6_79 (by assumption) (by rfl) dX6_isNumber_1 ?_
  refine aw_i2l dX6_isNumber_4 (by omega) ?_
  refine aw_sipush dX6_isNumber_5 (by decide) ?_
  refine aw_iload_n dX6_isNumber_8 rfl ?_
  refine aw_iadd dX6_isNumber_9 ?_
  refine aw_i2l dX6_isNumber_10 (by omega) ?_
  refine aw_sipush dX6_isNumber_11 (by decide) ?_
  refine aw_iload_n dX6_isNumber_14 rfl ?_
  refine aw_iadd dX6_isNumber_15 ?_
  refine aw_i2l dX6_isNumber_16 (by omega) ?_
  -- at 17: .invokestatic 66
  refine aw_Si3 kc_X6_66 (c_in (d := d) (by omega) (by omega) (by omega)) rfl (by omega) (Nat.le_of_ble_eq_true rfl) dX6_isNumber_17 (fun v h' q => ?_)
  obtain ⟨rfl, rfl⟩ := q
  exact aw_zret rfl dX6_isNumber_20 (by split <;> simp) ⟨rfl, _, rfl, rfl, rfl⟩
theorem c6_readsEnd {ps : Nat} (h1 : h 52 = aO 6 (cur t u p q sn it P Q nm tp ps)) (H : isTy h t) (ht : okTx t) (hps : ps ≤ t.length) : AC mX6_readsEnd (d + 4) 0 0 n h [aR 52] (aqi n fun v h' => (tkS t ps = 59 ∧ v = 1 ∧ h' 52 = aO 6 (cur t u p q sn (it + 1) P Q nm tp (nxS t ps)) ∧ ∀ j, j ≠ 52 → h' j = h j) ∨ (tkS t ps ≠ 59 ∧ v = 0 ∧ h' = h)) := by
  refine AC.of (by decide) (Nat.le_of_ble_eq_true rfl) ?_
  have htk := tkS_rng ht hps
  have hnx := nxS_le hps
  refine aw_aload_n dX6_readsEnd_0 rfl ?_
  refine aw_get kg_X6_79 (by assumption) (by rfl) dX6_readsEnd_1 ?_
  refine aw_bipush dX6_readsEnd_4 (by decide) ?_
  -- at 6: .if_icmp .ne 7
  refine aw_icmp_ne (tgt := 13) dX6_readsEnd_6 (by omega) (by omega) (by decide) (fun c1 => ?_) (fun c1 => ?_)
  · refine aw_iconst dX6_readsEnd_13 ?_
    refine aw_istore_n dX6_readsEnd_14 (by decide) ?_
    refine aw_iload_n dX6_readsEnd_15 rfl ?_
    -- at 16: .ifCond .eq 17
    refine aw_if_eq (tgt := 33) dX6_readsEnd_16 (by omega) (by decide) (fun c2 => ?_) (fun c2 => ?_)
    · refine aw_iload_n dX6_readsEnd_33 rfl ?_
      -- at 34: .ireturn
      exact aw_zret rfl dX6_readsEnd_34 (by omega) ⟨rfl, _, rfl, Or.inr ⟨c1, rfl, rfl⟩⟩
    · omega
  · refine aw_iconst dX6_readsEnd_9 ?_
    refine aw_goto (tgt := 14) dX6_readsEnd_10 (by decide) ?_
    refine aw_istore_n dX6_readsEnd_14 (by decide) ?_
    refine aw_iload_n dX6_readsEnd_15 rfl ?_
    -- at 16: .ifCond .eq 17
    refine aw_if_eq (tgt := 33) dX6_readsEnd_16 (by omega) (by decide) (fun c2 => ?_) (fun c2 => ?_)
    · omega
    · refine aw_aload_n dX6_readsEnd_19 rfl ?_
      -- at 20: .invokevirtual 86
      refine aw_Vv0 kc_X6_86 (c6_take (d := d) h1 H ht hnx.2) (by assumption) rfl rfl (by omega) (Nat.le_of_ble_eq_true rfl) dX6_readsEnd_20 (fun h2 q => ?_)
      have q1 := q.1
      refine aw_aload_n dX6_readsEnd_23 rfl ?_
      refine aw_dup dX6_readsEnd_24 rfl ?_
      refine aw_get kg_X6_89 (by assumption) (by rfl) dX6_readsEnd_25 ?_
      refine aw_iconst dX6_readsEnd_28 ?_
      refine aw_iadd dX6_readsEnd_29 ?_
      -- at 30: .putfield 89
      refine aw_putO kp_X6_89 (by assumption) (by simp) (aw_ni _) dX6_readsEnd_30 (fun h3 b3 f3 => ?_)
      refine aw_iload_n dX6_readsEnd_33 rfl ?_
      -- at 34: .ireturn
      exact aw_zret rfl dX6_readsEnd_34 (by omega) ⟨rfl, _, rfl, Or.inl ⟨by omega, rfl, b3, fun j hj => (f3 j hj).trans (q.2 j hj)⟩⟩
theorem wh_step (P Q A B x : Int) : (P * B - Q * A) * x - Q * B = P * (B * x) - Q * (A * x + B) := by
  rw [Int.sub_mul, Int.mul_add, Int.mul_assoc, Int.mul_assoc]
  omega
theorem wh_loop {Z : AZ} {R : Room} {lt e1 e2 tk : Int} (h1 : h 52 = aO 6 (mdl u p q sn lt e1 e2 tk it P Q (l.length : Int) tp)) (H : isNT h l) (hl : le60 l) (hP : 1 ≤ P ∧ P ≤ 99) (hQ : 1 ≤ Q ∧ Q ≤ 99)
    (kk : ∀ L, lk L 1 = some (aL (P * (AB l l.length).2 - Q * (AB l l.length).1)) → AW mX6_isWhole R Z 0 0 n h 54 L []) :
    ∀ (m e : Nat), m + e = l.length → AW mX6_isWhole R Z 0 0 n h 15 [some (aR 52), some (aL (P * (AB l e).2 - Q * (AB l e).1)), none, some (aL (Q * (AB l e).2)), none, some (aI (e : Int))] [] := by
  obtain ⟨f, h2, h3⟩ := H
  have hl8 := hl.1
  intro m
  induction m with
  | zero =>
    intro e he
    have : e = l.length := by omega
    refine aw_iload dX6_isWhole_15 rfl ?_
    refine aw_aload_n dX6_isWhole_17 rfl ?_
    refine aw_get kg_X6_106 (by assumption) (by rfl) dX6_isWhole_18 ?_
    -- at 21: .if_icmp .ge 33
    refine aw_icmp_ge (tgt := 54) dX6_isWhole_21 (by omega) (by omega) (by decide) (fun c1 => ?_) (fun c1 => ?_)
    · exact kk _ (by rw [← this]; rfl)
    · omega
  | succ m ih =>
    intro e he
    have hx := hl.2 e (by omega)
    have K := ih (e + 1) (by omega)
    rw [show ((e + 1 : Nat) : Int) = (e : Int) + 1 by omega] at K
    simp only [AB] at K
    rw [← wh_step, ← Int.mul_assoc] at K
    refine aw_iload dX6_isWhole_15 rfl ?_
    refine aw_aload_n dX6_isWhole_17 rfl ?_
    refine aw_get kg_X6_106 (by assumption) (by rfl) dX6_isWhole_18 ?_
    -- at 21: .if_icmp .ge 33
    refine aw_icmp_ge (tgt := 54) dX6_isWhole_21 (by omega) (by omega) (by decide) (fun c1 => ?_) (fun c1 => ?_)
    · omega
    · refine aw_lload_n dX6_isWhole_24 rfl ?_
      refine aw_aload_n dX6_isWhole_25 rfl ?_
      refine aw_get kg_X6_36 (by assumption) (by rfl) dX6_isWhole_26 ?_
      refine aw_iload dX6_isWhole_29 rfl ?_
      refine aw_iald (by assumption) (by omega) dX6_isWhole_31 ?_
      refine aw_val (w := aI (l.getD e 0)) (by rw [Int.toNat_natCast, h3 e (by omega)]) ?_
      refine aw_i2l dX6_isWhole_32 (by omega) ?_
      refine aw_lmul dX6_isWhole_33 ?_
      refine aw_lload_n dX6_isWhole_34 rfl ?_
      refine aw_lsub dX6_isWhole_35 ?_
      refine aw_lstore_n dX6_isWhole_36 (by decide) ?_
      refine aw_lload_n dX6_isWhole_37 rfl ?_
      refine aw_aload_n dX6_isWhole_38 rfl ?_
      refine aw_get kg_X6_36 (by assumption) (by rfl) dX6_isWhole_39 ?_
      refine aw_iload dX6_isWhole_42 rfl ?_
      refine aw_iald (by assumption) (by omega) dX6_isWhole_44 ?_
      refine aw_val (w := aI (l.getD e 0)) (by rw [Int.toNat_natCast, h3 e (by omega)]) ?_
      refine aw_i2l dX6_isWhole_45 (by omega) ?_
      refine aw_lmul dX6_isWhole_46 ?_
      refine aw_lstore_n dX6_isWhole_47 (by decide) ?_
      refine aw_iinc dX6_isWhole_48 rfl (by decide) ?_
      refine aw_goto (tgt := 15) dX6_isWhole_51 (by decide) ?_
      exact K
theorem c6_isWhole {lt e1 e2 tk : Int} (h1 : h 52 = aO 6 (mdl u p q sn lt e1 e2 tk it P Q (l.length : Int) tp)) (H : isNT h l) (hl : le60 l) (hP : 1 ≤ P ∧ P ≤ 99) (hQ : 1 ≤ Q ∧ Q ≤ 99) : AC mX6_isWhole d 0 0 n h [aR 52] (aqi n fun v h' => v = (if whS P Q l then 1 else 0) ∧ h' = h) := by
  refine AC.of (by decide) (Nat.le_of_ble_eq_true rfl) ?_
  obtain ⟨hA, hB⟩ := AB_num hl (Nat.le_refl _)
  have m1 : Q * (AB l l.length).1 ≤ 99 * 1343692800000000 := Int.mul_le_mul hQ.2 hA.2 hA.1 (by omega)
  have m2 : P * (AB l l.length).2 ≤ 99 * 167961600000000 := Int.mul_le_mul hP.2 hB.2 (by omega) (by omega)
  have m3 : 0 ≤ Q * (AB l l.length).1 := Int.mul_nonneg (by omega) hA.1
  have m4 : 0 ≤ P * (AB l l.length).2 := Int.mul_nonneg (by omega) (by omega)
  refine aw_aload_n dX6_isWhole_0 rfl ?_
  refine aw_get kg_X6_96 (by assumption) (by rfl) dX6_isWhole_1 ?_
  refine aw_i2l dX6_isWhole_4 (by omega) ?_
  refine aw_lstore_n dX6_isWhole_5 (by decide) ?_
  refine aw_aload_n dX6_isWhole_6 rfl ?_
  refine aw_get kg_X6_99 (by assumption) (by rfl) dX6_isWhole_7 ?_
  refine aw_i2l dX6_isWhole_10 (by omega) ?_
  refine aw_lstore_n dX6_isWhole_11 (by decide) ?_
  refine aw_iconst dX6_isWhole_12 ?_
  refine aw_istore dX6_isWhole_13 (by decide) ?_
  have K := wh_loop (n := n) (R := am_R d 0 0) (Z := am_Z (aqi n fun v h' => v = (if whS P Q l then 1 else 0) ∧ h' = h) 0 0) h1 H hl hP hQ (fun L hL => by
    refine aw_lload_n dX6_isWhole_54 hL ?_
    refine aw_lconst (a := 0) dX6_isWhole_55 (by decide) ?_
    -- at 56: .lcmp
    refine aw_lcmp_ne (tgt := 64) dX6_isWhole_56 dX6_isWhole_57 (by omega) (by omega) (by decide) (fun c1 => ?_) (fun c1 => ?_)
    · refine aw_iconst dX6_isWhole_64 ?_
      -- at 65: .ireturn
      exact aw_zret rfl dX6_isWhole_65 (by omega) ⟨rfl, _, rfl, by rw [if_neg (fun z => c1 (by rw [whS, Int.mul_comm, Int.mul_comm _ P] at z; omega))], rfl⟩
    · refine aw_iconst dX6_isWhole_60 ?_
      refine aw_goto (tgt := 65) dX6_isWhole_61 (by decide) ?_
      -- at 65: .ireturn
      exact aw_zret rfl dX6_isWhole_65 (by omega) ⟨rfl, _, rfl, by rw [if_pos (by rw [whS, Int.mul_comm, Int.mul_comm _ P]; omega)], rfl⟩) l.length 0 (by omega)
  have e1 : P * (AB l 0).2 - Q * (AB l 0).1 = P := by simp [AB]
  have e2 : Q * (AB l 0).2 = Q := by simp [AB]
  rw [e1, e2] at K
  exact K
/-- behind a reader of the reference: where it stands, and what the spec says of it -/
def rsQ (t : List Int) (T : Int × Int × Int × List Int) (u p q sn tp : Int) (it' : Int) (s' : Nat) (h h' : AH) (v : Int) : Prop :=
  (v = 1 ∧ ∃ (ps' f' : Nat) (P' Q' : Int) (l' : List Int), ps' ≤ t.length ∧ 13 ≤ f' + (if s' = 7 then 13 else 0) ∧ 1 ≤ f' ∧ T = runS t f' s' ps' P' Q' l' ∧ okSt s' P' Q' l' ∧ (s' = 4 → l' = []) ∧ h' 52 = aO 6 (cur t u p q sn it' P' Q' (l'.length : Int) tp ps') ∧ isNT h' l' ∧ ∀ j, j ≠ 52 → j ≠ 59 → h' j = h j) ∨
  (v = 0 ∧ ∃ (ps' : Nat) (it'' P' Q' nm' : Int), ps' ≤ t.length ∧ T.1 = -10 - (stS t ps' : Int) ∧ h' 52 = aO 6 (cur t u p q sn it'' P' Q' nm' tp ps') ∧ (∃ f, h' 59 = aA 0 8 f) ∧ ∀ j, j ≠ 52 → j ≠ 59 → h' j = h j)
theorem sum_loop {T : Int × Int × Int × List Int} (H : isTy h t) (ht : okTx t) :
    ∀ (m : Nat) (l : List Int) (s f ps : Nat) (h1 : AH), m + l.length = 9 → (s = 5 ∧ l.length = 0 ∨ s = 6 ∧ 0 < l.length) → m + 3 ≤ f → ps ≤ t.length → okSt s P Q l → h1 52 = aO 6 (cur t u p q sn it P Q (l.length : Int) tp ps) → isNT h1 l → (∀ j, j ≠ 52 → j ≠ 59 → h1 j = h j) → runS t f s ps P Q l = T →
      AW mX6_readsSum (am_R (d + 6) 0 0) (am_Z (aqi n fun v h' => rsQ t T u p q sn tp (it + 1) 7 h h' v) 0 0) 0 0 n h1 4 [some (aR 52)] [] := by
  intro m
  induction m with
  | zero => intro l s f ps h1 hm _ _ _ ok; have := ok.2.2.1.1; omega
  | succ m ih =>
    intro l s f ps h1 hm hs hf hps ok h52 hnt hfr hT
    obtain ⟨hP, hQ, hl, hri, hPQ⟩ := id ok
    have hl8 := hl.1
    have htk := tkS_rng ht hps
    have hnx := nxS_le hps
    have hty := H.fr (h' := h1) (hfr 58 (by decide) (by decide))
    obtain ⟨g, hg, hgi⟩ := id hnt
    obtain ⟨f, rfl⟩ : ∃ k, f = k + 1 := ⟨f - 1, by omega⟩
    have bad : (tkS t ps = -1 ∨ (tkS t ps ≠ -1 ∧ (foll (tkS t ps) s P Q l).1 = 8)) → ∀ L pc, decode cX6_readsSum pc = .ok (.ireturn, 1) → AW mX6_readsSum (am_R (d + 6) 0 0) (am_Z (aqi n fun v h' => rsQ t T u p q sn tp (it + 1) 7 h h' v) 0 0) 0 0 n h1 pc L [aI 0] := by
      intro hb L pc hd
      refine aw_zret rfl hd (by omega) ⟨rfl, _, rfl, Or.inr ⟨rfl, ps, _, _, _, _, hps, ?_, h52, ⟨g, hg⟩, hfr⟩⟩
      rw [← hT]
      exact runS_bad ht hps (hb.imp (fun z => ⟨z, by omega, by omega, by omega⟩) id)
    refine aw_aload_n dX6_readsSum_4 rfl ?_
    refine aw_iconst dX6_readsSum_5 ?_
    refine aw_bipush dX6_readsSum_6 (by decide) ?_
    -- at 8: .invokevirtual 92
    refine aw_Vi2 kc_X6_92 (c6_isNumber (d := d) (by decide) (by decide) ⟨htk.1, htk.2.1⟩ h52) (by assumption) rfl rfl (by omega) (Nat.le_of_ble_eq_true rfl) dX6_readsSum_8 (fun v h' q => ?_)
    obtain ⟨rfl, rfl⟩ := q
    refine aw_flag_eq (tgt := 88) dX6_readsSum_11 (by decide) (fun c1 => ?_) (fun c1 => ?_)
    · -- no number of this kind
      have nt : ¬ trmOK (tkS t ps) l := fun z => c1 (by have := z.1; omega)
      refine aw_aload_n dX6_readsSum_88 rfl ?_
      refine aw_get kg_X6_106 (by assumption) (by rfl) dX6_readsSum_89 ?_
      -- at 92: .ifCond .le 30
      refine aw_if_le (tgt := 122) dX6_readsSum_92 (by omega) (by decide) (fun c2 => ?_) (fun c2 => ?_)
      · refine aw_iconst dX6_readsSum_122 ?_
        -- at 123: .ireturn
        refine bad ?_ _ _ dX6_readsSum_123
        by_cases z : tkS t ps = -1
        · exact Or.inl z
        · exact Or.inr ⟨z, by rw [foll5 (by omega), if_neg nt]⟩
      · have hs6 : s = 6 := by omega
        subst hs6
        refine aw_aload_n dX6_readsSum_95 rfl ?_
        refine aw_get kg_X6_79 (by assumption) (by rfl) dX6_readsSum_96 ?_
        refine aw_bipush dX6_readsSum_99 (by decide) ?_
        -- at 101: .if_icmp .ne 10
        refine aw_icmp_ne (tgt := 111) dX6_readsSum_101 (by omega) (by omega) (by decide) (fun c3 => ?_) (fun c3 => ?_)
        · refine aw_aload_n dX6_readsSum_111 rfl ?_
          -- at 112: .invokevirtual 102
          refine aw_Vi0 kc_X6_102 (c6_readsEnd (d := d) h52 hty ht hps) (by assumption) rfl rfl (by omega) (Nat.le_of_ble_eq_true rfl) dX6_readsSum_112 (fun v h2 q => ?_)
          rcases q with ⟨q1, -⟩ | ⟨q1, rfl, rfl⟩
          · exact absurd q1 c3
          · refine aw_if_eq (tgt := 122) dX6_readsSum_115 (by omega) (by decide) (fun c4 => ?_) (fun c4 => ?_)
            · refine aw_iconst dX6_readsSum_122 ?_
              -- at 123: .ireturn
              refine bad ?_ _ _ dX6_readsSum_123
              by_cases z : tkS t ps = -1
              · exact Or.inl z
              · exact Or.inr ⟨z, by rw [foll5 (Or.inr ⟨rfl, c3⟩), if_neg nt]⟩
            · omega
        · have e59 : tkS t ps = 59 := by omega
          refine aw_aload_n dX6_readsSum_104 rfl ?_
          -- at 105: .invokevirtual 109
          refine aw_Vi0 kc_X6_109 (c6_isWhole (d := d) h52 hnt hl hP hQ) (by assumption) rfl rfl (by omega) (Nat.le_of_ble_eq_true rfl) dX6_readsSum_105 (fun v h2 q => ?_)
          obtain ⟨rfl, rfl⟩ := q
          refine aw_flag_eq (tgt := 122) dX6_readsSum_108 (by decide) (fun c4 => ?_) (fun c4 => ?_)
          · refine aw_iconst dX6_readsSum_122 ?_
            -- at 123: .ireturn
            exact bad (Or.inr ⟨by omega, by rw [e59, foll6, if_neg c4]⟩) _ _ dX6_readsSum_123
          · refine aw_aload_n dX6_readsSum_111 rfl ?_
            -- at 112: .invokevirtual 102
            refine aw_Vi0 kc_X6_102 (c6_readsEnd (d := d) h52 hty ht hps) (by assumption) rfl rfl (by omega) (Nat.le_of_ble_eq_true rfl) dX6_readsSum_112 (fun v h3 q => ?_)
            rcases q with ⟨q1, rfl, q3, q4⟩ | ⟨q1, -⟩
            · refine aw_if_eq (tgt := 122) dX6_readsSum_115 (by omega) (by decide) (fun c5 => ?_) (fun c5 => ?_)
              · omega
              · refine aw_iconst dX6_readsSum_118 ?_
                refine aw_goto (tgt := 123) dX6_readsSum_119 (by decide) ?_
                -- at 123: .ireturn
                refine aw_zret rfl dX6_readsSum_123 (by omega) ⟨rfl, _, rfl, Or.inl ⟨rfl, nxS t ps, f, P, Q, l, hnx.2, by simp, by omega, ?_, ⟨hP, hQ, hl, hri, fun _ => hPQ (by omega)⟩, by omega, q3, ⟨g, (q4 59 (by decide)).trans hg, hgi⟩, fun j j1 j2 => (q4 j j1).trans (hfr j j1 j2)⟩⟩
                rw [← hT]
                exact runS_go (by omega) (by rw [e59, foll6, if_pos c4]) (by omega)
            · exact absurd e59 q1
    · refine aw_aload_n dX6_readsSum_14 rfl ?_
      refine aw_get kg_X6_106 (by assumption) (by rfl) dX6_readsSum_15 ?_
      refine aw_bipush dX6_readsSum_18 (by decide) ?_
      -- at 20: .if_icmp .eq 32
      refine aw_icmp_eq (tgt := 52) dX6_readsSum_20 (by omega) (by omega) (by decide) (fun c2 => ?_) (fun c2 => ?_)
      · refine aw_iconst dX6_readsSum_52 ?_
        -- at 53: .ireturn
        refine bad (Or.inr ⟨by omega, ?_⟩) _ _ dX6_readsSum_53
        rw [foll5 (by omega), if_neg (fun z => by have := z.2.2; omega)]
      · have go54 : lastv l < tkS t ps - 1000 → AW mX6_readsSum (am_R (d + 6) 0 0) (am_Z (aqi n fun v h' => rsQ t T u p q sn tp (it + 1) 7 h h' v) 0 0) 0 0 n h' 54 [some (aR 52)] [] := by
          intro hlast
          have tok : trmOK (tkS t ps) l := ⟨by omega, hlast, by omega⟩
          refine aw_aload_n dX6_readsSum_54 rfl ?_
          refine aw_get kg_X6_36 (by assumption) (by rfl) dX6_readsSum_55 ?_
          refine aw_aload_n dX6_readsSum_58 rfl ?_
          refine aw_get kg_X6_106 (by assumption) (by rfl) dX6_readsSum_59 ?_
          refine aw_aload_n dX6_readsSum_62 rfl ?_
          refine aw_get kg_X6_79 (by assumption) (by rfl) dX6_readsSum_63 ?_
          refine aw_sipush dX6_readsSum_66 (by decide) ?_
          refine aw_isub dX6_readsSum_69 ?_
          -- at 70: .iastore
          refine aw_iastO (by assumption) (by omega) dX6_readsSum_70 (fun h2 b2 f2 => ?_)
          have q52 := (f2 52 (by decide)).trans h52
          refine aw_aload_n dX6_readsSum_71 rfl ?_
          refine aw_dup dX6_readsSum_72 rfl ?_
          refine aw_get kg_X6_106 (by assumption) (by rfl) dX6_readsSum_73 ?_
          refine aw_iconst dX6_readsSum_76 ?_
          refine aw_iadd dX6_readsSum_77 ?_
          -- at 78: .putfield 106
          refine aw_putO kp_X6_106 (by assumption) (by simp) (aw_ni _) dX6_readsSum_78 (fun h3 b3 f3 => ?_)
          have b3 : h3 52 = aO 6 (cur t u p q sn it P Q ((l.length : Int) + 1) tp ps) := b3
          have hty3 : isTy h3 t := H.fr ((f3 58 (by decide)).trans ((f2 58 (by decide)).trans (hfr 58 (by decide) (by decide))))
          refine aw_aload_n dX6_readsSum_81 rfl ?_
          -- at 82: .invokevirtual 86
          refine aw_Vv0 kc_X6_86 (c6_take (d := d) b3 hty3 ht hnx.2) (by assumption) rfl rfl (by omega) (Nat.le_of_ble_eq_true rfl) dX6_readsSum_82 (fun h4 q => ?_)
          obtain ⟨q1, q2⟩ := q
          refine aw_goto (tgt := 4) dX6_readsSum_85 (by decide) ?_
          refine ih (l ++ [tkS t ps - 1000]) 6 f (nxS t ps) h4 (by simp; omega) (Or.inr ⟨rfl, by simp⟩) (by omega) hnx.2 (okSt_app ok (by omega) tok) (by rw [q1]; simp) ⟨_, ((q2 59 (by decide)).trans (f3 59 (by decide))).trans b2, fun i hi => ?_⟩ (fun j j1 j2 => ((q2 j j1).trans (f3 j j1)).trans ((f2 j j2).trans (hfr j j1 j2))) ?_
          · rw [gd_app]
            simp at hi
            rw [Int.toNat_natCast]
            by_cases z : i < l.length
            · rw [if_pos z, va_up_n _ _ _ (by omega)]
              exact hgi i z
            · have : i = l.length := by omega
              subst this
              rw [if_neg z, if_pos rfl, va_up_s]
          · rw [← hT]
            exact (runS_go (by omega) (by rw [foll5 (by omega), if_pos tok]) (by omega)).symm
        refine aw_aload_n dX6_readsSum_23 rfl ?_
        refine aw_get kg_X6_106 (by assumption) (by rfl) dX6_readsSum_24 ?_
        -- at 27: .ifCond .le 27
        refine aw_if_le (tgt := 54) dX6_readsSum_27 (by omega) (by decide) (fun c3 => ?_) (fun c3 => ?_)
        · refine go54 ?_
          rw [lastv, if_pos (by omega)]
          omega
        · have hlv : lastv l = l.getD (l.length - 1) 0 := by rw [lastv, if_neg (by omega)]
          have hx := hl.2 (l.length - 1) (by omega)
          refine aw_aload_n dX6_readsSum_30 rfl ?_
          refine aw_get kg_X6_79 (by assumption) (by rfl) dX6_readsSum_31 ?_
          refine aw_sipush dX6_readsSum_34 (by decide) ?_
          refine aw_isub dX6_readsSum_37 ?_
          refine aw_aload_n dX6_readsSum_38 rfl ?_
          refine aw_get kg_X6_36 (by assumption) (by rfl) dX6_readsSum_39 ?_
          refine aw_aload_n dX6_readsSum_42 rfl ?_
          refine aw_get kg_X6_106 (by assumption) (by rfl) dX6_readsSum_43 ?_
          refine aw_iconst dX6_readsSum_46 ?_
          refine aw_isub dX6_readsSum_47 ?_
          refine aw_iald (by assumption) (by omega) dX6_readsSum_48 ?_
          -- at 49: .if_icmp .gt 5
          refine aw_val (w := aI (lastv l)) (by rw [show ((l.length : Int) - 1).toNat = l.length - 1 by omega, hgi _ (by omega), hlv]) ?_
          refine aw_icmp_gt (tgt := 54) dX6_readsSum_49 (by omega) (by omega) (by decide) (fun c4 => ?_) (fun c4 => ?_)
          · exact go54 (by omega)
          · refine aw_iconst dX6_readsSum_52 ?_
            -- at 53: .ireturn
            refine bad (Or.inr ⟨by omega, ?_⟩) _ _ dX6_readsSum_53
            rw [foll5 (by omega), if_neg (fun z => by have := z.2.1; omega)]
theorem c6_readsSum {T : Int × Int × Int × List Int} {ps f : Nat} (h1 : h 52 = aO 6 (cur t u p q sn it P Q 0 tp ps)) (H : isTy h t) (ht : okTx t) (hps : ps ≤ t.length) (h59 : ∃ g, h 59 = aA 0 8 g) (ok : okSt 5 P Q []) (hf : 12 ≤ f) (hT : runS t f 5 (nxS t ps) P Q [] = T) :
    AC mX6_readsSum (d + 6) 0 0 n h [aR 52] (aqi n fun v h' => rsQ t T u p q sn tp (it + 1) 7 h h' v) := by
  refine AC.of (by decide) (Nat.le_of_ble_eq_true rfl) ?_
  have hnx := nxS_le hps
  obtain ⟨g, hg⟩ := h59
  refine aw_aload_n dX6_readsSum_0 rfl ?_
  -- at 1: .invokevirtual 86
  refine aw_Vv0 kc_X6_86 (c6_take (d := d) h1 H ht hnx.2) (by assumption) rfl rfl (by omega) (Nat.le_of_ble_eq_true rfl) dX6_readsSum_1 (fun h2 q => ?_)
  obtain ⟨q1, q2⟩ := q
  exact sum_loop H ht 9 [] 5 f (nxS t ps) h2 rfl (Or.inl ⟨rfl, rfl⟩) (by omega) hnx.2 ok q1 ⟨g, (q2 59 (by decide)).trans hg, fun i hi => absurd hi (by simp)⟩ (fun j j1 _ => q2 j j1) hT
theorem c6_readsFraction {T : Int × Int × Int × List Int} {ps f : Nat} (h1 : h 52 = aO 6 (cur t u p q sn it 2 3 0 tp ps)) (H : isTy h t) (ht : okTx t) (hps : ps ≤ t.length) (h59 : ∃ g, h 59 = aA 0 8 g) (hf : 20 ≤ f) (hT : runS t f 1 (nxS t ps) 2 3 [] = T) :
    AC mX6_readsFraction (d + 6) 0 0 n h [aR 52] (aqi n fun v h' => rsQ t T u p q sn tp (it + 1) 4 h h' v) := by
  refine AC.of (by decide) (Nat.le_of_ble_eq_true rfl) ?_
  have hn1 := (nxS_le hps).2
  have hn2 := (nxS_le hn1).2
  have hn3 := (nxS_le hn2).2
  have hn4 := (nxS_le hn3).2
  have k1 := tkS_rng ht hn1
  have k2 := tkS_rng ht hn2
  have k3 := tkS_rng ht hn3
  have hg := h59
  obtain ⟨f, rfl⟩ : ∃ k, f = k + 3 := ⟨f - 3, by omega⟩
  refine aw_aload_n dX6_readsFraction_0 rfl ?_
  -- at 1: .invokevirtual 86
  refine aw_Vv0 kc_X6_86 (c6_take (d := d) h1 H ht hn1) (by assumption) rfl rfl (by omega) (Nat.le_of_ble_eq_true rfl) dX6_readsFraction_1 (fun h2 q => ?_)
  obtain ⟨q1, q2⟩ := q
  have g2 : ∃ g, h2 59 = aA 0 8 g := by obtain ⟨g, hg⟩ := hg; exact ⟨g, (q2 59 (by decide)).trans hg⟩
  refine aw_aload_n dX6_readsFraction_4 rfl ?_
  refine aw_iconst dX6_readsFraction_5 ?_
  refine aw_bipush dX6_readsFraction_6 (by decide) ?_
  -- at 8: .invokevirtual 92
  refine aw_Vi2 kc_X6_92 (c6_isNumber (d := d) (by decide) (by decide) ⟨k1.1, k1.2.1⟩ q1) (by assumption) rfl rfl (by omega) (Nat.le_of_ble_eq_true rfl) dX6_readsFraction_8 (fun v h' q => ?_)
  obtain ⟨rfl, rfl⟩ := q
  refine aw_flag_ne (tgt := 16) dX6_readsFraction_11 (by decide) (fun c1 => ?_) (fun c1 => ?_)
  · -- the upper number
    have e1 : foll (tkS t (nxS t ps)) 1 2 3 [] = (2, tkS t (nxS t ps) - 1000, 3, []) := by
      have : 1001 ≤ tkS t (nxS t ps) ∧ tkS t (nxS t ps) ≤ 1099 := by omega
      simp [foll, this]
    rw [runS_go (by omega) e1 (by omega)] at hT
    refine aw_aload_n dX6_readsFraction_16 rfl ?_
    refine aw_aload_n dX6_readsFraction_17 rfl ?_
    refine aw_get kg_X6_79 (by assumption) (by rfl) dX6_readsFraction_18 ?_
    refine aw_sipush dX6_readsFraction_21 (by decide) ?_
    refine aw_isub dX6_readsFraction_24 ?_
    -- at 25: .putfield 96
    refine aw_putO kp_X6_96 (by assumption) (by simp) (aw_ni _) dX6_readsFraction_25 (fun h3 b3 f3 => ?_)
    have b3 : h3 52 = aO 6 (cur t u p q sn it (tkS t (nxS t ps) - 1000) 3 0 tp (nxS t ps)) := b3
    have hty3 : isTy h3 t := H.fr ((f3 58 (by decide)).trans (q2 58 (by decide)))
    have g3 : ∃ g, h3 59 = aA 0 8 g := by obtain ⟨g, hg⟩ := g2; exact ⟨g, (f3 59 (by decide)).trans hg⟩
    refine aw_aload_n dX6_readsFraction_28 rfl ?_
    -- at 29: .invokevirtual 86
    refine aw_Vv0 kc_X6_86 (c6_take (d := d) b3 hty3 ht hn2) (by assumption) rfl rfl (by omega) (Nat.le_of_ble_eq_true rfl) dX6_readsFraction_29 (fun h4 q => ?_)
    obtain ⟨b4, f4⟩ := q
    have g4 : ∃ g, h4 59 = aA 0 8 g := by obtain ⟨g, hg⟩ := g3; exact ⟨g, (f4 59 (by decide)).trans hg⟩
    have f4' : ∀ j, j ≠ 52 → j ≠ 59 → h4 j = h j := fun j j1 _ => ((f4 j j1).trans (f3 j j1)).trans (q2 j j1)
    have bad4 : ((foll (tkS t (nxS t (nxS t ps))) 2 (tkS t (nxS t ps) - 1000) 3 []).1 = 8) → ∀ L, AW mX6_readsFraction (am_R (d + 6) 0 0) (am_Z (aqi n fun v h' => rsQ t T u p q sn tp (it + 1) 4 h h' v) 0 0) 0 0 n h4 60 L [aI 0] := by
      intro hb L
      refine aw_zret rfl dX6_readsFraction_60 (by omega) ⟨rfl, _, rfl, Or.inr ⟨rfl, nxS t (nxS t ps), _, _, _, _, hn2, ?_, b4, g4, f4'⟩⟩
      rw [← hT]
      refine runS_bad ht hn2 ?_
      by_cases z : tkS t (nxS t (nxS t ps)) = -1
      · exact Or.inl ⟨z, by omega, by omega, by omega⟩
      · exact Or.inr ⟨z, hb⟩
    refine aw_aload_n dX6_readsFraction_32 rfl ?_
    refine aw_iconst dX6_readsFraction_33 ?_
    refine aw_bipush dX6_readsFraction_34 (by decide) ?_
    -- at 36: .invokevirtual 92
    refine aw_Vi2 kc_X6_92 (c6_isNumber (d := d) (by decide) (by decide) ⟨k2.1, k2.2.1⟩ b4) (by assumption) rfl rfl (by omega) (Nat.le_of_ble_eq_true rfl) dX6_readsFraction_36 (fun v h'' q => ?_)
    obtain ⟨rfl, rfl⟩ := q
    refine aw_flag_eq (tgt := 59) dX6_readsFraction_39 (by decide) (fun c2 => ?_) (fun c2 => ?_)
    · refine aw_iconst dX6_readsFraction_59 ?_
      -- at 60: .ireturn
      refine bad4 ?_ _
      have : ¬ ((1001 ≤ tkS t (nxS t (nxS t ps)) ∧ tkS t (nxS t (nxS t ps)) ≤ 1099) ∧ tkS t (nxS t ps) - 1000 ≤ 2 * (tkS t (nxS t (nxS t ps)) - 1000)) := by omega
      simp [foll, this]
    · refine aw_aload_n dX6_readsFraction_42 rfl ?_
      refine aw_get kg_X6_96 (by assumption) (by rfl) dX6_readsFraction_43 ?_
      refine aw_iconst dX6_readsFraction_46 ?_
      refine aw_aload_n dX6_readsFraction_47 rfl ?_
      refine aw_get kg_X6_79 (by assumption) (by rfl) dX6_readsFraction_48 ?_
      refine aw_sipush dX6_readsFraction_51 (by decide) ?_
      refine aw_isub dX6_readsFraction_54 ?_
      refine aw_imul dX6_readsFraction_55 ?_
      -- at 56: .if_icmp .le 5
      refine aw_icmp_le (tgt := 61) dX6_readsFraction_56 (by omega) (by omega) (by decide) (fun c3 => ?_) (fun c3 => ?_)
      · have e2 : foll (tkS t (nxS t (nxS t ps))) 2 (tkS t (nxS t ps) - 1000) 3 [] = (3, tkS t (nxS t ps) - 1000, tkS t (nxS t (nxS t ps)) - 1000, []) := by
          have : (1001 ≤ tkS t (nxS t (nxS t ps)) ∧ tkS t (nxS t (nxS t ps)) ≤ 1099) ∧ tkS t (nxS t ps) - 1000 ≤ 2 * (tkS t (nxS t (nxS t ps)) - 1000) := by omega
          simp [foll, this]
        rw [runS_go (by omega) e2 (by omega)] at hT
        refine aw_aload_n dX6_readsFraction_61 rfl ?_
        refine aw_aload_n dX6_readsFraction_62 rfl ?_
        refine aw_get kg_X6_79 (by assumption) (by rfl) dX6_readsFraction_63 ?_
        refine aw_sipush dX6_readsFraction_66 (by decide) ?_
        refine aw_isub dX6_readsFraction_69 ?_
        -- at 70: .putfield 99
        refine aw_putO kp_X6_99 (by assumption) (by simp) (aw_ni _) dX6_readsFraction_70 (fun h5 b5 f5 => ?_)
        have b5 : h5 52 = aO 6 (cur t u p q sn it (tkS t (nxS t ps) - 1000) (tkS t (nxS t (nxS t ps)) - 1000) 0 tp (nxS t (nxS t ps))) := b5
        have hty5 : isTy h5 t := H.fr ((f5 58 (by decide)).trans (f4' 58 (by decide) (by decide)))
        have g5 : ∃ g, h5 59 = aA 0 8 g := by obtain ⟨g, hg⟩ := g4; exact ⟨g, (f5 59 (by decide)).trans hg⟩
        refine aw_aload_n dX6_readsFraction_73 rfl ?_
        -- at 74: .invokevirtual 86
        refine aw_Vv0 kc_X6_86 (c6_take (d := d) b5 hty5 ht hn3) (by assumption) rfl rfl (by omega) (Nat.le_of_ble_eq_true rfl) dX6_readsFraction_74 (fun h6 q => ?_)
        obtain ⟨b6, f6⟩ := q
        have hty6 : isTy h6 t := hty5.fr (f6 58 (by decide))
        have g6 : ∃ g, h6 59 = aA 0 8 g := by obtain ⟨g, hg⟩ := g5; exact ⟨g, (f6 59 (by decide)).trans hg⟩
        have f6' : ∀ j, j ≠ 52 → j ≠ 59 → h6 j = h j := fun j j1 j2 => ((f6 j j1).trans (f5 j j1)).trans (f4' j j1 j2)
        refine aw_aload_n dX6_readsFraction_77 rfl ?_
        -- at 78: .invokevirtual 102
        refine aw_Vi0 kc_X6_102 (c6_readsEnd (d := d) b6 hty6 ht hn3) (by assumption) rfl rfl (by omega) (Nat.le_of_ble_eq_true rfl) dX6_readsFraction_78 (fun v h7 q => ?_)
        rcases q with ⟨r1, rfl, r3, r4⟩ | ⟨r1, rfl, rfl⟩
        · refine aw_zret rfl dX6_readsFraction_81 (by omega) ⟨rfl, _, rfl, Or.inl ⟨rfl, nxS t (nxS t (nxS t (nxS t ps))), f, tkS t (nxS t ps) - 1000, tkS t (nxS t (nxS t ps)) - 1000, [], hn4, by simp; omega, by omega, ?_, ⟨by omega, by omega, ⟨by simp, fun i hi => absurd hi (by simp)⟩, fun i j _ hj => absurd hj (by simp), fun _ => by omega⟩, fun _ => rfl, r3, ?_, fun j j1 j2 => (r4 j j1).trans (f6' j j1 j2)⟩⟩
          · rw [← hT]
            exact runS_go (by omega) (by simp [foll, r1]) (by omega)
          · obtain ⟨g, hg⟩ := g6
            exact ⟨g, (r4 59 (by decide)).trans hg, fun i hi => absurd hi (by simp)⟩
        · refine aw_zret rfl dX6_readsFraction_81 (by omega) ⟨rfl, _, rfl, Or.inr ⟨rfl, nxS t (nxS t (nxS t ps)), _, _, _, _, hn3, ?_, b6, g6, f6'⟩⟩
          rw [← hT]
          refine runS_bad ht hn3 ?_
          by_cases z : tkS t (nxS t (nxS t (nxS t ps))) = -1
          · exact Or.inl ⟨z, by omega, by omega, by omega⟩
          · exact Or.inr ⟨z, by simp [foll, r1]⟩
      · refine aw_iconst dX6_readsFraction_59 ?_
        -- at 60: .ireturn
        refine bad4 ?_ _
        have : ¬ ((1001 ≤ tkS t (nxS t (nxS t ps)) ∧ tkS t (nxS t (nxS t ps)) ≤ 1099) ∧ tkS t (nxS t ps) - 1000 ≤ 2 * (tkS t (nxS t (nxS t ps)) - 1000)) := by omega
        simp [foll, this]
  · refine aw_iconst dX6_readsFraction_14 ?_
    -- at 15: .ireturn
    refine aw_zret rfl dX6_readsFraction_15 (by omega) ⟨rfl, _, rfl, Or.inr ⟨rfl, nxS t ps, _, _, _, _, hn1, ?_, q1, g2, fun j j1 _ => q2 j j1⟩⟩
    rw [← hT]
    refine runS_bad ht hn1 ?_
    by_cases z : tkS t (nxS t ps) = -1
    · exact Or.inl ⟨z, by omega, by omega, by omega⟩
    · refine Or.inr ⟨z, ?_⟩
      have : ¬ (1001 ≤ tkS t (nxS t ps) ∧ tkS t (nxS t ps) ≤ 1099) := by omega
      simp [foll, this]
/-- behind the reference's reader -/
def rfQ (t : List Int) (u p q sn tp : Int) (h h' : AH) (v : Int) : Prop :=
  (v = 1 ∧ 0 ≤ (telS t).1 ∧ (∃ e1 e2 e3, h' 52 = aO 6 (mdl u p q sn (t.length : Int) e1 e2 e3 (telS t).1 (telS t).2.1 (telS t).2.2.1 ((telS t).2.2.2.length : Int) tp)) ∧ isNT h' (telS t).2.2.2 ∧ ∀ j, j ≠ 52 → j ≠ 59 → h' j = h j) ∨
  (v = 0 ∧ (telS t).1 < 0 ∧ (∃ (b : Nat) (e1 e3 it nu nl nm : Int), b ≤ t.length ∧ (telS t).1 = -10 - (b : Int) ∧ h' 52 = aO 6 (mdl u p q sn (t.length : Int) e1 (b : Int) e3 it nu nl nm tp)) ∧ (∃ g, h' 59 = aA 0 8 g) ∧ ∀ j, j ≠ 52 → j ≠ 59 → h' j = h j)
theorem reads_end {Z : AZ} {R : Room} {h1 : AH} {b : Int} {x : List AV} (h52 : h1 52 = aO 6 x) (hx : x[13]? = some (aI b)) (hb : -1 ≤ b ∧ b ≤ 2000) (k1 : b = -1 → AW mX6_reads R Z 0 0 n h1 110 [some (aR 52), some (aI 1)] [aI 1]) (k0 : b ≠ -1 → AW mX6_reads R Z 0 0 n h1 110 [some (aR 52), some (aI 1)] [aI 0]) : AW mX6_reads R Z 0 0 n h1 92 [some (aR 52), some (aI 1)] [aI 1] := by
  refine aw_istore_n dX6_reads_92 (by decide) ?_
  refine aw_iload_n dX6_reads_93 rfl ?_
  -- at 94: .ifCond .eq 15
  refine aw_if_eq (tgt := 109) dX6_reads_94 (by omega) (by decide) (fun c1 => ?_) (fun c1 => ?_)
  · omega
  · refine aw_aload_n dX6_reads_97 rfl ?_
    refine aw_get kg_X6_79 h52 hx dX6_reads_98 ?_
    refine aw_iconst dX6_reads_101 ?_
    -- at 102: .if_icmp .ne 7
    refine aw_icmp_ne (tgt := 109) dX6_reads_102 (by omega) (by omega) (by decide) (fun c2 => ?_) (fun c2 => ?_)
    · refine aw_iconst dX6_reads_109 ?_
      -- at 110: .ireturn
      exact k0 c2
    · refine aw_iconst dX6_reads_105 ?_
      refine aw_goto (tgt := 110) dX6_reads_106 (by decide) ?_
      -- at 110: .ireturn
      exact k1 (by omega)
theorem c6_reads {lt e1 e2 e3 e4 e5 e6 e7 : Int} (h1 : h 52 = aO 6 (mdl u p q sn (t.length : Int) e1 e2 e3 e4 e5 e6 e7 tp)) (H : isTy h t) (ht : okTx t) (h59 : ∃ g, h 59 = aA 0 8 g) : AC mX6_reads (d + 8) 0 0 n h [aR 52] (aqi n fun v h' => rfQ t u p q sn tp h h' v) := by
  refine AC.of (by decide) (Nat.le_of_ble_eq_true rfl) ?_
  refine aw_aload_n dX6_reads_0 rfl ?_
  refine aw_iconst dX6_reads_1 ?_
  -- at 2: .putfield 70
  refine aw_putO kp_X6_70 (by assumption) (by simp) (aw_ni _) dX6_reads_2 (fun ha b1 f1 => ?_)
  have b1 : ha 52 = aO 6 (mdl u p q sn (t.length : Int) 0 e2 e3 e4 e5 e6 e7 tp) := b1
  refine aw_aload_n dX6_reads_5 rfl ?_
  refine aw_iconst dX6_reads_6 ?_
  -- at 7: .putfield 89
  refine aw_putO kp_X6_89 (by assumption) (by simp) (aw_ni _) dX6_reads_7 (fun hb b2 f2 => ?_)
  have b2 : hb 52 = aO 6 (mdl u p q sn (t.length : Int) 0 e2 e3 0 e5 e6 e7 tp) := b2
  refine aw_aload_n dX6_reads_10 rfl ?_
  refine aw_iconst dX6_reads_11 ?_
  -- at 12: .putfield 96
  refine aw_putO kp_X6_96 (by assumption) (by simp) (aw_ni _) dX6_reads_12 (fun hc b3 f3 => ?_)
  have b3 : hc 52 = aO 6 (mdl u p q sn (t.length : Int) 0 e2 e3 0 2 e6 e7 tp) := b3
  refine aw_aload_n dX6_reads_15 rfl ?_
  refine aw_iconst dX6_reads_16 ?_
  -- at 17: .putfield 99
  refine aw_putO kp_X6_99 (by assumption) (by simp) (aw_ni _) dX6_reads_17 (fun hd b4 f4 => ?_)
  have b4 : hd 52 = aO 6 (mdl u p q sn (t.length : Int) 0 e2 e3 0 2 3 e7 tp) := b4
  refine aw_aload_n dX6_reads_20 rfl ?_
  refine aw_iconst dX6_reads_21 ?_
  -- at 22: .putfield 106
  refine aw_putO kp_X6_106 (by assumption) (by simp) (aw_ni _) dX6_reads_22 (fun he b5 f5 => ?_)
  have b5 : he 52 = aO 6 (mdl u p q sn (t.length : Int) 0 e2 e3 0 2 3 0 tp) := b5
  have f5' : ∀ j, j ≠ 52 → he j = h j := fun j hj => by rw [f5 j hj, f4 j hj, f3 j hj, f2 j hj, f1 j hj]
  have hty := H.fr (h' := he) (f5' 58 (by decide))
  have g5 : ∃ g, he 59 = aA 0 8 g := by obtain ⟨g, hg⟩ := h59; exact ⟨g, (f5' 59 (by decide)).trans hg⟩
  have hn0 := (nxS_le (t := t) (Nat.zero_le _)).2
  have k0 := tkS_rng ht (Nat.zero_le t.length)
  refine aw_aload_n dX6_reads_25 rfl ?_
  -- at 26: .invokevirtual 86
  refine aw_Vv0 kc_X6_86 (c6_take (d := d) (ps := 0) b5 hty ht (Nat.zero_le _)) (by assumption) rfl rfl (by omega) (Nat.le_of_ble_eq_true rfl) dX6_reads_26 (fun h2 q => ?_)
  obtain ⟨b6, f6⟩ := q
  have f6' : ∀ j, j ≠ 52 → j ≠ 59 → h2 j = h j := fun j j1 _ => (f6 j j1).trans (f5' j j1)
  have hty2 := hty.fr (f6 58 (by decide))
  have g6 : ∃ g, h2 59 = aA 0 8 g := by obtain ⟨g, hg⟩ := g5; exact ⟨g, (f6 59 (by decide)).trans hg⟩
  -- a fault, with the flag 0 all the way down
  have bad : ∀ (h3 : AH) (ps : Nat) (it' P' Q' nm' : Int), ps ≤ t.length → (telS t).1 = -10 - (stS t ps : Int) → h3 52 = aO 6 (cur t u p q sn it' P' Q' nm' tp ps) → (∃ g, h3 59 = aA 0 8 g) → (∀ j, j ≠ 52 → j ≠ 59 → h3 j = h j) → AW mX6_reads (am_R (d + 8) 0 0) (am_Z (aqi n fun v h' => rfQ t u p q sn tp h h' v) 0 0) 0 0 n h3 110 [some (aR 52), some (aI 0)] [aI 0] := by
    intro h3 ps it' P' Q' nm' hps hT h52 g3 f3
    exact aw_zret rfl dX6_reads_110 (by omega) ⟨rfl, _, rfl, Or.inr ⟨rfl, by omega, ⟨stS t ps, _, _, _, _, _, _, (stS_le hps).2, hT, h52⟩, g3, f3⟩⟩
  have bad1 : ∀ (h3 : AH) (ps : Nat) (it' P' Q' nm' : Int), ps ≤ t.length → (telS t).1 = -10 - (stS t ps : Int) → h3 52 = aO 6 (cur t u p q sn it' P' Q' nm' tp ps) → (∃ g, h3 59 = aA 0 8 g) → (∀ j, j ≠ 52 → j ≠ 59 → h3 j = h j) → AW mX6_reads (am_R (d + 8) 0 0) (am_Z (aqi n fun v h' => rfQ t u p q sn tp h h' v) 0 0) 0 0 n h3 110 [some (aR 52), some (aI 1)] [aI 0] := by
    intro h3 ps it' P' Q' nm' hps hT h52 g3 f3
    exact aw_zret rfl dX6_reads_110 (by omega) ⟨rfl, _, rfl, Or.inr ⟨rfl, by omega, ⟨stS t ps, _, _, _, _, _, _, (stS_le hps).2, hT, h52⟩, g3, f3⟩⟩
  have badA : ∀ (h3 : AH) (ps : Nat) (it' P' Q' nm' : Int), ps ≤ t.length → (telS t).1 = -10 - (stS t ps : Int) → h3 52 = aO 6 (cur t u p q sn it' P' Q' nm' tp ps) → (∃ g, h3 59 = aA 0 8 g) → (∀ j, j ≠ 52 → j ≠ 59 → h3 j = h j) → AW mX6_reads (am_R (d + 8) 0 0) (am_Z (aqi n fun v h' => rfQ t u p q sn tp h h' v) 0 0) 0 0 n h3 92 [some (aR 52), some (aI 0)] [aI 0] := by
    intro h3 ps it' P' Q' nm' hps hT h52 g3 f3
    refine aw_istore_n dX6_reads_92 (by decide) ?_
    refine aw_iload_n dX6_reads_93 rfl ?_
    -- at 94: .ifCond .eq 15
    refine aw_if_eq (tgt := 109) dX6_reads_94 (by omega) (by decide) (fun c9 => ?_) (fun c9 => ?_)
    · refine aw_iconst dX6_reads_109 ?_
      -- at 110: .ireturn
      exact bad h3 ps it' P' Q' nm' hps hT h52 g3 f3
    · omega
  have badB : ∀ (h3 : AH) (ps : Nat) (it' P' Q' nm' : Int), ps ≤ t.length → (telS t).1 = -10 - (stS t ps : Int) → h3 52 = aO 6 (cur t u p q sn it' P' Q' nm' tp ps) → (∃ g, h3 59 = aA 0 8 g) → (∀ j, j ≠ 52 → j ≠ 59 → h3 j = h j) → ∀ z, AW mX6_reads (am_R (d + 8) 0 0) (am_Z (aqi n fun v h' => rfQ t u p q sn tp h h' v) 0 0) 0 0 n h3 91 [some (aR 52), some (aI z)] [] := by
    intro h3 ps it' P' Q' nm' hps hT h52 g3 f3 z
    refine aw_iconst dX6_reads_91 ?_
    refine aw_istore_n dX6_reads_92 (by decide) ?_
    refine aw_iload_n dX6_reads_93 rfl ?_
    -- at 94: .ifCond .eq 15
    refine aw_if_eq (tgt := 109) dX6_reads_94 (by omega) (by decide) (fun c9 => ?_) (fun c9 => ?_)
    · refine aw_iconst dX6_reads_109 ?_
      -- at 110: .ireturn
      exact bad h3 ps it' P' Q' nm' hps hT h52 g3 f3
    · omega
  have badC : ∀ (h3 : AH) (ps : Nat) (it' P' Q' nm' : Int), ps ≤ t.length → (telS t).1 = -10 - (stS t ps : Int) → h3 52 = aO 6 (cur t u p q sn it' P' Q' nm' tp ps) → (∃ g, h3 59 = aA 0 8 g) → (∀ j, j ≠ 52 → j ≠ 59 → h3 j = h j) → AW mX6_reads (am_R (d + 8) 0 0) (am_Z (aqi n fun v h' => rfQ t u p q sn tp h h' v) 0 0) 0 0 n h3 57 [some (aR 52), none] [] := by
    intro h3 ps it' P' Q' nm' hps hT h52 g3 f3
    refine aw_iconst dX6_reads_57 ?_
    refine aw_istore_n dX6_reads_58 (by decide) ?_
    refine aw_iload_n dX6_reads_59 rfl ?_
    -- at 60: .ifCond .eq 31
    refine aw_if_eq (tgt := 91) dX6_reads_60 (by omega) (by decide) (fun c9 => ?_) (fun c9 => ?_)
    · exact badB h3 ps it' P' Q' nm' hps hT h52 g3 f3 0
    · omega
  refine aw_aload_n dX6_reads_29 rfl ?_
  refine aw_get kg_X6_79 (by assumption) (by rfl) dX6_reads_30 ?_
  refine aw_iconst dX6_reads_33 ?_
  -- at 34: .if_icmp .eq 19
  refine aw_icmp_eq (tgt := 53) dX6_reads_34 (by omega) (by omega) (by decide) (fun c1 => ?_) (fun c1 => ?_)
  · -- no items
    have eT : telS t = (0, 2, 3, []) := by rw [telS, runS, if_pos c1]; rfl
    refine aw_iconst dX6_reads_53 ?_
    refine aw_goto (tgt := 58) dX6_reads_54 (by decide) ?_
    refine aw_istore_n dX6_reads_58 (by decide) ?_
    refine aw_iload_n dX6_reads_59 rfl ?_
    -- at 60: .ifCond .eq 31
    refine aw_if_eq (tgt := 91) dX6_reads_60 (by omega) (by decide) (fun c2 => ?_) (fun c2 => ?_)
    · omega
    · refine aw_aload_n dX6_reads_63 rfl ?_
      refine aw_get kg_X6_79 (by assumption) (by rfl) dX6_reads_64 ?_
      refine aw_iconst dX6_reads_67 ?_
      -- at 68: .if_icmp .eq 19
      refine aw_icmp_eq (tgt := 87) dX6_reads_68 (by omega) (by omega) (by decide) (fun c3 => ?_) (fun c3 => ?_)
      · refine aw_iconst dX6_reads_87 ?_
        refine aw_goto (tgt := 92) dX6_reads_88 (by decide) ?_
        refine reads_end b6 rfl (by omega) (fun _ => ?_) (fun q => absurd c1 q)
        refine aw_zret rfl dX6_reads_110 (by omega) ⟨rfl, _, rfl, Or.inl ⟨rfl, by rw [eT]; decide, ⟨_, _, _, by rw [eT]; exact b6⟩, ?_, f6'⟩⟩
        obtain ⟨g, hg⟩ := g6
        exact ⟨g, hg, fun i hi => by rw [eT] at hi; exact absurd hi (by simp)⟩
      · exact absurd c1 c3
  · refine aw_aload_n dX6_reads_37 rfl ?_
    refine aw_get kg_X6_79 (by assumption) (by rfl) dX6_reads_38 ?_
    refine aw_bipush dX6_reads_41 (by decide) ?_
    -- at 43: .if_icmp .ne 14
    refine aw_icmp_ne (tgt := 57) dX6_reads_43 (by omega) (by omega) (by decide) (fun c2 => ?_) (fun c2 => ?_)
    · refine badC h2 0 _ _ _ _ (Nat.zero_le _) ?_ b6 g6 f6'
      exact runS_bad ht (Nat.zero_le _) (Or.inr ⟨c1, by simp [foll, c2]⟩)
    · have e112 : tkS t 0 = 112 := by omega
      have eT : telS t = runS t 59 1 (nxS t 0) 2 3 [] := runS_go c1 (by simp [foll, e112]) (by omega)
      refine aw_aload_n dX6_reads_46 rfl ?_
      -- at 47: .invokevirtual 112
      refine aw_Vi0 kc_X6_112 (c6_readsFraction (d := d) (f := 59) b6 hty2 ht (Nat.zero_le _) g6 (by omega) eT.symm) (by assumption) rfl rfl (by omega) (Nat.le_of_ble_eq_true rfl) dX6_reads_47 (fun v h3 q => ?_)
      rcases q with ⟨rfl, ps', f', P', Q', l', r1, r2, r3, r4, r5, r6, r7, r8, r9⟩ | ⟨rfl, ps', it', P', Q', nm', r1, r2, r3, r4, r5⟩
      · have hl0 := r6 rfl
        subst hl0
        have f3' : ∀ j, j ≠ 52 → j ≠ 59 → h3 j = h j := fun j j1 j2 => (r9 j j1 j2).trans (f6' j j1 j2)
        have g3 : ∃ g, h3 59 = aA 0 8 g := ⟨_, r8.choose_spec.1⟩
        have k3 := tkS_rng ht r1
        obtain ⟨f', rfl⟩ : ∃ k, f' = k + 1 := ⟨f' - 1, by omega⟩
        have r7 : h3 52 = aO 6 (cur t u p q sn 1 P' Q' 0 tp ps') := r7
        refine aw_if_eq (tgt := 57) dX6_reads_50 (by omega) (by decide) (fun c3 => ?_) (fun c3 => ?_)
        · omega
        · refine aw_iconst dX6_reads_53 ?_
          refine aw_goto (tgt := 58) dX6_reads_54 (by decide) ?_
          refine aw_istore_n dX6_reads_58 (by decide) ?_
          refine aw_iload_n dX6_reads_59 rfl ?_
          -- at 60: .ifCond .eq 31
          refine aw_if_eq (tgt := 91) dX6_reads_60 (by omega) (by decide) (fun c4 => ?_) (fun c4 => ?_)
          · omega
          · refine aw_aload_n dX6_reads_63 rfl ?_
            refine aw_get kg_X6_79 (by assumption) (by rfl) dX6_reads_64 ?_
            refine aw_iconst dX6_reads_67 ?_
            -- at 68: .if_icmp .eq 19
            refine aw_icmp_eq (tgt := 87) dX6_reads_68 (by omega) (by omega) (by decide) (fun c5 => ?_) (fun c5 => ?_)
            · have eT2 : telS t = (1, P', Q', []) := by rw [r4, runS, if_pos c5]; rfl
              refine aw_iconst dX6_reads_87 ?_
              refine aw_goto (tgt := 92) dX6_reads_88 (by decide) ?_
              refine reads_end r7 rfl (by omega) (fun _ => ?_) (fun q => absurd c5 q)
              exact aw_zret rfl dX6_reads_110 (by omega) ⟨rfl, _, rfl, Or.inl ⟨rfl, by rw [eT2]; exact (by decide : (0 : Int) ≤ 1), ⟨_, _, _, by rw [eT2]; exact r7⟩, by rw [eT2]; exact r8, f3'⟩⟩
            · refine aw_aload_n dX6_reads_71 rfl ?_
              refine aw_get kg_X6_79 (by assumption) (by rfl) dX6_reads_72 ?_
              refine aw_bipush dX6_reads_75 (by decide) ?_
              -- at 77: .if_icmp .ne 14
              refine aw_icmp_ne (tgt := 91) dX6_reads_77 (by omega) (by omega) (by decide) (fun c6 => ?_) (fun c6 => ?_)
              · refine badB h3 ps' _ _ _ _ r1 ?_ r7 g3 f3' 1
                rw [r4]
                exact runS_bad ht r1 (Or.inr ⟨c5, by simp [foll, c6]⟩)
              · have e115 : tkS t ps' = 115 := by omega
                have eT3 : telS t = runS t f' 5 (nxS t ps') P' Q' [] := by
                  rw [r4]
                  exact runS_go c5 (by simp [foll, e115]) (by omega)
                have hty3 : isTy h3 t := H.fr (f3' 58 (by decide) (by decide))
                refine aw_aload_n dX6_reads_80 rfl ?_
                -- at 81: .invokevirtual 115
                refine aw_Vi0 kc_X6_115 (c6_readsSum (d := d) (f := f') r7 hty3 ht r1 g3 ⟨r5.1, r5.2.1, r5.2.2.1, r5.2.2.2.1, fun _ => r5.2.2.2.2 (by omega)⟩ (by simp at r2; omega) eT3.symm) (by assumption) rfl rfl (by omega) (Nat.le_of_ble_eq_true rfl) dX6_reads_81 (fun v h4 q => ?_)
                rcases q with ⟨rfl, ps2, f2, P2, Q2, l2, t1, t2, t3, t4, t5, t6, t7, t8, t9⟩ | ⟨rfl, ps2, it2, P2, Q2, nm2, t1, t2, t3, t4, t5⟩
                · have k4 := tkS_rng ht t1
                  obtain ⟨f2, rfl⟩ : ∃ k, f2 = k + 1 := ⟨f2 - 1, by omega⟩
                  have f4' : ∀ j, j ≠ 52 → j ≠ 59 → h4 j = h j := fun j j1 j2 => (t9 j j1 j2).trans (f3' j j1 j2)
                  refine aw_if_eq (tgt := 91) dX6_reads_84 (by omega) (by decide) (fun c7 => ?_) (fun c7 => ?_)
                  · omega
                  · refine aw_iconst dX6_reads_87 ?_
                    refine aw_goto (tgt := 92) dX6_reads_88 (by decide) ?_
                    refine reads_end t7 rfl (by omega) (fun z => ?_) (fun z => ?_)
                    · have eT4 : telS t = (2, P2, Q2, l2) := by rw [t4, runS, if_pos z]; rfl
                      exact aw_zret rfl dX6_reads_110 (by omega) ⟨rfl, _, rfl, Or.inl ⟨rfl, by rw [eT4]; exact (by decide : (0 : Int) ≤ 2), ⟨_, _, _, by rw [eT4]; exact t7⟩, by rw [eT4]; exact t8, f4'⟩⟩
                    · refine bad1 h4 ps2 _ _ _ _ t1 ?_ t7 ⟨_, t8.choose_spec.1⟩ f4'
                      rw [t4]
                      exact runS_bad ht t1 (Or.inr ⟨z, by simp [foll]⟩)
                · have f4' : ∀ j, j ≠ 52 → j ≠ 59 → h4 j = h j := fun j j1 j2 => (t5 j j1 j2).trans (f3' j j1 j2)
                  refine aw_if_eq (tgt := 91) dX6_reads_84 (by omega) (by decide) (fun c7 => ?_) (fun c7 => ?_)
                  · exact badB h4 ps2 _ _ _ _ t1 t2 t3 t4 f4' 1
                  · omega
      · have f3' : ∀ j, j ≠ 52 → j ≠ 59 → h3 j = h j := fun j j1 j2 => (r5 j j1 j2).trans (f6' j j1 j2)
        refine aw_if_eq (tgt := 57) dX6_reads_50 (by omega) (by decide) (fun c3 => ?_) (fun c3 => ?_)
        · exact badC h3 ps' _ _ _ _ r1 r2 r3 r4 f3'
        · omega
end Reads
