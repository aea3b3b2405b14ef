/-! reading a token: both sides -/
def knS (tk : Int) : Int := if tk = -1 then 0 else if 1000 ≤ tk then (if tk ≤ 1099 then 4 else 5) else kndS tk
section Tok
variable {d n : Nat} {h : AH} {t : List Int} {ab be : Int}
theorem rn_loop {R : Room} {Z : AZ} {s : Nat} {tk sta : Int} (hR : ∃ D, R = am_R (D + 1) 0 0) (H : isTx h t) (ht : okTx t) (L1 : Option AV) :
    ∀ (m e : Nat) (h1 : AH), m + e = t.length → s ≤ e → (∀ i, s ≤ i → i < e → 48 ≤ t.getD i 0 ∧ t.getD i 0 ≤ 57) → h1 6 = aO 3 (scr (t.length : Int) (e : Int) tk sta (cv t s (e - s)) ab be) → (∀ j, j ≠ 6 → h1 j = h j) →
      (∀ h2 : AH, h2 6 = aO 3 (scr (t.length : Int) (nen t m e : Int) tk sta (cv t s (nen t m e - s)) ab be) → (∀ j, j ≠ 6 → h2 j = h j) → AW mX3_readNumber R Z 0 0 n h2 73 [some (aR 6), L1] []) →
      AW mX3_readNumber R Z 0 0 n h1 5 [some (aR 6), L1] [] := by
  obtain ⟨D, rfl⟩ := hR
  obtain ⟨f, hf, hfi⟩ := H
  have ht6 := ht.1
  intro m
  induction m with
  | zero =>
    intro e h1 he hse hdg h6 hfr kk
    refine aw_aload_n dX3_readNumber_5 rfl ?_
    refine aw_get kg_X3_19 (by assumption) (by rfl) dX3_readNumber_6 ?_
    refine aw_aload_n dX3_readNumber_9 rfl ?_
    refine aw_get kg_X3_15 (by assumption) (by rfl) dX3_readNumber_10 ?_
    -- at 13: .if_icmp .ge 60
    refine aw_icmp_ge (tgt := 73) dX3_readNumber_13 (by omega) (by omega) (by decide) (fun c1 => ?_) (fun c1 => ?_)
    · exact kk h1 h6 hfr
    · omega
  | succ m ih =>
    intro e h1 he hse hdg h6 hfr kk
    have h7 := (hfr 7 (by decide)).trans hf
    have hv := ht.2 e (by omega)
    have hcv := cv_rng t s (e - s) (fun i hi => hdg (s + i) (by omega) (by omega))
    refine aw_aload_n dX3_readNumber_5 rfl ?_
    refine aw_get kg_X3_19 (by assumption) (by rfl) dX3_readNumber_6 ?_
    refine aw_aload_n dX3_readNumber_9 rfl ?_
    refine aw_get kg_X3_15 (by assumption) (by rfl) dX3_readNumber_10 ?_
    -- at 13: .if_icmp .ge 60
    refine aw_icmp_ge (tgt := 73) dX3_readNumber_13 (by omega) (by omega) (by decide) (fun c1 => ?_) (fun c1 => ?_)
    · omega
    · refine aw_aload_n dX3_readNumber_16 rfl ?_
      refine aw_get kg_X3_9 (by assumption) (by rfl) dX3_readNumber_17 ?_
      refine aw_aload_n dX3_readNumber_20 rfl ?_
      refine aw_get kg_X3_19 (by assumption) (by rfl) dX3_readNumber_21 ?_
      refine aw_cald (by assumption) (by omega) dX3_readNumber_24 ?_
      -- at 25: .invokestatic 84
      refine aw_val (w := aI (t.getD e 0)) (by rw [Int.toNat_natCast, hfi e (by omega)]) ?_
      refine aw_Si1 kc_X3_84 (c_isFigure (d := D) (by omega)) rfl (by omega) (Nat.le_of_ble_eq_true rfl) dX3_readNumber_25 (fun v h' q => ?_)
      obtain ⟨rfl, rfl⟩ := q
      refine aw_flag_eq (tgt := 73) dX3_readNumber_28 (by decide) (fun c2 => ?_) (fun c2 => ?_)
      · rw [nen, if_neg (fun z => c2 z.2)] at kk
        exact kk h' h6 hfr
      · rw [nen, if_pos ⟨by omega, c2⟩] at kk
        refine aw_aload_n dX3_readNumber_31 rfl ?_
        refine aw_bipush dX3_readNumber_32 (by decide) ?_
        refine aw_aload_n dX3_readNumber_34 rfl ?_
        refine aw_get kg_X3_28 (by assumption) (by rfl) dX3_readNumber_35 ?_
        refine aw_bipush dX3_readNumber_38 (by decide) ?_
        refine aw_imul dX3_readNumber_40 ?_
        refine aw_aload_n dX3_readNumber_41 rfl ?_
        refine aw_get kg_X3_9 (by assumption) (by rfl) dX3_readNumber_42 ?_
        refine aw_aload_n dX3_readNumber_45 rfl ?_
        refine aw_get kg_X3_19 (by assumption) (by rfl) dX3_readNumber_46 ?_
        refine aw_cald (by assumption) (by omega) dX3_readNumber_49 ?_
        refine aw_val (w := aI (t.getD e 0)) (by rw [Int.toNat_natCast, hfi e (by omega)]) ?_
        refine aw_bipush dX3_readNumber_50 (by decide) ?_
        refine aw_isub dX3_readNumber_52 ?_
        refine aw_iadd dX3_readNumber_53 ?_
        -- at 54: .invokestatic 95
        refine aw_mmin kc_X3_95 ks_Lib_Math_min_name ti_J9 kd_Lib_Math_min_name (by omega) (by omega) (Nat.le_of_ble_eq_true rfl) (by show 1 ≤ D + 1; omega) (by show 30 ≤ 64 * (D + 1); omega) (Nat.le_refl _) (Nat.le_refl _) dX3_readNumber_54 ?_
        refine aw_val (w := aI (cv t s (e + 1 - s))) (by rw [show e + 1 - s = (e - s) + 1 by omega, cv, show s + (e - s) = e by omega]; rfl) ?_
        refine aw_putO kp_X3_28 (by assumption) (by simp) (aw_ni _) dX3_readNumber_57 (fun ha b1 f1 => ?_)
        have b1 : ha 6 = aO 3 (scr (t.length : Int) (e : Int) tk sta (cv t s (e + 1 - s)) ab be) := b1
        refine aw_aload_n dX3_readNumber_60 rfl ?_
        refine aw_dup dX3_readNumber_61 rfl ?_
        refine aw_get kg_X3_19 (by assumption) (by rfl) dX3_readNumber_62 ?_
        refine aw_iconst dX3_readNumber_65 ?_
        refine aw_iadd dX3_readNumber_66 ?_
        -- at 67: .putfield 19
        refine aw_putO kp_X3_19 (by assumption) (by simp) (aw_ni _) dX3_readNumber_67 (fun hb b2 f2 => ?_)
        refine aw_goto (tgt := 5) dX3_readNumber_70 (by decide) ?_
        refine ih (e + 1) hb (by omega) (by omega) (fun i h1 h2 => ?_) ?_ (fun j hj => ((f2 j hj).trans (f1 j hj)).trans (hfr j hj)) kk
        · by_cases q : i = e
          · subst q; exact c2
          · exact hdg i h1 (by omega)
        · rw [b2]
          rfl
theorem c_readNumber {s : Nat} {tk vl : Int} (h1 : h 6 = aO 3 (scr (t.length : Int) (s : Int) tk (s : Int) vl ab be)) (H : isTx h t) (ht : okTx t) (hs : s < t.length) (hdg : 48 ≤ t.getD s 0 ∧ t.getD s 0 ≤ 57) :
    AC mX3_readNumber (d + 1) 0 0 n h [aR 6] (aqv n fun h' => (h' 6 = aO 3 (scr (t.length : Int) (neS t s : Int) (if vS t s (neS t s - s) = 1000 then 5 else 4) (s : Int) (cv t s (neS t s - s)) ab be) ∧ (vS t s (neS t s - s) ≠ 1000 → cv t s (neS t s - s) = vS t s (neS t s - s))) ∧ ∀ j, j ≠ 6 → h' j = h j) := by
  refine AC.of (by decide) (Nat.le_of_ble_eq_true rfl) ?_
  have H0 := H
  obtain ⟨f, hf, hfi⟩ := H
  have ht6 := ht.1
  have hv := ht.2 s hs
  refine aw_aload_n dX3_readNumber_0 rfl ?_
  refine aw_iconst dX3_readNumber_1 ?_
  -- at 2: .putfield 28
  refine aw_putO kp_X3_28 (by assumption) (by simp) (aw_ni _) dX3_readNumber_2 (fun ha b1 f1 => ?_)
  refine rn_loop (s := s) (h := h) ⟨d, rfl⟩ H0 ht none (t.length - s) s ha (by omega) (Nat.le_refl _) (fun i q1 q2 => by omega) (by rw [b1, Nat.sub_self]; rfl) f1 (fun h2 b2 f2 => ?_)
  have ene : nen t (t.length - s) s = neS t s := rfl
  rw [ene] at b2
  have hlt := neS_lt hs hdg
  have hle := neS_le (Nat.le_of_lt hs)
  have hall : ∀ i, i < neS t s - s → 48 ≤ t.getD (s + i) 0 ∧ t.getD (s + i) 0 ≤ 57 := fun i hi => nen_dg t (t.length - s) s (s + i) (by omega) (by rw [ene]; omega)
  have hcv := cv_rng t s (neS t s - s) hall
  have htok := cv_tok (t := t) (s := s) (k := neS t s - s) (by omega) hall
  have h7 := (f2 7 (by decide)).trans hf
  have fin : ∀ (z : Int), (z = 0 ∨ z = 1) → (z = 1 ↔ (t.getD s 0 = 48 ∧ 1 < neS t s - s)) → AW mX3_readNumber (am_R (d + 1) 0 0) (am_Z (aqv n fun h' => (h' 6 = aO 3 (scr (t.length : Int) (neS t s : Int) (if vS t s (neS t s - s) = 1000 then 5 else 4) (s : Int) (cv t s (neS t s - s)) ab be) ∧ (vS t s (neS t s - s) ≠ 1000 → cv t s (neS t s - s) = vS t s (neS t s - s))) ∧ ∀ j, j ≠ 6 → h' j = h j) 0 0) 0 0 n h2 106 [some (aR 6), some (aI z)] [] := by
    intro z hz hz1
    have K5 : vS t s (neS t s - s) = 1000 → AW mX3_readNumber (am_R (d + 1) 0 0) (am_Z (aqv n fun h' => (h' 6 = aO 3 (scr (t.length : Int) (neS t s : Int) (if vS t s (neS t s - s) = 1000 then 5 else 4) (s : Int) (cv t s (neS t s - s)) ab be) ∧ (vS t s (neS t s - s) ≠ 1000 → cv t s (neS t s - s) = vS t s (neS t s - s))) ∧ ∀ j, j ≠ 6 → h' j = h j) 0 0) 0 0 n h2 120 [some (aR 6), some (aI z)] [aR 6] := by
      intro hq
      refine aw_iconst dX3_readNumber_120 ?_
      refine aw_goto (tgt := 125) dX3_readNumber_121 (by decide) ?_
      -- at 125: .putfield 22
      refine aw_putO kp_X3_22 (by assumption) (by simp) (aw_ni _) dX3_readNumber_125 (fun h3 b3 f3 => ?_)
      exact aw_vret rfl dX3_readNumber_128 ⟨rfl, rfl, ⟨by rw [b3, if_pos hq]; rfl, fun z => absurd hq z⟩, fun j hj => (f3 j hj).trans (f2 j hj)⟩
    refine aw_aload_n dX3_readNumber_106 rfl ?_
    refine aw_iload_n dX3_readNumber_107 rfl ?_
    -- at 108: .ifCond .ne 12
    refine aw_if_ne (tgt := 120) dX3_readNumber_108 (by omega) (by decide) (fun c1 => ?_) (fun c1 => ?_)
    · refine K5 ?_
      rcases htok with q | q
      · exact q.2
      · exact absurd (Or.inl (hz1.mp (by omega))) q.1
    · refine aw_aload_n dX3_readNumber_111 rfl ?_
      refine aw_get kg_X3_28 (by assumption) (by rfl) dX3_readNumber_112 ?_
      refine aw_bipush dX3_readNumber_115 (by decide) ?_
      -- at 117: .if_icmp .le 7
      refine aw_icmp_le (tgt := 124) dX3_readNumber_117 (by omega) (by omega) (by decide) (fun c2 => ?_) (fun c2 => ?_)
      · refine aw_iconst dX3_readNumber_124 ?_
        -- at 125: .putfield 22
        refine aw_putO kp_X3_22 (by assumption) (by simp) (aw_ni _) dX3_readNumber_125 (fun h3 b3 f3 => ?_)
        have hq : vS t s (neS t s - s) ≠ 1000 ∧ vS t s (neS t s - s) = cv t s (neS t s - s) := by
          rcases htok with q | q
          · exfalso
            rcases q.1 with w | w
            · have := hz1.mpr w; omega
            · omega
          · exact ⟨by omega, q.2⟩
        exact aw_vret rfl dX3_readNumber_128 ⟨rfl, rfl, ⟨by rw [b3, if_neg hq.1]; rfl, fun _ => hq.2.symm⟩, fun j hj => (f3 j hj).trans (f2 j hj)⟩
      · refine K5 ?_
        rcases htok with q | q
        · exact q.2
        · exact absurd (Or.inr (by omega)) q.1
  refine aw_aload_n dX3_readNumber_73 rfl ?_
  refine aw_get kg_X3_9 (by assumption) (by rfl) dX3_readNumber_74 ?_
  refine aw_aload_n dX3_readNumber_77 rfl ?_
  refine aw_get kg_X3_25 (by assumption) (by rfl) dX3_readNumber_78 ?_
  refine aw_cald (by assumption) (by omega) dX3_readNumber_81 ?_
  refine aw_val (w := aI (t.getD s 0)) (by rw [Int.toNat_natCast, hfi s hs]) ?_
  refine aw_bipush dX3_readNumber_82 (by decide) ?_
  -- at 84: .if_icmp .ne 20
  refine aw_icmp_ne (tgt := 104) dX3_readNumber_84 (by omega) (by omega) (by decide) (fun c1 => ?_) (fun c1 => ?_)
  · refine aw_iconst dX3_readNumber_104 ?_
    refine aw_istore_n dX3_readNumber_105 (by decide) ?_
    exact fin 0 (by omega) (by omega)
  · refine aw_aload_n dX3_readNumber_87 rfl ?_
    refine aw_get kg_X3_19 (by assumption) (by rfl) dX3_readNumber_88 ?_
    refine aw_aload_n dX3_readNumber_91 rfl ?_
    refine aw_get kg_X3_25 (by assumption) (by rfl) dX3_readNumber_92 ?_
    refine aw_isub dX3_readNumber_95 ?_
    refine aw_iconst dX3_readNumber_96 ?_
    -- at 97: .if_icmp .le 7
    refine aw_icmp_le (tgt := 104) dX3_readNumber_97 (by omega) (by omega) (by decide) (fun c2 => ?_) (fun c2 => ?_)
    · refine aw_iconst dX3_readNumber_104 ?_
      refine aw_istore_n dX3_readNumber_105 (by decide) ?_
      exact fin 0 (by omega) (by omega)
    · refine aw_iconst dX3_readNumber_100 ?_
      refine aw_goto (tgt := 105) dX3_readNumber_101 (by decide) ?_
      refine aw_istore_n dX3_readNumber_105 (by decide) ?_
      exact fin 1 (by omega) (by omega)
theorem rt_loop {R : Room} {Z : AZ} {tk sta vl : Int} (H : isTx h t) (ht : okTx t) (L1 : Option AV) :
    ∀ (m e : Nat) (h1 : AH), m + e = t.length → h1 6 = aO 3 (scr (t.length : Int) (e : Int) tk sta vl ab be) → (∀ j, j ≠ 6 → h1 j = h j) →
      (∀ h2 : AH, h2 6 = aO 3 (scr (t.length : Int) (skp t m e : Int) tk sta vl ab be) → (∀ j, j ≠ 6 → h2 j = h j) → AW mX3_readToken R Z 0 0 n h2 38 [some (aR 6), L1] []) →
      AW mX3_readToken R Z 0 0 n h1 0 [some (aR 6), L1] [] := by
  obtain ⟨f, hf, hfi⟩ := H
  have ht6 := ht.1
  intro m
  induction m with
  | zero =>
    intro e h1 he h6 hfr kk
    refine aw_aload_n dX3_readToken_0 rfl ?_
    refine aw_get kg_X3_19 (by assumption) (by rfl) dX3_readToken_1 ?_
    refine aw_aload_n dX3_readToken_4 rfl ?_
    refine aw_get kg_X3_15 (by assumption) (by rfl) dX3_readToken_5 ?_
    -- at 8: .if_icmp .ge 30
    refine aw_icmp_ge (tgt := 38) dX3_readToken_8 (by omega) (by omega) (by decide) (fun c1 => ?_) (fun c1 => ?_)
    · exact kk h1 h6 hfr
    · omega
  | succ m ih =>
    intro e h1 he h6 hfr kk
    have h7 := (hfr 7 (by decide)).trans hf
    have hv := ht.2 e (by omega)
    refine aw_aload_n dX3_readToken_0 rfl ?_
    refine aw_get kg_X3_19 (by assumption) (by rfl) dX3_readToken_1 ?_
    refine aw_aload_n dX3_readToken_4 rfl ?_
    refine aw_get kg_X3_15 (by assumption) (by rfl) dX3_readToken_5 ?_
    -- at 8: .if_icmp .ge 30
    refine aw_icmp_ge (tgt := 38) dX3_readToken_8 (by omega) (by omega) (by decide) (fun c1 => ?_) (fun c1 => ?_)
    · omega
    · refine aw_aload_n dX3_readToken_11 rfl ?_
      refine aw_get kg_X3_9 (by assumption) (by rfl) dX3_readToken_12 ?_
      refine aw_aload_n dX3_readToken_15 rfl ?_
      refine aw_get kg_X3_19 (by assumption) (by rfl) dX3_readToken_16 ?_
      refine aw_cald (by assumption) (by omega) dX3_readToken_19 ?_
      refine aw_val (w := aI (t.getD e 0)) (by rw [Int.toNat_natCast, hfi e (by omega)]) ?_
      refine aw_bipush dX3_readToken_20 (by decide) ?_
      -- at 22: .if_icmp .ne 16
      refine aw_icmp_ne (tgt := 38) dX3_readToken_22 (by omega) (by omega) (by decide) (fun c2 => ?_) (fun c2 => ?_)
      · rw [skp, if_neg (fun z => c2 z.2)] at kk
        exact kk h1 h6 hfr
      · rw [skp, if_pos ⟨by omega, by omega⟩] at kk
        refine aw_aload_n dX3_readToken_25 rfl ?_
        refine aw_dup dX3_readToken_26 rfl ?_
        refine aw_get kg_X3_19 (by assumption) (by rfl) dX3_readToken_27 ?_
        refine aw_iconst dX3_readToken_30 ?_
        refine aw_iadd dX3_readToken_31 ?_
        -- at 32: .putfield 19
        refine aw_putO kp_X3_19 (by assumption) (by simp) (aw_ni _) dX3_readToken_32 (fun hb b2 f2 => ?_)
        refine aw_goto (tgt := 0) dX3_readToken_35 (by decide) ?_
        exact ih (e + 1) hb (by omega) (by rw [b2]; rfl) (fun j hj => (f2 j hj).trans (hfr j hj)) kk
theorem c_readToken {p : Nat} {tk sta vl : Int} (h1 : h 6 = aO 3 (scr (t.length : Int) (p : Int) tk sta vl ab be)) (H : isTx h t) (ht : okTx t) (hp : p ≤ t.length) (hvl : -2147483648 ≤ vl ∧ vl ≤ 2147483647) :
    AC mX3_readToken (d + 3) 0 0 n h [aR 6] (aqv n fun h' => (∃ vl', h' 6 = aO 3 (scr (t.length : Int) (nxS t p : Int) (knS (tkS t p)) (stS t p : Int) vl' ab be) ∧ (1000 ≤ tkS t p → tkS t p ≤ 1099 → vl' = tkS t p - 1000) ∧ (-2147483648 ≤ vl' ∧ vl' ≤ 2147483647)) ∧ ∀ j, j ≠ 6 → h' j = h j) := by
  refine AC.of (by decide) (Nat.le_of_ble_eq_true rfl) ?_
  have H0 := H
  obtain ⟨f, hf, hfi⟩ := H
  have ht6 := ht.1
  have hst := stS_le hp
  refine rt_loop (h := h) H0 ht none (t.length - p) p h (by omega) h1 (fun _ _ => rfl) (fun h2 b2 f2 => ?_)
  have est : skp t (t.length - p) p = stS t p := rfl
  rw [est] at b2
  refine aw_aload_n dX3_readToken_38 rfl ?_
  refine aw_aload_n dX3_readToken_39 rfl ?_
  refine aw_get kg_X3_19 (by assumption) (by rfl) dX3_readToken_40 ?_
  -- at 43: .putfield 25
  refine aw_putO kp_X3_25 (by assumption) (by simp) (aw_ni _) dX3_readToken_43 (fun h3 b3 f3 => ?_)
  have b3 : h3 6 = aO 3 (scr (t.length : Int) (stS t p : Int) tk (stS t p : Int) vl ab be) := b3
  have h7 : h3 7 = aA 2 60 f := ((f3 7 (by decide)).trans (f2 7 (by decide))).trans hf
  have f3' : ∀ j, j ≠ 6 → h3 j = h j := fun j hj => (f3 j hj).trans (f2 j hj)
  refine aw_aload_n dX3_readToken_46 rfl ?_
  refine aw_get kg_X3_19 (by assumption) (by rfl) dX3_readToken_47 ?_
  refine aw_aload_n dX3_readToken_50 rfl ?_
  refine aw_get kg_X3_15 (by assumption) (by rfl) dX3_readToken_51 ?_
  -- at 54: .if_icmp .lt 9
  refine aw_icmp_lt (tgt := 63) dX3_readToken_54 (by omega) (by omega) (by decide) (fun c1 => ?_) (fun c1 => ?_)
  · have hv := ht.2 (stS t p) (by omega)
    refine aw_aload_n dX3_readToken_63 rfl ?_
    refine aw_get kg_X3_9 (by assumption) (by rfl) dX3_readToken_64 ?_
    refine aw_aload_n dX3_readToken_67 rfl ?_
    refine aw_get kg_X3_19 (by assumption) (by rfl) dX3_readToken_68 ?_
    refine aw_cald (by assumption) (by omega) dX3_readToken_71 ?_
    refine aw_val (w := aI (t.getD (stS t p) 0)) (by rw [Int.toNat_natCast, hfi _ (by omega)]) ?_
    refine aw_istore_n dX3_readToken_72 (by decide) ?_
    refine aw_iload_n dX3_readToken_73 rfl ?_
    -- at 74: .invokestatic 84
    refine aw_Si1 kc_X3_84 (c_isFigure (d := d) (by omega)) rfl (by omega) (Nat.le_of_ble_eq_true rfl) dX3_readToken_74 (fun v h' q => ?_)
    obtain ⟨rfl, rfl⟩ := q
    refine aw_flag_eq (tgt := 85) dX3_readToken_77 (by decide) (fun c2 => ?_) (fun c2 => ?_)
    · have etk : tkS t p = t.getD (stS t p) 0 := by rw [tkS, if_neg (by omega), if_neg c2]
      have enx : nxS t p = stS t p + 1 := by rw [nxS, if_neg (by omega), if_neg c2]
      refine aw_aload_n dX3_readToken_85 rfl ?_
      refine aw_dup dX3_readToken_86 rfl ?_
      refine aw_get kg_X3_19 (by assumption) (by rfl) dX3_readToken_87 ?_
      refine aw_iconst dX3_readToken_90 ?_
      refine aw_iadd dX3_readToken_91 ?_
      -- at 92: .putfield 19
      refine aw_putO kp_X3_19 (by assumption) (by simp) (aw_ni _) dX3_readToken_92 (fun h4 b4 f4 => ?_)
      have b4 : h4 6 = aO 3 (scr (t.length : Int) ((stS t p : Int) + 1) tk (stS t p : Int) vl ab be) := b4
      refine aw_aload_n dX3_readToken_95 rfl ?_
      refine aw_iload_n dX3_readToken_96 rfl ?_
      -- at 97: .invokestatic 91
      refine aw_Si1 kc_X3_91 (c_kindOf (d := d) (x := t.getD (stS t p) 0) (by omega)) rfl (by omega) (Nat.le_of_ble_eq_true rfl) dX3_readToken_97 (fun v h'' q => ?_)
      obtain ⟨rfl, rfl⟩ := q
      refine aw_putO kp_X3_22 (by assumption) (by simp) (aw_ni _) dX3_readToken_100 (fun h5 b5 f5 => ?_)
      refine aw_vret rfl dX3_readToken_103 ⟨rfl, rfl, ⟨vl, ?_, (fun z _ => by omega), hvl⟩, fun j hj => ((f5 j hj).trans (f4 j hj)).trans (f3' j hj)⟩
      rw [b5, etk, enx, knS, if_neg (by omega), if_neg (by omega)]
      rfl
    · have etk : tkS t p = 1000 + vS t (stS t p) (neS t (stS t p) - stS t p) := by rw [tkS, if_neg (by omega), if_pos c2]
      have enx : nxS t p = neS t (stS t p) := by rw [nxS, if_neg (by omega), if_pos c2]
      have hvs := vS_rng ht hp (by omega) c2
      refine aw_aload_n dX3_readToken_80 rfl ?_
      -- at 81: .invokevirtual 88
      refine aw_Vv0 kc_X3_88 (c_readNumber (d := d) b3 ⟨f, h7, hfi⟩ ht (by omega) c2) (by assumption) rfl rfl (by omega) (Nat.le_of_ble_eq_true rfl) dX3_readToken_81 (fun h4 q => ?_)
      obtain ⟨⟨b4, b4'⟩, f4⟩ := q
      refine aw_vret rfl dX3_readToken_84 ⟨rfl, rfl, ⟨cv t (stS t p) (neS t (stS t p) - stS t p), ?_, fun z1 z2 => ?_, ?_⟩, fun j hj => (f4 j hj).trans (f3' j hj)⟩
      · have ek : knS (tkS t p) = if vS t (stS t p) (neS t (stS t p) - stS t p) = 1000 then 5 else 4 := by
          have g1 : ¬ (1000 + vS t (stS t p) (neS t (stS t p) - stS t p) = -1) := by omega
          have g2 : 1000 ≤ 1000 + vS t (stS t p) (neS t (stS t p) - stS t p) := by omega
          rw [etk, knS, if_neg g1, if_pos g2]
          by_cases z : vS t (stS t p) (neS t (stS t p) - stS t p) = 1000
          · rw [if_pos z, if_neg (by omega)]
          · rw [if_neg z, if_pos (by omega)]
        rw [b4, enx, ek]
      · rw [b4' (by omega), etk]
        omega
      · have := cv_rng t (stS t p) (neS t (stS t p) - stS t p) (fun i hi => nen_dg t (t.length - stS t p) (stS t p) (stS t p + i) (by omega) (by show _ < neS t (stS t p); omega))
        omega
  · have etk : tkS t p = -1 := by rw [tkS, if_pos (by omega)]
    have enx : nxS t p = stS t p := by rw [nxS, if_pos (by omega)]
    refine aw_aload_n dX3_readToken_57 rfl ?_
    refine aw_iconst dX3_readToken_58 ?_
    -- at 59: .putfield 22
    refine aw_putO kp_X3_22 (by assumption) (by simp) (aw_ni _) dX3_readToken_59 (fun h4 b4 f4 => ?_)
    refine aw_vret rfl dX3_readToken_62 ⟨rfl, rfl, ⟨vl, ?_, (fun z _ => by omega), hvl⟩, fun j hj => (f4 j hj).trans (f3' j hj)⟩
    rw [b4, etk, enx, knS, if_pos rfl]
    rfl
-- the reference
theorem c6_isDigit {x : Int} (hx : -2147483648 ≤ x ∧ x ≤ 2147483647) : AC mX6_isDigit (d + 1) 0 0 n h [aI x] (aqi n fun v h' => v = (if 48 ≤ x ∧ x ≤ 57 then 1 else 0) ∧ h' = h) := by
  refine AC.of (by decide) (Nat.le_of_ble_eq_true rfl) ?_
  refine aw_iload_n dX6_isDigit_0 rfl ?_
  refine aw_i2l dX6_isDigit_1 (by omega) ?_
  refine aw_ldc2 kl_X6_62 dX6_isDigit_2 ?_
  refine aw_ldc2 kl_X6_64 dX6_isDigit_5 ?_
  -- at 8: .invokestatic 66
  refine aw_Si3 kc_X6_66 (c_in (d := d) hx (by decide) (by decide)) rfl (by omega) (Nat.le_of_ble_eq_true rfl) dX6_isDigit_8 (fun v h' q => ?_)
  obtain ⟨rfl, rfl⟩ := q
  exact aw_zret rfl dX6_isDigit_11 (by split <;> simp) ⟨rfl, _, rfl, rfl, rfl⟩
theorem tk_loop {R : Room} {Z : AZ} {u p q sn bg tk it nu nl nm tp : Int} (H : isTy h t) (ht : okTx t) (L1 : Option AV) :
    ∀ (m e : Nat) (h1 : AH), m + e = t.length → h1 52 = aO 6 (mdl u p q sn (t.length : Int) (e : Int) bg tk it nu nl nm tp) → (∀ j, j ≠ 52 → h1 j = h j) →
      (∀ h2 : AH, h2 52 = aO 6 (mdl u p q sn (t.length : Int) (skp t m e : Int) bg tk it nu nl nm tp) → (∀ j, j ≠ 52 → h2 j = h j) → AW mX6_take R Z 0 0 n h2 38 [some (aR 52), L1] []) →
      AW mX6_take R Z 0 0 n h1 0 [some (aR 52), L1] [] := by
  obtain ⟨f, hf, hfi⟩ := H
  have ht6 := ht.1
  intro m
  induction m with
  | zero =>
    intro e h1 he h6 hfr kk
    refine aw_aload_n dX6_take_0 rfl ?_
    refine aw_get kg_X6_70 (by assumption) (by rfl) dX6_take_1 ?_
    refine aw_aload_n dX6_take_4 rfl ?_
    refine aw_get kg_X6_73 (by assumption) (by rfl) dX6_take_5 ?_
    -- at 8: .if_icmp .ge 30
    refine aw_icmp_ge (tgt := 38) dX6_take_8 (by omega) (by omega) (by decide) (fun c1 => ?_) (fun c1 => ?_)
    · exact kk h1 h6 hfr
    · omega
  | succ m ih =>
    intro e h1 he h6 hfr kk
    have h7 := (hfr 58 (by decide)).trans hf
    have hv := ht.2 e (by omega)
    refine aw_aload_n dX6_take_0 rfl ?_
    refine aw_get kg_X6_70 (by assumption) (by rfl) dX6_take_1 ?_
    refine aw_aload_n dX6_take_4 rfl ?_
    refine aw_get kg_X6_73 (by assumption) (by rfl) dX6_take_5 ?_
    -- at 8: .if_icmp .ge 30
    refine aw_icmp_ge (tgt := 38) dX6_take_8 (by omega) (by omega) (by decide) (fun c1 => ?_) (fun c1 => ?_)
    · omega
    · refine aw_aload_n dX6_take_11 rfl ?_
      refine aw_get kg_X6_33 (by assumption) (by rfl) dX6_take_12 ?_
      refine aw_aload_n dX6_take_15 rfl ?_
      refine aw_get kg_X6_70 (by assumption) (by rfl) dX6_take_16 ?_
      refine aw_iald (by assumption) (by omega) dX6_take_19 ?_
      refine aw_val (w := aI (t.getD e 0)) (by rw [Int.toNat_natCast, hfi e (by omega)]) ?_
      refine aw_bipush dX6_take_20 (by decide) ?_
      -- at 22: .if_icmp .ne 16
      refine aw_icmp_ne (tgt := 38) dX6_take_22 (by omega) (by omega) (by decide) (fun c2 => ?_) (fun c2 => ?_)
      · rw [skp, if_neg (fun z => c2 z.2)] at kk
        exact kk h1 h6 hfr
      · rw [skp, if_pos ⟨by omega, by omega⟩] at kk
        refine aw_aload_n dX6_take_25 rfl ?_
        refine aw_dup dX6_take_26 rfl ?_
        refine aw_get kg_X6_70 (by assumption) (by rfl) dX6_take_27 ?_
        refine aw_iconst dX6_take_30 ?_
        refine aw_iadd dX6_take_31 ?_
        -- at 32: .putfield 70
        refine aw_putO kp_X6_70 (by assumption) (by simp) (aw_ni _) dX6_take_32 (fun hb b2 f2 => ?_)
        refine aw_goto (tgt := 0) dX6_take_35 (by decide) ?_
        exact ih (e + 1) hb (by omega) (by rw [b2]; rfl) (fun j hj => (f2 j hj).trans (hfr j hj)) kk
theorem tkn_loop {Z : AZ} {D s : Nat} {u p q sn tk it nu nl nm tp : Int} (H : isTy h t) (ht : okTx t) :
    ∀ (m e : Nat) (h1 : AH), m + e = t.length → s < e → (∀ i, s ≤ i → i < e → 48 ≤ t.getD i 0 ∧ t.getD i 0 ≤ 57) → h1 52 = aO 6 (mdl u p q sn (t.length : Int) (e : Int) (s : Int) tk it nu nl nm tp) → (∀ j, j ≠ 52 → h1 j = h j) →
      (∀ h2 : AH, h2 52 = aO 6 (mdl u p q sn (t.length : Int) (nen t m e : Int) (s : Int) tk it nu nl nm tp) → (∀ j, j ≠ 52 → h2 j = h j) → AW mX6_take (am_R (D + 3) 0 0) Z 0 0 n h2 197 [some (aR 52), some (aI (vS t s (nen t m e - s)))] []) →
      AW mX6_take (am_R (D + 3) 0 0) Z 0 0 n h1 117 [some (aR 52), some (aI (vS t s (e - s)))] [] := by
  obtain ⟨f, hf, hfi⟩ := H
  have ht6 := ht.1
  intro m
  induction m with
  | zero =>
    intro e h1 he hse hdg h6 hfr kk
    refine aw_aload_n dX6_take_117 rfl ?_
    refine aw_get kg_X6_70 (by assumption) (by rfl) dX6_take_118 ?_
    refine aw_aload_n dX6_take_121 rfl ?_
    refine aw_get kg_X6_73 (by assumption) (by rfl) dX6_take_122 ?_
    -- at 125: .if_icmp .ge 72
    refine aw_icmp_ge (tgt := 197) dX6_take_125 (by omega) (by omega) (by decide) (fun c1 => ?_) (fun c1 => ?_)
    · exact kk h1 h6 hfr
    · omega
  | succ m ih =>
    intro e h1 he hse hdg h6 hfr kk
    have h7 := (hfr 58 (by decide)).trans hf
    have hv := ht.2 e (by omega)
    have hd0 := hdg s (by omega) hse
    have hvs : -2147483648 ≤ vS t s (e - s) ∧ vS t s (e - s) ≤ 2147483647 := by
      unfold vS
      split
      · omega
      · split
        · have := hdg (s + 1) (by omega) (by omega)
          omega
        · omega
    refine aw_aload_n dX6_take_117 rfl ?_
    refine aw_get kg_X6_70 (by assumption) (by rfl) dX6_take_118 ?_
    refine aw_aload_n dX6_take_121 rfl ?_
    refine aw_get kg_X6_73 (by assumption) (by rfl) dX6_take_122 ?_
    -- at 125: .if_icmp .ge 72
    refine aw_icmp_ge (tgt := 197) dX6_take_125 (by omega) (by omega) (by decide) (fun c1 => ?_) (fun c1 => ?_)
    · omega
    · refine aw_aload_n dX6_take_128 rfl ?_
      refine aw_get kg_X6_33 (by assumption) (by rfl) dX6_take_129 ?_
      refine aw_aload_n dX6_take_132 rfl ?_
      refine aw_get kg_X6_70 (by assumption) (by rfl) dX6_take_133 ?_
      refine aw_iald (by assumption) (by omega) dX6_take_136 ?_
      -- at 137: .invokestatic 82
      refine aw_val (w := aI (t.getD e 0)) (by rw [Int.toNat_natCast, hfi e (by omega)]) ?_
      refine aw_Si1 kc_X6_82 (c6_isDigit (d := D) (by omega)) rfl (by omega) (Nat.le_of_ble_eq_true rfl) dX6_take_137 (fun v h' q => ?_)
      obtain ⟨rfl, rfl⟩ := q
      refine aw_flag_eq (tgt := 197) dX6_take_140 (by decide) (fun c2 => ?_) (fun c2 => ?_)
      · rw [nen, if_neg (fun z => c2 z.2)] at kk
        exact kk h' h6 hfr
      · rw [nen, if_pos ⟨by omega, c2⟩] at kk
        have fin : AW mX6_take (am_R (D + 3) 0 0) Z 0 0 n h' 184 [some (aR 52), some (aI (vS t s (e + 1 - s)))] [] := by
          refine aw_aload_n dX6_take_184 rfl ?_
          refine aw_dup dX6_take_185 rfl ?_
          refine aw_get kg_X6_70 (by assumption) (by rfl) dX6_take_186 ?_
          refine aw_iconst dX6_take_189 ?_
          refine aw_iadd dX6_take_190 ?_
          -- at 191: .putfield 70
          refine aw_putO kp_X6_70 (by assumption) (by simp) (aw_ni _) dX6_take_191 (fun hb b2 f2 => ?_)
          refine aw_goto (tgt := 117) dX6_take_194 (by decide) ?_
          refine ih (e + 1) hb (by omega) (by omega) (fun i h1 h2 => ?_) (by rw [b2]; rfl) (fun j hj => (f2 j hj).trans (hfr j hj)) kk
          by_cases z : i = e
          · subst z; exact c2
          · exact hdg i h1 (by omega)
        refine aw_aload_n dX6_take_143 rfl ?_
        refine aw_get kg_X6_70 (by assumption) (by rfl) dX6_take_144 ?_
        refine aw_aload_n dX6_take_147 rfl ?_
        refine aw_get kg_X6_76 (by assumption) (by rfl) dX6_take_148 ?_
        refine aw_iconst dX6_take_151 ?_
        refine aw_iadd dX6_take_152 ?_
        -- at 153: .if_icmp .ne 27
        refine aw_icmp_ne (tgt := 180) dX6_take_153 (by omega) (by omega) (by decide) (fun c3 => ?_) (fun c3 => ?_)
        · refine aw_sipush dX6_take_180 (by decide) ?_
          refine aw_val (w := aI (vS t s (e + 1 - s))) (by rw [vS, if_neg (by omega), if_neg (by omega)]) ?_
          refine aw_istore_n dX6_take_183 (by decide) ?_
          exact fin
        · have e1 : e = s + 1 := by omega
          have ev : vS t s (e - s) = t.getD s 0 - 48 := by rw [vS, if_pos (by omega)]
          refine aw_iload_n dX6_take_156 rfl ?_
          -- at 157: .ifCond .le 23
          refine aw_if_le (tgt := 180) dX6_take_157 (by omega) (by decide) (fun c4 => ?_) (fun c4 => ?_)
          · refine aw_sipush dX6_take_180 (by decide) ?_
            refine aw_val (w := aI (vS t s (e + 1 - s))) (by rw [vS, if_neg (by omega), if_neg (by omega)]) ?_
            refine aw_istore_n dX6_take_183 (by decide) ?_
            exact fin
          · refine aw_bipush dX6_take_160 (by decide) ?_
            refine aw_iload_n dX6_take_162 rfl ?_
            refine aw_imul dX6_take_163 ?_
            refine aw_aload_n dX6_take_164 rfl ?_
            refine aw_get kg_X6_33 (by assumption) (by rfl) dX6_take_165 ?_
            refine aw_aload_n dX6_take_168 rfl ?_
            refine aw_get kg_X6_70 (by assumption) (by rfl) dX6_take_169 ?_
            refine aw_iald (by assumption) (by omega) dX6_take_172 ?_
            refine aw_val (w := aI (t.getD e 0)) (by rw [Int.toNat_natCast, hfi e (by omega)]) ?_
            refine aw_iadd dX6_take_173 ?_
            refine aw_bipush dX6_take_174 (by decide) ?_
            refine aw_isub dX6_take_176 ?_
            refine aw_val (w := aI (vS t s (e + 1 - s))) (by rw [ev, vS, if_neg (by omega), if_pos (by omega), ← e1]; congr 1; omega) ?_
            refine aw_goto (tgt := 183) dX6_take_177 (by decide) ?_
            refine aw_istore_n dX6_take_183 (by decide) ?_
            exact fin
theorem c6_take {ps : Nat} {u p q sn bg tk it nu nl nm tp : Int} (h1 : h 52 = aO 6 (mdl u p q sn (t.length : Int) (ps : Int) bg tk it nu nl nm tp)) (H : isTy h t) (ht : okTx t) (hp : ps ≤ t.length) :
    AC mX6_take (d + 3) 0 0 n h [aR 52] (aqv n fun h' => h' 52 = aO 6 (mdl u p q sn (t.length : Int) (nxS t ps : Int) (stS t ps : Int) (tkS t ps) it nu nl nm tp) ∧ ∀ j, j ≠ 52 → h' j = h j) := by
  refine AC.of (by decide) (Nat.le_of_ble_eq_true rfl) ?_
  have H0 := H
  obtain ⟨f, hf, hfi⟩ := H
  have ht6 := ht.1
  have hst := stS_le hp
  refine tk_loop (h := h) H0 ht none (t.length - ps) ps h (by omega) h1 (fun _ _ => rfl) (fun h2 b2 f2 => ?_)
  have est : skp t (t.length - ps) ps = stS t ps := rfl
  rw [est] at b2
  refine aw_aload_n dX6_take_38 rfl ?_
  refine aw_aload_n dX6_take_39 rfl ?_
  refine aw_get kg_X6_70 (by assumption) (by rfl) dX6_take_40 ?_
  -- at 43: .putfield 76
  refine aw_putO kp_X6_76 (by assumption) (by simp) (aw_ni _) dX6_take_43 (fun h3 b3 f3 => ?_)
  have b3 : h3 52 = aO 6 (mdl u p q sn (t.length : Int) (stS t ps : Int) (stS t ps : Int) tk it nu nl nm tp) := b3
  have h7 : h3 58 = aA 0 60 f := ((f3 58 (by decide)).trans (f2 58 (by decide))).trans hf
  have f3' : ∀ j, j ≠ 52 → h3 j = h j := fun j hj => (f3 j hj).trans (f2 j hj)
  refine aw_aload_n dX6_take_46 rfl ?_
  refine aw_aload_n dX6_take_47 rfl ?_
  refine aw_get kg_X6_70 (by assumption) (by rfl) dX6_take_48 ?_
  refine aw_aload_n dX6_take_51 rfl ?_
  refine aw_get kg_X6_73 (by assumption) (by rfl) dX6_take_52 ?_
  -- at 55: .if_icmp .ge 15
  refine aw_icmp_ge (tgt := 70) dX6_take_55 (by omega) (by omega) (by decide) (fun c1 => ?_) (fun c1 => ?_)
  · have etk : tkS t ps = -1 := by rw [tkS, if_pos (by omega)]
    have enx : nxS t ps = stS t ps := by rw [nxS, if_pos (by omega)]
    refine aw_iconst dX6_take_70 ?_
    -- at 71: .putfield 79
    refine aw_putO kp_X6_79 (by assumption) (by simp) (aw_ni _) dX6_take_71 (fun h4 b4 f4 => ?_)
    have b4 : h4 52 = aO 6 (mdl u p q sn (t.length : Int) (stS t ps : Int) (stS t ps : Int) (-1) it nu nl nm tp) := b4
    refine aw_aload_n dX6_take_74 rfl ?_
    refine aw_dup dX6_take_75 rfl ?_
    refine aw_get kg_X6_70 (by assumption) (by rfl) dX6_take_76 ?_
    refine aw_aload_n dX6_take_79 rfl ?_
    refine aw_get kg_X6_70 (by assumption) (by rfl) dX6_take_80 ?_
    refine aw_aload_n dX6_take_83 rfl ?_
    refine aw_get kg_X6_73 (by assumption) (by rfl) dX6_take_84 ?_
    -- at 87: .if_icmp .ge 7
    refine aw_icmp_ge (tgt := 94) dX6_take_87 (by omega) (by omega) (by decide) (fun c2 => ?_) (fun c2 => ?_)
    · refine aw_iconst dX6_take_94 ?_
      refine aw_iadd dX6_take_95 ?_
      -- at 96: .putfield 70
      refine aw_putO kp_X6_70 (by assumption) (by simp) (aw_ni _) dX6_take_96 (fun h5 b5 f5 => ?_)
      have b5 : h5 52 = aO 6 (mdl u p q sn (t.length : Int) ((stS t ps : Int) + 0) (stS t ps : Int) (-1) it nu nl nm tp) := b5
      rw [Int.add_zero] at b5
      refine aw_aload_n dX6_take_99 rfl ?_
      refine aw_get kg_X6_79 (by assumption) (by rfl) dX6_take_100 ?_
      -- at 103: .invokestatic 82
      refine aw_Si1 kc_X6_82 (c6_isDigit (d := d) (by decide)) rfl (by omega) (Nat.le_of_ble_eq_true rfl) dX6_take_103 (fun v h' q => ?_)
      obtain ⟨rfl, rfl⟩ := q
      refine aw_flag_eq (tgt := 206) dX6_take_106 (by decide) (fun c3 => ?_) (fun c3 => ?_)
      · exact aw_vret rfl dX6_take_206 ⟨rfl, rfl, by rw [b5, etk, enx], fun j hj => ((f5 j hj).trans (f4 j hj)).trans (f3' j hj)⟩
      · omega
    · omega
  · have hv := ht.2 (stS t ps) (by omega)
    refine aw_aload_n dX6_take_58 rfl ?_
    refine aw_get kg_X6_33 (by assumption) (by rfl) dX6_take_59 ?_
    refine aw_aload_n dX6_take_62 rfl ?_
    refine aw_get kg_X6_70 (by assumption) (by rfl) dX6_take_63 ?_
    refine aw_iald (by assumption) (by omega) dX6_take_66 ?_
    refine aw_val (w := aI (t.getD (stS t ps) 0)) (by rw [Int.toNat_natCast, hfi _ (by omega)]) ?_
    refine aw_goto (tgt := 71) dX6_take_67 (by decide) ?_
    -- at 71: .putfield 79
    refine aw_putO kp_X6_79 (by assumption) (by simp) (aw_ni _) dX6_take_71 (fun h4 b4 f4 => ?_)
    have b4 : h4 52 = aO 6 (mdl u p q sn (t.length : Int) (stS t ps : Int) (stS t ps : Int) (t.getD (stS t ps) 0) it nu nl nm tp) := b4
    refine aw_aload_n dX6_take_74 rfl ?_
    refine aw_dup dX6_take_75 rfl ?_
    refine aw_get kg_X6_70 (by assumption) (by rfl) dX6_take_76 ?_
    refine aw_aload_n dX6_take_79 rfl ?_
    refine aw_get kg_X6_70 (by assumption) (by rfl) dX6_take_80 ?_
    refine aw_aload_n dX6_take_83 rfl ?_
    refine aw_get kg_X6_73 (by assumption) (by rfl) dX6_take_84 ?_
    -- at 87: .if_icmp .ge 7
    refine aw_icmp_ge (tgt := 94) dX6_take_87 (by omega) (by omega) (by decide) (fun c2 => ?_) (fun c2 => ?_)
    · omega
    · refine aw_iconst dX6_take_90 ?_
      refine aw_goto (tgt := 95) dX6_take_91 (by decide) ?_
      refine aw_iadd dX6_take_95 ?_
      -- at 96: .putfield 70
      refine aw_putO kp_X6_70 (by assumption) (by simp) (aw_ni _) dX6_take_96 (fun h5 b5 f5 => ?_)
      have b5 : h5 52 = aO 6 (mdl u p q sn (t.length : Int) ((stS t ps : Int) + 1) (stS t ps : Int) (t.getD (stS t ps) 0) it nu nl nm tp) := b5
      have f5' : ∀ j, j ≠ 52 → h5 j = h j := fun j hj => ((f5 j hj).trans (f4 j hj)).trans (f3' j hj)
      refine aw_aload_n dX6_take_99 rfl ?_
      refine aw_get kg_X6_79 (by assumption) (by rfl) dX6_take_100 ?_
      -- at 103: .invokestatic 82
      refine aw_Si1 kc_X6_82 (c6_isDigit (d := d) (by omega)) rfl (by omega) (Nat.le_of_ble_eq_true rfl) dX6_take_103 (fun v h' q => ?_)
      obtain ⟨rfl, rfl⟩ := q
      refine aw_flag_eq (tgt := 206) dX6_take_106 (by decide) (fun c3 => ?_) (fun c3 => ?_)
      · have etk : tkS t ps = t.getD (stS t ps) 0 := by rw [tkS, if_neg (by omega), if_neg c3]
        have enx : nxS t ps = stS t ps + 1 := by rw [nxS, if_neg (by omega), if_neg c3]
        exact aw_vret rfl dX6_take_206 ⟨rfl, rfl, by rw [b5, etk, enx]; rfl, f5'⟩
      · have etk : tkS t ps = 1000 + vS t (stS t ps) (neS t (stS t ps) - stS t ps) := by rw [tkS, if_neg (by omega), if_pos c3]
        have enx : nxS t ps = neS t (stS t ps) := by rw [nxS, if_neg (by omega), if_pos c3]
        have ene : nen t (t.length - (stS t ps + 1)) (stS t ps + 1) = neS t (stS t ps) := by
          obtain ⟨k, hk⟩ : ∃ k, t.length - stS t ps = k + 1 := ⟨t.length - stS t ps - 1, by omega⟩
          unfold neS
          rw [hk, nen, if_pos ⟨by omega, c3⟩, show t.length - (stS t ps + 1) = k by omega]
        have K := tkn_loop (n := n) (Z := am_Z (aqv n fun h' => h' 52 = aO 6 (mdl u p q sn (t.length : Int) (nxS t ps : Int) (stS t ps : Int) (tkS t ps) it nu nl nm tp) ∧ ∀ j, j ≠ 52 → h' j = h j) 0 0) (h := h) (D := d) (s := stS t ps) H0 ht (t.length - (stS t ps + 1)) (stS t ps + 1) h' (by omega) (by omega) (fun i g1 g2 => by
            have : i = stS t ps := by omega
            rw [this]; exact c3) (by rw [b5]; rfl) f5' (fun h6 b6 f6 => by
          rw [ene] at b6 ⊢
          refine aw_aload_n dX6_take_197 rfl ?_
          refine aw_sipush dX6_take_198 (by decide) ?_
          refine aw_iload_n dX6_take_201 rfl ?_
          refine aw_iadd dX6_take_202 ?_
          -- at 203: .putfield 79
          refine aw_putO kp_X6_79 (by assumption) (by simp) (aw_ni _) dX6_take_203 (fun h7' b7 f7 => ?_)
          exact aw_vret rfl dX6_take_206 ⟨rfl, rfl, by rw [b7, etk, enx]; rfl, fun j hj => (f7 j hj).trans (f6 j hj)⟩)
        refine aw_aload_n dX6_take_109 rfl ?_
        refine aw_get kg_X6_79 (by assumption) (by rfl) dX6_take_110 ?_
        refine aw_bipush dX6_take_113 (by decide) ?_
        refine aw_isub dX6_take_115 ?_
        refine aw_val (w := aI (vS t (stS t ps) (stS t ps + 1 - stS t ps))) (by rw [vS, if_pos (by omega)]) ?_
        refine aw_istore_n dX6_take_116 (by decide) ?_
        exact K
end Tok
