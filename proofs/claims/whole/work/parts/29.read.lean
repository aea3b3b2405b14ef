/-! the class's reader, whole -/
def okSt (s : Nat) (P Q : Int) (l : List Int) : Prop := (1 ≤ P ∧ P ≤ 99) ∧ (1 ≤ Q ∧ Q ≤ 99) ∧ le60 l ∧ (∀ i j, i < j → j < l.length → l.getD i 0 < l.getD j 0) ∧ (s ≠ 2 → P ≤ 2 * Q)
theorem lastv_app (l : List Int) (x : Int) : lastv (l ++ [x]) = x := by
  unfold lastv
  rw [if_neg (by simp), gd_app]
  simp
theorem okSt_app {s s' : Nat} {P Q tk : Int} {l : List Int} (h : okSt s P Q l) (hs : s ≠ 2) (ht : trmOK tk l) : okSt s' P Q (l ++ [tk - 1000]) := by
  obtain ⟨h1, h2, ⟨h3, h3'⟩, h4, h5⟩ := h
  obtain ⟨t1, t2, t3⟩ := ht
  refine ⟨h1, h2, ⟨by simp; omega, fun i hi => ?_⟩, fun i j hij hj => ?_, fun _ => h5 hs⟩
  · rw [gd_app]
    simp at hi
    by_cases q : i < l.length
    · rw [if_pos q]; exact h3' i q
    · rw [if_neg q, if_pos (by omega)]; omega
  · rw [gd_app, gd_app]
    simp at hj
    by_cases q : j < l.length
    · rw [if_pos (by omega), if_pos q]; exact h4 i j hij q
    · rw [if_pos (by omega), if_neg q, if_pos (by omega)]
      unfold lastv at t2
      rw [if_neg (by omega)] at t2
      by_cases z : i = l.length - 1
      · rw [z]; exact t2
      · have := h4 i (l.length - 1) (by omega) (by omega)
        omega
theorem foll_ok {tk : Int} {s : Nat} {P Q : Int} {l : List Int} (h : okSt s P Q l) (hn : (foll tk s P Q l).1 ≠ 8) : okSt (foll tk s P Q l).1 (foll tk s P Q l).2.1 (foll tk s P Q l).2.2.1 (foll tk s P Q l).2.2.2 ∧ (foll tk s P Q l).1 ≤ 7 := by
  have h0 := h
  obtain ⟨h1, h2, h3, h4, h5⟩ := h
  revert hn
  unfold foll
  by_cases s0 : s = 0
  · rw [if_pos s0]
    split
    · intro _; exact ⟨⟨h1, h2, h3, h4, fun _ => h5 (by omega)⟩, by simp⟩
    · intro q; exact absurd rfl q
  rw [if_neg s0]
  by_cases s1 : s = 1
  · rw [if_pos s1]
    split
    · intro _; exact ⟨⟨by show 1 ≤ tk - 1000 ∧ tk - 1000 ≤ 99; omega, h2, h3, h4, fun q => absurd rfl q⟩, by simp⟩
    · intro q; exact absurd rfl q
  rw [if_neg s1]
  by_cases s2 : s = 2
  · rw [if_pos s2]
    split
    · rename_i hc
      intro _; exact ⟨⟨h1, by show 1 ≤ tk - 1000 ∧ tk - 1000 ≤ 99; omega, h3, h4, fun _ => hc.2⟩, by simp⟩
    · intro q; exact absurd rfl q
  rw [if_neg s2]
  by_cases s3 : s = 3
  · rw [if_pos s3]
    split
    · intro _; exact ⟨⟨h1, h2, h3, h4, fun _ => h5 s2⟩, by simp⟩
    · intro q; exact absurd rfl q
  rw [if_neg s3]
  by_cases s4 : s = 4
  · rw [if_pos s4]
    split
    · intro _; exact ⟨⟨h1, h2, h3, h4, fun _ => h5 s2⟩, by simp⟩
    · intro q; exact absurd rfl q
  rw [if_neg s4]
  by_cases s5 : s = 5
  · rw [if_pos s5]
    split
    · rename_i hc
      intro _; exact ⟨okSt_app h0 s2 hc, by simp⟩
    · intro q; exact absurd rfl q
  rw [if_neg s5]
  by_cases s6 : s = 6
  · rw [if_pos s6]
    split
    · split
      · intro _; exact ⟨⟨h1, h2, h3, h4, fun _ => h5 s2⟩, by simp⟩
      · intro q; exact absurd rfl q
    · split
      · rename_i hc
        intro _; exact ⟨okSt_app h0 s2 hc, by simp⟩
      · intro q; exact absurd rfl q
  rw [if_neg s6]
  intro q; exact absurd rfl q
section Read
variable {d n : Nat} {h : AH} {lt pl sta vl P Q tk : Int} {l : List Int}
theorem c_follow {s : Nat} (hs : s ≤ 7) (hk : -1 ≤ tk ∧ tk ≤ 2000) (hv : -2147483648 ≤ vl ∧ vl ≤ 2147483647) (ok : okSt s P Q l) (hvk : 1000 ≤ tk → tk ≤ 1099 → vl = tk - 1000) (h1 : h 6 = aO 3 (scr lt pl (knS tk) sta vl P Q)) (H : isRow h 8 9 l) :
    AC mX3_follow (d + 4) 0 0 n h [aR 6, aI (s : Int)] (aqi n fun v h' => v = ((foll tk s P Q l).1 : Int) ∧ h' 6 = aO 3 (scr lt pl (knS tk) sta vl (foll tk s P Q l).2.1 (foll tk s P Q l).2.2.1) ∧ isRow h' 8 9 (foll tk s P Q l).2.2.2 ∧ ∀ j, j ≠ 6 → j ≠ 8 → j ≠ 9 → h' j = h j) := by
  refine AC.of (by decide) (Nat.le_of_ble_eq_true rfl) ?_
  have hn := knS_iff hk.1
  obtain ⟨hP, hQ, hl, hri, hPQ⟩ := ok
  refine aw_iload_n dX3_follow_0 rfl ?_
  -- at 1: .tableswitch 123 0 6 #[43, 58, 63, 68, 83, 98, 103]
  have hc : s = 0 ∨ s = 1 ∨ s = 2 ∨ s = 3 ∨ s = 4 ∨ s = 5 ∨ s = 6 ∨ s = 7 := by omega
  rcases hc with rfl | rfl | rfl | rfl | rfl | rfl | rfl | rfl
  · refine aw_tableIn (tgt := 44) dX3_follow_1 (by decide) (by decide) (by decide) rfl (by decide) ?_
    refine aw_aload_n dX3_follow_44 rfl ?_
    refine aw_get kg_X3_22 (by assumption) (by rfl) dX3_follow_45 ?_
    refine aw_iconst dX3_follow_48 ?_
    -- at 49: .if_icmp .ne 7
    refine aw_icmp_ne (tgt := 56) dX3_follow_49 (by omega) (by omega) (by decide) (fun c1 => ?_) (fun c1 => ?_)
    · have e : foll tk 0 P Q l = (8, P, Q, l) := by
        have : tk ≠ 112 := fun z => c1 (hn.2.1.mpr z)
        simp [foll, this]
      refine aw_bipush dX3_follow_56 (by decide) ?_
      -- at 58: .ireturn
      exact aw_iret rfl dX3_follow_58 ⟨rfl, _, rfl, by rw [e]; rfl, by rw [h1, e], by rw [e]; exact H, fun _ _ _ _ => rfl⟩
    · have e : foll tk 0 P Q l = (1, P, Q, l) := by
        have : tk = 112 := hn.2.1.mp (Decidable.not_not.mp c1)
        simp [foll, this]
      refine aw_iconst dX3_follow_52 ?_
      refine aw_goto (tgt := 58) dX3_follow_53 (by decide) ?_
      -- at 58: .ireturn
      exact aw_iret rfl dX3_follow_58 ⟨rfl, _, rfl, by rw [e]; rfl, by rw [h1, e], by rw [e]; exact H, fun _ _ _ _ => rfl⟩
  · refine aw_tableIn (tgt := 59) dX3_follow_1 (by decide) (by decide) (by decide) rfl (by decide) ?_
    refine aw_aload_n dX3_follow_59 rfl ?_
    -- at 60: .invokevirtual 54
    refine aw_Vi0 kc_X3_54 (c_takeAbove (d := d) (l := l) hk hv hvk h1) (by assumption) rfl rfl (by omega) (Nat.le_of_ble_eq_true rfl) dX3_follow_60 (fun v h2 q => ?_)
    obtain ⟨rfl, q2, q3, q4⟩ := q
    exact aw_iret rfl dX3_follow_63 ⟨rfl, _, rfl, rfl, q2, by rw [q3]; exact H.fr (q4 8 (by decide)) (q4 9 (by decide)), fun j j1 _ _ => q4 j j1⟩
  · refine aw_tableIn (tgt := 64) dX3_follow_1 (by decide) (by decide) (by decide) rfl (by decide) ?_
    refine aw_aload_n dX3_follow_64 rfl ?_
    -- at 65: .invokevirtual 58
    refine aw_Vi0 kc_X3_58 (c_takeBelow (d := d) (l := l) hk hv hP hvk h1) (by assumption) rfl rfl (by omega) (Nat.le_of_ble_eq_true rfl) dX3_follow_65 (fun v h2 q => ?_)
    obtain ⟨rfl, q2, q3, q4⟩ := q
    exact aw_iret rfl dX3_follow_68 ⟨rfl, _, rfl, rfl, q2, by rw [q3]; exact H.fr (q4 8 (by decide)) (q4 9 (by decide)), fun j j1 _ _ => q4 j j1⟩
  · refine aw_tableIn (tgt := 69) dX3_follow_1 (by decide) (by decide) (by decide) rfl (by decide) ?_
    refine aw_aload_n dX3_follow_69 rfl ?_
    refine aw_get kg_X3_22 (by assumption) (by rfl) dX3_follow_70 ?_
    refine aw_iconst dX3_follow_73 ?_
    -- at 74: .if_icmp .ne 7
    refine aw_icmp_ne (tgt := 81) dX3_follow_74 (by omega) (by omega) (by decide) (fun c1 => ?_) (fun c1 => ?_)
    · have e : foll tk 3 P Q l = (8, P, Q, l) := by
        have : tk ≠ 59 := fun z => c1 (hn.2.2.2.1.mpr z)
        simp [foll, this]
      refine aw_bipush dX3_follow_81 (by decide) ?_
      -- at 83: .ireturn
      exact aw_iret rfl dX3_follow_83 ⟨rfl, _, rfl, by rw [e]; rfl, by rw [h1, e], by rw [e]; exact H, fun _ _ _ _ => rfl⟩
    · have e : foll tk 3 P Q l = (4, P, Q, l) := by
        have : tk = 59 := hn.2.2.2.1.mp (Decidable.not_not.mp c1)
        simp [foll, this]
      refine aw_iconst dX3_follow_77 ?_
      refine aw_goto (tgt := 83) dX3_follow_78 (by decide) ?_
      -- at 83: .ireturn
      exact aw_iret rfl dX3_follow_83 ⟨rfl, _, rfl, by rw [e]; rfl, by rw [h1, e], by rw [e]; exact H, fun _ _ _ _ => rfl⟩
  · refine aw_tableIn (tgt := 84) dX3_follow_1 (by decide) (by decide) (by decide) rfl (by decide) ?_
    refine aw_aload_n dX3_follow_84 rfl ?_
    refine aw_get kg_X3_22 (by assumption) (by rfl) dX3_follow_85 ?_
    refine aw_iconst dX3_follow_88 ?_
    -- at 89: .if_icmp .ne 7
    refine aw_icmp_ne (tgt := 96) dX3_follow_89 (by omega) (by omega) (by decide) (fun c1 => ?_) (fun c1 => ?_)
    · have e : foll tk 4 P Q l = (8, P, Q, l) := by
        have : tk ≠ 115 := fun z => c1 (hn.2.2.1.mpr z)
        simp [foll, this]
      refine aw_bipush dX3_follow_96 (by decide) ?_
      -- at 98: .ireturn
      exact aw_iret rfl dX3_follow_98 ⟨rfl, _, rfl, by rw [e]; rfl, by rw [h1, e], by rw [e]; exact H, fun _ _ _ _ => rfl⟩
    · have e : foll tk 4 P Q l = (5, P, Q, l) := by
        have : tk = 115 := hn.2.2.1.mp (Decidable.not_not.mp c1)
        simp [foll, this]
      refine aw_iconst dX3_follow_92 ?_
      refine aw_goto (tgt := 98) dX3_follow_93 (by decide) ?_
      -- at 98: .ireturn
      exact aw_iret rfl dX3_follow_98 ⟨rfl, _, rfl, by rw [e]; rfl, by rw [h1, e], by rw [e]; exact H, fun _ _ _ _ => rfl⟩
  · refine aw_tableIn (tgt := 99) dX3_follow_1 (by decide) (by decide) (by decide) rfl (by decide) ?_
    refine aw_aload_n dX3_follow_99 rfl ?_
    -- at 100: .invokevirtual 61
    refine aw_Vi0 kc_X3_61 (c_takeTerm (d := d) hk hv hl hvk h1 H) (by assumption) rfl rfl (by omega) (Nat.le_of_ble_eq_true rfl) dX3_follow_100 (fun v h2 q => ?_)
    rcases q with ⟨q1, rfl, q3, q4⟩ | ⟨q1, rfl, rfl⟩
    · have e : foll tk 5 P Q l = (6, P, Q, l ++ [tk - 1000]) := by
        unfold foll
        rw [if_neg (by omega), if_neg (by omega), if_neg (by omega), if_neg (by omega), if_neg (by omega), if_pos rfl, if_pos q1]
      exact aw_iret rfl dX3_follow_103 ⟨rfl, _, rfl, by rw [e]; rfl, by rw [q4 6 (by decide) (by decide), h1, e], by rw [e]; exact q3, fun j _ j2 j3 => q4 j j2 j3⟩
    · have e : foll tk 5 P Q l = (8, P, Q, l) := by
        unfold foll
        rw [if_neg (by omega), if_neg (by omega), if_neg (by omega), if_neg (by omega), if_neg (by omega), if_pos rfl, if_neg q1]
      exact aw_iret rfl dX3_follow_103 ⟨rfl, _, rfl, by rw [e]; rfl, by rw [h1, e], by rw [e]; exact H, fun _ _ _ _ => rfl⟩
  · refine aw_tableIn (tgt := 104) dX3_follow_1 (by decide) (by decide) (by decide) rfl (by decide) ?_
    refine aw_aload_n dX3_follow_104 rfl ?_
    refine aw_get kg_X3_22 (by assumption) (by rfl) dX3_follow_105 ?_
    refine aw_iconst dX3_follow_108 ?_
    -- at 109: .if_icmp .ne 10
    refine aw_icmp_ne (tgt := 119) dX3_follow_109 (by omega) (by omega) (by decide) (fun c1 => ?_) (fun c1 => ?_)
    · have hne : tk ≠ 59 := fun z => c1 (hn.2.2.2.1.mpr z)
      refine aw_aload_n dX3_follow_119 rfl ?_
      -- at 120: .invokevirtual 61
      refine aw_Vi0 kc_X3_61 (c_takeTerm (d := d) hk hv hl hvk h1 H) (by assumption) rfl rfl (by omega) (Nat.le_of_ble_eq_true rfl) dX3_follow_120 (fun v h2 q => ?_)
      rcases q with ⟨q1, rfl, q3, q4⟩ | ⟨q1, rfl, rfl⟩
      · have e : foll tk 6 P Q l = (6, P, Q, l ++ [tk - 1000]) := by
          unfold foll
          rw [if_neg (by omega), if_neg (by omega), if_neg (by omega), if_neg (by omega), if_neg (by omega), if_neg (by omega), if_pos rfl, if_neg hne, if_pos q1]
        exact aw_iret rfl dX3_follow_123 ⟨rfl, _, rfl, by rw [e]; rfl, by rw [q4 6 (by decide) (by decide), h1, e], by rw [e]; exact q3, fun j _ j2 j3 => q4 j j2 j3⟩
      · have e : foll tk 6 P Q l = (8, P, Q, l) := by
          unfold foll
          rw [if_neg (by omega), if_neg (by omega), if_neg (by omega), if_neg (by omega), if_neg (by omega), if_neg (by omega), if_pos rfl, if_neg hne, if_neg q1]
        exact aw_iret rfl dX3_follow_123 ⟨rfl, _, rfl, by rw [e]; rfl, by rw [h1, e], by rw [e]; exact H, fun _ _ _ _ => rfl⟩
    · have he : tk = 59 := hn.2.2.2.1.mp (Decidable.not_not.mp c1)
      refine aw_aload_n dX3_follow_112 rfl ?_
      -- at 113: .invokevirtual 64
      refine aw_Vi0 kc_X3_64 (c_endSum (d := d) hP hQ hl h1 H) (by assumption) rfl rfl (by omega) (Nat.le_of_ble_eq_true rfl) dX3_follow_113 (fun v h2 q => ?_)
      obtain ⟨rfl, rfl⟩ := q
      refine aw_goto (tgt := 123) dX3_follow_116 (by decide) ?_
      -- at 123: .ireturn
      by_cases w : whS P Q l
      · have e : foll tk 6 P Q l = (7, P, Q, l) := by
          unfold foll
          rw [if_neg (by omega), if_neg (by omega), if_neg (by omega), if_neg (by omega), if_neg (by omega), if_neg (by omega), if_pos rfl, if_pos he, if_pos w]
        exact aw_iret rfl dX3_follow_123 ⟨rfl, _, rfl, by rw [e, if_pos w]; rfl, by rw [h1, e], by rw [e]; exact H, fun _ _ _ _ => rfl⟩
      · have e : foll tk 6 P Q l = (8, P, Q, l) := by
          unfold foll
          rw [if_neg (by omega), if_neg (by omega), if_neg (by omega), if_neg (by omega), if_neg (by omega), if_neg (by omega), if_pos rfl, if_pos he, if_neg w]
        exact aw_iret rfl dX3_follow_123 ⟨rfl, _, rfl, by rw [e, if_neg w]; rfl, by rw [h1, e], by rw [e]; exact H, fun _ _ _ _ => rfl⟩
  · refine aw_tableOut (tgt := 124) dX3_follow_1 (by decide) (by decide) (by decide) ?_
    have e : foll tk 7 P Q l = (8, P, Q, l) := by simp [foll]
    refine aw_bipush dX3_follow_124 (by decide) ?_
    -- at 126: .ireturn
    exact aw_iret rfl dX3_follow_126 ⟨rfl, _, rfl, by rw [e]; rfl, by rw [h1, e], by rw [e]; exact H, fun _ _ _ _ => rfl⟩
theorem read_fin {Z : AZ} {R : Room} {t : List Int} {s : Nat} {tok : Int} (hs : s ≤ 7) (ht : okTx t) (h1 : h 6 = aO 3 (scr (t.length : Int) pl tok sta vl P Q)) (L2 : Option AV) (kk : ∀ (v : Int) (pc : Nat) L, v = finS t s → decode cX3_read pc = .ok (.ireturn, 1) → AW mX3_read R Z 0 0 n h pc L [aI v]) : AW mX3_read R Z 0 0 n h 72 [some (aR 6), some (aI (s : Int)), L2] [] := by
  have ht6 := ht.1
  refine aw_iload_n dX3_read_72 rfl ?_
  -- at 73: .lookupswitch 41 #[(0, 35), (4, 37), (7, 39)]
  by_cases q1 : s = 0
  · subst q1
    refine aw_lookup (tgt := 108) (off := 35) dX3_read_73 (by decide) (by decide) (by decide) (by decide) ?_
    refine aw_iconst dX3_read_108 ?_
    -- at 109: .ireturn
    exact kk 0 109 _ rfl dX3_read_109
  · by_cases q2 : s = 4
    · subst q2
      refine aw_lookup (tgt := 110) (off := 37) dX3_read_73 (by decide) (by decide) (by decide) (by decide) ?_
      refine aw_iconst dX3_read_110 ?_
      -- at 111: .ireturn
      exact kk 1 111 _ rfl dX3_read_111
    · by_cases q3 : s = 7
      · subst q3
        refine aw_lookup (tgt := 112) (off := 39) dX3_read_73 (by decide) (by decide) (by decide) (by decide) ?_
        refine aw_iconst dX3_read_112 ?_
        -- at 113: .ireturn
        exact kk 2 113 _ rfl dX3_read_113
      · have g1 : ¬ ((0 : Int) = (s : Int)) := by omega
        have g2 : ¬ ((4 : Int) = (s : Int)) := by omega
        have g3 : ¬ ((7 : Int) = (s : Int)) := by omega
        refine aw_lookup (tgt := 114) (off := 41) dX3_read_73 (by omega) (by decide) (by show Op.lookupswitch.offset [(0, 35), (4, 37), (7, 39)] 41 (s : Int) = 41; rw [Op.lookupswitch.offset_cons, if_neg g1, Op.lookupswitch.offset_cons, if_neg g2, Op.lookupswitch.offset_cons, if_neg g3]; rfl) (by decide) ?_
        refine aw_bipush dX3_read_114 (by decide) ?_
        refine aw_aload_n dX3_read_116 rfl ?_
        refine aw_get kg_X3_15 (by assumption) (by rfl) dX3_read_117 ?_
        refine aw_isub dX3_read_120 ?_
        -- at 121: .ireturn
        exact kk _ 121 _ (by rw [finS, if_neg q1, if_neg q2, if_neg q3]) dX3_read_121
/-- behind the reader: the result, what was told -/
def rdQ (t : List Int) (T : Int × Int × Int × List Int) (h : AH) (v : Int) (h' : AH) : Prop := v = T.1 ∧ (∃ pl tok sta vl, (-2147483648 ≤ vl ∧ vl ≤ 2147483647) ∧ h' 6 = aO 3 (scr (t.length : Int) pl tok sta vl T.2.1 T.2.2.1)) ∧ isRow h' 8 9 T.2.2.2 ∧ ∀ j, j ≠ 6 → j ≠ 8 → j ≠ 9 → h' j = h j
theorem read_loop {t : List Int} {T : Int × Int × Int × List Int} (H0 : isTx h t) (ht : okTx t) :
    ∀ (m e s ps : Nat) (P Q : Int) (l : List Int) (h1 : AH) (tok sta vl : Int), m + e = 60 → s ≤ 7 → ps ≤ t.length → okSt s P Q l → h1 6 = aO 3 (scr (t.length : Int) (ps : Int) tok sta vl P Q) → isRow h1 8 9 l → (-2147483648 ≤ vl ∧ vl ≤ 2147483647) → (∀ j, j ≠ 6 → j ≠ 8 → j ≠ 9 → h1 j = h j) → runS t m s ps P Q l = T →
      AW mX3_read (am_R (d + 8) 0 0) (am_Z (aqi n fun v h' => rdQ t T h v h') 0 0) 0 0 n h1 26 [some (aR 6), some (aI (s : Int)), some (aI (e : Int))] [] := by
  have ht6 := ht.1
  intro m
  induction m with
  | zero =>
    intro e s ps P Q l h1 tok sta vl he hs hps ok h6 hr hv hfr hT
    refine aw_iload_n dX3_read_26 rfl ?_
    refine aw_bipush dX3_read_27 (by decide) ?_
    -- at 29: .if_icmp .ge 43
    refine aw_icmp_ge (tgt := 72) dX3_read_29 (by omega) (by omega) (by decide) (fun c1 => ?_) (fun c1 => ?_)
    · refine read_fin hs ht h6 _ (fun v pc L hv' hd => ?_)
      exact aw_iret rfl hd ⟨rfl, _, rfl, by rw [hv', ← hT]; rfl, ⟨_, _, _, _, hv, by rw [← hT]; exact h6⟩, by rw [← hT]; exact hr, hfr⟩
    · omega
  | succ m ih =>
    intro e s ps P Q l h1 tok sta vl he hs hps ok h6 hr hv hfr hT
    have htk := tkS_rng ht hps
    have hnx := nxS_le hps
    have hst := stS_le hps
    have hn := knS_iff htk.1
    refine aw_iload_n dX3_read_26 rfl ?_
    refine aw_bipush dX3_read_27 (by decide) ?_
    -- at 29: .if_icmp .ge 43
    refine aw_icmp_ge (tgt := 72) dX3_read_29 (by omega) (by omega) (by decide) (fun c1 => ?_) (fun c1 => ?_)
    · omega
    · refine aw_aload_n dX3_read_32 rfl ?_
      -- at 33: .invokevirtual 47
      refine aw_Vv0 kc_X3_47 (c_readToken (d := d) h6 (H0.fr (hfr 7 (by decide) (by decide) (by decide))) ht hps hv) (by assumption) rfl rfl (by omega) (Nat.le_of_ble_eq_true rfl) dX3_read_33 (fun h2 q => ?_)
      obtain ⟨⟨vl', b2, bv, hvr⟩, f2⟩ := q
      have hr2 := hr.fr (f2 8 (by decide)) (f2 9 (by decide))
      have hfr2 : ∀ j, j ≠ 6 → j ≠ 8 → j ≠ 9 → h2 j = h j := fun j j1 j2 j3 => (f2 j j1).trans (hfr j j1 j2 j3)
      refine aw_aload_n dX3_read_36 rfl ?_
      refine aw_get kg_X3_22 (by assumption) (by rfl) dX3_read_37 ?_
      -- at 40: .ifCond .ne 6
      rw [runS] at hT
      refine aw_if_ne (tgt := 46) dX3_read_40 (by omega) (by decide) (fun c2 => ?_) (fun c2 => ?_)
      · have hne : tkS t ps ≠ -1 := fun z => c2 (hn.1.mpr z)
        rw [if_neg hne] at hT
        refine aw_aload_n dX3_read_46 rfl ?_
        refine aw_iload_n dX3_read_47 rfl ?_
        -- at 48: .invokevirtual 50
        refine aw_Vi1 kc_X3_50 (c_follow (d := d) hs (by omega) hvr ok bv b2 hr2) (by assumption) rfl rfl (by omega) (Nat.le_of_ble_eq_true rfl) dX3_read_48 (fun v h3 q => ?_)
        obtain ⟨rfl, q2, q3, q4⟩ := q
        have hfr3 : ∀ j, j ≠ 6 → j ≠ 8 → j ≠ 9 → h3 j = h j := fun j j1 j2 j3 => (q4 j j1 j2 j3).trans (hfr2 j j1 j2 j3)
        have hf8 : (foll (tkS t ps) s P Q l).1 ≤ 8 := by
          by_cases z : (foll (tkS t ps) s P Q l).1 = 8
          · omega
          · have := (foll_ok ok z).2; omega
        refine aw_istore_n dX3_read_51 (by decide) ?_
        refine aw_iload_n dX3_read_52 rfl ?_
        refine aw_bipush dX3_read_53 (by decide) ?_
        -- at 55: .if_icmp .ne 11
        refine aw_icmp_ne (tgt := 66) dX3_read_55 (by omega) (by omega) (by decide) (fun c3 => ?_) (fun c3 => ?_)
        · rw [if_neg (by omega)] at hT
          have fo := foll_ok (tk := tkS t ps) ok (by omega)
          refine aw_iinc dX3_read_66 rfl (by decide) ?_
          refine aw_goto (tgt := 26) dX3_read_69 (by decide) ?_
          have K := ih (e + 1) _ _ _ _ _ h3 _ _ _ (by omega) fo.2 hnx.2 fo.1 q2 q3 hvr hfr3 hT
          rw [show ((e + 1 : Nat) : Int) = (e : Int) + 1 by omega] at K
          exact K
        · rw [if_pos (by omega)] at hT
          refine aw_bipush dX3_read_58 (by decide) ?_
          refine aw_aload_n dX3_read_60 rfl ?_
          refine aw_get kg_X3_25 (by assumption) (by rfl) dX3_read_61 ?_
          refine aw_isub dX3_read_64 ?_
          -- at 65: .ireturn
          exact aw_iret rfl dX3_read_65 ⟨rfl, _, rfl, by rw [← hT], ⟨_, _, _, _, hvr, by rw [← hT]; exact q2⟩, by rw [← hT]; exact q3, hfr3⟩
      · have he1 : tkS t ps = -1 := hn.1.mp (Decidable.not_not.mp c2)
        rw [if_pos he1] at hT
        refine aw_goto (tgt := 72) dX3_read_43 (by decide) ?_
        refine read_fin hs ht b2 _ (fun v pc L hv' hd => ?_)
        exact aw_iret rfl hd ⟨rfl, _, rfl, by rw [hv', ← hT], ⟨_, _, _, _, hvr, by rw [← hT]; exact b2⟩, by rw [← hT]; exact hr2, hfr2⟩
theorem c_read {t : List Int} {tok : Int} {l0 : List Int} (h1 : h 6 = aO 3 (scr (t.length : Int) pl tok sta vl P Q)) (H : isTx h t) (ht : okTx t) (H8 : isRow h 8 9 l0) (hv : -2147483648 ≤ vl ∧ vl ≤ 2147483647) : AC mX3_read (d + 8) 0 0 n h [aR 6] (aqi n fun v h' => rdQ t (telS t) h v h') := by
  refine AC.of (by decide) (Nat.le_of_ble_eq_true rfl) ?_
  refine aw_aload_n dX3_read_0 rfl ?_
  refine aw_iconst dX3_read_1 ?_
  -- at 2: .putfield 19
  refine aw_putO kp_X3_19 (by assumption) (by simp) (aw_ni _) dX3_read_2 (fun h2 b2 f2 => ?_)
  have b2 : h2 6 = aO 3 (scr (t.length : Int) 0 tok sta vl P Q) := b2
  refine aw_aload_n dX3_read_5 rfl ?_
  refine aw_iconst dX3_read_6 ?_
  -- at 7: .putfield 31
  refine aw_putO kp_X3_31 (by assumption) (by simp) (aw_ni _) dX3_read_7 (fun h3 b3 f3 => ?_)
  have b3 : h3 6 = aO 3 (scr (t.length : Int) 0 tok sta vl 2 Q) := b3
  refine aw_aload_n dX3_read_10 rfl ?_
  refine aw_iconst dX3_read_11 ?_
  -- at 12: .putfield 34
  refine aw_putO kp_X3_34 (by assumption) (by simp) (aw_ni _) dX3_read_12 (fun h4 b4 f4 => ?_)
  have b4 : h4 6 = aO 3 (scr (t.length : Int) 0 tok sta vl 2 3) := b4
  have f4' : ∀ j, j ≠ 6 → h4 j = h j := fun j hj => ((f4 j hj).trans (f3 j hj)).trans (f2 j hj)
  have r4 := H8.fr (f4' 8 (by decide)) (f4' 9 (by decide))
  have r41 := r4.1
  refine aw_aload_n dX3_read_15 rfl ?_
  refine aw_get kg_X3_40 (by assumption) (by rfl) dX3_read_16 ?_
  -- at 19: .invokevirtual 44
  refine aw_Vv0 kc_X3_44 (c_Row_wipe (d := d) r4) (by assumption) rfl rfl (by omega) (Nat.le_of_ble_eq_true rfl) dX3_read_19 (fun h5 q => ?_)
  have b5 := (q.2 6 (by decide) (by decide)).trans b4
  refine aw_iconst dX3_read_22 ?_
  refine aw_istore_n dX3_read_23 (by decide) ?_
  refine aw_iconst dX3_read_24 ?_
  refine aw_istore_n dX3_read_25 (by decide) ?_
  exact read_loop (d := d) (h := h) H ht 60 0 0 0 2 3 [] h5 _ _ _ rfl (by omega) (by omega) ⟨by omega, by omega, ⟨by simp, fun i hi => absurd hi (by simp)⟩, fun i j _ hj => absurd hj (by simp), fun _ => by omega⟩ b5 q.1 hv (fun j j1 j2 j3 => (q.2 j j2 j3).trans (f4' j j1)) rfl
end Read
theorem runS_ok {t : List Int} : ∀ (m s ps : Nat) (P Q : Int) (l : List Int), s ≤ 7 → okSt s P Q l → 0 ≤ (runS t m s ps P Q l).1 → okSt 7 (runS t m s ps P Q l).2.1 (runS t m s ps P Q l).2.2.1 (runS t m s ps P Q l).2.2.2
  | 0, s, ps, P, Q, l, hs, ok, hq => by
    unfold runS at hq ⊢
    obtain ⟨h1, h2, h3, h4, h5⟩ := ok
    have : s ≠ 2 := by
      rintro rfl
      simp [finS] at hq
      omega
    exact ⟨h1, h2, h3, h4, fun _ => h5 this⟩
  | m + 1, s, ps, P, Q, l, hs, ok, hq => by
    unfold runS at hq ⊢
    by_cases q1 : tkS t ps = -1
    · rw [if_pos q1] at hq ⊢
      obtain ⟨h1, h2, h3, h4, h5⟩ := ok
      have : s ≠ 2 := by
        rintro rfl
        simp [finS] at hq
        omega
      exact ⟨h1, h2, h3, h4, fun _ => h5 this⟩
    · rw [if_neg q1] at hq ⊢
      by_cases q2 : (foll (tkS t ps) s P Q l).1 = 8
      · rw [if_pos q2] at hq
        exfalso
        have : (0 : Int) ≤ -10 - (stS t ps : Int) := hq
        omega
      · rw [if_neg q2] at hq ⊢
        have fo := foll_ok ok q2
        exact runS_ok m _ _ _ _ _ fo.2 fo.1 hq
theorem telS_ok {t : List Int} (h : 0 ≤ (telS t).1) : okSt 7 (telS t).2.1 (telS t).2.2.1 (telS t).2.2.2 := runS_ok 60 0 0 2 3 [] (by omega) ⟨by omega, by omega, ⟨by simp, fun i hi => absurd hi (by simp)⟩, fun i j _ hj => absurd hj (by simp), fun _ => by omega⟩ h
