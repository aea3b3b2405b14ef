/-! the reference: part, maySplit, splits, joins -/
section Model4
variable {d n : Nat} {h : AH} {s : WS}
theorem c6_part {D rule i : Int} (hD : 1 ≤ D ∧ D ≤ 1000000) (hr : 0 ≤ rule ∧ rule ≤ 3) (hi : 0 ≤ i ∧ i ≤ 2) : AC mX6_part d 0 0 n h [aL D, aI rule, aI i] (aql n fun v h' => v = partS D rule i ∧ h' = h) := by
  refine AC.of (by decide) (Nat.le_of_ble_eq_true rfl) ?_
  refine aw_iload_n dX6_part_0 rfl ?_
  -- at 1: .tableswitch 114 0 2 #[27, 52, 83]
  rcases (show rule = 0 ∨ rule = 1 ∨ rule = 2 ∨ rule = 3 by omega) with rfl | rfl | rfl | rfl
  · refine aw_tableIn (tgt := 28) dX6_part_1 (by decide) (by decide) (by decide) rfl (by decide) ?_
    refine aw_iload_n dX6_part_28 rfl ?_
    -- at 29: .ifCond .ne 9
    refine aw_if_ne (tgt := 38) dX6_part_29 (by omega) (by decide) (fun c1 => ?_) (fun c1 => ?_)
    · refine aw_iload_n dX6_part_38 rfl ?_
      refine aw_iconst dX6_part_39 ?_
      -- at 40: .if_icmp .ne 11
      refine aw_icmp_ne (tgt := 51) dX6_part_40 (by omega) (by omega) (by decide) (fun c2 => ?_) (fun c2 => ?_)
      · refine aw_lconst (a := 0) dX6_part_51 (by decide) ?_
        -- at 52: .lreturn
        exact aw_lret rfl dX6_part_52 ⟨rfl, _, rfl, by rw [show i = 2 by omega]; rfl, rfl⟩
      · refine aw_lload_n dX6_part_43 rfl ?_
        refine aw_lload_n dX6_part_44 rfl ?_
        refine aw_lconst (a := 1) dX6_part_45 (by decide) ?_
        refine aw_ladd dX6_part_46 ?_
        refine aw_lmul dX6_part_47 ?_
        refine aw_goto (tgt := 52) dX6_part_48 (by decide) ?_
        -- at 52: .lreturn
        exact aw_lret rfl dX6_part_52 ⟨rfl, _, rfl, by rw [show i = 1 by omega]; rfl, rfl⟩
    · refine aw_lload_n dX6_part_32 rfl ?_
      refine aw_lconst (a := 1) dX6_part_33 (by decide) ?_
      refine aw_ladd dX6_part_34 ?_
      refine aw_goto (tgt := 52) dX6_part_35 (by decide) ?_
      -- at 52: .lreturn
      exact aw_lret rfl dX6_part_52 ⟨rfl, _, rfl, by rw [show i = 0 by omega]; rfl, rfl⟩
  · refine aw_tableIn (tgt := 53) dX6_part_1 (by decide) (by decide) (by decide) rfl (by decide) ?_
    refine aw_iload_n dX6_part_53 rfl ?_
    -- at 54: .ifCond .ne 15
    refine aw_if_ne (tgt := 69) dX6_part_54 (by omega) (by decide) (fun c1 => ?_) (fun c1 => ?_)
    · refine aw_iload_n dX6_part_69 rfl ?_
      refine aw_iconst dX6_part_70 ?_
      -- at 71: .if_icmp .ne 11
      refine aw_icmp_ne (tgt := 82) dX6_part_71 (by omega) (by omega) (by decide) (fun c2 => ?_) (fun c2 => ?_)
      · refine aw_lconst (a := 0) dX6_part_82 (by decide) ?_
        -- at 83: .lreturn
        exact aw_lret rfl dX6_part_83 ⟨rfl, _, rfl, by rw [show i = 2 by omega]; rfl, rfl⟩
      · refine aw_ldc2 kl_X6_159 dX6_part_74 ?_
        refine aw_lload_n dX6_part_77 rfl ?_
        refine aw_lmul dX6_part_78 ?_
        refine aw_goto (tgt := 83) dX6_part_79 (by decide) ?_
        -- at 83: .lreturn
        exact aw_lret rfl dX6_part_83 ⟨rfl, _, rfl, by rw [show i = 1 by omega]; rfl, rfl⟩
    · refine aw_ldc2 kl_X6_159 dX6_part_57 ?_
      refine aw_lload_n dX6_part_60 rfl ?_
      refine aw_lmul dX6_part_61 ?_
      refine aw_ldc2 kl_X6_126 dX6_part_62 ?_
      refine aw_ldiv dX6_part_65 (by omega) (by omega) ?_
      refine aw_goto (tgt := 83) dX6_part_66 (by decide) ?_
      -- at 83: .lreturn
      exact aw_lret rfl dX6_part_83 ⟨rfl, _, rfl, by rw [show i = 0 by omega]; rfl, rfl⟩
  · refine aw_tableIn (tgt := 84) dX6_part_1 (by decide) (by decide) (by decide) rfl (by decide) ?_
    refine aw_iload_n dX6_part_84 rfl ?_
    -- at 85: .ifCond .ne 15
    refine aw_if_ne (tgt := 100) dX6_part_85 (by omega) (by decide) (fun c1 => ?_) (fun c1 => ?_)
    · refine aw_iload_n dX6_part_100 rfl ?_
      refine aw_iconst dX6_part_101 ?_
      -- at 102: .if_icmp .ne 11
      refine aw_icmp_ne (tgt := 113) dX6_part_102 (by omega) (by omega) (by decide) (fun c2 => ?_) (fun c2 => ?_)
      · refine aw_lconst (a := 0) dX6_part_113 (by decide) ?_
        -- at 114: .lreturn
        exact aw_lret rfl dX6_part_114 ⟨rfl, _, rfl, by rw [show i = 2 by omega]; rfl, rfl⟩
      · refine aw_ldc2 kl_X6_168 dX6_part_105 ?_
        refine aw_lload_n dX6_part_108 rfl ?_
        refine aw_lmul dX6_part_109 ?_
        refine aw_goto (tgt := 114) dX6_part_110 (by decide) ?_
        -- at 114: .lreturn
        exact aw_lret rfl dX6_part_114 ⟨rfl, _, rfl, by rw [show i = 1 by omega]; rfl, rfl⟩
    · refine aw_ldc2 kl_X6_168 dX6_part_88 ?_
      refine aw_lload_n dX6_part_91 rfl ?_
      refine aw_lmul dX6_part_92 ?_
      refine aw_ldc2 kl_X6_159 dX6_part_93 ?_
      refine aw_ldiv dX6_part_96 (by omega) (by omega) ?_
      refine aw_goto (tgt := 114) dX6_part_97 (by decide) ?_
      -- at 114: .lreturn
      exact aw_lret rfl dX6_part_114 ⟨rfl, _, rfl, by rw [show i = 0 by omega]; rfl, rfl⟩
  · refine aw_tableOut (tgt := 115) dX6_part_1 (by decide) (by decide) (by decide) ?_
    refine aw_iload_n dX6_part_115 rfl ?_
    -- at 116: .ifCond .ne 11
    refine aw_if_ne (tgt := 127) dX6_part_116 (by omega) (by decide) (fun c1 => ?_) (fun c1 => ?_)
    · refine aw_iload_n dX6_part_127 rfl ?_
      refine aw_iconst dX6_part_128 ?_
      -- at 129: .if_icmp .ne 11
      refine aw_icmp_ne (tgt := 140) dX6_part_129 (by omega) (by omega) (by decide) (fun c2 => ?_) (fun c2 => ?_)
      · refine aw_ldc2 kl_X6_170 dX6_part_140 ?_
        refine aw_lload_n dX6_part_143 rfl ?_
        refine aw_lmul dX6_part_144 ?_
        -- at 145: .lreturn
        exact aw_lret rfl dX6_part_145 ⟨rfl, _, rfl, by rw [show i = 2 by omega]; rfl, rfl⟩
      · refine aw_ldc2 kl_X6_159 dX6_part_132 ?_
        refine aw_lload_n dX6_part_135 rfl ?_
        refine aw_lmul dX6_part_136 ?_
        refine aw_goto (tgt := 145) dX6_part_137 (by decide) ?_
        -- at 145: .lreturn
        exact aw_lret rfl dX6_part_145 ⟨rfl, _, rfl, by rw [show i = 1 by omega]; rfl, rfl⟩
    · refine aw_ldc2 kl_X6_126 dX6_part_119 ?_
      refine aw_lload_n dX6_part_122 rfl ?_
      refine aw_lmul dX6_part_123 ?_
      refine aw_goto (tgt := 145) dX6_part_124 (by decide) ?_
      -- at 145: .lreturn
      exact aw_lret rfl dX6_part_145 ⟨rfl, _, rfl, by rw [show i = 0 by omega]; rfl, rfl⟩
theorem c6_may {u p q sn ls e1 e2 e3 e4 e5 e6 e7 e8 D rule : Int} {W : Nat → Int} {t : List Int} (hD : 1 ≤ D ∧ D ≤ 1000000) (hr : 0 ≤ rule ∧ rule ≤ 3) (hM : h 52 = aO 6 (mdl u p q sn ls e1 e2 e3 e4 e5 e6 e7 e8)) (hW : h 53 = aA 0 117 W) (ht : inW W 0 t) (ok : inRow t) : AC mX6_maySplit (d + 1) 0 0 n h [aR 52, aI D, aI rule] (aqi n fun v h' => ((v = 1 ∧ mayS t D rule) ∨ (v = 0 ∧ ¬ mayS t D rule)) ∧ h' = h) := by
  refine AC.of (by decide) (Nat.le_of_ble_eq_true rfl) ?_
  have t8 := ok.1
  have w0 : W 0 = (t.length : Int) := ht.1
  have no : ∀ (i : Int) (L5 L6 : Option AV), ¬ mayS t D rule → -1 ≤ i ∧ i ≤ 10 → AW mX6_maySplit (am_R (d + 1) 0 0) (am_Z (aqi n fun v h' => ((v = 1 ∧ mayS t D rule) ∨ (v = 0 ∧ ¬ mayS t D rule)) ∧ h' = h) 0 0) 0 0 n h 62 [some (aR 52), some (aI D), some (aI rule), some (aI 0), some (aI i), L5, L6] [] := by
    intro i L5 L6 z hi
    have fin : ∀ L, lk L 3 = some (aI 0) → AW mX6_maySplit (am_R (d + 1) 0 0) (am_Z (aqi n fun v h' => ((v = 1 ∧ mayS t D rule) ∨ (v = 0 ∧ ¬ mayS t D rule)) ∧ h' = h) 0 0) 0 0 n h 113 L [] := by
      intro L hL
      refine aw_iload_n dX6_maySplit_113 hL ?_
      exact aw_zret rfl dX6_maySplit_114 (by omega) ⟨rfl, _, rfl, Or.inr ⟨rfl, z⟩, rfl⟩
    refine aw_iload dX6_maySplit_62 rfl ?_
    refine aw_iconst dX6_maySplit_64 ?_
    -- at 65: .if_icmp .ge 48
    refine aw_icmp_ge (tgt := 113) dX6_maySplit_65 (by omega) (by omega) (by decide) (fun c1 => ?_) (fun c1 => ?_)
    · exact fin _ rfl
    · refine aw_iload_n dX6_maySplit_68 rfl ?_
      -- at 69: .ifCond .eq 44
      refine aw_if_eq (tgt := 113) dX6_maySplit_69 (by omega) (by decide) (fun c2 => ?_) (fun c2 => ?_)
      · exact fin _ rfl
      · omega
  have loop : ∀ (c k : Nat) (L5 : Option AV), k + c = 3 → ((t.length : Int) + (if rule = 3 then 2 else 1) ≤ 8 ∧ (rule = 0 → 1 < D) ∧ (rule = 1 → D % 2 = 0) ∧ (rule = 2 → D % 3 = 0)) → (∀ i : Nat, i < k → partS D rule (i : Int) ≤ 1000000 ∧ notIn t (partS D rule (i : Int))) → AW mX6_maySplit (am_R (d + 1) 0 0) (am_Z (aqi n fun v h' => ((v = 1 ∧ mayS t D rule) ∨ (v = 0 ∧ ¬ mayS t D rule)) ∧ h' = h) 0 0) 0 0 n h 62 [some (aR 52), some (aI D), some (aI rule), some (aI 1), some (aI (k : Int)), L5, none] [] := by
    intro c
    induction c with
    | zero =>
      intro k L5 hk h1 h2
      refine aw_iload dX6_maySplit_62 rfl ?_
      refine aw_iconst dX6_maySplit_64 ?_
      -- at 65: .if_icmp .ge 48
      refine aw_icmp_ge (tgt := 113) dX6_maySplit_65 (by omega) (by omega) (by decide) (fun c1 => ?_) (fun c1 => ?_)
      · refine aw_iload_n dX6_maySplit_113 rfl ?_
        -- at 114: .ireturn
        exact aw_zret rfl dX6_maySplit_114 (by omega) ⟨rfl, _, rfl, Or.inl ⟨rfl, h1, fun i hi => h2 i (by omega)⟩, rfl⟩
      · omega
    | succ c ih =>
      intro k L5 hk h1 h2
      have pr := partS_rng (rule := rule) (i := (k : Int)) hD
      refine aw_iload dX6_maySplit_62 rfl ?_
      refine aw_iconst dX6_maySplit_64 ?_
      -- at 65: .if_icmp .ge 48
      refine aw_icmp_ge (tgt := 113) dX6_maySplit_65 (by omega) (by omega) (by decide) (fun c1 => ?_) (fun c1 => ?_)
      · omega
      · refine aw_iload_n dX6_maySplit_68 rfl ?_
        -- at 69: .ifCond .eq 44
        refine aw_if_eq (tgt := 113) dX6_maySplit_69 (by omega) (by decide) (fun c2 => ?_) (fun c2 => ?_)
        · omega
        · refine aw_iload_n dX6_maySplit_72 rfl ?_
          refine aw_i2l dX6_maySplit_73 (by omega) ?_
          refine aw_iload_n dX6_maySplit_74 rfl ?_
          refine aw_iload dX6_maySplit_75 rfl ?_
          -- at 77: .invokestatic 172
          refine aw_Sl3 kc_X6_172 (c6_part (d := d) hD hr (by omega)) rfl (by omega) (Nat.le_of_ble_eq_true rfl) dX6_maySplit_77 (fun v h' q1 => ?_)
          obtain ⟨rfl, rfl⟩ := q1
          refine aw_lstore dX6_maySplit_80 (by decide) ?_
          refine aw_lload dX6_maySplit_82 rfl ?_
          refine aw_ldc2 kl_X6_128 dX6_maySplit_84 ?_
          -- at 87: .lcmp
          refine aw_lcmp_gt (tgt := 105) dX6_maySplit_87 dX6_maySplit_88 (by omega) (by omega) (by decide) (fun c3 => ?_) (fun c3 => ?_)
          · refine aw_iconst dX6_maySplit_105 ?_
            refine aw_istore_n dX6_maySplit_106 (by decide) ?_
            refine aw_iinc dX6_maySplit_107 rfl (by decide) ?_
            refine aw_goto (tgt := 62) dX6_maySplit_110 (by decide) ?_
            exact no _ _ _ (fun z => by have := (z.2 k (by omega)).1; omega) (by omega)
          · refine aw_aload_n dX6_maySplit_91 rfl ?_
            refine aw_lload dX6_maySplit_92 rfl ?_
            refine aw_l2i dX6_maySplit_94 ?_
            -- at 95: .invokevirtual 176
            refine aw_Vi1 kc_X6_176 (c6_isTerm (d := d) (by omega) hM hW ht ok) (by assumption) rfl rfl (by omega) (Nat.le_of_ble_eq_true rfl) dX6_maySplit_95 (fun v h' q1 => ?_)
            obtain ⟨⟨rfl, q1⟩ | ⟨rfl, q1⟩, rfl⟩ := q1
            · refine aw_if_ne (tgt := 105) dX6_maySplit_98 (by omega) (by decide) (fun c4 => ?_) (fun c4 => ?_)
              · omega
              · refine aw_iconst dX6_maySplit_101 ?_
                refine aw_goto (tgt := 106) dX6_maySplit_102 (by decide) ?_
                refine aw_istore_n dX6_maySplit_106 (by decide) ?_
                refine aw_iinc dX6_maySplit_107 rfl (by decide) ?_
                refine aw_goto (tgt := 62) dX6_maySplit_110 (by decide) ?_
                have K := ih (k + 1) (some (aL (partS D rule (k : Int)))) (by omega) h1 (fun i hi => ?_)
                · rw [show ((k + 1 : Nat) : Int) = (k : Int) + 1 by omega] at K
                  exact K
                · by_cases z : i = k
                  · rw [z]; exact ⟨by omega, q1⟩
                  · exact h2 i (by omega)
            · refine aw_if_ne (tgt := 105) dX6_maySplit_98 (by omega) (by decide) (fun c4 => ?_) (fun c4 => ?_)
              rotate_left
              · omega
              · refine aw_iconst dX6_maySplit_105 ?_
                refine aw_istore_n dX6_maySplit_106 (by decide) ?_
                refine aw_iinc dX6_maySplit_107 rfl (by decide) ?_
                refine aw_goto (tgt := 62) dX6_maySplit_110 (by decide) ?_
                exact no _ _ _ (fun z => q1 (z.2 k (by omega)).2) (by omega)
  -- the conditions ahead
  have yes58 : ((t.length : Int) + (if rule = 3 then 2 else 1) ≤ 8 ∧ (rule = 0 → 1 < D) ∧ (rule = 1 → D % 2 = 0) ∧ (rule = 2 → D % 3 = 0)) → AW mX6_maySplit (am_R (d + 1) 0 0) (am_Z (aqi n fun v h' => ((v = 1 ∧ mayS t D rule) ∨ (v = 0 ∧ ¬ mayS t D rule)) ∧ h' = h) 0 0) 0 0 n h 58 [some (aR 52), some (aI D), some (aI rule), none, none, none, none] [aI 1] := by
    intro z
    refine aw_istore_n dX6_maySplit_58 (by decide) ?_
    refine aw_iconst dX6_maySplit_59 ?_
    refine aw_istore dX6_maySplit_60 (by decide) ?_
    exact loop 3 0 none rfl z (fun i hi => by omega)
  have no57 : ¬ ((t.length : Int) + (if rule = 3 then 2 else 1) ≤ 8 ∧ (rule = 0 → 1 < D) ∧ (rule = 1 → D % 2 = 0) ∧ (rule = 2 → D % 3 = 0)) → AW mX6_maySplit (am_R (d + 1) 0 0) (am_Z (aqi n fun v h' => ((v = 1 ∧ mayS t D rule) ∨ (v = 0 ∧ ¬ mayS t D rule)) ∧ h' = h) 0 0) 0 0 n h 57 [some (aR 52), some (aI D), some (aI rule), none, none, none, none] [] := by
    intro z
    refine aw_iconst dX6_maySplit_57 ?_
    refine aw_istore_n dX6_maySplit_58 (by decide) ?_
    refine aw_iconst dX6_maySplit_59 ?_
    refine aw_istore dX6_maySplit_60 (by decide) ?_
    exact no 0 none none (fun y => z y.1) (by omega)
  have at42 : (t.length : Int) + (if rule = 3 then 2 else 1) ≤ 8 → (rule = 0 → 1 < D) → (rule = 1 → D % 2 = 0) → AW mX6_maySplit (am_R (d + 1) 0 0) (am_Z (aqi n fun v h' => ((v = 1 ∧ mayS t D rule) ∨ (v = 0 ∧ ¬ mayS t D rule)) ∧ h' = h) 0 0) 0 0 n h 42 [some (aR 52), some (aI D), some (aI rule), none, none, none, none] [] := by
    intro z1 z2 z3
    refine aw_iload_n dX6_maySplit_42 rfl ?_
    refine aw_iconst dX6_maySplit_43 ?_
    -- at 44: .if_icmp .ne 9
    refine aw_icmp_ne (tgt := 53) dX6_maySplit_44 (by omega) (by omega) (by decide) (fun c1 => ?_) (fun c1 => ?_)
    · refine aw_iconst dX6_maySplit_53 ?_
      refine aw_goto (tgt := 58) dX6_maySplit_54 (by decide) ?_
      exact yes58 ⟨z1, z2, z3, fun z => absurd z c1⟩
    · refine aw_iload_n dX6_maySplit_47 rfl ?_
      refine aw_iconst dX6_maySplit_48 ?_
      refine aw_irem dX6_maySplit_49 (by omega) (by omega) ?_
      -- at 50: .ifCond .ne 7
      refine aw_if_ne (tgt := 57) dX6_maySplit_50 (by omega) (by decide) (fun c2 => ?_) (fun c2 => ?_)
      · exact no57 (fun z => c2 (z.2.2.2 (by omega)))
      · refine aw_iconst dX6_maySplit_53 ?_
        refine aw_goto (tgt := 58) dX6_maySplit_54 (by decide) ?_
        exact yes58 ⟨z1, z2, z3, fun _ => by omega⟩
  have at31 : (t.length : Int) + (if rule = 3 then 2 else 1) ≤ 8 → (rule = 0 → 1 < D) → AW mX6_maySplit (am_R (d + 1) 0 0) (am_Z (aqi n fun v h' => ((v = 1 ∧ mayS t D rule) ∨ (v = 0 ∧ ¬ mayS t D rule)) ∧ h' = h) 0 0) 0 0 n h 31 [some (aR 52), some (aI D), some (aI rule), none, none, none, none] [] := by
    intro z1 z2
    refine aw_iload_n dX6_maySplit_31 rfl ?_
    refine aw_iconst dX6_maySplit_32 ?_
    -- at 33: .if_icmp .ne 9
    refine aw_icmp_ne (tgt := 42) dX6_maySplit_33 (by omega) (by omega) (by decide) (fun c1 => ?_) (fun c1 => ?_)
    · exact at42 z1 z2 (fun z => absurd z c1)
    · refine aw_iload_n dX6_maySplit_36 rfl ?_
      refine aw_iconst dX6_maySplit_37 ?_
      refine aw_irem dX6_maySplit_38 (by omega) (by omega) ?_
      -- at 39: .ifCond .ne 18
      refine aw_if_ne (tgt := 57) dX6_maySplit_39 (by omega) (by decide) (fun c2 => ?_) (fun c2 => ?_)
      · exact no57 (fun z => c2 (z.2.2.1 (by omega)))
      · exact at42 z1 z2 (fun _ => by omega)
  have at16 : ∀ b : Int, b = (if rule = 3 then 2 else 1) → AW mX6_maySplit (am_R (d + 1) 0 0) (am_Z (aqi n fun v h' => ((v = 1 ∧ mayS t D rule) ∨ (v = 0 ∧ ¬ mayS t D rule)) ∧ h' = h) 0 0) 0 0 n h 16 [some (aR 52), some (aI D), some (aI rule), none, none, none, none] [aI b, aI (t.length : Int)] := by
    intro b hb
    have rb : 1 ≤ b ∧ b ≤ 2 := by rw [hb]; split <;> omega
    refine aw_iadd dX6_maySplit_16 ?_
    refine aw_bipush dX6_maySplit_17 (by decide) ?_
    -- at 19: .if_icmp .gt 38
    refine aw_icmp_gt (tgt := 57) dX6_maySplit_19 (by omega) (by omega) (by decide) (fun c1 => ?_) (fun c1 => ?_)
    · exact no57 (fun z => by have := z.1; rw [← hb] at this; omega)
    · have z1 : (t.length : Int) + (if rule = 3 then 2 else 1) ≤ 8 := by rw [← hb]; omega
      refine aw_iload_n dX6_maySplit_22 rfl ?_
      -- at 23: .ifCond .ne 8
      refine aw_if_ne (tgt := 31) dX6_maySplit_23 (by omega) (by decide) (fun c2 => ?_) (fun c2 => ?_)
      · exact at31 z1 (fun z => absurd z c2)
      · refine aw_iload_n dX6_maySplit_26 rfl ?_
        refine aw_iconst dX6_maySplit_27 ?_
        -- at 28: .if_icmp .le 29
        refine aw_icmp_le (tgt := 57) dX6_maySplit_28 (by omega) (by omega) (by decide) (fun c3 => ?_) (fun c3 => ?_)
        · exact no57 (fun z => by have := z.2.1 (by omega); omega)
        · exact at31 z1 (fun _ => by omega)
  refine aw_aload_n dX6_maySplit_0 rfl ?_
  refine aw_get kg_X6_7 (by assumption) (by rfl) dX6_maySplit_1 ?_
  refine aw_iconst dX6_maySplit_4 ?_
  refine aw_iald (by assumption) (by omega) dX6_maySplit_5 ?_
  refine aw_val (w := aI (t.length : Int)) (by rw [← w0]; rfl) ?_
  refine aw_iload_n dX6_maySplit_6 rfl ?_
  refine aw_iconst dX6_maySplit_7 ?_
  -- at 8: .if_icmp .ne 7
  refine aw_icmp_ne (tgt := 15) dX6_maySplit_8 (by omega) (by omega) (by decide) (fun c1 => ?_) (fun c1 => ?_)
  · refine aw_iconst dX6_maySplit_15 ?_
    exact at16 1 (by rw [if_neg c1])
  · refine aw_iconst dX6_maySplit_11 ?_
    refine aw_goto (tgt := 16) dX6_maySplit_12 (by decide) ?_
    exact at16 2 (by rw [if_pos (by omega)])
theorem c6_splits {k rule : Int} (hk : -2147483648 ≤ k ∧ k ≤ 2147483647) (hr : -2147483648 ≤ rule ∧ rule ≤ 2147483647) (H : RM h s) (ok : okS s) : AC mX6_splits (d + 20) 0 0 n h [aR 52, aI k, aI rule] (mQ n h (splitsF k rule s)) := by
  obtain ⟨p, q, t, past, ⟨k0, i0⟩, ⟨k1, i1⟩, sn, tx⟩ := s
  have H0 := H
  obtain ⟨⟨e1, e2, e3, e4, e5, e6, e7, e8, hM⟩, a2, a3, a4⟩ := H
  have a2' := a2
  obtain ⟨W, w1, w2, w3, w4, w5⟩ := a2
  obtain ⟨o1, o2, o3, o4, o5, o6, o7⟩ := ok
  have t8 := o2.1.1
  refine AC.of (by decide) (Nat.le_of_ble_eq_true rfl) ?_
  have bad : ∀ L, ¬ ((0 ≤ k ∧ k < t.length) ∧ 0 ≤ rule ∧ rule ≤ 3) → AW mX6_splits (am_R (d + 20) 0 0) (am_Z (mQ n h (splitsF k rule (p, q, t, past, (k0, i0), (k1, i1), sn, tx))) 0 0) 0 0 n h 30 L [] := by
    intro L z
    refine aw_iconst dX6_splits_30 ?_
    -- at 31: .ireturn
    refine aw_iret rfl dX6_splits_31 ⟨rfl, _, rfl, ?_⟩
    rw [splitsF, if_neg z]
    exact ⟨rfl, H0, fun _ _ => rfl⟩
  refine aw_iload_n dX6_splits_0 rfl ?_
  refine aw_i2l dX6_splits_1 (by omega) ?_
  refine aw_lconst (a := 0) dX6_splits_2 (by decide) ?_
  refine aw_aload_n dX6_splits_3 rfl ?_
  refine aw_get kg_X6_7 (by assumption) (by rfl) dX6_splits_4 ?_
  refine aw_iconst dX6_splits_7 ?_
  refine aw_iald (by assumption) (by omega) dX6_splits_8 ?_
  refine aw_val (w := aI (t.length : Int)) (by rw [← w2.1]; rfl) ?_
  refine aw_iconst dX6_splits_9 ?_
  refine aw_isub dX6_splits_10 ?_
  refine aw_i2l dX6_splits_11 (by omega) ?_
  -- at 12: .invokestatic 66
  refine aw_Si3 kc_X6_66 (c_in (d := d + 19) (by omega) (by omega) (by omega)) rfl (by omega) (Nat.le_of_ble_eq_true rfl) dX6_splits_12 (fun v h' q1 => ?_)
  obtain ⟨rfl, rfl⟩ := q1
  refine aw_flag_eq (tgt := 30) dX6_splits_15 (by decide) (fun c1 => ?_) (fun c1 => ?_)
  · exact bad _ (fun z => c1 (by omega))
  · refine aw_iload_n dX6_splits_18 rfl ?_
    refine aw_i2l dX6_splits_19 (by omega) ?_
    refine aw_lconst (a := 0) dX6_splits_20 (by decide) ?_
    refine aw_ldc2 kl_X6_159 dX6_splits_21 ?_
    -- at 24: .invokestatic 66
    refine aw_Si3 kc_X6_66 (c_in (d := d + 19) (by omega) (by omega) (by omega)) rfl (by omega) (Nat.le_of_ble_eq_true rfl) dX6_splits_24 (fun v h' q1 => ?_)
    obtain ⟨rfl, rfl⟩ := q1
    refine aw_flag_ne (tgt := 32) dX6_splits_27 (by decide) (fun c2 => ?_) (fun c2 => ?_)
    rotate_left
    · exact bad _ (fun z => c2 z.2)
    · obtain ⟨K, rfl⟩ : ∃ K : Nat, k = (K : Int) := ⟨k.toNat, by omega⟩
      have tv := o2.1.2 K (by omega)
      obtain ⟨D, hD⟩ : ∃ D, D = t.getD K 0 := ⟨_, rfl⟩
      rw [← hD] at tv
      have wK := w2.2 K (by omega)
      have sm := split_may (rule := rule) o2 (show K < t.length by omega) hD (by omega)
      have es : splitsF (K : Int) rule (p, q, t, past, (k0, i0), (k1, i1), sn, tx) = match splitS (t.eraseIdx K) D rule with | none => (-2, (p, q, t, past, (k0, i0), (k1, i1), sn, tx)) | some l => ((l.length : Int), takeF l (p, q, t, past, (k0, i0), (k1, i1), sn, tx)) := by
        have cc : (0 ≤ (K : Int) ∧ (K : Int) < t.length) ∧ 0 ≤ rule ∧ rule ≤ 3 := by omega
        rw [splitsF, if_pos cc]
        dsimp only
        rw [Int.toNat_natCast, ← hD]
        all_goals (cases splitS (t.eraseIdx K) D rule <;> rfl)
      refine aw_aload_n dX6_splits_32 rfl ?_
      refine aw_get kg_X6_7 (by assumption) (by rfl) dX6_splits_33 ?_
      refine aw_iconst dX6_splits_36 ?_
      refine aw_iload_n dX6_splits_37 rfl ?_
      refine aw_iadd dX6_splits_38 ?_
      refine aw_iald (by assumption) (by omega) dX6_splits_39 ?_
      refine aw_val (w := aI D) (by rw [hD, ← wK]; congr 2) ?_
      refine aw_istore_n dX6_splits_40 (by decide) ?_
      refine aw_aload_n dX6_splits_41 rfl ?_
      refine aw_iload_n dX6_splits_42 rfl ?_
      refine aw_iload_n dX6_splits_43 rfl ?_
      -- at 44: .invokevirtual 179
      refine aw_Vi2 kc_X6_179 (c6_may (d := d + 18) tv (by omega) hM w1 w2 o2.1) (by assumption) rfl rfl (by omega) (Nat.le_of_ble_eq_true rfl) dX6_splits_44 (fun v h1 q1 => ?_)
      obtain ⟨⟨rfl, q1⟩ | ⟨rfl, q1⟩, rfl⟩ := q1
      · obtain ⟨m0, m1, m2, m3⟩ := sm.1 q1
        rw [m3] at es
        refine aw_if_ne (tgt := 53) dX6_splits_47 (by omega) (by decide) (fun c3 => ?_) (fun c3 => ?_)
        rotate_left
        · omega
        · refine aw_aload_n dX6_splits_53 rfl ?_
          -- at 54: .invokevirtual 165
          refine aw_Vv0 kc_X6_165 (c6_minds (d := d + 18) o3 o2.1 o4.2.1.1 o5.2.1.1 ⟨_, _, _, _, _, _, _, _, hM⟩ a2') (by assumption) rfl rfl (by omega) (Nat.le_of_ble_eq_true rfl) dX6_splits_54 (fun h2 q2 => ?_)
          obtain ⟨⟨f1, f2, f3, f4, f5, f6, f7, f8, M2⟩, ⟨W2, x1, x2, x3, x4, x5⟩, fr2⟩ := q2
          refine aw_aload_n dX6_splits_57 rfl ?_
          refine aw_iload_n dX6_splits_58 rfl ?_
          -- at 59: .invokevirtual 182
          refine aw_Vv1 kc_X6_182 (c6_goesAt (d := d + 19) (show K < t.length by omega) M2 x1 x2 o2.1) (by assumption) rfl rfl (by omega) (Nat.le_of_ble_eq_true rfl) dX6_splits_59 (fun h3 q3 => ?_)
          obtain ⟨⟨W3, y1, y2, y3⟩, fr3⟩ := q3
          -- one number after the other
          have one : ∀ (i : Nat) (h4 : AH) (W4 : Nat → Int) (L : List Int) (L5 : Option AV), i < 3 → okRow L → (0 < partS D rule (i : Int) → insB L (partS D rule (i : Int)) = true) → h4 53 = aA 0 117 W4 → inW W4 0 L → (∀ j, 9 ≤ j → W4 j = W2 j) → (∀ j, j ≠ 53 → h4 j = h2 j) →
              (∀ (h5 : AH) (W5 : Nat → Int) (L5 : Option AV), okRow (stp D rule (i : Int) L) → h5 53 = aA 0 117 W5 → inW W5 0 (stp D rule (i : Int) L) → (∀ j, 9 ≤ j → W5 j = W2 j) → (∀ j, j ≠ 53 → h5 j = h2 j) → AW mX6_splits (am_R (d + 20) 0 0) (am_Z (mQ n h1 (splitsF (K : Int) rule (p, q, t, past, (k0, i0), (k1, i1), sn, tx))) 0 0) 0 0 n h5 65 [some (aR 52), some (aI (K : Int)), some (aI rule), some (aI D), some (aI ((i : Int) + 1)), L5] []) →
              AW mX6_splits (am_R (d + 20) 0 0) (am_Z (mQ n h1 (splitsF (K : Int) rule (p, q, t, past, (k0, i0), (k1, i1), sn, tx))) 0 0) 0 0 n h4 65 [some (aR 52), some (aI (K : Int)), some (aI rule), some (aI D), some (aI (i : Int)), L5] [] := by
            intro i h4 W4 L L5 hi oL hins z1 z2 z3 hfr KK
            have pr := partS_rng (rule := rule) (i := (i : Int)) tv
            have M4 := (hfr 52 (by omega)).trans M2
            have p6 : partS D rule (i : Int) ≤ 1000000 := (q1.2 i hi).1
            refine aw_iload dX6_splits_65 rfl ?_
            refine aw_iconst dX6_splits_67 ?_
            -- at 68: .if_icmp .ge 31
            refine aw_icmp_ge (tgt := 99) dX6_splits_68 (by omega) (by omega) (by decide) (fun c4 => ?_) (fun c4 => ?_)
            · omega
            · refine aw_iload_n dX6_splits_71 rfl ?_
              refine aw_i2l dX6_splits_72 (by omega) ?_
              refine aw_iload_n dX6_splits_73 rfl ?_
              refine aw_iload dX6_splits_74 rfl ?_
              -- at 76: .invokestatic 172
              refine aw_Sl3 kc_X6_172 (c6_part (d := d + 19) tv (by omega) (by omega)) rfl (by omega) (Nat.le_of_ble_eq_true rfl) dX6_splits_76 (fun v h5 q4 => ?_)
              obtain ⟨rfl, rfl⟩ := q4
              refine aw_l2i dX6_splits_79 ?_
              refine aw_istore dX6_splits_80 (by decide) ?_
              refine aw_iload dX6_splits_82 rfl ?_
              -- at 84: .ifCond .le 9
              refine aw_if_le (tgt := 93) dX6_splits_84 (by omega) (by decide) (fun c5 => ?_) (fun c5 => ?_)
              · refine aw_iinc dX6_splits_93 rfl (by decide) ?_
                refine aw_goto (tgt := 65) dX6_splits_96 (by decide) ?_
                have e : stp D rule (i : Int) L = L := by rw [stp, if_neg (by omega)]
                exact KK h5 W4 _ (by rw [e]; exact oL) z1 (by rw [e]; exact z2) z3 hfr
              · have hb := hins (by omega)
                obtain ⟨g1, g2, g3⟩ := (insB_in oL).mp hb
                have e : stp D rule (i : Int) L = insL L (partS D rule (i : Int)) := by rw [stp, if_pos (by omega)]
                refine aw_aload_n dX6_splits_87 rfl ?_
                refine aw_iload dX6_splits_88 rfl ?_
                -- at 90: .invokevirtual 186
                refine aw_Vv1 kc_X6_186 (c6_comes (d := d + 19) (by omega) g3 (by omega) M4 z1 z2 oL.1) (by assumption) rfl rfl (by omega) (Nat.le_of_ble_eq_true rfl) dX6_splits_90 (fun h6 q5 => ?_)
                obtain ⟨⟨W6, v1, v2, v3⟩, fr6⟩ := q5
                refine aw_iinc dX6_splits_93 rfl (by decide) ?_
                refine aw_goto (tgt := 65) dX6_splits_96 (by decide) ?_
                exact KK h6 W6 _ (by rw [e]; exact oL.ins (insB_iff.mp hb)) v1 (by rw [e]; exact v2) (fun j hj => (v3 j hj).trans (z3 j hj)) (fun j hj => (fr6 j hj).trans (hfr j hj))
          refine aw_iconst dX6_splits_62 ?_
          refine aw_istore dX6_splits_63 (by decide) ?_
          refine one 0 h3 W3 _ none (by omega) (o2.erase K) m0 y1 y2 y3 fr3 (fun h5 W5 L5 oL5 v1 v2 v3 v4 => ?_)
          refine one 1 h5 W5 _ L5 (by omega) oL5 m1 v1 v2 v3 v4 (fun h6 W6 L6 oL6 u1 u2 u3 u4 => ?_)
          refine one 2 h6 W6 _ L6 (by omega) oL6 m2 u1 u2 u3 u4 (fun h7 W7 L7 oL7 s1 s2 s3 s4 => ?_)
          have M7 := (s4 52 (by omega)).trans M2
          refine aw_iload dX6_splits_65 rfl ?_
          refine aw_iconst dX6_splits_67 ?_
          -- at 68: .if_icmp .ge 31
          refine aw_icmp_ge (tgt := 99) dX6_splits_68 (by omega) (by omega) (by decide) (fun c6 => ?_) (fun c6 => ?_)
          · refine aw_aload_n dX6_splits_99 rfl ?_
            refine aw_get kg_X6_7 (by assumption) (by rfl) dX6_splits_100 ?_
            refine aw_iconst dX6_splits_103 ?_
            refine aw_iald (by assumption) (by omega) dX6_splits_104 ?_
            -- at 105: .ireturn
            have fr7 : ∀ j, j ≠ 52 → j ≠ 53 → h7 j = h1 j := fun j j1 j2 => (s4 j j2).trans (fr2 j j1 j2)
            refine aw_iret rfl dX6_splits_105 ⟨rfl, _, rfl, ?_⟩
            rw [es]
            exact ⟨s2.1, ⟨⟨_, _, _, _, _, _, _, _, M7⟩, ⟨W7, s1, s2, x3.fr o4.2.1.1 (fun i i1 i2 => s3 i (by omega)), x4.fr o5.2.1.1 (fun i i1 i2 => s3 i (by omega)), fun k hk => (x5 k hk).fr ((o3.store o2).at hk).1.1 (fun i i1 i2 => s3 i (by omega))⟩, a3.fr (fr7 54 (by omega) (by omega)), isRest.fr a4 (fun j j1 j2 => fr7 j (by omega) (by omega))⟩, fun j hj => fr7 j (by omega) (by omega)⟩
          · omega
      · rw [sm.2 q1] at es
        refine aw_if_ne (tgt := 53) dX6_splits_47 (by omega) (by decide) (fun c3 => ?_) (fun c3 => ?_)
        · omega
        · refine aw_bipush dX6_splits_50 (by decide) ?_
          -- at 52: .ireturn
          refine aw_iret rfl dX6_splits_52 ⟨rfl, _, rfl, ?_⟩
          rw [es]
          exact ⟨rfl, H0, fun _ _ => rfl⟩
theorem joinC_ok {a b : Int} (ha : 1 ≤ a ∧ a ≤ 1000000) (hb : 1 ≤ b ∧ b ≤ 1000000) (h : a * b % (a + b) = 0) : (1 ≤ a * b / (a + b) ∧ a * b / (a + b) ≤ 1000000) ∧ a * b / (a + b) ≠ a ∧ a * b / (a + b) ≠ b := by
  have e := Int.mul_ediv_add_emod (a * b) (a + b)
  rw [h, Int.add_zero] at e
  have p1 : 1 * 1 ≤ a * b := Int.mul_le_mul ha.1 hb.1 (by omega) (by omega)
  have q0 : 0 ≤ a * b / (a + b) := Int.ediv_nonneg (by omega) (by omega)
  have q1 : a * b / (a + b) ≤ a := by
    apply Int.ediv_le_of_le_mul (by omega)
    exact Int.mul_le_mul_of_nonneg_left (by omega) (by omega)
  have paa : 1 * 1 ≤ a * a := Int.mul_le_mul ha.1 ha.1 (by omega) (by omega)
  have pbb : 1 * 1 ≤ b * b := Int.mul_le_mul hb.1 hb.1 (by omega) (by omega)
  refine ⟨⟨?_, by omega⟩, fun z => ?_, fun z => ?_⟩
  · apply Classical.byContradiction
    intro z
    rw [show a * b / (a + b) = 0 by omega, Int.mul_zero] at e
    omega
  · rw [z, Int.add_mul, Int.mul_comm b a] at e
    omega
  · rw [z, Int.add_mul] at e
    omega
theorem c6_joins {j k : Int} (hj : -2147483648 ≤ j ∧ j ≤ 2147483647) (hk : -2147483648 ≤ k ∧ k ≤ 2147483647) (H : RM h s) (ok : okS s) : AC mX6_joins (d + 20) 0 0 n h [aR 52, aI j, aI k] (mQ n h (joinsF j k s)) := by
  obtain ⟨p, q, t, past, ⟨k0, i0⟩, ⟨k1, i1⟩, sn, tx⟩ := s
  have H0 := H
  obtain ⟨⟨e1, e2, e3, e4, e5, e6, e7, e8, hM⟩, a2, a3, a4⟩ := H
  have a2' := a2
  obtain ⟨W, w1, w2, w3, w4, w5⟩ := a2
  obtain ⟨o1, o2, o3, o4, o5, o6, o7⟩ := ok
  have t8 := o2.1.1
  refine AC.of (by decide) (Nat.le_of_ble_eq_true rfl) ?_
  have bad : ∀ L, ¬ ((0 ≤ j ∧ j < t.length) ∧ (0 ≤ k ∧ k < t.length) ∧ j ≠ k) → AW mX6_joins (am_R (d + 20) 0 0) (am_Z (mQ n h (joinsF j k (p, q, t, past, (k0, i0), (k1, i1), sn, tx))) 0 0) 0 0 n h 41 L [] := by
    intro L z
    refine aw_iconst dX6_joins_41 ?_
    -- at 42: .ireturn
    refine aw_iret rfl dX6_joins_42 ⟨rfl, _, rfl, ?_⟩
    rw [joinsF, if_neg z]
    exact ⟨rfl, H0, fun _ _ => rfl⟩
  refine aw_iload_n dX6_joins_0 rfl ?_
  refine aw_i2l dX6_joins_1 (by omega) ?_
  refine aw_lconst (a := 0) dX6_joins_2 (by decide) ?_
  refine aw_aload_n dX6_joins_3 rfl ?_
  refine aw_get kg_X6_7 (by assumption) (by rfl) dX6_joins_4 ?_
  refine aw_iconst dX6_joins_7 ?_
  refine aw_iald (by assumption) (by omega) dX6_joins_8 ?_
  refine aw_val (w := aI (t.length : Int)) (by rw [← w2.1]; rfl) ?_
  refine aw_iconst dX6_joins_9 ?_
  refine aw_isub dX6_joins_10 ?_
  refine aw_i2l dX6_joins_11 (by omega) ?_
  -- at 12: .invokestatic 66
  refine aw_Si3 kc_X6_66 (c_in (d := d + 19) (by omega) (by omega) (by omega)) rfl (by omega) (Nat.le_of_ble_eq_true rfl) dX6_joins_12 (fun v h' q1 => ?_)
  obtain ⟨rfl, rfl⟩ := q1
  refine aw_flag_eq (tgt := 41) dX6_joins_15 (by decide) (fun c1 => ?_) (fun c1 => ?_)
  · exact bad _ (fun z => c1 (by omega))
  · refine aw_iload_n dX6_joins_18 rfl ?_
    refine aw_i2l dX6_joins_19 (by omega) ?_
    refine aw_lconst (a := 0) dX6_joins_20 (by decide) ?_
    refine aw_aload_n dX6_joins_21 rfl ?_
    refine aw_get kg_X6_7 (by assumption) (by rfl) dX6_joins_22 ?_
    refine aw_iconst dX6_joins_25 ?_
    refine aw_iald (by assumption) (by omega) dX6_joins_26 ?_
    refine aw_val (w := aI (t.length : Int)) (by rw [← w2.1]; rfl) ?_
    refine aw_iconst dX6_joins_27 ?_
    refine aw_isub dX6_joins_28 ?_
    refine aw_i2l dX6_joins_29 (by omega) ?_
    -- at 30: .invokestatic 66
    refine aw_Si3 kc_X6_66 (c_in (d := d + 19) (by omega) (by omega) (by omega)) rfl (by omega) (Nat.le_of_ble_eq_true rfl) dX6_joins_30 (fun v h' q1 => ?_)
    obtain ⟨rfl, rfl⟩ := q1
    refine aw_flag_eq (tgt := 41) dX6_joins_33 (by decide) (fun c2 => ?_) (fun c2 => ?_)
    · exact bad _ (fun z => c2 (by omega))
    · refine aw_iload_n dX6_joins_36 rfl ?_
      refine aw_iload_n dX6_joins_37 rfl ?_
      -- at 38: .if_icmp .ne 5
      refine aw_icmp_ne (tgt := 43) dX6_joins_38 (by omega) (by omega) (by decide) (fun c3 => ?_) (fun c3 => ?_)
      rotate_left
      · exact bad _ (fun z => c3 z.2.2)
      · have cc : (0 ≤ j ∧ j < t.length) ∧ (0 ≤ k ∧ k < t.length) ∧ j ≠ k := by omega
        have tj := o2.1.2 j.toNat (by omega)
        have tk := o2.1.2 k.toNat (by omega)
        have wj := w2.2 j.toNat (by omega)
        have wk := w2.2 k.toNat (by omega)
        obtain ⟨a, ha⟩ : ∃ a, a = t.getD j.toNat 0 := ⟨_, rfl⟩
        obtain ⟨b, hb⟩ : ∃ b, b = t.getD k.toNat 0 := ⟨_, rfl⟩
        rw [← ha] at tj
        rw [← hb] at tk
        obtain ⟨P, hP⟩ : ∃ P : Int, a * b = P := ⟨_, rfl⟩
        have rP : 0 ≤ P ∧ P ≤ 1000000 * 1000000 := by
          rw [← hP]
          exact ⟨Int.mul_nonneg (by omega) (by omega), Int.mul_le_mul (by omega) (by omega) (by omega) (by omega)⟩
        have m1 := Int.emod_nonneg P (show a + b ≠ 0 by omega)
        have m2 := Int.emod_lt_of_pos P (show 0 < a + b by omega)
        have g0 : 0 ≤ P / (a + b) := Int.ediv_nonneg (by omega) (by omega)
        have g1 : P / (a + b) ≤ 1000000 := by
          have : P / (a + b) ≤ a := by
            apply Int.ediv_le_of_le_mul (by omega)
            rw [← hP]
            exact Int.mul_le_mul_of_nonneg_left (by omega) (by omega)
          omega
        obtain ⟨mx, hmx⟩ : ∃ mx : Nat, (mx : Int) = if j < k then k else j := ⟨(if j < k then k else j).toNat, by split <;> omega⟩
        obtain ⟨mn, hmn⟩ : ∃ mn : Nat, (mn : Int) = if j < k then j else k := ⟨(if j < k then j else k).toNat, by split <;> omega⟩
        have rm : mn < mx ∧ mx < t.length ∧ ((mn = j.toNat ∧ mx = k.toNat) ∨ (mn = k.toNat ∧ mx = j.toNat)) := by
          by_cases z : j < k
          · rw [if_pos z] at hmx hmn; omega
          · rw [if_neg z] at hmx hmn; omega
        obtain ⟨T2, hT2⟩ : ∃ T2, T2 = (t.eraseIdx mx).eraseIdx mn := ⟨_, rfl⟩
        have oT1 := o2.erase mx
        have oT2 : okRow T2 := by rw [hT2]; exact oT1.erase _
        have len1 : (t.eraseIdx mx).length = t.length - 1 := by rw [List.length_eraseIdx, if_pos (by omega)]
        have len2 : T2.length = t.length - 2 := by rw [hT2, List.length_eraseIdx, if_pos (by omega), len1]; omega
        have es : joinsF j k (p, q, t, past, (k0, i0), (k1, i1), sn, tx) = match insAll T2 [joinC a b] with | none => (-2, (p, q, t, past, (k0, i0), (k1, i1), sn, tx)) | some l => (joinC a b, takeF l (p, q, t, past, (k0, i0), (k1, i1), sn, tx)) := by
          rw [joinsF, if_pos cc]
          dsimp only
          rw [← ha, ← hb, ← hmx, ← hmn, Int.toNat_natCast, Int.toNat_natCast, ← hT2]
          all_goals (cases insAll T2 [joinC a b] <;> rfl)
        rw [insAll] at es
        have nin : ∀ x, x ≠ a → x ≠ b → (notIn T2 x ↔ notIn t x) := by
          intro x xa xb
          have s1 := notIn_erase (t := t) (k := mx) (x := x) (by omega)
          have s2 := notIn_erase (t := t.eraseIdx mx) (k := mn) (x := x) (by omega)
          rw [gd_erase, if_pos (by omega), ← hT2] at s2
          rw [s1, s2]
          constructor
          · intro z
            refine ⟨⟨z, ?_⟩, ?_⟩
            · rcases rm.2.2 with ⟨y1, y2⟩ | ⟨y1, y2⟩
              · rw [y1, ← ha]; exact fun e => xa e.symm
              · rw [y1, ← hb]; exact fun e => xb e.symm
            · rcases rm.2.2 with ⟨y1, y2⟩ | ⟨y1, y2⟩
              · rw [y2, ← hb]; exact fun e => xb e.symm
              · rw [y2, ← ha]; exact fun e => xa e.symm
          · intro z; exact z.1.1
        have state : insB T2 (joinC a b) = false → ∀ L, AW mX6_joins (am_R (d + 20) 0 0) (am_Z (mQ n h' (joinsF j k (p, q, t, past, (k0, i0), (k1, i1), sn, tx))) 0 0) 0 0 n h' 99 L [] := by
          intro z L
          rw [z, cond_false] at es
          refine aw_bipush dX6_joins_99 (by decide) ?_
          -- at 101: .ireturn
          refine aw_iret rfl dX6_joins_101 ⟨rfl, _, rfl, ?_⟩
          rw [es]
          exact ⟨rfl, H0, fun _ _ => rfl⟩
        refine aw_aload_n dX6_joins_43 rfl ?_
        refine aw_get kg_X6_7 (by assumption) (by rfl) dX6_joins_44 ?_
        refine aw_iconst dX6_joins_47 ?_
        refine aw_iload_n dX6_joins_48 rfl ?_
        refine aw_iadd dX6_joins_49 ?_
        refine aw_iald (by assumption) (by omega) dX6_joins_50 ?_
        refine aw_val (w := aI a) (by rw [ha, ← wj]; congr 2; omega) ?_
        refine aw_i2l dX6_joins_51 (by omega) ?_
        refine aw_lstore_n dX6_joins_52 (by decide) ?_
        refine aw_aload_n dX6_joins_53 rfl ?_
        refine aw_get kg_X6_7 (by assumption) (by rfl) dX6_joins_54 ?_
        refine aw_iconst dX6_joins_57 ?_
        refine aw_iload_n dX6_joins_58 rfl ?_
        refine aw_iadd dX6_joins_59 ?_
        refine aw_iald (by assumption) (by omega) dX6_joins_60 ?_
        refine aw_val (w := aI b) (by rw [hb, ← wk]; congr 2; omega) ?_
        refine aw_i2l dX6_joins_61 (by omega) ?_
        refine aw_lstore dX6_joins_62 (by decide) ?_
        refine aw_lload_n dX6_joins_64 rfl ?_
        refine aw_lload dX6_joins_65 rfl ?_
        refine aw_lmul dX6_joins_67 ?_
        refine aw_val (w := aL P) (by rw [hP]) ?_
        refine aw_lload_n dX6_joins_68 rfl ?_
        refine aw_lload dX6_joins_69 rfl ?_
        refine aw_ladd dX6_joins_71 ?_
        refine aw_ldiv dX6_joins_72 (by omega) (by omega) ?_
        refine aw_l2i dX6_joins_73 ?_
        refine aw_istore dX6_joins_74 (by decide) ?_
        refine aw_lload_n dX6_joins_76 rfl ?_
        refine aw_lload dX6_joins_77 rfl ?_
        refine aw_lmul dX6_joins_79 ?_
        refine aw_val (w := aL P) (by rw [hP]) ?_
        refine aw_lload_n dX6_joins_80 rfl ?_
        refine aw_lload dX6_joins_81 rfl ?_
        refine aw_ladd dX6_joins_83 ?_
        refine aw_lrem dX6_joins_84 (by omega) (by omega) ?_
        refine aw_lconst (a := 0) dX6_joins_85 (by decide) ?_
        -- at 86: .lcmp
        refine aw_lcmp_ne (tgt := 99) dX6_joins_86 dX6_joins_87 (by omega) (by omega) (by decide) (fun c4 => ?_) (fun c4 => ?_)
        · refine state ?_ _
          have e : joinC a b = -9 := by rw [joinC, hP, if_neg c4]
          rw [e]
          cases hb : insB T2 (-9) with
          | false => rfl
          | true => have := ((insB_in oT2).mp hb).1; omega
        · have c4' : a * b % (a + b) = 0 := by rw [hP]; omega
          have eC : joinC a b = P / (a + b) := by rw [joinC, if_pos c4', hP]
          obtain ⟨k1', k2', k3'⟩ := joinC_ok tj tk c4'
          rw [hP] at k1' k2' k3'
          have ni := nin _ k2' k3'
          refine aw_aload_n dX6_joins_90 rfl ?_
          refine aw_iload dX6_joins_91 rfl ?_
          -- at 93: .invokevirtual 176
          refine aw_Vi1 kc_X6_176 (c6_isTerm (d := d + 19) (by omega) hM w1 w2 o2.1) (by assumption) rfl rfl (by omega) (Nat.le_of_ble_eq_true rfl) dX6_joins_93 (fun v h1 q1 => ?_)
          obtain ⟨⟨rfl, q1⟩ | ⟨rfl, q1⟩, rfl⟩ := q1
          · have hB : insB T2 (joinC a b) = true := by rw [eC]; exact (insB_in oT2).mpr ⟨k1', by omega, ni.mpr q1⟩
            rw [hB, cond_true, insAll] at es
            refine aw_if_eq (tgt := 102) dX6_joins_96 (by omega) (by decide) (fun c5 => ?_) (fun c5 => ?_)
            rotate_left
            · omega
            · refine aw_aload_n dX6_joins_102 rfl ?_
              -- at 103: .invokevirtual 165
              refine aw_Vv0 kc_X6_165 (c6_minds (d := d + 18) o3 o2.1 o4.2.1.1 o5.2.1.1 ⟨_, _, _, _, _, _, _, _, hM⟩ a2') (by assumption) rfl rfl (by omega) (Nat.le_of_ble_eq_true rfl) dX6_joins_103 (fun h2 q2 => ?_)
              obtain ⟨⟨f1, f2, f3, f4, f5, f6, f7, f8, M2⟩, ⟨W2, x1, x2, x3, x4, x5⟩, fr2⟩ := q2
              have at117 : AW mX6_joins (am_R (d + 20) 0 0) (am_Z (mQ n h1 (joinsF j k (p, q, t, past, (k0, i0), (k1, i1), sn, tx))) 0 0) 0 0 n h2 117 [some (aR 52), some (aI j), some (aI k), some (aL a), none, some (aL b), none, some (aI (P / (a + b)))] [aI (mx : Int), aR 52] := by
                refine aw_Vv1 kc_X6_182 (c6_goesAt (d := d + 19) rm.2.1 M2 x1 x2 o2.1) (by assumption) rfl rfl (by omega) (Nat.le_of_ble_eq_true rfl) dX6_joins_117 (fun h3 q3 => ?_)
                obtain ⟨⟨W3, y1, y2, y3⟩, fr3⟩ := q3
                have M3 := (fr3 52 (by omega)).trans M2
                have at131 : AW mX6_joins (am_R (d + 20) 0 0) (am_Z (mQ n h1 (joinsF j k (p, q, t, past, (k0, i0), (k1, i1), sn, tx))) 0 0) 0 0 n h3 131 [some (aR 52), some (aI j), some (aI k), some (aL a), none, some (aL b), none, some (aI (P / (a + b)))] [aI (mn : Int), aR 52] := by
                  refine aw_Vv1 kc_X6_182 (c6_goesAt (d := d + 19) (show mn < (t.eraseIdx mx).length by omega) M3 y1 y2 oT1.1) (by assumption) rfl rfl (by omega) (Nat.le_of_ble_eq_true rfl) dX6_joins_131 (fun h4 q4 => ?_)
                  obtain ⟨⟨W4, z1, z2, z3⟩, fr4⟩ := q4
                  rw [← hT2] at z2
                  have M4 := (fr4 52 (by omega)).trans M3
                  refine aw_aload_n dX6_joins_134 rfl ?_
                  refine aw_iload dX6_joins_135 rfl ?_
                  -- at 137: .invokevirtual 186
                  refine aw_Vv1 kc_X6_186 (c6_comes (d := d + 19) (by omega) (ni.mpr q1) (by omega) M4 z1 z2 oT2.1) (by assumption) rfl rfl (by omega) (Nat.le_of_ble_eq_true rfl) dX6_joins_137 (fun h5 q5 => ?_)
                  obtain ⟨⟨W5, v1, v2, v3⟩, fr5⟩ := q5
                  have M5 := (fr5 52 (by omega)).trans M4
                  refine aw_iload dX6_joins_140 rfl ?_
                  -- at 142: .ireturn
                  have s3 : ∀ i, 9 ≤ i → W5 i = W2 i := fun i hi => (v3 i hi).trans ((z3 i hi).trans (y3 i hi))
                  have fr7 : ∀ i, i ≠ 52 → i ≠ 53 → h5 i = h1 i := fun i j1 j2 => (fr5 i j2).trans ((fr4 i j2).trans ((fr3 i j2).trans (fr2 i j1 j2)))
                  refine aw_iret rfl dX6_joins_142 ⟨rfl, _, rfl, ?_⟩
                  rw [es, eC]
                  exact ⟨rfl, ⟨⟨_, _, _, _, _, _, _, _, M5⟩, ⟨W5, v1, v2, x3.fr o4.2.1.1 (fun i i1 i2 => s3 i (by omega)), x4.fr o5.2.1.1 (fun i i1 i2 => s3 i (by omega)), fun k hk => (x5 k hk).fr ((o3.store o2).at hk).1.1 (fun i i1 i2 => s3 i (by omega))⟩, a3.fr (fr7 54 (by omega) (by omega)), isRest.fr a4 (fun i j1 j2 => fr7 i (by omega) (by omega))⟩, fun i hi => fr7 i (by omega) (by omega)⟩
                refine aw_aload_n dX6_joins_120 rfl ?_
                refine aw_iload_n dX6_joins_121 rfl ?_
                refine aw_iload_n dX6_joins_122 rfl ?_
                -- at 123: .if_icmp .le 7
                refine aw_icmp_le (tgt := 130) dX6_joins_123 (by omega) (by omega) (by decide) (fun c7 => ?_) (fun c7 => ?_)
                · refine aw_iload_n dX6_joins_130 rfl ?_
                  rw [hmn, if_pos (by omega)] at at131
                  exact at131
                · refine aw_iload_n dX6_joins_126 rfl ?_
                  refine aw_goto (tgt := 131) dX6_joins_127 (by decide) ?_
                  rw [hmn, if_neg (by omega)] at at131
                  exact at131
              refine aw_aload_n dX6_joins_106 rfl ?_
              refine aw_iload_n dX6_joins_107 rfl ?_
              refine aw_iload_n dX6_joins_108 rfl ?_
              -- at 109: .if_icmp .le 7
              refine aw_icmp_le (tgt := 116) dX6_joins_109 (by omega) (by omega) (by decide) (fun c6 => ?_) (fun c6 => ?_)
              · refine aw_iload_n dX6_joins_116 rfl ?_
                rw [hmx, if_pos (by omega)] at at117
                exact at117
              · refine aw_iload_n dX6_joins_112 rfl ?_
                refine aw_goto (tgt := 117) dX6_joins_113 (by decide) ?_
                rw [hmx, if_neg (by omega)] at at117
                exact at117
          · refine aw_if_eq (tgt := 102) dX6_joins_96 (by omega) (by decide) (fun c5 => ?_) (fun c5 => ?_)
            · omega
            · refine state ?_ _
              rw [eC]
              cases hb : insB T2 (P / (a + b)) with
              | false => rfl
              | true => exact absurd (ni.mp ((insB_in oT2).mp hb).2.2) q1
end Model4
