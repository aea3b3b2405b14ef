/-! the reference: type, clear, fraction, makes -/
section Model2
variable {d n : Nat} {h : AH} {s : WS}
theorem c6_type {x : Int} (hx : -2147483648 ≤ x ∧ x ≤ 2147483647) (H : RM h s) (ok : okS s) : AC mX6_type (d + 20) 0 0 n h [aR 52, aI x] (mQ n h (typeF x s)) := by
  obtain ⟨p, q, t, past, ⟨k0, i0⟩, ⟨k1, i1⟩, sn, tx⟩ := s
  have H0 := H
  obtain ⟨⟨e1, e2, e3, e4, e5, e6, e7, e8, hM⟩, a2, a3, a4, ⟨f, a5, a5'⟩, a6, a7, a8⟩ := H
  obtain ⟨o1, o2, o3, o4, o5, o6, o7⟩ := ok
  have x60 := o7.1
  refine AC.of (by decide) (Nat.le_of_ble_eq_true rfl) ?_
  refine aw_iload_n dX6_type_0 rfl ?_
  refine aw_i2l dX6_type_1 (by omega) ?_
  refine aw_lconst (a := 0) dX6_type_2 (by decide) ?_
  refine aw_ldc2 kl_X6_118 dX6_type_3 ?_
  -- at 6: .invokestatic 66
  refine aw_Si3 kc_X6_66 (c_in (d := d + 19) (by omega) (by omega) (by omega)) rfl (by omega) (Nat.le_of_ble_eq_true rfl) dX6_type_6 (fun v h' q1 => ?_)
  obtain ⟨rfl, rfl⟩ := q1
  refine aw_flag_ne (tgt := 14) dX6_type_9 (by decide) (fun c1 => ?_) (fun c1 => ?_)
  rotate_left
  · refine aw_iconst dX6_type_12 ?_
    -- at 13: .ireturn
    refine aw_iret rfl dX6_type_13 ⟨rfl, _, rfl, ?_⟩
    rw [typeF, if_neg c1]
    exact ⟨rfl, H0, fun _ _ => rfl⟩
  · refine aw_aload_n dX6_type_14 rfl ?_
    refine aw_get kg_X6_73 (by assumption) (by rfl) dX6_type_15 ?_
    refine aw_bipush dX6_type_18 (by decide) ?_
    -- at 20: .if_icmp .ne 6
    refine aw_icmp_ne (tgt := 26) dX6_type_20 (by omega) (by omega) (by decide) (fun c2 => ?_) (fun c2 => ?_)
    · refine aw_aload_n dX6_type_26 rfl ?_
      refine aw_get kg_X6_33 (by assumption) (by rfl) dX6_type_27 ?_
      refine aw_aload_n dX6_type_30 rfl ?_
      refine aw_get kg_X6_73 (by assumption) (by rfl) dX6_type_31 ?_
      refine aw_iload_n dX6_type_34 rfl ?_
      -- at 35: .iastore
      refine aw_iastO (by assumption) (by omega) dX6_type_35 (fun h1 b1 f1 => ?_)
      have M1 := (f1 52 (by omega)).trans hM
      refine aw_aload_n dX6_type_36 rfl ?_
      refine aw_dup dX6_type_37 rfl ?_
      refine aw_get kg_X6_73 (by assumption) (by rfl) dX6_type_38 ?_
      refine aw_iconst dX6_type_41 ?_
      refine aw_iadd dX6_type_42 ?_
      -- at 43: .putfield 73
      refine aw_putO kp_X6_73 (by assumption) (by simp) (aw_ni _) dX6_type_43 (fun h2 b2 f2 => ?_)
      have b2 : h2 52 = aO 6 (mdl (past.length : Int) p q (sn.length : Int) ((tx.length : Int) + 1) e1 e2 e3 e4 e5 e6 e7 e8) := b2
      refine aw_aload_n dX6_type_46 rfl ?_
      refine aw_get kg_X6_73 (by assumption) (by rfl) dX6_type_47 ?_
      -- at 50: .ireturn
      have fr : ∀ j, j ≠ 52 → j ≠ 58 → h2 j = h' j := fun j j1 j2 => (f2 j j1).trans (f1 j j2)
      refine aw_iret rfl dX6_type_50 ⟨rfl, _, rfl, ?_⟩
      rw [typeF, if_pos c1, if_pos (by omega)]
      refine ⟨rfl, ⟨⟨e1, e2, e3, e4, e5, e6, e7, e8, by rw [b2]; simp⟩, a2.fr (fr 53 (by omega) (by omega)), a3.fr (fr 54 (by omega) (by omega)), a4.fr (fun j j1 j2 => fr j (by omega) (by omega)), ⟨_, (f2 58 (by omega)).trans b1, fun i hi => ?_⟩, a6.fr (fr 59 (by omega) (by omega)), a7.fr (fr 60 (by omega) (by omega)), a8.fr (fun j j1 j2 => fr j (by omega) (by omega))⟩, fun j hj => fr j (by omega) (by omega)⟩
      simp at hi
      rw [Int.toNat_natCast, gd_app]
      by_cases z : i < tx.length
      · rw [if_pos z, va_up_n _ _ _ (by omega)]; exact a5' i z
      · rw [if_neg z, if_pos (by omega), show i = tx.length by omega, va_up_s]
    · refine aw_bipush dX6_type_23 (by decide) ?_
      -- at 25: .ireturn
      refine aw_iret rfl dX6_type_25 ⟨rfl, _, rfl, ?_⟩
      rw [typeF, if_pos c1, if_neg (by omega)]
      exact ⟨rfl, H0, fun _ _ => rfl⟩
theorem isTy.nil {h : AH} {t : List Int} (H : isTy h t) : isTy h [] := by
  obtain ⟨f, x, -⟩ := H
  exact ⟨f, x, fun i hi => absurd hi (by simp)⟩
theorem isSn.nil {h : AH} {l : List Seen} (H : isSn h l) : isSn h [] := by
  obtain ⟨f, g, s, x, y, z, -⟩ := H
  exact ⟨f, g, s, x, y, z, fun i hi => absurd hi (by simp)⟩
theorem c6_clear (H : RM h s) (ok : okS s) : AC mX6_clear (d + 20) 0 0 n h [aR 52] (mQ n h (clearF s)) := by
  obtain ⟨p, q, t, past, ⟨k0, i0⟩, ⟨k1, i1⟩, sn, tx⟩ := s
  obtain ⟨⟨e1, e2, e3, e4, e5, e6, e7, e8, hM⟩, a2, a3, a4, a5, a6, a7, a8⟩ := H
  refine AC.of (by decide) (Nat.le_of_ble_eq_true rfl) ?_
  refine aw_aload_n dX6_clear_0 rfl ?_
  refine aw_get kg_X6_73 (by assumption) (by rfl) dX6_clear_1 ?_
  refine aw_istore_n dX6_clear_4 (by decide) ?_
  refine aw_aload_n dX6_clear_5 rfl ?_
  refine aw_iconst dX6_clear_6 ?_
  -- at 7: .putfield 73
  refine aw_putO kp_X6_73 (by assumption) (by simp) (aw_ni _) dX6_clear_7 (fun h2 b2 f2 => ?_)
  have b2 : h2 52 = aO 6 (mdl (past.length : Int) p q (sn.length : Int) 0 e1 e2 e3 e4 e5 e6 e7 e8) := b2
  refine aw_iload_n dX6_clear_10 rfl ?_
  -- at 11: .ireturn
  exact aw_iret rfl dX6_clear_11 ⟨rfl, _, rfl, rfl, ⟨⟨e1, e2, e3, e4, e5, e6, e7, e8, b2⟩, a2.fr (f2 53 (by omega)), a3.fr (f2 54 (by omega)), a4.fr (fun j j1 j2 => f2 j (by omega)), (a5.fr (f2 58 (by omega))).nil, a6.fr (f2 59 (by omega)), a7.fr (f2 60 (by omega)), a8.fr (fun j j1 j2 => f2 j (by omega))⟩, fun j hj => f2 j (by omega)⟩
theorem c6_fraction (H : RM h s) (ok : okS s) : AC mX6_fraction (d + 20) 0 0 n h [aR 52] (mQ n h (fracF s)) := by
  obtain ⟨p, q, t, past, ⟨k0, i0⟩, ⟨k1, i1⟩, sn, tx⟩ := s
  obtain ⟨⟨e1, e2, e3, e4, e5, e6, e7, e8, hM⟩, a2, a3, a4, a5, a6, a7, a8⟩ := H
  obtain ⟨o1, o2, o3, o4, o5, o6, o7⟩ := ok
  have hT := telS_rng (t := tx) o7.1
  refine AC.of (by decide) (Nat.le_of_ble_eq_true rfl) ?_
  refine aw_aload_n dX6_fraction_0 rfl ?_
  -- at 1: .invokevirtual 120
  refine aw_Vi0 kc_X6_120 (c6_reads (d := d + 11) (lt := 0) hM a5 o7 (by obtain ⟨g, x, -⟩ := a6; exact ⟨g, x⟩)) (by assumption) rfl rfl (by omega) (Nat.le_of_ble_eq_true rfl) dX6_fraction_1 (fun v h1 q1 => ?_)
  rcases q1 with ⟨rfl, q2, ⟨r1, r2, r3, q3⟩, q4, q5⟩ | ⟨rfl, q2, ⟨b, r1, r3, it, nu, nl, nm, qb, q3, q4⟩, ⟨g, q6⟩, q5⟩
  · have hok := telS_ok (t := tx) q2
    obtain ⟨k1', k2', k3', k4', k5'⟩ := hok
    have l8 := k3'.1
    obtain ⟨g, n1, n2⟩ := q4
    obtain ⟨W, w1, w2, w3, w4, w5⟩ := a2
    have w1' := (q5 53 (by omega) (by omega)).trans w1
    obtain ⟨f, b1, b2, b3⟩ := a3
    have b1' := (q5 54 (by omega) (by omega)).trans b1
    refine aw_if_ne (tgt := 15) dX6_fraction_4 (by omega) (by decide) (fun c1 => ?_) (fun c1 => ?_)
    rotate_left
    · omega
    · refine aw_aload_n dX6_fraction_15 rfl ?_
      refine aw_aload_n dX6_fraction_16 rfl ?_
      refine aw_get kg_X6_96 (by assumption) (by rfl) dX6_fraction_17 ?_
      -- at 20: .putfield 17
      refine aw_putO kp_X6_17 (by assumption) (by simp) (aw_ni _) dX6_fraction_20 (fun g1 x1 y1 => ?_)
      have x1 : g1 52 = aO 6 (mdl (past.length : Int) (telS tx).2.1 q (sn.length : Int) (tx.length : Int) r1 r2 r3 (telS tx).1 (telS tx).2.1 (telS tx).2.2.1 ((telS tx).2.2.2.length : Int) e8) := x1
      refine aw_aload_n dX6_fraction_23 rfl ?_
      refine aw_aload_n dX6_fraction_24 rfl ?_
      refine aw_get kg_X6_99 (by assumption) (by rfl) dX6_fraction_25 ?_
      -- at 28: .putfield 21
      refine aw_putO kp_X6_21 (by assumption) (by simp) (aw_ni _) dX6_fraction_28 (fun g2 x2 y2 => ?_)
      have x2 : g2 52 = aO 6 (mdl (past.length : Int) (telS tx).2.1 (telS tx).2.2.1 (sn.length : Int) (tx.length : Int) r1 r2 r3 (telS tx).1 (telS tx).2.1 (telS tx).2.2.1 ((telS tx).2.2.2.length : Int) e8) := x2
      have w2' := (y2 53 (by omega)).trans ((y1 53 (by omega)).trans w1')
      refine aw_aload_n dX6_fraction_31 rfl ?_
      refine aw_get kg_X6_7 (by assumption) (by rfl) dX6_fraction_32 ?_
      refine aw_iconst dX6_fraction_35 ?_
      refine aw_aload_n dX6_fraction_36 rfl ?_
      refine aw_get kg_X6_106 (by assumption) (by rfl) dX6_fraction_37 ?_
      -- at 40: .iastore
      refine aw_iastO (by assumption) (by omega) dX6_fraction_40 (fun g3 x3 y3 => ?_)
      have n3 := (y3 59 (by omega)).trans ((y2 59 (by omega)).trans ((y1 59 (by omega)).trans n1))
      have m3 := (y3 52 (by omega)).trans x2
      have fr3 : ∀ j, j ≠ 52 → j ≠ 53 → j ≠ 59 → g3 j = h j := fun j j1 j2 j3 => (y3 j j2).trans ((y2 j j1).trans ((y1 j j1).trans (q5 j j1 j3)))
      have loop : ∀ (c k : Nat) (g4 : AH) (W4 : Nat → Int), k + c = (telS tx).2.2.2.length → g4 53 = aA 0 117 W4 → W4 0 = ((telS tx).2.2.2.length : Int) → (∀ i, i < k → W4 (1 + i) = (telS tx).2.2.2.getD i 0) → (∀ i, 9 ≤ i → W4 i = W i) → (∀ j, j ≠ 53 → g4 j = g3 j) → AW mX6_fraction (am_R (d + 20) 0 0) (am_Z (mQ n h (fracF (p, q, t, past, (k0, i0), (k1, i1), sn, tx))) 0 0) 0 0 n g4 43 [some (aR 52), some (aI (k : Int))] [] := by
        intro c
        induction c with
        | zero =>
          intro k g4 W4 hk z1 z2 z3 z4 hfr
          have m4 := (hfr 52 (by omega)).trans m3
          refine aw_iload_n dX6_fraction_43 rfl ?_
          refine aw_aload_n dX6_fraction_44 rfl ?_
          refine aw_get kg_X6_106 (by assumption) (by rfl) dX6_fraction_45 ?_
          -- at 48: .if_icmp .ge 23
          refine aw_icmp_ge (tgt := 71) dX6_fraction_48 (by omega) (by omega) (by decide) (fun c2 => ?_) (fun c2 => ?_)
          · refine aw_aload_n dX6_fraction_71 rfl ?_
            refine aw_iconst dX6_fraction_72 ?_
            -- at 73: .putfield 73
            refine aw_putO kp_X6_73 (by assumption) (by simp) (aw_ni _) dX6_fraction_73 (fun g5 x5 y5 => ?_)
            have x5 : g5 52 = aO 6 (mdl (past.length : Int) (telS tx).2.1 (telS tx).2.2.1 (sn.length : Int) 0 r1 r2 r3 (telS tx).1 (telS tx).2.1 (telS tx).2.2.1 ((telS tx).2.2.2.length : Int) e8) := x5
            refine aw_aload_n dX6_fraction_76 rfl ?_
            refine aw_iconst dX6_fraction_77 ?_
            -- at 78: .putfield 55
            refine aw_putO kp_X6_55 (by assumption) (by simp) (aw_ni _) dX6_fraction_78 (fun g6 x6 y6 => ?_)
            have x6 : g6 52 = aO 6 (mdl 0 (telS tx).2.1 (telS tx).2.2.1 (sn.length : Int) 0 r1 r2 r3 (telS tx).1 (telS tx).2.1 (telS tx).2.2.1 ((telS tx).2.2.2.length : Int) e8) := x6
            refine aw_aload_n dX6_fraction_81 rfl ?_
            refine aw_iconst dX6_fraction_82 ?_
            -- at 83: .putfield 123
            refine aw_putO kp_X6_123 (by assumption) (by simp) (aw_ni _) dX6_fraction_83 (fun g7 x7 y7 => ?_)
            have x7 : g7 52 = aO 6 (mdl 0 (telS tx).2.1 (telS tx).2.2.1 0 0 r1 r2 r3 (telS tx).1 (telS tx).2.1 (telS tx).2.2.1 ((telS tx).2.2.2.length : Int) e8) := x7
            have fr7 : ∀ j, j ≠ 52 → j ≠ 53 → j ≠ 59 → g7 j = h j := fun j j1 j2 j3 => (y7 j j1).trans ((y6 j j1).trans ((y5 j j1).trans ((hfr j j2).trans (fr3 j j1 j2 j3))))
            have k7 := (fr7 54 (by omega) (by omega) (by omega)).trans b1
            refine aw_aload_n dX6_fraction_86 rfl ?_
            refine aw_get kg_X6_13 (by assumption) (by rfl) dX6_fraction_87 ?_
            refine aw_iconst dX6_fraction_90 ?_
            refine aw_iconst dX6_fraction_91 ?_
            -- at 92: .bastore
            refine aw_zastO (by assumption) (by omega) (by omega) dX6_fraction_92 (fun g8 x8 y8 => ?_)
            have x78 := (y8 52 (by omega)).trans x7
            refine aw_aload_n dX6_fraction_93 rfl ?_
            refine aw_get kg_X6_13 (by assumption) (by rfl) dX6_fraction_94 ?_
            refine aw_iconst dX6_fraction_97 ?_
            refine aw_iconst dX6_fraction_98 ?_
            -- at 99: .bastore
            refine aw_zastO (by assumption) (by omega) (by omega) dX6_fraction_99 (fun g9 x9 y9 => ?_)
            have x79 := (y9 52 (by omega)).trans x78
            refine aw_aload_n dX6_fraction_100 rfl ?_
            refine aw_get kg_X6_89 (by assumption) (by rfl) dX6_fraction_101 ?_
            -- at 104: .ireturn
            have fr9 : ∀ j, j ≠ 52 → j ≠ 53 → j ≠ 59 → j ≠ 54 → g9 j = h j := fun j j1 j2 j3 j4 => (y9 j j4).trans ((y8 j j4).trans (fr7 j j1 j2 j3))
            refine aw_iret rfl dX6_fraction_104 ⟨rfl, _, rfl, ?_⟩
            rw [fracF, if_pos q2]
            refine ⟨rfl, ⟨⟨_, _, _, _, _, _, _, _, x79⟩, ⟨W4, (y9 53 (by omega)).trans ((y8 53 (by omega)).trans ((y7 53 (by omega)).trans ((y6 53 (by omega)).trans ((y5 53 (by omega)).trans z1)))), ⟨z2, fun i hi => by rw [Nat.zero_add]; exact z3 i (by omega)⟩, w3.fr o4.2.1.1 (fun i i1 i2 => z4 i (by omega)), w4.fr o5.2.1.1 (fun i i1 i2 => z4 i (by omega)), fun k hk => absurd hk (by simp)⟩, ⟨_, x9, (va_up_n _ _ _ (by decide)).trans (va_up_s ..), va_up_s ..⟩, (a4.fr (fun j j1 j2 => fr9 j (by omega) (by omega) (by omega) (by omega))).nil, (a5.fr (fr9 58 (by omega) (by omega) (by omega) (by omega))).nil, ⟨g, (y9 59 (by omega)).trans ((y8 59 (by omega)).trans ((y7 59 (by omega)).trans ((y6 59 (by omega)).trans ((y5 59 (by omega)).trans ((hfr 59 (by omega)).trans n3))))), fun i hi => absurd hi (by simp)⟩, a7.fr (fr9 60 (by omega) (by omega) (by omega) (by omega)), a8.fr (fun j j1 j2 => fr9 j (by omega) (by omega) (by omega) (by omega))⟩, fun j hj => fr9 j (by omega) (by omega) (by omega) (by omega)⟩
          · omega
        | succ c ih =>
          intro k g4 W4 hk z1 z2 z3 z4 hfr
          have m4 := (hfr 52 (by omega)).trans m3
          have n4 := (hfr 59 (by omega)).trans n3
          have nk := n2 k (by omega)
          refine aw_iload_n dX6_fraction_43 rfl ?_
          refine aw_aload_n dX6_fraction_44 rfl ?_
          refine aw_get kg_X6_106 (by assumption) (by rfl) dX6_fraction_45 ?_
          -- at 48: .if_icmp .ge 23
          refine aw_icmp_ge (tgt := 71) dX6_fraction_48 (by omega) (by omega) (by decide) (fun c2 => ?_) (fun c2 => ?_)
          · omega
          · refine aw_aload_n dX6_fraction_51 rfl ?_
            refine aw_get kg_X6_7 (by assumption) (by rfl) dX6_fraction_52 ?_
            refine aw_iconst dX6_fraction_55 ?_
            refine aw_iload_n dX6_fraction_56 rfl ?_
            refine aw_iadd dX6_fraction_57 ?_
            refine aw_aload_n dX6_fraction_58 rfl ?_
            refine aw_get kg_X6_36 (by assumption) (by rfl) dX6_fraction_59 ?_
            refine aw_iload_n dX6_fraction_62 rfl ?_
            refine aw_iald (by assumption) (by omega) dX6_fraction_63 ?_
            -- at 64: .iastore
            refine aw_iastO (by assumption) (by omega) dX6_fraction_64 (fun g5 x5 y5 => ?_)
            rw [show ((1 : Int) + (k : Int)).toNat = 1 + k by omega, Int.toNat_natCast] at x5
            refine aw_iinc dX6_fraction_65 rfl (by decide) ?_
            refine aw_goto (tgt := 43) dX6_fraction_68 (by decide) ?_
            have K := ih (k + 1) g5 _ (by omega) x5 ((va_up_n _ _ _ (by omega)).trans z2) (fun i hi => ?_) (fun i hi => (va_up_n _ _ _ (by omega)).trans (z4 i hi)) (fun j hj => (y5 j hj).trans (hfr j hj))
            · rw [show ((k + 1 : Nat) : Int) = (k : Int) + 1 by omega] at K
              exact K
            · by_cases z : i = k
              · rw [z, va_up_s, nk]
              · rw [va_up_n _ _ _ (by omega)]; exact z3 i (by omega)
      refine aw_iconst dX6_fraction_41 ?_
      refine aw_istore_n dX6_fraction_42 (by decide) ?_
      exact loop _ 0 g3 _ (Nat.zero_add _) x3 (va_up_s ..) (fun i hi => by omega) (fun i hi => va_up_n _ _ _ (by show i ≠ 0; omega)) (fun _ _ => rfl)
  · refine aw_if_ne (tgt := 15) dX6_fraction_4 (by omega) (by decide) (fun c1 => ?_) (fun c1 => ?_)
    · omega
    · refine aw_bipush dX6_fraction_7 (by decide) ?_
      refine aw_aload_n dX6_fraction_9 rfl ?_
      refine aw_get kg_X6_76 (by assumption) (by rfl) dX6_fraction_10 ?_
      refine aw_isub dX6_fraction_13 ?_
      -- at 14: .ireturn
      refine aw_iret rfl dX6_fraction_14 ⟨rfl, _, rfl, ?_⟩
      rw [fracF, if_neg (by omega)]
      exact ⟨q3.symm, ⟨⟨_, _, _, _, _, _, _, _, q4⟩, a2.fr (q5 53 (by omega) (by omega)), a3.fr (q5 54 (by omega) (by omega)), a4.fr (fun j j1 j2 => q5 j (by omega) (by omega)), a5.fr (q5 58 (by omega) (by omega)), ⟨g, q6, fun i hi => absurd hi (by simp)⟩, a7.fr (q5 60 (by omega) (by omega)), a8.fr (fun j j1 j2 => q5 j (by omega) (by omega))⟩, fun j hj => q5 j (by omega) (by omega)⟩
theorem few5_ok {F : Int → Int} : ∀ (c : Nat) (m : Int), few5 F c m = -9 ∨ ((m ≤ few5 F c m ∧ few5 F c m < m + c) ∧ 0 < F (few5 F c m))
  | 0, m => Or.inl rfl
  | c + 1, m => by
    rw [few5]
    by_cases z : 0 < F m
    · rw [if_pos z]; exact Or.inr ⟨by omega, z⟩
    · rw [if_neg z]
      rcases few5_ok (F := F) c (m + 1) with h | ⟨h1, h2⟩
      · exact Or.inl h
      · exact Or.inr ⟨by omega, h2⟩
theorem c6_makes {way : Int} (hw : -2147483648 ≤ way ∧ way ≤ 2147483647) (H : RM h s) (ok : okS s) : AC mX6_makes (d + 20) 0 0 n h [aR 52, aI way] (mQ n h (makesF way s)) := by
  obtain ⟨p, q, t, past, ⟨k0, i0⟩, ⟨k1, i1⟩, sn, tx⟩ := s
  have H0 := H
  obtain ⟨⟨e1, e2, e3, e4, e5, e6, e7, e8, hM⟩, a2, a3, a4, a5, a6, a7, a8⟩ := H
  obtain ⟨o1, o2, o3, o4, o5, o6, o7⟩ := ok
  refine AC.of (by decide) (Nat.le_of_ble_eq_true rfl) ?_
  have hp : 0 ≤ p ∧ p ≤ 99 := by omega
  -- behind the making
  have rest : ∀ (v : Int) (h1 : AH), (0 ≤ way ∧ way ≤ 3) → frQ h (mdl (past.length : Int) p q (sn.length : Int) (tx.length : Int) e1 e2 e3 e4 e5 e6 e7) (makeS p q way) v h1 → AW mX6_makes (am_R (d + 20) 0 0) (am_Z (mQ n h (makesF way (p, q, t, past, (k0, i0), (k1, i1), sn, tx))) 0 0) 0 0 n h1 53 [some (aR 52), some (aI way), none, none] [aI v] := by
    intro v h1 hw3 q1
    obtain ⟨q1, ⟨tp, q2⟩, q3, q4⟩ := q1
    have fr1 : ∀ j, j ≠ 52 → j ≠ 60 → (j < 61 ∨ 64 < j) → h1 j = h j := q4
    rcases q1 with ⟨l, e, rfl, q5⟩ | ⟨e, rfl, q5⟩
    · have hl := makeS_row o1.2.1.1 e
      have em : makesF way (p, q, t, past, (k0, i0), (k1, i1), sn, tx) = ((l.length : Int), takeF l (p, q, t, past, (k0, i0), (k1, i1), sn, tx)) := by
        rw [makesF, if_pos hw3]
        dsimp only
        rw [e]
      have l8 := hl.1.1
      refine aw_istore_n dX6_makes_53 (by decide) ?_
      refine aw_iload_n dX6_makes_54 rfl ?_
      refine aw_bipush dX6_makes_55 (by decide) ?_
      -- at 57: .if_icmp .ne 6
      refine aw_icmp_ne (tgt := 63) dX6_makes_57 (by omega) (by omega) (by decide) (fun c1 => ?_) (fun c1 => ?_)
      rotate_left
      · omega
      · refine aw_aload_n dX6_makes_63 rfl ?_
        -- at 64: .invokevirtual 165
        refine aw_Vv0 kc_X6_165 (c6_minds (d := d + 18) o3 o2.1 o4.2.1.1 o5.2.1.1 ⟨_, _, _, _, _, _, _, _, q2⟩ (a2.fr (fr1 53 (by omega) (by omega) (by omega)))) (by assumption) rfl rfl (by omega) (Nat.le_of_ble_eq_true rfl) dX6_makes_64 (fun h2 q6 => ?_)
        obtain ⟨⟨f1, f2, f3, f4, f5, f6, f7, f8, q7⟩, ⟨W, w1, w2, w3, w4, w5⟩, q8⟩ := q6
        refine aw_aload_n dX6_makes_67 rfl ?_
        refine aw_get kg_X6_7 (by assumption) (by rfl) dX6_makes_68 ?_
        refine aw_iconst dX6_makes_71 ?_
        refine aw_iload_n dX6_makes_72 rfl ?_
        -- at 73: .iastore
        refine aw_iastO (by assumption) (by omega) dX6_makes_73 (fun h3 b3 g3 => ?_)
        have m3 := (g3 52 (by omega)).trans q7
        obtain ⟨fm, y1, y2⟩ := q5
        have y3 := (g3 60 (by omega)).trans ((q8 60 (by omega) (by omega)).trans y1)
        have loop : ∀ (c k : Nat) (h4 : AH) (W4 : Nat → Int), k + c = l.length → h4 53 = aA 0 117 W4 → W4 0 = (l.length : Int) → (∀ i, i < k → W4 (1 + i) = l.getD i 0) → (∀ i, 9 ≤ i → W4 i = W i) → (∀ j, j ≠ 53 → h4 j = h3 j) → AW mX6_makes (am_R (d + 20) 0 0) (am_Z (mQ n h (makesF way (p, q, t, past, (k0, i0), (k1, i1), sn, tx))) 0 0) 0 0 n h4 76 [some (aR 52), some (aI way), some (aI (l.length : Int)), some (aI (k : Int))] [] := by
          intro c
          induction c with
          | zero =>
            intro k h4 W4 hk z1 z2 z3 z4 hfr
            refine aw_iload_n dX6_makes_76 rfl ?_
            refine aw_iload_n dX6_makes_77 rfl ?_
            -- at 78: .if_icmp .ge 23
            refine aw_icmp_ge (tgt := 101) dX6_makes_78 (by omega) (by omega) (by decide) (fun c2 => ?_) (fun c2 => ?_)
            · refine aw_iload_n dX6_makes_101 rfl ?_
              -- at 102: .ireturn
              have fr4 : ∀ j, j ≠ 52 → j ≠ 53 → j ≠ 60 → (j < 61 ∨ 64 < j) → h4 j = h j := fun j j1 j2 j3 j4 => (hfr j j2).trans ((g3 j j2).trans ((q8 j j1 j2).trans (fr1 j j1 j3 j4)))
              have fr41 : ∀ j, j ≠ 52 → j ≠ 53 → h4 j = h1 j := fun j j1 j2 => (hfr j j2).trans ((g3 j j2).trans (q8 j j1 j2))
              refine aw_iret rfl dX6_makes_102 ⟨rfl, _, rfl, ?_⟩
              rw [em]
              refine ⟨rfl, ⟨⟨_, _, _, _, _, _, _, _, (hfr 52 (by omega)).trans m3⟩, ⟨W4, z1, ⟨z2, fun i hi => by rw [Nat.zero_add]; exact z3 i (by omega)⟩, w3.fr o4.2.1.1 (fun i i1 i2 => z4 i (by omega)), w4.fr o5.2.1.1 (fun i i1 i2 => z4 i (by omega)), fun k hk => (w5 k hk).fr ((o3.store o2).at hk).1.1 (fun i i1 i2 => z4 i (by omega))⟩, a3.fr (fr4 54 (by omega) (by omega) (by omega) (by omega)), a4.fr (fun j j1 j2 => fr4 j (by omega) (by omega) (by omega) (by omega)), a5.fr (fr4 58 (by omega) (by omega) (by omega) (by omega)), a6.fr (fr4 59 (by omega) (by omega) (by omega) (by omega)), ⟨fm, (hfr 60 (by omega)).trans y3, fun i hi => absurd hi (by simp)⟩, q3.fr (fun j j1 j2 => fr41 j (by omega) (by omega))⟩, fun j hj => fr4 j (by omega) (by omega) (by omega) (by omega)⟩
            · omega
          | succ c ih =>
            intro k h4 W4 hk z1 z2 z3 z4 hfr
            have m4 := (hfr 52 (by omega)).trans m3
            have y4 := (hfr 60 (by omega)).trans y3
            have nk := y2 k (by omega)
            refine aw_iload_n dX6_makes_76 rfl ?_
            refine aw_iload_n dX6_makes_77 rfl ?_
            -- at 78: .if_icmp .ge 23
            refine aw_icmp_ge (tgt := 101) dX6_makes_78 (by omega) (by omega) (by decide) (fun c2 => ?_) (fun c2 => ?_)
            · omega
            · refine aw_aload_n dX6_makes_81 rfl ?_
              refine aw_get kg_X6_7 (by assumption) (by rfl) dX6_makes_82 ?_
              refine aw_iconst dX6_makes_85 ?_
              refine aw_iload_n dX6_makes_86 rfl ?_
              refine aw_iadd dX6_makes_87 ?_
              refine aw_aload_n dX6_makes_88 rfl ?_
              refine aw_get kg_X6_39 (by assumption) (by rfl) dX6_makes_89 ?_
              refine aw_iload_n dX6_makes_92 rfl ?_
              refine aw_iald (by assumption) (by omega) dX6_makes_93 ?_
              -- at 94: .iastore
              refine aw_iastO (by assumption) (by omega) dX6_makes_94 (fun h5 x5 g5 => ?_)
              rw [show ((1 : Int) + (k : Int)).toNat = 1 + k by omega, Int.toNat_natCast] at x5
              refine aw_iinc dX6_makes_95 rfl (by decide) ?_
              refine aw_goto (tgt := 76) dX6_makes_98 (by decide) ?_
              have K := ih (k + 1) h5 _ (by omega) x5 ((va_up_n _ _ _ (by omega)).trans z2) (fun i hi => ?_) (fun i hi => (va_up_n _ _ _ (by omega)).trans (z4 i hi)) (fun j hj => (g5 j hj).trans (hfr j hj))
              · rw [show ((k + 1 : Nat) : Int) = (k : Int) + 1 by omega] at K
                exact K
              · by_cases z : i = k
                · rw [z, va_up_s, nk]
                · rw [va_up_n _ _ _ (by omega)]; exact z3 i (by omega)
        refine aw_iconst dX6_makes_74 ?_
        refine aw_istore_n dX6_makes_75 (by decide) ?_
        exact loop l.length 0 h3 _ (Nat.zero_add _) b3 (va_up_s ..) (fun i hi => by omega) (fun i hi => va_up_n _ _ _ (by show i ≠ 0; omega)) (fun _ _ => rfl)
    · have em : makesF way (p, q, t, past, (k0, i0), (k1, i1), sn, tx) = (-2, (p, q, t, past, (k0, i0), (k1, i1), sn, tx)) := by
        rw [makesF, if_pos hw3]
        dsimp only
        rw [e]
      refine aw_istore_n dX6_makes_53 (by decide) ?_
      refine aw_iload_n dX6_makes_54 rfl ?_
      refine aw_bipush dX6_makes_55 (by decide) ?_
      -- at 57: .if_icmp .ne 6
      refine aw_icmp_ne (tgt := 63) dX6_makes_57 (by omega) (by omega) (by decide) (fun c1 => ?_) (fun c1 => ?_)
      · omega
      · refine aw_bipush dX6_makes_60 (by decide) ?_
        -- at 62: .ireturn
        refine aw_iret rfl dX6_makes_62 ⟨rfl, _, rfl, ?_⟩
        rw [em]
        exact ⟨rfl, ⟨⟨_, _, _, _, _, _, _, _, q2⟩, a2.fr (fr1 53 (by omega) (by omega) (by omega)), a3.fr (fr1 54 (by omega) (by omega) (by omega)), a4.fr (fun j j1 j2 => fr1 j (by omega) (by omega) (by omega)), a5.fr (fr1 58 (by omega) (by omega) (by omega)), a6.fr (fr1 59 (by omega) (by omega) (by omega)), q5, q3⟩, fun j hj => fr1 j (by omega) (by omega) (by omega)⟩
  refine aw_iload_n dX6_makes_0 rfl ?_
  refine aw_i2l dX6_makes_1 (by omega) ?_
  refine aw_lconst (a := 0) dX6_makes_2 (by decide) ?_
  refine aw_ldc2 kl_X6_159 dX6_makes_3 ?_
  -- at 6: .invokestatic 66
  refine aw_Si3 kc_X6_66 (c_in (d := d + 19) (by omega) (by omega) (by omega)) rfl (by omega) (Nat.le_of_ble_eq_true rfl) dX6_makes_6 (fun v h' q1 => ?_)
  obtain ⟨rfl, rfl⟩ := q1
  refine aw_flag_ne (tgt := 14) dX6_makes_9 (by decide) (fun c1 => ?_) (fun c1 => ?_)
  rotate_left
  · refine aw_iconst dX6_makes_12 ?_
    -- at 13: .ireturn
    refine aw_iret rfl dX6_makes_13 ⟨rfl, _, rfl, ?_⟩
    rw [makesF, if_neg c1]
    exact ⟨rfl, H0, fun _ _ => rfl⟩
  · refine aw_iload_n dX6_makes_14 rfl ?_
    refine aw_iconst dX6_makes_15 ?_
    -- at 16: .if_icmp .ge 13
    refine aw_icmp_ge (tgt := 29) dX6_makes_16 (by omega) (by omega) (by decide) (fun c2 => ?_) (fun c2 => ?_)
    · refine aw_iload_n dX6_makes_29 rfl ?_
      refine aw_iconst dX6_makes_30 ?_
      -- at 31: .if_icmp .ne 18
      refine aw_icmp_ne (tgt := 49) dX6_makes_31 (by omega) (by omega) (by decide) (fun c3 => ?_) (fun c3 => ?_)
      · refine aw_aload_n dX6_makes_49 rfl ?_
        -- at 50: .invokevirtual 161
        refine aw_Vi0 kc_X6_161 (c6_byLeastTop (d := d + 17) hp o1.2.1 hM a8 a7) (by assumption) rfl rfl (by omega) (Nat.le_of_ble_eq_true rfl) dX6_makes_50 (fun v h1 q1 => ?_)
        have em : makeS p q way = pickS (bl5 (fun k => bndS k p q) 5 1 (-9) 61).1 (bndS (bl5 (fun k => bndS k p q) 5 1 (-9) 61).1 p q) p q 0 := by rw [makeS, if_neg (by omega), if_neg (by omega), if_neg (by omega)]
        rw [← em] at q1
        exact rest v h1 c1 q1
      · refine aw_aload_n dX6_makes_34 rfl ?_
        refine aw_aload_n dX6_makes_35 rfl ?_
        refine aw_bipush dX6_makes_36 (by decide) ?_
        -- at 38: .invokevirtual 156
        refine aw_Vi1 kc_X6_156 (c6_few (d := d + 18) (D := 60) (by omega) hp o1.2.1 hM a8) (by assumption) rfl rfl (by omega) (Nat.le_of_ble_eq_true rfl) dX6_makes_38 (fun v h1 q1 => ?_)
        obtain ⟨rfl, ⟨tp, q2⟩, q3, q4⟩ := q1
        have em : makeS p q way = pickS (few5 (fun k => howS k ((60 : Nat) : Int) p q) 5 1) 60 p q 0 := by rw [makeS, if_neg (by omega), if_neg (by omega), if_pos (by omega)]; rfl
        have hfew : few5 (fun k => howS k ((60 : Nat) : Int) p q) 5 1 = -9 ∨ ((1 ≤ few5 (fun k => howS k ((60 : Nat) : Int) p q) 5 1 ∧ few5 (fun k => howS k ((60 : Nat) : Int) p q) 5 1 ≤ 5) ∧ (0 ≤ (60 : Int) ∧ (60 : Int) ≤ 60) ∧ 0 < (sm (60 : Int).toNat (few5 (fun k => howS k ((60 : Nat) : Int) p q) 5 1).toNat 0 p q).length) := by
          rcases few5_ok (F := fun k => howS k ((60 : Nat) : Int) p q) 5 1 with z | ⟨z1, z2⟩
          · exact Or.inl z
          · refine Or.inr ⟨by omega, by omega, ?_⟩
            generalize few5 (fun k => howS k ((60 : Nat) : Int) p q) 5 1 = K at z1 z2
            obtain ⟨K, rfl⟩ : ∃ K' : Nat, K = (K' : Int) := ⟨K.toNat, by omega⟩
            have z2 : 0 < howS (K : Int) ((60 : Nat) : Int) p q := z2
            rw [howS_eq (by omega) (by omega)] at z2
            rw [Int.toNat_natCast]
            show 0 < (sm 60 K 0 p q).length
            omega
        refine aw_bipush dX6_makes_41 (by decide) ?_
        -- at 43: .invokevirtual 147
        refine aw_Vi2 kc_X6_147 (c6_firstOf (d := d + 18) hfew hp o1.2.1 q2 q3 (a7.fr (q4 60 (by omega) (by omega)))) (by assumption) rfl rfl (by omega) (Nat.le_of_ble_eq_true rfl) dX6_makes_43 (fun v h2 q5 => ?_)
        rw [← em] at q5
        obtain ⟨q6, q7, q8, q9⟩ := q5
        refine aw_goto (tgt := 53) dX6_makes_46 (by decide) ?_
        exact rest v h2 c1 ⟨q6, q7, q8, fun j j1 j2 j3 => (q9 j j1 j2 j3).trans (q4 j j1 j3)⟩
    · obtain ⟨st, hst⟩ : ∃ st : Nat, way + 1 = (st : Int) := ⟨(way + 1).toNat, by omega⟩
      obtain ⟨odd, hs, em⟩ : ∃ odd : Bool, ((odd = true ∧ st = 2) ∨ (odd = false ∧ st = 1)) ∧ makeS p q way = greedyS p q odd := by
        by_cases z : way = 1
        · exact ⟨true, Or.inl ⟨rfl, by omega⟩, by rw [makeS, if_neg (by omega), if_pos z]⟩
        · exact ⟨false, Or.inr ⟨rfl, by omega⟩, by rw [makeS, if_pos (by omega)]⟩
      refine aw_aload_n dX6_makes_19 rfl ?_
      refine aw_iload_n dX6_makes_20 rfl ?_
      refine aw_iconst dX6_makes_21 ?_
      refine aw_iadd dX6_makes_22 ?_
      refine aw_val (w := aI (st : Int)) (by rw [hst]) ?_
      refine aw_Vi1 kc_X6_151 (c6_least (d := d + 17) hs o1.1 o1.2.1 o1.2.2 hM a7) (by assumption) rfl rfl (by omega) (Nat.le_of_ble_eq_true rfl) dX6_makes_23 (fun v h1 q1 => ?_)
      rw [← em] at q1
      obtain ⟨q2, q3⟩ := q1
      refine aw_goto (tgt := 53) dX6_makes_26 (by decide) ?_
      refine rest v h1 c1 ⟨q3, ⟨e8, (q2 52 (by omega)).trans hM⟩, a8.fr (fun j j1 j2 => q2 j (by omega)), fun j j1 j2 j3 => q2 j j2⟩
end Model2
