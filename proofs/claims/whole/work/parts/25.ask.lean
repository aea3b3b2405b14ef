/-! sees, forget, unseen, ask: the class; ones, ask: the reference -/
abbrev top5 (p q : Int) : List AV := [aI p, aI q, aR 2, aR 4, aR 6, aR 10, aR 32, aR 37, aR 38, aR 48]
def askQ (N : Int) (l : List Seen) : Int := if 2 ≤ N ∧ N ≤ 7 then askS N (unseenS l) else -1
section Ask
variable {d n : Nat} {h : AH} {l : List Seen} {p q : Int}
theorem c5_sees {N m s : Int} (hN : -2147483648 ≤ N ∧ N ≤ 2147483647) (hm : -2147483648 ≤ m ∧ m ≤ 2147483647) (hs : -2147483648 ≤ s ∧ s ≤ 2147483647) (h0 : h 1 = aO 5 (top5 p q)) (H : isWit h l) (hl : okSeen l) : AC mX5_sees (d + 10) 0 0 n h [aR 1, aI N, aI m, aI s]
    (aqi n fun v h' => (¬ seesOK N m s ∧ v = -1 ∧ h' = h) ∨ (seesOK N m s ∧ 6 ≤ l.length ∧ v = -3 ∧ h' = h) ∨ (seesOK N m s ∧ l.length < 6 ∧ v = (l.length : Int) + 1 ∧ isWit h' (l ++ [(N, m, s)]) ∧ ∀ j, (j < 48 ∨ 51 < j) → h' j = h j)) := by
  refine AC.of (by decide) (Nat.le_of_ble_eq_true rfl) ?_
  have hw := H.1
  refine aw_iload_n dX5_sees_0 rfl ?_
  -- at 1: .invokestatic 150
  refine aw_Si1 kc_X5_150 (c_isNumerator (d := d) hN) rfl (by omega) (Nat.le_of_ble_eq_true rfl) dX5_sees_1 (fun v h' q => ?_)
  obtain ⟨rfl, rfl⟩ := q
  refine aw_flag_eq (tgt := 28) dX5_sees_4 (by decide) (fun c1 => ?_) (fun c1 => ?_)
  · refine aw_iconst dX5_sees_28 ?_
    -- at 29: .ireturn
    exact aw_iret rfl dX5_sees_29 ⟨rfl, _, rfl, Or.inl ⟨fun z => c1 z.1, rfl, rfl⟩⟩
  · refine aw_iload_n dX5_sees_7 rfl ?_
    refine aw_iconst dX5_sees_8 ?_
    -- at 9: .if_icmp .lt 19
    refine aw_icmp_lt (tgt := 28) dX5_sees_9 (by omega) (by omega) (by decide) (fun c2 => ?_) (fun c2 => ?_)
    · refine aw_iconst dX5_sees_28 ?_
      -- at 29: .ireturn
      exact aw_iret rfl dX5_sees_29 ⟨rfl, _, rfl, Or.inl ⟨fun z => by have := z.2.1; omega, rfl, rfl⟩⟩
    · refine aw_iload_n dX5_sees_12 rfl ?_
      refine aw_sipush dX5_sees_13 (by decide) ?_
      -- at 16: .if_icmp .gt 12
      refine aw_icmp_gt (tgt := 28) dX5_sees_16 (by omega) (by omega) (by decide) (fun c3 => ?_) (fun c3 => ?_)
      · refine aw_iconst dX5_sees_28 ?_
        -- at 29: .ireturn
        exact aw_iret rfl dX5_sees_29 ⟨rfl, _, rfl, Or.inl ⟨fun z => by have := z.2.1; omega, rfl, rfl⟩⟩
      · refine aw_iload_n dX5_sees_19 rfl ?_
        -- at 20: .ifCond .lt 8
        refine aw_if_lt (tgt := 28) dX5_sees_20 (by omega) (by decide) (fun c4 => ?_) (fun c4 => ?_)
        · refine aw_iconst dX5_sees_28 ?_
          -- at 29: .ireturn
          exact aw_iret rfl dX5_sees_29 ⟨rfl, _, rfl, Or.inl ⟨fun z => by have := z.2.2; omega, rfl, rfl⟩⟩
        · refine aw_iload_n dX5_sees_23 rfl ?_
          refine aw_iconst dX5_sees_24 ?_
          -- at 25: .if_icmp .le 5
          refine aw_icmp_le (tgt := 30) dX5_sees_25 (by omega) (by omega) (by decide) (fun c5 => ?_) (fun c5 => ?_)
          · have ok : seesOK N m s := ⟨c1, by omega, by omega⟩
            have fin : ∀ L, lk L 0 = some (aR 1) → AW mX5_sees (am_R (d + 10) 0 0) (am_Z (aqi n fun v h'' => (¬ seesOK N m s ∧ v = -1 ∧ h'' = h') ∨ (seesOK N m s ∧ 6 ≤ l.length ∧ v = -3 ∧ h'' = h') ∨ (seesOK N m s ∧ l.length < 6 ∧ v = (l.length : Int) + 1 ∧ isWit h'' (l ++ [(N, m, s)]) ∧ ∀ j, (j < 48 ∨ 51 < j) → h'' j = h' j)) 0 0) 0 0 n h' 46 L [aI s, aI m, aI N, aR 48] := by
              intro L hL
              refine aw_Vi3 kc_X5_167 (c_Wit_add (d := d) H hl ok) (by assumption) rfl rfl (by omega) (Nat.le_of_ble_eq_true rfl) dX5_sees_46 (fun v h2 q => ?_)
              rcases q with ⟨q1, rfl, q3, q4⟩ | ⟨q1, rfl, rfl⟩
              · refine aw_if_eq (tgt := 62) dX5_sees_49 (by omega) (by decide) (fun c6 => ?_) (fun c6 => ?_)
                · omega
                · have h02 := (q4 1 (by omega)).trans h0
                  have hw2 := q3.1
                  refine aw_aload_n dX5_sees_52 hL ?_
                  refine aw_get kg_X5_58 (by assumption) (by rfl) dX5_sees_53 ?_
                  -- at 56: .invokevirtual 171
                  refine aw_Vi0 kc_X5_171 (c_Wit_length (d := d) q3) (by assumption) rfl rfl (by omega) (Nat.le_of_ble_eq_true rfl) dX5_sees_56 (fun v h3 q => ?_)
                  obtain ⟨rfl, rfl⟩ := q
                  refine aw_goto (tgt := 64) dX5_sees_59 (by decide) ?_
                  -- at 64: .ireturn
                  exact aw_iret rfl dX5_sees_64 ⟨rfl, _, rfl, Or.inr (Or.inr ⟨ok, q1, by simp, q3, q4⟩)⟩
              · refine aw_if_eq (tgt := 62) dX5_sees_49 (by omega) (by decide) (fun c6 => ?_) (fun c6 => ?_)
                · refine aw_bipush dX5_sees_62 (by decide) ?_
                  -- at 64: .ireturn
                  exact aw_iret rfl dX5_sees_64 ⟨rfl, _, rfl, Or.inr (Or.inl ⟨ok, q1, rfl, rfl⟩)⟩
                · omega
            refine aw_aload_n dX5_sees_30 rfl ?_
            refine aw_get kg_X5_58 (by assumption) (by rfl) dX5_sees_31 ?_
            refine aw_iload_n dX5_sees_34 rfl ?_
            refine aw_iload_n dX5_sees_35 rfl ?_
            refine aw_iload_n dX5_sees_36 rfl ?_
            refine aw_iconst dX5_sees_37 ?_
            -- at 38: .if_icmp .ne 7
            refine aw_icmp_ne (tgt := 45) dX5_sees_38 (by omega) (by omega) (by decide) (fun c6 => ?_) (fun c6 => ?_)
            · refine aw_iconst dX5_sees_45 ?_
              have e : s = 0 := by omega
              have K := fin [some (aR 1), some (aI N), some (aI m), some (aI s)] rfl
              subst e
              exact K
            · refine aw_iconst dX5_sees_41 ?_
              refine aw_goto (tgt := 46) dX5_sees_42 (by decide) ?_
              have e : s = 1 := by omega
              have K := fin [some (aR 1), some (aI N), some (aI m), some (aI s)] rfl
              subst e
              exact K
          · refine aw_iconst dX5_sees_28 ?_
            -- at 29: .ireturn
            exact aw_iret rfl dX5_sees_29 ⟨rfl, _, rfl, Or.inl ⟨fun z => by have := z.2.2; omega, rfl, rfl⟩⟩
theorem c5_forget (h0 : h 1 = aO 5 (top5 p q)) (H : isWit h l) (hl : okSeen l) : AC mX5_forget (d + 10) 0 0 n h [aR 1] (aqi n fun v h' => v = (l.length : Int) ∧ isWit h' [] ∧ ∀ j, (j < 48 ∨ 51 < j) → h' j = h j) := by
  refine AC.of (by decide) (Nat.le_of_ble_eq_true rfl) ?_
  have hw := H.1
  refine aw_aload_n dX5_forget_0 rfl ?_
  refine aw_get kg_X5_58 (by assumption) (by rfl) dX5_forget_1 ?_
  -- at 4: .invokevirtual 171
  refine aw_Vi0 kc_X5_171 (c_Wit_length (d := d) H) (by assumption) rfl rfl (by omega) (Nat.le_of_ble_eq_true rfl) dX5_forget_4 (fun v h' q => ?_)
  obtain ⟨rfl, rfl⟩ := q
  refine aw_istore_n dX5_forget_7 (by decide) ?_
  refine aw_aload_n dX5_forget_8 rfl ?_
  refine aw_get kg_X5_58 (by assumption) (by rfl) dX5_forget_9 ?_
  -- at 12: .invokevirtual 172
  refine aw_Vv0 kc_X5_172 (c_Wit_wipe (d := d) H) (by assumption) rfl rfl (by omega) (Nat.le_of_ble_eq_true rfl) dX5_forget_12 (fun h2 q => ?_)
  refine aw_iload_n dX5_forget_15 rfl ?_
  -- at 16: .ireturn
  exact aw_iret rfl dX5_forget_16 ⟨rfl, _, rfl, rfl, q.1, fun j hj => q.2 j (by omega)⟩
theorem c5_unseen (h0 : h 1 = aO 5 (top5 p q)) (H : isWit h l) (hl : okSeen l) : AC mX5_unseen (d + 10) 0 0 n h [aR 1] (aqi n fun v h' => v = (unseenS l : Int) ∧ h' = h) := by
  refine AC.of (by decide) (Nat.le_of_ble_eq_true rfl) ?_
  have hw := H.1
  refine aw_aload_n dX5_unseen_0 rfl ?_
  refine aw_get kg_X5_58 (by assumption) (by rfl) dX5_unseen_1 ?_
  -- at 4: .invokevirtual 173
  refine aw_Vi0 kc_X5_173 (c_Wit_suspects (d := d) H hl) (by assumption) rfl rfl (by omega) (Nat.le_of_ble_eq_true rfl) dX5_unseen_4 (fun v h' q => ?_)
  obtain ⟨rfl, rfl⟩ := q
  exact aw_iret rfl dX5_unseen_7 ⟨rfl, _, rfl, rfl, rfl⟩
-- how many bits
set_option maxHeartbeats 4000000 in
theorem c_bitCount {a : Nat} (ha : a < 32) : AC mJ6_bitCount_0f7a4 d 0 0 n h [aI (a : Int)] (aqi n fun v h' => v = (popc a : Int) ∧ h' = h) := by
  refine AC.of (by decide) (Nat.le_of_ble_eq_true rfl) ?_
  refine aw_iload_n dJ6_bitCount_0f7a4_0 rfl ?_
  refine aw_iload_n dJ6_bitCount_0f7a4_1 rfl ?_
  refine aw_iconst dJ6_bitCount_0f7a4_2 ?_
  refine aw_iushr dJ6_bitCount_0f7a4_3 ?_
  refine aw_ldcw ki_J6_265 dJ6_bitCount_0f7a4_4 ?_
  refine aw_iand dJ6_bitCount_0f7a4_7 ?_
  refine aw_isub dJ6_bitCount_0f7a4_8 ?_
  refine aw_istore_n dJ6_bitCount_0f7a4_9 (by decide) ?_
  refine aw_iload_n dJ6_bitCount_0f7a4_10 rfl ?_
  refine aw_ldcw ki_J6_266 dJ6_bitCount_0f7a4_11 ?_
  refine aw_iand dJ6_bitCount_0f7a4_14 ?_
  refine aw_iload_n dJ6_bitCount_0f7a4_15 rfl ?_
  refine aw_iconst dJ6_bitCount_0f7a4_16 ?_
  refine aw_iushr dJ6_bitCount_0f7a4_17 ?_
  refine aw_ldcw ki_J6_266 dJ6_bitCount_0f7a4_18 ?_
  refine aw_iand dJ6_bitCount_0f7a4_21 ?_
  refine aw_iadd dJ6_bitCount_0f7a4_22 ?_
  refine aw_istore_n dJ6_bitCount_0f7a4_23 (by decide) ?_
  refine aw_iload_n dJ6_bitCount_0f7a4_24 rfl ?_
  refine aw_iload_n dJ6_bitCount_0f7a4_25 rfl ?_
  refine aw_iconst dJ6_bitCount_0f7a4_26 ?_
  refine aw_iushr dJ6_bitCount_0f7a4_27 ?_
  refine aw_iadd dJ6_bitCount_0f7a4_28 ?_
  refine aw_ldcw ki_J6_267 dJ6_bitCount_0f7a4_29 ?_
  refine aw_iand dJ6_bitCount_0f7a4_32 ?_
  refine aw_istore_n dJ6_bitCount_0f7a4_33 (by decide) ?_
  refine aw_iload_n dJ6_bitCount_0f7a4_34 rfl ?_
  refine aw_iload_n dJ6_bitCount_0f7a4_35 rfl ?_
  refine aw_bipush dJ6_bitCount_0f7a4_36 (by decide) ?_
  refine aw_iushr dJ6_bitCount_0f7a4_38 ?_
  refine aw_iadd dJ6_bitCount_0f7a4_39 ?_
  refine aw_istore_n dJ6_bitCount_0f7a4_40 (by decide) ?_
  refine aw_iload_n dJ6_bitCount_0f7a4_41 rfl ?_
  refine aw_iload_n dJ6_bitCount_0f7a4_42 rfl ?_
  refine aw_bipush dJ6_bitCount_0f7a4_43 (by decide) ?_
  refine aw_iushr dJ6_bitCount_0f7a4_45 ?_
  refine aw_iadd dJ6_bitCount_0f7a4_46 ?_
  refine aw_istore_n dJ6_bitCount_0f7a4_47 (by decide) ?_
  refine aw_iload_n dJ6_bitCount_0f7a4_48 rfl ?_
  refine aw_bipush dJ6_bitCount_0f7a4_49 (by decide) ?_
  refine aw_iand dJ6_bitCount_0f7a4_51 ?_
  -- at 52: .ireturn
  refine aw_iret rfl dJ6_bitCount_0f7a4_52 ⟨rfl, _, rfl, ?_, rfl⟩
  revert a
  suffices hh : (List.range 32).all (fun a => decide (_ = _)) = true by
    intro a ha
    exact of_decide_eq_true (List.all_eq_true.mp hh a (List.mem_range.mpr ha))
  decide +kernel
theorem gpS_rng (N : Int) {set : Nat} (hs : set < 32) (k : Nat) : 0 ≤ gpS N set k ∧ gpS N set k ≤ (popc set : Int) ∧ gpS N set k ≤ 5 := by
  have h1 := popc_and_le hs (held_lt N (k : Int))
  have h2 := popc_le set
  unfold gpS
  dsimp only
  split <;> omega
theorem gpS_eq (N : Int) {set : Nat} (hs : set < 32) (k : Nat) : gpS N set k = (if ((popc (set &&& held N (k : Int)) : Nat) : Int) < (popc set : Int) - ((popc (set &&& held N (k : Int)) : Nat) : Int) then (popc set : Int) - ((popc (set &&& held N (k : Int)) : Nat) : Int) else ((popc (set &&& held N (k : Int)) : Nat) : Int)) := by
  have h1 := popc_and_le hs (held_lt N (k : Int))
  unfold gpS
  dsimp only
  by_cases q : popc (set &&& held N (k : Int)) < popc set - popc (set &&& held N (k : Int))
  · rw [if_pos q, if_pos (by omega)]
    omega
  · rw [if_neg q, if_neg (by omega)]
theorem bq_loop {N : Int} {set : Nat} {V : Int} (hN : 2 ≤ N ∧ N ≤ 7) (hs : set < 32) :
    ∀ (c k : Nat) (best small : Int) (L6 L7 : Option AV), c + k = 100 → 1 ≤ k → (-10 ≤ small ∧ small ≤ 10) → bqS N set c k best small = V → AW mX5_bestQuestion (am_R (d + 5) 0 0) (am_Z (aqi n fun v h' => v = V ∧ h' = h) 0 0) 0 0 n h 24 [some (aI N), some (aI (set : Int)), some (aI (popc set : Int)), some (aI best), some (aI small), some (aI (k : Int)), L6, L7] [] := by
  intro c
  induction c with
  | zero =>
    intro k best small L6 L7 hk h1 hsm hV
    refine aw_iload dX5_bestQuestion_24 rfl ?_
    refine aw_bipush dX5_bestQuestion_26 (by decide) ?_
    -- at 28: .if_icmp .gt 47
    refine aw_icmp_gt (tgt := 75) dX5_bestQuestion_28 (by omega) (by omega) (by decide) (fun c1 => ?_) (fun c1 => ?_)
    · refine aw_iload_n dX5_bestQuestion_75 rfl ?_
      -- at 76: .ireturn
      exact aw_iret rfl dX5_bestQuestion_76 ⟨rfl, _, rfl, hV, rfl⟩
    · omega
  | succ c ih =>
    intro k best small L6 L7 hk h1 hsm hV
    have hg := gpS_rng N hs k
    have hpl := popc_le set
    have hpa := popc_and_le hs (held_lt N (k : Int))
    rw [bqS] at hV
    refine aw_iload dX5_bestQuestion_24 rfl ?_
    refine aw_bipush dX5_bestQuestion_26 (by decide) ?_
    -- at 28: .if_icmp .gt 47
    refine aw_icmp_gt (tgt := 75) dX5_bestQuestion_28 (by omega) (by omega) (by decide) (fun c1 => ?_) (fun c1 => ?_)
    · omega
    · refine aw_iload_n dX5_bestQuestion_31 rfl ?_
      refine aw_iload_n dX5_bestQuestion_32 rfl ?_
      refine aw_iload dX5_bestQuestion_33 rfl ?_
      -- at 35: .invokestatic 164
      refine aw_Si2 kc_X5_164 (c_splitters (d := d) hN (by omega)) rfl (by omega) (Nat.le_of_ble_eq_true rfl) dX5_bestQuestion_35 (fun v h' q => ?_)
      obtain ⟨rfl, rfl⟩ := q
      refine aw_iand dX5_bestQuestion_38 ?_
      refine aw_val (w := aI ((set &&& held N (k : Int) : Nat) : Int)) (by rw [and32 hs (held_lt _ _)]) ?_
      refine aw_Si1 kc_X5_223 (c_bitCount (d := d) (and_lt32 hs)) rfl (by omega) (Nat.le_of_ble_eq_true rfl) dX5_bestQuestion_39 (fun v h' q => ?_)
      obtain ⟨rfl, rfl⟩ := q
      refine aw_istore dX5_bestQuestion_42 (by decide) ?_
      refine aw_iload dX5_bestQuestion_44 rfl ?_
      refine aw_iload_n dX5_bestQuestion_46 rfl ?_
      refine aw_iload dX5_bestQuestion_47 rfl ?_
      refine aw_isub dX5_bestQuestion_49 ?_
      -- at 50: .invokestatic 108
      refine aw_mmax kc_X5_108 ks_Lib_Math_max_name ti_J9 kd_Lib_Math_max_name (by omega) (by omega) (Nat.le_of_ble_eq_true rfl) (by show 1 ≤ d + 5; omega) (by show 30 ≤ 64 * (d + 5); omega) (Nat.le_refl _) (Nat.le_refl _) dX5_bestQuestion_50 ?_
      refine aw_val (w := aI (gpS N set k)) (by rw [gpS_eq N hs]) ?_
      refine aw_istore dX5_bestQuestion_53 (by decide) ?_
      refine aw_iload dX5_bestQuestion_55 rfl ?_
      refine aw_iload dX5_bestQuestion_57 rfl ?_
      -- at 59: .if_icmp .ge 10
      refine aw_icmp_ge (tgt := 69) dX5_bestQuestion_59 (by omega) (by omega) (by decide) (fun c2 => ?_) (fun c2 => ?_)
      · refine aw_iinc dX5_bestQuestion_69 rfl (by decide) ?_
        refine aw_goto (tgt := 24) dX5_bestQuestion_72 (by decide) ?_
        rw [if_neg (by omega)] at hV
        have K := ih (k + 1) best small (some (aI (popc (set &&& held N (k : Int)) : Int))) (some (aI (gpS N set k))) (by omega) (by omega) hsm hV
        rw [show ((k + 1 : Nat) : Int) = (k : Int) + 1 by omega] at K
        exact K
      · refine aw_iload dX5_bestQuestion_62 rfl ?_
        refine aw_istore dX5_bestQuestion_64 (by decide) ?_
        refine aw_iload dX5_bestQuestion_66 rfl ?_
        refine aw_istore_n dX5_bestQuestion_68 (by decide) ?_
        refine aw_iinc dX5_bestQuestion_69 rfl (by decide) ?_
        refine aw_goto (tgt := 24) dX5_bestQuestion_72 (by decide) ?_
        rw [if_pos (by omega)] at hV
        have K := ih (k + 1) (k : Int) (gpS N set k) (some (aI (popc (set &&& held N (k : Int)) : Int))) (some (aI (gpS N set k))) (by omega) (by omega) (by omega) hV
        rw [show ((k + 1 : Nat) : Int) = (k : Int) + 1 by omega] at K
        exact K
theorem c_bestQuestion {N : Int} {set : Nat} (hN : 2 ≤ N ∧ N ≤ 7) (hs : set < 32) : AC mX5_bestQuestion (d + 5) 0 0 n h [aI N, aI (set : Int)] (aqi n fun v h' => v = askS N set ∧ h' = h) := by
  refine AC.of (by decide) (Nat.le_of_ble_eq_true rfl) ?_
  have hpl := popc_le set
  refine aw_iload_n dX5_bestQuestion_0 rfl ?_
  -- at 1: .invokestatic 223
  refine aw_Si1 kc_X5_223 (c_bitCount (d := d) hs) rfl (by omega) (Nat.le_of_ble_eq_true rfl) dX5_bestQuestion_1 (fun v h' q => ?_)
  obtain ⟨rfl, rfl⟩ := q
  refine aw_istore_n dX5_bestQuestion_4 (by decide) ?_
  refine aw_iload_n dX5_bestQuestion_5 rfl ?_
  refine aw_iconst dX5_bestQuestion_6 ?_
  -- at 7: .if_icmp .gt 6
  refine aw_icmp_gt (tgt := 13) dX5_bestQuestion_7 (by omega) (by omega) (by decide) (fun c1 => ?_) (fun c1 => ?_)
  · refine aw_bipush dX5_bestQuestion_13 (by decide) ?_
    refine aw_istore_n dX5_bestQuestion_15 (by decide) ?_
    refine aw_iload_n dX5_bestQuestion_16 rfl ?_
    refine aw_iconst dX5_bestQuestion_17 ?_
    refine aw_iadd dX5_bestQuestion_18 ?_
    refine aw_istore dX5_bestQuestion_19 (by decide) ?_
    refine aw_iconst dX5_bestQuestion_21 ?_
    refine aw_istore dX5_bestQuestion_22 (by decide) ?_
    have hg := gpS_rng N hs 1
    refine bq_loop hN hs 99 1 (-9) ((popc set : Int) + 1) none none rfl (by omega) (by omega) ?_
    rw [bqS, if_pos (by omega), askS, if_neg (by omega)]
    rfl
  · refine aw_bipush dX5_bestQuestion_10 (by decide) ?_
    -- at 12: .ireturn
    exact aw_iret rfl dX5_bestQuestion_12 ⟨rfl, _, rfl, by rw [askS, if_pos (by omega)], rfl⟩
theorem c5_ask {N : Int} (hN : -2147483648 ≤ N ∧ N ≤ 2147483647) (h0 : h 1 = aO 5 (top5 p q)) (H : isWit h l) (hl : okSeen l) : AC mX5_ask (d + 10) 0 0 n h [aR 1, aI N] (aqi n fun v h' => v = askQ N l ∧ h' = h) := by
  refine AC.of (by decide) (Nat.le_of_ble_eq_true rfl) ?_
  have hw := H.1
  refine aw_iload_n dX5_ask_0 rfl ?_
  -- at 1: .invokestatic 150
  refine aw_Si1 kc_X5_150 (c_isNumerator (d := d) hN) rfl (by omega) (Nat.le_of_ble_eq_true rfl) dX5_ask_1 (fun v h' q => ?_)
  obtain ⟨rfl, rfl⟩ := q
  refine aw_flag_ne (tgt := 9) dX5_ask_4 (by decide) (fun c1 => ?_) (fun c1 => ?_)
  · refine aw_iload_n dX5_ask_9 rfl ?_
    refine aw_aload_n dX5_ask_10 rfl ?_
    refine aw_get kg_X5_58 (by assumption) (by rfl) dX5_ask_11 ?_
    -- at 14: .invokevirtual 173
    refine aw_Vi0 kc_X5_173 (c_Wit_suspects (d := d) H hl) (by assumption) rfl rfl (by omega) (Nat.le_of_ble_eq_true rfl) dX5_ask_14 (fun v h' q => ?_)
    obtain ⟨rfl, rfl⟩ := q
    refine aw_Si2 kc_X5_176 (c_bestQuestion (d := d) c1 (sus_lt l l.length)) rfl (by omega) (Nat.le_of_ble_eq_true rfl) dX5_ask_17 (fun v h' q => ?_)
    obtain ⟨rfl, rfl⟩ := q
    exact aw_iret rfl dX5_ask_20 ⟨rfl, _, rfl, by rw [askQ, if_pos c1], rfl⟩
  · refine aw_iconst dX5_ask_7 ?_
    -- at 8: .ireturn
    exact aw_iret rfl dX5_ask_8 ⟨rfl, _, rfl, by rw [askQ, if_neg c1], rfl⟩
-- the reference
def pop5 (a : Nat) : Nat → Nat
  | 0 => 0
  | k + 1 => pop5 a k + if Nat.testBit a k then 1 else 0
theorem pop5a : (List.range 32).all (fun a => decide (pop5 a 5 = popc a)) = true := by decide +kernel
theorem pop5_eq {a : Nat} (ha : a < 32) : pop5 a 5 = popc a := of_decide_eq_true (List.all_eq_true.mp pop5a a (List.mem_range.mpr ha))
theorem pop5_le (a : Nat) : ∀ k, pop5 a k ≤ k
  | 0 => Nat.le_refl _
  | k + 1 => by
    have := pop5_le a k
    unfold pop5
    split <;> omega
theorem ones_loop {a : Nat} {Z : AZ} (ha : a < 32) (kk : ∀ L, lk L 1 = some (aI (popc a : Int)) → AW mX6_ones (am_R d 0 0) Z 0 0 n h 23 L []) :
    ∀ (e k : Nat), e + k = 5 → AW mX6_ones (am_R d 0 0) Z 0 0 n h 4 [some (aI (a : Int)), some (aI (pop5 a k : Int)), some (aI (k : Int))] [] := by
  intro e
  induction e with
  | zero =>
    intro k hk
    have : k = 5 := by omega
    subst this
    refine aw_iload_n dX6_ones_4 rfl ?_
    refine aw_iconst dX6_ones_5 ?_
    -- at 6: .if_icmp .ge 17
    refine aw_icmp_ge (tgt := 23) dX6_ones_6 (by omega) (by omega) (by decide) (fun c1 => ?_) (fun c1 => ?_)
    · exact kk _ (by rw [← pop5_eq ha]; rfl)
    · omega
  | succ e ih =>
    intro k hk
    have K := ih (k + 1) (by omega)
    rw [show ((k + 1 : Nat) : Int) = (k : Int) + 1 by omega] at K
    refine aw_iload_n dX6_ones_4 rfl ?_
    refine aw_iconst dX6_ones_5 ?_
    -- at 6: .if_icmp .ge 17
    refine aw_icmp_ge (tgt := 23) dX6_ones_6 (by omega) (by omega) (by decide) (fun c1 => ?_) (fun c1 => ?_)
    · omega
    · refine aw_iload_n dX6_ones_9 rfl ?_
      refine aw_iload_n dX6_ones_10 rfl ?_
      refine aw_iload_n dX6_ones_11 rfl ?_
      refine aw_ishr dX6_ones_12 ?_
      refine aw_iconst dX6_ones_13 ?_
      refine aw_iand dX6_ones_14 ?_
      refine aw_val (w := aI (if Nat.testBit a k then 1 else 0)) (by rw [shr5 ha (by omega)]) ?_
      refine aw_iadd dX6_ones_15 ?_
      refine aw_val (w := aI (pop5 a (k + 1) : Int)) (by rw [pop5]; split <;> simp) ?_
      refine aw_istore_n dX6_ones_16 (by decide) ?_
      refine aw_iinc dX6_ones_17 rfl (by decide) ?_
      refine aw_goto (tgt := 4) dX6_ones_20 (by decide) ?_
      exact K
theorem c6_ones {a : Nat} (ha : a < 32) : AC mX6_ones d 0 0 n h [aI (a : Int)] (aqi n fun v h' => v = (popc a : Int) ∧ h' = h) := by
  refine AC.of (by decide) (Nat.le_of_ble_eq_true rfl) ?_
  refine aw_iconst dX6_ones_0 ?_
  refine aw_istore_n dX6_ones_1 (by decide) ?_
  refine aw_iconst dX6_ones_2 ?_
  refine aw_istore_n dX6_ones_3 (by decide) ?_
  exact ones_loop ha (fun L hL => by
    refine aw_iload_n dX6_ones_23 hL ?_
    exact aw_iret rfl dX6_ones_24 ⟨rfl, _, rfl, rfl, rfl⟩) 5 0 rfl
theorem bqS_0 (N : Int) {set : Nat} (hs : set < 32) : ∀ (c k : Nat) (best : Int), bqS N set c k best 0 = best
  | 0, _, _ => rfl
  | c + 1, k, best => by
    have := gpS_rng N hs k
    rw [bqS, if_neg (by omega), bqS_0 N hs c]
theorem bq6_loop {x : Nat} {N : Int} {set : Nat} {V : Int} (hN : 2 ≤ N ∧ N ≤ 7) (hs : set < 32) :
    ∀ (c k : Nat) (best small : Int) (L6 L7 L8 : Option AV), c + k = 100 → 1 ≤ k → (-10 ≤ small ∧ small ≤ 10) → bqS N set c k best small = V → AW mX6_ask (am_R (d + 10) 0 0) (am_Z (aqi n fun v h' => v = V ∧ h' = h) 0 0) 0 0 n h 43 [some (aR x), some (aI N), some (aI (set : Int)), some (aI best), some (aI small), some (aI (k : Int)), L6, L7, L8] [] := by
  intro c
  induction c with
  | zero =>
    intro k best small L6 L7 L8 hk h1 hsm hV
    refine aw_iload dX6_ask_43 rfl ?_
    refine aw_bipush dX6_ask_45 (by decide) ?_
    -- at 47: .if_icmp .ge 77
    refine aw_icmp_ge (tgt := 124) dX6_ask_47 (by omega) (by omega) (by decide) (fun c1 => ?_) (fun c1 => ?_)
    · refine aw_iload_n dX6_ask_124 rfl ?_
      -- at 125: .ireturn
      exact aw_iret rfl dX6_ask_125 ⟨rfl, _, rfl, hV, rfl⟩
    · omega
  | succ c ih =>
    intro k best small L6 L7 L8 hk h1 hsm hV
    have hg := gpS_rng N hs k
    have hpl := popc_le set
    have hpa := popc_and_le hs (held_lt N (k : Int))
    rw [bqS] at hV
    refine aw_iload dX6_ask_43 rfl ?_
    refine aw_bipush dX6_ask_45 (by decide) ?_
    -- at 47: .if_icmp .ge 77
    refine aw_icmp_ge (tgt := 124) dX6_ask_47 (by omega) (by omega) (by decide) (fun c1 => ?_) (fun c1 => ?_)
    · omega
    · refine aw_iload_n dX6_ask_50 rfl ?_
      refine aw_iload_n dX6_ask_51 rfl ?_
      refine aw_iload dX6_ask_52 rfl ?_
      -- at 54: .invokestatic 197
      refine aw_Si2 kc_X6_197 (c_held (d := d) hN (by omega)) rfl (by omega) (Nat.le_of_ble_eq_true rfl) dX6_ask_54 (fun v h' q => ?_)
      obtain ⟨rfl, rfl⟩ := q
      refine aw_iand dX6_ask_57 ?_
      refine aw_val (w := aI ((set &&& held N (k : Int) : Nat) : Int)) (by rw [and32 hs (held_lt _ _)]) ?_
      refine aw_Si1 kc_X6_207 (c6_ones (d := d) (and_lt32 hs)) rfl (by omega) (Nat.le_of_ble_eq_true rfl) dX6_ask_58 (fun v h' q => ?_)
      obtain ⟨rfl, rfl⟩ := q
      refine aw_istore dX6_ask_61 (by decide) ?_
      refine aw_iload_n dX6_ask_63 rfl ?_
      -- at 64: .invokestatic 207
      refine aw_Si1 kc_X6_207 (c6_ones (d := d) hs) rfl (by omega) (Nat.le_of_ble_eq_true rfl) dX6_ask_64 (fun v h' q => ?_)
      obtain ⟨rfl, rfl⟩ := q
      have e8 := gpS_eq N hs k
      have fin : ∀ L6 L7, AW mX6_ask (am_R (d + 10) 0 0) (am_Z (aqi n fun v h'' => v = V ∧ h'' = h') 0 0) 0 0 n h' 88 [some (aR x), some (aI N), some (aI (set : Int)), some (aI best), some (aI small), some (aI (k : Int)), L6, L7, some (aI (gpS N set k))] [] := by
        intro L6 L7
        refine aw_iload dX6_ask_88 rfl ?_
        refine aw_iload dX6_ask_90 rfl ?_
        -- at 92: .if_icmp .ge 8
        refine aw_icmp_ge (tgt := 100) dX6_ask_92 (by omega) (by omega) (by decide) (fun c2 => ?_) (fun c2 => ?_)
        · refine aw_iload_n dX6_ask_100 rfl ?_
          refine aw_istore_n dX6_ask_101 (by decide) ?_
          refine aw_iload dX6_ask_102 rfl ?_
          refine aw_iload dX6_ask_104 rfl ?_
          refine aw_icmp_ge (tgt := 114) dX6_ask_106 (by omega) (by omega) (by decide) (fun c3 => ?_) (fun c3 => ?_)
          · refine aw_iload dX6_ask_114 rfl ?_
            refine aw_istore dX6_ask_116 (by decide) ?_
            refine aw_iinc dX6_ask_118 rfl (by decide) ?_
            refine aw_goto (tgt := 43) dX6_ask_121 (by decide) ?_
            rw [if_neg (by omega)] at hV
            have K := ih (k + 1) best small L6 L7 (some (aI (gpS N set k))) (by omega) (by omega) hsm hV
            rw [show ((k + 1 : Nat) : Int) = (k : Int) + 1 by omega] at K
            exact K
          · omega
        · refine aw_iload dX6_ask_95 rfl ?_
          refine aw_goto (tgt := 101) dX6_ask_97 (by decide) ?_
          refine aw_istore_n dX6_ask_101 (by decide) ?_
          refine aw_iload dX6_ask_102 rfl ?_
          refine aw_iload dX6_ask_104 rfl ?_
          refine aw_icmp_ge (tgt := 114) dX6_ask_106 (by omega) (by omega) (by decide) (fun c3 => ?_) (fun c3 => ?_)
          · omega
          · refine aw_iload dX6_ask_109 rfl ?_
            refine aw_goto (tgt := 116) dX6_ask_111 (by decide) ?_
            refine aw_istore dX6_ask_116 (by decide) ?_
            refine aw_iinc dX6_ask_118 rfl (by decide) ?_
            refine aw_goto (tgt := 43) dX6_ask_121 (by decide) ?_
            rw [if_pos (by omega)] at hV
            have K := ih (k + 1) (k : Int) (gpS N set k) L6 L7 (some (aI (gpS N set k))) (by omega) (by omega) (by omega) hV
            rw [show ((k + 1 : Nat) : Int) = (k : Int) + 1 by omega] at K
            exact K
      refine aw_iload dX6_ask_67 rfl ?_
      refine aw_isub dX6_ask_69 ?_
      refine aw_istore dX6_ask_70 (by decide) ?_
      refine aw_iload dX6_ask_72 rfl ?_
      refine aw_iload dX6_ask_74 rfl ?_
      -- at 76: .if_icmp .le 8
      refine aw_icmp_le (tgt := 84) dX6_ask_76 (by omega) (by omega) (by decide) (fun c2 => ?_) (fun c2 => ?_)
      · refine aw_iload dX6_ask_84 rfl ?_
        refine aw_val (w := aI (gpS N set k)) ?_ ?_
        · rw [e8]
          by_cases z : ((popc (set &&& held N (k : Int)) : Nat) : Int) < (popc set : Int) - ((popc (set &&& held N (k : Int)) : Nat) : Int)
          · rw [if_pos z]
          · rw [if_neg z]
            congr 1
            omega
        · refine aw_istore dX6_ask_86 (by decide) ?_
          exact fin _ _
      · refine aw_iload dX6_ask_79 rfl ?_
        refine aw_goto (tgt := 86) dX6_ask_81 (by decide) ?_
        refine aw_val (w := aI (gpS N set k)) (by rw [e8, if_neg (by omega)]) ?_
        refine aw_istore dX6_ask_86 (by decide) ?_
        exact fin _ _
theorem c6_ask {N : Int} {u p q lt e1 e2 e3 e4 e5 e6 e7 e8 : Int} (hN : -2147483648 ≤ N ∧ N ≤ 2147483647) (h1 : h 52 = aO 6 (mdl u p q (l.length : Int) lt e1 e2 e3 e4 e5 e6 e7 e8)) (H : isSn h l) (hl : okSeen l) : AC mX6_ask (d + 10) 0 0 n h [aR 52, aI N] (aqi n fun v h' => v = askQ N l ∧ h' = h) := by
  refine AC.of (by decide) (Nat.le_of_ble_eq_true rfl) ?_
  have hs := sus_lt l l.length
  have hpl := popc_le (unseenS l)
  refine aw_iload_n dX6_ask_0 rfl ?_
  refine aw_i2l dX6_ask_1 (by omega) ?_
  refine aw_ldc2 kl_X6_126 dX6_ask_2 ?_
  refine aw_ldc2 kl_X6_193 dX6_ask_5 ?_
  -- at 8: .invokestatic 66
  refine aw_Si3 kc_X6_66 (c_in (d := d) hN (by decide) (by decide)) rfl (by omega) (Nat.le_of_ble_eq_true rfl) dX6_ask_8 (fun v h' q => ?_)
  obtain ⟨rfl, rfl⟩ := q
  refine aw_flag_ne (tgt := 16) dX6_ask_11 (by decide) (fun c1 => ?_) (fun c1 => ?_)
  · refine aw_aload_n dX6_ask_16 rfl ?_
    -- at 17: .invokevirtual 204
    refine aw_Vi0 kc_X6_204 (c6_unseen (d := d) h1 H hl) (by assumption) rfl rfl (by omega) (Nat.le_of_ble_eq_true rfl) dX6_ask_17 (fun v h' q => ?_)
    obtain ⟨rfl, rfl⟩ := q
    refine aw_istore_n dX6_ask_20 (by decide) ?_
    refine aw_bipush dX6_ask_21 (by decide) ?_
    refine aw_istore_n dX6_ask_23 (by decide) ?_
    refine aw_iload_n dX6_ask_24 rfl ?_
    -- at 25: .invokestatic 207
    refine aw_Si1 kc_X6_207 (c6_ones (d := d) hs) rfl (by omega) (Nat.le_of_ble_eq_true rfl) dX6_ask_25 (fun v h' q => ?_)
    obtain ⟨rfl, rfl⟩ := q
    refine aw_iconst dX6_ask_28 ?_
    -- at 29: .if_icmp .le 8
    refine aw_icmp_le (tgt := 37) dX6_ask_29 (by omega) (by omega) (by decide) (fun c2 => ?_) (fun c2 => ?_)
    · refine aw_iconst dX6_ask_37 ?_
      refine aw_istore dX6_ask_38 (by decide) ?_
      refine aw_iconst dX6_ask_40 ?_
      refine aw_istore dX6_ask_41 (by decide) ?_
      refine bq6_loop c1 hs 99 1 (-9) 0 none none none rfl (by omega) (by omega) ?_
      rw [bqS_0 N hs, askQ, if_pos c1, askS, if_pos (by omega)]
    · refine aw_bipush dX6_ask_32 (by decide) ?_
      refine aw_goto (tgt := 38) dX6_ask_34 (by decide) ?_
      refine aw_istore dX6_ask_38 (by decide) ?_
      refine aw_iconst dX6_ask_40 ?_
      refine aw_istore dX6_ask_41 (by decide) ?_
      have hg := gpS_rng N hs 1
      refine bq6_loop c1 hs 99 1 (-9) 6 none none none rfl (by omega) (by omega) ?_
      rw [bqS, if_pos (by omega), askQ, if_pos c1, askS, if_neg (by omega)]
      rfl
  · refine aw_iconst dX6_ask_14 ?_
    -- at 15: .ireturn
    exact aw_iret rfl dX6_ask_15 ⟨rfl, _, rfl, by rw [askQ, if_neg c1], rfl⟩
end Ask
