/-! the finder: all sums of so many, packed -/
def pkN : Nat → List Int → Nat
  | pk, [] => pk
  | pk, x :: l => pkN (pk * 64 + x.toNat) l
abbrev pkI (pk : Nat) (l : List Int) : Int := ((pkN pk l : Nat) : Int)
theorem va_up_up {A : Type} (f : Nat → A) (i : Nat) (x y : A) : va_up (va_up f i x) i y = va_up f i y := by
  funext j
  by_cases z : j = i
  · subst z; rw [va_up_s, va_up_s]
  · rw [va_up_n _ _ _ z, va_up_n _ _ _ z, va_up_n _ _ _ z]
def inF (h : AH) (am : Nat → Int) (p q : Int) (N : Nat) (L : List Int) : Prop := h 38 = aO 0 [aI p, aI q, aR 39, aR 46, aR 47] ∧ (∃ g, h 39 = aQ 5 6 g ∧ ∀ i, i < 6 → g i = some (40 + i)) ∧ (∃ f, h (40 + N) = aA 0 128 f ∧ ∀ i, i < L.length → f i = L.getD i 0) ∧ h 46 = aA 0 6 (va_up am N (L.length : Int))
theorem smL_at {F : Nat → List (List Int)} {y : Nat} : ∀ (c x : Nat), x ≤ y → y < x + c → (∀ z, x ≤ z → z < x + c → z ≠ y → F z = []) → smL F c x = F y
  | 0, _, h1, h2, _ => by omega
  | c + 1, x, h1, h2, h => by
    rw [smL]
    by_cases e : x = y
    · subst e
      rw [smL_nil c (x + 1) (fun z z1 z2 => h z (by omega) (by omega) (by omega)), List.append_nil]
    · rw [h x (by omega) (by omega) e, smL_at c (x + 1) (by omega) (by omega) (fun z z1 z2 z3 => h z (by omega) (by omega) z3)]
      rfl
theorem sm_one {lo : Nat} {a b : Int} (ha : 1 ≤ a) (hb : 1 ≤ b) : sm 60 1 lo a b = if b % a = 0 ∧ (lo : Int) + 1 ≤ b / a ∧ b / a ≤ 60 then [[b / a]] else [] := by
  have hF : ∀ x : Nat, smF 60 0 a b x = if a * (x : Int) = b then [[(x : Int)]] else [] := by
    intro x
    rw [smF, sm]
    by_cases e : a * (x : Int) = b
    · rw [if_pos (by omega), if_pos e]; rfl
    · rw [if_neg (by omega), if_neg e]; rfl
  have hx : ∀ x : Nat, a * (x : Int) = b → b % a = 0 ∧ b / a = (x : Int) := by
    intro x e
    rw [← e]
    exact ⟨Int.mul_emod_right a x, Int.mul_ediv_cancel_left _ (by omega)⟩
  rw [sm_succ]
  by_cases z : b % a = 0 ∧ (lo : Int) + 1 ≤ b / a ∧ b / a ≤ 60
  · rw [if_pos z]
    have e := Int.mul_ediv_add_emod b a
    rw [z.1] at e
    have ey : ((b / a).toNat : Int) = b / a := by omega
    rw [smL_at (y := (b / a).toNat) _ _ (by omega) (by omega) (fun w w1 w2 w3 => ?_), hF, ey, if_pos (by omega)]
    rw [hF, if_neg (fun q => w3 ?_)]
    have := (hx w q).2
    omega
  · rw [if_neg z]
    refine smL_nil _ _ (fun w w1 w2 => ?_)
    rw [hF, if_neg (fun q => z ?_)]
    obtain ⟨q1, q2⟩ := hx w q
    omega
section Finder
variable {d n : Nat} {p q : Int} {am : Nat → Int} {N : Nat}
theorem c_greatest {h : AH} {a : Nat} (ha : a < 2147483648) : AC mX0_greatest d 0 0 n h [aI (a : Int)] (aqi n fun v h' => v = ((a % 64 : Nat) : Int) ∧ h' = h) := by
  refine AC.of (by decide) (Nat.le_of_ble_eq_true rfl) ?_
  refine aw_iload_n dX0_greatest_0 rfl ?_
  refine aw_bipush dX0_greatest_1 (by decide) ?_
  refine aw_iand dX0_greatest_3 ?_
  -- at 4: .ireturn
  exact aw_iret rfl dX0_greatest_4 ⟨rfl, _, rfl, and63 ha, rfl⟩
theorem c_end {h : AH} {L : List Int} {pk : Nat} {a b : Int} (hN : 1 ≤ N ∧ N ≤ 5) (hF : inF h am p q N L) (hpk : pk < 33554432) (ha : 1 ≤ a ∧ a ≤ 76982400000) (hb : 1 ≤ b ∧ b ≤ 76982400000) (hL : L.length + (sm 60 1 (pk % 64) a b).length ≤ 128) :
    AC mX0_end d 0 0 n h [aR 38, aI (N : Int), aI (pk : Int), aI ((pk % 64 : Nat) + 1 : Int), aL a, aL b] (aqv n fun h' => inF h' am p q N (L ++ (sm 60 1 (pk % 64) a b).map (pkI pk)) ∧ ∀ j, j ≠ 40 + N → j ≠ 46 → h' j = h j) := by
  refine AC.of (by decide) (Nat.le_of_ble_eq_true rfl) ?_
  have hs := sm_one (lo := pk % 64) ha.1 hb.1
  have hm1 := Int.emod_nonneg b (show a ≠ 0 by omega)
  have hm2 := Int.emod_lt_of_pos b (show 0 < a by omega)
  have hd1 : 0 ≤ b / a := Int.ediv_nonneg (by omega) (by omega)
  have hd2 : b / a ≤ b := Int.ediv_le_self a (by omega)
  obtain ⟨f1, ⟨g, f2, f2'⟩, ⟨ff, f3, f3'⟩, f4⟩ := hF
  have none : ∀ L' pc, decode mX0_end.2.1 pc = .ok (.return_, 1) → ¬ (b % a = 0 ∧ ((pk % 64 : Nat) : Int) + 1 ≤ b / a ∧ b / a ≤ 60) → AW mX0_end (am_R d 0 0) (am_Z (aqv n fun h' => inF h' am p q N (L ++ (sm 60 1 (pk % 64) a b).map (pkI pk)) ∧ ∀ j, j ≠ 40 + N → j ≠ 46 → h' j = h j) 0 0) 0 0 n h pc L' [] := by
    intro L' pc hd z
    rw [if_neg z] at hs
    rw [hs]
    exact aw_vret rfl hd ⟨rfl, rfl, by rw [List.map_nil, List.append_nil]; exact ⟨f1, ⟨g, f2, f2'⟩, ⟨ff, f3, f3'⟩, f4⟩, fun _ _ _ => rfl⟩
  refine aw_lload dX0_end_0 rfl ?_
  refine aw_lconst (a := 0) dX0_end_2 (by decide) ?_
  -- at 3: .lcmp
  refine aw_lcmp_le (tgt := 29) dX0_end_3 dX0_end_4 (by omega) (by omega) (by decide) (fun c1 => ?_) (fun c1 => ?_)
  · omega
  · refine aw_lload dX0_end_7 rfl ?_
    refine aw_lload dX0_end_9 rfl ?_
    refine aw_lrem dX0_end_11 (by omega) (by omega) ?_
    refine aw_lconst (a := 0) dX0_end_12 (by decide) ?_
    -- at 13: .lcmp
    refine aw_lcmp_ne (tgt := 29) dX0_end_13 dX0_end_14 (by omega) (by omega) (by decide) (fun c2 => ?_) (fun c2 => ?_)
    · exact none _ 29 dX0_end_29 (by omega)
    · refine aw_aload_n dX0_end_17 rfl ?_
      refine aw_get kg_X0_23 (by assumption) (by rfl) dX0_end_18 ?_
      refine aw_iload_n dX0_end_21 rfl ?_
      refine aw_iald (by assumption) (by omega) dX0_end_22 ?_
      refine aw_val (w := aI (L.length : Int)) (by rw [Int.toNat_natCast, va_up_s]) ?_
      refine aw_sipush dX0_end_23 (by decide) ?_
      -- at 26: .if_icmp .lt 4
      refine aw_icmp_lt (tgt := 30) dX0_end_26 (by omega) (by omega) (by decide) (fun c3 => ?_) (fun c3 => ?_)
      rotate_left
      · refine none _ 29 dX0_end_29 (fun z => ?_)
        rw [if_pos z] at hs
        rw [hs] at hL
        simp at hL
        omega
      · refine aw_lload dX0_end_30 rfl ?_
        refine aw_lload dX0_end_32 rfl ?_
        refine aw_ldiv dX0_end_34 (by omega) (by omega) ?_
        refine aw_lstore dX0_end_35 (by decide) ?_
        refine aw_lload dX0_end_37 rfl ?_
        refine aw_iload_n dX0_end_39 rfl ?_
        refine aw_i2l dX0_end_40 (by omega) ?_
        -- at 41: .lcmp
        refine aw_lcmp_lt (tgt := 85) dX0_end_41 dX0_end_42 (by omega) (by omega) (by decide) (fun c4 => ?_) (fun c4 => ?_)
        · exact none _ 85 dX0_end_85 (by omega)
        · refine aw_lload dX0_end_45 rfl ?_
          refine aw_ldc2 kl_X0_79 dX0_end_47 ?_
          -- at 50: .lcmp
          refine aw_lcmp_gt (tgt := 85) dX0_end_50 dX0_end_51 (by omega) (by omega) (by decide) (fun c5 => ?_) (fun c5 => ?_)
          · exact none _ 85 dX0_end_85 (by omega)
          · have z : b % a = 0 ∧ ((pk % 64 : Nat) : Int) + 1 ≤ b / a ∧ b / a ≤ 60 := by omega
            rw [if_pos z] at hs
            obtain ⟨x, hx⟩ : ∃ x : Nat, b / a = (x : Int) := ⟨(b / a).toNat, by omega⟩
            rw [hx] at hs c4 c5 z ⊢
            refine aw_aload_n dX0_end_54 rfl ?_
            refine aw_get kg_X0_20 (by assumption) (by rfl) dX0_end_55 ?_
            refine aw_iload_n dX0_end_58 rfl ?_
            -- at 59: .aaload
            refine aw_aaldA f2 (by omega) (f2' _ (by omega)) dX0_end_59 ?_
            rw [Int.toNat_natCast]
            refine aw_aload_n dX0_end_60 rfl ?_
            refine aw_get kg_X0_23 (by assumption) (by rfl) dX0_end_61 ?_
            refine aw_iload_n dX0_end_64 rfl ?_
            refine aw_iald (by assumption) (by omega) dX0_end_65 ?_
            refine aw_val (w := aI (L.length : Int)) (by rw [Int.toNat_natCast, va_up_s]) ?_
            refine aw_iload_n dX0_end_66 rfl ?_
            refine aw_bipush dX0_end_67 (by decide) ?_
            refine aw_ishl dX0_end_69 ?_
            refine aw_val (w := aI ((pk * 64 : Nat) : Int)) (by rw [shl6 hpk]) ?_
            refine aw_lload dX0_end_70 rfl ?_
            refine aw_l2i dX0_end_72 ?_
            refine aw_ior dX0_end_73 ?_
            refine aw_val (w := aI ((pk * 64 + x : Nat) : Int)) (by rw [or6 hpk (by omega)]) ?_
            refine aw_iastO (by assumption) (by omega) dX0_end_74 (fun h1 b1 fr1 => ?_)
            have f1 := (fr1 38 (by omega)).trans f1
            have f4 := (fr1 46 (by omega)).trans f4
            refine aw_aload_n dX0_end_75 rfl ?_
            refine aw_get kg_X0_23 (by assumption) (by rfl) dX0_end_76 ?_
            refine aw_iload_n dX0_end_79 rfl ?_
            refine aw_dup2 dX0_end_80 rfl rfl ?_
            refine aw_iald (by assumption) (by omega) dX0_end_81 ?_
            refine aw_iconst dX0_end_82 ?_
            refine aw_iadd dX0_end_83 ?_
            refine aw_iastO (by assumption) (by omega) dX0_end_84 (fun h2 b2 fr2 => ?_)
            refine aw_vret rfl dX0_end_85 ⟨rfl, rfl, ⟨(fr2 38 (by omega)).trans f1, ⟨g, (fr2 39 (by omega)).trans ((fr1 39 (by omega)).trans f2), f2'⟩, ⟨_, (fr2 (40 + N) (by omega)).trans b1, fun i hi => ?_⟩, ?_⟩, fun j j1 j2 => (fr2 j j2).trans (fr1 j j1)⟩
            · rw [hs]
              rw [hs] at hi
              simp at hi
              rw [Int.toNat_natCast, List.map_singleton, gd_app]
              by_cases y : i < L.length
              · rw [if_pos y, va_up_n _ _ _ (by omega)]; exact f3' i y
              · have e : i = L.length := by omega
                rw [if_neg y, if_pos e, e, va_up_s]
                rfl
            · rw [b2, hs, Int.toNat_natCast, va_up_s, va_up_up]
              simp
/-- the rest of a sum, whatever its first number -/
theorem c_extend : ∀ (left : Nat) (h : AH) (L : List Int) (pk : Nat) (a b M : Int), 1 ≤ N ∧ N ≤ 5 → left < 5 → inF h am p q N L → (pk + 1) * 64 ^ (left + 1) ≤ 1073741824 → -M ≤ a ∧ a ≤ M → 1 ≤ b ∧ b ≤ M → M * (60 ^ left : Nat) ≤ 1283040000 → L.length + (sm 60 (left + 1) (pk % 64) a b).length ≤ 128 →
    AC mX0_extend (d + left + 1) 0 0 n h [aR 38, aI (N : Int), aI ((left + 1 : Nat) : Int), aI (pk : Int), aL a, aL b] (aqv n fun h' => inF h' am p q N (L ++ (sm 60 (left + 1) (pk % 64) a b).map (pkI pk)) ∧ ∀ j, j ≠ 40 + N → j ≠ 46 → h' j = h j) := by
  intro left
  induction left with
  | zero =>
    intro h L pk a b M hN h5 hF hpk ha hb hM hL
    refine AC.of (by decide) (Nat.le_of_ble_eq_true rfl) ?_
    have f1 := hF.1
    refine aw_lload dX0_extend_0 rfl ?_
    refine aw_lconst (a := 0) dX0_extend_2 (by decide) ?_
    -- at 3: .lcmp
    refine aw_lcmp_gt (tgt := 8) dX0_extend_3 dX0_extend_4 (by omega) (by omega) (by decide) (fun c1 => ?_) (fun c1 => ?_)
    rotate_left
    · refine aw_vret rfl dX0_extend_7 ⟨rfl, rfl, ?_, fun _ _ _ => rfl⟩
      rw [sm_zero 0 _ b hb.1 (by omega), List.map_nil, List.append_nil]
      exact hF
    · refine aw_iload_n dX0_extend_8 rfl ?_
      -- at 9: .invokestatic 35
      refine aw_Si1 kc_X0_35 (c_greatest (d := d) (by omega)) rfl (by omega) (Nat.le_of_ble_eq_true rfl) dX0_extend_9 (fun v h' q1 => ?_)
      obtain ⟨rfl, rfl⟩ := q1
      refine aw_iconst dX0_extend_12 ?_
      refine aw_iadd dX0_extend_13 ?_
      refine aw_istore dX0_extend_14 (by decide) ?_
      refine aw_iload_n dX0_extend_16 rfl ?_
      refine aw_iconst dX0_extend_17 ?_
      -- at 18: .if_icmp .gt 16
      refine aw_icmp_gt (tgt := 34) dX0_extend_18 (by omega) (by omega) (by decide) (fun c2 => ?_) (fun c2 => ?_)
      · omega
      · refine aw_aload_n dX0_extend_21 rfl ?_
        refine aw_iload_n dX0_extend_22 rfl ?_
        refine aw_iload_n dX0_extend_23 rfl ?_
        refine aw_iload dX0_extend_24 rfl ?_
        refine aw_lload dX0_extend_26 rfl ?_
        refine aw_lload dX0_extend_28 rfl ?_
        -- at 30: .invokevirtual 69
        refine aw_Vv5 kc_X0_69 (c_end (d := d) hN hF (by omega) (by omega) (by omega) hL) (by assumption) rfl rfl (by omega) (Nat.le_of_ble_eq_true rfl) dX0_extend_30 (fun h1 q1 => ?_)
        exact aw_vret rfl dX0_extend_33 ⟨rfl, rfl, q1⟩
  | succ left ih =>
    intro h L pk a b M hN h5 hF hpk ha hb hM hL
    refine AC.of (by decide) (Nat.le_of_ble_eq_true rfl) ?_
    have f1 := hF.1
    have p60 : (1 : Int) ≤ ((60 ^ left : Nat) : Int) := by
      have := Nat.pow_pos (n := left) (show 0 < 60 by decide)
      omega
    have hM1 : 1 ≤ M := by omega
    have hM' : (M * 60) * ((60 ^ left : Nat) : Int) ≤ 1283040000 := by
      rw [Nat.pow_succ, Int.natCast_mul, ← Int.mul_assoc, Int.mul_right_comm] at hM
      exact hM
    have hMM : M * 60 ≤ 1283040000 := by
      have := Int.mul_le_mul_of_nonneg_left p60 (show 0 ≤ M * 60 by omega)
      omega
    have hpk4 : pk < 33554432 := by
      have h2 : 64 * 1 ≤ 64 * 64 ^ (left + 1) := Nat.mul_le_mul_left 64 (Nat.pow_pos (by decide))
      have h3 : (pk + 1) * 64 ≤ (pk + 1) * 64 ^ (left + 1 + 1) := Nat.mul_le_mul_left _ (by rw [Nat.pow_succ, Nat.mul_comm]; omega)
      omega
    obtain ⟨T, hT⟩ : ∃ T : Int, ((left + 1 + 1 : Nat) : Int) * b = T := ⟨_, rfl⟩
    have hTr : 0 ≤ T ∧ T ≤ 6 * M := by
      rw [← hT]
      exact ⟨Int.mul_nonneg (by omega) (by omega), Int.mul_le_mul (by omega) hb.2 (by omega) (by omega)⟩
    have hT2 : ((left : Int) + 2) * b = T := by rw [← hT]; congr 1
    refine aw_lload dX0_extend_0 rfl ?_
    refine aw_lconst (a := 0) dX0_extend_2 (by decide) ?_
    -- at 3: .lcmp
    refine aw_lcmp_gt (tgt := 8) dX0_extend_3 dX0_extend_4 (by omega) (by omega) (by decide) (fun c1 => ?_) (fun c1 => ?_)
    rotate_left
    · refine aw_vret rfl dX0_extend_7 ⟨rfl, rfl, ?_, fun _ _ _ => rfl⟩
      rw [sm_zero (left + 1) _ b hb.1 (by omega), List.map_nil, List.append_nil]
      exact hF
    · have loop : ∀ (c x : Nat) (h1 : AH) (L1 : List Int) (L9 L13 : Option AV), x + c = 61 → 1 ≤ x → inF h1 am p q N L1 → L1.length + (smL (smF 60 (left + 1) a b) c x).length ≤ 128 → (∀ j, j ≠ 40 + N → j ≠ 46 → h1 j = h j) → L1 ++ (smL (smF 60 (left + 1) a b) c x).map (pkI pk) = L ++ (sm 60 (left + 1 + 1) (pk % 64) a b).map (pkI pk) →
          AW mX0_extend (am_R (d + (left + 1) + 1) 0 0) (am_Z (aqv n fun h' => inF h' am p q N (L ++ (sm 60 (left + 1 + 1) (pk % 64) a b).map (pkI pk)) ∧ ∀ j, j ≠ 40 + N → j ≠ 46 → h' j = h j) 0 0) 0 0 n h1 53 [some (aR 38), some (aI (N : Int)), some (aI ((left + 1 + 1 : Nat) : Int)), some (aI (pk : Int)), some (aL a), none, some (aL b), none, some (aI (((pk % 64 : Nat) : Int) + 1)), L9, none, some (aL (x : Int)), none, L13, none] [] := by
        intro c
        induction c with
        | zero =>
          intro x h1 L1 L9 L13 hx hx1 hF1 hL1 hfr hres
          refine aw_lload dX0_extend_53 rfl ?_
          refine aw_ldc2 kl_X0_79 dX0_extend_55 ?_
          -- at 58: .lcmp
          refine aw_lcmp_gt (tgt := 139) dX0_extend_58 dX0_extend_59 (by omega) (by omega) (by decide) (fun c2 => ?_) (fun c2 => ?_)
          · refine aw_vret rfl dX0_extend_139 ⟨rfl, rfl, ?_, hfr⟩
            rw [← hres, smL, List.map_nil, List.append_nil]
            exact hF1
          · omega
        | succ c ihc =>
          intro x h1 L1 L9 L13 hx hx1 hF1 hL1 hfr hres
          have f1 := hF1.1
          obtain ⟨X, hX⟩ : ∃ X : Int, X = a * (x : Int) := ⟨_, rfl⟩
          obtain ⟨Y, hY⟩ : ∃ Y : Int, Y = b * (x : Int) := ⟨_, rfl⟩
          obtain ⟨U, hU⟩ : ∃ U : Int, U = ((left + 1 : Nat) : Int) * Y := ⟨_, rfl⟩
          have rX : 0 ≤ X ∧ X ≤ M * 60 := by
            rw [hX]
            exact ⟨Int.mul_nonneg (by omega) (by omega), Int.mul_le_mul ha.2 (by omega) (by omega) (by omega)⟩
          have rY : 1 ≤ Y ∧ Y ≤ M * 60 := by
            rw [hY]
            have := Int.mul_le_mul hb.1 (show (1 : Int) ≤ x by omega) (by omega) (by omega)
            exact ⟨by omega, Int.mul_le_mul hb.2 (by omega) (by omega) (by omega)⟩
          have rU : 0 ≤ U ∧ U ≤ 5 * (M * 60) := by
            rw [hU]
            exact ⟨Int.mul_nonneg (by omega) (by omega), Int.mul_le_mul (by omega) rY.2 (by omega) (by omega)⟩
          rw [smL] at hL1 hres
          refine aw_lload dX0_extend_53 rfl ?_
          refine aw_ldc2 kl_X0_79 dX0_extend_55 ?_
          -- at 58: .lcmp
          refine aw_lcmp_gt (tgt := 139) dX0_extend_58 dX0_extend_59 (by omega) (by omega) (by decide) (fun c2 => ?_) (fun c2 => ?_)
          · omega
          · refine aw_lload dX0_extend_62 rfl ?_
            refine aw_lload dX0_extend_64 rfl ?_
            refine aw_lmul dX0_extend_66 ?_
            refine aw_val (w := aL X) (by rw [hX, Int.mul_comm]) ?_
            refine aw_iload_n dX0_extend_67 rfl ?_
            refine aw_i2l dX0_extend_68 (by omega) ?_
            refine aw_lload dX0_extend_69 rfl ?_
            refine aw_lmul dX0_extend_71 ?_
            refine aw_val (w := aL T) (by rw [← hT]) ?_
            refine aw_lcmp_lt (tgt := 77) dX0_extend_72 dX0_extend_73 (by omega) (by omega) (by decide) (fun c3 => ?_) (fun c3 => ?_)
            rotate_left
            · refine aw_vret rfl dX0_extend_76 ⟨rfl, rfl, ?_, hfr⟩
              have z : smL (smF 60 (left + 1) a b) (c + 1) x = [] := by
                refine smL_nil _ _ (fun y y1 y2 => smF_great hb.1 (by omega) ?_)
                have := Int.mul_le_mul_of_nonneg_left (show (x : Int) ≤ y by omega) (show 0 ≤ a by omega)
                rw [hT2]; omega
              rw [smL] at z
              rw [← hres, z, List.map_nil, List.append_nil]
              exact hF1
            · refine aw_lload dX0_extend_77 rfl ?_
              refine aw_lload dX0_extend_79 rfl ?_
              refine aw_lmul dX0_extend_81 ?_
              refine aw_val (w := aL X) (by rw [hX, Int.mul_comm]) ?_
              refine aw_lload dX0_extend_82 rfl ?_
              refine aw_lsub dX0_extend_84 ?_
              refine aw_lstore dX0_extend_85 (by decide) ?_
              refine aw_lload dX0_extend_87 rfl ?_
              refine aw_ldc2 kl_X0_79 dX0_extend_89 ?_
              refine aw_lmul dX0_extend_92 ?_
              refine aw_iload_n dX0_extend_93 rfl ?_
              refine aw_iconst dX0_extend_94 ?_
              refine aw_isub dX0_extend_95 ?_
              refine aw_i2l dX0_extend_96 (by omega) ?_
              refine aw_lload dX0_extend_97 rfl ?_
              refine aw_lmul dX0_extend_99 ?_
              refine aw_lload dX0_extend_100 rfl ?_
              refine aw_lmul dX0_extend_102 ?_
              refine aw_val (w := aL U) (by rw [hU, hY, ← Int.mul_assoc]; congr 3; omega) ?_
              refine aw_lcmp_lt (tgt := 130) dX0_extend_103 dX0_extend_104 (by omega) (by omega) (by decide) (fun c4 => ?_) (fun c4 => ?_)
              · -- too little is left
                have z : smF 60 (left + 1) a b x = [] := smF_little hb.1 hx1 (by rw [← hX, ← hY, ← hU]; omega)
                rw [z] at hL1 hres
                refine aw_lload dX0_extend_130 rfl ?_
                refine aw_lconst (a := 1) dX0_extend_132 (by decide) ?_
                refine aw_ladd dX0_extend_133 ?_
                refine aw_lstore dX0_extend_134 (by decide) ?_
                refine aw_goto (tgt := 53) dX0_extend_136 (by decide) ?_
                have K := ihc (x + 1) h1 L1 L9 (some (aL (X - b))) (by omega) (by omega) hF1 hL1 hfr hres
                rw [show ((x + 1 : Nat) : Int) = (x : Int) + 1 by omega] at K
                exact K
              · refine aw_aload_n dX0_extend_107 rfl ?_
                refine aw_iload_n dX0_extend_108 rfl ?_
                refine aw_iload_n dX0_extend_109 rfl ?_
                refine aw_iconst dX0_extend_110 ?_
                refine aw_isub dX0_extend_111 ?_
                refine aw_val (w := aI ((left + 1 : Nat) : Int)) (by congr 1; omega) ?_
                refine aw_iload_n dX0_extend_112 rfl ?_
                refine aw_bipush dX0_extend_113 (by decide) ?_
                refine aw_ishl dX0_extend_115 ?_
                refine aw_val (w := aI ((pk * 64 : Nat) : Int)) (by rw [shl6 hpk4]) ?_
                refine aw_lload dX0_extend_116 rfl ?_
                refine aw_l2i dX0_extend_118 ?_
                refine aw_ior dX0_extend_119 ?_
                refine aw_val (w := aI ((pk * 64 + x : Nat) : Int)) (by rw [or6 hpk4 (by omega)]) ?_
                refine aw_lload dX0_extend_120 rfl ?_
                refine aw_lload dX0_extend_122 rfl ?_
                refine aw_lload dX0_extend_124 rfl ?_
                refine aw_lmul dX0_extend_126 ?_
                refine aw_val (w := aL Y) (by rw [hY]) ?_
                have hpk' : (pk * 64 + x + 1) * 64 ^ (left + 1) ≤ 1073741824 := by
                  have := Nat.mul_le_mul_right (64 ^ (left + 1)) (show pk * 64 + x + 1 ≤ (pk + 1) * 64 by omega)
                  rw [Nat.pow_succ, Nat.mul_comm (64 ^ (left + 1)) 64, ← Nat.mul_assoc] at hpk
                  omega
                have em : (pk * 64 + x) % 64 = x := by omega
                have es : (smF 60 (left + 1) a b x).map (pkI pk) = (sm 60 (left + 1) ((pk * 64 + x) % 64) (X - b) Y).map (pkI (pk * 64 + x)) := by
                  rw [em, hX, hY, smF, List.map_map]
                  congr 1
                have el : (smF 60 (left + 1) a b x).length = (sm 60 (left + 1) ((pk * 64 + x) % 64) (X - b) Y).length := by
                  rw [em, hX, hY, smF, List.length_map]
                rw [List.length_append, el] at hL1
                rw [List.map_append, es, ← List.append_assoc] at hres
                refine aw_Sv6 kc_X0_65 (ih h1 L1 (pk * 64 + x) (X - b) Y (M * 60) hN (by omega) hF1 hpk' (by omega) (by omega) hM' (by omega)) rfl (by omega) (Nat.le_of_ble_eq_true rfl) dX0_extend_127 (fun h2 q1 => ?_)
                obtain ⟨q2, q3⟩ := q1
                have f12 := q2.1
                refine aw_lload dX0_extend_130 rfl ?_
                refine aw_lconst (a := 1) dX0_extend_132 (by decide) ?_
                refine aw_ladd dX0_extend_133 ?_
                refine aw_lstore dX0_extend_134 (by decide) ?_
                refine aw_goto (tgt := 53) dX0_extend_136 (by decide) ?_
                have K := ihc (x + 1) h2 _ L9 (some (aL (X - b))) (by omega) (by omega) q2 (by rw [List.length_append, List.length_map]; omega) (fun j j1 j2 => (q3 j j1 j2).trans (hfr j j1 j2)) hres
                rw [show ((x + 1 : Nat) : Int) = (x : Int) + 1 by omega] at K
                exact K
      have hd1 : 0 ≤ b / a := Int.ediv_nonneg (by omega) (by omega)
      have hd2 : b / a ≤ b := Int.ediv_le_self a (by omega)
      have small : ∀ y : Nat, 1 ≤ y → (y : Int) ≤ b / a → smF 60 (left + 1) a b y = [] := by
        intro y y1 y2
        refine smF_small hb.1 y1 ?_
        have m1 := Int.mul_le_mul_of_nonneg_left y2 (show 0 ≤ a by omega)
        have m2 := Int.mul_ediv_self_le (x := b) (k := a) (by omega)
        omega
      refine aw_iload_n dX0_extend_8 rfl ?_
      -- at 9: .invokestatic 35
      refine aw_Si1 kc_X0_35 (c_greatest (d := d + left + 1) (by omega)) rfl (by omega) (Nat.le_of_ble_eq_true rfl) dX0_extend_9 (fun v h' q1 => ?_)
      obtain ⟨rfl, rfl⟩ := q1
      refine aw_iconst dX0_extend_12 ?_
      refine aw_iadd dX0_extend_13 ?_
      refine aw_istore dX0_extend_14 (by decide) ?_
      refine aw_iload_n dX0_extend_16 rfl ?_
      refine aw_iconst dX0_extend_17 ?_
      -- at 18: .if_icmp .gt 16
      refine aw_icmp_gt (tgt := 34) dX0_extend_18 (by omega) (by omega) (by decide) (fun c2 => ?_) (fun c2 => ?_)
      rotate_left
      · omega
      · refine aw_iload dX0_extend_34 rfl ?_
        refine aw_i2l dX0_extend_36 (by omega) ?_
        refine aw_lload dX0_extend_37 rfl ?_
        refine aw_lload dX0_extend_39 rfl ?_
        refine aw_ldiv dX0_extend_41 (by omega) (by omega) ?_
        refine aw_lconst (a := 1) dX0_extend_42 (by decide) ?_
        refine aw_ladd dX0_extend_43 ?_
        refine aw_mmaxL kc_X0_73 ks_Lib_MathLoose_max_long_x ti_J9 kd_Lib_MathLoose_max_long_x (by omega) (by omega) (Nat.le_of_ble_eq_true rfl) (by show 1 ≤ d + (left + 1) + 1; omega) (by show 30 ≤ 64 * (d + (left + 1) + 1); omega) (Nat.le_refl _) (Nat.le_refl _) dX0_extend_44 ?_
        obtain ⟨x, hx⟩ : ∃ x : Nat, (x : Int) = if b / a + 1 < ((pk % 64 : Nat) : Int) + 1 then ((pk % 64 : Nat) : Int) + 1 else b / a + 1 := by
          split
          · exact ⟨pk % 64 + 1, by omega⟩
          · exact ⟨(b / a + 1).toNat, by omega⟩
        have hx' : (pk % 64) + 1 ≤ x ∧ b / a + 1 ≤ x ∧ (x = pk % 64 + 1 ∨ (x : Int) = b / a + 1) := by
          by_cases z : b / a + 1 < ((pk % 64 : Nat) : Int) + 1
          · rw [if_pos z] at hx; omega
          · rw [if_neg z] at hx; omega
        refine aw_val (w := aL (x : Int)) (by rw [hx]) ?_
        refine aw_lstore dX0_extend_47 (by decide) ?_
        refine aw_lload dX0_extend_49 rfl ?_
        refine aw_lstore dX0_extend_51 (by decide) ?_
        by_cases z : x ≤ 61
        · have e : sm 60 (left + 1 + 1) (pk % 64) a b = smL (smF 60 (left + 1) a b) (61 - x) x := by
            rw [sm_succ]
            by_cases z2 : pk % 64 ≤ 60
            · rw [smL_skip (x - (pk % 64 + 1)) _ _ (fun y y1 y2 => small y (by omega) (by omega)) (by omega)]
              congr 1 <;> omega
            · omega
          refine loop (61 - x) x h' L _ _ (by omega) (by omega) hF (by rw [← e]; exact hL) (fun _ _ _ => rfl) (by rw [e])
        · have e : sm 60 (left + 1 + 1) (pk % 64) a b = [] := by
            rw [sm_succ]
            exact smL_nil _ _ (fun y y1 y2 => small y (by omega) (by omega))
          refine aw_lload dX0_extend_53 rfl ?_
          refine aw_ldc2 kl_X0_79 dX0_extend_55 ?_
          -- at 58: .lcmp
          refine aw_lcmp_gt (tgt := 139) dX0_extend_58 dX0_extend_59 (by omega) (by omega) (by decide) (fun c3 => ?_) (fun c3 => ?_)
          · refine aw_vret rfl dX0_extend_139 ⟨rfl, rfl, ?_, fun _ _ _ => rfl⟩
            rw [e, List.map_nil, List.append_nil]
            exact hF
          · omega
end Finder
