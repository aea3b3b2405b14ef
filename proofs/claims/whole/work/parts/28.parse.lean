/-! the text told: the class's reader -/
def AB (l : List Int) : Nat → Int × Int
  | 0 => (0, 1)
  | k + 1 => ((AB l k).1 * l.getD k 0 + (AB l k).2, (AB l k).2 * l.getD k 0)
def le60 (l : List Int) : Prop := l.length ≤ 8 ∧ ∀ i, i < l.length → 1 ≤ l.getD i 0 ∧ l.getD i 0 ≤ 60
theorem le60.row {l : List Int} (h : le60 l) : inRow l := ⟨h.1, fun i hi => by have := h.2 i hi; omega⟩
theorem AB_rng {l : List Int} (hl : le60 l) : ∀ k, k ≤ l.length → (0 ≤ (AB l k).1 ∧ (AB l k).1 ≤ k * 60 ^ k) ∧ (1 ≤ (AB l k).2 ∧ (AB l k).2 ≤ 60 ^ k)
  | 0, _ => by simp [AB]
  | k + 1, hk => by
    obtain ⟨⟨a1, a2⟩, b1, b2⟩ := AB_rng hl k (by omega)
    have hx := hl.2 k (by omega)
    have hp : (0 : Int) ≤ 60 ^ k := by omega
    have m1 : (AB l k).1 * l.getD k 0 ≤ (k * 60 ^ k) * 60 := Int.mul_le_mul a2 hx.2 (by omega) (Int.mul_nonneg (by omega) hp)
    have m2 : (AB l k).2 * l.getD k 0 ≤ 60 ^ k * 60 := Int.mul_le_mul b2 hx.2 (by omega) hp
    have m3 : 0 ≤ (AB l k).1 * l.getD k 0 := Int.mul_nonneg a1 (by omega)
    have m4 : 1 * 1 ≤ (AB l k).2 * l.getD k 0 := Int.mul_le_mul b1 hx.1 (by omega) (by omega)
    have e1 : (60 : Int) ^ (k + 1) = 60 ^ k * 60 := by rw [Int.pow_succ]
    have e2 : ((k + 1 : Nat) : Int) * 60 ^ (k + 1) = (k * 60 ^ k) * 60 + 60 ^ k * 60 := by
      rw [e1, show ((k + 1 : Nat) : Int) = (k : Int) + 1 by omega, Int.add_mul, Int.one_mul, Int.mul_assoc]
    have h60 : (60 : Int) ^ k ≤ 60 ^ k * 60 := by omega
    simp only [AB]
    rw [e2, e1]
    omega
theorem AB_num {l : List Int} (hl : le60 l) {k : Nat} (hk : k ≤ l.length) : (0 ≤ (AB l k).1 ∧ (AB l k).1 ≤ 1343692800000000) ∧ (1 ≤ (AB l k).2 ∧ (AB l k).2 ≤ 167961600000000) := by
  have h := AB_rng hl k hk
  have h8 := hl.1
  have hp : (60 : Int) ^ k ≤ 60 ^ 8 := by
    have := Int.ofNat_le.mpr (Nat.pow_le_pow_right (n := 60) (by decide) (show k ≤ 8 by omega))
    rw [Int.natCast_pow, Int.natCast_pow] at this
    exact this
  have e8 : (60 : Int) ^ 8 = 167961600000000 := by decide
  rw [e8] at hp
  have h0 : (0 : Int) ≤ 60 ^ k := by omega
  have hm : (k : Int) * 60 ^ k ≤ 8 * 167961600000000 := Int.mul_le_mul (by omega) hp h0 (by omega)
  omega
abbrev whS (P Q : Int) (l : List Int) : Prop := (AB l l.length).1 * Q = (AB l l.length).2 * P
def lastv (l : List Int) : Int := if l.length = 0 then -9 else l.getD (l.length - 1) 0
abbrev trmOK (tk : Int) (l : List Int) : Prop := (1001 ≤ tk ∧ tk ≤ 1060) ∧ lastv l < tk - 1000 ∧ l.length < 8
def foll (tk : Int) (s : Nat) (P Q : Int) (l : List Int) : Nat × Int × Int × List Int :=
  if s = 0 then (if tk = 112 then (1, P, Q, l) else (8, P, Q, l))
  else if s = 1 then (if 1001 ≤ tk ∧ tk ≤ 1099 then (2, tk - 1000, Q, l) else (8, P, Q, l))
  else if s = 2 then (if (1001 ≤ tk ∧ tk ≤ 1099) ∧ P ≤ 2 * (tk - 1000) then (3, P, tk - 1000, l) else (8, P, Q, l))
  else if s = 3 then (if tk = 59 then (4, P, Q, l) else (8, P, Q, l))
  else if s = 4 then (if tk = 115 then (5, P, Q, l) else (8, P, Q, l))
  else if s = 5 then (if trmOK tk l then (6, P, Q, l ++ [tk - 1000]) else (8, P, Q, l))
  else if s = 6 then (if tk = 59 then (if whS P Q l then (7, P, Q, l) else (8, P, Q, l)) else (if trmOK tk l then (6, P, Q, l ++ [tk - 1000]) else (8, P, Q, l)))
  else (8, P, Q, l)
def finS (t : List Int) (s : Nat) : Int := if s = 0 then 0 else if s = 4 then 1 else if s = 7 then 2 else -10 - (t.length : Int)
def runS (t : List Int) : Nat → Nat → Nat → Int → Int → List Int → Int × Int × Int × List Int
  | 0, s, _, P, Q, l => (finS t s, P, Q, l)
  | f + 1, s, pos, P, Q, l => if tkS t pos = -1 then (finS t s, P, Q, l) else if (foll (tkS t pos) s P Q l).1 = 8 then (-10 - (stS t pos : Int), (foll (tkS t pos) s P Q l).2) else runS t f (foll (tkS t pos) s P Q l).1 (nxS t pos) (foll (tkS t pos) s P Q l).2.1 (foll (tkS t pos) s P Q l).2.2.1 (foll (tkS t pos) s P Q l).2.2.2
/-- what a text tells: how many items, or -10 less the fault; the fraction; the sum -/
def telS (t : List Int) : Int × Int × Int × List Int := runS t 60 0 0 2 3 []
theorem knS_iff {tk : Int} (h : -1 ≤ tk) : (knS tk = 0 ↔ tk = -1) ∧ (knS tk = 1 ↔ tk = 112) ∧ (knS tk = 2 ↔ tk = 115) ∧ (knS tk = 3 ↔ tk = 59) ∧ (knS tk = 4 ↔ (1000 ≤ tk ∧ tk ≤ 1099)) ∧ 0 ≤ knS tk ∧ knS tk ≤ 5 := by
  unfold knS kndS
  omega
section Parse
variable {d n : Nat} {h : AH} {lt pl sta vl P Q tk : Int} {l : List Int}
theorem adds_loop {Z : AZ} {R : Room} {r a : Nat} {p q : Int} {f : Nat → Int} (hr : h r = aO 2 [aR a, aI (l.length : Int)]) (ha : h a = aA 0 8 f) (hf : ∀ i, i < l.length → f i = l.getD i 0) (hl : le60 l)
    (kk : AW mX2_adds R Z 0 0 n h 50 [some (aR r), some (aI p), some (aI q), some (aL (AB l l.length).1), none, some (aL (AB l l.length).2), none, some (aI (l.length : Int))] []) :
    ∀ (m e : Nat), m + e = l.length → AW mX2_adds R Z 0 0 n h 8 [some (aR r), some (aI p), some (aI q), some (aL (AB l e).1), none, some (aL (AB l e).2), none, some (aI (e : Int))] [] := by
  have hl8 := hl.1
  intro m
  induction m with
  | zero =>
    intro e he
    have : e = l.length := by omega
    subst this
    refine aw_iload dX2_adds_8 rfl ?_
    refine aw_aload_n dX2_adds_10 rfl ?_
    refine aw_get kg_X2_15 (by assumption) (by rfl) dX2_adds_11 ?_
    -- at 14: .if_icmp .ge 36
    refine aw_icmp_ge (tgt := 50) dX2_adds_14 (by omega) (by omega) (by decide) (fun c1 => ?_) (fun c1 => ?_)
    · exact kk
    · omega
  | succ m ih =>
    intro e he
    have hx := hl.2 e (by omega)
    have K := ih (e + 1) (by omega)
    rw [show ((e + 1 : Nat) : Int) = (e : Int) + 1 by omega] at K
    refine aw_iload dX2_adds_8 rfl ?_
    refine aw_aload_n dX2_adds_10 rfl ?_
    refine aw_get kg_X2_15 (by assumption) (by rfl) dX2_adds_11 ?_
    -- at 14: .if_icmp .ge 36
    refine aw_icmp_ge (tgt := 50) dX2_adds_14 (by omega) (by omega) (by decide) (fun c1 => ?_) (fun c1 => ?_)
    · omega
    · refine aw_lload_n dX2_adds_17 rfl ?_
      refine aw_aload_n dX2_adds_18 rfl ?_
      refine aw_get kg_X2_9 (by assumption) (by rfl) dX2_adds_19 ?_
      refine aw_iload dX2_adds_22 rfl ?_
      refine aw_iald (by assumption) (by omega) dX2_adds_24 ?_
      refine aw_val (w := aI (l.getD e 0)) (by rw [Int.toNat_natCast, hf e (by omega)]) ?_
      refine aw_i2l dX2_adds_25 (by omega) ?_
      refine aw_lmul dX2_adds_26 ?_
      refine aw_lload dX2_adds_27 rfl ?_
      refine aw_ladd dX2_adds_29 ?_
      refine aw_lstore_n dX2_adds_30 (by decide) ?_
      refine aw_lload dX2_adds_31 rfl ?_
      refine aw_aload_n dX2_adds_33 rfl ?_
      refine aw_get kg_X2_9 (by assumption) (by rfl) dX2_adds_34 ?_
      refine aw_iload dX2_adds_37 rfl ?_
      refine aw_iald (by assumption) (by omega) dX2_adds_39 ?_
      refine aw_val (w := aI (l.getD e 0)) (by rw [Int.toNat_natCast, hf e (by omega)]) ?_
      refine aw_i2l dX2_adds_40 (by omega) ?_
      refine aw_lmul dX2_adds_41 ?_
      refine aw_lstore dX2_adds_42 (by decide) ?_
      refine aw_iinc dX2_adds_44 rfl (by decide) ?_
      refine aw_goto (tgt := 8) dX2_adds_47 (by decide) ?_
      exact K
theorem c_Row_adds {r a : Nat} {p q : Int} (H : isRow h r a l) (hl : le60 l) (hp : 1 ≤ p ∧ p ≤ 99) (hq : 1 ≤ q ∧ q ≤ 99) : AC mX2_adds d 0 0 n h [aR r, aI p, aI q] (aqi n fun v h' => v = (if whS p q l then 1 else 0) ∧ h' = h) := by
  refine AC.of (by decide) (Nat.le_of_ble_eq_true rfl) ?_
  obtain ⟨hr, f, ha, hf⟩ := H
  refine aw_lconst (a := 0) dX2_adds_0 (by decide) ?_
  refine aw_lstore_n dX2_adds_1 (by decide) ?_
  refine aw_lconst (a := 1) dX2_adds_2 (by decide) ?_
  refine aw_lstore dX2_adds_3 (by decide) ?_
  refine aw_iconst dX2_adds_5 ?_
  refine aw_istore dX2_adds_6 (by decide) ?_
  refine adds_loop hr ha hf hl ?_ l.length 0 (by omega)
  obtain ⟨hA, hB⟩ := AB_num hl (Nat.le_refl _)
  have m1 : (AB l l.length).1 * q ≤ 1343692800000000 * 99 := Int.mul_le_mul hA.2 hq.2 (by omega) (by omega)
  have m2 : (AB l l.length).2 * p ≤ 167961600000000 * 99 := Int.mul_le_mul hB.2 hp.2 (by omega) (by omega)
  have m3 : 0 ≤ (AB l l.length).1 * q := Int.mul_nonneg hA.1 (by omega)
  have m4 : 0 ≤ (AB l l.length).2 * p := Int.mul_nonneg (by omega) (by omega)
  refine aw_lload_n dX2_adds_50 rfl ?_
  refine aw_iload_n dX2_adds_51 rfl ?_
  refine aw_i2l dX2_adds_52 (by omega) ?_
  refine aw_lmul dX2_adds_53 ?_
  refine aw_lload dX2_adds_54 rfl ?_
  refine aw_iload_n dX2_adds_56 rfl ?_
  refine aw_i2l dX2_adds_57 (by omega) ?_
  refine aw_lmul dX2_adds_58 ?_
  -- at 59: .lcmp
  refine aw_lcmp_ne (tgt := 67) dX2_adds_59 dX2_adds_60 (by omega) (by omega) (by decide) (fun c1 => ?_) (fun c1 => ?_)
  · refine aw_iconst dX2_adds_67 ?_
    -- at 68: .ireturn
    exact aw_zret rfl dX2_adds_68 (by omega) ⟨rfl, _, rfl, by rw [if_neg c1], rfl⟩
  · refine aw_iconst dX2_adds_63 ?_
    refine aw_goto (tgt := 68) dX2_adds_64 (by decide) ?_
    -- at 68: .ireturn
    exact aw_zret rfl dX2_adds_68 (by omega) ⟨rfl, _, rfl, by rw [if_pos (Decidable.not_not.mp c1)], rfl⟩
theorem c_isNumberTo {most tok : Int} (hm : -2147483648 ≤ most ∧ most ≤ 2147483647) (ht : 0 ≤ tok ∧ tok ≤ 5) (hv : -2147483648 ≤ vl ∧ vl ≤ 2147483647) (h1 : h 6 = aO 3 (scr lt pl tok sta vl P Q)) : AC mX3_isNumberTo d 0 0 n h [aR 6, aI most] (aqi n fun v h' => v = (if tok = 4 ∧ 1 ≤ vl ∧ vl ≤ most then 1 else 0) ∧ h' = h) := by
  refine AC.of (by decide) (Nat.le_of_ble_eq_true rfl) ?_
  refine aw_aload_n dX3_isNumberTo_0 rfl ?_
  refine aw_get kg_X3_22 (by assumption) (by rfl) dX3_isNumberTo_1 ?_
  refine aw_iconst dX3_isNumberTo_4 ?_
  -- at 5: .if_icmp .ne 23
  refine aw_icmp_ne (tgt := 28) dX3_isNumberTo_5 (by omega) (by omega) (by decide) (fun c1 => ?_) (fun c1 => ?_)
  · refine aw_iconst dX3_isNumberTo_28 ?_
    -- at 29: .ireturn
    exact aw_zret rfl dX3_isNumberTo_29 (by omega) ⟨rfl, _, rfl, by rw [if_neg (by omega)], rfl⟩
  · refine aw_aload_n dX3_isNumberTo_8 rfl ?_
    refine aw_get kg_X3_28 (by assumption) (by rfl) dX3_isNumberTo_9 ?_
    refine aw_iconst dX3_isNumberTo_12 ?_
    -- at 13: .if_icmp .lt 15
    refine aw_icmp_lt (tgt := 28) dX3_isNumberTo_13 (by omega) (by omega) (by decide) (fun c2 => ?_) (fun c2 => ?_)
    · refine aw_iconst dX3_isNumberTo_28 ?_
      -- at 29: .ireturn
      exact aw_zret rfl dX3_isNumberTo_29 (by omega) ⟨rfl, _, rfl, by rw [if_neg (by omega)], rfl⟩
    · refine aw_aload_n dX3_isNumberTo_16 rfl ?_
      refine aw_get kg_X3_28 (by assumption) (by rfl) dX3_isNumberTo_17 ?_
      refine aw_iload_n dX3_isNumberTo_20 rfl ?_
      -- at 21: .if_icmp .gt 7
      refine aw_icmp_gt (tgt := 28) dX3_isNumberTo_21 (by omega) (by omega) (by decide) (fun c3 => ?_) (fun c3 => ?_)
      · refine aw_iconst dX3_isNumberTo_28 ?_
        -- at 29: .ireturn
        exact aw_zret rfl dX3_isNumberTo_29 (by omega) ⟨rfl, _, rfl, by rw [if_neg (by omega)], rfl⟩
      · refine aw_iconst dX3_isNumberTo_24 ?_
        refine aw_goto (tgt := 29) dX3_isNumberTo_25 (by decide) ?_
        -- at 29: .ireturn
        exact aw_zret rfl dX3_isNumberTo_29 (by omega) ⟨rfl, _, rfl, by rw [if_pos (by omega)], rfl⟩
theorem c_takeAbove (hk : -1 ≤ tk ∧ tk ≤ 2000) (hv : -2147483648 ≤ vl ∧ vl ≤ 2147483647) (hvk : 1000 ≤ tk → tk ≤ 1099 → vl = tk - 1000) (h1 : h 6 = aO 3 (scr lt pl (knS tk) sta vl P Q)) : AC mX3_takeAbove (d + 1) 0 0 n h [aR 6] (aqi n fun v h' => v = ((foll tk 1 P Q l).1 : Int) ∧ h' 6 = aO 3 (scr lt pl (knS tk) sta vl (foll tk 1 P Q l).2.1 (foll tk 1 P Q l).2.2.1) ∧ (foll tk 1 P Q l).2.2.2 = l ∧ ∀ j, j ≠ 6 → h' j = h j) := by
  refine AC.of (by decide) (Nat.le_of_ble_eq_true rfl) ?_
  have hn := knS_iff hk.1
  refine aw_aload_n dX3_takeAbove_0 rfl ?_
  refine aw_bipush dX3_takeAbove_1 (by decide) ?_
  -- at 3: .invokevirtual 67
  refine aw_Vi1 kc_X3_67 (c_isNumberTo (d := d) (by decide) (by omega) hv h1) (by assumption) rfl rfl (by omega) (Nat.le_of_ble_eq_true rfl) dX3_takeAbove_3 (fun v h' q => ?_)
  obtain ⟨rfl, rfl⟩ := q
  refine aw_flag_ne (tgt := 12) dX3_takeAbove_6 (by decide) (fun c1 => ?_) (fun c1 => ?_)
  · have e : foll tk 1 P Q l = (2, tk - 1000, Q, l) := by
      have hq : 1001 ≤ tk ∧ tk ≤ 1099 := by
        have := hn.2.2.2.2.1.mp c1.1
        have := hvk this.1 this.2
        omega
      simp [foll, hq]
    have ev : vl = tk - 1000 := by
      have := hn.2.2.2.2.1.mp c1.1
      exact hvk this.1 this.2
    refine aw_aload_n dX3_takeAbove_12 rfl ?_
    refine aw_aload_n dX3_takeAbove_13 rfl ?_
    refine aw_get kg_X3_28 (by assumption) (by rfl) dX3_takeAbove_14 ?_
    -- at 17: .putfield 31
    refine aw_putO kp_X3_31 (by assumption) (by simp) (aw_ni _) dX3_takeAbove_17 (fun h2 b2 f2 => ?_)
    refine aw_iconst dX3_takeAbove_20 ?_
    -- at 21: .ireturn
    exact aw_iret rfl dX3_takeAbove_21 ⟨rfl, _, rfl, by rw [e]; rfl, by rw [b2, e, ← ev]; rfl, by rw [e], f2⟩
  · have e : foll tk 1 P Q l = (8, P, Q, l) := by
      have hq : ¬ (1001 ≤ tk ∧ tk ≤ 1099) := by
        intro z
        have := hn.2.2.2.2.1.mpr (by omega)
        have := hvk (by omega) (by omega)
        omega
      simp [foll, hq]
    refine aw_bipush dX3_takeAbove_9 (by decide) ?_
    -- at 11: .ireturn
    exact aw_iret rfl dX3_takeAbove_11 ⟨rfl, _, rfl, by rw [e]; rfl, by rw [h1, e], by rw [e], fun _ _ => rfl⟩
theorem c_takeBelow (hk : -1 ≤ tk ∧ tk ≤ 2000) (hv : -2147483648 ≤ vl ∧ vl ≤ 2147483647) (hP : 1 ≤ P ∧ P ≤ 99) (hvk : 1000 ≤ tk → tk ≤ 1099 → vl = tk - 1000) (h1 : h 6 = aO 3 (scr lt pl (knS tk) sta vl P Q)) : AC mX3_takeBelow (d + 1) 0 0 n h [aR 6] (aqi n fun v h' => v = ((foll tk 2 P Q l).1 : Int) ∧ h' 6 = aO 3 (scr lt pl (knS tk) sta vl (foll tk 2 P Q l).2.1 (foll tk 2 P Q l).2.2.1) ∧ (foll tk 2 P Q l).2.2.2 = l ∧ ∀ j, j ≠ 6 → h' j = h j) := by
  refine AC.of (by decide) (Nat.le_of_ble_eq_true rfl) ?_
  have hn := knS_iff hk.1
  refine aw_aload_n dX3_takeBelow_0 rfl ?_
  refine aw_bipush dX3_takeBelow_1 (by decide) ?_
  -- at 3: .invokevirtual 67
  refine aw_Vi1 kc_X3_67 (c_isNumberTo (d := d) (by decide) (by omega) hv h1) (by assumption) rfl rfl (by omega) (Nat.le_of_ble_eq_true rfl) dX3_takeBelow_3 (fun v h' q => ?_)
  obtain ⟨rfl, rfl⟩ := q
  refine aw_flag_eq (tgt := 22) dX3_takeBelow_6 (by decide) (fun c1 => ?_) (fun c1 => ?_)
  · have e : foll tk 2 P Q l = (8, P, Q, l) := by
      have hq : ¬ ((1001 ≤ tk ∧ tk ≤ 1099) ∧ P ≤ 2 * (tk - 1000)) := by
        intro z
        have := hn.2.2.2.2.1.mpr (by omega)
        have := hvk (by omega) (by omega)
        omega
      simp [foll, hq]
    refine aw_bipush dX3_takeBelow_22 (by decide) ?_
    -- at 24: .ireturn
    exact aw_iret rfl dX3_takeBelow_24 ⟨rfl, _, rfl, by rw [e]; rfl, by rw [h1, e], by rw [e], fun _ _ => rfl⟩
  · have hq := hn.2.2.2.2.1.mp c1.1
    have ev := hvk hq.1 hq.2
    refine aw_aload_n dX3_takeBelow_9 rfl ?_
    refine aw_get kg_X3_31 (by assumption) (by rfl) dX3_takeBelow_10 ?_
    refine aw_iconst dX3_takeBelow_13 ?_
    refine aw_aload_n dX3_takeBelow_14 rfl ?_
    refine aw_get kg_X3_28 (by assumption) (by rfl) dX3_takeBelow_15 ?_
    refine aw_imul dX3_takeBelow_18 ?_
    -- at 19: .if_icmp .le 6
    refine aw_icmp_le (tgt := 25) dX3_takeBelow_19 (by omega) (by omega) (by decide) (fun c2 => ?_) (fun c2 => ?_)
    · have e : foll tk 2 P Q l = (3, P, tk - 1000, l) := by
        have hq : (1001 ≤ tk ∧ tk ≤ 1099) ∧ P ≤ 2 * (tk - 1000) := by omega
        simp [foll, hq]
      refine aw_aload_n dX3_takeBelow_25 rfl ?_
      refine aw_aload_n dX3_takeBelow_26 rfl ?_
      refine aw_get kg_X3_28 (by assumption) (by rfl) dX3_takeBelow_27 ?_
      -- at 30: .putfield 34
      refine aw_putO kp_X3_34 (by assumption) (by simp) (aw_ni _) dX3_takeBelow_30 (fun h2 b2 f2 => ?_)
      refine aw_iconst dX3_takeBelow_33 ?_
      -- at 34: .ireturn
      exact aw_iret rfl dX3_takeBelow_34 ⟨rfl, _, rfl, by rw [e]; rfl, by rw [b2, e, ← ev]; rfl, by rw [e], f2⟩
    · have e : foll tk 2 P Q l = (8, P, Q, l) := by
        have hq : ¬ ((1001 ≤ tk ∧ tk ≤ 1099) ∧ P ≤ 2 * (tk - 1000)) := by omega
        simp [foll, hq]
      refine aw_bipush dX3_takeBelow_22 (by decide) ?_
      -- at 24: .ireturn
      exact aw_iret rfl dX3_takeBelow_24 ⟨rfl, _, rfl, by rw [e]; rfl, by rw [h1, e], by rw [e], fun _ _ => rfl⟩
theorem ins_end {l : List Int} {x : Int} (h : lastv l < x) (hx : 1 ≤ x) : plL l x = l.length ∧ insL l x = l ++ [x] := by
  have e : plL l x = l.length := by
    unfold plL
    unfold lastv at h
    cases hl : l.length with
    | zero => rfl
    | succ k =>
      rw [hl, if_neg (by omega)] at h
      rw [plc, if_neg (by simp only [Nat.add_sub_cancel] at h; omega)]
  refine ⟨e, ?_⟩
  rw [insL, e]
  simp
theorem c_takeTerm (hk : -1 ≤ tk ∧ tk ≤ 2000) (hv : -2147483648 ≤ vl ∧ vl ≤ 2147483647) (hl : le60 l) (hvk : 1000 ≤ tk → tk ≤ 1099 → vl = tk - 1000) (h1 : h 6 = aO 3 (scr lt pl (knS tk) sta vl P Q)) (H : isRow h 8 9 l) : AC mX3_takeTerm (d + 2) 0 0 n h [aR 6] (aqi n fun v h' => (trmOK tk l ∧ v = 6 ∧ isRow h' 8 9 (l ++ [tk - 1000]) ∧ ∀ j, j ≠ 8 → j ≠ 9 → h' j = h j) ∨ (¬ trmOK tk l ∧ v = 8 ∧ h' = h)) := by
  refine AC.of (by decide) (Nat.le_of_ble_eq_true rfl) ?_
  have hn := knS_iff hk.1
  have hr := H.1
  have hl8 := hl.1
  refine aw_aload_n dX3_takeTerm_0 rfl ?_
  refine aw_bipush dX3_takeTerm_1 (by decide) ?_
  -- at 3: .invokevirtual 67
  refine aw_Vi1 kc_X3_67 (c_isNumberTo (d := d) (by decide) (by omega) hv h1) (by assumption) rfl rfl (by omega) (Nat.le_of_ble_eq_true rfl) dX3_takeTerm_3 (fun v h' q => ?_)
  obtain ⟨rfl, rfl⟩ := q
  refine aw_flag_eq (tgt := 32) dX3_takeTerm_6 (by decide) (fun c1 => ?_) (fun c1 => ?_)
  · refine aw_bipush dX3_takeTerm_32 (by decide) ?_
    -- at 34: .ireturn
    refine aw_iret rfl dX3_takeTerm_34 ⟨rfl, _, rfl, Or.inr ⟨fun z => c1 ?_, rfl, rfl⟩⟩
    have := hn.2.2.2.2.1.mpr (by omega)
    have := hvk (by omega) (by omega)
    omega
  · have hq := hn.2.2.2.2.1.mp c1.1
    have ev := hvk hq.1 hq.2
    refine aw_aload_n dX3_takeTerm_9 rfl ?_
    refine aw_get kg_X3_28 (by assumption) (by rfl) dX3_takeTerm_10 ?_
    refine aw_aload_n dX3_takeTerm_13 rfl ?_
    refine aw_get kg_X3_40 (by assumption) (by rfl) dX3_takeTerm_14 ?_
    refine aw_aload_n dX3_takeTerm_17 rfl ?_
    refine aw_get kg_X3_40 (by assumption) (by rfl) dX3_takeTerm_18 ?_
    -- at 21: .invokevirtual 71
    refine aw_Vi0 kc_X3_71 (c_Row_length (d := d) H) (by assumption) rfl rfl (by omega) (Nat.le_of_ble_eq_true rfl) dX3_takeTerm_21 (fun v h' q => ?_)
    obtain ⟨rfl, rfl⟩ := q
    refine aw_iconst dX3_takeTerm_24 ?_
    refine aw_isub dX3_takeTerm_25 ?_
    -- at 26: .invokevirtual 73
    refine aw_Vi1 kc_X3_73 (c_Row_at (d := d) (k := (l.length : Int) - 1) (by omega) H hl.row) (by assumption) rfl rfl (by omega) (Nat.le_of_ble_eq_true rfl) dX3_takeTerm_26 (fun v h' q => ?_)
    obtain ⟨rfl, rfl⟩ := q
    have elast : (if 0 ≤ (l.length : Int) - 1 ∧ (l.length : Int) - 1 < (l.length : Int) then l.getD ((l.length : Int) - 1).toNat 0 else -9) = lastv l := by
      unfold lastv
      by_cases z : l.length = 0
      · rw [if_neg (by omega), if_pos z]
      · rw [if_pos (by omega), if_neg z]
        congr 1
        omega
    have hlr : -9 ≤ lastv l ∧ lastv l ≤ 60 := by
      unfold lastv
      by_cases z : l.length = 0
      · rw [if_pos z]; omega
      · rw [if_neg z]
        have := hl.2 (l.length - 1) (by omega)
        omega
    refine aw_val (w := aI (lastv l)) (by rw [elast]) ?_
    refine aw_icmp_gt (tgt := 35) dX3_takeTerm_29 (by omega) (by omega) (by decide) (fun c2 => ?_) (fun c2 => ?_)
    · obtain ⟨ep, ei⟩ := ins_end (l := l) (x := vl) (by omega) (by omega)
      refine aw_aload_n dX3_takeTerm_35 rfl ?_
      refine aw_get kg_X3_40 (by assumption) (by rfl) dX3_takeTerm_36 ?_
      refine aw_aload_n dX3_takeTerm_39 rfl ?_
      refine aw_get kg_X3_28 (by assumption) (by rfl) dX3_takeTerm_40 ?_
      refine aw_i2l dX3_takeTerm_43 (by omega) ?_
      -- at 44: .invokevirtual 76
      refine aw_Vi1 kc_X3_76 (c_Row_insert (d := d) (x := vl) (by omega) H hl.row) (by assumption) rfl rfl (by omega) (Nat.le_of_ble_eq_true rfl) dX3_takeTerm_44 (fun v h2 q => ?_)
      rcases q with ⟨q1, rfl, q3, q4⟩ | ⟨q1, rfl, rfl⟩
      · refine aw_if_eq (tgt := 55) dX3_takeTerm_47 (by omega) (by decide) (fun c3 => ?_) (fun c3 => ?_)
        · omega
        · refine aw_bipush dX3_takeTerm_50 (by decide) ?_
          refine aw_goto (tgt := 57) dX3_takeTerm_52 (by decide) ?_
          -- at 57: .ireturn
          rw [ei, ev] at q3
          exact aw_iret rfl dX3_takeTerm_57 ⟨rfl, _, rfl, Or.inl ⟨⟨by omega, by omega, q1.2.2.1⟩, rfl, q3, q4⟩⟩
      · refine aw_if_eq (tgt := 55) dX3_takeTerm_47 (by omega) (by decide) (fun c3 => ?_) (fun c3 => ?_)
        · refine aw_bipush dX3_takeTerm_55 (by decide) ?_
          -- at 57: .ireturn
          refine aw_iret rfl dX3_takeTerm_57 ⟨rfl, _, rfl, Or.inr ⟨fun z => q1 ⟨by omega, by omega, z.2.2, ?_⟩, rfl, rfl⟩⟩
          rw [ep]
          omega
        · omega
    · refine aw_bipush dX3_takeTerm_32 (by decide) ?_
      -- at 34: .ireturn
      exact aw_iret rfl dX3_takeTerm_34 ⟨rfl, _, rfl, Or.inr ⟨fun z => by have := z.2.1; omega, rfl, rfl⟩⟩
theorem c_endSum (hP : 1 ≤ P ∧ P ≤ 99) (hQ : 1 ≤ Q ∧ Q ≤ 99) (hl : le60 l) (h1 : h 6 = aO 3 (scr lt pl (knS tk) sta vl P Q)) (H : isRow h 8 9 l) : AC mX3_endSum (d + 1) 0 0 n h [aR 6] (aqi n fun v h' => v = (if whS P Q l then 7 else 8) ∧ h' = h) := by
  refine AC.of (by decide) (Nat.le_of_ble_eq_true rfl) ?_
  have hr := H.1
  refine aw_aload_n dX3_endSum_0 rfl ?_
  refine aw_get kg_X3_40 (by assumption) (by rfl) dX3_endSum_1 ?_
  refine aw_aload_n dX3_endSum_4 rfl ?_
  refine aw_get kg_X3_31 (by assumption) (by rfl) dX3_endSum_5 ?_
  refine aw_aload_n dX3_endSum_8 rfl ?_
  refine aw_get kg_X3_34 (by assumption) (by rfl) dX3_endSum_9 ?_
  -- at 12: .invokevirtual 80
  refine aw_Vi2 kc_X3_80 (c_Row_adds (d := d) H hl hP hQ) (by assumption) rfl rfl (by omega) (Nat.le_of_ble_eq_true rfl) dX3_endSum_12 (fun v h' q => ?_)
  obtain ⟨rfl, rfl⟩ := q
  refine aw_flag_eq (tgt := 23) dX3_endSum_15 (by decide) (fun c1 => ?_) (fun c1 => ?_)
  · refine aw_bipush dX3_endSum_23 (by decide) ?_
    -- at 25: .ireturn
    exact aw_iret rfl dX3_endSum_25 ⟨rfl, _, rfl, by rw [if_neg c1], rfl⟩
  · refine aw_bipush dX3_endSum_18 (by decide) ?_
    refine aw_goto (tgt := 25) dX3_endSum_20 (by decide) ?_
    -- at 25: .ireturn
    exact aw_iret rfl dX3_endSum_25 ⟨rfl, _, rfl, by rw [if_pos c1], rfl⟩
end Parse
