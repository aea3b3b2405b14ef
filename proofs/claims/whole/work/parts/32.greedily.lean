/-! the greedy ways: the class and the reference -/
theorem insOK_end {l : List Int} {x : Int} (h : lastv l < x) (hx : 1 ≤ x ∧ x ≤ 1000000) (h8 : l.length < 8) : insOK l x := by
  obtain ⟨e1, -⟩ := ins_end h hx.1
  exact ⟨hx.1, hx.2, h8, fun z => by omega⟩
section Greedily
variable {d n : Nat}
/-- what a greedy way leaves in a row -/
def grQ (h : AH) (r ra : Nat) (res : Option (List Int)) (v : Int) (h' : AH) : Prop := (∀ j, j ≠ r → j ≠ ra → h' j = h j) ∧ ((v = 1 ∧ ∃ l, res = some l ∧ isRow h' r ra l) ∨ (v = 0 ∧ res = none ∧ ∃ l, inRow l ∧ isRow h' r ra l))
theorem tg_loop {r ra : Nat} {p q : Int} {odd : Bool} {h0 : AH} {res : Option (List Int)} :
    ∀ (f a b last k : Nat) (h : AH) (l : List Int) (L11 : Option AV), f + k = 8 → k = l.length → isRow h r ra l → gInv l last → last ≤ 1000000 → a ≤ 1048576 → 1 ≤ b → b ≤ 4503599627370496 → gOK odd f a b last = true → (∀ j, j ≠ r → j ≠ ra → h j = h0 j) → grd odd f a b last l = res →
      AW mX5_takeGreedily (am_R (d + 2) 0 0) (am_Z (aqi n fun v h' => grQ h0 r ra res v h') 0 0) 0 0 n h 18 [some (aI p), some (aI q), some (aI (if odd = true then 1 else 0)), some (aR r), some (aL (a : Int)), none, some (aL (b : Int)), none, some (aL (last : Int)), none, some (aI (k : Int)), L11, none] [] := by
  intro f
  induction f with
  | zero =>
    intro a b last k h l L11 hf hk H hi hlast ha hb hb2 hok hfr hres
    refine aw_iload dX5_takeGreedily_18 rfl ?_
    refine aw_bipush dX5_takeGreedily_20 (by decide) ?_
    -- at 22: .if_icmp .ge 107
    refine aw_icmp_ge (tgt := 129) dX5_takeGreedily_22 (by omega) (by omega) (by decide) (fun c1 => ?_) (fun c1 => ?_)
    · refine aw_lload dX5_takeGreedily_129 rfl ?_
      refine aw_lconst (a := 0) dX5_takeGreedily_131 (by decide) ?_
      -- at 132: .lcmp
      refine aw_lcmp_ne (tgt := 140) dX5_takeGreedily_132 dX5_takeGreedily_133 (by omega) (by omega) (by decide) (fun c2 => ?_) (fun c2 => ?_)
      · refine aw_iconst dX5_takeGreedily_140 ?_
        -- at 141: .ireturn
        refine aw_zret rfl dX5_takeGreedily_141 (by omega) ⟨rfl, _, rfl, hfr, Or.inr ⟨rfl, ?_, l, hi.1, H⟩⟩
        rw [← hres, grd, if_neg (by omega)]
      · refine aw_iconst dX5_takeGreedily_136 ?_
        refine aw_goto (tgt := 141) dX5_takeGreedily_137 (by decide) ?_
        -- at 141: .ireturn
        refine aw_zret rfl dX5_takeGreedily_141 (by omega) ⟨rfl, _, rfl, hfr, Or.inl ⟨rfl, l, ?_, H⟩⟩
        rw [← hres, grd, if_pos (by omega)]
    · omega
  | succ f ih =>
    intro a b last k h l L11 hf hk H hi hlast ha hb hb2 hok hfr hres
    refine aw_iload dX5_takeGreedily_18 rfl ?_
    refine aw_bipush dX5_takeGreedily_20 (by decide) ?_
    -- at 22: .if_icmp .ge 107
    refine aw_icmp_ge (tgt := 129) dX5_takeGreedily_22 (by omega) (by omega) (by decide) (fun c1 => ?_) (fun c1 => ?_)
    · omega
    · refine aw_lload dX5_takeGreedily_25 rfl ?_
      refine aw_lconst (a := 0) dX5_takeGreedily_27 (by decide) ?_
      -- at 28: .lcmp
      refine aw_lcmp_le (tgt := 129) dX5_takeGreedily_28 dX5_takeGreedily_29 (by omega) (by omega) (by decide) (fun c2 => ?_) (fun c2 => ?_)
      · have a0 : a = 0 := by omega
        subst a0
        refine aw_lload dX5_takeGreedily_129 rfl ?_
        refine aw_lconst (a := 0) dX5_takeGreedily_131 (by decide) ?_
        -- at 132: .lcmp
        refine aw_lcmp_ne (tgt := 140) dX5_takeGreedily_132 dX5_takeGreedily_133 (by omega) (by omega) (by decide) (fun c3 => ?_) (fun c3 => ?_)
        · omega
        · refine aw_iconst dX5_takeGreedily_136 ?_
          refine aw_goto (tgt := 141) dX5_takeGreedily_137 (by decide) ?_
          -- at 141: .ireturn
          refine aw_zret rfl dX5_takeGreedily_141 (by omega) ⟨rfl, _, rfl, hfr, Or.inl ⟨rfl, l, ?_, H⟩⟩
          rw [← hres, grd, if_pos rfl]
      · have ha1 : 1 ≤ a := by omega
        have hr := gD_rng (odd := odd) (a := a) (b := b) (last := last) ha1 hb
        have hdu : gD odd a b last ≤ gX a b last + 1 := by
          rw [gD_eq]; split <;> omega
        have hcu : (b + a - 1) / a ≤ b + a - 1 := Nat.div_le_self _ _
        have hcz : 0 ≤ (((b + a - 1) / a : Nat) : Int) := Int.natCast_nonneg _
        have hxu : gX a b last ≤ last + 1 + (b + a) := by
          rw [gX_eq]; split <;> omega
        refine aw_lload dX5_takeGreedily_32 rfl ?_
        refine aw_lconst (a := 1) dX5_takeGreedily_34 (by decide) ?_
        refine aw_ladd dX5_takeGreedily_35 ?_
        refine aw_lload dX5_takeGreedily_36 rfl ?_
        refine aw_lload dX5_takeGreedily_38 rfl ?_
        refine aw_ladd dX5_takeGreedily_40 ?_
        refine aw_lconst (a := 1) dX5_takeGreedily_41 (by decide) ?_
        refine aw_lsub dX5_takeGreedily_42 ?_
        refine aw_lload dX5_takeGreedily_43 rfl ?_
        refine aw_ldiv dX5_takeGreedily_45 (by omega) (by omega) ?_
        refine aw_val (w := aL (((b + a - 1) / a : Nat) : Int)) (by rw [cst_ceil ha1]) ?_
        refine aw_mmaxL kc_X5_213 ks_Lib_MathLoose_max_long_x ti_J9 kd_Lib_MathLoose_max_long_x (by omega) (by omega) (Nat.le_of_ble_eq_true rfl) (by show 1 ≤ d + 2; omega) (by show 30 ≤ 64 * (d + 2); omega) (Nat.le_refl _) (Nat.le_refl _) dX5_takeGreedily_46 ?_
        refine aw_val (w := aL ((gX a b last : Nat) : Int)) (by rw [gX_eq]; congr 1; split <;> split <;> omega) ?_
        -- behind the choice of the next number
        have K : AW mX5_takeGreedily (am_R (d + 2) 0 0) (am_Z (aqi n fun v h' => grQ h0 r ra res v h') 0 0) 0 0 n h 72 [some (aI p), some (aI q), some (aI (if odd = true then 1 else 0)), some (aR r), some (aL (a : Int)), none, some (aL (b : Int)), none, some (aL ((gD odd a b last : Nat) : Int)), none, some (aI (k : Int)), L11, none] [] := by
          rw [grd, if_neg (by omega)] at hres
          have hrow := H.1
          refine aw_aload_n dX5_takeGreedily_72 rfl ?_
          refine aw_lload dX5_takeGreedily_73 rfl ?_
          -- at 75: .invokevirtual 117
          refine aw_Vi1 kc_X5_117 (c_Row_insert (d := d + 1) (by omega) H hi.1) (by assumption) rfl rfl (by omega) (Nat.le_of_ble_eq_true rfl) dX5_takeGreedily_75 (fun v h1 q => ?_)
          rcases q with ⟨q1, rfl, q2, q3⟩ | ⟨q1, rfl, rfl⟩
          · have hD : gD odd a b last ≤ 1000000 := by have := q1.2.1; omega
            rw [if_neg (by omega)] at hres
            obtain ⟨s1, s2, s3, s4⟩ := gOK_step hok ha1 hD
            obtain ⟨-, e2⟩ := ins_end (hi.last hr.1) (show (1 : Int) ≤ (gD odd a b last : Nat) by omega)
            rw [e2] at q2
            have hbd : 1 ≤ b * gD odd a b last := Nat.mul_pos (by omega) (by omega)
            have hg : 0 < Nat.gcd (a * gD odd a b last - b) (b * gD odd a b last) := Nat.gcd_pos_of_pos_right _ hbd
            have hle : Nat.gcd (a * gD odd a b last - b) (b * gD odd a b last) ≤ b * gD odd a b last := Nat.gcd_le_right _ hbd
            refine aw_if_ne (tgt := 83) dX5_takeGreedily_78 (by omega) (by decide) (fun c4 => ?_) (fun c4 => ?_)
            rotate_left
            · omega
            · refine aw_lload dX5_takeGreedily_83 rfl ?_
              refine aw_lload dX5_takeGreedily_85 rfl ?_
              refine aw_lmul dX5_takeGreedily_87 ?_
              refine aw_lload dX5_takeGreedily_88 rfl ?_
              refine aw_lsub dX5_takeGreedily_90 ?_
              refine aw_val (w := aL ((a * gD odd a b last - b : Nat) : Int)) (by rw [cst_mul]; congr 1; omega) ?_
              refine aw_lstore dX5_takeGreedily_91 (by decide) ?_
              refine aw_lload dX5_takeGreedily_93 rfl ?_
              refine aw_lload dX5_takeGreedily_95 rfl ?_
              refine aw_lmul dX5_takeGreedily_97 ?_
              refine aw_val (w := aL ((b * gD odd a b last : Nat) : Int)) (by rw [cst_mul]) ?_
              refine aw_lstore dX5_takeGreedily_98 (by decide) ?_
              refine aw_lload dX5_takeGreedily_100 rfl ?_
              refine aw_lload dX5_takeGreedily_102 rfl ?_
              -- at 104: .invokestatic 216
              refine aw_Sl2 kc_X5_216 (c_commonDivisor (d := d) s3 ⟨hbd, s2⟩) rfl (by omega) (Nat.le_of_ble_eq_true rfl) dX5_takeGreedily_104 (fun v h2 q => ?_)
              obtain ⟨rfl, rfl⟩ := q
              refine aw_lstore dX5_takeGreedily_107 (by decide) ?_
              refine aw_lload dX5_takeGreedily_109 rfl ?_
              refine aw_lload dX5_takeGreedily_111 rfl ?_
              refine aw_ldiv dX5_takeGreedily_113 (by omega) (by omega) ?_
              refine aw_val (w := aL ((gA odd a b last : Nat) : Int)) (by rw [cst_div]) ?_
              refine aw_lstore dX5_takeGreedily_114 (by decide) ?_
              refine aw_lload dX5_takeGreedily_116 rfl ?_
              refine aw_lload dX5_takeGreedily_118 rfl ?_
              refine aw_ldiv dX5_takeGreedily_120 (by omega) (by omega) ?_
              refine aw_val (w := aL ((gB odd a b last : Nat) : Int)) (by rw [cst_div]) ?_
              refine aw_lstore dX5_takeGreedily_121 (by decide) ?_
              refine aw_iinc dX5_takeGreedily_123 rfl (by decide) ?_
              refine aw_goto (tgt := 18) dX5_takeGreedily_126 (by decide) ?_
              have gAu : gA odd a b last ≤ a * gD odd a b last - b := Nat.div_le_self _ _
              have gBu : gB odd a b last ≤ b * gD odd a b last := Nat.div_le_self _ _
              have KK := ih (gA odd a b last) (gB odd a b last) (gD odd a b last) (k + 1) h2 (l ++ [((gD odd a b last : Nat) : Int)]) (some (aL (Nat.gcd (a * gD odd a b last - b) (b * gD odd a b last) : Int))) (by omega) (by simp; omega) q2 (hi.app (by omega) hr.1 hD) hD (by omega) (Nat.div_pos hle hg) (by omega) s4 (fun j j1 j2 => (q3 j j1 j2).trans (hfr j j1 j2)) hres
              rw [show ((k + 1 : Nat) : Int) = (k : Int) + 1 by omega] at KK
              exact KK
          · have hD : 1000000 < gD odd a b last := by
              apply Classical.byContradiction
              intro z
              exact q1 (insOK_end (hi.last hr.1) (by omega) (by omega))
            rw [if_pos hD] at hres
            refine aw_if_ne (tgt := 83) dX5_takeGreedily_78 (by omega) (by decide) (fun c4 => ?_) (fun c4 => ?_)
            · omega
            · refine aw_iconst dX5_takeGreedily_81 ?_
              -- at 82: .ireturn
              exact aw_zret rfl dX5_takeGreedily_82 (by omega) ⟨rfl, _, rfl, hfr, Or.inr ⟨rfl, hres.symm, l, hi.1, H⟩⟩
        refine aw_lstore dX5_takeGreedily_49 (by decide) ?_
        refine aw_iload_n dX5_takeGreedily_51 rfl ?_
        -- at 52: .ifCond .eq 20
        refine aw_flag_eq (tgt := 72) dX5_takeGreedily_52 (by decide) (fun c3 => ?_) (fun c3 => ?_)
        · have e : gD odd a b last = gX a b last := by rw [gD_eq, if_neg (fun z => c3 z.1)]
          rw [e] at K
          exact K
        · refine aw_lload dX5_takeGreedily_55 rfl ?_
          refine aw_ldc2 kl_X5_204 dX5_takeGreedily_57 ?_
          refine aw_lrem dX5_takeGreedily_60 (by omega) (by omega) ?_
          refine aw_val (w := aL ((gX a b last % 2 : Nat) : Int)) (by rw [show (2 : Int) = ((2 : Nat) : Int) from rfl, cst_mod]) ?_
          refine aw_lconst (a := 0) dX5_takeGreedily_61 (by decide) ?_
          -- at 62: .lcmp
          refine aw_lcmp_ne (tgt := 72) dX5_takeGreedily_62 dX5_takeGreedily_63 (by omega) (by omega) (by decide) (fun c4 => ?_) (fun c4 => ?_)
          · have e : gD odd a b last = gX a b last := by rw [gD_eq, if_neg (fun z => by omega)]
            rw [e] at K
            exact K
          · refine aw_lload dX5_takeGreedily_66 rfl ?_
            refine aw_lconst (a := 1) dX5_takeGreedily_68 (by decide) ?_
            refine aw_ladd dX5_takeGreedily_69 ?_
            refine aw_lstore dX5_takeGreedily_70 (by decide) ?_
            have e : gD odd a b last = gX a b last + 1 := by rw [gD_eq, if_pos ⟨c3, by omega⟩]
            rw [e, show ((gX a b last + 1 : Nat) : Int) = (gX a b last : Int) + 1 by omega] at K
            exact K
theorem c_takeGreedily {h : AH} {r ra : Nat} {p q : Int} {odd : Bool} {l : List Int} (hp : 1 ≤ p ∧ p ≤ 99) (hq : 1 ≤ q ∧ q ≤ 99) (hpq : p ≤ 2 * q) (H : isRow h r ra l) : AC mX5_takeGreedily (d + 2) 0 0 n h [aI p, aI q, aI (if odd = true then 1 else 0), aR r] (aqi n fun v h' => grQ h r ra (greedyS p q odd) v h') := by
  refine AC.of (by decide) (Nat.le_of_ble_eq_true rfl) ?_
  have hrow := H.1
  refine aw_aload_n dX5_takeGreedily_0 rfl ?_
  -- at 1: .invokevirtual 212
  refine aw_Vv0 kc_X5_212 (c_Row_wipe (d := d + 1) H) (by assumption) rfl rfl (by omega) (Nat.le_of_ble_eq_true rfl) dX5_takeGreedily_1 (fun h1 q1 => ?_)
  refine aw_iload_n dX5_takeGreedily_4 rfl ?_
  refine aw_i2l dX5_takeGreedily_5 (by omega) ?_
  refine aw_lstore dX5_takeGreedily_6 (by decide) ?_
  refine aw_iload_n dX5_takeGreedily_8 rfl ?_
  refine aw_i2l dX5_takeGreedily_9 (by omega) ?_
  refine aw_lstore dX5_takeGreedily_10 (by decide) ?_
  refine aw_lconst (a := 0) dX5_takeGreedily_12 (by decide) ?_
  refine aw_lstore dX5_takeGreedily_13 (by decide) ?_
  refine aw_iconst dX5_takeGreedily_15 ?_
  refine aw_istore dX5_takeGreedily_16 (by decide) ?_
  obtain ⟨a, rfl⟩ : ∃ a : Nat, p = (a : Int) := ⟨p.toNat, by omega⟩
  obtain ⟨b, rfl⟩ : ∃ b : Nat, q = (b : Int) := ⟨q.toNat, by omega⟩
  have g : gOK odd 8 a b 0 = true := by
    cases odd with
    | false => exact gc_false (by omega) (by omega) (by omega)
    | true => exact gc_true (by omega) (by omega) (by omega)
  exact tg_loop 8 a b 0 0 h1 [] none rfl rfl q1.1 ⟨inRow_nil, rising_nil, fun _ => rfl, fun z => absurd z (by simp)⟩ (by omega) (by omega) (by omega) (by omega) g q1.2 rfl
/-- what greedy answers -/
def grdQ (p q way k : Int) : Int := if (0 ≤ way ∧ way ≤ 1) ∧ -1 ≤ k then (match greedyS p q (decide (way = 1)) with | none => -9 | some l => if k = -1 then (l.length : Int) else if k < l.length then l.getD k.toNat 0 else -9) else -1
theorem c5_greedy {h : AH} {p q way k : Int} {l : List Int} (hw : -2147483648 ≤ way ∧ way ≤ 2147483647) (hk : -2147483648 ≤ k ∧ k ≤ 2147483647) (hp : 1 ≤ p ∧ p ≤ 99) (hq : 1 ≤ q ∧ q ≤ 99) (hpq : p ≤ 2 * q) (h0 : h 1 = aO 5 (top5 p q)) (H : isRow h 4 5 l) (hl : inRow l) : AC mX5_greedy (d + 10) 0 0 n h [aR 1, aI way, aI k] (aqi n fun v h' => v = grdQ p q way k ∧ (∃ l, inRow l ∧ isRow h' 4 5 l) ∧ ∀ j, j ≠ 4 → j ≠ 5 → h' j = h j) := by
  refine AC.of (by decide) (Nat.le_of_ble_eq_true rfl) ?_
  have bad : ∀ L, ¬ ((0 ≤ way ∧ way ≤ 1) ∧ -1 ≤ k) → AW mX5_greedy (am_R (d + 10) 0 0) (am_Z (aqi n fun v h' => v = grdQ p q way k ∧ (∃ l, inRow l ∧ isRow h' 4 5 l) ∧ ∀ j, j ≠ 4 → j ≠ 5 → h' j = h j) 0 0) 0 0 n h 14 L [] := by
    intro L z
    refine aw_iconst dX5_greedy_14 ?_
    -- at 15: .ireturn
    exact aw_iret rfl dX5_greedy_15 ⟨rfl, _, rfl, by rw [grdQ, if_neg z], ⟨l, hl, H⟩, fun j _ _ => rfl⟩
  have rest : ∀ (hz : (0 ≤ way ∧ way ≤ 1) ∧ -1 ≤ k) (b : Int), b = (if decide (way = 1) = true then 1 else 0) → AW mX5_greedy (am_R (d + 10) 0 0) (am_Z (aqi n fun v h' => v = grdQ p q way k ∧ (∃ l, inRow l ∧ isRow h' 4 5 l) ∧ ∀ j, j ≠ 4 → j ≠ 5 → h' j = h j) 0 0) 0 0 n h 34 [some (aR 1), some (aI way), some (aI k)] [aI b, aI q, aI p] := by
    intro hz b hb
    rw [hb]
    refine aw_aload_n dX5_greedy_34 rfl ?_
    refine aw_get kg_X5_23 (by assumption) (by rfl) dX5_greedy_35 ?_
    -- at 38: .invokestatic 126
    refine aw_Si4 kc_X5_126 (c_takeGreedily (d := d + 7) hp hq hpq H) rfl (by omega) (Nat.le_of_ble_eq_true rfl) dX5_greedy_38 (fun v h1 q1 => ?_)
    obtain ⟨q2, ⟨rfl, l1, e1, q3⟩ | ⟨rfl, e1, l1, q4, q3⟩⟩ := q1
    · obtain ⟨g1, g2⟩ := greedyS_ok hq.1 e1
      have h01 := (q2 1 (by omega) (by omega)).trans h0
      have hrow := q3.1
      refine aw_if_ne (tgt := 47) dX5_greedy_41 (by omega) (by decide) (fun c1 => ?_) (fun c1 => ?_)
      rotate_left
      · omega
      · refine aw_iload_n dX5_greedy_47 rfl ?_
        refine aw_iconst dX5_greedy_48 ?_
        -- at 49: .if_icmp .ne 13
        refine aw_icmp_ne (tgt := 62) dX5_greedy_49 (by omega) (by omega) (by decide) (fun c2 => ?_) (fun c2 => ?_)
        · refine aw_aload_n dX5_greedy_62 rfl ?_
          refine aw_get kg_X5_23 (by assumption) (by rfl) dX5_greedy_63 ?_
          refine aw_iload_n dX5_greedy_66 rfl ?_
          -- at 67: .invokevirtual 96
          refine aw_Vi1 kc_X5_96 (c_Row_at (d := d + 8) hk q3 g1) (by assumption) rfl rfl (by omega) (Nat.le_of_ble_eq_true rfl) dX5_greedy_67 (fun v h2 q5 => ?_)
          obtain ⟨rfl, rfl⟩ := q5
          refine aw_iret rfl dX5_greedy_70 ⟨rfl, _, rfl, ?_, ⟨l1, g1, q3⟩, q2⟩
          rw [grdQ, if_pos hz, e1]
          dsimp only
          rw [if_neg c2]
          by_cases z : k < l1.length
          · rw [if_pos z, if_pos (by omega)]
          · rw [if_neg z, if_neg (by omega)]
        · refine aw_aload_n dX5_greedy_52 rfl ?_
          refine aw_get kg_X5_23 (by assumption) (by rfl) dX5_greedy_53 ?_
          -- at 56: .invokevirtual 130
          refine aw_Vi0 kc_X5_130 (c_Row_length (d := d + 9) q3) (by assumption) rfl rfl (by omega) (Nat.le_of_ble_eq_true rfl) dX5_greedy_56 (fun v h2 q5 => ?_)
          obtain ⟨rfl, rfl⟩ := q5
          refine aw_goto (tgt := 70) dX5_greedy_59 (by decide) ?_
          -- at 70: .ireturn
          refine aw_iret rfl dX5_greedy_70 ⟨rfl, _, rfl, ?_, ⟨l1, g1, q3⟩, q2⟩
          rw [grdQ, if_pos hz, e1]
          dsimp only
          rw [if_pos (by omega)]
    · refine aw_if_ne (tgt := 47) dX5_greedy_41 (by omega) (by decide) (fun c1 => ?_) (fun c1 => ?_)
      · omega
      · refine aw_bipush dX5_greedy_44 (by decide) ?_
        -- at 46: .ireturn
        refine aw_iret rfl dX5_greedy_46 ⟨rfl, _, rfl, ?_, ⟨l1, q4, q3⟩, q2⟩
        rw [grdQ, if_pos hz, e1]
  refine aw_iload_n dX5_greedy_0 rfl ?_
  -- at 1: .ifCond .lt 13
  refine aw_if_lt (tgt := 14) dX5_greedy_1 (by omega) (by decide) (fun c1 => ?_) (fun c1 => ?_)
  · exact bad _ (by omega)
  · refine aw_iload_n dX5_greedy_4 rfl ?_
    refine aw_iconst dX5_greedy_5 ?_
    -- at 6: .if_icmp .gt 8
    refine aw_icmp_gt (tgt := 14) dX5_greedy_6 (by omega) (by omega) (by decide) (fun c2 => ?_) (fun c2 => ?_)
    · exact bad _ (by omega)
    · refine aw_iload_n dX5_greedy_9 rfl ?_
      refine aw_iconst dX5_greedy_10 ?_
      -- at 11: .if_icmp .ge 5
      refine aw_icmp_ge (tgt := 16) dX5_greedy_11 (by omega) (by omega) (by decide) (fun c3 => ?_) (fun c3 => ?_)
      rotate_left
      · exact bad _ (by omega)
      · refine aw_aload_n dX5_greedy_16 rfl ?_
        refine aw_get kg_X5_9 (by assumption) (by rfl) dX5_greedy_17 ?_
        refine aw_aload_n dX5_greedy_20 rfl ?_
        refine aw_get kg_X5_13 (by assumption) (by rfl) dX5_greedy_21 ?_
        refine aw_iload_n dX5_greedy_24 rfl ?_
        refine aw_iconst dX5_greedy_25 ?_
        -- at 26: .if_icmp .ne 7
        refine aw_icmp_ne (tgt := 33) dX5_greedy_26 (by omega) (by omega) (by decide) (fun c4 => ?_) (fun c4 => ?_)
        · refine aw_iconst dX5_greedy_33 ?_
          exact rest (by omega) 0 (by rw [if_neg (by simpa using c4)])
        · refine aw_iconst dX5_greedy_29 ?_
          refine aw_goto (tgt := 34) dX5_greedy_30 (by decide) ?_
          exact rest (by omega) 1 (by rw [if_pos (by simp; omega)])
end Greedily
