/-! the greedy ways: the reference -/
def par (odd : Bool) (last : Nat) : Prop := odd = true → last = 0 ∨ last % 2 = 1
theorem par.next {odd : Bool} (a b last : Nat) : par odd (gD odd a b last) := by
  intro z
  subst z
  right
  rw [gD_eq]
  by_cases e : gX a b last % 2 = 0
  · rw [if_pos ⟨rfl, e⟩]; omega
  · rw [if_neg (fun q => e q.2)]; omega
theorem gD_ref {odd : Bool} {a b last c : Nat} {st : Nat} (hc : c = (b + a - 1) / a) (hc1 : 1 ≤ c) (hp : par odd last) (hs : (odd = true ∧ st = 2) ∨ (odd = false ∧ st = 1)) {c' : Nat} (hc' : c' = if st = 2 ∧ c % 2 = 0 then c + 1 else c) : gD odd a b last = if last < c' then c' else last + st := by
  rw [gD_eq, gX_eq, ← hc]
  rcases hs with ⟨rfl, rfl⟩ | ⟨rfl, rfl⟩
  · have := hp rfl
    by_cases e : c % 2 = 0
    · rw [if_pos ⟨rfl, e⟩] at hc'
      by_cases z : last + 1 ≤ c
      · rw [if_pos z, if_pos ⟨rfl, e⟩, if_pos (by omega)]; omega
      · rw [if_neg z, if_neg (show ¬ last < c' by omega), if_pos ⟨rfl, by omega⟩]
    · rw [if_neg (fun q => e q.2)] at hc'
      by_cases z : last + 1 ≤ c
      · rw [if_pos z, if_neg (fun q => e q.2), if_pos (by omega)]; omega
      · rw [if_neg z, if_neg (show ¬ last < c' by omega), if_pos ⟨rfl, by omega⟩]
  · rw [if_neg (by omega)] at hc'
    rw [if_neg (by simp)]
    by_cases z : last + 1 ≤ c
    · rw [if_pos z, if_pos (by omega)]; omega
    · rw [if_neg z, if_neg (show ¬ last < c' by omega)]
/-- numbers in an array -/
def isArr (h : AH) (r len : Nat) (l : List Int) : Prop := ∃ f, h r = aA 0 len f ∧ ∀ i, i < l.length → f i = l.getD i 0
theorem isArr.fr {h h' : AH} {r len : Nat} {l : List Int} (H : isArr h r len l) (h1 : h' r = h r) : isArr h' r len l := ⟨H.choose, h1.trans H.choose_spec.1, H.choose_spec.2⟩
/-- what least leaves -/
def ltQ (h : AH) (res : Option (List Int)) (v : Int) (h' : AH) : Prop := (∀ j, j ≠ 60 → h' j = h j) ∧ ((∃ l, res = some l ∧ v = (l.length : Int) ∧ isArr h' 60 8 l) ∨ (res = none ∧ v = -9 ∧ isArr h' 60 8 []))
section Least
variable {d n : Nat} {u p q sn lt e1 e2 e3 e4 e5 e6 e7 e8 : Int}
theorem lt_loop {odd : Bool} {st : Nat} {h0 : AH} {res : Option (List Int)} (hs : (odd = true ∧ st = 2) ∨ (odd = false ∧ st = 1)) :
    ∀ (f a b last k : Nat) (h : AH) (l : List Int) (L9 L11 : Option AV), f + k = 8 → k = l.length → h 52 = aO 6 (mdl u p q sn lt e1 e2 e3 e4 e5 e6 e7 e8) → isArr h 60 8 l → gInv l last → par odd last → last ≤ 1000000 → a ≤ 1048576 → 1 ≤ b → b ≤ 4503599627370496 → gOK odd f a b last = true → (∀ j, j ≠ 60 → h j = h0 j) → grd odd f a b last l = res →
      AW mX6_least (am_R (d + 2) 0 0) (am_Z (aqi n fun v h' => ltQ h0 res v h') 0 0) 0 0 n h 19 [some (aR 52), some (aI (st : Int)), some (aL (a : Int)), none, some (aL (b : Int)), none, some (aL (last : Int)), none, some (aI (k : Int)), L9, none, L11, none] [] := by
  intro f
  -- the number chosen, then the rest
  have pick : ∀ (a b last k : Nat) (h : AH) (L9 L11 : Option AV), 1 ≤ a → a ≤ 1048576 → 1 ≤ b → b ≤ 4503599627370496 → last ≤ 1000000 → par odd last → k ≤ 8 →
      (∀ L9, AW mX6_least (am_R (d + 2) 0 0) (am_Z (aqi n fun v h' => ltQ h0 res v h') 0 0) 0 0 n h 79 [some (aR 52), some (aI (st : Int)), some (aL (a : Int)), none, some (aL (b : Int)), none, some (aL (last : Int)), none, some (aI (k : Int)), L9, none, L11, none] [aL ((gD odd a b last : Nat) : Int)]) →
      AW mX6_least (am_R (d + 2) 0 0) (am_Z (aqi n fun v h' => ltQ h0 res v h') 0 0) 0 0 n h 19 [some (aR 52), some (aI (st : Int)), some (aL (a : Int)), none, some (aL (b : Int)), none, some (aL (last : Int)), none, some (aI (k : Int)), L9, none, L11, none] [] := by
    intro a b last k h L9 L11 ha ha2 hb hb2 hlast hp hk K
    have hc1 : 1 ≤ (b + a - 1) / a := Nat.div_pos (by omega) (by omega)
    have hcu : (b + a - 1) / a ≤ b + a - 1 := Nat.div_le_self _ _
    obtain ⟨c, hc⟩ : ∃ c, c = (b + a - 1) / a := ⟨_, rfl⟩
    rw [← hc] at hc1 hcu
    have hst : st = 1 ∨ st = 2 := by omega
    refine aw_lload_n dX6_least_19 rfl ?_
    refine aw_lconst (a := 0) dX6_least_20 (by decide) ?_
    -- at 21: .lcmp
    refine aw_lcmp_le (tgt := 155) dX6_least_21 dX6_least_22 (by omega) (by omega) (by decide) (fun c1 => ?_) (fun c1 => ?_)
    · omega
    · refine aw_lload dX6_least_25 rfl ?_
      refine aw_lload_n dX6_least_27 rfl ?_
      refine aw_ladd dX6_least_28 ?_
      refine aw_lconst (a := 1) dX6_least_29 (by decide) ?_
      refine aw_lsub dX6_least_30 ?_
      refine aw_lload_n dX6_least_31 rfl ?_
      refine aw_ldiv dX6_least_32 (by omega) (by omega) ?_
      refine aw_val (w := aL (c : Int)) (by rw [cst_ceil ha, hc]) ?_
      have K61 : ∀ c' : Nat, c' = (if st = 2 ∧ c % 2 = 0 then c + 1 else c) → AW mX6_least (am_R (d + 2) 0 0) (am_Z (aqi n fun v h' => ltQ h0 res v h') 0 0) 0 0 n h 61 [some (aR 52), some (aI (st : Int)), some (aL (a : Int)), none, some (aL (b : Int)), none, some (aL (last : Int)), none, some (aI (k : Int)), some (aL (c' : Int)), none, L11, none] [] := by
        intro c' hc'
        have hcb : c' ≤ c + 1 := by rw [hc']; split <;> omega
        have eD := gD_ref hc hc1 hp hs hc'
        refine aw_lload dX6_least_61 rfl ?_
        refine aw_lload dX6_least_63 rfl ?_
        -- at 65: .lcmp
        refine aw_lcmp_gt (tgt := 77) dX6_least_65 dX6_least_66 (by omega) (by omega) (by decide) (fun c2 => ?_) (fun c2 => ?_)
        · refine aw_lload dX6_least_77 rfl ?_
          rw [if_pos (by omega)] at eD
          rw [eD] at K
          exact K _
        · refine aw_lload dX6_least_69 rfl ?_
          refine aw_iload_n dX6_least_71 rfl ?_
          refine aw_i2l dX6_least_72 (by omega) ?_
          refine aw_ladd dX6_least_73 ?_
          refine aw_goto (tgt := 79) dX6_least_74 (by decide) ?_
          rw [if_neg (by omega)] at eD
          rw [eD, show ((last + st : Nat) : Int) = (last : Int) + (st : Int) by omega] at K
          exact K _
      refine aw_lstore dX6_least_33 (by decide) ?_
      refine aw_lload dX6_least_35 rfl ?_
      refine aw_iload_n dX6_least_37 rfl ?_
      refine aw_iconst dX6_least_38 ?_
      -- at 39: .if_icmp .ne 18
      refine aw_icmp_ne (tgt := 57) dX6_least_39 (by omega) (by omega) (by decide) (fun c2 => ?_) (fun c2 => ?_)
      · refine aw_lconst (a := 0) dX6_least_57 (by decide) ?_
        refine aw_ladd dX6_least_58 ?_
        refine aw_lstore dX6_least_59 (by decide) ?_
        have KK := K61 c (by rw [if_neg (by omega)])
        rw [show (c : Int) = (c : Int) + 0 by omega] at KK
        exact KK
      · refine aw_lload dX6_least_42 rfl ?_
        refine aw_ldc2 kl_X6_126 dX6_least_44 ?_
        refine aw_lrem dX6_least_47 (by omega) (by omega) ?_
        refine aw_val (w := aL ((c % 2 : Nat) : Int)) (by rw [show (2 : Int) = ((2 : Nat) : Int) from rfl, cst_mod]) ?_
        refine aw_lconst (a := 0) dX6_least_48 (by decide) ?_
        -- at 49: .lcmp
        refine aw_lcmp_ne (tgt := 57) dX6_least_49 dX6_least_50 (by omega) (by omega) (by decide) (fun c3 => ?_) (fun c3 => ?_)
        · refine aw_lconst (a := 0) dX6_least_57 (by decide) ?_
          refine aw_ladd dX6_least_58 ?_
          refine aw_lstore dX6_least_59 (by decide) ?_
          have KK := K61 c (by rw [if_neg (by omega)])
          rw [show (c : Int) = (c : Int) + 0 by omega] at KK
          exact KK
        · refine aw_lconst (a := 1) dX6_least_53 (by decide) ?_
          refine aw_goto (tgt := 58) dX6_least_54 (by decide) ?_
          refine aw_ladd dX6_least_58 ?_
          refine aw_lstore dX6_least_59 (by decide) ?_
          have KK := K61 (c + 1) (by rw [if_pos (by omega)])
          rw [show ((c + 1 : Nat) : Int) = (c : Int) + 1 by omega] at KK
          exact KK
  have zero : ∀ (f a b last k : Nat) (h : AH) (l : List Int) (L9 L11 : Option AV), k = l.length → k ≤ 8 → isArr h 60 8 l → a = 0 → (∀ j, j ≠ 60 → h j = h0 j) → grd odd f a b last l = res → 
      AW mX6_least (am_R (d + 2) 0 0) (am_Z (aqi n fun v h' => ltQ h0 res v h') 0 0) 0 0 n h 19 [some (aR 52), some (aI (st : Int)), some (aL (a : Int)), none, some (aL (b : Int)), none, some (aL (last : Int)), none, some (aI (k : Int)), L9, none, L11, none] [] := by
    intro f a b last k h l L9 L11 hk hk8 hA ha hfr hres
    subst ha
    have e : res = some l := by
      cases f with
      | zero => rw [← hres, grd, if_pos rfl]
      | succ f => rw [← hres, grd, if_pos rfl]
    refine aw_lload_n dX6_least_19 rfl ?_
    refine aw_lconst (a := 0) dX6_least_20 (by decide) ?_
    -- at 21: .lcmp
    refine aw_lcmp_le (tgt := 155) dX6_least_21 dX6_least_22 (by omega) (by omega) (by decide) (fun c1 => ?_) (fun c1 => ?_)
    · refine aw_iload dX6_least_155 rfl ?_
      -- at 157: .ireturn
      exact aw_iret rfl dX6_least_157 ⟨rfl, _, rfl, hfr, Or.inl ⟨l, e, by omega, hA⟩⟩
    · omega
  induction f with
  | zero =>
    intro a b last k h l L9 L11 hf hk hM hA hi hp hlast ha hb hb2 hok hfr hres
    by_cases a0 : a = 0
    · exact zero 0 a b last k h l L9 L11 hk (by omega) hA a0 hfr hres
    · refine pick a b last k h L9 L11 (by omega) ha hb hb2 hlast hp (by omega) (fun L9 => ?_)
      rw [grd, if_neg a0] at hres
      refine aw_lstore dX6_least_79 (by decide) ?_
      refine aw_iload dX6_least_81 rfl ?_
      refine aw_bipush dX6_least_83 (by decide) ?_
      -- at 85: .if_icmp .eq 12
      refine aw_icmp_eq (tgt := 97) dX6_least_85 (by omega) (by omega) (by decide) (fun c1 => ?_) (fun c1 => ?_)
      · refine aw_bipush dX6_least_97 (by decide) ?_
        -- at 99: .ireturn
        obtain ⟨ff, hA1, -⟩ := hA
        exact aw_iret rfl dX6_least_99 ⟨rfl, _, rfl, hfr, Or.inr ⟨hres.symm, rfl, ff, hA1, fun i hi => absurd hi (by simp)⟩⟩
      · omega
  | succ f ih =>
    intro a b last k h l L9 L11 hf hk hM hA hi hp hlast ha hb hb2 hok hfr hres
    by_cases a0 : a = 0
    · exact zero (f + 1) a b last k h l L9 L11 hk (by omega) hA a0 hfr hres
    · refine pick a b last k h L9 L11 (by omega) ha hb hb2 hlast hp (by omega) (fun L9 => ?_)
      have ha1 : 1 ≤ a := by omega
      have hr := gD_rng (odd := odd) (a := a) (b := b) (last := last) ha1 hb
      have hdu : gD odd a b last ≤ gX a b last + 1 := by
        rw [gD_eq]; split <;> omega
      have hcu : (b + a - 1) / a ≤ b + a - 1 := Nat.div_le_self _ _
      have hxu : gX a b last ≤ last + 1 + (b + a) := by
        rw [gX_eq]; split <;> omega
      rw [grd, if_neg a0] at hres
      obtain ⟨ff, hA1, hA2⟩ := hA
      refine aw_lstore dX6_least_79 (by decide) ?_
      refine aw_iload dX6_least_81 rfl ?_
      refine aw_bipush dX6_least_83 (by decide) ?_
      -- at 85: .if_icmp .eq 12
      refine aw_icmp_eq (tgt := 97) dX6_least_85 (by omega) (by omega) (by decide) (fun c1 => ?_) (fun c1 => ?_)
      · omega
      · refine aw_lload dX6_least_88 rfl ?_
        refine aw_ldc2 kl_X6_128 dX6_least_90 ?_
        -- at 93: .lcmp
        refine aw_lcmp_le (tgt := 100) dX6_least_93 dX6_least_94 (by omega) (by omega) (by decide) (fun c2 => ?_) (fun c2 => ?_)
        · have hD : gD odd a b last ≤ 1000000 := by omega
          rw [if_neg (by omega)] at hres
          obtain ⟨s1, s2, s3, s4⟩ := gOK_step hok ha1 hD
          have hbd : 1 ≤ b * gD odd a b last := Nat.mul_pos (by omega) (by omega)
          have hg : 0 < Nat.gcd (a * gD odd a b last - b) (b * gD odd a b last) := Nat.gcd_pos_of_pos_right _ hbd
          have hle : Nat.gcd (a * gD odd a b last - b) (b * gD odd a b last) ≤ b * gD odd a b last := Nat.gcd_le_right _ hbd
          refine aw_aload_n dX6_least_100 rfl ?_
          refine aw_get kg_X6_39 (by assumption) (by rfl) dX6_least_101 ?_
          refine aw_iload dX6_least_104 rfl ?_
          refine aw_lload dX6_least_106 rfl ?_
          refine aw_l2i dX6_least_108 ?_
          -- at 109: .iastore
          refine aw_iastO (by assumption) (by omega) dX6_least_109 (fun h1 hB1 hB2 => ?_)
          refine aw_iinc dX6_least_110 rfl (by decide) ?_
          refine aw_lload_n dX6_least_113 rfl ?_
          refine aw_lload dX6_least_114 rfl ?_
          refine aw_lmul dX6_least_116 ?_
          refine aw_lload dX6_least_117 rfl ?_
          refine aw_lsub dX6_least_119 ?_
          refine aw_val (w := aL ((a * gD odd a b last - b : Nat) : Int)) (by rw [cst_mul]; congr 1; omega) ?_
          refine aw_lstore_n dX6_least_120 (by decide) ?_
          refine aw_lload dX6_least_121 rfl ?_
          refine aw_lload dX6_least_123 rfl ?_
          refine aw_lmul dX6_least_125 ?_
          refine aw_val (w := aL ((b * gD odd a b last : Nat) : Int)) (by rw [cst_mul]) ?_
          refine aw_lstore dX6_least_126 (by decide) ?_
          refine aw_lload dX6_least_128 rfl ?_
          refine aw_lload_n dX6_least_130 rfl ?_
          -- at 131: .invokestatic 130
          refine aw_Sl2 kc_X6_130 (c6_common (d := d + 1) s2 (by omega)) rfl (by omega) (Nat.le_of_ble_eq_true rfl) dX6_least_131 (fun v h2 q => ?_)
          obtain ⟨rfl, rfl⟩ := q
          rw [Nat.gcd_comm (b * gD odd a b last)]
          refine aw_lstore dX6_least_134 (by decide) ?_
          refine aw_lload_n dX6_least_136 rfl ?_
          refine aw_lload dX6_least_137 rfl ?_
          refine aw_ldiv dX6_least_139 (by omega) (by omega) ?_
          refine aw_val (w := aL ((gA odd a b last : Nat) : Int)) (by rw [cst_div]) ?_
          refine aw_lstore_n dX6_least_140 (by decide) ?_
          refine aw_lload dX6_least_141 rfl ?_
          refine aw_lload dX6_least_143 rfl ?_
          refine aw_ldiv dX6_least_145 (by omega) (by omega) ?_
          refine aw_val (w := aL ((gB odd a b last : Nat) : Int)) (by rw [cst_div]) ?_
          refine aw_lstore dX6_least_146 (by decide) ?_
          refine aw_lload dX6_least_148 rfl ?_
          refine aw_lstore dX6_least_150 (by decide) ?_
          refine aw_goto (tgt := 19) dX6_least_152 (by decide) ?_
          have gAu : gA odd a b last ≤ a * gD odd a b last - b := Nat.div_le_self _ _
          have gBu : gB odd a b last ≤ b * gD odd a b last := Nat.div_le_self _ _
          have KK := ih (gA odd a b last) (gB odd a b last) (gD odd a b last) (k + 1) h2 (l ++ [((gD odd a b last : Nat) : Int)]) (some (aL ((gD odd a b last : Nat) : Int))) (some (aL (Nat.gcd (a * gD odd a b last - b) (b * gD odd a b last) : Int))) (by omega) (by simp; omega) ((hB2 52 (by omega)).trans hM) ⟨_, hB1, fun i hi => ?_⟩ (hi.app (by omega) hr.1 hD) (par.next a b last) hD (by omega) (Nat.div_pos hle hg) (by omega) s4 (fun j j1 => (hB2 j j1).trans (hfr j j1)) hres
          · rw [show ((k + 1 : Nat) : Int) = (k : Int) + 1 by omega] at KK
            exact KK
          · simp at hi
            rw [gd_app]
            rw [Int.toNat_natCast]
            by_cases z : i < l.length
            · rw [if_pos z, va_up_n _ _ _ (by omega)]; exact hA2 i z
            · have e : i = k := by omega
              rw [if_neg z, if_pos (by omega), e, va_up_s]
        · rw [if_pos (by omega)] at hres
          refine aw_bipush dX6_least_97 (by decide) ?_
          -- at 99: .ireturn
          exact aw_iret rfl dX6_least_99 ⟨rfl, _, rfl, hfr, Or.inr ⟨hres.symm, rfl, ff, hA1, fun i hi => absurd hi (by simp)⟩⟩
theorem c6_least {h : AH} {odd : Bool} {st : Nat} (hs : (odd = true ∧ st = 2) ∨ (odd = false ∧ st = 1)) (hp : 1 ≤ p ∧ p ≤ 99) (hq : 1 ≤ q ∧ q ≤ 99) (hpq : p ≤ 2 * q) (hM : h 52 = aO 6 (mdl u p q sn lt e1 e2 e3 e4 e5 e6 e7 e8)) (hA : isArr h 60 8 []) : AC mX6_least (d + 2) 0 0 n h [aR 52, aI (st : Int)] (aqi n fun v h' => ltQ h (greedyS p q odd) v h') := by
  refine AC.of (by decide) (Nat.le_of_ble_eq_true rfl) ?_
  obtain ⟨a, rfl⟩ : ∃ a : Nat, p = (a : Int) := ⟨p.toNat, by omega⟩
  obtain ⟨b, rfl⟩ : ∃ b : Nat, q = (b : Int) := ⟨q.toNat, by omega⟩
  have g : gOK odd 8 a b 0 = true := by
    cases odd with
    | false => exact gc_false (by omega) (by omega) (by omega)
    | true => exact gc_true (by omega) (by omega) (by omega)
  refine aw_aload_n dX6_least_0 rfl ?_
  refine aw_get kg_X6_17 (by assumption) (by rfl) dX6_least_1 ?_
  refine aw_i2l dX6_least_4 (by omega) ?_
  refine aw_lstore_n dX6_least_5 (by decide) ?_
  refine aw_aload_n dX6_least_6 rfl ?_
  refine aw_get kg_X6_21 (by assumption) (by rfl) dX6_least_7 ?_
  refine aw_i2l dX6_least_10 (by omega) ?_
  refine aw_lstore dX6_least_11 (by decide) ?_
  refine aw_lconst (a := 0) dX6_least_13 (by decide) ?_
  refine aw_lstore dX6_least_14 (by decide) ?_
  refine aw_iconst dX6_least_16 ?_
  refine aw_istore dX6_least_17 (by decide) ?_
  exact lt_loop hs 8 a b 0 0 h [] none none rfl rfl hM hA ⟨inRow_nil, rising_nil, fun _ => rfl, fun z => absurd z (by simp)⟩ (fun _ => Or.inl rfl) (by omega) (by omega) (by omega) (by omega) g (fun _ _ => rfl) rfl
theorem c6_greedy {h : AH} {way k : Int} (hw : -2147483648 ≤ way ∧ way ≤ 2147483647) (hk : -2147483648 ≤ k ∧ k ≤ 2147483647) (hp : 1 ≤ p ∧ p ≤ 99) (hq : 1 ≤ q ∧ q ≤ 99) (hpq : p ≤ 2 * q) (hM : h 52 = aO 6 (mdl u p q sn lt e1 e2 e3 e4 e5 e6 e7 e8)) (hA : isArr h 60 8 []) : AC mX6_greedy (d + 10) 0 0 n h [aR 52, aI way, aI k] (aqi n fun v h' => v = grdQ p q way k ∧ isArr h' 60 8 [] ∧ ∀ j, j ≠ 60 → h' j = h j) := by
  refine AC.of (by decide) (Nat.le_of_ble_eq_true rfl) ?_
  have bad : ∀ L, ¬ ((0 ≤ way ∧ way ≤ 1) ∧ -1 ≤ k) → AW mX6_greedy (am_R (d + 10) 0 0) (am_Z (aqi n fun v h' => v = grdQ p q way k ∧ isArr h' 60 8 [] ∧ ∀ j, j ≠ 60 → h' j = h j) 0 0) 0 0 n h 15 L [] := by
    intro L z
    refine aw_iconst dX6_greedy_15 ?_
    -- at 16: .ireturn
    exact aw_iret rfl dX6_greedy_16 ⟨rfl, _, rfl, by rw [grdQ, if_neg z], hA, fun j _ => rfl⟩
  refine aw_iload_n dX6_greedy_0 rfl ?_
  refine aw_i2l dX6_greedy_1 (by omega) ?_
  refine aw_lconst (a := 0) dX6_greedy_2 (by decide) ?_
  refine aw_lconst (a := 1) dX6_greedy_3 (by decide) ?_
  -- at 4: .invokestatic 66
  refine aw_Si3 kc_X6_66 (c_in (d := d + 9) (by omega) (by omega) (by omega)) rfl (by omega) (Nat.le_of_ble_eq_true rfl) dX6_greedy_4 (fun v h1 q1 => ?_)
  obtain ⟨rfl, rfl⟩ := q1
  refine aw_flag_eq (tgt := 15) dX6_greedy_7 (by decide) (fun c1 => ?_) (fun c1 => ?_)
  · exact bad _ (fun z => c1 z.1)
  · refine aw_iload_n dX6_greedy_10 rfl ?_
    refine aw_iconst dX6_greedy_11 ?_
    -- at 12: .if_icmp .ge 5
    refine aw_icmp_ge (tgt := 17) dX6_greedy_12 (by omega) (by omega) (by decide) (fun c2 => ?_) (fun c2 => ?_)
    rotate_left
    · exact bad _ (by omega)
    · obtain ⟨st, hst⟩ : ∃ st : Nat, way + 1 = (st : Int) := ⟨(way + 1).toNat, by omega⟩
      have hs : (decide (way = 1) = true ∧ st = 2) ∨ (decide (way = 1) = false ∧ st = 1) := by
        by_cases z : way = 1
        · exact Or.inl ⟨by simp [z], by omega⟩
        · exact Or.inr ⟨by simp [z], by omega⟩
      refine aw_aload_n dX6_greedy_17 rfl ?_
      refine aw_iload_n dX6_greedy_18 rfl ?_
      refine aw_iconst dX6_greedy_19 ?_
      refine aw_iadd dX6_greedy_20 ?_
      refine aw_val (w := aI (st : Int)) (by rw [hst]) ?_
      refine aw_Vi1 kc_X6_151 (c6_least (d := d + 7) hs hp hq hpq hM hA) (by assumption) rfl rfl (by omega) (Nat.le_of_ble_eq_true rfl) dX6_greedy_21 (fun v h2 q1 => ?_)
      obtain ⟨q2, ⟨l, e1, rfl, ff, hB1, hB2⟩ | ⟨e1, rfl, hB⟩⟩ := q1
      · obtain ⟨⟨g1, g1'⟩, g2⟩ := greedyS_ok hq.1 e1
        have hM2 := (q2 52 (by omega)).trans hM
        have fin : ∀ i, i < ([] : List Int).length → ff i = ([] : List Int).getD i 0 := fun i hi => absurd hi (by simp)
        refine aw_istore_n dX6_greedy_24 (by decide) ?_
        refine aw_iload_n dX6_greedy_25 rfl ?_
        -- at 26: .ifCond .ge 7
        refine aw_if_ge (tgt := 33) dX6_greedy_26 (by omega) (by decide) (fun c3 => ?_) (fun c3 => ?_)
        · refine aw_iload_n dX6_greedy_33 rfl ?_
          refine aw_iload_n dX6_greedy_34 rfl ?_
          -- at 35: .if_icmp .ge 12
          refine aw_icmp_ge (tgt := 47) dX6_greedy_35 (by omega) (by omega) (by decide) (fun c4 => ?_) (fun c4 => ?_)
          · refine aw_bipush dX6_greedy_47 (by decide) ?_
            -- at 49: .ireturn
            refine aw_iret rfl dX6_greedy_49 ⟨rfl, _, rfl, ?_, ⟨ff, hB1, fin⟩, q2⟩
            rw [grdQ, if_pos ⟨c1, c2⟩, e1]
            dsimp only
            rw [if_neg (by omega), if_neg (by omega)]
          · refine aw_aload_n dX6_greedy_38 rfl ?_
            refine aw_get kg_X6_39 (by assumption) (by rfl) dX6_greedy_39 ?_
            refine aw_iload_n dX6_greedy_42 rfl ?_
            refine aw_iald (by assumption) (by omega) dX6_greedy_43 ?_
            refine aw_goto (tgt := 49) dX6_greedy_44 (by decide) ?_
            -- at 49: .ireturn
            refine aw_iret rfl dX6_greedy_49 ⟨rfl, _, rfl, ?_, ⟨ff, hB1, fin⟩, q2⟩
            rw [grdQ, if_pos ⟨c1, c2⟩, e1]
            dsimp only
            rw [if_neg (by omega), if_pos (by omega)]
            exact hB2 _ (by omega)
        · refine aw_iload_n dX6_greedy_29 rfl ?_
          refine aw_goto (tgt := 49) dX6_greedy_30 (by decide) ?_
          -- at 49: .ireturn
          refine aw_iret rfl dX6_greedy_49 ⟨rfl, _, rfl, ?_, ⟨ff, hB1, fin⟩, q2⟩
          rw [grdQ, if_pos ⟨c1, c2⟩, e1]
          dsimp only
          rw [if_pos (by omega)]
      · have ans : -9 = grdQ p q way k := by
          rw [grdQ, if_pos ⟨c1, c2⟩, e1]
        refine aw_istore_n dX6_greedy_24 (by decide) ?_
        refine aw_iload_n dX6_greedy_25 rfl ?_
        -- at 26: .ifCond .ge 7
        refine aw_if_ge (tgt := 33) dX6_greedy_26 (by omega) (by decide) (fun c3 => ?_) (fun c3 => ?_)
        · refine aw_iload_n dX6_greedy_33 rfl ?_
          refine aw_iload_n dX6_greedy_34 rfl ?_
          -- at 35: .if_icmp .ge 12
          refine aw_icmp_ge (tgt := 47) dX6_greedy_35 (by omega) (by omega) (by decide) (fun c4 => ?_) (fun c4 => ?_)
          · refine aw_bipush dX6_greedy_47 (by decide) ?_
            -- at 49: .ireturn
            exact aw_iret rfl dX6_greedy_49 ⟨rfl, _, rfl, ans, hB, q2⟩
          · omega
        · refine aw_iload_n dX6_greedy_29 rfl ?_
          refine aw_goto (tgt := 49) dX6_greedy_30 (by decide) ?_
          -- at 49: .ireturn
          exact aw_iret rfl dX6_greedy_49 ⟨rfl, _, rfl, ans, hB, q2⟩
end Least
