/-! the greedy ways: pure side, and that no number grows too large -/
def gX (a b last : Nat) : Nat := bif Nat.ble (last + 1) ((b + a - 1) / a) then (b + a - 1) / a else last + 1
def gD (odd : Bool) (a b last : Nat) : Nat := bif odd && Nat.beq (gX a b last % 2) 0 then gX a b last + 1 else gX a b last
def gOK (odd : Bool) : Nat → Nat → Nat → Nat → Bool
  | 0, _, _, _ => true
  | f + 1, a, b, last => Nat.beq a 0 || (Nat.ble 1000001 (gD odd a b last) || (Nat.ble (a * gD odd a b last) 8589934592 && (Nat.ble (b * gD odd a b last) 4503599627370496 && (Nat.ble (a * gD odd a b last - b) 1048576 &&
      gOK odd f ((a * gD odd a b last - b) / Nat.gcd (a * gD odd a b last - b) (b * gD odd a b last)) ((b * gD odd a b last) / Nat.gcd (a * gD odd a b last - b) (b * gD odd a b last)) (gD odd a b last)))))
def gRow (odd : Bool) (lo n : Nat) : Bool := (List.range n).all (fun q => (List.range 99).all (fun p => Nat.ble (2 * (q + lo) + 1) (p + 1) || gOK odd 8 (p + 1) (q + lo) 0))
set_option maxRecDepth 100000 in
theorem gc_f1 : gRow false 1 11 = true := by decide +kernel
set_option maxRecDepth 100000 in
theorem gc_f12 : gRow false 12 11 = true := by decide +kernel
set_option maxRecDepth 100000 in
theorem gc_f23 : gRow false 23 11 = true := by decide +kernel
set_option maxRecDepth 100000 in
theorem gc_f34 : gRow false 34 11 = true := by decide +kernel
set_option maxRecDepth 100000 in
theorem gc_f45 : gRow false 45 11 = true := by decide +kernel
set_option maxRecDepth 100000 in
theorem gc_f56 : gRow false 56 11 = true := by decide +kernel
set_option maxRecDepth 100000 in
theorem gc_f67 : gRow false 67 11 = true := by decide +kernel
set_option maxRecDepth 100000 in
theorem gc_f78 : gRow false 78 11 = true := by decide +kernel
set_option maxRecDepth 100000 in
theorem gc_f89 : gRow false 89 11 = true := by decide +kernel
set_option maxRecDepth 100000 in
theorem gc_t1 : gRow true 1 11 = true := by decide +kernel
set_option maxRecDepth 100000 in
theorem gc_t12 : gRow true 12 11 = true := by decide +kernel
set_option maxRecDepth 100000 in
theorem gc_t23 : gRow true 23 11 = true := by decide +kernel
set_option maxRecDepth 100000 in
theorem gc_t34 : gRow true 34 11 = true := by decide +kernel
set_option maxRecDepth 100000 in
theorem gc_t45 : gRow true 45 11 = true := by decide +kernel
set_option maxRecDepth 100000 in
theorem gc_t56 : gRow true 56 11 = true := by decide +kernel
set_option maxRecDepth 100000 in
theorem gc_t67 : gRow true 67 11 = true := by decide +kernel
set_option maxRecDepth 100000 in
theorem gc_t78 : gRow true 78 11 = true := by decide +kernel
set_option maxRecDepth 100000 in
theorem gc_t89 : gRow true 89 11 = true := by decide +kernel
theorem gc_false {p q : Nat} (hp : 1 ≤ p ∧ p ≤ 99) (hq : 1 ≤ q ∧ q ≤ 99) (h : p ≤ 2 * q) : gOK false 8 p q 0 = true := by
  have use : ∀ lo n, gRow false lo n = true → lo ≤ q → q < lo + n → gOK false 8 p q 0 = true := by
    intro lo n hr h1 h2
    have g1 := List.all_eq_true.mp hr (q - lo) (List.mem_range.mpr (by omega))
    have g2 := List.all_eq_true.mp g1 (p - 1) (List.mem_range.mpr (by omega))
    rw [show q - lo + lo = q by omega, show p - 1 + 1 = p by omega] at g2
    rcases Bool.or_eq_true_iff.mp g2 with z | z
    · have := Nat.le_of_ble_eq_true z; omega
    · exact z
  by_cases z1 : q < 12
  · exact use 1 11 gc_f1 (by omega) z1
  by_cases z12 : q < 23
  · exact use 12 11 gc_f12 (by omega) z12
  by_cases z23 : q < 34
  · exact use 23 11 gc_f23 (by omega) z23
  by_cases z34 : q < 45
  · exact use 34 11 gc_f34 (by omega) z34
  by_cases z45 : q < 56
  · exact use 45 11 gc_f45 (by omega) z45
  by_cases z56 : q < 67
  · exact use 56 11 gc_f56 (by omega) z56
  by_cases z67 : q < 78
  · exact use 67 11 gc_f67 (by omega) z67
  by_cases z78 : q < 89
  · exact use 78 11 gc_f78 (by omega) z78
  by_cases z89 : q < 100
  · exact use 89 11 gc_f89 (by omega) z89
  omega
theorem gc_true {p q : Nat} (hp : 1 ≤ p ∧ p ≤ 99) (hq : 1 ≤ q ∧ q ≤ 99) (h : p ≤ 2 * q) : gOK true 8 p q 0 = true := by
  have use : ∀ lo n, gRow true lo n = true → lo ≤ q → q < lo + n → gOK true 8 p q 0 = true := by
    intro lo n hr h1 h2
    have g1 := List.all_eq_true.mp hr (q - lo) (List.mem_range.mpr (by omega))
    have g2 := List.all_eq_true.mp g1 (p - 1) (List.mem_range.mpr (by omega))
    rw [show q - lo + lo = q by omega, show p - 1 + 1 = p by omega] at g2
    rcases Bool.or_eq_true_iff.mp g2 with z | z
    · have := Nat.le_of_ble_eq_true z; omega
    · exact z
  by_cases z1 : q < 12
  · exact use 1 11 gc_t1 (by omega) z1
  by_cases z12 : q < 23
  · exact use 12 11 gc_t12 (by omega) z12
  by_cases z23 : q < 34
  · exact use 23 11 gc_t23 (by omega) z23
  by_cases z34 : q < 45
  · exact use 34 11 gc_t34 (by omega) z34
  by_cases z45 : q < 56
  · exact use 45 11 gc_t45 (by omega) z45
  by_cases z56 : q < 67
  · exact use 56 11 gc_t56 (by omega) z56
  by_cases z67 : q < 78
  · exact use 67 11 gc_t67 (by omega) z67
  by_cases z78 : q < 89
  · exact use 78 11 gc_t78 (by omega) z78
  by_cases z89 : q < 100
  · exact use 89 11 gc_t89 (by omega) z89
  omega
theorem gX_eq (a b last : Nat) : gX a b last = if last + 1 ≤ (b + a - 1) / a then (b + a - 1) / a else last + 1 := by
  unfold gX
  by_cases h : last + 1 ≤ (b + a - 1) / a
  · rw [if_pos h, Nat.ble_eq_true_of_le h]; rfl
  · rw [if_neg h]
    cases hb : Nat.ble (last + 1) ((b + a - 1) / a) with
    | true => exact absurd (Nat.le_of_ble_eq_true hb) h
    | false => rfl
theorem gD_eq (odd : Bool) (a b last : Nat) : gD odd a b last = if odd = true ∧ gX a b last % 2 = 0 then gX a b last + 1 else gX a b last := by
  unfold gD
  cases odd with
  | false => simp
  | true =>
    by_cases h : gX a b last % 2 = 0
    · rw [if_pos ⟨rfl, h⟩, h]; rfl
    · rw [if_neg (fun z => h z.2)]
      cases hb : Nat.beq (gX a b last % 2) 0 with
      | true => exact absurd (Nat.eq_of_beq_eq_true hb) h
      | false => rfl
/-- the next number, as a plain case -/
theorem gD_rng {odd : Bool} {a b last : Nat} (ha : 1 ≤ a) (hb : 1 ≤ b) : last + 1 ≤ gD odd a b last ∧ b ≤ a * gD odd a b last := by
  have hc : b ≤ a * ((b + a - 1) / a) := by
    have h1 := Nat.div_add_mod (b + a - 1) a
    have h2 := Nat.mod_lt (b + a - 1) (show a > 0 by omega)
    omega
  have hx : last + 1 ≤ gX a b last ∧ (b + a - 1) / a ≤ gX a b last := by
    rw [gX_eq]
    split <;> omega
  have hd : gX a b last ≤ gD odd a b last := by
    rw [gD_eq]
    split <;> omega
  exact ⟨by omega, Nat.le_trans hc (Nat.mul_le_mul_left a (by omega))⟩
theorem gOK_step {odd : Bool} {f a b last : Nat} (h : gOK odd (f + 1) a b last = true) (ha : 1 ≤ a) (hd : gD odd a b last ≤ 1000000) : a * gD odd a b last ≤ 8589934592 ∧ b * gD odd a b last ≤ 4503599627370496 ∧ a * gD odd a b last - b ≤ 1048576 ∧ gOK odd f ((a * gD odd a b last - b) / Nat.gcd (a * gD odd a b last - b) (b * gD odd a b last)) ((b * gD odd a b last) / Nat.gcd (a * gD odd a b last - b) (b * gD odd a b last)) (gD odd a b last) = true := by
  unfold gOK at h
  rcases Bool.or_eq_true_iff.mp h with z | z
  · have := Nat.eq_of_beq_eq_true z; omega
  · rcases Bool.or_eq_true_iff.mp z with z | z
    · have := Nat.le_of_ble_eq_true z; omega
    · rw [Bool.and_eq_true, Bool.and_eq_true, Bool.and_eq_true] at z
      exact ⟨Nat.le_of_ble_eq_true z.1, Nat.le_of_ble_eq_true z.2.1, Nat.le_of_ble_eq_true z.2.2.1, z.2.2.2⟩
abbrev gA (odd : Bool) (a b last : Nat) : Nat := (a * gD odd a b last - b) / Nat.gcd (a * gD odd a b last - b) (b * gD odd a b last)
abbrev gB (odd : Bool) (a b last : Nat) : Nat := (b * gD odd a b last) / Nat.gcd (a * gD odd a b last - b) (b * gD odd a b last)
def grd (odd : Bool) : Nat → Nat → Nat → Nat → List Int → Option (List Int)
  | 0, a, _, _, l => if a = 0 then some l else none
  | f + 1, a, b, last, l => if a = 0 then some l else if 1000000 < gD odd a b last then none else grd odd f (gA odd a b last) (gB odd a b last) (gD odd a b last) (l ++ [(gD odd a b last : Int)])
def greedyS (p q : Int) (odd : Bool) : Option (List Int) := grd odd 8 p.toNat q.toNat 0 []
def rising (l : List Int) : Prop := ∀ i j, i < j → j < l.length → l.getD i 0 < l.getD j 0
/-- a list so far, its last number -/
def gInv (l : List Int) (last : Nat) : Prop := inRow l ∧ rising l ∧ (l.length = 0 → last = 0) ∧ (0 < l.length → l.getD (l.length - 1) 0 = (last : Int))
theorem gInv.app {l : List Int} {last x : Nat} (h : gInv l last) (h8 : l.length < 8) (hx : last + 1 ≤ x) (hm : x ≤ 1000000) : gInv (l ++ [(x : Int)]) x := by
  obtain ⟨⟨h1, h1'⟩, h2, h3, h4⟩ := h
  refine ⟨⟨by simp; omega, fun i hi => ?_⟩, fun i j hij hj => ?_, fun z => by simp at z, fun _ => by rw [gd_app]; simp⟩
  · rw [gd_app]
    simp at hi
    by_cases q : i < l.length
    · rw [if_pos q]; exact h1' i q
    · rw [if_neg q, if_pos (by omega)]; omega
  · rw [gd_app, gd_app]
    simp at hj
    by_cases q : j < l.length
    · rw [if_pos (by omega), if_pos q]; exact h2 i j hij q
    · rw [if_pos (by omega), if_neg q, if_pos (by omega)]
      have h4' := h4 (by omega)
      by_cases z : i = l.length - 1
      · rw [z]; omega
      · have := h2 i (l.length - 1) (by omega) (by omega)
        omega
theorem gInv.last {l : List Int} {last x : Nat} (h : gInv l last) (hx : last + 1 ≤ x) : lastv l < (x : Int) := by
  unfold lastv
  obtain ⟨-, -, h3, h4⟩ := h
  split
  · omega
  · have := h4 (by omega); omega
theorem grd_ok {odd : Bool} : ∀ (f a b last : Nat) (l l' : List Int), 1 ≤ b → f + l.length = 8 → gInv l last → grd odd f a b last l = some l' → inRow l' ∧ rising l'
  | 0, a, b, last, l, l', hb, hf, hi, h => by
    unfold grd at h
    split at h
    · cases h; exact ⟨hi.1, hi.2.1⟩
    · cases h
  | f + 1, a, b, last, l, l', hb, hf, hi, h => by
    unfold grd at h
    by_cases ha : a = 0
    · rw [if_pos ha] at h
      cases h; exact ⟨hi.1, hi.2.1⟩
    · rw [if_neg ha] at h
      by_cases hd : 1000000 < gD odd a b last
      · rw [if_pos hd] at h; cases h
      · rw [if_neg hd] at h
        have hr := gD_rng (odd := odd) (a := a) (b := b) (last := last) (by omega) hb
        have hbd : 1 ≤ b * gD odd a b last := Nat.mul_pos (by omega) (by omega)
        have hg : 0 < Nat.gcd (a * gD odd a b last - b) (b * gD odd a b last) := Nat.gcd_pos_of_pos_right _ hbd
        have hle : Nat.gcd (a * gD odd a b last - b) (b * gD odd a b last) ≤ b * gD odd a b last := Nat.gcd_le_right _ hbd
        exact grd_ok f _ _ _ _ l' (Nat.div_pos hle hg) (by simp; omega) (hi.app (by omega) hr.1 (by omega)) h
theorem inRow_nil : inRow [] := ⟨by simp, fun i hi => absurd hi (by simp)⟩
theorem rising_nil : rising [] := fun i j _ hj => absurd hj (by simp)
theorem greedyS_ok {p q : Int} {odd : Bool} {l : List Int} (hq : 1 ≤ q) (h : greedyS p q odd = some l) : inRow l ∧ rising l := grd_ok 8 _ _ _ _ l (by omega) rfl ⟨inRow_nil, rising_nil, fun _ => rfl, fun z => absurd z (by simp)⟩ h
-- casts
theorem cst_ceil {a b : Nat} (ha : 1 ≤ a) : ((b : Int) + (a : Int) - 1) / (a : Int) = (((b + a - 1) / a : Nat) : Int) := by
  rw [show (b : Int) + (a : Int) - 1 = ((b + a - 1 : Nat) : Int) by omega, Int.natCast_ediv]
theorem cst_div (a b : Nat) : (a : Int) / (b : Int) = ((a / b : Nat) : Int) := by rw [Int.natCast_ediv]
theorem cst_mod (a b : Nat) : (a : Int) % (b : Int) = ((a % b : Nat) : Int) := by rw [Int.natCast_emod]
theorem cst_mul (a b : Nat) : (a : Int) * (b : Int) = ((a * b : Nat) : Int) := by rw [Int.natCast_mul]
section Greedy
variable {d n : Nat} {h : AH}
theorem gcd_loop {R : Room} {Z : AZ} (hR : ∃ D, R = am_R (D + 1) 0 0) {G : Nat} (kk : ∀ (x : Nat) L, (if x = 0 then 1 else x) = (if G = 0 then 1 else G) → x ≤ 9000000000000000000 → lk L 0 = some (aL (x : Int)) → AW mX5_commonDivisor R Z 0 0 n h 32 L []) :
    ∀ (j a b k : Nat) (L5 L6 : Option AV), b < 2 ^ j → k + 2 * j + 1 ≤ 100 → a ≤ 9000000000000000000 → b ≤ 9000000000000000000 → Nat.gcd a b = G → AW mX5_commonDivisor R Z 0 0 n h 3 [some (aL (a : Int)), none, some (aL (b : Int)), none, some (aI (k : Int)), L5, L6] [] := by
  obtain ⟨D, rfl⟩ := hR
  have step0 : ∀ (a k : Nat) (L5 L6 : Option AV), k + 1 ≤ 100 → a ≤ 9000000000000000000 → Nat.gcd a 0 = G → AW mX5_commonDivisor (am_R (D + 1) 0 0) Z 0 0 n h 3 [some (aL (a : Int)), none, some (aL ((0 : Nat) : Int)), none, some (aI (k : Int)), L5, L6] [] := by
    intro a k L5 L6 hk ha hg
    refine aw_iload dX5_commonDivisor_3 rfl ?_
    refine aw_bipush dX5_commonDivisor_5 (by decide) ?_
    -- at 7: .if_icmp .ge 25
    refine aw_icmp_ge (tgt := 32) dX5_commonDivisor_7 (by omega) (by omega) (by decide) (fun c1 => ?_) (fun c1 => ?_)
    · omega
    · refine aw_lload_n dX5_commonDivisor_10 rfl ?_
      refine aw_lconst (a := 0) dX5_commonDivisor_11 (by decide) ?_
      -- at 12: .lcmp
      refine aw_lcmp_eq (tgt := 32) dX5_commonDivisor_12 dX5_commonDivisor_13 (by omega) (by omega) (by decide) (fun c2 => ?_) (fun c2 => ?_)
      · refine kk a _ ?_ ha rfl
        rw [Nat.gcd_zero_right] at hg
        rw [hg]
      · omega
  have step1 : ∀ (a b k : Nat) (L5 L6 : Option AV), 1 ≤ b → k + 1 ≤ 100 → a ≤ 9000000000000000000 → b ≤ 9000000000000000000 → (∀ L5 L6, AW mX5_commonDivisor (am_R (D + 1) 0 0) Z 0 0 n h 3 [some (aL (b : Int)), none, some (aL ((a % b : Nat) : Int)), none, some (aI ((k + 1 : Nat) : Int)), L5, L6] []) → AW mX5_commonDivisor (am_R (D + 1) 0 0) Z 0 0 n h 3 [some (aL (a : Int)), none, some (aL (b : Int)), none, some (aI (k : Int)), L5, L6] [] := by
    intro a b k L5 L6 hb hk ha hb2 K
    refine aw_iload dX5_commonDivisor_3 rfl ?_
    refine aw_bipush dX5_commonDivisor_5 (by decide) ?_
    -- at 7: .if_icmp .ge 25
    refine aw_icmp_ge (tgt := 32) dX5_commonDivisor_7 (by omega) (by omega) (by decide) (fun c1 => ?_) (fun c1 => ?_)
    · omega
    · refine aw_lload_n dX5_commonDivisor_10 rfl ?_
      refine aw_lconst (a := 0) dX5_commonDivisor_11 (by decide) ?_
      -- at 12: .lcmp
      refine aw_lcmp_eq (tgt := 32) dX5_commonDivisor_12 dX5_commonDivisor_13 (by omega) (by omega) (by decide) (fun c2 => ?_) (fun c2 => ?_)
      · omega
      · refine aw_lload_n dX5_commonDivisor_16 rfl ?_
        refine aw_lload_n dX5_commonDivisor_17 rfl ?_
        refine aw_lrem dX5_commonDivisor_18 (by omega) (by omega) ?_
        refine aw_val (w := aL ((a % b : Nat) : Int)) (by rw [cst_mod]) ?_
        refine aw_lstore dX5_commonDivisor_19 (by decide) ?_
        refine aw_lload_n dX5_commonDivisor_21 rfl ?_
        refine aw_lstore_n dX5_commonDivisor_22 (by decide) ?_
        refine aw_lload dX5_commonDivisor_23 rfl ?_
        refine aw_lstore_n dX5_commonDivisor_25 (by decide) ?_
        refine aw_iinc dX5_commonDivisor_26 rfl (by decide) ?_
        refine aw_goto (tgt := 3) dX5_commonDivisor_29 (by decide) ?_
        have := K (some (aL ((a % b : Nat) : Int))) none
        rw [show ((k + 1 : Nat) : Int) = (k : Int) + 1 by omega] at this
        exact this
  intro j
  induction j with
  | zero =>
    intro a b k L5 L6 hb hk ha hb2 hg
    have : b = 0 := by simp at hb; exact hb
    subst this
    exact step0 a k L5 L6 (by omega) ha hg
  | succ j ih =>
    intro a b k L5 L6 hb hk ha hb2 hg
    by_cases b0 : b = 0
    · subst b0
      exact step0 a k L5 L6 (by omega) ha hg
    · have hm := Nat.mod_lt a (show b > 0 by omega)
      refine step1 a b k L5 L6 (by omega) (by omega) ha hb2 (fun L5 L6 => ?_)
      by_cases r0 : a % b = 0
      · rw [r0]
        refine step0 b (k + 1) L5 L6 (by omega) hb2 ?_
        rw [← hg, Nat.gcd_comm a b, Nat.gcd_rec b a, r0, Nat.gcd_zero_left, Nat.gcd_zero_right]
      · have hm2 := Nat.mod_lt b (show a % b > 0 by omega)
        refine step1 b (a % b) (k + 1) L5 L6 (by omega) (by omega) hb2 (by omega) (fun L5 L6 => ?_)
        refine ih (a % b) (b % (a % b)) (k + 1 + 1) L5 L6 ?_ (by omega) (by omega) (by omega) ?_
        · rw [Nat.pow_succ] at hb
          by_cases z : a % b ≤ 2 ^ j
          · omega
          · have : b % (a % b) = b - a % b := by
              rw [Nat.mod_eq_sub_mod (by omega), Nat.mod_eq_of_lt (by omega)]
            omega
        · rw [← hg, Nat.gcd_comm a b, Nat.gcd_rec b a, Nat.gcd_rec (a % b) b, Nat.gcd_comm]
theorem c_commonDivisor {a b : Nat} (ha : a ≤ 1048576) (hb : 1 ≤ b ∧ b ≤ 4503599627370496) : AC mX5_commonDivisor (d + 1) 0 0 n h [aL (a : Int), aL (b : Int)] (aql n fun v h' => v = (Nat.gcd a b : Int) ∧ h' = h) := by
  refine AC.of (by decide) (Nat.le_of_ble_eq_true rfl) ?_
  have hg : 1 ≤ Nat.gcd a b := Nat.gcd_pos_of_pos_right _ hb.1
  have fin : ∀ (x : Nat) L, (if x = 0 then 1 else x) = (if Nat.gcd a b = 0 then 1 else Nat.gcd a b) → x ≤ 9000000000000000000 → lk L 0 = some (aL (x : Int)) → AW mX5_commonDivisor (am_R (d + 1) 0 0) (am_Z (aql n fun v h' => v = (Nat.gcd a b : Int) ∧ h' = h) 0 0) 0 0 n h 32 L [] := by
    intro x L hx hx9 hL
    refine aw_lconst (a := 1) dX5_commonDivisor_32 (by decide) ?_
    refine aw_lload_n dX5_commonDivisor_33 hL ?_
    refine aw_mmaxL kc_X5_213 ks_Lib_MathLoose_max_long_x ti_J9 kd_Lib_MathLoose_max_long_x (by omega) (by omega) (Nat.le_of_ble_eq_true rfl) (by show 1 ≤ d + 1; omega) (by show 30 ≤ 64 * (d + 1); omega) (Nat.le_refl _) (Nat.le_refl _) dX5_commonDivisor_34 ?_
    refine aw_lret rfl dX5_commonDivisor_37 ⟨rfl, _, rfl, ?_, rfl⟩
    rw [if_neg (show ¬ Nat.gcd a b = 0 by omega)] at hx
    by_cases z : x = 0
    · rw [if_pos z] at hx
      rw [z, if_pos (by omega), ← hx]
      rfl
    · rw [if_neg z] at hx
      rw [if_neg (by omega), hx]
  refine aw_iconst dX5_commonDivisor_0 ?_
  refine aw_istore dX5_commonDivisor_1 (by decide) ?_
  by_cases a0 : a < b
  · -- the first step turns them round
    have K := gcd_loop ⟨d, rfl⟩ (G := Nat.gcd a b) fin 21 b a 1 none none (by omega) (by omega) (by omega) (by omega) (Nat.gcd_comm b a)
    refine aw_iload dX5_commonDivisor_3 rfl ?_
    refine aw_bipush dX5_commonDivisor_5 (by decide) ?_
    -- at 7: .if_icmp .ge 25
    refine aw_icmp_ge (tgt := 32) dX5_commonDivisor_7 (by omega) (by omega) (by decide) (fun c1 => ?_) (fun c1 => ?_)
    · omega
    · refine aw_lload_n dX5_commonDivisor_10 rfl ?_
      refine aw_lconst (a := 0) dX5_commonDivisor_11 (by decide) ?_
      -- at 12: .lcmp
      refine aw_lcmp_eq (tgt := 32) dX5_commonDivisor_12 dX5_commonDivisor_13 (by omega) (by omega) (by decide) (fun c2 => ?_) (fun c2 => ?_)
      · omega
      · refine aw_lload_n dX5_commonDivisor_16 rfl ?_
        refine aw_lload_n dX5_commonDivisor_17 rfl ?_
        refine aw_lrem dX5_commonDivisor_18 (by omega) (by omega) ?_
        refine aw_val (w := aL (a : Int)) (by rw [cst_mod, Nat.mod_eq_of_lt a0]) ?_
        refine aw_lstore dX5_commonDivisor_19 (by decide) ?_
        refine aw_lload_n dX5_commonDivisor_21 rfl ?_
        refine aw_lstore_n dX5_commonDivisor_22 (by decide) ?_
        refine aw_lload dX5_commonDivisor_23 rfl ?_
        refine aw_lstore_n dX5_commonDivisor_25 (by decide) ?_
        refine aw_iinc dX5_commonDivisor_26 rfl (by decide) ?_
        refine aw_goto (tgt := 3) dX5_commonDivisor_29 (by decide) ?_
        exact gcd_loop ⟨d, rfl⟩ (G := Nat.gcd a b) fin 21 b a 1 (some (aL (a : Int))) none (by omega) (by omega) (by omega) (by omega) (Nat.gcd_comm b a)
  · exact gcd_loop ⟨d, rfl⟩ (G := Nat.gcd a b) fin 21 a b 0 none none (by omega) (by omega) (by omega) (by omega) rfl
theorem c6_common {a b : Nat} (ha : a ≤ 4503599627370496) (hb : b ≤ 4503599627370496) : AC mX6_common d 0 0 n h [aL (a : Int), aL (b : Int)] (aql n fun v h' => v = (Nat.gcd a b : Int) ∧ h' = h) := by
  refine AC.of (by decide) (Nat.le_of_ble_eq_true rfl) ?_
  have loop : ∀ (q : Nat) (p : Nat) (L8 : Option AV), q ≤ 4503599627370496 → p ≤ 4503599627370496 → Nat.gcd p q = Nat.gcd a b → AW mX6_common (am_R d 0 0) (am_Z (aql n fun v h' => v = (Nat.gcd a b : Int) ∧ h' = h) 0 0) 0 0 n h 6 [some (aL (a : Int)), none, some (aL (b : Int)), none, some (aL (p : Int)), none, some (aL (q : Int)), none, L8, none] [] := by
    intro q
    induction q using Nat.strongRecOn with
    | ind q ih =>
      intro p L8 hq hp hg
      refine aw_lload dX6_common_6 rfl ?_
      refine aw_lconst (a := 0) dX6_common_8 (by decide) ?_
      -- at 9: .lcmp
      refine aw_lcmp_le (tgt := 31) dX6_common_9 dX6_common_10 (by omega) (by omega) (by decide) (fun c1 => ?_) (fun c1 => ?_)
      · have q0 : q = 0 := by omega
        subst q0
        rw [Nat.gcd_zero_right] at hg
        refine aw_lload dX6_common_31 rfl ?_
        -- at 33: .lreturn
        exact aw_lret rfl dX6_common_33 ⟨rfl, _, rfl, by rw [hg], rfl⟩
      · have hm := Nat.mod_lt p (show q > 0 by omega)
        refine aw_lload dX6_common_13 rfl ?_
        refine aw_lload dX6_common_15 rfl ?_
        refine aw_lrem dX6_common_17 (by omega) (by omega) ?_
        refine aw_val (w := aL ((p % q : Nat) : Int)) (by rw [cst_mod]) ?_
        refine aw_lstore dX6_common_18 (by decide) ?_
        refine aw_lload dX6_common_20 rfl ?_
        refine aw_lstore dX6_common_22 (by decide) ?_
        refine aw_lload dX6_common_24 rfl ?_
        refine aw_lstore dX6_common_26 (by decide) ?_
        refine aw_goto (tgt := 6) dX6_common_28 (by decide) ?_
        exact ih (p % q) hm q _ (by omega) hq (by rw [← hg, Nat.gcd_comm p q, Nat.gcd_rec q p, Nat.gcd_comm])
  refine aw_lload_n dX6_common_0 rfl ?_
  refine aw_lstore dX6_common_1 (by decide) ?_
  refine aw_lload_n dX6_common_3 rfl ?_
  refine aw_lstore dX6_common_4 (by decide) ?_
  exact loop b a none hb ha rfl
end Greedy
