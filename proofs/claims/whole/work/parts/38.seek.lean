/-! the finder: what it keeps, and what it tells -/
theorem pkN_split : ∀ (l : List Int) (pk : Nat), (∀ x, x ∈ l → 0 ≤ x ∧ x < 64) → ∃ r, r < 64 ^ l.length ∧ pkN pk l = pk * 64 ^ l.length + r
  | [], pk, _ => ⟨0, by simp, by simp [pkN]⟩
  | x :: l, pk, h => by
    obtain ⟨r, h1, h2⟩ := pkN_split l (pk * 64 + x.toNat) (fun y hy => h y (List.mem_cons_of_mem _ hy))
    have hx := h x (List.mem_cons_self ..)
    refine ⟨x.toNat * 64 ^ l.length + r, ?_, ?_⟩
    · have := Nat.mul_le_mul_right (64 ^ l.length) (show x.toNat + 1 ≤ 64 by omega)
      rw [Nat.add_mul, Nat.one_mul] at this
      rw [List.length_cons, Nat.pow_succ, Nat.mul_comm (64 ^ l.length) 64]
      omega
    · rw [pkN, h2, List.length_cons, Nat.pow_succ, Nat.add_mul, Nat.mul_comm (64 ^ l.length) 64, ← Nat.mul_assoc]
      omega
theorem pkN_at : ∀ (l : List Int) (pk i : Nat), (∀ x, x ∈ l → 0 ≤ x ∧ x < 64) → i < l.length → ((pkN pk l / 64 ^ (l.length - 1 - i) % 64 : Nat) : Int) = l.getD i 0
  | [], _, _, _, h => absurd h (by simp)
  | x :: l, pk, 0, h, _ => by
    obtain ⟨r, h1, h2⟩ := pkN_split l (pk * 64 + x.toNat) (fun y hy => h y (List.mem_cons_of_mem _ hy))
    have hx := h x (List.mem_cons_self ..)
    rw [pkN, h2, List.length_cons, show l.length + 1 - 1 - 0 = l.length by omega, Nat.mul_comm, Nat.mul_add_div (Nat.pow_pos (by decide)), Nat.div_eq_of_lt h1]
    show _ = x
    omega
  | x :: l, pk, i + 1, h, hi => by
    have hi' : i < l.length := by simpa using hi
    rw [pkN, List.length_cons, show l.length + 1 - 1 - (i + 1) = l.length - 1 - i by omega]
    exact pkN_at l (pk * 64 + x.toNat) i (fun y hy => h y (List.mem_cons_of_mem _ hy)) hi'
theorem asc_mem {d : Int} : ∀ (l : List Int) (lo : Int), asc d lo l → ∀ x, x ∈ l → lo < x ∧ x ≤ d
  | [], _, _, x, hx => by cases hx
  | y :: l, lo, h, x, hx => by
    rcases List.mem_cons.mp hx with rfl | hx
    · exact ⟨h.1, h.2.1⟩
    · have := asc_mem l y h.2.2 x hx
      have h1 := h.1
      omega
theorem lastN_getD : ∀ (l : List Int), l ≠ [] → lastN l = l.getD (l.length - 1) 0
  | [], h => absurd rfl h
  | [x], _ => rfl
  | x :: y :: l, _ => by
    rw [lastN_cons x (by simp), lastN_getD (y :: l) (by simp)]
    rfl
/-- a sum within 60, packed -/
theorem pk_sum {n : Nat} {l : List Int} {p q : Int} (h1 : 1 ≤ n) (h5 : n ≤ 5) (h : l ∈ sm 60 n 0 p q) : l.length = n ∧ pkN 0 l < 1073741824 ∧ ((pkN 0 l % 64 : Nat) : Int) = lastN l ∧ (1 ≤ lastN l ∧ lastN l ≤ 60) ∧ ∀ i, i < n → ((pkN 0 l / 64 ^ (n - 1 - i) % 64 : Nat) : Int) = l.getD i 0 := by
  obtain ⟨g1, g2⟩ := sm_mem _ _ _ _ h
  have hm : ∀ x, x ∈ l → 0 ≤ x ∧ x < 64 := fun x hx => by have := asc_mem l _ g2 x hx; omega
  obtain ⟨r, r1, r2⟩ := pkN_split l 0 hm
  have hp : (64 : Nat) ^ l.length ≤ 64 ^ 5 := Nat.pow_le_pow_right (by decide) (by omega)
  have e5 : (64 : Nat) ^ 5 = 1073741824 := by decide
  have ne : l ≠ [] := by intro z; rw [z] at g1; simp at g1; omega
  have hl := asc_last l _ g2 ne
  refine ⟨g1, by omega, ?_, by omega, fun i hi => ?_⟩
  · have := pkN_at l 0 (l.length - 1) hm (by omega)
    rw [show l.length - 1 - (l.length - 1) = 0 by omega, Nat.pow_zero, Nat.div_one] at this
    rw [this, lastN_getD l ne]
  · have := pkN_at l 0 i hm (by omega)
    rw [g1] at this
    exact this
abbrev S60 (n : Nat) (p q : Int) : List (List Int) := sm 60 n 0 p q
/-- a table with the sums of n -/
def tabF (f : Nat → Int) (n : Nat) (p q : Int) : Prop := ∀ k (hk : k < (S60 n p q).length), f k = pkI 0 ((S60 n p q)[k])
def finSt (h : AH) (p q : Int) : Prop := h 38 = aO 0 [aI p, aI q, aR 39, aR 46, aR 47] ∧ (∃ g, h 39 = aQ 5 6 g ∧ ∀ i, i < 6 → g i = some (40 + i)) ∧ ∃ am so, h 46 = aA 0 6 am ∧ h 47 = aA 1 6 so ∧ ∀ i, i < 6 → ∃ f, h (40 + i) = aA 0 128 f ∧ (so i = 0 ∨ (so i = 1 ∧ (1 ≤ i → am i = ((S60 i p q).length : Int) ∧ tabF f i p q)))
def hasF (h : AH) (p q : Int) (n : Nat) : Prop := finSt h p q ∧ ∃ f, h (40 + n) = aA 0 128 f ∧ tabF f n p q
theorem finSt.fr {h h' : AH} {p q : Int} (H : finSt h p q) (hf : ∀ j, 38 ≤ j → j ≤ 47 → h' j = h j) : finSt h' p q := by
  obtain ⟨a1, ⟨g, a2, a3⟩, am, so, a4, a5, a6⟩ := H
  refine ⟨(hf 38 (by omega) (by omega)).trans a1, ⟨g, (hf 39 (by omega) (by omega)).trans a2, a3⟩, am, so, (hf 46 (by omega) (by omega)).trans a4, (hf 47 (by omega) (by omega)).trans a5, fun i hi => ?_⟩
  obtain ⟨f, b1, b2⟩ := a6 i hi
  exact ⟨f, (hf (40 + i) (by omega) (by omega)).trans b1, b2⟩
section Seek
variable {d n : Nat} {p q : Int} {h : AH}
theorem c_seek {k : Int} (hk : -2147483648 ≤ k ∧ k ≤ 2147483647) (hp : 0 ≤ p ∧ p ≤ 99) (hq : 1 ≤ q ∧ q ≤ 99) (H : finSt h p q) : AC mX0_seek (d + 7) 0 0 n h [aR 38, aI k] (aqi n fun v h' => (¬ (1 ≤ k ∧ k ≤ 5) ∧ v = 0 ∧ h' = h) ∨ ((1 ≤ k ∧ k ≤ 5) ∧ v = ((S60 k.toNat p q).length : Int) ∧ hasF h' p q k.toNat ∧ ∀ j, (j < 38 ∨ 47 < j) → h' j = h j)) := by
  refine AC.of (by decide) (Nat.le_of_ble_eq_true rfl) ?_
  obtain ⟨a1, ⟨g, a2, a3⟩, am, so, a4, a5, a6⟩ := H
  refine aw_iload_n dX0_seek_0 rfl ?_
  -- at 1: .invokestatic 61
  refine aw_Ti1 kc_X0_61 (c_isLength (d := d) hk) rfl (by omega) (Nat.le_of_ble_eq_true rfl) dX0_seek_1 (fun v h' q1 => ?_)
  obtain ⟨rfl, rfl⟩ := q1
  refine aw_flag_ne (tgt := 9) dX0_seek_4 (by decide) (fun c1 => ?_) (fun c1 => ?_)
  rotate_left
  · refine aw_iconst dX0_seek_7 ?_
    -- at 8: .ireturn
    exact aw_iret rfl dX0_seek_8 ⟨rfl, _, rfl, Or.inl ⟨c1, rfl, rfl⟩⟩
  · obtain ⟨N, rfl⟩ : ∃ N : Nat, k = (N : Int) := ⟨k.toNat, by omega⟩
    rw [Int.toNat_natCast]
    have hlen := sm_128 (n := N) (p := p) (q := q) (by omega) (by omega) hp.1 hq
    obtain ⟨f, b1, b2⟩ := a6 N (by omega)
    rcases b2 with b2 | ⟨b2, b3⟩
    · refine aw_aload_n dX0_seek_9 rfl ?_
      refine aw_get kg_X0_27 (by assumption) (by rfl) dX0_seek_10 ?_
      refine aw_iload_n dX0_seek_13 rfl ?_
      refine aw_zald (by assumption) (by omega) dX0_seek_14 ?_
      refine aw_val (w := aI 0) (by rw [Int.toNat_natCast, b2]) ?_
      refine aw_if_ne (tgt := 49) dX0_seek_15 (by omega) (by decide) (fun c2 => ?_) (fun c2 => ?_)
      · omega
      · refine aw_aload_n dX0_seek_18 rfl ?_
        refine aw_get kg_X0_27 (by assumption) (by rfl) dX0_seek_19 ?_
        refine aw_iload_n dX0_seek_22 rfl ?_
        refine aw_iconst dX0_seek_23 ?_
        -- at 24: .bastore
        refine aw_zastO (by assumption) (by omega) (by omega) dX0_seek_24 (fun h1 b4 fr1 => ?_)
        have a1' := (fr1 38 (by omega)).trans a1
        have a4' := (fr1 46 (by omega)).trans a4
        refine aw_aload_n dX0_seek_25 rfl ?_
        refine aw_get kg_X0_23 (by assumption) (by rfl) dX0_seek_26 ?_
        refine aw_iload_n dX0_seek_29 rfl ?_
        refine aw_iconst dX0_seek_30 ?_
        -- at 31: .iastore
        refine aw_iastO (by assumption) (by omega) dX0_seek_31 (fun h2 b5 fr2 => ?_)
        have a1'' := (fr2 38 (by omega)).trans a1'
        rw [Int.toNat_natCast] at b5 b4
        obtain ⟨m, rfl⟩ : ∃ m, N = m + 1 := ⟨N - 1, by omega⟩
        have hF : inF h2 am p q (m + 1) [] := ⟨a1'', ⟨g, (fr2 39 (by omega)).trans ((fr1 39 (by omega)).trans a2), a3⟩, ⟨f, (fr2 (40 + (m + 1)) (by omega)).trans ((fr1 (40 + (m + 1)) (by omega)).trans b1), fun i hi => absurd hi (by simp)⟩, b5⟩
        have pw : (64 : Nat) ^ (m + 1) ≤ 64 ^ 5 := Nat.pow_le_pow_right (by decide) (by omega)
        have pw2 : (60 : Nat) ^ m ≤ 60 ^ 4 := Nat.pow_le_pow_right (by decide) (by omega)
        have e5 : (64 : Nat) ^ 5 = 1073741824 := by decide
        have e4 : (60 : Nat) ^ 4 = 12960000 := by decide
        refine aw_aload_n dX0_seek_32 rfl ?_
        refine aw_iload_n dX0_seek_33 rfl ?_
        refine aw_iload_n dX0_seek_34 rfl ?_
        refine aw_iconst dX0_seek_35 ?_
        refine aw_aload_n dX0_seek_36 rfl ?_
        refine aw_get kg_X0_9 (by assumption) (by rfl) dX0_seek_37 ?_
        refine aw_i2l dX0_seek_40 (by omega) ?_
        refine aw_aload_n dX0_seek_41 rfl ?_
        refine aw_get kg_X0_15 (by assumption) (by rfl) dX0_seek_42 ?_
        refine aw_i2l dX0_seek_45 (by omega) ?_
        -- at 46: .invokestatic 65
        refine aw_Sv6 kc_X0_65 (c_extend (d := d + 6 - (m + 1)) m h2 [] 0 p q 99 ⟨by omega, by omega⟩ (by omega) hF (by omega) (by omega) (by omega) (by omega) (by simp; omega)) rfl (by omega) (Nat.le_of_ble_eq_true rfl) dX0_seek_46 (fun h3 q1 => ?_)
        obtain ⟨⟨q1, q2, ⟨f', q3, q4⟩, q5⟩, fr3⟩ := q1
        rw [List.nil_append, List.length_map] at q5
        rw [List.nil_append] at q4
        have len0 : (S60 (m + 1) p q).length = (sm 60 (m + 1) (0 % 64) p q).length := rfl
        have tab : tabF f' (m + 1) p q := by
          intro k hk
          rw [q4 k (by rw [List.length_map]; exact hk)]
          show (List.map (pkI 0) (S60 (m + 1) p q)).getD k 0 = _
          rw [List.getD_eq_getElem?_getD, List.getElem?_map, List.getElem?_eq_getElem hk]
          rfl
        refine aw_aload_n dX0_seek_49 rfl ?_
        refine aw_get kg_X0_23 (by assumption) (by rfl) dX0_seek_50 ?_
        refine aw_iload_n dX0_seek_53 rfl ?_
        refine aw_iald (by assumption) (by omega) dX0_seek_54 ?_
        refine aw_val (w := aI ((S60 (m + 1) p q).length : Int)) (by rw [Int.toNat_natCast, va_up_s]) ?_
        have fin : finSt h3 p q := by
          refine ⟨q1, q2, _, _, q5, (fr3 47 (by omega) (by omega)).trans ((fr2 47 (by omega)).trans b4), fun i hi => ?_⟩
          by_cases z : i = m + 1
          · subst z
            exact ⟨f', q3, Or.inr ⟨va_up_s .., fun _ => ⟨va_up_s .., tab⟩⟩⟩
          · obtain ⟨ff, y1, y2⟩ := a6 i hi
            refine ⟨ff, (fr3 (40 + i) (by omega) (by omega)).trans ((fr2 (40 + i) (by omega)).trans ((fr1 (40 + i) (by omega)).trans y1)), ?_⟩
            rw [va_up_n _ _ _ z, va_up_n _ _ _ z]
            exact y2
        exact aw_iret rfl dX0_seek_55 ⟨rfl, _, rfl, Or.inr ⟨by omega, rfl, ⟨fin, f', q3, tab⟩, fun j hj => (fr3 j (by omega) (by omega)).trans ((fr2 j (by omega)).trans (fr1 j (by omega)))⟩⟩
    · refine aw_aload_n dX0_seek_9 rfl ?_
      refine aw_get kg_X0_27 (by assumption) (by rfl) dX0_seek_10 ?_
      refine aw_iload_n dX0_seek_13 rfl ?_
      refine aw_zald (by assumption) (by omega) dX0_seek_14 ?_
      refine aw_val (w := aI 1) (by rw [Int.toNat_natCast, b2]) ?_
      refine aw_if_ne (tgt := 49) dX0_seek_15 (by omega) (by decide) (fun c2 => ?_) (fun c2 => ?_)
      rotate_left
      · omega
      · obtain ⟨b4, b5⟩ := b3 (by omega)
        refine aw_aload_n dX0_seek_49 rfl ?_
        refine aw_get kg_X0_23 (by assumption) (by rfl) dX0_seek_50 ?_
        refine aw_iload_n dX0_seek_53 rfl ?_
        refine aw_iald (by assumption) (by omega) dX0_seek_54 ?_
        refine aw_val (w := aI ((S60 N p q).length : Int)) (by rw [Int.toNat_natCast, b4]) ?_
        exact aw_iret rfl dX0_seek_55 ⟨rfl, _, rfl, Or.inr ⟨by omega, rfl, ⟨⟨a1, ⟨g, a2, a3⟩, am, so, a4, a5, a6⟩, f, b1, b5⟩, fun _ _ => rfl⟩⟩
/-- those whose last is within d -/
abbrev wth (D : Int) (l : List Int) : Bool := decide (lastN l ≤ D)
theorem drop_step {S : List (List Int)} {i : Nat} (hi : i < S.length) : S.drop i = S[i] :: S.drop (i + 1) := List.drop_eq_getElem_cons hi
def hmS (D : Int) (S : List (List Int)) : Nat := (S.filter (wth D)).length
theorem hm_loop {N : Nat} {D V : Int} (hN : 1 ≤ N ∧ N ≤ 5) (hD : -2147483648 ≤ D ∧ D ≤ 2147483647) (H : hasF h p q N) (hS : (S60 N p q).length < 128) {Q : AH → Prop} (hQ : Q h) :
    ∀ (c i w : Nat), i + c = (S60 N p q).length → w ≤ i → (w : Int) + (hmS D ((S60 N p q).drop i) : Int) = V → AW mX0_howMany (am_R (d + 8) 0 0) (am_Z (aqi n fun v h' => v = V ∧ Q h') 0 0) 0 0 n h 12 [some (aR 38), some (aI (N : Int)), some (aI D), some (aI (w : Int)), some (aI ((S60 N p q).length : Int)), some (aI (i : Int))] [] := by
  obtain ⟨⟨a1, ⟨g, a2, a3⟩, -⟩, f, b1, b2⟩ := H
  intro c
  induction c with
  | zero =>
    intro i w hi hw hV
    refine aw_iload dX0_howMany_12 rfl ?_
    refine aw_iload dX0_howMany_14 rfl ?_
    -- at 16: .if_icmp .ge 28
    refine aw_icmp_ge (tgt := 44) dX0_howMany_16 (by omega) (by omega) (by decide) (fun c1 => ?_) (fun c1 => ?_)
    · refine aw_iload_n dX0_howMany_44 rfl ?_
      -- at 45: .ireturn
      refine aw_iret rfl dX0_howMany_45 ⟨rfl, _, rfl, ?_, hQ⟩
      rw [← hV, List.drop_eq_nil_of_le (by omega)]
      simp [hmS]
    · omega
  | succ c ih =>
    intro i w hi hw hV
    have hi' : i < (S60 N p q).length := by omega
    obtain ⟨g1, g2, g3, g4, g5⟩ := pk_sum hN.1 hN.2 (List.getElem_mem hi')
    rw [drop_step hi', hmS, List.filter_cons] at hV
    refine aw_iload dX0_howMany_12 rfl ?_
    refine aw_iload dX0_howMany_14 rfl ?_
    -- at 16: .if_icmp .ge 28
    refine aw_icmp_ge (tgt := 44) dX0_howMany_16 (by omega) (by omega) (by decide) (fun c1 => ?_) (fun c1 => ?_)
    · omega
    · refine aw_aload_n dX0_howMany_19 rfl ?_
      refine aw_get kg_X0_20 (by assumption) (by rfl) dX0_howMany_20 ?_
      refine aw_iload_n dX0_howMany_23 rfl ?_
      -- at 24: .aaload
      refine aw_aaldA a2 (by omega) (a3 _ (by omega)) dX0_howMany_24 ?_
      rw [Int.toNat_natCast]
      refine aw_iload dX0_howMany_25 rfl ?_
      refine aw_iald (by assumption) (by omega) dX0_howMany_27 ?_
      refine aw_val (w := aI (pkI 0 ((S60 N p q)[i]))) (by rw [Int.toNat_natCast, b2 i hi']) ?_
      refine aw_Si1 kc_X0_35 (c_greatest (d := d) (by omega)) rfl (by omega) (Nat.le_of_ble_eq_true rfl) dX0_howMany_28 (fun v h' q1 => ?_)
      obtain ⟨rfl, rfl⟩ := q1
      rw [g3]
      refine aw_iload_n dX0_howMany_31 rfl ?_
      -- at 32: .if_icmp .gt 6
      refine aw_icmp_gt (tgt := 38) dX0_howMany_32 (by omega) (by omega) (by decide) (fun c2 => ?_) (fun c2 => ?_)
      · rw [if_neg (by simp; omega)] at hV
        refine aw_iinc dX0_howMany_38 rfl (by decide) ?_
        refine aw_goto (tgt := 12) dX0_howMany_41 (by decide) ?_
        have K := ih (i + 1) w (by omega) (by omega) hV
        rw [show ((i + 1 : Nat) : Int) = (i : Int) + 1 by omega] at K
        exact K
      · rw [if_pos (by simp; omega), List.length_cons] at hV
        refine aw_iinc dX0_howMany_35 rfl (by decide) ?_
        refine aw_iinc dX0_howMany_38 rfl (by decide) ?_
        refine aw_goto (tgt := 12) dX0_howMany_41 (by decide) ?_
        have K := ih (i + 1) (w + 1) (by omega) (by omega) (by rw [hmS]; omega)
        rw [show ((i + 1 : Nat) : Int) = (i : Int) + 1 by omega, show ((w + 1 : Nat) : Int) = (w : Int) + 1 by omega] at K
        exact K
/-- how many within d -/
def howS (k D p q : Int) : Int := if 1 ≤ k ∧ k ≤ 5 then (hmS D (S60 k.toNat p q) : Int) else 0
theorem c_howMany {k D : Int} (hk : -2147483648 ≤ k ∧ k ≤ 2147483647) (hD : -2147483648 ≤ D ∧ D ≤ 2147483647) (hp : 0 ≤ p ∧ p ≤ 99) (hq : 1 ≤ q ∧ q ≤ 99) (H : finSt h p q) : AC mX0_howMany (d + 8) 0 0 n h [aR 38, aI k, aI D] (aqi n fun v h' => v = howS k D p q ∧ finSt h' p q ∧ ∀ j, (j < 38 ∨ 47 < j) → h' j = h j) := by
  refine AC.of (by decide) (Nat.le_of_ble_eq_true rfl) ?_
  have a1 := H.1
  refine aw_iconst dX0_howMany_0 ?_
  refine aw_istore_n dX0_howMany_1 (by decide) ?_
  refine aw_aload_n dX0_howMany_2 rfl ?_
  refine aw_iload_n dX0_howMany_3 rfl ?_
  -- at 4: .invokevirtual 31
  refine aw_Vi1 kc_X0_31 (c_seek (d := d) hk hp hq H) (by assumption) rfl rfl (by omega) (Nat.le_of_ble_eq_true rfl) dX0_howMany_4 (fun v h' q1 => ?_)
  rcases q1 with ⟨q1, rfl, rfl⟩ | ⟨q1, rfl, q2, q3⟩
  · refine aw_istore dX0_howMany_7 (by decide) ?_
    refine aw_iconst dX0_howMany_9 ?_
    refine aw_istore dX0_howMany_10 (by decide) ?_
    refine aw_iload dX0_howMany_12 rfl ?_
    refine aw_iload dX0_howMany_14 rfl ?_
    -- at 16: .if_icmp .ge 28
    refine aw_icmp_ge (tgt := 44) dX0_howMany_16 (by omega) (by omega) (by decide) (fun c1 => ?_) (fun c1 => ?_)
    · refine aw_iload_n dX0_howMany_44 rfl ?_
      -- at 45: .ireturn
      refine aw_iret rfl dX0_howMany_45 ⟨rfl, _, rfl, ?_, H, fun _ _ => rfl⟩
      rw [howS, if_neg q1]
    · omega
  · obtain ⟨N, rfl⟩ : ∃ N : Nat, k = (N : Int) := ⟨k.toNat, by omega⟩
    rw [Int.toNat_natCast] at q2 ⊢
    refine aw_istore dX0_howMany_7 (by decide) ?_
    refine aw_iconst dX0_howMany_9 ?_
    refine aw_istore dX0_howMany_10 (by decide) ?_
    have hlen := sm_128 (n := N) (p := p) (q := q) (by omega) (by omega) hp.1 hq
    exact hm_loop (by omega) hD q2 hlen (Q := fun h'' => finSt h'' p q ∧ ∀ j, (j < 38 ∨ 47 < j) → h'' j = h j) ⟨q2.1, q3⟩ _ 0 0 (Nat.zero_add _) (Nat.le_refl _) (by rw [howS, if_pos q1, Int.toNat_natCast, List.drop_zero]; omega)
end Seek
