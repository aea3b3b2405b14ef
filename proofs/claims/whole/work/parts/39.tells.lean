/-! the finder: pick, numberOf, leastLength, leastBound, lengthOfLeastBound, copyFirst, turnTo -/
def pckS (D : Int) : List (List Int) → Int → Option (List Int)
  | [], _ => none
  | l :: r, k => if lastN l ≤ D then (if k = 0 then some l else pckS D r (k - 1)) else pckS D r k
theorem pckS_mem {D : Int} {l : List Int} : ∀ (S : List (List Int)) (k : Int), pckS D S k = some l → l ∈ S
  | [], _, h => by cases h
  | x :: r, k, h => by
    rw [pckS] at h
    split at h
    · split at h
      · cases h; exact List.mem_cons_self ..
      · exact List.mem_cons_of_mem _ (pckS_mem r _ h)
    · exact List.mem_cons_of_mem _ (pckS_mem r _ h)
def pickS (k D p q j : Int) : Option (List Int) := if 1 ≤ k ∧ k ≤ 5 then pckS D (S60 k.toNat p q) j else none
def pkO : Option (List Int) → Int
  | none => -9
  | some l => pkI 0 l
/-- the first with any -/
def few5 (F : Int → Int) : Nat → Int → Int
  | 0, _ => -9
  | c + 1, m => if 0 < F m then m else few5 F c (m + 1)
def lbS : List (List Int) → Int → Int
  | [], m => m
  | l :: r, m => lbS r (if m = -9 ∨ lastN l < m then lastN l else m)
def bndS (k p q : Int) : Int := if 1 ≤ k ∧ k ≤ 5 then lbS (S60 k.toNat p q) (-9) else -9
def bl5 (B : Int → Int) : Nat → Int → Int → Int → Int × Int
  | 0, _, best, least => (best, least)
  | c + 1, m, best, least => if B m ≠ -9 ∧ B m < least then bl5 B c (m + 1) m (B m) else bl5 B c (m + 1) best least
theorem lbS_rng : ∀ (S : List (List Int)) (m : Int), (∀ l, l ∈ S → 1 ≤ lastN l ∧ lastN l ≤ 60) → -9 ≤ m ∧ m ≤ 60 → -9 ≤ lbS S m ∧ lbS S m ≤ 60
  | [], m, _, h => h
  | l :: r, m, hS, h => by
    have := hS l (List.mem_cons_self ..)
    rw [lbS]
    refine lbS_rng r _ (fun x hx => hS x (List.mem_cons_of_mem _ hx)) ?_
    split <;> omega
theorem bndS_rng (k p q : Int) : -9 ≤ bndS k p q ∧ bndS k p q ≤ 60 := by
  unfold bndS
  split
  · exact lbS_rng _ _ (fun l hl => (pk_sum (by omega) (by omega) hl).2.2.2.1) (by omega)
  · omega
section Tells
variable {d n : Nat} {p q : Int} {h : AH}
theorem pi_loop {N : Nat} {D k : Int} {V : Option (List Int)} (hN : 1 ≤ N ∧ N ≤ 5) (hD : -2147483648 ≤ D ∧ D ≤ 2147483647) (hk : -2147483648 ≤ k ∧ k ≤ 2147483647) (H : hasF h p q N) (hS : (S60 N p q).length < 128) {Q : AH → Prop} (hQ : Q h) :
    ∀ (c i w : Nat), i + c = (S60 N p q).length → w ≤ i → pckS D ((S60 N p q).drop i) (k - w) = V → AW mX0_pick (am_R (d + 8) 0 0) (am_Z (aqi n fun v h' => v = pkO V ∧ Q h') 0 0) 0 0 n h 13 [some (aR 38), some (aI (N : Int)), some (aI D), some (aI k), some (aI (w : Int)), some (aI ((S60 N p q).length : Int)), some (aI (i : Int))] [] := by
  obtain ⟨⟨a1, ⟨g, a2, a3⟩, -⟩, f, b1, b2⟩ := H
  intro c
  induction c with
  | zero =>
    intro i w hi hw hV
    refine aw_iload dX0_pick_13 rfl ?_
    refine aw_iload dX0_pick_15 rfl ?_
    -- at 17: .if_icmp .ge 44
    refine aw_icmp_ge (tgt := 61) dX0_pick_17 (by omega) (by omega) (by decide) (fun c1 => ?_) (fun c1 => ?_)
    · refine aw_bipush dX0_pick_61 (by decide) ?_
      -- at 63: .ireturn
      refine aw_iret rfl dX0_pick_63 ⟨rfl, _, rfl, ?_, hQ⟩
      rw [← hV, List.drop_eq_nil_of_le (by omega)]
      rfl
    · omega
  | succ c ih =>
    intro i w hi hw hV
    have hi' : i < (S60 N p q).length := by omega
    obtain ⟨g1, g2, g3, g4, g5⟩ := pk_sum hN.1 hN.2 (List.getElem_mem hi')
    rw [drop_step hi', pckS] at hV
    refine aw_iload dX0_pick_13 rfl ?_
    refine aw_iload dX0_pick_15 rfl ?_
    -- at 17: .if_icmp .ge 44
    refine aw_icmp_ge (tgt := 61) dX0_pick_17 (by omega) (by omega) (by decide) (fun c1 => ?_) (fun c1 => ?_)
    · omega
    · refine aw_aload_n dX0_pick_20 rfl ?_
      refine aw_get kg_X0_20 (by assumption) (by rfl) dX0_pick_21 ?_
      refine aw_iload_n dX0_pick_24 rfl ?_
      -- at 25: .aaload
      refine aw_aaldA a2 (by omega) (a3 _ (by omega)) dX0_pick_25 ?_
      rw [Int.toNat_natCast]
      refine aw_iload dX0_pick_26 rfl ?_
      refine aw_iald (by assumption) (by omega) dX0_pick_28 ?_
      refine aw_val (w := aI (pkI 0 ((S60 N p q)[i]))) (by rw [Int.toNat_natCast, b2 i hi']) ?_
      refine aw_Si1 kc_X0_35 (c_greatest (d := d) (by omega)) rfl (by omega) (Nat.le_of_ble_eq_true rfl) dX0_pick_29 (fun v h' q1 => ?_)
      obtain ⟨rfl, rfl⟩ := q1
      rw [g3]
      refine aw_iload_n dX0_pick_32 rfl ?_
      -- at 33: .if_icmp .gt 22
      refine aw_icmp_gt (tgt := 55) dX0_pick_33 (by omega) (by omega) (by decide) (fun c2 => ?_) (fun c2 => ?_)
      · rw [if_neg (by omega)] at hV
        refine aw_iinc dX0_pick_55 rfl (by decide) ?_
        refine aw_goto (tgt := 13) dX0_pick_58 (by decide) ?_
        have K := ih (i + 1) w (by omega) (by omega) hV
        rw [show ((i + 1 : Nat) : Int) = (i : Int) + 1 by omega] at K
        exact K
      · rw [if_pos (by omega)] at hV
        refine aw_iload dX0_pick_36 rfl ?_
        refine aw_iload_n dX0_pick_38 rfl ?_
        -- at 39: .if_icmp .ne 13
        refine aw_icmp_ne (tgt := 52) dX0_pick_39 (by omega) (by omega) (by decide) (fun c3 => ?_) (fun c3 => ?_)
        · rw [if_neg (by omega)] at hV
          refine aw_iinc dX0_pick_52 rfl (by decide) ?_
          refine aw_iinc dX0_pick_55 rfl (by decide) ?_
          refine aw_goto (tgt := 13) dX0_pick_58 (by decide) ?_
          have K := ih (i + 1) (w + 1) (by omega) (by omega) (by rw [← hV]; congr 1; omega)
          rw [show ((i + 1 : Nat) : Int) = (i : Int) + 1 by omega, show ((w + 1 : Nat) : Int) = (w : Int) + 1 by omega] at K
          exact K
        · rw [if_pos (by omega)] at hV
          refine aw_aload_n dX0_pick_42 rfl ?_
          refine aw_get kg_X0_20 (by assumption) (by rfl) dX0_pick_43 ?_
          refine aw_iload_n dX0_pick_46 rfl ?_
          -- at 47: .aaload
          refine aw_aaldA a2 (by omega) (a3 _ (by omega)) dX0_pick_47 ?_
          rw [Int.toNat_natCast]
          refine aw_iload dX0_pick_48 rfl ?_
          refine aw_iald (by assumption) (by omega) dX0_pick_50 ?_
          refine aw_val (w := aI (pkI 0 ((S60 N p q)[i]))) (by rw [Int.toNat_natCast, b2 i hi']) ?_
          exact aw_iret rfl dX0_pick_51 ⟨rfl, _, rfl, by rw [← hV]; rfl, hQ⟩
theorem c_pick {k D j : Int} (hk : -2147483648 ≤ k ∧ k ≤ 2147483647) (hD : -2147483648 ≤ D ∧ D ≤ 2147483647) (hj : -2147483648 ≤ j ∧ j ≤ 2147483647) (hp : 0 ≤ p ∧ p ≤ 99) (hq : 1 ≤ q ∧ q ≤ 99) (H : finSt h p q) : AC mX0_pick (d + 8) 0 0 n h [aR 38, aI k, aI D, aI j] (aqi n fun v h' => v = pkO (pickS k D p q j) ∧ finSt h' p q ∧ ∀ j, (j < 38 ∨ 47 < j) → h' j = h j) := by
  refine AC.of (by decide) (Nat.le_of_ble_eq_true rfl) ?_
  have a1 := H.1
  refine aw_iconst dX0_pick_0 ?_
  refine aw_istore dX0_pick_1 (by decide) ?_
  refine aw_aload_n dX0_pick_3 rfl ?_
  refine aw_iload_n dX0_pick_4 rfl ?_
  -- at 5: .invokevirtual 31
  refine aw_Vi1 kc_X0_31 (c_seek (d := d) hk hp hq H) (by assumption) rfl rfl (by omega) (Nat.le_of_ble_eq_true rfl) dX0_pick_5 (fun v h' q1 => ?_)
  rcases q1 with ⟨q1, rfl, rfl⟩ | ⟨q1, rfl, q2, q3⟩
  · refine aw_istore dX0_pick_8 (by decide) ?_
    refine aw_iconst dX0_pick_10 ?_
    refine aw_istore dX0_pick_11 (by decide) ?_
    refine aw_iload dX0_pick_13 rfl ?_
    refine aw_iload dX0_pick_15 rfl ?_
    -- at 17: .if_icmp .ge 44
    refine aw_icmp_ge (tgt := 61) dX0_pick_17 (by omega) (by omega) (by decide) (fun c1 => ?_) (fun c1 => ?_)
    · refine aw_bipush dX0_pick_61 (by decide) ?_
      -- at 63: .ireturn
      refine aw_iret rfl dX0_pick_63 ⟨rfl, _, rfl, ?_, H, fun _ _ => rfl⟩
      rw [pickS, if_neg q1]
      rfl
    · omega
  · obtain ⟨N, rfl⟩ : ∃ N : Nat, k = (N : Int) := ⟨k.toNat, by omega⟩
    rw [Int.toNat_natCast] at q2 ⊢
    refine aw_istore dX0_pick_8 (by decide) ?_
    refine aw_iconst dX0_pick_10 ?_
    refine aw_istore dX0_pick_11 (by decide) ?_
    have hlen := sm_128 (n := N) (p := p) (q := q) (by omega) (by omega) hp.1 hq
    exact pi_loop (by omega) hD hj q2 hlen (Q := fun h'' => finSt h'' p q ∧ ∀ j, (j < 38 ∨ 47 < j) → h'' j = h j) ⟨q2.1, q3⟩ _ 0 0 (Nat.zero_add _) (Nat.le_refl _) (by rw [pickS, if_pos q1, Int.toNat_natCast, List.drop_zero]; congr 1; omega)
theorem c_unpack {a N i : Nat} (ha : a < 1073741824) (hN : N ≤ 5) (hi : i < N) : AC mX0_unpack d 0 0 n h [aI (a : Int), aI (N : Int), aI (i : Int)] (aqi n fun v h' => v = ((a / 64 ^ (N - 1 - i) % 64 : Nat) : Int) ∧ h' = h) := by
  refine AC.of (by decide) (Nat.le_of_ble_eq_true rfl) ?_
  obtain ⟨e, he⟩ : ∃ e, e = N - 1 - i := ⟨_, rfl⟩
  have hs : (iI (a : Nat) >>> (iI ((6 * e : Nat) : Int) &&& 31)).toInt = ((a / 64 ^ e : Nat) : Int) := by
    have p6 : (64 : Nat) ^ e = 2 ^ (6 * e) := by rw [Nat.pow_mul]
    rw [p6]
    rcases (show e = 0 ∨ e = 1 ∨ e = 2 ∨ e = 3 ∨ e = 4 by omega) with rfl | rfl | rfl | rfl | rfl
    · exact shr6 (by omega) 0 0 (by decide) (by decide)
    · exact shr6 (by omega) 6 6 (by decide) (by decide)
    · exact shr6 (by omega) 12 12 (by decide) (by decide)
    · exact shr6 (by omega) 18 18 (by decide) (by decide)
    · exact shr6 (by omega) 24 24 (by decide) (by decide)
  refine aw_iload_n dX0_unpack_0 rfl ?_
  refine aw_bipush dX0_unpack_1 (by decide) ?_
  refine aw_iload_n dX0_unpack_3 rfl ?_
  refine aw_iconst dX0_unpack_4 ?_
  refine aw_isub dX0_unpack_5 ?_
  refine aw_iload_n dX0_unpack_6 rfl ?_
  refine aw_isub dX0_unpack_7 ?_
  refine aw_imul dX0_unpack_8 ?_
  refine aw_val (w := aI ((6 * e : Nat) : Int)) (by congr 1; omega) ?_
  refine aw_ishr dX0_unpack_9 ?_
  refine aw_val (w := aI ((a / 64 ^ e : Nat) : Int)) (by rw [hs]) ?_
  refine aw_bipush dX0_unpack_10 (by decide) ?_
  refine aw_iand dX0_unpack_12 ?_
  -- at 13: .ireturn
  have hle : a / 64 ^ e ≤ a := Nat.div_le_self _ _
  exact aw_iret rfl dX0_unpack_13 ⟨rfl, _, rfl, by rw [and63 (by omega), he], rfl⟩
def numS (k D p q j i : Int) : Int := match pickS k D p q j with
  | none => -9
  | some l => if 0 ≤ i ∧ i < k then l.getD i.toNat 0 else -9
theorem pickS_mem {k D j : Int} {l : List Int} (h : pickS k D p q j = some l) : (1 ≤ k ∧ k ≤ 5) ∧ l ∈ S60 k.toNat p q := by
  unfold pickS at h
  split at h
  · exact ⟨by assumption, pckS_mem _ _ h⟩
  · cases h
theorem c_numberOf {k D j i : Int} (hk : -2147483648 ≤ k ∧ k ≤ 2147483647) (hD : -2147483648 ≤ D ∧ D ≤ 2147483647) (hj : -2147483648 ≤ j ∧ j ≤ 2147483647) (hi : -2147483648 ≤ i ∧ i ≤ 2147483647) (hp : 0 ≤ p ∧ p ≤ 99) (hq : 1 ≤ q ∧ q ≤ 99) (H : finSt h p q) : AC mX0_numberOf (d + 9) 0 0 n h [aR 38, aI k, aI D, aI j, aI i] (aqi n fun v h' => v = numS k D p q j i ∧ finSt h' p q ∧ ∀ j, (j < 38 ∨ 47 < j) → h' j = h j) := by
  refine AC.of (by decide) (Nat.le_of_ble_eq_true rfl) ?_
  have a1 := H.1
  refine aw_aload_n dX0_numberOf_0 rfl ?_
  refine aw_iload_n dX0_numberOf_1 rfl ?_
  refine aw_iload_n dX0_numberOf_2 rfl ?_
  refine aw_iload_n dX0_numberOf_3 rfl ?_
  -- at 4: .invokevirtual 38
  refine aw_Vi3 kc_X0_38 (c_pick (d := d) hk hD hj hp hq H) (by assumption) rfl rfl (by omega) (Nat.le_of_ble_eq_true rfl) dX0_numberOf_4 (fun v h' q1 => ?_)
  obtain ⟨rfl, q2, q3⟩ := q1
  cases hP : pickS k D p q j with
  | none =>
    have ans : (-9 : Int) = numS k D p q j i := by rw [numS, hP]
    rw [pkO]
    refine aw_istore dX0_numberOf_7 (by decide) ?_
    refine aw_iload dX0_numberOf_9 rfl ?_
    refine aw_bipush dX0_numberOf_11 (by decide) ?_
    -- at 13: .if_icmp .eq 14
    refine aw_icmp_eq (tgt := 27) dX0_numberOf_13 (by omega) (by omega) (by decide) (fun c1 => ?_) (fun c1 => ?_)
    · refine aw_bipush dX0_numberOf_27 (by decide) ?_
      refine aw_goto (tgt := 40) dX0_numberOf_29 (by decide) ?_
      -- at 40: .ireturn
      exact aw_iret rfl dX0_numberOf_40 ⟨rfl, _, rfl, ans, q2, q3⟩
    · omega
  | some l =>
    obtain ⟨k1, k2⟩ := pickS_mem hP
    obtain ⟨g1, g2, g3, g4, g5⟩ := pk_sum (by omega) (by omega) k2
    have ep : pkI 0 l = ((pkN 0 l : Nat) : Int) := rfl
    rw [pkO]
    refine aw_istore dX0_numberOf_7 (by decide) ?_
    refine aw_iload dX0_numberOf_9 rfl ?_
    refine aw_bipush dX0_numberOf_11 (by decide) ?_
    -- at 13: .if_icmp .eq 14
    refine aw_icmp_eq (tgt := 27) dX0_numberOf_13 (by omega) (by omega) (by decide) (fun c1 => ?_) (fun c1 => ?_)
    · omega
    · refine aw_iload dX0_numberOf_16 rfl ?_
      -- at 18: .ifCond .lt 9
      refine aw_if_lt (tgt := 27) dX0_numberOf_18 (by omega) (by decide) (fun c2 => ?_) (fun c2 => ?_)
      · refine aw_bipush dX0_numberOf_27 (by decide) ?_
        refine aw_goto (tgt := 40) dX0_numberOf_29 (by decide) ?_
        -- at 40: .ireturn
        exact aw_iret rfl dX0_numberOf_40 ⟨rfl, _, rfl, by rw [numS, hP]; dsimp only; rw [if_neg (by omega)], q2, q3⟩
      · refine aw_iload dX0_numberOf_21 rfl ?_
        refine aw_iload_n dX0_numberOf_23 rfl ?_
        -- at 24: .if_icmp .lt 8
        refine aw_icmp_lt (tgt := 32) dX0_numberOf_24 (by omega) (by omega) (by decide) (fun c3 => ?_) (fun c3 => ?_)
        rotate_left
        · refine aw_bipush dX0_numberOf_27 (by decide) ?_
          refine aw_goto (tgt := 40) dX0_numberOf_29 (by decide) ?_
          -- at 40: .ireturn
          exact aw_iret rfl dX0_numberOf_40 ⟨rfl, _, rfl, by rw [numS, hP]; dsimp only; rw [if_neg (by omega)], q2, q3⟩
        · obtain ⟨N, rfl⟩ : ∃ N : Nat, k = (N : Int) := ⟨k.toNat, by omega⟩
          obtain ⟨I, rfl⟩ : ∃ I : Nat, i = (I : Int) := ⟨i.toNat, by omega⟩
          rw [Int.toNat_natCast] at g5
          refine aw_iload dX0_numberOf_32 rfl ?_
          refine aw_iload_n dX0_numberOf_34 rfl ?_
          refine aw_iload dX0_numberOf_35 rfl ?_
          -- at 37: .invokestatic 42
          refine aw_Si3 kc_X0_42 (c_unpack (d := d + 8) g2 (by omega) (by omega)) rfl (by omega) (Nat.le_of_ble_eq_true rfl) dX0_numberOf_37 (fun v h2 q4 => ?_)
          obtain ⟨rfl, rfl⟩ := q4
          exact aw_iret rfl dX0_numberOf_40 ⟨rfl, _, rfl, by rw [numS, hP]; dsimp only; rw [if_pos (by omega), Int.toNat_natCast]; exact g5 I (by omega), q2, q3⟩
theorem c_leastLength {D : Int} (hD : -2147483648 ≤ D ∧ D ≤ 2147483647) (hp : 0 ≤ p ∧ p ≤ 99) (hq : 1 ≤ q ∧ q ≤ 99) (H : finSt h p q) : AC mX0_leastLength (d + 9) 0 0 n h [aR 38, aI D] (aqi n fun v h' => v = few5 (fun k => howS k D p q) 5 1 ∧ finSt h' p q ∧ ∀ j, (j < 38 ∨ 47 < j) → h' j = h j) := by
  refine AC.of (by decide) (Nat.le_of_ble_eq_true rfl) ?_
  have loop : ∀ (c k : Nat) (h1 : AH), k + c = 6 → 1 ≤ k → finSt h1 p q → (∀ j, (j < 38 ∨ 47 < j) → h1 j = h j) → few5 (fun k => howS k D p q) c (k : Int) = few5 (fun k => howS k D p q) 5 1 → AW mX0_leastLength (am_R (d + 9) 0 0) (am_Z (aqi n fun v h' => v = few5 (fun k => howS k D p q) 5 1 ∧ finSt h' p q ∧ ∀ j, (j < 38 ∨ 47 < j) → h' j = h j) 0 0) 0 0 n h1 2 [some (aR 38), some (aI D), some (aI (k : Int))] [] := by
    intro c
    induction c with
    | zero =>
      intro k h1 hk hk1 H1 hfr hV
      refine aw_iload_n dX0_leastLength_2 rfl ?_
      refine aw_iconst dX0_leastLength_3 ?_
      -- at 4: .if_icmp .gt 20
      refine aw_icmp_gt (tgt := 24) dX0_leastLength_4 (by omega) (by omega) (by decide) (fun c1 => ?_) (fun c1 => ?_)
      · refine aw_bipush dX0_leastLength_24 (by decide) ?_
        -- at 26: .ireturn
        exact aw_iret rfl dX0_leastLength_26 ⟨rfl, _, rfl, by rw [← hV]; rfl, H1, hfr⟩
      · omega
    | succ c ih =>
      intro k h1 hk hk1 H1 hfr hV
      have a1 := H1.1
      rw [few5] at hV
      refine aw_iload_n dX0_leastLength_2 rfl ?_
      refine aw_iconst dX0_leastLength_3 ?_
      -- at 4: .if_icmp .gt 20
      refine aw_icmp_gt (tgt := 24) dX0_leastLength_4 (by omega) (by omega) (by decide) (fun c1 => ?_) (fun c1 => ?_)
      · omega
      · have rng : 0 ≤ howS (k : Int) D p q ∧ howS (k : Int) D p q ≤ 200 := by
          have hlen : (S60 k p q).length < 128 := sm_128 (n := k) (p := p) (q := q) (by omega) (by omega) hp.1 hq
          have := List.length_filter_le (wth D) (S60 k p q)
          rw [howS, if_pos (by omega), Int.toNat_natCast, hmS]
          omega
        refine aw_aload_n dX0_leastLength_7 rfl ?_
        refine aw_iload_n dX0_leastLength_8 rfl ?_
        refine aw_iload_n dX0_leastLength_9 rfl ?_
        -- at 10: .invokevirtual 45
        refine aw_Vi2 kc_X0_45 (c_howMany (d := d) (by omega) hD hp hq H1) (by assumption) rfl rfl (by omega) (Nat.le_of_ble_eq_true rfl) dX0_leastLength_10 (fun v h2 q1 => ?_)
        obtain ⟨rfl, q2, q3⟩ := q1
        refine aw_if_le (tgt := 18) dX0_leastLength_13 (by omega) (by decide) (fun c2 => ?_) (fun c2 => ?_)
        · rw [if_neg (by omega)] at hV
          refine aw_iinc dX0_leastLength_18 rfl (by decide) ?_
          refine aw_goto (tgt := 2) dX0_leastLength_21 (by decide) ?_
          have K := ih (k + 1) h2 (by omega) (by omega) q2 (fun j hj => (q3 j hj).trans (hfr j hj)) (by rw [← hV]; congr 1)
          rw [show ((k + 1 : Nat) : Int) = (k : Int) + 1 by omega] at K
          exact K
        · rw [if_pos (by omega)] at hV
          refine aw_iload_n dX0_leastLength_16 rfl ?_
          -- at 17: .ireturn
          exact aw_iret rfl dX0_leastLength_17 ⟨rfl, _, rfl, hV, q2, fun j hj => (q3 j hj).trans (hfr j hj)⟩
  refine aw_iconst dX0_leastLength_0 ?_
  refine aw_istore_n dX0_leastLength_1 (by decide) ?_
  exact loop 5 1 h rfl (by omega) H (fun _ _ => rfl) rfl
theorem lb_loop {N : Nat} {V : Int} (hN : 1 ≤ N ∧ N ≤ 5) (H : hasF h p q N) (hS : (S60 N p q).length < 128) {Q : AH → Prop} (hQ : Q h) :
    ∀ (c i : Nat) (m : Int) (L5 : Option AV), i + c = (S60 N p q).length → -9 ≤ m ∧ m ≤ 60 → lbS ((S60 N p q).drop i) m = V → AW mX0_leastBound (am_R (d + 8) 0 0) (am_Z (aqi n fun v h' => v = V ∧ Q h') 0 0) 0 0 n h 12 [some (aR 38), some (aI (N : Int)), some (aI m), some (aI ((S60 N p q).length : Int)), some (aI (i : Int)), L5] [] := by
  obtain ⟨⟨a1, ⟨g, a2, a3⟩, -⟩, f, b1, b2⟩ := H
  intro c
  induction c with
  | zero =>
    intro i m L5 hi hm hV
    refine aw_iload dX0_leastBound_12 rfl ?_
    refine aw_iload_n dX0_leastBound_14 rfl ?_
    -- at 15: .if_icmp .ge 38
    refine aw_icmp_ge (tgt := 53) dX0_leastBound_15 (by omega) (by omega) (by decide) (fun c1 => ?_) (fun c1 => ?_)
    · refine aw_iload_n dX0_leastBound_53 rfl ?_
      -- at 54: .ireturn
      refine aw_iret rfl dX0_leastBound_54 ⟨rfl, _, rfl, ?_, hQ⟩
      rw [← hV, List.drop_eq_nil_of_le (by omega)]
      rfl
    · omega
  | succ c ih =>
    intro i m L5 hi hm hV
    have hi' : i < (S60 N p q).length := by omega
    obtain ⟨g1, g2, g3, g4, g5⟩ := pk_sum hN.1 hN.2 (List.getElem_mem hi')
    rw [drop_step hi', lbS] at hV
    refine aw_iload dX0_leastBound_12 rfl ?_
    refine aw_iload_n dX0_leastBound_14 rfl ?_
    -- at 15: .if_icmp .ge 38
    refine aw_icmp_ge (tgt := 53) dX0_leastBound_15 (by omega) (by omega) (by decide) (fun c1 => ?_) (fun c1 => ?_)
    · omega
    · refine aw_aload_n dX0_leastBound_18 rfl ?_
      refine aw_get kg_X0_20 (by assumption) (by rfl) dX0_leastBound_19 ?_
      refine aw_iload_n dX0_leastBound_22 rfl ?_
      -- at 23: .aaload
      refine aw_aaldA a2 (by omega) (a3 _ (by omega)) dX0_leastBound_23 ?_
      rw [Int.toNat_natCast]
      refine aw_iload dX0_leastBound_24 rfl ?_
      refine aw_iald (by assumption) (by omega) dX0_leastBound_26 ?_
      refine aw_val (w := aI (pkI 0 ((S60 N p q)[i]))) (by rw [Int.toNat_natCast, b2 i hi']) ?_
      refine aw_Si1 kc_X0_35 (c_greatest (d := d) (by omega)) rfl (by omega) (Nat.le_of_ble_eq_true rfl) dX0_leastBound_27 (fun v h' q1 => ?_)
      obtain ⟨rfl, rfl⟩ := q1
      rw [g3]
      refine aw_istore dX0_leastBound_30 (by decide) ?_
      refine aw_iload_n dX0_leastBound_32 rfl ?_
      refine aw_bipush dX0_leastBound_33 (by decide) ?_
      -- at 35: .if_icmp .eq 9
      refine aw_icmp_eq (tgt := 44) dX0_leastBound_35 (by omega) (by omega) (by decide) (fun c2 => ?_) (fun c2 => ?_)
      · rw [if_pos (by omega)] at hV
        refine aw_iload dX0_leastBound_44 rfl ?_
        refine aw_istore_n dX0_leastBound_46 (by decide) ?_
        refine aw_iinc dX0_leastBound_47 rfl (by decide) ?_
        refine aw_goto (tgt := 12) dX0_leastBound_50 (by decide) ?_
        have K := ih (i + 1) (lastN (S60 N p q)[i]) (some (aI (lastN (S60 N p q)[i]))) (by omega) (by omega) hV
        rw [show ((i + 1 : Nat) : Int) = (i : Int) + 1 by omega] at K
        exact K
      · refine aw_iload dX0_leastBound_38 rfl ?_
        refine aw_iload_n dX0_leastBound_40 rfl ?_
        -- at 41: .if_icmp .ge 6
        refine aw_icmp_ge (tgt := 47) dX0_leastBound_41 (by omega) (by omega) (by decide) (fun c3 => ?_) (fun c3 => ?_)
        · rw [if_neg (by omega)] at hV
          refine aw_iinc dX0_leastBound_47 rfl (by decide) ?_
          refine aw_goto (tgt := 12) dX0_leastBound_50 (by decide) ?_
          have K := ih (i + 1) m (some (aI (lastN (S60 N p q)[i]))) (by omega) (by omega) hV
          rw [show ((i + 1 : Nat) : Int) = (i : Int) + 1 by omega] at K
          exact K
        · rw [if_pos (by omega)] at hV
          refine aw_iload dX0_leastBound_44 rfl ?_
          refine aw_istore_n dX0_leastBound_46 (by decide) ?_
          refine aw_iinc dX0_leastBound_47 rfl (by decide) ?_
          refine aw_goto (tgt := 12) dX0_leastBound_50 (by decide) ?_
          have K := ih (i + 1) (lastN (S60 N p q)[i]) (some (aI (lastN (S60 N p q)[i]))) (by omega) (by omega) hV
          rw [show ((i + 1 : Nat) : Int) = (i : Int) + 1 by omega] at K
          exact K
theorem c_leastBound {k : Int} (hk : -2147483648 ≤ k ∧ k ≤ 2147483647) (hp : 0 ≤ p ∧ p ≤ 99) (hq : 1 ≤ q ∧ q ≤ 99) (H : finSt h p q) : AC mX0_leastBound (d + 8) 0 0 n h [aR 38, aI k] (aqi n fun v h' => v = bndS k p q ∧ finSt h' p q ∧ ∀ j, (j < 38 ∨ 47 < j) → h' j = h j) := by
  refine AC.of (by decide) (Nat.le_of_ble_eq_true rfl) ?_
  have a1 := H.1
  refine aw_bipush dX0_leastBound_0 (by decide) ?_
  refine aw_istore_n dX0_leastBound_2 (by decide) ?_
  refine aw_aload_n dX0_leastBound_3 rfl ?_
  refine aw_iload_n dX0_leastBound_4 rfl ?_
  -- at 5: .invokevirtual 31
  refine aw_Vi1 kc_X0_31 (c_seek (d := d) hk hp hq H) (by assumption) rfl rfl (by omega) (Nat.le_of_ble_eq_true rfl) dX0_leastBound_5 (fun v h' q1 => ?_)
  rcases q1 with ⟨q1, rfl, rfl⟩ | ⟨q1, rfl, q2, q3⟩
  · refine aw_istore_n dX0_leastBound_8 (by decide) ?_
    refine aw_iconst dX0_leastBound_9 ?_
    refine aw_istore dX0_leastBound_10 (by decide) ?_
    refine aw_iload dX0_leastBound_12 rfl ?_
    refine aw_iload_n dX0_leastBound_14 rfl ?_
    -- at 15: .if_icmp .ge 38
    refine aw_icmp_ge (tgt := 53) dX0_leastBound_15 (by omega) (by omega) (by decide) (fun c1 => ?_) (fun c1 => ?_)
    · refine aw_iload_n dX0_leastBound_53 rfl ?_
      -- at 54: .ireturn
      refine aw_iret rfl dX0_leastBound_54 ⟨rfl, _, rfl, ?_, H, fun _ _ => rfl⟩
      rw [bndS, if_neg q1]
    · omega
  · obtain ⟨N, rfl⟩ : ∃ N : Nat, k = (N : Int) := ⟨k.toNat, by omega⟩
    rw [Int.toNat_natCast] at q2 ⊢
    refine aw_istore_n dX0_leastBound_8 (by decide) ?_
    refine aw_iconst dX0_leastBound_9 ?_
    refine aw_istore dX0_leastBound_10 (by decide) ?_
    have hlen := sm_128 (n := N) (p := p) (q := q) (by omega) (by omega) hp.1 hq
    exact lb_loop (by omega) q2 hlen (Q := fun h'' => finSt h'' p q ∧ ∀ j, (j < 38 ∨ 47 < j) → h'' j = h j) ⟨q2.1, q3⟩ _ 0 (-9) none (Nat.zero_add _) (by omega) (by rw [bndS, if_pos q1, Int.toNat_natCast, List.drop_zero])
theorem c_lengthOf (hp : 0 ≤ p ∧ p ≤ 99) (hq : 1 ≤ q ∧ q ≤ 99) (H : finSt h p q) : AC mX0_lengthOfLeastBound (d + 9) 0 0 n h [aR 38] (aqi n fun v h' => v = (bl5 (fun k => bndS k p q) 5 1 (-9) 61).1 ∧ finSt h' p q ∧ ∀ j, (j < 38 ∨ 47 < j) → h' j = h j) := by
  refine AC.of (by decide) (Nat.le_of_ble_eq_true rfl) ?_
  have loop : ∀ (c k : Nat) (best least : Int) (h1 : AH) (L4 : Option AV), k + c = 6 → 1 ≤ k → -9 ≤ least ∧ least ≤ 61 → finSt h1 p q → (∀ j, (j < 38 ∨ 47 < j) → h1 j = h j) → bl5 (fun k => bndS k p q) c (k : Int) best least = bl5 (fun k => bndS k p q) 5 1 (-9) 61 → AW mX0_lengthOfLeastBound (am_R (d + 9) 0 0) (am_Z (aqi n fun v h' => v = (bl5 (fun k => bndS k p q) 5 1 (-9) 61).1 ∧ finSt h' p q ∧ ∀ j, (j < 38 ∨ 47 < j) → h' j = h j) 0 0) 0 0 n h1 8 [some (aR 38), some (aI best), some (aI least), some (aI (k : Int)), L4] [] := by
    intro c
    induction c with
    | zero =>
      intro k best least h1 L4 hk hk1 hl H1 hfr hV
      refine aw_iload_n dX0_lengthOfLeastBound_8 rfl ?_
      refine aw_iconst dX0_lengthOfLeastBound_9 ?_
      -- at 10: .if_icmp .gt 34
      refine aw_icmp_gt (tgt := 44) dX0_lengthOfLeastBound_10 (by omega) (by omega) (by decide) (fun c1 => ?_) (fun c1 => ?_)
      · refine aw_iload_n dX0_lengthOfLeastBound_44 rfl ?_
        -- at 45: .ireturn
        exact aw_iret rfl dX0_lengthOfLeastBound_45 ⟨rfl, _, rfl, by rw [← hV]; rfl, H1, hfr⟩
      · omega
    | succ c ih =>
      intro k best least h1 L4 hk hk1 hl H1 hfr hV
      have a1 := H1.1
      have rng := bndS_rng (k : Int) p q
      rw [bl5] at hV
      refine aw_iload_n dX0_lengthOfLeastBound_8 rfl ?_
      refine aw_iconst dX0_lengthOfLeastBound_9 ?_
      -- at 10: .if_icmp .gt 34
      refine aw_icmp_gt (tgt := 44) dX0_lengthOfLeastBound_10 (by omega) (by omega) (by decide) (fun c1 => ?_) (fun c1 => ?_)
      · omega
      · refine aw_aload_n dX0_lengthOfLeastBound_13 rfl ?_
        refine aw_iload_n dX0_lengthOfLeastBound_14 rfl ?_
        -- at 15: .invokevirtual 49
        refine aw_Vi1 kc_X0_49 (c_leastBound (d := d) (by omega) hp hq H1) (by assumption) rfl rfl (by omega) (Nat.le_of_ble_eq_true rfl) dX0_lengthOfLeastBound_15 (fun v h2 q1 => ?_)
        obtain ⟨rfl, q2, q3⟩ := q1
        have skip : ¬ (bndS (k : Int) p q ≠ -9 ∧ bndS (k : Int) p q < least) → AW mX0_lengthOfLeastBound (am_R (d + 9) 0 0) (am_Z (aqi n fun v h' => v = (bl5 (fun k => bndS k p q) 5 1 (-9) 61).1 ∧ finSt h' p q ∧ ∀ j, (j < 38 ∨ 47 < j) → h' j = h j) 0 0) 0 0 n h2 38 [some (aR 38), some (aI best), some (aI least), some (aI (k : Int)), some (aI (bndS (k : Int) p q))] [] := by
          intro z
          rw [if_neg z] at hV
          refine aw_iinc dX0_lengthOfLeastBound_38 rfl (by decide) ?_
          refine aw_goto (tgt := 8) dX0_lengthOfLeastBound_41 (by decide) ?_
          have K := ih (k + 1) best least h2 (some (aI (bndS (k : Int) p q))) (by omega) (by omega) hl q2 (fun j hj => (q3 j hj).trans (hfr j hj)) (by rw [← hV]; congr 1)
          rw [show ((k + 1 : Nat) : Int) = (k : Int) + 1 by omega] at K
          exact K
        refine aw_istore dX0_lengthOfLeastBound_18 (by decide) ?_
        refine aw_iload dX0_lengthOfLeastBound_20 rfl ?_
        refine aw_bipush dX0_lengthOfLeastBound_22 (by decide) ?_
        -- at 24: .if_icmp .eq 14
        refine aw_icmp_eq (tgt := 38) dX0_lengthOfLeastBound_24 (by omega) (by omega) (by decide) (fun c2 => ?_) (fun c2 => ?_)
        · exact skip (by omega)
        · refine aw_iload dX0_lengthOfLeastBound_27 rfl ?_
          refine aw_iload_n dX0_lengthOfLeastBound_29 rfl ?_
          -- at 30: .if_icmp .ge 8
          refine aw_icmp_ge (tgt := 38) dX0_lengthOfLeastBound_30 (by omega) (by omega) (by decide) (fun c3 => ?_) (fun c3 => ?_)
          · exact skip (by omega)
          · rw [if_pos (by omega)] at hV
            refine aw_iload dX0_lengthOfLeastBound_33 rfl ?_
            refine aw_istore_n dX0_lengthOfLeastBound_35 (by decide) ?_
            refine aw_iload_n dX0_lengthOfLeastBound_36 rfl ?_
            refine aw_istore_n dX0_lengthOfLeastBound_37 (by decide) ?_
            refine aw_iinc dX0_lengthOfLeastBound_38 rfl (by decide) ?_
            refine aw_goto (tgt := 8) dX0_lengthOfLeastBound_41 (by decide) ?_
            have K := ih (k + 1) (k : Int) (bndS (k : Int) p q) h2 (some (aI (bndS (k : Int) p q))) (by omega) (by omega) (by omega) q2 (fun j hj => (q3 j hj).trans (hfr j hj)) (by rw [← hV]; congr 1)
            rw [show ((k + 1 : Nat) : Int) = (k : Int) + 1 by omega] at K
            exact K
  refine aw_bipush dX0_lengthOfLeastBound_0 (by decide) ?_
  refine aw_istore_n dX0_lengthOfLeastBound_2 (by decide) ?_
  refine aw_bipush dX0_lengthOfLeastBound_3 (by decide) ?_
  refine aw_istore_n dX0_lengthOfLeastBound_5 (by decide) ?_
  refine aw_iconst dX0_lengthOfLeastBound_6 ?_
  refine aw_istore_n dX0_lengthOfLeastBound_7 (by decide) ?_
  exact loop 5 1 (-9) 61 h none rfl (by omega) (by omega) H (fun _ _ => rfl) rfl
theorem asc_get {D : Int} : ∀ (l : List Int) (lo : Int) (i : Nat), asc D lo l → i + 1 < l.length → l.getD i 0 < l.getD (i + 1) 0
  | [], _, _, _, h => absurd h (by simp)
  | [x], _, _, _, h => absurd h (by simp)
  | x :: y :: l, lo, 0, h, _ => h.2.2.1
  | x :: y :: l, lo, i + 1, h, hi => asc_get (y :: l) x i h.2.2 (by simpa using hi)
theorem gd_take (l : List Int) (k i : Nat) (h : i < k) : (l.take k).getD i 0 = l.getD i 0 := by
  rw [List.getD_eq_getElem?_getD, List.getD_eq_getElem?_getD, List.getElem?_take, if_pos h]
/-- a sum's numbers make a row -/
theorem sum_row {k : Nat} {l : List Int} {D : Nat} (hk : k ≤ 5) (hD : D ≤ 60) {a b : Int} (h : l ∈ sm D k 0 a b) : inRow l ∧ rising l := by
  obtain ⟨g1, g2⟩ := sm_mem _ _ _ _ h
  refine ⟨⟨by omega, fun i hi => ?_⟩, fun i j hij hj => ?_⟩
  · have e : l.getD i 0 = l[i] := by rw [List.getD_eq_getElem?_getD, List.getElem?_eq_getElem hi]; rfl
    have := asc_mem l _ g2 _ (List.getElem_mem hi)
    rw [e]
    omega
  · obtain ⟨c, rfl⟩ : ∃ c, j = i + 1 + c := ⟨j - i - 1, by omega⟩
    induction c with
    | zero => exact asc_get l _ i g2 (by omega)
    | succ c ih =>
      have h1 := ih (by omega) (by omega)
      have h2 := asc_get l _ (i + 1 + c) g2 (by omega)
      rw [show i + 1 + (c + 1) = i + 1 + c + 1 by omega]
      omega
theorem take_ins {l : List Int} {i : Nat} (hl : inRow l ∧ rising l) (hi : i < l.length) (h8 : l.length ≤ 8) : insOK (l.take i) (l.getD i 0) ∧ insL (l.take i) (l.getD i 0) = l.take (i + 1) ∧ inRow (l.take i) := by
  have hv := hl.1.2 i hi
  have len : (l.take i).length = i := by rw [List.length_take]; omega
  have hlast : lastv (l.take i) < l.getD i 0 := by
    unfold lastv
    rw [len]
    split
    · omega
    · rw [gd_take _ _ _ (by omega)]
      exact hl.2 (i - 1) i (by omega) hi
  obtain ⟨e1, e2⟩ := ins_end hlast hv.1
  refine ⟨insOK_end hlast hv (by omega), ?_, ⟨by omega, fun j hj => ?_⟩⟩
  · rw [e2]
    have e : l.getD i 0 = l[i] := by rw [List.getD_eq_getElem?_getD, List.getElem?_eq_getElem hi]; rfl
    rw [e, List.take_append_getElem]
  · rw [len] at hj
    rw [gd_take _ _ _ hj]
    exact hl.1.2 j (by omega)
theorem c_copyFirst {k D : Int} {r ra : Nat} {l0 : List Int} (hk : -2147483648 ≤ k ∧ k ≤ 2147483647) (hD : -2147483648 ≤ D ∧ D ≤ 2147483647) (hp : 0 ≤ p ∧ p ≤ 99) (hq : 1 ≤ q ∧ q ≤ 99) (H : finSt h p q) (HR : isRow h r ra l0) (hr : r < 38 ∧ ra < 38) : AC mX0_copyFirst (d + 9) 0 0 n h [aR 38, aI k, aI D, aR r] (aqi n fun v h' => finSt h' p q ∧ (∀ j, (j < 38 ∨ 47 < j) → j ≠ r → j ≠ ra → h' j = h j) ∧ ((v = 1 ∧ ∃ l, pickS k D p q 0 = some l ∧ isRow h' r ra l) ∨ (v = 0 ∧ pickS k D p q 0 = none ∧ isRow h' r ra l0))) := by
  refine AC.of (by decide) (Nat.le_of_ble_eq_true rfl) ?_
  have a1 := H.1
  refine aw_aload_n dX0_copyFirst_0 rfl ?_
  refine aw_iload_n dX0_copyFirst_1 rfl ?_
  refine aw_iload_n dX0_copyFirst_2 rfl ?_
  refine aw_iconst dX0_copyFirst_3 ?_
  -- at 4: .invokevirtual 38
  refine aw_Vi3 kc_X0_38 (c_pick (d := d) hk hD (by omega) hp hq H) (by assumption) rfl rfl (by omega) (Nat.le_of_ble_eq_true rfl) dX0_copyFirst_4 (fun v h1 q1 => ?_)
  obtain ⟨rfl, q2, q3⟩ := q1
  have HR1 := HR.fr (q3 r (by omega)) (q3 ra (by omega))
  cases hP : pickS k D p q 0 with
  | none =>
    rw [pkO]
    refine aw_istore dX0_copyFirst_7 (by decide) ?_
    refine aw_iload dX0_copyFirst_9 rfl ?_
    refine aw_bipush dX0_copyFirst_11 (by decide) ?_
    -- at 13: .if_icmp .ne 5
    refine aw_icmp_ne (tgt := 18) dX0_copyFirst_13 (by omega) (by omega) (by decide) (fun c1 => ?_) (fun c1 => ?_)
    · omega
    · refine aw_iconst dX0_copyFirst_16 ?_
      -- at 17: .ireturn
      exact aw_zret rfl dX0_copyFirst_17 (by omega) ⟨rfl, _, rfl, q2, fun j j1 _ _ => q3 j j1, Or.inr ⟨rfl, rfl, HR1⟩⟩
  | some l =>
    obtain ⟨k1, k2⟩ := pickS_mem hP
    obtain ⟨N, rfl⟩ : ∃ N : Nat, k = (N : Int) := ⟨k.toNat, by omega⟩
    rw [Int.toNat_natCast] at k2
    obtain ⟨g1, g2, g3, g4, g5⟩ := pk_sum (by omega) (by omega) k2
    have hl := sum_row (by omega) (by omega) k2
    have ep : pkI 0 l = ((pkN 0 l : Nat) : Int) := rfl
    have hr0 := HR1.1
    have loop : ∀ (c i : Nat) (h2 : AH), i + c = N → isRow h2 r ra (l.take i) → (∀ j, j ≠ r → j ≠ ra → h2 j = h1 j) → AW mX0_copyFirst (am_R (d + 9) 0 0) (am_Z (aqi n fun v h' => finSt h' p q ∧ (∀ j, (j < 38 ∨ 47 < j) → j ≠ r → j ≠ ra → h' j = h j) ∧ ((v = 1 ∧ ∃ l', some l = some l' ∧ isRow h' r ra l') ∨ (v = 0 ∧ some l = none ∧ isRow h' r ra l0))) 0 0) 0 0 n h2 25 [some (aR 38), some (aI (N : Int)), some (aI D), some (aR r), some (aI ((pkN 0 l : Nat) : Int)), some (aI (i : Int))] [] := by
      intro c
      induction c with
      | zero =>
        intro i h2 hi HR2 hfr
        refine aw_iload dX0_copyFirst_25 rfl ?_
        refine aw_iload_n dX0_copyFirst_27 rfl ?_
        -- at 28: .if_icmp .ge 23
        refine aw_icmp_ge (tgt := 51) dX0_copyFirst_28 (by omega) (by omega) (by decide) (fun c2 => ?_) (fun c2 => ?_)
        · refine aw_iconst dX0_copyFirst_51 ?_
          -- at 52: .ireturn
          refine aw_zret rfl dX0_copyFirst_52 (by omega) ⟨rfl, _, rfl, q2.fr (fun j j1 j2 => hfr j (by omega) (by omega)), fun j j1 j2 j3 => (hfr j j2 j3).trans (q3 j j1), Or.inl ⟨rfl, l, rfl, ?_⟩⟩
          rw [List.take_of_length_le (by omega)] at HR2
          exact HR2
        · omega
      | succ c ih =>
        intro i h2 hi HR2 hfr
        have hr2 := HR2.1
        obtain ⟨t1, t2, t3⟩ := take_ins (i := i) hl (by omega) (by omega)
        have tv := hl.1.2 i (by omega)
        refine aw_iload dX0_copyFirst_25 rfl ?_
        refine aw_iload_n dX0_copyFirst_27 rfl ?_
        -- at 28: .if_icmp .ge 23
        refine aw_icmp_ge (tgt := 51) dX0_copyFirst_28 (by omega) (by omega) (by decide) (fun c2 => ?_) (fun c2 => ?_)
        · omega
        · refine aw_aload_n dX0_copyFirst_31 rfl ?_
          refine aw_iload dX0_copyFirst_32 rfl ?_
          refine aw_iload_n dX0_copyFirst_34 rfl ?_
          refine aw_iload dX0_copyFirst_35 rfl ?_
          -- at 37: .invokestatic 42
          refine aw_Si3 kc_X0_42 (c_unpack (d := d + 8) g2 (by omega) (by omega)) rfl (by omega) (Nat.le_of_ble_eq_true rfl) dX0_copyFirst_37 (fun v h3 q4 => ?_)
          obtain ⟨rfl, rfl⟩ := q4
          rw [g5 i (by omega)]
          refine aw_i2l dX0_copyFirst_40 (by omega) ?_
          -- at 41: .invokevirtual 57
          refine aw_Vi1 kc_X0_57 (c_Row_insert (d := d + 8) (by omega) HR2 t3) (by assumption) rfl rfl (by omega) (Nat.le_of_ble_eq_true rfl) dX0_copyFirst_41 (fun v h4 q4 => ?_)
          rcases q4 with ⟨-, rfl, q5, q6⟩ | ⟨q5, -, -⟩
          · rw [t2] at q5
            refine aw_pop dX0_copyFirst_44 rfl ?_
            refine aw_iinc dX0_copyFirst_45 rfl (by decide) ?_
            refine aw_goto (tgt := 25) dX0_copyFirst_48 (by decide) ?_
            have K := ih (i + 1) h4 (by omega) q5 (fun j j1 j2 => (q6 j j1 j2).trans (hfr j j1 j2))
            rw [show ((i + 1 : Nat) : Int) = (i : Int) + 1 by omega] at K
            exact K
          · exact absurd t1 q5
    rw [pkO]
    refine aw_istore dX0_copyFirst_7 (by decide) ?_
    refine aw_iload dX0_copyFirst_9 rfl ?_
    refine aw_bipush dX0_copyFirst_11 (by decide) ?_
    -- at 13: .if_icmp .ne 5
    refine aw_icmp_ne (tgt := 18) dX0_copyFirst_13 (by omega) (by omega) (by decide) (fun c1 => ?_) (fun c1 => ?_)
    rotate_left
    · omega
    · refine aw_aload_n dX0_copyFirst_18 rfl ?_
      -- at 19: .invokevirtual 52
      refine aw_Vv0 kc_X0_52 (c_Row_wipe (d := d + 8) HR1) (by assumption) rfl rfl (by omega) (Nat.le_of_ble_eq_true rfl) dX0_copyFirst_19 (fun h2 q4 => ?_)
      refine aw_iconst dX0_copyFirst_22 ?_
      refine aw_istore dX0_copyFirst_23 (by decide) ?_
      exact loop N 0 h2 (Nat.zero_add _) q4.1 q4.2
theorem c_turnTo {P Q : Int} (H : finSt h p q) : AC mX0_turnTo d 0 0 n h [aR 38, aI P, aI Q] (aqv n fun h' => finSt h' P Q ∧ ∀ j, (j < 38 ∨ 47 < j) → h' j = h j) := by
  refine AC.of (by decide) (Nat.le_of_ble_eq_true rfl) ?_
  obtain ⟨a1, ⟨g, a2, a3⟩, am, so, a4, a5, a6⟩ := H
  refine aw_aload_n dX0_turnTo_0 rfl ?_
  refine aw_iload_n dX0_turnTo_1 rfl ?_
  -- at 2: .putfield 9
  refine aw_putO kp_X0_9 (by assumption) (by simp) (aw_ni _) dX0_turnTo_2 (fun h1 b1 fr1 => ?_)
  have b1 : h1 38 = aO 0 [aI P, aI q, aR 39, aR 46, aR 47] := b1
  refine aw_aload_n dX0_turnTo_5 rfl ?_
  refine aw_iload_n dX0_turnTo_6 rfl ?_
  -- at 7: .putfield 15
  refine aw_putO kp_X0_15 (by assumption) (by simp) (aw_ni _) dX0_turnTo_7 (fun h2 b2 fr2 => ?_)
  have b2 : h2 38 = aO 0 [aI P, aI Q, aR 39, aR 46, aR 47] := b2
  have loop : ∀ (c k : Nat) (h3 : AH) (so3 : Nat → Int), k + c = 6 → 1 ≤ k → h3 38 = aO 0 [aI P, aI Q, aR 39, aR 46, aR 47] → h3 47 = aA 1 6 so3 → (∀ i, 1 ≤ i → i < k → so3 i = 0) → (∀ i, ¬ (1 ≤ i ∧ i < k) → so3 i = so i) → (∀ j, j ≠ 47 → h3 j = h2 j) → AW mX0_turnTo (am_R d 0 0) (am_Z (aqv n fun h' => finSt h' P Q ∧ ∀ j, (j < 38 ∨ 47 < j) → h' j = h j) 0 0) 0 0 n h3 12 [some (aR 38), some (aI P), some (aI Q), some (aI (k : Int))] [] := by
    intro c
    induction c with
    | zero =>
      intro k h3 so3 hk hk1 e1 e2 e3 e4 hfr
      refine aw_iload_n dX0_turnTo_12 rfl ?_
      refine aw_iconst dX0_turnTo_13 ?_
      -- at 14: .if_icmp .gt 16
      refine aw_icmp_gt (tgt := 30) dX0_turnTo_14 (by omega) (by omega) (by decide) (fun c1 => ?_) (fun c1 => ?_)
      · refine aw_vret rfl dX0_turnTo_30 ⟨rfl, rfl, ⟨e1, ⟨g, (hfr 39 (by omega)).trans ((fr2 39 (by omega)).trans ((fr1 39 (by omega)).trans a2)), a3⟩, am, so3, (hfr 46 (by omega)).trans ((fr2 46 (by omega)).trans ((fr1 46 (by omega)).trans a4)), e2, fun i hi => ?_⟩, fun j hj => (hfr j (by omega)).trans ((fr2 j (by omega)).trans (fr1 j (by omega)))⟩
        obtain ⟨f, y1, y2⟩ := a6 i hi
        refine ⟨f, (hfr (40 + i) (by omega)).trans ((fr2 (40 + i) (by omega)).trans ((fr1 (40 + i) (by omega)).trans y1)), ?_⟩
        by_cases z : 1 ≤ i
        · exact Or.inl (e3 i z (by omega))
        · rw [e4 i (by omega)]
          rcases y2 with y2 | ⟨y2, -⟩
          · exact Or.inl y2
          · exact Or.inr ⟨y2, fun w => absurd w z⟩
      · omega
    | succ c ih =>
      intro k h3 so3 hk hk1 e1 e2 e3 e4 hfr
      refine aw_iload_n dX0_turnTo_12 rfl ?_
      refine aw_iconst dX0_turnTo_13 ?_
      -- at 14: .if_icmp .gt 16
      refine aw_icmp_gt (tgt := 30) dX0_turnTo_14 (by omega) (by omega) (by decide) (fun c1 => ?_) (fun c1 => ?_)
      · omega
      · refine aw_aload_n dX0_turnTo_17 rfl ?_
        refine aw_get kg_X0_27 (by assumption) (by rfl) dX0_turnTo_18 ?_
        refine aw_iload_n dX0_turnTo_21 rfl ?_
        refine aw_iconst dX0_turnTo_22 ?_
        -- at 23: .bastore
        refine aw_zastO (by assumption) (by omega) (by omega) dX0_turnTo_23 (fun h4 b4 fr4 => ?_)
        have e1' := (fr4 38 (by omega)).trans e1
        rw [Int.toNat_natCast] at b4
        refine aw_iinc dX0_turnTo_24 rfl (by decide) ?_
        refine aw_goto (tgt := 12) dX0_turnTo_27 (by decide) ?_
        have K := ih (k + 1) h4 _ (by omega) (by omega) e1' b4 (fun i i1 i2 => ?_) (fun i i1 => ?_) (fun j hj => (fr4 j hj).trans (hfr j hj))
        · rw [show ((k + 1 : Nat) : Int) = (k : Int) + 1 by omega] at K
          exact K
        · by_cases z : i = k
          · rw [z, va_up_s]
          · rw [va_up_n _ _ _ z]; exact e3 i i1 (by omega)
        · rw [va_up_n _ _ _ (by omega)]; exact e4 i (by omega)
  refine aw_iconst dX0_turnTo_10 ?_
  refine aw_istore_n dX0_turnTo_11 (by decide) ?_
  exact loop 5 1 h2 so rfl (by omega) b2 ((fr2 47 (by omega)).trans ((fr1 47 (by omega)).trans a5)) (fun i i1 i2 => by omega) (fun i _ => rfl) (fun _ _ => rfl)
end Tells
