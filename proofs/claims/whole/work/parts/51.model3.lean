/-! the reference: splits, joins -/
def partS (D rule i : Int) : Int := if rule = 0 then (if i = 0 then D + 1 else if i = 1 then D * (D + 1) else 0) else if rule = 1 then (if i = 0 then 3 * D / 2 else if i = 1 then 3 * D else 0) else if rule = 2 then (if i = 0 then 4 * D / 3 else if i = 1 then 4 * D else 0) else (if i = 0 then 2 * D else if i = 1 then 3 * D else 6 * D)
theorem partS_rng {D rule i : Int} (hD : 1 ≤ D ∧ D ≤ 1000000) : 0 ≤ partS D rule i ∧ partS D rule i ≤ 1000001000000 := by
  have dd : 0 ≤ D * (D + 1) ∧ D * (D + 1) ≤ 1000000 * 1000001 := ⟨Int.mul_nonneg (by omega) (by omega), Int.mul_le_mul (by omega) (by omega) (by omega) (by omega)⟩
  unfold partS
  split
  · split
    · omega
    · split <;> omega
  · split
    · split
      · omega
      · split <;> omega
    · split
      · split
        · omega
        · split <;> omega
      · split
        · omega
        · split <;> omega
def mayS (t : List Int) (D rule : Int) : Prop := ((t.length : Int) + (if rule = 3 then 2 else 1) ≤ 8 ∧ (rule = 0 → 1 < D) ∧ (rule = 1 → D % 2 = 0) ∧ (rule = 2 → D % 3 = 0)) ∧ ∀ i : Nat, i < 3 → partS D rule (i : Int) ≤ 1000000 ∧ notIn t (partS D rule (i : Int))
theorem notIn_erase {t : List Int} {k : Nat} {x : Int} (hk : k < t.length) : notIn t x ↔ (notIn (t.eraseIdx k) x ∧ t.getD k 0 ≠ x) := by
  have len : (t.eraseIdx k).length = t.length - 1 := by rw [List.length_eraseIdx, if_pos hk]
  constructor
  · intro h
    refine ⟨fun i hi => ?_, h k hk⟩
    rw [gd_erase]
    split
    · exact h i (by omega)
    · exact h (i + 1) (by omega)
  · rintro ⟨h1, h2⟩ i hi
    by_cases z : i = k
    · rw [z]; exact h2
    · by_cases y : i < k
      · have := h1 i (by omega)
        rw [gd_erase, if_pos y] at this
        exact this
      · have := h1 (i - 1) (by omega)
        rw [gd_erase, if_neg (by omega), show i - 1 + 1 = i by omega] at this
        exact this
theorem notIn_ins {l : List Int} {x y : Int} : notIn (insL l x) y ↔ (notIn l y ∧ x ≠ y) := by
  have hle := plc_le l x l.length
  have e0 : plL l x = plc l x l.length := rfl
  constructor
  · intro h
    refine ⟨fun i hi => ?_, ?_⟩
    · by_cases z : i < plL l x
      · have := h i (by rw [insL_len]; omega)
        rw [insL_gd, if_pos z] at this
        exact this
      · have := h (i + 1) (by rw [insL_len]; omega)
        rw [insL_gd, if_neg (show ¬ i + 1 < plL l x by omega), if_neg (show ¬ i + 1 = plL l x by omega), Nat.add_sub_cancel] at this
        exact this
    · have := h (plL l x) (by rw [insL_len]; omega)
      rw [insL_gd, if_neg (Nat.lt_irrefl _), if_pos rfl] at this
      exact this
  · rintro ⟨h1, h2⟩ i hi
    rw [insL_len] at hi
    rw [insL_gd]
    split
    · exact h1 i (by omega)
    · split
      · exact h2
      · exact h1 (i - 1) (by omega)
theorem insB_in {l : List Int} {x : Int} (hl : okRow l) : insB l x = true ↔ ((1 ≤ x ∧ x ≤ 1000000) ∧ l.length < 8 ∧ notIn l x) := insB_iff.trans (insOK_iff hl.2)
theorem notIn_zero {l : List Int} (hl : okRow l) : notIn l 0 := fun i hi => by
  have := hl.1.2 i hi
  omega
def stp (D rule : Int) (i : Int) (L : List Int) : List Int := if 0 < partS D rule i then insL L (partS D rule i) else L
theorem all2 {L : List Int} {x y : Int} (hL : okRow L) : (((1 ≤ x ∧ x ≤ 1000000) ∧ (1 ≤ y ∧ y ≤ 1000000) ∧ L.length < 7 ∧ notIn L x ∧ notIn L y ∧ x ≠ y) → insB L x = true ∧ insB (insL L x) y = true ∧ insAll L [x, y] = some (insL (insL L x) y)) ∧ (¬ ((1 ≤ x ∧ x ≤ 1000000) ∧ (1 ≤ y ∧ y ≤ 1000000) ∧ L.length < 7 ∧ notIn L x ∧ notIn L y ∧ x ≠ y) → insAll L [x, y] = none) := by
  constructor
  · rintro ⟨h1, h2, h3, h4, h5, h6⟩
    have a := (insB_in hL).mpr ⟨h1, by omega, h4⟩
    have b := (insB_in (hL.ins (insB_iff.mp a))).mpr ⟨h2, by rw [insL_len]; omega, notIn_ins.mpr ⟨h5, h6⟩⟩
    refine ⟨a, b, ?_⟩
    rw [insAll, a, cond_true, insAll, b, cond_true, insAll]
  · intro h
    rw [insAll]
    cases a : insB L x with
    | false => rfl
    | true =>
      rw [cond_true, insAll]
      cases b : insB (insL L x) y with
      | false => rfl
      | true =>
        obtain ⟨h1, h2, h3⟩ := (insB_in hL).mp a
        obtain ⟨g1, g2, g3⟩ := (insB_in (hL.ins (insB_iff.mp a))).mp b
        rw [insL_len] at g2
        obtain ⟨g3, g4⟩ := notIn_ins.mp g3
        exact absurd ⟨h1, g1, by omega, h3, g3, g4⟩ h
theorem all3 {L : List Int} {x y z : Int} (hL : okRow L) : (((1 ≤ x ∧ x ≤ 1000000) ∧ (1 ≤ y ∧ y ≤ 1000000) ∧ (1 ≤ z ∧ z ≤ 1000000) ∧ L.length < 6 ∧ notIn L x ∧ notIn L y ∧ notIn L z ∧ x ≠ y ∧ x ≠ z ∧ y ≠ z) → insB L x = true ∧ insB (insL L x) y = true ∧ insB (insL (insL L x) y) z = true ∧ insAll L [x, y, z] = some (insL (insL (insL L x) y) z)) ∧ (¬ ((1 ≤ x ∧ x ≤ 1000000) ∧ (1 ≤ y ∧ y ≤ 1000000) ∧ (1 ≤ z ∧ z ≤ 1000000) ∧ L.length < 6 ∧ notIn L x ∧ notIn L y ∧ notIn L z ∧ x ≠ y ∧ x ≠ z ∧ y ≠ z) → insAll L [x, y, z] = none) := by
  constructor
  · rintro ⟨h1, h2, h3, h4, h5, h6, h7, h8, h9, h10⟩
    have a := (insB_in hL).mpr ⟨h1, by omega, h5⟩
    have oA := hL.ins (insB_iff.mp a)
    have b := (insB_in oA).mpr ⟨h2, by rw [insL_len]; omega, notIn_ins.mpr ⟨h6, h8⟩⟩
    have oB := oA.ins (insB_iff.mp b)
    have c := (insB_in oB).mpr ⟨h3, by rw [insL_len, insL_len]; omega, notIn_ins.mpr ⟨notIn_ins.mpr ⟨h7, h9⟩, h10⟩⟩
    refine ⟨a, b, c, ?_⟩
    rw [insAll, a, cond_true, insAll, b, cond_true, insAll, c, cond_true, insAll]
  · intro h
    rw [insAll]
    cases a : insB L x with
    | false => rfl
    | true =>
      have oA := hL.ins (insB_iff.mp a)
      rw [cond_true, insAll]
      cases b : insB (insL L x) y with
      | false => rfl
      | true =>
        have oB := oA.ins (insB_iff.mp b)
        rw [cond_true, insAll]
        cases c : insB (insL (insL L x) y) z with
        | false => rfl
        | true =>
          obtain ⟨h1, h2, h3⟩ := (insB_in hL).mp a
          obtain ⟨g1, g2, g3⟩ := (insB_in oA).mp b
          obtain ⟨f1, f2, f3⟩ := (insB_in oB).mp c
          rw [insL_len, insL_len] at f2
          obtain ⟨g3, g4⟩ := notIn_ins.mp g3
          obtain ⟨f3, f5⟩ := notIn_ins.mp f3
          obtain ⟨f3, f4⟩ := notIn_ins.mp f3
          exact absurd ⟨h1, g1, f1, by omega, h3, g3, f3, g4, f4, f5⟩ h
theorem split_may {t : List Int} {k : Nat} {D rule : Int} (ht : okRow t) (hk : k < t.length) (hD : D = t.getD k 0) (hr : 0 ≤ rule ∧ rule ≤ 3) :
    (mayS t D rule → (0 < partS D rule 0 → insB (t.eraseIdx k) (partS D rule 0) = true) ∧ (0 < partS D rule 1 → insB (stp D rule 0 (t.eraseIdx k)) (partS D rule 1) = true) ∧ (0 < partS D rule 2 → insB (stp D rule 1 (stp D rule 0 (t.eraseIdx k))) (partS D rule 2) = true) ∧ splitS (t.eraseIdx k) D rule = some (stp D rule 2 (stp D rule 1 (stp D rule 0 (t.eraseIdx k))))) ∧ (¬ mayS t D rule → splitS (t.eraseIdx k) D rule = none) := by
  have d1 := ht.1.2 k hk
  rw [← hD] at d1
  have t8 := ht.1.1
  have oE := ht.erase k
  have len : (t.eraseIdx k).length = t.length - 1 := by rw [List.length_eraseIdx, if_pos hk]
  have nI : ∀ x, x ≠ D → (notIn t x ↔ notIn (t.eraseIdx k) x) := by
    intro x hx
    rw [notIn_erase hk, ← hD]
    exact ⟨fun z => z.1, fun z => ⟨z, fun e => hx e.symm⟩⟩
  have dd : D * (D + 1) = D * D + D := by rw [Int.mul_add, Int.mul_one]
  have d2 : D * 1 ≤ D * D := Int.mul_le_mul_of_nonneg_left (by omega) (by omega)
  have all3i : ∀ P : Nat → Prop, (∀ i : Nat, i < 3 → P i) ↔ (P 0 ∧ P 1 ∧ P 2) := by
    intro P
    constructor
    · intro z; exact ⟨z 0 (by omega), z 1 (by omega), z 2 (by omega)⟩
    · rintro ⟨z0, z1, z2⟩ i hi
      rcases (show i = 0 ∨ i = 1 ∨ i = 2 by omega) with rfl | rfl | rfl
      · exact z0
      · exact z1
      · exact z2
  rcases (show rule = 0 ∨ rule = 1 ∨ rule = 2 ∨ rule = 3 by omega) with rfl | rfl | rfl | rfl
  · -- rule 0
    have p0 : partS D 0 0 = D + 1 := rfl
    have p1 : partS D 0 1 = D * (D + 1) := rfl
    have p2 : partS D 0 2 = 0 := rfl
    have sp : splitS (t.eraseIdx k) D 0 = insAll (t.eraseIdx k) [D + 1, D * (D + 1)] := rfl
    have key : mayS t D 0 ↔ ((1 ≤ D + 1 ∧ D + 1 ≤ 1000000) ∧ (1 ≤ D * (D + 1) ∧ D * (D + 1) ≤ 1000000) ∧ (t.eraseIdx k).length < 7 ∧ notIn (t.eraseIdx k) (D + 1) ∧ notIn (t.eraseIdx k) (D * (D + 1)) ∧ D + 1 ≠ D * (D + 1)) := by
      unfold mayS
      rw [all3i]
      show (_ ∧ ((partS D 0 0 ≤ 1000000 ∧ notIn t (partS D 0 0)) ∧ (partS D 0 1 ≤ 1000000 ∧ notIn t (partS D 0 1)) ∧ (partS D 0 2 ≤ 1000000 ∧ notIn t (partS D 0 2)))) ↔ _
      rw [p0, p1, p2, nI (D + 1) (by omega)]
      constructor
      · rintro ⟨⟨h1, h2, -⟩, ⟨g1, g2⟩, ⟨g3, g4⟩, -⟩
        rw [if_neg (by omega)] at h1
        have h2 := h2 rfl
        have d3 : 2 * D ≤ D * D := Int.mul_le_mul_of_nonneg_right (by omega) (by omega)
        exact ⟨by omega, by omega, by omega, g2, (nI _ (by omega)).mp g4, by omega⟩
      · rintro ⟨h1, h2, h3, h4, h5, h6⟩
        have d3 : D ≠ 1 := by rintro e; rw [e] at h6; exact h6 (by decide)
        have d4 : 2 * D ≤ D * D := Int.mul_le_mul_of_nonneg_right (by omega) (by omega)
        exact ⟨⟨by rw [if_neg (by omega)]; omega, fun _ => by omega, fun z => by omega, fun z => by omega⟩, ⟨h1.2, h4⟩, ⟨h2.2, (nI _ (by omega)).mpr h5⟩, by omega, notIn_zero ht⟩
    have a := all2 (x := D + 1) (y := D * (D + 1)) oE
    rw [key, sp]
    refine ⟨fun z => ?_, a.2⟩
    obtain ⟨b1, b2, b3⟩ := a.1 z
    have s0 : stp D 0 0 (t.eraseIdx k) = insL (t.eraseIdx k) (D + 1) := by rw [stp, p0, if_pos (by omega)]
    have s1 : stp D 0 1 (insL (t.eraseIdx k) (D + 1)) = insL (insL (t.eraseIdx k) (D + 1)) (D * (D + 1)) := by rw [stp, p1, if_pos (by omega)]
    rw [p0, p1, p2, s0, s1, stp, p2, if_neg (by omega)]
    exact ⟨fun _ => b1, fun _ => b2, fun z => by omega, b3⟩
  · -- rule 1
    have p0 : partS D 1 0 = 3 * D / 2 := rfl
    have p1 : partS D 1 1 = 3 * D := rfl
    have p2 : partS D 1 2 = 0 := rfl
    by_cases ev : D % 2 = 0
    · have sp : splitS (t.eraseIdx k) D 1 = insAll (t.eraseIdx k) [3 * D / 2, 3 * D] := by
        unfold splitS prt
        rw [if_neg (by omega), if_pos rfl, if_pos ev, show D / 2 * 3 = 3 * D / 2 by omega, show D * 3 = 3 * D by omega]
      have key : mayS t D 1 ↔ ((1 ≤ 3 * D / 2 ∧ 3 * D / 2 ≤ 1000000) ∧ (1 ≤ 3 * D ∧ 3 * D ≤ 1000000) ∧ (t.eraseIdx k).length < 7 ∧ notIn (t.eraseIdx k) (3 * D / 2) ∧ notIn (t.eraseIdx k) (3 * D) ∧ 3 * D / 2 ≠ 3 * D) := by
        unfold mayS
        rw [all3i]
        show (_ ∧ ((partS D 1 0 ≤ 1000000 ∧ notIn t (partS D 1 0)) ∧ (partS D 1 1 ≤ 1000000 ∧ notIn t (partS D 1 1)) ∧ (partS D 1 2 ≤ 1000000 ∧ notIn t (partS D 1 2)))) ↔ _
        rw [p0, p1, p2, nI (3 * D / 2) (by omega), nI (3 * D) (by omega)]
        constructor
        · rintro ⟨⟨h1, -⟩, ⟨g1, g2⟩, ⟨g3, g4⟩, -⟩
          rw [if_neg (by omega)] at h1
          exact ⟨by omega, by omega, by omega, g2, g4, by omega⟩
        · rintro ⟨h1, h2, h3, h4, h5, h6⟩
          exact ⟨⟨by rw [if_neg (by omega)]; omega, fun z => by omega, fun _ => ev, fun z => by omega⟩, ⟨h1.2, h4⟩, ⟨h2.2, h5⟩, by omega, notIn_zero ht⟩
      have a := all2 (x := 3 * D / 2) (y := 3 * D) oE
      rw [key, sp]
      refine ⟨fun z => ?_, a.2⟩
      obtain ⟨b1, b2, b3⟩ := a.1 z
      have s0 : stp D 1 0 (t.eraseIdx k) = insL (t.eraseIdx k) (3 * D / 2) := by rw [stp, p0, if_pos (by omega)]
      have s1 : stp D 1 1 (insL (t.eraseIdx k) (3 * D / 2)) = insL (insL (t.eraseIdx k) (3 * D / 2)) (3 * D) := by rw [stp, p1, if_pos (by omega)]
      rw [p0, p1, p2, s0, s1, stp, p2, if_neg (by omega)]
      exact ⟨fun _ => b1, fun _ => b2, fun z => by omega, b3⟩
    · refine ⟨fun z => absurd (z.1.2.2.1 rfl) ev, fun _ => ?_⟩
      unfold splitS prt
      rw [if_neg (by omega), if_pos rfl, if_neg ev]
  · -- rule 2
    have p0 : partS D 2 0 = 4 * D / 3 := rfl
    have p1 : partS D 2 1 = 4 * D := rfl
    have p2 : partS D 2 2 = 0 := rfl
    by_cases ev : D % 3 = 0
    · have sp : splitS (t.eraseIdx k) D 2 = insAll (t.eraseIdx k) [4 * D / 3, 4 * D] := by
        unfold splitS prt
        rw [if_neg (by omega), if_neg (by omega), if_pos rfl, if_pos ev, show D / 3 * 4 = 4 * D / 3 by omega, show D * 4 = 4 * D by omega]
      have key : mayS t D 2 ↔ ((1 ≤ 4 * D / 3 ∧ 4 * D / 3 ≤ 1000000) ∧ (1 ≤ 4 * D ∧ 4 * D ≤ 1000000) ∧ (t.eraseIdx k).length < 7 ∧ notIn (t.eraseIdx k) (4 * D / 3) ∧ notIn (t.eraseIdx k) (4 * D) ∧ 4 * D / 3 ≠ 4 * D) := by
        unfold mayS
        rw [all3i]
        show (_ ∧ ((partS D 2 0 ≤ 1000000 ∧ notIn t (partS D 2 0)) ∧ (partS D 2 1 ≤ 1000000 ∧ notIn t (partS D 2 1)) ∧ (partS D 2 2 ≤ 1000000 ∧ notIn t (partS D 2 2)))) ↔ _
        rw [p0, p1, p2, nI (4 * D / 3) (by omega), nI (4 * D) (by omega)]
        constructor
        · rintro ⟨⟨h1, -⟩, ⟨g1, g2⟩, ⟨g3, g4⟩, -⟩
          rw [if_neg (by omega)] at h1
          exact ⟨by omega, by omega, by omega, g2, g4, by omega⟩
        · rintro ⟨h1, h2, h3, h4, h5, h6⟩
          exact ⟨⟨by rw [if_neg (by omega)]; omega, fun z => by omega, fun z => by omega, fun _ => ev⟩, ⟨h1.2, h4⟩, ⟨h2.2, h5⟩, by omega, notIn_zero ht⟩
      have a := all2 (x := 4 * D / 3) (y := 4 * D) oE
      rw [key, sp]
      refine ⟨fun z => ?_, a.2⟩
      obtain ⟨b1, b2, b3⟩ := a.1 z
      have s0 : stp D 2 0 (t.eraseIdx k) = insL (t.eraseIdx k) (4 * D / 3) := by rw [stp, p0, if_pos (by omega)]
      have s1 : stp D 2 1 (insL (t.eraseIdx k) (4 * D / 3)) = insL (insL (t.eraseIdx k) (4 * D / 3)) (4 * D) := by rw [stp, p1, if_pos (by omega)]
      rw [p0, p1, p2, s0, s1, stp, p2, if_neg (by omega)]
      exact ⟨fun _ => b1, fun _ => b2, fun z => by omega, b3⟩
    · refine ⟨fun z => absurd (z.1.2.2.2 rfl) ev, fun _ => ?_⟩
      unfold splitS prt
      rw [if_neg (by omega), if_neg (by omega), if_pos rfl, if_neg ev]
  · -- rule 3
    have p0 : partS D 3 0 = 2 * D := rfl
    have p1 : partS D 3 1 = 3 * D := rfl
    have p2 : partS D 3 2 = 6 * D := rfl
    have sp : splitS (t.eraseIdx k) D 3 = insAll (t.eraseIdx k) [2 * D, 3 * D, 6 * D] := by
      unfold splitS prt
      rw [if_neg (by omega), if_neg (by omega), if_neg (by omega), show D * 2 = 2 * D by omega, show D * 3 = 3 * D by omega, show D * 6 = 6 * D by omega]
    have key : mayS t D 3 ↔ ((1 ≤ 2 * D ∧ 2 * D ≤ 1000000) ∧ (1 ≤ 3 * D ∧ 3 * D ≤ 1000000) ∧ (1 ≤ 6 * D ∧ 6 * D ≤ 1000000) ∧ (t.eraseIdx k).length < 6 ∧ notIn (t.eraseIdx k) (2 * D) ∧ notIn (t.eraseIdx k) (3 * D) ∧ notIn (t.eraseIdx k) (6 * D) ∧ 2 * D ≠ 3 * D ∧ 2 * D ≠ 6 * D ∧ 3 * D ≠ 6 * D) := by
      unfold mayS
      rw [all3i]
      show (_ ∧ ((partS D 3 0 ≤ 1000000 ∧ notIn t (partS D 3 0)) ∧ (partS D 3 1 ≤ 1000000 ∧ notIn t (partS D 3 1)) ∧ (partS D 3 2 ≤ 1000000 ∧ notIn t (partS D 3 2)))) ↔ _
      rw [p0, p1, p2, nI (2 * D) (by omega), nI (3 * D) (by omega), nI (6 * D) (by omega)]
      constructor
      · rintro ⟨⟨h1, -⟩, ⟨g1, g2⟩, ⟨g3, g4⟩, ⟨g5, g6⟩⟩
        rw [if_pos rfl] at h1
        exact ⟨by omega, by omega, by omega, by omega, g2, g4, g6, by omega, by omega, by omega⟩
      · rintro ⟨h1, h2, h3, h4, h5, h6, h7, -⟩
        exact ⟨⟨by rw [if_pos rfl]; omega, fun z => by omega, fun z => by omega, fun z => by omega⟩, ⟨h1.2, h5⟩, ⟨h2.2, h6⟩, ⟨h3.2, h7⟩⟩
    have a := all3 (x := 2 * D) (y := 3 * D) (z := 6 * D) oE
    rw [key, sp]
    refine ⟨fun z => ?_, a.2⟩
    obtain ⟨b1, b2, b3, b4⟩ := a.1 z
    have s0 : stp D 3 0 (t.eraseIdx k) = insL (t.eraseIdx k) (2 * D) := by rw [stp, p0, if_pos (by omega)]
    have s1 : stp D 3 1 (insL (t.eraseIdx k) (2 * D)) = insL (insL (t.eraseIdx k) (2 * D)) (3 * D) := by rw [stp, p1, if_pos (by omega)]
    have s2 : stp D 3 2 (insL (insL (t.eraseIdx k) (2 * D)) (3 * D)) = insL (insL (insL (t.eraseIdx k) (2 * D)) (3 * D)) (6 * D) := by rw [stp, p2, if_pos (by omega)]
    rw [p0, p1, p2, s0, s1, s2]
    exact ⟨fun _ => b1, fun _ => b2, fun _ => b3, b4⟩
