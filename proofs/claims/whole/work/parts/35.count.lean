/-! sums of so many: there are never more than 128 -/
def force (n : Nat) (f : Nat → Bool) : Bool := Nat.rec (f 0) (fun m _ => f (Nat.succ m)) n
theorem force_eq (n : Nat) (f : Nat → Bool) : force n f = f n := by
  cases n <;> rfl
/-- inverses by 130003 -/
def ivT : List Nat := [1, 65002, 86669, 32501, 78002, 108336, 18572, 81252, 72224, 39001, 23637, 54168, 40001, 9286, 69335, 40626, 30589, 36112, 102634, 84502, 49525, 76820, 73480, 27084, 41601, 85002, 67409, 4643, 98623, 99669, 71292, 20313, 7879, 80296, 29715, 18056, 17568, 51317, 56668, 42251, 114149, 89764, 9070, 38410, 66446, 36740, 127237, 13542, 21225, 85802, 96865, 42501, 22076, 98706, 30728, 67323, 120880, 114313, 74917, 114836, 10656, 35646, 103177, 75158, 86002, 68941, 62091, 40148, 111162, 79859, 64086, 9028, 39179, 8784, 13867, 90660, 96236, 28334, 83926, 86127, 65804, 122076, 114340, 44882, 58119, 4535, 119543, 19205, 35057, 33223, 61430, 18370, 23764, 128620, 72528, 6771, 79074, 75614, 89295]
def iv (x : Nat) : Nat := ivT.getD (x - 1) 0
def SB (B : Nat) : List Nat → Nat
  | [] => 0
  | r :: l => B ^ r + SB B l
theorem SB_app (B : Nat) : ∀ (l l' : List Nat), SB B (l ++ l') = SB B l + SB B l'
  | [], l' => by simp [SB]
  | r :: l, l' => by simp only [List.cons_append, SB]; rw [SB_app B l l']; omega
theorem SB_shift (B s : Nat) : ∀ (l : List Nat), SB B (l.map (fun r => r + s)) = SB B l * B ^ s
  | [] => by simp [SB]
  | r :: l => by simp only [List.map_cons, SB]; rw [SB_shift B s l, Nat.pow_add, Nat.add_mul]
theorem SB_one (l : List Nat) : SB 1 l = l.length := by
  induction l with
  | nil => rfl
  | cons r l ih => simp only [SB, List.length_cons]; rw [ih, Nat.one_pow]; omega
def rsL (F : Nat → List Nat) : Nat → Nat → List Nat
  | 0, _ => []
  | c + 1, x => F x ++ rsL F c (x + 1)
def rs : Nat → Nat → List Nat
  | 0, _ => [0]
  | n + 1, lo => rsL (fun x => (rs n x).map (fun r => r + iv x)) (60 - lo) (lo + 1)
theorem rs_step {n c : Nat} (hc : c < 60) : rs (n + 1) c = (rs n (c + 1)).map (fun r => r + iv (c + 1)) ++ rs (n + 1) (c + 1) := by
  rw [rs, rs, show 60 - c = (60 - (c + 1)) + 1 by omega, rsL]
theorem rs_top (n : Nat) : rs (n + 1) 60 = [] := rfl
def gk (b : Nat) (fin : Nat → Nat → Nat → Nat → Nat → Bool) : Nat → Nat → Nat → Nat → Nat → Nat → Bool
  | 0, g1, g2, g3, g4, g5 => fin g1 g2 g3 g4 g5
  | c + 1, g1, g2, g3, g4, g5 => force (Nat.mul b (iv (c + 1))) fun s =>
      force (Nat.add g1 (Nat.shiftLeft 1 s)) fun h1 => force (Nat.add g2 (Nat.shiftLeft g1 s)) fun h2 => force (Nat.add g3 (Nat.shiftLeft g2 s)) fun h3 => force (Nat.add g4 (Nat.shiftLeft g3 s)) fun h4 => force (Nat.add g5 (Nat.shiftLeft g4 s)) fun h5 => gk b fin c h1 h2 h3 h4 h5
theorem SB_step {b n c : Nat} (hc : c < 60) : Nat.add (SB (2 ^ b) (rs (n + 1) (c + 1))) (Nat.shiftLeft (SB (2 ^ b) (rs n (c + 1))) (b * iv (c + 1))) = SB (2 ^ b) (rs (n + 1) c) := by
  rw [rs_step hc, SB_app, SB_shift]
  show _ + (SB (2 ^ b) (rs n (c + 1))) <<< (b * iv (c + 1)) = _
  rw [Nat.shiftLeft_eq, Nat.pow_mul]
  omega
theorem gk_eq (b : Nat) (fin : Nat → Nat → Nat → Nat → Nat → Bool) : ∀ c, c ≤ 60 → gk b fin c (SB (2 ^ b) (rs 1 c)) (SB (2 ^ b) (rs 2 c)) (SB (2 ^ b) (rs 3 c)) (SB (2 ^ b) (rs 4 c)) (SB (2 ^ b) (rs 5 c)) = fin (SB (2 ^ b) (rs 1 0)) (SB (2 ^ b) (rs 2 0)) (SB (2 ^ b) (rs 3 0)) (SB (2 ^ b) (rs 4 0)) (SB (2 ^ b) (rs 5 0))
  | 0, _ => rfl
  | c + 1, hc => by
    have e1 := SB_step (b := b) (n := 0) (c := c) (by omega)
    have e0 : SB (2 ^ b) (rs 0 (c + 1)) = 1 := by simp [rs, SB]
    rw [e0] at e1
    have e2 := SB_step (b := b) (n := 1) (c := c) (by omega)
    have e3 := SB_step (b := b) (n := 2) (c := c) (by omega)
    have e4 := SB_step (b := b) (n := 3) (c := c) (by omega)
    have e5 := SB_step (b := b) (n := 4) (c := c) (by omega)
    rw [gk, force_eq, force_eq, force_eq, force_eq, force_eq, force_eq, Nat.mul_eq, e1, e2, e3, e4, e5]
    exact gk_eq b fin c (by omega)
theorem gk_all (b : Nat) (fin : Nat → Nat → Nat → Nat → Nat → Bool) (h : gk b fin 60 0 0 0 0 0 = true) : fin (SB (2 ^ b) (rs 1 0)) (SB (2 ^ b) (rs 2 0)) (SB (2 ^ b) (rs 3 0)) (SB (2 ^ b) (rs 4 0)) (SB (2 ^ b) (rs 5 0)) = true := by
  have := gk_eq b fin 60 (by omega)
  rw [rs_top, rs_top, rs_top, rs_top, rs_top] at this
  rw [← this]
  exact h
set_option maxRecDepth 100000 in
theorem rs_lens : gk 0 (fun a b c d e => Nat.ble a 8000000 && (Nat.ble b 8000000 && (Nat.ble c 8000000 && (Nat.ble d 8000000 && Nat.ble e 8000000)))) 60 0 0 0 0 0 = true := by decide +kernel
theorem rs_len1 {l : List Nat} (h : Nat.ble (SB (2 ^ 0) l) 8000000 = true) : l.length ≤ 8000000 := by
  have h := Nat.le_of_ble_eq_true h
  rw [show (2 : Nat) ^ 0 = 1 from rfl, SB_one] at h
  exact h
theorem rs_len {n : Nat} (h1 : 1 ≤ n) (h5 : n ≤ 5) : (rs n 0).length ≤ 8000000 := by
  have h := gk_all 0 _ rs_lens
  simp only [Bool.and_eq_true] at h
  obtain ⟨a1, a2, a3, a4, a5⟩ := h
  rcases (show n = 1 ∨ n = 2 ∨ n = 3 ∨ n = 4 ∨ n = 5 by omega) with rfl | rfl | rfl | rfl | rfl
  · exact rs_len1 a1
  · exact rs_len1 a2
  · exact rs_len1 a3
  · exact rs_len1 a4
  · exact rs_len1 a5
/-- the digits of a number by base B: how often -/
theorem SB_digit {B t : Nat} (hB : 2 ≤ B) : ∀ (l : List Nat), ∃ low hi, SB B l = low + (l.countP (fun r => r == t)) * B ^ t + hi * (B * B ^ t) ∧ low * B ≤ l.length * B ^ t
  | [] => ⟨0, 0, by simp [SB], by simp⟩
  | r :: l => by
    obtain ⟨low, hi, h1, h2⟩ := SB_digit hB (t := t) l
    have hp : 0 < B ^ t := Nat.pow_pos (by omega)
    rcases Nat.lt_trichotomy r t with z | z | z
    · refine ⟨low + B ^ r, hi, ?_, ?_⟩
      · rw [SB, h1, List.countP_cons_of_neg (by simp; omega)]; omega
      · have : B ^ r * B ≤ B ^ t := by rw [← Nat.pow_succ]; exact Nat.pow_le_pow_right (by omega) (by omega)
        rw [Nat.add_mul, List.length_cons, Nat.add_mul, Nat.one_mul]; omega
    · subst z
      refine ⟨low, hi, ?_, ?_⟩
      · rw [SB, h1, List.countP_cons_of_pos (by simp), Nat.add_mul, Nat.one_mul]; omega
      · rw [List.length_cons, Nat.add_mul]; omega
    · obtain ⟨k, hk⟩ : ∃ k, r = k + 1 + t := ⟨r - t - 1, by omega⟩
      refine ⟨low, hi + B ^ k, ?_, ?_⟩
      · rw [SB, h1, List.countP_cons_of_neg (by simp; omega), hk, Nat.pow_add, Nat.pow_succ, Nat.add_mul hi, Nat.mul_assoc]; omega
      · rw [List.length_cons, Nat.add_mul]; omega
theorem SB_read {B t : Nat} (hB : 2 ≤ B) (l : List Nat) (hl : l.length < B) : SB B l / B ^ t % B = l.countP (fun r => r == t) := by
  obtain ⟨low, hi, h1, h2⟩ := SB_digit hB (t := t) l
  have hp : 0 < B ^ t := Nat.pow_pos (by omega)
  have hc := List.countP_le_length (p := fun r => r == t) (l := l)
  have hlow : low < B ^ t := by
    apply Classical.byContradiction
    intro z
    have m1 : B ^ t * B ≤ low * B := Nat.mul_le_mul_right B (by omega)
    have m2 : l.length * B ^ t < B * B ^ t := Nat.mul_lt_mul_of_pos_right hl hp
    have e := Nat.mul_comm B (B ^ t)
    omega
  have e : low + (l.countP (fun r => r == t)) * B ^ t + hi * (B * B ^ t) = low + B ^ t * (l.countP (fun r => r == t) + hi * B) := by
    rw [Nat.mul_add, Nat.mul_comm (B ^ t) (l.countP _), Nat.mul_comm (B ^ t) (hi * B), Nat.mul_assoc]; omega
  rw [h1, e, Nat.add_mul_div_left _ _ hp, Nat.div_eq_of_lt hlow, Nat.zero_add, Nat.add_mul_mod_self_right, Nat.mod_eq_of_lt (by omega)]
theorem pw_mod {B P r : Nat} (hM : 1 < B ^ P - 1) : B ^ r % (B ^ P - 1) = B ^ (r % P) % (B ^ P - 1) := by
  have e : B ^ r = (B ^ P) ^ (r / P) * B ^ (r % P) := by rw [← Nat.pow_mul, ← Nat.pow_add, Nat.div_add_mod]
  have e1 : (B ^ P) ^ (r / P) % (B ^ P - 1) = 1 := by
    rw [Nat.pow_mod]
    have : B ^ P % (B ^ P - 1) = 1 := by
      have h : B ^ P = 1 + (B ^ P - 1) := by omega
      generalize B ^ P - 1 = M at h hM
      rw [h, Nat.add_mod_right, Nat.mod_eq_of_lt hM]
    rw [this, Nat.one_pow, Nat.mod_eq_of_lt hM]
  rw [e, Nat.mul_mod, e1, Nat.one_mul, Nat.mod_mod]
theorem SB_wrap {B P : Nat} (hM : 1 < B ^ P - 1) : ∀ (l : List Nat), SB B l % (B ^ P - 1) = SB B (l.map (fun r => r % P)) % (B ^ P - 1)
  | [] => rfl
  | r :: l => by simp only [List.map_cons, SB]; rw [Nat.add_mod, pw_mod hM, SB_wrap hM l, ← Nat.add_mod]
theorem SB_lt {B P : Nat} (hB : 2 ≤ B) : ∀ (l : List Nat), (∀ r, r ∈ l → r < P) → SB B l * B ≤ l.length * B ^ P
  | [], _ => by simp [SB]
  | r :: l, h => by
    have h1 := SB_lt hB l (fun x hx => h x (List.mem_cons_of_mem _ hx))
    have h2 : B ^ r * B ≤ B ^ P := by rw [← Nat.pow_succ]; exact Nat.pow_le_pow_right (by omega) (h r (List.mem_cons_self ..))
    rw [SB, Nat.add_mul, List.length_cons, Nat.add_mul, Nat.one_mul]; omega
theorem SB_wrapped {B P : Nat} (hB : 2 ≤ B) (hP : 2 ≤ P) (l : List Nat) (hl : l.length + 1 < B) : SB B l % (B ^ P - 1) = SB B (l.map (fun r => r % P)) := by
  have hp : B ^ 2 ≤ B ^ P := Nat.pow_le_pow_right (by omega) hP
  have h4 : 2 * 2 ≤ B * B := Nat.mul_le_mul hB hB
  have eB : B ^ 2 = B * B := Nat.pow_two B
  have hM : 1 < B ^ P - 1 := by omega
  rw [SB_wrap hM, Nat.mod_eq_of_lt]
  have h1 := SB_lt (P := P) hB (l.map (fun r => r % P)) (fun r hr => by
    obtain ⟨s, -, rfl⟩ := List.mem_map.mp hr
    exact Nat.mod_lt _ (by omega))
  rw [List.length_map] at h1
  apply Classical.byContradiction
  intro z
  have m1 : (B ^ P - 1) * B ≤ SB B (l.map (fun r => r % P)) * B := Nat.mul_le_mul_right B (by omega)
  have m2 : (l.length + 2) * B ^ P ≤ B * B ^ P := Nat.mul_le_mul_right _ (by omega)
  have hBP : B * B ≤ B ^ P := by omega
  have hB1 : B * 1 ≤ B * B := Nat.mul_le_mul_left B (by omega)
  rw [Nat.sub_mul, Nat.one_mul, Nat.mul_comm (B ^ P) B] at m1
  rw [Nat.add_mul] at m2
  omega
/-- a mask: c in each of P digits -/
def mk (B c : Nat) : Nat → Nat
  | 0 => 0
  | P + 1 => c + B * mk B c P
theorem mk_eq {B c : Nat} (hB : 1 ≤ B) : ∀ P, mk B c P * (B - 1) + c = c * B ^ P
  | 0 => by simp [mk]
  | P + 1 => by
    have h := mk_eq (c := c) hB P
    obtain ⟨e, rfl⟩ : ∃ e, B = e + 1 := ⟨B - 1, by omega⟩
    rw [mk, Nat.pow_succ, ← Nat.mul_assoc, ← h, Nat.add_sub_cancel]
    generalize mk (e + 1) c P = m
    have e1 : (e + 1) * m * e = m * e * (e + 1) := by rw [Nat.mul_comm (e + 1) m, Nat.mul_right_comm]
    rw [Nat.add_mul c, e1, Nat.add_mul (m * e), Nat.mul_add c, Nat.mul_one]
    omega
theorem mk_val {B c P : Nat} (hB : 2 ≤ B) : mk B c P = (c * B ^ P - c) / (B - 1) := by
  rw [← mk_eq (by omega) P, Nat.add_sub_cancel, Nat.mul_div_cancel _ (by omega)]
theorem mk_digit {B c : Nat} (hc : c < B) : ∀ (P t : Nat), t < P → mk B c P / B ^ t % B = c
  | 0, _, h => by omega
  | P + 1, 0, _ => by rw [mk, Nat.pow_zero, Nat.div_one, Nat.add_mul_mod_self_left, Nat.mod_eq_of_lt hc]
  | P + 1, t + 1, h => by
    rw [mk, Nat.pow_succ, Nat.mul_comm (B ^ t) B, ← Nat.div_div_eq_div_mul, Nat.add_mul_div_left _ _ (by omega), Nat.div_eq_of_lt hc, Nat.zero_add]
    exact mk_digit hc P t (by omega)
theorem digit_bit (w t j : Nat) (hj : j < 23) : (w / (2 ^ 23) ^ t % 2 ^ 23).testBit j = w.testBit (23 * t + j) := by
  rw [← Nat.pow_mul, Nat.testBit_mod_two_pow, Nat.testBit_div_two_pow, Nat.add_comm j]
  simp [hj]
theorem c_bits : ∀ j, 7 ≤ j → j < 23 → (8388480 : Nat).testBit j = true := by
  intro j h1 h2
  have h : (List.range 23).all (fun j => decide (j < 7) || (8388480 : Nat).testBit j) = true := by decide +kernel
  have := List.all_eq_true.mp h j (List.mem_range.mpr h2)
  rcases Bool.or_eq_true_iff.mp this with z | z
  · have := of_decide_eq_true z; omega
  · exact z
theorem masked {w P : Nat} (h : w &&& mk (2 ^ 23) 8388480 P = 0) {t : Nat} (ht : t < P) : w / (2 ^ 23) ^ t % 2 ^ 23 < 128 := by
  apply Classical.byContradiction
  intro z
  have hv : w / (2 ^ 23) ^ t % 2 ^ 23 < 2 ^ 23 := Nat.mod_lt _ (by decide)
  have hd := fun j hj => digit_bit w t j hj
  generalize w / (2 ^ 23) ^ t % 2 ^ 23 = v at z hv hd
  obtain ⟨i, hi⟩ := Nat.exists_testBit_of_ne_zero (show v / 2 ^ 7 ≠ 0 by omega)
  rw [Nat.testBit_div_two_pow, Nat.add_comm] at hi
  have hlt : 7 + i < 23 := by
    apply Classical.byContradiction
    intro y
    have := Nat.testBit_lt_two_pow (x := v) (i := 7 + i) (Nat.lt_of_lt_of_le hv (Nat.pow_le_pow_right (by omega) (by omega)))
    rw [this] at hi
    cases hi
  have b1 := hd (7 + i) hlt
  have b2 := digit_bit (mk (2 ^ 23) 8388480 P) t (7 + i) hlt
  rw [mk_digit (by decide) P t ht, c_bits _ (by omega) hlt] at b2
  have b3 : (w &&& mk (2 ^ 23) 8388480 P).testBit (23 * t + (7 + i)) = true := by
    rw [Nat.testBit_and, ← b1, ← b2]
    rw [hi]
    rfl
  rw [h, Nat.zero_testBit] at b3
  cases b3
def wck (m k w : Nat) : Bool := force (Nat.mod w m) fun w => Nat.beq (Nat.land w k) 0
def wfin (P a b c d e : Nat) : Bool := force (Nat.pow 8388608 P) fun z => force (Nat.sub z 1) fun m => force (Nat.div (Nat.sub (Nat.mul 8388480 z) 8388480) 8388607) fun k => wck m k a && (wck m k b && (wck m k c && (wck m k d && wck m k e)))
theorem wck_ok {P w : Nat} {l : List Nat} (hP : 2 ≤ P) (hw : w = SB (2 ^ 23) l) (hl : l.length ≤ 8000000) (h : wck (Nat.sub (Nat.pow 8388608 P) 1) (Nat.div (Nat.sub (Nat.mul 8388480 (Nat.pow 8388608 P)) 8388480) 8388607) w = true) {t : Nat} (ht : t < P) : l.countP (fun r => r % P == t) < 128 := by
  have e23 : (2 : Nat) ^ 23 = 8388608 := by decide
  have h1 : w % ((2 ^ 23) ^ P - 1) &&& mk (2 ^ 23) 8388480 P = 0 := by
    rw [wck, force_eq] at h
    have h := Nat.eq_of_beq_eq_true h
    rw [mk_val (by decide), e23]
    exact h
  rw [hw, SB_wrapped (by decide) hP l (by rw [e23]; omega)] at h1
  have h2 := masked h1 ht
  rw [SB_read (by decide) _ (by rw [List.length_map, e23]; omega), List.countP_map] at h2
  exact h2
theorem wfin_ok {P : Nat} (hP : 2 ≤ P) {l1 l2 l3 l4 l5 : List Nat} (h : wfin P (SB (2 ^ 23) l1) (SB (2 ^ 23) l2) (SB (2 ^ 23) l3) (SB (2 ^ 23) l4) (SB (2 ^ 23) l5) = true) (g1 : l1.length ≤ 8000000) (g2 : l2.length ≤ 8000000) (g3 : l3.length ≤ 8000000) (g4 : l4.length ≤ 8000000) (g5 : l5.length ≤ 8000000) {t : Nat} (ht : t < P) :
    l1.countP (fun r => r % P == t) < 128 ∧ l2.countP (fun r => r % P == t) < 128 ∧ l3.countP (fun r => r % P == t) < 128 ∧ l4.countP (fun r => r % P == t) < 128 ∧ l5.countP (fun r => r % P == t) < 128 := by
  rw [wfin, force_eq, force_eq, force_eq] at h
  simp only [Bool.and_eq_true] at h
  obtain ⟨a1, a2, a3, a4, a5⟩ := h
  exact ⟨wck_ok hP rfl g1 a1 ht, wck_ok hP rfl g2 a2 ht, wck_ok hP rfl g3 a3 ht, wck_ok hP rfl g4 a4 ht, wck_ok hP rfl g5 a5 ht⟩
set_option maxRecDepth 100000 in
theorem rs_digits : gk 23 (wfin 130003) 60 0 0 0 0 0 = true := by decide +kernel
theorem rs_count {n t : Nat} (h1 : 1 ≤ n) (h5 : n ≤ 5) (ht : t < 130003) : (rs n 0).countP (fun r => r % 130003 == t) < 128 := by
  have h := wfin_ok (by omega) (gk_all 23 _ rs_digits) (rs_len (by omega) (by omega)) (rs_len (by omega) (by omega)) (rs_len (by omega) (by omega)) (rs_len (by omega) (by omega)) (rs_len (by omega) (by omega)) ht
  rcases (show n = 1 ∨ n = 2 ∨ n = 3 ∨ n = 4 ∨ n = 5 by omega) with rfl | rfl | rfl | rfl | rfl
  · exact h.1
  · exact h.2.1
  · exact h.2.2.1
  · exact h.2.2.2.1
  · exact h.2.2.2.2
theorem iv_ok : ∀ x, 1 ≤ x → x ≤ 99 → iv x < 130003 ∧ ∃ k : Nat, x * iv x = 1 + 130003 * k := by
  intro x h1 h2
  have h : (List.range 99).all (fun x => Nat.blt (iv (x + 1)) 130003 && Nat.beq ((x + 1) * iv (x + 1) % 130003) 1) = true := by decide +kernel
  have := List.all_eq_true.mp h (x - 1) (List.mem_range.mpr (by omega))
  rw [show x - 1 + 1 = x by omega, Bool.and_eq_true] at this
  have a1 := Nat.le_of_ble_eq_true this.1
  have a2 := Nat.eq_of_beq_eq_true this.2
  exact ⟨by omega, x * iv x / 130003, by have := Nat.div_add_mod (x * iv x) 130003; omega⟩
theorem sm_cnt : ∀ (n lo : Nat) (a b ib u v : Int) (t : Nat), t < 130003 → a * ib = (t : Int) + 130003 * u → b * ib = 1 + 130003 * v → (sm 60 n lo a b).length ≤ (rs n lo).countP (fun r => r % 130003 == t) := by
  intro n
  induction n with
  | zero =>
    intro lo a b ib u v t ht h1 h2
    rw [sm, rs]
    split
    · rename_i a0
      rw [a0, Int.zero_mul] at h1
      have t0 : t = 0 := by omega
      subst t0
      decide
    · simp
  | succ n ih =>
    intro lo a b ib u v t ht h1 h2
    rw [sm_succ, rs]
    have key : ∀ (c x : Nat), 1 ≤ x → x + c ≤ 61 → (smL (smF 60 n a b) c x).length ≤ (rsL (fun x => (rs n x).map (fun r => r + iv x)) c x).countP (fun r => r % 130003 == t) := by
      intro c
      induction c with
      | zero => intro x _ _; simp [smL, rsL]
      | succ c ihc =>
        intro x hx hc
        rw [smL, rsL, List.length_append, List.countP_append]
        have g := ihc (x + 1) (by omega) (by omega)
        obtain ⟨i1, k, i2⟩ := iv_ok x hx (by omega)
        obtain ⟨t', s, ht', hs⟩ : ∃ (t' : Nat) (s : Int), t' < 130003 ∧ (t' : Int) = (t : Int) - (iv x : Int) + 130003 * s := by
          by_cases z : iv x ≤ t
          · exact ⟨t - iv x, 0, by omega, by omega⟩
          · exact ⟨t + 130003 - iv x, 1, by omega, by omega⟩
        have i2' : (x : Int) * (iv x : Int) = 1 + 130003 * (k : Int) := by
          have := congrArg (fun z : Nat => (z : Int)) i2
          simp only [Int.natCast_mul, Int.natCast_add] at this
          exact this
        have e1 : (a * (x : Int) - b) * (ib * (iv x : Int)) = (a * ib) * ((x : Int) * (iv x : Int)) - (b * ib) * (iv x : Int) := by
          rw [Int.sub_mul, Int.mul_assoc b ib, Int.mul_assoc a ib, Int.mul_assoc a (x : Int), Int.mul_left_comm ib (x : Int)]
        have e2 : (b * (x : Int)) * (ib * (iv x : Int)) = (b * ib) * ((x : Int) * (iv x : Int)) := by
          rw [Int.mul_assoc b ib, Int.mul_assoc b (x : Int), Int.mul_left_comm ib (x : Int)]
        have f1 : ((t : Int) + 130003 * u) * (1 + 130003 * (k : Int)) = (t : Int) + 130003 * u + 130003 * (((t : Int) + 130003 * u) * (k : Int)) := by
          rw [Int.mul_add, Int.mul_one, Int.mul_left_comm]
        have f2 : (1 + 130003 * v) * (iv x : Int) = (iv x : Int) + 130003 * (v * (iv x : Int)) := by
          rw [Int.add_mul, Int.one_mul, Int.mul_assoc]
        have f3 : (1 + 130003 * v) * (1 + 130003 * (k : Int)) = 1 + 130003 * v + 130003 * ((1 + 130003 * v) * (k : Int)) := by
          rw [Int.mul_add, Int.mul_one, Int.mul_left_comm]
        have q := ih x (a * (x : Int) - b) (b * (x : Int)) (ib * (iv x : Int)) (u + ((t : Int) + 130003 * u) * (k : Int) - v * (iv x : Int) - s) (v + (1 + 130003 * v) * (k : Int)) t' ht' (by rw [e1, h1, h2, i2', f1, f2]; omega) (by rw [e2, h2, i2', f3]; omega)
        have e : (rs n x).countP (fun r => r % 130003 == t') = ((rs n x).map (fun r => r + iv x)).countP (fun r => r % 130003 == t) := by
          rw [List.countP_map]
          refine List.countP_congr (fun r _ => ?_)
          simp only [Function.comp, beq_iff_eq]
          omega
        rw [← e, smF, List.length_map]
        omega
    by_cases z : lo ≤ 60
    · exact key (60 - lo) (lo + 1) (by omega) (by omega)
    · rw [show 60 - lo = 0 by omega]
      simp [smL]
/-- never more than 128, whatever the fraction -/
theorem sm_128 {n : Nat} {p q : Int} (h1 : 1 ≤ n) (h5 : n ≤ 5) (hp : 0 ≤ p) (hq : 1 ≤ q ∧ q ≤ 99) : (sm 60 n 0 p q).length < 128 := by
  obtain ⟨y, rfl⟩ : ∃ y : Nat, q = (y : Int) := ⟨q.toNat, by omega⟩
  obtain ⟨i1, k, i2⟩ := iv_ok y (by omega) (by omega)
  have i2' : (y : Int) * (iv y : Int) = 1 + 130003 * (k : Int) := by
    have := congrArg (fun z : Nat => (z : Int)) i2
    simp only [Int.natCast_mul, Int.natCast_add] at this
    exact this
  obtain ⟨t, ht, u, hu⟩ : ∃ t : Nat, t < 130003 ∧ ∃ u : Int, p * (iv y : Int) = (t : Int) + 130003 * u := by
    refine ⟨(p * (iv y : Int) % 130003).toNat, by omega, p * (iv y : Int) / 130003, by omega⟩
  exact Nat.lt_of_le_of_lt (sm_cnt n 0 p (y : Int) (iv y : Int) u k t ht hu i2') (rs_count h1 h5 ht)
