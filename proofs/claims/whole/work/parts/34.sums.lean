/-! sums of so many: what they are -/
def smL (F : Nat → List (List Int)) : Nat → Nat → List (List Int)
  | 0, _ => []
  | c + 1, x => F x ++ smL F c (x + 1)
def sm (d : Nat) : Nat → Nat → Int → Int → List (List Int)
  | 0, _, a, _ => if a = 0 then [[]] else []
  | n + 1, lo, a, b => smL (fun x => (sm d n x (a * (x : Int) - b) (b * (x : Int))).map (fun l => (x : Int) :: l)) (d - lo) (lo + 1)
/-- those that begin with x -/
abbrev smF (d n : Nat) (a b : Int) (x : Nat) : List (List Int) := (sm d n x (a * (x : Int) - b) (b * (x : Int))).map (fun l => (x : Int) :: l)
theorem sm_succ (d n lo : Nat) (a b : Int) : sm d (n + 1) lo a b = smL (smF d n a b) (d - lo) (lo + 1) := rfl
theorem smL_nil {F : Nat → List (List Int)} : ∀ (c x : Nat), (∀ y, x ≤ y → y < x + c → F y = []) → smL F c x = []
  | 0, _, _ => rfl
  | c + 1, x, h => by
    rw [smL, h x (by omega) (by omega), smL_nil c (x + 1) (fun y h1 h2 => h y (by omega) (by omega))]
    rfl
theorem smL_skip {F : Nat → List (List Int)} : ∀ (k c x : Nat), (∀ y, x ≤ y → y < x + k → F y = []) → k ≤ c → smL F c x = smL F (c - k) (x + k)
  | 0, _, _, _, _ => rfl
  | k + 1, 0, _, _, h => by omega
  | k + 1, c + 1, x, h, hk => by
    rw [smL, h x (by omega) (by omega), smL_skip k c (x + 1) (fun y h1 h2 => h y (by omega) (by omega)) (by omega), show c + 1 - (k + 1) = c - k by omega, show x + (k + 1) = x + 1 + k by omega]
    rfl
theorem pos_of_mul {a x : Int} (hx : 0 ≤ x) (h : 0 < a * x) : 0 < a := by
  apply Classical.byContradiction
  intro z
  have := Int.mul_le_mul_of_nonneg_right (show a ≤ 0 by omega) hx
  omega
theorem sm_hi {d : Nat} : ∀ (n lo : Nat) (a b : Int), 1 ≤ b → (n : Int) * b < a * ((lo : Int) + 1) → sm d n lo a b = []
  | 0, lo, a, b, hb, h => by
    have : 0 < a := pos_of_mul (x := (lo : Int) + 1) (by omega) (by omega)
    rw [sm, if_neg (by omega)]
  | n + 1, lo, a, b, hb, h => by
    rw [sm_succ]
    refine smL_nil _ _ (fun y h1 h2 => ?_)
    have nb : 0 ≤ ((n : Int) + 1) * b := Int.mul_nonneg (by omega) (by omega)
    have e1 : ((n + 1 : Nat) : Int) * b = (n : Int) * b + b := by rw [show ((n + 1 : Nat) : Int) = (n : Int) + 1 by omega, Int.add_mul, Int.one_mul]
    have nb2 : 0 ≤ (n : Int) * b := Int.mul_nonneg (by omega) (by omega)
    have a0 : 0 < a := pos_of_mul (x := (lo : Int) + 1) (by omega) (by omega)
    have m1 : a * ((lo : Int) + 1) ≤ a * (y : Int) := Int.mul_le_mul_of_nonneg_left (by omega) (by omega)
    have by1 : 1 * 1 ≤ b * (y : Int) := Int.mul_le_mul hb (by omega) (by omega) (by omega)
    have m2 : ((n : Int) * b + 1) * ((y : Int) + 1) ≤ (a * (y : Int) - b) * ((y : Int) + 1) := Int.mul_le_mul_of_nonneg_right (by omega) (by omega)
    have e2 : ((n : Int) * b + 1) * ((y : Int) + 1) = (n : Int) * (b * (y : Int)) + (n : Int) * b + y + 1 := by
      rw [Int.add_mul, Int.mul_add, Int.mul_assoc]; omega
    rw [smF, sm_hi n y (a * (y : Int) - b) (b * (y : Int)) (by omega) (by omega)]
    rfl
theorem sm_lo {d : Nat} : ∀ (n lo : Nat) (a b : Int), 1 ≤ b → a * (d : Int) < (n : Int) * b → sm d n lo a b = []
  | 0, lo, a, b, hb, h => by
    have : a ≠ 0 := by
      intro z
      rw [z] at h
      omega
    rw [sm, if_neg this]
  | n + 1, lo, a, b, hb, h => by
    rw [sm_succ]
    refine smL_nil _ _ (fun y h1 h2 => ?_)
    have e1 : ((n + 1 : Nat) : Int) * b = (n : Int) * b + b := by rw [show ((n + 1 : Nat) : Int) = (n : Int) + 1 by omega, Int.add_mul, Int.one_mul]
    have by1 : 1 * 1 ≤ b * (y : Int) := Int.mul_le_mul hb (by omega) (by omega) (by omega)
    have m1 : b * (y : Int) ≤ b * (d : Int) := Int.mul_le_mul_of_nonneg_left (by omega) (by omega)
    have m2 : (a * (d : Int) + 1) * (y : Int) ≤ ((n : Int) * b + b) * (y : Int) := Int.mul_le_mul_of_nonneg_right (by omega) (by omega)
    have e2 : (a * (d : Int) + 1) * (y : Int) = a * (y : Int) * (d : Int) + y := by rw [Int.add_mul, Int.mul_right_comm, Int.one_mul]
    have e3 : ((n : Int) * b + b) * (y : Int) = (n : Int) * (b * (y : Int)) + b * (y : Int) := by rw [Int.add_mul, Int.mul_assoc]
    have e4 : (a * (y : Int) - b) * (d : Int) = a * (y : Int) * (d : Int) - b * (d : Int) := by rw [Int.sub_mul]
    rw [smF, sm_lo n y (a * (y : Int) - b) (b * (y : Int)) (by omega) (by omega)]
    rfl
theorem sm_neg {d : Nat} : ∀ (n lo : Nat) (a b : Int), 1 ≤ b → a < 0 → sm d n lo a b = []
  | 0, lo, a, b, hb, h => by rw [sm, if_neg (by omega)]
  | n + 1, lo, a, b, hb, h => by
    rw [sm_succ]
    refine smL_nil _ _ (fun y h1 h2 => ?_)
    have by1 : 1 * 1 ≤ b * (y : Int) := Int.mul_le_mul hb (by omega) (by omega) (by omega)
    have m1 : a * (y : Int) ≤ 0 := by
      have := Int.mul_le_mul_of_nonneg_right (show a ≤ 0 by omega) (show (0 : Int) ≤ y by omega)
      omega
    rw [smF, sm_neg n y (a * (y : Int) - b) (b * (y : Int)) (by omega) (by omega)]
    rfl
theorem sm_zero {d : Nat} (n lo : Nat) (b : Int) (hb : 1 ≤ b) {a : Int} (ha : a ≤ 0) : sm d (n + 1) lo a b = [] := by
  rw [sm_succ]
  refine smL_nil _ _ (fun y h1 h2 => ?_)
  have by1 : 1 * 1 ≤ b * (y : Int) := Int.mul_le_mul hb (by omega) (by omega) (by omega)
  have m1 : a * (y : Int) ≤ 0 := by
    have := Int.mul_le_mul_of_nonneg_right ha (show (0 : Int) ≤ y by omega)
    omega
  rw [smF, sm_neg n y (a * (y : Int) - b) (b * (y : Int)) (by omega) (by omega)]
  rfl
/-- a first number too small leaves nothing -/
theorem smF_small {d n : Nat} {a b : Int} {x : Nat} (hb : 1 ≤ b) (hx : 1 ≤ x) (h : a * (x : Int) ≤ b) : smF d (n + 1) a b x = [] := by
  have by1 : 1 * 1 ≤ b * (x : Int) := Int.mul_le_mul hb (by omega) (by omega) (by omega)
  rw [smF, sm_zero n x (b * (x : Int)) (by omega) (by omega)]
  rfl
theorem smF_neg {d n : Nat} {a b : Int} {x : Nat} (hb : 1 ≤ b) (hx : 1 ≤ x) (h : a * (x : Int) < b) : smF d n a b x = [] := by
  have by1 : 1 * 1 ≤ b * (x : Int) := Int.mul_le_mul hb (by omega) (by omega) (by omega)
  rw [smF, sm_neg n x _ (b * (x : Int)) (by omega) (by omega)]
  rfl
/-- one too great -/
theorem smF_great {d n : Nat} {a b : Int} {x : Nat} (hb : 1 ≤ b) (hx : 1 ≤ x) (h : ((n : Int) + 2) * b ≤ a * (x : Int)) : smF d (n + 1) a b x = [] := by
  have by1 : 1 * 1 ≤ b * (x : Int) := Int.mul_le_mul hb (by omega) (by omega) (by omega)
  have e0 : ((n : Int) + 2) * b = ((n : Int) + 1) * b + b := by rw [show (n : Int) + 2 = (n : Int) + 1 + 1 by omega, Int.add_mul ((n : Int) + 1), Int.one_mul]
  have p0 : 1 * 1 ≤ ((n : Int) + 1) * b := Int.mul_le_mul (by omega) hb (by omega) (by omega)
  have m2 : (((n : Int) + 1) * b) * ((x : Int) + 1) ≤ (a * (x : Int) - b) * ((x : Int) + 1) := Int.mul_le_mul_of_nonneg_right (by omega) (by omega)
  have e2 : (((n : Int) + 1) * b) * ((x : Int) + 1) = ((n : Int) + 1) * (b * (x : Int)) + ((n : Int) + 1) * b := by
    rw [Int.mul_add, Int.mul_assoc, Int.mul_one]
  have e3 : ((n + 1 : Nat) : Int) = (n : Int) + 1 := by omega
  rw [smF, sm_hi (n + 1) x _ (b * (x : Int)) (by omega) (by rw [e3]; omega)]
  rfl
theorem smF_great0 {d n : Nat} {a b : Int} {x : Nat} (hb : 1 ≤ b) (hx : 1 ≤ x) (h : ((n : Int) + 1) * b < a * (x : Int)) : smF d n a b x = [] := by
  have by1 : 1 * 1 ≤ b * (x : Int) := Int.mul_le_mul hb (by omega) (by omega) (by omega)
  have e0 : ((n : Int) + 1) * b = (n : Int) * b + b := by rw [Int.add_mul, Int.one_mul]
  have p0 : 0 ≤ (n : Int) * b := Int.mul_nonneg (by omega) (by omega)
  have m2 : ((n : Int) * b + 1) * ((x : Int) + 1) ≤ (a * (x : Int) - b) * ((x : Int) + 1) := Int.mul_le_mul_of_nonneg_right (by omega) (by omega)
  have e2 : ((n : Int) * b + 1) * ((x : Int) + 1) = (n : Int) * (b * (x : Int)) + (n : Int) * b + x + 1 := by
    rw [Int.add_mul, Int.mul_add, Int.mul_assoc]; omega
  rw [smF, sm_hi n x _ (b * (x : Int)) (by omega) (by omega)]
  rfl
/-- too little left for the smallest terms -/
theorem smF_little {d n : Nat} {a b : Int} {x : Nat} (hb : 1 ≤ b) (hx : 1 ≤ x) (h : (a * (x : Int) - b) * (d : Int) < (n : Int) * (b * (x : Int))) : smF d n a b x = [] := by
  have by1 : 1 * 1 ≤ b * (x : Int) := Int.mul_le_mul hb (by omega) (by omega) (by omega)
  rw [smF, sm_lo n x _ (b * (x : Int)) (by omega) h]
  rfl
/-- rising above lo, to d -/
def asc (d : Int) : Int → List Int → Prop
  | _, [] => True
  | lo, x :: l => lo < x ∧ x ≤ d ∧ asc d x l
theorem mem_smL {F : Nat → List (List Int)} {l : List Int} : ∀ (c x : Nat), l ∈ smL F c x → ∃ y, x ≤ y ∧ y < x + c ∧ l ∈ F y
  | 0, _, h => by rw [smL] at h; cases h
  | c + 1, x, h => by
    rw [smL] at h
    rcases List.mem_append.mp h with z | z
    · exact ⟨x, by omega, by omega, z⟩
    · obtain ⟨y, h1, h2, h3⟩ := mem_smL c (x + 1) z
      exact ⟨y, by omega, by omega, h3⟩
theorem sm_mem {d : Nat} {l : List Int} : ∀ (n lo : Nat) (a b : Int), l ∈ sm d n lo a b → l.length = n ∧ asc d lo l := by
  intro n
  induction n generalizing l with
  | zero =>
    intro lo a b h
    rw [sm] at h
    split at h
    · rw [List.mem_singleton] at h
      subst h
      exact ⟨rfl, trivial⟩
    · cases h
  | succ n ih =>
    intro lo a b h
    rw [sm_succ] at h
    obtain ⟨y, h1, h2, h3⟩ := mem_smL _ _ h
    obtain ⟨l', h4, rfl⟩ := List.mem_map.mp h3
    obtain ⟨g1, g2⟩ := ih y _ _ h4
    exact ⟨by simp [g1], by omega, by omega, g2⟩
/-- the last number -/
def lastN : List Int → Int
  | [] => 0
  | [x] => x
  | _ :: y :: l => lastN (y :: l)
theorem lastN_cons (x : Int) {l : List Int} (h : l ≠ []) : lastN (x :: l) = lastN l := by
  cases l with
  | nil => exact absurd rfl h
  | cons y l => rfl
theorem asc_last {d : Int} : ∀ (l : List Int) (lo : Int), asc d lo l → l ≠ [] → lo < lastN l ∧ lastN l ≤ d
  | [], _, _, h => absurd rfl h
  | [x], lo, h, _ => ⟨h.1, h.2.1⟩
  | x :: y :: l, lo, h, _ => by
    have := asc_last (y :: l) x h.2.2 (by simp)
    have h1 := h.1
    rw [lastN_cons x (by simp)]
    exact ⟨by omega, this.2⟩
theorem filter_none {l : List (List Int)} {p : List Int → Bool} (h : ∀ x, x ∈ l → p x = false) : l.filter p = [] := by
  rw [List.filter_eq_nil_iff]
  intro x hx
  rw [h x hx]
  simp
/-- those within d are the ones of those within D whose last is -/
theorem sm_within {d D : Nat} (hD : d ≤ D) : ∀ (n lo : Nat) (a b : Int), sm d (n + 1) lo a b = (sm D (n + 1) lo a b).filter (fun l => decide (lastN l ≤ (d : Int))) := by
  have go : ∀ (n : Nat) (a b : Int), (∀ y : Nat, y ≤ d → smF d n a b y = (smF D n a b y).filter (fun l => decide (lastN l ≤ (d : Int)))) → (∀ y : Nat, d < y → (smF D n a b y).filter (fun l => decide (lastN l ≤ (d : Int))) = []) → ∀ lo, sm d (n + 1) lo a b = (sm D (n + 1) lo a b).filter (fun l => decide (lastN l ≤ (d : Int))) := by
    intro n a b h1 h2 lo
    rw [sm_succ, sm_succ]
    have key : ∀ (c e x : Nat), x + c = d + 1 → smL (smF d n a b) c x = (smL (smF D n a b) (c + e) x).filter (fun l => decide (lastN l ≤ (d : Int))) := by
      intro c
      induction c with
      | zero =>
        intro e x hx
        have tail : ∀ (e x : Nat), d < x → (smL (smF D n a b) e x).filter (fun l => decide (lastN l ≤ (d : Int))) = [] := by
          intro e
          induction e with
          | zero => intro x _; rfl
          | succ e ih =>
            intro x hx
            rw [smL, List.filter_append, h2 x hx, ih (x + 1) (by omega)]
            rfl
        rw [tail _ _ (by omega)]
        rfl
      | succ c ih =>
        intro e x hx
        rw [show c + 1 + e = (c + e) + 1 by omega, smL, smL, List.filter_append, ← h1 x (by omega), ih e (x + 1) (by omega)]
    by_cases z : lo ≤ d
    · have := key (d - lo) (D - d) (lo + 1) (by omega)
      rw [show d - lo + (D - d) = D - lo by omega] at this
      exact this
    · rw [show d - lo = 0 by omega]
      show [] = _
      have : ∀ (e x : Nat), d < x → (smL (smF D n a b) e x).filter (fun l => decide (lastN l ≤ (d : Int))) = [] := by
        intro e
        induction e with
        | zero => intro x _; rfl
        | succ e ih =>
          intro x hx
          rw [smL, List.filter_append, h2 x hx, ih (x + 1) (by omega)]
          rfl
      rw [this _ _ (by omega)]
  have big : ∀ (n : Nat) (a b : Int) (y : Nat), d < y → (smF D n a b y).filter (fun l => decide (lastN l ≤ (d : Int))) = [] := by
    intro n a b y hy
    refine filter_none (fun l hl => ?_)
    obtain ⟨l', h4, rfl⟩ := List.mem_map.mp hl
    obtain ⟨g1, g2⟩ := sm_mem _ _ _ _ h4
    refine decide_eq_false (fun z => ?_)
    by_cases e : l' = []
    · subst e
      have : lastN [(y : Int)] = (y : Int) := rfl
      omega
    · rw [lastN_cons _ e] at z
      have := asc_last l' _ g2 e
      omega
  intro n
  induction n with
  | zero =>
    intro lo a b
    refine go 0 a b (fun y hy => ?_) (fun y hy => big 0 a b y hy) lo
    rw [smF, smF, sm, sm]
    split
    · have : decide (lastN [(y : Int)] ≤ (d : Int)) = true := decide_eq_true (by show (y : Int) ≤ d; omega)
      rw [List.map_singleton, List.filter_cons, if_pos this]
      rfl
    · rfl
  | succ n ih =>
    intro lo a b
    refine go (n + 1) a b (fun y hy => ?_) (fun y hy => big (n + 1) a b y hy) lo
    rw [smF, smF, ih y, List.filter_map]
    congr 1
    refine List.filter_congr (fun l hl => ?_)
    obtain ⟨g1, g2⟩ := sm_mem _ _ _ _ hl
    have e : l ≠ [] := by
      intro z
      rw [z] at g1
      simp at g1
    show _ = decide (lastN ((y : Int) :: l) ≤ (d : Int))
    rw [lastN_cons _ e]
