/-! the reference: its row of rows -/
def inW (W : Nat → Int) (b : Nat) (l : List Int) : Prop := W b = (l.length : Int) ∧ ∀ i, i < l.length → W (b + 1 + i) = l.getD i 0
def cpW (W : Nat → Int) (a b k : Nat) : Nat → Int := fun i => if b ≤ i ∧ i < b + k then W (a + (i - b)) else W i
def shW (W : Nat → Int) (k : Nat) : Nat → Int := fun i => if 27 ≤ i ∧ i < 27 + k then W (i + 9) else W i
theorem inW.fr {W W' : Nat → Int} {b : Nat} {l : List Int} (H : inW W b l) (hl : l.length ≤ 8) (hf : ∀ i, b ≤ i → i < b + 9 → W' i = W i) : inW W' b l := ⟨(hf b (by omega) (by omega)).trans H.1, fun i hi => (hf _ (by omega) (by omega)).trans (H.2 i hi)⟩
theorem inW.mv {W W' : Nat → Int} {a b : Nat} {l : List Int} (H : inW W a l) (hl : l.length ≤ 8) (hf : ∀ i, i < 9 → W' (b + i) = W (a + i)) : inW W' b l := by
  refine ⟨(hf 0 (by omega)).trans H.1, fun i hi => ?_⟩
  have := hf (1 + i) (by omega)
  rw [← Nat.add_assoc, ← Nat.add_assoc] at this
  rw [this]
  exact H.2 i hi
def notIn (l : List Int) (x : Int) : Prop := ∀ i, i < l.length → l.getD i 0 ≠ x
section WOps
variable {d n : Nat} {h : AH} {u p q sn ls e1 e2 e3 e4 e5 e6 e7 e8 : Int} {W : Nat → Int}
theorem c6_copy {a b : Nat} (hab : a + 9 ≤ b ∨ b + 9 ≤ a) (ha : a + 9 ≤ 117) (hb : b + 9 ≤ 117) (hM : h 52 = aO 6 (mdl u p q sn ls e1 e2 e3 e4 e5 e6 e7 e8)) (hW : h 53 = aA 0 117 W) : AC mX6_copy d 0 0 n h [aR 52, aI (a : Int), aI (b : Int)] (aqv n fun h' => h' 53 = aA 0 117 (cpW W a b 9) ∧ ∀ j, j ≠ 53 → h' j = h j) := by
  refine AC.of (by decide) (Nat.le_of_ble_eq_true rfl) ?_
  have loop : ∀ (c k : Nat) (h1 : AH), k + c = 9 → h1 53 = aA 0 117 (cpW W a b k) → (∀ j, j ≠ 53 → h1 j = h j) → AW mX6_copy (am_R d 0 0) (am_Z (aqv n fun h' => h' 53 = aA 0 117 (cpW W a b 9) ∧ ∀ j, j ≠ 53 → h' j = h j) 0 0) 0 0 n h1 2 [some (aR 52), some (aI (a : Int)), some (aI (b : Int)), some (aI (k : Int))] [] := by
    intro c
    induction c with
    | zero =>
      intro k h1 hk W1 hfr
      refine aw_iload_n dX6_copy_2 rfl ?_
      refine aw_bipush dX6_copy_3 (by decide) ?_
      -- at 5: .if_icmp .ge 25
      refine aw_icmp_ge (tgt := 30) dX6_copy_5 (by omega) (by omega) (by decide) (fun c1 => ?_) (fun c1 => ?_)
      · exact aw_vret rfl dX6_copy_30 ⟨rfl, rfl, by rw [W1, show k = 9 by omega], hfr⟩
      · omega
    | succ c ih =>
      intro k h1 hk W1 hfr
      have M1 := (hfr 52 (by omega)).trans hM
      refine aw_iload_n dX6_copy_2 rfl ?_
      refine aw_bipush dX6_copy_3 (by decide) ?_
      -- at 5: .if_icmp .ge 25
      refine aw_icmp_ge (tgt := 30) dX6_copy_5 (by omega) (by omega) (by decide) (fun c1 => ?_) (fun c1 => ?_)
      · omega
      · refine aw_aload_n dX6_copy_8 rfl ?_
        refine aw_get kg_X6_7 (by assumption) (by rfl) dX6_copy_9 ?_
        refine aw_iload_n dX6_copy_12 rfl ?_
        refine aw_iload_n dX6_copy_13 rfl ?_
        refine aw_iadd dX6_copy_14 ?_
        refine aw_aload_n dX6_copy_15 rfl ?_
        refine aw_get kg_X6_7 (by assumption) (by rfl) dX6_copy_16 ?_
        refine aw_iload_n dX6_copy_19 rfl ?_
        refine aw_iload_n dX6_copy_20 rfl ?_
        refine aw_iadd dX6_copy_21 ?_
        refine aw_iald (by assumption) (by omega) dX6_copy_22 ?_
        -- at 23: .iastore
        refine aw_iastO (by assumption) (by omega) dX6_copy_23 (fun h2 b2 f2 => ?_)
        refine aw_iinc dX6_copy_24 rfl (by decide) ?_
        refine aw_goto (tgt := 2) dX6_copy_27 (by decide) ?_
        have K := ih (k + 1) h2 (by omega) ?_ (fun j hj => (f2 j hj).trans (hfr j hj))
        · rw [show ((k + 1 : Nat) : Int) = (k : Int) + 1 by omega] at K
          exact K
        · rw [b2, show ((b : Int) + (k : Int)).toNat = b + k by omega, show ((a : Int) + (k : Int)).toNat = a + k by omega]
          congr 1
          funext i
          by_cases z : i = b + k
          · rw [z, va_up_s]
            unfold cpW
            rw [if_neg (by omega), if_pos (by omega)]
            congr 1
            omega
          · rw [va_up_n _ _ _ z]
            unfold cpW
            by_cases y : b ≤ i ∧ i < b + k
            · rw [if_pos y, if_pos (by omega)]
            · rw [if_neg y, if_neg (by omega)]
  refine aw_iconst dX6_copy_0 ?_
  refine aw_istore_n dX6_copy_1 (by decide) ?_
  refine loop 9 0 h rfl ?_ (fun _ _ => rfl)
  rw [hW]
  congr 1
  funext i
  unfold cpW
  rw [if_neg (by omega)]
theorem c6_isTerm {t : List Int} {v : Int} (hv : -2147483648 ≤ v ∧ v ≤ 2147483647) (hM : h 52 = aO 6 (mdl u p q sn ls e1 e2 e3 e4 e5 e6 e7 e8)) (hW : h 53 = aA 0 117 W) (ht : inW W 0 t) (ok : inRow t) : AC mX6_isTerm d 0 0 n h [aR 52, aI v] (aqi n fun r h' => ((r = 0 ∧ notIn t v) ∨ (r = 1 ∧ ¬ notIn t v)) ∧ h' = h) := by
  refine AC.of (by decide) (Nat.le_of_ble_eq_true rfl) ?_
  have t8 := ok.1
  have w0 : W 0 = (t.length : Int) := ht.1
  have loop : ∀ (c k : Nat), k + c = t.length → (∀ i, i < k → t.getD i 0 ≠ v) → AW mX6_isTerm (am_R d 0 0) (am_Z (aqi n fun r h' => ((r = 0 ∧ notIn t v) ∨ (r = 1 ∧ ¬ notIn t v)) ∧ h' = h) 0 0) 0 0 n h 2 [some (aR 52), some (aI v), some (aI (k : Int))] [] := by
    intro c
    induction c with
    | zero =>
      intro k hk hn
      refine aw_iload_n dX6_isTerm_2 rfl ?_
      refine aw_aload_n dX6_isTerm_3 rfl ?_
      refine aw_get kg_X6_7 (by assumption) (by rfl) dX6_isTerm_4 ?_
      refine aw_iconst dX6_isTerm_7 ?_
      refine aw_iald (by assumption) (by omega) dX6_isTerm_8 ?_
      refine aw_val (w := aI (t.length : Int)) (by rw [← w0]; rfl) ?_
      refine aw_icmp_ge (tgt := 32) dX6_isTerm_9 (by omega) (by omega) (by decide) (fun c1 => ?_) (fun c1 => ?_)
      · refine aw_iconst dX6_isTerm_32 ?_
        -- at 33: .ireturn
        exact aw_zret rfl dX6_isTerm_33 (by omega) ⟨rfl, _, rfl, Or.inl ⟨rfl, fun i hi => hn i (by omega)⟩, rfl⟩
      · omega
    | succ c ih =>
      intro k hk hn
      have tv := ok.2 k (by omega)
      have wk := ht.2 k (by omega)
      refine aw_iload_n dX6_isTerm_2 rfl ?_
      refine aw_aload_n dX6_isTerm_3 rfl ?_
      refine aw_get kg_X6_7 (by assumption) (by rfl) dX6_isTerm_4 ?_
      refine aw_iconst dX6_isTerm_7 ?_
      refine aw_iald (by assumption) (by omega) dX6_isTerm_8 ?_
      refine aw_val (w := aI (t.length : Int)) (by rw [← w0]; rfl) ?_
      refine aw_icmp_ge (tgt := 32) dX6_isTerm_9 (by omega) (by omega) (by decide) (fun c1 => ?_) (fun c1 => ?_)
      · omega
      · refine aw_aload_n dX6_isTerm_12 rfl ?_
        refine aw_get kg_X6_7 (by assumption) (by rfl) dX6_isTerm_13 ?_
        refine aw_iconst dX6_isTerm_16 ?_
        refine aw_iload_n dX6_isTerm_17 rfl ?_
        refine aw_iadd dX6_isTerm_18 ?_
        refine aw_iald (by assumption) (by omega) dX6_isTerm_19 ?_
        refine aw_val (w := aI (t.getD k 0)) (by rw [← wk]; congr 2) ?_
        refine aw_iload_n dX6_isTerm_20 rfl ?_
        -- at 21: .if_icmp .ne 5
        refine aw_icmp_ne (tgt := 26) dX6_isTerm_21 (by omega) (by omega) (by decide) (fun c2 => ?_) (fun c2 => ?_)
        · refine aw_iinc dX6_isTerm_26 rfl (by decide) ?_
          refine aw_goto (tgt := 2) dX6_isTerm_29 (by decide) ?_
          have K := ih (k + 1) (by omega) (fun i hi => ?_)
          · rw [show ((k + 1 : Nat) : Int) = (k : Int) + 1 by omega] at K
            exact K
          · by_cases z : i = k
            · rw [z]; exact c2
            · exact hn i (by omega)
        · refine aw_iconst dX6_isTerm_24 ?_
          -- at 25: .ireturn
          exact aw_zret rfl dX6_isTerm_25 (by omega) ⟨rfl, _, rfl, Or.inr ⟨rfl, fun z => z k (by omega) (by omega)⟩, rfl⟩
  refine aw_iconst dX6_isTerm_0 ?_
  refine aw_istore_n dX6_isTerm_1 (by decide) ?_
  exact loop t.length 0 (Nat.zero_add _) (fun i hi => by omega)
theorem c6_goesAt {t : List Int} {k : Nat} (hk : k < t.length) (hM : h 52 = aO 6 (mdl u p q sn ls e1 e2 e3 e4 e5 e6 e7 e8)) (hW : h 53 = aA 0 117 W) (ht : inW W 0 t) (ok : inRow t) : AC mX6_goes d 0 0 n h [aR 52, aI (k : Int)] (aqv n fun h' => (∃ W', h' 53 = aA 0 117 W' ∧ inW W' 0 (t.eraseIdx k) ∧ ∀ i, 9 ≤ i → W' i = W i) ∧ ∀ j, j ≠ 53 → h' j = h j) := by
  refine AC.of (by decide) (Nat.le_of_ble_eq_true rfl) ?_
  have t8 := ok.1
  have w0 : W 0 = (t.length : Int) := ht.1
  have len : (t.eraseIdx k).length = t.length - 1 := by rw [List.length_eraseIdx, if_pos hk]
  have loop : ∀ (c e : Nat) (h1 : AH) (W1 : Nat → Int), e + c = t.length - 1 → k ≤ e → h1 53 = aA 0 117 W1 → W1 0 = (t.length : Int) - 1 → (∀ i, i < e → W1 (1 + i) = (t.eraseIdx k).getD i 0) → (∀ i, e ≤ i → i < t.length → W1 (1 + i) = t.getD i 0) → (∀ i, 9 ≤ i → W1 i = W i) → (∀ j, j ≠ 53 → h1 j = h j) → AW mX6_goes (am_R d 0 0) (am_Z (aqv n fun h' => (∃ W', h' 53 = aA 0 117 W' ∧ inW W' 0 (t.eraseIdx k) ∧ ∀ i, 9 ≤ i → W' i = W i) ∧ ∀ j, j ≠ 53 → h' j = h j) 0 0) 0 0 n h1 12 [some (aR 52), some (aI (k : Int)), some (aI (e : Int))] [] := by
    intro c
    induction c with
    | zero =>
      intro e h1 W1 he hke x1 x2 x3 x4 x5 hfr
      have M1 := (hfr 52 (by omega)).trans hM
      refine aw_iload_n dX6_goes_12 rfl ?_
      refine aw_aload_n dX6_goes_13 rfl ?_
      refine aw_get kg_X6_7 (by assumption) (by rfl) dX6_goes_14 ?_
      refine aw_iconst dX6_goes_17 ?_
      refine aw_iald (by assumption) (by omega) dX6_goes_18 ?_
      refine aw_val (w := aI ((t.length : Int) - 1)) (by rw [← x2]; rfl) ?_
      refine aw_icmp_ge (tgt := 46) dX6_goes_19 (by omega) (by omega) (by decide) (fun c1 => ?_) (fun c1 => ?_)
      · refine aw_vret rfl dX6_goes_46 ⟨rfl, rfl, ⟨W1, x1, ⟨by rw [x2]; omega, fun i hi => ?_⟩, x5⟩, hfr⟩
        rw [Nat.zero_add]
        exact x3 i (by omega)
      · omega
    | succ c ih =>
      intro e h1 W1 he hke x1 x2 x3 x4 x5 hfr
      have M1 := (hfr 52 (by omega)).trans hM
      refine aw_iload_n dX6_goes_12 rfl ?_
      refine aw_aload_n dX6_goes_13 rfl ?_
      refine aw_get kg_X6_7 (by assumption) (by rfl) dX6_goes_14 ?_
      refine aw_iconst dX6_goes_17 ?_
      refine aw_iald (by assumption) (by omega) dX6_goes_18 ?_
      refine aw_val (w := aI ((t.length : Int) - 1)) (by rw [← x2]; rfl) ?_
      refine aw_icmp_ge (tgt := 46) dX6_goes_19 (by omega) (by omega) (by decide) (fun c1 => ?_) (fun c1 => ?_)
      · omega
      · refine aw_aload_n dX6_goes_22 rfl ?_
        refine aw_get kg_X6_7 (by assumption) (by rfl) dX6_goes_23 ?_
        refine aw_iconst dX6_goes_26 ?_
        refine aw_iload_n dX6_goes_27 rfl ?_
        refine aw_iadd dX6_goes_28 ?_
        refine aw_aload_n dX6_goes_29 rfl ?_
        refine aw_get kg_X6_7 (by assumption) (by rfl) dX6_goes_30 ?_
        refine aw_iconst dX6_goes_33 ?_
        refine aw_iload_n dX6_goes_34 rfl ?_
        refine aw_iadd dX6_goes_35 ?_
        refine aw_iconst dX6_goes_36 ?_
        refine aw_iadd dX6_goes_37 ?_
        refine aw_iald (by assumption) (by omega) dX6_goes_38 ?_
        -- at 39: .iastore
        refine aw_iastO (by assumption) (by omega) dX6_goes_39 (fun h2 b2 f2 => ?_)
        rw [show ((1 : Int) + (e : Int)).toNat = 1 + e by omega, show ((1 : Int) + (e : Int) + 1).toNat = 1 + (e + 1) by omega] at b2
        refine aw_iinc dX6_goes_40 rfl (by decide) ?_
        refine aw_goto (tgt := 12) dX6_goes_43 (by decide) ?_
        have K := ih (e + 1) h2 _ (by omega) (by omega) b2 ?_ (fun i hi => ?_) (fun i i1 i2 => ?_) (fun i hi => ?_) (fun j hj => (f2 j hj).trans (hfr j hj))
        · rw [show ((e + 1 : Nat) : Int) = (e : Int) + 1 by omega] at K
          exact K
        · rw [va_up_n _ _ _ (by omega)]; exact x2
        · by_cases z : i = e
          · rw [z, va_up_s, gd_erase, if_neg (by omega)]
            exact x4 (e + 1) (by omega) (by omega)
          · rw [va_up_n _ _ _ (by omega)]; exact x3 i (by omega)
        · rw [va_up_n _ _ _ (by omega)]; exact x4 i (by omega) i2
        · rw [va_up_n _ _ _ (by omega)]; exact x5 i hi
  refine aw_aload_n dX6_goes_0 rfl ?_
  refine aw_get kg_X6_7 (by assumption) (by rfl) dX6_goes_1 ?_
  refine aw_iconst dX6_goes_4 ?_
  refine aw_dup2 dX6_goes_5 rfl rfl ?_
  refine aw_iald (by assumption) (by omega) dX6_goes_6 ?_
  refine aw_val (w := aI (t.length : Int)) (by rw [← w0]; rfl) ?_
  refine aw_iconst dX6_goes_7 ?_
  refine aw_isub dX6_goes_8 ?_
  -- at 9: .iastore
  refine aw_iastO (by assumption) (by omega) dX6_goes_9 (fun h1 b1 f1 => ?_)
  refine aw_iload_n dX6_goes_10 rfl ?_
  refine aw_istore_n dX6_goes_11 (by decide) ?_
  refine loop (t.length - 1 - k) k h1 _ (by omega) (Nat.le_refl _) b1 (va_up_s ..) (fun i hi => ?_) (fun i i1 i2 => ?_) (fun i hi => ?_) f1
  · refine (va_up_n _ _ _ (by show 1 + i ≠ 0; omega)).trans ?_
    rw [gd_erase, if_pos hi]
    have := ht.2 i (by omega)
    rw [Nat.zero_add] at this
    exact this
  · refine (va_up_n _ _ _ (by show 1 + i ≠ 0; omega)).trans ?_
    have := ht.2 i i2
    rw [Nat.zero_add] at this
    exact this
  · exact va_up_n _ _ _ (by show i ≠ 0; omega)
theorem c6_comes {t : List Int} {v : Int} (hv : -2147483648 ≤ v ∧ v ≤ 2147483647) (hn : notIn t v) (h7 : t.length ≤ 7) (hM : h 52 = aO 6 (mdl u p q sn ls e1 e2 e3 e4 e5 e6 e7 e8)) (hW : h 53 = aA 0 117 W) (ht : inW W 0 t) (ok : inRow t) : AC mX6_comes d 0 0 n h [aR 52, aI v] (aqv n fun h' => (∃ W', h' 53 = aA 0 117 W' ∧ inW W' 0 (insL t v) ∧ ∀ i, 9 ≤ i → W' i = W i) ∧ ∀ j, j ≠ 53 → h' j = h j) := by
  refine AC.of (by decide) (Nat.le_of_ble_eq_true rfl) ?_
  have w0 : W 0 = (t.length : Int) := ht.1
  have fin : ∀ (k : Nat) (h1 : AH) (W1 : Nat → Int), k ≤ t.length → plL t v = k → h1 53 = aA 0 117 W1 → W1 0 = (t.length : Int) → (∀ i, i < k → W1 (1 + i) = t.getD i 0) → (∀ i, k ≤ i → i < t.length → W1 (2 + i) = t.getD i 0) → (∀ i, 9 ≤ i → W1 i = W i) → (∀ j, j ≠ 53 → h1 j = h j) → AW mX6_comes (am_R d 0 0) (am_Z (aqv n fun h' => (∃ W', h' 53 = aA 0 117 W' ∧ inW W' 0 (insL t v) ∧ ∀ i, 9 ≤ i → W' i = W i) ∧ ∀ j, j ≠ 53 → h' j = h j) 0 0) 0 0 n h1 49 [some (aR 52), some (aI v), some (aI (k : Int))] [] := by
    intro k h1 W1 hk hp x1 x2 x3 x4 x5 hfr
    have M1 := (hfr 52 (by omega)).trans hM
    refine aw_aload_n dX6_comes_49 rfl ?_
    refine aw_get kg_X6_7 (by assumption) (by rfl) dX6_comes_50 ?_
    refine aw_iconst dX6_comes_53 ?_
    refine aw_iload_n dX6_comes_54 rfl ?_
    refine aw_iadd dX6_comes_55 ?_
    refine aw_iload_n dX6_comes_56 rfl ?_
    -- at 57: .iastore
    refine aw_iastO (by assumption) (by omega) dX6_comes_57 (fun h2 b2 f2 => ?_)
    rw [show ((1 : Int) + (k : Int)).toNat = 1 + k by omega] at b2
    have M2 := (f2 52 (by omega)).trans M1
    refine aw_aload_n dX6_comes_58 rfl ?_
    refine aw_get kg_X6_7 (by assumption) (by rfl) dX6_comes_59 ?_
    refine aw_iconst dX6_comes_62 ?_
    refine aw_dup2 dX6_comes_63 rfl rfl ?_
    refine aw_iald (by assumption) (by omega) dX6_comes_64 ?_
    refine aw_val (w := aI (t.length : Int)) (by rw [← x2]; exact congrArg aI (va_up_n _ _ _ (by show 0 ≠ 1 + k; omega))) ?_
    refine aw_iconst dX6_comes_65 ?_
    refine aw_iadd dX6_comes_66 ?_
    -- at 67: .iastore
    refine aw_iastO (by assumption) (by omega) dX6_comes_67 (fun h3 b3 f3 => ?_)
    refine aw_vret rfl dX6_comes_68 ⟨rfl, rfl, ⟨_, b3, ⟨?_, fun i hi => ?_⟩, fun i hi => ?_⟩, fun j hj => (f3 j hj).trans ((f2 j hj).trans (hfr j hj))⟩
    · refine (va_up_s ..).trans ?_
      rw [insL_len]; omega
    · rw [insL_len] at hi
      rw [Nat.zero_add, insL_gd, hp]
      refine (va_up_n _ _ _ (by show 1 + i ≠ 0; omega)).trans ?_
      by_cases z : i = k
      · rw [z, va_up_s, if_neg (by omega), if_pos rfl]
      · rw [va_up_n _ _ _ (by omega)]
        by_cases y : i < k
        · rw [if_pos y]; exact x3 i y
        · rw [if_neg y, if_neg z]
          have := x4 (i - 1) (by omega) (by omega)
          rw [show 2 + (i - 1) = 1 + i by omega] at this
          exact this
    · refine (va_up_n _ _ _ (by show i ≠ 0; omega)).trans ?_
      rw [va_up_n _ _ _ (by omega)]
      exact x5 i hi
  have loop : ∀ (k : Nat) (h1 : AH) (W1 : Nat → Int), k ≤ t.length → plL t v = plc t v k → h1 53 = aA 0 117 W1 → W1 0 = (t.length : Int) → (∀ i, i < k → W1 (1 + i) = t.getD i 0) → (∀ i, k ≤ i → i < t.length → W1 (2 + i) = t.getD i 0) → (∀ i, 9 ≤ i → W1 i = W i) → (∀ j, j ≠ 53 → h1 j = h j) → AW mX6_comes (am_R d 0 0) (am_Z (aqv n fun h' => (∃ W', h' 53 = aA 0 117 W' ∧ inW W' 0 (insL t v) ∧ ∀ i, 9 ≤ i → W' i = W i) ∧ ∀ j, j ≠ 53 → h' j = h j) 0 0) 0 0 n h1 7 [some (aR 52), some (aI v), some (aI (k : Int))] [] := by
    intro k
    induction k with
    | zero =>
      intro h1 W1 hk hp x1 x2 x3 x4 x5 hfr
      refine aw_iload_n dX6_comes_7 rfl ?_
      -- at 8: .ifCond .le 41
      refine aw_if_le (tgt := 49) dX6_comes_8 (by omega) (by decide) (fun c1 => ?_) (fun c1 => ?_)
      · exact fin 0 h1 W1 hk hp x1 x2 x3 x4 x5 hfr
      · omega
    | succ k ih =>
      intro h1 W1 hk hp x1 x2 x3 x4 x5 hfr
      have M1 := (hfr 52 (by omega)).trans hM
      have tv := ok.2 k (by omega)
      have wk := x3 k (by omega)
      have nk := hn k (by omega)
      refine aw_iload_n dX6_comes_7 rfl ?_
      -- at 8: .ifCond .le 41
      refine aw_if_le (tgt := 49) dX6_comes_8 (by omega) (by decide) (fun c1 => ?_) (fun c1 => ?_)
      · omega
      · refine aw_aload_n dX6_comes_11 rfl ?_
        refine aw_get kg_X6_7 (by assumption) (by rfl) dX6_comes_12 ?_
        refine aw_iconst dX6_comes_15 ?_
        refine aw_iload_n dX6_comes_16 rfl ?_
        refine aw_iadd dX6_comes_17 ?_
        refine aw_iconst dX6_comes_18 ?_
        refine aw_isub dX6_comes_19 ?_
        refine aw_iald (by assumption) (by omega) dX6_comes_20 ?_
        refine aw_val (w := aI (t.getD k 0)) (by rw [← wk]; congr 2; omega) ?_
        refine aw_iload_n dX6_comes_21 rfl ?_
        -- at 22: .if_icmp .le 27
        refine aw_icmp_le (tgt := 49) dX6_comes_22 (by omega) (by omega) (by decide) (fun c2 => ?_) (fun c2 => ?_)
        · refine fin (k + 1) h1 W1 hk ?_ x1 x2 x3 x4 x5 hfr
          rw [hp, plc, if_neg (by omega)]
        · refine aw_aload_n dX6_comes_25 rfl ?_
          refine aw_get kg_X6_7 (by assumption) (by rfl) dX6_comes_26 ?_
          refine aw_iconst dX6_comes_29 ?_
          refine aw_iload_n dX6_comes_30 rfl ?_
          refine aw_iadd dX6_comes_31 ?_
          refine aw_aload_n dX6_comes_32 rfl ?_
          refine aw_get kg_X6_7 (by assumption) (by rfl) dX6_comes_33 ?_
          refine aw_iconst dX6_comes_36 ?_
          refine aw_iload_n dX6_comes_37 rfl ?_
          refine aw_iadd dX6_comes_38 ?_
          refine aw_iconst dX6_comes_39 ?_
          refine aw_isub dX6_comes_40 ?_
          refine aw_iald (by assumption) (by omega) dX6_comes_41 ?_
          refine aw_val (w := aI (t.getD k 0)) (by rw [← wk]; congr 2; omega) ?_
          refine aw_iastO (by assumption) (by omega) dX6_comes_42 (fun h2 b2 f2 => ?_)
          rw [show ((1 : Int) + ((k + 1 : Nat) : Int)).toNat = 2 + k by omega] at b2
          refine aw_iinc dX6_comes_43 rfl (by decide) ?_
          refine aw_goto (tgt := 7) dX6_comes_46 (by decide) ?_
          have K := ih h2 _ (by omega) (by rw [hp, plc, if_pos (by omega)]) b2 ((va_up_n _ _ _ (by omega)).trans x2) (fun i hi => (va_up_n _ _ _ (by omega)).trans (x3 i (by omega))) (fun i i1 i2 => ?_) (fun i hi => (va_up_n _ _ _ (by omega)).trans (x5 i hi)) (fun j hj => (f2 j hj).trans (hfr j hj))
          · rw [show (k : Int) = ((k + 1 : Nat) : Int) + -1 by omega] at K
            exact K
          · by_cases z : i = k
            · rw [z, va_up_s]
            · rw [va_up_n _ _ _ (by omega)]; exact x4 i (by omega) i2
  refine aw_aload_n dX6_comes_0 rfl ?_
  refine aw_get kg_X6_7 (by assumption) (by rfl) dX6_comes_1 ?_
  refine aw_iconst dX6_comes_4 ?_
  refine aw_iald (by assumption) (by omega) dX6_comes_5 ?_
  refine aw_val (w := aI (t.length : Int)) (by rw [← w0]; rfl) ?_
  refine aw_istore_n dX6_comes_6 (by decide) ?_
  refine loop t.length h W (Nat.le_refl _) rfl hW w0 (fun i hi => ?_) (fun i i1 i2 => by omega) (fun _ _ => rfl) (fun _ _ => rfl)
  have := ht.2 i hi
  rw [Nat.zero_add] at this
  exact this
end WOps
