/-! the history: sums as they were -/
def okPast (past : List (List Int)) : Prop := past.length ≤ 10 ∧ ∀ l, l ∈ past → inRow l ∧ rising l
/-- the ten rows: which cell is which -/
def isRows (h : AH) (r : Nat → Nat) (cont : Nat → List Int) : Prop := (∃ g, h 11 = aQ 4 10 g ∧ ∀ i, i < 10 → g i = some (r i)) ∧ (∀ i, i < 10 → 12 ≤ r i ∧ r i ≤ 30 ∧ r i % 2 = 0) ∧ (∀ i j, i < 10 → j < 10 → r i = r j → i = j) ∧ ∀ i, i < 10 → isRow h (r i) (r i + 1) (cont i)
def isHist (h : AH) (past : List (List Int)) : Prop := h 10 = aO 1 [aR 11, aI (past.length : Int)] ∧ ∃ r cont, isRows h r cont ∧ ∀ i, i < past.length → cont i = past.getD i []
theorem isRows.fr {h h' : AH} {r : Nat → Nat} {cont : Nat → List Int} (H : isRows h r cont) (hf : ∀ j, 11 ≤ j → j ≤ 31 → h' j = h j) : isRows h' r cont := by
  obtain ⟨⟨g, a1, a2⟩, a3, a4, a5⟩ := H
  refine ⟨⟨g, (hf 11 (by omega) (by omega)).trans a1, a2⟩, a3, a4, fun i hi => ?_⟩
  have := a3 i hi
  exact (a5 i hi).fr (hf _ (by omega) (by omega)) (hf _ (by omega) (by omega))
theorem isHist.fr {h h' : AH} {past : List (List Int)} (H : isHist h past) (hf : ∀ j, 10 ≤ j → j ≤ 31 → h' j = h j) : isHist h' past := by
  obtain ⟨a1, r, cont, a2, a3⟩ := H
  exact ⟨(hf 10 (by omega) (by omega)).trans a1, r, cont, a2.fr (fun j j1 j2 => hf j (by omega) j2), a3⟩
def storeS (past : List (List Int)) (l : List Int) : List (List Int) := (if past.length = 10 then past.drop 1 else past) ++ [l]
theorem okPast.store {past : List (List Int)} {l : List Int} (H : okPast past) (hl : inRow l ∧ rising l) : okPast (storeS past l) := by
  obtain ⟨h1, h2⟩ := H
  unfold storeS
  split
  · refine ⟨by simp; omega, fun x hx => ?_⟩
    rcases List.mem_append.mp hx with z | z
    · exact h2 x (List.mem_of_mem_drop z)
    · rw [List.mem_singleton] at z; rw [z]; exact hl
  · refine ⟨by simp; omega, fun x hx => ?_⟩
    rcases List.mem_append.mp hx with z | z
    · exact h2 x z
    · rw [List.mem_singleton] at z; rw [z]; exact hl
theorem gp_app (A : List (List Int)) (l : List Int) (i : Nat) : (A ++ [l]).getD i [] = if i < A.length then A.getD i [] else if i = A.length then l else [] := by
  rw [List.getD_eq_getElem?_getD, List.getD_eq_getElem?_getD]
  by_cases z : i < A.length
  · rw [if_pos z, List.getElem?_append_left z]
  · rw [if_neg z, List.getElem?_append_right (by omega)]
    by_cases y : i = A.length
    · rw [if_pos y, y]; simp
    · rw [if_neg y, List.getElem?_eq_none (by simp; omega)]; rfl
theorem gp_drop (A : List (List Int)) (i : Nat) : (A.drop 1).getD i [] = A.getD (i + 1) [] := by
  rw [List.getD_eq_getElem?_getD, List.getD_eq_getElem?_getD, List.getElem?_drop, Nat.add_comm]
section History
variable {d n : Nat} {h : AH} {past : List (List Int)}
theorem c_Hist_length (H : isHist h past) : AC mX1_length d 0 0 n h [aR 10] (aqi n fun v h' => v = (past.length : Int) ∧ h' = h) := by
  refine AC.of (by decide) (Nat.le_of_ble_eq_true rfl) ?_
  have a1 := H.1
  refine aw_aload_n dX1_length_0 rfl ?_
  refine aw_get kg_X1_17 (by assumption) (by rfl) dX1_length_1 ?_
  -- at 4: .ireturn
  exact aw_iret rfl dX1_length_4 ⟨rfl, _, rfl, rfl, rfl⟩
theorem c_Hist_wipe (H : isHist h past) : AC mX1_wipe d 0 0 n h [aR 10] (aqv n fun h' => isHist h' [] ∧ ∀ j, j ≠ 10 → h' j = h j) := by
  refine AC.of (by decide) (Nat.le_of_ble_eq_true rfl) ?_
  obtain ⟨a1, r, cont, a2, a3⟩ := H
  refine aw_aload_n dX1_wipe_0 rfl ?_
  refine aw_iconst dX1_wipe_1 ?_
  -- at 2: .putfield 17
  refine aw_putO kp_X1_17 (by assumption) (by simp) (aw_ni _) dX1_wipe_2 (fun h1 b1 f1 => ?_)
  exact aw_vret rfl dX1_wipe_5 ⟨rfl, rfl, ⟨b1, r, cont, a2.fr (fun j j1 j2 => f1 j (by omega)), fun i hi => absurd hi (by simp)⟩, f1⟩
theorem c_lose {r : Nat → Nat} {cont : Nat → List Int} (a1 : h 10 = aO 1 [aR 11, aI 10]) (H : isRows h r cont) : AC mX1_loseOldest d 0 0 n h [aR 10] (aqv n fun h' => h' 10 = aO 1 [aR 11, aI 9] ∧ isRows h' (fun i => if i < 9 then r (i + 1) else r 0) (fun i => if i < 9 then cont (i + 1) else cont 0) ∧ ∀ j, j ≠ 10 → j ≠ 11 → h' j = h j) := by
  refine AC.of (by decide) (Nat.le_of_ble_eq_true rfl) ?_
  obtain ⟨⟨g, a2, a3⟩, a4, a5, a6⟩ := H
  have r0 := a4 0 (by omega)
  refine aw_aload_n dX1_loseOldest_0 rfl ?_
  refine aw_get kg_X1_11 (by assumption) (by rfl) dX1_loseOldest_1 ?_
  refine aw_iconst dX1_loseOldest_4 ?_
  refine aw_aaldR a2 (by omega) (a3 0 (by omega)) dX1_loseOldest_5 ?_
  refine aw_astore_n dX1_loseOldest_6 (by decide) ?_
  refine aw_aload_n dX1_loseOldest_7 rfl ?_
  refine aw_dup dX1_loseOldest_8 rfl ?_
  refine aw_get kg_X1_17 (by assumption) (by rfl) dX1_loseOldest_9 ?_
  refine aw_iconst dX1_loseOldest_12 ?_
  refine aw_isub dX1_loseOldest_13 ?_
  -- at 14: .putfield 17
  refine aw_putO kp_X1_17 (by assumption) (by simp) (aw_ni _) dX1_loseOldest_14 (fun h1 b1 f1 => ?_)
  have b1 : h1 10 = aO 1 [aR 11, aI 9] := b1
  have loop : ∀ (c k : Nat) (h2 : AH) (g2 : Nat → Option Nat), k + c = 9 → h2 10 = aO 1 [aR 11, aI 9] → h2 11 = aQ 4 10 g2 → (∀ i, i < k → g2 i = some (r (i + 1))) → (∀ i, k ≤ i → i < 10 → g2 i = some (r i)) → (∀ j, j ≠ 11 → h2 j = h1 j) → AW mX1_loseOldest (am_R d 0 0) (am_Z (aqv n fun h' => h' 10 = aO 1 [aR 11, aI 9] ∧ isRows h' (fun i => if i < 9 then r (i + 1) else r 0) (fun i => if i < 9 then cont (i + 1) else cont 0) ∧ ∀ j, j ≠ 10 → j ≠ 11 → h' j = h j) 0 0) 0 0 n h2 19 [some (aR 10), some (aR (r 0)), some (aI (k : Int))] [] := by
    intro c
    induction c with
    | zero =>
      intro k h2 g2 hk e1 e2 e3 e4 hfr
      have q0 := (hfr (r 0) (by omega)).trans ((f1 (r 0) (by omega)).trans (a6 0 (by omega)).1)
      refine aw_iload_n dX1_loseOldest_19 rfl ?_
      refine aw_aload_n dX1_loseOldest_20 rfl ?_
      refine aw_get kg_X1_17 (by assumption) (by rfl) dX1_loseOldest_21 ?_
      -- at 24: .if_icmp .ge 23
      refine aw_icmp_ge (tgt := 47) dX1_loseOldest_24 (by omega) (by omega) (by decide) (fun c1 => ?_) (fun c1 => ?_)
      · refine aw_aload_n dX1_loseOldest_47 rfl ?_
        refine aw_get kg_X1_11 (by assumption) (by rfl) dX1_loseOldest_48 ?_
        refine aw_aload_n dX1_loseOldest_51 rfl ?_
        refine aw_get kg_X1_17 (by assumption) (by rfl) dX1_loseOldest_52 ?_
        refine aw_aload_n dX1_loseOldest_55 rfl ?_
        refine aw_aast e2 (by omega) q0 dX1_loseOldest_56 ?_
        refine aw_vret rfl dX1_loseOldest_57 ⟨rfl, rfl, ?_, ⟨⟨_, va_up_s .., fun i hi => ?_⟩, fun i hi => ?_, fun i j hi hj e => ?_, fun i hi => ?_⟩, fun j j1 j2 => ?_⟩
        · rw [va_up_n _ _ _ (by omega)]; exact e1
        · show va_up g2 9 (some (r 0)) i = some (if i < 9 then r (i + 1) else r 0)
          by_cases z : i < 9
          · rw [va_up_n _ _ _ (by omega), if_pos z]; exact e3 i (by omega)
          · rw [if_neg z, show i = 9 by omega, va_up_s]
        · dsimp only
          split
          · exact a4 _ (by omega)
          · exact r0
        · dsimp only at e
          by_cases z1 : i < 9
          · by_cases z2 : j < 9
            · rw [if_pos z1, if_pos z2] at e
              have := a5 _ _ (by omega) (by omega) e
              omega
            · rw [if_pos z1, if_neg z2] at e
              have := a5 _ _ (by omega) (by omega) e
              omega
          · by_cases z2 : j < 9
            · rw [if_neg z1, if_pos z2] at e
              have := a5 _ _ (by omega) (by omega) e
              omega
            · omega
        · have key : ∀ m, m < 10 → isRow (va_up h2 11 (aQ 4 10 (va_up g2 (9 : Int).toNat (some (r 0))))) (r m) (r m + 1) (cont m) := by
            intro m hm
            have := a4 m hm
            refine (a6 m hm).fr ?_ ?_
            · rw [va_up_n _ _ _ (by omega)]; exact (hfr _ (by omega)).trans (f1 _ (by omega))
            · rw [va_up_n _ _ _ (by omega)]; exact (hfr _ (by omega)).trans (f1 _ (by omega))
          dsimp only
          by_cases z : i < 9
          · rw [if_pos z, if_pos z]; exact key (i + 1) (by omega)
          · rw [if_neg z, if_neg z]; exact key 0 (by omega)
        · rw [va_up_n _ _ _ j2]; exact (hfr j j2).trans (f1 j j1)
      · omega
    | succ c ih =>
      intro k h2 g2 hk e1 e2 e3 e4 hfr
      have rk := a4 (k + 1) (by omega)
      have qk := (hfr (r (k + 1)) (by omega)).trans ((f1 (r (k + 1)) (by omega)).trans (a6 (k + 1) (by omega)).1)
      refine aw_iload_n dX1_loseOldest_19 rfl ?_
      refine aw_aload_n dX1_loseOldest_20 rfl ?_
      refine aw_get kg_X1_17 (by assumption) (by rfl) dX1_loseOldest_21 ?_
      -- at 24: .if_icmp .ge 23
      refine aw_icmp_ge (tgt := 47) dX1_loseOldest_24 (by omega) (by omega) (by decide) (fun c1 => ?_) (fun c1 => ?_)
      · omega
      · refine aw_aload_n dX1_loseOldest_27 rfl ?_
        refine aw_get kg_X1_11 (by assumption) (by rfl) dX1_loseOldest_28 ?_
        refine aw_iload_n dX1_loseOldest_31 rfl ?_
        refine aw_aload_n dX1_loseOldest_32 rfl ?_
        refine aw_get kg_X1_11 (by assumption) (by rfl) dX1_loseOldest_33 ?_
        refine aw_iload_n dX1_loseOldest_36 rfl ?_
        refine aw_iconst dX1_loseOldest_37 ?_
        refine aw_iadd dX1_loseOldest_38 ?_
        refine aw_aaldR e2 (by omega) (q := r (k + 1)) (by rw [show ((k : Int) + 1).toNat = k + 1 by omega]; exact e4 (k + 1) (by omega) (by omega)) dX1_loseOldest_39 ?_
        refine aw_aast e2 (by omega) qk dX1_loseOldest_40 ?_
        rw [Int.toNat_natCast]
        refine aw_iinc dX1_loseOldest_41 rfl (by decide) ?_
        refine aw_goto (tgt := 19) dX1_loseOldest_44 (by decide) ?_
        have K := ih (k + 1) (va_up h2 11 (aQ 4 10 (va_up g2 k (some (r (k + 1)))))) (va_up g2 k (some (r (k + 1)))) (by omega) ((va_up_n _ _ _ (by omega)).trans e1) (va_up_s ..) (fun i hi => ?_) (fun i i1 i2 => ?_) (fun j hj => (va_up_n _ _ _ hj).trans (hfr j hj))
        · rw [show ((k + 1 : Nat) : Int) = (k : Int) + 1 by omega] at K
          exact K
        · by_cases z : i = k
          · rw [z, va_up_s]
          · rw [va_up_n _ _ _ z]; exact e3 i (by omega)
        · rw [va_up_n _ _ _ (by omega)]; exact e4 i (by omega) i2
  refine aw_iconst dX1_loseOldest_17 ?_
  refine aw_istore_n dX1_loseOldest_18 (by decide) ?_
  exact loop 9 0 h1 g rfl b1 ((f1 11 (by omega)).trans a2) (fun i hi => by omega) (fun i _ hi => a3 i hi) (fun _ _ => rfl)
theorem c_store {r0 ra : Nat} {l : List Int} (H : isHist h past) (hp : okPast past) (HR : isRow h r0 ra l) (hl : inRow l) (hr : r0 < 10 ∧ ra < 10) : AC mX1_store (d + 2) 0 0 n h [aR 10, aR r0] (aqv n fun h' => isHist h' (storeS past l) ∧ ∀ j, (j < 10 ∨ 31 < j) → h' j = h j) := by
  refine AC.of (by decide) (Nat.le_of_ble_eq_true rfl) ?_
  obtain ⟨a1, r, cont, a2, a3⟩ := H
  have hr0 := HR.1
  have hp10 := hp.1
  -- behind the loss
  have rest : ∀ (h1 : AH) (past1 : List (List Int)) (r1 : Nat → Nat) (c1 : Nat → List Int), past1.length < 10 → past1 ++ [l] = storeS past l → h1 10 = aO 1 [aR 11, aI (past1.length : Int)] → isRows h1 r1 c1 → (∀ i, i < past1.length → c1 i = past1.getD i []) → (∀ j, j ≠ 10 → j ≠ 11 → h1 j = h j) → AW mX1_store (am_R (d + 2) 0 0) (am_Z (aqv n fun h' => isHist h' (storeS past l) ∧ ∀ j, (j < 10 ∨ 31 < j) → h' j = h j) 0 0) 0 0 n h1 13 [some (aR 10), some (aR r0)] [] := by
    intro h1 past1 r1 c1 hlen es b1 b2 b3 hfr
    obtain ⟨⟨g, x1, x2⟩, x3, x4, x5⟩ := b2
    have rr := x3 past1.length (by omega)
    have HR1 := HR.fr (hfr r0 (by omega) (by omega)) (hfr ra (by omega) (by omega))
    have q5 := x5 past1.length (by omega)
    have q51 := q5.1
    refine aw_aload_n dX1_store_13 rfl ?_
    refine aw_get kg_X1_11 (by assumption) (by rfl) dX1_store_14 ?_
    refine aw_aload_n dX1_store_17 rfl ?_
    refine aw_get kg_X1_17 (by assumption) (by rfl) dX1_store_18 ?_
    refine aw_aaldR x1 (by omega) (x2 _ (by omega)) dX1_store_21 ?_
    rw [Int.toNat_natCast]
    refine aw_aload_n dX1_store_22 rfl ?_
    -- at 23: .invokevirtual 25
    refine aw_Vv1 kc_X1_25 (c_Row_copy (d := d) q5 HR1 hl (by omega) (by omega)) (by assumption) rfl rfl (by omega) (Nat.le_of_ble_eq_true rfl) dX1_store_23 (fun h2 q1 => ?_)
    obtain ⟨q2, q3⟩ := q1
    have b1' := (q3 10 (by omega) (by omega)).trans b1
    refine aw_aload_n dX1_store_26 rfl ?_
    refine aw_dup dX1_store_27 rfl ?_
    refine aw_get kg_X1_17 (by assumption) (by rfl) dX1_store_28 ?_
    refine aw_iconst dX1_store_31 ?_
    refine aw_iadd dX1_store_32 ?_
    -- at 33: .putfield 17
    refine aw_putO kp_X1_17 (by assumption) (by simp) (aw_ni _) dX1_store_33 (fun h3 b4 f4 => ?_)
    have b4 : h3 10 = aO 1 [aR 11, aI ((past1.length : Int) + 1)] := b4
    refine aw_vret rfl dX1_store_36 ⟨rfl, rfl, ?_, fun j hj => (f4 j (by omega)).trans ((q3 j (by omega) (by omega)).trans (hfr j (by omega) (by omega)))⟩
    rw [← es]
    refine ⟨by rw [b4]; simp, r1, fun i => if i = past1.length then l else c1 i, ⟨⟨g, (f4 11 (by omega)).trans ((q3 11 (by omega) (by omega)).trans x1), x2⟩, x3, x4, fun i hi => ?_⟩, fun i hi => ?_⟩
    · dsimp only
      have ri := x3 i hi
      by_cases z : i = past1.length
      · rw [if_pos z, z]
        exact q2.fr (f4 _ (by omega)) (f4 _ (by omega))
      · rw [if_neg z]
        have ne : r1 i ≠ r1 past1.length := fun e => z (x4 i _ hi (by omega) e)
        exact (x5 i hi).fr ((f4 _ (by omega)).trans (q3 _ (by omega) (by omega))) ((f4 _ (by omega)).trans (q3 _ (by omega) (by omega)))
    · simp at hi
      dsimp only
      rw [gp_app]
      by_cases z : i = past1.length
      · rw [if_pos z, if_neg (by omega), if_pos z]
      · rw [if_neg z, if_pos (by omega)]; exact b3 i (by omega)
  refine aw_aload_n dX1_store_0 rfl ?_
  refine aw_get kg_X1_17 (by assumption) (by rfl) dX1_store_1 ?_
  refine aw_bipush dX1_store_4 (by decide) ?_
  -- at 6: .if_icmp .ne 7
  refine aw_icmp_ne (tgt := 13) dX1_store_6 (by omega) (by omega) (by decide) (fun c1 => ?_) (fun c1 => ?_)
  · exact rest h past r cont (by omega) (by rw [storeS, if_neg (by omega)]) a1 a2 a3 (fun _ _ _ => rfl)
  · have e10 : past.length = 10 := by omega
    rw [e10] at a1
    refine aw_aload_n dX1_store_9 rfl ?_
    -- at 10: .invokevirtual 22
    refine aw_Vv0 kc_X1_22 (c_lose (d := d + 1) a1 a2) (by assumption) rfl rfl (by omega) (Nat.le_of_ble_eq_true rfl) dX1_store_10 (fun h1 q1 => ?_)
    obtain ⟨q1, q2, q3⟩ := q1
    refine rest h1 (past.drop 1) _ _ (by simp; omega) (by rw [storeS, if_pos e10]) (by rw [q1]; simp; omega) q2 (fun i hi => ?_) q3
    simp at hi
    rw [if_pos (by omega), gp_drop]
    exact a3 (i + 1) (by omega)
theorem dropLast_gp (A : List (List Int)) (i : Nat) (h : i < A.length - 1) : A.dropLast.getD i [] = A.getD i [] := by
  rw [List.getD_eq_getElem?_getD, List.getD_eq_getElem?_getD, List.getElem?_dropLast, if_pos h]
theorem c_restore {r0 ra : Nat} {l : List Int} (H : isHist h past) (hp : okPast past) (HR : isRow h r0 ra l) (hr : r0 < 10 ∧ ra < 10) : AC mX1_restore (d + 2) 0 0 n h [aR 10, aR r0] (aqi n fun v h' => (past.length = 0 ∧ v = 0 ∧ h' = h) ∨ (0 < past.length ∧ v = 1 ∧ isHist h' past.dropLast ∧ isRow h' r0 ra (past.getD (past.length - 1) []) ∧ ∀ j, j ≠ r0 → j ≠ ra → j ≠ 10 → h' j = h j)) := by
  refine AC.of (by decide) (Nat.le_of_ble_eq_true rfl) ?_
  obtain ⟨a1, r, cont, a2, a3⟩ := H
  have hr0 := HR.1
  have hp10 := hp.1
  refine aw_aload_n dX1_restore_0 rfl ?_
  refine aw_get kg_X1_17 (by assumption) (by rfl) dX1_restore_1 ?_
  -- at 4: .ifCond .ne 5
  refine aw_if_ne (tgt := 9) dX1_restore_4 (by omega) (by decide) (fun c1 => ?_) (fun c1 => ?_)
  rotate_left
  · refine aw_iconst dX1_restore_7 ?_
    -- at 8: .ireturn
    exact aw_zret rfl dX1_restore_8 (by omega) ⟨rfl, _, rfl, Or.inl ⟨by omega, rfl, rfl⟩⟩
  · refine aw_aload_n dX1_restore_9 rfl ?_
    refine aw_dup dX1_restore_10 rfl ?_
    refine aw_get kg_X1_17 (by assumption) (by rfl) dX1_restore_11 ?_
    refine aw_iconst dX1_restore_14 ?_
    refine aw_isub dX1_restore_15 ?_
    -- at 16: .putfield 17
    refine aw_putO kp_X1_17 (by assumption) (by simp) (aw_ni _) dX1_restore_16 (fun h1 b1 f1 => ?_)
    have b1 : h1 10 = aO 1 [aR 11, aI ((past.length : Int) - 1)] := b1
    have HR1 := HR.fr (f1 r0 (by omega)) (f1 ra (by omega))
    have a2' := a2.fr (h' := h1) (fun j j1 j2 => f1 j (by omega))
    obtain ⟨⟨g, x1, x2⟩, x3, x4, x5⟩ := a2'
    have rr := x3 (past.length - 1) (by omega)
    have q5 := x5 (past.length - 1) (by omega)
    rw [a3 _ (by omega)] at q5
    have hin : inRow (past.getD (past.length - 1) []) := by
      rw [List.getD_eq_getElem?_getD, List.getElem?_eq_getElem (show past.length - 1 < past.length by omega)]
      exact (hp.2 _ (List.getElem_mem _)).1
    have q51 := HR1.1
    refine aw_aload_n dX1_restore_19 rfl ?_
    refine aw_aload_n dX1_restore_20 rfl ?_
    refine aw_get kg_X1_11 (by assumption) (by rfl) dX1_restore_21 ?_
    refine aw_aload_n dX1_restore_24 rfl ?_
    refine aw_get kg_X1_17 (by assumption) (by rfl) dX1_restore_25 ?_
    refine aw_aaldR x1 (by omega) (q := r (past.length - 1)) (by rw [show ((past.length : Int) - 1).toNat = past.length - 1 by omega]; exact x2 _ (by omega)) dX1_restore_28 ?_
    refine aw_Vv1 kc_X1_25 (c_Row_copy (d := d) HR1 q5 hin (by omega) (by omega)) (by assumption) rfl rfl (by omega) (Nat.le_of_ble_eq_true rfl) dX1_restore_29 (fun h2 q1 => ?_)
    obtain ⟨q2, q3⟩ := q1
    refine aw_iconst dX1_restore_32 ?_
    -- at 33: .ireturn
    refine aw_zret rfl dX1_restore_33 (by omega) ⟨rfl, _, rfl, Or.inr ⟨by omega, rfl, ⟨?_, r, cont, isRows.fr ⟨⟨g, x1, x2⟩, x3, x4, x5⟩ (fun j j1 j2 => q3 j (by omega) (by omega)), fun i hi => ?_⟩, q2, fun j j1 j2 j3 => (q3 j j1 j2).trans (f1 j j3)⟩⟩
    · rw [q3 10 (by omega) (by omega), b1]
      simp
      omega
    · simp at hi
      rw [dropLast_gp _ _ hi]
      exact a3 i (by omega)
end History
