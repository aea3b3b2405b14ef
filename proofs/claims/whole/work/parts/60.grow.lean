/-! an array of arrays made anew: the world behind it; the finder made anew over that row -/
theorem am_W.grow {G : AG} {n k : Nat} {h h' : AH} {H H1 : Heap} (w : am_W G n h H) (z : H1.size = H.size + k) (o : ∀ q : Nat, q < H.size → H1[q]? = H[q]?) (h0 : ∀ i, i ≤ n → h' i = h i) (hd : ∀ i, n + k < i → h' i = aDead) (hnew : ∀ i, i < k → va_at (am_D G) vwCl (G.1 + (n + i), am_e G (h' (n + i + 1))) H1) : am_W G (n + k) h' H1 := by
  refine ⟨by rw [z, w.1]; omega, ⟨(h0 0 (by omega)).trans w.2.1.1, hd⟩, fun j q hq => ?_⟩
  have h1 : j < n + k := by have := (List.getElem?_eq_some_iff.mp hq).1; simpa [am_ws] using this
  rw [am_get h1] at hq
  cases hq
  by_cases hk : j < n
  · rw [h0 (j + 1) (by omega)]
    refine (w.2.2 j _ (am_get hk)).kept (o _ ?_)
    rw [w.1]
    show G.1 + j < G.1 + n
    omega
  · have := hnew (j - n) (by omega)
    rw [show n + (j - n) = j by omega] at this
    exact this
def mna6 (n : Nat) (h : AH) : AH := fun i => if i = n + 1 then aQ 5 6 (fun j => if j < 6 then some (n + 1 + j + 1) else none) else if n + 1 < i ∧ i ≤ n + 7 then aA 0 128 (fun _ => 0) else h i
theorem mna6_o (n : Nat) (h : AH) : mna6 n h (n + 1) = aQ 5 6 (fun j => if j < 6 then some (n + 1 + j + 1) else none) := if_pos rfl
theorem mna6_i {n : Nat} {h : AH} {i : Nat} (h1 : n + 1 < i) (h2 : i ≤ n + 7) : mna6 n h i = aA 0 128 (fun _ => 0) := by
  show (if i = n + 1 then _ else if n + 1 < i ∧ i ≤ n + 7 then _ else _) = _
  rw [if_neg (by omega), if_pos ⟨h1, h2⟩]
theorem mna6_n {n : Nat} {h : AH} {i : Nat} (h1 : i ≤ n ∨ n + 7 < i) : mna6 n h i = h i := by
  show (if i = n + 1 then _ else if n + 1 < i ∧ i ≤ n + 7 then _ else _) = _
  rw [if_neg (by omega), if_neg (by omega)]
theorem X0_open {d : Nat} {h : AH} (H : h 38 = aO 0 [aI 0, aI 0, aN, aN, aN])
    (hm : ∀ {R : Room} {Z : AZ} {cu su : Nat} {h : AH} {L : List (Option AV)} {st : List AV}, cu + 7 ≤ R.cells → su + 774 ≤ R.slots → AW mX0_init R Z (cu + 7) (su + 774) (38 + 7) (mna6 38 h) 24 L (aR 39 :: st) → AW mX0_init R Z cu su 38 h 20 L (aI 128 :: aI 6 :: st)) :
    AC mX0_init (d + 4) 9 786 38 h [aR 38] (fun o n' h' => o = none ∧ n' = 47 ∧ finSt h' 2 3 ∧ ∀ j, j < 38 → h' j = h j) := by
  refine AC.of (by decide) (Nat.le_of_ble_eq_true rfl) ?_
  refine aw_aload_n dX0_init_0 rfl ?_
  refine aw_objInit kc_X0_3 ks_obj kd_obj (Nat.le_of_ble_eq_true rfl) (by show 1 ≤ d + 4; omega) (by show 20 ≤ 64 * (d + 4); omega) dX0_init_1 ?_
  refine aw_aload_n dX0_init_4 rfl ?_
  refine aw_iconst dX0_init_5 ?_
  -- at 6: .putfield 9
  refine aw_putO kp_X0_9 (by assumption) (by simp) (aw_ni _) dX0_init_6 (fun h1 x1 y1 => ?_)
  have x1 : h1 38 = aO 0 [aI 2, aI 0, aN, aN, aN] := x1
  refine aw_aload_n dX0_init_9 rfl ?_
  refine aw_iconst dX0_init_10 ?_
  -- at 11: .putfield 15
  refine aw_putO kp_X0_15 (by assumption) (by simp) (aw_ni _) dX0_init_11 (fun h2 x2 y2 => ?_)
  have x2 : h2 38 = aO 0 [aI 2, aI 3, aN, aN, aN] := x2
  refine aw_aload_n dX0_init_14 rfl ?_
  refine aw_bipush dX0_init_15 (by decide) ?_
  refine aw_sipush dX0_init_17 (by decide) ?_
  -- at 20: .multianewarray 18 2
  refine hm (Nat.le_of_ble_eq_true rfl) (Nat.le_of_ble_eq_true rfl) ?_
  have b0 : mna6 38 h2 38 = aO 0 [aI 2, aI 3, aN, aN, aN] := (mna6_n (Or.inl (by omega))).trans x2
  refine aw_putFO kp_X0_20 rfl (by assumption) (by simp) (aw_na _ _) dX0_init_24 (fun h3 x3 y3 => ?_)
  have x3 : h3 38 = aO 0 [aI 2, aI 3, aR 39, aN, aN] := x3
  refine aw_aload_n dX0_init_27 rfl ?_
  refine aw_bipush dX0_init_28 (by decide) ?_
  -- at 30: .newarray .int
  refine aw_newI ka_int (by decide) (Nat.le_of_ble_eq_true rfl) (Nat.le_of_ble_eq_true rfl) dX0_init_30 ?_
  have b1 : va_up h3 46 (aA 0 (6 : Int).toNat (fun _ => 0)) 38 = aO 0 [aI 2, aI 3, aR 39, aN, aN] := (va_up_n _ _ _ (by omega)).trans x3
  refine aw_putFO kp_X0_23 rfl (by assumption) (by simp) (aw_na _ _) dX0_init_32 (fun h4 x4 y4 => ?_)
  have x4 : h4 38 = aO 0 [aI 2, aI 3, aR 39, aR 46, aN] := x4
  refine aw_aload_n dX0_init_35 rfl ?_
  refine aw_bipush dX0_init_36 (by decide) ?_
  -- at 38: .newarray .boolean
  refine aw_newZ ka_boolean (by decide) (Nat.le_of_ble_eq_true rfl) (Nat.le_of_ble_eq_true rfl) dX0_init_38 ?_
  have b2 : va_up h4 47 (aA 1 (6 : Int).toNat (fun _ => 0)) 38 = aO 0 [aI 2, aI 3, aR 39, aR 46, aN] := (va_up_n _ _ _ (by omega)).trans x4
  refine aw_putFO kp_X0_27 rfl (by assumption) (by simp) (aw_na _ _) dX0_init_40 (fun h5 x5 y5 => ?_)
  have x5 : h5 38 = aO 0 [aI 2, aI 3, aR 39, aR 46, aR 47] := x5
  have f5 : ∀ j, j ≠ 38 → j ≠ 47 → h5 j = h4 j := fun j j1 j2 => (y5 j j1).trans (va_up_n _ _ _ j2)
  have f4 : ∀ j, j ≠ 38 → j ≠ 46 → h4 j = h3 j := fun j j1 j2 => (y4 j j1).trans (va_up_n _ _ _ j2)
  have f3 : ∀ j, j ≠ 38 → j ≠ 46 → j ≠ 47 → h5 j = mna6 38 h2 j := fun j j1 j2 j3 => (f5 j j1 j3).trans ((f4 j j1 j2).trans (y3 j j1))
  refine aw_vret rfl dX0_init_43 ⟨rfl, rfl, ⟨x5, ⟨_, (f3 39 (by omega) (by omega) (by omega)).trans (mna6_o 38 h2), fun i hi => ?_⟩, _, _, (f5 46 (by omega) (by omega)).trans ((y4 46 (by omega)).trans (va_up_s ..)), (y5 47 (by omega)).trans (va_up_s ..), fun i hi => ⟨_, (f3 (40 + i) (by omega) (by omega) (by omega)).trans (mna6_i (by omega) (by omega)), Or.inl rfl⟩⟩, fun j hj => ?_⟩
  · rw [if_pos hi]
    exact congrArg some (by omega)
  · exact (f3 j (by omega) (by omega) (by omega)).trans ((mna6_n (Or.inl (by omega))).trans ((y2 j (by omega)).trans (y1 j (by omega))))
