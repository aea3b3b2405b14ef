/-! the row of multianewarray (over the whole library) -/
theorem out_eq (c : ClassId) (N h0 : Nat) : ∀ i : Nat, Jvm.Free.Multi.outerC c N h0 i = arrV c N (fun j => va_rf (if j < i then some (h0 + 1 + j) else none))
  | 0 => by
    show ({ cls := c, slots := Array.replicate N .null, vm := .none } : Cell) = _
    rw [arrV_new]
    refine congrArg (arrV c N) (funext fun j => ?_)
    rw [if_neg (by omega)]
    rfl
  | i + 1 => by
    show (Jvm.Free.Multi.outerC c N h0 i).setSlot i (.ref (h0 + 1 + i)) = _
    rw [out_eq c N h0 i, arrV_store]
    refine congrArg (arrV c N) (funext fun j => ?_)
    by_cases e : j = i
    · subst e
      rw [if_pos (by omega)]
      simp [updV, va_rf]
    · by_cases h : j < i
      · rw [if_pos (by omega)]
        simp [updV, e, h]
      · rw [if_neg (by omega)]
        simp [updV, e, h]
theorem arr_over {args : Array Value} {s : State} (h : (Cond.arrayOver (.array .int)).before args s = true) : ∃ cA, ArrOfT s cA (.array .int) ∧ s.vm.findClass ("[" ++ (FieldType.array .int).toString) = some cA := by
  obtain ⟨comp, c, k, h1, h2, h3, h4⟩ := Cond.arrayOver_specA h
  exact ⟨c, fun n z => ⟨fun k h => (by cases h), k, h2, comp, h3⟩, h4⟩
theorem name_II : "[" ++ (FieldType.array .int).toString = "[[I" := by decide +kernel
theorem name_I : (FieldType.array .int).toString = "[" ++ FieldType.int.toString := by decide +kernel
theorem clamp6 : (iI 6).toNatClampNeg = 6 := iI_clamp (a := 6) (by omega)
theorem clamp128 : (iI 128).toNatClampNeg = 128 := iI_clamp (a := 128) (by omega)
theorem aw_mna {M : AM} {R : Room} {Z : AZ} {cu su n : Nat} {h : AH} {pc : Nat} {L : List (Option AV)} {st : List AV} {idx : Nat} (hw : Cond.classLink M.1.cls idx "[[I" ∈ TT) (hd : decode M.2.1 pc = .ok (.multianewarray idx 2, 4)) (h1 : cu + 7 ≤ R.cells) (h2 : su + 774 ≤ R.slots) (kk : AW M R Z (cu + 7) (su + 774) (n + 7) (mna6 n h) (pc + 4) L (aR (n + 1) :: st)) : AW M R Z cu su n h pc L (aI 128 :: aI 6 :: st) := by
  intro p l e s m args below meth c G H locs ls C Wd hS hl
  have hts := C.2.2.2.2.2.2.2.1
  have hK := C.2.2.2.2.2.2.2.2.1
  have hclink : (Cond.classLink M.1.cls idx ("[" ++ (FieldType.array .int).toString)).before args s = true := by rw [name_II]; exact hts _ hw
  have n0 : ¬ iI 6 < 0 := fun q => by have := (iI_lt (a := 6) (b := 0) (by omega) (by omega)).mp q; omega
  have k0 : ¬ iI 128 < 0 := fun q => by have := (iI_lt (a := 128) (b := 0) (by omega) (by omega)).mp q; omega
  intro T hT X
  obtain ⟨vm₁, cA, comp, -, fA, fC, -, -, X', step⟩ := X.multianewarray2F C.1 (own := M.1.cls) (index := idx) (ty := .int) C.2.2.2.2.1 hclink hK.2.2.2 (hts _ ka_int) (g := F0 m pc ls (.int (iI 128) :: .int (iI 6) :: st.map (am_v G))) rfl (by rw [C.2.1]; exact hd) (n := iI 6) (k := iI 128) (rest := st.map (am_v G)) rfl n0 k0 (by rw [clamp6]; exact Nat.le_of_ble_eq_true rfl) (by rw [clamp128]; exact Nat.le_of_ble_eq_true rfl) (by rw [clamp128]; exact Nat.le_of_ble_eq_true rfl) rfl rfl (by rw [clamp6]; omega) (by rw [clamp6, clamp128]; omega)
  rw [clamp6, clamp128] at X' step
  have eA : cA = G.2.2.2.2.1 5 := am_arrT hK (t := 5) (ty := .array .int) rfl fA (fun C h => by cases h)
  have eC : comp = G.2.2.2.2.1 0 := am_arrT hK (t := 0) (ty := .int) rfl (by rw [← name_I]; exact fC) (fun C h => by cases h)
  subst eA
  subst eC
  have hTh : (T.setVm vm₁).heap = H := hT
  obtain ⟨f1, f2, -, -⟩ := Jvm.Free.Multi.fill_facts (T.setVm vm₁) (G.2.2.2.2.1 5) (G.2.2.2.2.1 0) 6 128 (defaultValue .int) 6
  have f3 : ∀ q : Nat, q < H.size → (Jvm.Free.Multi.fill (T.setVm vm₁) (G.2.2.2.2.1 5) (G.2.2.2.2.1 0) 6 128 (defaultValue .int) 6).heap[q]? = H[q]? := fun q hq => by
    have := Jvm.Free.Multi.fill_old (T.setVm vm₁) (G.2.2.2.2.1 5) (G.2.2.2.2.1 0) 6 128 (defaultValue .int) (a := q) (by rw [hTh]; exact hq) 6
    rw [hTh] at this
    exact this
  have f4 : ∀ j : Nat, j < 6 → (Jvm.Free.Multi.fill (T.setVm vm₁) (G.2.2.2.2.1 5) (G.2.2.2.2.1 0) 6 128 (defaultValue .int) 6).heap[H.size + 1 + j]? = some (arrV (G.2.2.2.2.1 0) 128 (fun _ => .int (iI 0))) := fun j hj => by
    have := Jvm.Free.Multi.fill_inner (T.setVm vm₁) (G.2.2.2.2.1 5) (G.2.2.2.2.1 0) 6 128 (defaultValue .int) 6 j hj
    rw [hTh] at this
    exact this.trans (congrArg some (arrV_new _ _ _))
  rw [hTh, out_eq] at f2
  rw [hTh] at f1
  generalize Jvm.Free.Multi.fill (T.setVm vm₁) (G.2.2.2.2.1 5) (G.2.2.2.2.1 0) 6 128 (defaultValue .int) 6 = F at X' step f1 f2 f3 f4
  have z : F.heap.size = H.size + 7 := by rw [f1]
  have Wd' : am_W G (n + 7) (mna6 n h) F.heap := by
    refine Wd.grow z f3 (fun i hi => mna6_n (Or.inl hi)) (fun i hi => (mna6_n (Or.inr hi)).trans (Wd.2.1.2 i (by omega))) (fun i hi => ?_)
    by_cases hi0 : i = 0
    · subst hi0
      show va_at (am_D G) vwCl (G.1 + n, am_e G (mna6 n h (n + 1))) F.heap
      rw [mna6_o, am_eq]
      show F.heap[G.1 + n]? = some (vp_cell (G.2.2.2.2.1 5) (6, .inr (.inr (.inr (.inr (fun j => (if j < 6 then some (n + 1 + j + 1) else none : Option Nat).map (am_adr G)))))))
      rw [vp_cell_q, ← Wd.1, f2]
      refine congrArg (fun g => some (arrV (G.2.2.2.2.1 5) 6 g)) (funext fun j => ?_)
      by_cases hj : j < 6
      · rw [if_pos hj, if_pos hj]
        show va_rf (some (H.size + 1 + j)) = va_rf (some (G.1 + (n + 1 + j)))
        rw [Wd.1]
        exact congrArg (fun a => va_rf (some a)) (by omega)
      · rw [if_neg hj, if_neg hj]
        rfl
    · rw [mna6_i (by omega) (by omega), am_ea (by decide)]
      show F.heap[G.1 + (n + i)]? = some (vp_cell (G.2.2.2.2.1 0) (128, .inl (fun _ => iI 0)))
      rw [vp_cell_i]
      have := f4 (i - 1) (by omega)
      rw [Wd.1, show G.1 + n + 1 + (i - 1) = G.1 + (n + i) by omega] at this
      exact this
  have hS' : va_S (fun q => G.1 ≤ q) s.heap F.heap locs := ⟨Nat.le_trans hS.1 (by omega), fun x h1 h2 => (f3 x (Nat.lt_of_lt_of_le h1 hS.1)).trans (hS.2.1 x h1 h2), hS.2.2⟩
  have X2 : Stand p l e R s m args below meth c F locs (cu + 7) (su + 774) := X'
  obtain ⟨t, a1, b1⟩ := kk p l e s m args below meth c G F.heap locs ls C Wd' hS' hl F rfl X2
  refine ⟨t, step t ?_, b1⟩
  have hsz : T.heap.size = G.1 + n := by rw [hT, Wd.1]
  rw [hsz]
  exact a1
theorem X0_made (d : Nat) (h : AH) (H : h 38 = aO 0 [aI 0, aI 0, aN, aN, aN]) : AC mX0_init (d + 4) 9 786 38 h [aR 38] (fun o n' h' => o = none ∧ n' = 47 ∧ finSt h' 2 3 ∧ ∀ j, j < 38 → h' j = h j) :=
  X0_open H (fun h1 h2 kk => aw_mna kn_X0_18 dX0_init_20 h1 h2 kk)
