/-! rows of the abstract machine: what is made, the library's own methods, the script -/
section AWM
variable {M : AM} {R : Room} {Z : AZ} {cu su n : Nat} {h : AH} {pc : Nat} {L : List (Option AV)} {st : List AV} {idx : Nat}
theorem am_Sx {A : Nat → Prop} {H0 H H1 : Heap} {locs : List Loc} (hS : va_S A H0 H locs) (z : H1.size = H.size + 1) (o : ∀ q : Nat, q < H.size → H1[q]? = H[q]?) : va_S A H0 H1 locs := ⟨Nat.le_trans hS.1 (by omega), fun x h1 h2 => (o x (Nat.lt_of_lt_of_le h1 hS.1)).trans (hS.2.1 x h1 h2), hS.2.2⟩
theorem aw_objInit {r : Nat} (h1 : Cond.methodLink M.1.cls idx objectInit ∈ TT) (h2 : Cond.instanceMethod objectInit ∈ TT) (h3 : Cond.code objectInit ⟨#[0xb1]⟩ 1 none ∈ TT) (hw : (st.map am_cat).sum ≤ 8) (hf : 1 ≤ R.frames) (hlo : 20 ≤ R.locals) (hd : decode M.2.1 pc = .ok (.invokespecial idx, 3)) (kk : AW M R Z cu su n h (pc + 3) L st) : AW M R Z cu su n h pc L (aR r :: st) := by
  intro p l e s m args below meth c G H locs ls C Wd hS hl
  have hts := C.2.2.2.2.2.2.2.1
  refine W.objInit C.1 C.2.1 C.2.2.2.2.1 (hts _ h1) (hts _ h2) (hts _ h3) rfl (by rw [C.2.2.2.1]; exact hl.1) rfl hd hf ?_ (kk p l e s m args below meth c G H locs ls C Wd hS hl)
  show 2 * 0 + ((st.map (am_v G)).map fun v => v.category).sum + 12 ≤ R.locals
  rw [am_cats]
  omega
def an_N (own : String) (idx ci N : Nat) (fs : List AV) : Prop := ∃ (q : vw_C) (ty : Nat → FieldType), vwCl[ci]? = some q ∧ q.2.2 = N ∧ Cond.classLink own idx q.1 ∈ TT ∧ Cond.instantiable q.1 N ∈ TT ∧ Cond.initialized q.1 ∈ TT ∧ (∀ w ∈ u_ws q.1 q.2.1 q.2.2, w ∈ TT) ∧ (∀ k, k < q.2.2 → parseFieldDescriptor (q.2.1 k).2.2.1 = some (ty k)) ∧ ∀ (G : AG) (j : Nat), j < q.2.2 → defaultValue (ty j) = vp_V (fs.map (am_v G)) j
theorem aw_new {ci N : Nat} {fs : List AV} (hc : an_N M.1.cls idx ci N fs) (h1 : cu + 1 ≤ R.cells) (h2 : su + N ≤ R.slots) (hd : decode M.2.1 pc = .ok (.new idx, 3)) (kk : AW M R Z (cu + 1) (su + N) (n + 1) (va_up h (n + 1) (aO ci fs)) (pc + 3) L (aR (n + 1) :: st)) : AW M R Z cu su n h pc L st := by
  intro p l e s m args below meth c G H locs ls C Wd hS hl
  obtain ⟨⟨cN, T, N'⟩, ty, c1, rfl, c3, c4, c5, c6, c7, c8⟩ := hc
  have hts := C.2.2.2.2.2.2.2.1
  have hKn := C.2.2.2.2.2.2.2.2.1.1.1 ci _ c1
  refine W.newcK C.1 C.2.1 C.2.2.2.2.1 (hts _ c3) (hts _ c4) (hts _ c5) rfl hd h1 h2 hKn.2.1 Wd.1 fun H1 kC hkC e1 z1 o1 => ?_
  have z : H1.size = H.size + 1 := by rw [z1, Wd.1]
  have o : ∀ q : Nat, q < H.size → H1[q]? = H[q]? := fun q hq => o1 q (by rw [← Wd.1]; exact hq)
  exact kk p l e s m args below meth c G H1 locs ls C (Wd.push z o ⟨_, c1, (u_born ty hts c6 hKn hkC e1 c7).to (c8 G)⟩) (am_Sx hS z o) hl
theorem am_arrT {G : AG} {s : State} (hK : am_K G s) {t : Nat} {ty : FieldType} (ht : (am_tys G)[t]? = some (G.2.2.2.2.1 t, ty)) {cA : ClassId} (h : s.vm.findClass ("[" ++ ty.toString) = some cA) (hno : ∀ C, ty ≠ .object C) : cA = G.2.2.2.2.1 t := by
  have h2 := (hK.1.2 t _ ht).2
  cases ty with
  | object C => exact absurd rfl (hno C)
  | _ => exact Option.some.inj (h.symm.trans h2)
theorem aw_newI {a : Int} (hw : Cond.arrayClass .int ∈ TT) (ha : 0 ≤ a ∧ a ≤ 1000) (h1 : cu + 1 ≤ R.cells) (h2 : su + a.toNat ≤ R.slots) (hd : decode M.2.1 pc = .ok (.newarray .int, 2)) (kk : AW M R Z (cu + 1) (su + a.toNat) (n + 1) (va_up h (n + 1) (aA 0 a.toNat (fun _ => 0))) (pc + 2) L (aR (n + 1) :: st)) : AW M R Z cu su n h pc L (aI a :: st) := by
  intro p l e s m args below meth c G H locs ls C Wd hS hl
  have hts := C.2.2.2.2.2.2.2.1
  have hb : a.toNat * componentBytes .int ≤ 536870912 := by simp [componentBytes]; omega
  refine va_newaK (atype := .int) C.1 C.2.1 (hts _ hw) rfl hd rfl (fun q => ?_) (iI_clamp (by omega)) hb h1 h2 Wd.1 fun H1 cA e1 z1 o1 hAr hNm => ?_
  · have := (iI_lt (by omega) (by omega)).mp (show iI a < iI 0 from q)
    omega
  · have hcA : cA = G.2.2.2.2.1 0 := am_arrT C.2.2.2.2.2.2.2.2.1 (t := 0) rfl hNm (fun C h => by cases h)
    subst hcA
    have z : H1.size = H.size + 1 := by rw [z1, Wd.1]
    have o : ∀ q : Nat, q < H.size → H1[q]? = H[q]? := fun q hq => o1 q (by rw [← Wd.1]; exact hq)
    refine kk p l e s m args below meth c G H1 locs ls C (Wd.push z o ?_) (am_Sx hS z o) hl
    rw [am_ea (by decide)]
    exact e1
theorem aw_newZ {a : Int} (hw : Cond.arrayClass .boolean ∈ TT) (ha : 0 ≤ a ∧ a ≤ 1000) (h1 : cu + 1 ≤ R.cells) (h2 : su + a.toNat ≤ R.slots) (hd : decode M.2.1 pc = .ok (.newarray .boolean, 2)) (kk : AW M R Z (cu + 1) (su + a.toNat) (n + 1) (va_up h (n + 1) (aA 1 a.toNat (fun _ => 0))) (pc + 2) L (aR (n + 1) :: st)) : AW M R Z cu su n h pc L (aI a :: st) := by
  intro p l e s m args below meth c G H locs ls C Wd hS hl
  have hts := C.2.2.2.2.2.2.2.1
  have hb : a.toNat * componentBytes .boolean ≤ 536870912 := by simp [componentBytes]; omega
  refine va_newaK (atype := .boolean) C.1 C.2.1 (hts _ hw) rfl hd rfl (fun q => ?_) (iI_clamp (by omega)) hb h1 h2 Wd.1 fun H1 cA e1 z1 o1 hAr hNm => ?_
  · have := (iI_lt (by omega) (by omega)).mp (show iI a < iI 0 from q)
    omega
  · have hcA : cA = G.2.2.2.2.1 1 := am_arrT C.2.2.2.2.2.2.2.2.1 (t := 1) rfl hNm (fun C h => by cases h)
    subst hcA
    have z : H1.size = H.size + 1 := by rw [z1, Wd.1]
    have o : ∀ q : Nat, q < H.size → H1[q]? = H[q]? := fun q hq => o1 q (by rw [← Wd.1]; exact hq)
    refine kk p l e s m args below meth c G H1 locs ls C (Wd.push z o ?_) (am_Sx hS z o) hl
    rw [am_ea (by decide)]
    exact e1
theorem aw_newC {a : Int} (hw : Cond.arrayClass .char ∈ TT) (ha : 0 ≤ a ∧ a ≤ 1000) (h1 : cu + 1 ≤ R.cells) (h2 : su + a.toNat ≤ R.slots) (hd : decode M.2.1 pc = .ok (.newarray .char, 2)) (kk : AW M R Z (cu + 1) (su + a.toNat) (n + 1) (va_up h (n + 1) (aA 2 a.toNat (fun _ => 0))) (pc + 2) L (aR (n + 1) :: st)) : AW M R Z cu su n h pc L (aI a :: st) := by
  intro p l e s m args below meth c G H locs ls C Wd hS hl
  have hts := C.2.2.2.2.2.2.2.1
  have hb : a.toNat * componentBytes .char ≤ 536870912 := by simp [componentBytes]; omega
  refine va_newaK (atype := .char) C.1 C.2.1 (hts _ hw) rfl hd rfl (fun q => ?_) (iI_clamp (by omega)) hb h1 h2 Wd.1 fun H1 cA e1 z1 o1 hAr hNm => ?_
  · have := (iI_lt (by omega) (by omega)).mp (show iI a < iI 0 from q)
    omega
  · have hcA : cA = G.2.2.2.2.1 2 := am_arrT C.2.2.2.2.2.2.2.2.1 (t := 2) rfl hNm (fun C h => by cases h)
    subst hcA
    have z : H1.size = H.size + 1 := by rw [z1, Wd.1]
    have o : ∀ q : Nat, q < H.size → H1[q]? = H[q]? := fun q hq => o1 q (by rw [← Wd.1]; exact hq)
    refine kk p l e s m args below meth c G H1 locs ls C (Wd.push z o ?_) (am_Sx hS z o) hl
    rw [am_ea (by decide)]
    exact e1
theorem aw_newJ {a : Int} (hw : Cond.arrayClass .long ∈ TT) (ha : 0 ≤ a ∧ a ≤ 1000) (h1 : cu + 1 ≤ R.cells) (h2 : su + a.toNat ≤ R.slots) (hd : decode M.2.1 pc = .ok (.newarray .long, 2)) (kk : AW M R Z (cu + 1) (su + a.toNat) (n + 1) (va_up h (n + 1) (aA 3 a.toNat (fun _ => 0))) (pc + 2) L (aR (n + 1) :: st)) : AW M R Z cu su n h pc L (aI a :: st) := by
  intro p l e s m args below meth c G H locs ls C Wd hS hl
  have hts := C.2.2.2.2.2.2.2.1
  have hb : a.toNat * componentBytes .long ≤ 536870912 := by simp [componentBytes]; omega
  refine va_newaK (atype := .long) C.1 C.2.1 (hts _ hw) rfl hd rfl (fun q => ?_) (iI_clamp (by omega)) hb h1 h2 Wd.1 fun H1 cA e1 z1 o1 hAr hNm => ?_
  · have := (iI_lt (by omega) (by omega)).mp (show iI a < iI 0 from q)
    omega
  · have hcA : cA = G.2.2.2.2.1 3 := am_arrT C.2.2.2.2.2.2.2.2.1 (t := 3) rfl hNm (fun C h => by cases h)
    subst hcA
    have z : H1.size = H.size + 1 := by rw [z1, Wd.1]
    have o : ∀ q : Nat, q < H.size → H1[q]? = H[q]? := fun q hq => o1 q (by rw [← Wd.1]; exact hq)
    refine kk p l e s m args below meth c G H1 locs ls C (Wd.push z o ?_) (am_Sx hS z o) hl
    rw [am_el]
    exact e1
theorem aw_newR {a : Int} (hw : Cond.classLink M.1.cls idx RX2 ∈ TT) (ha : 0 ≤ a ∧ a ≤ 1000) (h1 : cu + 1 ≤ R.cells) (h2 : su + a.toNat ≤ R.slots) (hd : decode M.2.1 pc = .ok (.anewarray idx, 3)) (kk : AW M R Z (cu + 1) (su + a.toNat) (n + 1) (va_up h (n + 1) (aQ 4 a.toNat (fun _ => none))) (pc + 3) L (aR (n + 1) :: st)) : AW M R Z cu su n h pc L (aI a :: st) := by
  intro p l e s m args below meth c G H locs ls C Wd hS hl
  have hts := C.2.2.2.2.2.2.2.1
  have hK := C.2.2.2.2.2.2.2.2.1
  refine W.anew C.1 C.2.1 C.2.2.2.2.1 (hts _ hw) (va_AO.use hK.2.2.1) rfl hd rfl (fun q => ?_) (by rw [iI_clamp (by omega)]; omega) h1 (by rw [iI_clamp (by omega)]; exact h2) fun cA kA comp f1 f2 f3 f4 => ?_
  · have := (iI_lt (by omega) (by omega)).mp (show iI a < iI 0 from q)
    omega
  · have hcA : cA = G.2.2.2.2.1 4 := by
      obtain ⟨_, _, _, _, _, k4⟩ := (hK.1.2 4 (G.2.2.2.2.1 4, .object RX2) rfl).2
      exact Option.some.inj (f1.symm.trans k4)
    subst hcA
    rw [iI_clamp (by omega)]
    generalize hH1 : H.push ({ cls := G.2.2.2.2.1 4, slots := Array.replicate a.toNat .null, vm := .none } : Cell) = H1
    have z1 : H1.size = H.size + 1 := by rw [← hH1, Array.size_push]
    have e1 : H1[H.size]? = some (arrV (G.2.2.2.2.1 4) a.toNat (fun _ => .null)) := by rw [← hH1, Array.getElem?_push_size, ← arrV_new]
    have o1 : ∀ q : Nat, q < H.size → H1[q]? = H[q]? := fun q hq => by rw [← hH1, Array.getElem?_push, if_neg (Nat.ne_of_lt hq)]
    have := kk p l e s m args below meth c G H1 locs ls C (Wd.push z1 o1 (by rw [Wd.1] at e1; exact e1)) (am_Sx hS z1 o1) hl
    rw [Wd.1]
    exact this
theorem aw_sld {i : Int} {len : Nat} {f : Nat → Int} (hh : h 0 = aA 6 len f) (hi : 0 ≤ i ∧ i < len) (hz : len < 2147483648) (hd : decode M.2.1 pc = .ok (.iaload, 1)) (kk : AW M R Z cu su n h (pc + 1) L (aI (f i.toNat) :: st)) : AW M R Z cu su n h pc L (aI i :: aR 0 :: st) := by
  intro p l e s m args below meth c G H locs ls C Wd hS hl
  have k := kk p l e s m args below meth c G H locs ls C Wd hS hl
  have e0 := hh.symm.trans Wd.2.1.1
  obtain ⟨-, -, -, -, -, -, -, -, -, hX, hb, hbs⟩ := id C
  injection e0 with e0
  injection e0 with _ e0
  injection e0 with e1 e0
  injection e0 with e2
  have hb1 : G.2.1 < s.heap.size := by omega
  have hb2 : ¬ G.1 ≤ G.2.1 := by omega
  refine va_sld (b := G.2.1) C.1 C.2.1 hX hb1 hb2 hS (by rw [← e1]; exact iI_in hi.1 hi.2 hz) hd ?_
  rw [iI_clamp (by omega)]
  rw [e2] at k
  exact k
theorem aw_slen {len : Nat} {f : Nat → Int} (hh : h 0 = aA 6 len f) (hz : len < 2147483648) (hd : decode M.2.1 pc = .ok (.arraylength, 1)) (kk : AW M R Z cu su n h (pc + 1) L (aI (len : Int) :: st)) : AW M R Z cu su n h pc L (aR 0 :: st) := by
  intro p l e s m args below meth c G H locs ls C Wd hS hl
  have k := kk p l e s m args below meth c G H locs ls C Wd hS hl
  have e0 := hh.symm.trans Wd.2.1.1
  obtain ⟨-, -, -, -, -, -, -, -, -, hX, hb, hbs⟩ := id C
  injection e0 with e0
  injection e0 with _ e0
  injection e0 with e1 e0
  have hb1 : G.2.1 < s.heap.size := by omega
  have hb2 : ¬ G.1 ≤ G.2.1 := by omega
  refine va_slen (b := G.2.1) C.1 C.2.1 hX hb1 hb2 hS hd ?_
  rw [← e1]
  exact k
theorem aw_mmax {a b : Int} (h1 : Cond.methodLink M.1.cls idx Lib.Math.max.name ∈ TT) (h2 : Cond.static Lib.Math.max.name ∈ TT) (h3 : Cond.initialized "java/lang/Math" ∈ TT) (h4 : Cond.code Lib.Math.max.name Lib.Math.max.code 2 (some .int) ∈ TT) (ha : -2147483648 ≤ a ∧ a ≤ 2147483647) (hb : -2147483648 ≤ b ∧ b ≤ 2147483647) (hw : (st.map am_cat).sum ≤ 8) (hf : 1 ≤ R.frames) (hlo : 30 ≤ R.locals) (hc : cu ≤ R.cells) (hs : su ≤ R.slots) (hd : decode M.2.1 pc = .ok (.invokestatic idx, 3)) (kk : AW M R Z cu su n h (pc + 3) L (aI (if a < b then b else a) :: st)) : AW M R Z cu su n h pc L (aI b :: aI a :: st) := by
  intro p l e s m args below meth c G H locs ls C Wd hS hl
  have k := kk p l e s m args below meth c G H locs ls C Wd hS hl
  have hts := C.2.2.2.2.2.2.2.1
  refine va_mmax C.1 C.2.1 (by rw [C.2.2.2.1]; exact hl.1.symm) C.2.2.2.2.1 (hts _ h1) (hts _ h2) (hts _ h3) (hts _ h4) hf (by rw [am_cats]; omega) hc hs hd ?_
  by_cases q : a < b
  · rw [if_pos ((iI_lt ha hb).mpr q)]
    rw [if_pos q] at k
    exact k
  · rw [if_neg (fun z => q ((iI_lt ha hb).mp z))]
    rw [if_neg q] at k
    exact k
theorem aw_mmin {a b : Int} (h1 : Cond.methodLink M.1.cls idx Lib.Math.min.name ∈ TT) (h2 : Cond.static Lib.Math.min.name ∈ TT) (h3 : Cond.initialized "java/lang/Math" ∈ TT) (h4 : Cond.code Lib.Math.min.name Lib.Math.min.code 2 (some .int) ∈ TT) (ha : -2147483648 ≤ a ∧ a ≤ 2147483647) (hb : -2147483648 ≤ b ∧ b ≤ 2147483647) (hw : (st.map am_cat).sum ≤ 8) (hf : 1 ≤ R.frames) (hlo : 30 ≤ R.locals) (hc : cu ≤ R.cells) (hs : su ≤ R.slots) (hd : decode M.2.1 pc = .ok (.invokestatic idx, 3)) (kk : AW M R Z cu su n h (pc + 3) L (aI (if a ≤ b then a else b) :: st)) : AW M R Z cu su n h pc L (aI b :: aI a :: st) := by
  intro p l e s m args below meth c G H locs ls C Wd hS hl
  have k := kk p l e s m args below meth c G H locs ls C Wd hS hl
  have hts := C.2.2.2.2.2.2.2.1
  refine va_mmin C.1 C.2.1 (by rw [C.2.2.2.1]; exact hl.1.symm) C.2.2.2.2.1 (hts _ h1) (hts _ h2) (hts _ h3) (hts _ h4) hf (by rw [am_cats]; omega) hc hs hd ?_
  by_cases q : a ≤ b
  · first | rw [if_pos ((iI_le ha hb).mpr q)] | rw [if_neg (fun z => absurd ((iI_lt hb ha).mp z) (by omega))]
    rw [if_pos q] at k
    exact k
  · first | rw [if_neg (fun z => q ((iI_le ha hb).mp z))] | rw [if_pos ((iI_lt hb ha).mpr (by omega))]
    rw [if_neg q] at k
    exact k
theorem aw_mmaxL {a b : Int} (h1 : Cond.methodLink M.1.cls idx Lib.MathLoose.max_long.x ∈ TT) (h2 : Cond.static Lib.MathLoose.max_long.x ∈ TT) (h3 : Cond.initialized "java/lang/Math" ∈ TT) (h4 : Cond.code Lib.MathLoose.max_long.x Lib.MathLoose.max_long.code 4 (some .long) ∈ TT) (ha : -9223372036854775808 ≤ a ∧ a ≤ 9223372036854775807) (hb : -9223372036854775808 ≤ b ∧ b ≤ 9223372036854775807) (hw : (st.map am_cat).sum ≤ 8) (hf : 1 ≤ R.frames) (hlo : 30 ≤ R.locals) (hc : cu ≤ R.cells) (hs : su ≤ R.slots) (hd : decode M.2.1 pc = .ok (.invokestatic idx, 3)) (kk : AW M R Z cu su n h (pc + 3) L (aL (if b < a then a else b) :: st)) : AW M R Z cu su n h pc L (aL b :: aL a :: st) := by
  intro p l e s m args below meth c G H locs ls C Wd hS hl
  have k := kk p l e s m args below meth c G H locs ls C Wd hS hl
  have hts := C.2.2.2.2.2.2.2.1
  refine va_mmax_long C.1 C.2.1 (by rw [C.2.2.2.1]; exact hl.1.symm) C.2.2.2.2.1 (hts _ h1) (hts _ h2) (hts _ h3) (hts _ h4) hf (by rw [am_cats]; omega) hc hs hd ?_
  by_cases q : b < a
  · rw [if_pos ((lL_lt hb ha).mpr q)]
    rw [if_pos q] at k
    exact k
  · rw [if_neg (fun z => q ((lL_lt hb ha).mp z))]
    rw [if_neg q] at k
    exact k
theorem aw_copyi {r0 r1 n0 n1 : Nat} {f g : Nat → Int} {k : Int} (h1 : Cond.methodLink M.1.cls idx arraycopyName ∈ TT) (h2 : Cond.native arraycopyName ∈ TT) (h3 : Cond.static arraycopyName ∈ TT) (h4 : Cond.initialized "java/lang/System" ∈ TT) (hh0 : h r0 = aA 0 n0 f) (hh1 : h r1 = aA 0 n1 g) (hk : 0 ≤ k ∧ k ≤ n0 ∧ k ≤ n1 ∧ k ≤ 1000) (hw : (st.map am_cat).sum ≤ 8) (hf : 1 ≤ R.frames) (hlo : 64 ≤ R.locals) (hd : decode M.2.1 pc = .ok (.invokestatic idx, 3)) (kk : AW M R Z cu su n (va_up h r1 (aA 0 n1 (fun i => if i < k.toNat then f i else g i))) (pc + 3) L st) : AW M R Z cu su n h pc L (aI k :: aI 0 :: aR r1 :: aI 0 :: aR r0 :: st) := by
  intro p l e s m args below meth c G H locs ls C Wd hS hl
  have hts := C.2.2.2.2.2.2.2.1
  have hK := C.2.2.2.2.2.2.2.2.1
  obtain ⟨k0, rfl, hk0⟩ := Wd.ix hh0 (am_nda (by decide) _ _)
  obtain ⟨k1, rfl, hk1⟩ := Wd.ix hh1 (am_nda (by decide) _ _)
  have he0 : (am_ws G n h)[k0]? = some (G.1 + k0, am_e G (aA 0 n0 f)) := by rw [am_get hk0, hh0]
  have he1 : (am_ws G n h)[k1]? = some (G.1 + k1, am_e G (aA 0 n1 g)) := by rw [am_get hk1, hh1]
  have hc0 : H[G.1 + k0]? = some (vp_cell (G.2.2.2.2.1 0) (n0, .inl (fun i => iI (f i)))) := Wd.2.2 k0 _ he0
  have hc1 : H[G.1 + k1]? = some (vp_cell (G.2.2.2.2.1 0) (n1, .inl (fun i => iI (g i)))) := Wd.2.2 k1 _ he1
  obtain ⟨-, q0, hq0, cm0, hkk0⟩ := (hK.1.2 0 (G.2.2.2.2.1 0, .int) rfl).1 n0 (fun j => .int (iI (f j)))
  have z0 : ((0 : Int32)).toInt = 0 := rfl
  have zk : (iI k).toInt = k := iI_of (by omega)
  have c0 : (iI 0).toNatClampNeg = 0 := rfl
  have ck : (iI k).toNatClampNeg = k.toNat := iI_clamp (by omega)
  have hnf : nativeFrameWords "java/lang/System" "arraycopy" 5 ≤ 40 := by decide
  intro T hT X
  obtain ⟨vm', X', step⟩ := X.arraycopy C.1 C.2.2.2.2.1 (hts _ h1) (hts _ h2) (hts _ h3) (hts _ h4) (src := G.1 + k0) (dst := G.1 + k1) (cs := vp_cell (G.2.2.2.2.1 0) (n0, .inl (fun i => iI (f i)))) (cd := vp_cell (G.2.2.2.2.1 0) (n1, .inl (fun i => iI (g i)))) (srcPos := iI 0) (destPos := iI 0) (n := iI k) (by rw [hT]; exact hc0) (by rw [hT]; exact hc1)
    (fun _ h => by cases h) (fun _ h => by cases h) (fun h => by cases h) (fun h => by cases h) hq0 hq0 hkk0 hkk0 (by simp [refKind]) (by decide) (by decide) (fun q => by have := (iI_lt (by omega) (by omega)).mp (show iI k < iI 0 from q); omega)
    (by rw [zk]; show ¬ _ > ((arrV (G.2.2.2.2.1 0) n0 (fun j => .int (iI (f j)))).slots.size : Int); rw [arrV_size]; show ¬ (0 : Int) + k > (n0 : Int); omega)
    (by rw [zk]; show ¬ _ > ((arrV (G.2.2.2.2.1 0) n1 (fun j => .int (iI (g j)))).slots.size : Int); rw [arrV_size]; show ¬ (0 : Int) + k > (n1 : Int); omega)
    (fun vm₁ _ i hi => by
      have e : (vp_cell (G.2.2.2.2.1 0) (n0, .inl (fun i => iI (f i)))).slots.getD ((iI 0).toNatClampNeg + i) .null = .int (iI (f i)) := by
        show (arrV (G.2.2.2.2.1 0) n0 (fun j => .int (iI (f j)))).slots.getD _ _ = _
        rw [c0, Nat.zero_add, Array.getD_eq_getD_getElem?, arrV_read _ _ (by omega)]
        rfl
      refine ⟨?_, ?_⟩
      · rw [e]
        rfl
      · rw [e]
        exact trivial)
    (g := F0 m pc ls (.int (iI k) :: .int (iI 0) :: .ref (G.1 + k1) :: .int (iI 0) :: .ref (G.1 + k0) :: st.map (am_v G))) rfl (by rw [C.2.2.2.1]; exact hl.1) (rest := st.map (am_v G)) rfl (by rw [C.2.1]; exact hd) hf (by show 2 * 0 + _ + _ ≤ _; rw [am_cats]; exact Nat.le_trans (Nat.add_le_add (Nat.add_le_add (Nat.le_refl _) hw) (Nat.add_le_add_right hnf 11)) (by omega))
  have e1 : copied (vp_cell (G.2.2.2.2.1 0) (n0, .inl (fun i => iI (f i)))) (vp_cell (G.2.2.2.2.1 0) (n1, .inl (fun i => iI (g i)))) (iI 0) (iI 0) (iI k) = vp_cell (G.2.2.2.2.1 0) (n1, .inl (fun i => iI (if i < k.toNat then f i else g i))) := by
    refine (va_copied (fun z => .int z) (G.2.2.2.2.1 0) (G.2.2.2.2.1 0) (fun i => iI (f i)) (fun i => iI (g i)) (by rw [c0, ck]; omega)).trans ?_
    rw [c0, ck]
    rw [vp_cell_i]
    refine congrArg (arrV _ n1) ?_
    funext j
    by_cases q : j < k.toNat
    · simp [va_cpy, q]
    · simp [va_cpy, q]
  rw [e1] at X' step
  have hlt : G.1 + k1 < H.size := by rw [Wd.1]; omega
  generalize hcell : vp_cell (G.2.2.2.2.1 0) (n1, .inl (fun i => iI (if i < k.toNat then f i else g i))) = cell at X' step
  have hheap : ((T.setVm vm').setCell (G.1 + k1) cell).heap = H.setIfInBounds (G.1 + k1) cell := by rw [← hT]; rfl
  have oq : ∀ q : Nat, q ≠ G.1 + k1 → (H.setIfInBounds (G.1 + k1) cell)[q]? = H[q]? := fun q hq => by simp [Array.getElem?_setIfInBounds, Ne.symm hq]
  have hP' := Wd.2.2.set am_Dj he1 (e := am_e G (aA 0 n1 (fun i => if i < k.toNat then f i else g i))) (show (H.setIfInBounds (G.1 + k1) cell)[G.1 + k1]? = some _ by rw [← hcell]; simp [Array.getElem?_setIfInBounds, hlt]) oq
  obtain ⟨t, a1, b1⟩ := kk p l e s m args below meth c G _ _ ls C (Wd.put hk1 (by simp) hP') ⟨by simp; exact hS.1, fun q g1 g2 => by
      rw [oq q (fun e => g2 (by rw [e]; omega))]
      exact hS.2.1 q g1 g2, fun q hq => by
      rcases List.mem_append.mp hq with h | h
      · exact hS.2.2 q h
      · obtain ⟨z, -, hz⟩ := List.mem_map.mp h
        rw [← hz]
        show G.1 ≤ G.1 + k1
        omega⟩ hl _ hheap X'
  exact ⟨t, step t a1, b1⟩
end AWM
