/-! rows of the abstract machine: returns, fields, arrays, switches -/
section AWH
variable {M : AM} {R : Room} {Z : AZ} {cu su n : Nat} {h : AH} {pc : Nat} {L : List (Option AV)} {st : List AV}
theorem aw_iret {d mc ms : Nat} {Q : AQ} {a : Int} (hr : M.2.2.2.1 = some .int) (hd : decode M.2.1 pc = .ok (.ireturn, 1)) (hq : Q (some (aI a)) n h) (hcu : cu ≤ mc := by decide) (hsu : su ≤ ms := by decide) : AW M (am_R d mc ms) (am_Z Q mc ms) cu su n h pc L [aI a] := by
  intro p l e s m args below meth c G H locs ls C Wd hS hl
  refine W.widen (k := mc) (n := ms) hcu hsu ?_
  exact W.iret C.1 C.2.1 (C.2.2.1.trans hr) (fun t ht hW => ⟨⟨some (aI a), n, h, rfl, hq, by rw [ht]; exact Wd⟩, hS.F ht⟩) hS.2.2 hd C.2.2.2.2.2.1
theorem am_01 {a : Int} (h01 : a = 0 ∨ a = 1) : narrow .boolean (.int (iI a)) = .int (iI a) := by
  rcases h01 with rfl | rfl <;> decide
theorem aw_zret {d mc ms : Nat} {Q : AQ} {a : Int} (hr : M.2.2.2.1 = some .boolean) (hd : decode M.2.1 pc = .ok (.ireturn, 1)) (h01 : a = 0 ∨ a = 1) (hq : Q (some (aI a)) n h) (hcu : cu ≤ mc := by decide) (hsu : su ≤ ms := by decide) : AW M (am_R d mc ms) (am_Z Q mc ms) cu su n h pc L [aI a] := by
  intro p l e s m args below meth c G H locs ls C Wd hS hl
  refine W.widen (k := mc) (n := ms) hcu hsu ?_
  exact W.zret C.1 C.2.1 (C.2.2.1.trans hr) (am_01 h01) (fun t ht hW => ⟨⟨some (aI a), n, h, rfl, hq, by rw [ht]; exact Wd⟩, hS.F ht⟩) hS.2.2 hd C.2.2.2.2.2.1
theorem aw_lret {d mc ms : Nat} {Q : AQ} {a : Int} (hr : M.2.2.2.1 = some .long) (hd : decode M.2.1 pc = .ok (.lreturn, 1)) (hq : Q (some (aL a)) n h) (hcu : cu ≤ mc := by decide) (hsu : su ≤ ms := by decide) : AW M (am_R d mc ms) (am_Z Q mc ms) cu su n h pc L [aL a] := by
  intro p l e s m args below meth c G H locs ls C Wd hS hl
  refine W.widen (k := mc) (n := ms) hcu hsu ?_
  exact W.lret C.1 C.2.1 (C.2.2.1.trans hr) (fun t ht hW => ⟨⟨some (aL a), n, h, rfl, hq, by rw [ht]; exact Wd⟩, hS.F ht⟩) hS.2.2 hd C.2.2.2.2.2.1
theorem aw_aret {d mc ms : Nat} {Q : AQ} {r : Nat} {rt : FieldType} (hr : M.2.2.2.1 = some rt) (hrt : (∃ n, rt = .object n) ∨ ∃ t, rt = .array t) (hd : decode M.2.1 pc = .ok (.areturn, 1)) (hq : Q (some (aR r)) n h) (hcu : cu ≤ mc := by decide) (hsu : su ≤ ms := by decide) : AW M (am_R d mc ms) (am_Z Q mc ms) cu su n h pc L [aR r] := by
  intro p l e s m args below meth c G H locs ls C Wd hS hl
  refine W.widen (k := mc) (n := ms) hcu hsu ?_
  exact W.aret C.1 C.2.1 (C.2.2.1.trans hr) hrt (Or.inr ⟨_, rfl⟩) (fun t ht hW => ⟨⟨some (aR r), n, h, rfl, hq, by rw [ht]; exact Wd⟩, hS.F ht⟩) hS.2.2 hd C.2.2.2.2.2.1
theorem aw_vret {d mc ms : Nat} {Q : AQ} (hr : M.2.2.2.1 = none) (hd : decode M.2.1 pc = .ok (.return_, 1)) (hq : Q none n h) (hcu : cu ≤ mc := by decide) (hsu : su ≤ ms := by decide) : AW M (am_R d mc ms) (am_Z Q mc ms) cu su n h pc L [] := by
  intro p l e s m args below meth c G H locs ls C Wd hS hl
  refine W.widen (k := mc) (n := ms) hcu hsu ?_
  exact W.vret C.1 C.2.1 (C.2.2.1.trans hr) (fun t ht hW => ⟨⟨none, n, h, rfl, hq, by rw [ht]; exact Wd⟩, hS.F ht⟩) hS.2.2 hd C.2.2.2.2.2.1
-- fields
def afG (own : String) (idx ci k : Nat) : Prop := ∃ q : vw_C, vwCl[ci]? = some q ∧ k < q.2.2 ∧ (∀ w ∈ u_ws q.1 q.2.1 q.2.2, w ∈ TT) ∧ Cond.fieldLink own idx (q.2.1 k).1 (q.2.1 k).2.1 (q.2.1 k).2.2.1 ∈ TT
def afP (own : String) (idx ci k : Nat) (fin : Bool) (ty : FieldType) : Prop := ∃ (q : vw_C) (ty0 : Nat → FieldType), vwCl[ci]? = some q ∧ k < q.2.2 ∧ (∀ w ∈ u_ws q.1 q.2.1 q.2.2, w ∈ TT) ∧ Cond.fieldLink own idx (q.2.1 k).1 (q.2.1 k).2.1 (q.2.1 k).2.2.1 ∈ TT ∧
  (∀ k, k < q.2.2 → parseFieldDescriptor (q.2.1 k).2.2.1 = some (ty0 k)) ∧ (∀ a, a < q.2.2 → ∀ b, b < q.2.2 → a ≠ b → (q.2.1 a).2.1 ≠ (q.2.1 b).2.1) ∧ (q.2.1 k).2.2.2 = fin ∧ (q.2.1 k).1 = own ∧ parseFieldDescriptor (q.2.1 k).2.2.1 = some ty
theorem am_nd {ci : Nat} {q : vw_C} (h : vwCl[ci]? = some q) (fs : List AV) : am_ok (aO ci fs) := by
  refine ⟨fun e => ?_, fun len f e => by cases e⟩
  have : ci = 99 := congrArg (fun x : AE => match x with | .inr (c, _) => c | _ => 0) e
  subst this
  simp [vwCl] at h
theorem aw_get {idx ci k r : Nat} {fs : List AV} {v : AV} (hf : afG M.1.cls idx ci k) (hh : h r = aO ci fs) (hv : fs[k]? = some v) (hd : decode M.2.1 pc = .ok (.getfield idx, 3)) (kk : AW M R Z cu su n h (pc + 3) L (v :: st)) : AW M R Z cu su n h pc L (aR r :: st) := by
  intro p l e s m args below meth c G H locs ls C Wd hS hl
  obtain ⟨⟨cC, T, N⟩, h1, h2, h3, h4⟩ := hf
  obtain ⟨k0, rfl, hk0⟩ := Wd.ix hh (am_nd h1 fs)
  exact va_get (D := am_D G) (ws := am_ws G n h) (a := G.1 + k0) (ci := ci) (fs := fs.map (am_v G)) (v := am_v G v) C.1 C.2.1 C.2.2.2.2.2.2.2.1 h3 C.2.2.2.2.1 C.2.2.2.2.2.2.2.2.1.1 Wd.2.2 k0 (by rw [am_get hk0, hh]; rfl) h1 k h2 (C.2.2.2.2.2.2.2.1 _ h4) (fun _ h9 => h9) (by rw [List.getElem?_map, hv]; rfl) hd (kk p l e s m args below meth c G H locs ls C Wd hS hl)
theorem aw_put {idx ci k r : Nat} {fs : List AV} {v : AV} {ty : FieldType} (hf : afP M.1.cls idx ci k false ty) (hh : h r = aO ci fs) (hv : k < fs.length) (hn : ∀ G, narrow ty (am_v G v) = am_v G v ∧ fits ty (am_v G v) = true) (hd : decode M.2.1 pc = .ok (.putfield idx, 3)) (kk : AW M R Z cu su n (va_up h r (aO ci (fs.set k v))) (pc + 3) L st) : AW M R Z cu su n h pc L (v :: aR r :: st) := by
  intro p l e s m args below meth c G H locs ls C Wd hS hl
  obtain ⟨⟨cC, T, N⟩, ty0, h1, h2, h3, h4, h5, h6, h7, h8, h9⟩ := hf
  obtain ⟨k0, rfl, hk0⟩ := Wd.ix hh (am_nd h1 fs)
  have hap := va_apart (own := M.1.cls) C.2.2.2.2.2.2.2.1 h3 ty0 h5 h6 C.2.2.2.2.2.2.2.2.1.1 h1
  have hP := Wd.2.2
  have he : (am_ws G n h)[k0]? = some (G.1 + k0, .inr (ci, fs.map (am_v G))) := by rw [am_get hk0, hh]; rfl
  obtain ⟨r, h1', cell, q1, q2, q3, q4⟩ := hP k0 _ he
  have hr : r = (cC, T, N) := Option.some.inj (h1'.symm.trans h1)
  subst hr
  obtain ⟨hSl, hfc, kC, hkC, hkind⟩ := C.2.2.2.2.2.2.2.2.1.1.1 ci _ h1
  obtain ⟨cf, kf, fi, f, hi, hsl⟩ := hSl k h2
  have hts := C.2.2.2.2.2.2.2.1
  have hlay := hts _ (h3 _ (u_in_lay h2))
  unfold u_lay at hlay
  rw [if_neg (by rw [h7]; decide)] at hlay
  have hst := (u_facts hfc hkC (u_lays hts h3 h2) hi).1
  have h66 := u_store hfc hkC hkind hlay hi h9 (hn G).1 (hn G).2
  refine W.putK C.1 C.2.1 (f := f) ⟨C.2.2.2.2.1, hts _ h4, ⟨_, _, _, hi⟩, hst⟩ (by rw [q2]; exact h66) q1 q3 (by rw [hsl]; exact k2_hasslot (q4 k h2)) rfl rfl hd fun H' e1 e2 e3 => ?_
  rw [hsl] at e1 ⊢
  refine kk p l e s m args below meth c G H' _ ls C (Wd.put hk0 e2 ?_) (hS.put e2 e3 (am_Dj.2 k0 _ he)) hl
  have := hP.set (am_Dj (G := G) (n := n) (h := h)) he (e := .inr (ci, (fs.set k v).map (am_v G))) ⟨_, h1, t_OB.to (V := updV (vp_V (fs.map (am_v G))) k (am_v G v)) ⟨_, e1, q2, q3, t_set q4 hap h2 (am_v G v)⟩ (fun j _ => by rw [List.map_set]; exact vp_updV_set (by simpa using hv) _ j)⟩ e3
  exact this
theorem aw_putF {idx ci k r : Nat} {fs : List AV} {v : AV} {ty : FieldType} (hf : afP M.1.cls idx ci k true ty) (hin2 : M.1.name = "<init>") (hh : h r = aO ci fs) (hv : k < fs.length) (hn : ∀ G, narrow ty (am_v G v) = am_v G v ∧ fits ty (am_v G v) = true) (hd : decode M.2.1 pc = .ok (.putfield idx, 3)) (kk : AW M R Z cu su n (va_up h r (aO ci (fs.set k v))) (pc + 3) L st) : AW M R Z cu su n h pc L (v :: aR r :: st) := by
  intro p l e s m args below meth c G H locs ls C Wd hS hl
  obtain ⟨⟨cC, T, N⟩, ty0, h1, h2, h3, h4, h5, h6, h7, h8, h9⟩ := hf
  obtain ⟨k0, rfl, hk0⟩ := Wd.ix hh (am_nd h1 fs)
  have hap := va_apart (own := M.1.cls) C.2.2.2.2.2.2.2.1 h3 ty0 h5 h6 C.2.2.2.2.2.2.2.2.1.1 h1
  have hP := Wd.2.2
  have he : (am_ws G n h)[k0]? = some (G.1 + k0, .inr (ci, fs.map (am_v G))) := by rw [am_get hk0, hh]; rfl
  obtain ⟨r, h1', cell, q1, q2, q3, q4⟩ := hP k0 _ he
  have hr : r = (cC, T, N) := Option.some.inj (h1'.symm.trans h1)
  subst hr
  obtain ⟨hSl, hfc, kC, hkC, hkind⟩ := C.2.2.2.2.2.2.2.2.1.1.1 ci _ h1
  obtain ⟨cf, kf, fi, f, hi, hsl⟩ := hSl k h2
  have hts := C.2.2.2.2.2.2.2.1
  have hlay := hts _ (h3 _ (u_in_lay h2))
  unfold u_lay at hlay
  rw [if_pos h7] at hlay
  have hst := (u_facts hfc hkC (u_lays hts h3 h2) hi).1
  have hcf : m.cls = cf := by
    obtain ⟨_, _, c', _, _, _, -, -, hf', -, -, -, hown2, -⟩ := Cond.laysFinal_spec hlay
    have e1 : c' = cf := by have := hi.symm.trans hf'; simp at this; exact this.1.symm
    have h8' : (T k).1 = M.1.cls := h8
    rw [h8'] at hown2
    rw [← e1]; exact Option.some.inj (C.2.2.2.2.1.symm.trans hown2)
  have h66 := u_fits hfc hkC hkind (Or.inr hlay) hi h9 (hn G).1 (hn G).2
  refine W.putFinK C.1 C.2.1 C.2.2.2.2.1 (hts _ h4) hi hst hcf (C.2.2.2.2.2.2.1.trans hin2) (by rw [q2]; exact h66) q1 q3 (by rw [hsl]; exact k2_hasslot (q4 k h2)) rfl rfl hd fun H' e1 e2 e3 => ?_
  rw [hsl] at e1 ⊢
  refine kk p l e s m args below meth c G H' _ ls C (Wd.put hk0 e2 ?_) (hS.put e2 e3 (am_Dj.2 k0 _ he)) hl
  have := hP.set (am_Dj (G := G) (n := n) (h := h)) he (e := .inr (ci, (fs.set k v).map (am_v G))) ⟨_, h1, t_OB.to (V := updV (vp_V (fs.map (am_v G))) k (am_v G v)) ⟨_, e1, q2, q3, t_set q4 hap h2 (am_v G v)⟩ (fun j _ => by rw [List.map_set]; exact vp_updV_set (by simpa using hv) _ j)⟩ e3
  exact this
theorem aw_ni (a : Int) : ∀ G, narrow .int (am_v G (aI a)) = am_v G (aI a) ∧ fits .int (am_v G (aI a)) = true := fun _ => ⟨rfl, rfl⟩
theorem aw_no (C : String) (r : Nat) : ∀ G, narrow (.object C) (am_v G (aR r)) = am_v G (aR r) ∧ fits (.object C) (am_v G (aR r)) = true := fun _ => ⟨rfl, rfl⟩
theorem aw_na (t : FieldType) (r : Nat) : ∀ G, narrow (.array t) (am_v G (aR r)) = am_v G (aR r) ∧ fits (.array t) (am_v G (aR r)) = true := fun _ => ⟨rfl, rfl⟩
-- arrays
theorem am_nda {t : Nat} (ht : t ≠ 6) (len : Nat) (f : Nat → Int) : am_ok (aA t len f) := ⟨fun h => (by cases h), fun l g e => (by cases e; exact ht rfl)⟩
theorem am_ndq (t len : Nat) (f : Nat → Option Nat) : am_ok (aQ t len f) := ⟨fun h => (by cases h), fun l g e => (by cases e)⟩
theorem am_ea {G : AG} {t len : Nat} {f : Nat → Int} (ht : t ≠ 3) : am_e G (aA t len f) = .inl (G.2.2.2.2.1 t, len, .inl (fun i => iI (f i))) := by
  simp [am_e, ht]
theorem am_el {G : AG} {len : Nat} {f : Nat → Int} : am_e G (aA 3 len f) = .inl (G.2.2.2.2.1 3, len, .inr (.inl (fun i => lL (f i)))) := by
  simp [am_e]
theorem am_eq {G : AG} {t len : Nat} {f : Nat → Option Nat} : am_e G (aQ t len f) = .inl (G.2.2.2.2.1 t, len, .inr (.inr (.inr (.inr (fun i => (f i).map (am_adr G)))))) := rfl
theorem aw_iald {r len : Nat} {f : Nat → Int} {i : Int} (hh : h r = aA 0 len f) (hi : 0 ≤ i ∧ i < len) (hd : decode M.2.1 pc = .ok (.iaload, 1)) (kk : AW M R Z cu su n h (pc + 1) L (aI (f i.toNat) :: st)) (hz : len < 2147483648 := by decide) : AW M R Z cu su n h pc L (aI i :: aR r :: st) := by
  intro p l e s m args below meth c G H locs ls C Wd hS hl
  obtain ⟨k0, rfl, hk0⟩ := Wd.ix hh (am_nda (by decide) _ _)
  have k := kk p l e s m args below meth c G H locs ls C Wd hS hl
  refine va_iald (D := am_D G) (ws := am_ws G n h) (a := G.1 + k0) C.1 C.2.1 C.2.2.2.2.2.2.2.2.1.1 Wd.2.2 k0 0 (by rw [am_get hk0, hh, am_ea (by decide)]) rfl (iI_in hi.1 hi.2 hz) hd ?_
  rw [iI_clamp (by omega)]
  exact k
theorem aw_zald {r len : Nat} {f : Nat → Int} {i : Int} (hh : h r = aA 1 len f) (hi : 0 ≤ i ∧ i < len) (hd : decode M.2.1 pc = .ok (.baload, 1)) (kk : AW M R Z cu su n h (pc + 1) L (aI (f i.toNat) :: st)) (hz : len < 2147483648 := by decide) : AW M R Z cu su n h pc L (aI i :: aR r :: st) := by
  intro p l e s m args below meth c G H locs ls C Wd hS hl
  obtain ⟨k0, rfl, hk0⟩ := Wd.ix hh (am_nda (by decide) _ _)
  have k := kk p l e s m args below meth c G H locs ls C Wd hS hl
  refine va_zald (D := am_D G) (ws := am_ws G n h) (a := G.1 + k0) C.1 C.2.1 C.2.2.2.2.2.2.2.2.1.1 Wd.2.2 k0 1 (by rw [am_get hk0, hh, am_ea (by decide)]) rfl (iI_in hi.1 hi.2 hz) hd ?_
  rw [iI_clamp (by omega)]
  exact k
theorem aw_cald {r len : Nat} {f : Nat → Int} {i : Int} (hh : h r = aA 2 len f) (hi : 0 ≤ i ∧ i < len) (hd : decode M.2.1 pc = .ok (.caload, 1)) (kk : AW M R Z cu su n h (pc + 1) L (aI (f i.toNat) :: st)) (hz : len < 2147483648 := by decide) : AW M R Z cu su n h pc L (aI i :: aR r :: st) := by
  intro p l e s m args below meth c G H locs ls C Wd hS hl
  obtain ⟨k0, rfl, hk0⟩ := Wd.ix hh (am_nda (by decide) _ _)
  have k := kk p l e s m args below meth c G H locs ls C Wd hS hl
  refine va_cald (D := am_D G) (ws := am_ws G n h) (a := G.1 + k0) C.1 C.2.1 C.2.2.2.2.2.2.2.2.1.1 Wd.2.2 k0 2 (by rw [am_get hk0, hh, am_ea (by decide)]) rfl (iI_in hi.1 hi.2 hz) hd ?_
  rw [iI_clamp (by omega)]
  exact k
theorem aw_lald {r len : Nat} {f : Nat → Int} {i : Int} (hh : h r = aA 3 len f) (hi : 0 ≤ i ∧ i < len) (hd : decode M.2.1 pc = .ok (.laload, 1)) (kk : AW M R Z cu su n h (pc + 1) L (aL (f i.toNat) :: st)) (hz : len < 2147483648 := by decide) : AW M R Z cu su n h pc L (aI i :: aR r :: st) := by
  intro p l e s m args below meth c G H locs ls C Wd hS hl
  obtain ⟨k0, rfl, hk0⟩ := Wd.ix hh (am_nda (by decide) _ _)
  have k := kk p l e s m args below meth c G H locs ls C Wd hS hl
  refine va_lald (D := am_D G) (ws := am_ws G n h) (a := G.1 + k0) C.1 C.2.1 C.2.2.2.2.2.2.2.2.1.1 Wd.2.2 k0 3 (by rw [am_get hk0, hh, am_el]) rfl (iI_in hi.1 hi.2 hz) hd ?_
  rw [iI_clamp (by omega)]
  exact k
theorem am_upI (f : Nat → Int) (k : Nat) (x : Int) : upd (fun i => iI (f i)) k (iI x) = fun i => iI (va_up f k x i) := by
  funext j
  by_cases hj : j = k
  · simp [upd, va_up, hj]
  · simp [upd, va_up, hj]
theorem am_upL (f : Nat → Int) (k : Nat) (x : Int) : vp_updL (fun i => lL (f i)) k (lL x) = fun i => lL (va_up f k x i) := by
  funext j
  by_cases hj : j = k
  · simp [vp_updL, va_up, hj]
  · simp [vp_updL, va_up, hj]
end AWH
