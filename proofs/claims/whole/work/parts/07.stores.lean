/-! rows of the abstract machine: stores into arrays, arrays of references, switches, calls -/
section AWS
variable {M : AM} {R : Room} {Z : AZ} {cu su n : Nat} {h : AH} {pc : Nat} {L : List (Option AV)} {st : List AV}
theorem am_upV {α : Type} (mk : α → Value) (f : Nat → α) (k : Nat) (x : α) : updV (fun i => mk (f i)) k (mk x) = fun i => mk (va_up f k x i) := by
  funext j
  by_cases hj : j = k
  · simp [updV, va_up, hj]
  · simp [updV, va_up, hj]
theorem am_nc {a : Int} (h : 0 ≤ a ∧ a < 65536) : narrow .char (.int (iI a)) = .int (iI a) := by
  have := lg_i2c_word (v := iI a) (by rw [iI_of (by omega)]; exact h.1) (by rw [iI_of (by omega)]; exact h.2)
  rw [lg_i2c_nf] at this
  show Value.int _ = _
  rw [this]
theorem aw_iast {r len : Nat} {f : Nat → Int} {i x : Int} (hh : h r = aA 0 len f) (hi : 0 ≤ i ∧ i < len) (hd : decode M.2.1 pc = .ok (.iastore, 1)) (kk : AW M R Z cu su n (va_up h r (aA 0 len (va_up f i.toNat x))) (pc + 1) L st) (hz : len < 2147483648 := by decide) : AW M R Z cu su n h pc L (aI x :: aI i :: aR r :: st) := by
  intro p l e s m args below meth c G H locs ls C Wd hS hl
  obtain ⟨k0, rfl, hk0⟩ := Wd.ix hh (am_nda (by decide) _ _)
  have he : (am_ws G n h)[k0]? = some (G.1 + k0, am_e G (aA 0 len f)) := by rw [am_get hk0, hh]
  have hc : H[G.1 + k0]? = some (arrV (G.2.2.2.2.1 0) len (fun j => (fun z : Int => Value.int (iI z)) (f j))) := by
    have := Wd.2.2 k0 _ he
    rw [am_ea (by decide)] at this
    exact this
  refine W.iast C.1 C.2.1 hc ((C.2.2.2.2.2.2.2.2.1.1.2 0 _ rfl).1 len _) (fun q => by cases q) (by rw [arrV_size]; exact iI_in hi.1 hi.2 hz) rfl rfl hd fun H1 e1 z oq => ?_
  refine kk p l e s m args below meth c G H1 _ ls C (Wd.put hk0 z (Wd.2.2.set am_Dj he ?_ oq)) (hS.put z oq (am_Dj.2 k0 _ he)) hl
  rw [am_ea (by decide)]
  show H1[G.1 + k0]? = some (arrV (G.2.2.2.2.1 0) len (fun j => (fun z : Int => Value.int (iI z)) (va_up f i.toNat x j)))
  rw [e1, arrV_store, iI_clamp (by omega)]
  exact congrArg some (congrArg (arrV _ len) (am_upV (fun z : Int => Value.int (iI z)) f i.toNat x))
theorem aw_zast {r len : Nat} {f : Nat → Int} {i x : Int} (hh : h r = aA 1 len f) (hi : 0 ≤ i ∧ i < len) (hx : x = 0 ∨ x = 1) (hd : decode M.2.1 pc = .ok (.bastore, 1)) (kk : AW M R Z cu su n (va_up h r (aA 1 len (va_up f i.toNat x))) (pc + 1) L st) (hz : len < 2147483648 := by decide) : AW M R Z cu su n h pc L (aI x :: aI i :: aR r :: st) := by
  intro p l e s m args below meth c G H locs ls C Wd hS hl
  obtain ⟨k0, rfl, hk0⟩ := Wd.ix hh (am_nda (by decide) _ _)
  have he : (am_ws G n h)[k0]? = some (G.1 + k0, am_e G (aA 1 len f)) := by rw [am_get hk0, hh]
  have hc : H[G.1 + k0]? = some (arrV (G.2.2.2.2.1 1) len (fun j => (fun z : Int => Value.int (iI z)) (f j))) := by
    have := Wd.2.2 k0 _ he
    rw [am_ea (by decide)] at this
    exact this
  refine W.zast C.1 C.2.1 hc ((C.2.2.2.2.2.2.2.2.1.1.2 1 _ rfl).1 len _) (fun q => by cases q) (by rw [arrV_size]; exact iI_in hi.1 hi.2 hz) rfl rfl hd fun H1 e1 z oq => ?_
  refine kk p l e s m args below meth c G H1 _ ls C (Wd.put hk0 z (Wd.2.2.set am_Dj he ?_ oq)) (hS.put z oq (am_Dj.2 k0 _ he)) hl
  rw [am_ea (by decide)]
  show H1[G.1 + k0]? = some (arrV (G.2.2.2.2.1 1) len (fun j => (fun z : Int => Value.int (iI z)) (va_up f i.toNat x j)))
  rw [e1, show narrow _ _ = _ from am_01 hx, arrV_store, iI_clamp (by omega)]
  exact congrArg some (congrArg (arrV _ len) (am_upV (fun z : Int => Value.int (iI z)) f i.toNat x))
theorem aw_cast {r len : Nat} {f : Nat → Int} {i x : Int} (hh : h r = aA 2 len f) (hi : 0 ≤ i ∧ i < len) (hx : 0 ≤ x ∧ x < 65536) (hd : decode M.2.1 pc = .ok (.castore, 1)) (kk : AW M R Z cu su n (va_up h r (aA 2 len (va_up f i.toNat x))) (pc + 1) L st) (hz : len < 2147483648 := by decide) : AW M R Z cu su n h pc L (aI x :: aI i :: aR r :: st) := by
  intro p l e s m args below meth c G H locs ls C Wd hS hl
  obtain ⟨k0, rfl, hk0⟩ := Wd.ix hh (am_nda (by decide) _ _)
  have he : (am_ws G n h)[k0]? = some (G.1 + k0, am_e G (aA 2 len f)) := by rw [am_get hk0, hh]
  have hc : H[G.1 + k0]? = some (arrV (G.2.2.2.2.1 2) len (fun j => (fun z : Int => Value.int (iI z)) (f j))) := by
    have := Wd.2.2 k0 _ he
    rw [am_ea (by decide)] at this
    exact this
  refine W.cast C.1 C.2.1 hc ((C.2.2.2.2.2.2.2.2.1.1.2 2 _ rfl).1 len _) (fun q => by cases q) (by rw [arrV_size]; exact iI_in hi.1 hi.2 hz) rfl rfl hd fun H1 e1 z oq => ?_
  refine kk p l e s m args below meth c G H1 _ ls C (Wd.put hk0 z (Wd.2.2.set am_Dj he ?_ oq)) (hS.put z oq (am_Dj.2 k0 _ he)) hl
  rw [am_ea (by decide)]
  show H1[G.1 + k0]? = some (arrV (G.2.2.2.2.1 2) len (fun j => (fun z : Int => Value.int (iI z)) (va_up f i.toNat x j)))
  rw [e1, show narrow _ _ = _ from am_nc hx, arrV_store, iI_clamp (by omega)]
  exact congrArg some (congrArg (arrV _ len) (am_upV (fun z : Int => Value.int (iI z)) f i.toNat x))
theorem aw_last {r len : Nat} {f : Nat → Int} {i x : Int} (hh : h r = aA 3 len f) (hi : 0 ≤ i ∧ i < len) (hd : decode M.2.1 pc = .ok (.lastore, 1)) (kk : AW M R Z cu su n (va_up h r (aA 3 len (va_up f i.toNat x))) (pc + 1) L st) (hz : len < 2147483648 := by decide) : AW M R Z cu su n h pc L (aL x :: aI i :: aR r :: st) := by
  intro p l e s m args below meth c G H locs ls C Wd hS hl
  obtain ⟨k0, rfl, hk0⟩ := Wd.ix hh (am_nda (by decide) _ _)
  have he : (am_ws G n h)[k0]? = some (G.1 + k0, am_e G (aA 3 len f)) := by rw [am_get hk0, hh]
  have hc : H[G.1 + k0]? = some (arrV (G.2.2.2.2.1 3) len (fun j => (fun z : Int => Value.long (lL z)) (f j))) := by
    have := Wd.2.2 k0 _ he
    rw [am_el] at this
    exact this
  refine W.last C.1 C.2.1 hc ((C.2.2.2.2.2.2.2.2.1.1.2 3 _ rfl).1 len _) (fun q => by cases q) (by rw [arrV_size]; exact iI_in hi.1 hi.2 hz) rfl rfl hd fun H1 e1 z oq => ?_
  refine kk p l e s m args below meth c G H1 _ ls C (Wd.put hk0 z (Wd.2.2.set am_Dj he ?_ oq)) (hS.put z oq (am_Dj.2 k0 _ he)) hl
  rw [am_el]
  show H1[G.1 + k0]? = some (arrV (G.2.2.2.2.1 3) len (fun j => (fun z : Int => Value.long (lL z)) (va_up f i.toNat x j)))
  rw [e1, arrV_store, iI_clamp (by omega)]
  exact congrArg some (congrArg (arrV _ len) (am_upV (fun z : Int => Value.long (lL z)) f i.toNat x))
theorem aw_aaldR {r len : Nat} {f : Nat → Option Nat} {i : Int} {q : Nat} (hh : h r = aQ 4 len f) (hi : 0 ≤ i ∧ i < len) (hq : f i.toNat = some q) (hd : decode M.2.1 pc = .ok (.aaload, 1)) (kk : AW M R Z cu su n h (pc + 1) L (aR q :: st)) (hz : len < 2147483648 := by decide) : AW M R Z cu su n h pc L (aI i :: aR r :: st) := by
  intro p l e s m args below meth c G H locs ls C Wd hS hl
  obtain ⟨k0, rfl, hk0⟩ := Wd.ix hh (am_ndq _ _ _)
  have he : (am_ws G n h)[k0]? = some (G.1 + k0, am_e G (aQ 4 len f)) := by rw [am_get hk0, hh]
  have hc : H[G.1 + k0]? = some (arrV (G.2.2.2.2.1 4) len (fun j => va_rf ((f j).map (am_adr G)))) := Wd.2.2 k0 _ he
  have hlt : i.toNat < len := by omega
  refine W.aald (v := am_v G (aR q)) (ty := .object RX2) C.1 C.2.1 hc ((C.2.2.2.2.2.2.2.2.1.1.2 4 _ rfl).1 len _) rfl (fun q => by cases q) (by rw [arrV_size]; exact iI_in hi.1 hi.2 hz) (by rw [iI_clamp (by omega), arrV_read _ _ hlt, hq]; rfl) rfl rfl hd ?_
  exact kk p l e s m args below meth c G H locs ls C Wd hS hl
theorem aw_aaldA {r len : Nat} {f : Nat → Option Nat} {i : Int} {q : Nat} (hh : h r = aQ 5 len f) (hi : 0 ≤ i ∧ i < len) (hq : f i.toNat = some q) (hd : decode M.2.1 pc = .ok (.aaload, 1)) (kk : AW M R Z cu su n h (pc + 1) L (aR q :: st)) (hz : len < 2147483648 := by decide) : AW M R Z cu su n h pc L (aI i :: aR r :: st) := by
  intro p l e s m args below meth c G H locs ls C Wd hS hl
  obtain ⟨k0, rfl, hk0⟩ := Wd.ix hh (am_ndq _ _ _)
  have he : (am_ws G n h)[k0]? = some (G.1 + k0, am_e G (aQ 5 len f)) := by rw [am_get hk0, hh]
  have hc : H[G.1 + k0]? = some (arrV (G.2.2.2.2.1 5) len (fun j => va_rf ((f j).map (am_adr G)))) := Wd.2.2 k0 _ he
  have hlt : i.toNat < len := by omega
  refine W.aald (v := am_v G (aR q)) (ty := .array .int) C.1 C.2.1 hc ((C.2.2.2.2.2.2.2.2.1.1.2 5 _ rfl).1 len _) rfl (fun q => by cases q) (by rw [arrV_size]; exact iI_in hi.1 hi.2 hz) (by rw [iI_clamp (by omega), arrV_read _ _ hlt, hq]; rfl) rfl rfl hd ?_
  exact kk p l e s m args below meth c G H locs ls C Wd hS hl
theorem aw_aast {r len : Nat} {f : Nat → Option Nat} {i : Int} {q : Nat} {vs : List AV} (hh : h r = aQ 4 len f) (hi : 0 ≤ i ∧ i < len) (hv : h q = aO 2 vs) (hd : decode M.2.1 pc = .ok (.aastore, 1)) (kk : AW M R Z cu su n (va_up h r (aQ 4 len (va_up f i.toNat (some q)))) (pc + 1) L st) (hz : len < 2147483648 := by decide) : AW M R Z cu su n h pc L (aR q :: aI i :: aR r :: st) := by
  intro p l e s m args below meth c G H locs ls C Wd hS hl
  obtain ⟨k0, rfl, hk0⟩ := Wd.ix hh (am_ndq _ _ _)
  obtain ⟨k1, rfl, hk1⟩ := Wd.ix hv (am_nd (q := (RX2, TX2, 2)) rfl vs)
  have he : (am_ws G n h)[k0]? = some (G.1 + k0, am_e G (aQ 4 len f)) := by rw [am_get hk0, hh]
  have hc : H[G.1 + k0]? = some (arrV (G.2.2.2.2.1 4) len (fun j => va_rf ((f j).map (am_adr G)))) := Wd.2.2 k0 _ he
  have hv' : (am_ws G n h)[k1]? = some (G.1 + k1, .inr (2, vs.map (am_v G))) := by rw [am_get hk1, hv]; rfl
  have hK := C.2.2.2.2.2.2.2.2.1.1
  obtain ⟨r', hr', cellV, g1, g2, g3, -⟩ := Wd.2.2 k1 _ hv'
  have hcls := (hK.1 2 (RX2, TX2, 2) rfl).2
  obtain ⟨kA, comp, k1', k2', k3', -⟩ := (hK.2 4 (G.2.2.2.2.1 4, .object RX2) rfl).2
  have hcomp : comp = G.2.2.1 2 := Option.some.inj (k3'.symm.trans hcls.1)
  subst hcomp
  obtain ⟨kC, hkC, -⟩ := hcls.2
  have hin := iI_in hi.1 hi.2 hz
  refine W.aast C.1 C.2.1 hc (fun q h => by cases h) (fun h => by cases h) k1' k2' rfl hkC ⟨fun q => hin (Or.inl q), by rw [arrV_size]; exact Nat.not_le.mp fun q => hin (Or.inr q)⟩ g1 (fun q h => by rw [g3] at h; cases h) (by rw [g2]; exact hkC) (by rw [g2]; exact va_assign hcls) rfl rfl hd fun H1 e1 z oq => ?_
  refine kk p l e s m args below meth c G H1 _ ls C (Wd.put hk0 z (Wd.2.2.set am_Dj he ?_ oq)) (hS.put z oq (am_Dj.2 k0 _ he)) hl
  show H1[G.1 + k0]? = some (arrV (G.2.2.2.2.1 4) len (fun j => va_rf ((va_up f i.toNat (some (k1 + 1)) j).map (am_adr G))))
  rw [e1, arrV_store, iI_clamp (by omega)]
  exact congrArg some (congrArg (arrV _ len) (am_upV (fun z : Option Nat => va_rf (z.map (am_adr G))) f i.toNat (some (k1 + 1))))
-- the script
-- switches
theorem aw_tableIn {a dflt lo hi off : Int} {offs : Array Int} {len tgt : Nat} (hd : decode M.2.1 pc = .ok (.tableswitch dflt lo hi offs, len)) (ha : -2147483648 ≤ a ∧ a ≤ 2147483647) (h1 : lo ≤ a) (h2 : a ≤ hi) (ho : offs[(a - lo).toNat]? = some off) (ht : (pc : Int) + off = (tgt : Int)) (kk : AW M R Z cu su n h tgt L st) : AW M R Z cu su n h pc L (aI a :: st) := by
  intro p l e s m args below meth c G H locs ls C Wd hS hl
  exact lv_tableIn C.1 C.2.1 hd (by rw [iI_of ha]; omega) (by rw [iI_of ha]; omega) (by rw [iI_of ha]; exact ho) ht (kk p l e s m args below meth c G H locs ls C Wd hS hl)
theorem aw_tableOut {a dflt lo hi : Int} {offs : Array Int} {len tgt : Nat} (hd : decode M.2.1 pc = .ok (.tableswitch dflt lo hi offs, len)) (ha : -2147483648 ≤ a ∧ a ≤ 2147483647) (h1 : a < lo ∨ hi < a) (ht : (pc : Int) + dflt = (tgt : Int)) (kk : AW M R Z cu su n h tgt L st) : AW M R Z cu su n h pc L (aI a :: st) := by
  intro p l e s m args below meth c G H locs ls C Wd hS hl
  exact lv_tableOut C.1 C.2.1 hd (by rw [iI_of ha]; omega) ht (kk p l e s m args below meth c G H locs ls C Wd hS hl)
theorem aw_lookup {a dflt off : Int} {ps : Array (Int × Int)} {len tgt : Nat} (hd : decode M.2.1 pc = .ok (.lookupswitch dflt ps, len)) (ha : -2147483648 ≤ a ∧ a ≤ 2147483647) (hp : (ps.toList.zip (ps.toList.drop 1)).all (fun (a, next) => a.1 < next.1) = true) (ho : Op.lookupswitch.offset ps.toList dflt a = off) (ht : (pc : Int) + off = (tgt : Int)) (kk : AW M R Z cu su n h tgt L st) : AW M R Z cu su n h pc L (aI a :: st) := by
  intro p l e s m args below meth c G H locs ls C Wd hS hl
  exact lv_lookup C.1 C.2.1 hd hp (by rw [iI_of ha]; exact ho) ht (kk p l e s m args below meth c G H locs ls C Wd hS hl)
end AWS
