/-! rows of the abstract machine: calls -/
theorem am_AOA_moved {u U : State} (hvm : u.vm.Alike U.vm) (h : (Cond.arrayOver (.array .int)).before #[] u = true) : (Cond.arrayOver (.array .int)).before #[] U = true := by
  obtain ⟨comp, c, k, h1, h2, h3, h4, h5⟩ := arrayOverA_spec h
  obtain ⟨k', hk', he⟩ := hvm.2.2 _ _ h3
  have e0 : U.vm.bare = u.vm.bare := by first | exact hvm.bare_eq | exact hvm.bare_eq.symm
  have hi := ((va_idx_bare U.vm comp).symm.trans (congrArg (fun v : Vm => v.classes.findIdx? fun (x : Class) => match x.kind with | .array component _ => component == comp | _ => false) e0)).trans ((va_idx_bare u.vm comp).trans h2)
  have hkind : k'.kind = .array comp (.array .int) := by rw [he]; exact h4
  have f1 : U.vm.findClass (FieldType.array .int).toString = some comp := by rw [hvm.findClass]; exact h1
  have f2 : U.vm.findClass ("[" ++ (FieldType.array .int).toString) = some c := by rw [hvm.findClass]; exact h5
  unfold Cond.before Cond.holds
  simp only [Cond.value]
  rw [f1, Option.bind_some]
  refine (congrArg (fun o : Option Nat => (o.bind (fun c => (U.vm.classes[c]?).map fun (k : Class) => match k.kind with | .array _ ty => decide (ty = FieldType.array .int) && decide (U.vm.findClass ("[" ++ (FieldType.array .int).toString) = some c) | _ => false) == some true)) hi).trans ?_
  simp [hk', hkind, f2]
theorem am_K.warm {G : AG} {s U : State} (hW : s.WarmedH U.vm) (h : am_K G s) : am_K G U := ⟨va_K.moved hW.alike h.1, fun q hq => (h.2.1 q hq).warmM hW, va_AO.moved hW.alike h.2.2.1, am_AOA_moved hW.alike h.2.2.2⟩
theorem am_K.same {G : AG} {u U : State} (e : u.vm = U.vm) (h : am_K G u) : am_K G U := ⟨va_K.moved (by rw [e]; exact Vm.Alike.refl _) h.1, fun q hq => (h.2.1 q hq).same rfl e, va_AO.moved (by rw [e]; exact Vm.Alike.refl _) h.2.2.1, am_AOA_moved (by rw [e]; exact Vm.Alike.refl _) h.2.2.2⟩
theorem am_blind (G : AG) (n : Nat) (h : AH) (as : List AV) : FrameBlind (am_P G n h as) := fun a U g mk q => ⟨q.1, q.2.1, am_K.same (U := U.calling g mk a) rfl q.2.2.1, va_X.moved (U := U.calling g mk a) (Vm.Alike.refl U.vm) q.2.2.2.1, q.2.2.2.2⟩
theorem am_pre {M : AM} {G : AG} {p : Program} {s : State} {m : MethodId} {args : Array Value} {meth : Method} {c : Code} {n : Nat} {h : AH} {H : Heap} {locs : List Loc} (C : am_C M G p s m args meth c) (Wd : am_W G n h H) (hS : va_S (fun q => G.1 ≤ q) s.heap H locs) (as : List AV) :
    ∀ U : State, U.heap = H → s.WarmedH U.vm → am_P G n h as (as.map (am_v G)).toArray U := by
  intro U hU hW
  obtain ⟨-, -, -, -, -, -, -, -, hK, hX, hb, hbs⟩ := C
  refine ⟨rfl, by rw [hU]; exact Wd, hK.warm hW, ?_, hb⟩
  refine va_X.moved hW.alike ?_
  refine hX.kept ?_
  rw [hU]
  exact hS.2.1 _ (by omega) (by omega)
theorem am_good {w : Cond} (hc : w ∈ TT) : GoodIn TT (w :: TT) := fun x hx => by
  rcases List.mem_cons.mp hx with rfl | hx
  · exact ⟨hc, tt_good hc⟩
  · exact ⟨hx, tt_good hx⟩
def ac_B (N : AM) : Prop := Cond.code N.1 N.2.1 N.2.2.1 N.2.2.2.1 ∈ TT ∧ Cond.initialized N.1.cls ∈ TT ∧ (N.1.cls ≠ "java/lang/invoke/MethodHandle" ∧ N.1.cls ≠ "java/lang/invoke/VarHandle" ∧ (parseMethodDescriptor N.1.desc).map (fun d => d.parameters.length) = some N.2.2.2.2) ∧ N.2.2.1 ≤ 40
def ac_V (own : String) (idx : Nat) (N : AM) : Prop := ac_B N ∧ Cond.methodLink own idx N.1 ∈ TT ∧ Cond.instanceMethod N.1 ∈ TT ∧ Cond.selects N.1.cls N.1 N.1 ∈ TT
def ac_S (own : String) (idx : Nat) (N : AM) : Prop := ac_B N ∧ Cond.methodLink own idx N.1 ∈ TT ∧ Cond.static N.1 ∈ TT
def ac_T (own : String) (idx : Nat) (N : AM) : Prop := ac_B N ∧ (∃ host, (own, idx, N.1, host) ∈ am_nest) ∧ Cond.static N.1 ∈ TT
def ac_I (own : String) (idx : Nat) (N : AM) : Prop := ac_B N ∧ Cond.methodLink own idx N.1 ∈ TT ∧ Cond.instanceMethod N.1 ∈ TT ∧ N.1.name = "<init>" ∧ N.2.2.2.1 = none
def ac_J (own : String) (idx : Nat) (N : AM) : Prop := ac_B N ∧ (∃ host, (own, idx, N.1, host) ∈ am_nest) ∧ Cond.instanceMethod N.1 ∈ TT ∧ N.1.name = "<init>" ∧ N.2.2.2.1 = none
theorem am_cats (G : AG) (st : List AV) : ((st.map (am_v G)).map fun v => v.category).sum = (st.map am_cat).sum := by
  rw [List.map_map]
  congr 1
  apply List.map_congr_left
  intro v _
  exact am_cat_v G v
section AWC
variable {p : Program} {l : Launch} {e : Env} {R : Room} {s : State} {m : MethodId} {args : Array Value} {below : List Frame} {meth : Method} {c : Code} {H : Heap} {locs : List Loc} {cells slots : Nat} {Qw : State → Prop}
theorem am_call {G : AG} {Q' : AQ} {mc ms pc : Nat} {ls : Array Slot} {st0 rest : List Value} {a : Array Value} (hr : va_Run p l e R s m args below meth c H locs cells slots mc ms (F0 m pc ls st0) rest (am_Q G Q' a) (fun q => G.1 ≤ q)) (hS : va_S (fun q => G.1 ≤ q) s.heap H locs)
    (kk : ∀ (r : Option AV) (n' : Nat) (h' : AH) (H1 : Heap) (locs1 : List Loc), Q' r n' h' → am_W G n' h' H1 → va_S (fun q => G.1 ≤ q) s.heap H1 locs1 → W p l e R s m args below meth c H1 locs1 (cells + mc) (slots + ms) Qw (F0 m (pc + 3) ls ((r.map (am_v G)).toList ++ rest))) :
    W p l e R s m args below meth c H locs cells slots Qw (F0 m pc ls st0) := by
  intro T hT X
  obtain ⟨v, st₀, t, T', L, h0, X', hL, e1, e2, ⟨⟨r, n', h', hv, hq, hw⟩, hz, hk⟩, st⟩ := hr T hT X
  cases hv
  rw [h0] at hz hk
  obtain ⟨t2, a1, b1⟩ := kk r n' h' T'.heap (locs ++ L) hq (by rw [e1]; exact hw)
    ⟨Nat.le_trans hS.1 (by rw [e1]; exact hz), fun q h1 h2 => by rw [e1, hk q (Nat.lt_of_lt_of_le h1 hS.1) h2]; exact hS.2.1 q h1 h2, fun q hq => by
      rcases List.mem_append.mp hq with h | h
      · exact hS.2.2 q h
      · exact hL q h⟩ T' rfl X'
  exact ⟨t2, st t2 a1, b1⟩
end AWC
theorem am_toList (G : AG) (r : Option AV) (st : List AV) : (r.map (am_v G)).toList ++ st.map (am_v G) = (r.toList ++ st).map (am_v G) := by
  cases r <;> rfl
theorem am_slen (G : AG) (as : List AV) : (lg_sl (as.map (am_v G))).length = (as.map am_cat).sum := by
  induction as with
  | nil => rfl
  | cons v t ih =>
    have e : lg_sl ((v :: t).map (am_v G)) = (if (am_v G v).category = 2 then [.val (am_v G v), .second] else [.val (am_v G v)]) ++ lg_sl (t.map (am_v G)) := rfl
    rw [e, List.length_append, ih, am_cat_v]
    rcases v with a | a | r
    · rfl
    · rfl
    · rfl
section AWD
variable {M N : AM} {R : Room} {Z : AZ} {cu su n : Nat} {h : AH} {pc : Nat} {L : List (Option AV)} {st : List AV} {d mc ms idx : Nat} {Q' : AQ} {As : List AV} {b ci : Nat} {fs : List AV}
theorem aw_callV (hc : ac_V M.1.cls idx N) (hM : AC N d mc ms n h (aR b :: As) Q') (hb : h b = aO ci fs) (hci : (vwCl[ci]?).map (fun q => q.1) = some N.1.cls) (hn : As.length = N.2.2.2.2) (hf : d + 1 ≤ R.frames) (hlo : 64 * d + 59 ≤ R.locals) (h1 : cu + mc ≤ R.cells) (h2 : su + ms ≤ R.slots) (hw : (st.map am_cat).sum ≤ 8) (hd : decode M.2.1 pc = .ok (.invokevirtual idx, 3))
    (kk : ∀ r n' h', Q' r n' h' → AW M R Z (cu + mc) (su + ms) n' h' (pc + 3) L (r.toList ++ st)) : AW M R Z cu su n h pc L (As.reverse ++ aR b :: st) := by
  intro p l e s m args below meth c G H locs ls C Wd hS hl
  obtain ⟨⟨c1, c2, c3, c4⟩, c5, c6, c7⟩ := hc
  cases hq : vwCl[ci]? with
  | none => rw [hq] at hci; cases hci
  | some q =>
  rw [hq] at hci
  have hqc : q.1 = N.1.cls := Option.some.inj hci
  obtain ⟨k0, rfl, hk0⟩ := Wd.ix hb (am_nd hq fs)
  have hts := C.2.2.2.2.2.2.2.1
  have he : (am_ws G n h)[k0]? = some (G.1 + k0, .inr (ci, fs.map (am_v G))) := by rw [am_get hk0, hb]; rfl
  have hrecv := va_recv C.2.2.2.2.2.2.2.2.1.1 Wd.2.2 hq he
  rw [hqc] at hrecv
  have hpre := am_pre C Wd hS (aR (k0 + 1) :: As)
  have hrun := va_runV (H := H) (locs := locs) (cells := cu) (slots := su) (below := below) (meth := meth) (e := e) (R := R) (g := F0 m pc ls ((As.reverse ++ aR (k0 + 1) :: st).map (am_v G))) (Ts := TT) (b := G.1 + k0) (As := As.map (am_v G)) (rest := st.map (am_v G)) (n := N.2.2.2.2) (own := M.1.cls) (C := N.1.cls) ⟨C.1, C.2.1, C.2.2.2.1, C.2.2.2.2.1, hts⟩ (hM l G)
    ⟨callB_of N.2.2.2.2 hts (am_good c1) rfl rfl rfl (hts _ c2) (hts _ c5) c3 ⟨hf, by show 8 + (N.2.2.1 + 11) + 64 * d ≤ R.locals; omega⟩, hts _ c6, hts _ c7⟩
    ⟨am_blind G n h _, hrecv, hpre⟩ rfl (by rw [List.length_map]; exact hn) hl.1 (by simp [am_v, am_adr]) (lv_room (by rw [am_cats]; exact hw)) hd ⟨h1, h2⟩
  refine am_call hrun hS (fun r n' h' H1 locs1 hq' hw' hS' => ?_)
  rw [am_toList]
  exact kk r n' h' hq' p l e s m args below meth c G H1 locs1 ls C hw' hS' hl
theorem aw_callS (hc : ac_S M.1.cls idx N) (hM : AC N d mc ms n h As Q') (hn : As.length = N.2.2.2.2) (hf : d + 1 ≤ R.frames) (hlo : 64 * d + 59 ≤ R.locals) (h1 : cu + mc ≤ R.cells) (h2 : su + ms ≤ R.slots) (hw : (st.map am_cat).sum ≤ 8) (hd : decode M.2.1 pc = .ok (.invokestatic idx, 3))
    (kk : ∀ r n' h', Q' r n' h' → AW M R Z (cu + mc) (su + ms) n' h' (pc + 3) L (r.toList ++ st)) : AW M R Z cu su n h pc L (As.reverse ++ st) := by
  intro p l e s m args below meth c G H locs ls C Wd hS hl
  obtain ⟨⟨c1, c2, c3, c4⟩, c5, c6⟩ := hc
  have hts := C.2.2.2.2.2.2.2.1
  have hpre := am_pre C Wd hS As
  have hrun := va_runS (H := H) (locs := locs) (cells := cu) (slots := su) (below := below) (meth := meth) (e := e) (R := R) (g := F0 m pc ls ((As.reverse ++ st).map (am_v G))) (Ts := TT) (As := As.map (am_v G)) (rest := st.map (am_v G)) (n := N.2.2.2.2) (own := M.1.cls) ⟨C.1, C.2.1, C.2.2.2.1, C.2.2.2.2.1, hts⟩ (hM l G)
    ⟨callB_of N.2.2.2.2 hts (am_good c1) rfl rfl rfl (hts _ c2) (hts _ c5) c3 ⟨hf, by show 8 + (N.2.2.1 + 11) + 64 * d ≤ R.locals; omega⟩, hts _ c6⟩
    ⟨am_blind G n h _, hpre⟩ rfl (by rw [List.length_map]; exact hn) hl.1 (by simp) (lv_room (by rw [am_cats]; exact hw)) hd ⟨h1, h2⟩
  refine am_call hrun hS (fun r n' h' H1 locs1 hq' hw' hS' => ?_)
  rw [am_toList]
  exact kk r n' h' hq' p l e s m args below meth c G H1 locs1 ls C hw' hS' hl
theorem aw_callT (hc : ac_T M.1.cls idx N) (hM : AC N d mc ms n h As Q') (hn : As.length = N.2.2.2.2) (hf : d + 1 ≤ R.frames) (hlo : 64 * d + 59 ≤ R.locals) (h1 : cu + mc ≤ R.cells) (h2 : su + ms ≤ R.slots) (hw : (st.map am_cat).sum ≤ 8) (hd : decode M.2.1 pc = .ok (.invokestatic idx, 3))
    (kk : ∀ r n' h', Q' r n' h' → AW M R Z (cu + mc) (su + ms) n' h' (pc + 3) L (r.toList ++ st)) : AW M R Z cu su n h pc L (As.reverse ++ st) := by
  intro p l e s m args below meth c G H locs ls C Wd hS hl
  obtain ⟨⟨c1, c2, c3, c4⟩, ⟨host, c5⟩, c6⟩ := hc
  have hts := C.2.2.2.2.2.2.2.1
  have hpre := am_pre C Wd hS As
  have hrun := va_runSN (H := H) (locs := locs) (cells := cu) (slots := su) (below := below) (meth := meth) (e := e) (R := R) (g := F0 m pc ls ((As.reverse ++ st).map (am_v G))) (Ts := TT) (As := As.map (am_v G)) (rest := st.map (am_v G)) (n := N.2.2.2.2) (own := M.1.cls) ⟨C.1, C.2.1, C.2.2.2.1, C.2.2.2.2.1, hts⟩ (hM l G)
    ⟨va_cnB N.2.2.2.2 hts (am_good c1) rfl rfl rfl (C.2.2.2.2.2.2.2.2.1.2.1 _ c5) (hts _ c2) c3 ⟨hf, by show 8 + (N.2.2.1 + 11) + 64 * d ≤ R.locals; omega⟩, hts _ c6, trivial⟩
    ⟨am_blind G n h _, hpre⟩ rfl (by rw [List.length_map]; exact hn) hl.1 (by simp) (lv_room (by rw [am_cats]; exact hw)) hd ⟨h1, h2⟩
  refine am_call hrun hS (fun r n' h' H1 locs1 hq' hw' hS' => ?_)
  rw [am_toList]
  exact kk r n' h' hq' p l e s m args below meth c G H1 locs1 ls C hw' hS' hl
theorem aw_callI (hc : ac_I M.1.cls idx N) (hM : AC N d mc ms n h (aR b :: As) Q') (hb : h b = aO ci fs) (hci : (vwCl[ci]?).isSome = true) (hn : As.length = N.2.2.2.2) (hf : d + 1 ≤ R.frames) (hlo : 64 * d + 59 ≤ R.locals) (h1 : cu + mc ≤ R.cells) (h2 : su + ms ≤ R.slots) (hw : (st.map am_cat).sum ≤ 8) (hd : decode M.2.1 pc = .ok (.invokespecial idx, 3))
    (kk : ∀ r n' h', Q' r n' h' → AW M R Z (cu + mc) (su + ms) n' h' (pc + 3) L (r.toList ++ st)) : AW M R Z cu su n h pc L (As.reverse ++ aR b :: st) := by
  intro p l e s m args below meth c G H locs ls C Wd hS hl
  obtain ⟨⟨c1, c2, c3, c4⟩, c5, c6, c7, c8⟩ := hc
  obtain ⟨q, hq⟩ := Option.isSome_iff_exists.mp hci
  obtain ⟨k0, rfl, hk0⟩ := Wd.ix hb (am_nd hq fs)
  have hts := C.2.2.2.2.2.2.2.1
  have hpre := am_pre C Wd hS (aR (k0 + 1) :: As)
  have hM' := hM l G
  rw [c8] at hM' c1
  have hrun := va_runI (H := H) (locs := locs) (cells := cu) (slots := su) (below := below) (meth := meth) (e := e) (R := R) (g := F0 m pc ls ((As.reverse ++ aR (k0 + 1) :: st).map (am_v G))) (Ts := TT) (b := G.1 + k0) (As := As.map (am_v G)) (rest := st.map (am_v G)) (n := N.2.2.2.2) (own := M.1.cls) ⟨C.1, C.2.1, C.2.2.2.1, C.2.2.2.2.1, hts⟩ hM'
    ⟨callB_of N.2.2.2.2 hts (am_good c1) rfl rfl rfl (hts _ c2) (hts _ c5) c3 ⟨hf, by show 8 + (N.2.2.1 + 11) + 64 * d ≤ R.locals; omega⟩, c7, hts _ c6⟩
    ⟨am_blind G n h _, hpre⟩ rfl (by rw [List.length_map]; exact hn) hl.1 (by simp [am_v, am_adr]) (lv_room (by rw [am_cats]; exact hw)) hd ⟨h1, h2⟩
  refine am_call hrun hS (fun r n' h' H1 locs1 hq' hw' hS' => ?_)
  rw [am_toList]
  exact kk r n' h' hq' p l e s m args below meth c G H1 locs1 ls C hw' hS' hl
theorem aw_callJ (hc : ac_J M.1.cls idx N) (hM : AC N d mc ms n h (aR b :: As) Q') (hb : h b = aO ci fs) (hci : (vwCl[ci]?).isSome = true) (hn : As.length = N.2.2.2.2) (hf : d + 1 ≤ R.frames) (hlo : 64 * d + 59 ≤ R.locals) (h1 : cu + mc ≤ R.cells) (h2 : su + ms ≤ R.slots) (hw : (st.map am_cat).sum ≤ 8) (hd : decode M.2.1 pc = .ok (.invokespecial idx, 3))
    (kk : ∀ r n' h', Q' r n' h' → AW M R Z (cu + mc) (su + ms) n' h' (pc + 3) L (r.toList ++ st)) : AW M R Z cu su n h pc L (As.reverse ++ aR b :: st) := by
  intro p l e s m args below meth c G H locs ls C Wd hS hl
  obtain ⟨⟨c1, c2, c3, c4⟩, ⟨host, c5⟩, c6, c7, c8⟩ := hc
  obtain ⟨q, hq⟩ := Option.isSome_iff_exists.mp hci
  obtain ⟨k0, rfl, hk0⟩ := Wd.ix hb (am_nd hq fs)
  have hts := C.2.2.2.2.2.2.2.1
  have hpre := am_pre C Wd hS (aR (k0 + 1) :: As)
  have hM' := hM l G
  rw [c8] at hM' c1
  have hrun := va_runIN (H := H) (locs := locs) (cells := cu) (slots := su) (below := below) (meth := meth) (e := e) (R := R) (g := F0 m pc ls ((As.reverse ++ aR (k0 + 1) :: st).map (am_v G))) (Ts := TT) (b := G.1 + k0) (As := As.map (am_v G)) (rest := st.map (am_v G)) (n := N.2.2.2.2) (own := M.1.cls) ⟨C.1, C.2.1, C.2.2.2.1, C.2.2.2.2.1, hts⟩ hM'
    ⟨va_cnB N.2.2.2.2 hts (am_good c1) rfl rfl rfl (C.2.2.2.2.2.2.2.2.1.2.1 _ c5) (hts _ c2) c3 ⟨hf, by show 8 + (N.2.2.1 + 11) + 64 * d ≤ R.locals; omega⟩, c7, hts _ c6⟩
    ⟨am_blind G n h _, hpre⟩ rfl (by rw [List.length_map]; exact hn) hl.1 (by simp [am_v, am_adr]) (lv_room (by rw [am_cats]; exact hw)) hd ⟨h1, h2⟩
  refine am_call hrun hS (fun r n' h' H1 locs1 hq' hw' hS' => ?_)
  rw [am_toList]
  exact kk r n' h' hq' p l e s m args below meth c G H1 locs1 ls C hw' hS' hl
theorem AC.of {Q : AQ} (hp : plainName M.1.cls = true) (hl : (As.map am_cat).sum ≤ M.2.2.1) (body : AW M (am_R d mc ms) (am_Z Q mc ms) 0 0 n h 0 (am_L0 As M.2.2.1) []) : AC M d mc ms n h As Q := by
  intro l G
  refine Met.ofW (cc := M.2.1) (maxL := M.2.2.1) (ret := M.2.2.2.1) hp rfl ?_
  intro p e s m args below meth c s₁ B hml hv
  obtain ⟨rfl, hW, hK, hX, hb⟩ := hv
  have hts := atoms_spec (ws := Cond.code M.1 M.2.1 M.2.2.1 M.2.2.2.1 :: TT) B.pre
  have hlen : (lg_sl (As.map (am_v G))).length ≤ M.2.2.1 := by rw [am_slen]; exact hl
  have hll := lv_entry (As.map (am_v G)) (n := M.2.2.1) hlen
  rw [lg_entry_eq]
  generalize (lg_sl (As.map (am_v G)) ++ List.replicate (M.2.2.1 - (lg_sl (As.map (am_v G))).length) Slot.unset).toArray = ls at hll ⊢
  have hll2 : am_l G ls M.2.2.1 (am_L0 As M.2.2.1) := by
    refine ⟨hll.1, hll.2.1, fun i v hv => ?_⟩
    have := hll.2.2 _ (lk_L0 G As M.2.2.1 0 i v hv)
    simpa using this
  exact body p l e s m _ below meth c G s.heap [] ls ⟨B.exec, B.bytes, B.returns, hml, findClass_of_methodNamed B.named, B.notSynchronized, (name_of_methodNamed B.named B.method).1, fun w hw => hts w (List.mem_cons_of_mem _ hw), hK, hX, hb, by rw [hW.1]; omega⟩ hW va_S.rf hll2
end AWD
