/-! the abstract machine: what a state is, and what a judgement over it says of the real one -/
abbrev AV : Type := Int ⊕ Int ⊕ Option Nat
abbrev aI (a : Int) : AV := Sum.inl a
abbrev aL (a : Int) : AV := Sum.inr (Sum.inl a)
abbrev aR (r : Nat) : AV := Sum.inr (Sum.inr (some r))
abbrev aN : AV := Sum.inr (Sum.inr none)
abbrev AE : Type := (Nat × Nat × ((Nat → Int) ⊕ (Nat → Option Nat))) ⊕ (Nat × List AV)
abbrev aA (t len : Nat) (f : Nat → Int) : AE := Sum.inl (t, len, Sum.inl f)
abbrev aQ (t len : Nat) (f : Nat → Option Nat) : AE := Sum.inl (t, len, Sum.inr f)
abbrev aO (c : Nat) (fs : List AV) : AE := Sum.inr (c, fs)
abbrev aDead : AE := aO 99 []
abbrev AH : Type := Nat → AE
/-- base, the script's address, class numbers, slots, array classes' numbers, the script's length and ints -/
abbrev AG : Type := Nat × Nat × (Nat → ClassId) × (Nat → Nat → Nat) × (Nat → ClassId) × Nat × (Nat → Int)
def am_adr (G : AG) : Nat → Nat
  | 0 => G.2.1
  | k + 1 => G.1 + k
def am_v (G : AG) : AV → Value
  | .inl a => .int (iI a)
  | .inr (.inl a) => .long (lL a)
  | .inr (.inr none) => .null
  | .inr (.inr (some r)) => .ref (am_adr G r)
def am_e (G : AG) : AE → va_E
  | .inl (t, n, .inl f) => .inl (G.2.2.2.2.1 t, n, if t = 3 then .inr (.inl (fun i => lL (f i))) else .inl (fun i => iI (f i)))
  | .inl (t, n, .inr f) => .inl (G.2.2.2.2.1 t, n, .inr (.inr (.inr (.inr (fun i => (f i).map (am_adr G))))))
  | .inr (c, fs) => .inr (c, fs.map (am_v G))
def am_ws (G : AG) (n : Nat) (h : AH) : va_W := (List.range n).map (fun k => (G.1 + k, am_e G (h (k + 1))))
def am_tys (G : AG) : List (ClassId × FieldType) := [(G.2.2.2.2.1 0, .int), (G.2.2.2.2.1 1, .boolean), (G.2.2.2.2.1 2, .char), (G.2.2.2.2.1 3, .long), (G.2.2.2.2.1 4, .object RX2), (G.2.2.2.2.1 5, .array .int)]
abbrev am_D (G : AG) : va_G := (G.2.2.1, G.2.2.2.1)
def TT : List Cond := lw_tbl.filter goodWord
theorem tt_in {w : Cond} (i : Nat) (h : lw_tbl[i]? = some w) (hg : goodWord w = true) : w ∈ TT := List.mem_filter.mpr ⟨List.mem_of_getElem? h, hg⟩
theorem tt_sub (ws : List Cond) (ps : List Nat) (hp : ws = ps.filterMap (fun i => lw_tbl[i]?)) (h : ws.all goodWord = true) : ∀ w ∈ ws, w ∈ TT := by
  intro w hw
  have h1 := List.all_eq_true.mp h w hw
  rw [hp] at hw
  obtain ⟨i, -, hi⟩ := List.mem_filterMap.mp hw
  exact tt_in i hi h1
theorem tt_good {w : Cond} (h : w ∈ TT) : (w.onTables && w.keeps) = true ∨ ∃ ty, w = .arrayClass ty := good_of_word (List.mem_filter.mp h).2
def am_nest : List (String × Nat × MethodName × String) := [(RX5, 18, yX2_init, RX5), (RX5, 28, yX3_init, RX5), (RX3, 39, yX2_init, RX5), (RX1, 21, yX2_init, RX5), (RX5, 50, yX0_init, RX5), (RX5, 57, yX4_init, RX5), (RX0, 61, yX5_isLength, RX5), (RX4, 26, yX5_splitters, RX5)]
def am_K (G : AG) (s : State) : Prop := va_K (am_D G) vwCl (am_tys G) s ∧ (∀ q ∈ am_nest, va_Nw (.methodLinkNest q.1 q.2.1 q.2.2.1 q.2.2.2) s) ∧ va_AO RX2 s ∧ (Cond.arrayOver (.array .int)).before #[] s = true
def am_W (G : AG) (n : Nat) (h : AH) (H : Heap) : Prop := H.size = G.1 + n ∧ (h 0 = aA 6 G.2.2.2.2.2.1 G.2.2.2.2.2.2 ∧ ∀ i, n < i → h i = aDead) ∧ va_P (am_D G) vwCl (am_ws G n h) H
/-- no script, no empty place -/
def am_ok (e : AE) : Prop := e ≠ aDead ∧ ∀ len f, e ≠ aA 6 len f
/-- a method: its name, code, locals, what it answers, how many arguments -/
abbrev AM : Type := MethodName × ByteArray × Nat × Option FieldType × Nat
abbrev am_X (G : AG) (s : State) (H : Heap) : Prop := va_X G.2.1 G.2.2.2.2.2.1 (fun j => iI (G.2.2.2.2.2.2 j)) s H
def am_C (M : AM) (G : AG) (p : Program) (s : State) (m : MethodId) (args : Array Value) (meth : Method) (c : Code) : Prop :=
  p.tables.exec = Jvm.exec ∧ c.code = M.2.1 ∧ meth.sig.returnType = M.2.2.2.1 ∧ c.maxLocals = M.2.2.1 ∧ s.vm.findClass M.1.cls = some m.cls ∧ meth.locks = false ∧ meth.name = M.1.name ∧ (∀ w ∈ TT, w.before args s = true) ∧ am_K G s ∧ am_X G s s.heap ∧ G.2.1 < G.1 ∧ G.1 ≤ s.heap.size
def lk : List (Option AV) → Nat → Option AV
  | [], _ => none
  | x :: _, 0 => x
  | _ :: t, k + 1 => lk t k
def am_l (G : AG) (ls : Array Slot) (nL : Nat) (L : List (Option AV)) : Prop := ls.size = nL ∧ lv_wf ls ∧ ∀ i v, lk L i = some v → ls[i]? = some (.val (am_v G v))
abbrev AQ : Type := Option AV → Nat → AH → Prop
def am_Q (G : AG) (Q : AQ) : Array Value → State → Outcome → State → Prop := fun _ st oc t => (∃ (r : Option AV) (n : Nat) (h : AH), oc = .returned (r.map (am_v G)) ∧ Q r n h ∧ am_W G n h t.heap) ∧ va_F (fun q => G.1 ≤ q) st t
def am_R (d mc ms : Nat) : Room := { frames := d, cells := mc, slots := ms, locals := 64 * d }
/-- the end that a walk comes to: by the world's numbers, the frames below, the arguments, the state at the start -/
abbrev AZ : Type := AG → List Frame → Array Value → State → State → Prop
def am_Z (Q : AQ) (mc ms : Nat) : AZ := fun G below args s => MQ below (am_Q G Q) args s mc ms (fun q => G.1 ≤ q)
def AW (M : AM) (R : Room) (Z : AZ) (cu su n : Nat) (h : AH) (pc : Nat) (L : List (Option AV)) (st : List AV) : Prop :=
  ∀ (p : Program) (l : Launch) (e : Env) (s : State) (m : MethodId) (args : Array Value) (below : List Frame) (meth : Method) (c : Code) (G : AG) (H : Heap) (locs : List Loc) (ls : Array Slot), am_C M G p s m args meth c → am_W G n h H → va_S (fun q => G.1 ≤ q) s.heap H locs → am_l G ls M.2.2.1 L →
    W p l e R s m args below meth c H locs cu su (Z G below args s) (F0 m pc ls (st.map (am_v G)))
def am_P (G : AG) (n : Nat) (h : AH) (as : List AV) : Array Value → State → Prop := fun v U => v = (as.map (am_v G)).toArray ∧ am_W G n h U.heap ∧ am_K G U ∧ am_X G U U.heap ∧ G.2.1 < G.1
def AC (M : AM) (d mc ms n : Nat) (h : AH) (as : List AV) (Q : AQ) : Prop :=
  ∀ (l : Launch) (G : AG), Met l M.1 (Cond.code M.1 M.2.1 M.2.2.1 M.2.2.2.1 :: TT) (am_R d mc ms) (am_P G n h as) (am_Q G Q) mc ms (fun q => G.1 ≤ q)
-- worlds
theorem am_get {G : AG} {n k : Nat} {h : AH} (hk : k < n) : (am_ws G n h)[k]? = some (G.1 + k, am_e G (h (k + 1))) := by
  simp [am_ws, List.getElem?_map, List.getElem?_range hk]
theorem am_set {G : AG} {n k : Nat} {h : AH} {e : AE} (hk : k < n) : (am_ws G n h).set k (G.1 + k, am_e G e) = am_ws G n (va_up h (k + 1) e) := by
  apply List.ext_getElem?
  intro j
  by_cases hj : j < n
  · rw [am_get hj]
    by_cases hjk : k = j
    · subst hjk
      rw [List.getElem?_set_self (by simp [am_ws, hk])]
      simp [va_up]
    · rw [List.getElem?_set_ne hjk, am_get hj]
      simp [va_up, show ¬ j = k by omega]
  · rw [List.getElem?_eq_none (by simp [am_ws]; omega), List.getElem?_eq_none (by simp [am_ws]; omega)]
theorem am_Dj {G : AG} {n : Nat} {h : AH} : va_D (fun q => G.1 ≤ q) (am_ws G n h) := by
  refine ⟨fun i j p q hi hj hpq => ?_, fun k q hk => ?_⟩
  · have h1 : i < n := by have := (List.getElem?_eq_some_iff.mp hi).1; simpa [am_ws] using this
    have h2 : j < n := by have := (List.getElem?_eq_some_iff.mp hj).1; simpa [am_ws] using this
    rw [am_get h1] at hi
    rw [am_get h2] at hj
    cases hi
    cases hj
    simpa using hpq
  · have h1 : k < n := by have := (List.getElem?_eq_some_iff.mp hk).1; simpa [am_ws] using this
    rw [am_get h1] at hk
    cases hk
    simp
theorem am_W.ix {G : AG} {n : Nat} {h : AH} {H : Heap} (w : am_W G n h H) {r : Nat} {e : AE} (hr : h r = e) (hn : am_ok e) : ∃ k, r = k + 1 ∧ k < n := by
  cases r with
  | zero => exact absurd (hr.symm.trans w.2.1.1) (hn.2 _ _)
  | succ k =>
    refine ⟨k, rfl, ?_⟩
    rcases Nat.lt_or_ge k n with q | q
    · exact q
    · exact absurd (hr.symm.trans (w.2.1.2 (k + 1) (by omega))) hn.1
theorem am_W.put {G : AG} {n k : Nat} {h : AH} {H H1 : Heap} {e : AE} (w : am_W G n h H) (hk : k < n) (hz : H1.size = H.size) (hP : va_P (am_D G) vwCl ((am_ws G n h).set k (G.1 + k, am_e G e)) H1) : am_W G n (va_up h (k + 1) e) H1 := by
  refine ⟨hz.trans w.1, ⟨?_, fun i hi => ?_⟩, ?_⟩
  · rw [show va_up h (k + 1) e 0 = h 0 from if_neg (by omega)]
    exact w.2.1.1
  · rw [show va_up h (k + 1) e i = h i from if_neg (by omega)]
    exact w.2.1.2 i hi
  · rw [← am_set hk]
    exact hP
theorem am_W.push {G : AG} {n : Nat} {h : AH} {H H1 : Heap} {e : AE} (w : am_W G n h H) (z : H1.size = H.size + 1) (o : ∀ q : Nat, q < H.size → H1[q]? = H[q]?) (hnew : va_at (am_D G) vwCl (G.1 + n, am_e G e) H1) : am_W G (n + 1) (va_up h (n + 1) e) H1 := by
  refine ⟨by rw [z, w.1]; omega, ⟨?_, fun i hi => ?_⟩, fun k q hq => ?_⟩
  · rw [show va_up h (n + 1) e 0 = h 0 from if_neg (by omega)]
    exact w.2.1.1
  · rw [show va_up h (n + 1) e i = h i from if_neg (by omega)]
    exact w.2.1.2 i (by omega)
  · have h1 : k < n + 1 := by have := (List.getElem?_eq_some_iff.mp hq).1; simpa [am_ws] using this
    rw [am_get h1] at hq
    cases hq
    by_cases hk : k = n
    · subst hk
      rw [show va_up h (k + 1) e (k + 1) = e from if_pos rfl]
      exact hnew
    · rw [show va_up h (n + 1) e (k + 1) = h (k + 1) from if_neg (by omega)]
      have h2 : k < n := by omega
      refine (w.2.2 k _ (am_get h2)).kept (o _ ?_)
      rw [w.1]
      show G.1 + k < G.1 + n
      omega
-- locals
def stI : List (Option AV) → Nat → AV → List (Option AV)
  | [], _, _ => []
  | _ :: t, 0, v => some v :: t
  | x :: t, 1, v => (match x with | some (.inr (.inl _)) => none | y => y) :: stI t 0 v
  | x :: t, k + 2, v => x :: stI t (k + 1) v
def st0 : List (Option AV) → List (Option AV)
  | [] => []
  | _ :: t => none :: t
def stJ : List (Option AV) → Nat → AV → List (Option AV)
  | [], _, _ => []
  | _ :: t, 0, v => some v :: st0 t
  | x :: t, 1, v => (match x with | some (.inr (.inl _)) => none | y => y) :: stJ t 0 v
  | x :: t, k + 2, v => x :: stJ t (k + 1) v
def am_cat : AV → Nat
  | .inl _ => 1
  | .inr (.inl _) => 2
  | .inr (.inr _) => 1
theorem am_cat_v (G : AG) (v : AV) : (am_v G v).category = am_cat v := by
  rcases v with a | a | r
  · rfl
  · rfl
  · cases r <;> rfl
theorem lk_stI (L : List (Option AV)) : ∀ (i : Nat) (v : AV) (j : Nat) (w : AV), lk (stI L i v) j = some w → (j = i ∧ w = v) ∨ (j ≠ i ∧ lk L j = some w ∧ ¬ (j + 1 = i ∧ am_cat w = 2)) := by
  induction L with
  | nil => intro i v j w h; cases i <;> simp [stI, lk] at h
  | cons x t ih =>
    intro i v j w h
    match i, j with
    | 0, 0 => simp [stI, lk] at h; exact Or.inl ⟨rfl, h.symm⟩
    | 0, j + 1 => simp [stI, lk] at h; exact Or.inr ⟨by omega, by simpa [lk] using h, by omega⟩
    | 1, 0 =>
      simp only [stI, lk] at h
      refine Or.inr ⟨by omega, ?_, ?_⟩
      · simp only [lk]
        split at h
        · cases h
        · exact h
      · rintro ⟨-, hc⟩
        split at h
        · cases h
        · rename_i hx
          subst h
          rcases w with a | a | r
          · simp [am_cat] at hc
          · exact hx a rfl
          · simp [am_cat] at hc
    | 1, j + 1 =>
      simp only [stI, lk] at h
      rcases ih 0 v j w h with ⟨h1, h2⟩ | ⟨h1, h2, h3⟩
      · exact Or.inl ⟨by omega, h2⟩
      · exact Or.inr ⟨by omega, h2, by omega⟩
    | k + 2, 0 =>
      simp only [stI, lk] at h
      exact Or.inr ⟨by omega, h, by omega⟩
    | k + 2, j + 1 =>
      simp only [stI, lk] at h
      rcases ih (k + 1) v j w h with ⟨h1, h2⟩ | ⟨h1, h2, h3⟩
      · exact Or.inl ⟨by omega, h2⟩
      · exact Or.inr ⟨by omega, h2, fun q => h3 ⟨by omega, q.2⟩⟩
theorem lk_stJ (L : List (Option AV)) : ∀ (i : Nat) (v : AV) (j : Nat) (w : AV), lk (stJ L i v) j = some w → (j = i ∧ w = v) ∨ (j ≠ i ∧ j ≠ i + 1 ∧ lk L j = some w ∧ ¬ (j + 1 = i ∧ am_cat w = 2)) := by
  induction L with
  | nil => intro i v j w h; cases i <;> simp [stJ, lk] at h
  | cons x t ih =>
    intro i v j w h
    match i, j with
    | 0, 0 => simp [stJ, lk] at h; exact Or.inl ⟨rfl, h.symm⟩
    | 0, 1 => cases t <;> simp [stJ, st0, lk] at h
    | 0, j + 2 =>
      cases t with
      | nil => simp [stJ, st0, lk] at h
      | cons y t2 => simp [stJ, st0, lk] at h; exact Or.inr ⟨by omega, by omega, by simpa [lk] using h, by omega⟩
    | 1, 0 =>
      simp only [stJ, lk] at h
      refine Or.inr ⟨by omega, by omega, ?_, ?_⟩
      · simp only [lk]
        split at h
        · cases h
        · exact h
      · rintro ⟨-, hc⟩
        split at h
        · cases h
        · rename_i hx
          subst h
          rcases w with a | a | r
          · simp [am_cat] at hc
          · exact hx a rfl
          · simp [am_cat] at hc
    | 1, j + 1 =>
      simp only [stJ, lk] at h
      rcases ih 0 v j w h with ⟨h1, h2⟩ | ⟨h1, h2, h3, h4⟩
      · exact Or.inl ⟨by omega, h2⟩
      · exact Or.inr ⟨by omega, by omega, h3, by omega⟩
    | k + 2, 0 =>
      simp only [stJ, lk] at h
      exact Or.inr ⟨by omega, by omega, h, by omega⟩
    | k + 2, j + 1 =>
      simp only [stJ, lk] at h
      rcases ih (k + 1) v j w h with ⟨h1, h2⟩ | ⟨h1, h2, h3, h4⟩
      · exact Or.inl ⟨by omega, h2⟩
      · exact Or.inr ⟨by omega, by omega, h3, fun q => h4 ⟨by omega, q.2⟩⟩
def lk_all (G : AG) (L : List (Option AV)) : List (Nat × Value) := (List.range L.length).filterMap (fun i => (lk L i).map (fun v => (i, am_v G v)))
theorem lk_lt {L : List (Option AV)} : ∀ {i : Nat} {v : AV}, lk L i = some v → i < L.length := by
  induction L with
  | nil => intro i v h; cases i <;> simp [lk] at h
  | cons x t ih =>
    intro i v h
    cases i with
    | zero => simp
    | succ i => simp only [lk] at h; have := ih h; simp; exact this
theorem lk_mem {G : AG} {L : List (Option AV)} {i : Nat} {v : AV} (h : lk L i = some v) : (i, am_v G v) ∈ lk_all G L :=
  List.mem_filterMap.mpr ⟨i, List.mem_range.mpr (lk_lt h), by rw [h]; rfl⟩
theorem am_l.has {G : AG} {ls : Array Slot} {nL : Nat} {L : List (Option AV)} (h : am_l G ls nL L) : lv_has ls nL (lk_all G L) := by
  refine ⟨h.1, h.2.1, fun q hq => ?_⟩
  obtain ⟨i, -, hi⟩ := List.mem_filterMap.mp hq
  cases hx : lk L i with
  | none => rw [hx] at hi; cases hi
  | some v => rw [hx] at hi; cases hi; exact h.2.2 i v hx
theorem am_l.st1 {G : AG} {ls : Array Slot} {nL : Nat} {L : List (Option AV)} {i : Nat} {v : AV} (h : lv_has ls nL ((i, am_v G v) :: (lk_all G L).filter (fun q => !(q.1 == i) && !(q.1 + 1 == i && q.2.category == 2)))) : am_l G ls nL (stI L i v) := by
  refine ⟨h.1, h.2.1, fun j w hj => ?_⟩
  rcases lk_stI L i v j w hj with ⟨rfl, rfl⟩ | ⟨h1, h2, h3⟩
  · exact h.2.2 _ List.mem_cons_self
  · refine h.2.2 (j, am_v G w) (List.mem_cons_of_mem _ (List.mem_filter.mpr ⟨lk_mem h2, ?_⟩))
    simp only [am_cat_v]
    simp [h1]
    omega
theorem am_l.st2 {G : AG} {ls : Array Slot} {nL : Nat} {L : List (Option AV)} {i : Nat} {v : AV} (h : lv_has ls nL ((i, am_v G v) :: (lk_all G L).filter (fun q => !(q.1 == i) && (!(q.1 == i + 1) && !(q.1 + 1 == i && q.2.category == 2))))) : am_l G ls nL (stJ L i v) := by
  refine ⟨h.1, h.2.1, fun j w hj => ?_⟩
  rcases lk_stJ L i v j w hj with ⟨rfl, rfl⟩ | ⟨h1, h2, h3, h4⟩
  · exact h.2.2 _ List.mem_cons_self
  · refine h.2.2 (j, am_v G w) (List.mem_cons_of_mem _ (List.mem_filter.mpr ⟨lk_mem h3, ?_⟩))
    simp only [am_cat_v]
    simp [h1, h2]
    omega
def am_L0 : List AV → Nat → List (Option AV)
  | [], n => List.replicate n none
  | .inl a :: t, n => some (.inl a) :: am_L0 t (n - 1)
  | .inr (.inl a) :: t, n => some (.inr (.inl a)) :: none :: am_L0 t (n - 2)
  | .inr (.inr r) :: t, n => some (.inr (.inr r)) :: am_L0 t (n - 1)
theorem lk_rep (n : Nat) : ∀ (i : Nat) (v : AV), lk (List.replicate n none) i = some v → False := by
  induction n with
  | zero => intro i v h; cases i <;> simp [lk] at h
  | succ n ih =>
    intro i v h
    cases i with
    | zero => simp [List.replicate, lk] at h
    | succ i => simp only [List.replicate, lk] at h; exact ih i v h
theorem lk_L0 (G : AG) (as : List AV) : ∀ (n k i : Nat) (v : AV), lk (am_L0 as n) i = some v → (k + i, am_v G v) ∈ lv_args k (as.map (am_v G)) := by
  induction as with
  | nil => intro n k i v h; exact (lk_rep n i v h).elim
  | cons a t ih =>
    intro n k i v h
    rcases a with a | a | r
    · cases i with
      | zero => simp [am_L0, lk] at h; subst h; simp [lv_args]
      | succ i =>
        simp only [am_L0, lk] at h
        have h2 := ih (n - 1) (k + 1) i v h
        simp only [List.map_cons, lv_args]
        refine List.mem_cons_of_mem _ ?_
        rw [if_neg (by simp [am_v, Value.category])]
        rw [show k + (i + 1) = k + 1 + i by omega]
        exact h2
    · match i with
      | 0 => simp [am_L0, lk] at h; subst h; simp [lv_args]
      | 1 => simp [am_L0, lk] at h
      | i + 2 =>
        simp only [am_L0, lk] at h
        have h2 := ih (n - 2) (k + 2) i v h
        simp only [List.map_cons, lv_args]
        refine List.mem_cons_of_mem _ ?_
        rw [if_pos (by simp [am_v, Value.category])]
        rw [show k + (i + 2) = k + 2 + i by omega]
        exact h2
    · cases i with
      | zero => simp [am_L0, lk] at h; subst h; simp [lv_args]
      | succ i =>
        simp only [am_L0, lk] at h
        have h2 := ih (n - 1) (k + 1) i v h
        simp only [List.map_cons, lv_args]
        refine List.mem_cons_of_mem _ ?_
        rw [if_neg (by cases r <;> simp [am_v, Value.category])]
        rw [show k + (i + 1) = k + 1 + i by omega]
        exact h2
