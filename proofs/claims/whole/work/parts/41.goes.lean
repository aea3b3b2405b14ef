/-! the reference goes through all sums -/
def wS (w : Int) : List (List Int) → Nat → (Nat → Int) → (Nat → Int)
  | [], _, g => g
  | l :: r, f, g => wS w r (f + 1) (fun i => if (f : Int) = w then l.getD i 0 else g i)
theorem wS_app (w : Int) : ∀ (A B : List (List Int)) (f : Nat) (g : Nat → Int), wS w (A ++ B) f g = wS w B (f + A.length) (wS w A f g)
  | [], B, f, g => rfl
  | l :: A, B, f, g => by
    show wS w (A ++ B) (f + 1) _ = _
    rw [wS_app w A B, List.length_cons, show f + 1 + A.length = f + (A.length + 1) by omega]
    rfl
theorem lbS_app : ∀ (A B : List (List Int)) (m : Int), lbS (A ++ B) m = lbS B (lbS A m)
  | [], B, m => rfl
  | l :: A, B, m => lbS_app A B _
def gtH (h : AH) (h0 : AH) (F : Int → List AV) (t : Int) (n k : Nat) (U V : Nat → Int) (l0 : List Int) (wt : Nat → Int) : Prop := h 52 = aO 6 (F t) ∧ (∃ fu, h 61 = aA 3 5 fu ∧ ∀ i, i < k → fu i = U i) ∧ (∃ fl, h 62 = aA 3 5 fl ∧ ∀ i, i < k → fl i = V i) ∧ (∃ fr, h 63 = aA 0 5 fr ∧ ∀ i, i < k → fr i = l0.getD i 0) ∧ (∃ fw, h 64 = aA 0 5 fw ∧ ∀ i, i < n → fw i = wt i) ∧ ∀ j, j ≠ 52 → (j < 61 ∨ 64 < j) → h j = h0 j
theorem sm_next {D m x0 : Nat} {a b : Int} (h : x0 < D) : sm D (m + 1) x0 a b = smF D m a b (x0 + 1) ++ sm D (m + 1) (x0 + 1) a b := by
  rw [sm_succ, sm_succ, show D - x0 = (D - (x0 + 1)) + 1 by omega, smL]
theorem sm_past {D m x0 : Nat} {a b : Int} (h : D ≤ x0) : sm D (m + 1) x0 a b = [] := by
  rw [sm_succ, show D - x0 = 0 by omega]
  rfl
/-- the numbers passed over leave nothing -/
theorem sm_jump {D m x r : Nat} {a b : Int} (hb : 1 ≤ b) (hxr : x ≤ r) (h : ∀ y : Nat, x < y → y ≤ r → a * (y : Int) < b) : sm D (m + 1) r a b = sm D (m + 1) x a b := by
  rw [sm_succ, sm_succ]
  by_cases z : r ≤ D
  · rw [smL_skip (r - x) (D - x) (x + 1) (fun y y1 y2 => smF_neg hb (by omega) (h y (by omega) (by omega))) (by omega)]
    congr 1 <;> omega
  · rw [show D - r = 0 by omega, smL_nil (D - x) (x + 1) (fun y y1 y2 => smF_neg hb (by omega) (h y (by omega) (by omega)))]
    rfl
theorem lastN_app : ∀ (l : List Int) (x : Int), lastN (l ++ [x]) = x
  | [], x => rfl
  | y :: l, x => by
    rw [List.cons_append, lastN_cons y (by simp)]
    exact lastN_app l x
theorem lastN_app2 : ∀ (l0 : List Int) {l : List Int}, l ≠ [] → lastN (l0 ++ l) = lastN l
  | [], _, _ => rfl
  | y :: l0, l, h => by
    rw [List.cons_append, lastN_cons y (by simp [h])]
    exact lastN_app2 l0 h
section Goes
variable {N n D : Nat} {w : Int} {R : Room} {Z : AZ} {u p q sn ls e1 e2 e3 e4 e5 e6 e7 : Int} {h0 : AH}
theorem gt_want {h : AH} {U V : Nat → Int} {l : List Int} {wt : Nat → Int} {t : Int} {fo dep : Nat} (hn : n ≤ 5) (hw : -2147483648 ≤ w ∧ w ≤ 2147483647) (hfo : fo ≤ 1000) (hl : l.length = n) (H : gtH h h0 (mdl u p q sn ls e1 e2 e3 e4 e5 e6 e7) t n n U V l wt) {L6 L8 L10 L11 L12 L15 : Option AV}
    (K : ∀ h' L14, gtH h' h0 (mdl u p q sn ls e1 e2 e3 e4 e5 e6 e7) t n n U V l (fun i => if (fo : Int) = w then l.getD i 0 else wt i) → AW mX6_goesThrough R Z 0 0 N h' 187 [some (aR 52), some (aI (n : Int)), some (aI (D : Int)), some (aI w), some (aI (fo : Int)), some (aI (dep : Int)), L6, none, L8, none, L10, L11, L12, none, L14, L15] []) :
    ∀ (c k : Nat) (h' : AH), k + c = n → gtH h' h0 (mdl u p q sn ls e1 e2 e3 e4 e5 e6 e7) t n n U V l (fun i => if i < k then (if (fo : Int) = w then l.getD i 0 else wt i) else wt i) → AW mX6_goesThrough R Z 0 0 N h' 145 [some (aR 52), some (aI (n : Int)), some (aI (D : Int)), some (aI w), some (aI (fo : Int)), some (aI (dep : Int)), L6, none, L8, none, L10, L11, L12, none, some (aI (k : Int)), L15] [] := by
  intro c
  induction c with
  | zero =>
    intro k h' hk H'
    refine aw_iload dX6_goesThrough_145 rfl ?_
    refine aw_iload_n dX6_goesThrough_147 rfl ?_
    -- at 148: .if_icmp .ge 39
    refine aw_icmp_ge (tgt := 187) dX6_goesThrough_148 (by omega) (by omega) (by decide) (fun c1 => ?_) (fun c1 => ?_)
    · refine K h' _ ?_
      obtain ⟨x1, x2, x3, x4, ⟨fw, x5, x6⟩, x7⟩ := H'
      exact ⟨x1, x2, x3, x4, ⟨fw, x5, fun i hi => by rw [x6 i hi]; dsimp only; rw [if_pos (by omega)]⟩, x7⟩
    · omega
  | succ c ih =>
    intro k h' hk H'
    obtain ⟨x1, x2, x3, ⟨fr, y1, y2⟩, ⟨fw, x5, x6⟩, x7⟩ := H'
    have fin : ∀ v : Int, v = (if (fo : Int) = w then l.getD k 0 else wt k) → AW mX6_goesThrough R Z 0 0 N h' 180 [some (aR 52), some (aI (n : Int)), some (aI (D : Int)), some (aI w), some (aI (fo : Int)), some (aI (dep : Int)), L6, none, L8, none, L10, L11, L12, none, some (aI (k : Int)), L15] [aI v, aI (k : Int), aR 64] := by
      intro v hv
      refine aw_iastO (by assumption) (by omega) dX6_goesThrough_180 (fun h2 b2 f2 => ?_)
      rw [Int.toNat_natCast] at b2
      refine aw_iinc dX6_goesThrough_181 rfl (by decide) ?_
      refine aw_goto (tgt := 145) dX6_goesThrough_184 (by decide) ?_
      have K' := ih (k + 1) h2 (by omega) ⟨(f2 52 (by omega)).trans x1, ?_, ?_, ⟨fr, (f2 63 (by omega)).trans y1, y2⟩, ⟨_, b2, fun i hi => ?_⟩, fun j j1 j2 => (f2 j (by omega)).trans (x7 j j1 j2)⟩
      · rw [show ((k + 1 : Nat) : Int) = (k : Int) + 1 by omega] at K'
        exact K'
      · obtain ⟨fu, z1, z2⟩ := x2
        exact ⟨fu, (f2 61 (by omega)).trans z1, z2⟩
      · obtain ⟨fu, z1, z2⟩ := x3
        exact ⟨fu, (f2 62 (by omega)).trans z1, z2⟩
      · by_cases e : i = k
        · rw [e, va_up_s]; dsimp only; rw [if_pos (by omega), hv]
        · rw [va_up_n _ _ _ e, x6 i hi]; dsimp only
          by_cases e2 : i < k
          · rw [if_pos e2, if_pos (show i < k + 1 by omega)]
          · rw [if_neg e2, if_neg (show ¬ i < k + 1 by omega)]
    refine aw_iload dX6_goesThrough_145 rfl ?_
    refine aw_iload_n dX6_goesThrough_147 rfl ?_
    -- at 148: .if_icmp .ge 39
    refine aw_icmp_ge (tgt := 187) dX6_goesThrough_148 (by omega) (by omega) (by decide) (fun c1 => ?_) (fun c1 => ?_)
    · omega
    · refine aw_aload_n dX6_goesThrough_151 rfl ?_
      refine aw_get kg_X6_52 (by assumption) (by rfl) dX6_goesThrough_152 ?_
      refine aw_iload dX6_goesThrough_155 rfl ?_
      refine aw_iload dX6_goesThrough_157 rfl ?_
      refine aw_iload_n dX6_goesThrough_159 rfl ?_
      -- at 160: .if_icmp .ne 13
      refine aw_icmp_ne (tgt := 173) dX6_goesThrough_160 (by omega) (by omega) (by decide) (fun c2 => ?_) (fun c2 => ?_)
      · refine aw_aload_n dX6_goesThrough_173 rfl ?_
        refine aw_get kg_X6_52 (by assumption) (by rfl) dX6_goesThrough_174 ?_
        refine aw_iload dX6_goesThrough_177 rfl ?_
        refine aw_iald (by assumption) (by omega) dX6_goesThrough_179 ?_
        exact fin _ (by rw [if_neg c2, Int.toNat_natCast, x6 k (by omega)]; dsimp only; rw [if_neg (by omega)])
      · refine aw_aload_n dX6_goesThrough_163 rfl ?_
        refine aw_get kg_X6_49 (by assumption) (by rfl) dX6_goesThrough_164 ?_
        refine aw_iload dX6_goesThrough_167 rfl ?_
        refine aw_iald (by assumption) (by omega) dX6_goesThrough_169 ?_
        refine aw_goto (tgt := 180) dX6_goesThrough_170 (by decide) ?_
        exact fin _ (by rw [if_pos (by omega), Int.toNat_natCast, y2 k (by omega)])
theorem gt_head {h : AH} {m dep x0 : Nat} {U V : Nat → Int} {l0 : List Int} {t : Int} {wt : Nat → Int} {fo : Nat} {L6 L8 L10 L11 L12 L14 L15 : Option AV} (hn : n ≤ 5) (hdep : dep + m + 1 = n) (hl0 : l0.length = dep) (hx0 : x0 ≤ 60) (H : gtH h h0 (mdl u p q sn ls e1 e2 e3 e4 e5 e6 e7) t n (dep + 1) U V (l0 ++ [(x0 : Int)]) wt)
    (K : ∀ h1, gtH h1 h0 (mdl u p q sn ls e1 e2 e3 e4 e5 e6 e7) t n (dep + 1) U V (l0 ++ [((x0 + 1 : Nat) : Int)]) wt → AW mX6_goesThrough R Z 0 0 N h1 101 [some (aR 52), some (aI (n : Int)), some (aI (D : Int)), some (aI w), some (aI (fo : Int)), some (aI (dep : Int)), some (aL (U dep)), none, some (aL (V dep)), none, some (aI ((x0 + 1 : Nat) : Int)), some (aI ((m + 1 : Nat) : Int)), some (aL (U dep * ((x0 + 1 : Nat) : Int) - V dep)), none, L14, L15] []) :
    AW mX6_goesThrough R Z 0 0 N h 41 [some (aR 52), some (aI (n : Int)), some (aI (D : Int)), some (aI w), some (aI (fo : Int)), some (aI (dep : Int)), L6, none, L8, none, L10, L11, L12, none, L14, L15] [] := by
  obtain ⟨x1, ⟨fu, u1, u2⟩, ⟨fl, v1, v2⟩, ⟨fr, y1, y2⟩, ⟨fw, x5, x6⟩, x7⟩ := H
  refine aw_iload dX6_goesThrough_41 rfl ?_
  -- at 43: .ifCond .lt 273
  refine aw_if_lt (tgt := 316) dX6_goesThrough_43 (by omega) (by decide) (fun c1 => ?_) (fun c1 => ?_)
  · omega
  · refine aw_aload_n dX6_goesThrough_46 rfl ?_
    refine aw_get kg_X6_49 (by assumption) (by rfl) dX6_goesThrough_47 ?_
    refine aw_iload dX6_goesThrough_50 rfl ?_
    refine aw_dup2 dX6_goesThrough_52 rfl rfl ?_
    refine aw_iald (by assumption) (by omega) dX6_goesThrough_53 ?_
    refine aw_val (w := aI (x0 : Int)) (by rw [Int.toNat_natCast, y2 dep (by omega), gd_app, if_neg (by omega), if_pos (by omega)]) ?_
    refine aw_iconst dX6_goesThrough_54 ?_
    refine aw_iadd dX6_goesThrough_55 ?_
    refine aw_val (w := aI ((x0 + 1 : Nat) : Int)) (by congr 1) ?_
    refine aw_iastO (by assumption) (by omega) dX6_goesThrough_56 (fun h1 b1 f1 => ?_)
    rw [Int.toNat_natCast] at b1
    have x1' := (f1 52 (by omega)).trans x1
    have u1' := (f1 61 (by omega)).trans u1
    have v1' := (f1 62 (by omega)).trans v1
    refine aw_aload_n dX6_goesThrough_57 rfl ?_
    refine aw_get kg_X6_42 (by assumption) (by rfl) dX6_goesThrough_58 ?_
    refine aw_iload dX6_goesThrough_61 rfl ?_
    refine aw_lald (by assumption) (by omega) dX6_goesThrough_63 ?_
    refine aw_val (w := aL (U dep)) (by rw [Int.toNat_natCast, u2 dep (by omega)]) ?_
    refine aw_lstore dX6_goesThrough_64 (by decide) ?_
    refine aw_aload_n dX6_goesThrough_66 rfl ?_
    refine aw_get kg_X6_46 (by assumption) (by rfl) dX6_goesThrough_67 ?_
    refine aw_iload dX6_goesThrough_70 rfl ?_
    refine aw_lald (by assumption) (by omega) dX6_goesThrough_72 ?_
    refine aw_val (w := aL (V dep)) (by rw [Int.toNat_natCast, v2 dep (by omega)]) ?_
    refine aw_lstore dX6_goesThrough_73 (by decide) ?_
    refine aw_aload_n dX6_goesThrough_75 rfl ?_
    refine aw_get kg_X6_49 (by assumption) (by rfl) dX6_goesThrough_76 ?_
    refine aw_iload dX6_goesThrough_79 rfl ?_
    refine aw_iald (by assumption) (by omega) dX6_goesThrough_81 ?_
    refine aw_val (w := aI ((x0 + 1 : Nat) : Int)) (by rw [Int.toNat_natCast, va_up_s]) ?_
    refine aw_istore dX6_goesThrough_82 (by decide) ?_
    refine aw_iload_n dX6_goesThrough_84 rfl ?_
    refine aw_iload dX6_goesThrough_85 rfl ?_
    refine aw_isub dX6_goesThrough_87 ?_
    refine aw_val (w := aI ((m + 1 : Nat) : Int)) (by congr 1; omega) ?_
    refine aw_istore dX6_goesThrough_88 (by decide) ?_
    refine aw_lload dX6_goesThrough_90 rfl ?_
    refine aw_iload dX6_goesThrough_92 rfl ?_
    refine aw_i2l dX6_goesThrough_94 (by omega) ?_
    refine aw_lmul dX6_goesThrough_95 ?_
    refine aw_lload dX6_goesThrough_96 rfl ?_
    refine aw_lsub dX6_goesThrough_98 ?_
    refine aw_lstore dX6_goesThrough_99 (by decide) ?_
    refine K h1 ⟨x1', ⟨fu, u1', u2⟩, ⟨fl, v1', v2⟩, ⟨_, b1, fun i hi => ?_⟩, ⟨fw, (f1 64 (by omega)).trans x5, x6⟩, fun j j1 j2 => (f1 j (by omega)).trans (x7 j j1 j2)⟩
    rw [gd_app]
    by_cases e : i = dep
    · rw [e, va_up_s, if_neg (by omega), if_pos (by omega)]
    · have := y2 i hi
      rw [gd_app, if_pos (by omega)] at this
      rw [va_up_n _ _ _ e, this, if_pos (by omega)]
theorem gtH.down {h : AH} {t : Int} {k : Nat} {U V : Nat → Int} {l0 : List Int} {x : Int} {wt : Nat → Int} {F : Int → List AV} (hl : l0.length = k) (H : gtH h h0 F t n (k + 1) U V (l0 ++ [x]) wt) : gtH h h0 F t n k U V l0 wt := by
  obtain ⟨x1, ⟨fu, u1, u2⟩, ⟨fl, v1, v2⟩, ⟨fr, y1, y2⟩, x5, x7⟩ := H
  refine ⟨x1, ⟨fu, u1, fun i hi => u2 i (by omega)⟩, ⟨fl, v1, fun i hi => v2 i (by omega)⟩, ⟨fr, y1, fun i hi => ?_⟩, x5, x7⟩
  have := y2 i (by omega)
  rw [gd_app, if_pos (by omega)] at this
  exact this
theorem gt_run (hn : n ≤ 5) (hD : D ≤ 60) (hw : -2147483648 ≤ w ∧ w ≤ 2147483647) :
    ∀ (m dep : Nat) (U V : Nat → Int) (M : Int) (l0 : List Int) (fE : Nat) (tE : Int) (wE : Nat → Int), dep + m + 1 = n → M * ((60 ^ m : Nat) : Int) ≤ 1283040000 → 0 ≤ U dep ∧ U dep ≤ M → 1 ≤ V dep ∧ V dep ≤ M → l0.length = dep → fE ≤ 1000 →
      (∀ h' L6 L8 L10 L11 L12 L14 L15, gtH h' h0 (mdl u p q sn ls e1 e2 e3 e4 e5 e6 e7) tE n dep U V l0 wE → AW mX6_goesThrough R Z 0 0 N h' 41 [some (aR 52), some (aI (n : Int)), some (aI (D : Int)), some (aI w), some (aI (fE : Int)), some (aI ((dep : Int) + -1)), L6, none, L8, none, L10, L11, L12, none, L14, L15] []) →
      ∀ (c x0 : Nat) (h : AH) (t : Int) (wt : Nat → Int) (fo : Nat) (L6 L8 L10 L11 L12 L14 L15 : Option AV), x0 + c = 60 → gtH h h0 (mdl u p q sn ls e1 e2 e3 e4 e5 e6 e7) t n (dep + 1) U V (l0 ++ [(x0 : Int)]) wt → -9 ≤ t ∧ t ≤ 60 →
        fo + (sm D (m + 1) x0 (U dep) (V dep)).length = fE → lbS ((sm D (m + 1) x0 (U dep) (V dep)).map (fun l => l0 ++ l)) t = tE → wS w ((sm D (m + 1) x0 (U dep) (V dep)).map (fun l => l0 ++ l)) fo wt = wE →
        AW mX6_goesThrough R Z 0 0 N h 41 [some (aR 52), some (aI (n : Int)), some (aI (D : Int)), some (aI w), some (aI (fo : Int)), some (aI (dep : Int)), L6, none, L8, none, L10, L11, L12, none, L14, L15] [] := by
  intro m
  induction m with
  | zero =>
    intro dep U V M l0 fE tE wE hdep hM hU hV hl0 hfE K
    have hM' : M ≤ 1283040000 := by simpa using hM
    have step : ∀ (x0 : Nat) (h : AH) (t : Int) (wt : Nat → Int) (fo : Nat) (L6 L8 L10 L11 L12 L14 L15 : Option AV), x0 ≤ 60 → (x0 < 60 → (∀ (h : AH) (t : Int) (wt : Nat → Int) (fo : Nat) (L6 L8 L10 L11 L12 L14 L15 : Option AV), gtH h h0 (mdl u p q sn ls e1 e2 e3 e4 e5 e6 e7) t n (dep + 1) U V (l0 ++ [((x0 + 1 : Nat) : Int)]) wt → -9 ≤ t ∧ t ≤ 60 → fo + (sm D (0 + 1) (x0 + 1) (U dep) (V dep)).length = fE → lbS ((sm D (0 + 1) (x0 + 1) (U dep) (V dep)).map (fun l => l0 ++ l)) t = tE → wS w ((sm D (0 + 1) (x0 + 1) (U dep) (V dep)).map (fun l => l0 ++ l)) fo wt = wE → AW mX6_goesThrough R Z 0 0 N h 41 [some (aR 52), some (aI (n : Int)), some (aI (D : Int)), some (aI w), some (aI (fo : Int)), some (aI (dep : Int)), L6, none, L8, none, L10, L11, L12, none, L14, L15] [])) → gtH h h0 (mdl u p q sn ls e1 e2 e3 e4 e5 e6 e7) t n (dep + 1) U V (l0 ++ [(x0 : Int)]) wt → -9 ≤ t ∧ t ≤ 60 → fo + (sm D (0 + 1) x0 (U dep) (V dep)).length = fE → lbS ((sm D (0 + 1) x0 (U dep) (V dep)).map (fun l => l0 ++ l)) t = tE → wS w ((sm D (0 + 1) x0 (U dep) (V dep)).map (fun l => l0 ++ l)) fo wt = wE → AW mX6_goesThrough R Z 0 0 N h 41 [some (aR 52), some (aI (n : Int)), some (aI (D : Int)), some (aI w), some (aI (fo : Int)), some (aI (dep : Int)), L6, none, L8, none, L10, L11, L12, none, L14, L15] [] := by
      intro x0 h t wt fo L6 L8 L10 L11 L12 L14 L15 hx0 rec H ht hf hlb hws
      refine gt_head (m := 0) hn hdep hl0 hx0 H (fun h1 H1 => ?_)
      obtain ⟨X, hX⟩ : ∃ X : Int, X = U dep * ((x0 + 1 : Nat) : Int) := ⟨_, rfl⟩
      obtain ⟨T, hT⟩ : ∃ T : Int, T = ((0 + 1 : Nat) : Int) * V dep := ⟨_, rfl⟩
      rw [← hX]
      have rX : 0 ≤ X ∧ X ≤ M * 61 := by
        rw [hX]
        exact ⟨Int.mul_nonneg (by omega) (by omega), Int.mul_le_mul hU.2 (by omega) (by omega) (by omega)⟩
      have rT : 0 ≤ T ∧ T ≤ 5 * M := by
        rw [hT]
        exact ⟨Int.mul_nonneg (by omega) (by omega), Int.mul_le_mul (by omega) hV.2 (by omega) (by omega)⟩
      have away : (sm D (0 + 1) x0 (U dep) (V dep)) = [] → AW mX6_goesThrough R Z 0 0 N h1 123 [some (aR 52), some (aI (n : Int)), some (aI (D : Int)), some (aI w), some (aI (fo : Int)), some (aI (dep : Int)), some (aL (U dep)), none, some (aL (V dep)), none, some (aI ((x0 + 1 : Nat) : Int)), some (aI ((0 + 1 : Nat) : Int)), some (aL (X - V dep)), none, L14, L15] [] := by
        intro z
        rw [z] at hf hlb hws
        refine aw_iinc dX6_goesThrough_123 rfl (by decide) ?_
        refine aw_goto (tgt := 313) dX6_goesThrough_126 (by decide) ?_
        refine aw_goto (tgt := 41) dX6_goesThrough_313 (by decide) ?_
        have hf' : fo = fE := by simpa using hf
        have hlb' : t = tE := hlb
        have hws' : wt = wE := hws
        subst hf' hlb' hws'
        exact K h1 _ _ _ _ _ _ _ (H1.down hl0)
      refine aw_iload dX6_goesThrough_101 rfl ?_
      refine aw_iload_n dX6_goesThrough_103 rfl ?_
      -- at 104: .if_icmp .gt 19
      refine aw_icmp_gt (tgt := 123) dX6_goesThrough_104 (by omega) (by omega) (by decide) (fun c1 => ?_) (fun c1 => ?_)
      · exact away (sm_past (by omega))
      · refine aw_lload dX6_goesThrough_107 rfl ?_
        refine aw_iload dX6_goesThrough_109 rfl ?_
        refine aw_i2l dX6_goesThrough_111 (by omega) ?_
        refine aw_lmul dX6_goesThrough_112 ?_
        refine aw_val (w := aL X) (by rw [hX]) ?_
        refine aw_iload dX6_goesThrough_113 rfl ?_
        refine aw_i2l dX6_goesThrough_115 (by omega) ?_
        refine aw_lload dX6_goesThrough_116 rfl ?_
        refine aw_lmul dX6_goesThrough_118 ?_
        refine aw_val (w := aL T) (by rw [hT]) ?_
        refine aw_lcmp_le (tgt := 129) dX6_goesThrough_119 dX6_goesThrough_120 (by omega) (by omega) (by decide) (fun c2 => ?_) (fun c2 => ?_)
        rotate_left
        · refine away (sm_hi _ _ _ _ hV.1 ?_)
          rw [← hT, show ((x0 : Int) + 1) = ((x0 + 1 : Nat) : Int) by omega, ← hX]
          omega
        · have hrec := rec (by omega)
          rw [sm_next (by omega), List.length_append] at hf
          rw [sm_next (by omega), List.map_append, lbS_app] at hlb
          rw [sm_next (by omega), List.map_append, wS_app, List.length_map] at hws
          have pass : smF D 0 (U dep) (V dep) (x0 + 1) = [] → ∀ L14 L15, AW mX6_goesThrough R Z 0 0 N h1 313 [some (aR 52), some (aI (n : Int)), some (aI (D : Int)), some (aI w), some (aI (fo : Int)), some (aI (dep : Int)), some (aL (U dep)), none, some (aL (V dep)), none, some (aI ((x0 + 1 : Nat) : Int)), some (aI ((0 + 1 : Nat) : Int)), some (aL (X - V dep)), none, L14, L15] [] := by
            intro z L14 L15
            rw [z] at hf hlb hws
            refine aw_goto (tgt := 41) dX6_goesThrough_313 (by decide) ?_
            exact hrec h1 t wt fo _ _ _ _ _ _ _ H1 ht (by simpa using hf) hlb hws
          refine aw_iload dX6_goesThrough_129 rfl ?_
          refine aw_iconst dX6_goesThrough_131 ?_
          -- at 132: .if_icmp .ne 92
          refine aw_icmp_ne (tgt := 224) dX6_goesThrough_132 (by omega) (by omega) (by decide) (fun c3 => ?_) (fun c3 => ?_)
          · omega
          · refine aw_lload dX6_goesThrough_135 rfl ?_
            refine aw_lconst (a := 0) dX6_goesThrough_137 (by decide) ?_
            -- at 138: .lcmp
            refine aw_lcmp_ne (tgt := 224) dX6_goesThrough_138 dX6_goesThrough_139 (by omega) (by omega) (by decide) (fun c4 => ?_) (fun c4 => ?_)
            · refine aw_iload dX6_goesThrough_224 rfl ?_
              refine aw_iconst dX6_goesThrough_226 ?_
              -- at 227: .if_icmp .le 86
              refine aw_icmp_le (tgt := 313) dX6_goesThrough_227 (by omega) (by omega) (by decide) (fun c5 => ?_) (fun c5 => ?_)
              · refine pass ?_ _ _
                rw [smF, sm, if_neg (by rw [← hX]; omega)]
                rfl
              · omega
            · have eF : smF D 0 (U dep) (V dep) (x0 + 1) = [[((x0 + 1 : Nat) : Int)]] := by
                rw [smF, sm, if_pos (by rw [← hX]; omega)]
                rfl
              rw [eF] at hf hlb hws
              have hlen : (l0 ++ [((x0 + 1 : Nat) : Int)]).length = n := by simp; omega
              have hdn : dep + 1 = n := by omega
              rw [hdn] at H1
              refine aw_iconst dX6_goesThrough_142 ?_
              refine aw_istore dX6_goesThrough_143 (by decide) ?_
              refine gt_want (dep := dep) hn hw (by omega) hlen H1 (fun h2 L14 H2 => ?_) n 0 h1 (Nat.zero_add _) (by
                obtain ⟨z1, z2, z3, z4, ⟨fw, z5, z6⟩, z7⟩ := H1
                exact ⟨z1, z2, z3, z4, ⟨fw, z5, fun i hi => by rw [z6 i hi]; dsimp only; rw [if_neg (by omega)]⟩, z7⟩)
              have m52 := H2.1
              have last : ∀ v : Int, v = (if t = -9 ∨ ((x0 + 1 : Nat) : Int) < t then ((x0 + 1 : Nat) : Int) else t) → AW mX6_goesThrough R Z 0 0 N h2 215 [some (aR 52), some (aI (n : Int)), some (aI (D : Int)), some (aI w), some (aI (fo : Int)), some (aI (dep : Int)), some (aL (U dep)), none, some (aL (V dep)), none, some (aI ((x0 + 1 : Nat) : Int)), some (aI ((0 + 1 : Nat) : Int)), some (aL (X - V dep)), none, L14, L15] [aI v, aR 52] := by
                intro v hv
                refine aw_putO kp_X6_134 (by assumption) (by simp) (aw_ni _) dX6_goesThrough_215 (fun h3 b3 f3 => ?_)
                have b3 : h3 52 = aO 6 (mdl u p q sn ls e1 e2 e3 e4 e5 e6 e7 v) := b3
                refine aw_iinc dX6_goesThrough_218 rfl (by decide) ?_
                refine aw_goto (tgt := 313) dX6_goesThrough_221 (by decide) ?_
                refine aw_goto (tgt := 41) dX6_goesThrough_313 (by decide) ?_
                obtain ⟨z1, ⟨fu, z2, z2'⟩, ⟨fl, z3, z3'⟩, ⟨fr, z4, z4'⟩, ⟨fw, z5, z6⟩, z7⟩ := H2
                have KK := hrec h3 v (fun i => if (fo : Int) = w then (l0 ++ [((x0 + 1 : Nat) : Int)]).getD i 0 else wt i) (fo + 1) (some (aL (U dep))) (some (aL (V dep))) (some (aI ((x0 + 1 : Nat) : Int))) (some (aI ((0 + 1 : Nat) : Int))) (some (aL (X - V dep))) L14 L15 ⟨b3, ⟨fu, (f3 61 (by omega)).trans z2, fun i hi => z2' i (by omega)⟩, ⟨fl, (f3 62 (by omega)).trans z3, fun i hi => z3' i (by omega)⟩, ⟨fr, (f3 63 (by omega)).trans z4, fun i hi => z4' i (by omega)⟩, ⟨fw, (f3 64 (by omega)).trans z5, z6⟩, fun j j1 j2 => (f3 j j1).trans (z7 j j1 j2)⟩ (by rw [hv]; split <;> omega) (by rw [← hf]; simp; omega) (by rw [← hlb]; show _ = lbS _ (if t = -9 ∨ lastN (l0 ++ [((x0 + 1 : Nat) : Int)]) < t then lastN (l0 ++ [((x0 + 1 : Nat) : Int)]) else t); rw [lastN_app, hv]) hws
                rw [show ((fo + 1 : Nat) : Int) = (fo : Int) + 1 by omega] at KK
                exact KK
              refine aw_aload_n dX6_goesThrough_187 rfl ?_
              refine aw_aload_n dX6_goesThrough_188 rfl ?_
              refine aw_get kg_X6_134 (by assumption) (by rfl) dX6_goesThrough_189 ?_
              refine aw_bipush dX6_goesThrough_192 (by decide) ?_
              -- at 194: .if_icmp .eq 12
              refine aw_icmp_eq (tgt := 206) dX6_goesThrough_194 (by omega) (by omega) (by decide) (fun c5 => ?_) (fun c5 => ?_)
              · refine aw_iload dX6_goesThrough_206 rfl ?_
                refine aw_goto (tgt := 215) dX6_goesThrough_208 (by decide) ?_
                exact last _ (by rw [if_pos (by omega)])
              · refine aw_iload dX6_goesThrough_197 rfl ?_
                refine aw_aload_n dX6_goesThrough_199 rfl ?_
                refine aw_get kg_X6_134 (by assumption) (by rfl) dX6_goesThrough_200 ?_
                -- at 203: .if_icmp .ge 8
                refine aw_icmp_ge (tgt := 211) dX6_goesThrough_203 (by omega) (by omega) (by decide) (fun c6 => ?_) (fun c6 => ?_)
                · refine aw_aload_n dX6_goesThrough_211 rfl ?_
                  refine aw_get kg_X6_134 (by assumption) (by rfl) dX6_goesThrough_212 ?_
                  exact last _ (by rw [if_neg (by omega)])
                · refine aw_iload dX6_goesThrough_206 rfl ?_
                  refine aw_goto (tgt := 215) dX6_goesThrough_208 (by decide) ?_
                  exact last _ (by rw [if_pos (by omega)])
    intro c
    induction c with
    | zero => intro x0 h t wt fo L6 L8 L10 L11 L12 L14 L15 hx0; exact step x0 h t wt fo L6 L8 L10 L11 L12 L14 L15 (by omega) (fun z => by omega)
    | succ c ihc => intro x0 h t wt fo L6 L8 L10 L11 L12 L14 L15 hx0; exact step x0 h t wt fo L6 L8 L10 L11 L12 L14 L15 (by omega) (fun _ h t wt fo L6 L8 L10 L11 L12 L14 L15 => ihc (x0 + 1) h t wt fo L6 L8 L10 L11 L12 L14 L15 (by omega))
  | succ m ihm =>
    intro dep U V M l0 fE tE wE hdep hM hU hV hl0 hfE K
    have p60 : (1 : Int) ≤ ((60 ^ m : Nat) : Int) := by
      have := Nat.pow_pos (n := m) (show 0 < 60 by decide)
      omega
    have hM2 : (M * 60) * ((60 ^ m : Nat) : Int) ≤ 1283040000 := by
      rw [Nat.pow_succ, Int.natCast_mul, ← Int.mul_assoc, Int.mul_right_comm] at hM
      exact hM
    have hM' : M * 60 ≤ 1283040000 := by
      have := Int.mul_le_mul_of_nonneg_left p60 (show 0 ≤ M * 60 by omega)
      omega
    have step : ∀ (x0 : Nat) (h : AH) (t : Int) (wt : Nat → Int) (fo : Nat) (L6 L8 L10 L11 L12 L14 L15 : Option AV), x0 ≤ 60 → (x0 < 60 → (∀ (h : AH) (t : Int) (wt : Nat → Int) (fo : Nat) (L6 L8 L10 L11 L12 L14 L15 : Option AV), gtH h h0 (mdl u p q sn ls e1 e2 e3 e4 e5 e6 e7) t n (dep + 1) U V (l0 ++ [((x0 + 1 : Nat) : Int)]) wt → -9 ≤ t ∧ t ≤ 60 → fo + (sm D ((m + 1) + 1) (x0 + 1) (U dep) (V dep)).length = fE → lbS ((sm D ((m + 1) + 1) (x0 + 1) (U dep) (V dep)).map (fun l => l0 ++ l)) t = tE → wS w ((sm D ((m + 1) + 1) (x0 + 1) (U dep) (V dep)).map (fun l => l0 ++ l)) fo wt = wE → AW mX6_goesThrough R Z 0 0 N h 41 [some (aR 52), some (aI (n : Int)), some (aI (D : Int)), some (aI w), some (aI (fo : Int)), some (aI (dep : Int)), L6, none, L8, none, L10, L11, L12, none, L14, L15] [])) → gtH h h0 (mdl u p q sn ls e1 e2 e3 e4 e5 e6 e7) t n (dep + 1) U V (l0 ++ [(x0 : Int)]) wt → -9 ≤ t ∧ t ≤ 60 → fo + (sm D ((m + 1) + 1) x0 (U dep) (V dep)).length = fE → lbS ((sm D ((m + 1) + 1) x0 (U dep) (V dep)).map (fun l => l0 ++ l)) t = tE → wS w ((sm D ((m + 1) + 1) x0 (U dep) (V dep)).map (fun l => l0 ++ l)) fo wt = wE → AW mX6_goesThrough R Z 0 0 N h 41 [some (aR 52), some (aI (n : Int)), some (aI (D : Int)), some (aI w), some (aI (fo : Int)), some (aI (dep : Int)), L6, none, L8, none, L10, L11, L12, none, L14, L15] [] := by
      intro x0 h t wt fo L6 L8 L10 L11 L12 L14 L15 hx0 rec H ht hf hlb hws
      refine gt_head (m := (m + 1)) hn hdep hl0 hx0 H (fun h1 H1 => ?_)
      obtain ⟨X, hX⟩ : ∃ X : Int, X = U dep * ((x0 + 1 : Nat) : Int) := ⟨_, rfl⟩
      obtain ⟨T, hT⟩ : ∃ T : Int, T = (((m + 1) + 1 : Nat) : Int) * V dep := ⟨_, rfl⟩
      rw [← hX]
      have rX : 0 ≤ X ∧ X ≤ M * 61 := by
        rw [hX]
        exact ⟨Int.mul_nonneg (by omega) (by omega), Int.mul_le_mul hU.2 (by omega) (by omega) (by omega)⟩
      have rT : 0 ≤ T ∧ T ≤ 5 * M := by
        rw [hT]
        exact ⟨Int.mul_nonneg (by omega) (by omega), Int.mul_le_mul (by omega) hV.2 (by omega) (by omega)⟩
      have away : (sm D ((m + 1) + 1) x0 (U dep) (V dep)) = [] → AW mX6_goesThrough R Z 0 0 N h1 123 [some (aR 52), some (aI (n : Int)), some (aI (D : Int)), some (aI w), some (aI (fo : Int)), some (aI (dep : Int)), some (aL (U dep)), none, some (aL (V dep)), none, some (aI ((x0 + 1 : Nat) : Int)), some (aI (((m + 1) + 1 : Nat) : Int)), some (aL (X - V dep)), none, L14, L15] [] := by
        intro z
        rw [z] at hf hlb hws
        refine aw_iinc dX6_goesThrough_123 rfl (by decide) ?_
        refine aw_goto (tgt := 313) dX6_goesThrough_126 (by decide) ?_
        refine aw_goto (tgt := 41) dX6_goesThrough_313 (by decide) ?_
        have hf' : fo = fE := by simpa using hf
        have hlb' : t = tE := hlb
        have hws' : wt = wE := hws
        subst hf' hlb' hws'
        exact K h1 _ _ _ _ _ _ _ (H1.down hl0)
      refine aw_iload dX6_goesThrough_101 rfl ?_
      refine aw_iload_n dX6_goesThrough_103 rfl ?_
      -- at 104: .if_icmp .gt 19
      refine aw_icmp_gt (tgt := 123) dX6_goesThrough_104 (by omega) (by omega) (by decide) (fun c1 => ?_) (fun c1 => ?_)
      · exact away (sm_past (by omega))
      · refine aw_lload dX6_goesThrough_107 rfl ?_
        refine aw_iload dX6_goesThrough_109 rfl ?_
        refine aw_i2l dX6_goesThrough_111 (by omega) ?_
        refine aw_lmul dX6_goesThrough_112 ?_
        refine aw_val (w := aL X) (by rw [hX]) ?_
        refine aw_iload dX6_goesThrough_113 rfl ?_
        refine aw_i2l dX6_goesThrough_115 (by omega) ?_
        refine aw_lload dX6_goesThrough_116 rfl ?_
        refine aw_lmul dX6_goesThrough_118 ?_
        refine aw_val (w := aL T) (by rw [hT]) ?_
        refine aw_lcmp_le (tgt := 129) dX6_goesThrough_119 dX6_goesThrough_120 (by omega) (by omega) (by decide) (fun c2 => ?_) (fun c2 => ?_)
        rotate_left
        · refine away (sm_hi _ _ _ _ hV.1 ?_)
          rw [← hT, show ((x0 : Int) + 1) = ((x0 + 1 : Nat) : Int) by omega, ← hX]
          omega
        · have hrec := rec (by omega)
          rw [sm_next (by omega), List.length_append] at hf
          rw [sm_next (by omega), List.map_append, lbS_app] at hlb
          rw [sm_next (by omega), List.map_append, wS_app, List.length_map] at hws
          have pass : smF D (m + 1) (U dep) (V dep) (x0 + 1) = [] → ∀ L14 L15, AW mX6_goesThrough R Z 0 0 N h1 313 [some (aR 52), some (aI (n : Int)), some (aI (D : Int)), some (aI w), some (aI (fo : Int)), some (aI (dep : Int)), some (aL (U dep)), none, some (aL (V dep)), none, some (aI ((x0 + 1 : Nat) : Int)), some (aI (((m + 1) + 1 : Nat) : Int)), some (aL (X - V dep)), none, L14, L15] [] := by
            intro z L14 L15
            rw [z] at hf hlb hws
            refine aw_goto (tgt := 41) dX6_goesThrough_313 (by decide) ?_
            exact hrec h1 t wt fo _ _ _ _ _ _ _ H1 ht (by simpa using hf) hlb hws
          obtain ⟨Y, hY⟩ : ∃ Y : Int, Y = V dep * ((x0 + 1 : Nat) : Int) := ⟨_, rfl⟩
          have rY : 1 ≤ Y ∧ Y ≤ M * 60 := by
            rw [hY]
            have := Int.mul_le_mul hV.1 (show (1 : Int) ≤ ((x0 + 1 : Nat) : Int) by omega) (by omega) (by omega)
            exact ⟨by omega, Int.mul_le_mul hV.2 (by omega) (by omega) (by omega)⟩
          have rX2 : X ≤ M * 60 := by
            rw [hX]
            exact Int.mul_le_mul hU.2 (by omega) (by omega) (by omega)
          refine aw_iload dX6_goesThrough_129 rfl ?_
          refine aw_iconst dX6_goesThrough_131 ?_
          -- at 132: .if_icmp .ne 92
          refine aw_icmp_ne (tgt := 224) dX6_goesThrough_132 (by omega) (by omega) (by decide) (fun c3 => ?_) (fun c3 => ?_)
          rotate_left
          · omega
          · refine aw_iload dX6_goesThrough_224 rfl ?_
            refine aw_iconst dX6_goesThrough_226 ?_
            -- at 227: .if_icmp .le 86
            refine aw_icmp_le (tgt := 313) dX6_goesThrough_227 (by omega) (by omega) (by decide) (fun c4 => ?_) (fun c4 => ?_)
            · omega
            · refine aw_lload dX6_goesThrough_230 rfl ?_
              refine aw_lconst (a := 0) dX6_goesThrough_232 (by decide) ?_
              -- at 233: .lcmp
              refine aw_lcmp_le (tgt := 313) dX6_goesThrough_233 dX6_goesThrough_234 (by omega) (by omega) (by decide) (fun c5 => ?_) (fun c5 => ?_)
              · exact pass (smF_small hV.1 (by omega) (by rw [← hX]; omega)) _ _
              · obtain ⟨z1, ⟨fu, z2, z2'⟩, ⟨fl, z3, z3'⟩, ⟨fr, z4, z4'⟩, ⟨fw, z5, z6⟩, z7⟩ := H1
                refine aw_iinc dX6_goesThrough_237 rfl (by decide) ?_
                have edep : (dep : Int) + 1 = ((dep + 1 : Nat) : Int) := by omega
                rw [edep]
                refine aw_aload_n dX6_goesThrough_240 rfl ?_
                refine aw_get kg_X6_42 (by assumption) (by rfl) dX6_goesThrough_241 ?_
                refine aw_iload dX6_goesThrough_244 rfl ?_
                refine aw_lload dX6_goesThrough_246 rfl ?_
                -- at 248: .lastore
                refine aw_lastO (by assumption) (by omega) dX6_goesThrough_248 (fun h2 b2 f2 => ?_)
                rw [Int.toNat_natCast] at b2
                have z1' := (f2 52 (by omega)).trans z1
                have z3 := (f2 62 (by omega)).trans z3
                refine aw_aload_n dX6_goesThrough_249 rfl ?_
                refine aw_get kg_X6_46 (by assumption) (by rfl) dX6_goesThrough_250 ?_
                refine aw_iload dX6_goesThrough_253 rfl ?_
                refine aw_lload dX6_goesThrough_255 rfl ?_
                refine aw_iload dX6_goesThrough_257 rfl ?_
                refine aw_i2l dX6_goesThrough_259 (by omega) ?_
                refine aw_lmul dX6_goesThrough_260 ?_
                refine aw_val (w := aL Y) (by rw [hY]) ?_
                refine aw_lastO (by assumption) (by omega) dX6_goesThrough_261 (fun h3 b3 f3 => ?_)
                rw [Int.toNat_natCast] at b3
                have z1'' := (f3 52 (by omega)).trans z1'
                have z4' := z4'
                have z4 := (f3 63 (by omega)).trans ((f2 63 (by omega)).trans z4)
                refine aw_lload dX6_goesThrough_262 rfl ?_
                refine aw_iload dX6_goesThrough_264 rfl ?_
                refine aw_i2l dX6_goesThrough_266 (by omega) ?_
                refine aw_lmul dX6_goesThrough_267 ?_
                refine aw_val (w := aL Y) (by rw [hY]) ?_
                have hq1 : 0 ≤ Y / (X - V dep) := Int.ediv_nonneg (by omega) (by omega)
                have hq2 : Y / (X - V dep) ≤ Y := Int.ediv_le_self _ (by omega)
                have hq3 := Int.mul_ediv_self_le (x := Y) (k := X - V dep) (by omega)
                have fin : ∀ r : Nat, x0 + 1 ≤ r → r ≤ 60 → (∀ y : Nat, x0 + 1 < y → y ≤ r → (X - V dep) * (y : Int) < Y) → ∀ L14 L15, AW mX6_goesThrough R Z 0 0 N h3 312 [some (aR 52), some (aI (n : Int)), some (aI (D : Int)), some (aI w), some (aI (fo : Int)), some (aI ((dep + 1 : Nat) : Int)), some (aL (U dep)), none, some (aL (V dep)), none, some (aI ((x0 + 1 : Nat) : Int)), some (aI ((m + 1 + 1 : Nat) : Int)), some (aL (X - V dep)), none, L14, L15] [aI (r : Int), aI ((dep + 1 : Nat) : Int), aR 63] := by
                  intro r hr1 hr2 hr3 L14 L15
                  refine aw_iastO (by assumption) (by omega) dX6_goesThrough_312 (fun h4 b4 f4 => ?_)
                  rw [Int.toNat_natCast] at b4
                  refine aw_goto (tgt := 41) dX6_goesThrough_313 (by decide) ?_
                  have eS : sm D (m + 1) r (X - V dep) Y = sm D (m + 1) (x0 + 1) (X - V dep) Y := sm_jump rY.1 hr1 hr3
                  have eF : (smF D (m + 1) (U dep) (V dep) (x0 + 1)).map (fun l => l0 ++ l) = (sm D (m + 1) r (X - V dep) Y).map (fun l => (l0 ++ [((x0 + 1 : Nat) : Int)]) ++ l) := by
                    rw [eS, hX, hY, smF, List.map_map]
                    congr 1
                    funext l
                    simp
                  have eL : (smF D (m + 1) (U dep) (V dep) (x0 + 1)).length = (sm D (m + 1) r (X - V dep) Y).length := by
                    rw [eS, hX, hY, smF, List.length_map]
                  have hlb2 := lbS_rng ((smF D (m + 1) (U dep) (V dep) (x0 + 1)).map (fun l => l0 ++ l)) t (fun l hl => ?_) ht
                  · refine ihm (dep + 1) (va_up U (dep + 1) (X - V dep)) (va_up V (dep + 1) Y) (M * 60) (l0 ++ [((x0 + 1 : Nat) : Int)]) (fo + (smF D (m + 1) (U dep) (V dep) (x0 + 1)).length) (lbS ((smF D (m + 1) (U dep) (V dep) (x0 + 1)).map (fun l => l0 ++ l)) t) (wS w ((smF D (m + 1) (U dep) (V dep) (x0 + 1)).map (fun l => l0 ++ l)) fo wt) (by omega) hM2 (by rw [va_up_s]; omega) (by rw [va_up_s]; omega) (by simp; omega) (by omega) (fun h5 L6 L8 L10 L11 L12 L14 L15 H5 => ?_) (60 - r) r h4 t wt fo _ _ _ _ _ _ _ (by omega) ⟨(f4 52 (by omega)).trans z1'', ⟨_, (f4 61 (by omega)).trans ((f3 61 (by omega)).trans b2), fun i hi => ?_⟩, ⟨_, (f4 62 (by omega)).trans b3, fun i hi => ?_⟩, ⟨_, b4, fun i hi => ?_⟩, ⟨fw, (f4 64 (by omega)).trans ((f3 64 (by omega)).trans ((f2 64 (by omega)).trans z5)), z6⟩, fun j j1 j2 => (f4 j (by omega)).trans ((f3 j (by omega)).trans ((f2 j (by omega)).trans (z7 j j1 j2)))⟩ ht (by rw [va_up_s, va_up_s, eL]) (by rw [va_up_s, va_up_s, ← eF]) (by rw [va_up_s, va_up_s, ← eF])
                    · rw [show ((dep + 1 : Nat) : Int) + -1 = (dep : Int) by omega]
                      obtain ⟨w1, ⟨gu, w2, w2'⟩, ⟨gl, w3, w3'⟩, w4, w5, w7⟩ := H5
                      refine hrec h5 _ _ _ _ _ _ _ _ _ _ ⟨w1, ⟨gu, w2, fun i hi => by rw [w2' i hi, va_up_n _ _ _ (by omega)]⟩, ⟨gl, w3, fun i hi => by rw [w3' i hi, va_up_n _ _ _ (by omega)]⟩, w4, w5, w7⟩ hlb2 (by omega) hlb hws
                    · by_cases e : i = dep + 1
                      · rw [e, va_up_s, va_up_s]
                      · rw [va_up_n _ _ _ e, va_up_n _ _ _ e]; exact z2' i (by omega)
                    · by_cases e : i = dep + 1
                      · rw [e, va_up_s, va_up_s]
                      · rw [va_up_n _ _ _ e, va_up_n _ _ _ e]; exact z3' i (by omega)
                    · rw [gd_app]
                      by_cases e : i = dep + 1
                      · rw [e, va_up_s, if_neg (by simp; omega), if_pos (by simp; omega)]
                      · rw [va_up_n _ _ _ e, if_pos (by simp; omega)]; exact z4' i (by omega)
                  · obtain ⟨l', hl', rfl⟩ := List.mem_map.mp hl
                    obtain ⟨l'', hl'', rfl⟩ := List.mem_map.mp hl'
                    obtain ⟨g1, g2⟩ := sm_mem _ _ _ _ hl''
                    have ne : l'' ≠ [] := by intro z; rw [z] at g1; simp at g1
                    have := asc_last l'' _ g2 ne
                    rw [lastN_app2 _ (by simp), lastN_cons _ ne]
                    omega
                refine aw_lload dX6_goesThrough_268 rfl ?_
                refine aw_ldiv dX6_goesThrough_270 (by omega) (by omega) ?_
                refine aw_lconst (a := 1) dX6_goesThrough_271 (by decide) ?_
                refine aw_lsub dX6_goesThrough_272 ?_
                refine aw_lstore dX6_goesThrough_273 (by decide) ?_
                refine aw_aload_n dX6_goesThrough_275 rfl ?_
                refine aw_get kg_X6_49 (by assumption) (by rfl) dX6_goesThrough_276 ?_
                refine aw_iload dX6_goesThrough_279 rfl ?_
                refine aw_lload dX6_goesThrough_281 rfl ?_
                refine aw_iload dX6_goesThrough_283 rfl ?_
                refine aw_i2l dX6_goesThrough_285 (by omega) ?_
                -- at 286: .lcmp
                refine aw_lcmp_le (tgt := 310) dX6_goesThrough_286 dX6_goesThrough_287 (by omega) (by omega) (by decide) (fun c6 => ?_) (fun c6 => ?_)
                · refine aw_iload dX6_goesThrough_310 rfl ?_
                  exact fin (x0 + 1) (Nat.le_refl _) (by omega) (fun y y1 y2 => by omega) _ _
                · have small : ∀ y : Nat, (y : Int) ≤ Y / (X - V dep) - 1 → (X - V dep) * (y : Int) < Y := by
                    intro y hy
                    have m1 := Int.mul_le_mul_of_nonneg_left hy (show 0 ≤ X - V dep by omega)
                    rw [Int.mul_sub, Int.mul_one] at m1
                    omega
                  refine aw_lload dX6_goesThrough_290 rfl ?_
                  refine aw_ldc2 kl_X6_137 dX6_goesThrough_292 ?_
                  -- at 295: .lcmp
                  refine aw_lcmp_le (tgt := 304) dX6_goesThrough_295 dX6_goesThrough_296 (by omega) (by omega) (by decide) (fun c7 => ?_) (fun c7 => ?_)
                  · obtain ⟨r, hr⟩ : ∃ r : Nat, Y / (X - V dep) - 1 = (r : Int) := ⟨(Y / (X - V dep) - 1).toNat, by omega⟩
                    rw [hr] at c6 c7 small
                    refine aw_lload dX6_goesThrough_304 rfl ?_
                    refine aw_l2i dX6_goesThrough_306 ?_
                    refine aw_goto (tgt := 312) dX6_goesThrough_307 (by decide) ?_
                    have KK := fin r (by omega) (by omega) (fun y y1 y2 => small y (by omega)) (some (aL (Y / (X - V dep) - 1))) none
                    rw [hr] at KK ⊢
                    exact KK
                  · refine aw_bipush dX6_goesThrough_299 (by decide) ?_
                    refine aw_goto (tgt := 312) dX6_goesThrough_301 (by decide) ?_
                    exact fin 60 (by omega) (by omega) (fun y y1 y2 => small y (by omega)) _ _
    intro c
    induction c with
    | zero => intro x0 h t wt fo L6 L8 L10 L11 L12 L14 L15 hx0; exact step x0 h t wt fo L6 L8 L10 L11 L12 L14 L15 (by omega) (fun z => by omega)
    | succ c ihc => intro x0 h t wt fo L6 L8 L10 L11 L12 L14 L15 hx0; exact step x0 h t wt fo L6 L8 L10 L11 L12 L14 L15 (by omega) (fun _ h t wt fo L6 L8 L10 L11 L12 L14 L15 => ihc (x0 + 1) h t wt fo L6 L8 L10 L11 L12 L14 L15 (by omega))
end Goes
