/-! the reference: its state; undo, term, keep, back, count, type, clear, fraction -/
def isW (h : AH) (t : List Int) (past : List (List Int)) (i0 i1 : List Int) : Prop := ∃ W, h 53 = aA 0 117 W ∧ inW W 0 t ∧ inW W 9 i0 ∧ inW W 18 i1 ∧ ∀ k, k < past.length → inW W (27 + 9 * k) (past.getD k [])
def isKp (h : AH) (k0 k1 : Int) : Prop := ∃ f, h 54 = aA 1 2 f ∧ f 0 = k0 ∧ f 1 = k1
def isMd (h : AH) (u p q sn ls : Int) : Prop := ∃ e1 e2 e3 e4 e5 e6 e7 e8, h 52 = aO 6 (mdl u p q sn ls e1 e2 e3 e4 e5 e6 e7 e8)
def RM (h : AH) : WS → Prop := fun (p, q, t, past, (k0, i0), (k1, i1), sn, tx) => isMd h (past.length : Int) p q (sn.length : Int) (tx.length : Int) ∧ isW h t past i0 i1 ∧ isKp h k0 k1 ∧ isSn h sn ∧ isTy h tx ∧ isArr h 59 8 [] ∧ isArr h 60 8 [] ∧ gtA h
theorem isW.fr {h h' : AH} {t : List Int} {past : List (List Int)} {i0 i1 : List Int} (H : isW h t past i0 i1) (e : h' 53 = h 53) : isW h' t past i0 i1 := by
  obtain ⟨W, a, b⟩ := H
  exact ⟨W, e.trans a, b⟩
theorem isKp.fr {h h' : AH} {k0 k1 : Int} (H : isKp h k0 k1) (e : h' 54 = h 54) : isKp h' k0 k1 := by
  obtain ⟨f, a, b⟩ := H
  exact ⟨f, e.trans a, b⟩
theorem isMd.fr {h h' : AH} {u p q sn ls : Int} (H : isMd h u p q sn ls) (e : h' 52 = h 52) : isMd h' u p q sn ls := by
  obtain ⟨e1, e2, e3, e4, e5, e6, e7, e8, a⟩ := H
  exact ⟨e1, e2, e3, e4, e5, e6, e7, e8, e.trans a⟩
/-- what lies beside 52, 53, 54 -/
def isRest (h : AH) (sn : List Seen) (tx : List Int) : Prop := isSn h sn ∧ isTy h tx ∧ isArr h 59 8 [] ∧ isArr h 60 8 [] ∧ gtA h
theorem isRest.fr {h h' : AH} {sn : List Seen} {tx : List Int} (H : isRest h sn tx) (hf : ∀ j, 55 ≤ j → j ≤ 64 → h' j = h j) : isRest h' sn tx := by
  obtain ⟨a1, a2, a3, a4, a5⟩ := H
  exact ⟨a1.fr (fun j j1 j2 => hf j (by omega) (by omega)), a2.fr (hf 58 (by omega) (by omega)), a3.fr (hf 59 (by omega) (by omega)), a4.fr (hf 60 (by omega) (by omega)), a5.fr (fun j j1 j2 => hf j (by omega) (by omega))⟩
theorem RM.fr {h h' : AH} {s : WS} (H : RM h s) (hf : ∀ j, 52 ≤ j → j ≤ 64 → h' j = h j) : RM h' s := by
  obtain ⟨p, q, t, past, ⟨k0, i0⟩, ⟨k1, i1⟩, sn, tx⟩ := s
  obtain ⟨a1, a2, a3, a4⟩ := H
  exact ⟨a1.fr (hf 52 (by omega) (by omega)), a2.fr (hf 53 (by omega) (by omega)), a3.fr (hf 54 (by omega) (by omega)), isRest.fr a4 (fun j j1 j2 => hf j (by omega) j2)⟩
abbrev mQ (n : Nat) (h : AH) (r : Int × WS) : AQ := aqi n fun v h' => v = r.1 ∧ RM h' r.2 ∧ ∀ j, (j < 52 ∨ 64 < j) → h' j = h j
theorem okPast.at {past : List (List Int)} (H : okPast past) {k : Nat} (hk : k < past.length) : okRow (past.getD k []) := by
  rw [List.getD_eq_getElem?_getD, List.getElem?_eq_getElem hk]
  exact H.2 _ (List.getElem_mem _)
theorem cpW_in {W : Nat → Int} {a b : Nat} {l : List Int} (H : inW W a l) (hl : l.length ≤ 8) : inW (cpW W a b 9) b l := H.mv hl (fun i hi => by unfold cpW; rw [if_pos (by omega)]; congr 1; omega)
theorem cpW_out {W : Nat → Int} {a b c : Nat} {l : List Int} (H : inW W c l) (hl : l.length ≤ 8) (hc : c + 9 ≤ b ∨ b + 9 ≤ c) : inW (cpW W a b 9) c l := H.fr hl (fun i i1 i2 => by unfold cpW; rw [if_neg (by omega)])
section Model
variable {d n : Nat} {h : AH} {s : WS}
theorem c6_minds {p q : Int} {t : List Int} {past : List (List Int)} {i0 i1 : List Int} {snl txl : Int} (ok : okPast past) (ot : inRow t) (oi0 : i0.length ≤ 8) (oi1 : i1.length ≤ 8) (hM : isMd h (past.length : Int) p q snl txl) (hW : isW h t past i0 i1) : AC mX6_minds (d + 1) 0 0 n h [aR 52] (aqv n fun h' => isMd h' ((storeS past t).length : Int) p q snl txl ∧ isW h' t (storeS past t) i0 i1 ∧ ∀ j, j ≠ 52 → j ≠ 53 → h' j = h j) := by
  refine AC.of (by decide) (Nat.le_of_ble_eq_true rfl) ?_
  obtain ⟨e1, e2, e3, e4, e5, e6, e7, e8, hM⟩ := hM
  obtain ⟨W, w1, w2, w3, w4, w5⟩ := hW
  have p10 := ok.1
  have t8 := ot.1
  have rest : ∀ (h1 : AH) (past1 : List (List Int)) (W1 : Nat → Int), past1.length < 10 → past1 ++ [t] = storeS past t → (∀ k, k < past1.length → (past1.getD k []).length ≤ 8) → h1 52 = aO 6 (mdl (past1.length : Int) p q snl txl e1 e2 e3 e4 e5 e6 e7 e8) → h1 53 = aA 0 117 W1 → inW W1 0 t → inW W1 9 i0 → inW W1 18 i1 → (∀ k, k < past1.length → inW W1 (27 + 9 * k) (past1.getD k [])) → (∀ j, j ≠ 52 → j ≠ 53 → h1 j = h j) → ∀ L1, AW mX6_minds (am_R (d + 1) 0 0) (am_Z (aqv n fun h' => isMd h' ((storeS past t).length : Int) p q snl txl ∧ isW h' t (storeS past t) i0 i1 ∧ ∀ j, j ≠ 52 → j ≠ 53 → h' j = h j) 0 0) 0 0 n h1 51 [some (aR 52), L1] [] := by
    intro h1 past1 W1 hl es h8 M1 x1 x2 x3 x4 x5 hfr L1
    refine aw_aload_n dX6_minds_51 rfl ?_
    refine aw_iconst dX6_minds_52 ?_
    refine aw_bipush dX6_minds_53 (by decide) ?_
    refine aw_bipush dX6_minds_55 (by decide) ?_
    refine aw_aload_n dX6_minds_57 rfl ?_
    refine aw_get kg_X6_55 (by assumption) (by rfl) dX6_minds_58 ?_
    refine aw_imul dX6_minds_61 ?_
    refine aw_iadd dX6_minds_62 ?_
    refine aw_val (w := aI ((27 + 9 * past1.length : Nat) : Int)) (by congr 1) ?_
    refine aw_Vv2 kc_X6_58 (c6_copy (d := d) (a := 0) (by omega) (by omega) (by omega) M1 x1) (by assumption) rfl rfl (by omega) (Nat.le_of_ble_eq_true rfl) dX6_minds_63 (fun h2 q1 => ?_)
    obtain ⟨q2, q3⟩ := q1
    have M2 := (q3 52 (by omega)).trans M1
    refine aw_aload_n dX6_minds_66 rfl ?_
    refine aw_dup dX6_minds_67 rfl ?_
    refine aw_get kg_X6_55 (by assumption) (by rfl) dX6_minds_68 ?_
    refine aw_iconst dX6_minds_71 ?_
    refine aw_iadd dX6_minds_72 ?_
    -- at 73: .putfield 55
    refine aw_putO kp_X6_55 (by assumption) (by simp) (aw_ni _) dX6_minds_73 (fun h3 b3 f3 => ?_)
    have b3 : h3 52 = aO 6 (mdl ((past1.length : Int) + 1) p q snl txl e1 e2 e3 e4 e5 e6 e7 e8) := b3
    have W3 := (f3 53 (by omega)).trans q2
    refine aw_vret rfl dX6_minds_76 ⟨rfl, rfl, ?_, ?_, fun j j1 j2 => (f3 j j1).trans ((q3 j j2).trans (hfr j j1 j2))⟩
    · rw [← es]
      exact ⟨e1, e2, e3, e4, e5, e6, e7, e8, by rw [b3]; simp⟩
    · rw [← es]
      refine ⟨_, W3, cpW_out x2 t8 (by omega), cpW_out x3 oi0 (by omega), cpW_out x4 oi1 (by omega), fun k hk => ?_⟩
      simp at hk
      rw [gp_app]
      by_cases z : k < past1.length
      · rw [if_pos z]
        exact cpW_out (x5 k z) (h8 k z) (by omega)
      · rw [if_neg z, if_pos (by omega), show k = past1.length by omega]
        exact cpW_in x2 t8
  refine aw_aload_n dX6_minds_0 rfl ?_
  refine aw_get kg_X6_55 (by assumption) (by rfl) dX6_minds_1 ?_
  refine aw_bipush dX6_minds_4 (by decide) ?_
  -- at 6: .if_icmp .ne 45
  refine aw_icmp_ne (tgt := 51) dX6_minds_6 (by omega) (by omega) (by decide) (fun c1 => ?_) (fun c1 => ?_)
  · exact rest h past W (by omega) (by rw [storeS, if_neg (by omega)]) (fun k hk => (ok.at hk).1.1) hM w1 w2 w3 w4 w5 (fun _ _ _ => rfl) _
  · have loop : ∀ (c k : Nat) (h1 : AH), k + c = 81 → h1 53 = aA 0 117 (shW W k) → (∀ j, j ≠ 53 → h1 j = h j) → AW mX6_minds (am_R (d + 1) 0 0) (am_Z (aqv n fun h' => isMd h' ((storeS past t).length : Int) p q snl txl ∧ isW h' t (storeS past t) i0 i1 ∧ ∀ j, j ≠ 52 → j ≠ 53 → h' j = h j) 0 0) 0 0 n h1 11 [some (aR 52), some (aI (k : Int))] [] := by
      intro c
      induction c with
      | zero =>
        intro k h1 hk x1 hfr
        have M1 := (hfr 52 (by omega)).trans hM
        rw [show k = 81 by omega] at x1
        refine aw_iload_n dX6_minds_11 rfl ?_
        refine aw_bipush dX6_minds_12 (by decide) ?_
        -- at 14: .if_icmp .ge 27
        refine aw_icmp_ge (tgt := 41) dX6_minds_14 (by omega) (by omega) (by decide) (fun c2 => ?_) (fun c2 => ?_)
        · refine aw_aload_n dX6_minds_41 rfl ?_
          refine aw_dup dX6_minds_42 rfl ?_
          refine aw_get kg_X6_55 (by assumption) (by rfl) dX6_minds_43 ?_
          refine aw_iconst dX6_minds_46 ?_
          refine aw_isub dX6_minds_47 ?_
          -- at 48: .putfield 55
          refine aw_putO kp_X6_55 (by assumption) (by simp) (aw_ni _) dX6_minds_48 (fun h2 b2 f2 => ?_)
          have b2 : h2 52 = aO 6 (mdl ((past.length : Int) - 1) p q snl txl e1 e2 e3 e4 e5 e6 e7 e8) := b2
          refine rest h2 (past.drop 1) (shW W 81) (by simp; omega) (by rw [storeS, if_pos (by omega)]) (fun k hk => ?_) (by rw [b2]; simp; omega) ((f2 53 (by omega)).trans x1) (w2.fr t8 (fun i i1 i2 => ?_)) (w3.fr oi0 (fun i i1 i2 => ?_)) (w4.fr oi1 (fun i i1 i2 => ?_)) (fun k hk => ?_) (fun j j1 j2 => (f2 j j1).trans (hfr j j2)) _
          · simp at hk
            rw [gp_drop]
            exact (ok.at (by omega)).1.1
          · unfold shW; rw [if_neg (by omega)]
          · unfold shW; rw [if_neg (by omega)]
          · unfold shW; rw [if_neg (by omega)]
          · simp at hk
            rw [gp_drop]
            refine (w5 (k + 1) (by omega)).mv (ok.at (by omega)).1.1 (fun i hi => ?_)
            unfold shW
            rw [if_pos (by omega)]
            congr 1
            omega
        · omega
      | succ c ih =>
        intro k h1 hk x1 hfr
        have M1 := (hfr 52 (by omega)).trans hM
        refine aw_iload_n dX6_minds_11 rfl ?_
        refine aw_bipush dX6_minds_12 (by decide) ?_
        -- at 14: .if_icmp .ge 27
        refine aw_icmp_ge (tgt := 41) dX6_minds_14 (by omega) (by omega) (by decide) (fun c2 => ?_) (fun c2 => ?_)
        · omega
        · refine aw_aload_n dX6_minds_17 rfl ?_
          refine aw_get kg_X6_7 (by assumption) (by rfl) dX6_minds_18 ?_
          refine aw_bipush dX6_minds_21 (by decide) ?_
          refine aw_iload_n dX6_minds_23 rfl ?_
          refine aw_iadd dX6_minds_24 ?_
          refine aw_aload_n dX6_minds_25 rfl ?_
          refine aw_get kg_X6_7 (by assumption) (by rfl) dX6_minds_26 ?_
          refine aw_bipush dX6_minds_29 (by decide) ?_
          refine aw_iload_n dX6_minds_31 rfl ?_
          refine aw_iadd dX6_minds_32 ?_
          refine aw_iald (by assumption) (by omega) dX6_minds_33 ?_
          -- at 34: .iastore
          refine aw_iastO (by assumption) (by omega) dX6_minds_34 (fun h2 b2 f2 => ?_)
          refine aw_iinc dX6_minds_35 rfl (by decide) ?_
          refine aw_goto (tgt := 11) dX6_minds_38 (by decide) ?_
          have K := ih (k + 1) h2 (by omega) ?_ (fun j hj => (f2 j hj).trans (hfr j hj))
          · rw [show ((k + 1 : Nat) : Int) = (k : Int) + 1 by omega] at K
            exact K
          · rw [b2, show ((27 : Int) + (k : Int)).toNat = 27 + k by omega, show ((36 : Int) + (k : Int)).toNat = 36 + k by omega]
            congr 1
            funext i
            by_cases z : i = 27 + k
            · rw [z, va_up_s]
              unfold shW
              rw [if_neg (by omega), if_pos (by omega)]
              congr 1
              omega
            · rw [va_up_n _ _ _ z]
              unfold shW
              by_cases y : 27 ≤ i ∧ i < 27 + k
              · rw [if_pos y, if_pos (by omega)]
              · rw [if_neg y, if_neg (by omega)]
    refine aw_iconst dX6_minds_9 ?_
    refine aw_istore_n dX6_minds_10 (by decide) ?_
    refine loop 81 0 h rfl ?_ (fun _ _ => rfl)
    rw [w1]
    congr 1
    funext i
    unfold shW
    rw [if_neg (by omega)]
theorem c6_undo (H : RM h s) (ok : okS s) : AC mX6_undo (d + 20) 0 0 n h [aR 52] (mQ n h (undoF s)) := by
  obtain ⟨p, q, t, past, ⟨k0, i0⟩, ⟨k1, i1⟩, sn, tx⟩ := s
  have H0 := H
  obtain ⟨⟨e1, e2, e3, e4, e5, e6, e7, e8, hM⟩, ⟨W, w1, w2, w3, w4, w5⟩, a3, a4⟩ := H
  obtain ⟨o1, o2, o3, o4, o5, o6, o7⟩ := ok
  have p10 := o3.1
  refine AC.of (by decide) (Nat.le_of_ble_eq_true rfl) ?_
  refine aw_aload_n dX6_undo_0 rfl ?_
  refine aw_get kg_X6_55 (by assumption) (by rfl) dX6_undo_1 ?_
  -- at 4: .ifCond .ne 6
  refine aw_if_ne (tgt := 10) dX6_undo_4 (by omega) (by decide) (fun c1 => ?_) (fun c1 => ?_)
  rotate_left
  · refine aw_bipush dX6_undo_7 (by decide) ?_
    -- at 9: .ireturn
    refine aw_iret rfl dX6_undo_9 ⟨rfl, _, rfl, ?_⟩
    rw [undoF, if_pos (by omega)]
    exact ⟨rfl, H0, fun _ _ => rfl⟩
  · refine aw_aload_n dX6_undo_10 rfl ?_
    refine aw_dup dX6_undo_11 rfl ?_
    refine aw_get kg_X6_55 (by assumption) (by rfl) dX6_undo_12 ?_
    refine aw_iconst dX6_undo_15 ?_
    refine aw_isub dX6_undo_16 ?_
    -- at 17: .putfield 55
    refine aw_putO kp_X6_55 (by assumption) (by simp) (aw_ni _) dX6_undo_17 (fun h1 b1 f1 => ?_)
    have b1 : h1 52 = aO 6 (mdl ((past.length : Int) - 1) p q (sn.length : Int) (tx.length : Int) e1 e2 e3 e4 e5 e6 e7 e8) := b1
    have W1 := (f1 53 (by omega)).trans w1
    refine aw_aload_n dX6_undo_20 rfl ?_
    refine aw_bipush dX6_undo_21 (by decide) ?_
    refine aw_bipush dX6_undo_23 (by decide) ?_
    refine aw_aload_n dX6_undo_25 rfl ?_
    refine aw_get kg_X6_55 (by assumption) (by rfl) dX6_undo_26 ?_
    refine aw_imul dX6_undo_29 ?_
    refine aw_iadd dX6_undo_30 ?_
    refine aw_val (w := aI ((27 + 9 * (past.length - 1) : Nat) : Int)) (by congr 1; omega) ?_
    refine aw_iconst dX6_undo_31 ?_
    -- at 32: .invokevirtual 58
    refine aw_Vv2 kc_X6_58 (c6_copy (d := d + 19) (b := 0) (by omega) (by omega) (by omega) b1 W1) (by assumption) rfl rfl (by omega) (Nat.le_of_ble_eq_true rfl) dX6_undo_32 (fun h2 q1 => ?_)
    obtain ⟨q2, q3⟩ := q1
    have M2 := (q3 52 (by omega)).trans b1
    refine aw_aload_n dX6_undo_35 rfl ?_
    refine aw_get kg_X6_55 (by assumption) (by rfl) dX6_undo_36 ?_
    -- at 39: .ireturn
    refine aw_iret rfl dX6_undo_39 ⟨rfl, _, rfl, ?_⟩
    rw [undoF, if_neg (by omega)]
    have fr : ∀ j, j ≠ 52 → j ≠ 53 → h2 j = h j := fun j j1 j2 => (q3 j j2).trans (f1 j j1)
    refine ⟨rfl, ⟨⟨e1, e2, e3, e4, e5, e6, e7, e8, by rw [M2]; simp; omega⟩, ⟨_, q2, cpW_in (w5 _ (by omega)) (o3.at (by omega)).1.1, cpW_out w3 o4.2.1.1 (by omega), cpW_out w4 o5.2.1.1 (by omega), fun k hk => ?_⟩, a3.fr (fr 54 (by omega) (by omega)), isRest.fr a4 (fun j j1 j2 => fr j (by omega) (by omega))⟩, fun j hj => fr j (by omega) (by omega)⟩
    simp at hk
    rw [dropLast_gp _ _ hk]
    exact cpW_out (w5 k (by omega)) (o3.at (by omega)).1.1 (by omega)
theorem c6_term {k : Int} (hk : -2147483648 ≤ k ∧ k ≤ 2147483647) (H : RM h s) (ok : okS s) : AC mX6_term (d + 20) 0 0 n h [aR 52, aI k] (mQ n h (termF k s)) := by
  obtain ⟨p, q, t, past, ⟨k0, i0⟩, ⟨k1, i1⟩, sn, tx⟩ := s
  have H0 := H
  obtain ⟨⟨e1, e2, e3, e4, e5, e6, e7, e8, hM⟩, ⟨W, w1, w2, w3, w4, w5⟩, a3, a4⟩ := H
  obtain ⟨o1, o2, o3, o4, o5, o6, o7⟩ := ok
  have t8 := o2.1.1
  refine AC.of (by decide) (Nat.le_of_ble_eq_true rfl) ?_
  have ans : ∀ v : Int, v = (if k < 0 then -1 else if k < t.length then t.getD k.toNat 0 else -9) → AW mX6_term (am_R (d + 20) 0 0) (am_Z (mQ n h (termF k (p, q, t, past, (k0, i0), (k1, i1), sn, tx))) 0 0) 0 0 n h 31 [some (aR 52), some (aI k)] [aI v] := by
    intro v hv
    exact aw_iret rfl dX6_term_31 ⟨rfl, _, rfl, hv, H0, fun _ _ => rfl⟩
  refine aw_iload_n dX6_term_0 rfl ?_
  -- at 1: .ifCond .ge 7
  refine aw_if_ge (tgt := 8) dX6_term_1 (by omega) (by decide) (fun c1 => ?_) (fun c1 => ?_)
  · refine aw_iload_n dX6_term_8 rfl ?_
    refine aw_aload_n dX6_term_9 rfl ?_
    refine aw_get kg_X6_7 (by assumption) (by rfl) dX6_term_10 ?_
    refine aw_iconst dX6_term_13 ?_
    refine aw_iald (by assumption) (by omega) dX6_term_14 ?_
    refine aw_val (w := aI (t.length : Int)) (by rw [← w2.1]; rfl) ?_
    refine aw_icmp_ge (tgt := 29) dX6_term_15 (by omega) (by omega) (by decide) (fun c2 => ?_) (fun c2 => ?_)
    · refine aw_bipush dX6_term_29 (by decide) ?_
      -- at 31: .ireturn
      exact ans _ (by rw [if_neg (show ¬ k < 0 by omega), if_neg (show ¬ k < (t.length : Int) by omega)])
    · have wk := w2.2 k.toNat (by omega)
      refine aw_aload_n dX6_term_18 rfl ?_
      refine aw_get kg_X6_7 (by assumption) (by rfl) dX6_term_19 ?_
      refine aw_iconst dX6_term_22 ?_
      refine aw_iload_n dX6_term_23 rfl ?_
      refine aw_iadd dX6_term_24 ?_
      refine aw_iald (by assumption) (by omega) dX6_term_25 ?_
      refine aw_goto (tgt := 31) dX6_term_26 (by decide) ?_
      -- at 31: .ireturn
      refine ans _ ?_
      rw [if_neg (show ¬ k < 0 by omega), if_pos (show k < (t.length : Int) by omega), ← wk]
      congr 1
      omega
  · refine aw_iconst dX6_term_4 ?_
    refine aw_goto (tgt := 31) dX6_term_5 (by decide) ?_
    -- at 31: .ireturn
    exact ans _ (by rw [if_pos (show k < 0 by omega)])
theorem c6_count {k : Int} (hk : -2147483648 ≤ k ∧ k ≤ 2147483647) (H : RM h s) (ok : okS s) : AC mX6_count (d + 20) 0 0 n h [aR 52, aI k] (mQ n h (countF k s)) := by
  obtain ⟨p, q, t, past, ⟨k0, i0⟩, ⟨k1, i1⟩, sn, tx⟩ := s
  have H0 := H
  obtain ⟨⟨e1, e2, e3, e4, e5, e6, e7, e8, hM⟩, ⟨W, w1, w2, w3, w4, w5⟩, a3, a4⟩ := H
  obtain ⟨o1, o2, o3, o4, o5, o6, o7⟩ := ok
  have t8 := o2.1.1
  refine AC.of (by decide) (Nat.le_of_ble_eq_true rfl) ?_
  refine aw_iload_n dX6_count_0 rfl ?_
  -- at 1: .tableswitch 105 0 6 #[43, 48, 53, 60, 90, 95, 100]
  by_cases z0 : k = 0
  · subst z0
    refine aw_tableIn (tgt := 44) dX6_count_1 (by decide) (by decide) (by decide) rfl (by decide) ?_
    refine aw_aload_n dX6_count_44 rfl ?_
    refine aw_get kg_X6_17 (by assumption) (by rfl) dX6_count_45 ?_
    -- at 48: .ireturn
    exact aw_iret rfl dX6_count_48 ⟨rfl, _, rfl, rfl, H0, fun _ _ => rfl⟩
  by_cases z1 : k = 1
  · subst z1
    refine aw_tableIn (tgt := 49) dX6_count_1 (by decide) (by decide) (by decide) rfl (by decide) ?_
    refine aw_aload_n dX6_count_49 rfl ?_
    refine aw_get kg_X6_21 (by assumption) (by rfl) dX6_count_50 ?_
    -- at 53: .ireturn
    exact aw_iret rfl dX6_count_53 ⟨rfl, _, rfl, rfl, H0, fun _ _ => rfl⟩
  by_cases z2 : k = 2
  · subst z2
    refine aw_tableIn (tgt := 54) dX6_count_1 (by decide) (by decide) (by decide) rfl (by decide) ?_
    refine aw_aload_n dX6_count_54 rfl ?_
    refine aw_get kg_X6_7 (by assumption) (by rfl) dX6_count_55 ?_
    refine aw_iconst dX6_count_58 ?_
    refine aw_iald (by assumption) (by omega) dX6_count_59 ?_
    -- at 60: .ireturn
    exact aw_iret rfl dX6_count_60 ⟨rfl, _, rfl, w2.1, H0, fun _ _ => rfl⟩
  by_cases z3 : k = 3
  · subst z3
    have ans : ∀ v : Int, v = (if 0 < t.length then t.getD (t.length - 1) 0 else -9) → AW mX6_count (am_R (d + 20) 0 0) (am_Z (mQ n h (countF 3 (p, q, t, past, (k0, i0), (k1, i1), sn, tx))) 0 0) 0 0 n h 90 [some (aR 52), some (aI 3)] [aI v] := by
      intro v hv
      exact aw_iret rfl dX6_count_90 ⟨rfl, _, rfl, hv, H0, fun _ _ => rfl⟩
    refine aw_tableIn (tgt := 61) dX6_count_1 (by decide) (by decide) (by decide) rfl (by decide) ?_
    refine aw_aload_n dX6_count_61 rfl ?_
    refine aw_get kg_X6_7 (by assumption) (by rfl) dX6_count_62 ?_
    refine aw_iconst dX6_count_65 ?_
    refine aw_iald (by assumption) (by omega) dX6_count_66 ?_
    refine aw_val (w := aI (t.length : Int)) (by rw [← w2.1]; rfl) ?_
    refine aw_if_le (tgt := 88) dX6_count_67 (by omega) (by decide) (fun c1 => ?_) (fun c1 => ?_)
    · refine aw_bipush dX6_count_88 (by decide) ?_
      -- at 90: .ireturn
      exact ans _ (by rw [if_neg (by omega)])
    · have wk := w2.2 (t.length - 1) (by omega)
      refine aw_aload_n dX6_count_70 rfl ?_
      refine aw_get kg_X6_7 (by assumption) (by rfl) dX6_count_71 ?_
      refine aw_iconst dX6_count_74 ?_
      refine aw_aload_n dX6_count_75 rfl ?_
      refine aw_get kg_X6_7 (by assumption) (by rfl) dX6_count_76 ?_
      refine aw_iconst dX6_count_79 ?_
      refine aw_iald (by assumption) (by omega) dX6_count_80 ?_
      refine aw_val (w := aI (t.length : Int)) (by rw [← w2.1]; rfl) ?_
      refine aw_iadd dX6_count_81 ?_
      refine aw_iconst dX6_count_82 ?_
      refine aw_isub dX6_count_83 ?_
      refine aw_iald (by assumption) (by omega) dX6_count_84 ?_
      refine aw_goto (tgt := 90) dX6_count_85 (by decide) ?_
      -- at 90: .ireturn
      refine ans _ ?_
      rw [if_pos (by omega), ← wk]
      congr 1
      omega
  by_cases z4 : k = 4
  · subst z4
    refine aw_tableIn (tgt := 91) dX6_count_1 (by decide) (by decide) (by decide) rfl (by decide) ?_
    refine aw_aload_n dX6_count_91 rfl ?_
    refine aw_get kg_X6_123 (by assumption) (by rfl) dX6_count_92 ?_
    -- at 95: .ireturn
    exact aw_iret rfl dX6_count_95 ⟨rfl, _, rfl, rfl, H0, fun _ _ => rfl⟩
  by_cases z5 : k = 5
  · subst z5
    refine aw_tableIn (tgt := 96) dX6_count_1 (by decide) (by decide) (by decide) rfl (by decide) ?_
    refine aw_aload_n dX6_count_96 rfl ?_
    refine aw_get kg_X6_73 (by assumption) (by rfl) dX6_count_97 ?_
    -- at 100: .ireturn
    exact aw_iret rfl dX6_count_100 ⟨rfl, _, rfl, rfl, H0, fun _ _ => rfl⟩
  by_cases z6 : k = 6
  · subst z6
    refine aw_tableIn (tgt := 101) dX6_count_1 (by decide) (by decide) (by decide) rfl (by decide) ?_
    refine aw_aload_n dX6_count_101 rfl ?_
    refine aw_get kg_X6_55 (by assumption) (by rfl) dX6_count_102 ?_
    -- at 105: .ireturn
    exact aw_iret rfl dX6_count_105 ⟨rfl, _, rfl, rfl, H0, fun _ _ => rfl⟩
  · refine aw_tableOut (tgt := 106) dX6_count_1 hk (by omega) (by decide) ?_
    refine aw_iconst dX6_count_106 ?_
    -- at 107: .ireturn
    refine aw_iret rfl dX6_count_107 ⟨rfl, _, rfl, ?_, H0, fun _ _ => rfl⟩
    show _ = (if k = 0 then p else if k = 1 then q else if k = 2 then (t.length : Int) else if k = 3 then (if 0 < t.length then t.getD (t.length - 1) 0 else -9) else if k = 4 then (sn.length : Int) else if k = 5 then (tx.length : Int) else if k = 6 then (past.length : Int) else -1)
    rw [if_neg z0, if_neg z1, if_neg z2, if_neg z3, if_neg z4, if_neg z5, if_neg z6]
theorem c6_keep {k : Int} (hk : -2147483648 ≤ k ∧ k ≤ 2147483647) (H : RM h s) (ok : okS s) : AC mX6_keep (d + 20) 0 0 n h [aR 52, aI k] (mQ n h (keepF k s)) := by
  obtain ⟨p, q, t, past, ⟨k0, i0⟩, ⟨k1, i1⟩, sn, tx⟩ := s
  have H0 := H
  obtain ⟨⟨e1, e2, e3, e4, e5, e6, e7, e8, hM⟩, ⟨W, w1, w2, w3, w4, w5⟩, ⟨f, b1, b2, b3⟩, a4⟩ := H
  obtain ⟨o1, o2, o3, o4, o5, o6, o7⟩ := ok
  have t8 := o2.1.1
  refine AC.of (by decide) (Nat.le_of_ble_eq_true rfl) ?_
  refine aw_iload_n dX6_keep_0 rfl ?_
  refine aw_i2l dX6_keep_1 (by omega) ?_
  refine aw_lconst (a := 0) dX6_keep_2 (by decide) ?_
  refine aw_lconst (a := 1) dX6_keep_3 (by decide) ?_
  -- at 4: .invokestatic 66
  refine aw_Si3 kc_X6_66 (c_in (d := d + 19) (by omega) (by omega) (by omega)) rfl (by omega) (Nat.le_of_ble_eq_true rfl) dX6_keep_4 (fun v h' q1 => ?_)
  obtain ⟨rfl, rfl⟩ := q1
  refine aw_flag_ne (tgt := 12) dX6_keep_7 (by decide) (fun c1 => ?_) (fun c1 => ?_)
  rotate_left
  · refine aw_iconst dX6_keep_10 ?_
    -- at 11: .ireturn
    refine aw_iret rfl dX6_keep_11 ⟨rfl, _, rfl, ?_⟩
    rw [keepF, if_neg c1]
    exact ⟨rfl, H0, fun _ _ => rfl⟩
  · obtain ⟨K, rfl⟩ : ∃ K : Nat, k = (K : Int) := ⟨k.toNat, by omega⟩
    refine aw_aload_n dX6_keep_12 rfl ?_
    refine aw_iconst dX6_keep_13 ?_
    refine aw_bipush dX6_keep_14 (by decide) ?_
    refine aw_bipush dX6_keep_16 (by decide) ?_
    refine aw_iload_n dX6_keep_18 rfl ?_
    refine aw_imul dX6_keep_19 ?_
    refine aw_iadd dX6_keep_20 ?_
    refine aw_val (w := aI ((9 + 9 * K : Nat) : Int)) (by congr 1) ?_
    refine aw_Vv2 kc_X6_58 (c6_copy (d := d + 19) (a := 0) (by omega) (by omega) (by omega) hM w1) (by assumption) rfl rfl (by omega) (Nat.le_of_ble_eq_true rfl) dX6_keep_21 (fun h1 q1 => ?_)
    obtain ⟨q2, q3⟩ := q1
    have M1 := (q3 52 (by omega)).trans hM
    have B1 := (q3 54 (by omega)).trans b1
    refine aw_aload_n dX6_keep_24 rfl ?_
    refine aw_get kg_X6_13 (by assumption) (by rfl) dX6_keep_25 ?_
    refine aw_iload_n dX6_keep_28 rfl ?_
    refine aw_iconst dX6_keep_29 ?_
    -- at 30: .bastore
    refine aw_zastO (by assumption) (by omega) (by omega) dX6_keep_30 (fun h2 b9 f9 => ?_)
    rw [Int.toNat_natCast] at b9
    have M2 := (f9 52 (by omega)).trans M1
    have W2 := (f9 53 (by omega)).trans q2
    refine aw_aload_n dX6_keep_31 rfl ?_
    refine aw_get kg_X6_7 (by assumption) (by rfl) dX6_keep_32 ?_
    refine aw_iconst dX6_keep_35 ?_
    refine aw_iald (by assumption) (by omega) dX6_keep_36 ?_
    -- at 37: .ireturn
    have fr : ∀ j, j ≠ 53 → j ≠ 54 → h2 j = h' j := fun j j1 j2 => (f9 j j2).trans (q3 j j1)
    refine aw_iret rfl dX6_keep_37 ⟨rfl, _, rfl, ?_⟩
    rw [keepF, if_pos c1]
    have v0 : cpW W 0 (9 + 9 * K) 9 0 = (t.length : Int) := by
      unfold cpW; rw [if_neg (by omega)]; exact w2.1
    refine ⟨v0, ⟨⟨e1, e2, e3, e4, e5, e6, e7, e8, M2⟩, ?_, ?_, isRest.fr a4 (fun j j1 j2 => fr j (by omega) (by omega))⟩, fun j hj => fr j (by omega) (by omega)⟩
    · have pastW : ∀ k, k < past.length → inW (cpW W 0 (9 + 9 * K) 9) (27 + 9 * k) (past.getD k []) := fun k hk => cpW_out (w5 k hk) (o3.at hk).1.1 (by omega)
      by_cases z : K = 0
      · subst z
        exact ⟨_, W2, cpW_out w2 t8 (by omega), cpW_in w2 t8, cpW_out w4 o5.2.1.1 (by omega), pastW⟩
      · have z1 : K = 1 := by omega
        subst z1
        exact ⟨_, W2, cpW_out w2 t8 (by omega), cpW_out w3 o4.2.1.1 (by omega), cpW_in w2 t8, pastW⟩
    · by_cases z : K = 0
      · subst z
        exact ⟨_, b9, va_up_s .., (va_up_n _ _ _ (by decide)).trans b3⟩
      · have z1 : K = 1 := by omega
        subst z1
        exact ⟨_, b9, (va_up_n _ _ _ (by decide)).trans b2, va_up_s ..⟩
theorem c6_back {k : Int} (hk : -2147483648 ≤ k ∧ k ≤ 2147483647) (H : RM h s) (ok : okS s) : AC mX6_back (d + 20) 0 0 n h [aR 52, aI k] (mQ n h (backF k s)) := by
  obtain ⟨p, q, t, past, ⟨k0, i0⟩, ⟨k1, i1⟩, sn, tx⟩ := s
  have H0 := H
  obtain ⟨⟨e1, e2, e3, e4, e5, e6, e7, e8, hM⟩, ⟨W, w1, w2, w3, w4, w5⟩, a3, a4⟩ := H
  have a3' := a3
  obtain ⟨f, b1, b2, b3⟩ := a3
  obtain ⟨o1, o2, o3, o4, o5, o6, o7⟩ := ok
  have t8 := o2.1.1
  refine AC.of (by decide) (Nat.le_of_ble_eq_true rfl) ?_
  have rest : ∀ (K : Nat) (im : List Int), K ≤ 1 → inW W (9 + 9 * K) im → im.length ≤ 8 → backF (K : Int) (p, q, t, past, (k0, i0), (k1, i1), sn, tx) = ((im.length : Int), (p, q, im, [], (k0, i0), (k1, i1), sn, tx)) → AW mX6_back (am_R (d + 20) 0 0) (am_Z (mQ n h (backF (K : Int) (p, q, t, past, (k0, i0), (k1, i1), sn, tx))) 0 0) 0 0 n h 24 [some (aR 52), some (aI (K : Int))] [] := by
    intro K im hK hin him e
    refine aw_aload_n dX6_back_24 rfl ?_
    refine aw_bipush dX6_back_25 (by decide) ?_
    refine aw_bipush dX6_back_27 (by decide) ?_
    refine aw_iload_n dX6_back_29 rfl ?_
    refine aw_imul dX6_back_30 ?_
    refine aw_iadd dX6_back_31 ?_
    refine aw_val (w := aI ((9 + 9 * K : Nat) : Int)) (by congr 1) ?_
    refine aw_iconst dX6_back_32 ?_
    -- at 33: .invokevirtual 58
    refine aw_Vv2 kc_X6_58 (c6_copy (d := d + 19) (b := 0) (by omega) (by omega) (by omega) hM w1) (by assumption) rfl rfl (by omega) (Nat.le_of_ble_eq_true rfl) dX6_back_33 (fun h1 q1 => ?_)
    obtain ⟨q2, q3⟩ := q1
    have M1 := (q3 52 (by omega)).trans hM
    refine aw_aload_n dX6_back_36 rfl ?_
    refine aw_iconst dX6_back_37 ?_
    -- at 38: .putfield 55
    refine aw_putO kp_X6_55 (by assumption) (by simp) (aw_ni _) dX6_back_38 (fun h2 b9 f9 => ?_)
    have b9 : h2 52 = aO 6 (mdl 0 p q (sn.length : Int) (tx.length : Int) e1 e2 e3 e4 e5 e6 e7 e8) := b9
    have W2 := (f9 53 (by omega)).trans q2
    refine aw_aload_n dX6_back_41 rfl ?_
    refine aw_get kg_X6_7 (by assumption) (by rfl) dX6_back_42 ?_
    refine aw_iconst dX6_back_45 ?_
    refine aw_iald (by assumption) (by omega) dX6_back_46 ?_
    -- at 47: .ireturn
    have fr : ∀ j, j ≠ 53 → j ≠ 52 → h2 j = h j := fun j j1 j2 => (f9 j j2).trans (q3 j j1)
    refine aw_iret rfl dX6_back_47 ⟨rfl, _, rfl, ?_⟩
    rw [e]
    have vin := cpW_in (b := 0) hin him
    exact ⟨vin.1, ⟨⟨e1, e2, e3, e4, e5, e6, e7, e8, b9⟩, ⟨_, W2, vin, cpW_out w3 o4.2.1.1 (by omega), cpW_out w4 o5.2.1.1 (by omega), fun k hk => absurd hk (by simp)⟩, a3'.fr (fr 54 (by omega) (by omega)), isRest.fr a4 (fun j j1 j2 => fr j (by omega) (by omega))⟩, fun j hj => fr j (by omega) (by omega)⟩
  refine aw_iload_n dX6_back_0 rfl ?_
  refine aw_i2l dX6_back_1 (by omega) ?_
  refine aw_lconst (a := 0) dX6_back_2 (by decide) ?_
  refine aw_lconst (a := 1) dX6_back_3 (by decide) ?_
  -- at 4: .invokestatic 66
  refine aw_Si3 kc_X6_66 (c_in (d := d + 19) (by omega) (by omega) (by omega)) rfl (by omega) (Nat.le_of_ble_eq_true rfl) dX6_back_4 (fun v h' q1 => ?_)
  obtain ⟨rfl, rfl⟩ := q1
  refine aw_flag_ne (tgt := 12) dX6_back_7 (by decide) (fun c1 => ?_) (fun c1 => ?_)
  rotate_left
  · refine aw_iconst dX6_back_10 ?_
    -- at 11: .ireturn
    refine aw_iret rfl dX6_back_11 ⟨rfl, _, rfl, ?_⟩
    rw [backF, if_neg c1]
    exact ⟨rfl, H0, fun _ _ => rfl⟩
  · by_cases z : k = 0
    · subst z
      refine aw_aload_n dX6_back_12 rfl ?_
      refine aw_get kg_X6_13 (by assumption) (by rfl) dX6_back_13 ?_
      refine aw_iload_n dX6_back_16 rfl ?_
      refine aw_zald (by assumption) (by omega) dX6_back_17 ?_
      refine aw_val (w := aI k0) (by rw [← b2]; rfl) ?_
      refine aw_if_ne (tgt := 24) dX6_back_18 (by omega) (by decide) (fun c3 => ?_) (fun c3 => ?_)
      · exact rest 0 i0 (by omega) w3 o4.2.1.1 (by rw [backF, if_pos (by omega), if_neg (by simpa using c3)]; rfl)
      · refine aw_bipush dX6_back_21 (by decide) ?_
        -- at 23: .ireturn
        refine aw_iret rfl dX6_back_23 ⟨rfl, _, rfl, ?_⟩
        rw [backF, if_pos (by omega), if_pos (by simpa using c3)]
        exact ⟨rfl, H0, fun _ _ => rfl⟩
    · have z1 : k = 1 := by omega
      subst z1
      refine aw_aload_n dX6_back_12 rfl ?_
      refine aw_get kg_X6_13 (by assumption) (by rfl) dX6_back_13 ?_
      refine aw_iload_n dX6_back_16 rfl ?_
      refine aw_zald (by assumption) (by omega) dX6_back_17 ?_
      refine aw_val (w := aI k1) (by rw [← b3]; rfl) ?_
      refine aw_if_ne (tgt := 24) dX6_back_18 (by omega) (by decide) (fun c3 => ?_) (fun c3 => ?_)
      · exact rest 1 i1 (by omega) w4 o5.2.1.1 (by rw [backF, if_pos (by omega), if_neg (by simpa using c3)]; rfl)
      · refine aw_bipush dX6_back_21 (by decide) ?_
        -- at 23: .ireturn
        refine aw_iret rfl dX6_back_23 ⟨rfl, _, rfl, ?_⟩
        rw [backF, if_pos (by omega), if_pos (by simpa using c3)]
        exact ⟨rfl, H0, fun _ _ => rfl⟩
end Model
