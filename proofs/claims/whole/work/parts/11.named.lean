/-! calls by what they answer, writes with a heap that has a name -/
def aqi (n : Nat) (P : Int → AH → Prop) : AQ := fun r n' h' => n' = n ∧ ∃ a, r = some (aI a) ∧ P a h'
def aql (n : Nat) (P : Int → AH → Prop) : AQ := fun r n' h' => n' = n ∧ ∃ a, r = some (aL a) ∧ P a h'
def aqr (n : Nat) (P : Nat → AH → Prop) : AQ := fun r n' h' => n' = n ∧ ∃ a, r = some (aR a) ∧ P a h'
def aqv (n : Nat) (P : AH → Prop) : AQ := fun r n' h' => n' = n ∧ r = none ∧ P h'
section AWN
variable {M N : AM} {Z : AZ} {n : Nat} {h : AH} {pc : Nat} {L : List (Option AV)} {st : List AV} {d D idx : Nat} {b ci : Nat} {fs : List AV}
theorem aw_Vi0 {P : Int → AH → Prop} (hc : ac_V M.1.cls idx N) (hM : AC N d 0 0 n h [aR b] (aqi n P)) (hb : h b = aO ci fs) (hci : (vwCl[ci]?).map (fun q => q.1) = some N.1.cls) (hn : 0 = N.2.2.2.2) (hf : d + 1 ≤ D) (hw : (st.map am_cat).sum ≤ 8) (hd : decode M.2.1 pc = .ok (.invokevirtual idx, 3)) (kk : ∀ a h', P a h' → AW M (am_R D 0 0) Z 0 0 n h' (pc + 3) L (aI a :: st)) : AW M (am_R D 0 0) Z 0 0 n h pc L (aR b :: st) :=
  aw_callV (R := am_R D 0 0) (As := []) hc hM hb hci hn hf (by show 64 * d + 59 ≤ 64 * D; omega) (Nat.le_refl _) (Nat.le_refl _) hw hd (fun r n' h' hq => by
    obtain ⟨rfl, a, rfl, hp⟩ := hq
    exact kk a h' hp)
theorem aw_Vi1 {x1 : AV} {P : Int → AH → Prop} (hc : ac_V M.1.cls idx N) (hM : AC N d 0 0 n h [aR b, x1] (aqi n P)) (hb : h b = aO ci fs) (hci : (vwCl[ci]?).map (fun q => q.1) = some N.1.cls) (hn : 1 = N.2.2.2.2) (hf : d + 1 ≤ D) (hw : (st.map am_cat).sum ≤ 8) (hd : decode M.2.1 pc = .ok (.invokevirtual idx, 3)) (kk : ∀ a h', P a h' → AW M (am_R D 0 0) Z 0 0 n h' (pc + 3) L (aI a :: st)) : AW M (am_R D 0 0) Z 0 0 n h pc L (x1 :: aR b :: st) :=
  aw_callV (R := am_R D 0 0) (As := [x1]) hc hM hb hci hn hf (by show 64 * d + 59 ≤ 64 * D; omega) (Nat.le_refl _) (Nat.le_refl _) hw hd (fun r n' h' hq => by
    obtain ⟨rfl, a, rfl, hp⟩ := hq
    exact kk a h' hp)
theorem aw_Vi2 {x1 x2 : AV} {P : Int → AH → Prop} (hc : ac_V M.1.cls idx N) (hM : AC N d 0 0 n h [aR b, x1, x2] (aqi n P)) (hb : h b = aO ci fs) (hci : (vwCl[ci]?).map (fun q => q.1) = some N.1.cls) (hn : 2 = N.2.2.2.2) (hf : d + 1 ≤ D) (hw : (st.map am_cat).sum ≤ 8) (hd : decode M.2.1 pc = .ok (.invokevirtual idx, 3)) (kk : ∀ a h', P a h' → AW M (am_R D 0 0) Z 0 0 n h' (pc + 3) L (aI a :: st)) : AW M (am_R D 0 0) Z 0 0 n h pc L (x2 :: x1 :: aR b :: st) :=
  aw_callV (R := am_R D 0 0) (As := [x1, x2]) hc hM hb hci hn hf (by show 64 * d + 59 ≤ 64 * D; omega) (Nat.le_refl _) (Nat.le_refl _) hw hd (fun r n' h' hq => by
    obtain ⟨rfl, a, rfl, hp⟩ := hq
    exact kk a h' hp)
theorem aw_Vi3 {x1 x2 x3 : AV} {P : Int → AH → Prop} (hc : ac_V M.1.cls idx N) (hM : AC N d 0 0 n h [aR b, x1, x2, x3] (aqi n P)) (hb : h b = aO ci fs) (hci : (vwCl[ci]?).map (fun q => q.1) = some N.1.cls) (hn : 3 = N.2.2.2.2) (hf : d + 1 ≤ D) (hw : (st.map am_cat).sum ≤ 8) (hd : decode M.2.1 pc = .ok (.invokevirtual idx, 3)) (kk : ∀ a h', P a h' → AW M (am_R D 0 0) Z 0 0 n h' (pc + 3) L (aI a :: st)) : AW M (am_R D 0 0) Z 0 0 n h pc L (x3 :: x2 :: x1 :: aR b :: st) :=
  aw_callV (R := am_R D 0 0) (As := [x1, x2, x3]) hc hM hb hci hn hf (by show 64 * d + 59 ≤ 64 * D; omega) (Nat.le_refl _) (Nat.le_refl _) hw hd (fun r n' h' hq => by
    obtain ⟨rfl, a, rfl, hp⟩ := hq
    exact kk a h' hp)
theorem aw_Vi4 {x1 x2 x3 x4 : AV} {P : Int → AH → Prop} (hc : ac_V M.1.cls idx N) (hM : AC N d 0 0 n h [aR b, x1, x2, x3, x4] (aqi n P)) (hb : h b = aO ci fs) (hci : (vwCl[ci]?).map (fun q => q.1) = some N.1.cls) (hn : 4 = N.2.2.2.2) (hf : d + 1 ≤ D) (hw : (st.map am_cat).sum ≤ 8) (hd : decode M.2.1 pc = .ok (.invokevirtual idx, 3)) (kk : ∀ a h', P a h' → AW M (am_R D 0 0) Z 0 0 n h' (pc + 3) L (aI a :: st)) : AW M (am_R D 0 0) Z 0 0 n h pc L (x4 :: x3 :: x2 :: x1 :: aR b :: st) :=
  aw_callV (R := am_R D 0 0) (As := [x1, x2, x3, x4]) hc hM hb hci hn hf (by show 64 * d + 59 ≤ 64 * D; omega) (Nat.le_refl _) (Nat.le_refl _) hw hd (fun r n' h' hq => by
    obtain ⟨rfl, a, rfl, hp⟩ := hq
    exact kk a h' hp)
theorem aw_Vi5 {x1 x2 x3 x4 x5 : AV} {P : Int → AH → Prop} (hc : ac_V M.1.cls idx N) (hM : AC N d 0 0 n h [aR b, x1, x2, x3, x4, x5] (aqi n P)) (hb : h b = aO ci fs) (hci : (vwCl[ci]?).map (fun q => q.1) = some N.1.cls) (hn : 5 = N.2.2.2.2) (hf : d + 1 ≤ D) (hw : (st.map am_cat).sum ≤ 8) (hd : decode M.2.1 pc = .ok (.invokevirtual idx, 3)) (kk : ∀ a h', P a h' → AW M (am_R D 0 0) Z 0 0 n h' (pc + 3) L (aI a :: st)) : AW M (am_R D 0 0) Z 0 0 n h pc L (x5 :: x4 :: x3 :: x2 :: x1 :: aR b :: st) :=
  aw_callV (R := am_R D 0 0) (As := [x1, x2, x3, x4, x5]) hc hM hb hci hn hf (by show 64 * d + 59 ≤ 64 * D; omega) (Nat.le_refl _) (Nat.le_refl _) hw hd (fun r n' h' hq => by
    obtain ⟨rfl, a, rfl, hp⟩ := hq
    exact kk a h' hp)
theorem aw_Vr0 {P : Nat → AH → Prop} (hc : ac_V M.1.cls idx N) (hM : AC N d 0 0 n h [aR b] (aqr n P)) (hb : h b = aO ci fs) (hci : (vwCl[ci]?).map (fun q => q.1) = some N.1.cls) (hn : 0 = N.2.2.2.2) (hf : d + 1 ≤ D) (hw : (st.map am_cat).sum ≤ 8) (hd : decode M.2.1 pc = .ok (.invokevirtual idx, 3)) (kk : ∀ a h', P a h' → AW M (am_R D 0 0) Z 0 0 n h' (pc + 3) L (aR a :: st)) : AW M (am_R D 0 0) Z 0 0 n h pc L (aR b :: st) :=
  aw_callV (R := am_R D 0 0) (As := []) hc hM hb hci hn hf (by show 64 * d + 59 ≤ 64 * D; omega) (Nat.le_refl _) (Nat.le_refl _) hw hd (fun r n' h' hq => by
    obtain ⟨rfl, a, rfl, hp⟩ := hq
    exact kk a h' hp)
theorem aw_Vv0 {P : AH → Prop} (hc : ac_V M.1.cls idx N) (hM : AC N d 0 0 n h [aR b] (aqv n P)) (hb : h b = aO ci fs) (hci : (vwCl[ci]?).map (fun q => q.1) = some N.1.cls) (hn : 0 = N.2.2.2.2) (hf : d + 1 ≤ D) (hw : (st.map am_cat).sum ≤ 8) (hd : decode M.2.1 pc = .ok (.invokevirtual idx, 3)) (kk : ∀ h', P h' → AW M (am_R D 0 0) Z 0 0 n h' (pc + 3) L (st)) : AW M (am_R D 0 0) Z 0 0 n h pc L (aR b :: st) :=
  aw_callV (R := am_R D 0 0) (As := []) hc hM hb hci hn hf (by show 64 * d + 59 ≤ 64 * D; omega) (Nat.le_refl _) (Nat.le_refl _) hw hd (fun r n' h' hq => by
    obtain ⟨rfl, rfl, hp⟩ := hq
    exact kk h' hp)
theorem aw_Vv1 {x1 : AV} {P : AH → Prop} (hc : ac_V M.1.cls idx N) (hM : AC N d 0 0 n h [aR b, x1] (aqv n P)) (hb : h b = aO ci fs) (hci : (vwCl[ci]?).map (fun q => q.1) = some N.1.cls) (hn : 1 = N.2.2.2.2) (hf : d + 1 ≤ D) (hw : (st.map am_cat).sum ≤ 8) (hd : decode M.2.1 pc = .ok (.invokevirtual idx, 3)) (kk : ∀ h', P h' → AW M (am_R D 0 0) Z 0 0 n h' (pc + 3) L (st)) : AW M (am_R D 0 0) Z 0 0 n h pc L (x1 :: aR b :: st) :=
  aw_callV (R := am_R D 0 0) (As := [x1]) hc hM hb hci hn hf (by show 64 * d + 59 ≤ 64 * D; omega) (Nat.le_refl _) (Nat.le_refl _) hw hd (fun r n' h' hq => by
    obtain ⟨rfl, rfl, hp⟩ := hq
    exact kk h' hp)
theorem aw_Vv2 {x1 x2 : AV} {P : AH → Prop} (hc : ac_V M.1.cls idx N) (hM : AC N d 0 0 n h [aR b, x1, x2] (aqv n P)) (hb : h b = aO ci fs) (hci : (vwCl[ci]?).map (fun q => q.1) = some N.1.cls) (hn : 2 = N.2.2.2.2) (hf : d + 1 ≤ D) (hw : (st.map am_cat).sum ≤ 8) (hd : decode M.2.1 pc = .ok (.invokevirtual idx, 3)) (kk : ∀ h', P h' → AW M (am_R D 0 0) Z 0 0 n h' (pc + 3) L (st)) : AW M (am_R D 0 0) Z 0 0 n h pc L (x2 :: x1 :: aR b :: st) :=
  aw_callV (R := am_R D 0 0) (As := [x1, x2]) hc hM hb hci hn hf (by show 64 * d + 59 ≤ 64 * D; omega) (Nat.le_refl _) (Nat.le_refl _) hw hd (fun r n' h' hq => by
    obtain ⟨rfl, rfl, hp⟩ := hq
    exact kk h' hp)
theorem aw_Vv3 {x1 x2 x3 : AV} {P : AH → Prop} (hc : ac_V M.1.cls idx N) (hM : AC N d 0 0 n h [aR b, x1, x2, x3] (aqv n P)) (hb : h b = aO ci fs) (hci : (vwCl[ci]?).map (fun q => q.1) = some N.1.cls) (hn : 3 = N.2.2.2.2) (hf : d + 1 ≤ D) (hw : (st.map am_cat).sum ≤ 8) (hd : decode M.2.1 pc = .ok (.invokevirtual idx, 3)) (kk : ∀ h', P h' → AW M (am_R D 0 0) Z 0 0 n h' (pc + 3) L (st)) : AW M (am_R D 0 0) Z 0 0 n h pc L (x3 :: x2 :: x1 :: aR b :: st) :=
  aw_callV (R := am_R D 0 0) (As := [x1, x2, x3]) hc hM hb hci hn hf (by show 64 * d + 59 ≤ 64 * D; omega) (Nat.le_refl _) (Nat.le_refl _) hw hd (fun r n' h' hq => by
    obtain ⟨rfl, rfl, hp⟩ := hq
    exact kk h' hp)
theorem aw_Vv4 {x1 x2 x3 x4 : AV} {P : AH → Prop} (hc : ac_V M.1.cls idx N) (hM : AC N d 0 0 n h [aR b, x1, x2, x3, x4] (aqv n P)) (hb : h b = aO ci fs) (hci : (vwCl[ci]?).map (fun q => q.1) = some N.1.cls) (hn : 4 = N.2.2.2.2) (hf : d + 1 ≤ D) (hw : (st.map am_cat).sum ≤ 8) (hd : decode M.2.1 pc = .ok (.invokevirtual idx, 3)) (kk : ∀ h', P h' → AW M (am_R D 0 0) Z 0 0 n h' (pc + 3) L (st)) : AW M (am_R D 0 0) Z 0 0 n h pc L (x4 :: x3 :: x2 :: x1 :: aR b :: st) :=
  aw_callV (R := am_R D 0 0) (As := [x1, x2, x3, x4]) hc hM hb hci hn hf (by show 64 * d + 59 ≤ 64 * D; omega) (Nat.le_refl _) (Nat.le_refl _) hw hd (fun r n' h' hq => by
    obtain ⟨rfl, rfl, hp⟩ := hq
    exact kk h' hp)
theorem aw_Vv5 {x1 x2 x3 x4 x5 : AV} {P : AH → Prop} (hc : ac_V M.1.cls idx N) (hM : AC N d 0 0 n h [aR b, x1, x2, x3, x4, x5] (aqv n P)) (hb : h b = aO ci fs) (hci : (vwCl[ci]?).map (fun q => q.1) = some N.1.cls) (hn : 5 = N.2.2.2.2) (hf : d + 1 ≤ D) (hw : (st.map am_cat).sum ≤ 8) (hd : decode M.2.1 pc = .ok (.invokevirtual idx, 3)) (kk : ∀ h', P h' → AW M (am_R D 0 0) Z 0 0 n h' (pc + 3) L (st)) : AW M (am_R D 0 0) Z 0 0 n h pc L (x5 :: x4 :: x3 :: x2 :: x1 :: aR b :: st) :=
  aw_callV (R := am_R D 0 0) (As := [x1, x2, x3, x4, x5]) hc hM hb hci hn hf (by show 64 * d + 59 ≤ 64 * D; omega) (Nat.le_refl _) (Nat.le_refl _) hw hd (fun r n' h' hq => by
    obtain ⟨rfl, rfl, hp⟩ := hq
    exact kk h' hp)
theorem aw_Si0 {P : Int → AH → Prop} (hc : ac_S M.1.cls idx N) (hM : AC N d 0 0 n h [] (aqi n P)) (hn : 0 = N.2.2.2.2) (hf : d + 1 ≤ D) (hw : (st.map am_cat).sum ≤ 8) (hd : decode M.2.1 pc = .ok (.invokestatic idx, 3)) (kk : ∀ a h', P a h' → AW M (am_R D 0 0) Z 0 0 n h' (pc + 3) L (aI a :: st)) : AW M (am_R D 0 0) Z 0 0 n h pc L (st) :=
  aw_callS (R := am_R D 0 0) (As := []) hc hM hn hf (by show 64 * d + 59 ≤ 64 * D; omega) (Nat.le_refl _) (Nat.le_refl _) hw hd (fun r n' h' hq => by
    obtain ⟨rfl, a, rfl, hp⟩ := hq
    exact kk a h' hp)
theorem aw_Si1 {x1 : AV} {P : Int → AH → Prop} (hc : ac_S M.1.cls idx N) (hM : AC N d 0 0 n h [x1] (aqi n P)) (hn : 1 = N.2.2.2.2) (hf : d + 1 ≤ D) (hw : (st.map am_cat).sum ≤ 8) (hd : decode M.2.1 pc = .ok (.invokestatic idx, 3)) (kk : ∀ a h', P a h' → AW M (am_R D 0 0) Z 0 0 n h' (pc + 3) L (aI a :: st)) : AW M (am_R D 0 0) Z 0 0 n h pc L (x1 :: st) :=
  aw_callS (R := am_R D 0 0) (As := [x1]) hc hM hn hf (by show 64 * d + 59 ≤ 64 * D; omega) (Nat.le_refl _) (Nat.le_refl _) hw hd (fun r n' h' hq => by
    obtain ⟨rfl, a, rfl, hp⟩ := hq
    exact kk a h' hp)
theorem aw_Si2 {x1 x2 : AV} {P : Int → AH → Prop} (hc : ac_S M.1.cls idx N) (hM : AC N d 0 0 n h [x1, x2] (aqi n P)) (hn : 2 = N.2.2.2.2) (hf : d + 1 ≤ D) (hw : (st.map am_cat).sum ≤ 8) (hd : decode M.2.1 pc = .ok (.invokestatic idx, 3)) (kk : ∀ a h', P a h' → AW M (am_R D 0 0) Z 0 0 n h' (pc + 3) L (aI a :: st)) : AW M (am_R D 0 0) Z 0 0 n h pc L (x2 :: x1 :: st) :=
  aw_callS (R := am_R D 0 0) (As := [x1, x2]) hc hM hn hf (by show 64 * d + 59 ≤ 64 * D; omega) (Nat.le_refl _) (Nat.le_refl _) hw hd (fun r n' h' hq => by
    obtain ⟨rfl, a, rfl, hp⟩ := hq
    exact kk a h' hp)
theorem aw_Si3 {x1 x2 x3 : AV} {P : Int → AH → Prop} (hc : ac_S M.1.cls idx N) (hM : AC N d 0 0 n h [x1, x2, x3] (aqi n P)) (hn : 3 = N.2.2.2.2) (hf : d + 1 ≤ D) (hw : (st.map am_cat).sum ≤ 8) (hd : decode M.2.1 pc = .ok (.invokestatic idx, 3)) (kk : ∀ a h', P a h' → AW M (am_R D 0 0) Z 0 0 n h' (pc + 3) L (aI a :: st)) : AW M (am_R D 0 0) Z 0 0 n h pc L (x3 :: x2 :: x1 :: st) :=
  aw_callS (R := am_R D 0 0) (As := [x1, x2, x3]) hc hM hn hf (by show 64 * d + 59 ≤ 64 * D; omega) (Nat.le_refl _) (Nat.le_refl _) hw hd (fun r n' h' hq => by
    obtain ⟨rfl, a, rfl, hp⟩ := hq
    exact kk a h' hp)
theorem aw_Si4 {x1 x2 x3 x4 : AV} {P : Int → AH → Prop} (hc : ac_S M.1.cls idx N) (hM : AC N d 0 0 n h [x1, x2, x3, x4] (aqi n P)) (hn : 4 = N.2.2.2.2) (hf : d + 1 ≤ D) (hw : (st.map am_cat).sum ≤ 8) (hd : decode M.2.1 pc = .ok (.invokestatic idx, 3)) (kk : ∀ a h', P a h' → AW M (am_R D 0 0) Z 0 0 n h' (pc + 3) L (aI a :: st)) : AW M (am_R D 0 0) Z 0 0 n h pc L (x4 :: x3 :: x2 :: x1 :: st) :=
  aw_callS (R := am_R D 0 0) (As := [x1, x2, x3, x4]) hc hM hn hf (by show 64 * d + 59 ≤ 64 * D; omega) (Nat.le_refl _) (Nat.le_refl _) hw hd (fun r n' h' hq => by
    obtain ⟨rfl, a, rfl, hp⟩ := hq
    exact kk a h' hp)
theorem aw_Si5 {x1 x2 x3 x4 x5 : AV} {P : Int → AH → Prop} (hc : ac_S M.1.cls idx N) (hM : AC N d 0 0 n h [x1, x2, x3, x4, x5] (aqi n P)) (hn : 5 = N.2.2.2.2) (hf : d + 1 ≤ D) (hw : (st.map am_cat).sum ≤ 8) (hd : decode M.2.1 pc = .ok (.invokestatic idx, 3)) (kk : ∀ a h', P a h' → AW M (am_R D 0 0) Z 0 0 n h' (pc + 3) L (aI a :: st)) : AW M (am_R D 0 0) Z 0 0 n h pc L (x5 :: x4 :: x3 :: x2 :: x1 :: st) :=
  aw_callS (R := am_R D 0 0) (As := [x1, x2, x3, x4, x5]) hc hM hn hf (by show 64 * d + 59 ≤ 64 * D; omega) (Nat.le_refl _) (Nat.le_refl _) hw hd (fun r n' h' hq => by
    obtain ⟨rfl, a, rfl, hp⟩ := hq
    exact kk a h' hp)
theorem aw_Sl0 {P : Int → AH → Prop} (hc : ac_S M.1.cls idx N) (hM : AC N d 0 0 n h [] (aql n P)) (hn : 0 = N.2.2.2.2) (hf : d + 1 ≤ D) (hw : (st.map am_cat).sum ≤ 8) (hd : decode M.2.1 pc = .ok (.invokestatic idx, 3)) (kk : ∀ a h', P a h' → AW M (am_R D 0 0) Z 0 0 n h' (pc + 3) L (aL a :: st)) : AW M (am_R D 0 0) Z 0 0 n h pc L (st) :=
  aw_callS (R := am_R D 0 0) (As := []) hc hM hn hf (by show 64 * d + 59 ≤ 64 * D; omega) (Nat.le_refl _) (Nat.le_refl _) hw hd (fun r n' h' hq => by
    obtain ⟨rfl, a, rfl, hp⟩ := hq
    exact kk a h' hp)
theorem aw_Sl1 {x1 : AV} {P : Int → AH → Prop} (hc : ac_S M.1.cls idx N) (hM : AC N d 0 0 n h [x1] (aql n P)) (hn : 1 = N.2.2.2.2) (hf : d + 1 ≤ D) (hw : (st.map am_cat).sum ≤ 8) (hd : decode M.2.1 pc = .ok (.invokestatic idx, 3)) (kk : ∀ a h', P a h' → AW M (am_R D 0 0) Z 0 0 n h' (pc + 3) L (aL a :: st)) : AW M (am_R D 0 0) Z 0 0 n h pc L (x1 :: st) :=
  aw_callS (R := am_R D 0 0) (As := [x1]) hc hM hn hf (by show 64 * d + 59 ≤ 64 * D; omega) (Nat.le_refl _) (Nat.le_refl _) hw hd (fun r n' h' hq => by
    obtain ⟨rfl, a, rfl, hp⟩ := hq
    exact kk a h' hp)
theorem aw_Sl2 {x1 x2 : AV} {P : Int → AH → Prop} (hc : ac_S M.1.cls idx N) (hM : AC N d 0 0 n h [x1, x2] (aql n P)) (hn : 2 = N.2.2.2.2) (hf : d + 1 ≤ D) (hw : (st.map am_cat).sum ≤ 8) (hd : decode M.2.1 pc = .ok (.invokestatic idx, 3)) (kk : ∀ a h', P a h' → AW M (am_R D 0 0) Z 0 0 n h' (pc + 3) L (aL a :: st)) : AW M (am_R D 0 0) Z 0 0 n h pc L (x2 :: x1 :: st) :=
  aw_callS (R := am_R D 0 0) (As := [x1, x2]) hc hM hn hf (by show 64 * d + 59 ≤ 64 * D; omega) (Nat.le_refl _) (Nat.le_refl _) hw hd (fun r n' h' hq => by
    obtain ⟨rfl, a, rfl, hp⟩ := hq
    exact kk a h' hp)
theorem aw_Sl3 {x1 x2 x3 : AV} {P : Int → AH → Prop} (hc : ac_S M.1.cls idx N) (hM : AC N d 0 0 n h [x1, x2, x3] (aql n P)) (hn : 3 = N.2.2.2.2) (hf : d + 1 ≤ D) (hw : (st.map am_cat).sum ≤ 8) (hd : decode M.2.1 pc = .ok (.invokestatic idx, 3)) (kk : ∀ a h', P a h' → AW M (am_R D 0 0) Z 0 0 n h' (pc + 3) L (aL a :: st)) : AW M (am_R D 0 0) Z 0 0 n h pc L (x3 :: x2 :: x1 :: st) :=
  aw_callS (R := am_R D 0 0) (As := [x1, x2, x3]) hc hM hn hf (by show 64 * d + 59 ≤ 64 * D; omega) (Nat.le_refl _) (Nat.le_refl _) hw hd (fun r n' h' hq => by
    obtain ⟨rfl, a, rfl, hp⟩ := hq
    exact kk a h' hp)
theorem aw_Sl4 {x1 x2 x3 x4 : AV} {P : Int → AH → Prop} (hc : ac_S M.1.cls idx N) (hM : AC N d 0 0 n h [x1, x2, x3, x4] (aql n P)) (hn : 4 = N.2.2.2.2) (hf : d + 1 ≤ D) (hw : (st.map am_cat).sum ≤ 8) (hd : decode M.2.1 pc = .ok (.invokestatic idx, 3)) (kk : ∀ a h', P a h' → AW M (am_R D 0 0) Z 0 0 n h' (pc + 3) L (aL a :: st)) : AW M (am_R D 0 0) Z 0 0 n h pc L (x4 :: x3 :: x2 :: x1 :: st) :=
  aw_callS (R := am_R D 0 0) (As := [x1, x2, x3, x4]) hc hM hn hf (by show 64 * d + 59 ≤ 64 * D; omega) (Nat.le_refl _) (Nat.le_refl _) hw hd (fun r n' h' hq => by
    obtain ⟨rfl, a, rfl, hp⟩ := hq
    exact kk a h' hp)
theorem aw_Sl5 {x1 x2 x3 x4 x5 : AV} {P : Int → AH → Prop} (hc : ac_S M.1.cls idx N) (hM : AC N d 0 0 n h [x1, x2, x3, x4, x5] (aql n P)) (hn : 5 = N.2.2.2.2) (hf : d + 1 ≤ D) (hw : (st.map am_cat).sum ≤ 8) (hd : decode M.2.1 pc = .ok (.invokestatic idx, 3)) (kk : ∀ a h', P a h' → AW M (am_R D 0 0) Z 0 0 n h' (pc + 3) L (aL a :: st)) : AW M (am_R D 0 0) Z 0 0 n h pc L (x5 :: x4 :: x3 :: x2 :: x1 :: st) :=
  aw_callS (R := am_R D 0 0) (As := [x1, x2, x3, x4, x5]) hc hM hn hf (by show 64 * d + 59 ≤ 64 * D; omega) (Nat.le_refl _) (Nat.le_refl _) hw hd (fun r n' h' hq => by
    obtain ⟨rfl, a, rfl, hp⟩ := hq
    exact kk a h' hp)
theorem aw_Sv6 {x1 x2 x3 x4 x5 x6 : AV} {P : AH → Prop} (hc : ac_S M.1.cls idx N) (hM : AC N d 0 0 n h [x1, x2, x3, x4, x5, x6] (aqv n P)) (hn : 6 = N.2.2.2.2) (hf : d + 1 ≤ D) (hw : (st.map am_cat).sum ≤ 8) (hd : decode M.2.1 pc = .ok (.invokestatic idx, 3)) (kk : ∀ h', P h' → AW M (am_R D 0 0) Z 0 0 n h' (pc + 3) L (st)) : AW M (am_R D 0 0) Z 0 0 n h pc L (x6 :: x5 :: x4 :: x3 :: x2 :: x1 :: st) :=
  aw_callS (R := am_R D 0 0) (As := [x1, x2, x3, x4, x5, x6]) hc hM hn hf (by show 64 * d + 59 ≤ 64 * D; omega) (Nat.le_refl _) (Nat.le_refl _) hw hd (fun r n' h' hq => by
    obtain ⟨rfl, rfl, hp⟩ := hq
    exact kk h' hp)
theorem aw_Ti1 {x1 : AV} {P : Int → AH → Prop} (hc : ac_T M.1.cls idx N) (hM : AC N d 0 0 n h [x1] (aqi n P)) (hn : 1 = N.2.2.2.2) (hf : d + 1 ≤ D) (hw : (st.map am_cat).sum ≤ 8) (hd : decode M.2.1 pc = .ok (.invokestatic idx, 3)) (kk : ∀ a h', P a h' → AW M (am_R D 0 0) Z 0 0 n h' (pc + 3) L (aI a :: st)) : AW M (am_R D 0 0) Z 0 0 n h pc L (x1 :: st) :=
  aw_callT (R := am_R D 0 0) (As := [x1]) hc hM hn hf (by show 64 * d + 59 ≤ 64 * D; omega) (Nat.le_refl _) (Nat.le_refl _) hw hd (fun r n' h' hq => by
    obtain ⟨rfl, a, rfl, hp⟩ := hq
    exact kk a h' hp)
theorem aw_Ti2 {x1 x2 : AV} {P : Int → AH → Prop} (hc : ac_T M.1.cls idx N) (hM : AC N d 0 0 n h [x1, x2] (aqi n P)) (hn : 2 = N.2.2.2.2) (hf : d + 1 ≤ D) (hw : (st.map am_cat).sum ≤ 8) (hd : decode M.2.1 pc = .ok (.invokestatic idx, 3)) (kk : ∀ a h', P a h' → AW M (am_R D 0 0) Z 0 0 n h' (pc + 3) L (aI a :: st)) : AW M (am_R D 0 0) Z 0 0 n h pc L (x2 :: x1 :: st) :=
  aw_callT (R := am_R D 0 0) (As := [x1, x2]) hc hM hn hf (by show 64 * d + 59 ≤ 64 * D; omega) (Nat.le_refl _) (Nat.le_refl _) hw hd (fun r n' h' hq => by
    obtain ⟨rfl, a, rfl, hp⟩ := hq
    exact kk a h' hp)
end AWN
section AWO
variable {M : AM} {R : Room} {Z : AZ} {cu su n : Nat} {h : AH} {pc : Nat} {L : List (Option AV)} {st : List AV}
theorem va_up_s {α : Type} (f : Nat → α) (k : Nat) (v : α) : va_up f k v k = v := if_pos rfl
theorem va_up_n {α : Type} (f : Nat → α) (k : Nat) (v : α) {j : Nat} (h : j ≠ k) : va_up f k v j = f j := if_neg h
theorem aw_putO {idx ci k r : Nat} {fs : List AV} {v : AV} {ty : FieldType} (hf : afP M.1.cls idx ci k false ty) (hh : h r = aO ci fs) (hv : k < fs.length) (hn : ∀ G, narrow ty (am_v G v) = am_v G v ∧ fits ty (am_v G v) = true) (hd : decode M.2.1 pc = .ok (.putfield idx, 3)) (kk : ∀ h', h' r = aO ci (fs.set k v) → (∀ j, j ≠ r → h' j = h j) → AW M R Z cu su n h' (pc + 3) L st) : AW M R Z cu su n h pc L (v :: aR r :: st) :=
  aw_put hf hh hv hn hd (kk _ (va_up_s _ _ _) (fun _ hj => va_up_n _ _ _ hj))
theorem aw_putFO {idx ci k r : Nat} {fs : List AV} {v : AV} {ty : FieldType} (hf : afP M.1.cls idx ci k true ty) (hin2 : M.1.name = "<init>") (hh : h r = aO ci fs) (hv : k < fs.length) (hn : ∀ G, narrow ty (am_v G v) = am_v G v ∧ fits ty (am_v G v) = true) (hd : decode M.2.1 pc = .ok (.putfield idx, 3)) (kk : ∀ h', h' r = aO ci (fs.set k v) → (∀ j, j ≠ r → h' j = h j) → AW M R Z cu su n h' (pc + 3) L st) : AW M R Z cu su n h pc L (v :: aR r :: st) :=
  aw_putF hf hin2 hh hv hn hd (kk _ (va_up_s _ _ _) (fun _ hj => va_up_n _ _ _ hj))
theorem aw_iastO {r len : Nat} {f : Nat → Int} {i x : Int} (hh : h r = aA 0 len f) (hi : 0 ≤ i ∧ i < len) (hd : decode M.2.1 pc = .ok (.iastore, 1)) (kk : ∀ h', h' r = aA 0 len (va_up f i.toNat x) → (∀ j, j ≠ r → h' j = h j) → AW M R Z cu su n h' (pc + 1) L st) (hz : len < 2147483648 := by decide) : AW M R Z cu su n h pc L (aI x :: aI i :: aR r :: st) :=
  aw_iast hh hi hd (kk _ (va_up_s _ _ _) (fun _ hj => va_up_n _ _ _ hj)) hz
theorem aw_zastO {r len : Nat} {f : Nat → Int} {i x : Int} (hh : h r = aA 1 len f) (hi : 0 ≤ i ∧ i < len) (hx : x = 0 ∨ x = 1) (hd : decode M.2.1 pc = .ok (.bastore, 1)) (kk : ∀ h', h' r = aA 1 len (va_up f i.toNat x) → (∀ j, j ≠ r → h' j = h j) → AW M R Z cu su n h' (pc + 1) L st) (hz : len < 2147483648 := by decide) : AW M R Z cu su n h pc L (aI x :: aI i :: aR r :: st) :=
  aw_zast hh hi hx hd (kk _ (va_up_s _ _ _) (fun _ hj => va_up_n _ _ _ hj)) hz
theorem aw_castO {r len : Nat} {f : Nat → Int} {i x : Int} (hh : h r = aA 2 len f) (hi : 0 ≤ i ∧ i < len) (hx : 0 ≤ x ∧ x < 65536) (hd : decode M.2.1 pc = .ok (.castore, 1)) (kk : ∀ h', h' r = aA 2 len (va_up f i.toNat x) → (∀ j, j ≠ r → h' j = h j) → AW M R Z cu su n h' (pc + 1) L st) (hz : len < 2147483648 := by decide) : AW M R Z cu su n h pc L (aI x :: aI i :: aR r :: st) :=
  aw_cast hh hi hx hd (kk _ (va_up_s _ _ _) (fun _ hj => va_up_n _ _ _ hj)) hz
theorem aw_lastO {r len : Nat} {f : Nat → Int} {i x : Int} (hh : h r = aA 3 len f) (hi : 0 ≤ i ∧ i < len) (hd : decode M.2.1 pc = .ok (.lastore, 1)) (kk : ∀ h', h' r = aA 3 len (va_up f i.toNat x) → (∀ j, j ≠ r → h' j = h j) → AW M R Z cu su n h' (pc + 1) L st) (hz : len < 2147483648 := by decide) : AW M R Z cu su n h pc L (aL x :: aI i :: aR r :: st) :=
  aw_last hh hi hd (kk _ (va_up_s _ _ _) (fun _ hj => va_up_n _ _ _ hj)) hz
theorem aw_aastO {r len : Nat} {f : Nat → Option Nat} {i : Int} {q : Nat} {vs : List AV} (hh : h r = aQ 4 len f) (hi : 0 ≤ i ∧ i < len) (hv : h q = aO 2 vs) (hd : decode M.2.1 pc = .ok (.aastore, 1)) (kk : ∀ h', h' r = aQ 4 len (va_up f i.toNat (some q)) → (∀ j, j ≠ r → h' j = h j) → AW M R Z cu su n h' (pc + 1) L st) (hz : len < 2147483648 := by decide) : AW M R Z cu su n h pc L (aR q :: aI i :: aR r :: st) :=
  aw_aast hh hi hv hd (kk _ (va_up_s _ _ _) (fun _ hj => va_up_n _ _ _ hj)) hz
end AWO
