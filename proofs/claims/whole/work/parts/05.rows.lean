/-! rows of the abstract machine: plain instructions -/
section AWR
variable {M : AM} {R : Room} {Z : AZ} {cu su n : Nat} {h : AH} {pc : Nat} {L : List (Option AV)} {st : List AV}
theorem aw_iconst {z : Int} (hd : decode M.2.1 pc = .ok (.iconst z, 1)) (kk : AW M R Z cu su n h (pc + 1) L (aI z :: st)) : AW M R Z cu su n h pc L st := by
  intro p l e s m args below meth c G H locs ls C Wd hS hl
  have k := kk p l e s m args below meth c G H locs ls C Wd hS hl
  exact lv_iconst C.1 C.2.1 hd rfl k
theorem aw_bipush {z : Int} (hd : decode M.2.1 pc = .ok (.bipush z, 2)) (hz : (Int8.ofInt z).toInt32 = iI z) (kk : AW M R Z cu su n h (pc + 2) L (aI z :: st)) : AW M R Z cu su n h pc L st := by
  intro p l e s m args below meth c G H locs ls C Wd hS hl
  have k := kk p l e s m args below meth c G H locs ls C Wd hS hl
  exact lv_bipush C.1 C.2.1 hd hz k
theorem aw_sipush {z : Int} (hd : decode M.2.1 pc = .ok (.sipush z, 3)) (hz : (Int16.ofInt z).toInt32 = iI z) (kk : AW M R Z cu su n h (pc + 3) L (aI z :: st)) : AW M R Z cu su n h pc L st := by
  intro p l e s m args below meth c G H locs ls C Wd hS hl
  have k := kk p l e s m args below meth c G H locs ls C Wd hS hl
  exact lv_sipush C.1 C.2.1 hd hz k
theorem aw_lconst {z : Fin 2} {a : Int} (hd : decode M.2.1 pc = .ok (.lconst z, 1)) (hz : Int64.ofNat (z : Nat) = lL a) (kk : AW M R Z cu su n h (pc + 1) L (aL a :: st)) : AW M R Z cu su n h pc L st := by
  intro p l e s m args below meth c G H locs ls C Wd hS hl
  have k := kk p l e s m args below meth c G H locs ls C Wd hS hl
  exact lv_lconst C.1 C.2.1 hd hz k
theorem aw_ldc2 {i : Nat} {a : Int} (hw : Cond.constantLong M.1.cls i (lL a) ∈ TT) (hd : decode M.2.1 pc = .ok (.ldc2_w i, 3)) (kk : AW M R Z cu su n h (pc + 3) L (aL a :: st)) : AW M R Z cu su n h pc L st := by
  intro p l e s m args below meth c G H locs ls C Wd hS hl
  have k := kk p l e s m args below meth c G H locs ls C Wd hS hl
  exact lv_ldc2 C.1 C.2.1 C.2.2.2.2.1 (C.2.2.2.2.2.2.2.1 _ hw) hd k
theorem aw_ldcw {i : Nat} {a : Int} (hw : Cond.constant M.1.cls i (iI a) ∈ TT) (hd : decode M.2.1 pc = .ok (.ldc_w i, 3)) (kk : AW M R Z cu su n h (pc + 3) L (aI a :: st)) : AW M R Z cu su n h pc L st := by
  intro p l e s m args below meth c G H locs ls C Wd hS hl
  have k := kk p l e s m args below meth c G H locs ls C Wd hS hl
  exact lv_ldcw C.1 C.2.1 C.2.2.2.2.1 (C.2.2.2.2.2.2.2.1 _ hw) hd k
theorem aw_iload_n {q : Fin 4} {a : Int} (hd : decode M.2.1 pc = .ok (.iload_n q, 1)) (ha : lk L q = some (aI a)) (kk : AW M R Z cu su n h (pc + 1) L (aI a :: st)) : AW M R Z cu su n h pc L st := by
  intro p l e s m args below meth c G H locs ls C Wd hS hl
  have k := kk p l e s m args below meth c G H locs ls C Wd hS hl
  exact lv_iload_n C.1 C.2.1 hd rfl (hl.2.2 _ _ ha) k
theorem aw_iload {q : Nat} {a : Int} (hd : decode M.2.1 pc = .ok (.iload q, 2)) (ha : lk L q = some (aI a)) (kk : AW M R Z cu su n h (pc + 2) L (aI a :: st)) : AW M R Z cu su n h pc L st := by
  intro p l e s m args below meth c G H locs ls C Wd hS hl
  have k := kk p l e s m args below meth c G H locs ls C Wd hS hl
  exact lv_iload C.1 C.2.1 hd (hl.2.2 _ _ ha) k
theorem aw_lload_n {q : Fin 4} {a : Int} (hd : decode M.2.1 pc = .ok (.lload_n q, 1)) (ha : lk L q = some (aL a)) (kk : AW M R Z cu su n h (pc + 1) L (aL a :: st)) : AW M R Z cu su n h pc L st := by
  intro p l e s m args below meth c G H locs ls C Wd hS hl
  have k := kk p l e s m args below meth c G H locs ls C Wd hS hl
  exact lv_lload_n C.1 C.2.1 hd rfl (hl.2.2 _ _ ha) k
theorem aw_lload {q : Nat} {a : Int} (hd : decode M.2.1 pc = .ok (.lload q, 2)) (ha : lk L q = some (aL a)) (kk : AW M R Z cu su n h (pc + 2) L (aL a :: st)) : AW M R Z cu su n h pc L st := by
  intro p l e s m args below meth c G H locs ls C Wd hS hl
  have k := kk p l e s m args below meth c G H locs ls C Wd hS hl
  exact lv_lload C.1 C.2.1 hd (hl.2.2 _ _ ha) k
theorem aw_aload_n {q : Fin 4} {a : Nat} (hd : decode M.2.1 pc = .ok (.aload_n q, 1)) (ha : lk L q = some (aR a)) (kk : AW M R Z cu su n h (pc + 1) L (aR a :: st)) : AW M R Z cu su n h pc L st := by
  intro p l e s m args below meth c G H locs ls C Wd hS hl
  have k := kk p l e s m args below meth c G H locs ls C Wd hS hl
  exact lv_aload_n C.1 C.2.1 hd rfl (hl.2.2 _ _ ha) k
theorem aw_istore_n {q : Fin 4} {a : Int} (hd : decode M.2.1 pc = .ok (.istore_n q, 1)) (hn : (q : Nat) < M.2.2.1) (kk : AW M R Z cu su n h (pc + 1) (stI L q (aI a)) st) : AW M R Z cu su n h pc L (aI a :: st) := by
  intro p l e s m args below meth c G H locs ls C Wd hS hl
  exact lv_istore_n C.1 C.2.1 hd rfl hl.has hn rfl (fun ls' h' => kk p l e s m args below meth c G H locs ls' C Wd hS (am_l.st1 h'))
theorem aw_istore {q : Nat} {a : Int} (hd : decode M.2.1 pc = .ok (.istore q, 2)) (hn : q < M.2.2.1) (kk : AW M R Z cu su n h (pc + 2) (stI L q (aI a)) st) : AW M R Z cu su n h pc L (aI a :: st) := by
  intro p l e s m args below meth c G H locs ls C Wd hS hl
  exact lv_istore C.1 C.2.1 hd hl.has hn rfl (fun ls' h' => kk p l e s m args below meth c G H locs ls' C Wd hS (am_l.st1 h'))
theorem aw_astore_n {q : Fin 4} {a : Nat} (hd : decode M.2.1 pc = .ok (.astore_n q, 1)) (hn : (q : Nat) < M.2.2.1) (kk : AW M R Z cu su n h (pc + 1) (stI L q (aR a)) st) : AW M R Z cu su n h pc L (aR a :: st) := by
  intro p l e s m args below meth c G H locs ls C Wd hS hl
  exact lv_astore_n C.1 C.2.1 hd rfl hl.has hn rfl (fun ls' h' => kk p l e s m args below meth c G H locs ls' C Wd hS (am_l.st1 h'))
theorem aw_lstore_n {q : Fin 4} {a : Int} (hd : decode M.2.1 pc = .ok (.lstore_n q, 1)) (hn : (q : Nat) + 1 < M.2.2.1) (kk : AW M R Z cu su n h (pc + 1) (stJ L q (aL a)) st) : AW M R Z cu su n h pc L (aL a :: st) := by
  intro p l e s m args below meth c G H locs ls C Wd hS hl
  exact lv_lstore_n C.1 C.2.1 hd rfl hl.has hn rfl (fun ls' h' => kk p l e s m args below meth c G H locs ls' C Wd hS (am_l.st2 h'))
theorem aw_lstore {q : Nat} {a : Int} (hd : decode M.2.1 pc = .ok (.lstore q, 2)) (hn : q + 1 < M.2.2.1) (kk : AW M R Z cu su n h (pc + 2) (stJ L q (aL a)) st) : AW M R Z cu su n h pc L (aL a :: st) := by
  intro p l e s m args below meth c G H locs ls C Wd hS hl
  exact lv_lstore C.1 C.2.1 hd hl.has hn rfl (fun ls' h' => kk p l e s m args below meth c G H locs ls' C Wd hS (am_l.st2 h'))
theorem aw_iinc {q : Nat} {a z : Int} (hd : decode M.2.1 pc = .ok (.iinc q z, 3)) (ha : lk L q = some (aI a)) (hn : q < M.2.2.1) (kk : AW M R Z cu su n h (pc + 3) (stI L q (aI (a + z))) st) : AW M R Z cu su n h pc L st := by
  intro p l e s m args below meth c G H locs ls C Wd hS hl
  obtain ⟨k, hk⟩ := List.getElem?_of_mem (lk_mem (G := G) ha)
  exact lv_iinc (v := iI (a + z)) C.1 C.2.1 hd hl.has hk (iI_add a z) hn rfl (fun ls' h' => kk p l e s m args below meth c G H locs ls' C Wd hS (am_l.st1 (v := aI (a + z)) h'))
theorem aw_iadd {a b : Int} (hd : decode M.2.1 pc = .ok (.iadd, 1)) (kk : AW M R Z cu su n h (pc + 1) L (aI (a + b) :: st)) : AW M R Z cu su n h pc L (aI b :: aI a :: st) := by
  intro p l e s m args below meth c G H locs ls C Wd hS hl
  have k := kk p l e s m args below meth c G H locs ls C Wd hS hl
  refine lv_iadd C.1 C.2.1 hd ?_
  rw [iI_add]
  exact k
theorem aw_isub {a b : Int} (hd : decode M.2.1 pc = .ok (.isub, 1)) (kk : AW M R Z cu su n h (pc + 1) L (aI (a - b) :: st)) : AW M R Z cu su n h pc L (aI b :: aI a :: st) := by
  intro p l e s m args below meth c G H locs ls C Wd hS hl
  have k := kk p l e s m args below meth c G H locs ls C Wd hS hl
  refine lv_isub C.1 C.2.1 hd ?_
  rw [iI_sub]
  exact k
theorem aw_imul {a b : Int} (hd : decode M.2.1 pc = .ok (.imul, 1)) (kk : AW M R Z cu su n h (pc + 1) L (aI (a * b) :: st)) : AW M R Z cu su n h pc L (aI b :: aI a :: st) := by
  intro p l e s m args below meth c G H locs ls C Wd hS hl
  have k := kk p l e s m args below meth c G H locs ls C Wd hS hl
  refine lv_imul C.1 C.2.1 hd ?_
  rw [iI_mul]
  exact k
theorem aw_ladd {a b : Int} (hd : decode M.2.1 pc = .ok (.ladd, 1)) (kk : AW M R Z cu su n h (pc + 1) L (aL (a + b) :: st)) : AW M R Z cu su n h pc L (aL b :: aL a :: st) := by
  intro p l e s m args below meth c G H locs ls C Wd hS hl
  have k := kk p l e s m args below meth c G H locs ls C Wd hS hl
  refine lv_ladd C.1 C.2.1 hd ?_
  rw [lL_add]
  exact k
theorem aw_lsub {a b : Int} (hd : decode M.2.1 pc = .ok (.lsub, 1)) (kk : AW M R Z cu su n h (pc + 1) L (aL (a - b) :: st)) : AW M R Z cu su n h pc L (aL b :: aL a :: st) := by
  intro p l e s m args below meth c G H locs ls C Wd hS hl
  have k := kk p l e s m args below meth c G H locs ls C Wd hS hl
  refine lv_lsub C.1 C.2.1 hd ?_
  rw [lL_sub]
  exact k
theorem aw_lmul {a b : Int} (hd : decode M.2.1 pc = .ok (.lmul, 1)) (kk : AW M R Z cu su n h (pc + 1) L (aL (a * b) :: st)) : AW M R Z cu su n h pc L (aL b :: aL a :: st) := by
  intro p l e s m args below meth c G H locs ls C Wd hS hl
  have k := kk p l e s m args below meth c G H locs ls C Wd hS hl
  refine lv_lmul C.1 C.2.1 hd ?_
  rw [lL_mul]
  exact k
theorem aw_irem {a b : Int} (hd : decode M.2.1 pc = .ok (.irem, 1)) (ha : 0 ≤ a ∧ a ≤ 2147483647) (hb : 0 < b ∧ b ≤ 2147483647) (kk : AW M R Z cu su n h (pc + 1) L (aI (a % b) :: st)) : AW M R Z cu su n h pc L (aI b :: aI a :: st) := by
  intro p l e s m args below meth c G H locs ls C Wd hS hl
  have k := kk p l e s m args below meth c G H locs ls C Wd hS hl
  refine lv_irem C.1 C.2.1 hd (fun q => ?_) ?_
  · have := (iI_eq (by omega) (by omega)).mp (q.trans (show (0 : Int32) = iI 0 from rfl))
    omega
  · rw [iI_rem ha hb]
    exact k
theorem aw_lrem {a b : Int} (hd : decode M.2.1 pc = .ok (.lrem, 1)) (ha : 0 ≤ a ∧ a ≤ 9223372036854775807) (hb : 0 < b ∧ b ≤ 9223372036854775807) (kk : AW M R Z cu su n h (pc + 1) L (aL (a % b) :: st)) : AW M R Z cu su n h pc L (aL b :: aL a :: st) := by
  intro p l e s m args below meth c G H locs ls C Wd hS hl
  have k := kk p l e s m args below meth c G H locs ls C Wd hS hl
  refine lv_lrem C.1 C.2.1 hd (fun q => ?_) ?_
  · have := (lL_eq (by omega) (by omega)).mp (q.trans (show (0 : Int64) = lL 0 from rfl))
    omega
  · rw [lL_rem ha hb]
    exact k
theorem aw_ldiv {a b : Int} (hd : decode M.2.1 pc = .ok (.ldiv, 1)) (ha : 0 ≤ a ∧ a ≤ 9223372036854775807) (hb : 0 < b ∧ b ≤ 9223372036854775807) (kk : AW M R Z cu su n h (pc + 1) L (aL (a / b) :: st)) : AW M R Z cu su n h pc L (aL b :: aL a :: st) := by
  intro p l e s m args below meth c G H locs ls C Wd hS hl
  have k := kk p l e s m args below meth c G H locs ls C Wd hS hl
  refine lv_ldiv C.1 C.2.1 hd (fun q => ?_) ?_
  · have := (lL_eq (by omega) (by omega)).mp (q.trans (show (0 : Int64) = lL 0 from rfl))
    omega
  · rw [lL_div ha hb]
    exact k
theorem aw_iand {a b : Int} (hd : decode M.2.1 pc = .ok (.iand, 1)) (kk : AW M R Z cu su n h (pc + 1) L (aI (iI a &&& iI b).toInt :: st)) : AW M R Z cu su n h pc L (aI b :: aI a :: st) := by
  intro p l e s m args below meth c G H locs ls C Wd hS hl
  have k := kk p l e s m args below meth c G H locs ls C Wd hS hl
  refine lv_iand C.1 C.2.1 hd ?_
  rw [← iI_toInt (iI a &&& iI b)]
  exact k
theorem aw_ior {a b : Int} (hd : decode M.2.1 pc = .ok (.ior, 1)) (kk : AW M R Z cu su n h (pc + 1) L (aI (iI a ||| iI b).toInt :: st)) : AW M R Z cu su n h pc L (aI b :: aI a :: st) := by
  intro p l e s m args below meth c G H locs ls C Wd hS hl
  have k := kk p l e s m args below meth c G H locs ls C Wd hS hl
  refine lv_ior C.1 C.2.1 hd ?_
  rw [← iI_toInt (iI a ||| iI b)]
  exact k
theorem aw_ixor {a b : Int} (hd : decode M.2.1 pc = .ok (.ixor, 1)) (kk : AW M R Z cu su n h (pc + 1) L (aI (iI a ^^^ iI b).toInt :: st)) : AW M R Z cu su n h pc L (aI b :: aI a :: st) := by
  intro p l e s m args below meth c G H locs ls C Wd hS hl
  have k := kk p l e s m args below meth c G H locs ls C Wd hS hl
  refine lv_ixor C.1 C.2.1 hd ?_
  rw [← iI_toInt (iI a ^^^ iI b)]
  exact k
theorem aw_ishl {a b : Int} (hd : decode M.2.1 pc = .ok (.ishl, 1)) (kk : AW M R Z cu su n h (pc + 1) L (aI (iI a <<< (iI b &&& 31)).toInt :: st)) : AW M R Z cu su n h pc L (aI b :: aI a :: st) := by
  intro p l e s m args below meth c G H locs ls C Wd hS hl
  have k := kk p l e s m args below meth c G H locs ls C Wd hS hl
  refine lv_ishl C.1 C.2.1 hd ?_
  rw [← iI_toInt (iI a <<< (iI b &&& 31))]
  exact k
theorem aw_ishr {a b : Int} (hd : decode M.2.1 pc = .ok (.ishr, 1)) (kk : AW M R Z cu su n h (pc + 1) L (aI (iI a >>> (iI b &&& 31)).toInt :: st)) : AW M R Z cu su n h pc L (aI b :: aI a :: st) := by
  intro p l e s m args below meth c G H locs ls C Wd hS hl
  have k := kk p l e s m args below meth c G H locs ls C Wd hS hl
  refine lv_ishr C.1 C.2.1 hd ?_
  rw [← iI_toInt (iI a >>> (iI b &&& 31))]
  exact k
theorem aw_iushr {a b : Int} (hd : decode M.2.1 pc = .ok (.iushr, 1)) (kk : AW M R Z cu su n h (pc + 1) L (aI ((iI a).toUInt32 >>> ((iI b).toUInt32 &&& Int32.toUInt32 31)).toInt32.toInt :: st)) : AW M R Z cu su n h pc L (aI b :: aI a :: st) := by
  intro p l e s m args below meth c G H locs ls C Wd hS hl
  have k := kk p l e s m args below meth c G H locs ls C Wd hS hl
  refine lv_iushr C.1 C.2.1 hd (iI_toInt _).symm ?_
  exact k
theorem aw_i2l {a : Int} (hd : decode M.2.1 pc = .ok (.i2l, 1)) (ha : -2147483648 ≤ a ∧ a ≤ 2147483647) (kk : AW M R Z cu su n h (pc + 1) L (aL a :: st)) : AW M R Z cu su n h pc L (aI a :: st) := by
  intro p l e s m args below meth c G H locs ls C Wd hS hl
  have k := kk p l e s m args below meth c G H locs ls C Wd hS hl
  exact lv_i2l C.1 C.2.1 hd (iI_l ha) k
theorem aw_l2i {a : Int} (hd : decode M.2.1 pc = .ok (.l2i, 1)) (kk : AW M R Z cu su n h (pc + 1) L (aI a :: st)) : AW M R Z cu su n h pc L (aL a :: st) := by
  intro p l e s m args below meth c G H locs ls C Wd hS hl
  have k := kk p l e s m args below meth c G H locs ls C Wd hS hl
  exact lv_l2i C.1 C.2.1 hd (lL_i a) k
theorem aw_i2c {a : Int} (hd : decode M.2.1 pc = .ok (.i2c, 1)) (ha : 0 ≤ a ∧ a < 65536) (kk : AW M R Z cu su n h (pc + 1) L (aI a :: st)) : AW M R Z cu su n h pc L (aI a :: st) := by
  intro p l e s m args below meth c G H locs ls C Wd hS hl
  have k := kk p l e s m args below meth c G H locs ls C Wd hS hl
  exact lv_i2c C.1 C.2.1 hd (lg_i2c_word (by rw [iI_of (by omega)]; exact ha.1) (by rw [iI_of (by omega)]; exact ha.2)) k
theorem aw_dup {v : AV} (hd : decode M.2.1 pc = .ok (.dup, 1)) (hv : am_cat v = 1) (kk : AW M R Z cu su n h (pc + 1) L (v :: v :: st)) : AW M R Z cu su n h pc L (v :: st) := by
  intro p l e s m args below meth c G H locs ls C Wd hS hl
  have k := kk p l e s m args below meth c G H locs ls C Wd hS hl
  exact lv_dup C.1 C.2.1 hd ((am_cat_v G v).trans hv) k
theorem aw_pop {v : AV} (hd : decode M.2.1 pc = .ok (.pop, 1)) (hv : am_cat v = 1) (kk : AW M R Z cu su n h (pc + 1) L st) : AW M R Z cu su n h pc L (v :: st) := by
  intro p l e s m args below meth c G H locs ls C Wd hS hl
  have k := kk p l e s m args below meth c G H locs ls C Wd hS hl
  exact lv_pop C.1 C.2.1 hd ((am_cat_v G v).trans hv) k
theorem aw_dup2 {v w : AV} (hd : decode M.2.1 pc = .ok (.dup2, 1)) (hv : am_cat v = 1) (hw : am_cat w = 1) (kk : AW M R Z cu su n h (pc + 1) L (v :: w :: v :: w :: st)) : AW M R Z cu su n h pc L (v :: w :: st) := by
  intro p l e s m args below meth c G H locs ls C Wd hS hl
  have k := kk p l e s m args below meth c G H locs ls C Wd hS hl
  exact lv_dup2_11 C.1 C.2.1 hd ((am_cat_v G v).trans hv) ((am_cat_v G w).trans hw) k
theorem aw_goto {off : Int} {tgt : Nat} (hd : decode M.2.1 pc = .ok (.goto off, 3)) (ht : (pc : Int) + off = (tgt : Int)) (kk : AW M R Z cu su n h tgt L st) : AW M R Z cu su n h pc L st := by
  intro p l e s m args below meth c G H locs ls C Wd hS hl
  have k := kk p l e s m args below meth c G H locs ls C Wd hS hl
  exact lv_goto C.1 C.2.1 hd ht k
theorem aw_val {v w : AV} (e : v = w) (kk : AW M R Z cu su n h pc L (w :: st)) : AW M R Z cu su n h pc L (v :: st) := e ▸ kk
theorem aw_st {st' : List AV} {L' : List (Option AV)} (e2 : L = L') (e : st = st') (kk : AW M R Z cu su n h pc L' st') : AW M R Z cu su n h pc L st := e2 ▸ e ▸ kk
theorem aw_icmp_eq {a b off : Int} {tgt : Nat} (hd : decode M.2.1 pc = .ok (.if_icmp .eq off, 3)) (ha : -2147483648 ≤ a ∧ a ≤ 2147483647) (hb : -2147483648 ≤ b ∧ b ≤ 2147483647) (ht : (pc : Int) + off = (tgt : Int)) (kt : a = b → AW M R Z cu su n h tgt L st) (kf : ¬ (a = b) → AW M R Z cu su n h (pc + 3) L st) : AW M R Z cu su n h pc L (aI b :: aI a :: st) := by
  intro p l e s m args below meth c G H locs ls C Wd hS hl
  refine lv_icmp_eq C.1 C.2.1 hd ht (fun q => ?_) (fun q => ?_)
  · exact kt ((iI_eq ha hb).mp q) p l e s m args below meth c G H locs ls C Wd hS hl
  · exact kf (fun z => q ((iI_eq ha hb).mpr z)) p l e s m args below meth c G H locs ls C Wd hS hl
theorem aw_if_eq {a off : Int} {tgt : Nat} (hd : decode M.2.1 pc = .ok (.ifCond .eq off, 3)) (ha : -2147483648 ≤ a ∧ a ≤ 2147483647) (ht : (pc : Int) + off = (tgt : Int)) (kt : a = 0 → AW M R Z cu su n h tgt L st) (kf : ¬ (a = 0) → AW M R Z cu su n h (pc + 3) L st) : AW M R Z cu su n h pc L (aI a :: st) := by
  intro p l e s m args below meth c G H locs ls C Wd hS hl
  refine lv_if_eq C.1 C.2.1 hd ht (fun q => ?_) (fun q => ?_)
  · exact kt ((iI_eq ha (by omega : -2147483648 ≤ (0 : Int) ∧ (0 : Int) ≤ 2147483647)).mp q) p l e s m args below meth c G H locs ls C Wd hS hl
  · exact kf (fun z => q ((iI_eq ha (by omega : -2147483648 ≤ (0 : Int) ∧ (0 : Int) ≤ 2147483647)).mpr z)) p l e s m args below meth c G H locs ls C Wd hS hl
theorem aw_icmp_ne {a b off : Int} {tgt : Nat} (hd : decode M.2.1 pc = .ok (.if_icmp .ne off, 3)) (ha : -2147483648 ≤ a ∧ a ≤ 2147483647) (hb : -2147483648 ≤ b ∧ b ≤ 2147483647) (ht : (pc : Int) + off = (tgt : Int)) (kt : a ≠ b → AW M R Z cu su n h tgt L st) (kf : ¬ (a ≠ b) → AW M R Z cu su n h (pc + 3) L st) : AW M R Z cu su n h pc L (aI b :: aI a :: st) := by
  intro p l e s m args below meth c G H locs ls C Wd hS hl
  refine lv_icmp_ne C.1 C.2.1 hd ht (fun q => ?_) (fun q => ?_)
  · exact kt (fun z => q ((iI_eq ha hb).mpr z)) p l e s m args below meth c G H locs ls C Wd hS hl
  · exact kf (fun z => z ((iI_eq ha hb).mp q)) p l e s m args below meth c G H locs ls C Wd hS hl
theorem aw_if_ne {a off : Int} {tgt : Nat} (hd : decode M.2.1 pc = .ok (.ifCond .ne off, 3)) (ha : -2147483648 ≤ a ∧ a ≤ 2147483647) (ht : (pc : Int) + off = (tgt : Int)) (kt : a ≠ 0 → AW M R Z cu su n h tgt L st) (kf : ¬ (a ≠ 0) → AW M R Z cu su n h (pc + 3) L st) : AW M R Z cu su n h pc L (aI a :: st) := by
  intro p l e s m args below meth c G H locs ls C Wd hS hl
  refine lv_if_ne C.1 C.2.1 hd ht (fun q => ?_) (fun q => ?_)
  · exact kt (fun z => q ((iI_eq ha (by omega : -2147483648 ≤ (0 : Int) ∧ (0 : Int) ≤ 2147483647)).mpr z)) p l e s m args below meth c G H locs ls C Wd hS hl
  · exact kf (fun z => z ((iI_eq ha (by omega : -2147483648 ≤ (0 : Int) ∧ (0 : Int) ≤ 2147483647)).mp q)) p l e s m args below meth c G H locs ls C Wd hS hl
theorem aw_icmp_lt {a b off : Int} {tgt : Nat} (hd : decode M.2.1 pc = .ok (.if_icmp .lt off, 3)) (ha : -2147483648 ≤ a ∧ a ≤ 2147483647) (hb : -2147483648 ≤ b ∧ b ≤ 2147483647) (ht : (pc : Int) + off = (tgt : Int)) (kt : a < b → AW M R Z cu su n h tgt L st) (kf : ¬ (a < b) → AW M R Z cu su n h (pc + 3) L st) : AW M R Z cu su n h pc L (aI b :: aI a :: st) := by
  intro p l e s m args below meth c G H locs ls C Wd hS hl
  refine lv_icmp_lt C.1 C.2.1 hd ht (fun q => ?_) (fun q => ?_)
  · exact kt ((iI_lt ha hb).mp q) p l e s m args below meth c G H locs ls C Wd hS hl
  · exact kf (fun z => q ((iI_lt ha hb).mpr z)) p l e s m args below meth c G H locs ls C Wd hS hl
theorem aw_if_lt {a off : Int} {tgt : Nat} (hd : decode M.2.1 pc = .ok (.ifCond .lt off, 3)) (ha : -2147483648 ≤ a ∧ a ≤ 2147483647) (ht : (pc : Int) + off = (tgt : Int)) (kt : a < 0 → AW M R Z cu su n h tgt L st) (kf : ¬ (a < 0) → AW M R Z cu su n h (pc + 3) L st) : AW M R Z cu su n h pc L (aI a :: st) := by
  intro p l e s m args below meth c G H locs ls C Wd hS hl
  refine lv_if_lt C.1 C.2.1 hd ht (fun q => ?_) (fun q => ?_)
  · exact kt ((iI_lt ha (by omega : -2147483648 ≤ (0 : Int) ∧ (0 : Int) ≤ 2147483647)).mp q) p l e s m args below meth c G H locs ls C Wd hS hl
  · exact kf (fun z => q ((iI_lt ha (by omega : -2147483648 ≤ (0 : Int) ∧ (0 : Int) ≤ 2147483647)).mpr z)) p l e s m args below meth c G H locs ls C Wd hS hl
theorem aw_icmp_ge {a b off : Int} {tgt : Nat} (hd : decode M.2.1 pc = .ok (.if_icmp .ge off, 3)) (ha : -2147483648 ≤ a ∧ a ≤ 2147483647) (hb : -2147483648 ≤ b ∧ b ≤ 2147483647) (ht : (pc : Int) + off = (tgt : Int)) (kt : b ≤ a → AW M R Z cu su n h tgt L st) (kf : ¬ (b ≤ a) → AW M R Z cu su n h (pc + 3) L st) : AW M R Z cu su n h pc L (aI b :: aI a :: st) := by
  intro p l e s m args below meth c G H locs ls C Wd hS hl
  refine lv_icmp_ge C.1 C.2.1 hd ht (fun q => ?_) (fun q => ?_)
  · exact kt ((iI_le hb ha).mp q) p l e s m args below meth c G H locs ls C Wd hS hl
  · exact kf (fun z => q ((iI_le hb ha).mpr z)) p l e s m args below meth c G H locs ls C Wd hS hl
theorem aw_if_ge {a off : Int} {tgt : Nat} (hd : decode M.2.1 pc = .ok (.ifCond .ge off, 3)) (ha : -2147483648 ≤ a ∧ a ≤ 2147483647) (ht : (pc : Int) + off = (tgt : Int)) (kt : 0 ≤ a → AW M R Z cu su n h tgt L st) (kf : ¬ (0 ≤ a) → AW M R Z cu su n h (pc + 3) L st) : AW M R Z cu su n h pc L (aI a :: st) := by
  intro p l e s m args below meth c G H locs ls C Wd hS hl
  refine lv_if_ge C.1 C.2.1 hd ht (fun q => ?_) (fun q => ?_)
  · exact kt ((iI_le (by omega : -2147483648 ≤ (0 : Int) ∧ (0 : Int) ≤ 2147483647) ha).mp q) p l e s m args below meth c G H locs ls C Wd hS hl
  · exact kf (fun z => q ((iI_le (by omega : -2147483648 ≤ (0 : Int) ∧ (0 : Int) ≤ 2147483647) ha).mpr z)) p l e s m args below meth c G H locs ls C Wd hS hl
theorem aw_icmp_gt {a b off : Int} {tgt : Nat} (hd : decode M.2.1 pc = .ok (.if_icmp .gt off, 3)) (ha : -2147483648 ≤ a ∧ a ≤ 2147483647) (hb : -2147483648 ≤ b ∧ b ≤ 2147483647) (ht : (pc : Int) + off = (tgt : Int)) (kt : b < a → AW M R Z cu su n h tgt L st) (kf : ¬ (b < a) → AW M R Z cu su n h (pc + 3) L st) : AW M R Z cu su n h pc L (aI b :: aI a :: st) := by
  intro p l e s m args below meth c G H locs ls C Wd hS hl
  refine lv_icmp_gt C.1 C.2.1 hd ht (fun q => ?_) (fun q => ?_)
  · exact kt ((iI_lt hb ha).mp q) p l e s m args below meth c G H locs ls C Wd hS hl
  · exact kf (fun z => q ((iI_lt hb ha).mpr z)) p l e s m args below meth c G H locs ls C Wd hS hl
theorem aw_if_gt {a off : Int} {tgt : Nat} (hd : decode M.2.1 pc = .ok (.ifCond .gt off, 3)) (ha : -2147483648 ≤ a ∧ a ≤ 2147483647) (ht : (pc : Int) + off = (tgt : Int)) (kt : 0 < a → AW M R Z cu su n h tgt L st) (kf : ¬ (0 < a) → AW M R Z cu su n h (pc + 3) L st) : AW M R Z cu su n h pc L (aI a :: st) := by
  intro p l e s m args below meth c G H locs ls C Wd hS hl
  refine lv_if_gt C.1 C.2.1 hd ht (fun q => ?_) (fun q => ?_)
  · exact kt ((iI_lt (by omega : -2147483648 ≤ (0 : Int) ∧ (0 : Int) ≤ 2147483647) ha).mp q) p l e s m args below meth c G H locs ls C Wd hS hl
  · exact kf (fun z => q ((iI_lt (by omega : -2147483648 ≤ (0 : Int) ∧ (0 : Int) ≤ 2147483647) ha).mpr z)) p l e s m args below meth c G H locs ls C Wd hS hl
theorem aw_icmp_le {a b off : Int} {tgt : Nat} (hd : decode M.2.1 pc = .ok (.if_icmp .le off, 3)) (ha : -2147483648 ≤ a ∧ a ≤ 2147483647) (hb : -2147483648 ≤ b ∧ b ≤ 2147483647) (ht : (pc : Int) + off = (tgt : Int)) (kt : a ≤ b → AW M R Z cu su n h tgt L st) (kf : ¬ (a ≤ b) → AW M R Z cu su n h (pc + 3) L st) : AW M R Z cu su n h pc L (aI b :: aI a :: st) := by
  intro p l e s m args below meth c G H locs ls C Wd hS hl
  refine lv_icmp_le C.1 C.2.1 hd ht (fun q => ?_) (fun q => ?_)
  · exact kt ((iI_le ha hb).mp q) p l e s m args below meth c G H locs ls C Wd hS hl
  · exact kf (fun z => q ((iI_le ha hb).mpr z)) p l e s m args below meth c G H locs ls C Wd hS hl
theorem aw_if_le {a off : Int} {tgt : Nat} (hd : decode M.2.1 pc = .ok (.ifCond .le off, 3)) (ha : -2147483648 ≤ a ∧ a ≤ 2147483647) (ht : (pc : Int) + off = (tgt : Int)) (kt : a ≤ 0 → AW M R Z cu su n h tgt L st) (kf : ¬ (a ≤ 0) → AW M R Z cu su n h (pc + 3) L st) : AW M R Z cu su n h pc L (aI a :: st) := by
  intro p l e s m args below meth c G H locs ls C Wd hS hl
  refine lv_if_le C.1 C.2.1 hd ht (fun q => ?_) (fun q => ?_)
  · exact kt ((iI_le ha (by omega : -2147483648 ≤ (0 : Int) ∧ (0 : Int) ≤ 2147483647)).mp q) p l e s m args below meth c G H locs ls C Wd hS hl
  · exact kf (fun z => q ((iI_le ha (by omega : -2147483648 ≤ (0 : Int) ∧ (0 : Int) ≤ 2147483647)).mpr z)) p l e s m args below meth c G H locs ls C Wd hS hl
theorem am_cmp {a b : Int} (ha : -9223372036854775808 ≤ a ∧ a ≤ 9223372036854775807) (hb : -9223372036854775808 ≤ b ∧ b ≤ 9223372036854775807) : lg_cmp (lL a) (lL b) = iI (if b < a then 1 else if a = b then 0 else -1) := by
  unfold lg_cmp
  by_cases h1 : b < a
  · rw [if_pos h1, if_pos ((lL_lt hb ha).mpr h1)]
    rfl
  · rw [if_neg h1, if_neg (fun q => h1 ((lL_lt hb ha).mp q))]
    by_cases h2 : a = b
    · rw [if_pos h2, if_pos ((lL_eq ha hb).mpr h2)]
      rfl
    · rw [if_neg h2, if_neg (fun q => h2 ((lL_eq ha hb).mp q))]
      rfl
theorem aw_lcmp_eq {a b off : Int} {tgt : Nat} (hd1 : decode M.2.1 pc = .ok (.lcmp, 1)) (hd : decode M.2.1 (pc + 1) = .ok (.ifCond .eq off, 3)) (ha : -9223372036854775808 ≤ a ∧ a ≤ 9223372036854775807) (hb : -9223372036854775808 ≤ b ∧ b ≤ 9223372036854775807) (ht : ((pc + 1 : Nat) : Int) + off = (tgt : Int)) (kt : a = b → AW M R Z cu su n h tgt L st) (kf : ¬ (a = b) → AW M R Z cu su n h (pc + 1 + 3) L st) : AW M R Z cu su n h pc L (aL b :: aL a :: st) := by
  have K : AW M R Z cu su n h (pc + 1) L (aI (if b < a then 1 else if a = b then 0 else -1) :: st) := by
    refine aw_if_eq hd (by omega) ht (fun q => kt ?_) (fun q => kf ?_)
    · omega
    · omega
  intro p l e s m args below meth c G H locs ls C Wd hS hl
  refine W.lcmp C.1 C.2.1 hd1 ?_
  rw [am_cmp ha hb]
  exact K p l e s m args below meth c G H locs ls C Wd hS hl
theorem aw_lcmp_ne {a b off : Int} {tgt : Nat} (hd1 : decode M.2.1 pc = .ok (.lcmp, 1)) (hd : decode M.2.1 (pc + 1) = .ok (.ifCond .ne off, 3)) (ha : -9223372036854775808 ≤ a ∧ a ≤ 9223372036854775807) (hb : -9223372036854775808 ≤ b ∧ b ≤ 9223372036854775807) (ht : ((pc + 1 : Nat) : Int) + off = (tgt : Int)) (kt : a ≠ b → AW M R Z cu su n h tgt L st) (kf : ¬ (a ≠ b) → AW M R Z cu su n h (pc + 1 + 3) L st) : AW M R Z cu su n h pc L (aL b :: aL a :: st) := by
  have K : AW M R Z cu su n h (pc + 1) L (aI (if b < a then 1 else if a = b then 0 else -1) :: st) := by
    refine aw_if_ne hd (by omega) ht (fun q => kt ?_) (fun q => kf ?_)
    · omega
    · omega
  intro p l e s m args below meth c G H locs ls C Wd hS hl
  refine W.lcmp C.1 C.2.1 hd1 ?_
  rw [am_cmp ha hb]
  exact K p l e s m args below meth c G H locs ls C Wd hS hl
theorem aw_lcmp_lt {a b off : Int} {tgt : Nat} (hd1 : decode M.2.1 pc = .ok (.lcmp, 1)) (hd : decode M.2.1 (pc + 1) = .ok (.ifCond .lt off, 3)) (ha : -9223372036854775808 ≤ a ∧ a ≤ 9223372036854775807) (hb : -9223372036854775808 ≤ b ∧ b ≤ 9223372036854775807) (ht : ((pc + 1 : Nat) : Int) + off = (tgt : Int)) (kt : a < b → AW M R Z cu su n h tgt L st) (kf : ¬ (a < b) → AW M R Z cu su n h (pc + 1 + 3) L st) : AW M R Z cu su n h pc L (aL b :: aL a :: st) := by
  have K : AW M R Z cu su n h (pc + 1) L (aI (if b < a then 1 else if a = b then 0 else -1) :: st) := by
    refine aw_if_lt hd (by omega) ht (fun q => kt ?_) (fun q => kf ?_)
    · omega
    · omega
  intro p l e s m args below meth c G H locs ls C Wd hS hl
  refine W.lcmp C.1 C.2.1 hd1 ?_
  rw [am_cmp ha hb]
  exact K p l e s m args below meth c G H locs ls C Wd hS hl
theorem aw_lcmp_ge {a b off : Int} {tgt : Nat} (hd1 : decode M.2.1 pc = .ok (.lcmp, 1)) (hd : decode M.2.1 (pc + 1) = .ok (.ifCond .ge off, 3)) (ha : -9223372036854775808 ≤ a ∧ a ≤ 9223372036854775807) (hb : -9223372036854775808 ≤ b ∧ b ≤ 9223372036854775807) (ht : ((pc + 1 : Nat) : Int) + off = (tgt : Int)) (kt : b ≤ a → AW M R Z cu su n h tgt L st) (kf : ¬ (b ≤ a) → AW M R Z cu su n h (pc + 1 + 3) L st) : AW M R Z cu su n h pc L (aL b :: aL a :: st) := by
  have K : AW M R Z cu su n h (pc + 1) L (aI (if b < a then 1 else if a = b then 0 else -1) :: st) := by
    refine aw_if_ge hd (by omega) ht (fun q => kt ?_) (fun q => kf ?_)
    · omega
    · omega
  intro p l e s m args below meth c G H locs ls C Wd hS hl
  refine W.lcmp C.1 C.2.1 hd1 ?_
  rw [am_cmp ha hb]
  exact K p l e s m args below meth c G H locs ls C Wd hS hl
theorem aw_lcmp_gt {a b off : Int} {tgt : Nat} (hd1 : decode M.2.1 pc = .ok (.lcmp, 1)) (hd : decode M.2.1 (pc + 1) = .ok (.ifCond .gt off, 3)) (ha : -9223372036854775808 ≤ a ∧ a ≤ 9223372036854775807) (hb : -9223372036854775808 ≤ b ∧ b ≤ 9223372036854775807) (ht : ((pc + 1 : Nat) : Int) + off = (tgt : Int)) (kt : b < a → AW M R Z cu su n h tgt L st) (kf : ¬ (b < a) → AW M R Z cu su n h (pc + 1 + 3) L st) : AW M R Z cu su n h pc L (aL b :: aL a :: st) := by
  have K : AW M R Z cu su n h (pc + 1) L (aI (if b < a then 1 else if a = b then 0 else -1) :: st) := by
    refine aw_if_gt hd (by omega) ht (fun q => kt ?_) (fun q => kf ?_)
    · omega
    · omega
  intro p l e s m args below meth c G H locs ls C Wd hS hl
  refine W.lcmp C.1 C.2.1 hd1 ?_
  rw [am_cmp ha hb]
  exact K p l e s m args below meth c G H locs ls C Wd hS hl
theorem aw_lcmp_le {a b off : Int} {tgt : Nat} (hd1 : decode M.2.1 pc = .ok (.lcmp, 1)) (hd : decode M.2.1 (pc + 1) = .ok (.ifCond .le off, 3)) (ha : -9223372036854775808 ≤ a ∧ a ≤ 9223372036854775807) (hb : -9223372036854775808 ≤ b ∧ b ≤ 9223372036854775807) (ht : ((pc + 1 : Nat) : Int) + off = (tgt : Int)) (kt : a ≤ b → AW M R Z cu su n h tgt L st) (kf : ¬ (a ≤ b) → AW M R Z cu su n h (pc + 1 + 3) L st) : AW M R Z cu su n h pc L (aL b :: aL a :: st) := by
  have K : AW M R Z cu su n h (pc + 1) L (aI (if b < a then 1 else if a = b then 0 else -1) :: st) := by
    refine aw_if_le hd (by omega) ht (fun q => kt ?_) (fun q => kf ?_)
    · omega
    · omega
  intro p l e s m args below meth c G H locs ls C Wd hS hl
  refine W.lcmp C.1 C.2.1 hd1 ?_
  rw [am_cmp ha hb]
  exact K p l e s m args below meth c G H locs ls C Wd hS hl
theorem aw_flag_eq {P : Prop} [Decidable P] {off : Int} {tgt : Nat} (hd : decode M.2.1 pc = .ok (.ifCond .eq off, 3)) (ht : (pc : Int) + off = (tgt : Int)) (kt : ¬ P → AW M R Z cu su n h tgt L st) (kf : P → AW M R Z cu su n h (pc + 3) L st) : AW M R Z cu su n h pc L (aI (if P then 1 else 0) :: st) := by
  refine aw_if_eq hd (by by_cases z : P <;> simp [z]) ht (fun q => kt ?_) (fun q => kf ?_)
  · by_cases z : P
    · first | exact z | (rw [if_pos z] at q; omega)
    · first | exact z | (rw [if_neg z] at q; omega)
  · by_cases z : P
    · first | exact z | (rw [if_pos z] at q; omega)
    · first | exact z | (rw [if_neg z] at q; omega)
theorem aw_flag_ne {P : Prop} [Decidable P] {off : Int} {tgt : Nat} (hd : decode M.2.1 pc = .ok (.ifCond .ne off, 3)) (ht : (pc : Int) + off = (tgt : Int)) (kt : P → AW M R Z cu su n h tgt L st) (kf : ¬ P → AW M R Z cu su n h (pc + 3) L st) : AW M R Z cu su n h pc L (aI (if P then 1 else 0) :: st) := by
  refine aw_if_ne hd (by by_cases z : P <;> simp [z]) ht (fun q => kt ?_) (fun q => kf ?_)
  · by_cases z : P
    · first | exact z | (rw [if_pos z] at q; omega)
    · first | exact z | (rw [if_neg z] at q; omega)
  · by_cases z : P
    · first | exact z | (rw [if_pos z] at q; omega)
    · first | exact z | (rw [if_neg z] at q; omega)
end AWR
