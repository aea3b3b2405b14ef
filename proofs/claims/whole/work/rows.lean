section
-- ===== PART A: goes FIRST, ahead of the names: the tables' words, and 'selects' of the private methods out of them =====
/-- a private method of a class that the tables say can be made, by its rows of tables_1 -/
def lw_okq (q : MethodName × Nat) : Prop := (q.1.cls ≠ "java/lang/invoke/MethodHandle" ∧ q.1.cls ≠ "java/lang/invoke/VarHandle") ∧ Cond.instantiable q.1.cls q.2 ∈ tables_1 ∧ Cond.privateMethod q.1 ∈ tables_1 ∧ Cond.instanceMethod q.1 ∈ tables_1
theorem lw_p0 : lw_okq (⟨"UnitSums$Script", "readToken", "()V"⟩, 9) := ⟨⟨by decide +kernel, by decide +kernel⟩, List.mem_of_getElem? (i := 34) (by decide +kernel), List.mem_of_getElem? (i := 194) (by decide +kernel), List.mem_of_getElem? (i := 195) (by decide +kernel)⟩
theorem lw_p1 : lw_okq (⟨"UnitSums$Script", "readNumber", "()V"⟩, 9) := ⟨⟨by decide +kernel, by decide +kernel⟩, List.mem_of_getElem? (i := 34) (by decide +kernel), List.mem_of_getElem? (i := 201) (by decide +kernel), List.mem_of_getElem? (i := 202) (by decide +kernel)⟩
theorem lw_p2 : lw_okq (⟨"UnitSums$Script", "follow", "(I)I"⟩, 9) := ⟨⟨by decide +kernel, by decide +kernel⟩, List.mem_of_getElem? (i := 34) (by decide +kernel), List.mem_of_getElem? (i := 211) (by decide +kernel), List.mem_of_getElem? (i := 212) (by decide +kernel)⟩
theorem lw_p3 : lw_okq (⟨"UnitSums$Script", "takeAbove", "()I"⟩, 9) := ⟨⟨by decide +kernel, by decide +kernel⟩, List.mem_of_getElem? (i := 34) (by decide +kernel), List.mem_of_getElem? (i := 215) (by decide +kernel), List.mem_of_getElem? (i := 216) (by decide +kernel)⟩
theorem lw_p4 : lw_okq (⟨"UnitSums$Script", "isNumberTo", "(I)Z"⟩, 9) := ⟨⟨by decide +kernel, by decide +kernel⟩, List.mem_of_getElem? (i := 34) (by decide +kernel), List.mem_of_getElem? (i := 219) (by decide +kernel), List.mem_of_getElem? (i := 220) (by decide +kernel)⟩
theorem lw_p5 : lw_okq (⟨"UnitSums$Script", "takeBelow", "()I"⟩, 9) := ⟨⟨by decide +kernel, by decide +kernel⟩, List.mem_of_getElem? (i := 34) (by decide +kernel), List.mem_of_getElem? (i := 223) (by decide +kernel), List.mem_of_getElem? (i := 224) (by decide +kernel)⟩
theorem lw_p6 : lw_okq (⟨"UnitSums$Script", "takeTerm", "()I"⟩, 9) := ⟨⟨by decide +kernel, by decide +kernel⟩, List.mem_of_getElem? (i := 34) (by decide +kernel), List.mem_of_getElem? (i := 227) (by decide +kernel), List.mem_of_getElem? (i := 228) (by decide +kernel)⟩
theorem lw_p7 : lw_okq (⟨"UnitSums$Script", "endSum", "()I"⟩, 9) := ⟨⟨by decide +kernel, by decide +kernel⟩, List.mem_of_getElem? (i := 34) (by decide +kernel), List.mem_of_getElem? (i := 248) (by decide +kernel), List.mem_of_getElem? (i := 249) (by decide +kernel)⟩
theorem lw_p8 : lw_okq (⟨"UnitSums", "startAnew", "()V"⟩, 10) := ⟨⟨by decide +kernel, by decide +kernel⟩, List.mem_of_getElem? (i := 12) (by decide +kernel), List.mem_of_getElem? (i := 256) (by decide +kernel), List.mem_of_getElem? (i := 257) (by decide +kernel)⟩
theorem lw_p9 : lw_okq (⟨"UnitSums", "draftBy", "(I)Z"⟩, 10) := ⟨⟨by decide +kernel, by decide +kernel⟩, List.mem_of_getElem? (i := 12) (by decide +kernel), List.mem_of_getElem? (i := 295) (by decide +kernel), List.mem_of_getElem? (i := 296) (by decide +kernel)⟩
theorem lw_p10 : lw_okq (⟨"UnitSums$Finder", "seek", "(I)I"⟩, 5) := ⟨⟨by decide +kernel, by decide +kernel⟩, List.mem_of_getElem? (i := 87) (by decide +kernel), List.mem_of_getElem? (i := 319) (by decide +kernel), List.mem_of_getElem? (i := 320) (by decide +kernel)⟩
theorem lw_p11 : lw_okq (⟨"UnitSums$Finder", "extend", "(IIIJJ)V"⟩, 5) := ⟨⟨by decide +kernel, by decide +kernel⟩, List.mem_of_getElem? (i := 87) (by decide +kernel), List.mem_of_getElem? (i := 326) (by decide +kernel), List.mem_of_getElem? (i := 327) (by decide +kernel)⟩
theorem lw_p12 : lw_okq (⟨"UnitSums$Finder", "end", "(IIIJJ)V"⟩, 5) := ⟨⟨by decide +kernel, by decide +kernel⟩, List.mem_of_getElem? (i := 87) (by decide +kernel), List.mem_of_getElem? (i := 333) (by decide +kernel), List.mem_of_getElem? (i := 334) (by decide +kernel)⟩
theorem lw_p13 : lw_okq (⟨"UnitSums$Finder", "pick", "(III)I"⟩, 5) := ⟨⟨by decide +kernel, by decide +kernel⟩, List.mem_of_getElem? (i := 87) (by decide +kernel), List.mem_of_getElem? (i := 343) (by decide +kernel), List.mem_of_getElem? (i := 344) (by decide +kernel)⟩
theorem lw_p14 : lw_okq (⟨"UnitSums", "takeDraft", "()I"⟩, 10) := ⟨⟨by decide +kernel, by decide +kernel⟩, List.mem_of_getElem? (i := 12) (by decide +kernel), List.mem_of_getElem? (i := 361) (by decide +kernel), List.mem_of_getElem? (i := 362) (by decide +kernel)⟩
theorem lw_p15 : lw_okq (⟨"UnitSums$History", "loseOldest", "()V"⟩, 2) := ⟨⟨by decide +kernel, by decide +kernel⟩, List.mem_of_getElem? (i := 71) (by decide +kernel), List.mem_of_getElem? (i := 369) (by decide +kernel), List.mem_of_getElem? (i := 370) (by decide +kernel)⟩
def lw_privs_1 : List (MethodName × Nat) := [(⟨"UnitSums$Script", "readToken", "()V"⟩, 9), (⟨"UnitSums$Script", "readNumber", "()V"⟩, 9), (⟨"UnitSums$Script", "follow", "(I)I"⟩, 9), (⟨"UnitSums$Script", "takeAbove", "()I"⟩, 9), (⟨"UnitSums$Script", "isNumberTo", "(I)Z"⟩, 9), (⟨"UnitSums$Script", "takeBelow", "()I"⟩, 9), (⟨"UnitSums$Script", "takeTerm", "()I"⟩, 9), (⟨"UnitSums$Script", "endSum", "()I"⟩, 9), (⟨"UnitSums", "startAnew", "()V"⟩, 10), (⟨"UnitSums", "draftBy", "(I)Z"⟩, 10), (⟨"UnitSums$Finder", "seek", "(I)I"⟩, 5), (⟨"UnitSums$Finder", "extend", "(IIIJJ)V"⟩, 5), (⟨"UnitSums$Finder", "end", "(IIIJJ)V"⟩, 5), (⟨"UnitSums$Finder", "pick", "(III)I"⟩, 5), (⟨"UnitSums", "takeDraft", "()I"⟩, 10), (⟨"UnitSums$History", "loseOldest", "()V"⟩, 2)]
theorem lw_r1 : ∀ q ∈ lw_privs_1, lw_okq q := List.forall_mem_cons.mpr ⟨lw_p0, List.forall_mem_cons.mpr ⟨lw_p1, List.forall_mem_cons.mpr ⟨lw_p2, List.forall_mem_cons.mpr ⟨lw_p3, List.forall_mem_cons.mpr ⟨lw_p4, List.forall_mem_cons.mpr ⟨lw_p5, List.forall_mem_cons.mpr ⟨lw_p6, List.forall_mem_cons.mpr ⟨lw_p7, List.forall_mem_cons.mpr ⟨lw_p8, List.forall_mem_cons.mpr ⟨lw_p9, List.forall_mem_cons.mpr ⟨lw_p10, List.forall_mem_cons.mpr ⟨lw_p11, List.forall_mem_cons.mpr ⟨lw_p12, List.forall_mem_cons.mpr ⟨lw_p13, List.forall_mem_cons.mpr ⟨lw_p14, List.forall_mem_cons.mpr ⟨lw_p15, fun _ h => absurd h List.not_mem_nil⟩⟩⟩⟩⟩⟩⟩⟩⟩⟩⟩⟩⟩⟩⟩⟩
theorem lw_p16 : lw_okq (⟨"UnitSumsModel", "reads", "()Z"⟩, 25) := ⟨⟨by decide +kernel, by decide +kernel⟩, List.mem_of_getElem? (i := 527) (by decide +kernel), List.mem_of_getElem? (i := 626) (by decide +kernel), List.mem_of_getElem? (i := 627) (by decide +kernel)⟩
theorem lw_p17 : lw_okq (⟨"UnitSumsModel", "take", "()V"⟩, 25) := ⟨⟨by decide +kernel, by decide +kernel⟩, List.mem_of_getElem? (i := 527) (by decide +kernel), List.mem_of_getElem? (i := 630) (by decide +kernel), List.mem_of_getElem? (i := 631) (by decide +kernel)⟩
theorem lw_p18 : lw_okq (⟨"UnitSumsModel", "readsFraction", "()Z"⟩, 25) := ⟨⟨by decide +kernel, by decide +kernel⟩, List.mem_of_getElem? (i := 527) (by decide +kernel), List.mem_of_getElem? (i := 639) (by decide +kernel), List.mem_of_getElem? (i := 640) (by decide +kernel)⟩
theorem lw_p19 : lw_okq (⟨"UnitSumsModel", "isNumber", "(II)Z"⟩, 25) := ⟨⟨by decide +kernel, by decide +kernel⟩, List.mem_of_getElem? (i := 527) (by decide +kernel), List.mem_of_getElem? (i := 643) (by decide +kernel), List.mem_of_getElem? (i := 644) (by decide +kernel)⟩
theorem lw_p20 : lw_okq (⟨"UnitSumsModel", "readsEnd", "()Z"⟩, 25) := ⟨⟨by decide +kernel, by decide +kernel⟩, List.mem_of_getElem? (i := 527) (by decide +kernel), List.mem_of_getElem? (i := 647) (by decide +kernel), List.mem_of_getElem? (i := 648) (by decide +kernel)⟩
theorem lw_p21 : lw_okq (⟨"UnitSumsModel", "readsSum", "()Z"⟩, 25) := ⟨⟨by decide +kernel, by decide +kernel⟩, List.mem_of_getElem? (i := 527) (by decide +kernel), List.mem_of_getElem? (i := 651) (by decide +kernel), List.mem_of_getElem? (i := 652) (by decide +kernel)⟩
theorem lw_p22 : lw_okq (⟨"UnitSumsModel", "isWhole", "()Z"⟩, 25) := ⟨⟨by decide +kernel, by decide +kernel⟩, List.mem_of_getElem? (i := 527) (by decide +kernel), List.mem_of_getElem? (i := 655) (by decide +kernel), List.mem_of_getElem? (i := 656) (by decide +kernel)⟩
theorem lw_p23 : lw_okq (⟨"UnitSumsModel", "least", "(I)I"⟩, 25) := ⟨⟨by decide +kernel, by decide +kernel⟩, List.mem_of_getElem? (i := 527) (by decide +kernel), List.mem_of_getElem? (i := 663) (by decide +kernel), List.mem_of_getElem? (i := 664) (by decide +kernel)⟩
theorem lw_p24 : lw_okq (⟨"UnitSumsModel", "goesThrough", "(III)I"⟩, 25) := ⟨⟨by decide +kernel, by decide +kernel⟩, List.mem_of_getElem? (i := 527) (by decide +kernel), List.mem_of_getElem? (i := 678) (by decide +kernel), List.mem_of_getElem? (i := 679) (by decide +kernel)⟩
theorem lw_p25 : lw_okq (⟨"UnitSumsModel", "few", "(I)I"⟩, 25) := ⟨⟨by decide +kernel, by decide +kernel⟩, List.mem_of_getElem? (i := 527) (by decide +kernel), List.mem_of_getElem? (i := 690) (by decide +kernel), List.mem_of_getElem? (i := 691) (by decide +kernel)⟩
theorem lw_p26 : lw_okq (⟨"UnitSumsModel", "top", "(I)I"⟩, 25) := ⟨⟨by decide +kernel, by decide +kernel⟩, List.mem_of_getElem? (i := 527) (by decide +kernel), List.mem_of_getElem? (i := 698) (by decide +kernel), List.mem_of_getElem? (i := 699) (by decide +kernel)⟩
theorem lw_p27 : lw_okq (⟨"UnitSumsModel", "firstOf", "(II)I"⟩, 25) := ⟨⟨by decide +kernel, by decide +kernel⟩, List.mem_of_getElem? (i := 527) (by decide +kernel), List.mem_of_getElem? (i := 707) (by decide +kernel), List.mem_of_getElem? (i := 708) (by decide +kernel)⟩
theorem lw_p28 : lw_okq (⟨"UnitSumsModel", "byLeastTop", "()I"⟩, 25) := ⟨⟨by decide +kernel, by decide +kernel⟩, List.mem_of_getElem? (i := 527) (by decide +kernel), List.mem_of_getElem? (i := 711) (by decide +kernel), List.mem_of_getElem? (i := 712) (by decide +kernel)⟩
theorem lw_p29 : lw_okq (⟨"UnitSumsModel", "minds", "()V"⟩, 25) := ⟨⟨by decide +kernel, by decide +kernel⟩, List.mem_of_getElem? (i := 527) (by decide +kernel), List.mem_of_getElem? (i := 715) (by decide +kernel), List.mem_of_getElem? (i := 716) (by decide +kernel)⟩
theorem lw_p30 : lw_okq (⟨"UnitSumsModel", "copy", "(II)V"⟩, 25) := ⟨⟨by decide +kernel, by decide +kernel⟩, List.mem_of_getElem? (i := 527) (by decide +kernel), List.mem_of_getElem? (i := 719) (by decide +kernel), List.mem_of_getElem? (i := 720) (by decide +kernel)⟩
theorem lw_p31 : lw_okq (⟨"UnitSumsModel", "maySplit", "(II)Z"⟩, 25) := ⟨⟨by decide +kernel, by decide +kernel⟩, List.mem_of_getElem? (i := 527) (by decide +kernel), List.mem_of_getElem? (i := 727) (by decide +kernel), List.mem_of_getElem? (i := 728) (by decide +kernel)⟩
def lw_privs_2 : List (MethodName × Nat) := [(⟨"UnitSumsModel", "reads", "()Z"⟩, 25), (⟨"UnitSumsModel", "take", "()V"⟩, 25), (⟨"UnitSumsModel", "readsFraction", "()Z"⟩, 25), (⟨"UnitSumsModel", "isNumber", "(II)Z"⟩, 25), (⟨"UnitSumsModel", "readsEnd", "()Z"⟩, 25), (⟨"UnitSumsModel", "readsSum", "()Z"⟩, 25), (⟨"UnitSumsModel", "isWhole", "()Z"⟩, 25), (⟨"UnitSumsModel", "least", "(I)I"⟩, 25), (⟨"UnitSumsModel", "goesThrough", "(III)I"⟩, 25), (⟨"UnitSumsModel", "few", "(I)I"⟩, 25), (⟨"UnitSumsModel", "top", "(I)I"⟩, 25), (⟨"UnitSumsModel", "firstOf", "(II)I"⟩, 25), (⟨"UnitSumsModel", "byLeastTop", "()I"⟩, 25), (⟨"UnitSumsModel", "minds", "()V"⟩, 25), (⟨"UnitSumsModel", "copy", "(II)V"⟩, 25), (⟨"UnitSumsModel", "maySplit", "(II)Z"⟩, 25)]
theorem lw_r2 : ∀ q ∈ lw_privs_2, lw_okq q := List.forall_mem_cons.mpr ⟨lw_p16, List.forall_mem_cons.mpr ⟨lw_p17, List.forall_mem_cons.mpr ⟨lw_p18, List.forall_mem_cons.mpr ⟨lw_p19, List.forall_mem_cons.mpr ⟨lw_p20, List.forall_mem_cons.mpr ⟨lw_p21, List.forall_mem_cons.mpr ⟨lw_p22, List.forall_mem_cons.mpr ⟨lw_p23, List.forall_mem_cons.mpr ⟨lw_p24, List.forall_mem_cons.mpr ⟨lw_p25, List.forall_mem_cons.mpr ⟨lw_p26, List.forall_mem_cons.mpr ⟨lw_p27, List.forall_mem_cons.mpr ⟨lw_p28, List.forall_mem_cons.mpr ⟨lw_p29, List.forall_mem_cons.mpr ⟨lw_p30, List.forall_mem_cons.mpr ⟨lw_p31, fun _ h => absurd h List.not_mem_nil⟩⟩⟩⟩⟩⟩⟩⟩⟩⟩⟩⟩⟩⟩⟩⟩
theorem lw_p32 : lw_okq (⟨"UnitSumsModel", "isTerm", "(I)Z"⟩, 25) := ⟨⟨by decide +kernel, by decide +kernel⟩, List.mem_of_getElem? (i := 527) (by decide +kernel), List.mem_of_getElem? (i := 736) (by decide +kernel), List.mem_of_getElem? (i := 737) (by decide +kernel)⟩
theorem lw_p33 : lw_okq (⟨"UnitSumsModel", "goes", "(I)V"⟩, 25) := ⟨⟨by decide +kernel, by decide +kernel⟩, List.mem_of_getElem? (i := 527) (by decide +kernel), List.mem_of_getElem? (i := 740) (by decide +kernel), List.mem_of_getElem? (i := 741) (by decide +kernel)⟩
theorem lw_p34 : lw_okq (⟨"UnitSumsModel", "comes", "(I)V"⟩, 25) := ⟨⟨by decide +kernel, by decide +kernel⟩, List.mem_of_getElem? (i := 527) (by decide +kernel), List.mem_of_getElem? (i := 744) (by decide +kernel), List.mem_of_getElem? (i := 745) (by decide +kernel)⟩
def lw_privs_3 : List (MethodName × Nat) := [(⟨"UnitSumsModel", "isTerm", "(I)Z"⟩, 25), (⟨"UnitSumsModel", "goes", "(I)V"⟩, 25), (⟨"UnitSumsModel", "comes", "(I)V"⟩, 25)]
theorem lw_r3 : ∀ q ∈ lw_privs_3, lw_okq q := List.forall_mem_cons.mpr ⟨lw_p32, List.forall_mem_cons.mpr ⟨lw_p33, List.forall_mem_cons.mpr ⟨lw_p34, fun _ h => absurd h List.not_mem_nil⟩⟩⟩
def lw_privs : List (MethodName × Nat) := lw_privs_1 ++ (lw_privs_2 ++ (lw_privs_3))
def lw_tbl : List Cond := k2_sels lw_privs ++ tables_1
theorem lw_privs_ok : ∀ q ∈ lw_privs, lw_okq q := by
  show ∀ q ∈ lw_privs_1 ++ (lw_privs_2 ++ (lw_privs_3)), lw_okq q
  exact List.forall_mem_append.mpr ⟨lw_r1, List.forall_mem_append.mpr ⟨lw_r2, lw_r3⟩⟩
def RX0 : String := "UnitSums$Finder"
def TX0 : u_T := fun k => match k with
  | 0 => ("UnitSums$Finder", "p", "I", false)
  | 1 => ("UnitSums$Finder", "q", "I", false)
  | 2 => ("UnitSums$Finder", "found", "[[I", true)
  | 3 => ("UnitSums$Finder", "amounts", "[I", true)
  | _ => ("UnitSums$Finder", "sought", "[Z", true)
def tyX0 : Nat → FieldType := fun k => match k with
  | 0 => .int
  | 1 => .int
  | 2 => .array (.array .int)
  | 3 => .array .int
  | _ => .array .boolean
abbrev wsX00 : List Cond := u_ws RX0 TX0 5
theorem nmX0 : ∀ a, a < 5 → ∀ b, b < 5 → a ≠ b → (TX0 a).2.1 ≠ (TX0 b).2.1 := by decide +kernel
theorem tyX0_ok : ∀ k, k < 5 → parseFieldDescriptor (TX0 k).2.2.1 = some (tyX0 k) := by decide +kernel
abbrev cX0_init : ByteArray := prog_2_method_1_code
def yX0_init : MethodName := ⟨RX0, "<init>", "()V"⟩
abbrev cX0_turnTo : ByteArray := prog_2_method_2_code
def yX0_turnTo : MethodName := ⟨RX0, "turnTo", "(II)V"⟩
abbrev cX0_howMany : ByteArray := prog_2_method_3_code
def yX0_howMany : MethodName := ⟨RX0, "howMany", "(II)I"⟩
abbrev cX0_numberOf : ByteArray := prog_2_method_4_code
def yX0_numberOf : MethodName := ⟨RX0, "numberOf", "(IIII)I"⟩
abbrev cX0_leastLength : ByteArray := prog_2_method_5_code
def yX0_leastLength : MethodName := ⟨RX0, "leastLength", "(I)I"⟩
abbrev cX0_leastBound : ByteArray := prog_2_method_6_code
def yX0_leastBound : MethodName := ⟨RX0, "leastBound", "(I)I"⟩
abbrev cX0_lengthOfLeastBound : ByteArray := prog_2_method_7_code
def yX0_lengthOfLeastBound : MethodName := ⟨RX0, "lengthOfLeastBound", "()I"⟩
abbrev cX0_copyFirst : ByteArray := prog_2_method_8_code
def yX0_copyFirst : MethodName := ⟨RX0, "copyFirst", "(IILUnitSums$Row;)Z"⟩
abbrev cX0_pick : ByteArray := prog_2_method_9_code
def yX0_pick : MethodName := ⟨RX0, "pick", "(III)I"⟩
abbrev cX0_greatest : ByteArray := prog_2_method_10_code
def yX0_greatest : MethodName := ⟨RX0, "greatest", "(I)I"⟩
abbrev cX0_unpack : ByteArray := prog_2_method_11_code
def yX0_unpack : MethodName := ⟨RX0, "unpack", "(III)I"⟩
abbrev cX0_seek : ByteArray := prog_2_method_12_code
def yX0_seek : MethodName := ⟨RX0, "seek", "(I)I"⟩
abbrev cX0_extend : ByteArray := prog_2_method_13_code
def yX0_extend : MethodName := ⟨RX0, "extend", "(IIIJJ)V"⟩
abbrev cX0_end : ByteArray := prog_2_method_14_code
def yX0_end : MethodName := ⟨RX0, "end", "(IIIJJ)V"⟩
def RX1 : String := "UnitSums$History"
def TX1 : u_T := fun k => match k with
  | 0 => ("UnitSums$History", "rows", "[LUnitSums$Row;", true)
  | _ => ("UnitSums$History", "length", "I", false)
def tyX1 : Nat → FieldType := fun k => match k with
  | 0 => .array (.object "UnitSums$Row")
  | _ => .int
abbrev wsX10 : List Cond := u_ws RX1 TX1 2
theorem nmX1 : ∀ a, a < 2 → ∀ b, b < 2 → a ≠ b → (TX1 a).2.1 ≠ (TX1 b).2.1 := by decide +kernel
theorem tyX1_ok : ∀ k, k < 2 → parseFieldDescriptor (TX1 k).2.2.1 = some (tyX1 k) := by decide +kernel
abbrev cX1_init : ByteArray := prog_3_method_1_code
def yX1_init : MethodName := ⟨RX1, "<init>", "()V"⟩
abbrev cX1_length : ByteArray := prog_3_method_2_code
def yX1_length : MethodName := ⟨RX1, "length", "()I"⟩
abbrev cX1_wipe : ByteArray := prog_3_method_3_code
def yX1_wipe : MethodName := ⟨RX1, "wipe", "()V"⟩
abbrev cX1_store : ByteArray := prog_3_method_4_code
def yX1_store : MethodName := ⟨RX1, "store", "(LUnitSums$Row;)V"⟩
abbrev cX1_loseOldest : ByteArray := prog_3_method_5_code
def yX1_loseOldest : MethodName := ⟨RX1, "loseOldest", "()V"⟩
abbrev cX1_restore : ByteArray := prog_3_method_6_code
def yX1_restore : MethodName := ⟨RX1, "restore", "(LUnitSums$Row;)Z"⟩
def RX2 : String := "UnitSums$Row"
def TX2 : u_T := fun k => match k with
  | 0 => ("UnitSums$Row", "numbers", "[I", true)
  | _ => ("UnitSums$Row", "length", "I", false)
def tyX2 : Nat → FieldType := fun k => match k with
  | 0 => .array .int
  | _ => .int
abbrev wsX20 : List Cond := u_ws RX2 TX2 2
theorem nmX2 : ∀ a, a < 2 → ∀ b, b < 2 → a ≠ b → (TX2 a).2.1 ≠ (TX2 b).2.1 := by decide +kernel
theorem tyX2_ok : ∀ k, k < 2 → parseFieldDescriptor (TX2 k).2.2.1 = some (tyX2 k) := by decide +kernel
abbrev cX2_init : ByteArray := prog_4_method_1_code
def yX2_init : MethodName := ⟨RX2, "<init>", "()V"⟩
abbrev cX2_length : ByteArray := prog_4_method_2_code
def yX2_length : MethodName := ⟨RX2, "length", "()I"⟩
abbrev cX2_reaches : ByteArray := prog_4_method_3_code
def yX2_reaches : MethodName := ⟨RX2, "reaches", "(I)Z"⟩
abbrev cX2_at : ByteArray := prog_4_method_4_code
def yX2_at : MethodName := ⟨RX2, "at", "(I)I"⟩
abbrev cX2_wipe : ByteArray := prog_4_method_5_code
def yX2_wipe : MethodName := ⟨RX2, "wipe", "()V"⟩
abbrev cX2_copy : ByteArray := prog_4_method_6_code
def yX2_copy : MethodName := ⟨RX2, "copy", "(LUnitSums$Row;)V"⟩
abbrev cX2_drop : ByteArray := prog_4_method_7_code
def yX2_drop : MethodName := ⟨RX2, "drop", "(I)V"⟩
abbrev cX2_insert : ByteArray := prog_4_method_8_code
def yX2_insert : MethodName := ⟨RX2, "insert", "(J)Z"⟩
abbrev cX2_adds : ByteArray := prog_4_method_9_code
def yX2_adds : MethodName := ⟨RX2, "adds", "(II)Z"⟩
def RX3 : String := "UnitSums$Script"
def TX3 : u_T := fun k => match k with
  | 0 => ("UnitSums$Script", "letters", "[C", true)
  | 1 => ("UnitSums$Script", "length", "I", false)
  | 2 => ("UnitSums$Script", "place", "I", false)
  | 3 => ("UnitSums$Script", "token", "I", false)
  | 4 => ("UnitSums$Script", "start", "I", false)
  | 5 => ("UnitSums$Script", "value", "I", false)
  | 6 => ("UnitSums$Script", "above", "I", false)
  | 7 => ("UnitSums$Script", "below", "I", false)
  | _ => ("UnitSums$Script", "told", "LUnitSums$Row;", true)
def tyX3 : Nat → FieldType := fun k => match k with
  | 0 => .array .char
  | 1 => .int
  | 2 => .int
  | 3 => .int
  | 4 => .int
  | 5 => .int
  | 6 => .int
  | 7 => .int
  | _ => .object "UnitSums$Row"
abbrev wsX30 : List Cond := u_ws RX3 TX3 9
theorem nmX3 : ∀ a, a < 9 → ∀ b, b < 9 → a ≠ b → (TX3 a).2.1 ≠ (TX3 b).2.1 := by decide +kernel
theorem tyX3_ok : ∀ k, k < 9 → parseFieldDescriptor (TX3 k).2.2.1 = some (tyX3 k) := by decide +kernel
abbrev cX3_init : ByteArray := prog_5_method_1_code
def yX3_init : MethodName := ⟨RX3, "<init>", "()V"⟩
abbrev cX3_length : ByteArray := prog_5_method_2_code
def yX3_length : MethodName := ⟨RX3, "length", "()I"⟩
abbrev cX3_wipe : ByteArray := prog_5_method_3_code
def yX3_wipe : MethodName := ⟨RX3, "wipe", "()V"⟩
abbrev cX3_append : ByteArray := prog_5_method_4_code
def yX3_append : MethodName := ⟨RX3, "append", "(I)Z"⟩
abbrev cX3_toldP : ByteArray := prog_5_method_5_code
def yX3_toldP : MethodName := ⟨RX3, "toldP", "()I"⟩
abbrev cX3_toldQ : ByteArray := prog_5_method_6_code
def yX3_toldQ : MethodName := ⟨RX3, "toldQ", "()I"⟩
abbrev cX3_toldTerms : ByteArray := prog_5_method_7_code
def yX3_toldTerms : MethodName := ⟨RX3, "toldTerms", "()LUnitSums$Row;"⟩
abbrev cX3_read : ByteArray := prog_5_method_8_code
def yX3_read : MethodName := ⟨RX3, "read", "()I"⟩
abbrev cX3_follow : ByteArray := prog_5_method_9_code
def yX3_follow : MethodName := ⟨RX3, "follow", "(I)I"⟩
abbrev cX3_isNumberTo : ByteArray := prog_5_method_10_code
def yX3_isNumberTo : MethodName := ⟨RX3, "isNumberTo", "(I)Z"⟩
abbrev cX3_takeAbove : ByteArray := prog_5_method_11_code
def yX3_takeAbove : MethodName := ⟨RX3, "takeAbove", "()I"⟩
abbrev cX3_takeBelow : ByteArray := prog_5_method_12_code
def yX3_takeBelow : MethodName := ⟨RX3, "takeBelow", "()I"⟩
abbrev cX3_takeTerm : ByteArray := prog_5_method_13_code
def yX3_takeTerm : MethodName := ⟨RX3, "takeTerm", "()I"⟩
abbrev cX3_endSum : ByteArray := prog_5_method_14_code
def yX3_endSum : MethodName := ⟨RX3, "endSum", "()I"⟩
abbrev cX3_readToken : ByteArray := prog_5_method_15_code
def yX3_readToken : MethodName := ⟨RX3, "readToken", "()V"⟩
abbrev cX3_kindOf : ByteArray := prog_5_method_16_code
def yX3_kindOf : MethodName := ⟨RX3, "kindOf", "(C)I"⟩
abbrev cX3_readNumber : ByteArray := prog_5_method_17_code
def yX3_readNumber : MethodName := ⟨RX3, "readNumber", "()V"⟩
abbrev cX3_isFigure : ByteArray := prog_5_method_18_code
def yX3_isFigure : MethodName := ⟨RX3, "isFigure", "(C)Z"⟩
def RX4 : String := "UnitSums$Witness"
def TX4 : u_T := fun k => match k with
  | 0 => ("UnitSums$Witness", "numerators", "[I", true)
  | 1 => ("UnitSums$Witness", "numbers", "[I", true)
  | 2 => ("UnitSums$Witness", "split", "[Z", true)
  | _ => ("UnitSums$Witness", "length", "I", false)
def tyX4 : Nat → FieldType := fun k => match k with
  | 0 => .array .int
  | 1 => .array .int
  | 2 => .array .boolean
  | _ => .int
abbrev wsX40 : List Cond := u_ws RX4 TX4 4
theorem nmX4 : ∀ a, a < 4 → ∀ b, b < 4 → a ≠ b → (TX4 a).2.1 ≠ (TX4 b).2.1 := by decide +kernel
theorem tyX4_ok : ∀ k, k < 4 → parseFieldDescriptor (TX4 k).2.2.1 = some (tyX4 k) := by decide +kernel
abbrev cX4_init : ByteArray := prog_6_method_1_code
def yX4_init : MethodName := ⟨RX4, "<init>", "()V"⟩
abbrev cX4_length : ByteArray := prog_6_method_2_code
def yX4_length : MethodName := ⟨RX4, "length", "()I"⟩
abbrev cX4_wipe : ByteArray := prog_6_method_3_code
def yX4_wipe : MethodName := ⟨RX4, "wipe", "()V"⟩
abbrev cX4_add : ByteArray := prog_6_method_4_code
def yX4_add : MethodName := ⟨RX4, "add", "(IIZ)Z"⟩
abbrev cX4_suspects : ByteArray := prog_6_method_5_code
def yX4_suspects : MethodName := ⟨RX4, "suspects", "()I"⟩
def RX5 : String := "UnitSums"
def TX5 : u_T := fun k => match k with
  | 0 => ("UnitSums", "p", "I", false)
  | 1 => ("UnitSums", "q", "I", false)
  | 2 => ("UnitSums", "terms", "LUnitSums$Row;", true)
  | 3 => ("UnitSums", "draft", "LUnitSums$Row;", true)
  | 4 => ("UnitSums", "script", "LUnitSums$Script;", true)
  | 5 => ("UnitSums", "history", "LUnitSums$History;", true)
  | 6 => ("UnitSums", "images", "[LUnitSums$Row;", true)
  | 7 => ("UnitSums", "kept", "[Z", true)
  | 8 => ("UnitSums", "finder", "LUnitSums$Finder;", true)
  | _ => ("UnitSums", "witness", "LUnitSums$Witness;", true)
def tyX5 : Nat → FieldType := fun k => match k with
  | 0 => .int
  | 1 => .int
  | 2 => .object "UnitSums$Row"
  | 3 => .object "UnitSums$Row"
  | 4 => .object "UnitSums$Script"
  | 5 => .object "UnitSums$History"
  | 6 => .array (.object "UnitSums$Row")
  | 7 => .array .boolean
  | 8 => .object "UnitSums$Finder"
  | _ => .object "UnitSums$Witness"
abbrev wsX50 : List Cond := u_ws RX5 TX5 10
theorem nmX5 : ∀ a, a < 10 → ∀ b, b < 10 → a ≠ b → (TX5 a).2.1 ≠ (TX5 b).2.1 := by decide +kernel
theorem tyX5_ok : ∀ k, k < 10 → parseFieldDescriptor (TX5 k).2.2.1 = some (tyX5 k) := by decide +kernel
abbrev cX5_init : ByteArray := prog_1_method_1_code
def yX5_init : MethodName := ⟨RX5, "<init>", "()V"⟩
abbrev cX5_type : ByteArray := prog_1_method_2_code
def yX5_type : MethodName := ⟨RX5, "type", "(I)I"⟩
abbrev cX5_clear : ByteArray := prog_1_method_3_code
def yX5_clear : MethodName := ⟨RX5, "clear", "()I"⟩
abbrev cX5_fraction : ByteArray := prog_1_method_4_code
def yX5_fraction : MethodName := ⟨RX5, "fraction", "()I"⟩
abbrev cX5_makes : ByteArray := prog_1_method_5_code
def yX5_makes : MethodName := ⟨RX5, "makes", "(I)I"⟩
abbrev cX5_splits : ByteArray := prog_1_method_6_code
def yX5_splits : MethodName := ⟨RX5, "splits", "(II)I"⟩
abbrev cX5_joins : ByteArray := prog_1_method_7_code
def yX5_joins : MethodName := ⟨RX5, "joins", "(II)I"⟩
abbrev cX5_undo : ByteArray := prog_1_method_8_code
def yX5_undo : MethodName := ⟨RX5, "undo", "()I"⟩
abbrev cX5_term : ByteArray := prog_1_method_9_code
def yX5_term : MethodName := ⟨RX5, "term", "(I)I"⟩
abbrev cX5_greedy : ByteArray := prog_1_method_10_code
def yX5_greedy : MethodName := ⟨RX5, "greedy", "(II)I"⟩
abbrev cX5_sums : ByteArray := prog_1_method_11_code
def yX5_sums : MethodName := ⟨RX5, "sums", "(II)I"⟩
abbrev cX5_sum : ByteArray := prog_1_method_12_code
def yX5_sum : MethodName := ⟨RX5, "sum", "(IIII)I"⟩
abbrev cX5_fewest : ByteArray := prog_1_method_13_code
def yX5_fewest : MethodName := ⟨RX5, "fewest", "(I)I"⟩
abbrev cX5_bound : ByteArray := prog_1_method_14_code
def yX5_bound : MethodName := ⟨RX5, "bound", "(I)I"⟩
abbrev cX5_holds : ByteArray := prog_1_method_15_code
def yX5_holds : MethodName := ⟨RX5, "holds", "(III)I"⟩
abbrev cX5_covered : ByteArray := prog_1_method_16_code
def yX5_covered : MethodName := ⟨RX5, "covered", "(III)I"⟩
abbrev cX5_open : ByteArray := prog_1_method_17_code
def yX5_open : MethodName := ⟨RX5, "open", "(II)I"⟩
abbrev cX5_sees : ByteArray := prog_1_method_18_code
def yX5_sees : MethodName := ⟨RX5, "sees", "(III)I"⟩
abbrev cX5_forget : ByteArray := prog_1_method_19_code
def yX5_forget : MethodName := ⟨RX5, "forget", "()I"⟩
abbrev cX5_unseen : ByteArray := prog_1_method_20_code
def yX5_unseen : MethodName := ⟨RX5, "unseen", "()I"⟩
abbrev cX5_ask : ByteArray := prog_1_method_21_code
def yX5_ask : MethodName := ⟨RX5, "ask", "(I)I"⟩
abbrev cX5_keep : ByteArray := prog_1_method_22_code
def yX5_keep : MethodName := ⟨RX5, "keep", "(I)I"⟩
abbrev cX5_back : ByteArray := prog_1_method_23_code
def yX5_back : MethodName := ⟨RX5, "back", "(I)I"⟩
abbrev cX5_count : ByteArray := prog_1_method_24_code
def yX5_count : MethodName := ⟨RX5, "count", "(I)I"⟩
abbrev cX5_isLength : ByteArray := prog_1_method_25_code
def yX5_isLength : MethodName := ⟨RX5, "isLength", "(I)Z"⟩
abbrev cX5_isBound : ByteArray := prog_1_method_26_code
def yX5_isBound : MethodName := ⟨RX5, "isBound", "(I)Z"⟩
abbrev cX5_isNumerator : ByteArray := prog_1_method_27_code
def yX5_isNumerator : MethodName := ⟨RX5, "isNumerator", "(I)Z"⟩
abbrev cX5_isChoice : ByteArray := prog_1_method_28_code
def yX5_isChoice : MethodName := ⟨RX5, "isChoice", "(I)Z"⟩
abbrev cX5_startAnew : ByteArray := prog_1_method_29_code
def yX5_startAnew : MethodName := ⟨RX5, "startAnew", "()V"⟩
abbrev cX5_takeDraft : ByteArray := prog_1_method_30_code
def yX5_takeDraft : MethodName := ⟨RX5, "takeDraft", "()I"⟩
abbrev cX5_draftBy : ByteArray := prog_1_method_31_code
def yX5_draftBy : MethodName := ⟨RX5, "draftBy", "(I)Z"⟩
abbrev cX5_splitInto : ByteArray := prog_1_method_32_code
def yX5_splitInto : MethodName := ⟨RX5, "splitInto", "(LUnitSums$Row;JI)Z"⟩
abbrev cX5_oneForTwo : ByteArray := prog_1_method_33_code
def yX5_oneForTwo : MethodName := ⟨RX5, "oneForTwo", "(JJ)I"⟩
abbrev cX5_takeGreedily : ByteArray := prog_1_method_34_code
def yX5_takeGreedily : MethodName := ⟨RX5, "takeGreedily", "(IIZLUnitSums$Row;)Z"⟩
abbrev cX5_commonDivisor : ByteArray := prog_1_method_35_code
def yX5_commonDivisor : MethodName := ⟨RX5, "commonDivisor", "(JJ)J"⟩
abbrev cX5_isSplit : ByteArray := prog_1_method_36_code
def yX5_isSplit : MethodName := ⟨RX5, "isSplit", "(III)Z"⟩
abbrev cX5_divides : ByteArray := prog_1_method_37_code
def yX5_divides : MethodName := ⟨RX5, "divides", "(II)Z"⟩
abbrev cX5_splitters : ByteArray := prog_1_method_38_code
def yX5_splitters : MethodName := ⟨RX5, "splitters", "(II)I"⟩
abbrev cX5_isCovered : ByteArray := prog_1_method_39_code
def yX5_isCovered : MethodName := ⟨RX5, "isCovered", "(IIII)Z"⟩
abbrev cX5_bestQuestion : ByteArray := prog_1_method_40_code
def yX5_bestQuestion : MethodName := ⟨RX5, "bestQuestion", "(II)I"⟩
def RX6 : String := "UnitSumsModel"
def TX6 : u_T := fun k => match k with
  | 0 => ("UnitSumsModel", "w", "[I", true)
  | 1 => ("UnitSumsModel", "isKept", "[Z", true)
  | 2 => ("UnitSumsModel", "undos", "I", false)
  | 3 => ("UnitSumsModel", "upper", "I", false)
  | 4 => ("UnitSumsModel", "lower", "I", false)
  | 5 => ("UnitSumsModel", "seenFor", "[I", true)
  | 6 => ("UnitSumsModel", "seenNumber", "[I", true)
  | 7 => ("UnitSumsModel", "seenSplit", "[I", true)
  | 8 => ("UnitSumsModel", "seen", "I", false)
  | 9 => ("UnitSumsModel", "text", "[I", true)
  | 10 => ("UnitSumsModel", "letters", "I", false)
  | 11 => ("UnitSumsModel", "here", "I", false)
  | 12 => ("UnitSumsModel", "begin", "I", false)
  | 13 => ("UnitSumsModel", "token", "I", false)
  | 14 => ("UnitSumsModel", "items", "I", false)
  | 15 => ("UnitSumsModel", "newUpper", "I", false)
  | 16 => ("UnitSumsModel", "newLower", "I", false)
  | 17 => ("UnitSumsModel", "newMany", "I", false)
  | 18 => ("UnitSumsModel", "newTerm", "[I", true)
  | 19 => ("UnitSumsModel", "made", "[I", true)
  | 20 => ("UnitSumsModel", "leftUpper", "[J", true)
  | 21 => ("UnitSumsModel", "leftLower", "[J", true)
  | 22 => ("UnitSumsModel", "row", "[I", true)
  | 23 => ("UnitSumsModel", "wanted", "[I", true)
  | _ => ("UnitSumsModel", "leastTop", "I", false)
def tyX6 : Nat → FieldType := fun k => match k with
  | 0 => .array .int
  | 1 => .array .boolean
  | 2 => .int
  | 3 => .int
  | 4 => .int
  | 5 => .array .int
  | 6 => .array .int
  | 7 => .array .int
  | 8 => .int
  | 9 => .array .int
  | 10 => .int
  | 11 => .int
  | 12 => .int
  | 13 => .int
  | 14 => .int
  | 15 => .int
  | 16 => .int
  | 17 => .int
  | 18 => .array .int
  | 19 => .array .int
  | 20 => .array .long
  | 21 => .array .long
  | 22 => .array .int
  | 23 => .array .int
  | _ => .int
abbrev wsX60 : List Cond := u_ws RX6 TX6 25
theorem nmX6 : ∀ a, a < 25 → ∀ b, b < 25 → a ≠ b → (TX6 a).2.1 ≠ (TX6 b).2.1 := by decide +kernel
theorem tyX6_ok : ∀ k, k < 25 → parseFieldDescriptor (TX6 k).2.2.1 = some (tyX6 k) := by decide +kernel
abbrev cX6_init : ByteArray := prog_8_method_1_code
def yX6_init : MethodName := ⟨RX6, "<init>", "()V"⟩
abbrev cX6_in : ByteArray := prog_8_method_3_code
def yX6_in : MethodName := ⟨RX6, "in", "(JJJ)Z"⟩
abbrev cX6_copy : ByteArray := prog_8_method_4_code
def yX6_copy : MethodName := ⟨RX6, "copy", "(II)V"⟩
abbrev cX6_minds : ByteArray := prog_8_method_5_code
def yX6_minds : MethodName := ⟨RX6, "minds", "()V"⟩
abbrev cX6_isDigit : ByteArray := prog_8_method_6_code
def yX6_isDigit : MethodName := ⟨RX6, "isDigit", "(I)Z"⟩
abbrev cX6_take : ByteArray := prog_8_method_7_code
def yX6_take : MethodName := ⟨RX6, "take", "()V"⟩
abbrev cX6_isNumber : ByteArray := prog_8_method_8_code
def yX6_isNumber : MethodName := ⟨RX6, "isNumber", "(II)Z"⟩
abbrev cX6_readsEnd : ByteArray := prog_8_method_9_code
def yX6_readsEnd : MethodName := ⟨RX6, "readsEnd", "()Z"⟩
abbrev cX6_readsFraction : ByteArray := prog_8_method_10_code
def yX6_readsFraction : MethodName := ⟨RX6, "readsFraction", "()Z"⟩
abbrev cX6_isWhole : ByteArray := prog_8_method_11_code
def yX6_isWhole : MethodName := ⟨RX6, "isWhole", "()Z"⟩
abbrev cX6_readsSum : ByteArray := prog_8_method_12_code
def yX6_readsSum : MethodName := ⟨RX6, "readsSum", "()Z"⟩
abbrev cX6_reads : ByteArray := prog_8_method_13_code
def yX6_reads : MethodName := ⟨RX6, "reads", "()Z"⟩
abbrev cX6_type : ByteArray := prog_8_method_14_code
def yX6_type : MethodName := ⟨RX6, "type", "(I)I"⟩
abbrev cX6_clear : ByteArray := prog_8_method_15_code
def yX6_clear : MethodName := ⟨RX6, "clear", "()I"⟩
abbrev cX6_fraction : ByteArray := prog_8_method_16_code
def yX6_fraction : MethodName := ⟨RX6, "fraction", "()I"⟩
abbrev cX6_common : ByteArray := prog_8_method_17_code
def yX6_common : MethodName := ⟨RX6, "common", "(JJ)J"⟩
abbrev cX6_least : ByteArray := prog_8_method_18_code
def yX6_least : MethodName := ⟨RX6, "least", "(I)I"⟩
abbrev cX6_goesThrough : ByteArray := prog_8_method_19_code
def yX6_goesThrough : MethodName := ⟨RX6, "goesThrough", "(III)I"⟩
abbrev cX6_few : ByteArray := prog_8_method_20_code
def yX6_few : MethodName := ⟨RX6, "few", "(I)I"⟩
abbrev cX6_top : ByteArray := prog_8_method_21_code
def yX6_top : MethodName := ⟨RX6, "top", "(I)I"⟩
abbrev cX6_firstOf : ByteArray := prog_8_method_22_code
def yX6_firstOf : MethodName := ⟨RX6, "firstOf", "(II)I"⟩
abbrev cX6_byLeastTop : ByteArray := prog_8_method_23_code
def yX6_byLeastTop : MethodName := ⟨RX6, "byLeastTop", "()I"⟩
abbrev cX6_greedy : ByteArray := prog_8_method_24_code
def yX6_greedy : MethodName := ⟨RX6, "greedy", "(II)I"⟩
abbrev cX6_sums : ByteArray := prog_8_method_25_code
def yX6_sums : MethodName := ⟨RX6, "sums", "(II)I"⟩
abbrev cX6_sum : ByteArray := prog_8_method_26_code
def yX6_sum : MethodName := ⟨RX6, "sum", "(IIII)I"⟩
abbrev cX6_fewest : ByteArray := prog_8_method_27_code
def yX6_fewest : MethodName := ⟨RX6, "fewest", "(I)I"⟩
abbrev cX6_bound : ByteArray := prog_8_method_28_code
def yX6_bound : MethodName := ⟨RX6, "bound", "(I)I"⟩
abbrev cX6_isTerm : ByteArray := prog_8_method_29_code
def yX6_isTerm : MethodName := ⟨RX6, "isTerm", "(I)Z"⟩
abbrev cX6_comes : ByteArray := prog_8_method_30_code
def yX6_comes : MethodName := ⟨RX6, "comes", "(I)V"⟩
abbrev cX6_goes : ByteArray := prog_8_method_31_code
def yX6_goes : MethodName := ⟨RX6, "goes", "(I)V"⟩
abbrev cX6_makes : ByteArray := prog_8_method_32_code
def yX6_makes : MethodName := ⟨RX6, "makes", "(I)I"⟩
abbrev cX6_part : ByteArray := prog_8_method_33_code
def yX6_part : MethodName := ⟨RX6, "part", "(JII)J"⟩
abbrev cX6_maySplit : ByteArray := prog_8_method_34_code
def yX6_maySplit : MethodName := ⟨RX6, "maySplit", "(II)Z"⟩
abbrev cX6_splits : ByteArray := prog_8_method_35_code
def yX6_splits : MethodName := ⟨RX6, "splits", "(II)I"⟩
abbrev cX6_joins : ByteArray := prog_8_method_36_code
def yX6_joins : MethodName := ⟨RX6, "joins", "(II)I"⟩
abbrev cX6_undo : ByteArray := prog_8_method_37_code
def yX6_undo : MethodName := ⟨RX6, "undo", "()I"⟩
abbrev cX6_term : ByteArray := prog_8_method_38_code
def yX6_term : MethodName := ⟨RX6, "term", "(I)I"⟩
abbrev cX6_isHeld : ByteArray := prog_8_method_39_code
def yX6_isHeld : MethodName := ⟨RX6, "isHeld", "(III)Z"⟩
abbrev cX6_held : ByteArray := prog_8_method_40_code
def yX6_held : MethodName := ⟨RX6, "held", "(II)I"⟩
abbrev cX6_holds : ByteArray := prog_8_method_41_code
def yX6_holds : MethodName := ⟨RX6, "holds", "(III)I"⟩
abbrev cX6_covered : ByteArray := prog_8_method_42_code
def yX6_covered : MethodName := ⟨RX6, "covered", "(III)I"⟩
abbrev cX6_open : ByteArray := prog_8_method_43_code
def yX6_open : MethodName := ⟨RX6, "open", "(II)I"⟩
abbrev cX6_sees : ByteArray := prog_8_method_44_code
def yX6_sees : MethodName := ⟨RX6, "sees", "(III)I"⟩
abbrev cX6_forget : ByteArray := prog_8_method_45_code
def yX6_forget : MethodName := ⟨RX6, "forget", "()I"⟩
abbrev cX6_unseen : ByteArray := prog_8_method_46_code
def yX6_unseen : MethodName := ⟨RX6, "unseen", "()I"⟩
abbrev cX6_ones : ByteArray := prog_8_method_47_code
def yX6_ones : MethodName := ⟨RX6, "ones", "(I)I"⟩
abbrev cX6_ask : ByteArray := prog_8_method_48_code
def yX6_ask : MethodName := ⟨RX6, "ask", "(I)I"⟩
abbrev cX6_keep : ByteArray := prog_8_method_49_code
def yX6_keep : MethodName := ⟨RX6, "keep", "(I)I"⟩
abbrev cX6_back : ByteArray := prog_8_method_50_code
def yX6_back : MethodName := ⟨RX6, "back", "(I)I"⟩
abbrev cX6_count : ByteArray := prog_8_method_51_code
def yX6_count : MethodName := ⟨RX6, "count", "(I)I"⟩
def RJ6 : String := "java/lang/Integer"
def TJ6 : u_T := fun k => match k with
  | _ => ("", "", "", false)
def tyJ6 : Nat → FieldType := fun k => match k with
  | _ => .int
abbrev wsJ60 : List Cond := u_ws RJ6 TJ6 0
theorem nmJ6 : ∀ a, a < 0 → ∀ b, b < 0 → a ≠ b → (TJ6 a).2.1 ≠ (TJ6 b).2.1 := by decide +kernel
theorem tyJ6_ok : ∀ k, k < 0 → parseFieldDescriptor (TJ6 k).2.2.1 = some (tyJ6 k) := by decide +kernel
abbrev cJ6_bitCount_0f7a4 : ByteArray := prog_9_method_49_code
def yJ6_bitCount_0f7a4 : MethodName := ⟨RJ6, "bitCount", "(I)I"⟩
def RJ9 : String := "java/lang/Math"
def TJ9 : u_T := fun k => match k with
  | _ => ("", "", "", false)
def tyJ9 : Nat → FieldType := fun k => match k with
  | _ => .int
abbrev wsJ90 : List Cond := u_ws RJ9 TJ9 0
theorem nmJ9 : ∀ a, a < 0 → ∀ b, b < 0 → a ≠ b → (TJ9 a).2.1 ≠ (TJ9 b).2.1 := by decide +kernel
theorem tyJ9_ok : ∀ k, k < 0 → parseFieldDescriptor (TJ9 k).2.2.1 = some (tyJ9 k) := by decide +kernel
abbrev cJ9_max_7cf53 : ByteArray := prog_10_method_65_code
def yJ9_max_7cf53 : MethodName := ⟨RJ9, "max", "(II)I"⟩
abbrev cJ9_max_f86c9 : ByteArray := prog_10_method_66_code
def yJ9_max_f86c9 : MethodName := ⟨RJ9, "max", "(JJ)J"⟩
abbrev cJ9_min_7cf53 : ByteArray := prog_10_method_69_code
def yJ9_min_7cf53 : MethodName := ⟨RJ9, "min", "(II)I"⟩
def RJ10 : String := "java/lang/System"
def TJ10 : u_T := fun k => match k with
  | _ => ("", "", "", false)
def tyJ10 : Nat → FieldType := fun k => match k with
  | _ => .int
abbrev wsJ100 : List Cond := u_ws RJ10 TJ10 0
theorem nmJ10 : ∀ a, a < 0 → ∀ b, b < 0 → a ≠ b → (TJ10 a).2.1 ≠ (TJ10 b).2.1 := by decide +kernel
theorem tyJ10_ok : ∀ k, k < 0 → parseFieldDescriptor (TJ10 k).2.2.1 = some (tyJ10 k) := by decide +kernel
def RL : String := "UnitSumsLaw"
abbrev cL_law : ByteArray := code
def yL_law : MethodName := ⟨RL, "law", "([I)Z"⟩
abbrev vwCl : List vw_C := [(RX0, TX0, 5), (RX1, TX1, 2), (RX2, TX2, 2), (RX3, TX3, 9), (RX4, TX4, 4), (RX5, TX5, 10), (RX6, TX6, 25)]
end
section
theorem dX0_init_0 : decode cX0_init 0 = .ok (.aload_n 0, 1) := by decide +kernel
theorem dX0_init_1 : decode cX0_init 1 = .ok (.invokespecial 3, 3) := by decide +kernel
theorem dX0_init_4 : decode cX0_init 4 = .ok (.aload_n 0, 1) := by decide +kernel
theorem dX0_init_5 : decode cX0_init 5 = .ok (.iconst 2, 1) := by decide +kernel
theorem dX0_init_6 : decode cX0_init 6 = .ok (.putfield 9, 3) := by decide +kernel
theorem dX0_init_9 : decode cX0_init 9 = .ok (.aload_n 0, 1) := by decide +kernel
theorem dX0_init_10 : decode cX0_init 10 = .ok (.iconst 3, 1) := by decide +kernel
theorem dX0_init_11 : decode cX0_init 11 = .ok (.putfield 15, 3) := by decide +kernel
theorem dX0_init_14 : decode cX0_init 14 = .ok (.aload_n 0, 1) := by decide +kernel
theorem dX0_init_15 : decode cX0_init 15 = .ok (.bipush 6, 2) := by decide +kernel
theorem dX0_init_17 : decode cX0_init 17 = .ok (.sipush 128, 3) := by decide +kernel
theorem dX0_init_20 : decode cX0_init 20 = .ok (.multianewarray 18 2, 4) := by decide +kernel
theorem dX0_init_24 : decode cX0_init 24 = .ok (.putfield 20, 3) := by decide +kernel
theorem dX0_init_27 : decode cX0_init 27 = .ok (.aload_n 0, 1) := by decide +kernel
theorem dX0_init_28 : decode cX0_init 28 = .ok (.bipush 6, 2) := by decide +kernel
theorem dX0_init_30 : decode cX0_init 30 = .ok (.newarray .int, 2) := by decide +kernel
theorem dX0_init_32 : decode cX0_init 32 = .ok (.putfield 23, 3) := by decide +kernel
theorem dX0_init_35 : decode cX0_init 35 = .ok (.aload_n 0, 1) := by decide +kernel
theorem dX0_init_36 : decode cX0_init 36 = .ok (.bipush 6, 2) := by decide +kernel
theorem dX0_init_38 : decode cX0_init 38 = .ok (.newarray .boolean, 2) := by decide +kernel
theorem dX0_init_40 : decode cX0_init 40 = .ok (.putfield 27, 3) := by decide +kernel
theorem dX0_init_43 : decode cX0_init 43 = .ok (.return_, 1) := by decide +kernel
theorem dX0_turnTo_0 : decode cX0_turnTo 0 = .ok (.aload_n 0, 1) := by decide +kernel
theorem dX0_turnTo_1 : decode cX0_turnTo 1 = .ok (.iload_n 1, 1) := by decide +kernel
theorem dX0_turnTo_2 : decode cX0_turnTo 2 = .ok (.putfield 9, 3) := by decide +kernel
theorem dX0_turnTo_5 : decode cX0_turnTo 5 = .ok (.aload_n 0, 1) := by decide +kernel
theorem dX0_turnTo_6 : decode cX0_turnTo 6 = .ok (.iload_n 2, 1) := by decide +kernel
theorem dX0_turnTo_7 : decode cX0_turnTo 7 = .ok (.putfield 15, 3) := by decide +kernel
theorem dX0_turnTo_10 : decode cX0_turnTo 10 = .ok (.iconst 1, 1) := by decide +kernel
theorem dX0_turnTo_11 : decode cX0_turnTo 11 = .ok (.istore_n 3, 1) := by decide +kernel
theorem dX0_turnTo_12 : decode cX0_turnTo 12 = .ok (.iload_n 3, 1) := by decide +kernel
theorem dX0_turnTo_13 : decode cX0_turnTo 13 = .ok (.iconst 5, 1) := by decide +kernel
theorem dX0_turnTo_14 : decode cX0_turnTo 14 = .ok (.if_icmp .gt 16, 3) := by decide +kernel
theorem dX0_turnTo_17 : decode cX0_turnTo 17 = .ok (.aload_n 0, 1) := by decide +kernel
theorem dX0_turnTo_18 : decode cX0_turnTo 18 = .ok (.getfield 27, 3) := by decide +kernel
theorem dX0_turnTo_21 : decode cX0_turnTo 21 = .ok (.iload_n 3, 1) := by decide +kernel
theorem dX0_turnTo_22 : decode cX0_turnTo 22 = .ok (.iconst 0, 1) := by decide +kernel
theorem dX0_turnTo_23 : decode cX0_turnTo 23 = .ok (.bastore, 1) := by decide +kernel
theorem dX0_turnTo_24 : decode cX0_turnTo 24 = .ok (.iinc 3 1, 3) := by decide +kernel
theorem dX0_turnTo_27 : decode cX0_turnTo 27 = .ok (.goto (-15), 3) := by decide +kernel
theorem dX0_turnTo_30 : decode cX0_turnTo 30 = .ok (.return_, 1) := by decide +kernel
theorem dX0_howMany_0 : decode cX0_howMany 0 = .ok (.iconst 0, 1) := by decide +kernel
theorem dX0_howMany_1 : decode cX0_howMany 1 = .ok (.istore_n 3, 1) := by decide +kernel
theorem dX0_howMany_2 : decode cX0_howMany 2 = .ok (.aload_n 0, 1) := by decide +kernel
theorem dX0_howMany_3 : decode cX0_howMany 3 = .ok (.iload_n 1, 1) := by decide +kernel
theorem dX0_howMany_4 : decode cX0_howMany 4 = .ok (.invokevirtual 31, 3) := by decide +kernel
theorem dX0_howMany_7 : decode cX0_howMany 7 = .ok (.istore 4, 2) := by decide +kernel
theorem dX0_howMany_9 : decode cX0_howMany 9 = .ok (.iconst 0, 1) := by decide +kernel
theorem dX0_howMany_10 : decode cX0_howMany 10 = .ok (.istore 5, 2) := by decide +kernel
theorem dX0_howMany_12 : decode cX0_howMany 12 = .ok (.iload 5, 2) := by decide +kernel
theorem dX0_howMany_14 : decode cX0_howMany 14 = .ok (.iload 4, 2) := by decide +kernel
theorem dX0_howMany_16 : decode cX0_howMany 16 = .ok (.if_icmp .ge 28, 3) := by decide +kernel
theorem dX0_howMany_19 : decode cX0_howMany 19 = .ok (.aload_n 0, 1) := by decide +kernel
theorem dX0_howMany_20 : decode cX0_howMany 20 = .ok (.getfield 20, 3) := by decide +kernel
theorem dX0_howMany_23 : decode cX0_howMany 23 = .ok (.iload_n 1, 1) := by decide +kernel
theorem dX0_howMany_24 : decode cX0_howMany 24 = .ok (.aaload, 1) := by decide +kernel
theorem dX0_howMany_25 : decode cX0_howMany 25 = .ok (.iload 5, 2) := by decide +kernel
theorem dX0_howMany_27 : decode cX0_howMany 27 = .ok (.iaload, 1) := by decide +kernel
theorem dX0_howMany_28 : decode cX0_howMany 28 = .ok (.invokestatic 35, 3) := by decide +kernel
theorem dX0_howMany_31 : decode cX0_howMany 31 = .ok (.iload_n 2, 1) := by decide +kernel
theorem dX0_howMany_32 : decode cX0_howMany 32 = .ok (.if_icmp .gt 6, 3) := by decide +kernel
theorem dX0_howMany_35 : decode cX0_howMany 35 = .ok (.iinc 3 1, 3) := by decide +kernel
theorem dX0_howMany_38 : decode cX0_howMany 38 = .ok (.iinc 5 1, 3) := by decide +kernel
theorem dX0_howMany_41 : decode cX0_howMany 41 = .ok (.goto (-29), 3) := by decide +kernel
theorem dX0_howMany_44 : decode cX0_howMany 44 = .ok (.iload_n 3, 1) := by decide +kernel
theorem dX0_howMany_45 : decode cX0_howMany 45 = .ok (.ireturn, 1) := by decide +kernel
theorem dX0_numberOf_0 : decode cX0_numberOf 0 = .ok (.aload_n 0, 1) := by decide +kernel
theorem dX0_numberOf_1 : decode cX0_numberOf 1 = .ok (.iload_n 1, 1) := by decide +kernel
theorem dX0_numberOf_2 : decode cX0_numberOf 2 = .ok (.iload_n 2, 1) := by decide +kernel
theorem dX0_numberOf_3 : decode cX0_numberOf 3 = .ok (.iload_n 3, 1) := by decide +kernel
theorem dX0_numberOf_4 : decode cX0_numberOf 4 = .ok (.invokevirtual 38, 3) := by decide +kernel
theorem dX0_numberOf_7 : decode cX0_numberOf 7 = .ok (.istore 5, 2) := by decide +kernel
theorem dX0_numberOf_9 : decode cX0_numberOf 9 = .ok (.iload 5, 2) := by decide +kernel
theorem dX0_numberOf_11 : decode cX0_numberOf 11 = .ok (.bipush (-9), 2) := by decide +kernel
theorem dX0_numberOf_13 : decode cX0_numberOf 13 = .ok (.if_icmp .eq 14, 3) := by decide +kernel
theorem dX0_numberOf_16 : decode cX0_numberOf 16 = .ok (.iload 4, 2) := by decide +kernel
theorem dX0_numberOf_18 : decode cX0_numberOf 18 = .ok (.ifCond .lt 9, 3) := by decide +kernel
theorem dX0_numberOf_21 : decode cX0_numberOf 21 = .ok (.iload 4, 2) := by decide +kernel
theorem dX0_numberOf_23 : decode cX0_numberOf 23 = .ok (.iload_n 1, 1) := by decide +kernel
theorem dX0_numberOf_24 : decode cX0_numberOf 24 = .ok (.if_icmp .lt 8, 3) := by decide +kernel
theorem dX0_numberOf_27 : decode cX0_numberOf 27 = .ok (.bipush (-9), 2) := by decide +kernel
theorem dX0_numberOf_29 : decode cX0_numberOf 29 = .ok (.goto 11, 3) := by decide +kernel
theorem dX0_numberOf_32 : decode cX0_numberOf 32 = .ok (.iload 5, 2) := by decide +kernel
theorem dX0_numberOf_34 : decode cX0_numberOf 34 = .ok (.iload_n 1, 1) := by decide +kernel
theorem dX0_numberOf_35 : decode cX0_numberOf 35 = .ok (.iload 4, 2) := by decide +kernel
theorem dX0_numberOf_37 : decode cX0_numberOf 37 = .ok (.invokestatic 42, 3) := by decide +kernel
theorem dX0_numberOf_40 : decode cX0_numberOf 40 = .ok (.ireturn, 1) := by decide +kernel
theorem dX0_leastLength_0 : decode cX0_leastLength 0 = .ok (.iconst 1, 1) := by decide +kernel
theorem dX0_leastLength_1 : decode cX0_leastLength 1 = .ok (.istore_n 2, 1) := by decide +kernel
theorem dX0_leastLength_2 : decode cX0_leastLength 2 = .ok (.iload_n 2, 1) := by decide +kernel
theorem dX0_leastLength_3 : decode cX0_leastLength 3 = .ok (.iconst 5, 1) := by decide +kernel
theorem dX0_leastLength_4 : decode cX0_leastLength 4 = .ok (.if_icmp .gt 20, 3) := by decide +kernel
theorem dX0_leastLength_7 : decode cX0_leastLength 7 = .ok (.aload_n 0, 1) := by decide +kernel
theorem dX0_leastLength_8 : decode cX0_leastLength 8 = .ok (.iload_n 2, 1) := by decide +kernel
theorem dX0_leastLength_9 : decode cX0_leastLength 9 = .ok (.iload_n 1, 1) := by decide +kernel
theorem dX0_leastLength_10 : decode cX0_leastLength 10 = .ok (.invokevirtual 45, 3) := by decide +kernel
theorem dX0_leastLength_13 : decode cX0_leastLength 13 = .ok (.ifCond .le 5, 3) := by decide +kernel
theorem dX0_leastLength_16 : decode cX0_leastLength 16 = .ok (.iload_n 2, 1) := by decide +kernel
theorem dX0_leastLength_17 : decode cX0_leastLength 17 = .ok (.ireturn, 1) := by decide +kernel
theorem dX0_leastLength_18 : decode cX0_leastLength 18 = .ok (.iinc 2 1, 3) := by decide +kernel
theorem dX0_leastLength_21 : decode cX0_leastLength 21 = .ok (.goto (-19), 3) := by decide +kernel
theorem dX0_leastLength_24 : decode cX0_leastLength 24 = .ok (.bipush (-9), 2) := by decide +kernel
theorem dX0_leastLength_26 : decode cX0_leastLength 26 = .ok (.ireturn, 1) := by decide +kernel
theorem dX0_leastBound_0 : decode cX0_leastBound 0 = .ok (.bipush (-9), 2) := by decide +kernel
theorem dX0_leastBound_2 : decode cX0_leastBound 2 = .ok (.istore_n 2, 1) := by decide +kernel
theorem dX0_leastBound_3 : decode cX0_leastBound 3 = .ok (.aload_n 0, 1) := by decide +kernel
theorem dX0_leastBound_4 : decode cX0_leastBound 4 = .ok (.iload_n 1, 1) := by decide +kernel
theorem dX0_leastBound_5 : decode cX0_leastBound 5 = .ok (.invokevirtual 31, 3) := by decide +kernel
theorem dX0_leastBound_8 : decode cX0_leastBound 8 = .ok (.istore_n 3, 1) := by decide +kernel
theorem dX0_leastBound_9 : decode cX0_leastBound 9 = .ok (.iconst 0, 1) := by decide +kernel
theorem dX0_leastBound_10 : decode cX0_leastBound 10 = .ok (.istore 4, 2) := by decide +kernel
theorem dX0_leastBound_12 : decode cX0_leastBound 12 = .ok (.iload 4, 2) := by decide +kernel
theorem dX0_leastBound_14 : decode cX0_leastBound 14 = .ok (.iload_n 3, 1) := by decide +kernel
theorem dX0_leastBound_15 : decode cX0_leastBound 15 = .ok (.if_icmp .ge 38, 3) := by decide +kernel
theorem dX0_leastBound_18 : decode cX0_leastBound 18 = .ok (.aload_n 0, 1) := by decide +kernel
theorem dX0_leastBound_19 : decode cX0_leastBound 19 = .ok (.getfield 20, 3) := by decide +kernel
theorem dX0_leastBound_22 : decode cX0_leastBound 22 = .ok (.iload_n 1, 1) := by decide +kernel
theorem dX0_leastBound_23 : decode cX0_leastBound 23 = .ok (.aaload, 1) := by decide +kernel
theorem dX0_leastBound_24 : decode cX0_leastBound 24 = .ok (.iload 4, 2) := by decide +kernel
theorem dX0_leastBound_26 : decode cX0_leastBound 26 = .ok (.iaload, 1) := by decide +kernel
theorem dX0_leastBound_27 : decode cX0_leastBound 27 = .ok (.invokestatic 35, 3) := by decide +kernel
theorem dX0_leastBound_30 : decode cX0_leastBound 30 = .ok (.istore 5, 2) := by decide +kernel
theorem dX0_leastBound_32 : decode cX0_leastBound 32 = .ok (.iload_n 2, 1) := by decide +kernel
theorem dX0_leastBound_33 : decode cX0_leastBound 33 = .ok (.bipush (-9), 2) := by decide +kernel
theorem dX0_leastBound_35 : decode cX0_leastBound 35 = .ok (.if_icmp .eq 9, 3) := by decide +kernel
theorem dX0_leastBound_38 : decode cX0_leastBound 38 = .ok (.iload 5, 2) := by decide +kernel
theorem dX0_leastBound_40 : decode cX0_leastBound 40 = .ok (.iload_n 2, 1) := by decide +kernel
theorem dX0_leastBound_41 : decode cX0_leastBound 41 = .ok (.if_icmp .ge 6, 3) := by decide +kernel
theorem dX0_leastBound_44 : decode cX0_leastBound 44 = .ok (.iload 5, 2) := by decide +kernel
theorem dX0_leastBound_46 : decode cX0_leastBound 46 = .ok (.istore_n 2, 1) := by decide +kernel
theorem dX0_leastBound_47 : decode cX0_leastBound 47 = .ok (.iinc 4 1, 3) := by decide +kernel
theorem dX0_leastBound_50 : decode cX0_leastBound 50 = .ok (.goto (-38), 3) := by decide +kernel
theorem dX0_leastBound_53 : decode cX0_leastBound 53 = .ok (.iload_n 2, 1) := by decide +kernel
theorem dX0_leastBound_54 : decode cX0_leastBound 54 = .ok (.ireturn, 1) := by decide +kernel
theorem dX0_lengthOfLeastBound_0 : decode cX0_lengthOfLeastBound 0 = .ok (.bipush (-9), 2) := by decide +kernel
theorem dX0_lengthOfLeastBound_2 : decode cX0_lengthOfLeastBound 2 = .ok (.istore_n 1, 1) := by decide +kernel
theorem dX0_lengthOfLeastBound_3 : decode cX0_lengthOfLeastBound 3 = .ok (.bipush 61, 2) := by decide +kernel
theorem dX0_lengthOfLeastBound_5 : decode cX0_lengthOfLeastBound 5 = .ok (.istore_n 2, 1) := by decide +kernel
theorem dX0_lengthOfLeastBound_6 : decode cX0_lengthOfLeastBound 6 = .ok (.iconst 1, 1) := by decide +kernel
theorem dX0_lengthOfLeastBound_7 : decode cX0_lengthOfLeastBound 7 = .ok (.istore_n 3, 1) := by decide +kernel
theorem dX0_lengthOfLeastBound_8 : decode cX0_lengthOfLeastBound 8 = .ok (.iload_n 3, 1) := by decide +kernel
theorem dX0_lengthOfLeastBound_9 : decode cX0_lengthOfLeastBound 9 = .ok (.iconst 5, 1) := by decide +kernel
theorem dX0_lengthOfLeastBound_10 : decode cX0_lengthOfLeastBound 10 = .ok (.if_icmp .gt 34, 3) := by decide +kernel
theorem dX0_lengthOfLeastBound_13 : decode cX0_lengthOfLeastBound 13 = .ok (.aload_n 0, 1) := by decide +kernel
theorem dX0_lengthOfLeastBound_14 : decode cX0_lengthOfLeastBound 14 = .ok (.iload_n 3, 1) := by decide +kernel
theorem dX0_lengthOfLeastBound_15 : decode cX0_lengthOfLeastBound 15 = .ok (.invokevirtual 49, 3) := by decide +kernel
theorem dX0_lengthOfLeastBound_18 : decode cX0_lengthOfLeastBound 18 = .ok (.istore 4, 2) := by decide +kernel
theorem dX0_lengthOfLeastBound_20 : decode cX0_lengthOfLeastBound 20 = .ok (.iload 4, 2) := by decide +kernel
theorem dX0_lengthOfLeastBound_22 : decode cX0_lengthOfLeastBound 22 = .ok (.bipush (-9), 2) := by decide +kernel
theorem dX0_lengthOfLeastBound_24 : decode cX0_lengthOfLeastBound 24 = .ok (.if_icmp .eq 14, 3) := by decide +kernel
theorem dX0_lengthOfLeastBound_27 : decode cX0_lengthOfLeastBound 27 = .ok (.iload 4, 2) := by decide +kernel
theorem dX0_lengthOfLeastBound_29 : decode cX0_lengthOfLeastBound 29 = .ok (.iload_n 2, 1) := by decide +kernel
theorem dX0_lengthOfLeastBound_30 : decode cX0_lengthOfLeastBound 30 = .ok (.if_icmp .ge 8, 3) := by decide +kernel
theorem dX0_lengthOfLeastBound_33 : decode cX0_lengthOfLeastBound 33 = .ok (.iload 4, 2) := by decide +kernel
theorem dX0_lengthOfLeastBound_35 : decode cX0_lengthOfLeastBound 35 = .ok (.istore_n 2, 1) := by decide +kernel
theorem dX0_lengthOfLeastBound_36 : decode cX0_lengthOfLeastBound 36 = .ok (.iload_n 3, 1) := by decide +kernel
theorem dX0_lengthOfLeastBound_37 : decode cX0_lengthOfLeastBound 37 = .ok (.istore_n 1, 1) := by decide +kernel
theorem dX0_lengthOfLeastBound_38 : decode cX0_lengthOfLeastBound 38 = .ok (.iinc 3 1, 3) := by decide +kernel
theorem dX0_lengthOfLeastBound_41 : decode cX0_lengthOfLeastBound 41 = .ok (.goto (-33), 3) := by decide +kernel
theorem dX0_lengthOfLeastBound_44 : decode cX0_lengthOfLeastBound 44 = .ok (.iload_n 1, 1) := by decide +kernel
theorem dX0_lengthOfLeastBound_45 : decode cX0_lengthOfLeastBound 45 = .ok (.ireturn, 1) := by decide +kernel
theorem dX0_copyFirst_0 : decode cX0_copyFirst 0 = .ok (.aload_n 0, 1) := by decide +kernel
theorem dX0_copyFirst_1 : decode cX0_copyFirst 1 = .ok (.iload_n 1, 1) := by decide +kernel
theorem dX0_copyFirst_2 : decode cX0_copyFirst 2 = .ok (.iload_n 2, 1) := by decide +kernel
theorem dX0_copyFirst_3 : decode cX0_copyFirst 3 = .ok (.iconst 0, 1) := by decide +kernel
theorem dX0_copyFirst_4 : decode cX0_copyFirst 4 = .ok (.invokevirtual 38, 3) := by decide +kernel
theorem dX0_copyFirst_7 : decode cX0_copyFirst 7 = .ok (.istore 4, 2) := by decide +kernel
theorem dX0_copyFirst_9 : decode cX0_copyFirst 9 = .ok (.iload 4, 2) := by decide +kernel
theorem dX0_copyFirst_11 : decode cX0_copyFirst 11 = .ok (.bipush (-9), 2) := by decide +kernel
theorem dX0_copyFirst_13 : decode cX0_copyFirst 13 = .ok (.if_icmp .ne 5, 3) := by decide +kernel
theorem dX0_copyFirst_16 : decode cX0_copyFirst 16 = .ok (.iconst 0, 1) := by decide +kernel
theorem dX0_copyFirst_17 : decode cX0_copyFirst 17 = .ok (.ireturn, 1) := by decide +kernel
theorem dX0_copyFirst_18 : decode cX0_copyFirst 18 = .ok (.aload_n 3, 1) := by decide +kernel
theorem dX0_copyFirst_19 : decode cX0_copyFirst 19 = .ok (.invokevirtual 52, 3) := by decide +kernel
theorem dX0_copyFirst_22 : decode cX0_copyFirst 22 = .ok (.iconst 0, 1) := by decide +kernel
theorem dX0_copyFirst_23 : decode cX0_copyFirst 23 = .ok (.istore 5, 2) := by decide +kernel
theorem dX0_copyFirst_25 : decode cX0_copyFirst 25 = .ok (.iload 5, 2) := by decide +kernel
theorem dX0_copyFirst_27 : decode cX0_copyFirst 27 = .ok (.iload_n 1, 1) := by decide +kernel
theorem dX0_copyFirst_28 : decode cX0_copyFirst 28 = .ok (.if_icmp .ge 23, 3) := by decide +kernel
theorem dX0_copyFirst_31 : decode cX0_copyFirst 31 = .ok (.aload_n 3, 1) := by decide +kernel
theorem dX0_copyFirst_32 : decode cX0_copyFirst 32 = .ok (.iload 4, 2) := by decide +kernel
theorem dX0_copyFirst_34 : decode cX0_copyFirst 34 = .ok (.iload_n 1, 1) := by decide +kernel
theorem dX0_copyFirst_35 : decode cX0_copyFirst 35 = .ok (.iload 5, 2) := by decide +kernel
theorem dX0_copyFirst_37 : decode cX0_copyFirst 37 = .ok (.invokestatic 42, 3) := by decide +kernel
theorem dX0_copyFirst_40 : decode cX0_copyFirst 40 = .ok (.i2l, 1) := by decide +kernel
theorem dX0_copyFirst_41 : decode cX0_copyFirst 41 = .ok (.invokevirtual 57, 3) := by decide +kernel
theorem dX0_copyFirst_44 : decode cX0_copyFirst 44 = .ok (.pop, 1) := by decide +kernel
theorem dX0_copyFirst_45 : decode cX0_copyFirst 45 = .ok (.iinc 5 1, 3) := by decide +kernel
theorem dX0_copyFirst_48 : decode cX0_copyFirst 48 = .ok (.goto (-23), 3) := by decide +kernel
theorem dX0_copyFirst_51 : decode cX0_copyFirst 51 = .ok (.iconst 1, 1) := by decide +kernel
theorem dX0_copyFirst_52 : decode cX0_copyFirst 52 = .ok (.ireturn, 1) := by decide +kernel
theorem dX0_pick_0 : decode cX0_pick 0 = .ok (.iconst 0, 1) := by decide +kernel
theorem dX0_pick_1 : decode cX0_pick 1 = .ok (.istore 4, 2) := by decide +kernel
theorem dX0_pick_3 : decode cX0_pick 3 = .ok (.aload_n 0, 1) := by decide +kernel
theorem dX0_pick_4 : decode cX0_pick 4 = .ok (.iload_n 1, 1) := by decide +kernel
theorem dX0_pick_5 : decode cX0_pick 5 = .ok (.invokevirtual 31, 3) := by decide +kernel
theorem dX0_pick_8 : decode cX0_pick 8 = .ok (.istore 5, 2) := by decide +kernel
theorem dX0_pick_10 : decode cX0_pick 10 = .ok (.iconst 0, 1) := by decide +kernel
theorem dX0_pick_11 : decode cX0_pick 11 = .ok (.istore 6, 2) := by decide +kernel
theorem dX0_pick_13 : decode cX0_pick 13 = .ok (.iload 6, 2) := by decide +kernel
theorem dX0_pick_15 : decode cX0_pick 15 = .ok (.iload 5, 2) := by decide +kernel
theorem dX0_pick_17 : decode cX0_pick 17 = .ok (.if_icmp .ge 44, 3) := by decide +kernel
theorem dX0_pick_20 : decode cX0_pick 20 = .ok (.aload_n 0, 1) := by decide +kernel
theorem dX0_pick_21 : decode cX0_pick 21 = .ok (.getfield 20, 3) := by decide +kernel
theorem dX0_pick_24 : decode cX0_pick 24 = .ok (.iload_n 1, 1) := by decide +kernel
theorem dX0_pick_25 : decode cX0_pick 25 = .ok (.aaload, 1) := by decide +kernel
theorem dX0_pick_26 : decode cX0_pick 26 = .ok (.iload 6, 2) := by decide +kernel
theorem dX0_pick_28 : decode cX0_pick 28 = .ok (.iaload, 1) := by decide +kernel
theorem dX0_pick_29 : decode cX0_pick 29 = .ok (.invokestatic 35, 3) := by decide +kernel
theorem dX0_pick_32 : decode cX0_pick 32 = .ok (.iload_n 2, 1) := by decide +kernel
theorem dX0_pick_33 : decode cX0_pick 33 = .ok (.if_icmp .gt 22, 3) := by decide +kernel
theorem dX0_pick_36 : decode cX0_pick 36 = .ok (.iload 4, 2) := by decide +kernel
theorem dX0_pick_38 : decode cX0_pick 38 = .ok (.iload_n 3, 1) := by decide +kernel
theorem dX0_pick_39 : decode cX0_pick 39 = .ok (.if_icmp .ne 13, 3) := by decide +kernel
theorem dX0_pick_42 : decode cX0_pick 42 = .ok (.aload_n 0, 1) := by decide +kernel
theorem dX0_pick_43 : decode cX0_pick 43 = .ok (.getfield 20, 3) := by decide +kernel
theorem dX0_pick_46 : decode cX0_pick 46 = .ok (.iload_n 1, 1) := by decide +kernel
theorem dX0_pick_47 : decode cX0_pick 47 = .ok (.aaload, 1) := by decide +kernel
theorem dX0_pick_48 : decode cX0_pick 48 = .ok (.iload 6, 2) := by decide +kernel
theorem dX0_pick_50 : decode cX0_pick 50 = .ok (.iaload, 1) := by decide +kernel
theorem dX0_pick_51 : decode cX0_pick 51 = .ok (.ireturn, 1) := by decide +kernel
theorem dX0_pick_52 : decode cX0_pick 52 = .ok (.iinc 4 1, 3) := by decide +kernel
theorem dX0_pick_55 : decode cX0_pick 55 = .ok (.iinc 6 1, 3) := by decide +kernel
theorem dX0_pick_58 : decode cX0_pick 58 = .ok (.goto (-45), 3) := by decide +kernel
theorem dX0_pick_61 : decode cX0_pick 61 = .ok (.bipush (-9), 2) := by decide +kernel
theorem dX0_pick_63 : decode cX0_pick 63 = .ok (.ireturn, 1) := by decide +kernel
theorem dX0_greatest_0 : decode cX0_greatest 0 = .ok (.iload_n 0, 1) := by decide +kernel
theorem dX0_greatest_1 : decode cX0_greatest 1 = .ok (.bipush 63, 2) := by decide +kernel
theorem dX0_greatest_3 : decode cX0_greatest 3 = .ok (.iand, 1) := by decide +kernel
theorem dX0_greatest_4 : decode cX0_greatest 4 = .ok (.ireturn, 1) := by decide +kernel
theorem dX0_unpack_0 : decode cX0_unpack 0 = .ok (.iload_n 0, 1) := by decide +kernel
theorem dX0_unpack_1 : decode cX0_unpack 1 = .ok (.bipush 6, 2) := by decide +kernel
theorem dX0_unpack_3 : decode cX0_unpack 3 = .ok (.iload_n 1, 1) := by decide +kernel
theorem dX0_unpack_4 : decode cX0_unpack 4 = .ok (.iconst 1, 1) := by decide +kernel
theorem dX0_unpack_5 : decode cX0_unpack 5 = .ok (.isub, 1) := by decide +kernel
theorem dX0_unpack_6 : decode cX0_unpack 6 = .ok (.iload_n 2, 1) := by decide +kernel
theorem dX0_unpack_7 : decode cX0_unpack 7 = .ok (.isub, 1) := by decide +kernel
theorem dX0_unpack_8 : decode cX0_unpack 8 = .ok (.imul, 1) := by decide +kernel
theorem dX0_unpack_9 : decode cX0_unpack 9 = .ok (.ishr, 1) := by decide +kernel
theorem dX0_unpack_10 : decode cX0_unpack 10 = .ok (.bipush 63, 2) := by decide +kernel
theorem dX0_unpack_12 : decode cX0_unpack 12 = .ok (.iand, 1) := by decide +kernel
theorem dX0_unpack_13 : decode cX0_unpack 13 = .ok (.ireturn, 1) := by decide +kernel
theorem dX0_seek_0 : decode cX0_seek 0 = .ok (.iload_n 1, 1) := by decide +kernel
theorem dX0_seek_1 : decode cX0_seek 1 = .ok (.invokestatic 61, 3) := by decide +kernel
theorem dX0_seek_4 : decode cX0_seek 4 = .ok (.ifCond .ne 5, 3) := by decide +kernel
theorem dX0_seek_7 : decode cX0_seek 7 = .ok (.iconst 0, 1) := by decide +kernel
theorem dX0_seek_8 : decode cX0_seek 8 = .ok (.ireturn, 1) := by decide +kernel
theorem dX0_seek_9 : decode cX0_seek 9 = .ok (.aload_n 0, 1) := by decide +kernel
theorem dX0_seek_10 : decode cX0_seek 10 = .ok (.getfield 27, 3) := by decide +kernel
theorem dX0_seek_13 : decode cX0_seek 13 = .ok (.iload_n 1, 1) := by decide +kernel
theorem dX0_seek_14 : decode cX0_seek 14 = .ok (.baload, 1) := by decide +kernel
theorem dX0_seek_15 : decode cX0_seek 15 = .ok (.ifCond .ne 34, 3) := by decide +kernel
theorem dX0_seek_18 : decode cX0_seek 18 = .ok (.aload_n 0, 1) := by decide +kernel
theorem dX0_seek_19 : decode cX0_seek 19 = .ok (.getfield 27, 3) := by decide +kernel
theorem dX0_seek_22 : decode cX0_seek 22 = .ok (.iload_n 1, 1) := by decide +kernel
theorem dX0_seek_23 : decode cX0_seek 23 = .ok (.iconst 1, 1) := by decide +kernel
theorem dX0_seek_24 : decode cX0_seek 24 = .ok (.bastore, 1) := by decide +kernel
theorem dX0_seek_25 : decode cX0_seek 25 = .ok (.aload_n 0, 1) := by decide +kernel
theorem dX0_seek_26 : decode cX0_seek 26 = .ok (.getfield 23, 3) := by decide +kernel
theorem dX0_seek_29 : decode cX0_seek 29 = .ok (.iload_n 1, 1) := by decide +kernel
theorem dX0_seek_30 : decode cX0_seek 30 = .ok (.iconst 0, 1) := by decide +kernel
theorem dX0_seek_31 : decode cX0_seek 31 = .ok (.iastore, 1) := by decide +kernel
theorem dX0_seek_32 : decode cX0_seek 32 = .ok (.aload_n 0, 1) := by decide +kernel
theorem dX0_seek_33 : decode cX0_seek 33 = .ok (.iload_n 1, 1) := by decide +kernel
theorem dX0_seek_34 : decode cX0_seek 34 = .ok (.iload_n 1, 1) := by decide +kernel
theorem dX0_seek_35 : decode cX0_seek 35 = .ok (.iconst 0, 1) := by decide +kernel
theorem dX0_seek_36 : decode cX0_seek 36 = .ok (.aload_n 0, 1) := by decide +kernel
theorem dX0_seek_37 : decode cX0_seek 37 = .ok (.getfield 9, 3) := by decide +kernel
theorem dX0_seek_40 : decode cX0_seek 40 = .ok (.i2l, 1) := by decide +kernel
theorem dX0_seek_41 : decode cX0_seek 41 = .ok (.aload_n 0, 1) := by decide +kernel
theorem dX0_seek_42 : decode cX0_seek 42 = .ok (.getfield 15, 3) := by decide +kernel
theorem dX0_seek_45 : decode cX0_seek 45 = .ok (.i2l, 1) := by decide +kernel
theorem dX0_seek_46 : decode cX0_seek 46 = .ok (.invokevirtual 65, 3) := by decide +kernel
theorem dX0_seek_49 : decode cX0_seek 49 = .ok (.aload_n 0, 1) := by decide +kernel
theorem dX0_seek_50 : decode cX0_seek 50 = .ok (.getfield 23, 3) := by decide +kernel
theorem dX0_seek_53 : decode cX0_seek 53 = .ok (.iload_n 1, 1) := by decide +kernel
theorem dX0_seek_54 : decode cX0_seek 54 = .ok (.iaload, 1) := by decide +kernel
theorem dX0_seek_55 : decode cX0_seek 55 = .ok (.ireturn, 1) := by decide +kernel
theorem dX0_extend_0 : decode cX0_extend 0 = .ok (.lload 4, 2) := by decide +kernel
theorem dX0_extend_2 : decode cX0_extend 2 = .ok (.lconst 0, 1) := by decide +kernel
theorem dX0_extend_3 : decode cX0_extend 3 = .ok (.lcmp, 1) := by decide +kernel
theorem dX0_extend_4 : decode cX0_extend 4 = .ok (.ifCond .gt 4, 3) := by decide +kernel
theorem dX0_extend_7 : decode cX0_extend 7 = .ok (.return_, 1) := by decide +kernel
theorem dX0_extend_8 : decode cX0_extend 8 = .ok (.iload_n 3, 1) := by decide +kernel
theorem dX0_extend_9 : decode cX0_extend 9 = .ok (.invokestatic 35, 3) := by decide +kernel
theorem dX0_extend_12 : decode cX0_extend 12 = .ok (.iconst 1, 1) := by decide +kernel
theorem dX0_extend_13 : decode cX0_extend 13 = .ok (.iadd, 1) := by decide +kernel
theorem dX0_extend_14 : decode cX0_extend 14 = .ok (.istore 8, 2) := by decide +kernel
theorem dX0_extend_16 : decode cX0_extend 16 = .ok (.iload_n 2, 1) := by decide +kernel
theorem dX0_extend_17 : decode cX0_extend 17 = .ok (.iconst 1, 1) := by decide +kernel
theorem dX0_extend_18 : decode cX0_extend 18 = .ok (.if_icmp .gt 16, 3) := by decide +kernel
theorem dX0_extend_21 : decode cX0_extend 21 = .ok (.aload_n 0, 1) := by decide +kernel
theorem dX0_extend_22 : decode cX0_extend 22 = .ok (.iload_n 1, 1) := by decide +kernel
theorem dX0_extend_23 : decode cX0_extend 23 = .ok (.iload_n 3, 1) := by decide +kernel
theorem dX0_extend_24 : decode cX0_extend 24 = .ok (.iload 8, 2) := by decide +kernel
theorem dX0_extend_26 : decode cX0_extend 26 = .ok (.lload 4, 2) := by decide +kernel
theorem dX0_extend_28 : decode cX0_extend 28 = .ok (.lload 6, 2) := by decide +kernel
theorem dX0_extend_30 : decode cX0_extend 30 = .ok (.invokevirtual 69, 3) := by decide +kernel
theorem dX0_extend_33 : decode cX0_extend 33 = .ok (.return_, 1) := by decide +kernel
theorem dX0_extend_34 : decode cX0_extend 34 = .ok (.iload 8, 2) := by decide +kernel
theorem dX0_extend_36 : decode cX0_extend 36 = .ok (.i2l, 1) := by decide +kernel
theorem dX0_extend_37 : decode cX0_extend 37 = .ok (.lload 6, 2) := by decide +kernel
theorem dX0_extend_39 : decode cX0_extend 39 = .ok (.lload 4, 2) := by decide +kernel
theorem dX0_extend_41 : decode cX0_extend 41 = .ok (.ldiv, 1) := by decide +kernel
theorem dX0_extend_42 : decode cX0_extend 42 = .ok (.lconst 1, 1) := by decide +kernel
theorem dX0_extend_43 : decode cX0_extend 43 = .ok (.ladd, 1) := by decide +kernel
theorem dX0_extend_44 : decode cX0_extend 44 = .ok (.invokestatic 72, 3) := by decide +kernel
theorem dX0_extend_47 : decode cX0_extend 47 = .ok (.lstore 9, 2) := by decide +kernel
theorem dX0_extend_49 : decode cX0_extend 49 = .ok (.lload 9, 2) := by decide +kernel
theorem dX0_extend_51 : decode cX0_extend 51 = .ok (.lstore 11, 2) := by decide +kernel
theorem dX0_extend_53 : decode cX0_extend 53 = .ok (.lload 11, 2) := by decide +kernel
theorem dX0_extend_55 : decode cX0_extend 55 = .ok (.ldc2_w 78, 3) := by decide +kernel
theorem dX0_extend_58 : decode cX0_extend 58 = .ok (.lcmp, 1) := by decide +kernel
theorem dX0_extend_59 : decode cX0_extend 59 = .ok (.ifCond .gt 80, 3) := by decide +kernel
theorem dX0_extend_62 : decode cX0_extend 62 = .ok (.lload 11, 2) := by decide +kernel
theorem dX0_extend_64 : decode cX0_extend 64 = .ok (.lload 4, 2) := by decide +kernel
theorem dX0_extend_66 : decode cX0_extend 66 = .ok (.lmul, 1) := by decide +kernel
theorem dX0_extend_67 : decode cX0_extend 67 = .ok (.iload_n 2, 1) := by decide +kernel
theorem dX0_extend_68 : decode cX0_extend 68 = .ok (.i2l, 1) := by decide +kernel
theorem dX0_extend_69 : decode cX0_extend 69 = .ok (.lload 6, 2) := by decide +kernel
theorem dX0_extend_71 : decode cX0_extend 71 = .ok (.lmul, 1) := by decide +kernel
theorem dX0_extend_72 : decode cX0_extend 72 = .ok (.lcmp, 1) := by decide +kernel
theorem dX0_extend_73 : decode cX0_extend 73 = .ok (.ifCond .lt 4, 3) := by decide +kernel
theorem dX0_extend_76 : decode cX0_extend 76 = .ok (.return_, 1) := by decide +kernel
theorem dX0_extend_77 : decode cX0_extend 77 = .ok (.lload 11, 2) := by decide +kernel
theorem dX0_extend_79 : decode cX0_extend 79 = .ok (.lload 4, 2) := by decide +kernel
theorem dX0_extend_81 : decode cX0_extend 81 = .ok (.lmul, 1) := by decide +kernel
theorem dX0_extend_82 : decode cX0_extend 82 = .ok (.lload 6, 2) := by decide +kernel
theorem dX0_extend_84 : decode cX0_extend 84 = .ok (.lsub, 1) := by decide +kernel
theorem dX0_extend_85 : decode cX0_extend 85 = .ok (.lstore 13, 2) := by decide +kernel
theorem dX0_extend_87 : decode cX0_extend 87 = .ok (.lload 13, 2) := by decide +kernel
theorem dX0_extend_89 : decode cX0_extend 89 = .ok (.ldc2_w 78, 3) := by decide +kernel
theorem dX0_extend_92 : decode cX0_extend 92 = .ok (.lmul, 1) := by decide +kernel
theorem dX0_extend_93 : decode cX0_extend 93 = .ok (.iload_n 2, 1) := by decide +kernel
theorem dX0_extend_94 : decode cX0_extend 94 = .ok (.iconst 1, 1) := by decide +kernel
theorem dX0_extend_95 : decode cX0_extend 95 = .ok (.isub, 1) := by decide +kernel
theorem dX0_extend_96 : decode cX0_extend 96 = .ok (.i2l, 1) := by decide +kernel
theorem dX0_extend_97 : decode cX0_extend 97 = .ok (.lload 6, 2) := by decide +kernel
theorem dX0_extend_99 : decode cX0_extend 99 = .ok (.lmul, 1) := by decide +kernel
theorem dX0_extend_100 : decode cX0_extend 100 = .ok (.lload 11, 2) := by decide +kernel
theorem dX0_extend_102 : decode cX0_extend 102 = .ok (.lmul, 1) := by decide +kernel
theorem dX0_extend_103 : decode cX0_extend 103 = .ok (.lcmp, 1) := by decide +kernel
theorem dX0_extend_104 : decode cX0_extend 104 = .ok (.ifCond .lt 26, 3) := by decide +kernel
theorem dX0_extend_107 : decode cX0_extend 107 = .ok (.aload_n 0, 1) := by decide +kernel
theorem dX0_extend_108 : decode cX0_extend 108 = .ok (.iload_n 1, 1) := by decide +kernel
theorem dX0_extend_109 : decode cX0_extend 109 = .ok (.iload_n 2, 1) := by decide +kernel
theorem dX0_extend_110 : decode cX0_extend 110 = .ok (.iconst 1, 1) := by decide +kernel
theorem dX0_extend_111 : decode cX0_extend 111 = .ok (.isub, 1) := by decide +kernel
theorem dX0_extend_112 : decode cX0_extend 112 = .ok (.iload_n 3, 1) := by decide +kernel
theorem dX0_extend_113 : decode cX0_extend 113 = .ok (.bipush 6, 2) := by decide +kernel
theorem dX0_extend_115 : decode cX0_extend 115 = .ok (.ishl, 1) := by decide +kernel
theorem dX0_extend_116 : decode cX0_extend 116 = .ok (.lload 11, 2) := by decide +kernel
theorem dX0_extend_118 : decode cX0_extend 118 = .ok (.l2i, 1) := by decide +kernel
theorem dX0_extend_119 : decode cX0_extend 119 = .ok (.ior, 1) := by decide +kernel
theorem dX0_extend_120 : decode cX0_extend 120 = .ok (.lload 13, 2) := by decide +kernel
theorem dX0_extend_122 : decode cX0_extend 122 = .ok (.lload 6, 2) := by decide +kernel
theorem dX0_extend_124 : decode cX0_extend 124 = .ok (.lload 11, 2) := by decide +kernel
theorem dX0_extend_126 : decode cX0_extend 126 = .ok (.lmul, 1) := by decide +kernel
theorem dX0_extend_127 : decode cX0_extend 127 = .ok (.invokevirtual 65, 3) := by decide +kernel
theorem dX0_extend_130 : decode cX0_extend 130 = .ok (.lload 11, 2) := by decide +kernel
theorem dX0_extend_132 : decode cX0_extend 132 = .ok (.lconst 1, 1) := by decide +kernel
theorem dX0_extend_133 : decode cX0_extend 133 = .ok (.ladd, 1) := by decide +kernel
theorem dX0_extend_134 : decode cX0_extend 134 = .ok (.lstore 11, 2) := by decide +kernel
theorem dX0_extend_136 : decode cX0_extend 136 = .ok (.goto (-83), 3) := by decide +kernel
theorem dX0_extend_139 : decode cX0_extend 139 = .ok (.return_, 1) := by decide +kernel
theorem dX0_end_0 : decode cX0_end 0 = .ok (.lload 4, 2) := by decide +kernel
theorem dX0_end_2 : decode cX0_end 2 = .ok (.lconst 0, 1) := by decide +kernel
theorem dX0_end_3 : decode cX0_end 3 = .ok (.lcmp, 1) := by decide +kernel
theorem dX0_end_4 : decode cX0_end 4 = .ok (.ifCond .le 25, 3) := by decide +kernel
theorem dX0_end_7 : decode cX0_end 7 = .ok (.lload 6, 2) := by decide +kernel
theorem dX0_end_9 : decode cX0_end 9 = .ok (.lload 4, 2) := by decide +kernel
theorem dX0_end_11 : decode cX0_end 11 = .ok (.lrem, 1) := by decide +kernel
theorem dX0_end_12 : decode cX0_end 12 = .ok (.lconst 0, 1) := by decide +kernel
theorem dX0_end_13 : decode cX0_end 13 = .ok (.lcmp, 1) := by decide +kernel
theorem dX0_end_14 : decode cX0_end 14 = .ok (.ifCond .ne 15, 3) := by decide +kernel
theorem dX0_end_17 : decode cX0_end 17 = .ok (.aload_n 0, 1) := by decide +kernel
theorem dX0_end_18 : decode cX0_end 18 = .ok (.getfield 23, 3) := by decide +kernel
theorem dX0_end_21 : decode cX0_end 21 = .ok (.iload_n 1, 1) := by decide +kernel
theorem dX0_end_22 : decode cX0_end 22 = .ok (.iaload, 1) := by decide +kernel
theorem dX0_end_23 : decode cX0_end 23 = .ok (.sipush 128, 3) := by decide +kernel
theorem dX0_end_26 : decode cX0_end 26 = .ok (.if_icmp .lt 4, 3) := by decide +kernel
theorem dX0_end_29 : decode cX0_end 29 = .ok (.return_, 1) := by decide +kernel
theorem dX0_end_30 : decode cX0_end 30 = .ok (.lload 6, 2) := by decide +kernel
theorem dX0_end_32 : decode cX0_end 32 = .ok (.lload 4, 2) := by decide +kernel
theorem dX0_end_34 : decode cX0_end 34 = .ok (.ldiv, 1) := by decide +kernel
theorem dX0_end_35 : decode cX0_end 35 = .ok (.lstore 8, 2) := by decide +kernel
theorem dX0_end_37 : decode cX0_end 37 = .ok (.lload 8, 2) := by decide +kernel
theorem dX0_end_39 : decode cX0_end 39 = .ok (.iload_n 3, 1) := by decide +kernel
theorem dX0_end_40 : decode cX0_end 40 = .ok (.i2l, 1) := by decide +kernel
theorem dX0_end_41 : decode cX0_end 41 = .ok (.lcmp, 1) := by decide +kernel
theorem dX0_end_42 : decode cX0_end 42 = .ok (.ifCond .lt 43, 3) := by decide +kernel
theorem dX0_end_45 : decode cX0_end 45 = .ok (.lload 8, 2) := by decide +kernel
theorem dX0_end_47 : decode cX0_end 47 = .ok (.ldc2_w 78, 3) := by decide +kernel
theorem dX0_end_50 : decode cX0_end 50 = .ok (.lcmp, 1) := by decide +kernel
theorem dX0_end_51 : decode cX0_end 51 = .ok (.ifCond .gt 34, 3) := by decide +kernel
theorem dX0_end_54 : decode cX0_end 54 = .ok (.aload_n 0, 1) := by decide +kernel
theorem dX0_end_55 : decode cX0_end 55 = .ok (.getfield 20, 3) := by decide +kernel
theorem dX0_end_58 : decode cX0_end 58 = .ok (.iload_n 1, 1) := by decide +kernel
theorem dX0_end_59 : decode cX0_end 59 = .ok (.aaload, 1) := by decide +kernel
theorem dX0_end_60 : decode cX0_end 60 = .ok (.aload_n 0, 1) := by decide +kernel
theorem dX0_end_61 : decode cX0_end 61 = .ok (.getfield 23, 3) := by decide +kernel
theorem dX0_end_64 : decode cX0_end 64 = .ok (.iload_n 1, 1) := by decide +kernel
theorem dX0_end_65 : decode cX0_end 65 = .ok (.iaload, 1) := by decide +kernel
theorem dX0_end_66 : decode cX0_end 66 = .ok (.iload_n 2, 1) := by decide +kernel
theorem dX0_end_67 : decode cX0_end 67 = .ok (.bipush 6, 2) := by decide +kernel
theorem dX0_end_69 : decode cX0_end 69 = .ok (.ishl, 1) := by decide +kernel
theorem dX0_end_70 : decode cX0_end 70 = .ok (.lload 8, 2) := by decide +kernel
theorem dX0_end_72 : decode cX0_end 72 = .ok (.l2i, 1) := by decide +kernel
theorem dX0_end_73 : decode cX0_end 73 = .ok (.ior, 1) := by decide +kernel
theorem dX0_end_74 : decode cX0_end 74 = .ok (.iastore, 1) := by decide +kernel
theorem dX0_end_75 : decode cX0_end 75 = .ok (.aload_n 0, 1) := by decide +kernel
theorem dX0_end_76 : decode cX0_end 76 = .ok (.getfield 23, 3) := by decide +kernel
theorem dX0_end_79 : decode cX0_end 79 = .ok (.iload_n 1, 1) := by decide +kernel
theorem dX0_end_80 : decode cX0_end 80 = .ok (.dup2, 1) := by decide +kernel
theorem dX0_end_81 : decode cX0_end 81 = .ok (.iaload, 1) := by decide +kernel
theorem dX0_end_82 : decode cX0_end 82 = .ok (.iconst 1, 1) := by decide +kernel
theorem dX0_end_83 : decode cX0_end 83 = .ok (.iadd, 1) := by decide +kernel
theorem dX0_end_84 : decode cX0_end 84 = .ok (.iastore, 1) := by decide +kernel
theorem dX0_end_85 : decode cX0_end 85 = .ok (.return_, 1) := by decide +kernel
theorem dX1_init_0 : decode cX1_init 0 = .ok (.aload_n 0, 1) := by decide +kernel
theorem dX1_init_1 : decode cX1_init 1 = .ok (.invokespecial 3, 3) := by decide +kernel
theorem dX1_init_4 : decode cX1_init 4 = .ok (.aload_n 0, 1) := by decide +kernel
theorem dX1_init_5 : decode cX1_init 5 = .ok (.bipush 10, 2) := by decide +kernel
theorem dX1_init_7 : decode cX1_init 7 = .ok (.anewarray 9, 3) := by decide +kernel
theorem dX1_init_10 : decode cX1_init 10 = .ok (.putfield 11, 3) := by decide +kernel
theorem dX1_init_13 : decode cX1_init 13 = .ok (.aload_n 0, 1) := by decide +kernel
theorem dX1_init_14 : decode cX1_init 14 = .ok (.iconst 0, 1) := by decide +kernel
theorem dX1_init_15 : decode cX1_init 15 = .ok (.putfield 17, 3) := by decide +kernel
theorem dX1_init_18 : decode cX1_init 18 = .ok (.iconst 0, 1) := by decide +kernel
theorem dX1_init_19 : decode cX1_init 19 = .ok (.istore_n 1, 1) := by decide +kernel
theorem dX1_init_20 : decode cX1_init 20 = .ok (.iload_n 1, 1) := by decide +kernel
theorem dX1_init_21 : decode cX1_init 21 = .ok (.bipush 10, 2) := by decide +kernel
theorem dX1_init_23 : decode cX1_init 23 = .ok (.if_icmp .ge 22, 3) := by decide +kernel
theorem dX1_init_26 : decode cX1_init 26 = .ok (.aload_n 0, 1) := by decide +kernel
theorem dX1_init_27 : decode cX1_init 27 = .ok (.getfield 11, 3) := by decide +kernel
theorem dX1_init_30 : decode cX1_init 30 = .ok (.iload_n 1, 1) := by decide +kernel
theorem dX1_init_31 : decode cX1_init 31 = .ok (.new 9, 3) := by decide +kernel
theorem dX1_init_34 : decode cX1_init 34 = .ok (.dup, 1) := by decide +kernel
theorem dX1_init_35 : decode cX1_init 35 = .ok (.invokespecial 21, 3) := by decide +kernel
theorem dX1_init_38 : decode cX1_init 38 = .ok (.aastore, 1) := by decide +kernel
theorem dX1_init_39 : decode cX1_init 39 = .ok (.iinc 1 1, 3) := by decide +kernel
theorem dX1_init_42 : decode cX1_init 42 = .ok (.goto (-22), 3) := by decide +kernel
theorem dX1_init_45 : decode cX1_init 45 = .ok (.return_, 1) := by decide +kernel
theorem dX1_length_0 : decode cX1_length 0 = .ok (.aload_n 0, 1) := by decide +kernel
theorem dX1_length_1 : decode cX1_length 1 = .ok (.getfield 17, 3) := by decide +kernel
theorem dX1_length_4 : decode cX1_length 4 = .ok (.ireturn, 1) := by decide +kernel
theorem dX1_wipe_0 : decode cX1_wipe 0 = .ok (.aload_n 0, 1) := by decide +kernel
theorem dX1_wipe_1 : decode cX1_wipe 1 = .ok (.iconst 0, 1) := by decide +kernel
theorem dX1_wipe_2 : decode cX1_wipe 2 = .ok (.putfield 17, 3) := by decide +kernel
theorem dX1_wipe_5 : decode cX1_wipe 5 = .ok (.return_, 1) := by decide +kernel
theorem dX1_store_0 : decode cX1_store 0 = .ok (.aload_n 0, 1) := by decide +kernel
theorem dX1_store_1 : decode cX1_store 1 = .ok (.getfield 17, 3) := by decide +kernel
theorem dX1_store_4 : decode cX1_store 4 = .ok (.bipush 10, 2) := by decide +kernel
theorem dX1_store_6 : decode cX1_store 6 = .ok (.if_icmp .ne 7, 3) := by decide +kernel
theorem dX1_store_9 : decode cX1_store 9 = .ok (.aload_n 0, 1) := by decide +kernel
theorem dX1_store_10 : decode cX1_store 10 = .ok (.invokevirtual 22, 3) := by decide +kernel
theorem dX1_store_13 : decode cX1_store 13 = .ok (.aload_n 0, 1) := by decide +kernel
theorem dX1_store_14 : decode cX1_store 14 = .ok (.getfield 11, 3) := by decide +kernel
theorem dX1_store_17 : decode cX1_store 17 = .ok (.aload_n 0, 1) := by decide +kernel
theorem dX1_store_18 : decode cX1_store 18 = .ok (.getfield 17, 3) := by decide +kernel
theorem dX1_store_21 : decode cX1_store 21 = .ok (.aaload, 1) := by decide +kernel
theorem dX1_store_22 : decode cX1_store 22 = .ok (.aload_n 1, 1) := by decide +kernel
theorem dX1_store_23 : decode cX1_store 23 = .ok (.invokevirtual 25, 3) := by decide +kernel
theorem dX1_store_26 : decode cX1_store 26 = .ok (.aload_n 0, 1) := by decide +kernel
theorem dX1_store_27 : decode cX1_store 27 = .ok (.dup, 1) := by decide +kernel
theorem dX1_store_28 : decode cX1_store 28 = .ok (.getfield 17, 3) := by decide +kernel
theorem dX1_store_31 : decode cX1_store 31 = .ok (.iconst 1, 1) := by decide +kernel
theorem dX1_store_32 : decode cX1_store 32 = .ok (.iadd, 1) := by decide +kernel
theorem dX1_store_33 : decode cX1_store 33 = .ok (.putfield 17, 3) := by decide +kernel
theorem dX1_store_36 : decode cX1_store 36 = .ok (.return_, 1) := by decide +kernel
theorem dX1_loseOldest_0 : decode cX1_loseOldest 0 = .ok (.aload_n 0, 1) := by decide +kernel
theorem dX1_loseOldest_1 : decode cX1_loseOldest 1 = .ok (.getfield 11, 3) := by decide +kernel
theorem dX1_loseOldest_4 : decode cX1_loseOldest 4 = .ok (.iconst 0, 1) := by decide +kernel
theorem dX1_loseOldest_5 : decode cX1_loseOldest 5 = .ok (.aaload, 1) := by decide +kernel
theorem dX1_loseOldest_6 : decode cX1_loseOldest 6 = .ok (.astore_n 1, 1) := by decide +kernel
theorem dX1_loseOldest_7 : decode cX1_loseOldest 7 = .ok (.aload_n 0, 1) := by decide +kernel
theorem dX1_loseOldest_8 : decode cX1_loseOldest 8 = .ok (.dup, 1) := by decide +kernel
theorem dX1_loseOldest_9 : decode cX1_loseOldest 9 = .ok (.getfield 17, 3) := by decide +kernel
theorem dX1_loseOldest_12 : decode cX1_loseOldest 12 = .ok (.iconst 1, 1) := by decide +kernel
theorem dX1_loseOldest_13 : decode cX1_loseOldest 13 = .ok (.isub, 1) := by decide +kernel
theorem dX1_loseOldest_14 : decode cX1_loseOldest 14 = .ok (.putfield 17, 3) := by decide +kernel
theorem dX1_loseOldest_17 : decode cX1_loseOldest 17 = .ok (.iconst 0, 1) := by decide +kernel
theorem dX1_loseOldest_18 : decode cX1_loseOldest 18 = .ok (.istore_n 2, 1) := by decide +kernel
theorem dX1_loseOldest_19 : decode cX1_loseOldest 19 = .ok (.iload_n 2, 1) := by decide +kernel
theorem dX1_loseOldest_20 : decode cX1_loseOldest 20 = .ok (.aload_n 0, 1) := by decide +kernel
theorem dX1_loseOldest_21 : decode cX1_loseOldest 21 = .ok (.getfield 17, 3) := by decide +kernel
theorem dX1_loseOldest_24 : decode cX1_loseOldest 24 = .ok (.if_icmp .ge 23, 3) := by decide +kernel
theorem dX1_loseOldest_27 : decode cX1_loseOldest 27 = .ok (.aload_n 0, 1) := by decide +kernel
theorem dX1_loseOldest_28 : decode cX1_loseOldest 28 = .ok (.getfield 11, 3) := by decide +kernel
theorem dX1_loseOldest_31 : decode cX1_loseOldest 31 = .ok (.iload_n 2, 1) := by decide +kernel
theorem dX1_loseOldest_32 : decode cX1_loseOldest 32 = .ok (.aload_n 0, 1) := by decide +kernel
theorem dX1_loseOldest_33 : decode cX1_loseOldest 33 = .ok (.getfield 11, 3) := by decide +kernel
theorem dX1_loseOldest_36 : decode cX1_loseOldest 36 = .ok (.iload_n 2, 1) := by decide +kernel
theorem dX1_loseOldest_37 : decode cX1_loseOldest 37 = .ok (.iconst 1, 1) := by decide +kernel
theorem dX1_loseOldest_38 : decode cX1_loseOldest 38 = .ok (.iadd, 1) := by decide +kernel
theorem dX1_loseOldest_39 : decode cX1_loseOldest 39 = .ok (.aaload, 1) := by decide +kernel
theorem dX1_loseOldest_40 : decode cX1_loseOldest 40 = .ok (.aastore, 1) := by decide +kernel
theorem dX1_loseOldest_41 : decode cX1_loseOldest 41 = .ok (.iinc 2 1, 3) := by decide +kernel
theorem dX1_loseOldest_44 : decode cX1_loseOldest 44 = .ok (.goto (-25), 3) := by decide +kernel
theorem dX1_loseOldest_47 : decode cX1_loseOldest 47 = .ok (.aload_n 0, 1) := by decide +kernel
theorem dX1_loseOldest_48 : decode cX1_loseOldest 48 = .ok (.getfield 11, 3) := by decide +kernel
theorem dX1_loseOldest_51 : decode cX1_loseOldest 51 = .ok (.aload_n 0, 1) := by decide +kernel
theorem dX1_loseOldest_52 : decode cX1_loseOldest 52 = .ok (.getfield 17, 3) := by decide +kernel
theorem dX1_loseOldest_55 : decode cX1_loseOldest 55 = .ok (.aload_n 1, 1) := by decide +kernel
theorem dX1_loseOldest_56 : decode cX1_loseOldest 56 = .ok (.aastore, 1) := by decide +kernel
theorem dX1_loseOldest_57 : decode cX1_loseOldest 57 = .ok (.return_, 1) := by decide +kernel
theorem dX1_restore_0 : decode cX1_restore 0 = .ok (.aload_n 0, 1) := by decide +kernel
theorem dX1_restore_1 : decode cX1_restore 1 = .ok (.getfield 17, 3) := by decide +kernel
theorem dX1_restore_4 : decode cX1_restore 4 = .ok (.ifCond .ne 5, 3) := by decide +kernel
theorem dX1_restore_7 : decode cX1_restore 7 = .ok (.iconst 0, 1) := by decide +kernel
theorem dX1_restore_8 : decode cX1_restore 8 = .ok (.ireturn, 1) := by decide +kernel
theorem dX1_restore_9 : decode cX1_restore 9 = .ok (.aload_n 0, 1) := by decide +kernel
theorem dX1_restore_10 : decode cX1_restore 10 = .ok (.dup, 1) := by decide +kernel
theorem dX1_restore_11 : decode cX1_restore 11 = .ok (.getfield 17, 3) := by decide +kernel
theorem dX1_restore_14 : decode cX1_restore 14 = .ok (.iconst 1, 1) := by decide +kernel
theorem dX1_restore_15 : decode cX1_restore 15 = .ok (.isub, 1) := by decide +kernel
theorem dX1_restore_16 : decode cX1_restore 16 = .ok (.putfield 17, 3) := by decide +kernel
theorem dX1_restore_19 : decode cX1_restore 19 = .ok (.aload_n 1, 1) := by decide +kernel
theorem dX1_restore_20 : decode cX1_restore 20 = .ok (.aload_n 0, 1) := by decide +kernel
theorem dX1_restore_21 : decode cX1_restore 21 = .ok (.getfield 11, 3) := by decide +kernel
theorem dX1_restore_24 : decode cX1_restore 24 = .ok (.aload_n 0, 1) := by decide +kernel
theorem dX1_restore_25 : decode cX1_restore 25 = .ok (.getfield 17, 3) := by decide +kernel
theorem dX1_restore_28 : decode cX1_restore 28 = .ok (.aaload, 1) := by decide +kernel
theorem dX1_restore_29 : decode cX1_restore 29 = .ok (.invokevirtual 25, 3) := by decide +kernel
theorem dX1_restore_32 : decode cX1_restore 32 = .ok (.iconst 1, 1) := by decide +kernel
theorem dX1_restore_33 : decode cX1_restore 33 = .ok (.ireturn, 1) := by decide +kernel
theorem dX2_init_0 : decode cX2_init 0 = .ok (.aload_n 0, 1) := by decide +kernel
theorem dX2_init_1 : decode cX2_init 1 = .ok (.invokespecial 3, 3) := by decide +kernel
theorem dX2_init_4 : decode cX2_init 4 = .ok (.aload_n 0, 1) := by decide +kernel
theorem dX2_init_5 : decode cX2_init 5 = .ok (.bipush 8, 2) := by decide +kernel
theorem dX2_init_7 : decode cX2_init 7 = .ok (.newarray .int, 2) := by decide +kernel
theorem dX2_init_9 : decode cX2_init 9 = .ok (.putfield 9, 3) := by decide +kernel
theorem dX2_init_12 : decode cX2_init 12 = .ok (.aload_n 0, 1) := by decide +kernel
theorem dX2_init_13 : decode cX2_init 13 = .ok (.iconst 0, 1) := by decide +kernel
theorem dX2_init_14 : decode cX2_init 14 = .ok (.putfield 15, 3) := by decide +kernel
theorem dX2_init_17 : decode cX2_init 17 = .ok (.return_, 1) := by decide +kernel
theorem dX2_length_0 : decode cX2_length 0 = .ok (.aload_n 0, 1) := by decide +kernel
theorem dX2_length_1 : decode cX2_length 1 = .ok (.getfield 15, 3) := by decide +kernel
theorem dX2_length_4 : decode cX2_length 4 = .ok (.ireturn, 1) := by decide +kernel
theorem dX2_reaches_0 : decode cX2_reaches 0 = .ok (.iload_n 1, 1) := by decide +kernel
theorem dX2_reaches_1 : decode cX2_reaches 1 = .ok (.ifCond .lt 15, 3) := by decide +kernel
theorem dX2_reaches_4 : decode cX2_reaches 4 = .ok (.iload_n 1, 1) := by decide +kernel
theorem dX2_reaches_5 : decode cX2_reaches 5 = .ok (.aload_n 0, 1) := by decide +kernel
theorem dX2_reaches_6 : decode cX2_reaches 6 = .ok (.getfield 15, 3) := by decide +kernel
theorem dX2_reaches_9 : decode cX2_reaches 9 = .ok (.if_icmp .ge 7, 3) := by decide +kernel
theorem dX2_reaches_12 : decode cX2_reaches 12 = .ok (.iconst 1, 1) := by decide +kernel
theorem dX2_reaches_13 : decode cX2_reaches 13 = .ok (.goto 4, 3) := by decide +kernel
theorem dX2_reaches_16 : decode cX2_reaches 16 = .ok (.iconst 0, 1) := by decide +kernel
theorem dX2_reaches_17 : decode cX2_reaches 17 = .ok (.ireturn, 1) := by decide +kernel
theorem dX2_at_0 : decode cX2_at 0 = .ok (.aload_n 0, 1) := by decide +kernel
theorem dX2_at_1 : decode cX2_at 1 = .ok (.iload_n 1, 1) := by decide +kernel
theorem dX2_at_2 : decode cX2_at 2 = .ok (.invokevirtual 19, 3) := by decide +kernel
theorem dX2_at_5 : decode cX2_at 5 = .ok (.ifCond .eq 12, 3) := by decide +kernel
theorem dX2_at_8 : decode cX2_at 8 = .ok (.aload_n 0, 1) := by decide +kernel
theorem dX2_at_9 : decode cX2_at 9 = .ok (.getfield 9, 3) := by decide +kernel
theorem dX2_at_12 : decode cX2_at 12 = .ok (.iload_n 1, 1) := by decide +kernel
theorem dX2_at_13 : decode cX2_at 13 = .ok (.iaload, 1) := by decide +kernel
theorem dX2_at_14 : decode cX2_at 14 = .ok (.goto 5, 3) := by decide +kernel
theorem dX2_at_17 : decode cX2_at 17 = .ok (.bipush (-9), 2) := by decide +kernel
theorem dX2_at_19 : decode cX2_at 19 = .ok (.ireturn, 1) := by decide +kernel
theorem dX2_wipe_0 : decode cX2_wipe 0 = .ok (.aload_n 0, 1) := by decide +kernel
theorem dX2_wipe_1 : decode cX2_wipe 1 = .ok (.iconst 0, 1) := by decide +kernel
theorem dX2_wipe_2 : decode cX2_wipe 2 = .ok (.putfield 15, 3) := by decide +kernel
theorem dX2_wipe_5 : decode cX2_wipe 5 = .ok (.return_, 1) := by decide +kernel
theorem dX2_copy_0 : decode cX2_copy 0 = .ok (.aload_n 0, 1) := by decide +kernel
theorem dX2_copy_1 : decode cX2_copy 1 = .ok (.aload_n 1, 1) := by decide +kernel
theorem dX2_copy_2 : decode cX2_copy 2 = .ok (.getfield 15, 3) := by decide +kernel
theorem dX2_copy_5 : decode cX2_copy 5 = .ok (.putfield 15, 3) := by decide +kernel
theorem dX2_copy_8 : decode cX2_copy 8 = .ok (.aload_n 1, 1) := by decide +kernel
theorem dX2_copy_9 : decode cX2_copy 9 = .ok (.getfield 9, 3) := by decide +kernel
theorem dX2_copy_12 : decode cX2_copy 12 = .ok (.iconst 0, 1) := by decide +kernel
theorem dX2_copy_13 : decode cX2_copy 13 = .ok (.aload_n 0, 1) := by decide +kernel
theorem dX2_copy_14 : decode cX2_copy 14 = .ok (.getfield 9, 3) := by decide +kernel
theorem dX2_copy_17 : decode cX2_copy 17 = .ok (.iconst 0, 1) := by decide +kernel
theorem dX2_copy_18 : decode cX2_copy 18 = .ok (.aload_n 0, 1) := by decide +kernel
theorem dX2_copy_19 : decode cX2_copy 19 = .ok (.getfield 15, 3) := by decide +kernel
theorem dX2_copy_22 : decode cX2_copy 22 = .ok (.invokestatic 23, 3) := by decide +kernel
theorem dX2_copy_25 : decode cX2_copy 25 = .ok (.return_, 1) := by decide +kernel
theorem dX2_drop_0 : decode cX2_drop 0 = .ok (.aload_n 0, 1) := by decide +kernel
theorem dX2_drop_1 : decode cX2_drop 1 = .ok (.iload_n 1, 1) := by decide +kernel
theorem dX2_drop_2 : decode cX2_drop 2 = .ok (.invokevirtual 19, 3) := by decide +kernel
theorem dX2_drop_5 : decode cX2_drop 5 = .ok (.ifCond .ne 4, 3) := by decide +kernel
theorem dX2_drop_8 : decode cX2_drop 8 = .ok (.return_, 1) := by decide +kernel
theorem dX2_drop_9 : decode cX2_drop 9 = .ok (.aload_n 0, 1) := by decide +kernel
theorem dX2_drop_10 : decode cX2_drop 10 = .ok (.dup, 1) := by decide +kernel
theorem dX2_drop_11 : decode cX2_drop 11 = .ok (.getfield 15, 3) := by decide +kernel
theorem dX2_drop_14 : decode cX2_drop 14 = .ok (.iconst 1, 1) := by decide +kernel
theorem dX2_drop_15 : decode cX2_drop 15 = .ok (.isub, 1) := by decide +kernel
theorem dX2_drop_16 : decode cX2_drop 16 = .ok (.putfield 15, 3) := by decide +kernel
theorem dX2_drop_19 : decode cX2_drop 19 = .ok (.iload_n 1, 1) := by decide +kernel
theorem dX2_drop_20 : decode cX2_drop 20 = .ok (.istore_n 2, 1) := by decide +kernel
theorem dX2_drop_21 : decode cX2_drop 21 = .ok (.iload_n 2, 1) := by decide +kernel
theorem dX2_drop_22 : decode cX2_drop 22 = .ok (.aload_n 0, 1) := by decide +kernel
theorem dX2_drop_23 : decode cX2_drop 23 = .ok (.getfield 15, 3) := by decide +kernel
theorem dX2_drop_26 : decode cX2_drop 26 = .ok (.if_icmp .ge 23, 3) := by decide +kernel
theorem dX2_drop_29 : decode cX2_drop 29 = .ok (.aload_n 0, 1) := by decide +kernel
theorem dX2_drop_30 : decode cX2_drop 30 = .ok (.getfield 9, 3) := by decide +kernel
theorem dX2_drop_33 : decode cX2_drop 33 = .ok (.iload_n 2, 1) := by decide +kernel
theorem dX2_drop_34 : decode cX2_drop 34 = .ok (.aload_n 0, 1) := by decide +kernel
theorem dX2_drop_35 : decode cX2_drop 35 = .ok (.getfield 9, 3) := by decide +kernel
theorem dX2_drop_38 : decode cX2_drop 38 = .ok (.iload_n 2, 1) := by decide +kernel
theorem dX2_drop_39 : decode cX2_drop 39 = .ok (.iconst 1, 1) := by decide +kernel
theorem dX2_drop_40 : decode cX2_drop 40 = .ok (.iadd, 1) := by decide +kernel
theorem dX2_drop_41 : decode cX2_drop 41 = .ok (.iaload, 1) := by decide +kernel
theorem dX2_drop_42 : decode cX2_drop 42 = .ok (.iastore, 1) := by decide +kernel
theorem dX2_drop_43 : decode cX2_drop 43 = .ok (.iinc 2 1, 3) := by decide +kernel
theorem dX2_drop_46 : decode cX2_drop 46 = .ok (.goto (-25), 3) := by decide +kernel
theorem dX2_drop_49 : decode cX2_drop 49 = .ok (.return_, 1) := by decide +kernel
theorem dX2_insert_0 : decode cX2_insert 0 = .ok (.lload_n 1, 1) := by decide +kernel
theorem dX2_insert_1 : decode cX2_insert 1 = .ok (.lconst 1, 1) := by decide +kernel
theorem dX2_insert_2 : decode cX2_insert 2 = .ok (.lcmp, 1) := by decide +kernel
theorem dX2_insert_3 : decode cX2_insert 3 = .ok (.ifCond .lt 20, 3) := by decide +kernel
theorem dX2_insert_6 : decode cX2_insert 6 = .ok (.lload_n 1, 1) := by decide +kernel
theorem dX2_insert_7 : decode cX2_insert 7 = .ok (.ldc2_w 29, 3) := by decide +kernel
theorem dX2_insert_10 : decode cX2_insert 10 = .ok (.lcmp, 1) := by decide +kernel
theorem dX2_insert_11 : decode cX2_insert 11 = .ok (.ifCond .gt 12, 3) := by decide +kernel
theorem dX2_insert_14 : decode cX2_insert 14 = .ok (.aload_n 0, 1) := by decide +kernel
theorem dX2_insert_15 : decode cX2_insert 15 = .ok (.getfield 15, 3) := by decide +kernel
theorem dX2_insert_18 : decode cX2_insert 18 = .ok (.bipush 8, 2) := by decide +kernel
theorem dX2_insert_20 : decode cX2_insert 20 = .ok (.if_icmp .lt 5, 3) := by decide +kernel
theorem dX2_insert_23 : decode cX2_insert 23 = .ok (.iconst 0, 1) := by decide +kernel
theorem dX2_insert_24 : decode cX2_insert 24 = .ok (.ireturn, 1) := by decide +kernel
theorem dX2_insert_25 : decode cX2_insert 25 = .ok (.aload_n 0, 1) := by decide +kernel
theorem dX2_insert_26 : decode cX2_insert 26 = .ok (.getfield 15, 3) := by decide +kernel
theorem dX2_insert_29 : decode cX2_insert 29 = .ok (.istore_n 3, 1) := by decide +kernel
theorem dX2_insert_30 : decode cX2_insert 30 = .ok (.iload_n 3, 1) := by decide +kernel
theorem dX2_insert_31 : decode cX2_insert 31 = .ok (.ifCond .le 23, 3) := by decide +kernel
theorem dX2_insert_34 : decode cX2_insert 34 = .ok (.aload_n 0, 1) := by decide +kernel
theorem dX2_insert_35 : decode cX2_insert 35 = .ok (.getfield 9, 3) := by decide +kernel
theorem dX2_insert_38 : decode cX2_insert 38 = .ok (.iload_n 3, 1) := by decide +kernel
theorem dX2_insert_39 : decode cX2_insert 39 = .ok (.iconst 1, 1) := by decide +kernel
theorem dX2_insert_40 : decode cX2_insert 40 = .ok (.isub, 1) := by decide +kernel
theorem dX2_insert_41 : decode cX2_insert 41 = .ok (.iaload, 1) := by decide +kernel
theorem dX2_insert_42 : decode cX2_insert 42 = .ok (.i2l, 1) := by decide +kernel
theorem dX2_insert_43 : decode cX2_insert 43 = .ok (.lload_n 1, 1) := by decide +kernel
theorem dX2_insert_44 : decode cX2_insert 44 = .ok (.lcmp, 1) := by decide +kernel
theorem dX2_insert_45 : decode cX2_insert 45 = .ok (.ifCond .lt 9, 3) := by decide +kernel
theorem dX2_insert_48 : decode cX2_insert 48 = .ok (.iinc 3 (-1), 3) := by decide +kernel
theorem dX2_insert_51 : decode cX2_insert 51 = .ok (.goto (-21), 3) := by decide +kernel
theorem dX2_insert_54 : decode cX2_insert 54 = .ok (.iload_n 3, 1) := by decide +kernel
theorem dX2_insert_55 : decode cX2_insert 55 = .ok (.aload_n 0, 1) := by decide +kernel
theorem dX2_insert_56 : decode cX2_insert 56 = .ok (.getfield 15, 3) := by decide +kernel
theorem dX2_insert_59 : decode cX2_insert 59 = .ok (.if_icmp .ge 17, 3) := by decide +kernel
theorem dX2_insert_62 : decode cX2_insert 62 = .ok (.aload_n 0, 1) := by decide +kernel
theorem dX2_insert_63 : decode cX2_insert 63 = .ok (.getfield 9, 3) := by decide +kernel
theorem dX2_insert_66 : decode cX2_insert 66 = .ok (.iload_n 3, 1) := by decide +kernel
theorem dX2_insert_67 : decode cX2_insert 67 = .ok (.iaload, 1) := by decide +kernel
theorem dX2_insert_68 : decode cX2_insert 68 = .ok (.i2l, 1) := by decide +kernel
theorem dX2_insert_69 : decode cX2_insert 69 = .ok (.lload_n 1, 1) := by decide +kernel
theorem dX2_insert_70 : decode cX2_insert 70 = .ok (.lcmp, 1) := by decide +kernel
theorem dX2_insert_71 : decode cX2_insert 71 = .ok (.ifCond .ne 5, 3) := by decide +kernel
theorem dX2_insert_74 : decode cX2_insert 74 = .ok (.iconst 0, 1) := by decide +kernel
theorem dX2_insert_75 : decode cX2_insert 75 = .ok (.ireturn, 1) := by decide +kernel
theorem dX2_insert_76 : decode cX2_insert 76 = .ok (.aload_n 0, 1) := by decide +kernel
theorem dX2_insert_77 : decode cX2_insert 77 = .ok (.getfield 15, 3) := by decide +kernel
theorem dX2_insert_80 : decode cX2_insert 80 = .ok (.istore 4, 2) := by decide +kernel
theorem dX2_insert_82 : decode cX2_insert 82 = .ok (.iload 4, 2) := by decide +kernel
theorem dX2_insert_84 : decode cX2_insert 84 = .ok (.iload_n 3, 1) := by decide +kernel
theorem dX2_insert_85 : decode cX2_insert 85 = .ok (.if_icmp .le 25, 3) := by decide +kernel
theorem dX2_insert_88 : decode cX2_insert 88 = .ok (.aload_n 0, 1) := by decide +kernel
theorem dX2_insert_89 : decode cX2_insert 89 = .ok (.getfield 9, 3) := by decide +kernel
theorem dX2_insert_92 : decode cX2_insert 92 = .ok (.iload 4, 2) := by decide +kernel
theorem dX2_insert_94 : decode cX2_insert 94 = .ok (.aload_n 0, 1) := by decide +kernel
theorem dX2_insert_95 : decode cX2_insert 95 = .ok (.getfield 9, 3) := by decide +kernel
theorem dX2_insert_98 : decode cX2_insert 98 = .ok (.iload 4, 2) := by decide +kernel
theorem dX2_insert_100 : decode cX2_insert 100 = .ok (.iconst 1, 1) := by decide +kernel
theorem dX2_insert_101 : decode cX2_insert 101 = .ok (.isub, 1) := by decide +kernel
theorem dX2_insert_102 : decode cX2_insert 102 = .ok (.iaload, 1) := by decide +kernel
theorem dX2_insert_103 : decode cX2_insert 103 = .ok (.iastore, 1) := by decide +kernel
theorem dX2_insert_104 : decode cX2_insert 104 = .ok (.iinc 4 (-1), 3) := by decide +kernel
theorem dX2_insert_107 : decode cX2_insert 107 = .ok (.goto (-25), 3) := by decide +kernel
theorem dX2_insert_110 : decode cX2_insert 110 = .ok (.aload_n 0, 1) := by decide +kernel
theorem dX2_insert_111 : decode cX2_insert 111 = .ok (.getfield 9, 3) := by decide +kernel
theorem dX2_insert_114 : decode cX2_insert 114 = .ok (.iload_n 3, 1) := by decide +kernel
theorem dX2_insert_115 : decode cX2_insert 115 = .ok (.lload_n 1, 1) := by decide +kernel
theorem dX2_insert_116 : decode cX2_insert 116 = .ok (.l2i, 1) := by decide +kernel
theorem dX2_insert_117 : decode cX2_insert 117 = .ok (.iastore, 1) := by decide +kernel
theorem dX2_insert_118 : decode cX2_insert 118 = .ok (.aload_n 0, 1) := by decide +kernel
theorem dX2_insert_119 : decode cX2_insert 119 = .ok (.dup, 1) := by decide +kernel
theorem dX2_insert_120 : decode cX2_insert 120 = .ok (.getfield 15, 3) := by decide +kernel
theorem dX2_insert_123 : decode cX2_insert 123 = .ok (.iconst 1, 1) := by decide +kernel
theorem dX2_insert_124 : decode cX2_insert 124 = .ok (.iadd, 1) := by decide +kernel
theorem dX2_insert_125 : decode cX2_insert 125 = .ok (.putfield 15, 3) := by decide +kernel
theorem dX2_insert_128 : decode cX2_insert 128 = .ok (.iconst 1, 1) := by decide +kernel
theorem dX2_insert_129 : decode cX2_insert 129 = .ok (.ireturn, 1) := by decide +kernel
theorem dX2_adds_0 : decode cX2_adds 0 = .ok (.lconst 0, 1) := by decide +kernel
theorem dX2_adds_1 : decode cX2_adds 1 = .ok (.lstore_n 3, 1) := by decide +kernel
theorem dX2_adds_2 : decode cX2_adds 2 = .ok (.lconst 1, 1) := by decide +kernel
theorem dX2_adds_3 : decode cX2_adds 3 = .ok (.lstore 5, 2) := by decide +kernel
theorem dX2_adds_5 : decode cX2_adds 5 = .ok (.iconst 0, 1) := by decide +kernel
theorem dX2_adds_6 : decode cX2_adds 6 = .ok (.istore 7, 2) := by decide +kernel
theorem dX2_adds_8 : decode cX2_adds 8 = .ok (.iload 7, 2) := by decide +kernel
theorem dX2_adds_10 : decode cX2_adds 10 = .ok (.aload_n 0, 1) := by decide +kernel
theorem dX2_adds_11 : decode cX2_adds 11 = .ok (.getfield 15, 3) := by decide +kernel
theorem dX2_adds_14 : decode cX2_adds 14 = .ok (.if_icmp .ge 36, 3) := by decide +kernel
theorem dX2_adds_17 : decode cX2_adds 17 = .ok (.lload_n 3, 1) := by decide +kernel
theorem dX2_adds_18 : decode cX2_adds 18 = .ok (.aload_n 0, 1) := by decide +kernel
theorem dX2_adds_19 : decode cX2_adds 19 = .ok (.getfield 9, 3) := by decide +kernel
theorem dX2_adds_22 : decode cX2_adds 22 = .ok (.iload 7, 2) := by decide +kernel
theorem dX2_adds_24 : decode cX2_adds 24 = .ok (.iaload, 1) := by decide +kernel
theorem dX2_adds_25 : decode cX2_adds 25 = .ok (.i2l, 1) := by decide +kernel
theorem dX2_adds_26 : decode cX2_adds 26 = .ok (.lmul, 1) := by decide +kernel
theorem dX2_adds_27 : decode cX2_adds 27 = .ok (.lload 5, 2) := by decide +kernel
theorem dX2_adds_29 : decode cX2_adds 29 = .ok (.ladd, 1) := by decide +kernel
theorem dX2_adds_30 : decode cX2_adds 30 = .ok (.lstore_n 3, 1) := by decide +kernel
theorem dX2_adds_31 : decode cX2_adds 31 = .ok (.lload 5, 2) := by decide +kernel
theorem dX2_adds_33 : decode cX2_adds 33 = .ok (.aload_n 0, 1) := by decide +kernel
theorem dX2_adds_34 : decode cX2_adds 34 = .ok (.getfield 9, 3) := by decide +kernel
theorem dX2_adds_37 : decode cX2_adds 37 = .ok (.iload 7, 2) := by decide +kernel
theorem dX2_adds_39 : decode cX2_adds 39 = .ok (.iaload, 1) := by decide +kernel
theorem dX2_adds_40 : decode cX2_adds 40 = .ok (.i2l, 1) := by decide +kernel
theorem dX2_adds_41 : decode cX2_adds 41 = .ok (.lmul, 1) := by decide +kernel
theorem dX2_adds_42 : decode cX2_adds 42 = .ok (.lstore 5, 2) := by decide +kernel
theorem dX2_adds_44 : decode cX2_adds 44 = .ok (.iinc 7 1, 3) := by decide +kernel
theorem dX2_adds_47 : decode cX2_adds 47 = .ok (.goto (-39), 3) := by decide +kernel
theorem dX2_adds_50 : decode cX2_adds 50 = .ok (.lload_n 3, 1) := by decide +kernel
theorem dX2_adds_51 : decode cX2_adds 51 = .ok (.iload_n 2, 1) := by decide +kernel
theorem dX2_adds_52 : decode cX2_adds 52 = .ok (.i2l, 1) := by decide +kernel
theorem dX2_adds_53 : decode cX2_adds 53 = .ok (.lmul, 1) := by decide +kernel
theorem dX2_adds_54 : decode cX2_adds 54 = .ok (.lload 5, 2) := by decide +kernel
theorem dX2_adds_56 : decode cX2_adds 56 = .ok (.iload_n 1, 1) := by decide +kernel
theorem dX2_adds_57 : decode cX2_adds 57 = .ok (.i2l, 1) := by decide +kernel
theorem dX2_adds_58 : decode cX2_adds 58 = .ok (.lmul, 1) := by decide +kernel
theorem dX2_adds_59 : decode cX2_adds 59 = .ok (.lcmp, 1) := by decide +kernel
theorem dX2_adds_60 : decode cX2_adds 60 = .ok (.ifCond .ne 7, 3) := by decide +kernel
theorem dX2_adds_63 : decode cX2_adds 63 = .ok (.iconst 1, 1) := by decide +kernel
theorem dX2_adds_64 : decode cX2_adds 64 = .ok (.goto 4, 3) := by decide +kernel
theorem dX2_adds_67 : decode cX2_adds 67 = .ok (.iconst 0, 1) := by decide +kernel
theorem dX2_adds_68 : decode cX2_adds 68 = .ok (.ireturn, 1) := by decide +kernel
theorem dX3_init_0 : decode cX3_init 0 = .ok (.aload_n 0, 1) := by decide +kernel
theorem dX3_init_1 : decode cX3_init 1 = .ok (.invokespecial 3, 3) := by decide +kernel
theorem dX3_init_4 : decode cX3_init 4 = .ok (.aload_n 0, 1) := by decide +kernel
theorem dX3_init_5 : decode cX3_init 5 = .ok (.bipush 60, 2) := by decide +kernel
theorem dX3_init_7 : decode cX3_init 7 = .ok (.newarray .char, 2) := by decide +kernel
theorem dX3_init_9 : decode cX3_init 9 = .ok (.putfield 9, 3) := by decide +kernel
theorem dX3_init_12 : decode cX3_init 12 = .ok (.aload_n 0, 1) := by decide +kernel
theorem dX3_init_13 : decode cX3_init 13 = .ok (.iconst 0, 1) := by decide +kernel
theorem dX3_init_14 : decode cX3_init 14 = .ok (.putfield 15, 3) := by decide +kernel
theorem dX3_init_17 : decode cX3_init 17 = .ok (.aload_n 0, 1) := by decide +kernel
theorem dX3_init_18 : decode cX3_init 18 = .ok (.iconst 0, 1) := by decide +kernel
theorem dX3_init_19 : decode cX3_init 19 = .ok (.putfield 19, 3) := by decide +kernel
theorem dX3_init_22 : decode cX3_init 22 = .ok (.aload_n 0, 1) := by decide +kernel
theorem dX3_init_23 : decode cX3_init 23 = .ok (.iconst 0, 1) := by decide +kernel
theorem dX3_init_24 : decode cX3_init 24 = .ok (.putfield 22, 3) := by decide +kernel
theorem dX3_init_27 : decode cX3_init 27 = .ok (.aload_n 0, 1) := by decide +kernel
theorem dX3_init_28 : decode cX3_init 28 = .ok (.iconst 0, 1) := by decide +kernel
theorem dX3_init_29 : decode cX3_init 29 = .ok (.putfield 25, 3) := by decide +kernel
theorem dX3_init_32 : decode cX3_init 32 = .ok (.aload_n 0, 1) := by decide +kernel
theorem dX3_init_33 : decode cX3_init 33 = .ok (.iconst 0, 1) := by decide +kernel
theorem dX3_init_34 : decode cX3_init 34 = .ok (.putfield 28, 3) := by decide +kernel
theorem dX3_init_37 : decode cX3_init 37 = .ok (.aload_n 0, 1) := by decide +kernel
theorem dX3_init_38 : decode cX3_init 38 = .ok (.iconst 2, 1) := by decide +kernel
theorem dX3_init_39 : decode cX3_init 39 = .ok (.putfield 31, 3) := by decide +kernel
theorem dX3_init_42 : decode cX3_init 42 = .ok (.aload_n 0, 1) := by decide +kernel
theorem dX3_init_43 : decode cX3_init 43 = .ok (.iconst 3, 1) := by decide +kernel
theorem dX3_init_44 : decode cX3_init 44 = .ok (.putfield 34, 3) := by decide +kernel
theorem dX3_init_47 : decode cX3_init 47 = .ok (.aload_n 0, 1) := by decide +kernel
theorem dX3_init_48 : decode cX3_init 48 = .ok (.new 37, 3) := by decide +kernel
theorem dX3_init_51 : decode cX3_init 51 = .ok (.dup, 1) := by decide +kernel
theorem dX3_init_52 : decode cX3_init 52 = .ok (.invokespecial 39, 3) := by decide +kernel
theorem dX3_init_55 : decode cX3_init 55 = .ok (.putfield 40, 3) := by decide +kernel
theorem dX3_init_58 : decode cX3_init 58 = .ok (.return_, 1) := by decide +kernel
theorem dX3_length_0 : decode cX3_length 0 = .ok (.aload_n 0, 1) := by decide +kernel
theorem dX3_length_1 : decode cX3_length 1 = .ok (.getfield 15, 3) := by decide +kernel
theorem dX3_length_4 : decode cX3_length 4 = .ok (.ireturn, 1) := by decide +kernel
theorem dX3_wipe_0 : decode cX3_wipe 0 = .ok (.aload_n 0, 1) := by decide +kernel
theorem dX3_wipe_1 : decode cX3_wipe 1 = .ok (.iconst 0, 1) := by decide +kernel
theorem dX3_wipe_2 : decode cX3_wipe 2 = .ok (.putfield 15, 3) := by decide +kernel
theorem dX3_wipe_5 : decode cX3_wipe 5 = .ok (.return_, 1) := by decide +kernel
theorem dX3_append_0 : decode cX3_append 0 = .ok (.aload_n 0, 1) := by decide +kernel
theorem dX3_append_1 : decode cX3_append 1 = .ok (.getfield 15, 3) := by decide +kernel
theorem dX3_append_4 : decode cX3_append 4 = .ok (.bipush 60, 2) := by decide +kernel
theorem dX3_append_6 : decode cX3_append 6 = .ok (.if_icmp .lt 5, 3) := by decide +kernel
theorem dX3_append_9 : decode cX3_append 9 = .ok (.iconst 0, 1) := by decide +kernel
theorem dX3_append_10 : decode cX3_append 10 = .ok (.ireturn, 1) := by decide +kernel
theorem dX3_append_11 : decode cX3_append 11 = .ok (.aload_n 0, 1) := by decide +kernel
theorem dX3_append_12 : decode cX3_append 12 = .ok (.getfield 9, 3) := by decide +kernel
theorem dX3_append_15 : decode cX3_append 15 = .ok (.aload_n 0, 1) := by decide +kernel
theorem dX3_append_16 : decode cX3_append 16 = .ok (.getfield 15, 3) := by decide +kernel
theorem dX3_append_19 : decode cX3_append 19 = .ok (.iload_n 1, 1) := by decide +kernel
theorem dX3_append_20 : decode cX3_append 20 = .ok (.i2c, 1) := by decide +kernel
theorem dX3_append_21 : decode cX3_append 21 = .ok (.castore, 1) := by decide +kernel
theorem dX3_append_22 : decode cX3_append 22 = .ok (.aload_n 0, 1) := by decide +kernel
theorem dX3_append_23 : decode cX3_append 23 = .ok (.dup, 1) := by decide +kernel
theorem dX3_append_24 : decode cX3_append 24 = .ok (.getfield 15, 3) := by decide +kernel
theorem dX3_append_27 : decode cX3_append 27 = .ok (.iconst 1, 1) := by decide +kernel
theorem dX3_append_28 : decode cX3_append 28 = .ok (.iadd, 1) := by decide +kernel
theorem dX3_append_29 : decode cX3_append 29 = .ok (.putfield 15, 3) := by decide +kernel
theorem dX3_append_32 : decode cX3_append 32 = .ok (.iconst 1, 1) := by decide +kernel
theorem dX3_append_33 : decode cX3_append 33 = .ok (.ireturn, 1) := by decide +kernel
theorem dX3_toldP_0 : decode cX3_toldP 0 = .ok (.aload_n 0, 1) := by decide +kernel
theorem dX3_toldP_1 : decode cX3_toldP 1 = .ok (.getfield 31, 3) := by decide +kernel
theorem dX3_toldP_4 : decode cX3_toldP 4 = .ok (.ireturn, 1) := by decide +kernel
theorem dX3_toldQ_0 : decode cX3_toldQ 0 = .ok (.aload_n 0, 1) := by decide +kernel
theorem dX3_toldQ_1 : decode cX3_toldQ 1 = .ok (.getfield 34, 3) := by decide +kernel
theorem dX3_toldQ_4 : decode cX3_toldQ 4 = .ok (.ireturn, 1) := by decide +kernel
theorem dX3_toldTerms_0 : decode cX3_toldTerms 0 = .ok (.aload_n 0, 1) := by decide +kernel
theorem dX3_toldTerms_1 : decode cX3_toldTerms 1 = .ok (.getfield 40, 3) := by decide +kernel
theorem dX3_toldTerms_4 : decode cX3_toldTerms 4 = .ok (.areturn, 1) := by decide +kernel
theorem dX3_read_0 : decode cX3_read 0 = .ok (.aload_n 0, 1) := by decide +kernel
theorem dX3_read_1 : decode cX3_read 1 = .ok (.iconst 0, 1) := by decide +kernel
theorem dX3_read_2 : decode cX3_read 2 = .ok (.putfield 19, 3) := by decide +kernel
theorem dX3_read_5 : decode cX3_read 5 = .ok (.aload_n 0, 1) := by decide +kernel
theorem dX3_read_6 : decode cX3_read 6 = .ok (.iconst 2, 1) := by decide +kernel
theorem dX3_read_7 : decode cX3_read 7 = .ok (.putfield 31, 3) := by decide +kernel
theorem dX3_read_10 : decode cX3_read 10 = .ok (.aload_n 0, 1) := by decide +kernel
theorem dX3_read_11 : decode cX3_read 11 = .ok (.iconst 3, 1) := by decide +kernel
theorem dX3_read_12 : decode cX3_read 12 = .ok (.putfield 34, 3) := by decide +kernel
theorem dX3_read_15 : decode cX3_read 15 = .ok (.aload_n 0, 1) := by decide +kernel
theorem dX3_read_16 : decode cX3_read 16 = .ok (.getfield 40, 3) := by decide +kernel
theorem dX3_read_19 : decode cX3_read 19 = .ok (.invokevirtual 44, 3) := by decide +kernel
theorem dX3_read_22 : decode cX3_read 22 = .ok (.iconst 0, 1) := by decide +kernel
theorem dX3_read_23 : decode cX3_read 23 = .ok (.istore_n 1, 1) := by decide +kernel
theorem dX3_read_24 : decode cX3_read 24 = .ok (.iconst 0, 1) := by decide +kernel
theorem dX3_read_25 : decode cX3_read 25 = .ok (.istore_n 2, 1) := by decide +kernel
theorem dX3_read_26 : decode cX3_read 26 = .ok (.iload_n 2, 1) := by decide +kernel
theorem dX3_read_27 : decode cX3_read 27 = .ok (.bipush 60, 2) := by decide +kernel
theorem dX3_read_29 : decode cX3_read 29 = .ok (.if_icmp .ge 43, 3) := by decide +kernel
theorem dX3_read_32 : decode cX3_read 32 = .ok (.aload_n 0, 1) := by decide +kernel
theorem dX3_read_33 : decode cX3_read 33 = .ok (.invokevirtual 47, 3) := by decide +kernel
theorem dX3_read_36 : decode cX3_read 36 = .ok (.aload_n 0, 1) := by decide +kernel
theorem dX3_read_37 : decode cX3_read 37 = .ok (.getfield 22, 3) := by decide +kernel
theorem dX3_read_40 : decode cX3_read 40 = .ok (.ifCond .ne 6, 3) := by decide +kernel
theorem dX3_read_43 : decode cX3_read 43 = .ok (.goto 29, 3) := by decide +kernel
theorem dX3_read_46 : decode cX3_read 46 = .ok (.aload_n 0, 1) := by decide +kernel
theorem dX3_read_47 : decode cX3_read 47 = .ok (.iload_n 1, 1) := by decide +kernel
theorem dX3_read_48 : decode cX3_read 48 = .ok (.invokevirtual 50, 3) := by decide +kernel
theorem dX3_read_51 : decode cX3_read 51 = .ok (.istore_n 1, 1) := by decide +kernel
theorem dX3_read_52 : decode cX3_read 52 = .ok (.iload_n 1, 1) := by decide +kernel
theorem dX3_read_53 : decode cX3_read 53 = .ok (.bipush 8, 2) := by decide +kernel
theorem dX3_read_55 : decode cX3_read 55 = .ok (.if_icmp .ne 11, 3) := by decide +kernel
theorem dX3_read_58 : decode cX3_read 58 = .ok (.bipush (-10), 2) := by decide +kernel
theorem dX3_read_60 : decode cX3_read 60 = .ok (.aload_n 0, 1) := by decide +kernel
theorem dX3_read_61 : decode cX3_read 61 = .ok (.getfield 25, 3) := by decide +kernel
theorem dX3_read_64 : decode cX3_read 64 = .ok (.isub, 1) := by decide +kernel
theorem dX3_read_65 : decode cX3_read 65 = .ok (.ireturn, 1) := by decide +kernel
theorem dX3_read_66 : decode cX3_read 66 = .ok (.iinc 2 1, 3) := by decide +kernel
theorem dX3_read_69 : decode cX3_read 69 = .ok (.goto (-43), 3) := by decide +kernel
theorem dX3_read_72 : decode cX3_read 72 = .ok (.iload_n 1, 1) := by decide +kernel
theorem dX3_read_73 : decode cX3_read 73 = .ok (.lookupswitch 41 #[(0, 35), (4, 37), (7, 39)], 35) := by decide +kernel
theorem dX3_read_108 : decode cX3_read 108 = .ok (.iconst 0, 1) := by decide +kernel
theorem dX3_read_109 : decode cX3_read 109 = .ok (.ireturn, 1) := by decide +kernel
theorem dX3_read_110 : decode cX3_read 110 = .ok (.iconst 1, 1) := by decide +kernel
theorem dX3_read_111 : decode cX3_read 111 = .ok (.ireturn, 1) := by decide +kernel
theorem dX3_read_112 : decode cX3_read 112 = .ok (.iconst 2, 1) := by decide +kernel
theorem dX3_read_113 : decode cX3_read 113 = .ok (.ireturn, 1) := by decide +kernel
theorem dX3_read_114 : decode cX3_read 114 = .ok (.bipush (-10), 2) := by decide +kernel
theorem dX3_read_116 : decode cX3_read 116 = .ok (.aload_n 0, 1) := by decide +kernel
theorem dX3_read_117 : decode cX3_read 117 = .ok (.getfield 15, 3) := by decide +kernel
theorem dX3_read_120 : decode cX3_read 120 = .ok (.isub, 1) := by decide +kernel
theorem dX3_read_121 : decode cX3_read 121 = .ok (.ireturn, 1) := by decide +kernel
theorem dX3_follow_0 : decode cX3_follow 0 = .ok (.iload_n 1, 1) := by decide +kernel
theorem dX3_follow_1 : decode cX3_follow 1 = .ok (.tableswitch 123 0 6 #[43, 58, 63, 68, 83, 98, 103], 43) := by decide +kernel
theorem dX3_follow_44 : decode cX3_follow 44 = .ok (.aload_n 0, 1) := by decide +kernel
theorem dX3_follow_45 : decode cX3_follow 45 = .ok (.getfield 22, 3) := by decide +kernel
theorem dX3_follow_48 : decode cX3_follow 48 = .ok (.iconst 1, 1) := by decide +kernel
theorem dX3_follow_49 : decode cX3_follow 49 = .ok (.if_icmp .ne 7, 3) := by decide +kernel
theorem dX3_follow_52 : decode cX3_follow 52 = .ok (.iconst 1, 1) := by decide +kernel
theorem dX3_follow_53 : decode cX3_follow 53 = .ok (.goto 5, 3) := by decide +kernel
theorem dX3_follow_56 : decode cX3_follow 56 = .ok (.bipush 8, 2) := by decide +kernel
theorem dX3_follow_58 : decode cX3_follow 58 = .ok (.ireturn, 1) := by decide +kernel
theorem dX3_follow_59 : decode cX3_follow 59 = .ok (.aload_n 0, 1) := by decide +kernel
theorem dX3_follow_60 : decode cX3_follow 60 = .ok (.invokevirtual 54, 3) := by decide +kernel
theorem dX3_follow_63 : decode cX3_follow 63 = .ok (.ireturn, 1) := by decide +kernel
theorem dX3_follow_64 : decode cX3_follow 64 = .ok (.aload_n 0, 1) := by decide +kernel
theorem dX3_follow_65 : decode cX3_follow 65 = .ok (.invokevirtual 58, 3) := by decide +kernel
theorem dX3_follow_68 : decode cX3_follow 68 = .ok (.ireturn, 1) := by decide +kernel
theorem dX3_follow_69 : decode cX3_follow 69 = .ok (.aload_n 0, 1) := by decide +kernel
theorem dX3_follow_70 : decode cX3_follow 70 = .ok (.getfield 22, 3) := by decide +kernel
theorem dX3_follow_73 : decode cX3_follow 73 = .ok (.iconst 3, 1) := by decide +kernel
theorem dX3_follow_74 : decode cX3_follow 74 = .ok (.if_icmp .ne 7, 3) := by decide +kernel
theorem dX3_follow_77 : decode cX3_follow 77 = .ok (.iconst 4, 1) := by decide +kernel
theorem dX3_follow_78 : decode cX3_follow 78 = .ok (.goto 5, 3) := by decide +kernel
theorem dX3_follow_81 : decode cX3_follow 81 = .ok (.bipush 8, 2) := by decide +kernel
theorem dX3_follow_83 : decode cX3_follow 83 = .ok (.ireturn, 1) := by decide +kernel
theorem dX3_follow_84 : decode cX3_follow 84 = .ok (.aload_n 0, 1) := by decide +kernel
theorem dX3_follow_85 : decode cX3_follow 85 = .ok (.getfield 22, 3) := by decide +kernel
theorem dX3_follow_88 : decode cX3_follow 88 = .ok (.iconst 2, 1) := by decide +kernel
theorem dX3_follow_89 : decode cX3_follow 89 = .ok (.if_icmp .ne 7, 3) := by decide +kernel
theorem dX3_follow_92 : decode cX3_follow 92 = .ok (.iconst 5, 1) := by decide +kernel
theorem dX3_follow_93 : decode cX3_follow 93 = .ok (.goto 5, 3) := by decide +kernel
theorem dX3_follow_96 : decode cX3_follow 96 = .ok (.bipush 8, 2) := by decide +kernel
theorem dX3_follow_98 : decode cX3_follow 98 = .ok (.ireturn, 1) := by decide +kernel
theorem dX3_follow_99 : decode cX3_follow 99 = .ok (.aload_n 0, 1) := by decide +kernel
theorem dX3_follow_100 : decode cX3_follow 100 = .ok (.invokevirtual 61, 3) := by decide +kernel
theorem dX3_follow_103 : decode cX3_follow 103 = .ok (.ireturn, 1) := by decide +kernel
theorem dX3_follow_104 : decode cX3_follow 104 = .ok (.aload_n 0, 1) := by decide +kernel
theorem dX3_follow_105 : decode cX3_follow 105 = .ok (.getfield 22, 3) := by decide +kernel
theorem dX3_follow_108 : decode cX3_follow 108 = .ok (.iconst 3, 1) := by decide +kernel
theorem dX3_follow_109 : decode cX3_follow 109 = .ok (.if_icmp .ne 10, 3) := by decide +kernel
theorem dX3_follow_112 : decode cX3_follow 112 = .ok (.aload_n 0, 1) := by decide +kernel
theorem dX3_follow_113 : decode cX3_follow 113 = .ok (.invokevirtual 64, 3) := by decide +kernel
theorem dX3_follow_116 : decode cX3_follow 116 = .ok (.goto 7, 3) := by decide +kernel
theorem dX3_follow_119 : decode cX3_follow 119 = .ok (.aload_n 0, 1) := by decide +kernel
theorem dX3_follow_120 : decode cX3_follow 120 = .ok (.invokevirtual 61, 3) := by decide +kernel
theorem dX3_follow_123 : decode cX3_follow 123 = .ok (.ireturn, 1) := by decide +kernel
theorem dX3_follow_124 : decode cX3_follow 124 = .ok (.bipush 8, 2) := by decide +kernel
theorem dX3_follow_126 : decode cX3_follow 126 = .ok (.ireturn, 1) := by decide +kernel
theorem dX3_isNumberTo_0 : decode cX3_isNumberTo 0 = .ok (.aload_n 0, 1) := by decide +kernel
theorem dX3_isNumberTo_1 : decode cX3_isNumberTo 1 = .ok (.getfield 22, 3) := by decide +kernel
theorem dX3_isNumberTo_4 : decode cX3_isNumberTo 4 = .ok (.iconst 4, 1) := by decide +kernel
theorem dX3_isNumberTo_5 : decode cX3_isNumberTo 5 = .ok (.if_icmp .ne 23, 3) := by decide +kernel
theorem dX3_isNumberTo_8 : decode cX3_isNumberTo 8 = .ok (.aload_n 0, 1) := by decide +kernel
theorem dX3_isNumberTo_9 : decode cX3_isNumberTo 9 = .ok (.getfield 28, 3) := by decide +kernel
theorem dX3_isNumberTo_12 : decode cX3_isNumberTo 12 = .ok (.iconst 1, 1) := by decide +kernel
theorem dX3_isNumberTo_13 : decode cX3_isNumberTo 13 = .ok (.if_icmp .lt 15, 3) := by decide +kernel
theorem dX3_isNumberTo_16 : decode cX3_isNumberTo 16 = .ok (.aload_n 0, 1) := by decide +kernel
theorem dX3_isNumberTo_17 : decode cX3_isNumberTo 17 = .ok (.getfield 28, 3) := by decide +kernel
theorem dX3_isNumberTo_20 : decode cX3_isNumberTo 20 = .ok (.iload_n 1, 1) := by decide +kernel
theorem dX3_isNumberTo_21 : decode cX3_isNumberTo 21 = .ok (.if_icmp .gt 7, 3) := by decide +kernel
theorem dX3_isNumberTo_24 : decode cX3_isNumberTo 24 = .ok (.iconst 1, 1) := by decide +kernel
theorem dX3_isNumberTo_25 : decode cX3_isNumberTo 25 = .ok (.goto 4, 3) := by decide +kernel
theorem dX3_isNumberTo_28 : decode cX3_isNumberTo 28 = .ok (.iconst 0, 1) := by decide +kernel
theorem dX3_isNumberTo_29 : decode cX3_isNumberTo 29 = .ok (.ireturn, 1) := by decide +kernel
theorem dX3_takeAbove_0 : decode cX3_takeAbove 0 = .ok (.aload_n 0, 1) := by decide +kernel
theorem dX3_takeAbove_1 : decode cX3_takeAbove 1 = .ok (.bipush 99, 2) := by decide +kernel
theorem dX3_takeAbove_3 : decode cX3_takeAbove 3 = .ok (.invokevirtual 67, 3) := by decide +kernel
theorem dX3_takeAbove_6 : decode cX3_takeAbove 6 = .ok (.ifCond .ne 6, 3) := by decide +kernel
theorem dX3_takeAbove_9 : decode cX3_takeAbove 9 = .ok (.bipush 8, 2) := by decide +kernel
theorem dX3_takeAbove_11 : decode cX3_takeAbove 11 = .ok (.ireturn, 1) := by decide +kernel
theorem dX3_takeAbove_12 : decode cX3_takeAbove 12 = .ok (.aload_n 0, 1) := by decide +kernel
theorem dX3_takeAbove_13 : decode cX3_takeAbove 13 = .ok (.aload_n 0, 1) := by decide +kernel
theorem dX3_takeAbove_14 : decode cX3_takeAbove 14 = .ok (.getfield 28, 3) := by decide +kernel
theorem dX3_takeAbove_17 : decode cX3_takeAbove 17 = .ok (.putfield 31, 3) := by decide +kernel
theorem dX3_takeAbove_20 : decode cX3_takeAbove 20 = .ok (.iconst 2, 1) := by decide +kernel
theorem dX3_takeAbove_21 : decode cX3_takeAbove 21 = .ok (.ireturn, 1) := by decide +kernel
theorem dX3_takeBelow_0 : decode cX3_takeBelow 0 = .ok (.aload_n 0, 1) := by decide +kernel
theorem dX3_takeBelow_1 : decode cX3_takeBelow 1 = .ok (.bipush 99, 2) := by decide +kernel
theorem dX3_takeBelow_3 : decode cX3_takeBelow 3 = .ok (.invokevirtual 67, 3) := by decide +kernel
theorem dX3_takeBelow_6 : decode cX3_takeBelow 6 = .ok (.ifCond .eq 16, 3) := by decide +kernel
theorem dX3_takeBelow_9 : decode cX3_takeBelow 9 = .ok (.aload_n 0, 1) := by decide +kernel
theorem dX3_takeBelow_10 : decode cX3_takeBelow 10 = .ok (.getfield 31, 3) := by decide +kernel
theorem dX3_takeBelow_13 : decode cX3_takeBelow 13 = .ok (.iconst 2, 1) := by decide +kernel
theorem dX3_takeBelow_14 : decode cX3_takeBelow 14 = .ok (.aload_n 0, 1) := by decide +kernel
theorem dX3_takeBelow_15 : decode cX3_takeBelow 15 = .ok (.getfield 28, 3) := by decide +kernel
theorem dX3_takeBelow_18 : decode cX3_takeBelow 18 = .ok (.imul, 1) := by decide +kernel
theorem dX3_takeBelow_19 : decode cX3_takeBelow 19 = .ok (.if_icmp .le 6, 3) := by decide +kernel
theorem dX3_takeBelow_22 : decode cX3_takeBelow 22 = .ok (.bipush 8, 2) := by decide +kernel
theorem dX3_takeBelow_24 : decode cX3_takeBelow 24 = .ok (.ireturn, 1) := by decide +kernel
theorem dX3_takeBelow_25 : decode cX3_takeBelow 25 = .ok (.aload_n 0, 1) := by decide +kernel
theorem dX3_takeBelow_26 : decode cX3_takeBelow 26 = .ok (.aload_n 0, 1) := by decide +kernel
theorem dX3_takeBelow_27 : decode cX3_takeBelow 27 = .ok (.getfield 28, 3) := by decide +kernel
theorem dX3_takeBelow_30 : decode cX3_takeBelow 30 = .ok (.putfield 34, 3) := by decide +kernel
theorem dX3_takeBelow_33 : decode cX3_takeBelow 33 = .ok (.iconst 3, 1) := by decide +kernel
theorem dX3_takeBelow_34 : decode cX3_takeBelow 34 = .ok (.ireturn, 1) := by decide +kernel
theorem dX3_takeTerm_0 : decode cX3_takeTerm 0 = .ok (.aload_n 0, 1) := by decide +kernel
theorem dX3_takeTerm_1 : decode cX3_takeTerm 1 = .ok (.bipush 60, 2) := by decide +kernel
theorem dX3_takeTerm_3 : decode cX3_takeTerm 3 = .ok (.invokevirtual 67, 3) := by decide +kernel
theorem dX3_takeTerm_6 : decode cX3_takeTerm 6 = .ok (.ifCond .eq 26, 3) := by decide +kernel
theorem dX3_takeTerm_9 : decode cX3_takeTerm 9 = .ok (.aload_n 0, 1) := by decide +kernel
theorem dX3_takeTerm_10 : decode cX3_takeTerm 10 = .ok (.getfield 28, 3) := by decide +kernel
theorem dX3_takeTerm_13 : decode cX3_takeTerm 13 = .ok (.aload_n 0, 1) := by decide +kernel
theorem dX3_takeTerm_14 : decode cX3_takeTerm 14 = .ok (.getfield 40, 3) := by decide +kernel
theorem dX3_takeTerm_17 : decode cX3_takeTerm 17 = .ok (.aload_n 0, 1) := by decide +kernel
theorem dX3_takeTerm_18 : decode cX3_takeTerm 18 = .ok (.getfield 40, 3) := by decide +kernel
theorem dX3_takeTerm_21 : decode cX3_takeTerm 21 = .ok (.invokevirtual 71, 3) := by decide +kernel
theorem dX3_takeTerm_24 : decode cX3_takeTerm 24 = .ok (.iconst 1, 1) := by decide +kernel
theorem dX3_takeTerm_25 : decode cX3_takeTerm 25 = .ok (.isub, 1) := by decide +kernel
theorem dX3_takeTerm_26 : decode cX3_takeTerm 26 = .ok (.invokevirtual 73, 3) := by decide +kernel
theorem dX3_takeTerm_29 : decode cX3_takeTerm 29 = .ok (.if_icmp .gt 6, 3) := by decide +kernel
theorem dX3_takeTerm_32 : decode cX3_takeTerm 32 = .ok (.bipush 8, 2) := by decide +kernel
theorem dX3_takeTerm_34 : decode cX3_takeTerm 34 = .ok (.ireturn, 1) := by decide +kernel
theorem dX3_takeTerm_35 : decode cX3_takeTerm 35 = .ok (.aload_n 0, 1) := by decide +kernel
theorem dX3_takeTerm_36 : decode cX3_takeTerm 36 = .ok (.getfield 40, 3) := by decide +kernel
theorem dX3_takeTerm_39 : decode cX3_takeTerm 39 = .ok (.aload_n 0, 1) := by decide +kernel
theorem dX3_takeTerm_40 : decode cX3_takeTerm 40 = .ok (.getfield 28, 3) := by decide +kernel
theorem dX3_takeTerm_43 : decode cX3_takeTerm 43 = .ok (.i2l, 1) := by decide +kernel
theorem dX3_takeTerm_44 : decode cX3_takeTerm 44 = .ok (.invokevirtual 76, 3) := by decide +kernel
theorem dX3_takeTerm_47 : decode cX3_takeTerm 47 = .ok (.ifCond .eq 8, 3) := by decide +kernel
theorem dX3_takeTerm_50 : decode cX3_takeTerm 50 = .ok (.bipush 6, 2) := by decide +kernel
theorem dX3_takeTerm_52 : decode cX3_takeTerm 52 = .ok (.goto 5, 3) := by decide +kernel
theorem dX3_takeTerm_55 : decode cX3_takeTerm 55 = .ok (.bipush 8, 2) := by decide +kernel
theorem dX3_takeTerm_57 : decode cX3_takeTerm 57 = .ok (.ireturn, 1) := by decide +kernel
theorem dX3_endSum_0 : decode cX3_endSum 0 = .ok (.aload_n 0, 1) := by decide +kernel
theorem dX3_endSum_1 : decode cX3_endSum 1 = .ok (.getfield 40, 3) := by decide +kernel
theorem dX3_endSum_4 : decode cX3_endSum 4 = .ok (.aload_n 0, 1) := by decide +kernel
theorem dX3_endSum_5 : decode cX3_endSum 5 = .ok (.getfield 31, 3) := by decide +kernel
theorem dX3_endSum_8 : decode cX3_endSum 8 = .ok (.aload_n 0, 1) := by decide +kernel
theorem dX3_endSum_9 : decode cX3_endSum 9 = .ok (.getfield 34, 3) := by decide +kernel
theorem dX3_endSum_12 : decode cX3_endSum 12 = .ok (.invokevirtual 80, 3) := by decide +kernel
theorem dX3_endSum_15 : decode cX3_endSum 15 = .ok (.ifCond .eq 8, 3) := by decide +kernel
theorem dX3_endSum_18 : decode cX3_endSum 18 = .ok (.bipush 7, 2) := by decide +kernel
theorem dX3_endSum_20 : decode cX3_endSum 20 = .ok (.goto 5, 3) := by decide +kernel
theorem dX3_endSum_23 : decode cX3_endSum 23 = .ok (.bipush 8, 2) := by decide +kernel
theorem dX3_endSum_25 : decode cX3_endSum 25 = .ok (.ireturn, 1) := by decide +kernel
theorem dX3_readToken_0 : decode cX3_readToken 0 = .ok (.aload_n 0, 1) := by decide +kernel
theorem dX3_readToken_1 : decode cX3_readToken 1 = .ok (.getfield 19, 3) := by decide +kernel
theorem dX3_readToken_4 : decode cX3_readToken 4 = .ok (.aload_n 0, 1) := by decide +kernel
theorem dX3_readToken_5 : decode cX3_readToken 5 = .ok (.getfield 15, 3) := by decide +kernel
theorem dX3_readToken_8 : decode cX3_readToken 8 = .ok (.if_icmp .ge 30, 3) := by decide +kernel
theorem dX3_readToken_11 : decode cX3_readToken 11 = .ok (.aload_n 0, 1) := by decide +kernel
theorem dX3_readToken_12 : decode cX3_readToken 12 = .ok (.getfield 9, 3) := by decide +kernel
theorem dX3_readToken_15 : decode cX3_readToken 15 = .ok (.aload_n 0, 1) := by decide +kernel
theorem dX3_readToken_16 : decode cX3_readToken 16 = .ok (.getfield 19, 3) := by decide +kernel
theorem dX3_readToken_19 : decode cX3_readToken 19 = .ok (.caload, 1) := by decide +kernel
theorem dX3_readToken_20 : decode cX3_readToken 20 = .ok (.bipush 32, 2) := by decide +kernel
theorem dX3_readToken_22 : decode cX3_readToken 22 = .ok (.if_icmp .ne 16, 3) := by decide +kernel
theorem dX3_readToken_25 : decode cX3_readToken 25 = .ok (.aload_n 0, 1) := by decide +kernel
theorem dX3_readToken_26 : decode cX3_readToken 26 = .ok (.dup, 1) := by decide +kernel
theorem dX3_readToken_27 : decode cX3_readToken 27 = .ok (.getfield 19, 3) := by decide +kernel
theorem dX3_readToken_30 : decode cX3_readToken 30 = .ok (.iconst 1, 1) := by decide +kernel
theorem dX3_readToken_31 : decode cX3_readToken 31 = .ok (.iadd, 1) := by decide +kernel
theorem dX3_readToken_32 : decode cX3_readToken 32 = .ok (.putfield 19, 3) := by decide +kernel
theorem dX3_readToken_35 : decode cX3_readToken 35 = .ok (.goto (-35), 3) := by decide +kernel
theorem dX3_readToken_38 : decode cX3_readToken 38 = .ok (.aload_n 0, 1) := by decide +kernel
theorem dX3_readToken_39 : decode cX3_readToken 39 = .ok (.aload_n 0, 1) := by decide +kernel
theorem dX3_readToken_40 : decode cX3_readToken 40 = .ok (.getfield 19, 3) := by decide +kernel
theorem dX3_readToken_43 : decode cX3_readToken 43 = .ok (.putfield 25, 3) := by decide +kernel
theorem dX3_readToken_46 : decode cX3_readToken 46 = .ok (.aload_n 0, 1) := by decide +kernel
theorem dX3_readToken_47 : decode cX3_readToken 47 = .ok (.getfield 19, 3) := by decide +kernel
theorem dX3_readToken_50 : decode cX3_readToken 50 = .ok (.aload_n 0, 1) := by decide +kernel
theorem dX3_readToken_51 : decode cX3_readToken 51 = .ok (.getfield 15, 3) := by decide +kernel
theorem dX3_readToken_54 : decode cX3_readToken 54 = .ok (.if_icmp .lt 9, 3) := by decide +kernel
theorem dX3_readToken_57 : decode cX3_readToken 57 = .ok (.aload_n 0, 1) := by decide +kernel
theorem dX3_readToken_58 : decode cX3_readToken 58 = .ok (.iconst 0, 1) := by decide +kernel
theorem dX3_readToken_59 : decode cX3_readToken 59 = .ok (.putfield 22, 3) := by decide +kernel
theorem dX3_readToken_62 : decode cX3_readToken 62 = .ok (.return_, 1) := by decide +kernel
theorem dX3_readToken_63 : decode cX3_readToken 63 = .ok (.aload_n 0, 1) := by decide +kernel
theorem dX3_readToken_64 : decode cX3_readToken 64 = .ok (.getfield 9, 3) := by decide +kernel
theorem dX3_readToken_67 : decode cX3_readToken 67 = .ok (.aload_n 0, 1) := by decide +kernel
theorem dX3_readToken_68 : decode cX3_readToken 68 = .ok (.getfield 19, 3) := by decide +kernel
theorem dX3_readToken_71 : decode cX3_readToken 71 = .ok (.caload, 1) := by decide +kernel
theorem dX3_readToken_72 : decode cX3_readToken 72 = .ok (.istore_n 1, 1) := by decide +kernel
theorem dX3_readToken_73 : decode cX3_readToken 73 = .ok (.iload_n 1, 1) := by decide +kernel
theorem dX3_readToken_74 : decode cX3_readToken 74 = .ok (.invokestatic 84, 3) := by decide +kernel
theorem dX3_readToken_77 : decode cX3_readToken 77 = .ok (.ifCond .eq 8, 3) := by decide +kernel
theorem dX3_readToken_80 : decode cX3_readToken 80 = .ok (.aload_n 0, 1) := by decide +kernel
theorem dX3_readToken_81 : decode cX3_readToken 81 = .ok (.invokevirtual 88, 3) := by decide +kernel
theorem dX3_readToken_84 : decode cX3_readToken 84 = .ok (.return_, 1) := by decide +kernel
theorem dX3_readToken_85 : decode cX3_readToken 85 = .ok (.aload_n 0, 1) := by decide +kernel
theorem dX3_readToken_86 : decode cX3_readToken 86 = .ok (.dup, 1) := by decide +kernel
theorem dX3_readToken_87 : decode cX3_readToken 87 = .ok (.getfield 19, 3) := by decide +kernel
theorem dX3_readToken_90 : decode cX3_readToken 90 = .ok (.iconst 1, 1) := by decide +kernel
theorem dX3_readToken_91 : decode cX3_readToken 91 = .ok (.iadd, 1) := by decide +kernel
theorem dX3_readToken_92 : decode cX3_readToken 92 = .ok (.putfield 19, 3) := by decide +kernel
theorem dX3_readToken_95 : decode cX3_readToken 95 = .ok (.aload_n 0, 1) := by decide +kernel
theorem dX3_readToken_96 : decode cX3_readToken 96 = .ok (.iload_n 1, 1) := by decide +kernel
theorem dX3_readToken_97 : decode cX3_readToken 97 = .ok (.invokestatic 91, 3) := by decide +kernel
theorem dX3_readToken_100 : decode cX3_readToken 100 = .ok (.putfield 22, 3) := by decide +kernel
theorem dX3_readToken_103 : decode cX3_readToken 103 = .ok (.return_, 1) := by decide +kernel
theorem dX3_kindOf_0 : decode cX3_kindOf 0 = .ok (.iload_n 0, 1) := by decide +kernel
theorem dX3_kindOf_1 : decode cX3_kindOf 1 = .ok (.lookupswitch 41 #[(59, 39), (112, 35), (115, 37)], 35) := by decide +kernel
theorem dX3_kindOf_36 : decode cX3_kindOf 36 = .ok (.iconst 1, 1) := by decide +kernel
theorem dX3_kindOf_37 : decode cX3_kindOf 37 = .ok (.ireturn, 1) := by decide +kernel
theorem dX3_kindOf_38 : decode cX3_kindOf 38 = .ok (.iconst 2, 1) := by decide +kernel
theorem dX3_kindOf_39 : decode cX3_kindOf 39 = .ok (.ireturn, 1) := by decide +kernel
theorem dX3_kindOf_40 : decode cX3_kindOf 40 = .ok (.iconst 3, 1) := by decide +kernel
theorem dX3_kindOf_41 : decode cX3_kindOf 41 = .ok (.ireturn, 1) := by decide +kernel
theorem dX3_kindOf_42 : decode cX3_kindOf 42 = .ok (.iconst 5, 1) := by decide +kernel
theorem dX3_kindOf_43 : decode cX3_kindOf 43 = .ok (.ireturn, 1) := by decide +kernel
theorem dX3_readNumber_0 : decode cX3_readNumber 0 = .ok (.aload_n 0, 1) := by decide +kernel
theorem dX3_readNumber_1 : decode cX3_readNumber 1 = .ok (.iconst 0, 1) := by decide +kernel
theorem dX3_readNumber_2 : decode cX3_readNumber 2 = .ok (.putfield 28, 3) := by decide +kernel
theorem dX3_readNumber_5 : decode cX3_readNumber 5 = .ok (.aload_n 0, 1) := by decide +kernel
theorem dX3_readNumber_6 : decode cX3_readNumber 6 = .ok (.getfield 19, 3) := by decide +kernel
theorem dX3_readNumber_9 : decode cX3_readNumber 9 = .ok (.aload_n 0, 1) := by decide +kernel
theorem dX3_readNumber_10 : decode cX3_readNumber 10 = .ok (.getfield 15, 3) := by decide +kernel
theorem dX3_readNumber_13 : decode cX3_readNumber 13 = .ok (.if_icmp .ge 60, 3) := by decide +kernel
theorem dX3_readNumber_16 : decode cX3_readNumber 16 = .ok (.aload_n 0, 1) := by decide +kernel
theorem dX3_readNumber_17 : decode cX3_readNumber 17 = .ok (.getfield 9, 3) := by decide +kernel
theorem dX3_readNumber_20 : decode cX3_readNumber 20 = .ok (.aload_n 0, 1) := by decide +kernel
theorem dX3_readNumber_21 : decode cX3_readNumber 21 = .ok (.getfield 19, 3) := by decide +kernel
theorem dX3_readNumber_24 : decode cX3_readNumber 24 = .ok (.caload, 1) := by decide +kernel
theorem dX3_readNumber_25 : decode cX3_readNumber 25 = .ok (.invokestatic 84, 3) := by decide +kernel
theorem dX3_readNumber_28 : decode cX3_readNumber 28 = .ok (.ifCond .eq 45, 3) := by decide +kernel
theorem dX3_readNumber_31 : decode cX3_readNumber 31 = .ok (.aload_n 0, 1) := by decide +kernel
theorem dX3_readNumber_32 : decode cX3_readNumber 32 = .ok (.bipush 100, 2) := by decide +kernel
theorem dX3_readNumber_34 : decode cX3_readNumber 34 = .ok (.aload_n 0, 1) := by decide +kernel
theorem dX3_readNumber_35 : decode cX3_readNumber 35 = .ok (.getfield 28, 3) := by decide +kernel
theorem dX3_readNumber_38 : decode cX3_readNumber 38 = .ok (.bipush 10, 2) := by decide +kernel
theorem dX3_readNumber_40 : decode cX3_readNumber 40 = .ok (.imul, 1) := by decide +kernel
theorem dX3_readNumber_41 : decode cX3_readNumber 41 = .ok (.aload_n 0, 1) := by decide +kernel
theorem dX3_readNumber_42 : decode cX3_readNumber 42 = .ok (.getfield 9, 3) := by decide +kernel
theorem dX3_readNumber_45 : decode cX3_readNumber 45 = .ok (.aload_n 0, 1) := by decide +kernel
theorem dX3_readNumber_46 : decode cX3_readNumber 46 = .ok (.getfield 19, 3) := by decide +kernel
theorem dX3_readNumber_49 : decode cX3_readNumber 49 = .ok (.caload, 1) := by decide +kernel
theorem dX3_readNumber_50 : decode cX3_readNumber 50 = .ok (.bipush 48, 2) := by decide +kernel
theorem dX3_readNumber_52 : decode cX3_readNumber 52 = .ok (.isub, 1) := by decide +kernel
theorem dX3_readNumber_53 : decode cX3_readNumber 53 = .ok (.iadd, 1) := by decide +kernel
theorem dX3_readNumber_54 : decode cX3_readNumber 54 = .ok (.invokestatic 95, 3) := by decide +kernel
theorem dX3_readNumber_57 : decode cX3_readNumber 57 = .ok (.putfield 28, 3) := by decide +kernel
theorem dX3_readNumber_60 : decode cX3_readNumber 60 = .ok (.aload_n 0, 1) := by decide +kernel
theorem dX3_readNumber_61 : decode cX3_readNumber 61 = .ok (.dup, 1) := by decide +kernel
theorem dX3_readNumber_62 : decode cX3_readNumber 62 = .ok (.getfield 19, 3) := by decide +kernel
theorem dX3_readNumber_65 : decode cX3_readNumber 65 = .ok (.iconst 1, 1) := by decide +kernel
theorem dX3_readNumber_66 : decode cX3_readNumber 66 = .ok (.iadd, 1) := by decide +kernel
theorem dX3_readNumber_67 : decode cX3_readNumber 67 = .ok (.putfield 19, 3) := by decide +kernel
theorem dX3_readNumber_70 : decode cX3_readNumber 70 = .ok (.goto (-65), 3) := by decide +kernel
theorem dX3_readNumber_73 : decode cX3_readNumber 73 = .ok (.aload_n 0, 1) := by decide +kernel
theorem dX3_readNumber_74 : decode cX3_readNumber 74 = .ok (.getfield 9, 3) := by decide +kernel
theorem dX3_readNumber_77 : decode cX3_readNumber 77 = .ok (.aload_n 0, 1) := by decide +kernel
theorem dX3_readNumber_78 : decode cX3_readNumber 78 = .ok (.getfield 25, 3) := by decide +kernel
theorem dX3_readNumber_81 : decode cX3_readNumber 81 = .ok (.caload, 1) := by decide +kernel
theorem dX3_readNumber_82 : decode cX3_readNumber 82 = .ok (.bipush 48, 2) := by decide +kernel
theorem dX3_readNumber_84 : decode cX3_readNumber 84 = .ok (.if_icmp .ne 20, 3) := by decide +kernel
theorem dX3_readNumber_87 : decode cX3_readNumber 87 = .ok (.aload_n 0, 1) := by decide +kernel
theorem dX3_readNumber_88 : decode cX3_readNumber 88 = .ok (.getfield 19, 3) := by decide +kernel
theorem dX3_readNumber_91 : decode cX3_readNumber 91 = .ok (.aload_n 0, 1) := by decide +kernel
theorem dX3_readNumber_92 : decode cX3_readNumber 92 = .ok (.getfield 25, 3) := by decide +kernel
theorem dX3_readNumber_95 : decode cX3_readNumber 95 = .ok (.isub, 1) := by decide +kernel
theorem dX3_readNumber_96 : decode cX3_readNumber 96 = .ok (.iconst 1, 1) := by decide +kernel
theorem dX3_readNumber_97 : decode cX3_readNumber 97 = .ok (.if_icmp .le 7, 3) := by decide +kernel
theorem dX3_readNumber_100 : decode cX3_readNumber 100 = .ok (.iconst 1, 1) := by decide +kernel
theorem dX3_readNumber_101 : decode cX3_readNumber 101 = .ok (.goto 4, 3) := by decide +kernel
theorem dX3_readNumber_104 : decode cX3_readNumber 104 = .ok (.iconst 0, 1) := by decide +kernel
theorem dX3_readNumber_105 : decode cX3_readNumber 105 = .ok (.istore_n 1, 1) := by decide +kernel
theorem dX3_readNumber_106 : decode cX3_readNumber 106 = .ok (.aload_n 0, 1) := by decide +kernel
theorem dX3_readNumber_107 : decode cX3_readNumber 107 = .ok (.iload_n 1, 1) := by decide +kernel
theorem dX3_readNumber_108 : decode cX3_readNumber 108 = .ok (.ifCond .ne 12, 3) := by decide +kernel
theorem dX3_readNumber_111 : decode cX3_readNumber 111 = .ok (.aload_n 0, 1) := by decide +kernel
theorem dX3_readNumber_112 : decode cX3_readNumber 112 = .ok (.getfield 28, 3) := by decide +kernel
theorem dX3_readNumber_115 : decode cX3_readNumber 115 = .ok (.bipush 99, 2) := by decide +kernel
theorem dX3_readNumber_117 : decode cX3_readNumber 117 = .ok (.if_icmp .le 7, 3) := by decide +kernel
theorem dX3_readNumber_120 : decode cX3_readNumber 120 = .ok (.iconst 5, 1) := by decide +kernel
theorem dX3_readNumber_121 : decode cX3_readNumber 121 = .ok (.goto 4, 3) := by decide +kernel
theorem dX3_readNumber_124 : decode cX3_readNumber 124 = .ok (.iconst 4, 1) := by decide +kernel
theorem dX3_readNumber_125 : decode cX3_readNumber 125 = .ok (.putfield 22, 3) := by decide +kernel
theorem dX3_readNumber_128 : decode cX3_readNumber 128 = .ok (.return_, 1) := by decide +kernel
theorem dX3_isFigure_0 : decode cX3_isFigure 0 = .ok (.iload_n 0, 1) := by decide +kernel
theorem dX3_isFigure_1 : decode cX3_isFigure 1 = .ok (.bipush 48, 2) := by decide +kernel
theorem dX3_isFigure_3 : decode cX3_isFigure 3 = .ok (.if_icmp .lt 13, 3) := by decide +kernel
theorem dX3_isFigure_6 : decode cX3_isFigure 6 = .ok (.iload_n 0, 1) := by decide +kernel
theorem dX3_isFigure_7 : decode cX3_isFigure 7 = .ok (.bipush 57, 2) := by decide +kernel
theorem dX3_isFigure_9 : decode cX3_isFigure 9 = .ok (.if_icmp .gt 7, 3) := by decide +kernel
theorem dX3_isFigure_12 : decode cX3_isFigure 12 = .ok (.iconst 1, 1) := by decide +kernel
theorem dX3_isFigure_13 : decode cX3_isFigure 13 = .ok (.goto 4, 3) := by decide +kernel
theorem dX3_isFigure_16 : decode cX3_isFigure 16 = .ok (.iconst 0, 1) := by decide +kernel
theorem dX3_isFigure_17 : decode cX3_isFigure 17 = .ok (.ireturn, 1) := by decide +kernel
theorem dX4_init_0 : decode cX4_init 0 = .ok (.aload_n 0, 1) := by decide +kernel
theorem dX4_init_1 : decode cX4_init 1 = .ok (.invokespecial 3, 3) := by decide +kernel
theorem dX4_init_4 : decode cX4_init 4 = .ok (.aload_n 0, 1) := by decide +kernel
theorem dX4_init_5 : decode cX4_init 5 = .ok (.bipush 6, 2) := by decide +kernel
theorem dX4_init_7 : decode cX4_init 7 = .ok (.newarray .int, 2) := by decide +kernel
theorem dX4_init_9 : decode cX4_init 9 = .ok (.putfield 9, 3) := by decide +kernel
theorem dX4_init_12 : decode cX4_init 12 = .ok (.aload_n 0, 1) := by decide +kernel
theorem dX4_init_13 : decode cX4_init 13 = .ok (.bipush 6, 2) := by decide +kernel
theorem dX4_init_15 : decode cX4_init 15 = .ok (.newarray .int, 2) := by decide +kernel
theorem dX4_init_17 : decode cX4_init 17 = .ok (.putfield 15, 3) := by decide +kernel
theorem dX4_init_20 : decode cX4_init 20 = .ok (.aload_n 0, 1) := by decide +kernel
theorem dX4_init_21 : decode cX4_init 21 = .ok (.bipush 6, 2) := by decide +kernel
theorem dX4_init_23 : decode cX4_init 23 = .ok (.newarray .boolean, 2) := by decide +kernel
theorem dX4_init_25 : decode cX4_init 25 = .ok (.putfield 18, 3) := by decide +kernel
theorem dX4_init_28 : decode cX4_init 28 = .ok (.aload_n 0, 1) := by decide +kernel
theorem dX4_init_29 : decode cX4_init 29 = .ok (.iconst 0, 1) := by decide +kernel
theorem dX4_init_30 : decode cX4_init 30 = .ok (.putfield 22, 3) := by decide +kernel
theorem dX4_init_33 : decode cX4_init 33 = .ok (.return_, 1) := by decide +kernel
theorem dX4_length_0 : decode cX4_length 0 = .ok (.aload_n 0, 1) := by decide +kernel
theorem dX4_length_1 : decode cX4_length 1 = .ok (.getfield 22, 3) := by decide +kernel
theorem dX4_length_4 : decode cX4_length 4 = .ok (.ireturn, 1) := by decide +kernel
theorem dX4_wipe_0 : decode cX4_wipe 0 = .ok (.aload_n 0, 1) := by decide +kernel
theorem dX4_wipe_1 : decode cX4_wipe 1 = .ok (.iconst 0, 1) := by decide +kernel
theorem dX4_wipe_2 : decode cX4_wipe 2 = .ok (.putfield 22, 3) := by decide +kernel
theorem dX4_wipe_5 : decode cX4_wipe 5 = .ok (.return_, 1) := by decide +kernel
theorem dX4_add_0 : decode cX4_add 0 = .ok (.aload_n 0, 1) := by decide +kernel
theorem dX4_add_1 : decode cX4_add 1 = .ok (.getfield 22, 3) := by decide +kernel
theorem dX4_add_4 : decode cX4_add 4 = .ok (.bipush 6, 2) := by decide +kernel
theorem dX4_add_6 : decode cX4_add 6 = .ok (.if_icmp .lt 5, 3) := by decide +kernel
theorem dX4_add_9 : decode cX4_add 9 = .ok (.iconst 0, 1) := by decide +kernel
theorem dX4_add_10 : decode cX4_add 10 = .ok (.ireturn, 1) := by decide +kernel
theorem dX4_add_11 : decode cX4_add 11 = .ok (.aload_n 0, 1) := by decide +kernel
theorem dX4_add_12 : decode cX4_add 12 = .ok (.getfield 9, 3) := by decide +kernel
theorem dX4_add_15 : decode cX4_add 15 = .ok (.aload_n 0, 1) := by decide +kernel
theorem dX4_add_16 : decode cX4_add 16 = .ok (.getfield 22, 3) := by decide +kernel
theorem dX4_add_19 : decode cX4_add 19 = .ok (.iload_n 1, 1) := by decide +kernel
theorem dX4_add_20 : decode cX4_add 20 = .ok (.iastore, 1) := by decide +kernel
theorem dX4_add_21 : decode cX4_add 21 = .ok (.aload_n 0, 1) := by decide +kernel
theorem dX4_add_22 : decode cX4_add 22 = .ok (.getfield 15, 3) := by decide +kernel
theorem dX4_add_25 : decode cX4_add 25 = .ok (.aload_n 0, 1) := by decide +kernel
theorem dX4_add_26 : decode cX4_add 26 = .ok (.getfield 22, 3) := by decide +kernel
theorem dX4_add_29 : decode cX4_add 29 = .ok (.iload_n 2, 1) := by decide +kernel
theorem dX4_add_30 : decode cX4_add 30 = .ok (.iastore, 1) := by decide +kernel
theorem dX4_add_31 : decode cX4_add 31 = .ok (.aload_n 0, 1) := by decide +kernel
theorem dX4_add_32 : decode cX4_add 32 = .ok (.getfield 18, 3) := by decide +kernel
theorem dX4_add_35 : decode cX4_add 35 = .ok (.aload_n 0, 1) := by decide +kernel
theorem dX4_add_36 : decode cX4_add 36 = .ok (.getfield 22, 3) := by decide +kernel
theorem dX4_add_39 : decode cX4_add 39 = .ok (.iload_n 3, 1) := by decide +kernel
theorem dX4_add_40 : decode cX4_add 40 = .ok (.bastore, 1) := by decide +kernel
theorem dX4_add_41 : decode cX4_add 41 = .ok (.aload_n 0, 1) := by decide +kernel
theorem dX4_add_42 : decode cX4_add 42 = .ok (.dup, 1) := by decide +kernel
theorem dX4_add_43 : decode cX4_add 43 = .ok (.getfield 22, 3) := by decide +kernel
theorem dX4_add_46 : decode cX4_add 46 = .ok (.iconst 1, 1) := by decide +kernel
theorem dX4_add_47 : decode cX4_add 47 = .ok (.iadd, 1) := by decide +kernel
theorem dX4_add_48 : decode cX4_add 48 = .ok (.putfield 22, 3) := by decide +kernel
theorem dX4_add_51 : decode cX4_add 51 = .ok (.iconst 1, 1) := by decide +kernel
theorem dX4_add_52 : decode cX4_add 52 = .ok (.ireturn, 1) := by decide +kernel
theorem dX4_suspects_0 : decode cX4_suspects 0 = .ok (.bipush 31, 2) := by decide +kernel
theorem dX4_suspects_2 : decode cX4_suspects 2 = .ok (.istore_n 1, 1) := by decide +kernel
theorem dX4_suspects_3 : decode cX4_suspects 3 = .ok (.iconst 0, 1) := by decide +kernel
theorem dX4_suspects_4 : decode cX4_suspects 4 = .ok (.istore_n 2, 1) := by decide +kernel
theorem dX4_suspects_5 : decode cX4_suspects 5 = .ok (.iload_n 2, 1) := by decide +kernel
theorem dX4_suspects_6 : decode cX4_suspects 6 = .ok (.aload_n 0, 1) := by decide +kernel
theorem dX4_suspects_7 : decode cX4_suspects 7 = .ok (.getfield 22, 3) := by decide +kernel
theorem dX4_suspects_10 : decode cX4_suspects 10 = .ok (.if_icmp .ge 44, 3) := by decide +kernel
theorem dX4_suspects_13 : decode cX4_suspects 13 = .ok (.aload_n 0, 1) := by decide +kernel
theorem dX4_suspects_14 : decode cX4_suspects 14 = .ok (.getfield 9, 3) := by decide +kernel
theorem dX4_suspects_17 : decode cX4_suspects 17 = .ok (.iload_n 2, 1) := by decide +kernel
theorem dX4_suspects_18 : decode cX4_suspects 18 = .ok (.iaload, 1) := by decide +kernel
theorem dX4_suspects_19 : decode cX4_suspects 19 = .ok (.aload_n 0, 1) := by decide +kernel
theorem dX4_suspects_20 : decode cX4_suspects 20 = .ok (.getfield 15, 3) := by decide +kernel
theorem dX4_suspects_23 : decode cX4_suspects 23 = .ok (.iload_n 2, 1) := by decide +kernel
theorem dX4_suspects_24 : decode cX4_suspects 24 = .ok (.iaload, 1) := by decide +kernel
theorem dX4_suspects_25 : decode cX4_suspects 25 = .ok (.invokestatic 26, 3) := by decide +kernel
theorem dX4_suspects_28 : decode cX4_suspects 28 = .ok (.istore_n 3, 1) := by decide +kernel
theorem dX4_suspects_29 : decode cX4_suspects 29 = .ok (.iload_n 1, 1) := by decide +kernel
theorem dX4_suspects_30 : decode cX4_suspects 30 = .ok (.aload_n 0, 1) := by decide +kernel
theorem dX4_suspects_31 : decode cX4_suspects 31 = .ok (.getfield 18, 3) := by decide +kernel
theorem dX4_suspects_34 : decode cX4_suspects 34 = .ok (.iload_n 2, 1) := by decide +kernel
theorem dX4_suspects_35 : decode cX4_suspects 35 = .ok (.baload, 1) := by decide +kernel
theorem dX4_suspects_36 : decode cX4_suspects 36 = .ok (.ifCond .eq 7, 3) := by decide +kernel
theorem dX4_suspects_39 : decode cX4_suspects 39 = .ok (.iload_n 3, 1) := by decide +kernel
theorem dX4_suspects_40 : decode cX4_suspects 40 = .ok (.goto 6, 3) := by decide +kernel
theorem dX4_suspects_43 : decode cX4_suspects 43 = .ok (.iload_n 3, 1) := by decide +kernel
theorem dX4_suspects_44 : decode cX4_suspects 44 = .ok (.iconst (-1), 1) := by decide +kernel
theorem dX4_suspects_45 : decode cX4_suspects 45 = .ok (.ixor, 1) := by decide +kernel
theorem dX4_suspects_46 : decode cX4_suspects 46 = .ok (.iand, 1) := by decide +kernel
theorem dX4_suspects_47 : decode cX4_suspects 47 = .ok (.istore_n 1, 1) := by decide +kernel
theorem dX4_suspects_48 : decode cX4_suspects 48 = .ok (.iinc 2 1, 3) := by decide +kernel
theorem dX4_suspects_51 : decode cX4_suspects 51 = .ok (.goto (-46), 3) := by decide +kernel
theorem dX4_suspects_54 : decode cX4_suspects 54 = .ok (.iload_n 1, 1) := by decide +kernel
theorem dX4_suspects_55 : decode cX4_suspects 55 = .ok (.ireturn, 1) := by decide +kernel
theorem dX5_init_0 : decode cX5_init 0 = .ok (.aload_n 0, 1) := by decide +kernel
theorem dX5_init_1 : decode cX5_init 1 = .ok (.invokespecial 1, 3) := by decide +kernel
theorem dX5_init_4 : decode cX5_init 4 = .ok (.aload_n 0, 1) := by decide +kernel
theorem dX5_init_5 : decode cX5_init 5 = .ok (.iconst 2, 1) := by decide +kernel
theorem dX5_init_6 : decode cX5_init 6 = .ok (.putfield 9, 3) := by decide +kernel
theorem dX5_init_9 : decode cX5_init 9 = .ok (.aload_n 0, 1) := by decide +kernel
end
section
theorem dX5_init_10 : decode cX5_init 10 = .ok (.iconst 3, 1) := by decide +kernel
theorem dX5_init_11 : decode cX5_init 11 = .ok (.putfield 13, 3) := by decide +kernel
theorem dX5_init_14 : decode cX5_init 14 = .ok (.aload_n 0, 1) := by decide +kernel
theorem dX5_init_15 : decode cX5_init 15 = .ok (.new 16, 3) := by decide +kernel
theorem dX5_init_18 : decode cX5_init 18 = .ok (.dup, 1) := by decide +kernel
theorem dX5_init_19 : decode cX5_init 19 = .ok (.invokespecial 18, 3) := by decide +kernel
theorem dX5_init_22 : decode cX5_init 22 = .ok (.putfield 19, 3) := by decide +kernel
theorem dX5_init_25 : decode cX5_init 25 = .ok (.aload_n 0, 1) := by decide +kernel
theorem dX5_init_26 : decode cX5_init 26 = .ok (.new 16, 3) := by decide +kernel
theorem dX5_init_29 : decode cX5_init 29 = .ok (.dup, 1) := by decide +kernel
theorem dX5_init_30 : decode cX5_init 30 = .ok (.invokespecial 18, 3) := by decide +kernel
theorem dX5_init_33 : decode cX5_init 33 = .ok (.putfield 23, 3) := by decide +kernel
theorem dX5_init_36 : decode cX5_init 36 = .ok (.aload_n 0, 1) := by decide +kernel
theorem dX5_init_37 : decode cX5_init 37 = .ok (.new 26, 3) := by decide +kernel
theorem dX5_init_40 : decode cX5_init 40 = .ok (.dup, 1) := by decide +kernel
theorem dX5_init_41 : decode cX5_init 41 = .ok (.invokespecial 28, 3) := by decide +kernel
theorem dX5_init_44 : decode cX5_init 44 = .ok (.putfield 29, 3) := by decide +kernel
theorem dX5_init_47 : decode cX5_init 47 = .ok (.aload_n 0, 1) := by decide +kernel
theorem dX5_init_48 : decode cX5_init 48 = .ok (.new 33, 3) := by decide +kernel
theorem dX5_init_51 : decode cX5_init 51 = .ok (.dup, 1) := by decide +kernel
theorem dX5_init_52 : decode cX5_init 52 = .ok (.invokespecial 35, 3) := by decide +kernel
theorem dX5_init_55 : decode cX5_init 55 = .ok (.putfield 36, 3) := by decide +kernel
theorem dX5_init_58 : decode cX5_init 58 = .ok (.aload_n 0, 1) := by decide +kernel
theorem dX5_init_59 : decode cX5_init 59 = .ok (.iconst 2, 1) := by decide +kernel
theorem dX5_init_60 : decode cX5_init 60 = .ok (.anewarray 16, 3) := by decide +kernel
theorem dX5_init_63 : decode cX5_init 63 = .ok (.putfield 40, 3) := by decide +kernel
theorem dX5_init_66 : decode cX5_init 66 = .ok (.iconst 0, 1) := by decide +kernel
theorem dX5_init_67 : decode cX5_init 67 = .ok (.istore_n 1, 1) := by decide +kernel
theorem dX5_init_68 : decode cX5_init 68 = .ok (.iload_n 1, 1) := by decide +kernel
theorem dX5_init_69 : decode cX5_init 69 = .ok (.iconst 2, 1) := by decide +kernel
theorem dX5_init_70 : decode cX5_init 70 = .ok (.if_icmp .ge 22, 3) := by decide +kernel
theorem dX5_init_73 : decode cX5_init 73 = .ok (.aload_n 0, 1) := by decide +kernel
theorem dX5_init_74 : decode cX5_init 74 = .ok (.getfield 40, 3) := by decide +kernel
theorem dX5_init_77 : decode cX5_init 77 = .ok (.iload_n 1, 1) := by decide +kernel
theorem dX5_init_78 : decode cX5_init 78 = .ok (.new 16, 3) := by decide +kernel
theorem dX5_init_81 : decode cX5_init 81 = .ok (.dup, 1) := by decide +kernel
theorem dX5_init_82 : decode cX5_init 82 = .ok (.invokespecial 18, 3) := by decide +kernel
theorem dX5_init_85 : decode cX5_init 85 = .ok (.aastore, 1) := by decide +kernel
theorem dX5_init_86 : decode cX5_init 86 = .ok (.iinc 1 1, 3) := by decide +kernel
theorem dX5_init_89 : decode cX5_init 89 = .ok (.goto (-21), 3) := by decide +kernel
theorem dX5_init_92 : decode cX5_init 92 = .ok (.aload_n 0, 1) := by decide +kernel
theorem dX5_init_93 : decode cX5_init 93 = .ok (.iconst 2, 1) := by decide +kernel
theorem dX5_init_94 : decode cX5_init 94 = .ok (.newarray .boolean, 2) := by decide +kernel
theorem dX5_init_96 : decode cX5_init 96 = .ok (.putfield 44, 3) := by decide +kernel
theorem dX5_init_99 : decode cX5_init 99 = .ok (.aload_n 0, 1) := by decide +kernel
theorem dX5_init_100 : decode cX5_init 100 = .ok (.new 48, 3) := by decide +kernel
theorem dX5_init_103 : decode cX5_init 103 = .ok (.dup, 1) := by decide +kernel
theorem dX5_init_104 : decode cX5_init 104 = .ok (.invokespecial 50, 3) := by decide +kernel
theorem dX5_init_107 : decode cX5_init 107 = .ok (.putfield 51, 3) := by decide +kernel
theorem dX5_init_110 : decode cX5_init 110 = .ok (.aload_n 0, 1) := by decide +kernel
theorem dX5_init_111 : decode cX5_init 111 = .ok (.new 55, 3) := by decide +kernel
theorem dX5_init_114 : decode cX5_init 114 = .ok (.dup, 1) := by decide +kernel
theorem dX5_init_115 : decode cX5_init 115 = .ok (.invokespecial 57, 3) := by decide +kernel
theorem dX5_init_118 : decode cX5_init 118 = .ok (.putfield 58, 3) := by decide +kernel
theorem dX5_init_121 : decode cX5_init 121 = .ok (.return_, 1) := by decide +kernel
theorem dX5_type_0 : decode cX5_type 0 = .ok (.iload_n 1, 1) := by decide +kernel
theorem dX5_type_1 : decode cX5_type 1 = .ok (.ifCond .lt 10, 3) := by decide +kernel
theorem dX5_type_4 : decode cX5_type 4 = .ok (.iload_n 1, 1) := by decide +kernel
theorem dX5_type_5 : decode cX5_type 5 = .ok (.sipush 255, 3) := by decide +kernel
theorem dX5_type_8 : decode cX5_type 8 = .ok (.if_icmp .le 5, 3) := by decide +kernel
theorem dX5_type_11 : decode cX5_type 11 = .ok (.iconst (-1), 1) := by decide +kernel
theorem dX5_type_12 : decode cX5_type 12 = .ok (.ireturn, 1) := by decide +kernel
theorem dX5_type_13 : decode cX5_type 13 = .ok (.aload_n 0, 1) := by decide +kernel
theorem dX5_type_14 : decode cX5_type 14 = .ok (.getfield 29, 3) := by decide +kernel
theorem dX5_type_17 : decode cX5_type 17 = .ok (.iload_n 1, 1) := by decide +kernel
theorem dX5_type_18 : decode cX5_type 18 = .ok (.invokevirtual 62, 3) := by decide +kernel
theorem dX5_type_21 : decode cX5_type 21 = .ok (.ifCond .eq 13, 3) := by decide +kernel
theorem dX5_type_24 : decode cX5_type 24 = .ok (.aload_n 0, 1) := by decide +kernel
theorem dX5_type_25 : decode cX5_type 25 = .ok (.getfield 29, 3) := by decide +kernel
theorem dX5_type_28 : decode cX5_type 28 = .ok (.invokevirtual 66, 3) := by decide +kernel
theorem dX5_type_31 : decode cX5_type 31 = .ok (.goto 5, 3) := by decide +kernel
theorem dX5_type_34 : decode cX5_type 34 = .ok (.bipush (-3), 2) := by decide +kernel
theorem dX5_type_36 : decode cX5_type 36 = .ok (.ireturn, 1) := by decide +kernel
theorem dX5_clear_0 : decode cX5_clear 0 = .ok (.aload_n 0, 1) := by decide +kernel
theorem dX5_clear_1 : decode cX5_clear 1 = .ok (.getfield 29, 3) := by decide +kernel
theorem dX5_clear_4 : decode cX5_clear 4 = .ok (.invokevirtual 66, 3) := by decide +kernel
theorem dX5_clear_7 : decode cX5_clear 7 = .ok (.istore_n 1, 1) := by decide +kernel
theorem dX5_clear_8 : decode cX5_clear 8 = .ok (.aload_n 0, 1) := by decide +kernel
theorem dX5_clear_9 : decode cX5_clear 9 = .ok (.getfield 29, 3) := by decide +kernel
theorem dX5_clear_12 : decode cX5_clear 12 = .ok (.invokevirtual 70, 3) := by decide +kernel
theorem dX5_clear_15 : decode cX5_clear 15 = .ok (.iload_n 1, 1) := by decide +kernel
theorem dX5_clear_16 : decode cX5_clear 16 = .ok (.ireturn, 1) := by decide +kernel
theorem dX5_fraction_0 : decode cX5_fraction 0 = .ok (.aload_n 0, 1) := by decide +kernel
theorem dX5_fraction_1 : decode cX5_fraction 1 = .ok (.getfield 29, 3) := by decide +kernel
theorem dX5_fraction_4 : decode cX5_fraction 4 = .ok (.invokevirtual 73, 3) := by decide +kernel
theorem dX5_fraction_7 : decode cX5_fraction 7 = .ok (.istore_n 1, 1) := by decide +kernel
theorem dX5_fraction_8 : decode cX5_fraction 8 = .ok (.iload_n 1, 1) := by decide +kernel
theorem dX5_fraction_9 : decode cX5_fraction 9 = .ok (.ifCond .lt 7, 3) := by decide +kernel
theorem dX5_fraction_12 : decode cX5_fraction 12 = .ok (.aload_n 0, 1) := by decide +kernel
theorem dX5_fraction_13 : decode cX5_fraction 13 = .ok (.invokevirtual 76, 3) := by decide +kernel
theorem dX5_fraction_16 : decode cX5_fraction 16 = .ok (.iload_n 1, 1) := by decide +kernel
theorem dX5_fraction_17 : decode cX5_fraction 17 = .ok (.ireturn, 1) := by decide +kernel
theorem dX5_makes_0 : decode cX5_makes 0 = .ok (.iload_n 1, 1) := by decide +kernel
theorem dX5_makes_1 : decode cX5_makes 1 = .ok (.ifCond .lt 8, 3) := by decide +kernel
theorem dX5_makes_4 : decode cX5_makes 4 = .ok (.iload_n 1, 1) := by decide +kernel
theorem dX5_makes_5 : decode cX5_makes 5 = .ok (.iconst 4, 1) := by decide +kernel
theorem dX5_makes_6 : decode cX5_makes 6 = .ok (.if_icmp .lt 5, 3) := by decide +kernel
theorem dX5_makes_9 : decode cX5_makes 9 = .ok (.iconst (-1), 1) := by decide +kernel
theorem dX5_makes_10 : decode cX5_makes 10 = .ok (.ireturn, 1) := by decide +kernel
theorem dX5_makes_11 : decode cX5_makes 11 = .ok (.aload_n 0, 1) := by decide +kernel
theorem dX5_makes_12 : decode cX5_makes 12 = .ok (.iload_n 1, 1) := by decide +kernel
theorem dX5_makes_13 : decode cX5_makes 13 = .ok (.invokevirtual 79, 3) := by decide +kernel
theorem dX5_makes_16 : decode cX5_makes 16 = .ok (.ifCond .eq 10, 3) := by decide +kernel
theorem dX5_makes_19 : decode cX5_makes 19 = .ok (.aload_n 0, 1) := by decide +kernel
theorem dX5_makes_20 : decode cX5_makes 20 = .ok (.invokevirtual 82, 3) := by decide +kernel
theorem dX5_makes_23 : decode cX5_makes 23 = .ok (.goto 5, 3) := by decide +kernel
theorem dX5_makes_26 : decode cX5_makes 26 = .ok (.bipush (-2), 2) := by decide +kernel
theorem dX5_makes_28 : decode cX5_makes 28 = .ok (.ireturn, 1) := by decide +kernel
theorem dX5_splits_0 : decode cX5_splits 0 = .ok (.aload_n 0, 1) := by decide +kernel
theorem dX5_splits_1 : decode cX5_splits 1 = .ok (.getfield 19, 3) := by decide +kernel
theorem dX5_splits_4 : decode cX5_splits 4 = .ok (.iload_n 1, 1) := by decide +kernel
theorem dX5_splits_5 : decode cX5_splits 5 = .ok (.invokevirtual 85, 3) := by decide +kernel
theorem dX5_splits_8 : decode cX5_splits 8 = .ok (.ifCond .eq 12, 3) := by decide +kernel
theorem dX5_splits_11 : decode cX5_splits 11 = .ok (.iload_n 2, 1) := by decide +kernel
theorem dX5_splits_12 : decode cX5_splits 12 = .ok (.ifCond .lt 8, 3) := by decide +kernel
theorem dX5_splits_15 : decode cX5_splits 15 = .ok (.iload_n 2, 1) := by decide +kernel
theorem dX5_splits_16 : decode cX5_splits 16 = .ok (.iconst 4, 1) := by decide +kernel
theorem dX5_splits_17 : decode cX5_splits 17 = .ok (.if_icmp .lt 5, 3) := by decide +kernel
theorem dX5_splits_20 : decode cX5_splits 20 = .ok (.iconst (-1), 1) := by decide +kernel
theorem dX5_splits_21 : decode cX5_splits 21 = .ok (.ireturn, 1) := by decide +kernel
theorem dX5_splits_22 : decode cX5_splits 22 = .ok (.aload_n 0, 1) := by decide +kernel
theorem dX5_splits_23 : decode cX5_splits 23 = .ok (.getfield 23, 3) := by decide +kernel
theorem dX5_splits_26 : decode cX5_splits 26 = .ok (.aload_n 0, 1) := by decide +kernel
theorem dX5_splits_27 : decode cX5_splits 27 = .ok (.getfield 19, 3) := by decide +kernel
theorem dX5_splits_30 : decode cX5_splits 30 = .ok (.invokevirtual 88, 3) := by decide +kernel
theorem dX5_splits_33 : decode cX5_splits 33 = .ok (.aload_n 0, 1) := by decide +kernel
theorem dX5_splits_34 : decode cX5_splits 34 = .ok (.getfield 23, 3) := by decide +kernel
theorem dX5_splits_37 : decode cX5_splits 37 = .ok (.iload_n 1, 1) := by decide +kernel
theorem dX5_splits_38 : decode cX5_splits 38 = .ok (.invokevirtual 92, 3) := by decide +kernel
theorem dX5_splits_41 : decode cX5_splits 41 = .ok (.aload_n 0, 1) := by decide +kernel
theorem dX5_splits_42 : decode cX5_splits 42 = .ok (.getfield 23, 3) := by decide +kernel
theorem dX5_splits_45 : decode cX5_splits 45 = .ok (.aload_n 0, 1) := by decide +kernel
theorem dX5_splits_46 : decode cX5_splits 46 = .ok (.getfield 19, 3) := by decide +kernel
theorem dX5_splits_49 : decode cX5_splits 49 = .ok (.iload_n 1, 1) := by decide +kernel
theorem dX5_splits_50 : decode cX5_splits 50 = .ok (.invokevirtual 96, 3) := by decide +kernel
theorem dX5_splits_53 : decode cX5_splits 53 = .ok (.i2l, 1) := by decide +kernel
theorem dX5_splits_54 : decode cX5_splits 54 = .ok (.iload_n 2, 1) := by decide +kernel
theorem dX5_splits_55 : decode cX5_splits 55 = .ok (.invokestatic 100, 3) := by decide +kernel
theorem dX5_splits_58 : decode cX5_splits 58 = .ok (.ifCond .eq 10, 3) := by decide +kernel
theorem dX5_splits_61 : decode cX5_splits 61 = .ok (.aload_n 0, 1) := by decide +kernel
theorem dX5_splits_62 : decode cX5_splits 62 = .ok (.invokevirtual 82, 3) := by decide +kernel
theorem dX5_splits_65 : decode cX5_splits 65 = .ok (.goto 5, 3) := by decide +kernel
theorem dX5_splits_68 : decode cX5_splits 68 = .ok (.bipush (-2), 2) := by decide +kernel
theorem dX5_splits_70 : decode cX5_splits 70 = .ok (.ireturn, 1) := by decide +kernel
theorem dX5_joins_0 : decode cX5_joins 0 = .ok (.aload_n 0, 1) := by decide +kernel
theorem dX5_joins_1 : decode cX5_joins 1 = .ok (.getfield 19, 3) := by decide +kernel
theorem dX5_joins_4 : decode cX5_joins 4 = .ok (.iload_n 1, 1) := by decide +kernel
theorem dX5_joins_5 : decode cX5_joins 5 = .ok (.invokevirtual 85, 3) := by decide +kernel
theorem dX5_joins_8 : decode cX5_joins 8 = .ok (.ifCond .eq 19, 3) := by decide +kernel
theorem dX5_joins_11 : decode cX5_joins 11 = .ok (.aload_n 0, 1) := by decide +kernel
theorem dX5_joins_12 : decode cX5_joins 12 = .ok (.getfield 19, 3) := by decide +kernel
theorem dX5_joins_15 : decode cX5_joins 15 = .ok (.iload_n 2, 1) := by decide +kernel
theorem dX5_joins_16 : decode cX5_joins 16 = .ok (.invokevirtual 85, 3) := by decide +kernel
theorem dX5_joins_19 : decode cX5_joins 19 = .ok (.ifCond .eq 8, 3) := by decide +kernel
theorem dX5_joins_22 : decode cX5_joins 22 = .ok (.iload_n 1, 1) := by decide +kernel
theorem dX5_joins_23 : decode cX5_joins 23 = .ok (.iload_n 2, 1) := by decide +kernel
theorem dX5_joins_24 : decode cX5_joins 24 = .ok (.if_icmp .ne 5, 3) := by decide +kernel
theorem dX5_joins_27 : decode cX5_joins 27 = .ok (.iconst (-1), 1) := by decide +kernel
theorem dX5_joins_28 : decode cX5_joins 28 = .ok (.ireturn, 1) := by decide +kernel
theorem dX5_joins_29 : decode cX5_joins 29 = .ok (.aload_n 0, 1) := by decide +kernel
theorem dX5_joins_30 : decode cX5_joins 30 = .ok (.getfield 19, 3) := by decide +kernel
theorem dX5_joins_33 : decode cX5_joins 33 = .ok (.iload_n 1, 1) := by decide +kernel
theorem dX5_joins_34 : decode cX5_joins 34 = .ok (.invokevirtual 96, 3) := by decide +kernel
theorem dX5_joins_37 : decode cX5_joins 37 = .ok (.i2l, 1) := by decide +kernel
theorem dX5_joins_38 : decode cX5_joins 38 = .ok (.aload_n 0, 1) := by decide +kernel
theorem dX5_joins_39 : decode cX5_joins 39 = .ok (.getfield 19, 3) := by decide +kernel
theorem dX5_joins_42 : decode cX5_joins 42 = .ok (.iload_n 2, 1) := by decide +kernel
theorem dX5_joins_43 : decode cX5_joins 43 = .ok (.invokevirtual 96, 3) := by decide +kernel
theorem dX5_joins_46 : decode cX5_joins 46 = .ok (.i2l, 1) := by decide +kernel
theorem dX5_joins_47 : decode cX5_joins 47 = .ok (.invokestatic 104, 3) := by decide +kernel
theorem dX5_joins_50 : decode cX5_joins 50 = .ok (.istore_n 3, 1) := by decide +kernel
theorem dX5_joins_51 : decode cX5_joins 51 = .ok (.aload_n 0, 1) := by decide +kernel
theorem dX5_joins_52 : decode cX5_joins 52 = .ok (.getfield 23, 3) := by decide +kernel
theorem dX5_joins_55 : decode cX5_joins 55 = .ok (.aload_n 0, 1) := by decide +kernel
theorem dX5_joins_56 : decode cX5_joins 56 = .ok (.getfield 19, 3) := by decide +kernel
theorem dX5_joins_59 : decode cX5_joins 59 = .ok (.invokevirtual 88, 3) := by decide +kernel
theorem dX5_joins_62 : decode cX5_joins 62 = .ok (.aload_n 0, 1) := by decide +kernel
theorem dX5_joins_63 : decode cX5_joins 63 = .ok (.getfield 23, 3) := by decide +kernel
theorem dX5_joins_66 : decode cX5_joins 66 = .ok (.iload_n 1, 1) := by decide +kernel
theorem dX5_joins_67 : decode cX5_joins 67 = .ok (.iload_n 2, 1) := by decide +kernel
theorem dX5_joins_68 : decode cX5_joins 68 = .ok (.invokestatic 108, 3) := by decide +kernel
theorem dX5_joins_71 : decode cX5_joins 71 = .ok (.invokevirtual 92, 3) := by decide +kernel
theorem dX5_joins_74 : decode cX5_joins 74 = .ok (.aload_n 0, 1) := by decide +kernel
theorem dX5_joins_75 : decode cX5_joins 75 = .ok (.getfield 23, 3) := by decide +kernel
theorem dX5_joins_78 : decode cX5_joins 78 = .ok (.iload_n 1, 1) := by decide +kernel
theorem dX5_joins_79 : decode cX5_joins 79 = .ok (.iload_n 2, 1) := by decide +kernel
theorem dX5_joins_80 : decode cX5_joins 80 = .ok (.invokestatic 114, 3) := by decide +kernel
theorem dX5_joins_83 : decode cX5_joins 83 = .ok (.invokevirtual 92, 3) := by decide +kernel
theorem dX5_joins_86 : decode cX5_joins 86 = .ok (.aload_n 0, 1) := by decide +kernel
theorem dX5_joins_87 : decode cX5_joins 87 = .ok (.getfield 23, 3) := by decide +kernel
theorem dX5_joins_90 : decode cX5_joins 90 = .ok (.iload_n 3, 1) := by decide +kernel
theorem dX5_joins_91 : decode cX5_joins 91 = .ok (.i2l, 1) := by decide +kernel
theorem dX5_joins_92 : decode cX5_joins 92 = .ok (.invokevirtual 117, 3) := by decide +kernel
theorem dX5_joins_95 : decode cX5_joins 95 = .ok (.ifCond .ne 6, 3) := by decide +kernel
theorem dX5_joins_98 : decode cX5_joins 98 = .ok (.bipush (-2), 2) := by decide +kernel
theorem dX5_joins_100 : decode cX5_joins 100 = .ok (.ireturn, 1) := by decide +kernel
theorem dX5_joins_101 : decode cX5_joins 101 = .ok (.aload_n 0, 1) := by decide +kernel
theorem dX5_joins_102 : decode cX5_joins 102 = .ok (.invokevirtual 82, 3) := by decide +kernel
theorem dX5_joins_105 : decode cX5_joins 105 = .ok (.pop, 1) := by decide +kernel
theorem dX5_joins_106 : decode cX5_joins 106 = .ok (.iload_n 3, 1) := by decide +kernel
theorem dX5_joins_107 : decode cX5_joins 107 = .ok (.ireturn, 1) := by decide +kernel
theorem dX5_undo_0 : decode cX5_undo 0 = .ok (.aload_n 0, 1) := by decide +kernel
theorem dX5_undo_1 : decode cX5_undo 1 = .ok (.getfield 36, 3) := by decide +kernel
theorem dX5_undo_4 : decode cX5_undo 4 = .ok (.aload_n 0, 1) := by decide +kernel
theorem dX5_undo_5 : decode cX5_undo 5 = .ok (.getfield 19, 3) := by decide +kernel
theorem dX5_undo_8 : decode cX5_undo 8 = .ok (.invokevirtual 121, 3) := by decide +kernel
theorem dX5_undo_11 : decode cX5_undo 11 = .ok (.ifCond .eq 13, 3) := by decide +kernel
theorem dX5_undo_14 : decode cX5_undo 14 = .ok (.aload_n 0, 1) := by decide +kernel
theorem dX5_undo_15 : decode cX5_undo 15 = .ok (.getfield 36, 3) := by decide +kernel
theorem dX5_undo_18 : decode cX5_undo 18 = .ok (.invokevirtual 125, 3) := by decide +kernel
theorem dX5_undo_21 : decode cX5_undo 21 = .ok (.goto 5, 3) := by decide +kernel
theorem dX5_undo_24 : decode cX5_undo 24 = .ok (.bipush (-2), 2) := by decide +kernel
theorem dX5_undo_26 : decode cX5_undo 26 = .ok (.ireturn, 1) := by decide +kernel
theorem dX5_term_0 : decode cX5_term 0 = .ok (.iload_n 1, 1) := by decide +kernel
theorem dX5_term_1 : decode cX5_term 1 = .ok (.ifCond .ge 5, 3) := by decide +kernel
theorem dX5_term_4 : decode cX5_term 4 = .ok (.iconst (-1), 1) := by decide +kernel
theorem dX5_term_5 : decode cX5_term 5 = .ok (.ireturn, 1) := by decide +kernel
theorem dX5_term_6 : decode cX5_term 6 = .ok (.aload_n 0, 1) := by decide +kernel
theorem dX5_term_7 : decode cX5_term 7 = .ok (.getfield 19, 3) := by decide +kernel
theorem dX5_term_10 : decode cX5_term 10 = .ok (.iload_n 1, 1) := by decide +kernel
theorem dX5_term_11 : decode cX5_term 11 = .ok (.invokevirtual 96, 3) := by decide +kernel
theorem dX5_term_14 : decode cX5_term 14 = .ok (.ireturn, 1) := by decide +kernel
theorem dX5_greedy_0 : decode cX5_greedy 0 = .ok (.iload_n 1, 1) := by decide +kernel
theorem dX5_greedy_1 : decode cX5_greedy 1 = .ok (.ifCond .lt 13, 3) := by decide +kernel
theorem dX5_greedy_4 : decode cX5_greedy 4 = .ok (.iload_n 1, 1) := by decide +kernel
theorem dX5_greedy_5 : decode cX5_greedy 5 = .ok (.iconst 1, 1) := by decide +kernel
theorem dX5_greedy_6 : decode cX5_greedy 6 = .ok (.if_icmp .gt 8, 3) := by decide +kernel
theorem dX5_greedy_9 : decode cX5_greedy 9 = .ok (.iload_n 2, 1) := by decide +kernel
theorem dX5_greedy_10 : decode cX5_greedy 10 = .ok (.iconst (-1), 1) := by decide +kernel
theorem dX5_greedy_11 : decode cX5_greedy 11 = .ok (.if_icmp .ge 5, 3) := by decide +kernel
theorem dX5_greedy_14 : decode cX5_greedy 14 = .ok (.iconst (-1), 1) := by decide +kernel
theorem dX5_greedy_15 : decode cX5_greedy 15 = .ok (.ireturn, 1) := by decide +kernel
theorem dX5_greedy_16 : decode cX5_greedy 16 = .ok (.aload_n 0, 1) := by decide +kernel
theorem dX5_greedy_17 : decode cX5_greedy 17 = .ok (.getfield 9, 3) := by decide +kernel
theorem dX5_greedy_20 : decode cX5_greedy 20 = .ok (.aload_n 0, 1) := by decide +kernel
theorem dX5_greedy_21 : decode cX5_greedy 21 = .ok (.getfield 13, 3) := by decide +kernel
theorem dX5_greedy_24 : decode cX5_greedy 24 = .ok (.iload_n 1, 1) := by decide +kernel
theorem dX5_greedy_25 : decode cX5_greedy 25 = .ok (.iconst 1, 1) := by decide +kernel
theorem dX5_greedy_26 : decode cX5_greedy 26 = .ok (.if_icmp .ne 7, 3) := by decide +kernel
theorem dX5_greedy_29 : decode cX5_greedy 29 = .ok (.iconst 1, 1) := by decide +kernel
theorem dX5_greedy_30 : decode cX5_greedy 30 = .ok (.goto 4, 3) := by decide +kernel
theorem dX5_greedy_33 : decode cX5_greedy 33 = .ok (.iconst 0, 1) := by decide +kernel
theorem dX5_greedy_34 : decode cX5_greedy 34 = .ok (.aload_n 0, 1) := by decide +kernel
theorem dX5_greedy_35 : decode cX5_greedy 35 = .ok (.getfield 23, 3) := by decide +kernel
theorem dX5_greedy_38 : decode cX5_greedy 38 = .ok (.invokestatic 126, 3) := by decide +kernel
theorem dX5_greedy_41 : decode cX5_greedy 41 = .ok (.ifCond .ne 6, 3) := by decide +kernel
theorem dX5_greedy_44 : decode cX5_greedy 44 = .ok (.bipush (-9), 2) := by decide +kernel
theorem dX5_greedy_46 : decode cX5_greedy 46 = .ok (.ireturn, 1) := by decide +kernel
theorem dX5_greedy_47 : decode cX5_greedy 47 = .ok (.iload_n 2, 1) := by decide +kernel
theorem dX5_greedy_48 : decode cX5_greedy 48 = .ok (.iconst (-1), 1) := by decide +kernel
theorem dX5_greedy_49 : decode cX5_greedy 49 = .ok (.if_icmp .ne 13, 3) := by decide +kernel
theorem dX5_greedy_52 : decode cX5_greedy 52 = .ok (.aload_n 0, 1) := by decide +kernel
theorem dX5_greedy_53 : decode cX5_greedy 53 = .ok (.getfield 23, 3) := by decide +kernel
theorem dX5_greedy_56 : decode cX5_greedy 56 = .ok (.invokevirtual 130, 3) := by decide +kernel
theorem dX5_greedy_59 : decode cX5_greedy 59 = .ok (.goto 11, 3) := by decide +kernel
theorem dX5_greedy_62 : decode cX5_greedy 62 = .ok (.aload_n 0, 1) := by decide +kernel
theorem dX5_greedy_63 : decode cX5_greedy 63 = .ok (.getfield 23, 3) := by decide +kernel
theorem dX5_greedy_66 : decode cX5_greedy 66 = .ok (.iload_n 2, 1) := by decide +kernel
theorem dX5_greedy_67 : decode cX5_greedy 67 = .ok (.invokevirtual 96, 3) := by decide +kernel
theorem dX5_greedy_70 : decode cX5_greedy 70 = .ok (.ireturn, 1) := by decide +kernel
theorem dX5_sums_0 : decode cX5_sums 0 = .ok (.iload_n 1, 1) := by decide +kernel
theorem dX5_sums_1 : decode cX5_sums 1 = .ok (.invokestatic 131, 3) := by decide +kernel
theorem dX5_sums_4 : decode cX5_sums 4 = .ok (.ifCond .eq 10, 3) := by decide +kernel
theorem dX5_sums_7 : decode cX5_sums 7 = .ok (.iload_n 2, 1) := by decide +kernel
theorem dX5_sums_8 : decode cX5_sums 8 = .ok (.invokestatic 134, 3) := by decide +kernel
theorem dX5_sums_11 : decode cX5_sums 11 = .ok (.ifCond .ne 5, 3) := by decide +kernel
theorem dX5_sums_14 : decode cX5_sums 14 = .ok (.iconst (-1), 1) := by decide +kernel
theorem dX5_sums_15 : decode cX5_sums 15 = .ok (.ireturn, 1) := by decide +kernel
theorem dX5_sums_16 : decode cX5_sums 16 = .ok (.aload_n 0, 1) := by decide +kernel
theorem dX5_sums_17 : decode cX5_sums 17 = .ok (.getfield 51, 3) := by decide +kernel
theorem dX5_sums_20 : decode cX5_sums 20 = .ok (.iload_n 1, 1) := by decide +kernel
theorem dX5_sums_21 : decode cX5_sums 21 = .ok (.iload_n 2, 1) := by decide +kernel
theorem dX5_sums_22 : decode cX5_sums 22 = .ok (.invokevirtual 137, 3) := by decide +kernel
theorem dX5_sums_25 : decode cX5_sums 25 = .ok (.ireturn, 1) := by decide +kernel
theorem dX5_sum_0 : decode cX5_sum 0 = .ok (.iload_n 1, 1) := by decide +kernel
theorem dX5_sum_1 : decode cX5_sum 1 = .ok (.invokestatic 131, 3) := by decide +kernel
theorem dX5_sum_4 : decode cX5_sum 4 = .ok (.ifCond .eq 19, 3) := by decide +kernel
theorem dX5_sum_7 : decode cX5_sum 7 = .ok (.iload_n 2, 1) := by decide +kernel
theorem dX5_sum_8 : decode cX5_sum 8 = .ok (.invokestatic 134, 3) := by decide +kernel
theorem dX5_sum_11 : decode cX5_sum 11 = .ok (.ifCond .eq 12, 3) := by decide +kernel
theorem dX5_sum_14 : decode cX5_sum 14 = .ok (.iload_n 3, 1) := by decide +kernel
theorem dX5_sum_15 : decode cX5_sum 15 = .ok (.ifCond .lt 8, 3) := by decide +kernel
theorem dX5_sum_18 : decode cX5_sum 18 = .ok (.iload 4, 2) := by decide +kernel
theorem dX5_sum_20 : decode cX5_sum 20 = .ok (.ifCond .ge 5, 3) := by decide +kernel
theorem dX5_sum_23 : decode cX5_sum 23 = .ok (.iconst (-1), 1) := by decide +kernel
theorem dX5_sum_24 : decode cX5_sum 24 = .ok (.ireturn, 1) := by decide +kernel
theorem dX5_sum_25 : decode cX5_sum 25 = .ok (.aload_n 0, 1) := by decide +kernel
theorem dX5_sum_26 : decode cX5_sum 26 = .ok (.getfield 51, 3) := by decide +kernel
theorem dX5_sum_29 : decode cX5_sum 29 = .ok (.iload_n 1, 1) := by decide +kernel
theorem dX5_sum_30 : decode cX5_sum 30 = .ok (.iload_n 2, 1) := by decide +kernel
theorem dX5_sum_31 : decode cX5_sum 31 = .ok (.iload_n 3, 1) := by decide +kernel
theorem dX5_sum_32 : decode cX5_sum 32 = .ok (.iload 4, 2) := by decide +kernel
theorem dX5_sum_34 : decode cX5_sum 34 = .ok (.invokevirtual 140, 3) := by decide +kernel
theorem dX5_sum_37 : decode cX5_sum 37 = .ok (.ireturn, 1) := by decide +kernel
theorem dX5_fewest_0 : decode cX5_fewest 0 = .ok (.iload_n 1, 1) := by decide +kernel
theorem dX5_fewest_1 : decode cX5_fewest 1 = .ok (.invokestatic 134, 3) := by decide +kernel
theorem dX5_fewest_4 : decode cX5_fewest 4 = .ok (.ifCond .ne 5, 3) := by decide +kernel
theorem dX5_fewest_7 : decode cX5_fewest 7 = .ok (.iconst (-1), 1) := by decide +kernel
theorem dX5_fewest_8 : decode cX5_fewest 8 = .ok (.ireturn, 1) := by decide +kernel
theorem dX5_fewest_9 : decode cX5_fewest 9 = .ok (.aload_n 0, 1) := by decide +kernel
theorem dX5_fewest_10 : decode cX5_fewest 10 = .ok (.getfield 51, 3) := by decide +kernel
theorem dX5_fewest_13 : decode cX5_fewest 13 = .ok (.iload_n 1, 1) := by decide +kernel
theorem dX5_fewest_14 : decode cX5_fewest 14 = .ok (.invokevirtual 144, 3) := by decide +kernel
theorem dX5_fewest_17 : decode cX5_fewest 17 = .ok (.ireturn, 1) := by decide +kernel
theorem dX5_bound_0 : decode cX5_bound 0 = .ok (.iload_n 1, 1) := by decide +kernel
theorem dX5_bound_1 : decode cX5_bound 1 = .ok (.invokestatic 131, 3) := by decide +kernel
theorem dX5_bound_4 : decode cX5_bound 4 = .ok (.ifCond .ne 5, 3) := by decide +kernel
theorem dX5_bound_7 : decode cX5_bound 7 = .ok (.iconst (-1), 1) := by decide +kernel
theorem dX5_bound_8 : decode cX5_bound 8 = .ok (.ireturn, 1) := by decide +kernel
theorem dX5_bound_9 : decode cX5_bound 9 = .ok (.aload_n 0, 1) := by decide +kernel
theorem dX5_bound_10 : decode cX5_bound 10 = .ok (.getfield 51, 3) := by decide +kernel
theorem dX5_bound_13 : decode cX5_bound 13 = .ok (.iload_n 1, 1) := by decide +kernel
theorem dX5_bound_14 : decode cX5_bound 14 = .ok (.invokevirtual 147, 3) := by decide +kernel
theorem dX5_bound_17 : decode cX5_bound 17 = .ok (.ireturn, 1) := by decide +kernel
theorem dX5_holds_0 : decode cX5_holds 0 = .ok (.iload_n 1, 1) := by decide +kernel
theorem dX5_holds_1 : decode cX5_holds 1 = .ok (.invokestatic 150, 3) := by decide +kernel
theorem dX5_holds_4 : decode cX5_holds 4 = .ok (.ifCond .eq 24, 3) := by decide +kernel
theorem dX5_holds_7 : decode cX5_holds 7 = .ok (.iload_n 2, 1) := by decide +kernel
theorem dX5_holds_8 : decode cX5_holds 8 = .ok (.ifCond .lt 20, 3) := by decide +kernel
theorem dX5_holds_11 : decode cX5_holds 11 = .ok (.iload_n 2, 1) := by decide +kernel
theorem dX5_holds_12 : decode cX5_holds 12 = .ok (.iconst 5, 1) := by decide +kernel
theorem dX5_holds_13 : decode cX5_holds 13 = .ok (.if_icmp .ge 15, 3) := by decide +kernel
theorem dX5_holds_16 : decode cX5_holds 16 = .ok (.iload_n 3, 1) := by decide +kernel
theorem dX5_holds_17 : decode cX5_holds 17 = .ok (.iconst 1, 1) := by decide +kernel
theorem dX5_holds_18 : decode cX5_holds 18 = .ok (.if_icmp .lt 10, 3) := by decide +kernel
theorem dX5_holds_21 : decode cX5_holds 21 = .ok (.iload_n 3, 1) := by decide +kernel
theorem dX5_holds_22 : decode cX5_holds 22 = .ok (.sipush 999, 3) := by decide +kernel
theorem dX5_holds_25 : decode cX5_holds 25 = .ok (.if_icmp .le 5, 3) := by decide +kernel
theorem dX5_holds_28 : decode cX5_holds 28 = .ok (.iconst (-1), 1) := by decide +kernel
theorem dX5_holds_29 : decode cX5_holds 29 = .ok (.ireturn, 1) := by decide +kernel
theorem dX5_holds_30 : decode cX5_holds 30 = .ok (.iload_n 1, 1) := by decide +kernel
theorem dX5_holds_31 : decode cX5_holds 31 = .ok (.iload_n 2, 1) := by decide +kernel
theorem dX5_holds_32 : decode cX5_holds 32 = .ok (.iload_n 3, 1) := by decide +kernel
theorem dX5_holds_33 : decode cX5_holds 33 = .ok (.invokestatic 153, 3) := by decide +kernel
theorem dX5_holds_36 : decode cX5_holds 36 = .ok (.ifCond .eq 7, 3) := by decide +kernel
theorem dX5_holds_39 : decode cX5_holds 39 = .ok (.iconst 1, 1) := by decide +kernel
theorem dX5_holds_40 : decode cX5_holds 40 = .ok (.goto 4, 3) := by decide +kernel
theorem dX5_holds_43 : decode cX5_holds 43 = .ok (.iconst 0, 1) := by decide +kernel
theorem dX5_holds_44 : decode cX5_holds 44 = .ok (.ireturn, 1) := by decide +kernel
theorem dX5_covered_0 : decode cX5_covered 0 = .ok (.iload_n 1, 1) := by decide +kernel
theorem dX5_covered_1 : decode cX5_covered 1 = .ok (.invokestatic 150, 3) := by decide +kernel
theorem dX5_covered_4 : decode cX5_covered 4 = .ok (.ifCond .eq 21, 3) := by decide +kernel
theorem dX5_covered_7 : decode cX5_covered 7 = .ok (.iload_n 2, 1) := by decide +kernel
theorem dX5_covered_8 : decode cX5_covered 8 = .ok (.iconst 1, 1) := by decide +kernel
theorem dX5_covered_9 : decode cX5_covered 9 = .ok (.if_icmp .lt 16, 3) := by decide +kernel
theorem dX5_covered_12 : decode cX5_covered 12 = .ok (.iload_n 2, 1) := by decide +kernel
theorem dX5_covered_13 : decode cX5_covered 13 = .ok (.bipush 24, 2) := by decide +kernel
theorem dX5_covered_15 : decode cX5_covered 15 = .ok (.if_icmp .gt 10, 3) := by decide +kernel
theorem dX5_covered_18 : decode cX5_covered 18 = .ok (.iload_n 3, 1) := by decide +kernel
theorem dX5_covered_19 : decode cX5_covered 19 = .ok (.invokestatic 157, 3) := by decide +kernel
theorem dX5_covered_22 : decode cX5_covered 22 = .ok (.ifCond .ne 5, 3) := by decide +kernel
theorem dX5_covered_25 : decode cX5_covered 25 = .ok (.iconst (-1), 1) := by decide +kernel
theorem dX5_covered_26 : decode cX5_covered 26 = .ok (.ireturn, 1) := by decide +kernel
theorem dX5_covered_27 : decode cX5_covered 27 = .ok (.iconst 0, 1) := by decide +kernel
theorem dX5_covered_28 : decode cX5_covered 28 = .ok (.istore 4, 2) := by decide +kernel
theorem dX5_covered_30 : decode cX5_covered 30 = .ok (.iconst 0, 1) := by decide +kernel
theorem dX5_covered_31 : decode cX5_covered 31 = .ok (.istore 5, 2) := by decide +kernel
theorem dX5_covered_33 : decode cX5_covered 33 = .ok (.iload 5, 2) := by decide +kernel
theorem dX5_covered_35 : decode cX5_covered 35 = .ok (.iload_n 2, 1) := by decide +kernel
theorem dX5_covered_36 : decode cX5_covered 36 = .ok (.if_icmp .ge 29, 3) := by decide +kernel
theorem dX5_covered_39 : decode cX5_covered 39 = .ok (.iload_n 1, 1) := by decide +kernel
theorem dX5_covered_40 : decode cX5_covered 40 = .ok (.iload_n 2, 1) := by decide +kernel
theorem dX5_covered_41 : decode cX5_covered 41 = .ok (.iload 5, 2) := by decide +kernel
theorem dX5_covered_43 : decode cX5_covered 43 = .ok (.iload_n 3, 1) := by decide +kernel
theorem dX5_covered_44 : decode cX5_covered 44 = .ok (.invokestatic 160, 3) := by decide +kernel
theorem dX5_covered_47 : decode cX5_covered 47 = .ok (.ifCond .eq 12, 3) := by decide +kernel
theorem dX5_covered_50 : decode cX5_covered 50 = .ok (.iload 4, 2) := by decide +kernel
theorem dX5_covered_52 : decode cX5_covered 52 = .ok (.iconst 1, 1) := by decide +kernel
theorem dX5_covered_53 : decode cX5_covered 53 = .ok (.iload 5, 2) := by decide +kernel
theorem dX5_covered_55 : decode cX5_covered 55 = .ok (.ishl, 1) := by decide +kernel
theorem dX5_covered_56 : decode cX5_covered 56 = .ok (.ior, 1) := by decide +kernel
theorem dX5_covered_57 : decode cX5_covered 57 = .ok (.istore 4, 2) := by decide +kernel
theorem dX5_covered_59 : decode cX5_covered 59 = .ok (.iinc 5 1, 3) := by decide +kernel
theorem dX5_covered_62 : decode cX5_covered 62 = .ok (.goto (-29), 3) := by decide +kernel
theorem dX5_covered_65 : decode cX5_covered 65 = .ok (.iload 4, 2) := by decide +kernel
theorem dX5_covered_67 : decode cX5_covered 67 = .ok (.ireturn, 1) := by decide +kernel
theorem dX5_open_0 : decode cX5_open 0 = .ok (.iload_n 1, 1) := by decide +kernel
theorem dX5_open_1 : decode cX5_open 1 = .ok (.invokestatic 150, 3) := by decide +kernel
theorem dX5_open_4 : decode cX5_open 4 = .ok (.ifCond .eq 10, 3) := by decide +kernel
theorem dX5_open_7 : decode cX5_open 7 = .ok (.iload_n 2, 1) := by decide +kernel
theorem dX5_open_8 : decode cX5_open 8 = .ok (.invokestatic 157, 3) := by decide +kernel
theorem dX5_open_11 : decode cX5_open 11 = .ok (.ifCond .ne 5, 3) := by decide +kernel
theorem dX5_open_14 : decode cX5_open 14 = .ok (.iconst (-1), 1) := by decide +kernel
theorem dX5_open_15 : decode cX5_open 15 = .ok (.ireturn, 1) := by decide +kernel
theorem dX5_open_16 : decode cX5_open 16 = .ok (.iconst 1, 1) := by decide +kernel
theorem dX5_open_17 : decode cX5_open 17 = .ok (.istore_n 3, 1) := by decide +kernel
theorem dX5_open_18 : decode cX5_open 18 = .ok (.iload_n 3, 1) := by decide +kernel
theorem dX5_open_19 : decode cX5_open 19 = .ok (.sipush 999, 3) := by decide +kernel
theorem dX5_open_22 : decode cX5_open 22 = .ok (.if_icmp .gt 21, 3) := by decide +kernel
theorem dX5_open_25 : decode cX5_open 25 = .ok (.iload_n 1, 1) := by decide +kernel
theorem dX5_open_26 : decode cX5_open 26 = .ok (.iload_n 3, 1) := by decide +kernel
theorem dX5_open_27 : decode cX5_open 27 = .ok (.invokestatic 164, 3) := by decide +kernel
theorem dX5_open_30 : decode cX5_open 30 = .ok (.iload_n 2, 1) := by decide +kernel
theorem dX5_open_31 : decode cX5_open 31 = .ok (.iand, 1) := by decide +kernel
theorem dX5_open_32 : decode cX5_open 32 = .ok (.ifCond .ne 5, 3) := by decide +kernel
theorem dX5_open_35 : decode cX5_open 35 = .ok (.iload_n 3, 1) := by decide +kernel
theorem dX5_open_36 : decode cX5_open 36 = .ok (.ireturn, 1) := by decide +kernel
theorem dX5_open_37 : decode cX5_open 37 = .ok (.iinc 3 1, 3) := by decide +kernel
theorem dX5_open_40 : decode cX5_open 40 = .ok (.goto (-22), 3) := by decide +kernel
theorem dX5_open_43 : decode cX5_open 43 = .ok (.bipush (-9), 2) := by decide +kernel
theorem dX5_open_45 : decode cX5_open 45 = .ok (.ireturn, 1) := by decide +kernel
theorem dX5_sees_0 : decode cX5_sees 0 = .ok (.iload_n 1, 1) := by decide +kernel
theorem dX5_sees_1 : decode cX5_sees 1 = .ok (.invokestatic 150, 3) := by decide +kernel
theorem dX5_sees_4 : decode cX5_sees 4 = .ok (.ifCond .eq 24, 3) := by decide +kernel
theorem dX5_sees_7 : decode cX5_sees 7 = .ok (.iload_n 2, 1) := by decide +kernel
theorem dX5_sees_8 : decode cX5_sees 8 = .ok (.iconst 1, 1) := by decide +kernel
theorem dX5_sees_9 : decode cX5_sees 9 = .ok (.if_icmp .lt 19, 3) := by decide +kernel
theorem dX5_sees_12 : decode cX5_sees 12 = .ok (.iload_n 2, 1) := by decide +kernel
theorem dX5_sees_13 : decode cX5_sees 13 = .ok (.sipush 999, 3) := by decide +kernel
theorem dX5_sees_16 : decode cX5_sees 16 = .ok (.if_icmp .gt 12, 3) := by decide +kernel
theorem dX5_sees_19 : decode cX5_sees 19 = .ok (.iload_n 3, 1) := by decide +kernel
theorem dX5_sees_20 : decode cX5_sees 20 = .ok (.ifCond .lt 8, 3) := by decide +kernel
theorem dX5_sees_23 : decode cX5_sees 23 = .ok (.iload_n 3, 1) := by decide +kernel
theorem dX5_sees_24 : decode cX5_sees 24 = .ok (.iconst 1, 1) := by decide +kernel
theorem dX5_sees_25 : decode cX5_sees 25 = .ok (.if_icmp .le 5, 3) := by decide +kernel
theorem dX5_sees_28 : decode cX5_sees 28 = .ok (.iconst (-1), 1) := by decide +kernel
theorem dX5_sees_29 : decode cX5_sees 29 = .ok (.ireturn, 1) := by decide +kernel
theorem dX5_sees_30 : decode cX5_sees 30 = .ok (.aload_n 0, 1) := by decide +kernel
theorem dX5_sees_31 : decode cX5_sees 31 = .ok (.getfield 58, 3) := by decide +kernel
theorem dX5_sees_34 : decode cX5_sees 34 = .ok (.iload_n 1, 1) := by decide +kernel
theorem dX5_sees_35 : decode cX5_sees 35 = .ok (.iload_n 2, 1) := by decide +kernel
theorem dX5_sees_36 : decode cX5_sees 36 = .ok (.iload_n 3, 1) := by decide +kernel
theorem dX5_sees_37 : decode cX5_sees 37 = .ok (.iconst 1, 1) := by decide +kernel
theorem dX5_sees_38 : decode cX5_sees 38 = .ok (.if_icmp .ne 7, 3) := by decide +kernel
theorem dX5_sees_41 : decode cX5_sees 41 = .ok (.iconst 1, 1) := by decide +kernel
theorem dX5_sees_42 : decode cX5_sees 42 = .ok (.goto 4, 3) := by decide +kernel
theorem dX5_sees_45 : decode cX5_sees 45 = .ok (.iconst 0, 1) := by decide +kernel
theorem dX5_sees_46 : decode cX5_sees 46 = .ok (.invokevirtual 167, 3) := by decide +kernel
theorem dX5_sees_49 : decode cX5_sees 49 = .ok (.ifCond .eq 13, 3) := by decide +kernel
theorem dX5_sees_52 : decode cX5_sees 52 = .ok (.aload_n 0, 1) := by decide +kernel
theorem dX5_sees_53 : decode cX5_sees 53 = .ok (.getfield 58, 3) := by decide +kernel
theorem dX5_sees_56 : decode cX5_sees 56 = .ok (.invokevirtual 171, 3) := by decide +kernel
theorem dX5_sees_59 : decode cX5_sees 59 = .ok (.goto 5, 3) := by decide +kernel
theorem dX5_sees_62 : decode cX5_sees 62 = .ok (.bipush (-3), 2) := by decide +kernel
theorem dX5_sees_64 : decode cX5_sees 64 = .ok (.ireturn, 1) := by decide +kernel
theorem dX5_forget_0 : decode cX5_forget 0 = .ok (.aload_n 0, 1) := by decide +kernel
theorem dX5_forget_1 : decode cX5_forget 1 = .ok (.getfield 58, 3) := by decide +kernel
theorem dX5_forget_4 : decode cX5_forget 4 = .ok (.invokevirtual 171, 3) := by decide +kernel
theorem dX5_forget_7 : decode cX5_forget 7 = .ok (.istore_n 1, 1) := by decide +kernel
theorem dX5_forget_8 : decode cX5_forget 8 = .ok (.aload_n 0, 1) := by decide +kernel
theorem dX5_forget_9 : decode cX5_forget 9 = .ok (.getfield 58, 3) := by decide +kernel
theorem dX5_forget_12 : decode cX5_forget 12 = .ok (.invokevirtual 172, 3) := by decide +kernel
theorem dX5_forget_15 : decode cX5_forget 15 = .ok (.iload_n 1, 1) := by decide +kernel
theorem dX5_forget_16 : decode cX5_forget 16 = .ok (.ireturn, 1) := by decide +kernel
theorem dX5_unseen_0 : decode cX5_unseen 0 = .ok (.aload_n 0, 1) := by decide +kernel
theorem dX5_unseen_1 : decode cX5_unseen 1 = .ok (.getfield 58, 3) := by decide +kernel
theorem dX5_unseen_4 : decode cX5_unseen 4 = .ok (.invokevirtual 173, 3) := by decide +kernel
theorem dX5_unseen_7 : decode cX5_unseen 7 = .ok (.ireturn, 1) := by decide +kernel
theorem dX5_ask_0 : decode cX5_ask 0 = .ok (.iload_n 1, 1) := by decide +kernel
theorem dX5_ask_1 : decode cX5_ask 1 = .ok (.invokestatic 150, 3) := by decide +kernel
theorem dX5_ask_4 : decode cX5_ask 4 = .ok (.ifCond .ne 5, 3) := by decide +kernel
theorem dX5_ask_7 : decode cX5_ask 7 = .ok (.iconst (-1), 1) := by decide +kernel
theorem dX5_ask_8 : decode cX5_ask 8 = .ok (.ireturn, 1) := by decide +kernel
theorem dX5_ask_9 : decode cX5_ask 9 = .ok (.iload_n 1, 1) := by decide +kernel
theorem dX5_ask_10 : decode cX5_ask 10 = .ok (.aload_n 0, 1) := by decide +kernel
theorem dX5_ask_11 : decode cX5_ask 11 = .ok (.getfield 58, 3) := by decide +kernel
theorem dX5_ask_14 : decode cX5_ask 14 = .ok (.invokevirtual 173, 3) := by decide +kernel
theorem dX5_ask_17 : decode cX5_ask 17 = .ok (.invokestatic 176, 3) := by decide +kernel
theorem dX5_ask_20 : decode cX5_ask 20 = .ok (.ireturn, 1) := by decide +kernel
theorem dX5_keep_0 : decode cX5_keep 0 = .ok (.iload_n 1, 1) := by decide +kernel
theorem dX5_keep_1 : decode cX5_keep 1 = .ok (.ifCond .lt 8, 3) := by decide +kernel
theorem dX5_keep_4 : decode cX5_keep 4 = .ok (.iload_n 1, 1) := by decide +kernel
theorem dX5_keep_5 : decode cX5_keep 5 = .ok (.iconst 2, 1) := by decide +kernel
theorem dX5_keep_6 : decode cX5_keep 6 = .ok (.if_icmp .lt 5, 3) := by decide +kernel
theorem dX5_keep_9 : decode cX5_keep 9 = .ok (.iconst (-1), 1) := by decide +kernel
theorem dX5_keep_10 : decode cX5_keep 10 = .ok (.ireturn, 1) := by decide +kernel
theorem dX5_keep_11 : decode cX5_keep 11 = .ok (.aload_n 0, 1) := by decide +kernel
theorem dX5_keep_12 : decode cX5_keep 12 = .ok (.getfield 40, 3) := by decide +kernel
theorem dX5_keep_15 : decode cX5_keep 15 = .ok (.iload_n 1, 1) := by decide +kernel
theorem dX5_keep_16 : decode cX5_keep 16 = .ok (.aaload, 1) := by decide +kernel
theorem dX5_keep_17 : decode cX5_keep 17 = .ok (.aload_n 0, 1) := by decide +kernel
theorem dX5_keep_18 : decode cX5_keep 18 = .ok (.getfield 19, 3) := by decide +kernel
theorem dX5_keep_21 : decode cX5_keep 21 = .ok (.invokevirtual 88, 3) := by decide +kernel
theorem dX5_keep_24 : decode cX5_keep 24 = .ok (.aload_n 0, 1) := by decide +kernel
theorem dX5_keep_25 : decode cX5_keep 25 = .ok (.getfield 44, 3) := by decide +kernel
theorem dX5_keep_28 : decode cX5_keep 28 = .ok (.iload_n 1, 1) := by decide +kernel
theorem dX5_keep_29 : decode cX5_keep 29 = .ok (.iconst 1, 1) := by decide +kernel
theorem dX5_keep_30 : decode cX5_keep 30 = .ok (.bastore, 1) := by decide +kernel
theorem dX5_keep_31 : decode cX5_keep 31 = .ok (.aload_n 0, 1) := by decide +kernel
theorem dX5_keep_32 : decode cX5_keep 32 = .ok (.getfield 19, 3) := by decide +kernel
theorem dX5_keep_35 : decode cX5_keep 35 = .ok (.invokevirtual 130, 3) := by decide +kernel
theorem dX5_keep_38 : decode cX5_keep 38 = .ok (.ireturn, 1) := by decide +kernel
theorem dX5_back_0 : decode cX5_back 0 = .ok (.iload_n 1, 1) := by decide +kernel
theorem dX5_back_1 : decode cX5_back 1 = .ok (.ifCond .lt 8, 3) := by decide +kernel
theorem dX5_back_4 : decode cX5_back 4 = .ok (.iload_n 1, 1) := by decide +kernel
theorem dX5_back_5 : decode cX5_back 5 = .ok (.iconst 2, 1) := by decide +kernel
theorem dX5_back_6 : decode cX5_back 6 = .ok (.if_icmp .lt 5, 3) := by decide +kernel
theorem dX5_back_9 : decode cX5_back 9 = .ok (.iconst (-1), 1) := by decide +kernel
theorem dX5_back_10 : decode cX5_back 10 = .ok (.ireturn, 1) := by decide +kernel
theorem dX5_back_11 : decode cX5_back 11 = .ok (.aload_n 0, 1) := by decide +kernel
theorem dX5_back_12 : decode cX5_back 12 = .ok (.getfield 44, 3) := by decide +kernel
theorem dX5_back_15 : decode cX5_back 15 = .ok (.iload_n 1, 1) := by decide +kernel
theorem dX5_back_16 : decode cX5_back 16 = .ok (.baload, 1) := by decide +kernel
theorem dX5_back_17 : decode cX5_back 17 = .ok (.ifCond .ne 6, 3) := by decide +kernel
theorem dX5_back_20 : decode cX5_back 20 = .ok (.bipush (-2), 2) := by decide +kernel
theorem dX5_back_22 : decode cX5_back 22 = .ok (.ireturn, 1) := by decide +kernel
theorem dX5_back_23 : decode cX5_back 23 = .ok (.aload_n 0, 1) := by decide +kernel
theorem dX5_back_24 : decode cX5_back 24 = .ok (.getfield 19, 3) := by decide +kernel
theorem dX5_back_27 : decode cX5_back 27 = .ok (.aload_n 0, 1) := by decide +kernel
theorem dX5_back_28 : decode cX5_back 28 = .ok (.getfield 40, 3) := by decide +kernel
theorem dX5_back_31 : decode cX5_back 31 = .ok (.iload_n 1, 1) := by decide +kernel
theorem dX5_back_32 : decode cX5_back 32 = .ok (.aaload, 1) := by decide +kernel
theorem dX5_back_33 : decode cX5_back 33 = .ok (.invokevirtual 88, 3) := by decide +kernel
theorem dX5_back_36 : decode cX5_back 36 = .ok (.aload_n 0, 1) := by decide +kernel
theorem dX5_back_37 : decode cX5_back 37 = .ok (.getfield 36, 3) := by decide +kernel
theorem dX5_back_40 : decode cX5_back 40 = .ok (.invokevirtual 179, 3) := by decide +kernel
theorem dX5_back_43 : decode cX5_back 43 = .ok (.aload_n 0, 1) := by decide +kernel
theorem dX5_back_44 : decode cX5_back 44 = .ok (.getfield 19, 3) := by decide +kernel
theorem dX5_back_47 : decode cX5_back 47 = .ok (.invokevirtual 130, 3) := by decide +kernel
theorem dX5_back_50 : decode cX5_back 50 = .ok (.ireturn, 1) := by decide +kernel
theorem dX5_count_0 : decode cX5_count 0 = .ok (.iload_n 1, 1) := by decide +kernel
theorem dX5_count_1 : decode cX5_count 1 = .ok (.tableswitch 102 0 6 #[43, 48, 53, 61, 78, 86, 94], 43) := by decide +kernel
theorem dX5_count_44 : decode cX5_count 44 = .ok (.aload_n 0, 1) := by decide +kernel
theorem dX5_count_45 : decode cX5_count 45 = .ok (.getfield 9, 3) := by decide +kernel
theorem dX5_count_48 : decode cX5_count 48 = .ok (.ireturn, 1) := by decide +kernel
theorem dX5_count_49 : decode cX5_count 49 = .ok (.aload_n 0, 1) := by decide +kernel
theorem dX5_count_50 : decode cX5_count 50 = .ok (.getfield 13, 3) := by decide +kernel
theorem dX5_count_53 : decode cX5_count 53 = .ok (.ireturn, 1) := by decide +kernel
theorem dX5_count_54 : decode cX5_count 54 = .ok (.aload_n 0, 1) := by decide +kernel
theorem dX5_count_55 : decode cX5_count 55 = .ok (.getfield 19, 3) := by decide +kernel
theorem dX5_count_58 : decode cX5_count 58 = .ok (.invokevirtual 130, 3) := by decide +kernel
theorem dX5_count_61 : decode cX5_count 61 = .ok (.ireturn, 1) := by decide +kernel
theorem dX5_count_62 : decode cX5_count 62 = .ok (.aload_n 0, 1) := by decide +kernel
theorem dX5_count_63 : decode cX5_count 63 = .ok (.getfield 19, 3) := by decide +kernel
theorem dX5_count_66 : decode cX5_count 66 = .ok (.aload_n 0, 1) := by decide +kernel
theorem dX5_count_67 : decode cX5_count 67 = .ok (.getfield 19, 3) := by decide +kernel
theorem dX5_count_70 : decode cX5_count 70 = .ok (.invokevirtual 130, 3) := by decide +kernel
theorem dX5_count_73 : decode cX5_count 73 = .ok (.iconst 1, 1) := by decide +kernel
theorem dX5_count_74 : decode cX5_count 74 = .ok (.isub, 1) := by decide +kernel
theorem dX5_count_75 : decode cX5_count 75 = .ok (.invokevirtual 96, 3) := by decide +kernel
theorem dX5_count_78 : decode cX5_count 78 = .ok (.ireturn, 1) := by decide +kernel
theorem dX5_count_79 : decode cX5_count 79 = .ok (.aload_n 0, 1) := by decide +kernel
theorem dX5_count_80 : decode cX5_count 80 = .ok (.getfield 58, 3) := by decide +kernel
theorem dX5_count_83 : decode cX5_count 83 = .ok (.invokevirtual 171, 3) := by decide +kernel
theorem dX5_count_86 : decode cX5_count 86 = .ok (.ireturn, 1) := by decide +kernel
theorem dX5_count_87 : decode cX5_count 87 = .ok (.aload_n 0, 1) := by decide +kernel
theorem dX5_count_88 : decode cX5_count 88 = .ok (.getfield 29, 3) := by decide +kernel
theorem dX5_count_91 : decode cX5_count 91 = .ok (.invokevirtual 66, 3) := by decide +kernel
theorem dX5_count_94 : decode cX5_count 94 = .ok (.ireturn, 1) := by decide +kernel
theorem dX5_count_95 : decode cX5_count 95 = .ok (.aload_n 0, 1) := by decide +kernel
theorem dX5_count_96 : decode cX5_count 96 = .ok (.getfield 36, 3) := by decide +kernel
theorem dX5_count_99 : decode cX5_count 99 = .ok (.invokevirtual 125, 3) := by decide +kernel
theorem dX5_count_102 : decode cX5_count 102 = .ok (.ireturn, 1) := by decide +kernel
theorem dX5_count_103 : decode cX5_count 103 = .ok (.iconst (-1), 1) := by decide +kernel
theorem dX5_count_104 : decode cX5_count 104 = .ok (.ireturn, 1) := by decide +kernel
theorem dX5_isLength_0 : decode cX5_isLength 0 = .ok (.iload_n 0, 1) := by decide +kernel
theorem dX5_isLength_1 : decode cX5_isLength 1 = .ok (.iconst 1, 1) := by decide +kernel
theorem dX5_isLength_2 : decode cX5_isLength 2 = .ok (.if_icmp .lt 12, 3) := by decide +kernel
theorem dX5_isLength_5 : decode cX5_isLength 5 = .ok (.iload_n 0, 1) := by decide +kernel
theorem dX5_isLength_6 : decode cX5_isLength 6 = .ok (.iconst 5, 1) := by decide +kernel
theorem dX5_isLength_7 : decode cX5_isLength 7 = .ok (.if_icmp .gt 7, 3) := by decide +kernel
theorem dX5_isLength_10 : decode cX5_isLength 10 = .ok (.iconst 1, 1) := by decide +kernel
theorem dX5_isLength_11 : decode cX5_isLength 11 = .ok (.goto 4, 3) := by decide +kernel
theorem dX5_isLength_14 : decode cX5_isLength 14 = .ok (.iconst 0, 1) := by decide +kernel
theorem dX5_isLength_15 : decode cX5_isLength 15 = .ok (.ireturn, 1) := by decide +kernel
theorem dX5_isBound_0 : decode cX5_isBound 0 = .ok (.iload_n 0, 1) := by decide +kernel
theorem dX5_isBound_1 : decode cX5_isBound 1 = .ok (.iconst 1, 1) := by decide +kernel
theorem dX5_isBound_2 : decode cX5_isBound 2 = .ok (.if_icmp .lt 13, 3) := by decide +kernel
theorem dX5_isBound_5 : decode cX5_isBound 5 = .ok (.iload_n 0, 1) := by decide +kernel
theorem dX5_isBound_6 : decode cX5_isBound 6 = .ok (.bipush 60, 2) := by decide +kernel
theorem dX5_isBound_8 : decode cX5_isBound 8 = .ok (.if_icmp .gt 7, 3) := by decide +kernel
theorem dX5_isBound_11 : decode cX5_isBound 11 = .ok (.iconst 1, 1) := by decide +kernel
theorem dX5_isBound_12 : decode cX5_isBound 12 = .ok (.goto 4, 3) := by decide +kernel
theorem dX5_isBound_15 : decode cX5_isBound 15 = .ok (.iconst 0, 1) := by decide +kernel
theorem dX5_isBound_16 : decode cX5_isBound 16 = .ok (.ireturn, 1) := by decide +kernel
theorem dX5_isNumerator_0 : decode cX5_isNumerator 0 = .ok (.iload_n 0, 1) := by decide +kernel
theorem dX5_isNumerator_1 : decode cX5_isNumerator 1 = .ok (.iconst 2, 1) := by decide +kernel
theorem dX5_isNumerator_2 : decode cX5_isNumerator 2 = .ok (.if_icmp .lt 13, 3) := by decide +kernel
theorem dX5_isNumerator_5 : decode cX5_isNumerator 5 = .ok (.iload_n 0, 1) := by decide +kernel
theorem dX5_isNumerator_6 : decode cX5_isNumerator 6 = .ok (.bipush 7, 2) := by decide +kernel
theorem dX5_isNumerator_8 : decode cX5_isNumerator 8 = .ok (.if_icmp .gt 7, 3) := by decide +kernel
theorem dX5_isNumerator_11 : decode cX5_isNumerator 11 = .ok (.iconst 1, 1) := by decide +kernel
theorem dX5_isNumerator_12 : decode cX5_isNumerator 12 = .ok (.goto 4, 3) := by decide +kernel
theorem dX5_isNumerator_15 : decode cX5_isNumerator 15 = .ok (.iconst 0, 1) := by decide +kernel
theorem dX5_isNumerator_16 : decode cX5_isNumerator 16 = .ok (.ireturn, 1) := by decide +kernel
theorem dX5_isChoice_0 : decode cX5_isChoice 0 = .ok (.iload_n 0, 1) := by decide +kernel
theorem dX5_isChoice_1 : decode cX5_isChoice 1 = .ok (.ifCond .lt 13, 3) := by decide +kernel
theorem dX5_isChoice_4 : decode cX5_isChoice 4 = .ok (.iload_n 0, 1) := by decide +kernel
theorem dX5_isChoice_5 : decode cX5_isChoice 5 = .ok (.bipush 31, 2) := by decide +kernel
theorem dX5_isChoice_7 : decode cX5_isChoice 7 = .ok (.if_icmp .gt 7, 3) := by decide +kernel
theorem dX5_isChoice_10 : decode cX5_isChoice 10 = .ok (.iconst 1, 1) := by decide +kernel
theorem dX5_isChoice_11 : decode cX5_isChoice 11 = .ok (.goto 4, 3) := by decide +kernel
theorem dX5_isChoice_14 : decode cX5_isChoice 14 = .ok (.iconst 0, 1) := by decide +kernel
theorem dX5_isChoice_15 : decode cX5_isChoice 15 = .ok (.ireturn, 1) := by decide +kernel
theorem dX5_startAnew_0 : decode cX5_startAnew 0 = .ok (.aload_n 0, 1) := by decide +kernel
theorem dX5_startAnew_1 : decode cX5_startAnew 1 = .ok (.aload_n 0, 1) := by decide +kernel
theorem dX5_startAnew_2 : decode cX5_startAnew 2 = .ok (.getfield 29, 3) := by decide +kernel
theorem dX5_startAnew_5 : decode cX5_startAnew 5 = .ok (.invokevirtual 180, 3) := by decide +kernel
theorem dX5_startAnew_8 : decode cX5_startAnew 8 = .ok (.putfield 9, 3) := by decide +kernel
theorem dX5_startAnew_11 : decode cX5_startAnew 11 = .ok (.aload_n 0, 1) := by decide +kernel
theorem dX5_startAnew_12 : decode cX5_startAnew 12 = .ok (.aload_n 0, 1) := by decide +kernel
theorem dX5_startAnew_13 : decode cX5_startAnew 13 = .ok (.getfield 29, 3) := by decide +kernel
theorem dX5_startAnew_16 : decode cX5_startAnew 16 = .ok (.invokevirtual 183, 3) := by decide +kernel
theorem dX5_startAnew_19 : decode cX5_startAnew 19 = .ok (.putfield 13, 3) := by decide +kernel
theorem dX5_startAnew_22 : decode cX5_startAnew 22 = .ok (.aload_n 0, 1) := by decide +kernel
theorem dX5_startAnew_23 : decode cX5_startAnew 23 = .ok (.getfield 19, 3) := by decide +kernel
theorem dX5_startAnew_26 : decode cX5_startAnew 26 = .ok (.aload_n 0, 1) := by decide +kernel
theorem dX5_startAnew_27 : decode cX5_startAnew 27 = .ok (.getfield 29, 3) := by decide +kernel
theorem dX5_startAnew_30 : decode cX5_startAnew 30 = .ok (.invokevirtual 186, 3) := by decide +kernel
theorem dX5_startAnew_33 : decode cX5_startAnew 33 = .ok (.invokevirtual 88, 3) := by decide +kernel
theorem dX5_startAnew_36 : decode cX5_startAnew 36 = .ok (.aload_n 0, 1) := by decide +kernel
theorem dX5_startAnew_37 : decode cX5_startAnew 37 = .ok (.getfield 29, 3) := by decide +kernel
theorem dX5_startAnew_40 : decode cX5_startAnew 40 = .ok (.invokevirtual 70, 3) := by decide +kernel
theorem dX5_startAnew_43 : decode cX5_startAnew 43 = .ok (.aload_n 0, 1) := by decide +kernel
theorem dX5_startAnew_44 : decode cX5_startAnew 44 = .ok (.getfield 36, 3) := by decide +kernel
theorem dX5_startAnew_47 : decode cX5_startAnew 47 = .ok (.invokevirtual 179, 3) := by decide +kernel
theorem dX5_startAnew_50 : decode cX5_startAnew 50 = .ok (.aload_n 0, 1) := by decide +kernel
theorem dX5_startAnew_51 : decode cX5_startAnew 51 = .ok (.getfield 58, 3) := by decide +kernel
theorem dX5_startAnew_54 : decode cX5_startAnew 54 = .ok (.invokevirtual 172, 3) := by decide +kernel
theorem dX5_startAnew_57 : decode cX5_startAnew 57 = .ok (.aload_n 0, 1) := by decide +kernel
theorem dX5_startAnew_58 : decode cX5_startAnew 58 = .ok (.getfield 51, 3) := by decide +kernel
theorem dX5_startAnew_61 : decode cX5_startAnew 61 = .ok (.aload_n 0, 1) := by decide +kernel
theorem dX5_startAnew_62 : decode cX5_startAnew 62 = .ok (.getfield 9, 3) := by decide +kernel
theorem dX5_startAnew_65 : decode cX5_startAnew 65 = .ok (.aload_n 0, 1) := by decide +kernel
theorem dX5_startAnew_66 : decode cX5_startAnew 66 = .ok (.getfield 13, 3) := by decide +kernel
theorem dX5_startAnew_69 : decode cX5_startAnew 69 = .ok (.invokevirtual 190, 3) := by decide +kernel
theorem dX5_startAnew_72 : decode cX5_startAnew 72 = .ok (.iconst 0, 1) := by decide +kernel
theorem dX5_startAnew_73 : decode cX5_startAnew 73 = .ok (.istore_n 1, 1) := by decide +kernel
theorem dX5_startAnew_74 : decode cX5_startAnew 74 = .ok (.iload_n 1, 1) := by decide +kernel
theorem dX5_startAnew_75 : decode cX5_startAnew 75 = .ok (.iconst 2, 1) := by decide +kernel
theorem dX5_startAnew_76 : decode cX5_startAnew 76 = .ok (.if_icmp .ge 16, 3) := by decide +kernel
theorem dX5_startAnew_79 : decode cX5_startAnew 79 = .ok (.aload_n 0, 1) := by decide +kernel
theorem dX5_startAnew_80 : decode cX5_startAnew 80 = .ok (.getfield 44, 3) := by decide +kernel
theorem dX5_startAnew_83 : decode cX5_startAnew 83 = .ok (.iload_n 1, 1) := by decide +kernel
theorem dX5_startAnew_84 : decode cX5_startAnew 84 = .ok (.iconst 0, 1) := by decide +kernel
theorem dX5_startAnew_85 : decode cX5_startAnew 85 = .ok (.bastore, 1) := by decide +kernel
theorem dX5_startAnew_86 : decode cX5_startAnew 86 = .ok (.iinc 1 1, 3) := by decide +kernel
theorem dX5_startAnew_89 : decode cX5_startAnew 89 = .ok (.goto (-15), 3) := by decide +kernel
theorem dX5_startAnew_92 : decode cX5_startAnew 92 = .ok (.return_, 1) := by decide +kernel
theorem dX5_takeDraft_0 : decode cX5_takeDraft 0 = .ok (.aload_n 0, 1) := by decide +kernel
theorem dX5_takeDraft_1 : decode cX5_takeDraft 1 = .ok (.getfield 36, 3) := by decide +kernel
theorem dX5_takeDraft_4 : decode cX5_takeDraft 4 = .ok (.aload_n 0, 1) := by decide +kernel
theorem dX5_takeDraft_5 : decode cX5_takeDraft 5 = .ok (.getfield 19, 3) := by decide +kernel
theorem dX5_takeDraft_8 : decode cX5_takeDraft 8 = .ok (.invokevirtual 194, 3) := by decide +kernel
theorem dX5_takeDraft_11 : decode cX5_takeDraft 11 = .ok (.aload_n 0, 1) := by decide +kernel
theorem dX5_takeDraft_12 : decode cX5_takeDraft 12 = .ok (.getfield 19, 3) := by decide +kernel
theorem dX5_takeDraft_15 : decode cX5_takeDraft 15 = .ok (.aload_n 0, 1) := by decide +kernel
theorem dX5_takeDraft_16 : decode cX5_takeDraft 16 = .ok (.getfield 23, 3) := by decide +kernel
theorem dX5_takeDraft_19 : decode cX5_takeDraft 19 = .ok (.invokevirtual 88, 3) := by decide +kernel
theorem dX5_takeDraft_22 : decode cX5_takeDraft 22 = .ok (.aload_n 0, 1) := by decide +kernel
theorem dX5_takeDraft_23 : decode cX5_takeDraft 23 = .ok (.getfield 19, 3) := by decide +kernel
theorem dX5_takeDraft_26 : decode cX5_takeDraft 26 = .ok (.invokevirtual 130, 3) := by decide +kernel
theorem dX5_takeDraft_29 : decode cX5_takeDraft 29 = .ok (.ireturn, 1) := by decide +kernel
theorem dX5_draftBy_0 : decode cX5_draftBy 0 = .ok (.iload_n 1, 1) := by decide +kernel
theorem dX5_draftBy_1 : decode cX5_draftBy 1 = .ok (.iconst 2, 1) := by decide +kernel
theorem dX5_draftBy_2 : decode cX5_draftBy 2 = .ok (.if_icmp .ge 29, 3) := by decide +kernel
theorem dX5_draftBy_5 : decode cX5_draftBy 5 = .ok (.aload_n 0, 1) := by decide +kernel
theorem dX5_draftBy_6 : decode cX5_draftBy 6 = .ok (.getfield 9, 3) := by decide +kernel
theorem dX5_draftBy_9 : decode cX5_draftBy 9 = .ok (.aload_n 0, 1) := by decide +kernel
theorem dX5_draftBy_10 : decode cX5_draftBy 10 = .ok (.getfield 13, 3) := by decide +kernel
theorem dX5_draftBy_13 : decode cX5_draftBy 13 = .ok (.iload_n 1, 1) := by decide +kernel
theorem dX5_draftBy_14 : decode cX5_draftBy 14 = .ok (.iconst 1, 1) := by decide +kernel
theorem dX5_draftBy_15 : decode cX5_draftBy 15 = .ok (.if_icmp .ne 7, 3) := by decide +kernel
theorem dX5_draftBy_18 : decode cX5_draftBy 18 = .ok (.iconst 1, 1) := by decide +kernel
theorem dX5_draftBy_19 : decode cX5_draftBy 19 = .ok (.goto 4, 3) := by decide +kernel
theorem dX5_draftBy_22 : decode cX5_draftBy 22 = .ok (.iconst 0, 1) := by decide +kernel
theorem dX5_draftBy_23 : decode cX5_draftBy 23 = .ok (.aload_n 0, 1) := by decide +kernel
theorem dX5_draftBy_24 : decode cX5_draftBy 24 = .ok (.getfield 23, 3) := by decide +kernel
theorem dX5_draftBy_27 : decode cX5_draftBy 27 = .ok (.invokestatic 126, 3) := by decide +kernel
theorem dX5_draftBy_30 : decode cX5_draftBy 30 = .ok (.ireturn, 1) := by decide +kernel
theorem dX5_draftBy_31 : decode cX5_draftBy 31 = .ok (.iload_n 1, 1) := by decide +kernel
theorem dX5_draftBy_32 : decode cX5_draftBy 32 = .ok (.iconst 2, 1) := by decide +kernel
theorem dX5_draftBy_33 : decode cX5_draftBy 33 = .ok (.if_icmp .ne 26, 3) := by decide +kernel
theorem dX5_draftBy_36 : decode cX5_draftBy 36 = .ok (.aload_n 0, 1) := by decide +kernel
theorem dX5_draftBy_37 : decode cX5_draftBy 37 = .ok (.getfield 51, 3) := by decide +kernel
theorem dX5_draftBy_40 : decode cX5_draftBy 40 = .ok (.aload_n 0, 1) := by decide +kernel
theorem dX5_draftBy_41 : decode cX5_draftBy 41 = .ok (.getfield 51, 3) := by decide +kernel
theorem dX5_draftBy_44 : decode cX5_draftBy 44 = .ok (.bipush 60, 2) := by decide +kernel
theorem dX5_draftBy_46 : decode cX5_draftBy 46 = .ok (.invokevirtual 144, 3) := by decide +kernel
theorem dX5_draftBy_49 : decode cX5_draftBy 49 = .ok (.bipush 60, 2) := by decide +kernel
theorem dX5_draftBy_51 : decode cX5_draftBy 51 = .ok (.aload_n 0, 1) := by decide +kernel
theorem dX5_draftBy_52 : decode cX5_draftBy 52 = .ok (.getfield 23, 3) := by decide +kernel
theorem dX5_draftBy_55 : decode cX5_draftBy 55 = .ok (.invokevirtual 197, 3) := by decide +kernel
theorem dX5_draftBy_58 : decode cX5_draftBy 58 = .ok (.ireturn, 1) := by decide +kernel
theorem dX5_draftBy_59 : decode cX5_draftBy 59 = .ok (.aload_n 0, 1) := by decide +kernel
theorem dX5_draftBy_60 : decode cX5_draftBy 60 = .ok (.getfield 51, 3) := by decide +kernel
theorem dX5_draftBy_63 : decode cX5_draftBy 63 = .ok (.invokevirtual 201, 3) := by decide +kernel
theorem dX5_draftBy_66 : decode cX5_draftBy 66 = .ok (.istore_n 2, 1) := by decide +kernel
theorem dX5_draftBy_67 : decode cX5_draftBy 67 = .ok (.aload_n 0, 1) := by decide +kernel
theorem dX5_draftBy_68 : decode cX5_draftBy 68 = .ok (.getfield 51, 3) := by decide +kernel
theorem dX5_draftBy_71 : decode cX5_draftBy 71 = .ok (.iload_n 2, 1) := by decide +kernel
theorem dX5_draftBy_72 : decode cX5_draftBy 72 = .ok (.aload_n 0, 1) := by decide +kernel
theorem dX5_draftBy_73 : decode cX5_draftBy 73 = .ok (.getfield 51, 3) := by decide +kernel
theorem dX5_draftBy_76 : decode cX5_draftBy 76 = .ok (.iload_n 2, 1) := by decide +kernel
theorem dX5_draftBy_77 : decode cX5_draftBy 77 = .ok (.invokevirtual 147, 3) := by decide +kernel
theorem dX5_draftBy_80 : decode cX5_draftBy 80 = .ok (.aload_n 0, 1) := by decide +kernel
theorem dX5_draftBy_81 : decode cX5_draftBy 81 = .ok (.getfield 23, 3) := by decide +kernel
theorem dX5_draftBy_84 : decode cX5_draftBy 84 = .ok (.invokevirtual 197, 3) := by decide +kernel
theorem dX5_draftBy_87 : decode cX5_draftBy 87 = .ok (.ireturn, 1) := by decide +kernel
theorem dX5_splitInto_0 : decode cX5_splitInto 0 = .ok (.iload_n 3, 1) := by decide +kernel
theorem dX5_splitInto_1 : decode cX5_splitInto 1 = .ok (.tableswitch 189 0 3 #[31, 59, 103, 147], 31) := by decide +kernel
theorem dX5_splitInto_32 : decode cX5_splitInto 32 = .ok (.aload_n 0, 1) := by decide +kernel
theorem dX5_splitInto_33 : decode cX5_splitInto 33 = .ok (.lload_n 1, 1) := by decide +kernel
theorem dX5_splitInto_34 : decode cX5_splitInto 34 = .ok (.lconst 1, 1) := by decide +kernel
theorem dX5_splitInto_35 : decode cX5_splitInto 35 = .ok (.ladd, 1) := by decide +kernel
theorem dX5_splitInto_36 : decode cX5_splitInto 36 = .ok (.invokevirtual 117, 3) := by decide +kernel
theorem dX5_splitInto_39 : decode cX5_splitInto 39 = .ok (.ifCond .eq 19, 3) := by decide +kernel
theorem dX5_splitInto_42 : decode cX5_splitInto 42 = .ok (.aload_n 0, 1) := by decide +kernel
theorem dX5_splitInto_43 : decode cX5_splitInto 43 = .ok (.lload_n 1, 1) := by decide +kernel
theorem dX5_splitInto_44 : decode cX5_splitInto 44 = .ok (.lload_n 1, 1) := by decide +kernel
theorem dX5_splitInto_45 : decode cX5_splitInto 45 = .ok (.lconst 1, 1) := by decide +kernel
theorem dX5_splitInto_46 : decode cX5_splitInto 46 = .ok (.ladd, 1) := by decide +kernel
theorem dX5_splitInto_47 : decode cX5_splitInto 47 = .ok (.lmul, 1) := by decide +kernel
theorem dX5_splitInto_48 : decode cX5_splitInto 48 = .ok (.invokevirtual 117, 3) := by decide +kernel
theorem dX5_splitInto_51 : decode cX5_splitInto 51 = .ok (.ifCond .eq 7, 3) := by decide +kernel
theorem dX5_splitInto_54 : decode cX5_splitInto 54 = .ok (.iconst 1, 1) := by decide +kernel
theorem dX5_splitInto_55 : decode cX5_splitInto 55 = .ok (.goto 4, 3) := by decide +kernel
theorem dX5_splitInto_58 : decode cX5_splitInto 58 = .ok (.iconst 0, 1) := by decide +kernel
theorem dX5_splitInto_59 : decode cX5_splitInto 59 = .ok (.ireturn, 1) := by decide +kernel
theorem dX5_splitInto_60 : decode cX5_splitInto 60 = .ok (.lload_n 1, 1) := by decide +kernel
theorem dX5_splitInto_61 : decode cX5_splitInto 61 = .ok (.ldc2_w 204, 3) := by decide +kernel
theorem dX5_splitInto_64 : decode cX5_splitInto 64 = .ok (.lrem, 1) := by decide +kernel
theorem dX5_splitInto_65 : decode cX5_splitInto 65 = .ok (.lconst 0, 1) := by decide +kernel
theorem dX5_splitInto_66 : decode cX5_splitInto 66 = .ok (.lcmp, 1) := by decide +kernel
theorem dX5_splitInto_67 : decode cX5_splitInto 67 = .ok (.ifCond .ne 35, 3) := by decide +kernel
theorem dX5_splitInto_70 : decode cX5_splitInto 70 = .ok (.aload_n 0, 1) := by decide +kernel
theorem dX5_splitInto_71 : decode cX5_splitInto 71 = .ok (.lload_n 1, 1) := by decide +kernel
theorem dX5_splitInto_72 : decode cX5_splitInto 72 = .ok (.ldc2_w 204, 3) := by decide +kernel
theorem dX5_splitInto_75 : decode cX5_splitInto 75 = .ok (.ldiv, 1) := by decide +kernel
theorem dX5_splitInto_76 : decode cX5_splitInto 76 = .ok (.ldc2_w 206, 3) := by decide +kernel
theorem dX5_splitInto_79 : decode cX5_splitInto 79 = .ok (.lmul, 1) := by decide +kernel
theorem dX5_splitInto_80 : decode cX5_splitInto 80 = .ok (.invokevirtual 117, 3) := by decide +kernel
theorem dX5_splitInto_83 : decode cX5_splitInto 83 = .ok (.ifCond .eq 19, 3) := by decide +kernel
theorem dX5_splitInto_86 : decode cX5_splitInto 86 = .ok (.aload_n 0, 1) := by decide +kernel
theorem dX5_splitInto_87 : decode cX5_splitInto 87 = .ok (.lload_n 1, 1) := by decide +kernel
theorem dX5_splitInto_88 : decode cX5_splitInto 88 = .ok (.ldc2_w 206, 3) := by decide +kernel
theorem dX5_splitInto_91 : decode cX5_splitInto 91 = .ok (.lmul, 1) := by decide +kernel
theorem dX5_splitInto_92 : decode cX5_splitInto 92 = .ok (.invokevirtual 117, 3) := by decide +kernel
theorem dX5_splitInto_95 : decode cX5_splitInto 95 = .ok (.ifCond .eq 7, 3) := by decide +kernel
theorem dX5_splitInto_98 : decode cX5_splitInto 98 = .ok (.iconst 1, 1) := by decide +kernel
theorem dX5_splitInto_99 : decode cX5_splitInto 99 = .ok (.goto 4, 3) := by decide +kernel
theorem dX5_splitInto_102 : decode cX5_splitInto 102 = .ok (.iconst 0, 1) := by decide +kernel
theorem dX5_splitInto_103 : decode cX5_splitInto 103 = .ok (.ireturn, 1) := by decide +kernel
theorem dX5_splitInto_104 : decode cX5_splitInto 104 = .ok (.lload_n 1, 1) := by decide +kernel
theorem dX5_splitInto_105 : decode cX5_splitInto 105 = .ok (.ldc2_w 206, 3) := by decide +kernel
theorem dX5_splitInto_108 : decode cX5_splitInto 108 = .ok (.lrem, 1) := by decide +kernel
theorem dX5_splitInto_109 : decode cX5_splitInto 109 = .ok (.lconst 0, 1) := by decide +kernel
theorem dX5_splitInto_110 : decode cX5_splitInto 110 = .ok (.lcmp, 1) := by decide +kernel
theorem dX5_splitInto_111 : decode cX5_splitInto 111 = .ok (.ifCond .ne 35, 3) := by decide +kernel
theorem dX5_splitInto_114 : decode cX5_splitInto 114 = .ok (.aload_n 0, 1) := by decide +kernel
theorem dX5_splitInto_115 : decode cX5_splitInto 115 = .ok (.lload_n 1, 1) := by decide +kernel
theorem dX5_splitInto_116 : decode cX5_splitInto 116 = .ok (.ldc2_w 206, 3) := by decide +kernel
theorem dX5_splitInto_119 : decode cX5_splitInto 119 = .ok (.ldiv, 1) := by decide +kernel
theorem dX5_splitInto_120 : decode cX5_splitInto 120 = .ok (.ldc2_w 208, 3) := by decide +kernel
theorem dX5_splitInto_123 : decode cX5_splitInto 123 = .ok (.lmul, 1) := by decide +kernel
theorem dX5_splitInto_124 : decode cX5_splitInto 124 = .ok (.invokevirtual 117, 3) := by decide +kernel
theorem dX5_splitInto_127 : decode cX5_splitInto 127 = .ok (.ifCond .eq 19, 3) := by decide +kernel
theorem dX5_splitInto_130 : decode cX5_splitInto 130 = .ok (.aload_n 0, 1) := by decide +kernel
theorem dX5_splitInto_131 : decode cX5_splitInto 131 = .ok (.lload_n 1, 1) := by decide +kernel
theorem dX5_splitInto_132 : decode cX5_splitInto 132 = .ok (.ldc2_w 208, 3) := by decide +kernel
theorem dX5_splitInto_135 : decode cX5_splitInto 135 = .ok (.lmul, 1) := by decide +kernel
theorem dX5_splitInto_136 : decode cX5_splitInto 136 = .ok (.invokevirtual 117, 3) := by decide +kernel
theorem dX5_splitInto_139 : decode cX5_splitInto 139 = .ok (.ifCond .eq 7, 3) := by decide +kernel
theorem dX5_splitInto_142 : decode cX5_splitInto 142 = .ok (.iconst 1, 1) := by decide +kernel
theorem dX5_splitInto_143 : decode cX5_splitInto 143 = .ok (.goto 4, 3) := by decide +kernel
theorem dX5_splitInto_146 : decode cX5_splitInto 146 = .ok (.iconst 0, 1) := by decide +kernel
theorem dX5_splitInto_147 : decode cX5_splitInto 147 = .ok (.ireturn, 1) := by decide +kernel
theorem dX5_splitInto_148 : decode cX5_splitInto 148 = .ok (.aload_n 0, 1) := by decide +kernel
theorem dX5_splitInto_149 : decode cX5_splitInto 149 = .ok (.lload_n 1, 1) := by decide +kernel
theorem dX5_splitInto_150 : decode cX5_splitInto 150 = .ok (.ldc2_w 204, 3) := by decide +kernel
theorem dX5_splitInto_153 : decode cX5_splitInto 153 = .ok (.lmul, 1) := by decide +kernel
theorem dX5_splitInto_154 : decode cX5_splitInto 154 = .ok (.invokevirtual 117, 3) := by decide +kernel
theorem dX5_splitInto_157 : decode cX5_splitInto 157 = .ok (.ifCond .eq 31, 3) := by decide +kernel
theorem dX5_splitInto_160 : decode cX5_splitInto 160 = .ok (.aload_n 0, 1) := by decide +kernel
theorem dX5_splitInto_161 : decode cX5_splitInto 161 = .ok (.lload_n 1, 1) := by decide +kernel
theorem dX5_splitInto_162 : decode cX5_splitInto 162 = .ok (.ldc2_w 206, 3) := by decide +kernel
theorem dX5_splitInto_165 : decode cX5_splitInto 165 = .ok (.lmul, 1) := by decide +kernel
theorem dX5_splitInto_166 : decode cX5_splitInto 166 = .ok (.invokevirtual 117, 3) := by decide +kernel
theorem dX5_splitInto_169 : decode cX5_splitInto 169 = .ok (.ifCond .eq 19, 3) := by decide +kernel
theorem dX5_splitInto_172 : decode cX5_splitInto 172 = .ok (.aload_n 0, 1) := by decide +kernel
theorem dX5_splitInto_173 : decode cX5_splitInto 173 = .ok (.lload_n 1, 1) := by decide +kernel
theorem dX5_splitInto_174 : decode cX5_splitInto 174 = .ok (.ldc2_w 210, 3) := by decide +kernel
theorem dX5_splitInto_177 : decode cX5_splitInto 177 = .ok (.lmul, 1) := by decide +kernel
theorem dX5_splitInto_178 : decode cX5_splitInto 178 = .ok (.invokevirtual 117, 3) := by decide +kernel
theorem dX5_splitInto_181 : decode cX5_splitInto 181 = .ok (.ifCond .eq 7, 3) := by decide +kernel
theorem dX5_splitInto_184 : decode cX5_splitInto 184 = .ok (.iconst 1, 1) := by decide +kernel
theorem dX5_splitInto_185 : decode cX5_splitInto 185 = .ok (.goto 4, 3) := by decide +kernel
theorem dX5_splitInto_188 : decode cX5_splitInto 188 = .ok (.iconst 0, 1) := by decide +kernel
theorem dX5_splitInto_189 : decode cX5_splitInto 189 = .ok (.ireturn, 1) := by decide +kernel
theorem dX5_splitInto_190 : decode cX5_splitInto 190 = .ok (.iconst 0, 1) := by decide +kernel
theorem dX5_splitInto_191 : decode cX5_splitInto 191 = .ok (.ireturn, 1) := by decide +kernel
theorem dX5_oneForTwo_0 : decode cX5_oneForTwo 0 = .ok (.lload_n 0, 1) := by decide +kernel
theorem dX5_oneForTwo_1 : decode cX5_oneForTwo 1 = .ok (.lload_n 2, 1) := by decide +kernel
theorem dX5_oneForTwo_2 : decode cX5_oneForTwo 2 = .ok (.ladd, 1) := by decide +kernel
theorem dX5_oneForTwo_3 : decode cX5_oneForTwo 3 = .ok (.lstore 4, 2) := by decide +kernel
theorem dX5_oneForTwo_5 : decode cX5_oneForTwo 5 = .ok (.lload 4, 2) := by decide +kernel
theorem dX5_oneForTwo_7 : decode cX5_oneForTwo 7 = .ok (.lconst 0, 1) := by decide +kernel
theorem dX5_oneForTwo_8 : decode cX5_oneForTwo 8 = .ok (.lcmp, 1) := by decide +kernel
theorem dX5_oneForTwo_9 : decode cX5_oneForTwo 9 = .ok (.ifCond .le 14, 3) := by decide +kernel
theorem dX5_oneForTwo_12 : decode cX5_oneForTwo 12 = .ok (.lload_n 0, 1) := by decide +kernel
theorem dX5_oneForTwo_13 : decode cX5_oneForTwo 13 = .ok (.lload_n 2, 1) := by decide +kernel
theorem dX5_oneForTwo_14 : decode cX5_oneForTwo 14 = .ok (.lmul, 1) := by decide +kernel
theorem dX5_oneForTwo_15 : decode cX5_oneForTwo 15 = .ok (.lload 4, 2) := by decide +kernel
theorem dX5_oneForTwo_17 : decode cX5_oneForTwo 17 = .ok (.lrem, 1) := by decide +kernel
theorem dX5_oneForTwo_18 : decode cX5_oneForTwo 18 = .ok (.lconst 0, 1) := by decide +kernel
theorem dX5_oneForTwo_19 : decode cX5_oneForTwo 19 = .ok (.lcmp, 1) := by decide +kernel
theorem dX5_oneForTwo_20 : decode cX5_oneForTwo 20 = .ok (.ifCond .eq 6, 3) := by decide +kernel
theorem dX5_oneForTwo_23 : decode cX5_oneForTwo 23 = .ok (.bipush (-9), 2) := by decide +kernel
theorem dX5_oneForTwo_25 : decode cX5_oneForTwo 25 = .ok (.ireturn, 1) := by decide +kernel
theorem dX5_oneForTwo_26 : decode cX5_oneForTwo 26 = .ok (.lload_n 0, 1) := by decide +kernel
theorem dX5_oneForTwo_27 : decode cX5_oneForTwo 27 = .ok (.lload_n 2, 1) := by decide +kernel
theorem dX5_oneForTwo_28 : decode cX5_oneForTwo 28 = .ok (.lmul, 1) := by decide +kernel
theorem dX5_oneForTwo_29 : decode cX5_oneForTwo 29 = .ok (.lload 4, 2) := by decide +kernel
theorem dX5_oneForTwo_31 : decode cX5_oneForTwo 31 = .ok (.ldiv, 1) := by decide +kernel
theorem dX5_oneForTwo_32 : decode cX5_oneForTwo 32 = .ok (.l2i, 1) := by decide +kernel
theorem dX5_oneForTwo_33 : decode cX5_oneForTwo 33 = .ok (.ireturn, 1) := by decide +kernel
theorem dX5_takeGreedily_0 : decode cX5_takeGreedily 0 = .ok (.aload_n 3, 1) := by decide +kernel
theorem dX5_takeGreedily_1 : decode cX5_takeGreedily 1 = .ok (.invokevirtual 212, 3) := by decide +kernel
theorem dX5_takeGreedily_4 : decode cX5_takeGreedily 4 = .ok (.iload_n 0, 1) := by decide +kernel
theorem dX5_takeGreedily_5 : decode cX5_takeGreedily 5 = .ok (.i2l, 1) := by decide +kernel
theorem dX5_takeGreedily_6 : decode cX5_takeGreedily 6 = .ok (.lstore 4, 2) := by decide +kernel
theorem dX5_takeGreedily_8 : decode cX5_takeGreedily 8 = .ok (.iload_n 1, 1) := by decide +kernel
theorem dX5_takeGreedily_9 : decode cX5_takeGreedily 9 = .ok (.i2l, 1) := by decide +kernel
theorem dX5_takeGreedily_10 : decode cX5_takeGreedily 10 = .ok (.lstore 6, 2) := by decide +kernel
theorem dX5_takeGreedily_12 : decode cX5_takeGreedily 12 = .ok (.lconst 0, 1) := by decide +kernel
theorem dX5_takeGreedily_13 : decode cX5_takeGreedily 13 = .ok (.lstore 8, 2) := by decide +kernel
theorem dX5_takeGreedily_15 : decode cX5_takeGreedily 15 = .ok (.iconst 0, 1) := by decide +kernel
theorem dX5_takeGreedily_16 : decode cX5_takeGreedily 16 = .ok (.istore 10, 2) := by decide +kernel
theorem dX5_takeGreedily_18 : decode cX5_takeGreedily 18 = .ok (.iload 10, 2) := by decide +kernel
theorem dX5_takeGreedily_20 : decode cX5_takeGreedily 20 = .ok (.bipush 8, 2) := by decide +kernel
theorem dX5_takeGreedily_22 : decode cX5_takeGreedily 22 = .ok (.if_icmp .ge 107, 3) := by decide +kernel
theorem dX5_takeGreedily_25 : decode cX5_takeGreedily 25 = .ok (.lload 4, 2) := by decide +kernel
theorem dX5_takeGreedily_27 : decode cX5_takeGreedily 27 = .ok (.lconst 0, 1) := by decide +kernel
theorem dX5_takeGreedily_28 : decode cX5_takeGreedily 28 = .ok (.lcmp, 1) := by decide +kernel
theorem dX5_takeGreedily_29 : decode cX5_takeGreedily 29 = .ok (.ifCond .le 100, 3) := by decide +kernel
theorem dX5_takeGreedily_32 : decode cX5_takeGreedily 32 = .ok (.lload 8, 2) := by decide +kernel
theorem dX5_takeGreedily_34 : decode cX5_takeGreedily 34 = .ok (.lconst 1, 1) := by decide +kernel
theorem dX5_takeGreedily_35 : decode cX5_takeGreedily 35 = .ok (.ladd, 1) := by decide +kernel
theorem dX5_takeGreedily_36 : decode cX5_takeGreedily 36 = .ok (.lload 6, 2) := by decide +kernel
theorem dX5_takeGreedily_38 : decode cX5_takeGreedily 38 = .ok (.lload 4, 2) := by decide +kernel
theorem dX5_takeGreedily_40 : decode cX5_takeGreedily 40 = .ok (.ladd, 1) := by decide +kernel
theorem dX5_takeGreedily_41 : decode cX5_takeGreedily 41 = .ok (.lconst 1, 1) := by decide +kernel
theorem dX5_takeGreedily_42 : decode cX5_takeGreedily 42 = .ok (.lsub, 1) := by decide +kernel
theorem dX5_takeGreedily_43 : decode cX5_takeGreedily 43 = .ok (.lload 4, 2) := by decide +kernel
theorem dX5_takeGreedily_45 : decode cX5_takeGreedily 45 = .ok (.ldiv, 1) := by decide +kernel
theorem dX5_takeGreedily_46 : decode cX5_takeGreedily 46 = .ok (.invokestatic 213, 3) := by decide +kernel
theorem dX5_takeGreedily_49 : decode cX5_takeGreedily 49 = .ok (.lstore 8, 2) := by decide +kernel
theorem dX5_takeGreedily_51 : decode cX5_takeGreedily 51 = .ok (.iload_n 2, 1) := by decide +kernel
theorem dX5_takeGreedily_52 : decode cX5_takeGreedily 52 = .ok (.ifCond .eq 20, 3) := by decide +kernel
theorem dX5_takeGreedily_55 : decode cX5_takeGreedily 55 = .ok (.lload 8, 2) := by decide +kernel
theorem dX5_takeGreedily_57 : decode cX5_takeGreedily 57 = .ok (.ldc2_w 204, 3) := by decide +kernel
theorem dX5_takeGreedily_60 : decode cX5_takeGreedily 60 = .ok (.lrem, 1) := by decide +kernel
theorem dX5_takeGreedily_61 : decode cX5_takeGreedily 61 = .ok (.lconst 0, 1) := by decide +kernel
theorem dX5_takeGreedily_62 : decode cX5_takeGreedily 62 = .ok (.lcmp, 1) := by decide +kernel
theorem dX5_takeGreedily_63 : decode cX5_takeGreedily 63 = .ok (.ifCond .ne 9, 3) := by decide +kernel
theorem dX5_takeGreedily_66 : decode cX5_takeGreedily 66 = .ok (.lload 8, 2) := by decide +kernel
theorem dX5_takeGreedily_68 : decode cX5_takeGreedily 68 = .ok (.lconst 1, 1) := by decide +kernel
theorem dX5_takeGreedily_69 : decode cX5_takeGreedily 69 = .ok (.ladd, 1) := by decide +kernel
theorem dX5_takeGreedily_70 : decode cX5_takeGreedily 70 = .ok (.lstore 8, 2) := by decide +kernel
theorem dX5_takeGreedily_72 : decode cX5_takeGreedily 72 = .ok (.aload_n 3, 1) := by decide +kernel
theorem dX5_takeGreedily_73 : decode cX5_takeGreedily 73 = .ok (.lload 8, 2) := by decide +kernel
theorem dX5_takeGreedily_75 : decode cX5_takeGreedily 75 = .ok (.invokevirtual 117, 3) := by decide +kernel
theorem dX5_takeGreedily_78 : decode cX5_takeGreedily 78 = .ok (.ifCond .ne 5, 3) := by decide +kernel
theorem dX5_takeGreedily_81 : decode cX5_takeGreedily 81 = .ok (.iconst 0, 1) := by decide +kernel
theorem dX5_takeGreedily_82 : decode cX5_takeGreedily 82 = .ok (.ireturn, 1) := by decide +kernel
theorem dX5_takeGreedily_83 : decode cX5_takeGreedily 83 = .ok (.lload 4, 2) := by decide +kernel
theorem dX5_takeGreedily_85 : decode cX5_takeGreedily 85 = .ok (.lload 8, 2) := by decide +kernel
theorem dX5_takeGreedily_87 : decode cX5_takeGreedily 87 = .ok (.lmul, 1) := by decide +kernel
theorem dX5_takeGreedily_88 : decode cX5_takeGreedily 88 = .ok (.lload 6, 2) := by decide +kernel
theorem dX5_takeGreedily_90 : decode cX5_takeGreedily 90 = .ok (.lsub, 1) := by decide +kernel
theorem dX5_takeGreedily_91 : decode cX5_takeGreedily 91 = .ok (.lstore 4, 2) := by decide +kernel
theorem dX5_takeGreedily_93 : decode cX5_takeGreedily 93 = .ok (.lload 6, 2) := by decide +kernel
theorem dX5_takeGreedily_95 : decode cX5_takeGreedily 95 = .ok (.lload 8, 2) := by decide +kernel
theorem dX5_takeGreedily_97 : decode cX5_takeGreedily 97 = .ok (.lmul, 1) := by decide +kernel
theorem dX5_takeGreedily_98 : decode cX5_takeGreedily 98 = .ok (.lstore 6, 2) := by decide +kernel
theorem dX5_takeGreedily_100 : decode cX5_takeGreedily 100 = .ok (.lload 4, 2) := by decide +kernel
theorem dX5_takeGreedily_102 : decode cX5_takeGreedily 102 = .ok (.lload 6, 2) := by decide +kernel
theorem dX5_takeGreedily_104 : decode cX5_takeGreedily 104 = .ok (.invokestatic 216, 3) := by decide +kernel
theorem dX5_takeGreedily_107 : decode cX5_takeGreedily 107 = .ok (.lstore 11, 2) := by decide +kernel
theorem dX5_takeGreedily_109 : decode cX5_takeGreedily 109 = .ok (.lload 4, 2) := by decide +kernel
theorem dX5_takeGreedily_111 : decode cX5_takeGreedily 111 = .ok (.lload 11, 2) := by decide +kernel
theorem dX5_takeGreedily_113 : decode cX5_takeGreedily 113 = .ok (.ldiv, 1) := by decide +kernel
theorem dX5_takeGreedily_114 : decode cX5_takeGreedily 114 = .ok (.lstore 4, 2) := by decide +kernel
theorem dX5_takeGreedily_116 : decode cX5_takeGreedily 116 = .ok (.lload 6, 2) := by decide +kernel
theorem dX5_takeGreedily_118 : decode cX5_takeGreedily 118 = .ok (.lload 11, 2) := by decide +kernel
theorem dX5_takeGreedily_120 : decode cX5_takeGreedily 120 = .ok (.ldiv, 1) := by decide +kernel
theorem dX5_takeGreedily_121 : decode cX5_takeGreedily 121 = .ok (.lstore 6, 2) := by decide +kernel
theorem dX5_takeGreedily_123 : decode cX5_takeGreedily 123 = .ok (.iinc 10 1, 3) := by decide +kernel
theorem dX5_takeGreedily_126 : decode cX5_takeGreedily 126 = .ok (.goto (-108), 3) := by decide +kernel
theorem dX5_takeGreedily_129 : decode cX5_takeGreedily 129 = .ok (.lload 4, 2) := by decide +kernel
theorem dX5_takeGreedily_131 : decode cX5_takeGreedily 131 = .ok (.lconst 0, 1) := by decide +kernel
theorem dX5_takeGreedily_132 : decode cX5_takeGreedily 132 = .ok (.lcmp, 1) := by decide +kernel
theorem dX5_takeGreedily_133 : decode cX5_takeGreedily 133 = .ok (.ifCond .ne 7, 3) := by decide +kernel
theorem dX5_takeGreedily_136 : decode cX5_takeGreedily 136 = .ok (.iconst 1, 1) := by decide +kernel
theorem dX5_takeGreedily_137 : decode cX5_takeGreedily 137 = .ok (.goto 4, 3) := by decide +kernel
theorem dX5_takeGreedily_140 : decode cX5_takeGreedily 140 = .ok (.iconst 0, 1) := by decide +kernel
theorem dX5_takeGreedily_141 : decode cX5_takeGreedily 141 = .ok (.ireturn, 1) := by decide +kernel
theorem dX5_commonDivisor_0 : decode cX5_commonDivisor 0 = .ok (.iconst 0, 1) := by decide +kernel
theorem dX5_commonDivisor_1 : decode cX5_commonDivisor 1 = .ok (.istore 4, 2) := by decide +kernel
theorem dX5_commonDivisor_3 : decode cX5_commonDivisor 3 = .ok (.iload 4, 2) := by decide +kernel
theorem dX5_commonDivisor_5 : decode cX5_commonDivisor 5 = .ok (.bipush 100, 2) := by decide +kernel
theorem dX5_commonDivisor_7 : decode cX5_commonDivisor 7 = .ok (.if_icmp .ge 25, 3) := by decide +kernel
theorem dX5_commonDivisor_10 : decode cX5_commonDivisor 10 = .ok (.lload_n 2, 1) := by decide +kernel
theorem dX5_commonDivisor_11 : decode cX5_commonDivisor 11 = .ok (.lconst 0, 1) := by decide +kernel
theorem dX5_commonDivisor_12 : decode cX5_commonDivisor 12 = .ok (.lcmp, 1) := by decide +kernel
theorem dX5_commonDivisor_13 : decode cX5_commonDivisor 13 = .ok (.ifCond .eq 19, 3) := by decide +kernel
theorem dX5_commonDivisor_16 : decode cX5_commonDivisor 16 = .ok (.lload_n 0, 1) := by decide +kernel
theorem dX5_commonDivisor_17 : decode cX5_commonDivisor 17 = .ok (.lload_n 2, 1) := by decide +kernel
theorem dX5_commonDivisor_18 : decode cX5_commonDivisor 18 = .ok (.lrem, 1) := by decide +kernel
theorem dX5_commonDivisor_19 : decode cX5_commonDivisor 19 = .ok (.lstore 5, 2) := by decide +kernel
theorem dX5_commonDivisor_21 : decode cX5_commonDivisor 21 = .ok (.lload_n 2, 1) := by decide +kernel
theorem dX5_commonDivisor_22 : decode cX5_commonDivisor 22 = .ok (.lstore_n 0, 1) := by decide +kernel
theorem dX5_commonDivisor_23 : decode cX5_commonDivisor 23 = .ok (.lload 5, 2) := by decide +kernel
theorem dX5_commonDivisor_25 : decode cX5_commonDivisor 25 = .ok (.lstore_n 2, 1) := by decide +kernel
theorem dX5_commonDivisor_26 : decode cX5_commonDivisor 26 = .ok (.iinc 4 1, 3) := by decide +kernel
theorem dX5_commonDivisor_29 : decode cX5_commonDivisor 29 = .ok (.goto (-26), 3) := by decide +kernel
theorem dX5_commonDivisor_32 : decode cX5_commonDivisor 32 = .ok (.lconst 1, 1) := by decide +kernel
theorem dX5_commonDivisor_33 : decode cX5_commonDivisor 33 = .ok (.lload_n 0, 1) := by decide +kernel
theorem dX5_commonDivisor_34 : decode cX5_commonDivisor 34 = .ok (.invokestatic 213, 3) := by decide +kernel
theorem dX5_commonDivisor_37 : decode cX5_commonDivisor 37 = .ok (.lreturn, 1) := by decide +kernel
theorem dX5_isSplit_0 : decode cX5_isSplit 0 = .ok (.iload_n 1, 1) := by decide +kernel
theorem dX5_isSplit_1 : decode cX5_isSplit 1 = .ok (.tableswitch 91 0 4 #[35, 41, 49, 73, 83], 35) := by decide +kernel
theorem dX5_isSplit_36 : decode cX5_isSplit 36 = .ok (.iload_n 0, 1) := by decide +kernel
theorem dX5_isSplit_37 : decode cX5_isSplit 37 = .ok (.iload_n 2, 1) := by decide +kernel
theorem dX5_isSplit_38 : decode cX5_isSplit 38 = .ok (.invokestatic 219, 3) := by decide +kernel
theorem dX5_isSplit_41 : decode cX5_isSplit 41 = .ok (.ireturn, 1) := by decide +kernel
theorem dX5_isSplit_42 : decode cX5_isSplit 42 = .ok (.iload_n 0, 1) := by decide +kernel
theorem dX5_isSplit_43 : decode cX5_isSplit 43 = .ok (.iload_n 2, 1) := by decide +kernel
theorem dX5_isSplit_44 : decode cX5_isSplit 44 = .ok (.iconst 1, 1) := by decide +kernel
theorem dX5_isSplit_45 : decode cX5_isSplit 45 = .ok (.iadd, 1) := by decide +kernel
theorem dX5_isSplit_46 : decode cX5_isSplit 46 = .ok (.invokestatic 219, 3) := by decide +kernel
theorem dX5_isSplit_49 : decode cX5_isSplit 49 = .ok (.ireturn, 1) := by decide +kernel
theorem dX5_isSplit_50 : decode cX5_isSplit 50 = .ok (.iload_n 0, 1) := by decide +kernel
theorem dX5_isSplit_51 : decode cX5_isSplit 51 = .ok (.iload_n 2, 1) := by decide +kernel
theorem dX5_isSplit_52 : decode cX5_isSplit 52 = .ok (.iconst 2, 1) := by decide +kernel
theorem dX5_isSplit_53 : decode cX5_isSplit 53 = .ok (.iadd, 1) := by decide +kernel
theorem dX5_isSplit_54 : decode cX5_isSplit 54 = .ok (.invokestatic 219, 3) := by decide +kernel
theorem dX5_isSplit_57 : decode cX5_isSplit 57 = .ok (.ifCond .eq 15, 3) := by decide +kernel
theorem dX5_isSplit_60 : decode cX5_isSplit 60 = .ok (.iconst 2, 1) := by decide +kernel
theorem dX5_isSplit_61 : decode cX5_isSplit 61 = .ok (.iload_n 2, 1) := by decide +kernel
theorem dX5_isSplit_62 : decode cX5_isSplit 62 = .ok (.invokestatic 219, 3) := by decide +kernel
theorem dX5_isSplit_65 : decode cX5_isSplit 65 = .ok (.ifCond .eq 7, 3) := by decide +kernel
theorem dX5_isSplit_68 : decode cX5_isSplit 68 = .ok (.iconst 1, 1) := by decide +kernel
theorem dX5_isSplit_69 : decode cX5_isSplit 69 = .ok (.goto 4, 3) := by decide +kernel
theorem dX5_isSplit_72 : decode cX5_isSplit 72 = .ok (.iconst 0, 1) := by decide +kernel
theorem dX5_isSplit_73 : decode cX5_isSplit 73 = .ok (.ireturn, 1) := by decide +kernel
theorem dX5_isSplit_74 : decode cX5_isSplit 74 = .ok (.iload_n 0, 1) := by decide +kernel
theorem dX5_isSplit_75 : decode cX5_isSplit 75 = .ok (.iconst 1, 1) := by decide +kernel
theorem dX5_isSplit_76 : decode cX5_isSplit 76 = .ok (.isub, 1) := by decide +kernel
theorem dX5_isSplit_77 : decode cX5_isSplit 77 = .ok (.iload_n 2, 1) := by decide +kernel
theorem dX5_isSplit_78 : decode cX5_isSplit 78 = .ok (.iconst 1, 1) := by decide +kernel
theorem dX5_isSplit_79 : decode cX5_isSplit 79 = .ok (.iadd, 1) := by decide +kernel
theorem dX5_isSplit_80 : decode cX5_isSplit 80 = .ok (.invokestatic 219, 3) := by decide +kernel
theorem dX5_isSplit_83 : decode cX5_isSplit 83 = .ok (.ireturn, 1) := by decide +kernel
theorem dX5_isSplit_84 : decode cX5_isSplit 84 = .ok (.iload_n 0, 1) := by decide +kernel
theorem dX5_isSplit_85 : decode cX5_isSplit 85 = .ok (.iconst 1, 1) := by decide +kernel
theorem dX5_isSplit_86 : decode cX5_isSplit 86 = .ok (.isub, 1) := by decide +kernel
theorem dX5_isSplit_87 : decode cX5_isSplit 87 = .ok (.iload_n 2, 1) := by decide +kernel
theorem dX5_isSplit_88 : decode cX5_isSplit 88 = .ok (.invokestatic 219, 3) := by decide +kernel
theorem dX5_isSplit_91 : decode cX5_isSplit 91 = .ok (.ireturn, 1) := by decide +kernel
theorem dX5_isSplit_92 : decode cX5_isSplit 92 = .ok (.iconst 0, 1) := by decide +kernel
theorem dX5_isSplit_93 : decode cX5_isSplit 93 = .ok (.ireturn, 1) := by decide +kernel
theorem dX5_divides_0 : decode cX5_divides 0 = .ok (.iload_n 0, 1) := by decide +kernel
theorem dX5_divides_1 : decode cX5_divides 1 = .ok (.ifCond .le 13, 3) := by decide +kernel
theorem dX5_divides_4 : decode cX5_divides 4 = .ok (.iload_n 1, 1) := by decide +kernel
theorem dX5_divides_5 : decode cX5_divides 5 = .ok (.iload_n 0, 1) := by decide +kernel
theorem dX5_divides_6 : decode cX5_divides 6 = .ok (.irem, 1) := by decide +kernel
theorem dX5_divides_7 : decode cX5_divides 7 = .ok (.ifCond .ne 7, 3) := by decide +kernel
theorem dX5_divides_10 : decode cX5_divides 10 = .ok (.iconst 1, 1) := by decide +kernel
theorem dX5_divides_11 : decode cX5_divides 11 = .ok (.goto 4, 3) := by decide +kernel
theorem dX5_divides_14 : decode cX5_divides 14 = .ok (.iconst 0, 1) := by decide +kernel
theorem dX5_divides_15 : decode cX5_divides 15 = .ok (.ireturn, 1) := by decide +kernel
theorem dX5_splitters_0 : decode cX5_splitters 0 = .ok (.iconst 0, 1) := by decide +kernel
theorem dX5_splitters_1 : decode cX5_splitters 1 = .ok (.istore_n 2, 1) := by decide +kernel
theorem dX5_splitters_2 : decode cX5_splitters 2 = .ok (.iconst 0, 1) := by decide +kernel
theorem dX5_splitters_3 : decode cX5_splitters 3 = .ok (.istore_n 3, 1) := by decide +kernel
theorem dX5_splitters_4 : decode cX5_splitters 4 = .ok (.iload_n 3, 1) := by decide +kernel
theorem dX5_splitters_5 : decode cX5_splitters 5 = .ok (.iconst 5, 1) := by decide +kernel
theorem dX5_splitters_6 : decode cX5_splitters 6 = .ok (.if_icmp .ge 24, 3) := by decide +kernel
theorem dX5_splitters_9 : decode cX5_splitters 9 = .ok (.iload_n 0, 1) := by decide +kernel
theorem dX5_splitters_10 : decode cX5_splitters 10 = .ok (.iload_n 3, 1) := by decide +kernel
theorem dX5_splitters_11 : decode cX5_splitters 11 = .ok (.iload_n 1, 1) := by decide +kernel
theorem dX5_splitters_12 : decode cX5_splitters 12 = .ok (.invokestatic 153, 3) := by decide +kernel
theorem dX5_splitters_15 : decode cX5_splitters 15 = .ok (.ifCond .eq 9, 3) := by decide +kernel
theorem dX5_splitters_18 : decode cX5_splitters 18 = .ok (.iload_n 2, 1) := by decide +kernel
theorem dX5_splitters_19 : decode cX5_splitters 19 = .ok (.iconst 1, 1) := by decide +kernel
theorem dX5_splitters_20 : decode cX5_splitters 20 = .ok (.iload_n 3, 1) := by decide +kernel
theorem dX5_splitters_21 : decode cX5_splitters 21 = .ok (.ishl, 1) := by decide +kernel
theorem dX5_splitters_22 : decode cX5_splitters 22 = .ok (.ior, 1) := by decide +kernel
theorem dX5_splitters_23 : decode cX5_splitters 23 = .ok (.istore_n 2, 1) := by decide +kernel
theorem dX5_splitters_24 : decode cX5_splitters 24 = .ok (.iinc 3 1, 3) := by decide +kernel
theorem dX5_splitters_27 : decode cX5_splitters 27 = .ok (.goto (-23), 3) := by decide +kernel
theorem dX5_splitters_30 : decode cX5_splitters 30 = .ok (.iload_n 2, 1) := by decide +kernel
theorem dX5_splitters_31 : decode cX5_splitters 31 = .ok (.ireturn, 1) := by decide +kernel
theorem dX5_isCovered_0 : decode cX5_isCovered 0 = .ok (.iconst 2, 1) := by decide +kernel
theorem dX5_isCovered_1 : decode cX5_isCovered 1 = .ok (.iload_n 0, 1) := by decide +kernel
theorem dX5_isCovered_2 : decode cX5_isCovered 2 = .ok (.imul, 1) := by decide +kernel
theorem dX5_isCovered_3 : decode cX5_isCovered 3 = .ok (.istore 4, 2) := by decide +kernel
theorem dX5_isCovered_5 : decode cX5_isCovered 5 = .ok (.iload_n 3, 1) := by decide +kernel
theorem dX5_isCovered_6 : decode cX5_isCovered 6 = .ok (.istore 5, 2) := by decide +kernel
theorem dX5_isCovered_8 : decode cX5_isCovered 8 = .ok (.iconst 1, 1) := by decide +kernel
theorem dX5_isCovered_9 : decode cX5_isCovered 9 = .ok (.istore 6, 2) := by decide +kernel
theorem dX5_isCovered_11 : decode cX5_isCovered 11 = .ok (.iload 6, 2) := by decide +kernel
theorem dX5_isCovered_13 : decode cX5_isCovered 13 = .ok (.iload 4, 2) := by decide +kernel
theorem dX5_isCovered_15 : decode cX5_isCovered 15 = .ok (.if_icmp .gt 29, 3) := by decide +kernel
theorem dX5_isCovered_18 : decode cX5_isCovered 18 = .ok (.iload 5, 2) := by decide +kernel
theorem dX5_isCovered_20 : decode cX5_isCovered 20 = .ok (.ifCond .eq 24, 3) := by decide +kernel
theorem dX5_isCovered_23 : decode cX5_isCovered 23 = .ok (.iload 5, 2) := by decide +kernel
theorem dX5_isCovered_25 : decode cX5_isCovered 25 = .ok (.iload_n 0, 1) := by decide +kernel
theorem dX5_isCovered_26 : decode cX5_isCovered 26 = .ok (.iload_n 2, 1) := by decide +kernel
theorem dX5_isCovered_27 : decode cX5_isCovered 27 = .ok (.iload_n 1, 1) := by decide +kernel
theorem dX5_isCovered_28 : decode cX5_isCovered 28 = .ok (.iload 6, 2) := by decide +kernel
theorem dX5_isCovered_30 : decode cX5_isCovered 30 = .ok (.imul, 1) := by decide +kernel
theorem dX5_isCovered_31 : decode cX5_isCovered 31 = .ok (.iadd, 1) := by decide +kernel
theorem dX5_isCovered_32 : decode cX5_isCovered 32 = .ok (.invokestatic 164, 3) := by decide +kernel
theorem dX5_isCovered_35 : decode cX5_isCovered 35 = .ok (.iand, 1) := by decide +kernel
theorem dX5_isCovered_36 : decode cX5_isCovered 36 = .ok (.istore 5, 2) := by decide +kernel
theorem dX5_isCovered_38 : decode cX5_isCovered 38 = .ok (.iinc 6 1, 3) := by decide +kernel
theorem dX5_isCovered_41 : decode cX5_isCovered 41 = .ok (.goto (-30), 3) := by decide +kernel
theorem dX5_isCovered_44 : decode cX5_isCovered 44 = .ok (.iload 5, 2) := by decide +kernel
theorem dX5_isCovered_46 : decode cX5_isCovered 46 = .ok (.ifCond .eq 7, 3) := by decide +kernel
theorem dX5_isCovered_49 : decode cX5_isCovered 49 = .ok (.iconst 1, 1) := by decide +kernel
theorem dX5_isCovered_50 : decode cX5_isCovered 50 = .ok (.goto 4, 3) := by decide +kernel
theorem dX5_isCovered_53 : decode cX5_isCovered 53 = .ok (.iconst 0, 1) := by decide +kernel
theorem dX5_isCovered_54 : decode cX5_isCovered 54 = .ok (.ireturn, 1) := by decide +kernel
theorem dX5_bestQuestion_0 : decode cX5_bestQuestion 0 = .ok (.iload_n 1, 1) := by decide +kernel
theorem dX5_bestQuestion_1 : decode cX5_bestQuestion 1 = .ok (.invokestatic 223, 3) := by decide +kernel
theorem dX5_bestQuestion_4 : decode cX5_bestQuestion 4 = .ok (.istore_n 2, 1) := by decide +kernel
theorem dX5_bestQuestion_5 : decode cX5_bestQuestion 5 = .ok (.iload_n 2, 1) := by decide +kernel
theorem dX5_bestQuestion_6 : decode cX5_bestQuestion 6 = .ok (.iconst 1, 1) := by decide +kernel
theorem dX5_bestQuestion_7 : decode cX5_bestQuestion 7 = .ok (.if_icmp .gt 6, 3) := by decide +kernel
theorem dX5_bestQuestion_10 : decode cX5_bestQuestion 10 = .ok (.bipush (-9), 2) := by decide +kernel
theorem dX5_bestQuestion_12 : decode cX5_bestQuestion 12 = .ok (.ireturn, 1) := by decide +kernel
theorem dX5_bestQuestion_13 : decode cX5_bestQuestion 13 = .ok (.bipush (-9), 2) := by decide +kernel
theorem dX5_bestQuestion_15 : decode cX5_bestQuestion 15 = .ok (.istore_n 3, 1) := by decide +kernel
theorem dX5_bestQuestion_16 : decode cX5_bestQuestion 16 = .ok (.iload_n 2, 1) := by decide +kernel
theorem dX5_bestQuestion_17 : decode cX5_bestQuestion 17 = .ok (.iconst 1, 1) := by decide +kernel
theorem dX5_bestQuestion_18 : decode cX5_bestQuestion 18 = .ok (.iadd, 1) := by decide +kernel
theorem dX5_bestQuestion_19 : decode cX5_bestQuestion 19 = .ok (.istore 4, 2) := by decide +kernel
theorem dX5_bestQuestion_21 : decode cX5_bestQuestion 21 = .ok (.iconst 1, 1) := by decide +kernel
theorem dX5_bestQuestion_22 : decode cX5_bestQuestion 22 = .ok (.istore 5, 2) := by decide +kernel
theorem dX5_bestQuestion_24 : decode cX5_bestQuestion 24 = .ok (.iload 5, 2) := by decide +kernel
theorem dX5_bestQuestion_26 : decode cX5_bestQuestion 26 = .ok (.bipush 99, 2) := by decide +kernel
theorem dX5_bestQuestion_28 : decode cX5_bestQuestion 28 = .ok (.if_icmp .gt 47, 3) := by decide +kernel
theorem dX5_bestQuestion_31 : decode cX5_bestQuestion 31 = .ok (.iload_n 1, 1) := by decide +kernel
theorem dX5_bestQuestion_32 : decode cX5_bestQuestion 32 = .ok (.iload_n 0, 1) := by decide +kernel
theorem dX5_bestQuestion_33 : decode cX5_bestQuestion 33 = .ok (.iload 5, 2) := by decide +kernel
theorem dX5_bestQuestion_35 : decode cX5_bestQuestion 35 = .ok (.invokestatic 164, 3) := by decide +kernel
theorem dX5_bestQuestion_38 : decode cX5_bestQuestion 38 = .ok (.iand, 1) := by decide +kernel
theorem dX5_bestQuestion_39 : decode cX5_bestQuestion 39 = .ok (.invokestatic 223, 3) := by decide +kernel
theorem dX5_bestQuestion_42 : decode cX5_bestQuestion 42 = .ok (.istore 6, 2) := by decide +kernel
theorem dX5_bestQuestion_44 : decode cX5_bestQuestion 44 = .ok (.iload 6, 2) := by decide +kernel
theorem dX5_bestQuestion_46 : decode cX5_bestQuestion 46 = .ok (.iload_n 2, 1) := by decide +kernel
theorem dX5_bestQuestion_47 : decode cX5_bestQuestion 47 = .ok (.iload 6, 2) := by decide +kernel
theorem dX5_bestQuestion_49 : decode cX5_bestQuestion 49 = .ok (.isub, 1) := by decide +kernel
theorem dX5_bestQuestion_50 : decode cX5_bestQuestion 50 = .ok (.invokestatic 108, 3) := by decide +kernel
theorem dX5_bestQuestion_53 : decode cX5_bestQuestion 53 = .ok (.istore 7, 2) := by decide +kernel
theorem dX5_bestQuestion_55 : decode cX5_bestQuestion 55 = .ok (.iload 7, 2) := by decide +kernel
theorem dX5_bestQuestion_57 : decode cX5_bestQuestion 57 = .ok (.iload 4, 2) := by decide +kernel
theorem dX5_bestQuestion_59 : decode cX5_bestQuestion 59 = .ok (.if_icmp .ge 10, 3) := by decide +kernel
theorem dX5_bestQuestion_62 : decode cX5_bestQuestion 62 = .ok (.iload 7, 2) := by decide +kernel
theorem dX5_bestQuestion_64 : decode cX5_bestQuestion 64 = .ok (.istore 4, 2) := by decide +kernel
theorem dX5_bestQuestion_66 : decode cX5_bestQuestion 66 = .ok (.iload 5, 2) := by decide +kernel
theorem dX5_bestQuestion_68 : decode cX5_bestQuestion 68 = .ok (.istore_n 3, 1) := by decide +kernel
theorem dX5_bestQuestion_69 : decode cX5_bestQuestion 69 = .ok (.iinc 5 1, 3) := by decide +kernel
theorem dX5_bestQuestion_72 : decode cX5_bestQuestion 72 = .ok (.goto (-48), 3) := by decide +kernel
theorem dX5_bestQuestion_75 : decode cX5_bestQuestion 75 = .ok (.iload_n 3, 1) := by decide +kernel
theorem dX5_bestQuestion_76 : decode cX5_bestQuestion 76 = .ok (.ireturn, 1) := by decide +kernel
theorem dX6_init_0 : decode cX6_init 0 = .ok (.aload_n 0, 1) := by decide +kernel
theorem dX6_init_1 : decode cX6_init 1 = .ok (.invokespecial 1, 3) := by decide +kernel
theorem dX6_init_4 : decode cX6_init 4 = .ok (.aload_n 0, 1) := by decide +kernel
theorem dX6_init_5 : decode cX6_init 5 = .ok (.bipush 117, 2) := by decide +kernel
theorem dX6_init_7 : decode cX6_init 7 = .ok (.newarray .int, 2) := by decide +kernel
theorem dX6_init_9 : decode cX6_init 9 = .ok (.putfield 7, 3) := by decide +kernel
theorem dX6_init_12 : decode cX6_init 12 = .ok (.aload_n 0, 1) := by decide +kernel
theorem dX6_init_13 : decode cX6_init 13 = .ok (.iconst 2, 1) := by decide +kernel
theorem dX6_init_14 : decode cX6_init 14 = .ok (.newarray .boolean, 2) := by decide +kernel
theorem dX6_init_16 : decode cX6_init 16 = .ok (.putfield 13, 3) := by decide +kernel
theorem dX6_init_19 : decode cX6_init 19 = .ok (.aload_n 0, 1) := by decide +kernel
theorem dX6_init_20 : decode cX6_init 20 = .ok (.iconst 2, 1) := by decide +kernel
theorem dX6_init_21 : decode cX6_init 21 = .ok (.putfield 17, 3) := by decide +kernel
theorem dX6_init_24 : decode cX6_init 24 = .ok (.aload_n 0, 1) := by decide +kernel
theorem dX6_init_25 : decode cX6_init 25 = .ok (.iconst 3, 1) := by decide +kernel
theorem dX6_init_26 : decode cX6_init 26 = .ok (.putfield 21, 3) := by decide +kernel
theorem dX6_init_29 : decode cX6_init 29 = .ok (.aload_n 0, 1) := by decide +kernel
theorem dX6_init_30 : decode cX6_init 30 = .ok (.bipush 6, 2) := by decide +kernel
theorem dX6_init_32 : decode cX6_init 32 = .ok (.newarray .int, 2) := by decide +kernel
theorem dX6_init_34 : decode cX6_init 34 = .ok (.putfield 24, 3) := by decide +kernel
theorem dX6_init_37 : decode cX6_init 37 = .ok (.aload_n 0, 1) := by decide +kernel
theorem dX6_init_38 : decode cX6_init 38 = .ok (.bipush 6, 2) := by decide +kernel
theorem dX6_init_40 : decode cX6_init 40 = .ok (.newarray .int, 2) := by decide +kernel
theorem dX6_init_42 : decode cX6_init 42 = .ok (.putfield 27, 3) := by decide +kernel
theorem dX6_init_45 : decode cX6_init 45 = .ok (.aload_n 0, 1) := by decide +kernel
theorem dX6_init_46 : decode cX6_init 46 = .ok (.bipush 6, 2) := by decide +kernel
theorem dX6_init_48 : decode cX6_init 48 = .ok (.newarray .int, 2) := by decide +kernel
theorem dX6_init_50 : decode cX6_init 50 = .ok (.putfield 30, 3) := by decide +kernel
theorem dX6_init_53 : decode cX6_init 53 = .ok (.aload_n 0, 1) := by decide +kernel
theorem dX6_init_54 : decode cX6_init 54 = .ok (.bipush 60, 2) := by decide +kernel
theorem dX6_init_56 : decode cX6_init 56 = .ok (.newarray .int, 2) := by decide +kernel
theorem dX6_init_58 : decode cX6_init 58 = .ok (.putfield 33, 3) := by decide +kernel
theorem dX6_init_61 : decode cX6_init 61 = .ok (.aload_n 0, 1) := by decide +kernel
theorem dX6_init_62 : decode cX6_init 62 = .ok (.bipush 8, 2) := by decide +kernel
theorem dX6_init_64 : decode cX6_init 64 = .ok (.newarray .int, 2) := by decide +kernel
theorem dX6_init_66 : decode cX6_init 66 = .ok (.putfield 36, 3) := by decide +kernel
theorem dX6_init_69 : decode cX6_init 69 = .ok (.aload_n 0, 1) := by decide +kernel
theorem dX6_init_70 : decode cX6_init 70 = .ok (.bipush 8, 2) := by decide +kernel
theorem dX6_init_72 : decode cX6_init 72 = .ok (.newarray .int, 2) := by decide +kernel
theorem dX6_init_74 : decode cX6_init 74 = .ok (.putfield 39, 3) := by decide +kernel
theorem dX6_init_77 : decode cX6_init 77 = .ok (.aload_n 0, 1) := by decide +kernel
theorem dX6_init_78 : decode cX6_init 78 = .ok (.iconst 5, 1) := by decide +kernel
theorem dX6_init_79 : decode cX6_init 79 = .ok (.newarray .long, 2) := by decide +kernel
theorem dX6_init_81 : decode cX6_init 81 = .ok (.putfield 42, 3) := by decide +kernel
theorem dX6_init_84 : decode cX6_init 84 = .ok (.aload_n 0, 1) := by decide +kernel
theorem dX6_init_85 : decode cX6_init 85 = .ok (.iconst 5, 1) := by decide +kernel
theorem dX6_init_86 : decode cX6_init 86 = .ok (.newarray .long, 2) := by decide +kernel
theorem dX6_init_88 : decode cX6_init 88 = .ok (.putfield 46, 3) := by decide +kernel
theorem dX6_init_91 : decode cX6_init 91 = .ok (.aload_n 0, 1) := by decide +kernel
theorem dX6_init_92 : decode cX6_init 92 = .ok (.iconst 5, 1) := by decide +kernel
theorem dX6_init_93 : decode cX6_init 93 = .ok (.newarray .int, 2) := by decide +kernel
theorem dX6_init_95 : decode cX6_init 95 = .ok (.putfield 49, 3) := by decide +kernel
theorem dX6_init_98 : decode cX6_init 98 = .ok (.aload_n 0, 1) := by decide +kernel
theorem dX6_init_99 : decode cX6_init 99 = .ok (.iconst 5, 1) := by decide +kernel
theorem dX6_init_100 : decode cX6_init 100 = .ok (.newarray .int, 2) := by decide +kernel
theorem dX6_init_102 : decode cX6_init 102 = .ok (.putfield 52, 3) := by decide +kernel
theorem dX6_init_105 : decode cX6_init 105 = .ok (.return_, 1) := by decide +kernel
theorem dX6_in_0 : decode cX6_in 0 = .ok (.lload_n 0, 1) := by decide +kernel
theorem dX6_in_1 : decode cX6_in 1 = .ok (.lload_n 2, 1) := by decide +kernel
theorem dX6_in_2 : decode cX6_in 2 = .ok (.lcmp, 1) := by decide +kernel
theorem dX6_in_3 : decode cX6_in 3 = .ok (.ifCond .lt 14, 3) := by decide +kernel
theorem dX6_in_6 : decode cX6_in 6 = .ok (.lload_n 0, 1) := by decide +kernel
theorem dX6_in_7 : decode cX6_in 7 = .ok (.lload 4, 2) := by decide +kernel
theorem dX6_in_9 : decode cX6_in 9 = .ok (.lcmp, 1) := by decide +kernel
theorem dX6_in_10 : decode cX6_in 10 = .ok (.ifCond .gt 7, 3) := by decide +kernel
theorem dX6_in_13 : decode cX6_in 13 = .ok (.iconst 1, 1) := by decide +kernel
theorem dX6_in_14 : decode cX6_in 14 = .ok (.goto 4, 3) := by decide +kernel
theorem dX6_in_17 : decode cX6_in 17 = .ok (.iconst 0, 1) := by decide +kernel
theorem dX6_in_18 : decode cX6_in 18 = .ok (.ireturn, 1) := by decide +kernel
theorem dX6_copy_0 : decode cX6_copy 0 = .ok (.iconst 0, 1) := by decide +kernel
theorem dX6_copy_1 : decode cX6_copy 1 = .ok (.istore_n 3, 1) := by decide +kernel
theorem dX6_copy_2 : decode cX6_copy 2 = .ok (.iload_n 3, 1) := by decide +kernel
theorem dX6_copy_3 : decode cX6_copy 3 = .ok (.bipush 9, 2) := by decide +kernel
theorem dX6_copy_5 : decode cX6_copy 5 = .ok (.if_icmp .ge 25, 3) := by decide +kernel
theorem dX6_copy_8 : decode cX6_copy 8 = .ok (.aload_n 0, 1) := by decide +kernel
theorem dX6_copy_9 : decode cX6_copy 9 = .ok (.getfield 7, 3) := by decide +kernel
theorem dX6_copy_12 : decode cX6_copy 12 = .ok (.iload_n 2, 1) := by decide +kernel
theorem dX6_copy_13 : decode cX6_copy 13 = .ok (.iload_n 3, 1) := by decide +kernel
theorem dX6_copy_14 : decode cX6_copy 14 = .ok (.iadd, 1) := by decide +kernel
theorem dX6_copy_15 : decode cX6_copy 15 = .ok (.aload_n 0, 1) := by decide +kernel
theorem dX6_copy_16 : decode cX6_copy 16 = .ok (.getfield 7, 3) := by decide +kernel
theorem dX6_copy_19 : decode cX6_copy 19 = .ok (.iload_n 1, 1) := by decide +kernel
theorem dX6_copy_20 : decode cX6_copy 20 = .ok (.iload_n 3, 1) := by decide +kernel
theorem dX6_copy_21 : decode cX6_copy 21 = .ok (.iadd, 1) := by decide +kernel
theorem dX6_copy_22 : decode cX6_copy 22 = .ok (.iaload, 1) := by decide +kernel
theorem dX6_copy_23 : decode cX6_copy 23 = .ok (.iastore, 1) := by decide +kernel
theorem dX6_copy_24 : decode cX6_copy 24 = .ok (.iinc 3 1, 3) := by decide +kernel
theorem dX6_copy_27 : decode cX6_copy 27 = .ok (.goto (-25), 3) := by decide +kernel
theorem dX6_copy_30 : decode cX6_copy 30 = .ok (.return_, 1) := by decide +kernel
theorem dX6_minds_0 : decode cX6_minds 0 = .ok (.aload_n 0, 1) := by decide +kernel
theorem dX6_minds_1 : decode cX6_minds 1 = .ok (.getfield 55, 3) := by decide +kernel
theorem dX6_minds_4 : decode cX6_minds 4 = .ok (.bipush 10, 2) := by decide +kernel
theorem dX6_minds_6 : decode cX6_minds 6 = .ok (.if_icmp .ne 45, 3) := by decide +kernel
theorem dX6_minds_9 : decode cX6_minds 9 = .ok (.iconst 0, 1) := by decide +kernel
theorem dX6_minds_10 : decode cX6_minds 10 = .ok (.istore_n 1, 1) := by decide +kernel
theorem dX6_minds_11 : decode cX6_minds 11 = .ok (.iload_n 1, 1) := by decide +kernel
theorem dX6_minds_12 : decode cX6_minds 12 = .ok (.bipush 81, 2) := by decide +kernel
theorem dX6_minds_14 : decode cX6_minds 14 = .ok (.if_icmp .ge 27, 3) := by decide +kernel
theorem dX6_minds_17 : decode cX6_minds 17 = .ok (.aload_n 0, 1) := by decide +kernel
theorem dX6_minds_18 : decode cX6_minds 18 = .ok (.getfield 7, 3) := by decide +kernel
theorem dX6_minds_21 : decode cX6_minds 21 = .ok (.bipush 27, 2) := by decide +kernel
theorem dX6_minds_23 : decode cX6_minds 23 = .ok (.iload_n 1, 1) := by decide +kernel
theorem dX6_minds_24 : decode cX6_minds 24 = .ok (.iadd, 1) := by decide +kernel
theorem dX6_minds_25 : decode cX6_minds 25 = .ok (.aload_n 0, 1) := by decide +kernel
theorem dX6_minds_26 : decode cX6_minds 26 = .ok (.getfield 7, 3) := by decide +kernel
theorem dX6_minds_29 : decode cX6_minds 29 = .ok (.bipush 36, 2) := by decide +kernel
theorem dX6_minds_31 : decode cX6_minds 31 = .ok (.iload_n 1, 1) := by decide +kernel
theorem dX6_minds_32 : decode cX6_minds 32 = .ok (.iadd, 1) := by decide +kernel
theorem dX6_minds_33 : decode cX6_minds 33 = .ok (.iaload, 1) := by decide +kernel
theorem dX6_minds_34 : decode cX6_minds 34 = .ok (.iastore, 1) := by decide +kernel
theorem dX6_minds_35 : decode cX6_minds 35 = .ok (.iinc 1 1, 3) := by decide +kernel
theorem dX6_minds_38 : decode cX6_minds 38 = .ok (.goto (-27), 3) := by decide +kernel
theorem dX6_minds_41 : decode cX6_minds 41 = .ok (.aload_n 0, 1) := by decide +kernel
theorem dX6_minds_42 : decode cX6_minds 42 = .ok (.dup, 1) := by decide +kernel
theorem dX6_minds_43 : decode cX6_minds 43 = .ok (.getfield 55, 3) := by decide +kernel
theorem dX6_minds_46 : decode cX6_minds 46 = .ok (.iconst 1, 1) := by decide +kernel
theorem dX6_minds_47 : decode cX6_minds 47 = .ok (.isub, 1) := by decide +kernel
theorem dX6_minds_48 : decode cX6_minds 48 = .ok (.putfield 55, 3) := by decide +kernel
theorem dX6_minds_51 : decode cX6_minds 51 = .ok (.aload_n 0, 1) := by decide +kernel
theorem dX6_minds_52 : decode cX6_minds 52 = .ok (.iconst 0, 1) := by decide +kernel
theorem dX6_minds_53 : decode cX6_minds 53 = .ok (.bipush 27, 2) := by decide +kernel
theorem dX6_minds_55 : decode cX6_minds 55 = .ok (.bipush 9, 2) := by decide +kernel
theorem dX6_minds_57 : decode cX6_minds 57 = .ok (.aload_n 0, 1) := by decide +kernel
theorem dX6_minds_58 : decode cX6_minds 58 = .ok (.getfield 55, 3) := by decide +kernel
theorem dX6_minds_61 : decode cX6_minds 61 = .ok (.imul, 1) := by decide +kernel
theorem dX6_minds_62 : decode cX6_minds 62 = .ok (.iadd, 1) := by decide +kernel
theorem dX6_minds_63 : decode cX6_minds 63 = .ok (.invokevirtual 58, 3) := by decide +kernel
theorem dX6_minds_66 : decode cX6_minds 66 = .ok (.aload_n 0, 1) := by decide +kernel
theorem dX6_minds_67 : decode cX6_minds 67 = .ok (.dup, 1) := by decide +kernel
theorem dX6_minds_68 : decode cX6_minds 68 = .ok (.getfield 55, 3) := by decide +kernel
theorem dX6_minds_71 : decode cX6_minds 71 = .ok (.iconst 1, 1) := by decide +kernel
theorem dX6_minds_72 : decode cX6_minds 72 = .ok (.iadd, 1) := by decide +kernel
theorem dX6_minds_73 : decode cX6_minds 73 = .ok (.putfield 55, 3) := by decide +kernel
theorem dX6_minds_76 : decode cX6_minds 76 = .ok (.return_, 1) := by decide +kernel
theorem dX6_isDigit_0 : decode cX6_isDigit 0 = .ok (.iload_n 0, 1) := by decide +kernel
theorem dX6_isDigit_1 : decode cX6_isDigit 1 = .ok (.i2l, 1) := by decide +kernel
theorem dX6_isDigit_2 : decode cX6_isDigit 2 = .ok (.ldc2_w 62, 3) := by decide +kernel
theorem dX6_isDigit_5 : decode cX6_isDigit 5 = .ok (.ldc2_w 64, 3) := by decide +kernel
theorem dX6_isDigit_8 : decode cX6_isDigit 8 = .ok (.invokestatic 66, 3) := by decide +kernel
theorem dX6_isDigit_11 : decode cX6_isDigit 11 = .ok (.ireturn, 1) := by decide +kernel
theorem dX6_take_0 : decode cX6_take 0 = .ok (.aload_n 0, 1) := by decide +kernel
theorem dX6_take_1 : decode cX6_take 1 = .ok (.getfield 70, 3) := by decide +kernel
theorem dX6_take_4 : decode cX6_take 4 = .ok (.aload_n 0, 1) := by decide +kernel
theorem dX6_take_5 : decode cX6_take 5 = .ok (.getfield 73, 3) := by decide +kernel
theorem dX6_take_8 : decode cX6_take 8 = .ok (.if_icmp .ge 30, 3) := by decide +kernel
theorem dX6_take_11 : decode cX6_take 11 = .ok (.aload_n 0, 1) := by decide +kernel
theorem dX6_take_12 : decode cX6_take 12 = .ok (.getfield 33, 3) := by decide +kernel
theorem dX6_take_15 : decode cX6_take 15 = .ok (.aload_n 0, 1) := by decide +kernel
theorem dX6_take_16 : decode cX6_take 16 = .ok (.getfield 70, 3) := by decide +kernel
theorem dX6_take_19 : decode cX6_take 19 = .ok (.iaload, 1) := by decide +kernel
theorem dX6_take_20 : decode cX6_take 20 = .ok (.bipush 32, 2) := by decide +kernel
theorem dX6_take_22 : decode cX6_take 22 = .ok (.if_icmp .ne 16, 3) := by decide +kernel
theorem dX6_take_25 : decode cX6_take 25 = .ok (.aload_n 0, 1) := by decide +kernel
theorem dX6_take_26 : decode cX6_take 26 = .ok (.dup, 1) := by decide +kernel
theorem dX6_take_27 : decode cX6_take 27 = .ok (.getfield 70, 3) := by decide +kernel
theorem dX6_take_30 : decode cX6_take 30 = .ok (.iconst 1, 1) := by decide +kernel
theorem dX6_take_31 : decode cX6_take 31 = .ok (.iadd, 1) := by decide +kernel
theorem dX6_take_32 : decode cX6_take 32 = .ok (.putfield 70, 3) := by decide +kernel
theorem dX6_take_35 : decode cX6_take 35 = .ok (.goto (-35), 3) := by decide +kernel
theorem dX6_take_38 : decode cX6_take 38 = .ok (.aload_n 0, 1) := by decide +kernel
theorem dX6_take_39 : decode cX6_take 39 = .ok (.aload_n 0, 1) := by decide +kernel
theorem dX6_take_40 : decode cX6_take 40 = .ok (.getfield 70, 3) := by decide +kernel
theorem dX6_take_43 : decode cX6_take 43 = .ok (.putfield 76, 3) := by decide +kernel
theorem dX6_take_46 : decode cX6_take 46 = .ok (.aload_n 0, 1) := by decide +kernel
theorem dX6_take_47 : decode cX6_take 47 = .ok (.aload_n 0, 1) := by decide +kernel
theorem dX6_take_48 : decode cX6_take 48 = .ok (.getfield 70, 3) := by decide +kernel
theorem dX6_take_51 : decode cX6_take 51 = .ok (.aload_n 0, 1) := by decide +kernel
theorem dX6_take_52 : decode cX6_take 52 = .ok (.getfield 73, 3) := by decide +kernel
theorem dX6_take_55 : decode cX6_take 55 = .ok (.if_icmp .ge 15, 3) := by decide +kernel
end
section
theorem dX6_take_58 : decode cX6_take 58 = .ok (.aload_n 0, 1) := by decide +kernel
theorem dX6_take_59 : decode cX6_take 59 = .ok (.getfield 33, 3) := by decide +kernel
theorem dX6_take_62 : decode cX6_take 62 = .ok (.aload_n 0, 1) := by decide +kernel
theorem dX6_take_63 : decode cX6_take 63 = .ok (.getfield 70, 3) := by decide +kernel
theorem dX6_take_66 : decode cX6_take 66 = .ok (.iaload, 1) := by decide +kernel
theorem dX6_take_67 : decode cX6_take 67 = .ok (.goto 4, 3) := by decide +kernel
theorem dX6_take_70 : decode cX6_take 70 = .ok (.iconst (-1), 1) := by decide +kernel
theorem dX6_take_71 : decode cX6_take 71 = .ok (.putfield 79, 3) := by decide +kernel
theorem dX6_take_74 : decode cX6_take 74 = .ok (.aload_n 0, 1) := by decide +kernel
theorem dX6_take_75 : decode cX6_take 75 = .ok (.dup, 1) := by decide +kernel
theorem dX6_take_76 : decode cX6_take 76 = .ok (.getfield 70, 3) := by decide +kernel
theorem dX6_take_79 : decode cX6_take 79 = .ok (.aload_n 0, 1) := by decide +kernel
theorem dX6_take_80 : decode cX6_take 80 = .ok (.getfield 70, 3) := by decide +kernel
theorem dX6_take_83 : decode cX6_take 83 = .ok (.aload_n 0, 1) := by decide +kernel
theorem dX6_take_84 : decode cX6_take 84 = .ok (.getfield 73, 3) := by decide +kernel
theorem dX6_take_87 : decode cX6_take 87 = .ok (.if_icmp .ge 7, 3) := by decide +kernel
theorem dX6_take_90 : decode cX6_take 90 = .ok (.iconst 1, 1) := by decide +kernel
theorem dX6_take_91 : decode cX6_take 91 = .ok (.goto 4, 3) := by decide +kernel
theorem dX6_take_94 : decode cX6_take 94 = .ok (.iconst 0, 1) := by decide +kernel
theorem dX6_take_95 : decode cX6_take 95 = .ok (.iadd, 1) := by decide +kernel
theorem dX6_take_96 : decode cX6_take 96 = .ok (.putfield 70, 3) := by decide +kernel
theorem dX6_take_99 : decode cX6_take 99 = .ok (.aload_n 0, 1) := by decide +kernel
theorem dX6_take_100 : decode cX6_take 100 = .ok (.getfield 79, 3) := by decide +kernel
theorem dX6_take_103 : decode cX6_take 103 = .ok (.invokestatic 82, 3) := by decide +kernel
theorem dX6_take_106 : decode cX6_take 106 = .ok (.ifCond .eq 100, 3) := by decide +kernel
theorem dX6_take_109 : decode cX6_take 109 = .ok (.aload_n 0, 1) := by decide +kernel
theorem dX6_take_110 : decode cX6_take 110 = .ok (.getfield 79, 3) := by decide +kernel
theorem dX6_take_113 : decode cX6_take 113 = .ok (.bipush 48, 2) := by decide +kernel
theorem dX6_take_115 : decode cX6_take 115 = .ok (.isub, 1) := by decide +kernel
theorem dX6_take_116 : decode cX6_take 116 = .ok (.istore_n 1, 1) := by decide +kernel
theorem dX6_take_117 : decode cX6_take 117 = .ok (.aload_n 0, 1) := by decide +kernel
theorem dX6_take_118 : decode cX6_take 118 = .ok (.getfield 70, 3) := by decide +kernel
theorem dX6_take_121 : decode cX6_take 121 = .ok (.aload_n 0, 1) := by decide +kernel
theorem dX6_take_122 : decode cX6_take 122 = .ok (.getfield 73, 3) := by decide +kernel
theorem dX6_take_125 : decode cX6_take 125 = .ok (.if_icmp .ge 72, 3) := by decide +kernel
theorem dX6_take_128 : decode cX6_take 128 = .ok (.aload_n 0, 1) := by decide +kernel
theorem dX6_take_129 : decode cX6_take 129 = .ok (.getfield 33, 3) := by decide +kernel
theorem dX6_take_132 : decode cX6_take 132 = .ok (.aload_n 0, 1) := by decide +kernel
theorem dX6_take_133 : decode cX6_take 133 = .ok (.getfield 70, 3) := by decide +kernel
theorem dX6_take_136 : decode cX6_take 136 = .ok (.iaload, 1) := by decide +kernel
theorem dX6_take_137 : decode cX6_take 137 = .ok (.invokestatic 82, 3) := by decide +kernel
theorem dX6_take_140 : decode cX6_take 140 = .ok (.ifCond .eq 57, 3) := by decide +kernel
theorem dX6_take_143 : decode cX6_take 143 = .ok (.aload_n 0, 1) := by decide +kernel
theorem dX6_take_144 : decode cX6_take 144 = .ok (.getfield 70, 3) := by decide +kernel
theorem dX6_take_147 : decode cX6_take 147 = .ok (.aload_n 0, 1) := by decide +kernel
theorem dX6_take_148 : decode cX6_take 148 = .ok (.getfield 76, 3) := by decide +kernel
theorem dX6_take_151 : decode cX6_take 151 = .ok (.iconst 1, 1) := by decide +kernel
theorem dX6_take_152 : decode cX6_take 152 = .ok (.iadd, 1) := by decide +kernel
theorem dX6_take_153 : decode cX6_take 153 = .ok (.if_icmp .ne 27, 3) := by decide +kernel
theorem dX6_take_156 : decode cX6_take 156 = .ok (.iload_n 1, 1) := by decide +kernel
theorem dX6_take_157 : decode cX6_take 157 = .ok (.ifCond .le 23, 3) := by decide +kernel
theorem dX6_take_160 : decode cX6_take 160 = .ok (.bipush 10, 2) := by decide +kernel
theorem dX6_take_162 : decode cX6_take 162 = .ok (.iload_n 1, 1) := by decide +kernel
theorem dX6_take_163 : decode cX6_take 163 = .ok (.imul, 1) := by decide +kernel
theorem dX6_take_164 : decode cX6_take 164 = .ok (.aload_n 0, 1) := by decide +kernel
theorem dX6_take_165 : decode cX6_take 165 = .ok (.getfield 33, 3) := by decide +kernel
theorem dX6_take_168 : decode cX6_take 168 = .ok (.aload_n 0, 1) := by decide +kernel
theorem dX6_take_169 : decode cX6_take 169 = .ok (.getfield 70, 3) := by decide +kernel
theorem dX6_take_172 : decode cX6_take 172 = .ok (.iaload, 1) := by decide +kernel
theorem dX6_take_173 : decode cX6_take 173 = .ok (.iadd, 1) := by decide +kernel
theorem dX6_take_174 : decode cX6_take 174 = .ok (.bipush 48, 2) := by decide +kernel
theorem dX6_take_176 : decode cX6_take 176 = .ok (.isub, 1) := by decide +kernel
theorem dX6_take_177 : decode cX6_take 177 = .ok (.goto 6, 3) := by decide +kernel
theorem dX6_take_180 : decode cX6_take 180 = .ok (.sipush 1000, 3) := by decide +kernel
theorem dX6_take_183 : decode cX6_take 183 = .ok (.istore_n 1, 1) := by decide +kernel
theorem dX6_take_184 : decode cX6_take 184 = .ok (.aload_n 0, 1) := by decide +kernel
theorem dX6_take_185 : decode cX6_take 185 = .ok (.dup, 1) := by decide +kernel
theorem dX6_take_186 : decode cX6_take 186 = .ok (.getfield 70, 3) := by decide +kernel
theorem dX6_take_189 : decode cX6_take 189 = .ok (.iconst 1, 1) := by decide +kernel
theorem dX6_take_190 : decode cX6_take 190 = .ok (.iadd, 1) := by decide +kernel
theorem dX6_take_191 : decode cX6_take 191 = .ok (.putfield 70, 3) := by decide +kernel
theorem dX6_take_194 : decode cX6_take 194 = .ok (.goto (-77), 3) := by decide +kernel
theorem dX6_take_197 : decode cX6_take 197 = .ok (.aload_n 0, 1) := by decide +kernel
theorem dX6_take_198 : decode cX6_take 198 = .ok (.sipush 1000, 3) := by decide +kernel
theorem dX6_take_201 : decode cX6_take 201 = .ok (.iload_n 1, 1) := by decide +kernel
theorem dX6_take_202 : decode cX6_take 202 = .ok (.iadd, 1) := by decide +kernel
theorem dX6_take_203 : decode cX6_take 203 = .ok (.putfield 79, 3) := by decide +kernel
theorem dX6_take_206 : decode cX6_take 206 = .ok (.return_, 1) := by decide +kernel
theorem dX6_isNumber_0 : decode cX6_isNumber 0 = .ok (.aload_n 0, 1) := by decide +kernel
theorem dX6_isNumber_1 : decode cX6_isNumber 1 = .ok (.getfield 79, 3) := by decide +kernel
theorem dX6_isNumber_4 : decode cX6_isNumber 4 = .ok (.i2l, 1) := by decide +kernel
theorem dX6_isNumber_5 : decode cX6_isNumber 5 = .ok (.sipush 1000, 3) := by decide +kernel
theorem dX6_isNumber_8 : decode cX6_isNumber 8 = .ok (.iload_n 1, 1) := by decide +kernel
theorem dX6_isNumber_9 : decode cX6_isNumber 9 = .ok (.iadd, 1) := by decide +kernel
theorem dX6_isNumber_10 : decode cX6_isNumber 10 = .ok (.i2l, 1) := by decide +kernel
theorem dX6_isNumber_11 : decode cX6_isNumber 11 = .ok (.sipush 1000, 3) := by decide +kernel
theorem dX6_isNumber_14 : decode cX6_isNumber 14 = .ok (.iload_n 2, 1) := by decide +kernel
theorem dX6_isNumber_15 : decode cX6_isNumber 15 = .ok (.iadd, 1) := by decide +kernel
theorem dX6_isNumber_16 : decode cX6_isNumber 16 = .ok (.i2l, 1) := by decide +kernel
theorem dX6_isNumber_17 : decode cX6_isNumber 17 = .ok (.invokestatic 66, 3) := by decide +kernel
theorem dX6_isNumber_20 : decode cX6_isNumber 20 = .ok (.ireturn, 1) := by decide +kernel
theorem dX6_readsEnd_0 : decode cX6_readsEnd 0 = .ok (.aload_n 0, 1) := by decide +kernel
theorem dX6_readsEnd_1 : decode cX6_readsEnd 1 = .ok (.getfield 79, 3) := by decide +kernel
theorem dX6_readsEnd_4 : decode cX6_readsEnd 4 = .ok (.bipush 59, 2) := by decide +kernel
theorem dX6_readsEnd_6 : decode cX6_readsEnd 6 = .ok (.if_icmp .ne 7, 3) := by decide +kernel
theorem dX6_readsEnd_9 : decode cX6_readsEnd 9 = .ok (.iconst 1, 1) := by decide +kernel
theorem dX6_readsEnd_10 : decode cX6_readsEnd 10 = .ok (.goto 4, 3) := by decide +kernel
theorem dX6_readsEnd_13 : decode cX6_readsEnd 13 = .ok (.iconst 0, 1) := by decide +kernel
theorem dX6_readsEnd_14 : decode cX6_readsEnd 14 = .ok (.istore_n 1, 1) := by decide +kernel
theorem dX6_readsEnd_15 : decode cX6_readsEnd 15 = .ok (.iload_n 1, 1) := by decide +kernel
theorem dX6_readsEnd_16 : decode cX6_readsEnd 16 = .ok (.ifCond .eq 17, 3) := by decide +kernel
theorem dX6_readsEnd_19 : decode cX6_readsEnd 19 = .ok (.aload_n 0, 1) := by decide +kernel
theorem dX6_readsEnd_20 : decode cX6_readsEnd 20 = .ok (.invokevirtual 86, 3) := by decide +kernel
theorem dX6_readsEnd_23 : decode cX6_readsEnd 23 = .ok (.aload_n 0, 1) := by decide +kernel
theorem dX6_readsEnd_24 : decode cX6_readsEnd 24 = .ok (.dup, 1) := by decide +kernel
theorem dX6_readsEnd_25 : decode cX6_readsEnd 25 = .ok (.getfield 89, 3) := by decide +kernel
theorem dX6_readsEnd_28 : decode cX6_readsEnd 28 = .ok (.iconst 1, 1) := by decide +kernel
theorem dX6_readsEnd_29 : decode cX6_readsEnd 29 = .ok (.iadd, 1) := by decide +kernel
theorem dX6_readsEnd_30 : decode cX6_readsEnd 30 = .ok (.putfield 89, 3) := by decide +kernel
theorem dX6_readsEnd_33 : decode cX6_readsEnd 33 = .ok (.iload_n 1, 1) := by decide +kernel
theorem dX6_readsEnd_34 : decode cX6_readsEnd 34 = .ok (.ireturn, 1) := by decide +kernel
theorem dX6_readsFraction_0 : decode cX6_readsFraction 0 = .ok (.aload_n 0, 1) := by decide +kernel
theorem dX6_readsFraction_1 : decode cX6_readsFraction 1 = .ok (.invokevirtual 86, 3) := by decide +kernel
theorem dX6_readsFraction_4 : decode cX6_readsFraction 4 = .ok (.aload_n 0, 1) := by decide +kernel
theorem dX6_readsFraction_5 : decode cX6_readsFraction 5 = .ok (.iconst 1, 1) := by decide +kernel
theorem dX6_readsFraction_6 : decode cX6_readsFraction 6 = .ok (.bipush 99, 2) := by decide +kernel
theorem dX6_readsFraction_8 : decode cX6_readsFraction 8 = .ok (.invokevirtual 92, 3) := by decide +kernel
theorem dX6_readsFraction_11 : decode cX6_readsFraction 11 = .ok (.ifCond .ne 5, 3) := by decide +kernel
theorem dX6_readsFraction_14 : decode cX6_readsFraction 14 = .ok (.iconst 0, 1) := by decide +kernel
theorem dX6_readsFraction_15 : decode cX6_readsFraction 15 = .ok (.ireturn, 1) := by decide +kernel
theorem dX6_readsFraction_16 : decode cX6_readsFraction 16 = .ok (.aload_n 0, 1) := by decide +kernel
theorem dX6_readsFraction_17 : decode cX6_readsFraction 17 = .ok (.aload_n 0, 1) := by decide +kernel
theorem dX6_readsFraction_18 : decode cX6_readsFraction 18 = .ok (.getfield 79, 3) := by decide +kernel
theorem dX6_readsFraction_21 : decode cX6_readsFraction 21 = .ok (.sipush 1000, 3) := by decide +kernel
theorem dX6_readsFraction_24 : decode cX6_readsFraction 24 = .ok (.isub, 1) := by decide +kernel
theorem dX6_readsFraction_25 : decode cX6_readsFraction 25 = .ok (.putfield 96, 3) := by decide +kernel
theorem dX6_readsFraction_28 : decode cX6_readsFraction 28 = .ok (.aload_n 0, 1) := by decide +kernel
theorem dX6_readsFraction_29 : decode cX6_readsFraction 29 = .ok (.invokevirtual 86, 3) := by decide +kernel
theorem dX6_readsFraction_32 : decode cX6_readsFraction 32 = .ok (.aload_n 0, 1) := by decide +kernel
theorem dX6_readsFraction_33 : decode cX6_readsFraction 33 = .ok (.iconst 1, 1) := by decide +kernel
theorem dX6_readsFraction_34 : decode cX6_readsFraction 34 = .ok (.bipush 99, 2) := by decide +kernel
theorem dX6_readsFraction_36 : decode cX6_readsFraction 36 = .ok (.invokevirtual 92, 3) := by decide +kernel
theorem dX6_readsFraction_39 : decode cX6_readsFraction 39 = .ok (.ifCond .eq 20, 3) := by decide +kernel
theorem dX6_readsFraction_42 : decode cX6_readsFraction 42 = .ok (.aload_n 0, 1) := by decide +kernel
theorem dX6_readsFraction_43 : decode cX6_readsFraction 43 = .ok (.getfield 96, 3) := by decide +kernel
theorem dX6_readsFraction_46 : decode cX6_readsFraction 46 = .ok (.iconst 2, 1) := by decide +kernel
theorem dX6_readsFraction_47 : decode cX6_readsFraction 47 = .ok (.aload_n 0, 1) := by decide +kernel
theorem dX6_readsFraction_48 : decode cX6_readsFraction 48 = .ok (.getfield 79, 3) := by decide +kernel
theorem dX6_readsFraction_51 : decode cX6_readsFraction 51 = .ok (.sipush 1000, 3) := by decide +kernel
theorem dX6_readsFraction_54 : decode cX6_readsFraction 54 = .ok (.isub, 1) := by decide +kernel
theorem dX6_readsFraction_55 : decode cX6_readsFraction 55 = .ok (.imul, 1) := by decide +kernel
theorem dX6_readsFraction_56 : decode cX6_readsFraction 56 = .ok (.if_icmp .le 5, 3) := by decide +kernel
theorem dX6_readsFraction_59 : decode cX6_readsFraction 59 = .ok (.iconst 0, 1) := by decide +kernel
theorem dX6_readsFraction_60 : decode cX6_readsFraction 60 = .ok (.ireturn, 1) := by decide +kernel
theorem dX6_readsFraction_61 : decode cX6_readsFraction 61 = .ok (.aload_n 0, 1) := by decide +kernel
theorem dX6_readsFraction_62 : decode cX6_readsFraction 62 = .ok (.aload_n 0, 1) := by decide +kernel
theorem dX6_readsFraction_63 : decode cX6_readsFraction 63 = .ok (.getfield 79, 3) := by decide +kernel
theorem dX6_readsFraction_66 : decode cX6_readsFraction 66 = .ok (.sipush 1000, 3) := by decide +kernel
theorem dX6_readsFraction_69 : decode cX6_readsFraction 69 = .ok (.isub, 1) := by decide +kernel
theorem dX6_readsFraction_70 : decode cX6_readsFraction 70 = .ok (.putfield 99, 3) := by decide +kernel
theorem dX6_readsFraction_73 : decode cX6_readsFraction 73 = .ok (.aload_n 0, 1) := by decide +kernel
theorem dX6_readsFraction_74 : decode cX6_readsFraction 74 = .ok (.invokevirtual 86, 3) := by decide +kernel
theorem dX6_readsFraction_77 : decode cX6_readsFraction 77 = .ok (.aload_n 0, 1) := by decide +kernel
theorem dX6_readsFraction_78 : decode cX6_readsFraction 78 = .ok (.invokevirtual 102, 3) := by decide +kernel
theorem dX6_readsFraction_81 : decode cX6_readsFraction 81 = .ok (.ireturn, 1) := by decide +kernel
theorem dX6_isWhole_0 : decode cX6_isWhole 0 = .ok (.aload_n 0, 1) := by decide +kernel
theorem dX6_isWhole_1 : decode cX6_isWhole 1 = .ok (.getfield 96, 3) := by decide +kernel
theorem dX6_isWhole_4 : decode cX6_isWhole 4 = .ok (.i2l, 1) := by decide +kernel
theorem dX6_isWhole_5 : decode cX6_isWhole 5 = .ok (.lstore_n 1, 1) := by decide +kernel
theorem dX6_isWhole_6 : decode cX6_isWhole 6 = .ok (.aload_n 0, 1) := by decide +kernel
theorem dX6_isWhole_7 : decode cX6_isWhole 7 = .ok (.getfield 99, 3) := by decide +kernel
theorem dX6_isWhole_10 : decode cX6_isWhole 10 = .ok (.i2l, 1) := by decide +kernel
theorem dX6_isWhole_11 : decode cX6_isWhole 11 = .ok (.lstore_n 3, 1) := by decide +kernel
theorem dX6_isWhole_12 : decode cX6_isWhole 12 = .ok (.iconst 0, 1) := by decide +kernel
theorem dX6_isWhole_13 : decode cX6_isWhole 13 = .ok (.istore 5, 2) := by decide +kernel
theorem dX6_isWhole_15 : decode cX6_isWhole 15 = .ok (.iload 5, 2) := by decide +kernel
theorem dX6_isWhole_17 : decode cX6_isWhole 17 = .ok (.aload_n 0, 1) := by decide +kernel
theorem dX6_isWhole_18 : decode cX6_isWhole 18 = .ok (.getfield 106, 3) := by decide +kernel
theorem dX6_isWhole_21 : decode cX6_isWhole 21 = .ok (.if_icmp .ge 33, 3) := by decide +kernel
theorem dX6_isWhole_24 : decode cX6_isWhole 24 = .ok (.lload_n 1, 1) := by decide +kernel
theorem dX6_isWhole_25 : decode cX6_isWhole 25 = .ok (.aload_n 0, 1) := by decide +kernel
theorem dX6_isWhole_26 : decode cX6_isWhole 26 = .ok (.getfield 36, 3) := by decide +kernel
theorem dX6_isWhole_29 : decode cX6_isWhole 29 = .ok (.iload 5, 2) := by decide +kernel
theorem dX6_isWhole_31 : decode cX6_isWhole 31 = .ok (.iaload, 1) := by decide +kernel
theorem dX6_isWhole_32 : decode cX6_isWhole 32 = .ok (.i2l, 1) := by decide +kernel
theorem dX6_isWhole_33 : decode cX6_isWhole 33 = .ok (.lmul, 1) := by decide +kernel
theorem dX6_isWhole_34 : decode cX6_isWhole 34 = .ok (.lload_n 3, 1) := by decide +kernel
theorem dX6_isWhole_35 : decode cX6_isWhole 35 = .ok (.lsub, 1) := by decide +kernel
theorem dX6_isWhole_36 : decode cX6_isWhole 36 = .ok (.lstore_n 1, 1) := by decide +kernel
theorem dX6_isWhole_37 : decode cX6_isWhole 37 = .ok (.lload_n 3, 1) := by decide +kernel
theorem dX6_isWhole_38 : decode cX6_isWhole 38 = .ok (.aload_n 0, 1) := by decide +kernel
theorem dX6_isWhole_39 : decode cX6_isWhole 39 = .ok (.getfield 36, 3) := by decide +kernel
theorem dX6_isWhole_42 : decode cX6_isWhole 42 = .ok (.iload 5, 2) := by decide +kernel
theorem dX6_isWhole_44 : decode cX6_isWhole 44 = .ok (.iaload, 1) := by decide +kernel
theorem dX6_isWhole_45 : decode cX6_isWhole 45 = .ok (.i2l, 1) := by decide +kernel
theorem dX6_isWhole_46 : decode cX6_isWhole 46 = .ok (.lmul, 1) := by decide +kernel
theorem dX6_isWhole_47 : decode cX6_isWhole 47 = .ok (.lstore_n 3, 1) := by decide +kernel
theorem dX6_isWhole_48 : decode cX6_isWhole 48 = .ok (.iinc 5 1, 3) := by decide +kernel
theorem dX6_isWhole_51 : decode cX6_isWhole 51 = .ok (.goto (-36), 3) := by decide +kernel
theorem dX6_isWhole_54 : decode cX6_isWhole 54 = .ok (.lload_n 1, 1) := by decide +kernel
theorem dX6_isWhole_55 : decode cX6_isWhole 55 = .ok (.lconst 0, 1) := by decide +kernel
theorem dX6_isWhole_56 : decode cX6_isWhole 56 = .ok (.lcmp, 1) := by decide +kernel
theorem dX6_isWhole_57 : decode cX6_isWhole 57 = .ok (.ifCond .ne 7, 3) := by decide +kernel
theorem dX6_isWhole_60 : decode cX6_isWhole 60 = .ok (.iconst 1, 1) := by decide +kernel
theorem dX6_isWhole_61 : decode cX6_isWhole 61 = .ok (.goto 4, 3) := by decide +kernel
theorem dX6_isWhole_64 : decode cX6_isWhole 64 = .ok (.iconst 0, 1) := by decide +kernel
theorem dX6_isWhole_65 : decode cX6_isWhole 65 = .ok (.ireturn, 1) := by decide +kernel
theorem dX6_readsSum_0 : decode cX6_readsSum 0 = .ok (.aload_n 0, 1) := by decide +kernel
theorem dX6_readsSum_1 : decode cX6_readsSum 1 = .ok (.invokevirtual 86, 3) := by decide +kernel
theorem dX6_readsSum_4 : decode cX6_readsSum 4 = .ok (.aload_n 0, 1) := by decide +kernel
theorem dX6_readsSum_5 : decode cX6_readsSum 5 = .ok (.iconst 1, 1) := by decide +kernel
theorem dX6_readsSum_6 : decode cX6_readsSum 6 = .ok (.bipush 60, 2) := by decide +kernel
theorem dX6_readsSum_8 : decode cX6_readsSum 8 = .ok (.invokevirtual 92, 3) := by decide +kernel
theorem dX6_readsSum_11 : decode cX6_readsSum 11 = .ok (.ifCond .eq 77, 3) := by decide +kernel
theorem dX6_readsSum_14 : decode cX6_readsSum 14 = .ok (.aload_n 0, 1) := by decide +kernel
theorem dX6_readsSum_15 : decode cX6_readsSum 15 = .ok (.getfield 106, 3) := by decide +kernel
theorem dX6_readsSum_18 : decode cX6_readsSum 18 = .ok (.bipush 8, 2) := by decide +kernel
theorem dX6_readsSum_20 : decode cX6_readsSum 20 = .ok (.if_icmp .eq 32, 3) := by decide +kernel
theorem dX6_readsSum_23 : decode cX6_readsSum 23 = .ok (.aload_n 0, 1) := by decide +kernel
theorem dX6_readsSum_24 : decode cX6_readsSum 24 = .ok (.getfield 106, 3) := by decide +kernel
theorem dX6_readsSum_27 : decode cX6_readsSum 27 = .ok (.ifCond .le 27, 3) := by decide +kernel
theorem dX6_readsSum_30 : decode cX6_readsSum 30 = .ok (.aload_n 0, 1) := by decide +kernel
theorem dX6_readsSum_31 : decode cX6_readsSum 31 = .ok (.getfield 79, 3) := by decide +kernel
theorem dX6_readsSum_34 : decode cX6_readsSum 34 = .ok (.sipush 1000, 3) := by decide +kernel
theorem dX6_readsSum_37 : decode cX6_readsSum 37 = .ok (.isub, 1) := by decide +kernel
theorem dX6_readsSum_38 : decode cX6_readsSum 38 = .ok (.aload_n 0, 1) := by decide +kernel
theorem dX6_readsSum_39 : decode cX6_readsSum 39 = .ok (.getfield 36, 3) := by decide +kernel
theorem dX6_readsSum_42 : decode cX6_readsSum 42 = .ok (.aload_n 0, 1) := by decide +kernel
theorem dX6_readsSum_43 : decode cX6_readsSum 43 = .ok (.getfield 106, 3) := by decide +kernel
theorem dX6_readsSum_46 : decode cX6_readsSum 46 = .ok (.iconst 1, 1) := by decide +kernel
theorem dX6_readsSum_47 : decode cX6_readsSum 47 = .ok (.isub, 1) := by decide +kernel
theorem dX6_readsSum_48 : decode cX6_readsSum 48 = .ok (.iaload, 1) := by decide +kernel
theorem dX6_readsSum_49 : decode cX6_readsSum 49 = .ok (.if_icmp .gt 5, 3) := by decide +kernel
theorem dX6_readsSum_52 : decode cX6_readsSum 52 = .ok (.iconst 0, 1) := by decide +kernel
theorem dX6_readsSum_53 : decode cX6_readsSum 53 = .ok (.ireturn, 1) := by decide +kernel
theorem dX6_readsSum_54 : decode cX6_readsSum 54 = .ok (.aload_n 0, 1) := by decide +kernel
theorem dX6_readsSum_55 : decode cX6_readsSum 55 = .ok (.getfield 36, 3) := by decide +kernel
theorem dX6_readsSum_58 : decode cX6_readsSum 58 = .ok (.aload_n 0, 1) := by decide +kernel
theorem dX6_readsSum_59 : decode cX6_readsSum 59 = .ok (.getfield 106, 3) := by decide +kernel
theorem dX6_readsSum_62 : decode cX6_readsSum 62 = .ok (.aload_n 0, 1) := by decide +kernel
theorem dX6_readsSum_63 : decode cX6_readsSum 63 = .ok (.getfield 79, 3) := by decide +kernel
theorem dX6_readsSum_66 : decode cX6_readsSum 66 = .ok (.sipush 1000, 3) := by decide +kernel
theorem dX6_readsSum_69 : decode cX6_readsSum 69 = .ok (.isub, 1) := by decide +kernel
theorem dX6_readsSum_70 : decode cX6_readsSum 70 = .ok (.iastore, 1) := by decide +kernel
theorem dX6_readsSum_71 : decode cX6_readsSum 71 = .ok (.aload_n 0, 1) := by decide +kernel
theorem dX6_readsSum_72 : decode cX6_readsSum 72 = .ok (.dup, 1) := by decide +kernel
theorem dX6_readsSum_73 : decode cX6_readsSum 73 = .ok (.getfield 106, 3) := by decide +kernel
theorem dX6_readsSum_76 : decode cX6_readsSum 76 = .ok (.iconst 1, 1) := by decide +kernel
theorem dX6_readsSum_77 : decode cX6_readsSum 77 = .ok (.iadd, 1) := by decide +kernel
theorem dX6_readsSum_78 : decode cX6_readsSum 78 = .ok (.putfield 106, 3) := by decide +kernel
theorem dX6_readsSum_81 : decode cX6_readsSum 81 = .ok (.aload_n 0, 1) := by decide +kernel
theorem dX6_readsSum_82 : decode cX6_readsSum 82 = .ok (.invokevirtual 86, 3) := by decide +kernel
theorem dX6_readsSum_85 : decode cX6_readsSum 85 = .ok (.goto (-81), 3) := by decide +kernel
theorem dX6_readsSum_88 : decode cX6_readsSum 88 = .ok (.aload_n 0, 1) := by decide +kernel
theorem dX6_readsSum_89 : decode cX6_readsSum 89 = .ok (.getfield 106, 3) := by decide +kernel
theorem dX6_readsSum_92 : decode cX6_readsSum 92 = .ok (.ifCond .le 30, 3) := by decide +kernel
theorem dX6_readsSum_95 : decode cX6_readsSum 95 = .ok (.aload_n 0, 1) := by decide +kernel
theorem dX6_readsSum_96 : decode cX6_readsSum 96 = .ok (.getfield 79, 3) := by decide +kernel
theorem dX6_readsSum_99 : decode cX6_readsSum 99 = .ok (.bipush 59, 2) := by decide +kernel
theorem dX6_readsSum_101 : decode cX6_readsSum 101 = .ok (.if_icmp .ne 10, 3) := by decide +kernel
theorem dX6_readsSum_104 : decode cX6_readsSum 104 = .ok (.aload_n 0, 1) := by decide +kernel
theorem dX6_readsSum_105 : decode cX6_readsSum 105 = .ok (.invokevirtual 109, 3) := by decide +kernel
theorem dX6_readsSum_108 : decode cX6_readsSum 108 = .ok (.ifCond .eq 14, 3) := by decide +kernel
theorem dX6_readsSum_111 : decode cX6_readsSum 111 = .ok (.aload_n 0, 1) := by decide +kernel
theorem dX6_readsSum_112 : decode cX6_readsSum 112 = .ok (.invokevirtual 102, 3) := by decide +kernel
theorem dX6_readsSum_115 : decode cX6_readsSum 115 = .ok (.ifCond .eq 7, 3) := by decide +kernel
theorem dX6_readsSum_118 : decode cX6_readsSum 118 = .ok (.iconst 1, 1) := by decide +kernel
theorem dX6_readsSum_119 : decode cX6_readsSum 119 = .ok (.goto 4, 3) := by decide +kernel
theorem dX6_readsSum_122 : decode cX6_readsSum 122 = .ok (.iconst 0, 1) := by decide +kernel
theorem dX6_readsSum_123 : decode cX6_readsSum 123 = .ok (.ireturn, 1) := by decide +kernel
theorem dX6_reads_0 : decode cX6_reads 0 = .ok (.aload_n 0, 1) := by decide +kernel
theorem dX6_reads_1 : decode cX6_reads 1 = .ok (.iconst 0, 1) := by decide +kernel
theorem dX6_reads_2 : decode cX6_reads 2 = .ok (.putfield 70, 3) := by decide +kernel
theorem dX6_reads_5 : decode cX6_reads 5 = .ok (.aload_n 0, 1) := by decide +kernel
theorem dX6_reads_6 : decode cX6_reads 6 = .ok (.iconst 0, 1) := by decide +kernel
theorem dX6_reads_7 : decode cX6_reads 7 = .ok (.putfield 89, 3) := by decide +kernel
theorem dX6_reads_10 : decode cX6_reads 10 = .ok (.aload_n 0, 1) := by decide +kernel
theorem dX6_reads_11 : decode cX6_reads 11 = .ok (.iconst 2, 1) := by decide +kernel
theorem dX6_reads_12 : decode cX6_reads 12 = .ok (.putfield 96, 3) := by decide +kernel
theorem dX6_reads_15 : decode cX6_reads 15 = .ok (.aload_n 0, 1) := by decide +kernel
theorem dX6_reads_16 : decode cX6_reads 16 = .ok (.iconst 3, 1) := by decide +kernel
theorem dX6_reads_17 : decode cX6_reads 17 = .ok (.putfield 99, 3) := by decide +kernel
theorem dX6_reads_20 : decode cX6_reads 20 = .ok (.aload_n 0, 1) := by decide +kernel
theorem dX6_reads_21 : decode cX6_reads 21 = .ok (.iconst 0, 1) := by decide +kernel
theorem dX6_reads_22 : decode cX6_reads 22 = .ok (.putfield 106, 3) := by decide +kernel
theorem dX6_reads_25 : decode cX6_reads 25 = .ok (.aload_n 0, 1) := by decide +kernel
theorem dX6_reads_26 : decode cX6_reads 26 = .ok (.invokevirtual 86, 3) := by decide +kernel
theorem dX6_reads_29 : decode cX6_reads 29 = .ok (.aload_n 0, 1) := by decide +kernel
theorem dX6_reads_30 : decode cX6_reads 30 = .ok (.getfield 79, 3) := by decide +kernel
theorem dX6_reads_33 : decode cX6_reads 33 = .ok (.iconst (-1), 1) := by decide +kernel
theorem dX6_reads_34 : decode cX6_reads 34 = .ok (.if_icmp .eq 19, 3) := by decide +kernel
theorem dX6_reads_37 : decode cX6_reads 37 = .ok (.aload_n 0, 1) := by decide +kernel
theorem dX6_reads_38 : decode cX6_reads 38 = .ok (.getfield 79, 3) := by decide +kernel
theorem dX6_reads_41 : decode cX6_reads 41 = .ok (.bipush 112, 2) := by decide +kernel
theorem dX6_reads_43 : decode cX6_reads 43 = .ok (.if_icmp .ne 14, 3) := by decide +kernel
theorem dX6_reads_46 : decode cX6_reads 46 = .ok (.aload_n 0, 1) := by decide +kernel
theorem dX6_reads_47 : decode cX6_reads 47 = .ok (.invokevirtual 112, 3) := by decide +kernel
theorem dX6_reads_50 : decode cX6_reads 50 = .ok (.ifCond .eq 7, 3) := by decide +kernel
theorem dX6_reads_53 : decode cX6_reads 53 = .ok (.iconst 1, 1) := by decide +kernel
theorem dX6_reads_54 : decode cX6_reads 54 = .ok (.goto 4, 3) := by decide +kernel
theorem dX6_reads_57 : decode cX6_reads 57 = .ok (.iconst 0, 1) := by decide +kernel
theorem dX6_reads_58 : decode cX6_reads 58 = .ok (.istore_n 1, 1) := by decide +kernel
theorem dX6_reads_59 : decode cX6_reads 59 = .ok (.iload_n 1, 1) := by decide +kernel
theorem dX6_reads_60 : decode cX6_reads 60 = .ok (.ifCond .eq 31, 3) := by decide +kernel
theorem dX6_reads_63 : decode cX6_reads 63 = .ok (.aload_n 0, 1) := by decide +kernel
theorem dX6_reads_64 : decode cX6_reads 64 = .ok (.getfield 79, 3) := by decide +kernel
theorem dX6_reads_67 : decode cX6_reads 67 = .ok (.iconst (-1), 1) := by decide +kernel
theorem dX6_reads_68 : decode cX6_reads 68 = .ok (.if_icmp .eq 19, 3) := by decide +kernel
theorem dX6_reads_71 : decode cX6_reads 71 = .ok (.aload_n 0, 1) := by decide +kernel
theorem dX6_reads_72 : decode cX6_reads 72 = .ok (.getfield 79, 3) := by decide +kernel
theorem dX6_reads_75 : decode cX6_reads 75 = .ok (.bipush 115, 2) := by decide +kernel
theorem dX6_reads_77 : decode cX6_reads 77 = .ok (.if_icmp .ne 14, 3) := by decide +kernel
theorem dX6_reads_80 : decode cX6_reads 80 = .ok (.aload_n 0, 1) := by decide +kernel
theorem dX6_reads_81 : decode cX6_reads 81 = .ok (.invokevirtual 115, 3) := by decide +kernel
theorem dX6_reads_84 : decode cX6_reads 84 = .ok (.ifCond .eq 7, 3) := by decide +kernel
theorem dX6_reads_87 : decode cX6_reads 87 = .ok (.iconst 1, 1) := by decide +kernel
theorem dX6_reads_88 : decode cX6_reads 88 = .ok (.goto 4, 3) := by decide +kernel
theorem dX6_reads_91 : decode cX6_reads 91 = .ok (.iconst 0, 1) := by decide +kernel
theorem dX6_reads_92 : decode cX6_reads 92 = .ok (.istore_n 1, 1) := by decide +kernel
theorem dX6_reads_93 : decode cX6_reads 93 = .ok (.iload_n 1, 1) := by decide +kernel
theorem dX6_reads_94 : decode cX6_reads 94 = .ok (.ifCond .eq 15, 3) := by decide +kernel
theorem dX6_reads_97 : decode cX6_reads 97 = .ok (.aload_n 0, 1) := by decide +kernel
theorem dX6_reads_98 : decode cX6_reads 98 = .ok (.getfield 79, 3) := by decide +kernel
theorem dX6_reads_101 : decode cX6_reads 101 = .ok (.iconst (-1), 1) := by decide +kernel
theorem dX6_reads_102 : decode cX6_reads 102 = .ok (.if_icmp .ne 7, 3) := by decide +kernel
theorem dX6_reads_105 : decode cX6_reads 105 = .ok (.iconst 1, 1) := by decide +kernel
theorem dX6_reads_106 : decode cX6_reads 106 = .ok (.goto 4, 3) := by decide +kernel
theorem dX6_reads_109 : decode cX6_reads 109 = .ok (.iconst 0, 1) := by decide +kernel
theorem dX6_reads_110 : decode cX6_reads 110 = .ok (.ireturn, 1) := by decide +kernel
theorem dX6_type_0 : decode cX6_type 0 = .ok (.iload_n 1, 1) := by decide +kernel
theorem dX6_type_1 : decode cX6_type 1 = .ok (.i2l, 1) := by decide +kernel
theorem dX6_type_2 : decode cX6_type 2 = .ok (.lconst 0, 1) := by decide +kernel
theorem dX6_type_3 : decode cX6_type 3 = .ok (.ldc2_w 118, 3) := by decide +kernel
theorem dX6_type_6 : decode cX6_type 6 = .ok (.invokestatic 66, 3) := by decide +kernel
theorem dX6_type_9 : decode cX6_type 9 = .ok (.ifCond .ne 5, 3) := by decide +kernel
theorem dX6_type_12 : decode cX6_type 12 = .ok (.iconst (-1), 1) := by decide +kernel
theorem dX6_type_13 : decode cX6_type 13 = .ok (.ireturn, 1) := by decide +kernel
theorem dX6_type_14 : decode cX6_type 14 = .ok (.aload_n 0, 1) := by decide +kernel
theorem dX6_type_15 : decode cX6_type 15 = .ok (.getfield 73, 3) := by decide +kernel
theorem dX6_type_18 : decode cX6_type 18 = .ok (.bipush 60, 2) := by decide +kernel
theorem dX6_type_20 : decode cX6_type 20 = .ok (.if_icmp .ne 6, 3) := by decide +kernel
theorem dX6_type_23 : decode cX6_type 23 = .ok (.bipush (-3), 2) := by decide +kernel
theorem dX6_type_25 : decode cX6_type 25 = .ok (.ireturn, 1) := by decide +kernel
theorem dX6_type_26 : decode cX6_type 26 = .ok (.aload_n 0, 1) := by decide +kernel
theorem dX6_type_27 : decode cX6_type 27 = .ok (.getfield 33, 3) := by decide +kernel
theorem dX6_type_30 : decode cX6_type 30 = .ok (.aload_n 0, 1) := by decide +kernel
theorem dX6_type_31 : decode cX6_type 31 = .ok (.getfield 73, 3) := by decide +kernel
theorem dX6_type_34 : decode cX6_type 34 = .ok (.iload_n 1, 1) := by decide +kernel
theorem dX6_type_35 : decode cX6_type 35 = .ok (.iastore, 1) := by decide +kernel
theorem dX6_type_36 : decode cX6_type 36 = .ok (.aload_n 0, 1) := by decide +kernel
theorem dX6_type_37 : decode cX6_type 37 = .ok (.dup, 1) := by decide +kernel
theorem dX6_type_38 : decode cX6_type 38 = .ok (.getfield 73, 3) := by decide +kernel
theorem dX6_type_41 : decode cX6_type 41 = .ok (.iconst 1, 1) := by decide +kernel
theorem dX6_type_42 : decode cX6_type 42 = .ok (.iadd, 1) := by decide +kernel
theorem dX6_type_43 : decode cX6_type 43 = .ok (.putfield 73, 3) := by decide +kernel
theorem dX6_type_46 : decode cX6_type 46 = .ok (.aload_n 0, 1) := by decide +kernel
theorem dX6_type_47 : decode cX6_type 47 = .ok (.getfield 73, 3) := by decide +kernel
theorem dX6_type_50 : decode cX6_type 50 = .ok (.ireturn, 1) := by decide +kernel
theorem dX6_clear_0 : decode cX6_clear 0 = .ok (.aload_n 0, 1) := by decide +kernel
theorem dX6_clear_1 : decode cX6_clear 1 = .ok (.getfield 73, 3) := by decide +kernel
theorem dX6_clear_4 : decode cX6_clear 4 = .ok (.istore_n 1, 1) := by decide +kernel
theorem dX6_clear_5 : decode cX6_clear 5 = .ok (.aload_n 0, 1) := by decide +kernel
theorem dX6_clear_6 : decode cX6_clear 6 = .ok (.iconst 0, 1) := by decide +kernel
theorem dX6_clear_7 : decode cX6_clear 7 = .ok (.putfield 73, 3) := by decide +kernel
theorem dX6_clear_10 : decode cX6_clear 10 = .ok (.iload_n 1, 1) := by decide +kernel
theorem dX6_clear_11 : decode cX6_clear 11 = .ok (.ireturn, 1) := by decide +kernel
theorem dX6_fraction_0 : decode cX6_fraction 0 = .ok (.aload_n 0, 1) := by decide +kernel
theorem dX6_fraction_1 : decode cX6_fraction 1 = .ok (.invokevirtual 120, 3) := by decide +kernel
theorem dX6_fraction_4 : decode cX6_fraction 4 = .ok (.ifCond .ne 11, 3) := by decide +kernel
theorem dX6_fraction_7 : decode cX6_fraction 7 = .ok (.bipush (-10), 2) := by decide +kernel
theorem dX6_fraction_9 : decode cX6_fraction 9 = .ok (.aload_n 0, 1) := by decide +kernel
theorem dX6_fraction_10 : decode cX6_fraction 10 = .ok (.getfield 76, 3) := by decide +kernel
theorem dX6_fraction_13 : decode cX6_fraction 13 = .ok (.isub, 1) := by decide +kernel
theorem dX6_fraction_14 : decode cX6_fraction 14 = .ok (.ireturn, 1) := by decide +kernel
theorem dX6_fraction_15 : decode cX6_fraction 15 = .ok (.aload_n 0, 1) := by decide +kernel
theorem dX6_fraction_16 : decode cX6_fraction 16 = .ok (.aload_n 0, 1) := by decide +kernel
theorem dX6_fraction_17 : decode cX6_fraction 17 = .ok (.getfield 96, 3) := by decide +kernel
theorem dX6_fraction_20 : decode cX6_fraction 20 = .ok (.putfield 17, 3) := by decide +kernel
theorem dX6_fraction_23 : decode cX6_fraction 23 = .ok (.aload_n 0, 1) := by decide +kernel
theorem dX6_fraction_24 : decode cX6_fraction 24 = .ok (.aload_n 0, 1) := by decide +kernel
theorem dX6_fraction_25 : decode cX6_fraction 25 = .ok (.getfield 99, 3) := by decide +kernel
theorem dX6_fraction_28 : decode cX6_fraction 28 = .ok (.putfield 21, 3) := by decide +kernel
theorem dX6_fraction_31 : decode cX6_fraction 31 = .ok (.aload_n 0, 1) := by decide +kernel
theorem dX6_fraction_32 : decode cX6_fraction 32 = .ok (.getfield 7, 3) := by decide +kernel
theorem dX6_fraction_35 : decode cX6_fraction 35 = .ok (.iconst 0, 1) := by decide +kernel
theorem dX6_fraction_36 : decode cX6_fraction 36 = .ok (.aload_n 0, 1) := by decide +kernel
theorem dX6_fraction_37 : decode cX6_fraction 37 = .ok (.getfield 106, 3) := by decide +kernel
theorem dX6_fraction_40 : decode cX6_fraction 40 = .ok (.iastore, 1) := by decide +kernel
theorem dX6_fraction_41 : decode cX6_fraction 41 = .ok (.iconst 0, 1) := by decide +kernel
theorem dX6_fraction_42 : decode cX6_fraction 42 = .ok (.istore_n 1, 1) := by decide +kernel
theorem dX6_fraction_43 : decode cX6_fraction 43 = .ok (.iload_n 1, 1) := by decide +kernel
theorem dX6_fraction_44 : decode cX6_fraction 44 = .ok (.aload_n 0, 1) := by decide +kernel
theorem dX6_fraction_45 : decode cX6_fraction 45 = .ok (.getfield 106, 3) := by decide +kernel
theorem dX6_fraction_48 : decode cX6_fraction 48 = .ok (.if_icmp .ge 23, 3) := by decide +kernel
theorem dX6_fraction_51 : decode cX6_fraction 51 = .ok (.aload_n 0, 1) := by decide +kernel
theorem dX6_fraction_52 : decode cX6_fraction 52 = .ok (.getfield 7, 3) := by decide +kernel
theorem dX6_fraction_55 : decode cX6_fraction 55 = .ok (.iconst 1, 1) := by decide +kernel
theorem dX6_fraction_56 : decode cX6_fraction 56 = .ok (.iload_n 1, 1) := by decide +kernel
theorem dX6_fraction_57 : decode cX6_fraction 57 = .ok (.iadd, 1) := by decide +kernel
theorem dX6_fraction_58 : decode cX6_fraction 58 = .ok (.aload_n 0, 1) := by decide +kernel
theorem dX6_fraction_59 : decode cX6_fraction 59 = .ok (.getfield 36, 3) := by decide +kernel
theorem dX6_fraction_62 : decode cX6_fraction 62 = .ok (.iload_n 1, 1) := by decide +kernel
theorem dX6_fraction_63 : decode cX6_fraction 63 = .ok (.iaload, 1) := by decide +kernel
theorem dX6_fraction_64 : decode cX6_fraction 64 = .ok (.iastore, 1) := by decide +kernel
theorem dX6_fraction_65 : decode cX6_fraction 65 = .ok (.iinc 1 1, 3) := by decide +kernel
theorem dX6_fraction_68 : decode cX6_fraction 68 = .ok (.goto (-25), 3) := by decide +kernel
theorem dX6_fraction_71 : decode cX6_fraction 71 = .ok (.aload_n 0, 1) := by decide +kernel
theorem dX6_fraction_72 : decode cX6_fraction 72 = .ok (.iconst 0, 1) := by decide +kernel
theorem dX6_fraction_73 : decode cX6_fraction 73 = .ok (.putfield 73, 3) := by decide +kernel
theorem dX6_fraction_76 : decode cX6_fraction 76 = .ok (.aload_n 0, 1) := by decide +kernel
theorem dX6_fraction_77 : decode cX6_fraction 77 = .ok (.iconst 0, 1) := by decide +kernel
theorem dX6_fraction_78 : decode cX6_fraction 78 = .ok (.putfield 55, 3) := by decide +kernel
theorem dX6_fraction_81 : decode cX6_fraction 81 = .ok (.aload_n 0, 1) := by decide +kernel
theorem dX6_fraction_82 : decode cX6_fraction 82 = .ok (.iconst 0, 1) := by decide +kernel
theorem dX6_fraction_83 : decode cX6_fraction 83 = .ok (.putfield 123, 3) := by decide +kernel
theorem dX6_fraction_86 : decode cX6_fraction 86 = .ok (.aload_n 0, 1) := by decide +kernel
theorem dX6_fraction_87 : decode cX6_fraction 87 = .ok (.getfield 13, 3) := by decide +kernel
theorem dX6_fraction_90 : decode cX6_fraction 90 = .ok (.iconst 0, 1) := by decide +kernel
theorem dX6_fraction_91 : decode cX6_fraction 91 = .ok (.iconst 0, 1) := by decide +kernel
theorem dX6_fraction_92 : decode cX6_fraction 92 = .ok (.bastore, 1) := by decide +kernel
theorem dX6_fraction_93 : decode cX6_fraction 93 = .ok (.aload_n 0, 1) := by decide +kernel
theorem dX6_fraction_94 : decode cX6_fraction 94 = .ok (.getfield 13, 3) := by decide +kernel
theorem dX6_fraction_97 : decode cX6_fraction 97 = .ok (.iconst 1, 1) := by decide +kernel
theorem dX6_fraction_98 : decode cX6_fraction 98 = .ok (.iconst 0, 1) := by decide +kernel
theorem dX6_fraction_99 : decode cX6_fraction 99 = .ok (.bastore, 1) := by decide +kernel
theorem dX6_fraction_100 : decode cX6_fraction 100 = .ok (.aload_n 0, 1) := by decide +kernel
theorem dX6_fraction_101 : decode cX6_fraction 101 = .ok (.getfield 89, 3) := by decide +kernel
theorem dX6_fraction_104 : decode cX6_fraction 104 = .ok (.ireturn, 1) := by decide +kernel
theorem dX6_common_0 : decode cX6_common 0 = .ok (.lload_n 0, 1) := by decide +kernel
theorem dX6_common_1 : decode cX6_common 1 = .ok (.lstore 4, 2) := by decide +kernel
theorem dX6_common_3 : decode cX6_common 3 = .ok (.lload_n 2, 1) := by decide +kernel
theorem dX6_common_4 : decode cX6_common 4 = .ok (.lstore 6, 2) := by decide +kernel
theorem dX6_common_6 : decode cX6_common 6 = .ok (.lload 6, 2) := by decide +kernel
theorem dX6_common_8 : decode cX6_common 8 = .ok (.lconst 0, 1) := by decide +kernel
theorem dX6_common_9 : decode cX6_common 9 = .ok (.lcmp, 1) := by decide +kernel
theorem dX6_common_10 : decode cX6_common 10 = .ok (.ifCond .le 21, 3) := by decide +kernel
theorem dX6_common_13 : decode cX6_common 13 = .ok (.lload 4, 2) := by decide +kernel
theorem dX6_common_15 : decode cX6_common 15 = .ok (.lload 6, 2) := by decide +kernel
theorem dX6_common_17 : decode cX6_common 17 = .ok (.lrem, 1) := by decide +kernel
theorem dX6_common_18 : decode cX6_common 18 = .ok (.lstore 8, 2) := by decide +kernel
theorem dX6_common_20 : decode cX6_common 20 = .ok (.lload 6, 2) := by decide +kernel
theorem dX6_common_22 : decode cX6_common 22 = .ok (.lstore 4, 2) := by decide +kernel
theorem dX6_common_24 : decode cX6_common 24 = .ok (.lload 8, 2) := by decide +kernel
theorem dX6_common_26 : decode cX6_common 26 = .ok (.lstore 6, 2) := by decide +kernel
theorem dX6_common_28 : decode cX6_common 28 = .ok (.goto (-22), 3) := by decide +kernel
theorem dX6_common_31 : decode cX6_common 31 = .ok (.lload 4, 2) := by decide +kernel
theorem dX6_common_33 : decode cX6_common 33 = .ok (.lreturn, 1) := by decide +kernel
theorem dX6_least_0 : decode cX6_least 0 = .ok (.aload_n 0, 1) := by decide +kernel
theorem dX6_least_1 : decode cX6_least 1 = .ok (.getfield 17, 3) := by decide +kernel
theorem dX6_least_4 : decode cX6_least 4 = .ok (.i2l, 1) := by decide +kernel
theorem dX6_least_5 : decode cX6_least 5 = .ok (.lstore_n 2, 1) := by decide +kernel
theorem dX6_least_6 : decode cX6_least 6 = .ok (.aload_n 0, 1) := by decide +kernel
theorem dX6_least_7 : decode cX6_least 7 = .ok (.getfield 21, 3) := by decide +kernel
theorem dX6_least_10 : decode cX6_least 10 = .ok (.i2l, 1) := by decide +kernel
theorem dX6_least_11 : decode cX6_least 11 = .ok (.lstore 4, 2) := by decide +kernel
theorem dX6_least_13 : decode cX6_least 13 = .ok (.lconst 0, 1) := by decide +kernel
theorem dX6_least_14 : decode cX6_least 14 = .ok (.lstore 6, 2) := by decide +kernel
theorem dX6_least_16 : decode cX6_least 16 = .ok (.iconst 0, 1) := by decide +kernel
theorem dX6_least_17 : decode cX6_least 17 = .ok (.istore 8, 2) := by decide +kernel
theorem dX6_least_19 : decode cX6_least 19 = .ok (.lload_n 2, 1) := by decide +kernel
theorem dX6_least_20 : decode cX6_least 20 = .ok (.lconst 0, 1) := by decide +kernel
theorem dX6_least_21 : decode cX6_least 21 = .ok (.lcmp, 1) := by decide +kernel
theorem dX6_least_22 : decode cX6_least 22 = .ok (.ifCond .le 133, 3) := by decide +kernel
theorem dX6_least_25 : decode cX6_least 25 = .ok (.lload 4, 2) := by decide +kernel
theorem dX6_least_27 : decode cX6_least 27 = .ok (.lload_n 2, 1) := by decide +kernel
theorem dX6_least_28 : decode cX6_least 28 = .ok (.ladd, 1) := by decide +kernel
theorem dX6_least_29 : decode cX6_least 29 = .ok (.lconst 1, 1) := by decide +kernel
theorem dX6_least_30 : decode cX6_least 30 = .ok (.lsub, 1) := by decide +kernel
theorem dX6_least_31 : decode cX6_least 31 = .ok (.lload_n 2, 1) := by decide +kernel
theorem dX6_least_32 : decode cX6_least 32 = .ok (.ldiv, 1) := by decide +kernel
theorem dX6_least_33 : decode cX6_least 33 = .ok (.lstore 9, 2) := by decide +kernel
theorem dX6_least_35 : decode cX6_least 35 = .ok (.lload 9, 2) := by decide +kernel
theorem dX6_least_37 : decode cX6_least 37 = .ok (.iload_n 1, 1) := by decide +kernel
theorem dX6_least_38 : decode cX6_least 38 = .ok (.iconst 2, 1) := by decide +kernel
theorem dX6_least_39 : decode cX6_least 39 = .ok (.if_icmp .ne 18, 3) := by decide +kernel
theorem dX6_least_42 : decode cX6_least 42 = .ok (.lload 9, 2) := by decide +kernel
theorem dX6_least_44 : decode cX6_least 44 = .ok (.ldc2_w 126, 3) := by decide +kernel
theorem dX6_least_47 : decode cX6_least 47 = .ok (.lrem, 1) := by decide +kernel
theorem dX6_least_48 : decode cX6_least 48 = .ok (.lconst 0, 1) := by decide +kernel
theorem dX6_least_49 : decode cX6_least 49 = .ok (.lcmp, 1) := by decide +kernel
theorem dX6_least_50 : decode cX6_least 50 = .ok (.ifCond .ne 7, 3) := by decide +kernel
theorem dX6_least_53 : decode cX6_least 53 = .ok (.lconst 1, 1) := by decide +kernel
theorem dX6_least_54 : decode cX6_least 54 = .ok (.goto 4, 3) := by decide +kernel
theorem dX6_least_57 : decode cX6_least 57 = .ok (.lconst 0, 1) := by decide +kernel
theorem dX6_least_58 : decode cX6_least 58 = .ok (.ladd, 1) := by decide +kernel
theorem dX6_least_59 : decode cX6_least 59 = .ok (.lstore 9, 2) := by decide +kernel
theorem dX6_least_61 : decode cX6_least 61 = .ok (.lload 9, 2) := by decide +kernel
theorem dX6_least_63 : decode cX6_least 63 = .ok (.lload 6, 2) := by decide +kernel
theorem dX6_least_65 : decode cX6_least 65 = .ok (.lcmp, 1) := by decide +kernel
theorem dX6_least_66 : decode cX6_least 66 = .ok (.ifCond .gt 11, 3) := by decide +kernel
theorem dX6_least_69 : decode cX6_least 69 = .ok (.lload 6, 2) := by decide +kernel
theorem dX6_least_71 : decode cX6_least 71 = .ok (.iload_n 1, 1) := by decide +kernel
theorem dX6_least_72 : decode cX6_least 72 = .ok (.i2l, 1) := by decide +kernel
theorem dX6_least_73 : decode cX6_least 73 = .ok (.ladd, 1) := by decide +kernel
theorem dX6_least_74 : decode cX6_least 74 = .ok (.goto 5, 3) := by decide +kernel
theorem dX6_least_77 : decode cX6_least 77 = .ok (.lload 9, 2) := by decide +kernel
theorem dX6_least_79 : decode cX6_least 79 = .ok (.lstore 9, 2) := by decide +kernel
theorem dX6_least_81 : decode cX6_least 81 = .ok (.iload 8, 2) := by decide +kernel
theorem dX6_least_83 : decode cX6_least 83 = .ok (.bipush 8, 2) := by decide +kernel
theorem dX6_least_85 : decode cX6_least 85 = .ok (.if_icmp .eq 12, 3) := by decide +kernel
theorem dX6_least_88 : decode cX6_least 88 = .ok (.lload 9, 2) := by decide +kernel
theorem dX6_least_90 : decode cX6_least 90 = .ok (.ldc2_w 128, 3) := by decide +kernel
theorem dX6_least_93 : decode cX6_least 93 = .ok (.lcmp, 1) := by decide +kernel
theorem dX6_least_94 : decode cX6_least 94 = .ok (.ifCond .le 6, 3) := by decide +kernel
theorem dX6_least_97 : decode cX6_least 97 = .ok (.bipush (-9), 2) := by decide +kernel
theorem dX6_least_99 : decode cX6_least 99 = .ok (.ireturn, 1) := by decide +kernel
theorem dX6_least_100 : decode cX6_least 100 = .ok (.aload_n 0, 1) := by decide +kernel
theorem dX6_least_101 : decode cX6_least 101 = .ok (.getfield 39, 3) := by decide +kernel
theorem dX6_least_104 : decode cX6_least 104 = .ok (.iload 8, 2) := by decide +kernel
theorem dX6_least_106 : decode cX6_least 106 = .ok (.lload 9, 2) := by decide +kernel
theorem dX6_least_108 : decode cX6_least 108 = .ok (.l2i, 1) := by decide +kernel
theorem dX6_least_109 : decode cX6_least 109 = .ok (.iastore, 1) := by decide +kernel
theorem dX6_least_110 : decode cX6_least 110 = .ok (.iinc 8 1, 3) := by decide +kernel
theorem dX6_least_113 : decode cX6_least 113 = .ok (.lload_n 2, 1) := by decide +kernel
theorem dX6_least_114 : decode cX6_least 114 = .ok (.lload 9, 2) := by decide +kernel
theorem dX6_least_116 : decode cX6_least 116 = .ok (.lmul, 1) := by decide +kernel
theorem dX6_least_117 : decode cX6_least 117 = .ok (.lload 4, 2) := by decide +kernel
theorem dX6_least_119 : decode cX6_least 119 = .ok (.lsub, 1) := by decide +kernel
theorem dX6_least_120 : decode cX6_least 120 = .ok (.lstore_n 2, 1) := by decide +kernel
theorem dX6_least_121 : decode cX6_least 121 = .ok (.lload 4, 2) := by decide +kernel
theorem dX6_least_123 : decode cX6_least 123 = .ok (.lload 9, 2) := by decide +kernel
theorem dX6_least_125 : decode cX6_least 125 = .ok (.lmul, 1) := by decide +kernel
theorem dX6_least_126 : decode cX6_least 126 = .ok (.lstore 4, 2) := by decide +kernel
theorem dX6_least_128 : decode cX6_least 128 = .ok (.lload 4, 2) := by decide +kernel
theorem dX6_least_130 : decode cX6_least 130 = .ok (.lload_n 2, 1) := by decide +kernel
theorem dX6_least_131 : decode cX6_least 131 = .ok (.invokestatic 130, 3) := by decide +kernel
theorem dX6_least_134 : decode cX6_least 134 = .ok (.lstore 11, 2) := by decide +kernel
theorem dX6_least_136 : decode cX6_least 136 = .ok (.lload_n 2, 1) := by decide +kernel
theorem dX6_least_137 : decode cX6_least 137 = .ok (.lload 11, 2) := by decide +kernel
theorem dX6_least_139 : decode cX6_least 139 = .ok (.ldiv, 1) := by decide +kernel
theorem dX6_least_140 : decode cX6_least 140 = .ok (.lstore_n 2, 1) := by decide +kernel
theorem dX6_least_141 : decode cX6_least 141 = .ok (.lload 4, 2) := by decide +kernel
theorem dX6_least_143 : decode cX6_least 143 = .ok (.lload 11, 2) := by decide +kernel
theorem dX6_least_145 : decode cX6_least 145 = .ok (.ldiv, 1) := by decide +kernel
theorem dX6_least_146 : decode cX6_least 146 = .ok (.lstore 4, 2) := by decide +kernel
theorem dX6_least_148 : decode cX6_least 148 = .ok (.lload 9, 2) := by decide +kernel
theorem dX6_least_150 : decode cX6_least 150 = .ok (.lstore 6, 2) := by decide +kernel
theorem dX6_least_152 : decode cX6_least 152 = .ok (.goto (-133), 3) := by decide +kernel
theorem dX6_least_155 : decode cX6_least 155 = .ok (.iload 8, 2) := by decide +kernel
theorem dX6_least_157 : decode cX6_least 157 = .ok (.ireturn, 1) := by decide +kernel
theorem dX6_goesThrough_0 : decode cX6_goesThrough 0 = .ok (.iconst 0, 1) := by decide +kernel
theorem dX6_goesThrough_1 : decode cX6_goesThrough 1 = .ok (.istore 4, 2) := by decide +kernel
theorem dX6_goesThrough_3 : decode cX6_goesThrough 3 = .ok (.iconst 0, 1) := by decide +kernel
theorem dX6_goesThrough_4 : decode cX6_goesThrough 4 = .ok (.istore 5, 2) := by decide +kernel
theorem dX6_goesThrough_6 : decode cX6_goesThrough 6 = .ok (.aload_n 0, 1) := by decide +kernel
theorem dX6_goesThrough_7 : decode cX6_goesThrough 7 = .ok (.bipush (-9), 2) := by decide +kernel
theorem dX6_goesThrough_9 : decode cX6_goesThrough 9 = .ok (.putfield 134, 3) := by decide +kernel
theorem dX6_goesThrough_12 : decode cX6_goesThrough 12 = .ok (.aload_n 0, 1) := by decide +kernel
theorem dX6_goesThrough_13 : decode cX6_goesThrough 13 = .ok (.getfield 42, 3) := by decide +kernel
theorem dX6_goesThrough_16 : decode cX6_goesThrough 16 = .ok (.iconst 0, 1) := by decide +kernel
theorem dX6_goesThrough_17 : decode cX6_goesThrough 17 = .ok (.aload_n 0, 1) := by decide +kernel
theorem dX6_goesThrough_18 : decode cX6_goesThrough 18 = .ok (.getfield 17, 3) := by decide +kernel
theorem dX6_goesThrough_21 : decode cX6_goesThrough 21 = .ok (.i2l, 1) := by decide +kernel
theorem dX6_goesThrough_22 : decode cX6_goesThrough 22 = .ok (.lastore, 1) := by decide +kernel
theorem dX6_goesThrough_23 : decode cX6_goesThrough 23 = .ok (.aload_n 0, 1) := by decide +kernel
theorem dX6_goesThrough_24 : decode cX6_goesThrough 24 = .ok (.getfield 46, 3) := by decide +kernel
theorem dX6_goesThrough_27 : decode cX6_goesThrough 27 = .ok (.iconst 0, 1) := by decide +kernel
theorem dX6_goesThrough_28 : decode cX6_goesThrough 28 = .ok (.aload_n 0, 1) := by decide +kernel
theorem dX6_goesThrough_29 : decode cX6_goesThrough 29 = .ok (.getfield 21, 3) := by decide +kernel
theorem dX6_goesThrough_32 : decode cX6_goesThrough 32 = .ok (.i2l, 1) := by decide +kernel
theorem dX6_goesThrough_33 : decode cX6_goesThrough 33 = .ok (.lastore, 1) := by decide +kernel
theorem dX6_goesThrough_34 : decode cX6_goesThrough 34 = .ok (.aload_n 0, 1) := by decide +kernel
theorem dX6_goesThrough_35 : decode cX6_goesThrough 35 = .ok (.getfield 49, 3) := by decide +kernel
theorem dX6_goesThrough_38 : decode cX6_goesThrough 38 = .ok (.iconst 0, 1) := by decide +kernel
theorem dX6_goesThrough_39 : decode cX6_goesThrough 39 = .ok (.iconst 0, 1) := by decide +kernel
theorem dX6_goesThrough_40 : decode cX6_goesThrough 40 = .ok (.iastore, 1) := by decide +kernel
theorem dX6_goesThrough_41 : decode cX6_goesThrough 41 = .ok (.iload 5, 2) := by decide +kernel
theorem dX6_goesThrough_43 : decode cX6_goesThrough 43 = .ok (.ifCond .lt 273, 3) := by decide +kernel
theorem dX6_goesThrough_46 : decode cX6_goesThrough 46 = .ok (.aload_n 0, 1) := by decide +kernel
theorem dX6_goesThrough_47 : decode cX6_goesThrough 47 = .ok (.getfield 49, 3) := by decide +kernel
theorem dX6_goesThrough_50 : decode cX6_goesThrough 50 = .ok (.iload 5, 2) := by decide +kernel
theorem dX6_goesThrough_52 : decode cX6_goesThrough 52 = .ok (.dup2, 1) := by decide +kernel
theorem dX6_goesThrough_53 : decode cX6_goesThrough 53 = .ok (.iaload, 1) := by decide +kernel
theorem dX6_goesThrough_54 : decode cX6_goesThrough 54 = .ok (.iconst 1, 1) := by decide +kernel
theorem dX6_goesThrough_55 : decode cX6_goesThrough 55 = .ok (.iadd, 1) := by decide +kernel
theorem dX6_goesThrough_56 : decode cX6_goesThrough 56 = .ok (.iastore, 1) := by decide +kernel
theorem dX6_goesThrough_57 : decode cX6_goesThrough 57 = .ok (.aload_n 0, 1) := by decide +kernel
theorem dX6_goesThrough_58 : decode cX6_goesThrough 58 = .ok (.getfield 42, 3) := by decide +kernel
theorem dX6_goesThrough_61 : decode cX6_goesThrough 61 = .ok (.iload 5, 2) := by decide +kernel
theorem dX6_goesThrough_63 : decode cX6_goesThrough 63 = .ok (.laload, 1) := by decide +kernel
theorem dX6_goesThrough_64 : decode cX6_goesThrough 64 = .ok (.lstore 6, 2) := by decide +kernel
theorem dX6_goesThrough_66 : decode cX6_goesThrough 66 = .ok (.aload_n 0, 1) := by decide +kernel
theorem dX6_goesThrough_67 : decode cX6_goesThrough 67 = .ok (.getfield 46, 3) := by decide +kernel
theorem dX6_goesThrough_70 : decode cX6_goesThrough 70 = .ok (.iload 5, 2) := by decide +kernel
theorem dX6_goesThrough_72 : decode cX6_goesThrough 72 = .ok (.laload, 1) := by decide +kernel
theorem dX6_goesThrough_73 : decode cX6_goesThrough 73 = .ok (.lstore 8, 2) := by decide +kernel
theorem dX6_goesThrough_75 : decode cX6_goesThrough 75 = .ok (.aload_n 0, 1) := by decide +kernel
theorem dX6_goesThrough_76 : decode cX6_goesThrough 76 = .ok (.getfield 49, 3) := by decide +kernel
theorem dX6_goesThrough_79 : decode cX6_goesThrough 79 = .ok (.iload 5, 2) := by decide +kernel
theorem dX6_goesThrough_81 : decode cX6_goesThrough 81 = .ok (.iaload, 1) := by decide +kernel
theorem dX6_goesThrough_82 : decode cX6_goesThrough 82 = .ok (.istore 10, 2) := by decide +kernel
theorem dX6_goesThrough_84 : decode cX6_goesThrough 84 = .ok (.iload_n 1, 1) := by decide +kernel
theorem dX6_goesThrough_85 : decode cX6_goesThrough 85 = .ok (.iload 5, 2) := by decide +kernel
theorem dX6_goesThrough_87 : decode cX6_goesThrough 87 = .ok (.isub, 1) := by decide +kernel
theorem dX6_goesThrough_88 : decode cX6_goesThrough 88 = .ok (.istore 11, 2) := by decide +kernel
theorem dX6_goesThrough_90 : decode cX6_goesThrough 90 = .ok (.lload 6, 2) := by decide +kernel
theorem dX6_goesThrough_92 : decode cX6_goesThrough 92 = .ok (.iload 10, 2) := by decide +kernel
theorem dX6_goesThrough_94 : decode cX6_goesThrough 94 = .ok (.i2l, 1) := by decide +kernel
theorem dX6_goesThrough_95 : decode cX6_goesThrough 95 = .ok (.lmul, 1) := by decide +kernel
theorem dX6_goesThrough_96 : decode cX6_goesThrough 96 = .ok (.lload 8, 2) := by decide +kernel
theorem dX6_goesThrough_98 : decode cX6_goesThrough 98 = .ok (.lsub, 1) := by decide +kernel
theorem dX6_goesThrough_99 : decode cX6_goesThrough 99 = .ok (.lstore 12, 2) := by decide +kernel
theorem dX6_goesThrough_101 : decode cX6_goesThrough 101 = .ok (.iload 10, 2) := by decide +kernel
theorem dX6_goesThrough_103 : decode cX6_goesThrough 103 = .ok (.iload_n 2, 1) := by decide +kernel
theorem dX6_goesThrough_104 : decode cX6_goesThrough 104 = .ok (.if_icmp .gt 19, 3) := by decide +kernel
theorem dX6_goesThrough_107 : decode cX6_goesThrough 107 = .ok (.lload 6, 2) := by decide +kernel
theorem dX6_goesThrough_109 : decode cX6_goesThrough 109 = .ok (.iload 10, 2) := by decide +kernel
theorem dX6_goesThrough_111 : decode cX6_goesThrough 111 = .ok (.i2l, 1) := by decide +kernel
theorem dX6_goesThrough_112 : decode cX6_goesThrough 112 = .ok (.lmul, 1) := by decide +kernel
theorem dX6_goesThrough_113 : decode cX6_goesThrough 113 = .ok (.iload 11, 2) := by decide +kernel
theorem dX6_goesThrough_115 : decode cX6_goesThrough 115 = .ok (.i2l, 1) := by decide +kernel
theorem dX6_goesThrough_116 : decode cX6_goesThrough 116 = .ok (.lload 8, 2) := by decide +kernel
theorem dX6_goesThrough_118 : decode cX6_goesThrough 118 = .ok (.lmul, 1) := by decide +kernel
theorem dX6_goesThrough_119 : decode cX6_goesThrough 119 = .ok (.lcmp, 1) := by decide +kernel
theorem dX6_goesThrough_120 : decode cX6_goesThrough 120 = .ok (.ifCond .le 9, 3) := by decide +kernel
theorem dX6_goesThrough_123 : decode cX6_goesThrough 123 = .ok (.iinc 5 (-1), 3) := by decide +kernel
theorem dX6_goesThrough_126 : decode cX6_goesThrough 126 = .ok (.goto 187, 3) := by decide +kernel
theorem dX6_goesThrough_129 : decode cX6_goesThrough 129 = .ok (.iload 11, 2) := by decide +kernel
theorem dX6_goesThrough_131 : decode cX6_goesThrough 131 = .ok (.iconst 1, 1) := by decide +kernel
theorem dX6_goesThrough_132 : decode cX6_goesThrough 132 = .ok (.if_icmp .ne 92, 3) := by decide +kernel
theorem dX6_goesThrough_135 : decode cX6_goesThrough 135 = .ok (.lload 12, 2) := by decide +kernel
theorem dX6_goesThrough_137 : decode cX6_goesThrough 137 = .ok (.lconst 0, 1) := by decide +kernel
theorem dX6_goesThrough_138 : decode cX6_goesThrough 138 = .ok (.lcmp, 1) := by decide +kernel
theorem dX6_goesThrough_139 : decode cX6_goesThrough 139 = .ok (.ifCond .ne 85, 3) := by decide +kernel
theorem dX6_goesThrough_142 : decode cX6_goesThrough 142 = .ok (.iconst 0, 1) := by decide +kernel
theorem dX6_goesThrough_143 : decode cX6_goesThrough 143 = .ok (.istore 14, 2) := by decide +kernel
theorem dX6_goesThrough_145 : decode cX6_goesThrough 145 = .ok (.iload 14, 2) := by decide +kernel
theorem dX6_goesThrough_147 : decode cX6_goesThrough 147 = .ok (.iload_n 1, 1) := by decide +kernel
theorem dX6_goesThrough_148 : decode cX6_goesThrough 148 = .ok (.if_icmp .ge 39, 3) := by decide +kernel
theorem dX6_goesThrough_151 : decode cX6_goesThrough 151 = .ok (.aload_n 0, 1) := by decide +kernel
theorem dX6_goesThrough_152 : decode cX6_goesThrough 152 = .ok (.getfield 52, 3) := by decide +kernel
theorem dX6_goesThrough_155 : decode cX6_goesThrough 155 = .ok (.iload 14, 2) := by decide +kernel
theorem dX6_goesThrough_157 : decode cX6_goesThrough 157 = .ok (.iload 4, 2) := by decide +kernel
theorem dX6_goesThrough_159 : decode cX6_goesThrough 159 = .ok (.iload_n 3, 1) := by decide +kernel
theorem dX6_goesThrough_160 : decode cX6_goesThrough 160 = .ok (.if_icmp .ne 13, 3) := by decide +kernel
theorem dX6_goesThrough_163 : decode cX6_goesThrough 163 = .ok (.aload_n 0, 1) := by decide +kernel
theorem dX6_goesThrough_164 : decode cX6_goesThrough 164 = .ok (.getfield 49, 3) := by decide +kernel
theorem dX6_goesThrough_167 : decode cX6_goesThrough 167 = .ok (.iload 14, 2) := by decide +kernel
theorem dX6_goesThrough_169 : decode cX6_goesThrough 169 = .ok (.iaload, 1) := by decide +kernel
theorem dX6_goesThrough_170 : decode cX6_goesThrough 170 = .ok (.goto 10, 3) := by decide +kernel
theorem dX6_goesThrough_173 : decode cX6_goesThrough 173 = .ok (.aload_n 0, 1) := by decide +kernel
theorem dX6_goesThrough_174 : decode cX6_goesThrough 174 = .ok (.getfield 52, 3) := by decide +kernel
theorem dX6_goesThrough_177 : decode cX6_goesThrough 177 = .ok (.iload 14, 2) := by decide +kernel
theorem dX6_goesThrough_179 : decode cX6_goesThrough 179 = .ok (.iaload, 1) := by decide +kernel
theorem dX6_goesThrough_180 : decode cX6_goesThrough 180 = .ok (.iastore, 1) := by decide +kernel
theorem dX6_goesThrough_181 : decode cX6_goesThrough 181 = .ok (.iinc 14 1, 3) := by decide +kernel
theorem dX6_goesThrough_184 : decode cX6_goesThrough 184 = .ok (.goto (-39), 3) := by decide +kernel
theorem dX6_goesThrough_187 : decode cX6_goesThrough 187 = .ok (.aload_n 0, 1) := by decide +kernel
theorem dX6_goesThrough_188 : decode cX6_goesThrough 188 = .ok (.aload_n 0, 1) := by decide +kernel
theorem dX6_goesThrough_189 : decode cX6_goesThrough 189 = .ok (.getfield 134, 3) := by decide +kernel
theorem dX6_goesThrough_192 : decode cX6_goesThrough 192 = .ok (.bipush (-9), 2) := by decide +kernel
theorem dX6_goesThrough_194 : decode cX6_goesThrough 194 = .ok (.if_icmp .eq 12, 3) := by decide +kernel
theorem dX6_goesThrough_197 : decode cX6_goesThrough 197 = .ok (.iload 10, 2) := by decide +kernel
theorem dX6_goesThrough_199 : decode cX6_goesThrough 199 = .ok (.aload_n 0, 1) := by decide +kernel
theorem dX6_goesThrough_200 : decode cX6_goesThrough 200 = .ok (.getfield 134, 3) := by decide +kernel
theorem dX6_goesThrough_203 : decode cX6_goesThrough 203 = .ok (.if_icmp .ge 8, 3) := by decide +kernel
theorem dX6_goesThrough_206 : decode cX6_goesThrough 206 = .ok (.iload 10, 2) := by decide +kernel
theorem dX6_goesThrough_208 : decode cX6_goesThrough 208 = .ok (.goto 7, 3) := by decide +kernel
theorem dX6_goesThrough_211 : decode cX6_goesThrough 211 = .ok (.aload_n 0, 1) := by decide +kernel
theorem dX6_goesThrough_212 : decode cX6_goesThrough 212 = .ok (.getfield 134, 3) := by decide +kernel
theorem dX6_goesThrough_215 : decode cX6_goesThrough 215 = .ok (.putfield 134, 3) := by decide +kernel
theorem dX6_goesThrough_218 : decode cX6_goesThrough 218 = .ok (.iinc 4 1, 3) := by decide +kernel
theorem dX6_goesThrough_221 : decode cX6_goesThrough 221 = .ok (.goto 92, 3) := by decide +kernel
theorem dX6_goesThrough_224 : decode cX6_goesThrough 224 = .ok (.iload 11, 2) := by decide +kernel
theorem dX6_goesThrough_226 : decode cX6_goesThrough 226 = .ok (.iconst 1, 1) := by decide +kernel
theorem dX6_goesThrough_227 : decode cX6_goesThrough 227 = .ok (.if_icmp .le 86, 3) := by decide +kernel
theorem dX6_goesThrough_230 : decode cX6_goesThrough 230 = .ok (.lload 12, 2) := by decide +kernel
theorem dX6_goesThrough_232 : decode cX6_goesThrough 232 = .ok (.lconst 0, 1) := by decide +kernel
theorem dX6_goesThrough_233 : decode cX6_goesThrough 233 = .ok (.lcmp, 1) := by decide +kernel
theorem dX6_goesThrough_234 : decode cX6_goesThrough 234 = .ok (.ifCond .le 79, 3) := by decide +kernel
theorem dX6_goesThrough_237 : decode cX6_goesThrough 237 = .ok (.iinc 5 1, 3) := by decide +kernel
theorem dX6_goesThrough_240 : decode cX6_goesThrough 240 = .ok (.aload_n 0, 1) := by decide +kernel
theorem dX6_goesThrough_241 : decode cX6_goesThrough 241 = .ok (.getfield 42, 3) := by decide +kernel
theorem dX6_goesThrough_244 : decode cX6_goesThrough 244 = .ok (.iload 5, 2) := by decide +kernel
theorem dX6_goesThrough_246 : decode cX6_goesThrough 246 = .ok (.lload 12, 2) := by decide +kernel
theorem dX6_goesThrough_248 : decode cX6_goesThrough 248 = .ok (.lastore, 1) := by decide +kernel
theorem dX6_goesThrough_249 : decode cX6_goesThrough 249 = .ok (.aload_n 0, 1) := by decide +kernel
theorem dX6_goesThrough_250 : decode cX6_goesThrough 250 = .ok (.getfield 46, 3) := by decide +kernel
theorem dX6_goesThrough_253 : decode cX6_goesThrough 253 = .ok (.iload 5, 2) := by decide +kernel
theorem dX6_goesThrough_255 : decode cX6_goesThrough 255 = .ok (.lload 8, 2) := by decide +kernel
theorem dX6_goesThrough_257 : decode cX6_goesThrough 257 = .ok (.iload 10, 2) := by decide +kernel
theorem dX6_goesThrough_259 : decode cX6_goesThrough 259 = .ok (.i2l, 1) := by decide +kernel
theorem dX6_goesThrough_260 : decode cX6_goesThrough 260 = .ok (.lmul, 1) := by decide +kernel
theorem dX6_goesThrough_261 : decode cX6_goesThrough 261 = .ok (.lastore, 1) := by decide +kernel
theorem dX6_goesThrough_262 : decode cX6_goesThrough 262 = .ok (.lload 8, 2) := by decide +kernel
theorem dX6_goesThrough_264 : decode cX6_goesThrough 264 = .ok (.iload 10, 2) := by decide +kernel
theorem dX6_goesThrough_266 : decode cX6_goesThrough 266 = .ok (.i2l, 1) := by decide +kernel
theorem dX6_goesThrough_267 : decode cX6_goesThrough 267 = .ok (.lmul, 1) := by decide +kernel
theorem dX6_goesThrough_268 : decode cX6_goesThrough 268 = .ok (.lload 12, 2) := by decide +kernel
theorem dX6_goesThrough_270 : decode cX6_goesThrough 270 = .ok (.ldiv, 1) := by decide +kernel
theorem dX6_goesThrough_271 : decode cX6_goesThrough 271 = .ok (.lconst 1, 1) := by decide +kernel
theorem dX6_goesThrough_272 : decode cX6_goesThrough 272 = .ok (.lsub, 1) := by decide +kernel
theorem dX6_goesThrough_273 : decode cX6_goesThrough 273 = .ok (.lstore 14, 2) := by decide +kernel
theorem dX6_goesThrough_275 : decode cX6_goesThrough 275 = .ok (.aload_n 0, 1) := by decide +kernel
theorem dX6_goesThrough_276 : decode cX6_goesThrough 276 = .ok (.getfield 49, 3) := by decide +kernel
theorem dX6_goesThrough_279 : decode cX6_goesThrough 279 = .ok (.iload 5, 2) := by decide +kernel
theorem dX6_goesThrough_281 : decode cX6_goesThrough 281 = .ok (.lload 14, 2) := by decide +kernel
theorem dX6_goesThrough_283 : decode cX6_goesThrough 283 = .ok (.iload 10, 2) := by decide +kernel
theorem dX6_goesThrough_285 : decode cX6_goesThrough 285 = .ok (.i2l, 1) := by decide +kernel
theorem dX6_goesThrough_286 : decode cX6_goesThrough 286 = .ok (.lcmp, 1) := by decide +kernel
theorem dX6_goesThrough_287 : decode cX6_goesThrough 287 = .ok (.ifCond .le 23, 3) := by decide +kernel
theorem dX6_goesThrough_290 : decode cX6_goesThrough 290 = .ok (.lload 14, 2) := by decide +kernel
theorem dX6_goesThrough_292 : decode cX6_goesThrough 292 = .ok (.ldc2_w 137, 3) := by decide +kernel
theorem dX6_goesThrough_295 : decode cX6_goesThrough 295 = .ok (.lcmp, 1) := by decide +kernel
theorem dX6_goesThrough_296 : decode cX6_goesThrough 296 = .ok (.ifCond .le 8, 3) := by decide +kernel
theorem dX6_goesThrough_299 : decode cX6_goesThrough 299 = .ok (.bipush 60, 2) := by decide +kernel
theorem dX6_goesThrough_301 : decode cX6_goesThrough 301 = .ok (.goto 11, 3) := by decide +kernel
theorem dX6_goesThrough_304 : decode cX6_goesThrough 304 = .ok (.lload 14, 2) := by decide +kernel
theorem dX6_goesThrough_306 : decode cX6_goesThrough 306 = .ok (.l2i, 1) := by decide +kernel
theorem dX6_goesThrough_307 : decode cX6_goesThrough 307 = .ok (.goto 5, 3) := by decide +kernel
theorem dX6_goesThrough_310 : decode cX6_goesThrough 310 = .ok (.iload 10, 2) := by decide +kernel
theorem dX6_goesThrough_312 : decode cX6_goesThrough 312 = .ok (.iastore, 1) := by decide +kernel
theorem dX6_goesThrough_313 : decode cX6_goesThrough 313 = .ok (.goto (-272), 3) := by decide +kernel
theorem dX6_goesThrough_316 : decode cX6_goesThrough 316 = .ok (.iload 4, 2) := by decide +kernel
theorem dX6_goesThrough_318 : decode cX6_goesThrough 318 = .ok (.ireturn, 1) := by decide +kernel
theorem dX6_few_0 : decode cX6_few 0 = .ok (.iconst 1, 1) := by decide +kernel
theorem dX6_few_1 : decode cX6_few 1 = .ok (.istore_n 2, 1) := by decide +kernel
theorem dX6_few_2 : decode cX6_few 2 = .ok (.iload_n 2, 1) := by decide +kernel
theorem dX6_few_3 : decode cX6_few 3 = .ok (.iconst 5, 1) := by decide +kernel
theorem dX6_few_4 : decode cX6_few 4 = .ok (.if_icmp .gt 22, 3) := by decide +kernel
theorem dX6_few_7 : decode cX6_few 7 = .ok (.aload_n 0, 1) := by decide +kernel
theorem dX6_few_8 : decode cX6_few 8 = .ok (.iload_n 2, 1) := by decide +kernel
theorem dX6_few_9 : decode cX6_few 9 = .ok (.iload_n 1, 1) := by decide +kernel
theorem dX6_few_10 : decode cX6_few 10 = .ok (.bipush (-9), 2) := by decide +kernel
theorem dX6_few_12 : decode cX6_few 12 = .ok (.invokevirtual 139, 3) := by decide +kernel
theorem dX6_few_15 : decode cX6_few 15 = .ok (.ifCond .le 5, 3) := by decide +kernel
theorem dX6_few_18 : decode cX6_few 18 = .ok (.iload_n 2, 1) := by decide +kernel
theorem dX6_few_19 : decode cX6_few 19 = .ok (.ireturn, 1) := by decide +kernel
theorem dX6_few_20 : decode cX6_few 20 = .ok (.iinc 2 1, 3) := by decide +kernel
theorem dX6_few_23 : decode cX6_few 23 = .ok (.goto (-21), 3) := by decide +kernel
theorem dX6_few_26 : decode cX6_few 26 = .ok (.bipush (-9), 2) := by decide +kernel
theorem dX6_few_28 : decode cX6_few 28 = .ok (.ireturn, 1) := by decide +kernel
theorem dX6_top_0 : decode cX6_top 0 = .ok (.aload_n 0, 1) := by decide +kernel
theorem dX6_top_1 : decode cX6_top 1 = .ok (.iload_n 1, 1) := by decide +kernel
theorem dX6_top_2 : decode cX6_top 2 = .ok (.bipush 60, 2) := by decide +kernel
theorem dX6_top_4 : decode cX6_top 4 = .ok (.bipush (-9), 2) := by decide +kernel
theorem dX6_top_6 : decode cX6_top 6 = .ok (.invokevirtual 139, 3) := by decide +kernel
theorem dX6_top_9 : decode cX6_top 9 = .ok (.pop, 1) := by decide +kernel
theorem dX6_top_10 : decode cX6_top 10 = .ok (.aload_n 0, 1) := by decide +kernel
theorem dX6_top_11 : decode cX6_top 11 = .ok (.getfield 134, 3) := by decide +kernel
theorem dX6_top_14 : decode cX6_top 14 = .ok (.ireturn, 1) := by decide +kernel
theorem dX6_firstOf_0 : decode cX6_firstOf 0 = .ok (.iload_n 1, 1) := by decide +kernel
theorem dX6_firstOf_1 : decode cX6_firstOf 1 = .ok (.bipush (-9), 2) := by decide +kernel
theorem dX6_firstOf_3 : decode cX6_firstOf 3 = .ok (.if_icmp .ne 6, 3) := by decide +kernel
theorem dX6_firstOf_6 : decode cX6_firstOf 6 = .ok (.bipush (-9), 2) := by decide +kernel
theorem dX6_firstOf_8 : decode cX6_firstOf 8 = .ok (.ireturn, 1) := by decide +kernel
theorem dX6_firstOf_9 : decode cX6_firstOf 9 = .ok (.aload_n 0, 1) := by decide +kernel
theorem dX6_firstOf_10 : decode cX6_firstOf 10 = .ok (.iload_n 1, 1) := by decide +kernel
theorem dX6_firstOf_11 : decode cX6_firstOf 11 = .ok (.iload_n 2, 1) := by decide +kernel
theorem dX6_firstOf_12 : decode cX6_firstOf 12 = .ok (.iconst 0, 1) := by decide +kernel
theorem dX6_firstOf_13 : decode cX6_firstOf 13 = .ok (.invokevirtual 139, 3) := by decide +kernel
theorem dX6_firstOf_16 : decode cX6_firstOf 16 = .ok (.pop, 1) := by decide +kernel
theorem dX6_firstOf_17 : decode cX6_firstOf 17 = .ok (.iconst 0, 1) := by decide +kernel
theorem dX6_firstOf_18 : decode cX6_firstOf 18 = .ok (.istore_n 3, 1) := by decide +kernel
theorem dX6_firstOf_19 : decode cX6_firstOf 19 = .ok (.iload_n 3, 1) := by decide +kernel
theorem dX6_firstOf_20 : decode cX6_firstOf 20 = .ok (.iload_n 1, 1) := by decide +kernel
theorem dX6_firstOf_21 : decode cX6_firstOf 21 = .ok (.if_icmp .ge 21, 3) := by decide +kernel
theorem dX6_firstOf_24 : decode cX6_firstOf 24 = .ok (.aload_n 0, 1) := by decide +kernel
theorem dX6_firstOf_25 : decode cX6_firstOf 25 = .ok (.getfield 39, 3) := by decide +kernel
theorem dX6_firstOf_28 : decode cX6_firstOf 28 = .ok (.iload_n 3, 1) := by decide +kernel
theorem dX6_firstOf_29 : decode cX6_firstOf 29 = .ok (.aload_n 0, 1) := by decide +kernel
theorem dX6_firstOf_30 : decode cX6_firstOf 30 = .ok (.getfield 52, 3) := by decide +kernel
theorem dX6_firstOf_33 : decode cX6_firstOf 33 = .ok (.iload_n 3, 1) := by decide +kernel
theorem dX6_firstOf_34 : decode cX6_firstOf 34 = .ok (.iaload, 1) := by decide +kernel
theorem dX6_firstOf_35 : decode cX6_firstOf 35 = .ok (.iastore, 1) := by decide +kernel
theorem dX6_firstOf_36 : decode cX6_firstOf 36 = .ok (.iinc 3 1, 3) := by decide +kernel
theorem dX6_firstOf_39 : decode cX6_firstOf 39 = .ok (.goto (-20), 3) := by decide +kernel
theorem dX6_firstOf_42 : decode cX6_firstOf 42 = .ok (.iload_n 1, 1) := by decide +kernel
theorem dX6_firstOf_43 : decode cX6_firstOf 43 = .ok (.ireturn, 1) := by decide +kernel
theorem dX6_byLeastTop_0 : decode cX6_byLeastTop 0 = .ok (.bipush (-9), 2) := by decide +kernel
theorem dX6_byLeastTop_2 : decode cX6_byLeastTop 2 = .ok (.istore_n 1, 1) := by decide +kernel
theorem dX6_byLeastTop_3 : decode cX6_byLeastTop 3 = .ok (.bipush 61, 2) := by decide +kernel
theorem dX6_byLeastTop_5 : decode cX6_byLeastTop 5 = .ok (.istore_n 2, 1) := by decide +kernel
theorem dX6_byLeastTop_6 : decode cX6_byLeastTop 6 = .ok (.iconst 1, 1) := by decide +kernel
theorem dX6_byLeastTop_7 : decode cX6_byLeastTop 7 = .ok (.istore_n 3, 1) := by decide +kernel
theorem dX6_byLeastTop_8 : decode cX6_byLeastTop 8 = .ok (.iload_n 3, 1) := by decide +kernel
theorem dX6_byLeastTop_9 : decode cX6_byLeastTop 9 = .ok (.iconst 5, 1) := by decide +kernel
theorem dX6_byLeastTop_10 : decode cX6_byLeastTop 10 = .ok (.if_icmp .gt 34, 3) := by decide +kernel
theorem dX6_byLeastTop_13 : decode cX6_byLeastTop 13 = .ok (.aload_n 0, 1) := by decide +kernel
theorem dX6_byLeastTop_14 : decode cX6_byLeastTop 14 = .ok (.iload_n 3, 1) := by decide +kernel
theorem dX6_byLeastTop_15 : decode cX6_byLeastTop 15 = .ok (.invokevirtual 143, 3) := by decide +kernel
theorem dX6_byLeastTop_18 : decode cX6_byLeastTop 18 = .ok (.istore 4, 2) := by decide +kernel
theorem dX6_byLeastTop_20 : decode cX6_byLeastTop 20 = .ok (.iload 4, 2) := by decide +kernel
theorem dX6_byLeastTop_22 : decode cX6_byLeastTop 22 = .ok (.bipush (-9), 2) := by decide +kernel
theorem dX6_byLeastTop_24 : decode cX6_byLeastTop 24 = .ok (.if_icmp .eq 14, 3) := by decide +kernel
theorem dX6_byLeastTop_27 : decode cX6_byLeastTop 27 = .ok (.iload 4, 2) := by decide +kernel
theorem dX6_byLeastTop_29 : decode cX6_byLeastTop 29 = .ok (.iload_n 2, 1) := by decide +kernel
theorem dX6_byLeastTop_30 : decode cX6_byLeastTop 30 = .ok (.if_icmp .ge 8, 3) := by decide +kernel
theorem dX6_byLeastTop_33 : decode cX6_byLeastTop 33 = .ok (.iload_n 3, 1) := by decide +kernel
theorem dX6_byLeastTop_34 : decode cX6_byLeastTop 34 = .ok (.istore_n 1, 1) := by decide +kernel
theorem dX6_byLeastTop_35 : decode cX6_byLeastTop 35 = .ok (.iload 4, 2) := by decide +kernel
theorem dX6_byLeastTop_37 : decode cX6_byLeastTop 37 = .ok (.istore_n 2, 1) := by decide +kernel
theorem dX6_byLeastTop_38 : decode cX6_byLeastTop 38 = .ok (.iinc 3 1, 3) := by decide +kernel
theorem dX6_byLeastTop_41 : decode cX6_byLeastTop 41 = .ok (.goto (-33), 3) := by decide +kernel
theorem dX6_byLeastTop_44 : decode cX6_byLeastTop 44 = .ok (.aload_n 0, 1) := by decide +kernel
theorem dX6_byLeastTop_45 : decode cX6_byLeastTop 45 = .ok (.iload_n 1, 1) := by decide +kernel
theorem dX6_byLeastTop_46 : decode cX6_byLeastTop 46 = .ok (.iload_n 2, 1) := by decide +kernel
theorem dX6_byLeastTop_47 : decode cX6_byLeastTop 47 = .ok (.invokevirtual 147, 3) := by decide +kernel
theorem dX6_byLeastTop_50 : decode cX6_byLeastTop 50 = .ok (.ireturn, 1) := by decide +kernel
theorem dX6_greedy_0 : decode cX6_greedy 0 = .ok (.iload_n 1, 1) := by decide +kernel
theorem dX6_greedy_1 : decode cX6_greedy 1 = .ok (.i2l, 1) := by decide +kernel
theorem dX6_greedy_2 : decode cX6_greedy 2 = .ok (.lconst 0, 1) := by decide +kernel
theorem dX6_greedy_3 : decode cX6_greedy 3 = .ok (.lconst 1, 1) := by decide +kernel
theorem dX6_greedy_4 : decode cX6_greedy 4 = .ok (.invokestatic 66, 3) := by decide +kernel
theorem dX6_greedy_7 : decode cX6_greedy 7 = .ok (.ifCond .eq 8, 3) := by decide +kernel
theorem dX6_greedy_10 : decode cX6_greedy 10 = .ok (.iload_n 2, 1) := by decide +kernel
theorem dX6_greedy_11 : decode cX6_greedy 11 = .ok (.iconst (-1), 1) := by decide +kernel
theorem dX6_greedy_12 : decode cX6_greedy 12 = .ok (.if_icmp .ge 5, 3) := by decide +kernel
theorem dX6_greedy_15 : decode cX6_greedy 15 = .ok (.iconst (-1), 1) := by decide +kernel
theorem dX6_greedy_16 : decode cX6_greedy 16 = .ok (.ireturn, 1) := by decide +kernel
theorem dX6_greedy_17 : decode cX6_greedy 17 = .ok (.aload_n 0, 1) := by decide +kernel
theorem dX6_greedy_18 : decode cX6_greedy 18 = .ok (.iload_n 1, 1) := by decide +kernel
theorem dX6_greedy_19 : decode cX6_greedy 19 = .ok (.iconst 1, 1) := by decide +kernel
theorem dX6_greedy_20 : decode cX6_greedy 20 = .ok (.iadd, 1) := by decide +kernel
theorem dX6_greedy_21 : decode cX6_greedy 21 = .ok (.invokevirtual 151, 3) := by decide +kernel
theorem dX6_greedy_24 : decode cX6_greedy 24 = .ok (.istore_n 3, 1) := by decide +kernel
theorem dX6_greedy_25 : decode cX6_greedy 25 = .ok (.iload_n 2, 1) := by decide +kernel
theorem dX6_greedy_26 : decode cX6_greedy 26 = .ok (.ifCond .ge 7, 3) := by decide +kernel
theorem dX6_greedy_29 : decode cX6_greedy 29 = .ok (.iload_n 3, 1) := by decide +kernel
theorem dX6_greedy_30 : decode cX6_greedy 30 = .ok (.goto 19, 3) := by decide +kernel
theorem dX6_greedy_33 : decode cX6_greedy 33 = .ok (.iload_n 2, 1) := by decide +kernel
theorem dX6_greedy_34 : decode cX6_greedy 34 = .ok (.iload_n 3, 1) := by decide +kernel
theorem dX6_greedy_35 : decode cX6_greedy 35 = .ok (.if_icmp .ge 12, 3) := by decide +kernel
theorem dX6_greedy_38 : decode cX6_greedy 38 = .ok (.aload_n 0, 1) := by decide +kernel
theorem dX6_greedy_39 : decode cX6_greedy 39 = .ok (.getfield 39, 3) := by decide +kernel
theorem dX6_greedy_42 : decode cX6_greedy 42 = .ok (.iload_n 2, 1) := by decide +kernel
theorem dX6_greedy_43 : decode cX6_greedy 43 = .ok (.iaload, 1) := by decide +kernel
theorem dX6_greedy_44 : decode cX6_greedy 44 = .ok (.goto 5, 3) := by decide +kernel
theorem dX6_greedy_47 : decode cX6_greedy 47 = .ok (.bipush (-9), 2) := by decide +kernel
theorem dX6_greedy_49 : decode cX6_greedy 49 = .ok (.ireturn, 1) := by decide +kernel
theorem dX6_sums_0 : decode cX6_sums 0 = .ok (.iload_n 1, 1) := by decide +kernel
theorem dX6_sums_1 : decode cX6_sums 1 = .ok (.i2l, 1) := by decide +kernel
theorem dX6_sums_2 : decode cX6_sums 2 = .ok (.lconst 1, 1) := by decide +kernel
theorem dX6_sums_3 : decode cX6_sums 3 = .ok (.ldc2_w 154, 3) := by decide +kernel
theorem dX6_sums_6 : decode cX6_sums 6 = .ok (.invokestatic 66, 3) := by decide +kernel
theorem dX6_sums_9 : decode cX6_sums 9 = .ok (.ifCond .eq 15, 3) := by decide +kernel
theorem dX6_sums_12 : decode cX6_sums 12 = .ok (.iload_n 2, 1) := by decide +kernel
theorem dX6_sums_13 : decode cX6_sums 13 = .ok (.i2l, 1) := by decide +kernel
theorem dX6_sums_14 : decode cX6_sums 14 = .ok (.lconst 1, 1) := by decide +kernel
theorem dX6_sums_15 : decode cX6_sums 15 = .ok (.ldc2_w 137, 3) := by decide +kernel
theorem dX6_sums_18 : decode cX6_sums 18 = .ok (.invokestatic 66, 3) := by decide +kernel
theorem dX6_sums_21 : decode cX6_sums 21 = .ok (.ifCond .ne 7, 3) := by decide +kernel
theorem dX6_sums_24 : decode cX6_sums 24 = .ok (.iconst (-1), 1) := by decide +kernel
theorem dX6_sums_25 : decode cX6_sums 25 = .ok (.goto 11, 3) := by decide +kernel
theorem dX6_sums_28 : decode cX6_sums 28 = .ok (.aload_n 0, 1) := by decide +kernel
theorem dX6_sums_29 : decode cX6_sums 29 = .ok (.iload_n 1, 1) := by decide +kernel
theorem dX6_sums_30 : decode cX6_sums 30 = .ok (.iload_n 2, 1) := by decide +kernel
theorem dX6_sums_31 : decode cX6_sums 31 = .ok (.bipush (-9), 2) := by decide +kernel
theorem dX6_sums_33 : decode cX6_sums 33 = .ok (.invokevirtual 139, 3) := by decide +kernel
theorem dX6_sums_36 : decode cX6_sums 36 = .ok (.ireturn, 1) := by decide +kernel
theorem dX6_sum_0 : decode cX6_sum 0 = .ok (.iload_n 1, 1) := by decide +kernel
theorem dX6_sum_1 : decode cX6_sum 1 = .ok (.i2l, 1) := by decide +kernel
theorem dX6_sum_2 : decode cX6_sum 2 = .ok (.lconst 1, 1) := by decide +kernel
theorem dX6_sum_3 : decode cX6_sum 3 = .ok (.ldc2_w 154, 3) := by decide +kernel
theorem dX6_sum_6 : decode cX6_sum 6 = .ok (.invokestatic 66, 3) := by decide +kernel
theorem dX6_sum_9 : decode cX6_sum 9 = .ok (.ifCond .eq 24, 3) := by decide +kernel
theorem dX6_sum_12 : decode cX6_sum 12 = .ok (.iload_n 2, 1) := by decide +kernel
theorem dX6_sum_13 : decode cX6_sum 13 = .ok (.i2l, 1) := by decide +kernel
theorem dX6_sum_14 : decode cX6_sum 14 = .ok (.lconst 1, 1) := by decide +kernel
theorem dX6_sum_15 : decode cX6_sum 15 = .ok (.ldc2_w 137, 3) := by decide +kernel
theorem dX6_sum_18 : decode cX6_sum 18 = .ok (.invokestatic 66, 3) := by decide +kernel
theorem dX6_sum_21 : decode cX6_sum 21 = .ok (.ifCond .eq 12, 3) := by decide +kernel
theorem dX6_sum_24 : decode cX6_sum 24 = .ok (.iload_n 3, 1) := by decide +kernel
theorem dX6_sum_25 : decode cX6_sum 25 = .ok (.ifCond .lt 8, 3) := by decide +kernel
theorem dX6_sum_28 : decode cX6_sum 28 = .ok (.iload 4, 2) := by decide +kernel
theorem dX6_sum_30 : decode cX6_sum 30 = .ok (.ifCond .ge 5, 3) := by decide +kernel
theorem dX6_sum_33 : decode cX6_sum 33 = .ok (.iconst (-1), 1) := by decide +kernel
theorem dX6_sum_34 : decode cX6_sum 34 = .ok (.ireturn, 1) := by decide +kernel
theorem dX6_sum_35 : decode cX6_sum 35 = .ok (.aload_n 0, 1) := by decide +kernel
theorem dX6_sum_36 : decode cX6_sum 36 = .ok (.iload_n 1, 1) := by decide +kernel
theorem dX6_sum_37 : decode cX6_sum 37 = .ok (.iload_n 2, 1) := by decide +kernel
theorem dX6_sum_38 : decode cX6_sum 38 = .ok (.iload_n 3, 1) := by decide +kernel
theorem dX6_sum_39 : decode cX6_sum 39 = .ok (.invokevirtual 139, 3) := by decide +kernel
theorem dX6_sum_42 : decode cX6_sum 42 = .ok (.iload_n 3, 1) := by decide +kernel
theorem dX6_sum_43 : decode cX6_sum 43 = .ok (.if_icmp .le 19, 3) := by decide +kernel
theorem dX6_sum_46 : decode cX6_sum 46 = .ok (.iload 4, 2) := by decide +kernel
theorem dX6_sum_48 : decode cX6_sum 48 = .ok (.iload_n 1, 1) := by decide +kernel
theorem dX6_sum_49 : decode cX6_sum 49 = .ok (.if_icmp .ge 13, 3) := by decide +kernel
theorem dX6_sum_52 : decode cX6_sum 52 = .ok (.aload_n 0, 1) := by decide +kernel
theorem dX6_sum_53 : decode cX6_sum 53 = .ok (.getfield 52, 3) := by decide +kernel
theorem dX6_sum_56 : decode cX6_sum 56 = .ok (.iload 4, 2) := by decide +kernel
theorem dX6_sum_58 : decode cX6_sum 58 = .ok (.iaload, 1) := by decide +kernel
theorem dX6_sum_59 : decode cX6_sum 59 = .ok (.goto 5, 3) := by decide +kernel
theorem dX6_sum_62 : decode cX6_sum 62 = .ok (.bipush (-9), 2) := by decide +kernel
theorem dX6_sum_64 : decode cX6_sum 64 = .ok (.ireturn, 1) := by decide +kernel
theorem dX6_fewest_0 : decode cX6_fewest 0 = .ok (.iload_n 1, 1) := by decide +kernel
theorem dX6_fewest_1 : decode cX6_fewest 1 = .ok (.i2l, 1) := by decide +kernel
theorem dX6_fewest_2 : decode cX6_fewest 2 = .ok (.lconst 1, 1) := by decide +kernel
theorem dX6_fewest_3 : decode cX6_fewest 3 = .ok (.ldc2_w 137, 3) := by decide +kernel
theorem dX6_fewest_6 : decode cX6_fewest 6 = .ok (.invokestatic 66, 3) := by decide +kernel
theorem dX6_fewest_9 : decode cX6_fewest 9 = .ok (.ifCond .eq 11, 3) := by decide +kernel
theorem dX6_fewest_12 : decode cX6_fewest 12 = .ok (.aload_n 0, 1) := by decide +kernel
theorem dX6_fewest_13 : decode cX6_fewest 13 = .ok (.iload_n 1, 1) := by decide +kernel
theorem dX6_fewest_14 : decode cX6_fewest 14 = .ok (.invokevirtual 156, 3) := by decide +kernel
theorem dX6_fewest_17 : decode cX6_fewest 17 = .ok (.goto 4, 3) := by decide +kernel
theorem dX6_fewest_20 : decode cX6_fewest 20 = .ok (.iconst (-1), 1) := by decide +kernel
theorem dX6_fewest_21 : decode cX6_fewest 21 = .ok (.ireturn, 1) := by decide +kernel
theorem dX6_bound_0 : decode cX6_bound 0 = .ok (.iload_n 1, 1) := by decide +kernel
theorem dX6_bound_1 : decode cX6_bound 1 = .ok (.i2l, 1) := by decide +kernel
theorem dX6_bound_2 : decode cX6_bound 2 = .ok (.lconst 1, 1) := by decide +kernel
theorem dX6_bound_3 : decode cX6_bound 3 = .ok (.ldc2_w 154, 3) := by decide +kernel
theorem dX6_bound_6 : decode cX6_bound 6 = .ok (.invokestatic 66, 3) := by decide +kernel
theorem dX6_bound_9 : decode cX6_bound 9 = .ok (.ifCond .eq 11, 3) := by decide +kernel
theorem dX6_bound_12 : decode cX6_bound 12 = .ok (.aload_n 0, 1) := by decide +kernel
theorem dX6_bound_13 : decode cX6_bound 13 = .ok (.iload_n 1, 1) := by decide +kernel
theorem dX6_bound_14 : decode cX6_bound 14 = .ok (.invokevirtual 143, 3) := by decide +kernel
theorem dX6_bound_17 : decode cX6_bound 17 = .ok (.goto 4, 3) := by decide +kernel
theorem dX6_bound_20 : decode cX6_bound 20 = .ok (.iconst (-1), 1) := by decide +kernel
theorem dX6_bound_21 : decode cX6_bound 21 = .ok (.ireturn, 1) := by decide +kernel
theorem dX6_isTerm_0 : decode cX6_isTerm 0 = .ok (.iconst 0, 1) := by decide +kernel
theorem dX6_isTerm_1 : decode cX6_isTerm 1 = .ok (.istore_n 2, 1) := by decide +kernel
theorem dX6_isTerm_2 : decode cX6_isTerm 2 = .ok (.iload_n 2, 1) := by decide +kernel
theorem dX6_isTerm_3 : decode cX6_isTerm 3 = .ok (.aload_n 0, 1) := by decide +kernel
theorem dX6_isTerm_4 : decode cX6_isTerm 4 = .ok (.getfield 7, 3) := by decide +kernel
theorem dX6_isTerm_7 : decode cX6_isTerm 7 = .ok (.iconst 0, 1) := by decide +kernel
theorem dX6_isTerm_8 : decode cX6_isTerm 8 = .ok (.iaload, 1) := by decide +kernel
theorem dX6_isTerm_9 : decode cX6_isTerm 9 = .ok (.if_icmp .ge 23, 3) := by decide +kernel
theorem dX6_isTerm_12 : decode cX6_isTerm 12 = .ok (.aload_n 0, 1) := by decide +kernel
theorem dX6_isTerm_13 : decode cX6_isTerm 13 = .ok (.getfield 7, 3) := by decide +kernel
theorem dX6_isTerm_16 : decode cX6_isTerm 16 = .ok (.iconst 1, 1) := by decide +kernel
theorem dX6_isTerm_17 : decode cX6_isTerm 17 = .ok (.iload_n 2, 1) := by decide +kernel
theorem dX6_isTerm_18 : decode cX6_isTerm 18 = .ok (.iadd, 1) := by decide +kernel
theorem dX6_isTerm_19 : decode cX6_isTerm 19 = .ok (.iaload, 1) := by decide +kernel
theorem dX6_isTerm_20 : decode cX6_isTerm 20 = .ok (.iload_n 1, 1) := by decide +kernel
theorem dX6_isTerm_21 : decode cX6_isTerm 21 = .ok (.if_icmp .ne 5, 3) := by decide +kernel
theorem dX6_isTerm_24 : decode cX6_isTerm 24 = .ok (.iconst 1, 1) := by decide +kernel
theorem dX6_isTerm_25 : decode cX6_isTerm 25 = .ok (.ireturn, 1) := by decide +kernel
theorem dX6_isTerm_26 : decode cX6_isTerm 26 = .ok (.iinc 2 1, 3) := by decide +kernel
theorem dX6_isTerm_29 : decode cX6_isTerm 29 = .ok (.goto (-27), 3) := by decide +kernel
theorem dX6_isTerm_32 : decode cX6_isTerm 32 = .ok (.iconst 0, 1) := by decide +kernel
theorem dX6_isTerm_33 : decode cX6_isTerm 33 = .ok (.ireturn, 1) := by decide +kernel
theorem dX6_comes_0 : decode cX6_comes 0 = .ok (.aload_n 0, 1) := by decide +kernel
theorem dX6_comes_1 : decode cX6_comes 1 = .ok (.getfield 7, 3) := by decide +kernel
theorem dX6_comes_4 : decode cX6_comes 4 = .ok (.iconst 0, 1) := by decide +kernel
theorem dX6_comes_5 : decode cX6_comes 5 = .ok (.iaload, 1) := by decide +kernel
theorem dX6_comes_6 : decode cX6_comes 6 = .ok (.istore_n 2, 1) := by decide +kernel
theorem dX6_comes_7 : decode cX6_comes 7 = .ok (.iload_n 2, 1) := by decide +kernel
theorem dX6_comes_8 : decode cX6_comes 8 = .ok (.ifCond .le 41, 3) := by decide +kernel
theorem dX6_comes_11 : decode cX6_comes 11 = .ok (.aload_n 0, 1) := by decide +kernel
theorem dX6_comes_12 : decode cX6_comes 12 = .ok (.getfield 7, 3) := by decide +kernel
theorem dX6_comes_15 : decode cX6_comes 15 = .ok (.iconst 1, 1) := by decide +kernel
theorem dX6_comes_16 : decode cX6_comes 16 = .ok (.iload_n 2, 1) := by decide +kernel
theorem dX6_comes_17 : decode cX6_comes 17 = .ok (.iadd, 1) := by decide +kernel
theorem dX6_comes_18 : decode cX6_comes 18 = .ok (.iconst 1, 1) := by decide +kernel
theorem dX6_comes_19 : decode cX6_comes 19 = .ok (.isub, 1) := by decide +kernel
theorem dX6_comes_20 : decode cX6_comes 20 = .ok (.iaload, 1) := by decide +kernel
theorem dX6_comes_21 : decode cX6_comes 21 = .ok (.iload_n 1, 1) := by decide +kernel
theorem dX6_comes_22 : decode cX6_comes 22 = .ok (.if_icmp .le 27, 3) := by decide +kernel
theorem dX6_comes_25 : decode cX6_comes 25 = .ok (.aload_n 0, 1) := by decide +kernel
theorem dX6_comes_26 : decode cX6_comes 26 = .ok (.getfield 7, 3) := by decide +kernel
theorem dX6_comes_29 : decode cX6_comes 29 = .ok (.iconst 1, 1) := by decide +kernel
theorem dX6_comes_30 : decode cX6_comes 30 = .ok (.iload_n 2, 1) := by decide +kernel
theorem dX6_comes_31 : decode cX6_comes 31 = .ok (.iadd, 1) := by decide +kernel
theorem dX6_comes_32 : decode cX6_comes 32 = .ok (.aload_n 0, 1) := by decide +kernel
theorem dX6_comes_33 : decode cX6_comes 33 = .ok (.getfield 7, 3) := by decide +kernel
theorem dX6_comes_36 : decode cX6_comes 36 = .ok (.iconst 1, 1) := by decide +kernel
theorem dX6_comes_37 : decode cX6_comes 37 = .ok (.iload_n 2, 1) := by decide +kernel
theorem dX6_comes_38 : decode cX6_comes 38 = .ok (.iadd, 1) := by decide +kernel
theorem dX6_comes_39 : decode cX6_comes 39 = .ok (.iconst 1, 1) := by decide +kernel
theorem dX6_comes_40 : decode cX6_comes 40 = .ok (.isub, 1) := by decide +kernel
theorem dX6_comes_41 : decode cX6_comes 41 = .ok (.iaload, 1) := by decide +kernel
theorem dX6_comes_42 : decode cX6_comes 42 = .ok (.iastore, 1) := by decide +kernel
theorem dX6_comes_43 : decode cX6_comes 43 = .ok (.iinc 2 (-1), 3) := by decide +kernel
theorem dX6_comes_46 : decode cX6_comes 46 = .ok (.goto (-39), 3) := by decide +kernel
theorem dX6_comes_49 : decode cX6_comes 49 = .ok (.aload_n 0, 1) := by decide +kernel
theorem dX6_comes_50 : decode cX6_comes 50 = .ok (.getfield 7, 3) := by decide +kernel
theorem dX6_comes_53 : decode cX6_comes 53 = .ok (.iconst 1, 1) := by decide +kernel
theorem dX6_comes_54 : decode cX6_comes 54 = .ok (.iload_n 2, 1) := by decide +kernel
theorem dX6_comes_55 : decode cX6_comes 55 = .ok (.iadd, 1) := by decide +kernel
theorem dX6_comes_56 : decode cX6_comes 56 = .ok (.iload_n 1, 1) := by decide +kernel
theorem dX6_comes_57 : decode cX6_comes 57 = .ok (.iastore, 1) := by decide +kernel
theorem dX6_comes_58 : decode cX6_comes 58 = .ok (.aload_n 0, 1) := by decide +kernel
theorem dX6_comes_59 : decode cX6_comes 59 = .ok (.getfield 7, 3) := by decide +kernel
theorem dX6_comes_62 : decode cX6_comes 62 = .ok (.iconst 0, 1) := by decide +kernel
theorem dX6_comes_63 : decode cX6_comes 63 = .ok (.dup2, 1) := by decide +kernel
theorem dX6_comes_64 : decode cX6_comes 64 = .ok (.iaload, 1) := by decide +kernel
theorem dX6_comes_65 : decode cX6_comes 65 = .ok (.iconst 1, 1) := by decide +kernel
theorem dX6_comes_66 : decode cX6_comes 66 = .ok (.iadd, 1) := by decide +kernel
theorem dX6_comes_67 : decode cX6_comes 67 = .ok (.iastore, 1) := by decide +kernel
theorem dX6_comes_68 : decode cX6_comes 68 = .ok (.return_, 1) := by decide +kernel
theorem dX6_goes_0 : decode cX6_goes 0 = .ok (.aload_n 0, 1) := by decide +kernel
theorem dX6_goes_1 : decode cX6_goes 1 = .ok (.getfield 7, 3) := by decide +kernel
theorem dX6_goes_4 : decode cX6_goes 4 = .ok (.iconst 0, 1) := by decide +kernel
theorem dX6_goes_5 : decode cX6_goes 5 = .ok (.dup2, 1) := by decide +kernel
theorem dX6_goes_6 : decode cX6_goes 6 = .ok (.iaload, 1) := by decide +kernel
theorem dX6_goes_7 : decode cX6_goes 7 = .ok (.iconst 1, 1) := by decide +kernel
theorem dX6_goes_8 : decode cX6_goes 8 = .ok (.isub, 1) := by decide +kernel
theorem dX6_goes_9 : decode cX6_goes 9 = .ok (.iastore, 1) := by decide +kernel
theorem dX6_goes_10 : decode cX6_goes 10 = .ok (.iload_n 1, 1) := by decide +kernel
theorem dX6_goes_11 : decode cX6_goes 11 = .ok (.istore_n 2, 1) := by decide +kernel
theorem dX6_goes_12 : decode cX6_goes 12 = .ok (.iload_n 2, 1) := by decide +kernel
theorem dX6_goes_13 : decode cX6_goes 13 = .ok (.aload_n 0, 1) := by decide +kernel
theorem dX6_goes_14 : decode cX6_goes 14 = .ok (.getfield 7, 3) := by decide +kernel
theorem dX6_goes_17 : decode cX6_goes 17 = .ok (.iconst 0, 1) := by decide +kernel
theorem dX6_goes_18 : decode cX6_goes 18 = .ok (.iaload, 1) := by decide +kernel
theorem dX6_goes_19 : decode cX6_goes 19 = .ok (.if_icmp .ge 27, 3) := by decide +kernel
theorem dX6_goes_22 : decode cX6_goes 22 = .ok (.aload_n 0, 1) := by decide +kernel
theorem dX6_goes_23 : decode cX6_goes 23 = .ok (.getfield 7, 3) := by decide +kernel
theorem dX6_goes_26 : decode cX6_goes 26 = .ok (.iconst 1, 1) := by decide +kernel
theorem dX6_goes_27 : decode cX6_goes 27 = .ok (.iload_n 2, 1) := by decide +kernel
theorem dX6_goes_28 : decode cX6_goes 28 = .ok (.iadd, 1) := by decide +kernel
theorem dX6_goes_29 : decode cX6_goes 29 = .ok (.aload_n 0, 1) := by decide +kernel
theorem dX6_goes_30 : decode cX6_goes 30 = .ok (.getfield 7, 3) := by decide +kernel
theorem dX6_goes_33 : decode cX6_goes 33 = .ok (.iconst 1, 1) := by decide +kernel
theorem dX6_goes_34 : decode cX6_goes 34 = .ok (.iload_n 2, 1) := by decide +kernel
theorem dX6_goes_35 : decode cX6_goes 35 = .ok (.iadd, 1) := by decide +kernel
theorem dX6_goes_36 : decode cX6_goes 36 = .ok (.iconst 1, 1) := by decide +kernel
theorem dX6_goes_37 : decode cX6_goes 37 = .ok (.iadd, 1) := by decide +kernel
theorem dX6_goes_38 : decode cX6_goes 38 = .ok (.iaload, 1) := by decide +kernel
theorem dX6_goes_39 : decode cX6_goes 39 = .ok (.iastore, 1) := by decide +kernel
theorem dX6_goes_40 : decode cX6_goes 40 = .ok (.iinc 2 1, 3) := by decide +kernel
theorem dX6_goes_43 : decode cX6_goes 43 = .ok (.goto (-31), 3) := by decide +kernel
theorem dX6_goes_46 : decode cX6_goes 46 = .ok (.return_, 1) := by decide +kernel
theorem dX6_makes_0 : decode cX6_makes 0 = .ok (.iload_n 1, 1) := by decide +kernel
theorem dX6_makes_1 : decode cX6_makes 1 = .ok (.i2l, 1) := by decide +kernel
theorem dX6_makes_2 : decode cX6_makes 2 = .ok (.lconst 0, 1) := by decide +kernel
theorem dX6_makes_3 : decode cX6_makes 3 = .ok (.ldc2_w 159, 3) := by decide +kernel
theorem dX6_makes_6 : decode cX6_makes 6 = .ok (.invokestatic 66, 3) := by decide +kernel
theorem dX6_makes_9 : decode cX6_makes 9 = .ok (.ifCond .ne 5, 3) := by decide +kernel
theorem dX6_makes_12 : decode cX6_makes 12 = .ok (.iconst (-1), 1) := by decide +kernel
theorem dX6_makes_13 : decode cX6_makes 13 = .ok (.ireturn, 1) := by decide +kernel
theorem dX6_makes_14 : decode cX6_makes 14 = .ok (.iload_n 1, 1) := by decide +kernel
theorem dX6_makes_15 : decode cX6_makes 15 = .ok (.iconst 2, 1) := by decide +kernel
theorem dX6_makes_16 : decode cX6_makes 16 = .ok (.if_icmp .ge 13, 3) := by decide +kernel
theorem dX6_makes_19 : decode cX6_makes 19 = .ok (.aload_n 0, 1) := by decide +kernel
theorem dX6_makes_20 : decode cX6_makes 20 = .ok (.iload_n 1, 1) := by decide +kernel
theorem dX6_makes_21 : decode cX6_makes 21 = .ok (.iconst 1, 1) := by decide +kernel
theorem dX6_makes_22 : decode cX6_makes 22 = .ok (.iadd, 1) := by decide +kernel
theorem dX6_makes_23 : decode cX6_makes 23 = .ok (.invokevirtual 151, 3) := by decide +kernel
theorem dX6_makes_26 : decode cX6_makes 26 = .ok (.goto 27, 3) := by decide +kernel
theorem dX6_makes_29 : decode cX6_makes 29 = .ok (.iload_n 1, 1) := by decide +kernel
theorem dX6_makes_30 : decode cX6_makes 30 = .ok (.iconst 2, 1) := by decide +kernel
theorem dX6_makes_31 : decode cX6_makes 31 = .ok (.if_icmp .ne 18, 3) := by decide +kernel
theorem dX6_makes_34 : decode cX6_makes 34 = .ok (.aload_n 0, 1) := by decide +kernel
theorem dX6_makes_35 : decode cX6_makes 35 = .ok (.aload_n 0, 1) := by decide +kernel
theorem dX6_makes_36 : decode cX6_makes 36 = .ok (.bipush 60, 2) := by decide +kernel
theorem dX6_makes_38 : decode cX6_makes 38 = .ok (.invokevirtual 156, 3) := by decide +kernel
theorem dX6_makes_41 : decode cX6_makes 41 = .ok (.bipush 60, 2) := by decide +kernel
theorem dX6_makes_43 : decode cX6_makes 43 = .ok (.invokevirtual 147, 3) := by decide +kernel
theorem dX6_makes_46 : decode cX6_makes 46 = .ok (.goto 7, 3) := by decide +kernel
theorem dX6_makes_49 : decode cX6_makes 49 = .ok (.aload_n 0, 1) := by decide +kernel
theorem dX6_makes_50 : decode cX6_makes 50 = .ok (.invokevirtual 161, 3) := by decide +kernel
theorem dX6_makes_53 : decode cX6_makes 53 = .ok (.istore_n 2, 1) := by decide +kernel
theorem dX6_makes_54 : decode cX6_makes 54 = .ok (.iload_n 2, 1) := by decide +kernel
theorem dX6_makes_55 : decode cX6_makes 55 = .ok (.bipush (-9), 2) := by decide +kernel
theorem dX6_makes_57 : decode cX6_makes 57 = .ok (.if_icmp .ne 6, 3) := by decide +kernel
theorem dX6_makes_60 : decode cX6_makes 60 = .ok (.bipush (-2), 2) := by decide +kernel
theorem dX6_makes_62 : decode cX6_makes 62 = .ok (.ireturn, 1) := by decide +kernel
theorem dX6_makes_63 : decode cX6_makes 63 = .ok (.aload_n 0, 1) := by decide +kernel
theorem dX6_makes_64 : decode cX6_makes 64 = .ok (.invokevirtual 165, 3) := by decide +kernel
theorem dX6_makes_67 : decode cX6_makes 67 = .ok (.aload_n 0, 1) := by decide +kernel
theorem dX6_makes_68 : decode cX6_makes 68 = .ok (.getfield 7, 3) := by decide +kernel
theorem dX6_makes_71 : decode cX6_makes 71 = .ok (.iconst 0, 1) := by decide +kernel
theorem dX6_makes_72 : decode cX6_makes 72 = .ok (.iload_n 2, 1) := by decide +kernel
theorem dX6_makes_73 : decode cX6_makes 73 = .ok (.iastore, 1) := by decide +kernel
theorem dX6_makes_74 : decode cX6_makes 74 = .ok (.iconst 0, 1) := by decide +kernel
theorem dX6_makes_75 : decode cX6_makes 75 = .ok (.istore_n 3, 1) := by decide +kernel
theorem dX6_makes_76 : decode cX6_makes 76 = .ok (.iload_n 3, 1) := by decide +kernel
theorem dX6_makes_77 : decode cX6_makes 77 = .ok (.iload_n 2, 1) := by decide +kernel
theorem dX6_makes_78 : decode cX6_makes 78 = .ok (.if_icmp .ge 23, 3) := by decide +kernel
theorem dX6_makes_81 : decode cX6_makes 81 = .ok (.aload_n 0, 1) := by decide +kernel
theorem dX6_makes_82 : decode cX6_makes 82 = .ok (.getfield 7, 3) := by decide +kernel
theorem dX6_makes_85 : decode cX6_makes 85 = .ok (.iconst 1, 1) := by decide +kernel
theorem dX6_makes_86 : decode cX6_makes 86 = .ok (.iload_n 3, 1) := by decide +kernel
theorem dX6_makes_87 : decode cX6_makes 87 = .ok (.iadd, 1) := by decide +kernel
theorem dX6_makes_88 : decode cX6_makes 88 = .ok (.aload_n 0, 1) := by decide +kernel
theorem dX6_makes_89 : decode cX6_makes 89 = .ok (.getfield 39, 3) := by decide +kernel
theorem dX6_makes_92 : decode cX6_makes 92 = .ok (.iload_n 3, 1) := by decide +kernel
theorem dX6_makes_93 : decode cX6_makes 93 = .ok (.iaload, 1) := by decide +kernel
theorem dX6_makes_94 : decode cX6_makes 94 = .ok (.iastore, 1) := by decide +kernel
theorem dX6_makes_95 : decode cX6_makes 95 = .ok (.iinc 3 1, 3) := by decide +kernel
theorem dX6_makes_98 : decode cX6_makes 98 = .ok (.goto (-22), 3) := by decide +kernel
theorem dX6_makes_101 : decode cX6_makes 101 = .ok (.iload_n 2, 1) := by decide +kernel
theorem dX6_makes_102 : decode cX6_makes 102 = .ok (.ireturn, 1) := by decide +kernel
theorem dX6_part_0 : decode cX6_part 0 = .ok (.iload_n 2, 1) := by decide +kernel
theorem dX6_part_1 : decode cX6_part 1 = .ok (.tableswitch 114 0 2 #[27, 52, 83], 27) := by decide +kernel
theorem dX6_part_28 : decode cX6_part 28 = .ok (.iload_n 3, 1) := by decide +kernel
theorem dX6_part_29 : decode cX6_part 29 = .ok (.ifCond .ne 9, 3) := by decide +kernel
theorem dX6_part_32 : decode cX6_part 32 = .ok (.lload_n 0, 1) := by decide +kernel
theorem dX6_part_33 : decode cX6_part 33 = .ok (.lconst 1, 1) := by decide +kernel
theorem dX6_part_34 : decode cX6_part 34 = .ok (.ladd, 1) := by decide +kernel
theorem dX6_part_35 : decode cX6_part 35 = .ok (.goto 17, 3) := by decide +kernel
theorem dX6_part_38 : decode cX6_part 38 = .ok (.iload_n 3, 1) := by decide +kernel
theorem dX6_part_39 : decode cX6_part 39 = .ok (.iconst 1, 1) := by decide +kernel
theorem dX6_part_40 : decode cX6_part 40 = .ok (.if_icmp .ne 11, 3) := by decide +kernel
theorem dX6_part_43 : decode cX6_part 43 = .ok (.lload_n 0, 1) := by decide +kernel
theorem dX6_part_44 : decode cX6_part 44 = .ok (.lload_n 0, 1) := by decide +kernel
theorem dX6_part_45 : decode cX6_part 45 = .ok (.lconst 1, 1) := by decide +kernel
theorem dX6_part_46 : decode cX6_part 46 = .ok (.ladd, 1) := by decide +kernel
theorem dX6_part_47 : decode cX6_part 47 = .ok (.lmul, 1) := by decide +kernel
theorem dX6_part_48 : decode cX6_part 48 = .ok (.goto 4, 3) := by decide +kernel
theorem dX6_part_51 : decode cX6_part 51 = .ok (.lconst 0, 1) := by decide +kernel
theorem dX6_part_52 : decode cX6_part 52 = .ok (.lreturn, 1) := by decide +kernel
theorem dX6_part_53 : decode cX6_part 53 = .ok (.iload_n 3, 1) := by decide +kernel
theorem dX6_part_54 : decode cX6_part 54 = .ok (.ifCond .ne 15, 3) := by decide +kernel
theorem dX6_part_57 : decode cX6_part 57 = .ok (.ldc2_w 159, 3) := by decide +kernel
theorem dX6_part_60 : decode cX6_part 60 = .ok (.lload_n 0, 1) := by decide +kernel
theorem dX6_part_61 : decode cX6_part 61 = .ok (.lmul, 1) := by decide +kernel
theorem dX6_part_62 : decode cX6_part 62 = .ok (.ldc2_w 126, 3) := by decide +kernel
theorem dX6_part_65 : decode cX6_part 65 = .ok (.ldiv, 1) := by decide +kernel
theorem dX6_part_66 : decode cX6_part 66 = .ok (.goto 17, 3) := by decide +kernel
theorem dX6_part_69 : decode cX6_part 69 = .ok (.iload_n 3, 1) := by decide +kernel
theorem dX6_part_70 : decode cX6_part 70 = .ok (.iconst 1, 1) := by decide +kernel
theorem dX6_part_71 : decode cX6_part 71 = .ok (.if_icmp .ne 11, 3) := by decide +kernel
theorem dX6_part_74 : decode cX6_part 74 = .ok (.ldc2_w 159, 3) := by decide +kernel
theorem dX6_part_77 : decode cX6_part 77 = .ok (.lload_n 0, 1) := by decide +kernel
theorem dX6_part_78 : decode cX6_part 78 = .ok (.lmul, 1) := by decide +kernel
theorem dX6_part_79 : decode cX6_part 79 = .ok (.goto 4, 3) := by decide +kernel
theorem dX6_part_82 : decode cX6_part 82 = .ok (.lconst 0, 1) := by decide +kernel
theorem dX6_part_83 : decode cX6_part 83 = .ok (.lreturn, 1) := by decide +kernel
theorem dX6_part_84 : decode cX6_part 84 = .ok (.iload_n 3, 1) := by decide +kernel
theorem dX6_part_85 : decode cX6_part 85 = .ok (.ifCond .ne 15, 3) := by decide +kernel
theorem dX6_part_88 : decode cX6_part 88 = .ok (.ldc2_w 168, 3) := by decide +kernel
theorem dX6_part_91 : decode cX6_part 91 = .ok (.lload_n 0, 1) := by decide +kernel
theorem dX6_part_92 : decode cX6_part 92 = .ok (.lmul, 1) := by decide +kernel
theorem dX6_part_93 : decode cX6_part 93 = .ok (.ldc2_w 159, 3) := by decide +kernel
theorem dX6_part_96 : decode cX6_part 96 = .ok (.ldiv, 1) := by decide +kernel
theorem dX6_part_97 : decode cX6_part 97 = .ok (.goto 17, 3) := by decide +kernel
theorem dX6_part_100 : decode cX6_part 100 = .ok (.iload_n 3, 1) := by decide +kernel
theorem dX6_part_101 : decode cX6_part 101 = .ok (.iconst 1, 1) := by decide +kernel
theorem dX6_part_102 : decode cX6_part 102 = .ok (.if_icmp .ne 11, 3) := by decide +kernel
theorem dX6_part_105 : decode cX6_part 105 = .ok (.ldc2_w 168, 3) := by decide +kernel
theorem dX6_part_108 : decode cX6_part 108 = .ok (.lload_n 0, 1) := by decide +kernel
theorem dX6_part_109 : decode cX6_part 109 = .ok (.lmul, 1) := by decide +kernel
theorem dX6_part_110 : decode cX6_part 110 = .ok (.goto 4, 3) := by decide +kernel
theorem dX6_part_113 : decode cX6_part 113 = .ok (.lconst 0, 1) := by decide +kernel
theorem dX6_part_114 : decode cX6_part 114 = .ok (.lreturn, 1) := by decide +kernel
theorem dX6_part_115 : decode cX6_part 115 = .ok (.iload_n 3, 1) := by decide +kernel
theorem dX6_part_116 : decode cX6_part 116 = .ok (.ifCond .ne 11, 3) := by decide +kernel
theorem dX6_part_119 : decode cX6_part 119 = .ok (.ldc2_w 126, 3) := by decide +kernel
theorem dX6_part_122 : decode cX6_part 122 = .ok (.lload_n 0, 1) := by decide +kernel
theorem dX6_part_123 : decode cX6_part 123 = .ok (.lmul, 1) := by decide +kernel
theorem dX6_part_124 : decode cX6_part 124 = .ok (.goto 21, 3) := by decide +kernel
theorem dX6_part_127 : decode cX6_part 127 = .ok (.iload_n 3, 1) := by decide +kernel
theorem dX6_part_128 : decode cX6_part 128 = .ok (.iconst 1, 1) := by decide +kernel
theorem dX6_part_129 : decode cX6_part 129 = .ok (.if_icmp .ne 11, 3) := by decide +kernel
theorem dX6_part_132 : decode cX6_part 132 = .ok (.ldc2_w 159, 3) := by decide +kernel
theorem dX6_part_135 : decode cX6_part 135 = .ok (.lload_n 0, 1) := by decide +kernel
theorem dX6_part_136 : decode cX6_part 136 = .ok (.lmul, 1) := by decide +kernel
theorem dX6_part_137 : decode cX6_part 137 = .ok (.goto 8, 3) := by decide +kernel
theorem dX6_part_140 : decode cX6_part 140 = .ok (.ldc2_w 170, 3) := by decide +kernel
theorem dX6_part_143 : decode cX6_part 143 = .ok (.lload_n 0, 1) := by decide +kernel
theorem dX6_part_144 : decode cX6_part 144 = .ok (.lmul, 1) := by decide +kernel
theorem dX6_part_145 : decode cX6_part 145 = .ok (.lreturn, 1) := by decide +kernel
theorem dX6_maySplit_0 : decode cX6_maySplit 0 = .ok (.aload_n 0, 1) := by decide +kernel
theorem dX6_maySplit_1 : decode cX6_maySplit 1 = .ok (.getfield 7, 3) := by decide +kernel
theorem dX6_maySplit_4 : decode cX6_maySplit 4 = .ok (.iconst 0, 1) := by decide +kernel
theorem dX6_maySplit_5 : decode cX6_maySplit 5 = .ok (.iaload, 1) := by decide +kernel
theorem dX6_maySplit_6 : decode cX6_maySplit 6 = .ok (.iload_n 2, 1) := by decide +kernel
theorem dX6_maySplit_7 : decode cX6_maySplit 7 = .ok (.iconst 3, 1) := by decide +kernel
theorem dX6_maySplit_8 : decode cX6_maySplit 8 = .ok (.if_icmp .ne 7, 3) := by decide +kernel
theorem dX6_maySplit_11 : decode cX6_maySplit 11 = .ok (.iconst 2, 1) := by decide +kernel
theorem dX6_maySplit_12 : decode cX6_maySplit 12 = .ok (.goto 4, 3) := by decide +kernel
theorem dX6_maySplit_15 : decode cX6_maySplit 15 = .ok (.iconst 1, 1) := by decide +kernel
theorem dX6_maySplit_16 : decode cX6_maySplit 16 = .ok (.iadd, 1) := by decide +kernel
theorem dX6_maySplit_17 : decode cX6_maySplit 17 = .ok (.bipush 8, 2) := by decide +kernel
theorem dX6_maySplit_19 : decode cX6_maySplit 19 = .ok (.if_icmp .gt 38, 3) := by decide +kernel
theorem dX6_maySplit_22 : decode cX6_maySplit 22 = .ok (.iload_n 2, 1) := by decide +kernel
theorem dX6_maySplit_23 : decode cX6_maySplit 23 = .ok (.ifCond .ne 8, 3) := by decide +kernel
theorem dX6_maySplit_26 : decode cX6_maySplit 26 = .ok (.iload_n 1, 1) := by decide +kernel
theorem dX6_maySplit_27 : decode cX6_maySplit 27 = .ok (.iconst 1, 1) := by decide +kernel
theorem dX6_maySplit_28 : decode cX6_maySplit 28 = .ok (.if_icmp .le 29, 3) := by decide +kernel
theorem dX6_maySplit_31 : decode cX6_maySplit 31 = .ok (.iload_n 2, 1) := by decide +kernel
theorem dX6_maySplit_32 : decode cX6_maySplit 32 = .ok (.iconst 1, 1) := by decide +kernel
theorem dX6_maySplit_33 : decode cX6_maySplit 33 = .ok (.if_icmp .ne 9, 3) := by decide +kernel
theorem dX6_maySplit_36 : decode cX6_maySplit 36 = .ok (.iload_n 1, 1) := by decide +kernel
theorem dX6_maySplit_37 : decode cX6_maySplit 37 = .ok (.iconst 2, 1) := by decide +kernel
theorem dX6_maySplit_38 : decode cX6_maySplit 38 = .ok (.irem, 1) := by decide +kernel
theorem dX6_maySplit_39 : decode cX6_maySplit 39 = .ok (.ifCond .ne 18, 3) := by decide +kernel
theorem dX6_maySplit_42 : decode cX6_maySplit 42 = .ok (.iload_n 2, 1) := by decide +kernel
theorem dX6_maySplit_43 : decode cX6_maySplit 43 = .ok (.iconst 2, 1) := by decide +kernel
theorem dX6_maySplit_44 : decode cX6_maySplit 44 = .ok (.if_icmp .ne 9, 3) := by decide +kernel
theorem dX6_maySplit_47 : decode cX6_maySplit 47 = .ok (.iload_n 1, 1) := by decide +kernel
theorem dX6_maySplit_48 : decode cX6_maySplit 48 = .ok (.iconst 3, 1) := by decide +kernel
theorem dX6_maySplit_49 : decode cX6_maySplit 49 = .ok (.irem, 1) := by decide +kernel
theorem dX6_maySplit_50 : decode cX6_maySplit 50 = .ok (.ifCond .ne 7, 3) := by decide +kernel
theorem dX6_maySplit_53 : decode cX6_maySplit 53 = .ok (.iconst 1, 1) := by decide +kernel
theorem dX6_maySplit_54 : decode cX6_maySplit 54 = .ok (.goto 4, 3) := by decide +kernel
theorem dX6_maySplit_57 : decode cX6_maySplit 57 = .ok (.iconst 0, 1) := by decide +kernel
theorem dX6_maySplit_58 : decode cX6_maySplit 58 = .ok (.istore_n 3, 1) := by decide +kernel
theorem dX6_maySplit_59 : decode cX6_maySplit 59 = .ok (.iconst 0, 1) := by decide +kernel
theorem dX6_maySplit_60 : decode cX6_maySplit 60 = .ok (.istore 4, 2) := by decide +kernel
theorem dX6_maySplit_62 : decode cX6_maySplit 62 = .ok (.iload 4, 2) := by decide +kernel
theorem dX6_maySplit_64 : decode cX6_maySplit 64 = .ok (.iconst 3, 1) := by decide +kernel
theorem dX6_maySplit_65 : decode cX6_maySplit 65 = .ok (.if_icmp .ge 48, 3) := by decide +kernel
theorem dX6_maySplit_68 : decode cX6_maySplit 68 = .ok (.iload_n 3, 1) := by decide +kernel
theorem dX6_maySplit_69 : decode cX6_maySplit 69 = .ok (.ifCond .eq 44, 3) := by decide +kernel
theorem dX6_maySplit_72 : decode cX6_maySplit 72 = .ok (.iload_n 1, 1) := by decide +kernel
theorem dX6_maySplit_73 : decode cX6_maySplit 73 = .ok (.i2l, 1) := by decide +kernel
theorem dX6_maySplit_74 : decode cX6_maySplit 74 = .ok (.iload_n 2, 1) := by decide +kernel
theorem dX6_maySplit_75 : decode cX6_maySplit 75 = .ok (.iload 4, 2) := by decide +kernel
theorem dX6_maySplit_77 : decode cX6_maySplit 77 = .ok (.invokestatic 172, 3) := by decide +kernel
theorem dX6_maySplit_80 : decode cX6_maySplit 80 = .ok (.lstore 5, 2) := by decide +kernel
theorem dX6_maySplit_82 : decode cX6_maySplit 82 = .ok (.lload 5, 2) := by decide +kernel
theorem dX6_maySplit_84 : decode cX6_maySplit 84 = .ok (.ldc2_w 128, 3) := by decide +kernel
theorem dX6_maySplit_87 : decode cX6_maySplit 87 = .ok (.lcmp, 1) := by decide +kernel
theorem dX6_maySplit_88 : decode cX6_maySplit 88 = .ok (.ifCond .gt 17, 3) := by decide +kernel
theorem dX6_maySplit_91 : decode cX6_maySplit 91 = .ok (.aload_n 0, 1) := by decide +kernel
theorem dX6_maySplit_92 : decode cX6_maySplit 92 = .ok (.lload 5, 2) := by decide +kernel
theorem dX6_maySplit_94 : decode cX6_maySplit 94 = .ok (.l2i, 1) := by decide +kernel
theorem dX6_maySplit_95 : decode cX6_maySplit 95 = .ok (.invokevirtual 176, 3) := by decide +kernel
theorem dX6_maySplit_98 : decode cX6_maySplit 98 = .ok (.ifCond .ne 7, 3) := by decide +kernel
theorem dX6_maySplit_101 : decode cX6_maySplit 101 = .ok (.iconst 1, 1) := by decide +kernel
theorem dX6_maySplit_102 : decode cX6_maySplit 102 = .ok (.goto 4, 3) := by decide +kernel
theorem dX6_maySplit_105 : decode cX6_maySplit 105 = .ok (.iconst 0, 1) := by decide +kernel
theorem dX6_maySplit_106 : decode cX6_maySplit 106 = .ok (.istore_n 3, 1) := by decide +kernel
theorem dX6_maySplit_107 : decode cX6_maySplit 107 = .ok (.iinc 4 1, 3) := by decide +kernel
theorem dX6_maySplit_110 : decode cX6_maySplit 110 = .ok (.goto (-48), 3) := by decide +kernel
theorem dX6_maySplit_113 : decode cX6_maySplit 113 = .ok (.iload_n 3, 1) := by decide +kernel
theorem dX6_maySplit_114 : decode cX6_maySplit 114 = .ok (.ireturn, 1) := by decide +kernel
theorem dX6_splits_0 : decode cX6_splits 0 = .ok (.iload_n 1, 1) := by decide +kernel
theorem dX6_splits_1 : decode cX6_splits 1 = .ok (.i2l, 1) := by decide +kernel
theorem dX6_splits_2 : decode cX6_splits 2 = .ok (.lconst 0, 1) := by decide +kernel
theorem dX6_splits_3 : decode cX6_splits 3 = .ok (.aload_n 0, 1) := by decide +kernel
theorem dX6_splits_4 : decode cX6_splits 4 = .ok (.getfield 7, 3) := by decide +kernel
theorem dX6_splits_7 : decode cX6_splits 7 = .ok (.iconst 0, 1) := by decide +kernel
theorem dX6_splits_8 : decode cX6_splits 8 = .ok (.iaload, 1) := by decide +kernel
theorem dX6_splits_9 : decode cX6_splits 9 = .ok (.iconst 1, 1) := by decide +kernel
theorem dX6_splits_10 : decode cX6_splits 10 = .ok (.isub, 1) := by decide +kernel
theorem dX6_splits_11 : decode cX6_splits 11 = .ok (.i2l, 1) := by decide +kernel
theorem dX6_splits_12 : decode cX6_splits 12 = .ok (.invokestatic 66, 3) := by decide +kernel
theorem dX6_splits_15 : decode cX6_splits 15 = .ok (.ifCond .eq 15, 3) := by decide +kernel
theorem dX6_splits_18 : decode cX6_splits 18 = .ok (.iload_n 2, 1) := by decide +kernel
theorem dX6_splits_19 : decode cX6_splits 19 = .ok (.i2l, 1) := by decide +kernel
theorem dX6_splits_20 : decode cX6_splits 20 = .ok (.lconst 0, 1) := by decide +kernel
theorem dX6_splits_21 : decode cX6_splits 21 = .ok (.ldc2_w 159, 3) := by decide +kernel
theorem dX6_splits_24 : decode cX6_splits 24 = .ok (.invokestatic 66, 3) := by decide +kernel
theorem dX6_splits_27 : decode cX6_splits 27 = .ok (.ifCond .ne 5, 3) := by decide +kernel
theorem dX6_splits_30 : decode cX6_splits 30 = .ok (.iconst (-1), 1) := by decide +kernel
theorem dX6_splits_31 : decode cX6_splits 31 = .ok (.ireturn, 1) := by decide +kernel
theorem dX6_splits_32 : decode cX6_splits 32 = .ok (.aload_n 0, 1) := by decide +kernel
theorem dX6_splits_33 : decode cX6_splits 33 = .ok (.getfield 7, 3) := by decide +kernel
theorem dX6_splits_36 : decode cX6_splits 36 = .ok (.iconst 1, 1) := by decide +kernel
theorem dX6_splits_37 : decode cX6_splits 37 = .ok (.iload_n 1, 1) := by decide +kernel
theorem dX6_splits_38 : decode cX6_splits 38 = .ok (.iadd, 1) := by decide +kernel
theorem dX6_splits_39 : decode cX6_splits 39 = .ok (.iaload, 1) := by decide +kernel
theorem dX6_splits_40 : decode cX6_splits 40 = .ok (.istore_n 3, 1) := by decide +kernel
end
section
theorem dX6_splits_41 : decode cX6_splits 41 = .ok (.aload_n 0, 1) := by decide +kernel
theorem dX6_splits_42 : decode cX6_splits 42 = .ok (.iload_n 3, 1) := by decide +kernel
theorem dX6_splits_43 : decode cX6_splits 43 = .ok (.iload_n 2, 1) := by decide +kernel
theorem dX6_splits_44 : decode cX6_splits 44 = .ok (.invokevirtual 179, 3) := by decide +kernel
theorem dX6_splits_47 : decode cX6_splits 47 = .ok (.ifCond .ne 6, 3) := by decide +kernel
theorem dX6_splits_50 : decode cX6_splits 50 = .ok (.bipush (-2), 2) := by decide +kernel
theorem dX6_splits_52 : decode cX6_splits 52 = .ok (.ireturn, 1) := by decide +kernel
theorem dX6_splits_53 : decode cX6_splits 53 = .ok (.aload_n 0, 1) := by decide +kernel
theorem dX6_splits_54 : decode cX6_splits 54 = .ok (.invokevirtual 165, 3) := by decide +kernel
theorem dX6_splits_57 : decode cX6_splits 57 = .ok (.aload_n 0, 1) := by decide +kernel
theorem dX6_splits_58 : decode cX6_splits 58 = .ok (.iload_n 1, 1) := by decide +kernel
theorem dX6_splits_59 : decode cX6_splits 59 = .ok (.invokevirtual 182, 3) := by decide +kernel
theorem dX6_splits_62 : decode cX6_splits 62 = .ok (.iconst 0, 1) := by decide +kernel
theorem dX6_splits_63 : decode cX6_splits 63 = .ok (.istore 4, 2) := by decide +kernel
theorem dX6_splits_65 : decode cX6_splits 65 = .ok (.iload 4, 2) := by decide +kernel
theorem dX6_splits_67 : decode cX6_splits 67 = .ok (.iconst 3, 1) := by decide +kernel
theorem dX6_splits_68 : decode cX6_splits 68 = .ok (.if_icmp .ge 31, 3) := by decide +kernel
theorem dX6_splits_71 : decode cX6_splits 71 = .ok (.iload_n 3, 1) := by decide +kernel
theorem dX6_splits_72 : decode cX6_splits 72 = .ok (.i2l, 1) := by decide +kernel
theorem dX6_splits_73 : decode cX6_splits 73 = .ok (.iload_n 2, 1) := by decide +kernel
theorem dX6_splits_74 : decode cX6_splits 74 = .ok (.iload 4, 2) := by decide +kernel
theorem dX6_splits_76 : decode cX6_splits 76 = .ok (.invokestatic 172, 3) := by decide +kernel
theorem dX6_splits_79 : decode cX6_splits 79 = .ok (.l2i, 1) := by decide +kernel
theorem dX6_splits_80 : decode cX6_splits 80 = .ok (.istore 5, 2) := by decide +kernel
theorem dX6_splits_82 : decode cX6_splits 82 = .ok (.iload 5, 2) := by decide +kernel
theorem dX6_splits_84 : decode cX6_splits 84 = .ok (.ifCond .le 9, 3) := by decide +kernel
theorem dX6_splits_87 : decode cX6_splits 87 = .ok (.aload_n 0, 1) := by decide +kernel
theorem dX6_splits_88 : decode cX6_splits 88 = .ok (.iload 5, 2) := by decide +kernel
theorem dX6_splits_90 : decode cX6_splits 90 = .ok (.invokevirtual 186, 3) := by decide +kernel
theorem dX6_splits_93 : decode cX6_splits 93 = .ok (.iinc 4 1, 3) := by decide +kernel
theorem dX6_splits_96 : decode cX6_splits 96 = .ok (.goto (-31), 3) := by decide +kernel
theorem dX6_splits_99 : decode cX6_splits 99 = .ok (.aload_n 0, 1) := by decide +kernel
theorem dX6_splits_100 : decode cX6_splits 100 = .ok (.getfield 7, 3) := by decide +kernel
theorem dX6_splits_103 : decode cX6_splits 103 = .ok (.iconst 0, 1) := by decide +kernel
theorem dX6_splits_104 : decode cX6_splits 104 = .ok (.iaload, 1) := by decide +kernel
theorem dX6_splits_105 : decode cX6_splits 105 = .ok (.ireturn, 1) := by decide +kernel
theorem dX6_joins_0 : decode cX6_joins 0 = .ok (.iload_n 1, 1) := by decide +kernel
theorem dX6_joins_1 : decode cX6_joins 1 = .ok (.i2l, 1) := by decide +kernel
theorem dX6_joins_2 : decode cX6_joins 2 = .ok (.lconst 0, 1) := by decide +kernel
theorem dX6_joins_3 : decode cX6_joins 3 = .ok (.aload_n 0, 1) := by decide +kernel
theorem dX6_joins_4 : decode cX6_joins 4 = .ok (.getfield 7, 3) := by decide +kernel
theorem dX6_joins_7 : decode cX6_joins 7 = .ok (.iconst 0, 1) := by decide +kernel
theorem dX6_joins_8 : decode cX6_joins 8 = .ok (.iaload, 1) := by decide +kernel
theorem dX6_joins_9 : decode cX6_joins 9 = .ok (.iconst 1, 1) := by decide +kernel
theorem dX6_joins_10 : decode cX6_joins 10 = .ok (.isub, 1) := by decide +kernel
theorem dX6_joins_11 : decode cX6_joins 11 = .ok (.i2l, 1) := by decide +kernel
theorem dX6_joins_12 : decode cX6_joins 12 = .ok (.invokestatic 66, 3) := by decide +kernel
theorem dX6_joins_15 : decode cX6_joins 15 = .ok (.ifCond .eq 26, 3) := by decide +kernel
theorem dX6_joins_18 : decode cX6_joins 18 = .ok (.iload_n 2, 1) := by decide +kernel
theorem dX6_joins_19 : decode cX6_joins 19 = .ok (.i2l, 1) := by decide +kernel
theorem dX6_joins_20 : decode cX6_joins 20 = .ok (.lconst 0, 1) := by decide +kernel
theorem dX6_joins_21 : decode cX6_joins 21 = .ok (.aload_n 0, 1) := by decide +kernel
theorem dX6_joins_22 : decode cX6_joins 22 = .ok (.getfield 7, 3) := by decide +kernel
theorem dX6_joins_25 : decode cX6_joins 25 = .ok (.iconst 0, 1) := by decide +kernel
theorem dX6_joins_26 : decode cX6_joins 26 = .ok (.iaload, 1) := by decide +kernel
theorem dX6_joins_27 : decode cX6_joins 27 = .ok (.iconst 1, 1) := by decide +kernel
theorem dX6_joins_28 : decode cX6_joins 28 = .ok (.isub, 1) := by decide +kernel
theorem dX6_joins_29 : decode cX6_joins 29 = .ok (.i2l, 1) := by decide +kernel
theorem dX6_joins_30 : decode cX6_joins 30 = .ok (.invokestatic 66, 3) := by decide +kernel
theorem dX6_joins_33 : decode cX6_joins 33 = .ok (.ifCond .eq 8, 3) := by decide +kernel
theorem dX6_joins_36 : decode cX6_joins 36 = .ok (.iload_n 1, 1) := by decide +kernel
theorem dX6_joins_37 : decode cX6_joins 37 = .ok (.iload_n 2, 1) := by decide +kernel
theorem dX6_joins_38 : decode cX6_joins 38 = .ok (.if_icmp .ne 5, 3) := by decide +kernel
theorem dX6_joins_41 : decode cX6_joins 41 = .ok (.iconst (-1), 1) := by decide +kernel
theorem dX6_joins_42 : decode cX6_joins 42 = .ok (.ireturn, 1) := by decide +kernel
theorem dX6_joins_43 : decode cX6_joins 43 = .ok (.aload_n 0, 1) := by decide +kernel
theorem dX6_joins_44 : decode cX6_joins 44 = .ok (.getfield 7, 3) := by decide +kernel
theorem dX6_joins_47 : decode cX6_joins 47 = .ok (.iconst 1, 1) := by decide +kernel
theorem dX6_joins_48 : decode cX6_joins 48 = .ok (.iload_n 1, 1) := by decide +kernel
theorem dX6_joins_49 : decode cX6_joins 49 = .ok (.iadd, 1) := by decide +kernel
theorem dX6_joins_50 : decode cX6_joins 50 = .ok (.iaload, 1) := by decide +kernel
theorem dX6_joins_51 : decode cX6_joins 51 = .ok (.i2l, 1) := by decide +kernel
theorem dX6_joins_52 : decode cX6_joins 52 = .ok (.lstore_n 3, 1) := by decide +kernel
theorem dX6_joins_53 : decode cX6_joins 53 = .ok (.aload_n 0, 1) := by decide +kernel
theorem dX6_joins_54 : decode cX6_joins 54 = .ok (.getfield 7, 3) := by decide +kernel
theorem dX6_joins_57 : decode cX6_joins 57 = .ok (.iconst 1, 1) := by decide +kernel
theorem dX6_joins_58 : decode cX6_joins 58 = .ok (.iload_n 2, 1) := by decide +kernel
theorem dX6_joins_59 : decode cX6_joins 59 = .ok (.iadd, 1) := by decide +kernel
theorem dX6_joins_60 : decode cX6_joins 60 = .ok (.iaload, 1) := by decide +kernel
theorem dX6_joins_61 : decode cX6_joins 61 = .ok (.i2l, 1) := by decide +kernel
theorem dX6_joins_62 : decode cX6_joins 62 = .ok (.lstore 5, 2) := by decide +kernel
theorem dX6_joins_64 : decode cX6_joins 64 = .ok (.lload_n 3, 1) := by decide +kernel
theorem dX6_joins_65 : decode cX6_joins 65 = .ok (.lload 5, 2) := by decide +kernel
theorem dX6_joins_67 : decode cX6_joins 67 = .ok (.lmul, 1) := by decide +kernel
theorem dX6_joins_68 : decode cX6_joins 68 = .ok (.lload_n 3, 1) := by decide +kernel
theorem dX6_joins_69 : decode cX6_joins 69 = .ok (.lload 5, 2) := by decide +kernel
theorem dX6_joins_71 : decode cX6_joins 71 = .ok (.ladd, 1) := by decide +kernel
theorem dX6_joins_72 : decode cX6_joins 72 = .ok (.ldiv, 1) := by decide +kernel
theorem dX6_joins_73 : decode cX6_joins 73 = .ok (.l2i, 1) := by decide +kernel
theorem dX6_joins_74 : decode cX6_joins 74 = .ok (.istore 7, 2) := by decide +kernel
theorem dX6_joins_76 : decode cX6_joins 76 = .ok (.lload_n 3, 1) := by decide +kernel
theorem dX6_joins_77 : decode cX6_joins 77 = .ok (.lload 5, 2) := by decide +kernel
theorem dX6_joins_79 : decode cX6_joins 79 = .ok (.lmul, 1) := by decide +kernel
theorem dX6_joins_80 : decode cX6_joins 80 = .ok (.lload_n 3, 1) := by decide +kernel
theorem dX6_joins_81 : decode cX6_joins 81 = .ok (.lload 5, 2) := by decide +kernel
theorem dX6_joins_83 : decode cX6_joins 83 = .ok (.ladd, 1) := by decide +kernel
theorem dX6_joins_84 : decode cX6_joins 84 = .ok (.lrem, 1) := by decide +kernel
theorem dX6_joins_85 : decode cX6_joins 85 = .ok (.lconst 0, 1) := by decide +kernel
theorem dX6_joins_86 : decode cX6_joins 86 = .ok (.lcmp, 1) := by decide +kernel
theorem dX6_joins_87 : decode cX6_joins 87 = .ok (.ifCond .ne 12, 3) := by decide +kernel
theorem dX6_joins_90 : decode cX6_joins 90 = .ok (.aload_n 0, 1) := by decide +kernel
theorem dX6_joins_91 : decode cX6_joins 91 = .ok (.iload 7, 2) := by decide +kernel
theorem dX6_joins_93 : decode cX6_joins 93 = .ok (.invokevirtual 176, 3) := by decide +kernel
theorem dX6_joins_96 : decode cX6_joins 96 = .ok (.ifCond .eq 6, 3) := by decide +kernel
theorem dX6_joins_99 : decode cX6_joins 99 = .ok (.bipush (-2), 2) := by decide +kernel
theorem dX6_joins_101 : decode cX6_joins 101 = .ok (.ireturn, 1) := by decide +kernel
theorem dX6_joins_102 : decode cX6_joins 102 = .ok (.aload_n 0, 1) := by decide +kernel
theorem dX6_joins_103 : decode cX6_joins 103 = .ok (.invokevirtual 165, 3) := by decide +kernel
theorem dX6_joins_106 : decode cX6_joins 106 = .ok (.aload_n 0, 1) := by decide +kernel
theorem dX6_joins_107 : decode cX6_joins 107 = .ok (.iload_n 1, 1) := by decide +kernel
theorem dX6_joins_108 : decode cX6_joins 108 = .ok (.iload_n 2, 1) := by decide +kernel
theorem dX6_joins_109 : decode cX6_joins 109 = .ok (.if_icmp .le 7, 3) := by decide +kernel
theorem dX6_joins_112 : decode cX6_joins 112 = .ok (.iload_n 1, 1) := by decide +kernel
theorem dX6_joins_113 : decode cX6_joins 113 = .ok (.goto 4, 3) := by decide +kernel
theorem dX6_joins_116 : decode cX6_joins 116 = .ok (.iload_n 2, 1) := by decide +kernel
theorem dX6_joins_117 : decode cX6_joins 117 = .ok (.invokevirtual 182, 3) := by decide +kernel
theorem dX6_joins_120 : decode cX6_joins 120 = .ok (.aload_n 0, 1) := by decide +kernel
theorem dX6_joins_121 : decode cX6_joins 121 = .ok (.iload_n 1, 1) := by decide +kernel
theorem dX6_joins_122 : decode cX6_joins 122 = .ok (.iload_n 2, 1) := by decide +kernel
theorem dX6_joins_123 : decode cX6_joins 123 = .ok (.if_icmp .le 7, 3) := by decide +kernel
theorem dX6_joins_126 : decode cX6_joins 126 = .ok (.iload_n 2, 1) := by decide +kernel
theorem dX6_joins_127 : decode cX6_joins 127 = .ok (.goto 4, 3) := by decide +kernel
theorem dX6_joins_130 : decode cX6_joins 130 = .ok (.iload_n 1, 1) := by decide +kernel
theorem dX6_joins_131 : decode cX6_joins 131 = .ok (.invokevirtual 182, 3) := by decide +kernel
theorem dX6_joins_134 : decode cX6_joins 134 = .ok (.aload_n 0, 1) := by decide +kernel
theorem dX6_joins_135 : decode cX6_joins 135 = .ok (.iload 7, 2) := by decide +kernel
theorem dX6_joins_137 : decode cX6_joins 137 = .ok (.invokevirtual 186, 3) := by decide +kernel
theorem dX6_joins_140 : decode cX6_joins 140 = .ok (.iload 7, 2) := by decide +kernel
theorem dX6_joins_142 : decode cX6_joins 142 = .ok (.ireturn, 1) := by decide +kernel
theorem dX6_undo_0 : decode cX6_undo 0 = .ok (.aload_n 0, 1) := by decide +kernel
theorem dX6_undo_1 : decode cX6_undo 1 = .ok (.getfield 55, 3) := by decide +kernel
theorem dX6_undo_4 : decode cX6_undo 4 = .ok (.ifCond .ne 6, 3) := by decide +kernel
theorem dX6_undo_7 : decode cX6_undo 7 = .ok (.bipush (-2), 2) := by decide +kernel
theorem dX6_undo_9 : decode cX6_undo 9 = .ok (.ireturn, 1) := by decide +kernel
theorem dX6_undo_10 : decode cX6_undo 10 = .ok (.aload_n 0, 1) := by decide +kernel
theorem dX6_undo_11 : decode cX6_undo 11 = .ok (.dup, 1) := by decide +kernel
theorem dX6_undo_12 : decode cX6_undo 12 = .ok (.getfield 55, 3) := by decide +kernel
theorem dX6_undo_15 : decode cX6_undo 15 = .ok (.iconst 1, 1) := by decide +kernel
theorem dX6_undo_16 : decode cX6_undo 16 = .ok (.isub, 1) := by decide +kernel
theorem dX6_undo_17 : decode cX6_undo 17 = .ok (.putfield 55, 3) := by decide +kernel
theorem dX6_undo_20 : decode cX6_undo 20 = .ok (.aload_n 0, 1) := by decide +kernel
theorem dX6_undo_21 : decode cX6_undo 21 = .ok (.bipush 27, 2) := by decide +kernel
theorem dX6_undo_23 : decode cX6_undo 23 = .ok (.bipush 9, 2) := by decide +kernel
theorem dX6_undo_25 : decode cX6_undo 25 = .ok (.aload_n 0, 1) := by decide +kernel
theorem dX6_undo_26 : decode cX6_undo 26 = .ok (.getfield 55, 3) := by decide +kernel
theorem dX6_undo_29 : decode cX6_undo 29 = .ok (.imul, 1) := by decide +kernel
theorem dX6_undo_30 : decode cX6_undo 30 = .ok (.iadd, 1) := by decide +kernel
theorem dX6_undo_31 : decode cX6_undo 31 = .ok (.iconst 0, 1) := by decide +kernel
theorem dX6_undo_32 : decode cX6_undo 32 = .ok (.invokevirtual 58, 3) := by decide +kernel
theorem dX6_undo_35 : decode cX6_undo 35 = .ok (.aload_n 0, 1) := by decide +kernel
theorem dX6_undo_36 : decode cX6_undo 36 = .ok (.getfield 55, 3) := by decide +kernel
theorem dX6_undo_39 : decode cX6_undo 39 = .ok (.ireturn, 1) := by decide +kernel
theorem dX6_term_0 : decode cX6_term 0 = .ok (.iload_n 1, 1) := by decide +kernel
theorem dX6_term_1 : decode cX6_term 1 = .ok (.ifCond .ge 7, 3) := by decide +kernel
theorem dX6_term_4 : decode cX6_term 4 = .ok (.iconst (-1), 1) := by decide +kernel
theorem dX6_term_5 : decode cX6_term 5 = .ok (.goto 26, 3) := by decide +kernel
theorem dX6_term_8 : decode cX6_term 8 = .ok (.iload_n 1, 1) := by decide +kernel
theorem dX6_term_9 : decode cX6_term 9 = .ok (.aload_n 0, 1) := by decide +kernel
theorem dX6_term_10 : decode cX6_term 10 = .ok (.getfield 7, 3) := by decide +kernel
theorem dX6_term_13 : decode cX6_term 13 = .ok (.iconst 0, 1) := by decide +kernel
theorem dX6_term_14 : decode cX6_term 14 = .ok (.iaload, 1) := by decide +kernel
theorem dX6_term_15 : decode cX6_term 15 = .ok (.if_icmp .ge 14, 3) := by decide +kernel
theorem dX6_term_18 : decode cX6_term 18 = .ok (.aload_n 0, 1) := by decide +kernel
theorem dX6_term_19 : decode cX6_term 19 = .ok (.getfield 7, 3) := by decide +kernel
theorem dX6_term_22 : decode cX6_term 22 = .ok (.iconst 1, 1) := by decide +kernel
theorem dX6_term_23 : decode cX6_term 23 = .ok (.iload_n 1, 1) := by decide +kernel
theorem dX6_term_24 : decode cX6_term 24 = .ok (.iadd, 1) := by decide +kernel
theorem dX6_term_25 : decode cX6_term 25 = .ok (.iaload, 1) := by decide +kernel
theorem dX6_term_26 : decode cX6_term 26 = .ok (.goto 5, 3) := by decide +kernel
theorem dX6_term_29 : decode cX6_term 29 = .ok (.bipush (-9), 2) := by decide +kernel
theorem dX6_term_31 : decode cX6_term 31 = .ok (.ireturn, 1) := by decide +kernel
theorem dX6_isHeld_0 : decode cX6_isHeld 0 = .ok (.iload_n 1, 1) := by decide +kernel
theorem dX6_isHeld_1 : decode cX6_isHeld 1 = .ok (.tableswitch 93 0 3 #[31, 43, 57, 77], 31) := by decide +kernel
theorem dX6_isHeld_32 : decode cX6_isHeld 32 = .ok (.iload_n 2, 1) := by decide +kernel
theorem dX6_isHeld_33 : decode cX6_isHeld 33 = .ok (.iload_n 0, 1) := by decide +kernel
theorem dX6_isHeld_34 : decode cX6_isHeld 34 = .ok (.irem, 1) := by decide +kernel
theorem dX6_isHeld_35 : decode cX6_isHeld 35 = .ok (.ifCond .ne 7, 3) := by decide +kernel
theorem dX6_isHeld_38 : decode cX6_isHeld 38 = .ok (.iconst 1, 1) := by decide +kernel
theorem dX6_isHeld_39 : decode cX6_isHeld 39 = .ok (.goto 4, 3) := by decide +kernel
theorem dX6_isHeld_42 : decode cX6_isHeld 42 = .ok (.iconst 0, 1) := by decide +kernel
theorem dX6_isHeld_43 : decode cX6_isHeld 43 = .ok (.ireturn, 1) := by decide +kernel
theorem dX6_isHeld_44 : decode cX6_isHeld 44 = .ok (.iload_n 2, 1) := by decide +kernel
theorem dX6_isHeld_45 : decode cX6_isHeld 45 = .ok (.iconst 1, 1) := by decide +kernel
theorem dX6_isHeld_46 : decode cX6_isHeld 46 = .ok (.iadd, 1) := by decide +kernel
theorem dX6_isHeld_47 : decode cX6_isHeld 47 = .ok (.iload_n 0, 1) := by decide +kernel
theorem dX6_isHeld_48 : decode cX6_isHeld 48 = .ok (.irem, 1) := by decide +kernel
theorem dX6_isHeld_49 : decode cX6_isHeld 49 = .ok (.ifCond .ne 7, 3) := by decide +kernel
theorem dX6_isHeld_52 : decode cX6_isHeld 52 = .ok (.iconst 1, 1) := by decide +kernel
theorem dX6_isHeld_53 : decode cX6_isHeld 53 = .ok (.goto 4, 3) := by decide +kernel
theorem dX6_isHeld_56 : decode cX6_isHeld 56 = .ok (.iconst 0, 1) := by decide +kernel
theorem dX6_isHeld_57 : decode cX6_isHeld 57 = .ok (.ireturn, 1) := by decide +kernel
theorem dX6_isHeld_58 : decode cX6_isHeld 58 = .ok (.iload_n 2, 1) := by decide +kernel
theorem dX6_isHeld_59 : decode cX6_isHeld 59 = .ok (.iconst 2, 1) := by decide +kernel
theorem dX6_isHeld_60 : decode cX6_isHeld 60 = .ok (.iadd, 1) := by decide +kernel
theorem dX6_isHeld_61 : decode cX6_isHeld 61 = .ok (.iload_n 0, 1) := by decide +kernel
theorem dX6_isHeld_62 : decode cX6_isHeld 62 = .ok (.irem, 1) := by decide +kernel
theorem dX6_isHeld_63 : decode cX6_isHeld 63 = .ok (.ifCond .ne 13, 3) := by decide +kernel
theorem dX6_isHeld_66 : decode cX6_isHeld 66 = .ok (.iload_n 2, 1) := by decide +kernel
theorem dX6_isHeld_67 : decode cX6_isHeld 67 = .ok (.iconst 2, 1) := by decide +kernel
theorem dX6_isHeld_68 : decode cX6_isHeld 68 = .ok (.irem, 1) := by decide +kernel
theorem dX6_isHeld_69 : decode cX6_isHeld 69 = .ok (.ifCond .ne 7, 3) := by decide +kernel
theorem dX6_isHeld_72 : decode cX6_isHeld 72 = .ok (.iconst 1, 1) := by decide +kernel
theorem dX6_isHeld_73 : decode cX6_isHeld 73 = .ok (.goto 4, 3) := by decide +kernel
theorem dX6_isHeld_76 : decode cX6_isHeld 76 = .ok (.iconst 0, 1) := by decide +kernel
theorem dX6_isHeld_77 : decode cX6_isHeld 77 = .ok (.ireturn, 1) := by decide +kernel
theorem dX6_isHeld_78 : decode cX6_isHeld 78 = .ok (.iload_n 2, 1) := by decide +kernel
theorem dX6_isHeld_79 : decode cX6_isHeld 79 = .ok (.iconst 1, 1) := by decide +kernel
theorem dX6_isHeld_80 : decode cX6_isHeld 80 = .ok (.iadd, 1) := by decide +kernel
theorem dX6_isHeld_81 : decode cX6_isHeld 81 = .ok (.iload_n 0, 1) := by decide +kernel
theorem dX6_isHeld_82 : decode cX6_isHeld 82 = .ok (.iconst 1, 1) := by decide +kernel
theorem dX6_isHeld_83 : decode cX6_isHeld 83 = .ok (.isub, 1) := by decide +kernel
theorem dX6_isHeld_84 : decode cX6_isHeld 84 = .ok (.irem, 1) := by decide +kernel
theorem dX6_isHeld_85 : decode cX6_isHeld 85 = .ok (.ifCond .ne 7, 3) := by decide +kernel
theorem dX6_isHeld_88 : decode cX6_isHeld 88 = .ok (.iconst 1, 1) := by decide +kernel
theorem dX6_isHeld_89 : decode cX6_isHeld 89 = .ok (.goto 4, 3) := by decide +kernel
theorem dX6_isHeld_92 : decode cX6_isHeld 92 = .ok (.iconst 0, 1) := by decide +kernel
theorem dX6_isHeld_93 : decode cX6_isHeld 93 = .ok (.ireturn, 1) := by decide +kernel
theorem dX6_isHeld_94 : decode cX6_isHeld 94 = .ok (.iload_n 2, 1) := by decide +kernel
theorem dX6_isHeld_95 : decode cX6_isHeld 95 = .ok (.iload_n 0, 1) := by decide +kernel
theorem dX6_isHeld_96 : decode cX6_isHeld 96 = .ok (.iconst 1, 1) := by decide +kernel
theorem dX6_isHeld_97 : decode cX6_isHeld 97 = .ok (.isub, 1) := by decide +kernel
theorem dX6_isHeld_98 : decode cX6_isHeld 98 = .ok (.irem, 1) := by decide +kernel
theorem dX6_isHeld_99 : decode cX6_isHeld 99 = .ok (.ifCond .ne 7, 3) := by decide +kernel
theorem dX6_isHeld_102 : decode cX6_isHeld 102 = .ok (.iconst 1, 1) := by decide +kernel
theorem dX6_isHeld_103 : decode cX6_isHeld 103 = .ok (.goto 4, 3) := by decide +kernel
theorem dX6_isHeld_106 : decode cX6_isHeld 106 = .ok (.iconst 0, 1) := by decide +kernel
theorem dX6_isHeld_107 : decode cX6_isHeld 107 = .ok (.ireturn, 1) := by decide +kernel
theorem dX6_held_0 : decode cX6_held 0 = .ok (.iconst 0, 1) := by decide +kernel
theorem dX6_held_1 : decode cX6_held 1 = .ok (.istore_n 2, 1) := by decide +kernel
theorem dX6_held_2 : decode cX6_held 2 = .ok (.iconst 0, 1) := by decide +kernel
theorem dX6_held_3 : decode cX6_held 3 = .ok (.istore_n 3, 1) := by decide +kernel
theorem dX6_held_4 : decode cX6_held 4 = .ok (.iload_n 3, 1) := by decide +kernel
theorem dX6_held_5 : decode cX6_held 5 = .ok (.iconst 5, 1) := by decide +kernel
theorem dX6_held_6 : decode cX6_held 6 = .ok (.if_icmp .ge 28, 3) := by decide +kernel
theorem dX6_held_9 : decode cX6_held 9 = .ok (.iload_n 2, 1) := by decide +kernel
theorem dX6_held_10 : decode cX6_held 10 = .ok (.iload_n 0, 1) := by decide +kernel
theorem dX6_held_11 : decode cX6_held 11 = .ok (.iload_n 3, 1) := by decide +kernel
theorem dX6_held_12 : decode cX6_held 12 = .ok (.iload_n 1, 1) := by decide +kernel
theorem dX6_held_13 : decode cX6_held 13 = .ok (.invokestatic 189, 3) := by decide +kernel
theorem dX6_held_16 : decode cX6_held 16 = .ok (.ifCond .eq 9, 3) := by decide +kernel
theorem dX6_held_19 : decode cX6_held 19 = .ok (.iconst 1, 1) := by decide +kernel
theorem dX6_held_20 : decode cX6_held 20 = .ok (.iload_n 3, 1) := by decide +kernel
theorem dX6_held_21 : decode cX6_held 21 = .ok (.ishl, 1) := by decide +kernel
theorem dX6_held_22 : decode cX6_held 22 = .ok (.goto 4, 3) := by decide +kernel
theorem dX6_held_25 : decode cX6_held 25 = .ok (.iconst 0, 1) := by decide +kernel
theorem dX6_held_26 : decode cX6_held 26 = .ok (.ior, 1) := by decide +kernel
theorem dX6_held_27 : decode cX6_held 27 = .ok (.istore_n 2, 1) := by decide +kernel
theorem dX6_held_28 : decode cX6_held 28 = .ok (.iinc 3 1, 3) := by decide +kernel
theorem dX6_held_31 : decode cX6_held 31 = .ok (.goto (-27), 3) := by decide +kernel
theorem dX6_held_34 : decode cX6_held 34 = .ok (.iload_n 2, 1) := by decide +kernel
theorem dX6_held_35 : decode cX6_held 35 = .ok (.ireturn, 1) := by decide +kernel
theorem dX6_holds_0 : decode cX6_holds 0 = .ok (.iload_n 1, 1) := by decide +kernel
theorem dX6_holds_1 : decode cX6_holds 1 = .ok (.i2l, 1) := by decide +kernel
theorem dX6_holds_2 : decode cX6_holds 2 = .ok (.ldc2_w 126, 3) := by decide +kernel
theorem dX6_holds_5 : decode cX6_holds 5 = .ok (.ldc2_w 193, 3) := by decide +kernel
theorem dX6_holds_8 : decode cX6_holds 8 = .ok (.invokestatic 66, 3) := by decide +kernel
theorem dX6_holds_11 : decode cX6_holds 11 = .ok (.ifCond .eq 27, 3) := by decide +kernel
theorem dX6_holds_14 : decode cX6_holds 14 = .ok (.iload_n 2, 1) := by decide +kernel
theorem dX6_holds_15 : decode cX6_holds 15 = .ok (.i2l, 1) := by decide +kernel
theorem dX6_holds_16 : decode cX6_holds 16 = .ok (.lconst 0, 1) := by decide +kernel
theorem dX6_holds_17 : decode cX6_holds 17 = .ok (.ldc2_w 168, 3) := by decide +kernel
theorem dX6_holds_20 : decode cX6_holds 20 = .ok (.invokestatic 66, 3) := by decide +kernel
theorem dX6_holds_23 : decode cX6_holds 23 = .ok (.ifCond .eq 15, 3) := by decide +kernel
theorem dX6_holds_26 : decode cX6_holds 26 = .ok (.iload_n 3, 1) := by decide +kernel
theorem dX6_holds_27 : decode cX6_holds 27 = .ok (.i2l, 1) := by decide +kernel
theorem dX6_holds_28 : decode cX6_holds 28 = .ok (.lconst 1, 1) := by decide +kernel
theorem dX6_holds_29 : decode cX6_holds 29 = .ok (.ldc2_w 195, 3) := by decide +kernel
theorem dX6_holds_32 : decode cX6_holds 32 = .ok (.invokestatic 66, 3) := by decide +kernel
theorem dX6_holds_35 : decode cX6_holds 35 = .ok (.ifCond .ne 7, 3) := by decide +kernel
theorem dX6_holds_38 : decode cX6_holds 38 = .ok (.iconst (-1), 1) := by decide +kernel
theorem dX6_holds_39 : decode cX6_holds 39 = .ok (.goto 12, 3) := by decide +kernel
theorem dX6_holds_42 : decode cX6_holds 42 = .ok (.iload_n 1, 1) := by decide +kernel
theorem dX6_holds_43 : decode cX6_holds 43 = .ok (.iload_n 3, 1) := by decide +kernel
theorem dX6_holds_44 : decode cX6_holds 44 = .ok (.invokestatic 197, 3) := by decide +kernel
theorem dX6_holds_47 : decode cX6_holds 47 = .ok (.iload_n 2, 1) := by decide +kernel
theorem dX6_holds_48 : decode cX6_holds 48 = .ok (.ishr, 1) := by decide +kernel
theorem dX6_holds_49 : decode cX6_holds 49 = .ok (.iconst 1, 1) := by decide +kernel
theorem dX6_holds_50 : decode cX6_holds 50 = .ok (.iand, 1) := by decide +kernel
theorem dX6_holds_51 : decode cX6_holds 51 = .ok (.ireturn, 1) := by decide +kernel
theorem dX6_covered_0 : decode cX6_covered 0 = .ok (.iload_n 1, 1) := by decide +kernel
theorem dX6_covered_1 : decode cX6_covered 1 = .ok (.i2l, 1) := by decide +kernel
theorem dX6_covered_2 : decode cX6_covered 2 = .ok (.ldc2_w 126, 3) := by decide +kernel
theorem dX6_covered_5 : decode cX6_covered 5 = .ok (.ldc2_w 193, 3) := by decide +kernel
theorem dX6_covered_8 : decode cX6_covered 8 = .ok (.invokestatic 66, 3) := by decide +kernel
theorem dX6_covered_11 : decode cX6_covered 11 = .ok (.ifCond .eq 27, 3) := by decide +kernel
theorem dX6_covered_14 : decode cX6_covered 14 = .ok (.iload_n 2, 1) := by decide +kernel
theorem dX6_covered_15 : decode cX6_covered 15 = .ok (.i2l, 1) := by decide +kernel
theorem dX6_covered_16 : decode cX6_covered 16 = .ok (.lconst 1, 1) := by decide +kernel
theorem dX6_covered_17 : decode cX6_covered 17 = .ok (.ldc2_w 200, 3) := by decide +kernel
theorem dX6_covered_20 : decode cX6_covered 20 = .ok (.invokestatic 66, 3) := by decide +kernel
theorem dX6_covered_23 : decode cX6_covered 23 = .ok (.ifCond .eq 15, 3) := by decide +kernel
theorem dX6_covered_26 : decode cX6_covered 26 = .ok (.iload_n 3, 1) := by decide +kernel
theorem dX6_covered_27 : decode cX6_covered 27 = .ok (.i2l, 1) := by decide +kernel
theorem dX6_covered_28 : decode cX6_covered 28 = .ok (.lconst 0, 1) := by decide +kernel
theorem dX6_covered_29 : decode cX6_covered 29 = .ok (.ldc2_w 202, 3) := by decide +kernel
theorem dX6_covered_32 : decode cX6_covered 32 = .ok (.invokestatic 66, 3) := by decide +kernel
theorem dX6_covered_35 : decode cX6_covered 35 = .ok (.ifCond .ne 5, 3) := by decide +kernel
theorem dX6_covered_38 : decode cX6_covered 38 = .ok (.iconst (-1), 1) := by decide +kernel
theorem dX6_covered_39 : decode cX6_covered 39 = .ok (.ireturn, 1) := by decide +kernel
theorem dX6_covered_40 : decode cX6_covered 40 = .ok (.iconst 0, 1) := by decide +kernel
theorem dX6_covered_41 : decode cX6_covered 41 = .ok (.istore 4, 2) := by decide +kernel
theorem dX6_covered_43 : decode cX6_covered 43 = .ok (.iconst 0, 1) := by decide +kernel
theorem dX6_covered_44 : decode cX6_covered 44 = .ok (.istore 5, 2) := by decide +kernel
theorem dX6_covered_46 : decode cX6_covered 46 = .ok (.iload 5, 2) := by decide +kernel
theorem dX6_covered_48 : decode cX6_covered 48 = .ok (.iload_n 2, 1) := by decide +kernel
theorem dX6_covered_49 : decode cX6_covered 49 = .ok (.if_icmp .ge 71, 3) := by decide +kernel
theorem dX6_covered_52 : decode cX6_covered 52 = .ok (.iload_n 3, 1) := by decide +kernel
theorem dX6_covered_53 : decode cX6_covered 53 = .ok (.istore 6, 2) := by decide +kernel
theorem dX6_covered_55 : decode cX6_covered 55 = .ok (.iload 5, 2) := by decide +kernel
theorem dX6_covered_57 : decode cX6_covered 57 = .ok (.ifCond .ne 7, 3) := by decide +kernel
theorem dX6_covered_60 : decode cX6_covered 60 = .ok (.iconst 1, 1) := by decide +kernel
theorem dX6_covered_61 : decode cX6_covered 61 = .ok (.goto 4, 3) := by decide +kernel
theorem dX6_covered_64 : decode cX6_covered 64 = .ok (.iconst 0, 1) := by decide +kernel
theorem dX6_covered_65 : decode cX6_covered 65 = .ok (.istore 7, 2) := by decide +kernel
theorem dX6_covered_67 : decode cX6_covered 67 = .ok (.iload 7, 2) := by decide +kernel
theorem dX6_covered_69 : decode cX6_covered 69 = .ok (.bipush 85, 2) := by decide +kernel
theorem dX6_covered_71 : decode cX6_covered 71 = .ok (.if_icmp .ge 25, 3) := by decide +kernel
theorem dX6_covered_74 : decode cX6_covered 74 = .ok (.iload 6, 2) := by decide +kernel
theorem dX6_covered_76 : decode cX6_covered 76 = .ok (.iload_n 1, 1) := by decide +kernel
theorem dX6_covered_77 : decode cX6_covered 77 = .ok (.iload 5, 2) := by decide +kernel
theorem dX6_covered_79 : decode cX6_covered 79 = .ok (.iload 7, 2) := by decide +kernel
theorem dX6_covered_81 : decode cX6_covered 81 = .ok (.iload_n 2, 1) := by decide +kernel
theorem dX6_covered_82 : decode cX6_covered 82 = .ok (.imul, 1) := by decide +kernel
theorem dX6_covered_83 : decode cX6_covered 83 = .ok (.iadd, 1) := by decide +kernel
theorem dX6_covered_84 : decode cX6_covered 84 = .ok (.invokestatic 197, 3) := by decide +kernel
theorem dX6_covered_87 : decode cX6_covered 87 = .ok (.iand, 1) := by decide +kernel
theorem dX6_covered_88 : decode cX6_covered 88 = .ok (.istore 6, 2) := by decide +kernel
theorem dX6_covered_90 : decode cX6_covered 90 = .ok (.iinc 7 1, 3) := by decide +kernel
theorem dX6_covered_93 : decode cX6_covered 93 = .ok (.goto (-26), 3) := by decide +kernel
theorem dX6_covered_96 : decode cX6_covered 96 = .ok (.iload 4, 2) := by decide +kernel
theorem dX6_covered_98 : decode cX6_covered 98 = .ok (.iload 6, 2) := by decide +kernel
theorem dX6_covered_100 : decode cX6_covered 100 = .ok (.ifCond .eq 10, 3) := by decide +kernel
theorem dX6_covered_103 : decode cX6_covered 103 = .ok (.iconst 1, 1) := by decide +kernel
theorem dX6_covered_104 : decode cX6_covered 104 = .ok (.iload 5, 2) := by decide +kernel
theorem dX6_covered_106 : decode cX6_covered 106 = .ok (.ishl, 1) := by decide +kernel
theorem dX6_covered_107 : decode cX6_covered 107 = .ok (.goto 4, 3) := by decide +kernel
theorem dX6_covered_110 : decode cX6_covered 110 = .ok (.iconst 0, 1) := by decide +kernel
theorem dX6_covered_111 : decode cX6_covered 111 = .ok (.ior, 1) := by decide +kernel
theorem dX6_covered_112 : decode cX6_covered 112 = .ok (.istore 4, 2) := by decide +kernel
theorem dX6_covered_114 : decode cX6_covered 114 = .ok (.iinc 5 1, 3) := by decide +kernel
theorem dX6_covered_117 : decode cX6_covered 117 = .ok (.goto (-71), 3) := by decide +kernel
theorem dX6_covered_120 : decode cX6_covered 120 = .ok (.iload 4, 2) := by decide +kernel
theorem dX6_covered_122 : decode cX6_covered 122 = .ok (.ireturn, 1) := by decide +kernel
theorem dX6_open_0 : decode cX6_open 0 = .ok (.iload_n 1, 1) := by decide +kernel
theorem dX6_open_1 : decode cX6_open 1 = .ok (.i2l, 1) := by decide +kernel
theorem dX6_open_2 : decode cX6_open 2 = .ok (.ldc2_w 126, 3) := by decide +kernel
theorem dX6_open_5 : decode cX6_open 5 = .ok (.ldc2_w 193, 3) := by decide +kernel
theorem dX6_open_8 : decode cX6_open 8 = .ok (.invokestatic 66, 3) := by decide +kernel
theorem dX6_open_11 : decode cX6_open 11 = .ok (.ifCond .eq 15, 3) := by decide +kernel
theorem dX6_open_14 : decode cX6_open 14 = .ok (.iload_n 2, 1) := by decide +kernel
theorem dX6_open_15 : decode cX6_open 15 = .ok (.i2l, 1) := by decide +kernel
theorem dX6_open_16 : decode cX6_open 16 = .ok (.lconst 0, 1) := by decide +kernel
theorem dX6_open_17 : decode cX6_open 17 = .ok (.ldc2_w 202, 3) := by decide +kernel
theorem dX6_open_20 : decode cX6_open 20 = .ok (.invokestatic 66, 3) := by decide +kernel
theorem dX6_open_23 : decode cX6_open 23 = .ok (.ifCond .ne 5, 3) := by decide +kernel
theorem dX6_open_26 : decode cX6_open 26 = .ok (.iconst (-1), 1) := by decide +kernel
theorem dX6_open_27 : decode cX6_open 27 = .ok (.ireturn, 1) := by decide +kernel
theorem dX6_open_28 : decode cX6_open 28 = .ok (.iconst 1, 1) := by decide +kernel
theorem dX6_open_29 : decode cX6_open 29 = .ok (.istore_n 3, 1) := by decide +kernel
theorem dX6_open_30 : decode cX6_open 30 = .ok (.iload_n 3, 1) := by decide +kernel
theorem dX6_open_31 : decode cX6_open 31 = .ok (.sipush 1000, 3) := by decide +kernel
theorem dX6_open_34 : decode cX6_open 34 = .ok (.if_icmp .ge 19, 3) := by decide +kernel
theorem dX6_open_37 : decode cX6_open 37 = .ok (.iload_n 1, 1) := by decide +kernel
theorem dX6_open_38 : decode cX6_open 38 = .ok (.iload_n 3, 1) := by decide +kernel
theorem dX6_open_39 : decode cX6_open 39 = .ok (.invokestatic 197, 3) := by decide +kernel
theorem dX6_open_42 : decode cX6_open 42 = .ok (.iload_n 2, 1) := by decide +kernel
theorem dX6_open_43 : decode cX6_open 43 = .ok (.iand, 1) := by decide +kernel
theorem dX6_open_44 : decode cX6_open 44 = .ok (.ifCond .eq 9, 3) := by decide +kernel
theorem dX6_open_47 : decode cX6_open 47 = .ok (.iinc 3 1, 3) := by decide +kernel
theorem dX6_open_50 : decode cX6_open 50 = .ok (.goto (-20), 3) := by decide +kernel
theorem dX6_open_53 : decode cX6_open 53 = .ok (.iload_n 3, 1) := by decide +kernel
theorem dX6_open_54 : decode cX6_open 54 = .ok (.sipush 1000, 3) := by decide +kernel
theorem dX6_open_57 : decode cX6_open 57 = .ok (.if_icmp .ge 7, 3) := by decide +kernel
theorem dX6_open_60 : decode cX6_open 60 = .ok (.iload_n 3, 1) := by decide +kernel
theorem dX6_open_61 : decode cX6_open 61 = .ok (.goto 5, 3) := by decide +kernel
theorem dX6_open_64 : decode cX6_open 64 = .ok (.bipush (-9), 2) := by decide +kernel
theorem dX6_open_66 : decode cX6_open 66 = .ok (.ireturn, 1) := by decide +kernel
theorem dX6_sees_0 : decode cX6_sees 0 = .ok (.iload_n 1, 1) := by decide +kernel
theorem dX6_sees_1 : decode cX6_sees 1 = .ok (.i2l, 1) := by decide +kernel
theorem dX6_sees_2 : decode cX6_sees 2 = .ok (.ldc2_w 126, 3) := by decide +kernel
theorem dX6_sees_5 : decode cX6_sees 5 = .ok (.ldc2_w 193, 3) := by decide +kernel
theorem dX6_sees_8 : decode cX6_sees 8 = .ok (.invokestatic 66, 3) := by decide +kernel
theorem dX6_sees_11 : decode cX6_sees 11 = .ok (.ifCond .eq 25, 3) := by decide +kernel
theorem dX6_sees_14 : decode cX6_sees 14 = .ok (.iload_n 2, 1) := by decide +kernel
theorem dX6_sees_15 : decode cX6_sees 15 = .ok (.i2l, 1) := by decide +kernel
theorem dX6_sees_16 : decode cX6_sees 16 = .ok (.lconst 1, 1) := by decide +kernel
theorem dX6_sees_17 : decode cX6_sees 17 = .ok (.ldc2_w 195, 3) := by decide +kernel
theorem dX6_sees_20 : decode cX6_sees 20 = .ok (.invokestatic 66, 3) := by decide +kernel
theorem dX6_sees_23 : decode cX6_sees 23 = .ok (.ifCond .eq 13, 3) := by decide +kernel
theorem dX6_sees_26 : decode cX6_sees 26 = .ok (.iload_n 3, 1) := by decide +kernel
theorem dX6_sees_27 : decode cX6_sees 27 = .ok (.i2l, 1) := by decide +kernel
theorem dX6_sees_28 : decode cX6_sees 28 = .ok (.lconst 0, 1) := by decide +kernel
theorem dX6_sees_29 : decode cX6_sees 29 = .ok (.lconst 1, 1) := by decide +kernel
theorem dX6_sees_30 : decode cX6_sees 30 = .ok (.invokestatic 66, 3) := by decide +kernel
theorem dX6_sees_33 : decode cX6_sees 33 = .ok (.ifCond .ne 5, 3) := by decide +kernel
theorem dX6_sees_36 : decode cX6_sees 36 = .ok (.iconst (-1), 1) := by decide +kernel
theorem dX6_sees_37 : decode cX6_sees 37 = .ok (.ireturn, 1) := by decide +kernel
theorem dX6_sees_38 : decode cX6_sees 38 = .ok (.aload_n 0, 1) := by decide +kernel
theorem dX6_sees_39 : decode cX6_sees 39 = .ok (.getfield 123, 3) := by decide +kernel
theorem dX6_sees_42 : decode cX6_sees 42 = .ok (.bipush 6, 2) := by decide +kernel
theorem dX6_sees_44 : decode cX6_sees 44 = .ok (.if_icmp .ne 6, 3) := by decide +kernel
theorem dX6_sees_47 : decode cX6_sees 47 = .ok (.bipush (-3), 2) := by decide +kernel
theorem dX6_sees_49 : decode cX6_sees 49 = .ok (.ireturn, 1) := by decide +kernel
theorem dX6_sees_50 : decode cX6_sees 50 = .ok (.aload_n 0, 1) := by decide +kernel
theorem dX6_sees_51 : decode cX6_sees 51 = .ok (.getfield 24, 3) := by decide +kernel
theorem dX6_sees_54 : decode cX6_sees 54 = .ok (.aload_n 0, 1) := by decide +kernel
theorem dX6_sees_55 : decode cX6_sees 55 = .ok (.getfield 123, 3) := by decide +kernel
theorem dX6_sees_58 : decode cX6_sees 58 = .ok (.iload_n 1, 1) := by decide +kernel
theorem dX6_sees_59 : decode cX6_sees 59 = .ok (.iastore, 1) := by decide +kernel
theorem dX6_sees_60 : decode cX6_sees 60 = .ok (.aload_n 0, 1) := by decide +kernel
theorem dX6_sees_61 : decode cX6_sees 61 = .ok (.getfield 27, 3) := by decide +kernel
theorem dX6_sees_64 : decode cX6_sees 64 = .ok (.aload_n 0, 1) := by decide +kernel
theorem dX6_sees_65 : decode cX6_sees 65 = .ok (.getfield 123, 3) := by decide +kernel
theorem dX6_sees_68 : decode cX6_sees 68 = .ok (.iload_n 2, 1) := by decide +kernel
theorem dX6_sees_69 : decode cX6_sees 69 = .ok (.iastore, 1) := by decide +kernel
theorem dX6_sees_70 : decode cX6_sees 70 = .ok (.aload_n 0, 1) := by decide +kernel
theorem dX6_sees_71 : decode cX6_sees 71 = .ok (.getfield 30, 3) := by decide +kernel
theorem dX6_sees_74 : decode cX6_sees 74 = .ok (.aload_n 0, 1) := by decide +kernel
theorem dX6_sees_75 : decode cX6_sees 75 = .ok (.getfield 123, 3) := by decide +kernel
theorem dX6_sees_78 : decode cX6_sees 78 = .ok (.iload_n 3, 1) := by decide +kernel
theorem dX6_sees_79 : decode cX6_sees 79 = .ok (.iastore, 1) := by decide +kernel
theorem dX6_sees_80 : decode cX6_sees 80 = .ok (.aload_n 0, 1) := by decide +kernel
theorem dX6_sees_81 : decode cX6_sees 81 = .ok (.dup, 1) := by decide +kernel
theorem dX6_sees_82 : decode cX6_sees 82 = .ok (.getfield 123, 3) := by decide +kernel
theorem dX6_sees_85 : decode cX6_sees 85 = .ok (.iconst 1, 1) := by decide +kernel
theorem dX6_sees_86 : decode cX6_sees 86 = .ok (.iadd, 1) := by decide +kernel
theorem dX6_sees_87 : decode cX6_sees 87 = .ok (.putfield 123, 3) := by decide +kernel
theorem dX6_sees_90 : decode cX6_sees 90 = .ok (.aload_n 0, 1) := by decide +kernel
theorem dX6_sees_91 : decode cX6_sees 91 = .ok (.getfield 123, 3) := by decide +kernel
theorem dX6_sees_94 : decode cX6_sees 94 = .ok (.ireturn, 1) := by decide +kernel
theorem dX6_forget_0 : decode cX6_forget 0 = .ok (.aload_n 0, 1) := by decide +kernel
theorem dX6_forget_1 : decode cX6_forget 1 = .ok (.getfield 123, 3) := by decide +kernel
theorem dX6_forget_4 : decode cX6_forget 4 = .ok (.istore_n 1, 1) := by decide +kernel
theorem dX6_forget_5 : decode cX6_forget 5 = .ok (.aload_n 0, 1) := by decide +kernel
theorem dX6_forget_6 : decode cX6_forget 6 = .ok (.iconst 0, 1) := by decide +kernel
theorem dX6_forget_7 : decode cX6_forget 7 = .ok (.putfield 123, 3) := by decide +kernel
theorem dX6_forget_10 : decode cX6_forget 10 = .ok (.iload_n 1, 1) := by decide +kernel
theorem dX6_forget_11 : decode cX6_forget 11 = .ok (.ireturn, 1) := by decide +kernel
theorem dX6_unseen_0 : decode cX6_unseen 0 = .ok (.bipush 31, 2) := by decide +kernel
theorem dX6_unseen_2 : decode cX6_unseen 2 = .ok (.istore_n 1, 1) := by decide +kernel
theorem dX6_unseen_3 : decode cX6_unseen 3 = .ok (.iconst 0, 1) := by decide +kernel
theorem dX6_unseen_4 : decode cX6_unseen 4 = .ok (.istore_n 2, 1) := by decide +kernel
theorem dX6_unseen_5 : decode cX6_unseen 5 = .ok (.iload_n 2, 1) := by decide +kernel
theorem dX6_unseen_6 : decode cX6_unseen 6 = .ok (.aload_n 0, 1) := by decide +kernel
theorem dX6_unseen_7 : decode cX6_unseen 7 = .ok (.getfield 123, 3) := by decide +kernel
theorem dX6_unseen_10 : decode cX6_unseen 10 = .ok (.if_icmp .ge 45, 3) := by decide +kernel
theorem dX6_unseen_13 : decode cX6_unseen 13 = .ok (.aload_n 0, 1) := by decide +kernel
theorem dX6_unseen_14 : decode cX6_unseen 14 = .ok (.getfield 24, 3) := by decide +kernel
theorem dX6_unseen_17 : decode cX6_unseen 17 = .ok (.iload_n 2, 1) := by decide +kernel
theorem dX6_unseen_18 : decode cX6_unseen 18 = .ok (.iaload, 1) := by decide +kernel
theorem dX6_unseen_19 : decode cX6_unseen 19 = .ok (.aload_n 0, 1) := by decide +kernel
theorem dX6_unseen_20 : decode cX6_unseen 20 = .ok (.getfield 27, 3) := by decide +kernel
theorem dX6_unseen_23 : decode cX6_unseen 23 = .ok (.iload_n 2, 1) := by decide +kernel
theorem dX6_unseen_24 : decode cX6_unseen 24 = .ok (.iaload, 1) := by decide +kernel
theorem dX6_unseen_25 : decode cX6_unseen 25 = .ok (.invokestatic 197, 3) := by decide +kernel
theorem dX6_unseen_28 : decode cX6_unseen 28 = .ok (.istore_n 3, 1) := by decide +kernel
theorem dX6_unseen_29 : decode cX6_unseen 29 = .ok (.iload_n 1, 1) := by decide +kernel
theorem dX6_unseen_30 : decode cX6_unseen 30 = .ok (.aload_n 0, 1) := by decide +kernel
theorem dX6_unseen_31 : decode cX6_unseen 31 = .ok (.getfield 30, 3) := by decide +kernel
theorem dX6_unseen_34 : decode cX6_unseen 34 = .ok (.iload_n 2, 1) := by decide +kernel
theorem dX6_unseen_35 : decode cX6_unseen 35 = .ok (.iaload, 1) := by decide +kernel
theorem dX6_unseen_36 : decode cX6_unseen 36 = .ok (.iconst 1, 1) := by decide +kernel
theorem dX6_unseen_37 : decode cX6_unseen 37 = .ok (.if_icmp .ne 7, 3) := by decide +kernel
theorem dX6_unseen_40 : decode cX6_unseen 40 = .ok (.iload_n 3, 1) := by decide +kernel
theorem dX6_unseen_41 : decode cX6_unseen 41 = .ok (.goto 6, 3) := by decide +kernel
theorem dX6_unseen_44 : decode cX6_unseen 44 = .ok (.iload_n 3, 1) := by decide +kernel
theorem dX6_unseen_45 : decode cX6_unseen 45 = .ok (.iconst (-1), 1) := by decide +kernel
theorem dX6_unseen_46 : decode cX6_unseen 46 = .ok (.ixor, 1) := by decide +kernel
theorem dX6_unseen_47 : decode cX6_unseen 47 = .ok (.iand, 1) := by decide +kernel
theorem dX6_unseen_48 : decode cX6_unseen 48 = .ok (.istore_n 1, 1) := by decide +kernel
theorem dX6_unseen_49 : decode cX6_unseen 49 = .ok (.iinc 2 1, 3) := by decide +kernel
theorem dX6_unseen_52 : decode cX6_unseen 52 = .ok (.goto (-47), 3) := by decide +kernel
theorem dX6_unseen_55 : decode cX6_unseen 55 = .ok (.iload_n 1, 1) := by decide +kernel
theorem dX6_unseen_56 : decode cX6_unseen 56 = .ok (.ireturn, 1) := by decide +kernel
theorem dX6_ones_0 : decode cX6_ones 0 = .ok (.iconst 0, 1) := by decide +kernel
theorem dX6_ones_1 : decode cX6_ones 1 = .ok (.istore_n 1, 1) := by decide +kernel
theorem dX6_ones_2 : decode cX6_ones 2 = .ok (.iconst 0, 1) := by decide +kernel
theorem dX6_ones_3 : decode cX6_ones 3 = .ok (.istore_n 2, 1) := by decide +kernel
theorem dX6_ones_4 : decode cX6_ones 4 = .ok (.iload_n 2, 1) := by decide +kernel
theorem dX6_ones_5 : decode cX6_ones 5 = .ok (.iconst 5, 1) := by decide +kernel
theorem dX6_ones_6 : decode cX6_ones 6 = .ok (.if_icmp .ge 17, 3) := by decide +kernel
theorem dX6_ones_9 : decode cX6_ones 9 = .ok (.iload_n 1, 1) := by decide +kernel
theorem dX6_ones_10 : decode cX6_ones 10 = .ok (.iload_n 0, 1) := by decide +kernel
theorem dX6_ones_11 : decode cX6_ones 11 = .ok (.iload_n 2, 1) := by decide +kernel
theorem dX6_ones_12 : decode cX6_ones 12 = .ok (.ishr, 1) := by decide +kernel
theorem dX6_ones_13 : decode cX6_ones 13 = .ok (.iconst 1, 1) := by decide +kernel
theorem dX6_ones_14 : decode cX6_ones 14 = .ok (.iand, 1) := by decide +kernel
theorem dX6_ones_15 : decode cX6_ones 15 = .ok (.iadd, 1) := by decide +kernel
theorem dX6_ones_16 : decode cX6_ones 16 = .ok (.istore_n 1, 1) := by decide +kernel
theorem dX6_ones_17 : decode cX6_ones 17 = .ok (.iinc 2 1, 3) := by decide +kernel
theorem dX6_ones_20 : decode cX6_ones 20 = .ok (.goto (-16), 3) := by decide +kernel
theorem dX6_ones_23 : decode cX6_ones 23 = .ok (.iload_n 1, 1) := by decide +kernel
theorem dX6_ones_24 : decode cX6_ones 24 = .ok (.ireturn, 1) := by decide +kernel
theorem dX6_ask_0 : decode cX6_ask 0 = .ok (.iload_n 1, 1) := by decide +kernel
theorem dX6_ask_1 : decode cX6_ask 1 = .ok (.i2l, 1) := by decide +kernel
theorem dX6_ask_2 : decode cX6_ask 2 = .ok (.ldc2_w 126, 3) := by decide +kernel
theorem dX6_ask_5 : decode cX6_ask 5 = .ok (.ldc2_w 193, 3) := by decide +kernel
theorem dX6_ask_8 : decode cX6_ask 8 = .ok (.invokestatic 66, 3) := by decide +kernel
theorem dX6_ask_11 : decode cX6_ask 11 = .ok (.ifCond .ne 5, 3) := by decide +kernel
theorem dX6_ask_14 : decode cX6_ask 14 = .ok (.iconst (-1), 1) := by decide +kernel
theorem dX6_ask_15 : decode cX6_ask 15 = .ok (.ireturn, 1) := by decide +kernel
theorem dX6_ask_16 : decode cX6_ask 16 = .ok (.aload_n 0, 1) := by decide +kernel
theorem dX6_ask_17 : decode cX6_ask 17 = .ok (.invokevirtual 204, 3) := by decide +kernel
theorem dX6_ask_20 : decode cX6_ask 20 = .ok (.istore_n 2, 1) := by decide +kernel
theorem dX6_ask_21 : decode cX6_ask 21 = .ok (.bipush (-9), 2) := by decide +kernel
theorem dX6_ask_23 : decode cX6_ask 23 = .ok (.istore_n 3, 1) := by decide +kernel
theorem dX6_ask_24 : decode cX6_ask 24 = .ok (.iload_n 2, 1) := by decide +kernel
theorem dX6_ask_25 : decode cX6_ask 25 = .ok (.invokestatic 207, 3) := by decide +kernel
theorem dX6_ask_28 : decode cX6_ask 28 = .ok (.iconst 1, 1) := by decide +kernel
theorem dX6_ask_29 : decode cX6_ask 29 = .ok (.if_icmp .le 8, 3) := by decide +kernel
theorem dX6_ask_32 : decode cX6_ask 32 = .ok (.bipush 6, 2) := by decide +kernel
theorem dX6_ask_34 : decode cX6_ask 34 = .ok (.goto 4, 3) := by decide +kernel
theorem dX6_ask_37 : decode cX6_ask 37 = .ok (.iconst 0, 1) := by decide +kernel
theorem dX6_ask_38 : decode cX6_ask 38 = .ok (.istore 4, 2) := by decide +kernel
theorem dX6_ask_40 : decode cX6_ask 40 = .ok (.iconst 1, 1) := by decide +kernel
theorem dX6_ask_41 : decode cX6_ask 41 = .ok (.istore 5, 2) := by decide +kernel
theorem dX6_ask_43 : decode cX6_ask 43 = .ok (.iload 5, 2) := by decide +kernel
theorem dX6_ask_45 : decode cX6_ask 45 = .ok (.bipush 100, 2) := by decide +kernel
theorem dX6_ask_47 : decode cX6_ask 47 = .ok (.if_icmp .ge 77, 3) := by decide +kernel
theorem dX6_ask_50 : decode cX6_ask 50 = .ok (.iload_n 2, 1) := by decide +kernel
theorem dX6_ask_51 : decode cX6_ask 51 = .ok (.iload_n 1, 1) := by decide +kernel
theorem dX6_ask_52 : decode cX6_ask 52 = .ok (.iload 5, 2) := by decide +kernel
theorem dX6_ask_54 : decode cX6_ask 54 = .ok (.invokestatic 197, 3) := by decide +kernel
theorem dX6_ask_57 : decode cX6_ask 57 = .ok (.iand, 1) := by decide +kernel
theorem dX6_ask_58 : decode cX6_ask 58 = .ok (.invokestatic 207, 3) := by decide +kernel
theorem dX6_ask_61 : decode cX6_ask 61 = .ok (.istore 6, 2) := by decide +kernel
theorem dX6_ask_63 : decode cX6_ask 63 = .ok (.iload_n 2, 1) := by decide +kernel
theorem dX6_ask_64 : decode cX6_ask 64 = .ok (.invokestatic 207, 3) := by decide +kernel
theorem dX6_ask_67 : decode cX6_ask 67 = .ok (.iload 6, 2) := by decide +kernel
theorem dX6_ask_69 : decode cX6_ask 69 = .ok (.isub, 1) := by decide +kernel
theorem dX6_ask_70 : decode cX6_ask 70 = .ok (.istore 7, 2) := by decide +kernel
theorem dX6_ask_72 : decode cX6_ask 72 = .ok (.iload 6, 2) := by decide +kernel
theorem dX6_ask_74 : decode cX6_ask 74 = .ok (.iload 7, 2) := by decide +kernel
theorem dX6_ask_76 : decode cX6_ask 76 = .ok (.if_icmp .le 8, 3) := by decide +kernel
theorem dX6_ask_79 : decode cX6_ask 79 = .ok (.iload 6, 2) := by decide +kernel
theorem dX6_ask_81 : decode cX6_ask 81 = .ok (.goto 5, 3) := by decide +kernel
theorem dX6_ask_84 : decode cX6_ask 84 = .ok (.iload 7, 2) := by decide +kernel
theorem dX6_ask_86 : decode cX6_ask 86 = .ok (.istore 8, 2) := by decide +kernel
theorem dX6_ask_88 : decode cX6_ask 88 = .ok (.iload 8, 2) := by decide +kernel
theorem dX6_ask_90 : decode cX6_ask 90 = .ok (.iload 4, 2) := by decide +kernel
theorem dX6_ask_92 : decode cX6_ask 92 = .ok (.if_icmp .ge 8, 3) := by decide +kernel
theorem dX6_ask_95 : decode cX6_ask 95 = .ok (.iload 5, 2) := by decide +kernel
theorem dX6_ask_97 : decode cX6_ask 97 = .ok (.goto 4, 3) := by decide +kernel
theorem dX6_ask_100 : decode cX6_ask 100 = .ok (.iload_n 3, 1) := by decide +kernel
theorem dX6_ask_101 : decode cX6_ask 101 = .ok (.istore_n 3, 1) := by decide +kernel
theorem dX6_ask_102 : decode cX6_ask 102 = .ok (.iload 8, 2) := by decide +kernel
theorem dX6_ask_104 : decode cX6_ask 104 = .ok (.iload 4, 2) := by decide +kernel
theorem dX6_ask_106 : decode cX6_ask 106 = .ok (.if_icmp .ge 8, 3) := by decide +kernel
theorem dX6_ask_109 : decode cX6_ask 109 = .ok (.iload 8, 2) := by decide +kernel
theorem dX6_ask_111 : decode cX6_ask 111 = .ok (.goto 5, 3) := by decide +kernel
theorem dX6_ask_114 : decode cX6_ask 114 = .ok (.iload 4, 2) := by decide +kernel
theorem dX6_ask_116 : decode cX6_ask 116 = .ok (.istore 4, 2) := by decide +kernel
theorem dX6_ask_118 : decode cX6_ask 118 = .ok (.iinc 5 1, 3) := by decide +kernel
theorem dX6_ask_121 : decode cX6_ask 121 = .ok (.goto (-78), 3) := by decide +kernel
theorem dX6_ask_124 : decode cX6_ask 124 = .ok (.iload_n 3, 1) := by decide +kernel
theorem dX6_ask_125 : decode cX6_ask 125 = .ok (.ireturn, 1) := by decide +kernel
theorem dX6_keep_0 : decode cX6_keep 0 = .ok (.iload_n 1, 1) := by decide +kernel
theorem dX6_keep_1 : decode cX6_keep 1 = .ok (.i2l, 1) := by decide +kernel
theorem dX6_keep_2 : decode cX6_keep 2 = .ok (.lconst 0, 1) := by decide +kernel
theorem dX6_keep_3 : decode cX6_keep 3 = .ok (.lconst 1, 1) := by decide +kernel
theorem dX6_keep_4 : decode cX6_keep 4 = .ok (.invokestatic 66, 3) := by decide +kernel
theorem dX6_keep_7 : decode cX6_keep 7 = .ok (.ifCond .ne 5, 3) := by decide +kernel
theorem dX6_keep_10 : decode cX6_keep 10 = .ok (.iconst (-1), 1) := by decide +kernel
theorem dX6_keep_11 : decode cX6_keep 11 = .ok (.ireturn, 1) := by decide +kernel
theorem dX6_keep_12 : decode cX6_keep 12 = .ok (.aload_n 0, 1) := by decide +kernel
theorem dX6_keep_13 : decode cX6_keep 13 = .ok (.iconst 0, 1) := by decide +kernel
theorem dX6_keep_14 : decode cX6_keep 14 = .ok (.bipush 9, 2) := by decide +kernel
theorem dX6_keep_16 : decode cX6_keep 16 = .ok (.bipush 9, 2) := by decide +kernel
theorem dX6_keep_18 : decode cX6_keep 18 = .ok (.iload_n 1, 1) := by decide +kernel
theorem dX6_keep_19 : decode cX6_keep 19 = .ok (.imul, 1) := by decide +kernel
theorem dX6_keep_20 : decode cX6_keep 20 = .ok (.iadd, 1) := by decide +kernel
theorem dX6_keep_21 : decode cX6_keep 21 = .ok (.invokevirtual 58, 3) := by decide +kernel
theorem dX6_keep_24 : decode cX6_keep 24 = .ok (.aload_n 0, 1) := by decide +kernel
theorem dX6_keep_25 : decode cX6_keep 25 = .ok (.getfield 13, 3) := by decide +kernel
theorem dX6_keep_28 : decode cX6_keep 28 = .ok (.iload_n 1, 1) := by decide +kernel
theorem dX6_keep_29 : decode cX6_keep 29 = .ok (.iconst 1, 1) := by decide +kernel
theorem dX6_keep_30 : decode cX6_keep 30 = .ok (.bastore, 1) := by decide +kernel
theorem dX6_keep_31 : decode cX6_keep 31 = .ok (.aload_n 0, 1) := by decide +kernel
theorem dX6_keep_32 : decode cX6_keep 32 = .ok (.getfield 7, 3) := by decide +kernel
theorem dX6_keep_35 : decode cX6_keep 35 = .ok (.iconst 0, 1) := by decide +kernel
theorem dX6_keep_36 : decode cX6_keep 36 = .ok (.iaload, 1) := by decide +kernel
theorem dX6_keep_37 : decode cX6_keep 37 = .ok (.ireturn, 1) := by decide +kernel
theorem dX6_back_0 : decode cX6_back 0 = .ok (.iload_n 1, 1) := by decide +kernel
theorem dX6_back_1 : decode cX6_back 1 = .ok (.i2l, 1) := by decide +kernel
theorem dX6_back_2 : decode cX6_back 2 = .ok (.lconst 0, 1) := by decide +kernel
theorem dX6_back_3 : decode cX6_back 3 = .ok (.lconst 1, 1) := by decide +kernel
theorem dX6_back_4 : decode cX6_back 4 = .ok (.invokestatic 66, 3) := by decide +kernel
theorem dX6_back_7 : decode cX6_back 7 = .ok (.ifCond .ne 5, 3) := by decide +kernel
theorem dX6_back_10 : decode cX6_back 10 = .ok (.iconst (-1), 1) := by decide +kernel
theorem dX6_back_11 : decode cX6_back 11 = .ok (.ireturn, 1) := by decide +kernel
theorem dX6_back_12 : decode cX6_back 12 = .ok (.aload_n 0, 1) := by decide +kernel
theorem dX6_back_13 : decode cX6_back 13 = .ok (.getfield 13, 3) := by decide +kernel
theorem dX6_back_16 : decode cX6_back 16 = .ok (.iload_n 1, 1) := by decide +kernel
theorem dX6_back_17 : decode cX6_back 17 = .ok (.baload, 1) := by decide +kernel
theorem dX6_back_18 : decode cX6_back 18 = .ok (.ifCond .ne 6, 3) := by decide +kernel
theorem dX6_back_21 : decode cX6_back 21 = .ok (.bipush (-2), 2) := by decide +kernel
theorem dX6_back_23 : decode cX6_back 23 = .ok (.ireturn, 1) := by decide +kernel
theorem dX6_back_24 : decode cX6_back 24 = .ok (.aload_n 0, 1) := by decide +kernel
theorem dX6_back_25 : decode cX6_back 25 = .ok (.bipush 9, 2) := by decide +kernel
theorem dX6_back_27 : decode cX6_back 27 = .ok (.bipush 9, 2) := by decide +kernel
theorem dX6_back_29 : decode cX6_back 29 = .ok (.iload_n 1, 1) := by decide +kernel
theorem dX6_back_30 : decode cX6_back 30 = .ok (.imul, 1) := by decide +kernel
theorem dX6_back_31 : decode cX6_back 31 = .ok (.iadd, 1) := by decide +kernel
theorem dX6_back_32 : decode cX6_back 32 = .ok (.iconst 0, 1) := by decide +kernel
theorem dX6_back_33 : decode cX6_back 33 = .ok (.invokevirtual 58, 3) := by decide +kernel
theorem dX6_back_36 : decode cX6_back 36 = .ok (.aload_n 0, 1) := by decide +kernel
theorem dX6_back_37 : decode cX6_back 37 = .ok (.iconst 0, 1) := by decide +kernel
theorem dX6_back_38 : decode cX6_back 38 = .ok (.putfield 55, 3) := by decide +kernel
theorem dX6_back_41 : decode cX6_back 41 = .ok (.aload_n 0, 1) := by decide +kernel
theorem dX6_back_42 : decode cX6_back 42 = .ok (.getfield 7, 3) := by decide +kernel
theorem dX6_back_45 : decode cX6_back 45 = .ok (.iconst 0, 1) := by decide +kernel
theorem dX6_back_46 : decode cX6_back 46 = .ok (.iaload, 1) := by decide +kernel
theorem dX6_back_47 : decode cX6_back 47 = .ok (.ireturn, 1) := by decide +kernel
theorem dX6_count_0 : decode cX6_count 0 = .ok (.iload_n 1, 1) := by decide +kernel
theorem dX6_count_1 : decode cX6_count 1 = .ok (.tableswitch 105 0 6 #[43, 48, 53, 60, 90, 95, 100], 43) := by decide +kernel
theorem dX6_count_44 : decode cX6_count 44 = .ok (.aload_n 0, 1) := by decide +kernel
theorem dX6_count_45 : decode cX6_count 45 = .ok (.getfield 17, 3) := by decide +kernel
theorem dX6_count_48 : decode cX6_count 48 = .ok (.ireturn, 1) := by decide +kernel
theorem dX6_count_49 : decode cX6_count 49 = .ok (.aload_n 0, 1) := by decide +kernel
theorem dX6_count_50 : decode cX6_count 50 = .ok (.getfield 21, 3) := by decide +kernel
theorem dX6_count_53 : decode cX6_count 53 = .ok (.ireturn, 1) := by decide +kernel
theorem dX6_count_54 : decode cX6_count 54 = .ok (.aload_n 0, 1) := by decide +kernel
theorem dX6_count_55 : decode cX6_count 55 = .ok (.getfield 7, 3) := by decide +kernel
theorem dX6_count_58 : decode cX6_count 58 = .ok (.iconst 0, 1) := by decide +kernel
theorem dX6_count_59 : decode cX6_count 59 = .ok (.iaload, 1) := by decide +kernel
theorem dX6_count_60 : decode cX6_count 60 = .ok (.ireturn, 1) := by decide +kernel
theorem dX6_count_61 : decode cX6_count 61 = .ok (.aload_n 0, 1) := by decide +kernel
theorem dX6_count_62 : decode cX6_count 62 = .ok (.getfield 7, 3) := by decide +kernel
theorem dX6_count_65 : decode cX6_count 65 = .ok (.iconst 0, 1) := by decide +kernel
theorem dX6_count_66 : decode cX6_count 66 = .ok (.iaload, 1) := by decide +kernel
theorem dX6_count_67 : decode cX6_count 67 = .ok (.ifCond .le 21, 3) := by decide +kernel
theorem dX6_count_70 : decode cX6_count 70 = .ok (.aload_n 0, 1) := by decide +kernel
theorem dX6_count_71 : decode cX6_count 71 = .ok (.getfield 7, 3) := by decide +kernel
theorem dX6_count_74 : decode cX6_count 74 = .ok (.iconst 1, 1) := by decide +kernel
theorem dX6_count_75 : decode cX6_count 75 = .ok (.aload_n 0, 1) := by decide +kernel
theorem dX6_count_76 : decode cX6_count 76 = .ok (.getfield 7, 3) := by decide +kernel
theorem dX6_count_79 : decode cX6_count 79 = .ok (.iconst 0, 1) := by decide +kernel
theorem dX6_count_80 : decode cX6_count 80 = .ok (.iaload, 1) := by decide +kernel
theorem dX6_count_81 : decode cX6_count 81 = .ok (.iadd, 1) := by decide +kernel
theorem dX6_count_82 : decode cX6_count 82 = .ok (.iconst 1, 1) := by decide +kernel
theorem dX6_count_83 : decode cX6_count 83 = .ok (.isub, 1) := by decide +kernel
theorem dX6_count_84 : decode cX6_count 84 = .ok (.iaload, 1) := by decide +kernel
theorem dX6_count_85 : decode cX6_count 85 = .ok (.goto 5, 3) := by decide +kernel
theorem dX6_count_88 : decode cX6_count 88 = .ok (.bipush (-9), 2) := by decide +kernel
theorem dX6_count_90 : decode cX6_count 90 = .ok (.ireturn, 1) := by decide +kernel
theorem dX6_count_91 : decode cX6_count 91 = .ok (.aload_n 0, 1) := by decide +kernel
theorem dX6_count_92 : decode cX6_count 92 = .ok (.getfield 123, 3) := by decide +kernel
theorem dX6_count_95 : decode cX6_count 95 = .ok (.ireturn, 1) := by decide +kernel
theorem dX6_count_96 : decode cX6_count 96 = .ok (.aload_n 0, 1) := by decide +kernel
theorem dX6_count_97 : decode cX6_count 97 = .ok (.getfield 73, 3) := by decide +kernel
theorem dX6_count_100 : decode cX6_count 100 = .ok (.ireturn, 1) := by decide +kernel
theorem dX6_count_101 : decode cX6_count 101 = .ok (.aload_n 0, 1) := by decide +kernel
theorem dX6_count_102 : decode cX6_count 102 = .ok (.getfield 55, 3) := by decide +kernel
theorem dX6_count_105 : decode cX6_count 105 = .ok (.ireturn, 1) := by decide +kernel
theorem dX6_count_106 : decode cX6_count 106 = .ok (.iconst (-1), 1) := by decide +kernel
theorem dX6_count_107 : decode cX6_count 107 = .ok (.ireturn, 1) := by decide +kernel
theorem dJ6_bitCount_0f7a4_0 : decode cJ6_bitCount_0f7a4 0 = .ok (.iload_n 0, 1) := by decide +kernel
theorem dJ6_bitCount_0f7a4_1 : decode cJ6_bitCount_0f7a4 1 = .ok (.iload_n 0, 1) := by decide +kernel
theorem dJ6_bitCount_0f7a4_2 : decode cJ6_bitCount_0f7a4 2 = .ok (.iconst 1, 1) := by decide +kernel
theorem dJ6_bitCount_0f7a4_3 : decode cJ6_bitCount_0f7a4 3 = .ok (.iushr, 1) := by decide +kernel
theorem dJ6_bitCount_0f7a4_4 : decode cJ6_bitCount_0f7a4 4 = .ok (.ldc_w 265, 3) := by decide +kernel
theorem dJ6_bitCount_0f7a4_7 : decode cJ6_bitCount_0f7a4 7 = .ok (.iand, 1) := by decide +kernel
theorem dJ6_bitCount_0f7a4_8 : decode cJ6_bitCount_0f7a4 8 = .ok (.isub, 1) := by decide +kernel
theorem dJ6_bitCount_0f7a4_9 : decode cJ6_bitCount_0f7a4 9 = .ok (.istore_n 0, 1) := by decide +kernel
theorem dJ6_bitCount_0f7a4_10 : decode cJ6_bitCount_0f7a4 10 = .ok (.iload_n 0, 1) := by decide +kernel
theorem dJ6_bitCount_0f7a4_11 : decode cJ6_bitCount_0f7a4 11 = .ok (.ldc_w 266, 3) := by decide +kernel
theorem dJ6_bitCount_0f7a4_14 : decode cJ6_bitCount_0f7a4 14 = .ok (.iand, 1) := by decide +kernel
theorem dJ6_bitCount_0f7a4_15 : decode cJ6_bitCount_0f7a4 15 = .ok (.iload_n 0, 1) := by decide +kernel
theorem dJ6_bitCount_0f7a4_16 : decode cJ6_bitCount_0f7a4 16 = .ok (.iconst 2, 1) := by decide +kernel
theorem dJ6_bitCount_0f7a4_17 : decode cJ6_bitCount_0f7a4 17 = .ok (.iushr, 1) := by decide +kernel
theorem dJ6_bitCount_0f7a4_18 : decode cJ6_bitCount_0f7a4 18 = .ok (.ldc_w 266, 3) := by decide +kernel
theorem dJ6_bitCount_0f7a4_21 : decode cJ6_bitCount_0f7a4 21 = .ok (.iand, 1) := by decide +kernel
theorem dJ6_bitCount_0f7a4_22 : decode cJ6_bitCount_0f7a4 22 = .ok (.iadd, 1) := by decide +kernel
theorem dJ6_bitCount_0f7a4_23 : decode cJ6_bitCount_0f7a4 23 = .ok (.istore_n 0, 1) := by decide +kernel
theorem dJ6_bitCount_0f7a4_24 : decode cJ6_bitCount_0f7a4 24 = .ok (.iload_n 0, 1) := by decide +kernel
theorem dJ6_bitCount_0f7a4_25 : decode cJ6_bitCount_0f7a4 25 = .ok (.iload_n 0, 1) := by decide +kernel
theorem dJ6_bitCount_0f7a4_26 : decode cJ6_bitCount_0f7a4 26 = .ok (.iconst 4, 1) := by decide +kernel
theorem dJ6_bitCount_0f7a4_27 : decode cJ6_bitCount_0f7a4 27 = .ok (.iushr, 1) := by decide +kernel
theorem dJ6_bitCount_0f7a4_28 : decode cJ6_bitCount_0f7a4 28 = .ok (.iadd, 1) := by decide +kernel
theorem dJ6_bitCount_0f7a4_29 : decode cJ6_bitCount_0f7a4 29 = .ok (.ldc_w 267, 3) := by decide +kernel
theorem dJ6_bitCount_0f7a4_32 : decode cJ6_bitCount_0f7a4 32 = .ok (.iand, 1) := by decide +kernel
theorem dJ6_bitCount_0f7a4_33 : decode cJ6_bitCount_0f7a4 33 = .ok (.istore_n 0, 1) := by decide +kernel
theorem dJ6_bitCount_0f7a4_34 : decode cJ6_bitCount_0f7a4 34 = .ok (.iload_n 0, 1) := by decide +kernel
theorem dJ6_bitCount_0f7a4_35 : decode cJ6_bitCount_0f7a4 35 = .ok (.iload_n 0, 1) := by decide +kernel
theorem dJ6_bitCount_0f7a4_36 : decode cJ6_bitCount_0f7a4 36 = .ok (.bipush 8, 2) := by decide +kernel
theorem dJ6_bitCount_0f7a4_38 : decode cJ6_bitCount_0f7a4 38 = .ok (.iushr, 1) := by decide +kernel
theorem dJ6_bitCount_0f7a4_39 : decode cJ6_bitCount_0f7a4 39 = .ok (.iadd, 1) := by decide +kernel
theorem dJ6_bitCount_0f7a4_40 : decode cJ6_bitCount_0f7a4 40 = .ok (.istore_n 0, 1) := by decide +kernel
theorem dJ6_bitCount_0f7a4_41 : decode cJ6_bitCount_0f7a4 41 = .ok (.iload_n 0, 1) := by decide +kernel
theorem dJ6_bitCount_0f7a4_42 : decode cJ6_bitCount_0f7a4 42 = .ok (.iload_n 0, 1) := by decide +kernel
theorem dJ6_bitCount_0f7a4_43 : decode cJ6_bitCount_0f7a4 43 = .ok (.bipush 16, 2) := by decide +kernel
theorem dJ6_bitCount_0f7a4_45 : decode cJ6_bitCount_0f7a4 45 = .ok (.iushr, 1) := by decide +kernel
theorem dJ6_bitCount_0f7a4_46 : decode cJ6_bitCount_0f7a4 46 = .ok (.iadd, 1) := by decide +kernel
theorem dJ6_bitCount_0f7a4_47 : decode cJ6_bitCount_0f7a4 47 = .ok (.istore_n 0, 1) := by decide +kernel
theorem dJ6_bitCount_0f7a4_48 : decode cJ6_bitCount_0f7a4 48 = .ok (.iload_n 0, 1) := by decide +kernel
theorem dJ6_bitCount_0f7a4_49 : decode cJ6_bitCount_0f7a4 49 = .ok (.bipush 63, 2) := by decide +kernel
theorem dJ6_bitCount_0f7a4_51 : decode cJ6_bitCount_0f7a4 51 = .ok (.iand, 1) := by decide +kernel
theorem dJ6_bitCount_0f7a4_52 : decode cJ6_bitCount_0f7a4 52 = .ok (.ireturn, 1) := by decide +kernel
theorem dJ9_max_7cf53_0 : decode cJ9_max_7cf53 0 = .ok (.iload_n 0, 1) := by decide +kernel
theorem dJ9_max_7cf53_1 : decode cJ9_max_7cf53 1 = .ok (.iload_n 1, 1) := by decide +kernel
theorem dJ9_max_7cf53_2 : decode cJ9_max_7cf53 2 = .ok (.if_icmp .lt 7, 3) := by decide +kernel
theorem dJ9_max_7cf53_5 : decode cJ9_max_7cf53 5 = .ok (.iload_n 0, 1) := by decide +kernel
theorem dJ9_max_7cf53_6 : decode cJ9_max_7cf53 6 = .ok (.goto 4, 3) := by decide +kernel
theorem dJ9_max_7cf53_9 : decode cJ9_max_7cf53 9 = .ok (.iload_n 1, 1) := by decide +kernel
theorem dJ9_max_7cf53_10 : decode cJ9_max_7cf53 10 = .ok (.ireturn, 1) := by decide +kernel
theorem dJ9_max_f86c9_0 : decode cJ9_max_f86c9 0 = .ok (.lload_n 0, 1) := by decide +kernel
theorem dJ9_max_f86c9_1 : decode cJ9_max_f86c9 1 = .ok (.lload_n 2, 1) := by decide +kernel
theorem dJ9_max_f86c9_2 : decode cJ9_max_f86c9 2 = .ok (.lcmp, 1) := by decide +kernel
theorem dJ9_max_f86c9_3 : decode cJ9_max_f86c9 3 = .ok (.ifCond .lt 7, 3) := by decide +kernel
theorem dJ9_max_f86c9_6 : decode cJ9_max_f86c9 6 = .ok (.lload_n 0, 1) := by decide +kernel
theorem dJ9_max_f86c9_7 : decode cJ9_max_f86c9 7 = .ok (.goto 4, 3) := by decide +kernel
theorem dJ9_max_f86c9_10 : decode cJ9_max_f86c9 10 = .ok (.lload_n 2, 1) := by decide +kernel
theorem dJ9_max_f86c9_11 : decode cJ9_max_f86c9 11 = .ok (.lreturn, 1) := by decide +kernel
theorem dJ9_min_7cf53_0 : decode cJ9_min_7cf53 0 = .ok (.iload_n 0, 1) := by decide +kernel
theorem dJ9_min_7cf53_1 : decode cJ9_min_7cf53 1 = .ok (.iload_n 1, 1) := by decide +kernel
theorem dJ9_min_7cf53_2 : decode cJ9_min_7cf53 2 = .ok (.if_icmp .gt 7, 3) := by decide +kernel
theorem dJ9_min_7cf53_5 : decode cJ9_min_7cf53 5 = .ok (.iload_n 0, 1) := by decide +kernel
theorem dJ9_min_7cf53_6 : decode cJ9_min_7cf53 6 = .ok (.goto 4, 3) := by decide +kernel
theorem dJ9_min_7cf53_9 : decode cJ9_min_7cf53 9 = .ok (.iload_n 1, 1) := by decide +kernel
theorem dJ9_min_7cf53_10 : decode cJ9_min_7cf53 10 = .ok (.ireturn, 1) := by decide +kernel
theorem dL_law_0 : decode cL_law 0 = .ok (.new 7, 3) := by decide +kernel
theorem dL_law_3 : decode cL_law 3 = .ok (.dup, 1) := by decide +kernel
theorem dL_law_4 : decode cL_law 4 = .ok (.invokespecial 9, 3) := by decide +kernel
theorem dL_law_7 : decode cL_law 7 = .ok (.astore_n 1, 1) := by decide +kernel
theorem dL_law_8 : decode cL_law 8 = .ok (.new 10, 3) := by decide +kernel
theorem dL_law_11 : decode cL_law 11 = .ok (.dup, 1) := by decide +kernel
theorem dL_law_12 : decode cL_law 12 = .ok (.invokespecial 12, 3) := by decide +kernel
theorem dL_law_15 : decode cL_law 15 = .ok (.astore_n 2, 1) := by decide +kernel
theorem dL_law_16 : decode cL_law 16 = .ok (.iconst 0, 1) := by decide +kernel
theorem dL_law_17 : decode cL_law 17 = .ok (.istore_n 3, 1) := by decide +kernel
theorem dL_law_18 : decode cL_law 18 = .ok (.iload_n 3, 1) := by decide +kernel
theorem dL_law_19 : decode cL_law 19 = .ok (.aload_n 0, 1) := by decide +kernel
theorem dL_law_20 : decode cL_law 20 = .ok (.arraylength, 1) := by decide +kernel
theorem dL_law_21 : decode cL_law 21 = .ok (.iconst 5, 1) := by decide +kernel
theorem dL_law_22 : decode cL_law 22 = .ok (.isub, 1) := by decide +kernel
theorem dL_law_23 : decode cL_law 23 = .ok (.if_icmp .gt 742, 3) := by decide +kernel
theorem dL_law_26 : decode cL_law 26 = .ok (.aload_n 0, 1) := by decide +kernel
theorem dL_law_27 : decode cL_law 27 = .ok (.iload_n 3, 1) := by decide +kernel
theorem dL_law_28 : decode cL_law 28 = .ok (.iaload, 1) := by decide +kernel
theorem dL_law_29 : decode cL_law 29 = .ok (.bipush 31, 2) := by decide +kernel
theorem dL_law_31 : decode cL_law 31 = .ok (.iand, 1) := by decide +kernel
theorem dL_law_32 : decode cL_law 32 = .ok (.tableswitch 727 0 22 #[108, 131, 144, 157, 180, 213, 246, 259, 282, 315, 348, 401, 424, 447, 490, 533, 566, 609, 622, 635, 658, 681, 704], 108) := by decide +kernel
theorem dL_law_140 : decode cL_law 140 = .ok (.aload_n 1, 1) := by decide +kernel
theorem dL_law_141 : decode cL_law 141 = .ok (.aload_n 0, 1) := by decide +kernel
theorem dL_law_142 : decode cL_law 142 = .ok (.iload_n 3, 1) := by decide +kernel
theorem dL_law_143 : decode cL_law 143 = .ok (.iconst 1, 1) := by decide +kernel
theorem dL_law_144 : decode cL_law 144 = .ok (.iadd, 1) := by decide +kernel
theorem dL_law_145 : decode cL_law 145 = .ok (.iaload, 1) := by decide +kernel
theorem dL_law_146 : decode cL_law 146 = .ok (.invokevirtual 13, 3) := by decide +kernel
theorem dL_law_149 : decode cL_law 149 = .ok (.aload_n 2, 1) := by decide +kernel
theorem dL_law_150 : decode cL_law 150 = .ok (.aload_n 0, 1) := by decide +kernel
theorem dL_law_151 : decode cL_law 151 = .ok (.iload_n 3, 1) := by decide +kernel
theorem dL_law_152 : decode cL_law 152 = .ok (.iconst 1, 1) := by decide +kernel
theorem dL_law_153 : decode cL_law 153 = .ok (.iadd, 1) := by decide +kernel
theorem dL_law_154 : decode cL_law 154 = .ok (.iaload, 1) := by decide +kernel
theorem dL_law_155 : decode cL_law 155 = .ok (.invokevirtual 17, 3) := by decide +kernel
theorem dL_law_158 : decode cL_law 158 = .ok (.if_icmp .eq 601, 3) := by decide +kernel
theorem dL_law_161 : decode cL_law 161 = .ok (.iconst 0, 1) := by decide +kernel
theorem dL_law_162 : decode cL_law 162 = .ok (.ireturn, 1) := by decide +kernel
theorem dL_law_163 : decode cL_law 163 = .ok (.aload_n 1, 1) := by decide +kernel
theorem dL_law_164 : decode cL_law 164 = .ok (.invokevirtual 18, 3) := by decide +kernel
theorem dL_law_167 : decode cL_law 167 = .ok (.aload_n 2, 1) := by decide +kernel
theorem dL_law_168 : decode cL_law 168 = .ok (.invokevirtual 22, 3) := by decide +kernel
theorem dL_law_171 : decode cL_law 171 = .ok (.if_icmp .eq 588, 3) := by decide +kernel
theorem dL_law_174 : decode cL_law 174 = .ok (.iconst 0, 1) := by decide +kernel
theorem dL_law_175 : decode cL_law 175 = .ok (.ireturn, 1) := by decide +kernel
theorem dL_law_176 : decode cL_law 176 = .ok (.aload_n 1, 1) := by decide +kernel
theorem dL_law_177 : decode cL_law 177 = .ok (.invokevirtual 23, 3) := by decide +kernel
theorem dL_law_180 : decode cL_law 180 = .ok (.aload_n 2, 1) := by decide +kernel
theorem dL_law_181 : decode cL_law 181 = .ok (.invokevirtual 26, 3) := by decide +kernel
theorem dL_law_184 : decode cL_law 184 = .ok (.if_icmp .eq 575, 3) := by decide +kernel
theorem dL_law_187 : decode cL_law 187 = .ok (.iconst 0, 1) := by decide +kernel
theorem dL_law_188 : decode cL_law 188 = .ok (.ireturn, 1) := by decide +kernel
theorem dL_law_189 : decode cL_law 189 = .ok (.aload_n 1, 1) := by decide +kernel
theorem dL_law_190 : decode cL_law 190 = .ok (.aload_n 0, 1) := by decide +kernel
theorem dL_law_191 : decode cL_law 191 = .ok (.iload_n 3, 1) := by decide +kernel
theorem dL_law_192 : decode cL_law 192 = .ok (.iconst 1, 1) := by decide +kernel
theorem dL_law_193 : decode cL_law 193 = .ok (.iadd, 1) := by decide +kernel
theorem dL_law_194 : decode cL_law 194 = .ok (.iaload, 1) := by decide +kernel
theorem dL_law_195 : decode cL_law 195 = .ok (.invokevirtual 27, 3) := by decide +kernel
theorem dL_law_198 : decode cL_law 198 = .ok (.aload_n 2, 1) := by decide +kernel
theorem dL_law_199 : decode cL_law 199 = .ok (.aload_n 0, 1) := by decide +kernel
theorem dL_law_200 : decode cL_law 200 = .ok (.iload_n 3, 1) := by decide +kernel
theorem dL_law_201 : decode cL_law 201 = .ok (.iconst 1, 1) := by decide +kernel
theorem dL_law_202 : decode cL_law 202 = .ok (.iadd, 1) := by decide +kernel
theorem dL_law_203 : decode cL_law 203 = .ok (.iaload, 1) := by decide +kernel
theorem dL_law_204 : decode cL_law 204 = .ok (.invokevirtual 30, 3) := by decide +kernel
theorem dL_law_207 : decode cL_law 207 = .ok (.if_icmp .eq 552, 3) := by decide +kernel
theorem dL_law_210 : decode cL_law 210 = .ok (.iconst 0, 1) := by decide +kernel
theorem dL_law_211 : decode cL_law 211 = .ok (.ireturn, 1) := by decide +kernel
theorem dL_law_212 : decode cL_law 212 = .ok (.aload_n 1, 1) := by decide +kernel
theorem dL_law_213 : decode cL_law 213 = .ok (.aload_n 0, 1) := by decide +kernel
theorem dL_law_214 : decode cL_law 214 = .ok (.iload_n 3, 1) := by decide +kernel
theorem dL_law_215 : decode cL_law 215 = .ok (.iconst 1, 1) := by decide +kernel
theorem dL_law_216 : decode cL_law 216 = .ok (.iadd, 1) := by decide +kernel
theorem dL_law_217 : decode cL_law 217 = .ok (.iaload, 1) := by decide +kernel
theorem dL_law_218 : decode cL_law 218 = .ok (.aload_n 0, 1) := by decide +kernel
theorem dL_law_219 : decode cL_law 219 = .ok (.iload_n 3, 1) := by decide +kernel
theorem dL_law_220 : decode cL_law 220 = .ok (.iconst 2, 1) := by decide +kernel
theorem dL_law_221 : decode cL_law 221 = .ok (.iadd, 1) := by decide +kernel
theorem dL_law_222 : decode cL_law 222 = .ok (.iaload, 1) := by decide +kernel
theorem dL_law_223 : decode cL_law 223 = .ok (.invokevirtual 31, 3) := by decide +kernel
theorem dL_law_226 : decode cL_law 226 = .ok (.aload_n 2, 1) := by decide +kernel
theorem dL_law_227 : decode cL_law 227 = .ok (.aload_n 0, 1) := by decide +kernel
theorem dL_law_228 : decode cL_law 228 = .ok (.iload_n 3, 1) := by decide +kernel
theorem dL_law_229 : decode cL_law 229 = .ok (.iconst 1, 1) := by decide +kernel
theorem dL_law_230 : decode cL_law 230 = .ok (.iadd, 1) := by decide +kernel
theorem dL_law_231 : decode cL_law 231 = .ok (.iaload, 1) := by decide +kernel
theorem dL_law_232 : decode cL_law 232 = .ok (.aload_n 0, 1) := by decide +kernel
theorem dL_law_233 : decode cL_law 233 = .ok (.iload_n 3, 1) := by decide +kernel
theorem dL_law_234 : decode cL_law 234 = .ok (.iconst 2, 1) := by decide +kernel
theorem dL_law_235 : decode cL_law 235 = .ok (.iadd, 1) := by decide +kernel
theorem dL_law_236 : decode cL_law 236 = .ok (.iaload, 1) := by decide +kernel
theorem dL_law_237 : decode cL_law 237 = .ok (.invokevirtual 35, 3) := by decide +kernel
theorem dL_law_240 : decode cL_law 240 = .ok (.if_icmp .eq 519, 3) := by decide +kernel
theorem dL_law_243 : decode cL_law 243 = .ok (.iconst 0, 1) := by decide +kernel
theorem dL_law_244 : decode cL_law 244 = .ok (.ireturn, 1) := by decide +kernel
theorem dL_law_245 : decode cL_law 245 = .ok (.aload_n 1, 1) := by decide +kernel
theorem dL_law_246 : decode cL_law 246 = .ok (.aload_n 0, 1) := by decide +kernel
theorem dL_law_247 : decode cL_law 247 = .ok (.iload_n 3, 1) := by decide +kernel
theorem dL_law_248 : decode cL_law 248 = .ok (.iconst 1, 1) := by decide +kernel
theorem dL_law_249 : decode cL_law 249 = .ok (.iadd, 1) := by decide +kernel
theorem dL_law_250 : decode cL_law 250 = .ok (.iaload, 1) := by decide +kernel
theorem dL_law_251 : decode cL_law 251 = .ok (.aload_n 0, 1) := by decide +kernel
theorem dL_law_252 : decode cL_law 252 = .ok (.iload_n 3, 1) := by decide +kernel
theorem dL_law_253 : decode cL_law 253 = .ok (.iconst 2, 1) := by decide +kernel
theorem dL_law_254 : decode cL_law 254 = .ok (.iadd, 1) := by decide +kernel
theorem dL_law_255 : decode cL_law 255 = .ok (.iaload, 1) := by decide +kernel
theorem dL_law_256 : decode cL_law 256 = .ok (.invokevirtual 36, 3) := by decide +kernel
theorem dL_law_259 : decode cL_law 259 = .ok (.aload_n 2, 1) := by decide +kernel
theorem dL_law_260 : decode cL_law 260 = .ok (.aload_n 0, 1) := by decide +kernel
theorem dL_law_261 : decode cL_law 261 = .ok (.iload_n 3, 1) := by decide +kernel
theorem dL_law_262 : decode cL_law 262 = .ok (.iconst 1, 1) := by decide +kernel
theorem dL_law_263 : decode cL_law 263 = .ok (.iadd, 1) := by decide +kernel
theorem dL_law_264 : decode cL_law 264 = .ok (.iaload, 1) := by decide +kernel
theorem dL_law_265 : decode cL_law 265 = .ok (.aload_n 0, 1) := by decide +kernel
theorem dL_law_266 : decode cL_law 266 = .ok (.iload_n 3, 1) := by decide +kernel
theorem dL_law_267 : decode cL_law 267 = .ok (.iconst 2, 1) := by decide +kernel
theorem dL_law_268 : decode cL_law 268 = .ok (.iadd, 1) := by decide +kernel
theorem dL_law_269 : decode cL_law 269 = .ok (.iaload, 1) := by decide +kernel
theorem dL_law_270 : decode cL_law 270 = .ok (.invokevirtual 39, 3) := by decide +kernel
theorem dL_law_273 : decode cL_law 273 = .ok (.if_icmp .eq 486, 3) := by decide +kernel
theorem dL_law_276 : decode cL_law 276 = .ok (.iconst 0, 1) := by decide +kernel
theorem dL_law_277 : decode cL_law 277 = .ok (.ireturn, 1) := by decide +kernel
theorem dL_law_278 : decode cL_law 278 = .ok (.aload_n 1, 1) := by decide +kernel
theorem dL_law_279 : decode cL_law 279 = .ok (.invokevirtual 40, 3) := by decide +kernel
theorem dL_law_282 : decode cL_law 282 = .ok (.aload_n 2, 1) := by decide +kernel
theorem dL_law_283 : decode cL_law 283 = .ok (.invokevirtual 43, 3) := by decide +kernel
theorem dL_law_286 : decode cL_law 286 = .ok (.if_icmp .eq 473, 3) := by decide +kernel
theorem dL_law_289 : decode cL_law 289 = .ok (.iconst 0, 1) := by decide +kernel
theorem dL_law_290 : decode cL_law 290 = .ok (.ireturn, 1) := by decide +kernel
theorem dL_law_291 : decode cL_law 291 = .ok (.aload_n 1, 1) := by decide +kernel
theorem dL_law_292 : decode cL_law 292 = .ok (.aload_n 0, 1) := by decide +kernel
theorem dL_law_293 : decode cL_law 293 = .ok (.iload_n 3, 1) := by decide +kernel
theorem dL_law_294 : decode cL_law 294 = .ok (.iconst 1, 1) := by decide +kernel
theorem dL_law_295 : decode cL_law 295 = .ok (.iadd, 1) := by decide +kernel
theorem dL_law_296 : decode cL_law 296 = .ok (.iaload, 1) := by decide +kernel
theorem dL_law_297 : decode cL_law 297 = .ok (.invokevirtual 44, 3) := by decide +kernel
theorem dL_law_300 : decode cL_law 300 = .ok (.aload_n 2, 1) := by decide +kernel
theorem dL_law_301 : decode cL_law 301 = .ok (.aload_n 0, 1) := by decide +kernel
theorem dL_law_302 : decode cL_law 302 = .ok (.iload_n 3, 1) := by decide +kernel
theorem dL_law_303 : decode cL_law 303 = .ok (.iconst 1, 1) := by decide +kernel
theorem dL_law_304 : decode cL_law 304 = .ok (.iadd, 1) := by decide +kernel
theorem dL_law_305 : decode cL_law 305 = .ok (.iaload, 1) := by decide +kernel
theorem dL_law_306 : decode cL_law 306 = .ok (.invokevirtual 47, 3) := by decide +kernel
theorem dL_law_309 : decode cL_law 309 = .ok (.if_icmp .eq 450, 3) := by decide +kernel
theorem dL_law_312 : decode cL_law 312 = .ok (.iconst 0, 1) := by decide +kernel
theorem dL_law_313 : decode cL_law 313 = .ok (.ireturn, 1) := by decide +kernel
theorem dL_law_314 : decode cL_law 314 = .ok (.aload_n 1, 1) := by decide +kernel
theorem dL_law_315 : decode cL_law 315 = .ok (.aload_n 0, 1) := by decide +kernel
theorem dL_law_316 : decode cL_law 316 = .ok (.iload_n 3, 1) := by decide +kernel
theorem dL_law_317 : decode cL_law 317 = .ok (.iconst 1, 1) := by decide +kernel
theorem dL_law_318 : decode cL_law 318 = .ok (.iadd, 1) := by decide +kernel
theorem dL_law_319 : decode cL_law 319 = .ok (.iaload, 1) := by decide +kernel
theorem dL_law_320 : decode cL_law 320 = .ok (.aload_n 0, 1) := by decide +kernel
theorem dL_law_321 : decode cL_law 321 = .ok (.iload_n 3, 1) := by decide +kernel
theorem dL_law_322 : decode cL_law 322 = .ok (.iconst 2, 1) := by decide +kernel
theorem dL_law_323 : decode cL_law 323 = .ok (.iadd, 1) := by decide +kernel
theorem dL_law_324 : decode cL_law 324 = .ok (.iaload, 1) := by decide +kernel
theorem dL_law_325 : decode cL_law 325 = .ok (.invokevirtual 48, 3) := by decide +kernel
theorem dL_law_328 : decode cL_law 328 = .ok (.aload_n 2, 1) := by decide +kernel
theorem dL_law_329 : decode cL_law 329 = .ok (.aload_n 0, 1) := by decide +kernel
theorem dL_law_330 : decode cL_law 330 = .ok (.iload_n 3, 1) := by decide +kernel
theorem dL_law_331 : decode cL_law 331 = .ok (.iconst 1, 1) := by decide +kernel
theorem dL_law_332 : decode cL_law 332 = .ok (.iadd, 1) := by decide +kernel
theorem dL_law_333 : decode cL_law 333 = .ok (.iaload, 1) := by decide +kernel
theorem dL_law_334 : decode cL_law 334 = .ok (.aload_n 0, 1) := by decide +kernel
theorem dL_law_335 : decode cL_law 335 = .ok (.iload_n 3, 1) := by decide +kernel
theorem dL_law_336 : decode cL_law 336 = .ok (.iconst 2, 1) := by decide +kernel
theorem dL_law_337 : decode cL_law 337 = .ok (.iadd, 1) := by decide +kernel
theorem dL_law_338 : decode cL_law 338 = .ok (.iaload, 1) := by decide +kernel
theorem dL_law_339 : decode cL_law 339 = .ok (.invokevirtual 51, 3) := by decide +kernel
theorem dL_law_342 : decode cL_law 342 = .ok (.if_icmp .eq 417, 3) := by decide +kernel
theorem dL_law_345 : decode cL_law 345 = .ok (.iconst 0, 1) := by decide +kernel
theorem dL_law_346 : decode cL_law 346 = .ok (.ireturn, 1) := by decide +kernel
theorem dL_law_347 : decode cL_law 347 = .ok (.aload_n 1, 1) := by decide +kernel
theorem dL_law_348 : decode cL_law 348 = .ok (.aload_n 0, 1) := by decide +kernel
theorem dL_law_349 : decode cL_law 349 = .ok (.iload_n 3, 1) := by decide +kernel
theorem dL_law_350 : decode cL_law 350 = .ok (.iconst 1, 1) := by decide +kernel
theorem dL_law_351 : decode cL_law 351 = .ok (.iadd, 1) := by decide +kernel
theorem dL_law_352 : decode cL_law 352 = .ok (.iaload, 1) := by decide +kernel
theorem dL_law_353 : decode cL_law 353 = .ok (.aload_n 0, 1) := by decide +kernel
theorem dL_law_354 : decode cL_law 354 = .ok (.iload_n 3, 1) := by decide +kernel
theorem dL_law_355 : decode cL_law 355 = .ok (.iconst 2, 1) := by decide +kernel
theorem dL_law_356 : decode cL_law 356 = .ok (.iadd, 1) := by decide +kernel
theorem dL_law_357 : decode cL_law 357 = .ok (.iaload, 1) := by decide +kernel
theorem dL_law_358 : decode cL_law 358 = .ok (.invokevirtual 52, 3) := by decide +kernel
theorem dL_law_361 : decode cL_law 361 = .ok (.aload_n 2, 1) := by decide +kernel
theorem dL_law_362 : decode cL_law 362 = .ok (.aload_n 0, 1) := by decide +kernel
theorem dL_law_363 : decode cL_law 363 = .ok (.iload_n 3, 1) := by decide +kernel
theorem dL_law_364 : decode cL_law 364 = .ok (.iconst 1, 1) := by decide +kernel
theorem dL_law_365 : decode cL_law 365 = .ok (.iadd, 1) := by decide +kernel
theorem dL_law_366 : decode cL_law 366 = .ok (.iaload, 1) := by decide +kernel
theorem dL_law_367 : decode cL_law 367 = .ok (.aload_n 0, 1) := by decide +kernel
theorem dL_law_368 : decode cL_law 368 = .ok (.iload_n 3, 1) := by decide +kernel
theorem dL_law_369 : decode cL_law 369 = .ok (.iconst 2, 1) := by decide +kernel
theorem dL_law_370 : decode cL_law 370 = .ok (.iadd, 1) := by decide +kernel
theorem dL_law_371 : decode cL_law 371 = .ok (.iaload, 1) := by decide +kernel
theorem dL_law_372 : decode cL_law 372 = .ok (.invokevirtual 55, 3) := by decide +kernel
theorem dL_law_375 : decode cL_law 375 = .ok (.if_icmp .eq 384, 3) := by decide +kernel
theorem dL_law_378 : decode cL_law 378 = .ok (.iconst 0, 1) := by decide +kernel
theorem dL_law_379 : decode cL_law 379 = .ok (.ireturn, 1) := by decide +kernel
theorem dL_law_380 : decode cL_law 380 = .ok (.aload_n 1, 1) := by decide +kernel
theorem dL_law_381 : decode cL_law 381 = .ok (.aload_n 0, 1) := by decide +kernel
theorem dL_law_382 : decode cL_law 382 = .ok (.iload_n 3, 1) := by decide +kernel
theorem dL_law_383 : decode cL_law 383 = .ok (.iconst 1, 1) := by decide +kernel
theorem dL_law_384 : decode cL_law 384 = .ok (.iadd, 1) := by decide +kernel
theorem dL_law_385 : decode cL_law 385 = .ok (.iaload, 1) := by decide +kernel
theorem dL_law_386 : decode cL_law 386 = .ok (.aload_n 0, 1) := by decide +kernel
theorem dL_law_387 : decode cL_law 387 = .ok (.iload_n 3, 1) := by decide +kernel
theorem dL_law_388 : decode cL_law 388 = .ok (.iconst 2, 1) := by decide +kernel
theorem dL_law_389 : decode cL_law 389 = .ok (.iadd, 1) := by decide +kernel
theorem dL_law_390 : decode cL_law 390 = .ok (.iaload, 1) := by decide +kernel
theorem dL_law_391 : decode cL_law 391 = .ok (.aload_n 0, 1) := by decide +kernel
theorem dL_law_392 : decode cL_law 392 = .ok (.iload_n 3, 1) := by decide +kernel
theorem dL_law_393 : decode cL_law 393 = .ok (.iconst 3, 1) := by decide +kernel
theorem dL_law_394 : decode cL_law 394 = .ok (.iadd, 1) := by decide +kernel
theorem dL_law_395 : decode cL_law 395 = .ok (.iaload, 1) := by decide +kernel
theorem dL_law_396 : decode cL_law 396 = .ok (.aload_n 0, 1) := by decide +kernel
theorem dL_law_397 : decode cL_law 397 = .ok (.iload_n 3, 1) := by decide +kernel
theorem dL_law_398 : decode cL_law 398 = .ok (.iconst 4, 1) := by decide +kernel
theorem dL_law_399 : decode cL_law 399 = .ok (.iadd, 1) := by decide +kernel
theorem dL_law_400 : decode cL_law 400 = .ok (.iaload, 1) := by decide +kernel
theorem dL_law_401 : decode cL_law 401 = .ok (.invokevirtual 56, 3) := by decide +kernel
theorem dL_law_404 : decode cL_law 404 = .ok (.aload_n 2, 1) := by decide +kernel
theorem dL_law_405 : decode cL_law 405 = .ok (.aload_n 0, 1) := by decide +kernel
theorem dL_law_406 : decode cL_law 406 = .ok (.iload_n 3, 1) := by decide +kernel
theorem dL_law_407 : decode cL_law 407 = .ok (.iconst 1, 1) := by decide +kernel
theorem dL_law_408 : decode cL_law 408 = .ok (.iadd, 1) := by decide +kernel
theorem dL_law_409 : decode cL_law 409 = .ok (.iaload, 1) := by decide +kernel
theorem dL_law_410 : decode cL_law 410 = .ok (.aload_n 0, 1) := by decide +kernel
theorem dL_law_411 : decode cL_law 411 = .ok (.iload_n 3, 1) := by decide +kernel
theorem dL_law_412 : decode cL_law 412 = .ok (.iconst 2, 1) := by decide +kernel
theorem dL_law_413 : decode cL_law 413 = .ok (.iadd, 1) := by decide +kernel
theorem dL_law_414 : decode cL_law 414 = .ok (.iaload, 1) := by decide +kernel
theorem dL_law_415 : decode cL_law 415 = .ok (.aload_n 0, 1) := by decide +kernel
theorem dL_law_416 : decode cL_law 416 = .ok (.iload_n 3, 1) := by decide +kernel
theorem dL_law_417 : decode cL_law 417 = .ok (.iconst 3, 1) := by decide +kernel
theorem dL_law_418 : decode cL_law 418 = .ok (.iadd, 1) := by decide +kernel
theorem dL_law_419 : decode cL_law 419 = .ok (.iaload, 1) := by decide +kernel
theorem dL_law_420 : decode cL_law 420 = .ok (.aload_n 0, 1) := by decide +kernel
theorem dL_law_421 : decode cL_law 421 = .ok (.iload_n 3, 1) := by decide +kernel
theorem dL_law_422 : decode cL_law 422 = .ok (.iconst 4, 1) := by decide +kernel
theorem dL_law_423 : decode cL_law 423 = .ok (.iadd, 1) := by decide +kernel
theorem dL_law_424 : decode cL_law 424 = .ok (.iaload, 1) := by decide +kernel
theorem dL_law_425 : decode cL_law 425 = .ok (.invokevirtual 60, 3) := by decide +kernel
theorem dL_law_428 : decode cL_law 428 = .ok (.if_icmp .eq 331, 3) := by decide +kernel
theorem dL_law_431 : decode cL_law 431 = .ok (.iconst 0, 1) := by decide +kernel
theorem dL_law_432 : decode cL_law 432 = .ok (.ireturn, 1) := by decide +kernel
theorem dL_law_433 : decode cL_law 433 = .ok (.aload_n 1, 1) := by decide +kernel
theorem dL_law_434 : decode cL_law 434 = .ok (.aload_n 0, 1) := by decide +kernel
theorem dL_law_435 : decode cL_law 435 = .ok (.iload_n 3, 1) := by decide +kernel
theorem dL_law_436 : decode cL_law 436 = .ok (.iconst 1, 1) := by decide +kernel
theorem dL_law_437 : decode cL_law 437 = .ok (.iadd, 1) := by decide +kernel
theorem dL_law_438 : decode cL_law 438 = .ok (.iaload, 1) := by decide +kernel
theorem dL_law_439 : decode cL_law 439 = .ok (.invokevirtual 61, 3) := by decide +kernel
theorem dL_law_442 : decode cL_law 442 = .ok (.aload_n 2, 1) := by decide +kernel
theorem dL_law_443 : decode cL_law 443 = .ok (.aload_n 0, 1) := by decide +kernel
theorem dL_law_444 : decode cL_law 444 = .ok (.iload_n 3, 1) := by decide +kernel
theorem dL_law_445 : decode cL_law 445 = .ok (.iconst 1, 1) := by decide +kernel
theorem dL_law_446 : decode cL_law 446 = .ok (.iadd, 1) := by decide +kernel
theorem dL_law_447 : decode cL_law 447 = .ok (.iaload, 1) := by decide +kernel
theorem dL_law_448 : decode cL_law 448 = .ok (.invokevirtual 64, 3) := by decide +kernel
theorem dL_law_451 : decode cL_law 451 = .ok (.if_icmp .eq 308, 3) := by decide +kernel
theorem dL_law_454 : decode cL_law 454 = .ok (.iconst 0, 1) := by decide +kernel
theorem dL_law_455 : decode cL_law 455 = .ok (.ireturn, 1) := by decide +kernel
theorem dL_law_456 : decode cL_law 456 = .ok (.aload_n 1, 1) := by decide +kernel
theorem dL_law_457 : decode cL_law 457 = .ok (.aload_n 0, 1) := by decide +kernel
theorem dL_law_458 : decode cL_law 458 = .ok (.iload_n 3, 1) := by decide +kernel
theorem dL_law_459 : decode cL_law 459 = .ok (.iconst 1, 1) := by decide +kernel
theorem dL_law_460 : decode cL_law 460 = .ok (.iadd, 1) := by decide +kernel
theorem dL_law_461 : decode cL_law 461 = .ok (.iaload, 1) := by decide +kernel
theorem dL_law_462 : decode cL_law 462 = .ok (.invokevirtual 65, 3) := by decide +kernel
theorem dL_law_465 : decode cL_law 465 = .ok (.aload_n 2, 1) := by decide +kernel
theorem dL_law_466 : decode cL_law 466 = .ok (.aload_n 0, 1) := by decide +kernel
theorem dL_law_467 : decode cL_law 467 = .ok (.iload_n 3, 1) := by decide +kernel
theorem dL_law_468 : decode cL_law 468 = .ok (.iconst 1, 1) := by decide +kernel
theorem dL_law_469 : decode cL_law 469 = .ok (.iadd, 1) := by decide +kernel
theorem dL_law_470 : decode cL_law 470 = .ok (.iaload, 1) := by decide +kernel
theorem dL_law_471 : decode cL_law 471 = .ok (.invokevirtual 68, 3) := by decide +kernel
theorem dL_law_474 : decode cL_law 474 = .ok (.if_icmp .eq 285, 3) := by decide +kernel
theorem dL_law_477 : decode cL_law 477 = .ok (.iconst 0, 1) := by decide +kernel
theorem dL_law_478 : decode cL_law 478 = .ok (.ireturn, 1) := by decide +kernel
theorem dL_law_479 : decode cL_law 479 = .ok (.aload_n 1, 1) := by decide +kernel
theorem dL_law_480 : decode cL_law 480 = .ok (.aload_n 0, 1) := by decide +kernel
theorem dL_law_481 : decode cL_law 481 = .ok (.iload_n 3, 1) := by decide +kernel
theorem dL_law_482 : decode cL_law 482 = .ok (.iconst 1, 1) := by decide +kernel
theorem dL_law_483 : decode cL_law 483 = .ok (.iadd, 1) := by decide +kernel
theorem dL_law_484 : decode cL_law 484 = .ok (.iaload, 1) := by decide +kernel
theorem dL_law_485 : decode cL_law 485 = .ok (.aload_n 0, 1) := by decide +kernel
theorem dL_law_486 : decode cL_law 486 = .ok (.iload_n 3, 1) := by decide +kernel
theorem dL_law_487 : decode cL_law 487 = .ok (.iconst 2, 1) := by decide +kernel
theorem dL_law_488 : decode cL_law 488 = .ok (.iadd, 1) := by decide +kernel
theorem dL_law_489 : decode cL_law 489 = .ok (.iaload, 1) := by decide +kernel
theorem dL_law_490 : decode cL_law 490 = .ok (.aload_n 0, 1) := by decide +kernel
theorem dL_law_491 : decode cL_law 491 = .ok (.iload_n 3, 1) := by decide +kernel
theorem dL_law_492 : decode cL_law 492 = .ok (.iconst 3, 1) := by decide +kernel
theorem dL_law_493 : decode cL_law 493 = .ok (.iadd, 1) := by decide +kernel
theorem dL_law_494 : decode cL_law 494 = .ok (.iaload, 1) := by decide +kernel
theorem dL_law_495 : decode cL_law 495 = .ok (.invokevirtual 69, 3) := by decide +kernel
theorem dL_law_498 : decode cL_law 498 = .ok (.aload_n 2, 1) := by decide +kernel
theorem dL_law_499 : decode cL_law 499 = .ok (.aload_n 0, 1) := by decide +kernel
theorem dL_law_500 : decode cL_law 500 = .ok (.iload_n 3, 1) := by decide +kernel
theorem dL_law_501 : decode cL_law 501 = .ok (.iconst 1, 1) := by decide +kernel
theorem dL_law_502 : decode cL_law 502 = .ok (.iadd, 1) := by decide +kernel
theorem dL_law_503 : decode cL_law 503 = .ok (.iaload, 1) := by decide +kernel
theorem dL_law_504 : decode cL_law 504 = .ok (.aload_n 0, 1) := by decide +kernel
theorem dL_law_505 : decode cL_law 505 = .ok (.iload_n 3, 1) := by decide +kernel
theorem dL_law_506 : decode cL_law 506 = .ok (.iconst 2, 1) := by decide +kernel
theorem dL_law_507 : decode cL_law 507 = .ok (.iadd, 1) := by decide +kernel
theorem dL_law_508 : decode cL_law 508 = .ok (.iaload, 1) := by decide +kernel
theorem dL_law_509 : decode cL_law 509 = .ok (.aload_n 0, 1) := by decide +kernel
theorem dL_law_510 : decode cL_law 510 = .ok (.iload_n 3, 1) := by decide +kernel
theorem dL_law_511 : decode cL_law 511 = .ok (.iconst 3, 1) := by decide +kernel
theorem dL_law_512 : decode cL_law 512 = .ok (.iadd, 1) := by decide +kernel
theorem dL_law_513 : decode cL_law 513 = .ok (.iaload, 1) := by decide +kernel
theorem dL_law_514 : decode cL_law 514 = .ok (.invokevirtual 73, 3) := by decide +kernel
theorem dL_law_517 : decode cL_law 517 = .ok (.if_icmp .eq 242, 3) := by decide +kernel
theorem dL_law_520 : decode cL_law 520 = .ok (.iconst 0, 1) := by decide +kernel
theorem dL_law_521 : decode cL_law 521 = .ok (.ireturn, 1) := by decide +kernel
theorem dL_law_522 : decode cL_law 522 = .ok (.aload_n 1, 1) := by decide +kernel
theorem dL_law_523 : decode cL_law 523 = .ok (.aload_n 0, 1) := by decide +kernel
theorem dL_law_524 : decode cL_law 524 = .ok (.iload_n 3, 1) := by decide +kernel
theorem dL_law_525 : decode cL_law 525 = .ok (.iconst 1, 1) := by decide +kernel
theorem dL_law_526 : decode cL_law 526 = .ok (.iadd, 1) := by decide +kernel
theorem dL_law_527 : decode cL_law 527 = .ok (.iaload, 1) := by decide +kernel
theorem dL_law_528 : decode cL_law 528 = .ok (.aload_n 0, 1) := by decide +kernel
theorem dL_law_529 : decode cL_law 529 = .ok (.iload_n 3, 1) := by decide +kernel
theorem dL_law_530 : decode cL_law 530 = .ok (.iconst 2, 1) := by decide +kernel
theorem dL_law_531 : decode cL_law 531 = .ok (.iadd, 1) := by decide +kernel
theorem dL_law_532 : decode cL_law 532 = .ok (.iaload, 1) := by decide +kernel
theorem dL_law_533 : decode cL_law 533 = .ok (.aload_n 0, 1) := by decide +kernel
theorem dL_law_534 : decode cL_law 534 = .ok (.iload_n 3, 1) := by decide +kernel
theorem dL_law_535 : decode cL_law 535 = .ok (.iconst 3, 1) := by decide +kernel
theorem dL_law_536 : decode cL_law 536 = .ok (.iadd, 1) := by decide +kernel
theorem dL_law_537 : decode cL_law 537 = .ok (.iaload, 1) := by decide +kernel
theorem dL_law_538 : decode cL_law 538 = .ok (.invokevirtual 74, 3) := by decide +kernel
theorem dL_law_541 : decode cL_law 541 = .ok (.aload_n 2, 1) := by decide +kernel
theorem dL_law_542 : decode cL_law 542 = .ok (.aload_n 0, 1) := by decide +kernel
theorem dL_law_543 : decode cL_law 543 = .ok (.iload_n 3, 1) := by decide +kernel
theorem dL_law_544 : decode cL_law 544 = .ok (.iconst 1, 1) := by decide +kernel
theorem dL_law_545 : decode cL_law 545 = .ok (.iadd, 1) := by decide +kernel
theorem dL_law_546 : decode cL_law 546 = .ok (.iaload, 1) := by decide +kernel
theorem dL_law_547 : decode cL_law 547 = .ok (.aload_n 0, 1) := by decide +kernel
theorem dL_law_548 : decode cL_law 548 = .ok (.iload_n 3, 1) := by decide +kernel
theorem dL_law_549 : decode cL_law 549 = .ok (.iconst 2, 1) := by decide +kernel
theorem dL_law_550 : decode cL_law 550 = .ok (.iadd, 1) := by decide +kernel
theorem dL_law_551 : decode cL_law 551 = .ok (.iaload, 1) := by decide +kernel
theorem dL_law_552 : decode cL_law 552 = .ok (.aload_n 0, 1) := by decide +kernel
theorem dL_law_553 : decode cL_law 553 = .ok (.iload_n 3, 1) := by decide +kernel
theorem dL_law_554 : decode cL_law 554 = .ok (.iconst 3, 1) := by decide +kernel
theorem dL_law_555 : decode cL_law 555 = .ok (.iadd, 1) := by decide +kernel
theorem dL_law_556 : decode cL_law 556 = .ok (.iaload, 1) := by decide +kernel
theorem dL_law_557 : decode cL_law 557 = .ok (.invokevirtual 77, 3) := by decide +kernel
theorem dL_law_560 : decode cL_law 560 = .ok (.if_icmp .eq 199, 3) := by decide +kernel
theorem dL_law_563 : decode cL_law 563 = .ok (.iconst 0, 1) := by decide +kernel
theorem dL_law_564 : decode cL_law 564 = .ok (.ireturn, 1) := by decide +kernel
theorem dL_law_565 : decode cL_law 565 = .ok (.aload_n 1, 1) := by decide +kernel
theorem dL_law_566 : decode cL_law 566 = .ok (.aload_n 0, 1) := by decide +kernel
theorem dL_law_567 : decode cL_law 567 = .ok (.iload_n 3, 1) := by decide +kernel
theorem dL_law_568 : decode cL_law 568 = .ok (.iconst 1, 1) := by decide +kernel
theorem dL_law_569 : decode cL_law 569 = .ok (.iadd, 1) := by decide +kernel
theorem dL_law_570 : decode cL_law 570 = .ok (.iaload, 1) := by decide +kernel
theorem dL_law_571 : decode cL_law 571 = .ok (.aload_n 0, 1) := by decide +kernel
theorem dL_law_572 : decode cL_law 572 = .ok (.iload_n 3, 1) := by decide +kernel
theorem dL_law_573 : decode cL_law 573 = .ok (.iconst 2, 1) := by decide +kernel
theorem dL_law_574 : decode cL_law 574 = .ok (.iadd, 1) := by decide +kernel
theorem dL_law_575 : decode cL_law 575 = .ok (.iaload, 1) := by decide +kernel
theorem dL_law_576 : decode cL_law 576 = .ok (.invokevirtual 78, 3) := by decide +kernel
theorem dL_law_579 : decode cL_law 579 = .ok (.aload_n 2, 1) := by decide +kernel
theorem dL_law_580 : decode cL_law 580 = .ok (.aload_n 0, 1) := by decide +kernel
theorem dL_law_581 : decode cL_law 581 = .ok (.iload_n 3, 1) := by decide +kernel
theorem dL_law_582 : decode cL_law 582 = .ok (.iconst 1, 1) := by decide +kernel
theorem dL_law_583 : decode cL_law 583 = .ok (.iadd, 1) := by decide +kernel
theorem dL_law_584 : decode cL_law 584 = .ok (.iaload, 1) := by decide +kernel
theorem dL_law_585 : decode cL_law 585 = .ok (.aload_n 0, 1) := by decide +kernel
theorem dL_law_586 : decode cL_law 586 = .ok (.iload_n 3, 1) := by decide +kernel
theorem dL_law_587 : decode cL_law 587 = .ok (.iconst 2, 1) := by decide +kernel
theorem dL_law_588 : decode cL_law 588 = .ok (.iadd, 1) := by decide +kernel
theorem dL_law_589 : decode cL_law 589 = .ok (.iaload, 1) := by decide +kernel
theorem dL_law_590 : decode cL_law 590 = .ok (.invokevirtual 81, 3) := by decide +kernel
theorem dL_law_593 : decode cL_law 593 = .ok (.if_icmp .eq 166, 3) := by decide +kernel
theorem dL_law_596 : decode cL_law 596 = .ok (.iconst 0, 1) := by decide +kernel
theorem dL_law_597 : decode cL_law 597 = .ok (.ireturn, 1) := by decide +kernel
theorem dL_law_598 : decode cL_law 598 = .ok (.aload_n 1, 1) := by decide +kernel
theorem dL_law_599 : decode cL_law 599 = .ok (.aload_n 0, 1) := by decide +kernel
theorem dL_law_600 : decode cL_law 600 = .ok (.iload_n 3, 1) := by decide +kernel
theorem dL_law_601 : decode cL_law 601 = .ok (.iconst 1, 1) := by decide +kernel
theorem dL_law_602 : decode cL_law 602 = .ok (.iadd, 1) := by decide +kernel
theorem dL_law_603 : decode cL_law 603 = .ok (.iaload, 1) := by decide +kernel
theorem dL_law_604 : decode cL_law 604 = .ok (.aload_n 0, 1) := by decide +kernel
theorem dL_law_605 : decode cL_law 605 = .ok (.iload_n 3, 1) := by decide +kernel
theorem dL_law_606 : decode cL_law 606 = .ok (.iconst 2, 1) := by decide +kernel
theorem dL_law_607 : decode cL_law 607 = .ok (.iadd, 1) := by decide +kernel
theorem dL_law_608 : decode cL_law 608 = .ok (.iaload, 1) := by decide +kernel
theorem dL_law_609 : decode cL_law 609 = .ok (.aload_n 0, 1) := by decide +kernel
theorem dL_law_610 : decode cL_law 610 = .ok (.iload_n 3, 1) := by decide +kernel
theorem dL_law_611 : decode cL_law 611 = .ok (.iconst 3, 1) := by decide +kernel
theorem dL_law_612 : decode cL_law 612 = .ok (.iadd, 1) := by decide +kernel
theorem dL_law_613 : decode cL_law 613 = .ok (.iaload, 1) := by decide +kernel
theorem dL_law_614 : decode cL_law 614 = .ok (.invokevirtual 82, 3) := by decide +kernel
theorem dL_law_617 : decode cL_law 617 = .ok (.aload_n 2, 1) := by decide +kernel
theorem dL_law_618 : decode cL_law 618 = .ok (.aload_n 0, 1) := by decide +kernel
theorem dL_law_619 : decode cL_law 619 = .ok (.iload_n 3, 1) := by decide +kernel
theorem dL_law_620 : decode cL_law 620 = .ok (.iconst 1, 1) := by decide +kernel
theorem dL_law_621 : decode cL_law 621 = .ok (.iadd, 1) := by decide +kernel
theorem dL_law_622 : decode cL_law 622 = .ok (.iaload, 1) := by decide +kernel
theorem dL_law_623 : decode cL_law 623 = .ok (.aload_n 0, 1) := by decide +kernel
theorem dL_law_624 : decode cL_law 624 = .ok (.iload_n 3, 1) := by decide +kernel
theorem dL_law_625 : decode cL_law 625 = .ok (.iconst 2, 1) := by decide +kernel
theorem dL_law_626 : decode cL_law 626 = .ok (.iadd, 1) := by decide +kernel
theorem dL_law_627 : decode cL_law 627 = .ok (.iaload, 1) := by decide +kernel
theorem dL_law_628 : decode cL_law 628 = .ok (.aload_n 0, 1) := by decide +kernel
theorem dL_law_629 : decode cL_law 629 = .ok (.iload_n 3, 1) := by decide +kernel
theorem dL_law_630 : decode cL_law 630 = .ok (.iconst 3, 1) := by decide +kernel
theorem dL_law_631 : decode cL_law 631 = .ok (.iadd, 1) := by decide +kernel
theorem dL_law_632 : decode cL_law 632 = .ok (.iaload, 1) := by decide +kernel
theorem dL_law_633 : decode cL_law 633 = .ok (.invokevirtual 85, 3) := by decide +kernel
theorem dL_law_636 : decode cL_law 636 = .ok (.if_icmp .eq 123, 3) := by decide +kernel
theorem dL_law_639 : decode cL_law 639 = .ok (.iconst 0, 1) := by decide +kernel
theorem dL_law_640 : decode cL_law 640 = .ok (.ireturn, 1) := by decide +kernel
theorem dL_law_641 : decode cL_law 641 = .ok (.aload_n 1, 1) := by decide +kernel
theorem dL_law_642 : decode cL_law 642 = .ok (.invokevirtual 86, 3) := by decide +kernel
theorem dL_law_645 : decode cL_law 645 = .ok (.aload_n 2, 1) := by decide +kernel
theorem dL_law_646 : decode cL_law 646 = .ok (.invokevirtual 89, 3) := by decide +kernel
theorem dL_law_649 : decode cL_law 649 = .ok (.if_icmp .eq 110, 3) := by decide +kernel
theorem dL_law_652 : decode cL_law 652 = .ok (.iconst 0, 1) := by decide +kernel
theorem dL_law_653 : decode cL_law 653 = .ok (.ireturn, 1) := by decide +kernel
theorem dL_law_654 : decode cL_law 654 = .ok (.aload_n 1, 1) := by decide +kernel
theorem dL_law_655 : decode cL_law 655 = .ok (.invokevirtual 90, 3) := by decide +kernel
theorem dL_law_658 : decode cL_law 658 = .ok (.aload_n 2, 1) := by decide +kernel
theorem dL_law_659 : decode cL_law 659 = .ok (.invokevirtual 93, 3) := by decide +kernel
theorem dL_law_662 : decode cL_law 662 = .ok (.if_icmp .eq 97, 3) := by decide +kernel
theorem dL_law_665 : decode cL_law 665 = .ok (.iconst 0, 1) := by decide +kernel
theorem dL_law_666 : decode cL_law 666 = .ok (.ireturn, 1) := by decide +kernel
theorem dL_law_667 : decode cL_law 667 = .ok (.aload_n 1, 1) := by decide +kernel
theorem dL_law_668 : decode cL_law 668 = .ok (.aload_n 0, 1) := by decide +kernel
theorem dL_law_669 : decode cL_law 669 = .ok (.iload_n 3, 1) := by decide +kernel
theorem dL_law_670 : decode cL_law 670 = .ok (.iconst 1, 1) := by decide +kernel
theorem dL_law_671 : decode cL_law 671 = .ok (.iadd, 1) := by decide +kernel
theorem dL_law_672 : decode cL_law 672 = .ok (.iaload, 1) := by decide +kernel
theorem dL_law_673 : decode cL_law 673 = .ok (.invokevirtual 94, 3) := by decide +kernel
theorem dL_law_676 : decode cL_law 676 = .ok (.aload_n 2, 1) := by decide +kernel
theorem dL_law_677 : decode cL_law 677 = .ok (.aload_n 0, 1) := by decide +kernel
theorem dL_law_678 : decode cL_law 678 = .ok (.iload_n 3, 1) := by decide +kernel
theorem dL_law_679 : decode cL_law 679 = .ok (.iconst 1, 1) := by decide +kernel
theorem dL_law_680 : decode cL_law 680 = .ok (.iadd, 1) := by decide +kernel
theorem dL_law_681 : decode cL_law 681 = .ok (.iaload, 1) := by decide +kernel
theorem dL_law_682 : decode cL_law 682 = .ok (.invokevirtual 97, 3) := by decide +kernel
theorem dL_law_685 : decode cL_law 685 = .ok (.if_icmp .eq 74, 3) := by decide +kernel
theorem dL_law_688 : decode cL_law 688 = .ok (.iconst 0, 1) := by decide +kernel
theorem dL_law_689 : decode cL_law 689 = .ok (.ireturn, 1) := by decide +kernel
theorem dL_law_690 : decode cL_law 690 = .ok (.aload_n 1, 1) := by decide +kernel
theorem dL_law_691 : decode cL_law 691 = .ok (.aload_n 0, 1) := by decide +kernel
theorem dL_law_692 : decode cL_law 692 = .ok (.iload_n 3, 1) := by decide +kernel
theorem dL_law_693 : decode cL_law 693 = .ok (.iconst 1, 1) := by decide +kernel
theorem dL_law_694 : decode cL_law 694 = .ok (.iadd, 1) := by decide +kernel
theorem dL_law_695 : decode cL_law 695 = .ok (.iaload, 1) := by decide +kernel
theorem dL_law_696 : decode cL_law 696 = .ok (.invokevirtual 98, 3) := by decide +kernel
theorem dL_law_699 : decode cL_law 699 = .ok (.aload_n 2, 1) := by decide +kernel
theorem dL_law_700 : decode cL_law 700 = .ok (.aload_n 0, 1) := by decide +kernel
theorem dL_law_701 : decode cL_law 701 = .ok (.iload_n 3, 1) := by decide +kernel
theorem dL_law_702 : decode cL_law 702 = .ok (.iconst 1, 1) := by decide +kernel
theorem dL_law_703 : decode cL_law 703 = .ok (.iadd, 1) := by decide +kernel
theorem dL_law_704 : decode cL_law 704 = .ok (.iaload, 1) := by decide +kernel
theorem dL_law_705 : decode cL_law 705 = .ok (.invokevirtual 101, 3) := by decide +kernel
theorem dL_law_708 : decode cL_law 708 = .ok (.if_icmp .eq 51, 3) := by decide +kernel
theorem dL_law_711 : decode cL_law 711 = .ok (.iconst 0, 1) := by decide +kernel
theorem dL_law_712 : decode cL_law 712 = .ok (.ireturn, 1) := by decide +kernel
theorem dL_law_713 : decode cL_law 713 = .ok (.aload_n 1, 1) := by decide +kernel
theorem dL_law_714 : decode cL_law 714 = .ok (.aload_n 0, 1) := by decide +kernel
theorem dL_law_715 : decode cL_law 715 = .ok (.iload_n 3, 1) := by decide +kernel
theorem dL_law_716 : decode cL_law 716 = .ok (.iconst 1, 1) := by decide +kernel
theorem dL_law_717 : decode cL_law 717 = .ok (.iadd, 1) := by decide +kernel
theorem dL_law_718 : decode cL_law 718 = .ok (.iaload, 1) := by decide +kernel
theorem dL_law_719 : decode cL_law 719 = .ok (.invokevirtual 102, 3) := by decide +kernel
theorem dL_law_722 : decode cL_law 722 = .ok (.aload_n 2, 1) := by decide +kernel
theorem dL_law_723 : decode cL_law 723 = .ok (.aload_n 0, 1) := by decide +kernel
theorem dL_law_724 : decode cL_law 724 = .ok (.iload_n 3, 1) := by decide +kernel
theorem dL_law_725 : decode cL_law 725 = .ok (.iconst 1, 1) := by decide +kernel
theorem dL_law_726 : decode cL_law 726 = .ok (.iadd, 1) := by decide +kernel
theorem dL_law_727 : decode cL_law 727 = .ok (.iaload, 1) := by decide +kernel
theorem dL_law_728 : decode cL_law 728 = .ok (.invokevirtual 105, 3) := by decide +kernel
theorem dL_law_731 : decode cL_law 731 = .ok (.if_icmp .eq 28, 3) := by decide +kernel
theorem dL_law_734 : decode cL_law 734 = .ok (.iconst 0, 1) := by decide +kernel
theorem dL_law_735 : decode cL_law 735 = .ok (.ireturn, 1) := by decide +kernel
theorem dL_law_736 : decode cL_law 736 = .ok (.aload_n 1, 1) := by decide +kernel
theorem dL_law_737 : decode cL_law 737 = .ok (.aload_n 0, 1) := by decide +kernel
theorem dL_law_738 : decode cL_law 738 = .ok (.iload_n 3, 1) := by decide +kernel
theorem dL_law_739 : decode cL_law 739 = .ok (.iconst 1, 1) := by decide +kernel
theorem dL_law_740 : decode cL_law 740 = .ok (.iadd, 1) := by decide +kernel
theorem dL_law_741 : decode cL_law 741 = .ok (.iaload, 1) := by decide +kernel
theorem dL_law_742 : decode cL_law 742 = .ok (.invokevirtual 106, 3) := by decide +kernel
theorem dL_law_745 : decode cL_law 745 = .ok (.aload_n 2, 1) := by decide +kernel
theorem dL_law_746 : decode cL_law 746 = .ok (.aload_n 0, 1) := by decide +kernel
theorem dL_law_747 : decode cL_law 747 = .ok (.iload_n 3, 1) := by decide +kernel
theorem dL_law_748 : decode cL_law 748 = .ok (.iconst 1, 1) := by decide +kernel
theorem dL_law_749 : decode cL_law 749 = .ok (.iadd, 1) := by decide +kernel
theorem dL_law_750 : decode cL_law 750 = .ok (.iaload, 1) := by decide +kernel
theorem dL_law_751 : decode cL_law 751 = .ok (.invokevirtual 109, 3) := by decide +kernel
theorem dL_law_754 : decode cL_law 754 = .ok (.if_icmp .eq 5, 3) := by decide +kernel
theorem dL_law_757 : decode cL_law 757 = .ok (.iconst 0, 1) := by decide +kernel
theorem dL_law_758 : decode cL_law 758 = .ok (.ireturn, 1) := by decide +kernel
theorem dL_law_759 : decode cL_law 759 = .ok (.iinc 3 5, 3) := by decide +kernel
theorem dL_law_762 : decode cL_law 762 = .ok (.goto (-744), 3) := by decide +kernel
theorem dL_law_765 : decode cL_law 765 = .ok (.iconst 1, 1) := by decide +kernel
theorem dL_law_766 : decode cL_law 766 = .ok (.ireturn, 1) := by decide +kernel
end
section
/-! numbers: ints and longs as Int -/
def iI (a : Int) : Int32 := Int32.ofInt a
def lL (a : Int) : Int64 := Int64.ofInt a
theorem iI_toInt (x : Int32) : iI x.toInt = x := by simp [iI]
theorem lL_toInt (x : Int64) : lL x.toInt = x := by simp [lL]
theorem iI_of {a : Int} (h : -2147483648 ≤ a ∧ a ≤ 2147483647) : (iI a).toInt = a := by
  unfold iI
  rw [Int32.toInt_ofInt]
  apply Int.bmod_eq_of_le <;> simp [Int32.size] <;> omega
theorem lL_of {a : Int} (h : -9223372036854775808 ≤ a ∧ a ≤ 9223372036854775807) : (lL a).toInt = a := by
  unfold lL
  rw [Int64.toInt_ofInt]
  apply Int.bmod_eq_of_le <;> simp [Int64.size] <;> omega
theorem iI_rng (x : Int32) : -2147483648 ≤ x.toInt ∧ x.toInt ≤ 2147483647 := by
  have h1 := Int32.le_toInt x
  have h2 := Int32.toInt_lt x
  constructor <;> omega
theorem iI_add (a b : Int) : iI a + iI b = iI (a + b) := by simp [iI, Int32.ofInt_add]
theorem iI_sub (a b : Int) : iI a - iI b = iI (a - b) := by simp [iI, Int32.ofInt_sub]
theorem iI_mul (a b : Int) : iI a * iI b = iI (a * b) := by simp [iI, Int32.ofInt_mul]
theorem lL_add (a b : Int) : lL a + lL b = lL (a + b) := by simp [lL, Int64.ofInt_add]
theorem lL_sub (a b : Int) : lL a - lL b = lL (a - b) := by simp [lL, Int64.ofInt_sub]
theorem lL_mul (a b : Int) : lL a * lL b = lL (a * b) := by simp [lL, Int64.ofInt_mul]
theorem iI_lt {a b : Int} (ha : -2147483648 ≤ a ∧ a ≤ 2147483647) (hb : -2147483648 ≤ b ∧ b ≤ 2147483647) : iI a < iI b ↔ a < b := by
  rw [Int32.lt_iff_toInt_lt, iI_of ha, iI_of hb]
theorem iI_le {a b : Int} (ha : -2147483648 ≤ a ∧ a ≤ 2147483647) (hb : -2147483648 ≤ b ∧ b ≤ 2147483647) : iI a ≤ iI b ↔ a ≤ b := by
  rw [Int32.le_iff_toInt_le, iI_of ha, iI_of hb]
theorem iI_eq {a b : Int} (ha : -2147483648 ≤ a ∧ a ≤ 2147483647) (hb : -2147483648 ≤ b ∧ b ≤ 2147483647) : iI a = iI b ↔ a = b := by
  rw [← Int32.toInt_inj, iI_of ha, iI_of hb]
theorem lL_lt {a b : Int} (ha : -9223372036854775808 ≤ a ∧ a ≤ 9223372036854775807) (hb : -9223372036854775808 ≤ b ∧ b ≤ 9223372036854775807) : lL a < lL b ↔ a < b := by
  rw [Int64.lt_iff_toInt_lt, lL_of ha, lL_of hb]
theorem lL_le {a b : Int} (ha : -9223372036854775808 ≤ a ∧ a ≤ 9223372036854775807) (hb : -9223372036854775808 ≤ b ∧ b ≤ 9223372036854775807) : lL a ≤ lL b ↔ a ≤ b := by
  rw [Int64.le_iff_toInt_le, lL_of ha, lL_of hb]
theorem lL_eq {a b : Int} (ha : -9223372036854775808 ≤ a ∧ a ≤ 9223372036854775807) (hb : -9223372036854775808 ≤ b ∧ b ≤ 9223372036854775807) : lL a = lL b ↔ a = b := by
  rw [← Int64.toInt_inj, lL_of ha, lL_of hb]
theorem lL_div {a b : Int} (ha : 0 ≤ a ∧ a ≤ 9223372036854775807) (hb : 0 < b ∧ b ≤ 9223372036854775807) : lL a / lL b = lL (a / b) := by
  have h0 : a / b ≤ a := Int.ediv_le_self b ha.1
  have h1 : 0 ≤ a / b := Int.ediv_nonneg ha.1 (by omega)
  apply Int64.toInt_inj.mp
  rw [Int64.toInt_div, lL_of (by omega), lL_of (by omega), lL_of (by omega), Int.tdiv_eq_ediv_of_nonneg ha.1]
  apply Int.bmod_eq_of_le <;> simp [Int64.size] <;> omega
theorem lL_rem {a b : Int} (ha : 0 ≤ a ∧ a ≤ 9223372036854775807) (hb : 0 < b ∧ b ≤ 9223372036854775807) : lL a - lL a / lL b * lL b = lL (a % b) := by
  rw [lL_div ha hb, lL_mul, lL_sub]
  congr 1
  rw [Int.emod_def, Int.mul_comm b (a / b)]
theorem iI_div {a b : Int} (ha : 0 ≤ a ∧ a ≤ 2147483647) (hb : 0 < b ∧ b ≤ 2147483647) : iI a / iI b = iI (a / b) := by
  have h0 : a / b ≤ a := Int.ediv_le_self b ha.1
  have h1 : 0 ≤ a / b := Int.ediv_nonneg ha.1 (by omega)
  apply Int32.toInt_inj.mp
  rw [Int32.toInt_div, iI_of (by omega), iI_of (by omega), iI_of (by omega), Int.tdiv_eq_ediv_of_nonneg ha.1]
  apply Int.bmod_eq_of_le <;> simp [Int32.size] <;> omega
theorem iI_rem {a b : Int} (ha : 0 ≤ a ∧ a ≤ 2147483647) (hb : 0 < b ∧ b ≤ 2147483647) : iI a - iI a / iI b * iI b = iI (a % b) := by
  rw [iI_div ha hb, iI_mul, iI_sub]
  congr 1
  rw [Int.emod_def, Int.mul_comm b (a / b)]
theorem iI_l {a : Int} (h : -2147483648 ≤ a ∧ a ≤ 2147483647) : (iI a).toInt64 = lL a := by
  apply Int64.toInt_inj.mp
  rw [Int32.toInt_toInt64, iI_of h, lL_of (by omega)]
theorem lL_i (a : Int) : (lL a).toInt32 = iI a := by simp [lL, iI]
theorem iI_clamp {a : Int} (h : 0 ≤ a ∧ a ≤ 2147483647) : (iI a).toNatClampNeg = a.toNat := by
  show (iI a).toInt.toNat = _
  rw [iI_of (by omega)]
theorem iI_in {a : Int} {n : Nat} (h0 : 0 ≤ a) (h : a < n) (hn : n < 2147483648) : vp_in (iI a) n := by
  rw [vp_in_iff, iI_of (by omega)]
  exact ⟨h0, h⟩
end
section
/-! the abstract machine: what a state is, and what a judgement over it says of the real one -/
abbrev AV : Type := Int ⊕ Int ⊕ Option Nat
abbrev aI (a : Int) : AV := Sum.inl a
abbrev aL (a : Int) : AV := Sum.inr (Sum.inl a)
abbrev aR (r : Nat) : AV := Sum.inr (Sum.inr (some r))
abbrev aN : AV := Sum.inr (Sum.inr none)
abbrev AE : Type := (Nat × Nat × ((Nat → Int) ⊕ (Nat → Option Nat))) ⊕ (Nat × List AV)
abbrev aA (t len : Nat) (f : Nat → Int) : AE := Sum.inl (t, len, Sum.inl f)
abbrev aQ (t len : Nat) (f : Nat → Option Nat) : AE := Sum.inl (t, len, Sum.inr f)
abbrev aO (c : Nat) (fs : List AV) : AE := Sum.inr (c, fs)
abbrev aDead : AE := aO 99 []
abbrev AH : Type := Nat → AE
/-- base, the script's address, class numbers, slots, array classes' numbers, the script's length and ints -/
abbrev AG : Type := Nat × Nat × (Nat → ClassId) × (Nat → Nat → Nat) × (Nat → ClassId) × Nat × (Nat → Int)
def am_adr (G : AG) : Nat → Nat
  | 0 => G.2.1
  | k + 1 => G.1 + k
def am_v (G : AG) : AV → Value
  | .inl a => .int (iI a)
  | .inr (.inl a) => .long (lL a)
  | .inr (.inr none) => .null
  | .inr (.inr (some r)) => .ref (am_adr G r)
def am_e (G : AG) : AE → va_E
  | .inl (t, n, .inl f) => .inl (G.2.2.2.2.1 t, n, if t = 3 then .inr (.inl (fun i => lL (f i))) else .inl (fun i => iI (f i)))
  | .inl (t, n, .inr f) => .inl (G.2.2.2.2.1 t, n, .inr (.inr (.inr (.inr (fun i => (f i).map (am_adr G))))))
  | .inr (c, fs) => .inr (c, fs.map (am_v G))
def am_ws (G : AG) (n : Nat) (h : AH) : va_W := (List.range n).map (fun k => (G.1 + k, am_e G (h (k + 1))))
def am_tys (G : AG) : List (ClassId × FieldType) := [(G.2.2.2.2.1 0, .int), (G.2.2.2.2.1 1, .boolean), (G.2.2.2.2.1 2, .char), (G.2.2.2.2.1 3, .long), (G.2.2.2.2.1 4, .object RX2), (G.2.2.2.2.1 5, .array .int)]
abbrev am_D (G : AG) : va_G := (G.2.2.1, G.2.2.2.1)
def TT : List Cond := lw_tbl.filter goodWord
theorem tt_in {w : Cond} (i : Nat) (h : lw_tbl[i]? = some w) (hg : goodWord w = true) : w ∈ TT := List.mem_filter.mpr ⟨List.mem_of_getElem? h, hg⟩
theorem tt_sub (ws : List Cond) (ps : List Nat) (hp : ws = ps.filterMap (fun i => lw_tbl[i]?)) (h : ws.all goodWord = true) : ∀ w ∈ ws, w ∈ TT := by
  intro w hw
  have h1 := List.all_eq_true.mp h w hw
  rw [hp] at hw
  obtain ⟨i, -, hi⟩ := List.mem_filterMap.mp hw
  exact tt_in i hi h1
theorem tt_good {w : Cond} (h : w ∈ TT) : (w.onTables && w.keeps) = true ∨ ∃ ty, w = .arrayClass ty := good_of_word (List.mem_filter.mp h).2
def am_nest : List (String × Nat × MethodName × String) := [(RX5, 18, yX2_init, RX5), (RX5, 28, yX3_init, RX5), (RX3, 39, yX2_init, RX5), (RX1, 21, yX2_init, RX5), (RX5, 50, yX0_init, RX5), (RX5, 57, yX4_init, RX5), (RX0, 61, yX5_isLength, RX5), (RX4, 26, yX5_splitters, RX5)]
def am_K (G : AG) (s : State) : Prop := va_K (am_D G) vwCl (am_tys G) s ∧ (∀ q ∈ am_nest, va_Nw (.methodLinkNest q.1 q.2.1 q.2.2.1 q.2.2.2) s) ∧ va_AO RX2 s ∧ (Cond.arrayOver (.array .int)).before #[] s = true
def am_W (G : AG) (n : Nat) (h : AH) (H : Heap) : Prop := H.size = G.1 + n ∧ (h 0 = aA 6 G.2.2.2.2.2.1 G.2.2.2.2.2.2 ∧ ∀ i, n < i → h i = aDead) ∧ va_P (am_D G) vwCl (am_ws G n h) H
/-- no script, no empty place -/
def am_ok (e : AE) : Prop := e ≠ aDead ∧ ∀ len f, e ≠ aA 6 len f
/-- a method: its name, code, locals, what it answers, how many arguments -/
abbrev AM : Type := MethodName × ByteArray × Nat × Option FieldType × Nat
abbrev am_X (G : AG) (s : State) (H : Heap) : Prop := va_X G.2.1 G.2.2.2.2.2.1 (fun j => iI (G.2.2.2.2.2.2 j)) s H
def am_C (M : AM) (G : AG) (p : Program) (s : State) (m : MethodId) (args : Array Value) (meth : Method) (c : Code) : Prop :=
  p.tables.exec = Jvm.exec ∧ c.code = M.2.1 ∧ meth.sig.returnType = M.2.2.2.1 ∧ c.maxLocals = M.2.2.1 ∧ s.vm.findClass M.1.cls = some m.cls ∧ meth.locks = false ∧ meth.name = M.1.name ∧ (∀ w ∈ TT, w.before args s = true) ∧ am_K G s ∧ am_X G s s.heap ∧ G.2.1 < G.1 ∧ G.1 ≤ s.heap.size
def lk : List (Option AV) → Nat → Option AV
  | [], _ => none
  | x :: _, 0 => x
  | _ :: t, k + 1 => lk t k
def am_l (G : AG) (ls : Array Slot) (nL : Nat) (L : List (Option AV)) : Prop := ls.size = nL ∧ lv_wf ls ∧ ∀ i v, lk L i = some v → ls[i]? = some (.val (am_v G v))
abbrev AQ : Type := Option AV → Nat → AH → Prop
def am_Q (G : AG) (Q : AQ) : Array Value → State → Outcome → State → Prop := fun _ st oc t => (∃ (r : Option AV) (n : Nat) (h : AH), oc = .returned (r.map (am_v G)) ∧ Q r n h ∧ am_W G n h t.heap) ∧ va_F (fun q => G.1 ≤ q) st t
def am_R (d mc ms : Nat) : Room := { frames := d, cells := mc, slots := ms, locals := 64 * d }
/-- the end that a walk comes to: by the world's numbers, the frames below, the arguments, the state at the start -/
abbrev AZ : Type := AG → List Frame → Array Value → State → State → Prop
def am_Z (Q : AQ) (mc ms : Nat) : AZ := fun G below args s => MQ below (am_Q G Q) args s mc ms (fun q => G.1 ≤ q)
def AW (M : AM) (R : Room) (Z : AZ) (cu su n : Nat) (h : AH) (pc : Nat) (L : List (Option AV)) (st : List AV) : Prop :=
  ∀ (p : Program) (l : Launch) (e : Env) (s : State) (m : MethodId) (args : Array Value) (below : List Frame) (meth : Method) (c : Code) (G : AG) (H : Heap) (locs : List Loc) (ls : Array Slot), am_C M G p s m args meth c → am_W G n h H → va_S (fun q => G.1 ≤ q) s.heap H locs → am_l G ls M.2.2.1 L →
    W p l e R s m args below meth c H locs cu su (Z G below args s) (F0 m pc ls (st.map (am_v G)))
def am_P (G : AG) (n : Nat) (h : AH) (as : List AV) : Array Value → State → Prop := fun v U => v = (as.map (am_v G)).toArray ∧ am_W G n h U.heap ∧ am_K G U ∧ am_X G U U.heap ∧ G.2.1 < G.1
def AC (M : AM) (d mc ms n : Nat) (h : AH) (as : List AV) (Q : AQ) : Prop :=
  ∀ (l : Launch) (G : AG), Met l M.1 (Cond.code M.1 M.2.1 M.2.2.1 M.2.2.2.1 :: TT) (am_R d mc ms) (am_P G n h as) (am_Q G Q) mc ms (fun q => G.1 ≤ q)
-- worlds
theorem am_get {G : AG} {n k : Nat} {h : AH} (hk : k < n) : (am_ws G n h)[k]? = some (G.1 + k, am_e G (h (k + 1))) := by
  simp [am_ws, List.getElem?_map, List.getElem?_range hk]
theorem am_set {G : AG} {n k : Nat} {h : AH} {e : AE} (hk : k < n) : (am_ws G n h).set k (G.1 + k, am_e G e) = am_ws G n (va_up h (k + 1) e) := by
  apply List.ext_getElem?
  intro j
  by_cases hj : j < n
  · rw [am_get hj]
    by_cases hjk : k = j
    · subst hjk
      rw [List.getElem?_set_self (by simp [am_ws, hk])]
      simp [va_up]
    · rw [List.getElem?_set_ne hjk, am_get hj]
      simp [va_up, show ¬ j = k by omega]
  · rw [List.getElem?_eq_none (by simp [am_ws]; omega), List.getElem?_eq_none (by simp [am_ws]; omega)]
theorem am_Dj {G : AG} {n : Nat} {h : AH} : va_D (fun q => G.1 ≤ q) (am_ws G n h) := by
  refine ⟨fun i j p q hi hj hpq => ?_, fun k q hk => ?_⟩
  · have h1 : i < n := by have := (List.getElem?_eq_some_iff.mp hi).1; simpa [am_ws] using this
    have h2 : j < n := by have := (List.getElem?_eq_some_iff.mp hj).1; simpa [am_ws] using this
    rw [am_get h1] at hi
    rw [am_get h2] at hj
    cases hi
    cases hj
    simpa using hpq
  · have h1 : k < n := by have := (List.getElem?_eq_some_iff.mp hk).1; simpa [am_ws] using this
    rw [am_get h1] at hk
    cases hk
    simp
theorem am_W.ix {G : AG} {n : Nat} {h : AH} {H : Heap} (w : am_W G n h H) {r : Nat} {e : AE} (hr : h r = e) (hn : am_ok e) : ∃ k, r = k + 1 ∧ k < n := by
  cases r with
  | zero => exact absurd (hr.symm.trans w.2.1.1) (hn.2 _ _)
  | succ k =>
    refine ⟨k, rfl, ?_⟩
    rcases Nat.lt_or_ge k n with q | q
    · exact q
    · exact absurd (hr.symm.trans (w.2.1.2 (k + 1) (by omega))) hn.1
theorem am_W.put {G : AG} {n k : Nat} {h : AH} {H H1 : Heap} {e : AE} (w : am_W G n h H) (hk : k < n) (hz : H1.size = H.size) (hP : va_P (am_D G) vwCl ((am_ws G n h).set k (G.1 + k, am_e G e)) H1) : am_W G n (va_up h (k + 1) e) H1 := by
  refine ⟨hz.trans w.1, ⟨?_, fun i hi => ?_⟩, ?_⟩
  · rw [show va_up h (k + 1) e 0 = h 0 from if_neg (by omega)]
    exact w.2.1.1
  · rw [show va_up h (k + 1) e i = h i from if_neg (by omega)]
    exact w.2.1.2 i hi
  · rw [← am_set hk]
    exact hP
theorem am_W.push {G : AG} {n : Nat} {h : AH} {H H1 : Heap} {e : AE} (w : am_W G n h H) (z : H1.size = H.size + 1) (o : ∀ q : Nat, q < H.size → H1[q]? = H[q]?) (hnew : va_at (am_D G) vwCl (G.1 + n, am_e G e) H1) : am_W G (n + 1) (va_up h (n + 1) e) H1 := by
  refine ⟨by rw [z, w.1]; omega, ⟨?_, fun i hi => ?_⟩, fun k q hq => ?_⟩
  · rw [show va_up h (n + 1) e 0 = h 0 from if_neg (by omega)]
    exact w.2.1.1
  · rw [show va_up h (n + 1) e i = h i from if_neg (by omega)]
    exact w.2.1.2 i (by omega)
  · have h1 : k < n + 1 := by have := (List.getElem?_eq_some_iff.mp hq).1; simpa [am_ws] using this
    rw [am_get h1] at hq
    cases hq
    by_cases hk : k = n
    · subst hk
      rw [show va_up h (k + 1) e (k + 1) = e from if_pos rfl]
      exact hnew
    · rw [show va_up h (n + 1) e (k + 1) = h (k + 1) from if_neg (by omega)]
      have h2 : k < n := by omega
      refine (w.2.2 k _ (am_get h2)).kept (o _ ?_)
      rw [w.1]
      show G.1 + k < G.1 + n
      omega
-- locals
def stI : List (Option AV) → Nat → AV → List (Option AV)
  | [], _, _ => []
  | _ :: t, 0, v => some v :: t
  | x :: t, 1, v => (match x with | some (.inr (.inl _)) => none | y => y) :: stI t 0 v
  | x :: t, k + 2, v => x :: stI t (k + 1) v
def st0 : List (Option AV) → List (Option AV)
  | [] => []
  | _ :: t => none :: t
def stJ : List (Option AV) → Nat → AV → List (Option AV)
  | [], _, _ => []
  | _ :: t, 0, v => some v :: st0 t
  | x :: t, 1, v => (match x with | some (.inr (.inl _)) => none | y => y) :: stJ t 0 v
  | x :: t, k + 2, v => x :: stJ t (k + 1) v
def am_cat : AV → Nat
  | .inl _ => 1
  | .inr (.inl _) => 2
  | .inr (.inr _) => 1
theorem am_cat_v (G : AG) (v : AV) : (am_v G v).category = am_cat v := by
  rcases v with a | a | r
  · rfl
  · rfl
  · cases r <;> rfl
theorem lk_stI (L : List (Option AV)) : ∀ (i : Nat) (v : AV) (j : Nat) (w : AV), lk (stI L i v) j = some w → (j = i ∧ w = v) ∨ (j ≠ i ∧ lk L j = some w ∧ ¬ (j + 1 = i ∧ am_cat w = 2)) := by
  induction L with
  | nil => intro i v j w h; cases i <;> simp [stI, lk] at h
  | cons x t ih =>
    intro i v j w h
    match i, j with
    | 0, 0 => simp [stI, lk] at h; exact Or.inl ⟨rfl, h.symm⟩
    | 0, j + 1 => simp [stI, lk] at h; exact Or.inr ⟨by omega, by simpa [lk] using h, by omega⟩
    | 1, 0 =>
      simp only [stI, lk] at h
      refine Or.inr ⟨by omega, ?_, ?_⟩
      · simp only [lk]
        split at h
        · cases h
        · exact h
      · rintro ⟨-, hc⟩
        split at h
        · cases h
        · rename_i hx
          subst h
          rcases w with a | a | r
          · simp [am_cat] at hc
          · exact hx a rfl
          · simp [am_cat] at hc
    | 1, j + 1 =>
      simp only [stI, lk] at h
      rcases ih 0 v j w h with ⟨h1, h2⟩ | ⟨h1, h2, h3⟩
      · exact Or.inl ⟨by omega, h2⟩
      · exact Or.inr ⟨by omega, h2, by omega⟩
    | k + 2, 0 =>
      simp only [stI, lk] at h
      exact Or.inr ⟨by omega, h, by omega⟩
    | k + 2, j + 1 =>
      simp only [stI, lk] at h
      rcases ih (k + 1) v j w h with ⟨h1, h2⟩ | ⟨h1, h2, h3⟩
      · exact Or.inl ⟨by omega, h2⟩
      · exact Or.inr ⟨by omega, h2, fun q => h3 ⟨by omega, q.2⟩⟩
theorem lk_stJ (L : List (Option AV)) : ∀ (i : Nat) (v : AV) (j : Nat) (w : AV), lk (stJ L i v) j = some w → (j = i ∧ w = v) ∨ (j ≠ i ∧ j ≠ i + 1 ∧ lk L j = some w ∧ ¬ (j + 1 = i ∧ am_cat w = 2)) := by
  induction L with
  | nil => intro i v j w h; cases i <;> simp [stJ, lk] at h
  | cons x t ih =>
    intro i v j w h
    match i, j with
    | 0, 0 => simp [stJ, lk] at h; exact Or.inl ⟨rfl, h.symm⟩
    | 0, 1 => cases t <;> simp [stJ, st0, lk] at h
    | 0, j + 2 =>
      cases t with
      | nil => simp [stJ, st0, lk] at h
      | cons y t2 => simp [stJ, st0, lk] at h; exact Or.inr ⟨by omega, by omega, by simpa [lk] using h, by omega⟩
    | 1, 0 =>
      simp only [stJ, lk] at h
      refine Or.inr ⟨by omega, by omega, ?_, ?_⟩
      · simp only [lk]
        split at h
        · cases h
        · exact h
      · rintro ⟨-, hc⟩
        split at h
        · cases h
        · rename_i hx
          subst h
          rcases w with a | a | r
          · simp [am_cat] at hc
          · exact hx a rfl
          · simp [am_cat] at hc
    | 1, j + 1 =>
      simp only [stJ, lk] at h
      rcases ih 0 v j w h with ⟨h1, h2⟩ | ⟨h1, h2, h3, h4⟩
      · exact Or.inl ⟨by omega, h2⟩
      · exact Or.inr ⟨by omega, by omega, h3, by omega⟩
    | k + 2, 0 =>
      simp only [stJ, lk] at h
      exact Or.inr ⟨by omega, by omega, h, by omega⟩
    | k + 2, j + 1 =>
      simp only [stJ, lk] at h
      rcases ih (k + 1) v j w h with ⟨h1, h2⟩ | ⟨h1, h2, h3, h4⟩
      · exact Or.inl ⟨by omega, h2⟩
      · exact Or.inr ⟨by omega, by omega, h3, fun q => h4 ⟨by omega, q.2⟩⟩
def lk_all (G : AG) (L : List (Option AV)) : List (Nat × Value) := (List.range L.length).filterMap (fun i => (lk L i).map (fun v => (i, am_v G v)))
theorem lk_lt {L : List (Option AV)} : ∀ {i : Nat} {v : AV}, lk L i = some v → i < L.length := by
  induction L with
  | nil => intro i v h; cases i <;> simp [lk] at h
  | cons x t ih =>
    intro i v h
    cases i with
    | zero => simp
    | succ i => simp only [lk] at h; have := ih h; simp; exact this
theorem lk_mem {G : AG} {L : List (Option AV)} {i : Nat} {v : AV} (h : lk L i = some v) : (i, am_v G v) ∈ lk_all G L :=
  List.mem_filterMap.mpr ⟨i, List.mem_range.mpr (lk_lt h), by rw [h]; rfl⟩
theorem am_l.has {G : AG} {ls : Array Slot} {nL : Nat} {L : List (Option AV)} (h : am_l G ls nL L) : lv_has ls nL (lk_all G L) := by
  refine ⟨h.1, h.2.1, fun q hq => ?_⟩
  obtain ⟨i, -, hi⟩ := List.mem_filterMap.mp hq
  cases hx : lk L i with
  | none => rw [hx] at hi; cases hi
  | some v => rw [hx] at hi; cases hi; exact h.2.2 i v hx
theorem am_l.st1 {G : AG} {ls : Array Slot} {nL : Nat} {L : List (Option AV)} {i : Nat} {v : AV} (h : lv_has ls nL ((i, am_v G v) :: (lk_all G L).filter (fun q => !(q.1 == i) && !(q.1 + 1 == i && q.2.category == 2)))) : am_l G ls nL (stI L i v) := by
  refine ⟨h.1, h.2.1, fun j w hj => ?_⟩
  rcases lk_stI L i v j w hj with ⟨rfl, rfl⟩ | ⟨h1, h2, h3⟩
  · exact h.2.2 _ List.mem_cons_self
  · refine h.2.2 (j, am_v G w) (List.mem_cons_of_mem _ (List.mem_filter.mpr ⟨lk_mem h2, ?_⟩))
    simp only [am_cat_v]
    simp [h1]
    omega
theorem am_l.st2 {G : AG} {ls : Array Slot} {nL : Nat} {L : List (Option AV)} {i : Nat} {v : AV} (h : lv_has ls nL ((i, am_v G v) :: (lk_all G L).filter (fun q => !(q.1 == i) && (!(q.1 == i + 1) && !(q.1 + 1 == i && q.2.category == 2))))) : am_l G ls nL (stJ L i v) := by
  refine ⟨h.1, h.2.1, fun j w hj => ?_⟩
  rcases lk_stJ L i v j w hj with ⟨rfl, rfl⟩ | ⟨h1, h2, h3, h4⟩
  · exact h.2.2 _ List.mem_cons_self
  · refine h.2.2 (j, am_v G w) (List.mem_cons_of_mem _ (List.mem_filter.mpr ⟨lk_mem h3, ?_⟩))
    simp only [am_cat_v]
    simp [h1, h2]
    omega
def am_L0 : List AV → Nat → List (Option AV)
  | [], n => List.replicate n none
  | .inl a :: t, n => some (.inl a) :: am_L0 t (n - 1)
  | .inr (.inl a) :: t, n => some (.inr (.inl a)) :: none :: am_L0 t (n - 2)
  | .inr (.inr r) :: t, n => some (.inr (.inr r)) :: am_L0 t (n - 1)
theorem lk_rep (n : Nat) : ∀ (i : Nat) (v : AV), lk (List.replicate n none) i = some v → False := by
  induction n with
  | zero => intro i v h; cases i <;> simp [lk] at h
  | succ n ih =>
    intro i v h
    cases i with
    | zero => simp [List.replicate, lk] at h
    | succ i => simp only [List.replicate, lk] at h; exact ih i v h
theorem lk_L0 (G : AG) (as : List AV) : ∀ (n k i : Nat) (v : AV), lk (am_L0 as n) i = some v → (k + i, am_v G v) ∈ lv_args k (as.map (am_v G)) := by
  induction as with
  | nil => intro n k i v h; exact (lk_rep n i v h).elim
  | cons a t ih =>
    intro n k i v h
    rcases a with a | a | r
    · cases i with
      | zero => simp [am_L0, lk] at h; subst h; simp [lv_args]
      | succ i =>
        simp only [am_L0, lk] at h
        have h2 := ih (n - 1) (k + 1) i v h
        simp only [List.map_cons, lv_args]
        refine List.mem_cons_of_mem _ ?_
        rw [if_neg (by simp [am_v, Value.category])]
        rw [show k + (i + 1) = k + 1 + i by omega]
        exact h2
    · match i with
      | 0 => simp [am_L0, lk] at h; subst h; simp [lv_args]
      | 1 => simp [am_L0, lk] at h
      | i + 2 =>
        simp only [am_L0, lk] at h
        have h2 := ih (n - 2) (k + 2) i v h
        simp only [List.map_cons, lv_args]
        refine List.mem_cons_of_mem _ ?_
        rw [if_pos (by simp [am_v, Value.category])]
        rw [show k + (i + 2) = k + 2 + i by omega]
        exact h2
    · cases i with
      | zero => simp [am_L0, lk] at h; subst h; simp [lv_args]
      | succ i =>
        simp only [am_L0, lk] at h
        have h2 := ih (n - 1) (k + 1) i v h
        simp only [List.map_cons, lv_args]
        refine List.mem_cons_of_mem _ ?_
        rw [if_neg (by cases r <;> simp [am_v, Value.category])]
        rw [show k + (i + 1) = k + 1 + i by omega]
        exact h2
end
section
/-! rows of the abstract machine: plain instructions -/
section AWR
variable {M : AM} {R : Room} {Z : AZ} {cu su n : Nat} {h : AH} {pc : Nat} {L : List (Option AV)} {st : List AV}
theorem aw_iconst {z : Int} (hd : decode M.2.1 pc = .ok (.iconst z, 1)) (kk : AW M R Z cu su n h (pc + 1) L (aI z :: st)) : AW M R Z cu su n h pc L st := by
  intro p l e s m args below meth c G H locs ls C Wd hS hl
  have k := kk p l e s m args below meth c G H locs ls C Wd hS hl
  exact lv_iconst C.1 C.2.1 hd rfl k
theorem aw_bipush {z : Int} (hd : decode M.2.1 pc = .ok (.bipush z, 2)) (hz : (Int8.ofInt z).toInt32 = iI z) (kk : AW M R Z cu su n h (pc + 2) L (aI z :: st)) : AW M R Z cu su n h pc L st := by
  intro p l e s m args below meth c G H locs ls C Wd hS hl
  have k := kk p l e s m args below meth c G H locs ls C Wd hS hl
  exact lv_bipush C.1 C.2.1 hd hz k
theorem aw_sipush {z : Int} (hd : decode M.2.1 pc = .ok (.sipush z, 3)) (hz : (Int16.ofInt z).toInt32 = iI z) (kk : AW M R Z cu su n h (pc + 3) L (aI z :: st)) : AW M R Z cu su n h pc L st := by
  intro p l e s m args below meth c G H locs ls C Wd hS hl
  have k := kk p l e s m args below meth c G H locs ls C Wd hS hl
  exact lv_sipush C.1 C.2.1 hd hz k
theorem aw_lconst {z : Fin 2} {a : Int} (hd : decode M.2.1 pc = .ok (.lconst z, 1)) (hz : Int64.ofNat (z : Nat) = lL a) (kk : AW M R Z cu su n h (pc + 1) L (aL a :: st)) : AW M R Z cu su n h pc L st := by
  intro p l e s m args below meth c G H locs ls C Wd hS hl
  have k := kk p l e s m args below meth c G H locs ls C Wd hS hl
  exact lv_lconst C.1 C.2.1 hd hz k
theorem aw_ldc2 {i : Nat} {a : Int} (hw : Cond.constantLong M.1.cls i (lL a) ∈ TT) (hd : decode M.2.1 pc = .ok (.ldc2_w i, 3)) (kk : AW M R Z cu su n h (pc + 3) L (aL a :: st)) : AW M R Z cu su n h pc L st := by
  intro p l e s m args below meth c G H locs ls C Wd hS hl
  have k := kk p l e s m args below meth c G H locs ls C Wd hS hl
  exact lv_ldc2 C.1 C.2.1 C.2.2.2.2.1 (C.2.2.2.2.2.2.2.1 _ hw) hd k
theorem aw_ldcw {i : Nat} {a : Int} (hw : Cond.constant M.1.cls i (iI a) ∈ TT) (hd : decode M.2.1 pc = .ok (.ldc_w i, 3)) (kk : AW M R Z cu su n h (pc + 3) L (aI a :: st)) : AW M R Z cu su n h pc L st := by
  intro p l e s m args below meth c G H locs ls C Wd hS hl
  have k := kk p l e s m args below meth c G H locs ls C Wd hS hl
  exact lv_ldcw C.1 C.2.1 C.2.2.2.2.1 (C.2.2.2.2.2.2.2.1 _ hw) hd k
theorem aw_iload_n {q : Fin 4} {a : Int} (hd : decode M.2.1 pc = .ok (.iload_n q, 1)) (ha : lk L q = some (aI a)) (kk : AW M R Z cu su n h (pc + 1) L (aI a :: st)) : AW M R Z cu su n h pc L st := by
  intro p l e s m args below meth c G H locs ls C Wd hS hl
  have k := kk p l e s m args below meth c G H locs ls C Wd hS hl
  exact lv_iload_n C.1 C.2.1 hd rfl (hl.2.2 _ _ ha) k
theorem aw_iload {q : Nat} {a : Int} (hd : decode M.2.1 pc = .ok (.iload q, 2)) (ha : lk L q = some (aI a)) (kk : AW M R Z cu su n h (pc + 2) L (aI a :: st)) : AW M R Z cu su n h pc L st := by
  intro p l e s m args below meth c G H locs ls C Wd hS hl
  have k := kk p l e s m args below meth c G H locs ls C Wd hS hl
  exact lv_iload C.1 C.2.1 hd (hl.2.2 _ _ ha) k
theorem aw_lload_n {q : Fin 4} {a : Int} (hd : decode M.2.1 pc = .ok (.lload_n q, 1)) (ha : lk L q = some (aL a)) (kk : AW M R Z cu su n h (pc + 1) L (aL a :: st)) : AW M R Z cu su n h pc L st := by
  intro p l e s m args below meth c G H locs ls C Wd hS hl
  have k := kk p l e s m args below meth c G H locs ls C Wd hS hl
  exact lv_lload_n C.1 C.2.1 hd rfl (hl.2.2 _ _ ha) k
theorem aw_lload {q : Nat} {a : Int} (hd : decode M.2.1 pc = .ok (.lload q, 2)) (ha : lk L q = some (aL a)) (kk : AW M R Z cu su n h (pc + 2) L (aL a :: st)) : AW M R Z cu su n h pc L st := by
  intro p l e s m args below meth c G H locs ls C Wd hS hl
  have k := kk p l e s m args below meth c G H locs ls C Wd hS hl
  exact lv_lload C.1 C.2.1 hd (hl.2.2 _ _ ha) k
theorem aw_aload_n {q : Fin 4} {a : Nat} (hd : decode M.2.1 pc = .ok (.aload_n q, 1)) (ha : lk L q = some (aR a)) (kk : AW M R Z cu su n h (pc + 1) L (aR a :: st)) : AW M R Z cu su n h pc L st := by
  intro p l e s m args below meth c G H locs ls C Wd hS hl
  have k := kk p l e s m args below meth c G H locs ls C Wd hS hl
  exact lv_aload_n C.1 C.2.1 hd rfl (hl.2.2 _ _ ha) k
theorem aw_istore_n {q : Fin 4} {a : Int} (hd : decode M.2.1 pc = .ok (.istore_n q, 1)) (hn : (q : Nat) < M.2.2.1) (kk : AW M R Z cu su n h (pc + 1) (stI L q (aI a)) st) : AW M R Z cu su n h pc L (aI a :: st) := by
  intro p l e s m args below meth c G H locs ls C Wd hS hl
  exact lv_istore_n C.1 C.2.1 hd rfl hl.has hn rfl (fun ls' h' => kk p l e s m args below meth c G H locs ls' C Wd hS (am_l.st1 h'))
theorem aw_istore {q : Nat} {a : Int} (hd : decode M.2.1 pc = .ok (.istore q, 2)) (hn : q < M.2.2.1) (kk : AW M R Z cu su n h (pc + 2) (stI L q (aI a)) st) : AW M R Z cu su n h pc L (aI a :: st) := by
  intro p l e s m args below meth c G H locs ls C Wd hS hl
  exact lv_istore C.1 C.2.1 hd hl.has hn rfl (fun ls' h' => kk p l e s m args below meth c G H locs ls' C Wd hS (am_l.st1 h'))
theorem aw_astore_n {q : Fin 4} {a : Nat} (hd : decode M.2.1 pc = .ok (.astore_n q, 1)) (hn : (q : Nat) < M.2.2.1) (kk : AW M R Z cu su n h (pc + 1) (stI L q (aR a)) st) : AW M R Z cu su n h pc L (aR a :: st) := by
  intro p l e s m args below meth c G H locs ls C Wd hS hl
  exact lv_astore_n C.1 C.2.1 hd rfl hl.has hn rfl (fun ls' h' => kk p l e s m args below meth c G H locs ls' C Wd hS (am_l.st1 h'))
theorem aw_lstore_n {q : Fin 4} {a : Int} (hd : decode M.2.1 pc = .ok (.lstore_n q, 1)) (hn : (q : Nat) + 1 < M.2.2.1) (kk : AW M R Z cu su n h (pc + 1) (stJ L q (aL a)) st) : AW M R Z cu su n h pc L (aL a :: st) := by
  intro p l e s m args below meth c G H locs ls C Wd hS hl
  exact lv_lstore_n C.1 C.2.1 hd rfl hl.has hn rfl (fun ls' h' => kk p l e s m args below meth c G H locs ls' C Wd hS (am_l.st2 h'))
theorem aw_lstore {q : Nat} {a : Int} (hd : decode M.2.1 pc = .ok (.lstore q, 2)) (hn : q + 1 < M.2.2.1) (kk : AW M R Z cu su n h (pc + 2) (stJ L q (aL a)) st) : AW M R Z cu su n h pc L (aL a :: st) := by
  intro p l e s m args below meth c G H locs ls C Wd hS hl
  exact lv_lstore C.1 C.2.1 hd hl.has hn rfl (fun ls' h' => kk p l e s m args below meth c G H locs ls' C Wd hS (am_l.st2 h'))
theorem aw_iinc {q : Nat} {a z : Int} (hd : decode M.2.1 pc = .ok (.iinc q z, 3)) (ha : lk L q = some (aI a)) (hn : q < M.2.2.1) (kk : AW M R Z cu su n h (pc + 3) (stI L q (aI (a + z))) st) : AW M R Z cu su n h pc L st := by
  intro p l e s m args below meth c G H locs ls C Wd hS hl
  obtain ⟨k, hk⟩ := List.getElem?_of_mem (lk_mem (G := G) ha)
  exact lv_iinc (v := iI (a + z)) C.1 C.2.1 hd hl.has hk (iI_add a z) hn rfl (fun ls' h' => kk p l e s m args below meth c G H locs ls' C Wd hS (am_l.st1 (v := aI (a + z)) h'))
theorem aw_iadd {a b : Int} (hd : decode M.2.1 pc = .ok (.iadd, 1)) (kk : AW M R Z cu su n h (pc + 1) L (aI (a + b) :: st)) : AW M R Z cu su n h pc L (aI b :: aI a :: st) := by
  intro p l e s m args below meth c G H locs ls C Wd hS hl
  have k := kk p l e s m args below meth c G H locs ls C Wd hS hl
  refine lv_iadd C.1 C.2.1 hd ?_
  rw [iI_add]
  exact k
theorem aw_isub {a b : Int} (hd : decode M.2.1 pc = .ok (.isub, 1)) (kk : AW M R Z cu su n h (pc + 1) L (aI (a - b) :: st)) : AW M R Z cu su n h pc L (aI b :: aI a :: st) := by
  intro p l e s m args below meth c G H locs ls C Wd hS hl
  have k := kk p l e s m args below meth c G H locs ls C Wd hS hl
  refine lv_isub C.1 C.2.1 hd ?_
  rw [iI_sub]
  exact k
theorem aw_imul {a b : Int} (hd : decode M.2.1 pc = .ok (.imul, 1)) (kk : AW M R Z cu su n h (pc + 1) L (aI (a * b) :: st)) : AW M R Z cu su n h pc L (aI b :: aI a :: st) := by
  intro p l e s m args below meth c G H locs ls C Wd hS hl
  have k := kk p l e s m args below meth c G H locs ls C Wd hS hl
  refine lv_imul C.1 C.2.1 hd ?_
  rw [iI_mul]
  exact k
theorem aw_ladd {a b : Int} (hd : decode M.2.1 pc = .ok (.ladd, 1)) (kk : AW M R Z cu su n h (pc + 1) L (aL (a + b) :: st)) : AW M R Z cu su n h pc L (aL b :: aL a :: st) := by
  intro p l e s m args below meth c G H locs ls C Wd hS hl
  have k := kk p l e s m args below meth c G H locs ls C Wd hS hl
  refine lv_ladd C.1 C.2.1 hd ?_
  rw [lL_add]
  exact k
theorem aw_lsub {a b : Int} (hd : decode M.2.1 pc = .ok (.lsub, 1)) (kk : AW M R Z cu su n h (pc + 1) L (aL (a - b) :: st)) : AW M R Z cu su n h pc L (aL b :: aL a :: st) := by
  intro p l e s m args below meth c G H locs ls C Wd hS hl
  have k := kk p l e s m args below meth c G H locs ls C Wd hS hl
  refine lv_lsub C.1 C.2.1 hd ?_
  rw [lL_sub]
  exact k
theorem aw_lmul {a b : Int} (hd : decode M.2.1 pc = .ok (.lmul, 1)) (kk : AW M R Z cu su n h (pc + 1) L (aL (a * b) :: st)) : AW M R Z cu su n h pc L (aL b :: aL a :: st) := by
  intro p l e s m args below meth c G H locs ls C Wd hS hl
  have k := kk p l e s m args below meth c G H locs ls C Wd hS hl
  refine lv_lmul C.1 C.2.1 hd ?_
  rw [lL_mul]
  exact k
theorem aw_irem {a b : Int} (hd : decode M.2.1 pc = .ok (.irem, 1)) (ha : 0 ≤ a ∧ a ≤ 2147483647) (hb : 0 < b ∧ b ≤ 2147483647) (kk : AW M R Z cu su n h (pc + 1) L (aI (a % b) :: st)) : AW M R Z cu su n h pc L (aI b :: aI a :: st) := by
  intro p l e s m args below meth c G H locs ls C Wd hS hl
  have k := kk p l e s m args below meth c G H locs ls C Wd hS hl
  refine lv_irem C.1 C.2.1 hd (fun q => ?_) ?_
  · have := (iI_eq (by omega) (by omega)).mp (q.trans (show (0 : Int32) = iI 0 from rfl))
    omega
  · rw [iI_rem ha hb]
    exact k
theorem aw_lrem {a b : Int} (hd : decode M.2.1 pc = .ok (.lrem, 1)) (ha : 0 ≤ a ∧ a ≤ 9223372036854775807) (hb : 0 < b ∧ b ≤ 9223372036854775807) (kk : AW M R Z cu su n h (pc + 1) L (aL (a % b) :: st)) : AW M R Z cu su n h pc L (aL b :: aL a :: st) := by
  intro p l e s m args below meth c G H locs ls C Wd hS hl
  have k := kk p l e s m args below meth c G H locs ls C Wd hS hl
  refine lv_lrem C.1 C.2.1 hd (fun q => ?_) ?_
  · have := (lL_eq (by omega) (by omega)).mp (q.trans (show (0 : Int64) = lL 0 from rfl))
    omega
  · rw [lL_rem ha hb]
    exact k
theorem aw_ldiv {a b : Int} (hd : decode M.2.1 pc = .ok (.ldiv, 1)) (ha : 0 ≤ a ∧ a ≤ 9223372036854775807) (hb : 0 < b ∧ b ≤ 9223372036854775807) (kk : AW M R Z cu su n h (pc + 1) L (aL (a / b) :: st)) : AW M R Z cu su n h pc L (aL b :: aL a :: st) := by
  intro p l e s m args below meth c G H locs ls C Wd hS hl
  have k := kk p l e s m args below meth c G H locs ls C Wd hS hl
  refine lv_ldiv C.1 C.2.1 hd (fun q => ?_) ?_
  · have := (lL_eq (by omega) (by omega)).mp (q.trans (show (0 : Int64) = lL 0 from rfl))
    omega
  · rw [lL_div ha hb]
    exact k
theorem aw_iand {a b : Int} (hd : decode M.2.1 pc = .ok (.iand, 1)) (kk : AW M R Z cu su n h (pc + 1) L (aI (iI a &&& iI b).toInt :: st)) : AW M R Z cu su n h pc L (aI b :: aI a :: st) := by
  intro p l e s m args below meth c G H locs ls C Wd hS hl
  have k := kk p l e s m args below meth c G H locs ls C Wd hS hl
  refine lv_iand C.1 C.2.1 hd ?_
  rw [← iI_toInt (iI a &&& iI b)]
  exact k
theorem aw_ior {a b : Int} (hd : decode M.2.1 pc = .ok (.ior, 1)) (kk : AW M R Z cu su n h (pc + 1) L (aI (iI a ||| iI b).toInt :: st)) : AW M R Z cu su n h pc L (aI b :: aI a :: st) := by
  intro p l e s m args below meth c G H locs ls C Wd hS hl
  have k := kk p l e s m args below meth c G H locs ls C Wd hS hl
  refine lv_ior C.1 C.2.1 hd ?_
  rw [← iI_toInt (iI a ||| iI b)]
  exact k
theorem aw_ixor {a b : Int} (hd : decode M.2.1 pc = .ok (.ixor, 1)) (kk : AW M R Z cu su n h (pc + 1) L (aI (iI a ^^^ iI b).toInt :: st)) : AW M R Z cu su n h pc L (aI b :: aI a :: st) := by
  intro p l e s m args below meth c G H locs ls C Wd hS hl
  have k := kk p l e s m args below meth c G H locs ls C Wd hS hl
  refine lv_ixor C.1 C.2.1 hd ?_
  rw [← iI_toInt (iI a ^^^ iI b)]
  exact k
theorem aw_ishl {a b : Int} (hd : decode M.2.1 pc = .ok (.ishl, 1)) (kk : AW M R Z cu su n h (pc + 1) L (aI (iI a <<< (iI b &&& 31)).toInt :: st)) : AW M R Z cu su n h pc L (aI b :: aI a :: st) := by
  intro p l e s m args below meth c G H locs ls C Wd hS hl
  have k := kk p l e s m args below meth c G H locs ls C Wd hS hl
  refine lv_ishl C.1 C.2.1 hd ?_
  rw [← iI_toInt (iI a <<< (iI b &&& 31))]
  exact k
theorem aw_ishr {a b : Int} (hd : decode M.2.1 pc = .ok (.ishr, 1)) (kk : AW M R Z cu su n h (pc + 1) L (aI (iI a >>> (iI b &&& 31)).toInt :: st)) : AW M R Z cu su n h pc L (aI b :: aI a :: st) := by
  intro p l e s m args below meth c G H locs ls C Wd hS hl
  have k := kk p l e s m args below meth c G H locs ls C Wd hS hl
  refine lv_ishr C.1 C.2.1 hd ?_
  rw [← iI_toInt (iI a >>> (iI b &&& 31))]
  exact k
theorem aw_iushr {a b : Int} (hd : decode M.2.1 pc = .ok (.iushr, 1)) (kk : AW M R Z cu su n h (pc + 1) L (aI ((iI a).toUInt32 >>> ((iI b).toUInt32 &&& Int32.toUInt32 31)).toInt32.toInt :: st)) : AW M R Z cu su n h pc L (aI b :: aI a :: st) := by
  intro p l e s m args below meth c G H locs ls C Wd hS hl
  have k := kk p l e s m args below meth c G H locs ls C Wd hS hl
  refine lv_iushr C.1 C.2.1 hd (iI_toInt _).symm ?_
  exact k
theorem aw_i2l {a : Int} (hd : decode M.2.1 pc = .ok (.i2l, 1)) (ha : -2147483648 ≤ a ∧ a ≤ 2147483647) (kk : AW M R Z cu su n h (pc + 1) L (aL a :: st)) : AW M R Z cu su n h pc L (aI a :: st) := by
  intro p l e s m args below meth c G H locs ls C Wd hS hl
  have k := kk p l e s m args below meth c G H locs ls C Wd hS hl
  exact lv_i2l C.1 C.2.1 hd (iI_l ha) k
theorem aw_l2i {a : Int} (hd : decode M.2.1 pc = .ok (.l2i, 1)) (kk : AW M R Z cu su n h (pc + 1) L (aI a :: st)) : AW M R Z cu su n h pc L (aL a :: st) := by
  intro p l e s m args below meth c G H locs ls C Wd hS hl
  have k := kk p l e s m args below meth c G H locs ls C Wd hS hl
  exact lv_l2i C.1 C.2.1 hd (lL_i a) k
theorem aw_i2c {a : Int} (hd : decode M.2.1 pc = .ok (.i2c, 1)) (ha : 0 ≤ a ∧ a < 65536) (kk : AW M R Z cu su n h (pc + 1) L (aI a :: st)) : AW M R Z cu su n h pc L (aI a :: st) := by
  intro p l e s m args below meth c G H locs ls C Wd hS hl
  have k := kk p l e s m args below meth c G H locs ls C Wd hS hl
  exact lv_i2c C.1 C.2.1 hd (lg_i2c_word (by rw [iI_of (by omega)]; exact ha.1) (by rw [iI_of (by omega)]; exact ha.2)) k
theorem aw_dup {v : AV} (hd : decode M.2.1 pc = .ok (.dup, 1)) (hv : am_cat v = 1) (kk : AW M R Z cu su n h (pc + 1) L (v :: v :: st)) : AW M R Z cu su n h pc L (v :: st) := by
  intro p l e s m args below meth c G H locs ls C Wd hS hl
  have k := kk p l e s m args below meth c G H locs ls C Wd hS hl
  exact lv_dup C.1 C.2.1 hd ((am_cat_v G v).trans hv) k
theorem aw_pop {v : AV} (hd : decode M.2.1 pc = .ok (.pop, 1)) (hv : am_cat v = 1) (kk : AW M R Z cu su n h (pc + 1) L st) : AW M R Z cu su n h pc L (v :: st) := by
  intro p l e s m args below meth c G H locs ls C Wd hS hl
  have k := kk p l e s m args below meth c G H locs ls C Wd hS hl
  exact lv_pop C.1 C.2.1 hd ((am_cat_v G v).trans hv) k
theorem aw_dup2 {v w : AV} (hd : decode M.2.1 pc = .ok (.dup2, 1)) (hv : am_cat v = 1) (hw : am_cat w = 1) (kk : AW M R Z cu su n h (pc + 1) L (v :: w :: v :: w :: st)) : AW M R Z cu su n h pc L (v :: w :: st) := by
  intro p l e s m args below meth c G H locs ls C Wd hS hl
  have k := kk p l e s m args below meth c G H locs ls C Wd hS hl
  exact lv_dup2_11 C.1 C.2.1 hd ((am_cat_v G v).trans hv) ((am_cat_v G w).trans hw) k
theorem aw_goto {off : Int} {tgt : Nat} (hd : decode M.2.1 pc = .ok (.goto off, 3)) (ht : (pc : Int) + off = (tgt : Int)) (kk : AW M R Z cu su n h tgt L st) : AW M R Z cu su n h pc L st := by
  intro p l e s m args below meth c G H locs ls C Wd hS hl
  have k := kk p l e s m args below meth c G H locs ls C Wd hS hl
  exact lv_goto C.1 C.2.1 hd ht k
theorem aw_val {v w : AV} (e : v = w) (kk : AW M R Z cu su n h pc L (w :: st)) : AW M R Z cu su n h pc L (v :: st) := e ▸ kk
theorem aw_st {st' : List AV} {L' : List (Option AV)} (e2 : L = L') (e : st = st') (kk : AW M R Z cu su n h pc L' st') : AW M R Z cu su n h pc L st := e2 ▸ e ▸ kk
theorem aw_icmp_eq {a b off : Int} {tgt : Nat} (hd : decode M.2.1 pc = .ok (.if_icmp .eq off, 3)) (ha : -2147483648 ≤ a ∧ a ≤ 2147483647) (hb : -2147483648 ≤ b ∧ b ≤ 2147483647) (ht : (pc : Int) + off = (tgt : Int)) (kt : a = b → AW M R Z cu su n h tgt L st) (kf : ¬ (a = b) → AW M R Z cu su n h (pc + 3) L st) : AW M R Z cu su n h pc L (aI b :: aI a :: st) := by
  intro p l e s m args below meth c G H locs ls C Wd hS hl
  refine lv_icmp_eq C.1 C.2.1 hd ht (fun q => ?_) (fun q => ?_)
  · exact kt ((iI_eq ha hb).mp q) p l e s m args below meth c G H locs ls C Wd hS hl
  · exact kf (fun z => q ((iI_eq ha hb).mpr z)) p l e s m args below meth c G H locs ls C Wd hS hl
theorem aw_if_eq {a off : Int} {tgt : Nat} (hd : decode M.2.1 pc = .ok (.ifCond .eq off, 3)) (ha : -2147483648 ≤ a ∧ a ≤ 2147483647) (ht : (pc : Int) + off = (tgt : Int)) (kt : a = 0 → AW M R Z cu su n h tgt L st) (kf : ¬ (a = 0) → AW M R Z cu su n h (pc + 3) L st) : AW M R Z cu su n h pc L (aI a :: st) := by
  intro p l e s m args below meth c G H locs ls C Wd hS hl
  refine lv_if_eq C.1 C.2.1 hd ht (fun q => ?_) (fun q => ?_)
  · exact kt ((iI_eq ha (by omega : -2147483648 ≤ (0 : Int) ∧ (0 : Int) ≤ 2147483647)).mp q) p l e s m args below meth c G H locs ls C Wd hS hl
  · exact kf (fun z => q ((iI_eq ha (by omega : -2147483648 ≤ (0 : Int) ∧ (0 : Int) ≤ 2147483647)).mpr z)) p l e s m args below meth c G H locs ls C Wd hS hl
theorem aw_icmp_ne {a b off : Int} {tgt : Nat} (hd : decode M.2.1 pc = .ok (.if_icmp .ne off, 3)) (ha : -2147483648 ≤ a ∧ a ≤ 2147483647) (hb : -2147483648 ≤ b ∧ b ≤ 2147483647) (ht : (pc : Int) + off = (tgt : Int)) (kt : a ≠ b → AW M R Z cu su n h tgt L st) (kf : ¬ (a ≠ b) → AW M R Z cu su n h (pc + 3) L st) : AW M R Z cu su n h pc L (aI b :: aI a :: st) := by
  intro p l e s m args below meth c G H locs ls C Wd hS hl
  refine lv_icmp_ne C.1 C.2.1 hd ht (fun q => ?_) (fun q => ?_)
  · exact kt (fun z => q ((iI_eq ha hb).mpr z)) p l e s m args below meth c G H locs ls C Wd hS hl
  · exact kf (fun z => z ((iI_eq ha hb).mp q)) p l e s m args below meth c G H locs ls C Wd hS hl
theorem aw_if_ne {a off : Int} {tgt : Nat} (hd : decode M.2.1 pc = .ok (.ifCond .ne off, 3)) (ha : -2147483648 ≤ a ∧ a ≤ 2147483647) (ht : (pc : Int) + off = (tgt : Int)) (kt : a ≠ 0 → AW M R Z cu su n h tgt L st) (kf : ¬ (a ≠ 0) → AW M R Z cu su n h (pc + 3) L st) : AW M R Z cu su n h pc L (aI a :: st) := by
  intro p l e s m args below meth c G H locs ls C Wd hS hl
  refine lv_if_ne C.1 C.2.1 hd ht (fun q => ?_) (fun q => ?_)
  · exact kt (fun z => q ((iI_eq ha (by omega : -2147483648 ≤ (0 : Int) ∧ (0 : Int) ≤ 2147483647)).mpr z)) p l e s m args below meth c G H locs ls C Wd hS hl
  · exact kf (fun z => z ((iI_eq ha (by omega : -2147483648 ≤ (0 : Int) ∧ (0 : Int) ≤ 2147483647)).mp q)) p l e s m args below meth c G H locs ls C Wd hS hl
theorem aw_icmp_lt {a b off : Int} {tgt : Nat} (hd : decode M.2.1 pc = .ok (.if_icmp .lt off, 3)) (ha : -2147483648 ≤ a ∧ a ≤ 2147483647) (hb : -2147483648 ≤ b ∧ b ≤ 2147483647) (ht : (pc : Int) + off = (tgt : Int)) (kt : a < b → AW M R Z cu su n h tgt L st) (kf : ¬ (a < b) → AW M R Z cu su n h (pc + 3) L st) : AW M R Z cu su n h pc L (aI b :: aI a :: st) := by
  intro p l e s m args below meth c G H locs ls C Wd hS hl
  refine lv_icmp_lt C.1 C.2.1 hd ht (fun q => ?_) (fun q => ?_)
  · exact kt ((iI_lt ha hb).mp q) p l e s m args below meth c G H locs ls C Wd hS hl
  · exact kf (fun z => q ((iI_lt ha hb).mpr z)) p l e s m args below meth c G H locs ls C Wd hS hl
theorem aw_if_lt {a off : Int} {tgt : Nat} (hd : decode M.2.1 pc = .ok (.ifCond .lt off, 3)) (ha : -2147483648 ≤ a ∧ a ≤ 2147483647) (ht : (pc : Int) + off = (tgt : Int)) (kt : a < 0 → AW M R Z cu su n h tgt L st) (kf : ¬ (a < 0) → AW M R Z cu su n h (pc + 3) L st) : AW M R Z cu su n h pc L (aI a :: st) := by
  intro p l e s m args below meth c G H locs ls C Wd hS hl
  refine lv_if_lt C.1 C.2.1 hd ht (fun q => ?_) (fun q => ?_)
  · exact kt ((iI_lt ha (by omega : -2147483648 ≤ (0 : Int) ∧ (0 : Int) ≤ 2147483647)).mp q) p l e s m args below meth c G H locs ls C Wd hS hl
  · exact kf (fun z => q ((iI_lt ha (by omega : -2147483648 ≤ (0 : Int) ∧ (0 : Int) ≤ 2147483647)).mpr z)) p l e s m args below meth c G H locs ls C Wd hS hl
theorem aw_icmp_ge {a b off : Int} {tgt : Nat} (hd : decode M.2.1 pc = .ok (.if_icmp .ge off, 3)) (ha : -2147483648 ≤ a ∧ a ≤ 2147483647) (hb : -2147483648 ≤ b ∧ b ≤ 2147483647) (ht : (pc : Int) + off = (tgt : Int)) (kt : b ≤ a → AW M R Z cu su n h tgt L st) (kf : ¬ (b ≤ a) → AW M R Z cu su n h (pc + 3) L st) : AW M R Z cu su n h pc L (aI b :: aI a :: st) := by
  intro p l e s m args below meth c G H locs ls C Wd hS hl
  refine lv_icmp_ge C.1 C.2.1 hd ht (fun q => ?_) (fun q => ?_)
  · exact kt ((iI_le hb ha).mp q) p l e s m args below meth c G H locs ls C Wd hS hl
  · exact kf (fun z => q ((iI_le hb ha).mpr z)) p l e s m args below meth c G H locs ls C Wd hS hl
theorem aw_if_ge {a off : Int} {tgt : Nat} (hd : decode M.2.1 pc = .ok (.ifCond .ge off, 3)) (ha : -2147483648 ≤ a ∧ a ≤ 2147483647) (ht : (pc : Int) + off = (tgt : Int)) (kt : 0 ≤ a → AW M R Z cu su n h tgt L st) (kf : ¬ (0 ≤ a) → AW M R Z cu su n h (pc + 3) L st) : AW M R Z cu su n h pc L (aI a :: st) := by
  intro p l e s m args below meth c G H locs ls C Wd hS hl
  refine lv_if_ge C.1 C.2.1 hd ht (fun q => ?_) (fun q => ?_)
  · exact kt ((iI_le (by omega : -2147483648 ≤ (0 : Int) ∧ (0 : Int) ≤ 2147483647) ha).mp q) p l e s m args below meth c G H locs ls C Wd hS hl
  · exact kf (fun z => q ((iI_le (by omega : -2147483648 ≤ (0 : Int) ∧ (0 : Int) ≤ 2147483647) ha).mpr z)) p l e s m args below meth c G H locs ls C Wd hS hl
theorem aw_icmp_gt {a b off : Int} {tgt : Nat} (hd : decode M.2.1 pc = .ok (.if_icmp .gt off, 3)) (ha : -2147483648 ≤ a ∧ a ≤ 2147483647) (hb : -2147483648 ≤ b ∧ b ≤ 2147483647) (ht : (pc : Int) + off = (tgt : Int)) (kt : b < a → AW M R Z cu su n h tgt L st) (kf : ¬ (b < a) → AW M R Z cu su n h (pc + 3) L st) : AW M R Z cu su n h pc L (aI b :: aI a :: st) := by
  intro p l e s m args below meth c G H locs ls C Wd hS hl
  refine lv_icmp_gt C.1 C.2.1 hd ht (fun q => ?_) (fun q => ?_)
  · exact kt ((iI_lt hb ha).mp q) p l e s m args below meth c G H locs ls C Wd hS hl
  · exact kf (fun z => q ((iI_lt hb ha).mpr z)) p l e s m args below meth c G H locs ls C Wd hS hl
theorem aw_if_gt {a off : Int} {tgt : Nat} (hd : decode M.2.1 pc = .ok (.ifCond .gt off, 3)) (ha : -2147483648 ≤ a ∧ a ≤ 2147483647) (ht : (pc : Int) + off = (tgt : Int)) (kt : 0 < a → AW M R Z cu su n h tgt L st) (kf : ¬ (0 < a) → AW M R Z cu su n h (pc + 3) L st) : AW M R Z cu su n h pc L (aI a :: st) := by
  intro p l e s m args below meth c G H locs ls C Wd hS hl
  refine lv_if_gt C.1 C.2.1 hd ht (fun q => ?_) (fun q => ?_)
  · exact kt ((iI_lt (by omega : -2147483648 ≤ (0 : Int) ∧ (0 : Int) ≤ 2147483647) ha).mp q) p l e s m args below meth c G H locs ls C Wd hS hl
  · exact kf (fun z => q ((iI_lt (by omega : -2147483648 ≤ (0 : Int) ∧ (0 : Int) ≤ 2147483647) ha).mpr z)) p l e s m args below meth c G H locs ls C Wd hS hl
theorem aw_icmp_le {a b off : Int} {tgt : Nat} (hd : decode M.2.1 pc = .ok (.if_icmp .le off, 3)) (ha : -2147483648 ≤ a ∧ a ≤ 2147483647) (hb : -2147483648 ≤ b ∧ b ≤ 2147483647) (ht : (pc : Int) + off = (tgt : Int)) (kt : a ≤ b → AW M R Z cu su n h tgt L st) (kf : ¬ (a ≤ b) → AW M R Z cu su n h (pc + 3) L st) : AW M R Z cu su n h pc L (aI b :: aI a :: st) := by
  intro p l e s m args below meth c G H locs ls C Wd hS hl
  refine lv_icmp_le C.1 C.2.1 hd ht (fun q => ?_) (fun q => ?_)
  · exact kt ((iI_le ha hb).mp q) p l e s m args below meth c G H locs ls C Wd hS hl
  · exact kf (fun z => q ((iI_le ha hb).mpr z)) p l e s m args below meth c G H locs ls C Wd hS hl
theorem aw_if_le {a off : Int} {tgt : Nat} (hd : decode M.2.1 pc = .ok (.ifCond .le off, 3)) (ha : -2147483648 ≤ a ∧ a ≤ 2147483647) (ht : (pc : Int) + off = (tgt : Int)) (kt : a ≤ 0 → AW M R Z cu su n h tgt L st) (kf : ¬ (a ≤ 0) → AW M R Z cu su n h (pc + 3) L st) : AW M R Z cu su n h pc L (aI a :: st) := by
  intro p l e s m args below meth c G H locs ls C Wd hS hl
  refine lv_if_le C.1 C.2.1 hd ht (fun q => ?_) (fun q => ?_)
  · exact kt ((iI_le ha (by omega : -2147483648 ≤ (0 : Int) ∧ (0 : Int) ≤ 2147483647)).mp q) p l e s m args below meth c G H locs ls C Wd hS hl
  · exact kf (fun z => q ((iI_le ha (by omega : -2147483648 ≤ (0 : Int) ∧ (0 : Int) ≤ 2147483647)).mpr z)) p l e s m args below meth c G H locs ls C Wd hS hl
theorem am_cmp {a b : Int} (ha : -9223372036854775808 ≤ a ∧ a ≤ 9223372036854775807) (hb : -9223372036854775808 ≤ b ∧ b ≤ 9223372036854775807) : lg_cmp (lL a) (lL b) = iI (if b < a then 1 else if a = b then 0 else -1) := by
  unfold lg_cmp
  by_cases h1 : b < a
  · rw [if_pos h1, if_pos ((lL_lt hb ha).mpr h1)]
    rfl
  · rw [if_neg h1, if_neg (fun q => h1 ((lL_lt hb ha).mp q))]
    by_cases h2 : a = b
    · rw [if_pos h2, if_pos ((lL_eq ha hb).mpr h2)]
      rfl
    · rw [if_neg h2, if_neg (fun q => h2 ((lL_eq ha hb).mp q))]
      rfl
theorem aw_lcmp_eq {a b off : Int} {tgt : Nat} (hd1 : decode M.2.1 pc = .ok (.lcmp, 1)) (hd : decode M.2.1 (pc + 1) = .ok (.ifCond .eq off, 3)) (ha : -9223372036854775808 ≤ a ∧ a ≤ 9223372036854775807) (hb : -9223372036854775808 ≤ b ∧ b ≤ 9223372036854775807) (ht : ((pc + 1 : Nat) : Int) + off = (tgt : Int)) (kt : a = b → AW M R Z cu su n h tgt L st) (kf : ¬ (a = b) → AW M R Z cu su n h (pc + 1 + 3) L st) : AW M R Z cu su n h pc L (aL b :: aL a :: st) := by
  have K : AW M R Z cu su n h (pc + 1) L (aI (if b < a then 1 else if a = b then 0 else -1) :: st) := by
    refine aw_if_eq hd (by omega) ht (fun q => kt ?_) (fun q => kf ?_)
    · omega
    · omega
  intro p l e s m args below meth c G H locs ls C Wd hS hl
  refine W.lcmp C.1 C.2.1 hd1 ?_
  rw [am_cmp ha hb]
  exact K p l e s m args below meth c G H locs ls C Wd hS hl
theorem aw_lcmp_ne {a b off : Int} {tgt : Nat} (hd1 : decode M.2.1 pc = .ok (.lcmp, 1)) (hd : decode M.2.1 (pc + 1) = .ok (.ifCond .ne off, 3)) (ha : -9223372036854775808 ≤ a ∧ a ≤ 9223372036854775807) (hb : -9223372036854775808 ≤ b ∧ b ≤ 9223372036854775807) (ht : ((pc + 1 : Nat) : Int) + off = (tgt : Int)) (kt : a ≠ b → AW M R Z cu su n h tgt L st) (kf : ¬ (a ≠ b) → AW M R Z cu su n h (pc + 1 + 3) L st) : AW M R Z cu su n h pc L (aL b :: aL a :: st) := by
  have K : AW M R Z cu su n h (pc + 1) L (aI (if b < a then 1 else if a = b then 0 else -1) :: st) := by
    refine aw_if_ne hd (by omega) ht (fun q => kt ?_) (fun q => kf ?_)
    · omega
    · omega
  intro p l e s m args below meth c G H locs ls C Wd hS hl
  refine W.lcmp C.1 C.2.1 hd1 ?_
  rw [am_cmp ha hb]
  exact K p l e s m args below meth c G H locs ls C Wd hS hl
theorem aw_lcmp_lt {a b off : Int} {tgt : Nat} (hd1 : decode M.2.1 pc = .ok (.lcmp, 1)) (hd : decode M.2.1 (pc + 1) = .ok (.ifCond .lt off, 3)) (ha : -9223372036854775808 ≤ a ∧ a ≤ 9223372036854775807) (hb : -9223372036854775808 ≤ b ∧ b ≤ 9223372036854775807) (ht : ((pc + 1 : Nat) : Int) + off = (tgt : Int)) (kt : a < b → AW M R Z cu su n h tgt L st) (kf : ¬ (a < b) → AW M R Z cu su n h (pc + 1 + 3) L st) : AW M R Z cu su n h pc L (aL b :: aL a :: st) := by
  have K : AW M R Z cu su n h (pc + 1) L (aI (if b < a then 1 else if a = b then 0 else -1) :: st) := by
    refine aw_if_lt hd (by omega) ht (fun q => kt ?_) (fun q => kf ?_)
    · omega
    · omega
  intro p l e s m args below meth c G H locs ls C Wd hS hl
  refine W.lcmp C.1 C.2.1 hd1 ?_
  rw [am_cmp ha hb]
  exact K p l e s m args below meth c G H locs ls C Wd hS hl
theorem aw_lcmp_ge {a b off : Int} {tgt : Nat} (hd1 : decode M.2.1 pc = .ok (.lcmp, 1)) (hd : decode M.2.1 (pc + 1) = .ok (.ifCond .ge off, 3)) (ha : -9223372036854775808 ≤ a ∧ a ≤ 9223372036854775807) (hb : -9223372036854775808 ≤ b ∧ b ≤ 9223372036854775807) (ht : ((pc + 1 : Nat) : Int) + off = (tgt : Int)) (kt : b ≤ a → AW M R Z cu su n h tgt L st) (kf : ¬ (b ≤ a) → AW M R Z cu su n h (pc + 1 + 3) L st) : AW M R Z cu su n h pc L (aL b :: aL a :: st) := by
  have K : AW M R Z cu su n h (pc + 1) L (aI (if b < a then 1 else if a = b then 0 else -1) :: st) := by
    refine aw_if_ge hd (by omega) ht (fun q => kt ?_) (fun q => kf ?_)
    · omega
    · omega
  intro p l e s m args below meth c G H locs ls C Wd hS hl
  refine W.lcmp C.1 C.2.1 hd1 ?_
  rw [am_cmp ha hb]
  exact K p l e s m args below meth c G H locs ls C Wd hS hl
theorem aw_lcmp_gt {a b off : Int} {tgt : Nat} (hd1 : decode M.2.1 pc = .ok (.lcmp, 1)) (hd : decode M.2.1 (pc + 1) = .ok (.ifCond .gt off, 3)) (ha : -9223372036854775808 ≤ a ∧ a ≤ 9223372036854775807) (hb : -9223372036854775808 ≤ b ∧ b ≤ 9223372036854775807) (ht : ((pc + 1 : Nat) : Int) + off = (tgt : Int)) (kt : b < a → AW M R Z cu su n h tgt L st) (kf : ¬ (b < a) → AW M R Z cu su n h (pc + 1 + 3) L st) : AW M R Z cu su n h pc L (aL b :: aL a :: st) := by
  have K : AW M R Z cu su n h (pc + 1) L (aI (if b < a then 1 else if a = b then 0 else -1) :: st) := by
    refine aw_if_gt hd (by omega) ht (fun q => kt ?_) (fun q => kf ?_)
    · omega
    · omega
  intro p l e s m args below meth c G H locs ls C Wd hS hl
  refine W.lcmp C.1 C.2.1 hd1 ?_
  rw [am_cmp ha hb]
  exact K p l e s m args below meth c G H locs ls C Wd hS hl
theorem aw_lcmp_le {a b off : Int} {tgt : Nat} (hd1 : decode M.2.1 pc = .ok (.lcmp, 1)) (hd : decode M.2.1 (pc + 1) = .ok (.ifCond .le off, 3)) (ha : -9223372036854775808 ≤ a ∧ a ≤ 9223372036854775807) (hb : -9223372036854775808 ≤ b ∧ b ≤ 9223372036854775807) (ht : ((pc + 1 : Nat) : Int) + off = (tgt : Int)) (kt : a ≤ b → AW M R Z cu su n h tgt L st) (kf : ¬ (a ≤ b) → AW M R Z cu su n h (pc + 1 + 3) L st) : AW M R Z cu su n h pc L (aL b :: aL a :: st) := by
  have K : AW M R Z cu su n h (pc + 1) L (aI (if b < a then 1 else if a = b then 0 else -1) :: st) := by
    refine aw_if_le hd (by omega) ht (fun q => kt ?_) (fun q => kf ?_)
    · omega
    · omega
  intro p l e s m args below meth c G H locs ls C Wd hS hl
  refine W.lcmp C.1 C.2.1 hd1 ?_
  rw [am_cmp ha hb]
  exact K p l e s m args below meth c G H locs ls C Wd hS hl
theorem aw_flag_eq {P : Prop} [Decidable P] {off : Int} {tgt : Nat} (hd : decode M.2.1 pc = .ok (.ifCond .eq off, 3)) (ht : (pc : Int) + off = (tgt : Int)) (kt : ¬ P → AW M R Z cu su n h tgt L st) (kf : P → AW M R Z cu su n h (pc + 3) L st) : AW M R Z cu su n h pc L (aI (if P then 1 else 0) :: st) := by
  refine aw_if_eq hd (by by_cases z : P <;> simp [z]) ht (fun q => kt ?_) (fun q => kf ?_)
  · by_cases z : P
    · first | exact z | (rw [if_pos z] at q; omega)
    · first | exact z | (rw [if_neg z] at q; omega)
  · by_cases z : P
    · first | exact z | (rw [if_pos z] at q; omega)
    · first | exact z | (rw [if_neg z] at q; omega)
theorem aw_flag_ne {P : Prop} [Decidable P] {off : Int} {tgt : Nat} (hd : decode M.2.1 pc = .ok (.ifCond .ne off, 3)) (ht : (pc : Int) + off = (tgt : Int)) (kt : P → AW M R Z cu su n h tgt L st) (kf : ¬ P → AW M R Z cu su n h (pc + 3) L st) : AW M R Z cu su n h pc L (aI (if P then 1 else 0) :: st) := by
  refine aw_if_ne hd (by by_cases z : P <;> simp [z]) ht (fun q => kt ?_) (fun q => kf ?_)
  · by_cases z : P
    · first | exact z | (rw [if_pos z] at q; omega)
    · first | exact z | (rw [if_neg z] at q; omega)
  · by_cases z : P
    · first | exact z | (rw [if_pos z] at q; omega)
    · first | exact z | (rw [if_neg z] at q; omega)
end AWR
end
section
/-! rows of the abstract machine: returns, fields, arrays, switches -/
section AWH
variable {M : AM} {R : Room} {Z : AZ} {cu su n : Nat} {h : AH} {pc : Nat} {L : List (Option AV)} {st : List AV}
theorem aw_iret {d mc ms : Nat} {Q : AQ} {a : Int} (hr : M.2.2.2.1 = some .int) (hd : decode M.2.1 pc = .ok (.ireturn, 1)) (hq : Q (some (aI a)) n h) (hcu : cu ≤ mc := by decide) (hsu : su ≤ ms := by decide) : AW M (am_R d mc ms) (am_Z Q mc ms) cu su n h pc L [aI a] := by
  intro p l e s m args below meth c G H locs ls C Wd hS hl
  refine W.widen (k := mc) (n := ms) hcu hsu ?_
  exact W.iret C.1 C.2.1 (C.2.2.1.trans hr) (fun t ht hW => ⟨⟨some (aI a), n, h, rfl, hq, by rw [ht]; exact Wd⟩, hS.F ht⟩) hS.2.2 hd C.2.2.2.2.2.1
theorem am_01 {a : Int} (h01 : a = 0 ∨ a = 1) : narrow .boolean (.int (iI a)) = .int (iI a) := by
  rcases h01 with rfl | rfl <;> decide
theorem aw_zret {d mc ms : Nat} {Q : AQ} {a : Int} (hr : M.2.2.2.1 = some .boolean) (hd : decode M.2.1 pc = .ok (.ireturn, 1)) (h01 : a = 0 ∨ a = 1) (hq : Q (some (aI a)) n h) (hcu : cu ≤ mc := by decide) (hsu : su ≤ ms := by decide) : AW M (am_R d mc ms) (am_Z Q mc ms) cu su n h pc L [aI a] := by
  intro p l e s m args below meth c G H locs ls C Wd hS hl
  refine W.widen (k := mc) (n := ms) hcu hsu ?_
  exact W.zret C.1 C.2.1 (C.2.2.1.trans hr) (am_01 h01) (fun t ht hW => ⟨⟨some (aI a), n, h, rfl, hq, by rw [ht]; exact Wd⟩, hS.F ht⟩) hS.2.2 hd C.2.2.2.2.2.1
theorem aw_lret {d mc ms : Nat} {Q : AQ} {a : Int} (hr : M.2.2.2.1 = some .long) (hd : decode M.2.1 pc = .ok (.lreturn, 1)) (hq : Q (some (aL a)) n h) (hcu : cu ≤ mc := by decide) (hsu : su ≤ ms := by decide) : AW M (am_R d mc ms) (am_Z Q mc ms) cu su n h pc L [aL a] := by
  intro p l e s m args below meth c G H locs ls C Wd hS hl
  refine W.widen (k := mc) (n := ms) hcu hsu ?_
  exact W.lret C.1 C.2.1 (C.2.2.1.trans hr) (fun t ht hW => ⟨⟨some (aL a), n, h, rfl, hq, by rw [ht]; exact Wd⟩, hS.F ht⟩) hS.2.2 hd C.2.2.2.2.2.1
theorem aw_aret {d mc ms : Nat} {Q : AQ} {r : Nat} {rt : FieldType} (hr : M.2.2.2.1 = some rt) (hrt : (∃ n, rt = .object n) ∨ ∃ t, rt = .array t) (hd : decode M.2.1 pc = .ok (.areturn, 1)) (hq : Q (some (aR r)) n h) (hcu : cu ≤ mc := by decide) (hsu : su ≤ ms := by decide) : AW M (am_R d mc ms) (am_Z Q mc ms) cu su n h pc L [aR r] := by
  intro p l e s m args below meth c G H locs ls C Wd hS hl
  refine W.widen (k := mc) (n := ms) hcu hsu ?_
  exact W.aret C.1 C.2.1 (C.2.2.1.trans hr) hrt (Or.inr ⟨_, rfl⟩) (fun t ht hW => ⟨⟨some (aR r), n, h, rfl, hq, by rw [ht]; exact Wd⟩, hS.F ht⟩) hS.2.2 hd C.2.2.2.2.2.1
theorem aw_vret {d mc ms : Nat} {Q : AQ} (hr : M.2.2.2.1 = none) (hd : decode M.2.1 pc = .ok (.return_, 1)) (hq : Q none n h) (hcu : cu ≤ mc := by decide) (hsu : su ≤ ms := by decide) : AW M (am_R d mc ms) (am_Z Q mc ms) cu su n h pc L [] := by
  intro p l e s m args below meth c G H locs ls C Wd hS hl
  refine W.widen (k := mc) (n := ms) hcu hsu ?_
  exact W.vret C.1 C.2.1 (C.2.2.1.trans hr) (fun t ht hW => ⟨⟨none, n, h, rfl, hq, by rw [ht]; exact Wd⟩, hS.F ht⟩) hS.2.2 hd C.2.2.2.2.2.1
-- fields
def afG (own : String) (idx ci k : Nat) : Prop := ∃ q : vw_C, vwCl[ci]? = some q ∧ k < q.2.2 ∧ (∀ w ∈ u_ws q.1 q.2.1 q.2.2, w ∈ TT) ∧ Cond.fieldLink own idx (q.2.1 k).1 (q.2.1 k).2.1 (q.2.1 k).2.2.1 ∈ TT
def afP (own : String) (idx ci k : Nat) (fin : Bool) (ty : FieldType) : Prop := ∃ (q : vw_C) (ty0 : Nat → FieldType), vwCl[ci]? = some q ∧ k < q.2.2 ∧ (∀ w ∈ u_ws q.1 q.2.1 q.2.2, w ∈ TT) ∧ Cond.fieldLink own idx (q.2.1 k).1 (q.2.1 k).2.1 (q.2.1 k).2.2.1 ∈ TT ∧
  (∀ k, k < q.2.2 → parseFieldDescriptor (q.2.1 k).2.2.1 = some (ty0 k)) ∧ (∀ a, a < q.2.2 → ∀ b, b < q.2.2 → a ≠ b → (q.2.1 a).2.1 ≠ (q.2.1 b).2.1) ∧ (q.2.1 k).2.2.2 = fin ∧ (q.2.1 k).1 = own ∧ parseFieldDescriptor (q.2.1 k).2.2.1 = some ty
theorem am_nd {ci : Nat} {q : vw_C} (h : vwCl[ci]? = some q) (fs : List AV) : am_ok (aO ci fs) := by
  refine ⟨fun e => ?_, fun len f e => by cases e⟩
  have : ci = 99 := congrArg (fun x : AE => match x with | .inr (c, _) => c | _ => 0) e
  subst this
  simp [vwCl] at h
theorem aw_get {idx ci k r : Nat} {fs : List AV} {v : AV} (hf : afG M.1.cls idx ci k) (hh : h r = aO ci fs) (hv : fs[k]? = some v) (hd : decode M.2.1 pc = .ok (.getfield idx, 3)) (kk : AW M R Z cu su n h (pc + 3) L (v :: st)) : AW M R Z cu su n h pc L (aR r :: st) := by
  intro p l e s m args below meth c G H locs ls C Wd hS hl
  obtain ⟨⟨cC, T, N⟩, h1, h2, h3, h4⟩ := hf
  obtain ⟨k0, rfl, hk0⟩ := Wd.ix hh (am_nd h1 fs)
  exact va_get (D := am_D G) (ws := am_ws G n h) (a := G.1 + k0) (ci := ci) (fs := fs.map (am_v G)) (v := am_v G v) C.1 C.2.1 C.2.2.2.2.2.2.2.1 h3 C.2.2.2.2.1 C.2.2.2.2.2.2.2.2.1.1 Wd.2.2 k0 (by rw [am_get hk0, hh]; rfl) h1 k h2 (C.2.2.2.2.2.2.2.1 _ h4) (fun _ h9 => h9) (by rw [List.getElem?_map, hv]; rfl) hd (kk p l e s m args below meth c G H locs ls C Wd hS hl)
theorem aw_put {idx ci k r : Nat} {fs : List AV} {v : AV} {ty : FieldType} (hf : afP M.1.cls idx ci k false ty) (hh : h r = aO ci fs) (hv : k < fs.length) (hn : ∀ G, narrow ty (am_v G v) = am_v G v ∧ fits ty (am_v G v) = true) (hd : decode M.2.1 pc = .ok (.putfield idx, 3)) (kk : AW M R Z cu su n (va_up h r (aO ci (fs.set k v))) (pc + 3) L st) : AW M R Z cu su n h pc L (v :: aR r :: st) := by
  intro p l e s m args below meth c G H locs ls C Wd hS hl
  obtain ⟨⟨cC, T, N⟩, ty0, h1, h2, h3, h4, h5, h6, h7, h8, h9⟩ := hf
  obtain ⟨k0, rfl, hk0⟩ := Wd.ix hh (am_nd h1 fs)
  have hap := va_apart (own := M.1.cls) C.2.2.2.2.2.2.2.1 h3 ty0 h5 h6 C.2.2.2.2.2.2.2.2.1.1 h1
  have hP := Wd.2.2
  have he : (am_ws G n h)[k0]? = some (G.1 + k0, .inr (ci, fs.map (am_v G))) := by rw [am_get hk0, hh]; rfl
  obtain ⟨r, h1', cell, q1, q2, q3, q4⟩ := hP k0 _ he
  have hr : r = (cC, T, N) := Option.some.inj (h1'.symm.trans h1)
  subst hr
  obtain ⟨hSl, hfc, kC, hkC, hkind⟩ := C.2.2.2.2.2.2.2.2.1.1.1 ci _ h1
  obtain ⟨cf, kf, fi, f, hi, hsl⟩ := hSl k h2
  have hts := C.2.2.2.2.2.2.2.1
  have hlay := hts _ (h3 _ (u_in_lay h2))
  unfold u_lay at hlay
  rw [if_neg (by rw [h7]; decide)] at hlay
  have hst := (u_facts hfc hkC (u_lays hts h3 h2) hi).1
  have h66 := u_store hfc hkC hkind hlay hi h9 (hn G).1 (hn G).2
  refine W.putK C.1 C.2.1 (f := f) ⟨C.2.2.2.2.1, hts _ h4, ⟨_, _, _, hi⟩, hst⟩ (by rw [q2]; exact h66) q1 q3 (by rw [hsl]; exact k2_hasslot (q4 k h2)) rfl rfl hd fun H' e1 e2 e3 => ?_
  rw [hsl] at e1 ⊢
  refine kk p l e s m args below meth c G H' _ ls C (Wd.put hk0 e2 ?_) (hS.put e2 e3 (am_Dj.2 k0 _ he)) hl
  have := hP.set (am_Dj (G := G) (n := n) (h := h)) he (e := .inr (ci, (fs.set k v).map (am_v G))) ⟨_, h1, t_OB.to (V := updV (vp_V (fs.map (am_v G))) k (am_v G v)) ⟨_, e1, q2, q3, t_set q4 hap h2 (am_v G v)⟩ (fun j _ => by rw [List.map_set]; exact vp_updV_set (by simpa using hv) _ j)⟩ e3
  exact this
theorem aw_putF {idx ci k r : Nat} {fs : List AV} {v : AV} {ty : FieldType} (hf : afP M.1.cls idx ci k true ty) (hin2 : M.1.name = "<init>") (hh : h r = aO ci fs) (hv : k < fs.length) (hn : ∀ G, narrow ty (am_v G v) = am_v G v ∧ fits ty (am_v G v) = true) (hd : decode M.2.1 pc = .ok (.putfield idx, 3)) (kk : AW M R Z cu su n (va_up h r (aO ci (fs.set k v))) (pc + 3) L st) : AW M R Z cu su n h pc L (v :: aR r :: st) := by
  intro p l e s m args below meth c G H locs ls C Wd hS hl
  obtain ⟨⟨cC, T, N⟩, ty0, h1, h2, h3, h4, h5, h6, h7, h8, h9⟩ := hf
  obtain ⟨k0, rfl, hk0⟩ := Wd.ix hh (am_nd h1 fs)
  have hap := va_apart (own := M.1.cls) C.2.2.2.2.2.2.2.1 h3 ty0 h5 h6 C.2.2.2.2.2.2.2.2.1.1 h1
  have hP := Wd.2.2
  have he : (am_ws G n h)[k0]? = some (G.1 + k0, .inr (ci, fs.map (am_v G))) := by rw [am_get hk0, hh]; rfl
  obtain ⟨r, h1', cell, q1, q2, q3, q4⟩ := hP k0 _ he
  have hr : r = (cC, T, N) := Option.some.inj (h1'.symm.trans h1)
  subst hr
  obtain ⟨hSl, hfc, kC, hkC, hkind⟩ := C.2.2.2.2.2.2.2.2.1.1.1 ci _ h1
  obtain ⟨cf, kf, fi, f, hi, hsl⟩ := hSl k h2
  have hts := C.2.2.2.2.2.2.2.1
  have hlay := hts _ (h3 _ (u_in_lay h2))
  unfold u_lay at hlay
  rw [if_pos h7] at hlay
  have hst := (u_facts hfc hkC (u_lays hts h3 h2) hi).1
  have hcf : m.cls = cf := by
    obtain ⟨_, _, c', _, _, _, -, -, hf', -, -, -, hown2, -⟩ := Cond.laysFinal_spec hlay
    have e1 : c' = cf := by have := hi.symm.trans hf'; simp at this; exact this.1.symm
    have h8' : (T k).1 = M.1.cls := h8
    rw [h8'] at hown2
    rw [← e1]; exact Option.some.inj (C.2.2.2.2.1.symm.trans hown2)
  have h66 := u_fits hfc hkC hkind (Or.inr hlay) hi h9 (hn G).1 (hn G).2
  refine W.putFinK C.1 C.2.1 C.2.2.2.2.1 (hts _ h4) hi hst hcf (C.2.2.2.2.2.2.1.trans hin2) (by rw [q2]; exact h66) q1 q3 (by rw [hsl]; exact k2_hasslot (q4 k h2)) rfl rfl hd fun H' e1 e2 e3 => ?_
  rw [hsl] at e1 ⊢
  refine kk p l e s m args below meth c G H' _ ls C (Wd.put hk0 e2 ?_) (hS.put e2 e3 (am_Dj.2 k0 _ he)) hl
  have := hP.set (am_Dj (G := G) (n := n) (h := h)) he (e := .inr (ci, (fs.set k v).map (am_v G))) ⟨_, h1, t_OB.to (V := updV (vp_V (fs.map (am_v G))) k (am_v G v)) ⟨_, e1, q2, q3, t_set q4 hap h2 (am_v G v)⟩ (fun j _ => by rw [List.map_set]; exact vp_updV_set (by simpa using hv) _ j)⟩ e3
  exact this
theorem aw_ni (a : Int) : ∀ G, narrow .int (am_v G (aI a)) = am_v G (aI a) ∧ fits .int (am_v G (aI a)) = true := fun _ => ⟨rfl, rfl⟩
theorem aw_no (C : String) (r : Nat) : ∀ G, narrow (.object C) (am_v G (aR r)) = am_v G (aR r) ∧ fits (.object C) (am_v G (aR r)) = true := fun _ => ⟨rfl, rfl⟩
theorem aw_na (t : FieldType) (r : Nat) : ∀ G, narrow (.array t) (am_v G (aR r)) = am_v G (aR r) ∧ fits (.array t) (am_v G (aR r)) = true := fun _ => ⟨rfl, rfl⟩
-- arrays
theorem am_nda {t : Nat} (ht : t ≠ 6) (len : Nat) (f : Nat → Int) : am_ok (aA t len f) := ⟨fun h => (by cases h), fun l g e => (by cases e; exact ht rfl)⟩
theorem am_ndq (t len : Nat) (f : Nat → Option Nat) : am_ok (aQ t len f) := ⟨fun h => (by cases h), fun l g e => (by cases e)⟩
theorem am_ea {G : AG} {t len : Nat} {f : Nat → Int} (ht : t ≠ 3) : am_e G (aA t len f) = .inl (G.2.2.2.2.1 t, len, .inl (fun i => iI (f i))) := by
  simp [am_e, ht]
theorem am_el {G : AG} {len : Nat} {f : Nat → Int} : am_e G (aA 3 len f) = .inl (G.2.2.2.2.1 3, len, .inr (.inl (fun i => lL (f i)))) := by
  simp [am_e]
theorem am_eq {G : AG} {t len : Nat} {f : Nat → Option Nat} : am_e G (aQ t len f) = .inl (G.2.2.2.2.1 t, len, .inr (.inr (.inr (.inr (fun i => (f i).map (am_adr G)))))) := rfl
theorem aw_iald {r len : Nat} {f : Nat → Int} {i : Int} (hh : h r = aA 0 len f) (hi : 0 ≤ i ∧ i < len) (hd : decode M.2.1 pc = .ok (.iaload, 1)) (kk : AW M R Z cu su n h (pc + 1) L (aI (f i.toNat) :: st)) (hz : len < 2147483648 := by decide) : AW M R Z cu su n h pc L (aI i :: aR r :: st) := by
  intro p l e s m args below meth c G H locs ls C Wd hS hl
  obtain ⟨k0, rfl, hk0⟩ := Wd.ix hh (am_nda (by decide) _ _)
  have k := kk p l e s m args below meth c G H locs ls C Wd hS hl
  refine va_iald (D := am_D G) (ws := am_ws G n h) (a := G.1 + k0) C.1 C.2.1 C.2.2.2.2.2.2.2.2.1.1 Wd.2.2 k0 0 (by rw [am_get hk0, hh, am_ea (by decide)]) rfl (iI_in hi.1 hi.2 hz) hd ?_
  rw [iI_clamp (by omega)]
  exact k
theorem aw_zald {r len : Nat} {f : Nat → Int} {i : Int} (hh : h r = aA 1 len f) (hi : 0 ≤ i ∧ i < len) (hd : decode M.2.1 pc = .ok (.baload, 1)) (kk : AW M R Z cu su n h (pc + 1) L (aI (f i.toNat) :: st)) (hz : len < 2147483648 := by decide) : AW M R Z cu su n h pc L (aI i :: aR r :: st) := by
  intro p l e s m args below meth c G H locs ls C Wd hS hl
  obtain ⟨k0, rfl, hk0⟩ := Wd.ix hh (am_nda (by decide) _ _)
  have k := kk p l e s m args below meth c G H locs ls C Wd hS hl
  refine va_zald (D := am_D G) (ws := am_ws G n h) (a := G.1 + k0) C.1 C.2.1 C.2.2.2.2.2.2.2.2.1.1 Wd.2.2 k0 1 (by rw [am_get hk0, hh, am_ea (by decide)]) rfl (iI_in hi.1 hi.2 hz) hd ?_
  rw [iI_clamp (by omega)]
  exact k
theorem aw_cald {r len : Nat} {f : Nat → Int} {i : Int} (hh : h r = aA 2 len f) (hi : 0 ≤ i ∧ i < len) (hd : decode M.2.1 pc = .ok (.caload, 1)) (kk : AW M R Z cu su n h (pc + 1) L (aI (f i.toNat) :: st)) (hz : len < 2147483648 := by decide) : AW M R Z cu su n h pc L (aI i :: aR r :: st) := by
  intro p l e s m args below meth c G H locs ls C Wd hS hl
  obtain ⟨k0, rfl, hk0⟩ := Wd.ix hh (am_nda (by decide) _ _)
  have k := kk p l e s m args below meth c G H locs ls C Wd hS hl
  refine va_cald (D := am_D G) (ws := am_ws G n h) (a := G.1 + k0) C.1 C.2.1 C.2.2.2.2.2.2.2.2.1.1 Wd.2.2 k0 2 (by rw [am_get hk0, hh, am_ea (by decide)]) rfl (iI_in hi.1 hi.2 hz) hd ?_
  rw [iI_clamp (by omega)]
  exact k
theorem aw_lald {r len : Nat} {f : Nat → Int} {i : Int} (hh : h r = aA 3 len f) (hi : 0 ≤ i ∧ i < len) (hd : decode M.2.1 pc = .ok (.laload, 1)) (kk : AW M R Z cu su n h (pc + 1) L (aL (f i.toNat) :: st)) (hz : len < 2147483648 := by decide) : AW M R Z cu su n h pc L (aI i :: aR r :: st) := by
  intro p l e s m args below meth c G H locs ls C Wd hS hl
  obtain ⟨k0, rfl, hk0⟩ := Wd.ix hh (am_nda (by decide) _ _)
  have k := kk p l e s m args below meth c G H locs ls C Wd hS hl
  refine va_lald (D := am_D G) (ws := am_ws G n h) (a := G.1 + k0) C.1 C.2.1 C.2.2.2.2.2.2.2.2.1.1 Wd.2.2 k0 3 (by rw [am_get hk0, hh, am_el]) rfl (iI_in hi.1 hi.2 hz) hd ?_
  rw [iI_clamp (by omega)]
  exact k
theorem am_upI (f : Nat → Int) (k : Nat) (x : Int) : upd (fun i => iI (f i)) k (iI x) = fun i => iI (va_up f k x i) := by
  funext j
  by_cases hj : j = k
  · simp [upd, va_up, hj]
  · simp [upd, va_up, hj]
theorem am_upL (f : Nat → Int) (k : Nat) (x : Int) : vp_updL (fun i => lL (f i)) k (lL x) = fun i => lL (va_up f k x i) := by
  funext j
  by_cases hj : j = k
  · simp [vp_updL, va_up, hj]
  · simp [vp_updL, va_up, hj]
end AWH
end
section
/-! rows of the abstract machine: stores into arrays, arrays of references, switches, calls -/
section AWS
variable {M : AM} {R : Room} {Z : AZ} {cu su n : Nat} {h : AH} {pc : Nat} {L : List (Option AV)} {st : List AV}
theorem am_upV {α : Type} (mk : α → Value) (f : Nat → α) (k : Nat) (x : α) : updV (fun i => mk (f i)) k (mk x) = fun i => mk (va_up f k x i) := by
  funext j
  by_cases hj : j = k
  · simp [updV, va_up, hj]
  · simp [updV, va_up, hj]
theorem am_nc {a : Int} (h : 0 ≤ a ∧ a < 65536) : narrow .char (.int (iI a)) = .int (iI a) := by
  have := lg_i2c_word (v := iI a) (by rw [iI_of (by omega)]; exact h.1) (by rw [iI_of (by omega)]; exact h.2)
  rw [lg_i2c_nf] at this
  show Value.int _ = _
  rw [this]
theorem aw_iast {r len : Nat} {f : Nat → Int} {i x : Int} (hh : h r = aA 0 len f) (hi : 0 ≤ i ∧ i < len) (hd : decode M.2.1 pc = .ok (.iastore, 1)) (kk : AW M R Z cu su n (va_up h r (aA 0 len (va_up f i.toNat x))) (pc + 1) L st) (hz : len < 2147483648 := by decide) : AW M R Z cu su n h pc L (aI x :: aI i :: aR r :: st) := by
  intro p l e s m args below meth c G H locs ls C Wd hS hl
  obtain ⟨k0, rfl, hk0⟩ := Wd.ix hh (am_nda (by decide) _ _)
  have he : (am_ws G n h)[k0]? = some (G.1 + k0, am_e G (aA 0 len f)) := by rw [am_get hk0, hh]
  have hc : H[G.1 + k0]? = some (arrV (G.2.2.2.2.1 0) len (fun j => (fun z : Int => Value.int (iI z)) (f j))) := by
    have := Wd.2.2 k0 _ he
    rw [am_ea (by decide)] at this
    exact this
  refine W.iast C.1 C.2.1 hc ((C.2.2.2.2.2.2.2.2.1.1.2 0 _ rfl).1 len _) (fun q => by cases q) (by rw [arrV_size]; exact iI_in hi.1 hi.2 hz) rfl rfl hd fun H1 e1 z oq => ?_
  refine kk p l e s m args below meth c G H1 _ ls C (Wd.put hk0 z (Wd.2.2.set am_Dj he ?_ oq)) (hS.put z oq (am_Dj.2 k0 _ he)) hl
  rw [am_ea (by decide)]
  show H1[G.1 + k0]? = some (arrV (G.2.2.2.2.1 0) len (fun j => (fun z : Int => Value.int (iI z)) (va_up f i.toNat x j)))
  rw [e1, arrV_store, iI_clamp (by omega)]
  exact congrArg some (congrArg (arrV _ len) (am_upV (fun z : Int => Value.int (iI z)) f i.toNat x))
theorem aw_zast {r len : Nat} {f : Nat → Int} {i x : Int} (hh : h r = aA 1 len f) (hi : 0 ≤ i ∧ i < len) (hx : x = 0 ∨ x = 1) (hd : decode M.2.1 pc = .ok (.bastore, 1)) (kk : AW M R Z cu su n (va_up h r (aA 1 len (va_up f i.toNat x))) (pc + 1) L st) (hz : len < 2147483648 := by decide) : AW M R Z cu su n h pc L (aI x :: aI i :: aR r :: st) := by
  intro p l e s m args below meth c G H locs ls C Wd hS hl
  obtain ⟨k0, rfl, hk0⟩ := Wd.ix hh (am_nda (by decide) _ _)
  have he : (am_ws G n h)[k0]? = some (G.1 + k0, am_e G (aA 1 len f)) := by rw [am_get hk0, hh]
  have hc : H[G.1 + k0]? = some (arrV (G.2.2.2.2.1 1) len (fun j => (fun z : Int => Value.int (iI z)) (f j))) := by
    have := Wd.2.2 k0 _ he
    rw [am_ea (by decide)] at this
    exact this
  refine W.zast C.1 C.2.1 hc ((C.2.2.2.2.2.2.2.2.1.1.2 1 _ rfl).1 len _) (fun q => by cases q) (by rw [arrV_size]; exact iI_in hi.1 hi.2 hz) rfl rfl hd fun H1 e1 z oq => ?_
  refine kk p l e s m args below meth c G H1 _ ls C (Wd.put hk0 z (Wd.2.2.set am_Dj he ?_ oq)) (hS.put z oq (am_Dj.2 k0 _ he)) hl
  rw [am_ea (by decide)]
  show H1[G.1 + k0]? = some (arrV (G.2.2.2.2.1 1) len (fun j => (fun z : Int => Value.int (iI z)) (va_up f i.toNat x j)))
  rw [e1, show narrow _ _ = _ from am_01 hx, arrV_store, iI_clamp (by omega)]
  exact congrArg some (congrArg (arrV _ len) (am_upV (fun z : Int => Value.int (iI z)) f i.toNat x))
theorem aw_cast {r len : Nat} {f : Nat → Int} {i x : Int} (hh : h r = aA 2 len f) (hi : 0 ≤ i ∧ i < len) (hx : 0 ≤ x ∧ x < 65536) (hd : decode M.2.1 pc = .ok (.castore, 1)) (kk : AW M R Z cu su n (va_up h r (aA 2 len (va_up f i.toNat x))) (pc + 1) L st) (hz : len < 2147483648 := by decide) : AW M R Z cu su n h pc L (aI x :: aI i :: aR r :: st) := by
  intro p l e s m args below meth c G H locs ls C Wd hS hl
  obtain ⟨k0, rfl, hk0⟩ := Wd.ix hh (am_nda (by decide) _ _)
  have he : (am_ws G n h)[k0]? = some (G.1 + k0, am_e G (aA 2 len f)) := by rw [am_get hk0, hh]
  have hc : H[G.1 + k0]? = some (arrV (G.2.2.2.2.1 2) len (fun j => (fun z : Int => Value.int (iI z)) (f j))) := by
    have := Wd.2.2 k0 _ he
    rw [am_ea (by decide)] at this
    exact this
  refine W.cast C.1 C.2.1 hc ((C.2.2.2.2.2.2.2.2.1.1.2 2 _ rfl).1 len _) (fun q => by cases q) (by rw [arrV_size]; exact iI_in hi.1 hi.2 hz) rfl rfl hd fun H1 e1 z oq => ?_
  refine kk p l e s m args below meth c G H1 _ ls C (Wd.put hk0 z (Wd.2.2.set am_Dj he ?_ oq)) (hS.put z oq (am_Dj.2 k0 _ he)) hl
  rw [am_ea (by decide)]
  show H1[G.1 + k0]? = some (arrV (G.2.2.2.2.1 2) len (fun j => (fun z : Int => Value.int (iI z)) (va_up f i.toNat x j)))
  rw [e1, show narrow _ _ = _ from am_nc hx, arrV_store, iI_clamp (by omega)]
  exact congrArg some (congrArg (arrV _ len) (am_upV (fun z : Int => Value.int (iI z)) f i.toNat x))
theorem aw_last {r len : Nat} {f : Nat → Int} {i x : Int} (hh : h r = aA 3 len f) (hi : 0 ≤ i ∧ i < len) (hd : decode M.2.1 pc = .ok (.lastore, 1)) (kk : AW M R Z cu su n (va_up h r (aA 3 len (va_up f i.toNat x))) (pc + 1) L st) (hz : len < 2147483648 := by decide) : AW M R Z cu su n h pc L (aL x :: aI i :: aR r :: st) := by
  intro p l e s m args below meth c G H locs ls C Wd hS hl
  obtain ⟨k0, rfl, hk0⟩ := Wd.ix hh (am_nda (by decide) _ _)
  have he : (am_ws G n h)[k0]? = some (G.1 + k0, am_e G (aA 3 len f)) := by rw [am_get hk0, hh]
  have hc : H[G.1 + k0]? = some (arrV (G.2.2.2.2.1 3) len (fun j => (fun z : Int => Value.long (lL z)) (f j))) := by
    have := Wd.2.2 k0 _ he
    rw [am_el] at this
    exact this
  refine W.last C.1 C.2.1 hc ((C.2.2.2.2.2.2.2.2.1.1.2 3 _ rfl).1 len _) (fun q => by cases q) (by rw [arrV_size]; exact iI_in hi.1 hi.2 hz) rfl rfl hd fun H1 e1 z oq => ?_
  refine kk p l e s m args below meth c G H1 _ ls C (Wd.put hk0 z (Wd.2.2.set am_Dj he ?_ oq)) (hS.put z oq (am_Dj.2 k0 _ he)) hl
  rw [am_el]
  show H1[G.1 + k0]? = some (arrV (G.2.2.2.2.1 3) len (fun j => (fun z : Int => Value.long (lL z)) (va_up f i.toNat x j)))
  rw [e1, arrV_store, iI_clamp (by omega)]
  exact congrArg some (congrArg (arrV _ len) (am_upV (fun z : Int => Value.long (lL z)) f i.toNat x))
theorem aw_aaldR {r len : Nat} {f : Nat → Option Nat} {i : Int} {q : Nat} (hh : h r = aQ 4 len f) (hi : 0 ≤ i ∧ i < len) (hq : f i.toNat = some q) (hd : decode M.2.1 pc = .ok (.aaload, 1)) (kk : AW M R Z cu su n h (pc + 1) L (aR q :: st)) (hz : len < 2147483648 := by decide) : AW M R Z cu su n h pc L (aI i :: aR r :: st) := by
  intro p l e s m args below meth c G H locs ls C Wd hS hl
  obtain ⟨k0, rfl, hk0⟩ := Wd.ix hh (am_ndq _ _ _)
  have he : (am_ws G n h)[k0]? = some (G.1 + k0, am_e G (aQ 4 len f)) := by rw [am_get hk0, hh]
  have hc : H[G.1 + k0]? = some (arrV (G.2.2.2.2.1 4) len (fun j => va_rf ((f j).map (am_adr G)))) := Wd.2.2 k0 _ he
  have hlt : i.toNat < len := by omega
  refine W.aald (v := am_v G (aR q)) (ty := .object RX2) C.1 C.2.1 hc ((C.2.2.2.2.2.2.2.2.1.1.2 4 _ rfl).1 len _) rfl (fun q => by cases q) (by rw [arrV_size]; exact iI_in hi.1 hi.2 hz) (by rw [iI_clamp (by omega), arrV_read _ _ hlt, hq]; rfl) rfl rfl hd ?_
  exact kk p l e s m args below meth c G H locs ls C Wd hS hl
theorem aw_aaldA {r len : Nat} {f : Nat → Option Nat} {i : Int} {q : Nat} (hh : h r = aQ 5 len f) (hi : 0 ≤ i ∧ i < len) (hq : f i.toNat = some q) (hd : decode M.2.1 pc = .ok (.aaload, 1)) (kk : AW M R Z cu su n h (pc + 1) L (aR q :: st)) (hz : len < 2147483648 := by decide) : AW M R Z cu su n h pc L (aI i :: aR r :: st) := by
  intro p l e s m args below meth c G H locs ls C Wd hS hl
  obtain ⟨k0, rfl, hk0⟩ := Wd.ix hh (am_ndq _ _ _)
  have he : (am_ws G n h)[k0]? = some (G.1 + k0, am_e G (aQ 5 len f)) := by rw [am_get hk0, hh]
  have hc : H[G.1 + k0]? = some (arrV (G.2.2.2.2.1 5) len (fun j => va_rf ((f j).map (am_adr G)))) := Wd.2.2 k0 _ he
  have hlt : i.toNat < len := by omega
  refine W.aald (v := am_v G (aR q)) (ty := .array .int) C.1 C.2.1 hc ((C.2.2.2.2.2.2.2.2.1.1.2 5 _ rfl).1 len _) rfl (fun q => by cases q) (by rw [arrV_size]; exact iI_in hi.1 hi.2 hz) (by rw [iI_clamp (by omega), arrV_read _ _ hlt, hq]; rfl) rfl rfl hd ?_
  exact kk p l e s m args below meth c G H locs ls C Wd hS hl
theorem aw_aast {r len : Nat} {f : Nat → Option Nat} {i : Int} {q : Nat} {vs : List AV} (hh : h r = aQ 4 len f) (hi : 0 ≤ i ∧ i < len) (hv : h q = aO 2 vs) (hd : decode M.2.1 pc = .ok (.aastore, 1)) (kk : AW M R Z cu su n (va_up h r (aQ 4 len (va_up f i.toNat (some q)))) (pc + 1) L st) (hz : len < 2147483648 := by decide) : AW M R Z cu su n h pc L (aR q :: aI i :: aR r :: st) := by
  intro p l e s m args below meth c G H locs ls C Wd hS hl
  obtain ⟨k0, rfl, hk0⟩ := Wd.ix hh (am_ndq _ _ _)
  obtain ⟨k1, rfl, hk1⟩ := Wd.ix hv (am_nd (q := (RX2, TX2, 2)) rfl vs)
  have he : (am_ws G n h)[k0]? = some (G.1 + k0, am_e G (aQ 4 len f)) := by rw [am_get hk0, hh]
  have hc : H[G.1 + k0]? = some (arrV (G.2.2.2.2.1 4) len (fun j => va_rf ((f j).map (am_adr G)))) := Wd.2.2 k0 _ he
  have hv' : (am_ws G n h)[k1]? = some (G.1 + k1, .inr (2, vs.map (am_v G))) := by rw [am_get hk1, hv]; rfl
  have hK := C.2.2.2.2.2.2.2.2.1.1
  obtain ⟨r', hr', cellV, g1, g2, g3, -⟩ := Wd.2.2 k1 _ hv'
  have hcls := (hK.1 2 (RX2, TX2, 2) rfl).2
  obtain ⟨kA, comp, k1', k2', k3', -⟩ := (hK.2 4 (G.2.2.2.2.1 4, .object RX2) rfl).2
  have hcomp : comp = G.2.2.1 2 := Option.some.inj (k3'.symm.trans hcls.1)
  subst hcomp
  obtain ⟨kC, hkC, -⟩ := hcls.2
  have hin := iI_in hi.1 hi.2 hz
  refine W.aast C.1 C.2.1 hc (fun q h => by cases h) (fun h => by cases h) k1' k2' rfl hkC ⟨fun q => hin (Or.inl q), by rw [arrV_size]; exact Nat.not_le.mp fun q => hin (Or.inr q)⟩ g1 (fun q h => by rw [g3] at h; cases h) (by rw [g2]; exact hkC) (by rw [g2]; exact va_assign hcls) rfl rfl hd fun H1 e1 z oq => ?_
  refine kk p l e s m args below meth c G H1 _ ls C (Wd.put hk0 z (Wd.2.2.set am_Dj he ?_ oq)) (hS.put z oq (am_Dj.2 k0 _ he)) hl
  show H1[G.1 + k0]? = some (arrV (G.2.2.2.2.1 4) len (fun j => va_rf ((va_up f i.toNat (some (k1 + 1)) j).map (am_adr G))))
  rw [e1, arrV_store, iI_clamp (by omega)]
  exact congrArg some (congrArg (arrV _ len) (am_upV (fun z : Option Nat => va_rf (z.map (am_adr G))) f i.toNat (some (k1 + 1))))
-- the script
-- switches
theorem aw_tableIn {a dflt lo hi off : Int} {offs : Array Int} {len tgt : Nat} (hd : decode M.2.1 pc = .ok (.tableswitch dflt lo hi offs, len)) (ha : -2147483648 ≤ a ∧ a ≤ 2147483647) (h1 : lo ≤ a) (h2 : a ≤ hi) (ho : offs[(a - lo).toNat]? = some off) (ht : (pc : Int) + off = (tgt : Int)) (kk : AW M R Z cu su n h tgt L st) : AW M R Z cu su n h pc L (aI a :: st) := by
  intro p l e s m args below meth c G H locs ls C Wd hS hl
  exact lv_tableIn C.1 C.2.1 hd (by rw [iI_of ha]; omega) (by rw [iI_of ha]; omega) (by rw [iI_of ha]; exact ho) ht (kk p l e s m args below meth c G H locs ls C Wd hS hl)
theorem aw_tableOut {a dflt lo hi : Int} {offs : Array Int} {len tgt : Nat} (hd : decode M.2.1 pc = .ok (.tableswitch dflt lo hi offs, len)) (ha : -2147483648 ≤ a ∧ a ≤ 2147483647) (h1 : a < lo ∨ hi < a) (ht : (pc : Int) + dflt = (tgt : Int)) (kk : AW M R Z cu su n h tgt L st) : AW M R Z cu su n h pc L (aI a :: st) := by
  intro p l e s m args below meth c G H locs ls C Wd hS hl
  exact lv_tableOut C.1 C.2.1 hd (by rw [iI_of ha]; omega) ht (kk p l e s m args below meth c G H locs ls C Wd hS hl)
theorem aw_lookup {a dflt off : Int} {ps : Array (Int × Int)} {len tgt : Nat} (hd : decode M.2.1 pc = .ok (.lookupswitch dflt ps, len)) (ha : -2147483648 ≤ a ∧ a ≤ 2147483647) (hp : (ps.toList.zip (ps.toList.drop 1)).all (fun (a, next) => a.1 < next.1) = true) (ho : Op.lookupswitch.offset ps.toList dflt a = off) (ht : (pc : Int) + off = (tgt : Int)) (kk : AW M R Z cu su n h tgt L st) : AW M R Z cu su n h pc L (aI a :: st) := by
  intro p l e s m args below meth c G H locs ls C Wd hS hl
  exact lv_lookup C.1 C.2.1 hd hp (by rw [iI_of ha]; exact ho) ht (kk p l e s m args below meth c G H locs ls C Wd hS hl)
end AWS
end
section
/-! rows of the abstract machine: calls -/
theorem am_AOA_moved {u U : State} (hvm : u.vm.Alike U.vm) (h : (Cond.arrayOver (.array .int)).before #[] u = true) : (Cond.arrayOver (.array .int)).before #[] U = true := by
  obtain ⟨comp, c, k, h1, h2, h3, h4, h5⟩ := arrayOverA_spec h
  obtain ⟨k', hk', he⟩ := hvm.2.2 _ _ h3
  have e0 : U.vm.bare = u.vm.bare := by first | exact hvm.bare_eq | exact hvm.bare_eq.symm
  have hi := ((va_idx_bare U.vm comp).symm.trans (congrArg (fun v : Vm => v.classes.findIdx? fun (x : Class) => match x.kind with | .array component _ => component == comp | _ => false) e0)).trans ((va_idx_bare u.vm comp).trans h2)
  have hkind : k'.kind = .array comp (.array .int) := by rw [he]; exact h4
  have f1 : U.vm.findClass (FieldType.array .int).toString = some comp := by rw [hvm.findClass]; exact h1
  have f2 : U.vm.findClass ("[" ++ (FieldType.array .int).toString) = some c := by rw [hvm.findClass]; exact h5
  unfold Cond.before Cond.holds
  simp only [Cond.value]
  rw [f1, Option.bind_some]
  refine (congrArg (fun o : Option Nat => (o.bind (fun c => (U.vm.classes[c]?).map fun (k : Class) => match k.kind with | .array _ ty => decide (ty = FieldType.array .int) && decide (U.vm.findClass ("[" ++ (FieldType.array .int).toString) = some c) | _ => false) == some true)) hi).trans ?_
  simp [hk', hkind, f2]
theorem am_K.warm {G : AG} {s U : State} (hW : s.WarmedH U.vm) (h : am_K G s) : am_K G U := ⟨va_K.moved hW.alike h.1, fun q hq => (h.2.1 q hq).warmM hW, va_AO.moved hW.alike h.2.2.1, am_AOA_moved hW.alike h.2.2.2⟩
theorem am_K.same {G : AG} {u U : State} (e : u.vm = U.vm) (h : am_K G u) : am_K G U := ⟨va_K.moved (by rw [e]; exact Vm.Alike.refl _) h.1, fun q hq => (h.2.1 q hq).same rfl e, va_AO.moved (by rw [e]; exact Vm.Alike.refl _) h.2.2.1, am_AOA_moved (by rw [e]; exact Vm.Alike.refl _) h.2.2.2⟩
theorem am_blind (G : AG) (n : Nat) (h : AH) (as : List AV) : FrameBlind (am_P G n h as) := fun a U g mk q => ⟨q.1, q.2.1, am_K.same (U := U.calling g mk a) rfl q.2.2.1, va_X.moved (U := U.calling g mk a) (Vm.Alike.refl U.vm) q.2.2.2.1, q.2.2.2.2⟩
theorem am_pre {M : AM} {G : AG} {p : Program} {s : State} {m : MethodId} {args : Array Value} {meth : Method} {c : Code} {n : Nat} {h : AH} {H : Heap} {locs : List Loc} (C : am_C M G p s m args meth c) (Wd : am_W G n h H) (hS : va_S (fun q => G.1 ≤ q) s.heap H locs) (as : List AV) :
    ∀ U : State, U.heap = H → s.WarmedH U.vm → am_P G n h as (as.map (am_v G)).toArray U := by
  intro U hU hW
  obtain ⟨-, -, -, -, -, -, -, -, hK, hX, hb, hbs⟩ := C
  refine ⟨rfl, by rw [hU]; exact Wd, hK.warm hW, ?_, hb⟩
  refine va_X.moved hW.alike ?_
  refine hX.kept ?_
  rw [hU]
  exact hS.2.1 _ (by omega) (by omega)
theorem am_good {w : Cond} (hc : w ∈ TT) : GoodIn TT (w :: TT) := fun x hx => by
  rcases List.mem_cons.mp hx with rfl | hx
  · exact ⟨hc, tt_good hc⟩
  · exact ⟨hx, tt_good hx⟩
def ac_B (N : AM) : Prop := Cond.code N.1 N.2.1 N.2.2.1 N.2.2.2.1 ∈ TT ∧ Cond.initialized N.1.cls ∈ TT ∧ (N.1.cls ≠ "java/lang/invoke/MethodHandle" ∧ N.1.cls ≠ "java/lang/invoke/VarHandle" ∧ (parseMethodDescriptor N.1.desc).map (fun d => d.parameters.length) = some N.2.2.2.2) ∧ N.2.2.1 ≤ 40
def ac_V (own : String) (idx : Nat) (N : AM) : Prop := ac_B N ∧ Cond.methodLink own idx N.1 ∈ TT ∧ Cond.instanceMethod N.1 ∈ TT ∧ Cond.selects N.1.cls N.1 N.1 ∈ TT
def ac_S (own : String) (idx : Nat) (N : AM) : Prop := ac_B N ∧ Cond.methodLink own idx N.1 ∈ TT ∧ Cond.static N.1 ∈ TT
def ac_T (own : String) (idx : Nat) (N : AM) : Prop := ac_B N ∧ (∃ host, (own, idx, N.1, host) ∈ am_nest) ∧ Cond.static N.1 ∈ TT
def ac_I (own : String) (idx : Nat) (N : AM) : Prop := ac_B N ∧ Cond.methodLink own idx N.1 ∈ TT ∧ Cond.instanceMethod N.1 ∈ TT ∧ N.1.name = "<init>" ∧ N.2.2.2.1 = none
def ac_J (own : String) (idx : Nat) (N : AM) : Prop := ac_B N ∧ (∃ host, (own, idx, N.1, host) ∈ am_nest) ∧ Cond.instanceMethod N.1 ∈ TT ∧ N.1.name = "<init>" ∧ N.2.2.2.1 = none
theorem am_cats (G : AG) (st : List AV) : ((st.map (am_v G)).map fun v => v.category).sum = (st.map am_cat).sum := by
  rw [List.map_map]
  congr 1
  apply List.map_congr_left
  intro v _
  exact am_cat_v G v
section AWC
variable {p : Program} {l : Launch} {e : Env} {R : Room} {s : State} {m : MethodId} {args : Array Value} {below : List Frame} {meth : Method} {c : Code} {H : Heap} {locs : List Loc} {cells slots : Nat} {Qw : State → Prop}
theorem am_call {G : AG} {Q' : AQ} {mc ms pc : Nat} {ls : Array Slot} {st0 rest : List Value} {a : Array Value} (hr : va_Run p l e R s m args below meth c H locs cells slots mc ms (F0 m pc ls st0) rest (am_Q G Q' a) (fun q => G.1 ≤ q)) (hS : va_S (fun q => G.1 ≤ q) s.heap H locs)
    (kk : ∀ (r : Option AV) (n' : Nat) (h' : AH) (H1 : Heap) (locs1 : List Loc), Q' r n' h' → am_W G n' h' H1 → va_S (fun q => G.1 ≤ q) s.heap H1 locs1 → W p l e R s m args below meth c H1 locs1 (cells + mc) (slots + ms) Qw (F0 m (pc + 3) ls ((r.map (am_v G)).toList ++ rest))) :
    W p l e R s m args below meth c H locs cells slots Qw (F0 m pc ls st0) := by
  intro T hT X
  obtain ⟨v, st₀, t, T', L, h0, X', hL, e1, e2, ⟨⟨r, n', h', hv, hq, hw⟩, hz, hk⟩, st⟩ := hr T hT X
  cases hv
  rw [h0] at hz hk
  obtain ⟨t2, a1, b1⟩ := kk r n' h' T'.heap (locs ++ L) hq (by rw [e1]; exact hw)
    ⟨Nat.le_trans hS.1 (by rw [e1]; exact hz), fun q h1 h2 => by rw [e1, hk q (Nat.lt_of_lt_of_le h1 hS.1) h2]; exact hS.2.1 q h1 h2, fun q hq => by
      rcases List.mem_append.mp hq with h | h
      · exact hS.2.2 q h
      · exact hL q h⟩ T' rfl X'
  exact ⟨t2, st t2 a1, b1⟩
end AWC
theorem am_toList (G : AG) (r : Option AV) (st : List AV) : (r.map (am_v G)).toList ++ st.map (am_v G) = (r.toList ++ st).map (am_v G) := by
  cases r <;> rfl
theorem am_slen (G : AG) (as : List AV) : (lg_sl (as.map (am_v G))).length = (as.map am_cat).sum := by
  induction as with
  | nil => rfl
  | cons v t ih =>
    have e : lg_sl ((v :: t).map (am_v G)) = (if (am_v G v).category = 2 then [.val (am_v G v), .second] else [.val (am_v G v)]) ++ lg_sl (t.map (am_v G)) := rfl
    rw [e, List.length_append, ih, am_cat_v]
    rcases v with a | a | r
    · rfl
    · rfl
    · rfl
section AWD
variable {M N : AM} {R : Room} {Z : AZ} {cu su n : Nat} {h : AH} {pc : Nat} {L : List (Option AV)} {st : List AV} {d mc ms idx : Nat} {Q' : AQ} {As : List AV} {b ci : Nat} {fs : List AV}
theorem aw_callV (hc : ac_V M.1.cls idx N) (hM : AC N d mc ms n h (aR b :: As) Q') (hb : h b = aO ci fs) (hci : (vwCl[ci]?).map (fun q => q.1) = some N.1.cls) (hn : As.length = N.2.2.2.2) (hf : d + 1 ≤ R.frames) (hlo : 64 * d + 59 ≤ R.locals) (h1 : cu + mc ≤ R.cells) (h2 : su + ms ≤ R.slots) (hw : (st.map am_cat).sum ≤ 8) (hd : decode M.2.1 pc = .ok (.invokevirtual idx, 3))
    (kk : ∀ r n' h', Q' r n' h' → AW M R Z (cu + mc) (su + ms) n' h' (pc + 3) L (r.toList ++ st)) : AW M R Z cu su n h pc L (As.reverse ++ aR b :: st) := by
  intro p l e s m args below meth c G H locs ls C Wd hS hl
  obtain ⟨⟨c1, c2, c3, c4⟩, c5, c6, c7⟩ := hc
  cases hq : vwCl[ci]? with
  | none => rw [hq] at hci; cases hci
  | some q =>
  rw [hq] at hci
  have hqc : q.1 = N.1.cls := Option.some.inj hci
  obtain ⟨k0, rfl, hk0⟩ := Wd.ix hb (am_nd hq fs)
  have hts := C.2.2.2.2.2.2.2.1
  have he : (am_ws G n h)[k0]? = some (G.1 + k0, .inr (ci, fs.map (am_v G))) := by rw [am_get hk0, hb]; rfl
  have hrecv := va_recv C.2.2.2.2.2.2.2.2.1.1 Wd.2.2 hq he
  rw [hqc] at hrecv
  have hpre := am_pre C Wd hS (aR (k0 + 1) :: As)
  have hrun := va_runV (H := H) (locs := locs) (cells := cu) (slots := su) (below := below) (meth := meth) (e := e) (R := R) (g := F0 m pc ls ((As.reverse ++ aR (k0 + 1) :: st).map (am_v G))) (Ts := TT) (b := G.1 + k0) (As := As.map (am_v G)) (rest := st.map (am_v G)) (n := N.2.2.2.2) (own := M.1.cls) (C := N.1.cls) ⟨C.1, C.2.1, C.2.2.2.1, C.2.2.2.2.1, hts⟩ (hM l G)
    ⟨callB_of N.2.2.2.2 hts (am_good c1) rfl rfl rfl (hts _ c2) (hts _ c5) c3 ⟨hf, by show 8 + (N.2.2.1 + 11) + 64 * d ≤ R.locals; omega⟩, hts _ c6, hts _ c7⟩
    ⟨am_blind G n h _, hrecv, hpre⟩ rfl (by rw [List.length_map]; exact hn) hl.1 (by simp [am_v, am_adr]) (lv_room (by rw [am_cats]; exact hw)) hd ⟨h1, h2⟩
  refine am_call hrun hS (fun r n' h' H1 locs1 hq' hw' hS' => ?_)
  rw [am_toList]
  exact kk r n' h' hq' p l e s m args below meth c G H1 locs1 ls C hw' hS' hl
theorem aw_callS (hc : ac_S M.1.cls idx N) (hM : AC N d mc ms n h As Q') (hn : As.length = N.2.2.2.2) (hf : d + 1 ≤ R.frames) (hlo : 64 * d + 59 ≤ R.locals) (h1 : cu + mc ≤ R.cells) (h2 : su + ms ≤ R.slots) (hw : (st.map am_cat).sum ≤ 8) (hd : decode M.2.1 pc = .ok (.invokestatic idx, 3))
    (kk : ∀ r n' h', Q' r n' h' → AW M R Z (cu + mc) (su + ms) n' h' (pc + 3) L (r.toList ++ st)) : AW M R Z cu su n h pc L (As.reverse ++ st) := by
  intro p l e s m args below meth c G H locs ls C Wd hS hl
  obtain ⟨⟨c1, c2, c3, c4⟩, c5, c6⟩ := hc
  have hts := C.2.2.2.2.2.2.2.1
  have hpre := am_pre C Wd hS As
  have hrun := va_runS (H := H) (locs := locs) (cells := cu) (slots := su) (below := below) (meth := meth) (e := e) (R := R) (g := F0 m pc ls ((As.reverse ++ st).map (am_v G))) (Ts := TT) (As := As.map (am_v G)) (rest := st.map (am_v G)) (n := N.2.2.2.2) (own := M.1.cls) ⟨C.1, C.2.1, C.2.2.2.1, C.2.2.2.2.1, hts⟩ (hM l G)
    ⟨callB_of N.2.2.2.2 hts (am_good c1) rfl rfl rfl (hts _ c2) (hts _ c5) c3 ⟨hf, by show 8 + (N.2.2.1 + 11) + 64 * d ≤ R.locals; omega⟩, hts _ c6⟩
    ⟨am_blind G n h _, hpre⟩ rfl (by rw [List.length_map]; exact hn) hl.1 (by simp) (lv_room (by rw [am_cats]; exact hw)) hd ⟨h1, h2⟩
  refine am_call hrun hS (fun r n' h' H1 locs1 hq' hw' hS' => ?_)
  rw [am_toList]
  exact kk r n' h' hq' p l e s m args below meth c G H1 locs1 ls C hw' hS' hl
theorem aw_callT (hc : ac_T M.1.cls idx N) (hM : AC N d mc ms n h As Q') (hn : As.length = N.2.2.2.2) (hf : d + 1 ≤ R.frames) (hlo : 64 * d + 59 ≤ R.locals) (h1 : cu + mc ≤ R.cells) (h2 : su + ms ≤ R.slots) (hw : (st.map am_cat).sum ≤ 8) (hd : decode M.2.1 pc = .ok (.invokestatic idx, 3))
    (kk : ∀ r n' h', Q' r n' h' → AW M R Z (cu + mc) (su + ms) n' h' (pc + 3) L (r.toList ++ st)) : AW M R Z cu su n h pc L (As.reverse ++ st) := by
  intro p l e s m args below meth c G H locs ls C Wd hS hl
  obtain ⟨⟨c1, c2, c3, c4⟩, ⟨host, c5⟩, c6⟩ := hc
  have hts := C.2.2.2.2.2.2.2.1
  have hpre := am_pre C Wd hS As
  have hrun := va_runSN (H := H) (locs := locs) (cells := cu) (slots := su) (below := below) (meth := meth) (e := e) (R := R) (g := F0 m pc ls ((As.reverse ++ st).map (am_v G))) (Ts := TT) (As := As.map (am_v G)) (rest := st.map (am_v G)) (n := N.2.2.2.2) (own := M.1.cls) ⟨C.1, C.2.1, C.2.2.2.1, C.2.2.2.2.1, hts⟩ (hM l G)
    ⟨va_cnB N.2.2.2.2 hts (am_good c1) rfl rfl rfl (C.2.2.2.2.2.2.2.2.1.2.1 _ c5) (hts _ c2) c3 ⟨hf, by show 8 + (N.2.2.1 + 11) + 64 * d ≤ R.locals; omega⟩, hts _ c6, trivial⟩
    ⟨am_blind G n h _, hpre⟩ rfl (by rw [List.length_map]; exact hn) hl.1 (by simp) (lv_room (by rw [am_cats]; exact hw)) hd ⟨h1, h2⟩
  refine am_call hrun hS (fun r n' h' H1 locs1 hq' hw' hS' => ?_)
  rw [am_toList]
  exact kk r n' h' hq' p l e s m args below meth c G H1 locs1 ls C hw' hS' hl
theorem aw_callI (hc : ac_I M.1.cls idx N) (hM : AC N d mc ms n h (aR b :: As) Q') (hb : h b = aO ci fs) (hci : (vwCl[ci]?).isSome = true) (hn : As.length = N.2.2.2.2) (hf : d + 1 ≤ R.frames) (hlo : 64 * d + 59 ≤ R.locals) (h1 : cu + mc ≤ R.cells) (h2 : su + ms ≤ R.slots) (hw : (st.map am_cat).sum ≤ 8) (hd : decode M.2.1 pc = .ok (.invokespecial idx, 3))
    (kk : ∀ r n' h', Q' r n' h' → AW M R Z (cu + mc) (su + ms) n' h' (pc + 3) L (r.toList ++ st)) : AW M R Z cu su n h pc L (As.reverse ++ aR b :: st) := by
  intro p l e s m args below meth c G H locs ls C Wd hS hl
  obtain ⟨⟨c1, c2, c3, c4⟩, c5, c6, c7, c8⟩ := hc
  obtain ⟨q, hq⟩ := Option.isSome_iff_exists.mp hci
  obtain ⟨k0, rfl, hk0⟩ := Wd.ix hb (am_nd hq fs)
  have hts := C.2.2.2.2.2.2.2.1
  have hpre := am_pre C Wd hS (aR (k0 + 1) :: As)
  have hM' := hM l G
  rw [c8] at hM' c1
  have hrun := va_runI (H := H) (locs := locs) (cells := cu) (slots := su) (below := below) (meth := meth) (e := e) (R := R) (g := F0 m pc ls ((As.reverse ++ aR (k0 + 1) :: st).map (am_v G))) (Ts := TT) (b := G.1 + k0) (As := As.map (am_v G)) (rest := st.map (am_v G)) (n := N.2.2.2.2) (own := M.1.cls) ⟨C.1, C.2.1, C.2.2.2.1, C.2.2.2.2.1, hts⟩ hM'
    ⟨callB_of N.2.2.2.2 hts (am_good c1) rfl rfl rfl (hts _ c2) (hts _ c5) c3 ⟨hf, by show 8 + (N.2.2.1 + 11) + 64 * d ≤ R.locals; omega⟩, c7, hts _ c6⟩
    ⟨am_blind G n h _, hpre⟩ rfl (by rw [List.length_map]; exact hn) hl.1 (by simp [am_v, am_adr]) (lv_room (by rw [am_cats]; exact hw)) hd ⟨h1, h2⟩
  refine am_call hrun hS (fun r n' h' H1 locs1 hq' hw' hS' => ?_)
  rw [am_toList]
  exact kk r n' h' hq' p l e s m args below meth c G H1 locs1 ls C hw' hS' hl
theorem aw_callJ (hc : ac_J M.1.cls idx N) (hM : AC N d mc ms n h (aR b :: As) Q') (hb : h b = aO ci fs) (hci : (vwCl[ci]?).isSome = true) (hn : As.length = N.2.2.2.2) (hf : d + 1 ≤ R.frames) (hlo : 64 * d + 59 ≤ R.locals) (h1 : cu + mc ≤ R.cells) (h2 : su + ms ≤ R.slots) (hw : (st.map am_cat).sum ≤ 8) (hd : decode M.2.1 pc = .ok (.invokespecial idx, 3))
    (kk : ∀ r n' h', Q' r n' h' → AW M R Z (cu + mc) (su + ms) n' h' (pc + 3) L (r.toList ++ st)) : AW M R Z cu su n h pc L (As.reverse ++ aR b :: st) := by
  intro p l e s m args below meth c G H locs ls C Wd hS hl
  obtain ⟨⟨c1, c2, c3, c4⟩, ⟨host, c5⟩, c6, c7, c8⟩ := hc
  obtain ⟨q, hq⟩ := Option.isSome_iff_exists.mp hci
  obtain ⟨k0, rfl, hk0⟩ := Wd.ix hb (am_nd hq fs)
  have hts := C.2.2.2.2.2.2.2.1
  have hpre := am_pre C Wd hS (aR (k0 + 1) :: As)
  have hM' := hM l G
  rw [c8] at hM' c1
  have hrun := va_runIN (H := H) (locs := locs) (cells := cu) (slots := su) (below := below) (meth := meth) (e := e) (R := R) (g := F0 m pc ls ((As.reverse ++ aR (k0 + 1) :: st).map (am_v G))) (Ts := TT) (b := G.1 + k0) (As := As.map (am_v G)) (rest := st.map (am_v G)) (n := N.2.2.2.2) (own := M.1.cls) ⟨C.1, C.2.1, C.2.2.2.1, C.2.2.2.2.1, hts⟩ hM'
    ⟨va_cnB N.2.2.2.2 hts (am_good c1) rfl rfl rfl (C.2.2.2.2.2.2.2.2.1.2.1 _ c5) (hts _ c2) c3 ⟨hf, by show 8 + (N.2.2.1 + 11) + 64 * d ≤ R.locals; omega⟩, c7, hts _ c6⟩
    ⟨am_blind G n h _, hpre⟩ rfl (by rw [List.length_map]; exact hn) hl.1 (by simp [am_v, am_adr]) (lv_room (by rw [am_cats]; exact hw)) hd ⟨h1, h2⟩
  refine am_call hrun hS (fun r n' h' H1 locs1 hq' hw' hS' => ?_)
  rw [am_toList]
  exact kk r n' h' hq' p l e s m args below meth c G H1 locs1 ls C hw' hS' hl
theorem AC.of {Q : AQ} (hp : plainName M.1.cls = true) (hl : (As.map am_cat).sum ≤ M.2.2.1) (body : AW M (am_R d mc ms) (am_Z Q mc ms) 0 0 n h 0 (am_L0 As M.2.2.1) []) : AC M d mc ms n h As Q := by
  intro l G
  refine Met.ofW (cc := M.2.1) (maxL := M.2.2.1) (ret := M.2.2.2.1) hp rfl ?_
  intro p e s m args below meth c s₁ B hml hv
  obtain ⟨rfl, hW, hK, hX, hb⟩ := hv
  have hts := atoms_spec (ws := Cond.code M.1 M.2.1 M.2.2.1 M.2.2.2.1 :: TT) B.pre
  have hlen : (lg_sl (As.map (am_v G))).length ≤ M.2.2.1 := by rw [am_slen]; exact hl
  have hll := lv_entry (As.map (am_v G)) (n := M.2.2.1) hlen
  rw [lg_entry_eq]
  generalize (lg_sl (As.map (am_v G)) ++ List.replicate (M.2.2.1 - (lg_sl (As.map (am_v G))).length) Slot.unset).toArray = ls at hll ⊢
  have hll2 : am_l G ls M.2.2.1 (am_L0 As M.2.2.1) := by
    refine ⟨hll.1, hll.2.1, fun i v hv => ?_⟩
    have := hll.2.2 _ (lk_L0 G As M.2.2.1 0 i v hv)
    simpa using this
  exact body p l e s m _ below meth c G s.heap [] ls ⟨B.exec, B.bytes, B.returns, hml, findClass_of_methodNamed B.named, B.notSynchronized, (name_of_methodNamed B.named B.method).1, fun w hw => hts w (List.mem_cons_of_mem _ hw), hK, hX, hb, by rw [hW.1]; omega⟩ hW va_S.rf hll2
end AWD
end
section
/-! rows of the abstract machine: what is made, the library's own methods, the script -/
section AWM
variable {M : AM} {R : Room} {Z : AZ} {cu su n : Nat} {h : AH} {pc : Nat} {L : List (Option AV)} {st : List AV} {idx : Nat}
theorem am_Sx {A : Nat → Prop} {H0 H H1 : Heap} {locs : List Loc} (hS : va_S A H0 H locs) (z : H1.size = H.size + 1) (o : ∀ q : Nat, q < H.size → H1[q]? = H[q]?) : va_S A H0 H1 locs := ⟨Nat.le_trans hS.1 (by omega), fun x h1 h2 => (o x (Nat.lt_of_lt_of_le h1 hS.1)).trans (hS.2.1 x h1 h2), hS.2.2⟩
theorem aw_objInit {r : Nat} (h1 : Cond.methodLink M.1.cls idx objectInit ∈ TT) (h2 : Cond.instanceMethod objectInit ∈ TT) (h3 : Cond.code objectInit ⟨#[0xb1]⟩ 1 none ∈ TT) (hw : (st.map am_cat).sum ≤ 8) (hf : 1 ≤ R.frames) (hlo : 20 ≤ R.locals) (hd : decode M.2.1 pc = .ok (.invokespecial idx, 3)) (kk : AW M R Z cu su n h (pc + 3) L st) : AW M R Z cu su n h pc L (aR r :: st) := by
  intro p l e s m args below meth c G H locs ls C Wd hS hl
  have hts := C.2.2.2.2.2.2.2.1
  refine W.objInit C.1 C.2.1 C.2.2.2.2.1 (hts _ h1) (hts _ h2) (hts _ h3) rfl (by rw [C.2.2.2.1]; exact hl.1) rfl hd hf ?_ (kk p l e s m args below meth c G H locs ls C Wd hS hl)
  show 2 * 0 + ((st.map (am_v G)).map fun v => v.category).sum + 12 ≤ R.locals
  rw [am_cats]
  omega
def an_N (own : String) (idx ci N : Nat) (fs : List AV) : Prop := ∃ (q : vw_C) (ty : Nat → FieldType), vwCl[ci]? = some q ∧ q.2.2 = N ∧ Cond.classLink own idx q.1 ∈ TT ∧ Cond.instantiable q.1 N ∈ TT ∧ Cond.initialized q.1 ∈ TT ∧ (∀ w ∈ u_ws q.1 q.2.1 q.2.2, w ∈ TT) ∧ (∀ k, k < q.2.2 → parseFieldDescriptor (q.2.1 k).2.2.1 = some (ty k)) ∧ ∀ (G : AG) (j : Nat), j < q.2.2 → defaultValue (ty j) = vp_V (fs.map (am_v G)) j
theorem aw_new {ci N : Nat} {fs : List AV} (hc : an_N M.1.cls idx ci N fs) (h1 : cu + 1 ≤ R.cells) (h2 : su + N ≤ R.slots) (hd : decode M.2.1 pc = .ok (.new idx, 3)) (kk : AW M R Z (cu + 1) (su + N) (n + 1) (va_up h (n + 1) (aO ci fs)) (pc + 3) L (aR (n + 1) :: st)) : AW M R Z cu su n h pc L st := by
  intro p l e s m args below meth c G H locs ls C Wd hS hl
  obtain ⟨⟨cN, T, N'⟩, ty, c1, rfl, c3, c4, c5, c6, c7, c8⟩ := hc
  have hts := C.2.2.2.2.2.2.2.1
  have hKn := C.2.2.2.2.2.2.2.2.1.1.1 ci _ c1
  refine W.newcK C.1 C.2.1 C.2.2.2.2.1 (hts _ c3) (hts _ c4) (hts _ c5) rfl hd h1 h2 hKn.2.1 Wd.1 fun H1 kC hkC e1 z1 o1 => ?_
  have z : H1.size = H.size + 1 := by rw [z1, Wd.1]
  have o : ∀ q : Nat, q < H.size → H1[q]? = H[q]? := fun q hq => o1 q (by rw [← Wd.1]; exact hq)
  exact kk p l e s m args below meth c G H1 locs ls C (Wd.push z o ⟨_, c1, (u_born ty hts c6 hKn hkC e1 c7).to (c8 G)⟩) (am_Sx hS z o) hl
theorem am_arrT {G : AG} {s : State} (hK : am_K G s) {t : Nat} {ty : FieldType} (ht : (am_tys G)[t]? = some (G.2.2.2.2.1 t, ty)) {cA : ClassId} (h : s.vm.findClass ("[" ++ ty.toString) = some cA) (hno : ∀ C, ty ≠ .object C) : cA = G.2.2.2.2.1 t := by
  have h2 := (hK.1.2 t _ ht).2
  cases ty with
  | object C => exact absurd rfl (hno C)
  | _ => exact Option.some.inj (h.symm.trans h2)
theorem aw_newI {a : Int} (hw : Cond.arrayClass .int ∈ TT) (ha : 0 ≤ a ∧ a ≤ 1000) (h1 : cu + 1 ≤ R.cells) (h2 : su + a.toNat ≤ R.slots) (hd : decode M.2.1 pc = .ok (.newarray .int, 2)) (kk : AW M R Z (cu + 1) (su + a.toNat) (n + 1) (va_up h (n + 1) (aA 0 a.toNat (fun _ => 0))) (pc + 2) L (aR (n + 1) :: st)) : AW M R Z cu su n h pc L (aI a :: st) := by
  intro p l e s m args below meth c G H locs ls C Wd hS hl
  have hts := C.2.2.2.2.2.2.2.1
  have hb : a.toNat * componentBytes .int ≤ 536870912 := by simp [componentBytes]; omega
  refine va_newaK (atype := .int) C.1 C.2.1 (hts _ hw) rfl hd rfl (fun q => ?_) (iI_clamp (by omega)) hb h1 h2 Wd.1 fun H1 cA e1 z1 o1 hAr hNm => ?_
  · have := (iI_lt (by omega) (by omega)).mp (show iI a < iI 0 from q)
    omega
  · have hcA : cA = G.2.2.2.2.1 0 := am_arrT C.2.2.2.2.2.2.2.2.1 (t := 0) rfl hNm (fun C h => by cases h)
    subst hcA
    have z : H1.size = H.size + 1 := by rw [z1, Wd.1]
    have o : ∀ q : Nat, q < H.size → H1[q]? = H[q]? := fun q hq => o1 q (by rw [← Wd.1]; exact hq)
    refine kk p l e s m args below meth c G H1 locs ls C (Wd.push z o ?_) (am_Sx hS z o) hl
    rw [am_ea (by decide)]
    exact e1
theorem aw_newZ {a : Int} (hw : Cond.arrayClass .boolean ∈ TT) (ha : 0 ≤ a ∧ a ≤ 1000) (h1 : cu + 1 ≤ R.cells) (h2 : su + a.toNat ≤ R.slots) (hd : decode M.2.1 pc = .ok (.newarray .boolean, 2)) (kk : AW M R Z (cu + 1) (su + a.toNat) (n + 1) (va_up h (n + 1) (aA 1 a.toNat (fun _ => 0))) (pc + 2) L (aR (n + 1) :: st)) : AW M R Z cu su n h pc L (aI a :: st) := by
  intro p l e s m args below meth c G H locs ls C Wd hS hl
  have hts := C.2.2.2.2.2.2.2.1
  have hb : a.toNat * componentBytes .boolean ≤ 536870912 := by simp [componentBytes]; omega
  refine va_newaK (atype := .boolean) C.1 C.2.1 (hts _ hw) rfl hd rfl (fun q => ?_) (iI_clamp (by omega)) hb h1 h2 Wd.1 fun H1 cA e1 z1 o1 hAr hNm => ?_
  · have := (iI_lt (by omega) (by omega)).mp (show iI a < iI 0 from q)
    omega
  · have hcA : cA = G.2.2.2.2.1 1 := am_arrT C.2.2.2.2.2.2.2.2.1 (t := 1) rfl hNm (fun C h => by cases h)
    subst hcA
    have z : H1.size = H.size + 1 := by rw [z1, Wd.1]
    have o : ∀ q : Nat, q < H.size → H1[q]? = H[q]? := fun q hq => o1 q (by rw [← Wd.1]; exact hq)
    refine kk p l e s m args below meth c G H1 locs ls C (Wd.push z o ?_) (am_Sx hS z o) hl
    rw [am_ea (by decide)]
    exact e1
theorem aw_newC {a : Int} (hw : Cond.arrayClass .char ∈ TT) (ha : 0 ≤ a ∧ a ≤ 1000) (h1 : cu + 1 ≤ R.cells) (h2 : su + a.toNat ≤ R.slots) (hd : decode M.2.1 pc = .ok (.newarray .char, 2)) (kk : AW M R Z (cu + 1) (su + a.toNat) (n + 1) (va_up h (n + 1) (aA 2 a.toNat (fun _ => 0))) (pc + 2) L (aR (n + 1) :: st)) : AW M R Z cu su n h pc L (aI a :: st) := by
  intro p l e s m args below meth c G H locs ls C Wd hS hl
  have hts := C.2.2.2.2.2.2.2.1
  have hb : a.toNat * componentBytes .char ≤ 536870912 := by simp [componentBytes]; omega
  refine va_newaK (atype := .char) C.1 C.2.1 (hts _ hw) rfl hd rfl (fun q => ?_) (iI_clamp (by omega)) hb h1 h2 Wd.1 fun H1 cA e1 z1 o1 hAr hNm => ?_
  · have := (iI_lt (by omega) (by omega)).mp (show iI a < iI 0 from q)
    omega
  · have hcA : cA = G.2.2.2.2.1 2 := am_arrT C.2.2.2.2.2.2.2.2.1 (t := 2) rfl hNm (fun C h => by cases h)
    subst hcA
    have z : H1.size = H.size + 1 := by rw [z1, Wd.1]
    have o : ∀ q : Nat, q < H.size → H1[q]? = H[q]? := fun q hq => o1 q (by rw [← Wd.1]; exact hq)
    refine kk p l e s m args below meth c G H1 locs ls C (Wd.push z o ?_) (am_Sx hS z o) hl
    rw [am_ea (by decide)]
    exact e1
theorem aw_newJ {a : Int} (hw : Cond.arrayClass .long ∈ TT) (ha : 0 ≤ a ∧ a ≤ 1000) (h1 : cu + 1 ≤ R.cells) (h2 : su + a.toNat ≤ R.slots) (hd : decode M.2.1 pc = .ok (.newarray .long, 2)) (kk : AW M R Z (cu + 1) (su + a.toNat) (n + 1) (va_up h (n + 1) (aA 3 a.toNat (fun _ => 0))) (pc + 2) L (aR (n + 1) :: st)) : AW M R Z cu su n h pc L (aI a :: st) := by
  intro p l e s m args below meth c G H locs ls C Wd hS hl
  have hts := C.2.2.2.2.2.2.2.1
  have hb : a.toNat * componentBytes .long ≤ 536870912 := by simp [componentBytes]; omega
  refine va_newaK (atype := .long) C.1 C.2.1 (hts _ hw) rfl hd rfl (fun q => ?_) (iI_clamp (by omega)) hb h1 h2 Wd.1 fun H1 cA e1 z1 o1 hAr hNm => ?_
  · have := (iI_lt (by omega) (by omega)).mp (show iI a < iI 0 from q)
    omega
  · have hcA : cA = G.2.2.2.2.1 3 := am_arrT C.2.2.2.2.2.2.2.2.1 (t := 3) rfl hNm (fun C h => by cases h)
    subst hcA
    have z : H1.size = H.size + 1 := by rw [z1, Wd.1]
    have o : ∀ q : Nat, q < H.size → H1[q]? = H[q]? := fun q hq => o1 q (by rw [← Wd.1]; exact hq)
    refine kk p l e s m args below meth c G H1 locs ls C (Wd.push z o ?_) (am_Sx hS z o) hl
    rw [am_el]
    exact e1
theorem aw_newR {a : Int} (hw : Cond.classLink M.1.cls idx RX2 ∈ TT) (ha : 0 ≤ a ∧ a ≤ 1000) (h1 : cu + 1 ≤ R.cells) (h2 : su + a.toNat ≤ R.slots) (hd : decode M.2.1 pc = .ok (.anewarray idx, 3)) (kk : AW M R Z (cu + 1) (su + a.toNat) (n + 1) (va_up h (n + 1) (aQ 4 a.toNat (fun _ => none))) (pc + 3) L (aR (n + 1) :: st)) : AW M R Z cu su n h pc L (aI a :: st) := by
  intro p l e s m args below meth c G H locs ls C Wd hS hl
  have hts := C.2.2.2.2.2.2.2.1
  have hK := C.2.2.2.2.2.2.2.2.1
  refine W.anew C.1 C.2.1 C.2.2.2.2.1 (hts _ hw) (va_AO.use hK.2.2.1) rfl hd rfl (fun q => ?_) (by rw [iI_clamp (by omega)]; omega) h1 (by rw [iI_clamp (by omega)]; exact h2) fun cA kA comp f1 f2 f3 f4 => ?_
  · have := (iI_lt (by omega) (by omega)).mp (show iI a < iI 0 from q)
    omega
  · have hcA : cA = G.2.2.2.2.1 4 := by
      obtain ⟨_, _, _, _, _, k4⟩ := (hK.1.2 4 (G.2.2.2.2.1 4, .object RX2) rfl).2
      exact Option.some.inj (f1.symm.trans k4)
    subst hcA
    rw [iI_clamp (by omega)]
    generalize hH1 : H.push ({ cls := G.2.2.2.2.1 4, slots := Array.replicate a.toNat .null, vm := .none } : Cell) = H1
    have z1 : H1.size = H.size + 1 := by rw [← hH1, Array.size_push]
    have e1 : H1[H.size]? = some (arrV (G.2.2.2.2.1 4) a.toNat (fun _ => .null)) := by rw [← hH1, Array.getElem?_push_size, ← arrV_new]
    have o1 : ∀ q : Nat, q < H.size → H1[q]? = H[q]? := fun q hq => by rw [← hH1, Array.getElem?_push, if_neg (Nat.ne_of_lt hq)]
    have := kk p l e s m args below meth c G H1 locs ls C (Wd.push z1 o1 (by rw [Wd.1] at e1; exact e1)) (am_Sx hS z1 o1) hl
    rw [Wd.1]
    exact this
theorem aw_sld {i : Int} {len : Nat} {f : Nat → Int} (hh : h 0 = aA 6 len f) (hi : 0 ≤ i ∧ i < len) (hz : len < 2147483648) (hd : decode M.2.1 pc = .ok (.iaload, 1)) (kk : AW M R Z cu su n h (pc + 1) L (aI (f i.toNat) :: st)) : AW M R Z cu su n h pc L (aI i :: aR 0 :: st) := by
  intro p l e s m args below meth c G H locs ls C Wd hS hl
  have k := kk p l e s m args below meth c G H locs ls C Wd hS hl
  have e0 := hh.symm.trans Wd.2.1.1
  obtain ⟨-, -, -, -, -, -, -, -, -, hX, hb, hbs⟩ := id C
  injection e0 with e0
  injection e0 with _ e0
  injection e0 with e1 e0
  injection e0 with e2
  have hb1 : G.2.1 < s.heap.size := by omega
  have hb2 : ¬ G.1 ≤ G.2.1 := by omega
  refine va_sld (b := G.2.1) C.1 C.2.1 hX hb1 hb2 hS (by rw [← e1]; exact iI_in hi.1 hi.2 hz) hd ?_
  rw [iI_clamp (by omega)]
  rw [e2] at k
  exact k
theorem aw_slen {len : Nat} {f : Nat → Int} (hh : h 0 = aA 6 len f) (hz : len < 2147483648) (hd : decode M.2.1 pc = .ok (.arraylength, 1)) (kk : AW M R Z cu su n h (pc + 1) L (aI (len : Int) :: st)) : AW M R Z cu su n h pc L (aR 0 :: st) := by
  intro p l e s m args below meth c G H locs ls C Wd hS hl
  have k := kk p l e s m args below meth c G H locs ls C Wd hS hl
  have e0 := hh.symm.trans Wd.2.1.1
  obtain ⟨-, -, -, -, -, -, -, -, -, hX, hb, hbs⟩ := id C
  injection e0 with e0
  injection e0 with _ e0
  injection e0 with e1 e0
  have hb1 : G.2.1 < s.heap.size := by omega
  have hb2 : ¬ G.1 ≤ G.2.1 := by omega
  refine va_slen (b := G.2.1) C.1 C.2.1 hX hb1 hb2 hS hd ?_
  rw [← e1]
  exact k
theorem aw_mmax {a b : Int} (h1 : Cond.methodLink M.1.cls idx Lib.Math.max.name ∈ TT) (h2 : Cond.static Lib.Math.max.name ∈ TT) (h3 : Cond.initialized "java/lang/Math" ∈ TT) (h4 : Cond.code Lib.Math.max.name Lib.Math.max.code 2 (some .int) ∈ TT) (ha : -2147483648 ≤ a ∧ a ≤ 2147483647) (hb : -2147483648 ≤ b ∧ b ≤ 2147483647) (hw : (st.map am_cat).sum ≤ 8) (hf : 1 ≤ R.frames) (hlo : 30 ≤ R.locals) (hc : cu ≤ R.cells) (hs : su ≤ R.slots) (hd : decode M.2.1 pc = .ok (.invokestatic idx, 3)) (kk : AW M R Z cu su n h (pc + 3) L (aI (if a < b then b else a) :: st)) : AW M R Z cu su n h pc L (aI b :: aI a :: st) := by
  intro p l e s m args below meth c G H locs ls C Wd hS hl
  have k := kk p l e s m args below meth c G H locs ls C Wd hS hl
  have hts := C.2.2.2.2.2.2.2.1
  refine va_mmax C.1 C.2.1 (by rw [C.2.2.2.1]; exact hl.1.symm) C.2.2.2.2.1 (hts _ h1) (hts _ h2) (hts _ h3) (hts _ h4) hf (by rw [am_cats]; omega) hc hs hd ?_
  by_cases q : a < b
  · rw [if_pos ((iI_lt ha hb).mpr q)]
    rw [if_pos q] at k
    exact k
  · rw [if_neg (fun z => q ((iI_lt ha hb).mp z))]
    rw [if_neg q] at k
    exact k
theorem aw_mmin {a b : Int} (h1 : Cond.methodLink M.1.cls idx Lib.Math.min.name ∈ TT) (h2 : Cond.static Lib.Math.min.name ∈ TT) (h3 : Cond.initialized "java/lang/Math" ∈ TT) (h4 : Cond.code Lib.Math.min.name Lib.Math.min.code 2 (some .int) ∈ TT) (ha : -2147483648 ≤ a ∧ a ≤ 2147483647) (hb : -2147483648 ≤ b ∧ b ≤ 2147483647) (hw : (st.map am_cat).sum ≤ 8) (hf : 1 ≤ R.frames) (hlo : 30 ≤ R.locals) (hc : cu ≤ R.cells) (hs : su ≤ R.slots) (hd : decode M.2.1 pc = .ok (.invokestatic idx, 3)) (kk : AW M R Z cu su n h (pc + 3) L (aI (if a ≤ b then a else b) :: st)) : AW M R Z cu su n h pc L (aI b :: aI a :: st) := by
  intro p l e s m args below meth c G H locs ls C Wd hS hl
  have k := kk p l e s m args below meth c G H locs ls C Wd hS hl
  have hts := C.2.2.2.2.2.2.2.1
  refine va_mmin C.1 C.2.1 (by rw [C.2.2.2.1]; exact hl.1.symm) C.2.2.2.2.1 (hts _ h1) (hts _ h2) (hts _ h3) (hts _ h4) hf (by rw [am_cats]; omega) hc hs hd ?_
  by_cases q : a ≤ b
  · first | rw [if_pos ((iI_le ha hb).mpr q)] | rw [if_neg (fun z => absurd ((iI_lt hb ha).mp z) (by omega))]
    rw [if_pos q] at k
    exact k
  · first | rw [if_neg (fun z => q ((iI_le ha hb).mp z))] | rw [if_pos ((iI_lt hb ha).mpr (by omega))]
    rw [if_neg q] at k
    exact k
theorem aw_mmaxL {a b : Int} (h1 : Cond.methodLink M.1.cls idx Lib.MathLoose.max_long.x ∈ TT) (h2 : Cond.static Lib.MathLoose.max_long.x ∈ TT) (h3 : Cond.initialized "java/lang/Math" ∈ TT) (h4 : Cond.code Lib.MathLoose.max_long.x Lib.MathLoose.max_long.code 4 (some .long) ∈ TT) (ha : -9223372036854775808 ≤ a ∧ a ≤ 9223372036854775807) (hb : -9223372036854775808 ≤ b ∧ b ≤ 9223372036854775807) (hw : (st.map am_cat).sum ≤ 8) (hf : 1 ≤ R.frames) (hlo : 30 ≤ R.locals) (hc : cu ≤ R.cells) (hs : su ≤ R.slots) (hd : decode M.2.1 pc = .ok (.invokestatic idx, 3)) (kk : AW M R Z cu su n h (pc + 3) L (aL (if b < a then a else b) :: st)) : AW M R Z cu su n h pc L (aL b :: aL a :: st) := by
  intro p l e s m args below meth c G H locs ls C Wd hS hl
  have k := kk p l e s m args below meth c G H locs ls C Wd hS hl
  have hts := C.2.2.2.2.2.2.2.1
  refine va_mmax_long C.1 C.2.1 (by rw [C.2.2.2.1]; exact hl.1.symm) C.2.2.2.2.1 (hts _ h1) (hts _ h2) (hts _ h3) (hts _ h4) hf (by rw [am_cats]; omega) hc hs hd ?_
  by_cases q : b < a
  · rw [if_pos ((lL_lt hb ha).mpr q)]
    rw [if_pos q] at k
    exact k
  · rw [if_neg (fun z => q ((lL_lt hb ha).mp z))]
    rw [if_neg q] at k
    exact k
theorem aw_copyi {r0 r1 n0 n1 : Nat} {f g : Nat → Int} {k : Int} (h1 : Cond.methodLink M.1.cls idx arraycopyName ∈ TT) (h2 : Cond.native arraycopyName ∈ TT) (h3 : Cond.static arraycopyName ∈ TT) (h4 : Cond.initialized "java/lang/System" ∈ TT) (hh0 : h r0 = aA 0 n0 f) (hh1 : h r1 = aA 0 n1 g) (hk : 0 ≤ k ∧ k ≤ n0 ∧ k ≤ n1 ∧ k ≤ 1000) (hw : (st.map am_cat).sum ≤ 8) (hf : 1 ≤ R.frames) (hlo : 64 ≤ R.locals) (hd : decode M.2.1 pc = .ok (.invokestatic idx, 3)) (kk : AW M R Z cu su n (va_up h r1 (aA 0 n1 (fun i => if i < k.toNat then f i else g i))) (pc + 3) L st) : AW M R Z cu su n h pc L (aI k :: aI 0 :: aR r1 :: aI 0 :: aR r0 :: st) := by
  intro p l e s m args below meth c G H locs ls C Wd hS hl
  have hts := C.2.2.2.2.2.2.2.1
  have hK := C.2.2.2.2.2.2.2.2.1
  obtain ⟨k0, rfl, hk0⟩ := Wd.ix hh0 (am_nda (by decide) _ _)
  obtain ⟨k1, rfl, hk1⟩ := Wd.ix hh1 (am_nda (by decide) _ _)
  have he0 : (am_ws G n h)[k0]? = some (G.1 + k0, am_e G (aA 0 n0 f)) := by rw [am_get hk0, hh0]
  have he1 : (am_ws G n h)[k1]? = some (G.1 + k1, am_e G (aA 0 n1 g)) := by rw [am_get hk1, hh1]
  have hc0 : H[G.1 + k0]? = some (vp_cell (G.2.2.2.2.1 0) (n0, .inl (fun i => iI (f i)))) := Wd.2.2 k0 _ he0
  have hc1 : H[G.1 + k1]? = some (vp_cell (G.2.2.2.2.1 0) (n1, .inl (fun i => iI (g i)))) := Wd.2.2 k1 _ he1
  obtain ⟨-, q0, hq0, cm0, hkk0⟩ := (hK.1.2 0 (G.2.2.2.2.1 0, .int) rfl).1 n0 (fun j => .int (iI (f j)))
  have z0 : ((0 : Int32)).toInt = 0 := rfl
  have zk : (iI k).toInt = k := iI_of (by omega)
  have c0 : (iI 0).toNatClampNeg = 0 := rfl
  have ck : (iI k).toNatClampNeg = k.toNat := iI_clamp (by omega)
  have hnf : nativeFrameWords "java/lang/System" "arraycopy" 5 ≤ 40 := by decide
  intro T hT X
  obtain ⟨vm', X', step⟩ := X.arraycopy C.1 C.2.2.2.2.1 (hts _ h1) (hts _ h2) (hts _ h3) (hts _ h4) (src := G.1 + k0) (dst := G.1 + k1) (cs := vp_cell (G.2.2.2.2.1 0) (n0, .inl (fun i => iI (f i)))) (cd := vp_cell (G.2.2.2.2.1 0) (n1, .inl (fun i => iI (g i)))) (srcPos := iI 0) (destPos := iI 0) (n := iI k) (by rw [hT]; exact hc0) (by rw [hT]; exact hc1)
    (fun _ h => by cases h) (fun _ h => by cases h) (fun h => by cases h) (fun h => by cases h) hq0 hq0 hkk0 hkk0 (by simp [refKind]) (by decide) (by decide) (fun q => by have := (iI_lt (by omega) (by omega)).mp (show iI k < iI 0 from q); omega)
    (by rw [zk]; show ¬ _ > ((arrV (G.2.2.2.2.1 0) n0 (fun j => .int (iI (f j)))).slots.size : Int); rw [arrV_size]; show ¬ (0 : Int) + k > (n0 : Int); omega)
    (by rw [zk]; show ¬ _ > ((arrV (G.2.2.2.2.1 0) n1 (fun j => .int (iI (g j)))).slots.size : Int); rw [arrV_size]; show ¬ (0 : Int) + k > (n1 : Int); omega)
    (fun vm₁ _ i hi => by
      have e : (vp_cell (G.2.2.2.2.1 0) (n0, .inl (fun i => iI (f i)))).slots.getD ((iI 0).toNatClampNeg + i) .null = .int (iI (f i)) := by
        show (arrV (G.2.2.2.2.1 0) n0 (fun j => .int (iI (f j)))).slots.getD _ _ = _
        rw [c0, Nat.zero_add, Array.getD_eq_getD_getElem?, arrV_read _ _ (by omega)]
        rfl
      refine ⟨?_, ?_⟩
      · rw [e]
        rfl
      · rw [e]
        exact trivial)
    (g := F0 m pc ls (.int (iI k) :: .int (iI 0) :: .ref (G.1 + k1) :: .int (iI 0) :: .ref (G.1 + k0) :: st.map (am_v G))) rfl (by rw [C.2.2.2.1]; exact hl.1) (rest := st.map (am_v G)) rfl (by rw [C.2.1]; exact hd) hf (by show 2 * 0 + _ + _ ≤ _; rw [am_cats]; exact Nat.le_trans (Nat.add_le_add (Nat.add_le_add (Nat.le_refl _) hw) (Nat.add_le_add_right hnf 11)) (by omega))
  have e1 : copied (vp_cell (G.2.2.2.2.1 0) (n0, .inl (fun i => iI (f i)))) (vp_cell (G.2.2.2.2.1 0) (n1, .inl (fun i => iI (g i)))) (iI 0) (iI 0) (iI k) = vp_cell (G.2.2.2.2.1 0) (n1, .inl (fun i => iI (if i < k.toNat then f i else g i))) := by
    refine (va_copied (fun z => .int z) (G.2.2.2.2.1 0) (G.2.2.2.2.1 0) (fun i => iI (f i)) (fun i => iI (g i)) (by rw [c0, ck]; omega)).trans ?_
    rw [c0, ck]
    rw [vp_cell_i]
    refine congrArg (arrV _ n1) ?_
    funext j
    by_cases q : j < k.toNat
    · simp [va_cpy, q]
    · simp [va_cpy, q]
  rw [e1] at X' step
  have hlt : G.1 + k1 < H.size := by rw [Wd.1]; omega
  generalize hcell : vp_cell (G.2.2.2.2.1 0) (n1, .inl (fun i => iI (if i < k.toNat then f i else g i))) = cell at X' step
  have hheap : ((T.setVm vm').setCell (G.1 + k1) cell).heap = H.setIfInBounds (G.1 + k1) cell := by rw [← hT]; rfl
  have oq : ∀ q : Nat, q ≠ G.1 + k1 → (H.setIfInBounds (G.1 + k1) cell)[q]? = H[q]? := fun q hq => by simp [Array.getElem?_setIfInBounds, Ne.symm hq]
  have hP' := Wd.2.2.set am_Dj he1 (e := am_e G (aA 0 n1 (fun i => if i < k.toNat then f i else g i))) (show (H.setIfInBounds (G.1 + k1) cell)[G.1 + k1]? = some _ by rw [← hcell]; simp [Array.getElem?_setIfInBounds, hlt]) oq
  obtain ⟨t, a1, b1⟩ := kk p l e s m args below meth c G _ _ ls C (Wd.put hk1 (by simp) hP') ⟨by simp; exact hS.1, fun q g1 g2 => by
      rw [oq q (fun e => g2 (by rw [e]; omega))]
      exact hS.2.1 q g1 g2, fun q hq => by
      rcases List.mem_append.mp hq with h | h
      · exact hS.2.2 q h
      · obtain ⟨z, -, hz⟩ := List.mem_map.mp h
        rw [← hz]
        show G.1 ≤ G.1 + k1
        omega⟩ hl _ hheap X'
  exact ⟨t, step t a1, b1⟩
end AWM
end
section
/-! words of the tables: by their places -/
theorem tl_X0 : ∀ w ∈ u_ws RX0 TX0 5, w ∈ TT := tt_sub _ [134, 136, 138, 140, 142] (by decide +kernel) (by decide +kernel)
theorem tl_X1 : ∀ w ∈ u_ws RX1 TX1 2, w ∈ TT := tt_sub _ [116, 118] (by decide +kernel) (by decide +kernel)
theorem tl_X2 : ∀ w ∈ u_ws RX2 TX2 2, w ∈ TT := tt_sub _ [62, 64] (by decide +kernel) (by decide +kernel)
theorem tl_X3 : ∀ w ∈ u_ws RX3 TX3 9, w ∈ TT := tt_sub _ [85, 87, 89, 91, 93, 95, 97, 99, 101] (by decide +kernel) (by decide +kernel)
theorem tl_X4 : ∀ w ∈ u_ws RX4 TX4 4, w ∈ TT := tt_sub _ [156, 158, 160, 162] (by decide +kernel) (by decide +kernel)
theorem tl_X5 : ∀ w ∈ u_ws RX5 TX5 10, w ∈ TT := tt_sub _ [175, 177, 179, 181, 183, 185, 187, 189, 191, 193] (by decide +kernel) (by decide +kernel)
theorem tl_X6 : ∀ w ∈ u_ws RX6 TX6 25, w ∈ TT := tt_sub _ [592, 594, 596, 598, 600, 602, 604, 606, 608, 610, 612, 614, 616, 618, 620, 622, 624, 626, 628, 630, 632, 634, 636, 638, 640] (by decide +kernel) (by decide +kernel)
theorem ti_X5 : Cond.initialized RX5 ∈ TT := tt_in 36 (by decide +kernel) (by decide +kernel)
theorem ti_X0 : Cond.initialized RX0 ∈ TT := tt_in 40 (by decide +kernel) (by decide +kernel)
theorem ti_X1 : Cond.initialized RX1 ∈ TT := tt_in 39 (by decide +kernel) (by decide +kernel)
theorem ti_X2 : Cond.initialized RX2 ∈ TT := tt_in 37 (by decide +kernel) (by decide +kernel)
theorem ti_X3 : Cond.initialized RX3 ∈ TT := tt_in 38 (by decide +kernel) (by decide +kernel)
theorem ti_X4 : Cond.initialized RX4 ∈ TT := tt_in 41 (by decide +kernel) (by decide +kernel)
theorem ti_L : Cond.initialized RL ∈ TT := tt_in 35 (by decide +kernel) (by decide +kernel)
theorem ti_X6 : Cond.initialized RX6 ∈ TT := tt_in 42 (by decide +kernel) (by decide +kernel)
theorem ti_J6 : Cond.initialized RJ6 ∈ TT := tt_in 45 (by decide +kernel) (by decide +kernel)
theorem ti_J9 : Cond.initialized RJ9 ∈ TT := tt_in 43 (by decide +kernel) (by decide +kernel)
theorem ti_J10 : Cond.initialized RJ10 ∈ TT := tt_in 44 (by decide +kernel) (by decide +kernel)
abbrev mX5_init : AM := (yX5_init, cX5_init, 2, none, 0)
set_option maxRecDepth 20000 in
theorem kb_X5_init : ac_B mX5_init := ⟨tt_in 50 rfl rfl, ti_X5, ⟨by decide, by decide, by decide⟩, by decide⟩
abbrev mX2_init : AM := (yX2_init, cX2_init, 1, none, 0)
set_option maxRecDepth 20000 in
theorem kb_X2_init : ac_B mX2_init := ⟨tt_in 58 rfl rfl, ti_X2, ⟨by decide, by decide, by decide⟩, by decide⟩
abbrev mX3_init : AM := (yX3_init, cX3_init, 1, none, 0)
set_option maxRecDepth 20000 in
theorem kb_X3_init : ac_B mX3_init := ⟨tt_in 72 rfl rfl, ti_X3, ⟨by decide, by decide, by decide⟩, by decide⟩
abbrev mX1_init : AM := (yX1_init, cX1_init, 2, none, 0)
set_option maxRecDepth 20000 in
theorem kb_X1_init : ac_B mX1_init := ⟨tt_in 109 rfl rfl, ti_X1, ⟨by decide, by decide, by decide⟩, by decide⟩
abbrev mX0_init : AM := (yX0_init, cX0_init, 1, none, 0)
set_option maxRecDepth 20000 in
theorem kb_X0_init : ac_B mX0_init := ⟨tt_in 125 rfl rfl, ti_X0, ⟨by decide, by decide, by decide⟩, by decide⟩
abbrev mX4_init : AM := (yX4_init, cX4_init, 1, none, 0)
set_option maxRecDepth 20000 in
theorem kb_X4_init : ac_B mX4_init := ⟨tt_in 150 rfl rfl, ti_X4, ⟨by decide, by decide, by decide⟩, by decide⟩
abbrev mX5_type : AM := (yX5_type, cX5_type, 2, (some .int), 1)
set_option maxRecDepth 20000 in
theorem kb_X5_type : ac_B mX5_type := ⟨tt_in 199 rfl rfl, ti_X5, ⟨by decide, by decide, by decide⟩, by decide⟩
abbrev mX3_append : AM := (yX3_append, cX3_append, 2, (some .boolean), 1)
set_option maxRecDepth 20000 in
theorem kb_X3_append : ac_B mX3_append := ⟨tt_in 203 rfl rfl, ti_X3, ⟨by decide, by decide, by decide⟩, by decide⟩
abbrev mX3_length : AM := (yX3_length, cX3_length, 1, (some .int), 0)
set_option maxRecDepth 20000 in
theorem kb_X3_length : ac_B mX3_length := ⟨tt_in 207 rfl rfl, ti_X3, ⟨by decide, by decide, by decide⟩, by decide⟩
abbrev mX5_clear : AM := (yX5_clear, cX5_clear, 2, (some .int), 0)
set_option maxRecDepth 20000 in
theorem kb_X5_clear : ac_B mX5_clear := ⟨tt_in 211 rfl rfl, ti_X5, ⟨by decide, by decide, by decide⟩, by decide⟩
abbrev mX3_wipe : AM := (yX3_wipe, cX3_wipe, 1, none, 0)
set_option maxRecDepth 20000 in
theorem kb_X3_wipe : ac_B mX3_wipe := ⟨tt_in 215 rfl rfl, ti_X3, ⟨by decide, by decide, by decide⟩, by decide⟩
abbrev mX5_fraction : AM := (yX5_fraction, cX5_fraction, 2, (some .int), 0)
set_option maxRecDepth 20000 in
theorem kb_X5_fraction : ac_B mX5_fraction := ⟨tt_in 219 rfl rfl, ti_X5, ⟨by decide, by decide, by decide⟩, by decide⟩
abbrev mX3_read : AM := (yX3_read, cX3_read, 3, (some .int), 0)
set_option maxRecDepth 20000 in
theorem kb_X3_read : ac_B mX3_read := ⟨tt_in 223 rfl rfl, ti_X3, ⟨by decide, by decide, by decide⟩, by decide⟩
abbrev mX2_wipe : AM := (yX2_wipe, cX2_wipe, 1, none, 0)
set_option maxRecDepth 20000 in
theorem kb_X2_wipe : ac_B mX2_wipe := ⟨tt_in 227 rfl rfl, ti_X2, ⟨by decide, by decide, by decide⟩, by decide⟩
abbrev mX3_readToken : AM := (yX3_readToken, cX3_readToken, 2, none, 0)
set_option maxRecDepth 20000 in
theorem kb_X3_readToken : ac_B mX3_readToken := ⟨tt_in 231 rfl rfl, ti_X3, ⟨by decide, by decide, by decide⟩, by decide⟩
abbrev mX3_isFigure : AM := (yX3_isFigure, cX3_isFigure, 1, (some .boolean), 1)
set_option maxRecDepth 20000 in
theorem kb_X3_isFigure : ac_B mX3_isFigure := ⟨tt_in 234 rfl rfl, ti_X3, ⟨by decide, by decide, by decide⟩, by decide⟩
abbrev mX3_readNumber : AM := (yX3_readNumber, cX3_readNumber, 2, none, 0)
set_option maxRecDepth 20000 in
theorem kb_X3_readNumber : ac_B mX3_readNumber := ⟨tt_in 238 rfl rfl, ti_X3, ⟨by decide, by decide, by decide⟩, by decide⟩
abbrev mX3_kindOf : AM := (yX3_kindOf, cX3_kindOf, 1, (some .int), 1)
set_option maxRecDepth 20000 in
theorem kb_X3_kindOf : ac_B mX3_kindOf := ⟨tt_in 244 rfl rfl, ti_X3, ⟨by decide, by decide, by decide⟩, by decide⟩
abbrev mX3_follow : AM := (yX3_follow, cX3_follow, 2, (some .int), 1)
set_option maxRecDepth 20000 in
theorem kb_X3_follow : ac_B mX3_follow := ⟨tt_in 248 rfl rfl, ti_X3, ⟨by decide, by decide, by decide⟩, by decide⟩
abbrev mX3_takeAbove : AM := (yX3_takeAbove, cX3_takeAbove, 1, (some .int), 0)
set_option maxRecDepth 20000 in
theorem kb_X3_takeAbove : ac_B mX3_takeAbove := ⟨tt_in 252 rfl rfl, ti_X3, ⟨by decide, by decide, by decide⟩, by decide⟩
abbrev mX3_isNumberTo : AM := (yX3_isNumberTo, cX3_isNumberTo, 2, (some .boolean), 1)
set_option maxRecDepth 20000 in
theorem kb_X3_isNumberTo : ac_B mX3_isNumberTo := ⟨tt_in 256 rfl rfl, ti_X3, ⟨by decide, by decide, by decide⟩, by decide⟩
abbrev mX3_takeBelow : AM := (yX3_takeBelow, cX3_takeBelow, 1, (some .int), 0)
set_option maxRecDepth 20000 in
theorem kb_X3_takeBelow : ac_B mX3_takeBelow := ⟨tt_in 260 rfl rfl, ti_X3, ⟨by decide, by decide, by decide⟩, by decide⟩
abbrev mX3_takeTerm : AM := (yX3_takeTerm, cX3_takeTerm, 1, (some .int), 0)
set_option maxRecDepth 20000 in
theorem kb_X3_takeTerm : ac_B mX3_takeTerm := ⟨tt_in 264 rfl rfl, ti_X3, ⟨by decide, by decide, by decide⟩, by decide⟩
abbrev mX2_length : AM := (yX2_length, cX2_length, 1, (some .int), 0)
set_option maxRecDepth 20000 in
theorem kb_X2_length : ac_B mX2_length := ⟨tt_in 268 rfl rfl, ti_X2, ⟨by decide, by decide, by decide⟩, by decide⟩
abbrev mX2_at : AM := (yX2_at, cX2_at, 2, (some .int), 1)
set_option maxRecDepth 20000 in
theorem kb_X2_at : ac_B mX2_at := ⟨tt_in 272 rfl rfl, ti_X2, ⟨by decide, by decide, by decide⟩, by decide⟩
abbrev mX2_reaches : AM := (yX2_reaches, cX2_reaches, 2, (some .boolean), 1)
set_option maxRecDepth 20000 in
theorem kb_X2_reaches : ac_B mX2_reaches := ⟨tt_in 276 rfl rfl, ti_X2, ⟨by decide, by decide, by decide⟩, by decide⟩
abbrev mX2_insert : AM := (yX2_insert, cX2_insert, 5, (some .boolean), 1)
set_option maxRecDepth 20000 in
theorem kb_X2_insert : ac_B mX2_insert := ⟨tt_in 280 rfl rfl, ti_X2, ⟨by decide, by decide, by decide⟩, by decide⟩
abbrev mX3_endSum : AM := (yX3_endSum, cX3_endSum, 1, (some .int), 0)
set_option maxRecDepth 20000 in
theorem kb_X3_endSum : ac_B mX3_endSum := ⟨tt_in 285 rfl rfl, ti_X3, ⟨by decide, by decide, by decide⟩, by decide⟩
abbrev mX2_adds : AM := (yX2_adds, cX2_adds, 8, (some .boolean), 2)
set_option maxRecDepth 20000 in
theorem kb_X2_adds : ac_B mX2_adds := ⟨tt_in 289 rfl rfl, ti_X2, ⟨by decide, by decide, by decide⟩, by decide⟩
abbrev mX5_startAnew : AM := (yX5_startAnew, cX5_startAnew, 2, none, 0)
set_option maxRecDepth 20000 in
theorem kb_X5_startAnew : ac_B mX5_startAnew := ⟨tt_in 293 rfl rfl, ti_X5, ⟨by decide, by decide, by decide⟩, by decide⟩
abbrev mX3_toldP : AM := (yX3_toldP, cX3_toldP, 1, (some .int), 0)
set_option maxRecDepth 20000 in
theorem kb_X3_toldP : ac_B mX3_toldP := ⟨tt_in 297 rfl rfl, ti_X3, ⟨by decide, by decide, by decide⟩, by decide⟩
abbrev mX3_toldQ : AM := (yX3_toldQ, cX3_toldQ, 1, (some .int), 0)
set_option maxRecDepth 20000 in
theorem kb_X3_toldQ : ac_B mX3_toldQ := ⟨tt_in 301 rfl rfl, ti_X3, ⟨by decide, by decide, by decide⟩, by decide⟩
abbrev mX3_toldTerms : AM := (yX3_toldTerms, cX3_toldTerms, 1, (some (.object RX2)), 0)
set_option maxRecDepth 20000 in
theorem kb_X3_toldTerms : ac_B mX3_toldTerms := ⟨tt_in 305 rfl rfl, ti_X3, ⟨by decide, by decide, by decide⟩, by decide⟩
abbrev mX2_copy : AM := (yX2_copy, cX2_copy, 2, none, 1)
set_option maxRecDepth 20000 in
theorem kb_X2_copy : ac_B mX2_copy := ⟨tt_in 309 rfl rfl, ti_X2, ⟨by decide, by decide, by decide⟩, by decide⟩
abbrev mX1_wipe : AM := (yX1_wipe, cX1_wipe, 1, none, 0)
set_option maxRecDepth 20000 in
theorem kb_X1_wipe : ac_B mX1_wipe := ⟨tt_in 316 rfl rfl, ti_X1, ⟨by decide, by decide, by decide⟩, by decide⟩
abbrev mX4_wipe : AM := (yX4_wipe, cX4_wipe, 1, none, 0)
set_option maxRecDepth 20000 in
theorem kb_X4_wipe : ac_B mX4_wipe := ⟨tt_in 320 rfl rfl, ti_X4, ⟨by decide, by decide, by decide⟩, by decide⟩
abbrev mX0_turnTo : AM := (yX0_turnTo, cX0_turnTo, 4, none, 2)
set_option maxRecDepth 20000 in
theorem kb_X0_turnTo : ac_B mX0_turnTo := ⟨tt_in 324 rfl rfl, ti_X0, ⟨by decide, by decide, by decide⟩, by decide⟩
abbrev mX5_makes : AM := (yX5_makes, cX5_makes, 2, (some .int), 1)
set_option maxRecDepth 20000 in
theorem kb_X5_makes : ac_B mX5_makes := ⟨tt_in 328 rfl rfl, ti_X5, ⟨by decide, by decide, by decide⟩, by decide⟩
abbrev mX5_draftBy : AM := (yX5_draftBy, cX5_draftBy, 3, (some .boolean), 1)
set_option maxRecDepth 20000 in
theorem kb_X5_draftBy : ac_B mX5_draftBy := ⟨tt_in 332 rfl rfl, ti_X5, ⟨by decide, by decide, by decide⟩, by decide⟩
abbrev mX5_takeGreedily : AM := (yX5_takeGreedily, cX5_takeGreedily, 13, (some .boolean), 4)
set_option maxRecDepth 20000 in
theorem kb_X5_takeGreedily : ac_B mX5_takeGreedily := ⟨tt_in 335 rfl rfl, ti_X5, ⟨by decide, by decide, by decide⟩, by decide⟩
abbrev mX5_commonDivisor : AM := (yX5_commonDivisor, cX5_commonDivisor, 7, (some .long), 2)
set_option maxRecDepth 20000 in
theorem kb_X5_commonDivisor : ac_B mX5_commonDivisor := ⟨tt_in 344 rfl rfl, ti_X5, ⟨by decide, by decide, by decide⟩, by decide⟩
abbrev mX0_leastLength : AM := (yX0_leastLength, cX0_leastLength, 3, (some .int), 1)
set_option maxRecDepth 20000 in
theorem kb_X0_leastLength : ac_B mX0_leastLength := ⟨tt_in 348 rfl rfl, ti_X0, ⟨by decide, by decide, by decide⟩, by decide⟩
abbrev mX0_howMany : AM := (yX0_howMany, cX0_howMany, 6, (some .int), 2)
set_option maxRecDepth 20000 in
theorem kb_X0_howMany : ac_B mX0_howMany := ⟨tt_in 352 rfl rfl, ti_X0, ⟨by decide, by decide, by decide⟩, by decide⟩
abbrev mX0_seek : AM := (yX0_seek, cX0_seek, 2, (some .int), 1)
set_option maxRecDepth 20000 in
theorem kb_X0_seek : ac_B mX0_seek := ⟨tt_in 356 rfl rfl, ti_X0, ⟨by decide, by decide, by decide⟩, by decide⟩
abbrev mX5_isLength : AM := (yX5_isLength, cX5_isLength, 1, (some .boolean), 1)
set_option maxRecDepth 20000 in
theorem kb_X5_isLength : ac_B mX5_isLength := ⟨tt_in 359 rfl rfl, ti_X5, ⟨by decide, by decide, by decide⟩, by decide⟩
abbrev mX0_extend : AM := (yX0_extend, cX0_extend, 15, none, 5)
set_option maxRecDepth 20000 in
theorem kb_X0_extend : ac_B mX0_extend := ⟨tt_in 363 rfl rfl, ti_X0, ⟨by decide, by decide, by decide⟩, by decide⟩
abbrev mX0_greatest : AM := (yX0_greatest, cX0_greatest, 1, (some .int), 1)
set_option maxRecDepth 20000 in
theorem kb_X0_greatest : ac_B mX0_greatest := ⟨tt_in 366 rfl rfl, ti_X0, ⟨by decide, by decide, by decide⟩, by decide⟩
abbrev mX0_end : AM := (yX0_end, cX0_end, 10, none, 5)
set_option maxRecDepth 20000 in
theorem kb_X0_end : ac_B mX0_end := ⟨tt_in 370 rfl rfl, ti_X0, ⟨by decide, by decide, by decide⟩, by decide⟩
abbrev mX0_copyFirst : AM := (yX0_copyFirst, cX0_copyFirst, 6, (some .boolean), 3)
set_option maxRecDepth 20000 in
theorem kb_X0_copyFirst : ac_B mX0_copyFirst := ⟨tt_in 376 rfl rfl, ti_X0, ⟨by decide, by decide, by decide⟩, by decide⟩
abbrev mX0_pick : AM := (yX0_pick, cX0_pick, 7, (some .int), 3)
set_option maxRecDepth 20000 in
theorem kb_X0_pick : ac_B mX0_pick := ⟨tt_in 380 rfl rfl, ti_X0, ⟨by decide, by decide, by decide⟩, by decide⟩
abbrev mX0_unpack : AM := (yX0_unpack, cX0_unpack, 3, (some .int), 3)
set_option maxRecDepth 20000 in
theorem kb_X0_unpack : ac_B mX0_unpack := ⟨tt_in 384 rfl rfl, ti_X0, ⟨by decide, by decide, by decide⟩, by decide⟩
abbrev mX0_lengthOfLeastBound : AM := (yX0_lengthOfLeastBound, cX0_lengthOfLeastBound, 5, (some .int), 0)
set_option maxRecDepth 20000 in
theorem kb_X0_lengthOfLeastBound : ac_B mX0_lengthOfLeastBound := ⟨tt_in 389 rfl rfl, ti_X0, ⟨by decide, by decide, by decide⟩, by decide⟩
abbrev mX0_leastBound : AM := (yX0_leastBound, cX0_leastBound, 6, (some .int), 1)
set_option maxRecDepth 20000 in
theorem kb_X0_leastBound : ac_B mX0_leastBound := ⟨tt_in 393 rfl rfl, ti_X0, ⟨by decide, by decide, by decide⟩, by decide⟩
abbrev mX5_takeDraft : AM := (yX5_takeDraft, cX5_takeDraft, 1, (some .int), 0)
set_option maxRecDepth 20000 in
theorem kb_X5_takeDraft : ac_B mX5_takeDraft := ⟨tt_in 398 rfl rfl, ti_X5, ⟨by decide, by decide, by decide⟩, by decide⟩
abbrev mX1_store : AM := (yX1_store, cX1_store, 2, none, 1)
set_option maxRecDepth 20000 in
theorem kb_X1_store : ac_B mX1_store := ⟨tt_in 402 rfl rfl, ti_X1, ⟨by decide, by decide, by decide⟩, by decide⟩
abbrev mX1_loseOldest : AM := (yX1_loseOldest, cX1_loseOldest, 3, none, 0)
set_option maxRecDepth 20000 in
theorem kb_X1_loseOldest : ac_B mX1_loseOldest := ⟨tt_in 406 rfl rfl, ti_X1, ⟨by decide, by decide, by decide⟩, by decide⟩
abbrev mX5_splits : AM := (yX5_splits, cX5_splits, 3, (some .int), 2)
set_option maxRecDepth 20000 in
theorem kb_X5_splits : ac_B mX5_splits := ⟨tt_in 412 rfl rfl, ti_X5, ⟨by decide, by decide, by decide⟩, by decide⟩
abbrev mX2_drop : AM := (yX2_drop, cX2_drop, 3, none, 1)
set_option maxRecDepth 20000 in
theorem kb_X2_drop : ac_B mX2_drop := ⟨tt_in 417 rfl rfl, ti_X2, ⟨by decide, by decide, by decide⟩, by decide⟩
abbrev mX5_splitInto : AM := (yX5_splitInto, cX5_splitInto, 4, (some .boolean), 3)
set_option maxRecDepth 20000 in
theorem kb_X5_splitInto : ac_B mX5_splitInto := ⟨tt_in 421 rfl rfl, ti_X5, ⟨by decide, by decide, by decide⟩, by decide⟩
abbrev mX5_joins : AM := (yX5_joins, cX5_joins, 4, (some .int), 2)
set_option maxRecDepth 20000 in
theorem kb_X5_joins : ac_B mX5_joins := ⟨tt_in 428 rfl rfl, ti_X5, ⟨by decide, by decide, by decide⟩, by decide⟩
abbrev mX5_oneForTwo : AM := (yX5_oneForTwo, cX5_oneForTwo, 6, (some .int), 2)
set_option maxRecDepth 20000 in
theorem kb_X5_oneForTwo : ac_B mX5_oneForTwo := ⟨tt_in 431 rfl rfl, ti_X5, ⟨by decide, by decide, by decide⟩, by decide⟩
abbrev mX5_undo : AM := (yX5_undo, cX5_undo, 1, (some .int), 0)
set_option maxRecDepth 20000 in
theorem kb_X5_undo : ac_B mX5_undo := ⟨tt_in 439 rfl rfl, ti_X5, ⟨by decide, by decide, by decide⟩, by decide⟩
abbrev mX1_restore : AM := (yX1_restore, cX1_restore, 2, (some .boolean), 1)
set_option maxRecDepth 20000 in
theorem kb_X1_restore : ac_B mX1_restore := ⟨tt_in 443 rfl rfl, ti_X1, ⟨by decide, by decide, by decide⟩, by decide⟩
abbrev mX1_length : AM := (yX1_length, cX1_length, 1, (some .int), 0)
set_option maxRecDepth 20000 in
theorem kb_X1_length : ac_B mX1_length := ⟨tt_in 447 rfl rfl, ti_X1, ⟨by decide, by decide, by decide⟩, by decide⟩
abbrev mX5_term : AM := (yX5_term, cX5_term, 2, (some .int), 1)
set_option maxRecDepth 20000 in
theorem kb_X5_term : ac_B mX5_term := ⟨tt_in 451 rfl rfl, ti_X5, ⟨by decide, by decide, by decide⟩, by decide⟩
abbrev mX5_greedy : AM := (yX5_greedy, cX5_greedy, 3, (some .int), 2)
set_option maxRecDepth 20000 in
theorem kb_X5_greedy : ac_B mX5_greedy := ⟨tt_in 455 rfl rfl, ti_X5, ⟨by decide, by decide, by decide⟩, by decide⟩
abbrev mX5_sums : AM := (yX5_sums, cX5_sums, 3, (some .int), 2)
set_option maxRecDepth 20000 in
theorem kb_X5_sums : ac_B mX5_sums := ⟨tt_in 459 rfl rfl, ti_X5, ⟨by decide, by decide, by decide⟩, by decide⟩
abbrev mX5_isBound : AM := (yX5_isBound, cX5_isBound, 1, (some .boolean), 1)
set_option maxRecDepth 20000 in
theorem kb_X5_isBound : ac_B mX5_isBound := ⟨tt_in 463 rfl rfl, ti_X5, ⟨by decide, by decide, by decide⟩, by decide⟩
abbrev mX5_sum : AM := (yX5_sum, cX5_sum, 5, (some .int), 4)
set_option maxRecDepth 20000 in
theorem kb_X5_sum : ac_B mX5_sum := ⟨tt_in 468 rfl rfl, ti_X5, ⟨by decide, by decide, by decide⟩, by decide⟩
abbrev mX0_numberOf : AM := (yX0_numberOf, cX0_numberOf, 6, (some .int), 4)
set_option maxRecDepth 20000 in
theorem kb_X0_numberOf : ac_B mX0_numberOf := ⟨tt_in 472 rfl rfl, ti_X0, ⟨by decide, by decide, by decide⟩, by decide⟩
abbrev mX5_fewest : AM := (yX5_fewest, cX5_fewest, 2, (some .int), 1)
set_option maxRecDepth 20000 in
theorem kb_X5_fewest : ac_B mX5_fewest := ⟨tt_in 476 rfl rfl, ti_X5, ⟨by decide, by decide, by decide⟩, by decide⟩
abbrev mX5_bound : AM := (yX5_bound, cX5_bound, 2, (some .int), 1)
set_option maxRecDepth 20000 in
theorem kb_X5_bound : ac_B mX5_bound := ⟨tt_in 480 rfl rfl, ti_X5, ⟨by decide, by decide, by decide⟩, by decide⟩
abbrev mX5_holds : AM := (yX5_holds, cX5_holds, 4, (some .int), 3)
set_option maxRecDepth 20000 in
theorem kb_X5_holds : ac_B mX5_holds := ⟨tt_in 484 rfl rfl, ti_X5, ⟨by decide, by decide, by decide⟩, by decide⟩
abbrev mX5_isNumerator : AM := (yX5_isNumerator, cX5_isNumerator, 1, (some .boolean), 1)
set_option maxRecDepth 20000 in
theorem kb_X5_isNumerator : ac_B mX5_isNumerator := ⟨tt_in 487 rfl rfl, ti_X5, ⟨by decide, by decide, by decide⟩, by decide⟩
abbrev mX5_isSplit : AM := (yX5_isSplit, cX5_isSplit, 3, (some .boolean), 3)
set_option maxRecDepth 20000 in
theorem kb_X5_isSplit : ac_B mX5_isSplit := ⟨tt_in 490 rfl rfl, ti_X5, ⟨by decide, by decide, by decide⟩, by decide⟩
abbrev mX5_divides : AM := (yX5_divides, cX5_divides, 2, (some .boolean), 2)
set_option maxRecDepth 20000 in
theorem kb_X5_divides : ac_B mX5_divides := ⟨tt_in 493 rfl rfl, ti_X5, ⟨by decide, by decide, by decide⟩, by decide⟩
abbrev mX5_covered : AM := (yX5_covered, cX5_covered, 6, (some .int), 3)
set_option maxRecDepth 20000 in
theorem kb_X5_covered : ac_B mX5_covered := ⟨tt_in 497 rfl rfl, ti_X5, ⟨by decide, by decide, by decide⟩, by decide⟩
abbrev mX5_isChoice : AM := (yX5_isChoice, cX5_isChoice, 1, (some .boolean), 1)
set_option maxRecDepth 20000 in
theorem kb_X5_isChoice : ac_B mX5_isChoice := ⟨tt_in 500 rfl rfl, ti_X5, ⟨by decide, by decide, by decide⟩, by decide⟩
abbrev mX5_isCovered : AM := (yX5_isCovered, cX5_isCovered, 7, (some .boolean), 4)
set_option maxRecDepth 20000 in
theorem kb_X5_isCovered : ac_B mX5_isCovered := ⟨tt_in 503 rfl rfl, ti_X5, ⟨by decide, by decide, by decide⟩, by decide⟩
abbrev mX5_splitters : AM := (yX5_splitters, cX5_splitters, 4, (some .int), 2)
set_option maxRecDepth 20000 in
theorem kb_X5_splitters : ac_B mX5_splitters := ⟨tt_in 506 rfl rfl, ti_X5, ⟨by decide, by decide, by decide⟩, by decide⟩
abbrev mX5_open : AM := (yX5_open, cX5_open, 4, (some .int), 2)
set_option maxRecDepth 20000 in
theorem kb_X5_open : ac_B mX5_open := ⟨tt_in 510 rfl rfl, ti_X5, ⟨by decide, by decide, by decide⟩, by decide⟩
abbrev mX5_sees : AM := (yX5_sees, cX5_sees, 4, (some .int), 3)
set_option maxRecDepth 20000 in
theorem kb_X5_sees : ac_B mX5_sees := ⟨tt_in 514 rfl rfl, ti_X5, ⟨by decide, by decide, by decide⟩, by decide⟩
abbrev mX4_add : AM := (yX4_add, cX4_add, 4, (some .boolean), 3)
set_option maxRecDepth 20000 in
theorem kb_X4_add : ac_B mX4_add := ⟨tt_in 518 rfl rfl, ti_X4, ⟨by decide, by decide, by decide⟩, by decide⟩
abbrev mX4_length : AM := (yX4_length, cX4_length, 1, (some .int), 0)
set_option maxRecDepth 20000 in
theorem kb_X4_length : ac_B mX4_length := ⟨tt_in 522 rfl rfl, ti_X4, ⟨by decide, by decide, by decide⟩, by decide⟩
abbrev mX5_forget : AM := (yX5_forget, cX5_forget, 2, (some .int), 0)
set_option maxRecDepth 20000 in
theorem kb_X5_forget : ac_B mX5_forget := ⟨tt_in 526 rfl rfl, ti_X5, ⟨by decide, by decide, by decide⟩, by decide⟩
abbrev mX5_unseen : AM := (yX5_unseen, cX5_unseen, 1, (some .int), 0)
set_option maxRecDepth 20000 in
theorem kb_X5_unseen : ac_B mX5_unseen := ⟨tt_in 530 rfl rfl, ti_X5, ⟨by decide, by decide, by decide⟩, by decide⟩
abbrev mX4_suspects : AM := (yX4_suspects, cX4_suspects, 4, (some .int), 0)
set_option maxRecDepth 20000 in
theorem kb_X4_suspects : ac_B mX4_suspects := ⟨tt_in 534 rfl rfl, ti_X4, ⟨by decide, by decide, by decide⟩, by decide⟩
abbrev mX5_ask : AM := (yX5_ask, cX5_ask, 2, (some .int), 1)
set_option maxRecDepth 20000 in
theorem kb_X5_ask : ac_B mX5_ask := ⟨tt_in 539 rfl rfl, ti_X5, ⟨by decide, by decide, by decide⟩, by decide⟩
abbrev mX5_bestQuestion : AM := (yX5_bestQuestion, cX5_bestQuestion, 8, (some .int), 2)
set_option maxRecDepth 20000 in
theorem kb_X5_bestQuestion : ac_B mX5_bestQuestion := ⟨tt_in 542 rfl rfl, ti_X5, ⟨by decide, by decide, by decide⟩, by decide⟩
abbrev mJ6_bitCount_0f7a4 : AM := (yJ6_bitCount_0f7a4, cJ6_bitCount_0f7a4, 1, (some .int), 1)
set_option maxRecDepth 20000 in
theorem kb_J6_bitCount_0f7a4 : ac_B mJ6_bitCount_0f7a4 := ⟨tt_in 545 rfl rfl, ti_J6, ⟨by decide, by decide, by decide⟩, by decide⟩
abbrev mX5_keep : AM := (yX5_keep, cX5_keep, 2, (some .int), 1)
set_option maxRecDepth 20000 in
theorem kb_X5_keep : ac_B mX5_keep := ⟨tt_in 552 rfl rfl, ti_X5, ⟨by decide, by decide, by decide⟩, by decide⟩
abbrev mX5_back : AM := (yX5_back, cX5_back, 2, (some .int), 1)
set_option maxRecDepth 20000 in
theorem kb_X5_back : ac_B mX5_back := ⟨tt_in 556 rfl rfl, ti_X5, ⟨by decide, by decide, by decide⟩, by decide⟩
abbrev mX5_count : AM := (yX5_count, cX5_count, 2, (some .int), 1)
set_option maxRecDepth 20000 in
theorem kb_X5_count : ac_B mX5_count := ⟨tt_in 560 rfl rfl, ti_X5, ⟨by decide, by decide, by decide⟩, by decide⟩
abbrev mX6_init : AM := (yX6_init, cX6_init, 1, none, 0)
set_option maxRecDepth 20000 in
theorem kb_X6_init : ac_B mX6_init := ⟨tt_in 565 rfl rfl, ti_X6, ⟨by decide, by decide, by decide⟩, by decide⟩
abbrev mX6_type : AM := (yX6_type, cX6_type, 2, (some .int), 1)
set_option maxRecDepth 20000 in
theorem kb_X6_type : ac_B mX6_type := ⟨tt_in 647 rfl rfl, ti_X6, ⟨by decide, by decide, by decide⟩, by decide⟩
abbrev mX6_in : AM := (yX6_in, cX6_in, 6, (some .boolean), 3)
set_option maxRecDepth 20000 in
theorem kb_X6_in : ac_B mX6_in := ⟨tt_in 651 rfl rfl, ti_X6, ⟨by decide, by decide, by decide⟩, by decide⟩
abbrev mX6_clear : AM := (yX6_clear, cX6_clear, 2, (some .int), 0)
set_option maxRecDepth 20000 in
theorem kb_X6_clear : ac_B mX6_clear := ⟨tt_in 655 rfl rfl, ti_X6, ⟨by decide, by decide, by decide⟩, by decide⟩
abbrev mX6_fraction : AM := (yX6_fraction, cX6_fraction, 2, (some .int), 0)
set_option maxRecDepth 20000 in
theorem kb_X6_fraction : ac_B mX6_fraction := ⟨tt_in 659 rfl rfl, ti_X6, ⟨by decide, by decide, by decide⟩, by decide⟩
abbrev mX6_reads : AM := (yX6_reads, cX6_reads, 2, (some .boolean), 0)
set_option maxRecDepth 20000 in
theorem kb_X6_reads : ac_B mX6_reads := ⟨tt_in 663 rfl rfl, ti_X6, ⟨by decide, by decide, by decide⟩, by decide⟩
abbrev mX6_take : AM := (yX6_take, cX6_take, 2, none, 0)
set_option maxRecDepth 20000 in
theorem kb_X6_take : ac_B mX6_take := ⟨tt_in 667 rfl rfl, ti_X6, ⟨by decide, by decide, by decide⟩, by decide⟩
abbrev mX6_isDigit : AM := (yX6_isDigit, cX6_isDigit, 1, (some .boolean), 1)
set_option maxRecDepth 20000 in
theorem kb_X6_isDigit : ac_B mX6_isDigit := ⟨tt_in 670 rfl rfl, ti_X6, ⟨by decide, by decide, by decide⟩, by decide⟩
abbrev mX6_readsFraction : AM := (yX6_readsFraction, cX6_readsFraction, 1, (some .boolean), 0)
set_option maxRecDepth 20000 in
theorem kb_X6_readsFraction : ac_B mX6_readsFraction := ⟨tt_in 676 rfl rfl, ti_X6, ⟨by decide, by decide, by decide⟩, by decide⟩
abbrev mX6_isNumber : AM := (yX6_isNumber, cX6_isNumber, 3, (some .boolean), 2)
set_option maxRecDepth 20000 in
theorem kb_X6_isNumber : ac_B mX6_isNumber := ⟨tt_in 680 rfl rfl, ti_X6, ⟨by decide, by decide, by decide⟩, by decide⟩
abbrev mX6_readsEnd : AM := (yX6_readsEnd, cX6_readsEnd, 2, (some .boolean), 0)
set_option maxRecDepth 20000 in
theorem kb_X6_readsEnd : ac_B mX6_readsEnd := ⟨tt_in 684 rfl rfl, ti_X6, ⟨by decide, by decide, by decide⟩, by decide⟩
abbrev mX6_readsSum : AM := (yX6_readsSum, cX6_readsSum, 1, (some .boolean), 0)
set_option maxRecDepth 20000 in
theorem kb_X6_readsSum : ac_B mX6_readsSum := ⟨tt_in 688 rfl rfl, ti_X6, ⟨by decide, by decide, by decide⟩, by decide⟩
abbrev mX6_isWhole : AM := (yX6_isWhole, cX6_isWhole, 6, (some .boolean), 0)
set_option maxRecDepth 20000 in
theorem kb_X6_isWhole : ac_B mX6_isWhole := ⟨tt_in 692 rfl rfl, ti_X6, ⟨by decide, by decide, by decide⟩, by decide⟩
abbrev mX6_greedy : AM := (yX6_greedy, cX6_greedy, 4, (some .int), 2)
set_option maxRecDepth 20000 in
theorem kb_X6_greedy : ac_B mX6_greedy := ⟨tt_in 696 rfl rfl, ti_X6, ⟨by decide, by decide, by decide⟩, by decide⟩
abbrev mX6_least : AM := (yX6_least, cX6_least, 13, (some .int), 1)
set_option maxRecDepth 20000 in
theorem kb_X6_least : ac_B mX6_least := ⟨tt_in 700 rfl rfl, ti_X6, ⟨by decide, by decide, by decide⟩, by decide⟩
abbrev mX6_common : AM := (yX6_common, cX6_common, 10, (some .long), 2)
set_option maxRecDepth 20000 in
theorem kb_X6_common : ac_B mX6_common := ⟨tt_in 705 rfl rfl, ti_X6, ⟨by decide, by decide, by decide⟩, by decide⟩
abbrev mX6_sums : AM := (yX6_sums, cX6_sums, 3, (some .int), 2)
set_option maxRecDepth 20000 in
theorem kb_X6_sums : ac_B mX6_sums := ⟨tt_in 709 rfl rfl, ti_X6, ⟨by decide, by decide, by decide⟩, by decide⟩
abbrev mX6_goesThrough : AM := (yX6_goesThrough, cX6_goesThrough, 16, (some .int), 3)
set_option maxRecDepth 20000 in
theorem kb_X6_goesThrough : ac_B mX6_goesThrough := ⟨tt_in 715 rfl rfl, ti_X6, ⟨by decide, by decide, by decide⟩, by decide⟩
abbrev mX6_sum : AM := (yX6_sum, cX6_sum, 5, (some .int), 4)
set_option maxRecDepth 20000 in
theorem kb_X6_sum : ac_B mX6_sum := ⟨tt_in 719 rfl rfl, ti_X6, ⟨by decide, by decide, by decide⟩, by decide⟩
abbrev mX6_fewest : AM := (yX6_fewest, cX6_fewest, 2, (some .int), 1)
set_option maxRecDepth 20000 in
theorem kb_X6_fewest : ac_B mX6_fewest := ⟨tt_in 723 rfl rfl, ti_X6, ⟨by decide, by decide, by decide⟩, by decide⟩
abbrev mX6_few : AM := (yX6_few, cX6_few, 3, (some .int), 1)
set_option maxRecDepth 20000 in
theorem kb_X6_few : ac_B mX6_few := ⟨tt_in 727 rfl rfl, ti_X6, ⟨by decide, by decide, by decide⟩, by decide⟩
abbrev mX6_bound : AM := (yX6_bound, cX6_bound, 2, (some .int), 1)
set_option maxRecDepth 20000 in
theorem kb_X6_bound : ac_B mX6_bound := ⟨tt_in 731 rfl rfl, ti_X6, ⟨by decide, by decide, by decide⟩, by decide⟩
abbrev mX6_top : AM := (yX6_top, cX6_top, 2, (some .int), 1)
set_option maxRecDepth 20000 in
theorem kb_X6_top : ac_B mX6_top := ⟨tt_in 735 rfl rfl, ti_X6, ⟨by decide, by decide, by decide⟩, by decide⟩
abbrev mX6_makes : AM := (yX6_makes, cX6_makes, 4, (some .int), 1)
set_option maxRecDepth 20000 in
theorem kb_X6_makes : ac_B mX6_makes := ⟨tt_in 739 rfl rfl, ti_X6, ⟨by decide, by decide, by decide⟩, by decide⟩
abbrev mX6_firstOf : AM := (yX6_firstOf, cX6_firstOf, 4, (some .int), 2)
set_option maxRecDepth 20000 in
theorem kb_X6_firstOf : ac_B mX6_firstOf := ⟨tt_in 744 rfl rfl, ti_X6, ⟨by decide, by decide, by decide⟩, by decide⟩
abbrev mX6_byLeastTop : AM := (yX6_byLeastTop, cX6_byLeastTop, 5, (some .int), 0)
set_option maxRecDepth 20000 in
theorem kb_X6_byLeastTop : ac_B mX6_byLeastTop := ⟨tt_in 748 rfl rfl, ti_X6, ⟨by decide, by decide, by decide⟩, by decide⟩
abbrev mX6_minds : AM := (yX6_minds, cX6_minds, 2, none, 0)
set_option maxRecDepth 20000 in
theorem kb_X6_minds : ac_B mX6_minds := ⟨tt_in 752 rfl rfl, ti_X6, ⟨by decide, by decide, by decide⟩, by decide⟩
abbrev mX6_copy : AM := (yX6_copy, cX6_copy, 4, none, 2)
set_option maxRecDepth 20000 in
theorem kb_X6_copy : ac_B mX6_copy := ⟨tt_in 756 rfl rfl, ti_X6, ⟨by decide, by decide, by decide⟩, by decide⟩
abbrev mX6_splits : AM := (yX6_splits, cX6_splits, 6, (some .int), 2)
set_option maxRecDepth 20000 in
theorem kb_X6_splits : ac_B mX6_splits := ⟨tt_in 760 rfl rfl, ti_X6, ⟨by decide, by decide, by decide⟩, by decide⟩
abbrev mX6_maySplit : AM := (yX6_maySplit, cX6_maySplit, 7, (some .boolean), 2)
set_option maxRecDepth 20000 in
theorem kb_X6_maySplit : ac_B mX6_maySplit := ⟨tt_in 764 rfl rfl, ti_X6, ⟨by decide, by decide, by decide⟩, by decide⟩
abbrev mX6_part : AM := (yX6_part, cX6_part, 4, (some .long), 3)
set_option maxRecDepth 20000 in
theorem kb_X6_part : ac_B mX6_part := ⟨tt_in 767 rfl rfl, ti_X6, ⟨by decide, by decide, by decide⟩, by decide⟩
abbrev mX6_isTerm : AM := (yX6_isTerm, cX6_isTerm, 3, (some .boolean), 1)
set_option maxRecDepth 20000 in
theorem kb_X6_isTerm : ac_B mX6_isTerm := ⟨tt_in 773 rfl rfl, ti_X6, ⟨by decide, by decide, by decide⟩, by decide⟩
abbrev mX6_goes : AM := (yX6_goes, cX6_goes, 3, none, 1)
set_option maxRecDepth 20000 in
theorem kb_X6_goes : ac_B mX6_goes := ⟨tt_in 777 rfl rfl, ti_X6, ⟨by decide, by decide, by decide⟩, by decide⟩
abbrev mX6_comes : AM := (yX6_comes, cX6_comes, 3, none, 1)
set_option maxRecDepth 20000 in
theorem kb_X6_comes : ac_B mX6_comes := ⟨tt_in 781 rfl rfl, ti_X6, ⟨by decide, by decide, by decide⟩, by decide⟩
abbrev mX6_joins : AM := (yX6_joins, cX6_joins, 8, (some .int), 2)
set_option maxRecDepth 20000 in
theorem kb_X6_joins : ac_B mX6_joins := ⟨tt_in 785 rfl rfl, ti_X6, ⟨by decide, by decide, by decide⟩, by decide⟩
abbrev mX6_undo : AM := (yX6_undo, cX6_undo, 1, (some .int), 0)
set_option maxRecDepth 20000 in
theorem kb_X6_undo : ac_B mX6_undo := ⟨tt_in 789 rfl rfl, ti_X6, ⟨by decide, by decide, by decide⟩, by decide⟩
abbrev mX6_term : AM := (yX6_term, cX6_term, 2, (some .int), 1)
set_option maxRecDepth 20000 in
theorem kb_X6_term : ac_B mX6_term := ⟨tt_in 793 rfl rfl, ti_X6, ⟨by decide, by decide, by decide⟩, by decide⟩
abbrev mX6_holds : AM := (yX6_holds, cX6_holds, 4, (some .int), 3)
set_option maxRecDepth 20000 in
theorem kb_X6_holds : ac_B mX6_holds := ⟨tt_in 797 rfl rfl, ti_X6, ⟨by decide, by decide, by decide⟩, by decide⟩
abbrev mX6_held : AM := (yX6_held, cX6_held, 4, (some .int), 2)
set_option maxRecDepth 20000 in
theorem kb_X6_held : ac_B mX6_held := ⟨tt_in 802 rfl rfl, ti_X6, ⟨by decide, by decide, by decide⟩, by decide⟩
abbrev mX6_isHeld : AM := (yX6_isHeld, cX6_isHeld, 3, (some .boolean), 3)
set_option maxRecDepth 20000 in
theorem kb_X6_isHeld : ac_B mX6_isHeld := ⟨tt_in 805 rfl rfl, ti_X6, ⟨by decide, by decide, by decide⟩, by decide⟩
abbrev mX6_covered : AM := (yX6_covered, cX6_covered, 8, (some .int), 3)
set_option maxRecDepth 20000 in
theorem kb_X6_covered : ac_B mX6_covered := ⟨tt_in 809 rfl rfl, ti_X6, ⟨by decide, by decide, by decide⟩, by decide⟩
abbrev mX6_open : AM := (yX6_open, cX6_open, 4, (some .int), 2)
set_option maxRecDepth 20000 in
theorem kb_X6_open : ac_B mX6_open := ⟨tt_in 815 rfl rfl, ti_X6, ⟨by decide, by decide, by decide⟩, by decide⟩
abbrev mX6_sees : AM := (yX6_sees, cX6_sees, 4, (some .int), 3)
set_option maxRecDepth 20000 in
theorem kb_X6_sees : ac_B mX6_sees := ⟨tt_in 819 rfl rfl, ti_X6, ⟨by decide, by decide, by decide⟩, by decide⟩
abbrev mX6_forget : AM := (yX6_forget, cX6_forget, 2, (some .int), 0)
set_option maxRecDepth 20000 in
theorem kb_X6_forget : ac_B mX6_forget := ⟨tt_in 823 rfl rfl, ti_X6, ⟨by decide, by decide, by decide⟩, by decide⟩
abbrev mX6_unseen : AM := (yX6_unseen, cX6_unseen, 4, (some .int), 0)
set_option maxRecDepth 20000 in
theorem kb_X6_unseen : ac_B mX6_unseen := ⟨tt_in 827 rfl rfl, ti_X6, ⟨by decide, by decide, by decide⟩, by decide⟩
abbrev mX6_ask : AM := (yX6_ask, cX6_ask, 9, (some .int), 1)
set_option maxRecDepth 20000 in
theorem kb_X6_ask : ac_B mX6_ask := ⟨tt_in 831 rfl rfl, ti_X6, ⟨by decide, by decide, by decide⟩, by decide⟩
abbrev mX6_ones : AM := (yX6_ones, cX6_ones, 3, (some .int), 1)
set_option maxRecDepth 20000 in
theorem kb_X6_ones : ac_B mX6_ones := ⟨tt_in 835 rfl rfl, ti_X6, ⟨by decide, by decide, by decide⟩, by decide⟩
abbrev mX6_keep : AM := (yX6_keep, cX6_keep, 2, (some .int), 1)
set_option maxRecDepth 20000 in
theorem kb_X6_keep : ac_B mX6_keep := ⟨tt_in 839 rfl rfl, ti_X6, ⟨by decide, by decide, by decide⟩, by decide⟩
abbrev mX6_back : AM := (yX6_back, cX6_back, 2, (some .int), 1)
set_option maxRecDepth 20000 in
theorem kb_X6_back : ac_B mX6_back := ⟨tt_in 843 rfl rfl, ti_X6, ⟨by decide, by decide, by decide⟩, by decide⟩
abbrev mX6_count : AM := (yX6_count, cX6_count, 2, (some .int), 1)
set_option maxRecDepth 20000 in
theorem kb_X6_count : ac_B mX6_count := ⟨tt_in 847 rfl rfl, ti_X6, ⟨by decide, by decide, by decide⟩, by decide⟩
set_option maxRecDepth 20000 in
theorem kd_Lib_Math_max_name : Cond.code Lib.Math.max.name Lib.Math.max.code 2 (some .int) ∈ TT := tt_in 434 rfl rfl
theorem ks_Lib_Math_max_name : Cond.static Lib.Math.max.name ∈ TT := tt_in 433 (by decide +kernel) (by decide +kernel)
set_option maxRecDepth 20000 in
theorem kd_Lib_Math_min_name : Cond.code Lib.Math.min.name Lib.Math.min.code 2 (some .int) ∈ TT := tt_in 241 rfl rfl
theorem ks_Lib_Math_min_name : Cond.static Lib.Math.min.name ∈ TT := tt_in 240 (by decide +kernel) (by decide +kernel)
set_option maxRecDepth 20000 in
theorem kd_Lib_MathLoose_max_long_x : Cond.code Lib.MathLoose.max_long.x Lib.MathLoose.max_long.code 4 (some .long) ∈ TT := tt_in 339 rfl rfl
theorem ks_Lib_MathLoose_max_long_x : Cond.static Lib.MathLoose.max_long.x ∈ TT := tt_in 338 (by decide +kernel) (by decide +kernel)
set_option maxRecDepth 20000 in
theorem kd_obj : Cond.code objectInit ⟨#[0xb1]⟩ 1 none ∈ TT := tt_in 53 rfl rfl
theorem ks_obj : Cond.instanceMethod objectInit ∈ TT := tt_in 52 (by decide +kernel) (by decide +kernel)
theorem ks_cpn : Cond.native arraycopyName ∈ TT := tt_in 312 (by decide +kernel) (by decide +kernel)
theorem ks_cps : Cond.static arraycopyName ∈ TT := tt_in 311 (by decide +kernel) (by decide +kernel)
theorem kc_L_9 : ac_I RL 9 mX5_init := ⟨kb_X5_init, tt_in 48 (by decide +kernel) (by decide +kernel), tt_in 49 (by decide +kernel) (by decide +kernel), rfl, rfl⟩
theorem kc_X5_1 : Cond.methodLink RX5 1 objectInit ∈ TT := tt_in 51 (by decide +kernel) (by decide +kernel)
theorem kc_X5_18 : ac_J RX5 18 mX2_init := ⟨kb_X2_init, ⟨RX5, by simp [am_nest]⟩, tt_in 57 (by decide +kernel) (by decide +kernel), rfl, rfl⟩
theorem kc_X2_3 : Cond.methodLink RX2 3 objectInit ∈ TT := tt_in 59 (by decide +kernel) (by decide +kernel)
theorem kc_X5_28 : ac_J RX5 28 mX3_init := ⟨kb_X3_init, ⟨RX5, by simp [am_nest]⟩, tt_in 71 (by decide +kernel) (by decide +kernel), rfl, rfl⟩
theorem kc_X3_3 : Cond.methodLink RX3 3 objectInit ∈ TT := tt_in 73 (by decide +kernel) (by decide +kernel)
theorem kc_X3_39 : ac_J RX3 39 mX2_init := ⟨kb_X2_init, ⟨RX5, by simp [am_nest]⟩, tt_in 57 (by decide +kernel) (by decide +kernel), rfl, rfl⟩
theorem kc_X5_35 : ac_I RX5 35 mX1_init := ⟨kb_X1_init, tt_in 107 (by decide +kernel) (by decide +kernel), tt_in 108 (by decide +kernel) (by decide +kernel), rfl, rfl⟩
theorem kc_X1_3 : Cond.methodLink RX1 3 objectInit ∈ TT := tt_in 110 (by decide +kernel) (by decide +kernel)
theorem kc_X1_21 : ac_J RX1 21 mX2_init := ⟨kb_X2_init, ⟨RX5, by simp [am_nest]⟩, tt_in 57 (by decide +kernel) (by decide +kernel), rfl, rfl⟩
theorem kc_X5_50 : ac_J RX5 50 mX0_init := ⟨kb_X0_init, ⟨RX5, by simp [am_nest]⟩, tt_in 124 (by decide +kernel) (by decide +kernel), rfl, rfl⟩
theorem kc_X0_3 : Cond.methodLink RX0 3 objectInit ∈ TT := tt_in 126 (by decide +kernel) (by decide +kernel)
theorem kc_X5_57 : ac_J RX5 57 mX4_init := ⟨kb_X4_init, ⟨RX5, by simp [am_nest]⟩, tt_in 149 (by decide +kernel) (by decide +kernel), rfl, rfl⟩
theorem kc_X4_3 : Cond.methodLink RX4 3 objectInit ∈ TT := tt_in 151 (by decide +kernel) (by decide +kernel)
theorem kc_L_13 : ac_V RL 13 mX5_type := ⟨kb_X5_type, tt_in 196 (by decide +kernel) (by decide +kernel), tt_in 197 (by decide +kernel) (by decide +kernel), tt_in 198 (by decide +kernel) (by decide +kernel)⟩
theorem kc_X5_62 : ac_V RX5 62 mX3_append := ⟨kb_X3_append, tt_in 200 (by decide +kernel) (by decide +kernel), tt_in 201 (by decide +kernel) (by decide +kernel), tt_in 202 (by decide +kernel) (by decide +kernel)⟩
theorem kc_X5_66 : ac_V RX5 66 mX3_length := ⟨kb_X3_length, tt_in 204 (by decide +kernel) (by decide +kernel), tt_in 205 (by decide +kernel) (by decide +kernel), tt_in 206 (by decide +kernel) (by decide +kernel)⟩
theorem kc_L_18 : ac_V RL 18 mX5_clear := ⟨kb_X5_clear, tt_in 208 (by decide +kernel) (by decide +kernel), tt_in 209 (by decide +kernel) (by decide +kernel), tt_in 210 (by decide +kernel) (by decide +kernel)⟩
theorem kc_X5_70 : ac_V RX5 70 mX3_wipe := ⟨kb_X3_wipe, tt_in 212 (by decide +kernel) (by decide +kernel), tt_in 213 (by decide +kernel) (by decide +kernel), tt_in 214 (by decide +kernel) (by decide +kernel)⟩
theorem kc_L_23 : ac_V RL 23 mX5_fraction := ⟨kb_X5_fraction, tt_in 216 (by decide +kernel) (by decide +kernel), tt_in 217 (by decide +kernel) (by decide +kernel), tt_in 218 (by decide +kernel) (by decide +kernel)⟩
theorem kc_X5_73 : ac_V RX5 73 mX3_read := ⟨kb_X3_read, tt_in 220 (by decide +kernel) (by decide +kernel), tt_in 221 (by decide +kernel) (by decide +kernel), tt_in 222 (by decide +kernel) (by decide +kernel)⟩
theorem kc_X3_44 : ac_V RX3 44 mX2_wipe := ⟨kb_X2_wipe, tt_in 224 (by decide +kernel) (by decide +kernel), tt_in 225 (by decide +kernel) (by decide +kernel), tt_in 226 (by decide +kernel) (by decide +kernel)⟩
theorem kc_X3_47 : ac_V RX3 47 mX3_readToken := ⟨kb_X3_readToken, tt_in 228 (by decide +kernel) (by decide +kernel), tt_in 230 (by decide +kernel) (by decide +kernel), tt_in 0 (by decide +kernel) (by decide +kernel)⟩
theorem kc_X3_84 : ac_S RX3 84 mX3_isFigure := ⟨kb_X3_isFigure, tt_in 232 (by decide +kernel) (by decide +kernel), tt_in 233 (by decide +kernel) (by decide +kernel)⟩
theorem kc_X3_88 : ac_V RX3 88 mX3_readNumber := ⟨kb_X3_readNumber, tt_in 235 (by decide +kernel) (by decide +kernel), tt_in 237 (by decide +kernel) (by decide +kernel), tt_in 1 (by decide +kernel) (by decide +kernel)⟩
theorem kc_X3_95 : Cond.methodLink RX3 95 Lib.Math.min.name ∈ TT := tt_in 239 (by decide +kernel) (by decide +kernel)
theorem kc_X3_91 : ac_S RX3 91 mX3_kindOf := ⟨kb_X3_kindOf, tt_in 242 (by decide +kernel) (by decide +kernel), tt_in 243 (by decide +kernel) (by decide +kernel)⟩
theorem kc_X3_50 : ac_V RX3 50 mX3_follow := ⟨kb_X3_follow, tt_in 245 (by decide +kernel) (by decide +kernel), tt_in 247 (by decide +kernel) (by decide +kernel), tt_in 2 (by decide +kernel) (by decide +kernel)⟩
theorem kc_X3_54 : ac_V RX3 54 mX3_takeAbove := ⟨kb_X3_takeAbove, tt_in 249 (by decide +kernel) (by decide +kernel), tt_in 251 (by decide +kernel) (by decide +kernel), tt_in 3 (by decide +kernel) (by decide +kernel)⟩
theorem kc_X3_67 : ac_V RX3 67 mX3_isNumberTo := ⟨kb_X3_isNumberTo, tt_in 253 (by decide +kernel) (by decide +kernel), tt_in 255 (by decide +kernel) (by decide +kernel), tt_in 4 (by decide +kernel) (by decide +kernel)⟩
theorem kc_X3_58 : ac_V RX3 58 mX3_takeBelow := ⟨kb_X3_takeBelow, tt_in 257 (by decide +kernel) (by decide +kernel), tt_in 259 (by decide +kernel) (by decide +kernel), tt_in 5 (by decide +kernel) (by decide +kernel)⟩
theorem kc_X3_61 : ac_V RX3 61 mX3_takeTerm := ⟨kb_X3_takeTerm, tt_in 261 (by decide +kernel) (by decide +kernel), tt_in 263 (by decide +kernel) (by decide +kernel), tt_in 6 (by decide +kernel) (by decide +kernel)⟩
theorem kc_X3_71 : ac_V RX3 71 mX2_length := ⟨kb_X2_length, tt_in 265 (by decide +kernel) (by decide +kernel), tt_in 266 (by decide +kernel) (by decide +kernel), tt_in 267 (by decide +kernel) (by decide +kernel)⟩
theorem kc_X3_73 : ac_V RX3 73 mX2_at := ⟨kb_X2_at, tt_in 269 (by decide +kernel) (by decide +kernel), tt_in 270 (by decide +kernel) (by decide +kernel), tt_in 271 (by decide +kernel) (by decide +kernel)⟩
theorem kc_X2_19 : ac_V RX2 19 mX2_reaches := ⟨kb_X2_reaches, tt_in 273 (by decide +kernel) (by decide +kernel), tt_in 274 (by decide +kernel) (by decide +kernel), tt_in 275 (by decide +kernel) (by decide +kernel)⟩
theorem kc_X3_76 : ac_V RX3 76 mX2_insert := ⟨kb_X2_insert, tt_in 277 (by decide +kernel) (by decide +kernel), tt_in 278 (by decide +kernel) (by decide +kernel), tt_in 279 (by decide +kernel) (by decide +kernel)⟩
theorem kc_X3_64 : ac_V RX3 64 mX3_endSum := ⟨kb_X3_endSum, tt_in 282 (by decide +kernel) (by decide +kernel), tt_in 284 (by decide +kernel) (by decide +kernel), tt_in 7 (by decide +kernel) (by decide +kernel)⟩
theorem kc_X3_80 : ac_V RX3 80 mX2_adds := ⟨kb_X2_adds, tt_in 286 (by decide +kernel) (by decide +kernel), tt_in 287 (by decide +kernel) (by decide +kernel), tt_in 288 (by decide +kernel) (by decide +kernel)⟩
theorem kc_X5_76 : ac_V RX5 76 mX5_startAnew := ⟨kb_X5_startAnew, tt_in 290 (by decide +kernel) (by decide +kernel), tt_in 292 (by decide +kernel) (by decide +kernel), tt_in 8 (by decide +kernel) (by decide +kernel)⟩
theorem kc_X5_180 : ac_V RX5 180 mX3_toldP := ⟨kb_X3_toldP, tt_in 294 (by decide +kernel) (by decide +kernel), tt_in 295 (by decide +kernel) (by decide +kernel), tt_in 296 (by decide +kernel) (by decide +kernel)⟩
theorem kc_X5_183 : ac_V RX5 183 mX3_toldQ := ⟨kb_X3_toldQ, tt_in 298 (by decide +kernel) (by decide +kernel), tt_in 299 (by decide +kernel) (by decide +kernel), tt_in 300 (by decide +kernel) (by decide +kernel)⟩
theorem kc_X5_186 : ac_V RX5 186 mX3_toldTerms := ⟨kb_X3_toldTerms, tt_in 302 (by decide +kernel) (by decide +kernel), tt_in 303 (by decide +kernel) (by decide +kernel), tt_in 304 (by decide +kernel) (by decide +kernel)⟩
theorem kc_X5_88 : ac_V RX5 88 mX2_copy := ⟨kb_X2_copy, tt_in 306 (by decide +kernel) (by decide +kernel), tt_in 307 (by decide +kernel) (by decide +kernel), tt_in 308 (by decide +kernel) (by decide +kernel)⟩
theorem kc_X2_23 : Cond.methodLink RX2 23 arraycopyName ∈ TT := tt_in 310 (by decide +kernel) (by decide +kernel)
theorem kc_X5_179 : ac_V RX5 179 mX1_wipe := ⟨kb_X1_wipe, tt_in 313 (by decide +kernel) (by decide +kernel), tt_in 314 (by decide +kernel) (by decide +kernel), tt_in 315 (by decide +kernel) (by decide +kernel)⟩
theorem kc_X5_172 : ac_V RX5 172 mX4_wipe := ⟨kb_X4_wipe, tt_in 317 (by decide +kernel) (by decide +kernel), tt_in 318 (by decide +kernel) (by decide +kernel), tt_in 319 (by decide +kernel) (by decide +kernel)⟩
theorem kc_X5_190 : ac_V RX5 190 mX0_turnTo := ⟨kb_X0_turnTo, tt_in 321 (by decide +kernel) (by decide +kernel), tt_in 322 (by decide +kernel) (by decide +kernel), tt_in 323 (by decide +kernel) (by decide +kernel)⟩
theorem kc_L_27 : ac_V RL 27 mX5_makes := ⟨kb_X5_makes, tt_in 325 (by decide +kernel) (by decide +kernel), tt_in 326 (by decide +kernel) (by decide +kernel), tt_in 327 (by decide +kernel) (by decide +kernel)⟩
theorem kc_X5_79 : ac_V RX5 79 mX5_draftBy := ⟨kb_X5_draftBy, tt_in 329 (by decide +kernel) (by decide +kernel), tt_in 331 (by decide +kernel) (by decide +kernel), tt_in 9 (by decide +kernel) (by decide +kernel)⟩
theorem kc_X5_126 : ac_S RX5 126 mX5_takeGreedily := ⟨kb_X5_takeGreedily, tt_in 333 (by decide +kernel) (by decide +kernel), tt_in 334 (by decide +kernel) (by decide +kernel)⟩
theorem kc_X5_212 : ac_V RX5 212 mX2_wipe := ⟨kb_X2_wipe, tt_in 336 (by decide +kernel) (by decide +kernel), tt_in 225 (by decide +kernel) (by decide +kernel), tt_in 226 (by decide +kernel) (by decide +kernel)⟩
theorem kc_X5_213 : Cond.methodLink RX5 213 Lib.MathLoose.max_long.x ∈ TT := tt_in 337 (by decide +kernel) (by decide +kernel)
theorem kc_X5_117 : ac_V RX5 117 mX2_insert := ⟨kb_X2_insert, tt_in 341 (by decide +kernel) (by decide +kernel), tt_in 278 (by decide +kernel) (by decide +kernel), tt_in 279 (by decide +kernel) (by decide +kernel)⟩
theorem kc_X5_216 : ac_S RX5 216 mX5_commonDivisor := ⟨kb_X5_commonDivisor, tt_in 342 (by decide +kernel) (by decide +kernel), tt_in 343 (by decide +kernel) (by decide +kernel)⟩
theorem kc_X5_144 : ac_V RX5 144 mX0_leastLength := ⟨kb_X0_leastLength, tt_in 345 (by decide +kernel) (by decide +kernel), tt_in 346 (by decide +kernel) (by decide +kernel), tt_in 347 (by decide +kernel) (by decide +kernel)⟩
theorem kc_X0_45 : ac_V RX0 45 mX0_howMany := ⟨kb_X0_howMany, tt_in 349 (by decide +kernel) (by decide +kernel), tt_in 350 (by decide +kernel) (by decide +kernel), tt_in 351 (by decide +kernel) (by decide +kernel)⟩
theorem kc_X0_31 : ac_V RX0 31 mX0_seek := ⟨kb_X0_seek, tt_in 353 (by decide +kernel) (by decide +kernel), tt_in 355 (by decide +kernel) (by decide +kernel), tt_in 10 (by decide +kernel) (by decide +kernel)⟩
theorem kc_X0_61 : ac_T RX0 61 mX5_isLength := ⟨kb_X5_isLength, ⟨RX5, by simp [am_nest]⟩, tt_in 358 (by decide +kernel) (by decide +kernel)⟩
theorem kc_X0_65 : ac_V RX0 65 mX0_extend := ⟨kb_X0_extend, tt_in 360 (by decide +kernel) (by decide +kernel), tt_in 362 (by decide +kernel) (by decide +kernel), tt_in 11 (by decide +kernel) (by decide +kernel)⟩
theorem kc_X0_35 : ac_S RX0 35 mX0_greatest := ⟨kb_X0_greatest, tt_in 364 (by decide +kernel) (by decide +kernel), tt_in 365 (by decide +kernel) (by decide +kernel)⟩
theorem kc_X0_69 : ac_V RX0 69 mX0_end := ⟨kb_X0_end, tt_in 367 (by decide +kernel) (by decide +kernel), tt_in 369 (by decide +kernel) (by decide +kernel), tt_in 12 (by decide +kernel) (by decide +kernel)⟩
theorem kc_X0_72 : Cond.methodLink RX0 72 Lib.MathLoose.max_long.x ∈ TT := tt_in 372 (by decide +kernel) (by decide +kernel)
theorem kc_X5_197 : ac_V RX5 197 mX0_copyFirst := ⟨kb_X0_copyFirst, tt_in 373 (by decide +kernel) (by decide +kernel), tt_in 374 (by decide +kernel) (by decide +kernel), tt_in 375 (by decide +kernel) (by decide +kernel)⟩
theorem kc_X0_38 : ac_V RX0 38 mX0_pick := ⟨kb_X0_pick, tt_in 377 (by decide +kernel) (by decide +kernel), tt_in 379 (by decide +kernel) (by decide +kernel), tt_in 13 (by decide +kernel) (by decide +kernel)⟩
theorem kc_X0_52 : ac_V RX0 52 mX2_wipe := ⟨kb_X2_wipe, tt_in 381 (by decide +kernel) (by decide +kernel), tt_in 225 (by decide +kernel) (by decide +kernel), tt_in 226 (by decide +kernel) (by decide +kernel)⟩
theorem kc_X0_42 : ac_S RX0 42 mX0_unpack := ⟨kb_X0_unpack, tt_in 382 (by decide +kernel) (by decide +kernel), tt_in 383 (by decide +kernel) (by decide +kernel)⟩
theorem kc_X0_57 : ac_V RX0 57 mX2_insert := ⟨kb_X2_insert, tt_in 385 (by decide +kernel) (by decide +kernel), tt_in 278 (by decide +kernel) (by decide +kernel), tt_in 279 (by decide +kernel) (by decide +kernel)⟩
theorem kc_X5_201 : ac_V RX5 201 mX0_lengthOfLeastBound := ⟨kb_X0_lengthOfLeastBound, tt_in 386 (by decide +kernel) (by decide +kernel), tt_in 387 (by decide +kernel) (by decide +kernel), tt_in 388 (by decide +kernel) (by decide +kernel)⟩
theorem kc_X0_49 : ac_V RX0 49 mX0_leastBound := ⟨kb_X0_leastBound, tt_in 390 (by decide +kernel) (by decide +kernel), tt_in 391 (by decide +kernel) (by decide +kernel), tt_in 392 (by decide +kernel) (by decide +kernel)⟩
theorem kc_X5_147 : ac_V RX5 147 mX0_leastBound := ⟨kb_X0_leastBound, tt_in 394 (by decide +kernel) (by decide +kernel), tt_in 391 (by decide +kernel) (by decide +kernel), tt_in 392 (by decide +kernel) (by decide +kernel)⟩
theorem kc_X5_82 : ac_V RX5 82 mX5_takeDraft := ⟨kb_X5_takeDraft, tt_in 395 (by decide +kernel) (by decide +kernel), tt_in 397 (by decide +kernel) (by decide +kernel), tt_in 14 (by decide +kernel) (by decide +kernel)⟩
theorem kc_X5_194 : ac_V RX5 194 mX1_store := ⟨kb_X1_store, tt_in 399 (by decide +kernel) (by decide +kernel), tt_in 400 (by decide +kernel) (by decide +kernel), tt_in 401 (by decide +kernel) (by decide +kernel)⟩
theorem kc_X1_22 : ac_V RX1 22 mX1_loseOldest := ⟨kb_X1_loseOldest, tt_in 403 (by decide +kernel) (by decide +kernel), tt_in 405 (by decide +kernel) (by decide +kernel), tt_in 15 (by decide +kernel) (by decide +kernel)⟩
theorem kc_X1_25 : ac_V RX1 25 mX2_copy := ⟨kb_X2_copy, tt_in 407 (by decide +kernel) (by decide +kernel), tt_in 307 (by decide +kernel) (by decide +kernel), tt_in 308 (by decide +kernel) (by decide +kernel)⟩
theorem kc_X5_130 : ac_V RX5 130 mX2_length := ⟨kb_X2_length, tt_in 408 (by decide +kernel) (by decide +kernel), tt_in 266 (by decide +kernel) (by decide +kernel), tt_in 267 (by decide +kernel) (by decide +kernel)⟩
theorem kc_L_31 : ac_V RL 31 mX5_splits := ⟨kb_X5_splits, tt_in 409 (by decide +kernel) (by decide +kernel), tt_in 410 (by decide +kernel) (by decide +kernel), tt_in 411 (by decide +kernel) (by decide +kernel)⟩
theorem kc_X5_85 : ac_V RX5 85 mX2_reaches := ⟨kb_X2_reaches, tt_in 413 (by decide +kernel) (by decide +kernel), tt_in 274 (by decide +kernel) (by decide +kernel), tt_in 275 (by decide +kernel) (by decide +kernel)⟩
theorem kc_X5_92 : ac_V RX5 92 mX2_drop := ⟨kb_X2_drop, tt_in 414 (by decide +kernel) (by decide +kernel), tt_in 415 (by decide +kernel) (by decide +kernel), tt_in 416 (by decide +kernel) (by decide +kernel)⟩
theorem kc_X5_96 : ac_V RX5 96 mX2_at := ⟨kb_X2_at, tt_in 418 (by decide +kernel) (by decide +kernel), tt_in 270 (by decide +kernel) (by decide +kernel), tt_in 271 (by decide +kernel) (by decide +kernel)⟩
theorem kc_X5_100 : ac_S RX5 100 mX5_splitInto := ⟨kb_X5_splitInto, tt_in 419 (by decide +kernel) (by decide +kernel), tt_in 420 (by decide +kernel) (by decide +kernel)⟩
theorem kc_L_36 : ac_V RL 36 mX5_joins := ⟨kb_X5_joins, tt_in 425 (by decide +kernel) (by decide +kernel), tt_in 426 (by decide +kernel) (by decide +kernel), tt_in 427 (by decide +kernel) (by decide +kernel)⟩
theorem kc_X5_104 : ac_S RX5 104 mX5_oneForTwo := ⟨kb_X5_oneForTwo, tt_in 429 (by decide +kernel) (by decide +kernel), tt_in 430 (by decide +kernel) (by decide +kernel)⟩
theorem kc_X5_108 : Cond.methodLink RX5 108 Lib.Math.max.name ∈ TT := tt_in 432 (by decide +kernel) (by decide +kernel)
theorem kc_X5_114 : Cond.methodLink RX5 114 Lib.Math.min.name ∈ TT := tt_in 435 (by decide +kernel) (by decide +kernel)
theorem kc_L_40 : ac_V RL 40 mX5_undo := ⟨kb_X5_undo, tt_in 436 (by decide +kernel) (by decide +kernel), tt_in 437 (by decide +kernel) (by decide +kernel), tt_in 438 (by decide +kernel) (by decide +kernel)⟩
theorem kc_X5_121 : ac_V RX5 121 mX1_restore := ⟨kb_X1_restore, tt_in 440 (by decide +kernel) (by decide +kernel), tt_in 441 (by decide +kernel) (by decide +kernel), tt_in 442 (by decide +kernel) (by decide +kernel)⟩
theorem kc_X5_125 : ac_V RX5 125 mX1_length := ⟨kb_X1_length, tt_in 444 (by decide +kernel) (by decide +kernel), tt_in 445 (by decide +kernel) (by decide +kernel), tt_in 446 (by decide +kernel) (by decide +kernel)⟩
theorem kc_L_44 : ac_V RL 44 mX5_term := ⟨kb_X5_term, tt_in 448 (by decide +kernel) (by decide +kernel), tt_in 449 (by decide +kernel) (by decide +kernel), tt_in 450 (by decide +kernel) (by decide +kernel)⟩
theorem kc_L_48 : ac_V RL 48 mX5_greedy := ⟨kb_X5_greedy, tt_in 452 (by decide +kernel) (by decide +kernel), tt_in 453 (by decide +kernel) (by decide +kernel), tt_in 454 (by decide +kernel) (by decide +kernel)⟩
theorem kc_L_52 : ac_V RL 52 mX5_sums := ⟨kb_X5_sums, tt_in 456 (by decide +kernel) (by decide +kernel), tt_in 457 (by decide +kernel) (by decide +kernel), tt_in 458 (by decide +kernel) (by decide +kernel)⟩
theorem kc_X5_131 : ac_S RX5 131 mX5_isLength := ⟨kb_X5_isLength, tt_in 460 (by decide +kernel) (by decide +kernel), tt_in 358 (by decide +kernel) (by decide +kernel)⟩
theorem kc_X5_134 : ac_S RX5 134 mX5_isBound := ⟨kb_X5_isBound, tt_in 461 (by decide +kernel) (by decide +kernel), tt_in 462 (by decide +kernel) (by decide +kernel)⟩
theorem kc_X5_137 : ac_V RX5 137 mX0_howMany := ⟨kb_X0_howMany, tt_in 464 (by decide +kernel) (by decide +kernel), tt_in 350 (by decide +kernel) (by decide +kernel), tt_in 351 (by decide +kernel) (by decide +kernel)⟩
theorem kc_L_56 : ac_V RL 56 mX5_sum := ⟨kb_X5_sum, tt_in 465 (by decide +kernel) (by decide +kernel), tt_in 466 (by decide +kernel) (by decide +kernel), tt_in 467 (by decide +kernel) (by decide +kernel)⟩
theorem kc_X5_140 : ac_V RX5 140 mX0_numberOf := ⟨kb_X0_numberOf, tt_in 469 (by decide +kernel) (by decide +kernel), tt_in 470 (by decide +kernel) (by decide +kernel), tt_in 471 (by decide +kernel) (by decide +kernel)⟩
theorem kc_L_61 : ac_V RL 61 mX5_fewest := ⟨kb_X5_fewest, tt_in 473 (by decide +kernel) (by decide +kernel), tt_in 474 (by decide +kernel) (by decide +kernel), tt_in 475 (by decide +kernel) (by decide +kernel)⟩
theorem kc_L_65 : ac_V RL 65 mX5_bound := ⟨kb_X5_bound, tt_in 477 (by decide +kernel) (by decide +kernel), tt_in 478 (by decide +kernel) (by decide +kernel), tt_in 479 (by decide +kernel) (by decide +kernel)⟩
theorem kc_L_69 : ac_V RL 69 mX5_holds := ⟨kb_X5_holds, tt_in 481 (by decide +kernel) (by decide +kernel), tt_in 482 (by decide +kernel) (by decide +kernel), tt_in 483 (by decide +kernel) (by decide +kernel)⟩
theorem kc_X5_150 : ac_S RX5 150 mX5_isNumerator := ⟨kb_X5_isNumerator, tt_in 485 (by decide +kernel) (by decide +kernel), tt_in 486 (by decide +kernel) (by decide +kernel)⟩
theorem kc_X5_153 : ac_S RX5 153 mX5_isSplit := ⟨kb_X5_isSplit, tt_in 488 (by decide +kernel) (by decide +kernel), tt_in 489 (by decide +kernel) (by decide +kernel)⟩
theorem kc_X5_219 : ac_S RX5 219 mX5_divides := ⟨kb_X5_divides, tt_in 491 (by decide +kernel) (by decide +kernel), tt_in 492 (by decide +kernel) (by decide +kernel)⟩
theorem kc_L_74 : ac_V RL 74 mX5_covered := ⟨kb_X5_covered, tt_in 494 (by decide +kernel) (by decide +kernel), tt_in 495 (by decide +kernel) (by decide +kernel), tt_in 496 (by decide +kernel) (by decide +kernel)⟩
theorem kc_X5_157 : ac_S RX5 157 mX5_isChoice := ⟨kb_X5_isChoice, tt_in 498 (by decide +kernel) (by decide +kernel), tt_in 499 (by decide +kernel) (by decide +kernel)⟩
theorem kc_X5_160 : ac_S RX5 160 mX5_isCovered := ⟨kb_X5_isCovered, tt_in 501 (by decide +kernel) (by decide +kernel), tt_in 502 (by decide +kernel) (by decide +kernel)⟩
theorem kc_X5_164 : ac_S RX5 164 mX5_splitters := ⟨kb_X5_splitters, tt_in 504 (by decide +kernel) (by decide +kernel), tt_in 505 (by decide +kernel) (by decide +kernel)⟩
theorem kc_L_78 : ac_V RL 78 mX5_open := ⟨kb_X5_open, tt_in 507 (by decide +kernel) (by decide +kernel), tt_in 508 (by decide +kernel) (by decide +kernel), tt_in 509 (by decide +kernel) (by decide +kernel)⟩
theorem kc_L_82 : ac_V RL 82 mX5_sees := ⟨kb_X5_sees, tt_in 511 (by decide +kernel) (by decide +kernel), tt_in 512 (by decide +kernel) (by decide +kernel), tt_in 513 (by decide +kernel) (by decide +kernel)⟩
theorem kc_X5_167 : ac_V RX5 167 mX4_add := ⟨kb_X4_add, tt_in 515 (by decide +kernel) (by decide +kernel), tt_in 516 (by decide +kernel) (by decide +kernel), tt_in 517 (by decide +kernel) (by decide +kernel)⟩
theorem kc_X5_171 : ac_V RX5 171 mX4_length := ⟨kb_X4_length, tt_in 519 (by decide +kernel) (by decide +kernel), tt_in 520 (by decide +kernel) (by decide +kernel), tt_in 521 (by decide +kernel) (by decide +kernel)⟩
theorem kc_L_86 : ac_V RL 86 mX5_forget := ⟨kb_X5_forget, tt_in 523 (by decide +kernel) (by decide +kernel), tt_in 524 (by decide +kernel) (by decide +kernel), tt_in 525 (by decide +kernel) (by decide +kernel)⟩
theorem kc_L_90 : ac_V RL 90 mX5_unseen := ⟨kb_X5_unseen, tt_in 527 (by decide +kernel) (by decide +kernel), tt_in 528 (by decide +kernel) (by decide +kernel), tt_in 529 (by decide +kernel) (by decide +kernel)⟩
theorem kc_X5_173 : ac_V RX5 173 mX4_suspects := ⟨kb_X4_suspects, tt_in 531 (by decide +kernel) (by decide +kernel), tt_in 532 (by decide +kernel) (by decide +kernel), tt_in 533 (by decide +kernel) (by decide +kernel)⟩
theorem kc_X4_26 : ac_T RX4 26 mX5_splitters := ⟨kb_X5_splitters, ⟨RX5, by simp [am_nest]⟩, tt_in 505 (by decide +kernel) (by decide +kernel)⟩
theorem kc_L_94 : ac_V RL 94 mX5_ask := ⟨kb_X5_ask, tt_in 536 (by decide +kernel) (by decide +kernel), tt_in 537 (by decide +kernel) (by decide +kernel), tt_in 538 (by decide +kernel) (by decide +kernel)⟩
theorem kc_X5_176 : ac_S RX5 176 mX5_bestQuestion := ⟨kb_X5_bestQuestion, tt_in 540 (by decide +kernel) (by decide +kernel), tt_in 541 (by decide +kernel) (by decide +kernel)⟩
theorem kc_X5_223 : ac_S RX5 223 mJ6_bitCount_0f7a4 := ⟨kb_J6_bitCount_0f7a4, tt_in 543 (by decide +kernel) (by decide +kernel), tt_in 544 (by decide +kernel) (by decide +kernel)⟩
theorem kc_L_98 : ac_V RL 98 mX5_keep := ⟨kb_X5_keep, tt_in 549 (by decide +kernel) (by decide +kernel), tt_in 550 (by decide +kernel) (by decide +kernel), tt_in 551 (by decide +kernel) (by decide +kernel)⟩
theorem kc_L_102 : ac_V RL 102 mX5_back := ⟨kb_X5_back, tt_in 553 (by decide +kernel) (by decide +kernel), tt_in 554 (by decide +kernel) (by decide +kernel), tt_in 555 (by decide +kernel) (by decide +kernel)⟩
theorem kc_L_106 : ac_V RL 106 mX5_count := ⟨kb_X5_count, tt_in 557 (by decide +kernel) (by decide +kernel), tt_in 558 (by decide +kernel) (by decide +kernel), tt_in 559 (by decide +kernel) (by decide +kernel)⟩
theorem kc_L_12 : ac_I RL 12 mX6_init := ⟨kb_X6_init, tt_in 563 (by decide +kernel) (by decide +kernel), tt_in 564 (by decide +kernel) (by decide +kernel), rfl, rfl⟩
theorem kc_X6_1 : Cond.methodLink RX6 1 objectInit ∈ TT := tt_in 566 (by decide +kernel) (by decide +kernel)
theorem kc_L_17 : ac_V RL 17 mX6_type := ⟨kb_X6_type, tt_in 644 (by decide +kernel) (by decide +kernel), tt_in 645 (by decide +kernel) (by decide +kernel), tt_in 646 (by decide +kernel) (by decide +kernel)⟩
theorem kc_X6_66 : ac_S RX6 66 mX6_in := ⟨kb_X6_in, tt_in 649 (by decide +kernel) (by decide +kernel), tt_in 650 (by decide +kernel) (by decide +kernel)⟩
theorem kc_L_22 : ac_V RL 22 mX6_clear := ⟨kb_X6_clear, tt_in 652 (by decide +kernel) (by decide +kernel), tt_in 653 (by decide +kernel) (by decide +kernel), tt_in 654 (by decide +kernel) (by decide +kernel)⟩
theorem kc_L_26 : ac_V RL 26 mX6_fraction := ⟨kb_X6_fraction, tt_in 656 (by decide +kernel) (by decide +kernel), tt_in 657 (by decide +kernel) (by decide +kernel), tt_in 658 (by decide +kernel) (by decide +kernel)⟩
theorem kc_X6_120 : ac_V RX6 120 mX6_reads := ⟨kb_X6_reads, tt_in 660 (by decide +kernel) (by decide +kernel), tt_in 662 (by decide +kernel) (by decide +kernel), tt_in 16 (by decide +kernel) (by decide +kernel)⟩
theorem kc_X6_86 : ac_V RX6 86 mX6_take := ⟨kb_X6_take, tt_in 664 (by decide +kernel) (by decide +kernel), tt_in 666 (by decide +kernel) (by decide +kernel), tt_in 17 (by decide +kernel) (by decide +kernel)⟩
theorem kc_X6_82 : ac_S RX6 82 mX6_isDigit := ⟨kb_X6_isDigit, tt_in 668 (by decide +kernel) (by decide +kernel), tt_in 669 (by decide +kernel) (by decide +kernel)⟩
theorem kc_X6_112 : ac_V RX6 112 mX6_readsFraction := ⟨kb_X6_readsFraction, tt_in 673 (by decide +kernel) (by decide +kernel), tt_in 675 (by decide +kernel) (by decide +kernel), tt_in 18 (by decide +kernel) (by decide +kernel)⟩
theorem kc_X6_92 : ac_V RX6 92 mX6_isNumber := ⟨kb_X6_isNumber, tt_in 677 (by decide +kernel) (by decide +kernel), tt_in 679 (by decide +kernel) (by decide +kernel), tt_in 19 (by decide +kernel) (by decide +kernel)⟩
theorem kc_X6_102 : ac_V RX6 102 mX6_readsEnd := ⟨kb_X6_readsEnd, tt_in 681 (by decide +kernel) (by decide +kernel), tt_in 683 (by decide +kernel) (by decide +kernel), tt_in 20 (by decide +kernel) (by decide +kernel)⟩
theorem kc_X6_115 : ac_V RX6 115 mX6_readsSum := ⟨kb_X6_readsSum, tt_in 685 (by decide +kernel) (by decide +kernel), tt_in 687 (by decide +kernel) (by decide +kernel), tt_in 21 (by decide +kernel) (by decide +kernel)⟩
theorem kc_X6_109 : ac_V RX6 109 mX6_isWhole := ⟨kb_X6_isWhole, tt_in 689 (by decide +kernel) (by decide +kernel), tt_in 691 (by decide +kernel) (by decide +kernel), tt_in 22 (by decide +kernel) (by decide +kernel)⟩
theorem kc_L_51 : ac_V RL 51 mX6_greedy := ⟨kb_X6_greedy, tt_in 693 (by decide +kernel) (by decide +kernel), tt_in 694 (by decide +kernel) (by decide +kernel), tt_in 695 (by decide +kernel) (by decide +kernel)⟩
theorem kc_X6_151 : ac_V RX6 151 mX6_least := ⟨kb_X6_least, tt_in 697 (by decide +kernel) (by decide +kernel), tt_in 699 (by decide +kernel) (by decide +kernel), tt_in 23 (by decide +kernel) (by decide +kernel)⟩
theorem kc_X6_130 : ac_S RX6 130 mX6_common := ⟨kb_X6_common, tt_in 703 (by decide +kernel) (by decide +kernel), tt_in 704 (by decide +kernel) (by decide +kernel)⟩
theorem kc_L_55 : ac_V RL 55 mX6_sums := ⟨kb_X6_sums, tt_in 706 (by decide +kernel) (by decide +kernel), tt_in 707 (by decide +kernel) (by decide +kernel), tt_in 708 (by decide +kernel) (by decide +kernel)⟩
theorem kc_X6_139 : ac_V RX6 139 mX6_goesThrough := ⟨kb_X6_goesThrough, tt_in 712 (by decide +kernel) (by decide +kernel), tt_in 714 (by decide +kernel) (by decide +kernel), tt_in 24 (by decide +kernel) (by decide +kernel)⟩
theorem kc_L_60 : ac_V RL 60 mX6_sum := ⟨kb_X6_sum, tt_in 716 (by decide +kernel) (by decide +kernel), tt_in 717 (by decide +kernel) (by decide +kernel), tt_in 718 (by decide +kernel) (by decide +kernel)⟩
theorem kc_L_64 : ac_V RL 64 mX6_fewest := ⟨kb_X6_fewest, tt_in 720 (by decide +kernel) (by decide +kernel), tt_in 721 (by decide +kernel) (by decide +kernel), tt_in 722 (by decide +kernel) (by decide +kernel)⟩
theorem kc_X6_156 : ac_V RX6 156 mX6_few := ⟨kb_X6_few, tt_in 724 (by decide +kernel) (by decide +kernel), tt_in 726 (by decide +kernel) (by decide +kernel), tt_in 25 (by decide +kernel) (by decide +kernel)⟩
theorem kc_L_68 : ac_V RL 68 mX6_bound := ⟨kb_X6_bound, tt_in 728 (by decide +kernel) (by decide +kernel), tt_in 729 (by decide +kernel) (by decide +kernel), tt_in 730 (by decide +kernel) (by decide +kernel)⟩
theorem kc_X6_143 : ac_V RX6 143 mX6_top := ⟨kb_X6_top, tt_in 732 (by decide +kernel) (by decide +kernel), tt_in 734 (by decide +kernel) (by decide +kernel), tt_in 26 (by decide +kernel) (by decide +kernel)⟩
theorem kc_L_30 : ac_V RL 30 mX6_makes := ⟨kb_X6_makes, tt_in 736 (by decide +kernel) (by decide +kernel), tt_in 737 (by decide +kernel) (by decide +kernel), tt_in 738 (by decide +kernel) (by decide +kernel)⟩
theorem kc_X6_147 : ac_V RX6 147 mX6_firstOf := ⟨kb_X6_firstOf, tt_in 741 (by decide +kernel) (by decide +kernel), tt_in 743 (by decide +kernel) (by decide +kernel), tt_in 27 (by decide +kernel) (by decide +kernel)⟩
theorem kc_X6_161 : ac_V RX6 161 mX6_byLeastTop := ⟨kb_X6_byLeastTop, tt_in 745 (by decide +kernel) (by decide +kernel), tt_in 747 (by decide +kernel) (by decide +kernel), tt_in 28 (by decide +kernel) (by decide +kernel)⟩
theorem kc_X6_165 : ac_V RX6 165 mX6_minds := ⟨kb_X6_minds, tt_in 749 (by decide +kernel) (by decide +kernel), tt_in 751 (by decide +kernel) (by decide +kernel), tt_in 29 (by decide +kernel) (by decide +kernel)⟩
theorem kc_X6_58 : ac_V RX6 58 mX6_copy := ⟨kb_X6_copy, tt_in 753 (by decide +kernel) (by decide +kernel), tt_in 755 (by decide +kernel) (by decide +kernel), tt_in 30 (by decide +kernel) (by decide +kernel)⟩
theorem kc_L_35 : ac_V RL 35 mX6_splits := ⟨kb_X6_splits, tt_in 757 (by decide +kernel) (by decide +kernel), tt_in 758 (by decide +kernel) (by decide +kernel), tt_in 759 (by decide +kernel) (by decide +kernel)⟩
theorem kc_X6_179 : ac_V RX6 179 mX6_maySplit := ⟨kb_X6_maySplit, tt_in 761 (by decide +kernel) (by decide +kernel), tt_in 763 (by decide +kernel) (by decide +kernel), tt_in 31 (by decide +kernel) (by decide +kernel)⟩
theorem kc_X6_172 : ac_S RX6 172 mX6_part := ⟨kb_X6_part, tt_in 765 (by decide +kernel) (by decide +kernel), tt_in 766 (by decide +kernel) (by decide +kernel)⟩
theorem kc_X6_176 : ac_V RX6 176 mX6_isTerm := ⟨kb_X6_isTerm, tt_in 770 (by decide +kernel) (by decide +kernel), tt_in 772 (by decide +kernel) (by decide +kernel), tt_in 32 (by decide +kernel) (by decide +kernel)⟩
theorem kc_X6_182 : ac_V RX6 182 mX6_goes := ⟨kb_X6_goes, tt_in 774 (by decide +kernel) (by decide +kernel), tt_in 776 (by decide +kernel) (by decide +kernel), tt_in 33 (by decide +kernel) (by decide +kernel)⟩
theorem kc_X6_186 : ac_V RX6 186 mX6_comes := ⟨kb_X6_comes, tt_in 778 (by decide +kernel) (by decide +kernel), tt_in 780 (by decide +kernel) (by decide +kernel), tt_in 34 (by decide +kernel) (by decide +kernel)⟩
theorem kc_L_39 : ac_V RL 39 mX6_joins := ⟨kb_X6_joins, tt_in 782 (by decide +kernel) (by decide +kernel), tt_in 783 (by decide +kernel) (by decide +kernel), tt_in 784 (by decide +kernel) (by decide +kernel)⟩
theorem kc_L_43 : ac_V RL 43 mX6_undo := ⟨kb_X6_undo, tt_in 786 (by decide +kernel) (by decide +kernel), tt_in 787 (by decide +kernel) (by decide +kernel), tt_in 788 (by decide +kernel) (by decide +kernel)⟩
theorem kc_L_47 : ac_V RL 47 mX6_term := ⟨kb_X6_term, tt_in 790 (by decide +kernel) (by decide +kernel), tt_in 791 (by decide +kernel) (by decide +kernel), tt_in 792 (by decide +kernel) (by decide +kernel)⟩
theorem kc_L_73 : ac_V RL 73 mX6_holds := ⟨kb_X6_holds, tt_in 794 (by decide +kernel) (by decide +kernel), tt_in 795 (by decide +kernel) (by decide +kernel), tt_in 796 (by decide +kernel) (by decide +kernel)⟩
theorem kc_X6_197 : ac_S RX6 197 mX6_held := ⟨kb_X6_held, tt_in 800 (by decide +kernel) (by decide +kernel), tt_in 801 (by decide +kernel) (by decide +kernel)⟩
theorem kc_X6_189 : ac_S RX6 189 mX6_isHeld := ⟨kb_X6_isHeld, tt_in 803 (by decide +kernel) (by decide +kernel), tt_in 804 (by decide +kernel) (by decide +kernel)⟩
theorem kc_L_77 : ac_V RL 77 mX6_covered := ⟨kb_X6_covered, tt_in 806 (by decide +kernel) (by decide +kernel), tt_in 807 (by decide +kernel) (by decide +kernel), tt_in 808 (by decide +kernel) (by decide +kernel)⟩
theorem kc_L_81 : ac_V RL 81 mX6_open := ⟨kb_X6_open, tt_in 812 (by decide +kernel) (by decide +kernel), tt_in 813 (by decide +kernel) (by decide +kernel), tt_in 814 (by decide +kernel) (by decide +kernel)⟩
theorem kc_L_85 : ac_V RL 85 mX6_sees := ⟨kb_X6_sees, tt_in 816 (by decide +kernel) (by decide +kernel), tt_in 817 (by decide +kernel) (by decide +kernel), tt_in 818 (by decide +kernel) (by decide +kernel)⟩
theorem kc_L_89 : ac_V RL 89 mX6_forget := ⟨kb_X6_forget, tt_in 820 (by decide +kernel) (by decide +kernel), tt_in 821 (by decide +kernel) (by decide +kernel), tt_in 822 (by decide +kernel) (by decide +kernel)⟩
theorem kc_L_93 : ac_V RL 93 mX6_unseen := ⟨kb_X6_unseen, tt_in 824 (by decide +kernel) (by decide +kernel), tt_in 825 (by decide +kernel) (by decide +kernel), tt_in 826 (by decide +kernel) (by decide +kernel)⟩
theorem kc_L_97 : ac_V RL 97 mX6_ask := ⟨kb_X6_ask, tt_in 828 (by decide +kernel) (by decide +kernel), tt_in 829 (by decide +kernel) (by decide +kernel), tt_in 830 (by decide +kernel) (by decide +kernel)⟩
theorem kc_X6_204 : ac_V RX6 204 mX6_unseen := ⟨kb_X6_unseen, tt_in 832 (by decide +kernel) (by decide +kernel), tt_in 825 (by decide +kernel) (by decide +kernel), tt_in 826 (by decide +kernel) (by decide +kernel)⟩
theorem kc_X6_207 : ac_S RX6 207 mX6_ones := ⟨kb_X6_ones, tt_in 833 (by decide +kernel) (by decide +kernel), tt_in 834 (by decide +kernel) (by decide +kernel)⟩
theorem kc_L_101 : ac_V RL 101 mX6_keep := ⟨kb_X6_keep, tt_in 836 (by decide +kernel) (by decide +kernel), tt_in 837 (by decide +kernel) (by decide +kernel), tt_in 838 (by decide +kernel) (by decide +kernel)⟩
theorem kc_L_105 : ac_V RL 105 mX6_back := ⟨kb_X6_back, tt_in 840 (by decide +kernel) (by decide +kernel), tt_in 841 (by decide +kernel) (by decide +kernel), tt_in 842 (by decide +kernel) (by decide +kernel)⟩
theorem kc_L_109 : ac_V RL 109 mX6_count := ⟨kb_X6_count, tt_in 844 (by decide +kernel) (by decide +kernel), tt_in 845 (by decide +kernel) (by decide +kernel), tt_in 846 (by decide +kernel) (by decide +kernel)⟩
theorem kw_X2_9 : Cond.fieldLink RX2 9 (TX2 0).1 (TX2 0).2.1 (TX2 0).2.2.1 ∈ TT := tt_in 60 (by decide +kernel) (by decide +kernel)
theorem kg_X2_9 : afG RX2 9 2 0 := ⟨(RX2, TX2, 2), rfl, by decide, tl_X2, kw_X2_9⟩
theorem kp_X2_9 : afP RX2 9 2 0 true (.array .int) := ⟨(RX2, TX2, 2), tyX2, rfl, by decide, tl_X2, kw_X2_9, tyX2_ok, nmX2, rfl, rfl, by decide +kernel⟩
theorem kw_X2_15 : Cond.fieldLink RX2 15 (TX2 1).1 (TX2 1).2.1 (TX2 1).2.2.1 ∈ TT := tt_in 61 (by decide +kernel) (by decide +kernel)
theorem kg_X2_15 : afG RX2 15 2 1 := ⟨(RX2, TX2, 2), rfl, by decide, tl_X2, kw_X2_15⟩
theorem kp_X2_15 : afP RX2 15 2 1 false .int := ⟨(RX2, TX2, 2), tyX2, rfl, by decide, tl_X2, kw_X2_15, tyX2_ok, nmX2, rfl, rfl, by decide +kernel⟩
theorem kw_X3_9 : Cond.fieldLink RX3 9 (TX3 0).1 (TX3 0).2.1 (TX3 0).2.2.1 ∈ TT := tt_in 76 (by decide +kernel) (by decide +kernel)
theorem kg_X3_9 : afG RX3 9 3 0 := ⟨(RX3, TX3, 9), rfl, by decide, tl_X3, kw_X3_9⟩
theorem kp_X3_9 : afP RX3 9 3 0 true (.array .char) := ⟨(RX3, TX3, 9), tyX3, rfl, by decide, tl_X3, kw_X3_9, tyX3_ok, nmX3, rfl, rfl, by decide +kernel⟩
theorem kw_X3_15 : Cond.fieldLink RX3 15 (TX3 1).1 (TX3 1).2.1 (TX3 1).2.2.1 ∈ TT := tt_in 77 (by decide +kernel) (by decide +kernel)
theorem kg_X3_15 : afG RX3 15 3 1 := ⟨(RX3, TX3, 9), rfl, by decide, tl_X3, kw_X3_15⟩
theorem kp_X3_15 : afP RX3 15 3 1 false .int := ⟨(RX3, TX3, 9), tyX3, rfl, by decide, tl_X3, kw_X3_15, tyX3_ok, nmX3, rfl, rfl, by decide +kernel⟩
theorem kw_X3_19 : Cond.fieldLink RX3 19 (TX3 2).1 (TX3 2).2.1 (TX3 2).2.2.1 ∈ TT := tt_in 78 (by decide +kernel) (by decide +kernel)
theorem kg_X3_19 : afG RX3 19 3 2 := ⟨(RX3, TX3, 9), rfl, by decide, tl_X3, kw_X3_19⟩
theorem kp_X3_19 : afP RX3 19 3 2 false .int := ⟨(RX3, TX3, 9), tyX3, rfl, by decide, tl_X3, kw_X3_19, tyX3_ok, nmX3, rfl, rfl, by decide +kernel⟩
theorem kw_X3_22 : Cond.fieldLink RX3 22 (TX3 3).1 (TX3 3).2.1 (TX3 3).2.2.1 ∈ TT := tt_in 79 (by decide +kernel) (by decide +kernel)
theorem kg_X3_22 : afG RX3 22 3 3 := ⟨(RX3, TX3, 9), rfl, by decide, tl_X3, kw_X3_22⟩
theorem kp_X3_22 : afP RX3 22 3 3 false .int := ⟨(RX3, TX3, 9), tyX3, rfl, by decide, tl_X3, kw_X3_22, tyX3_ok, nmX3, rfl, rfl, by decide +kernel⟩
theorem kw_X3_25 : Cond.fieldLink RX3 25 (TX3 4).1 (TX3 4).2.1 (TX3 4).2.2.1 ∈ TT := tt_in 80 (by decide +kernel) (by decide +kernel)
theorem kg_X3_25 : afG RX3 25 3 4 := ⟨(RX3, TX3, 9), rfl, by decide, tl_X3, kw_X3_25⟩
theorem kp_X3_25 : afP RX3 25 3 4 false .int := ⟨(RX3, TX3, 9), tyX3, rfl, by decide, tl_X3, kw_X3_25, tyX3_ok, nmX3, rfl, rfl, by decide +kernel⟩
theorem kw_X3_28 : Cond.fieldLink RX3 28 (TX3 5).1 (TX3 5).2.1 (TX3 5).2.2.1 ∈ TT := tt_in 81 (by decide +kernel) (by decide +kernel)
theorem kg_X3_28 : afG RX3 28 3 5 := ⟨(RX3, TX3, 9), rfl, by decide, tl_X3, kw_X3_28⟩
theorem kp_X3_28 : afP RX3 28 3 5 false .int := ⟨(RX3, TX3, 9), tyX3, rfl, by decide, tl_X3, kw_X3_28, tyX3_ok, nmX3, rfl, rfl, by decide +kernel⟩
theorem kw_X3_31 : Cond.fieldLink RX3 31 (TX3 6).1 (TX3 6).2.1 (TX3 6).2.2.1 ∈ TT := tt_in 82 (by decide +kernel) (by decide +kernel)
theorem kg_X3_31 : afG RX3 31 3 6 := ⟨(RX3, TX3, 9), rfl, by decide, tl_X3, kw_X3_31⟩
theorem kp_X3_31 : afP RX3 31 3 6 false .int := ⟨(RX3, TX3, 9), tyX3, rfl, by decide, tl_X3, kw_X3_31, tyX3_ok, nmX3, rfl, rfl, by decide +kernel⟩
theorem kw_X3_34 : Cond.fieldLink RX3 34 (TX3 7).1 (TX3 7).2.1 (TX3 7).2.2.1 ∈ TT := tt_in 83 (by decide +kernel) (by decide +kernel)
theorem kg_X3_34 : afG RX3 34 3 7 := ⟨(RX3, TX3, 9), rfl, by decide, tl_X3, kw_X3_34⟩
theorem kp_X3_34 : afP RX3 34 3 7 false .int := ⟨(RX3, TX3, 9), tyX3, rfl, by decide, tl_X3, kw_X3_34, tyX3_ok, nmX3, rfl, rfl, by decide +kernel⟩
theorem kw_X3_40 : Cond.fieldLink RX3 40 (TX3 8).1 (TX3 8).2.1 (TX3 8).2.2.1 ∈ TT := tt_in 84 (by decide +kernel) (by decide +kernel)
theorem kg_X3_40 : afG RX3 40 3 8 := ⟨(RX3, TX3, 9), rfl, by decide, tl_X3, kw_X3_40⟩
theorem kp_X3_40 : afP RX3 40 3 8 true (.object RX2) := ⟨(RX3, TX3, 9), tyX3, rfl, by decide, tl_X3, kw_X3_40, tyX3_ok, nmX3, rfl, rfl, by decide +kernel⟩
theorem kw_X1_11 : Cond.fieldLink RX1 11 (TX1 0).1 (TX1 0).2.1 (TX1 0).2.2.1 ∈ TT := tt_in 114 (by decide +kernel) (by decide +kernel)
theorem kg_X1_11 : afG RX1 11 1 0 := ⟨(RX1, TX1, 2), rfl, by decide, tl_X1, kw_X1_11⟩
theorem kp_X1_11 : afP RX1 11 1 0 true (.array (.object RX2)) := ⟨(RX1, TX1, 2), tyX1, rfl, by decide, tl_X1, kw_X1_11, tyX1_ok, nmX1, rfl, rfl, by decide +kernel⟩
theorem kw_X1_17 : Cond.fieldLink RX1 17 (TX1 1).1 (TX1 1).2.1 (TX1 1).2.2.1 ∈ TT := tt_in 115 (by decide +kernel) (by decide +kernel)
theorem kg_X1_17 : afG RX1 17 1 1 := ⟨(RX1, TX1, 2), rfl, by decide, tl_X1, kw_X1_17⟩
theorem kp_X1_17 : afP RX1 17 1 1 false .int := ⟨(RX1, TX1, 2), tyX1, rfl, by decide, tl_X1, kw_X1_17, tyX1_ok, nmX1, rfl, rfl, by decide +kernel⟩
theorem kw_X0_9 : Cond.fieldLink RX0 9 (TX0 0).1 (TX0 0).2.1 (TX0 0).2.2.1 ∈ TT := tt_in 129 (by decide +kernel) (by decide +kernel)
theorem kg_X0_9 : afG RX0 9 0 0 := ⟨(RX0, TX0, 5), rfl, by decide, tl_X0, kw_X0_9⟩
theorem kp_X0_9 : afP RX0 9 0 0 false .int := ⟨(RX0, TX0, 5), tyX0, rfl, by decide, tl_X0, kw_X0_9, tyX0_ok, nmX0, rfl, rfl, by decide +kernel⟩
theorem kw_X0_15 : Cond.fieldLink RX0 15 (TX0 1).1 (TX0 1).2.1 (TX0 1).2.2.1 ∈ TT := tt_in 130 (by decide +kernel) (by decide +kernel)
theorem kg_X0_15 : afG RX0 15 0 1 := ⟨(RX0, TX0, 5), rfl, by decide, tl_X0, kw_X0_15⟩
theorem kp_X0_15 : afP RX0 15 0 1 false .int := ⟨(RX0, TX0, 5), tyX0, rfl, by decide, tl_X0, kw_X0_15, tyX0_ok, nmX0, rfl, rfl, by decide +kernel⟩
theorem kw_X0_20 : Cond.fieldLink RX0 20 (TX0 2).1 (TX0 2).2.1 (TX0 2).2.2.1 ∈ TT := tt_in 131 (by decide +kernel) (by decide +kernel)
theorem kg_X0_20 : afG RX0 20 0 2 := ⟨(RX0, TX0, 5), rfl, by decide, tl_X0, kw_X0_20⟩
theorem kp_X0_20 : afP RX0 20 0 2 true (.array (.array .int)) := ⟨(RX0, TX0, 5), tyX0, rfl, by decide, tl_X0, kw_X0_20, tyX0_ok, nmX0, rfl, rfl, by decide +kernel⟩
theorem kw_X0_23 : Cond.fieldLink RX0 23 (TX0 3).1 (TX0 3).2.1 (TX0 3).2.2.1 ∈ TT := tt_in 132 (by decide +kernel) (by decide +kernel)
theorem kg_X0_23 : afG RX0 23 0 3 := ⟨(RX0, TX0, 5), rfl, by decide, tl_X0, kw_X0_23⟩
theorem kp_X0_23 : afP RX0 23 0 3 true (.array .int) := ⟨(RX0, TX0, 5), tyX0, rfl, by decide, tl_X0, kw_X0_23, tyX0_ok, nmX0, rfl, rfl, by decide +kernel⟩
theorem kw_X0_27 : Cond.fieldLink RX0 27 (TX0 4).1 (TX0 4).2.1 (TX0 4).2.2.1 ∈ TT := tt_in 133 (by decide +kernel) (by decide +kernel)
theorem kg_X0_27 : afG RX0 27 0 4 := ⟨(RX0, TX0, 5), rfl, by decide, tl_X0, kw_X0_27⟩
theorem kp_X0_27 : afP RX0 27 0 4 true (.array .boolean) := ⟨(RX0, TX0, 5), tyX0, rfl, by decide, tl_X0, kw_X0_27, tyX0_ok, nmX0, rfl, rfl, by decide +kernel⟩
theorem kw_X4_9 : Cond.fieldLink RX4 9 (TX4 0).1 (TX4 0).2.1 (TX4 0).2.2.1 ∈ TT := tt_in 152 (by decide +kernel) (by decide +kernel)
theorem kg_X4_9 : afG RX4 9 4 0 := ⟨(RX4, TX4, 4), rfl, by decide, tl_X4, kw_X4_9⟩
theorem kp_X4_9 : afP RX4 9 4 0 true (.array .int) := ⟨(RX4, TX4, 4), tyX4, rfl, by decide, tl_X4, kw_X4_9, tyX4_ok, nmX4, rfl, rfl, by decide +kernel⟩
theorem kw_X4_15 : Cond.fieldLink RX4 15 (TX4 1).1 (TX4 1).2.1 (TX4 1).2.2.1 ∈ TT := tt_in 153 (by decide +kernel) (by decide +kernel)
theorem kg_X4_15 : afG RX4 15 4 1 := ⟨(RX4, TX4, 4), rfl, by decide, tl_X4, kw_X4_15⟩
theorem kp_X4_15 : afP RX4 15 4 1 true (.array .int) := ⟨(RX4, TX4, 4), tyX4, rfl, by decide, tl_X4, kw_X4_15, tyX4_ok, nmX4, rfl, rfl, by decide +kernel⟩
theorem kw_X4_18 : Cond.fieldLink RX4 18 (TX4 2).1 (TX4 2).2.1 (TX4 2).2.2.1 ∈ TT := tt_in 154 (by decide +kernel) (by decide +kernel)
theorem kg_X4_18 : afG RX4 18 4 2 := ⟨(RX4, TX4, 4), rfl, by decide, tl_X4, kw_X4_18⟩
theorem kp_X4_18 : afP RX4 18 4 2 true (.array .boolean) := ⟨(RX4, TX4, 4), tyX4, rfl, by decide, tl_X4, kw_X4_18, tyX4_ok, nmX4, rfl, rfl, by decide +kernel⟩
theorem kw_X4_22 : Cond.fieldLink RX4 22 (TX4 3).1 (TX4 3).2.1 (TX4 3).2.2.1 ∈ TT := tt_in 155 (by decide +kernel) (by decide +kernel)
theorem kg_X4_22 : afG RX4 22 4 3 := ⟨(RX4, TX4, 4), rfl, by decide, tl_X4, kw_X4_22⟩
theorem kp_X4_22 : afP RX4 22 4 3 false .int := ⟨(RX4, TX4, 4), tyX4, rfl, by decide, tl_X4, kw_X4_22, tyX4_ok, nmX4, rfl, rfl, by decide +kernel⟩
theorem kw_X5_9 : Cond.fieldLink RX5 9 (TX5 0).1 (TX5 0).2.1 (TX5 0).2.2.1 ∈ TT := tt_in 165 (by decide +kernel) (by decide +kernel)
theorem kg_X5_9 : afG RX5 9 5 0 := ⟨(RX5, TX5, 10), rfl, by decide, tl_X5, kw_X5_9⟩
theorem kp_X5_9 : afP RX5 9 5 0 false .int := ⟨(RX5, TX5, 10), tyX5, rfl, by decide, tl_X5, kw_X5_9, tyX5_ok, nmX5, rfl, rfl, by decide +kernel⟩
theorem kw_X5_13 : Cond.fieldLink RX5 13 (TX5 1).1 (TX5 1).2.1 (TX5 1).2.2.1 ∈ TT := tt_in 166 (by decide +kernel) (by decide +kernel)
theorem kg_X5_13 : afG RX5 13 5 1 := ⟨(RX5, TX5, 10), rfl, by decide, tl_X5, kw_X5_13⟩
theorem kp_X5_13 : afP RX5 13 5 1 false .int := ⟨(RX5, TX5, 10), tyX5, rfl, by decide, tl_X5, kw_X5_13, tyX5_ok, nmX5, rfl, rfl, by decide +kernel⟩
theorem kw_X5_19 : Cond.fieldLink RX5 19 (TX5 2).1 (TX5 2).2.1 (TX5 2).2.2.1 ∈ TT := tt_in 167 (by decide +kernel) (by decide +kernel)
theorem kg_X5_19 : afG RX5 19 5 2 := ⟨(RX5, TX5, 10), rfl, by decide, tl_X5, kw_X5_19⟩
theorem kp_X5_19 : afP RX5 19 5 2 true (.object RX2) := ⟨(RX5, TX5, 10), tyX5, rfl, by decide, tl_X5, kw_X5_19, tyX5_ok, nmX5, rfl, rfl, by decide +kernel⟩
theorem kw_X5_23 : Cond.fieldLink RX5 23 (TX5 3).1 (TX5 3).2.1 (TX5 3).2.2.1 ∈ TT := tt_in 168 (by decide +kernel) (by decide +kernel)
theorem kg_X5_23 : afG RX5 23 5 3 := ⟨(RX5, TX5, 10), rfl, by decide, tl_X5, kw_X5_23⟩
theorem kp_X5_23 : afP RX5 23 5 3 true (.object RX2) := ⟨(RX5, TX5, 10), tyX5, rfl, by decide, tl_X5, kw_X5_23, tyX5_ok, nmX5, rfl, rfl, by decide +kernel⟩
theorem kw_X5_29 : Cond.fieldLink RX5 29 (TX5 4).1 (TX5 4).2.1 (TX5 4).2.2.1 ∈ TT := tt_in 169 (by decide +kernel) (by decide +kernel)
theorem kg_X5_29 : afG RX5 29 5 4 := ⟨(RX5, TX5, 10), rfl, by decide, tl_X5, kw_X5_29⟩
theorem kp_X5_29 : afP RX5 29 5 4 true (.object RX3) := ⟨(RX5, TX5, 10), tyX5, rfl, by decide, tl_X5, kw_X5_29, tyX5_ok, nmX5, rfl, rfl, by decide +kernel⟩
theorem kw_X5_36 : Cond.fieldLink RX5 36 (TX5 5).1 (TX5 5).2.1 (TX5 5).2.2.1 ∈ TT := tt_in 170 (by decide +kernel) (by decide +kernel)
theorem kg_X5_36 : afG RX5 36 5 5 := ⟨(RX5, TX5, 10), rfl, by decide, tl_X5, kw_X5_36⟩
theorem kp_X5_36 : afP RX5 36 5 5 true (.object RX1) := ⟨(RX5, TX5, 10), tyX5, rfl, by decide, tl_X5, kw_X5_36, tyX5_ok, nmX5, rfl, rfl, by decide +kernel⟩
theorem kw_X5_40 : Cond.fieldLink RX5 40 (TX5 6).1 (TX5 6).2.1 (TX5 6).2.2.1 ∈ TT := tt_in 171 (by decide +kernel) (by decide +kernel)
theorem kg_X5_40 : afG RX5 40 5 6 := ⟨(RX5, TX5, 10), rfl, by decide, tl_X5, kw_X5_40⟩
theorem kp_X5_40 : afP RX5 40 5 6 true (.array (.object RX2)) := ⟨(RX5, TX5, 10), tyX5, rfl, by decide, tl_X5, kw_X5_40, tyX5_ok, nmX5, rfl, rfl, by decide +kernel⟩
theorem kw_X5_44 : Cond.fieldLink RX5 44 (TX5 7).1 (TX5 7).2.1 (TX5 7).2.2.1 ∈ TT := tt_in 172 (by decide +kernel) (by decide +kernel)
theorem kg_X5_44 : afG RX5 44 5 7 := ⟨(RX5, TX5, 10), rfl, by decide, tl_X5, kw_X5_44⟩
theorem kp_X5_44 : afP RX5 44 5 7 true (.array .boolean) := ⟨(RX5, TX5, 10), tyX5, rfl, by decide, tl_X5, kw_X5_44, tyX5_ok, nmX5, rfl, rfl, by decide +kernel⟩
theorem kw_X5_51 : Cond.fieldLink RX5 51 (TX5 8).1 (TX5 8).2.1 (TX5 8).2.2.1 ∈ TT := tt_in 173 (by decide +kernel) (by decide +kernel)
theorem kg_X5_51 : afG RX5 51 5 8 := ⟨(RX5, TX5, 10), rfl, by decide, tl_X5, kw_X5_51⟩
theorem kp_X5_51 : afP RX5 51 5 8 true (.object RX0) := ⟨(RX5, TX5, 10), tyX5, rfl, by decide, tl_X5, kw_X5_51, tyX5_ok, nmX5, rfl, rfl, by decide +kernel⟩
theorem kw_X5_58 : Cond.fieldLink RX5 58 (TX5 9).1 (TX5 9).2.1 (TX5 9).2.2.1 ∈ TT := tt_in 174 (by decide +kernel) (by decide +kernel)
theorem kg_X5_58 : afG RX5 58 5 9 := ⟨(RX5, TX5, 10), rfl, by decide, tl_X5, kw_X5_58⟩
theorem kp_X5_58 : afP RX5 58 5 9 true (.object RX4) := ⟨(RX5, TX5, 10), tyX5, rfl, by decide, tl_X5, kw_X5_58, tyX5_ok, nmX5, rfl, rfl, by decide +kernel⟩
theorem kw_X6_7 : Cond.fieldLink RX6 7 (TX6 0).1 (TX6 0).2.1 (TX6 0).2.2.1 ∈ TT := tt_in 567 (by decide +kernel) (by decide +kernel)
theorem kg_X6_7 : afG RX6 7 6 0 := ⟨(RX6, TX6, 25), rfl, by decide, tl_X6, kw_X6_7⟩
theorem kp_X6_7 : afP RX6 7 6 0 true (.array .int) := ⟨(RX6, TX6, 25), tyX6, rfl, by decide, tl_X6, kw_X6_7, tyX6_ok, nmX6, rfl, rfl, by decide +kernel⟩
theorem kw_X6_13 : Cond.fieldLink RX6 13 (TX6 1).1 (TX6 1).2.1 (TX6 1).2.2.1 ∈ TT := tt_in 568 (by decide +kernel) (by decide +kernel)
theorem kg_X6_13 : afG RX6 13 6 1 := ⟨(RX6, TX6, 25), rfl, by decide, tl_X6, kw_X6_13⟩
theorem kp_X6_13 : afP RX6 13 6 1 true (.array .boolean) := ⟨(RX6, TX6, 25), tyX6, rfl, by decide, tl_X6, kw_X6_13, tyX6_ok, nmX6, rfl, rfl, by decide +kernel⟩
theorem kw_X6_55 : Cond.fieldLink RX6 55 (TX6 2).1 (TX6 2).2.1 (TX6 2).2.2.1 ∈ TT := tt_in 569 (by decide +kernel) (by decide +kernel)
theorem kg_X6_55 : afG RX6 55 6 2 := ⟨(RX6, TX6, 25), rfl, by decide, tl_X6, kw_X6_55⟩
theorem kp_X6_55 : afP RX6 55 6 2 false .int := ⟨(RX6, TX6, 25), tyX6, rfl, by decide, tl_X6, kw_X6_55, tyX6_ok, nmX6, rfl, rfl, by decide +kernel⟩
theorem kw_X6_17 : Cond.fieldLink RX6 17 (TX6 3).1 (TX6 3).2.1 (TX6 3).2.2.1 ∈ TT := tt_in 570 (by decide +kernel) (by decide +kernel)
theorem kg_X6_17 : afG RX6 17 6 3 := ⟨(RX6, TX6, 25), rfl, by decide, tl_X6, kw_X6_17⟩
theorem kp_X6_17 : afP RX6 17 6 3 false .int := ⟨(RX6, TX6, 25), tyX6, rfl, by decide, tl_X6, kw_X6_17, tyX6_ok, nmX6, rfl, rfl, by decide +kernel⟩
theorem kw_X6_21 : Cond.fieldLink RX6 21 (TX6 4).1 (TX6 4).2.1 (TX6 4).2.2.1 ∈ TT := tt_in 571 (by decide +kernel) (by decide +kernel)
theorem kg_X6_21 : afG RX6 21 6 4 := ⟨(RX6, TX6, 25), rfl, by decide, tl_X6, kw_X6_21⟩
theorem kp_X6_21 : afP RX6 21 6 4 false .int := ⟨(RX6, TX6, 25), tyX6, rfl, by decide, tl_X6, kw_X6_21, tyX6_ok, nmX6, rfl, rfl, by decide +kernel⟩
theorem kw_X6_24 : Cond.fieldLink RX6 24 (TX6 5).1 (TX6 5).2.1 (TX6 5).2.2.1 ∈ TT := tt_in 572 (by decide +kernel) (by decide +kernel)
theorem kg_X6_24 : afG RX6 24 6 5 := ⟨(RX6, TX6, 25), rfl, by decide, tl_X6, kw_X6_24⟩
theorem kp_X6_24 : afP RX6 24 6 5 true (.array .int) := ⟨(RX6, TX6, 25), tyX6, rfl, by decide, tl_X6, kw_X6_24, tyX6_ok, nmX6, rfl, rfl, by decide +kernel⟩
theorem kw_X6_27 : Cond.fieldLink RX6 27 (TX6 6).1 (TX6 6).2.1 (TX6 6).2.2.1 ∈ TT := tt_in 573 (by decide +kernel) (by decide +kernel)
theorem kg_X6_27 : afG RX6 27 6 6 := ⟨(RX6, TX6, 25), rfl, by decide, tl_X6, kw_X6_27⟩
theorem kp_X6_27 : afP RX6 27 6 6 true (.array .int) := ⟨(RX6, TX6, 25), tyX6, rfl, by decide, tl_X6, kw_X6_27, tyX6_ok, nmX6, rfl, rfl, by decide +kernel⟩
theorem kw_X6_30 : Cond.fieldLink RX6 30 (TX6 7).1 (TX6 7).2.1 (TX6 7).2.2.1 ∈ TT := tt_in 574 (by decide +kernel) (by decide +kernel)
theorem kg_X6_30 : afG RX6 30 6 7 := ⟨(RX6, TX6, 25), rfl, by decide, tl_X6, kw_X6_30⟩
theorem kp_X6_30 : afP RX6 30 6 7 true (.array .int) := ⟨(RX6, TX6, 25), tyX6, rfl, by decide, tl_X6, kw_X6_30, tyX6_ok, nmX6, rfl, rfl, by decide +kernel⟩
theorem kw_X6_123 : Cond.fieldLink RX6 123 (TX6 8).1 (TX6 8).2.1 (TX6 8).2.2.1 ∈ TT := tt_in 575 (by decide +kernel) (by decide +kernel)
theorem kg_X6_123 : afG RX6 123 6 8 := ⟨(RX6, TX6, 25), rfl, by decide, tl_X6, kw_X6_123⟩
theorem kp_X6_123 : afP RX6 123 6 8 false .int := ⟨(RX6, TX6, 25), tyX6, rfl, by decide, tl_X6, kw_X6_123, tyX6_ok, nmX6, rfl, rfl, by decide +kernel⟩
theorem kw_X6_33 : Cond.fieldLink RX6 33 (TX6 9).1 (TX6 9).2.1 (TX6 9).2.2.1 ∈ TT := tt_in 576 (by decide +kernel) (by decide +kernel)
theorem kg_X6_33 : afG RX6 33 6 9 := ⟨(RX6, TX6, 25), rfl, by decide, tl_X6, kw_X6_33⟩
theorem kp_X6_33 : afP RX6 33 6 9 true (.array .int) := ⟨(RX6, TX6, 25), tyX6, rfl, by decide, tl_X6, kw_X6_33, tyX6_ok, nmX6, rfl, rfl, by decide +kernel⟩
theorem kw_X6_73 : Cond.fieldLink RX6 73 (TX6 10).1 (TX6 10).2.1 (TX6 10).2.2.1 ∈ TT := tt_in 577 (by decide +kernel) (by decide +kernel)
theorem kg_X6_73 : afG RX6 73 6 10 := ⟨(RX6, TX6, 25), rfl, by decide, tl_X6, kw_X6_73⟩
theorem kp_X6_73 : afP RX6 73 6 10 false .int := ⟨(RX6, TX6, 25), tyX6, rfl, by decide, tl_X6, kw_X6_73, tyX6_ok, nmX6, rfl, rfl, by decide +kernel⟩
theorem kw_X6_70 : Cond.fieldLink RX6 70 (TX6 11).1 (TX6 11).2.1 (TX6 11).2.2.1 ∈ TT := tt_in 578 (by decide +kernel) (by decide +kernel)
theorem kg_X6_70 : afG RX6 70 6 11 := ⟨(RX6, TX6, 25), rfl, by decide, tl_X6, kw_X6_70⟩
theorem kp_X6_70 : afP RX6 70 6 11 false .int := ⟨(RX6, TX6, 25), tyX6, rfl, by decide, tl_X6, kw_X6_70, tyX6_ok, nmX6, rfl, rfl, by decide +kernel⟩
theorem kw_X6_76 : Cond.fieldLink RX6 76 (TX6 12).1 (TX6 12).2.1 (TX6 12).2.2.1 ∈ TT := tt_in 579 (by decide +kernel) (by decide +kernel)
theorem kg_X6_76 : afG RX6 76 6 12 := ⟨(RX6, TX6, 25), rfl, by decide, tl_X6, kw_X6_76⟩
theorem kp_X6_76 : afP RX6 76 6 12 false .int := ⟨(RX6, TX6, 25), tyX6, rfl, by decide, tl_X6, kw_X6_76, tyX6_ok, nmX6, rfl, rfl, by decide +kernel⟩
theorem kw_X6_79 : Cond.fieldLink RX6 79 (TX6 13).1 (TX6 13).2.1 (TX6 13).2.2.1 ∈ TT := tt_in 580 (by decide +kernel) (by decide +kernel)
theorem kg_X6_79 : afG RX6 79 6 13 := ⟨(RX6, TX6, 25), rfl, by decide, tl_X6, kw_X6_79⟩
theorem kp_X6_79 : afP RX6 79 6 13 false .int := ⟨(RX6, TX6, 25), tyX6, rfl, by decide, tl_X6, kw_X6_79, tyX6_ok, nmX6, rfl, rfl, by decide +kernel⟩
theorem kw_X6_89 : Cond.fieldLink RX6 89 (TX6 14).1 (TX6 14).2.1 (TX6 14).2.2.1 ∈ TT := tt_in 581 (by decide +kernel) (by decide +kernel)
theorem kg_X6_89 : afG RX6 89 6 14 := ⟨(RX6, TX6, 25), rfl, by decide, tl_X6, kw_X6_89⟩
theorem kp_X6_89 : afP RX6 89 6 14 false .int := ⟨(RX6, TX6, 25), tyX6, rfl, by decide, tl_X6, kw_X6_89, tyX6_ok, nmX6, rfl, rfl, by decide +kernel⟩
theorem kw_X6_96 : Cond.fieldLink RX6 96 (TX6 15).1 (TX6 15).2.1 (TX6 15).2.2.1 ∈ TT := tt_in 582 (by decide +kernel) (by decide +kernel)
theorem kg_X6_96 : afG RX6 96 6 15 := ⟨(RX6, TX6, 25), rfl, by decide, tl_X6, kw_X6_96⟩
theorem kp_X6_96 : afP RX6 96 6 15 false .int := ⟨(RX6, TX6, 25), tyX6, rfl, by decide, tl_X6, kw_X6_96, tyX6_ok, nmX6, rfl, rfl, by decide +kernel⟩
theorem kw_X6_99 : Cond.fieldLink RX6 99 (TX6 16).1 (TX6 16).2.1 (TX6 16).2.2.1 ∈ TT := tt_in 583 (by decide +kernel) (by decide +kernel)
theorem kg_X6_99 : afG RX6 99 6 16 := ⟨(RX6, TX6, 25), rfl, by decide, tl_X6, kw_X6_99⟩
theorem kp_X6_99 : afP RX6 99 6 16 false .int := ⟨(RX6, TX6, 25), tyX6, rfl, by decide, tl_X6, kw_X6_99, tyX6_ok, nmX6, rfl, rfl, by decide +kernel⟩
theorem kw_X6_106 : Cond.fieldLink RX6 106 (TX6 17).1 (TX6 17).2.1 (TX6 17).2.2.1 ∈ TT := tt_in 584 (by decide +kernel) (by decide +kernel)
theorem kg_X6_106 : afG RX6 106 6 17 := ⟨(RX6, TX6, 25), rfl, by decide, tl_X6, kw_X6_106⟩
theorem kp_X6_106 : afP RX6 106 6 17 false .int := ⟨(RX6, TX6, 25), tyX6, rfl, by decide, tl_X6, kw_X6_106, tyX6_ok, nmX6, rfl, rfl, by decide +kernel⟩
theorem kw_X6_36 : Cond.fieldLink RX6 36 (TX6 18).1 (TX6 18).2.1 (TX6 18).2.2.1 ∈ TT := tt_in 585 (by decide +kernel) (by decide +kernel)
theorem kg_X6_36 : afG RX6 36 6 18 := ⟨(RX6, TX6, 25), rfl, by decide, tl_X6, kw_X6_36⟩
theorem kp_X6_36 : afP RX6 36 6 18 true (.array .int) := ⟨(RX6, TX6, 25), tyX6, rfl, by decide, tl_X6, kw_X6_36, tyX6_ok, nmX6, rfl, rfl, by decide +kernel⟩
theorem kw_X6_39 : Cond.fieldLink RX6 39 (TX6 19).1 (TX6 19).2.1 (TX6 19).2.2.1 ∈ TT := tt_in 586 (by decide +kernel) (by decide +kernel)
theorem kg_X6_39 : afG RX6 39 6 19 := ⟨(RX6, TX6, 25), rfl, by decide, tl_X6, kw_X6_39⟩
theorem kp_X6_39 : afP RX6 39 6 19 true (.array .int) := ⟨(RX6, TX6, 25), tyX6, rfl, by decide, tl_X6, kw_X6_39, tyX6_ok, nmX6, rfl, rfl, by decide +kernel⟩
theorem kw_X6_42 : Cond.fieldLink RX6 42 (TX6 20).1 (TX6 20).2.1 (TX6 20).2.2.1 ∈ TT := tt_in 587 (by decide +kernel) (by decide +kernel)
theorem kg_X6_42 : afG RX6 42 6 20 := ⟨(RX6, TX6, 25), rfl, by decide, tl_X6, kw_X6_42⟩
theorem kp_X6_42 : afP RX6 42 6 20 true (.array .long) := ⟨(RX6, TX6, 25), tyX6, rfl, by decide, tl_X6, kw_X6_42, tyX6_ok, nmX6, rfl, rfl, by decide +kernel⟩
theorem kw_X6_46 : Cond.fieldLink RX6 46 (TX6 21).1 (TX6 21).2.1 (TX6 21).2.2.1 ∈ TT := tt_in 588 (by decide +kernel) (by decide +kernel)
theorem kg_X6_46 : afG RX6 46 6 21 := ⟨(RX6, TX6, 25), rfl, by decide, tl_X6, kw_X6_46⟩
theorem kp_X6_46 : afP RX6 46 6 21 true (.array .long) := ⟨(RX6, TX6, 25), tyX6, rfl, by decide, tl_X6, kw_X6_46, tyX6_ok, nmX6, rfl, rfl, by decide +kernel⟩
theorem kw_X6_49 : Cond.fieldLink RX6 49 (TX6 22).1 (TX6 22).2.1 (TX6 22).2.2.1 ∈ TT := tt_in 589 (by decide +kernel) (by decide +kernel)
theorem kg_X6_49 : afG RX6 49 6 22 := ⟨(RX6, TX6, 25), rfl, by decide, tl_X6, kw_X6_49⟩
theorem kp_X6_49 : afP RX6 49 6 22 true (.array .int) := ⟨(RX6, TX6, 25), tyX6, rfl, by decide, tl_X6, kw_X6_49, tyX6_ok, nmX6, rfl, rfl, by decide +kernel⟩
theorem kw_X6_52 : Cond.fieldLink RX6 52 (TX6 23).1 (TX6 23).2.1 (TX6 23).2.2.1 ∈ TT := tt_in 590 (by decide +kernel) (by decide +kernel)
theorem kg_X6_52 : afG RX6 52 6 23 := ⟨(RX6, TX6, 25), rfl, by decide, tl_X6, kw_X6_52⟩
theorem kp_X6_52 : afP RX6 52 6 23 true (.array .int) := ⟨(RX6, TX6, 25), tyX6, rfl, by decide, tl_X6, kw_X6_52, tyX6_ok, nmX6, rfl, rfl, by decide +kernel⟩
theorem kw_X6_134 : Cond.fieldLink RX6 134 (TX6 24).1 (TX6 24).2.1 (TX6 24).2.2.1 ∈ TT := tt_in 591 (by decide +kernel) (by decide +kernel)
theorem kg_X6_134 : afG RX6 134 6 24 := ⟨(RX6, TX6, 25), rfl, by decide, tl_X6, kw_X6_134⟩
theorem kp_X6_134 : afP RX6 134 6 24 false .int := ⟨(RX6, TX6, 25), tyX6, rfl, by decide, tl_X6, kw_X6_134, tyX6_ok, nmX6, rfl, rfl, by decide +kernel⟩
theorem kn_L_7 : Cond.classLink RL 7 RX5 ∈ TT := tt_in 46 (by decide +kernel) (by decide +kernel)
theorem kn_X5_16 : Cond.classLink RX5 16 RX2 ∈ TT := tt_in 54 (by decide +kernel) (by decide +kernel)
theorem ka_int : Cond.arrayClass .int ∈ TT := tt_in 67 (by decide +kernel) (by decide +kernel)
theorem kn_X5_26 : Cond.classLink RX5 26 RX3 ∈ TT := tt_in 68 (by decide +kernel) (by decide +kernel)
theorem kn_X3_37 : Cond.classLink RX3 37 RX2 ∈ TT := tt_in 74 (by decide +kernel) (by decide +kernel)
theorem ka_char : Cond.arrayClass .char ∈ TT := tt_in 104 (by decide +kernel) (by decide +kernel)
theorem kn_X5_33 : Cond.classLink RX5 33 RX1 ∈ TT := tt_in 105 (by decide +kernel) (by decide +kernel)
theorem kn_X1_9 : Cond.classLink RX1 9 RX2 ∈ TT := tt_in 111 (by decide +kernel) (by decide +kernel)
theorem kn_X5_48 : Cond.classLink RX5 48 RX0 ∈ TT := tt_in 121 (by decide +kernel) (by decide +kernel)
theorem kn_X0_18 : Cond.classLink RX0 18 "[[I" ∈ TT := tt_in 127 (by decide +kernel) (by decide +kernel)
theorem ka_boolean : Cond.arrayClass .boolean ∈ TT := tt_in 145 (by decide +kernel) (by decide +kernel)
theorem kn_X5_55 : Cond.classLink RX5 55 RX4 ∈ TT := tt_in 146 (by decide +kernel) (by decide +kernel)
theorem kl_X2_29 : Cond.constantLong RX2 29 (lL 1000000) ∈ TT := tt_in 281 (by decide +kernel) (by decide +kernel)
theorem kl_X5_204 : Cond.constantLong RX5 204 (lL 2) ∈ TT := tt_in 340 (by decide +kernel) (by decide +kernel)
theorem kl_X0_78 : Cond.constantLong RX0 78 (lL 60) ∈ TT := tt_in 371 (by decide +kernel) (by decide +kernel)
theorem kl_X5_206 : Cond.constantLong RX5 206 (lL 3) ∈ TT := tt_in 422 (by decide +kernel) (by decide +kernel)
theorem kl_X5_208 : Cond.constantLong RX5 208 (lL 4) ∈ TT := tt_in 423 (by decide +kernel) (by decide +kernel)
theorem kl_X5_210 : Cond.constantLong RX5 210 (lL 6) ∈ TT := tt_in 424 (by decide +kernel) (by decide +kernel)
theorem ki_J6_265 : Cond.constant RJ6 265 (iI 1431655765) ∈ TT := tt_in 546 (by decide +kernel) (by decide +kernel)
theorem ki_J6_266 : Cond.constant RJ6 266 (iI 858993459) ∈ TT := tt_in 547 (by decide +kernel) (by decide +kernel)
theorem ki_J6_267 : Cond.constant RJ6 267 (iI 252645135) ∈ TT := tt_in 548 (by decide +kernel) (by decide +kernel)
theorem kn_L_10 : Cond.classLink RL 10 RX6 ∈ TT := tt_in 561 (by decide +kernel) (by decide +kernel)
theorem ka_long : Cond.arrayClass .long ∈ TT := tt_in 643 (by decide +kernel) (by decide +kernel)
theorem kl_X6_118 : Cond.constantLong RX6 118 (lL 255) ∈ TT := tt_in 648 (by decide +kernel) (by decide +kernel)
theorem kl_X6_62 : Cond.constantLong RX6 62 (lL 48) ∈ TT := tt_in 671 (by decide +kernel) (by decide +kernel)
theorem kl_X6_64 : Cond.constantLong RX6 64 (lL 57) ∈ TT := tt_in 672 (by decide +kernel) (by decide +kernel)
theorem kl_X6_126 : Cond.constantLong RX6 126 (lL 2) ∈ TT := tt_in 701 (by decide +kernel) (by decide +kernel)
theorem kl_X6_128 : Cond.constantLong RX6 128 (lL 1000000) ∈ TT := tt_in 702 (by decide +kernel) (by decide +kernel)
theorem kl_X6_154 : Cond.constantLong RX6 154 (lL 5) ∈ TT := tt_in 710 (by decide +kernel) (by decide +kernel)
theorem kl_X6_137 : Cond.constantLong RX6 137 (lL 60) ∈ TT := tt_in 711 (by decide +kernel) (by decide +kernel)
theorem kl_X6_159 : Cond.constantLong RX6 159 (lL 3) ∈ TT := tt_in 740 (by decide +kernel) (by decide +kernel)
theorem kl_X6_168 : Cond.constantLong RX6 168 (lL 4) ∈ TT := tt_in 768 (by decide +kernel) (by decide +kernel)
theorem kl_X6_170 : Cond.constantLong RX6 170 (lL 6) ∈ TT := tt_in 769 (by decide +kernel) (by decide +kernel)
theorem kl_X6_193 : Cond.constantLong RX6 193 (lL 7) ∈ TT := tt_in 798 (by decide +kernel) (by decide +kernel)
theorem kl_X6_195 : Cond.constantLong RX6 195 (lL 999) ∈ TT := tt_in 799 (by decide +kernel) (by decide +kernel)
theorem kl_X6_200 : Cond.constantLong RX6 200 (lL 24) ∈ TT := tt_in 810 (by decide +kernel) (by decide +kernel)
theorem kl_X6_202 : Cond.constantLong RX6 202 (lL 31) ∈ TT := tt_in 811 (by decide +kernel) (by decide +kernel)
theorem kt_X0 : Cond.instantiable RX0 5 ∈ TT := tt_in 122 (by decide +kernel) (by decide +kernel)
theorem kt_X1 : Cond.instantiable RX1 2 ∈ TT := tt_in 106 (by decide +kernel) (by decide +kernel)
theorem kt_X2 : Cond.instantiable RX2 2 ∈ TT := tt_in 55 (by decide +kernel) (by decide +kernel)
theorem kt_X3 : Cond.instantiable RX3 9 ∈ TT := tt_in 69 (by decide +kernel) (by decide +kernel)
theorem kt_X4 : Cond.instantiable RX4 4 ∈ TT := tt_in 147 (by decide +kernel) (by decide +kernel)
theorem kt_X5 : Cond.instantiable RX5 10 ∈ TT := tt_in 47 (by decide +kernel) (by decide +kernel)
theorem kt_X6 : Cond.instantiable RX6 25 ∈ TT := tt_in 562 (by decide +kernel) (by decide +kernel)
end
section
/-! calls by what they answer, writes with a heap that has a name -/
def aqi (n : Nat) (P : Int → AH → Prop) : AQ := fun r n' h' => n' = n ∧ ∃ a, r = some (aI a) ∧ P a h'
def aql (n : Nat) (P : Int → AH → Prop) : AQ := fun r n' h' => n' = n ∧ ∃ a, r = some (aL a) ∧ P a h'
def aqr (n : Nat) (P : Nat → AH → Prop) : AQ := fun r n' h' => n' = n ∧ ∃ a, r = some (aR a) ∧ P a h'
def aqv (n : Nat) (P : AH → Prop) : AQ := fun r n' h' => n' = n ∧ r = none ∧ P h'
section AWN
variable {M N : AM} {Z : AZ} {n : Nat} {h : AH} {pc : Nat} {L : List (Option AV)} {st : List AV} {d D idx : Nat} {b ci : Nat} {fs : List AV}
theorem aw_Vi0 {P : Int → AH → Prop} (hc : ac_V M.1.cls idx N) (hM : AC N d 0 0 n h [aR b] (aqi n P)) (hb : h b = aO ci fs) (hci : (vwCl[ci]?).map (fun q => q.1) = some N.1.cls) (hn : 0 = N.2.2.2.2) (hf : d + 1 ≤ D) (hw : (st.map am_cat).sum ≤ 8) (hd : decode M.2.1 pc = .ok (.invokevirtual idx, 3)) (kk : ∀ a h', P a h' → AW M (am_R D 0 0) Z 0 0 n h' (pc + 3) L (aI a :: st)) : AW M (am_R D 0 0) Z 0 0 n h pc L (aR b :: st) :=
  aw_callV (R := am_R D 0 0) (As := []) hc hM hb hci hn hf (by show 64 * d + 59 ≤ 64 * D; omega) (Nat.le_refl _) (Nat.le_refl _) hw hd (fun r n' h' hq => by
    obtain ⟨rfl, a, rfl, hp⟩ := hq
    exact kk a h' hp)
theorem aw_Vi1 {x1 : AV} {P : Int → AH → Prop} (hc : ac_V M.1.cls idx N) (hM : AC N d 0 0 n h [aR b, x1] (aqi n P)) (hb : h b = aO ci fs) (hci : (vwCl[ci]?).map (fun q => q.1) = some N.1.cls) (hn : 1 = N.2.2.2.2) (hf : d + 1 ≤ D) (hw : (st.map am_cat).sum ≤ 8) (hd : decode M.2.1 pc = .ok (.invokevirtual idx, 3)) (kk : ∀ a h', P a h' → AW M (am_R D 0 0) Z 0 0 n h' (pc + 3) L (aI a :: st)) : AW M (am_R D 0 0) Z 0 0 n h pc L (x1 :: aR b :: st) :=
  aw_callV (R := am_R D 0 0) (As := [x1]) hc hM hb hci hn hf (by show 64 * d + 59 ≤ 64 * D; omega) (Nat.le_refl _) (Nat.le_refl _) hw hd (fun r n' h' hq => by
    obtain ⟨rfl, a, rfl, hp⟩ := hq
    exact kk a h' hp)
theorem aw_Vi2 {x1 x2 : AV} {P : Int → AH → Prop} (hc : ac_V M.1.cls idx N) (hM : AC N d 0 0 n h [aR b, x1, x2] (aqi n P)) (hb : h b = aO ci fs) (hci : (vwCl[ci]?).map (fun q => q.1) = some N.1.cls) (hn : 2 = N.2.2.2.2) (hf : d + 1 ≤ D) (hw : (st.map am_cat).sum ≤ 8) (hd : decode M.2.1 pc = .ok (.invokevirtual idx, 3)) (kk : ∀ a h', P a h' → AW M (am_R D 0 0) Z 0 0 n h' (pc + 3) L (aI a :: st)) : AW M (am_R D 0 0) Z 0 0 n h pc L (x2 :: x1 :: aR b :: st) :=
  aw_callV (R := am_R D 0 0) (As := [x1, x2]) hc hM hb hci hn hf (by show 64 * d + 59 ≤ 64 * D; omega) (Nat.le_refl _) (Nat.le_refl _) hw hd (fun r n' h' hq => by
    obtain ⟨rfl, a, rfl, hp⟩ := hq
    exact kk a h' hp)
theorem aw_Vi3 {x1 x2 x3 : AV} {P : Int → AH → Prop} (hc : ac_V M.1.cls idx N) (hM : AC N d 0 0 n h [aR b, x1, x2, x3] (aqi n P)) (hb : h b = aO ci fs) (hci : (vwCl[ci]?).map (fun q => q.1) = some N.1.cls) (hn : 3 = N.2.2.2.2) (hf : d + 1 ≤ D) (hw : (st.map am_cat).sum ≤ 8) (hd : decode M.2.1 pc = .ok (.invokevirtual idx, 3)) (kk : ∀ a h', P a h' → AW M (am_R D 0 0) Z 0 0 n h' (pc + 3) L (aI a :: st)) : AW M (am_R D 0 0) Z 0 0 n h pc L (x3 :: x2 :: x1 :: aR b :: st) :=
  aw_callV (R := am_R D 0 0) (As := [x1, x2, x3]) hc hM hb hci hn hf (by show 64 * d + 59 ≤ 64 * D; omega) (Nat.le_refl _) (Nat.le_refl _) hw hd (fun r n' h' hq => by
    obtain ⟨rfl, a, rfl, hp⟩ := hq
    exact kk a h' hp)
theorem aw_Vi4 {x1 x2 x3 x4 : AV} {P : Int → AH → Prop} (hc : ac_V M.1.cls idx N) (hM : AC N d 0 0 n h [aR b, x1, x2, x3, x4] (aqi n P)) (hb : h b = aO ci fs) (hci : (vwCl[ci]?).map (fun q => q.1) = some N.1.cls) (hn : 4 = N.2.2.2.2) (hf : d + 1 ≤ D) (hw : (st.map am_cat).sum ≤ 8) (hd : decode M.2.1 pc = .ok (.invokevirtual idx, 3)) (kk : ∀ a h', P a h' → AW M (am_R D 0 0) Z 0 0 n h' (pc + 3) L (aI a :: st)) : AW M (am_R D 0 0) Z 0 0 n h pc L (x4 :: x3 :: x2 :: x1 :: aR b :: st) :=
  aw_callV (R := am_R D 0 0) (As := [x1, x2, x3, x4]) hc hM hb hci hn hf (by show 64 * d + 59 ≤ 64 * D; omega) (Nat.le_refl _) (Nat.le_refl _) hw hd (fun r n' h' hq => by
    obtain ⟨rfl, a, rfl, hp⟩ := hq
    exact kk a h' hp)
theorem aw_Vi5 {x1 x2 x3 x4 x5 : AV} {P : Int → AH → Prop} (hc : ac_V M.1.cls idx N) (hM : AC N d 0 0 n h [aR b, x1, x2, x3, x4, x5] (aqi n P)) (hb : h b = aO ci fs) (hci : (vwCl[ci]?).map (fun q => q.1) = some N.1.cls) (hn : 5 = N.2.2.2.2) (hf : d + 1 ≤ D) (hw : (st.map am_cat).sum ≤ 8) (hd : decode M.2.1 pc = .ok (.invokevirtual idx, 3)) (kk : ∀ a h', P a h' → AW M (am_R D 0 0) Z 0 0 n h' (pc + 3) L (aI a :: st)) : AW M (am_R D 0 0) Z 0 0 n h pc L (x5 :: x4 :: x3 :: x2 :: x1 :: aR b :: st) :=
  aw_callV (R := am_R D 0 0) (As := [x1, x2, x3, x4, x5]) hc hM hb hci hn hf (by show 64 * d + 59 ≤ 64 * D; omega) (Nat.le_refl _) (Nat.le_refl _) hw hd (fun r n' h' hq => by
    obtain ⟨rfl, a, rfl, hp⟩ := hq
    exact kk a h' hp)
theorem aw_Vr0 {P : Nat → AH → Prop} (hc : ac_V M.1.cls idx N) (hM : AC N d 0 0 n h [aR b] (aqr n P)) (hb : h b = aO ci fs) (hci : (vwCl[ci]?).map (fun q => q.1) = some N.1.cls) (hn : 0 = N.2.2.2.2) (hf : d + 1 ≤ D) (hw : (st.map am_cat).sum ≤ 8) (hd : decode M.2.1 pc = .ok (.invokevirtual idx, 3)) (kk : ∀ a h', P a h' → AW M (am_R D 0 0) Z 0 0 n h' (pc + 3) L (aR a :: st)) : AW M (am_R D 0 0) Z 0 0 n h pc L (aR b :: st) :=
  aw_callV (R := am_R D 0 0) (As := []) hc hM hb hci hn hf (by show 64 * d + 59 ≤ 64 * D; omega) (Nat.le_refl _) (Nat.le_refl _) hw hd (fun r n' h' hq => by
    obtain ⟨rfl, a, rfl, hp⟩ := hq
    exact kk a h' hp)
theorem aw_Vv0 {P : AH → Prop} (hc : ac_V M.1.cls idx N) (hM : AC N d 0 0 n h [aR b] (aqv n P)) (hb : h b = aO ci fs) (hci : (vwCl[ci]?).map (fun q => q.1) = some N.1.cls) (hn : 0 = N.2.2.2.2) (hf : d + 1 ≤ D) (hw : (st.map am_cat).sum ≤ 8) (hd : decode M.2.1 pc = .ok (.invokevirtual idx, 3)) (kk : ∀ h', P h' → AW M (am_R D 0 0) Z 0 0 n h' (pc + 3) L (st)) : AW M (am_R D 0 0) Z 0 0 n h pc L (aR b :: st) :=
  aw_callV (R := am_R D 0 0) (As := []) hc hM hb hci hn hf (by show 64 * d + 59 ≤ 64 * D; omega) (Nat.le_refl _) (Nat.le_refl _) hw hd (fun r n' h' hq => by
    obtain ⟨rfl, rfl, hp⟩ := hq
    exact kk h' hp)
theorem aw_Vv1 {x1 : AV} {P : AH → Prop} (hc : ac_V M.1.cls idx N) (hM : AC N d 0 0 n h [aR b, x1] (aqv n P)) (hb : h b = aO ci fs) (hci : (vwCl[ci]?).map (fun q => q.1) = some N.1.cls) (hn : 1 = N.2.2.2.2) (hf : d + 1 ≤ D) (hw : (st.map am_cat).sum ≤ 8) (hd : decode M.2.1 pc = .ok (.invokevirtual idx, 3)) (kk : ∀ h', P h' → AW M (am_R D 0 0) Z 0 0 n h' (pc + 3) L (st)) : AW M (am_R D 0 0) Z 0 0 n h pc L (x1 :: aR b :: st) :=
  aw_callV (R := am_R D 0 0) (As := [x1]) hc hM hb hci hn hf (by show 64 * d + 59 ≤ 64 * D; omega) (Nat.le_refl _) (Nat.le_refl _) hw hd (fun r n' h' hq => by
    obtain ⟨rfl, rfl, hp⟩ := hq
    exact kk h' hp)
theorem aw_Vv2 {x1 x2 : AV} {P : AH → Prop} (hc : ac_V M.1.cls idx N) (hM : AC N d 0 0 n h [aR b, x1, x2] (aqv n P)) (hb : h b = aO ci fs) (hci : (vwCl[ci]?).map (fun q => q.1) = some N.1.cls) (hn : 2 = N.2.2.2.2) (hf : d + 1 ≤ D) (hw : (st.map am_cat).sum ≤ 8) (hd : decode M.2.1 pc = .ok (.invokevirtual idx, 3)) (kk : ∀ h', P h' → AW M (am_R D 0 0) Z 0 0 n h' (pc + 3) L (st)) : AW M (am_R D 0 0) Z 0 0 n h pc L (x2 :: x1 :: aR b :: st) :=
  aw_callV (R := am_R D 0 0) (As := [x1, x2]) hc hM hb hci hn hf (by show 64 * d + 59 ≤ 64 * D; omega) (Nat.le_refl _) (Nat.le_refl _) hw hd (fun r n' h' hq => by
    obtain ⟨rfl, rfl, hp⟩ := hq
    exact kk h' hp)
theorem aw_Vv3 {x1 x2 x3 : AV} {P : AH → Prop} (hc : ac_V M.1.cls idx N) (hM : AC N d 0 0 n h [aR b, x1, x2, x3] (aqv n P)) (hb : h b = aO ci fs) (hci : (vwCl[ci]?).map (fun q => q.1) = some N.1.cls) (hn : 3 = N.2.2.2.2) (hf : d + 1 ≤ D) (hw : (st.map am_cat).sum ≤ 8) (hd : decode M.2.1 pc = .ok (.invokevirtual idx, 3)) (kk : ∀ h', P h' → AW M (am_R D 0 0) Z 0 0 n h' (pc + 3) L (st)) : AW M (am_R D 0 0) Z 0 0 n h pc L (x3 :: x2 :: x1 :: aR b :: st) :=
  aw_callV (R := am_R D 0 0) (As := [x1, x2, x3]) hc hM hb hci hn hf (by show 64 * d + 59 ≤ 64 * D; omega) (Nat.le_refl _) (Nat.le_refl _) hw hd (fun r n' h' hq => by
    obtain ⟨rfl, rfl, hp⟩ := hq
    exact kk h' hp)
theorem aw_Vv4 {x1 x2 x3 x4 : AV} {P : AH → Prop} (hc : ac_V M.1.cls idx N) (hM : AC N d 0 0 n h [aR b, x1, x2, x3, x4] (aqv n P)) (hb : h b = aO ci fs) (hci : (vwCl[ci]?).map (fun q => q.1) = some N.1.cls) (hn : 4 = N.2.2.2.2) (hf : d + 1 ≤ D) (hw : (st.map am_cat).sum ≤ 8) (hd : decode M.2.1 pc = .ok (.invokevirtual idx, 3)) (kk : ∀ h', P h' → AW M (am_R D 0 0) Z 0 0 n h' (pc + 3) L (st)) : AW M (am_R D 0 0) Z 0 0 n h pc L (x4 :: x3 :: x2 :: x1 :: aR b :: st) :=
  aw_callV (R := am_R D 0 0) (As := [x1, x2, x3, x4]) hc hM hb hci hn hf (by show 64 * d + 59 ≤ 64 * D; omega) (Nat.le_refl _) (Nat.le_refl _) hw hd (fun r n' h' hq => by
    obtain ⟨rfl, rfl, hp⟩ := hq
    exact kk h' hp)
theorem aw_Vv5 {x1 x2 x3 x4 x5 : AV} {P : AH → Prop} (hc : ac_V M.1.cls idx N) (hM : AC N d 0 0 n h [aR b, x1, x2, x3, x4, x5] (aqv n P)) (hb : h b = aO ci fs) (hci : (vwCl[ci]?).map (fun q => q.1) = some N.1.cls) (hn : 5 = N.2.2.2.2) (hf : d + 1 ≤ D) (hw : (st.map am_cat).sum ≤ 8) (hd : decode M.2.1 pc = .ok (.invokevirtual idx, 3)) (kk : ∀ h', P h' → AW M (am_R D 0 0) Z 0 0 n h' (pc + 3) L (st)) : AW M (am_R D 0 0) Z 0 0 n h pc L (x5 :: x4 :: x3 :: x2 :: x1 :: aR b :: st) :=
  aw_callV (R := am_R D 0 0) (As := [x1, x2, x3, x4, x5]) hc hM hb hci hn hf (by show 64 * d + 59 ≤ 64 * D; omega) (Nat.le_refl _) (Nat.le_refl _) hw hd (fun r n' h' hq => by
    obtain ⟨rfl, rfl, hp⟩ := hq
    exact kk h' hp)
theorem aw_Si0 {P : Int → AH → Prop} (hc : ac_S M.1.cls idx N) (hM : AC N d 0 0 n h [] (aqi n P)) (hn : 0 = N.2.2.2.2) (hf : d + 1 ≤ D) (hw : (st.map am_cat).sum ≤ 8) (hd : decode M.2.1 pc = .ok (.invokestatic idx, 3)) (kk : ∀ a h', P a h' → AW M (am_R D 0 0) Z 0 0 n h' (pc + 3) L (aI a :: st)) : AW M (am_R D 0 0) Z 0 0 n h pc L (st) :=
  aw_callS (R := am_R D 0 0) (As := []) hc hM hn hf (by show 64 * d + 59 ≤ 64 * D; omega) (Nat.le_refl _) (Nat.le_refl _) hw hd (fun r n' h' hq => by
    obtain ⟨rfl, a, rfl, hp⟩ := hq
    exact kk a h' hp)
theorem aw_Si1 {x1 : AV} {P : Int → AH → Prop} (hc : ac_S M.1.cls idx N) (hM : AC N d 0 0 n h [x1] (aqi n P)) (hn : 1 = N.2.2.2.2) (hf : d + 1 ≤ D) (hw : (st.map am_cat).sum ≤ 8) (hd : decode M.2.1 pc = .ok (.invokestatic idx, 3)) (kk : ∀ a h', P a h' → AW M (am_R D 0 0) Z 0 0 n h' (pc + 3) L (aI a :: st)) : AW M (am_R D 0 0) Z 0 0 n h pc L (x1 :: st) :=
  aw_callS (R := am_R D 0 0) (As := [x1]) hc hM hn hf (by show 64 * d + 59 ≤ 64 * D; omega) (Nat.le_refl _) (Nat.le_refl _) hw hd (fun r n' h' hq => by
    obtain ⟨rfl, a, rfl, hp⟩ := hq
    exact kk a h' hp)
theorem aw_Si2 {x1 x2 : AV} {P : Int → AH → Prop} (hc : ac_S M.1.cls idx N) (hM : AC N d 0 0 n h [x1, x2] (aqi n P)) (hn : 2 = N.2.2.2.2) (hf : d + 1 ≤ D) (hw : (st.map am_cat).sum ≤ 8) (hd : decode M.2.1 pc = .ok (.invokestatic idx, 3)) (kk : ∀ a h', P a h' → AW M (am_R D 0 0) Z 0 0 n h' (pc + 3) L (aI a :: st)) : AW M (am_R D 0 0) Z 0 0 n h pc L (x2 :: x1 :: st) :=
  aw_callS (R := am_R D 0 0) (As := [x1, x2]) hc hM hn hf (by show 64 * d + 59 ≤ 64 * D; omega) (Nat.le_refl _) (Nat.le_refl _) hw hd (fun r n' h' hq => by
    obtain ⟨rfl, a, rfl, hp⟩ := hq
    exact kk a h' hp)
theorem aw_Si3 {x1 x2 x3 : AV} {P : Int → AH → Prop} (hc : ac_S M.1.cls idx N) (hM : AC N d 0 0 n h [x1, x2, x3] (aqi n P)) (hn : 3 = N.2.2.2.2) (hf : d + 1 ≤ D) (hw : (st.map am_cat).sum ≤ 8) (hd : decode M.2.1 pc = .ok (.invokestatic idx, 3)) (kk : ∀ a h', P a h' → AW M (am_R D 0 0) Z 0 0 n h' (pc + 3) L (aI a :: st)) : AW M (am_R D 0 0) Z 0 0 n h pc L (x3 :: x2 :: x1 :: st) :=
  aw_callS (R := am_R D 0 0) (As := [x1, x2, x3]) hc hM hn hf (by show 64 * d + 59 ≤ 64 * D; omega) (Nat.le_refl _) (Nat.le_refl _) hw hd (fun r n' h' hq => by
    obtain ⟨rfl, a, rfl, hp⟩ := hq
    exact kk a h' hp)
theorem aw_Si4 {x1 x2 x3 x4 : AV} {P : Int → AH → Prop} (hc : ac_S M.1.cls idx N) (hM : AC N d 0 0 n h [x1, x2, x3, x4] (aqi n P)) (hn : 4 = N.2.2.2.2) (hf : d + 1 ≤ D) (hw : (st.map am_cat).sum ≤ 8) (hd : decode M.2.1 pc = .ok (.invokestatic idx, 3)) (kk : ∀ a h', P a h' → AW M (am_R D 0 0) Z 0 0 n h' (pc + 3) L (aI a :: st)) : AW M (am_R D 0 0) Z 0 0 n h pc L (x4 :: x3 :: x2 :: x1 :: st) :=
  aw_callS (R := am_R D 0 0) (As := [x1, x2, x3, x4]) hc hM hn hf (by show 64 * d + 59 ≤ 64 * D; omega) (Nat.le_refl _) (Nat.le_refl _) hw hd (fun r n' h' hq => by
    obtain ⟨rfl, a, rfl, hp⟩ := hq
    exact kk a h' hp)
theorem aw_Si5 {x1 x2 x3 x4 x5 : AV} {P : Int → AH → Prop} (hc : ac_S M.1.cls idx N) (hM : AC N d 0 0 n h [x1, x2, x3, x4, x5] (aqi n P)) (hn : 5 = N.2.2.2.2) (hf : d + 1 ≤ D) (hw : (st.map am_cat).sum ≤ 8) (hd : decode M.2.1 pc = .ok (.invokestatic idx, 3)) (kk : ∀ a h', P a h' → AW M (am_R D 0 0) Z 0 0 n h' (pc + 3) L (aI a :: st)) : AW M (am_R D 0 0) Z 0 0 n h pc L (x5 :: x4 :: x3 :: x2 :: x1 :: st) :=
  aw_callS (R := am_R D 0 0) (As := [x1, x2, x3, x4, x5]) hc hM hn hf (by show 64 * d + 59 ≤ 64 * D; omega) (Nat.le_refl _) (Nat.le_refl _) hw hd (fun r n' h' hq => by
    obtain ⟨rfl, a, rfl, hp⟩ := hq
    exact kk a h' hp)
theorem aw_Sl0 {P : Int → AH → Prop} (hc : ac_S M.1.cls idx N) (hM : AC N d 0 0 n h [] (aql n P)) (hn : 0 = N.2.2.2.2) (hf : d + 1 ≤ D) (hw : (st.map am_cat).sum ≤ 8) (hd : decode M.2.1 pc = .ok (.invokestatic idx, 3)) (kk : ∀ a h', P a h' → AW M (am_R D 0 0) Z 0 0 n h' (pc + 3) L (aL a :: st)) : AW M (am_R D 0 0) Z 0 0 n h pc L (st) :=
  aw_callS (R := am_R D 0 0) (As := []) hc hM hn hf (by show 64 * d + 59 ≤ 64 * D; omega) (Nat.le_refl _) (Nat.le_refl _) hw hd (fun r n' h' hq => by
    obtain ⟨rfl, a, rfl, hp⟩ := hq
    exact kk a h' hp)
theorem aw_Sl1 {x1 : AV} {P : Int → AH → Prop} (hc : ac_S M.1.cls idx N) (hM : AC N d 0 0 n h [x1] (aql n P)) (hn : 1 = N.2.2.2.2) (hf : d + 1 ≤ D) (hw : (st.map am_cat).sum ≤ 8) (hd : decode M.2.1 pc = .ok (.invokestatic idx, 3)) (kk : ∀ a h', P a h' → AW M (am_R D 0 0) Z 0 0 n h' (pc + 3) L (aL a :: st)) : AW M (am_R D 0 0) Z 0 0 n h pc L (x1 :: st) :=
  aw_callS (R := am_R D 0 0) (As := [x1]) hc hM hn hf (by show 64 * d + 59 ≤ 64 * D; omega) (Nat.le_refl _) (Nat.le_refl _) hw hd (fun r n' h' hq => by
    obtain ⟨rfl, a, rfl, hp⟩ := hq
    exact kk a h' hp)
theorem aw_Sl2 {x1 x2 : AV} {P : Int → AH → Prop} (hc : ac_S M.1.cls idx N) (hM : AC N d 0 0 n h [x1, x2] (aql n P)) (hn : 2 = N.2.2.2.2) (hf : d + 1 ≤ D) (hw : (st.map am_cat).sum ≤ 8) (hd : decode M.2.1 pc = .ok (.invokestatic idx, 3)) (kk : ∀ a h', P a h' → AW M (am_R D 0 0) Z 0 0 n h' (pc + 3) L (aL a :: st)) : AW M (am_R D 0 0) Z 0 0 n h pc L (x2 :: x1 :: st) :=
  aw_callS (R := am_R D 0 0) (As := [x1, x2]) hc hM hn hf (by show 64 * d + 59 ≤ 64 * D; omega) (Nat.le_refl _) (Nat.le_refl _) hw hd (fun r n' h' hq => by
    obtain ⟨rfl, a, rfl, hp⟩ := hq
    exact kk a h' hp)
theorem aw_Sl3 {x1 x2 x3 : AV} {P : Int → AH → Prop} (hc : ac_S M.1.cls idx N) (hM : AC N d 0 0 n h [x1, x2, x3] (aql n P)) (hn : 3 = N.2.2.2.2) (hf : d + 1 ≤ D) (hw : (st.map am_cat).sum ≤ 8) (hd : decode M.2.1 pc = .ok (.invokestatic idx, 3)) (kk : ∀ a h', P a h' → AW M (am_R D 0 0) Z 0 0 n h' (pc + 3) L (aL a :: st)) : AW M (am_R D 0 0) Z 0 0 n h pc L (x3 :: x2 :: x1 :: st) :=
  aw_callS (R := am_R D 0 0) (As := [x1, x2, x3]) hc hM hn hf (by show 64 * d + 59 ≤ 64 * D; omega) (Nat.le_refl _) (Nat.le_refl _) hw hd (fun r n' h' hq => by
    obtain ⟨rfl, a, rfl, hp⟩ := hq
    exact kk a h' hp)
theorem aw_Sl4 {x1 x2 x3 x4 : AV} {P : Int → AH → Prop} (hc : ac_S M.1.cls idx N) (hM : AC N d 0 0 n h [x1, x2, x3, x4] (aql n P)) (hn : 4 = N.2.2.2.2) (hf : d + 1 ≤ D) (hw : (st.map am_cat).sum ≤ 8) (hd : decode M.2.1 pc = .ok (.invokestatic idx, 3)) (kk : ∀ a h', P a h' → AW M (am_R D 0 0) Z 0 0 n h' (pc + 3) L (aL a :: st)) : AW M (am_R D 0 0) Z 0 0 n h pc L (x4 :: x3 :: x2 :: x1 :: st) :=
  aw_callS (R := am_R D 0 0) (As := [x1, x2, x3, x4]) hc hM hn hf (by show 64 * d + 59 ≤ 64 * D; omega) (Nat.le_refl _) (Nat.le_refl _) hw hd (fun r n' h' hq => by
    obtain ⟨rfl, a, rfl, hp⟩ := hq
    exact kk a h' hp)
theorem aw_Sl5 {x1 x2 x3 x4 x5 : AV} {P : Int → AH → Prop} (hc : ac_S M.1.cls idx N) (hM : AC N d 0 0 n h [x1, x2, x3, x4, x5] (aql n P)) (hn : 5 = N.2.2.2.2) (hf : d + 1 ≤ D) (hw : (st.map am_cat).sum ≤ 8) (hd : decode M.2.1 pc = .ok (.invokestatic idx, 3)) (kk : ∀ a h', P a h' → AW M (am_R D 0 0) Z 0 0 n h' (pc + 3) L (aL a :: st)) : AW M (am_R D 0 0) Z 0 0 n h pc L (x5 :: x4 :: x3 :: x2 :: x1 :: st) :=
  aw_callS (R := am_R D 0 0) (As := [x1, x2, x3, x4, x5]) hc hM hn hf (by show 64 * d + 59 ≤ 64 * D; omega) (Nat.le_refl _) (Nat.le_refl _) hw hd (fun r n' h' hq => by
    obtain ⟨rfl, a, rfl, hp⟩ := hq
    exact kk a h' hp)
theorem aw_Ti1 {x1 : AV} {P : Int → AH → Prop} (hc : ac_T M.1.cls idx N) (hM : AC N d 0 0 n h [x1] (aqi n P)) (hn : 1 = N.2.2.2.2) (hf : d + 1 ≤ D) (hw : (st.map am_cat).sum ≤ 8) (hd : decode M.2.1 pc = .ok (.invokestatic idx, 3)) (kk : ∀ a h', P a h' → AW M (am_R D 0 0) Z 0 0 n h' (pc + 3) L (aI a :: st)) : AW M (am_R D 0 0) Z 0 0 n h pc L (x1 :: st) :=
  aw_callT (R := am_R D 0 0) (As := [x1]) hc hM hn hf (by show 64 * d + 59 ≤ 64 * D; omega) (Nat.le_refl _) (Nat.le_refl _) hw hd (fun r n' h' hq => by
    obtain ⟨rfl, a, rfl, hp⟩ := hq
    exact kk a h' hp)
theorem aw_Ti2 {x1 x2 : AV} {P : Int → AH → Prop} (hc : ac_T M.1.cls idx N) (hM : AC N d 0 0 n h [x1, x2] (aqi n P)) (hn : 2 = N.2.2.2.2) (hf : d + 1 ≤ D) (hw : (st.map am_cat).sum ≤ 8) (hd : decode M.2.1 pc = .ok (.invokestatic idx, 3)) (kk : ∀ a h', P a h' → AW M (am_R D 0 0) Z 0 0 n h' (pc + 3) L (aI a :: st)) : AW M (am_R D 0 0) Z 0 0 n h pc L (x2 :: x1 :: st) :=
  aw_callT (R := am_R D 0 0) (As := [x1, x2]) hc hM hn hf (by show 64 * d + 59 ≤ 64 * D; omega) (Nat.le_refl _) (Nat.le_refl _) hw hd (fun r n' h' hq => by
    obtain ⟨rfl, a, rfl, hp⟩ := hq
    exact kk a h' hp)
end AWN
section AWO
variable {M : AM} {R : Room} {Z : AZ} {cu su n : Nat} {h : AH} {pc : Nat} {L : List (Option AV)} {st : List AV}
theorem va_up_s {α : Type} (f : Nat → α) (k : Nat) (v : α) : va_up f k v k = v := if_pos rfl
theorem va_up_n {α : Type} (f : Nat → α) (k : Nat) (v : α) {j : Nat} (h : j ≠ k) : va_up f k v j = f j := if_neg h
theorem aw_putO {idx ci k r : Nat} {fs : List AV} {v : AV} {ty : FieldType} (hf : afP M.1.cls idx ci k false ty) (hh : h r = aO ci fs) (hv : k < fs.length) (hn : ∀ G, narrow ty (am_v G v) = am_v G v ∧ fits ty (am_v G v) = true) (hd : decode M.2.1 pc = .ok (.putfield idx, 3)) (kk : ∀ h', h' r = aO ci (fs.set k v) → (∀ j, j ≠ r → h' j = h j) → AW M R Z cu su n h' (pc + 3) L st) : AW M R Z cu su n h pc L (v :: aR r :: st) :=
  aw_put hf hh hv hn hd (kk _ (va_up_s _ _ _) (fun _ hj => va_up_n _ _ _ hj))
theorem aw_putFO {idx ci k r : Nat} {fs : List AV} {v : AV} {ty : FieldType} (hf : afP M.1.cls idx ci k true ty) (hin2 : M.1.name = "<init>") (hh : h r = aO ci fs) (hv : k < fs.length) (hn : ∀ G, narrow ty (am_v G v) = am_v G v ∧ fits ty (am_v G v) = true) (hd : decode M.2.1 pc = .ok (.putfield idx, 3)) (kk : ∀ h', h' r = aO ci (fs.set k v) → (∀ j, j ≠ r → h' j = h j) → AW M R Z cu su n h' (pc + 3) L st) : AW M R Z cu su n h pc L (v :: aR r :: st) :=
  aw_putF hf hin2 hh hv hn hd (kk _ (va_up_s _ _ _) (fun _ hj => va_up_n _ _ _ hj))
theorem aw_iastO {r len : Nat} {f : Nat → Int} {i x : Int} (hh : h r = aA 0 len f) (hi : 0 ≤ i ∧ i < len) (hd : decode M.2.1 pc = .ok (.iastore, 1)) (kk : ∀ h', h' r = aA 0 len (va_up f i.toNat x) → (∀ j, j ≠ r → h' j = h j) → AW M R Z cu su n h' (pc + 1) L st) (hz : len < 2147483648 := by decide) : AW M R Z cu su n h pc L (aI x :: aI i :: aR r :: st) :=
  aw_iast hh hi hd (kk _ (va_up_s _ _ _) (fun _ hj => va_up_n _ _ _ hj)) hz
theorem aw_zastO {r len : Nat} {f : Nat → Int} {i x : Int} (hh : h r = aA 1 len f) (hi : 0 ≤ i ∧ i < len) (hx : x = 0 ∨ x = 1) (hd : decode M.2.1 pc = .ok (.bastore, 1)) (kk : ∀ h', h' r = aA 1 len (va_up f i.toNat x) → (∀ j, j ≠ r → h' j = h j) → AW M R Z cu su n h' (pc + 1) L st) (hz : len < 2147483648 := by decide) : AW M R Z cu su n h pc L (aI x :: aI i :: aR r :: st) :=
  aw_zast hh hi hx hd (kk _ (va_up_s _ _ _) (fun _ hj => va_up_n _ _ _ hj)) hz
theorem aw_castO {r len : Nat} {f : Nat → Int} {i x : Int} (hh : h r = aA 2 len f) (hi : 0 ≤ i ∧ i < len) (hx : 0 ≤ x ∧ x < 65536) (hd : decode M.2.1 pc = .ok (.castore, 1)) (kk : ∀ h', h' r = aA 2 len (va_up f i.toNat x) → (∀ j, j ≠ r → h' j = h j) → AW M R Z cu su n h' (pc + 1) L st) (hz : len < 2147483648 := by decide) : AW M R Z cu su n h pc L (aI x :: aI i :: aR r :: st) :=
  aw_cast hh hi hx hd (kk _ (va_up_s _ _ _) (fun _ hj => va_up_n _ _ _ hj)) hz
theorem aw_lastO {r len : Nat} {f : Nat → Int} {i x : Int} (hh : h r = aA 3 len f) (hi : 0 ≤ i ∧ i < len) (hd : decode M.2.1 pc = .ok (.lastore, 1)) (kk : ∀ h', h' r = aA 3 len (va_up f i.toNat x) → (∀ j, j ≠ r → h' j = h j) → AW M R Z cu su n h' (pc + 1) L st) (hz : len < 2147483648 := by decide) : AW M R Z cu su n h pc L (aL x :: aI i :: aR r :: st) :=
  aw_last hh hi hd (kk _ (va_up_s _ _ _) (fun _ hj => va_up_n _ _ _ hj)) hz
theorem aw_aastO {r len : Nat} {f : Nat → Option Nat} {i : Int} {q : Nat} {vs : List AV} (hh : h r = aQ 4 len f) (hi : 0 ≤ i ∧ i < len) (hv : h q = aO 2 vs) (hd : decode M.2.1 pc = .ok (.aastore, 1)) (kk : ∀ h', h' r = aQ 4 len (va_up f i.toNat (some q)) → (∀ j, j ≠ r → h' j = h j) → AW M R Z cu su n h' (pc + 1) L st) (hz : len < 2147483648 := by decide) : AW M R Z cu su n h pc L (aR q :: aI i :: aR r :: st) :=
  aw_aast hh hi hv hd (kk _ (va_up_s _ _ _) (fun _ hj => va_up_n _ _ _ hj)) hz
end AWO
end
section
/-! Row: unlike numbers, rising, eight at most -/
-- lists of numbers
theorem gd_ins (l : List Int) (x : Int) (p i : Nat) (hp : p ≤ l.length) : (l.take p ++ x :: l.drop p).getD i 0 = if i < p then l.getD i 0 else if i = p then x else l.getD (i - 1) 0 := by
  simp only [List.getD_eq_getElem?_getD]
  by_cases h1 : i < p
  · rw [if_pos h1, List.getElem?_append_left (by simp; omega), List.getElem?_take_of_lt h1]
  · rw [if_neg h1, List.getElem?_append_right (by simp; omega)]
    have e : (l.take p).length = p := by simp; omega
    rw [e]
    by_cases h2 : i = p
    · subst h2
      simp
    · rw [if_neg h2]
      obtain ⟨k, hk⟩ : ∃ k, i - p = k + 1 := ⟨i - p - 1, by omega⟩
      rw [hk, List.getElem?_cons_succ, List.getElem?_drop]
      congr 2
      omega
theorem gd_erase (l : List Int) (k i : Nat) : (l.eraseIdx k).getD i 0 = if i < k then l.getD i 0 else l.getD (i + 1) 0 := by
  simp only [List.getD_eq_getElem?_getD, List.getElem?_eraseIdx]
  by_cases h : i < k <;> simp [h]
theorem gd_oob (l : List Int) {i : Nat} (h : l.length ≤ i) : l.getD i 0 = 0 := by
  simp [List.getD_eq_getElem?_getD, List.getElem?_eq_none h]
theorem gd_ext {l l' : List Int} (h : l.length = l'.length) (hi : ∀ i, i < l.length → l.getD i 0 = l'.getD i 0) : l = l' := by
  apply List.ext_getElem?
  intro i
  by_cases h1 : i < l.length
  · have := hi i h1
    simp only [List.getD_eq_getElem?_getD] at this
    rw [List.getElem?_eq_getElem h1, List.getElem?_eq_getElem (by omega)] at this ⊢
    simpa using this
  · rw [List.getElem?_eq_none (by omega), List.getElem?_eq_none (by omega)]
def plc (l : List Int) (x : Int) : Nat → Nat
  | 0 => 0
  | p + 1 => if x ≤ l.getD p 0 then plc l x p else p + 1
theorem plc_le (l : List Int) (x : Int) : ∀ p, plc l x p ≤ p
  | 0 => Nat.le_refl _
  | p + 1 => by
    unfold plc
    split
    · have := plc_le l x p; omega
    · exact Nat.le_refl _
abbrev plL (l : List Int) (x : Int) : Nat := plc l x l.length
def insL (l : List Int) (x : Int) : List Int := l.take (plL l x) ++ x :: l.drop (plL l x)
theorem insL_len (l : List Int) (x : Int) : (insL l x).length = l.length + 1 := by
  have := plc_le l x l.length
  simp [insL]
  omega
theorem insL_gd (l : List Int) (x : Int) (i : Nat) : (insL l x).getD i 0 = if i < plL l x then l.getD i 0 else if i = plL l x then x else l.getD (i - 1) 0 := gd_ins l x _ i (plc_le _ _ _)
def insOK (l : List Int) (x : Int) : Prop := 1 ≤ x ∧ x ≤ 1000000 ∧ l.length < 8 ∧ ¬ (plL l x < l.length ∧ l.getD (plL l x) 0 = x)
/-- at most eight numbers, each 1 to 1000000 -/
def inRow (l : List Int) : Prop := l.length ≤ 8 ∧ ∀ i, i < l.length → 1 ≤ l.getD i 0 ∧ l.getD i 0 ≤ 1000000
def isRow (h : AH) (r a : Nat) (l : List Int) : Prop := h r = aO 2 [aR a, aI (l.length : Int)] ∧ ∃ f, h a = aA 0 8 f ∧ ∀ i, i < l.length → f i = l.getD i 0
theorem isRow.ne {h : AH} {r a : Nat} {l : List Int} (H : isRow h r a l) : r ≠ a := by
  rintro rfl
  obtain ⟨h1, f, h2, -⟩ := H
  rw [h1] at h2
  cases h2
theorem isRow.fr {h h' : AH} {r a : Nat} {l : List Int} (H : isRow h r a l) (h1 : h' r = h r) (h2 : h' a = h a) : isRow h' r a l := ⟨h1.trans H.1, H.2.choose, h2.trans H.2.choose_spec.1, H.2.choose_spec.2⟩
section Row
variable {d n : Nat} {h : AH} {r a : Nat} {l : List Int}
theorem c_Row_length (H : isRow h r a l) : AC mX2_length d 0 0 n h [aR r] (aqi n fun v h' => v = l.length ∧ h' = h) := by
  refine AC.of (by decide) (Nat.le_of_ble_eq_true rfl) ?_
  obtain ⟨hr, f, ha, hf⟩ := H
  refine aw_aload_n dX2_length_0 rfl ?_
  refine aw_get kg_X2_15 (by assumption) (by rfl) dX2_length_1 ?_
  -- at 4: .ireturn
  exact aw_iret rfl dX2_length_4 ⟨rfl, _, rfl, rfl, rfl⟩
theorem c_Row_reaches {k : Int} (hk : -2147483648 ≤ k ∧ k ≤ 2147483647) (H : isRow h r a l) (hl : inRow l) : AC mX2_reaches d 0 0 n h [aR r, aI k] (aqi n fun v h' => v = (if 0 ≤ k ∧ k < l.length then 1 else 0) ∧ h' = h) := by
  refine AC.of (by decide) (Nat.le_of_ble_eq_true rfl) ?_
  obtain ⟨hr, f, ha, hf⟩ := H
  have hl8 := hl.1
  refine aw_iload_n dX2_reaches_0 rfl ?_
  -- at 1: .ifCond .lt 15
  refine aw_if_lt (tgt := 16) dX2_reaches_1 (by omega) (by decide) (fun c1 => ?_) (fun c1 => ?_)
  · refine aw_iconst dX2_reaches_16 ?_
    -- at 17: .ireturn
    exact aw_zret rfl dX2_reaches_17 (by omega) ⟨rfl, _, rfl, by rw [if_neg (by omega)], rfl⟩
  · refine aw_iload_n dX2_reaches_4 rfl ?_
    refine aw_aload_n dX2_reaches_5 rfl ?_
    refine aw_get kg_X2_15 (by assumption) (by rfl) dX2_reaches_6 ?_
    -- at 9: .if_icmp .ge 7
    refine aw_icmp_ge (tgt := 16) dX2_reaches_9 (by omega) (by omega) (by decide) (fun c2 => ?_) (fun c2 => ?_)
    · refine aw_iconst dX2_reaches_16 ?_
      -- at 17: .ireturn
      exact aw_zret rfl dX2_reaches_17 (by omega) ⟨rfl, _, rfl, by rw [if_neg (by omega)], rfl⟩
    · refine aw_iconst dX2_reaches_12 ?_
      refine aw_goto (tgt := 17) dX2_reaches_13 (by decide) ?_
      -- at 17: .ireturn
      exact aw_zret rfl dX2_reaches_17 (by omega) ⟨rfl, _, rfl, by rw [if_pos (by omega)], rfl⟩
theorem c_Row_at {k : Int} (hk : -2147483648 ≤ k ∧ k ≤ 2147483647) (H : isRow h r a l) (hl : inRow l) : AC mX2_at (d + 1) 0 0 n h [aR r, aI k] (aqi n fun v h' => v = (if 0 ≤ k ∧ k < l.length then l.getD k.toNat 0 else -9) ∧ h' = h) := by
  refine AC.of (by decide) (Nat.le_of_ble_eq_true rfl) ?_
  have H0 := H
  obtain ⟨hr, f, ha, hf⟩ := H
  have hl8 := hl.1
  refine aw_aload_n dX2_at_0 rfl ?_
  refine aw_iload_n dX2_at_1 rfl ?_
  -- at 2: .invokevirtual 19
  refine aw_Vi1 kc_X2_19 (c_Row_reaches (d := d) hk H0 hl) (by assumption) rfl rfl (by omega) (Nat.le_of_ble_eq_true rfl) dX2_at_2 (fun v h' q => ?_)
  obtain ⟨rfl, rfl⟩ := q
  refine aw_flag_eq (tgt := 17) dX2_at_5 (by decide) (fun c1 => ?_) (fun c1 => ?_)
  · refine aw_bipush dX2_at_17 (by decide) ?_
    -- at 19: .ireturn
    exact aw_iret rfl dX2_at_19 ⟨rfl, _, rfl, by rw [if_neg c1], rfl⟩
  · refine aw_aload_n dX2_at_8 rfl ?_
    refine aw_get kg_X2_9 (by assumption) (by rfl) dX2_at_9 ?_
    refine aw_iload_n dX2_at_12 rfl ?_
    refine aw_iald (by assumption) (by omega) dX2_at_13 ?_
    refine aw_goto (tgt := 19) dX2_at_14 (by decide) ?_
    -- at 19: .ireturn
    exact aw_iret rfl dX2_at_19 ⟨rfl, _, rfl, by rw [if_pos c1]; exact hf _ (by omega), rfl⟩
theorem c_Row_wipe (H : isRow h r a l) : AC mX2_wipe d 0 0 n h [aR r] (aqv n fun h' => isRow h' r a [] ∧ ∀ j, j ≠ r → j ≠ a → h' j = h j) := by
  refine AC.of (by decide) (Nat.le_of_ble_eq_true rfl) ?_
  have hne := H.ne
  obtain ⟨hr, f, ha, hf⟩ := H
  refine aw_aload_n dX2_wipe_0 rfl ?_
  refine aw_iconst dX2_wipe_1 ?_
  -- at 2: .putfield 15
  refine aw_putO kp_X2_15 (by assumption) (by simp) (aw_ni _) dX2_wipe_2 (fun h1 hr1 hf1 => ?_)
  exact aw_vret rfl dX2_wipe_5 ⟨rfl, rfl, ⟨hr1, f, (hf1 a hne.symm).trans ha, fun i hi => absurd hi (by simp)⟩, fun j h1 _ => hf1 j h1⟩
theorem c_Row_copy {r2 a2 : Nat} {l2 : List Int} (H : isRow h r a l) (H2 : isRow h r2 a2 l2) (hl2 : inRow l2) (n1 : r ≠ r2) (n2 : a ≠ a2) : AC mX2_copy (d + 1) 0 0 n h [aR r, aR r2] (aqv n fun h' => isRow h' r a l2 ∧ ∀ j, j ≠ r → j ≠ a → h' j = h j) := by
  refine AC.of (by decide) (Nat.le_of_ble_eq_true rfl) ?_
  have hne := H.ne
  have hne2 := H2.ne
  obtain ⟨hr, f, ha, hf⟩ := H
  obtain ⟨hr2, f2, ha2, hf2⟩ := H2
  have hra : r ≠ a2 := by rintro rfl; rw [hr] at ha2; cases ha2
  have hl8 := hl2.1
  refine aw_aload_n dX2_copy_0 rfl ?_
  refine aw_aload_n dX2_copy_1 rfl ?_
  refine aw_get kg_X2_15 (by assumption) (by rfl) dX2_copy_2 ?_
  -- at 5: .putfield 15
  refine aw_putO kp_X2_15 (by assumption) (by simp) (aw_ni _) dX2_copy_5 (fun h1 hr1 hf1 => ?_)
  have hr1 : h1 r = aO 2 [aR a, aI (l2.length : Int)] := hr1
  have hr21 := (hf1 r2 n1.symm).trans hr2
  have ha1 := (hf1 a hne.symm).trans ha
  have ha21 := (hf1 a2 hra.symm).trans ha2
  refine aw_aload_n dX2_copy_8 rfl ?_
  refine aw_get kg_X2_9 (by assumption) (by rfl) dX2_copy_9 ?_
  refine aw_iconst dX2_copy_12 ?_
  refine aw_aload_n dX2_copy_13 rfl ?_
  refine aw_get kg_X2_9 (by assumption) (by rfl) dX2_copy_14 ?_
  refine aw_iconst dX2_copy_17 ?_
  refine aw_aload_n dX2_copy_18 rfl ?_
  refine aw_get kg_X2_15 (by assumption) (by rfl) dX2_copy_19 ?_
  -- at 22: .invokestatic 23
  refine aw_copyi kc_X2_23 ks_cpn ks_cps ti_J10 ha21 ha1 (by omega) (Nat.le_of_ble_eq_true rfl) (by show 1 ≤ d + 1; omega) (by show 64 ≤ 64 * (d + 1); omega) dX2_copy_22 ?_
  refine aw_vret rfl dX2_copy_25 ⟨rfl, rfl, ⟨?_, _, va_up_s _ _ _, fun i hi => ?_⟩, fun j g1 g2 => ?_⟩
  · rw [va_up_n _ _ _ hne]
    exact hr1
  · rw [if_pos (by omega)]
    exact hf2 i hi
  · rw [va_up_n _ _ _ g2]
    exact hf1 j g1
theorem drop_loop {R : Room} {Z : AZ} {f : Nat → Int} {k : Nat} {L1 : Int} (hr : h r = aO 2 [aR a, aI ((l.length : Int) - 1)]) (hl8 : l.length ≤ 8) (hne : r ≠ a) (hk : k < l.length)
    (kk : ∀ h', h' r = h r → (∃ g, h' a = aA 0 8 g ∧ ∀ i, i < l.length - 1 → g i = if i < k then f i else f (i + 1)) → (∀ j, j ≠ r → j ≠ a → h' j = h j) → ∀ L', AW mX2_drop R Z 0 0 n h' 49 L' []) :
    ∀ (m e : Nat), m + e = l.length - 1 → k ≤ e → ∀ h1, h1 r = h r → (∃ g, h1 a = aA 0 8 g ∧ ∀ i, i < l.length → g i = if i < k then f i else if i < e then f (i + 1) else f i) → (∀ j, j ≠ r → j ≠ a → h1 j = h j) → AW mX2_drop R Z 0 0 n h1 21 [some (aR r), some (aI L1), some (aI (e : Int))] [] := by
  intro m
  induction m with
  | zero =>
    intro e he hke h1 hr1 ⟨g, hg, hgi⟩ hfr
    have hr1' := hr1.trans hr
    refine aw_iload_n dX2_drop_21 rfl ?_
    refine aw_aload_n dX2_drop_22 rfl ?_
    refine aw_get kg_X2_15 (by assumption) (by rfl) dX2_drop_23 ?_
    -- at 26: .if_icmp .ge 23
    refine aw_icmp_ge (tgt := 49) dX2_drop_26 (by omega) (by omega) (by decide) (fun c1 => ?_) (fun c1 => ?_)
    · refine kk h1 hr1 ⟨g, hg, fun i hi => ?_⟩ hfr _
      rw [hgi i (by omega)]
      by_cases q : i < k
      · rw [if_pos q, if_pos q]
      · rw [if_neg q, if_neg q, if_pos (by omega)]
    · omega
  | succ m ih =>
    intro e he hke h1 hr1 ⟨g, hg, hgi⟩ hfr
    have hr1' := hr1.trans hr
    refine aw_iload_n dX2_drop_21 rfl ?_
    refine aw_aload_n dX2_drop_22 rfl ?_
    refine aw_get kg_X2_15 (by assumption) (by rfl) dX2_drop_23 ?_
    -- at 26: .if_icmp .ge 23
    refine aw_icmp_ge (tgt := 49) dX2_drop_26 (by omega) (by omega) (by decide) (fun c1 => ?_) (fun c1 => ?_)
    · omega
    · refine aw_aload_n dX2_drop_29 rfl ?_
      refine aw_get kg_X2_9 (by assumption) (by rfl) dX2_drop_30 ?_
      refine aw_iload_n dX2_drop_33 rfl ?_
      refine aw_aload_n dX2_drop_34 rfl ?_
      refine aw_get kg_X2_9 (by assumption) (by rfl) dX2_drop_35 ?_
      refine aw_iload_n dX2_drop_38 rfl ?_
      refine aw_iconst dX2_drop_39 ?_
      refine aw_iadd dX2_drop_40 ?_
      refine aw_iald (by assumption) (by omega) dX2_drop_41 ?_
      -- at 42: .iastore
      refine aw_iastO (by assumption) (by omega) dX2_drop_42 (fun h2 ha2 hf2 => ?_)
      refine aw_iinc dX2_drop_43 rfl (by decide) ?_
      refine aw_goto (tgt := 21) dX2_drop_46 (by decide) ?_
      have K := ih (e + 1) (by omega) (by omega) h2 ((hf2 r hne).trans hr1) ⟨_, ha2, fun i hi => ?_⟩ (fun j g1 g2 => (hf2 j g2).trans (hfr j g1 g2))
      · rw [show ((e + 1 : Nat) : Int) = (e : Int) + 1 by omega] at K
        exact K
      have e1 : ((e : Int) + 1).toNat = e + 1 := by omega
      have e2 : (e : Int).toNat = e := by omega
      rw [e1, e2]
      by_cases q : i = e
      · subst q
        rw [va_up_s, hgi _ (by omega), if_neg (by omega), if_neg (by omega), if_neg (by omega), if_pos (by omega)]
      · rw [va_up_n _ _ _ q, hgi i hi]
        by_cases q2 : i < k
        · rw [if_pos q2, if_pos q2]
        · rw [if_neg q2, if_neg q2]
          by_cases q3 : i < e
          · rw [if_pos q3, if_pos (by omega)]
          · rw [if_neg q3, if_neg (by omega)]
theorem c_Row_drop {k : Int} (hk : -2147483648 ≤ k ∧ k ≤ 2147483647) (H : isRow h r a l) (hl : inRow l) : AC mX2_drop (d + 1) 0 0 n h [aR r, aI k] (aqv n fun h' => isRow h' r a (if 0 ≤ k ∧ k < l.length then l.eraseIdx k.toNat else l) ∧ ∀ j, j ≠ r → j ≠ a → h' j = h j) := by
  refine AC.of (by decide) (Nat.le_of_ble_eq_true rfl) ?_
  have H0 := H
  have hne := H.ne
  obtain ⟨hr, f, ha, hf⟩ := H
  have hl8 := hl.1
  refine aw_aload_n dX2_drop_0 rfl ?_
  refine aw_iload_n dX2_drop_1 rfl ?_
  -- at 2: .invokevirtual 19
  refine aw_Vi1 kc_X2_19 (c_Row_reaches (d := d) hk H0 hl) (by assumption) rfl rfl (by omega) (Nat.le_of_ble_eq_true rfl) dX2_drop_2 (fun v h' q => ?_)
  obtain ⟨rfl, rfl⟩ := q
  refine aw_flag_ne (tgt := 9) dX2_drop_5 (by decide) (fun c1 => ?_) (fun c1 => ?_)
  · refine aw_aload_n dX2_drop_9 rfl ?_
    refine aw_dup dX2_drop_10 rfl ?_
    refine aw_get kg_X2_15 (by assumption) (by rfl) dX2_drop_11 ?_
    refine aw_iconst dX2_drop_14 ?_
    refine aw_isub dX2_drop_15 ?_
    -- at 16: .putfield 15
    refine aw_putO kp_X2_15 (by assumption) (by simp) (aw_ni _) dX2_drop_16 (fun h1 hr1 hf1 => ?_)
    have hr1 : h1 r = aO 2 [aR a, aI ((l.length : Int) - 1)] := hr1
    have ha1 := (hf1 a hne.symm).trans ha
    refine aw_iload_n dX2_drop_19 rfl ?_
    refine aw_istore_n dX2_drop_20 (by decide) ?_
    have hkk := drop_loop (L1 := k) (l := l) (h := h1) (n := n) (R := am_R (d + 1) 0 0) (Z := am_Z (aqv n fun h'' => isRow h'' r a (if 0 ≤ k ∧ k < l.length then l.eraseIdx k.toNat else l) ∧ ∀ j, j ≠ r → j ≠ a → h'' j = h' j) 0 0) (f := f) (k := k.toNat) hr1 hl8 hne (by omega) (fun h2 hr2 ⟨g, hg, hgi⟩ hfr L' => by
      refine aw_vret rfl dX2_drop_49 ⟨rfl, rfl, ?_, fun j g1 g2 => (hfr j g1 g2).trans (hf1 j g1)⟩
      rw [if_pos c1]
      have hlen : (l.eraseIdx k.toNat).length = l.length - 1 := by rw [List.length_eraseIdx, if_pos (by omega)]
      refine ⟨?_, g, hg, fun i hi => ?_⟩
      · rw [hr2, hr1, hlen]
        have : ((l.length - 1 : Nat) : Int) = (l.length : Int) - 1 := by omega
        rw [this]
      · rw [hlen] at hi
        rw [hgi i hi, gd_erase]
        by_cases q : i < k.toNat
        · rw [if_pos q, if_pos q]
          exact hf i (by omega)
        · rw [if_neg q, if_neg q]
          exact hf (i + 1) (by omega)) (l.length - 1 - k.toNat) k.toNat (by omega) (Nat.le_refl _) h1 rfl ⟨f, ha1, fun i hi => by
            by_cases q : i < k.toNat
            · rw [if_pos q]
            · rw [if_neg q, if_neg q]⟩ (fun _ _ _ => rfl)
    have ek : ((k.toNat : Nat) : Int) = k := by omega
    rw [ek] at hkk
    exact hkk
  · exact aw_vret rfl dX2_drop_8 ⟨rfl, rfl, by rw [if_neg c1]; exact H0, fun _ _ _ => rfl⟩
theorem ins_l1 {R : Room} {Z : AZ} {f : Nat → Int} {x : Int} {L4 : Option AV} (hr : h r = aO 2 [aR a, aI (l.length : Int)]) (ha : h a = aA 0 8 f) (hf : ∀ i, i < l.length → f i = l.getD i 0) (hl : inRow l) (hx : 1 ≤ x ∧ x ≤ 1000000) :
    ∀ p : Nat, p ≤ l.length → AW mX2_insert R Z 0 0 n h 54 [some (aR r), some (aL x), none, some (aI (plc l x p : Int)), L4] [] → AW mX2_insert R Z 0 0 n h 30 [some (aR r), some (aL x), none, some (aI (p : Int)), L4] [] := by
  have hl8 := hl.1
  intro p
  induction p with
  | zero =>
    intro _ kk
    refine aw_iload_n dX2_insert_30 rfl ?_
    -- at 31: .ifCond .le 23
    refine aw_if_le (tgt := 54) dX2_insert_31 (by omega) (by decide) (fun c1 => ?_) (fun c1 => ?_)
    · exact kk
    · omega
  | succ p ih =>
    intro hp kk
    have hv := hl.2 p (by omega)
    refine aw_iload_n dX2_insert_30 rfl ?_
    -- at 31: .ifCond .le 23
    refine aw_if_le (tgt := 54) dX2_insert_31 (by omega) (by decide) (fun c1 => ?_) (fun c1 => ?_)
    · omega
    · refine aw_aload_n dX2_insert_34 rfl ?_
      refine aw_get kg_X2_9 (by assumption) (by rfl) dX2_insert_35 ?_
      refine aw_iload_n dX2_insert_38 rfl ?_
      refine aw_iconst dX2_insert_39 ?_
      refine aw_isub dX2_insert_40 ?_
      refine aw_iald (by assumption) (by omega) dX2_insert_41 ?_
      have e1 : (((p + 1 : Nat) : Int) - 1).toNat = p := by omega
      refine aw_val (w := aI (l.getD p 0)) (by rw [e1, hf p (by omega)]) ?_
      refine aw_i2l dX2_insert_42 (by omega) ?_
      refine aw_lload_n dX2_insert_43 rfl ?_
      -- at 44: .lcmp
      refine aw_lcmp_lt (tgt := 54) dX2_insert_44 dX2_insert_45 (by omega) (by omega) (by decide) (fun c2 => ?_) (fun c2 => ?_)
      · rw [plc, if_neg (by omega)] at kk
        exact kk
      · refine aw_iinc dX2_insert_48 rfl (by decide) ?_
        refine aw_goto (tgt := 30) dX2_insert_51 (by decide) ?_
        rw [plc, if_pos (by omega)] at kk
        have := ih (by omega) kk
        have e2 : ((p + 1 : Nat) : Int) + -1 = (p : Int) := by omega
        show AW mX2_insert R Z 0 0 n h 30 [some (aR r), some (aL x), none, some (aI (((p + 1 : Nat) : Int) + -1)), L4] []
        rw [e2]
        exact this
theorem ins_l2 {R : Room} {Z : AZ} {f : Nat → Int} {p : Nat} {x : Int} (hr : h r = aO 2 [aR a, aI (l.length : Int)]) (hl8 : l.length < 8) (hne : r ≠ a) (hp : p ≤ l.length)
    (kk : ∀ h', h' r = h r → (∃ g, h' a = aA 0 8 g ∧ ∀ i, i ≤ l.length → i ≠ p → g i = if i < p then f i else f (i - 1)) → (∀ j, j ≠ r → j ≠ a → h' j = h j) → ∀ L4, AW mX2_insert R Z 0 0 n h' 110 [some (aR r), some (aL x), none, some (aI (p : Int)), L4] []) :
    ∀ (e : Nat), p ≤ e → e ≤ l.length → ∀ h1, h1 r = h r → (∃ g, h1 a = aA 0 8 g ∧ ∀ i, i ≤ l.length → (i < e → g i = f i) ∧ (e < i → g i = f (i - 1)) ∧ (i = e → e < l.length ∨ i = p → True)) → (∀ j, j ≠ r → j ≠ a → h1 j = h j) → (∀ g, h1 a = aA 0 8 g → e = l.length → True) → AW mX2_insert R Z 0 0 n h1 82 [some (aR r), some (aL x), none, some (aI (p : Int)), some (aI (e : Int))] [] := by
  intro e
  induction e with
  | zero =>
    intro he hel h1 hr1 ⟨g, hg, hgi⟩ hfr _
    refine aw_iload dX2_insert_82 rfl ?_
    refine aw_iload_n dX2_insert_84 rfl ?_
    -- at 85: .if_icmp .le 25
    refine aw_icmp_le (tgt := 110) dX2_insert_85 (by omega) (by omega) (by decide) (fun c1 => ?_) (fun c1 => ?_)
    · refine kk h1 hr1 ⟨g, hg, fun i hi hip => ?_⟩ hfr _
      have := hgi i hi
      rw [if_neg (by omega)]
      exact this.2.1 (by omega)
    · omega
  | succ e ih =>
    intro he hel h1 hr1 ⟨g, hg, hgi⟩ hfr _
    have hr1' := hr1.trans hr
    refine aw_iload dX2_insert_82 rfl ?_
    refine aw_iload_n dX2_insert_84 rfl ?_
    -- at 85: .if_icmp .le 25
    refine aw_icmp_le (tgt := 110) dX2_insert_85 (by omega) (by omega) (by decide) (fun c1 => ?_) (fun c1 => ?_)
    · refine kk h1 hr1 ⟨g, hg, fun i hi hip => ?_⟩ hfr _
      have := hgi i hi
      by_cases q : i < p
      · rw [if_pos q]; exact this.1 (by omega)
      · rw [if_neg q]; exact this.2.1 (by omega)
    · refine aw_aload_n dX2_insert_88 rfl ?_
      refine aw_get kg_X2_9 (by assumption) (by rfl) dX2_insert_89 ?_
      refine aw_iload dX2_insert_92 rfl ?_
      refine aw_aload_n dX2_insert_94 rfl ?_
      refine aw_get kg_X2_9 (by assumption) (by rfl) dX2_insert_95 ?_
      refine aw_iload dX2_insert_98 rfl ?_
      refine aw_iconst dX2_insert_100 ?_
      refine aw_isub dX2_insert_101 ?_
      refine aw_iald (by assumption) (by omega) dX2_insert_102 ?_
      -- at 103: .iastore
      refine aw_iastO (by assumption) (by omega) dX2_insert_103 (fun h2 ha2 hf2 => ?_)
      refine aw_iinc dX2_insert_104 rfl (by decide) ?_
      refine aw_goto (tgt := 82) dX2_insert_107 (by decide) ?_
      have := ih (by omega) (by omega) h2 ((hf2 r hne).trans hr1) ⟨_, ha2, fun i hi => ⟨fun q => ?_, fun q => ?_, fun _ _ => trivial⟩⟩ (fun j g1 g2 => (hf2 j g2).trans (hfr j g1 g2)) (fun _ _ _ => trivial)
      · have e2 : ((e + 1 : Nat) : Int) + -1 = (e : Int) := by omega
        show AW mX2_insert R Z 0 0 n h2 82 [some (aR r), some (aL x), none, some (aI (p : Int)), some (aI (((e + 1 : Nat) : Int) + -1))] []
        rw [e2]
        exact this
      · rw [va_up_n _ _ _ (by omega)]
        exact (hgi i hi).1 (by omega)
      · by_cases q2 : i = e + 1
        · subst q2
          have e3 : (((e + 1 : Nat) : Int)).toNat = e + 1 := by omega
          have e4 : (((e + 1 : Nat) : Int) - 1).toNat = e := by omega
          rw [e3, e4, va_up_s]
          exact (hgi e (by omega)).1 (by omega)
        · rw [va_up_n _ _ _ (by omega)]
          exact (hgi i hi).2.1 (by omega)
theorem c_Row_insert {x : Int} (hx : -9223372036854775808 ≤ x ∧ x ≤ 9223372036854775807) (H : isRow h r a l) (hl : inRow l) : AC mX2_insert d 0 0 n h [aR r, aL x] (aqi n fun v h' => (insOK l x ∧ v = 1 ∧ isRow h' r a (insL l x) ∧ ∀ j, j ≠ r → j ≠ a → h' j = h j) ∨ (¬ insOK l x ∧ v = 0 ∧ h' = h)) := by
  refine AC.of (by decide) (Nat.le_of_ble_eq_true rfl) ?_
  have H0 := H
  have hne := H.ne
  obtain ⟨hr, f, ha, hf⟩ := H
  have hl8 := hl.1
  refine aw_lload_n dX2_insert_0 rfl ?_
  refine aw_lconst (a := 1) dX2_insert_1 (by decide) ?_
  -- at 2: .lcmp
  refine aw_lcmp_lt (tgt := 23) dX2_insert_2 dX2_insert_3 (by omega) (by omega) (by decide) (fun c1 => ?_) (fun c1 => ?_)
  · refine aw_iconst dX2_insert_23 ?_
    -- at 24: .ireturn
    exact aw_zret rfl dX2_insert_24 (by omega) ⟨rfl, _, rfl, Or.inr ⟨fun q => by have := q.1; omega, rfl, rfl⟩⟩
  · refine aw_lload_n dX2_insert_6 rfl ?_
    refine aw_ldc2 kl_X2_29 dX2_insert_7 ?_
    -- at 10: .lcmp
    refine aw_lcmp_gt (tgt := 23) dX2_insert_10 dX2_insert_11 (by omega) (by omega) (by decide) (fun c2 => ?_) (fun c2 => ?_)
    · refine aw_iconst dX2_insert_23 ?_
      -- at 24: .ireturn
      exact aw_zret rfl dX2_insert_24 (by omega) ⟨rfl, _, rfl, Or.inr ⟨fun q => by have := q.2.1; omega, rfl, rfl⟩⟩
    · refine aw_aload_n dX2_insert_14 rfl ?_
      refine aw_get kg_X2_15 (by assumption) (by rfl) dX2_insert_15 ?_
      refine aw_bipush dX2_insert_18 (by decide) ?_
      -- at 20: .if_icmp .lt 5
      refine aw_icmp_lt (tgt := 25) dX2_insert_20 (by omega) (by omega) (by decide) (fun c3 => ?_) (fun c3 => ?_)
      · refine aw_aload_n dX2_insert_25 rfl ?_
        refine aw_get kg_X2_15 (by assumption) (by rfl) dX2_insert_26 ?_
        refine aw_istore_n dX2_insert_29 (by decide) ?_
        have hpl := plc_le l x l.length
        have epl : plL l x = plc l x l.length := rfl
        refine ins_l1 hr ha hf hl (by omega) l.length (Nat.le_refl _) ?_
        refine aw_iload_n dX2_insert_54 rfl ?_
        refine aw_aload_n dX2_insert_55 rfl ?_
        refine aw_get kg_X2_15 (by assumption) (by rfl) dX2_insert_56 ?_
        -- at 59: .if_icmp .ge 17
        have K76 : ¬ (plL l x < l.length ∧ l.getD (plL l x) 0 = x) → AW mX2_insert (am_R d 0 0) (am_Z (aqi n fun v h' => (insOK l x ∧ v = 1 ∧ isRow h' r a (insL l x) ∧ ∀ j, j ≠ r → j ≠ a → h' j = h j) ∨ (¬ insOK l x ∧ v = 0 ∧ h' = h)) 0 0) 0 0 n h 76 [some (aR r), some (aL x), none, some (aI (plc l x l.length : Int)), none] [] := by
          intro hno
          refine aw_aload_n dX2_insert_76 rfl ?_
          refine aw_get kg_X2_15 (by assumption) (by rfl) dX2_insert_77 ?_
          refine aw_istore dX2_insert_80 (by decide) ?_
          refine ins_l2 (l := l) (h := h) (f := f) hr (by omega) hne hpl (fun h' hr' ⟨g, hg, hgi⟩ hfr L4 => ?_) l.length hpl (Nat.le_refl _) h rfl ⟨f, ha, fun i hi => ⟨fun _ => rfl, fun q => by omega, fun _ _ => trivial⟩⟩ (fun _ _ _ => rfl) (fun _ _ _ => trivial)
          have hr' := hr'.trans hr
          refine aw_aload_n dX2_insert_110 rfl ?_
          refine aw_get kg_X2_9 (by assumption) (by rfl) dX2_insert_111 ?_
          refine aw_iload_n dX2_insert_114 rfl ?_
          refine aw_lload_n dX2_insert_115 rfl ?_
          refine aw_l2i dX2_insert_116 ?_
          -- at 117: .iastore
          refine aw_iastO (by assumption) (by omega) dX2_insert_117 (fun h2 ha2 hf2 => ?_)
          have hr2 := (hf2 r hne).trans hr'
          refine aw_aload_n dX2_insert_118 rfl ?_
          refine aw_dup dX2_insert_119 rfl ?_
          refine aw_get kg_X2_15 (by assumption) (by rfl) dX2_insert_120 ?_
          refine aw_iconst dX2_insert_123 ?_
          refine aw_iadd dX2_insert_124 ?_
          -- at 125: .putfield 15
          refine aw_putO kp_X2_15 (by assumption) (by simp) (aw_ni _) dX2_insert_125 (fun h3 hr3 hf3 => ?_)
          refine aw_iconst dX2_insert_128 ?_
          -- at 129: .ireturn
          refine aw_zret rfl dX2_insert_129 (by omega) ⟨rfl, _, rfl, Or.inl ⟨⟨by omega, by omega, by omega, hno⟩, rfl, ⟨?_, _, (hf3 a hne.symm).trans ha2, fun i hi => ?_⟩, fun j g1 g2 => (hf3 j g1).trans ((hf2 j g2).trans (hfr j g1 g2))⟩⟩
          · rw [hr3, insL_len]
            rfl
          · rw [insL_len] at hi
            rw [insL_gd]
            have ep : ((plc l x l.length : Nat) : Int).toNat = plL l x := by simp [plL]
            rw [ep]
            by_cases q : i = plL l x
            · rw [q, va_up_s, if_neg (by omega), if_pos rfl]
            · rw [va_up_n _ _ _ q, hgi i (by omega) q]
              by_cases q2 : i < plL l x
              · rw [if_pos q2, if_pos q2]
                exact hf i (by omega)
              · rw [if_neg q2, if_neg q2, if_neg q]
                exact hf (i - 1) (by omega)
        refine aw_icmp_ge (tgt := 76) dX2_insert_59 (by omega) (by omega) (by decide) (fun c4 => ?_) (fun c4 => ?_)
        · exact K76 (by omega)
        · refine aw_aload_n dX2_insert_62 rfl ?_
          refine aw_get kg_X2_9 (by assumption) (by rfl) dX2_insert_63 ?_
          refine aw_iload_n dX2_insert_66 rfl ?_
          refine aw_iald (by assumption) (by omega) dX2_insert_67 ?_
          have hv := hl.2 (plL l x) (by omega)
          have ep : ((plc l x l.length : Nat) : Int).toNat = plL l x := by simp [plL]
          refine aw_val (w := aI (l.getD (plL l x) 0)) (by rw [ep, hf _ (by omega)]) ?_
          refine aw_i2l dX2_insert_68 (by omega) ?_
          refine aw_lload_n dX2_insert_69 rfl ?_
          -- at 70: .lcmp
          refine aw_lcmp_ne (tgt := 76) dX2_insert_70 dX2_insert_71 (by omega) (by omega) (by decide) (fun c5 => ?_) (fun c5 => ?_)
          · exact K76 (by omega)
          · refine aw_iconst dX2_insert_74 ?_
            -- at 75: .ireturn
            exact aw_zret rfl dX2_insert_75 (by omega) ⟨rfl, _, rfl, Or.inr ⟨fun q => q.2.2.2 ⟨by omega, by omega⟩, rfl, rfl⟩⟩
      · refine aw_iconst dX2_insert_23 ?_
        -- at 24: .ireturn
        exact aw_zret rfl dX2_insert_24 (by omega) ⟨rfl, _, rfl, Or.inr ⟨fun q => by have := q.2.2.1; omega, rfl, rfl⟩⟩
end Row
end
section
/-! classes: which identity holds; both sides' methods -/
def hold (N n : Int) : Nat → Bool
  | 0 => n % N == 0
  | 1 => (n + 1) % N == 0
  | 2 => (n + 2) % N == 0 && n % 2 == 0
  | 3 => (n + 1) % (N - 1) == 0
  | 4 => n % (N - 1) == 0
  | _ => false
def hb (N n : Int) : Nat → Nat
  | 0 => 0
  | k + 1 => hb N n k + if hold N n k then 2 ^ k else 0
abbrev held (N n : Int) : Nat := hb N n 5
theorem hb_lt (N n : Int) : ∀ k, hb N n k < 2 ^ k
  | 0 => by simp [hb]
  | k + 1 => by
    have := hb_lt N n k
    unfold hb
    rw [Nat.pow_succ]
    split <;> omega
theorem held_lt (N n : Int) : held N n < 32 := hb_lt N n 5
theorem all_lt {P : Nat → Prop} [DecidablePred P] {n : Nat} (h : (List.range n).all (fun k => decide (P k)) = true) {k : Nat} (hk : k < n) : P k := of_decide_eq_true (List.all_eq_true.mp h k (List.mem_range.mpr hk))
theorem or32a : (List.range 32).all (fun a => decide ((List.range 5).all (fun k => decide (a < 2 ^ k → (iI a ||| iI (2 ^ k : Nat)).toInt = ((a + 2 ^ k : Nat) : Int))) = true)) = true := by decide +kernel
theorem or32 {a k : Nat} (hk : k < 5) (ha : a < 2 ^ k) : (iI a ||| iI (2 ^ k : Nat)).toInt = ((a + 2 ^ k : Nat) : Int) := by
  have h1 : a < 32 := Nat.lt_of_lt_of_le ha (Nat.pow_le_pow_right (n := 2) (by decide) (by omega : k ≤ 5))
  exact all_lt (all_lt (P := fun a => (List.range 5).all (fun k => decide (a < 2 ^ k → (iI a ||| iI (2 ^ k : Nat)).toInt = ((a + 2 ^ k : Nat) : Int))) = true) or32a h1) hk ha
theorem shl5a : (List.range 31).all (fun k => decide ((iI 1 <<< (iI (k : Nat) &&& 31)).toInt = ((2 ^ k : Nat) : Int))) = true := by decide +kernel
theorem shl5 {k : Nat} (hk : k < 31) : (iI 1 <<< (iI (k : Nat) &&& 31)).toInt = ((2 ^ k : Nat) : Int) := all_lt shl5a hk
theorem or0 {a : Int} (h : 0 ≤ a ∧ a ≤ 2147483647) : (iI a ||| iI 0).toInt = a := by
  have : iI a ||| iI 0 = iI a := by
    show iI a ||| 0 = iI a
    simp
  rw [this, iI_of (by omega)]
section Bits
variable {d n : Nat} {h : AH}
theorem c_isLength {k : Int} (hk : -2147483648 ≤ k ∧ k ≤ 2147483647) : AC mX5_isLength d 0 0 n h [aI k] (aqi n fun v h' => v = (if 1 ≤ k ∧ k ≤ 5 then 1 else 0) ∧ h' = h) := by
  refine AC.of (by decide) (Nat.le_of_ble_eq_true rfl) ?_
  refine aw_iload_n dX5_isLength_0 rfl ?_
  refine aw_iconst dX5_isLength_1 ?_
  -- at 2: .if_icmp .lt 12
  refine aw_icmp_lt (tgt := 14) dX5_isLength_2 (by omega) (by omega) (by decide) (fun c1 => ?_) (fun c1 => ?_)
  · refine aw_iconst dX5_isLength_14 ?_
    -- at 15: .ireturn
    exact aw_zret rfl dX5_isLength_15 (by omega) ⟨rfl, _, rfl, by rw [if_neg (by omega)], rfl⟩
  · refine aw_iload_n dX5_isLength_5 rfl ?_
    refine aw_iconst dX5_isLength_6 ?_
    -- at 7: .if_icmp .gt 7
    refine aw_icmp_gt (tgt := 14) dX5_isLength_7 (by omega) (by omega) (by decide) (fun c2 => ?_) (fun c2 => ?_)
    · refine aw_iconst dX5_isLength_14 ?_
      -- at 15: .ireturn
      exact aw_zret rfl dX5_isLength_15 (by omega) ⟨rfl, _, rfl, by rw [if_neg (by omega)], rfl⟩
    · refine aw_iconst dX5_isLength_10 ?_
      refine aw_goto (tgt := 15) dX5_isLength_11 (by decide) ?_
      -- at 15: .ireturn
      exact aw_zret rfl dX5_isLength_15 (by omega) ⟨rfl, _, rfl, by rw [if_pos (by omega)], rfl⟩
theorem c_isBound {k : Int} (hk : -2147483648 ≤ k ∧ k ≤ 2147483647) : AC mX5_isBound d 0 0 n h [aI k] (aqi n fun v h' => v = (if 1 ≤ k ∧ k ≤ 60 then 1 else 0) ∧ h' = h) := by
  refine AC.of (by decide) (Nat.le_of_ble_eq_true rfl) ?_
  refine aw_iload_n dX5_isBound_0 rfl ?_
  refine aw_iconst dX5_isBound_1 ?_
  -- at 2: .if_icmp .lt 13
  refine aw_icmp_lt (tgt := 15) dX5_isBound_2 (by omega) (by omega) (by decide) (fun c1 => ?_) (fun c1 => ?_)
  · refine aw_iconst dX5_isBound_15 ?_
    -- at 16: .ireturn
    exact aw_zret rfl dX5_isBound_16 (by omega) ⟨rfl, _, rfl, by rw [if_neg (by omega)], rfl⟩
  · refine aw_iload_n dX5_isBound_5 rfl ?_
    refine aw_bipush dX5_isBound_6 (by decide) ?_
    -- at 8: .if_icmp .gt 7
    refine aw_icmp_gt (tgt := 15) dX5_isBound_8 (by omega) (by omega) (by decide) (fun c2 => ?_) (fun c2 => ?_)
    · refine aw_iconst dX5_isBound_15 ?_
      -- at 16: .ireturn
      exact aw_zret rfl dX5_isBound_16 (by omega) ⟨rfl, _, rfl, by rw [if_neg (by omega)], rfl⟩
    · refine aw_iconst dX5_isBound_11 ?_
      refine aw_goto (tgt := 16) dX5_isBound_12 (by decide) ?_
      -- at 16: .ireturn
      exact aw_zret rfl dX5_isBound_16 (by omega) ⟨rfl, _, rfl, by rw [if_pos (by omega)], rfl⟩
theorem c_isNumerator {k : Int} (hk : -2147483648 ≤ k ∧ k ≤ 2147483647) : AC mX5_isNumerator d 0 0 n h [aI k] (aqi n fun v h' => v = (if 2 ≤ k ∧ k ≤ 7 then 1 else 0) ∧ h' = h) := by
  refine AC.of (by decide) (Nat.le_of_ble_eq_true rfl) ?_
  refine aw_iload_n dX5_isNumerator_0 rfl ?_
  refine aw_iconst dX5_isNumerator_1 ?_
  -- at 2: .if_icmp .lt 13
  refine aw_icmp_lt (tgt := 15) dX5_isNumerator_2 (by omega) (by omega) (by decide) (fun c1 => ?_) (fun c1 => ?_)
  · refine aw_iconst dX5_isNumerator_15 ?_
    -- at 16: .ireturn
    exact aw_zret rfl dX5_isNumerator_16 (by omega) ⟨rfl, _, rfl, by rw [if_neg (by omega)], rfl⟩
  · refine aw_iload_n dX5_isNumerator_5 rfl ?_
    refine aw_bipush dX5_isNumerator_6 (by decide) ?_
    -- at 8: .if_icmp .gt 7
    refine aw_icmp_gt (tgt := 15) dX5_isNumerator_8 (by omega) (by omega) (by decide) (fun c2 => ?_) (fun c2 => ?_)
    · refine aw_iconst dX5_isNumerator_15 ?_
      -- at 16: .ireturn
      exact aw_zret rfl dX5_isNumerator_16 (by omega) ⟨rfl, _, rfl, by rw [if_neg (by omega)], rfl⟩
    · refine aw_iconst dX5_isNumerator_11 ?_
      refine aw_goto (tgt := 16) dX5_isNumerator_12 (by decide) ?_
      -- at 16: .ireturn
      exact aw_zret rfl dX5_isNumerator_16 (by omega) ⟨rfl, _, rfl, by rw [if_pos (by omega)], rfl⟩
theorem c_isChoice {k : Int} (hk : -2147483648 ≤ k ∧ k ≤ 2147483647) : AC mX5_isChoice d 0 0 n h [aI k] (aqi n fun v h' => v = (if 0 ≤ k ∧ k ≤ 31 then 1 else 0) ∧ h' = h) := by
  refine AC.of (by decide) (Nat.le_of_ble_eq_true rfl) ?_
  refine aw_iload_n dX5_isChoice_0 rfl ?_
  -- at 1: .ifCond .lt 13
  refine aw_if_lt (tgt := 14) dX5_isChoice_1 (by omega) (by decide) (fun c1 => ?_) (fun c1 => ?_)
  · refine aw_iconst dX5_isChoice_14 ?_
    -- at 15: .ireturn
    exact aw_zret rfl dX5_isChoice_15 (by omega) ⟨rfl, _, rfl, by rw [if_neg (by omega)], rfl⟩
  · refine aw_iload_n dX5_isChoice_4 rfl ?_
    refine aw_bipush dX5_isChoice_5 (by decide) ?_
    -- at 7: .if_icmp .gt 7
    refine aw_icmp_gt (tgt := 14) dX5_isChoice_7 (by omega) (by omega) (by decide) (fun c2 => ?_) (fun c2 => ?_)
    · refine aw_iconst dX5_isChoice_14 ?_
      -- at 15: .ireturn
      exact aw_zret rfl dX5_isChoice_15 (by omega) ⟨rfl, _, rfl, by rw [if_neg (by omega)], rfl⟩
    · refine aw_iconst dX5_isChoice_10 ?_
      refine aw_goto (tgt := 15) dX5_isChoice_11 (by decide) ?_
      -- at 15: .ireturn
      exact aw_zret rfl dX5_isChoice_15 (by omega) ⟨rfl, _, rfl, by rw [if_pos (by omega)], rfl⟩
theorem c_divides {k m : Int} (hk : 1 ≤ k ∧ k ≤ 100) (hm : 0 ≤ m ∧ m ≤ 100000) : AC mX5_divides d 0 0 n h [aI k, aI m] (aqi n fun v h' => v = (if m % k = 0 then 1 else 0) ∧ h' = h) := by
  refine AC.of (by decide) (Nat.le_of_ble_eq_true rfl) ?_
  have h1 : 0 ≤ m % k := Int.emod_nonneg _ (by omega)
  have h2 : m % k < k := Int.emod_lt_of_pos _ (by omega)
  refine aw_iload_n dX5_divides_0 rfl ?_
  -- at 1: .ifCond .le 13
  refine aw_if_le (tgt := 14) dX5_divides_1 (by omega) (by decide) (fun c1 => ?_) (fun c1 => ?_)
  · omega
  · refine aw_iload_n dX5_divides_4 rfl ?_
    refine aw_iload_n dX5_divides_5 rfl ?_
    refine aw_irem dX5_divides_6 (by omega) (by omega) ?_
    -- at 7: .ifCond .ne 7
    refine aw_if_ne (tgt := 14) dX5_divides_7 (by omega) (by decide) (fun c2 => ?_) (fun c2 => ?_)
    · refine aw_iconst dX5_divides_14 ?_
      -- at 15: .ireturn
      exact aw_zret rfl dX5_divides_15 (by omega) ⟨rfl, _, rfl, by rw [if_neg c2], rfl⟩
    · refine aw_iconst dX5_divides_10 ?_
      refine aw_goto (tgt := 15) dX5_divides_11 (by decide) ?_
      -- at 15: .ireturn
      exact aw_zret rfl dX5_divides_15 (by omega) ⟨rfl, _, rfl, by rw [if_pos (by omega)], rfl⟩
theorem c_isSplit {N m : Int} {k : Nat} (hN : 2 ≤ N ∧ N ≤ 7) (hm : 0 ≤ m ∧ m ≤ 50000) (hk : k < 5) : AC mX5_isSplit (d + 1) 0 0 n h [aI N, aI (k : Int), aI m] (aqi n fun v h' => v = (if hold N m k = true then 1 else 0) ∧ h' = h) := by
  refine AC.of (by decide) (Nat.le_of_ble_eq_true rfl) ?_
  refine aw_iload_n dX5_isSplit_0 rfl ?_
  -- at 1: .tableswitch 91 0 4 #[35, 41, 49, 73, 83]
  have hc : k = 0 ∨ k = 1 ∨ k = 2 ∨ k = 3 ∨ k = 4 := by omega
  rcases hc with rfl | rfl | rfl | rfl | rfl
  · refine aw_tableIn (tgt := 36) dX5_isSplit_1 (by decide) (by decide) (by decide) rfl (by decide) ?_
    refine aw_iload_n dX5_isSplit_36 rfl ?_
    refine aw_iload_n dX5_isSplit_37 rfl ?_
    -- at 38: .invokestatic 219
    refine aw_Si2 kc_X5_219 (c_divides (d := d) (by omega) (by omega)) rfl (by omega) (Nat.le_of_ble_eq_true rfl) dX5_isSplit_38 (fun v h' q => ?_)
    obtain ⟨rfl, rfl⟩ := q
    exact aw_zret rfl dX5_isSplit_41 (by split <;> simp) ⟨rfl, _, rfl, by simp [hold], rfl⟩
  · refine aw_tableIn (tgt := 42) dX5_isSplit_1 (by decide) (by decide) (by decide) rfl (by decide) ?_
    refine aw_iload_n dX5_isSplit_42 rfl ?_
    refine aw_iload_n dX5_isSplit_43 rfl ?_
    refine aw_iconst dX5_isSplit_44 ?_
    refine aw_iadd dX5_isSplit_45 ?_
    -- at 46: .invokestatic 219
    refine aw_Si2 kc_X5_219 (c_divides (d := d) (by omega) (by omega)) rfl (by omega) (Nat.le_of_ble_eq_true rfl) dX5_isSplit_46 (fun v h' q => ?_)
    obtain ⟨rfl, rfl⟩ := q
    exact aw_zret rfl dX5_isSplit_49 (by split <;> simp) ⟨rfl, _, rfl, by simp [hold], rfl⟩
  · refine aw_tableIn (tgt := 50) dX5_isSplit_1 (by decide) (by decide) (by decide) rfl (by decide) ?_
    refine aw_iload_n dX5_isSplit_50 rfl ?_
    refine aw_iload_n dX5_isSplit_51 rfl ?_
    refine aw_iconst dX5_isSplit_52 ?_
    refine aw_iadd dX5_isSplit_53 ?_
    -- at 54: .invokestatic 219
    refine aw_Si2 kc_X5_219 (c_divides (d := d) (by omega) (by omega)) rfl (by omega) (Nat.le_of_ble_eq_true rfl) dX5_isSplit_54 (fun v h' q => ?_)
    obtain ⟨rfl, rfl⟩ := q
    refine aw_flag_eq (tgt := 72) dX5_isSplit_57 (by decide) (fun c1 => ?_) (fun c1 => ?_)
    · refine aw_iconst dX5_isSplit_72 ?_
      -- at 73: .ireturn
      exact aw_zret rfl dX5_isSplit_73 (by omega) ⟨rfl, _, rfl, by simp [hold, c1], rfl⟩
    · refine aw_iconst dX5_isSplit_60 ?_
      refine aw_iload_n dX5_isSplit_61 rfl ?_
      -- at 62: .invokestatic 219
      refine aw_Si2 kc_X5_219 (c_divides (d := d) (by omega) (by omega)) rfl (by omega) (Nat.le_of_ble_eq_true rfl) dX5_isSplit_62 (fun v h' q => ?_)
      obtain ⟨rfl, rfl⟩ := q
      refine aw_flag_eq (tgt := 72) dX5_isSplit_65 (by decide) (fun c2 => ?_) (fun c2 => ?_)
      · refine aw_iconst dX5_isSplit_72 ?_
        -- at 73: .ireturn
        exact aw_zret rfl dX5_isSplit_73 (by omega) ⟨rfl, _, rfl, by simp [hold, c1, c2], rfl⟩
      · refine aw_iconst dX5_isSplit_68 ?_
        refine aw_goto (tgt := 73) dX5_isSplit_69 (by decide) ?_
        -- at 73: .ireturn
        exact aw_zret rfl dX5_isSplit_73 (by omega) ⟨rfl, _, rfl, by simp [hold, c1, c2], rfl⟩
  · refine aw_tableIn (tgt := 74) dX5_isSplit_1 (by decide) (by decide) (by decide) rfl (by decide) ?_
    refine aw_iload_n dX5_isSplit_74 rfl ?_
    refine aw_iconst dX5_isSplit_75 ?_
    refine aw_isub dX5_isSplit_76 ?_
    refine aw_iload_n dX5_isSplit_77 rfl ?_
    refine aw_iconst dX5_isSplit_78 ?_
    refine aw_iadd dX5_isSplit_79 ?_
    -- at 80: .invokestatic 219
    refine aw_Si2 kc_X5_219 (c_divides (d := d) (by omega) (by omega)) rfl (by omega) (Nat.le_of_ble_eq_true rfl) dX5_isSplit_80 (fun v h' q => ?_)
    obtain ⟨rfl, rfl⟩ := q
    exact aw_zret rfl dX5_isSplit_83 (by split <;> simp) ⟨rfl, _, rfl, by simp [hold], rfl⟩
  · refine aw_tableIn (tgt := 84) dX5_isSplit_1 (by decide) (by decide) (by decide) rfl (by decide) ?_
    refine aw_iload_n dX5_isSplit_84 rfl ?_
    refine aw_iconst dX5_isSplit_85 ?_
    refine aw_isub dX5_isSplit_86 ?_
    refine aw_iload_n dX5_isSplit_87 rfl ?_
    -- at 88: .invokestatic 219
    refine aw_Si2 kc_X5_219 (c_divides (d := d) (by omega) (by omega)) rfl (by omega) (Nat.le_of_ble_eq_true rfl) dX5_isSplit_88 (fun v h' q => ?_)
    obtain ⟨rfl, rfl⟩ := q
    exact aw_zret rfl dX5_isSplit_91 (by split <;> simp) ⟨rfl, _, rfl, by simp [hold], rfl⟩
theorem splitters_loop {N m : Int} {Z : AZ} (hN : 2 ≤ N ∧ N ≤ 7) (hm : 0 ≤ m ∧ m ≤ 50000) (kk : ∀ L, lk L 2 = some (aI (held N m : Int)) → AW mX5_splitters (am_R (d + 2) 0 0) Z 0 0 n h 30 L []) :
    ∀ (e k : Nat), e + k = 5 → AW mX5_splitters (am_R (d + 2) 0 0) Z 0 0 n h 4 [some (aI N), some (aI m), some (aI (hb N m k : Int)), some (aI (k : Int))] [] := by
  intro e
  induction e with
  | zero =>
    intro k hk
    have : k = 5 := by omega
    subst this
    refine aw_iload_n dX5_splitters_4 rfl ?_
    refine aw_iconst dX5_splitters_5 ?_
    -- at 6: .if_icmp .ge 24
    refine aw_icmp_ge (tgt := 30) dX5_splitters_6 (by omega) (by omega) (by decide) (fun c1 => ?_) (fun c1 => ?_)
    · exact kk _ rfl
    · omega
  | succ e ih =>
    intro k hk
    have K := ih (k + 1) (by omega)
    refine aw_iload_n dX5_splitters_4 rfl ?_
    refine aw_iconst dX5_splitters_5 ?_
    -- at 6: .if_icmp .ge 24
    refine aw_icmp_ge (tgt := 30) dX5_splitters_6 (by omega) (by omega) (by decide) (fun c1 => ?_) (fun c1 => ?_)
    · omega
    · refine aw_iload_n dX5_splitters_9 rfl ?_
      refine aw_iload_n dX5_splitters_10 rfl ?_
      refine aw_iload_n dX5_splitters_11 rfl ?_
      -- at 12: .invokestatic 153
      refine aw_Si3 kc_X5_153 (c_isSplit (d := d) (k := k) hN hm (by omega)) rfl (by omega) (Nat.le_of_ble_eq_true rfl) dX5_splitters_12 (fun v h' q => ?_)
      obtain ⟨rfl, rfl⟩ := q
      have e1 : ((k + 1 : Nat) : Int) = (k : Int) + 1 := by omega
      rw [e1] at K
      have hlt := hb_lt N m k
      have hp : 2 ^ k ≤ 16 := Nat.pow_le_pow_right (n := 2) (by decide) (by omega : k ≤ 4)
      refine aw_flag_eq (tgt := 24) dX5_splitters_15 (by decide) (fun c2 => ?_) (fun c2 => ?_)
      · refine aw_iinc dX5_splitters_24 rfl (by decide) ?_
        refine aw_goto (tgt := 4) dX5_splitters_27 (by decide) ?_
        have e2 : hb N m (k + 1) = hb N m k := by simp [hb, c2]
        rw [e2] at K
        exact K
      · refine aw_iload_n dX5_splitters_18 rfl ?_
        refine aw_iconst dX5_splitters_19 ?_
        refine aw_iload_n dX5_splitters_20 rfl ?_
        refine aw_ishl dX5_splitters_21 ?_
        refine aw_val (w := aI ((2 ^ k : Nat) : Int)) (by rw [shl5 (by omega)]) ?_
        refine aw_ior dX5_splitters_22 ?_
        refine aw_val (w := aI (hb N m (k + 1) : Int)) (by rw [or32 (by omega) hlt]; simp [hb, c2]) ?_
        refine aw_istore_n dX5_splitters_23 (by decide) ?_
        refine aw_iinc dX5_splitters_24 rfl (by decide) ?_
        refine aw_goto (tgt := 4) dX5_splitters_27 (by decide) ?_
        exact K
theorem c_splitters {N m : Int} (hN : 2 ≤ N ∧ N ≤ 7) (hm : 0 ≤ m ∧ m ≤ 50000) : AC mX5_splitters (d + 2) 0 0 n h [aI N, aI m] (aqi n fun v h' => v = (held N m : Int) ∧ h' = h) := by
  refine AC.of (by decide) (Nat.le_of_ble_eq_true rfl) ?_
  refine aw_iconst dX5_splitters_0 ?_
  refine aw_istore_n dX5_splitters_1 (by decide) ?_
  refine aw_iconst dX5_splitters_2 ?_
  refine aw_istore_n dX5_splitters_3 (by decide) ?_
  exact splitters_loop hN hm (fun L hL => by
    refine aw_iload_n dX5_splitters_30 hL ?_
    exact aw_iret rfl dX5_splitters_31 ⟨rfl, _, rfl, rfl, rfl⟩) 5 0 rfl
-- the reference
theorem c_in {v a b : Int} (hv : -2147483648 ≤ v ∧ v ≤ 2147483647) (ha : -2147483648 ≤ a ∧ a ≤ 2147483647) (hb : -2147483648 ≤ b ∧ b ≤ 2147483647) : AC mX6_in d 0 0 n h [aL v, aL a, aL b] (aqi n fun r h' => r = (if a ≤ v ∧ v ≤ b then 1 else 0) ∧ h' = h) := by
  refine AC.of (by decide) (Nat.le_of_ble_eq_true rfl) ?_
  refine aw_lload_n dX6_in_0 rfl ?_
  refine aw_lload_n dX6_in_1 rfl ?_
  -- at 2: .lcmp
  refine aw_lcmp_lt (tgt := 17) dX6_in_2 dX6_in_3 (by omega) (by omega) (by decide) (fun c1 => ?_) (fun c1 => ?_)
  · refine aw_iconst dX6_in_17 ?_
    -- at 18: .ireturn
    exact aw_zret rfl dX6_in_18 (by omega) ⟨rfl, _, rfl, by rw [if_neg (by omega)], rfl⟩
  · refine aw_lload_n dX6_in_6 rfl ?_
    refine aw_lload dX6_in_7 rfl ?_
    -- at 9: .lcmp
    refine aw_lcmp_gt (tgt := 17) dX6_in_9 dX6_in_10 (by omega) (by omega) (by decide) (fun c2 => ?_) (fun c2 => ?_)
    · refine aw_iconst dX6_in_17 ?_
      -- at 18: .ireturn
      exact aw_zret rfl dX6_in_18 (by omega) ⟨rfl, _, rfl, by rw [if_neg (by omega)], rfl⟩
    · refine aw_iconst dX6_in_13 ?_
      refine aw_goto (tgt := 18) dX6_in_14 (by decide) ?_
      -- at 18: .ireturn
      exact aw_zret rfl dX6_in_18 (by omega) ⟨rfl, _, rfl, by rw [if_pos (by omega)], rfl⟩
theorem emod_rng (m k : Int) (hk : 1 ≤ k ∧ k ≤ 100) : -2147483648 ≤ m % k ∧ m % k ≤ 2147483647 := by
  have h1 : 0 ≤ m % k := Int.emod_nonneg _ (by omega)
  have h2 : m % k < k := Int.emod_lt_of_pos _ (by omega)
  omega
theorem c_isHeld {N m : Int} {k : Nat} (hN : 2 ≤ N ∧ N ≤ 7) (hm : 0 ≤ m ∧ m ≤ 50000) (hk : k < 5) : AC mX6_isHeld d 0 0 n h [aI N, aI (k : Int), aI m] (aqi n fun v h' => v = (if hold N m k = true then 1 else 0) ∧ h' = h) := by
  refine AC.of (by decide) (Nat.le_of_ble_eq_true rfl) ?_
  refine aw_iload_n dX6_isHeld_0 rfl ?_
  -- at 1: .tableswitch 93 0 3 #[31, 43, 57, 77]
  have r1 := emod_rng m N (by omega)
  have r2 := emod_rng (m + 1) N (by omega)
  have r3 := emod_rng (m + 2) N (by omega)
  have r4 := emod_rng m 2 (by omega)
  have r5 := emod_rng (m + 1) (N - 1) (by omega)
  have r6 := emod_rng m (N - 1) (by omega)
  have hc : k = 0 ∨ k = 1 ∨ k = 2 ∨ k = 3 ∨ k = 4 := by omega
  rcases hc with rfl | rfl | rfl | rfl | rfl
  · refine aw_tableIn (tgt := 32) dX6_isHeld_1 (by decide) (by decide) (by decide) rfl (by decide) ?_
    refine aw_iload_n dX6_isHeld_32 rfl ?_
    refine aw_iload_n dX6_isHeld_33 rfl ?_
    refine aw_irem dX6_isHeld_34 (by omega) (by omega) ?_
    -- at 35: .ifCond .ne 7
    refine aw_if_ne (tgt := 42) dX6_isHeld_35 r1 (by decide) (fun c1 => ?_) (fun c1 => ?_)
    · refine aw_iconst dX6_isHeld_42 ?_
      -- at 43: .ireturn
      exact aw_zret rfl dX6_isHeld_43 (by omega) ⟨rfl, _, rfl, by simp [hold, c1], rfl⟩
    · refine aw_iconst dX6_isHeld_38 ?_
      refine aw_goto (tgt := 43) dX6_isHeld_39 (by decide) ?_
      -- at 43: .ireturn
      exact aw_zret rfl dX6_isHeld_43 (by omega) ⟨rfl, _, rfl, by simp [hold, Decidable.not_not.mp c1], rfl⟩
  · refine aw_tableIn (tgt := 44) dX6_isHeld_1 (by decide) (by decide) (by decide) rfl (by decide) ?_
    refine aw_iload_n dX6_isHeld_44 rfl ?_
    refine aw_iconst dX6_isHeld_45 ?_
    refine aw_iadd dX6_isHeld_46 ?_
    refine aw_iload_n dX6_isHeld_47 rfl ?_
    refine aw_irem dX6_isHeld_48 (by omega) (by omega) ?_
    -- at 49: .ifCond .ne 7
    refine aw_if_ne (tgt := 56) dX6_isHeld_49 r2 (by decide) (fun c1 => ?_) (fun c1 => ?_)
    · refine aw_iconst dX6_isHeld_56 ?_
      -- at 57: .ireturn
      exact aw_zret rfl dX6_isHeld_57 (by omega) ⟨rfl, _, rfl, by simp [hold, c1], rfl⟩
    · refine aw_iconst dX6_isHeld_52 ?_
      refine aw_goto (tgt := 57) dX6_isHeld_53 (by decide) ?_
      -- at 57: .ireturn
      exact aw_zret rfl dX6_isHeld_57 (by omega) ⟨rfl, _, rfl, by simp [hold, Decidable.not_not.mp c1], rfl⟩
  · refine aw_tableIn (tgt := 58) dX6_isHeld_1 (by decide) (by decide) (by decide) rfl (by decide) ?_
    refine aw_iload_n dX6_isHeld_58 rfl ?_
    refine aw_iconst dX6_isHeld_59 ?_
    refine aw_iadd dX6_isHeld_60 ?_
    refine aw_iload_n dX6_isHeld_61 rfl ?_
    refine aw_irem dX6_isHeld_62 (by omega) (by omega) ?_
    -- at 63: .ifCond .ne 13
    refine aw_if_ne (tgt := 76) dX6_isHeld_63 r3 (by decide) (fun c1 => ?_) (fun c1 => ?_)
    · refine aw_iconst dX6_isHeld_76 ?_
      -- at 77: .ireturn
      exact aw_zret rfl dX6_isHeld_77 (by omega) ⟨rfl, _, rfl, by simp [hold, c1], rfl⟩
    · refine aw_iload_n dX6_isHeld_66 rfl ?_
      refine aw_iconst dX6_isHeld_67 ?_
      refine aw_irem dX6_isHeld_68 (by omega) (by omega) ?_
      -- at 69: .ifCond .ne 7
      refine aw_if_ne (tgt := 76) dX6_isHeld_69 r4 (by decide) (fun c2 => ?_) (fun c2 => ?_)
      · refine aw_iconst dX6_isHeld_76 ?_
        -- at 77: .ireturn
        exact aw_zret rfl dX6_isHeld_77 (by omega) ⟨rfl, _, rfl, by simp [hold, c2], rfl⟩
      · refine aw_iconst dX6_isHeld_72 ?_
        refine aw_goto (tgt := 77) dX6_isHeld_73 (by decide) ?_
        -- at 77: .ireturn
        exact aw_zret rfl dX6_isHeld_77 (by omega) ⟨rfl, _, rfl, by simp [hold, Decidable.not_not.mp c1, Decidable.not_not.mp c2], rfl⟩
  · refine aw_tableIn (tgt := 78) dX6_isHeld_1 (by decide) (by decide) (by decide) rfl (by decide) ?_
    refine aw_iload_n dX6_isHeld_78 rfl ?_
    refine aw_iconst dX6_isHeld_79 ?_
    refine aw_iadd dX6_isHeld_80 ?_
    refine aw_iload_n dX6_isHeld_81 rfl ?_
    refine aw_iconst dX6_isHeld_82 ?_
    refine aw_isub dX6_isHeld_83 ?_
    refine aw_irem dX6_isHeld_84 (by omega) (by omega) ?_
    -- at 85: .ifCond .ne 7
    refine aw_if_ne (tgt := 92) dX6_isHeld_85 r5 (by decide) (fun c1 => ?_) (fun c1 => ?_)
    · refine aw_iconst dX6_isHeld_92 ?_
      -- at 93: .ireturn
      exact aw_zret rfl dX6_isHeld_93 (by omega) ⟨rfl, _, rfl, by simp [hold, c1], rfl⟩
    · refine aw_iconst dX6_isHeld_88 ?_
      refine aw_goto (tgt := 93) dX6_isHeld_89 (by decide) ?_
      -- at 93: .ireturn
      exact aw_zret rfl dX6_isHeld_93 (by omega) ⟨rfl, _, rfl, by simp [hold, Decidable.not_not.mp c1], rfl⟩
  · refine aw_tableOut (tgt := 94) dX6_isHeld_1 (by decide) (by decide) (by decide) ?_
    refine aw_iload_n dX6_isHeld_94 rfl ?_
    refine aw_iload_n dX6_isHeld_95 rfl ?_
    refine aw_iconst dX6_isHeld_96 ?_
    refine aw_isub dX6_isHeld_97 ?_
    refine aw_irem dX6_isHeld_98 (by omega) (by omega) ?_
    -- at 99: .ifCond .ne 7
    refine aw_if_ne (tgt := 106) dX6_isHeld_99 r6 (by decide) (fun c1 => ?_) (fun c1 => ?_)
    · refine aw_iconst dX6_isHeld_106 ?_
      -- at 107: .ireturn
      exact aw_zret rfl dX6_isHeld_107 (by omega) ⟨rfl, _, rfl, by simp [hold, c1], rfl⟩
    · refine aw_iconst dX6_isHeld_102 ?_
      refine aw_goto (tgt := 107) dX6_isHeld_103 (by decide) ?_
      -- at 107: .ireturn
      exact aw_zret rfl dX6_isHeld_107 (by omega) ⟨rfl, _, rfl, by simp [hold, Decidable.not_not.mp c1], rfl⟩
theorem held_loop {N m : Int} {Z : AZ} (hN : 2 ≤ N ∧ N ≤ 7) (hm : 0 ≤ m ∧ m ≤ 50000) (kk : ∀ L, lk L 2 = some (aI (held N m : Int)) → AW mX6_held (am_R (d + 1) 0 0) Z 0 0 n h 34 L []) :
    ∀ (e k : Nat), e + k = 5 → AW mX6_held (am_R (d + 1) 0 0) Z 0 0 n h 4 [some (aI N), some (aI m), some (aI (hb N m k : Int)), some (aI (k : Int))] [] := by
  intro e
  induction e with
  | zero =>
    intro k hk
    have : k = 5 := by omega
    subst this
    refine aw_iload_n dX6_held_4 rfl ?_
    refine aw_iconst dX6_held_5 ?_
    -- at 6: .if_icmp .ge 28
    refine aw_icmp_ge (tgt := 34) dX6_held_6 (by omega) (by omega) (by decide) (fun c1 => ?_) (fun c1 => ?_)
    · exact kk _ rfl
    · omega
  | succ e ih =>
    intro k hk
    have K := ih (k + 1) (by omega)
    refine aw_iload_n dX6_held_4 rfl ?_
    refine aw_iconst dX6_held_5 ?_
    -- at 6: .if_icmp .ge 28
    refine aw_icmp_ge (tgt := 34) dX6_held_6 (by omega) (by omega) (by decide) (fun c1 => ?_) (fun c1 => ?_)
    · omega
    · refine aw_iload_n dX6_held_9 rfl ?_
      refine aw_iload_n dX6_held_10 rfl ?_
      refine aw_iload_n dX6_held_11 rfl ?_
      refine aw_iload_n dX6_held_12 rfl ?_
      -- at 13: .invokestatic 189
      refine aw_Si3 kc_X6_189 (c_isHeld (d := d) (k := k) hN hm (by omega)) rfl (by omega) (Nat.le_of_ble_eq_true rfl) dX6_held_13 (fun v h' q => ?_)
      obtain ⟨rfl, rfl⟩ := q
      have e1 : ((k + 1 : Nat) : Int) = (k : Int) + 1 := by omega
      rw [e1] at K
      have hlt := hb_lt N m k
      have hp : 2 ^ k ≤ 16 := Nat.pow_le_pow_right (n := 2) (by decide) (by omega : k ≤ 4)
      refine aw_flag_eq (tgt := 25) dX6_held_16 (by decide) (fun c2 => ?_) (fun c2 => ?_)
      · refine aw_iconst dX6_held_25 ?_
        refine aw_ior dX6_held_26 ?_
        refine aw_val (w := aI (hb N m (k + 1) : Int)) (by rw [or0 (by omega)]; simp [hb, c2]) ?_
        refine aw_istore_n dX6_held_27 (by decide) ?_
        refine aw_iinc dX6_held_28 rfl (by decide) ?_
        refine aw_goto (tgt := 4) dX6_held_31 (by decide) ?_
        exact K
      · refine aw_iconst dX6_held_19 ?_
        refine aw_iload_n dX6_held_20 rfl ?_
        refine aw_ishl dX6_held_21 ?_
        refine aw_val (w := aI ((2 ^ k : Nat) : Int)) (by rw [shl5 (by omega)]) ?_
        refine aw_goto (tgt := 26) dX6_held_22 (by decide) ?_
        refine aw_ior dX6_held_26 ?_
        refine aw_val (w := aI (hb N m (k + 1) : Int)) (by rw [or32 (by omega) hlt]; simp [hb, c2]) ?_
        refine aw_istore_n dX6_held_27 (by decide) ?_
        refine aw_iinc dX6_held_28 rfl (by decide) ?_
        refine aw_goto (tgt := 4) dX6_held_31 (by decide) ?_
        exact K
theorem c_held {N m : Int} (hN : 2 ≤ N ∧ N ≤ 7) (hm : 0 ≤ m ∧ m ≤ 50000) : AC mX6_held (d + 1) 0 0 n h [aI N, aI m] (aqi n fun v h' => v = (held N m : Int) ∧ h' = h) := by
  refine AC.of (by decide) (Nat.le_of_ble_eq_true rfl) ?_
  refine aw_iconst dX6_held_0 ?_
  refine aw_istore_n dX6_held_1 (by decide) ?_
  refine aw_iconst dX6_held_2 ?_
  refine aw_istore_n dX6_held_3 (by decide) ?_
  exact held_loop hN hm (fun L hL => by
    refine aw_iload_n dX6_held_34 hL ?_
    exact aw_iret rfl dX6_held_35 ⟨rfl, _, rfl, rfl, rfl⟩) 5 0 rfl
end Bits
end
section
/-! covered, open, ask: the pure side -/
theorem or_pow {a r : Nat} (hr : r < 31) (ha : a < 2 ^ r) : (iI (a : Nat) ||| iI ((2 ^ r : Nat) : Nat)).toInt = ((a + 2 ^ r : Nat) : Int) := by
  have hp : 2 ^ r ≤ 2 ^ 30 := Nat.pow_le_pow_right (by decide) (by omega)
  have hs : a + 2 ^ r < 2 ^ 31 := by
    have : (2 : Nat) ^ 31 = 2 ^ 30 + 2 ^ 30 := by decide
    omega
  have h1 : iI (a : Nat) ||| iI ((2 ^ r : Nat) : Nat) = iI ((a + 2 ^ r : Nat) : Nat) := by
    apply Int32.toBitVec_inj.mp
    rw [Int32.toBitVec_or]
    show (nI a).toBitVec ||| (nI (2 ^ r)).toBitVec = (nI (a + 2 ^ r)).toBitVec
    apply BitVec.eq_of_toNat_eq
    rw [BitVec.toNat_or, pk_tn (by omega), pk_tn (by omega), pk_tn (by omega)]
    have := Nat.two_pow_add_eq_or_of_lt ha 1
    rw [Nat.mul_one] at this
    rw [Nat.add_comm a, this, Nat.or_comm]
  rw [h1, iI_of (by omega)]
theorem and32a : (List.range 32).all (fun a => decide ((List.range 32).all (fun b => decide ((iI (a : Nat) &&& iI (b : Nat)).toInt = ((a &&& b : Nat) : Int))) = true)) = true := by decide +kernel
theorem and32 {a b : Nat} (ha : a < 32) (hb : b < 32) : (iI (a : Nat) &&& iI (b : Nat)).toInt = ((a &&& b : Nat) : Int) := all_lt (all_lt (P := fun a => (List.range 32).all (fun b => decide ((iI (a : Nat) &&& iI (b : Nat)).toInt = ((a &&& b : Nat) : Int))) = true) and32a ha) hb
theorem and_lt32 {a b : Nat} (ha : a < 32) : a &&& b < 32 := Nat.lt_of_le_of_lt Nat.and_le_left ha
def popc (a : Nat) : Nat := a % 2 + a / 2 % 2 + a / 4 % 2 + a / 8 % 2 + a / 16 % 2
theorem popc_le (a : Nat) : popc a ≤ 5 := by unfold popc; omega
def andm (N m r : Int) : Nat → Nat → Nat → Nat
  | _, 0, on => on
  | k, c + 1, on => andm N m r (k + 1) c (on &&& held N (r + k * m))
theorem andm_and (N m r : Int) (a : Nat) : ∀ (c k b : Nat), andm N m r k c (a &&& b) = a &&& andm N m r k c b
  | 0, _, _ => rfl
  | c + 1, k, b => by
    unfold andm
    rw [Nat.and_assoc, andm_and N m r a c]
theorem andm_0 (N m r : Int) : ∀ (c k : Nat), andm N m r k c 0 = 0
  | 0, _ => rfl
  | c + 1, k => by
    unfold andm
    rw [Nat.zero_and, andm_0 N m r c]
theorem andm_lt (N m r : Int) : ∀ (c k b : Nat), b < 32 → andm N m r k c b < 32
  | 0, _, _, h => h
  | c + 1, k, b, h => by
    unfold andm
    exact andm_lt N m r c _ _ (and_lt32 h)
theorem per_all {P : Nat → Prop} {T : Nat} (hT : 1 ≤ T) (hper : ∀ j, P (j + T) ↔ P j) (a c : Nat) (hc : T ≤ c) (h : ∀ j, a ≤ j → j < a + c → P j) : ∀ j, P j := by
  have up : ∀ x, a ≤ x → P x := by
    intro x
    induction x using Nat.strongRecOn with
    | ind x ih =>
      intro hx
      by_cases q : x < a + c
      · exact h x hx q
      · have h1 := ih (x - T) (by omega) (by omega)
        have h2 := (hper (x - T)).mpr h1
        rw [show x - T + T = x by omega] at h2
        exact h2
  have sh : ∀ t j, P (j + t * T) ↔ P j := by
    intro t
    induction t with
    | zero => intro j; simp
    | succ t ih => intro j; rw [show j + (t + 1) * T = (j + t * T) + T by rw [Nat.succ_mul]; omega, hper, ih]
  intro j
  refine (sh a j).mp (up _ ?_)
  have : a * 1 ≤ a * T := Nat.mul_le_mul_left a hT
  omega
theorem hold_per {N : Int} (hN : 2 ≤ N ∧ N ≤ 7) {i : Nat} (hi : i < 5) : ∃ T : Nat, 1 ≤ T ∧ (T : Int) ≤ 2 * N ∧ ∀ (r m : Int) (j : Nat), hold N (r + ((j + T : Nat) : Int) * m) i = hold N (r + (j : Int) * m) i := by
  have e : ∀ (r m : Int) (j T : Nat) (c : Int), r + ((j + T : Nat) : Int) * m + c = (r + (j : Int) * m + c) + (T : Int) * m := by
    intro r m j T c
    rw [Int.natCast_add, Int.add_mul]
    omega
  have e0 : ∀ (r m : Int) (j T : Nat), r + ((j + T : Nat) : Int) * m = (r + (j : Int) * m) + (T : Int) * m := by
    intro r m j T
    have := e r m j T 0
    omega
  have hc : i = 0 ∨ i = 1 ∨ i = 2 ∨ i = 3 ∨ i = 4 := by omega
  rcases hc with rfl | rfl | rfl | rfl | rfl
  · refine ⟨N.toNat, by omega, by omega, fun r m j => ?_⟩
    simp only [hold]
    rw [e0, show ((N.toNat : Nat) : Int) = N by omega, Int.add_mul_emod_self_left]
  · refine ⟨N.toNat, by omega, by omega, fun r m j => ?_⟩
    simp only [hold]
    rw [e, show ((N.toNat : Nat) : Int) = N by omega, Int.add_mul_emod_self_left]
  · refine ⟨(2 * N).toNat, by omega, by omega, fun r m j => ?_⟩
    simp only [hold]
    rw [e, e0, show (((2 * N).toNat : Nat) : Int) = N * 2 by omega, Int.mul_assoc, Int.add_mul_emod_self_left, show N * (2 * m) = 2 * (N * m) by rw [← Int.mul_assoc, Int.mul_comm N 2, Int.mul_assoc], Int.add_mul_emod_self_left]
  · refine ⟨(N - 1).toNat, by omega, by omega, fun r m j => ?_⟩
    simp only [hold]
    rw [e, show (((N - 1).toNat : Nat) : Int) = N - 1 by omega, Int.add_mul_emod_self_left]
  · refine ⟨(N - 1).toNat, by omega, by omega, fun r m j => ?_⟩
    simp only [hold]
    rw [e0, show (((N - 1).toNat : Nat) : Int) = N - 1 by omega, Int.add_mul_emod_self_left]
theorem bit5 : ∀ b0 b1 b2 b3 b4 : Bool, (List.range 5).all (fun i => Nat.testBit (0 + (if b0 then 2 ^ 0 else 0) + (if b1 then 2 ^ 1 else 0) + (if b2 then 2 ^ 2 else 0) + (if b3 then 2 ^ 3 else 0) + (if b4 then 2 ^ 4 else 0)) i == ([b0, b1, b2, b3, b4].getD i false)) = true := by decide
theorem held_bit (N n : Int) {i : Nat} (hi : i < 5) : (held N n).testBit i = hold N n i := by
  have h := List.all_eq_true.mp (bit5 (hold N n 0) (hold N n 1) (hold N n 2) (hold N n 3) (hold N n 4)) i (List.mem_range.mpr hi)
  have h := eq_of_beq h
  refine Eq.trans h ?_
  have hc : i = 0 ∨ i = 1 ∨ i = 2 ∨ i = 3 ∨ i = 4 := by omega
  rcases hc with rfl | rfl | rfl | rfl | rfl <;> rfl
theorem andm_bit (N m r : Int) {i : Nat} (hi : i < 5) : ∀ (c k on : Nat), (andm N m r k c on).testBit i = true ↔ on.testBit i = true ∧ ∀ j, k ≤ j → j < k + c → hold N (r + (j : Int) * m) i = true
  | 0, k, on => by
    constructor
    · intro h
      exact ⟨h, fun j h1 h2 => by omega⟩
    · intro h
      exact h.1
  | c + 1, k, on => by
    unfold andm
    rw [andm_bit N m r hi c (k + 1), Nat.testBit_and, Bool.and_eq_true, held_bit _ _ hi]
    constructor
    · rintro ⟨⟨h1, h2⟩, h3⟩
      refine ⟨h1, fun j g1 g2 => ?_⟩
      by_cases q : j = k
      · subst q; exact h2
      · exact h3 j (by omega) (by omega)
    · rintro ⟨h1, h2⟩
      exact ⟨⟨h1, h2 k (by omega) (by omega)⟩, fun j g1 g2 => h2 j (by omega) (by omega)⟩
theorem cov_eq {N m r : Int} {on : Nat} (hN : 2 ≤ N ∧ N ≤ 7) (ho : on < 32) (s : Nat) (hs : s ≤ 1) : andm N m r 1 (2 * N).toNat on = andm N m r s (85 - s) on := by
  apply Nat.eq_of_testBit_eq
  intro i
  by_cases hi : i < 5
  · obtain ⟨T, h1, h2, h3⟩ := hold_per hN hi
    have hp : ∀ j : Nat, (hold N (r + ((j + T : Nat) : Int) * m) i = true) ↔ (hold N (r + (j : Int) * m) i = true) := fun j => by rw [h3]
    apply Bool.eq_iff_iff.mpr
    rw [andm_bit N m r hi, andm_bit N m r hi]
    constructor
    · rintro ⟨g1, g2⟩
      have := per_all (P := fun j => hold N (r + (j : Int) * m) i = true) h1 hp 1 (2 * N).toNat (by omega) g2
      exact ⟨g1, fun j _ _ => this j⟩
    · rintro ⟨g1, g2⟩
      have := per_all (P := fun j => hold N (r + (j : Int) * m) i = true) h1 hp s (85 - s) (by omega) g2
      exact ⟨g1, fun j _ _ => this j⟩
  · have h32 : (32 : Nat) ≤ 2 ^ i := by
      have : (2 : Nat) ^ 5 ≤ 2 ^ i := Nat.pow_le_pow_right (by decide) (by omega)
      exact this
    rw [Nat.testBit_lt_two_pow (Nat.lt_of_lt_of_le (andm_lt N m r _ _ on ho) h32), Nat.testBit_lt_two_pow (Nat.lt_of_lt_of_le (andm_lt N m r _ _ on ho) h32)]
def covS (N m : Int) (on : Nat) : Nat → Nat
  | 0 => 0
  | r + 1 => covS N m on r + if andm N m r 1 (2 * N).toNat on ≠ 0 then 2 ^ r else 0
theorem covS_lt (N m : Int) (on : Nat) : ∀ r, covS N m on r < 2 ^ r
  | 0 => by simp [covS]
  | r + 1 => by
    have := covS_lt N m on r
    unfold covS
    rw [Nat.pow_succ]
    split <;> omega
def opnS (N : Int) (on : Nat) : Nat → Nat → Int
  | 0, _ => -9
  | c + 1, k => if held N (k : Int) &&& on = 0 then (k : Int) else opnS N on c (k + 1)
-- what a number would leave, split or not
def gpS (N : Int) (set k : Nat) : Int := let s := popc (set &&& held N (k : Int)); if s < popc set - s then ((popc set - s : Nat) : Int) else (s : Int)
def bqS (N : Int) (set : Nat) : Nat → Nat → Int → Int → Int
  | 0, _, best, _ => best
  | c + 1, k, best, small => if gpS N set k < small then bqS N set c (k + 1) (k : Int) (gpS N set k) else bqS N set c (k + 1) best small
def askS (N : Int) (set : Nat) : Int := if popc set ≤ 1 then -9 else bqS N set 98 2 1 (gpS N set 1)
theorem popc_chk : (List.range 32).all (fun a => (List.range 32).all (fun b => decide (popc (a &&& b) ≤ popc a))) = true := by decide +kernel
theorem popc_and_le {a b : Nat} (ha : a < 32) (hb : b < 32) : popc (a &&& b) ≤ popc a := of_decide_eq_true (List.all_eq_true.mp (List.all_eq_true.mp popc_chk a (List.mem_range.mpr ha)) b (List.mem_range.mpr hb))
end
section
/-! holds, covered, open, the best question: both sides -/
def holdsS (N k m : Int) : Int := if (2 ≤ N ∧ N ≤ 7) ∧ (0 ≤ k ∧ k ≤ 4) ∧ (1 ≤ m ∧ m ≤ 999) then (if hold N m k.toNat = true then 1 else 0) else -1
def coveredS (N m on : Int) : Int := if (2 ≤ N ∧ N ≤ 7) ∧ (1 ≤ m ∧ m ≤ 24) ∧ (0 ≤ on ∧ on ≤ 31) then (covS N m on.toNat m.toNat : Int) else -1
def openS (N on : Int) : Int := if (2 ≤ N ∧ N ≤ 7) ∧ (0 ≤ on ∧ on ≤ 31) then opnS N on.toNat 999 1 else -1
theorem shr5a : (List.range 32).all (fun s => (List.range 5).all (fun k => decide ((iI (iI (s : Nat) >>> (iI (k : Nat) &&& 31)).toInt &&& iI 1).toInt = if Nat.testBit s k then 1 else 0))) = true := by decide +kernel
theorem shr5 {s k : Nat} (hs : s < 32) (hk : k < 5) : (iI (iI (s : Nat) >>> (iI (k : Nat) &&& 31)).toInt &&& iI 1).toInt = if Nat.testBit s k then 1 else 0 := of_decide_eq_true (List.all_eq_true.mp (List.all_eq_true.mp shr5a s (List.mem_range.mpr hs)) k (List.mem_range.mpr hk))
section Cover
variable {d n : Nat} {h : AH}
theorem c5_holds {x : Nat} {N k m : Int} (hN : -2147483648 ≤ N ∧ N ≤ 2147483647) (hk : -2147483648 ≤ k ∧ k ≤ 2147483647) (hm : -2147483648 ≤ m ∧ m ≤ 2147483647) : AC mX5_holds (d + 10) 0 0 n h [aR x, aI N, aI k, aI m] (aqi n fun v h' => v = holdsS N k m ∧ h' = h) := by
  refine AC.of (by decide) (Nat.le_of_ble_eq_true rfl) ?_
  refine aw_iload_n dX5_holds_0 rfl ?_
  -- at 1: .invokestatic 150
  refine aw_Si1 kc_X5_150 (c_isNumerator (d := d) hN) rfl (by omega) (Nat.le_of_ble_eq_true rfl) dX5_holds_1 (fun v h' q => ?_)
  obtain ⟨rfl, rfl⟩ := q
  refine aw_flag_eq (tgt := 28) dX5_holds_4 (by decide) (fun c1 => ?_) (fun c1 => ?_)
  · refine aw_iconst dX5_holds_28 ?_
    -- at 29: .ireturn
    exact aw_iret rfl dX5_holds_29 ⟨rfl, _, rfl, by rw [holdsS, if_neg (by omega)], rfl⟩
  · refine aw_iload_n dX5_holds_7 rfl ?_
    -- at 8: .ifCond .lt 20
    refine aw_if_lt (tgt := 28) dX5_holds_8 (by omega) (by decide) (fun c2 => ?_) (fun c2 => ?_)
    · refine aw_iconst dX5_holds_28 ?_
      -- at 29: .ireturn
      exact aw_iret rfl dX5_holds_29 ⟨rfl, _, rfl, by rw [holdsS, if_neg (by omega)], rfl⟩
    · refine aw_iload_n dX5_holds_11 rfl ?_
      refine aw_iconst dX5_holds_12 ?_
      -- at 13: .if_icmp .ge 15
      refine aw_icmp_ge (tgt := 28) dX5_holds_13 (by omega) (by omega) (by decide) (fun c3 => ?_) (fun c3 => ?_)
      · refine aw_iconst dX5_holds_28 ?_
        -- at 29: .ireturn
        exact aw_iret rfl dX5_holds_29 ⟨rfl, _, rfl, by rw [holdsS, if_neg (by omega)], rfl⟩
      · refine aw_iload_n dX5_holds_16 rfl ?_
        refine aw_iconst dX5_holds_17 ?_
        -- at 18: .if_icmp .lt 10
        refine aw_icmp_lt (tgt := 28) dX5_holds_18 (by omega) (by omega) (by decide) (fun c4 => ?_) (fun c4 => ?_)
        · refine aw_iconst dX5_holds_28 ?_
          -- at 29: .ireturn
          exact aw_iret rfl dX5_holds_29 ⟨rfl, _, rfl, by rw [holdsS, if_neg (by omega)], rfl⟩
        · refine aw_iload_n dX5_holds_21 rfl ?_
          refine aw_sipush dX5_holds_22 (by decide) ?_
          -- at 25: .if_icmp .le 5
          refine aw_icmp_le (tgt := 30) dX5_holds_25 (by omega) (by omega) (by decide) (fun c5 => ?_) (fun c5 => ?_)
          · refine aw_iload_n dX5_holds_30 rfl ?_
            refine aw_iload_n dX5_holds_31 rfl ?_
            refine aw_iload_n dX5_holds_32 rfl ?_
            -- at 33: .invokestatic 153
            have ek : k = ((k.toNat : Nat) : Int) := by omega
            rw [ek]
            refine aw_Si3 kc_X5_153 (c_isSplit (d := d) (k := k.toNat) c1 (by omega) (by omega)) rfl (by omega) (Nat.le_of_ble_eq_true rfl) dX5_holds_33 (fun v h' q => ?_)
            obtain ⟨rfl, rfl⟩ := q
            rw [← ek]
            refine aw_flag_eq (tgt := 43) dX5_holds_36 (by decide) (fun c6 => ?_) (fun c6 => ?_)
            · refine aw_iconst dX5_holds_43 ?_
              -- at 44: .ireturn
              exact aw_iret rfl dX5_holds_44 ⟨rfl, _, rfl, by rw [holdsS, if_pos (by omega), if_neg c6], rfl⟩
            · refine aw_iconst dX5_holds_39 ?_
              refine aw_goto (tgt := 44) dX5_holds_40 (by decide) ?_
              -- at 44: .ireturn
              exact aw_iret rfl dX5_holds_44 ⟨rfl, _, rfl, by rw [holdsS, if_pos (by omega), if_pos c6], rfl⟩
          · refine aw_iconst dX5_holds_28 ?_
            -- at 29: .ireturn
            exact aw_iret rfl dX5_holds_29 ⟨rfl, _, rfl, by rw [holdsS, if_neg (by omega)], rfl⟩
theorem c6_holds {x : Nat} {N k m : Int} (hN : -2147483648 ≤ N ∧ N ≤ 2147483647) (hk : -2147483648 ≤ k ∧ k ≤ 2147483647) (hm : -2147483648 ≤ m ∧ m ≤ 2147483647) : AC mX6_holds (d + 10) 0 0 n h [aR x, aI N, aI k, aI m] (aqi n fun v h' => v = holdsS N k m ∧ h' = h) := by
  refine AC.of (by decide) (Nat.le_of_ble_eq_true rfl) ?_
  refine aw_iload_n dX6_holds_0 rfl ?_
  refine aw_i2l dX6_holds_1 (by omega) ?_
  refine aw_ldc2 kl_X6_126 dX6_holds_2 ?_
  refine aw_ldc2 kl_X6_193 dX6_holds_5 ?_
  -- at 8: .invokestatic 66
  refine aw_Si3 kc_X6_66 (c_in (d := d) hN (by decide) (by decide)) rfl (by omega) (Nat.le_of_ble_eq_true rfl) dX6_holds_8 (fun v h' q => ?_)
  obtain ⟨rfl, rfl⟩ := q
  refine aw_flag_eq (tgt := 38) dX6_holds_11 (by decide) (fun c1 => ?_) (fun c1 => ?_)
  · refine aw_iconst dX6_holds_38 ?_
    refine aw_goto (tgt := 51) dX6_holds_39 (by decide) ?_
    -- at 51: .ireturn
    exact aw_iret rfl dX6_holds_51 ⟨rfl, _, rfl, by rw [holdsS, if_neg (by omega)], rfl⟩
  · refine aw_iload_n dX6_holds_14 rfl ?_
    refine aw_i2l dX6_holds_15 (by omega) ?_
    refine aw_lconst (a := 0) dX6_holds_16 (by decide) ?_
    refine aw_ldc2 kl_X6_168 dX6_holds_17 ?_
    -- at 20: .invokestatic 66
    refine aw_Si3 kc_X6_66 (c_in (d := d) hk (by decide) (by decide)) rfl (by omega) (Nat.le_of_ble_eq_true rfl) dX6_holds_20 (fun v h' q => ?_)
    obtain ⟨rfl, rfl⟩ := q
    refine aw_flag_eq (tgt := 38) dX6_holds_23 (by decide) (fun c2 => ?_) (fun c2 => ?_)
    · refine aw_iconst dX6_holds_38 ?_
      refine aw_goto (tgt := 51) dX6_holds_39 (by decide) ?_
      -- at 51: .ireturn
      exact aw_iret rfl dX6_holds_51 ⟨rfl, _, rfl, by rw [holdsS, if_neg (by omega)], rfl⟩
    · refine aw_iload_n dX6_holds_26 rfl ?_
      refine aw_i2l dX6_holds_27 (by omega) ?_
      refine aw_lconst (a := 1) dX6_holds_28 (by decide) ?_
      refine aw_ldc2 kl_X6_195 dX6_holds_29 ?_
      -- at 32: .invokestatic 66
      refine aw_Si3 kc_X6_66 (c_in (d := d) hm (by decide) (by decide)) rfl (by omega) (Nat.le_of_ble_eq_true rfl) dX6_holds_32 (fun v h' q => ?_)
      obtain ⟨rfl, rfl⟩ := q
      refine aw_flag_ne (tgt := 42) dX6_holds_35 (by decide) (fun c3 => ?_) (fun c3 => ?_)
      · refine aw_iload_n dX6_holds_42 rfl ?_
        refine aw_iload_n dX6_holds_43 rfl ?_
        -- at 44: .invokestatic 197
        refine aw_Si2 kc_X6_197 (c_held (d := d) c1 (by omega)) rfl (by omega) (Nat.le_of_ble_eq_true rfl) dX6_holds_44 (fun v h' q => ?_)
        obtain ⟨rfl, rfl⟩ := q
        refine aw_iload_n dX6_holds_47 rfl ?_
        refine aw_ishr dX6_holds_48 ?_
        refine aw_iconst dX6_holds_49 ?_
        refine aw_iand dX6_holds_50 ?_
        -- at 51: .ireturn
        obtain ⟨kn, rfl⟩ : ∃ kn : Nat, k = (kn : Int) := ⟨k.toNat, by omega⟩
        refine aw_val (w := aI (if hold N m kn = true then 1 else 0)) ?_ ?_
        · rw [shr5 (held_lt N m) (by omega), held_bit N m (by omega)]
        · exact aw_iret rfl dX6_holds_51 ⟨rfl, _, rfl, (if_pos (by omega) : holdsS N (kn : Int) m = _).symm, rfl⟩
      · refine aw_iconst dX6_holds_38 ?_
        refine aw_goto (tgt := 51) dX6_holds_39 (by decide) ?_
        -- at 51: .ireturn
        exact aw_iret rfl dX6_holds_51 ⟨rfl, _, rfl, by rw [holdsS, if_neg (by omega)], rfl⟩
theorem mul_rng {m k : Int} (hm : 1 ≤ m ∧ m ≤ 24) (hk : 0 ≤ k ∧ k ≤ 100) : 0 ≤ m * k ∧ m * k ≤ 2400 := by
  have h1 : 0 ≤ m * k := Int.mul_nonneg (by omega) hk.1
  have h2 : m * k ≤ 24 * 100 := Int.mul_le_mul hm.2 hk.2 hk.1 (by omega)
  omega
theorem isCov_loop {N m r : Int} {on : Int} {Z : AZ} (hN : 2 ≤ N ∧ N ≤ 7) (hm : 1 ≤ m ∧ m ≤ 24) (hr : 0 ≤ r ∧ r < m)
    (kk : ∀ (w : Nat) L, w < 32 → lk L 5 = some (aI (w : Int)) → (w ≠ 0 ↔ andm N m r 1 (2 * N).toNat on.toNat ≠ 0) → AW mX5_isCovered (am_R (d + 3) 0 0) Z 0 0 n h 44 L []) :
    ∀ (e k w : Nat), e + k = (2 * N).toNat + 1 → 1 ≤ k → w < 32 → (andm N m r k e w = andm N m r 1 (2 * N).toNat on.toNat) → AW mX5_isCovered (am_R (d + 3) 0 0) Z 0 0 n h 11 [some (aI N), some (aI m), some (aI r), some (aI on), some (aI (2 * N)), some (aI (w : Int)), some (aI (k : Int))] [] := by
  intro e
  induction e with
  | zero =>
    intro k w hk h1 hw hq
    refine aw_iload dX5_isCovered_11 rfl ?_
    refine aw_iload dX5_isCovered_13 rfl ?_
    -- at 15: .if_icmp .gt 29
    refine aw_icmp_gt (tgt := 44) dX5_isCovered_15 (by omega) (by omega) (by decide) (fun c1 => ?_) (fun c1 => ?_)
    · exact kk w _ hw rfl (by rw [← hq]; rfl)
    · omega
  | succ e ih =>
    intro k w hk h1 hw hq
    refine aw_iload dX5_isCovered_11 rfl ?_
    refine aw_iload dX5_isCovered_13 rfl ?_
    -- at 15: .if_icmp .gt 29
    refine aw_icmp_gt (tgt := 44) dX5_isCovered_15 (by omega) (by omega) (by decide) (fun c1 => ?_) (fun c1 => ?_)
    · omega
    · refine aw_iload dX5_isCovered_18 rfl ?_
      -- at 20: .ifCond .eq 24
      refine aw_if_eq (tgt := 44) dX5_isCovered_20 (by omega) (by decide) (fun c2 => ?_) (fun c2 => ?_)
      · have hw0 : w = 0 := by omega
        subst hw0
        refine kk 0 _ (by omega) rfl ?_
        rw [← hq, andm_0]
      · have hmul := mul_rng hm (k := k) (by omega)
        refine aw_iload dX5_isCovered_23 rfl ?_
        refine aw_iload_n dX5_isCovered_25 rfl ?_
        refine aw_iload_n dX5_isCovered_26 rfl ?_
        refine aw_iload_n dX5_isCovered_27 rfl ?_
        refine aw_iload dX5_isCovered_28 rfl ?_
        refine aw_imul dX5_isCovered_30 ?_
        refine aw_iadd dX5_isCovered_31 ?_
        -- at 32: .invokestatic 164
        refine aw_Si2 kc_X5_164 (c_splitters (d := d) hN (by omega)) rfl (by omega) (Nat.le_of_ble_eq_true rfl) dX5_isCovered_32 (fun v h' q => ?_)
        obtain ⟨rfl, rfl⟩ := q
        refine aw_iand dX5_isCovered_35 ?_
        have e0 : r + m * (k : Int) = r + (k : Int) * m := by rw [Int.mul_comm]
        have hl := held_lt N (r + (k : Int) * m)
        refine aw_val (w := aI ((w &&& held N (r + (k : Int) * m) : Nat) : Int)) (by rw [e0, and32 hw hl]) ?_
        refine aw_istore dX5_isCovered_36 (by decide) ?_
        refine aw_iinc dX5_isCovered_38 rfl (by decide) ?_
        refine aw_goto (tgt := 11) dX5_isCovered_41 (by decide) ?_
        have K := ih (k + 1) (w &&& held N (r + (k : Int) * m)) (by omega) (by omega) (and_lt32 hw) hq
        rw [show ((k + 1 : Nat) : Int) = (k : Int) + 1 by omega] at K
        exact K
theorem c_isCovered {N m r on : Int} (hN : 2 ≤ N ∧ N ≤ 7) (hm : 1 ≤ m ∧ m ≤ 24) (hr : 0 ≤ r ∧ r < m) (ho : 0 ≤ on ∧ on ≤ 31) : AC mX5_isCovered (d + 3) 0 0 n h [aI N, aI m, aI r, aI on] (aqi n fun v h' => v = (if andm N m r 1 (2 * N).toNat on.toNat ≠ 0 then 1 else 0) ∧ h' = h) := by
  refine AC.of (by decide) (Nat.le_of_ble_eq_true rfl) ?_
  refine aw_iconst dX5_isCovered_0 ?_
  refine aw_iload_n dX5_isCovered_1 rfl ?_
  refine aw_imul dX5_isCovered_2 ?_
  refine aw_istore dX5_isCovered_3 (by decide) ?_
  refine aw_iload_n dX5_isCovered_5 rfl ?_
  refine aw_istore dX5_isCovered_6 (by decide) ?_
  refine aw_iconst dX5_isCovered_8 ?_
  refine aw_istore dX5_isCovered_9 (by decide) ?_
  have K := isCov_loop (d := d) (n := n) (h := h) (on := on) (Z := am_Z (aqi n fun v h' => v = (if andm N m r 1 (2 * N).toNat on.toNat ≠ 0 then 1 else 0) ∧ h' = h) 0 0) hN hm hr (fun w L hw hL hq => by
    refine aw_iload dX5_isCovered_44 hL ?_
    refine aw_if_eq (tgt := 53) dX5_isCovered_46 (by omega) (by decide) (fun c1 => ?_) (fun c1 => ?_)
    · refine aw_iconst dX5_isCovered_53 ?_
      -- at 54: .ireturn
      exact aw_zret rfl dX5_isCovered_54 (by omega) ⟨rfl, _, rfl, by rw [if_neg (fun z => (hq.mpr z) (by omega))], rfl⟩
    · refine aw_iconst dX5_isCovered_49 ?_
      refine aw_goto (tgt := 54) dX5_isCovered_50 (by decide) ?_
      -- at 54: .ireturn
      exact aw_zret rfl dX5_isCovered_54 (by omega) ⟨rfl, _, rfl, by rw [if_pos (hq.mp (by omega))], rfl⟩) (2 * N).toNat 1 on.toNat (by omega) (by omega) (by omega) rfl
  rw [show ((on.toNat : Nat) : Int) = on by omega] at K
  exact K
theorem cov_loop {x : Nat} {N m on : Int} {Z : AZ} (hN : 2 ≤ N ∧ N ≤ 7) (hm : 1 ≤ m ∧ m ≤ 24) (ho : 0 ≤ on ∧ on ≤ 31)
    (kk : ∀ L, lk L 4 = some (aI (covS N m on.toNat m.toNat : Int)) → AW mX5_covered (am_R (d + 10) 0 0) Z 0 0 n h 65 L []) :
    ∀ (e r : Nat), e + r = m.toNat → AW mX5_covered (am_R (d + 10) 0 0) Z 0 0 n h 33 [some (aR x), some (aI N), some (aI m), some (aI on), some (aI (covS N m on.toNat r : Int)), some (aI (r : Int))] [] := by
  intro e
  induction e with
  | zero =>
    intro r hr
    have : r = m.toNat := by omega
    refine aw_iload dX5_covered_33 rfl ?_
    refine aw_iload_n dX5_covered_35 rfl ?_
    -- at 36: .if_icmp .ge 29
    refine aw_icmp_ge (tgt := 65) dX5_covered_36 (by omega) (by omega) (by decide) (fun c1 => ?_) (fun c1 => ?_)
    · exact kk _ (by rw [← this]; rfl)
    · omega
  | succ e ih =>
    intro r hr
    have K := ih (r + 1) (by omega)
    rw [show ((r + 1 : Nat) : Int) = (r : Int) + 1 by omega] at K
    refine aw_iload dX5_covered_33 rfl ?_
    refine aw_iload_n dX5_covered_35 rfl ?_
    -- at 36: .if_icmp .ge 29
    refine aw_icmp_ge (tgt := 65) dX5_covered_36 (by omega) (by omega) (by decide) (fun c1 => ?_) (fun c1 => ?_)
    · omega
    · refine aw_iload_n dX5_covered_39 rfl ?_
      refine aw_iload_n dX5_covered_40 rfl ?_
      refine aw_iload dX5_covered_41 rfl ?_
      refine aw_iload_n dX5_covered_43 rfl ?_
      -- at 44: .invokestatic 160
      refine aw_Si4 kc_X5_160 (c_isCovered (d := d) hN hm (r := r) (by omega) ho) rfl (by omega) (Nat.le_of_ble_eq_true rfl) dX5_covered_44 (fun v h' q => ?_)
      obtain ⟨rfl, rfl⟩ := q
      have hlt := covS_lt N m on.toNat r
      refine aw_flag_eq (tgt := 59) dX5_covered_47 (by decide) (fun c2 => ?_) (fun c2 => ?_)
      · refine aw_iinc dX5_covered_59 rfl (by decide) ?_
        refine aw_goto (tgt := 33) dX5_covered_62 (by decide) ?_
        have e2 : covS N m on.toNat (r + 1) = covS N m on.toNat r := by rw [covS, if_neg c2]; rfl
        rw [e2] at K
        exact K
      · refine aw_iload dX5_covered_50 rfl ?_
        refine aw_iconst dX5_covered_52 ?_
        refine aw_iload dX5_covered_53 rfl ?_
        refine aw_ishl dX5_covered_55 ?_
        refine aw_val (w := aI ((2 ^ r : Nat) : Int)) (by rw [shl5 (by omega)]) ?_
        refine aw_ior dX5_covered_56 ?_
        refine aw_val (w := aI (covS N m on.toNat (r + 1) : Int)) (by rw [or_pow (by omega) hlt, covS, if_pos c2]) ?_
        refine aw_istore dX5_covered_57 (by decide) ?_
        refine aw_iinc dX5_covered_59 rfl (by decide) ?_
        refine aw_goto (tgt := 33) dX5_covered_62 (by decide) ?_
        exact K
theorem c5_covered {x : Nat} {N m on : Int} (hN : -2147483648 ≤ N ∧ N ≤ 2147483647) (hm : -2147483648 ≤ m ∧ m ≤ 2147483647) (ho : -2147483648 ≤ on ∧ on ≤ 2147483647) : AC mX5_covered (d + 10) 0 0 n h [aR x, aI N, aI m, aI on] (aqi n fun v h' => v = coveredS N m on ∧ h' = h) := by
  refine AC.of (by decide) (Nat.le_of_ble_eq_true rfl) ?_
  refine aw_iload_n dX5_covered_0 rfl ?_
  -- at 1: .invokestatic 150
  refine aw_Si1 kc_X5_150 (c_isNumerator (d := d) hN) rfl (by omega) (Nat.le_of_ble_eq_true rfl) dX5_covered_1 (fun v h' q => ?_)
  obtain ⟨rfl, rfl⟩ := q
  refine aw_flag_eq (tgt := 25) dX5_covered_4 (by decide) (fun c1 => ?_) (fun c1 => ?_)
  · refine aw_iconst dX5_covered_25 ?_
    -- at 26: .ireturn
    exact aw_iret rfl dX5_covered_26 ⟨rfl, _, rfl, by rw [coveredS, if_neg (by omega)], rfl⟩
  · refine aw_iload_n dX5_covered_7 rfl ?_
    refine aw_iconst dX5_covered_8 ?_
    -- at 9: .if_icmp .lt 16
    refine aw_icmp_lt (tgt := 25) dX5_covered_9 (by omega) (by omega) (by decide) (fun c2 => ?_) (fun c2 => ?_)
    · refine aw_iconst dX5_covered_25 ?_
      -- at 26: .ireturn
      exact aw_iret rfl dX5_covered_26 ⟨rfl, _, rfl, by rw [coveredS, if_neg (by omega)], rfl⟩
    · refine aw_iload_n dX5_covered_12 rfl ?_
      refine aw_bipush dX5_covered_13 (by decide) ?_
      -- at 15: .if_icmp .gt 10
      refine aw_icmp_gt (tgt := 25) dX5_covered_15 (by omega) (by omega) (by decide) (fun c3 => ?_) (fun c3 => ?_)
      · refine aw_iconst dX5_covered_25 ?_
        -- at 26: .ireturn
        exact aw_iret rfl dX5_covered_26 ⟨rfl, _, rfl, by rw [coveredS, if_neg (by omega)], rfl⟩
      · refine aw_iload_n dX5_covered_18 rfl ?_
        -- at 19: .invokestatic 157
        refine aw_Si1 kc_X5_157 (c_isChoice (d := d) ho) rfl (by omega) (Nat.le_of_ble_eq_true rfl) dX5_covered_19 (fun v h' q => ?_)
        obtain ⟨rfl, rfl⟩ := q
        refine aw_flag_ne (tgt := 27) dX5_covered_22 (by decide) (fun c4 => ?_) (fun c4 => ?_)
        · refine aw_iconst dX5_covered_27 ?_
          refine aw_istore dX5_covered_28 (by decide) ?_
          refine aw_iconst dX5_covered_30 ?_
          refine aw_istore dX5_covered_31 (by decide) ?_
          exact cov_loop c1 (by omega) c4 (fun L hL => by
            refine aw_iload dX5_covered_65 hL ?_
            exact aw_iret rfl dX5_covered_67 ⟨rfl, _, rfl, by rw [coveredS, if_pos (by omega)], rfl⟩) m.toNat 0 (by omega)
        · refine aw_iconst dX5_covered_25 ?_
          -- at 26: .ireturn
          exact aw_iret rfl dX5_covered_26 ⟨rfl, _, rfl, by rw [coveredS, if_neg (by omega)], rfl⟩
theorem cov6_in {x : Nat} {N m on : Int} {r : Nat} {acc : Int} {Z : AZ} (hN : 2 ≤ N ∧ N ≤ 7) (hm : 1 ≤ m ∧ m ≤ 24) (hr : (r : Int) < m)
    (kk : ∀ (w : Nat) L7, w < 32 → w = andm N m r 1 (2 * N).toNat on.toNat → AW mX6_covered (am_R (d + 10) 0 0) Z 0 0 n h 96 [some (aR x), some (aI N), some (aI m), some (aI on), some (aI acc), some (aI (r : Int)), some (aI (w : Int)), L7] []) :
    ∀ (e k w : Nat), e + k = 85 → w < 32 → (andm N m r k e w = andm N m r 1 (2 * N).toNat on.toNat) → AW mX6_covered (am_R (d + 10) 0 0) Z 0 0 n h 67 [some (aR x), some (aI N), some (aI m), some (aI on), some (aI acc), some (aI (r : Int)), some (aI (w : Int)), some (aI (k : Int))] [] := by
  intro e
  induction e with
  | zero =>
    intro k w hk hw hq
    refine aw_iload dX6_covered_67 rfl ?_
    refine aw_bipush dX6_covered_69 (by decide) ?_
    -- at 71: .if_icmp .ge 25
    refine aw_icmp_ge (tgt := 96) dX6_covered_71 (by omega) (by omega) (by decide) (fun c1 => ?_) (fun c1 => ?_)
    · exact kk w _ hw hq
    · omega
  | succ e ih =>
    intro k w hk hw hq
    refine aw_iload dX6_covered_67 rfl ?_
    refine aw_bipush dX6_covered_69 (by decide) ?_
    -- at 71: .if_icmp .ge 25
    refine aw_icmp_ge (tgt := 96) dX6_covered_71 (by omega) (by omega) (by decide) (fun c1 => ?_) (fun c1 => ?_)
    · omega
    · have hmul := mul_rng hm (k := k) (by omega)
      rw [Int.mul_comm] at hmul
      refine aw_iload dX6_covered_74 rfl ?_
      refine aw_iload_n dX6_covered_76 rfl ?_
      refine aw_iload dX6_covered_77 rfl ?_
      refine aw_iload dX6_covered_79 rfl ?_
      refine aw_iload_n dX6_covered_81 rfl ?_
      refine aw_imul dX6_covered_82 ?_
      refine aw_iadd dX6_covered_83 ?_
      -- at 84: .invokestatic 197
      refine aw_Si2 kc_X6_197 (c_held (d := d) hN (by omega)) rfl (by omega) (Nat.le_of_ble_eq_true rfl) dX6_covered_84 (fun v h' q => ?_)
      obtain ⟨rfl, rfl⟩ := q
      refine aw_iand dX6_covered_87 ?_
      have hl := held_lt N ((r : Int) + (k : Int) * m)
      refine aw_val (w := aI ((w &&& held N ((r : Int) + (k : Int) * m) : Nat) : Int)) (by rw [and32 hw hl]) ?_
      refine aw_istore dX6_covered_88 (by decide) ?_
      refine aw_iinc dX6_covered_90 rfl (by decide) ?_
      refine aw_goto (tgt := 67) dX6_covered_93 (by decide) ?_
      have K := ih (k + 1) (w &&& held N ((r : Int) + (k : Int) * m)) (by omega) (and_lt32 hw) hq
      rw [show ((k + 1 : Nat) : Int) = (k : Int) + 1 by omega] at K
      exact K
theorem cov6_loop {x : Nat} {N m on : Int} {Z : AZ} (hN : 2 ≤ N ∧ N ≤ 7) (hm : 1 ≤ m ∧ m ≤ 24) (ho : 0 ≤ on ∧ on ≤ 31)
    (kk : ∀ L, lk L 4 = some (aI (covS N m on.toNat m.toNat : Int)) → AW mX6_covered (am_R (d + 10) 0 0) Z 0 0 n h 120 L []) :
    ∀ (e r : Nat) (L6 L7 : Option AV), e + r = m.toNat → AW mX6_covered (am_R (d + 10) 0 0) Z 0 0 n h 46 [some (aR x), some (aI N), some (aI m), some (aI on), some (aI (covS N m on.toNat r : Int)), some (aI (r : Int)), L6, L7] [] := by
  intro e
  induction e with
  | zero =>
    intro r L6 L7 hr
    have : r = m.toNat := by omega
    refine aw_iload dX6_covered_46 rfl ?_
    refine aw_iload_n dX6_covered_48 rfl ?_
    -- at 49: .if_icmp .ge 71
    refine aw_icmp_ge (tgt := 120) dX6_covered_49 (by omega) (by omega) (by decide) (fun c1 => ?_) (fun c1 => ?_)
    · exact kk _ (by rw [← this]; rfl)
    · omega
  | succ e ih =>
    intro r L6 L7 hr
    have hlt := covS_lt N m on.toNat r
    have hp : 2 ^ r ≤ 2 ^ 24 := Nat.pow_le_pow_right (by decide) (by omega)
    have hp2 : (2 : Nat) ^ 24 = 16777216 := by decide
    refine aw_iload dX6_covered_46 rfl ?_
    refine aw_iload_n dX6_covered_48 rfl ?_
    -- at 49: .if_icmp .ge 71
    refine aw_icmp_ge (tgt := 120) dX6_covered_49 (by omega) (by omega) (by decide) (fun c1 => ?_) (fun c1 => ?_)
    · omega
    · have fin : ∀ (w : Nat) L7, w < 32 → w = andm N m r 1 (2 * N).toNat on.toNat → AW mX6_covered (am_R (d + 10) 0 0) Z 0 0 n h 96 [some (aR x), some (aI N), some (aI m), some (aI on), some (aI (covS N m on.toNat r : Int)), some (aI (r : Int)), some (aI (w : Int)), L7] [] := by
        intro w L7 hw hq
        have K := ih (r + 1) (some (aI (w : Int))) L7 (by omega)
        rw [show ((r + 1 : Nat) : Int) = (r : Int) + 1 by omega] at K
        refine aw_iload dX6_covered_96 rfl ?_
        refine aw_iload dX6_covered_98 rfl ?_
        -- at 100: .ifCond .eq 10
        refine aw_if_eq (tgt := 110) dX6_covered_100 (by omega) (by decide) (fun c2 => ?_) (fun c2 => ?_)
        · refine aw_iconst dX6_covered_110 ?_
          refine aw_ior dX6_covered_111 ?_
          refine aw_val (w := aI (covS N m on.toNat (r + 1) : Int)) (by rw [or0 (by omega), covS, if_neg (by rw [← hq]; omega)]; rfl) ?_
          refine aw_istore dX6_covered_112 (by decide) ?_
          refine aw_iinc dX6_covered_114 rfl (by decide) ?_
          refine aw_goto (tgt := 46) dX6_covered_117 (by decide) ?_
          exact K
        · refine aw_iconst dX6_covered_103 ?_
          refine aw_iload dX6_covered_104 rfl ?_
          refine aw_ishl dX6_covered_106 ?_
          refine aw_val (w := aI ((2 ^ r : Nat) : Int)) (by rw [shl5 (by omega)]) ?_
          refine aw_goto (tgt := 111) dX6_covered_107 (by decide) ?_
          refine aw_ior dX6_covered_111 ?_
          refine aw_val (w := aI (covS N m on.toNat (r + 1) : Int)) (by rw [or_pow (by omega) hlt, covS, if_pos (by rw [← hq]; omega)]) ?_
          refine aw_istore dX6_covered_112 (by decide) ?_
          refine aw_iinc dX6_covered_114 rfl (by decide) ?_
          refine aw_goto (tgt := 46) dX6_covered_117 (by decide) ?_
          exact K
      refine aw_iload_n dX6_covered_52 rfl ?_
      refine aw_istore dX6_covered_53 (by decide) ?_
      refine aw_iload dX6_covered_55 rfl ?_
      -- at 57: .ifCond .ne 7
      refine aw_if_ne (tgt := 64) dX6_covered_57 (by omega) (by decide) (fun c2 => ?_) (fun c2 => ?_)
      · refine aw_iconst dX6_covered_64 ?_
        refine aw_istore dX6_covered_65 (by decide) ?_
        have K := cov6_in (x := x) (acc := (covS N m on.toNat r : Int)) hN hm (by omega) fin 85 0 on.toNat (by omega) (by omega) (cov_eq hN (by omega) 0 (by omega)).symm
        rw [show ((on.toNat : Nat) : Int) = on by omega] at K
        exact K
      · refine aw_iconst dX6_covered_60 ?_
        refine aw_goto (tgt := 65) dX6_covered_61 (by decide) ?_
        refine aw_istore dX6_covered_65 (by decide) ?_
        have K := cov6_in (x := x) (acc := (covS N m on.toNat r : Int)) hN hm (by omega) fin 84 1 on.toNat (by omega) (by omega) (cov_eq hN (by omega) 1 (by omega)).symm
        rw [show ((on.toNat : Nat) : Int) = on by omega] at K
        exact K
theorem c6_covered {x : Nat} {N m on : Int} (hN : -2147483648 ≤ N ∧ N ≤ 2147483647) (hm : -2147483648 ≤ m ∧ m ≤ 2147483647) (ho : -2147483648 ≤ on ∧ on ≤ 2147483647) : AC mX6_covered (d + 10) 0 0 n h [aR x, aI N, aI m, aI on] (aqi n fun v h' => v = coveredS N m on ∧ h' = h) := by
  refine AC.of (by decide) (Nat.le_of_ble_eq_true rfl) ?_
  refine aw_iload_n dX6_covered_0 rfl ?_
  refine aw_i2l dX6_covered_1 (by omega) ?_
  refine aw_ldc2 kl_X6_126 dX6_covered_2 ?_
  refine aw_ldc2 kl_X6_193 dX6_covered_5 ?_
  -- at 8: .invokestatic 66
  refine aw_Si3 kc_X6_66 (c_in (d := d) hN (by decide) (by decide)) rfl (by omega) (Nat.le_of_ble_eq_true rfl) dX6_covered_8 (fun v h' q => ?_)
  obtain ⟨rfl, rfl⟩ := q
  refine aw_flag_eq (tgt := 38) dX6_covered_11 (by decide) (fun c1 => ?_) (fun c1 => ?_)
  · refine aw_iconst dX6_covered_38 ?_
    -- at 39: .ireturn
    exact aw_iret rfl dX6_covered_39 ⟨rfl, _, rfl, by rw [coveredS, if_neg (by omega)], rfl⟩
  · refine aw_iload_n dX6_covered_14 rfl ?_
    refine aw_i2l dX6_covered_15 (by omega) ?_
    refine aw_lconst (a := 1) dX6_covered_16 (by decide) ?_
    refine aw_ldc2 kl_X6_200 dX6_covered_17 ?_
    -- at 20: .invokestatic 66
    refine aw_Si3 kc_X6_66 (c_in (d := d) hm (by decide) (by decide)) rfl (by omega) (Nat.le_of_ble_eq_true rfl) dX6_covered_20 (fun v h' q => ?_)
    obtain ⟨rfl, rfl⟩ := q
    refine aw_flag_eq (tgt := 38) dX6_covered_23 (by decide) (fun c2 => ?_) (fun c2 => ?_)
    · refine aw_iconst dX6_covered_38 ?_
      -- at 39: .ireturn
      exact aw_iret rfl dX6_covered_39 ⟨rfl, _, rfl, by rw [coveredS, if_neg (by omega)], rfl⟩
    · refine aw_iload_n dX6_covered_26 rfl ?_
      refine aw_i2l dX6_covered_27 (by omega) ?_
      refine aw_lconst (a := 0) dX6_covered_28 (by decide) ?_
      refine aw_ldc2 kl_X6_202 dX6_covered_29 ?_
      -- at 32: .invokestatic 66
      refine aw_Si3 kc_X6_66 (c_in (d := d) ho (by decide) (by decide)) rfl (by omega) (Nat.le_of_ble_eq_true rfl) dX6_covered_32 (fun v h' q => ?_)
      obtain ⟨rfl, rfl⟩ := q
      refine aw_flag_ne (tgt := 40) dX6_covered_35 (by decide) (fun c3 => ?_) (fun c3 => ?_)
      · refine aw_iconst dX6_covered_40 ?_
        refine aw_istore dX6_covered_41 (by decide) ?_
        refine aw_iconst dX6_covered_43 ?_
        refine aw_istore dX6_covered_44 (by decide) ?_
        exact cov6_loop c1 c2 c3 (fun L hL => by
          refine aw_iload dX6_covered_120 hL ?_
          exact aw_iret rfl dX6_covered_122 ⟨rfl, _, rfl, by rw [coveredS, if_pos (by omega)], rfl⟩) m.toNat 0 none none (by omega)
      · refine aw_iconst dX6_covered_38 ?_
        -- at 39: .ireturn
        exact aw_iret rfl dX6_covered_39 ⟨rfl, _, rfl, by rw [coveredS, if_neg (by omega)], rfl⟩
-- open
theorem opn_loop {x : Nat} {N on : Int} {V : Int} (hN : 2 ≤ N ∧ N ≤ 7) (ho : 0 ≤ on ∧ on ≤ 31) :
    ∀ (c k : Nat), c + k = 1000 → 1 ≤ k → opnS N on.toNat c k = V → AW mX5_open (am_R (d + 10) 0 0) (am_Z (aqi n fun v h' => v = V ∧ h' = h) 0 0) 0 0 n h 18 [some (aR x), some (aI N), some (aI on), some (aI (k : Int))] [] := by
  intro c
  induction c with
  | zero =>
    intro k hk h1 hV
    refine aw_iload_n dX5_open_18 rfl ?_
    refine aw_sipush dX5_open_19 (by decide) ?_
    -- at 22: .if_icmp .gt 21
    refine aw_icmp_gt (tgt := 43) dX5_open_22 (by omega) (by omega) (by decide) (fun c1 => ?_) (fun c1 => ?_)
    · refine aw_bipush dX5_open_43 (by decide) ?_
      -- at 45: .ireturn
      exact aw_iret rfl dX5_open_45 ⟨rfl, _, rfl, hV, rfl⟩
    · omega
  | succ c ih =>
    intro k hk h1 hV
    refine aw_iload_n dX5_open_18 rfl ?_
    refine aw_sipush dX5_open_19 (by decide) ?_
    -- at 22: .if_icmp .gt 21
    refine aw_icmp_gt (tgt := 43) dX5_open_22 (by omega) (by omega) (by decide) (fun c1 => ?_) (fun c1 => ?_)
    · omega
    · refine aw_iload_n dX5_open_25 rfl ?_
      refine aw_iload_n dX5_open_26 rfl ?_
      -- at 27: .invokestatic 164
      refine aw_Si2 kc_X5_164 (c_splitters (d := d) hN (by omega)) rfl (by omega) (Nat.le_of_ble_eq_true rfl) dX5_open_27 (fun v h' q => ?_)
      obtain ⟨rfl, rfl⟩ := q
      refine aw_iload_n dX5_open_30 rfl ?_
      refine aw_iand dX5_open_31 ?_
      -- at 32: .ifCond .ne 5
      have hl := held_lt N (k : Int)
      have hal := and_lt32 (b := on.toNat) hl
      refine aw_val (w := aI ((held N (k : Int) &&& on.toNat : Nat) : Int)) (by rw [← and32 hl (by omega : on.toNat < 32), show ((on.toNat : Nat) : Int) = on by omega]) ?_
      rw [opnS] at hV
      refine aw_if_ne (tgt := 37) dX5_open_32 (by omega) (by decide) (fun c2 => ?_) (fun c2 => ?_)
      · refine aw_iinc dX5_open_37 rfl (by decide) ?_
        refine aw_goto (tgt := 18) dX5_open_40 (by decide) ?_
        rw [if_neg (by omega)] at hV
        have K := ih (k + 1) (by omega) (by omega) hV
        rw [show ((k + 1 : Nat) : Int) = (k : Int) + 1 by omega] at K
        exact K
      · refine aw_iload_n dX5_open_35 rfl ?_
        -- at 36: .ireturn
        rw [if_pos (by omega)] at hV
        exact aw_iret rfl dX5_open_36 ⟨rfl, _, rfl, hV, rfl⟩
theorem c5_open {x : Nat} {N on : Int} (hN : -2147483648 ≤ N ∧ N ≤ 2147483647) (ho : -2147483648 ≤ on ∧ on ≤ 2147483647) : AC mX5_open (d + 10) 0 0 n h [aR x, aI N, aI on] (aqi n fun v h' => v = openS N on ∧ h' = h) := by
  refine AC.of (by decide) (Nat.le_of_ble_eq_true rfl) ?_
  refine aw_iload_n dX5_open_0 rfl ?_
  -- at 1: .invokestatic 150
  refine aw_Si1 kc_X5_150 (c_isNumerator (d := d) hN) rfl (by omega) (Nat.le_of_ble_eq_true rfl) dX5_open_1 (fun v h' q => ?_)
  obtain ⟨rfl, rfl⟩ := q
  refine aw_flag_eq (tgt := 14) dX5_open_4 (by decide) (fun c1 => ?_) (fun c1 => ?_)
  · refine aw_iconst dX5_open_14 ?_
    -- at 15: .ireturn
    exact aw_iret rfl dX5_open_15 ⟨rfl, _, rfl, by rw [openS, if_neg (by omega)], rfl⟩
  · refine aw_iload_n dX5_open_7 rfl ?_
    -- at 8: .invokestatic 157
    refine aw_Si1 kc_X5_157 (c_isChoice (d := d) ho) rfl (by omega) (Nat.le_of_ble_eq_true rfl) dX5_open_8 (fun v h' q => ?_)
    obtain ⟨rfl, rfl⟩ := q
    refine aw_flag_ne (tgt := 16) dX5_open_11 (by decide) (fun c2 => ?_) (fun c2 => ?_)
    · refine aw_iconst dX5_open_16 ?_
      refine aw_istore_n dX5_open_17 (by decide) ?_
      exact opn_loop c1 c2 999 1 rfl (by omega) (if_pos ⟨c1, c2⟩ : openS N on = _).symm
    · refine aw_iconst dX5_open_14 ?_
      -- at 15: .ireturn
      exact aw_iret rfl dX5_open_15 ⟨rfl, _, rfl, by rw [openS, if_neg (by omega)], rfl⟩
theorem opn6_loop {x : Nat} {N on : Int} {V : Int} (hN : 2 ≤ N ∧ N ≤ 7) (ho : 0 ≤ on ∧ on ≤ 31) :
    ∀ (c k : Nat), c + k = 1000 → 1 ≤ k → opnS N on.toNat c k = V → AW mX6_open (am_R (d + 10) 0 0) (am_Z (aqi n fun v h' => v = V ∧ h' = h) 0 0) 0 0 n h 30 [some (aR x), some (aI N), some (aI on), some (aI (k : Int))] [] := by
  intro c
  induction c with
  | zero =>
    intro k hk h1 hV
    refine aw_iload_n dX6_open_30 rfl ?_
    refine aw_sipush dX6_open_31 (by decide) ?_
    -- at 34: .if_icmp .ge 19
    refine aw_icmp_ge (tgt := 53) dX6_open_34 (by omega) (by omega) (by decide) (fun c1 => ?_) (fun c1 => ?_)
    · refine aw_iload_n dX6_open_53 rfl ?_
      refine aw_sipush dX6_open_54 (by decide) ?_
      -- at 57: .if_icmp .ge 7
      refine aw_icmp_ge (tgt := 64) dX6_open_57 (by omega) (by omega) (by decide) (fun c2 => ?_) (fun c2 => ?_)
      · refine aw_bipush dX6_open_64 (by decide) ?_
        -- at 66: .ireturn
        exact aw_iret rfl dX6_open_66 ⟨rfl, _, rfl, hV, rfl⟩
      · omega
    · omega
  | succ c ih =>
    intro k hk h1 hV
    refine aw_iload_n dX6_open_30 rfl ?_
    refine aw_sipush dX6_open_31 (by decide) ?_
    -- at 34: .if_icmp .ge 19
    refine aw_icmp_ge (tgt := 53) dX6_open_34 (by omega) (by omega) (by decide) (fun c1 => ?_) (fun c1 => ?_)
    · omega
    · refine aw_iload_n dX6_open_37 rfl ?_
      refine aw_iload_n dX6_open_38 rfl ?_
      -- at 39: .invokestatic 197
      refine aw_Si2 kc_X6_197 (c_held (d := d) hN (by omega)) rfl (by omega) (Nat.le_of_ble_eq_true rfl) dX6_open_39 (fun v h' q => ?_)
      obtain ⟨rfl, rfl⟩ := q
      refine aw_iload_n dX6_open_42 rfl ?_
      refine aw_iand dX6_open_43 ?_
      -- at 44: .ifCond .eq 9
      have hl := held_lt N (k : Int)
      have hal := and_lt32 (b := on.toNat) hl
      refine aw_val (w := aI ((held N (k : Int) &&& on.toNat : Nat) : Int)) (by rw [← and32 hl (by omega : on.toNat < 32), show ((on.toNat : Nat) : Int) = on by omega]) ?_
      rw [opnS] at hV
      refine aw_if_eq (tgt := 53) dX6_open_44 (by omega) (by decide) (fun c2 => ?_) (fun c2 => ?_)
      · refine aw_iload_n dX6_open_53 rfl ?_
        refine aw_sipush dX6_open_54 (by decide) ?_
        -- at 57: .if_icmp .ge 7
        refine aw_icmp_ge (tgt := 64) dX6_open_57 (by omega) (by omega) (by decide) (fun c3 => ?_) (fun c3 => ?_)
        · omega
        · refine aw_iload_n dX6_open_60 rfl ?_
          refine aw_goto (tgt := 66) dX6_open_61 (by decide) ?_
          -- at 66: .ireturn
          rw [if_pos (by omega)] at hV
          exact aw_iret rfl dX6_open_66 ⟨rfl, _, rfl, hV, rfl⟩
      · refine aw_iinc dX6_open_47 rfl (by decide) ?_
        refine aw_goto (tgt := 30) dX6_open_50 (by decide) ?_
        rw [if_neg (by omega)] at hV
        have K := ih (k + 1) (by omega) (by omega) hV
        rw [show ((k + 1 : Nat) : Int) = (k : Int) + 1 by omega] at K
        exact K
theorem c6_open {x : Nat} {N on : Int} (hN : -2147483648 ≤ N ∧ N ≤ 2147483647) (ho : -2147483648 ≤ on ∧ on ≤ 2147483647) : AC mX6_open (d + 10) 0 0 n h [aR x, aI N, aI on] (aqi n fun v h' => v = openS N on ∧ h' = h) := by
  refine AC.of (by decide) (Nat.le_of_ble_eq_true rfl) ?_
  refine aw_iload_n dX6_open_0 rfl ?_
  refine aw_i2l dX6_open_1 (by omega) ?_
  refine aw_ldc2 kl_X6_126 dX6_open_2 ?_
  refine aw_ldc2 kl_X6_193 dX6_open_5 ?_
  -- at 8: .invokestatic 66
  refine aw_Si3 kc_X6_66 (c_in (d := d) hN (by decide) (by decide)) rfl (by omega) (Nat.le_of_ble_eq_true rfl) dX6_open_8 (fun v h' q => ?_)
  obtain ⟨rfl, rfl⟩ := q
  refine aw_flag_eq (tgt := 26) dX6_open_11 (by decide) (fun c1 => ?_) (fun c1 => ?_)
  · refine aw_iconst dX6_open_26 ?_
    -- at 27: .ireturn
    exact aw_iret rfl dX6_open_27 ⟨rfl, _, rfl, by rw [openS, if_neg (by omega)], rfl⟩
  · refine aw_iload_n dX6_open_14 rfl ?_
    refine aw_i2l dX6_open_15 (by omega) ?_
    refine aw_lconst (a := 0) dX6_open_16 (by decide) ?_
    refine aw_ldc2 kl_X6_202 dX6_open_17 ?_
    -- at 20: .invokestatic 66
    refine aw_Si3 kc_X6_66 (c_in (d := d) ho (by decide) (by decide)) rfl (by omega) (Nat.le_of_ble_eq_true rfl) dX6_open_20 (fun v h' q => ?_)
    obtain ⟨rfl, rfl⟩ := q
    refine aw_flag_ne (tgt := 28) dX6_open_23 (by decide) (fun c2 => ?_) (fun c2 => ?_)
    · refine aw_iconst dX6_open_28 ?_
      refine aw_istore_n dX6_open_29 (by decide) ?_
      exact opn6_loop c1 c2 999 1 rfl (by omega) (if_pos ⟨c1, c2⟩ : openS N on = _).symm
    · refine aw_iconst dX6_open_26 ?_
      -- at 27: .ireturn
      exact aw_iret rfl dX6_open_27 ⟨rfl, _, rfl, by rw [openS, if_neg (by omega)], rfl⟩
end Cover
end
section
/-! what was seen of the unknown identity: both sides -/
theorem gd_app {α : Type} (l : List α) (x z : α) (i : Nat) : (l ++ [x]).getD i z = if i < l.length then l.getD i z else if i = l.length then x else z := by
  simp only [List.getD_eq_getElem?_getD]
  by_cases h1 : i < l.length
  · rw [if_pos h1, List.getElem?_append_left h1]
  · rw [if_neg h1]
    by_cases h2 : i = l.length
    · subst h2
      simp
    · rw [if_neg h2, List.getElem?_eq_none (by simp; omega)]
      rfl
abbrev Seen : Type := Int × Int × Int
abbrev s0 : Seen := (2, 1, 0)
def okSeen (l : List Seen) : Prop := l.length ≤ 6 ∧ ∀ i, i < l.length → (2 ≤ (l.getD i s0).1 ∧ (l.getD i s0).1 ≤ 7) ∧ (1 ≤ (l.getD i s0).2.1 ∧ (l.getD i s0).2.1 ≤ 999) ∧ ((l.getD i s0).2.2 = 0 ∨ (l.getD i s0).2.2 = 1)
def sus (l : List Seen) : Nat → Nat
  | 0 => 31
  | k + 1 => if (l.getD k s0).2.2 = 1 then sus l k &&& held (l.getD k s0).1 (l.getD k s0).2.1 else sus l k &&& (31 - held (l.getD k s0).1 (l.getD k s0).2.1)
theorem sus_lt (l : List Seen) : ∀ k, sus l k < 32
  | 0 => by simp [sus]
  | k + 1 => by
    unfold sus
    split
    · exact and_lt32 (sus_lt l k)
    · exact and_lt32 (sus_lt l k)
abbrev unseenS (l : List Seen) : Nat := sus l l.length
def seesOK (N m s : Int) : Prop := (2 ≤ N ∧ N ≤ 7) ∧ (1 ≤ m ∧ m ≤ 999) ∧ (0 ≤ s ∧ s ≤ 1)
theorem not32a : (List.range 32).all (fun a => (List.range 32).all (fun b => decide ((iI (a : Nat) &&& iI (iI (b : Nat) ^^^ iI (-1)).toInt).toInt = ((a &&& (31 - b) : Nat) : Int)))) = true := by decide +kernel
theorem not32 {a b : Nat} (ha : a < 32) (hb : b < 32) : (iI (a : Nat) &&& iI (iI (b : Nat) ^^^ iI (-1)).toInt).toInt = ((a &&& (31 - b) : Nat) : Int) := of_decide_eq_true (List.all_eq_true.mp (List.all_eq_true.mp not32a a (List.mem_range.mpr ha)) b (List.mem_range.mpr hb))
def isWit (h : AH) (l : List Seen) : Prop := h 48 = aO 4 [aR 49, aR 50, aR 51, aI (l.length : Int)] ∧ ∃ f g s, h 49 = aA 0 6 f ∧ h 50 = aA 0 6 g ∧ h 51 = aA 1 6 s ∧ ∀ i, i < l.length → f i = (l.getD i s0).1 ∧ g i = (l.getD i s0).2.1 ∧ s i = (l.getD i s0).2.2
theorem isWit.fr {h h' : AH} {l : List Seen} (H : isWit h l) (hf : ∀ j, 48 ≤ j → j ≤ 51 → h' j = h j) : isWit h' l := by
  obtain ⟨h1, f, g, s, h2, h3, h4, h5⟩ := H
  exact ⟨(hf 48 (by omega) (by omega)).trans h1, f, g, s, (hf 49 (by omega) (by omega)).trans h2, (hf 50 (by omega) (by omega)).trans h3, (hf 51 (by omega) (by omega)).trans h4, h5⟩
theorem okSeen.app {l : List Seen} {N m s : Int} (h : okSeen l) (h6 : l.length < 6) (hs : seesOK N m s) : okSeen (l ++ [(N, m, s)]) := by
  refine ⟨by simp; omega, fun i hi => ?_⟩
  rw [gd_app]
  simp at hi
  by_cases q : i < l.length
  · rw [if_pos q]
    exact h.2 i q
  · rw [if_neg q, if_pos (by omega)]
    obtain ⟨h1, h2, h3⟩ := hs
    exact ⟨h1, h2, by show s = 0 ∨ s = 1; omega⟩
/-- the reference's own cell -/
abbrev mdl (u p q sn lt e1 e2 e3 e4 e5 e6 e7 e8 : Int) : List AV := [aR 53, aR 54, aI u, aI p, aI q, aR 55, aR 56, aR 57, aI sn, aR 58, aI lt, aI e1, aI e2, aI e3, aI e4, aI e5, aI e6, aI e7, aR 59, aR 60, aR 61, aR 62, aR 63, aR 64, aI e8]
def isSn (h : AH) (l : List Seen) : Prop := ∃ f g s, h 55 = aA 0 6 f ∧ h 56 = aA 0 6 g ∧ h 57 = aA 0 6 s ∧ ∀ i, i < l.length → f i = (l.getD i s0).1 ∧ g i = (l.getD i s0).2.1 ∧ s i = (l.getD i s0).2.2
theorem isSn.fr {h h' : AH} {l : List Seen} (H : isSn h l) (hf : ∀ j, 55 ≤ j → j ≤ 57 → h' j = h j) : isSn h' l := by
  obtain ⟨f, g, s, h2, h3, h4, h5⟩ := H
  exact ⟨f, g, s, (hf 55 (by omega) (by omega)).trans h2, (hf 56 (by omega) (by omega)).trans h3, (hf 57 (by omega) (by omega)).trans h4, h5⟩
section Wit
variable {d n : Nat} {h : AH} {l : List Seen}
theorem c_Wit_length (H : isWit h l) : AC mX4_length d 0 0 n h [aR 48] (aqi n fun v h' => v = (l.length : Int) ∧ h' = h) := by
  refine AC.of (by decide) (Nat.le_of_ble_eq_true rfl) ?_
  obtain ⟨h1, -⟩ := H
  refine aw_aload_n dX4_length_0 rfl ?_
  refine aw_get kg_X4_22 (by assumption) (by rfl) dX4_length_1 ?_
  -- at 4: .ireturn
  exact aw_iret rfl dX4_length_4 ⟨rfl, _, rfl, rfl, rfl⟩
theorem c_Wit_wipe (H : isWit h l) : AC mX4_wipe d 0 0 n h [aR 48] (aqv n fun h' => isWit h' [] ∧ ∀ j, j ≠ 48 → h' j = h j) := by
  refine AC.of (by decide) (Nat.le_of_ble_eq_true rfl) ?_
  obtain ⟨h1, f, g, s, h2, h3, h4, h5⟩ := H
  refine aw_aload_n dX4_wipe_0 rfl ?_
  refine aw_iconst dX4_wipe_1 ?_
  -- at 2: .putfield 22
  refine aw_putO kp_X4_22 (by assumption) (by simp) (aw_ni _) dX4_wipe_2 (fun h' hr hf => ?_)
  exact aw_vret rfl dX4_wipe_5 ⟨rfl, rfl, ⟨hr, f, g, s, (hf 49 (by decide)).trans h2, (hf 50 (by decide)).trans h3, (hf 51 (by decide)).trans h4, fun i hi => absurd hi (by simp)⟩, hf⟩
theorem c_Wit_add {N m s : Int} (H : isWit h l) (hl : okSeen l) (hs : seesOK N m s) : AC mX4_add d 0 0 n h [aR 48, aI N, aI m, aI s] (aqi n fun v h' => (l.length < 6 ∧ v = 1 ∧ isWit h' (l ++ [(N, m, s)]) ∧ ∀ j, (j < 48 ∨ 51 < j) → h' j = h j) ∨ (6 ≤ l.length ∧ v = 0 ∧ h' = h)) := by
  refine AC.of (by decide) (Nat.le_of_ble_eq_true rfl) ?_
  obtain ⟨h1, f, g, t, h2, h3, h4, h5⟩ := H
  have hl6 := hl.1
  obtain ⟨hN, hm, hs1⟩ := id hs
  refine aw_aload_n dX4_add_0 rfl ?_
  refine aw_get kg_X4_22 (by assumption) (by rfl) dX4_add_1 ?_
  refine aw_bipush dX4_add_4 (by decide) ?_
  -- at 6: .if_icmp .lt 5
  refine aw_icmp_lt (tgt := 11) dX4_add_6 (by omega) (by omega) (by decide) (fun c1 => ?_) (fun c1 => ?_)
  · refine aw_aload_n dX4_add_11 rfl ?_
    refine aw_get kg_X4_9 (by assumption) (by rfl) dX4_add_12 ?_
    refine aw_aload_n dX4_add_15 rfl ?_
    refine aw_get kg_X4_22 (by assumption) (by rfl) dX4_add_16 ?_
    refine aw_iload_n dX4_add_19 rfl ?_
    -- at 20: .iastore
    refine aw_iastO (by assumption) (by omega) dX4_add_20 (fun ha b1 f1 => ?_)
    have q48 := (f1 48 (by decide)).trans h1
    have q50 := (f1 50 (by decide)).trans h3
    have q51 := (f1 51 (by decide)).trans h4
    refine aw_aload_n dX4_add_21 rfl ?_
    refine aw_get kg_X4_15 (by assumption) (by rfl) dX4_add_22 ?_
    refine aw_aload_n dX4_add_25 rfl ?_
    refine aw_get kg_X4_22 (by assumption) (by rfl) dX4_add_26 ?_
    refine aw_iload_n dX4_add_29 rfl ?_
    -- at 30: .iastore
    refine aw_iastO (by assumption) (by omega) dX4_add_30 (fun hb b2 f2 => ?_)
    have r48 := (f2 48 (by decide)).trans q48
    have r49 := (f2 49 (by decide)).trans b1
    have r51 := (f2 51 (by decide)).trans q51
    refine aw_aload_n dX4_add_31 rfl ?_
    refine aw_get kg_X4_18 (by assumption) (by rfl) dX4_add_32 ?_
    refine aw_aload_n dX4_add_35 rfl ?_
    refine aw_get kg_X4_22 (by assumption) (by rfl) dX4_add_36 ?_
    refine aw_iload_n dX4_add_39 rfl ?_
    -- at 40: .bastore
    refine aw_zastO (by assumption) (by omega) (by omega) dX4_add_40 (fun hc b3 f3 => ?_)
    have t48 := (f3 48 (by decide)).trans r48
    have t49 := (f3 49 (by decide)).trans r49
    have t50 := (f3 50 (by decide)).trans b2
    refine aw_aload_n dX4_add_41 rfl ?_
    refine aw_dup dX4_add_42 rfl ?_
    refine aw_get kg_X4_22 (by assumption) (by rfl) dX4_add_43 ?_
    refine aw_iconst dX4_add_46 ?_
    refine aw_iadd dX4_add_47 ?_
    -- at 48: .putfield 22
    refine aw_putO kp_X4_22 (by assumption) (by simp) (aw_ni _) dX4_add_48 (fun hd b4 f4 => ?_)
    refine aw_iconst dX4_add_51 ?_
    -- at 52: .ireturn
    refine aw_zret rfl dX4_add_52 (by omega) ⟨rfl, _, rfl, Or.inl ⟨by omega, rfl, ⟨?_, _, _, _, (f4 49 (by decide)).trans t49, (f4 50 (by decide)).trans t50, (f4 51 (by decide)).trans b3, fun i hi => ?_⟩, fun j hj => ?_⟩⟩
    · rw [b4, List.length_append]
      rfl
    · rw [gd_app]
      simp at hi
      simp only [Int.toNat_natCast]
      by_cases q : i < l.length
      · rw [if_pos q, va_up_n _ _ _ (by omega), va_up_n _ _ _ (by omega), va_up_n _ _ _ (by omega)]
        exact h5 i q
      · have : i = l.length := by omega
        subst this
        rw [if_neg q, if_pos rfl, va_up_s, va_up_s, va_up_s]
        exact ⟨rfl, rfl, rfl⟩
    · rw [f4 j (by omega), f3 j (by omega), f2 j (by omega), f1 j (by omega)]
  · refine aw_iconst dX4_add_9 ?_
    -- at 10: .ireturn
    exact aw_zret rfl dX4_add_10 (by omega) ⟨rfl, _, rfl, Or.inr ⟨by omega, rfl, rfl⟩⟩
theorem sus_loop {Z : AZ} (H : isWit h l) (hl : okSeen l) (kk : ∀ L, lk L 1 = some (aI (unseenS l : Int)) → AW mX4_suspects (am_R (d + 3) 0 0) Z 0 0 n h 54 L []) :
    ∀ (e k : Nat) (L3 : Option AV), e + k = l.length → AW mX4_suspects (am_R (d + 3) 0 0) Z 0 0 n h 5 [some (aR 48), some (aI (sus l k : Int)), some (aI (k : Int)), L3] [] := by
  obtain ⟨h1, f, g, t, h2, h3, h4, h5⟩ := H
  have hl6 := hl.1
  intro e
  induction e with
  | zero =>
    intro k L3 hk
    have : k = l.length := by omega
    refine aw_iload_n dX4_suspects_5 rfl ?_
    refine aw_aload_n dX4_suspects_6 rfl ?_
    refine aw_get kg_X4_22 (by assumption) (by rfl) dX4_suspects_7 ?_
    -- at 10: .if_icmp .ge 44
    refine aw_icmp_ge (tgt := 54) dX4_suspects_10 (by omega) (by omega) (by decide) (fun c1 => ?_) (fun c1 => ?_)
    · exact kk _ (by rw [this]; rfl)
    · omega
  | succ e ih =>
    intro k L3 hk
    have hv := hl.2 k (by omega)
    obtain ⟨p1, p2, p3⟩ := h5 k (by omega)
    refine aw_iload_n dX4_suspects_5 rfl ?_
    refine aw_aload_n dX4_suspects_6 rfl ?_
    refine aw_get kg_X4_22 (by assumption) (by rfl) dX4_suspects_7 ?_
    -- at 10: .if_icmp .ge 44
    refine aw_icmp_ge (tgt := 54) dX4_suspects_10 (by omega) (by omega) (by decide) (fun c1 => ?_) (fun c1 => ?_)
    · omega
    · refine aw_aload_n dX4_suspects_13 rfl ?_
      refine aw_get kg_X4_9 (by assumption) (by rfl) dX4_suspects_14 ?_
      refine aw_iload_n dX4_suspects_17 rfl ?_
      refine aw_iald (by assumption) (by omega) dX4_suspects_18 ?_
      refine aw_val (w := aI (l.getD k s0).1) (by rw [Int.toNat_natCast, p1]) ?_
      refine aw_aload_n dX4_suspects_19 rfl ?_
      refine aw_get kg_X4_15 (by assumption) (by rfl) dX4_suspects_20 ?_
      refine aw_iload_n dX4_suspects_23 rfl ?_
      refine aw_iald (by assumption) (by omega) dX4_suspects_24 ?_
      -- at 25: .invokestatic 26
      refine aw_val (w := aI (l.getD k s0).2.1) (by rw [Int.toNat_natCast, p2]) ?_
      refine aw_Ti2 kc_X4_26 (c_splitters (d := d) hv.1 (by omega)) rfl (by omega) (Nat.le_of_ble_eq_true rfl) dX4_suspects_25 (fun v h' q => ?_)
      obtain ⟨rfl, rfl⟩ := q
      refine aw_istore_n dX4_suspects_28 (by decide) ?_
      refine aw_iload_n dX4_suspects_29 rfl ?_
      refine aw_aload_n dX4_suspects_30 rfl ?_
      refine aw_get kg_X4_18 (by assumption) (by rfl) dX4_suspects_31 ?_
      refine aw_iload_n dX4_suspects_34 rfl ?_
      refine aw_zald (by assumption) (by omega) dX4_suspects_35 ?_
      -- at 36: .ifCond .eq 7
      refine aw_val (w := aI (l.getD k s0).2.2) (by rw [Int.toNat_natCast, p3]) ?_
      have hlt := sus_lt l k
      have hhl := held_lt (l.getD k s0).1 (l.getD k s0).2.1
      have K := ih (k + 1) (some (aI (held (l.getD k s0).1 (l.getD k s0).2.1 : Int))) (by omega)
      rw [show ((k + 1 : Nat) : Int) = (k : Int) + 1 by omega] at K
      refine aw_if_eq (tgt := 43) dX4_suspects_36 (by omega) (by decide) (fun c2 => ?_) (fun c2 => ?_)
      · refine aw_iload_n dX4_suspects_43 rfl ?_
        refine aw_iconst dX4_suspects_44 ?_
        refine aw_ixor dX4_suspects_45 ?_
        refine aw_iand dX4_suspects_46 ?_
        refine aw_val (w := aI (sus l (k + 1) : Int)) (by rw [not32 hlt hhl, sus, if_neg (by omega)]) ?_
        refine aw_istore_n dX4_suspects_47 (by decide) ?_
        refine aw_iinc dX4_suspects_48 rfl (by decide) ?_
        refine aw_goto (tgt := 5) dX4_suspects_51 (by decide) ?_
        exact K
      · refine aw_iload_n dX4_suspects_39 rfl ?_
        refine aw_goto (tgt := 46) dX4_suspects_40 (by decide) ?_
        refine aw_iand dX4_suspects_46 ?_
        refine aw_val (w := aI (sus l (k + 1) : Int)) (by rw [and32 hlt hhl, sus, if_pos (by omega)]) ?_
        refine aw_istore_n dX4_suspects_47 (by decide) ?_
        refine aw_iinc dX4_suspects_48 rfl (by decide) ?_
        refine aw_goto (tgt := 5) dX4_suspects_51 (by decide) ?_
        exact K
theorem c_Wit_suspects (H : isWit h l) (hl : okSeen l) : AC mX4_suspects (d + 3) 0 0 n h [aR 48] (aqi n fun v h' => v = (unseenS l : Int) ∧ h' = h) := by
  refine AC.of (by decide) (Nat.le_of_ble_eq_true rfl) ?_
  refine aw_bipush dX4_suspects_0 (by decide) ?_
  refine aw_istore_n dX4_suspects_2 (by decide) ?_
  refine aw_iconst dX4_suspects_3 ?_
  refine aw_istore_n dX4_suspects_4 (by decide) ?_
  exact sus_loop H hl (fun L hL => by
    refine aw_iload_n dX4_suspects_54 hL ?_
    exact aw_iret rfl dX4_suspects_55 ⟨rfl, _, rfl, rfl, rfl⟩) l.length 0 none (by omega)
theorem sus6_loop {Z : AZ} {u p q lt e1 e2 e3 e4 e5 e6 e7 e8 : Int} (h1 : h 52 = aO 6 (mdl u p q (l.length : Int) lt e1 e2 e3 e4 e5 e6 e7 e8)) (H : isSn h l) (hl : okSeen l) (kk : ∀ L, lk L 1 = some (aI (unseenS l : Int)) → AW mX6_unseen (am_R (d + 3) 0 0) Z 0 0 n h 55 L []) :
    ∀ (e k : Nat) (L3 : Option AV), e + k = l.length → AW mX6_unseen (am_R (d + 3) 0 0) Z 0 0 n h 5 [some (aR 52), some (aI (sus l k : Int)), some (aI (k : Int)), L3] [] := by
  obtain ⟨f, g, t, h2, h3, h4, h5⟩ := H
  have hl6 := hl.1
  intro e
  induction e with
  | zero =>
    intro k L3 hk
    have : k = l.length := by omega
    refine aw_iload_n dX6_unseen_5 rfl ?_
    refine aw_aload_n dX6_unseen_6 rfl ?_
    refine aw_get kg_X6_123 (by assumption) (by rfl) dX6_unseen_7 ?_
    -- at 10: .if_icmp .ge 45
    refine aw_icmp_ge (tgt := 55) dX6_unseen_10 (by omega) (by omega) (by decide) (fun c1 => ?_) (fun c1 => ?_)
    · exact kk _ (by rw [this]; rfl)
    · omega
  | succ e ih =>
    intro k L3 hk
    have hv := hl.2 k (by omega)
    obtain ⟨p1, p2, p3⟩ := h5 k (by omega)
    refine aw_iload_n dX6_unseen_5 rfl ?_
    refine aw_aload_n dX6_unseen_6 rfl ?_
    refine aw_get kg_X6_123 (by assumption) (by rfl) dX6_unseen_7 ?_
    -- at 10: .if_icmp .ge 45
    refine aw_icmp_ge (tgt := 55) dX6_unseen_10 (by omega) (by omega) (by decide) (fun c1 => ?_) (fun c1 => ?_)
    · omega
    · refine aw_aload_n dX6_unseen_13 rfl ?_
      refine aw_get kg_X6_24 (by assumption) (by rfl) dX6_unseen_14 ?_
      refine aw_iload_n dX6_unseen_17 rfl ?_
      refine aw_iald (by assumption) (by omega) dX6_unseen_18 ?_
      refine aw_val (w := aI (l.getD k s0).1) (by rw [Int.toNat_natCast, p1]) ?_
      refine aw_aload_n dX6_unseen_19 rfl ?_
      refine aw_get kg_X6_27 (by assumption) (by rfl) dX6_unseen_20 ?_
      refine aw_iload_n dX6_unseen_23 rfl ?_
      refine aw_iald (by assumption) (by omega) dX6_unseen_24 ?_
      -- at 25: .invokestatic 197
      refine aw_val (w := aI (l.getD k s0).2.1) (by rw [Int.toNat_natCast, p2]) ?_
      refine aw_Si2 kc_X6_197 (c_held (d := d) hv.1 (by omega)) rfl (by omega) (Nat.le_of_ble_eq_true rfl) dX6_unseen_25 (fun v h' q => ?_)
      obtain ⟨rfl, rfl⟩ := q
      refine aw_istore_n dX6_unseen_28 (by decide) ?_
      refine aw_iload_n dX6_unseen_29 rfl ?_
      refine aw_aload_n dX6_unseen_30 rfl ?_
      refine aw_get kg_X6_30 (by assumption) (by rfl) dX6_unseen_31 ?_
      refine aw_iload_n dX6_unseen_34 rfl ?_
      refine aw_iald (by assumption) (by omega) dX6_unseen_35 ?_
      refine aw_val (w := aI (l.getD k s0).2.2) (by rw [Int.toNat_natCast, p3]) ?_
      have hlt := sus_lt l k
      have hhl := held_lt (l.getD k s0).1 (l.getD k s0).2.1
      have K := ih (k + 1) (some (aI (held (l.getD k s0).1 (l.getD k s0).2.1 : Int))) (by omega)
      rw [show ((k + 1 : Nat) : Int) = (k : Int) + 1 by omega] at K
      refine aw_iconst dX6_unseen_36 ?_
      -- at 37: .if_icmp .ne 7
      refine aw_icmp_ne (tgt := 44) dX6_unseen_37 (by omega) (by omega) (by decide) (fun c2 => ?_) (fun c2 => ?_)
      · refine aw_iload_n dX6_unseen_44 rfl ?_
        refine aw_iconst dX6_unseen_45 ?_
        refine aw_ixor dX6_unseen_46 ?_
        refine aw_iand dX6_unseen_47 ?_
        refine aw_val (w := aI (sus l (k + 1) : Int)) (by rw [not32 hlt hhl, sus, if_neg (by omega)]) ?_
        refine aw_istore_n dX6_unseen_48 (by decide) ?_
        refine aw_iinc dX6_unseen_49 rfl (by decide) ?_
        refine aw_goto (tgt := 5) dX6_unseen_52 (by decide) ?_
        exact K
      · refine aw_iload_n dX6_unseen_40 rfl ?_
        refine aw_goto (tgt := 47) dX6_unseen_41 (by decide) ?_
        refine aw_iand dX6_unseen_47 ?_
        refine aw_val (w := aI (sus l (k + 1) : Int)) (by rw [and32 hlt hhl, sus, if_pos (by omega)]) ?_
        refine aw_istore_n dX6_unseen_48 (by decide) ?_
        refine aw_iinc dX6_unseen_49 rfl (by decide) ?_
        refine aw_goto (tgt := 5) dX6_unseen_52 (by decide) ?_
        exact K
theorem c6_unseen {u p q lt e1 e2 e3 e4 e5 e6 e7 e8 : Int} (h1 : h 52 = aO 6 (mdl u p q (l.length : Int) lt e1 e2 e3 e4 e5 e6 e7 e8)) (H : isSn h l) (hl : okSeen l) : AC mX6_unseen (d + 3) 0 0 n h [aR 52] (aqi n fun v h' => v = (unseenS l : Int) ∧ h' = h) := by
  refine AC.of (by decide) (Nat.le_of_ble_eq_true rfl) ?_
  refine aw_bipush dX6_unseen_0 (by decide) ?_
  refine aw_istore_n dX6_unseen_2 (by decide) ?_
  refine aw_iconst dX6_unseen_3 ?_
  refine aw_istore_n dX6_unseen_4 (by decide) ?_
  exact sus6_loop h1 H hl (fun L hL => by
    refine aw_iload_n dX6_unseen_55 hL ?_
    exact aw_iret rfl dX6_unseen_56 ⟨rfl, _, rfl, rfl, rfl⟩) l.length 0 none (by omega)
theorem c6_forget {u p q lt e1 e2 e3 e4 e5 e6 e7 e8 : Int} (h1 : h 52 = aO 6 (mdl u p q (l.length : Int) lt e1 e2 e3 e4 e5 e6 e7 e8)) (hl : okSeen l) : AC mX6_forget d 0 0 n h [aR 52] (aqi n fun v h' => v = (l.length : Int) ∧ h' 52 = aO 6 (mdl u p q 0 lt e1 e2 e3 e4 e5 e6 e7 e8) ∧ ∀ j, j ≠ 52 → h' j = h j) := by
  refine AC.of (by decide) (Nat.le_of_ble_eq_true rfl) ?_
  refine aw_aload_n dX6_forget_0 rfl ?_
  refine aw_get kg_X6_123 (by assumption) (by rfl) dX6_forget_1 ?_
  refine aw_istore_n dX6_forget_4 (by decide) ?_
  refine aw_aload_n dX6_forget_5 rfl ?_
  refine aw_iconst dX6_forget_6 ?_
  -- at 7: .putfield 123
  refine aw_putO kp_X6_123 (by assumption) (by simp) (aw_ni _) dX6_forget_7 (fun h' hr hf => ?_)
  refine aw_iload_n dX6_forget_10 rfl ?_
  -- at 11: .ireturn
  exact aw_iret rfl dX6_forget_11 ⟨rfl, _, rfl, rfl, hr, hf⟩
theorem c6_sees {N m s : Int} {u p q lt e1 e2 e3 e4 e5 e6 e7 e8 : Int} (hN : -2147483648 ≤ N ∧ N ≤ 2147483647) (hm : -2147483648 ≤ m ∧ m ≤ 2147483647) (hs : -2147483648 ≤ s ∧ s ≤ 2147483647) (h1 : h 52 = aO 6 (mdl u p q (l.length : Int) lt e1 e2 e3 e4 e5 e6 e7 e8)) (H : isSn h l) (hl : okSeen l) : AC mX6_sees (d + 10) 0 0 n h [aR 52, aI N, aI m, aI s]
    (aqi n fun v h' => (¬ seesOK N m s ∧ v = -1 ∧ h' = h) ∨ (seesOK N m s ∧ 6 ≤ l.length ∧ v = -3 ∧ h' = h) ∨ (seesOK N m s ∧ l.length < 6 ∧ v = (l.length : Int) + 1 ∧ h' 52 = aO 6 (mdl u p q ((l.length : Int) + 1) lt e1 e2 e3 e4 e5 e6 e7 e8) ∧ isSn h' (l ++ [(N, m, s)]) ∧ ∀ j, j ≠ 52 → (j < 55 ∨ 57 < j) → h' j = h j)) := by
  refine AC.of (by decide) (Nat.le_of_ble_eq_true rfl) ?_
  obtain ⟨f, g, t, h2, h3, h4, h5⟩ := H
  have hl6 := hl.1
  refine aw_iload_n dX6_sees_0 rfl ?_
  refine aw_i2l dX6_sees_1 (by omega) ?_
  refine aw_ldc2 kl_X6_126 dX6_sees_2 ?_
  refine aw_ldc2 kl_X6_193 dX6_sees_5 ?_
  -- at 8: .invokestatic 66
  refine aw_Si3 kc_X6_66 (c_in (d := d) hN (by decide) (by decide)) rfl (by omega) (Nat.le_of_ble_eq_true rfl) dX6_sees_8 (fun v h' q => ?_)
  obtain ⟨rfl, rfl⟩ := q
  refine aw_flag_eq (tgt := 36) dX6_sees_11 (by decide) (fun c1 => ?_) (fun c1 => ?_)
  · refine aw_iconst dX6_sees_36 ?_
    -- at 37: .ireturn
    exact aw_iret rfl dX6_sees_37 ⟨rfl, _, rfl, Or.inl ⟨fun z => c1 z.1, rfl, rfl⟩⟩
  · refine aw_iload_n dX6_sees_14 rfl ?_
    refine aw_i2l dX6_sees_15 (by omega) ?_
    refine aw_lconst (a := 1) dX6_sees_16 (by decide) ?_
    refine aw_ldc2 kl_X6_195 dX6_sees_17 ?_
    -- at 20: .invokestatic 66
    refine aw_Si3 kc_X6_66 (c_in (d := d) hm (by decide) (by decide)) rfl (by omega) (Nat.le_of_ble_eq_true rfl) dX6_sees_20 (fun v h' q => ?_)
    obtain ⟨rfl, rfl⟩ := q
    refine aw_flag_eq (tgt := 36) dX6_sees_23 (by decide) (fun c2 => ?_) (fun c2 => ?_)
    · refine aw_iconst dX6_sees_36 ?_
      -- at 37: .ireturn
      exact aw_iret rfl dX6_sees_37 ⟨rfl, _, rfl, Or.inl ⟨fun z => c2 z.2.1, rfl, rfl⟩⟩
    · refine aw_iload_n dX6_sees_26 rfl ?_
      refine aw_i2l dX6_sees_27 (by omega) ?_
      refine aw_lconst (a := 0) dX6_sees_28 (by decide) ?_
      refine aw_lconst (a := 1) dX6_sees_29 (by decide) ?_
      -- at 30: .invokestatic 66
      refine aw_Si3 kc_X6_66 (c_in (d := d) hs (by decide) (by decide)) rfl (by omega) (Nat.le_of_ble_eq_true rfl) dX6_sees_30 (fun v h' q => ?_)
      obtain ⟨rfl, rfl⟩ := q
      refine aw_flag_ne (tgt := 38) dX6_sees_33 (by decide) (fun c3 => ?_) (fun c3 => ?_)
      · refine aw_aload_n dX6_sees_38 rfl ?_
        refine aw_get kg_X6_123 (by assumption) (by rfl) dX6_sees_39 ?_
        refine aw_bipush dX6_sees_42 (by decide) ?_
        -- at 44: .if_icmp .ne 6
        refine aw_icmp_ne (tgt := 50) dX6_sees_44 (by omega) (by omega) (by decide) (fun c4 => ?_) (fun c4 => ?_)
        · refine aw_aload_n dX6_sees_50 rfl ?_
          refine aw_get kg_X6_24 (by assumption) (by rfl) dX6_sees_51 ?_
          refine aw_aload_n dX6_sees_54 rfl ?_
          refine aw_get kg_X6_123 (by assumption) (by rfl) dX6_sees_55 ?_
          refine aw_iload_n dX6_sees_58 rfl ?_
          -- at 59: .iastore
          refine aw_iastO (by assumption) (by omega) dX6_sees_59 (fun ha b1 f1 => ?_)
          have q48 := (f1 52 (by decide)).trans h1
          have q50 := (f1 56 (by decide)).trans h3
          have q51 := (f1 57 (by decide)).trans h4
          refine aw_aload_n dX6_sees_60 rfl ?_
          refine aw_get kg_X6_27 (by assumption) (by rfl) dX6_sees_61 ?_
          refine aw_aload_n dX6_sees_64 rfl ?_
          refine aw_get kg_X6_123 (by assumption) (by rfl) dX6_sees_65 ?_
          refine aw_iload_n dX6_sees_68 rfl ?_
          -- at 69: .iastore
          refine aw_iastO (by assumption) (by omega) dX6_sees_69 (fun hb b2 f2 => ?_)
          have r48 := (f2 52 (by decide)).trans q48
          have r49 := (f2 55 (by decide)).trans b1
          have r51 := (f2 57 (by decide)).trans q51
          refine aw_aload_n dX6_sees_70 rfl ?_
          refine aw_get kg_X6_30 (by assumption) (by rfl) dX6_sees_71 ?_
          refine aw_aload_n dX6_sees_74 rfl ?_
          refine aw_get kg_X6_123 (by assumption) (by rfl) dX6_sees_75 ?_
          refine aw_iload_n dX6_sees_78 rfl ?_
          -- at 79: .iastore
          refine aw_iastO (by assumption) (by omega) dX6_sees_79 (fun hc b3 f3 => ?_)
          have t48 := (f3 52 (by decide)).trans r48
          have t49 := (f3 55 (by decide)).trans r49
          have t50 := (f3 56 (by decide)).trans b2
          refine aw_aload_n dX6_sees_80 rfl ?_
          refine aw_dup dX6_sees_81 rfl ?_
          refine aw_get kg_X6_123 (by assumption) (by rfl) dX6_sees_82 ?_
          refine aw_iconst dX6_sees_85 ?_
          refine aw_iadd dX6_sees_86 ?_
          -- at 87: .putfield 123
          refine aw_putO kp_X6_123 (by assumption) (by simp) (aw_ni _) dX6_sees_87 (fun hd b4 f4 => ?_)
          have b4 : hd 52 = aO 6 (mdl u p q ((l.length : Int) + 1) lt e1 e2 e3 e4 e5 e6 e7 e8) := b4
          refine aw_aload_n dX6_sees_90 rfl ?_
          refine aw_get kg_X6_123 (by assumption) (by rfl) dX6_sees_91 ?_
          -- at 94: .ireturn
          refine aw_iret rfl dX6_sees_94 ⟨rfl, _, rfl, Or.inr (Or.inr ⟨⟨c1, c2, c3⟩, by omega, rfl, b4, ⟨_, _, _, (f4 55 (by decide)).trans t49, (f4 56 (by decide)).trans t50, (f4 57 (by decide)).trans b3, fun i hi => ?_⟩, fun j hj0 hj => ?_⟩)⟩
          · rw [gd_app]
            simp at hi
            simp only [Int.toNat_natCast]
            by_cases q : i < l.length
            · rw [if_pos q, va_up_n _ _ _ (by omega), va_up_n _ _ _ (by omega), va_up_n _ _ _ (by omega)]
              exact h5 i q
            · have : i = l.length := by omega
              subst this
              rw [if_neg q, if_pos rfl, va_up_s, va_up_s, va_up_s]
              exact ⟨rfl, rfl, rfl⟩
          · rw [f4 j (by omega), f3 j (by omega), f2 j (by omega), f1 j (by omega)]
        · refine aw_bipush dX6_sees_47 (by decide) ?_
          -- at 49: .ireturn
          exact aw_iret rfl dX6_sees_49 ⟨rfl, _, rfl, Or.inr (Or.inl ⟨⟨c1, c2, c3⟩, by omega, rfl, rfl⟩)⟩
      · refine aw_iconst dX6_sees_36 ?_
        -- at 37: .ireturn
        exact aw_iret rfl dX6_sees_37 ⟨rfl, _, rfl, Or.inl ⟨fun z => c3 z.2.2, rfl, rfl⟩⟩
end Wit
end
section
/-! sees, forget, unseen, ask: the class; ones, ask: the reference -/
abbrev top5 (p q : Int) : List AV := [aI p, aI q, aR 2, aR 4, aR 6, aR 10, aR 32, aR 37, aR 38, aR 48]
def askQ (N : Int) (l : List Seen) : Int := if 2 ≤ N ∧ N ≤ 7 then askS N (unseenS l) else -1
section Ask
variable {d n : Nat} {h : AH} {l : List Seen} {p q : Int}
theorem c5_sees {N m s : Int} (hN : -2147483648 ≤ N ∧ N ≤ 2147483647) (hm : -2147483648 ≤ m ∧ m ≤ 2147483647) (hs : -2147483648 ≤ s ∧ s ≤ 2147483647) (h0 : h 1 = aO 5 (top5 p q)) (H : isWit h l) (hl : okSeen l) : AC mX5_sees (d + 10) 0 0 n h [aR 1, aI N, aI m, aI s]
    (aqi n fun v h' => (¬ seesOK N m s ∧ v = -1 ∧ h' = h) ∨ (seesOK N m s ∧ 6 ≤ l.length ∧ v = -3 ∧ h' = h) ∨ (seesOK N m s ∧ l.length < 6 ∧ v = (l.length : Int) + 1 ∧ isWit h' (l ++ [(N, m, s)]) ∧ ∀ j, (j < 48 ∨ 51 < j) → h' j = h j)) := by
  refine AC.of (by decide) (Nat.le_of_ble_eq_true rfl) ?_
  have hw := H.1
  refine aw_iload_n dX5_sees_0 rfl ?_
  -- at 1: .invokestatic 150
  refine aw_Si1 kc_X5_150 (c_isNumerator (d := d) hN) rfl (by omega) (Nat.le_of_ble_eq_true rfl) dX5_sees_1 (fun v h' q => ?_)
  obtain ⟨rfl, rfl⟩ := q
  refine aw_flag_eq (tgt := 28) dX5_sees_4 (by decide) (fun c1 => ?_) (fun c1 => ?_)
  · refine aw_iconst dX5_sees_28 ?_
    -- at 29: .ireturn
    exact aw_iret rfl dX5_sees_29 ⟨rfl, _, rfl, Or.inl ⟨fun z => c1 z.1, rfl, rfl⟩⟩
  · refine aw_iload_n dX5_sees_7 rfl ?_
    refine aw_iconst dX5_sees_8 ?_
    -- at 9: .if_icmp .lt 19
    refine aw_icmp_lt (tgt := 28) dX5_sees_9 (by omega) (by omega) (by decide) (fun c2 => ?_) (fun c2 => ?_)
    · refine aw_iconst dX5_sees_28 ?_
      -- at 29: .ireturn
      exact aw_iret rfl dX5_sees_29 ⟨rfl, _, rfl, Or.inl ⟨fun z => by have := z.2.1; omega, rfl, rfl⟩⟩
    · refine aw_iload_n dX5_sees_12 rfl ?_
      refine aw_sipush dX5_sees_13 (by decide) ?_
      -- at 16: .if_icmp .gt 12
      refine aw_icmp_gt (tgt := 28) dX5_sees_16 (by omega) (by omega) (by decide) (fun c3 => ?_) (fun c3 => ?_)
      · refine aw_iconst dX5_sees_28 ?_
        -- at 29: .ireturn
        exact aw_iret rfl dX5_sees_29 ⟨rfl, _, rfl, Or.inl ⟨fun z => by have := z.2.1; omega, rfl, rfl⟩⟩
      · refine aw_iload_n dX5_sees_19 rfl ?_
        -- at 20: .ifCond .lt 8
        refine aw_if_lt (tgt := 28) dX5_sees_20 (by omega) (by decide) (fun c4 => ?_) (fun c4 => ?_)
        · refine aw_iconst dX5_sees_28 ?_
          -- at 29: .ireturn
          exact aw_iret rfl dX5_sees_29 ⟨rfl, _, rfl, Or.inl ⟨fun z => by have := z.2.2; omega, rfl, rfl⟩⟩
        · refine aw_iload_n dX5_sees_23 rfl ?_
          refine aw_iconst dX5_sees_24 ?_
          -- at 25: .if_icmp .le 5
          refine aw_icmp_le (tgt := 30) dX5_sees_25 (by omega) (by omega) (by decide) (fun c5 => ?_) (fun c5 => ?_)
          · have ok : seesOK N m s := ⟨c1, by omega, by omega⟩
            have fin : ∀ L, lk L 0 = some (aR 1) → AW mX5_sees (am_R (d + 10) 0 0) (am_Z (aqi n fun v h'' => (¬ seesOK N m s ∧ v = -1 ∧ h'' = h') ∨ (seesOK N m s ∧ 6 ≤ l.length ∧ v = -3 ∧ h'' = h') ∨ (seesOK N m s ∧ l.length < 6 ∧ v = (l.length : Int) + 1 ∧ isWit h'' (l ++ [(N, m, s)]) ∧ ∀ j, (j < 48 ∨ 51 < j) → h'' j = h' j)) 0 0) 0 0 n h' 46 L [aI s, aI m, aI N, aR 48] := by
              intro L hL
              refine aw_Vi3 kc_X5_167 (c_Wit_add (d := d) H hl ok) (by assumption) rfl rfl (by omega) (Nat.le_of_ble_eq_true rfl) dX5_sees_46 (fun v h2 q => ?_)
              rcases q with ⟨q1, rfl, q3, q4⟩ | ⟨q1, rfl, rfl⟩
              · refine aw_if_eq (tgt := 62) dX5_sees_49 (by omega) (by decide) (fun c6 => ?_) (fun c6 => ?_)
                · omega
                · have h02 := (q4 1 (by omega)).trans h0
                  have hw2 := q3.1
                  refine aw_aload_n dX5_sees_52 hL ?_
                  refine aw_get kg_X5_58 (by assumption) (by rfl) dX5_sees_53 ?_
                  -- at 56: .invokevirtual 171
                  refine aw_Vi0 kc_X5_171 (c_Wit_length (d := d) q3) (by assumption) rfl rfl (by omega) (Nat.le_of_ble_eq_true rfl) dX5_sees_56 (fun v h3 q => ?_)
                  obtain ⟨rfl, rfl⟩ := q
                  refine aw_goto (tgt := 64) dX5_sees_59 (by decide) ?_
                  -- at 64: .ireturn
                  exact aw_iret rfl dX5_sees_64 ⟨rfl, _, rfl, Or.inr (Or.inr ⟨ok, q1, by simp, q3, q4⟩)⟩
              · refine aw_if_eq (tgt := 62) dX5_sees_49 (by omega) (by decide) (fun c6 => ?_) (fun c6 => ?_)
                · refine aw_bipush dX5_sees_62 (by decide) ?_
                  -- at 64: .ireturn
                  exact aw_iret rfl dX5_sees_64 ⟨rfl, _, rfl, Or.inr (Or.inl ⟨ok, q1, rfl, rfl⟩)⟩
                · omega
            refine aw_aload_n dX5_sees_30 rfl ?_
            refine aw_get kg_X5_58 (by assumption) (by rfl) dX5_sees_31 ?_
            refine aw_iload_n dX5_sees_34 rfl ?_
            refine aw_iload_n dX5_sees_35 rfl ?_
            refine aw_iload_n dX5_sees_36 rfl ?_
            refine aw_iconst dX5_sees_37 ?_
            -- at 38: .if_icmp .ne 7
            refine aw_icmp_ne (tgt := 45) dX5_sees_38 (by omega) (by omega) (by decide) (fun c6 => ?_) (fun c6 => ?_)
            · refine aw_iconst dX5_sees_45 ?_
              have e : s = 0 := by omega
              have K := fin [some (aR 1), some (aI N), some (aI m), some (aI s)] rfl
              subst e
              exact K
            · refine aw_iconst dX5_sees_41 ?_
              refine aw_goto (tgt := 46) dX5_sees_42 (by decide) ?_
              have e : s = 1 := by omega
              have K := fin [some (aR 1), some (aI N), some (aI m), some (aI s)] rfl
              subst e
              exact K
          · refine aw_iconst dX5_sees_28 ?_
            -- at 29: .ireturn
            exact aw_iret rfl dX5_sees_29 ⟨rfl, _, rfl, Or.inl ⟨fun z => by have := z.2.2; omega, rfl, rfl⟩⟩
theorem c5_forget (h0 : h 1 = aO 5 (top5 p q)) (H : isWit h l) (hl : okSeen l) : AC mX5_forget (d + 10) 0 0 n h [aR 1] (aqi n fun v h' => v = (l.length : Int) ∧ isWit h' [] ∧ ∀ j, (j < 48 ∨ 51 < j) → h' j = h j) := by
  refine AC.of (by decide) (Nat.le_of_ble_eq_true rfl) ?_
  have hw := H.1
  refine aw_aload_n dX5_forget_0 rfl ?_
  refine aw_get kg_X5_58 (by assumption) (by rfl) dX5_forget_1 ?_
  -- at 4: .invokevirtual 171
  refine aw_Vi0 kc_X5_171 (c_Wit_length (d := d) H) (by assumption) rfl rfl (by omega) (Nat.le_of_ble_eq_true rfl) dX5_forget_4 (fun v h' q => ?_)
  obtain ⟨rfl, rfl⟩ := q
  refine aw_istore_n dX5_forget_7 (by decide) ?_
  refine aw_aload_n dX5_forget_8 rfl ?_
  refine aw_get kg_X5_58 (by assumption) (by rfl) dX5_forget_9 ?_
  -- at 12: .invokevirtual 172
  refine aw_Vv0 kc_X5_172 (c_Wit_wipe (d := d) H) (by assumption) rfl rfl (by omega) (Nat.le_of_ble_eq_true rfl) dX5_forget_12 (fun h2 q => ?_)
  refine aw_iload_n dX5_forget_15 rfl ?_
  -- at 16: .ireturn
  exact aw_iret rfl dX5_forget_16 ⟨rfl, _, rfl, rfl, q.1, fun j hj => q.2 j (by omega)⟩
theorem c5_unseen (h0 : h 1 = aO 5 (top5 p q)) (H : isWit h l) (hl : okSeen l) : AC mX5_unseen (d + 10) 0 0 n h [aR 1] (aqi n fun v h' => v = (unseenS l : Int) ∧ h' = h) := by
  refine AC.of (by decide) (Nat.le_of_ble_eq_true rfl) ?_
  have hw := H.1
  refine aw_aload_n dX5_unseen_0 rfl ?_
  refine aw_get kg_X5_58 (by assumption) (by rfl) dX5_unseen_1 ?_
  -- at 4: .invokevirtual 173
  refine aw_Vi0 kc_X5_173 (c_Wit_suspects (d := d) H hl) (by assumption) rfl rfl (by omega) (Nat.le_of_ble_eq_true rfl) dX5_unseen_4 (fun v h' q => ?_)
  obtain ⟨rfl, rfl⟩ := q
  exact aw_iret rfl dX5_unseen_7 ⟨rfl, _, rfl, rfl, rfl⟩
-- how many bits
set_option maxHeartbeats 4000000 in
theorem c_bitCount {a : Nat} (ha : a < 32) : AC mJ6_bitCount_0f7a4 d 0 0 n h [aI (a : Int)] (aqi n fun v h' => v = (popc a : Int) ∧ h' = h) := by
  refine AC.of (by decide) (Nat.le_of_ble_eq_true rfl) ?_
  refine aw_iload_n dJ6_bitCount_0f7a4_0 rfl ?_
  refine aw_iload_n dJ6_bitCount_0f7a4_1 rfl ?_
  refine aw_iconst dJ6_bitCount_0f7a4_2 ?_
  refine aw_iushr dJ6_bitCount_0f7a4_3 ?_
  refine aw_ldcw ki_J6_265 dJ6_bitCount_0f7a4_4 ?_
  refine aw_iand dJ6_bitCount_0f7a4_7 ?_
  refine aw_isub dJ6_bitCount_0f7a4_8 ?_
  refine aw_istore_n dJ6_bitCount_0f7a4_9 (by decide) ?_
  refine aw_iload_n dJ6_bitCount_0f7a4_10 rfl ?_
  refine aw_ldcw ki_J6_266 dJ6_bitCount_0f7a4_11 ?_
  refine aw_iand dJ6_bitCount_0f7a4_14 ?_
  refine aw_iload_n dJ6_bitCount_0f7a4_15 rfl ?_
  refine aw_iconst dJ6_bitCount_0f7a4_16 ?_
  refine aw_iushr dJ6_bitCount_0f7a4_17 ?_
  refine aw_ldcw ki_J6_266 dJ6_bitCount_0f7a4_18 ?_
  refine aw_iand dJ6_bitCount_0f7a4_21 ?_
  refine aw_iadd dJ6_bitCount_0f7a4_22 ?_
  refine aw_istore_n dJ6_bitCount_0f7a4_23 (by decide) ?_
  refine aw_iload_n dJ6_bitCount_0f7a4_24 rfl ?_
  refine aw_iload_n dJ6_bitCount_0f7a4_25 rfl ?_
  refine aw_iconst dJ6_bitCount_0f7a4_26 ?_
  refine aw_iushr dJ6_bitCount_0f7a4_27 ?_
  refine aw_iadd dJ6_bitCount_0f7a4_28 ?_
  refine aw_ldcw ki_J6_267 dJ6_bitCount_0f7a4_29 ?_
  refine aw_iand dJ6_bitCount_0f7a4_32 ?_
  refine aw_istore_n dJ6_bitCount_0f7a4_33 (by decide) ?_
  refine aw_iload_n dJ6_bitCount_0f7a4_34 rfl ?_
  refine aw_iload_n dJ6_bitCount_0f7a4_35 rfl ?_
  refine aw_bipush dJ6_bitCount_0f7a4_36 (by decide) ?_
  refine aw_iushr dJ6_bitCount_0f7a4_38 ?_
  refine aw_iadd dJ6_bitCount_0f7a4_39 ?_
  refine aw_istore_n dJ6_bitCount_0f7a4_40 (by decide) ?_
  refine aw_iload_n dJ6_bitCount_0f7a4_41 rfl ?_
  refine aw_iload_n dJ6_bitCount_0f7a4_42 rfl ?_
  refine aw_bipush dJ6_bitCount_0f7a4_43 (by decide) ?_
  refine aw_iushr dJ6_bitCount_0f7a4_45 ?_
  refine aw_iadd dJ6_bitCount_0f7a4_46 ?_
  refine aw_istore_n dJ6_bitCount_0f7a4_47 (by decide) ?_
  refine aw_iload_n dJ6_bitCount_0f7a4_48 rfl ?_
  refine aw_bipush dJ6_bitCount_0f7a4_49 (by decide) ?_
  refine aw_iand dJ6_bitCount_0f7a4_51 ?_
  -- at 52: .ireturn
  refine aw_iret rfl dJ6_bitCount_0f7a4_52 ⟨rfl, _, rfl, ?_, rfl⟩
  revert a
  suffices hh : (List.range 32).all (fun a => decide (_ = _)) = true by
    intro a ha
    exact of_decide_eq_true (List.all_eq_true.mp hh a (List.mem_range.mpr ha))
  decide +kernel
theorem gpS_rng (N : Int) {set : Nat} (hs : set < 32) (k : Nat) : 0 ≤ gpS N set k ∧ gpS N set k ≤ (popc set : Int) ∧ gpS N set k ≤ 5 := by
  have h1 := popc_and_le hs (held_lt N (k : Int))
  have h2 := popc_le set
  unfold gpS
  dsimp only
  split <;> omega
theorem gpS_eq (N : Int) {set : Nat} (hs : set < 32) (k : Nat) : gpS N set k = (if ((popc (set &&& held N (k : Int)) : Nat) : Int) < (popc set : Int) - ((popc (set &&& held N (k : Int)) : Nat) : Int) then (popc set : Int) - ((popc (set &&& held N (k : Int)) : Nat) : Int) else ((popc (set &&& held N (k : Int)) : Nat) : Int)) := by
  have h1 := popc_and_le hs (held_lt N (k : Int))
  unfold gpS
  dsimp only
  by_cases q : popc (set &&& held N (k : Int)) < popc set - popc (set &&& held N (k : Int))
  · rw [if_pos q, if_pos (by omega)]
    omega
  · rw [if_neg q, if_neg (by omega)]
theorem bq_loop {N : Int} {set : Nat} {V : Int} (hN : 2 ≤ N ∧ N ≤ 7) (hs : set < 32) :
    ∀ (c k : Nat) (best small : Int) (L6 L7 : Option AV), c + k = 100 → 1 ≤ k → (-10 ≤ small ∧ small ≤ 10) → bqS N set c k best small = V → AW mX5_bestQuestion (am_R (d + 5) 0 0) (am_Z (aqi n fun v h' => v = V ∧ h' = h) 0 0) 0 0 n h 24 [some (aI N), some (aI (set : Int)), some (aI (popc set : Int)), some (aI best), some (aI small), some (aI (k : Int)), L6, L7] [] := by
  intro c
  induction c with
  | zero =>
    intro k best small L6 L7 hk h1 hsm hV
    refine aw_iload dX5_bestQuestion_24 rfl ?_
    refine aw_bipush dX5_bestQuestion_26 (by decide) ?_
    -- at 28: .if_icmp .gt 47
    refine aw_icmp_gt (tgt := 75) dX5_bestQuestion_28 (by omega) (by omega) (by decide) (fun c1 => ?_) (fun c1 => ?_)
    · refine aw_iload_n dX5_bestQuestion_75 rfl ?_
      -- at 76: .ireturn
      exact aw_iret rfl dX5_bestQuestion_76 ⟨rfl, _, rfl, hV, rfl⟩
    · omega
  | succ c ih =>
    intro k best small L6 L7 hk h1 hsm hV
    have hg := gpS_rng N hs k
    have hpl := popc_le set
    have hpa := popc_and_le hs (held_lt N (k : Int))
    rw [bqS] at hV
    refine aw_iload dX5_bestQuestion_24 rfl ?_
    refine aw_bipush dX5_bestQuestion_26 (by decide) ?_
    -- at 28: .if_icmp .gt 47
    refine aw_icmp_gt (tgt := 75) dX5_bestQuestion_28 (by omega) (by omega) (by decide) (fun c1 => ?_) (fun c1 => ?_)
    · omega
    · refine aw_iload_n dX5_bestQuestion_31 rfl ?_
      refine aw_iload_n dX5_bestQuestion_32 rfl ?_
      refine aw_iload dX5_bestQuestion_33 rfl ?_
      -- at 35: .invokestatic 164
      refine aw_Si2 kc_X5_164 (c_splitters (d := d) hN (by omega)) rfl (by omega) (Nat.le_of_ble_eq_true rfl) dX5_bestQuestion_35 (fun v h' q => ?_)
      obtain ⟨rfl, rfl⟩ := q
      refine aw_iand dX5_bestQuestion_38 ?_
      refine aw_val (w := aI ((set &&& held N (k : Int) : Nat) : Int)) (by rw [and32 hs (held_lt _ _)]) ?_
      refine aw_Si1 kc_X5_223 (c_bitCount (d := d) (and_lt32 hs)) rfl (by omega) (Nat.le_of_ble_eq_true rfl) dX5_bestQuestion_39 (fun v h' q => ?_)
      obtain ⟨rfl, rfl⟩ := q
      refine aw_istore dX5_bestQuestion_42 (by decide) ?_
      refine aw_iload dX5_bestQuestion_44 rfl ?_
      refine aw_iload_n dX5_bestQuestion_46 rfl ?_
      refine aw_iload dX5_bestQuestion_47 rfl ?_
      refine aw_isub dX5_bestQuestion_49 ?_
      -- at 50: .invokestatic 108
      refine aw_mmax kc_X5_108 ks_Lib_Math_max_name ti_J9 kd_Lib_Math_max_name (by omega) (by omega) (Nat.le_of_ble_eq_true rfl) (by show 1 ≤ d + 5; omega) (by show 30 ≤ 64 * (d + 5); omega) (Nat.le_refl _) (Nat.le_refl _) dX5_bestQuestion_50 ?_
      refine aw_val (w := aI (gpS N set k)) (by rw [gpS_eq N hs]) ?_
      refine aw_istore dX5_bestQuestion_53 (by decide) ?_
      refine aw_iload dX5_bestQuestion_55 rfl ?_
      refine aw_iload dX5_bestQuestion_57 rfl ?_
      -- at 59: .if_icmp .ge 10
      refine aw_icmp_ge (tgt := 69) dX5_bestQuestion_59 (by omega) (by omega) (by decide) (fun c2 => ?_) (fun c2 => ?_)
      · refine aw_iinc dX5_bestQuestion_69 rfl (by decide) ?_
        refine aw_goto (tgt := 24) dX5_bestQuestion_72 (by decide) ?_
        rw [if_neg (by omega)] at hV
        have K := ih (k + 1) best small (some (aI (popc (set &&& held N (k : Int)) : Int))) (some (aI (gpS N set k))) (by omega) (by omega) hsm hV
        rw [show ((k + 1 : Nat) : Int) = (k : Int) + 1 by omega] at K
        exact K
      · refine aw_iload dX5_bestQuestion_62 rfl ?_
        refine aw_istore dX5_bestQuestion_64 (by decide) ?_
        refine aw_iload dX5_bestQuestion_66 rfl ?_
        refine aw_istore_n dX5_bestQuestion_68 (by decide) ?_
        refine aw_iinc dX5_bestQuestion_69 rfl (by decide) ?_
        refine aw_goto (tgt := 24) dX5_bestQuestion_72 (by decide) ?_
        rw [if_pos (by omega)] at hV
        have K := ih (k + 1) (k : Int) (gpS N set k) (some (aI (popc (set &&& held N (k : Int)) : Int))) (some (aI (gpS N set k))) (by omega) (by omega) (by omega) hV
        rw [show ((k + 1 : Nat) : Int) = (k : Int) + 1 by omega] at K
        exact K
theorem c_bestQuestion {N : Int} {set : Nat} (hN : 2 ≤ N ∧ N ≤ 7) (hs : set < 32) : AC mX5_bestQuestion (d + 5) 0 0 n h [aI N, aI (set : Int)] (aqi n fun v h' => v = askS N set ∧ h' = h) := by
  refine AC.of (by decide) (Nat.le_of_ble_eq_true rfl) ?_
  have hpl := popc_le set
  refine aw_iload_n dX5_bestQuestion_0 rfl ?_
  -- at 1: .invokestatic 223
  refine aw_Si1 kc_X5_223 (c_bitCount (d := d) hs) rfl (by omega) (Nat.le_of_ble_eq_true rfl) dX5_bestQuestion_1 (fun v h' q => ?_)
  obtain ⟨rfl, rfl⟩ := q
  refine aw_istore_n dX5_bestQuestion_4 (by decide) ?_
  refine aw_iload_n dX5_bestQuestion_5 rfl ?_
  refine aw_iconst dX5_bestQuestion_6 ?_
  -- at 7: .if_icmp .gt 6
  refine aw_icmp_gt (tgt := 13) dX5_bestQuestion_7 (by omega) (by omega) (by decide) (fun c1 => ?_) (fun c1 => ?_)
  · refine aw_bipush dX5_bestQuestion_13 (by decide) ?_
    refine aw_istore_n dX5_bestQuestion_15 (by decide) ?_
    refine aw_iload_n dX5_bestQuestion_16 rfl ?_
    refine aw_iconst dX5_bestQuestion_17 ?_
    refine aw_iadd dX5_bestQuestion_18 ?_
    refine aw_istore dX5_bestQuestion_19 (by decide) ?_
    refine aw_iconst dX5_bestQuestion_21 ?_
    refine aw_istore dX5_bestQuestion_22 (by decide) ?_
    have hg := gpS_rng N hs 1
    refine bq_loop hN hs 99 1 (-9) ((popc set : Int) + 1) none none rfl (by omega) (by omega) ?_
    rw [bqS, if_pos (by omega), askS, if_neg (by omega)]
    rfl
  · refine aw_bipush dX5_bestQuestion_10 (by decide) ?_
    -- at 12: .ireturn
    exact aw_iret rfl dX5_bestQuestion_12 ⟨rfl, _, rfl, by rw [askS, if_pos (by omega)], rfl⟩
theorem c5_ask {N : Int} (hN : -2147483648 ≤ N ∧ N ≤ 2147483647) (h0 : h 1 = aO 5 (top5 p q)) (H : isWit h l) (hl : okSeen l) : AC mX5_ask (d + 10) 0 0 n h [aR 1, aI N] (aqi n fun v h' => v = askQ N l ∧ h' = h) := by
  refine AC.of (by decide) (Nat.le_of_ble_eq_true rfl) ?_
  have hw := H.1
  refine aw_iload_n dX5_ask_0 rfl ?_
  -- at 1: .invokestatic 150
  refine aw_Si1 kc_X5_150 (c_isNumerator (d := d) hN) rfl (by omega) (Nat.le_of_ble_eq_true rfl) dX5_ask_1 (fun v h' q => ?_)
  obtain ⟨rfl, rfl⟩ := q
  refine aw_flag_ne (tgt := 9) dX5_ask_4 (by decide) (fun c1 => ?_) (fun c1 => ?_)
  · refine aw_iload_n dX5_ask_9 rfl ?_
    refine aw_aload_n dX5_ask_10 rfl ?_
    refine aw_get kg_X5_58 (by assumption) (by rfl) dX5_ask_11 ?_
    -- at 14: .invokevirtual 173
    refine aw_Vi0 kc_X5_173 (c_Wit_suspects (d := d) H hl) (by assumption) rfl rfl (by omega) (Nat.le_of_ble_eq_true rfl) dX5_ask_14 (fun v h' q => ?_)
    obtain ⟨rfl, rfl⟩ := q
    refine aw_Si2 kc_X5_176 (c_bestQuestion (d := d) c1 (sus_lt l l.length)) rfl (by omega) (Nat.le_of_ble_eq_true rfl) dX5_ask_17 (fun v h' q => ?_)
    obtain ⟨rfl, rfl⟩ := q
    exact aw_iret rfl dX5_ask_20 ⟨rfl, _, rfl, by rw [askQ, if_pos c1], rfl⟩
  · refine aw_iconst dX5_ask_7 ?_
    -- at 8: .ireturn
    exact aw_iret rfl dX5_ask_8 ⟨rfl, _, rfl, by rw [askQ, if_neg c1], rfl⟩
-- the reference
def pop5 (a : Nat) : Nat → Nat
  | 0 => 0
  | k + 1 => pop5 a k + if Nat.testBit a k then 1 else 0
theorem pop5a : (List.range 32).all (fun a => decide (pop5 a 5 = popc a)) = true := by decide +kernel
theorem pop5_eq {a : Nat} (ha : a < 32) : pop5 a 5 = popc a := of_decide_eq_true (List.all_eq_true.mp pop5a a (List.mem_range.mpr ha))
theorem pop5_le (a : Nat) : ∀ k, pop5 a k ≤ k
  | 0 => Nat.le_refl _
  | k + 1 => by
    have := pop5_le a k
    unfold pop5
    split <;> omega
theorem ones_loop {a : Nat} {Z : AZ} (ha : a < 32) (kk : ∀ L, lk L 1 = some (aI (popc a : Int)) → AW mX6_ones (am_R d 0 0) Z 0 0 n h 23 L []) :
    ∀ (e k : Nat), e + k = 5 → AW mX6_ones (am_R d 0 0) Z 0 0 n h 4 [some (aI (a : Int)), some (aI (pop5 a k : Int)), some (aI (k : Int))] [] := by
  intro e
  induction e with
  | zero =>
    intro k hk
    have : k = 5 := by omega
    subst this
    refine aw_iload_n dX6_ones_4 rfl ?_
    refine aw_iconst dX6_ones_5 ?_
    -- at 6: .if_icmp .ge 17
    refine aw_icmp_ge (tgt := 23) dX6_ones_6 (by omega) (by omega) (by decide) (fun c1 => ?_) (fun c1 => ?_)
    · exact kk _ (by rw [← pop5_eq ha]; rfl)
    · omega
  | succ e ih =>
    intro k hk
    have K := ih (k + 1) (by omega)
    rw [show ((k + 1 : Nat) : Int) = (k : Int) + 1 by omega] at K
    refine aw_iload_n dX6_ones_4 rfl ?_
    refine aw_iconst dX6_ones_5 ?_
    -- at 6: .if_icmp .ge 17
    refine aw_icmp_ge (tgt := 23) dX6_ones_6 (by omega) (by omega) (by decide) (fun c1 => ?_) (fun c1 => ?_)
    · omega
    · refine aw_iload_n dX6_ones_9 rfl ?_
      refine aw_iload_n dX6_ones_10 rfl ?_
      refine aw_iload_n dX6_ones_11 rfl ?_
      refine aw_ishr dX6_ones_12 ?_
      refine aw_iconst dX6_ones_13 ?_
      refine aw_iand dX6_ones_14 ?_
      refine aw_val (w := aI (if Nat.testBit a k then 1 else 0)) (by rw [shr5 ha (by omega)]) ?_
      refine aw_iadd dX6_ones_15 ?_
      refine aw_val (w := aI (pop5 a (k + 1) : Int)) (by rw [pop5]; split <;> simp) ?_
      refine aw_istore_n dX6_ones_16 (by decide) ?_
      refine aw_iinc dX6_ones_17 rfl (by decide) ?_
      refine aw_goto (tgt := 4) dX6_ones_20 (by decide) ?_
      exact K
theorem c6_ones {a : Nat} (ha : a < 32) : AC mX6_ones d 0 0 n h [aI (a : Int)] (aqi n fun v h' => v = (popc a : Int) ∧ h' = h) := by
  refine AC.of (by decide) (Nat.le_of_ble_eq_true rfl) ?_
  refine aw_iconst dX6_ones_0 ?_
  refine aw_istore_n dX6_ones_1 (by decide) ?_
  refine aw_iconst dX6_ones_2 ?_
  refine aw_istore_n dX6_ones_3 (by decide) ?_
  exact ones_loop ha (fun L hL => by
    refine aw_iload_n dX6_ones_23 hL ?_
    exact aw_iret rfl dX6_ones_24 ⟨rfl, _, rfl, rfl, rfl⟩) 5 0 rfl
theorem bqS_0 (N : Int) {set : Nat} (hs : set < 32) : ∀ (c k : Nat) (best : Int), bqS N set c k best 0 = best
  | 0, _, _ => rfl
  | c + 1, k, best => by
    have := gpS_rng N hs k
    rw [bqS, if_neg (by omega), bqS_0 N hs c]
theorem bq6_loop {x : Nat} {N : Int} {set : Nat} {V : Int} (hN : 2 ≤ N ∧ N ≤ 7) (hs : set < 32) :
    ∀ (c k : Nat) (best small : Int) (L6 L7 L8 : Option AV), c + k = 100 → 1 ≤ k → (-10 ≤ small ∧ small ≤ 10) → bqS N set c k best small = V → AW mX6_ask (am_R (d + 10) 0 0) (am_Z (aqi n fun v h' => v = V ∧ h' = h) 0 0) 0 0 n h 43 [some (aR x), some (aI N), some (aI (set : Int)), some (aI best), some (aI small), some (aI (k : Int)), L6, L7, L8] [] := by
  intro c
  induction c with
  | zero =>
    intro k best small L6 L7 L8 hk h1 hsm hV
    refine aw_iload dX6_ask_43 rfl ?_
    refine aw_bipush dX6_ask_45 (by decide) ?_
    -- at 47: .if_icmp .ge 77
    refine aw_icmp_ge (tgt := 124) dX6_ask_47 (by omega) (by omega) (by decide) (fun c1 => ?_) (fun c1 => ?_)
    · refine aw_iload_n dX6_ask_124 rfl ?_
      -- at 125: .ireturn
      exact aw_iret rfl dX6_ask_125 ⟨rfl, _, rfl, hV, rfl⟩
    · omega
  | succ c ih =>
    intro k best small L6 L7 L8 hk h1 hsm hV
    have hg := gpS_rng N hs k
    have hpl := popc_le set
    have hpa := popc_and_le hs (held_lt N (k : Int))
    rw [bqS] at hV
    refine aw_iload dX6_ask_43 rfl ?_
    refine aw_bipush dX6_ask_45 (by decide) ?_
    -- at 47: .if_icmp .ge 77
    refine aw_icmp_ge (tgt := 124) dX6_ask_47 (by omega) (by omega) (by decide) (fun c1 => ?_) (fun c1 => ?_)
    · omega
    · refine aw_iload_n dX6_ask_50 rfl ?_
      refine aw_iload_n dX6_ask_51 rfl ?_
      refine aw_iload dX6_ask_52 rfl ?_
      -- at 54: .invokestatic 197
      refine aw_Si2 kc_X6_197 (c_held (d := d) hN (by omega)) rfl (by omega) (Nat.le_of_ble_eq_true rfl) dX6_ask_54 (fun v h' q => ?_)
      obtain ⟨rfl, rfl⟩ := q
      refine aw_iand dX6_ask_57 ?_
      refine aw_val (w := aI ((set &&& held N (k : Int) : Nat) : Int)) (by rw [and32 hs (held_lt _ _)]) ?_
      refine aw_Si1 kc_X6_207 (c6_ones (d := d) (and_lt32 hs)) rfl (by omega) (Nat.le_of_ble_eq_true rfl) dX6_ask_58 (fun v h' q => ?_)
      obtain ⟨rfl, rfl⟩ := q
      refine aw_istore dX6_ask_61 (by decide) ?_
      refine aw_iload_n dX6_ask_63 rfl ?_
      -- at 64: .invokestatic 207
      refine aw_Si1 kc_X6_207 (c6_ones (d := d) hs) rfl (by omega) (Nat.le_of_ble_eq_true rfl) dX6_ask_64 (fun v h' q => ?_)
      obtain ⟨rfl, rfl⟩ := q
      have e8 := gpS_eq N hs k
      have fin : ∀ L6 L7, AW mX6_ask (am_R (d + 10) 0 0) (am_Z (aqi n fun v h'' => v = V ∧ h'' = h') 0 0) 0 0 n h' 88 [some (aR x), some (aI N), some (aI (set : Int)), some (aI best), some (aI small), some (aI (k : Int)), L6, L7, some (aI (gpS N set k))] [] := by
        intro L6 L7
        refine aw_iload dX6_ask_88 rfl ?_
        refine aw_iload dX6_ask_90 rfl ?_
        -- at 92: .if_icmp .ge 8
        refine aw_icmp_ge (tgt := 100) dX6_ask_92 (by omega) (by omega) (by decide) (fun c2 => ?_) (fun c2 => ?_)
        · refine aw_iload_n dX6_ask_100 rfl ?_
          refine aw_istore_n dX6_ask_101 (by decide) ?_
          refine aw_iload dX6_ask_102 rfl ?_
          refine aw_iload dX6_ask_104 rfl ?_
          refine aw_icmp_ge (tgt := 114) dX6_ask_106 (by omega) (by omega) (by decide) (fun c3 => ?_) (fun c3 => ?_)
          · refine aw_iload dX6_ask_114 rfl ?_
            refine aw_istore dX6_ask_116 (by decide) ?_
            refine aw_iinc dX6_ask_118 rfl (by decide) ?_
            refine aw_goto (tgt := 43) dX6_ask_121 (by decide) ?_
            rw [if_neg (by omega)] at hV
            have K := ih (k + 1) best small L6 L7 (some (aI (gpS N set k))) (by omega) (by omega) hsm hV
            rw [show ((k + 1 : Nat) : Int) = (k : Int) + 1 by omega] at K
            exact K
          · omega
        · refine aw_iload dX6_ask_95 rfl ?_
          refine aw_goto (tgt := 101) dX6_ask_97 (by decide) ?_
          refine aw_istore_n dX6_ask_101 (by decide) ?_
          refine aw_iload dX6_ask_102 rfl ?_
          refine aw_iload dX6_ask_104 rfl ?_
          refine aw_icmp_ge (tgt := 114) dX6_ask_106 (by omega) (by omega) (by decide) (fun c3 => ?_) (fun c3 => ?_)
          · omega
          · refine aw_iload dX6_ask_109 rfl ?_
            refine aw_goto (tgt := 116) dX6_ask_111 (by decide) ?_
            refine aw_istore dX6_ask_116 (by decide) ?_
            refine aw_iinc dX6_ask_118 rfl (by decide) ?_
            refine aw_goto (tgt := 43) dX6_ask_121 (by decide) ?_
            rw [if_pos (by omega)] at hV
            have K := ih (k + 1) (k : Int) (gpS N set k) L6 L7 (some (aI (gpS N set k))) (by omega) (by omega) (by omega) hV
            rw [show ((k + 1 : Nat) : Int) = (k : Int) + 1 by omega] at K
            exact K
      refine aw_iload dX6_ask_67 rfl ?_
      refine aw_isub dX6_ask_69 ?_
      refine aw_istore dX6_ask_70 (by decide) ?_
      refine aw_iload dX6_ask_72 rfl ?_
      refine aw_iload dX6_ask_74 rfl ?_
      -- at 76: .if_icmp .le 8
      refine aw_icmp_le (tgt := 84) dX6_ask_76 (by omega) (by omega) (by decide) (fun c2 => ?_) (fun c2 => ?_)
      · refine aw_iload dX6_ask_84 rfl ?_
        refine aw_val (w := aI (gpS N set k)) ?_ ?_
        · rw [e8]
          by_cases z : ((popc (set &&& held N (k : Int)) : Nat) : Int) < (popc set : Int) - ((popc (set &&& held N (k : Int)) : Nat) : Int)
          · rw [if_pos z]
          · rw [if_neg z]
            congr 1
            omega
        · refine aw_istore dX6_ask_86 (by decide) ?_
          exact fin _ _
      · refine aw_iload dX6_ask_79 rfl ?_
        refine aw_goto (tgt := 86) dX6_ask_81 (by decide) ?_
        refine aw_val (w := aI (gpS N set k)) (by rw [e8, if_neg (by omega)]) ?_
        refine aw_istore dX6_ask_86 (by decide) ?_
        exact fin _ _
theorem c6_ask {N : Int} {u p q lt e1 e2 e3 e4 e5 e6 e7 e8 : Int} (hN : -2147483648 ≤ N ∧ N ≤ 2147483647) (h1 : h 52 = aO 6 (mdl u p q (l.length : Int) lt e1 e2 e3 e4 e5 e6 e7 e8)) (H : isSn h l) (hl : okSeen l) : AC mX6_ask (d + 10) 0 0 n h [aR 52, aI N] (aqi n fun v h' => v = askQ N l ∧ h' = h) := by
  refine AC.of (by decide) (Nat.le_of_ble_eq_true rfl) ?_
  have hs := sus_lt l l.length
  have hpl := popc_le (unseenS l)
  refine aw_iload_n dX6_ask_0 rfl ?_
  refine aw_i2l dX6_ask_1 (by omega) ?_
  refine aw_ldc2 kl_X6_126 dX6_ask_2 ?_
  refine aw_ldc2 kl_X6_193 dX6_ask_5 ?_
  -- at 8: .invokestatic 66
  refine aw_Si3 kc_X6_66 (c_in (d := d) hN (by decide) (by decide)) rfl (by omega) (Nat.le_of_ble_eq_true rfl) dX6_ask_8 (fun v h' q => ?_)
  obtain ⟨rfl, rfl⟩ := q
  refine aw_flag_ne (tgt := 16) dX6_ask_11 (by decide) (fun c1 => ?_) (fun c1 => ?_)
  · refine aw_aload_n dX6_ask_16 rfl ?_
    -- at 17: .invokevirtual 204
    refine aw_Vi0 kc_X6_204 (c6_unseen (d := d) h1 H hl) (by assumption) rfl rfl (by omega) (Nat.le_of_ble_eq_true rfl) dX6_ask_17 (fun v h' q => ?_)
    obtain ⟨rfl, rfl⟩ := q
    refine aw_istore_n dX6_ask_20 (by decide) ?_
    refine aw_bipush dX6_ask_21 (by decide) ?_
    refine aw_istore_n dX6_ask_23 (by decide) ?_
    refine aw_iload_n dX6_ask_24 rfl ?_
    -- at 25: .invokestatic 207
    refine aw_Si1 kc_X6_207 (c6_ones (d := d) hs) rfl (by omega) (Nat.le_of_ble_eq_true rfl) dX6_ask_25 (fun v h' q => ?_)
    obtain ⟨rfl, rfl⟩ := q
    refine aw_iconst dX6_ask_28 ?_
    -- at 29: .if_icmp .le 8
    refine aw_icmp_le (tgt := 37) dX6_ask_29 (by omega) (by omega) (by decide) (fun c2 => ?_) (fun c2 => ?_)
    · refine aw_iconst dX6_ask_37 ?_
      refine aw_istore dX6_ask_38 (by decide) ?_
      refine aw_iconst dX6_ask_40 ?_
      refine aw_istore dX6_ask_41 (by decide) ?_
      refine bq6_loop c1 hs 99 1 (-9) 0 none none none rfl (by omega) (by omega) ?_
      rw [bqS_0 N hs, askQ, if_pos c1, askS, if_pos (by omega)]
    · refine aw_bipush dX6_ask_32 (by decide) ?_
      refine aw_goto (tgt := 38) dX6_ask_34 (by decide) ?_
      refine aw_istore dX6_ask_38 (by decide) ?_
      refine aw_iconst dX6_ask_40 ?_
      refine aw_istore dX6_ask_41 (by decide) ?_
      have hg := gpS_rng N hs 1
      refine bq6_loop c1 hs 99 1 (-9) 6 none none none rfl (by omega) (by omega) ?_
      rw [bqS, if_pos (by omega), askQ, if_pos c1, askS, if_neg (by omega)]
      rfl
  · refine aw_iconst dX6_ask_14 ?_
    -- at 15: .ireturn
    exact aw_iret rfl dX6_ask_15 ⟨rfl, _, rfl, by rw [askQ, if_neg c1], rfl⟩
end Ask
end
section
/-! the text: tokens, both sides -/
def okTx (t : List Int) : Prop := t.length ≤ 60 ∧ ∀ i, i < t.length → 0 ≤ t.getD i 0 ∧ t.getD i 0 ≤ 255
def skp (t : List Int) : Nat → Nat → Nat
  | 0, p => p
  | k + 1, p => if p < t.length ∧ t.getD p 0 = 32 then skp t k (p + 1) else p
theorem skp_le (t : List Int) : ∀ k p, p ≤ skp t k p ∧ skp t k p ≤ p + k
  | 0, p => ⟨Nat.le_refl _, Nat.le_refl _⟩
  | k + 1, p => by
    unfold skp
    have := skp_le t k (p + 1)
    split <;> omega
def stS (t : List Int) (p : Nat) : Nat := skp t (t.length - p) p
def nen (t : List Int) : Nat → Nat → Nat
  | 0, p => p
  | k + 1, p => if p < t.length ∧ (48 ≤ t.getD p 0 ∧ t.getD p 0 ≤ 57) then nen t k (p + 1) else p
theorem nen_le (t : List Int) : ∀ k p, p ≤ nen t k p ∧ nen t k p ≤ p + k
  | 0, p => ⟨Nat.le_refl _, Nat.le_refl _⟩
  | k + 1, p => by
    unfold nen
    have := nen_le t k (p + 1)
    split <;> omega
/-- where the figures that begin at s end -/
def neS (t : List Int) (s : Nat) : Nat := nen t (t.length - s) s
/-- what k figures from s on are: 1000, if they are no number -/
def vS (t : List Int) (s k : Nat) : Int := if k = 1 then t.getD s 0 - 48 else if k = 2 ∧ 0 < t.getD s 0 - 48 then 10 * (t.getD s 0 - 48) + (t.getD (s + 1) 0 - 48) else 1000
def isDg (t : List Int) (s : Nat) : Prop := 48 ≤ t.getD s 0 ∧ t.getD s 0 ≤ 57
/-- the token at a place: -1 the end, a letter, 1000 and a number (2000: a wrong one) -/
def tkS (t : List Int) (p : Nat) : Int := if t.length ≤ stS t p then -1 else if 48 ≤ t.getD (stS t p) 0 ∧ t.getD (stS t p) 0 ≤ 57 then 1000 + vS t (stS t p) (neS t (stS t p) - stS t p) else t.getD (stS t p) 0
def nxS (t : List Int) (p : Nat) : Nat := if t.length ≤ stS t p then stS t p else if 48 ≤ t.getD (stS t p) 0 ∧ t.getD (stS t p) 0 ≤ 57 then neS t (stS t p) else stS t p + 1
theorem nen_dg (t : List Int) : ∀ k p i, p ≤ i → i < nen t k p → 48 ≤ t.getD i 0 ∧ t.getD i 0 ≤ 57
  | 0, p, i, h1, h2 => by unfold nen at h2; omega
  | k + 1, p, i, h1, h2 => by
    unfold nen at h2
    split at h2
    · rename_i hc
      by_cases q : i = p
      · subst q; exact hc.2
      · exact nen_dg t k (p + 1) i (by omega) h2
    · omega
theorem stS_le {t : List Int} {p : Nat} (h : p ≤ t.length) : p ≤ stS t p ∧ stS t p ≤ t.length := by
  have := skp_le t (t.length - p) p
  unfold stS
  omega
theorem neS_le {t : List Int} {p : Nat} (h : p ≤ t.length) : p ≤ neS t p ∧ neS t p ≤ t.length := by
  have := nen_le t (t.length - p) p
  unfold neS
  omega
theorem neS_lt {t : List Int} {p : Nat} (h : p < t.length) (hd : 48 ≤ t.getD p 0 ∧ t.getD p 0 ≤ 57) : p < neS t p := by
  obtain ⟨k, hk⟩ : ∃ k, t.length - p = k + 1 := ⟨t.length - p - 1, by omega⟩
  have := nen_le t k (p + 1)
  unfold neS
  rw [hk, nen, if_pos ⟨h, hd⟩]
  omega
theorem nxS_le {t : List Int} {p : Nat} (h : p ≤ t.length) : p ≤ nxS t p ∧ nxS t p ≤ t.length := by
  have h1 := stS_le h
  have h2 := neS_le h1.2
  unfold nxS
  split
  · omega
  · split <;> omega
theorem vS_rng {t : List Int} (ht : okTx t) {p : Nat} (h : p ≤ t.length) (h2 : stS t p < t.length) (hd : 48 ≤ t.getD (stS t p) 0 ∧ t.getD (stS t p) 0 ≤ 57) : 0 ≤ vS t (stS t p) (neS t (stS t p) - stS t p) ∧ vS t (stS t p) (neS t (stS t p) - stS t p) ≤ 1000 ∧ (vS t (stS t p) (neS t (stS t p) - stS t p) ≤ 99 ∨ vS t (stS t p) (neS t (stS t p) - stS t p) = 1000) := by
  have hlt := neS_lt h2 hd
  unfold vS
  split
  · omega
  · split
    · have := nen_dg t (t.length - stS t p) (stS t p) (stS t p + 1) (by omega) (by show _ < neS t (stS t p); omega)
      omega
    · omega
theorem tkS_rng {t : List Int} (ht : okTx t) {p : Nat} (h : p ≤ t.length) : -1 ≤ tkS t p ∧ tkS t p ≤ 2000 ∧ (tkS t p ≤ 1099 ∨ tkS t p = 2000) := by
  have h1 := stS_le h
  unfold tkS
  split
  · omega
  · have := ht.2 (stS t p) (by omega)
    split
    · rename_i hd
      have := vS_rng ht h (by omega) hd
      omega
    · omega
-- the class's own value: never above 100
def cvs (a x : Int) : Int := if 100 ≤ a * 10 + x then 100 else a * 10 + x
theorem cvs_s {a x : Int} (h : a * 10 + x < 100) : cvs a x = a * 10 + x := if_neg (by omega)
theorem cvs_b {a x : Int} (h : 100 ≤ a * 10 + x) : cvs a x = 100 := if_pos h
def cv (t : List Int) (s : Nat) : Nat → Int
  | 0 => 0
  | k + 1 => cvs (cv t s k) (t.getD (s + k) 0 - 48)
theorem cv_rng (t : List Int) (s : Nat) : ∀ k, (∀ i, i < k → 48 ≤ t.getD (s + i) 0 ∧ t.getD (s + i) 0 ≤ 57) → 0 ≤ cv t s k ∧ cv t s k ≤ 100
  | 0, _ => by simp [cv]
  | k + 1, h => by
    have := cv_rng t s k (fun i hi => h i (by omega))
    have := h k (by omega)
    unfold cv cvs
    split <;> omega
theorem cv_1 {t : List Int} {s : Nat} (e0 : 48 ≤ t.getD s 0 ∧ t.getD s 0 ≤ 57) : cv t s 1 = t.getD s 0 - 48 := by
  show cvs 0 (t.getD (s + 0) 0 - 48) = _
  rw [Nat.add_zero, cvs_s (by omega)]
  omega
theorem cv_2 {t : List Int} {s : Nat} (e0 : 48 ≤ t.getD s 0 ∧ t.getD s 0 ≤ 57) (e1 : 48 ≤ t.getD (s + 1) 0 ∧ t.getD (s + 1) 0 ≤ 57) : cv t s 2 = 10 * (t.getD s 0 - 48) + (t.getD (s + 1) 0 - 48) := by
  show cvs (cv t s 1) (t.getD (s + 1) 0 - 48) = _
  rw [cv_1 e0, cvs_s (by omega)]
  omega
theorem cv_big (t : List Int) (s : Nat) : ∀ k, 3 ≤ k → (∀ i, i < k → 48 ≤ t.getD (s + i) 0 ∧ t.getD (s + i) 0 ≤ 57) → t.getD s 0 ≠ 48 → cv t s k = 100
  | 0, h3, _, _ => by omega
  | 1, h3, _, _ => by omega
  | 2, h3, _, _ => by omega
  | k + 3, _, h, h0 => by
    have h2 := h (k + 2) (by omega)
    by_cases q : k = 0
    · subst q
      have e0 := h 0 (by omega)
      have e1 := h 1 (by omega)
      simp only [Nat.add_zero] at e0
      simp only [Nat.zero_add] at h2
      show cvs (cv t s 2) (t.getD (s + 2) 0 - 48) = _
      rw [cv_2 e0 e1, cvs_b (by omega)]
    · have := cv_big t s (k + 2) (by omega) (fun i hi => h i (by omega)) h0
      show cvs (cv t s (k + 2)) (t.getD (s + (k + 2)) 0 - 48) = _
      rw [this, cvs_b (by omega)]
/-- the class's token and value out of the figures -/
theorem cv_tok {t : List Int} {s k : Nat} (hk : 1 ≤ k) (h : ∀ i, i < k → 48 ≤ t.getD (s + i) 0 ∧ t.getD (s + i) 0 ≤ 57) : (((t.getD s 0 = 48 ∧ 1 < k) ∨ 99 < cv t s k) ∧ vS t s k = 1000) ∨ (¬ ((t.getD s 0 = 48 ∧ 1 < k) ∨ 99 < cv t s k) ∧ vS t s k = cv t s k) := by
  have e0 := h 0 (by omega)
  simp only [Nat.add_zero] at e0
  by_cases k1 : k = 1
  · subst k1
    have ec := cv_1 e0
    right
    rw [ec, vS, if_pos rfl]
    exact ⟨by omega, rfl⟩
  · by_cases k2 : k = 2
    · subst k2
      have e1 := h 1 (by omega)
      have ec := cv_2 e0 e1
      by_cases z : t.getD s 0 = 48
      · left
        refine ⟨Or.inl ⟨z, by omega⟩, ?_⟩
        rw [vS, if_neg (by omega), if_neg (by omega)]
      · right
        rw [ec, vS, if_neg (by omega), if_pos (by omega)]
        exact ⟨by omega, rfl⟩
    · left
      refine ⟨?_, by rw [vS, if_neg k1, if_neg (by omega)]⟩
      by_cases z : t.getD s 0 = 48
      · exact Or.inl ⟨z, by omega⟩
      · exact Or.inr (by rw [cv_big t s k (by omega) h z]; omega)
-- the class
abbrev scr (lt pl tk sta vl ab be : Int) : List AV := [aR 7, aI lt, aI pl, aI tk, aI sta, aI vl, aI ab, aI be, aR 8]
def isTx (h : AH) (t : List Int) : Prop := ∃ f, h 7 = aA 2 60 f ∧ ∀ i, i < t.length → f i = t.getD i 0
theorem isTx.fr {h h' : AH} {t : List Int} (H : isTx h t) (e : h' 7 = h 7) : isTx h' t := ⟨H.choose, e.trans H.choose_spec.1, H.choose_spec.2⟩
def isTy (h : AH) (t : List Int) : Prop := ∃ f, h 58 = aA 0 60 f ∧ ∀ i, i < t.length → f i = t.getD i 0
theorem isTy.fr {h h' : AH} {t : List Int} (H : isTy h t) (e : h' 58 = h 58) : isTy h' t := ⟨H.choose, e.trans H.choose_spec.1, H.choose_spec.2⟩
theorem okTx.app {t : List Int} {x : Int} (h : okTx t) (h6 : t.length < 60) (hx : 0 ≤ x ∧ x ≤ 255) : okTx (t ++ [x]) := by
  refine ⟨by simp; omega, fun i hi => ?_⟩
  rw [gd_app]
  simp at hi
  by_cases q : i < t.length
  · rw [if_pos q]
    exact h.2 i q
  · rw [if_neg q, if_pos (by omega)]
    exact hx
section Text
variable {d n : Nat} {h : AH} {t : List Int} {pl tk sta vl ab be : Int}
theorem c_Scr_length (h1 : h 6 = aO 3 (scr (t.length : Int) pl tk sta vl ab be)) : AC mX3_length d 0 0 n h [aR 6] (aqi n fun v h' => v = (t.length : Int) ∧ h' = h) := by
  refine AC.of (by decide) (Nat.le_of_ble_eq_true rfl) ?_
  refine aw_aload_n dX3_length_0 rfl ?_
  refine aw_get kg_X3_15 (by assumption) (by rfl) dX3_length_1 ?_
  -- at 4: .ireturn
  exact aw_iret rfl dX3_length_4 ⟨rfl, _, rfl, rfl, rfl⟩
theorem c_Scr_wipe (h1 : h 6 = aO 3 (scr (t.length : Int) pl tk sta vl ab be)) : AC mX3_wipe d 0 0 n h [aR 6] (aqv n fun h' => h' 6 = aO 3 (scr 0 pl tk sta vl ab be) ∧ ∀ j, j ≠ 6 → h' j = h j) := by
  refine AC.of (by decide) (Nat.le_of_ble_eq_true rfl) ?_
  refine aw_aload_n dX3_wipe_0 rfl ?_
  refine aw_iconst dX3_wipe_1 ?_
  -- at 2: .putfield 15
  refine aw_putO kp_X3_15 (by assumption) (by simp) (aw_ni _) dX3_wipe_2 (fun h' hr hf => ?_)
  exact aw_vret rfl dX3_wipe_5 ⟨rfl, rfl, hr, hf⟩
theorem c_Scr_append {x : Int} (hx : 0 ≤ x ∧ x ≤ 255) (h1 : h 6 = aO 3 (scr (t.length : Int) pl tk sta vl ab be)) (H : isTx h t) (ht : okTx t) : AC mX3_append d 0 0 n h [aR 6, aI x] (aqi n fun v h' => (t.length < 60 ∧ v = 1 ∧ h' 6 = aO 3 (scr ((t.length : Int) + 1) pl tk sta vl ab be) ∧ isTx h' (t ++ [x]) ∧ ∀ j, j ≠ 6 → j ≠ 7 → h' j = h j) ∨ (60 ≤ t.length ∧ v = 0 ∧ h' = h)) := by
  refine AC.of (by decide) (Nat.le_of_ble_eq_true rfl) ?_
  obtain ⟨f, h2, h3⟩ := H
  have ht6 := ht.1
  refine aw_aload_n dX3_append_0 rfl ?_
  refine aw_get kg_X3_15 (by assumption) (by rfl) dX3_append_1 ?_
  refine aw_bipush dX3_append_4 (by decide) ?_
  -- at 6: .if_icmp .lt 5
  refine aw_icmp_lt (tgt := 11) dX3_append_6 (by omega) (by omega) (by decide) (fun c1 => ?_) (fun c1 => ?_)
  · refine aw_aload_n dX3_append_11 rfl ?_
    refine aw_get kg_X3_9 (by assumption) (by rfl) dX3_append_12 ?_
    refine aw_aload_n dX3_append_15 rfl ?_
    refine aw_get kg_X3_15 (by assumption) (by rfl) dX3_append_16 ?_
    refine aw_iload_n dX3_append_19 rfl ?_
    refine aw_i2c dX3_append_20 (by omega) ?_
    -- at 21: .castore
    refine aw_castO (by assumption) (by omega) (by omega) dX3_append_21 (fun ha b1 f1 => ?_)
    have q6 := (f1 6 (by decide)).trans h1
    refine aw_aload_n dX3_append_22 rfl ?_
    refine aw_dup dX3_append_23 rfl ?_
    refine aw_get kg_X3_15 (by assumption) (by rfl) dX3_append_24 ?_
    refine aw_iconst dX3_append_27 ?_
    refine aw_iadd dX3_append_28 ?_
    -- at 29: .putfield 15
    refine aw_putO kp_X3_15 (by assumption) (by simp) (aw_ni _) dX3_append_29 (fun hb b2 f2 => ?_)
    refine aw_iconst dX3_append_32 ?_
    -- at 33: .ireturn
    refine aw_zret rfl dX3_append_33 (by omega) ⟨rfl, _, rfl, Or.inl ⟨by omega, rfl, b2, ⟨_, (f2 7 (by decide)).trans b1, fun i hi => ?_⟩, fun j j1 j2 => (f2 j j1).trans (f1 j j2)⟩⟩
    rw [gd_app]
    simp at hi
    rw [Int.toNat_natCast]
    by_cases q : i < t.length
    · rw [if_pos q, va_up_n _ _ _ (by omega)]
      exact h3 i q
    · have : i = t.length := by omega
      subst this
      rw [if_neg q, if_pos rfl, va_up_s]
  · refine aw_iconst dX3_append_9 ?_
    -- at 10: .ireturn
    exact aw_zret rfl dX3_append_10 (by omega) ⟨rfl, _, rfl, Or.inr ⟨by omega, rfl, rfl⟩⟩
theorem c_isFigure {x : Int} (hx : 0 ≤ x ∧ x ≤ 65535) : AC mX3_isFigure d 0 0 n h [aI x] (aqi n fun v h' => v = (if 48 ≤ x ∧ x ≤ 57 then 1 else 0) ∧ h' = h) := by
  refine AC.of (by decide) (Nat.le_of_ble_eq_true rfl) ?_
  refine aw_iload_n dX3_isFigure_0 rfl ?_
  refine aw_bipush dX3_isFigure_1 (by decide) ?_
  -- at 3: .if_icmp .lt 13
  refine aw_icmp_lt (tgt := 16) dX3_isFigure_3 (by omega) (by omega) (by decide) (fun c1 => ?_) (fun c1 => ?_)
  · refine aw_iconst dX3_isFigure_16 ?_
    -- at 17: .ireturn
    exact aw_zret rfl dX3_isFigure_17 (by omega) ⟨rfl, _, rfl, by rw [if_neg (by omega)], rfl⟩
  · refine aw_iload_n dX3_isFigure_6 rfl ?_
    refine aw_bipush dX3_isFigure_7 (by decide) ?_
    -- at 9: .if_icmp .gt 7
    refine aw_icmp_gt (tgt := 16) dX3_isFigure_9 (by omega) (by omega) (by decide) (fun c2 => ?_) (fun c2 => ?_)
    · refine aw_iconst dX3_isFigure_16 ?_
      -- at 17: .ireturn
      exact aw_zret rfl dX3_isFigure_17 (by omega) ⟨rfl, _, rfl, by rw [if_neg (by omega)], rfl⟩
    · refine aw_iconst dX3_isFigure_12 ?_
      refine aw_goto (tgt := 17) dX3_isFigure_13 (by decide) ?_
      -- at 17: .ireturn
      exact aw_zret rfl dX3_isFigure_17 (by omega) ⟨rfl, _, rfl, by rw [if_pos (by omega)], rfl⟩
def kndS (x : Int) : Int := if x = 112 then 1 else if x = 115 then 2 else if x = 59 then 3 else 5
theorem c_kindOf {x : Int} (hx : 0 ≤ x ∧ x ≤ 65535) : AC mX3_kindOf d 0 0 n h [aI x] (aqi n fun v h' => v = kndS x ∧ h' = h) := by
  refine AC.of (by decide) (Nat.le_of_ble_eq_true rfl) ?_
  refine aw_iload_n dX3_kindOf_0 rfl ?_
  -- at 1: .lookupswitch 41 #[(59, 39), (112, 35), (115, 37)]
  by_cases q1 : x = 112
  · subst q1
    refine aw_lookup (tgt := 36) (off := 35) dX3_kindOf_1 (by decide) (by decide) (by decide) (by decide) ?_
    refine aw_iconst dX3_kindOf_36 ?_
    -- at 37: .ireturn
    exact aw_iret rfl dX3_kindOf_37 ⟨rfl, _, rfl, rfl, rfl⟩
  · by_cases q2 : x = 115
    · subst q2
      refine aw_lookup (tgt := 38) (off := 37) dX3_kindOf_1 (by decide) (by decide) (by decide) (by decide) ?_
      refine aw_iconst dX3_kindOf_38 ?_
      -- at 39: .ireturn
      exact aw_iret rfl dX3_kindOf_39 ⟨rfl, _, rfl, rfl, rfl⟩
    · by_cases q3 : x = 59
      · subst q3
        refine aw_lookup (tgt := 40) (off := 39) dX3_kindOf_1 (by decide) (by decide) (by decide) (by decide) ?_
        refine aw_iconst dX3_kindOf_40 ?_
        -- at 41: .ireturn
        exact aw_iret rfl dX3_kindOf_41 ⟨rfl, _, rfl, rfl, rfl⟩
      · refine aw_lookup (tgt := 42) (off := 41) dX3_kindOf_1 (by omega) (by decide) (by simp [Op.lookupswitch.offset_cons, Ne.symm q1, Ne.symm q2, Ne.symm q3]; rfl) (by decide) ?_
        refine aw_iconst dX3_kindOf_42 ?_
        -- at 43: .ireturn
        exact aw_iret rfl dX3_kindOf_43 ⟨rfl, _, rfl, by rw [kndS, if_neg q1, if_neg q2, if_neg q3], rfl⟩
end Text
end
section
/-! reading a token: both sides -/
def knS (tk : Int) : Int := if tk = -1 then 0 else if 1000 ≤ tk then (if tk ≤ 1099 then 4 else 5) else kndS tk
section Tok
variable {d n : Nat} {h : AH} {t : List Int} {ab be : Int}
theorem rn_loop {R : Room} {Z : AZ} {s : Nat} {tk sta : Int} (hR : ∃ D, R = am_R (D + 1) 0 0) (H : isTx h t) (ht : okTx t) (L1 : Option AV) :
    ∀ (m e : Nat) (h1 : AH), m + e = t.length → s ≤ e → (∀ i, s ≤ i → i < e → 48 ≤ t.getD i 0 ∧ t.getD i 0 ≤ 57) → h1 6 = aO 3 (scr (t.length : Int) (e : Int) tk sta (cv t s (e - s)) ab be) → (∀ j, j ≠ 6 → h1 j = h j) →
      (∀ h2 : AH, h2 6 = aO 3 (scr (t.length : Int) (nen t m e : Int) tk sta (cv t s (nen t m e - s)) ab be) → (∀ j, j ≠ 6 → h2 j = h j) → AW mX3_readNumber R Z 0 0 n h2 73 [some (aR 6), L1] []) →
      AW mX3_readNumber R Z 0 0 n h1 5 [some (aR 6), L1] [] := by
  obtain ⟨D, rfl⟩ := hR
  obtain ⟨f, hf, hfi⟩ := H
  have ht6 := ht.1
  intro m
  induction m with
  | zero =>
    intro e h1 he hse hdg h6 hfr kk
    refine aw_aload_n dX3_readNumber_5 rfl ?_
    refine aw_get kg_X3_19 (by assumption) (by rfl) dX3_readNumber_6 ?_
    refine aw_aload_n dX3_readNumber_9 rfl ?_
    refine aw_get kg_X3_15 (by assumption) (by rfl) dX3_readNumber_10 ?_
    -- at 13: .if_icmp .ge 60
    refine aw_icmp_ge (tgt := 73) dX3_readNumber_13 (by omega) (by omega) (by decide) (fun c1 => ?_) (fun c1 => ?_)
    · exact kk h1 h6 hfr
    · omega
  | succ m ih =>
    intro e h1 he hse hdg h6 hfr kk
    have h7 := (hfr 7 (by decide)).trans hf
    have hv := ht.2 e (by omega)
    have hcv := cv_rng t s (e - s) (fun i hi => hdg (s + i) (by omega) (by omega))
    refine aw_aload_n dX3_readNumber_5 rfl ?_
    refine aw_get kg_X3_19 (by assumption) (by rfl) dX3_readNumber_6 ?_
    refine aw_aload_n dX3_readNumber_9 rfl ?_
    refine aw_get kg_X3_15 (by assumption) (by rfl) dX3_readNumber_10 ?_
    -- at 13: .if_icmp .ge 60
    refine aw_icmp_ge (tgt := 73) dX3_readNumber_13 (by omega) (by omega) (by decide) (fun c1 => ?_) (fun c1 => ?_)
    · omega
    · refine aw_aload_n dX3_readNumber_16 rfl ?_
      refine aw_get kg_X3_9 (by assumption) (by rfl) dX3_readNumber_17 ?_
      refine aw_aload_n dX3_readNumber_20 rfl ?_
      refine aw_get kg_X3_19 (by assumption) (by rfl) dX3_readNumber_21 ?_
      refine aw_cald (by assumption) (by omega) dX3_readNumber_24 ?_
      -- at 25: .invokestatic 84
      refine aw_val (w := aI (t.getD e 0)) (by rw [Int.toNat_natCast, hfi e (by omega)]) ?_
      refine aw_Si1 kc_X3_84 (c_isFigure (d := D) (by omega)) rfl (by omega) (Nat.le_of_ble_eq_true rfl) dX3_readNumber_25 (fun v h' q => ?_)
      obtain ⟨rfl, rfl⟩ := q
      refine aw_flag_eq (tgt := 73) dX3_readNumber_28 (by decide) (fun c2 => ?_) (fun c2 => ?_)
      · rw [nen, if_neg (fun z => c2 z.2)] at kk
        exact kk h' h6 hfr
      · rw [nen, if_pos ⟨by omega, c2⟩] at kk
        refine aw_aload_n dX3_readNumber_31 rfl ?_
        refine aw_bipush dX3_readNumber_32 (by decide) ?_
        refine aw_aload_n dX3_readNumber_34 rfl ?_
        refine aw_get kg_X3_28 (by assumption) (by rfl) dX3_readNumber_35 ?_
        refine aw_bipush dX3_readNumber_38 (by decide) ?_
        refine aw_imul dX3_readNumber_40 ?_
        refine aw_aload_n dX3_readNumber_41 rfl ?_
        refine aw_get kg_X3_9 (by assumption) (by rfl) dX3_readNumber_42 ?_
        refine aw_aload_n dX3_readNumber_45 rfl ?_
        refine aw_get kg_X3_19 (by assumption) (by rfl) dX3_readNumber_46 ?_
        refine aw_cald (by assumption) (by omega) dX3_readNumber_49 ?_
        refine aw_val (w := aI (t.getD e 0)) (by rw [Int.toNat_natCast, hfi e (by omega)]) ?_
        refine aw_bipush dX3_readNumber_50 (by decide) ?_
        refine aw_isub dX3_readNumber_52 ?_
        refine aw_iadd dX3_readNumber_53 ?_
        -- at 54: .invokestatic 95
        refine aw_mmin kc_X3_95 ks_Lib_Math_min_name ti_J9 kd_Lib_Math_min_name (by omega) (by omega) (Nat.le_of_ble_eq_true rfl) (by show 1 ≤ D + 1; omega) (by show 30 ≤ 64 * (D + 1); omega) (Nat.le_refl _) (Nat.le_refl _) dX3_readNumber_54 ?_
        refine aw_val (w := aI (cv t s (e + 1 - s))) (by rw [show e + 1 - s = (e - s) + 1 by omega, cv, show s + (e - s) = e by omega]; rfl) ?_
        refine aw_putO kp_X3_28 (by assumption) (by simp) (aw_ni _) dX3_readNumber_57 (fun ha b1 f1 => ?_)
        have b1 : ha 6 = aO 3 (scr (t.length : Int) (e : Int) tk sta (cv t s (e + 1 - s)) ab be) := b1
        refine aw_aload_n dX3_readNumber_60 rfl ?_
        refine aw_dup dX3_readNumber_61 rfl ?_
        refine aw_get kg_X3_19 (by assumption) (by rfl) dX3_readNumber_62 ?_
        refine aw_iconst dX3_readNumber_65 ?_
        refine aw_iadd dX3_readNumber_66 ?_
        -- at 67: .putfield 19
        refine aw_putO kp_X3_19 (by assumption) (by simp) (aw_ni _) dX3_readNumber_67 (fun hb b2 f2 => ?_)
        refine aw_goto (tgt := 5) dX3_readNumber_70 (by decide) ?_
        refine ih (e + 1) hb (by omega) (by omega) (fun i h1 h2 => ?_) ?_ (fun j hj => ((f2 j hj).trans (f1 j hj)).trans (hfr j hj)) kk
        · by_cases q : i = e
          · subst q; exact c2
          · exact hdg i h1 (by omega)
        · rw [b2]
          rfl
theorem c_readNumber {s : Nat} {tk vl : Int} (h1 : h 6 = aO 3 (scr (t.length : Int) (s : Int) tk (s : Int) vl ab be)) (H : isTx h t) (ht : okTx t) (hs : s < t.length) (hdg : 48 ≤ t.getD s 0 ∧ t.getD s 0 ≤ 57) :
    AC mX3_readNumber (d + 1) 0 0 n h [aR 6] (aqv n fun h' => (h' 6 = aO 3 (scr (t.length : Int) (neS t s : Int) (if vS t s (neS t s - s) = 1000 then 5 else 4) (s : Int) (cv t s (neS t s - s)) ab be) ∧ (vS t s (neS t s - s) ≠ 1000 → cv t s (neS t s - s) = vS t s (neS t s - s))) ∧ ∀ j, j ≠ 6 → h' j = h j) := by
  refine AC.of (by decide) (Nat.le_of_ble_eq_true rfl) ?_
  have H0 := H
  obtain ⟨f, hf, hfi⟩ := H
  have ht6 := ht.1
  have hv := ht.2 s hs
  refine aw_aload_n dX3_readNumber_0 rfl ?_
  refine aw_iconst dX3_readNumber_1 ?_
  -- at 2: .putfield 28
  refine aw_putO kp_X3_28 (by assumption) (by simp) (aw_ni _) dX3_readNumber_2 (fun ha b1 f1 => ?_)
  refine rn_loop (s := s) (h := h) ⟨d, rfl⟩ H0 ht none (t.length - s) s ha (by omega) (Nat.le_refl _) (fun i q1 q2 => by omega) (by rw [b1, Nat.sub_self]; rfl) f1 (fun h2 b2 f2 => ?_)
  have ene : nen t (t.length - s) s = neS t s := rfl
  rw [ene] at b2
  have hlt := neS_lt hs hdg
  have hle := neS_le (Nat.le_of_lt hs)
  have hall : ∀ i, i < neS t s - s → 48 ≤ t.getD (s + i) 0 ∧ t.getD (s + i) 0 ≤ 57 := fun i hi => nen_dg t (t.length - s) s (s + i) (by omega) (by rw [ene]; omega)
  have hcv := cv_rng t s (neS t s - s) hall
  have htok := cv_tok (t := t) (s := s) (k := neS t s - s) (by omega) hall
  have h7 := (f2 7 (by decide)).trans hf
  have fin : ∀ (z : Int), (z = 0 ∨ z = 1) → (z = 1 ↔ (t.getD s 0 = 48 ∧ 1 < neS t s - s)) → AW mX3_readNumber (am_R (d + 1) 0 0) (am_Z (aqv n fun h' => (h' 6 = aO 3 (scr (t.length : Int) (neS t s : Int) (if vS t s (neS t s - s) = 1000 then 5 else 4) (s : Int) (cv t s (neS t s - s)) ab be) ∧ (vS t s (neS t s - s) ≠ 1000 → cv t s (neS t s - s) = vS t s (neS t s - s))) ∧ ∀ j, j ≠ 6 → h' j = h j) 0 0) 0 0 n h2 106 [some (aR 6), some (aI z)] [] := by
    intro z hz hz1
    have K5 : vS t s (neS t s - s) = 1000 → AW mX3_readNumber (am_R (d + 1) 0 0) (am_Z (aqv n fun h' => (h' 6 = aO 3 (scr (t.length : Int) (neS t s : Int) (if vS t s (neS t s - s) = 1000 then 5 else 4) (s : Int) (cv t s (neS t s - s)) ab be) ∧ (vS t s (neS t s - s) ≠ 1000 → cv t s (neS t s - s) = vS t s (neS t s - s))) ∧ ∀ j, j ≠ 6 → h' j = h j) 0 0) 0 0 n h2 120 [some (aR 6), some (aI z)] [aR 6] := by
      intro hq
      refine aw_iconst dX3_readNumber_120 ?_
      refine aw_goto (tgt := 125) dX3_readNumber_121 (by decide) ?_
      -- at 125: .putfield 22
      refine aw_putO kp_X3_22 (by assumption) (by simp) (aw_ni _) dX3_readNumber_125 (fun h3 b3 f3 => ?_)
      exact aw_vret rfl dX3_readNumber_128 ⟨rfl, rfl, ⟨by rw [b3, if_pos hq]; rfl, fun z => absurd hq z⟩, fun j hj => (f3 j hj).trans (f2 j hj)⟩
    refine aw_aload_n dX3_readNumber_106 rfl ?_
    refine aw_iload_n dX3_readNumber_107 rfl ?_
    -- at 108: .ifCond .ne 12
    refine aw_if_ne (tgt := 120) dX3_readNumber_108 (by omega) (by decide) (fun c1 => ?_) (fun c1 => ?_)
    · refine K5 ?_
      rcases htok with q | q
      · exact q.2
      · exact absurd (Or.inl (hz1.mp (by omega))) q.1
    · refine aw_aload_n dX3_readNumber_111 rfl ?_
      refine aw_get kg_X3_28 (by assumption) (by rfl) dX3_readNumber_112 ?_
      refine aw_bipush dX3_readNumber_115 (by decide) ?_
      -- at 117: .if_icmp .le 7
      refine aw_icmp_le (tgt := 124) dX3_readNumber_117 (by omega) (by omega) (by decide) (fun c2 => ?_) (fun c2 => ?_)
      · refine aw_iconst dX3_readNumber_124 ?_
        -- at 125: .putfield 22
        refine aw_putO kp_X3_22 (by assumption) (by simp) (aw_ni _) dX3_readNumber_125 (fun h3 b3 f3 => ?_)
        have hq : vS t s (neS t s - s) ≠ 1000 ∧ vS t s (neS t s - s) = cv t s (neS t s - s) := by
          rcases htok with q | q
          · exfalso
            rcases q.1 with w | w
            · have := hz1.mpr w; omega
            · omega
          · exact ⟨by omega, q.2⟩
        exact aw_vret rfl dX3_readNumber_128 ⟨rfl, rfl, ⟨by rw [b3, if_neg hq.1]; rfl, fun _ => hq.2.symm⟩, fun j hj => (f3 j hj).trans (f2 j hj)⟩
      · refine K5 ?_
        rcases htok with q | q
        · exact q.2
        · exact absurd (Or.inr (by omega)) q.1
  refine aw_aload_n dX3_readNumber_73 rfl ?_
  refine aw_get kg_X3_9 (by assumption) (by rfl) dX3_readNumber_74 ?_
  refine aw_aload_n dX3_readNumber_77 rfl ?_
  refine aw_get kg_X3_25 (by assumption) (by rfl) dX3_readNumber_78 ?_
  refine aw_cald (by assumption) (by omega) dX3_readNumber_81 ?_
  refine aw_val (w := aI (t.getD s 0)) (by rw [Int.toNat_natCast, hfi s hs]) ?_
  refine aw_bipush dX3_readNumber_82 (by decide) ?_
  -- at 84: .if_icmp .ne 20
  refine aw_icmp_ne (tgt := 104) dX3_readNumber_84 (by omega) (by omega) (by decide) (fun c1 => ?_) (fun c1 => ?_)
  · refine aw_iconst dX3_readNumber_104 ?_
    refine aw_istore_n dX3_readNumber_105 (by decide) ?_
    exact fin 0 (by omega) (by omega)
  · refine aw_aload_n dX3_readNumber_87 rfl ?_
    refine aw_get kg_X3_19 (by assumption) (by rfl) dX3_readNumber_88 ?_
    refine aw_aload_n dX3_readNumber_91 rfl ?_
    refine aw_get kg_X3_25 (by assumption) (by rfl) dX3_readNumber_92 ?_
    refine aw_isub dX3_readNumber_95 ?_
    refine aw_iconst dX3_readNumber_96 ?_
    -- at 97: .if_icmp .le 7
    refine aw_icmp_le (tgt := 104) dX3_readNumber_97 (by omega) (by omega) (by decide) (fun c2 => ?_) (fun c2 => ?_)
    · refine aw_iconst dX3_readNumber_104 ?_
      refine aw_istore_n dX3_readNumber_105 (by decide) ?_
      exact fin 0 (by omega) (by omega)
    · refine aw_iconst dX3_readNumber_100 ?_
      refine aw_goto (tgt := 105) dX3_readNumber_101 (by decide) ?_
      refine aw_istore_n dX3_readNumber_105 (by decide) ?_
      exact fin 1 (by omega) (by omega)
theorem rt_loop {R : Room} {Z : AZ} {tk sta vl : Int} (H : isTx h t) (ht : okTx t) (L1 : Option AV) :
    ∀ (m e : Nat) (h1 : AH), m + e = t.length → h1 6 = aO 3 (scr (t.length : Int) (e : Int) tk sta vl ab be) → (∀ j, j ≠ 6 → h1 j = h j) →
      (∀ h2 : AH, h2 6 = aO 3 (scr (t.length : Int) (skp t m e : Int) tk sta vl ab be) → (∀ j, j ≠ 6 → h2 j = h j) → AW mX3_readToken R Z 0 0 n h2 38 [some (aR 6), L1] []) →
      AW mX3_readToken R Z 0 0 n h1 0 [some (aR 6), L1] [] := by
  obtain ⟨f, hf, hfi⟩ := H
  have ht6 := ht.1
  intro m
  induction m with
  | zero =>
    intro e h1 he h6 hfr kk
    refine aw_aload_n dX3_readToken_0 rfl ?_
    refine aw_get kg_X3_19 (by assumption) (by rfl) dX3_readToken_1 ?_
    refine aw_aload_n dX3_readToken_4 rfl ?_
    refine aw_get kg_X3_15 (by assumption) (by rfl) dX3_readToken_5 ?_
    -- at 8: .if_icmp .ge 30
    refine aw_icmp_ge (tgt := 38) dX3_readToken_8 (by omega) (by omega) (by decide) (fun c1 => ?_) (fun c1 => ?_)
    · exact kk h1 h6 hfr
    · omega
  | succ m ih =>
    intro e h1 he h6 hfr kk
    have h7 := (hfr 7 (by decide)).trans hf
    have hv := ht.2 e (by omega)
    refine aw_aload_n dX3_readToken_0 rfl ?_
    refine aw_get kg_X3_19 (by assumption) (by rfl) dX3_readToken_1 ?_
    refine aw_aload_n dX3_readToken_4 rfl ?_
    refine aw_get kg_X3_15 (by assumption) (by rfl) dX3_readToken_5 ?_
    -- at 8: .if_icmp .ge 30
    refine aw_icmp_ge (tgt := 38) dX3_readToken_8 (by omega) (by omega) (by decide) (fun c1 => ?_) (fun c1 => ?_)
    · omega
    · refine aw_aload_n dX3_readToken_11 rfl ?_
      refine aw_get kg_X3_9 (by assumption) (by rfl) dX3_readToken_12 ?_
      refine aw_aload_n dX3_readToken_15 rfl ?_
      refine aw_get kg_X3_19 (by assumption) (by rfl) dX3_readToken_16 ?_
      refine aw_cald (by assumption) (by omega) dX3_readToken_19 ?_
      refine aw_val (w := aI (t.getD e 0)) (by rw [Int.toNat_natCast, hfi e (by omega)]) ?_
      refine aw_bipush dX3_readToken_20 (by decide) ?_
      -- at 22: .if_icmp .ne 16
      refine aw_icmp_ne (tgt := 38) dX3_readToken_22 (by omega) (by omega) (by decide) (fun c2 => ?_) (fun c2 => ?_)
      · rw [skp, if_neg (fun z => c2 z.2)] at kk
        exact kk h1 h6 hfr
      · rw [skp, if_pos ⟨by omega, by omega⟩] at kk
        refine aw_aload_n dX3_readToken_25 rfl ?_
        refine aw_dup dX3_readToken_26 rfl ?_
        refine aw_get kg_X3_19 (by assumption) (by rfl) dX3_readToken_27 ?_
        refine aw_iconst dX3_readToken_30 ?_
        refine aw_iadd dX3_readToken_31 ?_
        -- at 32: .putfield 19
        refine aw_putO kp_X3_19 (by assumption) (by simp) (aw_ni _) dX3_readToken_32 (fun hb b2 f2 => ?_)
        refine aw_goto (tgt := 0) dX3_readToken_35 (by decide) ?_
        exact ih (e + 1) hb (by omega) (by rw [b2]; rfl) (fun j hj => (f2 j hj).trans (hfr j hj)) kk
theorem c_readToken {p : Nat} {tk sta vl : Int} (h1 : h 6 = aO 3 (scr (t.length : Int) (p : Int) tk sta vl ab be)) (H : isTx h t) (ht : okTx t) (hp : p ≤ t.length) (hvl : -2147483648 ≤ vl ∧ vl ≤ 2147483647) :
    AC mX3_readToken (d + 3) 0 0 n h [aR 6] (aqv n fun h' => (∃ vl', h' 6 = aO 3 (scr (t.length : Int) (nxS t p : Int) (knS (tkS t p)) (stS t p : Int) vl' ab be) ∧ (1000 ≤ tkS t p → tkS t p ≤ 1099 → vl' = tkS t p - 1000) ∧ (-2147483648 ≤ vl' ∧ vl' ≤ 2147483647)) ∧ ∀ j, j ≠ 6 → h' j = h j) := by
  refine AC.of (by decide) (Nat.le_of_ble_eq_true rfl) ?_
  have H0 := H
  obtain ⟨f, hf, hfi⟩ := H
  have ht6 := ht.1
  have hst := stS_le hp
  refine rt_loop (h := h) H0 ht none (t.length - p) p h (by omega) h1 (fun _ _ => rfl) (fun h2 b2 f2 => ?_)
  have est : skp t (t.length - p) p = stS t p := rfl
  rw [est] at b2
  refine aw_aload_n dX3_readToken_38 rfl ?_
  refine aw_aload_n dX3_readToken_39 rfl ?_
  refine aw_get kg_X3_19 (by assumption) (by rfl) dX3_readToken_40 ?_
  -- at 43: .putfield 25
  refine aw_putO kp_X3_25 (by assumption) (by simp) (aw_ni _) dX3_readToken_43 (fun h3 b3 f3 => ?_)
  have b3 : h3 6 = aO 3 (scr (t.length : Int) (stS t p : Int) tk (stS t p : Int) vl ab be) := b3
  have h7 : h3 7 = aA 2 60 f := ((f3 7 (by decide)).trans (f2 7 (by decide))).trans hf
  have f3' : ∀ j, j ≠ 6 → h3 j = h j := fun j hj => (f3 j hj).trans (f2 j hj)
  refine aw_aload_n dX3_readToken_46 rfl ?_
  refine aw_get kg_X3_19 (by assumption) (by rfl) dX3_readToken_47 ?_
  refine aw_aload_n dX3_readToken_50 rfl ?_
  refine aw_get kg_X3_15 (by assumption) (by rfl) dX3_readToken_51 ?_
  -- at 54: .if_icmp .lt 9
  refine aw_icmp_lt (tgt := 63) dX3_readToken_54 (by omega) (by omega) (by decide) (fun c1 => ?_) (fun c1 => ?_)
  · have hv := ht.2 (stS t p) (by omega)
    refine aw_aload_n dX3_readToken_63 rfl ?_
    refine aw_get kg_X3_9 (by assumption) (by rfl) dX3_readToken_64 ?_
    refine aw_aload_n dX3_readToken_67 rfl ?_
    refine aw_get kg_X3_19 (by assumption) (by rfl) dX3_readToken_68 ?_
    refine aw_cald (by assumption) (by omega) dX3_readToken_71 ?_
    refine aw_val (w := aI (t.getD (stS t p) 0)) (by rw [Int.toNat_natCast, hfi _ (by omega)]) ?_
    refine aw_istore_n dX3_readToken_72 (by decide) ?_
    refine aw_iload_n dX3_readToken_73 rfl ?_
    -- at 74: .invokestatic 84
    refine aw_Si1 kc_X3_84 (c_isFigure (d := d) (by omega)) rfl (by omega) (Nat.le_of_ble_eq_true rfl) dX3_readToken_74 (fun v h' q => ?_)
    obtain ⟨rfl, rfl⟩ := q
    refine aw_flag_eq (tgt := 85) dX3_readToken_77 (by decide) (fun c2 => ?_) (fun c2 => ?_)
    · have etk : tkS t p = t.getD (stS t p) 0 := by rw [tkS, if_neg (by omega), if_neg c2]
      have enx : nxS t p = stS t p + 1 := by rw [nxS, if_neg (by omega), if_neg c2]
      refine aw_aload_n dX3_readToken_85 rfl ?_
      refine aw_dup dX3_readToken_86 rfl ?_
      refine aw_get kg_X3_19 (by assumption) (by rfl) dX3_readToken_87 ?_
      refine aw_iconst dX3_readToken_90 ?_
      refine aw_iadd dX3_readToken_91 ?_
      -- at 92: .putfield 19
      refine aw_putO kp_X3_19 (by assumption) (by simp) (aw_ni _) dX3_readToken_92 (fun h4 b4 f4 => ?_)
      have b4 : h4 6 = aO 3 (scr (t.length : Int) ((stS t p : Int) + 1) tk (stS t p : Int) vl ab be) := b4
      refine aw_aload_n dX3_readToken_95 rfl ?_
      refine aw_iload_n dX3_readToken_96 rfl ?_
      -- at 97: .invokestatic 91
      refine aw_Si1 kc_X3_91 (c_kindOf (d := d) (x := t.getD (stS t p) 0) (by omega)) rfl (by omega) (Nat.le_of_ble_eq_true rfl) dX3_readToken_97 (fun v h'' q => ?_)
      obtain ⟨rfl, rfl⟩ := q
      refine aw_putO kp_X3_22 (by assumption) (by simp) (aw_ni _) dX3_readToken_100 (fun h5 b5 f5 => ?_)
      refine aw_vret rfl dX3_readToken_103 ⟨rfl, rfl, ⟨vl, ?_, (fun z _ => by omega), hvl⟩, fun j hj => ((f5 j hj).trans (f4 j hj)).trans (f3' j hj)⟩
      rw [b5, etk, enx, knS, if_neg (by omega), if_neg (by omega)]
      rfl
    · have etk : tkS t p = 1000 + vS t (stS t p) (neS t (stS t p) - stS t p) := by rw [tkS, if_neg (by omega), if_pos c2]
      have enx : nxS t p = neS t (stS t p) := by rw [nxS, if_neg (by omega), if_pos c2]
      have hvs := vS_rng ht hp (by omega) c2
      refine aw_aload_n dX3_readToken_80 rfl ?_
      -- at 81: .invokevirtual 88
      refine aw_Vv0 kc_X3_88 (c_readNumber (d := d) b3 ⟨f, h7, hfi⟩ ht (by omega) c2) (by assumption) rfl rfl (by omega) (Nat.le_of_ble_eq_true rfl) dX3_readToken_81 (fun h4 q => ?_)
      obtain ⟨⟨b4, b4'⟩, f4⟩ := q
      refine aw_vret rfl dX3_readToken_84 ⟨rfl, rfl, ⟨cv t (stS t p) (neS t (stS t p) - stS t p), ?_, fun z1 z2 => ?_, ?_⟩, fun j hj => (f4 j hj).trans (f3' j hj)⟩
      · have ek : knS (tkS t p) = if vS t (stS t p) (neS t (stS t p) - stS t p) = 1000 then 5 else 4 := by
          have g1 : ¬ (1000 + vS t (stS t p) (neS t (stS t p) - stS t p) = -1) := by omega
          have g2 : 1000 ≤ 1000 + vS t (stS t p) (neS t (stS t p) - stS t p) := by omega
          rw [etk, knS, if_neg g1, if_pos g2]
          by_cases z : vS t (stS t p) (neS t (stS t p) - stS t p) = 1000
          · rw [if_pos z, if_neg (by omega)]
          · rw [if_neg z, if_pos (by omega)]
        rw [b4, enx, ek]
      · rw [b4' (by omega), etk]
        omega
      · have := cv_rng t (stS t p) (neS t (stS t p) - stS t p) (fun i hi => nen_dg t (t.length - stS t p) (stS t p) (stS t p + i) (by omega) (by show _ < neS t (stS t p); omega))
        omega
  · have etk : tkS t p = -1 := by rw [tkS, if_pos (by omega)]
    have enx : nxS t p = stS t p := by rw [nxS, if_pos (by omega)]
    refine aw_aload_n dX3_readToken_57 rfl ?_
    refine aw_iconst dX3_readToken_58 ?_
    -- at 59: .putfield 22
    refine aw_putO kp_X3_22 (by assumption) (by simp) (aw_ni _) dX3_readToken_59 (fun h4 b4 f4 => ?_)
    refine aw_vret rfl dX3_readToken_62 ⟨rfl, rfl, ⟨vl, ?_, (fun z _ => by omega), hvl⟩, fun j hj => (f4 j hj).trans (f3' j hj)⟩
    rw [b4, etk, enx, knS, if_pos rfl]
    rfl
-- the reference
theorem c6_isDigit {x : Int} (hx : -2147483648 ≤ x ∧ x ≤ 2147483647) : AC mX6_isDigit (d + 1) 0 0 n h [aI x] (aqi n fun v h' => v = (if 48 ≤ x ∧ x ≤ 57 then 1 else 0) ∧ h' = h) := by
  refine AC.of (by decide) (Nat.le_of_ble_eq_true rfl) ?_
  refine aw_iload_n dX6_isDigit_0 rfl ?_
  refine aw_i2l dX6_isDigit_1 (by omega) ?_
  refine aw_ldc2 kl_X6_62 dX6_isDigit_2 ?_
  refine aw_ldc2 kl_X6_64 dX6_isDigit_5 ?_
  -- at 8: .invokestatic 66
  refine aw_Si3 kc_X6_66 (c_in (d := d) hx (by decide) (by decide)) rfl (by omega) (Nat.le_of_ble_eq_true rfl) dX6_isDigit_8 (fun v h' q => ?_)
  obtain ⟨rfl, rfl⟩ := q
  exact aw_zret rfl dX6_isDigit_11 (by split <;> simp) ⟨rfl, _, rfl, rfl, rfl⟩
theorem tk_loop {R : Room} {Z : AZ} {u p q sn bg tk it nu nl nm tp : Int} (H : isTy h t) (ht : okTx t) (L1 : Option AV) :
    ∀ (m e : Nat) (h1 : AH), m + e = t.length → h1 52 = aO 6 (mdl u p q sn (t.length : Int) (e : Int) bg tk it nu nl nm tp) → (∀ j, j ≠ 52 → h1 j = h j) →
      (∀ h2 : AH, h2 52 = aO 6 (mdl u p q sn (t.length : Int) (skp t m e : Int) bg tk it nu nl nm tp) → (∀ j, j ≠ 52 → h2 j = h j) → AW mX6_take R Z 0 0 n h2 38 [some (aR 52), L1] []) →
      AW mX6_take R Z 0 0 n h1 0 [some (aR 52), L1] [] := by
  obtain ⟨f, hf, hfi⟩ := H
  have ht6 := ht.1
  intro m
  induction m with
  | zero =>
    intro e h1 he h6 hfr kk
    refine aw_aload_n dX6_take_0 rfl ?_
    refine aw_get kg_X6_70 (by assumption) (by rfl) dX6_take_1 ?_
    refine aw_aload_n dX6_take_4 rfl ?_
    refine aw_get kg_X6_73 (by assumption) (by rfl) dX6_take_5 ?_
    -- at 8: .if_icmp .ge 30
    refine aw_icmp_ge (tgt := 38) dX6_take_8 (by omega) (by omega) (by decide) (fun c1 => ?_) (fun c1 => ?_)
    · exact kk h1 h6 hfr
    · omega
  | succ m ih =>
    intro e h1 he h6 hfr kk
    have h7 := (hfr 58 (by decide)).trans hf
    have hv := ht.2 e (by omega)
    refine aw_aload_n dX6_take_0 rfl ?_
    refine aw_get kg_X6_70 (by assumption) (by rfl) dX6_take_1 ?_
    refine aw_aload_n dX6_take_4 rfl ?_
    refine aw_get kg_X6_73 (by assumption) (by rfl) dX6_take_5 ?_
    -- at 8: .if_icmp .ge 30
    refine aw_icmp_ge (tgt := 38) dX6_take_8 (by omega) (by omega) (by decide) (fun c1 => ?_) (fun c1 => ?_)
    · omega
    · refine aw_aload_n dX6_take_11 rfl ?_
      refine aw_get kg_X6_33 (by assumption) (by rfl) dX6_take_12 ?_
      refine aw_aload_n dX6_take_15 rfl ?_
      refine aw_get kg_X6_70 (by assumption) (by rfl) dX6_take_16 ?_
      refine aw_iald (by assumption) (by omega) dX6_take_19 ?_
      refine aw_val (w := aI (t.getD e 0)) (by rw [Int.toNat_natCast, hfi e (by omega)]) ?_
      refine aw_bipush dX6_take_20 (by decide) ?_
      -- at 22: .if_icmp .ne 16
      refine aw_icmp_ne (tgt := 38) dX6_take_22 (by omega) (by omega) (by decide) (fun c2 => ?_) (fun c2 => ?_)
      · rw [skp, if_neg (fun z => c2 z.2)] at kk
        exact kk h1 h6 hfr
      · rw [skp, if_pos ⟨by omega, by omega⟩] at kk
        refine aw_aload_n dX6_take_25 rfl ?_
        refine aw_dup dX6_take_26 rfl ?_
        refine aw_get kg_X6_70 (by assumption) (by rfl) dX6_take_27 ?_
        refine aw_iconst dX6_take_30 ?_
        refine aw_iadd dX6_take_31 ?_
        -- at 32: .putfield 70
        refine aw_putO kp_X6_70 (by assumption) (by simp) (aw_ni _) dX6_take_32 (fun hb b2 f2 => ?_)
        refine aw_goto (tgt := 0) dX6_take_35 (by decide) ?_
        exact ih (e + 1) hb (by omega) (by rw [b2]; rfl) (fun j hj => (f2 j hj).trans (hfr j hj)) kk
theorem tkn_loop {Z : AZ} {D s : Nat} {u p q sn tk it nu nl nm tp : Int} (H : isTy h t) (ht : okTx t) :
    ∀ (m e : Nat) (h1 : AH), m + e = t.length → s < e → (∀ i, s ≤ i → i < e → 48 ≤ t.getD i 0 ∧ t.getD i 0 ≤ 57) → h1 52 = aO 6 (mdl u p q sn (t.length : Int) (e : Int) (s : Int) tk it nu nl nm tp) → (∀ j, j ≠ 52 → h1 j = h j) →
      (∀ h2 : AH, h2 52 = aO 6 (mdl u p q sn (t.length : Int) (nen t m e : Int) (s : Int) tk it nu nl nm tp) → (∀ j, j ≠ 52 → h2 j = h j) → AW mX6_take (am_R (D + 3) 0 0) Z 0 0 n h2 197 [some (aR 52), some (aI (vS t s (nen t m e - s)))] []) →
      AW mX6_take (am_R (D + 3) 0 0) Z 0 0 n h1 117 [some (aR 52), some (aI (vS t s (e - s)))] [] := by
  obtain ⟨f, hf, hfi⟩ := H
  have ht6 := ht.1
  intro m
  induction m with
  | zero =>
    intro e h1 he hse hdg h6 hfr kk
    refine aw_aload_n dX6_take_117 rfl ?_
    refine aw_get kg_X6_70 (by assumption) (by rfl) dX6_take_118 ?_
    refine aw_aload_n dX6_take_121 rfl ?_
    refine aw_get kg_X6_73 (by assumption) (by rfl) dX6_take_122 ?_
    -- at 125: .if_icmp .ge 72
    refine aw_icmp_ge (tgt := 197) dX6_take_125 (by omega) (by omega) (by decide) (fun c1 => ?_) (fun c1 => ?_)
    · exact kk h1 h6 hfr
    · omega
  | succ m ih =>
    intro e h1 he hse hdg h6 hfr kk
    have h7 := (hfr 58 (by decide)).trans hf
    have hv := ht.2 e (by omega)
    have hd0 := hdg s (by omega) hse
    have hvs : -2147483648 ≤ vS t s (e - s) ∧ vS t s (e - s) ≤ 2147483647 := by
      unfold vS
      split
      · omega
      · split
        · have := hdg (s + 1) (by omega) (by omega)
          omega
        · omega
    refine aw_aload_n dX6_take_117 rfl ?_
    refine aw_get kg_X6_70 (by assumption) (by rfl) dX6_take_118 ?_
    refine aw_aload_n dX6_take_121 rfl ?_
    refine aw_get kg_X6_73 (by assumption) (by rfl) dX6_take_122 ?_
    -- at 125: .if_icmp .ge 72
    refine aw_icmp_ge (tgt := 197) dX6_take_125 (by omega) (by omega) (by decide) (fun c1 => ?_) (fun c1 => ?_)
    · omega
    · refine aw_aload_n dX6_take_128 rfl ?_
      refine aw_get kg_X6_33 (by assumption) (by rfl) dX6_take_129 ?_
      refine aw_aload_n dX6_take_132 rfl ?_
      refine aw_get kg_X6_70 (by assumption) (by rfl) dX6_take_133 ?_
      refine aw_iald (by assumption) (by omega) dX6_take_136 ?_
      -- at 137: .invokestatic 82
      refine aw_val (w := aI (t.getD e 0)) (by rw [Int.toNat_natCast, hfi e (by omega)]) ?_
      refine aw_Si1 kc_X6_82 (c6_isDigit (d := D) (by omega)) rfl (by omega) (Nat.le_of_ble_eq_true rfl) dX6_take_137 (fun v h' q => ?_)
      obtain ⟨rfl, rfl⟩ := q
      refine aw_flag_eq (tgt := 197) dX6_take_140 (by decide) (fun c2 => ?_) (fun c2 => ?_)
      · rw [nen, if_neg (fun z => c2 z.2)] at kk
        exact kk h' h6 hfr
      · rw [nen, if_pos ⟨by omega, c2⟩] at kk
        have fin : AW mX6_take (am_R (D + 3) 0 0) Z 0 0 n h' 184 [some (aR 52), some (aI (vS t s (e + 1 - s)))] [] := by
          refine aw_aload_n dX6_take_184 rfl ?_
          refine aw_dup dX6_take_185 rfl ?_
          refine aw_get kg_X6_70 (by assumption) (by rfl) dX6_take_186 ?_
          refine aw_iconst dX6_take_189 ?_
          refine aw_iadd dX6_take_190 ?_
          -- at 191: .putfield 70
          refine aw_putO kp_X6_70 (by assumption) (by simp) (aw_ni _) dX6_take_191 (fun hb b2 f2 => ?_)
          refine aw_goto (tgt := 117) dX6_take_194 (by decide) ?_
          refine ih (e + 1) hb (by omega) (by omega) (fun i h1 h2 => ?_) (by rw [b2]; rfl) (fun j hj => (f2 j hj).trans (hfr j hj)) kk
          by_cases z : i = e
          · subst z; exact c2
          · exact hdg i h1 (by omega)
        refine aw_aload_n dX6_take_143 rfl ?_
        refine aw_get kg_X6_70 (by assumption) (by rfl) dX6_take_144 ?_
        refine aw_aload_n dX6_take_147 rfl ?_
        refine aw_get kg_X6_76 (by assumption) (by rfl) dX6_take_148 ?_
        refine aw_iconst dX6_take_151 ?_
        refine aw_iadd dX6_take_152 ?_
        -- at 153: .if_icmp .ne 27
        refine aw_icmp_ne (tgt := 180) dX6_take_153 (by omega) (by omega) (by decide) (fun c3 => ?_) (fun c3 => ?_)
        · refine aw_sipush dX6_take_180 (by decide) ?_
          refine aw_val (w := aI (vS t s (e + 1 - s))) (by rw [vS, if_neg (by omega), if_neg (by omega)]) ?_
          refine aw_istore_n dX6_take_183 (by decide) ?_
          exact fin
        · have e1 : e = s + 1 := by omega
          have ev : vS t s (e - s) = t.getD s 0 - 48 := by rw [vS, if_pos (by omega)]
          refine aw_iload_n dX6_take_156 rfl ?_
          -- at 157: .ifCond .le 23
          refine aw_if_le (tgt := 180) dX6_take_157 (by omega) (by decide) (fun c4 => ?_) (fun c4 => ?_)
          · refine aw_sipush dX6_take_180 (by decide) ?_
            refine aw_val (w := aI (vS t s (e + 1 - s))) (by rw [vS, if_neg (by omega), if_neg (by omega)]) ?_
            refine aw_istore_n dX6_take_183 (by decide) ?_
            exact fin
          · refine aw_bipush dX6_take_160 (by decide) ?_
            refine aw_iload_n dX6_take_162 rfl ?_
            refine aw_imul dX6_take_163 ?_
            refine aw_aload_n dX6_take_164 rfl ?_
            refine aw_get kg_X6_33 (by assumption) (by rfl) dX6_take_165 ?_
            refine aw_aload_n dX6_take_168 rfl ?_
            refine aw_get kg_X6_70 (by assumption) (by rfl) dX6_take_169 ?_
            refine aw_iald (by assumption) (by omega) dX6_take_172 ?_
            refine aw_val (w := aI (t.getD e 0)) (by rw [Int.toNat_natCast, hfi e (by omega)]) ?_
            refine aw_iadd dX6_take_173 ?_
            refine aw_bipush dX6_take_174 (by decide) ?_
            refine aw_isub dX6_take_176 ?_
            refine aw_val (w := aI (vS t s (e + 1 - s))) (by rw [ev, vS, if_neg (by omega), if_pos (by omega), ← e1]; congr 1; omega) ?_
            refine aw_goto (tgt := 183) dX6_take_177 (by decide) ?_
            refine aw_istore_n dX6_take_183 (by decide) ?_
            exact fin
theorem c6_take {ps : Nat} {u p q sn bg tk it nu nl nm tp : Int} (h1 : h 52 = aO 6 (mdl u p q sn (t.length : Int) (ps : Int) bg tk it nu nl nm tp)) (H : isTy h t) (ht : okTx t) (hp : ps ≤ t.length) :
    AC mX6_take (d + 3) 0 0 n h [aR 52] (aqv n fun h' => h' 52 = aO 6 (mdl u p q sn (t.length : Int) (nxS t ps : Int) (stS t ps : Int) (tkS t ps) it nu nl nm tp) ∧ ∀ j, j ≠ 52 → h' j = h j) := by
  refine AC.of (by decide) (Nat.le_of_ble_eq_true rfl) ?_
  have H0 := H
  obtain ⟨f, hf, hfi⟩ := H
  have ht6 := ht.1
  have hst := stS_le hp
  refine tk_loop (h := h) H0 ht none (t.length - ps) ps h (by omega) h1 (fun _ _ => rfl) (fun h2 b2 f2 => ?_)
  have est : skp t (t.length - ps) ps = stS t ps := rfl
  rw [est] at b2
  refine aw_aload_n dX6_take_38 rfl ?_
  refine aw_aload_n dX6_take_39 rfl ?_
  refine aw_get kg_X6_70 (by assumption) (by rfl) dX6_take_40 ?_
  -- at 43: .putfield 76
  refine aw_putO kp_X6_76 (by assumption) (by simp) (aw_ni _) dX6_take_43 (fun h3 b3 f3 => ?_)
  have b3 : h3 52 = aO 6 (mdl u p q sn (t.length : Int) (stS t ps : Int) (stS t ps : Int) tk it nu nl nm tp) := b3
  have h7 : h3 58 = aA 0 60 f := ((f3 58 (by decide)).trans (f2 58 (by decide))).trans hf
  have f3' : ∀ j, j ≠ 52 → h3 j = h j := fun j hj => (f3 j hj).trans (f2 j hj)
  refine aw_aload_n dX6_take_46 rfl ?_
  refine aw_aload_n dX6_take_47 rfl ?_
  refine aw_get kg_X6_70 (by assumption) (by rfl) dX6_take_48 ?_
  refine aw_aload_n dX6_take_51 rfl ?_
  refine aw_get kg_X6_73 (by assumption) (by rfl) dX6_take_52 ?_
  -- at 55: .if_icmp .ge 15
  refine aw_icmp_ge (tgt := 70) dX6_take_55 (by omega) (by omega) (by decide) (fun c1 => ?_) (fun c1 => ?_)
  · have etk : tkS t ps = -1 := by rw [tkS, if_pos (by omega)]
    have enx : nxS t ps = stS t ps := by rw [nxS, if_pos (by omega)]
    refine aw_iconst dX6_take_70 ?_
    -- at 71: .putfield 79
    refine aw_putO kp_X6_79 (by assumption) (by simp) (aw_ni _) dX6_take_71 (fun h4 b4 f4 => ?_)
    have b4 : h4 52 = aO 6 (mdl u p q sn (t.length : Int) (stS t ps : Int) (stS t ps : Int) (-1) it nu nl nm tp) := b4
    refine aw_aload_n dX6_take_74 rfl ?_
    refine aw_dup dX6_take_75 rfl ?_
    refine aw_get kg_X6_70 (by assumption) (by rfl) dX6_take_76 ?_
    refine aw_aload_n dX6_take_79 rfl ?_
    refine aw_get kg_X6_70 (by assumption) (by rfl) dX6_take_80 ?_
    refine aw_aload_n dX6_take_83 rfl ?_
    refine aw_get kg_X6_73 (by assumption) (by rfl) dX6_take_84 ?_
    -- at 87: .if_icmp .ge 7
    refine aw_icmp_ge (tgt := 94) dX6_take_87 (by omega) (by omega) (by decide) (fun c2 => ?_) (fun c2 => ?_)
    · refine aw_iconst dX6_take_94 ?_
      refine aw_iadd dX6_take_95 ?_
      -- at 96: .putfield 70
      refine aw_putO kp_X6_70 (by assumption) (by simp) (aw_ni _) dX6_take_96 (fun h5 b5 f5 => ?_)
      have b5 : h5 52 = aO 6 (mdl u p q sn (t.length : Int) ((stS t ps : Int) + 0) (stS t ps : Int) (-1) it nu nl nm tp) := b5
      rw [Int.add_zero] at b5
      refine aw_aload_n dX6_take_99 rfl ?_
      refine aw_get kg_X6_79 (by assumption) (by rfl) dX6_take_100 ?_
      -- at 103: .invokestatic 82
      refine aw_Si1 kc_X6_82 (c6_isDigit (d := d) (by decide)) rfl (by omega) (Nat.le_of_ble_eq_true rfl) dX6_take_103 (fun v h' q => ?_)
      obtain ⟨rfl, rfl⟩ := q
      refine aw_flag_eq (tgt := 206) dX6_take_106 (by decide) (fun c3 => ?_) (fun c3 => ?_)
      · exact aw_vret rfl dX6_take_206 ⟨rfl, rfl, by rw [b5, etk, enx], fun j hj => ((f5 j hj).trans (f4 j hj)).trans (f3' j hj)⟩
      · omega
    · omega
  · have hv := ht.2 (stS t ps) (by omega)
    refine aw_aload_n dX6_take_58 rfl ?_
    refine aw_get kg_X6_33 (by assumption) (by rfl) dX6_take_59 ?_
    refine aw_aload_n dX6_take_62 rfl ?_
    refine aw_get kg_X6_70 (by assumption) (by rfl) dX6_take_63 ?_
    refine aw_iald (by assumption) (by omega) dX6_take_66 ?_
    refine aw_val (w := aI (t.getD (stS t ps) 0)) (by rw [Int.toNat_natCast, hfi _ (by omega)]) ?_
    refine aw_goto (tgt := 71) dX6_take_67 (by decide) ?_
    -- at 71: .putfield 79
    refine aw_putO kp_X6_79 (by assumption) (by simp) (aw_ni _) dX6_take_71 (fun h4 b4 f4 => ?_)
    have b4 : h4 52 = aO 6 (mdl u p q sn (t.length : Int) (stS t ps : Int) (stS t ps : Int) (t.getD (stS t ps) 0) it nu nl nm tp) := b4
    refine aw_aload_n dX6_take_74 rfl ?_
    refine aw_dup dX6_take_75 rfl ?_
    refine aw_get kg_X6_70 (by assumption) (by rfl) dX6_take_76 ?_
    refine aw_aload_n dX6_take_79 rfl ?_
    refine aw_get kg_X6_70 (by assumption) (by rfl) dX6_take_80 ?_
    refine aw_aload_n dX6_take_83 rfl ?_
    refine aw_get kg_X6_73 (by assumption) (by rfl) dX6_take_84 ?_
    -- at 87: .if_icmp .ge 7
    refine aw_icmp_ge (tgt := 94) dX6_take_87 (by omega) (by omega) (by decide) (fun c2 => ?_) (fun c2 => ?_)
    · omega
    · refine aw_iconst dX6_take_90 ?_
      refine aw_goto (tgt := 95) dX6_take_91 (by decide) ?_
      refine aw_iadd dX6_take_95 ?_
      -- at 96: .putfield 70
      refine aw_putO kp_X6_70 (by assumption) (by simp) (aw_ni _) dX6_take_96 (fun h5 b5 f5 => ?_)
      have b5 : h5 52 = aO 6 (mdl u p q sn (t.length : Int) ((stS t ps : Int) + 1) (stS t ps : Int) (t.getD (stS t ps) 0) it nu nl nm tp) := b5
      have f5' : ∀ j, j ≠ 52 → h5 j = h j := fun j hj => ((f5 j hj).trans (f4 j hj)).trans (f3' j hj)
      refine aw_aload_n dX6_take_99 rfl ?_
      refine aw_get kg_X6_79 (by assumption) (by rfl) dX6_take_100 ?_
      -- at 103: .invokestatic 82
      refine aw_Si1 kc_X6_82 (c6_isDigit (d := d) (by omega)) rfl (by omega) (Nat.le_of_ble_eq_true rfl) dX6_take_103 (fun v h' q => ?_)
      obtain ⟨rfl, rfl⟩ := q
      refine aw_flag_eq (tgt := 206) dX6_take_106 (by decide) (fun c3 => ?_) (fun c3 => ?_)
      · have etk : tkS t ps = t.getD (stS t ps) 0 := by rw [tkS, if_neg (by omega), if_neg c3]
        have enx : nxS t ps = stS t ps + 1 := by rw [nxS, if_neg (by omega), if_neg c3]
        exact aw_vret rfl dX6_take_206 ⟨rfl, rfl, by rw [b5, etk, enx]; rfl, f5'⟩
      · have etk : tkS t ps = 1000 + vS t (stS t ps) (neS t (stS t ps) - stS t ps) := by rw [tkS, if_neg (by omega), if_pos c3]
        have enx : nxS t ps = neS t (stS t ps) := by rw [nxS, if_neg (by omega), if_pos c3]
        have ene : nen t (t.length - (stS t ps + 1)) (stS t ps + 1) = neS t (stS t ps) := by
          obtain ⟨k, hk⟩ : ∃ k, t.length - stS t ps = k + 1 := ⟨t.length - stS t ps - 1, by omega⟩
          unfold neS
          rw [hk, nen, if_pos ⟨by omega, c3⟩, show t.length - (stS t ps + 1) = k by omega]
        have K := tkn_loop (n := n) (Z := am_Z (aqv n fun h' => h' 52 = aO 6 (mdl u p q sn (t.length : Int) (nxS t ps : Int) (stS t ps : Int) (tkS t ps) it nu nl nm tp) ∧ ∀ j, j ≠ 52 → h' j = h j) 0 0) (h := h) (D := d) (s := stS t ps) H0 ht (t.length - (stS t ps + 1)) (stS t ps + 1) h' (by omega) (by omega) (fun i g1 g2 => by
            have : i = stS t ps := by omega
            rw [this]; exact c3) (by rw [b5]; rfl) f5' (fun h6 b6 f6 => by
          rw [ene] at b6 ⊢
          refine aw_aload_n dX6_take_197 rfl ?_
          refine aw_sipush dX6_take_198 (by decide) ?_
          refine aw_iload_n dX6_take_201 rfl ?_
          refine aw_iadd dX6_take_202 ?_
          -- at 203: .putfield 79
          refine aw_putO kp_X6_79 (by assumption) (by simp) (aw_ni _) dX6_take_203 (fun h7' b7 f7 => ?_)
          exact aw_vret rfl dX6_take_206 ⟨rfl, rfl, by rw [b7, etk, enx]; rfl, fun j hj => (f7 j hj).trans (f6 j hj)⟩)
        refine aw_aload_n dX6_take_109 rfl ?_
        refine aw_get kg_X6_79 (by assumption) (by rfl) dX6_take_110 ?_
        refine aw_bipush dX6_take_113 (by decide) ?_
        refine aw_isub dX6_take_115 ?_
        refine aw_val (w := aI (vS t (stS t ps) (stS t ps + 1 - stS t ps))) (by rw [vS, if_pos (by omega)]) ?_
        refine aw_istore_n dX6_take_116 (by decide) ?_
        exact K
end Tok
end
section
/-! the text told: the class's reader -/
def AB (l : List Int) : Nat → Int × Int
  | 0 => (0, 1)
  | k + 1 => ((AB l k).1 * l.getD k 0 + (AB l k).2, (AB l k).2 * l.getD k 0)
def le60 (l : List Int) : Prop := l.length ≤ 8 ∧ ∀ i, i < l.length → 1 ≤ l.getD i 0 ∧ l.getD i 0 ≤ 60
theorem le60.row {l : List Int} (h : le60 l) : inRow l := ⟨h.1, fun i hi => by have := h.2 i hi; omega⟩
theorem AB_rng {l : List Int} (hl : le60 l) : ∀ k, k ≤ l.length → (0 ≤ (AB l k).1 ∧ (AB l k).1 ≤ k * 60 ^ k) ∧ (1 ≤ (AB l k).2 ∧ (AB l k).2 ≤ 60 ^ k)
  | 0, _ => by simp [AB]
  | k + 1, hk => by
    obtain ⟨⟨a1, a2⟩, b1, b2⟩ := AB_rng hl k (by omega)
    have hx := hl.2 k (by omega)
    have hp : (0 : Int) ≤ 60 ^ k := by omega
    have m1 : (AB l k).1 * l.getD k 0 ≤ (k * 60 ^ k) * 60 := Int.mul_le_mul a2 hx.2 (by omega) (Int.mul_nonneg (by omega) hp)
    have m2 : (AB l k).2 * l.getD k 0 ≤ 60 ^ k * 60 := Int.mul_le_mul b2 hx.2 (by omega) hp
    have m3 : 0 ≤ (AB l k).1 * l.getD k 0 := Int.mul_nonneg a1 (by omega)
    have m4 : 1 * 1 ≤ (AB l k).2 * l.getD k 0 := Int.mul_le_mul b1 hx.1 (by omega) (by omega)
    have e1 : (60 : Int) ^ (k + 1) = 60 ^ k * 60 := by rw [Int.pow_succ]
    have e2 : ((k + 1 : Nat) : Int) * 60 ^ (k + 1) = (k * 60 ^ k) * 60 + 60 ^ k * 60 := by
      rw [e1, show ((k + 1 : Nat) : Int) = (k : Int) + 1 by omega, Int.add_mul, Int.one_mul, Int.mul_assoc]
    have h60 : (60 : Int) ^ k ≤ 60 ^ k * 60 := by omega
    simp only [AB]
    rw [e2, e1]
    omega
theorem AB_num {l : List Int} (hl : le60 l) {k : Nat} (hk : k ≤ l.length) : (0 ≤ (AB l k).1 ∧ (AB l k).1 ≤ 1343692800000000) ∧ (1 ≤ (AB l k).2 ∧ (AB l k).2 ≤ 167961600000000) := by
  have h := AB_rng hl k hk
  have h8 := hl.1
  have hp : (60 : Int) ^ k ≤ 60 ^ 8 := by
    have := Int.ofNat_le.mpr (Nat.pow_le_pow_right (n := 60) (by decide) (show k ≤ 8 by omega))
    rw [Int.natCast_pow, Int.natCast_pow] at this
    exact this
  have e8 : (60 : Int) ^ 8 = 167961600000000 := by decide
  rw [e8] at hp
  have h0 : (0 : Int) ≤ 60 ^ k := by omega
  have hm : (k : Int) * 60 ^ k ≤ 8 * 167961600000000 := Int.mul_le_mul (by omega) hp h0 (by omega)
  omega
abbrev whS (P Q : Int) (l : List Int) : Prop := (AB l l.length).1 * Q = (AB l l.length).2 * P
def lastv (l : List Int) : Int := if l.length = 0 then -9 else l.getD (l.length - 1) 0
abbrev trmOK (tk : Int) (l : List Int) : Prop := (1001 ≤ tk ∧ tk ≤ 1060) ∧ lastv l < tk - 1000 ∧ l.length < 8
def foll (tk : Int) (s : Nat) (P Q : Int) (l : List Int) : Nat × Int × Int × List Int :=
  if s = 0 then (if tk = 112 then (1, P, Q, l) else (8, P, Q, l))
  else if s = 1 then (if 1001 ≤ tk ∧ tk ≤ 1099 then (2, tk - 1000, Q, l) else (8, P, Q, l))
  else if s = 2 then (if (1001 ≤ tk ∧ tk ≤ 1099) ∧ P ≤ 2 * (tk - 1000) then (3, P, tk - 1000, l) else (8, P, Q, l))
  else if s = 3 then (if tk = 59 then (4, P, Q, l) else (8, P, Q, l))
  else if s = 4 then (if tk = 115 then (5, P, Q, l) else (8, P, Q, l))
  else if s = 5 then (if trmOK tk l then (6, P, Q, l ++ [tk - 1000]) else (8, P, Q, l))
  else if s = 6 then (if tk = 59 then (if whS P Q l then (7, P, Q, l) else (8, P, Q, l)) else (if trmOK tk l then (6, P, Q, l ++ [tk - 1000]) else (8, P, Q, l)))
  else (8, P, Q, l)
def finS (t : List Int) (s : Nat) : Int := if s = 0 then 0 else if s = 4 then 1 else if s = 7 then 2 else -10 - (t.length : Int)
def runS (t : List Int) : Nat → Nat → Nat → Int → Int → List Int → Int × Int × Int × List Int
  | 0, s, _, P, Q, l => (finS t s, P, Q, l)
  | f + 1, s, pos, P, Q, l => if tkS t pos = -1 then (finS t s, P, Q, l) else if (foll (tkS t pos) s P Q l).1 = 8 then (-10 - (stS t pos : Int), (foll (tkS t pos) s P Q l).2) else runS t f (foll (tkS t pos) s P Q l).1 (nxS t pos) (foll (tkS t pos) s P Q l).2.1 (foll (tkS t pos) s P Q l).2.2.1 (foll (tkS t pos) s P Q l).2.2.2
/-- what a text tells: how many items, or -10 less the fault; the fraction; the sum -/
def telS (t : List Int) : Int × Int × Int × List Int := runS t 60 0 0 2 3 []
theorem knS_iff {tk : Int} (h : -1 ≤ tk) : (knS tk = 0 ↔ tk = -1) ∧ (knS tk = 1 ↔ tk = 112) ∧ (knS tk = 2 ↔ tk = 115) ∧ (knS tk = 3 ↔ tk = 59) ∧ (knS tk = 4 ↔ (1000 ≤ tk ∧ tk ≤ 1099)) ∧ 0 ≤ knS tk ∧ knS tk ≤ 5 := by
  unfold knS kndS
  omega
section Parse
variable {d n : Nat} {h : AH} {lt pl sta vl P Q tk : Int} {l : List Int}
theorem adds_loop {Z : AZ} {R : Room} {r a : Nat} {p q : Int} {f : Nat → Int} (hr : h r = aO 2 [aR a, aI (l.length : Int)]) (ha : h a = aA 0 8 f) (hf : ∀ i, i < l.length → f i = l.getD i 0) (hl : le60 l)
    (kk : AW mX2_adds R Z 0 0 n h 50 [some (aR r), some (aI p), some (aI q), some (aL (AB l l.length).1), none, some (aL (AB l l.length).2), none, some (aI (l.length : Int))] []) :
    ∀ (m e : Nat), m + e = l.length → AW mX2_adds R Z 0 0 n h 8 [some (aR r), some (aI p), some (aI q), some (aL (AB l e).1), none, some (aL (AB l e).2), none, some (aI (e : Int))] [] := by
  have hl8 := hl.1
  intro m
  induction m with
  | zero =>
    intro e he
    have : e = l.length := by omega
    subst this
    refine aw_iload dX2_adds_8 rfl ?_
    refine aw_aload_n dX2_adds_10 rfl ?_
    refine aw_get kg_X2_15 (by assumption) (by rfl) dX2_adds_11 ?_
    -- at 14: .if_icmp .ge 36
    refine aw_icmp_ge (tgt := 50) dX2_adds_14 (by omega) (by omega) (by decide) (fun c1 => ?_) (fun c1 => ?_)
    · exact kk
    · omega
  | succ m ih =>
    intro e he
    have hx := hl.2 e (by omega)
    have K := ih (e + 1) (by omega)
    rw [show ((e + 1 : Nat) : Int) = (e : Int) + 1 by omega] at K
    refine aw_iload dX2_adds_8 rfl ?_
    refine aw_aload_n dX2_adds_10 rfl ?_
    refine aw_get kg_X2_15 (by assumption) (by rfl) dX2_adds_11 ?_
    -- at 14: .if_icmp .ge 36
    refine aw_icmp_ge (tgt := 50) dX2_adds_14 (by omega) (by omega) (by decide) (fun c1 => ?_) (fun c1 => ?_)
    · omega
    · refine aw_lload_n dX2_adds_17 rfl ?_
      refine aw_aload_n dX2_adds_18 rfl ?_
      refine aw_get kg_X2_9 (by assumption) (by rfl) dX2_adds_19 ?_
      refine aw_iload dX2_adds_22 rfl ?_
      refine aw_iald (by assumption) (by omega) dX2_adds_24 ?_
      refine aw_val (w := aI (l.getD e 0)) (by rw [Int.toNat_natCast, hf e (by omega)]) ?_
      refine aw_i2l dX2_adds_25 (by omega) ?_
      refine aw_lmul dX2_adds_26 ?_
      refine aw_lload dX2_adds_27 rfl ?_
      refine aw_ladd dX2_adds_29 ?_
      refine aw_lstore_n dX2_adds_30 (by decide) ?_
      refine aw_lload dX2_adds_31 rfl ?_
      refine aw_aload_n dX2_adds_33 rfl ?_
      refine aw_get kg_X2_9 (by assumption) (by rfl) dX2_adds_34 ?_
      refine aw_iload dX2_adds_37 rfl ?_
      refine aw_iald (by assumption) (by omega) dX2_adds_39 ?_
      refine aw_val (w := aI (l.getD e 0)) (by rw [Int.toNat_natCast, hf e (by omega)]) ?_
      refine aw_i2l dX2_adds_40 (by omega) ?_
      refine aw_lmul dX2_adds_41 ?_
      refine aw_lstore dX2_adds_42 (by decide) ?_
      refine aw_iinc dX2_adds_44 rfl (by decide) ?_
      refine aw_goto (tgt := 8) dX2_adds_47 (by decide) ?_
      exact K
theorem c_Row_adds {r a : Nat} {p q : Int} (H : isRow h r a l) (hl : le60 l) (hp : 1 ≤ p ∧ p ≤ 99) (hq : 1 ≤ q ∧ q ≤ 99) : AC mX2_adds d 0 0 n h [aR r, aI p, aI q] (aqi n fun v h' => v = (if whS p q l then 1 else 0) ∧ h' = h) := by
  refine AC.of (by decide) (Nat.le_of_ble_eq_true rfl) ?_
  obtain ⟨hr, f, ha, hf⟩ := H
  refine aw_lconst (a := 0) dX2_adds_0 (by decide) ?_
  refine aw_lstore_n dX2_adds_1 (by decide) ?_
  refine aw_lconst (a := 1) dX2_adds_2 (by decide) ?_
  refine aw_lstore dX2_adds_3 (by decide) ?_
  refine aw_iconst dX2_adds_5 ?_
  refine aw_istore dX2_adds_6 (by decide) ?_
  refine adds_loop hr ha hf hl ?_ l.length 0 (by omega)
  obtain ⟨hA, hB⟩ := AB_num hl (Nat.le_refl _)
  have m1 : (AB l l.length).1 * q ≤ 1343692800000000 * 99 := Int.mul_le_mul hA.2 hq.2 (by omega) (by omega)
  have m2 : (AB l l.length).2 * p ≤ 167961600000000 * 99 := Int.mul_le_mul hB.2 hp.2 (by omega) (by omega)
  have m3 : 0 ≤ (AB l l.length).1 * q := Int.mul_nonneg hA.1 (by omega)
  have m4 : 0 ≤ (AB l l.length).2 * p := Int.mul_nonneg (by omega) (by omega)
  refine aw_lload_n dX2_adds_50 rfl ?_
  refine aw_iload_n dX2_adds_51 rfl ?_
  refine aw_i2l dX2_adds_52 (by omega) ?_
  refine aw_lmul dX2_adds_53 ?_
  refine aw_lload dX2_adds_54 rfl ?_
  refine aw_iload_n dX2_adds_56 rfl ?_
  refine aw_i2l dX2_adds_57 (by omega) ?_
  refine aw_lmul dX2_adds_58 ?_
  -- at 59: .lcmp
  refine aw_lcmp_ne (tgt := 67) dX2_adds_59 dX2_adds_60 (by omega) (by omega) (by decide) (fun c1 => ?_) (fun c1 => ?_)
  · refine aw_iconst dX2_adds_67 ?_
    -- at 68: .ireturn
    exact aw_zret rfl dX2_adds_68 (by omega) ⟨rfl, _, rfl, by rw [if_neg c1], rfl⟩
  · refine aw_iconst dX2_adds_63 ?_
    refine aw_goto (tgt := 68) dX2_adds_64 (by decide) ?_
    -- at 68: .ireturn
    exact aw_zret rfl dX2_adds_68 (by omega) ⟨rfl, _, rfl, by rw [if_pos (Decidable.not_not.mp c1)], rfl⟩
theorem c_isNumberTo {most tok : Int} (hm : -2147483648 ≤ most ∧ most ≤ 2147483647) (ht : 0 ≤ tok ∧ tok ≤ 5) (hv : -2147483648 ≤ vl ∧ vl ≤ 2147483647) (h1 : h 6 = aO 3 (scr lt pl tok sta vl P Q)) : AC mX3_isNumberTo d 0 0 n h [aR 6, aI most] (aqi n fun v h' => v = (if tok = 4 ∧ 1 ≤ vl ∧ vl ≤ most then 1 else 0) ∧ h' = h) := by
  refine AC.of (by decide) (Nat.le_of_ble_eq_true rfl) ?_
  refine aw_aload_n dX3_isNumberTo_0 rfl ?_
  refine aw_get kg_X3_22 (by assumption) (by rfl) dX3_isNumberTo_1 ?_
  refine aw_iconst dX3_isNumberTo_4 ?_
  -- at 5: .if_icmp .ne 23
  refine aw_icmp_ne (tgt := 28) dX3_isNumberTo_5 (by omega) (by omega) (by decide) (fun c1 => ?_) (fun c1 => ?_)
  · refine aw_iconst dX3_isNumberTo_28 ?_
    -- at 29: .ireturn
    exact aw_zret rfl dX3_isNumberTo_29 (by omega) ⟨rfl, _, rfl, by rw [if_neg (by omega)], rfl⟩
  · refine aw_aload_n dX3_isNumberTo_8 rfl ?_
    refine aw_get kg_X3_28 (by assumption) (by rfl) dX3_isNumberTo_9 ?_
    refine aw_iconst dX3_isNumberTo_12 ?_
    -- at 13: .if_icmp .lt 15
    refine aw_icmp_lt (tgt := 28) dX3_isNumberTo_13 (by omega) (by omega) (by decide) (fun c2 => ?_) (fun c2 => ?_)
    · refine aw_iconst dX3_isNumberTo_28 ?_
      -- at 29: .ireturn
      exact aw_zret rfl dX3_isNumberTo_29 (by omega) ⟨rfl, _, rfl, by rw [if_neg (by omega)], rfl⟩
    · refine aw_aload_n dX3_isNumberTo_16 rfl ?_
      refine aw_get kg_X3_28 (by assumption) (by rfl) dX3_isNumberTo_17 ?_
      refine aw_iload_n dX3_isNumberTo_20 rfl ?_
      -- at 21: .if_icmp .gt 7
      refine aw_icmp_gt (tgt := 28) dX3_isNumberTo_21 (by omega) (by omega) (by decide) (fun c3 => ?_) (fun c3 => ?_)
      · refine aw_iconst dX3_isNumberTo_28 ?_
        -- at 29: .ireturn
        exact aw_zret rfl dX3_isNumberTo_29 (by omega) ⟨rfl, _, rfl, by rw [if_neg (by omega)], rfl⟩
      · refine aw_iconst dX3_isNumberTo_24 ?_
        refine aw_goto (tgt := 29) dX3_isNumberTo_25 (by decide) ?_
        -- at 29: .ireturn
        exact aw_zret rfl dX3_isNumberTo_29 (by omega) ⟨rfl, _, rfl, by rw [if_pos (by omega)], rfl⟩
theorem c_takeAbove (hk : -1 ≤ tk ∧ tk ≤ 2000) (hv : -2147483648 ≤ vl ∧ vl ≤ 2147483647) (hvk : 1000 ≤ tk → tk ≤ 1099 → vl = tk - 1000) (h1 : h 6 = aO 3 (scr lt pl (knS tk) sta vl P Q)) : AC mX3_takeAbove (d + 1) 0 0 n h [aR 6] (aqi n fun v h' => v = ((foll tk 1 P Q l).1 : Int) ∧ h' 6 = aO 3 (scr lt pl (knS tk) sta vl (foll tk 1 P Q l).2.1 (foll tk 1 P Q l).2.2.1) ∧ (foll tk 1 P Q l).2.2.2 = l ∧ ∀ j, j ≠ 6 → h' j = h j) := by
  refine AC.of (by decide) (Nat.le_of_ble_eq_true rfl) ?_
  have hn := knS_iff hk.1
  refine aw_aload_n dX3_takeAbove_0 rfl ?_
  refine aw_bipush dX3_takeAbove_1 (by decide) ?_
  -- at 3: .invokevirtual 67
  refine aw_Vi1 kc_X3_67 (c_isNumberTo (d := d) (by decide) (by omega) hv h1) (by assumption) rfl rfl (by omega) (Nat.le_of_ble_eq_true rfl) dX3_takeAbove_3 (fun v h' q => ?_)
  obtain ⟨rfl, rfl⟩ := q
  refine aw_flag_ne (tgt := 12) dX3_takeAbove_6 (by decide) (fun c1 => ?_) (fun c1 => ?_)
  · have e : foll tk 1 P Q l = (2, tk - 1000, Q, l) := by
      have hq : 1001 ≤ tk ∧ tk ≤ 1099 := by
        have := hn.2.2.2.2.1.mp c1.1
        have := hvk this.1 this.2
        omega
      simp [foll, hq]
    have ev : vl = tk - 1000 := by
      have := hn.2.2.2.2.1.mp c1.1
      exact hvk this.1 this.2
    refine aw_aload_n dX3_takeAbove_12 rfl ?_
    refine aw_aload_n dX3_takeAbove_13 rfl ?_
    refine aw_get kg_X3_28 (by assumption) (by rfl) dX3_takeAbove_14 ?_
    -- at 17: .putfield 31
    refine aw_putO kp_X3_31 (by assumption) (by simp) (aw_ni _) dX3_takeAbove_17 (fun h2 b2 f2 => ?_)
    refine aw_iconst dX3_takeAbove_20 ?_
    -- at 21: .ireturn
    exact aw_iret rfl dX3_takeAbove_21 ⟨rfl, _, rfl, by rw [e]; rfl, by rw [b2, e, ← ev]; rfl, by rw [e], f2⟩
  · have e : foll tk 1 P Q l = (8, P, Q, l) := by
      have hq : ¬ (1001 ≤ tk ∧ tk ≤ 1099) := by
        intro z
        have := hn.2.2.2.2.1.mpr (by omega)
        have := hvk (by omega) (by omega)
        omega
      simp [foll, hq]
    refine aw_bipush dX3_takeAbove_9 (by decide) ?_
    -- at 11: .ireturn
    exact aw_iret rfl dX3_takeAbove_11 ⟨rfl, _, rfl, by rw [e]; rfl, by rw [h1, e], by rw [e], fun _ _ => rfl⟩
theorem c_takeBelow (hk : -1 ≤ tk ∧ tk ≤ 2000) (hv : -2147483648 ≤ vl ∧ vl ≤ 2147483647) (hP : 1 ≤ P ∧ P ≤ 99) (hvk : 1000 ≤ tk → tk ≤ 1099 → vl = tk - 1000) (h1 : h 6 = aO 3 (scr lt pl (knS tk) sta vl P Q)) : AC mX3_takeBelow (d + 1) 0 0 n h [aR 6] (aqi n fun v h' => v = ((foll tk 2 P Q l).1 : Int) ∧ h' 6 = aO 3 (scr lt pl (knS tk) sta vl (foll tk 2 P Q l).2.1 (foll tk 2 P Q l).2.2.1) ∧ (foll tk 2 P Q l).2.2.2 = l ∧ ∀ j, j ≠ 6 → h' j = h j) := by
  refine AC.of (by decide) (Nat.le_of_ble_eq_true rfl) ?_
  have hn := knS_iff hk.1
  refine aw_aload_n dX3_takeBelow_0 rfl ?_
  refine aw_bipush dX3_takeBelow_1 (by decide) ?_
  -- at 3: .invokevirtual 67
  refine aw_Vi1 kc_X3_67 (c_isNumberTo (d := d) (by decide) (by omega) hv h1) (by assumption) rfl rfl (by omega) (Nat.le_of_ble_eq_true rfl) dX3_takeBelow_3 (fun v h' q => ?_)
  obtain ⟨rfl, rfl⟩ := q
  refine aw_flag_eq (tgt := 22) dX3_takeBelow_6 (by decide) (fun c1 => ?_) (fun c1 => ?_)
  · have e : foll tk 2 P Q l = (8, P, Q, l) := by
      have hq : ¬ ((1001 ≤ tk ∧ tk ≤ 1099) ∧ P ≤ 2 * (tk - 1000)) := by
        intro z
        have := hn.2.2.2.2.1.mpr (by omega)
        have := hvk (by omega) (by omega)
        omega
      simp [foll, hq]
    refine aw_bipush dX3_takeBelow_22 (by decide) ?_
    -- at 24: .ireturn
    exact aw_iret rfl dX3_takeBelow_24 ⟨rfl, _, rfl, by rw [e]; rfl, by rw [h1, e], by rw [e], fun _ _ => rfl⟩
  · have hq := hn.2.2.2.2.1.mp c1.1
    have ev := hvk hq.1 hq.2
    refine aw_aload_n dX3_takeBelow_9 rfl ?_
    refine aw_get kg_X3_31 (by assumption) (by rfl) dX3_takeBelow_10 ?_
    refine aw_iconst dX3_takeBelow_13 ?_
    refine aw_aload_n dX3_takeBelow_14 rfl ?_
    refine aw_get kg_X3_28 (by assumption) (by rfl) dX3_takeBelow_15 ?_
    refine aw_imul dX3_takeBelow_18 ?_
    -- at 19: .if_icmp .le 6
    refine aw_icmp_le (tgt := 25) dX3_takeBelow_19 (by omega) (by omega) (by decide) (fun c2 => ?_) (fun c2 => ?_)
    · have e : foll tk 2 P Q l = (3, P, tk - 1000, l) := by
        have hq : (1001 ≤ tk ∧ tk ≤ 1099) ∧ P ≤ 2 * (tk - 1000) := by omega
        simp [foll, hq]
      refine aw_aload_n dX3_takeBelow_25 rfl ?_
      refine aw_aload_n dX3_takeBelow_26 rfl ?_
      refine aw_get kg_X3_28 (by assumption) (by rfl) dX3_takeBelow_27 ?_
      -- at 30: .putfield 34
      refine aw_putO kp_X3_34 (by assumption) (by simp) (aw_ni _) dX3_takeBelow_30 (fun h2 b2 f2 => ?_)
      refine aw_iconst dX3_takeBelow_33 ?_
      -- at 34: .ireturn
      exact aw_iret rfl dX3_takeBelow_34 ⟨rfl, _, rfl, by rw [e]; rfl, by rw [b2, e, ← ev]; rfl, by rw [e], f2⟩
    · have e : foll tk 2 P Q l = (8, P, Q, l) := by
        have hq : ¬ ((1001 ≤ tk ∧ tk ≤ 1099) ∧ P ≤ 2 * (tk - 1000)) := by omega
        simp [foll, hq]
      refine aw_bipush dX3_takeBelow_22 (by decide) ?_
      -- at 24: .ireturn
      exact aw_iret rfl dX3_takeBelow_24 ⟨rfl, _, rfl, by rw [e]; rfl, by rw [h1, e], by rw [e], fun _ _ => rfl⟩
theorem ins_end {l : List Int} {x : Int} (h : lastv l < x) (hx : 1 ≤ x) : plL l x = l.length ∧ insL l x = l ++ [x] := by
  have e : plL l x = l.length := by
    unfold plL
    unfold lastv at h
    cases hl : l.length with
    | zero => rfl
    | succ k =>
      rw [hl, if_neg (by omega)] at h
      rw [plc, if_neg (by simp only [Nat.add_sub_cancel] at h; omega)]
  refine ⟨e, ?_⟩
  rw [insL, e]
  simp
theorem c_takeTerm (hk : -1 ≤ tk ∧ tk ≤ 2000) (hv : -2147483648 ≤ vl ∧ vl ≤ 2147483647) (hl : le60 l) (hvk : 1000 ≤ tk → tk ≤ 1099 → vl = tk - 1000) (h1 : h 6 = aO 3 (scr lt pl (knS tk) sta vl P Q)) (H : isRow h 8 9 l) : AC mX3_takeTerm (d + 2) 0 0 n h [aR 6] (aqi n fun v h' => (trmOK tk l ∧ v = 6 ∧ isRow h' 8 9 (l ++ [tk - 1000]) ∧ ∀ j, j ≠ 8 → j ≠ 9 → h' j = h j) ∨ (¬ trmOK tk l ∧ v = 8 ∧ h' = h)) := by
  refine AC.of (by decide) (Nat.le_of_ble_eq_true rfl) ?_
  have hn := knS_iff hk.1
  have hr := H.1
  have hl8 := hl.1
  refine aw_aload_n dX3_takeTerm_0 rfl ?_
  refine aw_bipush dX3_takeTerm_1 (by decide) ?_
  -- at 3: .invokevirtual 67
  refine aw_Vi1 kc_X3_67 (c_isNumberTo (d := d) (by decide) (by omega) hv h1) (by assumption) rfl rfl (by omega) (Nat.le_of_ble_eq_true rfl) dX3_takeTerm_3 (fun v h' q => ?_)
  obtain ⟨rfl, rfl⟩ := q
  refine aw_flag_eq (tgt := 32) dX3_takeTerm_6 (by decide) (fun c1 => ?_) (fun c1 => ?_)
  · refine aw_bipush dX3_takeTerm_32 (by decide) ?_
    -- at 34: .ireturn
    refine aw_iret rfl dX3_takeTerm_34 ⟨rfl, _, rfl, Or.inr ⟨fun z => c1 ?_, rfl, rfl⟩⟩
    have := hn.2.2.2.2.1.mpr (by omega)
    have := hvk (by omega) (by omega)
    omega
  · have hq := hn.2.2.2.2.1.mp c1.1
    have ev := hvk hq.1 hq.2
    refine aw_aload_n dX3_takeTerm_9 rfl ?_
    refine aw_get kg_X3_28 (by assumption) (by rfl) dX3_takeTerm_10 ?_
    refine aw_aload_n dX3_takeTerm_13 rfl ?_
    refine aw_get kg_X3_40 (by assumption) (by rfl) dX3_takeTerm_14 ?_
    refine aw_aload_n dX3_takeTerm_17 rfl ?_
    refine aw_get kg_X3_40 (by assumption) (by rfl) dX3_takeTerm_18 ?_
    -- at 21: .invokevirtual 71
    refine aw_Vi0 kc_X3_71 (c_Row_length (d := d) H) (by assumption) rfl rfl (by omega) (Nat.le_of_ble_eq_true rfl) dX3_takeTerm_21 (fun v h' q => ?_)
    obtain ⟨rfl, rfl⟩ := q
    refine aw_iconst dX3_takeTerm_24 ?_
    refine aw_isub dX3_takeTerm_25 ?_
    -- at 26: .invokevirtual 73
    refine aw_Vi1 kc_X3_73 (c_Row_at (d := d) (k := (l.length : Int) - 1) (by omega) H hl.row) (by assumption) rfl rfl (by omega) (Nat.le_of_ble_eq_true rfl) dX3_takeTerm_26 (fun v h' q => ?_)
    obtain ⟨rfl, rfl⟩ := q
    have elast : (if 0 ≤ (l.length : Int) - 1 ∧ (l.length : Int) - 1 < (l.length : Int) then l.getD ((l.length : Int) - 1).toNat 0 else -9) = lastv l := by
      unfold lastv
      by_cases z : l.length = 0
      · rw [if_neg (by omega), if_pos z]
      · rw [if_pos (by omega), if_neg z]
        congr 1
        omega
    have hlr : -9 ≤ lastv l ∧ lastv l ≤ 60 := by
      unfold lastv
      by_cases z : l.length = 0
      · rw [if_pos z]; omega
      · rw [if_neg z]
        have := hl.2 (l.length - 1) (by omega)
        omega
    refine aw_val (w := aI (lastv l)) (by rw [elast]) ?_
    refine aw_icmp_gt (tgt := 35) dX3_takeTerm_29 (by omega) (by omega) (by decide) (fun c2 => ?_) (fun c2 => ?_)
    · obtain ⟨ep, ei⟩ := ins_end (l := l) (x := vl) (by omega) (by omega)
      refine aw_aload_n dX3_takeTerm_35 rfl ?_
      refine aw_get kg_X3_40 (by assumption) (by rfl) dX3_takeTerm_36 ?_
      refine aw_aload_n dX3_takeTerm_39 rfl ?_
      refine aw_get kg_X3_28 (by assumption) (by rfl) dX3_takeTerm_40 ?_
      refine aw_i2l dX3_takeTerm_43 (by omega) ?_
      -- at 44: .invokevirtual 76
      refine aw_Vi1 kc_X3_76 (c_Row_insert (d := d) (x := vl) (by omega) H hl.row) (by assumption) rfl rfl (by omega) (Nat.le_of_ble_eq_true rfl) dX3_takeTerm_44 (fun v h2 q => ?_)
      rcases q with ⟨q1, rfl, q3, q4⟩ | ⟨q1, rfl, rfl⟩
      · refine aw_if_eq (tgt := 55) dX3_takeTerm_47 (by omega) (by decide) (fun c3 => ?_) (fun c3 => ?_)
        · omega
        · refine aw_bipush dX3_takeTerm_50 (by decide) ?_
          refine aw_goto (tgt := 57) dX3_takeTerm_52 (by decide) ?_
          -- at 57: .ireturn
          rw [ei, ev] at q3
          exact aw_iret rfl dX3_takeTerm_57 ⟨rfl, _, rfl, Or.inl ⟨⟨by omega, by omega, q1.2.2.1⟩, rfl, q3, q4⟩⟩
      · refine aw_if_eq (tgt := 55) dX3_takeTerm_47 (by omega) (by decide) (fun c3 => ?_) (fun c3 => ?_)
        · refine aw_bipush dX3_takeTerm_55 (by decide) ?_
          -- at 57: .ireturn
          refine aw_iret rfl dX3_takeTerm_57 ⟨rfl, _, rfl, Or.inr ⟨fun z => q1 ⟨by omega, by omega, z.2.2, ?_⟩, rfl, rfl⟩⟩
          rw [ep]
          omega
        · omega
    · refine aw_bipush dX3_takeTerm_32 (by decide) ?_
      -- at 34: .ireturn
      exact aw_iret rfl dX3_takeTerm_34 ⟨rfl, _, rfl, Or.inr ⟨fun z => by have := z.2.1; omega, rfl, rfl⟩⟩
theorem c_endSum (hP : 1 ≤ P ∧ P ≤ 99) (hQ : 1 ≤ Q ∧ Q ≤ 99) (hl : le60 l) (h1 : h 6 = aO 3 (scr lt pl (knS tk) sta vl P Q)) (H : isRow h 8 9 l) : AC mX3_endSum (d + 1) 0 0 n h [aR 6] (aqi n fun v h' => v = (if whS P Q l then 7 else 8) ∧ h' = h) := by
  refine AC.of (by decide) (Nat.le_of_ble_eq_true rfl) ?_
  have hr := H.1
  refine aw_aload_n dX3_endSum_0 rfl ?_
  refine aw_get kg_X3_40 (by assumption) (by rfl) dX3_endSum_1 ?_
  refine aw_aload_n dX3_endSum_4 rfl ?_
  refine aw_get kg_X3_31 (by assumption) (by rfl) dX3_endSum_5 ?_
  refine aw_aload_n dX3_endSum_8 rfl ?_
  refine aw_get kg_X3_34 (by assumption) (by rfl) dX3_endSum_9 ?_
  -- at 12: .invokevirtual 80
  refine aw_Vi2 kc_X3_80 (c_Row_adds (d := d) H hl hP hQ) (by assumption) rfl rfl (by omega) (Nat.le_of_ble_eq_true rfl) dX3_endSum_12 (fun v h' q => ?_)
  obtain ⟨rfl, rfl⟩ := q
  refine aw_flag_eq (tgt := 23) dX3_endSum_15 (by decide) (fun c1 => ?_) (fun c1 => ?_)
  · refine aw_bipush dX3_endSum_23 (by decide) ?_
    -- at 25: .ireturn
    exact aw_iret rfl dX3_endSum_25 ⟨rfl, _, rfl, by rw [if_neg c1], rfl⟩
  · refine aw_bipush dX3_endSum_18 (by decide) ?_
    refine aw_goto (tgt := 25) dX3_endSum_20 (by decide) ?_
    -- at 25: .ireturn
    exact aw_iret rfl dX3_endSum_25 ⟨rfl, _, rfl, by rw [if_pos c1], rfl⟩
end Parse
end
section
/-! the class's reader, whole -/
def okSt (s : Nat) (P Q : Int) (l : List Int) : Prop := (1 ≤ P ∧ P ≤ 99) ∧ (1 ≤ Q ∧ Q ≤ 99) ∧ le60 l ∧ (∀ i j, i < j → j < l.length → l.getD i 0 < l.getD j 0) ∧ (s ≠ 2 → P ≤ 2 * Q)
theorem lastv_app (l : List Int) (x : Int) : lastv (l ++ [x]) = x := by
  unfold lastv
  rw [if_neg (by simp), gd_app]
  simp
theorem okSt_app {s s' : Nat} {P Q tk : Int} {l : List Int} (h : okSt s P Q l) (hs : s ≠ 2) (ht : trmOK tk l) : okSt s' P Q (l ++ [tk - 1000]) := by
  obtain ⟨h1, h2, ⟨h3, h3'⟩, h4, h5⟩ := h
  obtain ⟨t1, t2, t3⟩ := ht
  refine ⟨h1, h2, ⟨by simp; omega, fun i hi => ?_⟩, fun i j hij hj => ?_, fun _ => h5 hs⟩
  · rw [gd_app]
    simp at hi
    by_cases q : i < l.length
    · rw [if_pos q]; exact h3' i q
    · rw [if_neg q, if_pos (by omega)]; omega
  · rw [gd_app, gd_app]
    simp at hj
    by_cases q : j < l.length
    · rw [if_pos (by omega), if_pos q]; exact h4 i j hij q
    · rw [if_pos (by omega), if_neg q, if_pos (by omega)]
      unfold lastv at t2
      rw [if_neg (by omega)] at t2
      by_cases z : i = l.length - 1
      · rw [z]; exact t2
      · have := h4 i (l.length - 1) (by omega) (by omega)
        omega
theorem foll_ok {tk : Int} {s : Nat} {P Q : Int} {l : List Int} (h : okSt s P Q l) (hn : (foll tk s P Q l).1 ≠ 8) : okSt (foll tk s P Q l).1 (foll tk s P Q l).2.1 (foll tk s P Q l).2.2.1 (foll tk s P Q l).2.2.2 ∧ (foll tk s P Q l).1 ≤ 7 := by
  have h0 := h
  obtain ⟨h1, h2, h3, h4, h5⟩ := h
  revert hn
  unfold foll
  by_cases s0 : s = 0
  · rw [if_pos s0]
    split
    · intro _; exact ⟨⟨h1, h2, h3, h4, fun _ => h5 (by omega)⟩, by simp⟩
    · intro q; exact absurd rfl q
  rw [if_neg s0]
  by_cases s1 : s = 1
  · rw [if_pos s1]
    split
    · intro _; exact ⟨⟨by show 1 ≤ tk - 1000 ∧ tk - 1000 ≤ 99; omega, h2, h3, h4, fun q => absurd rfl q⟩, by simp⟩
    · intro q; exact absurd rfl q
  rw [if_neg s1]
  by_cases s2 : s = 2
  · rw [if_pos s2]
    split
    · rename_i hc
      intro _; exact ⟨⟨h1, by show 1 ≤ tk - 1000 ∧ tk - 1000 ≤ 99; omega, h3, h4, fun _ => hc.2⟩, by simp⟩
    · intro q; exact absurd rfl q
  rw [if_neg s2]
  by_cases s3 : s = 3
  · rw [if_pos s3]
    split
    · intro _; exact ⟨⟨h1, h2, h3, h4, fun _ => h5 s2⟩, by simp⟩
    · intro q; exact absurd rfl q
  rw [if_neg s3]
  by_cases s4 : s = 4
  · rw [if_pos s4]
    split
    · intro _; exact ⟨⟨h1, h2, h3, h4, fun _ => h5 s2⟩, by simp⟩
    · intro q; exact absurd rfl q
  rw [if_neg s4]
  by_cases s5 : s = 5
  · rw [if_pos s5]
    split
    · rename_i hc
      intro _; exact ⟨okSt_app h0 s2 hc, by simp⟩
    · intro q; exact absurd rfl q
  rw [if_neg s5]
  by_cases s6 : s = 6
  · rw [if_pos s6]
    split
    · split
      · intro _; exact ⟨⟨h1, h2, h3, h4, fun _ => h5 s2⟩, by simp⟩
      · intro q; exact absurd rfl q
    · split
      · rename_i hc
        intro _; exact ⟨okSt_app h0 s2 hc, by simp⟩
      · intro q; exact absurd rfl q
  rw [if_neg s6]
  intro q; exact absurd rfl q
section Read
variable {d n : Nat} {h : AH} {lt pl sta vl P Q tk : Int} {l : List Int}
theorem c_follow {s : Nat} (hs : s ≤ 7) (hk : -1 ≤ tk ∧ tk ≤ 2000) (hv : -2147483648 ≤ vl ∧ vl ≤ 2147483647) (ok : okSt s P Q l) (hvk : 1000 ≤ tk → tk ≤ 1099 → vl = tk - 1000) (h1 : h 6 = aO 3 (scr lt pl (knS tk) sta vl P Q)) (H : isRow h 8 9 l) :
    AC mX3_follow (d + 4) 0 0 n h [aR 6, aI (s : Int)] (aqi n fun v h' => v = ((foll tk s P Q l).1 : Int) ∧ h' 6 = aO 3 (scr lt pl (knS tk) sta vl (foll tk s P Q l).2.1 (foll tk s P Q l).2.2.1) ∧ isRow h' 8 9 (foll tk s P Q l).2.2.2 ∧ ∀ j, j ≠ 6 → j ≠ 8 → j ≠ 9 → h' j = h j) := by
  refine AC.of (by decide) (Nat.le_of_ble_eq_true rfl) ?_
  have hn := knS_iff hk.1
  obtain ⟨hP, hQ, hl, hri, hPQ⟩ := ok
  refine aw_iload_n dX3_follow_0 rfl ?_
  -- at 1: .tableswitch 123 0 6 #[43, 58, 63, 68, 83, 98, 103]
  have hc : s = 0 ∨ s = 1 ∨ s = 2 ∨ s = 3 ∨ s = 4 ∨ s = 5 ∨ s = 6 ∨ s = 7 := by omega
  rcases hc with rfl | rfl | rfl | rfl | rfl | rfl | rfl | rfl
  · refine aw_tableIn (tgt := 44) dX3_follow_1 (by decide) (by decide) (by decide) rfl (by decide) ?_
    refine aw_aload_n dX3_follow_44 rfl ?_
    refine aw_get kg_X3_22 (by assumption) (by rfl) dX3_follow_45 ?_
    refine aw_iconst dX3_follow_48 ?_
    -- at 49: .if_icmp .ne 7
    refine aw_icmp_ne (tgt := 56) dX3_follow_49 (by omega) (by omega) (by decide) (fun c1 => ?_) (fun c1 => ?_)
    · have e : foll tk 0 P Q l = (8, P, Q, l) := by
        have : tk ≠ 112 := fun z => c1 (hn.2.1.mpr z)
        simp [foll, this]
      refine aw_bipush dX3_follow_56 (by decide) ?_
      -- at 58: .ireturn
      exact aw_iret rfl dX3_follow_58 ⟨rfl, _, rfl, by rw [e]; rfl, by rw [h1, e], by rw [e]; exact H, fun _ _ _ _ => rfl⟩
    · have e : foll tk 0 P Q l = (1, P, Q, l) := by
        have : tk = 112 := hn.2.1.mp (Decidable.not_not.mp c1)
        simp [foll, this]
      refine aw_iconst dX3_follow_52 ?_
      refine aw_goto (tgt := 58) dX3_follow_53 (by decide) ?_
      -- at 58: .ireturn
      exact aw_iret rfl dX3_follow_58 ⟨rfl, _, rfl, by rw [e]; rfl, by rw [h1, e], by rw [e]; exact H, fun _ _ _ _ => rfl⟩
  · refine aw_tableIn (tgt := 59) dX3_follow_1 (by decide) (by decide) (by decide) rfl (by decide) ?_
    refine aw_aload_n dX3_follow_59 rfl ?_
    -- at 60: .invokevirtual 54
    refine aw_Vi0 kc_X3_54 (c_takeAbove (d := d) (l := l) hk hv hvk h1) (by assumption) rfl rfl (by omega) (Nat.le_of_ble_eq_true rfl) dX3_follow_60 (fun v h2 q => ?_)
    obtain ⟨rfl, q2, q3, q4⟩ := q
    exact aw_iret rfl dX3_follow_63 ⟨rfl, _, rfl, rfl, q2, by rw [q3]; exact H.fr (q4 8 (by decide)) (q4 9 (by decide)), fun j j1 _ _ => q4 j j1⟩
  · refine aw_tableIn (tgt := 64) dX3_follow_1 (by decide) (by decide) (by decide) rfl (by decide) ?_
    refine aw_aload_n dX3_follow_64 rfl ?_
    -- at 65: .invokevirtual 58
    refine aw_Vi0 kc_X3_58 (c_takeBelow (d := d) (l := l) hk hv hP hvk h1) (by assumption) rfl rfl (by omega) (Nat.le_of_ble_eq_true rfl) dX3_follow_65 (fun v h2 q => ?_)
    obtain ⟨rfl, q2, q3, q4⟩ := q
    exact aw_iret rfl dX3_follow_68 ⟨rfl, _, rfl, rfl, q2, by rw [q3]; exact H.fr (q4 8 (by decide)) (q4 9 (by decide)), fun j j1 _ _ => q4 j j1⟩
  · refine aw_tableIn (tgt := 69) dX3_follow_1 (by decide) (by decide) (by decide) rfl (by decide) ?_
    refine aw_aload_n dX3_follow_69 rfl ?_
    refine aw_get kg_X3_22 (by assumption) (by rfl) dX3_follow_70 ?_
    refine aw_iconst dX3_follow_73 ?_
    -- at 74: .if_icmp .ne 7
    refine aw_icmp_ne (tgt := 81) dX3_follow_74 (by omega) (by omega) (by decide) (fun c1 => ?_) (fun c1 => ?_)
    · have e : foll tk 3 P Q l = (8, P, Q, l) := by
        have : tk ≠ 59 := fun z => c1 (hn.2.2.2.1.mpr z)
        simp [foll, this]
      refine aw_bipush dX3_follow_81 (by decide) ?_
      -- at 83: .ireturn
      exact aw_iret rfl dX3_follow_83 ⟨rfl, _, rfl, by rw [e]; rfl, by rw [h1, e], by rw [e]; exact H, fun _ _ _ _ => rfl⟩
    · have e : foll tk 3 P Q l = (4, P, Q, l) := by
        have : tk = 59 := hn.2.2.2.1.mp (Decidable.not_not.mp c1)
        simp [foll, this]
      refine aw_iconst dX3_follow_77 ?_
      refine aw_goto (tgt := 83) dX3_follow_78 (by decide) ?_
      -- at 83: .ireturn
      exact aw_iret rfl dX3_follow_83 ⟨rfl, _, rfl, by rw [e]; rfl, by rw [h1, e], by rw [e]; exact H, fun _ _ _ _ => rfl⟩
  · refine aw_tableIn (tgt := 84) dX3_follow_1 (by decide) (by decide) (by decide) rfl (by decide) ?_
    refine aw_aload_n dX3_follow_84 rfl ?_
    refine aw_get kg_X3_22 (by assumption) (by rfl) dX3_follow_85 ?_
    refine aw_iconst dX3_follow_88 ?_
    -- at 89: .if_icmp .ne 7
    refine aw_icmp_ne (tgt := 96) dX3_follow_89 (by omega) (by omega) (by decide) (fun c1 => ?_) (fun c1 => ?_)
    · have e : foll tk 4 P Q l = (8, P, Q, l) := by
        have : tk ≠ 115 := fun z => c1 (hn.2.2.1.mpr z)
        simp [foll, this]
      refine aw_bipush dX3_follow_96 (by decide) ?_
      -- at 98: .ireturn
      exact aw_iret rfl dX3_follow_98 ⟨rfl, _, rfl, by rw [e]; rfl, by rw [h1, e], by rw [e]; exact H, fun _ _ _ _ => rfl⟩
    · have e : foll tk 4 P Q l = (5, P, Q, l) := by
        have : tk = 115 := hn.2.2.1.mp (Decidable.not_not.mp c1)
        simp [foll, this]
      refine aw_iconst dX3_follow_92 ?_
      refine aw_goto (tgt := 98) dX3_follow_93 (by decide) ?_
      -- at 98: .ireturn
      exact aw_iret rfl dX3_follow_98 ⟨rfl, _, rfl, by rw [e]; rfl, by rw [h1, e], by rw [e]; exact H, fun _ _ _ _ => rfl⟩
  · refine aw_tableIn (tgt := 99) dX3_follow_1 (by decide) (by decide) (by decide) rfl (by decide) ?_
    refine aw_aload_n dX3_follow_99 rfl ?_
    -- at 100: .invokevirtual 61
    refine aw_Vi0 kc_X3_61 (c_takeTerm (d := d) hk hv hl hvk h1 H) (by assumption) rfl rfl (by omega) (Nat.le_of_ble_eq_true rfl) dX3_follow_100 (fun v h2 q => ?_)
    rcases q with ⟨q1, rfl, q3, q4⟩ | ⟨q1, rfl, rfl⟩
    · have e : foll tk 5 P Q l = (6, P, Q, l ++ [tk - 1000]) := by
        unfold foll
        rw [if_neg (by omega), if_neg (by omega), if_neg (by omega), if_neg (by omega), if_neg (by omega), if_pos rfl, if_pos q1]
      exact aw_iret rfl dX3_follow_103 ⟨rfl, _, rfl, by rw [e]; rfl, by rw [q4 6 (by decide) (by decide), h1, e], by rw [e]; exact q3, fun j _ j2 j3 => q4 j j2 j3⟩
    · have e : foll tk 5 P Q l = (8, P, Q, l) := by
        unfold foll
        rw [if_neg (by omega), if_neg (by omega), if_neg (by omega), if_neg (by omega), if_neg (by omega), if_pos rfl, if_neg q1]
      exact aw_iret rfl dX3_follow_103 ⟨rfl, _, rfl, by rw [e]; rfl, by rw [h1, e], by rw [e]; exact H, fun _ _ _ _ => rfl⟩
  · refine aw_tableIn (tgt := 104) dX3_follow_1 (by decide) (by decide) (by decide) rfl (by decide) ?_
    refine aw_aload_n dX3_follow_104 rfl ?_
    refine aw_get kg_X3_22 (by assumption) (by rfl) dX3_follow_105 ?_
    refine aw_iconst dX3_follow_108 ?_
    -- at 109: .if_icmp .ne 10
    refine aw_icmp_ne (tgt := 119) dX3_follow_109 (by omega) (by omega) (by decide) (fun c1 => ?_) (fun c1 => ?_)
    · have hne : tk ≠ 59 := fun z => c1 (hn.2.2.2.1.mpr z)
      refine aw_aload_n dX3_follow_119 rfl ?_
      -- at 120: .invokevirtual 61
      refine aw_Vi0 kc_X3_61 (c_takeTerm (d := d) hk hv hl hvk h1 H) (by assumption) rfl rfl (by omega) (Nat.le_of_ble_eq_true rfl) dX3_follow_120 (fun v h2 q => ?_)
      rcases q with ⟨q1, rfl, q3, q4⟩ | ⟨q1, rfl, rfl⟩
      · have e : foll tk 6 P Q l = (6, P, Q, l ++ [tk - 1000]) := by
          unfold foll
          rw [if_neg (by omega), if_neg (by omega), if_neg (by omega), if_neg (by omega), if_neg (by omega), if_neg (by omega), if_pos rfl, if_neg hne, if_pos q1]
        exact aw_iret rfl dX3_follow_123 ⟨rfl, _, rfl, by rw [e]; rfl, by rw [q4 6 (by decide) (by decide), h1, e], by rw [e]; exact q3, fun j _ j2 j3 => q4 j j2 j3⟩
      · have e : foll tk 6 P Q l = (8, P, Q, l) := by
          unfold foll
          rw [if_neg (by omega), if_neg (by omega), if_neg (by omega), if_neg (by omega), if_neg (by omega), if_neg (by omega), if_pos rfl, if_neg hne, if_neg q1]
        exact aw_iret rfl dX3_follow_123 ⟨rfl, _, rfl, by rw [e]; rfl, by rw [h1, e], by rw [e]; exact H, fun _ _ _ _ => rfl⟩
    · have he : tk = 59 := hn.2.2.2.1.mp (Decidable.not_not.mp c1)
      refine aw_aload_n dX3_follow_112 rfl ?_
      -- at 113: .invokevirtual 64
      refine aw_Vi0 kc_X3_64 (c_endSum (d := d) hP hQ hl h1 H) (by assumption) rfl rfl (by omega) (Nat.le_of_ble_eq_true rfl) dX3_follow_113 (fun v h2 q => ?_)
      obtain ⟨rfl, rfl⟩ := q
      refine aw_goto (tgt := 123) dX3_follow_116 (by decide) ?_
      -- at 123: .ireturn
      by_cases w : whS P Q l
      · have e : foll tk 6 P Q l = (7, P, Q, l) := by
          unfold foll
          rw [if_neg (by omega), if_neg (by omega), if_neg (by omega), if_neg (by omega), if_neg (by omega), if_neg (by omega), if_pos rfl, if_pos he, if_pos w]
        exact aw_iret rfl dX3_follow_123 ⟨rfl, _, rfl, by rw [e, if_pos w]; rfl, by rw [h1, e], by rw [e]; exact H, fun _ _ _ _ => rfl⟩
      · have e : foll tk 6 P Q l = (8, P, Q, l) := by
          unfold foll
          rw [if_neg (by omega), if_neg (by omega), if_neg (by omega), if_neg (by omega), if_neg (by omega), if_neg (by omega), if_pos rfl, if_pos he, if_neg w]
        exact aw_iret rfl dX3_follow_123 ⟨rfl, _, rfl, by rw [e, if_neg w]; rfl, by rw [h1, e], by rw [e]; exact H, fun _ _ _ _ => rfl⟩
  · refine aw_tableOut (tgt := 124) dX3_follow_1 (by decide) (by decide) (by decide) ?_
    have e : foll tk 7 P Q l = (8, P, Q, l) := by simp [foll]
    refine aw_bipush dX3_follow_124 (by decide) ?_
    -- at 126: .ireturn
    exact aw_iret rfl dX3_follow_126 ⟨rfl, _, rfl, by rw [e]; rfl, by rw [h1, e], by rw [e]; exact H, fun _ _ _ _ => rfl⟩
theorem read_fin {Z : AZ} {R : Room} {t : List Int} {s : Nat} {tok : Int} (hs : s ≤ 7) (ht : okTx t) (h1 : h 6 = aO 3 (scr (t.length : Int) pl tok sta vl P Q)) (L2 : Option AV) (kk : ∀ (v : Int) (pc : Nat) L, v = finS t s → decode cX3_read pc = .ok (.ireturn, 1) → AW mX3_read R Z 0 0 n h pc L [aI v]) : AW mX3_read R Z 0 0 n h 72 [some (aR 6), some (aI (s : Int)), L2] [] := by
  have ht6 := ht.1
  refine aw_iload_n dX3_read_72 rfl ?_
  -- at 73: .lookupswitch 41 #[(0, 35), (4, 37), (7, 39)]
  by_cases q1 : s = 0
  · subst q1
    refine aw_lookup (tgt := 108) (off := 35) dX3_read_73 (by decide) (by decide) (by decide) (by decide) ?_
    refine aw_iconst dX3_read_108 ?_
    -- at 109: .ireturn
    exact kk 0 109 _ rfl dX3_read_109
  · by_cases q2 : s = 4
    · subst q2
      refine aw_lookup (tgt := 110) (off := 37) dX3_read_73 (by decide) (by decide) (by decide) (by decide) ?_
      refine aw_iconst dX3_read_110 ?_
      -- at 111: .ireturn
      exact kk 1 111 _ rfl dX3_read_111
    · by_cases q3 : s = 7
      · subst q3
        refine aw_lookup (tgt := 112) (off := 39) dX3_read_73 (by decide) (by decide) (by decide) (by decide) ?_
        refine aw_iconst dX3_read_112 ?_
        -- at 113: .ireturn
        exact kk 2 113 _ rfl dX3_read_113
      · have g1 : ¬ ((0 : Int) = (s : Int)) := by omega
        have g2 : ¬ ((4 : Int) = (s : Int)) := by omega
        have g3 : ¬ ((7 : Int) = (s : Int)) := by omega
        refine aw_lookup (tgt := 114) (off := 41) dX3_read_73 (by omega) (by decide) (by show Op.lookupswitch.offset [(0, 35), (4, 37), (7, 39)] 41 (s : Int) = 41; rw [Op.lookupswitch.offset_cons, if_neg g1, Op.lookupswitch.offset_cons, if_neg g2, Op.lookupswitch.offset_cons, if_neg g3]; rfl) (by decide) ?_
        refine aw_bipush dX3_read_114 (by decide) ?_
        refine aw_aload_n dX3_read_116 rfl ?_
        refine aw_get kg_X3_15 (by assumption) (by rfl) dX3_read_117 ?_
        refine aw_isub dX3_read_120 ?_
        -- at 121: .ireturn
        exact kk _ 121 _ (by rw [finS, if_neg q1, if_neg q2, if_neg q3]) dX3_read_121
/-- behind the reader: the result, what was told -/
def rdQ (t : List Int) (T : Int × Int × Int × List Int) (h : AH) (v : Int) (h' : AH) : Prop := v = T.1 ∧ (∃ pl tok sta vl, h' 6 = aO 3 (scr (t.length : Int) pl tok sta vl T.2.1 T.2.2.1)) ∧ isRow h' 8 9 T.2.2.2 ∧ ∀ j, j ≠ 6 → j ≠ 8 → j ≠ 9 → h' j = h j
theorem read_loop {t : List Int} {T : Int × Int × Int × List Int} (H0 : isTx h t) (ht : okTx t) :
    ∀ (m e s ps : Nat) (P Q : Int) (l : List Int) (h1 : AH) (tok sta vl : Int), m + e = 60 → s ≤ 7 → ps ≤ t.length → okSt s P Q l → h1 6 = aO 3 (scr (t.length : Int) (ps : Int) tok sta vl P Q) → isRow h1 8 9 l → (-2147483648 ≤ vl ∧ vl ≤ 2147483647) → (∀ j, j ≠ 6 → j ≠ 8 → j ≠ 9 → h1 j = h j) → runS t m s ps P Q l = T →
      AW mX3_read (am_R (d + 8) 0 0) (am_Z (aqi n fun v h' => rdQ t T h v h') 0 0) 0 0 n h1 26 [some (aR 6), some (aI (s : Int)), some (aI (e : Int))] [] := by
  have ht6 := ht.1
  intro m
  induction m with
  | zero =>
    intro e s ps P Q l h1 tok sta vl he hs hps ok h6 hr hv hfr hT
    refine aw_iload_n dX3_read_26 rfl ?_
    refine aw_bipush dX3_read_27 (by decide) ?_
    -- at 29: .if_icmp .ge 43
    refine aw_icmp_ge (tgt := 72) dX3_read_29 (by omega) (by omega) (by decide) (fun c1 => ?_) (fun c1 => ?_)
    · refine read_fin hs ht h6 _ (fun v pc L hv' hd => ?_)
      exact aw_iret rfl hd ⟨rfl, _, rfl, by rw [hv', ← hT]; rfl, ⟨_, _, _, _, by rw [← hT]; exact h6⟩, by rw [← hT]; exact hr, hfr⟩
    · omega
  | succ m ih =>
    intro e s ps P Q l h1 tok sta vl he hs hps ok h6 hr hv hfr hT
    have htk := tkS_rng ht hps
    have hnx := nxS_le hps
    have hst := stS_le hps
    have hn := knS_iff htk.1
    refine aw_iload_n dX3_read_26 rfl ?_
    refine aw_bipush dX3_read_27 (by decide) ?_
    -- at 29: .if_icmp .ge 43
    refine aw_icmp_ge (tgt := 72) dX3_read_29 (by omega) (by omega) (by decide) (fun c1 => ?_) (fun c1 => ?_)
    · omega
    · refine aw_aload_n dX3_read_32 rfl ?_
      -- at 33: .invokevirtual 47
      refine aw_Vv0 kc_X3_47 (c_readToken (d := d) h6 (H0.fr (hfr 7 (by decide) (by decide) (by decide))) ht hps hv) (by assumption) rfl rfl (by omega) (Nat.le_of_ble_eq_true rfl) dX3_read_33 (fun h2 q => ?_)
      obtain ⟨⟨vl', b2, bv, hvr⟩, f2⟩ := q
      have hr2 := hr.fr (f2 8 (by decide)) (f2 9 (by decide))
      have hfr2 : ∀ j, j ≠ 6 → j ≠ 8 → j ≠ 9 → h2 j = h j := fun j j1 j2 j3 => (f2 j j1).trans (hfr j j1 j2 j3)
      refine aw_aload_n dX3_read_36 rfl ?_
      refine aw_get kg_X3_22 (by assumption) (by rfl) dX3_read_37 ?_
      -- at 40: .ifCond .ne 6
      rw [runS] at hT
      refine aw_if_ne (tgt := 46) dX3_read_40 (by omega) (by decide) (fun c2 => ?_) (fun c2 => ?_)
      · have hne : tkS t ps ≠ -1 := fun z => c2 (hn.1.mpr z)
        rw [if_neg hne] at hT
        refine aw_aload_n dX3_read_46 rfl ?_
        refine aw_iload_n dX3_read_47 rfl ?_
        -- at 48: .invokevirtual 50
        refine aw_Vi1 kc_X3_50 (c_follow (d := d) hs (by omega) hvr ok bv b2 hr2) (by assumption) rfl rfl (by omega) (Nat.le_of_ble_eq_true rfl) dX3_read_48 (fun v h3 q => ?_)
        obtain ⟨rfl, q2, q3, q4⟩ := q
        have hfr3 : ∀ j, j ≠ 6 → j ≠ 8 → j ≠ 9 → h3 j = h j := fun j j1 j2 j3 => (q4 j j1 j2 j3).trans (hfr2 j j1 j2 j3)
        have hf8 : (foll (tkS t ps) s P Q l).1 ≤ 8 := by
          by_cases z : (foll (tkS t ps) s P Q l).1 = 8
          · omega
          · have := (foll_ok ok z).2; omega
        refine aw_istore_n dX3_read_51 (by decide) ?_
        refine aw_iload_n dX3_read_52 rfl ?_
        refine aw_bipush dX3_read_53 (by decide) ?_
        -- at 55: .if_icmp .ne 11
        refine aw_icmp_ne (tgt := 66) dX3_read_55 (by omega) (by omega) (by decide) (fun c3 => ?_) (fun c3 => ?_)
        · rw [if_neg (by omega)] at hT
          have fo := foll_ok (tk := tkS t ps) ok (by omega)
          refine aw_iinc dX3_read_66 rfl (by decide) ?_
          refine aw_goto (tgt := 26) dX3_read_69 (by decide) ?_
          have K := ih (e + 1) _ _ _ _ _ h3 _ _ _ (by omega) fo.2 hnx.2 fo.1 q2 q3 hvr hfr3 hT
          rw [show ((e + 1 : Nat) : Int) = (e : Int) + 1 by omega] at K
          exact K
        · rw [if_pos (by omega)] at hT
          refine aw_bipush dX3_read_58 (by decide) ?_
          refine aw_aload_n dX3_read_60 rfl ?_
          refine aw_get kg_X3_25 (by assumption) (by rfl) dX3_read_61 ?_
          refine aw_isub dX3_read_64 ?_
          -- at 65: .ireturn
          exact aw_iret rfl dX3_read_65 ⟨rfl, _, rfl, by rw [← hT], ⟨_, _, _, _, by rw [← hT]; exact q2⟩, by rw [← hT]; exact q3, hfr3⟩
      · have he1 : tkS t ps = -1 := hn.1.mp (Decidable.not_not.mp c2)
        rw [if_pos he1] at hT
        refine aw_goto (tgt := 72) dX3_read_43 (by decide) ?_
        refine read_fin hs ht b2 _ (fun v pc L hv' hd => ?_)
        exact aw_iret rfl hd ⟨rfl, _, rfl, by rw [hv', ← hT], ⟨_, _, _, _, by rw [← hT]; exact b2⟩, by rw [← hT]; exact hr2, hfr2⟩
theorem c_read {t : List Int} {tok : Int} {l0 : List Int} (h1 : h 6 = aO 3 (scr (t.length : Int) pl tok sta vl P Q)) (H : isTx h t) (ht : okTx t) (H8 : isRow h 8 9 l0) (hv : -2147483648 ≤ vl ∧ vl ≤ 2147483647) : AC mX3_read (d + 8) 0 0 n h [aR 6] (aqi n fun v h' => rdQ t (telS t) h v h') := by
  refine AC.of (by decide) (Nat.le_of_ble_eq_true rfl) ?_
  refine aw_aload_n dX3_read_0 rfl ?_
  refine aw_iconst dX3_read_1 ?_
  -- at 2: .putfield 19
  refine aw_putO kp_X3_19 (by assumption) (by simp) (aw_ni _) dX3_read_2 (fun h2 b2 f2 => ?_)
  have b2 : h2 6 = aO 3 (scr (t.length : Int) 0 tok sta vl P Q) := b2
  refine aw_aload_n dX3_read_5 rfl ?_
  refine aw_iconst dX3_read_6 ?_
  -- at 7: .putfield 31
  refine aw_putO kp_X3_31 (by assumption) (by simp) (aw_ni _) dX3_read_7 (fun h3 b3 f3 => ?_)
  have b3 : h3 6 = aO 3 (scr (t.length : Int) 0 tok sta vl 2 Q) := b3
  refine aw_aload_n dX3_read_10 rfl ?_
  refine aw_iconst dX3_read_11 ?_
  -- at 12: .putfield 34
  refine aw_putO kp_X3_34 (by assumption) (by simp) (aw_ni _) dX3_read_12 (fun h4 b4 f4 => ?_)
  have b4 : h4 6 = aO 3 (scr (t.length : Int) 0 tok sta vl 2 3) := b4
  have f4' : ∀ j, j ≠ 6 → h4 j = h j := fun j hj => ((f4 j hj).trans (f3 j hj)).trans (f2 j hj)
  have r4 := H8.fr (f4' 8 (by decide)) (f4' 9 (by decide))
  have r41 := r4.1
  refine aw_aload_n dX3_read_15 rfl ?_
  refine aw_get kg_X3_40 (by assumption) (by rfl) dX3_read_16 ?_
  -- at 19: .invokevirtual 44
  refine aw_Vv0 kc_X3_44 (c_Row_wipe (d := d) r4) (by assumption) rfl rfl (by omega) (Nat.le_of_ble_eq_true rfl) dX3_read_19 (fun h5 q => ?_)
  have b5 := (q.2 6 (by decide) (by decide)).trans b4
  refine aw_iconst dX3_read_22 ?_
  refine aw_istore_n dX3_read_23 (by decide) ?_
  refine aw_iconst dX3_read_24 ?_
  refine aw_istore_n dX3_read_25 (by decide) ?_
  exact read_loop (d := d) (h := h) H ht 60 0 0 0 2 3 [] h5 _ _ _ rfl (by omega) (by omega) ⟨by omega, by omega, ⟨by simp, fun i hi => absurd hi (by simp)⟩, fun i j _ hj => absurd hj (by simp), fun _ => by omega⟩ b5 q.1 hv (fun j j1 j2 j3 => (q.2 j j2 j3).trans (f4' j j1)) rfl
end Read
theorem runS_ok {t : List Int} : ∀ (m s ps : Nat) (P Q : Int) (l : List Int), s ≤ 7 → okSt s P Q l → 0 ≤ (runS t m s ps P Q l).1 → okSt 7 (runS t m s ps P Q l).2.1 (runS t m s ps P Q l).2.2.1 (runS t m s ps P Q l).2.2.2
  | 0, s, ps, P, Q, l, hs, ok, hq => by
    unfold runS at hq ⊢
    obtain ⟨h1, h2, h3, h4, h5⟩ := ok
    have : s ≠ 2 := by
      rintro rfl
      simp [finS] at hq
      omega
    exact ⟨h1, h2, h3, h4, fun _ => h5 this⟩
  | m + 1, s, ps, P, Q, l, hs, ok, hq => by
    unfold runS at hq ⊢
    by_cases q1 : tkS t ps = -1
    · rw [if_pos q1] at hq ⊢
      obtain ⟨h1, h2, h3, h4, h5⟩ := ok
      have : s ≠ 2 := by
        rintro rfl
        simp [finS] at hq
        omega
      exact ⟨h1, h2, h3, h4, fun _ => h5 this⟩
    · rw [if_neg q1] at hq ⊢
      by_cases q2 : (foll (tkS t ps) s P Q l).1 = 8
      · rw [if_pos q2] at hq
        exfalso
        have : (0 : Int) ≤ -10 - (stS t ps : Int) := hq
        omega
      · rw [if_neg q2] at hq ⊢
        have fo := foll_ok ok q2
        exact runS_ok m _ _ _ _ _ fo.2 fo.1 hq
theorem telS_ok {t : List Int} (h : 0 ≤ (telS t).1) : okSt 7 (telS t).2.1 (telS t).2.2.1 (telS t).2.2.2 := runS_ok 60 0 0 2 3 [] (by omega) ⟨by omega, by omega, ⟨by simp, fun i hi => absurd hi (by simp)⟩, fun i j _ hj => absurd hj (by simp), fun _ => by omega⟩ h
end
section
/-! the reference's reader -/
theorem tk_end {t : List Int} (ht : okTx t) {ps : Nat} (hp : ps ≤ t.length) (h : tkS t ps = -1) : stS t ps = t.length := by
  have h1 := stS_le hp
  unfold tkS at h
  by_cases q : t.length ≤ stS t ps
  · omega
  · rw [if_neg q] at h
    by_cases q2 : 48 ≤ t.getD (stS t ps) 0 ∧ t.getD (stS t ps) 0 ≤ 57
    · rw [if_pos q2] at h
      have := vS_rng ht hp (by omega) q2
      omega
    · rw [if_neg q2] at h
      have := ht.2 (stS t ps) (by omega)
      omega
theorem runS_bad {t : List Int} (ht : okTx t) {ps s f : Nat} {P Q : Int} {l : List Int} (hp : ps ≤ t.length) (h : (tkS t ps = -1 ∧ s ≠ 0 ∧ s ≠ 4 ∧ s ≠ 7) ∨ (tkS t ps ≠ -1 ∧ (foll (tkS t ps) s P Q l).1 = 8)) : (runS t (f + 1) s ps P Q l).1 = -10 - (stS t ps : Int) := by
  rw [runS]
  rcases h with ⟨h1, h2, h3, h4⟩ | ⟨h1, h2⟩
  · rw [if_pos h1, finS, if_neg h2, if_neg h3, if_neg h4, tk_end ht hp h1]
  · rw [if_neg h1, if_pos h2]
theorem runS_go {t : List Int} {ps s f s' : Nat} {P Q P' Q' : Int} {l l' : List Int} (h1 : tkS t ps ≠ -1) (h2 : foll (tkS t ps) s P Q l = (s', P', Q', l')) (h3 : s' ≠ 8) : runS t (f + 1) s ps P Q l = runS t f s' (nxS t ps) P' Q' l' := by
  rw [runS, if_neg h1, h2, if_neg h3]
theorem foll5 {tk P Q : Int} {l : List Int} {s : Nat} (hs : s = 5 ∨ (s = 6 ∧ tk ≠ 59)) : foll tk s P Q l = if trmOK tk l then (6, P, Q, l ++ [tk - 1000]) else (8, P, Q, l) := by
  rcases hs with rfl | ⟨rfl, h⟩
  · unfold foll
    rw [if_neg (by omega), if_neg (by omega), if_neg (by omega), if_neg (by omega), if_neg (by omega), if_pos rfl]
  · unfold foll
    rw [if_neg (by omega), if_neg (by omega), if_neg (by omega), if_neg (by omega), if_neg (by omega), if_neg (by omega), if_pos rfl, if_neg h]
theorem foll6 {P Q : Int} {l : List Int} : foll 59 6 P Q l = if whS P Q l then (7, P, Q, l) else (8, P, Q, l) := by
  unfold foll
  rw [if_neg (by omega), if_neg (by omega), if_neg (by omega), if_neg (by omega), if_neg (by omega), if_neg (by omega), if_pos rfl, if_pos rfl]
def isNT (h : AH) (l : List Int) : Prop := ∃ f, h 59 = aA 0 8 f ∧ ∀ i, i < l.length → f i = l.getD i 0
section Reads
variable {d n : Nat} {h : AH} {t l : List Int} {u p q sn it P Q nm tp : Int}
/-- the current token is the one at ps -/
abbrev cur (t : List Int) (u p q sn it P Q nm tp : Int) (ps : Nat) : List AV := mdl u p q sn (t.length : Int) (nxS t ps : Int) (stS t ps : Int) (tkS t ps) it P Q nm tp
theorem c6_isNumber {tk a b lt e1 e2 : Int} (ha : 0 ≤ a ∧ a ≤ 100) (hb : 0 ≤ b ∧ b ≤ 100) (hk : -1 ≤ tk ∧ tk ≤ 2000) (h1 : h 52 = aO 6 (mdl u p q sn lt e1 e2 tk it P Q nm tp)) : AC mX6_isNumber (d + 1) 0 0 n h [aR 52, aI a, aI b] (aqi n fun v h' => v = (if 1000 + a ≤ tk ∧ tk ≤ 1000 + b then 1 else 0) ∧ h' = h) := by
  refine AC.of (by decide) (Nat.le_of_ble_eq_true rfl) ?_
  refine aw_aload_n dX6_isNumber_0 rfl ?_
  refine aw_get kg_X6_79 (by assumption) (by rfl) dX6_isNumber_1 ?_
  refine aw_i2l dX6_isNumber_4 (by omega) ?_
  refine aw_sipush dX6_isNumber_5 (by decide) ?_
  refine aw_iload_n dX6_isNumber_8 rfl ?_
  refine aw_iadd dX6_isNumber_9 ?_
  refine aw_i2l dX6_isNumber_10 (by omega) ?_
  refine aw_sipush dX6_isNumber_11 (by decide) ?_
  refine aw_iload_n dX6_isNumber_14 rfl ?_
  refine aw_iadd dX6_isNumber_15 ?_
  refine aw_i2l dX6_isNumber_16 (by omega) ?_
  -- at 17: .invokestatic 66
  refine aw_Si3 kc_X6_66 (c_in (d := d) (by omega) (by omega) (by omega)) rfl (by omega) (Nat.le_of_ble_eq_true rfl) dX6_isNumber_17 (fun v h' q => ?_)
  obtain ⟨rfl, rfl⟩ := q
  exact aw_zret rfl dX6_isNumber_20 (by split <;> simp) ⟨rfl, _, rfl, rfl, rfl⟩
theorem c6_readsEnd {ps : Nat} (h1 : h 52 = aO 6 (cur t u p q sn it P Q nm tp ps)) (H : isTy h t) (ht : okTx t) (hps : ps ≤ t.length) : AC mX6_readsEnd (d + 4) 0 0 n h [aR 52] (aqi n fun v h' => (tkS t ps = 59 ∧ v = 1 ∧ h' 52 = aO 6 (cur t u p q sn (it + 1) P Q nm tp (nxS t ps)) ∧ ∀ j, j ≠ 52 → h' j = h j) ∨ (tkS t ps ≠ 59 ∧ v = 0 ∧ h' = h)) := by
  refine AC.of (by decide) (Nat.le_of_ble_eq_true rfl) ?_
  have htk := tkS_rng ht hps
  have hnx := nxS_le hps
  refine aw_aload_n dX6_readsEnd_0 rfl ?_
  refine aw_get kg_X6_79 (by assumption) (by rfl) dX6_readsEnd_1 ?_
  refine aw_bipush dX6_readsEnd_4 (by decide) ?_
  -- at 6: .if_icmp .ne 7
  refine aw_icmp_ne (tgt := 13) dX6_readsEnd_6 (by omega) (by omega) (by decide) (fun c1 => ?_) (fun c1 => ?_)
  · refine aw_iconst dX6_readsEnd_13 ?_
    refine aw_istore_n dX6_readsEnd_14 (by decide) ?_
    refine aw_iload_n dX6_readsEnd_15 rfl ?_
    -- at 16: .ifCond .eq 17
    refine aw_if_eq (tgt := 33) dX6_readsEnd_16 (by omega) (by decide) (fun c2 => ?_) (fun c2 => ?_)
    · refine aw_iload_n dX6_readsEnd_33 rfl ?_
      -- at 34: .ireturn
      exact aw_zret rfl dX6_readsEnd_34 (by omega) ⟨rfl, _, rfl, Or.inr ⟨c1, rfl, rfl⟩⟩
    · omega
  · refine aw_iconst dX6_readsEnd_9 ?_
    refine aw_goto (tgt := 14) dX6_readsEnd_10 (by decide) ?_
    refine aw_istore_n dX6_readsEnd_14 (by decide) ?_
    refine aw_iload_n dX6_readsEnd_15 rfl ?_
    -- at 16: .ifCond .eq 17
    refine aw_if_eq (tgt := 33) dX6_readsEnd_16 (by omega) (by decide) (fun c2 => ?_) (fun c2 => ?_)
    · omega
    · refine aw_aload_n dX6_readsEnd_19 rfl ?_
      -- at 20: .invokevirtual 86
      refine aw_Vv0 kc_X6_86 (c6_take (d := d) h1 H ht hnx.2) (by assumption) rfl rfl (by omega) (Nat.le_of_ble_eq_true rfl) dX6_readsEnd_20 (fun h2 q => ?_)
      have q1 := q.1
      refine aw_aload_n dX6_readsEnd_23 rfl ?_
      refine aw_dup dX6_readsEnd_24 rfl ?_
      refine aw_get kg_X6_89 (by assumption) (by rfl) dX6_readsEnd_25 ?_
      refine aw_iconst dX6_readsEnd_28 ?_
      refine aw_iadd dX6_readsEnd_29 ?_
      -- at 30: .putfield 89
      refine aw_putO kp_X6_89 (by assumption) (by simp) (aw_ni _) dX6_readsEnd_30 (fun h3 b3 f3 => ?_)
      refine aw_iload_n dX6_readsEnd_33 rfl ?_
      -- at 34: .ireturn
      exact aw_zret rfl dX6_readsEnd_34 (by omega) ⟨rfl, _, rfl, Or.inl ⟨by omega, rfl, b3, fun j hj => (f3 j hj).trans (q.2 j hj)⟩⟩
theorem wh_step (P Q A B x : Int) : (P * B - Q * A) * x - Q * B = P * (B * x) - Q * (A * x + B) := by
  rw [Int.sub_mul, Int.mul_add, Int.mul_assoc, Int.mul_assoc]
  omega
theorem wh_loop {Z : AZ} {R : Room} {lt e1 e2 tk : Int} (h1 : h 52 = aO 6 (mdl u p q sn lt e1 e2 tk it P Q (l.length : Int) tp)) (H : isNT h l) (hl : le60 l) (hP : 1 ≤ P ∧ P ≤ 99) (hQ : 1 ≤ Q ∧ Q ≤ 99)
    (kk : ∀ L, lk L 1 = some (aL (P * (AB l l.length).2 - Q * (AB l l.length).1)) → AW mX6_isWhole R Z 0 0 n h 54 L []) :
    ∀ (m e : Nat), m + e = l.length → AW mX6_isWhole R Z 0 0 n h 15 [some (aR 52), some (aL (P * (AB l e).2 - Q * (AB l e).1)), none, some (aL (Q * (AB l e).2)), none, some (aI (e : Int))] [] := by
  obtain ⟨f, h2, h3⟩ := H
  have hl8 := hl.1
  intro m
  induction m with
  | zero =>
    intro e he
    have : e = l.length := by omega
    refine aw_iload dX6_isWhole_15 rfl ?_
    refine aw_aload_n dX6_isWhole_17 rfl ?_
    refine aw_get kg_X6_106 (by assumption) (by rfl) dX6_isWhole_18 ?_
    -- at 21: .if_icmp .ge 33
    refine aw_icmp_ge (tgt := 54) dX6_isWhole_21 (by omega) (by omega) (by decide) (fun c1 => ?_) (fun c1 => ?_)
    · exact kk _ (by rw [← this]; rfl)
    · omega
  | succ m ih =>
    intro e he
    have hx := hl.2 e (by omega)
    have K := ih (e + 1) (by omega)
    rw [show ((e + 1 : Nat) : Int) = (e : Int) + 1 by omega] at K
    simp only [AB] at K
    rw [← wh_step, ← Int.mul_assoc] at K
    refine aw_iload dX6_isWhole_15 rfl ?_
    refine aw_aload_n dX6_isWhole_17 rfl ?_
    refine aw_get kg_X6_106 (by assumption) (by rfl) dX6_isWhole_18 ?_
    -- at 21: .if_icmp .ge 33
    refine aw_icmp_ge (tgt := 54) dX6_isWhole_21 (by omega) (by omega) (by decide) (fun c1 => ?_) (fun c1 => ?_)
    · omega
    · refine aw_lload_n dX6_isWhole_24 rfl ?_
      refine aw_aload_n dX6_isWhole_25 rfl ?_
      refine aw_get kg_X6_36 (by assumption) (by rfl) dX6_isWhole_26 ?_
      refine aw_iload dX6_isWhole_29 rfl ?_
      refine aw_iald (by assumption) (by omega) dX6_isWhole_31 ?_
      refine aw_val (w := aI (l.getD e 0)) (by rw [Int.toNat_natCast, h3 e (by omega)]) ?_
      refine aw_i2l dX6_isWhole_32 (by omega) ?_
      refine aw_lmul dX6_isWhole_33 ?_
      refine aw_lload_n dX6_isWhole_34 rfl ?_
      refine aw_lsub dX6_isWhole_35 ?_
      refine aw_lstore_n dX6_isWhole_36 (by decide) ?_
      refine aw_lload_n dX6_isWhole_37 rfl ?_
      refine aw_aload_n dX6_isWhole_38 rfl ?_
      refine aw_get kg_X6_36 (by assumption) (by rfl) dX6_isWhole_39 ?_
      refine aw_iload dX6_isWhole_42 rfl ?_
      refine aw_iald (by assumption) (by omega) dX6_isWhole_44 ?_
      refine aw_val (w := aI (l.getD e 0)) (by rw [Int.toNat_natCast, h3 e (by omega)]) ?_
      refine aw_i2l dX6_isWhole_45 (by omega) ?_
      refine aw_lmul dX6_isWhole_46 ?_
      refine aw_lstore_n dX6_isWhole_47 (by decide) ?_
      refine aw_iinc dX6_isWhole_48 rfl (by decide) ?_
      refine aw_goto (tgt := 15) dX6_isWhole_51 (by decide) ?_
      exact K
theorem c6_isWhole {lt e1 e2 tk : Int} (h1 : h 52 = aO 6 (mdl u p q sn lt e1 e2 tk it P Q (l.length : Int) tp)) (H : isNT h l) (hl : le60 l) (hP : 1 ≤ P ∧ P ≤ 99) (hQ : 1 ≤ Q ∧ Q ≤ 99) : AC mX6_isWhole d 0 0 n h [aR 52] (aqi n fun v h' => v = (if whS P Q l then 1 else 0) ∧ h' = h) := by
  refine AC.of (by decide) (Nat.le_of_ble_eq_true rfl) ?_
  obtain ⟨hA, hB⟩ := AB_num hl (Nat.le_refl _)
  have m1 : Q * (AB l l.length).1 ≤ 99 * 1343692800000000 := Int.mul_le_mul hQ.2 hA.2 hA.1 (by omega)
  have m2 : P * (AB l l.length).2 ≤ 99 * 167961600000000 := Int.mul_le_mul hP.2 hB.2 (by omega) (by omega)
  have m3 : 0 ≤ Q * (AB l l.length).1 := Int.mul_nonneg (by omega) hA.1
  have m4 : 0 ≤ P * (AB l l.length).2 := Int.mul_nonneg (by omega) (by omega)
  refine aw_aload_n dX6_isWhole_0 rfl ?_
  refine aw_get kg_X6_96 (by assumption) (by rfl) dX6_isWhole_1 ?_
  refine aw_i2l dX6_isWhole_4 (by omega) ?_
  refine aw_lstore_n dX6_isWhole_5 (by decide) ?_
  refine aw_aload_n dX6_isWhole_6 rfl ?_
  refine aw_get kg_X6_99 (by assumption) (by rfl) dX6_isWhole_7 ?_
  refine aw_i2l dX6_isWhole_10 (by omega) ?_
  refine aw_lstore_n dX6_isWhole_11 (by decide) ?_
  refine aw_iconst dX6_isWhole_12 ?_
  refine aw_istore dX6_isWhole_13 (by decide) ?_
  have K := wh_loop (n := n) (R := am_R d 0 0) (Z := am_Z (aqi n fun v h' => v = (if whS P Q l then 1 else 0) ∧ h' = h) 0 0) h1 H hl hP hQ (fun L hL => by
    refine aw_lload_n dX6_isWhole_54 hL ?_
    refine aw_lconst (a := 0) dX6_isWhole_55 (by decide) ?_
    -- at 56: .lcmp
    refine aw_lcmp_ne (tgt := 64) dX6_isWhole_56 dX6_isWhole_57 (by omega) (by omega) (by decide) (fun c1 => ?_) (fun c1 => ?_)
    · refine aw_iconst dX6_isWhole_64 ?_
      -- at 65: .ireturn
      exact aw_zret rfl dX6_isWhole_65 (by omega) ⟨rfl, _, rfl, by rw [if_neg (fun z => c1 (by rw [whS, Int.mul_comm, Int.mul_comm _ P] at z; omega))], rfl⟩
    · refine aw_iconst dX6_isWhole_60 ?_
      refine aw_goto (tgt := 65) dX6_isWhole_61 (by decide) ?_
      -- at 65: .ireturn
      exact aw_zret rfl dX6_isWhole_65 (by omega) ⟨rfl, _, rfl, by rw [if_pos (by rw [whS, Int.mul_comm, Int.mul_comm _ P]; omega)], rfl⟩) l.length 0 (by omega)
  have e1 : P * (AB l 0).2 - Q * (AB l 0).1 = P := by simp [AB]
  have e2 : Q * (AB l 0).2 = Q := by simp [AB]
  rw [e1, e2] at K
  exact K
/-- behind a reader of the reference: where it stands, and what the spec says of it -/
def rsQ (t : List Int) (T : Int × Int × Int × List Int) (u p q sn tp : Int) (it' : Int) (s' : Nat) (h h' : AH) (v : Int) : Prop :=
  (v = 1 ∧ ∃ (ps' f' : Nat) (P' Q' : Int) (l' : List Int), ps' ≤ t.length ∧ 13 ≤ f' + (if s' = 7 then 13 else 0) ∧ 1 ≤ f' ∧ T = runS t f' s' ps' P' Q' l' ∧ okSt s' P' Q' l' ∧ (s' = 4 → l' = []) ∧ h' 52 = aO 6 (cur t u p q sn it' P' Q' (l'.length : Int) tp ps') ∧ isNT h' l' ∧ ∀ j, j ≠ 52 → j ≠ 59 → h' j = h j) ∨
  (v = 0 ∧ ∃ (ps' : Nat) (it'' P' Q' nm' : Int), ps' ≤ t.length ∧ T.1 = -10 - (stS t ps' : Int) ∧ h' 52 = aO 6 (cur t u p q sn it'' P' Q' nm' tp ps') ∧ (∃ f, h' 59 = aA 0 8 f) ∧ ∀ j, j ≠ 52 → j ≠ 59 → h' j = h j)
theorem sum_loop {T : Int × Int × Int × List Int} (H : isTy h t) (ht : okTx t) :
    ∀ (m : Nat) (l : List Int) (s f ps : Nat) (h1 : AH), m + l.length = 9 → (s = 5 ∧ l.length = 0 ∨ s = 6 ∧ 0 < l.length) → m + 3 ≤ f → ps ≤ t.length → okSt s P Q l → h1 52 = aO 6 (cur t u p q sn it P Q (l.length : Int) tp ps) → isNT h1 l → (∀ j, j ≠ 52 → j ≠ 59 → h1 j = h j) → runS t f s ps P Q l = T →
      AW mX6_readsSum (am_R (d + 6) 0 0) (am_Z (aqi n fun v h' => rsQ t T u p q sn tp (it + 1) 7 h h' v) 0 0) 0 0 n h1 4 [some (aR 52)] [] := by
  intro m
  induction m with
  | zero => intro l s f ps h1 hm _ _ _ ok; have := ok.2.2.1.1; omega
  | succ m ih =>
    intro l s f ps h1 hm hs hf hps ok h52 hnt hfr hT
    obtain ⟨hP, hQ, hl, hri, hPQ⟩ := id ok
    have hl8 := hl.1
    have htk := tkS_rng ht hps
    have hnx := nxS_le hps
    have hty := H.fr (h' := h1) (hfr 58 (by decide) (by decide))
    obtain ⟨g, hg, hgi⟩ := id hnt
    obtain ⟨f, rfl⟩ : ∃ k, f = k + 1 := ⟨f - 1, by omega⟩
    have bad : (tkS t ps = -1 ∨ (tkS t ps ≠ -1 ∧ (foll (tkS t ps) s P Q l).1 = 8)) → ∀ L pc, decode cX6_readsSum pc = .ok (.ireturn, 1) → AW mX6_readsSum (am_R (d + 6) 0 0) (am_Z (aqi n fun v h' => rsQ t T u p q sn tp (it + 1) 7 h h' v) 0 0) 0 0 n h1 pc L [aI 0] := by
      intro hb L pc hd
      refine aw_zret rfl hd (by omega) ⟨rfl, _, rfl, Or.inr ⟨rfl, ps, _, _, _, _, hps, ?_, h52, ⟨g, hg⟩, hfr⟩⟩
      rw [← hT]
      exact runS_bad ht hps (hb.imp (fun z => ⟨z, by omega, by omega, by omega⟩) id)
    refine aw_aload_n dX6_readsSum_4 rfl ?_
    refine aw_iconst dX6_readsSum_5 ?_
    refine aw_bipush dX6_readsSum_6 (by decide) ?_
    -- at 8: .invokevirtual 92
    refine aw_Vi2 kc_X6_92 (c6_isNumber (d := d) (by decide) (by decide) ⟨htk.1, htk.2.1⟩ h52) (by assumption) rfl rfl (by omega) (Nat.le_of_ble_eq_true rfl) dX6_readsSum_8 (fun v h' q => ?_)
    obtain ⟨rfl, rfl⟩ := q
    refine aw_flag_eq (tgt := 88) dX6_readsSum_11 (by decide) (fun c1 => ?_) (fun c1 => ?_)
    · -- no number of this kind
      have nt : ¬ trmOK (tkS t ps) l := fun z => c1 (by have := z.1; omega)
      refine aw_aload_n dX6_readsSum_88 rfl ?_
      refine aw_get kg_X6_106 (by assumption) (by rfl) dX6_readsSum_89 ?_
      -- at 92: .ifCond .le 30
      refine aw_if_le (tgt := 122) dX6_readsSum_92 (by omega) (by decide) (fun c2 => ?_) (fun c2 => ?_)
      · refine aw_iconst dX6_readsSum_122 ?_
        -- at 123: .ireturn
        refine bad ?_ _ _ dX6_readsSum_123
        by_cases z : tkS t ps = -1
        · exact Or.inl z
        · exact Or.inr ⟨z, by rw [foll5 (by omega), if_neg nt]⟩
      · have hs6 : s = 6 := by omega
        subst hs6
        refine aw_aload_n dX6_readsSum_95 rfl ?_
        refine aw_get kg_X6_79 (by assumption) (by rfl) dX6_readsSum_96 ?_
        refine aw_bipush dX6_readsSum_99 (by decide) ?_
        -- at 101: .if_icmp .ne 10
        refine aw_icmp_ne (tgt := 111) dX6_readsSum_101 (by omega) (by omega) (by decide) (fun c3 => ?_) (fun c3 => ?_)
        · refine aw_aload_n dX6_readsSum_111 rfl ?_
          -- at 112: .invokevirtual 102
          refine aw_Vi0 kc_X6_102 (c6_readsEnd (d := d) h52 hty ht hps) (by assumption) rfl rfl (by omega) (Nat.le_of_ble_eq_true rfl) dX6_readsSum_112 (fun v h2 q => ?_)
          rcases q with ⟨q1, -⟩ | ⟨q1, rfl, rfl⟩
          · exact absurd q1 c3
          · refine aw_if_eq (tgt := 122) dX6_readsSum_115 (by omega) (by decide) (fun c4 => ?_) (fun c4 => ?_)
            · refine aw_iconst dX6_readsSum_122 ?_
              -- at 123: .ireturn
              refine bad ?_ _ _ dX6_readsSum_123
              by_cases z : tkS t ps = -1
              · exact Or.inl z
              · exact Or.inr ⟨z, by rw [foll5 (Or.inr ⟨rfl, c3⟩), if_neg nt]⟩
            · omega
        · have e59 : tkS t ps = 59 := by omega
          refine aw_aload_n dX6_readsSum_104 rfl ?_
          -- at 105: .invokevirtual 109
          refine aw_Vi0 kc_X6_109 (c6_isWhole (d := d) h52 hnt hl hP hQ) (by assumption) rfl rfl (by omega) (Nat.le_of_ble_eq_true rfl) dX6_readsSum_105 (fun v h2 q => ?_)
          obtain ⟨rfl, rfl⟩ := q
          refine aw_flag_eq (tgt := 122) dX6_readsSum_108 (by decide) (fun c4 => ?_) (fun c4 => ?_)
          · refine aw_iconst dX6_readsSum_122 ?_
            -- at 123: .ireturn
            exact bad (Or.inr ⟨by omega, by rw [e59, foll6, if_neg c4]⟩) _ _ dX6_readsSum_123
          · refine aw_aload_n dX6_readsSum_111 rfl ?_
            -- at 112: .invokevirtual 102
            refine aw_Vi0 kc_X6_102 (c6_readsEnd (d := d) h52 hty ht hps) (by assumption) rfl rfl (by omega) (Nat.le_of_ble_eq_true rfl) dX6_readsSum_112 (fun v h3 q => ?_)
            rcases q with ⟨q1, rfl, q3, q4⟩ | ⟨q1, -⟩
            · refine aw_if_eq (tgt := 122) dX6_readsSum_115 (by omega) (by decide) (fun c5 => ?_) (fun c5 => ?_)
              · omega
              · refine aw_iconst dX6_readsSum_118 ?_
                refine aw_goto (tgt := 123) dX6_readsSum_119 (by decide) ?_
                -- at 123: .ireturn
                refine aw_zret rfl dX6_readsSum_123 (by omega) ⟨rfl, _, rfl, Or.inl ⟨rfl, nxS t ps, f, P, Q, l, hnx.2, by simp, by omega, ?_, ⟨hP, hQ, hl, hri, fun _ => hPQ (by omega)⟩, by omega, q3, ⟨g, (q4 59 (by decide)).trans hg, hgi⟩, fun j j1 j2 => (q4 j j1).trans (hfr j j1 j2)⟩⟩
                rw [← hT]
                exact runS_go (by omega) (by rw [e59, foll6, if_pos c4]) (by omega)
            · exact absurd e59 q1
    · refine aw_aload_n dX6_readsSum_14 rfl ?_
      refine aw_get kg_X6_106 (by assumption) (by rfl) dX6_readsSum_15 ?_
      refine aw_bipush dX6_readsSum_18 (by decide) ?_
      -- at 20: .if_icmp .eq 32
      refine aw_icmp_eq (tgt := 52) dX6_readsSum_20 (by omega) (by omega) (by decide) (fun c2 => ?_) (fun c2 => ?_)
      · refine aw_iconst dX6_readsSum_52 ?_
        -- at 53: .ireturn
        refine bad (Or.inr ⟨by omega, ?_⟩) _ _ dX6_readsSum_53
        rw [foll5 (by omega), if_neg (fun z => by have := z.2.2; omega)]
      · have go54 : lastv l < tkS t ps - 1000 → AW mX6_readsSum (am_R (d + 6) 0 0) (am_Z (aqi n fun v h' => rsQ t T u p q sn tp (it + 1) 7 h h' v) 0 0) 0 0 n h' 54 [some (aR 52)] [] := by
          intro hlast
          have tok : trmOK (tkS t ps) l := ⟨by omega, hlast, by omega⟩
          refine aw_aload_n dX6_readsSum_54 rfl ?_
          refine aw_get kg_X6_36 (by assumption) (by rfl) dX6_readsSum_55 ?_
          refine aw_aload_n dX6_readsSum_58 rfl ?_
          refine aw_get kg_X6_106 (by assumption) (by rfl) dX6_readsSum_59 ?_
          refine aw_aload_n dX6_readsSum_62 rfl ?_
          refine aw_get kg_X6_79 (by assumption) (by rfl) dX6_readsSum_63 ?_
          refine aw_sipush dX6_readsSum_66 (by decide) ?_
          refine aw_isub dX6_readsSum_69 ?_
          -- at 70: .iastore
          refine aw_iastO (by assumption) (by omega) dX6_readsSum_70 (fun h2 b2 f2 => ?_)
          have q52 := (f2 52 (by decide)).trans h52
          refine aw_aload_n dX6_readsSum_71 rfl ?_
          refine aw_dup dX6_readsSum_72 rfl ?_
          refine aw_get kg_X6_106 (by assumption) (by rfl) dX6_readsSum_73 ?_
          refine aw_iconst dX6_readsSum_76 ?_
          refine aw_iadd dX6_readsSum_77 ?_
          -- at 78: .putfield 106
          refine aw_putO kp_X6_106 (by assumption) (by simp) (aw_ni _) dX6_readsSum_78 (fun h3 b3 f3 => ?_)
          have b3 : h3 52 = aO 6 (cur t u p q sn it P Q ((l.length : Int) + 1) tp ps) := b3
          have hty3 : isTy h3 t := H.fr ((f3 58 (by decide)).trans ((f2 58 (by decide)).trans (hfr 58 (by decide) (by decide))))
          refine aw_aload_n dX6_readsSum_81 rfl ?_
          -- at 82: .invokevirtual 86
          refine aw_Vv0 kc_X6_86 (c6_take (d := d) b3 hty3 ht hnx.2) (by assumption) rfl rfl (by omega) (Nat.le_of_ble_eq_true rfl) dX6_readsSum_82 (fun h4 q => ?_)
          obtain ⟨q1, q2⟩ := q
          refine aw_goto (tgt := 4) dX6_readsSum_85 (by decide) ?_
          refine ih (l ++ [tkS t ps - 1000]) 6 f (nxS t ps) h4 (by simp; omega) (Or.inr ⟨rfl, by simp⟩) (by omega) hnx.2 (okSt_app ok (by omega) tok) (by rw [q1]; simp) ⟨_, ((q2 59 (by decide)).trans (f3 59 (by decide))).trans b2, fun i hi => ?_⟩ (fun j j1 j2 => ((q2 j j1).trans (f3 j j1)).trans ((f2 j j2).trans (hfr j j1 j2))) ?_
          · rw [gd_app]
            simp at hi
            rw [Int.toNat_natCast]
            by_cases z : i < l.length
            · rw [if_pos z, va_up_n _ _ _ (by omega)]
              exact hgi i z
            · have : i = l.length := by omega
              subst this
              rw [if_neg z, if_pos rfl, va_up_s]
          · rw [← hT]
            exact (runS_go (by omega) (by rw [foll5 (by omega), if_pos tok]) (by omega)).symm
        refine aw_aload_n dX6_readsSum_23 rfl ?_
        refine aw_get kg_X6_106 (by assumption) (by rfl) dX6_readsSum_24 ?_
        -- at 27: .ifCond .le 27
        refine aw_if_le (tgt := 54) dX6_readsSum_27 (by omega) (by decide) (fun c3 => ?_) (fun c3 => ?_)
        · refine go54 ?_
          rw [lastv, if_pos (by omega)]
          omega
        · have hlv : lastv l = l.getD (l.length - 1) 0 := by rw [lastv, if_neg (by omega)]
          have hx := hl.2 (l.length - 1) (by omega)
          refine aw_aload_n dX6_readsSum_30 rfl ?_
          refine aw_get kg_X6_79 (by assumption) (by rfl) dX6_readsSum_31 ?_
          refine aw_sipush dX6_readsSum_34 (by decide) ?_
          refine aw_isub dX6_readsSum_37 ?_
          refine aw_aload_n dX6_readsSum_38 rfl ?_
          refine aw_get kg_X6_36 (by assumption) (by rfl) dX6_readsSum_39 ?_
          refine aw_aload_n dX6_readsSum_42 rfl ?_
          refine aw_get kg_X6_106 (by assumption) (by rfl) dX6_readsSum_43 ?_
          refine aw_iconst dX6_readsSum_46 ?_
          refine aw_isub dX6_readsSum_47 ?_
          refine aw_iald (by assumption) (by omega) dX6_readsSum_48 ?_
          -- at 49: .if_icmp .gt 5
          refine aw_val (w := aI (lastv l)) (by rw [show ((l.length : Int) - 1).toNat = l.length - 1 by omega, hgi _ (by omega), hlv]) ?_
          refine aw_icmp_gt (tgt := 54) dX6_readsSum_49 (by omega) (by omega) (by decide) (fun c4 => ?_) (fun c4 => ?_)
          · exact go54 (by omega)
          · refine aw_iconst dX6_readsSum_52 ?_
            -- at 53: .ireturn
            refine bad (Or.inr ⟨by omega, ?_⟩) _ _ dX6_readsSum_53
            rw [foll5 (by omega), if_neg (fun z => by have := z.2.1; omega)]
theorem c6_readsSum {T : Int × Int × Int × List Int} {ps f : Nat} (h1 : h 52 = aO 6 (cur t u p q sn it P Q 0 tp ps)) (H : isTy h t) (ht : okTx t) (hps : ps ≤ t.length) (h59 : ∃ g, h 59 = aA 0 8 g) (ok : okSt 5 P Q []) (hf : 12 ≤ f) (hT : runS t f 5 (nxS t ps) P Q [] = T) :
    AC mX6_readsSum (d + 6) 0 0 n h [aR 52] (aqi n fun v h' => rsQ t T u p q sn tp (it + 1) 7 h h' v) := by
  refine AC.of (by decide) (Nat.le_of_ble_eq_true rfl) ?_
  have hnx := nxS_le hps
  obtain ⟨g, hg⟩ := h59
  refine aw_aload_n dX6_readsSum_0 rfl ?_
  -- at 1: .invokevirtual 86
  refine aw_Vv0 kc_X6_86 (c6_take (d := d) h1 H ht hnx.2) (by assumption) rfl rfl (by omega) (Nat.le_of_ble_eq_true rfl) dX6_readsSum_1 (fun h2 q => ?_)
  obtain ⟨q1, q2⟩ := q
  exact sum_loop H ht 9 [] 5 f (nxS t ps) h2 rfl (Or.inl ⟨rfl, rfl⟩) (by omega) hnx.2 ok q1 ⟨g, (q2 59 (by decide)).trans hg, fun i hi => absurd hi (by simp)⟩ (fun j j1 _ => q2 j j1) hT
theorem c6_readsFraction {T : Int × Int × Int × List Int} {ps f : Nat} (h1 : h 52 = aO 6 (cur t u p q sn it 2 3 0 tp ps)) (H : isTy h t) (ht : okTx t) (hps : ps ≤ t.length) (h59 : ∃ g, h 59 = aA 0 8 g) (hf : 20 ≤ f) (hT : runS t f 1 (nxS t ps) 2 3 [] = T) :
    AC mX6_readsFraction (d + 6) 0 0 n h [aR 52] (aqi n fun v h' => rsQ t T u p q sn tp (it + 1) 4 h h' v) := by
  refine AC.of (by decide) (Nat.le_of_ble_eq_true rfl) ?_
  have hn1 := (nxS_le hps).2
  have hn2 := (nxS_le hn1).2
  have hn3 := (nxS_le hn2).2
  have hn4 := (nxS_le hn3).2
  have k1 := tkS_rng ht hn1
  have k2 := tkS_rng ht hn2
  have k3 := tkS_rng ht hn3
  have hg := h59
  obtain ⟨f, rfl⟩ : ∃ k, f = k + 3 := ⟨f - 3, by omega⟩
  refine aw_aload_n dX6_readsFraction_0 rfl ?_
  -- at 1: .invokevirtual 86
  refine aw_Vv0 kc_X6_86 (c6_take (d := d) h1 H ht hn1) (by assumption) rfl rfl (by omega) (Nat.le_of_ble_eq_true rfl) dX6_readsFraction_1 (fun h2 q => ?_)
  obtain ⟨q1, q2⟩ := q
  have g2 : ∃ g, h2 59 = aA 0 8 g := by obtain ⟨g, hg⟩ := hg; exact ⟨g, (q2 59 (by decide)).trans hg⟩
  refine aw_aload_n dX6_readsFraction_4 rfl ?_
  refine aw_iconst dX6_readsFraction_5 ?_
  refine aw_bipush dX6_readsFraction_6 (by decide) ?_
  -- at 8: .invokevirtual 92
  refine aw_Vi2 kc_X6_92 (c6_isNumber (d := d) (by decide) (by decide) ⟨k1.1, k1.2.1⟩ q1) (by assumption) rfl rfl (by omega) (Nat.le_of_ble_eq_true rfl) dX6_readsFraction_8 (fun v h' q => ?_)
  obtain ⟨rfl, rfl⟩ := q
  refine aw_flag_ne (tgt := 16) dX6_readsFraction_11 (by decide) (fun c1 => ?_) (fun c1 => ?_)
  · -- the upper number
    have e1 : foll (tkS t (nxS t ps)) 1 2 3 [] = (2, tkS t (nxS t ps) - 1000, 3, []) := by
      have : 1001 ≤ tkS t (nxS t ps) ∧ tkS t (nxS t ps) ≤ 1099 := by omega
      simp [foll, this]
    rw [runS_go (by omega) e1 (by omega)] at hT
    refine aw_aload_n dX6_readsFraction_16 rfl ?_
    refine aw_aload_n dX6_readsFraction_17 rfl ?_
    refine aw_get kg_X6_79 (by assumption) (by rfl) dX6_readsFraction_18 ?_
    refine aw_sipush dX6_readsFraction_21 (by decide) ?_
    refine aw_isub dX6_readsFraction_24 ?_
    -- at 25: .putfield 96
    refine aw_putO kp_X6_96 (by assumption) (by simp) (aw_ni _) dX6_readsFraction_25 (fun h3 b3 f3 => ?_)
    have b3 : h3 52 = aO 6 (cur t u p q sn it (tkS t (nxS t ps) - 1000) 3 0 tp (nxS t ps)) := b3
    have hty3 : isTy h3 t := H.fr ((f3 58 (by decide)).trans (q2 58 (by decide)))
    have g3 : ∃ g, h3 59 = aA 0 8 g := by obtain ⟨g, hg⟩ := g2; exact ⟨g, (f3 59 (by decide)).trans hg⟩
    refine aw_aload_n dX6_readsFraction_28 rfl ?_
    -- at 29: .invokevirtual 86
    refine aw_Vv0 kc_X6_86 (c6_take (d := d) b3 hty3 ht hn2) (by assumption) rfl rfl (by omega) (Nat.le_of_ble_eq_true rfl) dX6_readsFraction_29 (fun h4 q => ?_)
    obtain ⟨b4, f4⟩ := q
    have g4 : ∃ g, h4 59 = aA 0 8 g := by obtain ⟨g, hg⟩ := g3; exact ⟨g, (f4 59 (by decide)).trans hg⟩
    have f4' : ∀ j, j ≠ 52 → j ≠ 59 → h4 j = h j := fun j j1 _ => ((f4 j j1).trans (f3 j j1)).trans (q2 j j1)
    have bad4 : ((foll (tkS t (nxS t (nxS t ps))) 2 (tkS t (nxS t ps) - 1000) 3 []).1 = 8) → ∀ L, AW mX6_readsFraction (am_R (d + 6) 0 0) (am_Z (aqi n fun v h' => rsQ t T u p q sn tp (it + 1) 4 h h' v) 0 0) 0 0 n h4 60 L [aI 0] := by
      intro hb L
      refine aw_zret rfl dX6_readsFraction_60 (by omega) ⟨rfl, _, rfl, Or.inr ⟨rfl, nxS t (nxS t ps), _, _, _, _, hn2, ?_, b4, g4, f4'⟩⟩
      rw [← hT]
      refine runS_bad ht hn2 ?_
      by_cases z : tkS t (nxS t (nxS t ps)) = -1
      · exact Or.inl ⟨z, by omega, by omega, by omega⟩
      · exact Or.inr ⟨z, hb⟩
    refine aw_aload_n dX6_readsFraction_32 rfl ?_
    refine aw_iconst dX6_readsFraction_33 ?_
    refine aw_bipush dX6_readsFraction_34 (by decide) ?_
    -- at 36: .invokevirtual 92
    refine aw_Vi2 kc_X6_92 (c6_isNumber (d := d) (by decide) (by decide) ⟨k2.1, k2.2.1⟩ b4) (by assumption) rfl rfl (by omega) (Nat.le_of_ble_eq_true rfl) dX6_readsFraction_36 (fun v h'' q => ?_)
    obtain ⟨rfl, rfl⟩ := q
    refine aw_flag_eq (tgt := 59) dX6_readsFraction_39 (by decide) (fun c2 => ?_) (fun c2 => ?_)
    · refine aw_iconst dX6_readsFraction_59 ?_
      -- at 60: .ireturn
      refine bad4 ?_ _
      have : ¬ ((1001 ≤ tkS t (nxS t (nxS t ps)) ∧ tkS t (nxS t (nxS t ps)) ≤ 1099) ∧ tkS t (nxS t ps) - 1000 ≤ 2 * (tkS t (nxS t (nxS t ps)) - 1000)) := by omega
      simp [foll, this]
    · refine aw_aload_n dX6_readsFraction_42 rfl ?_
      refine aw_get kg_X6_96 (by assumption) (by rfl) dX6_readsFraction_43 ?_
      refine aw_iconst dX6_readsFraction_46 ?_
      refine aw_aload_n dX6_readsFraction_47 rfl ?_
      refine aw_get kg_X6_79 (by assumption) (by rfl) dX6_readsFraction_48 ?_
      refine aw_sipush dX6_readsFraction_51 (by decide) ?_
      refine aw_isub dX6_readsFraction_54 ?_
      refine aw_imul dX6_readsFraction_55 ?_
      -- at 56: .if_icmp .le 5
      refine aw_icmp_le (tgt := 61) dX6_readsFraction_56 (by omega) (by omega) (by decide) (fun c3 => ?_) (fun c3 => ?_)
      · have e2 : foll (tkS t (nxS t (nxS t ps))) 2 (tkS t (nxS t ps) - 1000) 3 [] = (3, tkS t (nxS t ps) - 1000, tkS t (nxS t (nxS t ps)) - 1000, []) := by
          have : (1001 ≤ tkS t (nxS t (nxS t ps)) ∧ tkS t (nxS t (nxS t ps)) ≤ 1099) ∧ tkS t (nxS t ps) - 1000 ≤ 2 * (tkS t (nxS t (nxS t ps)) - 1000) := by omega
          simp [foll, this]
        rw [runS_go (by omega) e2 (by omega)] at hT
        refine aw_aload_n dX6_readsFraction_61 rfl ?_
        refine aw_aload_n dX6_readsFraction_62 rfl ?_
        refine aw_get kg_X6_79 (by assumption) (by rfl) dX6_readsFraction_63 ?_
        refine aw_sipush dX6_readsFraction_66 (by decide) ?_
        refine aw_isub dX6_readsFraction_69 ?_
        -- at 70: .putfield 99
        refine aw_putO kp_X6_99 (by assumption) (by simp) (aw_ni _) dX6_readsFraction_70 (fun h5 b5 f5 => ?_)
        have b5 : h5 52 = aO 6 (cur t u p q sn it (tkS t (nxS t ps) - 1000) (tkS t (nxS t (nxS t ps)) - 1000) 0 tp (nxS t (nxS t ps))) := b5
        have hty5 : isTy h5 t := H.fr ((f5 58 (by decide)).trans (f4' 58 (by decide) (by decide)))
        have g5 : ∃ g, h5 59 = aA 0 8 g := by obtain ⟨g, hg⟩ := g4; exact ⟨g, (f5 59 (by decide)).trans hg⟩
        refine aw_aload_n dX6_readsFraction_73 rfl ?_
        -- at 74: .invokevirtual 86
        refine aw_Vv0 kc_X6_86 (c6_take (d := d) b5 hty5 ht hn3) (by assumption) rfl rfl (by omega) (Nat.le_of_ble_eq_true rfl) dX6_readsFraction_74 (fun h6 q => ?_)
        obtain ⟨b6, f6⟩ := q
        have hty6 : isTy h6 t := hty5.fr (f6 58 (by decide))
        have g6 : ∃ g, h6 59 = aA 0 8 g := by obtain ⟨g, hg⟩ := g5; exact ⟨g, (f6 59 (by decide)).trans hg⟩
        have f6' : ∀ j, j ≠ 52 → j ≠ 59 → h6 j = h j := fun j j1 j2 => ((f6 j j1).trans (f5 j j1)).trans (f4' j j1 j2)
        refine aw_aload_n dX6_readsFraction_77 rfl ?_
        -- at 78: .invokevirtual 102
        refine aw_Vi0 kc_X6_102 (c6_readsEnd (d := d) b6 hty6 ht hn3) (by assumption) rfl rfl (by omega) (Nat.le_of_ble_eq_true rfl) dX6_readsFraction_78 (fun v h7 q => ?_)
        rcases q with ⟨r1, rfl, r3, r4⟩ | ⟨r1, rfl, rfl⟩
        · refine aw_zret rfl dX6_readsFraction_81 (by omega) ⟨rfl, _, rfl, Or.inl ⟨rfl, nxS t (nxS t (nxS t (nxS t ps))), f, tkS t (nxS t ps) - 1000, tkS t (nxS t (nxS t ps)) - 1000, [], hn4, by simp; omega, by omega, ?_, ⟨by omega, by omega, ⟨by simp, fun i hi => absurd hi (by simp)⟩, fun i j _ hj => absurd hj (by simp), fun _ => by omega⟩, fun _ => rfl, r3, ?_, fun j j1 j2 => (r4 j j1).trans (f6' j j1 j2)⟩⟩
          · rw [← hT]
            exact runS_go (by omega) (by simp [foll, r1]) (by omega)
          · obtain ⟨g, hg⟩ := g6
            exact ⟨g, (r4 59 (by decide)).trans hg, fun i hi => absurd hi (by simp)⟩
        · refine aw_zret rfl dX6_readsFraction_81 (by omega) ⟨rfl, _, rfl, Or.inr ⟨rfl, nxS t (nxS t (nxS t ps)), _, _, _, _, hn3, ?_, b6, g6, f6'⟩⟩
          rw [← hT]
          refine runS_bad ht hn3 ?_
          by_cases z : tkS t (nxS t (nxS t (nxS t ps))) = -1
          · exact Or.inl ⟨z, by omega, by omega, by omega⟩
          · exact Or.inr ⟨z, by simp [foll, r1]⟩
      · refine aw_iconst dX6_readsFraction_59 ?_
        -- at 60: .ireturn
        refine bad4 ?_ _
        have : ¬ ((1001 ≤ tkS t (nxS t (nxS t ps)) ∧ tkS t (nxS t (nxS t ps)) ≤ 1099) ∧ tkS t (nxS t ps) - 1000 ≤ 2 * (tkS t (nxS t (nxS t ps)) - 1000)) := by omega
        simp [foll, this]
  · refine aw_iconst dX6_readsFraction_14 ?_
    -- at 15: .ireturn
    refine aw_zret rfl dX6_readsFraction_15 (by omega) ⟨rfl, _, rfl, Or.inr ⟨rfl, nxS t ps, _, _, _, _, hn1, ?_, q1, g2, fun j j1 _ => q2 j j1⟩⟩
    rw [← hT]
    refine runS_bad ht hn1 ?_
    by_cases z : tkS t (nxS t ps) = -1
    · exact Or.inl ⟨z, by omega, by omega, by omega⟩
    · refine Or.inr ⟨z, ?_⟩
      have : ¬ (1001 ≤ tkS t (nxS t ps) ∧ tkS t (nxS t ps) ≤ 1099) := by omega
      simp [foll, this]
/-- behind the reference's reader -/
def rfQ (t : List Int) (u p q sn tp : Int) (h h' : AH) (v : Int) : Prop :=
  (v = 1 ∧ 0 ≤ (telS t).1 ∧ (∃ e1 e2 e3, h' 52 = aO 6 (mdl u p q sn (t.length : Int) e1 e2 e3 (telS t).1 (telS t).2.1 (telS t).2.2.1 ((telS t).2.2.2.length : Int) tp)) ∧ isNT h' (telS t).2.2.2 ∧ ∀ j, j ≠ 52 → j ≠ 59 → h' j = h j) ∨
  (v = 0 ∧ (telS t).1 < 0 ∧ (∃ (b : Nat) (e1 e3 it nu nl nm : Int), b ≤ t.length ∧ (telS t).1 = -10 - (b : Int) ∧ h' 52 = aO 6 (mdl u p q sn (t.length : Int) e1 (b : Int) e3 it nu nl nm tp)) ∧ (∃ g, h' 59 = aA 0 8 g) ∧ ∀ j, j ≠ 52 → j ≠ 59 → h' j = h j)
theorem reads_end {Z : AZ} {R : Room} {h1 : AH} {b : Int} {x : List AV} (h52 : h1 52 = aO 6 x) (hx : x[13]? = some (aI b)) (hb : -1 ≤ b ∧ b ≤ 2000) (k1 : b = -1 → AW mX6_reads R Z 0 0 n h1 110 [some (aR 52), some (aI 1)] [aI 1]) (k0 : b ≠ -1 → AW mX6_reads R Z 0 0 n h1 110 [some (aR 52), some (aI 1)] [aI 0]) : AW mX6_reads R Z 0 0 n h1 92 [some (aR 52), some (aI 1)] [aI 1] := by
  refine aw_istore_n dX6_reads_92 (by decide) ?_
  refine aw_iload_n dX6_reads_93 rfl ?_
  -- at 94: .ifCond .eq 15
  refine aw_if_eq (tgt := 109) dX6_reads_94 (by omega) (by decide) (fun c1 => ?_) (fun c1 => ?_)
  · omega
  · refine aw_aload_n dX6_reads_97 rfl ?_
    refine aw_get kg_X6_79 h52 hx dX6_reads_98 ?_
    refine aw_iconst dX6_reads_101 ?_
    -- at 102: .if_icmp .ne 7
    refine aw_icmp_ne (tgt := 109) dX6_reads_102 (by omega) (by omega) (by decide) (fun c2 => ?_) (fun c2 => ?_)
    · refine aw_iconst dX6_reads_109 ?_
      -- at 110: .ireturn
      exact k0 c2
    · refine aw_iconst dX6_reads_105 ?_
      refine aw_goto (tgt := 110) dX6_reads_106 (by decide) ?_
      -- at 110: .ireturn
      exact k1 (by omega)
theorem c6_reads {lt e1 e2 e3 e4 e5 e6 e7 : Int} (h1 : h 52 = aO 6 (mdl u p q sn (t.length : Int) e1 e2 e3 e4 e5 e6 e7 tp)) (H : isTy h t) (ht : okTx t) (h59 : ∃ g, h 59 = aA 0 8 g) : AC mX6_reads (d + 8) 0 0 n h [aR 52] (aqi n fun v h' => rfQ t u p q sn tp h h' v) := by
  refine AC.of (by decide) (Nat.le_of_ble_eq_true rfl) ?_
  refine aw_aload_n dX6_reads_0 rfl ?_
  refine aw_iconst dX6_reads_1 ?_
  -- at 2: .putfield 70
  refine aw_putO kp_X6_70 (by assumption) (by simp) (aw_ni _) dX6_reads_2 (fun ha b1 f1 => ?_)
  have b1 : ha 52 = aO 6 (mdl u p q sn (t.length : Int) 0 e2 e3 e4 e5 e6 e7 tp) := b1
  refine aw_aload_n dX6_reads_5 rfl ?_
  refine aw_iconst dX6_reads_6 ?_
  -- at 7: .putfield 89
  refine aw_putO kp_X6_89 (by assumption) (by simp) (aw_ni _) dX6_reads_7 (fun hb b2 f2 => ?_)
  have b2 : hb 52 = aO 6 (mdl u p q sn (t.length : Int) 0 e2 e3 0 e5 e6 e7 tp) := b2
  refine aw_aload_n dX6_reads_10 rfl ?_
  refine aw_iconst dX6_reads_11 ?_
  -- at 12: .putfield 96
  refine aw_putO kp_X6_96 (by assumption) (by simp) (aw_ni _) dX6_reads_12 (fun hc b3 f3 => ?_)
  have b3 : hc 52 = aO 6 (mdl u p q sn (t.length : Int) 0 e2 e3 0 2 e6 e7 tp) := b3
  refine aw_aload_n dX6_reads_15 rfl ?_
  refine aw_iconst dX6_reads_16 ?_
  -- at 17: .putfield 99
  refine aw_putO kp_X6_99 (by assumption) (by simp) (aw_ni _) dX6_reads_17 (fun hd b4 f4 => ?_)
  have b4 : hd 52 = aO 6 (mdl u p q sn (t.length : Int) 0 e2 e3 0 2 3 e7 tp) := b4
  refine aw_aload_n dX6_reads_20 rfl ?_
  refine aw_iconst dX6_reads_21 ?_
  -- at 22: .putfield 106
  refine aw_putO kp_X6_106 (by assumption) (by simp) (aw_ni _) dX6_reads_22 (fun he b5 f5 => ?_)
  have b5 : he 52 = aO 6 (mdl u p q sn (t.length : Int) 0 e2 e3 0 2 3 0 tp) := b5
  have f5' : ∀ j, j ≠ 52 → he j = h j := fun j hj => by rw [f5 j hj, f4 j hj, f3 j hj, f2 j hj, f1 j hj]
  have hty := H.fr (h' := he) (f5' 58 (by decide))
  have g5 : ∃ g, he 59 = aA 0 8 g := by obtain ⟨g, hg⟩ := h59; exact ⟨g, (f5' 59 (by decide)).trans hg⟩
  have hn0 := (nxS_le (t := t) (Nat.zero_le _)).2
  have k0 := tkS_rng ht (Nat.zero_le t.length)
  refine aw_aload_n dX6_reads_25 rfl ?_
  -- at 26: .invokevirtual 86
  refine aw_Vv0 kc_X6_86 (c6_take (d := d) (ps := 0) b5 hty ht (Nat.zero_le _)) (by assumption) rfl rfl (by omega) (Nat.le_of_ble_eq_true rfl) dX6_reads_26 (fun h2 q => ?_)
  obtain ⟨b6, f6⟩ := q
  have f6' : ∀ j, j ≠ 52 → j ≠ 59 → h2 j = h j := fun j j1 _ => (f6 j j1).trans (f5' j j1)
  have hty2 := hty.fr (f6 58 (by decide))
  have g6 : ∃ g, h2 59 = aA 0 8 g := by obtain ⟨g, hg⟩ := g5; exact ⟨g, (f6 59 (by decide)).trans hg⟩
  -- a fault, with the flag 0 all the way down
  have bad : ∀ (h3 : AH) (ps : Nat) (it' P' Q' nm' : Int), ps ≤ t.length → (telS t).1 = -10 - (stS t ps : Int) → h3 52 = aO 6 (cur t u p q sn it' P' Q' nm' tp ps) → (∃ g, h3 59 = aA 0 8 g) → (∀ j, j ≠ 52 → j ≠ 59 → h3 j = h j) → AW mX6_reads (am_R (d + 8) 0 0) (am_Z (aqi n fun v h' => rfQ t u p q sn tp h h' v) 0 0) 0 0 n h3 110 [some (aR 52), some (aI 0)] [aI 0] := by
    intro h3 ps it' P' Q' nm' hps hT h52 g3 f3
    exact aw_zret rfl dX6_reads_110 (by omega) ⟨rfl, _, rfl, Or.inr ⟨rfl, by omega, ⟨stS t ps, _, _, _, _, _, _, (stS_le hps).2, hT, h52⟩, g3, f3⟩⟩
  have bad1 : ∀ (h3 : AH) (ps : Nat) (it' P' Q' nm' : Int), ps ≤ t.length → (telS t).1 = -10 - (stS t ps : Int) → h3 52 = aO 6 (cur t u p q sn it' P' Q' nm' tp ps) → (∃ g, h3 59 = aA 0 8 g) → (∀ j, j ≠ 52 → j ≠ 59 → h3 j = h j) → AW mX6_reads (am_R (d + 8) 0 0) (am_Z (aqi n fun v h' => rfQ t u p q sn tp h h' v) 0 0) 0 0 n h3 110 [some (aR 52), some (aI 1)] [aI 0] := by
    intro h3 ps it' P' Q' nm' hps hT h52 g3 f3
    exact aw_zret rfl dX6_reads_110 (by omega) ⟨rfl, _, rfl, Or.inr ⟨rfl, by omega, ⟨stS t ps, _, _, _, _, _, _, (stS_le hps).2, hT, h52⟩, g3, f3⟩⟩
  have badA : ∀ (h3 : AH) (ps : Nat) (it' P' Q' nm' : Int), ps ≤ t.length → (telS t).1 = -10 - (stS t ps : Int) → h3 52 = aO 6 (cur t u p q sn it' P' Q' nm' tp ps) → (∃ g, h3 59 = aA 0 8 g) → (∀ j, j ≠ 52 → j ≠ 59 → h3 j = h j) → AW mX6_reads (am_R (d + 8) 0 0) (am_Z (aqi n fun v h' => rfQ t u p q sn tp h h' v) 0 0) 0 0 n h3 92 [some (aR 52), some (aI 0)] [aI 0] := by
    intro h3 ps it' P' Q' nm' hps hT h52 g3 f3
    refine aw_istore_n dX6_reads_92 (by decide) ?_
    refine aw_iload_n dX6_reads_93 rfl ?_
    -- at 94: .ifCond .eq 15
    refine aw_if_eq (tgt := 109) dX6_reads_94 (by omega) (by decide) (fun c9 => ?_) (fun c9 => ?_)
    · refine aw_iconst dX6_reads_109 ?_
      -- at 110: .ireturn
      exact bad h3 ps it' P' Q' nm' hps hT h52 g3 f3
    · omega
  have badB : ∀ (h3 : AH) (ps : Nat) (it' P' Q' nm' : Int), ps ≤ t.length → (telS t).1 = -10 - (stS t ps : Int) → h3 52 = aO 6 (cur t u p q sn it' P' Q' nm' tp ps) → (∃ g, h3 59 = aA 0 8 g) → (∀ j, j ≠ 52 → j ≠ 59 → h3 j = h j) → ∀ z, AW mX6_reads (am_R (d + 8) 0 0) (am_Z (aqi n fun v h' => rfQ t u p q sn tp h h' v) 0 0) 0 0 n h3 91 [some (aR 52), some (aI z)] [] := by
    intro h3 ps it' P' Q' nm' hps hT h52 g3 f3 z
    refine aw_iconst dX6_reads_91 ?_
    refine aw_istore_n dX6_reads_92 (by decide) ?_
    refine aw_iload_n dX6_reads_93 rfl ?_
    -- at 94: .ifCond .eq 15
    refine aw_if_eq (tgt := 109) dX6_reads_94 (by omega) (by decide) (fun c9 => ?_) (fun c9 => ?_)
    · refine aw_iconst dX6_reads_109 ?_
      -- at 110: .ireturn
      exact bad h3 ps it' P' Q' nm' hps hT h52 g3 f3
    · omega
  have badC : ∀ (h3 : AH) (ps : Nat) (it' P' Q' nm' : Int), ps ≤ t.length → (telS t).1 = -10 - (stS t ps : Int) → h3 52 = aO 6 (cur t u p q sn it' P' Q' nm' tp ps) → (∃ g, h3 59 = aA 0 8 g) → (∀ j, j ≠ 52 → j ≠ 59 → h3 j = h j) → AW mX6_reads (am_R (d + 8) 0 0) (am_Z (aqi n fun v h' => rfQ t u p q sn tp h h' v) 0 0) 0 0 n h3 57 [some (aR 52), none] [] := by
    intro h3 ps it' P' Q' nm' hps hT h52 g3 f3
    refine aw_iconst dX6_reads_57 ?_
    refine aw_istore_n dX6_reads_58 (by decide) ?_
    refine aw_iload_n dX6_reads_59 rfl ?_
    -- at 60: .ifCond .eq 31
    refine aw_if_eq (tgt := 91) dX6_reads_60 (by omega) (by decide) (fun c9 => ?_) (fun c9 => ?_)
    · exact badB h3 ps it' P' Q' nm' hps hT h52 g3 f3 0
    · omega
  refine aw_aload_n dX6_reads_29 rfl ?_
  refine aw_get kg_X6_79 (by assumption) (by rfl) dX6_reads_30 ?_
  refine aw_iconst dX6_reads_33 ?_
  -- at 34: .if_icmp .eq 19
  refine aw_icmp_eq (tgt := 53) dX6_reads_34 (by omega) (by omega) (by decide) (fun c1 => ?_) (fun c1 => ?_)
  · -- no items
    have eT : telS t = (0, 2, 3, []) := by rw [telS, runS, if_pos c1]; rfl
    refine aw_iconst dX6_reads_53 ?_
    refine aw_goto (tgt := 58) dX6_reads_54 (by decide) ?_
    refine aw_istore_n dX6_reads_58 (by decide) ?_
    refine aw_iload_n dX6_reads_59 rfl ?_
    -- at 60: .ifCond .eq 31
    refine aw_if_eq (tgt := 91) dX6_reads_60 (by omega) (by decide) (fun c2 => ?_) (fun c2 => ?_)
    · omega
    · refine aw_aload_n dX6_reads_63 rfl ?_
      refine aw_get kg_X6_79 (by assumption) (by rfl) dX6_reads_64 ?_
      refine aw_iconst dX6_reads_67 ?_
      -- at 68: .if_icmp .eq 19
      refine aw_icmp_eq (tgt := 87) dX6_reads_68 (by omega) (by omega) (by decide) (fun c3 => ?_) (fun c3 => ?_)
      · refine aw_iconst dX6_reads_87 ?_
        refine aw_goto (tgt := 92) dX6_reads_88 (by decide) ?_
        refine reads_end b6 rfl (by omega) (fun _ => ?_) (fun q => absurd c1 q)
        refine aw_zret rfl dX6_reads_110 (by omega) ⟨rfl, _, rfl, Or.inl ⟨rfl, by rw [eT]; decide, ⟨_, _, _, by rw [eT]; exact b6⟩, ?_, f6'⟩⟩
        obtain ⟨g, hg⟩ := g6
        exact ⟨g, hg, fun i hi => by rw [eT] at hi; exact absurd hi (by simp)⟩
      · exact absurd c1 c3
  · refine aw_aload_n dX6_reads_37 rfl ?_
    refine aw_get kg_X6_79 (by assumption) (by rfl) dX6_reads_38 ?_
    refine aw_bipush dX6_reads_41 (by decide) ?_
    -- at 43: .if_icmp .ne 14
    refine aw_icmp_ne (tgt := 57) dX6_reads_43 (by omega) (by omega) (by decide) (fun c2 => ?_) (fun c2 => ?_)
    · refine badC h2 0 _ _ _ _ (Nat.zero_le _) ?_ b6 g6 f6'
      exact runS_bad ht (Nat.zero_le _) (Or.inr ⟨c1, by simp [foll, c2]⟩)
    · have e112 : tkS t 0 = 112 := by omega
      have eT : telS t = runS t 59 1 (nxS t 0) 2 3 [] := runS_go c1 (by simp [foll, e112]) (by omega)
      refine aw_aload_n dX6_reads_46 rfl ?_
      -- at 47: .invokevirtual 112
      refine aw_Vi0 kc_X6_112 (c6_readsFraction (d := d) (f := 59) b6 hty2 ht (Nat.zero_le _) g6 (by omega) eT.symm) (by assumption) rfl rfl (by omega) (Nat.le_of_ble_eq_true rfl) dX6_reads_47 (fun v h3 q => ?_)
      rcases q with ⟨rfl, ps', f', P', Q', l', r1, r2, r3, r4, r5, r6, r7, r8, r9⟩ | ⟨rfl, ps', it', P', Q', nm', r1, r2, r3, r4, r5⟩
      · have hl0 := r6 rfl
        subst hl0
        have f3' : ∀ j, j ≠ 52 → j ≠ 59 → h3 j = h j := fun j j1 j2 => (r9 j j1 j2).trans (f6' j j1 j2)
        have g3 : ∃ g, h3 59 = aA 0 8 g := ⟨_, r8.choose_spec.1⟩
        have k3 := tkS_rng ht r1
        obtain ⟨f', rfl⟩ : ∃ k, f' = k + 1 := ⟨f' - 1, by omega⟩
        have r7 : h3 52 = aO 6 (cur t u p q sn 1 P' Q' 0 tp ps') := r7
        refine aw_if_eq (tgt := 57) dX6_reads_50 (by omega) (by decide) (fun c3 => ?_) (fun c3 => ?_)
        · omega
        · refine aw_iconst dX6_reads_53 ?_
          refine aw_goto (tgt := 58) dX6_reads_54 (by decide) ?_
          refine aw_istore_n dX6_reads_58 (by decide) ?_
          refine aw_iload_n dX6_reads_59 rfl ?_
          -- at 60: .ifCond .eq 31
          refine aw_if_eq (tgt := 91) dX6_reads_60 (by omega) (by decide) (fun c4 => ?_) (fun c4 => ?_)
          · omega
          · refine aw_aload_n dX6_reads_63 rfl ?_
            refine aw_get kg_X6_79 (by assumption) (by rfl) dX6_reads_64 ?_
            refine aw_iconst dX6_reads_67 ?_
            -- at 68: .if_icmp .eq 19
            refine aw_icmp_eq (tgt := 87) dX6_reads_68 (by omega) (by omega) (by decide) (fun c5 => ?_) (fun c5 => ?_)
            · have eT2 : telS t = (1, P', Q', []) := by rw [r4, runS, if_pos c5]; rfl
              refine aw_iconst dX6_reads_87 ?_
              refine aw_goto (tgt := 92) dX6_reads_88 (by decide) ?_
              refine reads_end r7 rfl (by omega) (fun _ => ?_) (fun q => absurd c5 q)
              exact aw_zret rfl dX6_reads_110 (by omega) ⟨rfl, _, rfl, Or.inl ⟨rfl, by rw [eT2]; exact (by decide : (0 : Int) ≤ 1), ⟨_, _, _, by rw [eT2]; exact r7⟩, by rw [eT2]; exact r8, f3'⟩⟩
            · refine aw_aload_n dX6_reads_71 rfl ?_
              refine aw_get kg_X6_79 (by assumption) (by rfl) dX6_reads_72 ?_
              refine aw_bipush dX6_reads_75 (by decide) ?_
              -- at 77: .if_icmp .ne 14
              refine aw_icmp_ne (tgt := 91) dX6_reads_77 (by omega) (by omega) (by decide) (fun c6 => ?_) (fun c6 => ?_)
              · refine badB h3 ps' _ _ _ _ r1 ?_ r7 g3 f3' 1
                rw [r4]
                exact runS_bad ht r1 (Or.inr ⟨c5, by simp [foll, c6]⟩)
              · have e115 : tkS t ps' = 115 := by omega
                have eT3 : telS t = runS t f' 5 (nxS t ps') P' Q' [] := by
                  rw [r4]
                  exact runS_go c5 (by simp [foll, e115]) (by omega)
                have hty3 : isTy h3 t := H.fr (f3' 58 (by decide) (by decide))
                refine aw_aload_n dX6_reads_80 rfl ?_
                -- at 81: .invokevirtual 115
                refine aw_Vi0 kc_X6_115 (c6_readsSum (d := d) (f := f') r7 hty3 ht r1 g3 ⟨r5.1, r5.2.1, r5.2.2.1, r5.2.2.2.1, fun _ => r5.2.2.2.2 (by omega)⟩ (by simp at r2; omega) eT3.symm) (by assumption) rfl rfl (by omega) (Nat.le_of_ble_eq_true rfl) dX6_reads_81 (fun v h4 q => ?_)
                rcases q with ⟨rfl, ps2, f2, P2, Q2, l2, t1, t2, t3, t4, t5, t6, t7, t8, t9⟩ | ⟨rfl, ps2, it2, P2, Q2, nm2, t1, t2, t3, t4, t5⟩
                · have k4 := tkS_rng ht t1
                  obtain ⟨f2, rfl⟩ : ∃ k, f2 = k + 1 := ⟨f2 - 1, by omega⟩
                  have f4' : ∀ j, j ≠ 52 → j ≠ 59 → h4 j = h j := fun j j1 j2 => (t9 j j1 j2).trans (f3' j j1 j2)
                  refine aw_if_eq (tgt := 91) dX6_reads_84 (by omega) (by decide) (fun c7 => ?_) (fun c7 => ?_)
                  · omega
                  · refine aw_iconst dX6_reads_87 ?_
                    refine aw_goto (tgt := 92) dX6_reads_88 (by decide) ?_
                    refine reads_end t7 rfl (by omega) (fun z => ?_) (fun z => ?_)
                    · have eT4 : telS t = (2, P2, Q2, l2) := by rw [t4, runS, if_pos z]; rfl
                      exact aw_zret rfl dX6_reads_110 (by omega) ⟨rfl, _, rfl, Or.inl ⟨rfl, by rw [eT4]; exact (by decide : (0 : Int) ≤ 2), ⟨_, _, _, by rw [eT4]; exact t7⟩, by rw [eT4]; exact t8, f4'⟩⟩
                    · refine bad1 h4 ps2 _ _ _ _ t1 ?_ t7 ⟨_, t8.choose_spec.1⟩ f4'
                      rw [t4]
                      exact runS_bad ht t1 (Or.inr ⟨z, by simp [foll]⟩)
                · have f4' : ∀ j, j ≠ 52 → j ≠ 59 → h4 j = h j := fun j j1 j2 => (t5 j j1 j2).trans (f3' j j1 j2)
                  refine aw_if_eq (tgt := 91) dX6_reads_84 (by omega) (by decide) (fun c7 => ?_) (fun c7 => ?_)
                  · exact badB h4 ps2 _ _ _ _ t1 t2 t3 t4 f4' 1
                  · omega
      · have f3' : ∀ j, j ≠ 52 → j ≠ 59 → h3 j = h j := fun j j1 j2 => (r5 j j1 j2).trans (f6' j j1 j2)
        refine aw_if_eq (tgt := 57) dX6_reads_50 (by omega) (by decide) (fun c3 => ?_) (fun c3 => ?_)
        · exact badC h3 ps' _ _ _ _ r1 r2 r3 r4 f3'
        · omega
end Reads
end
