-- ===== PART A: goes FIRST, ahead of the names: the tables' words, and 'selects' of the private methods out of them =====
/-- a private method of a class that the tables say can be made, by its rows of tables_1 -/
def lw_okq (q : MethodName × Nat) : Prop := (q.1.cls ≠ "java/lang/invoke/MethodHandle" ∧ q.1.cls ≠ "java/lang/invoke/VarHandle") ∧ Cond.instantiable q.1.cls q.2 ∈ tables_1 ∧ Cond.privateMethod q.1 ∈ tables_1 ∧ Cond.instanceMethod q.1 ∈ tables_1
theorem lw_p0 : lw_okq (⟨"UnitSums$Script", "readToken", "()V"⟩, 9) := ⟨⟨by decide +kernel, by decide +kernel⟩, List.mem_of_getElem? (i := 34) (by decide +kernel), List.mem_of_getElem? (i := 194) (by decide +kernel), List.mem_of_getElem? (i := 195) (by decide +kernel)⟩
theorem lw_p1 : lw_okq (⟨"UnitSums$Script", "readNumber", "()V"⟩, 9) := ⟨⟨by decide +kernel, by decide +kernel⟩, List.mem_of_getElem? (i := 34) (by decide +kernel), List.mem_of_getElem? (i := 201) (by decide +kernel), List.mem_of_getElem? (i := 202) (by decide +kernel)⟩
theorem lw_p2 : lw_okq (⟨"UnitSums$Script", "follow", "(I)I"⟩, 9) := ⟨⟨by decide +kernel, by decide +kernel⟩, List.mem_of_getElem? (i := 34) (by decide +kernel), List.mem_of_getElem? (i := 211) (by decide +kernel), List.mem_of_getElem? (i := 212) (by decide +kernel)⟩
theorem lw_p3 : lw_okq (⟨"UnitSums$Script", "takeAbove", "()I"⟩, 9) := ⟨⟨by decide +kernel, by decide +kernel⟩, List.mem_of_getElem? (i := 34) (by decide +kernel), List.mem_of_getElem? (i := 215) (by decide +kernel), List.mem_of_getElem? (i := 216) (by decide +kernel)⟩
theorem lw_p4 : lw_okq (⟨"UnitSums$Script", "isNumberTo", "(I)Z"⟩, 9) := ⟨⟨by decide +kernel, by decide +kernel⟩, List.mem_of_getElem? (i := 34) (by decide +kernel), List.mem_of_getElem? (i := 219) (by decide +kernel), List.mem_of_getElem? (i := 220) (by decide +kernel)⟩
theorem lw_p5 : lw_okq (⟨"UnitSums$Script", "takeBelow", "()I"⟩, 9) := ⟨⟨by decide +kernel, by decide +kernel⟩, List.mem_of_getElem? (i := 34) (by decide +kernel), List.mem_of_getElem? (i := 223) (by decide +kernel), List.mem_of_getElem? (i := 224) (by decide +kernel)⟩
theorem lw_p6 : lw_okq (⟨"UnitSums$Script", "takeTerm", "()I"⟩, 9) := ⟨⟨by decide +kernel, by decide +kernel⟩, List.mem_of_getElem? (i := 34) (by decide +kernel), List.mem_of_getElem? (i := 227) (by decide +kernel), List.mem_of_getElem? (i := 228) (by decide +kernel)⟩
theorem lw_p7 : lw_okq (⟨"UnitSums$Script", "endSum", "()I"⟩, 9) := ⟨⟨by decide +kernel, by decide +kernel⟩, List.mem_of_getElem? (i := 34) (by decide +kernel), List.mem_of_getElem? (i := 248) (by decide +kernel), List.mem_of_getElem? (i := 249) (by decide +kernel)⟩
theorem lw_p8 : lw_okq (⟨"UnitSums", "startAnew", "()V"⟩, 10) := ⟨⟨by decide +kernel, by decide +kernel⟩, List.mem_of_getElem? (i := 12) (by decide +kernel), List.mem_of_getElem? (i := 256) (by decide +kernel), List.mem_of_getElem? (i := 257) (by decide +kernel)⟩
theorem lw_p9 : lw_okq (⟨"UnitSums", "draftBy", "(I)Z"⟩, 10) := ⟨⟨by decide +kernel, by decide +kernel⟩, List.mem_of_getElem? (i := 12) (by decide +kernel), List.mem_of_getElem? (i := 295) (by decide +kernel), List.mem_of_getElem? (i := 296) (by decide +kernel)⟩
theorem lw_p10 : lw_okq (⟨"UnitSums$Finder", "seek", "(I)I"⟩, 5) := ⟨⟨by decide +kernel, by decide +kernel⟩, List.mem_of_getElem? (i := 87) (by decide +kernel), List.mem_of_getElem? (i := 319) (by decide +kernel), List.mem_of_getElem? (i := 320) (by decide +kernel)⟩
theorem lw_p11 : lw_okq (⟨"UnitSums$Finder", "end", "(IIIJJ)V"⟩, 5) := ⟨⟨by decide +kernel, by decide +kernel⟩, List.mem_of_getElem? (i := 87) (by decide +kernel), List.mem_of_getElem? (i := 332) (by decide +kernel), List.mem_of_getElem? (i := 333) (by decide +kernel)⟩
theorem lw_p12 : lw_okq (⟨"UnitSums$Finder", "pick", "(III)I"⟩, 5) := ⟨⟨by decide +kernel, by decide +kernel⟩, List.mem_of_getElem? (i := 87) (by decide +kernel), List.mem_of_getElem? (i := 342) (by decide +kernel), List.mem_of_getElem? (i := 343) (by decide +kernel)⟩
theorem lw_p13 : lw_okq (⟨"UnitSums", "takeDraft", "()I"⟩, 10) := ⟨⟨by decide +kernel, by decide +kernel⟩, List.mem_of_getElem? (i := 12) (by decide +kernel), List.mem_of_getElem? (i := 360) (by decide +kernel), List.mem_of_getElem? (i := 361) (by decide +kernel)⟩
theorem lw_p14 : lw_okq (⟨"UnitSums$History", "loseOldest", "()V"⟩, 2) := ⟨⟨by decide +kernel, by decide +kernel⟩, List.mem_of_getElem? (i := 71) (by decide +kernel), List.mem_of_getElem? (i := 368) (by decide +kernel), List.mem_of_getElem? (i := 369) (by decide +kernel)⟩
theorem lw_p15 : lw_okq (⟨"UnitSumsModel", "reads", "()Z"⟩, 25) := ⟨⟨by decide +kernel, by decide +kernel⟩, List.mem_of_getElem? (i := 526) (by decide +kernel), List.mem_of_getElem? (i := 625) (by decide +kernel), List.mem_of_getElem? (i := 626) (by decide +kernel)⟩
def lw_privs_1 : List (MethodName × Nat) := [(⟨"UnitSums$Script", "readToken", "()V"⟩, 9), (⟨"UnitSums$Script", "readNumber", "()V"⟩, 9), (⟨"UnitSums$Script", "follow", "(I)I"⟩, 9), (⟨"UnitSums$Script", "takeAbove", "()I"⟩, 9), (⟨"UnitSums$Script", "isNumberTo", "(I)Z"⟩, 9), (⟨"UnitSums$Script", "takeBelow", "()I"⟩, 9), (⟨"UnitSums$Script", "takeTerm", "()I"⟩, 9), (⟨"UnitSums$Script", "endSum", "()I"⟩, 9), (⟨"UnitSums", "startAnew", "()V"⟩, 10), (⟨"UnitSums", "draftBy", "(I)Z"⟩, 10), (⟨"UnitSums$Finder", "seek", "(I)I"⟩, 5), (⟨"UnitSums$Finder", "end", "(IIIJJ)V"⟩, 5), (⟨"UnitSums$Finder", "pick", "(III)I"⟩, 5), (⟨"UnitSums", "takeDraft", "()I"⟩, 10), (⟨"UnitSums$History", "loseOldest", "()V"⟩, 2), (⟨"UnitSumsModel", "reads", "()Z"⟩, 25)]
theorem lw_r1 : ∀ q ∈ lw_privs_1, lw_okq q := List.forall_mem_cons.mpr ⟨lw_p0, List.forall_mem_cons.mpr ⟨lw_p1, List.forall_mem_cons.mpr ⟨lw_p2, List.forall_mem_cons.mpr ⟨lw_p3, List.forall_mem_cons.mpr ⟨lw_p4, List.forall_mem_cons.mpr ⟨lw_p5, List.forall_mem_cons.mpr ⟨lw_p6, List.forall_mem_cons.mpr ⟨lw_p7, List.forall_mem_cons.mpr ⟨lw_p8, List.forall_mem_cons.mpr ⟨lw_p9, List.forall_mem_cons.mpr ⟨lw_p10, List.forall_mem_cons.mpr ⟨lw_p11, List.forall_mem_cons.mpr ⟨lw_p12, List.forall_mem_cons.mpr ⟨lw_p13, List.forall_mem_cons.mpr ⟨lw_p14, List.forall_mem_cons.mpr ⟨lw_p15, fun _ h => absurd h List.not_mem_nil⟩⟩⟩⟩⟩⟩⟩⟩⟩⟩⟩⟩⟩⟩⟩⟩
theorem lw_p16 : lw_okq (⟨"UnitSumsModel", "take", "()V"⟩, 25) := ⟨⟨by decide +kernel, by decide +kernel⟩, List.mem_of_getElem? (i := 526) (by decide +kernel), List.mem_of_getElem? (i := 629) (by decide +kernel), List.mem_of_getElem? (i := 630) (by decide +kernel)⟩
theorem lw_p17 : lw_okq (⟨"UnitSumsModel", "readsFraction", "()Z"⟩, 25) := ⟨⟨by decide +kernel, by decide +kernel⟩, List.mem_of_getElem? (i := 526) (by decide +kernel), List.mem_of_getElem? (i := 638) (by decide +kernel), List.mem_of_getElem? (i := 639) (by decide +kernel)⟩
theorem lw_p18 : lw_okq (⟨"UnitSumsModel", "isNumber", "(II)Z"⟩, 25) := ⟨⟨by decide +kernel, by decide +kernel⟩, List.mem_of_getElem? (i := 526) (by decide +kernel), List.mem_of_getElem? (i := 642) (by decide +kernel), List.mem_of_getElem? (i := 643) (by decide +kernel)⟩
theorem lw_p19 : lw_okq (⟨"UnitSumsModel", "readsEnd", "()Z"⟩, 25) := ⟨⟨by decide +kernel, by decide +kernel⟩, List.mem_of_getElem? (i := 526) (by decide +kernel), List.mem_of_getElem? (i := 646) (by decide +kernel), List.mem_of_getElem? (i := 647) (by decide +kernel)⟩
theorem lw_p20 : lw_okq (⟨"UnitSumsModel", "readsSum", "()Z"⟩, 25) := ⟨⟨by decide +kernel, by decide +kernel⟩, List.mem_of_getElem? (i := 526) (by decide +kernel), List.mem_of_getElem? (i := 650) (by decide +kernel), List.mem_of_getElem? (i := 651) (by decide +kernel)⟩
theorem lw_p21 : lw_okq (⟨"UnitSumsModel", "isWhole", "()Z"⟩, 25) := ⟨⟨by decide +kernel, by decide +kernel⟩, List.mem_of_getElem? (i := 526) (by decide +kernel), List.mem_of_getElem? (i := 654) (by decide +kernel), List.mem_of_getElem? (i := 655) (by decide +kernel)⟩
theorem lw_p22 : lw_okq (⟨"UnitSumsModel", "least", "(I)I"⟩, 25) := ⟨⟨by decide +kernel, by decide +kernel⟩, List.mem_of_getElem? (i := 526) (by decide +kernel), List.mem_of_getElem? (i := 662) (by decide +kernel), List.mem_of_getElem? (i := 663) (by decide +kernel)⟩
theorem lw_p23 : lw_okq (⟨"UnitSumsModel", "goesThrough", "(III)I"⟩, 25) := ⟨⟨by decide +kernel, by decide +kernel⟩, List.mem_of_getElem? (i := 526) (by decide +kernel), List.mem_of_getElem? (i := 677) (by decide +kernel), List.mem_of_getElem? (i := 678) (by decide +kernel)⟩
theorem lw_p24 : lw_okq (⟨"UnitSumsModel", "few", "(I)I"⟩, 25) := ⟨⟨by decide +kernel, by decide +kernel⟩, List.mem_of_getElem? (i := 526) (by decide +kernel), List.mem_of_getElem? (i := 689) (by decide +kernel), List.mem_of_getElem? (i := 690) (by decide +kernel)⟩
theorem lw_p25 : lw_okq (⟨"UnitSumsModel", "top", "(I)I"⟩, 25) := ⟨⟨by decide +kernel, by decide +kernel⟩, List.mem_of_getElem? (i := 526) (by decide +kernel), List.mem_of_getElem? (i := 697) (by decide +kernel), List.mem_of_getElem? (i := 698) (by decide +kernel)⟩
theorem lw_p26 : lw_okq (⟨"UnitSumsModel", "firstOf", "(II)I"⟩, 25) := ⟨⟨by decide +kernel, by decide +kernel⟩, List.mem_of_getElem? (i := 526) (by decide +kernel), List.mem_of_getElem? (i := 706) (by decide +kernel), List.mem_of_getElem? (i := 707) (by decide +kernel)⟩
theorem lw_p27 : lw_okq (⟨"UnitSumsModel", "byLeastTop", "()I"⟩, 25) := ⟨⟨by decide +kernel, by decide +kernel⟩, List.mem_of_getElem? (i := 526) (by decide +kernel), List.mem_of_getElem? (i := 710) (by decide +kernel), List.mem_of_getElem? (i := 711) (by decide +kernel)⟩
theorem lw_p28 : lw_okq (⟨"UnitSumsModel", "minds", "()V"⟩, 25) := ⟨⟨by decide +kernel, by decide +kernel⟩, List.mem_of_getElem? (i := 526) (by decide +kernel), List.mem_of_getElem? (i := 714) (by decide +kernel), List.mem_of_getElem? (i := 715) (by decide +kernel)⟩
theorem lw_p29 : lw_okq (⟨"UnitSumsModel", "copy", "(II)V"⟩, 25) := ⟨⟨by decide +kernel, by decide +kernel⟩, List.mem_of_getElem? (i := 526) (by decide +kernel), List.mem_of_getElem? (i := 718) (by decide +kernel), List.mem_of_getElem? (i := 719) (by decide +kernel)⟩
theorem lw_p30 : lw_okq (⟨"UnitSumsModel", "maySplit", "(II)Z"⟩, 25) := ⟨⟨by decide +kernel, by decide +kernel⟩, List.mem_of_getElem? (i := 526) (by decide +kernel), List.mem_of_getElem? (i := 726) (by decide +kernel), List.mem_of_getElem? (i := 727) (by decide +kernel)⟩
theorem lw_p31 : lw_okq (⟨"UnitSumsModel", "isTerm", "(I)Z"⟩, 25) := ⟨⟨by decide +kernel, by decide +kernel⟩, List.mem_of_getElem? (i := 526) (by decide +kernel), List.mem_of_getElem? (i := 735) (by decide +kernel), List.mem_of_getElem? (i := 736) (by decide +kernel)⟩
def lw_privs_2 : List (MethodName × Nat) := [(⟨"UnitSumsModel", "take", "()V"⟩, 25), (⟨"UnitSumsModel", "readsFraction", "()Z"⟩, 25), (⟨"UnitSumsModel", "isNumber", "(II)Z"⟩, 25), (⟨"UnitSumsModel", "readsEnd", "()Z"⟩, 25), (⟨"UnitSumsModel", "readsSum", "()Z"⟩, 25), (⟨"UnitSumsModel", "isWhole", "()Z"⟩, 25), (⟨"UnitSumsModel", "least", "(I)I"⟩, 25), (⟨"UnitSumsModel", "goesThrough", "(III)I"⟩, 25), (⟨"UnitSumsModel", "few", "(I)I"⟩, 25), (⟨"UnitSumsModel", "top", "(I)I"⟩, 25), (⟨"UnitSumsModel", "firstOf", "(II)I"⟩, 25), (⟨"UnitSumsModel", "byLeastTop", "()I"⟩, 25), (⟨"UnitSumsModel", "minds", "()V"⟩, 25), (⟨"UnitSumsModel", "copy", "(II)V"⟩, 25), (⟨"UnitSumsModel", "maySplit", "(II)Z"⟩, 25), (⟨"UnitSumsModel", "isTerm", "(I)Z"⟩, 25)]
theorem lw_r2 : ∀ q ∈ lw_privs_2, lw_okq q := List.forall_mem_cons.mpr ⟨lw_p16, List.forall_mem_cons.mpr ⟨lw_p17, List.forall_mem_cons.mpr ⟨lw_p18, List.forall_mem_cons.mpr ⟨lw_p19, List.forall_mem_cons.mpr ⟨lw_p20, List.forall_mem_cons.mpr ⟨lw_p21, List.forall_mem_cons.mpr ⟨lw_p22, List.forall_mem_cons.mpr ⟨lw_p23, List.forall_mem_cons.mpr ⟨lw_p24, List.forall_mem_cons.mpr ⟨lw_p25, List.forall_mem_cons.mpr ⟨lw_p26, List.forall_mem_cons.mpr ⟨lw_p27, List.forall_mem_cons.mpr ⟨lw_p28, List.forall_mem_cons.mpr ⟨lw_p29, List.forall_mem_cons.mpr ⟨lw_p30, List.forall_mem_cons.mpr ⟨lw_p31, fun _ h => absurd h List.not_mem_nil⟩⟩⟩⟩⟩⟩⟩⟩⟩⟩⟩⟩⟩⟩⟩⟩
theorem lw_p32 : lw_okq (⟨"UnitSumsModel", "goes", "(I)V"⟩, 25) := ⟨⟨by decide +kernel, by decide +kernel⟩, List.mem_of_getElem? (i := 526) (by decide +kernel), List.mem_of_getElem? (i := 739) (by decide +kernel), List.mem_of_getElem? (i := 740) (by decide +kernel)⟩
theorem lw_p33 : lw_okq (⟨"UnitSumsModel", "comes", "(I)V"⟩, 25) := ⟨⟨by decide +kernel, by decide +kernel⟩, List.mem_of_getElem? (i := 526) (by decide +kernel), List.mem_of_getElem? (i := 743) (by decide +kernel), List.mem_of_getElem? (i := 744) (by decide +kernel)⟩
def lw_privs_3 : List (MethodName × Nat) := [(⟨"UnitSumsModel", "goes", "(I)V"⟩, 25), (⟨"UnitSumsModel", "comes", "(I)V"⟩, 25)]
theorem lw_r3 : ∀ q ∈ lw_privs_3, lw_okq q := List.forall_mem_cons.mpr ⟨lw_p32, List.forall_mem_cons.mpr ⟨lw_p33, fun _ h => absurd h List.not_mem_nil⟩⟩
def lw_privs : List (MethodName × Nat) := lw_privs_1 ++ (lw_privs_2 ++ (lw_privs_3))
def lw_tbl : List Cond := k2_sels lw_privs ++ tables_1
theorem lw_privs_ok : ∀ q ∈ lw_privs, lw_okq q := by
  show ∀ q ∈ lw_privs_1 ++ (lw_privs_2 ++ (lw_privs_3)), lw_okq q
  exact List.forall_mem_append.mpr ⟨lw_r1, List.forall_mem_append.mpr ⟨lw_r2, lw_r3⟩⟩
def RX0 : String := "UnitSums$Finder"
def TX0 : u_T := fun k => match k with
  | 0 => ("UnitSums$Finder", "p", "I", false)
  | 1 => ("UnitSums$Finder", "q", "I", false)
  | 2 => ("UnitSums$Finder", "found", "[[I", true)
  | 3 => ("UnitSums$Finder", "amounts", "[I", true)
  | _ => ("UnitSums$Finder", "sought", "[Z", true)
def tyX0 : Nat → FieldType := fun k => match k with
  | 0 => .int
  | 1 => .int
  | 2 => .array (.array .int)
  | 3 => .array .int
  | _ => .array .boolean
abbrev wsX00 : List Cond := u_ws RX0 TX0 5
theorem nmX0 : ∀ a, a < 5 → ∀ b, b < 5 → a ≠ b → (TX0 a).2.1 ≠ (TX0 b).2.1 := by decide +kernel
theorem tyX0_ok : ∀ k, k < 5 → parseFieldDescriptor (TX0 k).2.2.1 = some (tyX0 k) := by decide +kernel
abbrev cX0_init : ByteArray := prog_2_method_1_code
def yX0_init : MethodName := ⟨RX0, "<init>", "()V"⟩
abbrev cX0_turnTo : ByteArray := prog_2_method_2_code
def yX0_turnTo : MethodName := ⟨RX0, "turnTo", "(II)V"⟩
abbrev cX0_howMany : ByteArray := prog_2_method_3_code
def yX0_howMany : MethodName := ⟨RX0, "howMany", "(II)I"⟩
abbrev cX0_numberOf : ByteArray := prog_2_method_4_code
def yX0_numberOf : MethodName := ⟨RX0, "numberOf", "(IIII)I"⟩
abbrev cX0_leastLength : ByteArray := prog_2_method_5_code
def yX0_leastLength : MethodName := ⟨RX0, "leastLength", "(I)I"⟩
abbrev cX0_leastBound : ByteArray := prog_2_method_6_code
def yX0_leastBound : MethodName := ⟨RX0, "leastBound", "(I)I"⟩
abbrev cX0_lengthOfLeastBound : ByteArray := prog_2_method_7_code
def yX0_lengthOfLeastBound : MethodName := ⟨RX0, "lengthOfLeastBound", "()I"⟩
abbrev cX0_copyFirst : ByteArray := prog_2_method_8_code
def yX0_copyFirst : MethodName := ⟨RX0, "copyFirst", "(IILUnitSums$Row;)Z"⟩
abbrev cX0_pick : ByteArray := prog_2_method_9_code
def yX0_pick : MethodName := ⟨RX0, "pick", "(III)I"⟩
abbrev cX0_greatest : ByteArray := prog_2_method_10_code
def yX0_greatest : MethodName := ⟨RX0, "greatest", "(I)I"⟩
abbrev cX0_unpack : ByteArray := prog_2_method_11_code
def yX0_unpack : MethodName := ⟨RX0, "unpack", "(III)I"⟩
abbrev cX0_seek : ByteArray := prog_2_method_12_code
def yX0_seek : MethodName := ⟨RX0, "seek", "(I)I"⟩
abbrev cX0_extend : ByteArray := prog_2_method_13_code
def yX0_extend : MethodName := ⟨RX0, "extend", "(LUnitSums$Finder;IIIJJ)V"⟩
abbrev cX0_end : ByteArray := prog_2_method_14_code
def yX0_end : MethodName := ⟨RX0, "end", "(IIIJJ)V"⟩
def RX1 : String := "UnitSums$History"
def TX1 : u_T := fun k => match k with
  | 0 => ("UnitSums$History", "rows", "[LUnitSums$Row;", true)
  | _ => ("UnitSums$History", "length", "I", false)
def tyX1 : Nat → FieldType := fun k => match k with
  | 0 => .array (.object "UnitSums$Row")
  | _ => .int
abbrev wsX10 : List Cond := u_ws RX1 TX1 2
theorem nmX1 : ∀ a, a < 2 → ∀ b, b < 2 → a ≠ b → (TX1 a).2.1 ≠ (TX1 b).2.1 := by decide +kernel
theorem tyX1_ok : ∀ k, k < 2 → parseFieldDescriptor (TX1 k).2.2.1 = some (tyX1 k) := by decide +kernel
abbrev cX1_init : ByteArray := prog_3_method_1_code
def yX1_init : MethodName := ⟨RX1, "<init>", "()V"⟩
abbrev cX1_length : ByteArray := prog_3_method_2_code
def yX1_length : MethodName := ⟨RX1, "length", "()I"⟩
abbrev cX1_wipe : ByteArray := prog_3_method_3_code
def yX1_wipe : MethodName := ⟨RX1, "wipe", "()V"⟩
abbrev cX1_store : ByteArray := prog_3_method_4_code
def yX1_store : MethodName := ⟨RX1, "store", "(LUnitSums$Row;)V"⟩
abbrev cX1_loseOldest : ByteArray := prog_3_method_5_code
def yX1_loseOldest : MethodName := ⟨RX1, "loseOldest", "()V"⟩
abbrev cX1_restore : ByteArray := prog_3_method_6_code
def yX1_restore : MethodName := ⟨RX1, "restore", "(LUnitSums$Row;)Z"⟩
def RX2 : String := "UnitSums$Row"
def TX2 : u_T := fun k => match k with
  | 0 => ("UnitSums$Row", "numbers", "[I", true)
  | _ => ("UnitSums$Row", "length", "I", false)
def tyX2 : Nat → FieldType := fun k => match k with
  | 0 => .array .int
  | _ => .int
abbrev wsX20 : List Cond := u_ws RX2 TX2 2
theorem nmX2 : ∀ a, a < 2 → ∀ b, b < 2 → a ≠ b → (TX2 a).2.1 ≠ (TX2 b).2.1 := by decide +kernel
theorem tyX2_ok : ∀ k, k < 2 → parseFieldDescriptor (TX2 k).2.2.1 = some (tyX2 k) := by decide +kernel
abbrev cX2_init : ByteArray := prog_4_method_1_code
def yX2_init : MethodName := ⟨RX2, "<init>", "()V"⟩
abbrev cX2_length : ByteArray := prog_4_method_2_code
def yX2_length : MethodName := ⟨RX2, "length", "()I"⟩
abbrev cX2_reaches : ByteArray := prog_4_method_3_code
def yX2_reaches : MethodName := ⟨RX2, "reaches", "(I)Z"⟩
abbrev cX2_at : ByteArray := prog_4_method_4_code
def yX2_at : MethodName := ⟨RX2, "at", "(I)I"⟩
abbrev cX2_wipe : ByteArray := prog_4_method_5_code
def yX2_wipe : MethodName := ⟨RX2, "wipe", "()V"⟩
abbrev cX2_copy : ByteArray := prog_4_method_6_code
def yX2_copy : MethodName := ⟨RX2, "copy", "(LUnitSums$Row;)V"⟩
abbrev cX2_drop : ByteArray := prog_4_method_7_code
def yX2_drop : MethodName := ⟨RX2, "drop", "(I)V"⟩
abbrev cX2_insert : ByteArray := prog_4_method_8_code
def yX2_insert : MethodName := ⟨RX2, "insert", "(J)Z"⟩
abbrev cX2_adds : ByteArray := prog_4_method_9_code
def yX2_adds : MethodName := ⟨RX2, "adds", "(II)Z"⟩
def RX3 : String := "UnitSums$Script"
def TX3 : u_T := fun k => match k with
  | 0 => ("UnitSums$Script", "letters", "[C", true)
  | 1 => ("UnitSums$Script", "length", "I", false)
  | 2 => ("UnitSums$Script", "place", "I", false)
  | 3 => ("UnitSums$Script", "token", "I", false)
  | 4 => ("UnitSums$Script", "start", "I", false)
  | 5 => ("UnitSums$Script", "value", "I", false)
  | 6 => ("UnitSums$Script", "above", "I", false)
  | 7 => ("UnitSums$Script", "below", "I", false)
  | _ => ("UnitSums$Script", "told", "LUnitSums$Row;", true)
def tyX3 : Nat → FieldType := fun k => match k with
  | 0 => .array .char
  | 1 => .int
  | 2 => .int
  | 3 => .int
  | 4 => .int
  | 5 => .int
  | 6 => .int
  | 7 => .int
  | _ => .object "UnitSums$Row"
abbrev wsX30 : List Cond := u_ws RX3 TX3 9
theorem nmX3 : ∀ a, a < 9 → ∀ b, b < 9 → a ≠ b → (TX3 a).2.1 ≠ (TX3 b).2.1 := by decide +kernel
theorem tyX3_ok : ∀ k, k < 9 → parseFieldDescriptor (TX3 k).2.2.1 = some (tyX3 k) := by decide +kernel
abbrev cX3_init : ByteArray := prog_5_method_1_code
def yX3_init : MethodName := ⟨RX3, "<init>", "()V"⟩
abbrev cX3_length : ByteArray := prog_5_method_2_code
def yX3_length : MethodName := ⟨RX3, "length", "()I"⟩
abbrev cX3_wipe : ByteArray := prog_5_method_3_code
def yX3_wipe : MethodName := ⟨RX3, "wipe", "()V"⟩
abbrev cX3_append : ByteArray := prog_5_method_4_code
def yX3_append : MethodName := ⟨RX3, "append", "(I)Z"⟩
abbrev cX3_toldP : ByteArray := prog_5_method_5_code
def yX3_toldP : MethodName := ⟨RX3, "toldP", "()I"⟩
abbrev cX3_toldQ : ByteArray := prog_5_method_6_code
def yX3_toldQ : MethodName := ⟨RX3, "toldQ", "()I"⟩
abbrev cX3_toldTerms : ByteArray := prog_5_method_7_code
def yX3_toldTerms : MethodName := ⟨RX3, "toldTerms", "()LUnitSums$Row;"⟩
abbrev cX3_read : ByteArray := prog_5_method_8_code
def yX3_read : MethodName := ⟨RX3, "read", "()I"⟩
abbrev cX3_follow : ByteArray := prog_5_method_9_code
def yX3_follow : MethodName := ⟨RX3, "follow", "(I)I"⟩
abbrev cX3_isNumberTo : ByteArray := prog_5_method_10_code
def yX3_isNumberTo : MethodName := ⟨RX3, "isNumberTo", "(I)Z"⟩
abbrev cX3_takeAbove : ByteArray := prog_5_method_11_code
def yX3_takeAbove : MethodName := ⟨RX3, "takeAbove", "()I"⟩
abbrev cX3_takeBelow : ByteArray := prog_5_method_12_code
def yX3_takeBelow : MethodName := ⟨RX3, "takeBelow", "()I"⟩
abbrev cX3_takeTerm : ByteArray := prog_5_method_13_code
def yX3_takeTerm : MethodName := ⟨RX3, "takeTerm", "()I"⟩
abbrev cX3_endSum : ByteArray := prog_5_method_14_code
def yX3_endSum : MethodName := ⟨RX3, "endSum", "()I"⟩
abbrev cX3_readToken : ByteArray := prog_5_method_15_code
def yX3_readToken : MethodName := ⟨RX3, "readToken", "()V"⟩
abbrev cX3_kindOf : ByteArray := prog_5_method_16_code
def yX3_kindOf : MethodName := ⟨RX3, "kindOf", "(C)I"⟩
abbrev cX3_readNumber : ByteArray := prog_5_method_17_code
def yX3_readNumber : MethodName := ⟨RX3, "readNumber", "()V"⟩
abbrev cX3_isFigure : ByteArray := prog_5_method_18_code
def yX3_isFigure : MethodName := ⟨RX3, "isFigure", "(C)Z"⟩
def RX4 : String := "UnitSums$Witness"
def TX4 : u_T := fun k => match k with
  | 0 => ("UnitSums$Witness", "numerators", "[I", true)
  | 1 => ("UnitSums$Witness", "numbers", "[I", true)
  | 2 => ("UnitSums$Witness", "split", "[Z", true)
  | _ => ("UnitSums$Witness", "length", "I", false)
def tyX4 : Nat → FieldType := fun k => match k with
  | 0 => .array .int
  | 1 => .array .int
  | 2 => .array .boolean
  | _ => .int
abbrev wsX40 : List Cond := u_ws RX4 TX4 4
theorem nmX4 : ∀ a, a < 4 → ∀ b, b < 4 → a ≠ b → (TX4 a).2.1 ≠ (TX4 b).2.1 := by decide +kernel
theorem tyX4_ok : ∀ k, k < 4 → parseFieldDescriptor (TX4 k).2.2.1 = some (tyX4 k) := by decide +kernel
abbrev cX4_init : ByteArray := prog_6_method_1_code
def yX4_init : MethodName := ⟨RX4, "<init>", "()V"⟩
abbrev cX4_length : ByteArray := prog_6_method_2_code
def yX4_length : MethodName := ⟨RX4, "length", "()I"⟩
abbrev cX4_wipe : ByteArray := prog_6_method_3_code
def yX4_wipe : MethodName := ⟨RX4, "wipe", "()V"⟩
abbrev cX4_add : ByteArray := prog_6_method_4_code
def yX4_add : MethodName := ⟨RX4, "add", "(IIZ)Z"⟩
abbrev cX4_suspects : ByteArray := prog_6_method_5_code
def yX4_suspects : MethodName := ⟨RX4, "suspects", "()I"⟩
def RX5 : String := "UnitSums"
def TX5 : u_T := fun k => match k with
  | 0 => ("UnitSums", "p", "I", false)
  | 1 => ("UnitSums", "q", "I", false)
  | 2 => ("UnitSums", "terms", "LUnitSums$Row;", true)
  | 3 => ("UnitSums", "draft", "LUnitSums$Row;", true)
  | 4 => ("UnitSums", "script", "LUnitSums$Script;", true)
  | 5 => ("UnitSums", "history", "LUnitSums$History;", true)
  | 6 => ("UnitSums", "images", "[LUnitSums$Row;", true)
  | 7 => ("UnitSums", "kept", "[Z", true)
  | 8 => ("UnitSums", "finder", "LUnitSums$Finder;", true)
  | _ => ("UnitSums", "witness", "LUnitSums$Witness;", true)
def tyX5 : Nat → FieldType := fun k => match k with
  | 0 => .int
  | 1 => .int
  | 2 => .object "UnitSums$Row"
  | 3 => .object "UnitSums$Row"
  | 4 => .object "UnitSums$Script"
  | 5 => .object "UnitSums$History"
  | 6 => .array (.object "UnitSums$Row")
  | 7 => .array .boolean
  | 8 => .object "UnitSums$Finder"
  | _ => .object "UnitSums$Witness"
abbrev wsX50 : List Cond := u_ws RX5 TX5 10
theorem nmX5 : ∀ a, a < 10 → ∀ b, b < 10 → a ≠ b → (TX5 a).2.1 ≠ (TX5 b).2.1 := by decide +kernel
theorem tyX5_ok : ∀ k, k < 10 → parseFieldDescriptor (TX5 k).2.2.1 = some (tyX5 k) := by decide +kernel
abbrev cX5_init : ByteArray := prog_1_method_1_code
def yX5_init : MethodName := ⟨RX5, "<init>", "()V"⟩
abbrev cX5_type : ByteArray := prog_1_method_2_code
def yX5_type : MethodName := ⟨RX5, "type", "(I)I"⟩
abbrev cX5_clear : ByteArray := prog_1_method_3_code
def yX5_clear : MethodName := ⟨RX5, "clear", "()I"⟩
abbrev cX5_fraction : ByteArray := prog_1_method_4_code
def yX5_fraction : MethodName := ⟨RX5, "fraction", "()I"⟩
abbrev cX5_makes : ByteArray := prog_1_method_5_code
def yX5_makes : MethodName := ⟨RX5, "makes", "(I)I"⟩
abbrev cX5_splits : ByteArray := prog_1_method_6_code
def yX5_splits : MethodName := ⟨RX5, "splits", "(II)I"⟩
abbrev cX5_joins : ByteArray := prog_1_method_7_code
def yX5_joins : MethodName := ⟨RX5, "joins", "(II)I"⟩
abbrev cX5_undo : ByteArray := prog_1_method_8_code
def yX5_undo : MethodName := ⟨RX5, "undo", "()I"⟩
abbrev cX5_term : ByteArray := prog_1_method_9_code
def yX5_term : MethodName := ⟨RX5, "term", "(I)I"⟩
abbrev cX5_greedy : ByteArray := prog_1_method_10_code
def yX5_greedy : MethodName := ⟨RX5, "greedy", "(II)I"⟩
abbrev cX5_sums : ByteArray := prog_1_method_11_code
def yX5_sums : MethodName := ⟨RX5, "sums", "(II)I"⟩
abbrev cX5_sum : ByteArray := prog_1_method_12_code
def yX5_sum : MethodName := ⟨RX5, "sum", "(IIII)I"⟩
abbrev cX5_fewest : ByteArray := prog_1_method_13_code
def yX5_fewest : MethodName := ⟨RX5, "fewest", "(I)I"⟩
abbrev cX5_bound : ByteArray := prog_1_method_14_code
def yX5_bound : MethodName := ⟨RX5, "bound", "(I)I"⟩
abbrev cX5_holds : ByteArray := prog_1_method_15_code
def yX5_holds : MethodName := ⟨RX5, "holds", "(III)I"⟩
abbrev cX5_covered : ByteArray := prog_1_method_16_code
def yX5_covered : MethodName := ⟨RX5, "covered", "(III)I"⟩
abbrev cX5_open : ByteArray := prog_1_method_17_code
def yX5_open : MethodName := ⟨RX5, "open", "(II)I"⟩
abbrev cX5_sees : ByteArray := prog_1_method_18_code
def yX5_sees : MethodName := ⟨RX5, "sees", "(III)I"⟩
abbrev cX5_forget : ByteArray := prog_1_method_19_code
def yX5_forget : MethodName := ⟨RX5, "forget", "()I"⟩
abbrev cX5_unseen : ByteArray := prog_1_method_20_code
def yX5_unseen : MethodName := ⟨RX5, "unseen", "()I"⟩
abbrev cX5_ask : ByteArray := prog_1_method_21_code
def yX5_ask : MethodName := ⟨RX5, "ask", "(I)I"⟩
abbrev cX5_keep : ByteArray := prog_1_method_22_code
def yX5_keep : MethodName := ⟨RX5, "keep", "(I)I"⟩
abbrev cX5_back : ByteArray := prog_1_method_23_code
def yX5_back : MethodName := ⟨RX5, "back", "(I)I"⟩
abbrev cX5_count : ByteArray := prog_1_method_24_code
def yX5_count : MethodName := ⟨RX5, "count", "(I)I"⟩
abbrev cX5_isLength : ByteArray := prog_1_method_25_code
def yX5_isLength : MethodName := ⟨RX5, "isLength", "(I)Z"⟩
abbrev cX5_isBound : ByteArray := prog_1_method_26_code
def yX5_isBound : MethodName := ⟨RX5, "isBound", "(I)Z"⟩
abbrev cX5_isNumerator : ByteArray := prog_1_method_27_code
def yX5_isNumerator : MethodName := ⟨RX5, "isNumerator", "(I)Z"⟩
abbrev cX5_isChoice : ByteArray := prog_1_method_28_code
def yX5_isChoice : MethodName := ⟨RX5, "isChoice", "(I)Z"⟩
abbrev cX5_startAnew : ByteArray := prog_1_method_29_code
def yX5_startAnew : MethodName := ⟨RX5, "startAnew", "()V"⟩
abbrev cX5_takeDraft : ByteArray := prog_1_method_30_code
def yX5_takeDraft : MethodName := ⟨RX5, "takeDraft", "()I"⟩
abbrev cX5_draftBy : ByteArray := prog_1_method_31_code
def yX5_draftBy : MethodName := ⟨RX5, "draftBy", "(I)Z"⟩
abbrev cX5_splitInto : ByteArray := prog_1_method_32_code
def yX5_splitInto : MethodName := ⟨RX5, "splitInto", "(LUnitSums$Row;JI)Z"⟩
abbrev cX5_oneForTwo : ByteArray := prog_1_method_33_code
def yX5_oneForTwo : MethodName := ⟨RX5, "oneForTwo", "(JJ)I"⟩
abbrev cX5_takeGreedily : ByteArray := prog_1_method_34_code
def yX5_takeGreedily : MethodName := ⟨RX5, "takeGreedily", "(IIZLUnitSums$Row;)Z"⟩
abbrev cX5_commonDivisor : ByteArray := prog_1_method_35_code
def yX5_commonDivisor : MethodName := ⟨RX5, "commonDivisor", "(JJ)J"⟩
abbrev cX5_isSplit : ByteArray := prog_1_method_36_code
def yX5_isSplit : MethodName := ⟨RX5, "isSplit", "(III)Z"⟩
abbrev cX5_divides : ByteArray := prog_1_method_37_code
def yX5_divides : MethodName := ⟨RX5, "divides", "(II)Z"⟩
abbrev cX5_splitters : ByteArray := prog_1_method_38_code
def yX5_splitters : MethodName := ⟨RX5, "splitters", "(II)I"⟩
abbrev cX5_isCovered : ByteArray := prog_1_method_39_code
def yX5_isCovered : MethodName := ⟨RX5, "isCovered", "(IIII)Z"⟩
abbrev cX5_bestQuestion : ByteArray := prog_1_method_40_code
def yX5_bestQuestion : MethodName := ⟨RX5, "bestQuestion", "(II)I"⟩
def RX6 : String := "UnitSumsModel"
def TX6 : u_T := fun k => match k with
  | 0 => ("UnitSumsModel", "w", "[I", true)
  | 1 => ("UnitSumsModel", "isKept", "[Z", true)
  | 2 => ("UnitSumsModel", "undos", "I", false)
  | 3 => ("UnitSumsModel", "upper", "I", false)
  | 4 => ("UnitSumsModel", "lower", "I", false)
  | 5 => ("UnitSumsModel", "seenFor", "[I", true)
  | 6 => ("UnitSumsModel", "seenNumber", "[I", true)
  | 7 => ("UnitSumsModel", "seenSplit", "[I", true)
  | 8 => ("UnitSumsModel", "seen", "I", false)
  | 9 => ("UnitSumsModel", "text", "[I", true)
  | 10 => ("UnitSumsModel", "letters", "I", false)
  | 11 => ("UnitSumsModel", "here", "I", false)
  | 12 => ("UnitSumsModel", "begin", "I", false)
  | 13 => ("UnitSumsModel", "token", "I", false)
  | 14 => ("UnitSumsModel", "items", "I", false)
  | 15 => ("UnitSumsModel", "newUpper", "I", false)
  | 16 => ("UnitSumsModel", "newLower", "I", false)
  | 17 => ("UnitSumsModel", "newMany", "I", false)
  | 18 => ("UnitSumsModel", "newTerm", "[I", true)
  | 19 => ("UnitSumsModel", "made", "[I", true)
  | 20 => ("UnitSumsModel", "leftUpper", "[J", true)
  | 21 => ("UnitSumsModel", "leftLower", "[J", true)
  | 22 => ("UnitSumsModel", "row", "[I", true)
  | 23 => ("UnitSumsModel", "wanted", "[I", true)
  | _ => ("UnitSumsModel", "leastTop", "I", false)
def tyX6 : Nat → FieldType := fun k => match k with
  | 0 => .array .int
  | 1 => .array .boolean
  | 2 => .int
  | 3 => .int
  | 4 => .int
  | 5 => .array .int
  | 6 => .array .int
  | 7 => .array .int
  | 8 => .int
  | 9 => .array .int
  | 10 => .int
  | 11 => .int
  | 12 => .int
  | 13 => .int
  | 14 => .int
  | 15 => .int
  | 16 => .int
  | 17 => .int
  | 18 => .array .int
  | 19 => .array .int
  | 20 => .array .long
  | 21 => .array .long
  | 22 => .array .int
  | 23 => .array .int
  | _ => .int
abbrev wsX60 : List Cond := u_ws RX6 TX6 25
theorem nmX6 : ∀ a, a < 25 → ∀ b, b < 25 → a ≠ b → (TX6 a).2.1 ≠ (TX6 b).2.1 := by decide +kernel
theorem tyX6_ok : ∀ k, k < 25 → parseFieldDescriptor (TX6 k).2.2.1 = some (tyX6 k) := by decide +kernel
abbrev cX6_init : ByteArray := prog_8_method_1_code
def yX6_init : MethodName := ⟨RX6, "<init>", "()V"⟩
abbrev cX6_in : ByteArray := prog_8_method_3_code
def yX6_in : MethodName := ⟨RX6, "in", "(JJJ)Z"⟩
abbrev cX6_copy : ByteArray := prog_8_method_4_code
def yX6_copy : MethodName := ⟨RX6, "copy", "(II)V"⟩
abbrev cX6_minds : ByteArray := prog_8_method_5_code
def yX6_minds : MethodName := ⟨RX6, "minds", "()V"⟩
abbrev cX6_isDigit : ByteArray := prog_8_method_6_code
def yX6_isDigit : MethodName := ⟨RX6, "isDigit", "(I)Z"⟩
abbrev cX6_take : ByteArray := prog_8_method_7_code
def yX6_take : MethodName := ⟨RX6, "take", "()V"⟩
abbrev cX6_isNumber : ByteArray := prog_8_method_8_code
def yX6_isNumber : MethodName := ⟨RX6, "isNumber", "(II)Z"⟩
abbrev cX6_readsEnd : ByteArray := prog_8_method_9_code
def yX6_readsEnd : MethodName := ⟨RX6, "readsEnd", "()Z"⟩
abbrev cX6_readsFraction : ByteArray := prog_8_method_10_code
def yX6_readsFraction : MethodName := ⟨RX6, "readsFraction", "()Z"⟩
abbrev cX6_isWhole : ByteArray := prog_8_method_11_code
def yX6_isWhole : MethodName := ⟨RX6, "isWhole", "()Z"⟩
abbrev cX6_readsSum : ByteArray := prog_8_method_12_code
def yX6_readsSum : MethodName := ⟨RX6, "readsSum", "()Z"⟩
abbrev cX6_reads : ByteArray := prog_8_method_13_code
def yX6_reads : MethodName := ⟨RX6, "reads", "()Z"⟩
abbrev cX6_type : ByteArray := prog_8_method_14_code
def yX6_type : MethodName := ⟨RX6, "type", "(I)I"⟩
abbrev cX6_clear : ByteArray := prog_8_method_15_code
def yX6_clear : MethodName := ⟨RX6, "clear", "()I"⟩
abbrev cX6_fraction : ByteArray := prog_8_method_16_code
def yX6_fraction : MethodName := ⟨RX6, "fraction", "()I"⟩
abbrev cX6_common : ByteArray := prog_8_method_17_code
def yX6_common : MethodName := ⟨RX6, "common", "(JJ)J"⟩
abbrev cX6_least : ByteArray := prog_8_method_18_code
def yX6_least : MethodName := ⟨RX6, "least", "(I)I"⟩
abbrev cX6_goesThrough : ByteArray := prog_8_method_19_code
def yX6_goesThrough : MethodName := ⟨RX6, "goesThrough", "(III)I"⟩
abbrev cX6_few : ByteArray := prog_8_method_20_code
def yX6_few : MethodName := ⟨RX6, "few", "(I)I"⟩
abbrev cX6_top : ByteArray := prog_8_method_21_code
def yX6_top : MethodName := ⟨RX6, "top", "(I)I"⟩
abbrev cX6_firstOf : ByteArray := prog_8_method_22_code
def yX6_firstOf : MethodName := ⟨RX6, "firstOf", "(II)I"⟩
abbrev cX6_byLeastTop : ByteArray := prog_8_method_23_code
def yX6_byLeastTop : MethodName := ⟨RX6, "byLeastTop", "()I"⟩
abbrev cX6_greedy : ByteArray := prog_8_method_24_code
def yX6_greedy : MethodName := ⟨RX6, "greedy", "(II)I"⟩
abbrev cX6_sums : ByteArray := prog_8_method_25_code
def yX6_sums : MethodName := ⟨RX6, "sums", "(II)I"⟩
abbrev cX6_sum : ByteArray := prog_8_method_26_code
def yX6_sum : MethodName := ⟨RX6, "sum", "(IIII)I"⟩
abbrev cX6_fewest : ByteArray := prog_8_method_27_code
def yX6_fewest : MethodName := ⟨RX6, "fewest", "(I)I"⟩
abbrev cX6_bound : ByteArray := prog_8_method_28_code
def yX6_bound : MethodName := ⟨RX6, "bound", "(I)I"⟩
abbrev cX6_isTerm : ByteArray := prog_8_method_29_code
def yX6_isTerm : MethodName := ⟨RX6, "isTerm", "(I)Z"⟩
abbrev cX6_comes : ByteArray := prog_8_method_30_code
def yX6_comes : MethodName := ⟨RX6, "comes", "(I)V"⟩
abbrev cX6_goes : ByteArray := prog_8_method_31_code
def yX6_goes : MethodName := ⟨RX6, "goes", "(I)V"⟩
abbrev cX6_makes : ByteArray := prog_8_method_32_code
def yX6_makes : MethodName := ⟨RX6, "makes", "(I)I"⟩
abbrev cX6_part : ByteArray := prog_8_method_33_code
def yX6_part : MethodName := ⟨RX6, "part", "(JII)J"⟩
abbrev cX6_maySplit : ByteArray := prog_8_method_34_code
def yX6_maySplit : MethodName := ⟨RX6, "maySplit", "(II)Z"⟩
abbrev cX6_splits : ByteArray := prog_8_method_35_code
def yX6_splits : MethodName := ⟨RX6, "splits", "(II)I"⟩
abbrev cX6_joins : ByteArray := prog_8_method_36_code
def yX6_joins : MethodName := ⟨RX6, "joins", "(II)I"⟩
abbrev cX6_undo : ByteArray := prog_8_method_37_code
def yX6_undo : MethodName := ⟨RX6, "undo", "()I"⟩
abbrev cX6_term : ByteArray := prog_8_method_38_code
def yX6_term : MethodName := ⟨RX6, "term", "(I)I"⟩
abbrev cX6_isHeld : ByteArray := prog_8_method_39_code
def yX6_isHeld : MethodName := ⟨RX6, "isHeld", "(III)Z"⟩
abbrev cX6_held : ByteArray := prog_8_method_40_code
def yX6_held : MethodName := ⟨RX6, "held", "(II)I"⟩
abbrev cX6_holds : ByteArray := prog_8_method_41_code
def yX6_holds : MethodName := ⟨RX6, "holds", "(III)I"⟩
abbrev cX6_covered : ByteArray := prog_8_method_42_code
def yX6_covered : MethodName := ⟨RX6, "covered", "(III)I"⟩
abbrev cX6_open : ByteArray := prog_8_method_43_code
def yX6_open : MethodName := ⟨RX6, "open", "(II)I"⟩
abbrev cX6_sees : ByteArray := prog_8_method_44_code
def yX6_sees : MethodName := ⟨RX6, "sees", "(III)I"⟩
abbrev cX6_forget : ByteArray := prog_8_method_45_code
def yX6_forget : MethodName := ⟨RX6, "forget", "()I"⟩
abbrev cX6_unseen : ByteArray := prog_8_method_46_code
def yX6_unseen : MethodName := ⟨RX6, "unseen", "()I"⟩
abbrev cX6_ones : ByteArray := prog_8_method_47_code
def yX6_ones : MethodName := ⟨RX6, "ones", "(I)I"⟩
abbrev cX6_ask : ByteArray := prog_8_method_48_code
def yX6_ask : MethodName := ⟨RX6, "ask", "(I)I"⟩
abbrev cX6_keep : ByteArray := prog_8_method_49_code
def yX6_keep : MethodName := ⟨RX6, "keep", "(I)I"⟩
abbrev cX6_back : ByteArray := prog_8_method_50_code
def yX6_back : MethodName := ⟨RX6, "back", "(I)I"⟩
abbrev cX6_count : ByteArray := prog_8_method_51_code
def yX6_count : MethodName := ⟨RX6, "count", "(I)I"⟩
def RJ6 : String := "java/lang/Integer"
def TJ6 : u_T := fun k => match k with
  | _ => ("", "", "", false)
def tyJ6 : Nat → FieldType := fun k => match k with
  | _ => .int
abbrev wsJ60 : List Cond := u_ws RJ6 TJ6 0
theorem nmJ6 : ∀ a, a < 0 → ∀ b, b < 0 → a ≠ b → (TJ6 a).2.1 ≠ (TJ6 b).2.1 := by decide +kernel
theorem tyJ6_ok : ∀ k, k < 0 → parseFieldDescriptor (TJ6 k).2.2.1 = some (tyJ6 k) := by decide +kernel
abbrev cJ6_bitCount_0f7a4 : ByteArray := prog_9_method_49_code
def yJ6_bitCount_0f7a4 : MethodName := ⟨RJ6, "bitCount", "(I)I"⟩
def RJ9 : String := "java/lang/Math"
def TJ9 : u_T := fun k => match k with
  | _ => ("", "", "", false)
def tyJ9 : Nat → FieldType := fun k => match k with
  | _ => .int
abbrev wsJ90 : List Cond := u_ws RJ9 TJ9 0
theorem nmJ9 : ∀ a, a < 0 → ∀ b, b < 0 → a ≠ b → (TJ9 a).2.1 ≠ (TJ9 b).2.1 := by decide +kernel
theorem tyJ9_ok : ∀ k, k < 0 → parseFieldDescriptor (TJ9 k).2.2.1 = some (tyJ9 k) := by decide +kernel
abbrev cJ9_max_7cf53 : ByteArray := prog_10_method_65_code
def yJ9_max_7cf53 : MethodName := ⟨RJ9, "max", "(II)I"⟩
abbrev cJ9_max_f86c9 : ByteArray := prog_10_method_66_code
def yJ9_max_f86c9 : MethodName := ⟨RJ9, "max", "(JJ)J"⟩
abbrev cJ9_min_7cf53 : ByteArray := prog_10_method_69_code
def yJ9_min_7cf53 : MethodName := ⟨RJ9, "min", "(II)I"⟩
def RJ10 : String := "java/lang/System"
def TJ10 : u_T := fun k => match k with
  | _ => ("", "", "", false)
def tyJ10 : Nat → FieldType := fun k => match k with
  | _ => .int
abbrev wsJ100 : List Cond := u_ws RJ10 TJ10 0
theorem nmJ10 : ∀ a, a < 0 → ∀ b, b < 0 → a ≠ b → (TJ10 a).2.1 ≠ (TJ10 b).2.1 := by decide +kernel
theorem tyJ10_ok : ∀ k, k < 0 → parseFieldDescriptor (TJ10 k).2.2.1 = some (tyJ10 k) := by decide +kernel
def RL : String := "UnitSumsLaw"
abbrev cL_law : ByteArray := code
def yL_law : MethodName := ⟨RL, "law", "([I)Z"⟩
abbrev vwCl : List vw_C := [(RX0, TX0, 5), (RX1, TX1, 2), (RX2, TX2, 2), (RX3, TX3, 9), (RX4, TX4, 4), (RX5, TX5, 10), (RX6, TX6, 25)]
