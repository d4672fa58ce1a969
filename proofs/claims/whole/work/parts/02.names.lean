-- ===== PART A: goes FIRST, ahead of the names: the tables' words, and 'selects' of the private methods out of them =====
/-- a private method of a class that the tables say can be made, by its rows of tables_1 -/
def lw_okq (q : MethodName × Nat) : Prop := (q.1.cls ≠ "java/lang/invoke/MethodHandle" ∧ q.1.cls ≠ "java/lang/invoke/VarHandle") ∧ Cond.instantiable q.1.cls q.2 ∈ tables_1 ∧ Cond.privateMethod q.1 ∈ tables_1 ∧ Cond.instanceMethod q.1 ∈ tables_1
theorem lw_p0 : lw_okq (⟨"java/lang/Throwable", "fillInStackTrace", "(I)Ljava/lang/Throwable;"⟩, 6) := ⟨⟨by decide +kernel, by decide +kernel⟩, List.mem_of_getElem? (i := 90) (by decide +kernel), List.mem_of_getElem? (i := 88) (by decide +kernel), List.mem_of_getElem? (i := 89) (by decide +kernel)⟩
theorem lw_p1 : lw_okq (⟨"TemporaryReals", "kindOf", "(I)I"⟩, 6) := ⟨⟨by decide +kernel, by decide +kernel⟩, List.mem_of_getElem? (i := 12) (by decide +kernel), List.mem_of_getElem? (i := 159) (by decide +kernel), List.mem_of_getElem? (i := 160) (by decide +kernel)⟩
theorem lw_p2 : lw_okq (⟨"TemporaryReals", "powerOf", "(I)I"⟩, 6) := ⟨⟨by decide +kernel, by decide +kernel⟩, List.mem_of_getElem? (i := 12) (by decide +kernel), List.mem_of_getElem? (i := 163) (by decide +kernel), List.mem_of_getElem? (i := 164) (by decide +kernel)⟩
theorem lw_p3 : lw_okq (⟨"TemporaryReals", "makeSize", "(IZIJJ)I"⟩, 6) := ⟨⟨by decide +kernel, by decide +kernel⟩, List.mem_of_getElem? (i := 12) (by decide +kernel), List.mem_of_getElem? (i := 190) (by decide +kernel), List.mem_of_getElem? (i := 191) (by decide +kernel)⟩
theorem lw_p4 : lw_okq (⟨"TemporaryReals", "store", "(IZIJ)V"⟩, 6) := ⟨⟨by decide +kernel, by decide +kernel⟩, List.mem_of_getElem? (i := 12) (by decide +kernel), List.mem_of_getElem? (i := 194) (by decide +kernel), List.mem_of_getElem? (i := 195) (by decide +kernel)⟩
theorem lw_p5 : lw_okq (⟨"TemporaryReals", "tell", "(III)I"⟩, 6) := ⟨⟨by decide +kernel, by decide +kernel⟩, List.mem_of_getElem? (i := 12) (by decide +kernel), List.mem_of_getElem? (i := 199) (by decide +kernel), List.mem_of_getElem? (i := 200) (by decide +kernel)⟩
theorem lw_p6 : lw_okq (⟨"TemporaryReals", "isMasked", "(I)Z"⟩, 6) := ⟨⟨by decide +kernel, by decide +kernel⟩, List.mem_of_getElem? (i := 12) (by decide +kernel), List.mem_of_getElem? (i := 203) (by decide +kernel), List.mem_of_getElem? (i := 204) (by decide +kernel)⟩
theorem lw_p7 : lw_okq (⟨"TemporaryReals", "makeSmall", "(IZIJJ)I"⟩, 6) := ⟨⟨by decide +kernel, by decide +kernel⟩, List.mem_of_getElem? (i := 12) (by decide +kernel), List.mem_of_getElem? (i := 207) (by decide +kernel), List.mem_of_getElem? (i := 208) (by decide +kernel)⟩
theorem lw_p8 : lw_okq (⟨"TemporaryReals", "digits", "()I"⟩, 6) := ⟨⟨by decide +kernel, by decide +kernel⟩, List.mem_of_getElem? (i := 12) (by decide +kernel), List.mem_of_getElem? (i := 211) (by decide +kernel), List.mem_of_getElem? (i := 212) (by decide +kernel)⟩
theorem lw_p9 : lw_okq (⟨"TemporaryReals", "takesAbove", "(JJZ)Z"⟩, 6) := ⟨⟨by decide +kernel, by decide +kernel⟩, List.mem_of_getElem? (i := 12) (by decide +kernel), List.mem_of_getElem? (i := 221) (by decide +kernel), List.mem_of_getElem? (i := 222) (by decide +kernel)⟩
theorem lw_p10 : lw_okq (⟨"TemporaryReals", "rounding", "()I"⟩, 6) := ⟨⟨by decide +kernel, by decide +kernel⟩, List.mem_of_getElem? (i := 12) (by decide +kernel), List.mem_of_getElem? (i := 225) (by decide +kernel), List.mem_of_getElem? (i := 226) (by decide +kernel)⟩
theorem lw_p11 : lw_okq (⟨"TemporaryReals", "goesAway", "(Z)Z"⟩, 6) := ⟨⟨by decide +kernel, by decide +kernel⟩, List.mem_of_getElem? (i := 12) (by decide +kernel), List.mem_of_getElem? (i := 229) (by decide +kernel), List.mem_of_getElem? (i := 230) (by decide +kernel)⟩
theorem lw_p12 : lw_okq (⟨"TemporaryReals", "makeRounded", "(IZIJJ)I"⟩, 6) := ⟨⟨by decide +kernel, by decide +kernel⟩, List.mem_of_getElem? (i := 12) (by decide +kernel), List.mem_of_getElem? (i := 236) (by decide +kernel), List.mem_of_getElem? (i := 237) (by decide +kernel)⟩
theorem lw_p13 : lw_okq (⟨"TemporaryReals", "makeTooGreat", "(IZI)I"⟩, 6) := ⟨⟨by decide +kernel, by decide +kernel⟩, List.mem_of_getElem? (i := 12) (by decide +kernel), List.mem_of_getElem? (i := 240) (by decide +kernel), List.mem_of_getElem? (i := 241) (by decide +kernel)⟩
theorem lw_p14 : lw_okq (⟨"TemporaryReals", "copy", "(II)V"⟩, 6) := ⟨⟨by decide +kernel, by decide +kernel⟩, List.mem_of_getElem? (i := 12) (by decide +kernel), List.mem_of_getElem? (i := 252) (by decide +kernel), List.mem_of_getElem? (i := 253) (by decide +kernel)⟩
theorem lw_p15 : lw_okq (⟨"TemporaryReals", "isNegative", "(I)Z"⟩, 6) := ⟨⟨by decide +kernel, by decide +kernel⟩, List.mem_of_getElem? (i := 12) (by decide +kernel), List.mem_of_getElem? (i := 259) (by decide +kernel), List.mem_of_getElem? (i := 260) (by decide +kernel)⟩
def lw_privs_1 : List (MethodName × Nat) := [(⟨"java/lang/Throwable", "fillInStackTrace", "(I)Ljava/lang/Throwable;"⟩, 6), (⟨"TemporaryReals", "kindOf", "(I)I"⟩, 6), (⟨"TemporaryReals", "powerOf", "(I)I"⟩, 6), (⟨"TemporaryReals", "makeSize", "(IZIJJ)I"⟩, 6), (⟨"TemporaryReals", "store", "(IZIJ)V"⟩, 6), (⟨"TemporaryReals", "tell", "(III)I"⟩, 6), (⟨"TemporaryReals", "isMasked", "(I)Z"⟩, 6), (⟨"TemporaryReals", "makeSmall", "(IZIJJ)I"⟩, 6), (⟨"TemporaryReals", "digits", "()I"⟩, 6), (⟨"TemporaryReals", "takesAbove", "(JJZ)Z"⟩, 6), (⟨"TemporaryReals", "rounding", "()I"⟩, 6), (⟨"TemporaryReals", "goesAway", "(Z)Z"⟩, 6), (⟨"TemporaryReals", "makeRounded", "(IZIJJ)I"⟩, 6), (⟨"TemporaryReals", "makeTooGreat", "(IZI)I"⟩, 6), (⟨"TemporaryReals", "copy", "(II)V"⟩, 6), (⟨"TemporaryReals", "isNegative", "(I)Z"⟩, 6)]
theorem lw_r1 : ∀ q ∈ lw_privs_1, lw_okq q := List.forall_mem_cons.mpr ⟨lw_p0, List.forall_mem_cons.mpr ⟨lw_p1, List.forall_mem_cons.mpr ⟨lw_p2, List.forall_mem_cons.mpr ⟨lw_p3, List.forall_mem_cons.mpr ⟨lw_p4, List.forall_mem_cons.mpr ⟨lw_p5, List.forall_mem_cons.mpr ⟨lw_p6, List.forall_mem_cons.mpr ⟨lw_p7, List.forall_mem_cons.mpr ⟨lw_p8, List.forall_mem_cons.mpr ⟨lw_p9, List.forall_mem_cons.mpr ⟨lw_p10, List.forall_mem_cons.mpr ⟨lw_p11, List.forall_mem_cons.mpr ⟨lw_p12, List.forall_mem_cons.mpr ⟨lw_p13, List.forall_mem_cons.mpr ⟨lw_p14, List.forall_mem_cons.mpr ⟨lw_p15, fun _ h => absurd h List.not_mem_nil⟩⟩⟩⟩⟩⟩⟩⟩⟩⟩⟩⟩⟩⟩⟩⟩
theorem lw_p16 : lw_okq (⟨"TemporaryReals", "signum", "(I)I"⟩, 6) := ⟨⟨by decide +kernel, by decide +kernel⟩, List.mem_of_getElem? (i := 12) (by decide +kernel), List.mem_of_getElem? (i := 278) (by decide +kernel), List.mem_of_getElem? (i := 279) (by decide +kernel)⟩
theorem lw_p17 : lw_okq (⟨"TemporaryReals", "compareSizes", "(II)I"⟩, 6) := ⟨⟨by decide +kernel, by decide +kernel⟩, List.mem_of_getElem? (i := 12) (by decide +kernel), List.mem_of_getElem? (i := 282) (by decide +kernel), List.mem_of_getElem? (i := 283) (by decide +kernel)⟩
theorem lw_p18 : lw_okq (⟨"TemporaryReals", "plainPower", "(I)I"⟩, 6) := ⟨⟨by decide +kernel, by decide +kernel⟩, List.mem_of_getElem? (i := 12) (by decide +kernel), List.mem_of_getElem? (i := 286) (by decide +kernel), List.mem_of_getElem? (i := 287) (by decide +kernel)⟩
theorem lw_p19 : lw_okq (⟨"TemporaryReals", "plainFraction", "(I)J"⟩, 6) := ⟨⟨by decide +kernel, by decide +kernel⟩, List.mem_of_getElem? (i := 12) (by decide +kernel), List.mem_of_getElem? (i := 290) (by decide +kernel), List.mem_of_getElem? (i := 291) (by decide +kernel)⟩
theorem lw_p20 : lw_okq (⟨"TemporaryReals", "plainShift", "(I)I"⟩, 6) := ⟨⟨by decide +kernel, by decide +kernel⟩, List.mem_of_getElem? (i := 12) (by decide +kernel), List.mem_of_getElem? (i := 294) (by decide +kernel), List.mem_of_getElem? (i := 295) (by decide +kernel)⟩
theorem lw_p21 : lw_okq (⟨"TemporaryReals", "storeNextGreater", "(IZIJ)V"⟩, 6) := ⟨⟨by decide +kernel, by decide +kernel⟩, List.mem_of_getElem? (i := 12) (by decide +kernel), List.mem_of_getElem? (i := 318) (by decide +kernel), List.mem_of_getElem? (i := 319) (by decide +kernel)⟩
theorem lw_p22 : lw_okq (⟨"TemporaryReals", "storeNextLesser", "(IZIJ)V"⟩, 6) := ⟨⟨by decide +kernel, by decide +kernel⟩, List.mem_of_getElem? (i := 12) (by decide +kernel), List.mem_of_getElem? (i := 322) (by decide +kernel), List.mem_of_getElem? (i := 323) (by decide +kernel)⟩
theorem lw_p23 : lw_okq (⟨"TemporaryRealsModel", "kind", "(I)I"⟩, 15) := ⟨⟨by decide +kernel, by decide +kernel⟩, List.mem_of_getElem? (i := 326) (by decide +kernel), List.mem_of_getElem? (i := 400) (by decide +kernel), List.mem_of_getElem? (i := 401) (by decide +kernel)⟩
theorem lw_p24 : lw_okq (⟨"TemporaryRealsModel", "make", "()V"⟩, 15) := ⟨⟨by decide +kernel, by decide +kernel⟩, List.mem_of_getElem? (i := 326) (by decide +kernel), List.mem_of_getElem? (i := 412) (by decide +kernel), List.mem_of_getElem? (i := 413) (by decide +kernel)⟩
theorem lw_p25 : lw_okq (⟨"TemporaryRealsModel", "result", "(IJ)V"⟩, 15) := ⟨⟨by decide +kernel, by decide +kernel⟩, List.mem_of_getElem? (i := 326) (by decide +kernel), List.mem_of_getElem? (i := 416) (by decide +kernel), List.mem_of_getElem? (i := 417) (by decide +kernel)⟩
theorem lw_p26 : lw_okq (⟨"TemporaryRealsModel", "round", "(I)V"⟩, 15) := ⟨⟨by decide +kernel, by decide +kernel⟩, List.mem_of_getElem? (i := 326) (by decide +kernel), List.mem_of_getElem? (i := 420) (by decide +kernel), List.mem_of_getElem? (i := 421) (by decide +kernel)⟩
theorem lw_p27 : lw_okq (⟨"TemporaryRealsModel", "keep", "(I)I"⟩, 15) := ⟨⟨by decide +kernel, by decide +kernel⟩, List.mem_of_getElem? (i := 326) (by decide +kernel), List.mem_of_getElem? (i := 426) (by decide +kernel), List.mem_of_getElem? (i := 427) (by decide +kernel)⟩
theorem lw_p28 : lw_okq (⟨"TemporaryRealsModel", "powerOf", "(I)I"⟩, 15) := ⟨⟨by decide +kernel, by decide +kernel⟩, List.mem_of_getElem? (i := 326) (by decide +kernel), List.mem_of_getElem? (i := 434) (by decide +kernel), List.mem_of_getElem? (i := 435) (by decide +kernel)⟩
theorem lw_p29 : lw_okq (⟨"TemporaryRealsModel", "isNothing", "(I)Z"⟩, 15) := ⟨⟨by decide +kernel, by decide +kernel⟩, List.mem_of_getElem? (i := 326) (by decide +kernel), List.mem_of_getElem? (i := 446) (by decide +kernel), List.mem_of_getElem? (i := 447) (by decide +kernel)⟩
theorem lw_p30 : lw_okq (⟨"TemporaryRealsModel", "compareSizes", "(II)I"⟩, 15) := ⟨⟨by decide +kernel, by decide +kernel⟩, List.mem_of_getElem? (i := 326) (by decide +kernel), List.mem_of_getElem? (i := 450) (by decide +kernel), List.mem_of_getElem? (i := 451) (by decide +kernel)⟩
def lw_privs_2 : List (MethodName × Nat) := [(⟨"TemporaryReals", "signum", "(I)I"⟩, 6), (⟨"TemporaryReals", "compareSizes", "(II)I"⟩, 6), (⟨"TemporaryReals", "plainPower", "(I)I"⟩, 6), (⟨"TemporaryReals", "plainFraction", "(I)J"⟩, 6), (⟨"TemporaryReals", "plainShift", "(I)I"⟩, 6), (⟨"TemporaryReals", "storeNextGreater", "(IZIJ)V"⟩, 6), (⟨"TemporaryReals", "storeNextLesser", "(IZIJ)V"⟩, 6), (⟨"TemporaryRealsModel", "kind", "(I)I"⟩, 15), (⟨"TemporaryRealsModel", "make", "()V"⟩, 15), (⟨"TemporaryRealsModel", "result", "(IJ)V"⟩, 15), (⟨"TemporaryRealsModel", "round", "(I)V"⟩, 15), (⟨"TemporaryRealsModel", "keep", "(I)I"⟩, 15), (⟨"TemporaryRealsModel", "powerOf", "(I)I"⟩, 15), (⟨"TemporaryRealsModel", "isNothing", "(I)Z"⟩, 15), (⟨"TemporaryRealsModel", "compareSizes", "(II)I"⟩, 15)]
theorem lw_r2 : ∀ q ∈ lw_privs_2, lw_okq q := List.forall_mem_cons.mpr ⟨lw_p16, List.forall_mem_cons.mpr ⟨lw_p17, List.forall_mem_cons.mpr ⟨lw_p18, List.forall_mem_cons.mpr ⟨lw_p19, List.forall_mem_cons.mpr ⟨lw_p20, List.forall_mem_cons.mpr ⟨lw_p21, List.forall_mem_cons.mpr ⟨lw_p22, List.forall_mem_cons.mpr ⟨lw_p23, List.forall_mem_cons.mpr ⟨lw_p24, List.forall_mem_cons.mpr ⟨lw_p25, List.forall_mem_cons.mpr ⟨lw_p26, List.forall_mem_cons.mpr ⟨lw_p27, List.forall_mem_cons.mpr ⟨lw_p28, List.forall_mem_cons.mpr ⟨lw_p29, List.forall_mem_cons.mpr ⟨lw_p30, fun _ h => absurd h List.not_mem_nil⟩⟩⟩⟩⟩⟩⟩⟩⟩⟩⟩⟩⟩⟩⟩
def lw_privs : List (MethodName × Nat) := lw_privs_1 ++ (lw_privs_2)
def lw_tbl : List Cond := k2_sels lw_privs ++ tables_1
theorem lw_privs_ok : ∀ q ∈ lw_privs, lw_okq q := by
  show ∀ q ∈ lw_privs_1 ++ (lw_privs_2), lw_okq q
  exact List.forall_mem_append.mpr ⟨lw_r1, lw_r2⟩
def RX0 : String := "TemporaryReals"
def TX0 : u_T := fun k => match k with
  | 0 => ("TemporaryReals", "tops", "[I", true)
  | 1 => ("TemporaryReals", "fractions", "[J", true)
  | 2 => ("TemporaryReals", "word", "I", false)
  | 3 => ("TemporaryReals", "lastTold", "I", false)
  | 4 => ("TemporaryReals", "lastK", "I", false)
  | _ => ("TemporaryReals", "lastChange", "I", false)
def tyX0 : Nat → FieldType := fun k => match k with
  | 0 => .array .int
  | 1 => .array .long
  | 2 => .int
  | 3 => .int
  | 4 => .int
  | _ => .int
abbrev wsX00 : List Cond := u_ws RX0 TX0 6
theorem nmX0 : ∀ a, a < 6 → ∀ b, b < 6 → a ≠ b → (TX0 a).2.1 ≠ (TX0 b).2.1 := by decide +kernel
theorem tyX0_ok : ∀ k, k < 6 → parseFieldDescriptor (TX0 k).2.2.1 = some (tyX0 k) := by decide +kernel
def RX1 : String := "TemporaryRealsModel"
def TX1 : u_T := fun k => match k with
  | 0 => ("TemporaryRealsModel", "code", "I", false)
  | 1 => ("TemporaryRealsModel", "control", "I", false)
  | 2 => ("TemporaryRealsModel", "top", "[I", true)
  | 3 => ("TemporaryRealsModel", "fraction", "[J", true)
  | 4 => ("TemporaryRealsModel", "bits", "[I", true)
  | 5 => ("TemporaryRealsModel", "weight", "I", false)
  | 6 => ("TemporaryRealsModel", "first", "I", false)
  | 7 => ("TemporaryRealsModel", "minus", "Z", false)
  | 8 => ("TemporaryRealsModel", "whole", "J", false)
  | 9 => ("TemporaryRealsModel", "full", "Z", false)
  | 10 => ("TemporaryRealsModel", "told", "I", false)
  | 11 => ("TemporaryRealsModel", "greatest", "I", false)
  | 12 => ("TemporaryRealsModel", "side", "I", false)
  | 13 => ("TemporaryRealsModel", "madeTop", "I", false)
  | _ => ("TemporaryRealsModel", "madeFraction", "J", false)
def tyX1 : Nat → FieldType := fun k => match k with
  | 0 => .int
  | 1 => .int
  | 2 => .array .int
  | 3 => .array .long
  | 4 => .array .int
  | 5 => .int
  | 6 => .int
  | 7 => .boolean
  | 8 => .long
  | 9 => .boolean
  | 10 => .int
  | 11 => .int
  | 12 => .int
  | 13 => .int
  | _ => .long
abbrev wsX10 : List Cond := u_ws RX1 TX1 15
theorem nmX1 : ∀ a, a < 15 → ∀ b, b < 15 → a ≠ b → (TX1 a).2.1 ≠ (TX1 b).2.1 := by decide +kernel
theorem tyX1_ok : ∀ k, k < 15 → parseFieldDescriptor (TX1 k).2.2.1 = some (tyX1 k) := by decide +kernel
def RJI : String := "java/lang/Integer"
def RJL : String := "java/lang/Long"
def RL : String := "TemporaryRealsLaw"
abbrev xT1 : List Cond := (vx_atS RX0 39 "java/lang/IndexOutOfBoundsException" ["java/lang/RuntimeException", "java/lang/Exception"]).filter goodWord
abbrev xT2 : List Cond := (vx_atS RX0 29 "java/lang/IllegalArgumentException" ["java/lang/RuntimeException", "java/lang/Exception"]).filter goodWord
abbrev cX0_init : ByteArray := prog_1_method_1_code
def yX0_init : MethodName := ⟨RX0, "<init>", "()V"⟩
abbrev cL_control : ByteArray := method_3_code
def yL_control : MethodName := ⟨RL, "control", "(LTemporaryReals;I)I"⟩
abbrev cX0_control : ByteArray := prog_1_method_2_code
def yX0_control : MethodName := ⟨RX0, "control", "(I)V"⟩
abbrev cX0_hasMoreThan16Bits : ByteArray := prog_1_method_11_code
def yX0_hasMoreThan16Bits : MethodName := ⟨RX0, "hasMoreThan16Bits", "(I)Z"⟩
abbrev cL_set : ByteArray := method_4_code
def yL_set : MethodName := ⟨RL, "set", "(LTemporaryReals;IIII)I"⟩
abbrev cX0_set : ByteArray := prog_1_method_3_code
def yX0_set : MethodName := ⟨RX0, "set", "(IIII)V"⟩
abbrev cX0_isNoRegister : ByteArray := prog_1_method_10_code
def yX0_isNoRegister : MethodName := ⟨RX0, "isNoRegister", "(I)Z"⟩
abbrev cX0_join : ByteArray := prog_1_method_12_code
def yX0_join : MethodName := ⟨RX0, "join", "(II)J"⟩
abbrev cL_part : ByteArray := method_5_code
def yL_part : MethodName := ⟨RL, "part", "(LTemporaryReals;II[J)I"⟩
abbrev cX0_part : ByteArray := prog_1_method_4_code
def yX0_part : MethodName := ⟨RX0, "part", "(II)I"⟩
abbrev cX0_kindOf : ByteArray := prog_1_method_16_code
def yX0_kindOf : MethodName := ⟨RX0, "kindOf", "(I)I"⟩
abbrev cX0_powerOf : ByteArray := prog_1_method_15_code
def yX0_powerOf : MethodName := ⟨RX0, "powerOf", "(I)I"⟩
abbrev cJL_numberOfLeadingZeros : ByteArray := prog_8_method_48_code
def yJL_numberOfLeadingZeros : MethodName := ⟨RJL, "numberOfLeadingZeros", "(J)I"⟩
abbrev cJI_numberOfLeadingZeros : ByteArray := prog_7_method_47_code
def yJI_numberOfLeadingZeros : MethodName := ⟨RJI, "numberOfLeadingZeros", "(I)I"⟩
abbrev cL_make : ByteArray := method_6_code
def yL_make : MethodName := ⟨RL, "make", "(LTemporaryReals;IZIIIIIZ[J)I"⟩
abbrev cX0_make : ByteArray := prog_1_method_5_code
def yX0_make : MethodName := ⟨RX0, "make", "(IZIIIIIZ)I"⟩
abbrev cX0_shiftIn : ByteArray := prog_1_method_13_code
def yX0_shiftIn : MethodName := ⟨RX0, "shiftIn", "(JJI)J"⟩
abbrev cX0_makeSize : ByteArray := prog_1_method_28_code
def yX0_makeSize : MethodName := ⟨RX0, "makeSize", "(IZIJJ)I"⟩
abbrev cX0_store : ByteArray := prog_1_method_17_code
def yX0_store : MethodName := ⟨RX0, "store", "(IZIJ)V"⟩
abbrev cX0_tell : ByteArray := prog_1_method_19_code
def yX0_tell : MethodName := ⟨RX0, "tell", "(III)I"⟩
abbrev cX0_isMasked : ByteArray := prog_1_method_20_code
def yX0_isMasked : MethodName := ⟨RX0, "isMasked", "(I)Z"⟩
abbrev cX0_makeSmall : ByteArray := prog_1_method_29_code
def yX0_makeSmall : MethodName := ⟨RX0, "makeSmall", "(IZIJJ)I"⟩
abbrev cX0_digits : ByteArray := prog_1_method_21_code
def yX0_digits : MethodName := ⟨RX0, "digits", "()I"⟩
abbrev cX0_wholePart : ByteArray := prog_1_method_25_code
def yX0_wholePart : MethodName := ⟨RX0, "wholePart", "(JI)J"⟩
abbrev cX0_lostPart : ByteArray := prog_1_method_26_code
def yX0_lostPart : MethodName := ⟨RX0, "lostPart", "(JJI)J"⟩
abbrev cX0_takesAbove : ByteArray := prog_1_method_24_code
def yX0_takesAbove : MethodName := ⟨RX0, "takesAbove", "(JJZ)Z"⟩
abbrev cX0_rounding : ByteArray := prog_1_method_22_code
def yX0_rounding : MethodName := ⟨RX0, "rounding", "()I"⟩
abbrev cX0_goesAway : ByteArray := prog_1_method_23_code
def yX0_goesAway : MethodName := ⟨RX0, "goesAway", "(Z)Z"⟩
abbrev cX0_changeOf : ByteArray := prog_1_method_27_code
def yX0_changeOf : MethodName := ⟨RX0, "changeOf", "(JZ)I"⟩
abbrev cX0_makeRounded : ByteArray := prog_1_method_30_code
def yX0_makeRounded : MethodName := ⟨RX0, "makeRounded", "(IZIJJ)I"⟩
abbrev cX0_makeTooGreat : ByteArray := prog_1_method_31_code
def yX0_makeTooGreat : MethodName := ⟨RX0, "makeTooGreat", "(IZI)I"⟩
abbrev cL_again : ByteArray := method_7_code
def yL_again : MethodName := ⟨RL, "again", "(LTemporaryReals;II[J)I"⟩
abbrev cX0_again : ByteArray := prog_1_method_6_code
def yX0_again : MethodName := ⟨RX0, "again", "(II)I"⟩
abbrev cX0_copy : ByteArray := prog_1_method_18_code
def yX0_copy : MethodName := ⟨RX0, "copy", "(II)V"⟩
abbrev cX0_isNegative : ByteArray := prog_1_method_14_code
def yX0_isNegative : MethodName := ⟨RX0, "isNegative", "(I)Z"⟩
abbrev cL_last : ByteArray := method_8_code
def yL_last : MethodName := ⟨RL, "last", "(LTemporaryReals;I[J)I"⟩
abbrev cX0_last : ByteArray := prog_1_method_7_code
def yX0_last : MethodName := ⟨RX0, "last", "(I)I"⟩
abbrev cL_compare : ByteArray := method_9_code
def yL_compare : MethodName := ⟨RL, "compare", "(LTemporaryReals;II[J)I"⟩
abbrev cX0_compare : ByteArray := prog_1_method_8_code
def yX0_compare : MethodName := ⟨RX0, "compare", "(II)I"⟩
abbrev cX0_signum : ByteArray := prog_1_method_32_code
def yX0_signum : MethodName := ⟨RX0, "signum", "(I)I"⟩
abbrev cX0_compareSizes : ByteArray := prog_1_method_33_code
def yX0_compareSizes : MethodName := ⟨RX0, "compareSizes", "(II)I"⟩
abbrev cX0_plainPower : ByteArray := prog_1_method_36_code
def yX0_plainPower : MethodName := ⟨RX0, "plainPower", "(I)I"⟩
abbrev cX0_plainFraction : ByteArray := prog_1_method_35_code
def yX0_plainFraction : MethodName := ⟨RX0, "plainFraction", "(I)J"⟩
abbrev cX0_plainShift : ByteArray := prog_1_method_34_code
def yX0_plainShift : MethodName := ⟨RX0, "plainShift", "(I)I"⟩
abbrev cJL_compareUnsigned : ByteArray := prog_8_method_43_code
def yJL_compareUnsigned : MethodName := ⟨RJL, "compareUnsigned", "(JJ)I"⟩
abbrev cJL_compare : ByteArray := prog_8_method_42_code
def yJL_compare : MethodName := ⟨RJL, "compare", "(JJ)I"⟩
abbrev cJI_signum : ByteArray := prog_7_method_56_code
def yJI_signum : MethodName := ⟨RJI, "signum", "(I)I"⟩
abbrev cL_neighbour : ByteArray := method_10_code
def yL_neighbour : MethodName := ⟨RL, "neighbour", "(LTemporaryReals;IZI)I"⟩
abbrev cX0_neighbour : ByteArray := prog_1_method_9_code
def yX0_neighbour : MethodName := ⟨RX0, "neighbour", "(IZI)V"⟩
abbrev cX0_storeNextGreater : ByteArray := prog_1_method_37_code
def yX0_storeNextGreater : MethodName := ⟨RX0, "storeNextGreater", "(IZIJ)V"⟩
abbrev cX0_storeNextLesser : ByteArray := prog_1_method_38_code
def yX0_storeNextLesser : MethodName := ⟨RX0, "storeNextLesser", "(IZIJ)V"⟩
abbrev cX1_init : ByteArray := prog_3_method_1_code
def yX1_init : MethodName := ⟨RX1, "<init>", "()V"⟩
abbrev cX1_thrown : ByteArray := prog_3_method_2_code
def yX1_thrown : MethodName := ⟨RX1, "thrown", "()I"⟩
abbrev cX1_control : ByteArray := prog_3_method_4_code
def yX1_control : MethodName := ⟨RX1, "control", "(I)V"⟩
abbrev cX1_set : ByteArray := prog_3_method_5_code
def yX1_set : MethodName := ⟨RX1, "set", "(IIII)V"⟩
abbrev cX1_none : ByteArray := prog_3_method_3_code
def yX1_none : MethodName := ⟨RX1, "none", "(I)Z"⟩
abbrev cX1_part : ByteArray := prog_3_method_7_code
def yX1_part : MethodName := ⟨RX1, "part", "(II)I"⟩
abbrev cX1_kind : ByteArray := prog_3_method_6_code
def yX1_kind : MethodName := ⟨RX1, "kind", "(I)I"⟩
abbrev cX1_make : ByteArray := prog_3_method_12_code
def yX1_make : MethodName := ⟨RX1, "make", "(IZIIIIIZ)I"⟩
abbrev cX1_make0 : ByteArray := prog_3_method_10_code
def yX1_make0 : MethodName := ⟨RX1, "make", "()V"⟩
abbrev cX1_result : ByteArray := prog_3_method_9_code
def yX1_result : MethodName := ⟨RX1, "result", "(IJ)V"⟩
abbrev cX1_round : ByteArray := prog_3_method_8_code
def yX1_round : MethodName := ⟨RX1, "round", "(I)V"⟩
abbrev cX1_keep : ByteArray := prog_3_method_11_code
def yX1_keep : MethodName := ⟨RX1, "keep", "(I)I"⟩
abbrev cX1_again : ByteArray := prog_3_method_14_code
def yX1_again : MethodName := ⟨RX1, "again", "(II)I"⟩
abbrev cX1_powerOf : ByteArray := prog_3_method_13_code
def yX1_powerOf : MethodName := ⟨RX1, "powerOf", "(I)I"⟩
abbrev cX1_last : ByteArray := prog_3_method_15_code
def yX1_last : MethodName := ⟨RX1, "last", "(I)I"⟩
abbrev cX1_compare : ByteArray := prog_3_method_18_code
def yX1_compare : MethodName := ⟨RX1, "compare", "(II)I"⟩
abbrev cX1_isNothing : ByteArray := prog_3_method_16_code
def yX1_isNothing : MethodName := ⟨RX1, "isNothing", "(I)Z"⟩
abbrev cX1_compareSizes : ByteArray := prog_3_method_17_code
def yX1_compareSizes : MethodName := ⟨RX1, "compareSizes", "(II)I"⟩
abbrev cX1_neighbour : ByteArray := prog_3_method_19_code
def yX1_neighbour : MethodName := ⟨RX1, "neighbour", "(IZI)V"⟩
abbrev cL_law : ByteArray := code
def yL_law : MethodName := ⟨RL, "law", "([I)Z"⟩
abbrev vwCl : List vw_C := [(RX0, TX0, 6), (RX1, TX1, 15)]
