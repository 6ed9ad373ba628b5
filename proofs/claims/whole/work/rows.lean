section
-- ===== PART A: goes FIRST, ahead of the names: the tables' words, and 'selects' of the private methods out of them =====
/-- a private method of a class that the tables say can be made, by its rows of tables_1 -/
def lw_okq (q : MethodName × Nat) : Prop := (q.1.cls ≠ "java/lang/invoke/MethodHandle" ∧ q.1.cls ≠ "java/lang/invoke/VarHandle") ∧ Cond.instantiable q.1.cls q.2 ∈ tables_1 ∧ Cond.privateMethod q.1 ∈ tables_1 ∧ Cond.instanceMethod q.1 ∈ tables_1
theorem lw_p0 : lw_okq (⟨"NineLies$Tape", "readDay", "(LNineLies$Days;)I"⟩, 3) := ⟨⟨by decide +kernel, by decide +kernel⟩, List.mem_of_getElem? (i := 54) (by decide +kernel), List.mem_of_getElem? (i := 243) (by decide +kernel), List.mem_of_getElem? (i := 244) (by decide +kernel)⟩
theorem lw_p1 : lw_okq (⟨"NineLies$Tape", "nextByte", "()I"⟩, 3) := ⟨⟨by decide +kernel, by decide +kernel⟩, List.mem_of_getElem? (i := 54) (by decide +kernel), List.mem_of_getElem? (i := 247) (by decide +kernel), List.mem_of_getElem? (i := 248) (by decide +kernel)⟩
theorem lw_p2 : lw_okq (⟨"NineLies$Tape", "readNumber", "()I"⟩, 3) := ⟨⟨by decide +kernel, by decide +kernel⟩, List.mem_of_getElem? (i := 54) (by decide +kernel), List.mem_of_getElem? (i := 255) (by decide +kernel), List.mem_of_getElem? (i := 256) (by decide +kernel)⟩
theorem lw_p3 : lw_okq (⟨"NineLies", "refusalOf", "(I)I"⟩, 8) := ⟨⟨by decide +kernel, by decide +kernel⟩, List.mem_of_getElem? (i := 14) (by decide +kernel), List.mem_of_getElem? (i := 333) (by decide +kernel), List.mem_of_getElem? (i := 334) (by decide +kernel)⟩
theorem lw_p4 : lw_okq (⟨"NineLies", "harmBy", "(III)I"⟩, 8) := ⟨⟨by decide +kernel, by decide +kernel⟩, List.mem_of_getElem? (i := 14) (by decide +kernel), List.mem_of_getElem? (i := 390) (by decide +kernel), List.mem_of_getElem? (i := 391) (by decide +kernel)⟩
theorem lw_p5 : lw_okq (⟨"NineLies$Harm", "silent", "(LNineLies$Days;III)I"⟩, 1) := ⟨⟨by decide +kernel, by decide +kernel⟩, List.mem_of_getElem? (i := 72) (by decide +kernel), List.mem_of_getElem? (i := 403) (by decide +kernel), List.mem_of_getElem? (i := 404) (by decide +kernel)⟩
theorem lw_p6 : lw_okq (⟨"NineLies$Harm", "lying", "(LNineLies$Days;IIII)I"⟩, 1) := ⟨⟨by decide +kernel, by decide +kernel⟩, List.mem_of_getElem? (i := 72) (by decide +kernel), List.mem_of_getElem? (i := 413) (by decide +kernel), List.mem_of_getElem? (i := 414) (by decide +kernel)⟩
theorem lw_p7 : lw_okq (⟨"NineLies$Words", "fitBehind", "(IIII)I"⟩, 1) := ⟨⟨by decide +kernel, by decide +kernel⟩, List.mem_of_getElem? (i := 92) (by decide +kernel), List.mem_of_getElem? (i := 474) (by decide +kernel), List.mem_of_getElem? (i := 475) (by decide +kernel)⟩
theorem lw_p8 : lw_okq (⟨"NineLies", "findSheet", "(I)LNineLies$Sheet;"⟩, 8) := ⟨⟨by decide +kernel, by decide +kernel⟩, List.mem_of_getElem? (i := 14) (by decide +kernel), List.mem_of_getElem? (i := 519) (by decide +kernel), List.mem_of_getElem? (i := 520) (by decide +kernel)⟩
theorem lw_p9 : lw_okq (⟨"NineLies$Sheet", "narrow", "(I)I"⟩, 3) := ⟨⟨by decide +kernel, by decide +kernel⟩, List.mem_of_getElem? (i := 105) (by decide +kernel), List.mem_of_getElem? (i := 552) (by decide +kernel), List.mem_of_getElem? (i := 553) (by decide +kernel)⟩
theorem lw_p10 : lw_okq (⟨"NineLiesModel", "isDay", "(I)Z"⟩, 15) := ⟨⟨by decide +kernel, by decide +kernel⟩, List.mem_of_getElem? (i := 584) (by decide +kernel), List.mem_of_getElem? (i := 648) (by decide +kernel), List.mem_of_getElem? (i := 649) (by decide +kernel)⟩
theorem lw_p11 : lw_okq (⟨"NineLiesModel", "changed", "(II)I"⟩, 15) := ⟨⟨by decide +kernel, by decide +kernel⟩, List.mem_of_getElem? (i := 584) (by decide +kernel), List.mem_of_getElem? (i := 656) (by decide +kernel), List.mem_of_getElem? (i := 657) (by decide +kernel)⟩
theorem lw_p12 : lw_okq (⟨"NineLiesModel", "takesDay", "()I"⟩, 15) := ⟨⟨by decide +kernel, by decide +kernel⟩, List.mem_of_getElem? (i := 584) (by decide +kernel), List.mem_of_getElem? (i := 686) (by decide +kernel), List.mem_of_getElem? (i := 687) (by decide +kernel)⟩
theorem lw_p13 : lw_okq (⟨"NineLiesModel", "look", "()I"⟩, 15) := ⟨⟨by decide +kernel, by decide +kernel⟩, List.mem_of_getElem? (i := 584) (by decide +kernel), List.mem_of_getElem? (i := 690) (by decide +kernel), List.mem_of_getElem? (i := 691) (by decide +kernel)⟩
theorem lw_p14 : lw_okq (⟨"NineLiesModel", "takes", "(I)I"⟩, 15) := ⟨⟨by decide +kernel, by decide +kernel⟩, List.mem_of_getElem? (i := 584) (by decide +kernel), List.mem_of_getElem? (i := 694) (by decide +kernel), List.mem_of_getElem? (i := 695) (by decide +kernel)⟩
theorem lw_p15 : lw_okq (⟨"NineLiesModel", "isSet", "(I)Z"⟩, 15) := ⟨⟨by decide +kernel, by decide +kernel⟩, List.mem_of_getElem? (i := 584) (by decide +kernel), List.mem_of_getElem? (i := 709) (by decide +kernel), List.mem_of_getElem? (i := 710) (by decide +kernel)⟩
def lw_privs_1 : List (MethodName × Nat) := [(⟨"NineLies$Tape", "readDay", "(LNineLies$Days;)I"⟩, 3), (⟨"NineLies$Tape", "nextByte", "()I"⟩, 3), (⟨"NineLies$Tape", "readNumber", "()I"⟩, 3), (⟨"NineLies", "refusalOf", "(I)I"⟩, 8), (⟨"NineLies", "harmBy", "(III)I"⟩, 8), (⟨"NineLies$Harm", "silent", "(LNineLies$Days;III)I"⟩, 1), (⟨"NineLies$Harm", "lying", "(LNineLies$Days;IIII)I"⟩, 1), (⟨"NineLies$Words", "fitBehind", "(IIII)I"⟩, 1), (⟨"NineLies", "findSheet", "(I)LNineLies$Sheet;"⟩, 8), (⟨"NineLies$Sheet", "narrow", "(I)I"⟩, 3), (⟨"NineLiesModel", "isDay", "(I)Z"⟩, 15), (⟨"NineLiesModel", "changed", "(II)I"⟩, 15), (⟨"NineLiesModel", "takesDay", "()I"⟩, 15), (⟨"NineLiesModel", "look", "()I"⟩, 15), (⟨"NineLiesModel", "takes", "(I)I"⟩, 15), (⟨"NineLiesModel", "isSet", "(I)Z"⟩, 15)]
theorem lw_r1 : ∀ q ∈ lw_privs_1, lw_okq q := List.forall_mem_cons.mpr ⟨lw_p0, List.forall_mem_cons.mpr ⟨lw_p1, List.forall_mem_cons.mpr ⟨lw_p2, List.forall_mem_cons.mpr ⟨lw_p3, List.forall_mem_cons.mpr ⟨lw_p4, List.forall_mem_cons.mpr ⟨lw_p5, List.forall_mem_cons.mpr ⟨lw_p6, List.forall_mem_cons.mpr ⟨lw_p7, List.forall_mem_cons.mpr ⟨lw_p8, List.forall_mem_cons.mpr ⟨lw_p9, List.forall_mem_cons.mpr ⟨lw_p10, List.forall_mem_cons.mpr ⟨lw_p11, List.forall_mem_cons.mpr ⟨lw_p12, List.forall_mem_cons.mpr ⟨lw_p13, List.forall_mem_cons.mpr ⟨lw_p14, List.forall_mem_cons.mpr ⟨lw_p15, fun _ h => absurd h List.not_mem_nil⟩⟩⟩⟩⟩⟩⟩⟩⟩⟩⟩⟩⟩⟩⟩⟩
theorem lw_p16 : lw_okq (⟨"NineLiesModel", "wrongIn", "(I)I"⟩, 15) := ⟨⟨by decide +kernel, by decide +kernel⟩, List.mem_of_getElem? (i := 584) (by decide +kernel), List.mem_of_getElem? (i := 729) (by decide +kernel), List.mem_of_getElem? (i := 730) (by decide +kernel)⟩
theorem lw_p17 : lw_okq (⟨"NineLiesModel", "gainOf", "(I)I"⟩, 15) := ⟨⟨by decide +kernel, by decide +kernel⟩, List.mem_of_getElem? (i := 584) (by decide +kernel), List.mem_of_getElem? (i := 743) (by decide +kernel), List.mem_of_getElem? (i := 744) (by decide +kernel)⟩
theorem lw_p18 : lw_okq (⟨"NineLiesModel", "brings", "(IIZ)I"⟩, 15) := ⟨⟨by decide +kernel, by decide +kernel⟩, List.mem_of_getElem? (i := 584) (by decide +kernel), List.mem_of_getElem? (i := 747) (by decide +kernel), List.mem_of_getElem? (i := 748) (by decide +kernel)⟩
theorem lw_p19 : lw_okq (⟨"NineLiesModel", "trusts", "(II)Z"⟩, 15) := ⟨⟨by decide +kernel, by decide +kernel⟩, List.mem_of_getElem? (i := 584) (by decide +kernel), List.mem_of_getElem? (i := 751) (by decide +kernel), List.mem_of_getElem? (i := 752) (by decide +kernel)⟩
theorem lw_p20 : lw_okq (⟨"NineLiesModel", "harmNow", "()I"⟩, 15) := ⟨⟨by decide +kernel, by decide +kernel⟩, List.mem_of_getElem? (i := 584) (by decide +kernel), List.mem_of_getElem? (i := 763) (by decide +kernel), List.mem_of_getElem? (i := 764) (by decide +kernel)⟩
theorem lw_p21 : lw_okq (⟨"NineLiesModel", "from", "(IIIZ)I"⟩, 15) := ⟨⟨by decide +kernel, by decide +kernel⟩, List.mem_of_getElem? (i := 584) (by decide +kernel), List.mem_of_getElem? (i := 767) (by decide +kernel), List.mem_of_getElem? (i := 768) (by decide +kernel)⟩
theorem lw_p22 : lw_okq (⟨"NineLiesModel", "place", "(III)I"⟩, 15) := ⟨⟨by decide +kernel, by decide +kernel⟩, List.mem_of_getElem? (i := 584) (by decide +kernel), List.mem_of_getElem? (i := 771) (by decide +kernel), List.mem_of_getElem? (i := 772) (by decide +kernel)⟩
theorem lw_p23 : lw_okq (⟨"NineLiesModel", "mayLie", "(III)Z"⟩, 15) := ⟨⟨by decide +kernel, by decide +kernel⟩, List.mem_of_getElem? (i := 584) (by decide +kernel), List.mem_of_getElem? (i := 775) (by decide +kernel), List.mem_of_getElem? (i := 776) (by decide +kernel)⟩
theorem lw_p24 : lw_okq (⟨"NineLiesModel", "setsOf", "(IIII)I"⟩, 15) := ⟨⟨by decide +kernel, by decide +kernel⟩, List.mem_of_getElem? (i := 584) (by decide +kernel), List.mem_of_getElem? (i := 811) (by decide +kernel), List.mem_of_getElem? (i := 812) (by decide +kernel)⟩
theorem lw_p25 : lw_okq (⟨"NineLiesModel", "found", "(IIII)I"⟩, 15) := ⟨⟨by decide +kernel, by decide +kernel⟩, List.mem_of_getElem? (i := 584) (by decide +kernel), List.mem_of_getElem? (i := 846) (by decide +kernel), List.mem_of_getElem? (i := 847) (by decide +kernel)⟩
def lw_privs_2 : List (MethodName × Nat) := [(⟨"NineLiesModel", "wrongIn", "(I)I"⟩, 15), (⟨"NineLiesModel", "gainOf", "(I)I"⟩, 15), (⟨"NineLiesModel", "brings", "(IIZ)I"⟩, 15), (⟨"NineLiesModel", "trusts", "(II)Z"⟩, 15), (⟨"NineLiesModel", "harmNow", "()I"⟩, 15), (⟨"NineLiesModel", "from", "(IIIZ)I"⟩, 15), (⟨"NineLiesModel", "place", "(III)I"⟩, 15), (⟨"NineLiesModel", "mayLie", "(III)Z"⟩, 15), (⟨"NineLiesModel", "setsOf", "(IIII)I"⟩, 15), (⟨"NineLiesModel", "found", "(IIII)I"⟩, 15)]
theorem lw_r2 : ∀ q ∈ lw_privs_2, lw_okq q := List.forall_mem_cons.mpr ⟨lw_p16, List.forall_mem_cons.mpr ⟨lw_p17, List.forall_mem_cons.mpr ⟨lw_p18, List.forall_mem_cons.mpr ⟨lw_p19, List.forall_mem_cons.mpr ⟨lw_p20, List.forall_mem_cons.mpr ⟨lw_p21, List.forall_mem_cons.mpr ⟨lw_p22, List.forall_mem_cons.mpr ⟨lw_p23, List.forall_mem_cons.mpr ⟨lw_p24, List.forall_mem_cons.mpr ⟨lw_p25, fun _ h => absurd h List.not_mem_nil⟩⟩⟩⟩⟩⟩⟩⟩⟩⟩
def lw_privs : List (MethodName × Nat) := lw_privs_1 ++ (lw_privs_2)
def lw_tbl : List Cond := k2_sels lw_privs ++ tables_1
theorem lw_privs_ok : ∀ q ∈ lw_privs, lw_okq q := by
  show ∀ q ∈ lw_privs_1 ++ (lw_privs_2), lw_okq q
  exact List.forall_mem_append.mpr ⟨lw_r1, lw_r2⟩

-- ===== names, of the printed ones those that the rows use =====
def RX0 : String := "NineLies$Days"
def TX0 : u_T := fun k => match k with
  | 0 => ("NineLies$Days", "cells", "[I", true)
  | _ => ("NineLies$Days", "many", "I", false)
def tyX0 : Nat → FieldType := fun k => match k with
  | 0 => .array .int
  | _ => .int
abbrev wsX00 : List Cond := u_ws RX0 TX0 2
theorem nmX0 : ∀ a, a < 2 → ∀ b, b < 2 → a ≠ b → (TX0 a).2.1 ≠ (TX0 b).2.1 := by decide +kernel
theorem tyX0_ok : ∀ k, k < 2 → parseFieldDescriptor (TX0 k).2.2.1 = some (tyX0 k) := by decide +kernel
abbrev cX0_init : ByteArray := prog_2_method_1_code
def yX0_init : MethodName := ⟨RX0, "<init>", "()V"⟩
abbrev cX0_has : ByteArray := prog_2_method_2_code
def yX0_has : MethodName := ⟨RX0, "has", "(I)Z"⟩
abbrev cX0_hasAll : ByteArray := prog_2_method_3_code
def yX0_hasAll : MethodName := ⟨RX0, "hasAll", "(I)Z"⟩
abbrev cX0_isFull : ByteArray := prog_2_method_4_code
def yX0_isFull : MethodName := ⟨RX0, "isFull", "()Z"⟩
abbrev cX0_tell : ByteArray := prog_2_method_5_code
def yX0_tell : MethodName := ⟨RX0, "tell", "(II)I"⟩
abbrev cX0_change : ByteArray := prog_2_method_6_code
def yX0_change : MethodName := ⟨RX0, "change", "(III)I"⟩
abbrev cX0_add : ByteArray := prog_2_method_7_code
def yX0_add : MethodName := ⟨RX0, "add", "(III)I"⟩
abbrev cX0_removeLast : ByteArray := prog_2_method_8_code
def yX0_removeLast : MethodName := ⟨RX0, "removeLast", "()I"⟩
abbrev cX0_empty : ByteArray := prog_2_method_9_code
def yX0_empty : MethodName := ⟨RX0, "empty", "()V"⟩
abbrev cX0_become : ByteArray := prog_2_method_10_code
def yX0_become : MethodName := ⟨RX0, "become", "(LNineLies$Days;)V"⟩
abbrev cX0_hasNews : ByteArray := prog_2_method_11_code
def yX0_hasNews : MethodName := ⟨RX0, "hasNews", "(I)Z"⟩
abbrev cX0_manyWithNews : ByteArray := prog_2_method_12_code
def yX0_manyWithNews : MethodName := ⟨RX0, "manyWithNews", "()I"⟩
abbrev cX0_sumOf : ByteArray := prog_2_method_13_code
def yX0_sumOf : MethodName := ⟨RX0, "sumOf", "(II)I"⟩
abbrev cX0_isTrusted : ByteArray := prog_2_method_14_code
def yX0_isTrusted : MethodName := ⟨RX0, "isTrusted", "(III)Z"⟩
abbrev cX0_courtHas : ByteArray := prog_2_method_15_code
def yX0_courtHas : MethodName := ⟨RX0, "courtHas", "(IZII)I"⟩
def RX1 : String := "NineLies$Harm"
def TX1 : u_T := fun k => match k with
  | _ => ("NineLies$Harm", "least", "LNineLies$Table;", true)
def tyX1 : Nat → FieldType := fun k => match k with
  | _ => .object "NineLies$Table"
abbrev wsX10 : List Cond := u_ws RX1 TX1 1
theorem nmX1 : ∀ a, a < 1 → ∀ b, b < 1 → a ≠ b → (TX1 a).2.1 ≠ (TX1 b).2.1 := by decide +kernel
theorem tyX1_ok : ∀ k, k < 1 → parseFieldDescriptor (TX1 k).2.2.1 = some (tyX1 k) := by decide +kernel
abbrev cX1_init : ByteArray := prog_3_method_1_code
def yX1_init : MethodName := ⟨RX1, "<init>", "()V"⟩
abbrev cX1_reckon : ByteArray := prog_3_method_2_code
def yX1_reckon : MethodName := ⟨RX1, "reckon", "(LNineLies$Days;III)I"⟩
abbrev cX1_worstSet : ByteArray := prog_3_method_3_code
def yX1_worstSet : MethodName := ⟨RX1, "worstSet", "(LNineLies$Days;III)I"⟩
abbrev cX1_silent : ByteArray := prog_3_method_4_code
def yX1_silent : MethodName := ⟨RX1, "silent", "(LNineLies$Days;III)I"⟩
abbrev cX1_lying : ByteArray := prog_3_method_5_code
def yX1_lying : MethodName := ⟨RX1, "lying", "(LNineLies$Days;IIII)I"⟩
def RX2 : String := "NineLies$Sheet"
def TX2 : u_T := fun k => match k with
  | 0 => ("NineLies$Sheet", "items", "[I", true)
  | 1 => ("NineLies$Sheet", "lane", "I", false)
  | _ => ("NineLies$Sheet", "many", "I", false)
def tyX2 : Nat → FieldType := fun k => match k with
  | 0 => .array .int
  | 1 => .int
  | _ => .int
abbrev wsX20 : List Cond := u_ws RX2 TX2 3
theorem nmX2 : ∀ a, a < 3 → ∀ b, b < 3 → a ≠ b → (TX2 a).2.1 ≠ (TX2 b).2.1 := by decide +kernel
theorem tyX2_ok : ∀ k, k < 3 → parseFieldDescriptor (TX2 k).2.2.1 = some (tyX2 k) := by decide +kernel
abbrev cX2_init : ByteArray := prog_4_method_1_code
def yX2_init : MethodName := ⟨RX2, "<init>", "()V"⟩
abbrev cX2_isNothing : ByteArray := prog_4_method_2_code
def yX2_isNothing : MethodName := ⟨RX2, "isNothing", "()Z"⟩
abbrev cX2_hold : ByteArray := prog_4_method_3_code
def yX2_hold : MethodName := ⟨RX2, "hold", "(II)I"⟩
abbrev cX2_holdNothing : ByteArray := prog_4_method_4_code
def yX2_holdNothing : MethodName := ⟨RX2, "holdNothing", "()I"⟩
abbrev cX2_covers : ByteArray := prog_4_method_5_code
def yX2_covers : MethodName := ⟨RX2, "covers", "(II)Z"⟩
abbrev cX2_refusalOf : ByteArray := prog_4_method_6_code
def yX2_refusalOf : MethodName := ⟨RX2, "refusalOf", "(III)I"⟩
abbrev cX2_change : ByteArray := prog_4_method_7_code
def yX2_change : MethodName := ⟨RX2, "change", "(II)V"⟩
abbrev cX2_narrow : ByteArray := prog_4_method_8_code
def yX2_narrow : MethodName := ⟨RX2, "narrow", "(I)I"⟩
abbrev cX2_readDays : ByteArray := prog_4_method_9_code
def yX2_readDays : MethodName := ⟨RX2, "readDays", "(III)I"⟩
def RX3 : String := "NineLies$Table"
def TX3 : u_T := fun k => match k with
  | _ => ("NineLies$Table", "cells", "[I", true)
def tyX3 : Nat → FieldType := fun k => match k with
  | _ => .array .int
abbrev wsX30 : List Cond := u_ws RX3 TX3 1
theorem nmX3 : ∀ a, a < 1 → ∀ b, b < 1 → a ≠ b → (TX3 a).2.1 ≠ (TX3 b).2.1 := by decide +kernel
theorem tyX3_ok : ∀ k, k < 1 → parseFieldDescriptor (TX3 k).2.2.1 = some (tyX3 k) := by decide +kernel
abbrev cX3_init : ByteArray := prog_5_method_1_code
def yX3_init : MethodName := ⟨RX3, "<init>", "()V"⟩
abbrev cX3_tell : ByteArray := prog_5_method_2_code
def yX3_tell : MethodName := ⟨RX3, "tell", "(II)I"⟩
abbrev cX3_change : ByteArray := prog_5_method_3_code
def yX3_change : MethodName := ⟨RX3, "change", "(III)V"⟩
def RX4 : String := "NineLies$Tape"
def TX4 : u_T := fun k => match k with
  | 0 => ("NineLies$Tape", "bytes", "[I", true)
  | 1 => ("NineLies$Tape", "many", "I", false)
  | _ => ("NineLies$Tape", "place", "I", false)
def tyX4 : Nat → FieldType := fun k => match k with
  | 0 => .array .int
  | 1 => .int
  | _ => .int
abbrev wsX40 : List Cond := u_ws RX4 TX4 3
theorem nmX4 : ∀ a, a < 3 → ∀ b, b < 3 → a ≠ b → (TX4 a).2.1 ≠ (TX4 b).2.1 := by decide +kernel
theorem tyX4_ok : ∀ k, k < 3 → parseFieldDescriptor (TX4 k).2.2.1 = some (tyX4 k) := by decide +kernel
abbrev cX4_init : ByteArray := prog_6_method_1_code
def yX4_init : MethodName := ⟨RX4, "<init>", "()V"⟩
abbrev cX4_append : ByteArray := prog_6_method_2_code
def yX4_append : MethodName := ⟨RX4, "append", "(JI)I"⟩
abbrev cX4_empty : ByteArray := prog_6_method_3_code
def yX4_empty : MethodName := ⟨RX4, "empty", "()V"⟩
abbrev cX4_readInto : ByteArray := prog_6_method_4_code
def yX4_readInto : MethodName := ⟨RX4, "readInto", "(LNineLies$Days;)I"⟩
abbrev cX4_readDay : ByteArray := prog_6_method_5_code
def yX4_readDay : MethodName := ⟨RX4, "readDay", "(LNineLies$Days;)I"⟩
abbrev cX4_readNumber : ByteArray := prog_6_method_6_code
def yX4_readNumber : MethodName := ⟨RX4, "readNumber", "()I"⟩
abbrev cX4_nextByte : ByteArray := prog_6_method_7_code
def yX4_nextByte : MethodName := ⟨RX4, "nextByte", "()I"⟩
abbrev cX4_isDigit : ByteArray := prog_6_method_8_code
def yX4_isDigit : MethodName := ⟨RX4, "isDigit", "(I)Z"⟩
abbrev cX4_faultAt : ByteArray := prog_6_method_9_code
def yX4_faultAt : MethodName := ⟨RX4, "faultAt", "(I)I"⟩
def RX5 : String := "NineLies$Words"
def TX5 : u_T := fun k => match k with
  | _ => ("NineLies$Words", "fits", "LNineLies$Table;", true)
def tyX5 : Nat → FieldType := fun k => match k with
  | _ => .object "NineLies$Table"
abbrev wsX50 : List Cond := u_ws RX5 TX5 1
theorem nmX5 : ∀ a, a < 1 → ∀ b, b < 1 → a ≠ b → (TX5 a).2.1 ≠ (TX5 b).2.1 := by decide +kernel
theorem tyX5_ok : ∀ k, k < 1 → parseFieldDescriptor (TX5 k).2.2.1 = some (tyX5 k) := by decide +kernel
abbrev cX5_init : ByteArray := prog_7_method_1_code
def yX5_init : MethodName := ⟨RX5, "<init>", "()V"⟩
abbrev cX5_manyFit : ByteArray := prog_7_method_2_code
def yX5_manyFit : MethodName := ⟨RX5, "manyFit", "(IIIII)I"⟩
abbrev cX5_fitBehind : ByteArray := prog_7_method_3_code
def yX5_fitBehind : MethodName := ⟨RX5, "fitBehind", "(IIII)I"⟩
def RX6 : String := "NineLies$Year"
def TX6 : u_T := fun k => match k with
  | 0 => ("NineLies$Year", "days", "LNineLies$Days;", true)
  | _ => ("NineLies$Year", "settings", "[I", true)
def tyX6 : Nat → FieldType := fun k => match k with
  | 0 => .object "NineLies$Days"
  | _ => .array .int
abbrev wsX60 : List Cond := u_ws RX6 TX6 2
theorem nmX6 : ∀ a, a < 2 → ∀ b, b < 2 → a ≠ b → (TX6 a).2.1 ≠ (TX6 b).2.1 := by decide +kernel
theorem tyX6_ok : ∀ k, k < 2 → parseFieldDescriptor (TX6 k).2.2.1 = some (tyX6 k) := by decide +kernel
abbrev cX6_init : ByteArray := prog_8_method_1_code
def yX6_init : MethodName := ⟨RX6, "<init>", "()V"⟩
abbrev cX6_tell : ByteArray := prog_8_method_2_code
def yX6_tell : MethodName := ⟨RX6, "tell", "(I)I"⟩
abbrev cX6_change : ByteArray := prog_8_method_3_code
def yX6_change : MethodName := ⟨RX6, "change", "(II)I"⟩
abbrev cX6_become : ByteArray := prog_8_method_4_code
def yX6_become : MethodName := ⟨RX6, "become", "(LNineLies$Year;)V"⟩
abbrev cX6_mayLie : ByteArray := prog_8_method_5_code
def yX6_mayLie : MethodName := ⟨RX6, "mayLie", "(II)Z"⟩
abbrev cX6_openBehind : ByteArray := prog_8_method_6_code
def yX6_openBehind : MethodName := ⟨RX6, "openBehind", "(I)I"⟩
abbrev cX6_firstWrong : ByteArray := prog_8_method_7_code
def yX6_firstWrong : MethodName := ⟨RX6, "firstWrong", "(I)I"⟩
abbrev cX6_leftOn : ByteArray := prog_8_method_8_code
def yX6_leftOn : MethodName := ⟨RX6, "leftOn", "(II)I"⟩
abbrev cX6_courtHas : ByteArray := prog_8_method_9_code
def yX6_courtHas : MethodName := ⟨RX6, "courtHas", "(II)I"⟩
abbrev cX6_gainOf : ByteArray := prog_8_method_10_code
def yX6_gainOf : MethodName := ⟨RX6, "gainOf", "(I)I"⟩
abbrev cX6_trustedBy : ByteArray := prog_8_method_11_code
def yX6_trustedBy : MethodName := ⟨RX6, "trustedBy", "(I)I"⟩
abbrev cX6_drawLots : ByteArray := prog_8_method_12_code
def yX6_drawLots : MethodName := ⟨RX6, "drawLots", "()I"⟩
def RX7 : String := "NineLies"
def TX7 : u_T := fun k => match k with
  | 0 => ("NineLies", "now", "LNineLies$Year;", true)
  | 1 => ("NineLies", "kept", "LNineLies$Year;", true)
  | 2 => ("NineLies", "hasImage", "Z", false)
  | 3 => ("NineLies", "tape", "LNineLies$Tape;", true)
  | 4 => ("NineLies", "read", "LNineLies$Days;", true)
  | 5 => ("NineLies", "harms", "LNineLies$Harm;", true)
  | 6 => ("NineLies", "guesses", "LNineLies$Words;", true)
  | _ => ("NineLies", "sheets", "[LNineLies$Sheet;", true)
def tyX7 : Nat → FieldType := fun k => match k with
  | 0 => .object "NineLies$Year"
  | 1 => .object "NineLies$Year"
  | 2 => .boolean
  | 3 => .object "NineLies$Tape"
  | 4 => .object "NineLies$Days"
  | 5 => .object "NineLies$Harm"
  | 6 => .object "NineLies$Words"
  | _ => .array (.object "NineLies$Sheet")
abbrev wsX70 : List Cond := u_ws RX7 TX7 8
theorem nmX7 : ∀ a, a < 8 → ∀ b, b < 8 → a ≠ b → (TX7 a).2.1 ≠ (TX7 b).2.1 := by decide +kernel
theorem tyX7_ok : ∀ k, k < 8 → parseFieldDescriptor (TX7 k).2.2.1 = some (tyX7 k) := by decide +kernel
abbrev cX7_init : ByteArray := prog_1_method_1_code
def yX7_init : MethodName := ⟨RX7, "<init>", "()V"⟩
abbrev cX7_day : ByteArray := prog_1_method_2_code
def yX7_day : MethodName := ⟨RX7, "day", "(III)I"⟩
abbrev cX7_alter : ByteArray := prog_1_method_3_code
def yX7_alter : MethodName := ⟨RX7, "alter", "(III)I"⟩
abbrev cX7_told : ByteArray := prog_1_method_4_code
def yX7_told : MethodName := ⟨RX7, "told", "(II)I"⟩
abbrev cX7_strike : ByteArray := prog_1_method_5_code
def yX7_strike : MethodName := ⟨RX7, "strike", "()I"⟩
abbrev cX7_set : ByteArray := prog_1_method_6_code
def yX7_set : MethodName := ⟨RX7, "set", "(II)I"⟩
abbrev cX7_type : ByteArray := prog_1_method_7_code
def yX7_type : MethodName := ⟨RX7, "type", "(JI)I"⟩
abbrev cX7_year : ByteArray := prog_1_method_8_code
def yX7_year : MethodName := ⟨RX7, "year", "()I"⟩
abbrev cX7_count : ByteArray := prog_1_method_9_code
def yX7_count : MethodName := ⟨RX7, "count", "(I)I"⟩
abbrev cX7_may : ByteArray := prog_1_method_10_code
def yX7_may : MethodName := ⟨RX7, "may", "(I)I"⟩
abbrev cX7_lawful : ByteArray := prog_1_method_11_code
def yX7_lawful : MethodName := ⟨RX7, "lawful", "(I)I"⟩
abbrev cX7_wrong : ByteArray := prog_1_method_12_code
def yX7_wrong : MethodName := ⟨RX7, "wrong", "(I)I"⟩
abbrev cX7_gain : ByteArray := prog_1_method_13_code
def yX7_gain : MethodName := ⟨RX7, "gain", "(I)I"⟩
abbrev cX7_trusted : ByteArray := prog_1_method_14_code
def yX7_trusted : MethodName := ⟨RX7, "trusted", "(I)I"⟩
abbrev cX7_harm : ByteArray := prog_1_method_15_code
def yX7_harm : MethodName := ⟨RX7, "harm", "()I"⟩
abbrev cX7_worst : ByteArray := prog_1_method_16_code
def yX7_worst : MethodName := ⟨RX7, "worst", "()I"⟩
abbrev cX7_best : ByteArray := prog_1_method_17_code
def yX7_best : MethodName := ⟨RX7, "best", "()I"⟩
abbrev cX7_price : ByteArray := prog_1_method_18_code
def yX7_price : MethodName := ⟨RX7, "price", "()I"⟩
abbrev cX7_under : ByteArray := prog_1_method_19_code
def yX7_under : MethodName := ⟨RX7, "under", "(I)I"⟩
abbrev cX7_sure : ByteArray := prog_1_method_20_code
def yX7_sure : MethodName := ⟨RX7, "sure", "(IIIII)I"⟩
abbrev cX7_bet : ByteArray := prog_1_method_21_code
def yX7_bet : MethodName := ⟨RX7, "bet", "(III)I"⟩
abbrev cX7_sets : ByteArray := prog_1_method_22_code
def yX7_sets : MethodName := ⟨RX7, "sets", "(IIII)I"⟩
abbrev cX7_surely : ByteArray := prog_1_method_23_code
def yX7_surely : MethodName := ⟨RX7, "surely", "(IIIII)I"⟩
abbrev cX7_lots : ByteArray := prog_1_method_24_code
def yX7_lots : MethodName := ⟨RX7, "lots", "()I"⟩
abbrev cX7_seed : ByteArray := prog_1_method_25_code
def yX7_seed : MethodName := ⟨RX7, "seed", "(I)I"⟩
abbrev cX7_image : ByteArray := prog_1_method_26_code
def yX7_image : MethodName := ⟨RX7, "image", "()I"⟩
abbrev cX7_restore : ByteArray := prog_1_method_27_code
def yX7_restore : MethodName := ⟨RX7, "restore", "()I"⟩
abbrev cX7_judged : ByteArray := prog_1_method_28_code
def yX7_judged : MethodName := ⟨RX7, "judged", "(IIII)I"⟩
abbrev cX7_film : ByteArray := prog_1_method_29_code
def yX7_film : MethodName := ⟨RX7, "film", "(IIII)I"⟩
abbrev cX7_sheet : ByteArray := prog_1_method_30_code
def yX7_sheet : MethodName := ⟨RX7, "sheet", "(III)I"⟩
abbrev cX7_drop : ByteArray := prog_1_method_31_code
def yX7_drop : MethodName := ⟨RX7, "drop", "(I)I"⟩
abbrev cX7_item : ByteArray := prog_1_method_32_code
def yX7_item : MethodName := ⟨RX7, "item", "(IIII)I"⟩
abbrev cX7_copy : ByteArray := prog_1_method_33_code
def yX7_copy : MethodName := ⟨RX7, "copy", "(IIIII)I"⟩
abbrev cX7_findSheet : ByteArray := prog_1_method_34_code
def yX7_findSheet : MethodName := ⟨RX7, "findSheet", "(I)LNineLies$Sheet;"⟩
abbrev cX7_refusalOf : ByteArray := prog_1_method_35_code
def yX7_refusalOf : MethodName := ⟨RX7, "refusalOf", "(I)I"⟩
abbrev cX7_harmBy : ByteArray := prog_1_method_36_code
def yX7_harmBy : MethodName := ⟨RX7, "harmBy", "(III)I"⟩
abbrev cX7_isWithin : ByteArray := prog_1_method_37_code
def yX7_isWithin : MethodName := ⟨RX7, "isWithin", "(III)Z"⟩
abbrev cX7_isLane : ByteArray := prog_1_method_38_code
def yX7_isLane : MethodName := ⟨RX7, "isLane", "(I)Z"⟩
abbrev cX7_isThing : ByteArray := prog_1_method_39_code
def yX7_isThing : MethodName := ⟨RX7, "isThing", "(II)Z"⟩
abbrev cX7_isSetting : ByteArray := prog_1_method_40_code
def yX7_isSetting : MethodName := ⟨RX7, "isSetting", "(II)Z"⟩
abbrev cX7_areWords : ByteArray := prog_1_method_41_code
def yX7_areWords : MethodName := ⟨RX7, "areWords", "(III)Z"⟩
abbrev cX7_areTextBytes : ByteArray := prog_1_method_42_code
def yX7_areTextBytes : MethodName := ⟨RX7, "areTextBytes", "(JI)Z"⟩
abbrev cX7_byteFromLowest : ByteArray := prog_1_method_43_code
def yX7_byteFromLowest : MethodName := ⟨RX7, "byteFromLowest", "(JI)I"⟩
abbrev cX7_holds : ByteArray := prog_1_method_44_code
def yX7_holds : MethodName := ⟨RX7, "holds", "(II)Z"⟩
abbrev cX7_at : ByteArray := prog_1_method_45_code
def yX7_at : MethodName := ⟨RX7, "at", "([II)I"⟩
abbrev cX7_put : ByteArray := prog_1_method_46_code
def yX7_put : MethodName := ⟨RX7, "put", "([III)I"⟩
abbrev cX7_greatestDivisor : ByteArray := prog_1_method_47_code
def yX7_greatestDivisor : MethodName := ⟨RX7, "greatestDivisor", "(II)I"⟩
abbrev cX7_leastSureStake : ByteArray := prog_1_method_48_code
def yX7_leastSureStake : MethodName := ⟨RX7, "leastSureStake", "(III)I"⟩
abbrev cX7_isOpen : ByteArray := prog_1_method_49_code
def yX7_isOpen : MethodName := ⟨RX7, "isOpen", "(II)Z"⟩
abbrev cX7_openAgain : ByteArray := prog_1_method_50_code
def yX7_openAgain : MethodName := ⟨RX7, "openAgain", "(II)I"⟩
def RX8 : String := "NineLiesModel"
def TX8 : u_T := fun k => match k with
  | 0 => ("NineLiesModel", "now", "[I", true)
  | 1 => ("NineLiesModel", "then", "[I", true)
  | 2 => ("NineLiesModel", "isKept", "Z", false)
  | 3 => ("NineLiesModel", "tape", "[I", true)
  | 4 => ("NineLiesModel", "taped", "I", false)
  | 5 => ("NineLiesModel", "sizes", "[I", true)
  | 6 => ("NineLiesModel", "lanes", "[I", true)
  | 7 => ("NineLiesModel", "items", "[I", true)
  | 8 => ("NineLiesModel", "at", "I", false)
  | 9 => ("NineLiesModel", "size", "I", false)
  | 10 => ("NineLiesModel", "read", "I", false)
  | 11 => ("NineLiesModel", "days", "[I", true)
  | 12 => ("NineLiesModel", "least", "[I", true)
  | 13 => ("NineLiesModel", "ways", "[I", true)
  | _ => ("NineLiesModel", "next", "[I", true)
def tyX8 : Nat → FieldType := fun k => match k with
  | 0 => .array .int
  | 1 => .array .int
  | 2 => .boolean
  | 3 => .array .int
  | 4 => .int
  | 5 => .array .int
  | 6 => .array .int
  | 7 => .array .int
  | 8 => .int
  | 9 => .int
  | 10 => .int
  | 11 => .array .int
  | 12 => .array .int
  | 13 => .array .int
  | _ => .array .int
abbrev wsX80 : List Cond := u_ws RX8 TX8 15
theorem nmX8 : ∀ a, a < 15 → ∀ b, b < 15 → a ≠ b → (TX8 a).2.1 ≠ (TX8 b).2.1 := by decide +kernel
theorem tyX8_ok : ∀ k, k < 15 → parseFieldDescriptor (TX8 k).2.2.1 = some (tyX8 k) := by decide +kernel
abbrev cX8_init : ByteArray := prog_10_method_1_code
def yX8_init : MethodName := ⟨RX8, "<init>", "()V"⟩
abbrev cX8_in : ByteArray := prog_10_method_3_code
def yX8_in : MethodName := ⟨RX8, "in", "(JJJ)Z"⟩
abbrev cX8_has : ByteArray := prog_10_method_4_code
def yX8_has : MethodName := ⟨RX8, "has", "(II)Z"⟩
abbrev cX8_changed : ByteArray := prog_10_method_6_code
def yX8_changed : MethodName := ⟨RX8, "changed", "(II)I"⟩
abbrev cX8_isDay : ByteArray := prog_10_method_7_code
def yX8_isDay : MethodName := ⟨RX8, "isDay", "(I)Z"⟩
abbrev cX8_isSet : ByteArray := prog_10_method_8_code
def yX8_isSet : MethodName := ⟨RX8, "isSet", "(I)Z"⟩
abbrev cX8_day : ByteArray := prog_10_method_9_code
def yX8_day : MethodName := ⟨RX8, "day", "(III)I"⟩
abbrev cX8_isOf : ByteArray := prog_10_method_10_code
def yX8_isOf : MethodName := ⟨RX8, "isOf", "(II)Z"⟩
abbrev cX8_alter : ByteArray := prog_10_method_11_code
def yX8_alter : MethodName := ⟨RX8, "alter", "(III)I"⟩
abbrev cX8_told : ByteArray := prog_10_method_12_code
def yX8_told : MethodName := ⟨RX8, "told", "(II)I"⟩
abbrev cX8_strike : ByteArray := prog_10_method_13_code
def yX8_strike : MethodName := ⟨RX8, "strike", "()I"⟩
abbrev cX8_set : ByteArray := prog_10_method_14_code
def yX8_set : MethodName := ⟨RX8, "set", "(II)I"⟩
abbrev cX8_type : ByteArray := prog_10_method_15_code
def yX8_type : MethodName := ⟨RX8, "type", "(JI)I"⟩
abbrev cX8_look : ByteArray := prog_10_method_16_code
def yX8_look : MethodName := ⟨RX8, "look", "()I"⟩
abbrev cX8_takes : ByteArray := prog_10_method_17_code
def yX8_takes : MethodName := ⟨RX8, "takes", "(I)I"⟩
abbrev cX8_takesDay : ByteArray := prog_10_method_18_code
def yX8_takesDay : MethodName := ⟨RX8, "takesDay", "()I"⟩
abbrev cX8_year : ByteArray := prog_10_method_19_code
def yX8_year : MethodName := ⟨RX8, "year", "()I"⟩
abbrev cX8_count : ByteArray := prog_10_method_20_code
def yX8_count : MethodName := ⟨RX8, "count", "(I)I"⟩
abbrev cX8_lets : ByteArray := prog_10_method_21_code
def yX8_lets : MethodName := ⟨RX8, "lets", "(III)Z"⟩
abbrev cX8_minds : ByteArray := prog_10_method_22_code
def yX8_minds : MethodName := ⟨RX8, "minds", "(IIZ)I"⟩
abbrev cX8_mindedOn : ByteArray := prog_10_method_23_code
def yX8_mindedOn : MethodName := ⟨RX8, "mindedOn", "(II)I"⟩
abbrev cX8_may : ByteArray := prog_10_method_24_code
def yX8_may : MethodName := ⟨RX8, "may", "(I)I"⟩
abbrev cX8_wrongIn : ByteArray := prog_10_method_25_code
def yX8_wrongIn : MethodName := ⟨RX8, "wrongIn", "(I)I"⟩
abbrev cX8_lawful : ByteArray := prog_10_method_26_code
def yX8_lawful : MethodName := ⟨RX8, "lawful", "(I)I"⟩
abbrev cX8_wrong : ByteArray := prog_10_method_27_code
def yX8_wrong : MethodName := ⟨RX8, "wrong", "(I)I"⟩
abbrev cX8_trusts : ByteArray := prog_10_method_28_code
def yX8_trusts : MethodName := ⟨RX8, "trusts", "(II)Z"⟩
abbrev cX8_brings : ByteArray := prog_10_method_29_code
def yX8_brings : MethodName := ⟨RX8, "brings", "(IIZ)I"⟩
abbrev cX8_gainOf : ByteArray := prog_10_method_30_code
def yX8_gainOf : MethodName := ⟨RX8, "gainOf", "(I)I"⟩
abbrev cX8_gain : ByteArray := prog_10_method_31_code
def yX8_gain : MethodName := ⟨RX8, "gain", "(I)I"⟩
abbrev cX8_trusted : ByteArray := prog_10_method_32_code
def yX8_trusted : MethodName := ⟨RX8, "trusted", "(I)I"⟩
abbrev cX8_place : ByteArray := prog_10_method_33_code
def yX8_place : MethodName := ⟨RX8, "place", "(III)I"⟩
abbrev cX8_from : ByteArray := prog_10_method_34_code
def yX8_from : MethodName := ⟨RX8, "from", "(IIIZ)I"⟩
abbrev cX8_mayLie : ByteArray := prog_10_method_35_code
def yX8_mayLie : MethodName := ⟨RX8, "mayLie", "(III)Z"⟩
abbrev cX8_harmNow : ByteArray := prog_10_method_36_code
def yX8_harmNow : MethodName := ⟨RX8, "harmNow", "()I"⟩
abbrev cX8_harm : ByteArray := prog_10_method_37_code
def yX8_harm : MethodName := ⟨RX8, "harm", "()I"⟩
abbrev cX8_worst : ByteArray := prog_10_method_38_code
def yX8_worst : MethodName := ⟨RX8, "worst", "()I"⟩
abbrev cX8_best : ByteArray := prog_10_method_39_code
def yX8_best : MethodName := ⟨RX8, "best", "()I"⟩
abbrev cX8_price : ByteArray := prog_10_method_40_code
def yX8_price : MethodName := ⟨RX8, "price", "()I"⟩
abbrev cX8_under : ByteArray := prog_10_method_41_code
def yX8_under : MethodName := ⟨RX8, "under", "(I)I"⟩
abbrev cX8_sure : ByteArray := prog_10_method_42_code
def yX8_sure : MethodName := ⟨RX8, "sure", "(IIIII)I"⟩
abbrev cX8_bet : ByteArray := prog_10_method_43_code
def yX8_bet : MethodName := ⟨RX8, "bet", "(III)I"⟩
abbrev cX8_setsOf : ByteArray := prog_10_method_44_code
def yX8_setsOf : MethodName := ⟨RX8, "setsOf", "(IIII)I"⟩
abbrev cX8_areWords : ByteArray := prog_10_method_45_code
def yX8_areWords : MethodName := ⟨RX8, "areWords", "(IIII)Z"⟩
abbrev cX8_sets : ByteArray := prog_10_method_46_code
def yX8_sets : MethodName := ⟨RX8, "sets", "(IIII)I"⟩
abbrev cX8_surely : ByteArray := prog_10_method_47_code
def yX8_surely : MethodName := ⟨RX8, "surely", "(IIIII)I"⟩
abbrev cX8_lots : ByteArray := prog_10_method_48_code
def yX8_lots : MethodName := ⟨RX8, "lots", "()I"⟩
abbrev cX8_seed : ByteArray := prog_10_method_49_code
def yX8_seed : MethodName := ⟨RX8, "seed", "(I)I"⟩
abbrev cX8_image : ByteArray := prog_10_method_50_code
def yX8_image : MethodName := ⟨RX8, "image", "()I"⟩
abbrev cX8_restore : ByteArray := prog_10_method_51_code
def yX8_restore : MethodName := ⟨RX8, "restore", "()I"⟩
abbrev cX8_isSheet : ByteArray := prog_10_method_52_code
def yX8_isSheet : MethodName := ⟨RX8, "isSheet", "(II)Z"⟩
abbrev cX8_found : ByteArray := prog_10_method_53_code
def yX8_found : MethodName := ⟨RX8, "found", "(IIII)I"⟩
abbrev cX8_judged : ByteArray := prog_10_method_54_code
def yX8_judged : MethodName := ⟨RX8, "judged", "(IIII)I"⟩
abbrev cX8_film : ByteArray := prog_10_method_55_code
def yX8_film : MethodName := ⟨RX8, "film", "(IIII)I"⟩
abbrev cX8_sheet : ByteArray := prog_10_method_56_code
def yX8_sheet : MethodName := ⟨RX8, "sheet", "(III)I"⟩
abbrev cX8_drop : ByteArray := prog_10_method_57_code
def yX8_drop : MethodName := ⟨RX8, "drop", "(I)I"⟩
abbrev cX8_item : ByteArray := prog_10_method_58_code
def yX8_item : MethodName := ⟨RX8, "item", "(IIII)I"⟩
abbrev cX8_copy : ByteArray := prog_10_method_59_code
def yX8_copy : MethodName := ⟨RX8, "copy", "(IIIII)I"⟩
def RJ6 : String := "java/lang/Integer"
def TJ6 : u_T := fun k => match k with
  | _ => ("", "", "", false)
def tyJ6 : Nat → FieldType := fun k => match k with
  | _ => .int
theorem nmJ6 : ∀ a, a < 0 → ∀ b, b < 0 → a ≠ b → (TJ6 a).2.1 ≠ (TJ6 b).2.1 := by decide +kernel
theorem tyJ6_ok : ∀ k, k < 0 → parseFieldDescriptor (TJ6 k).2.2.1 = some (tyJ6 k) := by decide +kernel
abbrev cJ6_bitCount_0f7a4 : ByteArray := prog_11_method_49_code
def yJ6_bitCount_0f7a4 : MethodName := ⟨RJ6, "bitCount", "(I)I"⟩
def RJ9 : String := "java/lang/Math"
def TJ9 : u_T := fun k => match k with
  | _ => ("", "", "", false)
def tyJ9 : Nat → FieldType := fun k => match k with
  | _ => .int
theorem nmJ9 : ∀ a, a < 0 → ∀ b, b < 0 → a ≠ b → (TJ9 a).2.1 ≠ (TJ9 b).2.1 := by decide +kernel
theorem tyJ9_ok : ∀ k, k < 0 → parseFieldDescriptor (TJ9 k).2.2.1 = some (tyJ9 k) := by decide +kernel
abbrev cJ9_max_7cf53 : ByteArray := prog_12_method_65_code
def yJ9_max_7cf53 : MethodName := ⟨RJ9, "max", "(II)I"⟩
abbrev cJ9_min_7cf53 : ByteArray := prog_12_method_69_code
def yJ9_min_7cf53 : MethodName := ⟨RJ9, "min", "(II)I"⟩
def RJ10 : String := "java/lang/System"
def TJ10 : u_T := fun k => match k with
  | _ => ("", "", "", false)
def tyJ10 : Nat → FieldType := fun k => match k with
  | _ => .int
theorem nmJ10 : ∀ a, a < 0 → ∀ b, b < 0 → a ≠ b → (TJ10 a).2.1 ≠ (TJ10 b).2.1 := by decide +kernel
theorem tyJ10_ok : ∀ k, k < 0 → parseFieldDescriptor (TJ10 k).2.2.1 = some (tyJ10 k) := by decide +kernel
def RL : String := "NineLiesLaw"
abbrev cL_law : ByteArray := code
def yL_law : MethodName := ⟨RL, "law", "([I)Z"⟩
abbrev vwCl : List vw_C := [(RX0, TX0, 2), (RX1, TX1, 1), (RX2, TX2, 3), (RX3, TX3, 1), (RX4, TX4, 3), (RX5, TX5, 1), (RX6, TX6, 2), (RX7, TX7, 8), (RX8, TX8, 15)]
-- ===== where the words stand in lw_tbl =====
theorem sp_m {w : Cond} {i : Nat} (h : lw_tbl[i]? = some w) : w ∈ lw_tbl := List.mem_of_getElem? h
theorem sq0 {w : Cond} {i : Nat} (h : (k2_sels lw_privs)[i]? = some w) : w ∈ lw_tbl := List.mem_append_left _ (List.mem_of_getElem? h)
theorem sq1 {w : Cond} {i : Nat} (h : tables_1_1[i]? = some w) : w ∈ lw_tbl := List.mem_append_right _ (List.mem_append_left _ (List.mem_of_getElem? h))
theorem sq2 {w : Cond} {i : Nat} (h : tables_1_2[i]? = some w) : w ∈ lw_tbl := List.mem_append_right _ (List.mem_append_right _ (List.mem_append_left _ (List.mem_of_getElem? h)))
theorem sq3 {w : Cond} {i : Nat} (h : tables_1_3[i]? = some w) : w ∈ lw_tbl := List.mem_append_right _ (List.mem_append_right _ (List.mem_append_right _ (List.mem_append_left _ (List.mem_of_getElem? h))))
theorem sq4 {w : Cond} {i : Nat} (h : tables_1_4[i]? = some w) : w ∈ lw_tbl := List.mem_append_right _ (List.mem_append_right _ (List.mem_append_right _ (List.mem_append_right _ (List.mem_of_getElem? h))))
set_option maxRecDepth 20000 in
theorem inX0 : ∀ w ∈ u_ws RX0 TX0 2, w ∈ lw_tbl := by
  show ∀ w ∈ [u_lay RX0 TX0 0, u_lay RX0 TX0 1], w ∈ lw_tbl
  exact List.forall_mem_cons.mpr ⟨sq1 (i := 39) rfl, List.forall_mem_cons.mpr ⟨sq1 (i := 41) rfl, fun _ h => absurd h List.not_mem_nil⟩⟩
set_option maxRecDepth 20000 in
theorem inX1 : ∀ w ∈ u_ws RX1 TX1 1, w ∈ lw_tbl := by
  show ∀ w ∈ [u_lay RX1 TX1 0], w ∈ lw_tbl
  exact List.forall_mem_cons.mpr ⟨sq1 (i := 88) rfl, fun _ h => absurd h List.not_mem_nil⟩
set_option maxRecDepth 20000 in
theorem inX2 : ∀ w ∈ u_ws RX2 TX2 3, w ∈ lw_tbl := by
  show ∀ w ∈ [u_lay RX2 TX2 0, u_lay RX2 TX2 1, u_lay RX2 TX2 2], w ∈ lw_tbl
  exact List.forall_mem_cons.mpr ⟨sq1 (i := 115) rfl, List.forall_mem_cons.mpr ⟨sq1 (i := 117) rfl, List.forall_mem_cons.mpr ⟨sq1 (i := 119) rfl, fun _ h => absurd h List.not_mem_nil⟩⟩⟩
set_option maxRecDepth 20000 in
theorem inX3 : ∀ w ∈ u_ws RX3 TX3 1, w ∈ lw_tbl := by
  show ∀ w ∈ [u_lay RX3 TX3 0], w ∈ lw_tbl
  exact List.forall_mem_cons.mpr ⟨sq1 (i := 84) rfl, fun _ h => absurd h List.not_mem_nil⟩
set_option maxRecDepth 20000 in
theorem inX4 : ∀ w ∈ u_ws RX4 TX4 3, w ∈ lw_tbl := by
  show ∀ w ∈ [u_lay RX4 TX4 0, u_lay RX4 TX4 1, u_lay RX4 TX4 2], w ∈ lw_tbl
  exact List.forall_mem_cons.mpr ⟨sq1 (i := 62) rfl, List.forall_mem_cons.mpr ⟨sq1 (i := 64) rfl, List.forall_mem_cons.mpr ⟨sq1 (i := 66) rfl, fun _ h => absurd h List.not_mem_nil⟩⟩⟩
set_option maxRecDepth 20000 in
theorem inX5 : ∀ w ∈ u_ws RX5 TX5 1, w ∈ lw_tbl := by
  show ∀ w ∈ [u_lay RX5 TX5 0], w ∈ lw_tbl
  exact List.forall_mem_cons.mpr ⟨sq1 (i := 100) rfl, fun _ h => absurd h List.not_mem_nil⟩
set_option maxRecDepth 20000 in
theorem inX6 : ∀ w ∈ u_ws RX6 TX6 2, w ∈ lw_tbl := by
  show ∀ w ∈ [u_lay RX6 TX6 0, u_lay RX6 TX6 1], w ∈ lw_tbl
  exact List.forall_mem_cons.mpr ⟨sq1 (i := 48) rfl, List.forall_mem_cons.mpr ⟨sq1 (i := 50) rfl, fun _ h => absurd h List.not_mem_nil⟩⟩
set_option maxRecDepth 20000 in
theorem inX7 : ∀ w ∈ u_ws RX7 TX7 8, w ∈ lw_tbl := by
  show ∀ w ∈ [u_lay RX7 TX7 0, u_lay RX7 TX7 1, u_lay RX7 TX7 2, u_lay RX7 TX7 3, u_lay RX7 TX7 4, u_lay RX7 TX7 5, u_lay RX7 TX7 6, u_lay RX7 TX7 7], w ∈ lw_tbl
  exact List.forall_mem_cons.mpr ⟨sq1 (i := 130) rfl, List.forall_mem_cons.mpr ⟨sq1 (i := 132) rfl, List.forall_mem_cons.mpr ⟨sq1 (i := 134) rfl, List.forall_mem_cons.mpr ⟨sq1 (i := 136) rfl, List.forall_mem_cons.mpr ⟨sq1 (i := 138) rfl, List.forall_mem_cons.mpr ⟨sq1 (i := 140) rfl, List.forall_mem_cons.mpr ⟨sq1 (i := 142) rfl, List.forall_mem_cons.mpr ⟨sq1 (i := 144) rfl, fun _ h => absurd h List.not_mem_nil⟩⟩⟩⟩⟩⟩⟩⟩
set_option maxRecDepth 20000 in
theorem inX8 : ∀ w ∈ u_ws RX8 TX8 15, w ∈ lw_tbl := by
  show ∀ w ∈ [u_lay RX8 TX8 0, u_lay RX8 TX8 1, u_lay RX8 TX8 2, u_lay RX8 TX8 3, u_lay RX8 TX8 4, u_lay RX8 TX8 5, u_lay RX8 TX8 6, u_lay RX8 TX8 7, u_lay RX8 TX8 8, u_lay RX8 TX8 9, u_lay RX8 TX8 10, u_lay RX8 TX8 11, u_lay RX8 TX8 12, u_lay RX8 TX8 13, u_lay RX8 TX8 14], w ∈ lw_tbl
  exact List.forall_mem_cons.mpr ⟨sq3 (i := 124) rfl, List.forall_mem_cons.mpr ⟨sq3 (i := 126) rfl, List.forall_mem_cons.mpr ⟨sq3 (i := 128) rfl, List.forall_mem_cons.mpr ⟨sq3 (i := 130) rfl, List.forall_mem_cons.mpr ⟨sq3 (i := 132) rfl, List.forall_mem_cons.mpr ⟨sq3 (i := 134) rfl, List.forall_mem_cons.mpr ⟨sq3 (i := 136) rfl, List.forall_mem_cons.mpr ⟨sq3 (i := 138) rfl, List.forall_mem_cons.mpr ⟨sq3 (i := 140) rfl, List.forall_mem_cons.mpr ⟨sq3 (i := 142) rfl, List.forall_mem_cons.mpr ⟨sq3 (i := 144) rfl, List.forall_mem_cons.mpr ⟨sq3 (i := 146) rfl, List.forall_mem_cons.mpr ⟨sq3 (i := 148) rfl, List.forall_mem_cons.mpr ⟨sq3 (i := 150) rfl, List.forall_mem_cons.mpr ⟨sq3 (i := 152) rfl, fun _ h => absurd h List.not_mem_nil⟩⟩⟩⟩⟩⟩⟩⟩⟩⟩⟩⟩⟩⟩⟩
/-- own's entry idx names field k of class ci -/
def sm_F (own : String) (idx ci k : Nat) : Prop := ∃ (C : String) (T : u_T) (N : Nat), vwCl[ci]? = some (C, T, N) ∧ k < N ∧ (T k).1 = C ∧ (Cond.fieldLink own idx C (T k).2.1 (T k).2.2.1 ∈ lw_tbl ∨ Cond.fieldLinkNest own idx C (T k).2.1 (T k).2.2.1 "NineLies" ∈ lw_tbl)
/-- .. and it isn't final, of a type of that descriptor -/
def sm_FP (own : String) (idx ci k : Nat) (d : String) : Prop := sm_F own idx ci k ∧ ∃ (C : String) (T : u_T) (N : Nat), vwCl[ci]? = some (C, T, N) ∧ (T k).2.2.2 = false ∧ (T k).2.2.1 = d
set_option maxRecDepth 20000 in
theorem fkX0_9 : sm_F RX0 9 0 0 := ⟨RX0, TX0, 2, rfl, by decide, rfl, Or.inl (sq1 (i := 33) rfl)⟩
set_option maxRecDepth 20000 in
theorem fkX0_15 : sm_F RX0 15 0 1 := ⟨RX0, TX0, 2, rfl, by decide, rfl, Or.inl (sq1 (i := 34) rfl)⟩
theorem fpX0_15 : sm_FP RX0 15 0 1 "I" := ⟨fkX0_15, RX0, TX0, 2, rfl, rfl, rfl⟩
set_option maxRecDepth 20000 in
theorem fkX1_18 : sm_F RX1 18 0 1 := ⟨RX0, TX0, 2, rfl, by decide, rfl, Or.inr (sq1 (i := 35) rfl)⟩
theorem fpX1_18 : sm_FP RX1 18 0 1 "I" := ⟨fkX1_18, RX0, TX0, 2, rfl, rfl, rfl⟩
set_option maxRecDepth 20000 in
theorem fkX4_43 : sm_F RX4 43 0 1 := ⟨RX0, TX0, 2, rfl, by decide, rfl, Or.inr (sq1 (i := 36) rfl)⟩
theorem fpX4_43 : sm_FP RX4 43 0 1 "I" := ⟨fkX4_43, RX0, TX0, 2, rfl, rfl, rfl⟩
set_option maxRecDepth 20000 in
theorem fkX6_52 : sm_F RX6 52 0 1 := ⟨RX0, TX0, 2, rfl, by decide, rfl, Or.inr (sq1 (i := 37) rfl)⟩
theorem fpX6_52 : sm_FP RX6 52 0 1 "I" := ⟨fkX6_52, RX0, TX0, 2, rfl, rfl, rfl⟩
set_option maxRecDepth 20000 in
theorem fkX7_112 : sm_F RX7 112 0 1 := ⟨RX0, TX0, 2, rfl, by decide, rfl, Or.inr (sq1 (i := 38) rfl)⟩
theorem fpX7_112 : sm_FP RX7 112 0 1 "I" := ⟨fkX7_112, RX0, TX0, 2, rfl, rfl, rfl⟩
set_option maxRecDepth 20000 in
theorem fkX6_12 : sm_F RX6 12 6 0 := ⟨RX6, TX6, 2, rfl, by decide, rfl, Or.inl (sq1 (i := 45) rfl)⟩
set_option maxRecDepth 20000 in
theorem fkX7_62 : sm_F RX7 62 6 0 := ⟨RX6, TX6, 2, rfl, by decide, rfl, Or.inr (sq1 (i := 46) rfl)⟩
set_option maxRecDepth 20000 in
theorem fkX6_18 : sm_F RX6 18 6 1 := ⟨RX6, TX6, 2, rfl, by decide, rfl, Or.inl (sq1 (i := 47) rfl)⟩
set_option maxRecDepth 20000 in
theorem fkX4_9 : sm_F RX4 9 4 0 := ⟨RX4, TX4, 3, rfl, by decide, rfl, Or.inl (sq1 (i := 59) rfl)⟩
set_option maxRecDepth 20000 in
theorem fkX4_15 : sm_F RX4 15 4 1 := ⟨RX4, TX4, 3, rfl, by decide, rfl, Or.inl (sq1 (i := 60) rfl)⟩
theorem fpX4_15 : sm_FP RX4 15 4 1 "I" := ⟨fkX4_15, RX4, TX4, 3, rfl, rfl, rfl⟩
set_option maxRecDepth 20000 in
theorem fkX4_19 : sm_F RX4 19 4 2 := ⟨RX4, TX4, 3, rfl, by decide, rfl, Or.inl (sq1 (i := 61) rfl)⟩
theorem fpX4_19 : sm_FP RX4 19 4 2 "I" := ⟨fkX4_19, RX4, TX4, 3, rfl, rfl, rfl⟩
set_option maxRecDepth 20000 in
theorem fkX3_9 : sm_F RX3 9 3 0 := ⟨RX3, TX3, 1, rfl, by decide, rfl, Or.inl (sq1 (i := 83) rfl)⟩
set_option maxRecDepth 20000 in
theorem fkX1_12 : sm_F RX1 12 1 0 := ⟨RX1, TX1, 1, rfl, by decide, rfl, Or.inl (sq1 (i := 87) rfl)⟩
set_option maxRecDepth 20000 in
theorem fkX5_12 : sm_F RX5 12 5 0 := ⟨RX5, TX5, 1, rfl, by decide, rfl, Or.inl (sq1 (i := 99) rfl)⟩
set_option maxRecDepth 20000 in
theorem fkX2_9 : sm_F RX2 9 2 0 := ⟨RX2, TX2, 3, rfl, by decide, rfl, Or.inl (sq1 (i := 110) rfl)⟩
set_option maxRecDepth 20000 in
theorem fkX7_206 : sm_F RX7 206 2 0 := ⟨RX2, TX2, 3, rfl, by decide, rfl, Or.inr (sq1 (i := 111) rfl)⟩
set_option maxRecDepth 20000 in
theorem fkX2_15 : sm_F RX2 15 2 1 := ⟨RX2, TX2, 3, rfl, by decide, rfl, Or.inl (sq1 (i := 112) rfl)⟩
theorem fpX2_15 : sm_FP RX2 15 2 1 "I" := ⟨fkX2_15, RX2, TX2, 3, rfl, rfl, rfl⟩
set_option maxRecDepth 20000 in
theorem fkX7_200 : sm_F RX7 200 2 1 := ⟨RX2, TX2, 3, rfl, by decide, rfl, Or.inr (sq1 (i := 113) rfl)⟩
theorem fpX7_200 : sm_FP RX7 200 2 1 "I" := ⟨fkX7_200, RX2, TX2, 3, rfl, rfl, rfl⟩
set_option maxRecDepth 20000 in
theorem fkX2_19 : sm_F RX2 19 2 2 := ⟨RX2, TX2, 3, rfl, by decide, rfl, Or.inl (sq1 (i := 114) rfl)⟩
theorem fpX2_19 : sm_FP RX2 19 2 2 "I" := ⟨fkX2_19, RX2, TX2, 3, rfl, rfl, rfl⟩
set_option maxRecDepth 20000 in
theorem fkX7_10 : sm_F RX7 10 7 0 := ⟨RX7, TX7, 8, rfl, by decide, rfl, Or.inl (sq1 (i := 122) rfl)⟩
set_option maxRecDepth 20000 in
theorem fkX7_16 : sm_F RX7 16 7 1 := ⟨RX7, TX7, 8, rfl, by decide, rfl, Or.inl (sq1 (i := 123) rfl)⟩
set_option maxRecDepth 20000 in
theorem fkX7_19 : sm_F RX7 19 7 2 := ⟨RX7, TX7, 8, rfl, by decide, rfl, Or.inl (sq1 (i := 124) rfl)⟩
theorem fpX7_19 : sm_FP RX7 19 7 2 "Z" := ⟨fkX7_19, RX7, TX7, 8, rfl, rfl, rfl⟩
set_option maxRecDepth 20000 in
theorem fkX7_26 : sm_F RX7 26 7 3 := ⟨RX7, TX7, 8, rfl, by decide, rfl, Or.inl (sq1 (i := 125) rfl)⟩
set_option maxRecDepth 20000 in
theorem fkX7_33 : sm_F RX7 33 7 4 := ⟨RX7, TX7, 8, rfl, by decide, rfl, Or.inl (sq1 (i := 126) rfl)⟩
set_option maxRecDepth 20000 in
theorem fkX7_40 : sm_F RX7 40 7 5 := ⟨RX7, TX7, 8, rfl, by decide, rfl, Or.inl (sq1 (i := 127) rfl)⟩
set_option maxRecDepth 20000 in
theorem fkX7_47 : sm_F RX7 47 7 6 := ⟨RX7, TX7, 8, rfl, by decide, rfl, Or.inl (sq1 (i := 128) rfl)⟩
set_option maxRecDepth 20000 in
theorem fkX7_53 : sm_F RX7 53 7 7 := ⟨RX7, TX7, 8, rfl, by decide, rfl, Or.inl (sq1 (i := 129) rfl)⟩
set_option maxRecDepth 20000 in
theorem fkX8_7 : sm_F RX8 7 8 0 := ⟨RX8, TX8, 15, rfl, by decide, rfl, Or.inl (sq3 (i := 109) rfl)⟩
set_option maxRecDepth 20000 in
theorem fkX8_13 : sm_F RX8 13 8 1 := ⟨RX8, TX8, 15, rfl, by decide, rfl, Or.inl (sq3 (i := 110) rfl)⟩
set_option maxRecDepth 20000 in
theorem fkX8_164 : sm_F RX8 164 8 2 := ⟨RX8, TX8, 15, rfl, by decide, rfl, Or.inl (sq3 (i := 111) rfl)⟩
theorem fpX8_164 : sm_FP RX8 164 8 2 "Z" := ⟨fkX8_164, RX8, TX8, 15, rfl, rfl, rfl⟩
set_option maxRecDepth 20000 in
theorem fkX8_16 : sm_F RX8 16 8 3 := ⟨RX8, TX8, 15, rfl, by decide, rfl, Or.inl (sq3 (i := 112) rfl)⟩
set_option maxRecDepth 20000 in
theorem fkX8_72 : sm_F RX8 72 8 4 := ⟨RX8, TX8, 15, rfl, by decide, rfl, Or.inl (sq3 (i := 113) rfl)⟩
theorem fpX8_72 : sm_FP RX8 72 8 4 "I" := ⟨fkX8_72, RX8, TX8, 15, rfl, rfl, rfl⟩
set_option maxRecDepth 20000 in
theorem fkX8_19 : sm_F RX8 19 8 5 := ⟨RX8, TX8, 15, rfl, by decide, rfl, Or.inl (sq3 (i := 114) rfl)⟩
set_option maxRecDepth 20000 in
theorem fkX8_22 : sm_F RX8 22 8 6 := ⟨RX8, TX8, 15, rfl, by decide, rfl, Or.inl (sq3 (i := 115) rfl)⟩
set_option maxRecDepth 20000 in
theorem fkX8_25 : sm_F RX8 25 8 7 := ⟨RX8, TX8, 15, rfl, by decide, rfl, Or.inl (sq3 (i := 116) rfl)⟩
set_option maxRecDepth 20000 in
theorem fkX8_76 : sm_F RX8 76 8 8 := ⟨RX8, TX8, 15, rfl, by decide, rfl, Or.inl (sq3 (i := 117) rfl)⟩
theorem fpX8_76 : sm_FP RX8 76 8 8 "I" := ⟨fkX8_76, RX8, TX8, 15, rfl, rfl, rfl⟩
set_option maxRecDepth 20000 in
theorem fkX8_79 : sm_F RX8 79 8 9 := ⟨RX8, TX8, 15, rfl, by decide, rfl, Or.inl (sq3 (i := 118) rfl)⟩
theorem fpX8_79 : sm_FP RX8 79 8 9 "I" := ⟨fkX8_79, RX8, TX8, 15, rfl, rfl, rfl⟩
set_option maxRecDepth 20000 in
theorem fkX8_90 : sm_F RX8 90 8 10 := ⟨RX8, TX8, 15, rfl, by decide, rfl, Or.inl (sq3 (i := 119) rfl)⟩
theorem fpX8_90 : sm_FP RX8 90 8 10 "I" := ⟨fkX8_90, RX8, TX8, 15, rfl, rfl, rfl⟩
set_option maxRecDepth 20000 in
theorem fkX8_28 : sm_F RX8 28 8 11 := ⟨RX8, TX8, 15, rfl, by decide, rfl, Or.inl (sq3 (i := 120) rfl)⟩
set_option maxRecDepth 20000 in
theorem fkX8_31 : sm_F RX8 31 8 12 := ⟨RX8, TX8, 15, rfl, by decide, rfl, Or.inl (sq3 (i := 121) rfl)⟩
set_option maxRecDepth 20000 in
theorem fkX8_34 : sm_F RX8 34 8 13 := ⟨RX8, TX8, 15, rfl, by decide, rfl, Or.inl (sq3 (i := 122) rfl)⟩
set_option maxRecDepth 20000 in
theorem fkX8_37 : sm_F RX8 37 8 14 := ⟨RX8, TX8, 15, rfl, by decide, rfl, Or.inl (sq3 (i := 123) rfl)⟩
/-- own's entry idx names method y -/
def sm_L (own : String) (idx : Nat) (y : MethodName) : Prop := Cond.methodLink own idx y ∈ lw_tbl ∨ Cond.methodLinkNest own idx y "NineLies" ∈ lw_tbl
set_option maxRecDepth 20000 in
theorem lkL_9 : sm_L RL 9 yX7_init := Or.inl (sq1 (i := 15) rfl)
set_option maxRecDepth 20000 in
theorem lkX7_9 : sm_L RX7 9 yX6_init := Or.inr (sq1 (i := 23) rfl)
set_option maxRecDepth 20000 in
theorem lkX6_11 : sm_L RX6 11 yX0_init := Or.inr (sq1 (i := 29) rfl)
set_option maxRecDepth 20000 in
theorem lkX7_25 : sm_L RX7 25 yX4_init := Or.inr (sq1 (i := 55) rfl)
set_option maxRecDepth 20000 in
theorem lkX7_32 : sm_L RX7 32 yX0_init := Or.inr (sq1 (i := 70) rfl)
set_option maxRecDepth 20000 in
theorem lkX7_39 : sm_L RX7 39 yX1_init := Or.inr (sq1 (i := 73) rfl)
set_option maxRecDepth 20000 in
theorem lkX1_11 : sm_L RX1 11 yX3_init := Or.inr (sq1 (i := 79) rfl)
set_option maxRecDepth 20000 in
theorem lkX7_46 : sm_L RX7 46 yX5_init := Or.inr (sq1 (i := 93) rfl)
set_option maxRecDepth 20000 in
theorem lkX5_11 : sm_L RX5 11 yX3_init := Or.inr (sq1 (i := 98) rfl)
set_option maxRecDepth 20000 in
theorem lkX7_57 : sm_L RX7 57 yX2_init := Or.inr (sq1 (i := 106) rfl)
set_option maxRecDepth 20000 in
theorem lkL_13 : sm_L RL 13 yX7_day := Or.inl (sq1 (i := 147) rfl)
set_option maxRecDepth 20000 in
theorem lkX7_58 : sm_L RX7 58 yX7_isThing := Or.inl (sq1 (i := 151) rfl)
set_option maxRecDepth 20000 in
theorem lkX7_76 : sm_L RX7 76 yX7_isWithin := Or.inl (sq1 (i := 154) rfl)
set_option maxRecDepth 20000 in
theorem lkX7_65 : sm_L RX7 65 yX0_add := Or.inl (sq1 (i := 157) rfl)
set_option maxRecDepth 20000 in
theorem lkX0_27 : sm_L RX0 27 yX0_isFull := Or.inl (sq1 (i := 161) rfl)
set_option maxRecDepth 20000 in
theorem lkX0_31 : sm_L RX0 31 yX0_change := Or.inl (sq1 (i := 165) rfl)
set_option maxRecDepth 20000 in
theorem lkX0_23 : sm_L RX0 23 yX7_put := Or.inr (sq1 (i := 169) rfl)
set_option maxRecDepth 20000 in
theorem lkX7_223 : sm_L RX7 223 yX7_at := Or.inl (sq1 (i := 172) rfl)
set_option maxRecDepth 20000 in
theorem lkL_18 : sm_L RL 18 yX7_alter := Or.inl (sq1 (i := 175) rfl)
set_option maxRecDepth 20000 in
theorem lkX7_69 : sm_L RX7 69 yX0_has := Or.inl (sq1 (i := 179) rfl)
set_option maxRecDepth 20000 in
theorem lkX7_73 : sm_L RX7 73 yX0_change := Or.inl (sq1 (i := 183) rfl)
set_option maxRecDepth 20000 in
theorem lkL_22 : sm_L RL 22 yX7_told := Or.inl (sq1 (i := 184) rfl)
set_option maxRecDepth 20000 in
theorem lkX7_80 : sm_L RX7 80 yX0_tell := Or.inl (sq1 (i := 188) rfl)
set_option maxRecDepth 20000 in
theorem lkX0_19 : sm_L RX0 19 yX7_at := Or.inr (sq1 (i := 192) rfl)
set_option maxRecDepth 20000 in
theorem lkL_27 : sm_L RL 27 yX7_strike := Or.inl (sq1 (i := 193) rfl)
set_option maxRecDepth 20000 in
theorem lkX7_84 : sm_L RX7 84 yX0_removeLast := Or.inl (sq1 (i := 197) rfl)
set_option maxRecDepth 20000 in
theorem lkL_32 : sm_L RL 32 yX7_set := Or.inl (sq1 (i := 201) rfl)
set_option maxRecDepth 20000 in
theorem lkX7_88 : sm_L RX7 88 yX7_isSetting := Or.inl (sq1 (i := 205) rfl)
set_option maxRecDepth 20000 in
theorem lkX7_91 : sm_L RX7 91 yX6_change := Or.inl (sq1 (i := 209) rfl)
set_option maxRecDepth 20000 in
theorem lkX6_26 : sm_L RX6 26 yX7_put := Or.inr (sq1 (i := 213) rfl)
set_option maxRecDepth 20000 in
theorem lkL_38 : sm_L RL 38 yX7_type := Or.inl (sq1 (i := 214) rfl)
set_option maxRecDepth 20000 in
theorem lkX7_93 : sm_L RX7 93 yX7_areTextBytes := Or.inl (sq1 (i := 218) rfl)
set_option maxRecDepth 20000 in
theorem lkX7_220 : sm_L RX7 220 yX7_byteFromLowest := Or.inl (sq1 (i := 221) rfl)
set_option maxRecDepth 20000 in
theorem lkX7_97 : sm_L RX7 97 yX4_append := Or.inl (sq1 (i := 224) rfl)
set_option maxRecDepth 20000 in
theorem lkX4_22 : sm_L RX4 22 yX7_byteFromLowest := Or.inr (sq1 (i := 228) rfl)
set_option maxRecDepth 20000 in
theorem lkX4_26 : sm_L RX4 26 yX7_put := Or.inr (sq1 (i := 229) rfl)
set_option maxRecDepth 20000 in
theorem lkL_43 : sm_L RL 43 yX7_year := Or.inl (sq1 (i := 230) rfl)
set_option maxRecDepth 20000 in
theorem lkX7_101 : sm_L RX7 101 yX4_readInto := Or.inl (sq1 (i := 234) rfl)
set_option maxRecDepth 20000 in
theorem lkX4_30 : sm_L RX4 30 yX0_empty := Or.inl (sq1 (i := 238) rfl)
set_option maxRecDepth 20000 in
theorem lkX4_35 : sm_L RX4 35 yX4_readDay := Or.inl (sq2 (i := 2) rfl)
set_option maxRecDepth 20000 in
theorem lkX4_39 : sm_L RX4 39 yX4_nextByte := Or.inl (sq2 (i := 6) rfl)
set_option maxRecDepth 20000 in
theorem lkX4_63 : sm_L RX4 63 yX7_at := Or.inr (sq2 (i := 10) rfl)
set_option maxRecDepth 20000 in
theorem lkX4_48 : sm_L RX4 48 yX4_faultAt := Or.inl (sq2 (i := 11) rfl)
set_option maxRecDepth 20000 in
theorem lkX4_52 : sm_L RX4 52 yX4_readNumber := Or.inl (sq2 (i := 14) rfl)
set_option maxRecDepth 20000 in
theorem lkX4_59 : sm_L RX4 59 yX4_isDigit := Or.inl (sq2 (i := 18) rfl)
set_option maxRecDepth 20000 in
theorem lkX4_67 : sm_L RX4 67 yJ9_min_7cf53 := Or.inl (sq2 (i := 21) rfl)
set_option maxRecDepth 20000 in
theorem lkX4_55 : sm_L RX4 55 yX0_add := Or.inl (sq2 (i := 24) rfl)
set_option maxRecDepth 20000 in
theorem lkX4_44 : sm_L RX4 44 yX0_isFull := Or.inl (sq2 (i := 25) rfl)
set_option maxRecDepth 20000 in
theorem lkX7_105 : sm_L RX7 105 yX0_become := Or.inl (sq2 (i := 26) rfl)
set_option maxRecDepth 20000 in
theorem lkX7_109 : sm_L RX7 109 yX4_empty := Or.inl (sq2 (i := 33) rfl)
set_option maxRecDepth 20000 in
theorem lkL_47 : sm_L RL 47 yX7_count := Or.inl (sq2 (i := 37) rfl)
set_option maxRecDepth 20000 in
theorem lkX7_116 : sm_L RX7 116 yX0_manyWithNews := Or.inl (sq2 (i := 41) rfl)
set_option maxRecDepth 20000 in
theorem lkX0_41 : sm_L RX0 41 yX0_tell := Or.inl (sq2 (i := 45) rfl)
set_option maxRecDepth 20000 in
theorem lkX7_119 : sm_L RX7 119 yX6_tell := Or.inl (sq2 (i := 46) rfl)
set_option maxRecDepth 20000 in
theorem lkX6_22 : sm_L RX6 22 yX7_at := Or.inr (sq2 (i := 50) rfl)
set_option maxRecDepth 20000 in
theorem lkX7_122 : sm_L RX7 122 yX0_sumOf := Or.inl (sq2 (i := 51) rfl)
set_option maxRecDepth 20000 in
theorem lkL_52 : sm_L RL 52 yX7_may := Or.inl (sq2 (i := 55) rfl)
set_option maxRecDepth 20000 in
theorem lkX7_125 : sm_L RX7 125 yX0_hasAll := Or.inl (sq2 (i := 59) rfl)
set_option maxRecDepth 20000 in
theorem lkX7_128 : sm_L RX7 128 yX6_openBehind := Or.inl (sq2 (i := 63) rfl)
set_option maxRecDepth 20000 in
theorem lkX6_56 : sm_L RX6 56 yX7_holds := Or.inr (sq2 (i := 67) rfl)
set_option maxRecDepth 20000 in
theorem lkX6_44 : sm_L RX6 44 yX6_tell := Or.inl (sq2 (i := 70) rfl)
set_option maxRecDepth 20000 in
theorem lkX6_59 : sm_L RX6 59 yX7_openAgain := Or.inr (sq2 (i := 71) rfl)
set_option maxRecDepth 20000 in
theorem lkX7_227 : sm_L RX7 227 yJ9_max_7cf53 := Or.inl (sq2 (i := 74) rfl)
set_option maxRecDepth 20000 in
theorem lkX6_63 : sm_L RX6 63 yX6_mayLie := Or.inl (sq2 (i := 77) rfl)
set_option maxRecDepth 20000 in
theorem lkX6_40 : sm_L RX6 40 yX0_hasNews := Or.inl (sq2 (i := 81) rfl)
set_option maxRecDepth 20000 in
theorem lkX6_48 : sm_L RX6 48 yX7_isOpen := Or.inr (sq2 (i := 85) rfl)
set_option maxRecDepth 20000 in
theorem lkL_56 : sm_L RL 56 yX7_lawful := Or.inl (sq2 (i := 88) rfl)
set_option maxRecDepth 20000 in
theorem lkX7_131 : sm_L RX7 131 yX7_refusalOf := Or.inl (sq2 (i := 92) rfl)
set_option maxRecDepth 20000 in
theorem lkX7_134 : sm_L RX7 134 yX6_firstWrong := Or.inl (sq2 (i := 96) rfl)
set_option maxRecDepth 20000 in
theorem lkX6_66 : sm_L RX6 66 yX6_leftOn := Or.inl (sq2 (i := 100) rfl)
set_option maxRecDepth 20000 in
theorem lkX6_69 : sm_L RX6 69 yJ6_bitCount_0f7a4 := Or.inl (sq2 (i := 104) rfl)
set_option maxRecDepth 20000 in
theorem lkL_60 : sm_L RL 60 yX7_wrong := Or.inl (sq2 (i := 110) rfl)
set_option maxRecDepth 20000 in
theorem lkL_64 : sm_L RL 64 yX7_gain := Or.inl (sq2 (i := 114) rfl)
set_option maxRecDepth 20000 in
theorem lkX7_137 : sm_L RX7 137 yX6_gainOf := Or.inl (sq2 (i := 118) rfl)
set_option maxRecDepth 20000 in
theorem lkX6_78 : sm_L RX6 78 yX6_courtHas := Or.inl (sq2 (i := 122) rfl)
set_option maxRecDepth 20000 in
theorem lkX6_74 : sm_L RX6 74 yX0_courtHas := Or.inl (sq2 (i := 126) rfl)
set_option maxRecDepth 20000 in
theorem lkX0_45 : sm_L RX0 45 yX0_isTrusted := Or.inl (sq2 (i := 130) rfl)
set_option maxRecDepth 20000 in
theorem lkX0_49 : sm_L RX0 49 yX0_hasNews := Or.inl (sq2 (i := 134) rfl)
set_option maxRecDepth 20000 in
theorem lkL_68 : sm_L RL 68 yX7_trusted := Or.inl (sq2 (i := 136) rfl)
set_option maxRecDepth 20000 in
theorem lkX7_141 : sm_L RX7 141 yX6_trustedBy := Or.inl (sq2 (i := 140) rfl)
set_option maxRecDepth 20000 in
theorem lkX6_80 : sm_L RX6 80 yX0_isTrusted := Or.inl (sq2 (i := 144) rfl)
set_option maxRecDepth 20000 in
theorem lkL_72 : sm_L RL 72 yX7_harm := Or.inl (sq2 (i := 145) rfl)
set_option maxRecDepth 20000 in
theorem lkX7_144 : sm_L RX7 144 yX7_harmBy := Or.inl (sq2 (i := 149) rfl)
set_option maxRecDepth 20000 in
theorem lkX7_216 : sm_L RX7 216 yX1_reckon := Or.inl (sq2 (i := 153) rfl)
set_option maxRecDepth 20000 in
theorem lkX1_24 : sm_L RX1 24 yX3_change := Or.inl (sq2 (i := 157) rfl)
set_option maxRecDepth 20000 in
theorem lkX3_19 : sm_L RX3 19 yX7_put := Or.inr (sq2 (i := 161) rfl)
set_option maxRecDepth 20000 in
theorem lkX1_28 : sm_L RX1 28 yX1_silent := Or.inl (sq2 (i := 162) rfl)
set_option maxRecDepth 20000 in
theorem lkX1_51 : sm_L RX1 51 yX0_courtHas := Or.inl (sq2 (i := 166) rfl)
set_option maxRecDepth 20000 in
theorem lkX1_42 : sm_L RX1 42 yX3_tell := Or.inl (sq2 (i := 167) rfl)
set_option maxRecDepth 20000 in
theorem lkX3_15 : sm_L RX3 15 yX7_at := Or.inr (sq2 (i := 171) rfl)
set_option maxRecDepth 20000 in
theorem lkX1_32 : sm_L RX1 32 yX1_lying := Or.inl (sq2 (i := 172) rfl)
set_option maxRecDepth 20000 in
theorem lkX1_55 : sm_L RX1 55 yX0_hasNews := Or.inl (sq2 (i := 176) rfl)
set_option maxRecDepth 20000 in
theorem lkX1_59 : sm_L RX1 59 yX7_isOpen := Or.inr (sq2 (i := 177) rfl)
set_option maxRecDepth 20000 in
theorem lkX1_48 : sm_L RX1 48 yX7_openAgain := Or.inr (sq2 (i := 179) rfl)
set_option maxRecDepth 20000 in
theorem lkX1_36 : sm_L RX1 36 yJ9_min_7cf53 := Or.inl (sq2 (i := 180) rfl)
set_option maxRecDepth 20000 in
theorem lkL_76 : sm_L RL 76 yX7_worst := Or.inl (sq2 (i := 181) rfl)
set_option maxRecDepth 20000 in
theorem lkX7_147 : sm_L RX7 147 yX1_worstSet := Or.inl (sq2 (i := 185) rfl)
set_option maxRecDepth 20000 in
theorem lkX1_45 : sm_L RX1 45 yX1_reckon := Or.inl (sq2 (i := 189) rfl)
set_option maxRecDepth 20000 in
theorem lkL_80 : sm_L RL 80 yX7_best := Or.inl (sq2 (i := 190) rfl)
set_option maxRecDepth 20000 in
theorem lkL_84 : sm_L RL 84 yX7_price := Or.inl (sq2 (i := 194) rfl)
set_option maxRecDepth 20000 in
theorem lkL_88 : sm_L RL 88 yX7_under := Or.inl (sq2 (i := 199) rfl)
set_option maxRecDepth 20000 in
theorem lkL_92 : sm_L RL 92 yX7_sure := Or.inl (sq2 (i := 204) rfl)
set_option maxRecDepth 20000 in
theorem lkX7_153 : sm_L RX7 153 yX7_greatestDivisor := Or.inl (sq2 (i := 208) rfl)
set_option maxRecDepth 20000 in
theorem lkL_97 : sm_L RL 97 yX7_bet := Or.inl (sq2 (i := 211) rfl)
set_option maxRecDepth 20000 in
theorem lkX7_156 : sm_L RX7 156 yX7_leastSureStake := Or.inl (sq2 (i := 215) rfl)
set_option maxRecDepth 20000 in
theorem lkX7_232 : sm_L RX7 232 yJ9_min_7cf53 := Or.inl (sq2 (i := 218) rfl)
set_option maxRecDepth 20000 in
theorem lkL_101 : sm_L RL 101 yX7_sets := Or.inl (sq2 (i := 219) rfl)
set_option maxRecDepth 20000 in
theorem lkX7_159 : sm_L RX7 159 yX7_areWords := Or.inl (sq2 (i := 223) rfl)
set_option maxRecDepth 20000 in
theorem lkX7_162 : sm_L RX7 162 yX5_manyFit := Or.inl (sq2 (i := 226) rfl)
set_option maxRecDepth 20000 in
theorem lkX5_18 : sm_L RX5 18 yX3_change := Or.inl (sq2 (i := 230) rfl)
set_option maxRecDepth 20000 in
theorem lkX5_22 : sm_L RX5 22 yX7_holds := Or.inr (sq2 (i := 231) rfl)
set_option maxRecDepth 20000 in
theorem lkX5_26 : sm_L RX5 26 yX3_tell := Or.inl (sq2 (i := 232) rfl)
set_option maxRecDepth 20000 in
theorem lkX5_30 : sm_L RX5 30 yX5_fitBehind := Or.inl (sq2 (i := 233) rfl)
set_option maxRecDepth 20000 in
theorem lkX5_34 : sm_L RX5 34 yX7_isOpen := Or.inr (sq2 (i := 237) rfl)
set_option maxRecDepth 20000 in
theorem lkX5_37 : sm_L RX5 37 yX7_openAgain := Or.inr (sq2 (i := 238) rfl)
set_option maxRecDepth 20000 in
theorem lkX5_40 : sm_L RX5 40 yJ9_min_7cf53 := Or.inl (sq2 (i := 239) rfl)
set_option maxRecDepth 20000 in
theorem lkL_106 : sm_L RL 106 yX7_surely := Or.inl (sq3 (i := 0) rfl)
set_option maxRecDepth 20000 in
theorem lkL_110 : sm_L RL 110 yX7_lots := Or.inl (sq3 (i := 4) rfl)
set_option maxRecDepth 20000 in
theorem lkX7_166 : sm_L RX7 166 yX6_drawLots := Or.inl (sq3 (i := 8) rfl)
set_option maxRecDepth 20000 in
theorem lkX6_86 : sm_L RX6 86 yX6_change := Or.inl (sq3 (i := 14) rfl)
set_option maxRecDepth 20000 in
theorem lkL_114 : sm_L RL 114 yX7_seed := Or.inl (sq3 (i := 16) rfl)
set_option maxRecDepth 20000 in
theorem lkL_118 : sm_L RL 118 yX7_image := Or.inl (sq3 (i := 20) rfl)
set_option maxRecDepth 20000 in
theorem lkX7_169 : sm_L RX7 169 yX6_become := Or.inl (sq3 (i := 24) rfl)
set_option maxRecDepth 20000 in
theorem lkX6_30 : sm_L RX6 30 yX0_become := Or.inl (sq3 (i := 28) rfl)
set_option maxRecDepth 20000 in
theorem lkL_122 : sm_L RL 122 yX7_restore := Or.inl (sq3 (i := 30) rfl)
set_option maxRecDepth 20000 in
theorem lkL_126 : sm_L RL 126 yX7_judged := Or.inl (sq3 (i := 34) rfl)
set_option maxRecDepth 20000 in
theorem lkX7_172 : sm_L RX7 172 yX7_findSheet := Or.inl (sq3 (i := 38) rfl)
set_option maxRecDepth 20000 in
theorem lkX7_176 : sm_L RX7 176 yX7_isLane := Or.inl (sq3 (i := 42) rfl)
set_option maxRecDepth 20000 in
theorem lkX7_179 : sm_L RX7 179 yX2_refusalOf := Or.inl (sq3 (i := 45) rfl)
set_option maxRecDepth 20000 in
theorem lkX2_22 : sm_L RX2 22 yX2_isNothing := Or.inl (sq3 (i := 49) rfl)
set_option maxRecDepth 20000 in
theorem lkX2_26 : sm_L RX2 26 yX2_covers := Or.inl (sq3 (i := 53) rfl)
set_option maxRecDepth 20000 in
theorem lkX7_181 : sm_L RX7 181 yX2_readDays := Or.inl (sq3 (i := 57) rfl)
set_option maxRecDepth 20000 in
theorem lkX2_38 : sm_L RX2 38 yX7_at := Or.inr (sq3 (i := 61) rfl)
set_option maxRecDepth 20000 in
theorem lkL_130 : sm_L RL 130 yX7_film := Or.inl (sq3 (i := 62) rfl)
set_option maxRecDepth 20000 in
theorem lkX7_184 : sm_L RX7 184 yX6_courtHas := Or.inl (sq3 (i := 66) rfl)
set_option maxRecDepth 20000 in
theorem lkX7_187 : sm_L RX7 187 yX2_change := Or.inl (sq3 (i := 67) rfl)
set_option maxRecDepth 20000 in
theorem lkX2_30 : sm_L RX2 30 yX2_narrow := Or.inl (sq3 (i := 71) rfl)
set_option maxRecDepth 20000 in
theorem lkX2_34 : sm_L RX2 34 yX7_put := Or.inr (sq3 (i := 75) rfl)
set_option maxRecDepth 20000 in
theorem lkL_134 : sm_L RL 134 yX7_sheet := Or.inl (sq3 (i := 76) rfl)
set_option maxRecDepth 20000 in
theorem lkX7_190 : sm_L RX7 190 yX2_hold := Or.inl (sq3 (i := 80) rfl)
set_option maxRecDepth 20000 in
theorem lkL_138 : sm_L RL 138 yX7_drop := Or.inl (sq3 (i := 84) rfl)
set_option maxRecDepth 20000 in
theorem lkX7_193 : sm_L RX7 193 yX2_isNothing := Or.inl (sq3 (i := 88) rfl)
set_option maxRecDepth 20000 in
theorem lkX7_197 : sm_L RX7 197 yX2_holdNothing := Or.inl (sq3 (i := 89) rfl)
set_option maxRecDepth 20000 in
theorem lkL_142 : sm_L RL 142 yX7_item := Or.inl (sq3 (i := 93) rfl)
set_option maxRecDepth 20000 in
theorem lkL_146 : sm_L RL 146 yX7_copy := Or.inl (sq3 (i := 97) rfl)
set_option maxRecDepth 20000 in
theorem lkX7_203 : sm_L RX7 203 yX2_covers := Or.inl (sq3 (i := 101) rfl)
set_option maxRecDepth 20000 in
theorem lkL_12 : sm_L RL 12 yX8_init := Or.inl (sq3 (i := 105) rfl)
set_option maxRecDepth 20000 in
theorem lkL_17 : sm_L RL 17 yX8_day := Or.inl (sq3 (i := 155) rfl)
set_option maxRecDepth 20000 in
theorem lkX8_40 : sm_L RX8 40 yX8_in := Or.inl (sq3 (i := 159) rfl)
set_option maxRecDepth 20000 in
theorem lkL_21 : sm_L RL 21 yX8_alter := Or.inl (sq3 (i := 163) rfl)
set_option maxRecDepth 20000 in
theorem lkX8_48 : sm_L RX8 48 yX8_isDay := Or.inl (sq3 (i := 167) rfl)
set_option maxRecDepth 20000 in
theorem lkX8_52 : sm_L RX8 52 yX8_isOf := Or.inl (sq3 (i := 171) rfl)
set_option maxRecDepth 20000 in
theorem lkX8_56 : sm_L RX8 56 yX8_changed := Or.inl (sq3 (i := 175) rfl)
set_option maxRecDepth 20000 in
theorem lkL_26 : sm_L RL 26 yX8_told := Or.inl (sq3 (i := 179) rfl)
set_option maxRecDepth 20000 in
theorem lkL_31 : sm_L RL 31 yX8_strike := Or.inl (sq3 (i := 183) rfl)
set_option maxRecDepth 20000 in
theorem lkL_35 : sm_L RL 35 yX8_set := Or.inl (sq3 (i := 187) rfl)
set_option maxRecDepth 20000 in
theorem lkL_42 : sm_L RL 42 yX8_type := Or.inl (sq3 (i := 194) rfl)
set_option maxRecDepth 20000 in
theorem lkL_46 : sm_L RL 46 yX8_year := Or.inl (sq3 (i := 201) rfl)
set_option maxRecDepth 20000 in
theorem lkX8_97 : sm_L RX8 97 yX8_takesDay := Or.inl (sq3 (i := 205) rfl)
set_option maxRecDepth 20000 in
theorem lkX8_82 : sm_L RX8 82 yX8_look := Or.inl (sq3 (i := 209) rfl)
set_option maxRecDepth 20000 in
theorem lkX8_93 : sm_L RX8 93 yX8_takes := Or.inl (sq3 (i := 213) rfl)
set_option maxRecDepth 20000 in
theorem lkL_51 : sm_L RL 51 yX8_count := Or.inl (sq3 (i := 219) rfl)
set_option maxRecDepth 20000 in
theorem lkL_55 : sm_L RL 55 yX8_may := Or.inl (sq3 (i := 224) rfl)
set_option maxRecDepth 20000 in
theorem lkX8_109 : sm_L RX8 109 yX8_isSet := Or.inl (sq3 (i := 228) rfl)
set_option maxRecDepth 20000 in
theorem lkX8_112 : sm_L RX8 112 yX8_mindedOn := Or.inl (sq3 (i := 232) rfl)
set_option maxRecDepth 20000 in
theorem lkX8_102 : sm_L RX8 102 yX8_has := Or.inl (sq3 (i := 235) rfl)
set_option maxRecDepth 20000 in
theorem lkX8_105 : sm_L RX8 105 yX8_minds := Or.inl (sq3 (i := 238) rfl)
set_option maxRecDepth 20000 in
theorem lkX8_115 : sm_L RX8 115 yX8_lets := Or.inl (sq4 (i := 1) rfl)
set_option maxRecDepth 20000 in
theorem lkL_59 : sm_L RL 59 yX8_lawful := Or.inl (sq4 (i := 4) rfl)
set_option maxRecDepth 20000 in
theorem lkX8_119 : sm_L RX8 119 yX8_wrongIn := Or.inl (sq4 (i := 8) rfl)
set_option maxRecDepth 20000 in
theorem lkL_63 : sm_L RL 63 yX8_wrong := Or.inl (sq4 (i := 12) rfl)
set_option maxRecDepth 20000 in
theorem lkL_67 : sm_L RL 67 yX8_gain := Or.inl (sq4 (i := 16) rfl)
set_option maxRecDepth 20000 in
theorem lkX8_130 : sm_L RX8 130 yX8_gainOf := Or.inl (sq4 (i := 22) rfl)
set_option maxRecDepth 20000 in
theorem lkX8_125 : sm_L RX8 125 yX8_brings := Or.inl (sq4 (i := 26) rfl)
set_option maxRecDepth 20000 in
theorem lkX8_122 : sm_L RX8 122 yX8_trusts := Or.inl (sq4 (i := 30) rfl)
set_option maxRecDepth 20000 in
theorem lkL_71 : sm_L RL 71 yX8_trusted := Or.inl (sq4 (i := 34) rfl)
set_option maxRecDepth 20000 in
theorem lkL_75 : sm_L RL 75 yX8_harm := Or.inl (sq4 (i := 38) rfl)
set_option maxRecDepth 20000 in
theorem lkX8_144 : sm_L RX8 144 yX8_harmNow := Or.inl (sq4 (i := 42) rfl)
set_option maxRecDepth 20000 in
theorem lkX8_137 : sm_L RX8 137 yX8_from := Or.inl (sq4 (i := 46) rfl)
set_option maxRecDepth 20000 in
theorem lkX8_133 : sm_L RX8 133 yX8_place := Or.inl (sq4 (i := 50) rfl)
set_option maxRecDepth 20000 in
theorem lkX8_141 : sm_L RX8 141 yX8_mayLie := Or.inl (sq4 (i := 54) rfl)
set_option maxRecDepth 20000 in
theorem lkL_79 : sm_L RL 79 yX8_worst := Or.inl (sq4 (i := 58) rfl)
set_option maxRecDepth 20000 in
theorem lkL_83 : sm_L RL 83 yX8_best := Or.inl (sq4 (i := 62) rfl)
set_option maxRecDepth 20000 in
theorem lkL_87 : sm_L RL 87 yX8_price := Or.inl (sq4 (i := 66) rfl)
set_option maxRecDepth 20000 in
theorem lkL_91 : sm_L RL 91 yX8_under := Or.inl (sq4 (i := 70) rfl)
set_option maxRecDepth 20000 in
theorem lkL_96 : sm_L RL 96 yX8_sure := Or.inl (sq4 (i := 74) rfl)
set_option maxRecDepth 20000 in
theorem lkL_100 : sm_L RL 100 yX8_bet := Or.inl (sq4 (i := 78) rfl)
set_option maxRecDepth 20000 in
theorem lkL_105 : sm_L RL 105 yX8_sets := Or.inl (sq4 (i := 82) rfl)
set_option maxRecDepth 20000 in
theorem lkX8_149 : sm_L RX8 149 yX8_areWords := Or.inl (sq4 (i := 86) rfl)
set_option maxRecDepth 20000 in
theorem lkX8_153 : sm_L RX8 153 yX8_setsOf := Or.inl (sq4 (i := 90) rfl)
set_option maxRecDepth 20000 in
theorem lkL_109 : sm_L RL 109 yX8_surely := Or.inl (sq4 (i := 94) rfl)
set_option maxRecDepth 20000 in
theorem lkL_113 : sm_L RL 113 yX8_lots := Or.inl (sq4 (i := 98) rfl)
set_option maxRecDepth 20000 in
theorem lkL_117 : sm_L RL 117 yX8_seed := Or.inl (sq4 (i := 106) rfl)
set_option maxRecDepth 20000 in
theorem lkL_121 : sm_L RL 121 yX8_image := Or.inl (sq4 (i := 110) rfl)
set_option maxRecDepth 20000 in
theorem lkL_125 : sm_L RL 125 yX8_restore := Or.inl (sq4 (i := 114) rfl)
set_option maxRecDepth 20000 in
theorem lkL_129 : sm_L RL 129 yX8_judged := Or.inl (sq4 (i := 118) rfl)
set_option maxRecDepth 20000 in
theorem lkX8_168 : sm_L RX8 168 yX8_isSheet := Or.inl (sq4 (i := 122) rfl)
set_option maxRecDepth 20000 in
theorem lkX8_171 : sm_L RX8 171 yX8_found := Or.inl (sq4 (i := 125) rfl)
set_option maxRecDepth 20000 in
theorem lkL_133 : sm_L RL 133 yX8_film := Or.inl (sq4 (i := 130) rfl)
set_option maxRecDepth 20000 in
theorem lkL_137 : sm_L RL 137 yX8_sheet := Or.inl (sq4 (i := 134) rfl)
set_option maxRecDepth 20000 in
theorem lkL_141 : sm_L RL 141 yX8_drop := Or.inl (sq4 (i := 138) rfl)
set_option maxRecDepth 20000 in
theorem lkL_145 : sm_L RL 145 yX8_item := Or.inl (sq4 (i := 142) rfl)
set_option maxRecDepth 20000 in
theorem lkL_149 : sm_L RL 149 yX8_copy := Or.inl (sq4 (i := 146) rfl)
set_option maxRecDepth 20000 in
theorem kcX7_219 : Cond.constant RX7 219 2147483647 ∈ lw_tbl := sq1 (i := 208) rfl
set_option maxRecDepth 20000 in
theorem kcJ6_265 : Cond.constant RJ6 265 1431655765 ∈ lw_tbl := sq2 (i := 107) rfl
set_option maxRecDepth 20000 in
theorem kcJ6_266 : Cond.constant RJ6 266 858993459 ∈ lw_tbl := sq2 (i := 108) rfl
set_option maxRecDepth 20000 in
theorem kcJ6_267 : Cond.constant RJ6 267 252645135 ∈ lw_tbl := sq2 (i := 109) rfl
set_option maxRecDepth 20000 in
theorem kcX7_140 : Cond.constant RX7 140 100000000 ∈ lw_tbl := sq2 (i := 135) rfl
set_option maxRecDepth 20000 in
theorem kcX1_63 : Cond.constant RX1 63 2147483647 ∈ lw_tbl := sq2 (i := 178) rfl
set_option maxRecDepth 20000 in
theorem kcX7_151 : Cond.constant RX7 151 (-100000002) ∈ lw_tbl := sq2 (i := 198) rfl
set_option maxRecDepth 20000 in
theorem kcX7_152 : Cond.constant RX7 152 (-100000001) ∈ lw_tbl := sq2 (i := 203) rfl
set_option maxRecDepth 20000 in
theorem kcX6_84 : Cond.constant RX6 84 1103515245 ∈ lw_tbl := sq3 (i := 12) rfl
set_option maxRecDepth 20000 in
theorem kcX6_85 : Cond.constant RX6 85 2147483647 ∈ lw_tbl := sq3 (i := 13) rfl
set_option maxRecDepth 20000 in
theorem kcX6_89 : Cond.constant RX6 89 65536 ∈ lw_tbl := sq3 (i := 15) rfl
set_option maxRecDepth 20000 in
theorem kdX8_44 : Cond.constantLong RX8 44 99 ∈ lw_tbl := sq3 (i := 162) rfl
set_option maxRecDepth 20000 in
theorem kdX8_46 : Cond.constantLong RX8 46 2 ∈ lw_tbl := sq3 (i := 174) rfl
set_option maxRecDepth 20000 in
theorem kdX8_60 : Cond.constantLong RX8 60 9 ∈ lw_tbl := sq3 (i := 191) rfl
set_option maxRecDepth 20000 in
theorem kdX8_62 : Cond.constantLong RX8 62 3 ∈ lw_tbl := sq3 (i := 192) rfl
set_option maxRecDepth 20000 in
theorem kdX8_64 : Cond.constantLong RX8 64 8 ∈ lw_tbl := sq3 (i := 193) rfl
set_option maxRecDepth 20000 in
theorem kdX8_66 : Cond.constantLong RX8 66 255 ∈ lw_tbl := sq3 (i := 198) rfl
set_option maxRecDepth 20000 in
theorem kdX8_68 : Cond.constantLong RX8 68 32 ∈ lw_tbl := sq3 (i := 199) rfl
set_option maxRecDepth 20000 in
theorem kdX8_70 : Cond.constantLong RX8 70 126 ∈ lw_tbl := sq3 (i := 200) rfl
set_option maxRecDepth 20000 in
theorem kdX8_86 : Cond.constantLong RX8 86 48 ∈ lw_tbl := sq3 (i := 217) rfl
set_option maxRecDepth 20000 in
theorem kdX8_88 : Cond.constantLong RX8 88 57 ∈ lw_tbl := sq3 (i := 218) rfl
set_option maxRecDepth 20000 in
theorem kdX8_100 : Cond.constantLong RX8 100 6 ∈ lw_tbl := sq3 (i := 223) rfl
set_option maxRecDepth 20000 in
theorem kcX8_128 : Cond.constant RX8 128 (-100000001) ∈ lw_tbl := sq4 (i := 20) rfl
set_option maxRecDepth 20000 in
theorem kcX8_129 : Cond.constant RX8 129 (-100000002) ∈ lw_tbl := sq4 (i := 21) rfl
set_option maxRecDepth 20000 in
theorem kdX8_147 : Cond.constantLong RX8 147 268435455 ∈ lw_tbl := sq4 (i := 89) rfl
set_option maxRecDepth 20000 in
theorem kdX8_157 : Cond.constantLong RX8 157 1103515245 ∈ lw_tbl := sq4 (i := 102) rfl
set_option maxRecDepth 20000 in
theorem kdX8_159 : Cond.constantLong RX8 159 12345 ∈ lw_tbl := sq4 (i := 103) rfl
set_option maxRecDepth 20000 in
theorem kdX8_161 : Cond.constantLong RX8 161 2147483647 ∈ lw_tbl := sq4 (i := 104) rfl
set_option maxRecDepth 20000 in
theorem kcX8_163 : Cond.constant RX8 163 65536 ∈ lw_tbl := sq4 (i := 105) rfl
set_option maxRecDepth 20000 in
theorem kcX8_174 : Cond.constant RX8 174 100000000 ∈ lw_tbl := sq4 (i := 129) rfl
set_option maxRecDepth 20000 in
theorem kdL_36 : Cond.constantLong RL 36 4294967295 ∈ lw_tbl := sq4 (i := 150) rfl
/-- a method: its name, its bytes, its locals, what it returns, whether it is static; where its words stand -/
abbrev sm_M : Type := MethodName × ByteArray × Nat × Option FieldType × Bool
def sm_okM (q : sm_M × Nat) : Prop := Cond.code q.1.1 q.1.2.1 q.1.2.2.1 q.1.2.2.2.1 ∈ lw_tbl ∧ Cond.initialized q.1.1.cls ∈ lw_tbl ∧ ((q.1.2.2.2.2 = true ∧ Cond.static q.1.1 ∈ lw_tbl) ∨ (q.1.2.2.2.2 = false ∧ Cond.instanceMethod q.1.1 ∈ lw_tbl ∧ Cond.selects q.1.1.cls q.1.1 q.1.1 ∈ lw_tbl)) ∧ plainName q.1.1.cls = true ∧ (q.1.1.cls ≠ "java/lang/invoke/MethodHandle" ∧ q.1.1.cls ≠ "java/lang/invoke/VarHandle") ∧ q.1.2.2.1 ≤ 19 ∧ (parseMethodDescriptor q.1.1.desc).map (fun d => d.parameters.length) = some q.2
theorem pnJ6 : plainName RJ6 = true := by decide +kernel
theorem phJ6 : RJ6 ≠ "java/lang/invoke/MethodHandle" ∧ RJ6 ≠ "java/lang/invoke/VarHandle" := by decide +kernel
theorem pnX0 : plainName RX0 = true := by decide +kernel
theorem phX0 : RX0 ≠ "java/lang/invoke/MethodHandle" ∧ RX0 ≠ "java/lang/invoke/VarHandle" := by decide +kernel
theorem pnX1 : plainName RX1 = true := by decide +kernel
theorem phX1 : RX1 ≠ "java/lang/invoke/MethodHandle" ∧ RX1 ≠ "java/lang/invoke/VarHandle" := by decide +kernel
theorem pnX2 : plainName RX2 = true := by decide +kernel
theorem phX2 : RX2 ≠ "java/lang/invoke/MethodHandle" ∧ RX2 ≠ "java/lang/invoke/VarHandle" := by decide +kernel
theorem pnX3 : plainName RX3 = true := by decide +kernel
theorem phX3 : RX3 ≠ "java/lang/invoke/MethodHandle" ∧ RX3 ≠ "java/lang/invoke/VarHandle" := by decide +kernel
theorem pnX4 : plainName RX4 = true := by decide +kernel
theorem phX4 : RX4 ≠ "java/lang/invoke/MethodHandle" ∧ RX4 ≠ "java/lang/invoke/VarHandle" := by decide +kernel
theorem pnX5 : plainName RX5 = true := by decide +kernel
theorem phX5 : RX5 ≠ "java/lang/invoke/MethodHandle" ∧ RX5 ≠ "java/lang/invoke/VarHandle" := by decide +kernel
theorem pnX6 : plainName RX6 = true := by decide +kernel
theorem phX6 : RX6 ≠ "java/lang/invoke/MethodHandle" ∧ RX6 ≠ "java/lang/invoke/VarHandle" := by decide +kernel
theorem pnX7 : plainName RX7 = true := by decide +kernel
theorem phX7 : RX7 ≠ "java/lang/invoke/MethodHandle" ∧ RX7 ≠ "java/lang/invoke/VarHandle" := by decide +kernel
theorem pnX8 : plainName RX8 = true := by decide +kernel
theorem phX8 : RX8 ≠ "java/lang/invoke/MethodHandle" ∧ RX8 ≠ "java/lang/invoke/VarHandle" := by decide +kernel
def meX0_has : sm_M × Nat := ((yX0_has, cX0_has, 2, (some (.boolean)), false), 1)
set_option maxRecDepth 20000 in
theorem omX0_has : sm_okM meX0_has := ⟨sq1 (i := 182) rfl, sq1 (i := 3) rfl, Or.inr ⟨rfl, sq1 (i := 180) rfl, sq1 (i := 181) rfl⟩, pnX0, phX0, by decide, by decide +kernel⟩
def meX0_hasAll : sm_M × Nat := ((yX0_hasAll, cX0_hasAll, 2, (some (.boolean)), false), 1)
set_option maxRecDepth 20000 in
theorem omX0_hasAll : sm_okM meX0_hasAll := ⟨sq2 (i := 62) rfl, sq1 (i := 3) rfl, Or.inr ⟨rfl, sq2 (i := 60) rfl, sq2 (i := 61) rfl⟩, pnX0, phX0, by decide, by decide +kernel⟩
def meX0_isFull : sm_M × Nat := ((yX0_isFull, cX0_isFull, 1, (some (.boolean)), false), 0)
set_option maxRecDepth 20000 in
theorem omX0_isFull : sm_okM meX0_isFull := ⟨sq1 (i := 164) rfl, sq1 (i := 3) rfl, Or.inr ⟨rfl, sq1 (i := 162) rfl, sq1 (i := 163) rfl⟩, pnX0, phX0, by decide, by decide +kernel⟩
def meX0_tell : sm_M × Nat := ((yX0_tell, cX0_tell, 3, (some (.int)), false), 2)
set_option maxRecDepth 20000 in
theorem omX0_tell : sm_okM meX0_tell := ⟨sq1 (i := 191) rfl, sq1 (i := 3) rfl, Or.inr ⟨rfl, sq1 (i := 189) rfl, sq1 (i := 190) rfl⟩, pnX0, phX0, by decide, by decide +kernel⟩
def meX0_change : sm_M × Nat := ((yX0_change, cX0_change, 4, (some (.int)), false), 3)
set_option maxRecDepth 20000 in
theorem omX0_change : sm_okM meX0_change := ⟨sq1 (i := 168) rfl, sq1 (i := 3) rfl, Or.inr ⟨rfl, sq1 (i := 166) rfl, sq1 (i := 167) rfl⟩, pnX0, phX0, by decide, by decide +kernel⟩
def meX0_add : sm_M × Nat := ((yX0_add, cX0_add, 4, (some (.int)), false), 3)
set_option maxRecDepth 20000 in
theorem omX0_add : sm_okM meX0_add := ⟨sq1 (i := 160) rfl, sq1 (i := 3) rfl, Or.inr ⟨rfl, sq1 (i := 158) rfl, sq1 (i := 159) rfl⟩, pnX0, phX0, by decide, by decide +kernel⟩
def meX0_removeLast : sm_M × Nat := ((yX0_removeLast, cX0_removeLast, 1, (some (.int)), false), 0)
set_option maxRecDepth 20000 in
theorem omX0_removeLast : sm_okM meX0_removeLast := ⟨sq1 (i := 200) rfl, sq1 (i := 3) rfl, Or.inr ⟨rfl, sq1 (i := 198) rfl, sq1 (i := 199) rfl⟩, pnX0, phX0, by decide, by decide +kernel⟩
def meX0_empty : sm_M × Nat := ((yX0_empty, cX0_empty, 1, none, false), 0)
set_option maxRecDepth 20000 in
theorem omX0_empty : sm_okM meX0_empty := ⟨sq2 (i := 1) rfl, sq1 (i := 3) rfl, Or.inr ⟨rfl, sq1 (i := 239) rfl, sq2 (i := 0) rfl⟩, pnX0, phX0, by decide, by decide +kernel⟩
def meX0_become : sm_M × Nat := ((yX0_become, cX0_become, 2, none, false), 1)
set_option maxRecDepth 20000 in
theorem omX0_become : sm_okM meX0_become := ⟨sq2 (i := 29) rfl, sq1 (i := 3) rfl, Or.inr ⟨rfl, sq2 (i := 27) rfl, sq2 (i := 28) rfl⟩, pnX0, phX0, by decide, by decide +kernel⟩
def meX0_hasNews : sm_M × Nat := ((yX0_hasNews, cX0_hasNews, 2, (some (.boolean)), false), 1)
set_option maxRecDepth 20000 in
theorem omX0_hasNews : sm_okM meX0_hasNews := ⟨sq2 (i := 84) rfl, sq1 (i := 3) rfl, Or.inr ⟨rfl, sq2 (i := 82) rfl, sq2 (i := 83) rfl⟩, pnX0, phX0, by decide, by decide +kernel⟩
def meX0_manyWithNews : sm_M × Nat := ((yX0_manyWithNews, cX0_manyWithNews, 3, (some (.int)), false), 0)
set_option maxRecDepth 20000 in
theorem omX0_manyWithNews : sm_okM meX0_manyWithNews := ⟨sq2 (i := 44) rfl, sq1 (i := 3) rfl, Or.inr ⟨rfl, sq2 (i := 42) rfl, sq2 (i := 43) rfl⟩, pnX0, phX0, by decide, by decide +kernel⟩
def meX0_sumOf : sm_M × Nat := ((yX0_sumOf, cX0_sumOf, 5, (some (.int)), false), 2)
set_option maxRecDepth 20000 in
theorem omX0_sumOf : sm_okM meX0_sumOf := ⟨sq2 (i := 54) rfl, sq1 (i := 3) rfl, Or.inr ⟨rfl, sq2 (i := 52) rfl, sq2 (i := 53) rfl⟩, pnX0, phX0, by decide, by decide +kernel⟩
def meX0_isTrusted : sm_M × Nat := ((yX0_isTrusted, cX0_isTrusted, 4, (some (.boolean)), false), 3)
set_option maxRecDepth 20000 in
theorem omX0_isTrusted : sm_okM meX0_isTrusted := ⟨sq2 (i := 133) rfl, sq1 (i := 3) rfl, Or.inr ⟨rfl, sq2 (i := 131) rfl, sq2 (i := 132) rfl⟩, pnX0, phX0, by decide, by decide +kernel⟩
def meX0_courtHas : sm_M × Nat := ((yX0_courtHas, cX0_courtHas, 5, (some (.int)), false), 4)
set_option maxRecDepth 20000 in
theorem omX0_courtHas : sm_okM meX0_courtHas := ⟨sq2 (i := 129) rfl, sq1 (i := 3) rfl, Or.inr ⟨rfl, sq2 (i := 127) rfl, sq2 (i := 128) rfl⟩, pnX0, phX0, by decide, by decide +kernel⟩
def meX1_reckon : sm_M × Nat := ((yX1_reckon, cX1_reckon, 7, (some (.int)), false), 4)
set_option maxRecDepth 20000 in
theorem omX1_reckon : sm_okM meX1_reckon := ⟨sq2 (i := 156) rfl, sq1 (i := 5) rfl, Or.inr ⟨rfl, sq2 (i := 154) rfl, sq2 (i := 155) rfl⟩, pnX1, phX1, by decide, by decide +kernel⟩
def meX1_worstSet : sm_M × Nat := ((yX1_worstSet, cX1_worstSet, 9, (some (.int)), false), 4)
set_option maxRecDepth 20000 in
theorem omX1_worstSet : sm_okM meX1_worstSet := ⟨sq2 (i := 188) rfl, sq1 (i := 5) rfl, Or.inr ⟨rfl, sq2 (i := 186) rfl, sq2 (i := 187) rfl⟩, pnX1, phX1, by decide, by decide +kernel⟩
def meX1_silent : sm_M × Nat := ((yX1_silent, cX1_silent, 5, (some (.int)), false), 4)
set_option maxRecDepth 20000 in
theorem omX1_silent : sm_okM meX1_silent := ⟨sq2 (i := 165) rfl, sq1 (i := 5) rfl, Or.inr ⟨rfl, sq2 (i := 164) rfl, sq0 (i := 5) rfl⟩, pnX1, phX1, by decide, by decide +kernel⟩
def meX1_lying : sm_M × Nat := ((yX1_lying, cX1_lying, 9, (some (.int)), false), 5)
set_option maxRecDepth 20000 in
theorem omX1_lying : sm_okM meX1_lying := ⟨sq2 (i := 175) rfl, sq1 (i := 5) rfl, Or.inr ⟨rfl, sq2 (i := 174) rfl, sq0 (i := 6) rfl⟩, pnX1, phX1, by decide, by decide +kernel⟩
def meX2_isNothing : sm_M × Nat := ((yX2_isNothing, cX2_isNothing, 1, (some (.boolean)), false), 0)
set_option maxRecDepth 20000 in
theorem omX2_isNothing : sm_okM meX2_isNothing := ⟨sq3 (i := 52) rfl, sq1 (i := 8) rfl, Or.inr ⟨rfl, sq3 (i := 50) rfl, sq3 (i := 51) rfl⟩, pnX2, phX2, by decide, by decide +kernel⟩
def meX2_hold : sm_M × Nat := ((yX2_hold, cX2_hold, 4, (some (.int)), false), 2)
set_option maxRecDepth 20000 in
theorem omX2_hold : sm_okM meX2_hold := ⟨sq3 (i := 83) rfl, sq1 (i := 8) rfl, Or.inr ⟨rfl, sq3 (i := 81) rfl, sq3 (i := 82) rfl⟩, pnX2, phX2, by decide, by decide +kernel⟩
def meX2_holdNothing : sm_M × Nat := ((yX2_holdNothing, cX2_holdNothing, 2, (some (.int)), false), 0)
set_option maxRecDepth 20000 in
theorem omX2_holdNothing : sm_okM meX2_holdNothing := ⟨sq3 (i := 92) rfl, sq1 (i := 8) rfl, Or.inr ⟨rfl, sq3 (i := 90) rfl, sq3 (i := 91) rfl⟩, pnX2, phX2, by decide, by decide +kernel⟩
def meX2_covers : sm_M × Nat := ((yX2_covers, cX2_covers, 3, (some (.boolean)), false), 2)
set_option maxRecDepth 20000 in
theorem omX2_covers : sm_okM meX2_covers := ⟨sq3 (i := 56) rfl, sq1 (i := 8) rfl, Or.inr ⟨rfl, sq3 (i := 54) rfl, sq3 (i := 55) rfl⟩, pnX2, phX2, by decide, by decide +kernel⟩
def meX2_refusalOf : sm_M × Nat := ((yX2_refusalOf, cX2_refusalOf, 4, (some (.int)), false), 3)
set_option maxRecDepth 20000 in
theorem omX2_refusalOf : sm_okM meX2_refusalOf := ⟨sq3 (i := 48) rfl, sq1 (i := 8) rfl, Or.inr ⟨rfl, sq3 (i := 46) rfl, sq3 (i := 47) rfl⟩, pnX2, phX2, by decide, by decide +kernel⟩
def meX2_change : sm_M × Nat := ((yX2_change, cX2_change, 3, none, false), 2)
set_option maxRecDepth 20000 in
theorem omX2_change : sm_okM meX2_change := ⟨sq3 (i := 70) rfl, sq1 (i := 8) rfl, Or.inr ⟨rfl, sq3 (i := 68) rfl, sq3 (i := 69) rfl⟩, pnX2, phX2, by decide, by decide +kernel⟩
def meX2_narrow : sm_M × Nat := ((yX2_narrow, cX2_narrow, 2, (some (.int)), false), 1)
set_option maxRecDepth 20000 in
theorem omX2_narrow : sm_okM meX2_narrow := ⟨sq3 (i := 74) rfl, sq1 (i := 8) rfl, Or.inr ⟨rfl, sq3 (i := 73) rfl, sq0 (i := 9) rfl⟩, pnX2, phX2, by decide, by decide +kernel⟩
def meX2_readDays : sm_M × Nat := ((yX2_readDays, cX2_readDays, 8, (some (.int)), false), 3)
set_option maxRecDepth 20000 in
theorem omX2_readDays : sm_okM meX2_readDays := ⟨sq3 (i := 60) rfl, sq1 (i := 8) rfl, Or.inr ⟨rfl, sq3 (i := 58) rfl, sq3 (i := 59) rfl⟩, pnX2, phX2, by decide, by decide +kernel⟩
def meX3_tell : sm_M × Nat := ((yX3_tell, cX3_tell, 3, (some (.int)), false), 2)
set_option maxRecDepth 20000 in
theorem omX3_tell : sm_okM meX3_tell := ⟨sq2 (i := 170) rfl, sq1 (i := 6) rfl, Or.inr ⟨rfl, sq2 (i := 168) rfl, sq2 (i := 169) rfl⟩, pnX3, phX3, by decide, by decide +kernel⟩
def meX3_change : sm_M × Nat := ((yX3_change, cX3_change, 4, none, false), 3)
set_option maxRecDepth 20000 in
theorem omX3_change : sm_okM meX3_change := ⟨sq2 (i := 160) rfl, sq1 (i := 6) rfl, Or.inr ⟨rfl, sq2 (i := 158) rfl, sq2 (i := 159) rfl⟩, pnX3, phX3, by decide, by decide +kernel⟩
def meX4_append : sm_M × Nat := ((yX4_append, cX4_append, 5, (some (.int)), false), 2)
set_option maxRecDepth 20000 in
theorem omX4_append : sm_okM meX4_append := ⟨sq1 (i := 227) rfl, sq1 (i := 4) rfl, Or.inr ⟨rfl, sq1 (i := 225) rfl, sq1 (i := 226) rfl⟩, pnX4, phX4, by decide, by decide +kernel⟩
def meX4_empty : sm_M × Nat := ((yX4_empty, cX4_empty, 1, none, false), 0)
set_option maxRecDepth 20000 in
theorem omX4_empty : sm_okM meX4_empty := ⟨sq2 (i := 36) rfl, sq1 (i := 4) rfl, Or.inr ⟨rfl, sq2 (i := 34) rfl, sq2 (i := 35) rfl⟩, pnX4, phX4, by decide, by decide +kernel⟩
def meX4_readInto : sm_M × Nat := ((yX4_readInto, cX4_readInto, 5, (some (.int)), false), 1)
set_option maxRecDepth 20000 in
theorem omX4_readInto : sm_okM meX4_readInto := ⟨sq1 (i := 237) rfl, sq1 (i := 4) rfl, Or.inr ⟨rfl, sq1 (i := 235) rfl, sq1 (i := 236) rfl⟩, pnX4, phX4, by decide, by decide +kernel⟩
def meX4_readDay : sm_M × Nat := ((yX4_readDay, cX4_readDay, 5, (some (.int)), false), 1)
set_option maxRecDepth 20000 in
theorem omX4_readDay : sm_okM meX4_readDay := ⟨sq2 (i := 5) rfl, sq1 (i := 4) rfl, Or.inr ⟨rfl, sq2 (i := 4) rfl, sq0 (i := 0) rfl⟩, pnX4, phX4, by decide, by decide +kernel⟩
def meX4_readNumber : sm_M × Nat := ((yX4_readNumber, cX4_readNumber, 4, (some (.int)), false), 0)
set_option maxRecDepth 20000 in
theorem omX4_readNumber : sm_okM meX4_readNumber := ⟨sq2 (i := 17) rfl, sq1 (i := 4) rfl, Or.inr ⟨rfl, sq2 (i := 16) rfl, sq0 (i := 2) rfl⟩, pnX4, phX4, by decide, by decide +kernel⟩
def meX4_nextByte : sm_M × Nat := ((yX4_nextByte, cX4_nextByte, 1, (some (.int)), false), 0)
set_option maxRecDepth 20000 in
theorem omX4_nextByte : sm_okM meX4_nextByte := ⟨sq2 (i := 9) rfl, sq1 (i := 4) rfl, Or.inr ⟨rfl, sq2 (i := 8) rfl, sq0 (i := 1) rfl⟩, pnX4, phX4, by decide, by decide +kernel⟩
def meX4_isDigit : sm_M × Nat := ((yX4_isDigit, cX4_isDigit, 1, (some (.boolean)), true), 1)
set_option maxRecDepth 20000 in
theorem omX4_isDigit : sm_okM meX4_isDigit := ⟨sq2 (i := 20) rfl, sq1 (i := 4) rfl, Or.inl ⟨rfl, sq2 (i := 19) rfl⟩, pnX4, phX4, by decide, by decide +kernel⟩
def meX4_faultAt : sm_M × Nat := ((yX4_faultAt, cX4_faultAt, 1, (some (.int)), true), 1)
set_option maxRecDepth 20000 in
theorem omX4_faultAt : sm_okM meX4_faultAt := ⟨sq2 (i := 13) rfl, sq1 (i := 4) rfl, Or.inl ⟨rfl, sq2 (i := 12) rfl⟩, pnX4, phX4, by decide, by decide +kernel⟩
def meX5_manyFit : sm_M × Nat := ((yX5_manyFit, cX5_manyFit, 11, (some (.int)), false), 5)
set_option maxRecDepth 20000 in
theorem omX5_manyFit : sm_okM meX5_manyFit := ⟨sq2 (i := 229) rfl, sq1 (i := 7) rfl, Or.inr ⟨rfl, sq2 (i := 227) rfl, sq2 (i := 228) rfl⟩, pnX5, phX5, by decide, by decide +kernel⟩
def meX5_fitBehind : sm_M × Nat := ((yX5_fitBehind, cX5_fitBehind, 7, (some (.int)), false), 4)
set_option maxRecDepth 20000 in
theorem omX5_fitBehind : sm_okM meX5_fitBehind := ⟨sq2 (i := 236) rfl, sq1 (i := 7) rfl, Or.inr ⟨rfl, sq2 (i := 235) rfl, sq0 (i := 7) rfl⟩, pnX5, phX5, by decide, by decide +kernel⟩
def meX6_tell : sm_M × Nat := ((yX6_tell, cX6_tell, 2, (some (.int)), false), 1)
set_option maxRecDepth 20000 in
theorem omX6_tell : sm_okM meX6_tell := ⟨sq2 (i := 49) rfl, sq1 (i := 2) rfl, Or.inr ⟨rfl, sq2 (i := 47) rfl, sq2 (i := 48) rfl⟩, pnX6, phX6, by decide, by decide +kernel⟩
def meX6_change : sm_M × Nat := ((yX6_change, cX6_change, 3, (some (.int)), false), 2)
set_option maxRecDepth 20000 in
theorem omX6_change : sm_okM meX6_change := ⟨sq1 (i := 212) rfl, sq1 (i := 2) rfl, Or.inr ⟨rfl, sq1 (i := 210) rfl, sq1 (i := 211) rfl⟩, pnX6, phX6, by decide, by decide +kernel⟩
def meX6_become : sm_M × Nat := ((yX6_become, cX6_become, 2, none, false), 1)
set_option maxRecDepth 20000 in
theorem omX6_become : sm_okM meX6_become := ⟨sq3 (i := 27) rfl, sq1 (i := 2) rfl, Or.inr ⟨rfl, sq3 (i := 25) rfl, sq3 (i := 26) rfl⟩, pnX6, phX6, by decide, by decide +kernel⟩
def meX6_mayLie : sm_M × Nat := ((yX6_mayLie, cX6_mayLie, 3, (some (.boolean)), false), 2)
set_option maxRecDepth 20000 in
theorem omX6_mayLie : sm_okM meX6_mayLie := ⟨sq2 (i := 80) rfl, sq1 (i := 2) rfl, Or.inr ⟨rfl, sq2 (i := 78) rfl, sq2 (i := 79) rfl⟩, pnX6, phX6, by decide, by decide +kernel⟩
def meX6_openBehind : sm_M × Nat := ((yX6_openBehind, cX6_openBehind, 5, (some (.int)), false), 1)
set_option maxRecDepth 20000 in
theorem omX6_openBehind : sm_okM meX6_openBehind := ⟨sq2 (i := 66) rfl, sq1 (i := 2) rfl, Or.inr ⟨rfl, sq2 (i := 64) rfl, sq2 (i := 65) rfl⟩, pnX6, phX6, by decide, by decide +kernel⟩
def meX6_firstWrong : sm_M × Nat := ((yX6_firstWrong, cX6_firstWrong, 4, (some (.int)), false), 1)
set_option maxRecDepth 20000 in
theorem omX6_firstWrong : sm_okM meX6_firstWrong := ⟨sq2 (i := 99) rfl, sq1 (i := 2) rfl, Or.inr ⟨rfl, sq2 (i := 97) rfl, sq2 (i := 98) rfl⟩, pnX6, phX6, by decide, by decide +kernel⟩
def meX6_leftOn : sm_M × Nat := ((yX6_leftOn, cX6_leftOn, 3, (some (.int)), false), 2)
set_option maxRecDepth 20000 in
theorem omX6_leftOn : sm_okM meX6_leftOn := ⟨sq2 (i := 103) rfl, sq1 (i := 2) rfl, Or.inr ⟨rfl, sq2 (i := 101) rfl, sq2 (i := 102) rfl⟩, pnX6, phX6, by decide, by decide +kernel⟩
def meX6_courtHas : sm_M × Nat := ((yX6_courtHas, cX6_courtHas, 3, (some (.int)), false), 2)
set_option maxRecDepth 20000 in
theorem omX6_courtHas : sm_okM meX6_courtHas := ⟨sq2 (i := 125) rfl, sq1 (i := 2) rfl, Or.inr ⟨rfl, sq2 (i := 123) rfl, sq2 (i := 124) rfl⟩, pnX6, phX6, by decide, by decide +kernel⟩
def meX6_gainOf : sm_M × Nat := ((yX6_gainOf, cX6_gainOf, 4, (some (.int)), false), 1)
set_option maxRecDepth 20000 in
theorem omX6_gainOf : sm_okM meX6_gainOf := ⟨sq2 (i := 121) rfl, sq1 (i := 2) rfl, Or.inr ⟨rfl, sq2 (i := 119) rfl, sq2 (i := 120) rfl⟩, pnX6, phX6, by decide, by decide +kernel⟩
def meX6_trustedBy : sm_M × Nat := ((yX6_trustedBy, cX6_trustedBy, 5, (some (.int)), false), 1)
set_option maxRecDepth 20000 in
theorem omX6_trustedBy : sm_okM meX6_trustedBy := ⟨sq2 (i := 143) rfl, sq1 (i := 2) rfl, Or.inr ⟨rfl, sq2 (i := 141) rfl, sq2 (i := 142) rfl⟩, pnX6, phX6, by decide, by decide +kernel⟩
def meX6_drawLots : sm_M × Nat := ((yX6_drawLots, cX6_drawLots, 5, (some (.int)), false), 0)
set_option maxRecDepth 20000 in
theorem omX6_drawLots : sm_okM meX6_drawLots := ⟨sq3 (i := 11) rfl, sq1 (i := 2) rfl, Or.inr ⟨rfl, sq3 (i := 9) rfl, sq3 (i := 10) rfl⟩, pnX6, phX6, by decide, by decide +kernel⟩
def meX7_day : sm_M × Nat := ((yX7_day, cX7_day, 4, (some (.int)), false), 3)
set_option maxRecDepth 20000 in
theorem omX7_day : sm_okM meX7_day := ⟨sq1 (i := 150) rfl, sq1 (i := 1) rfl, Or.inr ⟨rfl, sq1 (i := 148) rfl, sq1 (i := 149) rfl⟩, pnX7, phX7, by decide, by decide +kernel⟩
def meX7_alter : sm_M × Nat := ((yX7_alter, cX7_alter, 4, (some (.int)), false), 3)
set_option maxRecDepth 20000 in
theorem omX7_alter : sm_okM meX7_alter := ⟨sq1 (i := 178) rfl, sq1 (i := 1) rfl, Or.inr ⟨rfl, sq1 (i := 176) rfl, sq1 (i := 177) rfl⟩, pnX7, phX7, by decide, by decide +kernel⟩
def meX7_told : sm_M × Nat := ((yX7_told, cX7_told, 3, (some (.int)), false), 2)
set_option maxRecDepth 20000 in
theorem omX7_told : sm_okM meX7_told := ⟨sq1 (i := 187) rfl, sq1 (i := 1) rfl, Or.inr ⟨rfl, sq1 (i := 185) rfl, sq1 (i := 186) rfl⟩, pnX7, phX7, by decide, by decide +kernel⟩
def meX7_strike : sm_M × Nat := ((yX7_strike, cX7_strike, 1, (some (.int)), false), 0)
set_option maxRecDepth 20000 in
theorem omX7_strike : sm_okM meX7_strike := ⟨sq1 (i := 196) rfl, sq1 (i := 1) rfl, Or.inr ⟨rfl, sq1 (i := 194) rfl, sq1 (i := 195) rfl⟩, pnX7, phX7, by decide, by decide +kernel⟩
def meX7_set : sm_M × Nat := ((yX7_set, cX7_set, 3, (some (.int)), false), 2)
set_option maxRecDepth 20000 in
theorem omX7_set : sm_okM meX7_set := ⟨sq1 (i := 204) rfl, sq1 (i := 1) rfl, Or.inr ⟨rfl, sq1 (i := 202) rfl, sq1 (i := 203) rfl⟩, pnX7, phX7, by decide, by decide +kernel⟩
def meX7_type : sm_M × Nat := ((yX7_type, cX7_type, 4, (some (.int)), false), 2)
set_option maxRecDepth 20000 in
theorem omX7_type : sm_okM meX7_type := ⟨sq1 (i := 217) rfl, sq1 (i := 1) rfl, Or.inr ⟨rfl, sq1 (i := 215) rfl, sq1 (i := 216) rfl⟩, pnX7, phX7, by decide, by decide +kernel⟩
def meX7_year : sm_M × Nat := ((yX7_year, cX7_year, 2, (some (.int)), false), 0)
set_option maxRecDepth 20000 in
theorem omX7_year : sm_okM meX7_year := ⟨sq1 (i := 233) rfl, sq1 (i := 1) rfl, Or.inr ⟨rfl, sq1 (i := 231) rfl, sq1 (i := 232) rfl⟩, pnX7, phX7, by decide, by decide +kernel⟩
def meX7_count : sm_M × Nat := ((yX7_count, cX7_count, 2, (some (.int)), false), 1)
set_option maxRecDepth 20000 in
theorem omX7_count : sm_okM meX7_count := ⟨sq2 (i := 40) rfl, sq1 (i := 1) rfl, Or.inr ⟨rfl, sq2 (i := 38) rfl, sq2 (i := 39) rfl⟩, pnX7, phX7, by decide, by decide +kernel⟩
def meX7_may : sm_M × Nat := ((yX7_may, cX7_may, 2, (some (.int)), false), 1)
set_option maxRecDepth 20000 in
theorem omX7_may : sm_okM meX7_may := ⟨sq2 (i := 58) rfl, sq1 (i := 1) rfl, Or.inr ⟨rfl, sq2 (i := 56) rfl, sq2 (i := 57) rfl⟩, pnX7, phX7, by decide, by decide +kernel⟩
def meX7_lawful : sm_M × Nat := ((yX7_lawful, cX7_lawful, 3, (some (.int)), false), 1)
set_option maxRecDepth 20000 in
theorem omX7_lawful : sm_okM meX7_lawful := ⟨sq2 (i := 91) rfl, sq1 (i := 1) rfl, Or.inr ⟨rfl, sq2 (i := 89) rfl, sq2 (i := 90) rfl⟩, pnX7, phX7, by decide, by decide +kernel⟩
def meX7_wrong : sm_M × Nat := ((yX7_wrong, cX7_wrong, 2, (some (.int)), false), 1)
set_option maxRecDepth 20000 in
theorem omX7_wrong : sm_okM meX7_wrong := ⟨sq2 (i := 113) rfl, sq1 (i := 1) rfl, Or.inr ⟨rfl, sq2 (i := 111) rfl, sq2 (i := 112) rfl⟩, pnX7, phX7, by decide, by decide +kernel⟩
def meX7_gain : sm_M × Nat := ((yX7_gain, cX7_gain, 3, (some (.int)), false), 1)
set_option maxRecDepth 20000 in
theorem omX7_gain : sm_okM meX7_gain := ⟨sq2 (i := 117) rfl, sq1 (i := 1) rfl, Or.inr ⟨rfl, sq2 (i := 115) rfl, sq2 (i := 116) rfl⟩, pnX7, phX7, by decide, by decide +kernel⟩
def meX7_trusted : sm_M × Nat := ((yX7_trusted, cX7_trusted, 3, (some (.int)), false), 1)
set_option maxRecDepth 20000 in
theorem omX7_trusted : sm_okM meX7_trusted := ⟨sq2 (i := 139) rfl, sq1 (i := 1) rfl, Or.inr ⟨rfl, sq2 (i := 137) rfl, sq2 (i := 138) rfl⟩, pnX7, phX7, by decide, by decide +kernel⟩
def meX7_harm : sm_M × Nat := ((yX7_harm, cX7_harm, 1, (some (.int)), false), 0)
set_option maxRecDepth 20000 in
theorem omX7_harm : sm_okM meX7_harm := ⟨sq2 (i := 148) rfl, sq1 (i := 1) rfl, Or.inr ⟨rfl, sq2 (i := 146) rfl, sq2 (i := 147) rfl⟩, pnX7, phX7, by decide, by decide +kernel⟩
def meX7_worst : sm_M × Nat := ((yX7_worst, cX7_worst, 1, (some (.int)), false), 0)
set_option maxRecDepth 20000 in
theorem omX7_worst : sm_okM meX7_worst := ⟨sq2 (i := 184) rfl, sq1 (i := 1) rfl, Or.inr ⟨rfl, sq2 (i := 182) rfl, sq2 (i := 183) rfl⟩, pnX7, phX7, by decide, by decide +kernel⟩
def meX7_best : sm_M × Nat := ((yX7_best, cX7_best, 5, (some (.int)), false), 0)
set_option maxRecDepth 20000 in
theorem omX7_best : sm_okM meX7_best := ⟨sq2 (i := 193) rfl, sq1 (i := 1) rfl, Or.inr ⟨rfl, sq2 (i := 191) rfl, sq2 (i := 192) rfl⟩, pnX7, phX7, by decide, by decide +kernel⟩
def meX7_price : sm_M × Nat := ((yX7_price, cX7_price, 2, (some (.int)), false), 0)
set_option maxRecDepth 20000 in
theorem omX7_price : sm_okM meX7_price := ⟨sq2 (i := 197) rfl, sq1 (i := 1) rfl, Or.inr ⟨rfl, sq2 (i := 195) rfl, sq2 (i := 196) rfl⟩, pnX7, phX7, by decide, by decide +kernel⟩
def meX7_under : sm_M × Nat := ((yX7_under, cX7_under, 2, (some (.int)), false), 1)
set_option maxRecDepth 20000 in
theorem omX7_under : sm_okM meX7_under := ⟨sq2 (i := 202) rfl, sq1 (i := 1) rfl, Or.inr ⟨rfl, sq2 (i := 200) rfl, sq2 (i := 201) rfl⟩, pnX7, phX7, by decide, by decide +kernel⟩
def meX7_sure : sm_M × Nat := ((yX7_sure, cX7_sure, 9, (some (.int)), false), 5)
set_option maxRecDepth 20000 in
theorem omX7_sure : sm_okM meX7_sure := ⟨sq2 (i := 207) rfl, sq1 (i := 1) rfl, Or.inr ⟨rfl, sq2 (i := 205) rfl, sq2 (i := 206) rfl⟩, pnX7, phX7, by decide, by decide +kernel⟩
def meX7_bet : sm_M × Nat := ((yX7_bet, cX7_bet, 6, (some (.int)), false), 3)
set_option maxRecDepth 20000 in
theorem omX7_bet : sm_okM meX7_bet := ⟨sq2 (i := 214) rfl, sq1 (i := 1) rfl, Or.inr ⟨rfl, sq2 (i := 212) rfl, sq2 (i := 213) rfl⟩, pnX7, phX7, by decide, by decide +kernel⟩
def meX7_sets : sm_M × Nat := ((yX7_sets, cX7_sets, 5, (some (.int)), false), 4)
set_option maxRecDepth 20000 in
theorem omX7_sets : sm_okM meX7_sets := ⟨sq2 (i := 222) rfl, sq1 (i := 1) rfl, Or.inr ⟨rfl, sq2 (i := 220) rfl, sq2 (i := 221) rfl⟩, pnX7, phX7, by decide, by decide +kernel⟩
def meX7_surely : sm_M × Nat := ((yX7_surely, cX7_surely, 11, (some (.int)), false), 5)
set_option maxRecDepth 20000 in
theorem omX7_surely : sm_okM meX7_surely := ⟨sq3 (i := 3) rfl, sq1 (i := 1) rfl, Or.inr ⟨rfl, sq3 (i := 1) rfl, sq3 (i := 2) rfl⟩, pnX7, phX7, by decide, by decide +kernel⟩
def meX7_lots : sm_M × Nat := ((yX7_lots, cX7_lots, 1, (some (.int)), false), 0)
set_option maxRecDepth 20000 in
theorem omX7_lots : sm_okM meX7_lots := ⟨sq3 (i := 7) rfl, sq1 (i := 1) rfl, Or.inr ⟨rfl, sq3 (i := 5) rfl, sq3 (i := 6) rfl⟩, pnX7, phX7, by decide, by decide +kernel⟩
def meX7_seed : sm_M × Nat := ((yX7_seed, cX7_seed, 2, (some (.int)), false), 1)
set_option maxRecDepth 20000 in
theorem omX7_seed : sm_okM meX7_seed := ⟨sq3 (i := 19) rfl, sq1 (i := 1) rfl, Or.inr ⟨rfl, sq3 (i := 17) rfl, sq3 (i := 18) rfl⟩, pnX7, phX7, by decide, by decide +kernel⟩
def meX7_image : sm_M × Nat := ((yX7_image, cX7_image, 1, (some (.int)), false), 0)
set_option maxRecDepth 20000 in
theorem omX7_image : sm_okM meX7_image := ⟨sq3 (i := 23) rfl, sq1 (i := 1) rfl, Or.inr ⟨rfl, sq3 (i := 21) rfl, sq3 (i := 22) rfl⟩, pnX7, phX7, by decide, by decide +kernel⟩
def meX7_restore : sm_M × Nat := ((yX7_restore, cX7_restore, 1, (some (.int)), false), 0)
set_option maxRecDepth 20000 in
theorem omX7_restore : sm_okM meX7_restore := ⟨sq3 (i := 33) rfl, sq1 (i := 1) rfl, Or.inr ⟨rfl, sq3 (i := 31) rfl, sq3 (i := 32) rfl⟩, pnX7, phX7, by decide, by decide +kernel⟩
def meX7_judged : sm_M × Nat := ((yX7_judged, cX7_judged, 8, (some (.int)), false), 4)
set_option maxRecDepth 20000 in
theorem omX7_judged : sm_okM meX7_judged := ⟨sq3 (i := 37) rfl, sq1 (i := 1) rfl, Or.inr ⟨rfl, sq3 (i := 35) rfl, sq3 (i := 36) rfl⟩, pnX7, phX7, by decide, by decide +kernel⟩
def meX7_film : sm_M × Nat := ((yX7_film, cX7_film, 8, (some (.int)), false), 4)
set_option maxRecDepth 20000 in
theorem omX7_film : sm_okM meX7_film := ⟨sq3 (i := 65) rfl, sq1 (i := 1) rfl, Or.inr ⟨rfl, sq3 (i := 63) rfl, sq3 (i := 64) rfl⟩, pnX7, phX7, by decide, by decide +kernel⟩
def meX7_sheet : sm_M × Nat := ((yX7_sheet, cX7_sheet, 5, (some (.int)), false), 3)
set_option maxRecDepth 20000 in
theorem omX7_sheet : sm_okM meX7_sheet := ⟨sq3 (i := 79) rfl, sq1 (i := 1) rfl, Or.inr ⟨rfl, sq3 (i := 77) rfl, sq3 (i := 78) rfl⟩, pnX7, phX7, by decide, by decide +kernel⟩
def meX7_drop : sm_M × Nat := ((yX7_drop, cX7_drop, 3, (some (.int)), false), 1)
set_option maxRecDepth 20000 in
theorem omX7_drop : sm_okM meX7_drop := ⟨sq3 (i := 87) rfl, sq1 (i := 1) rfl, Or.inr ⟨rfl, sq3 (i := 85) rfl, sq3 (i := 86) rfl⟩, pnX7, phX7, by decide, by decide +kernel⟩
def meX7_item : sm_M × Nat := ((yX7_item, cX7_item, 7, (some (.int)), false), 4)
set_option maxRecDepth 20000 in
theorem omX7_item : sm_okM meX7_item := ⟨sq3 (i := 96) rfl, sq1 (i := 1) rfl, Or.inr ⟨rfl, sq3 (i := 94) rfl, sq3 (i := 95) rfl⟩, pnX7, phX7, by decide, by decide +kernel⟩
def meX7_copy : sm_M × Nat := ((yX7_copy, cX7_copy, 8, (some (.int)), false), 5)
set_option maxRecDepth 20000 in
theorem omX7_copy : sm_okM meX7_copy := ⟨sq3 (i := 100) rfl, sq1 (i := 1) rfl, Or.inr ⟨rfl, sq3 (i := 98) rfl, sq3 (i := 99) rfl⟩, pnX7, phX7, by decide, by decide +kernel⟩
def meX7_findSheet : sm_M × Nat := ((yX7_findSheet, cX7_findSheet, 2, (some (.object "NineLies$Sheet")), false), 1)
set_option maxRecDepth 20000 in
theorem omX7_findSheet : sm_okM meX7_findSheet := ⟨sq3 (i := 41) rfl, sq1 (i := 1) rfl, Or.inr ⟨rfl, sq3 (i := 40) rfl, sq0 (i := 8) rfl⟩, pnX7, phX7, by decide, by decide +kernel⟩
def meX7_refusalOf : sm_M × Nat := ((yX7_refusalOf, cX7_refusalOf, 2, (some (.int)), false), 1)
set_option maxRecDepth 20000 in
theorem omX7_refusalOf : sm_okM meX7_refusalOf := ⟨sq2 (i := 95) rfl, sq1 (i := 1) rfl, Or.inr ⟨rfl, sq2 (i := 94) rfl, sq0 (i := 3) rfl⟩, pnX7, phX7, by decide, by decide +kernel⟩
def meX7_harmBy : sm_M × Nat := ((yX7_harmBy, cX7_harmBy, 4, (some (.int)), false), 3)
set_option maxRecDepth 20000 in
theorem omX7_harmBy : sm_okM meX7_harmBy := ⟨sq2 (i := 152) rfl, sq1 (i := 1) rfl, Or.inr ⟨rfl, sq2 (i := 151) rfl, sq0 (i := 4) rfl⟩, pnX7, phX7, by decide, by decide +kernel⟩
def meX7_isWithin : sm_M × Nat := ((yX7_isWithin, cX7_isWithin, 3, (some (.boolean)), true), 3)
set_option maxRecDepth 20000 in
theorem omX7_isWithin : sm_okM meX7_isWithin := ⟨sq1 (i := 156) rfl, sq1 (i := 1) rfl, Or.inl ⟨rfl, sq1 (i := 155) rfl⟩, pnX7, phX7, by decide, by decide +kernel⟩
def meX7_isLane : sm_M × Nat := ((yX7_isLane, cX7_isLane, 1, (some (.boolean)), true), 1)
set_option maxRecDepth 20000 in
theorem omX7_isLane : sm_okM meX7_isLane := ⟨sq3 (i := 44) rfl, sq1 (i := 1) rfl, Or.inl ⟨rfl, sq3 (i := 43) rfl⟩, pnX7, phX7, by decide, by decide +kernel⟩
def meX7_isThing : sm_M × Nat := ((yX7_isThing, cX7_isThing, 2, (some (.boolean)), true), 2)
set_option maxRecDepth 20000 in
theorem omX7_isThing : sm_okM meX7_isThing := ⟨sq1 (i := 153) rfl, sq1 (i := 1) rfl, Or.inl ⟨rfl, sq1 (i := 152) rfl⟩, pnX7, phX7, by decide, by decide +kernel⟩
def meX7_isSetting : sm_M × Nat := ((yX7_isSetting, cX7_isSetting, 2, (some (.boolean)), true), 2)
set_option maxRecDepth 20000 in
theorem omX7_isSetting : sm_okM meX7_isSetting := ⟨sq1 (i := 207) rfl, sq1 (i := 1) rfl, Or.inl ⟨rfl, sq1 (i := 206) rfl⟩, pnX7, phX7, by decide, by decide +kernel⟩
def meX7_areWords : sm_M × Nat := ((yX7_areWords, cX7_areWords, 3, (some (.boolean)), true), 3)
set_option maxRecDepth 20000 in
theorem omX7_areWords : sm_okM meX7_areWords := ⟨sq2 (i := 225) rfl, sq1 (i := 1) rfl, Or.inl ⟨rfl, sq2 (i := 224) rfl⟩, pnX7, phX7, by decide, by decide +kernel⟩
def meX7_areTextBytes : sm_M × Nat := ((yX7_areTextBytes, cX7_areTextBytes, 4, (some (.boolean)), true), 2)
set_option maxRecDepth 20000 in
theorem omX7_areTextBytes : sm_okM meX7_areTextBytes := ⟨sq1 (i := 220) rfl, sq1 (i := 1) rfl, Or.inl ⟨rfl, sq1 (i := 219) rfl⟩, pnX7, phX7, by decide, by decide +kernel⟩
def meX7_byteFromLowest : sm_M × Nat := ((yX7_byteFromLowest, cX7_byteFromLowest, 3, (some (.int)), true), 2)
set_option maxRecDepth 20000 in
theorem omX7_byteFromLowest : sm_okM meX7_byteFromLowest := ⟨sq1 (i := 223) rfl, sq1 (i := 1) rfl, Or.inl ⟨rfl, sq1 (i := 222) rfl⟩, pnX7, phX7, by decide, by decide +kernel⟩
def meX7_holds : sm_M × Nat := ((yX7_holds, cX7_holds, 2, (some (.boolean)), true), 2)
set_option maxRecDepth 20000 in
theorem omX7_holds : sm_okM meX7_holds := ⟨sq2 (i := 69) rfl, sq1 (i := 1) rfl, Or.inl ⟨rfl, sq2 (i := 68) rfl⟩, pnX7, phX7, by decide, by decide +kernel⟩
def meX7_at : sm_M × Nat := ((yX7_at, cX7_at, 2, (some (.int)), true), 2)
set_option maxRecDepth 20000 in
theorem omX7_at : sm_okM meX7_at := ⟨sq1 (i := 174) rfl, sq1 (i := 1) rfl, Or.inl ⟨rfl, sq1 (i := 173) rfl⟩, pnX7, phX7, by decide, by decide +kernel⟩
def meX7_put : sm_M × Nat := ((yX7_put, cX7_put, 4, (some (.int)), true), 3)
set_option maxRecDepth 20000 in
theorem omX7_put : sm_okM meX7_put := ⟨sq1 (i := 171) rfl, sq1 (i := 1) rfl, Or.inl ⟨rfl, sq1 (i := 170) rfl⟩, pnX7, phX7, by decide, by decide +kernel⟩
def meX7_greatestDivisor : sm_M × Nat := ((yX7_greatestDivisor, cX7_greatestDivisor, 6, (some (.int)), true), 2)
set_option maxRecDepth 20000 in
theorem omX7_greatestDivisor : sm_okM meX7_greatestDivisor := ⟨sq2 (i := 210) rfl, sq1 (i := 1) rfl, Or.inl ⟨rfl, sq2 (i := 209) rfl⟩, pnX7, phX7, by decide, by decide +kernel⟩
def meX7_leastSureStake : sm_M × Nat := ((yX7_leastSureStake, cX7_leastSureStake, 5, (some (.int)), true), 3)
set_option maxRecDepth 20000 in
theorem omX7_leastSureStake : sm_okM meX7_leastSureStake := ⟨sq2 (i := 217) rfl, sq1 (i := 1) rfl, Or.inl ⟨rfl, sq2 (i := 216) rfl⟩, pnX7, phX7, by decide, by decide +kernel⟩
def meX7_isOpen : sm_M × Nat := ((yX7_isOpen, cX7_isOpen, 2, (some (.boolean)), true), 2)
set_option maxRecDepth 20000 in
theorem omX7_isOpen : sm_okM meX7_isOpen := ⟨sq2 (i := 87) rfl, sq1 (i := 1) rfl, Or.inl ⟨rfl, sq2 (i := 86) rfl⟩, pnX7, phX7, by decide, by decide +kernel⟩
def meX7_openAgain : sm_M × Nat := ((yX7_openAgain, cX7_openAgain, 2, (some (.int)), true), 2)
set_option maxRecDepth 20000 in
theorem omX7_openAgain : sm_okM meX7_openAgain := ⟨sq2 (i := 73) rfl, sq1 (i := 1) rfl, Or.inl ⟨rfl, sq2 (i := 72) rfl⟩, pnX7, phX7, by decide, by decide +kernel⟩
def meX8_in : sm_M × Nat := ((yX8_in, cX8_in, 6, (some (.boolean)), true), 3)
set_option maxRecDepth 20000 in
theorem omX8_in : sm_okM meX8_in := ⟨sq3 (i := 161) rfl, sq1 (i := 9) rfl, Or.inl ⟨rfl, sq3 (i := 160) rfl⟩, pnX8, phX8, by decide, by decide +kernel⟩
def meX8_has : sm_M × Nat := ((yX8_has, cX8_has, 2, (some (.boolean)), true), 2)
set_option maxRecDepth 20000 in
theorem omX8_has : sm_okM meX8_has := ⟨sq3 (i := 237) rfl, sq1 (i := 9) rfl, Or.inl ⟨rfl, sq3 (i := 236) rfl⟩, pnX8, phX8, by decide, by decide +kernel⟩
def meX8_changed : sm_M × Nat := ((yX8_changed, cX8_changed, 4, (some (.int)), false), 2)
set_option maxRecDepth 20000 in
theorem omX8_changed : sm_okM meX8_changed := ⟨sq3 (i := 178) rfl, sq1 (i := 9) rfl, Or.inr ⟨rfl, sq3 (i := 177) rfl, sq0 (i := 11) rfl⟩, pnX8, phX8, by decide, by decide +kernel⟩
def meX8_isDay : sm_M × Nat := ((yX8_isDay, cX8_isDay, 2, (some (.boolean)), false), 1)
set_option maxRecDepth 20000 in
theorem omX8_isDay : sm_okM meX8_isDay := ⟨sq3 (i := 170) rfl, sq1 (i := 9) rfl, Or.inr ⟨rfl, sq3 (i := 169) rfl, sq0 (i := 10) rfl⟩, pnX8, phX8, by decide, by decide +kernel⟩
def meX8_isSet : sm_M × Nat := ((yX8_isSet, cX8_isSet, 2, (some (.boolean)), false), 1)
set_option maxRecDepth 20000 in
theorem omX8_isSet : sm_okM meX8_isSet := ⟨sq3 (i := 231) rfl, sq1 (i := 9) rfl, Or.inr ⟨rfl, sq3 (i := 230) rfl, sq0 (i := 15) rfl⟩, pnX8, phX8, by decide, by decide +kernel⟩
def meX8_day : sm_M × Nat := ((yX8_day, cX8_day, 5, (some (.int)), false), 3)
set_option maxRecDepth 20000 in
theorem omX8_day : sm_okM meX8_day := ⟨sq3 (i := 158) rfl, sq1 (i := 9) rfl, Or.inr ⟨rfl, sq3 (i := 156) rfl, sq3 (i := 157) rfl⟩, pnX8, phX8, by decide, by decide +kernel⟩
def meX8_isOf : sm_M × Nat := ((yX8_isOf, cX8_isOf, 2, (some (.boolean)), true), 2)
set_option maxRecDepth 20000 in
theorem omX8_isOf : sm_okM meX8_isOf := ⟨sq3 (i := 173) rfl, sq1 (i := 9) rfl, Or.inl ⟨rfl, sq3 (i := 172) rfl⟩, pnX8, phX8, by decide, by decide +kernel⟩
def meX8_alter : sm_M × Nat := ((yX8_alter, cX8_alter, 4, (some (.int)), false), 3)
set_option maxRecDepth 20000 in
theorem omX8_alter : sm_okM meX8_alter := ⟨sq3 (i := 166) rfl, sq1 (i := 9) rfl, Or.inr ⟨rfl, sq3 (i := 164) rfl, sq3 (i := 165) rfl⟩, pnX8, phX8, by decide, by decide +kernel⟩
def meX8_told : sm_M × Nat := ((yX8_told, cX8_told, 3, (some (.int)), false), 2)
set_option maxRecDepth 20000 in
theorem omX8_told : sm_okM meX8_told := ⟨sq3 (i := 182) rfl, sq1 (i := 9) rfl, Or.inr ⟨rfl, sq3 (i := 180) rfl, sq3 (i := 181) rfl⟩, pnX8, phX8, by decide, by decide +kernel⟩
def meX8_strike : sm_M × Nat := ((yX8_strike, cX8_strike, 1, (some (.int)), false), 0)
set_option maxRecDepth 20000 in
theorem omX8_strike : sm_okM meX8_strike := ⟨sq3 (i := 186) rfl, sq1 (i := 9) rfl, Or.inr ⟨rfl, sq3 (i := 184) rfl, sq3 (i := 185) rfl⟩, pnX8, phX8, by decide, by decide +kernel⟩
def meX8_set : sm_M × Nat := ((yX8_set, cX8_set, 3, (some (.int)), false), 2)
set_option maxRecDepth 20000 in
theorem omX8_set : sm_okM meX8_set := ⟨sq3 (i := 190) rfl, sq1 (i := 9) rfl, Or.inr ⟨rfl, sq3 (i := 188) rfl, sq3 (i := 189) rfl⟩, pnX8, phX8, by decide, by decide +kernel⟩
def meX8_type : sm_M × Nat := ((yX8_type, cX8_type, 6, (some (.int)), false), 2)
set_option maxRecDepth 20000 in
theorem omX8_type : sm_okM meX8_type := ⟨sq3 (i := 197) rfl, sq1 (i := 9) rfl, Or.inr ⟨rfl, sq3 (i := 195) rfl, sq3 (i := 196) rfl⟩, pnX8, phX8, by decide, by decide +kernel⟩
def meX8_look : sm_M × Nat := ((yX8_look, cX8_look, 1, (some (.int)), false), 0)
set_option maxRecDepth 20000 in
theorem omX8_look : sm_okM meX8_look := ⟨sq3 (i := 212) rfl, sq1 (i := 9) rfl, Or.inr ⟨rfl, sq3 (i := 211) rfl, sq0 (i := 13) rfl⟩, pnX8, phX8, by decide, by decide +kernel⟩
def meX8_takes : sm_M × Nat := ((yX8_takes, cX8_takes, 5, (some (.int)), false), 1)
set_option maxRecDepth 20000 in
theorem omX8_takes : sm_okM meX8_takes := ⟨sq3 (i := 216) rfl, sq1 (i := 9) rfl, Or.inr ⟨rfl, sq3 (i := 215) rfl, sq0 (i := 14) rfl⟩, pnX8, phX8, by decide, by decide +kernel⟩
def meX8_takesDay : sm_M × Nat := ((yX8_takesDay, cX8_takesDay, 3, (some (.int)), false), 0)
set_option maxRecDepth 20000 in
theorem omX8_takesDay : sm_okM meX8_takesDay := ⟨sq3 (i := 208) rfl, sq1 (i := 9) rfl, Or.inr ⟨rfl, sq3 (i := 207) rfl, sq0 (i := 12) rfl⟩, pnX8, phX8, by decide, by decide +kernel⟩
def meX8_year : sm_M × Nat := ((yX8_year, cX8_year, 3, (some (.int)), false), 0)
set_option maxRecDepth 20000 in
theorem omX8_year : sm_okM meX8_year := ⟨sq3 (i := 204) rfl, sq1 (i := 9) rfl, Or.inr ⟨rfl, sq3 (i := 202) rfl, sq3 (i := 203) rfl⟩, pnX8, phX8, by decide, by decide +kernel⟩
def meX8_count : sm_M × Nat := ((yX8_count, cX8_count, 6, (some (.int)), false), 1)
set_option maxRecDepth 20000 in
theorem omX8_count : sm_okM meX8_count := ⟨sq3 (i := 222) rfl, sq1 (i := 9) rfl, Or.inr ⟨rfl, sq3 (i := 220) rfl, sq3 (i := 221) rfl⟩, pnX8, phX8, by decide, by decide +kernel⟩
def meX8_lets : sm_M × Nat := ((yX8_lets, cX8_lets, 3, (some (.boolean)), true), 3)
set_option maxRecDepth 20000 in
theorem omX8_lets : sm_okM meX8_lets := ⟨sq4 (i := 3) rfl, sq1 (i := 9) rfl, Or.inl ⟨rfl, sq4 (i := 2) rfl⟩, pnX8, phX8, by decide, by decide +kernel⟩
def meX8_minds : sm_M × Nat := ((yX8_minds, cX8_minds, 4, (some (.int)), true), 3)
set_option maxRecDepth 20000 in
theorem omX8_minds : sm_okM meX8_minds := ⟨sq4 (i := 0) rfl, sq1 (i := 9) rfl, Or.inl ⟨rfl, sq3 (i := 239) rfl⟩, pnX8, phX8, by decide, by decide +kernel⟩
def meX8_mindedOn : sm_M × Nat := ((yX8_mindedOn, cX8_mindedOn, 4, (some (.int)), true), 2)
set_option maxRecDepth 20000 in
theorem omX8_mindedOn : sm_okM meX8_mindedOn := ⟨sq3 (i := 234) rfl, sq1 (i := 9) rfl, Or.inl ⟨rfl, sq3 (i := 233) rfl⟩, pnX8, phX8, by decide, by decide +kernel⟩
def meX8_may : sm_M × Nat := ((yX8_may, cX8_may, 5, (some (.int)), false), 1)
set_option maxRecDepth 20000 in
theorem omX8_may : sm_okM meX8_may := ⟨sq3 (i := 227) rfl, sq1 (i := 9) rfl, Or.inr ⟨rfl, sq3 (i := 225) rfl, sq3 (i := 226) rfl⟩, pnX8, phX8, by decide, by decide +kernel⟩
def meX8_wrongIn : sm_M × Nat := ((yX8_wrongIn, cX8_wrongIn, 4, (some (.int)), false), 1)
set_option maxRecDepth 20000 in
theorem omX8_wrongIn : sm_okM meX8_wrongIn := ⟨sq4 (i := 11) rfl, sq1 (i := 9) rfl, Or.inr ⟨rfl, sq4 (i := 10) rfl, sq0 (i := 16) rfl⟩, pnX8, phX8, by decide, by decide +kernel⟩
def meX8_lawful : sm_M × Nat := ((yX8_lawful, cX8_lawful, 2, (some (.int)), false), 1)
set_option maxRecDepth 20000 in
theorem omX8_lawful : sm_okM meX8_lawful := ⟨sq4 (i := 7) rfl, sq1 (i := 9) rfl, Or.inr ⟨rfl, sq4 (i := 5) rfl, sq4 (i := 6) rfl⟩, pnX8, phX8, by decide, by decide +kernel⟩
def meX8_wrong : sm_M × Nat := ((yX8_wrong, cX8_wrong, 2, (some (.int)), false), 1)
set_option maxRecDepth 20000 in
theorem omX8_wrong : sm_okM meX8_wrong := ⟨sq4 (i := 15) rfl, sq1 (i := 9) rfl, Or.inr ⟨rfl, sq4 (i := 13) rfl, sq4 (i := 14) rfl⟩, pnX8, phX8, by decide, by decide +kernel⟩
def meX8_trusts : sm_M × Nat := ((yX8_trusts, cX8_trusts, 3, (some (.boolean)), false), 2)
set_option maxRecDepth 20000 in
theorem omX8_trusts : sm_okM meX8_trusts := ⟨sq4 (i := 33) rfl, sq1 (i := 9) rfl, Or.inr ⟨rfl, sq4 (i := 32) rfl, sq0 (i := 19) rfl⟩, pnX8, phX8, by decide, by decide +kernel⟩
def meX8_brings : sm_M × Nat := ((yX8_brings, cX8_brings, 5, (some (.int)), false), 3)
set_option maxRecDepth 20000 in
theorem omX8_brings : sm_okM meX8_brings := ⟨sq4 (i := 29) rfl, sq1 (i := 9) rfl, Or.inr ⟨rfl, sq4 (i := 28) rfl, sq0 (i := 18) rfl⟩, pnX8, phX8, by decide, by decide +kernel⟩
def meX8_gainOf : sm_M × Nat := ((yX8_gainOf, cX8_gainOf, 5, (some (.int)), false), 1)
set_option maxRecDepth 20000 in
theorem omX8_gainOf : sm_okM meX8_gainOf := ⟨sq4 (i := 25) rfl, sq1 (i := 9) rfl, Or.inr ⟨rfl, sq4 (i := 24) rfl, sq0 (i := 17) rfl⟩, pnX8, phX8, by decide, by decide +kernel⟩
def meX8_gain : sm_M × Nat := ((yX8_gain, cX8_gain, 2, (some (.int)), false), 1)
set_option maxRecDepth 20000 in
theorem omX8_gain : sm_okM meX8_gain := ⟨sq4 (i := 19) rfl, sq1 (i := 9) rfl, Or.inr ⟨rfl, sq4 (i := 17) rfl, sq4 (i := 18) rfl⟩, pnX8, phX8, by decide, by decide +kernel⟩
def meX8_trusted : sm_M × Nat := ((yX8_trusted, cX8_trusted, 6, (some (.int)), false), 1)
set_option maxRecDepth 20000 in
theorem omX8_trusted : sm_okM meX8_trusted := ⟨sq4 (i := 37) rfl, sq1 (i := 9) rfl, Or.inr ⟨rfl, sq4 (i := 35) rfl, sq4 (i := 36) rfl⟩, pnX8, phX8, by decide, by decide +kernel⟩
def meX8_place : sm_M × Nat := ((yX8_place, cX8_place, 4, (some (.int)), false), 3)
set_option maxRecDepth 20000 in
theorem omX8_place : sm_okM meX8_place := ⟨sq4 (i := 53) rfl, sq1 (i := 9) rfl, Or.inr ⟨rfl, sq4 (i := 52) rfl, sq0 (i := 22) rfl⟩, pnX8, phX8, by decide, by decide +kernel⟩
def meX8_from : sm_M × Nat := ((yX8_from, cX8_from, 5, (some (.int)), false), 4)
set_option maxRecDepth 20000 in
theorem omX8_from : sm_okM meX8_from := ⟨sq4 (i := 49) rfl, sq1 (i := 9) rfl, Or.inr ⟨rfl, sq4 (i := 48) rfl, sq0 (i := 21) rfl⟩, pnX8, phX8, by decide, by decide +kernel⟩
def meX8_mayLie : sm_M × Nat := ((yX8_mayLie, cX8_mayLie, 4, (some (.boolean)), false), 3)
set_option maxRecDepth 20000 in
theorem omX8_mayLie : sm_okM meX8_mayLie := ⟨sq4 (i := 57) rfl, sq1 (i := 9) rfl, Or.inr ⟨rfl, sq4 (i := 56) rfl, sq0 (i := 23) rfl⟩, pnX8, phX8, by decide, by decide +kernel⟩
def meX8_harmNow : sm_M × Nat := ((yX8_harmNow, cX8_harmNow, 5, (some (.int)), false), 0)
set_option maxRecDepth 20000 in
theorem omX8_harmNow : sm_okM meX8_harmNow := ⟨sq4 (i := 45) rfl, sq1 (i := 9) rfl, Or.inr ⟨rfl, sq4 (i := 44) rfl, sq0 (i := 20) rfl⟩, pnX8, phX8, by decide, by decide +kernel⟩
def meX8_harm : sm_M × Nat := ((yX8_harm, cX8_harm, 1, (some (.int)), false), 0)
set_option maxRecDepth 20000 in
theorem omX8_harm : sm_okM meX8_harm := ⟨sq4 (i := 41) rfl, sq1 (i := 9) rfl, Or.inr ⟨rfl, sq4 (i := 39) rfl, sq4 (i := 40) rfl⟩, pnX8, phX8, by decide, by decide +kernel⟩
def meX8_worst : sm_M × Nat := ((yX8_worst, cX8_worst, 7, (some (.int)), false), 0)
set_option maxRecDepth 20000 in
theorem omX8_worst : sm_okM meX8_worst := ⟨sq4 (i := 61) rfl, sq1 (i := 9) rfl, Or.inr ⟨rfl, sq4 (i := 59) rfl, sq4 (i := 60) rfl⟩, pnX8, phX8, by decide, by decide +kernel⟩
def meX8_best : sm_M × Nat := ((yX8_best, cX8_best, 6, (some (.int)), false), 0)
set_option maxRecDepth 20000 in
theorem omX8_best : sm_okM meX8_best := ⟨sq4 (i := 65) rfl, sq1 (i := 9) rfl, Or.inr ⟨rfl, sq4 (i := 63) rfl, sq4 (i := 64) rfl⟩, pnX8, phX8, by decide, by decide +kernel⟩
def meX8_price : sm_M × Nat := ((yX8_price, cX8_price, 3, (some (.int)), false), 0)
set_option maxRecDepth 20000 in
theorem omX8_price : sm_okM meX8_price := ⟨sq4 (i := 69) rfl, sq1 (i := 9) rfl, Or.inr ⟨rfl, sq4 (i := 67) rfl, sq4 (i := 68) rfl⟩, pnX8, phX8, by decide, by decide +kernel⟩
def meX8_under : sm_M × Nat := ((yX8_under, cX8_under, 4, (some (.int)), false), 1)
set_option maxRecDepth 20000 in
theorem omX8_under : sm_okM meX8_under := ⟨sq4 (i := 73) rfl, sq1 (i := 9) rfl, Or.inr ⟨rfl, sq4 (i := 71) rfl, sq4 (i := 72) rfl⟩, pnX8, phX8, by decide, by decide +kernel⟩
def meX8_sure : sm_M × Nat := ((yX8_sure, cX8_sure, 11, (some (.int)), false), 5)
set_option maxRecDepth 20000 in
theorem omX8_sure : sm_okM meX8_sure := ⟨sq4 (i := 77) rfl, sq1 (i := 9) rfl, Or.inr ⟨rfl, sq4 (i := 75) rfl, sq4 (i := 76) rfl⟩, pnX8, phX8, by decide, by decide +kernel⟩
def meX8_bet : sm_M × Nat := ((yX8_bet, cX8_bet, 7, (some (.int)), false), 3)
set_option maxRecDepth 20000 in
theorem omX8_bet : sm_okM meX8_bet := ⟨sq4 (i := 81) rfl, sq1 (i := 9) rfl, Or.inr ⟨rfl, sq4 (i := 79) rfl, sq4 (i := 80) rfl⟩, pnX8, phX8, by decide, by decide +kernel⟩
def meX8_setsOf : sm_M × Nat := ((yX8_setsOf, cX8_setsOf, 7, (some (.int)), false), 4)
set_option maxRecDepth 20000 in
theorem omX8_setsOf : sm_okM meX8_setsOf := ⟨sq4 (i := 93) rfl, sq1 (i := 9) rfl, Or.inr ⟨rfl, sq4 (i := 92) rfl, sq0 (i := 24) rfl⟩, pnX8, phX8, by decide, by decide +kernel⟩
def meX8_areWords : sm_M × Nat := ((yX8_areWords, cX8_areWords, 4, (some (.boolean)), true), 4)
set_option maxRecDepth 20000 in
theorem omX8_areWords : sm_okM meX8_areWords := ⟨sq4 (i := 88) rfl, sq1 (i := 9) rfl, Or.inl ⟨rfl, sq4 (i := 87) rfl⟩, pnX8, phX8, by decide, by decide +kernel⟩
def meX8_sets : sm_M × Nat := ((yX8_sets, cX8_sets, 5, (some (.int)), false), 4)
set_option maxRecDepth 20000 in
theorem omX8_sets : sm_okM meX8_sets := ⟨sq4 (i := 85) rfl, sq1 (i := 9) rfl, Or.inr ⟨rfl, sq4 (i := 83) rfl, sq4 (i := 84) rfl⟩, pnX8, phX8, by decide, by decide +kernel⟩
def meX8_surely : sm_M × Nat := ((yX8_surely, cX8_surely, 10, (some (.int)), false), 5)
set_option maxRecDepth 20000 in
theorem omX8_surely : sm_okM meX8_surely := ⟨sq4 (i := 97) rfl, sq1 (i := 9) rfl, Or.inr ⟨rfl, sq4 (i := 95) rfl, sq4 (i := 96) rfl⟩, pnX8, phX8, by decide, by decide +kernel⟩
def meX8_lots : sm_M × Nat := ((yX8_lots, cX8_lots, 6, (some (.int)), false), 0)
set_option maxRecDepth 20000 in
theorem omX8_lots : sm_okM meX8_lots := ⟨sq4 (i := 101) rfl, sq1 (i := 9) rfl, Or.inr ⟨rfl, sq4 (i := 99) rfl, sq4 (i := 100) rfl⟩, pnX8, phX8, by decide, by decide +kernel⟩
def meX8_seed : sm_M × Nat := ((yX8_seed, cX8_seed, 2, (some (.int)), false), 1)
set_option maxRecDepth 20000 in
theorem omX8_seed : sm_okM meX8_seed := ⟨sq4 (i := 109) rfl, sq1 (i := 9) rfl, Or.inr ⟨rfl, sq4 (i := 107) rfl, sq4 (i := 108) rfl⟩, pnX8, phX8, by decide, by decide +kernel⟩
def meX8_image : sm_M × Nat := ((yX8_image, cX8_image, 2, (some (.int)), false), 0)
set_option maxRecDepth 20000 in
theorem omX8_image : sm_okM meX8_image := ⟨sq4 (i := 113) rfl, sq1 (i := 9) rfl, Or.inr ⟨rfl, sq4 (i := 111) rfl, sq4 (i := 112) rfl⟩, pnX8, phX8, by decide, by decide +kernel⟩
def meX8_restore : sm_M × Nat := ((yX8_restore, cX8_restore, 2, (some (.int)), false), 0)
set_option maxRecDepth 20000 in
theorem omX8_restore : sm_okM meX8_restore := ⟨sq4 (i := 117) rfl, sq1 (i := 9) rfl, Or.inr ⟨rfl, sq4 (i := 115) rfl, sq4 (i := 116) rfl⟩, pnX8, phX8, by decide, by decide +kernel⟩
def meX8_isSheet : sm_M × Nat := ((yX8_isSheet, cX8_isSheet, 2, (some (.boolean)), true), 2)
set_option maxRecDepth 20000 in
theorem omX8_isSheet : sm_okM meX8_isSheet := ⟨sq4 (i := 124) rfl, sq1 (i := 9) rfl, Or.inl ⟨rfl, sq4 (i := 123) rfl⟩, pnX8, phX8, by decide, by decide +kernel⟩
def meX8_found : sm_M × Nat := ((yX8_found, cX8_found, 5, (some (.int)), false), 4)
set_option maxRecDepth 20000 in
theorem omX8_found : sm_okM meX8_found := ⟨sq4 (i := 128) rfl, sq1 (i := 9) rfl, Or.inr ⟨rfl, sq4 (i := 127) rfl, sq0 (i := 25) rfl⟩, pnX8, phX8, by decide, by decide +kernel⟩
def meX8_judged : sm_M × Nat := ((yX8_judged, cX8_judged, 10, (some (.int)), false), 4)
set_option maxRecDepth 20000 in
theorem omX8_judged : sm_okM meX8_judged := ⟨sq4 (i := 121) rfl, sq1 (i := 9) rfl, Or.inr ⟨rfl, sq4 (i := 119) rfl, sq4 (i := 120) rfl⟩, pnX8, phX8, by decide, by decide +kernel⟩
def meX8_film : sm_M × Nat := ((yX8_film, cX8_film, 8, (some (.int)), false), 4)
set_option maxRecDepth 20000 in
theorem omX8_film : sm_okM meX8_film := ⟨sq4 (i := 133) rfl, sq1 (i := 9) rfl, Or.inr ⟨rfl, sq4 (i := 131) rfl, sq4 (i := 132) rfl⟩, pnX8, phX8, by decide, by decide +kernel⟩
def meX8_sheet : sm_M × Nat := ((yX8_sheet, cX8_sheet, 5, (some (.int)), false), 3)
set_option maxRecDepth 20000 in
theorem omX8_sheet : sm_okM meX8_sheet := ⟨sq4 (i := 137) rfl, sq1 (i := 9) rfl, Or.inr ⟨rfl, sq4 (i := 135) rfl, sq4 (i := 136) rfl⟩, pnX8, phX8, by decide, by decide +kernel⟩
def meX8_drop : sm_M × Nat := ((yX8_drop, cX8_drop, 3, (some (.int)), false), 1)
set_option maxRecDepth 20000 in
theorem omX8_drop : sm_okM meX8_drop := ⟨sq4 (i := 141) rfl, sq1 (i := 9) rfl, Or.inr ⟨rfl, sq4 (i := 139) rfl, sq4 (i := 140) rfl⟩, pnX8, phX8, by decide, by decide +kernel⟩
def meX8_item : sm_M × Nat := ((yX8_item, cX8_item, 6, (some (.int)), false), 4)
set_option maxRecDepth 20000 in
theorem omX8_item : sm_okM meX8_item := ⟨sq4 (i := 145) rfl, sq1 (i := 9) rfl, Or.inr ⟨rfl, sq4 (i := 143) rfl, sq4 (i := 144) rfl⟩, pnX8, phX8, by decide, by decide +kernel⟩
def meX8_copy : sm_M × Nat := ((yX8_copy, cX8_copy, 8, (some (.int)), false), 5)
set_option maxRecDepth 20000 in
theorem omX8_copy : sm_okM meX8_copy := ⟨sq4 (i := 149) rfl, sq1 (i := 9) rfl, Or.inr ⟨rfl, sq4 (i := 147) rfl, sq4 (i := 148) rfl⟩, pnX8, phX8, by decide, by decide +kernel⟩
def meJ6_bitCount_0f7a4 : sm_M × Nat := ((yJ6_bitCount_0f7a4, cJ6_bitCount_0f7a4, 1, (some (.int)), true), 1)
set_option maxRecDepth 20000 in
theorem omJ6_bitCount_0f7a4 : sm_okM meJ6_bitCount_0f7a4 := ⟨sq2 (i := 106) rfl, sq1 (i := 12) rfl, Or.inl ⟨rfl, sq2 (i := 105) rfl⟩, pnJ6, phJ6, by decide, by decide +kernel⟩
def sm_T0 : List (sm_M × Nat) := [meX0_has, meX0_hasAll, meX0_isFull, meX0_tell, meX0_change, meX0_add, meX0_removeLast, meX0_empty, meX0_become, meX0_hasNews, meX0_manyWithNews, meX0_sumOf, meX0_isTrusted, meX0_courtHas, meX1_reckon, meX1_worstSet, meX1_silent, meX1_lying, meX2_isNothing, meX2_hold]
theorem sm_T0_ok : ∀ q ∈ sm_T0, sm_okM q := List.forall_mem_cons.mpr ⟨omX0_has, List.forall_mem_cons.mpr ⟨omX0_hasAll, List.forall_mem_cons.mpr ⟨omX0_isFull, List.forall_mem_cons.mpr ⟨omX0_tell, List.forall_mem_cons.mpr ⟨omX0_change, List.forall_mem_cons.mpr ⟨omX0_add, List.forall_mem_cons.mpr ⟨omX0_removeLast, List.forall_mem_cons.mpr ⟨omX0_empty, List.forall_mem_cons.mpr ⟨omX0_become, List.forall_mem_cons.mpr ⟨omX0_hasNews, List.forall_mem_cons.mpr ⟨omX0_manyWithNews, List.forall_mem_cons.mpr ⟨omX0_sumOf, List.forall_mem_cons.mpr ⟨omX0_isTrusted, List.forall_mem_cons.mpr ⟨omX0_courtHas, List.forall_mem_cons.mpr ⟨omX1_reckon, List.forall_mem_cons.mpr ⟨omX1_worstSet, List.forall_mem_cons.mpr ⟨omX1_silent, List.forall_mem_cons.mpr ⟨omX1_lying, List.forall_mem_cons.mpr ⟨omX2_isNothing, List.forall_mem_cons.mpr ⟨omX2_hold, fun _ h => absurd h List.not_mem_nil⟩⟩⟩⟩⟩⟩⟩⟩⟩⟩⟩⟩⟩⟩⟩⟩⟩⟩⟩⟩
def sm_T1 : List (sm_M × Nat) := [meX2_holdNothing, meX2_covers, meX2_refusalOf, meX2_change, meX2_narrow, meX2_readDays, meX3_tell, meX3_change, meX4_append, meX4_empty, meX4_readInto, meX4_readDay, meX4_readNumber, meX4_nextByte, meX4_isDigit, meX4_faultAt, meX5_manyFit, meX5_fitBehind, meX6_tell, meX6_change]
theorem sm_T1_ok : ∀ q ∈ sm_T1, sm_okM q := List.forall_mem_cons.mpr ⟨omX2_holdNothing, List.forall_mem_cons.mpr ⟨omX2_covers, List.forall_mem_cons.mpr ⟨omX2_refusalOf, List.forall_mem_cons.mpr ⟨omX2_change, List.forall_mem_cons.mpr ⟨omX2_narrow, List.forall_mem_cons.mpr ⟨omX2_readDays, List.forall_mem_cons.mpr ⟨omX3_tell, List.forall_mem_cons.mpr ⟨omX3_change, List.forall_mem_cons.mpr ⟨omX4_append, List.forall_mem_cons.mpr ⟨omX4_empty, List.forall_mem_cons.mpr ⟨omX4_readInto, List.forall_mem_cons.mpr ⟨omX4_readDay, List.forall_mem_cons.mpr ⟨omX4_readNumber, List.forall_mem_cons.mpr ⟨omX4_nextByte, List.forall_mem_cons.mpr ⟨omX4_isDigit, List.forall_mem_cons.mpr ⟨omX4_faultAt, List.forall_mem_cons.mpr ⟨omX5_manyFit, List.forall_mem_cons.mpr ⟨omX5_fitBehind, List.forall_mem_cons.mpr ⟨omX6_tell, List.forall_mem_cons.mpr ⟨omX6_change, fun _ h => absurd h List.not_mem_nil⟩⟩⟩⟩⟩⟩⟩⟩⟩⟩⟩⟩⟩⟩⟩⟩⟩⟩⟩⟩
def sm_T2 : List (sm_M × Nat) := [meX6_become, meX6_mayLie, meX6_openBehind, meX6_firstWrong, meX6_leftOn, meX6_courtHas, meX6_gainOf, meX6_trustedBy, meX6_drawLots, meX7_day, meX7_alter, meX7_told, meX7_strike, meX7_set, meX7_type, meX7_year, meX7_count, meX7_may, meX7_lawful, meX7_wrong]
theorem sm_T2_ok : ∀ q ∈ sm_T2, sm_okM q := List.forall_mem_cons.mpr ⟨omX6_become, List.forall_mem_cons.mpr ⟨omX6_mayLie, List.forall_mem_cons.mpr ⟨omX6_openBehind, List.forall_mem_cons.mpr ⟨omX6_firstWrong, List.forall_mem_cons.mpr ⟨omX6_leftOn, List.forall_mem_cons.mpr ⟨omX6_courtHas, List.forall_mem_cons.mpr ⟨omX6_gainOf, List.forall_mem_cons.mpr ⟨omX6_trustedBy, List.forall_mem_cons.mpr ⟨omX6_drawLots, List.forall_mem_cons.mpr ⟨omX7_day, List.forall_mem_cons.mpr ⟨omX7_alter, List.forall_mem_cons.mpr ⟨omX7_told, List.forall_mem_cons.mpr ⟨omX7_strike, List.forall_mem_cons.mpr ⟨omX7_set, List.forall_mem_cons.mpr ⟨omX7_type, List.forall_mem_cons.mpr ⟨omX7_year, List.forall_mem_cons.mpr ⟨omX7_count, List.forall_mem_cons.mpr ⟨omX7_may, List.forall_mem_cons.mpr ⟨omX7_lawful, List.forall_mem_cons.mpr ⟨omX7_wrong, fun _ h => absurd h List.not_mem_nil⟩⟩⟩⟩⟩⟩⟩⟩⟩⟩⟩⟩⟩⟩⟩⟩⟩⟩⟩⟩
def sm_T3 : List (sm_M × Nat) := [meX7_gain, meX7_trusted, meX7_harm, meX7_worst, meX7_best, meX7_price, meX7_under, meX7_sure, meX7_bet, meX7_sets, meX7_surely, meX7_lots, meX7_seed, meX7_image, meX7_restore, meX7_judged, meX7_film, meX7_sheet, meX7_drop, meX7_item]
theorem sm_T3_ok : ∀ q ∈ sm_T3, sm_okM q := List.forall_mem_cons.mpr ⟨omX7_gain, List.forall_mem_cons.mpr ⟨omX7_trusted, List.forall_mem_cons.mpr ⟨omX7_harm, List.forall_mem_cons.mpr ⟨omX7_worst, List.forall_mem_cons.mpr ⟨omX7_best, List.forall_mem_cons.mpr ⟨omX7_price, List.forall_mem_cons.mpr ⟨omX7_under, List.forall_mem_cons.mpr ⟨omX7_sure, List.forall_mem_cons.mpr ⟨omX7_bet, List.forall_mem_cons.mpr ⟨omX7_sets, List.forall_mem_cons.mpr ⟨omX7_surely, List.forall_mem_cons.mpr ⟨omX7_lots, List.forall_mem_cons.mpr ⟨omX7_seed, List.forall_mem_cons.mpr ⟨omX7_image, List.forall_mem_cons.mpr ⟨omX7_restore, List.forall_mem_cons.mpr ⟨omX7_judged, List.forall_mem_cons.mpr ⟨omX7_film, List.forall_mem_cons.mpr ⟨omX7_sheet, List.forall_mem_cons.mpr ⟨omX7_drop, List.forall_mem_cons.mpr ⟨omX7_item, fun _ h => absurd h List.not_mem_nil⟩⟩⟩⟩⟩⟩⟩⟩⟩⟩⟩⟩⟩⟩⟩⟩⟩⟩⟩⟩
def sm_T4 : List (sm_M × Nat) := [meX7_copy, meX7_findSheet, meX7_refusalOf, meX7_harmBy, meX7_isWithin, meX7_isLane, meX7_isThing, meX7_isSetting, meX7_areWords, meX7_areTextBytes, meX7_byteFromLowest, meX7_holds, meX7_at, meX7_put, meX7_greatestDivisor, meX7_leastSureStake, meX7_isOpen, meX7_openAgain, meX8_in, meX8_has]
theorem sm_T4_ok : ∀ q ∈ sm_T4, sm_okM q := List.forall_mem_cons.mpr ⟨omX7_copy, List.forall_mem_cons.mpr ⟨omX7_findSheet, List.forall_mem_cons.mpr ⟨omX7_refusalOf, List.forall_mem_cons.mpr ⟨omX7_harmBy, List.forall_mem_cons.mpr ⟨omX7_isWithin, List.forall_mem_cons.mpr ⟨omX7_isLane, List.forall_mem_cons.mpr ⟨omX7_isThing, List.forall_mem_cons.mpr ⟨omX7_isSetting, List.forall_mem_cons.mpr ⟨omX7_areWords, List.forall_mem_cons.mpr ⟨omX7_areTextBytes, List.forall_mem_cons.mpr ⟨omX7_byteFromLowest, List.forall_mem_cons.mpr ⟨omX7_holds, List.forall_mem_cons.mpr ⟨omX7_at, List.forall_mem_cons.mpr ⟨omX7_put, List.forall_mem_cons.mpr ⟨omX7_greatestDivisor, List.forall_mem_cons.mpr ⟨omX7_leastSureStake, List.forall_mem_cons.mpr ⟨omX7_isOpen, List.forall_mem_cons.mpr ⟨omX7_openAgain, List.forall_mem_cons.mpr ⟨omX8_in, List.forall_mem_cons.mpr ⟨omX8_has, fun _ h => absurd h List.not_mem_nil⟩⟩⟩⟩⟩⟩⟩⟩⟩⟩⟩⟩⟩⟩⟩⟩⟩⟩⟩⟩
def sm_T5 : List (sm_M × Nat) := [meX8_changed, meX8_isDay, meX8_isSet, meX8_day, meX8_isOf, meX8_alter, meX8_told, meX8_strike, meX8_set, meX8_type, meX8_look, meX8_takes, meX8_takesDay, meX8_year, meX8_count, meX8_lets, meX8_minds, meX8_mindedOn, meX8_may, meX8_wrongIn]
theorem sm_T5_ok : ∀ q ∈ sm_T5, sm_okM q := List.forall_mem_cons.mpr ⟨omX8_changed, List.forall_mem_cons.mpr ⟨omX8_isDay, List.forall_mem_cons.mpr ⟨omX8_isSet, List.forall_mem_cons.mpr ⟨omX8_day, List.forall_mem_cons.mpr ⟨omX8_isOf, List.forall_mem_cons.mpr ⟨omX8_alter, List.forall_mem_cons.mpr ⟨omX8_told, List.forall_mem_cons.mpr ⟨omX8_strike, List.forall_mem_cons.mpr ⟨omX8_set, List.forall_mem_cons.mpr ⟨omX8_type, List.forall_mem_cons.mpr ⟨omX8_look, List.forall_mem_cons.mpr ⟨omX8_takes, List.forall_mem_cons.mpr ⟨omX8_takesDay, List.forall_mem_cons.mpr ⟨omX8_year, List.forall_mem_cons.mpr ⟨omX8_count, List.forall_mem_cons.mpr ⟨omX8_lets, List.forall_mem_cons.mpr ⟨omX8_minds, List.forall_mem_cons.mpr ⟨omX8_mindedOn, List.forall_mem_cons.mpr ⟨omX8_may, List.forall_mem_cons.mpr ⟨omX8_wrongIn, fun _ h => absurd h List.not_mem_nil⟩⟩⟩⟩⟩⟩⟩⟩⟩⟩⟩⟩⟩⟩⟩⟩⟩⟩⟩⟩
def sm_T6 : List (sm_M × Nat) := [meX8_lawful, meX8_wrong, meX8_trusts, meX8_brings, meX8_gainOf, meX8_gain, meX8_trusted, meX8_place, meX8_from, meX8_mayLie, meX8_harmNow, meX8_harm, meX8_worst, meX8_best, meX8_price, meX8_under, meX8_sure, meX8_bet, meX8_setsOf, meX8_areWords]
theorem sm_T6_ok : ∀ q ∈ sm_T6, sm_okM q := List.forall_mem_cons.mpr ⟨omX8_lawful, List.forall_mem_cons.mpr ⟨omX8_wrong, List.forall_mem_cons.mpr ⟨omX8_trusts, List.forall_mem_cons.mpr ⟨omX8_brings, List.forall_mem_cons.mpr ⟨omX8_gainOf, List.forall_mem_cons.mpr ⟨omX8_gain, List.forall_mem_cons.mpr ⟨omX8_trusted, List.forall_mem_cons.mpr ⟨omX8_place, List.forall_mem_cons.mpr ⟨omX8_from, List.forall_mem_cons.mpr ⟨omX8_mayLie, List.forall_mem_cons.mpr ⟨omX8_harmNow, List.forall_mem_cons.mpr ⟨omX8_harm, List.forall_mem_cons.mpr ⟨omX8_worst, List.forall_mem_cons.mpr ⟨omX8_best, List.forall_mem_cons.mpr ⟨omX8_price, List.forall_mem_cons.mpr ⟨omX8_under, List.forall_mem_cons.mpr ⟨omX8_sure, List.forall_mem_cons.mpr ⟨omX8_bet, List.forall_mem_cons.mpr ⟨omX8_setsOf, List.forall_mem_cons.mpr ⟨omX8_areWords, fun _ h => absurd h List.not_mem_nil⟩⟩⟩⟩⟩⟩⟩⟩⟩⟩⟩⟩⟩⟩⟩⟩⟩⟩⟩⟩
def sm_T7 : List (sm_M × Nat) := [meX8_sets, meX8_surely, meX8_lots, meX8_seed, meX8_image, meX8_restore, meX8_isSheet, meX8_found, meX8_judged, meX8_film, meX8_sheet, meX8_drop, meX8_item, meX8_copy, meJ6_bitCount_0f7a4]
theorem sm_T7_ok : ∀ q ∈ sm_T7, sm_okM q := List.forall_mem_cons.mpr ⟨omX8_sets, List.forall_mem_cons.mpr ⟨omX8_surely, List.forall_mem_cons.mpr ⟨omX8_lots, List.forall_mem_cons.mpr ⟨omX8_seed, List.forall_mem_cons.mpr ⟨omX8_image, List.forall_mem_cons.mpr ⟨omX8_restore, List.forall_mem_cons.mpr ⟨omX8_isSheet, List.forall_mem_cons.mpr ⟨omX8_found, List.forall_mem_cons.mpr ⟨omX8_judged, List.forall_mem_cons.mpr ⟨omX8_film, List.forall_mem_cons.mpr ⟨omX8_sheet, List.forall_mem_cons.mpr ⟨omX8_drop, List.forall_mem_cons.mpr ⟨omX8_item, List.forall_mem_cons.mpr ⟨omX8_copy, List.forall_mem_cons.mpr ⟨omJ6_bitCount_0f7a4, fun _ h => absurd h List.not_mem_nil⟩⟩⟩⟩⟩⟩⟩⟩⟩⟩⟩⟩⟩⟩⟩
def sm_T : List (sm_M × Nat) := sm_T0 ++ (sm_T1 ++ (sm_T2 ++ (sm_T3 ++ (sm_T4 ++ (sm_T5 ++ (sm_T6 ++ (sm_T7)))))))
theorem sm_T_ok : ∀ q ∈ sm_T, sm_okM q := List.forall_mem_append.mpr ⟨sm_T0_ok, List.forall_mem_append.mpr ⟨sm_T1_ok, List.forall_mem_append.mpr ⟨sm_T2_ok, List.forall_mem_append.mpr ⟨sm_T3_ok, List.forall_mem_append.mpr ⟨sm_T4_ok, List.forall_mem_append.mpr ⟨sm_T5_ok, List.forall_mem_append.mpr ⟨sm_T6_ok, sm_T7_ok⟩⟩⟩⟩⟩⟩⟩
theorem mtX0_has : meX0_has ∈ sm_T := List.mem_append_left _ (List.mem_of_getElem? (i := 0) rfl)
theorem mtX0_hasAll : meX0_hasAll ∈ sm_T := List.mem_append_left _ (List.mem_of_getElem? (i := 1) rfl)
theorem mtX0_isFull : meX0_isFull ∈ sm_T := List.mem_append_left _ (List.mem_of_getElem? (i := 2) rfl)
theorem mtX0_tell : meX0_tell ∈ sm_T := List.mem_append_left _ (List.mem_of_getElem? (i := 3) rfl)
theorem mtX0_change : meX0_change ∈ sm_T := List.mem_append_left _ (List.mem_of_getElem? (i := 4) rfl)
theorem mtX0_add : meX0_add ∈ sm_T := List.mem_append_left _ (List.mem_of_getElem? (i := 5) rfl)
theorem mtX0_removeLast : meX0_removeLast ∈ sm_T := List.mem_append_left _ (List.mem_of_getElem? (i := 6) rfl)
theorem mtX0_empty : meX0_empty ∈ sm_T := List.mem_append_left _ (List.mem_of_getElem? (i := 7) rfl)
theorem mtX0_become : meX0_become ∈ sm_T := List.mem_append_left _ (List.mem_of_getElem? (i := 8) rfl)
theorem mtX0_hasNews : meX0_hasNews ∈ sm_T := List.mem_append_left _ (List.mem_of_getElem? (i := 9) rfl)
theorem mtX0_manyWithNews : meX0_manyWithNews ∈ sm_T := List.mem_append_left _ (List.mem_of_getElem? (i := 10) rfl)
theorem mtX0_sumOf : meX0_sumOf ∈ sm_T := List.mem_append_left _ (List.mem_of_getElem? (i := 11) rfl)
theorem mtX0_isTrusted : meX0_isTrusted ∈ sm_T := List.mem_append_left _ (List.mem_of_getElem? (i := 12) rfl)
theorem mtX0_courtHas : meX0_courtHas ∈ sm_T := List.mem_append_left _ (List.mem_of_getElem? (i := 13) rfl)
theorem mtX1_reckon : meX1_reckon ∈ sm_T := List.mem_append_left _ (List.mem_of_getElem? (i := 14) rfl)
theorem mtX1_worstSet : meX1_worstSet ∈ sm_T := List.mem_append_left _ (List.mem_of_getElem? (i := 15) rfl)
theorem mtX1_silent : meX1_silent ∈ sm_T := List.mem_append_left _ (List.mem_of_getElem? (i := 16) rfl)
theorem mtX1_lying : meX1_lying ∈ sm_T := List.mem_append_left _ (List.mem_of_getElem? (i := 17) rfl)
theorem mtX2_isNothing : meX2_isNothing ∈ sm_T := List.mem_append_left _ (List.mem_of_getElem? (i := 18) rfl)
theorem mtX2_hold : meX2_hold ∈ sm_T := List.mem_append_left _ (List.mem_of_getElem? (i := 19) rfl)
theorem mtX2_holdNothing : meX2_holdNothing ∈ sm_T := List.mem_append_right _ (List.mem_append_left _ (List.mem_of_getElem? (i := 0) rfl))
theorem mtX2_covers : meX2_covers ∈ sm_T := List.mem_append_right _ (List.mem_append_left _ (List.mem_of_getElem? (i := 1) rfl))
theorem mtX2_refusalOf : meX2_refusalOf ∈ sm_T := List.mem_append_right _ (List.mem_append_left _ (List.mem_of_getElem? (i := 2) rfl))
theorem mtX2_change : meX2_change ∈ sm_T := List.mem_append_right _ (List.mem_append_left _ (List.mem_of_getElem? (i := 3) rfl))
theorem mtX2_narrow : meX2_narrow ∈ sm_T := List.mem_append_right _ (List.mem_append_left _ (List.mem_of_getElem? (i := 4) rfl))
theorem mtX2_readDays : meX2_readDays ∈ sm_T := List.mem_append_right _ (List.mem_append_left _ (List.mem_of_getElem? (i := 5) rfl))
theorem mtX3_tell : meX3_tell ∈ sm_T := List.mem_append_right _ (List.mem_append_left _ (List.mem_of_getElem? (i := 6) rfl))
theorem mtX3_change : meX3_change ∈ sm_T := List.mem_append_right _ (List.mem_append_left _ (List.mem_of_getElem? (i := 7) rfl))
theorem mtX4_append : meX4_append ∈ sm_T := List.mem_append_right _ (List.mem_append_left _ (List.mem_of_getElem? (i := 8) rfl))
theorem mtX4_empty : meX4_empty ∈ sm_T := List.mem_append_right _ (List.mem_append_left _ (List.mem_of_getElem? (i := 9) rfl))
theorem mtX4_readInto : meX4_readInto ∈ sm_T := List.mem_append_right _ (List.mem_append_left _ (List.mem_of_getElem? (i := 10) rfl))
theorem mtX4_readDay : meX4_readDay ∈ sm_T := List.mem_append_right _ (List.mem_append_left _ (List.mem_of_getElem? (i := 11) rfl))
theorem mtX4_readNumber : meX4_readNumber ∈ sm_T := List.mem_append_right _ (List.mem_append_left _ (List.mem_of_getElem? (i := 12) rfl))
theorem mtX4_nextByte : meX4_nextByte ∈ sm_T := List.mem_append_right _ (List.mem_append_left _ (List.mem_of_getElem? (i := 13) rfl))
theorem mtX4_isDigit : meX4_isDigit ∈ sm_T := List.mem_append_right _ (List.mem_append_left _ (List.mem_of_getElem? (i := 14) rfl))
theorem mtX4_faultAt : meX4_faultAt ∈ sm_T := List.mem_append_right _ (List.mem_append_left _ (List.mem_of_getElem? (i := 15) rfl))
theorem mtX5_manyFit : meX5_manyFit ∈ sm_T := List.mem_append_right _ (List.mem_append_left _ (List.mem_of_getElem? (i := 16) rfl))
theorem mtX5_fitBehind : meX5_fitBehind ∈ sm_T := List.mem_append_right _ (List.mem_append_left _ (List.mem_of_getElem? (i := 17) rfl))
theorem mtX6_tell : meX6_tell ∈ sm_T := List.mem_append_right _ (List.mem_append_left _ (List.mem_of_getElem? (i := 18) rfl))
theorem mtX6_change : meX6_change ∈ sm_T := List.mem_append_right _ (List.mem_append_left _ (List.mem_of_getElem? (i := 19) rfl))
theorem mtX6_become : meX6_become ∈ sm_T := List.mem_append_right _ (List.mem_append_right _ (List.mem_append_left _ (List.mem_of_getElem? (i := 0) rfl)))
theorem mtX6_mayLie : meX6_mayLie ∈ sm_T := List.mem_append_right _ (List.mem_append_right _ (List.mem_append_left _ (List.mem_of_getElem? (i := 1) rfl)))
theorem mtX6_openBehind : meX6_openBehind ∈ sm_T := List.mem_append_right _ (List.mem_append_right _ (List.mem_append_left _ (List.mem_of_getElem? (i := 2) rfl)))
theorem mtX6_firstWrong : meX6_firstWrong ∈ sm_T := List.mem_append_right _ (List.mem_append_right _ (List.mem_append_left _ (List.mem_of_getElem? (i := 3) rfl)))
theorem mtX6_leftOn : meX6_leftOn ∈ sm_T := List.mem_append_right _ (List.mem_append_right _ (List.mem_append_left _ (List.mem_of_getElem? (i := 4) rfl)))
theorem mtX6_courtHas : meX6_courtHas ∈ sm_T := List.mem_append_right _ (List.mem_append_right _ (List.mem_append_left _ (List.mem_of_getElem? (i := 5) rfl)))
theorem mtX6_gainOf : meX6_gainOf ∈ sm_T := List.mem_append_right _ (List.mem_append_right _ (List.mem_append_left _ (List.mem_of_getElem? (i := 6) rfl)))
theorem mtX6_trustedBy : meX6_trustedBy ∈ sm_T := List.mem_append_right _ (List.mem_append_right _ (List.mem_append_left _ (List.mem_of_getElem? (i := 7) rfl)))
theorem mtX6_drawLots : meX6_drawLots ∈ sm_T := List.mem_append_right _ (List.mem_append_right _ (List.mem_append_left _ (List.mem_of_getElem? (i := 8) rfl)))
theorem mtX7_day : meX7_day ∈ sm_T := List.mem_append_right _ (List.mem_append_right _ (List.mem_append_left _ (List.mem_of_getElem? (i := 9) rfl)))
theorem mtX7_alter : meX7_alter ∈ sm_T := List.mem_append_right _ (List.mem_append_right _ (List.mem_append_left _ (List.mem_of_getElem? (i := 10) rfl)))
theorem mtX7_told : meX7_told ∈ sm_T := List.mem_append_right _ (List.mem_append_right _ (List.mem_append_left _ (List.mem_of_getElem? (i := 11) rfl)))
theorem mtX7_strike : meX7_strike ∈ sm_T := List.mem_append_right _ (List.mem_append_right _ (List.mem_append_left _ (List.mem_of_getElem? (i := 12) rfl)))
theorem mtX7_set : meX7_set ∈ sm_T := List.mem_append_right _ (List.mem_append_right _ (List.mem_append_left _ (List.mem_of_getElem? (i := 13) rfl)))
theorem mtX7_type : meX7_type ∈ sm_T := List.mem_append_right _ (List.mem_append_right _ (List.mem_append_left _ (List.mem_of_getElem? (i := 14) rfl)))
theorem mtX7_year : meX7_year ∈ sm_T := List.mem_append_right _ (List.mem_append_right _ (List.mem_append_left _ (List.mem_of_getElem? (i := 15) rfl)))
theorem mtX7_count : meX7_count ∈ sm_T := List.mem_append_right _ (List.mem_append_right _ (List.mem_append_left _ (List.mem_of_getElem? (i := 16) rfl)))
theorem mtX7_may : meX7_may ∈ sm_T := List.mem_append_right _ (List.mem_append_right _ (List.mem_append_left _ (List.mem_of_getElem? (i := 17) rfl)))
theorem mtX7_lawful : meX7_lawful ∈ sm_T := List.mem_append_right _ (List.mem_append_right _ (List.mem_append_left _ (List.mem_of_getElem? (i := 18) rfl)))
theorem mtX7_wrong : meX7_wrong ∈ sm_T := List.mem_append_right _ (List.mem_append_right _ (List.mem_append_left _ (List.mem_of_getElem? (i := 19) rfl)))
theorem mtX7_gain : meX7_gain ∈ sm_T := List.mem_append_right _ (List.mem_append_right _ (List.mem_append_right _ (List.mem_append_left _ (List.mem_of_getElem? (i := 0) rfl))))
theorem mtX7_trusted : meX7_trusted ∈ sm_T := List.mem_append_right _ (List.mem_append_right _ (List.mem_append_right _ (List.mem_append_left _ (List.mem_of_getElem? (i := 1) rfl))))
theorem mtX7_harm : meX7_harm ∈ sm_T := List.mem_append_right _ (List.mem_append_right _ (List.mem_append_right _ (List.mem_append_left _ (List.mem_of_getElem? (i := 2) rfl))))
theorem mtX7_worst : meX7_worst ∈ sm_T := List.mem_append_right _ (List.mem_append_right _ (List.mem_append_right _ (List.mem_append_left _ (List.mem_of_getElem? (i := 3) rfl))))
theorem mtX7_best : meX7_best ∈ sm_T := List.mem_append_right _ (List.mem_append_right _ (List.mem_append_right _ (List.mem_append_left _ (List.mem_of_getElem? (i := 4) rfl))))
theorem mtX7_price : meX7_price ∈ sm_T := List.mem_append_right _ (List.mem_append_right _ (List.mem_append_right _ (List.mem_append_left _ (List.mem_of_getElem? (i := 5) rfl))))
theorem mtX7_under : meX7_under ∈ sm_T := List.mem_append_right _ (List.mem_append_right _ (List.mem_append_right _ (List.mem_append_left _ (List.mem_of_getElem? (i := 6) rfl))))
theorem mtX7_sure : meX7_sure ∈ sm_T := List.mem_append_right _ (List.mem_append_right _ (List.mem_append_right _ (List.mem_append_left _ (List.mem_of_getElem? (i := 7) rfl))))
theorem mtX7_bet : meX7_bet ∈ sm_T := List.mem_append_right _ (List.mem_append_right _ (List.mem_append_right _ (List.mem_append_left _ (List.mem_of_getElem? (i := 8) rfl))))
theorem mtX7_sets : meX7_sets ∈ sm_T := List.mem_append_right _ (List.mem_append_right _ (List.mem_append_right _ (List.mem_append_left _ (List.mem_of_getElem? (i := 9) rfl))))
theorem mtX7_surely : meX7_surely ∈ sm_T := List.mem_append_right _ (List.mem_append_right _ (List.mem_append_right _ (List.mem_append_left _ (List.mem_of_getElem? (i := 10) rfl))))
theorem mtX7_lots : meX7_lots ∈ sm_T := List.mem_append_right _ (List.mem_append_right _ (List.mem_append_right _ (List.mem_append_left _ (List.mem_of_getElem? (i := 11) rfl))))
theorem mtX7_seed : meX7_seed ∈ sm_T := List.mem_append_right _ (List.mem_append_right _ (List.mem_append_right _ (List.mem_append_left _ (List.mem_of_getElem? (i := 12) rfl))))
theorem mtX7_image : meX7_image ∈ sm_T := List.mem_append_right _ (List.mem_append_right _ (List.mem_append_right _ (List.mem_append_left _ (List.mem_of_getElem? (i := 13) rfl))))
theorem mtX7_restore : meX7_restore ∈ sm_T := List.mem_append_right _ (List.mem_append_right _ (List.mem_append_right _ (List.mem_append_left _ (List.mem_of_getElem? (i := 14) rfl))))
theorem mtX7_judged : meX7_judged ∈ sm_T := List.mem_append_right _ (List.mem_append_right _ (List.mem_append_right _ (List.mem_append_left _ (List.mem_of_getElem? (i := 15) rfl))))
theorem mtX7_film : meX7_film ∈ sm_T := List.mem_append_right _ (List.mem_append_right _ (List.mem_append_right _ (List.mem_append_left _ (List.mem_of_getElem? (i := 16) rfl))))
theorem mtX7_sheet : meX7_sheet ∈ sm_T := List.mem_append_right _ (List.mem_append_right _ (List.mem_append_right _ (List.mem_append_left _ (List.mem_of_getElem? (i := 17) rfl))))
theorem mtX7_drop : meX7_drop ∈ sm_T := List.mem_append_right _ (List.mem_append_right _ (List.mem_append_right _ (List.mem_append_left _ (List.mem_of_getElem? (i := 18) rfl))))
theorem mtX7_item : meX7_item ∈ sm_T := List.mem_append_right _ (List.mem_append_right _ (List.mem_append_right _ (List.mem_append_left _ (List.mem_of_getElem? (i := 19) rfl))))
theorem mtX7_copy : meX7_copy ∈ sm_T := List.mem_append_right _ (List.mem_append_right _ (List.mem_append_right _ (List.mem_append_right _ (List.mem_append_left _ (List.mem_of_getElem? (i := 0) rfl)))))
theorem mtX7_findSheet : meX7_findSheet ∈ sm_T := List.mem_append_right _ (List.mem_append_right _ (List.mem_append_right _ (List.mem_append_right _ (List.mem_append_left _ (List.mem_of_getElem? (i := 1) rfl)))))
theorem mtX7_refusalOf : meX7_refusalOf ∈ sm_T := List.mem_append_right _ (List.mem_append_right _ (List.mem_append_right _ (List.mem_append_right _ (List.mem_append_left _ (List.mem_of_getElem? (i := 2) rfl)))))
theorem mtX7_harmBy : meX7_harmBy ∈ sm_T := List.mem_append_right _ (List.mem_append_right _ (List.mem_append_right _ (List.mem_append_right _ (List.mem_append_left _ (List.mem_of_getElem? (i := 3) rfl)))))
theorem mtX7_isWithin : meX7_isWithin ∈ sm_T := List.mem_append_right _ (List.mem_append_right _ (List.mem_append_right _ (List.mem_append_right _ (List.mem_append_left _ (List.mem_of_getElem? (i := 4) rfl)))))
theorem mtX7_isLane : meX7_isLane ∈ sm_T := List.mem_append_right _ (List.mem_append_right _ (List.mem_append_right _ (List.mem_append_right _ (List.mem_append_left _ (List.mem_of_getElem? (i := 5) rfl)))))
theorem mtX7_isThing : meX7_isThing ∈ sm_T := List.mem_append_right _ (List.mem_append_right _ (List.mem_append_right _ (List.mem_append_right _ (List.mem_append_left _ (List.mem_of_getElem? (i := 6) rfl)))))
theorem mtX7_isSetting : meX7_isSetting ∈ sm_T := List.mem_append_right _ (List.mem_append_right _ (List.mem_append_right _ (List.mem_append_right _ (List.mem_append_left _ (List.mem_of_getElem? (i := 7) rfl)))))
theorem mtX7_areWords : meX7_areWords ∈ sm_T := List.mem_append_right _ (List.mem_append_right _ (List.mem_append_right _ (List.mem_append_right _ (List.mem_append_left _ (List.mem_of_getElem? (i := 8) rfl)))))
theorem mtX7_areTextBytes : meX7_areTextBytes ∈ sm_T := List.mem_append_right _ (List.mem_append_right _ (List.mem_append_right _ (List.mem_append_right _ (List.mem_append_left _ (List.mem_of_getElem? (i := 9) rfl)))))
theorem mtX7_byteFromLowest : meX7_byteFromLowest ∈ sm_T := List.mem_append_right _ (List.mem_append_right _ (List.mem_append_right _ (List.mem_append_right _ (List.mem_append_left _ (List.mem_of_getElem? (i := 10) rfl)))))
theorem mtX7_holds : meX7_holds ∈ sm_T := List.mem_append_right _ (List.mem_append_right _ (List.mem_append_right _ (List.mem_append_right _ (List.mem_append_left _ (List.mem_of_getElem? (i := 11) rfl)))))
theorem mtX7_at : meX7_at ∈ sm_T := List.mem_append_right _ (List.mem_append_right _ (List.mem_append_right _ (List.mem_append_right _ (List.mem_append_left _ (List.mem_of_getElem? (i := 12) rfl)))))
theorem mtX7_put : meX7_put ∈ sm_T := List.mem_append_right _ (List.mem_append_right _ (List.mem_append_right _ (List.mem_append_right _ (List.mem_append_left _ (List.mem_of_getElem? (i := 13) rfl)))))
theorem mtX7_greatestDivisor : meX7_greatestDivisor ∈ sm_T := List.mem_append_right _ (List.mem_append_right _ (List.mem_append_right _ (List.mem_append_right _ (List.mem_append_left _ (List.mem_of_getElem? (i := 14) rfl)))))
theorem mtX7_leastSureStake : meX7_leastSureStake ∈ sm_T := List.mem_append_right _ (List.mem_append_right _ (List.mem_append_right _ (List.mem_append_right _ (List.mem_append_left _ (List.mem_of_getElem? (i := 15) rfl)))))
theorem mtX7_isOpen : meX7_isOpen ∈ sm_T := List.mem_append_right _ (List.mem_append_right _ (List.mem_append_right _ (List.mem_append_right _ (List.mem_append_left _ (List.mem_of_getElem? (i := 16) rfl)))))
theorem mtX7_openAgain : meX7_openAgain ∈ sm_T := List.mem_append_right _ (List.mem_append_right _ (List.mem_append_right _ (List.mem_append_right _ (List.mem_append_left _ (List.mem_of_getElem? (i := 17) rfl)))))
theorem mtX8_in : meX8_in ∈ sm_T := List.mem_append_right _ (List.mem_append_right _ (List.mem_append_right _ (List.mem_append_right _ (List.mem_append_left _ (List.mem_of_getElem? (i := 18) rfl)))))
theorem mtX8_has : meX8_has ∈ sm_T := List.mem_append_right _ (List.mem_append_right _ (List.mem_append_right _ (List.mem_append_right _ (List.mem_append_left _ (List.mem_of_getElem? (i := 19) rfl)))))
theorem mtX8_changed : meX8_changed ∈ sm_T := List.mem_append_right _ (List.mem_append_right _ (List.mem_append_right _ (List.mem_append_right _ (List.mem_append_right _ (List.mem_append_left _ (List.mem_of_getElem? (i := 0) rfl))))))
theorem mtX8_isDay : meX8_isDay ∈ sm_T := List.mem_append_right _ (List.mem_append_right _ (List.mem_append_right _ (List.mem_append_right _ (List.mem_append_right _ (List.mem_append_left _ (List.mem_of_getElem? (i := 1) rfl))))))
theorem mtX8_isSet : meX8_isSet ∈ sm_T := List.mem_append_right _ (List.mem_append_right _ (List.mem_append_right _ (List.mem_append_right _ (List.mem_append_right _ (List.mem_append_left _ (List.mem_of_getElem? (i := 2) rfl))))))
theorem mtX8_day : meX8_day ∈ sm_T := List.mem_append_right _ (List.mem_append_right _ (List.mem_append_right _ (List.mem_append_right _ (List.mem_append_right _ (List.mem_append_left _ (List.mem_of_getElem? (i := 3) rfl))))))
theorem mtX8_isOf : meX8_isOf ∈ sm_T := List.mem_append_right _ (List.mem_append_right _ (List.mem_append_right _ (List.mem_append_right _ (List.mem_append_right _ (List.mem_append_left _ (List.mem_of_getElem? (i := 4) rfl))))))
theorem mtX8_alter : meX8_alter ∈ sm_T := List.mem_append_right _ (List.mem_append_right _ (List.mem_append_right _ (List.mem_append_right _ (List.mem_append_right _ (List.mem_append_left _ (List.mem_of_getElem? (i := 5) rfl))))))
theorem mtX8_told : meX8_told ∈ sm_T := List.mem_append_right _ (List.mem_append_right _ (List.mem_append_right _ (List.mem_append_right _ (List.mem_append_right _ (List.mem_append_left _ (List.mem_of_getElem? (i := 6) rfl))))))
theorem mtX8_strike : meX8_strike ∈ sm_T := List.mem_append_right _ (List.mem_append_right _ (List.mem_append_right _ (List.mem_append_right _ (List.mem_append_right _ (List.mem_append_left _ (List.mem_of_getElem? (i := 7) rfl))))))
theorem mtX8_set : meX8_set ∈ sm_T := List.mem_append_right _ (List.mem_append_right _ (List.mem_append_right _ (List.mem_append_right _ (List.mem_append_right _ (List.mem_append_left _ (List.mem_of_getElem? (i := 8) rfl))))))
theorem mtX8_type : meX8_type ∈ sm_T := List.mem_append_right _ (List.mem_append_right _ (List.mem_append_right _ (List.mem_append_right _ (List.mem_append_right _ (List.mem_append_left _ (List.mem_of_getElem? (i := 9) rfl))))))
theorem mtX8_look : meX8_look ∈ sm_T := List.mem_append_right _ (List.mem_append_right _ (List.mem_append_right _ (List.mem_append_right _ (List.mem_append_right _ (List.mem_append_left _ (List.mem_of_getElem? (i := 10) rfl))))))
theorem mtX8_takes : meX8_takes ∈ sm_T := List.mem_append_right _ (List.mem_append_right _ (List.mem_append_right _ (List.mem_append_right _ (List.mem_append_right _ (List.mem_append_left _ (List.mem_of_getElem? (i := 11) rfl))))))
theorem mtX8_takesDay : meX8_takesDay ∈ sm_T := List.mem_append_right _ (List.mem_append_right _ (List.mem_append_right _ (List.mem_append_right _ (List.mem_append_right _ (List.mem_append_left _ (List.mem_of_getElem? (i := 12) rfl))))))
theorem mtX8_year : meX8_year ∈ sm_T := List.mem_append_right _ (List.mem_append_right _ (List.mem_append_right _ (List.mem_append_right _ (List.mem_append_right _ (List.mem_append_left _ (List.mem_of_getElem? (i := 13) rfl))))))
theorem mtX8_count : meX8_count ∈ sm_T := List.mem_append_right _ (List.mem_append_right _ (List.mem_append_right _ (List.mem_append_right _ (List.mem_append_right _ (List.mem_append_left _ (List.mem_of_getElem? (i := 14) rfl))))))
theorem mtX8_lets : meX8_lets ∈ sm_T := List.mem_append_right _ (List.mem_append_right _ (List.mem_append_right _ (List.mem_append_right _ (List.mem_append_right _ (List.mem_append_left _ (List.mem_of_getElem? (i := 15) rfl))))))
theorem mtX8_minds : meX8_minds ∈ sm_T := List.mem_append_right _ (List.mem_append_right _ (List.mem_append_right _ (List.mem_append_right _ (List.mem_append_right _ (List.mem_append_left _ (List.mem_of_getElem? (i := 16) rfl))))))
theorem mtX8_mindedOn : meX8_mindedOn ∈ sm_T := List.mem_append_right _ (List.mem_append_right _ (List.mem_append_right _ (List.mem_append_right _ (List.mem_append_right _ (List.mem_append_left _ (List.mem_of_getElem? (i := 17) rfl))))))
theorem mtX8_may : meX8_may ∈ sm_T := List.mem_append_right _ (List.mem_append_right _ (List.mem_append_right _ (List.mem_append_right _ (List.mem_append_right _ (List.mem_append_left _ (List.mem_of_getElem? (i := 18) rfl))))))
theorem mtX8_wrongIn : meX8_wrongIn ∈ sm_T := List.mem_append_right _ (List.mem_append_right _ (List.mem_append_right _ (List.mem_append_right _ (List.mem_append_right _ (List.mem_append_left _ (List.mem_of_getElem? (i := 19) rfl))))))
theorem mtX8_lawful : meX8_lawful ∈ sm_T := List.mem_append_right _ (List.mem_append_right _ (List.mem_append_right _ (List.mem_append_right _ (List.mem_append_right _ (List.mem_append_right _ (List.mem_append_left _ (List.mem_of_getElem? (i := 0) rfl)))))))
theorem mtX8_wrong : meX8_wrong ∈ sm_T := List.mem_append_right _ (List.mem_append_right _ (List.mem_append_right _ (List.mem_append_right _ (List.mem_append_right _ (List.mem_append_right _ (List.mem_append_left _ (List.mem_of_getElem? (i := 1) rfl)))))))
theorem mtX8_trusts : meX8_trusts ∈ sm_T := List.mem_append_right _ (List.mem_append_right _ (List.mem_append_right _ (List.mem_append_right _ (List.mem_append_right _ (List.mem_append_right _ (List.mem_append_left _ (List.mem_of_getElem? (i := 2) rfl)))))))
theorem mtX8_brings : meX8_brings ∈ sm_T := List.mem_append_right _ (List.mem_append_right _ (List.mem_append_right _ (List.mem_append_right _ (List.mem_append_right _ (List.mem_append_right _ (List.mem_append_left _ (List.mem_of_getElem? (i := 3) rfl)))))))
theorem mtX8_gainOf : meX8_gainOf ∈ sm_T := List.mem_append_right _ (List.mem_append_right _ (List.mem_append_right _ (List.mem_append_right _ (List.mem_append_right _ (List.mem_append_right _ (List.mem_append_left _ (List.mem_of_getElem? (i := 4) rfl)))))))
theorem mtX8_gain : meX8_gain ∈ sm_T := List.mem_append_right _ (List.mem_append_right _ (List.mem_append_right _ (List.mem_append_right _ (List.mem_append_right _ (List.mem_append_right _ (List.mem_append_left _ (List.mem_of_getElem? (i := 5) rfl)))))))
theorem mtX8_trusted : meX8_trusted ∈ sm_T := List.mem_append_right _ (List.mem_append_right _ (List.mem_append_right _ (List.mem_append_right _ (List.mem_append_right _ (List.mem_append_right _ (List.mem_append_left _ (List.mem_of_getElem? (i := 6) rfl)))))))
theorem mtX8_place : meX8_place ∈ sm_T := List.mem_append_right _ (List.mem_append_right _ (List.mem_append_right _ (List.mem_append_right _ (List.mem_append_right _ (List.mem_append_right _ (List.mem_append_left _ (List.mem_of_getElem? (i := 7) rfl)))))))
theorem mtX8_from : meX8_from ∈ sm_T := List.mem_append_right _ (List.mem_append_right _ (List.mem_append_right _ (List.mem_append_right _ (List.mem_append_right _ (List.mem_append_right _ (List.mem_append_left _ (List.mem_of_getElem? (i := 8) rfl)))))))
theorem mtX8_mayLie : meX8_mayLie ∈ sm_T := List.mem_append_right _ (List.mem_append_right _ (List.mem_append_right _ (List.mem_append_right _ (List.mem_append_right _ (List.mem_append_right _ (List.mem_append_left _ (List.mem_of_getElem? (i := 9) rfl)))))))
theorem mtX8_harmNow : meX8_harmNow ∈ sm_T := List.mem_append_right _ (List.mem_append_right _ (List.mem_append_right _ (List.mem_append_right _ (List.mem_append_right _ (List.mem_append_right _ (List.mem_append_left _ (List.mem_of_getElem? (i := 10) rfl)))))))
theorem mtX8_harm : meX8_harm ∈ sm_T := List.mem_append_right _ (List.mem_append_right _ (List.mem_append_right _ (List.mem_append_right _ (List.mem_append_right _ (List.mem_append_right _ (List.mem_append_left _ (List.mem_of_getElem? (i := 11) rfl)))))))
theorem mtX8_worst : meX8_worst ∈ sm_T := List.mem_append_right _ (List.mem_append_right _ (List.mem_append_right _ (List.mem_append_right _ (List.mem_append_right _ (List.mem_append_right _ (List.mem_append_left _ (List.mem_of_getElem? (i := 12) rfl)))))))
theorem mtX8_best : meX8_best ∈ sm_T := List.mem_append_right _ (List.mem_append_right _ (List.mem_append_right _ (List.mem_append_right _ (List.mem_append_right _ (List.mem_append_right _ (List.mem_append_left _ (List.mem_of_getElem? (i := 13) rfl)))))))
theorem mtX8_price : meX8_price ∈ sm_T := List.mem_append_right _ (List.mem_append_right _ (List.mem_append_right _ (List.mem_append_right _ (List.mem_append_right _ (List.mem_append_right _ (List.mem_append_left _ (List.mem_of_getElem? (i := 14) rfl)))))))
theorem mtX8_under : meX8_under ∈ sm_T := List.mem_append_right _ (List.mem_append_right _ (List.mem_append_right _ (List.mem_append_right _ (List.mem_append_right _ (List.mem_append_right _ (List.mem_append_left _ (List.mem_of_getElem? (i := 15) rfl)))))))
theorem mtX8_sure : meX8_sure ∈ sm_T := List.mem_append_right _ (List.mem_append_right _ (List.mem_append_right _ (List.mem_append_right _ (List.mem_append_right _ (List.mem_append_right _ (List.mem_append_left _ (List.mem_of_getElem? (i := 16) rfl)))))))
theorem mtX8_bet : meX8_bet ∈ sm_T := List.mem_append_right _ (List.mem_append_right _ (List.mem_append_right _ (List.mem_append_right _ (List.mem_append_right _ (List.mem_append_right _ (List.mem_append_left _ (List.mem_of_getElem? (i := 17) rfl)))))))
theorem mtX8_setsOf : meX8_setsOf ∈ sm_T := List.mem_append_right _ (List.mem_append_right _ (List.mem_append_right _ (List.mem_append_right _ (List.mem_append_right _ (List.mem_append_right _ (List.mem_append_left _ (List.mem_of_getElem? (i := 18) rfl)))))))
theorem mtX8_areWords : meX8_areWords ∈ sm_T := List.mem_append_right _ (List.mem_append_right _ (List.mem_append_right _ (List.mem_append_right _ (List.mem_append_right _ (List.mem_append_right _ (List.mem_append_left _ (List.mem_of_getElem? (i := 19) rfl)))))))
theorem mtX8_sets : meX8_sets ∈ sm_T := List.mem_append_right _ (List.mem_append_right _ (List.mem_append_right _ (List.mem_append_right _ (List.mem_append_right _ (List.mem_append_right _ (List.mem_append_right _ ((List.mem_of_getElem? (i := 0) rfl))))))))
theorem mtX8_surely : meX8_surely ∈ sm_T := List.mem_append_right _ (List.mem_append_right _ (List.mem_append_right _ (List.mem_append_right _ (List.mem_append_right _ (List.mem_append_right _ (List.mem_append_right _ ((List.mem_of_getElem? (i := 1) rfl))))))))
theorem mtX8_lots : meX8_lots ∈ sm_T := List.mem_append_right _ (List.mem_append_right _ (List.mem_append_right _ (List.mem_append_right _ (List.mem_append_right _ (List.mem_append_right _ (List.mem_append_right _ ((List.mem_of_getElem? (i := 2) rfl))))))))
theorem mtX8_seed : meX8_seed ∈ sm_T := List.mem_append_right _ (List.mem_append_right _ (List.mem_append_right _ (List.mem_append_right _ (List.mem_append_right _ (List.mem_append_right _ (List.mem_append_right _ ((List.mem_of_getElem? (i := 3) rfl))))))))
theorem mtX8_image : meX8_image ∈ sm_T := List.mem_append_right _ (List.mem_append_right _ (List.mem_append_right _ (List.mem_append_right _ (List.mem_append_right _ (List.mem_append_right _ (List.mem_append_right _ ((List.mem_of_getElem? (i := 4) rfl))))))))
theorem mtX8_restore : meX8_restore ∈ sm_T := List.mem_append_right _ (List.mem_append_right _ (List.mem_append_right _ (List.mem_append_right _ (List.mem_append_right _ (List.mem_append_right _ (List.mem_append_right _ ((List.mem_of_getElem? (i := 5) rfl))))))))
theorem mtX8_isSheet : meX8_isSheet ∈ sm_T := List.mem_append_right _ (List.mem_append_right _ (List.mem_append_right _ (List.mem_append_right _ (List.mem_append_right _ (List.mem_append_right _ (List.mem_append_right _ ((List.mem_of_getElem? (i := 6) rfl))))))))
theorem mtX8_found : meX8_found ∈ sm_T := List.mem_append_right _ (List.mem_append_right _ (List.mem_append_right _ (List.mem_append_right _ (List.mem_append_right _ (List.mem_append_right _ (List.mem_append_right _ ((List.mem_of_getElem? (i := 7) rfl))))))))
theorem mtX8_judged : meX8_judged ∈ sm_T := List.mem_append_right _ (List.mem_append_right _ (List.mem_append_right _ (List.mem_append_right _ (List.mem_append_right _ (List.mem_append_right _ (List.mem_append_right _ ((List.mem_of_getElem? (i := 8) rfl))))))))
theorem mtX8_film : meX8_film ∈ sm_T := List.mem_append_right _ (List.mem_append_right _ (List.mem_append_right _ (List.mem_append_right _ (List.mem_append_right _ (List.mem_append_right _ (List.mem_append_right _ ((List.mem_of_getElem? (i := 9) rfl))))))))
theorem mtX8_sheet : meX8_sheet ∈ sm_T := List.mem_append_right _ (List.mem_append_right _ (List.mem_append_right _ (List.mem_append_right _ (List.mem_append_right _ (List.mem_append_right _ (List.mem_append_right _ ((List.mem_of_getElem? (i := 10) rfl))))))))
theorem mtX8_drop : meX8_drop ∈ sm_T := List.mem_append_right _ (List.mem_append_right _ (List.mem_append_right _ (List.mem_append_right _ (List.mem_append_right _ (List.mem_append_right _ (List.mem_append_right _ ((List.mem_of_getElem? (i := 11) rfl))))))))
theorem mtX8_item : meX8_item ∈ sm_T := List.mem_append_right _ (List.mem_append_right _ (List.mem_append_right _ (List.mem_append_right _ (List.mem_append_right _ (List.mem_append_right _ (List.mem_append_right _ ((List.mem_of_getElem? (i := 12) rfl))))))))
theorem mtX8_copy : meX8_copy ∈ sm_T := List.mem_append_right _ (List.mem_append_right _ (List.mem_append_right _ (List.mem_append_right _ (List.mem_append_right _ (List.mem_append_right _ (List.mem_append_right _ ((List.mem_of_getElem? (i := 13) rfl))))))))
theorem mtJ6_bitCount_0f7a4 : meJ6_bitCount_0f7a4 ∈ sm_T := List.mem_append_right _ (List.mem_append_right _ (List.mem_append_right _ (List.mem_append_right _ (List.mem_append_right _ (List.mem_append_right _ (List.mem_append_right _ ((List.mem_of_getElem? (i := 14) rfl))))))))
end
section
theorem dX0_has_0 : decode cX0_has 0 = .ok (.iload_n 1, 1) := by decide +kernel
theorem dX0_has_1 : decode cX0_has 1 = .ok (.ifCond .lt 15, 3) := by decide +kernel
theorem dX0_has_4 : decode cX0_has 4 = .ok (.iload_n 1, 1) := by decide +kernel
theorem dX0_has_5 : decode cX0_has 5 = .ok (.aload_n 0, 1) := by decide +kernel
theorem dX0_has_6 : decode cX0_has 6 = .ok (.getfield 15, 3) := by decide +kernel
theorem dX0_has_9 : decode cX0_has 9 = .ok (.if_icmp .ge 7, 3) := by decide +kernel
theorem dX0_has_12 : decode cX0_has 12 = .ok (.iconst 1, 1) := by decide +kernel
theorem dX0_has_13 : decode cX0_has 13 = .ok (.goto 4, 3) := by decide +kernel
theorem dX0_has_16 : decode cX0_has 16 = .ok (.iconst 0, 1) := by decide +kernel
theorem dX0_has_17 : decode cX0_has 17 = .ok (.ireturn, 1) := by decide +kernel
theorem dX0_hasAll_0 : decode cX0_hasAll 0 = .ok (.iload_n 1, 1) := by decide +kernel
theorem dX0_hasAll_1 : decode cX0_hasAll 1 = .ok (.aload_n 0, 1) := by decide +kernel
theorem dX0_hasAll_2 : decode cX0_hasAll 2 = .ok (.getfield 15, 3) := by decide +kernel
theorem dX0_hasAll_5 : decode cX0_hasAll 5 = .ok (.iushr, 1) := by decide +kernel
theorem dX0_hasAll_6 : decode cX0_hasAll 6 = .ok (.ifCond .ne 7, 3) := by decide +kernel
theorem dX0_hasAll_9 : decode cX0_hasAll 9 = .ok (.iconst 1, 1) := by decide +kernel
theorem dX0_hasAll_10 : decode cX0_hasAll 10 = .ok (.goto 4, 3) := by decide +kernel
theorem dX0_hasAll_13 : decode cX0_hasAll 13 = .ok (.iconst 0, 1) := by decide +kernel
theorem dX0_hasAll_14 : decode cX0_hasAll 14 = .ok (.ireturn, 1) := by decide +kernel
theorem dX0_isFull_0 : decode cX0_isFull 0 = .ok (.aload_n 0, 1) := by decide +kernel
theorem dX0_isFull_1 : decode cX0_isFull 1 = .ok (.getfield 15, 3) := by decide +kernel
theorem dX0_isFull_4 : decode cX0_isFull 4 = .ok (.bipush 28, 2) := by decide +kernel
theorem dX0_isFull_6 : decode cX0_isFull 6 = .ok (.if_icmp .lt 7, 3) := by decide +kernel
theorem dX0_isFull_9 : decode cX0_isFull 9 = .ok (.iconst 1, 1) := by decide +kernel
theorem dX0_isFull_10 : decode cX0_isFull 10 = .ok (.goto 4, 3) := by decide +kernel
theorem dX0_isFull_13 : decode cX0_isFull 13 = .ok (.iconst 0, 1) := by decide +kernel
theorem dX0_isFull_14 : decode cX0_isFull 14 = .ok (.ireturn, 1) := by decide +kernel
theorem dX0_tell_0 : decode cX0_tell 0 = .ok (.aload_n 0, 1) := by decide +kernel
theorem dX0_tell_1 : decode cX0_tell 1 = .ok (.getfield 9, 3) := by decide +kernel
theorem dX0_tell_4 : decode cX0_tell 4 = .ok (.iload_n 1, 1) := by decide +kernel
theorem dX0_tell_5 : decode cX0_tell 5 = .ok (.iconst 3, 1) := by decide +kernel
theorem dX0_tell_6 : decode cX0_tell 6 = .ok (.imul, 1) := by decide +kernel
theorem dX0_tell_7 : decode cX0_tell 7 = .ok (.iload_n 2, 1) := by decide +kernel
theorem dX0_tell_8 : decode cX0_tell 8 = .ok (.iadd, 1) := by decide +kernel
theorem dX0_tell_9 : decode cX0_tell 9 = .ok (.invokestatic 19, 3) := by decide +kernel
theorem dX0_tell_12 : decode cX0_tell 12 = .ok (.ireturn, 1) := by decide +kernel
theorem dX0_change_0 : decode cX0_change 0 = .ok (.aload_n 0, 1) := by decide +kernel
theorem dX0_change_1 : decode cX0_change 1 = .ok (.getfield 9, 3) := by decide +kernel
theorem dX0_change_4 : decode cX0_change 4 = .ok (.iload_n 1, 1) := by decide +kernel
theorem dX0_change_5 : decode cX0_change 5 = .ok (.iconst 3, 1) := by decide +kernel
theorem dX0_change_6 : decode cX0_change 6 = .ok (.imul, 1) := by decide +kernel
theorem dX0_change_7 : decode cX0_change 7 = .ok (.iload_n 2, 1) := by decide +kernel
theorem dX0_change_8 : decode cX0_change 8 = .ok (.iadd, 1) := by decide +kernel
theorem dX0_change_9 : decode cX0_change 9 = .ok (.iload_n 3, 1) := by decide +kernel
theorem dX0_change_10 : decode cX0_change 10 = .ok (.invokestatic 23, 3) := by decide +kernel
theorem dX0_change_13 : decode cX0_change 13 = .ok (.ireturn, 1) := by decide +kernel
theorem dX0_add_0 : decode cX0_add 0 = .ok (.aload_n 0, 1) := by decide +kernel
theorem dX0_add_1 : decode cX0_add 1 = .ok (.invokevirtual 27, 3) := by decide +kernel
theorem dX0_add_4 : decode cX0_add 4 = .ok (.ifCond .eq 6, 3) := by decide +kernel
theorem dX0_add_7 : decode cX0_add 7 = .ok (.bipush (-3), 2) := by decide +kernel
theorem dX0_add_9 : decode cX0_add 9 = .ok (.ireturn, 1) := by decide +kernel
theorem dX0_add_10 : decode cX0_add 10 = .ok (.aload_n 0, 1) := by decide +kernel
theorem dX0_add_11 : decode cX0_add 11 = .ok (.aload_n 0, 1) := by decide +kernel
theorem dX0_add_12 : decode cX0_add 12 = .ok (.getfield 15, 3) := by decide +kernel
theorem dX0_add_15 : decode cX0_add 15 = .ok (.iconst 0, 1) := by decide +kernel
theorem dX0_add_16 : decode cX0_add 16 = .ok (.iload_n 1, 1) := by decide +kernel
theorem dX0_add_17 : decode cX0_add 17 = .ok (.invokevirtual 31, 3) := by decide +kernel
theorem dX0_add_20 : decode cX0_add 20 = .ok (.pop, 1) := by decide +kernel
theorem dX0_add_21 : decode cX0_add 21 = .ok (.aload_n 0, 1) := by decide +kernel
theorem dX0_add_22 : decode cX0_add 22 = .ok (.aload_n 0, 1) := by decide +kernel
theorem dX0_add_23 : decode cX0_add 23 = .ok (.getfield 15, 3) := by decide +kernel
theorem dX0_add_26 : decode cX0_add 26 = .ok (.iconst 1, 1) := by decide +kernel
theorem dX0_add_27 : decode cX0_add 27 = .ok (.iload_n 2, 1) := by decide +kernel
theorem dX0_add_28 : decode cX0_add 28 = .ok (.invokevirtual 31, 3) := by decide +kernel
theorem dX0_add_31 : decode cX0_add 31 = .ok (.pop, 1) := by decide +kernel
theorem dX0_add_32 : decode cX0_add 32 = .ok (.aload_n 0, 1) := by decide +kernel
theorem dX0_add_33 : decode cX0_add 33 = .ok (.aload_n 0, 1) := by decide +kernel
theorem dX0_add_34 : decode cX0_add 34 = .ok (.getfield 15, 3) := by decide +kernel
theorem dX0_add_37 : decode cX0_add 37 = .ok (.iconst 2, 1) := by decide +kernel
theorem dX0_add_38 : decode cX0_add 38 = .ok (.iload_n 3, 1) := by decide +kernel
theorem dX0_add_39 : decode cX0_add 39 = .ok (.invokevirtual 31, 3) := by decide +kernel
theorem dX0_add_42 : decode cX0_add 42 = .ok (.pop, 1) := by decide +kernel
theorem dX0_add_43 : decode cX0_add 43 = .ok (.aload_n 0, 1) := by decide +kernel
theorem dX0_add_44 : decode cX0_add 44 = .ok (.dup, 1) := by decide +kernel
theorem dX0_add_45 : decode cX0_add 45 = .ok (.getfield 15, 3) := by decide +kernel
theorem dX0_add_48 : decode cX0_add 48 = .ok (.iconst 1, 1) := by decide +kernel
theorem dX0_add_49 : decode cX0_add 49 = .ok (.iadd, 1) := by decide +kernel
theorem dX0_add_50 : decode cX0_add 50 = .ok (.putfield 15, 3) := by decide +kernel
theorem dX0_add_53 : decode cX0_add 53 = .ok (.aload_n 0, 1) := by decide +kernel
theorem dX0_add_54 : decode cX0_add 54 = .ok (.getfield 15, 3) := by decide +kernel
theorem dX0_add_57 : decode cX0_add 57 = .ok (.iconst 1, 1) := by decide +kernel
theorem dX0_add_58 : decode cX0_add 58 = .ok (.isub, 1) := by decide +kernel
theorem dX0_add_59 : decode cX0_add 59 = .ok (.ireturn, 1) := by decide +kernel
theorem dX0_removeLast_0 : decode cX0_removeLast 0 = .ok (.aload_n 0, 1) := by decide +kernel
theorem dX0_removeLast_1 : decode cX0_removeLast 1 = .ok (.getfield 15, 3) := by decide +kernel
theorem dX0_removeLast_4 : decode cX0_removeLast 4 = .ok (.ifCond .gt 6, 3) := by decide +kernel
theorem dX0_removeLast_7 : decode cX0_removeLast 7 = .ok (.bipush (-4), 2) := by decide +kernel
theorem dX0_removeLast_9 : decode cX0_removeLast 9 = .ok (.ireturn, 1) := by decide +kernel
theorem dX0_removeLast_10 : decode cX0_removeLast 10 = .ok (.aload_n 0, 1) := by decide +kernel
theorem dX0_removeLast_11 : decode cX0_removeLast 11 = .ok (.dup, 1) := by decide +kernel
theorem dX0_removeLast_12 : decode cX0_removeLast 12 = .ok (.getfield 15, 3) := by decide +kernel
theorem dX0_removeLast_15 : decode cX0_removeLast 15 = .ok (.iconst 1, 1) := by decide +kernel
theorem dX0_removeLast_16 : decode cX0_removeLast 16 = .ok (.isub, 1) := by decide +kernel
theorem dX0_removeLast_17 : decode cX0_removeLast 17 = .ok (.putfield 15, 3) := by decide +kernel
theorem dX0_removeLast_20 : decode cX0_removeLast 20 = .ok (.aload_n 0, 1) := by decide +kernel
theorem dX0_removeLast_21 : decode cX0_removeLast 21 = .ok (.getfield 15, 3) := by decide +kernel
theorem dX0_removeLast_24 : decode cX0_removeLast 24 = .ok (.ireturn, 1) := by decide +kernel
theorem dX0_empty_0 : decode cX0_empty 0 = .ok (.aload_n 0, 1) := by decide +kernel
theorem dX0_empty_1 : decode cX0_empty 1 = .ok (.iconst 0, 1) := by decide +kernel
theorem dX0_empty_2 : decode cX0_empty 2 = .ok (.putfield 15, 3) := by decide +kernel
theorem dX0_empty_5 : decode cX0_empty 5 = .ok (.return_, 1) := by decide +kernel
theorem dX0_become_0 : decode cX0_become 0 = .ok (.aload_n 1, 1) := by decide +kernel
theorem dX0_become_1 : decode cX0_become 1 = .ok (.getfield 9, 3) := by decide +kernel
theorem dX0_become_4 : decode cX0_become 4 = .ok (.iconst 0, 1) := by decide +kernel
theorem dX0_become_5 : decode cX0_become 5 = .ok (.aload_n 0, 1) := by decide +kernel
theorem dX0_become_6 : decode cX0_become 6 = .ok (.getfield 9, 3) := by decide +kernel
theorem dX0_become_9 : decode cX0_become 9 = .ok (.iconst 0, 1) := by decide +kernel
theorem dX0_become_10 : decode cX0_become 10 = .ok (.aload_n 0, 1) := by decide +kernel
theorem dX0_become_11 : decode cX0_become 11 = .ok (.getfield 9, 3) := by decide +kernel
theorem dX0_become_14 : decode cX0_become 14 = .ok (.arraylength, 1) := by decide +kernel
theorem dX0_become_15 : decode cX0_become 15 = .ok (.invokestatic 35, 3) := by decide +kernel
theorem dX0_become_18 : decode cX0_become 18 = .ok (.aload_n 0, 1) := by decide +kernel
theorem dX0_become_19 : decode cX0_become 19 = .ok (.aload_n 1, 1) := by decide +kernel
theorem dX0_become_20 : decode cX0_become 20 = .ok (.getfield 15, 3) := by decide +kernel
theorem dX0_become_23 : decode cX0_become 23 = .ok (.putfield 15, 3) := by decide +kernel
theorem dX0_become_26 : decode cX0_become 26 = .ok (.return_, 1) := by decide +kernel
theorem dX0_hasNews_0 : decode cX0_hasNews 0 = .ok (.aload_n 0, 1) := by decide +kernel
theorem dX0_hasNews_1 : decode cX0_hasNews 1 = .ok (.getfield 9, 3) := by decide +kernel
theorem dX0_hasNews_4 : decode cX0_hasNews 4 = .ok (.iload_n 1, 1) := by decide +kernel
theorem dX0_hasNews_5 : decode cX0_hasNews 5 = .ok (.iconst 3, 1) := by decide +kernel
theorem dX0_hasNews_6 : decode cX0_hasNews 6 = .ok (.imul, 1) := by decide +kernel
theorem dX0_hasNews_7 : decode cX0_hasNews 7 = .ok (.iconst 0, 1) := by decide +kernel
theorem dX0_hasNews_8 : decode cX0_hasNews 8 = .ok (.iadd, 1) := by decide +kernel
theorem dX0_hasNews_9 : decode cX0_hasNews 9 = .ok (.invokestatic 19, 3) := by decide +kernel
theorem dX0_hasNews_12 : decode cX0_hasNews 12 = .ok (.iconst 1, 1) := by decide +kernel
theorem dX0_hasNews_13 : decode cX0_hasNews 13 = .ok (.if_icmp .ne 7, 3) := by decide +kernel
theorem dX0_hasNews_16 : decode cX0_hasNews 16 = .ok (.iconst 1, 1) := by decide +kernel
theorem dX0_hasNews_17 : decode cX0_hasNews 17 = .ok (.goto 4, 3) := by decide +kernel
theorem dX0_hasNews_20 : decode cX0_hasNews 20 = .ok (.iconst 0, 1) := by decide +kernel
theorem dX0_hasNews_21 : decode cX0_hasNews 21 = .ok (.ireturn, 1) := by decide +kernel
theorem dX0_manyWithNews_0 : decode cX0_manyWithNews 0 = .ok (.iconst 0, 1) := by decide +kernel
theorem dX0_manyWithNews_1 : decode cX0_manyWithNews 1 = .ok (.istore_n 1, 1) := by decide +kernel
theorem dX0_manyWithNews_2 : decode cX0_manyWithNews 2 = .ok (.iconst 0, 1) := by decide +kernel
theorem dX0_manyWithNews_3 : decode cX0_manyWithNews 3 = .ok (.istore_n 2, 1) := by decide +kernel
theorem dX0_manyWithNews_4 : decode cX0_manyWithNews 4 = .ok (.iload_n 2, 1) := by decide +kernel
theorem dX0_manyWithNews_5 : decode cX0_manyWithNews 5 = .ok (.aload_n 0, 1) := by decide +kernel
theorem dX0_manyWithNews_6 : decode cX0_manyWithNews 6 = .ok (.getfield 15, 3) := by decide +kernel
theorem dX0_manyWithNews_9 : decode cX0_manyWithNews 9 = .ok (.if_icmp .ge 18, 3) := by decide +kernel
theorem dX0_manyWithNews_12 : decode cX0_manyWithNews 12 = .ok (.iload_n 1, 1) := by decide +kernel
theorem dX0_manyWithNews_13 : decode cX0_manyWithNews 13 = .ok (.aload_n 0, 1) := by decide +kernel
theorem dX0_manyWithNews_14 : decode cX0_manyWithNews 14 = .ok (.iload_n 2, 1) := by decide +kernel
theorem dX0_manyWithNews_15 : decode cX0_manyWithNews 15 = .ok (.iconst 0, 1) := by decide +kernel
theorem dX0_manyWithNews_16 : decode cX0_manyWithNews 16 = .ok (.invokevirtual 41, 3) := by decide +kernel
theorem dX0_manyWithNews_19 : decode cX0_manyWithNews 19 = .ok (.iadd, 1) := by decide +kernel
theorem dX0_manyWithNews_20 : decode cX0_manyWithNews 20 = .ok (.istore_n 1, 1) := by decide +kernel
theorem dX0_manyWithNews_21 : decode cX0_manyWithNews 21 = .ok (.iinc 2 1, 3) := by decide +kernel
theorem dX0_manyWithNews_24 : decode cX0_manyWithNews 24 = .ok (.goto (-20), 3) := by decide +kernel
theorem dX0_manyWithNews_27 : decode cX0_manyWithNews 27 = .ok (.iload_n 1, 1) := by decide +kernel
theorem dX0_manyWithNews_28 : decode cX0_manyWithNews 28 = .ok (.ireturn, 1) := by decide +kernel
theorem dX0_sumOf_0 : decode cX0_sumOf 0 = .ok (.iconst 0, 1) := by decide +kernel
theorem dX0_sumOf_1 : decode cX0_sumOf 1 = .ok (.istore_n 3, 1) := by decide +kernel
theorem dX0_sumOf_2 : decode cX0_sumOf 2 = .ok (.iconst 0, 1) := by decide +kernel
theorem dX0_sumOf_3 : decode cX0_sumOf 3 = .ok (.istore 4, 2) := by decide +kernel
theorem dX0_sumOf_5 : decode cX0_sumOf 5 = .ok (.iload 4, 2) := by decide +kernel
theorem dX0_sumOf_7 : decode cX0_sumOf 7 = .ok (.aload_n 0, 1) := by decide +kernel
theorem dX0_sumOf_8 : decode cX0_sumOf 8 = .ok (.getfield 15, 3) := by decide +kernel
theorem dX0_sumOf_11 : decode cX0_sumOf 11 = .ok (.if_icmp .ge 34, 3) := by decide +kernel
theorem dX0_sumOf_14 : decode cX0_sumOf 14 = .ok (.iload_n 3, 1) := by decide +kernel
theorem dX0_sumOf_15 : decode cX0_sumOf 15 = .ok (.aload_n 0, 1) := by decide +kernel
theorem dX0_sumOf_16 : decode cX0_sumOf 16 = .ok (.iload 4, 2) := by decide +kernel
theorem dX0_sumOf_18 : decode cX0_sumOf 18 = .ok (.iconst 0, 1) := by decide +kernel
theorem dX0_sumOf_19 : decode cX0_sumOf 19 = .ok (.invokevirtual 41, 3) := by decide +kernel
theorem dX0_sumOf_22 : decode cX0_sumOf 22 = .ok (.iload_n 2, 1) := by decide +kernel
theorem dX0_sumOf_23 : decode cX0_sumOf 23 = .ok (.if_icmp .ne 13, 3) := by decide +kernel
theorem dX0_sumOf_26 : decode cX0_sumOf 26 = .ok (.aload_n 0, 1) := by decide +kernel
theorem dX0_sumOf_27 : decode cX0_sumOf 27 = .ok (.iload 4, 2) := by decide +kernel
theorem dX0_sumOf_29 : decode cX0_sumOf 29 = .ok (.iload_n 1, 1) := by decide +kernel
theorem dX0_sumOf_30 : decode cX0_sumOf 30 = .ok (.invokevirtual 41, 3) := by decide +kernel
theorem dX0_sumOf_33 : decode cX0_sumOf 33 = .ok (.goto 4, 3) := by decide +kernel
theorem dX0_sumOf_36 : decode cX0_sumOf 36 = .ok (.iconst 0, 1) := by decide +kernel
theorem dX0_sumOf_37 : decode cX0_sumOf 37 = .ok (.iadd, 1) := by decide +kernel
theorem dX0_sumOf_38 : decode cX0_sumOf 38 = .ok (.istore_n 3, 1) := by decide +kernel
theorem dX0_sumOf_39 : decode cX0_sumOf 39 = .ok (.iinc 4 1, 3) := by decide +kernel
theorem dX0_sumOf_42 : decode cX0_sumOf 42 = .ok (.goto (-37), 3) := by decide +kernel
theorem dX0_sumOf_45 : decode cX0_sumOf 45 = .ok (.iload_n 3, 1) := by decide +kernel
theorem dX0_sumOf_46 : decode cX0_sumOf 46 = .ok (.ireturn, 1) := by decide +kernel
theorem dX0_isTrusted_0 : decode cX0_isTrusted 0 = .ok (.bipush 8, 2) := by decide +kernel
theorem dX0_isTrusted_2 : decode cX0_isTrusted 2 = .ok (.iload_n 2, 1) := by decide +kernel
theorem dX0_isTrusted_3 : decode cX0_isTrusted 3 = .ok (.imul, 1) := by decide +kernel
theorem dX0_isTrusted_4 : decode cX0_isTrusted 4 = .ok (.iload_n 3, 1) := by decide +kernel
theorem dX0_isTrusted_5 : decode cX0_isTrusted 5 = .ok (.aload_n 0, 1) := by decide +kernel
theorem dX0_isTrusted_6 : decode cX0_isTrusted 6 = .ok (.getfield 15, 3) := by decide +kernel
theorem dX0_isTrusted_9 : decode cX0_isTrusted 9 = .ok (.iload_n 1, 1) := by decide +kernel
theorem dX0_isTrusted_10 : decode cX0_isTrusted 10 = .ok (.isub, 1) := by decide +kernel
theorem dX0_isTrusted_11 : decode cX0_isTrusted 11 = .ok (.imul, 1) := by decide +kernel
theorem dX0_isTrusted_12 : decode cX0_isTrusted 12 = .ok (.if_icmp .gt 7, 3) := by decide +kernel
theorem dX0_isTrusted_15 : decode cX0_isTrusted 15 = .ok (.iconst 1, 1) := by decide +kernel
theorem dX0_isTrusted_16 : decode cX0_isTrusted 16 = .ok (.goto 4, 3) := by decide +kernel
theorem dX0_isTrusted_19 : decode cX0_isTrusted 19 = .ok (.iconst 0, 1) := by decide +kernel
theorem dX0_isTrusted_20 : decode cX0_isTrusted 20 = .ok (.ireturn, 1) := by decide +kernel
theorem dX0_courtHas_0 : decode cX0_courtHas 0 = .ok (.aload_n 0, 1) := by decide +kernel
theorem dX0_courtHas_1 : decode cX0_courtHas 1 = .ok (.iload_n 1, 1) := by decide +kernel
theorem dX0_courtHas_2 : decode cX0_courtHas 2 = .ok (.iload_n 3, 1) := by decide +kernel
theorem dX0_courtHas_3 : decode cX0_courtHas 3 = .ok (.iload 4, 2) := by decide +kernel
theorem dX0_courtHas_5 : decode cX0_courtHas 5 = .ok (.invokevirtual 45, 3) := by decide +kernel
theorem dX0_courtHas_8 : decode cX0_courtHas 8 = .ok (.ifCond .ne 5, 3) := by decide +kernel
theorem dX0_courtHas_11 : decode cX0_courtHas 11 = .ok (.iconst 0, 1) := by decide +kernel
theorem dX0_courtHas_12 : decode cX0_courtHas 12 = .ok (.ireturn, 1) := by decide +kernel
theorem dX0_courtHas_13 : decode cX0_courtHas 13 = .ok (.aload_n 0, 1) := by decide +kernel
theorem dX0_courtHas_14 : decode cX0_courtHas 14 = .ok (.iload_n 1, 1) := by decide +kernel
theorem dX0_courtHas_15 : decode cX0_courtHas 15 = .ok (.invokevirtual 49, 3) := by decide +kernel
theorem dX0_courtHas_18 : decode cX0_courtHas 18 = .ok (.ifCond .eq 10, 3) := by decide +kernel
theorem dX0_courtHas_21 : decode cX0_courtHas 21 = .ok (.aload_n 0, 1) := by decide +kernel
theorem dX0_courtHas_22 : decode cX0_courtHas 22 = .ok (.iload_n 1, 1) := by decide +kernel
theorem dX0_courtHas_23 : decode cX0_courtHas 23 = .ok (.iconst 1, 1) := by decide +kernel
theorem dX0_courtHas_24 : decode cX0_courtHas 24 = .ok (.invokevirtual 41, 3) := by decide +kernel
theorem dX0_courtHas_27 : decode cX0_courtHas 27 = .ok (.ireturn, 1) := by decide +kernel
theorem dX0_courtHas_28 : decode cX0_courtHas 28 = .ok (.iload_n 2, 1) := by decide +kernel
theorem dX0_courtHas_29 : decode cX0_courtHas 29 = .ok (.ifCond .eq 13, 3) := by decide +kernel
theorem dX0_courtHas_32 : decode cX0_courtHas 32 = .ok (.aload_n 0, 1) := by decide +kernel
theorem dX0_courtHas_33 : decode cX0_courtHas 33 = .ok (.iload_n 1, 1) := by decide +kernel
theorem dX0_courtHas_34 : decode cX0_courtHas 34 = .ok (.iconst 2, 1) := by decide +kernel
theorem dX0_courtHas_35 : decode cX0_courtHas 35 = .ok (.invokevirtual 41, 3) := by decide +kernel
theorem dX0_courtHas_38 : decode cX0_courtHas 38 = .ok (.ineg, 1) := by decide +kernel
theorem dX0_courtHas_39 : decode cX0_courtHas 39 = .ok (.goto 4, 3) := by decide +kernel
theorem dX0_courtHas_42 : decode cX0_courtHas 42 = .ok (.iconst 0, 1) := by decide +kernel
theorem dX0_courtHas_43 : decode cX0_courtHas 43 = .ok (.ireturn, 1) := by decide +kernel
theorem dX1_reckon_0 : decode cX1_reckon 0 = .ok (.iconst 0, 1) := by decide +kernel
theorem dX1_reckon_1 : decode cX1_reckon 1 = .ok (.istore 5, 2) := by decide +kernel
theorem dX1_reckon_3 : decode cX1_reckon 3 = .ok (.iload 5, 2) := by decide +kernel
theorem dX1_reckon_5 : decode cX1_reckon 5 = .ok (.iload_n 3, 1) := by decide +kernel
theorem dX1_reckon_6 : decode cX1_reckon 6 = .ok (.if_icmp .gt 30, 3) := by decide +kernel
theorem dX1_reckon_9 : decode cX1_reckon 9 = .ok (.iload 5, 2) := by decide +kernel
theorem dX1_reckon_11 : decode cX1_reckon 11 = .ok (.bipush 9, 2) := by decide +kernel
theorem dX1_reckon_13 : decode cX1_reckon 13 = .ok (.if_icmp .gt 23, 3) := by decide +kernel
theorem dX1_reckon_16 : decode cX1_reckon 16 = .ok (.aload_n 0, 1) := by decide +kernel
theorem dX1_reckon_17 : decode cX1_reckon 17 = .ok (.getfield 12, 3) := by decide +kernel
theorem dX1_reckon_20 : decode cX1_reckon 20 = .ok (.aload_n 1, 1) := by decide +kernel
theorem dX1_reckon_21 : decode cX1_reckon 21 = .ok (.getfield 18, 3) := by decide +kernel
theorem dX1_reckon_24 : decode cX1_reckon 24 = .ok (.iload 5, 2) := by decide +kernel
theorem dX1_reckon_26 : decode cX1_reckon 26 = .ok (.iconst 0, 1) := by decide +kernel
theorem dX1_reckon_27 : decode cX1_reckon 27 = .ok (.invokevirtual 24, 3) := by decide +kernel
theorem dX1_reckon_30 : decode cX1_reckon 30 = .ok (.iinc 5 1, 3) := by decide +kernel
theorem dX1_reckon_33 : decode cX1_reckon 33 = .ok (.goto (-30), 3) := by decide +kernel
theorem dX1_reckon_36 : decode cX1_reckon 36 = .ok (.aload_n 1, 1) := by decide +kernel
theorem dX1_reckon_37 : decode cX1_reckon 37 = .ok (.getfield 18, 3) := by decide +kernel
theorem dX1_reckon_40 : decode cX1_reckon 40 = .ok (.iconst 1, 1) := by decide +kernel
theorem dX1_reckon_41 : decode cX1_reckon 41 = .ok (.isub, 1) := by decide +kernel
theorem dX1_reckon_42 : decode cX1_reckon 42 = .ok (.istore 5, 2) := by decide +kernel
theorem dX1_reckon_44 : decode cX1_reckon 44 = .ok (.iload 5, 2) := by decide +kernel
theorem dX1_reckon_46 : decode cX1_reckon 46 = .ok (.ifCond .lt 68, 3) := by decide +kernel
theorem dX1_reckon_49 : decode cX1_reckon 49 = .ok (.iconst 0, 1) := by decide +kernel
theorem dX1_reckon_50 : decode cX1_reckon 50 = .ok (.istore 6, 2) := by decide +kernel
theorem dX1_reckon_52 : decode cX1_reckon 52 = .ok (.iload 6, 2) := by decide +kernel
theorem dX1_reckon_54 : decode cX1_reckon 54 = .ok (.iload_n 3, 1) := by decide +kernel
theorem dX1_reckon_55 : decode cX1_reckon 55 = .ok (.if_icmp .gt 53, 3) := by decide +kernel
theorem dX1_reckon_58 : decode cX1_reckon 58 = .ok (.iload 6, 2) := by decide +kernel
theorem dX1_reckon_60 : decode cX1_reckon 60 = .ok (.bipush 9, 2) := by decide +kernel
theorem dX1_reckon_62 : decode cX1_reckon 62 = .ok (.if_icmp .gt 46, 3) := by decide +kernel
theorem dX1_reckon_65 : decode cX1_reckon 65 = .ok (.aload_n 0, 1) := by decide +kernel
theorem dX1_reckon_66 : decode cX1_reckon 66 = .ok (.getfield 12, 3) := by decide +kernel
theorem dX1_reckon_69 : decode cX1_reckon 69 = .ok (.iload 5, 2) := by decide +kernel
theorem dX1_reckon_71 : decode cX1_reckon 71 = .ok (.iload 6, 2) := by decide +kernel
theorem dX1_reckon_73 : decode cX1_reckon 73 = .ok (.aload_n 0, 1) := by decide +kernel
theorem dX1_reckon_74 : decode cX1_reckon 74 = .ok (.aload_n 1, 1) := by decide +kernel
theorem dX1_reckon_75 : decode cX1_reckon 75 = .ok (.iload 5, 2) := by decide +kernel
theorem dX1_reckon_77 : decode cX1_reckon 77 = .ok (.iload 6, 2) := by decide +kernel
theorem dX1_reckon_79 : decode cX1_reckon 79 = .ok (.iload 4, 2) := by decide +kernel
theorem dX1_reckon_81 : decode cX1_reckon 81 = .ok (.invokevirtual 28, 3) := by decide +kernel
theorem dX1_reckon_84 : decode cX1_reckon 84 = .ok (.aload_n 0, 1) := by decide +kernel
theorem dX1_reckon_85 : decode cX1_reckon 85 = .ok (.aload_n 1, 1) := by decide +kernel
theorem dX1_reckon_86 : decode cX1_reckon 86 = .ok (.iload_n 2, 1) := by decide +kernel
theorem dX1_reckon_87 : decode cX1_reckon 87 = .ok (.iload 5, 2) := by decide +kernel
theorem dX1_reckon_89 : decode cX1_reckon 89 = .ok (.iload 6, 2) := by decide +kernel
theorem dX1_reckon_91 : decode cX1_reckon 91 = .ok (.iload 4, 2) := by decide +kernel
theorem dX1_reckon_93 : decode cX1_reckon 93 = .ok (.invokevirtual 32, 3) := by decide +kernel
theorem dX1_reckon_96 : decode cX1_reckon 96 = .ok (.invokestatic 36, 3) := by decide +kernel
theorem dX1_reckon_99 : decode cX1_reckon 99 = .ok (.invokevirtual 24, 3) := by decide +kernel
theorem dX1_reckon_102 : decode cX1_reckon 102 = .ok (.iinc 6 1, 3) := by decide +kernel
theorem dX1_reckon_105 : decode cX1_reckon 105 = .ok (.goto (-53), 3) := by decide +kernel
theorem dX1_reckon_108 : decode cX1_reckon 108 = .ok (.iinc 5 (-1), 3) := by decide +kernel
theorem dX1_reckon_111 : decode cX1_reckon 111 = .ok (.goto (-67), 3) := by decide +kernel
theorem dX1_reckon_114 : decode cX1_reckon 114 = .ok (.aload_n 0, 1) := by decide +kernel
theorem dX1_reckon_115 : decode cX1_reckon 115 = .ok (.getfield 12, 3) := by decide +kernel
theorem dX1_reckon_118 : decode cX1_reckon 118 = .ok (.iconst 0, 1) := by decide +kernel
theorem dX1_reckon_119 : decode cX1_reckon 119 = .ok (.iload_n 3, 1) := by decide +kernel
theorem dX1_reckon_120 : decode cX1_reckon 120 = .ok (.invokevirtual 42, 3) := by decide +kernel
theorem dX1_reckon_123 : decode cX1_reckon 123 = .ok (.ireturn, 1) := by decide +kernel
theorem dX1_worstSet_0 : decode cX1_worstSet 0 = .ok (.aload_n 0, 1) := by decide +kernel
theorem dX1_worstSet_1 : decode cX1_worstSet 1 = .ok (.aload_n 1, 1) := by decide +kernel
theorem dX1_worstSet_2 : decode cX1_worstSet 2 = .ok (.iload_n 2, 1) := by decide +kernel
theorem dX1_worstSet_3 : decode cX1_worstSet 3 = .ok (.iload_n 3, 1) := by decide +kernel
theorem dX1_worstSet_4 : decode cX1_worstSet 4 = .ok (.iload 4, 2) := by decide +kernel
theorem dX1_worstSet_6 : decode cX1_worstSet 6 = .ok (.invokevirtual 45, 3) := by decide +kernel
theorem dX1_worstSet_9 : decode cX1_worstSet 9 = .ok (.pop, 1) := by decide +kernel
theorem dX1_worstSet_10 : decode cX1_worstSet 10 = .ok (.iconst 0, 1) := by decide +kernel
theorem dX1_worstSet_11 : decode cX1_worstSet 11 = .ok (.istore 5, 2) := by decide +kernel
theorem dX1_worstSet_13 : decode cX1_worstSet 13 = .ok (.iconst 0, 1) := by decide +kernel
theorem dX1_worstSet_14 : decode cX1_worstSet 14 = .ok (.istore 6, 2) := by decide +kernel
theorem dX1_worstSet_16 : decode cX1_worstSet 16 = .ok (.iload_n 3, 1) := by decide +kernel
theorem dX1_worstSet_17 : decode cX1_worstSet 17 = .ok (.istore 7, 2) := by decide +kernel
theorem dX1_worstSet_19 : decode cX1_worstSet 19 = .ok (.iconst 0, 1) := by decide +kernel
theorem dX1_worstSet_20 : decode cX1_worstSet 20 = .ok (.istore 8, 2) := by decide +kernel
theorem dX1_worstSet_22 : decode cX1_worstSet 22 = .ok (.iload 8, 2) := by decide +kernel
theorem dX1_worstSet_24 : decode cX1_worstSet 24 = .ok (.aload_n 1, 1) := by decide +kernel
theorem dX1_worstSet_25 : decode cX1_worstSet 25 = .ok (.getfield 18, 3) := by decide +kernel
theorem dX1_worstSet_28 : decode cX1_worstSet 28 = .ok (.if_icmp .ge 61, 3) := by decide +kernel
theorem dX1_worstSet_31 : decode cX1_worstSet 31 = .ok (.iload 8, 2) := by decide +kernel
theorem dX1_worstSet_33 : decode cX1_worstSet 33 = .ok (.iload 6, 2) := by decide +kernel
theorem dX1_worstSet_35 : decode cX1_worstSet 35 = .ok (.if_icmp .lt 48, 3) := by decide +kernel
theorem dX1_worstSet_38 : decode cX1_worstSet 38 = .ok (.aload_n 0, 1) := by decide +kernel
theorem dX1_worstSet_39 : decode cX1_worstSet 39 = .ok (.aload_n 1, 1) := by decide +kernel
theorem dX1_worstSet_40 : decode cX1_worstSet 40 = .ok (.iload 8, 2) := by decide +kernel
theorem dX1_worstSet_42 : decode cX1_worstSet 42 = .ok (.iload 7, 2) := by decide +kernel
theorem dX1_worstSet_44 : decode cX1_worstSet 44 = .ok (.iload 4, 2) := by decide +kernel
theorem dX1_worstSet_46 : decode cX1_worstSet 46 = .ok (.invokevirtual 28, 3) := by decide +kernel
theorem dX1_worstSet_49 : decode cX1_worstSet 49 = .ok (.aload_n 0, 1) := by decide +kernel
theorem dX1_worstSet_50 : decode cX1_worstSet 50 = .ok (.getfield 12, 3) := by decide +kernel
theorem dX1_worstSet_53 : decode cX1_worstSet 53 = .ok (.iload 8, 2) := by decide +kernel
theorem dX1_worstSet_55 : decode cX1_worstSet 55 = .ok (.iload 7, 2) := by decide +kernel
theorem dX1_worstSet_57 : decode cX1_worstSet 57 = .ok (.invokevirtual 42, 3) := by decide +kernel
theorem dX1_worstSet_60 : decode cX1_worstSet 60 = .ok (.if_icmp .le 23, 3) := by decide +kernel
theorem dX1_worstSet_63 : decode cX1_worstSet 63 = .ok (.iload 5, 2) := by decide +kernel
theorem dX1_worstSet_65 : decode cX1_worstSet 65 = .ok (.iconst 1, 1) := by decide +kernel
theorem dX1_worstSet_66 : decode cX1_worstSet 66 = .ok (.iload 8, 2) := by decide +kernel
theorem dX1_worstSet_68 : decode cX1_worstSet 68 = .ok (.ishl, 1) := by decide +kernel
theorem dX1_worstSet_69 : decode cX1_worstSet 69 = .ok (.ior, 1) := by decide +kernel
theorem dX1_worstSet_70 : decode cX1_worstSet 70 = .ok (.istore 5, 2) := by decide +kernel
theorem dX1_worstSet_72 : decode cX1_worstSet 72 = .ok (.iinc 7 (-1), 3) := by decide +kernel
theorem dX1_worstSet_75 : decode cX1_worstSet 75 = .ok (.iload_n 2, 1) := by decide +kernel
theorem dX1_worstSet_76 : decode cX1_worstSet 76 = .ok (.iload 8, 2) := by decide +kernel
theorem dX1_worstSet_78 : decode cX1_worstSet 78 = .ok (.invokestatic 48, 3) := by decide +kernel
theorem dX1_worstSet_81 : decode cX1_worstSet 81 = .ok (.istore 6, 2) := by decide +kernel
theorem dX1_worstSet_83 : decode cX1_worstSet 83 = .ok (.iinc 8 1, 3) := by decide +kernel
theorem dX1_worstSet_86 : decode cX1_worstSet 86 = .ok (.goto (-64), 3) := by decide +kernel
theorem dX1_worstSet_89 : decode cX1_worstSet 89 = .ok (.iload 5, 2) := by decide +kernel
theorem dX1_worstSet_91 : decode cX1_worstSet 91 = .ok (.ireturn, 1) := by decide +kernel
theorem dX1_silent_0 : decode cX1_silent 0 = .ok (.aload_n 1, 1) := by decide +kernel
theorem dX1_silent_1 : decode cX1_silent 1 = .ok (.iload_n 2, 1) := by decide +kernel
theorem dX1_silent_2 : decode cX1_silent 2 = .ok (.iconst 0, 1) := by decide +kernel
theorem dX1_silent_3 : decode cX1_silent 3 = .ok (.iload_n 3, 1) := by decide +kernel
theorem dX1_silent_4 : decode cX1_silent 4 = .ok (.iload 4, 2) := by decide +kernel
theorem dX1_silent_6 : decode cX1_silent 6 = .ok (.invokevirtual 51, 3) := by decide +kernel
theorem dX1_silent_9 : decode cX1_silent 9 = .ok (.aload_n 0, 1) := by decide +kernel
theorem dX1_silent_10 : decode cX1_silent 10 = .ok (.getfield 12, 3) := by decide +kernel
theorem dX1_silent_13 : decode cX1_silent 13 = .ok (.iload_n 2, 1) := by decide +kernel
theorem dX1_silent_14 : decode cX1_silent 14 = .ok (.iconst 1, 1) := by decide +kernel
theorem dX1_silent_15 : decode cX1_silent 15 = .ok (.iadd, 1) := by decide +kernel
theorem dX1_silent_16 : decode cX1_silent 16 = .ok (.iload_n 3, 1) := by decide +kernel
theorem dX1_silent_17 : decode cX1_silent 17 = .ok (.invokevirtual 42, 3) := by decide +kernel
theorem dX1_silent_20 : decode cX1_silent 20 = .ok (.iadd, 1) := by decide +kernel
theorem dX1_silent_21 : decode cX1_silent 21 = .ok (.ireturn, 1) := by decide +kernel
theorem dX1_lying_0 : decode cX1_lying 0 = .ok (.iload 4, 2) := by decide +kernel
theorem dX1_lying_2 : decode cX1_lying 2 = .ok (.ifCond .le 19, 3) := by decide +kernel
theorem dX1_lying_5 : decode cX1_lying 5 = .ok (.aload_n 1, 1) := by decide +kernel
theorem dX1_lying_6 : decode cX1_lying 6 = .ok (.iload_n 3, 1) := by decide +kernel
theorem dX1_lying_7 : decode cX1_lying 7 = .ok (.invokevirtual 55, 3) := by decide +kernel
theorem dX1_lying_10 : decode cX1_lying 10 = .ok (.ifCond .ne 11, 3) := by decide +kernel
theorem dX1_lying_13 : decode cX1_lying 13 = .ok (.iload_n 2, 1) := by decide +kernel
theorem dX1_lying_14 : decode cX1_lying 14 = .ok (.iload_n 3, 1) := by decide +kernel
theorem dX1_lying_15 : decode cX1_lying 15 = .ok (.invokestatic 59, 3) := by decide +kernel
theorem dX1_lying_18 : decode cX1_lying 18 = .ok (.ifCond .ne 6, 3) := by decide +kernel
theorem dX1_lying_21 : decode cX1_lying 21 = .ok (.ldc 63, 2) := by decide +kernel
theorem dX1_lying_23 : decode cX1_lying 23 = .ok (.ireturn, 1) := by decide +kernel
theorem dX1_lying_24 : decode cX1_lying 24 = .ok (.aload_n 1, 1) := by decide +kernel
theorem dX1_lying_25 : decode cX1_lying 25 = .ok (.iload_n 3, 1) := by decide +kernel
theorem dX1_lying_26 : decode cX1_lying 26 = .ok (.iconst 1, 1) := by decide +kernel
theorem dX1_lying_27 : decode cX1_lying 27 = .ok (.iload 4, 2) := by decide +kernel
theorem dX1_lying_29 : decode cX1_lying 29 = .ok (.iload 5, 2) := by decide +kernel
theorem dX1_lying_31 : decode cX1_lying 31 = .ok (.invokevirtual 51, 3) := by decide +kernel
theorem dX1_lying_34 : decode cX1_lying 34 = .ok (.istore 6, 2) := by decide +kernel
theorem dX1_lying_36 : decode cX1_lying 36 = .ok (.iload_n 2, 1) := by decide +kernel
theorem dX1_lying_37 : decode cX1_lying 37 = .ok (.iload_n 3, 1) := by decide +kernel
theorem dX1_lying_38 : decode cX1_lying 38 = .ok (.invokestatic 48, 3) := by decide +kernel
theorem dX1_lying_41 : decode cX1_lying 41 = .ok (.aload_n 1, 1) := by decide +kernel
theorem dX1_lying_42 : decode cX1_lying 42 = .ok (.getfield 18, 3) := by decide +kernel
theorem dX1_lying_45 : decode cX1_lying 45 = .ok (.invokestatic 36, 3) := by decide +kernel
theorem dX1_lying_48 : decode cX1_lying 48 = .ok (.istore 7, 2) := by decide +kernel
theorem dX1_lying_50 : decode cX1_lying 50 = .ok (.iload_n 3, 1) := by decide +kernel
theorem dX1_lying_51 : decode cX1_lying 51 = .ok (.iconst 1, 1) := by decide +kernel
theorem dX1_lying_52 : decode cX1_lying 52 = .ok (.iadd, 1) := by decide +kernel
theorem dX1_lying_53 : decode cX1_lying 53 = .ok (.istore 8, 2) := by decide +kernel
theorem dX1_lying_55 : decode cX1_lying 55 = .ok (.iload 8, 2) := by decide +kernel
theorem dX1_lying_57 : decode cX1_lying 57 = .ok (.iload 7, 2) := by decide +kernel
theorem dX1_lying_59 : decode cX1_lying 59 = .ok (.if_icmp .ge 27, 3) := by decide +kernel
theorem dX1_lying_62 : decode cX1_lying 62 = .ok (.iload 6, 2) := by decide +kernel
theorem dX1_lying_64 : decode cX1_lying 64 = .ok (.aload_n 1, 1) := by decide +kernel
theorem dX1_lying_65 : decode cX1_lying 65 = .ok (.iload 8, 2) := by decide +kernel
theorem dX1_lying_67 : decode cX1_lying 67 = .ok (.iconst 0, 1) := by decide +kernel
theorem dX1_lying_68 : decode cX1_lying 68 = .ok (.iload 4, 2) := by decide +kernel
theorem dX1_lying_70 : decode cX1_lying 70 = .ok (.iconst 1, 1) := by decide +kernel
theorem dX1_lying_71 : decode cX1_lying 71 = .ok (.isub, 1) := by decide +kernel
theorem dX1_lying_72 : decode cX1_lying 72 = .ok (.iload 5, 2) := by decide +kernel
theorem dX1_lying_74 : decode cX1_lying 74 = .ok (.invokevirtual 51, 3) := by decide +kernel
theorem dX1_lying_77 : decode cX1_lying 77 = .ok (.iadd, 1) := by decide +kernel
theorem dX1_lying_78 : decode cX1_lying 78 = .ok (.istore 6, 2) := by decide +kernel
theorem dX1_lying_80 : decode cX1_lying 80 = .ok (.iinc 8 1, 3) := by decide +kernel
theorem dX1_lying_83 : decode cX1_lying 83 = .ok (.goto (-28), 3) := by decide +kernel
theorem dX1_lying_86 : decode cX1_lying 86 = .ok (.iload 6, 2) := by decide +kernel
theorem dX1_lying_88 : decode cX1_lying 88 = .ok (.aload_n 0, 1) := by decide +kernel
theorem dX1_lying_89 : decode cX1_lying 89 = .ok (.getfield 12, 3) := by decide +kernel
theorem dX1_lying_92 : decode cX1_lying 92 = .ok (.iload 7, 2) := by decide +kernel
theorem dX1_lying_94 : decode cX1_lying 94 = .ok (.iload 4, 2) := by decide +kernel
theorem dX1_lying_96 : decode cX1_lying 96 = .ok (.iconst 1, 1) := by decide +kernel
theorem dX1_lying_97 : decode cX1_lying 97 = .ok (.isub, 1) := by decide +kernel
theorem dX1_lying_98 : decode cX1_lying 98 = .ok (.invokevirtual 42, 3) := by decide +kernel
theorem dX1_lying_101 : decode cX1_lying 101 = .ok (.iadd, 1) := by decide +kernel
theorem dX1_lying_102 : decode cX1_lying 102 = .ok (.ireturn, 1) := by decide +kernel
theorem dX2_isNothing_0 : decode cX2_isNothing 0 = .ok (.aload_n 0, 1) := by decide +kernel
theorem dX2_isNothing_1 : decode cX2_isNothing 1 = .ok (.getfield 15, 3) := by decide +kernel
theorem dX2_isNothing_4 : decode cX2_isNothing 4 = .ok (.iconst (-1), 1) := by decide +kernel
theorem dX2_isNothing_5 : decode cX2_isNothing 5 = .ok (.if_icmp .ne 7, 3) := by decide +kernel
theorem dX2_isNothing_8 : decode cX2_isNothing 8 = .ok (.iconst 1, 1) := by decide +kernel
theorem dX2_isNothing_9 : decode cX2_isNothing 9 = .ok (.goto 4, 3) := by decide +kernel
theorem dX2_isNothing_12 : decode cX2_isNothing 12 = .ok (.iconst 0, 1) := by decide +kernel
theorem dX2_isNothing_13 : decode cX2_isNothing 13 = .ok (.ireturn, 1) := by decide +kernel
theorem dX2_hold_0 : decode cX2_hold 0 = .ok (.iconst 0, 1) := by decide +kernel
theorem dX2_hold_1 : decode cX2_hold 1 = .ok (.istore_n 3, 1) := by decide +kernel
theorem dX2_hold_2 : decode cX2_hold 2 = .ok (.iload_n 3, 1) := by decide +kernel
theorem dX2_hold_3 : decode cX2_hold 3 = .ok (.aload_n 0, 1) := by decide +kernel
theorem dX2_hold_4 : decode cX2_hold 4 = .ok (.getfield 9, 3) := by decide +kernel
theorem dX2_hold_7 : decode cX2_hold 7 = .ok (.arraylength, 1) := by decide +kernel
theorem dX2_hold_8 : decode cX2_hold 8 = .ok (.if_icmp .ge 16, 3) := by decide +kernel
theorem dX2_hold_11 : decode cX2_hold 11 = .ok (.aload_n 0, 1) := by decide +kernel
theorem dX2_hold_12 : decode cX2_hold 12 = .ok (.getfield 9, 3) := by decide +kernel
theorem dX2_hold_15 : decode cX2_hold 15 = .ok (.iload_n 3, 1) := by decide +kernel
theorem dX2_hold_16 : decode cX2_hold 16 = .ok (.iconst 0, 1) := by decide +kernel
theorem dX2_hold_17 : decode cX2_hold 17 = .ok (.iastore, 1) := by decide +kernel
theorem dX2_hold_18 : decode cX2_hold 18 = .ok (.iinc 3 1, 3) := by decide +kernel
theorem dX2_hold_21 : decode cX2_hold 21 = .ok (.goto (-19), 3) := by decide +kernel
theorem dX2_hold_24 : decode cX2_hold 24 = .ok (.aload_n 0, 1) := by decide +kernel
theorem dX2_hold_25 : decode cX2_hold 25 = .ok (.iload_n 1, 1) := by decide +kernel
theorem dX2_hold_26 : decode cX2_hold 26 = .ok (.putfield 15, 3) := by decide +kernel
theorem dX2_hold_29 : decode cX2_hold 29 = .ok (.aload_n 0, 1) := by decide +kernel
theorem dX2_hold_30 : decode cX2_hold 30 = .ok (.iload_n 2, 1) := by decide +kernel
theorem dX2_hold_31 : decode cX2_hold 31 = .ok (.putfield 19, 3) := by decide +kernel
theorem dX2_hold_34 : decode cX2_hold 34 = .ok (.iload_n 2, 1) := by decide +kernel
theorem dX2_hold_35 : decode cX2_hold 35 = .ok (.ireturn, 1) := by decide +kernel
theorem dX2_holdNothing_0 : decode cX2_holdNothing 0 = .ok (.aload_n 0, 1) := by decide +kernel
theorem dX2_holdNothing_1 : decode cX2_holdNothing 1 = .ok (.getfield 19, 3) := by decide +kernel
theorem dX2_holdNothing_4 : decode cX2_holdNothing 4 = .ok (.istore_n 1, 1) := by decide +kernel
theorem dX2_holdNothing_5 : decode cX2_holdNothing 5 = .ok (.aload_n 0, 1) := by decide +kernel
theorem dX2_holdNothing_6 : decode cX2_holdNothing 6 = .ok (.iconst (-1), 1) := by decide +kernel
theorem dX2_holdNothing_7 : decode cX2_holdNothing 7 = .ok (.putfield 15, 3) := by decide +kernel
theorem dX2_holdNothing_10 : decode cX2_holdNothing 10 = .ok (.aload_n 0, 1) := by decide +kernel
theorem dX2_holdNothing_11 : decode cX2_holdNothing 11 = .ok (.iconst 0, 1) := by decide +kernel
theorem dX2_holdNothing_12 : decode cX2_holdNothing 12 = .ok (.putfield 19, 3) := by decide +kernel
theorem dX2_holdNothing_15 : decode cX2_holdNothing 15 = .ok (.iload_n 1, 1) := by decide +kernel
theorem dX2_holdNothing_16 : decode cX2_holdNothing 16 = .ok (.ireturn, 1) := by decide +kernel
theorem dX2_covers_0 : decode cX2_covers 0 = .ok (.iload_n 2, 1) := by decide +kernel
theorem dX2_covers_1 : decode cX2_covers 1 = .ok (.ifCond .lt 29, 3) := by decide +kernel
theorem dX2_covers_4 : decode cX2_covers 4 = .ok (.iload_n 1, 1) := by decide +kernel
theorem dX2_covers_5 : decode cX2_covers 5 = .ok (.ifCond .lt 25, 3) := by decide +kernel
theorem dX2_covers_8 : decode cX2_covers 8 = .ok (.iload_n 1, 1) := by decide +kernel
theorem dX2_covers_9 : decode cX2_covers 9 = .ok (.aload_n 0, 1) := by decide +kernel
theorem dX2_covers_10 : decode cX2_covers 10 = .ok (.getfield 19, 3) := by decide +kernel
theorem dX2_covers_13 : decode cX2_covers 13 = .ok (.if_icmp .gt 17, 3) := by decide +kernel
theorem dX2_covers_16 : decode cX2_covers 16 = .ok (.iload_n 2, 1) := by decide +kernel
theorem dX2_covers_17 : decode cX2_covers 17 = .ok (.aload_n 0, 1) := by decide +kernel
theorem dX2_covers_18 : decode cX2_covers 18 = .ok (.getfield 19, 3) := by decide +kernel
theorem dX2_covers_21 : decode cX2_covers 21 = .ok (.iload_n 1, 1) := by decide +kernel
theorem dX2_covers_22 : decode cX2_covers 22 = .ok (.isub, 1) := by decide +kernel
theorem dX2_covers_23 : decode cX2_covers 23 = .ok (.if_icmp .gt 7, 3) := by decide +kernel
theorem dX2_covers_26 : decode cX2_covers 26 = .ok (.iconst 1, 1) := by decide +kernel
theorem dX2_covers_27 : decode cX2_covers 27 = .ok (.goto 4, 3) := by decide +kernel
theorem dX2_covers_30 : decode cX2_covers 30 = .ok (.iconst 0, 1) := by decide +kernel
theorem dX2_covers_31 : decode cX2_covers 31 = .ok (.ireturn, 1) := by decide +kernel
theorem dX2_refusalOf_0 : decode cX2_refusalOf 0 = .ok (.aload_n 0, 1) := by decide +kernel
theorem dX2_refusalOf_1 : decode cX2_refusalOf 1 = .ok (.invokevirtual 22, 3) := by decide +kernel
theorem dX2_refusalOf_4 : decode cX2_refusalOf 4 = .ok (.ifCond .eq 6, 3) := by decide +kernel
theorem dX2_refusalOf_7 : decode cX2_refusalOf 7 = .ok (.bipush (-11), 2) := by decide +kernel
theorem dX2_refusalOf_9 : decode cX2_refusalOf 9 = .ok (.ireturn, 1) := by decide +kernel
theorem dX2_refusalOf_10 : decode cX2_refusalOf 10 = .ok (.aload_n 0, 1) := by decide +kernel
theorem dX2_refusalOf_11 : decode cX2_refusalOf 11 = .ok (.getfield 15, 3) := by decide +kernel
theorem dX2_refusalOf_14 : decode cX2_refusalOf 14 = .ok (.iload_n 1, 1) := by decide +kernel
theorem dX2_refusalOf_15 : decode cX2_refusalOf 15 = .ok (.if_icmp .eq 6, 3) := by decide +kernel
theorem dX2_refusalOf_18 : decode cX2_refusalOf 18 = .ok (.bipush (-12), 2) := by decide +kernel
theorem dX2_refusalOf_20 : decode cX2_refusalOf 20 = .ok (.ireturn, 1) := by decide +kernel
theorem dX2_refusalOf_21 : decode cX2_refusalOf 21 = .ok (.aload_n 0, 1) := by decide +kernel
theorem dX2_refusalOf_22 : decode cX2_refusalOf 22 = .ok (.iload_n 2, 1) := by decide +kernel
theorem dX2_refusalOf_23 : decode cX2_refusalOf 23 = .ok (.iload_n 3, 1) := by decide +kernel
theorem dX2_refusalOf_24 : decode cX2_refusalOf 24 = .ok (.invokevirtual 26, 3) := by decide +kernel
theorem dX2_refusalOf_27 : decode cX2_refusalOf 27 = .ok (.ifCond .eq 7, 3) := by decide +kernel
theorem dX2_refusalOf_30 : decode cX2_refusalOf 30 = .ok (.iconst 0, 1) := by decide +kernel
theorem dX2_refusalOf_31 : decode cX2_refusalOf 31 = .ok (.goto 5, 3) := by decide +kernel
theorem dX2_refusalOf_34 : decode cX2_refusalOf 34 = .ok (.bipush (-13), 2) := by decide +kernel
theorem dX2_refusalOf_36 : decode cX2_refusalOf 36 = .ok (.ireturn, 1) := by decide +kernel
theorem dX2_change_0 : decode cX2_change 0 = .ok (.aload_n 0, 1) := by decide +kernel
theorem dX2_change_1 : decode cX2_change 1 = .ok (.getfield 9, 3) := by decide +kernel
theorem dX2_change_4 : decode cX2_change 4 = .ok (.iload_n 1, 1) := by decide +kernel
theorem dX2_change_5 : decode cX2_change 5 = .ok (.aload_n 0, 1) := by decide +kernel
theorem dX2_change_6 : decode cX2_change 6 = .ok (.iload_n 2, 1) := by decide +kernel
theorem dX2_change_7 : decode cX2_change 7 = .ok (.invokevirtual 30, 3) := by decide +kernel
theorem dX2_change_10 : decode cX2_change 10 = .ok (.invokestatic 34, 3) := by decide +kernel
theorem dX2_change_13 : decode cX2_change 13 = .ok (.pop, 1) := by decide +kernel
theorem dX2_change_14 : decode cX2_change 14 = .ok (.return_, 1) := by decide +kernel
theorem dX2_narrow_0 : decode cX2_narrow 0 = .ok (.aload_n 0, 1) := by decide +kernel
theorem dX2_narrow_1 : decode cX2_narrow 1 = .ok (.getfield 15, 3) := by decide +kernel
theorem dX2_narrow_4 : decode cX2_narrow 4 = .ok (.ifCond .ne 6, 3) := by decide +kernel
theorem dX2_narrow_7 : decode cX2_narrow 7 = .ok (.iload_n 1, 1) := by decide +kernel
theorem dX2_narrow_8 : decode cX2_narrow 8 = .ok (.i2b, 1) := by decide +kernel
theorem dX2_narrow_9 : decode cX2_narrow 9 = .ok (.ireturn, 1) := by decide +kernel
theorem dX2_narrow_10 : decode cX2_narrow 10 = .ok (.aload_n 0, 1) := by decide +kernel
theorem dX2_narrow_11 : decode cX2_narrow 11 = .ok (.getfield 15, 3) := by decide +kernel
theorem dX2_narrow_14 : decode cX2_narrow 14 = .ok (.iconst 1, 1) := by decide +kernel
theorem dX2_narrow_15 : decode cX2_narrow 15 = .ok (.if_icmp .ne 8, 3) := by decide +kernel
theorem dX2_narrow_18 : decode cX2_narrow 18 = .ok (.iload_n 1, 1) := by decide +kernel
theorem dX2_narrow_19 : decode cX2_narrow 19 = .ok (.i2s, 1) := by decide +kernel
theorem dX2_narrow_20 : decode cX2_narrow 20 = .ok (.goto 4, 3) := by decide +kernel
theorem dX2_narrow_23 : decode cX2_narrow 23 = .ok (.iload_n 1, 1) := by decide +kernel
theorem dX2_narrow_24 : decode cX2_narrow 24 = .ok (.ireturn, 1) := by decide +kernel
theorem dX2_readDays_0 : decode cX2_readDays 0 = .ok (.iconst 0, 1) := by decide +kernel
theorem dX2_readDays_1 : decode cX2_readDays 1 = .ok (.istore 4, 2) := by decide +kernel
theorem dX2_readDays_3 : decode cX2_readDays 3 = .ok (.iconst (-1), 1) := by decide +kernel
theorem dX2_readDays_4 : decode cX2_readDays 4 = .ok (.istore 5, 2) := by decide +kernel
theorem dX2_readDays_6 : decode cX2_readDays 6 = .ok (.iload_n 1, 1) := by decide +kernel
theorem dX2_readDays_7 : decode cX2_readDays 7 = .ok (.istore 6, 2) := by decide +kernel
theorem dX2_readDays_9 : decode cX2_readDays 9 = .ok (.iload 6, 2) := by decide +kernel
theorem dX2_readDays_11 : decode cX2_readDays 11 = .ok (.iload_n 1, 1) := by decide +kernel
theorem dX2_readDays_12 : decode cX2_readDays 12 = .ok (.iload_n 2, 1) := by decide +kernel
theorem dX2_readDays_13 : decode cX2_readDays 13 = .ok (.iadd, 1) := by decide +kernel
theorem dX2_readDays_14 : decode cX2_readDays 14 = .ok (.if_icmp .ge 49, 3) := by decide +kernel
theorem dX2_readDays_17 : decode cX2_readDays 17 = .ok (.aload_n 0, 1) := by decide +kernel
theorem dX2_readDays_18 : decode cX2_readDays 18 = .ok (.getfield 9, 3) := by decide +kernel
theorem dX2_readDays_21 : decode cX2_readDays 21 = .ok (.iload 6, 2) := by decide +kernel
theorem dX2_readDays_23 : decode cX2_readDays 23 = .ok (.invokestatic 38, 3) := by decide +kernel
theorem dX2_readDays_26 : decode cX2_readDays 26 = .ok (.istore 7, 2) := by decide +kernel
theorem dX2_readDays_28 : decode cX2_readDays 28 = .ok (.iload 7, 2) := by decide +kernel
theorem dX2_readDays_30 : decode cX2_readDays 30 = .ok (.iload 5, 2) := by decide +kernel
theorem dX2_readDays_32 : decode cX2_readDays 32 = .ok (.if_icmp .le 9, 3) := by decide +kernel
theorem dX2_readDays_35 : decode cX2_readDays 35 = .ok (.iload 7, 2) := by decide +kernel
theorem dX2_readDays_37 : decode cX2_readDays 37 = .ok (.iload_n 3, 1) := by decide +kernel
theorem dX2_readDays_38 : decode cX2_readDays 38 = .ok (.if_icmp .lt 6, 3) := by decide +kernel
theorem dX2_readDays_41 : decode cX2_readDays 41 = .ok (.bipush (-2), 2) := by decide +kernel
theorem dX2_readDays_43 : decode cX2_readDays 43 = .ok (.ireturn, 1) := by decide +kernel
theorem dX2_readDays_44 : decode cX2_readDays 44 = .ok (.iload 4, 2) := by decide +kernel
theorem dX2_readDays_46 : decode cX2_readDays 46 = .ok (.iconst 1, 1) := by decide +kernel
theorem dX2_readDays_47 : decode cX2_readDays 47 = .ok (.iload 7, 2) := by decide +kernel
theorem dX2_readDays_49 : decode cX2_readDays 49 = .ok (.ishl, 1) := by decide +kernel
theorem dX2_readDays_50 : decode cX2_readDays 50 = .ok (.ior, 1) := by decide +kernel
theorem dX2_readDays_51 : decode cX2_readDays 51 = .ok (.istore 4, 2) := by decide +kernel
theorem dX2_readDays_53 : decode cX2_readDays 53 = .ok (.iload 7, 2) := by decide +kernel
theorem dX2_readDays_55 : decode cX2_readDays 55 = .ok (.istore 5, 2) := by decide +kernel
theorem dX2_readDays_57 : decode cX2_readDays 57 = .ok (.iinc 6 1, 3) := by decide +kernel
theorem dX2_readDays_60 : decode cX2_readDays 60 = .ok (.goto (-51), 3) := by decide +kernel
theorem dX2_readDays_63 : decode cX2_readDays 63 = .ok (.iload 4, 2) := by decide +kernel
theorem dX2_readDays_65 : decode cX2_readDays 65 = .ok (.ireturn, 1) := by decide +kernel
theorem dX3_tell_0 : decode cX3_tell 0 = .ok (.aload_n 0, 1) := by decide +kernel
theorem dX3_tell_1 : decode cX3_tell 1 = .ok (.getfield 9, 3) := by decide +kernel
theorem dX3_tell_4 : decode cX3_tell 4 = .ok (.iload_n 1, 1) := by decide +kernel
theorem dX3_tell_5 : decode cX3_tell 5 = .ok (.bipush 10, 2) := by decide +kernel
theorem dX3_tell_7 : decode cX3_tell 7 = .ok (.imul, 1) := by decide +kernel
theorem dX3_tell_8 : decode cX3_tell 8 = .ok (.iload_n 2, 1) := by decide +kernel
theorem dX3_tell_9 : decode cX3_tell 9 = .ok (.iadd, 1) := by decide +kernel
theorem dX3_tell_10 : decode cX3_tell 10 = .ok (.invokestatic 15, 3) := by decide +kernel
theorem dX3_tell_13 : decode cX3_tell 13 = .ok (.ireturn, 1) := by decide +kernel
theorem dX3_change_0 : decode cX3_change 0 = .ok (.aload_n 0, 1) := by decide +kernel
theorem dX3_change_1 : decode cX3_change 1 = .ok (.getfield 9, 3) := by decide +kernel
theorem dX3_change_4 : decode cX3_change 4 = .ok (.iload_n 1, 1) := by decide +kernel
theorem dX3_change_5 : decode cX3_change 5 = .ok (.bipush 10, 2) := by decide +kernel
theorem dX3_change_7 : decode cX3_change 7 = .ok (.imul, 1) := by decide +kernel
theorem dX3_change_8 : decode cX3_change 8 = .ok (.iload_n 2, 1) := by decide +kernel
theorem dX3_change_9 : decode cX3_change 9 = .ok (.iadd, 1) := by decide +kernel
theorem dX3_change_10 : decode cX3_change 10 = .ok (.iload_n 3, 1) := by decide +kernel
theorem dX3_change_11 : decode cX3_change 11 = .ok (.invokestatic 19, 3) := by decide +kernel
theorem dX3_change_14 : decode cX3_change 14 = .ok (.pop, 1) := by decide +kernel
theorem dX3_change_15 : decode cX3_change 15 = .ok (.return_, 1) := by decide +kernel
theorem dX4_append_0 : decode cX4_append 0 = .ok (.iload_n 3, 1) := by decide +kernel
theorem dX4_append_1 : decode cX4_append 1 = .ok (.sipush 200, 3) := by decide +kernel
theorem dX4_append_4 : decode cX4_append 4 = .ok (.aload_n 0, 1) := by decide +kernel
theorem dX4_append_5 : decode cX4_append 5 = .ok (.getfield 15, 3) := by decide +kernel
theorem dX4_append_8 : decode cX4_append 8 = .ok (.isub, 1) := by decide +kernel
theorem dX4_append_9 : decode cX4_append 9 = .ok (.if_icmp .le 6, 3) := by decide +kernel
theorem dX4_append_12 : decode cX4_append 12 = .ok (.bipush (-3), 2) := by decide +kernel
theorem dX4_append_14 : decode cX4_append 14 = .ok (.ireturn, 1) := by decide +kernel
theorem dX4_append_15 : decode cX4_append 15 = .ok (.iload_n 3, 1) := by decide +kernel
theorem dX4_append_16 : decode cX4_append 16 = .ok (.iconst 1, 1) := by decide +kernel
theorem dX4_append_17 : decode cX4_append 17 = .ok (.isub, 1) := by decide +kernel
theorem dX4_append_18 : decode cX4_append 18 = .ok (.istore 4, 2) := by decide +kernel
theorem dX4_append_20 : decode cX4_append 20 = .ok (.iload 4, 2) := by decide +kernel
theorem dX4_append_22 : decode cX4_append 22 = .ok (.ifCond .lt 37, 3) := by decide +kernel
theorem dX4_append_25 : decode cX4_append 25 = .ok (.aload_n 0, 1) := by decide +kernel
theorem dX4_append_26 : decode cX4_append 26 = .ok (.getfield 9, 3) := by decide +kernel
theorem dX4_append_29 : decode cX4_append 29 = .ok (.aload_n 0, 1) := by decide +kernel
theorem dX4_append_30 : decode cX4_append 30 = .ok (.getfield 15, 3) := by decide +kernel
theorem dX4_append_33 : decode cX4_append 33 = .ok (.lload_n 1, 1) := by decide +kernel
theorem dX4_append_34 : decode cX4_append 34 = .ok (.iload 4, 2) := by decide +kernel
theorem dX4_append_36 : decode cX4_append 36 = .ok (.invokestatic 22, 3) := by decide +kernel
theorem dX4_append_39 : decode cX4_append 39 = .ok (.invokestatic 26, 3) := by decide +kernel
theorem dX4_append_42 : decode cX4_append 42 = .ok (.pop, 1) := by decide +kernel
theorem dX4_append_43 : decode cX4_append 43 = .ok (.aload_n 0, 1) := by decide +kernel
theorem dX4_append_44 : decode cX4_append 44 = .ok (.dup, 1) := by decide +kernel
theorem dX4_append_45 : decode cX4_append 45 = .ok (.getfield 15, 3) := by decide +kernel
theorem dX4_append_48 : decode cX4_append 48 = .ok (.iconst 1, 1) := by decide +kernel
theorem dX4_append_49 : decode cX4_append 49 = .ok (.iadd, 1) := by decide +kernel
theorem dX4_append_50 : decode cX4_append 50 = .ok (.putfield 15, 3) := by decide +kernel
theorem dX4_append_53 : decode cX4_append 53 = .ok (.iinc 4 (-1), 3) := by decide +kernel
theorem dX4_append_56 : decode cX4_append 56 = .ok (.goto (-36), 3) := by decide +kernel
theorem dX4_append_59 : decode cX4_append 59 = .ok (.aload_n 0, 1) := by decide +kernel
theorem dX4_append_60 : decode cX4_append 60 = .ok (.getfield 15, 3) := by decide +kernel
theorem dX4_append_63 : decode cX4_append 63 = .ok (.ireturn, 1) := by decide +kernel
theorem dX4_empty_0 : decode cX4_empty 0 = .ok (.aload_n 0, 1) := by decide +kernel
theorem dX4_empty_1 : decode cX4_empty 1 = .ok (.iconst 0, 1) := by decide +kernel
theorem dX4_empty_2 : decode cX4_empty 2 = .ok (.putfield 15, 3) := by decide +kernel
theorem dX4_empty_5 : decode cX4_empty 5 = .ok (.return_, 1) := by decide +kernel
theorem dX4_readInto_0 : decode cX4_readInto 0 = .ok (.aload_n 0, 1) := by decide +kernel
theorem dX4_readInto_1 : decode cX4_readInto 1 = .ok (.iconst 0, 1) := by decide +kernel
theorem dX4_readInto_2 : decode cX4_readInto 2 = .ok (.putfield 19, 3) := by decide +kernel
theorem dX4_readInto_5 : decode cX4_readInto 5 = .ok (.aload_n 1, 1) := by decide +kernel
theorem dX4_readInto_6 : decode cX4_readInto 6 = .ok (.invokevirtual 30, 3) := by decide +kernel
theorem dX4_readInto_9 : decode cX4_readInto 9 = .ok (.iconst 0, 1) := by decide +kernel
theorem dX4_readInto_10 : decode cX4_readInto 10 = .ok (.istore_n 2, 1) := by decide +kernel
theorem dX4_readInto_11 : decode cX4_readInto 11 = .ok (.iload_n 2, 1) := by decide +kernel
theorem dX4_readInto_12 : decode cX4_readInto 12 = .ok (.bipush 28, 2) := by decide +kernel
theorem dX4_readInto_14 : decode cX4_readInto 14 = .ok (.if_icmp .ge 70, 3) := by decide +kernel
theorem dX4_readInto_17 : decode cX4_readInto 17 = .ok (.aload_n 0, 1) := by decide +kernel
theorem dX4_readInto_18 : decode cX4_readInto 18 = .ok (.aload_n 1, 1) := by decide +kernel
theorem dX4_readInto_19 : decode cX4_readInto 19 = .ok (.invokevirtual 35, 3) := by decide +kernel
theorem dX4_readInto_22 : decode cX4_readInto 22 = .ok (.istore_n 3, 1) := by decide +kernel
theorem dX4_readInto_23 : decode cX4_readInto 23 = .ok (.iload_n 3, 1) := by decide +kernel
theorem dX4_readInto_24 : decode cX4_readInto 24 = .ok (.ifCond .eq 5, 3) := by decide +kernel
theorem dX4_readInto_27 : decode cX4_readInto 27 = .ok (.iload_n 3, 1) := by decide +kernel
theorem dX4_readInto_28 : decode cX4_readInto 28 = .ok (.ireturn, 1) := by decide +kernel
theorem dX4_readInto_29 : decode cX4_readInto 29 = .ok (.aload_n 0, 1) := by decide +kernel
theorem dX4_readInto_30 : decode cX4_readInto 30 = .ok (.invokevirtual 39, 3) := by decide +kernel
theorem dX4_readInto_33 : decode cX4_readInto 33 = .ok (.istore 4, 2) := by decide +kernel
theorem dX4_readInto_35 : decode cX4_readInto 35 = .ok (.iload 4, 2) := by decide +kernel
theorem dX4_readInto_37 : decode cX4_readInto 37 = .ok (.iconst (-1), 1) := by decide +kernel
theorem dX4_readInto_38 : decode cX4_readInto 38 = .ok (.if_icmp .ne 8, 3) := by decide +kernel
theorem dX4_readInto_41 : decode cX4_readInto 41 = .ok (.aload_n 1, 1) := by decide +kernel
theorem dX4_readInto_42 : decode cX4_readInto 42 = .ok (.getfield 43, 3) := by decide +kernel
theorem dX4_readInto_45 : decode cX4_readInto 45 = .ok (.ireturn, 1) := by decide +kernel
theorem dX4_readInto_46 : decode cX4_readInto 46 = .ok (.iload 4, 2) := by decide +kernel
theorem dX4_readInto_48 : decode cX4_readInto 48 = .ok (.bipush 44, 2) := by decide +kernel
theorem dX4_readInto_50 : decode cX4_readInto 50 = .ok (.if_icmp .ne 10, 3) := by decide +kernel
theorem dX4_readInto_53 : decode cX4_readInto 53 = .ok (.aload_n 1, 1) := by decide +kernel
theorem dX4_readInto_54 : decode cX4_readInto 54 = .ok (.invokevirtual 44, 3) := by decide +kernel
theorem dX4_readInto_57 : decode cX4_readInto 57 = .ok (.ifCond .eq 11, 3) := by decide +kernel
theorem dX4_readInto_60 : decode cX4_readInto 60 = .ok (.aload_n 0, 1) := by decide +kernel
theorem dX4_readInto_61 : decode cX4_readInto 61 = .ok (.getfield 19, 3) := by decide +kernel
theorem dX4_readInto_64 : decode cX4_readInto 64 = .ok (.invokestatic 48, 3) := by decide +kernel
theorem dX4_readInto_67 : decode cX4_readInto 67 = .ok (.ireturn, 1) := by decide +kernel
theorem dX4_readInto_68 : decode cX4_readInto 68 = .ok (.aload_n 0, 1) := by decide +kernel
theorem dX4_readInto_69 : decode cX4_readInto 69 = .ok (.dup, 1) := by decide +kernel
theorem dX4_readInto_70 : decode cX4_readInto 70 = .ok (.getfield 19, 3) := by decide +kernel
theorem dX4_readInto_73 : decode cX4_readInto 73 = .ok (.iconst 1, 1) := by decide +kernel
theorem dX4_readInto_74 : decode cX4_readInto 74 = .ok (.iadd, 1) := by decide +kernel
theorem dX4_readInto_75 : decode cX4_readInto 75 = .ok (.putfield 19, 3) := by decide +kernel
theorem dX4_readInto_78 : decode cX4_readInto 78 = .ok (.iinc 2 1, 3) := by decide +kernel
theorem dX4_readInto_81 : decode cX4_readInto 81 = .ok (.goto (-70), 3) := by decide +kernel
theorem dX4_readInto_84 : decode cX4_readInto 84 = .ok (.aload_n 0, 1) := by decide +kernel
theorem dX4_readInto_85 : decode cX4_readInto 85 = .ok (.getfield 19, 3) := by decide +kernel
theorem dX4_readInto_88 : decode cX4_readInto 88 = .ok (.invokestatic 48, 3) := by decide +kernel
theorem dX4_readInto_91 : decode cX4_readInto 91 = .ok (.ireturn, 1) := by decide +kernel
theorem dX4_readDay_0 : decode cX4_readDay 0 = .ok (.aload_n 0, 1) := by decide +kernel
theorem dX4_readDay_1 : decode cX4_readDay 1 = .ok (.invokevirtual 39, 3) := by decide +kernel
theorem dX4_readDay_4 : decode cX4_readDay 4 = .ok (.istore_n 2, 1) := by decide +kernel
theorem dX4_readDay_5 : decode cX4_readDay 5 = .ok (.iload_n 2, 1) := by decide +kernel
theorem dX4_readDay_6 : decode cX4_readDay 6 = .ok (.bipush 43, 2) := by decide +kernel
theorem dX4_readDay_8 : decode cX4_readDay 8 = .ok (.if_icmp .eq 17, 3) := by decide +kernel
theorem dX4_readDay_11 : decode cX4_readDay 11 = .ok (.iload_n 2, 1) := by decide +kernel
theorem dX4_readDay_12 : decode cX4_readDay 12 = .ok (.bipush 45, 2) := by decide +kernel
theorem dX4_readDay_14 : decode cX4_readDay 14 = .ok (.if_icmp .eq 11, 3) := by decide +kernel
theorem dX4_readDay_17 : decode cX4_readDay 17 = .ok (.aload_n 0, 1) := by decide +kernel
theorem dX4_readDay_18 : decode cX4_readDay 18 = .ok (.getfield 19, 3) := by decide +kernel
theorem dX4_readDay_21 : decode cX4_readDay 21 = .ok (.invokestatic 48, 3) := by decide +kernel
theorem dX4_readDay_24 : decode cX4_readDay 24 = .ok (.ireturn, 1) := by decide +kernel
theorem dX4_readDay_25 : decode cX4_readDay 25 = .ok (.aload_n 0, 1) := by decide +kernel
theorem dX4_readDay_26 : decode cX4_readDay 26 = .ok (.dup, 1) := by decide +kernel
theorem dX4_readDay_27 : decode cX4_readDay 27 = .ok (.getfield 19, 3) := by decide +kernel
theorem dX4_readDay_30 : decode cX4_readDay 30 = .ok (.iconst 1, 1) := by decide +kernel
theorem dX4_readDay_31 : decode cX4_readDay 31 = .ok (.iadd, 1) := by decide +kernel
theorem dX4_readDay_32 : decode cX4_readDay 32 = .ok (.putfield 19, 3) := by decide +kernel
theorem dX4_readDay_35 : decode cX4_readDay 35 = .ok (.aload_n 0, 1) := by decide +kernel
theorem dX4_readDay_36 : decode cX4_readDay 36 = .ok (.invokevirtual 52, 3) := by decide +kernel
theorem dX4_readDay_39 : decode cX4_readDay 39 = .ok (.istore_n 3, 1) := by decide +kernel
theorem dX4_readDay_40 : decode cX4_readDay 40 = .ok (.iload_n 3, 1) := by decide +kernel
theorem dX4_readDay_41 : decode cX4_readDay 41 = .ok (.ifCond .ge 5, 3) := by decide +kernel
theorem dX4_readDay_44 : decode cX4_readDay 44 = .ok (.iload_n 3, 1) := by decide +kernel
theorem dX4_readDay_45 : decode cX4_readDay 45 = .ok (.ireturn, 1) := by decide +kernel
theorem dX4_readDay_46 : decode cX4_readDay 46 = .ok (.iconst 0, 1) := by decide +kernel
theorem dX4_readDay_47 : decode cX4_readDay 47 = .ok (.istore 4, 2) := by decide +kernel
theorem dX4_readDay_49 : decode cX4_readDay 49 = .ok (.aload_n 0, 1) := by decide +kernel
theorem dX4_readDay_50 : decode cX4_readDay 50 = .ok (.invokevirtual 39, 3) := by decide +kernel
theorem dX4_readDay_53 : decode cX4_readDay 53 = .ok (.bipush 47, 2) := by decide +kernel
theorem dX4_readDay_55 : decode cX4_readDay 55 = .ok (.if_icmp .ne 19, 3) := by decide +kernel
theorem dX4_readDay_58 : decode cX4_readDay 58 = .ok (.aload_n 0, 1) := by decide +kernel
theorem dX4_readDay_59 : decode cX4_readDay 59 = .ok (.dup, 1) := by decide +kernel
theorem dX4_readDay_60 : decode cX4_readDay 60 = .ok (.getfield 19, 3) := by decide +kernel
theorem dX4_readDay_63 : decode cX4_readDay 63 = .ok (.iconst 1, 1) := by decide +kernel
theorem dX4_readDay_64 : decode cX4_readDay 64 = .ok (.iadd, 1) := by decide +kernel
theorem dX4_readDay_65 : decode cX4_readDay 65 = .ok (.putfield 19, 3) := by decide +kernel
theorem dX4_readDay_68 : decode cX4_readDay 68 = .ok (.aload_n 0, 1) := by decide +kernel
theorem dX4_readDay_69 : decode cX4_readDay 69 = .ok (.invokevirtual 52, 3) := by decide +kernel
theorem dX4_readDay_72 : decode cX4_readDay 72 = .ok (.istore 4, 2) := by decide +kernel
theorem dX4_readDay_74 : decode cX4_readDay 74 = .ok (.iload 4, 2) := by decide +kernel
theorem dX4_readDay_76 : decode cX4_readDay 76 = .ok (.ifCond .ge 6, 3) := by decide +kernel
theorem dX4_readDay_79 : decode cX4_readDay 79 = .ok (.iload 4, 2) := by decide +kernel
theorem dX4_readDay_81 : decode cX4_readDay 81 = .ok (.ireturn, 1) := by decide +kernel
theorem dX4_readDay_82 : decode cX4_readDay 82 = .ok (.aload_n 1, 1) := by decide +kernel
theorem dX4_readDay_83 : decode cX4_readDay 83 = .ok (.iload_n 2, 1) := by decide +kernel
theorem dX4_readDay_84 : decode cX4_readDay 84 = .ok (.bipush 43, 2) := by decide +kernel
theorem dX4_readDay_86 : decode cX4_readDay 86 = .ok (.if_icmp .ne 7, 3) := by decide +kernel
theorem dX4_readDay_89 : decode cX4_readDay 89 = .ok (.iconst 1, 1) := by decide +kernel
theorem dX4_readDay_90 : decode cX4_readDay 90 = .ok (.goto 4, 3) := by decide +kernel
theorem dX4_readDay_93 : decode cX4_readDay 93 = .ok (.iconst 0, 1) := by decide +kernel
theorem dX4_readDay_94 : decode cX4_readDay 94 = .ok (.iload_n 3, 1) := by decide +kernel
theorem dX4_readDay_95 : decode cX4_readDay 95 = .ok (.iload 4, 2) := by decide +kernel
theorem dX4_readDay_97 : decode cX4_readDay 97 = .ok (.invokevirtual 55, 3) := by decide +kernel
theorem dX4_readDay_100 : decode cX4_readDay 100 = .ok (.pop, 1) := by decide +kernel
theorem dX4_readDay_101 : decode cX4_readDay 101 = .ok (.iconst 0, 1) := by decide +kernel
theorem dX4_readDay_102 : decode cX4_readDay 102 = .ok (.ireturn, 1) := by decide +kernel
theorem dX4_readNumber_0 : decode cX4_readNumber 0 = .ok (.aload_n 0, 1) := by decide +kernel
theorem dX4_readNumber_1 : decode cX4_readNumber 1 = .ok (.invokevirtual 39, 3) := by decide +kernel
theorem dX4_readNumber_4 : decode cX4_readNumber 4 = .ok (.istore_n 1, 1) := by decide +kernel
theorem dX4_readNumber_5 : decode cX4_readNumber 5 = .ok (.iload_n 1, 1) := by decide +kernel
theorem dX4_readNumber_6 : decode cX4_readNumber 6 = .ok (.invokestatic 59, 3) := by decide +kernel
theorem dX4_readNumber_9 : decode cX4_readNumber 9 = .ok (.ifCond .ne 11, 3) := by decide +kernel
theorem dX4_readNumber_12 : decode cX4_readNumber 12 = .ok (.aload_n 0, 1) := by decide +kernel
theorem dX4_readNumber_13 : decode cX4_readNumber 13 = .ok (.getfield 19, 3) := by decide +kernel
theorem dX4_readNumber_16 : decode cX4_readNumber 16 = .ok (.invokestatic 48, 3) := by decide +kernel
theorem dX4_readNumber_19 : decode cX4_readNumber 19 = .ok (.ireturn, 1) := by decide +kernel
theorem dX4_readNumber_20 : decode cX4_readNumber 20 = .ok (.aload_n 0, 1) := by decide +kernel
theorem dX4_readNumber_21 : decode cX4_readNumber 21 = .ok (.getfield 19, 3) := by decide +kernel
theorem dX4_readNumber_24 : decode cX4_readNumber 24 = .ok (.istore_n 2, 1) := by decide +kernel
theorem dX4_readNumber_25 : decode cX4_readNumber 25 = .ok (.iconst 0, 1) := by decide +kernel
theorem dX4_readNumber_26 : decode cX4_readNumber 26 = .ok (.istore_n 3, 1) := by decide +kernel
theorem dX4_readNumber_27 : decode cX4_readNumber 27 = .ok (.aload_n 0, 1) := by decide +kernel
theorem dX4_readNumber_28 : decode cX4_readNumber 28 = .ok (.getfield 19, 3) := by decide +kernel
theorem dX4_readNumber_31 : decode cX4_readNumber 31 = .ok (.aload_n 0, 1) := by decide +kernel
theorem dX4_readNumber_32 : decode cX4_readNumber 32 = .ok (.getfield 15, 3) := by decide +kernel
theorem dX4_readNumber_35 : decode cX4_readNumber 35 = .ok (.if_icmp .ge 58, 3) := by decide +kernel
theorem dX4_readNumber_38 : decode cX4_readNumber 38 = .ok (.aload_n 0, 1) := by decide +kernel
theorem dX4_readNumber_39 : decode cX4_readNumber 39 = .ok (.getfield 9, 3) := by decide +kernel
theorem dX4_readNumber_42 : decode cX4_readNumber 42 = .ok (.aload_n 0, 1) := by decide +kernel
theorem dX4_readNumber_43 : decode cX4_readNumber 43 = .ok (.getfield 19, 3) := by decide +kernel
theorem dX4_readNumber_46 : decode cX4_readNumber 46 = .ok (.invokestatic 63, 3) := by decide +kernel
theorem dX4_readNumber_49 : decode cX4_readNumber 49 = .ok (.invokestatic 59, 3) := by decide +kernel
theorem dX4_readNumber_52 : decode cX4_readNumber 52 = .ok (.ifCond .eq 41, 3) := by decide +kernel
theorem dX4_readNumber_55 : decode cX4_readNumber 55 = .ok (.bipush 100, 2) := by decide +kernel
theorem dX4_readNumber_57 : decode cX4_readNumber 57 = .ok (.iload_n 3, 1) := by decide +kernel
theorem dX4_readNumber_58 : decode cX4_readNumber 58 = .ok (.bipush 10, 2) := by decide +kernel
theorem dX4_readNumber_60 : decode cX4_readNumber 60 = .ok (.imul, 1) := by decide +kernel
theorem dX4_readNumber_61 : decode cX4_readNumber 61 = .ok (.aload_n 0, 1) := by decide +kernel
theorem dX4_readNumber_62 : decode cX4_readNumber 62 = .ok (.getfield 9, 3) := by decide +kernel
theorem dX4_readNumber_65 : decode cX4_readNumber 65 = .ok (.aload_n 0, 1) := by decide +kernel
theorem dX4_readNumber_66 : decode cX4_readNumber 66 = .ok (.getfield 19, 3) := by decide +kernel
theorem dX4_readNumber_69 : decode cX4_readNumber 69 = .ok (.invokestatic 63, 3) := by decide +kernel
theorem dX4_readNumber_72 : decode cX4_readNumber 72 = .ok (.iadd, 1) := by decide +kernel
theorem dX4_readNumber_73 : decode cX4_readNumber 73 = .ok (.bipush 48, 2) := by decide +kernel
theorem dX4_readNumber_75 : decode cX4_readNumber 75 = .ok (.isub, 1) := by decide +kernel
theorem dX4_readNumber_76 : decode cX4_readNumber 76 = .ok (.invokestatic 67, 3) := by decide +kernel
theorem dX4_readNumber_79 : decode cX4_readNumber 79 = .ok (.istore_n 3, 1) := by decide +kernel
theorem dX4_readNumber_80 : decode cX4_readNumber 80 = .ok (.aload_n 0, 1) := by decide +kernel
theorem dX4_readNumber_81 : decode cX4_readNumber 81 = .ok (.dup, 1) := by decide +kernel
theorem dX4_readNumber_82 : decode cX4_readNumber 82 = .ok (.getfield 19, 3) := by decide +kernel
theorem dX4_readNumber_85 : decode cX4_readNumber 85 = .ok (.iconst 1, 1) := by decide +kernel
theorem dX4_readNumber_86 : decode cX4_readNumber 86 = .ok (.iadd, 1) := by decide +kernel
theorem dX4_readNumber_87 : decode cX4_readNumber 87 = .ok (.putfield 19, 3) := by decide +kernel
theorem dX4_readNumber_90 : decode cX4_readNumber 90 = .ok (.goto (-63), 3) := by decide +kernel
theorem dX4_readNumber_93 : decode cX4_readNumber 93 = .ok (.iload_n 3, 1) := by decide +kernel
theorem dX4_readNumber_94 : decode cX4_readNumber 94 = .ok (.bipush 99, 2) := by decide +kernel
theorem dX4_readNumber_96 : decode cX4_readNumber 96 = .ok (.if_icmp .le 10, 3) := by decide +kernel
theorem dX4_readNumber_99 : decode cX4_readNumber 99 = .ok (.iload_n 2, 1) := by decide +kernel
theorem dX4_readNumber_100 : decode cX4_readNumber 100 = .ok (.invokestatic 48, 3) := by decide +kernel
theorem dX4_readNumber_103 : decode cX4_readNumber 103 = .ok (.goto 4, 3) := by decide +kernel
theorem dX4_readNumber_106 : decode cX4_readNumber 106 = .ok (.iload_n 3, 1) := by decide +kernel
theorem dX4_readNumber_107 : decode cX4_readNumber 107 = .ok (.ireturn, 1) := by decide +kernel
theorem dX4_nextByte_0 : decode cX4_nextByte 0 = .ok (.aload_n 0, 1) := by decide +kernel
theorem dX4_nextByte_1 : decode cX4_nextByte 1 = .ok (.getfield 19, 3) := by decide +kernel
theorem dX4_nextByte_4 : decode cX4_nextByte 4 = .ok (.aload_n 0, 1) := by decide +kernel
theorem dX4_nextByte_5 : decode cX4_nextByte 5 = .ok (.getfield 15, 3) := by decide +kernel
theorem dX4_nextByte_8 : decode cX4_nextByte 8 = .ok (.if_icmp .ge 44, 3) := by decide +kernel
theorem dX4_nextByte_11 : decode cX4_nextByte 11 = .ok (.aload_n 0, 1) := by decide +kernel
theorem dX4_nextByte_12 : decode cX4_nextByte 12 = .ok (.getfield 9, 3) := by decide +kernel
theorem dX4_nextByte_15 : decode cX4_nextByte 15 = .ok (.aload_n 0, 1) := by decide +kernel
theorem dX4_nextByte_16 : decode cX4_nextByte 16 = .ok (.getfield 19, 3) := by decide +kernel
theorem dX4_nextByte_19 : decode cX4_nextByte 19 = .ok (.invokestatic 63, 3) := by decide +kernel
theorem dX4_nextByte_22 : decode cX4_nextByte 22 = .ok (.bipush 32, 2) := by decide +kernel
theorem dX4_nextByte_24 : decode cX4_nextByte 24 = .ok (.if_icmp .eq 15, 3) := by decide +kernel
theorem dX4_nextByte_27 : decode cX4_nextByte 27 = .ok (.aload_n 0, 1) := by decide +kernel
theorem dX4_nextByte_28 : decode cX4_nextByte 28 = .ok (.getfield 9, 3) := by decide +kernel
theorem dX4_nextByte_31 : decode cX4_nextByte 31 = .ok (.aload_n 0, 1) := by decide +kernel
theorem dX4_nextByte_32 : decode cX4_nextByte 32 = .ok (.getfield 19, 3) := by decide +kernel
theorem dX4_nextByte_35 : decode cX4_nextByte 35 = .ok (.invokestatic 63, 3) := by decide +kernel
theorem dX4_nextByte_38 : decode cX4_nextByte 38 = .ok (.ireturn, 1) := by decide +kernel
theorem dX4_nextByte_39 : decode cX4_nextByte 39 = .ok (.aload_n 0, 1) := by decide +kernel
theorem dX4_nextByte_40 : decode cX4_nextByte 40 = .ok (.dup, 1) := by decide +kernel
theorem dX4_nextByte_41 : decode cX4_nextByte 41 = .ok (.getfield 19, 3) := by decide +kernel
theorem dX4_nextByte_44 : decode cX4_nextByte 44 = .ok (.iconst 1, 1) := by decide +kernel
theorem dX4_nextByte_45 : decode cX4_nextByte 45 = .ok (.iadd, 1) := by decide +kernel
theorem dX4_nextByte_46 : decode cX4_nextByte 46 = .ok (.putfield 19, 3) := by decide +kernel
theorem dX4_nextByte_49 : decode cX4_nextByte 49 = .ok (.goto (-49), 3) := by decide +kernel
theorem dX4_nextByte_52 : decode cX4_nextByte 52 = .ok (.iconst (-1), 1) := by decide +kernel
theorem dX4_nextByte_53 : decode cX4_nextByte 53 = .ok (.ireturn, 1) := by decide +kernel
theorem dX4_isDigit_0 : decode cX4_isDigit 0 = .ok (.iload_n 0, 1) := by decide +kernel
theorem dX4_isDigit_1 : decode cX4_isDigit 1 = .ok (.bipush 48, 2) := by decide +kernel
theorem dX4_isDigit_3 : decode cX4_isDigit 3 = .ok (.if_icmp .lt 13, 3) := by decide +kernel
theorem dX4_isDigit_6 : decode cX4_isDigit 6 = .ok (.iload_n 0, 1) := by decide +kernel
theorem dX4_isDigit_7 : decode cX4_isDigit 7 = .ok (.bipush 57, 2) := by decide +kernel
theorem dX4_isDigit_9 : decode cX4_isDigit 9 = .ok (.if_icmp .gt 7, 3) := by decide +kernel
theorem dX4_isDigit_12 : decode cX4_isDigit 12 = .ok (.iconst 1, 1) := by decide +kernel
theorem dX4_isDigit_13 : decode cX4_isDigit 13 = .ok (.goto 4, 3) := by decide +kernel
theorem dX4_isDigit_16 : decode cX4_isDigit 16 = .ok (.iconst 0, 1) := by decide +kernel
theorem dX4_isDigit_17 : decode cX4_isDigit 17 = .ok (.ireturn, 1) := by decide +kernel
theorem dX4_faultAt_0 : decode cX4_faultAt 0 = .ok (.bipush (-20), 2) := by decide +kernel
theorem dX4_faultAt_2 : decode cX4_faultAt 2 = .ok (.iload_n 0, 1) := by decide +kernel
theorem dX4_faultAt_3 : decode cX4_faultAt 3 = .ok (.isub, 1) := by decide +kernel
theorem dX4_faultAt_4 : decode cX4_faultAt 4 = .ok (.ireturn, 1) := by decide +kernel
theorem dX5_manyFit_0 : decode cX5_manyFit 0 = .ok (.iload_n 2, 1) := by decide +kernel
theorem dX5_manyFit_1 : decode cX5_manyFit 1 = .ok (.iload_n 3, 1) := by decide +kernel
theorem dX5_manyFit_2 : decode cX5_manyFit 2 = .ok (.iconst (-1), 1) := by decide +kernel
theorem dX5_manyFit_3 : decode cX5_manyFit 3 = .ok (.ixor, 1) := by decide +kernel
theorem dX5_manyFit_4 : decode cX5_manyFit 4 = .ok (.iand, 1) := by decide +kernel
theorem dX5_manyFit_5 : decode cX5_manyFit 5 = .ok (.istore 6, 2) := by decide +kernel
theorem dX5_manyFit_7 : decode cX5_manyFit 7 = .ok (.iconst 0, 1) := by decide +kernel
theorem dX5_manyFit_8 : decode cX5_manyFit 8 = .ok (.istore 7, 2) := by decide +kernel
theorem dX5_manyFit_10 : decode cX5_manyFit 10 = .ok (.iload 7, 2) := by decide +kernel
theorem dX5_manyFit_12 : decode cX5_manyFit 12 = .ok (.iload 5, 2) := by decide +kernel
theorem dX5_manyFit_14 : decode cX5_manyFit 14 = .ok (.if_icmp .gt 37, 3) := by decide +kernel
theorem dX5_manyFit_17 : decode cX5_manyFit 17 = .ok (.iload 7, 2) := by decide +kernel
theorem dX5_manyFit_19 : decode cX5_manyFit 19 = .ok (.bipush 9, 2) := by decide +kernel
theorem dX5_manyFit_21 : decode cX5_manyFit 21 = .ok (.if_icmp .gt 30, 3) := by decide +kernel
theorem dX5_manyFit_24 : decode cX5_manyFit 24 = .ok (.aload_n 0, 1) := by decide +kernel
theorem dX5_manyFit_25 : decode cX5_manyFit 25 = .ok (.getfield 12, 3) := by decide +kernel
theorem dX5_manyFit_28 : decode cX5_manyFit 28 = .ok (.bipush 28, 2) := by decide +kernel
theorem dX5_manyFit_30 : decode cX5_manyFit 30 = .ok (.iload 7, 2) := by decide +kernel
theorem dX5_manyFit_32 : decode cX5_manyFit 32 = .ok (.iload 7, 2) := by decide +kernel
theorem dX5_manyFit_34 : decode cX5_manyFit 34 = .ok (.ifCond .ne 7, 3) := by decide +kernel
theorem dX5_manyFit_37 : decode cX5_manyFit 37 = .ok (.iconst 1, 1) := by decide +kernel
theorem dX5_manyFit_38 : decode cX5_manyFit 38 = .ok (.goto 4, 3) := by decide +kernel
theorem dX5_manyFit_41 : decode cX5_manyFit 41 = .ok (.iconst 0, 1) := by decide +kernel
theorem dX5_manyFit_42 : decode cX5_manyFit 42 = .ok (.invokevirtual 18, 3) := by decide +kernel
theorem dX5_manyFit_45 : decode cX5_manyFit 45 = .ok (.iinc 7 1, 3) := by decide +kernel
theorem dX5_manyFit_48 : decode cX5_manyFit 48 = .ok (.goto (-38), 3) := by decide +kernel
theorem dX5_manyFit_51 : decode cX5_manyFit 51 = .ok (.bipush 27, 2) := by decide +kernel
theorem dX5_manyFit_53 : decode cX5_manyFit 53 = .ok (.istore 7, 2) := by decide +kernel
theorem dX5_manyFit_55 : decode cX5_manyFit 55 = .ok (.iload 7, 2) := by decide +kernel
theorem dX5_manyFit_57 : decode cX5_manyFit 57 = .ok (.ifCond .lt 104, 3) := by decide +kernel
theorem dX5_manyFit_60 : decode cX5_manyFit 60 = .ok (.iconst 0, 1) := by decide +kernel
theorem dX5_manyFit_61 : decode cX5_manyFit 61 = .ok (.istore 8, 2) := by decide +kernel
theorem dX5_manyFit_63 : decode cX5_manyFit 63 = .ok (.iload 8, 2) := by decide +kernel
theorem dX5_manyFit_65 : decode cX5_manyFit 65 = .ok (.iload 5, 2) := by decide +kernel
theorem dX5_manyFit_67 : decode cX5_manyFit 67 = .ok (.if_icmp .gt 88, 3) := by decide +kernel
theorem dX5_manyFit_70 : decode cX5_manyFit 70 = .ok (.iload 8, 2) := by decide +kernel
theorem dX5_manyFit_72 : decode cX5_manyFit 72 = .ok (.bipush 9, 2) := by decide +kernel
theorem dX5_manyFit_74 : decode cX5_manyFit 74 = .ok (.if_icmp .gt 81, 3) := by decide +kernel
theorem dX5_manyFit_77 : decode cX5_manyFit 77 = .ok (.iload 4, 2) := by decide +kernel
theorem dX5_manyFit_79 : decode cX5_manyFit 79 = .ok (.iload 7, 2) := by decide +kernel
theorem dX5_manyFit_81 : decode cX5_manyFit 81 = .ok (.invokestatic 22, 3) := by decide +kernel
theorem dX5_manyFit_84 : decode cX5_manyFit 84 = .ok (.ifCond .eq 7, 3) := by decide +kernel
theorem dX5_manyFit_87 : decode cX5_manyFit 87 = .ok (.iconst 0, 1) := by decide +kernel
theorem dX5_manyFit_88 : decode cX5_manyFit 88 = .ok (.goto 16, 3) := by decide +kernel
theorem dX5_manyFit_91 : decode cX5_manyFit 91 = .ok (.aload_n 0, 1) := by decide +kernel
theorem dX5_manyFit_92 : decode cX5_manyFit 92 = .ok (.getfield 12, 3) := by decide +kernel
theorem dX5_manyFit_95 : decode cX5_manyFit 95 = .ok (.iload 7, 2) := by decide +kernel
theorem dX5_manyFit_97 : decode cX5_manyFit 97 = .ok (.iconst 1, 1) := by decide +kernel
theorem dX5_manyFit_98 : decode cX5_manyFit 98 = .ok (.iadd, 1) := by decide +kernel
theorem dX5_manyFit_99 : decode cX5_manyFit 99 = .ok (.iload 8, 2) := by decide +kernel
theorem dX5_manyFit_101 : decode cX5_manyFit 101 = .ok (.invokevirtual 26, 3) := by decide +kernel
theorem dX5_manyFit_104 : decode cX5_manyFit 104 = .ok (.istore 9, 2) := by decide +kernel
theorem dX5_manyFit_106 : decode cX5_manyFit 106 = .ok (.iload 6, 2) := by decide +kernel
theorem dX5_manyFit_108 : decode cX5_manyFit 108 = .ok (.iload 7, 2) := by decide +kernel
theorem dX5_manyFit_110 : decode cX5_manyFit 110 = .ok (.invokestatic 22, 3) := by decide +kernel
theorem dX5_manyFit_113 : decode cX5_manyFit 113 = .ok (.ifCond .eq 17, 3) := by decide +kernel
theorem dX5_manyFit_116 : decode cX5_manyFit 116 = .ok (.aload_n 0, 1) := by decide +kernel
theorem dX5_manyFit_117 : decode cX5_manyFit 117 = .ok (.iload_n 1, 1) := by decide +kernel
theorem dX5_manyFit_118 : decode cX5_manyFit 118 = .ok (.iload 4, 2) := by decide +kernel
theorem dX5_manyFit_120 : decode cX5_manyFit 120 = .ok (.iload 7, 2) := by decide +kernel
theorem dX5_manyFit_122 : decode cX5_manyFit 122 = .ok (.iload 8, 2) := by decide +kernel
theorem dX5_manyFit_124 : decode cX5_manyFit 124 = .ok (.invokevirtual 30, 3) := by decide +kernel
theorem dX5_manyFit_127 : decode cX5_manyFit 127 = .ok (.goto 4, 3) := by decide +kernel
theorem dX5_manyFit_130 : decode cX5_manyFit 130 = .ok (.iconst 0, 1) := by decide +kernel
theorem dX5_manyFit_131 : decode cX5_manyFit 131 = .ok (.istore 10, 2) := by decide +kernel
theorem dX5_manyFit_133 : decode cX5_manyFit 133 = .ok (.aload_n 0, 1) := by decide +kernel
theorem dX5_manyFit_134 : decode cX5_manyFit 134 = .ok (.getfield 12, 3) := by decide +kernel
theorem dX5_manyFit_137 : decode cX5_manyFit 137 = .ok (.iload 7, 2) := by decide +kernel
theorem dX5_manyFit_139 : decode cX5_manyFit 139 = .ok (.iload 8, 2) := by decide +kernel
theorem dX5_manyFit_141 : decode cX5_manyFit 141 = .ok (.iload 9, 2) := by decide +kernel
theorem dX5_manyFit_143 : decode cX5_manyFit 143 = .ok (.iload 10, 2) := by decide +kernel
theorem dX5_manyFit_145 : decode cX5_manyFit 145 = .ok (.iadd, 1) := by decide +kernel
theorem dX5_manyFit_146 : decode cX5_manyFit 146 = .ok (.invokevirtual 18, 3) := by decide +kernel
theorem dX5_manyFit_149 : decode cX5_manyFit 149 = .ok (.iinc 8 1, 3) := by decide +kernel
theorem dX5_manyFit_152 : decode cX5_manyFit 152 = .ok (.goto (-89), 3) := by decide +kernel
theorem dX5_manyFit_155 : decode cX5_manyFit 155 = .ok (.iinc 7 (-1), 3) := by decide +kernel
theorem dX5_manyFit_158 : decode cX5_manyFit 158 = .ok (.goto (-103), 3) := by decide +kernel
theorem dX5_manyFit_161 : decode cX5_manyFit 161 = .ok (.aload_n 0, 1) := by decide +kernel
theorem dX5_manyFit_162 : decode cX5_manyFit 162 = .ok (.getfield 12, 3) := by decide +kernel
theorem dX5_manyFit_165 : decode cX5_manyFit 165 = .ok (.iconst 0, 1) := by decide +kernel
theorem dX5_manyFit_166 : decode cX5_manyFit 166 = .ok (.iload 5, 2) := by decide +kernel
theorem dX5_manyFit_168 : decode cX5_manyFit 168 = .ok (.invokevirtual 26, 3) := by decide +kernel
theorem dX5_manyFit_171 : decode cX5_manyFit 171 = .ok (.ireturn, 1) := by decide +kernel
theorem dX5_fitBehind_0 : decode cX5_fitBehind 0 = .ok (.iload 4, 2) := by decide +kernel
theorem dX5_fitBehind_2 : decode cX5_fitBehind 2 = .ok (.ifCond .le 11, 3) := by decide +kernel
theorem dX5_fitBehind_5 : decode cX5_fitBehind 5 = .ok (.iload_n 1, 1) := by decide +kernel
theorem dX5_fitBehind_6 : decode cX5_fitBehind 6 = .ok (.iload_n 3, 1) := by decide +kernel
theorem dX5_fitBehind_7 : decode cX5_fitBehind 7 = .ok (.invokestatic 34, 3) := by decide +kernel
theorem dX5_fitBehind_10 : decode cX5_fitBehind 10 = .ok (.ifCond .ne 5, 3) := by decide +kernel
theorem dX5_fitBehind_13 : decode cX5_fitBehind 13 = .ok (.iconst 0, 1) := by decide +kernel
theorem dX5_fitBehind_14 : decode cX5_fitBehind 14 = .ok (.ireturn, 1) := by decide +kernel
theorem dX5_fitBehind_15 : decode cX5_fitBehind 15 = .ok (.iload_n 1, 1) := by decide +kernel
theorem dX5_fitBehind_16 : decode cX5_fitBehind 16 = .ok (.iload_n 3, 1) := by decide +kernel
theorem dX5_fitBehind_17 : decode cX5_fitBehind 17 = .ok (.invokestatic 37, 3) := by decide +kernel
theorem dX5_fitBehind_20 : decode cX5_fitBehind 20 = .ok (.bipush 28, 2) := by decide +kernel
theorem dX5_fitBehind_22 : decode cX5_fitBehind 22 = .ok (.invokestatic 40, 3) := by decide +kernel
theorem dX5_fitBehind_25 : decode cX5_fitBehind 25 = .ok (.istore 5, 2) := by decide +kernel
theorem dX5_fitBehind_27 : decode cX5_fitBehind 27 = .ok (.iload_n 3, 1) := by decide +kernel
theorem dX5_fitBehind_28 : decode cX5_fitBehind 28 = .ok (.iconst 1, 1) := by decide +kernel
theorem dX5_fitBehind_29 : decode cX5_fitBehind 29 = .ok (.iadd, 1) := by decide +kernel
theorem dX5_fitBehind_30 : decode cX5_fitBehind 30 = .ok (.istore 6, 2) := by decide +kernel
theorem dX5_fitBehind_32 : decode cX5_fitBehind 32 = .ok (.iload 6, 2) := by decide +kernel
theorem dX5_fitBehind_34 : decode cX5_fitBehind 34 = .ok (.iload 5, 2) := by decide +kernel
theorem dX5_fitBehind_36 : decode cX5_fitBehind 36 = .ok (.if_icmp .ge 20, 3) := by decide +kernel
theorem dX5_fitBehind_39 : decode cX5_fitBehind 39 = .ok (.iload_n 2, 1) := by decide +kernel
theorem dX5_fitBehind_40 : decode cX5_fitBehind 40 = .ok (.iload 6, 2) := by decide +kernel
theorem dX5_fitBehind_42 : decode cX5_fitBehind 42 = .ok (.invokestatic 22, 3) := by decide +kernel
theorem dX5_fitBehind_45 : decode cX5_fitBehind 45 = .ok (.ifCond .eq 5, 3) := by decide +kernel
theorem dX5_fitBehind_48 : decode cX5_fitBehind 48 = .ok (.iconst 0, 1) := by decide +kernel
theorem dX5_fitBehind_49 : decode cX5_fitBehind 49 = .ok (.ireturn, 1) := by decide +kernel
theorem dX5_fitBehind_50 : decode cX5_fitBehind 50 = .ok (.iinc 6 1, 3) := by decide +kernel
theorem dX5_fitBehind_53 : decode cX5_fitBehind 53 = .ok (.goto (-21), 3) := by decide +kernel
theorem dX5_fitBehind_56 : decode cX5_fitBehind 56 = .ok (.aload_n 0, 1) := by decide +kernel
theorem dX5_fitBehind_57 : decode cX5_fitBehind 57 = .ok (.getfield 12, 3) := by decide +kernel
theorem dX5_fitBehind_60 : decode cX5_fitBehind 60 = .ok (.iload 5, 2) := by decide +kernel
theorem dX5_fitBehind_62 : decode cX5_fitBehind 62 = .ok (.iload 4, 2) := by decide +kernel
theorem dX5_fitBehind_64 : decode cX5_fitBehind 64 = .ok (.iconst 1, 1) := by decide +kernel
theorem dX5_fitBehind_65 : decode cX5_fitBehind 65 = .ok (.isub, 1) := by decide +kernel
theorem dX5_fitBehind_66 : decode cX5_fitBehind 66 = .ok (.invokevirtual 26, 3) := by decide +kernel
theorem dX5_fitBehind_69 : decode cX5_fitBehind 69 = .ok (.ireturn, 1) := by decide +kernel
theorem dX6_tell_0 : decode cX6_tell 0 = .ok (.aload_n 0, 1) := by decide +kernel
theorem dX6_tell_1 : decode cX6_tell 1 = .ok (.getfield 18, 3) := by decide +kernel
theorem dX6_tell_4 : decode cX6_tell 4 = .ok (.iload_n 1, 1) := by decide +kernel
theorem dX6_tell_5 : decode cX6_tell 5 = .ok (.invokestatic 22, 3) := by decide +kernel
theorem dX6_tell_8 : decode cX6_tell 8 = .ok (.ireturn, 1) := by decide +kernel
theorem dX6_change_0 : decode cX6_change 0 = .ok (.aload_n 0, 1) := by decide +kernel
theorem dX6_change_1 : decode cX6_change 1 = .ok (.getfield 18, 3) := by decide +kernel
theorem dX6_change_4 : decode cX6_change 4 = .ok (.iload_n 1, 1) := by decide +kernel
theorem dX6_change_5 : decode cX6_change 5 = .ok (.iload_n 2, 1) := by decide +kernel
theorem dX6_change_6 : decode cX6_change 6 = .ok (.invokestatic 26, 3) := by decide +kernel
theorem dX6_change_9 : decode cX6_change 9 = .ok (.ireturn, 1) := by decide +kernel
theorem dX6_become_0 : decode cX6_become 0 = .ok (.aload_n 0, 1) := by decide +kernel
theorem dX6_become_1 : decode cX6_become 1 = .ok (.getfield 12, 3) := by decide +kernel
theorem dX6_become_4 : decode cX6_become 4 = .ok (.aload_n 1, 1) := by decide +kernel
theorem dX6_become_5 : decode cX6_become 5 = .ok (.getfield 12, 3) := by decide +kernel
theorem dX6_become_8 : decode cX6_become 8 = .ok (.invokevirtual 30, 3) := by decide +kernel
theorem dX6_become_11 : decode cX6_become 11 = .ok (.aload_n 1, 1) := by decide +kernel
theorem dX6_become_12 : decode cX6_become 12 = .ok (.getfield 18, 3) := by decide +kernel
theorem dX6_become_15 : decode cX6_become 15 = .ok (.iconst 0, 1) := by decide +kernel
theorem dX6_become_16 : decode cX6_become 16 = .ok (.aload_n 0, 1) := by decide +kernel
theorem dX6_become_17 : decode cX6_become 17 = .ok (.getfield 18, 3) := by decide +kernel
theorem dX6_become_20 : decode cX6_become 20 = .ok (.iconst 0, 1) := by decide +kernel
theorem dX6_become_21 : decode cX6_become 21 = .ok (.aload_n 0, 1) := by decide +kernel
theorem dX6_become_22 : decode cX6_become 22 = .ok (.getfield 18, 3) := by decide +kernel
theorem dX6_become_25 : decode cX6_become 25 = .ok (.arraylength, 1) := by decide +kernel
theorem dX6_become_26 : decode cX6_become 26 = .ok (.invokestatic 34, 3) := by decide +kernel
theorem dX6_become_29 : decode cX6_become 29 = .ok (.return_, 1) := by decide +kernel
theorem dX6_mayLie_0 : decode cX6_mayLie 0 = .ok (.iload_n 1, 1) := by decide +kernel
theorem dX6_mayLie_1 : decode cX6_mayLie 1 = .ok (.iload_n 2, 1) := by decide +kernel
theorem dX6_mayLie_2 : decode cX6_mayLie 2 = .ok (.if_icmp .lt 30, 3) := by decide +kernel
theorem dX6_mayLie_5 : decode cX6_mayLie 5 = .ok (.aload_n 0, 1) := by decide +kernel
theorem dX6_mayLie_6 : decode cX6_mayLie 6 = .ok (.getfield 12, 3) := by decide +kernel
theorem dX6_mayLie_9 : decode cX6_mayLie 9 = .ok (.iload_n 1, 1) := by decide +kernel
theorem dX6_mayLie_10 : decode cX6_mayLie 10 = .ok (.invokevirtual 40, 3) := by decide +kernel
theorem dX6_mayLie_13 : decode cX6_mayLie 13 = .ok (.ifCond .ne 19, 3) := by decide +kernel
theorem dX6_mayLie_16 : decode cX6_mayLie 16 = .ok (.aload_n 0, 1) := by decide +kernel
theorem dX6_mayLie_17 : decode cX6_mayLie 17 = .ok (.iconst 1, 1) := by decide +kernel
theorem dX6_mayLie_18 : decode cX6_mayLie 18 = .ok (.invokevirtual 44, 3) := by decide +kernel
theorem dX6_mayLie_21 : decode cX6_mayLie 21 = .ok (.iload_n 1, 1) := by decide +kernel
theorem dX6_mayLie_22 : decode cX6_mayLie 22 = .ok (.invokestatic 48, 3) := by decide +kernel
theorem dX6_mayLie_25 : decode cX6_mayLie 25 = .ok (.ifCond .eq 7, 3) := by decide +kernel
theorem dX6_mayLie_28 : decode cX6_mayLie 28 = .ok (.iconst 1, 1) := by decide +kernel
theorem dX6_mayLie_29 : decode cX6_mayLie 29 = .ok (.goto 4, 3) := by decide +kernel
theorem dX6_mayLie_32 : decode cX6_mayLie 32 = .ok (.iconst 0, 1) := by decide +kernel
theorem dX6_mayLie_33 : decode cX6_mayLie 33 = .ok (.ireturn, 1) := by decide +kernel
theorem dX6_openBehind_0 : decode cX6_openBehind 0 = .ok (.iconst 0, 1) := by decide +kernel
theorem dX6_openBehind_1 : decode cX6_openBehind 1 = .ok (.istore_n 2, 1) := by decide +kernel
theorem dX6_openBehind_2 : decode cX6_openBehind 2 = .ok (.iconst 0, 1) := by decide +kernel
theorem dX6_openBehind_3 : decode cX6_openBehind 3 = .ok (.istore_n 3, 1) := by decide +kernel
theorem dX6_openBehind_4 : decode cX6_openBehind 4 = .ok (.iload_n 3, 1) := by decide +kernel
theorem dX6_openBehind_5 : decode cX6_openBehind 5 = .ok (.aload_n 0, 1) := by decide +kernel
theorem dX6_openBehind_6 : decode cX6_openBehind 6 = .ok (.getfield 12, 3) := by decide +kernel
theorem dX6_openBehind_9 : decode cX6_openBehind 9 = .ok (.getfield 52, 3) := by decide +kernel
theorem dX6_openBehind_12 : decode cX6_openBehind 12 = .ok (.if_icmp .ge 27, 3) := by decide +kernel
theorem dX6_openBehind_15 : decode cX6_openBehind 15 = .ok (.iload_n 1, 1) := by decide +kernel
theorem dX6_openBehind_16 : decode cX6_openBehind 16 = .ok (.iload_n 3, 1) := by decide +kernel
theorem dX6_openBehind_17 : decode cX6_openBehind 17 = .ok (.invokestatic 56, 3) := by decide +kernel
theorem dX6_openBehind_20 : decode cX6_openBehind 20 = .ok (.ifCond .eq 13, 3) := by decide +kernel
theorem dX6_openBehind_23 : decode cX6_openBehind 23 = .ok (.aload_n 0, 1) := by decide +kernel
theorem dX6_openBehind_24 : decode cX6_openBehind 24 = .ok (.iconst 1, 1) := by decide +kernel
theorem dX6_openBehind_25 : decode cX6_openBehind 25 = .ok (.invokevirtual 44, 3) := by decide +kernel
theorem dX6_openBehind_28 : decode cX6_openBehind 28 = .ok (.iload_n 3, 1) := by decide +kernel
theorem dX6_openBehind_29 : decode cX6_openBehind 29 = .ok (.invokestatic 59, 3) := by decide +kernel
theorem dX6_openBehind_32 : decode cX6_openBehind 32 = .ok (.istore_n 2, 1) := by decide +kernel
theorem dX6_openBehind_33 : decode cX6_openBehind 33 = .ok (.iinc 3 1, 3) := by decide +kernel
theorem dX6_openBehind_36 : decode cX6_openBehind 36 = .ok (.goto (-32), 3) := by decide +kernel
theorem dX6_openBehind_39 : decode cX6_openBehind 39 = .ok (.iconst 0, 1) := by decide +kernel
theorem dX6_openBehind_40 : decode cX6_openBehind 40 = .ok (.istore_n 3, 1) := by decide +kernel
theorem dX6_openBehind_41 : decode cX6_openBehind 41 = .ok (.iload_n 2, 1) := by decide +kernel
theorem dX6_openBehind_42 : decode cX6_openBehind 42 = .ok (.istore 4, 2) := by decide +kernel
theorem dX6_openBehind_44 : decode cX6_openBehind 44 = .ok (.iload 4, 2) := by decide +kernel
theorem dX6_openBehind_46 : decode cX6_openBehind 46 = .ok (.aload_n 0, 1) := by decide +kernel
theorem dX6_openBehind_47 : decode cX6_openBehind 47 = .ok (.getfield 12, 3) := by decide +kernel
theorem dX6_openBehind_50 : decode cX6_openBehind 50 = .ok (.getfield 52, 3) := by decide +kernel
theorem dX6_openBehind_53 : decode cX6_openBehind 53 = .ok (.if_icmp .ge 30, 3) := by decide +kernel
theorem dX6_openBehind_56 : decode cX6_openBehind 56 = .ok (.iload_n 3, 1) := by decide +kernel
theorem dX6_openBehind_57 : decode cX6_openBehind 57 = .ok (.aload_n 0, 1) := by decide +kernel
theorem dX6_openBehind_58 : decode cX6_openBehind 58 = .ok (.iload 4, 2) := by decide +kernel
theorem dX6_openBehind_60 : decode cX6_openBehind 60 = .ok (.iload_n 2, 1) := by decide +kernel
theorem dX6_openBehind_61 : decode cX6_openBehind 61 = .ok (.invokevirtual 63, 3) := by decide +kernel
theorem dX6_openBehind_64 : decode cX6_openBehind 64 = .ok (.ifCond .eq 10, 3) := by decide +kernel
theorem dX6_openBehind_67 : decode cX6_openBehind 67 = .ok (.iconst 1, 1) := by decide +kernel
theorem dX6_openBehind_68 : decode cX6_openBehind 68 = .ok (.iload 4, 2) := by decide +kernel
theorem dX6_openBehind_70 : decode cX6_openBehind 70 = .ok (.ishl, 1) := by decide +kernel
theorem dX6_openBehind_71 : decode cX6_openBehind 71 = .ok (.goto 4, 3) := by decide +kernel
theorem dX6_openBehind_74 : decode cX6_openBehind 74 = .ok (.iconst 0, 1) := by decide +kernel
theorem dX6_openBehind_75 : decode cX6_openBehind 75 = .ok (.ior, 1) := by decide +kernel
theorem dX6_openBehind_76 : decode cX6_openBehind 76 = .ok (.istore_n 3, 1) := by decide +kernel
theorem dX6_openBehind_77 : decode cX6_openBehind 77 = .ok (.iinc 4 1, 3) := by decide +kernel
theorem dX6_openBehind_80 : decode cX6_openBehind 80 = .ok (.goto (-36), 3) := by decide +kernel
theorem dX6_openBehind_83 : decode cX6_openBehind 83 = .ok (.iload_n 3, 1) := by decide +kernel
theorem dX6_openBehind_84 : decode cX6_openBehind 84 = .ok (.ireturn, 1) := by decide +kernel
theorem dX6_firstWrong_0 : decode cX6_firstWrong 0 = .ok (.iconst 0, 1) := by decide +kernel
theorem dX6_firstWrong_1 : decode cX6_firstWrong 1 = .ok (.istore_n 2, 1) := by decide +kernel
theorem dX6_firstWrong_2 : decode cX6_firstWrong 2 = .ok (.iconst 0, 1) := by decide +kernel
theorem dX6_firstWrong_3 : decode cX6_firstWrong 3 = .ok (.istore_n 3, 1) := by decide +kernel
theorem dX6_firstWrong_4 : decode cX6_firstWrong 4 = .ok (.iload_n 3, 1) := by decide +kernel
theorem dX6_firstWrong_5 : decode cX6_firstWrong 5 = .ok (.aload_n 0, 1) := by decide +kernel
theorem dX6_firstWrong_6 : decode cX6_firstWrong 6 = .ok (.getfield 12, 3) := by decide +kernel
theorem dX6_firstWrong_9 : decode cX6_firstWrong 9 = .ok (.getfield 52, 3) := by decide +kernel
theorem dX6_firstWrong_12 : decode cX6_firstWrong 12 = .ok (.if_icmp .ge 47, 3) := by decide +kernel
theorem dX6_firstWrong_15 : decode cX6_firstWrong 15 = .ok (.iload_n 1, 1) := by decide +kernel
theorem dX6_firstWrong_16 : decode cX6_firstWrong 16 = .ok (.iload_n 3, 1) := by decide +kernel
theorem dX6_firstWrong_17 : decode cX6_firstWrong 17 = .ok (.invokestatic 56, 3) := by decide +kernel
theorem dX6_firstWrong_20 : decode cX6_firstWrong 20 = .ok (.ifCond .eq 33, 3) := by decide +kernel
theorem dX6_firstWrong_23 : decode cX6_firstWrong 23 = .ok (.aload_n 0, 1) := by decide +kernel
theorem dX6_firstWrong_24 : decode cX6_firstWrong 24 = .ok (.iload_n 1, 1) := by decide +kernel
theorem dX6_firstWrong_25 : decode cX6_firstWrong 25 = .ok (.iload_n 3, 1) := by decide +kernel
theorem dX6_firstWrong_26 : decode cX6_firstWrong 26 = .ok (.invokevirtual 66, 3) := by decide +kernel
theorem dX6_firstWrong_29 : decode cX6_firstWrong 29 = .ok (.ifCond .le 12, 3) := by decide +kernel
theorem dX6_firstWrong_32 : decode cX6_firstWrong 32 = .ok (.aload_n 0, 1) := by decide +kernel
theorem dX6_firstWrong_33 : decode cX6_firstWrong 33 = .ok (.iload_n 3, 1) := by decide +kernel
theorem dX6_firstWrong_34 : decode cX6_firstWrong 34 = .ok (.iload_n 2, 1) := by decide +kernel
theorem dX6_firstWrong_35 : decode cX6_firstWrong 35 = .ok (.invokevirtual 63, 3) := by decide +kernel
theorem dX6_firstWrong_38 : decode cX6_firstWrong 38 = .ok (.ifCond .ne 5, 3) := by decide +kernel
theorem dX6_firstWrong_41 : decode cX6_firstWrong 41 = .ok (.iload_n 3, 1) := by decide +kernel
theorem dX6_firstWrong_42 : decode cX6_firstWrong 42 = .ok (.ireturn, 1) := by decide +kernel
theorem dX6_firstWrong_43 : decode cX6_firstWrong 43 = .ok (.aload_n 0, 1) := by decide +kernel
theorem dX6_firstWrong_44 : decode cX6_firstWrong 44 = .ok (.iconst 1, 1) := by decide +kernel
theorem dX6_firstWrong_45 : decode cX6_firstWrong 45 = .ok (.invokevirtual 44, 3) := by decide +kernel
theorem dX6_firstWrong_48 : decode cX6_firstWrong 48 = .ok (.iload_n 3, 1) := by decide +kernel
theorem dX6_firstWrong_49 : decode cX6_firstWrong 49 = .ok (.invokestatic 59, 3) := by decide +kernel
theorem dX6_firstWrong_52 : decode cX6_firstWrong 52 = .ok (.istore_n 2, 1) := by decide +kernel
theorem dX6_firstWrong_53 : decode cX6_firstWrong 53 = .ok (.iinc 3 1, 3) := by decide +kernel
theorem dX6_firstWrong_56 : decode cX6_firstWrong 56 = .ok (.goto (-52), 3) := by decide +kernel
theorem dX6_firstWrong_59 : decode cX6_firstWrong 59 = .ok (.bipush (-4), 2) := by decide +kernel
theorem dX6_firstWrong_61 : decode cX6_firstWrong 61 = .ok (.ireturn, 1) := by decide +kernel
theorem dX6_leftOn_0 : decode cX6_leftOn 0 = .ok (.aload_n 0, 1) := by decide +kernel
theorem dX6_leftOn_1 : decode cX6_leftOn 1 = .ok (.iconst 0, 1) := by decide +kernel
theorem dX6_leftOn_2 : decode cX6_leftOn 2 = .ok (.invokevirtual 44, 3) := by decide +kernel
theorem dX6_leftOn_5 : decode cX6_leftOn 5 = .ok (.iload_n 1, 1) := by decide +kernel
theorem dX6_leftOn_6 : decode cX6_leftOn 6 = .ok (.iconst 1, 1) := by decide +kernel
theorem dX6_leftOn_7 : decode cX6_leftOn 7 = .ok (.iload_n 2, 1) := by decide +kernel
theorem dX6_leftOn_8 : decode cX6_leftOn 8 = .ok (.ishl, 1) := by decide +kernel
theorem dX6_leftOn_9 : decode cX6_leftOn 9 = .ok (.iconst 1, 1) := by decide +kernel
theorem dX6_leftOn_10 : decode cX6_leftOn 10 = .ok (.isub, 1) := by decide +kernel
theorem dX6_leftOn_11 : decode cX6_leftOn 11 = .ok (.iand, 1) := by decide +kernel
theorem dX6_leftOn_12 : decode cX6_leftOn 12 = .ok (.invokestatic 69, 3) := by decide +kernel
theorem dX6_leftOn_15 : decode cX6_leftOn 15 = .ok (.isub, 1) := by decide +kernel
theorem dX6_leftOn_16 : decode cX6_leftOn 16 = .ok (.ireturn, 1) := by decide +kernel
theorem dX6_courtHas_0 : decode cX6_courtHas 0 = .ok (.aload_n 0, 1) := by decide +kernel
theorem dX6_courtHas_1 : decode cX6_courtHas 1 = .ok (.getfield 12, 3) := by decide +kernel
theorem dX6_courtHas_4 : decode cX6_courtHas 4 = .ok (.iload_n 2, 1) := by decide +kernel
theorem dX6_courtHas_5 : decode cX6_courtHas 5 = .ok (.iload_n 1, 1) := by decide +kernel
theorem dX6_courtHas_6 : decode cX6_courtHas 6 = .ok (.iload_n 2, 1) := by decide +kernel
theorem dX6_courtHas_7 : decode cX6_courtHas 7 = .ok (.invokestatic 56, 3) := by decide +kernel
theorem dX6_courtHas_10 : decode cX6_courtHas 10 = .ok (.aload_n 0, 1) := by decide +kernel
theorem dX6_courtHas_11 : decode cX6_courtHas 11 = .ok (.iload_n 1, 1) := by decide +kernel
theorem dX6_courtHas_12 : decode cX6_courtHas 12 = .ok (.iload_n 2, 1) := by decide +kernel
theorem dX6_courtHas_13 : decode cX6_courtHas 13 = .ok (.invokevirtual 66, 3) := by decide +kernel
theorem dX6_courtHas_16 : decode cX6_courtHas 16 = .ok (.aload_n 0, 1) := by decide +kernel
theorem dX6_courtHas_17 : decode cX6_courtHas 17 = .ok (.iconst 2, 1) := by decide +kernel
theorem dX6_courtHas_18 : decode cX6_courtHas 18 = .ok (.invokevirtual 44, 3) := by decide +kernel
theorem dX6_courtHas_21 : decode cX6_courtHas 21 = .ok (.invokevirtual 74, 3) := by decide +kernel
theorem dX6_courtHas_24 : decode cX6_courtHas 24 = .ok (.ireturn, 1) := by decide +kernel
theorem dX6_gainOf_0 : decode cX6_gainOf 0 = .ok (.iconst 0, 1) := by decide +kernel
theorem dX6_gainOf_1 : decode cX6_gainOf 1 = .ok (.istore_n 2, 1) := by decide +kernel
theorem dX6_gainOf_2 : decode cX6_gainOf 2 = .ok (.iconst 0, 1) := by decide +kernel
theorem dX6_gainOf_3 : decode cX6_gainOf 3 = .ok (.istore_n 3, 1) := by decide +kernel
theorem dX6_gainOf_4 : decode cX6_gainOf 4 = .ok (.iload_n 3, 1) := by decide +kernel
theorem dX6_gainOf_5 : decode cX6_gainOf 5 = .ok (.aload_n 0, 1) := by decide +kernel
theorem dX6_gainOf_6 : decode cX6_gainOf 6 = .ok (.getfield 12, 3) := by decide +kernel
theorem dX6_gainOf_9 : decode cX6_gainOf 9 = .ok (.getfield 52, 3) := by decide +kernel
theorem dX6_gainOf_12 : decode cX6_gainOf 12 = .ok (.if_icmp .ge 18, 3) := by decide +kernel
theorem dX6_gainOf_15 : decode cX6_gainOf 15 = .ok (.iload_n 2, 1) := by decide +kernel
theorem dX6_gainOf_16 : decode cX6_gainOf 16 = .ok (.aload_n 0, 1) := by decide +kernel
theorem dX6_gainOf_17 : decode cX6_gainOf 17 = .ok (.iload_n 1, 1) := by decide +kernel
theorem dX6_gainOf_18 : decode cX6_gainOf 18 = .ok (.iload_n 3, 1) := by decide +kernel
theorem dX6_gainOf_19 : decode cX6_gainOf 19 = .ok (.invokevirtual 78, 3) := by decide +kernel
theorem dX6_gainOf_22 : decode cX6_gainOf 22 = .ok (.iadd, 1) := by decide +kernel
theorem dX6_gainOf_23 : decode cX6_gainOf 23 = .ok (.istore_n 2, 1) := by decide +kernel
theorem dX6_gainOf_24 : decode cX6_gainOf 24 = .ok (.iinc 3 1, 3) := by decide +kernel
theorem dX6_gainOf_27 : decode cX6_gainOf 27 = .ok (.goto (-23), 3) := by decide +kernel
theorem dX6_gainOf_30 : decode cX6_gainOf 30 = .ok (.iload_n 2, 1) := by decide +kernel
theorem dX6_gainOf_31 : decode cX6_gainOf 31 = .ok (.ireturn, 1) := by decide +kernel
theorem dX6_trustedBy_0 : decode cX6_trustedBy 0 = .ok (.iconst 0, 1) := by decide +kernel
theorem dX6_trustedBy_1 : decode cX6_trustedBy 1 = .ok (.istore_n 2, 1) := by decide +kernel
theorem dX6_trustedBy_2 : decode cX6_trustedBy 2 = .ok (.iconst 0, 1) := by decide +kernel
theorem dX6_trustedBy_3 : decode cX6_trustedBy 3 = .ok (.istore_n 3, 1) := by decide +kernel
theorem dX6_trustedBy_4 : decode cX6_trustedBy 4 = .ok (.iload_n 3, 1) := by decide +kernel
theorem dX6_trustedBy_5 : decode cX6_trustedBy 5 = .ok (.aload_n 0, 1) := by decide +kernel
theorem dX6_trustedBy_6 : decode cX6_trustedBy 6 = .ok (.getfield 12, 3) := by decide +kernel
theorem dX6_trustedBy_9 : decode cX6_trustedBy 9 = .ok (.getfield 52, 3) := by decide +kernel
theorem dX6_trustedBy_12 : decode cX6_trustedBy 12 = .ok (.if_icmp .ge 68, 3) := by decide +kernel
theorem dX6_trustedBy_15 : decode cX6_trustedBy 15 = .ok (.iload_n 1, 1) := by decide +kernel
theorem dX6_trustedBy_16 : decode cX6_trustedBy 16 = .ok (.iload_n 3, 1) := by decide +kernel
theorem dX6_trustedBy_17 : decode cX6_trustedBy 17 = .ok (.invokestatic 56, 3) := by decide +kernel
theorem dX6_trustedBy_20 : decode cX6_trustedBy 20 = .ok (.ifCond .ne 14, 3) := by decide +kernel
theorem dX6_trustedBy_23 : decode cX6_trustedBy 23 = .ok (.aload_n 0, 1) := by decide +kernel
theorem dX6_trustedBy_24 : decode cX6_trustedBy 24 = .ok (.getfield 12, 3) := by decide +kernel
theorem dX6_trustedBy_27 : decode cX6_trustedBy 27 = .ok (.iload_n 3, 1) := by decide +kernel
theorem dX6_trustedBy_28 : decode cX6_trustedBy 28 = .ok (.invokevirtual 40, 3) := by decide +kernel
theorem dX6_trustedBy_31 : decode cX6_trustedBy 31 = .ok (.ifCond .eq 7, 3) := by decide +kernel
theorem dX6_trustedBy_34 : decode cX6_trustedBy 34 = .ok (.iconst 1, 1) := by decide +kernel
theorem dX6_trustedBy_35 : decode cX6_trustedBy 35 = .ok (.goto 4, 3) := by decide +kernel
theorem dX6_trustedBy_38 : decode cX6_trustedBy 38 = .ok (.iconst 0, 1) := by decide +kernel
theorem dX6_trustedBy_39 : decode cX6_trustedBy 39 = .ok (.istore 4, 2) := by decide +kernel
theorem dX6_trustedBy_41 : decode cX6_trustedBy 41 = .ok (.iload 4, 2) := by decide +kernel
theorem dX6_trustedBy_43 : decode cX6_trustedBy 43 = .ok (.ifCond .eq 31, 3) := by decide +kernel
theorem dX6_trustedBy_46 : decode cX6_trustedBy 46 = .ok (.aload_n 0, 1) := by decide +kernel
theorem dX6_trustedBy_47 : decode cX6_trustedBy 47 = .ok (.getfield 12, 3) := by decide +kernel
theorem dX6_trustedBy_50 : decode cX6_trustedBy 50 = .ok (.iload_n 3, 1) := by decide +kernel
theorem dX6_trustedBy_51 : decode cX6_trustedBy 51 = .ok (.aload_n 0, 1) := by decide +kernel
theorem dX6_trustedBy_52 : decode cX6_trustedBy 52 = .ok (.iload_n 1, 1) := by decide +kernel
theorem dX6_trustedBy_53 : decode cX6_trustedBy 53 = .ok (.iload_n 3, 1) := by decide +kernel
theorem dX6_trustedBy_54 : decode cX6_trustedBy 54 = .ok (.invokevirtual 66, 3) := by decide +kernel
theorem dX6_trustedBy_57 : decode cX6_trustedBy 57 = .ok (.aload_n 0, 1) := by decide +kernel
theorem dX6_trustedBy_58 : decode cX6_trustedBy 58 = .ok (.iconst 2, 1) := by decide +kernel
theorem dX6_trustedBy_59 : decode cX6_trustedBy 59 = .ok (.invokevirtual 44, 3) := by decide +kernel
theorem dX6_trustedBy_62 : decode cX6_trustedBy 62 = .ok (.invokevirtual 80, 3) := by decide +kernel
theorem dX6_trustedBy_65 : decode cX6_trustedBy 65 = .ok (.ifCond .eq 9, 3) := by decide +kernel
theorem dX6_trustedBy_68 : decode cX6_trustedBy 68 = .ok (.iload_n 2, 1) := by decide +kernel
theorem dX6_trustedBy_69 : decode cX6_trustedBy 69 = .ok (.iconst 1, 1) := by decide +kernel
theorem dX6_trustedBy_70 : decode cX6_trustedBy 70 = .ok (.iload_n 3, 1) := by decide +kernel
theorem dX6_trustedBy_71 : decode cX6_trustedBy 71 = .ok (.ishl, 1) := by decide +kernel
theorem dX6_trustedBy_72 : decode cX6_trustedBy 72 = .ok (.ior, 1) := by decide +kernel
theorem dX6_trustedBy_73 : decode cX6_trustedBy 73 = .ok (.istore_n 2, 1) := by decide +kernel
theorem dX6_trustedBy_74 : decode cX6_trustedBy 74 = .ok (.iinc 3 1, 3) := by decide +kernel
theorem dX6_trustedBy_77 : decode cX6_trustedBy 77 = .ok (.goto (-73), 3) := by decide +kernel
theorem dX6_trustedBy_80 : decode cX6_trustedBy 80 = .ok (.iload_n 2, 1) := by decide +kernel
theorem dX6_trustedBy_81 : decode cX6_trustedBy 81 = .ok (.ireturn, 1) := by decide +kernel
theorem dX6_drawLots_0 : decode cX6_drawLots 0 = .ok (.iconst 0, 1) := by decide +kernel
theorem dX6_drawLots_1 : decode cX6_drawLots 1 = .ok (.istore_n 1, 1) := by decide +kernel
theorem dX6_drawLots_2 : decode cX6_drawLots 2 = .ok (.iconst 0, 1) := by decide +kernel
theorem dX6_drawLots_3 : decode cX6_drawLots 3 = .ok (.istore_n 2, 1) := by decide +kernel
theorem dX6_drawLots_4 : decode cX6_drawLots 4 = .ok (.iconst 0, 1) := by decide +kernel
theorem dX6_drawLots_5 : decode cX6_drawLots 5 = .ok (.istore_n 3, 1) := by decide +kernel
theorem dX6_drawLots_6 : decode cX6_drawLots 6 = .ok (.iload_n 3, 1) := by decide +kernel
theorem dX6_drawLots_7 : decode cX6_drawLots 7 = .ok (.aload_n 0, 1) := by decide +kernel
theorem dX6_drawLots_8 : decode cX6_drawLots 8 = .ok (.getfield 12, 3) := by decide +kernel
theorem dX6_drawLots_11 : decode cX6_drawLots 11 = .ok (.getfield 52, 3) := by decide +kernel
theorem dX6_drawLots_14 : decode cX6_drawLots 14 = .ok (.if_icmp .ge 91, 3) := by decide +kernel
theorem dX6_drawLots_17 : decode cX6_drawLots 17 = .ok (.aload_n 0, 1) := by decide +kernel
theorem dX6_drawLots_18 : decode cX6_drawLots 18 = .ok (.iconst 3, 1) := by decide +kernel
theorem dX6_drawLots_19 : decode cX6_drawLots 19 = .ok (.aload_n 0, 1) := by decide +kernel
theorem dX6_drawLots_20 : decode cX6_drawLots 20 = .ok (.iconst 3, 1) := by decide +kernel
theorem dX6_drawLots_21 : decode cX6_drawLots 21 = .ok (.invokevirtual 44, 3) := by decide +kernel
theorem dX6_drawLots_24 : decode cX6_drawLots 24 = .ok (.ldc 84, 2) := by decide +kernel
theorem dX6_drawLots_26 : decode cX6_drawLots 26 = .ok (.imul, 1) := by decide +kernel
theorem dX6_drawLots_27 : decode cX6_drawLots 27 = .ok (.sipush 12345, 3) := by decide +kernel
theorem dX6_drawLots_30 : decode cX6_drawLots 30 = .ok (.iadd, 1) := by decide +kernel
theorem dX6_drawLots_31 : decode cX6_drawLots 31 = .ok (.ldc 85, 2) := by decide +kernel
theorem dX6_drawLots_33 : decode cX6_drawLots 33 = .ok (.iand, 1) := by decide +kernel
theorem dX6_drawLots_34 : decode cX6_drawLots 34 = .ok (.invokevirtual 86, 3) := by decide +kernel
theorem dX6_drawLots_37 : decode cX6_drawLots 37 = .ok (.pop, 1) := by decide +kernel
theorem dX6_drawLots_38 : decode cX6_drawLots 38 = .ok (.aload_n 0, 1) := by decide +kernel
theorem dX6_drawLots_39 : decode cX6_drawLots 39 = .ok (.getfield 12, 3) := by decide +kernel
theorem dX6_drawLots_42 : decode cX6_drawLots 42 = .ok (.getfield 52, 3) := by decide +kernel
theorem dX6_drawLots_45 : decode cX6_drawLots 45 = .ok (.iload_n 3, 1) := by decide +kernel
theorem dX6_drawLots_46 : decode cX6_drawLots 46 = .ok (.isub, 1) := by decide +kernel
theorem dX6_drawLots_47 : decode cX6_drawLots 47 = .ok (.istore 4, 2) := by decide +kernel
theorem dX6_drawLots_49 : decode cX6_drawLots 49 = .ok (.iload 4, 2) := by decide +kernel
theorem dX6_drawLots_51 : decode cX6_drawLots 51 = .ok (.ifCond .le 48, 3) := by decide +kernel
theorem dX6_drawLots_54 : decode cX6_drawLots 54 = .ok (.aload_n 0, 1) := by decide +kernel
theorem dX6_drawLots_55 : decode cX6_drawLots 55 = .ok (.iconst 3, 1) := by decide +kernel
theorem dX6_drawLots_56 : decode cX6_drawLots 56 = .ok (.invokevirtual 44, 3) := by decide +kernel
theorem dX6_drawLots_59 : decode cX6_drawLots 59 = .ok (.ldc 89, 2) := by decide +kernel
theorem dX6_drawLots_61 : decode cX6_drawLots 61 = .ok (.idiv, 1) := by decide +kernel
theorem dX6_drawLots_62 : decode cX6_drawLots 62 = .ok (.iload 4, 2) := by decide +kernel
theorem dX6_drawLots_64 : decode cX6_drawLots 64 = .ok (.irem, 1) := by decide +kernel
theorem dX6_drawLots_65 : decode cX6_drawLots 65 = .ok (.aload_n 0, 1) := by decide +kernel
theorem dX6_drawLots_66 : decode cX6_drawLots 66 = .ok (.iload_n 1, 1) := by decide +kernel
theorem dX6_drawLots_67 : decode cX6_drawLots 67 = .ok (.iload_n 3, 1) := by decide +kernel
theorem dX6_drawLots_68 : decode cX6_drawLots 68 = .ok (.invokevirtual 66, 3) := by decide +kernel
theorem dX6_drawLots_71 : decode cX6_drawLots 71 = .ok (.if_icmp .ge 28, 3) := by decide +kernel
theorem dX6_drawLots_74 : decode cX6_drawLots 74 = .ok (.aload_n 0, 1) := by decide +kernel
theorem dX6_drawLots_75 : decode cX6_drawLots 75 = .ok (.iload_n 3, 1) := by decide +kernel
theorem dX6_drawLots_76 : decode cX6_drawLots 76 = .ok (.iload_n 2, 1) := by decide +kernel
theorem dX6_drawLots_77 : decode cX6_drawLots 77 = .ok (.invokevirtual 63, 3) := by decide +kernel
theorem dX6_drawLots_80 : decode cX6_drawLots 80 = .ok (.ifCond .eq 19, 3) := by decide +kernel
theorem dX6_drawLots_83 : decode cX6_drawLots 83 = .ok (.iload_n 1, 1) := by decide +kernel
theorem dX6_drawLots_84 : decode cX6_drawLots 84 = .ok (.iconst 1, 1) := by decide +kernel
theorem dX6_drawLots_85 : decode cX6_drawLots 85 = .ok (.iload_n 3, 1) := by decide +kernel
theorem dX6_drawLots_86 : decode cX6_drawLots 86 = .ok (.ishl, 1) := by decide +kernel
theorem dX6_drawLots_87 : decode cX6_drawLots 87 = .ok (.ior, 1) := by decide +kernel
theorem dX6_drawLots_88 : decode cX6_drawLots 88 = .ok (.istore_n 1, 1) := by decide +kernel
theorem dX6_drawLots_89 : decode cX6_drawLots 89 = .ok (.aload_n 0, 1) := by decide +kernel
theorem dX6_drawLots_90 : decode cX6_drawLots 90 = .ok (.iconst 1, 1) := by decide +kernel
theorem dX6_drawLots_91 : decode cX6_drawLots 91 = .ok (.invokevirtual 44, 3) := by decide +kernel
theorem dX6_drawLots_94 : decode cX6_drawLots 94 = .ok (.iload_n 3, 1) := by decide +kernel
theorem dX6_drawLots_95 : decode cX6_drawLots 95 = .ok (.invokestatic 59, 3) := by decide +kernel
theorem dX6_drawLots_98 : decode cX6_drawLots 98 = .ok (.istore_n 2, 1) := by decide +kernel
theorem dX6_drawLots_99 : decode cX6_drawLots 99 = .ok (.iinc 3 1, 3) := by decide +kernel
theorem dX6_drawLots_102 : decode cX6_drawLots 102 = .ok (.goto (-96), 3) := by decide +kernel
theorem dX6_drawLots_105 : decode cX6_drawLots 105 = .ok (.iload_n 1, 1) := by decide +kernel
theorem dX6_drawLots_106 : decode cX6_drawLots 106 = .ok (.ireturn, 1) := by decide +kernel
theorem dX7_day_0 : decode cX7_day 0 = .ok (.iconst 0, 1) := by decide +kernel
theorem dX7_day_1 : decode cX7_day 1 = .ok (.iload_n 1, 1) := by decide +kernel
theorem dX7_day_2 : decode cX7_day 2 = .ok (.invokestatic 58, 3) := by decide +kernel
theorem dX7_day_5 : decode cX7_day 5 = .ok (.ifCond .eq 19, 3) := by decide +kernel
theorem dX7_day_8 : decode cX7_day 8 = .ok (.iconst 1, 1) := by decide +kernel
theorem dX7_day_9 : decode cX7_day 9 = .ok (.iload_n 2, 1) := by decide +kernel
theorem dX7_day_10 : decode cX7_day 10 = .ok (.invokestatic 58, 3) := by decide +kernel
theorem dX7_day_13 : decode cX7_day 13 = .ok (.ifCond .eq 11, 3) := by decide +kernel
theorem dX7_day_16 : decode cX7_day 16 = .ok (.iconst 2, 1) := by decide +kernel
theorem dX7_day_17 : decode cX7_day 17 = .ok (.iload_n 3, 1) := by decide +kernel
theorem dX7_day_18 : decode cX7_day 18 = .ok (.invokestatic 58, 3) := by decide +kernel
theorem dX7_day_21 : decode cX7_day 21 = .ok (.ifCond .ne 5, 3) := by decide +kernel
theorem dX7_day_24 : decode cX7_day 24 = .ok (.iconst (-1), 1) := by decide +kernel
theorem dX7_day_25 : decode cX7_day 25 = .ok (.ireturn, 1) := by decide +kernel
theorem dX7_day_26 : decode cX7_day 26 = .ok (.aload_n 0, 1) := by decide +kernel
theorem dX7_day_27 : decode cX7_day 27 = .ok (.getfield 10, 3) := by decide +kernel
theorem dX7_day_30 : decode cX7_day 30 = .ok (.getfield 62, 3) := by decide +kernel
theorem dX7_day_33 : decode cX7_day 33 = .ok (.iload_n 1, 1) := by decide +kernel
theorem dX7_day_34 : decode cX7_day 34 = .ok (.iload_n 2, 1) := by decide +kernel
theorem dX7_day_35 : decode cX7_day 35 = .ok (.iload_n 3, 1) := by decide +kernel
theorem dX7_day_36 : decode cX7_day 36 = .ok (.invokevirtual 65, 3) := by decide +kernel
theorem dX7_day_39 : decode cX7_day 39 = .ok (.ireturn, 1) := by decide +kernel
theorem dX7_alter_0 : decode cX7_alter 0 = .ok (.aload_n 0, 1) := by decide +kernel
theorem dX7_alter_1 : decode cX7_alter 1 = .ok (.getfield 10, 3) := by decide +kernel
theorem dX7_alter_4 : decode cX7_alter 4 = .ok (.getfield 62, 3) := by decide +kernel
theorem dX7_alter_7 : decode cX7_alter 7 = .ok (.iload_n 1, 1) := by decide +kernel
theorem dX7_alter_8 : decode cX7_alter 8 = .ok (.invokevirtual 69, 3) := by decide +kernel
theorem dX7_alter_11 : decode cX7_alter 11 = .ok (.ifCond .eq 11, 3) := by decide +kernel
theorem dX7_alter_14 : decode cX7_alter 14 = .ok (.iload_n 2, 1) := by decide +kernel
theorem dX7_alter_15 : decode cX7_alter 15 = .ok (.iload_n 3, 1) := by decide +kernel
theorem dX7_alter_16 : decode cX7_alter 16 = .ok (.invokestatic 58, 3) := by decide +kernel
theorem dX7_alter_19 : decode cX7_alter 19 = .ok (.ifCond .ne 5, 3) := by decide +kernel
theorem dX7_alter_22 : decode cX7_alter 22 = .ok (.iconst (-1), 1) := by decide +kernel
theorem dX7_alter_23 : decode cX7_alter 23 = .ok (.ireturn, 1) := by decide +kernel
theorem dX7_alter_24 : decode cX7_alter 24 = .ok (.aload_n 0, 1) := by decide +kernel
theorem dX7_alter_25 : decode cX7_alter 25 = .ok (.getfield 10, 3) := by decide +kernel
theorem dX7_alter_28 : decode cX7_alter 28 = .ok (.getfield 62, 3) := by decide +kernel
theorem dX7_alter_31 : decode cX7_alter 31 = .ok (.iload_n 1, 1) := by decide +kernel
theorem dX7_alter_32 : decode cX7_alter 32 = .ok (.iload_n 2, 1) := by decide +kernel
theorem dX7_alter_33 : decode cX7_alter 33 = .ok (.iload_n 3, 1) := by decide +kernel
theorem dX7_alter_34 : decode cX7_alter 34 = .ok (.invokevirtual 73, 3) := by decide +kernel
theorem dX7_alter_37 : decode cX7_alter 37 = .ok (.ireturn, 1) := by decide +kernel
theorem dX7_told_0 : decode cX7_told 0 = .ok (.aload_n 0, 1) := by decide +kernel
theorem dX7_told_1 : decode cX7_told 1 = .ok (.getfield 10, 3) := by decide +kernel
theorem dX7_told_4 : decode cX7_told 4 = .ok (.getfield 62, 3) := by decide +kernel
theorem dX7_told_7 : decode cX7_told 7 = .ok (.iload_n 1, 1) := by decide +kernel
theorem dX7_told_8 : decode cX7_told 8 = .ok (.invokevirtual 69, 3) := by decide +kernel
theorem dX7_told_11 : decode cX7_told 11 = .ok (.ifCond .eq 12, 3) := by decide +kernel
theorem dX7_told_14 : decode cX7_told 14 = .ok (.iload_n 2, 1) := by decide +kernel
theorem dX7_told_15 : decode cX7_told 15 = .ok (.iconst 0, 1) := by decide +kernel
theorem dX7_told_16 : decode cX7_told 16 = .ok (.iconst 2, 1) := by decide +kernel
theorem dX7_told_17 : decode cX7_told 17 = .ok (.invokestatic 76, 3) := by decide +kernel
theorem dX7_told_20 : decode cX7_told 20 = .ok (.ifCond .ne 5, 3) := by decide +kernel
theorem dX7_told_23 : decode cX7_told 23 = .ok (.iconst (-1), 1) := by decide +kernel
theorem dX7_told_24 : decode cX7_told 24 = .ok (.ireturn, 1) := by decide +kernel
theorem dX7_told_25 : decode cX7_told 25 = .ok (.aload_n 0, 1) := by decide +kernel
theorem dX7_told_26 : decode cX7_told 26 = .ok (.getfield 10, 3) := by decide +kernel
theorem dX7_told_29 : decode cX7_told 29 = .ok (.getfield 62, 3) := by decide +kernel
theorem dX7_told_32 : decode cX7_told 32 = .ok (.iload_n 1, 1) := by decide +kernel
theorem dX7_told_33 : decode cX7_told 33 = .ok (.iload_n 2, 1) := by decide +kernel
theorem dX7_told_34 : decode cX7_told 34 = .ok (.invokevirtual 80, 3) := by decide +kernel
theorem dX7_told_37 : decode cX7_told 37 = .ok (.ireturn, 1) := by decide +kernel
theorem dX7_strike_0 : decode cX7_strike 0 = .ok (.aload_n 0, 1) := by decide +kernel
theorem dX7_strike_1 : decode cX7_strike 1 = .ok (.getfield 10, 3) := by decide +kernel
theorem dX7_strike_4 : decode cX7_strike 4 = .ok (.getfield 62, 3) := by decide +kernel
theorem dX7_strike_7 : decode cX7_strike 7 = .ok (.invokevirtual 84, 3) := by decide +kernel
theorem dX7_strike_10 : decode cX7_strike 10 = .ok (.ireturn, 1) := by decide +kernel
theorem dX7_set_0 : decode cX7_set 0 = .ok (.iload_n 1, 1) := by decide +kernel
theorem dX7_set_1 : decode cX7_set 1 = .ok (.iconst 3, 1) := by decide +kernel
theorem dX7_set_2 : decode cX7_set 2 = .ok (.if_icmp .eq 23, 3) := by decide +kernel
theorem dX7_set_5 : decode cX7_set 5 = .ok (.iload_n 1, 1) := by decide +kernel
theorem dX7_set_6 : decode cX7_set 6 = .ok (.iload_n 2, 1) := by decide +kernel
theorem dX7_set_7 : decode cX7_set 7 = .ok (.invokestatic 88, 3) := by decide +kernel
theorem dX7_set_10 : decode cX7_set 10 = .ok (.ifCond .eq 15, 3) := by decide +kernel
theorem dX7_set_13 : decode cX7_set 13 = .ok (.aload_n 0, 1) := by decide +kernel
theorem dX7_set_14 : decode cX7_set 14 = .ok (.getfield 10, 3) := by decide +kernel
theorem dX7_set_17 : decode cX7_set 17 = .ok (.iload_n 1, 1) := by decide +kernel
theorem dX7_set_18 : decode cX7_set 18 = .ok (.iload_n 2, 1) := by decide +kernel
theorem dX7_set_19 : decode cX7_set 19 = .ok (.invokevirtual 91, 3) := by decide +kernel
theorem dX7_set_22 : decode cX7_set 22 = .ok (.goto 4, 3) := by decide +kernel
theorem dX7_set_25 : decode cX7_set 25 = .ok (.iconst (-1), 1) := by decide +kernel
theorem dX7_set_26 : decode cX7_set 26 = .ok (.ireturn, 1) := by decide +kernel
theorem dX7_type_0 : decode cX7_type 0 = .ok (.iload_n 3, 1) := by decide +kernel
theorem dX7_type_1 : decode cX7_type 1 = .ok (.iconst 1, 1) := by decide +kernel
theorem dX7_type_2 : decode cX7_type 2 = .ok (.bipush 8, 2) := by decide +kernel
theorem dX7_type_4 : decode cX7_type 4 = .ok (.invokestatic 76, 3) := by decide +kernel
theorem dX7_type_7 : decode cX7_type 7 = .ok (.ifCond .eq 11, 3) := by decide +kernel
theorem dX7_type_10 : decode cX7_type 10 = .ok (.lload_n 1, 1) := by decide +kernel
theorem dX7_type_11 : decode cX7_type 11 = .ok (.iload_n 3, 1) := by decide +kernel
theorem dX7_type_12 : decode cX7_type 12 = .ok (.invokestatic 93, 3) := by decide +kernel
theorem dX7_type_15 : decode cX7_type 15 = .ok (.ifCond .ne 5, 3) := by decide +kernel
theorem dX7_type_18 : decode cX7_type 18 = .ok (.iconst (-1), 1) := by decide +kernel
theorem dX7_type_19 : decode cX7_type 19 = .ok (.ireturn, 1) := by decide +kernel
theorem dX7_type_20 : decode cX7_type 20 = .ok (.aload_n 0, 1) := by decide +kernel
theorem dX7_type_21 : decode cX7_type 21 = .ok (.getfield 26, 3) := by decide +kernel
theorem dX7_type_24 : decode cX7_type 24 = .ok (.lload_n 1, 1) := by decide +kernel
theorem dX7_type_25 : decode cX7_type 25 = .ok (.iload_n 3, 1) := by decide +kernel
theorem dX7_type_26 : decode cX7_type 26 = .ok (.invokevirtual 97, 3) := by decide +kernel
theorem dX7_type_29 : decode cX7_type 29 = .ok (.ireturn, 1) := by decide +kernel
theorem dX7_year_0 : decode cX7_year 0 = .ok (.aload_n 0, 1) := by decide +kernel
theorem dX7_year_1 : decode cX7_year 1 = .ok (.getfield 26, 3) := by decide +kernel
theorem dX7_year_4 : decode cX7_year 4 = .ok (.aload_n 0, 1) := by decide +kernel
theorem dX7_year_5 : decode cX7_year 5 = .ok (.getfield 33, 3) := by decide +kernel
theorem dX7_year_8 : decode cX7_year 8 = .ok (.invokevirtual 101, 3) := by decide +kernel
theorem dX7_year_11 : decode cX7_year 11 = .ok (.istore_n 1, 1) := by decide +kernel
theorem dX7_year_12 : decode cX7_year 12 = .ok (.iload_n 1, 1) := by decide +kernel
theorem dX7_year_13 : decode cX7_year 13 = .ok (.ifCond .lt 17, 3) := by decide +kernel
theorem dX7_year_16 : decode cX7_year 16 = .ok (.aload_n 0, 1) := by decide +kernel
theorem dX7_year_17 : decode cX7_year 17 = .ok (.getfield 10, 3) := by decide +kernel
theorem dX7_year_20 : decode cX7_year 20 = .ok (.getfield 62, 3) := by decide +kernel
theorem dX7_year_23 : decode cX7_year 23 = .ok (.aload_n 0, 1) := by decide +kernel
theorem dX7_year_24 : decode cX7_year 24 = .ok (.getfield 33, 3) := by decide +kernel
theorem dX7_year_27 : decode cX7_year 27 = .ok (.invokevirtual 105, 3) := by decide +kernel
theorem dX7_year_30 : decode cX7_year 30 = .ok (.aload_n 0, 1) := by decide +kernel
theorem dX7_year_31 : decode cX7_year 31 = .ok (.getfield 26, 3) := by decide +kernel
theorem dX7_year_34 : decode cX7_year 34 = .ok (.invokevirtual 109, 3) := by decide +kernel
theorem dX7_year_37 : decode cX7_year 37 = .ok (.iload_n 1, 1) := by decide +kernel
theorem dX7_year_38 : decode cX7_year 38 = .ok (.ireturn, 1) := by decide +kernel
theorem dX7_count_0 : decode cX7_count 0 = .ok (.iload_n 1, 1) := by decide +kernel
theorem dX7_count_1 : decode cX7_count 1 = .ok (.tableswitch 118 0 6 #[43, 54, 65, 74, 83, 92, 105], 43) := by decide +kernel
theorem dX7_count_44 : decode cX7_count 44 = .ok (.aload_n 0, 1) := by decide +kernel
theorem dX7_count_45 : decode cX7_count 45 = .ok (.getfield 10, 3) := by decide +kernel
theorem dX7_count_48 : decode cX7_count 48 = .ok (.getfield 62, 3) := by decide +kernel
theorem dX7_count_51 : decode cX7_count 51 = .ok (.getfield 112, 3) := by decide +kernel
theorem dX7_count_54 : decode cX7_count 54 = .ok (.ireturn, 1) := by decide +kernel
theorem dX7_count_55 : decode cX7_count 55 = .ok (.aload_n 0, 1) := by decide +kernel
theorem dX7_count_56 : decode cX7_count 56 = .ok (.getfield 10, 3) := by decide +kernel
theorem dX7_count_59 : decode cX7_count 59 = .ok (.getfield 62, 3) := by decide +kernel
theorem dX7_count_62 : decode cX7_count 62 = .ok (.invokevirtual 116, 3) := by decide +kernel
theorem dX7_count_65 : decode cX7_count 65 = .ok (.ireturn, 1) := by decide +kernel
theorem dX7_count_66 : decode cX7_count 66 = .ok (.aload_n 0, 1) := by decide +kernel
theorem dX7_count_67 : decode cX7_count 67 = .ok (.getfield 10, 3) := by decide +kernel
theorem dX7_count_70 : decode cX7_count 70 = .ok (.iconst 0, 1) := by decide +kernel
theorem dX7_count_71 : decode cX7_count 71 = .ok (.invokevirtual 119, 3) := by decide +kernel
theorem dX7_count_74 : decode cX7_count 74 = .ok (.ireturn, 1) := by decide +kernel
theorem dX7_count_75 : decode cX7_count 75 = .ok (.aload_n 0, 1) := by decide +kernel
theorem dX7_count_76 : decode cX7_count 76 = .ok (.getfield 10, 3) := by decide +kernel
theorem dX7_count_79 : decode cX7_count 79 = .ok (.iconst 1, 1) := by decide +kernel
theorem dX7_count_80 : decode cX7_count 80 = .ok (.invokevirtual 119, 3) := by decide +kernel
theorem dX7_count_83 : decode cX7_count 83 = .ok (.ireturn, 1) := by decide +kernel
theorem dX7_count_84 : decode cX7_count 84 = .ok (.aload_n 0, 1) := by decide +kernel
theorem dX7_count_85 : decode cX7_count 85 = .ok (.getfield 10, 3) := by decide +kernel
theorem dX7_count_88 : decode cX7_count 88 = .ok (.iconst 2, 1) := by decide +kernel
theorem dX7_count_89 : decode cX7_count 89 = .ok (.invokevirtual 119, 3) := by decide +kernel
theorem dX7_count_92 : decode cX7_count 92 = .ok (.ireturn, 1) := by decide +kernel
theorem dX7_count_93 : decode cX7_count 93 = .ok (.aload_n 0, 1) := by decide +kernel
theorem dX7_count_94 : decode cX7_count 94 = .ok (.getfield 10, 3) := by decide +kernel
theorem dX7_count_97 : decode cX7_count 97 = .ok (.getfield 62, 3) := by decide +kernel
theorem dX7_count_100 : decode cX7_count 100 = .ok (.iconst 1, 1) := by decide +kernel
theorem dX7_count_101 : decode cX7_count 101 = .ok (.iconst 1, 1) := by decide +kernel
theorem dX7_count_102 : decode cX7_count 102 = .ok (.invokevirtual 122, 3) := by decide +kernel
theorem dX7_count_105 : decode cX7_count 105 = .ok (.ireturn, 1) := by decide +kernel
theorem dX7_count_106 : decode cX7_count 106 = .ok (.aload_n 0, 1) := by decide +kernel
theorem dX7_count_107 : decode cX7_count 107 = .ok (.getfield 10, 3) := by decide +kernel
theorem dX7_count_110 : decode cX7_count 110 = .ok (.getfield 62, 3) := by decide +kernel
theorem dX7_count_113 : decode cX7_count 113 = .ok (.iconst 2, 1) := by decide +kernel
theorem dX7_count_114 : decode cX7_count 114 = .ok (.iconst 0, 1) := by decide +kernel
theorem dX7_count_115 : decode cX7_count 115 = .ok (.invokevirtual 122, 3) := by decide +kernel
theorem dX7_count_118 : decode cX7_count 118 = .ok (.ireturn, 1) := by decide +kernel
theorem dX7_count_119 : decode cX7_count 119 = .ok (.iconst (-1), 1) := by decide +kernel
theorem dX7_count_120 : decode cX7_count 120 = .ok (.ireturn, 1) := by decide +kernel
theorem dX7_may_0 : decode cX7_may 0 = .ok (.aload_n 0, 1) := by decide +kernel
theorem dX7_may_1 : decode cX7_may 1 = .ok (.getfield 10, 3) := by decide +kernel
theorem dX7_may_4 : decode cX7_may 4 = .ok (.getfield 62, 3) := by decide +kernel
theorem dX7_may_7 : decode cX7_may 7 = .ok (.iload_n 1, 1) := by decide +kernel
theorem dX7_may_8 : decode cX7_may 8 = .ok (.invokevirtual 125, 3) := by decide +kernel
theorem dX7_may_11 : decode cX7_may 11 = .ok (.ifCond .eq 14, 3) := by decide +kernel
theorem dX7_may_14 : decode cX7_may 14 = .ok (.aload_n 0, 1) := by decide +kernel
theorem dX7_may_15 : decode cX7_may 15 = .ok (.getfield 10, 3) := by decide +kernel
theorem dX7_may_18 : decode cX7_may 18 = .ok (.iload_n 1, 1) := by decide +kernel
theorem dX7_may_19 : decode cX7_may 19 = .ok (.invokevirtual 128, 3) := by decide +kernel
theorem dX7_may_22 : decode cX7_may 22 = .ok (.goto 4, 3) := by decide +kernel
theorem dX7_may_25 : decode cX7_may 25 = .ok (.iconst (-1), 1) := by decide +kernel
theorem dX7_may_26 : decode cX7_may 26 = .ok (.ireturn, 1) := by decide +kernel
theorem dX7_lawful_0 : decode cX7_lawful 0 = .ok (.aload_n 0, 1) := by decide +kernel
theorem dX7_lawful_1 : decode cX7_lawful 1 = .ok (.iload_n 1, 1) := by decide +kernel
theorem dX7_lawful_2 : decode cX7_lawful 2 = .ok (.invokevirtual 131, 3) := by decide +kernel
theorem dX7_lawful_5 : decode cX7_lawful 5 = .ok (.istore_n 2, 1) := by decide +kernel
theorem dX7_lawful_6 : decode cX7_lawful 6 = .ok (.iload_n 2, 1) := by decide +kernel
theorem dX7_lawful_7 : decode cX7_lawful 7 = .ok (.iconst (-1), 1) := by decide +kernel
theorem dX7_lawful_8 : decode cX7_lawful 8 = .ok (.if_icmp .ne 5, 3) := by decide +kernel
theorem dX7_lawful_11 : decode cX7_lawful 11 = .ok (.iconst (-1), 1) := by decide +kernel
theorem dX7_lawful_12 : decode cX7_lawful 12 = .ok (.ireturn, 1) := by decide +kernel
theorem dX7_lawful_13 : decode cX7_lawful 13 = .ok (.iload_n 2, 1) := by decide +kernel
theorem dX7_lawful_14 : decode cX7_lawful 14 = .ok (.ifCond .ne 7, 3) := by decide +kernel
theorem dX7_lawful_17 : decode cX7_lawful 17 = .ok (.iconst 1, 1) := by decide +kernel
theorem dX7_lawful_18 : decode cX7_lawful 18 = .ok (.goto 4, 3) := by decide +kernel
theorem dX7_lawful_21 : decode cX7_lawful 21 = .ok (.iconst 0, 1) := by decide +kernel
theorem dX7_lawful_22 : decode cX7_lawful 22 = .ok (.ireturn, 1) := by decide +kernel
theorem dX7_wrong_0 : decode cX7_wrong 0 = .ok (.aload_n 0, 1) := by decide +kernel
theorem dX7_wrong_1 : decode cX7_wrong 1 = .ok (.getfield 10, 3) := by decide +kernel
theorem dX7_wrong_4 : decode cX7_wrong 4 = .ok (.getfield 62, 3) := by decide +kernel
theorem dX7_wrong_7 : decode cX7_wrong 7 = .ok (.iload_n 1, 1) := by decide +kernel
theorem dX7_wrong_8 : decode cX7_wrong 8 = .ok (.invokevirtual 125, 3) := by decide +kernel
theorem dX7_wrong_11 : decode cX7_wrong 11 = .ok (.ifCond .eq 14, 3) := by decide +kernel
theorem dX7_wrong_14 : decode cX7_wrong 14 = .ok (.aload_n 0, 1) := by decide +kernel
theorem dX7_wrong_15 : decode cX7_wrong 15 = .ok (.getfield 10, 3) := by decide +kernel
theorem dX7_wrong_18 : decode cX7_wrong 18 = .ok (.iload_n 1, 1) := by decide +kernel
theorem dX7_wrong_19 : decode cX7_wrong 19 = .ok (.invokevirtual 134, 3) := by decide +kernel
theorem dX7_wrong_22 : decode cX7_wrong 22 = .ok (.goto 4, 3) := by decide +kernel
theorem dX7_wrong_25 : decode cX7_wrong 25 = .ok (.iconst (-1), 1) := by decide +kernel
theorem dX7_wrong_26 : decode cX7_wrong 26 = .ok (.ireturn, 1) := by decide +kernel
theorem dX7_gain_0 : decode cX7_gain 0 = .ok (.aload_n 0, 1) := by decide +kernel
theorem dX7_gain_1 : decode cX7_gain 1 = .ok (.iload_n 1, 1) := by decide +kernel
theorem dX7_gain_2 : decode cX7_gain 2 = .ok (.invokevirtual 131, 3) := by decide +kernel
theorem dX7_gain_5 : decode cX7_gain 5 = .ok (.istore_n 2, 1) := by decide +kernel
theorem dX7_gain_6 : decode cX7_gain 6 = .ok (.iload_n 2, 1) := by decide +kernel
theorem dX7_gain_7 : decode cX7_gain 7 = .ok (.ifCond .ne 14, 3) := by decide +kernel
theorem dX7_gain_10 : decode cX7_gain 10 = .ok (.aload_n 0, 1) := by decide +kernel
theorem dX7_gain_11 : decode cX7_gain 11 = .ok (.getfield 10, 3) := by decide +kernel
theorem dX7_gain_14 : decode cX7_gain 14 = .ok (.iload_n 1, 1) := by decide +kernel
theorem dX7_gain_15 : decode cX7_gain 15 = .ok (.invokevirtual 137, 3) := by decide +kernel
theorem dX7_gain_18 : decode cX7_gain 18 = .ok (.goto 7, 3) := by decide +kernel
theorem dX7_gain_21 : decode cX7_gain 21 = .ok (.iload_n 2, 1) := by decide +kernel
theorem dX7_gain_22 : decode cX7_gain 22 = .ok (.ldc 140, 2) := by decide +kernel
theorem dX7_gain_24 : decode cX7_gain 24 = .ok (.isub, 1) := by decide +kernel
theorem dX7_gain_25 : decode cX7_gain 25 = .ok (.ireturn, 1) := by decide +kernel
theorem dX7_trusted_0 : decode cX7_trusted 0 = .ok (.aload_n 0, 1) := by decide +kernel
theorem dX7_trusted_1 : decode cX7_trusted 1 = .ok (.iload_n 1, 1) := by decide +kernel
theorem dX7_trusted_2 : decode cX7_trusted 2 = .ok (.invokevirtual 131, 3) := by decide +kernel
theorem dX7_trusted_5 : decode cX7_trusted 5 = .ok (.istore_n 2, 1) := by decide +kernel
theorem dX7_trusted_6 : decode cX7_trusted 6 = .ok (.iload_n 2, 1) := by decide +kernel
theorem dX7_trusted_7 : decode cX7_trusted 7 = .ok (.ifCond .ne 14, 3) := by decide +kernel
theorem dX7_trusted_10 : decode cX7_trusted 10 = .ok (.aload_n 0, 1) := by decide +kernel
theorem dX7_trusted_11 : decode cX7_trusted 11 = .ok (.getfield 10, 3) := by decide +kernel
theorem dX7_trusted_14 : decode cX7_trusted 14 = .ok (.iload_n 1, 1) := by decide +kernel
theorem dX7_trusted_15 : decode cX7_trusted 15 = .ok (.invokevirtual 141, 3) := by decide +kernel
theorem dX7_trusted_18 : decode cX7_trusted 18 = .ok (.goto 4, 3) := by decide +kernel
theorem dX7_trusted_21 : decode cX7_trusted 21 = .ok (.iload_n 2, 1) := by decide +kernel
theorem dX7_trusted_22 : decode cX7_trusted 22 = .ok (.ireturn, 1) := by decide +kernel
theorem dX7_harm_0 : decode cX7_harm 0 = .ok (.aload_n 0, 1) := by decide +kernel
theorem dX7_harm_1 : decode cX7_harm 1 = .ok (.aload_n 0, 1) := by decide +kernel
theorem dX7_harm_2 : decode cX7_harm 2 = .ok (.getfield 10, 3) := by decide +kernel
theorem dX7_harm_5 : decode cX7_harm 5 = .ok (.iconst 1, 1) := by decide +kernel
theorem dX7_harm_6 : decode cX7_harm 6 = .ok (.invokevirtual 119, 3) := by decide +kernel
theorem dX7_harm_9 : decode cX7_harm 9 = .ok (.aload_n 0, 1) := by decide +kernel
theorem dX7_harm_10 : decode cX7_harm 10 = .ok (.getfield 10, 3) := by decide +kernel
theorem dX7_harm_13 : decode cX7_harm 13 = .ok (.iconst 0, 1) := by decide +kernel
theorem dX7_harm_14 : decode cX7_harm 14 = .ok (.invokevirtual 119, 3) := by decide +kernel
theorem dX7_harm_17 : decode cX7_harm 17 = .ok (.aload_n 0, 1) := by decide +kernel
theorem dX7_harm_18 : decode cX7_harm 18 = .ok (.getfield 10, 3) := by decide +kernel
theorem dX7_harm_21 : decode cX7_harm 21 = .ok (.iconst 2, 1) := by decide +kernel
theorem dX7_harm_22 : decode cX7_harm 22 = .ok (.invokevirtual 119, 3) := by decide +kernel
theorem dX7_harm_25 : decode cX7_harm 25 = .ok (.invokevirtual 144, 3) := by decide +kernel
theorem dX7_harm_28 : decode cX7_harm 28 = .ok (.ireturn, 1) := by decide +kernel
theorem dX7_worst_0 : decode cX7_worst 0 = .ok (.aload_n 0, 1) := by decide +kernel
theorem dX7_worst_1 : decode cX7_worst 1 = .ok (.getfield 40, 3) := by decide +kernel
theorem dX7_worst_4 : decode cX7_worst 4 = .ok (.aload_n 0, 1) := by decide +kernel
theorem dX7_worst_5 : decode cX7_worst 5 = .ok (.getfield 10, 3) := by decide +kernel
theorem dX7_worst_8 : decode cX7_worst 8 = .ok (.getfield 62, 3) := by decide +kernel
theorem dX7_worst_11 : decode cX7_worst 11 = .ok (.aload_n 0, 1) := by decide +kernel
theorem dX7_worst_12 : decode cX7_worst 12 = .ok (.getfield 10, 3) := by decide +kernel
theorem dX7_worst_15 : decode cX7_worst 15 = .ok (.iconst 1, 1) := by decide +kernel
theorem dX7_worst_16 : decode cX7_worst 16 = .ok (.invokevirtual 119, 3) := by decide +kernel
theorem dX7_worst_19 : decode cX7_worst 19 = .ok (.aload_n 0, 1) := by decide +kernel
theorem dX7_worst_20 : decode cX7_worst 20 = .ok (.getfield 10, 3) := by decide +kernel
theorem dX7_worst_23 : decode cX7_worst 23 = .ok (.iconst 0, 1) := by decide +kernel
theorem dX7_worst_24 : decode cX7_worst 24 = .ok (.invokevirtual 119, 3) := by decide +kernel
theorem dX7_worst_27 : decode cX7_worst 27 = .ok (.aload_n 0, 1) := by decide +kernel
theorem dX7_worst_28 : decode cX7_worst 28 = .ok (.getfield 10, 3) := by decide +kernel
theorem dX7_worst_31 : decode cX7_worst 31 = .ok (.iconst 2, 1) := by decide +kernel
theorem dX7_worst_32 : decode cX7_worst 32 = .ok (.invokevirtual 119, 3) := by decide +kernel
theorem dX7_worst_35 : decode cX7_worst 35 = .ok (.invokevirtual 147, 3) := by decide +kernel
theorem dX7_worst_38 : decode cX7_worst 38 = .ok (.ireturn, 1) := by decide +kernel
theorem dX7_best_0 : decode cX7_best 0 = .ok (.iconst 0, 1) := by decide +kernel
theorem dX7_best_1 : decode cX7_best 1 = .ok (.istore_n 1, 1) := by decide +kernel
theorem dX7_best_2 : decode cX7_best 2 = .ok (.aload_n 0, 1) := by decide +kernel
theorem dX7_best_3 : decode cX7_best 3 = .ok (.aload_n 0, 1) := by decide +kernel
theorem dX7_best_4 : decode cX7_best 4 = .ok (.getfield 10, 3) := by decide +kernel
theorem dX7_best_7 : decode cX7_best 7 = .ok (.iconst 1, 1) := by decide +kernel
theorem dX7_best_8 : decode cX7_best 8 = .ok (.invokevirtual 119, 3) := by decide +kernel
theorem dX7_best_11 : decode cX7_best 11 = .ok (.aload_n 0, 1) := by decide +kernel
theorem dX7_best_12 : decode cX7_best 12 = .ok (.getfield 10, 3) := by decide +kernel
theorem dX7_best_15 : decode cX7_best 15 = .ok (.iconst 0, 1) := by decide +kernel
theorem dX7_best_16 : decode cX7_best 16 = .ok (.invokevirtual 119, 3) := by decide +kernel
theorem dX7_best_19 : decode cX7_best 19 = .ok (.iconst 0, 1) := by decide +kernel
theorem dX7_best_20 : decode cX7_best 20 = .ok (.invokevirtual 144, 3) := by decide +kernel
theorem dX7_best_23 : decode cX7_best 23 = .ok (.istore_n 2, 1) := by decide +kernel
theorem dX7_best_24 : decode cX7_best 24 = .ok (.iconst 1, 1) := by decide +kernel
theorem dX7_best_25 : decode cX7_best 25 = .ok (.istore_n 3, 1) := by decide +kernel
theorem dX7_best_26 : decode cX7_best 26 = .ok (.iload_n 3, 1) := by decide +kernel
theorem dX7_best_27 : decode cX7_best 27 = .ok (.bipush 8, 2) := by decide +kernel
theorem dX7_best_29 : decode cX7_best 29 = .ok (.if_icmp .gt 43, 3) := by decide +kernel
theorem dX7_best_32 : decode cX7_best 32 = .ok (.aload_n 0, 1) := by decide +kernel
theorem dX7_best_33 : decode cX7_best 33 = .ok (.aload_n 0, 1) := by decide +kernel
theorem dX7_best_34 : decode cX7_best 34 = .ok (.getfield 10, 3) := by decide +kernel
theorem dX7_best_37 : decode cX7_best 37 = .ok (.iconst 1, 1) := by decide +kernel
theorem dX7_best_38 : decode cX7_best 38 = .ok (.invokevirtual 119, 3) := by decide +kernel
theorem dX7_best_41 : decode cX7_best 41 = .ok (.aload_n 0, 1) := by decide +kernel
theorem dX7_best_42 : decode cX7_best 42 = .ok (.getfield 10, 3) := by decide +kernel
theorem dX7_best_45 : decode cX7_best 45 = .ok (.iconst 0, 1) := by decide +kernel
theorem dX7_best_46 : decode cX7_best 46 = .ok (.invokevirtual 119, 3) := by decide +kernel
theorem dX7_best_49 : decode cX7_best 49 = .ok (.iload_n 3, 1) := by decide +kernel
theorem dX7_best_50 : decode cX7_best 50 = .ok (.invokevirtual 144, 3) := by decide +kernel
theorem dX7_best_53 : decode cX7_best 53 = .ok (.istore 4, 2) := by decide +kernel
theorem dX7_best_55 : decode cX7_best 55 = .ok (.iload 4, 2) := by decide +kernel
theorem dX7_best_57 : decode cX7_best 57 = .ok (.iload_n 2, 1) := by decide +kernel
theorem dX7_best_58 : decode cX7_best 58 = .ok (.if_icmp .le 8, 3) := by decide +kernel
theorem dX7_best_61 : decode cX7_best 61 = .ok (.iload 4, 2) := by decide +kernel
theorem dX7_best_63 : decode cX7_best 63 = .ok (.istore_n 2, 1) := by decide +kernel
theorem dX7_best_64 : decode cX7_best 64 = .ok (.iload_n 3, 1) := by decide +kernel
theorem dX7_best_65 : decode cX7_best 65 = .ok (.istore_n 1, 1) := by decide +kernel
theorem dX7_best_66 : decode cX7_best 66 = .ok (.iinc 3 1, 3) := by decide +kernel
theorem dX7_best_69 : decode cX7_best 69 = .ok (.goto (-43), 3) := by decide +kernel
theorem dX7_best_72 : decode cX7_best 72 = .ok (.iload_n 1, 1) := by decide +kernel
theorem dX7_best_73 : decode cX7_best 73 = .ok (.ireturn, 1) := by decide +kernel
theorem dX7_price_0 : decode cX7_price 0 = .ok (.aload_n 0, 1) := by decide +kernel
theorem dX7_price_1 : decode cX7_price 1 = .ok (.getfield 10, 3) := by decide +kernel
theorem dX7_price_4 : decode cX7_price 4 = .ok (.iconst 0, 1) := by decide +kernel
theorem dX7_price_5 : decode cX7_price 5 = .ok (.invokevirtual 119, 3) := by decide +kernel
theorem dX7_price_8 : decode cX7_price 8 = .ok (.bipush 9, 2) := by decide +kernel
theorem dX7_price_10 : decode cX7_price 10 = .ok (.if_icmp .lt 6, 3) := by decide +kernel
theorem dX7_price_13 : decode cX7_price 13 = .ok (.ldc 151, 2) := by decide +kernel
theorem dX7_price_15 : decode cX7_price 15 = .ok (.ireturn, 1) := by decide +kernel
theorem dX7_price_16 : decode cX7_price 16 = .ok (.aload_n 0, 1) := by decide +kernel
theorem dX7_price_17 : decode cX7_price 17 = .ok (.aload_n 0, 1) := by decide +kernel
theorem dX7_price_18 : decode cX7_price 18 = .ok (.getfield 10, 3) := by decide +kernel
theorem dX7_price_21 : decode cX7_price 21 = .ok (.iconst 1, 1) := by decide +kernel
theorem dX7_price_22 : decode cX7_price 22 = .ok (.invokevirtual 119, 3) := by decide +kernel
theorem dX7_price_25 : decode cX7_price 25 = .ok (.aload_n 0, 1) := by decide +kernel
theorem dX7_price_26 : decode cX7_price 26 = .ok (.getfield 10, 3) := by decide +kernel
theorem dX7_price_29 : decode cX7_price 29 = .ok (.iconst 0, 1) := by decide +kernel
theorem dX7_price_30 : decode cX7_price 30 = .ok (.invokevirtual 119, 3) := by decide +kernel
theorem dX7_price_33 : decode cX7_price 33 = .ok (.aload_n 0, 1) := by decide +kernel
theorem dX7_price_34 : decode cX7_price 34 = .ok (.getfield 10, 3) := by decide +kernel
theorem dX7_price_37 : decode cX7_price 37 = .ok (.iconst 2, 1) := by decide +kernel
theorem dX7_price_38 : decode cX7_price 38 = .ok (.invokevirtual 119, 3) := by decide +kernel
theorem dX7_price_41 : decode cX7_price 41 = .ok (.invokevirtual 144, 3) := by decide +kernel
theorem dX7_price_44 : decode cX7_price 44 = .ok (.istore_n 1, 1) := by decide +kernel
theorem dX7_price_45 : decode cX7_price 45 = .ok (.iload_n 1, 1) := by decide +kernel
theorem dX7_price_46 : decode cX7_price 46 = .ok (.aload_n 0, 1) := by decide +kernel
theorem dX7_price_47 : decode cX7_price 47 = .ok (.aload_n 0, 1) := by decide +kernel
theorem dX7_price_48 : decode cX7_price 48 = .ok (.getfield 10, 3) := by decide +kernel
theorem dX7_price_51 : decode cX7_price 51 = .ok (.iconst 1, 1) := by decide +kernel
theorem dX7_price_52 : decode cX7_price 52 = .ok (.invokevirtual 119, 3) := by decide +kernel
theorem dX7_price_55 : decode cX7_price 55 = .ok (.aload_n 0, 1) := by decide +kernel
theorem dX7_price_56 : decode cX7_price 56 = .ok (.getfield 10, 3) := by decide +kernel
theorem dX7_price_59 : decode cX7_price 59 = .ok (.iconst 0, 1) := by decide +kernel
theorem dX7_price_60 : decode cX7_price 60 = .ok (.invokevirtual 119, 3) := by decide +kernel
theorem dX7_price_63 : decode cX7_price 63 = .ok (.iconst 1, 1) := by decide +kernel
theorem dX7_price_64 : decode cX7_price 64 = .ok (.iadd, 1) := by decide +kernel
theorem dX7_price_65 : decode cX7_price 65 = .ok (.aload_n 0, 1) := by decide +kernel
theorem dX7_price_66 : decode cX7_price 66 = .ok (.getfield 10, 3) := by decide +kernel
theorem dX7_price_69 : decode cX7_price 69 = .ok (.iconst 2, 1) := by decide +kernel
theorem dX7_price_70 : decode cX7_price 70 = .ok (.invokevirtual 119, 3) := by decide +kernel
theorem dX7_price_73 : decode cX7_price 73 = .ok (.invokevirtual 144, 3) := by decide +kernel
theorem dX7_price_76 : decode cX7_price 76 = .ok (.isub, 1) := by decide +kernel
theorem dX7_price_77 : decode cX7_price 77 = .ok (.ireturn, 1) := by decide +kernel
theorem dX7_under_0 : decode cX7_under 0 = .ok (.iconst 1, 1) := by decide +kernel
theorem dX7_under_1 : decode cX7_under 1 = .ok (.iload_n 1, 1) := by decide +kernel
theorem dX7_under_2 : decode cX7_under 2 = .ok (.invokestatic 88, 3) := by decide +kernel
theorem dX7_under_5 : decode cX7_under 5 = .ok (.ifCond .eq 27, 3) := by decide +kernel
theorem dX7_under_8 : decode cX7_under 8 = .ok (.aload_n 0, 1) := by decide +kernel
theorem dX7_under_9 : decode cX7_under 9 = .ok (.iload_n 1, 1) := by decide +kernel
theorem dX7_under_10 : decode cX7_under 10 = .ok (.aload_n 0, 1) := by decide +kernel
theorem dX7_under_11 : decode cX7_under 11 = .ok (.getfield 10, 3) := by decide +kernel
theorem dX7_under_14 : decode cX7_under 14 = .ok (.iconst 0, 1) := by decide +kernel
theorem dX7_under_15 : decode cX7_under 15 = .ok (.invokevirtual 119, 3) := by decide +kernel
theorem dX7_under_18 : decode cX7_under 18 = .ok (.aload_n 0, 1) := by decide +kernel
theorem dX7_under_19 : decode cX7_under 19 = .ok (.getfield 10, 3) := by decide +kernel
theorem dX7_under_22 : decode cX7_under 22 = .ok (.iconst 2, 1) := by decide +kernel
theorem dX7_under_23 : decode cX7_under 23 = .ok (.invokevirtual 119, 3) := by decide +kernel
theorem dX7_under_26 : decode cX7_under 26 = .ok (.invokevirtual 144, 3) := by decide +kernel
theorem dX7_under_29 : decode cX7_under 29 = .ok (.goto 5, 3) := by decide +kernel
theorem dX7_under_32 : decode cX7_under 32 = .ok (.ldc 152, 2) := by decide +kernel
theorem dX7_under_34 : decode cX7_under 34 = .ok (.ireturn, 1) := by decide +kernel
theorem dX7_sure_0 : decode cX7_sure 0 = .ok (.iload_n 1, 1) := by decide +kernel
theorem dX7_sure_1 : decode cX7_sure 1 = .ok (.iconst 0, 1) := by decide +kernel
theorem dX7_sure_2 : decode cX7_sure 2 = .ok (.bipush 8, 2) := by decide +kernel
theorem dX7_sure_4 : decode cX7_sure 4 = .ok (.invokestatic 76, 3) := by decide +kernel
theorem dX7_sure_7 : decode cX7_sure 7 = .ok (.ifCond .eq 50, 3) := by decide +kernel
theorem dX7_sure_10 : decode cX7_sure 10 = .ok (.iload_n 2, 1) := by decide +kernel
theorem dX7_sure_11 : decode cX7_sure 11 = .ok (.iconst 0, 1) := by decide +kernel
theorem dX7_sure_12 : decode cX7_sure 12 = .ok (.bipush 8, 2) := by decide +kernel
theorem dX7_sure_14 : decode cX7_sure 14 = .ok (.invokestatic 76, 3) := by decide +kernel
theorem dX7_sure_17 : decode cX7_sure 17 = .ok (.ifCond .eq 40, 3) := by decide +kernel
theorem dX7_sure_20 : decode cX7_sure 20 = .ok (.iload_n 3, 1) := by decide +kernel
theorem dX7_sure_21 : decode cX7_sure 21 = .ok (.iconst 0, 1) := by decide +kernel
theorem dX7_sure_22 : decode cX7_sure 22 = .ok (.bipush 99, 2) := by decide +kernel
theorem dX7_sure_24 : decode cX7_sure 24 = .ok (.invokestatic 76, 3) := by decide +kernel
theorem dX7_sure_27 : decode cX7_sure 27 = .ok (.ifCond .eq 30, 3) := by decide +kernel
theorem dX7_sure_30 : decode cX7_sure 30 = .ok (.iload 4, 2) := by decide +kernel
theorem dX7_sure_32 : decode cX7_sure 32 = .ok (.iconst 1, 1) := by decide +kernel
theorem dX7_sure_33 : decode cX7_sure 33 = .ok (.bipush 99, 2) := by decide +kernel
theorem dX7_sure_35 : decode cX7_sure 35 = .ok (.invokestatic 76, 3) := by decide +kernel
theorem dX7_sure_38 : decode cX7_sure 38 = .ok (.ifCond .eq 19, 3) := by decide +kernel
theorem dX7_sure_41 : decode cX7_sure 41 = .ok (.iload_n 3, 1) := by decide +kernel
theorem dX7_sure_42 : decode cX7_sure 42 = .ok (.iload 4, 2) := by decide +kernel
theorem dX7_sure_44 : decode cX7_sure 44 = .ok (.if_icmp .gt 13, 3) := by decide +kernel
theorem dX7_sure_47 : decode cX7_sure 47 = .ok (.iload 5, 2) := by decide +kernel
theorem dX7_sure_49 : decode cX7_sure 49 = .ok (.iconst 0, 1) := by decide +kernel
theorem dX7_sure_50 : decode cX7_sure 50 = .ok (.iconst 1, 1) := by decide +kernel
theorem dX7_sure_51 : decode cX7_sure 51 = .ok (.invokestatic 76, 3) := by decide +kernel
theorem dX7_sure_54 : decode cX7_sure 54 = .ok (.ifCond .ne 5, 3) := by decide +kernel
theorem dX7_sure_57 : decode cX7_sure 57 = .ok (.iconst (-1), 1) := by decide +kernel
theorem dX7_sure_58 : decode cX7_sure 58 = .ok (.ireturn, 1) := by decide +kernel
theorem dX7_sure_59 : decode cX7_sure 59 = .ok (.iload_n 3, 1) := by decide +kernel
theorem dX7_sure_60 : decode cX7_sure 60 = .ok (.iload_n 1, 1) := by decide +kernel
theorem dX7_sure_61 : decode cX7_sure 61 = .ok (.imul, 1) := by decide +kernel
theorem dX7_sure_62 : decode cX7_sure 62 = .ok (.istore 6, 2) := by decide +kernel
theorem dX7_sure_64 : decode cX7_sure 64 = .ok (.iload 6, 2) := by decide +kernel
theorem dX7_sure_66 : decode cX7_sure 66 = .ok (.iload 4, 2) := by decide +kernel
theorem dX7_sure_68 : decode cX7_sure 68 = .ok (.iload_n 3, 1) := by decide +kernel
theorem dX7_sure_69 : decode cX7_sure 69 = .ok (.isub, 1) := by decide +kernel
theorem dX7_sure_70 : decode cX7_sure 70 = .ok (.iload_n 2, 1) := by decide +kernel
theorem dX7_sure_71 : decode cX7_sure 71 = .ok (.imul, 1) := by decide +kernel
theorem dX7_sure_72 : decode cX7_sure 72 = .ok (.iadd, 1) := by decide +kernel
theorem dX7_sure_73 : decode cX7_sure 73 = .ok (.istore 7, 2) := by decide +kernel
theorem dX7_sure_75 : decode cX7_sure 75 = .ok (.iload 6, 2) := by decide +kernel
theorem dX7_sure_77 : decode cX7_sure 77 = .ok (.iload 7, 2) := by decide +kernel
theorem dX7_sure_79 : decode cX7_sure 79 = .ok (.invokestatic 153, 3) := by decide +kernel
theorem dX7_sure_82 : decode cX7_sure 82 = .ok (.istore 8, 2) := by decide +kernel
theorem dX7_sure_84 : decode cX7_sure 84 = .ok (.iload 7, 2) := by decide +kernel
theorem dX7_sure_86 : decode cX7_sure 86 = .ok (.ifCond .le 8, 3) := by decide +kernel
theorem dX7_sure_89 : decode cX7_sure 89 = .ok (.iload 8, 2) := by decide +kernel
theorem dX7_sure_91 : decode cX7_sure 91 = .ok (.ifCond .gt 6, 3) := by decide +kernel
theorem dX7_sure_94 : decode cX7_sure 94 = .ok (.bipush (-4), 2) := by decide +kernel
theorem dX7_sure_96 : decode cX7_sure 96 = .ok (.ireturn, 1) := by decide +kernel
theorem dX7_sure_97 : decode cX7_sure 97 = .ok (.iload 5, 2) := by decide +kernel
theorem dX7_sure_99 : decode cX7_sure 99 = .ok (.ifCond .ne 11, 3) := by decide +kernel
theorem dX7_sure_102 : decode cX7_sure 102 = .ok (.iload 6, 2) := by decide +kernel
theorem dX7_sure_104 : decode cX7_sure 104 = .ok (.iload 8, 2) := by decide +kernel
theorem dX7_sure_106 : decode cX7_sure 106 = .ok (.idiv, 1) := by decide +kernel
theorem dX7_sure_107 : decode cX7_sure 107 = .ok (.goto 8, 3) := by decide +kernel
theorem dX7_sure_110 : decode cX7_sure 110 = .ok (.iload 7, 2) := by decide +kernel
theorem dX7_sure_112 : decode cX7_sure 112 = .ok (.iload 8, 2) := by decide +kernel
theorem dX7_sure_114 : decode cX7_sure 114 = .ok (.idiv, 1) := by decide +kernel
theorem dX7_sure_115 : decode cX7_sure 115 = .ok (.ireturn, 1) := by decide +kernel
theorem dX7_bet_0 : decode cX7_bet 0 = .ok (.iload_n 1, 1) := by decide +kernel
theorem dX7_bet_1 : decode cX7_bet 1 = .ok (.iconst 0, 1) := by decide +kernel
theorem dX7_bet_2 : decode cX7_bet 2 = .ok (.bipush 99, 2) := by decide +kernel
theorem dX7_bet_4 : decode cX7_bet 4 = .ok (.invokestatic 76, 3) := by decide +kernel
theorem dX7_bet_7 : decode cX7_bet 7 = .ok (.ifCond .eq 22, 3) := by decide +kernel
theorem dX7_bet_10 : decode cX7_bet 10 = .ok (.iload_n 2, 1) := by decide +kernel
theorem dX7_bet_11 : decode cX7_bet 11 = .ok (.iconst 0, 1) := by decide +kernel
theorem dX7_bet_12 : decode cX7_bet 12 = .ok (.bipush 99, 2) := by decide +kernel
theorem dX7_bet_14 : decode cX7_bet 14 = .ok (.invokestatic 76, 3) := by decide +kernel
theorem dX7_bet_17 : decode cX7_bet 17 = .ok (.ifCond .eq 12, 3) := by decide +kernel
theorem dX7_bet_20 : decode cX7_bet 20 = .ok (.iload_n 3, 1) := by decide +kernel
theorem dX7_bet_21 : decode cX7_bet 21 = .ok (.iconst 0, 1) := by decide +kernel
theorem dX7_bet_22 : decode cX7_bet 22 = .ok (.iconst 1, 1) := by decide +kernel
theorem dX7_bet_23 : decode cX7_bet 23 = .ok (.invokestatic 76, 3) := by decide +kernel
theorem dX7_bet_26 : decode cX7_bet 26 = .ok (.ifCond .ne 5, 3) := by decide +kernel
theorem dX7_bet_29 : decode cX7_bet 29 = .ok (.iconst (-1), 1) := by decide +kernel
theorem dX7_bet_30 : decode cX7_bet 30 = .ok (.ireturn, 1) := by decide +kernel
theorem dX7_bet_31 : decode cX7_bet 31 = .ok (.iconst 2, 1) := by decide +kernel
theorem dX7_bet_32 : decode cX7_bet 32 = .ok (.istore 4, 2) := by decide +kernel
theorem dX7_bet_34 : decode cX7_bet 34 = .ok (.iload 4, 2) := by decide +kernel
theorem dX7_bet_36 : decode cX7_bet 36 = .ok (.sipush 198, 3) := by decide +kernel
theorem dX7_bet_39 : decode cX7_bet 39 = .ok (.if_icmp .gt 40, 3) := by decide +kernel
theorem dX7_bet_42 : decode cX7_bet 42 = .ok (.iload_n 1, 1) := by decide +kernel
theorem dX7_bet_43 : decode cX7_bet 43 = .ok (.iload_n 2, 1) := by decide +kernel
theorem dX7_bet_44 : decode cX7_bet 44 = .ok (.iload 4, 2) := by decide +kernel
theorem dX7_bet_46 : decode cX7_bet 46 = .ok (.invokestatic 156, 3) := by decide +kernel
theorem dX7_bet_49 : decode cX7_bet 49 = .ok (.istore 5, 2) := by decide +kernel
theorem dX7_bet_51 : decode cX7_bet 51 = .ok (.iload 5, 2) := by decide +kernel
theorem dX7_bet_53 : decode cX7_bet 53 = .ok (.bipush (-4), 2) := by decide +kernel
theorem dX7_bet_55 : decode cX7_bet 55 = .ok (.if_icmp .eq 18, 3) := by decide +kernel
theorem dX7_bet_58 : decode cX7_bet 58 = .ok (.iload_n 3, 1) := by decide +kernel
theorem dX7_bet_59 : decode cX7_bet 59 = .ok (.ifCond .ne 8, 3) := by decide +kernel
theorem dX7_bet_62 : decode cX7_bet 62 = .ok (.iload 5, 2) := by decide +kernel
theorem dX7_bet_64 : decode cX7_bet 64 = .ok (.goto 8, 3) := by decide +kernel
theorem dX7_bet_67 : decode cX7_bet 67 = .ok (.iload 4, 2) := by decide +kernel
theorem dX7_bet_69 : decode cX7_bet 69 = .ok (.iload 5, 2) := by decide +kernel
theorem dX7_bet_71 : decode cX7_bet 71 = .ok (.isub, 1) := by decide +kernel
theorem dX7_bet_72 : decode cX7_bet 72 = .ok (.ireturn, 1) := by decide +kernel
theorem dX7_bet_73 : decode cX7_bet 73 = .ok (.iinc 4 1, 3) := by decide +kernel
theorem dX7_bet_76 : decode cX7_bet 76 = .ok (.goto (-42), 3) := by decide +kernel
theorem dX7_bet_79 : decode cX7_bet 79 = .ok (.bipush (-4), 2) := by decide +kernel
theorem dX7_bet_81 : decode cX7_bet 81 = .ok (.ireturn, 1) := by decide +kernel
theorem dX7_sets_0 : decode cX7_sets 0 = .ok (.iload_n 1, 1) := by decide +kernel
theorem dX7_sets_1 : decode cX7_sets 1 = .ok (.iload_n 2, 1) := by decide +kernel
theorem dX7_sets_2 : decode cX7_sets 2 = .ok (.iload_n 3, 1) := by decide +kernel
theorem dX7_sets_3 : decode cX7_sets 3 = .ok (.invokestatic 159, 3) := by decide +kernel
theorem dX7_sets_6 : decode cX7_sets 6 = .ok (.ifCond .eq 14, 3) := by decide +kernel
theorem dX7_sets_9 : decode cX7_sets 9 = .ok (.iload 4, 2) := by decide +kernel
theorem dX7_sets_11 : decode cX7_sets 11 = .ok (.iconst 0, 1) := by decide +kernel
theorem dX7_sets_12 : decode cX7_sets 12 = .ok (.bipush 9, 2) := by decide +kernel
theorem dX7_sets_14 : decode cX7_sets 14 = .ok (.invokestatic 76, 3) := by decide +kernel
theorem dX7_sets_17 : decode cX7_sets 17 = .ok (.ifCond .ne 5, 3) := by decide +kernel
theorem dX7_sets_20 : decode cX7_sets 20 = .ok (.iconst (-1), 1) := by decide +kernel
theorem dX7_sets_21 : decode cX7_sets 21 = .ok (.ireturn, 1) := by decide +kernel
theorem dX7_sets_22 : decode cX7_sets 22 = .ok (.aload_n 0, 1) := by decide +kernel
theorem dX7_sets_23 : decode cX7_sets 23 = .ok (.getfield 47, 3) := by decide +kernel
theorem dX7_sets_26 : decode cX7_sets 26 = .ok (.aload_n 0, 1) := by decide +kernel
theorem dX7_sets_27 : decode cX7_sets 27 = .ok (.getfield 10, 3) := by decide +kernel
theorem dX7_sets_30 : decode cX7_sets 30 = .ok (.iconst 1, 1) := by decide +kernel
theorem dX7_sets_31 : decode cX7_sets 31 = .ok (.invokevirtual 119, 3) := by decide +kernel
theorem dX7_sets_34 : decode cX7_sets 34 = .ok (.iload_n 1, 1) := by decide +kernel
theorem dX7_sets_35 : decode cX7_sets 35 = .ok (.iload_n 2, 1) := by decide +kernel
theorem dX7_sets_36 : decode cX7_sets 36 = .ok (.iload_n 3, 1) := by decide +kernel
theorem dX7_sets_37 : decode cX7_sets 37 = .ok (.iload 4, 2) := by decide +kernel
theorem dX7_sets_39 : decode cX7_sets 39 = .ok (.invokevirtual 162, 3) := by decide +kernel
theorem dX7_sets_42 : decode cX7_sets 42 = .ok (.ireturn, 1) := by decide +kernel
theorem dX7_surely_0 : decode cX7_surely 0 = .ok (.iload_n 1, 1) := by decide +kernel
theorem dX7_surely_1 : decode cX7_surely 1 = .ok (.iload_n 2, 1) := by decide +kernel
theorem dX7_surely_2 : decode cX7_surely 2 = .ok (.iload_n 3, 1) := by decide +kernel
theorem dX7_surely_3 : decode cX7_surely 3 = .ok (.invokestatic 159, 3) := by decide +kernel
theorem dX7_surely_6 : decode cX7_surely 6 = .ok (.ifCond .eq 24, 3) := by decide +kernel
theorem dX7_surely_9 : decode cX7_surely 9 = .ok (.iload 4, 2) := by decide +kernel
theorem dX7_surely_11 : decode cX7_surely 11 = .ok (.iconst 0, 1) := by decide +kernel
theorem dX7_surely_12 : decode cX7_surely 12 = .ok (.bipush 9, 2) := by decide +kernel
theorem dX7_surely_14 : decode cX7_surely 14 = .ok (.invokestatic 76, 3) := by decide +kernel
theorem dX7_surely_17 : decode cX7_surely 17 = .ok (.ifCond .eq 13, 3) := by decide +kernel
theorem dX7_surely_20 : decode cX7_surely 20 = .ok (.iload 5, 2) := by decide +kernel
theorem dX7_surely_22 : decode cX7_surely 22 = .ok (.iconst 0, 1) := by decide +kernel
theorem dX7_surely_23 : decode cX7_surely 23 = .ok (.iconst 1, 1) := by decide +kernel
theorem dX7_surely_24 : decode cX7_surely 24 = .ok (.invokestatic 76, 3) := by decide +kernel
theorem dX7_surely_27 : decode cX7_surely 27 = .ok (.ifCond .ne 5, 3) := by decide +kernel
theorem dX7_surely_30 : decode cX7_surely 30 = .ok (.iconst (-1), 1) := by decide +kernel
theorem dX7_surely_31 : decode cX7_surely 31 = .ok (.ireturn, 1) := by decide +kernel
theorem dX7_surely_32 : decode cX7_surely 32 = .ok (.aload_n 0, 1) := by decide +kernel
theorem dX7_surely_33 : decode cX7_surely 33 = .ok (.getfield 47, 3) := by decide +kernel
theorem dX7_surely_36 : decode cX7_surely 36 = .ok (.aload_n 0, 1) := by decide +kernel
theorem dX7_surely_37 : decode cX7_surely 37 = .ok (.getfield 10, 3) := by decide +kernel
theorem dX7_surely_40 : decode cX7_surely 40 = .ok (.iconst 1, 1) := by decide +kernel
theorem dX7_surely_41 : decode cX7_surely 41 = .ok (.invokevirtual 119, 3) := by decide +kernel
theorem dX7_surely_44 : decode cX7_surely 44 = .ok (.iload_n 1, 1) := by decide +kernel
theorem dX7_surely_45 : decode cX7_surely 45 = .ok (.iload_n 2, 1) := by decide +kernel
theorem dX7_surely_46 : decode cX7_surely 46 = .ok (.iload_n 3, 1) := by decide +kernel
theorem dX7_surely_47 : decode cX7_surely 47 = .ok (.iload 4, 2) := by decide +kernel
theorem dX7_surely_49 : decode cX7_surely 49 = .ok (.invokevirtual 162, 3) := by decide +kernel
theorem dX7_surely_52 : decode cX7_surely 52 = .ok (.istore 6, 2) := by decide +kernel
theorem dX7_surely_54 : decode cX7_surely 54 = .ok (.iload 6, 2) := by decide +kernel
theorem dX7_surely_56 : decode cX7_surely 56 = .ok (.ifCond .ne 6, 3) := by decide +kernel
theorem dX7_surely_59 : decode cX7_surely 59 = .ok (.bipush (-4), 2) := by decide +kernel
theorem dX7_surely_61 : decode cX7_surely 61 = .ok (.ireturn, 1) := by decide +kernel
theorem dX7_surely_62 : decode cX7_surely 62 = .ok (.iload 5, 2) := by decide +kernel
theorem dX7_surely_64 : decode cX7_surely 64 = .ok (.ifCond .ne 8, 3) := by decide +kernel
theorem dX7_surely_67 : decode cX7_surely 67 = .ok (.iload 6, 2) := by decide +kernel
theorem dX7_surely_69 : decode cX7_surely 69 = .ok (.goto 4, 3) := by decide +kernel
theorem dX7_surely_72 : decode cX7_surely 72 = .ok (.iconst 0, 1) := by decide +kernel
theorem dX7_surely_73 : decode cX7_surely 73 = .ok (.istore 7, 2) := by decide +kernel
theorem dX7_surely_75 : decode cX7_surely 75 = .ok (.iconst 0, 1) := by decide +kernel
theorem dX7_surely_76 : decode cX7_surely 76 = .ok (.istore 8, 2) := by decide +kernel
theorem dX7_surely_78 : decode cX7_surely 78 = .ok (.iconst 0, 1) := by decide +kernel
theorem dX7_surely_79 : decode cX7_surely 79 = .ok (.istore 9, 2) := by decide +kernel
theorem dX7_surely_81 : decode cX7_surely 81 = .ok (.iload 9, 2) := by decide +kernel
theorem dX7_surely_83 : decode cX7_surely 83 = .ok (.bipush 28, 2) := by decide +kernel
theorem dX7_surely_85 : decode cX7_surely 85 = .ok (.if_icmp .ge 57, 3) := by decide +kernel
theorem dX7_surely_88 : decode cX7_surely 88 = .ok (.iconst 1, 1) := by decide +kernel
theorem dX7_surely_89 : decode cX7_surely 89 = .ok (.iload 9, 2) := by decide +kernel
theorem dX7_surely_91 : decode cX7_surely 91 = .ok (.ishl, 1) := by decide +kernel
theorem dX7_surely_92 : decode cX7_surely 92 = .ok (.istore 10, 2) := by decide +kernel
theorem dX7_surely_94 : decode cX7_surely 94 = .ok (.iload_n 1, 1) := by decide +kernel
theorem dX7_surely_95 : decode cX7_surely 95 = .ok (.iload 10, 2) := by decide +kernel
theorem dX7_surely_97 : decode cX7_surely 97 = .ok (.iand, 1) := by decide +kernel
theorem dX7_surely_98 : decode cX7_surely 98 = .ok (.ifCond .eq 38, 3) := by decide +kernel
theorem dX7_surely_101 : decode cX7_surely 101 = .ok (.aload_n 0, 1) := by decide +kernel
theorem dX7_surely_102 : decode cX7_surely 102 = .ok (.getfield 47, 3) := by decide +kernel
theorem dX7_surely_105 : decode cX7_surely 105 = .ok (.aload_n 0, 1) := by decide +kernel
theorem dX7_surely_106 : decode cX7_surely 106 = .ok (.getfield 10, 3) := by decide +kernel
theorem dX7_surely_109 : decode cX7_surely 109 = .ok (.iconst 1, 1) := by decide +kernel
theorem dX7_surely_110 : decode cX7_surely 110 = .ok (.invokevirtual 119, 3) := by decide +kernel
theorem dX7_surely_113 : decode cX7_surely 113 = .ok (.iload_n 1, 1) := by decide +kernel
theorem dX7_surely_114 : decode cX7_surely 114 = .ok (.iload_n 2, 1) := by decide +kernel
theorem dX7_surely_115 : decode cX7_surely 115 = .ok (.iload_n 3, 1) := by decide +kernel
theorem dX7_surely_116 : decode cX7_surely 116 = .ok (.iload 10, 2) := by decide +kernel
theorem dX7_surely_118 : decode cX7_surely 118 = .ok (.ior, 1) := by decide +kernel
theorem dX7_surely_119 : decode cX7_surely 119 = .ok (.iload 4, 2) := by decide +kernel
theorem dX7_surely_121 : decode cX7_surely 121 = .ok (.invokevirtual 162, 3) := by decide +kernel
theorem dX7_surely_124 : decode cX7_surely 124 = .ok (.iload 7, 2) := by decide +kernel
theorem dX7_surely_126 : decode cX7_surely 126 = .ok (.if_icmp .ne 10, 3) := by decide +kernel
theorem dX7_surely_129 : decode cX7_surely 129 = .ok (.iload 8, 2) := by decide +kernel
theorem dX7_surely_131 : decode cX7_surely 131 = .ok (.iload 10, 2) := by decide +kernel
theorem dX7_surely_133 : decode cX7_surely 133 = .ok (.ior, 1) := by decide +kernel
theorem dX7_surely_134 : decode cX7_surely 134 = .ok (.istore 8, 2) := by decide +kernel
theorem dX7_surely_136 : decode cX7_surely 136 = .ok (.iinc 9 1, 3) := by decide +kernel
theorem dX7_surely_139 : decode cX7_surely 139 = .ok (.goto (-58), 3) := by decide +kernel
theorem dX7_surely_142 : decode cX7_surely 142 = .ok (.iload 8, 2) := by decide +kernel
theorem dX7_surely_144 : decode cX7_surely 144 = .ok (.ireturn, 1) := by decide +kernel
theorem dX7_lots_0 : decode cX7_lots 0 = .ok (.aload_n 0, 1) := by decide +kernel
theorem dX7_lots_1 : decode cX7_lots 1 = .ok (.getfield 10, 3) := by decide +kernel
theorem dX7_lots_4 : decode cX7_lots 4 = .ok (.invokevirtual 166, 3) := by decide +kernel
theorem dX7_lots_7 : decode cX7_lots 7 = .ok (.ireturn, 1) := by decide +kernel
theorem dX7_seed_0 : decode cX7_seed 0 = .ok (.iconst 3, 1) := by decide +kernel
theorem dX7_seed_1 : decode cX7_seed 1 = .ok (.iload_n 1, 1) := by decide +kernel
theorem dX7_seed_2 : decode cX7_seed 2 = .ok (.invokestatic 88, 3) := by decide +kernel
theorem dX7_seed_5 : decode cX7_seed 5 = .ok (.ifCond .eq 15, 3) := by decide +kernel
theorem dX7_seed_8 : decode cX7_seed 8 = .ok (.aload_n 0, 1) := by decide +kernel
theorem dX7_seed_9 : decode cX7_seed 9 = .ok (.getfield 10, 3) := by decide +kernel
theorem dX7_seed_12 : decode cX7_seed 12 = .ok (.iconst 3, 1) := by decide +kernel
theorem dX7_seed_13 : decode cX7_seed 13 = .ok (.iload_n 1, 1) := by decide +kernel
theorem dX7_seed_14 : decode cX7_seed 14 = .ok (.invokevirtual 91, 3) := by decide +kernel
theorem dX7_seed_17 : decode cX7_seed 17 = .ok (.goto 4, 3) := by decide +kernel
theorem dX7_seed_20 : decode cX7_seed 20 = .ok (.iconst (-1), 1) := by decide +kernel
theorem dX7_seed_21 : decode cX7_seed 21 = .ok (.ireturn, 1) := by decide +kernel
theorem dX7_image_0 : decode cX7_image 0 = .ok (.aload_n 0, 1) := by decide +kernel
theorem dX7_image_1 : decode cX7_image 1 = .ok (.getfield 16, 3) := by decide +kernel
theorem dX7_image_4 : decode cX7_image 4 = .ok (.aload_n 0, 1) := by decide +kernel
theorem dX7_image_5 : decode cX7_image 5 = .ok (.getfield 10, 3) := by decide +kernel
theorem dX7_image_8 : decode cX7_image 8 = .ok (.invokevirtual 169, 3) := by decide +kernel
theorem dX7_image_11 : decode cX7_image 11 = .ok (.aload_n 0, 1) := by decide +kernel
theorem dX7_image_12 : decode cX7_image 12 = .ok (.iconst 1, 1) := by decide +kernel
theorem dX7_image_13 : decode cX7_image 13 = .ok (.putfield 19, 3) := by decide +kernel
theorem dX7_image_16 : decode cX7_image 16 = .ok (.iconst 1, 1) := by decide +kernel
theorem dX7_image_17 : decode cX7_image 17 = .ok (.ireturn, 1) := by decide +kernel
theorem dX7_restore_0 : decode cX7_restore 0 = .ok (.aload_n 0, 1) := by decide +kernel
theorem dX7_restore_1 : decode cX7_restore 1 = .ok (.getfield 19, 3) := by decide +kernel
theorem dX7_restore_4 : decode cX7_restore 4 = .ok (.ifCond .ne 6, 3) := by decide +kernel
theorem dX7_restore_7 : decode cX7_restore 7 = .ok (.bipush (-4), 2) := by decide +kernel
theorem dX7_restore_9 : decode cX7_restore 9 = .ok (.ireturn, 1) := by decide +kernel
theorem dX7_restore_10 : decode cX7_restore 10 = .ok (.aload_n 0, 1) := by decide +kernel
theorem dX7_restore_11 : decode cX7_restore 11 = .ok (.getfield 10, 3) := by decide +kernel
theorem dX7_restore_14 : decode cX7_restore 14 = .ok (.aload_n 0, 1) := by decide +kernel
theorem dX7_restore_15 : decode cX7_restore 15 = .ok (.getfield 16, 3) := by decide +kernel
theorem dX7_restore_18 : decode cX7_restore 18 = .ok (.invokevirtual 169, 3) := by decide +kernel
theorem dX7_restore_21 : decode cX7_restore 21 = .ok (.iconst 1, 1) := by decide +kernel
theorem dX7_restore_22 : decode cX7_restore 22 = .ok (.ireturn, 1) := by decide +kernel
theorem dX7_judged_0 : decode cX7_judged 0 = .ok (.aload_n 0, 1) := by decide +kernel
theorem dX7_judged_1 : decode cX7_judged 1 = .ok (.iload_n 1, 1) := by decide +kernel
theorem dX7_judged_2 : decode cX7_judged 2 = .ok (.invokevirtual 172, 3) := by decide +kernel
theorem dX7_judged_5 : decode cX7_judged 5 = .ok (.astore 5, 2) := by decide +kernel
theorem dX7_judged_7 : decode cX7_judged 7 = .ok (.aload 5, 2) := by decide +kernel
theorem dX7_judged_9 : decode cX7_judged 9 = .ok (.ifnull 21, 3) := by decide +kernel
theorem dX7_judged_12 : decode cX7_judged 12 = .ok (.iload_n 2, 1) := by decide +kernel
theorem dX7_judged_13 : decode cX7_judged 13 = .ok (.invokestatic 176, 3) := by decide +kernel
theorem dX7_judged_16 : decode cX7_judged 16 = .ok (.ifCond .eq 14, 3) := by decide +kernel
theorem dX7_judged_19 : decode cX7_judged 19 = .ok (.iload 4, 2) := by decide +kernel
theorem dX7_judged_21 : decode cX7_judged 21 = .ok (.iconst 0, 1) := by decide +kernel
theorem dX7_judged_22 : decode cX7_judged 22 = .ok (.bipush 9, 2) := by decide +kernel
theorem dX7_judged_24 : decode cX7_judged 24 = .ok (.invokestatic 76, 3) := by decide +kernel
theorem dX7_judged_27 : decode cX7_judged 27 = .ok (.ifCond .ne 6, 3) := by decide +kernel
theorem dX7_judged_30 : decode cX7_judged 30 = .ok (.ldc 152, 2) := by decide +kernel
theorem dX7_judged_32 : decode cX7_judged 32 = .ok (.ireturn, 1) := by decide +kernel
theorem dX7_judged_33 : decode cX7_judged 33 = .ok (.aload 5, 2) := by decide +kernel
theorem dX7_judged_35 : decode cX7_judged 35 = .ok (.iload_n 2, 1) := by decide +kernel
theorem dX7_judged_36 : decode cX7_judged 36 = .ok (.iload_n 3, 1) := by decide +kernel
theorem dX7_judged_37 : decode cX7_judged 37 = .ok (.iload 4, 2) := by decide +kernel
theorem dX7_judged_39 : decode cX7_judged 39 = .ok (.invokevirtual 179, 3) := by decide +kernel
theorem dX7_judged_42 : decode cX7_judged 42 = .ok (.istore 6, 2) := by decide +kernel
theorem dX7_judged_44 : decode cX7_judged 44 = .ok (.iload 6, 2) := by decide +kernel
theorem dX7_judged_46 : decode cX7_judged 46 = .ok (.ifCond .eq 9, 3) := by decide +kernel
theorem dX7_judged_49 : decode cX7_judged 49 = .ok (.iload 6, 2) := by decide +kernel
theorem dX7_judged_51 : decode cX7_judged 51 = .ok (.ldc 140, 2) := by decide +kernel
theorem dX7_judged_53 : decode cX7_judged 53 = .ok (.isub, 1) := by decide +kernel
theorem dX7_judged_54 : decode cX7_judged 54 = .ok (.ireturn, 1) := by decide +kernel
theorem dX7_judged_55 : decode cX7_judged 55 = .ok (.aload 5, 2) := by decide +kernel
theorem dX7_judged_57 : decode cX7_judged 57 = .ok (.iload_n 3, 1) := by decide +kernel
theorem dX7_judged_58 : decode cX7_judged 58 = .ok (.iload 4, 2) := by decide +kernel
theorem dX7_judged_60 : decode cX7_judged 60 = .ok (.aload_n 0, 1) := by decide +kernel
theorem dX7_judged_61 : decode cX7_judged 61 = .ok (.getfield 10, 3) := by decide +kernel
theorem dX7_judged_64 : decode cX7_judged 64 = .ok (.getfield 62, 3) := by decide +kernel
theorem dX7_judged_67 : decode cX7_judged 67 = .ok (.getfield 112, 3) := by decide +kernel
theorem dX7_judged_70 : decode cX7_judged 70 = .ok (.invokevirtual 181, 3) := by decide +kernel
theorem dX7_judged_73 : decode cX7_judged 73 = .ok (.istore 7, 2) := by decide +kernel
theorem dX7_judged_75 : decode cX7_judged 75 = .ok (.iload 7, 2) := by decide +kernel
theorem dX7_judged_77 : decode cX7_judged 77 = .ok (.bipush (-2), 2) := by decide +kernel
theorem dX7_judged_79 : decode cX7_judged 79 = .ok (.if_icmp .eq 12, 3) := by decide +kernel
theorem dX7_judged_82 : decode cX7_judged 82 = .ok (.aload_n 0, 1) := by decide +kernel
theorem dX7_judged_83 : decode cX7_judged 83 = .ok (.iload 7, 2) := by decide +kernel
theorem dX7_judged_85 : decode cX7_judged 85 = .ok (.invokevirtual 131, 3) := by decide +kernel
theorem dX7_judged_88 : decode cX7_judged 88 = .ok (.ifCond .eq 6, 3) := by decide +kernel
theorem dX7_judged_91 : decode cX7_judged 91 = .ok (.ldc 151, 2) := by decide +kernel
theorem dX7_judged_93 : decode cX7_judged 93 = .ok (.ireturn, 1) := by decide +kernel
theorem dX7_judged_94 : decode cX7_judged 94 = .ok (.aload_n 0, 1) := by decide +kernel
theorem dX7_judged_95 : decode cX7_judged 95 = .ok (.getfield 10, 3) := by decide +kernel
theorem dX7_judged_98 : decode cX7_judged 98 = .ok (.iload 7, 2) := by decide +kernel
theorem dX7_judged_100 : decode cX7_judged 100 = .ok (.invokevirtual 137, 3) := by decide +kernel
theorem dX7_judged_103 : decode cX7_judged 103 = .ok (.ireturn, 1) := by decide +kernel
theorem dX7_film_0 : decode cX7_film 0 = .ok (.aload_n 0, 1) := by decide +kernel
theorem dX7_film_1 : decode cX7_film 1 = .ok (.iload_n 2, 1) := by decide +kernel
theorem dX7_film_2 : decode cX7_film 2 = .ok (.invokevirtual 172, 3) := by decide +kernel
theorem dX7_film_5 : decode cX7_film 5 = .ok (.astore 5, 2) := by decide +kernel
theorem dX7_film_7 : decode cX7_film 7 = .ok (.aload 5, 2) := by decide +kernel
theorem dX7_film_9 : decode cX7_film 9 = .ok (.ifnull 10, 3) := by decide +kernel
theorem dX7_film_12 : decode cX7_film 12 = .ok (.iload_n 3, 1) := by decide +kernel
theorem dX7_film_13 : decode cX7_film 13 = .ok (.invokestatic 176, 3) := by decide +kernel
theorem dX7_film_16 : decode cX7_film 16 = .ok (.ifCond .ne 5, 3) := by decide +kernel
theorem dX7_film_19 : decode cX7_film 19 = .ok (.iconst (-1), 1) := by decide +kernel
theorem dX7_film_20 : decode cX7_film 20 = .ok (.ireturn, 1) := by decide +kernel
theorem dX7_film_21 : decode cX7_film 21 = .ok (.aload_n 0, 1) := by decide +kernel
theorem dX7_film_22 : decode cX7_film 22 = .ok (.iload_n 1, 1) := by decide +kernel
theorem dX7_film_23 : decode cX7_film 23 = .ok (.invokevirtual 131, 3) := by decide +kernel
theorem dX7_film_26 : decode cX7_film 26 = .ok (.istore 6, 2) := by decide +kernel
theorem dX7_film_28 : decode cX7_film 28 = .ok (.iload 6, 2) := by decide +kernel
theorem dX7_film_30 : decode cX7_film 30 = .ok (.ifCond .eq 6, 3) := by decide +kernel
theorem dX7_film_33 : decode cX7_film 33 = .ok (.iload 6, 2) := by decide +kernel
theorem dX7_film_35 : decode cX7_film 35 = .ok (.ireturn, 1) := by decide +kernel
theorem dX7_film_36 : decode cX7_film 36 = .ok (.aload 5, 2) := by decide +kernel
theorem dX7_film_38 : decode cX7_film 38 = .ok (.iload_n 3, 1) := by decide +kernel
theorem dX7_film_39 : decode cX7_film 39 = .ok (.iload 4, 2) := by decide +kernel
theorem dX7_film_41 : decode cX7_film 41 = .ok (.aload_n 0, 1) := by decide +kernel
theorem dX7_film_42 : decode cX7_film 42 = .ok (.getfield 10, 3) := by decide +kernel
theorem dX7_film_45 : decode cX7_film 45 = .ok (.getfield 62, 3) := by decide +kernel
theorem dX7_film_48 : decode cX7_film 48 = .ok (.getfield 112, 3) := by decide +kernel
theorem dX7_film_51 : decode cX7_film 51 = .ok (.invokevirtual 179, 3) := by decide +kernel
theorem dX7_film_54 : decode cX7_film 54 = .ok (.istore 6, 2) := by decide +kernel
theorem dX7_film_56 : decode cX7_film 56 = .ok (.iload 6, 2) := by decide +kernel
theorem dX7_film_58 : decode cX7_film 58 = .ok (.ifCond .eq 6, 3) := by decide +kernel
theorem dX7_film_61 : decode cX7_film 61 = .ok (.iload 6, 2) := by decide +kernel
theorem dX7_film_63 : decode cX7_film 63 = .ok (.ireturn, 1) := by decide +kernel
theorem dX7_film_64 : decode cX7_film 64 = .ok (.iconst 0, 1) := by decide +kernel
theorem dX7_film_65 : decode cX7_film 65 = .ok (.istore 7, 2) := by decide +kernel
theorem dX7_film_67 : decode cX7_film 67 = .ok (.iload 7, 2) := by decide +kernel
theorem dX7_film_69 : decode cX7_film 69 = .ok (.aload_n 0, 1) := by decide +kernel
theorem dX7_film_70 : decode cX7_film 70 = .ok (.getfield 10, 3) := by decide +kernel
theorem dX7_film_73 : decode cX7_film 73 = .ok (.getfield 62, 3) := by decide +kernel
theorem dX7_film_76 : decode cX7_film 76 = .ok (.getfield 112, 3) := by decide +kernel
theorem dX7_film_79 : decode cX7_film 79 = .ok (.if_icmp .ge 29, 3) := by decide +kernel
theorem dX7_film_82 : decode cX7_film 82 = .ok (.aload 5, 2) := by decide +kernel
theorem dX7_film_84 : decode cX7_film 84 = .ok (.iload 4, 2) := by decide +kernel
theorem dX7_film_86 : decode cX7_film 86 = .ok (.iload 7, 2) := by decide +kernel
theorem dX7_film_88 : decode cX7_film 88 = .ok (.iadd, 1) := by decide +kernel
theorem dX7_film_89 : decode cX7_film 89 = .ok (.aload_n 0, 1) := by decide +kernel
theorem dX7_film_90 : decode cX7_film 90 = .ok (.getfield 10, 3) := by decide +kernel
theorem dX7_film_93 : decode cX7_film 93 = .ok (.iload_n 1, 1) := by decide +kernel
theorem dX7_film_94 : decode cX7_film 94 = .ok (.iload 7, 2) := by decide +kernel
theorem dX7_film_96 : decode cX7_film 96 = .ok (.invokevirtual 184, 3) := by decide +kernel
theorem dX7_film_99 : decode cX7_film 99 = .ok (.invokevirtual 187, 3) := by decide +kernel
theorem dX7_film_102 : decode cX7_film 102 = .ok (.iinc 7 1, 3) := by decide +kernel
theorem dX7_film_105 : decode cX7_film 105 = .ok (.goto (-38), 3) := by decide +kernel
theorem dX7_film_108 : decode cX7_film 108 = .ok (.aload_n 0, 1) := by decide +kernel
theorem dX7_film_109 : decode cX7_film 109 = .ok (.getfield 10, 3) := by decide +kernel
theorem dX7_film_112 : decode cX7_film 112 = .ok (.getfield 62, 3) := by decide +kernel
theorem dX7_film_115 : decode cX7_film 115 = .ok (.getfield 112, 3) := by decide +kernel
theorem dX7_film_118 : decode cX7_film 118 = .ok (.ireturn, 1) := by decide +kernel
theorem dX7_sheet_0 : decode cX7_sheet 0 = .ok (.aload_n 0, 1) := by decide +kernel
theorem dX7_sheet_1 : decode cX7_sheet 1 = .ok (.iload_n 1, 1) := by decide +kernel
theorem dX7_sheet_2 : decode cX7_sheet 2 = .ok (.invokevirtual 172, 3) := by decide +kernel
theorem dX7_sheet_5 : decode cX7_sheet 5 = .ok (.astore 4, 2) := by decide +kernel
theorem dX7_sheet_7 : decode cX7_sheet 7 = .ok (.aload 4, 2) := by decide +kernel
theorem dX7_sheet_9 : decode cX7_sheet 9 = .ok (.ifnull 16, 3) := by decide +kernel
theorem dX7_sheet_12 : decode cX7_sheet 12 = .ok (.iload_n 2, 1) := by decide +kernel
theorem dX7_sheet_13 : decode cX7_sheet 13 = .ok (.invokestatic 176, 3) := by decide +kernel
theorem dX7_sheet_16 : decode cX7_sheet 16 = .ok (.ifCond .eq 9, 3) := by decide +kernel
theorem dX7_sheet_19 : decode cX7_sheet 19 = .ok (.iload_n 3, 1) := by decide +kernel
theorem dX7_sheet_20 : decode cX7_sheet 20 = .ok (.bipush 28, 2) := by decide +kernel
theorem dX7_sheet_22 : decode cX7_sheet 22 = .ok (.if_icmp .le 5, 3) := by decide +kernel
theorem dX7_sheet_25 : decode cX7_sheet 25 = .ok (.iconst (-1), 1) := by decide +kernel
theorem dX7_sheet_26 : decode cX7_sheet 26 = .ok (.ireturn, 1) := by decide +kernel
theorem dX7_sheet_27 : decode cX7_sheet 27 = .ok (.iload_n 3, 1) := by decide +kernel
theorem dX7_sheet_28 : decode cX7_sheet 28 = .ok (.ifCond .ge 8, 3) := by decide +kernel
theorem dX7_sheet_31 : decode cX7_sheet 31 = .ok (.bipush (-14), 2) := by decide +kernel
theorem dX7_sheet_33 : decode cX7_sheet 33 = .ok (.goto 10, 3) := by decide +kernel
theorem dX7_sheet_36 : decode cX7_sheet 36 = .ok (.aload 4, 2) := by decide +kernel
theorem dX7_sheet_38 : decode cX7_sheet 38 = .ok (.iload_n 2, 1) := by decide +kernel
theorem dX7_sheet_39 : decode cX7_sheet 39 = .ok (.iload_n 3, 1) := by decide +kernel
theorem dX7_sheet_40 : decode cX7_sheet 40 = .ok (.invokevirtual 190, 3) := by decide +kernel
theorem dX7_sheet_43 : decode cX7_sheet 43 = .ok (.ireturn, 1) := by decide +kernel
theorem dX7_drop_0 : decode cX7_drop 0 = .ok (.aload_n 0, 1) := by decide +kernel
theorem dX7_drop_1 : decode cX7_drop 1 = .ok (.iload_n 1, 1) := by decide +kernel
theorem dX7_drop_2 : decode cX7_drop 2 = .ok (.invokevirtual 172, 3) := by decide +kernel
theorem dX7_drop_5 : decode cX7_drop 5 = .ok (.astore_n 2, 1) := by decide +kernel
theorem dX7_drop_6 : decode cX7_drop 6 = .ok (.aload_n 2, 1) := by decide +kernel
theorem dX7_drop_7 : decode cX7_drop 7 = .ok (.ifnonnull 5, 3) := by decide +kernel
theorem dX7_drop_10 : decode cX7_drop 10 = .ok (.iconst (-1), 1) := by decide +kernel
theorem dX7_drop_11 : decode cX7_drop 11 = .ok (.ireturn, 1) := by decide +kernel
theorem dX7_drop_12 : decode cX7_drop 12 = .ok (.aload_n 2, 1) := by decide +kernel
theorem dX7_drop_13 : decode cX7_drop 13 = .ok (.invokevirtual 193, 3) := by decide +kernel
theorem dX7_drop_16 : decode cX7_drop 16 = .ok (.ifCond .eq 8, 3) := by decide +kernel
theorem dX7_drop_19 : decode cX7_drop 19 = .ok (.bipush (-11), 2) := by decide +kernel
theorem dX7_drop_21 : decode cX7_drop 21 = .ok (.goto 7, 3) := by decide +kernel
theorem dX7_drop_24 : decode cX7_drop 24 = .ok (.aload_n 2, 1) := by decide +kernel
theorem dX7_drop_25 : decode cX7_drop 25 = .ok (.invokevirtual 197, 3) := by decide +kernel
theorem dX7_drop_28 : decode cX7_drop 28 = .ok (.ireturn, 1) := by decide +kernel
theorem dX7_item_0 : decode cX7_item 0 = .ok (.aload_n 0, 1) := by decide +kernel
theorem dX7_item_1 : decode cX7_item 1 = .ok (.iload_n 1, 1) := by decide +kernel
theorem dX7_item_2 : decode cX7_item 2 = .ok (.invokevirtual 172, 3) := by decide +kernel
theorem dX7_item_5 : decode cX7_item 5 = .ok (.astore 5, 2) := by decide +kernel
theorem dX7_item_7 : decode cX7_item 7 = .ok (.aload 5, 2) := by decide +kernel
theorem dX7_item_9 : decode cX7_item 9 = .ok (.ifnull 10, 3) := by decide +kernel
theorem dX7_item_12 : decode cX7_item 12 = .ok (.iload_n 2, 1) := by decide +kernel
theorem dX7_item_13 : decode cX7_item 13 = .ok (.invokestatic 176, 3) := by decide +kernel
theorem dX7_item_16 : decode cX7_item 16 = .ok (.ifCond .ne 5, 3) := by decide +kernel
theorem dX7_item_19 : decode cX7_item 19 = .ok (.iconst (-1), 1) := by decide +kernel
theorem dX7_item_20 : decode cX7_item 20 = .ok (.ireturn, 1) := by decide +kernel
theorem dX7_item_21 : decode cX7_item 21 = .ok (.aload 5, 2) := by decide +kernel
theorem dX7_item_23 : decode cX7_item 23 = .ok (.iload_n 2, 1) := by decide +kernel
theorem dX7_item_24 : decode cX7_item 24 = .ok (.iload_n 3, 1) := by decide +kernel
theorem dX7_item_25 : decode cX7_item 25 = .ok (.iconst 1, 1) := by decide +kernel
theorem dX7_item_26 : decode cX7_item 26 = .ok (.invokevirtual 179, 3) := by decide +kernel
theorem dX7_item_29 : decode cX7_item 29 = .ok (.istore 6, 2) := by decide +kernel
theorem dX7_item_31 : decode cX7_item 31 = .ok (.iload 6, 2) := by decide +kernel
theorem dX7_item_33 : decode cX7_item 33 = .ok (.ifCond .eq 6, 3) := by decide +kernel
theorem dX7_item_36 : decode cX7_item 36 = .ok (.iload 6, 2) := by decide +kernel
theorem dX7_item_38 : decode cX7_item 38 = .ok (.ireturn, 1) := by decide +kernel
theorem dX7_item_39 : decode cX7_item 39 = .ok (.aload 5, 2) := by decide +kernel
theorem dX7_item_41 : decode cX7_item 41 = .ok (.iload_n 3, 1) := by decide +kernel
theorem dX7_item_42 : decode cX7_item 42 = .ok (.iload 4, 2) := by decide +kernel
theorem dX7_item_44 : decode cX7_item 44 = .ok (.invokevirtual 187, 3) := by decide +kernel
theorem dX7_item_47 : decode cX7_item 47 = .ok (.iconst 1, 1) := by decide +kernel
theorem dX7_item_48 : decode cX7_item 48 = .ok (.ireturn, 1) := by decide +kernel
theorem dX7_copy_0 : decode cX7_copy 0 = .ok (.aload_n 0, 1) := by decide +kernel
theorem dX7_copy_1 : decode cX7_copy 1 = .ok (.iload_n 1, 1) := by decide +kernel
theorem dX7_copy_2 : decode cX7_copy 2 = .ok (.invokevirtual 172, 3) := by decide +kernel
theorem dX7_copy_5 : decode cX7_copy 5 = .ok (.astore 6, 2) := by decide +kernel
theorem dX7_copy_7 : decode cX7_copy 7 = .ok (.aload_n 0, 1) := by decide +kernel
theorem dX7_copy_8 : decode cX7_copy 8 = .ok (.iload_n 3, 1) := by decide +kernel
theorem dX7_copy_9 : decode cX7_copy 9 = .ok (.invokevirtual 172, 3) := by decide +kernel
theorem dX7_copy_12 : decode cX7_copy 12 = .ok (.astore 7, 2) := by decide +kernel
theorem dX7_copy_14 : decode cX7_copy 14 = .ok (.aload 6, 2) := by decide +kernel
theorem dX7_copy_16 : decode cX7_copy 16 = .ok (.ifnull 8, 3) := by decide +kernel
theorem dX7_copy_19 : decode cX7_copy 19 = .ok (.aload 7, 2) := by decide +kernel
theorem dX7_copy_21 : decode cX7_copy 21 = .ok (.ifnonnull 5, 3) := by decide +kernel
theorem dX7_copy_24 : decode cX7_copy 24 = .ok (.iconst (-1), 1) := by decide +kernel
theorem dX7_copy_25 : decode cX7_copy 25 = .ok (.ireturn, 1) := by decide +kernel
theorem dX7_copy_26 : decode cX7_copy 26 = .ok (.aload 6, 2) := by decide +kernel
theorem dX7_copy_28 : decode cX7_copy 28 = .ok (.invokevirtual 193, 3) := by decide +kernel
theorem dX7_copy_31 : decode cX7_copy 31 = .ok (.ifCond .ne 11, 3) := by decide +kernel
theorem dX7_copy_34 : decode cX7_copy 34 = .ok (.aload 7, 2) := by decide +kernel
theorem dX7_copy_36 : decode cX7_copy 36 = .ok (.invokevirtual 193, 3) := by decide +kernel
theorem dX7_copy_39 : decode cX7_copy 39 = .ok (.ifCond .eq 6, 3) := by decide +kernel
theorem dX7_copy_42 : decode cX7_copy 42 = .ok (.bipush (-11), 2) := by decide +kernel
theorem dX7_copy_44 : decode cX7_copy 44 = .ok (.ireturn, 1) := by decide +kernel
theorem dX7_copy_45 : decode cX7_copy 45 = .ok (.aload 6, 2) := by decide +kernel
theorem dX7_copy_47 : decode cX7_copy 47 = .ok (.getfield 200, 3) := by decide +kernel
theorem dX7_copy_50 : decode cX7_copy 50 = .ok (.aload 7, 2) := by decide +kernel
theorem dX7_copy_52 : decode cX7_copy 52 = .ok (.getfield 200, 3) := by decide +kernel
theorem dX7_copy_55 : decode cX7_copy 55 = .ok (.if_icmp .eq 6, 3) := by decide +kernel
theorem dX7_copy_58 : decode cX7_copy 58 = .ok (.bipush (-12), 2) := by decide +kernel
theorem dX7_copy_60 : decode cX7_copy 60 = .ok (.ireturn, 1) := by decide +kernel
theorem dX7_copy_61 : decode cX7_copy 61 = .ok (.aload 6, 2) := by decide +kernel
theorem dX7_copy_63 : decode cX7_copy 63 = .ok (.iload_n 2, 1) := by decide +kernel
theorem dX7_copy_64 : decode cX7_copy 64 = .ok (.iload 5, 2) := by decide +kernel
theorem dX7_copy_66 : decode cX7_copy 66 = .ok (.invokevirtual 203, 3) := by decide +kernel
theorem dX7_copy_69 : decode cX7_copy 69 = .ok (.ifCond .eq 15, 3) := by decide +kernel
theorem dX7_copy_72 : decode cX7_copy 72 = .ok (.aload 7, 2) := by decide +kernel
theorem dX7_copy_74 : decode cX7_copy 74 = .ok (.iload 4, 2) := by decide +kernel
theorem dX7_copy_76 : decode cX7_copy 76 = .ok (.iload 5, 2) := by decide +kernel
theorem dX7_copy_78 : decode cX7_copy 78 = .ok (.invokevirtual 203, 3) := by decide +kernel
theorem dX7_copy_81 : decode cX7_copy 81 = .ok (.ifCond .ne 6, 3) := by decide +kernel
theorem dX7_copy_84 : decode cX7_copy 84 = .ok (.bipush (-13), 2) := by decide +kernel
theorem dX7_copy_86 : decode cX7_copy 86 = .ok (.ireturn, 1) := by decide +kernel
theorem dX7_copy_87 : decode cX7_copy 87 = .ok (.aload 6, 2) := by decide +kernel
theorem dX7_copy_89 : decode cX7_copy 89 = .ok (.getfield 206, 3) := by decide +kernel
theorem dX7_copy_92 : decode cX7_copy 92 = .ok (.iload_n 2, 1) := by decide +kernel
theorem dX7_copy_93 : decode cX7_copy 93 = .ok (.aload 7, 2) := by decide +kernel
theorem dX7_copy_95 : decode cX7_copy 95 = .ok (.getfield 206, 3) := by decide +kernel
theorem dX7_copy_98 : decode cX7_copy 98 = .ok (.iload 4, 2) := by decide +kernel
theorem dX7_copy_100 : decode cX7_copy 100 = .ok (.iload 5, 2) := by decide +kernel
theorem dX7_copy_102 : decode cX7_copy 102 = .ok (.invokestatic 210, 3) := by decide +kernel
theorem dX7_copy_105 : decode cX7_copy 105 = .ok (.iload 5, 2) := by decide +kernel
theorem dX7_copy_107 : decode cX7_copy 107 = .ok (.ireturn, 1) := by decide +kernel
theorem dX7_findSheet_0 : decode cX7_findSheet 0 = .ok (.iload_n 1, 1) := by decide +kernel
theorem dX7_findSheet_1 : decode cX7_findSheet 1 = .ok (.ifCond .lt 21, 3) := by decide +kernel
theorem dX7_findSheet_4 : decode cX7_findSheet 4 = .ok (.iload_n 1, 1) := by decide +kernel
theorem dX7_findSheet_5 : decode cX7_findSheet 5 = .ok (.aload_n 0, 1) := by decide +kernel
theorem dX7_findSheet_6 : decode cX7_findSheet 6 = .ok (.getfield 53, 3) := by decide +kernel
theorem dX7_findSheet_9 : decode cX7_findSheet 9 = .ok (.arraylength, 1) := by decide +kernel
theorem dX7_findSheet_10 : decode cX7_findSheet 10 = .ok (.if_icmp .ge 12, 3) := by decide +kernel
theorem dX7_findSheet_13 : decode cX7_findSheet 13 = .ok (.aload_n 0, 1) := by decide +kernel
theorem dX7_findSheet_14 : decode cX7_findSheet 14 = .ok (.getfield 53, 3) := by decide +kernel
theorem dX7_findSheet_17 : decode cX7_findSheet 17 = .ok (.iload_n 1, 1) := by decide +kernel
theorem dX7_findSheet_18 : decode cX7_findSheet 18 = .ok (.aaload, 1) := by decide +kernel
theorem dX7_findSheet_19 : decode cX7_findSheet 19 = .ok (.goto 4, 3) := by decide +kernel
theorem dX7_findSheet_22 : decode cX7_findSheet 22 = .ok (.aconst_null, 1) := by decide +kernel
theorem dX7_findSheet_23 : decode cX7_findSheet 23 = .ok (.areturn, 1) := by decide +kernel
theorem dX7_refusalOf_0 : decode cX7_refusalOf 0 = .ok (.aload_n 0, 1) := by decide +kernel
theorem dX7_refusalOf_1 : decode cX7_refusalOf 1 = .ok (.getfield 10, 3) := by decide +kernel
theorem dX7_refusalOf_4 : decode cX7_refusalOf 4 = .ok (.getfield 62, 3) := by decide +kernel
theorem dX7_refusalOf_7 : decode cX7_refusalOf 7 = .ok (.iload_n 1, 1) := by decide +kernel
theorem dX7_refusalOf_8 : decode cX7_refusalOf 8 = .ok (.invokevirtual 125, 3) := by decide +kernel
theorem dX7_refusalOf_11 : decode cX7_refusalOf 11 = .ok (.ifCond .ne 5, 3) := by decide +kernel
theorem dX7_refusalOf_14 : decode cX7_refusalOf 14 = .ok (.iconst (-1), 1) := by decide +kernel
theorem dX7_refusalOf_15 : decode cX7_refusalOf 15 = .ok (.ireturn, 1) := by decide +kernel
theorem dX7_refusalOf_16 : decode cX7_refusalOf 16 = .ok (.aload_n 0, 1) := by decide +kernel
theorem dX7_refusalOf_17 : decode cX7_refusalOf 17 = .ok (.getfield 10, 3) := by decide +kernel
theorem dX7_refusalOf_20 : decode cX7_refusalOf 20 = .ok (.iload_n 1, 1) := by decide +kernel
theorem dX7_refusalOf_21 : decode cX7_refusalOf 21 = .ok (.invokevirtual 134, 3) := by decide +kernel
theorem dX7_refusalOf_24 : decode cX7_refusalOf 24 = .ok (.bipush (-4), 2) := by decide +kernel
theorem dX7_refusalOf_26 : decode cX7_refusalOf 26 = .ok (.if_icmp .ne 7, 3) := by decide +kernel
theorem dX7_refusalOf_29 : decode cX7_refusalOf 29 = .ok (.iconst 0, 1) := by decide +kernel
theorem dX7_refusalOf_30 : decode cX7_refusalOf 30 = .ok (.goto 5, 3) := by decide +kernel
theorem dX7_refusalOf_33 : decode cX7_refusalOf 33 = .ok (.bipush (-2), 2) := by decide +kernel
theorem dX7_refusalOf_35 : decode cX7_refusalOf 35 = .ok (.ireturn, 1) := by decide +kernel
theorem dX7_harmBy_0 : decode cX7_harmBy 0 = .ok (.aload_n 0, 1) := by decide +kernel
theorem dX7_harmBy_1 : decode cX7_harmBy 1 = .ok (.getfield 40, 3) := by decide +kernel
theorem dX7_harmBy_4 : decode cX7_harmBy 4 = .ok (.aload_n 0, 1) := by decide +kernel
theorem dX7_harmBy_5 : decode cX7_harmBy 5 = .ok (.getfield 10, 3) := by decide +kernel
theorem dX7_harmBy_8 : decode cX7_harmBy 8 = .ok (.getfield 62, 3) := by decide +kernel
theorem dX7_harmBy_11 : decode cX7_harmBy 11 = .ok (.iload_n 1, 1) := by decide +kernel
theorem dX7_harmBy_12 : decode cX7_harmBy 12 = .ok (.iload_n 2, 1) := by decide +kernel
theorem dX7_harmBy_13 : decode cX7_harmBy 13 = .ok (.iload_n 3, 1) := by decide +kernel
theorem dX7_harmBy_14 : decode cX7_harmBy 14 = .ok (.invokevirtual 216, 3) := by decide +kernel
theorem dX7_harmBy_17 : decode cX7_harmBy 17 = .ok (.ireturn, 1) := by decide +kernel
theorem dX7_isWithin_0 : decode cX7_isWithin 0 = .ok (.iload_n 0, 1) := by decide +kernel
theorem dX7_isWithin_1 : decode cX7_isWithin 1 = .ok (.iload_n 1, 1) := by decide +kernel
theorem dX7_isWithin_2 : decode cX7_isWithin 2 = .ok (.if_icmp .lt 12, 3) := by decide +kernel
theorem dX7_isWithin_5 : decode cX7_isWithin 5 = .ok (.iload_n 0, 1) := by decide +kernel
theorem dX7_isWithin_6 : decode cX7_isWithin 6 = .ok (.iload_n 2, 1) := by decide +kernel
theorem dX7_isWithin_7 : decode cX7_isWithin 7 = .ok (.if_icmp .gt 7, 3) := by decide +kernel
theorem dX7_isWithin_10 : decode cX7_isWithin 10 = .ok (.iconst 1, 1) := by decide +kernel
theorem dX7_isWithin_11 : decode cX7_isWithin 11 = .ok (.goto 4, 3) := by decide +kernel
theorem dX7_isWithin_14 : decode cX7_isWithin 14 = .ok (.iconst 0, 1) := by decide +kernel
theorem dX7_isWithin_15 : decode cX7_isWithin 15 = .ok (.ireturn, 1) := by decide +kernel
theorem dX7_isLane_0 : decode cX7_isLane 0 = .ok (.iload_n 0, 1) := by decide +kernel
theorem dX7_isLane_1 : decode cX7_isLane 1 = .ok (.iconst 0, 1) := by decide +kernel
theorem dX7_isLane_2 : decode cX7_isLane 2 = .ok (.iconst 2, 1) := by decide +kernel
theorem dX7_isLane_3 : decode cX7_isLane 3 = .ok (.invokestatic 76, 3) := by decide +kernel
theorem dX7_isLane_6 : decode cX7_isLane 6 = .ok (.ireturn, 1) := by decide +kernel
theorem dX7_isThing_0 : decode cX7_isThing 0 = .ok (.iload_n 0, 1) := by decide +kernel
theorem dX7_isThing_1 : decode cX7_isThing 1 = .ok (.iconst 0, 1) := by decide +kernel
theorem dX7_isThing_2 : decode cX7_isThing 2 = .ok (.iconst 2, 1) := by decide +kernel
theorem dX7_isThing_3 : decode cX7_isThing 3 = .ok (.invokestatic 76, 3) := by decide +kernel
theorem dX7_isThing_6 : decode cX7_isThing 6 = .ok (.ifCond .eq 25, 3) := by decide +kernel
theorem dX7_isThing_9 : decode cX7_isThing 9 = .ok (.iload_n 1, 1) := by decide +kernel
theorem dX7_isThing_10 : decode cX7_isThing 10 = .ok (.iconst 0, 1) := by decide +kernel
theorem dX7_isThing_11 : decode cX7_isThing 11 = .ok (.iload_n 0, 1) := by decide +kernel
theorem dX7_isThing_12 : decode cX7_isThing 12 = .ok (.ifCond .ne 7, 3) := by decide +kernel
theorem dX7_isThing_15 : decode cX7_isThing 15 = .ok (.iconst 1, 1) := by decide +kernel
theorem dX7_isThing_16 : decode cX7_isThing 16 = .ok (.goto 5, 3) := by decide +kernel
theorem dX7_isThing_19 : decode cX7_isThing 19 = .ok (.bipush 99, 2) := by decide +kernel
theorem dX7_isThing_21 : decode cX7_isThing 21 = .ok (.invokestatic 76, 3) := by decide +kernel
theorem dX7_isThing_24 : decode cX7_isThing 24 = .ok (.ifCond .eq 7, 3) := by decide +kernel
theorem dX7_isThing_27 : decode cX7_isThing 27 = .ok (.iconst 1, 1) := by decide +kernel
theorem dX7_isThing_28 : decode cX7_isThing 28 = .ok (.goto 4, 3) := by decide +kernel
theorem dX7_isThing_31 : decode cX7_isThing 31 = .ok (.iconst 0, 1) := by decide +kernel
theorem dX7_isThing_32 : decode cX7_isThing 32 = .ok (.ireturn, 1) := by decide +kernel
theorem dX7_isSetting_0 : decode cX7_isSetting 0 = .ok (.iload_n 0, 1) := by decide +kernel
theorem dX7_isSetting_1 : decode cX7_isSetting 1 = .ok (.tableswitch 62 0 3 #[31, 39, 46, 54], 31) := by decide +kernel
theorem dX7_isSetting_32 : decode cX7_isSetting 32 = .ok (.iload_n 1, 1) := by decide +kernel
theorem dX7_isSetting_33 : decode cX7_isSetting 33 = .ok (.iconst 0, 1) := by decide +kernel
theorem dX7_isSetting_34 : decode cX7_isSetting 34 = .ok (.bipush 9, 2) := by decide +kernel
theorem dX7_isSetting_36 : decode cX7_isSetting 36 = .ok (.invokestatic 76, 3) := by decide +kernel
theorem dX7_isSetting_39 : decode cX7_isSetting 39 = .ok (.ireturn, 1) := by decide +kernel
theorem dX7_isSetting_40 : decode cX7_isSetting 40 = .ok (.iload_n 1, 1) := by decide +kernel
theorem dX7_isSetting_41 : decode cX7_isSetting 41 = .ok (.iconst 0, 1) := by decide +kernel
theorem dX7_isSetting_42 : decode cX7_isSetting 42 = .ok (.iconst 3, 1) := by decide +kernel
theorem dX7_isSetting_43 : decode cX7_isSetting 43 = .ok (.invokestatic 76, 3) := by decide +kernel
theorem dX7_isSetting_46 : decode cX7_isSetting 46 = .ok (.ireturn, 1) := by decide +kernel
theorem dX7_isSetting_47 : decode cX7_isSetting 47 = .ok (.iload_n 1, 1) := by decide +kernel
theorem dX7_isSetting_48 : decode cX7_isSetting 48 = .ok (.iconst 0, 1) := by decide +kernel
theorem dX7_isSetting_49 : decode cX7_isSetting 49 = .ok (.bipush 8, 2) := by decide +kernel
theorem dX7_isSetting_51 : decode cX7_isSetting 51 = .ok (.invokestatic 76, 3) := by decide +kernel
theorem dX7_isSetting_54 : decode cX7_isSetting 54 = .ok (.ireturn, 1) := by decide +kernel
theorem dX7_isSetting_55 : decode cX7_isSetting 55 = .ok (.iload_n 1, 1) := by decide +kernel
theorem dX7_isSetting_56 : decode cX7_isSetting 56 = .ok (.iconst 0, 1) := by decide +kernel
theorem dX7_isSetting_57 : decode cX7_isSetting 57 = .ok (.ldc 219, 2) := by decide +kernel
theorem dX7_isSetting_59 : decode cX7_isSetting 59 = .ok (.invokestatic 76, 3) := by decide +kernel
theorem dX7_isSetting_62 : decode cX7_isSetting 62 = .ok (.ireturn, 1) := by decide +kernel
theorem dX7_isSetting_63 : decode cX7_isSetting 63 = .ok (.iconst 0, 1) := by decide +kernel
theorem dX7_isSetting_64 : decode cX7_isSetting 64 = .ok (.ireturn, 1) := by decide +kernel
theorem dX7_areWords_0 : decode cX7_areWords 0 = .ok (.iload_n 0, 1) := by decide +kernel
theorem dX7_areWords_1 : decode cX7_areWords 1 = .ok (.bipush 28, 2) := by decide +kernel
theorem dX7_areWords_3 : decode cX7_areWords 3 = .ok (.ishr, 1) := by decide +kernel
theorem dX7_areWords_4 : decode cX7_areWords 4 = .ok (.ifCond .ne 29, 3) := by decide +kernel
theorem dX7_areWords_7 : decode cX7_areWords 7 = .ok (.iload_n 1, 1) := by decide +kernel
theorem dX7_areWords_8 : decode cX7_areWords 8 = .ok (.iload_n 0, 1) := by decide +kernel
theorem dX7_areWords_9 : decode cX7_areWords 9 = .ok (.iconst (-1), 1) := by decide +kernel
theorem dX7_areWords_10 : decode cX7_areWords 10 = .ok (.ixor, 1) := by decide +kernel
theorem dX7_areWords_11 : decode cX7_areWords 11 = .ok (.iand, 1) := by decide +kernel
theorem dX7_areWords_12 : decode cX7_areWords 12 = .ok (.ifCond .ne 21, 3) := by decide +kernel
theorem dX7_areWords_15 : decode cX7_areWords 15 = .ok (.iload_n 2, 1) := by decide +kernel
theorem dX7_areWords_16 : decode cX7_areWords 16 = .ok (.iload_n 0, 1) := by decide +kernel
theorem dX7_areWords_17 : decode cX7_areWords 17 = .ok (.iconst (-1), 1) := by decide +kernel
theorem dX7_areWords_18 : decode cX7_areWords 18 = .ok (.ixor, 1) := by decide +kernel
theorem dX7_areWords_19 : decode cX7_areWords 19 = .ok (.iand, 1) := by decide +kernel
theorem dX7_areWords_20 : decode cX7_areWords 20 = .ok (.ifCond .ne 13, 3) := by decide +kernel
theorem dX7_areWords_23 : decode cX7_areWords 23 = .ok (.iload_n 1, 1) := by decide +kernel
theorem dX7_areWords_24 : decode cX7_areWords 24 = .ok (.iload_n 2, 1) := by decide +kernel
theorem dX7_areWords_25 : decode cX7_areWords 25 = .ok (.iand, 1) := by decide +kernel
theorem dX7_areWords_26 : decode cX7_areWords 26 = .ok (.ifCond .ne 7, 3) := by decide +kernel
theorem dX7_areWords_29 : decode cX7_areWords 29 = .ok (.iconst 1, 1) := by decide +kernel
theorem dX7_areWords_30 : decode cX7_areWords 30 = .ok (.goto 4, 3) := by decide +kernel
theorem dX7_areWords_33 : decode cX7_areWords 33 = .ok (.iconst 0, 1) := by decide +kernel
theorem dX7_areWords_34 : decode cX7_areWords 34 = .ok (.ireturn, 1) := by decide +kernel
theorem dX7_areTextBytes_0 : decode cX7_areTextBytes 0 = .ok (.iconst 0, 1) := by decide +kernel
theorem dX7_areTextBytes_1 : decode cX7_areTextBytes 1 = .ok (.istore_n 3, 1) := by decide +kernel
theorem dX7_areTextBytes_2 : decode cX7_areTextBytes 2 = .ok (.iload_n 3, 1) := by decide +kernel
theorem dX7_areTextBytes_3 : decode cX7_areTextBytes 3 = .ok (.iload_n 2, 1) := by decide +kernel
theorem dX7_areTextBytes_4 : decode cX7_areTextBytes 4 = .ok (.if_icmp .ge 26, 3) := by decide +kernel
theorem dX7_areTextBytes_7 : decode cX7_areTextBytes 7 = .ok (.lload_n 0, 1) := by decide +kernel
theorem dX7_areTextBytes_8 : decode cX7_areTextBytes 8 = .ok (.iload_n 3, 1) := by decide +kernel
theorem dX7_areTextBytes_9 : decode cX7_areTextBytes 9 = .ok (.invokestatic 220, 3) := by decide +kernel
theorem dX7_areTextBytes_12 : decode cX7_areTextBytes 12 = .ok (.bipush 32, 2) := by decide +kernel
theorem dX7_areTextBytes_14 : decode cX7_areTextBytes 14 = .ok (.bipush 126, 2) := by decide +kernel
theorem dX7_areTextBytes_16 : decode cX7_areTextBytes 16 = .ok (.invokestatic 76, 3) := by decide +kernel
theorem dX7_areTextBytes_19 : decode cX7_areTextBytes 19 = .ok (.ifCond .ne 5, 3) := by decide +kernel
theorem dX7_areTextBytes_22 : decode cX7_areTextBytes 22 = .ok (.iconst 0, 1) := by decide +kernel
theorem dX7_areTextBytes_23 : decode cX7_areTextBytes 23 = .ok (.ireturn, 1) := by decide +kernel
theorem dX7_areTextBytes_24 : decode cX7_areTextBytes 24 = .ok (.iinc 3 1, 3) := by decide +kernel
theorem dX7_areTextBytes_27 : decode cX7_areTextBytes 27 = .ok (.goto (-25), 3) := by decide +kernel
theorem dX7_areTextBytes_30 : decode cX7_areTextBytes 30 = .ok (.iconst 1, 1) := by decide +kernel
theorem dX7_areTextBytes_31 : decode cX7_areTextBytes 31 = .ok (.ireturn, 1) := by decide +kernel
theorem dX7_byteFromLowest_0 : decode cX7_byteFromLowest 0 = .ok (.lload_n 0, 1) := by decide +kernel
theorem dX7_byteFromLowest_1 : decode cX7_byteFromLowest 1 = .ok (.bipush 8, 2) := by decide +kernel
theorem dX7_byteFromLowest_3 : decode cX7_byteFromLowest 3 = .ok (.iload_n 2, 1) := by decide +kernel
theorem dX7_byteFromLowest_4 : decode cX7_byteFromLowest 4 = .ok (.imul, 1) := by decide +kernel
theorem dX7_byteFromLowest_5 : decode cX7_byteFromLowest 5 = .ok (.lushr, 1) := by decide +kernel
theorem dX7_byteFromLowest_6 : decode cX7_byteFromLowest 6 = .ok (.l2i, 1) := by decide +kernel
theorem dX7_byteFromLowest_7 : decode cX7_byteFromLowest 7 = .ok (.sipush 255, 3) := by decide +kernel
theorem dX7_byteFromLowest_10 : decode cX7_byteFromLowest 10 = .ok (.iand, 1) := by decide +kernel
theorem dX7_byteFromLowest_11 : decode cX7_byteFromLowest 11 = .ok (.ireturn, 1) := by decide +kernel
theorem dX7_holds_0 : decode cX7_holds 0 = .ok (.iload_n 0, 1) := by decide +kernel
theorem dX7_holds_1 : decode cX7_holds 1 = .ok (.iload_n 1, 1) := by decide +kernel
theorem dX7_holds_2 : decode cX7_holds 2 = .ok (.ishr, 1) := by decide +kernel
theorem dX7_holds_3 : decode cX7_holds 3 = .ok (.iconst 1, 1) := by decide +kernel
theorem dX7_holds_4 : decode cX7_holds 4 = .ok (.iand, 1) := by decide +kernel
theorem dX7_holds_5 : decode cX7_holds 5 = .ok (.ifCond .eq 7, 3) := by decide +kernel
theorem dX7_holds_8 : decode cX7_holds 8 = .ok (.iconst 1, 1) := by decide +kernel
theorem dX7_holds_9 : decode cX7_holds 9 = .ok (.goto 4, 3) := by decide +kernel
theorem dX7_holds_12 : decode cX7_holds 12 = .ok (.iconst 0, 1) := by decide +kernel
theorem dX7_holds_13 : decode cX7_holds 13 = .ok (.ireturn, 1) := by decide +kernel
theorem dX7_at_0 : decode cX7_at 0 = .ok (.iload_n 1, 1) := by decide +kernel
theorem dX7_at_1 : decode cX7_at 1 = .ok (.ifCond .lt 15, 3) := by decide +kernel
theorem dX7_at_4 : decode cX7_at 4 = .ok (.iload_n 1, 1) := by decide +kernel
theorem dX7_at_5 : decode cX7_at 5 = .ok (.aload_n 0, 1) := by decide +kernel
theorem dX7_at_6 : decode cX7_at 6 = .ok (.arraylength, 1) := by decide +kernel
theorem dX7_at_7 : decode cX7_at 7 = .ok (.if_icmp .ge 9, 3) := by decide +kernel
theorem dX7_at_10 : decode cX7_at 10 = .ok (.aload_n 0, 1) := by decide +kernel
theorem dX7_at_11 : decode cX7_at 11 = .ok (.iload_n 1, 1) := by decide +kernel
theorem dX7_at_12 : decode cX7_at 12 = .ok (.iaload, 1) := by decide +kernel
theorem dX7_at_13 : decode cX7_at 13 = .ok (.goto 4, 3) := by decide +kernel
theorem dX7_at_16 : decode cX7_at 16 = .ok (.iconst 0, 1) := by decide +kernel
theorem dX7_at_17 : decode cX7_at 17 = .ok (.ireturn, 1) := by decide +kernel
theorem dX7_put_0 : decode cX7_put 0 = .ok (.aload_n 0, 1) := by decide +kernel
theorem dX7_put_1 : decode cX7_put 1 = .ok (.iload_n 1, 1) := by decide +kernel
theorem dX7_put_2 : decode cX7_put 2 = .ok (.invokestatic 223, 3) := by decide +kernel
theorem dX7_put_5 : decode cX7_put 5 = .ok (.istore_n 3, 1) := by decide +kernel
theorem dX7_put_6 : decode cX7_put 6 = .ok (.iload_n 1, 1) := by decide +kernel
theorem dX7_put_7 : decode cX7_put 7 = .ok (.ifCond .lt 13, 3) := by decide +kernel
theorem dX7_put_10 : decode cX7_put 10 = .ok (.iload_n 1, 1) := by decide +kernel
theorem dX7_put_11 : decode cX7_put 11 = .ok (.aload_n 0, 1) := by decide +kernel
theorem dX7_put_12 : decode cX7_put 12 = .ok (.arraylength, 1) := by decide +kernel
theorem dX7_put_13 : decode cX7_put 13 = .ok (.if_icmp .ge 7, 3) := by decide +kernel
theorem dX7_put_16 : decode cX7_put 16 = .ok (.aload_n 0, 1) := by decide +kernel
theorem dX7_put_17 : decode cX7_put 17 = .ok (.iload_n 1, 1) := by decide +kernel
theorem dX7_put_18 : decode cX7_put 18 = .ok (.iload_n 2, 1) := by decide +kernel
theorem dX7_put_19 : decode cX7_put 19 = .ok (.iastore, 1) := by decide +kernel
theorem dX7_put_20 : decode cX7_put 20 = .ok (.iload_n 3, 1) := by decide +kernel
theorem dX7_put_21 : decode cX7_put 21 = .ok (.ireturn, 1) := by decide +kernel
theorem dX7_greatestDivisor_0 : decode cX7_greatestDivisor 0 = .ok (.iload_n 1, 1) := by decide +kernel
theorem dX7_greatestDivisor_1 : decode cX7_greatestDivisor 1 = .ok (.istore_n 2, 1) := by decide +kernel
theorem dX7_greatestDivisor_2 : decode cX7_greatestDivisor 2 = .ok (.iload_n 0, 1) := by decide +kernel
theorem dX7_greatestDivisor_3 : decode cX7_greatestDivisor 3 = .ok (.istore_n 3, 1) := by decide +kernel
theorem dX7_greatestDivisor_4 : decode cX7_greatestDivisor 4 = .ok (.iconst 0, 1) := by decide +kernel
theorem dX7_greatestDivisor_5 : decode cX7_greatestDivisor 5 = .ok (.istore 4, 2) := by decide +kernel
theorem dX7_greatestDivisor_7 : decode cX7_greatestDivisor 7 = .ok (.iload 4, 2) := by decide +kernel
theorem dX7_greatestDivisor_9 : decode cX7_greatestDivisor 9 = .ok (.bipush 64, 2) := by decide +kernel
theorem dX7_greatestDivisor_11 : decode cX7_greatestDivisor 11 = .ok (.if_icmp .ge 23, 3) := by decide +kernel
theorem dX7_greatestDivisor_14 : decode cX7_greatestDivisor 14 = .ok (.iload_n 3, 1) := by decide +kernel
theorem dX7_greatestDivisor_15 : decode cX7_greatestDivisor 15 = .ok (.ifCond .le 19, 3) := by decide +kernel
theorem dX7_greatestDivisor_18 : decode cX7_greatestDivisor 18 = .ok (.iload_n 2, 1) := by decide +kernel
theorem dX7_greatestDivisor_19 : decode cX7_greatestDivisor 19 = .ok (.iload_n 3, 1) := by decide +kernel
theorem dX7_greatestDivisor_20 : decode cX7_greatestDivisor 20 = .ok (.irem, 1) := by decide +kernel
theorem dX7_greatestDivisor_21 : decode cX7_greatestDivisor 21 = .ok (.istore 5, 2) := by decide +kernel
theorem dX7_greatestDivisor_23 : decode cX7_greatestDivisor 23 = .ok (.iload_n 3, 1) := by decide +kernel
theorem dX7_greatestDivisor_24 : decode cX7_greatestDivisor 24 = .ok (.istore_n 2, 1) := by decide +kernel
theorem dX7_greatestDivisor_25 : decode cX7_greatestDivisor 25 = .ok (.iload 5, 2) := by decide +kernel
theorem dX7_greatestDivisor_27 : decode cX7_greatestDivisor 27 = .ok (.istore_n 3, 1) := by decide +kernel
theorem dX7_greatestDivisor_28 : decode cX7_greatestDivisor 28 = .ok (.iinc 4 1, 3) := by decide +kernel
theorem dX7_greatestDivisor_31 : decode cX7_greatestDivisor 31 = .ok (.goto (-24), 3) := by decide +kernel
theorem dX7_greatestDivisor_34 : decode cX7_greatestDivisor 34 = .ok (.iload_n 2, 1) := by decide +kernel
theorem dX7_greatestDivisor_35 : decode cX7_greatestDivisor 35 = .ok (.ireturn, 1) := by decide +kernel
theorem dX7_leastSureStake_0 : decode cX7_leastSureStake 0 = .ok (.iconst 1, 1) := by decide +kernel
theorem dX7_leastSureStake_1 : decode cX7_leastSureStake 1 = .ok (.iload_n 2, 1) := by decide +kernel
theorem dX7_leastSureStake_2 : decode cX7_leastSureStake 2 = .ok (.bipush 99, 2) := by decide +kernel
theorem dX7_leastSureStake_4 : decode cX7_leastSureStake 4 = .ok (.isub, 1) := by decide +kernel
theorem dX7_leastSureStake_5 : decode cX7_leastSureStake 5 = .ok (.invokestatic 227, 3) := by decide +kernel
theorem dX7_leastSureStake_8 : decode cX7_leastSureStake 8 = .ok (.istore_n 3, 1) := by decide +kernel
theorem dX7_leastSureStake_9 : decode cX7_leastSureStake 9 = .ok (.iload_n 3, 1) := by decide +kernel
theorem dX7_leastSureStake_10 : decode cX7_leastSureStake 10 = .ok (.bipush 99, 2) := by decide +kernel
theorem dX7_leastSureStake_12 : decode cX7_leastSureStake 12 = .ok (.iload_n 2, 1) := by decide +kernel
theorem dX7_leastSureStake_13 : decode cX7_leastSureStake 13 = .ok (.iconst 1, 1) := by decide +kernel
theorem dX7_leastSureStake_14 : decode cX7_leastSureStake 14 = .ok (.isub, 1) := by decide +kernel
theorem dX7_leastSureStake_15 : decode cX7_leastSureStake 15 = .ok (.invokestatic 232, 3) := by decide +kernel
theorem dX7_leastSureStake_18 : decode cX7_leastSureStake 18 = .ok (.if_icmp .gt 34, 3) := by decide +kernel
theorem dX7_leastSureStake_21 : decode cX7_leastSureStake 21 = .ok (.iload_n 2, 1) := by decide +kernel
theorem dX7_leastSureStake_22 : decode cX7_leastSureStake 22 = .ok (.iload_n 3, 1) := by decide +kernel
theorem dX7_leastSureStake_23 : decode cX7_leastSureStake 23 = .ok (.isub, 1) := by decide +kernel
theorem dX7_leastSureStake_24 : decode cX7_leastSureStake 24 = .ok (.istore 4, 2) := by decide +kernel
theorem dX7_leastSureStake_26 : decode cX7_leastSureStake 26 = .ok (.iload_n 0, 1) := by decide +kernel
theorem dX7_leastSureStake_27 : decode cX7_leastSureStake 27 = .ok (.iload_n 3, 1) := by decide +kernel
theorem dX7_leastSureStake_28 : decode cX7_leastSureStake 28 = .ok (.imul, 1) := by decide +kernel
theorem dX7_leastSureStake_29 : decode cX7_leastSureStake 29 = .ok (.iload 4, 2) := by decide +kernel
theorem dX7_leastSureStake_31 : decode cX7_leastSureStake 31 = .ok (.isub, 1) := by decide +kernel
theorem dX7_leastSureStake_32 : decode cX7_leastSureStake 32 = .ok (.ifCond .le 14, 3) := by decide +kernel
theorem dX7_leastSureStake_35 : decode cX7_leastSureStake 35 = .ok (.iload_n 1, 1) := by decide +kernel
theorem dX7_leastSureStake_36 : decode cX7_leastSureStake 36 = .ok (.iload 4, 2) := by decide +kernel
theorem dX7_leastSureStake_38 : decode cX7_leastSureStake 38 = .ok (.imul, 1) := by decide +kernel
theorem dX7_leastSureStake_39 : decode cX7_leastSureStake 39 = .ok (.iload_n 3, 1) := by decide +kernel
theorem dX7_leastSureStake_40 : decode cX7_leastSureStake 40 = .ok (.isub, 1) := by decide +kernel
theorem dX7_leastSureStake_41 : decode cX7_leastSureStake 41 = .ok (.ifCond .le 5, 3) := by decide +kernel
theorem dX7_leastSureStake_44 : decode cX7_leastSureStake 44 = .ok (.iload_n 3, 1) := by decide +kernel
theorem dX7_leastSureStake_45 : decode cX7_leastSureStake 45 = .ok (.ireturn, 1) := by decide +kernel
theorem dX7_leastSureStake_46 : decode cX7_leastSureStake 46 = .ok (.iinc 3 1, 3) := by decide +kernel
theorem dX7_leastSureStake_49 : decode cX7_leastSureStake 49 = .ok (.goto (-40), 3) := by decide +kernel
theorem dX7_leastSureStake_52 : decode cX7_leastSureStake 52 = .ok (.bipush (-4), 2) := by decide +kernel
theorem dX7_leastSureStake_54 : decode cX7_leastSureStake 54 = .ok (.ireturn, 1) := by decide +kernel
theorem dX7_isOpen_0 : decode cX7_isOpen 0 = .ok (.iload_n 0, 1) := by decide +kernel
theorem dX7_isOpen_1 : decode cX7_isOpen 1 = .ok (.iconst 1, 1) := by decide +kernel
theorem dX7_isOpen_2 : decode cX7_isOpen 2 = .ok (.if_icmp .ne 12, 3) := by decide +kernel
theorem dX7_isOpen_5 : decode cX7_isOpen 5 = .ok (.iload_n 1, 1) := by decide +kernel
theorem dX7_isOpen_6 : decode cX7_isOpen 6 = .ok (.bipush 7, 2) := by decide +kernel
theorem dX7_isOpen_8 : decode cX7_isOpen 8 = .ok (.irem, 1) := by decide +kernel
theorem dX7_isOpen_9 : decode cX7_isOpen 9 = .ok (.bipush 6, 2) := by decide +kernel
theorem dX7_isOpen_11 : decode cX7_isOpen 11 = .ok (.if_icmp .eq 7, 3) := by decide +kernel
theorem dX7_isOpen_14 : decode cX7_isOpen 14 = .ok (.iconst 1, 1) := by decide +kernel
theorem dX7_isOpen_15 : decode cX7_isOpen 15 = .ok (.goto 4, 3) := by decide +kernel
theorem dX7_isOpen_18 : decode cX7_isOpen 18 = .ok (.iconst 0, 1) := by decide +kernel
theorem dX7_isOpen_19 : decode cX7_isOpen 19 = .ok (.ireturn, 1) := by decide +kernel
theorem dX7_openAgain_0 : decode cX7_openAgain 0 = .ok (.iload_n 0, 1) := by decide +kernel
theorem dX7_openAgain_1 : decode cX7_openAgain 1 = .ok (.lookupswitch 47 #[(2, 27), (3, 31)], 27) := by decide +kernel
theorem dX7_openAgain_28 : decode cX7_openAgain 28 = .ok (.iload_n 1, 1) := by decide +kernel
theorem dX7_openAgain_29 : decode cX7_openAgain 29 = .ok (.iconst 2, 1) := by decide +kernel
theorem dX7_openAgain_30 : decode cX7_openAgain 30 = .ok (.iadd, 1) := by decide +kernel
theorem dX7_openAgain_31 : decode cX7_openAgain 31 = .ok (.ireturn, 1) := by decide +kernel
theorem dX7_openAgain_32 : decode cX7_openAgain 32 = .ok (.iload_n 1, 1) := by decide +kernel
theorem dX7_openAgain_33 : decode cX7_openAgain 33 = .ok (.iconst 2, 1) := by decide +kernel
theorem dX7_openAgain_34 : decode cX7_openAgain 34 = .ok (.iadd, 1) := by decide +kernel
theorem dX7_openAgain_35 : decode cX7_openAgain 35 = .ok (.iload_n 1, 1) := by decide +kernel
theorem dX7_openAgain_36 : decode cX7_openAgain 36 = .ok (.bipush 7, 2) := by decide +kernel
theorem dX7_openAgain_38 : decode cX7_openAgain 38 = .ok (.idiv, 1) := by decide +kernel
theorem dX7_openAgain_39 : decode cX7_openAgain 39 = .ok (.iconst 1, 1) := by decide +kernel
theorem dX7_openAgain_40 : decode cX7_openAgain 40 = .ok (.iadd, 1) := by decide +kernel
theorem dX7_openAgain_41 : decode cX7_openAgain 41 = .ok (.bipush 7, 2) := by decide +kernel
theorem dX7_openAgain_43 : decode cX7_openAgain 43 = .ok (.imul, 1) := by decide +kernel
theorem dX7_openAgain_44 : decode cX7_openAgain 44 = .ok (.invokestatic 227, 3) := by decide +kernel
theorem dX7_openAgain_47 : decode cX7_openAgain 47 = .ok (.ireturn, 1) := by decide +kernel
theorem dX7_openAgain_48 : decode cX7_openAgain 48 = .ok (.iload_n 1, 1) := by decide +kernel
theorem dX7_openAgain_49 : decode cX7_openAgain 49 = .ok (.iconst 1, 1) := by decide +kernel
theorem dX7_openAgain_50 : decode cX7_openAgain 50 = .ok (.iadd, 1) := by decide +kernel
theorem dX7_openAgain_51 : decode cX7_openAgain 51 = .ok (.ireturn, 1) := by decide +kernel
theorem dX8_in_0 : decode cX8_in 0 = .ok (.lload_n 0, 1) := by decide +kernel
theorem dX8_in_1 : decode cX8_in 1 = .ok (.lload_n 2, 1) := by decide +kernel
theorem dX8_in_2 : decode cX8_in 2 = .ok (.lcmp, 1) := by decide +kernel
theorem dX8_in_3 : decode cX8_in 3 = .ok (.ifCond .lt 14, 3) := by decide +kernel
theorem dX8_in_6 : decode cX8_in 6 = .ok (.lload_n 0, 1) := by decide +kernel
theorem dX8_in_7 : decode cX8_in 7 = .ok (.lload 4, 2) := by decide +kernel
theorem dX8_in_9 : decode cX8_in 9 = .ok (.lcmp, 1) := by decide +kernel
theorem dX8_in_10 : decode cX8_in 10 = .ok (.ifCond .gt 7, 3) := by decide +kernel
theorem dX8_in_13 : decode cX8_in 13 = .ok (.iconst 1, 1) := by decide +kernel
theorem dX8_in_14 : decode cX8_in 14 = .ok (.goto 4, 3) := by decide +kernel
theorem dX8_in_17 : decode cX8_in 17 = .ok (.iconst 0, 1) := by decide +kernel
theorem dX8_in_18 : decode cX8_in 18 = .ok (.ireturn, 1) := by decide +kernel
theorem dX8_has_0 : decode cX8_has 0 = .ok (.iload_n 0, 1) := by decide +kernel
theorem dX8_has_1 : decode cX8_has 1 = .ok (.iload_n 1, 1) := by decide +kernel
theorem dX8_has_2 : decode cX8_has 2 = .ok (.ishr, 1) := by decide +kernel
theorem dX8_has_3 : decode cX8_has 3 = .ok (.iconst 1, 1) := by decide +kernel
theorem dX8_has_4 : decode cX8_has 4 = .ok (.iand, 1) := by decide +kernel
theorem dX8_has_5 : decode cX8_has 5 = .ok (.iconst 1, 1) := by decide +kernel
theorem dX8_has_6 : decode cX8_has 6 = .ok (.if_icmp .ne 7, 3) := by decide +kernel
theorem dX8_has_9 : decode cX8_has 9 = .ok (.iconst 1, 1) := by decide +kernel
theorem dX8_has_10 : decode cX8_has 10 = .ok (.goto 4, 3) := by decide +kernel
theorem dX8_has_13 : decode cX8_has 13 = .ok (.iconst 0, 1) := by decide +kernel
theorem dX8_has_14 : decode cX8_has 14 = .ok (.ireturn, 1) := by decide +kernel
theorem dX8_changed_0 : decode cX8_changed 0 = .ok (.aload_n 0, 1) := by decide +kernel
theorem dX8_changed_1 : decode cX8_changed 1 = .ok (.getfield 7, 3) := by decide +kernel
theorem dX8_changed_4 : decode cX8_changed 4 = .ok (.iload_n 1, 1) := by decide +kernel
theorem dX8_changed_5 : decode cX8_changed 5 = .ok (.iaload, 1) := by decide +kernel
theorem dX8_changed_6 : decode cX8_changed 6 = .ok (.istore_n 3, 1) := by decide +kernel
theorem dX8_changed_7 : decode cX8_changed 7 = .ok (.aload_n 0, 1) := by decide +kernel
theorem dX8_changed_8 : decode cX8_changed 8 = .ok (.getfield 7, 3) := by decide +kernel
theorem dX8_changed_11 : decode cX8_changed 11 = .ok (.iload_n 1, 1) := by decide +kernel
theorem dX8_changed_12 : decode cX8_changed 12 = .ok (.iload_n 2, 1) := by decide +kernel
theorem dX8_changed_13 : decode cX8_changed 13 = .ok (.iastore, 1) := by decide +kernel
theorem dX8_changed_14 : decode cX8_changed 14 = .ok (.iload_n 3, 1) := by decide +kernel
theorem dX8_changed_15 : decode cX8_changed 15 = .ok (.ireturn, 1) := by decide +kernel
theorem dX8_isDay_0 : decode cX8_isDay 0 = .ok (.iload_n 1, 1) := by decide +kernel
theorem dX8_isDay_1 : decode cX8_isDay 1 = .ok (.i2l, 1) := by decide +kernel
theorem dX8_isDay_2 : decode cX8_isDay 2 = .ok (.lconst 0, 1) := by decide +kernel
theorem dX8_isDay_3 : decode cX8_isDay 3 = .ok (.aload_n 0, 1) := by decide +kernel
theorem dX8_isDay_4 : decode cX8_isDay 4 = .ok (.getfield 7, 3) := by decide +kernel
theorem dX8_isDay_7 : decode cX8_isDay 7 = .ok (.iconst 4, 1) := by decide +kernel
theorem dX8_isDay_8 : decode cX8_isDay 8 = .ok (.iaload, 1) := by decide +kernel
theorem dX8_isDay_9 : decode cX8_isDay 9 = .ok (.iconst 1, 1) := by decide +kernel
theorem dX8_isDay_10 : decode cX8_isDay 10 = .ok (.isub, 1) := by decide +kernel
theorem dX8_isDay_11 : decode cX8_isDay 11 = .ok (.i2l, 1) := by decide +kernel
theorem dX8_isDay_12 : decode cX8_isDay 12 = .ok (.invokestatic 40, 3) := by decide +kernel
theorem dX8_isDay_15 : decode cX8_isDay 15 = .ok (.ireturn, 1) := by decide +kernel
theorem dX8_isSet_0 : decode cX8_isSet 0 = .ok (.iload_n 1, 1) := by decide +kernel
theorem dX8_isSet_1 : decode cX8_isSet 1 = .ok (.i2l, 1) := by decide +kernel
theorem dX8_isSet_2 : decode cX8_isSet 2 = .ok (.lconst 0, 1) := by decide +kernel
theorem dX8_isSet_3 : decode cX8_isSet 3 = .ok (.iconst 1, 1) := by decide +kernel
theorem dX8_isSet_4 : decode cX8_isSet 4 = .ok (.aload_n 0, 1) := by decide +kernel
theorem dX8_isSet_5 : decode cX8_isSet 5 = .ok (.getfield 7, 3) := by decide +kernel
theorem dX8_isSet_8 : decode cX8_isSet 8 = .ok (.iconst 4, 1) := by decide +kernel
theorem dX8_isSet_9 : decode cX8_isSet 9 = .ok (.iaload, 1) := by decide +kernel
theorem dX8_isSet_10 : decode cX8_isSet 10 = .ok (.ishl, 1) := by decide +kernel
theorem dX8_isSet_11 : decode cX8_isSet 11 = .ok (.iconst 1, 1) := by decide +kernel
theorem dX8_isSet_12 : decode cX8_isSet 12 = .ok (.isub, 1) := by decide +kernel
theorem dX8_isSet_13 : decode cX8_isSet 13 = .ok (.i2l, 1) := by decide +kernel
theorem dX8_isSet_14 : decode cX8_isSet 14 = .ok (.invokestatic 40, 3) := by decide +kernel
theorem dX8_isSet_17 : decode cX8_isSet 17 = .ok (.ireturn, 1) := by decide +kernel
theorem dX8_day_0 : decode cX8_day 0 = .ok (.iload_n 1, 1) := by decide +kernel
theorem dX8_day_1 : decode cX8_day 1 = .ok (.i2l, 1) := by decide +kernel
theorem dX8_day_2 : decode cX8_day 2 = .ok (.lconst 0, 1) := by decide +kernel
theorem dX8_day_3 : decode cX8_day 3 = .ok (.lconst 1, 1) := by decide +kernel
theorem dX8_day_4 : decode cX8_day 4 = .ok (.invokestatic 40, 3) := by decide +kernel
theorem dX8_day_7 : decode cX8_day 7 = .ok (.ifCond .eq 27, 3) := by decide +kernel
theorem dX8_day_10 : decode cX8_day 10 = .ok (.iload_n 2, 1) := by decide +kernel
theorem dX8_day_11 : decode cX8_day 11 = .ok (.i2l, 1) := by decide +kernel
theorem dX8_day_12 : decode cX8_day 12 = .ok (.lconst 0, 1) := by decide +kernel
theorem dX8_day_13 : decode cX8_day 13 = .ok (.ldc2_w 44, 3) := by decide +kernel
theorem dX8_day_16 : decode cX8_day 16 = .ok (.invokestatic 40, 3) := by decide +kernel
theorem dX8_day_19 : decode cX8_day 19 = .ok (.ifCond .eq 15, 3) := by decide +kernel
theorem dX8_day_22 : decode cX8_day 22 = .ok (.iload_n 3, 1) := by decide +kernel
theorem dX8_day_23 : decode cX8_day 23 = .ok (.i2l, 1) := by decide +kernel
theorem dX8_day_24 : decode cX8_day 24 = .ok (.lconst 0, 1) := by decide +kernel
theorem dX8_day_25 : decode cX8_day 25 = .ok (.ldc2_w 44, 3) := by decide +kernel
theorem dX8_day_28 : decode cX8_day 28 = .ok (.invokestatic 40, 3) := by decide +kernel
theorem dX8_day_31 : decode cX8_day 31 = .ok (.ifCond .ne 5, 3) := by decide +kernel
theorem dX8_day_34 : decode cX8_day 34 = .ok (.iconst (-1), 1) := by decide +kernel
theorem dX8_day_35 : decode cX8_day 35 = .ok (.ireturn, 1) := by decide +kernel
theorem dX8_day_36 : decode cX8_day 36 = .ok (.aload_n 0, 1) := by decide +kernel
theorem dX8_day_37 : decode cX8_day 37 = .ok (.getfield 7, 3) := by decide +kernel
theorem dX8_day_40 : decode cX8_day 40 = .ok (.iconst 4, 1) := by decide +kernel
theorem dX8_day_41 : decode cX8_day 41 = .ok (.iaload, 1) := by decide +kernel
theorem dX8_day_42 : decode cX8_day 42 = .ok (.istore 4, 2) := by decide +kernel
theorem dX8_day_44 : decode cX8_day 44 = .ok (.iload 4, 2) := by decide +kernel
theorem dX8_day_46 : decode cX8_day 46 = .ok (.bipush 28, 2) := by decide +kernel
theorem dX8_day_48 : decode cX8_day 48 = .ok (.if_icmp .ne 6, 3) := by decide +kernel
theorem dX8_day_51 : decode cX8_day 51 = .ok (.bipush (-3), 2) := by decide +kernel
theorem dX8_day_53 : decode cX8_day 53 = .ok (.ireturn, 1) := by decide +kernel
theorem dX8_day_54 : decode cX8_day 54 = .ok (.aload_n 0, 1) := by decide +kernel
theorem dX8_day_55 : decode cX8_day 55 = .ok (.getfield 7, 3) := by decide +kernel
theorem dX8_day_58 : decode cX8_day 58 = .ok (.iconst 5, 1) := by decide +kernel
theorem dX8_day_59 : decode cX8_day 59 = .ok (.iload 4, 2) := by decide +kernel
theorem dX8_day_61 : decode cX8_day 61 = .ok (.iadd, 1) := by decide +kernel
theorem dX8_day_62 : decode cX8_day 62 = .ok (.iload_n 1, 1) := by decide +kernel
theorem dX8_day_63 : decode cX8_day 63 = .ok (.iastore, 1) := by decide +kernel
theorem dX8_day_64 : decode cX8_day 64 = .ok (.aload_n 0, 1) := by decide +kernel
theorem dX8_day_65 : decode cX8_day 65 = .ok (.getfield 7, 3) := by decide +kernel
theorem dX8_day_68 : decode cX8_day 68 = .ok (.bipush 33, 2) := by decide +kernel
theorem dX8_day_70 : decode cX8_day 70 = .ok (.iload 4, 2) := by decide +kernel
theorem dX8_day_72 : decode cX8_day 72 = .ok (.iadd, 1) := by decide +kernel
theorem dX8_day_73 : decode cX8_day 73 = .ok (.iload_n 2, 1) := by decide +kernel
theorem dX8_day_74 : decode cX8_day 74 = .ok (.iastore, 1) := by decide +kernel
theorem dX8_day_75 : decode cX8_day 75 = .ok (.aload_n 0, 1) := by decide +kernel
theorem dX8_day_76 : decode cX8_day 76 = .ok (.getfield 7, 3) := by decide +kernel
theorem dX8_day_79 : decode cX8_day 79 = .ok (.bipush 61, 2) := by decide +kernel
theorem dX8_day_81 : decode cX8_day 81 = .ok (.iload 4, 2) := by decide +kernel
theorem dX8_day_83 : decode cX8_day 83 = .ok (.iadd, 1) := by decide +kernel
theorem dX8_day_84 : decode cX8_day 84 = .ok (.iload_n 3, 1) := by decide +kernel
theorem dX8_day_85 : decode cX8_day 85 = .ok (.iastore, 1) := by decide +kernel
theorem dX8_day_86 : decode cX8_day 86 = .ok (.aload_n 0, 1) := by decide +kernel
theorem dX8_day_87 : decode cX8_day 87 = .ok (.getfield 7, 3) := by decide +kernel
theorem dX8_day_90 : decode cX8_day 90 = .ok (.iconst 4, 1) := by decide +kernel
theorem dX8_day_91 : decode cX8_day 91 = .ok (.iload 4, 2) := by decide +kernel
theorem dX8_day_93 : decode cX8_day 93 = .ok (.iconst 1, 1) := by decide +kernel
theorem dX8_day_94 : decode cX8_day 94 = .ok (.iadd, 1) := by decide +kernel
theorem dX8_day_95 : decode cX8_day 95 = .ok (.iastore, 1) := by decide +kernel
theorem dX8_day_96 : decode cX8_day 96 = .ok (.iload 4, 2) := by decide +kernel
theorem dX8_day_98 : decode cX8_day 98 = .ok (.ireturn, 1) := by decide +kernel
theorem dX8_isOf_0 : decode cX8_isOf 0 = .ok (.iload_n 0, 1) := by decide +kernel
theorem dX8_isOf_1 : decode cX8_isOf 1 = .ok (.ifCond .ne 13, 3) := by decide +kernel
theorem dX8_isOf_4 : decode cX8_isOf 4 = .ok (.iload_n 1, 1) := by decide +kernel
theorem dX8_isOf_5 : decode cX8_isOf 5 = .ok (.i2l, 1) := by decide +kernel
theorem dX8_isOf_6 : decode cX8_isOf 6 = .ok (.lconst 0, 1) := by decide +kernel
theorem dX8_isOf_7 : decode cX8_isOf 7 = .ok (.lconst 1, 1) := by decide +kernel
theorem dX8_isOf_8 : decode cX8_isOf 8 = .ok (.invokestatic 40, 3) := by decide +kernel
theorem dX8_isOf_11 : decode cX8_isOf 11 = .ok (.goto 32, 3) := by decide +kernel
theorem dX8_isOf_14 : decode cX8_isOf 14 = .ok (.iload_n 0, 1) := by decide +kernel
theorem dX8_isOf_15 : decode cX8_isOf 15 = .ok (.i2l, 1) := by decide +kernel
theorem dX8_isOf_16 : decode cX8_isOf 16 = .ok (.lconst 1, 1) := by decide +kernel
theorem dX8_isOf_17 : decode cX8_isOf 17 = .ok (.ldc2_w 46, 3) := by decide +kernel
theorem dX8_isOf_20 : decode cX8_isOf 20 = .ok (.invokestatic 40, 3) := by decide +kernel
theorem dX8_isOf_23 : decode cX8_isOf 23 = .ok (.ifCond .eq 19, 3) := by decide +kernel
theorem dX8_isOf_26 : decode cX8_isOf 26 = .ok (.iload_n 1, 1) := by decide +kernel
theorem dX8_isOf_27 : decode cX8_isOf 27 = .ok (.i2l, 1) := by decide +kernel
theorem dX8_isOf_28 : decode cX8_isOf 28 = .ok (.lconst 0, 1) := by decide +kernel
theorem dX8_isOf_29 : decode cX8_isOf 29 = .ok (.ldc2_w 44, 3) := by decide +kernel
theorem dX8_isOf_32 : decode cX8_isOf 32 = .ok (.invokestatic 40, 3) := by decide +kernel
theorem dX8_isOf_35 : decode cX8_isOf 35 = .ok (.ifCond .eq 7, 3) := by decide +kernel
theorem dX8_isOf_38 : decode cX8_isOf 38 = .ok (.iconst 1, 1) := by decide +kernel
theorem dX8_isOf_39 : decode cX8_isOf 39 = .ok (.goto 4, 3) := by decide +kernel
theorem dX8_isOf_42 : decode cX8_isOf 42 = .ok (.iconst 0, 1) := by decide +kernel
theorem dX8_isOf_43 : decode cX8_isOf 43 = .ok (.ireturn, 1) := by decide +kernel
theorem dX8_alter_0 : decode cX8_alter 0 = .ok (.aload_n 0, 1) := by decide +kernel
theorem dX8_alter_1 : decode cX8_alter 1 = .ok (.iload_n 1, 1) := by decide +kernel
theorem dX8_alter_2 : decode cX8_alter 2 = .ok (.invokevirtual 48, 3) := by decide +kernel
theorem dX8_alter_5 : decode cX8_alter 5 = .ok (.ifCond .eq 27, 3) := by decide +kernel
theorem dX8_alter_8 : decode cX8_alter 8 = .ok (.iload_n 2, 1) := by decide +kernel
theorem dX8_alter_9 : decode cX8_alter 9 = .ok (.iload_n 3, 1) := by decide +kernel
theorem dX8_alter_10 : decode cX8_alter 10 = .ok (.invokestatic 52, 3) := by decide +kernel
theorem dX8_alter_13 : decode cX8_alter 13 = .ok (.ifCond .eq 19, 3) := by decide +kernel
theorem dX8_alter_16 : decode cX8_alter 16 = .ok (.aload_n 0, 1) := by decide +kernel
theorem dX8_alter_17 : decode cX8_alter 17 = .ok (.iconst 5, 1) := by decide +kernel
theorem dX8_alter_18 : decode cX8_alter 18 = .ok (.bipush 28, 2) := by decide +kernel
theorem dX8_alter_20 : decode cX8_alter 20 = .ok (.iload_n 2, 1) := by decide +kernel
theorem dX8_alter_21 : decode cX8_alter 21 = .ok (.imul, 1) := by decide +kernel
theorem dX8_alter_22 : decode cX8_alter 22 = .ok (.iadd, 1) := by decide +kernel
theorem dX8_alter_23 : decode cX8_alter 23 = .ok (.iload_n 1, 1) := by decide +kernel
theorem dX8_alter_24 : decode cX8_alter 24 = .ok (.iadd, 1) := by decide +kernel
theorem dX8_alter_25 : decode cX8_alter 25 = .ok (.iload_n 3, 1) := by decide +kernel
theorem dX8_alter_26 : decode cX8_alter 26 = .ok (.invokevirtual 56, 3) := by decide +kernel
theorem dX8_alter_29 : decode cX8_alter 29 = .ok (.goto 4, 3) := by decide +kernel
theorem dX8_alter_32 : decode cX8_alter 32 = .ok (.iconst (-1), 1) := by decide +kernel
theorem dX8_alter_33 : decode cX8_alter 33 = .ok (.ireturn, 1) := by decide +kernel
theorem dX8_told_0 : decode cX8_told 0 = .ok (.aload_n 0, 1) := by decide +kernel
theorem dX8_told_1 : decode cX8_told 1 = .ok (.iload_n 1, 1) := by decide +kernel
theorem dX8_told_2 : decode cX8_told 2 = .ok (.invokevirtual 48, 3) := by decide +kernel
theorem dX8_told_5 : decode cX8_told 5 = .ok (.ifCond .eq 31, 3) := by decide +kernel
theorem dX8_told_8 : decode cX8_told 8 = .ok (.iload_n 2, 1) := by decide +kernel
theorem dX8_told_9 : decode cX8_told 9 = .ok (.i2l, 1) := by decide +kernel
theorem dX8_told_10 : decode cX8_told 10 = .ok (.lconst 0, 1) := by decide +kernel
theorem dX8_told_11 : decode cX8_told 11 = .ok (.ldc2_w 46, 3) := by decide +kernel
theorem dX8_told_14 : decode cX8_told 14 = .ok (.invokestatic 40, 3) := by decide +kernel
theorem dX8_told_17 : decode cX8_told 17 = .ok (.ifCond .eq 19, 3) := by decide +kernel
theorem dX8_told_20 : decode cX8_told 20 = .ok (.aload_n 0, 1) := by decide +kernel
theorem dX8_told_21 : decode cX8_told 21 = .ok (.getfield 7, 3) := by decide +kernel
theorem dX8_told_24 : decode cX8_told 24 = .ok (.iconst 5, 1) := by decide +kernel
theorem dX8_told_25 : decode cX8_told 25 = .ok (.bipush 28, 2) := by decide +kernel
theorem dX8_told_27 : decode cX8_told 27 = .ok (.iload_n 2, 1) := by decide +kernel
theorem dX8_told_28 : decode cX8_told 28 = .ok (.imul, 1) := by decide +kernel
theorem dX8_told_29 : decode cX8_told 29 = .ok (.iadd, 1) := by decide +kernel
theorem dX8_told_30 : decode cX8_told 30 = .ok (.iload_n 1, 1) := by decide +kernel
theorem dX8_told_31 : decode cX8_told 31 = .ok (.iadd, 1) := by decide +kernel
theorem dX8_told_32 : decode cX8_told 32 = .ok (.iaload, 1) := by decide +kernel
theorem dX8_told_33 : decode cX8_told 33 = .ok (.goto 4, 3) := by decide +kernel
theorem dX8_told_36 : decode cX8_told 36 = .ok (.iconst (-1), 1) := by decide +kernel
theorem dX8_told_37 : decode cX8_told 37 = .ok (.ireturn, 1) := by decide +kernel
theorem dX8_strike_0 : decode cX8_strike 0 = .ok (.aload_n 0, 1) := by decide +kernel
theorem dX8_strike_1 : decode cX8_strike 1 = .ok (.getfield 7, 3) := by decide +kernel
theorem dX8_strike_4 : decode cX8_strike 4 = .ok (.iconst 4, 1) := by decide +kernel
theorem dX8_strike_5 : decode cX8_strike 5 = .ok (.iaload, 1) := by decide +kernel
theorem dX8_strike_6 : decode cX8_strike 6 = .ok (.ifCond .ne 6, 3) := by decide +kernel
theorem dX8_strike_9 : decode cX8_strike 9 = .ok (.bipush (-4), 2) := by decide +kernel
theorem dX8_strike_11 : decode cX8_strike 11 = .ok (.ireturn, 1) := by decide +kernel
theorem dX8_strike_12 : decode cX8_strike 12 = .ok (.aload_n 0, 1) := by decide +kernel
theorem dX8_strike_13 : decode cX8_strike 13 = .ok (.getfield 7, 3) := by decide +kernel
theorem dX8_strike_16 : decode cX8_strike 16 = .ok (.iconst 4, 1) := by decide +kernel
theorem dX8_strike_17 : decode cX8_strike 17 = .ok (.dup2, 1) := by decide +kernel
theorem dX8_strike_18 : decode cX8_strike 18 = .ok (.iaload, 1) := by decide +kernel
theorem dX8_strike_19 : decode cX8_strike 19 = .ok (.iconst 1, 1) := by decide +kernel
theorem dX8_strike_20 : decode cX8_strike 20 = .ok (.isub, 1) := by decide +kernel
theorem dX8_strike_21 : decode cX8_strike 21 = .ok (.iastore, 1) := by decide +kernel
theorem dX8_strike_22 : decode cX8_strike 22 = .ok (.aload_n 0, 1) := by decide +kernel
theorem dX8_strike_23 : decode cX8_strike 23 = .ok (.getfield 7, 3) := by decide +kernel
theorem dX8_strike_26 : decode cX8_strike 26 = .ok (.iconst 4, 1) := by decide +kernel
theorem dX8_strike_27 : decode cX8_strike 27 = .ok (.iaload, 1) := by decide +kernel
theorem dX8_strike_28 : decode cX8_strike 28 = .ok (.ireturn, 1) := by decide +kernel
theorem dX8_set_0 : decode cX8_set 0 = .ok (.iload_n 1, 1) := by decide +kernel
theorem dX8_set_1 : decode cX8_set 1 = .ok (.i2l, 1) := by decide +kernel
theorem dX8_set_2 : decode cX8_set 2 = .ok (.lconst 0, 1) := by decide +kernel
theorem dX8_set_3 : decode cX8_set 3 = .ok (.ldc2_w 46, 3) := by decide +kernel
theorem dX8_set_6 : decode cX8_set 6 = .ok (.invokestatic 40, 3) := by decide +kernel
theorem dX8_set_9 : decode cX8_set 9 = .ok (.ifCond .eq 45, 3) := by decide +kernel
theorem dX8_set_12 : decode cX8_set 12 = .ok (.iload_n 2, 1) := by decide +kernel
theorem dX8_set_13 : decode cX8_set 13 = .ok (.i2l, 1) := by decide +kernel
theorem dX8_set_14 : decode cX8_set 14 = .ok (.lconst 0, 1) := by decide +kernel
theorem dX8_set_15 : decode cX8_set 15 = .ok (.iload_n 1, 1) := by decide +kernel
theorem dX8_set_16 : decode cX8_set 16 = .ok (.ifCond .ne 9, 3) := by decide +kernel
theorem dX8_set_19 : decode cX8_set 19 = .ok (.ldc2_w 60, 3) := by decide +kernel
theorem dX8_set_22 : decode cX8_set 22 = .ok (.goto 17, 3) := by decide +kernel
theorem dX8_set_25 : decode cX8_set 25 = .ok (.iload_n 1, 1) := by decide +kernel
theorem dX8_set_26 : decode cX8_set 26 = .ok (.iconst 1, 1) := by decide +kernel
theorem dX8_set_27 : decode cX8_set 27 = .ok (.if_icmp .ne 9, 3) := by decide +kernel
theorem dX8_set_30 : decode cX8_set 30 = .ok (.ldc2_w 62, 3) := by decide +kernel
theorem dX8_set_33 : decode cX8_set 33 = .ok (.goto 6, 3) := by decide +kernel
theorem dX8_set_36 : decode cX8_set 36 = .ok (.ldc2_w 64, 3) := by decide +kernel
theorem dX8_set_39 : decode cX8_set 39 = .ok (.invokestatic 40, 3) := by decide +kernel
theorem dX8_set_42 : decode cX8_set 42 = .ok (.ifCond .eq 12, 3) := by decide +kernel
theorem dX8_set_45 : decode cX8_set 45 = .ok (.aload_n 0, 1) := by decide +kernel
theorem dX8_set_46 : decode cX8_set 46 = .ok (.iload_n 1, 1) := by decide +kernel
theorem dX8_set_47 : decode cX8_set 47 = .ok (.iload_n 2, 1) := by decide +kernel
theorem dX8_set_48 : decode cX8_set 48 = .ok (.invokevirtual 56, 3) := by decide +kernel
theorem dX8_set_51 : decode cX8_set 51 = .ok (.goto 4, 3) := by decide +kernel
theorem dX8_set_54 : decode cX8_set 54 = .ok (.iconst (-1), 1) := by decide +kernel
theorem dX8_set_55 : decode cX8_set 55 = .ok (.ireturn, 1) := by decide +kernel
theorem dX8_type_0 : decode cX8_type 0 = .ok (.iload_n 3, 1) := by decide +kernel
theorem dX8_type_1 : decode cX8_type 1 = .ok (.i2l, 1) := by decide +kernel
theorem dX8_type_2 : decode cX8_type 2 = .ok (.lconst 1, 1) := by decide +kernel
theorem dX8_type_3 : decode cX8_type 3 = .ok (.ldc2_w 64, 3) := by decide +kernel
theorem dX8_type_6 : decode cX8_type 6 = .ok (.invokestatic 40, 3) := by decide +kernel
theorem dX8_type_9 : decode cX8_type 9 = .ok (.ifCond .ne 5, 3) := by decide +kernel
theorem dX8_type_12 : decode cX8_type 12 = .ok (.iconst (-1), 1) := by decide +kernel
theorem dX8_type_13 : decode cX8_type 13 = .ok (.ireturn, 1) := by decide +kernel
theorem dX8_type_14 : decode cX8_type 14 = .ok (.iconst 1, 1) := by decide +kernel
theorem dX8_type_15 : decode cX8_type 15 = .ok (.istore 4, 2) := by decide +kernel
theorem dX8_type_17 : decode cX8_type 17 = .ok (.iconst 0, 1) := by decide +kernel
theorem dX8_type_18 : decode cX8_type 18 = .ok (.istore 5, 2) := by decide +kernel
theorem dX8_type_20 : decode cX8_type 20 = .ok (.iload 5, 2) := by decide +kernel
theorem dX8_type_22 : decode cX8_type 22 = .ok (.iload_n 3, 1) := by decide +kernel
theorem dX8_type_23 : decode cX8_type 23 = .ok (.if_icmp .ge 44, 3) := by decide +kernel
theorem dX8_type_26 : decode cX8_type 26 = .ok (.iload 4, 2) := by decide +kernel
theorem dX8_type_28 : decode cX8_type 28 = .ok (.ifCond .eq 30, 3) := by decide +kernel
theorem dX8_type_31 : decode cX8_type 31 = .ok (.lload_n 1, 1) := by decide +kernel
theorem dX8_type_32 : decode cX8_type 32 = .ok (.bipush 8, 2) := by decide +kernel
theorem dX8_type_34 : decode cX8_type 34 = .ok (.iload 5, 2) := by decide +kernel
theorem dX8_type_36 : decode cX8_type 36 = .ok (.imul, 1) := by decide +kernel
theorem dX8_type_37 : decode cX8_type 37 = .ok (.lshr, 1) := by decide +kernel
theorem dX8_type_38 : decode cX8_type 38 = .ok (.ldc2_w 66, 3) := by decide +kernel
theorem dX8_type_41 : decode cX8_type 41 = .ok (.land, 1) := by decide +kernel
theorem dX8_type_42 : decode cX8_type 42 = .ok (.ldc2_w 68, 3) := by decide +kernel
theorem dX8_type_45 : decode cX8_type 45 = .ok (.ldc2_w 70, 3) := by decide +kernel
theorem dX8_type_48 : decode cX8_type 48 = .ok (.invokestatic 40, 3) := by decide +kernel
theorem dX8_type_51 : decode cX8_type 51 = .ok (.ifCond .eq 7, 3) := by decide +kernel
theorem dX8_type_54 : decode cX8_type 54 = .ok (.iconst 1, 1) := by decide +kernel
theorem dX8_type_55 : decode cX8_type 55 = .ok (.goto 4, 3) := by decide +kernel
theorem dX8_type_58 : decode cX8_type 58 = .ok (.iconst 0, 1) := by decide +kernel
theorem dX8_type_59 : decode cX8_type 59 = .ok (.istore 4, 2) := by decide +kernel
theorem dX8_type_61 : decode cX8_type 61 = .ok (.iinc 5 1, 3) := by decide +kernel
theorem dX8_type_64 : decode cX8_type 64 = .ok (.goto (-44), 3) := by decide +kernel
theorem dX8_type_67 : decode cX8_type 67 = .ok (.iload 4, 2) := by decide +kernel
theorem dX8_type_69 : decode cX8_type 69 = .ok (.ifCond .ne 5, 3) := by decide +kernel
theorem dX8_type_72 : decode cX8_type 72 = .ok (.iconst (-1), 1) := by decide +kernel
theorem dX8_type_73 : decode cX8_type 73 = .ok (.ireturn, 1) := by decide +kernel
theorem dX8_type_74 : decode cX8_type 74 = .ok (.aload_n 0, 1) := by decide +kernel
theorem dX8_type_75 : decode cX8_type 75 = .ok (.getfield 72, 3) := by decide +kernel
theorem dX8_type_78 : decode cX8_type 78 = .ok (.iload_n 3, 1) := by decide +kernel
theorem dX8_type_79 : decode cX8_type 79 = .ok (.iadd, 1) := by decide +kernel
theorem dX8_type_80 : decode cX8_type 80 = .ok (.sipush 200, 3) := by decide +kernel
theorem dX8_type_83 : decode cX8_type 83 = .ok (.if_icmp .le 6, 3) := by decide +kernel
theorem dX8_type_86 : decode cX8_type 86 = .ok (.bipush (-3), 2) := by decide +kernel
theorem dX8_type_88 : decode cX8_type 88 = .ok (.ireturn, 1) := by decide +kernel
theorem dX8_type_89 : decode cX8_type 89 = .ok (.iload_n 3, 1) := by decide +kernel
theorem dX8_type_90 : decode cX8_type 90 = .ok (.iconst 1, 1) := by decide +kernel
theorem dX8_type_91 : decode cX8_type 91 = .ok (.isub, 1) := by decide +kernel
theorem dX8_type_92 : decode cX8_type 92 = .ok (.istore 5, 2) := by decide +kernel
theorem dX8_type_94 : decode cX8_type 94 = .ok (.iload 5, 2) := by decide +kernel
theorem dX8_type_96 : decode cX8_type 96 = .ok (.ifCond .lt 40, 3) := by decide +kernel
theorem dX8_type_99 : decode cX8_type 99 = .ok (.aload_n 0, 1) := by decide +kernel
theorem dX8_type_100 : decode cX8_type 100 = .ok (.getfield 16, 3) := by decide +kernel
theorem dX8_type_103 : decode cX8_type 103 = .ok (.aload_n 0, 1) := by decide +kernel
theorem dX8_type_104 : decode cX8_type 104 = .ok (.getfield 72, 3) := by decide +kernel
theorem dX8_type_107 : decode cX8_type 107 = .ok (.lload_n 1, 1) := by decide +kernel
theorem dX8_type_108 : decode cX8_type 108 = .ok (.bipush 8, 2) := by decide +kernel
theorem dX8_type_110 : decode cX8_type 110 = .ok (.iload 5, 2) := by decide +kernel
theorem dX8_type_112 : decode cX8_type 112 = .ok (.imul, 1) := by decide +kernel
theorem dX8_type_113 : decode cX8_type 113 = .ok (.lshr, 1) := by decide +kernel
theorem dX8_type_114 : decode cX8_type 114 = .ok (.ldc2_w 66, 3) := by decide +kernel
theorem dX8_type_117 : decode cX8_type 117 = .ok (.land, 1) := by decide +kernel
theorem dX8_type_118 : decode cX8_type 118 = .ok (.l2i, 1) := by decide +kernel
theorem dX8_type_119 : decode cX8_type 119 = .ok (.iastore, 1) := by decide +kernel
theorem dX8_type_120 : decode cX8_type 120 = .ok (.aload_n 0, 1) := by decide +kernel
theorem dX8_type_121 : decode cX8_type 121 = .ok (.dup, 1) := by decide +kernel
theorem dX8_type_122 : decode cX8_type 122 = .ok (.getfield 72, 3) := by decide +kernel
theorem dX8_type_125 : decode cX8_type 125 = .ok (.iconst 1, 1) := by decide +kernel
theorem dX8_type_126 : decode cX8_type 126 = .ok (.iadd, 1) := by decide +kernel
theorem dX8_type_127 : decode cX8_type 127 = .ok (.putfield 72, 3) := by decide +kernel
theorem dX8_type_130 : decode cX8_type 130 = .ok (.iinc 5 (-1), 3) := by decide +kernel
theorem dX8_type_133 : decode cX8_type 133 = .ok (.goto (-39), 3) := by decide +kernel
theorem dX8_type_136 : decode cX8_type 136 = .ok (.aload_n 0, 1) := by decide +kernel
theorem dX8_type_137 : decode cX8_type 137 = .ok (.getfield 72, 3) := by decide +kernel
theorem dX8_type_140 : decode cX8_type 140 = .ok (.ireturn, 1) := by decide +kernel
theorem dX8_look_0 : decode cX8_look 0 = .ok (.aload_n 0, 1) := by decide +kernel
theorem dX8_look_1 : decode cX8_look 1 = .ok (.getfield 76, 3) := by decide +kernel
theorem dX8_look_4 : decode cX8_look 4 = .ok (.aload_n 0, 1) := by decide +kernel
theorem dX8_look_5 : decode cX8_look 5 = .ok (.getfield 79, 3) := by decide +kernel
theorem dX8_look_8 : decode cX8_look 8 = .ok (.if_icmp .ge 30, 3) := by decide +kernel
theorem dX8_look_11 : decode cX8_look 11 = .ok (.aload_n 0, 1) := by decide +kernel
theorem dX8_look_12 : decode cX8_look 12 = .ok (.getfield 16, 3) := by decide +kernel
theorem dX8_look_15 : decode cX8_look 15 = .ok (.aload_n 0, 1) := by decide +kernel
theorem dX8_look_16 : decode cX8_look 16 = .ok (.getfield 76, 3) := by decide +kernel
theorem dX8_look_19 : decode cX8_look 19 = .ok (.iaload, 1) := by decide +kernel
theorem dX8_look_20 : decode cX8_look 20 = .ok (.bipush 32, 2) := by decide +kernel
theorem dX8_look_22 : decode cX8_look 22 = .ok (.if_icmp .ne 16, 3) := by decide +kernel
theorem dX8_look_25 : decode cX8_look 25 = .ok (.aload_n 0, 1) := by decide +kernel
theorem dX8_look_26 : decode cX8_look 26 = .ok (.dup, 1) := by decide +kernel
theorem dX8_look_27 : decode cX8_look 27 = .ok (.getfield 76, 3) := by decide +kernel
theorem dX8_look_30 : decode cX8_look 30 = .ok (.iconst 1, 1) := by decide +kernel
theorem dX8_look_31 : decode cX8_look 31 = .ok (.iadd, 1) := by decide +kernel
theorem dX8_look_32 : decode cX8_look 32 = .ok (.putfield 76, 3) := by decide +kernel
theorem dX8_look_35 : decode cX8_look 35 = .ok (.goto (-35), 3) := by decide +kernel
theorem dX8_look_38 : decode cX8_look 38 = .ok (.aload_n 0, 1) := by decide +kernel
theorem dX8_look_39 : decode cX8_look 39 = .ok (.getfield 76, 3) := by decide +kernel
theorem dX8_look_42 : decode cX8_look 42 = .ok (.aload_n 0, 1) := by decide +kernel
theorem dX8_look_43 : decode cX8_look 43 = .ok (.getfield 79, 3) := by decide +kernel
theorem dX8_look_46 : decode cX8_look 46 = .ok (.if_icmp .ge 15, 3) := by decide +kernel
theorem dX8_look_49 : decode cX8_look 49 = .ok (.aload_n 0, 1) := by decide +kernel
theorem dX8_look_50 : decode cX8_look 50 = .ok (.getfield 16, 3) := by decide +kernel
theorem dX8_look_53 : decode cX8_look 53 = .ok (.aload_n 0, 1) := by decide +kernel
theorem dX8_look_54 : decode cX8_look 54 = .ok (.getfield 76, 3) := by decide +kernel
theorem dX8_look_57 : decode cX8_look 57 = .ok (.iaload, 1) := by decide +kernel
theorem dX8_look_58 : decode cX8_look 58 = .ok (.goto 4, 3) := by decide +kernel
theorem dX8_look_61 : decode cX8_look 61 = .ok (.iconst (-1), 1) := by decide +kernel
theorem dX8_look_62 : decode cX8_look 62 = .ok (.ireturn, 1) := by decide +kernel
theorem dX8_takes_0 : decode cX8_takes 0 = .ok (.aload_n 0, 1) := by decide +kernel
theorem dX8_takes_1 : decode cX8_takes 1 = .ok (.invokevirtual 82, 3) := by decide +kernel
theorem dX8_takes_4 : decode cX8_takes 4 = .ok (.istore_n 2, 1) := by decide +kernel
theorem dX8_takes_5 : decode cX8_takes 5 = .ok (.aload_n 0, 1) := by decide +kernel
theorem dX8_takes_6 : decode cX8_takes 6 = .ok (.getfield 76, 3) := by decide +kernel
theorem dX8_takes_9 : decode cX8_takes 9 = .ok (.istore_n 3, 1) := by decide +kernel
theorem dX8_takes_10 : decode cX8_takes 10 = .ok (.iload_n 2, 1) := by decide +kernel
theorem dX8_takes_11 : decode cX8_takes 11 = .ok (.i2l, 1) := by decide +kernel
theorem dX8_takes_12 : decode cX8_takes 12 = .ok (.ldc2_w 86, 3) := by decide +kernel
theorem dX8_takes_15 : decode cX8_takes 15 = .ok (.ldc2_w 88, 3) := by decide +kernel
theorem dX8_takes_18 : decode cX8_takes 18 = .ok (.invokestatic 40, 3) := by decide +kernel
theorem dX8_takes_21 : decode cX8_takes 21 = .ok (.ifCond .ne 5, 3) := by decide +kernel
theorem dX8_takes_24 : decode cX8_takes 24 = .ok (.iload_n 3, 1) := by decide +kernel
theorem dX8_takes_25 : decode cX8_takes 25 = .ok (.ireturn, 1) := by decide +kernel
theorem dX8_takes_26 : decode cX8_takes 26 = .ok (.iconst 0, 1) := by decide +kernel
theorem dX8_takes_27 : decode cX8_takes 27 = .ok (.istore 4, 2) := by decide +kernel
theorem dX8_takes_29 : decode cX8_takes 29 = .ok (.aload_n 0, 1) := by decide +kernel
theorem dX8_takes_30 : decode cX8_takes 30 = .ok (.getfield 76, 3) := by decide +kernel
theorem dX8_takes_33 : decode cX8_takes 33 = .ok (.aload_n 0, 1) := by decide +kernel
theorem dX8_takes_34 : decode cX8_takes 34 = .ok (.getfield 79, 3) := by decide +kernel
theorem dX8_takes_37 : decode cX8_takes 37 = .ok (.if_icmp .ge 70, 3) := by decide +kernel
theorem dX8_takes_40 : decode cX8_takes 40 = .ok (.aload_n 0, 1) := by decide +kernel
theorem dX8_takes_41 : decode cX8_takes 41 = .ok (.getfield 16, 3) := by decide +kernel
theorem dX8_takes_44 : decode cX8_takes 44 = .ok (.aload_n 0, 1) := by decide +kernel
theorem dX8_takes_45 : decode cX8_takes 45 = .ok (.getfield 76, 3) := by decide +kernel
theorem dX8_takes_48 : decode cX8_takes 48 = .ok (.iaload, 1) := by decide +kernel
theorem dX8_takes_49 : decode cX8_takes 49 = .ok (.i2l, 1) := by decide +kernel
theorem dX8_takes_50 : decode cX8_takes 50 = .ok (.ldc2_w 86, 3) := by decide +kernel
theorem dX8_takes_53 : decode cX8_takes 53 = .ok (.ldc2_w 88, 3) := by decide +kernel
theorem dX8_takes_56 : decode cX8_takes 56 = .ok (.invokestatic 40, 3) := by decide +kernel
theorem dX8_takes_59 : decode cX8_takes 59 = .ok (.ifCond .eq 48, 3) := by decide +kernel
theorem dX8_takes_62 : decode cX8_takes 62 = .ok (.iload 4, 2) := by decide +kernel
theorem dX8_takes_64 : decode cX8_takes 64 = .ok (.bipush 99, 2) := by decide +kernel
theorem dX8_takes_66 : decode cX8_takes 66 = .ok (.if_icmp .le 8, 3) := by decide +kernel
theorem dX8_takes_69 : decode cX8_takes 69 = .ok (.iload 4, 2) := by decide +kernel
theorem dX8_takes_71 : decode cX8_takes 71 = .ok (.goto 21, 3) := by decide +kernel
theorem dX8_takes_74 : decode cX8_takes 74 = .ok (.bipush 10, 2) := by decide +kernel
theorem dX8_takes_76 : decode cX8_takes 76 = .ok (.iload 4, 2) := by decide +kernel
theorem dX8_takes_78 : decode cX8_takes 78 = .ok (.imul, 1) := by decide +kernel
theorem dX8_takes_79 : decode cX8_takes 79 = .ok (.aload_n 0, 1) := by decide +kernel
theorem dX8_takes_80 : decode cX8_takes 80 = .ok (.getfield 16, 3) := by decide +kernel
theorem dX8_takes_83 : decode cX8_takes 83 = .ok (.aload_n 0, 1) := by decide +kernel
theorem dX8_takes_84 : decode cX8_takes 84 = .ok (.getfield 76, 3) := by decide +kernel
theorem dX8_takes_87 : decode cX8_takes 87 = .ok (.iaload, 1) := by decide +kernel
theorem dX8_takes_88 : decode cX8_takes 88 = .ok (.iadd, 1) := by decide +kernel
theorem dX8_takes_89 : decode cX8_takes 89 = .ok (.bipush 48, 2) := by decide +kernel
theorem dX8_takes_91 : decode cX8_takes 91 = .ok (.isub, 1) := by decide +kernel
theorem dX8_takes_92 : decode cX8_takes 92 = .ok (.istore 4, 2) := by decide +kernel
theorem dX8_takes_94 : decode cX8_takes 94 = .ok (.aload_n 0, 1) := by decide +kernel
theorem dX8_takes_95 : decode cX8_takes 95 = .ok (.dup, 1) := by decide +kernel
theorem dX8_takes_96 : decode cX8_takes 96 = .ok (.getfield 76, 3) := by decide +kernel
theorem dX8_takes_99 : decode cX8_takes 99 = .ok (.iconst 1, 1) := by decide +kernel
theorem dX8_takes_100 : decode cX8_takes 100 = .ok (.iadd, 1) := by decide +kernel
theorem dX8_takes_101 : decode cX8_takes 101 = .ok (.putfield 76, 3) := by decide +kernel
theorem dX8_takes_104 : decode cX8_takes 104 = .ok (.goto (-75), 3) := by decide +kernel
theorem dX8_takes_107 : decode cX8_takes 107 = .ok (.aload_n 0, 1) := by decide +kernel
theorem dX8_takes_108 : decode cX8_takes 108 = .ok (.getfield 28, 3) := by decide +kernel
theorem dX8_takes_111 : decode cX8_takes 111 = .ok (.iload_n 1, 1) := by decide +kernel
theorem dX8_takes_112 : decode cX8_takes 112 = .ok (.iload 4, 2) := by decide +kernel
theorem dX8_takes_114 : decode cX8_takes 114 = .ok (.iastore, 1) := by decide +kernel
theorem dX8_takes_115 : decode cX8_takes 115 = .ok (.iload 4, 2) := by decide +kernel
theorem dX8_takes_117 : decode cX8_takes 117 = .ok (.bipush 99, 2) := by decide +kernel
theorem dX8_takes_119 : decode cX8_takes 119 = .ok (.if_icmp .le 7, 3) := by decide +kernel
theorem dX8_takes_122 : decode cX8_takes 122 = .ok (.iload_n 3, 1) := by decide +kernel
theorem dX8_takes_123 : decode cX8_takes 123 = .ok (.goto 5, 3) := by decide +kernel
theorem dX8_takes_126 : decode cX8_takes 126 = .ok (.bipush (-4), 2) := by decide +kernel
theorem dX8_takes_128 : decode cX8_takes 128 = .ok (.ireturn, 1) := by decide +kernel
theorem dX8_takesDay_0 : decode cX8_takesDay 0 = .ok (.aload_n 0, 1) := by decide +kernel
theorem dX8_takesDay_1 : decode cX8_takesDay 1 = .ok (.invokevirtual 82, 3) := by decide +kernel
theorem dX8_takesDay_4 : decode cX8_takesDay 4 = .ok (.istore_n 1, 1) := by decide +kernel
theorem dX8_takesDay_5 : decode cX8_takesDay 5 = .ok (.iload_n 1, 1) := by decide +kernel
theorem dX8_takesDay_6 : decode cX8_takesDay 6 = .ok (.bipush 43, 2) := by decide +kernel
theorem dX8_takesDay_8 : decode cX8_takesDay 8 = .ok (.if_icmp .eq 14, 3) := by decide +kernel
theorem dX8_takesDay_11 : decode cX8_takesDay 11 = .ok (.iload_n 1, 1) := by decide +kernel
theorem dX8_takesDay_12 : decode cX8_takesDay 12 = .ok (.bipush 45, 2) := by decide +kernel
theorem dX8_takesDay_14 : decode cX8_takesDay 14 = .ok (.if_icmp .eq 8, 3) := by decide +kernel
theorem dX8_takesDay_17 : decode cX8_takesDay 17 = .ok (.aload_n 0, 1) := by decide +kernel
theorem dX8_takesDay_18 : decode cX8_takesDay 18 = .ok (.getfield 76, 3) := by decide +kernel
theorem dX8_takesDay_21 : decode cX8_takesDay 21 = .ok (.ireturn, 1) := by decide +kernel
theorem dX8_takesDay_22 : decode cX8_takesDay 22 = .ok (.aload_n 0, 1) := by decide +kernel
theorem dX8_takesDay_23 : decode cX8_takesDay 23 = .ok (.dup, 1) := by decide +kernel
theorem dX8_takesDay_24 : decode cX8_takesDay 24 = .ok (.getfield 76, 3) := by decide +kernel
theorem dX8_takesDay_27 : decode cX8_takesDay 27 = .ok (.iconst 1, 1) := by decide +kernel
theorem dX8_takesDay_28 : decode cX8_takesDay 28 = .ok (.iadd, 1) := by decide +kernel
theorem dX8_takesDay_29 : decode cX8_takesDay 29 = .ok (.putfield 76, 3) := by decide +kernel
theorem dX8_takesDay_32 : decode cX8_takesDay 32 = .ok (.aload_n 0, 1) := by decide +kernel
theorem dX8_takesDay_33 : decode cX8_takesDay 33 = .ok (.getfield 28, 3) := by decide +kernel
theorem dX8_takesDay_36 : decode cX8_takesDay 36 = .ok (.aload_n 0, 1) := by decide +kernel
theorem dX8_takesDay_37 : decode cX8_takesDay 37 = .ok (.getfield 90, 3) := by decide +kernel
theorem dX8_takesDay_40 : decode cX8_takesDay 40 = .ok (.iload_n 1, 1) := by decide +kernel
theorem dX8_takesDay_41 : decode cX8_takesDay 41 = .ok (.bipush 43, 2) := by decide +kernel
theorem dX8_takesDay_43 : decode cX8_takesDay 43 = .ok (.if_icmp .ne 7, 3) := by decide +kernel
theorem dX8_takesDay_46 : decode cX8_takesDay 46 = .ok (.iconst 1, 1) := by decide +kernel
theorem dX8_takesDay_47 : decode cX8_takesDay 47 = .ok (.goto 4, 3) := by decide +kernel
theorem dX8_takesDay_50 : decode cX8_takesDay 50 = .ok (.iconst 0, 1) := by decide +kernel
theorem dX8_takesDay_51 : decode cX8_takesDay 51 = .ok (.iastore, 1) := by decide +kernel
theorem dX8_takesDay_52 : decode cX8_takesDay 52 = .ok (.aload_n 0, 1) := by decide +kernel
theorem dX8_takesDay_53 : decode cX8_takesDay 53 = .ok (.bipush 28, 2) := by decide +kernel
theorem dX8_takesDay_55 : decode cX8_takesDay 55 = .ok (.aload_n 0, 1) := by decide +kernel
theorem dX8_takesDay_56 : decode cX8_takesDay 56 = .ok (.getfield 90, 3) := by decide +kernel
theorem dX8_takesDay_59 : decode cX8_takesDay 59 = .ok (.iadd, 1) := by decide +kernel
theorem dX8_takesDay_60 : decode cX8_takesDay 60 = .ok (.invokevirtual 93, 3) := by decide +kernel
theorem dX8_takesDay_63 : decode cX8_takesDay 63 = .ok (.istore_n 2, 1) := by decide +kernel
theorem dX8_takesDay_64 : decode cX8_takesDay 64 = .ok (.aload_n 0, 1) := by decide +kernel
theorem dX8_takesDay_65 : decode cX8_takesDay 65 = .ok (.getfield 28, 3) := by decide +kernel
theorem dX8_takesDay_68 : decode cX8_takesDay 68 = .ok (.bipush 56, 2) := by decide +kernel
theorem dX8_takesDay_70 : decode cX8_takesDay 70 = .ok (.aload_n 0, 1) := by decide +kernel
theorem dX8_takesDay_71 : decode cX8_takesDay 71 = .ok (.getfield 90, 3) := by decide +kernel
theorem dX8_takesDay_74 : decode cX8_takesDay 74 = .ok (.iadd, 1) := by decide +kernel
theorem dX8_takesDay_75 : decode cX8_takesDay 75 = .ok (.iconst 0, 1) := by decide +kernel
theorem dX8_takesDay_76 : decode cX8_takesDay 76 = .ok (.iastore, 1) := by decide +kernel
theorem dX8_takesDay_77 : decode cX8_takesDay 77 = .ok (.iload_n 2, 1) := by decide +kernel
theorem dX8_takesDay_78 : decode cX8_takesDay 78 = .ok (.bipush (-4), 2) := by decide +kernel
theorem dX8_takesDay_80 : decode cX8_takesDay 80 = .ok (.if_icmp .ne 34, 3) := by decide +kernel
theorem dX8_takesDay_83 : decode cX8_takesDay 83 = .ok (.aload_n 0, 1) := by decide +kernel
theorem dX8_takesDay_84 : decode cX8_takesDay 84 = .ok (.invokevirtual 82, 3) := by decide +kernel
theorem dX8_takesDay_87 : decode cX8_takesDay 87 = .ok (.bipush 47, 2) := by decide +kernel
theorem dX8_takesDay_89 : decode cX8_takesDay 89 = .ok (.if_icmp .ne 25, 3) := by decide +kernel
theorem dX8_takesDay_92 : decode cX8_takesDay 92 = .ok (.aload_n 0, 1) := by decide +kernel
theorem dX8_takesDay_93 : decode cX8_takesDay 93 = .ok (.dup, 1) := by decide +kernel
theorem dX8_takesDay_94 : decode cX8_takesDay 94 = .ok (.getfield 76, 3) := by decide +kernel
theorem dX8_takesDay_97 : decode cX8_takesDay 97 = .ok (.iconst 1, 1) := by decide +kernel
theorem dX8_takesDay_98 : decode cX8_takesDay 98 = .ok (.iadd, 1) := by decide +kernel
theorem dX8_takesDay_99 : decode cX8_takesDay 99 = .ok (.putfield 76, 3) := by decide +kernel
theorem dX8_takesDay_102 : decode cX8_takesDay 102 = .ok (.aload_n 0, 1) := by decide +kernel
theorem dX8_takesDay_103 : decode cX8_takesDay 103 = .ok (.bipush 56, 2) := by decide +kernel
theorem dX8_takesDay_105 : decode cX8_takesDay 105 = .ok (.aload_n 0, 1) := by decide +kernel
theorem dX8_takesDay_106 : decode cX8_takesDay 106 = .ok (.getfield 90, 3) := by decide +kernel
theorem dX8_takesDay_109 : decode cX8_takesDay 109 = .ok (.iadd, 1) := by decide +kernel
theorem dX8_takesDay_110 : decode cX8_takesDay 110 = .ok (.invokevirtual 93, 3) := by decide +kernel
theorem dX8_takesDay_113 : decode cX8_takesDay 113 = .ok (.istore_n 2, 1) := by decide +kernel
theorem dX8_takesDay_114 : decode cX8_takesDay 114 = .ok (.aload_n 0, 1) := by decide +kernel
theorem dX8_takesDay_115 : decode cX8_takesDay 115 = .ok (.dup, 1) := by decide +kernel
theorem dX8_takesDay_116 : decode cX8_takesDay 116 = .ok (.getfield 90, 3) := by decide +kernel
theorem dX8_takesDay_119 : decode cX8_takesDay 119 = .ok (.iconst 1, 1) := by decide +kernel
theorem dX8_takesDay_120 : decode cX8_takesDay 120 = .ok (.iadd, 1) := by decide +kernel
theorem dX8_takesDay_121 : decode cX8_takesDay 121 = .ok (.putfield 90, 3) := by decide +kernel
theorem dX8_takesDay_124 : decode cX8_takesDay 124 = .ok (.iload_n 2, 1) := by decide +kernel
theorem dX8_takesDay_125 : decode cX8_takesDay 125 = .ok (.ireturn, 1) := by decide +kernel
theorem dX8_year_0 : decode cX8_year 0 = .ok (.aload_n 0, 1) := by decide +kernel
theorem dX8_year_1 : decode cX8_year 1 = .ok (.aload_n 0, 1) := by decide +kernel
theorem dX8_year_2 : decode cX8_year 2 = .ok (.getfield 72, 3) := by decide +kernel
theorem dX8_year_5 : decode cX8_year 5 = .ok (.putfield 79, 3) := by decide +kernel
theorem dX8_year_8 : decode cX8_year 8 = .ok (.aload_n 0, 1) := by decide +kernel
theorem dX8_year_9 : decode cX8_year 9 = .ok (.iconst 0, 1) := by decide +kernel
theorem dX8_year_10 : decode cX8_year 10 = .ok (.putfield 72, 3) := by decide +kernel
theorem dX8_year_13 : decode cX8_year 13 = .ok (.aload_n 0, 1) := by decide +kernel
theorem dX8_year_14 : decode cX8_year 14 = .ok (.iconst 0, 1) := by decide +kernel
theorem dX8_year_15 : decode cX8_year 15 = .ok (.putfield 76, 3) := by decide +kernel
theorem dX8_year_18 : decode cX8_year 18 = .ok (.aload_n 0, 1) := by decide +kernel
theorem dX8_year_19 : decode cX8_year 19 = .ok (.iconst 0, 1) := by decide +kernel
theorem dX8_year_20 : decode cX8_year 20 = .ok (.putfield 90, 3) := by decide +kernel
theorem dX8_year_23 : decode cX8_year 23 = .ok (.aload_n 0, 1) := by decide +kernel
theorem dX8_year_24 : decode cX8_year 24 = .ok (.invokevirtual 97, 3) := by decide +kernel
theorem dX8_year_27 : decode cX8_year 27 = .ok (.istore_n 1, 1) := by decide +kernel
theorem dX8_year_28 : decode cX8_year 28 = .ok (.iload_n 1, 1) := by decide +kernel
theorem dX8_year_29 : decode cX8_year 29 = .ok (.bipush (-4), 2) := by decide +kernel
theorem dX8_year_31 : decode cX8_year 31 = .ok (.if_icmp .ne 59, 3) := by decide +kernel
theorem dX8_year_34 : decode cX8_year 34 = .ok (.aload_n 0, 1) := by decide +kernel
theorem dX8_year_35 : decode cX8_year 35 = .ok (.invokevirtual 82, 3) := by decide +kernel
theorem dX8_year_38 : decode cX8_year 38 = .ok (.ifCond .lt 52, 3) := by decide +kernel
theorem dX8_year_41 : decode cX8_year 41 = .ok (.aload_n 0, 1) := by decide +kernel
theorem dX8_year_42 : decode cX8_year 42 = .ok (.getfield 16, 3) := by decide +kernel
theorem dX8_year_45 : decode cX8_year 45 = .ok (.aload_n 0, 1) := by decide +kernel
theorem dX8_year_46 : decode cX8_year 46 = .ok (.getfield 76, 3) := by decide +kernel
theorem dX8_year_49 : decode cX8_year 49 = .ok (.iaload, 1) := by decide +kernel
theorem dX8_year_50 : decode cX8_year 50 = .ok (.bipush 44, 2) := by decide +kernel
theorem dX8_year_52 : decode cX8_year 52 = .ok (.if_icmp .ne 12, 3) := by decide +kernel
theorem dX8_year_55 : decode cX8_year 55 = .ok (.aload_n 0, 1) := by decide +kernel
theorem dX8_year_56 : decode cX8_year 56 = .ok (.getfield 90, 3) := by decide +kernel
theorem dX8_year_59 : decode cX8_year 59 = .ok (.bipush 28, 2) := by decide +kernel
theorem dX8_year_61 : decode cX8_year 61 = .ok (.if_icmp .ne 11, 3) := by decide +kernel
theorem dX8_year_64 : decode cX8_year 64 = .ok (.aload_n 0, 1) := by decide +kernel
theorem dX8_year_65 : decode cX8_year 65 = .ok (.getfield 76, 3) := by decide +kernel
theorem dX8_year_68 : decode cX8_year 68 = .ok (.istore_n 1, 1) := by decide +kernel
theorem dX8_year_69 : decode cX8_year 69 = .ok (.goto (-41), 3) := by decide +kernel
theorem dX8_year_72 : decode cX8_year 72 = .ok (.aload_n 0, 1) := by decide +kernel
theorem dX8_year_73 : decode cX8_year 73 = .ok (.dup, 1) := by decide +kernel
theorem dX8_year_74 : decode cX8_year 74 = .ok (.getfield 76, 3) := by decide +kernel
theorem dX8_year_77 : decode cX8_year 77 = .ok (.iconst 1, 1) := by decide +kernel
theorem dX8_year_78 : decode cX8_year 78 = .ok (.iadd, 1) := by decide +kernel
theorem dX8_year_79 : decode cX8_year 79 = .ok (.putfield 76, 3) := by decide +kernel
theorem dX8_year_82 : decode cX8_year 82 = .ok (.aload_n 0, 1) := by decide +kernel
theorem dX8_year_83 : decode cX8_year 83 = .ok (.invokevirtual 97, 3) := by decide +kernel
theorem dX8_year_86 : decode cX8_year 86 = .ok (.istore_n 1, 1) := by decide +kernel
theorem dX8_year_87 : decode cX8_year 87 = .ok (.goto (-59), 3) := by decide +kernel
theorem dX8_year_90 : decode cX8_year 90 = .ok (.iload_n 1, 1) := by decide +kernel
theorem dX8_year_91 : decode cX8_year 91 = .ok (.bipush (-4), 2) := by decide +kernel
theorem dX8_year_93 : decode cX8_year 93 = .ok (.if_icmp .eq 8, 3) := by decide +kernel
theorem dX8_year_96 : decode cX8_year 96 = .ok (.bipush (-20), 2) := by decide +kernel
theorem dX8_year_98 : decode cX8_year 98 = .ok (.iload_n 1, 1) := by decide +kernel
theorem dX8_year_99 : decode cX8_year 99 = .ok (.isub, 1) := by decide +kernel
theorem dX8_year_100 : decode cX8_year 100 = .ok (.ireturn, 1) := by decide +kernel
theorem dX8_year_101 : decode cX8_year 101 = .ok (.iconst 0, 1) := by decide +kernel
theorem dX8_year_102 : decode cX8_year 102 = .ok (.istore_n 2, 1) := by decide +kernel
theorem dX8_year_103 : decode cX8_year 103 = .ok (.iload_n 2, 1) := by decide +kernel
theorem dX8_year_104 : decode cX8_year 104 = .ok (.aload_n 0, 1) := by decide +kernel
theorem dX8_year_105 : decode cX8_year 105 = .ok (.getfield 90, 3) := by decide +kernel
theorem dX8_year_108 : decode cX8_year 108 = .ok (.if_icmp .ge 59, 3) := by decide +kernel
theorem dX8_year_111 : decode cX8_year 111 = .ok (.aload_n 0, 1) := by decide +kernel
theorem dX8_year_112 : decode cX8_year 112 = .ok (.getfield 7, 3) := by decide +kernel
theorem dX8_year_115 : decode cX8_year 115 = .ok (.iconst 5, 1) := by decide +kernel
theorem dX8_year_116 : decode cX8_year 116 = .ok (.iload_n 2, 1) := by decide +kernel
theorem dX8_year_117 : decode cX8_year 117 = .ok (.iadd, 1) := by decide +kernel
theorem dX8_year_118 : decode cX8_year 118 = .ok (.aload_n 0, 1) := by decide +kernel
theorem dX8_year_119 : decode cX8_year 119 = .ok (.getfield 28, 3) := by decide +kernel
theorem dX8_year_122 : decode cX8_year 122 = .ok (.iload_n 2, 1) := by decide +kernel
theorem dX8_year_123 : decode cX8_year 123 = .ok (.iaload, 1) := by decide +kernel
theorem dX8_year_124 : decode cX8_year 124 = .ok (.iastore, 1) := by decide +kernel
theorem dX8_year_125 : decode cX8_year 125 = .ok (.aload_n 0, 1) := by decide +kernel
theorem dX8_year_126 : decode cX8_year 126 = .ok (.getfield 7, 3) := by decide +kernel
theorem dX8_year_129 : decode cX8_year 129 = .ok (.bipush 33, 2) := by decide +kernel
theorem dX8_year_131 : decode cX8_year 131 = .ok (.iload_n 2, 1) := by decide +kernel
theorem dX8_year_132 : decode cX8_year 132 = .ok (.iadd, 1) := by decide +kernel
theorem dX8_year_133 : decode cX8_year 133 = .ok (.aload_n 0, 1) := by decide +kernel
theorem dX8_year_134 : decode cX8_year 134 = .ok (.getfield 28, 3) := by decide +kernel
theorem dX8_year_137 : decode cX8_year 137 = .ok (.bipush 28, 2) := by decide +kernel
theorem dX8_year_139 : decode cX8_year 139 = .ok (.iload_n 2, 1) := by decide +kernel
theorem dX8_year_140 : decode cX8_year 140 = .ok (.iadd, 1) := by decide +kernel
theorem dX8_year_141 : decode cX8_year 141 = .ok (.iaload, 1) := by decide +kernel
theorem dX8_year_142 : decode cX8_year 142 = .ok (.iastore, 1) := by decide +kernel
theorem dX8_year_143 : decode cX8_year 143 = .ok (.aload_n 0, 1) := by decide +kernel
theorem dX8_year_144 : decode cX8_year 144 = .ok (.getfield 7, 3) := by decide +kernel
theorem dX8_year_147 : decode cX8_year 147 = .ok (.bipush 61, 2) := by decide +kernel
theorem dX8_year_149 : decode cX8_year 149 = .ok (.iload_n 2, 1) := by decide +kernel
theorem dX8_year_150 : decode cX8_year 150 = .ok (.iadd, 1) := by decide +kernel
theorem dX8_year_151 : decode cX8_year 151 = .ok (.aload_n 0, 1) := by decide +kernel
theorem dX8_year_152 : decode cX8_year 152 = .ok (.getfield 28, 3) := by decide +kernel
theorem dX8_year_155 : decode cX8_year 155 = .ok (.bipush 56, 2) := by decide +kernel
theorem dX8_year_157 : decode cX8_year 157 = .ok (.iload_n 2, 1) := by decide +kernel
theorem dX8_year_158 : decode cX8_year 158 = .ok (.iadd, 1) := by decide +kernel
theorem dX8_year_159 : decode cX8_year 159 = .ok (.iaload, 1) := by decide +kernel
theorem dX8_year_160 : decode cX8_year 160 = .ok (.iastore, 1) := by decide +kernel
theorem dX8_year_161 : decode cX8_year 161 = .ok (.iinc 2 1, 3) := by decide +kernel
theorem dX8_year_164 : decode cX8_year 164 = .ok (.goto (-61), 3) := by decide +kernel
theorem dX8_year_167 : decode cX8_year 167 = .ok (.aload_n 0, 1) := by decide +kernel
theorem dX8_year_168 : decode cX8_year 168 = .ok (.getfield 7, 3) := by decide +kernel
theorem dX8_year_171 : decode cX8_year 171 = .ok (.iconst 4, 1) := by decide +kernel
theorem dX8_year_172 : decode cX8_year 172 = .ok (.aload_n 0, 1) := by decide +kernel
theorem dX8_year_173 : decode cX8_year 173 = .ok (.getfield 90, 3) := by decide +kernel
theorem dX8_year_176 : decode cX8_year 176 = .ok (.iastore, 1) := by decide +kernel
theorem dX8_year_177 : decode cX8_year 177 = .ok (.aload_n 0, 1) := by decide +kernel
theorem dX8_year_178 : decode cX8_year 178 = .ok (.getfield 90, 3) := by decide +kernel
theorem dX8_year_181 : decode cX8_year 181 = .ok (.ireturn, 1) := by decide +kernel
theorem dX8_count_0 : decode cX8_count 0 = .ok (.iload_n 1, 1) := by decide +kernel
theorem dX8_count_1 : decode cX8_count 1 = .ok (.i2l, 1) := by decide +kernel
theorem dX8_count_2 : decode cX8_count 2 = .ok (.lconst 0, 1) := by decide +kernel
theorem dX8_count_3 : decode cX8_count 3 = .ok (.ldc2_w 100, 3) := by decide +kernel
theorem dX8_count_6 : decode cX8_count 6 = .ok (.invokestatic 40, 3) := by decide +kernel
theorem dX8_count_9 : decode cX8_count 9 = .ok (.ifCond .ne 5, 3) := by decide +kernel
theorem dX8_count_12 : decode cX8_count 12 = .ok (.iconst (-1), 1) := by decide +kernel
theorem dX8_count_13 : decode cX8_count 13 = .ok (.ireturn, 1) := by decide +kernel
theorem dX8_count_14 : decode cX8_count 14 = .ok (.iconst 0, 1) := by decide +kernel
theorem dX8_count_15 : decode cX8_count 15 = .ok (.istore_n 2, 1) := by decide +kernel
theorem dX8_count_16 : decode cX8_count 16 = .ok (.iconst 0, 1) := by decide +kernel
theorem dX8_count_17 : decode cX8_count 17 = .ok (.istore_n 3, 1) := by decide +kernel
theorem dX8_count_18 : decode cX8_count 18 = .ok (.iconst 0, 1) := by decide +kernel
theorem dX8_count_19 : decode cX8_count 19 = .ok (.istore 4, 2) := by decide +kernel
theorem dX8_count_21 : decode cX8_count 21 = .ok (.iconst 0, 1) := by decide +kernel
theorem dX8_count_22 : decode cX8_count 22 = .ok (.istore 5, 2) := by decide +kernel
theorem dX8_count_24 : decode cX8_count 24 = .ok (.iload 5, 2) := by decide +kernel
theorem dX8_count_26 : decode cX8_count 26 = .ok (.aload_n 0, 1) := by decide +kernel
theorem dX8_count_27 : decode cX8_count 27 = .ok (.getfield 7, 3) := by decide +kernel
theorem dX8_count_30 : decode cX8_count 30 = .ok (.iconst 4, 1) := by decide +kernel
theorem dX8_count_31 : decode cX8_count 31 = .ok (.iaload, 1) := by decide +kernel
theorem dX8_count_32 : decode cX8_count 32 = .ok (.if_icmp .ge 82, 3) := by decide +kernel
theorem dX8_count_35 : decode cX8_count 35 = .ok (.iload_n 2, 1) := by decide +kernel
theorem dX8_count_36 : decode cX8_count 36 = .ok (.aload_n 0, 1) := by decide +kernel
theorem dX8_count_37 : decode cX8_count 37 = .ok (.getfield 7, 3) := by decide +kernel
theorem dX8_count_40 : decode cX8_count 40 = .ok (.iconst 5, 1) := by decide +kernel
theorem dX8_count_41 : decode cX8_count 41 = .ok (.iload 5, 2) := by decide +kernel
theorem dX8_count_43 : decode cX8_count 43 = .ok (.iadd, 1) := by decide +kernel
theorem dX8_count_44 : decode cX8_count 44 = .ok (.iaload, 1) := by decide +kernel
theorem dX8_count_45 : decode cX8_count 45 = .ok (.iadd, 1) := by decide +kernel
theorem dX8_count_46 : decode cX8_count 46 = .ok (.istore_n 2, 1) := by decide +kernel
theorem dX8_count_47 : decode cX8_count 47 = .ok (.iload_n 3, 1) := by decide +kernel
theorem dX8_count_48 : decode cX8_count 48 = .ok (.aload_n 0, 1) := by decide +kernel
theorem dX8_count_49 : decode cX8_count 49 = .ok (.getfield 7, 3) := by decide +kernel
theorem dX8_count_52 : decode cX8_count 52 = .ok (.iconst 5, 1) := by decide +kernel
theorem dX8_count_53 : decode cX8_count 53 = .ok (.iload 5, 2) := by decide +kernel
theorem dX8_count_55 : decode cX8_count 55 = .ok (.iadd, 1) := by decide +kernel
theorem dX8_count_56 : decode cX8_count 56 = .ok (.iaload, 1) := by decide +kernel
theorem dX8_count_57 : decode cX8_count 57 = .ok (.iconst 1, 1) := by decide +kernel
theorem dX8_count_58 : decode cX8_count 58 = .ok (.if_icmp .ne 16, 3) := by decide +kernel
theorem dX8_count_61 : decode cX8_count 61 = .ok (.aload_n 0, 1) := by decide +kernel
theorem dX8_count_62 : decode cX8_count 62 = .ok (.getfield 7, 3) := by decide +kernel
theorem dX8_count_65 : decode cX8_count 65 = .ok (.bipush 33, 2) := by decide +kernel
theorem dX8_count_67 : decode cX8_count 67 = .ok (.iload 5, 2) := by decide +kernel
theorem dX8_count_69 : decode cX8_count 69 = .ok (.iadd, 1) := by decide +kernel
theorem dX8_count_70 : decode cX8_count 70 = .ok (.iaload, 1) := by decide +kernel
theorem dX8_count_71 : decode cX8_count 71 = .ok (.goto 4, 3) := by decide +kernel
theorem dX8_count_74 : decode cX8_count 74 = .ok (.iconst 0, 1) := by decide +kernel
theorem dX8_count_75 : decode cX8_count 75 = .ok (.iadd, 1) := by decide +kernel
theorem dX8_count_76 : decode cX8_count 76 = .ok (.istore_n 3, 1) := by decide +kernel
theorem dX8_count_77 : decode cX8_count 77 = .ok (.iload 4, 2) := by decide +kernel
theorem dX8_count_79 : decode cX8_count 79 = .ok (.aload_n 0, 1) := by decide +kernel
theorem dX8_count_80 : decode cX8_count 80 = .ok (.getfield 7, 3) := by decide +kernel
theorem dX8_count_83 : decode cX8_count 83 = .ok (.iconst 5, 1) := by decide +kernel
theorem dX8_count_84 : decode cX8_count 84 = .ok (.iload 5, 2) := by decide +kernel
theorem dX8_count_86 : decode cX8_count 86 = .ok (.iadd, 1) := by decide +kernel
theorem dX8_count_87 : decode cX8_count 87 = .ok (.iaload, 1) := by decide +kernel
theorem dX8_count_88 : decode cX8_count 88 = .ok (.ifCond .ne 16, 3) := by decide +kernel
theorem dX8_count_91 : decode cX8_count 91 = .ok (.aload_n 0, 1) := by decide +kernel
theorem dX8_count_92 : decode cX8_count 92 = .ok (.getfield 7, 3) := by decide +kernel
theorem dX8_count_95 : decode cX8_count 95 = .ok (.bipush 61, 2) := by decide +kernel
theorem dX8_count_97 : decode cX8_count 97 = .ok (.iload 5, 2) := by decide +kernel
theorem dX8_count_99 : decode cX8_count 99 = .ok (.iadd, 1) := by decide +kernel
theorem dX8_count_100 : decode cX8_count 100 = .ok (.iaload, 1) := by decide +kernel
theorem dX8_count_101 : decode cX8_count 101 = .ok (.goto 4, 3) := by decide +kernel
theorem dX8_count_104 : decode cX8_count 104 = .ok (.iconst 0, 1) := by decide +kernel
theorem dX8_count_105 : decode cX8_count 105 = .ok (.iadd, 1) := by decide +kernel
theorem dX8_count_106 : decode cX8_count 106 = .ok (.istore 4, 2) := by decide +kernel
theorem dX8_count_108 : decode cX8_count 108 = .ok (.iinc 5 1, 3) := by decide +kernel
theorem dX8_count_111 : decode cX8_count 111 = .ok (.goto (-87), 3) := by decide +kernel
theorem dX8_count_114 : decode cX8_count 114 = .ok (.iload_n 1, 1) := by decide +kernel
theorem dX8_count_115 : decode cX8_count 115 = .ok (.tableswitch 55 0 6 #[41, 48, 55, 55, 55, 50, 52], 41) := by decide +kernel
theorem dX8_count_156 : decode cX8_count 156 = .ok (.aload_n 0, 1) := by decide +kernel
theorem dX8_count_157 : decode cX8_count 157 = .ok (.getfield 7, 3) := by decide +kernel
theorem dX8_count_160 : decode cX8_count 160 = .ok (.iconst 4, 1) := by decide +kernel
theorem dX8_count_161 : decode cX8_count 161 = .ok (.iaload, 1) := by decide +kernel
theorem dX8_count_162 : decode cX8_count 162 = .ok (.ireturn, 1) := by decide +kernel
theorem dX8_count_163 : decode cX8_count 163 = .ok (.iload_n 2, 1) := by decide +kernel
theorem dX8_count_164 : decode cX8_count 164 = .ok (.ireturn, 1) := by decide +kernel
theorem dX8_count_165 : decode cX8_count 165 = .ok (.iload_n 3, 1) := by decide +kernel
theorem dX8_count_166 : decode cX8_count 166 = .ok (.ireturn, 1) := by decide +kernel
theorem dX8_count_167 : decode cX8_count 167 = .ok (.iload 4, 2) := by decide +kernel
theorem dX8_count_169 : decode cX8_count 169 = .ok (.ireturn, 1) := by decide +kernel
theorem dX8_count_170 : decode cX8_count 170 = .ok (.aload_n 0, 1) := by decide +kernel
theorem dX8_count_171 : decode cX8_count 171 = .ok (.getfield 7, 3) := by decide +kernel
theorem dX8_count_174 : decode cX8_count 174 = .ok (.iload_n 1, 1) := by decide +kernel
theorem dX8_count_175 : decode cX8_count 175 = .ok (.iconst 2, 1) := by decide +kernel
theorem dX8_count_176 : decode cX8_count 176 = .ok (.isub, 1) := by decide +kernel
theorem dX8_count_177 : decode cX8_count 177 = .ok (.iaload, 1) := by decide +kernel
theorem dX8_count_178 : decode cX8_count 178 = .ok (.ireturn, 1) := by decide +kernel
theorem dX8_lets_0 : decode cX8_lets 0 = .ok (.iload_n 0, 1) := by decide +kernel
theorem dX8_lets_1 : decode cX8_lets 1 = .ok (.iconst 1, 1) := by decide +kernel
theorem dX8_lets_2 : decode cX8_lets 2 = .ok (.if_icmp .ne 20, 3) := by decide +kernel
theorem dX8_lets_5 : decode cX8_lets 5 = .ok (.iload_n 1, 1) := by decide +kernel
theorem dX8_lets_6 : decode cX8_lets 6 = .ok (.bipush 7, 2) := by decide +kernel
theorem dX8_lets_8 : decode cX8_lets 8 = .ok (.irem, 1) := by decide +kernel
theorem dX8_lets_9 : decode cX8_lets 9 = .ok (.bipush 6, 2) := by decide +kernel
theorem dX8_lets_11 : decode cX8_lets 11 = .ok (.if_icmp .eq 7, 3) := by decide +kernel
theorem dX8_lets_14 : decode cX8_lets 14 = .ok (.iconst 1, 1) := by decide +kernel
theorem dX8_lets_15 : decode cX8_lets 15 = .ok (.goto 40, 3) := by decide +kernel
theorem dX8_lets_18 : decode cX8_lets 18 = .ok (.iconst 0, 1) := by decide +kernel
theorem dX8_lets_19 : decode cX8_lets 19 = .ok (.goto 36, 3) := by decide +kernel
theorem dX8_lets_22 : decode cX8_lets 22 = .ok (.iload_n 0, 1) := by decide +kernel
theorem dX8_lets_23 : decode cX8_lets 23 = .ok (.iconst 2, 1) := by decide +kernel
theorem dX8_lets_24 : decode cX8_lets 24 = .ok (.if_icmp .ne 17, 3) := by decide +kernel
theorem dX8_lets_27 : decode cX8_lets 27 = .ok (.iload_n 2, 1) := by decide +kernel
theorem dX8_lets_28 : decode cX8_lets 28 = .ok (.iconst 1, 1) := by decide +kernel
theorem dX8_lets_29 : decode cX8_lets 29 = .ok (.iand, 1) := by decide +kernel
theorem dX8_lets_30 : decode cX8_lets 30 = .ok (.ifCond .ne 7, 3) := by decide +kernel
theorem dX8_lets_33 : decode cX8_lets 33 = .ok (.iconst 1, 1) := by decide +kernel
theorem dX8_lets_34 : decode cX8_lets 34 = .ok (.goto 21, 3) := by decide +kernel
theorem dX8_lets_37 : decode cX8_lets 37 = .ok (.iconst 0, 1) := by decide +kernel
theorem dX8_lets_38 : decode cX8_lets 38 = .ok (.goto 17, 3) := by decide +kernel
theorem dX8_lets_41 : decode cX8_lets 41 = .ok (.iload_n 0, 1) := by decide +kernel
theorem dX8_lets_42 : decode cX8_lets 42 = .ok (.iconst 3, 1) := by decide +kernel
theorem dX8_lets_43 : decode cX8_lets 43 = .ok (.if_icmp .ne 7, 3) := by decide +kernel
theorem dX8_lets_46 : decode cX8_lets 46 = .ok (.iload_n 2, 1) := by decide +kernel
theorem dX8_lets_47 : decode cX8_lets 47 = .ok (.ifCond .ne 7, 3) := by decide +kernel
theorem dX8_lets_50 : decode cX8_lets 50 = .ok (.iconst 1, 1) := by decide +kernel
theorem dX8_lets_51 : decode cX8_lets 51 = .ok (.goto 4, 3) := by decide +kernel
theorem dX8_lets_54 : decode cX8_lets 54 = .ok (.iconst 0, 1) := by decide +kernel
theorem dX8_lets_55 : decode cX8_lets 55 = .ok (.ireturn, 1) := by decide +kernel
theorem dX8_minds_0 : decode cX8_minds 0 = .ok (.iload_n 0, 1) := by decide +kernel
theorem dX8_minds_1 : decode cX8_minds 1 = .ok (.bipush 7, 2) := by decide +kernel
theorem dX8_minds_3 : decode cX8_minds 3 = .ok (.irem, 1) := by decide +kernel
theorem dX8_minds_4 : decode cX8_minds 4 = .ok (.bipush 6, 2) := by decide +kernel
theorem dX8_minds_6 : decode cX8_minds 6 = .ok (.if_icmp .ne 7, 3) := by decide +kernel
theorem dX8_minds_9 : decode cX8_minds 9 = .ok (.iconst 0, 1) := by decide +kernel
theorem dX8_minds_10 : decode cX8_minds 10 = .ok (.goto 17, 3) := by decide +kernel
theorem dX8_minds_13 : decode cX8_minds 13 = .ok (.iload_n 2, 1) := by decide +kernel
theorem dX8_minds_14 : decode cX8_minds 14 = .ok (.ifCond .ne 8, 3) := by decide +kernel
theorem dX8_minds_17 : decode cX8_minds 17 = .ok (.iload_n 1, 1) := by decide +kernel
theorem dX8_minds_18 : decode cX8_minds 18 = .ok (.iconst 1, 1) := by decide +kernel
theorem dX8_minds_19 : decode cX8_minds 19 = .ok (.if_icmp .le 7, 3) := by decide +kernel
theorem dX8_minds_22 : decode cX8_minds 22 = .ok (.iconst 2, 1) := by decide +kernel
theorem dX8_minds_23 : decode cX8_minds 23 = .ok (.goto 4, 3) := by decide +kernel
theorem dX8_minds_26 : decode cX8_minds 26 = .ok (.iconst 0, 1) := by decide +kernel
theorem dX8_minds_27 : decode cX8_minds 27 = .ok (.istore_n 3, 1) := by decide +kernel
theorem dX8_minds_28 : decode cX8_minds 28 = .ok (.iload_n 2, 1) := by decide +kernel
theorem dX8_minds_29 : decode cX8_minds 29 = .ok (.ifCond .eq 9, 3) := by decide +kernel
theorem dX8_minds_32 : decode cX8_minds 32 = .ok (.iload_n 3, 1) := by decide +kernel
theorem dX8_minds_33 : decode cX8_minds 33 = .ok (.iconst 1, 1) := by decide +kernel
theorem dX8_minds_34 : decode cX8_minds 34 = .ok (.ior, 1) := by decide +kernel
theorem dX8_minds_35 : decode cX8_minds 35 = .ok (.goto 4, 3) := by decide +kernel
theorem dX8_minds_38 : decode cX8_minds 38 = .ok (.iload_n 3, 1) := by decide +kernel
theorem dX8_minds_39 : decode cX8_minds 39 = .ok (.ireturn, 1) := by decide +kernel
theorem dX8_mindedOn_0 : decode cX8_mindedOn 0 = .ok (.iconst 0, 1) := by decide +kernel
theorem dX8_mindedOn_1 : decode cX8_mindedOn 1 = .ok (.istore_n 2, 1) := by decide +kernel
theorem dX8_mindedOn_2 : decode cX8_mindedOn 2 = .ok (.iconst 0, 1) := by decide +kernel
theorem dX8_mindedOn_3 : decode cX8_mindedOn 3 = .ok (.istore_n 3, 1) := by decide +kernel
theorem dX8_mindedOn_4 : decode cX8_mindedOn 4 = .ok (.iload_n 3, 1) := by decide +kernel
theorem dX8_mindedOn_5 : decode cX8_mindedOn 5 = .ok (.iload_n 0, 1) := by decide +kernel
theorem dX8_mindedOn_6 : decode cX8_mindedOn 6 = .ok (.if_icmp .ge 20, 3) := by decide +kernel
theorem dX8_mindedOn_9 : decode cX8_mindedOn 9 = .ok (.iload_n 3, 1) := by decide +kernel
theorem dX8_mindedOn_10 : decode cX8_mindedOn 10 = .ok (.iload_n 2, 1) := by decide +kernel
theorem dX8_mindedOn_11 : decode cX8_mindedOn 11 = .ok (.iload_n 1, 1) := by decide +kernel
theorem dX8_mindedOn_12 : decode cX8_mindedOn 12 = .ok (.iload_n 3, 1) := by decide +kernel
theorem dX8_mindedOn_13 : decode cX8_mindedOn 13 = .ok (.invokestatic 102, 3) := by decide +kernel
theorem dX8_mindedOn_16 : decode cX8_mindedOn 16 = .ok (.invokestatic 105, 3) := by decide +kernel
theorem dX8_mindedOn_19 : decode cX8_mindedOn 19 = .ok (.istore_n 2, 1) := by decide +kernel
theorem dX8_mindedOn_20 : decode cX8_mindedOn 20 = .ok (.iinc 3 1, 3) := by decide +kernel
theorem dX8_mindedOn_23 : decode cX8_mindedOn 23 = .ok (.goto (-19), 3) := by decide +kernel
theorem dX8_mindedOn_26 : decode cX8_mindedOn 26 = .ok (.iload_n 2, 1) := by decide +kernel
theorem dX8_mindedOn_27 : decode cX8_mindedOn 27 = .ok (.ireturn, 1) := by decide +kernel
theorem dX8_may_0 : decode cX8_may 0 = .ok (.aload_n 0, 1) := by decide +kernel
theorem dX8_may_1 : decode cX8_may 1 = .ok (.iload_n 1, 1) := by decide +kernel
theorem dX8_may_2 : decode cX8_may 2 = .ok (.invokevirtual 109, 3) := by decide +kernel
theorem dX8_may_5 : decode cX8_may 5 = .ok (.ifCond .ne 5, 3) := by decide +kernel
theorem dX8_may_8 : decode cX8_may 8 = .ok (.iconst (-1), 1) := by decide +kernel
theorem dX8_may_9 : decode cX8_may 9 = .ok (.ireturn, 1) := by decide +kernel
theorem dX8_may_10 : decode cX8_may 10 = .ok (.iconst 0, 1) := by decide +kernel
theorem dX8_may_11 : decode cX8_may 11 = .ok (.istore_n 2, 1) := by decide +kernel
theorem dX8_may_12 : decode cX8_may 12 = .ok (.iload_n 1, 1) := by decide +kernel
theorem dX8_may_13 : decode cX8_may 13 = .ok (.iload_n 2, 1) := by decide +kernel
theorem dX8_may_14 : decode cX8_may 14 = .ok (.ishr, 1) := by decide +kernel
theorem dX8_may_15 : decode cX8_may 15 = .ok (.ifCond .eq 9, 3) := by decide +kernel
theorem dX8_may_18 : decode cX8_may 18 = .ok (.iinc 2 1, 3) := by decide +kernel
theorem dX8_may_21 : decode cX8_may 21 = .ok (.goto (-9), 3) := by decide +kernel
theorem dX8_may_24 : decode cX8_may 24 = .ok (.iconst 0, 1) := by decide +kernel
theorem dX8_may_25 : decode cX8_may 25 = .ok (.istore_n 3, 1) := by decide +kernel
theorem dX8_may_26 : decode cX8_may 26 = .ok (.iload_n 2, 1) := by decide +kernel
theorem dX8_may_27 : decode cX8_may 27 = .ok (.istore 4, 2) := by decide +kernel
theorem dX8_may_29 : decode cX8_may 29 = .ok (.iload 4, 2) := by decide +kernel
theorem dX8_may_31 : decode cX8_may 31 = .ok (.aload_n 0, 1) := by decide +kernel
theorem dX8_may_32 : decode cX8_may 32 = .ok (.getfield 7, 3) := by decide +kernel
theorem dX8_may_35 : decode cX8_may 35 = .ok (.iconst 4, 1) := by decide +kernel
theorem dX8_may_36 : decode cX8_may 36 = .ok (.iaload, 1) := by decide +kernel
theorem dX8_may_37 : decode cX8_may 37 = .ok (.if_icmp .ge 52, 3) := by decide +kernel
theorem dX8_may_40 : decode cX8_may 40 = .ok (.iload_n 3, 1) := by decide +kernel
theorem dX8_may_41 : decode cX8_may 41 = .ok (.aload_n 0, 1) := by decide +kernel
theorem dX8_may_42 : decode cX8_may 42 = .ok (.getfield 7, 3) := by decide +kernel
theorem dX8_may_45 : decode cX8_may 45 = .ok (.iconst 5, 1) := by decide +kernel
theorem dX8_may_46 : decode cX8_may 46 = .ok (.iload 4, 2) := by decide +kernel
theorem dX8_may_48 : decode cX8_may 48 = .ok (.iadd, 1) := by decide +kernel
theorem dX8_may_49 : decode cX8_may 49 = .ok (.iaload, 1) := by decide +kernel
theorem dX8_may_50 : decode cX8_may 50 = .ok (.ifCond .ne 30, 3) := by decide +kernel
theorem dX8_may_53 : decode cX8_may 53 = .ok (.aload_n 0, 1) := by decide +kernel
theorem dX8_may_54 : decode cX8_may 54 = .ok (.getfield 7, 3) := by decide +kernel
theorem dX8_may_57 : decode cX8_may 57 = .ok (.iconst 1, 1) := by decide +kernel
theorem dX8_may_58 : decode cX8_may 58 = .ok (.iaload, 1) := by decide +kernel
theorem dX8_may_59 : decode cX8_may 59 = .ok (.iload 4, 2) := by decide +kernel
theorem dX8_may_61 : decode cX8_may 61 = .ok (.iload 4, 2) := by decide +kernel
theorem dX8_may_63 : decode cX8_may 63 = .ok (.iload_n 1, 1) := by decide +kernel
theorem dX8_may_64 : decode cX8_may 64 = .ok (.invokestatic 112, 3) := by decide +kernel
theorem dX8_may_67 : decode cX8_may 67 = .ok (.invokestatic 115, 3) := by decide +kernel
theorem dX8_may_70 : decode cX8_may 70 = .ok (.ifCond .eq 10, 3) := by decide +kernel
theorem dX8_may_73 : decode cX8_may 73 = .ok (.iconst 1, 1) := by decide +kernel
theorem dX8_may_74 : decode cX8_may 74 = .ok (.iload 4, 2) := by decide +kernel
theorem dX8_may_76 : decode cX8_may 76 = .ok (.ishl, 1) := by decide +kernel
theorem dX8_may_77 : decode cX8_may 77 = .ok (.goto 4, 3) := by decide +kernel
theorem dX8_may_80 : decode cX8_may 80 = .ok (.iconst 0, 1) := by decide +kernel
theorem dX8_may_81 : decode cX8_may 81 = .ok (.ior, 1) := by decide +kernel
theorem dX8_may_82 : decode cX8_may 82 = .ok (.istore_n 3, 1) := by decide +kernel
theorem dX8_may_83 : decode cX8_may 83 = .ok (.iinc 4 1, 3) := by decide +kernel
theorem dX8_may_86 : decode cX8_may 86 = .ok (.goto (-57), 3) := by decide +kernel
theorem dX8_may_89 : decode cX8_may 89 = .ok (.iload_n 3, 1) := by decide +kernel
theorem dX8_may_90 : decode cX8_may 90 = .ok (.ireturn, 1) := by decide +kernel
theorem dX8_wrongIn_0 : decode cX8_wrongIn 0 = .ok (.aload_n 0, 1) := by decide +kernel
theorem dX8_wrongIn_1 : decode cX8_wrongIn 1 = .ok (.getfield 7, 3) := by decide +kernel
theorem dX8_wrongIn_4 : decode cX8_wrongIn 4 = .ok (.iconst 0, 1) := by decide +kernel
theorem dX8_wrongIn_5 : decode cX8_wrongIn 5 = .ok (.iaload, 1) := by decide +kernel
theorem dX8_wrongIn_6 : decode cX8_wrongIn 6 = .ok (.istore_n 2, 1) := by decide +kernel
theorem dX8_wrongIn_7 : decode cX8_wrongIn 7 = .ok (.iconst 0, 1) := by decide +kernel
theorem dX8_wrongIn_8 : decode cX8_wrongIn 8 = .ok (.istore_n 3, 1) := by decide +kernel
theorem dX8_wrongIn_9 : decode cX8_wrongIn 9 = .ok (.iload_n 3, 1) := by decide +kernel
theorem dX8_wrongIn_10 : decode cX8_wrongIn 10 = .ok (.aload_n 0, 1) := by decide +kernel
theorem dX8_wrongIn_11 : decode cX8_wrongIn 11 = .ok (.getfield 7, 3) := by decide +kernel
theorem dX8_wrongIn_14 : decode cX8_wrongIn 14 = .ok (.iconst 4, 1) := by decide +kernel
theorem dX8_wrongIn_15 : decode cX8_wrongIn 15 = .ok (.iaload, 1) := by decide +kernel
theorem dX8_wrongIn_16 : decode cX8_wrongIn 16 = .ok (.if_icmp .ge 59, 3) := by decide +kernel
theorem dX8_wrongIn_19 : decode cX8_wrongIn 19 = .ok (.iload_n 1, 1) := by decide +kernel
theorem dX8_wrongIn_20 : decode cX8_wrongIn 20 = .ok (.iload_n 3, 1) := by decide +kernel
theorem dX8_wrongIn_21 : decode cX8_wrongIn 21 = .ok (.invokestatic 102, 3) := by decide +kernel
theorem dX8_wrongIn_24 : decode cX8_wrongIn 24 = .ok (.ifCond .ne 6, 3) := by decide +kernel
theorem dX8_wrongIn_27 : decode cX8_wrongIn 27 = .ok (.goto 42, 3) := by decide +kernel
theorem dX8_wrongIn_30 : decode cX8_wrongIn 30 = .ok (.iload_n 2, 1) := by decide +kernel
theorem dX8_wrongIn_31 : decode cX8_wrongIn 31 = .ok (.ifCond .eq 33, 3) := by decide +kernel
theorem dX8_wrongIn_34 : decode cX8_wrongIn 34 = .ok (.aload_n 0, 1) := by decide +kernel
theorem dX8_wrongIn_35 : decode cX8_wrongIn 35 = .ok (.getfield 7, 3) := by decide +kernel
theorem dX8_wrongIn_38 : decode cX8_wrongIn 38 = .ok (.iconst 5, 1) := by decide +kernel
theorem dX8_wrongIn_39 : decode cX8_wrongIn 39 = .ok (.iload_n 3, 1) := by decide +kernel
theorem dX8_wrongIn_40 : decode cX8_wrongIn 40 = .ok (.iadd, 1) := by decide +kernel
theorem dX8_wrongIn_41 : decode cX8_wrongIn 41 = .ok (.iaload, 1) := by decide +kernel
theorem dX8_wrongIn_42 : decode cX8_wrongIn 42 = .ok (.iconst 1, 1) := by decide +kernel
theorem dX8_wrongIn_43 : decode cX8_wrongIn 43 = .ok (.if_icmp .eq 21, 3) := by decide +kernel
theorem dX8_wrongIn_46 : decode cX8_wrongIn 46 = .ok (.aload_n 0, 1) := by decide +kernel
theorem dX8_wrongIn_47 : decode cX8_wrongIn 47 = .ok (.getfield 7, 3) := by decide +kernel
theorem dX8_wrongIn_50 : decode cX8_wrongIn 50 = .ok (.iconst 1, 1) := by decide +kernel
theorem dX8_wrongIn_51 : decode cX8_wrongIn 51 = .ok (.iaload, 1) := by decide +kernel
theorem dX8_wrongIn_52 : decode cX8_wrongIn 52 = .ok (.iload_n 3, 1) := by decide +kernel
theorem dX8_wrongIn_53 : decode cX8_wrongIn 53 = .ok (.iload_n 3, 1) := by decide +kernel
theorem dX8_wrongIn_54 : decode cX8_wrongIn 54 = .ok (.iload_n 1, 1) := by decide +kernel
theorem dX8_wrongIn_55 : decode cX8_wrongIn 55 = .ok (.invokestatic 112, 3) := by decide +kernel
theorem dX8_wrongIn_58 : decode cX8_wrongIn 58 = .ok (.invokestatic 115, 3) := by decide +kernel
theorem dX8_wrongIn_61 : decode cX8_wrongIn 61 = .ok (.ifCond .ne 5, 3) := by decide +kernel
theorem dX8_wrongIn_64 : decode cX8_wrongIn 64 = .ok (.iload_n 3, 1) := by decide +kernel
theorem dX8_wrongIn_65 : decode cX8_wrongIn 65 = .ok (.ireturn, 1) := by decide +kernel
theorem dX8_wrongIn_66 : decode cX8_wrongIn 66 = .ok (.iinc 2 (-1), 3) := by decide +kernel
theorem dX8_wrongIn_69 : decode cX8_wrongIn 69 = .ok (.iinc 3 1, 3) := by decide +kernel
theorem dX8_wrongIn_72 : decode cX8_wrongIn 72 = .ok (.goto (-63), 3) := by decide +kernel
theorem dX8_wrongIn_75 : decode cX8_wrongIn 75 = .ok (.bipush (-4), 2) := by decide +kernel
theorem dX8_wrongIn_77 : decode cX8_wrongIn 77 = .ok (.ireturn, 1) := by decide +kernel
theorem dX8_lawful_0 : decode cX8_lawful 0 = .ok (.aload_n 0, 1) := by decide +kernel
theorem dX8_lawful_1 : decode cX8_lawful 1 = .ok (.iload_n 1, 1) := by decide +kernel
theorem dX8_lawful_2 : decode cX8_lawful 2 = .ok (.invokevirtual 109, 3) := by decide +kernel
theorem dX8_lawful_5 : decode cX8_lawful 5 = .ok (.ifCond .ne 7, 3) := by decide +kernel
theorem dX8_lawful_8 : decode cX8_lawful 8 = .ok (.iconst (-1), 1) := by decide +kernel
theorem dX8_lawful_9 : decode cX8_lawful 9 = .ok (.goto 18, 3) := by decide +kernel
theorem dX8_lawful_12 : decode cX8_lawful 12 = .ok (.aload_n 0, 1) := by decide +kernel
theorem dX8_lawful_13 : decode cX8_lawful 13 = .ok (.iload_n 1, 1) := by decide +kernel
theorem dX8_lawful_14 : decode cX8_lawful 14 = .ok (.invokevirtual 119, 3) := by decide +kernel
theorem dX8_lawful_17 : decode cX8_lawful 17 = .ok (.bipush (-4), 2) := by decide +kernel
theorem dX8_lawful_19 : decode cX8_lawful 19 = .ok (.if_icmp .ne 7, 3) := by decide +kernel
theorem dX8_lawful_22 : decode cX8_lawful 22 = .ok (.iconst 1, 1) := by decide +kernel
theorem dX8_lawful_23 : decode cX8_lawful 23 = .ok (.goto 4, 3) := by decide +kernel
theorem dX8_lawful_26 : decode cX8_lawful 26 = .ok (.iconst 0, 1) := by decide +kernel
theorem dX8_lawful_27 : decode cX8_lawful 27 = .ok (.ireturn, 1) := by decide +kernel
theorem dX8_wrong_0 : decode cX8_wrong 0 = .ok (.aload_n 0, 1) := by decide +kernel
theorem dX8_wrong_1 : decode cX8_wrong 1 = .ok (.iload_n 1, 1) := by decide +kernel
theorem dX8_wrong_2 : decode cX8_wrong 2 = .ok (.invokevirtual 109, 3) := by decide +kernel
theorem dX8_wrong_5 : decode cX8_wrong 5 = .ok (.ifCond .eq 11, 3) := by decide +kernel
theorem dX8_wrong_8 : decode cX8_wrong 8 = .ok (.aload_n 0, 1) := by decide +kernel
theorem dX8_wrong_9 : decode cX8_wrong 9 = .ok (.iload_n 1, 1) := by decide +kernel
theorem dX8_wrong_10 : decode cX8_wrong 10 = .ok (.invokevirtual 119, 3) := by decide +kernel
theorem dX8_wrong_13 : decode cX8_wrong 13 = .ok (.goto 4, 3) := by decide +kernel
theorem dX8_wrong_16 : decode cX8_wrong 16 = .ok (.iconst (-1), 1) := by decide +kernel
theorem dX8_wrong_17 : decode cX8_wrong 17 = .ok (.ireturn, 1) := by decide +kernel
theorem dX8_trusts_0 : decode cX8_trusts 0 = .ok (.bipush 8, 2) := by decide +kernel
theorem dX8_trusts_2 : decode cX8_trusts 2 = .ok (.iload_n 2, 1) := by decide +kernel
theorem dX8_trusts_3 : decode cX8_trusts 3 = .ok (.imul, 1) := by decide +kernel
theorem dX8_trusts_4 : decode cX8_trusts 4 = .ok (.aload_n 0, 1) := by decide +kernel
theorem dX8_trusts_5 : decode cX8_trusts 5 = .ok (.getfield 7, 3) := by decide +kernel
theorem dX8_trusts_8 : decode cX8_trusts 8 = .ok (.iconst 2, 1) := by decide +kernel
theorem dX8_trusts_9 : decode cX8_trusts 9 = .ok (.iaload, 1) := by decide +kernel
theorem dX8_trusts_10 : decode cX8_trusts 10 = .ok (.aload_n 0, 1) := by decide +kernel
theorem dX8_trusts_11 : decode cX8_trusts 11 = .ok (.getfield 7, 3) := by decide +kernel
theorem dX8_trusts_14 : decode cX8_trusts 14 = .ok (.iconst 4, 1) := by decide +kernel
theorem dX8_trusts_15 : decode cX8_trusts 15 = .ok (.iaload, 1) := by decide +kernel
theorem dX8_trusts_16 : decode cX8_trusts 16 = .ok (.iload_n 1, 1) := by decide +kernel
theorem dX8_trusts_17 : decode cX8_trusts 17 = .ok (.isub, 1) := by decide +kernel
theorem dX8_trusts_18 : decode cX8_trusts 18 = .ok (.imul, 1) := by decide +kernel
theorem dX8_trusts_19 : decode cX8_trusts 19 = .ok (.if_icmp .gt 7, 3) := by decide +kernel
theorem dX8_trusts_22 : decode cX8_trusts 22 = .ok (.iconst 1, 1) := by decide +kernel
theorem dX8_trusts_23 : decode cX8_trusts 23 = .ok (.goto 4, 3) := by decide +kernel
theorem dX8_trusts_26 : decode cX8_trusts 26 = .ok (.iconst 0, 1) := by decide +kernel
theorem dX8_trusts_27 : decode cX8_trusts 27 = .ok (.ireturn, 1) := by decide +kernel
theorem dX8_brings_0 : decode cX8_brings 0 = .ok (.aload_n 0, 1) := by decide +kernel
theorem dX8_brings_1 : decode cX8_brings 1 = .ok (.getfield 7, 3) := by decide +kernel
theorem dX8_brings_4 : decode cX8_brings 4 = .ok (.iconst 5, 1) := by decide +kernel
theorem dX8_brings_5 : decode cX8_brings 5 = .ok (.iload_n 1, 1) := by decide +kernel
theorem dX8_brings_6 : decode cX8_brings 6 = .ok (.iadd, 1) := by decide +kernel
theorem dX8_brings_7 : decode cX8_brings 7 = .ok (.iaload, 1) := by decide +kernel
theorem dX8_brings_8 : decode cX8_brings 8 = .ok (.iconst 1, 1) := by decide +kernel
theorem dX8_brings_9 : decode cX8_brings 9 = .ok (.if_icmp .ne 15, 3) := by decide +kernel
theorem dX8_brings_12 : decode cX8_brings 12 = .ok (.aload_n 0, 1) := by decide +kernel
theorem dX8_brings_13 : decode cX8_brings 13 = .ok (.getfield 7, 3) := by decide +kernel
theorem dX8_brings_16 : decode cX8_brings 16 = .ok (.bipush 33, 2) := by decide +kernel
theorem dX8_brings_18 : decode cX8_brings 18 = .ok (.iload_n 1, 1) := by decide +kernel
theorem dX8_brings_19 : decode cX8_brings 19 = .ok (.iadd, 1) := by decide +kernel
theorem dX8_brings_20 : decode cX8_brings 20 = .ok (.iaload, 1) := by decide +kernel
theorem dX8_brings_21 : decode cX8_brings 21 = .ok (.goto 21, 3) := by decide +kernel
theorem dX8_brings_24 : decode cX8_brings 24 = .ok (.iload_n 3, 1) := by decide +kernel
theorem dX8_brings_25 : decode cX8_brings 25 = .ok (.ifCond .eq 16, 3) := by decide +kernel
theorem dX8_brings_28 : decode cX8_brings 28 = .ok (.aload_n 0, 1) := by decide +kernel
theorem dX8_brings_29 : decode cX8_brings 29 = .ok (.getfield 7, 3) := by decide +kernel
theorem dX8_brings_32 : decode cX8_brings 32 = .ok (.bipush 61, 2) := by decide +kernel
theorem dX8_brings_34 : decode cX8_brings 34 = .ok (.iload_n 1, 1) := by decide +kernel
theorem dX8_brings_35 : decode cX8_brings 35 = .ok (.iadd, 1) := by decide +kernel
theorem dX8_brings_36 : decode cX8_brings 36 = .ok (.iaload, 1) := by decide +kernel
theorem dX8_brings_37 : decode cX8_brings 37 = .ok (.ineg, 1) := by decide +kernel
theorem dX8_brings_38 : decode cX8_brings 38 = .ok (.goto 4, 3) := by decide +kernel
theorem dX8_brings_41 : decode cX8_brings 41 = .ok (.iconst 0, 1) := by decide +kernel
theorem dX8_brings_42 : decode cX8_brings 42 = .ok (.istore 4, 2) := by decide +kernel
theorem dX8_brings_44 : decode cX8_brings 44 = .ok (.aload_n 0, 1) := by decide +kernel
theorem dX8_brings_45 : decode cX8_brings 45 = .ok (.iload_n 1, 1) := by decide +kernel
theorem dX8_brings_46 : decode cX8_brings 46 = .ok (.iload_n 2, 1) := by decide +kernel
theorem dX8_brings_47 : decode cX8_brings 47 = .ok (.invokevirtual 122, 3) := by decide +kernel
theorem dX8_brings_50 : decode cX8_brings 50 = .ok (.ifCond .eq 8, 3) := by decide +kernel
theorem dX8_brings_53 : decode cX8_brings 53 = .ok (.iload 4, 2) := by decide +kernel
theorem dX8_brings_55 : decode cX8_brings 55 = .ok (.goto 4, 3) := by decide +kernel
theorem dX8_brings_58 : decode cX8_brings 58 = .ok (.iconst 0, 1) := by decide +kernel
theorem dX8_brings_59 : decode cX8_brings 59 = .ok (.ireturn, 1) := by decide +kernel
theorem dX8_gainOf_0 : decode cX8_gainOf 0 = .ok (.aload_n 0, 1) := by decide +kernel
theorem dX8_gainOf_1 : decode cX8_gainOf 1 = .ok (.getfield 7, 3) := by decide +kernel
theorem dX8_gainOf_4 : decode cX8_gainOf 4 = .ok (.iconst 0, 1) := by decide +kernel
theorem dX8_gainOf_5 : decode cX8_gainOf 5 = .ok (.iaload, 1) := by decide +kernel
theorem dX8_gainOf_6 : decode cX8_gainOf 6 = .ok (.istore_n 2, 1) := by decide +kernel
theorem dX8_gainOf_7 : decode cX8_gainOf 7 = .ok (.iconst 0, 1) := by decide +kernel
theorem dX8_gainOf_8 : decode cX8_gainOf 8 = .ok (.istore_n 3, 1) := by decide +kernel
theorem dX8_gainOf_9 : decode cX8_gainOf 9 = .ok (.iconst 0, 1) := by decide +kernel
theorem dX8_gainOf_10 : decode cX8_gainOf 10 = .ok (.istore 4, 2) := by decide +kernel
theorem dX8_gainOf_12 : decode cX8_gainOf 12 = .ok (.iload 4, 2) := by decide +kernel
theorem dX8_gainOf_14 : decode cX8_gainOf 14 = .ok (.aload_n 0, 1) := by decide +kernel
theorem dX8_gainOf_15 : decode cX8_gainOf 15 = .ok (.getfield 7, 3) := by decide +kernel
theorem dX8_gainOf_18 : decode cX8_gainOf 18 = .ok (.iconst 4, 1) := by decide +kernel
theorem dX8_gainOf_19 : decode cX8_gainOf 19 = .ok (.iaload, 1) := by decide +kernel
theorem dX8_gainOf_20 : decode cX8_gainOf 20 = .ok (.if_icmp .ge 42, 3) := by decide +kernel
theorem dX8_gainOf_23 : decode cX8_gainOf 23 = .ok (.iload_n 3, 1) := by decide +kernel
theorem dX8_gainOf_24 : decode cX8_gainOf 24 = .ok (.aload_n 0, 1) := by decide +kernel
theorem dX8_gainOf_25 : decode cX8_gainOf 25 = .ok (.iload 4, 2) := by decide +kernel
theorem dX8_gainOf_27 : decode cX8_gainOf 27 = .ok (.iload_n 2, 1) := by decide +kernel
theorem dX8_gainOf_28 : decode cX8_gainOf 28 = .ok (.iload_n 1, 1) := by decide +kernel
theorem dX8_gainOf_29 : decode cX8_gainOf 29 = .ok (.iload 4, 2) := by decide +kernel
theorem dX8_gainOf_31 : decode cX8_gainOf 31 = .ok (.invokestatic 102, 3) := by decide +kernel
theorem dX8_gainOf_34 : decode cX8_gainOf 34 = .ok (.invokevirtual 125, 3) := by decide +kernel
theorem dX8_gainOf_37 : decode cX8_gainOf 37 = .ok (.iadd, 1) := by decide +kernel
theorem dX8_gainOf_38 : decode cX8_gainOf 38 = .ok (.istore_n 3, 1) := by decide +kernel
theorem dX8_gainOf_39 : decode cX8_gainOf 39 = .ok (.iload_n 2, 1) := by decide +kernel
theorem dX8_gainOf_40 : decode cX8_gainOf 40 = .ok (.iload_n 1, 1) := by decide +kernel
theorem dX8_gainOf_41 : decode cX8_gainOf 41 = .ok (.iload 4, 2) := by decide +kernel
theorem dX8_gainOf_43 : decode cX8_gainOf 43 = .ok (.invokestatic 102, 3) := by decide +kernel
theorem dX8_gainOf_46 : decode cX8_gainOf 46 = .ok (.ifCond .eq 7, 3) := by decide +kernel
theorem dX8_gainOf_49 : decode cX8_gainOf 49 = .ok (.iconst 1, 1) := by decide +kernel
theorem dX8_gainOf_50 : decode cX8_gainOf 50 = .ok (.goto 4, 3) := by decide +kernel
theorem dX8_gainOf_53 : decode cX8_gainOf 53 = .ok (.iconst 0, 1) := by decide +kernel
theorem dX8_gainOf_54 : decode cX8_gainOf 54 = .ok (.isub, 1) := by decide +kernel
theorem dX8_gainOf_55 : decode cX8_gainOf 55 = .ok (.istore_n 2, 1) := by decide +kernel
theorem dX8_gainOf_56 : decode cX8_gainOf 56 = .ok (.iinc 4 1, 3) := by decide +kernel
theorem dX8_gainOf_59 : decode cX8_gainOf 59 = .ok (.goto (-47), 3) := by decide +kernel
theorem dX8_gainOf_62 : decode cX8_gainOf 62 = .ok (.iload_n 3, 1) := by decide +kernel
theorem dX8_gainOf_63 : decode cX8_gainOf 63 = .ok (.ireturn, 1) := by decide +kernel
theorem dX8_gain_0 : decode cX8_gain 0 = .ok (.aload_n 0, 1) := by decide +kernel
theorem dX8_gain_1 : decode cX8_gain 1 = .ok (.iload_n 1, 1) := by decide +kernel
theorem dX8_gain_2 : decode cX8_gain 2 = .ok (.invokevirtual 109, 3) := by decide +kernel
theorem dX8_gain_5 : decode cX8_gain 5 = .ok (.ifCond .ne 8, 3) := by decide +kernel
theorem dX8_gain_8 : decode cX8_gain 8 = .ok (.ldc 128, 2) := by decide +kernel
theorem dX8_gain_10 : decode cX8_gain 10 = .ok (.goto 23, 3) := by decide +kernel
theorem dX8_gain_13 : decode cX8_gain 13 = .ok (.aload_n 0, 1) := by decide +kernel
theorem dX8_gain_14 : decode cX8_gain 14 = .ok (.iload_n 1, 1) := by decide +kernel
theorem dX8_gain_15 : decode cX8_gain 15 = .ok (.invokevirtual 119, 3) := by decide +kernel
theorem dX8_gain_18 : decode cX8_gain 18 = .ok (.bipush (-4), 2) := by decide +kernel
theorem dX8_gain_20 : decode cX8_gain 20 = .ok (.if_icmp .eq 8, 3) := by decide +kernel
theorem dX8_gain_23 : decode cX8_gain 23 = .ok (.ldc 129, 2) := by decide +kernel
theorem dX8_gain_25 : decode cX8_gain 25 = .ok (.goto 8, 3) := by decide +kernel
theorem dX8_gain_28 : decode cX8_gain 28 = .ok (.aload_n 0, 1) := by decide +kernel
theorem dX8_gain_29 : decode cX8_gain 29 = .ok (.iload_n 1, 1) := by decide +kernel
theorem dX8_gain_30 : decode cX8_gain 30 = .ok (.invokevirtual 130, 3) := by decide +kernel
theorem dX8_gain_33 : decode cX8_gain 33 = .ok (.ireturn, 1) := by decide +kernel
theorem dX8_trusted_0 : decode cX8_trusted 0 = .ok (.aload_n 0, 1) := by decide +kernel
theorem dX8_trusted_1 : decode cX8_trusted 1 = .ok (.iload_n 1, 1) := by decide +kernel
theorem dX8_trusted_2 : decode cX8_trusted 2 = .ok (.invokevirtual 109, 3) := by decide +kernel
theorem dX8_trusted_5 : decode cX8_trusted 5 = .ok (.ifCond .ne 5, 3) := by decide +kernel
theorem dX8_trusted_8 : decode cX8_trusted 8 = .ok (.iconst (-1), 1) := by decide +kernel
theorem dX8_trusted_9 : decode cX8_trusted 9 = .ok (.ireturn, 1) := by decide +kernel
theorem dX8_trusted_10 : decode cX8_trusted 10 = .ok (.aload_n 0, 1) := by decide +kernel
theorem dX8_trusted_11 : decode cX8_trusted 11 = .ok (.iload_n 1, 1) := by decide +kernel
theorem dX8_trusted_12 : decode cX8_trusted 12 = .ok (.invokevirtual 119, 3) := by decide +kernel
theorem dX8_trusted_15 : decode cX8_trusted 15 = .ok (.bipush (-4), 2) := by decide +kernel
theorem dX8_trusted_17 : decode cX8_trusted 17 = .ok (.if_icmp .eq 6, 3) := by decide +kernel
theorem dX8_trusted_20 : decode cX8_trusted 20 = .ok (.bipush (-2), 2) := by decide +kernel
theorem dX8_trusted_22 : decode cX8_trusted 22 = .ok (.ireturn, 1) := by decide +kernel
theorem dX8_trusted_23 : decode cX8_trusted 23 = .ok (.aload_n 0, 1) := by decide +kernel
theorem dX8_trusted_24 : decode cX8_trusted 24 = .ok (.getfield 7, 3) := by decide +kernel
theorem dX8_trusted_27 : decode cX8_trusted 27 = .ok (.iconst 0, 1) := by decide +kernel
theorem dX8_trusted_28 : decode cX8_trusted 28 = .ok (.iaload, 1) := by decide +kernel
theorem dX8_trusted_29 : decode cX8_trusted 29 = .ok (.istore_n 2, 1) := by decide +kernel
theorem dX8_trusted_30 : decode cX8_trusted 30 = .ok (.iconst 0, 1) := by decide +kernel
theorem dX8_trusted_31 : decode cX8_trusted 31 = .ok (.istore_n 3, 1) := by decide +kernel
theorem dX8_trusted_32 : decode cX8_trusted 32 = .ok (.iconst 0, 1) := by decide +kernel
theorem dX8_trusted_33 : decode cX8_trusted 33 = .ok (.istore 4, 2) := by decide +kernel
theorem dX8_trusted_35 : decode cX8_trusted 35 = .ok (.iload 4, 2) := by decide +kernel
theorem dX8_trusted_37 : decode cX8_trusted 37 = .ok (.aload_n 0, 1) := by decide +kernel
theorem dX8_trusted_38 : decode cX8_trusted 38 = .ok (.getfield 7, 3) := by decide +kernel
theorem dX8_trusted_41 : decode cX8_trusted 41 = .ok (.iconst 4, 1) := by decide +kernel
theorem dX8_trusted_42 : decode cX8_trusted 42 = .ok (.iaload, 1) := by decide +kernel
theorem dX8_trusted_43 : decode cX8_trusted 43 = .ok (.if_icmp .ge 81, 3) := by decide +kernel
theorem dX8_trusted_46 : decode cX8_trusted 46 = .ok (.aload_n 0, 1) := by decide +kernel
theorem dX8_trusted_47 : decode cX8_trusted 47 = .ok (.getfield 7, 3) := by decide +kernel
theorem dX8_trusted_50 : decode cX8_trusted 50 = .ok (.iconst 5, 1) := by decide +kernel
theorem dX8_trusted_51 : decode cX8_trusted 51 = .ok (.iload 4, 2) := by decide +kernel
theorem dX8_trusted_53 : decode cX8_trusted 53 = .ok (.iadd, 1) := by decide +kernel
theorem dX8_trusted_54 : decode cX8_trusted 54 = .ok (.iaload, 1) := by decide +kernel
theorem dX8_trusted_55 : decode cX8_trusted 55 = .ok (.iconst 1, 1) := by decide +kernel
theorem dX8_trusted_56 : decode cX8_trusted 56 = .ok (.if_icmp .eq 12, 3) := by decide +kernel
theorem dX8_trusted_59 : decode cX8_trusted 59 = .ok (.iload_n 1, 1) := by decide +kernel
theorem dX8_trusted_60 : decode cX8_trusted 60 = .ok (.iload 4, 2) := by decide +kernel
theorem dX8_trusted_62 : decode cX8_trusted 62 = .ok (.invokestatic 102, 3) := by decide +kernel
theorem dX8_trusted_65 : decode cX8_trusted 65 = .ok (.ifCond .eq 7, 3) := by decide +kernel
theorem dX8_trusted_68 : decode cX8_trusted 68 = .ok (.iconst 1, 1) := by decide +kernel
theorem dX8_trusted_69 : decode cX8_trusted 69 = .ok (.goto 4, 3) := by decide +kernel
theorem dX8_trusted_72 : decode cX8_trusted 72 = .ok (.iconst 0, 1) := by decide +kernel
theorem dX8_trusted_73 : decode cX8_trusted 73 = .ok (.istore 5, 2) := by decide +kernel
theorem dX8_trusted_75 : decode cX8_trusted 75 = .ok (.iload_n 3, 1) := by decide +kernel
theorem dX8_trusted_76 : decode cX8_trusted 76 = .ok (.iload 5, 2) := by decide +kernel
theorem dX8_trusted_78 : decode cX8_trusted 78 = .ok (.ifCond .eq 20, 3) := by decide +kernel
theorem dX8_trusted_81 : decode cX8_trusted 81 = .ok (.aload_n 0, 1) := by decide +kernel
theorem dX8_trusted_82 : decode cX8_trusted 82 = .ok (.iload 4, 2) := by decide +kernel
theorem dX8_trusted_84 : decode cX8_trusted 84 = .ok (.iload_n 2, 1) := by decide +kernel
theorem dX8_trusted_85 : decode cX8_trusted 85 = .ok (.invokevirtual 122, 3) := by decide +kernel
theorem dX8_trusted_88 : decode cX8_trusted 88 = .ok (.ifCond .eq 10, 3) := by decide +kernel
theorem dX8_trusted_91 : decode cX8_trusted 91 = .ok (.iconst 1, 1) := by decide +kernel
theorem dX8_trusted_92 : decode cX8_trusted 92 = .ok (.iload 4, 2) := by decide +kernel
theorem dX8_trusted_94 : decode cX8_trusted 94 = .ok (.ishl, 1) := by decide +kernel
theorem dX8_trusted_95 : decode cX8_trusted 95 = .ok (.goto 4, 3) := by decide +kernel
theorem dX8_trusted_98 : decode cX8_trusted 98 = .ok (.iconst 0, 1) := by decide +kernel
theorem dX8_trusted_99 : decode cX8_trusted 99 = .ok (.ior, 1) := by decide +kernel
theorem dX8_trusted_100 : decode cX8_trusted 100 = .ok (.istore_n 3, 1) := by decide +kernel
theorem dX8_trusted_101 : decode cX8_trusted 101 = .ok (.iload_n 2, 1) := by decide +kernel
theorem dX8_trusted_102 : decode cX8_trusted 102 = .ok (.iload_n 1, 1) := by decide +kernel
theorem dX8_trusted_103 : decode cX8_trusted 103 = .ok (.iload 4, 2) := by decide +kernel
theorem dX8_trusted_105 : decode cX8_trusted 105 = .ok (.invokestatic 102, 3) := by decide +kernel
theorem dX8_trusted_108 : decode cX8_trusted 108 = .ok (.ifCond .eq 7, 3) := by decide +kernel
theorem dX8_trusted_111 : decode cX8_trusted 111 = .ok (.iconst 1, 1) := by decide +kernel
theorem dX8_trusted_112 : decode cX8_trusted 112 = .ok (.goto 4, 3) := by decide +kernel
theorem dX8_trusted_115 : decode cX8_trusted 115 = .ok (.iconst 0, 1) := by decide +kernel
theorem dX8_trusted_116 : decode cX8_trusted 116 = .ok (.isub, 1) := by decide +kernel
theorem dX8_trusted_117 : decode cX8_trusted 117 = .ok (.istore_n 2, 1) := by decide +kernel
theorem dX8_trusted_118 : decode cX8_trusted 118 = .ok (.iinc 4 1, 3) := by decide +kernel
theorem dX8_trusted_121 : decode cX8_trusted 121 = .ok (.goto (-86), 3) := by decide +kernel
theorem dX8_trusted_124 : decode cX8_trusted 124 = .ok (.iload_n 3, 1) := by decide +kernel
theorem dX8_trusted_125 : decode cX8_trusted 125 = .ok (.ireturn, 1) := by decide +kernel
theorem dX8_place_0 : decode cX8_place 0 = .ok (.bipush 40, 2) := by decide +kernel
theorem dX8_place_2 : decode cX8_place 2 = .ok (.iload_n 1, 1) := by decide +kernel
theorem dX8_place_3 : decode cX8_place 3 = .ok (.imul, 1) := by decide +kernel
theorem dX8_place_4 : decode cX8_place 4 = .ok (.iconst 4, 1) := by decide +kernel
theorem dX8_place_5 : decode cX8_place 5 = .ok (.iload_n 2, 1) := by decide +kernel
theorem dX8_place_6 : decode cX8_place 6 = .ok (.imul, 1) := by decide +kernel
theorem dX8_place_7 : decode cX8_place 7 = .ok (.iadd, 1) := by decide +kernel
theorem dX8_place_8 : decode cX8_place 8 = .ok (.iload_n 3, 1) := by decide +kernel
theorem dX8_place_9 : decode cX8_place 9 = .ok (.iadd, 1) := by decide +kernel
theorem dX8_place_10 : decode cX8_place 10 = .ok (.ireturn, 1) := by decide +kernel
theorem dX8_from_0 : decode cX8_from 0 = .ok (.aload_n 0, 1) := by decide +kernel
theorem dX8_from_1 : decode cX8_from 1 = .ok (.iload_n 1, 1) := by decide +kernel
theorem dX8_from_2 : decode cX8_from 2 = .ok (.iload_n 2, 1) := by decide +kernel
theorem dX8_from_3 : decode cX8_from 3 = .ok (.iload 4, 2) := by decide +kernel
theorem dX8_from_5 : decode cX8_from 5 = .ok (.invokevirtual 125, 3) := by decide +kernel
theorem dX8_from_8 : decode cX8_from 8 = .ok (.aload_n 0, 1) := by decide +kernel
theorem dX8_from_9 : decode cX8_from 9 = .ok (.getfield 31, 3) := by decide +kernel
theorem dX8_from_12 : decode cX8_from 12 = .ok (.aload_n 0, 1) := by decide +kernel
theorem dX8_from_13 : decode cX8_from 13 = .ok (.iload_n 1, 1) := by decide +kernel
theorem dX8_from_14 : decode cX8_from 14 = .ok (.iconst 1, 1) := by decide +kernel
theorem dX8_from_15 : decode cX8_from 15 = .ok (.iadd, 1) := by decide +kernel
theorem dX8_from_16 : decode cX8_from 16 = .ok (.iload 4, 2) := by decide +kernel
theorem dX8_from_18 : decode cX8_from 18 = .ok (.ifCond .eq 9, 3) := by decide +kernel
theorem dX8_from_21 : decode cX8_from 21 = .ok (.iload_n 2, 1) := by decide +kernel
theorem dX8_from_22 : decode cX8_from 22 = .ok (.iconst 1, 1) := by decide +kernel
theorem dX8_from_23 : decode cX8_from 23 = .ok (.isub, 1) := by decide +kernel
theorem dX8_from_24 : decode cX8_from 24 = .ok (.goto 4, 3) := by decide +kernel
theorem dX8_from_27 : decode cX8_from 27 = .ok (.iload_n 2, 1) := by decide +kernel
theorem dX8_from_28 : decode cX8_from 28 = .ok (.iload_n 1, 1) := by decide +kernel
theorem dX8_from_29 : decode cX8_from 29 = .ok (.iload_n 3, 1) := by decide +kernel
theorem dX8_from_30 : decode cX8_from 30 = .ok (.iload 4, 2) := by decide +kernel
theorem dX8_from_32 : decode cX8_from 32 = .ok (.invokestatic 105, 3) := by decide +kernel
theorem dX8_from_35 : decode cX8_from 35 = .ok (.invokevirtual 133, 3) := by decide +kernel
theorem dX8_from_38 : decode cX8_from 38 = .ok (.iaload, 1) := by decide +kernel
theorem dX8_from_39 : decode cX8_from 39 = .ok (.iadd, 1) := by decide +kernel
theorem dX8_from_40 : decode cX8_from 40 = .ok (.ireturn, 1) := by decide +kernel
theorem dX8_mayLie_0 : decode cX8_mayLie 0 = .ok (.iload_n 2, 1) := by decide +kernel
theorem dX8_mayLie_1 : decode cX8_mayLie 1 = .ok (.ifCond .le 32, 3) := by decide +kernel
theorem dX8_mayLie_4 : decode cX8_mayLie 4 = .ok (.aload_n 0, 1) := by decide +kernel
theorem dX8_mayLie_5 : decode cX8_mayLie 5 = .ok (.getfield 7, 3) := by decide +kernel
theorem dX8_mayLie_8 : decode cX8_mayLie 8 = .ok (.iconst 5, 1) := by decide +kernel
theorem dX8_mayLie_9 : decode cX8_mayLie 9 = .ok (.iload_n 1, 1) := by decide +kernel
theorem dX8_mayLie_10 : decode cX8_mayLie 10 = .ok (.iadd, 1) := by decide +kernel
theorem dX8_mayLie_11 : decode cX8_mayLie 11 = .ok (.iaload, 1) := by decide +kernel
theorem dX8_mayLie_12 : decode cX8_mayLie 12 = .ok (.ifCond .ne 21, 3) := by decide +kernel
theorem dX8_mayLie_15 : decode cX8_mayLie 15 = .ok (.aload_n 0, 1) := by decide +kernel
theorem dX8_mayLie_16 : decode cX8_mayLie 16 = .ok (.getfield 7, 3) := by decide +kernel
theorem dX8_mayLie_19 : decode cX8_mayLie 19 = .ok (.iconst 1, 1) := by decide +kernel
theorem dX8_mayLie_20 : decode cX8_mayLie 20 = .ok (.iaload, 1) := by decide +kernel
theorem dX8_mayLie_21 : decode cX8_mayLie 21 = .ok (.iload_n 1, 1) := by decide +kernel
theorem dX8_mayLie_22 : decode cX8_mayLie 22 = .ok (.iload_n 3, 1) := by decide +kernel
theorem dX8_mayLie_23 : decode cX8_mayLie 23 = .ok (.invokestatic 115, 3) := by decide +kernel
theorem dX8_mayLie_26 : decode cX8_mayLie 26 = .ok (.ifCond .eq 7, 3) := by decide +kernel
theorem dX8_mayLie_29 : decode cX8_mayLie 29 = .ok (.iconst 1, 1) := by decide +kernel
theorem dX8_mayLie_30 : decode cX8_mayLie 30 = .ok (.goto 4, 3) := by decide +kernel
theorem dX8_mayLie_33 : decode cX8_mayLie 33 = .ok (.iconst 0, 1) := by decide +kernel
theorem dX8_mayLie_34 : decode cX8_mayLie 34 = .ok (.ireturn, 1) := by decide +kernel
theorem dX8_harmNow_0 : decode cX8_harmNow 0 = .ok (.iconst 0, 1) := by decide +kernel
theorem dX8_harmNow_1 : decode cX8_harmNow 1 = .ok (.istore_n 1, 1) := by decide +kernel
theorem dX8_harmNow_2 : decode cX8_harmNow 2 = .ok (.iload_n 1, 1) := by decide +kernel
theorem dX8_harmNow_3 : decode cX8_harmNow 3 = .ok (.bipush 40, 2) := by decide +kernel
theorem dX8_harmNow_5 : decode cX8_harmNow 5 = .ok (.if_icmp .ge 26, 3) := by decide +kernel
theorem dX8_harmNow_8 : decode cX8_harmNow 8 = .ok (.aload_n 0, 1) := by decide +kernel
theorem dX8_harmNow_9 : decode cX8_harmNow 9 = .ok (.getfield 31, 3) := by decide +kernel
theorem dX8_harmNow_12 : decode cX8_harmNow 12 = .ok (.bipush 40, 2) := by decide +kernel
theorem dX8_harmNow_14 : decode cX8_harmNow 14 = .ok (.aload_n 0, 1) := by decide +kernel
theorem dX8_harmNow_15 : decode cX8_harmNow 15 = .ok (.getfield 7, 3) := by decide +kernel
theorem dX8_harmNow_18 : decode cX8_harmNow 18 = .ok (.iconst 4, 1) := by decide +kernel
theorem dX8_harmNow_19 : decode cX8_harmNow 19 = .ok (.iaload, 1) := by decide +kernel
theorem dX8_harmNow_20 : decode cX8_harmNow 20 = .ok (.imul, 1) := by decide +kernel
theorem dX8_harmNow_21 : decode cX8_harmNow 21 = .ok (.iload_n 1, 1) := by decide +kernel
theorem dX8_harmNow_22 : decode cX8_harmNow 22 = .ok (.iadd, 1) := by decide +kernel
theorem dX8_harmNow_23 : decode cX8_harmNow 23 = .ok (.iconst 0, 1) := by decide +kernel
theorem dX8_harmNow_24 : decode cX8_harmNow 24 = .ok (.iastore, 1) := by decide +kernel
theorem dX8_harmNow_25 : decode cX8_harmNow 25 = .ok (.iinc 1 1, 3) := by decide +kernel
theorem dX8_harmNow_28 : decode cX8_harmNow 28 = .ok (.goto (-26), 3) := by decide +kernel
theorem dX8_harmNow_31 : decode cX8_harmNow 31 = .ok (.aload_n 0, 1) := by decide +kernel
theorem dX8_harmNow_32 : decode cX8_harmNow 32 = .ok (.getfield 7, 3) := by decide +kernel
theorem dX8_harmNow_35 : decode cX8_harmNow 35 = .ok (.iconst 4, 1) := by decide +kernel
theorem dX8_harmNow_36 : decode cX8_harmNow 36 = .ok (.iaload, 1) := by decide +kernel
theorem dX8_harmNow_37 : decode cX8_harmNow 37 = .ok (.iconst 1, 1) := by decide +kernel
theorem dX8_harmNow_38 : decode cX8_harmNow 38 = .ok (.isub, 1) := by decide +kernel
theorem dX8_harmNow_39 : decode cX8_harmNow 39 = .ok (.istore_n 1, 1) := by decide +kernel
theorem dX8_harmNow_40 : decode cX8_harmNow 40 = .ok (.iload_n 1, 1) := by decide +kernel
theorem dX8_harmNow_41 : decode cX8_harmNow 41 = .ok (.ifCond .lt 91, 3) := by decide +kernel
theorem dX8_harmNow_44 : decode cX8_harmNow 44 = .ok (.iconst 0, 1) := by decide +kernel
theorem dX8_harmNow_45 : decode cX8_harmNow 45 = .ok (.istore_n 2, 1) := by decide +kernel
theorem dX8_harmNow_46 : decode cX8_harmNow 46 = .ok (.iload_n 2, 1) := by decide +kernel
theorem dX8_harmNow_47 : decode cX8_harmNow 47 = .ok (.bipush 40, 2) := by decide +kernel
theorem dX8_harmNow_49 : decode cX8_harmNow 49 = .ok (.if_icmp .ge 77, 3) := by decide +kernel
theorem dX8_harmNow_52 : decode cX8_harmNow 52 = .ok (.aload_n 0, 1) := by decide +kernel
theorem dX8_harmNow_53 : decode cX8_harmNow 53 = .ok (.iload_n 1, 1) := by decide +kernel
theorem dX8_harmNow_54 : decode cX8_harmNow 54 = .ok (.iload_n 2, 1) := by decide +kernel
theorem dX8_harmNow_55 : decode cX8_harmNow 55 = .ok (.iconst 4, 1) := by decide +kernel
theorem dX8_harmNow_56 : decode cX8_harmNow 56 = .ok (.idiv, 1) := by decide +kernel
theorem dX8_harmNow_57 : decode cX8_harmNow 57 = .ok (.iload_n 2, 1) := by decide +kernel
theorem dX8_harmNow_58 : decode cX8_harmNow 58 = .ok (.iconst 4, 1) := by decide +kernel
theorem dX8_harmNow_59 : decode cX8_harmNow 59 = .ok (.irem, 1) := by decide +kernel
theorem dX8_harmNow_60 : decode cX8_harmNow 60 = .ok (.iconst 0, 1) := by decide +kernel
theorem dX8_harmNow_61 : decode cX8_harmNow 61 = .ok (.invokevirtual 137, 3) := by decide +kernel
theorem dX8_harmNow_64 : decode cX8_harmNow 64 = .ok (.istore_n 3, 1) := by decide +kernel
theorem dX8_harmNow_65 : decode cX8_harmNow 65 = .ok (.aload_n 0, 1) := by decide +kernel
theorem dX8_harmNow_66 : decode cX8_harmNow 66 = .ok (.iload_n 1, 1) := by decide +kernel
theorem dX8_harmNow_67 : decode cX8_harmNow 67 = .ok (.iload_n 2, 1) := by decide +kernel
theorem dX8_harmNow_68 : decode cX8_harmNow 68 = .ok (.iconst 4, 1) := by decide +kernel
theorem dX8_harmNow_69 : decode cX8_harmNow 69 = .ok (.idiv, 1) := by decide +kernel
theorem dX8_harmNow_70 : decode cX8_harmNow 70 = .ok (.iload_n 2, 1) := by decide +kernel
theorem dX8_harmNow_71 : decode cX8_harmNow 71 = .ok (.iconst 4, 1) := by decide +kernel
theorem dX8_harmNow_72 : decode cX8_harmNow 72 = .ok (.irem, 1) := by decide +kernel
theorem dX8_harmNow_73 : decode cX8_harmNow 73 = .ok (.invokevirtual 141, 3) := by decide +kernel
theorem dX8_harmNow_76 : decode cX8_harmNow 76 = .ok (.ifCond .eq 18, 3) := by decide +kernel
theorem dX8_harmNow_79 : decode cX8_harmNow 79 = .ok (.aload_n 0, 1) := by decide +kernel
theorem dX8_harmNow_80 : decode cX8_harmNow 80 = .ok (.iload_n 1, 1) := by decide +kernel
theorem dX8_harmNow_81 : decode cX8_harmNow 81 = .ok (.iload_n 2, 1) := by decide +kernel
theorem dX8_harmNow_82 : decode cX8_harmNow 82 = .ok (.iconst 4, 1) := by decide +kernel
theorem dX8_harmNow_83 : decode cX8_harmNow 83 = .ok (.idiv, 1) := by decide +kernel
theorem dX8_harmNow_84 : decode cX8_harmNow 84 = .ok (.iload_n 2, 1) := by decide +kernel
theorem dX8_harmNow_85 : decode cX8_harmNow 85 = .ok (.iconst 4, 1) := by decide +kernel
theorem dX8_harmNow_86 : decode cX8_harmNow 86 = .ok (.irem, 1) := by decide +kernel
theorem dX8_harmNow_87 : decode cX8_harmNow 87 = .ok (.iconst 1, 1) := by decide +kernel
theorem dX8_harmNow_88 : decode cX8_harmNow 88 = .ok (.invokevirtual 137, 3) := by decide +kernel
theorem dX8_harmNow_91 : decode cX8_harmNow 91 = .ok (.goto 4, 3) := by decide +kernel
theorem dX8_harmNow_94 : decode cX8_harmNow 94 = .ok (.iload_n 3, 1) := by decide +kernel
theorem dX8_harmNow_95 : decode cX8_harmNow 95 = .ok (.istore 4, 2) := by decide +kernel
theorem dX8_harmNow_97 : decode cX8_harmNow 97 = .ok (.aload_n 0, 1) := by decide +kernel
theorem dX8_harmNow_98 : decode cX8_harmNow 98 = .ok (.getfield 31, 3) := by decide +kernel
theorem dX8_harmNow_101 : decode cX8_harmNow 101 = .ok (.bipush 40, 2) := by decide +kernel
theorem dX8_harmNow_103 : decode cX8_harmNow 103 = .ok (.iload_n 1, 1) := by decide +kernel
theorem dX8_harmNow_104 : decode cX8_harmNow 104 = .ok (.imul, 1) := by decide +kernel
theorem dX8_harmNow_105 : decode cX8_harmNow 105 = .ok (.iload_n 2, 1) := by decide +kernel
theorem dX8_harmNow_106 : decode cX8_harmNow 106 = .ok (.iadd, 1) := by decide +kernel
theorem dX8_harmNow_107 : decode cX8_harmNow 107 = .ok (.iload 4, 2) := by decide +kernel
theorem dX8_harmNow_109 : decode cX8_harmNow 109 = .ok (.iload_n 3, 1) := by decide +kernel
theorem dX8_harmNow_110 : decode cX8_harmNow 110 = .ok (.if_icmp .ge 8, 3) := by decide +kernel
theorem dX8_harmNow_113 : decode cX8_harmNow 113 = .ok (.iload 4, 2) := by decide +kernel
theorem dX8_harmNow_115 : decode cX8_harmNow 115 = .ok (.goto 4, 3) := by decide +kernel
theorem dX8_harmNow_118 : decode cX8_harmNow 118 = .ok (.iload_n 3, 1) := by decide +kernel
theorem dX8_harmNow_119 : decode cX8_harmNow 119 = .ok (.iastore, 1) := by decide +kernel
theorem dX8_harmNow_120 : decode cX8_harmNow 120 = .ok (.iinc 2 1, 3) := by decide +kernel
theorem dX8_harmNow_123 : decode cX8_harmNow 123 = .ok (.goto (-77), 3) := by decide +kernel
theorem dX8_harmNow_126 : decode cX8_harmNow 126 = .ok (.iinc 1 (-1), 3) := by decide +kernel
theorem dX8_harmNow_129 : decode cX8_harmNow 129 = .ok (.goto (-89), 3) := by decide +kernel
theorem dX8_harmNow_132 : decode cX8_harmNow 132 = .ok (.aload_n 0, 1) := by decide +kernel
theorem dX8_harmNow_133 : decode cX8_harmNow 133 = .ok (.getfield 31, 3) := by decide +kernel
theorem dX8_harmNow_136 : decode cX8_harmNow 136 = .ok (.aload_n 0, 1) := by decide +kernel
theorem dX8_harmNow_137 : decode cX8_harmNow 137 = .ok (.iconst 0, 1) := by decide +kernel
theorem dX8_harmNow_138 : decode cX8_harmNow 138 = .ok (.aload_n 0, 1) := by decide +kernel
theorem dX8_harmNow_139 : decode cX8_harmNow 139 = .ok (.getfield 7, 3) := by decide +kernel
theorem dX8_harmNow_142 : decode cX8_harmNow 142 = .ok (.iconst 0, 1) := by decide +kernel
theorem dX8_harmNow_143 : decode cX8_harmNow 143 = .ok (.iaload, 1) := by decide +kernel
theorem dX8_harmNow_144 : decode cX8_harmNow 144 = .ok (.iconst 0, 1) := by decide +kernel
theorem dX8_harmNow_145 : decode cX8_harmNow 145 = .ok (.invokevirtual 133, 3) := by decide +kernel
theorem dX8_harmNow_148 : decode cX8_harmNow 148 = .ok (.iaload, 1) := by decide +kernel
theorem dX8_harmNow_149 : decode cX8_harmNow 149 = .ok (.ireturn, 1) := by decide +kernel
theorem dX8_harm_0 : decode cX8_harm 0 = .ok (.aload_n 0, 1) := by decide +kernel
theorem dX8_harm_1 : decode cX8_harm 1 = .ok (.invokevirtual 144, 3) := by decide +kernel
theorem dX8_harm_4 : decode cX8_harm 4 = .ok (.ireturn, 1) := by decide +kernel
theorem dX8_worst_0 : decode cX8_worst 0 = .ok (.aload_n 0, 1) := by decide +kernel
theorem dX8_worst_1 : decode cX8_worst 1 = .ok (.invokevirtual 144, 3) := by decide +kernel
theorem dX8_worst_4 : decode cX8_worst 4 = .ok (.istore_n 1, 1) := by decide +kernel
theorem dX8_worst_5 : decode cX8_worst 5 = .ok (.iconst 0, 1) := by decide +kernel
theorem dX8_worst_6 : decode cX8_worst 6 = .ok (.istore_n 2, 1) := by decide +kernel
theorem dX8_worst_7 : decode cX8_worst 7 = .ok (.aload_n 0, 1) := by decide +kernel
theorem dX8_worst_8 : decode cX8_worst 8 = .ok (.getfield 7, 3) := by decide +kernel
theorem dX8_worst_11 : decode cX8_worst 11 = .ok (.iconst 0, 1) := by decide +kernel
theorem dX8_worst_12 : decode cX8_worst 12 = .ok (.iaload, 1) := by decide +kernel
theorem dX8_worst_13 : decode cX8_worst 13 = .ok (.istore_n 3, 1) := by decide +kernel
theorem dX8_worst_14 : decode cX8_worst 14 = .ok (.iconst 0, 1) := by decide +kernel
theorem dX8_worst_15 : decode cX8_worst 15 = .ok (.istore 4, 2) := by decide +kernel
theorem dX8_worst_17 : decode cX8_worst 17 = .ok (.iconst 0, 1) := by decide +kernel
theorem dX8_worst_18 : decode cX8_worst 18 = .ok (.istore 5, 2) := by decide +kernel
theorem dX8_worst_20 : decode cX8_worst 20 = .ok (.iload 5, 2) := by decide +kernel
theorem dX8_worst_22 : decode cX8_worst 22 = .ok (.aload_n 0, 1) := by decide +kernel
theorem dX8_worst_23 : decode cX8_worst 23 = .ok (.getfield 7, 3) := by decide +kernel
theorem dX8_worst_26 : decode cX8_worst 26 = .ok (.iconst 4, 1) := by decide +kernel
theorem dX8_worst_27 : decode cX8_worst 27 = .ok (.iaload, 1) := by decide +kernel
theorem dX8_worst_28 : decode cX8_worst 28 = .ok (.if_icmp .ge 83, 3) := by decide +kernel
theorem dX8_worst_31 : decode cX8_worst 31 = .ok (.aload_n 0, 1) := by decide +kernel
theorem dX8_worst_32 : decode cX8_worst 32 = .ok (.iload 5, 2) := by decide +kernel
theorem dX8_worst_34 : decode cX8_worst 34 = .ok (.iload_n 3, 1) := by decide +kernel
theorem dX8_worst_35 : decode cX8_worst 35 = .ok (.iload 4, 2) := by decide +kernel
theorem dX8_worst_37 : decode cX8_worst 37 = .ok (.iconst 0, 1) := by decide +kernel
theorem dX8_worst_38 : decode cX8_worst 38 = .ok (.invokevirtual 137, 3) := by decide +kernel
theorem dX8_worst_41 : decode cX8_worst 41 = .ok (.aload_n 0, 1) := by decide +kernel
theorem dX8_worst_42 : decode cX8_worst 42 = .ok (.getfield 31, 3) := by decide +kernel
theorem dX8_worst_45 : decode cX8_worst 45 = .ok (.aload_n 0, 1) := by decide +kernel
theorem dX8_worst_46 : decode cX8_worst 46 = .ok (.iload 5, 2) := by decide +kernel
theorem dX8_worst_48 : decode cX8_worst 48 = .ok (.iload_n 3, 1) := by decide +kernel
theorem dX8_worst_49 : decode cX8_worst 49 = .ok (.iload 4, 2) := by decide +kernel
theorem dX8_worst_51 : decode cX8_worst 51 = .ok (.invokevirtual 133, 3) := by decide +kernel
theorem dX8_worst_54 : decode cX8_worst 54 = .ok (.iaload, 1) := by decide +kernel
theorem dX8_worst_55 : decode cX8_worst 55 = .ok (.if_icmp .le 7, 3) := by decide +kernel
theorem dX8_worst_58 : decode cX8_worst 58 = .ok (.iconst 1, 1) := by decide +kernel
theorem dX8_worst_59 : decode cX8_worst 59 = .ok (.goto 4, 3) := by decide +kernel
theorem dX8_worst_62 : decode cX8_worst 62 = .ok (.iconst 0, 1) := by decide +kernel
theorem dX8_worst_63 : decode cX8_worst 63 = .ok (.istore 6, 2) := by decide +kernel
theorem dX8_worst_65 : decode cX8_worst 65 = .ok (.iload_n 2, 1) := by decide +kernel
theorem dX8_worst_66 : decode cX8_worst 66 = .ok (.iload 6, 2) := by decide +kernel
theorem dX8_worst_68 : decode cX8_worst 68 = .ok (.ifCond .eq 10, 3) := by decide +kernel
theorem dX8_worst_71 : decode cX8_worst 71 = .ok (.iconst 1, 1) := by decide +kernel
theorem dX8_worst_72 : decode cX8_worst 72 = .ok (.iload 5, 2) := by decide +kernel
theorem dX8_worst_74 : decode cX8_worst 74 = .ok (.ishl, 1) := by decide +kernel
theorem dX8_worst_75 : decode cX8_worst 75 = .ok (.goto 4, 3) := by decide +kernel
theorem dX8_worst_78 : decode cX8_worst 78 = .ok (.iconst 0, 1) := by decide +kernel
theorem dX8_worst_79 : decode cX8_worst 79 = .ok (.ior, 1) := by decide +kernel
theorem dX8_worst_80 : decode cX8_worst 80 = .ok (.istore_n 2, 1) := by decide +kernel
theorem dX8_worst_81 : decode cX8_worst 81 = .ok (.iload 5, 2) := by decide +kernel
theorem dX8_worst_83 : decode cX8_worst 83 = .ok (.iload 4, 2) := by decide +kernel
theorem dX8_worst_85 : decode cX8_worst 85 = .ok (.iload 6, 2) := by decide +kernel
theorem dX8_worst_87 : decode cX8_worst 87 = .ok (.invokestatic 105, 3) := by decide +kernel
theorem dX8_worst_90 : decode cX8_worst 90 = .ok (.istore 4, 2) := by decide +kernel
theorem dX8_worst_92 : decode cX8_worst 92 = .ok (.iload_n 3, 1) := by decide +kernel
theorem dX8_worst_93 : decode cX8_worst 93 = .ok (.iload 6, 2) := by decide +kernel
theorem dX8_worst_95 : decode cX8_worst 95 = .ok (.ifCond .eq 7, 3) := by decide +kernel
theorem dX8_worst_98 : decode cX8_worst 98 = .ok (.iconst 1, 1) := by decide +kernel
theorem dX8_worst_99 : decode cX8_worst 99 = .ok (.goto 4, 3) := by decide +kernel
theorem dX8_worst_102 : decode cX8_worst 102 = .ok (.iconst 0, 1) := by decide +kernel
theorem dX8_worst_103 : decode cX8_worst 103 = .ok (.isub, 1) := by decide +kernel
theorem dX8_worst_104 : decode cX8_worst 104 = .ok (.istore_n 3, 1) := by decide +kernel
theorem dX8_worst_105 : decode cX8_worst 105 = .ok (.iinc 5 1, 3) := by decide +kernel
theorem dX8_worst_108 : decode cX8_worst 108 = .ok (.goto (-88), 3) := by decide +kernel
theorem dX8_worst_111 : decode cX8_worst 111 = .ok (.iload_n 2, 1) := by decide +kernel
theorem dX8_worst_112 : decode cX8_worst 112 = .ok (.ireturn, 1) := by decide +kernel
theorem dX8_best_0 : decode cX8_best 0 = .ok (.aload_n 0, 1) := by decide +kernel
theorem dX8_best_1 : decode cX8_best 1 = .ok (.getfield 7, 3) := by decide +kernel
theorem dX8_best_4 : decode cX8_best 4 = .ok (.iconst 2, 1) := by decide +kernel
theorem dX8_best_5 : decode cX8_best 5 = .ok (.iaload, 1) := by decide +kernel
theorem dX8_best_6 : decode cX8_best 6 = .ok (.istore_n 1, 1) := by decide +kernel
theorem dX8_best_7 : decode cX8_best 7 = .ok (.iconst 0, 1) := by decide +kernel
theorem dX8_best_8 : decode cX8_best 8 = .ok (.istore_n 2, 1) := by decide +kernel
theorem dX8_best_9 : decode cX8_best 9 = .ok (.iconst 0, 1) := by decide +kernel
theorem dX8_best_10 : decode cX8_best 10 = .ok (.istore_n 3, 1) := by decide +kernel
theorem dX8_best_11 : decode cX8_best 11 = .ok (.iconst 0, 1) := by decide +kernel
theorem dX8_best_12 : decode cX8_best 12 = .ok (.istore 4, 2) := by decide +kernel
theorem dX8_best_14 : decode cX8_best 14 = .ok (.iload 4, 2) := by decide +kernel
theorem dX8_best_16 : decode cX8_best 16 = .ok (.bipush 9, 2) := by decide +kernel
theorem dX8_best_18 : decode cX8_best 18 = .ok (.if_icmp .ge 40, 3) := by decide +kernel
theorem dX8_best_21 : decode cX8_best 21 = .ok (.aload_n 0, 1) := by decide +kernel
theorem dX8_best_22 : decode cX8_best 22 = .ok (.getfield 7, 3) := by decide +kernel
theorem dX8_best_25 : decode cX8_best 25 = .ok (.iconst 2, 1) := by decide +kernel
theorem dX8_best_26 : decode cX8_best 26 = .ok (.iload 4, 2) := by decide +kernel
theorem dX8_best_28 : decode cX8_best 28 = .ok (.iastore, 1) := by decide +kernel
theorem dX8_best_29 : decode cX8_best 29 = .ok (.aload_n 0, 1) := by decide +kernel
theorem dX8_best_30 : decode cX8_best 30 = .ok (.invokevirtual 144, 3) := by decide +kernel
theorem dX8_best_33 : decode cX8_best 33 = .ok (.istore 5, 2) := by decide +kernel
theorem dX8_best_35 : decode cX8_best 35 = .ok (.iload 4, 2) := by decide +kernel
theorem dX8_best_37 : decode cX8_best 37 = .ok (.ifCond .eq 9, 3) := by decide +kernel
theorem dX8_best_40 : decode cX8_best 40 = .ok (.iload 5, 2) := by decide +kernel
theorem dX8_best_42 : decode cX8_best 42 = .ok (.iload_n 3, 1) := by decide +kernel
theorem dX8_best_43 : decode cX8_best 43 = .ok (.if_icmp .le 9, 3) := by decide +kernel
theorem dX8_best_46 : decode cX8_best 46 = .ok (.iload 4, 2) := by decide +kernel
theorem dX8_best_48 : decode cX8_best 48 = .ok (.istore_n 2, 1) := by decide +kernel
theorem dX8_best_49 : decode cX8_best 49 = .ok (.iload 5, 2) := by decide +kernel
theorem dX8_best_51 : decode cX8_best 51 = .ok (.istore_n 3, 1) := by decide +kernel
theorem dX8_best_52 : decode cX8_best 52 = .ok (.iinc 4 1, 3) := by decide +kernel
theorem dX8_best_55 : decode cX8_best 55 = .ok (.goto (-41), 3) := by decide +kernel
theorem dX8_best_58 : decode cX8_best 58 = .ok (.aload_n 0, 1) := by decide +kernel
theorem dX8_best_59 : decode cX8_best 59 = .ok (.getfield 7, 3) := by decide +kernel
theorem dX8_best_62 : decode cX8_best 62 = .ok (.iconst 2, 1) := by decide +kernel
theorem dX8_best_63 : decode cX8_best 63 = .ok (.iload_n 1, 1) := by decide +kernel
theorem dX8_best_64 : decode cX8_best 64 = .ok (.iastore, 1) := by decide +kernel
theorem dX8_best_65 : decode cX8_best 65 = .ok (.iload_n 2, 1) := by decide +kernel
theorem dX8_best_66 : decode cX8_best 66 = .ok (.ireturn, 1) := by decide +kernel
theorem dX8_price_0 : decode cX8_price 0 = .ok (.aload_n 0, 1) := by decide +kernel
theorem dX8_price_1 : decode cX8_price 1 = .ok (.getfield 7, 3) := by decide +kernel
theorem dX8_price_4 : decode cX8_price 4 = .ok (.iconst 0, 1) := by decide +kernel
theorem dX8_price_5 : decode cX8_price 5 = .ok (.iaload, 1) := by decide +kernel
theorem dX8_price_6 : decode cX8_price 6 = .ok (.istore_n 1, 1) := by decide +kernel
theorem dX8_price_7 : decode cX8_price 7 = .ok (.iload_n 1, 1) := by decide +kernel
theorem dX8_price_8 : decode cX8_price 8 = .ok (.bipush 9, 2) := by decide +kernel
theorem dX8_price_10 : decode cX8_price 10 = .ok (.if_icmp .ne 6, 3) := by decide +kernel
theorem dX8_price_13 : decode cX8_price 13 = .ok (.ldc 129, 2) := by decide +kernel
theorem dX8_price_15 : decode cX8_price 15 = .ok (.ireturn, 1) := by decide +kernel
theorem dX8_price_16 : decode cX8_price 16 = .ok (.aload_n 0, 1) := by decide +kernel
theorem dX8_price_17 : decode cX8_price 17 = .ok (.invokevirtual 144, 3) := by decide +kernel
theorem dX8_price_20 : decode cX8_price 20 = .ok (.istore_n 2, 1) := by decide +kernel
theorem dX8_price_21 : decode cX8_price 21 = .ok (.aload_n 0, 1) := by decide +kernel
theorem dX8_price_22 : decode cX8_price 22 = .ok (.getfield 7, 3) := by decide +kernel
theorem dX8_price_25 : decode cX8_price 25 = .ok (.iconst 0, 1) := by decide +kernel
theorem dX8_price_26 : decode cX8_price 26 = .ok (.iload_n 1, 1) := by decide +kernel
theorem dX8_price_27 : decode cX8_price 27 = .ok (.iconst 1, 1) := by decide +kernel
theorem dX8_price_28 : decode cX8_price 28 = .ok (.iadd, 1) := by decide +kernel
theorem dX8_price_29 : decode cX8_price 29 = .ok (.iastore, 1) := by decide +kernel
theorem dX8_price_30 : decode cX8_price 30 = .ok (.iload_n 2, 1) := by decide +kernel
theorem dX8_price_31 : decode cX8_price 31 = .ok (.aload_n 0, 1) := by decide +kernel
theorem dX8_price_32 : decode cX8_price 32 = .ok (.invokevirtual 144, 3) := by decide +kernel
theorem dX8_price_35 : decode cX8_price 35 = .ok (.isub, 1) := by decide +kernel
theorem dX8_price_36 : decode cX8_price 36 = .ok (.istore_n 2, 1) := by decide +kernel
theorem dX8_price_37 : decode cX8_price 37 = .ok (.aload_n 0, 1) := by decide +kernel
theorem dX8_price_38 : decode cX8_price 38 = .ok (.getfield 7, 3) := by decide +kernel
theorem dX8_price_41 : decode cX8_price 41 = .ok (.iconst 0, 1) := by decide +kernel
theorem dX8_price_42 : decode cX8_price 42 = .ok (.iload_n 1, 1) := by decide +kernel
theorem dX8_price_43 : decode cX8_price 43 = .ok (.iastore, 1) := by decide +kernel
theorem dX8_price_44 : decode cX8_price 44 = .ok (.iload_n 2, 1) := by decide +kernel
theorem dX8_price_45 : decode cX8_price 45 = .ok (.ireturn, 1) := by decide +kernel
theorem dX8_under_0 : decode cX8_under 0 = .ok (.iload_n 1, 1) := by decide +kernel
theorem dX8_under_1 : decode cX8_under 1 = .ok (.i2l, 1) := by decide +kernel
theorem dX8_under_2 : decode cX8_under 2 = .ok (.lconst 0, 1) := by decide +kernel
theorem dX8_under_3 : decode cX8_under 3 = .ok (.ldc2_w 62, 3) := by decide +kernel
theorem dX8_under_6 : decode cX8_under 6 = .ok (.invokestatic 40, 3) := by decide +kernel
theorem dX8_under_9 : decode cX8_under 9 = .ok (.ifCond .ne 6, 3) := by decide +kernel
theorem dX8_under_12 : decode cX8_under 12 = .ok (.ldc 128, 2) := by decide +kernel
theorem dX8_under_14 : decode cX8_under 14 = .ok (.ireturn, 1) := by decide +kernel
theorem dX8_under_15 : decode cX8_under 15 = .ok (.aload_n 0, 1) := by decide +kernel
theorem dX8_under_16 : decode cX8_under 16 = .ok (.iconst 1, 1) := by decide +kernel
theorem dX8_under_17 : decode cX8_under 17 = .ok (.iload_n 1, 1) := by decide +kernel
theorem dX8_under_18 : decode cX8_under 18 = .ok (.invokevirtual 56, 3) := by decide +kernel
theorem dX8_under_21 : decode cX8_under 21 = .ok (.istore_n 2, 1) := by decide +kernel
theorem dX8_under_22 : decode cX8_under 22 = .ok (.aload_n 0, 1) := by decide +kernel
theorem dX8_under_23 : decode cX8_under 23 = .ok (.invokevirtual 144, 3) := by decide +kernel
theorem dX8_under_26 : decode cX8_under 26 = .ok (.istore_n 3, 1) := by decide +kernel
theorem dX8_under_27 : decode cX8_under 27 = .ok (.aload_n 0, 1) := by decide +kernel
theorem dX8_under_28 : decode cX8_under 28 = .ok (.getfield 7, 3) := by decide +kernel
theorem dX8_under_31 : decode cX8_under 31 = .ok (.iconst 1, 1) := by decide +kernel
theorem dX8_under_32 : decode cX8_under 32 = .ok (.iload_n 2, 1) := by decide +kernel
theorem dX8_under_33 : decode cX8_under 33 = .ok (.iastore, 1) := by decide +kernel
theorem dX8_under_34 : decode cX8_under 34 = .ok (.iload_n 3, 1) := by decide +kernel
theorem dX8_under_35 : decode cX8_under 35 = .ok (.ireturn, 1) := by decide +kernel
theorem dX8_sure_0 : decode cX8_sure 0 = .ok (.iload_n 1, 1) := by decide +kernel
theorem dX8_sure_1 : decode cX8_sure 1 = .ok (.i2l, 1) := by decide +kernel
theorem dX8_sure_2 : decode cX8_sure 2 = .ok (.lconst 0, 1) := by decide +kernel
theorem dX8_sure_3 : decode cX8_sure 3 = .ok (.ldc2_w 64, 3) := by decide +kernel
theorem dX8_sure_6 : decode cX8_sure 6 = .ok (.invokestatic 40, 3) := by decide +kernel
theorem dX8_sure_9 : decode cX8_sure 9 = .ok (.ifCond .eq 51, 3) := by decide +kernel
theorem dX8_sure_12 : decode cX8_sure 12 = .ok (.iload_n 2, 1) := by decide +kernel
theorem dX8_sure_13 : decode cX8_sure 13 = .ok (.i2l, 1) := by decide +kernel
theorem dX8_sure_14 : decode cX8_sure 14 = .ok (.lconst 0, 1) := by decide +kernel
theorem dX8_sure_15 : decode cX8_sure 15 = .ok (.ldc2_w 64, 3) := by decide +kernel
theorem dX8_sure_18 : decode cX8_sure 18 = .ok (.invokestatic 40, 3) := by decide +kernel
theorem dX8_sure_21 : decode cX8_sure 21 = .ok (.ifCond .eq 39, 3) := by decide +kernel
theorem dX8_sure_24 : decode cX8_sure 24 = .ok (.iload 4, 2) := by decide +kernel
theorem dX8_sure_26 : decode cX8_sure 26 = .ok (.i2l, 1) := by decide +kernel
theorem dX8_sure_27 : decode cX8_sure 27 = .ok (.lconst 1, 1) := by decide +kernel
theorem dX8_sure_28 : decode cX8_sure 28 = .ok (.ldc2_w 44, 3) := by decide +kernel
theorem dX8_sure_31 : decode cX8_sure 31 = .ok (.invokestatic 40, 3) := by decide +kernel
theorem dX8_sure_34 : decode cX8_sure 34 = .ok (.ifCond .eq 26, 3) := by decide +kernel
theorem dX8_sure_37 : decode cX8_sure 37 = .ok (.iload_n 3, 1) := by decide +kernel
theorem dX8_sure_38 : decode cX8_sure 38 = .ok (.i2l, 1) := by decide +kernel
theorem dX8_sure_39 : decode cX8_sure 39 = .ok (.lconst 0, 1) := by decide +kernel
theorem dX8_sure_40 : decode cX8_sure 40 = .ok (.iload 4, 2) := by decide +kernel
theorem dX8_sure_42 : decode cX8_sure 42 = .ok (.i2l, 1) := by decide +kernel
theorem dX8_sure_43 : decode cX8_sure 43 = .ok (.invokestatic 40, 3) := by decide +kernel
theorem dX8_sure_46 : decode cX8_sure 46 = .ok (.ifCond .eq 14, 3) := by decide +kernel
theorem dX8_sure_49 : decode cX8_sure 49 = .ok (.iload 5, 2) := by decide +kernel
theorem dX8_sure_51 : decode cX8_sure 51 = .ok (.i2l, 1) := by decide +kernel
theorem dX8_sure_52 : decode cX8_sure 52 = .ok (.lconst 0, 1) := by decide +kernel
theorem dX8_sure_53 : decode cX8_sure 53 = .ok (.lconst 1, 1) := by decide +kernel
theorem dX8_sure_54 : decode cX8_sure 54 = .ok (.invokestatic 40, 3) := by decide +kernel
theorem dX8_sure_57 : decode cX8_sure 57 = .ok (.ifCond .ne 5, 3) := by decide +kernel
theorem dX8_sure_60 : decode cX8_sure 60 = .ok (.iconst (-1), 1) := by decide +kernel
theorem dX8_sure_61 : decode cX8_sure 61 = .ok (.ireturn, 1) := by decide +kernel
theorem dX8_sure_62 : decode cX8_sure 62 = .ok (.iload_n 3, 1) := by decide +kernel
theorem dX8_sure_63 : decode cX8_sure 63 = .ok (.iload_n 1, 1) := by decide +kernel
theorem dX8_sure_64 : decode cX8_sure 64 = .ok (.imul, 1) := by decide +kernel
theorem dX8_sure_65 : decode cX8_sure 65 = .ok (.istore 6, 2) := by decide +kernel
theorem dX8_sure_67 : decode cX8_sure 67 = .ok (.iload 6, 2) := by decide +kernel
theorem dX8_sure_69 : decode cX8_sure 69 = .ok (.iload 4, 2) := by decide +kernel
theorem dX8_sure_71 : decode cX8_sure 71 = .ok (.iload_n 3, 1) := by decide +kernel
theorem dX8_sure_72 : decode cX8_sure 72 = .ok (.isub, 1) := by decide +kernel
theorem dX8_sure_73 : decode cX8_sure 73 = .ok (.iload_n 2, 1) := by decide +kernel
theorem dX8_sure_74 : decode cX8_sure 74 = .ok (.imul, 1) := by decide +kernel
theorem dX8_sure_75 : decode cX8_sure 75 = .ok (.iadd, 1) := by decide +kernel
theorem dX8_sure_76 : decode cX8_sure 76 = .ok (.istore 7, 2) := by decide +kernel
theorem dX8_sure_78 : decode cX8_sure 78 = .ok (.iload 7, 2) := by decide +kernel
theorem dX8_sure_80 : decode cX8_sure 80 = .ok (.ifCond .ne 6, 3) := by decide +kernel
theorem dX8_sure_83 : decode cX8_sure 83 = .ok (.bipush (-4), 2) := by decide +kernel
theorem dX8_sure_85 : decode cX8_sure 85 = .ok (.ireturn, 1) := by decide +kernel
theorem dX8_sure_86 : decode cX8_sure 86 = .ok (.iload 6, 2) := by decide +kernel
theorem dX8_sure_88 : decode cX8_sure 88 = .ok (.istore 8, 2) := by decide +kernel
theorem dX8_sure_90 : decode cX8_sure 90 = .ok (.iload 7, 2) := by decide +kernel
theorem dX8_sure_92 : decode cX8_sure 92 = .ok (.istore 9, 2) := by decide +kernel
theorem dX8_sure_94 : decode cX8_sure 94 = .ok (.iload 9, 2) := by decide +kernel
theorem dX8_sure_96 : decode cX8_sure 96 = .ok (.ifCond .eq 21, 3) := by decide +kernel
theorem dX8_sure_99 : decode cX8_sure 99 = .ok (.iload 8, 2) := by decide +kernel
theorem dX8_sure_101 : decode cX8_sure 101 = .ok (.iload 9, 2) := by decide +kernel
theorem dX8_sure_103 : decode cX8_sure 103 = .ok (.irem, 1) := by decide +kernel
theorem dX8_sure_104 : decode cX8_sure 104 = .ok (.istore 10, 2) := by decide +kernel
theorem dX8_sure_106 : decode cX8_sure 106 = .ok (.iload 9, 2) := by decide +kernel
theorem dX8_sure_108 : decode cX8_sure 108 = .ok (.istore 8, 2) := by decide +kernel
theorem dX8_sure_110 : decode cX8_sure 110 = .ok (.iload 10, 2) := by decide +kernel
theorem dX8_sure_112 : decode cX8_sure 112 = .ok (.istore 9, 2) := by decide +kernel
theorem dX8_sure_114 : decode cX8_sure 114 = .ok (.goto (-20), 3) := by decide +kernel
theorem dX8_sure_117 : decode cX8_sure 117 = .ok (.iload 5, 2) := by decide +kernel
theorem dX8_sure_119 : decode cX8_sure 119 = .ok (.ifCond .ne 11, 3) := by decide +kernel
theorem dX8_sure_122 : decode cX8_sure 122 = .ok (.iload 6, 2) := by decide +kernel
theorem dX8_sure_124 : decode cX8_sure 124 = .ok (.iload 8, 2) := by decide +kernel
theorem dX8_sure_126 : decode cX8_sure 126 = .ok (.idiv, 1) := by decide +kernel
theorem dX8_sure_127 : decode cX8_sure 127 = .ok (.goto 8, 3) := by decide +kernel
theorem dX8_sure_130 : decode cX8_sure 130 = .ok (.iload 7, 2) := by decide +kernel
theorem dX8_sure_132 : decode cX8_sure 132 = .ok (.iload 8, 2) := by decide +kernel
theorem dX8_sure_134 : decode cX8_sure 134 = .ok (.idiv, 1) := by decide +kernel
theorem dX8_sure_135 : decode cX8_sure 135 = .ok (.ireturn, 1) := by decide +kernel
theorem dX8_bet_0 : decode cX8_bet 0 = .ok (.iload_n 1, 1) := by decide +kernel
theorem dX8_bet_1 : decode cX8_bet 1 = .ok (.i2l, 1) := by decide +kernel
theorem dX8_bet_2 : decode cX8_bet 2 = .ok (.lconst 0, 1) := by decide +kernel
theorem dX8_bet_3 : decode cX8_bet 3 = .ok (.ldc2_w 44, 3) := by decide +kernel
theorem dX8_bet_6 : decode cX8_bet 6 = .ok (.invokestatic 40, 3) := by decide +kernel
theorem dX8_bet_9 : decode cX8_bet 9 = .ok (.ifCond .eq 25, 3) := by decide +kernel
theorem dX8_bet_12 : decode cX8_bet 12 = .ok (.iload_n 2, 1) := by decide +kernel
theorem dX8_bet_13 : decode cX8_bet 13 = .ok (.i2l, 1) := by decide +kernel
theorem dX8_bet_14 : decode cX8_bet 14 = .ok (.lconst 0, 1) := by decide +kernel
theorem dX8_bet_15 : decode cX8_bet 15 = .ok (.ldc2_w 44, 3) := by decide +kernel
theorem dX8_bet_18 : decode cX8_bet 18 = .ok (.invokestatic 40, 3) := by decide +kernel
theorem dX8_bet_21 : decode cX8_bet 21 = .ok (.ifCond .eq 13, 3) := by decide +kernel
theorem dX8_bet_24 : decode cX8_bet 24 = .ok (.iload_n 3, 1) := by decide +kernel
theorem dX8_bet_25 : decode cX8_bet 25 = .ok (.i2l, 1) := by decide +kernel
theorem dX8_bet_26 : decode cX8_bet 26 = .ok (.lconst 0, 1) := by decide +kernel
theorem dX8_bet_27 : decode cX8_bet 27 = .ok (.lconst 1, 1) := by decide +kernel
theorem dX8_bet_28 : decode cX8_bet 28 = .ok (.invokestatic 40, 3) := by decide +kernel
theorem dX8_bet_31 : decode cX8_bet 31 = .ok (.ifCond .ne 5, 3) := by decide +kernel
theorem dX8_bet_34 : decode cX8_bet 34 = .ok (.iconst (-1), 1) := by decide +kernel
theorem dX8_bet_35 : decode cX8_bet 35 = .ok (.ireturn, 1) := by decide +kernel
theorem dX8_bet_36 : decode cX8_bet 36 = .ok (.iconst 2, 1) := by decide +kernel
theorem dX8_bet_37 : decode cX8_bet 37 = .ok (.istore 4, 2) := by decide +kernel
theorem dX8_bet_39 : decode cX8_bet 39 = .ok (.iload 4, 2) := by decide +kernel
theorem dX8_bet_41 : decode cX8_bet 41 = .ok (.sipush 199, 3) := by decide +kernel
theorem dX8_bet_44 : decode cX8_bet 44 = .ok (.if_icmp .ge 78, 3) := by decide +kernel
theorem dX8_bet_47 : decode cX8_bet 47 = .ok (.iconst 1, 1) := by decide +kernel
theorem dX8_bet_48 : decode cX8_bet 48 = .ok (.istore 5, 2) := by decide +kernel
theorem dX8_bet_50 : decode cX8_bet 50 = .ok (.iload 5, 2) := by decide +kernel
theorem dX8_bet_52 : decode cX8_bet 52 = .ok (.iload 4, 2) := by decide +kernel
theorem dX8_bet_54 : decode cX8_bet 54 = .ok (.if_icmp .ge 62, 3) := by decide +kernel
theorem dX8_bet_57 : decode cX8_bet 57 = .ok (.iload 4, 2) := by decide +kernel
theorem dX8_bet_59 : decode cX8_bet 59 = .ok (.iload 5, 2) := by decide +kernel
theorem dX8_bet_61 : decode cX8_bet 61 = .ok (.isub, 1) := by decide +kernel
theorem dX8_bet_62 : decode cX8_bet 62 = .ok (.istore 6, 2) := by decide +kernel
theorem dX8_bet_64 : decode cX8_bet 64 = .ok (.iload 5, 2) := by decide +kernel
theorem dX8_bet_66 : decode cX8_bet 66 = .ok (.bipush 100, 2) := by decide +kernel
theorem dX8_bet_68 : decode cX8_bet 68 = .ok (.if_icmp .ge 42, 3) := by decide +kernel
theorem dX8_bet_71 : decode cX8_bet 71 = .ok (.iload 6, 2) := by decide +kernel
theorem dX8_bet_73 : decode cX8_bet 73 = .ok (.bipush 100, 2) := by decide +kernel
theorem dX8_bet_75 : decode cX8_bet 75 = .ok (.if_icmp .ge 35, 3) := by decide +kernel
theorem dX8_bet_78 : decode cX8_bet 78 = .ok (.iload_n 1, 1) := by decide +kernel
theorem dX8_bet_79 : decode cX8_bet 79 = .ok (.iload 5, 2) := by decide +kernel
theorem dX8_bet_81 : decode cX8_bet 81 = .ok (.imul, 1) := by decide +kernel
theorem dX8_bet_82 : decode cX8_bet 82 = .ok (.iload 6, 2) := by decide +kernel
theorem dX8_bet_84 : decode cX8_bet 84 = .ok (.isub, 1) := by decide +kernel
theorem dX8_bet_85 : decode cX8_bet 85 = .ok (.ifCond .le 25, 3) := by decide +kernel
theorem dX8_bet_88 : decode cX8_bet 88 = .ok (.iload_n 2, 1) := by decide +kernel
theorem dX8_bet_89 : decode cX8_bet 89 = .ok (.iload 6, 2) := by decide +kernel
theorem dX8_bet_91 : decode cX8_bet 91 = .ok (.imul, 1) := by decide +kernel
theorem dX8_bet_92 : decode cX8_bet 92 = .ok (.iload 5, 2) := by decide +kernel
theorem dX8_bet_94 : decode cX8_bet 94 = .ok (.isub, 1) := by decide +kernel
theorem dX8_bet_95 : decode cX8_bet 95 = .ok (.ifCond .le 15, 3) := by decide +kernel
theorem dX8_bet_98 : decode cX8_bet 98 = .ok (.iload_n 3, 1) := by decide +kernel
theorem dX8_bet_99 : decode cX8_bet 99 = .ok (.ifCond .ne 8, 3) := by decide +kernel
theorem dX8_bet_102 : decode cX8_bet 102 = .ok (.iload 5, 2) := by decide +kernel
theorem dX8_bet_104 : decode cX8_bet 104 = .ok (.goto 5, 3) := by decide +kernel
theorem dX8_bet_107 : decode cX8_bet 107 = .ok (.iload 6, 2) := by decide +kernel
theorem dX8_bet_109 : decode cX8_bet 109 = .ok (.ireturn, 1) := by decide +kernel
theorem dX8_bet_110 : decode cX8_bet 110 = .ok (.iinc 5 1, 3) := by decide +kernel
theorem dX8_bet_113 : decode cX8_bet 113 = .ok (.goto (-63), 3) := by decide +kernel
theorem dX8_bet_116 : decode cX8_bet 116 = .ok (.iinc 4 1, 3) := by decide +kernel
theorem dX8_bet_119 : decode cX8_bet 119 = .ok (.goto (-80), 3) := by decide +kernel
theorem dX8_bet_122 : decode cX8_bet 122 = .ok (.bipush (-4), 2) := by decide +kernel
theorem dX8_bet_124 : decode cX8_bet 124 = .ok (.ireturn, 1) := by decide +kernel
theorem dX8_setsOf_0 : decode cX8_setsOf 0 = .ok (.iconst 0, 1) := by decide +kernel
theorem dX8_setsOf_1 : decode cX8_setsOf 1 = .ok (.istore 5, 2) := by decide +kernel
theorem dX8_setsOf_3 : decode cX8_setsOf 3 = .ok (.iload 5, 2) := by decide +kernel
theorem dX8_setsOf_5 : decode cX8_setsOf 5 = .ok (.bipush 40, 2) := by decide +kernel
theorem dX8_setsOf_7 : decode cX8_setsOf 7 = .ok (.if_icmp .ge 26, 3) := by decide +kernel
theorem dX8_setsOf_10 : decode cX8_setsOf 10 = .ok (.aload_n 0, 1) := by decide +kernel
theorem dX8_setsOf_11 : decode cX8_setsOf 11 = .ok (.getfield 34, 3) := by decide +kernel
theorem dX8_setsOf_14 : decode cX8_setsOf 14 = .ok (.iload 5, 2) := by decide +kernel
theorem dX8_setsOf_16 : decode cX8_setsOf 16 = .ok (.iload 5, 2) := by decide +kernel
theorem dX8_setsOf_18 : decode cX8_setsOf 18 = .ok (.ifCond .ne 7, 3) := by decide +kernel
theorem dX8_setsOf_21 : decode cX8_setsOf 21 = .ok (.iconst 1, 1) := by decide +kernel
theorem dX8_setsOf_22 : decode cX8_setsOf 22 = .ok (.goto 4, 3) := by decide +kernel
theorem dX8_setsOf_25 : decode cX8_setsOf 25 = .ok (.iconst 0, 1) := by decide +kernel
theorem dX8_setsOf_26 : decode cX8_setsOf 26 = .ok (.iastore, 1) := by decide +kernel
theorem dX8_setsOf_27 : decode cX8_setsOf 27 = .ok (.iinc 5 1, 3) := by decide +kernel
theorem dX8_setsOf_30 : decode cX8_setsOf 30 = .ok (.goto (-27), 3) := by decide +kernel
theorem dX8_setsOf_33 : decode cX8_setsOf 33 = .ok (.iconst 0, 1) := by decide +kernel
theorem dX8_setsOf_34 : decode cX8_setsOf 34 = .ok (.istore 5, 2) := by decide +kernel
theorem dX8_setsOf_36 : decode cX8_setsOf 36 = .ok (.iload 5, 2) := by decide +kernel
theorem dX8_setsOf_38 : decode cX8_setsOf 38 = .ok (.bipush 28, 2) := by decide +kernel
theorem dX8_setsOf_40 : decode cX8_setsOf 40 = .ok (.if_icmp .ge 192, 3) := by decide +kernel
theorem dX8_setsOf_43 : decode cX8_setsOf 43 = .ok (.iconst 0, 1) := by decide +kernel
theorem dX8_setsOf_44 : decode cX8_setsOf 44 = .ok (.istore 6, 2) := by decide +kernel
theorem dX8_setsOf_46 : decode cX8_setsOf 46 = .ok (.iload 6, 2) := by decide +kernel
theorem dX8_setsOf_48 : decode cX8_setsOf 48 = .ok (.bipush 40, 2) := by decide +kernel
theorem dX8_setsOf_50 : decode cX8_setsOf 50 = .ok (.if_icmp .ge 17, 3) := by decide +kernel
theorem dX8_setsOf_53 : decode cX8_setsOf 53 = .ok (.aload_n 0, 1) := by decide +kernel
theorem dX8_setsOf_54 : decode cX8_setsOf 54 = .ok (.getfield 37, 3) := by decide +kernel
theorem dX8_setsOf_57 : decode cX8_setsOf 57 = .ok (.iload 6, 2) := by decide +kernel
theorem dX8_setsOf_59 : decode cX8_setsOf 59 = .ok (.iconst 0, 1) := by decide +kernel
theorem dX8_setsOf_60 : decode cX8_setsOf 60 = .ok (.iastore, 1) := by decide +kernel
theorem dX8_setsOf_61 : decode cX8_setsOf 61 = .ok (.iinc 6 1, 3) := by decide +kernel
theorem dX8_setsOf_64 : decode cX8_setsOf 64 = .ok (.goto (-18), 3) := by decide +kernel
theorem dX8_setsOf_67 : decode cX8_setsOf 67 = .ok (.iconst 0, 1) := by decide +kernel
theorem dX8_setsOf_68 : decode cX8_setsOf 68 = .ok (.istore 6, 2) := by decide +kernel
theorem dX8_setsOf_70 : decode cX8_setsOf 70 = .ok (.iload 6, 2) := by decide +kernel
theorem dX8_setsOf_72 : decode cX8_setsOf 72 = .ok (.bipush 40, 2) := by decide +kernel
theorem dX8_setsOf_74 : decode cX8_setsOf 74 = .ok (.if_icmp .ge 122, 3) := by decide +kernel
theorem dX8_setsOf_77 : decode cX8_setsOf 77 = .ok (.iload_n 3, 1) := by decide +kernel
theorem dX8_setsOf_78 : decode cX8_setsOf 78 = .ok (.iload 5, 2) := by decide +kernel
theorem dX8_setsOf_80 : decode cX8_setsOf 80 = .ok (.invokestatic 102, 3) := by decide +kernel
theorem dX8_setsOf_83 : decode cX8_setsOf 83 = .ok (.ifCond .ne 35, 3) := by decide +kernel
theorem dX8_setsOf_86 : decode cX8_setsOf 86 = .ok (.aload_n 0, 1) := by decide +kernel
theorem dX8_setsOf_87 : decode cX8_setsOf 87 = .ok (.getfield 37, 3) := by decide +kernel
theorem dX8_setsOf_90 : decode cX8_setsOf 90 = .ok (.iload 6, 2) := by decide +kernel
theorem dX8_setsOf_92 : decode cX8_setsOf 92 = .ok (.iconst 4, 1) := by decide +kernel
theorem dX8_setsOf_93 : decode cX8_setsOf 93 = .ok (.idiv, 1) := by decide +kernel
theorem dX8_setsOf_94 : decode cX8_setsOf 94 = .ok (.iconst 4, 1) := by decide +kernel
theorem dX8_setsOf_95 : decode cX8_setsOf 95 = .ok (.imul, 1) := by decide +kernel
theorem dX8_setsOf_96 : decode cX8_setsOf 96 = .ok (.iload 5, 2) := by decide +kernel
theorem dX8_setsOf_98 : decode cX8_setsOf 98 = .ok (.iload 6, 2) := by decide +kernel
theorem dX8_setsOf_100 : decode cX8_setsOf 100 = .ok (.iconst 4, 1) := by decide +kernel
theorem dX8_setsOf_101 : decode cX8_setsOf 101 = .ok (.irem, 1) := by decide +kernel
theorem dX8_setsOf_102 : decode cX8_setsOf 102 = .ok (.iconst 0, 1) := by decide +kernel
theorem dX8_setsOf_103 : decode cX8_setsOf 103 = .ok (.invokestatic 105, 3) := by decide +kernel
theorem dX8_setsOf_106 : decode cX8_setsOf 106 = .ok (.iadd, 1) := by decide +kernel
theorem dX8_setsOf_107 : decode cX8_setsOf 107 = .ok (.dup2, 1) := by decide +kernel
theorem dX8_setsOf_108 : decode cX8_setsOf 108 = .ok (.iaload, 1) := by decide +kernel
theorem dX8_setsOf_109 : decode cX8_setsOf 109 = .ok (.aload_n 0, 1) := by decide +kernel
theorem dX8_setsOf_110 : decode cX8_setsOf 110 = .ok (.getfield 34, 3) := by decide +kernel
theorem dX8_setsOf_113 : decode cX8_setsOf 113 = .ok (.iload 6, 2) := by decide +kernel
theorem dX8_setsOf_115 : decode cX8_setsOf 115 = .ok (.iaload, 1) := by decide +kernel
theorem dX8_setsOf_116 : decode cX8_setsOf 116 = .ok (.iadd, 1) := by decide +kernel
theorem dX8_setsOf_117 : decode cX8_setsOf 117 = .ok (.iastore, 1) := by decide +kernel
theorem dX8_setsOf_118 : decode cX8_setsOf 118 = .ok (.iload 6, 2) := by decide +kernel
theorem dX8_setsOf_120 : decode cX8_setsOf 120 = .ok (.bipush 36, 2) := by decide +kernel
theorem dX8_setsOf_122 : decode cX8_setsOf 122 = .ok (.if_icmp .ge 68, 3) := by decide +kernel
theorem dX8_setsOf_125 : decode cX8_setsOf 125 = .ok (.iload_n 1, 1) := by decide +kernel
theorem dX8_setsOf_126 : decode cX8_setsOf 126 = .ok (.iload_n 2, 1) := by decide +kernel
theorem dX8_setsOf_127 : decode cX8_setsOf 127 = .ok (.iconst (-1), 1) := by decide +kernel
theorem dX8_setsOf_128 : decode cX8_setsOf 128 = .ok (.ixor, 1) := by decide +kernel
theorem dX8_setsOf_129 : decode cX8_setsOf 129 = .ok (.iand, 1) := by decide +kernel
theorem dX8_setsOf_130 : decode cX8_setsOf 130 = .ok (.iload 5, 2) := by decide +kernel
theorem dX8_setsOf_132 : decode cX8_setsOf 132 = .ok (.invokestatic 102, 3) := by decide +kernel
theorem dX8_setsOf_135 : decode cX8_setsOf 135 = .ok (.ifCond .eq 55, 3) := by decide +kernel
theorem dX8_setsOf_138 : decode cX8_setsOf 138 = .ok (.aload_n 0, 1) := by decide +kernel
theorem dX8_setsOf_139 : decode cX8_setsOf 139 = .ok (.getfield 7, 3) := by decide +kernel
theorem dX8_setsOf_142 : decode cX8_setsOf 142 = .ok (.iconst 1, 1) := by decide +kernel
theorem dX8_setsOf_143 : decode cX8_setsOf 143 = .ok (.iaload, 1) := by decide +kernel
theorem dX8_setsOf_144 : decode cX8_setsOf 144 = .ok (.iload 5, 2) := by decide +kernel
theorem dX8_setsOf_146 : decode cX8_setsOf 146 = .ok (.iload 6, 2) := by decide +kernel
theorem dX8_setsOf_148 : decode cX8_setsOf 148 = .ok (.iconst 4, 1) := by decide +kernel
theorem dX8_setsOf_149 : decode cX8_setsOf 149 = .ok (.irem, 1) := by decide +kernel
theorem dX8_setsOf_150 : decode cX8_setsOf 150 = .ok (.invokestatic 115, 3) := by decide +kernel
theorem dX8_setsOf_153 : decode cX8_setsOf 153 = .ok (.ifCond .eq 37, 3) := by decide +kernel
theorem dX8_setsOf_156 : decode cX8_setsOf 156 = .ok (.aload_n 0, 1) := by decide +kernel
theorem dX8_setsOf_157 : decode cX8_setsOf 157 = .ok (.getfield 37, 3) := by decide +kernel
theorem dX8_setsOf_160 : decode cX8_setsOf 160 = .ok (.iload 6, 2) := by decide +kernel
theorem dX8_setsOf_162 : decode cX8_setsOf 162 = .ok (.iconst 4, 1) := by decide +kernel
theorem dX8_setsOf_163 : decode cX8_setsOf 163 = .ok (.idiv, 1) := by decide +kernel
theorem dX8_setsOf_164 : decode cX8_setsOf 164 = .ok (.iconst 4, 1) := by decide +kernel
theorem dX8_setsOf_165 : decode cX8_setsOf 165 = .ok (.imul, 1) := by decide +kernel
theorem dX8_setsOf_166 : decode cX8_setsOf 166 = .ok (.iconst 4, 1) := by decide +kernel
theorem dX8_setsOf_167 : decode cX8_setsOf 167 = .ok (.iadd, 1) := by decide +kernel
theorem dX8_setsOf_168 : decode cX8_setsOf 168 = .ok (.iload 5, 2) := by decide +kernel
theorem dX8_setsOf_170 : decode cX8_setsOf 170 = .ok (.iload 6, 2) := by decide +kernel
theorem dX8_setsOf_172 : decode cX8_setsOf 172 = .ok (.iconst 4, 1) := by decide +kernel
theorem dX8_setsOf_173 : decode cX8_setsOf 173 = .ok (.irem, 1) := by decide +kernel
theorem dX8_setsOf_174 : decode cX8_setsOf 174 = .ok (.iconst 1, 1) := by decide +kernel
theorem dX8_setsOf_175 : decode cX8_setsOf 175 = .ok (.invokestatic 105, 3) := by decide +kernel
theorem dX8_setsOf_178 : decode cX8_setsOf 178 = .ok (.iadd, 1) := by decide +kernel
theorem dX8_setsOf_179 : decode cX8_setsOf 179 = .ok (.dup2, 1) := by decide +kernel
theorem dX8_setsOf_180 : decode cX8_setsOf 180 = .ok (.iaload, 1) := by decide +kernel
theorem dX8_setsOf_181 : decode cX8_setsOf 181 = .ok (.aload_n 0, 1) := by decide +kernel
theorem dX8_setsOf_182 : decode cX8_setsOf 182 = .ok (.getfield 34, 3) := by decide +kernel
theorem dX8_setsOf_185 : decode cX8_setsOf 185 = .ok (.iload 6, 2) := by decide +kernel
theorem dX8_setsOf_187 : decode cX8_setsOf 187 = .ok (.iaload, 1) := by decide +kernel
theorem dX8_setsOf_188 : decode cX8_setsOf 188 = .ok (.iadd, 1) := by decide +kernel
theorem dX8_setsOf_189 : decode cX8_setsOf 189 = .ok (.iastore, 1) := by decide +kernel
theorem dX8_setsOf_190 : decode cX8_setsOf 190 = .ok (.iinc 6 1, 3) := by decide +kernel
theorem dX8_setsOf_193 : decode cX8_setsOf 193 = .ok (.goto (-123), 3) := by decide +kernel
theorem dX8_setsOf_196 : decode cX8_setsOf 196 = .ok (.iconst 0, 1) := by decide +kernel
theorem dX8_setsOf_197 : decode cX8_setsOf 197 = .ok (.istore 6, 2) := by decide +kernel
theorem dX8_setsOf_199 : decode cX8_setsOf 199 = .ok (.iload 6, 2) := by decide +kernel
theorem dX8_setsOf_201 : decode cX8_setsOf 201 = .ok (.bipush 40, 2) := by decide +kernel
theorem dX8_setsOf_203 : decode cX8_setsOf 203 = .ok (.if_icmp .ge 23, 3) := by decide +kernel
theorem dX8_setsOf_206 : decode cX8_setsOf 206 = .ok (.aload_n 0, 1) := by decide +kernel
theorem dX8_setsOf_207 : decode cX8_setsOf 207 = .ok (.getfield 34, 3) := by decide +kernel
theorem dX8_setsOf_210 : decode cX8_setsOf 210 = .ok (.iload 6, 2) := by decide +kernel
theorem dX8_setsOf_212 : decode cX8_setsOf 212 = .ok (.aload_n 0, 1) := by decide +kernel
theorem dX8_setsOf_213 : decode cX8_setsOf 213 = .ok (.getfield 37, 3) := by decide +kernel
theorem dX8_setsOf_216 : decode cX8_setsOf 216 = .ok (.iload 6, 2) := by decide +kernel
theorem dX8_setsOf_218 : decode cX8_setsOf 218 = .ok (.iaload, 1) := by decide +kernel
theorem dX8_setsOf_219 : decode cX8_setsOf 219 = .ok (.iastore, 1) := by decide +kernel
theorem dX8_setsOf_220 : decode cX8_setsOf 220 = .ok (.iinc 6 1, 3) := by decide +kernel
theorem dX8_setsOf_223 : decode cX8_setsOf 223 = .ok (.goto (-24), 3) := by decide +kernel
theorem dX8_setsOf_226 : decode cX8_setsOf 226 = .ok (.iinc 5 1, 3) := by decide +kernel
theorem dX8_setsOf_229 : decode cX8_setsOf 229 = .ok (.goto (-193), 3) := by decide +kernel
theorem dX8_setsOf_232 : decode cX8_setsOf 232 = .ok (.aload_n 0, 1) := by decide +kernel
theorem dX8_setsOf_233 : decode cX8_setsOf 233 = .ok (.getfield 34, 3) := by decide +kernel
theorem dX8_setsOf_236 : decode cX8_setsOf 236 = .ok (.iconst 4, 1) := by decide +kernel
theorem dX8_setsOf_237 : decode cX8_setsOf 237 = .ok (.iload 4, 2) := by decide +kernel
theorem dX8_setsOf_239 : decode cX8_setsOf 239 = .ok (.imul, 1) := by decide +kernel
theorem dX8_setsOf_240 : decode cX8_setsOf 240 = .ok (.iaload, 1) := by decide +kernel
theorem dX8_setsOf_241 : decode cX8_setsOf 241 = .ok (.aload_n 0, 1) := by decide +kernel
theorem dX8_setsOf_242 : decode cX8_setsOf 242 = .ok (.getfield 34, 3) := by decide +kernel
theorem dX8_setsOf_245 : decode cX8_setsOf 245 = .ok (.iconst 4, 1) := by decide +kernel
theorem dX8_setsOf_246 : decode cX8_setsOf 246 = .ok (.iload 4, 2) := by decide +kernel
theorem dX8_setsOf_248 : decode cX8_setsOf 248 = .ok (.imul, 1) := by decide +kernel
theorem dX8_setsOf_249 : decode cX8_setsOf 249 = .ok (.iconst 1, 1) := by decide +kernel
theorem dX8_setsOf_250 : decode cX8_setsOf 250 = .ok (.iadd, 1) := by decide +kernel
theorem dX8_setsOf_251 : decode cX8_setsOf 251 = .ok (.iaload, 1) := by decide +kernel
theorem dX8_setsOf_252 : decode cX8_setsOf 252 = .ok (.iadd, 1) := by decide +kernel
theorem dX8_setsOf_253 : decode cX8_setsOf 253 = .ok (.aload_n 0, 1) := by decide +kernel
theorem dX8_setsOf_254 : decode cX8_setsOf 254 = .ok (.getfield 34, 3) := by decide +kernel
theorem dX8_setsOf_257 : decode cX8_setsOf 257 = .ok (.iconst 4, 1) := by decide +kernel
theorem dX8_setsOf_258 : decode cX8_setsOf 258 = .ok (.iload 4, 2) := by decide +kernel
theorem dX8_setsOf_260 : decode cX8_setsOf 260 = .ok (.imul, 1) := by decide +kernel
theorem dX8_setsOf_261 : decode cX8_setsOf 261 = .ok (.iconst 2, 1) := by decide +kernel
theorem dX8_setsOf_262 : decode cX8_setsOf 262 = .ok (.iadd, 1) := by decide +kernel
theorem dX8_setsOf_263 : decode cX8_setsOf 263 = .ok (.iaload, 1) := by decide +kernel
theorem dX8_setsOf_264 : decode cX8_setsOf 264 = .ok (.iadd, 1) := by decide +kernel
theorem dX8_setsOf_265 : decode cX8_setsOf 265 = .ok (.aload_n 0, 1) := by decide +kernel
theorem dX8_setsOf_266 : decode cX8_setsOf 266 = .ok (.getfield 34, 3) := by decide +kernel
theorem dX8_setsOf_269 : decode cX8_setsOf 269 = .ok (.iconst 4, 1) := by decide +kernel
theorem dX8_setsOf_270 : decode cX8_setsOf 270 = .ok (.iload 4, 2) := by decide +kernel
theorem dX8_setsOf_272 : decode cX8_setsOf 272 = .ok (.imul, 1) := by decide +kernel
theorem dX8_setsOf_273 : decode cX8_setsOf 273 = .ok (.iconst 3, 1) := by decide +kernel
theorem dX8_setsOf_274 : decode cX8_setsOf 274 = .ok (.iadd, 1) := by decide +kernel
theorem dX8_setsOf_275 : decode cX8_setsOf 275 = .ok (.iaload, 1) := by decide +kernel
theorem dX8_setsOf_276 : decode cX8_setsOf 276 = .ok (.iadd, 1) := by decide +kernel
theorem dX8_setsOf_277 : decode cX8_setsOf 277 = .ok (.ireturn, 1) := by decide +kernel
theorem dX8_areWords_0 : decode cX8_areWords 0 = .ok (.iload_n 0, 1) := by decide +kernel
theorem dX8_areWords_1 : decode cX8_areWords 1 = .ok (.i2l, 1) := by decide +kernel
theorem dX8_areWords_2 : decode cX8_areWords 2 = .ok (.lconst 0, 1) := by decide +kernel
theorem dX8_areWords_3 : decode cX8_areWords 3 = .ok (.ldc2_w 147, 3) := by decide +kernel
theorem dX8_areWords_6 : decode cX8_areWords 6 = .ok (.invokestatic 40, 3) := by decide +kernel
theorem dX8_areWords_9 : decode cX8_areWords 9 = .ok (.ifCond .eq 41, 3) := by decide +kernel
theorem dX8_areWords_12 : decode cX8_areWords 12 = .ok (.iload_n 1, 1) := by decide +kernel
theorem dX8_areWords_13 : decode cX8_areWords 13 = .ok (.iload_n 0, 1) := by decide +kernel
theorem dX8_areWords_14 : decode cX8_areWords 14 = .ok (.iconst (-1), 1) := by decide +kernel
theorem dX8_areWords_15 : decode cX8_areWords 15 = .ok (.ixor, 1) := by decide +kernel
theorem dX8_areWords_16 : decode cX8_areWords 16 = .ok (.iand, 1) := by decide +kernel
theorem dX8_areWords_17 : decode cX8_areWords 17 = .ok (.ifCond .ne 33, 3) := by decide +kernel
theorem dX8_areWords_20 : decode cX8_areWords 20 = .ok (.iload_n 2, 1) := by decide +kernel
theorem dX8_areWords_21 : decode cX8_areWords 21 = .ok (.iload_n 0, 1) := by decide +kernel
theorem dX8_areWords_22 : decode cX8_areWords 22 = .ok (.iconst (-1), 1) := by decide +kernel
theorem dX8_areWords_23 : decode cX8_areWords 23 = .ok (.ixor, 1) := by decide +kernel
theorem dX8_areWords_24 : decode cX8_areWords 24 = .ok (.iand, 1) := by decide +kernel
theorem dX8_areWords_25 : decode cX8_areWords 25 = .ok (.ifCond .ne 25, 3) := by decide +kernel
theorem dX8_areWords_28 : decode cX8_areWords 28 = .ok (.iload_n 1, 1) := by decide +kernel
theorem dX8_areWords_29 : decode cX8_areWords 29 = .ok (.iload_n 2, 1) := by decide +kernel
theorem dX8_areWords_30 : decode cX8_areWords 30 = .ok (.iand, 1) := by decide +kernel
theorem dX8_areWords_31 : decode cX8_areWords 31 = .ok (.ifCond .ne 19, 3) := by decide +kernel
theorem dX8_areWords_34 : decode cX8_areWords 34 = .ok (.iload_n 3, 1) := by decide +kernel
theorem dX8_areWords_35 : decode cX8_areWords 35 = .ok (.i2l, 1) := by decide +kernel
theorem dX8_areWords_36 : decode cX8_areWords 36 = .ok (.lconst 0, 1) := by decide +kernel
theorem dX8_areWords_37 : decode cX8_areWords 37 = .ok (.ldc2_w 60, 3) := by decide +kernel
theorem dX8_areWords_40 : decode cX8_areWords 40 = .ok (.invokestatic 40, 3) := by decide +kernel
theorem dX8_areWords_43 : decode cX8_areWords 43 = .ok (.ifCond .eq 7, 3) := by decide +kernel
theorem dX8_areWords_46 : decode cX8_areWords 46 = .ok (.iconst 1, 1) := by decide +kernel
theorem dX8_areWords_47 : decode cX8_areWords 47 = .ok (.goto 4, 3) := by decide +kernel
theorem dX8_areWords_50 : decode cX8_areWords 50 = .ok (.iconst 0, 1) := by decide +kernel
theorem dX8_areWords_51 : decode cX8_areWords 51 = .ok (.ireturn, 1) := by decide +kernel
theorem dX8_sets_0 : decode cX8_sets 0 = .ok (.iload_n 1, 1) := by decide +kernel
theorem dX8_sets_1 : decode cX8_sets 1 = .ok (.iload_n 2, 1) := by decide +kernel
theorem dX8_sets_2 : decode cX8_sets 2 = .ok (.iload_n 3, 1) := by decide +kernel
theorem dX8_sets_3 : decode cX8_sets 3 = .ok (.iload 4, 2) := by decide +kernel
theorem dX8_sets_5 : decode cX8_sets 5 = .ok (.invokestatic 149, 3) := by decide +kernel
theorem dX8_sets_8 : decode cX8_sets 8 = .ok (.ifCond .eq 15, 3) := by decide +kernel
theorem dX8_sets_11 : decode cX8_sets 11 = .ok (.aload_n 0, 1) := by decide +kernel
theorem dX8_sets_12 : decode cX8_sets 12 = .ok (.iload_n 1, 1) := by decide +kernel
theorem dX8_sets_13 : decode cX8_sets 13 = .ok (.iload_n 2, 1) := by decide +kernel
theorem dX8_sets_14 : decode cX8_sets 14 = .ok (.iload_n 3, 1) := by decide +kernel
theorem dX8_sets_15 : decode cX8_sets 15 = .ok (.iload 4, 2) := by decide +kernel
theorem dX8_sets_17 : decode cX8_sets 17 = .ok (.invokevirtual 153, 3) := by decide +kernel
theorem dX8_sets_20 : decode cX8_sets 20 = .ok (.goto 4, 3) := by decide +kernel
theorem dX8_sets_23 : decode cX8_sets 23 = .ok (.iconst (-1), 1) := by decide +kernel
theorem dX8_sets_24 : decode cX8_sets 24 = .ok (.ireturn, 1) := by decide +kernel
theorem dX8_surely_0 : decode cX8_surely 0 = .ok (.iload_n 1, 1) := by decide +kernel
theorem dX8_surely_1 : decode cX8_surely 1 = .ok (.iload_n 2, 1) := by decide +kernel
theorem dX8_surely_2 : decode cX8_surely 2 = .ok (.iload_n 3, 1) := by decide +kernel
theorem dX8_surely_3 : decode cX8_surely 3 = .ok (.iload 4, 2) := by decide +kernel
theorem dX8_surely_5 : decode cX8_surely 5 = .ok (.invokestatic 149, 3) := by decide +kernel
theorem dX8_surely_8 : decode cX8_surely 8 = .ok (.ifCond .eq 14, 3) := by decide +kernel
theorem dX8_surely_11 : decode cX8_surely 11 = .ok (.iload 5, 2) := by decide +kernel
theorem dX8_surely_13 : decode cX8_surely 13 = .ok (.i2l, 1) := by decide +kernel
theorem dX8_surely_14 : decode cX8_surely 14 = .ok (.lconst 0, 1) := by decide +kernel
theorem dX8_surely_15 : decode cX8_surely 15 = .ok (.lconst 1, 1) := by decide +kernel
theorem dX8_surely_16 : decode cX8_surely 16 = .ok (.invokestatic 40, 3) := by decide +kernel
theorem dX8_surely_19 : decode cX8_surely 19 = .ok (.ifCond .ne 5, 3) := by decide +kernel
theorem dX8_surely_22 : decode cX8_surely 22 = .ok (.iconst (-1), 1) := by decide +kernel
theorem dX8_surely_23 : decode cX8_surely 23 = .ok (.ireturn, 1) := by decide +kernel
theorem dX8_surely_24 : decode cX8_surely 24 = .ok (.aload_n 0, 1) := by decide +kernel
theorem dX8_surely_25 : decode cX8_surely 25 = .ok (.iload_n 1, 1) := by decide +kernel
theorem dX8_surely_26 : decode cX8_surely 26 = .ok (.iload_n 2, 1) := by decide +kernel
theorem dX8_surely_27 : decode cX8_surely 27 = .ok (.iload_n 3, 1) := by decide +kernel
theorem dX8_surely_28 : decode cX8_surely 28 = .ok (.iload 4, 2) := by decide +kernel
theorem dX8_surely_30 : decode cX8_surely 30 = .ok (.invokevirtual 153, 3) := by decide +kernel
theorem dX8_surely_33 : decode cX8_surely 33 = .ok (.ifCond .ne 6, 3) := by decide +kernel
theorem dX8_surely_36 : decode cX8_surely 36 = .ok (.bipush (-4), 2) := by decide +kernel
theorem dX8_surely_38 : decode cX8_surely 38 = .ok (.ireturn, 1) := by decide +kernel
theorem dX8_surely_39 : decode cX8_surely 39 = .ok (.iconst 0, 1) := by decide +kernel
theorem dX8_surely_40 : decode cX8_surely 40 = .ok (.istore 6, 2) := by decide +kernel
theorem dX8_surely_42 : decode cX8_surely 42 = .ok (.iconst 0, 1) := by decide +kernel
theorem dX8_surely_43 : decode cX8_surely 43 = .ok (.istore 7, 2) := by decide +kernel
theorem dX8_surely_45 : decode cX8_surely 45 = .ok (.iload 7, 2) := by decide +kernel
theorem dX8_surely_47 : decode cX8_surely 47 = .ok (.bipush 28, 2) := by decide +kernel
theorem dX8_surely_49 : decode cX8_surely 49 = .ok (.if_icmp .ge 138, 3) := by decide +kernel
theorem dX8_surely_52 : decode cX8_surely 52 = .ok (.iload_n 1, 1) := by decide +kernel
theorem dX8_surely_53 : decode cX8_surely 53 = .ok (.iload 7, 2) := by decide +kernel
theorem dX8_surely_55 : decode cX8_surely 55 = .ok (.invokestatic 102, 3) := by decide +kernel
theorem dX8_surely_58 : decode cX8_surely 58 = .ok (.ifCond .ne 6, 3) := by decide +kernel
theorem dX8_surely_61 : decode cX8_surely 61 = .ok (.goto 120, 3) := by decide +kernel
theorem dX8_surely_64 : decode cX8_surely 64 = .ok (.iload 5, 2) := by decide +kernel
theorem dX8_surely_66 : decode cX8_surely 66 = .ok (.ifCond .ne 7, 3) := by decide +kernel
theorem dX8_surely_69 : decode cX8_surely 69 = .ok (.iload_n 2, 1) := by decide +kernel
theorem dX8_surely_70 : decode cX8_surely 70 = .ok (.goto 4, 3) := by decide +kernel
theorem dX8_surely_73 : decode cX8_surely 73 = .ok (.iload_n 3, 1) := by decide +kernel
theorem dX8_surely_74 : decode cX8_surely 74 = .ok (.iload 7, 2) := by decide +kernel
theorem dX8_surely_76 : decode cX8_surely 76 = .ok (.invokestatic 102, 3) := by decide +kernel
theorem dX8_surely_79 : decode cX8_surely 79 = .ok (.istore 8, 2) := by decide +kernel
theorem dX8_surely_81 : decode cX8_surely 81 = .ok (.iload 5, 2) := by decide +kernel
theorem dX8_surely_83 : decode cX8_surely 83 = .ok (.ifCond .ne 42, 3) := by decide +kernel
theorem dX8_surely_86 : decode cX8_surely 86 = .ok (.iload_n 3, 1) := by decide +kernel
theorem dX8_surely_87 : decode cX8_surely 87 = .ok (.iload 7, 2) := by decide +kernel
theorem dX8_surely_89 : decode cX8_surely 89 = .ok (.invokestatic 102, 3) := by decide +kernel
theorem dX8_surely_92 : decode cX8_surely 92 = .ok (.ifCond .ne 25, 3) := by decide +kernel
theorem dX8_surely_95 : decode cX8_surely 95 = .ok (.iload 8, 2) := by decide +kernel
theorem dX8_surely_97 : decode cX8_surely 97 = .ok (.ifCond .ne 24, 3) := by decide +kernel
theorem dX8_surely_100 : decode cX8_surely 100 = .ok (.aload_n 0, 1) := by decide +kernel
theorem dX8_surely_101 : decode cX8_surely 101 = .ok (.iload_n 1, 1) := by decide +kernel
theorem dX8_surely_102 : decode cX8_surely 102 = .ok (.iload_n 2, 1) := by decide +kernel
theorem dX8_surely_103 : decode cX8_surely 103 = .ok (.iconst 1, 1) := by decide +kernel
theorem dX8_surely_104 : decode cX8_surely 104 = .ok (.iload 7, 2) := by decide +kernel
theorem dX8_surely_106 : decode cX8_surely 106 = .ok (.ishl, 1) := by decide +kernel
theorem dX8_surely_107 : decode cX8_surely 107 = .ok (.ior, 1) := by decide +kernel
theorem dX8_surely_108 : decode cX8_surely 108 = .ok (.iload_n 3, 1) := by decide +kernel
theorem dX8_surely_109 : decode cX8_surely 109 = .ok (.iload 4, 2) := by decide +kernel
theorem dX8_surely_111 : decode cX8_surely 111 = .ok (.invokevirtual 153, 3) := by decide +kernel
theorem dX8_surely_114 : decode cX8_surely 114 = .ok (.ifCond .ne 7, 3) := by decide +kernel
theorem dX8_surely_117 : decode cX8_surely 117 = .ok (.iconst 1, 1) := by decide +kernel
theorem dX8_surely_118 : decode cX8_surely 118 = .ok (.goto 43, 3) := by decide +kernel
theorem dX8_surely_121 : decode cX8_surely 121 = .ok (.iconst 0, 1) := by decide +kernel
theorem dX8_surely_122 : decode cX8_surely 122 = .ok (.goto 39, 3) := by decide +kernel
theorem dX8_surely_125 : decode cX8_surely 125 = .ok (.iload_n 2, 1) := by decide +kernel
theorem dX8_surely_126 : decode cX8_surely 126 = .ok (.iload 7, 2) := by decide +kernel
theorem dX8_surely_128 : decode cX8_surely 128 = .ok (.invokestatic 102, 3) := by decide +kernel
theorem dX8_surely_131 : decode cX8_surely 131 = .ok (.ifCond .ne 25, 3) := by decide +kernel
theorem dX8_surely_134 : decode cX8_surely 134 = .ok (.iload 8, 2) := by decide +kernel
theorem dX8_surely_136 : decode cX8_surely 136 = .ok (.ifCond .ne 24, 3) := by decide +kernel
theorem dX8_surely_139 : decode cX8_surely 139 = .ok (.aload_n 0, 1) := by decide +kernel
theorem dX8_surely_140 : decode cX8_surely 140 = .ok (.iload_n 1, 1) := by decide +kernel
theorem dX8_surely_141 : decode cX8_surely 141 = .ok (.iload_n 2, 1) := by decide +kernel
theorem dX8_surely_142 : decode cX8_surely 142 = .ok (.iload_n 3, 1) := by decide +kernel
theorem dX8_surely_143 : decode cX8_surely 143 = .ok (.iconst 1, 1) := by decide +kernel
theorem dX8_surely_144 : decode cX8_surely 144 = .ok (.iload 7, 2) := by decide +kernel
theorem dX8_surely_146 : decode cX8_surely 146 = .ok (.ishl, 1) := by decide +kernel
theorem dX8_surely_147 : decode cX8_surely 147 = .ok (.ior, 1) := by decide +kernel
theorem dX8_surely_148 : decode cX8_surely 148 = .ok (.iload 4, 2) := by decide +kernel
theorem dX8_surely_150 : decode cX8_surely 150 = .ok (.invokevirtual 153, 3) := by decide +kernel
theorem dX8_surely_153 : decode cX8_surely 153 = .ok (.ifCond .ne 7, 3) := by decide +kernel
theorem dX8_surely_156 : decode cX8_surely 156 = .ok (.iconst 1, 1) := by decide +kernel
theorem dX8_surely_157 : decode cX8_surely 157 = .ok (.goto 4, 3) := by decide +kernel
theorem dX8_surely_160 : decode cX8_surely 160 = .ok (.iconst 0, 1) := by decide +kernel
theorem dX8_surely_161 : decode cX8_surely 161 = .ok (.istore 9, 2) := by decide +kernel
theorem dX8_surely_163 : decode cX8_surely 163 = .ok (.iload 6, 2) := by decide +kernel
theorem dX8_surely_165 : decode cX8_surely 165 = .ok (.iload 9, 2) := by decide +kernel
theorem dX8_surely_167 : decode cX8_surely 167 = .ok (.ifCond .eq 10, 3) := by decide +kernel
theorem dX8_surely_170 : decode cX8_surely 170 = .ok (.iconst 1, 1) := by decide +kernel
theorem dX8_surely_171 : decode cX8_surely 171 = .ok (.iload 7, 2) := by decide +kernel
theorem dX8_surely_173 : decode cX8_surely 173 = .ok (.ishl, 1) := by decide +kernel
theorem dX8_surely_174 : decode cX8_surely 174 = .ok (.goto 4, 3) := by decide +kernel
theorem dX8_surely_177 : decode cX8_surely 177 = .ok (.iconst 0, 1) := by decide +kernel
theorem dX8_surely_178 : decode cX8_surely 178 = .ok (.ior, 1) := by decide +kernel
theorem dX8_surely_179 : decode cX8_surely 179 = .ok (.istore 6, 2) := by decide +kernel
theorem dX8_surely_181 : decode cX8_surely 181 = .ok (.iinc 7 1, 3) := by decide +kernel
theorem dX8_surely_184 : decode cX8_surely 184 = .ok (.goto (-139), 3) := by decide +kernel
theorem dX8_surely_187 : decode cX8_surely 187 = .ok (.iload 6, 2) := by decide +kernel
theorem dX8_surely_189 : decode cX8_surely 189 = .ok (.ireturn, 1) := by decide +kernel
theorem dX8_lots_0 : decode cX8_lots 0 = .ok (.iconst 0, 1) := by decide +kernel
theorem dX8_lots_1 : decode cX8_lots 1 = .ok (.istore_n 1, 1) := by decide +kernel
theorem dX8_lots_2 : decode cX8_lots 2 = .ok (.aload_n 0, 1) := by decide +kernel
theorem dX8_lots_3 : decode cX8_lots 3 = .ok (.getfield 7, 3) := by decide +kernel
theorem dX8_lots_6 : decode cX8_lots 6 = .ok (.iconst 0, 1) := by decide +kernel
theorem dX8_lots_7 : decode cX8_lots 7 = .ok (.iaload, 1) := by decide +kernel
theorem dX8_lots_8 : decode cX8_lots 8 = .ok (.istore_n 2, 1) := by decide +kernel
theorem dX8_lots_9 : decode cX8_lots 9 = .ok (.iconst 0, 1) := by decide +kernel
theorem dX8_lots_10 : decode cX8_lots 10 = .ok (.istore_n 3, 1) := by decide +kernel
theorem dX8_lots_11 : decode cX8_lots 11 = .ok (.iconst 0, 1) := by decide +kernel
theorem dX8_lots_12 : decode cX8_lots 12 = .ok (.istore 4, 2) := by decide +kernel
theorem dX8_lots_14 : decode cX8_lots 14 = .ok (.iload 4, 2) := by decide +kernel
theorem dX8_lots_16 : decode cX8_lots 16 = .ok (.aload_n 0, 1) := by decide +kernel
theorem dX8_lots_17 : decode cX8_lots 17 = .ok (.getfield 7, 3) := by decide +kernel
theorem dX8_lots_20 : decode cX8_lots 20 = .ok (.iconst 4, 1) := by decide +kernel
theorem dX8_lots_21 : decode cX8_lots 21 = .ok (.iaload, 1) := by decide +kernel
theorem dX8_lots_22 : decode cX8_lots 22 = .ok (.if_icmp .ge 114, 3) := by decide +kernel
theorem dX8_lots_25 : decode cX8_lots 25 = .ok (.aload_n 0, 1) := by decide +kernel
theorem dX8_lots_26 : decode cX8_lots 26 = .ok (.getfield 7, 3) := by decide +kernel
theorem dX8_lots_29 : decode cX8_lots 29 = .ok (.iconst 3, 1) := by decide +kernel
theorem dX8_lots_30 : decode cX8_lots 30 = .ok (.aload_n 0, 1) := by decide +kernel
theorem dX8_lots_31 : decode cX8_lots 31 = .ok (.getfield 7, 3) := by decide +kernel
theorem dX8_lots_34 : decode cX8_lots 34 = .ok (.iconst 3, 1) := by decide +kernel
theorem dX8_lots_35 : decode cX8_lots 35 = .ok (.iaload, 1) := by decide +kernel
theorem dX8_lots_36 : decode cX8_lots 36 = .ok (.i2l, 1) := by decide +kernel
theorem dX8_lots_37 : decode cX8_lots 37 = .ok (.ldc2_w 157, 3) := by decide +kernel
theorem dX8_lots_40 : decode cX8_lots 40 = .ok (.lmul, 1) := by decide +kernel
theorem dX8_lots_41 : decode cX8_lots 41 = .ok (.ldc2_w 159, 3) := by decide +kernel
theorem dX8_lots_44 : decode cX8_lots 44 = .ok (.ladd, 1) := by decide +kernel
theorem dX8_lots_45 : decode cX8_lots 45 = .ok (.ldc2_w 161, 3) := by decide +kernel
theorem dX8_lots_48 : decode cX8_lots 48 = .ok (.land, 1) := by decide +kernel
theorem dX8_lots_49 : decode cX8_lots 49 = .ok (.l2i, 1) := by decide +kernel
theorem dX8_lots_50 : decode cX8_lots 50 = .ok (.iastore, 1) := by decide +kernel
theorem dX8_lots_51 : decode cX8_lots 51 = .ok (.aload_n 0, 1) := by decide +kernel
theorem dX8_lots_52 : decode cX8_lots 52 = .ok (.iload 4, 2) := by decide +kernel
theorem dX8_lots_54 : decode cX8_lots 54 = .ok (.iload_n 2, 1) := by decide +kernel
theorem dX8_lots_55 : decode cX8_lots 55 = .ok (.iload_n 3, 1) := by decide +kernel
theorem dX8_lots_56 : decode cX8_lots 56 = .ok (.invokevirtual 141, 3) := by decide +kernel
theorem dX8_lots_59 : decode cX8_lots 59 = .ok (.ifCond .eq 30, 3) := by decide +kernel
theorem dX8_lots_62 : decode cX8_lots 62 = .ok (.aload_n 0, 1) := by decide +kernel
theorem dX8_lots_63 : decode cX8_lots 63 = .ok (.getfield 7, 3) := by decide +kernel
theorem dX8_lots_66 : decode cX8_lots 66 = .ok (.iconst 3, 1) := by decide +kernel
theorem dX8_lots_67 : decode cX8_lots 67 = .ok (.iaload, 1) := by decide +kernel
theorem dX8_lots_68 : decode cX8_lots 68 = .ok (.ldc 163, 2) := by decide +kernel
theorem dX8_lots_70 : decode cX8_lots 70 = .ok (.idiv, 1) := by decide +kernel
theorem dX8_lots_71 : decode cX8_lots 71 = .ok (.aload_n 0, 1) := by decide +kernel
theorem dX8_lots_72 : decode cX8_lots 72 = .ok (.getfield 7, 3) := by decide +kernel
theorem dX8_lots_75 : decode cX8_lots 75 = .ok (.iconst 4, 1) := by decide +kernel
theorem dX8_lots_76 : decode cX8_lots 76 = .ok (.iaload, 1) := by decide +kernel
theorem dX8_lots_77 : decode cX8_lots 77 = .ok (.iload 4, 2) := by decide +kernel
theorem dX8_lots_79 : decode cX8_lots 79 = .ok (.isub, 1) := by decide +kernel
theorem dX8_lots_80 : decode cX8_lots 80 = .ok (.irem, 1) := by decide +kernel
theorem dX8_lots_81 : decode cX8_lots 81 = .ok (.iload_n 2, 1) := by decide +kernel
theorem dX8_lots_82 : decode cX8_lots 82 = .ok (.if_icmp .ge 7, 3) := by decide +kernel
theorem dX8_lots_85 : decode cX8_lots 85 = .ok (.iconst 1, 1) := by decide +kernel
theorem dX8_lots_86 : decode cX8_lots 86 = .ok (.goto 4, 3) := by decide +kernel
theorem dX8_lots_89 : decode cX8_lots 89 = .ok (.iconst 0, 1) := by decide +kernel
theorem dX8_lots_90 : decode cX8_lots 90 = .ok (.istore 5, 2) := by decide +kernel
theorem dX8_lots_92 : decode cX8_lots 92 = .ok (.iload_n 1, 1) := by decide +kernel
theorem dX8_lots_93 : decode cX8_lots 93 = .ok (.iload 5, 2) := by decide +kernel
theorem dX8_lots_95 : decode cX8_lots 95 = .ok (.ifCond .eq 10, 3) := by decide +kernel
theorem dX8_lots_98 : decode cX8_lots 98 = .ok (.iconst 1, 1) := by decide +kernel
theorem dX8_lots_99 : decode cX8_lots 99 = .ok (.iload 4, 2) := by decide +kernel
theorem dX8_lots_101 : decode cX8_lots 101 = .ok (.ishl, 1) := by decide +kernel
theorem dX8_lots_102 : decode cX8_lots 102 = .ok (.goto 4, 3) := by decide +kernel
theorem dX8_lots_105 : decode cX8_lots 105 = .ok (.iconst 0, 1) := by decide +kernel
theorem dX8_lots_106 : decode cX8_lots 106 = .ok (.ior, 1) := by decide +kernel
theorem dX8_lots_107 : decode cX8_lots 107 = .ok (.istore_n 1, 1) := by decide +kernel
theorem dX8_lots_108 : decode cX8_lots 108 = .ok (.iload 4, 2) := by decide +kernel
theorem dX8_lots_110 : decode cX8_lots 110 = .ok (.iload_n 3, 1) := by decide +kernel
theorem dX8_lots_111 : decode cX8_lots 111 = .ok (.iload 5, 2) := by decide +kernel
theorem dX8_lots_113 : decode cX8_lots 113 = .ok (.invokestatic 105, 3) := by decide +kernel
theorem dX8_lots_116 : decode cX8_lots 116 = .ok (.istore_n 3, 1) := by decide +kernel
theorem dX8_lots_117 : decode cX8_lots 117 = .ok (.iload_n 2, 1) := by decide +kernel
theorem dX8_lots_118 : decode cX8_lots 118 = .ok (.iload 5, 2) := by decide +kernel
theorem dX8_lots_120 : decode cX8_lots 120 = .ok (.ifCond .eq 7, 3) := by decide +kernel
theorem dX8_lots_123 : decode cX8_lots 123 = .ok (.iconst 1, 1) := by decide +kernel
theorem dX8_lots_124 : decode cX8_lots 124 = .ok (.goto 4, 3) := by decide +kernel
theorem dX8_lots_127 : decode cX8_lots 127 = .ok (.iconst 0, 1) := by decide +kernel
theorem dX8_lots_128 : decode cX8_lots 128 = .ok (.isub, 1) := by decide +kernel
theorem dX8_lots_129 : decode cX8_lots 129 = .ok (.istore_n 2, 1) := by decide +kernel
theorem dX8_lots_130 : decode cX8_lots 130 = .ok (.iinc 4 1, 3) := by decide +kernel
theorem dX8_lots_133 : decode cX8_lots 133 = .ok (.goto (-119), 3) := by decide +kernel
theorem dX8_lots_136 : decode cX8_lots 136 = .ok (.iload_n 1, 1) := by decide +kernel
theorem dX8_lots_137 : decode cX8_lots 137 = .ok (.ireturn, 1) := by decide +kernel
theorem dX8_seed_0 : decode cX8_seed 0 = .ok (.iload_n 1, 1) := by decide +kernel
theorem dX8_seed_1 : decode cX8_seed 1 = .ok (.ifCond .ge 7, 3) := by decide +kernel
theorem dX8_seed_4 : decode cX8_seed 4 = .ok (.iconst (-1), 1) := by decide +kernel
theorem dX8_seed_5 : decode cX8_seed 5 = .ok (.goto 9, 3) := by decide +kernel
theorem dX8_seed_8 : decode cX8_seed 8 = .ok (.aload_n 0, 1) := by decide +kernel
theorem dX8_seed_9 : decode cX8_seed 9 = .ok (.iconst 3, 1) := by decide +kernel
theorem dX8_seed_10 : decode cX8_seed 10 = .ok (.iload_n 1, 1) := by decide +kernel
theorem dX8_seed_11 : decode cX8_seed 11 = .ok (.invokevirtual 56, 3) := by decide +kernel
theorem dX8_seed_14 : decode cX8_seed 14 = .ok (.ireturn, 1) := by decide +kernel
theorem dX8_image_0 : decode cX8_image 0 = .ok (.iconst 0, 1) := by decide +kernel
theorem dX8_image_1 : decode cX8_image 1 = .ok (.istore_n 1, 1) := by decide +kernel
theorem dX8_image_2 : decode cX8_image 2 = .ok (.iload_n 1, 1) := by decide +kernel
theorem dX8_image_3 : decode cX8_image 3 = .ok (.bipush 89, 2) := by decide +kernel
theorem dX8_image_5 : decode cX8_image 5 = .ok (.if_icmp .ge 21, 3) := by decide +kernel
theorem dX8_image_8 : decode cX8_image 8 = .ok (.aload_n 0, 1) := by decide +kernel
theorem dX8_image_9 : decode cX8_image 9 = .ok (.getfield 13, 3) := by decide +kernel
theorem dX8_image_12 : decode cX8_image 12 = .ok (.iload_n 1, 1) := by decide +kernel
theorem dX8_image_13 : decode cX8_image 13 = .ok (.aload_n 0, 1) := by decide +kernel
theorem dX8_image_14 : decode cX8_image 14 = .ok (.getfield 7, 3) := by decide +kernel
theorem dX8_image_17 : decode cX8_image 17 = .ok (.iload_n 1, 1) := by decide +kernel
theorem dX8_image_18 : decode cX8_image 18 = .ok (.iaload, 1) := by decide +kernel
theorem dX8_image_19 : decode cX8_image 19 = .ok (.iastore, 1) := by decide +kernel
theorem dX8_image_20 : decode cX8_image 20 = .ok (.iinc 1 1, 3) := by decide +kernel
theorem dX8_image_23 : decode cX8_image 23 = .ok (.goto (-21), 3) := by decide +kernel
theorem dX8_image_26 : decode cX8_image 26 = .ok (.aload_n 0, 1) := by decide +kernel
theorem dX8_image_27 : decode cX8_image 27 = .ok (.iconst 1, 1) := by decide +kernel
theorem dX8_image_28 : decode cX8_image 28 = .ok (.putfield 164, 3) := by decide +kernel
theorem dX8_image_31 : decode cX8_image 31 = .ok (.iconst 1, 1) := by decide +kernel
theorem dX8_image_32 : decode cX8_image 32 = .ok (.ireturn, 1) := by decide +kernel
theorem dX8_restore_0 : decode cX8_restore 0 = .ok (.aload_n 0, 1) := by decide +kernel
theorem dX8_restore_1 : decode cX8_restore 1 = .ok (.getfield 164, 3) := by decide +kernel
theorem dX8_restore_4 : decode cX8_restore 4 = .ok (.ifCond .ne 6, 3) := by decide +kernel
theorem dX8_restore_7 : decode cX8_restore 7 = .ok (.bipush (-4), 2) := by decide +kernel
theorem dX8_restore_9 : decode cX8_restore 9 = .ok (.ireturn, 1) := by decide +kernel
theorem dX8_restore_10 : decode cX8_restore 10 = .ok (.iconst 0, 1) := by decide +kernel
theorem dX8_restore_11 : decode cX8_restore 11 = .ok (.istore_n 1, 1) := by decide +kernel
theorem dX8_restore_12 : decode cX8_restore 12 = .ok (.iload_n 1, 1) := by decide +kernel
theorem dX8_restore_13 : decode cX8_restore 13 = .ok (.bipush 89, 2) := by decide +kernel
theorem dX8_restore_15 : decode cX8_restore 15 = .ok (.if_icmp .ge 21, 3) := by decide +kernel
theorem dX8_restore_18 : decode cX8_restore 18 = .ok (.aload_n 0, 1) := by decide +kernel
theorem dX8_restore_19 : decode cX8_restore 19 = .ok (.getfield 7, 3) := by decide +kernel
theorem dX8_restore_22 : decode cX8_restore 22 = .ok (.iload_n 1, 1) := by decide +kernel
theorem dX8_restore_23 : decode cX8_restore 23 = .ok (.aload_n 0, 1) := by decide +kernel
theorem dX8_restore_24 : decode cX8_restore 24 = .ok (.getfield 13, 3) := by decide +kernel
theorem dX8_restore_27 : decode cX8_restore 27 = .ok (.iload_n 1, 1) := by decide +kernel
theorem dX8_restore_28 : decode cX8_restore 28 = .ok (.iaload, 1) := by decide +kernel
theorem dX8_restore_29 : decode cX8_restore 29 = .ok (.iastore, 1) := by decide +kernel
theorem dX8_restore_30 : decode cX8_restore 30 = .ok (.iinc 1 1, 3) := by decide +kernel
theorem dX8_restore_33 : decode cX8_restore 33 = .ok (.goto (-21), 3) := by decide +kernel
theorem dX8_restore_36 : decode cX8_restore 36 = .ok (.iconst 1, 1) := by decide +kernel
theorem dX8_restore_37 : decode cX8_restore 37 = .ok (.ireturn, 1) := by decide +kernel
theorem dX8_isSheet_0 : decode cX8_isSheet 0 = .ok (.iload_n 0, 1) := by decide +kernel
theorem dX8_isSheet_1 : decode cX8_isSheet 1 = .ok (.i2l, 1) := by decide +kernel
theorem dX8_isSheet_2 : decode cX8_isSheet 2 = .ok (.lconst 0, 1) := by decide +kernel
theorem dX8_isSheet_3 : decode cX8_isSheet 3 = .ok (.ldc2_w 62, 3) := by decide +kernel
theorem dX8_isSheet_6 : decode cX8_isSheet 6 = .ok (.invokestatic 40, 3) := by decide +kernel
theorem dX8_isSheet_9 : decode cX8_isSheet 9 = .ok (.ifCond .eq 19, 3) := by decide +kernel
theorem dX8_isSheet_12 : decode cX8_isSheet 12 = .ok (.iload_n 1, 1) := by decide +kernel
theorem dX8_isSheet_13 : decode cX8_isSheet 13 = .ok (.i2l, 1) := by decide +kernel
theorem dX8_isSheet_14 : decode cX8_isSheet 14 = .ok (.lconst 0, 1) := by decide +kernel
theorem dX8_isSheet_15 : decode cX8_isSheet 15 = .ok (.ldc2_w 46, 3) := by decide +kernel
theorem dX8_isSheet_18 : decode cX8_isSheet 18 = .ok (.invokestatic 40, 3) := by decide +kernel
theorem dX8_isSheet_21 : decode cX8_isSheet 21 = .ok (.ifCond .eq 7, 3) := by decide +kernel
theorem dX8_isSheet_24 : decode cX8_isSheet 24 = .ok (.iconst 1, 1) := by decide +kernel
theorem dX8_isSheet_25 : decode cX8_isSheet 25 = .ok (.goto 4, 3) := by decide +kernel
theorem dX8_isSheet_28 : decode cX8_isSheet 28 = .ok (.iconst 0, 1) := by decide +kernel
theorem dX8_isSheet_29 : decode cX8_isSheet 29 = .ok (.ireturn, 1) := by decide +kernel
theorem dX8_found_0 : decode cX8_found 0 = .ok (.aload_n 0, 1) := by decide +kernel
theorem dX8_found_1 : decode cX8_found 1 = .ok (.getfield 19, 3) := by decide +kernel
theorem dX8_found_4 : decode cX8_found 4 = .ok (.iload_n 1, 1) := by decide +kernel
theorem dX8_found_5 : decode cX8_found 5 = .ok (.iaload, 1) := by decide +kernel
theorem dX8_found_6 : decode cX8_found 6 = .ok (.ifCond .ge 8, 3) := by decide +kernel
theorem dX8_found_9 : decode cX8_found 9 = .ok (.bipush (-11), 2) := by decide +kernel
theorem dX8_found_11 : decode cX8_found 11 = .ok (.goto 45, 3) := by decide +kernel
theorem dX8_found_14 : decode cX8_found 14 = .ok (.aload_n 0, 1) := by decide +kernel
theorem dX8_found_15 : decode cX8_found 15 = .ok (.getfield 22, 3) := by decide +kernel
theorem dX8_found_18 : decode cX8_found 18 = .ok (.iload_n 1, 1) := by decide +kernel
theorem dX8_found_19 : decode cX8_found 19 = .ok (.iaload, 1) := by decide +kernel
theorem dX8_found_20 : decode cX8_found 20 = .ok (.iload_n 2, 1) := by decide +kernel
theorem dX8_found_21 : decode cX8_found 21 = .ok (.if_icmp .eq 8, 3) := by decide +kernel
theorem dX8_found_24 : decode cX8_found 24 = .ok (.bipush (-12), 2) := by decide +kernel
theorem dX8_found_26 : decode cX8_found 26 = .ok (.goto 30, 3) := by decide +kernel
theorem dX8_found_29 : decode cX8_found 29 = .ok (.iload_n 3, 1) := by decide +kernel
theorem dX8_found_30 : decode cX8_found 30 = .ok (.ifCond .lt 20, 3) := by decide +kernel
theorem dX8_found_33 : decode cX8_found 33 = .ok (.iload_n 3, 1) := by decide +kernel
theorem dX8_found_34 : decode cX8_found 34 = .ok (.i2l, 1) := by decide +kernel
theorem dX8_found_35 : decode cX8_found 35 = .ok (.iload 4, 2) := by decide +kernel
theorem dX8_found_37 : decode cX8_found 37 = .ok (.i2l, 1) := by decide +kernel
theorem dX8_found_38 : decode cX8_found 38 = .ok (.ladd, 1) := by decide +kernel
theorem dX8_found_39 : decode cX8_found 39 = .ok (.aload_n 0, 1) := by decide +kernel
theorem dX8_found_40 : decode cX8_found 40 = .ok (.getfield 19, 3) := by decide +kernel
theorem dX8_found_43 : decode cX8_found 43 = .ok (.iload_n 1, 1) := by decide +kernel
theorem dX8_found_44 : decode cX8_found 44 = .ok (.iaload, 1) := by decide +kernel
theorem dX8_found_45 : decode cX8_found 45 = .ok (.i2l, 1) := by decide +kernel
theorem dX8_found_46 : decode cX8_found 46 = .ok (.lcmp, 1) := by decide +kernel
theorem dX8_found_47 : decode cX8_found 47 = .ok (.ifCond .le 8, 3) := by decide +kernel
theorem dX8_found_50 : decode cX8_found 50 = .ok (.bipush (-13), 2) := by decide +kernel
theorem dX8_found_52 : decode cX8_found 52 = .ok (.goto 4, 3) := by decide +kernel
theorem dX8_found_55 : decode cX8_found 55 = .ok (.iconst 0, 1) := by decide +kernel
theorem dX8_found_56 : decode cX8_found 56 = .ok (.ireturn, 1) := by decide +kernel
theorem dX8_judged_0 : decode cX8_judged 0 = .ok (.iload_n 1, 1) := by decide +kernel
theorem dX8_judged_1 : decode cX8_judged 1 = .ok (.iload_n 2, 1) := by decide +kernel
theorem dX8_judged_2 : decode cX8_judged 2 = .ok (.invokestatic 168, 3) := by decide +kernel
theorem dX8_judged_5 : decode cX8_judged 5 = .ok (.ifCond .eq 16, 3) := by decide +kernel
theorem dX8_judged_8 : decode cX8_judged 8 = .ok (.iload 4, 2) := by decide +kernel
theorem dX8_judged_10 : decode cX8_judged 10 = .ok (.i2l, 1) := by decide +kernel
theorem dX8_judged_11 : decode cX8_judged 11 = .ok (.lconst 0, 1) := by decide +kernel
theorem dX8_judged_12 : decode cX8_judged 12 = .ok (.ldc2_w 60, 3) := by decide +kernel
theorem dX8_judged_15 : decode cX8_judged 15 = .ok (.invokestatic 40, 3) := by decide +kernel
theorem dX8_judged_18 : decode cX8_judged 18 = .ok (.ifCond .ne 6, 3) := by decide +kernel
theorem dX8_judged_21 : decode cX8_judged 21 = .ok (.ldc 128, 2) := by decide +kernel
theorem dX8_judged_23 : decode cX8_judged 23 = .ok (.ireturn, 1) := by decide +kernel
theorem dX8_judged_24 : decode cX8_judged 24 = .ok (.aload_n 0, 1) := by decide +kernel
theorem dX8_judged_25 : decode cX8_judged 25 = .ok (.iload_n 1, 1) := by decide +kernel
theorem dX8_judged_26 : decode cX8_judged 26 = .ok (.iload_n 2, 1) := by decide +kernel
theorem dX8_judged_27 : decode cX8_judged 27 = .ok (.iload_n 3, 1) := by decide +kernel
theorem dX8_judged_28 : decode cX8_judged 28 = .ok (.iload 4, 2) := by decide +kernel
theorem dX8_judged_30 : decode cX8_judged 30 = .ok (.invokevirtual 171, 3) := by decide +kernel
theorem dX8_judged_33 : decode cX8_judged 33 = .ok (.istore 5, 2) := by decide +kernel
theorem dX8_judged_35 : decode cX8_judged 35 = .ok (.iload 5, 2) := by decide +kernel
theorem dX8_judged_37 : decode cX8_judged 37 = .ok (.ifCond .ge 9, 3) := by decide +kernel
theorem dX8_judged_40 : decode cX8_judged 40 = .ok (.iload 5, 2) := by decide +kernel
theorem dX8_judged_42 : decode cX8_judged 42 = .ok (.ldc 174, 2) := by decide +kernel
theorem dX8_judged_44 : decode cX8_judged 44 = .ok (.isub, 1) := by decide +kernel
theorem dX8_judged_45 : decode cX8_judged 45 = .ok (.ireturn, 1) := by decide +kernel
theorem dX8_judged_46 : decode cX8_judged 46 = .ok (.iconst 0, 1) := by decide +kernel
theorem dX8_judged_47 : decode cX8_judged 47 = .ok (.istore 6, 2) := by decide +kernel
theorem dX8_judged_49 : decode cX8_judged 49 = .ok (.iconst 1, 1) := by decide +kernel
theorem dX8_judged_50 : decode cX8_judged 50 = .ok (.istore 7, 2) := by decide +kernel
theorem dX8_judged_52 : decode cX8_judged 52 = .ok (.iconst 0, 1) := by decide +kernel
theorem dX8_judged_53 : decode cX8_judged 53 = .ok (.istore 8, 2) := by decide +kernel
theorem dX8_judged_55 : decode cX8_judged 55 = .ok (.iload 8, 2) := by decide +kernel
theorem dX8_judged_57 : decode cX8_judged 57 = .ok (.iload 4, 2) := by decide +kernel
theorem dX8_judged_59 : decode cX8_judged 59 = .ok (.if_icmp .ge 72, 3) := by decide +kernel
theorem dX8_judged_62 : decode cX8_judged 62 = .ok (.iload 7, 2) := by decide +kernel
theorem dX8_judged_64 : decode cX8_judged 64 = .ok (.ifCond .eq 67, 3) := by decide +kernel
theorem dX8_judged_67 : decode cX8_judged 67 = .ok (.aload_n 0, 1) := by decide +kernel
theorem dX8_judged_68 : decode cX8_judged 68 = .ok (.getfield 25, 3) := by decide +kernel
theorem dX8_judged_71 : decode cX8_judged 71 = .ok (.bipush 28, 2) := by decide +kernel
theorem dX8_judged_73 : decode cX8_judged 73 = .ok (.iload_n 1, 1) := by decide +kernel
theorem dX8_judged_74 : decode cX8_judged 74 = .ok (.imul, 1) := by decide +kernel
theorem dX8_judged_75 : decode cX8_judged 75 = .ok (.iload_n 3, 1) := by decide +kernel
theorem dX8_judged_76 : decode cX8_judged 76 = .ok (.iadd, 1) := by decide +kernel
theorem dX8_judged_77 : decode cX8_judged 77 = .ok (.iload 8, 2) := by decide +kernel
theorem dX8_judged_79 : decode cX8_judged 79 = .ok (.iadd, 1) := by decide +kernel
theorem dX8_judged_80 : decode cX8_judged 80 = .ok (.iaload, 1) := by decide +kernel
theorem dX8_judged_81 : decode cX8_judged 81 = .ok (.istore 9, 2) := by decide +kernel
theorem dX8_judged_83 : decode cX8_judged 83 = .ok (.aload_n 0, 1) := by decide +kernel
theorem dX8_judged_84 : decode cX8_judged 84 = .ok (.iload 9, 2) := by decide +kernel
theorem dX8_judged_86 : decode cX8_judged 86 = .ok (.invokevirtual 48, 3) := by decide +kernel
theorem dX8_judged_89 : decode cX8_judged 89 = .ok (.ifCond .eq 15, 3) := by decide +kernel
theorem dX8_judged_92 : decode cX8_judged 92 = .ok (.iload 6, 2) := by decide +kernel
theorem dX8_judged_94 : decode cX8_judged 94 = .ok (.iload 9, 2) := by decide +kernel
theorem dX8_judged_96 : decode cX8_judged 96 = .ok (.ishr, 1) := by decide +kernel
theorem dX8_judged_97 : decode cX8_judged 97 = .ok (.ifCond .ne 7, 3) := by decide +kernel
theorem dX8_judged_100 : decode cX8_judged 100 = .ok (.iconst 1, 1) := by decide +kernel
theorem dX8_judged_101 : decode cX8_judged 101 = .ok (.goto 4, 3) := by decide +kernel
theorem dX8_judged_104 : decode cX8_judged 104 = .ok (.iconst 0, 1) := by decide +kernel
theorem dX8_judged_105 : decode cX8_judged 105 = .ok (.istore 7, 2) := by decide +kernel
theorem dX8_judged_107 : decode cX8_judged 107 = .ok (.iload 6, 2) := by decide +kernel
theorem dX8_judged_109 : decode cX8_judged 109 = .ok (.iload 7, 2) := by decide +kernel
theorem dX8_judged_111 : decode cX8_judged 111 = .ok (.ifCond .eq 10, 3) := by decide +kernel
theorem dX8_judged_114 : decode cX8_judged 114 = .ok (.iconst 1, 1) := by decide +kernel
theorem dX8_judged_115 : decode cX8_judged 115 = .ok (.iload 9, 2) := by decide +kernel
theorem dX8_judged_117 : decode cX8_judged 117 = .ok (.ishl, 1) := by decide +kernel
theorem dX8_judged_118 : decode cX8_judged 118 = .ok (.goto 4, 3) := by decide +kernel
theorem dX8_judged_121 : decode cX8_judged 121 = .ok (.iconst 0, 1) := by decide +kernel
theorem dX8_judged_122 : decode cX8_judged 122 = .ok (.ior, 1) := by decide +kernel
theorem dX8_judged_123 : decode cX8_judged 123 = .ok (.istore 6, 2) := by decide +kernel
theorem dX8_judged_125 : decode cX8_judged 125 = .ok (.iinc 8 1, 3) := by decide +kernel
theorem dX8_judged_128 : decode cX8_judged 128 = .ok (.goto (-73), 3) := by decide +kernel
theorem dX8_judged_131 : decode cX8_judged 131 = .ok (.iload 7, 2) := by decide +kernel
theorem dX8_judged_133 : decode cX8_judged 133 = .ok (.ifCond .eq 23, 3) := by decide +kernel
theorem dX8_judged_136 : decode cX8_judged 136 = .ok (.aload_n 0, 1) := by decide +kernel
theorem dX8_judged_137 : decode cX8_judged 137 = .ok (.iload 6, 2) := by decide +kernel
theorem dX8_judged_139 : decode cX8_judged 139 = .ok (.invokevirtual 119, 3) := by decide +kernel
theorem dX8_judged_142 : decode cX8_judged 142 = .ok (.bipush (-4), 2) := by decide +kernel
theorem dX8_judged_144 : decode cX8_judged 144 = .ok (.if_icmp .ne 12, 3) := by decide +kernel
theorem dX8_judged_147 : decode cX8_judged 147 = .ok (.aload_n 0, 1) := by decide +kernel
theorem dX8_judged_148 : decode cX8_judged 148 = .ok (.iload 6, 2) := by decide +kernel
theorem dX8_judged_150 : decode cX8_judged 150 = .ok (.invokevirtual 130, 3) := by decide +kernel
theorem dX8_judged_153 : decode cX8_judged 153 = .ok (.goto 5, 3) := by decide +kernel
theorem dX8_judged_156 : decode cX8_judged 156 = .ok (.ldc 129, 2) := by decide +kernel
theorem dX8_judged_158 : decode cX8_judged 158 = .ok (.ireturn, 1) := by decide +kernel
theorem dX8_film_0 : decode cX8_film 0 = .ok (.aload_n 0, 1) := by decide +kernel
theorem dX8_film_1 : decode cX8_film 1 = .ok (.iload_n 1, 1) := by decide +kernel
theorem dX8_film_2 : decode cX8_film 2 = .ok (.invokevirtual 109, 3) := by decide +kernel
theorem dX8_film_5 : decode cX8_film 5 = .ok (.ifCond .eq 11, 3) := by decide +kernel
theorem dX8_film_8 : decode cX8_film 8 = .ok (.iload_n 2, 1) := by decide +kernel
theorem dX8_film_9 : decode cX8_film 9 = .ok (.iload_n 3, 1) := by decide +kernel
theorem dX8_film_10 : decode cX8_film 10 = .ok (.invokestatic 168, 3) := by decide +kernel
theorem dX8_film_13 : decode cX8_film 13 = .ok (.ifCond .ne 5, 3) := by decide +kernel
theorem dX8_film_16 : decode cX8_film 16 = .ok (.iconst (-1), 1) := by decide +kernel
theorem dX8_film_17 : decode cX8_film 17 = .ok (.ireturn, 1) := by decide +kernel
theorem dX8_film_18 : decode cX8_film 18 = .ok (.aload_n 0, 1) := by decide +kernel
theorem dX8_film_19 : decode cX8_film 19 = .ok (.iload_n 1, 1) := by decide +kernel
theorem dX8_film_20 : decode cX8_film 20 = .ok (.invokevirtual 119, 3) := by decide +kernel
theorem dX8_film_23 : decode cX8_film 23 = .ok (.bipush (-4), 2) := by decide +kernel
theorem dX8_film_25 : decode cX8_film 25 = .ok (.if_icmp .eq 6, 3) := by decide +kernel
theorem dX8_film_28 : decode cX8_film 28 = .ok (.bipush (-2), 2) := by decide +kernel
theorem dX8_film_30 : decode cX8_film 30 = .ok (.ireturn, 1) := by decide +kernel
theorem dX8_film_31 : decode cX8_film 31 = .ok (.aload_n 0, 1) := by decide +kernel
theorem dX8_film_32 : decode cX8_film 32 = .ok (.iload_n 2, 1) := by decide +kernel
theorem dX8_film_33 : decode cX8_film 33 = .ok (.iload_n 3, 1) := by decide +kernel
theorem dX8_film_34 : decode cX8_film 34 = .ok (.iload 4, 2) := by decide +kernel
theorem dX8_film_36 : decode cX8_film 36 = .ok (.aload_n 0, 1) := by decide +kernel
theorem dX8_film_37 : decode cX8_film 37 = .ok (.getfield 7, 3) := by decide +kernel
theorem dX8_film_40 : decode cX8_film 40 = .ok (.iconst 4, 1) := by decide +kernel
theorem dX8_film_41 : decode cX8_film 41 = .ok (.iaload, 1) := by decide +kernel
theorem dX8_film_42 : decode cX8_film 42 = .ok (.invokevirtual 171, 3) := by decide +kernel
theorem dX8_film_45 : decode cX8_film 45 = .ok (.istore 5, 2) := by decide +kernel
theorem dX8_film_47 : decode cX8_film 47 = .ok (.iload 5, 2) := by decide +kernel
theorem dX8_film_49 : decode cX8_film 49 = .ok (.ifCond .ge 6, 3) := by decide +kernel
theorem dX8_film_52 : decode cX8_film 52 = .ok (.iload 5, 2) := by decide +kernel
theorem dX8_film_54 : decode cX8_film 54 = .ok (.ireturn, 1) := by decide +kernel
theorem dX8_film_55 : decode cX8_film 55 = .ok (.aload_n 0, 1) := by decide +kernel
theorem dX8_film_56 : decode cX8_film 56 = .ok (.getfield 7, 3) := by decide +kernel
theorem dX8_film_59 : decode cX8_film 59 = .ok (.iconst 0, 1) := by decide +kernel
theorem dX8_film_60 : decode cX8_film 60 = .ok (.iaload, 1) := by decide +kernel
theorem dX8_film_61 : decode cX8_film 61 = .ok (.istore 6, 2) := by decide +kernel
theorem dX8_film_63 : decode cX8_film 63 = .ok (.iconst 0, 1) := by decide +kernel
theorem dX8_film_64 : decode cX8_film 64 = .ok (.istore 7, 2) := by decide +kernel
theorem dX8_film_66 : decode cX8_film 66 = .ok (.iload 7, 2) := by decide +kernel
theorem dX8_film_68 : decode cX8_film 68 = .ok (.aload_n 0, 1) := by decide +kernel
theorem dX8_film_69 : decode cX8_film 69 = .ok (.getfield 7, 3) := by decide +kernel
theorem dX8_film_72 : decode cX8_film 72 = .ok (.iconst 4, 1) := by decide +kernel
theorem dX8_film_73 : decode cX8_film 73 = .ok (.iaload, 1) := by decide +kernel
theorem dX8_film_74 : decode cX8_film 74 = .ok (.if_icmp .ge 57, 3) := by decide +kernel
theorem dX8_film_77 : decode cX8_film 77 = .ok (.aload_n 0, 1) := by decide +kernel
theorem dX8_film_78 : decode cX8_film 78 = .ok (.getfield 25, 3) := by decide +kernel
theorem dX8_film_81 : decode cX8_film 81 = .ok (.bipush 28, 2) := by decide +kernel
theorem dX8_film_83 : decode cX8_film 83 = .ok (.iload_n 2, 1) := by decide +kernel
theorem dX8_film_84 : decode cX8_film 84 = .ok (.imul, 1) := by decide +kernel
theorem dX8_film_85 : decode cX8_film 85 = .ok (.iload 4, 2) := by decide +kernel
theorem dX8_film_87 : decode cX8_film 87 = .ok (.iadd, 1) := by decide +kernel
theorem dX8_film_88 : decode cX8_film 88 = .ok (.iload 7, 2) := by decide +kernel
theorem dX8_film_90 : decode cX8_film 90 = .ok (.iadd, 1) := by decide +kernel
theorem dX8_film_91 : decode cX8_film 91 = .ok (.aload_n 0, 1) := by decide +kernel
theorem dX8_film_92 : decode cX8_film 92 = .ok (.iload 7, 2) := by decide +kernel
theorem dX8_film_94 : decode cX8_film 94 = .ok (.iload 6, 2) := by decide +kernel
theorem dX8_film_96 : decode cX8_film 96 = .ok (.iload_n 1, 1) := by decide +kernel
theorem dX8_film_97 : decode cX8_film 97 = .ok (.iload 7, 2) := by decide +kernel
theorem dX8_film_99 : decode cX8_film 99 = .ok (.invokestatic 102, 3) := by decide +kernel
theorem dX8_film_102 : decode cX8_film 102 = .ok (.invokevirtual 125, 3) := by decide +kernel
theorem dX8_film_105 : decode cX8_film 105 = .ok (.iastore, 1) := by decide +kernel
theorem dX8_film_106 : decode cX8_film 106 = .ok (.iload 6, 2) := by decide +kernel
theorem dX8_film_108 : decode cX8_film 108 = .ok (.iload_n 1, 1) := by decide +kernel
theorem dX8_film_109 : decode cX8_film 109 = .ok (.iload 7, 2) := by decide +kernel
theorem dX8_film_111 : decode cX8_film 111 = .ok (.invokestatic 102, 3) := by decide +kernel
theorem dX8_film_114 : decode cX8_film 114 = .ok (.ifCond .eq 7, 3) := by decide +kernel
theorem dX8_film_117 : decode cX8_film 117 = .ok (.iconst 1, 1) := by decide +kernel
theorem dX8_film_118 : decode cX8_film 118 = .ok (.goto 4, 3) := by decide +kernel
theorem dX8_film_121 : decode cX8_film 121 = .ok (.iconst 0, 1) := by decide +kernel
theorem dX8_film_122 : decode cX8_film 122 = .ok (.isub, 1) := by decide +kernel
theorem dX8_film_123 : decode cX8_film 123 = .ok (.istore 6, 2) := by decide +kernel
theorem dX8_film_125 : decode cX8_film 125 = .ok (.iinc 7 1, 3) := by decide +kernel
theorem dX8_film_128 : decode cX8_film 128 = .ok (.goto (-62), 3) := by decide +kernel
theorem dX8_film_131 : decode cX8_film 131 = .ok (.aload_n 0, 1) := by decide +kernel
theorem dX8_film_132 : decode cX8_film 132 = .ok (.getfield 7, 3) := by decide +kernel
theorem dX8_film_135 : decode cX8_film 135 = .ok (.iconst 4, 1) := by decide +kernel
theorem dX8_film_136 : decode cX8_film 136 = .ok (.iaload, 1) := by decide +kernel
theorem dX8_film_137 : decode cX8_film 137 = .ok (.ireturn, 1) := by decide +kernel
theorem dX8_sheet_0 : decode cX8_sheet 0 = .ok (.iload_n 1, 1) := by decide +kernel
theorem dX8_sheet_1 : decode cX8_sheet 1 = .ok (.iload_n 2, 1) := by decide +kernel
theorem dX8_sheet_2 : decode cX8_sheet 2 = .ok (.invokestatic 168, 3) := by decide +kernel
theorem dX8_sheet_5 : decode cX8_sheet 5 = .ok (.ifCond .eq 9, 3) := by decide +kernel
theorem dX8_sheet_8 : decode cX8_sheet 8 = .ok (.iload_n 3, 1) := by decide +kernel
theorem dX8_sheet_9 : decode cX8_sheet 9 = .ok (.bipush 28, 2) := by decide +kernel
theorem dX8_sheet_11 : decode cX8_sheet 11 = .ok (.if_icmp .le 5, 3) := by decide +kernel
theorem dX8_sheet_14 : decode cX8_sheet 14 = .ok (.iconst (-1), 1) := by decide +kernel
theorem dX8_sheet_15 : decode cX8_sheet 15 = .ok (.ireturn, 1) := by decide +kernel
theorem dX8_sheet_16 : decode cX8_sheet 16 = .ok (.iload_n 3, 1) := by decide +kernel
theorem dX8_sheet_17 : decode cX8_sheet 17 = .ok (.ifCond .ge 6, 3) := by decide +kernel
theorem dX8_sheet_20 : decode cX8_sheet 20 = .ok (.bipush (-14), 2) := by decide +kernel
theorem dX8_sheet_22 : decode cX8_sheet 22 = .ok (.ireturn, 1) := by decide +kernel
theorem dX8_sheet_23 : decode cX8_sheet 23 = .ok (.aload_n 0, 1) := by decide +kernel
theorem dX8_sheet_24 : decode cX8_sheet 24 = .ok (.getfield 19, 3) := by decide +kernel
theorem dX8_sheet_27 : decode cX8_sheet 27 = .ok (.iload_n 1, 1) := by decide +kernel
theorem dX8_sheet_28 : decode cX8_sheet 28 = .ok (.iload_n 3, 1) := by decide +kernel
theorem dX8_sheet_29 : decode cX8_sheet 29 = .ok (.iastore, 1) := by decide +kernel
theorem dX8_sheet_30 : decode cX8_sheet 30 = .ok (.aload_n 0, 1) := by decide +kernel
theorem dX8_sheet_31 : decode cX8_sheet 31 = .ok (.getfield 22, 3) := by decide +kernel
theorem dX8_sheet_34 : decode cX8_sheet 34 = .ok (.iload_n 1, 1) := by decide +kernel
theorem dX8_sheet_35 : decode cX8_sheet 35 = .ok (.iload_n 2, 1) := by decide +kernel
theorem dX8_sheet_36 : decode cX8_sheet 36 = .ok (.iastore, 1) := by decide +kernel
theorem dX8_sheet_37 : decode cX8_sheet 37 = .ok (.iconst 0, 1) := by decide +kernel
theorem dX8_sheet_38 : decode cX8_sheet 38 = .ok (.istore 4, 2) := by decide +kernel
theorem dX8_sheet_40 : decode cX8_sheet 40 = .ok (.iload 4, 2) := by decide +kernel
theorem dX8_sheet_42 : decode cX8_sheet 42 = .ok (.bipush 28, 2) := by decide +kernel
theorem dX8_sheet_44 : decode cX8_sheet 44 = .ok (.if_icmp .ge 22, 3) := by decide +kernel
theorem dX8_sheet_47 : decode cX8_sheet 47 = .ok (.aload_n 0, 1) := by decide +kernel
theorem dX8_sheet_48 : decode cX8_sheet 48 = .ok (.getfield 25, 3) := by decide +kernel
theorem dX8_sheet_51 : decode cX8_sheet 51 = .ok (.bipush 28, 2) := by decide +kernel
theorem dX8_sheet_53 : decode cX8_sheet 53 = .ok (.iload_n 1, 1) := by decide +kernel
theorem dX8_sheet_54 : decode cX8_sheet 54 = .ok (.imul, 1) := by decide +kernel
theorem dX8_sheet_55 : decode cX8_sheet 55 = .ok (.iload 4, 2) := by decide +kernel
theorem dX8_sheet_57 : decode cX8_sheet 57 = .ok (.iadd, 1) := by decide +kernel
theorem dX8_sheet_58 : decode cX8_sheet 58 = .ok (.iconst 0, 1) := by decide +kernel
theorem dX8_sheet_59 : decode cX8_sheet 59 = .ok (.iastore, 1) := by decide +kernel
theorem dX8_sheet_60 : decode cX8_sheet 60 = .ok (.iinc 4 1, 3) := by decide +kernel
theorem dX8_sheet_63 : decode cX8_sheet 63 = .ok (.goto (-23), 3) := by decide +kernel
theorem dX8_sheet_66 : decode cX8_sheet 66 = .ok (.iload_n 3, 1) := by decide +kernel
theorem dX8_sheet_67 : decode cX8_sheet 67 = .ok (.ireturn, 1) := by decide +kernel
theorem dX8_drop_0 : decode cX8_drop 0 = .ok (.iload_n 1, 1) := by decide +kernel
theorem dX8_drop_1 : decode cX8_drop 1 = .ok (.i2l, 1) := by decide +kernel
theorem dX8_drop_2 : decode cX8_drop 2 = .ok (.lconst 0, 1) := by decide +kernel
theorem dX8_drop_3 : decode cX8_drop 3 = .ok (.ldc2_w 62, 3) := by decide +kernel
theorem dX8_drop_6 : decode cX8_drop 6 = .ok (.invokestatic 40, 3) := by decide +kernel
theorem dX8_drop_9 : decode cX8_drop 9 = .ok (.ifCond .ne 5, 3) := by decide +kernel
theorem dX8_drop_12 : decode cX8_drop 12 = .ok (.iconst (-1), 1) := by decide +kernel
theorem dX8_drop_13 : decode cX8_drop 13 = .ok (.ireturn, 1) := by decide +kernel
theorem dX8_drop_14 : decode cX8_drop 14 = .ok (.aload_n 0, 1) := by decide +kernel
theorem dX8_drop_15 : decode cX8_drop 15 = .ok (.getfield 19, 3) := by decide +kernel
theorem dX8_drop_18 : decode cX8_drop 18 = .ok (.iload_n 1, 1) := by decide +kernel
theorem dX8_drop_19 : decode cX8_drop 19 = .ok (.iaload, 1) := by decide +kernel
theorem dX8_drop_20 : decode cX8_drop 20 = .ok (.ifCond .ge 6, 3) := by decide +kernel
theorem dX8_drop_23 : decode cX8_drop 23 = .ok (.bipush (-11), 2) := by decide +kernel
theorem dX8_drop_25 : decode cX8_drop 25 = .ok (.ireturn, 1) := by decide +kernel
theorem dX8_drop_26 : decode cX8_drop 26 = .ok (.aload_n 0, 1) := by decide +kernel
theorem dX8_drop_27 : decode cX8_drop 27 = .ok (.getfield 19, 3) := by decide +kernel
theorem dX8_drop_30 : decode cX8_drop 30 = .ok (.iload_n 1, 1) := by decide +kernel
theorem dX8_drop_31 : decode cX8_drop 31 = .ok (.iaload, 1) := by decide +kernel
theorem dX8_drop_32 : decode cX8_drop 32 = .ok (.istore_n 2, 1) := by decide +kernel
theorem dX8_drop_33 : decode cX8_drop 33 = .ok (.aload_n 0, 1) := by decide +kernel
theorem dX8_drop_34 : decode cX8_drop 34 = .ok (.getfield 19, 3) := by decide +kernel
theorem dX8_drop_37 : decode cX8_drop 37 = .ok (.iload_n 1, 1) := by decide +kernel
theorem dX8_drop_38 : decode cX8_drop 38 = .ok (.iconst (-1), 1) := by decide +kernel
theorem dX8_drop_39 : decode cX8_drop 39 = .ok (.iastore, 1) := by decide +kernel
theorem dX8_drop_40 : decode cX8_drop 40 = .ok (.iload_n 2, 1) := by decide +kernel
theorem dX8_drop_41 : decode cX8_drop 41 = .ok (.ireturn, 1) := by decide +kernel
theorem dX8_item_0 : decode cX8_item 0 = .ok (.iload_n 1, 1) := by decide +kernel
theorem dX8_item_1 : decode cX8_item 1 = .ok (.iload_n 2, 1) := by decide +kernel
theorem dX8_item_2 : decode cX8_item 2 = .ok (.invokestatic 168, 3) := by decide +kernel
theorem dX8_item_5 : decode cX8_item 5 = .ok (.ifCond .ne 5, 3) := by decide +kernel
theorem dX8_item_8 : decode cX8_item 8 = .ok (.iconst (-1), 1) := by decide +kernel
theorem dX8_item_9 : decode cX8_item 9 = .ok (.ireturn, 1) := by decide +kernel
theorem dX8_item_10 : decode cX8_item 10 = .ok (.aload_n 0, 1) := by decide +kernel
theorem dX8_item_11 : decode cX8_item 11 = .ok (.iload_n 1, 1) := by decide +kernel
theorem dX8_item_12 : decode cX8_item 12 = .ok (.iload_n 2, 1) := by decide +kernel
theorem dX8_item_13 : decode cX8_item 13 = .ok (.iload_n 3, 1) := by decide +kernel
theorem dX8_item_14 : decode cX8_item 14 = .ok (.iconst 1, 1) := by decide +kernel
theorem dX8_item_15 : decode cX8_item 15 = .ok (.invokevirtual 171, 3) := by decide +kernel
theorem dX8_item_18 : decode cX8_item 18 = .ok (.istore 5, 2) := by decide +kernel
theorem dX8_item_20 : decode cX8_item 20 = .ok (.iload 5, 2) := by decide +kernel
theorem dX8_item_22 : decode cX8_item 22 = .ok (.ifCond .ge 6, 3) := by decide +kernel
theorem dX8_item_25 : decode cX8_item 25 = .ok (.iload 5, 2) := by decide +kernel
theorem dX8_item_27 : decode cX8_item 27 = .ok (.ireturn, 1) := by decide +kernel
theorem dX8_item_28 : decode cX8_item 28 = .ok (.aload_n 0, 1) := by decide +kernel
theorem dX8_item_29 : decode cX8_item 29 = .ok (.getfield 25, 3) := by decide +kernel
theorem dX8_item_32 : decode cX8_item 32 = .ok (.bipush 28, 2) := by decide +kernel
theorem dX8_item_34 : decode cX8_item 34 = .ok (.iload_n 1, 1) := by decide +kernel
theorem dX8_item_35 : decode cX8_item 35 = .ok (.imul, 1) := by decide +kernel
theorem dX8_item_36 : decode cX8_item 36 = .ok (.iload_n 3, 1) := by decide +kernel
theorem dX8_item_37 : decode cX8_item 37 = .ok (.iadd, 1) := by decide +kernel
theorem dX8_item_38 : decode cX8_item 38 = .ok (.iload_n 2, 1) := by decide +kernel
theorem dX8_item_39 : decode cX8_item 39 = .ok (.ifCond .ne 9, 3) := by decide +kernel
theorem dX8_item_42 : decode cX8_item 42 = .ok (.iload 4, 2) := by decide +kernel
theorem dX8_item_44 : decode cX8_item 44 = .ok (.i2b, 1) := by decide +kernel
theorem dX8_item_45 : decode cX8_item 45 = .ok (.goto 16, 3) := by decide +kernel
theorem dX8_item_48 : decode cX8_item 48 = .ok (.iload_n 2, 1) := by decide +kernel
theorem dX8_item_49 : decode cX8_item 49 = .ok (.iconst 1, 1) := by decide +kernel
theorem dX8_item_50 : decode cX8_item 50 = .ok (.if_icmp .ne 9, 3) := by decide +kernel
theorem dX8_item_53 : decode cX8_item 53 = .ok (.iload 4, 2) := by decide +kernel
theorem dX8_item_55 : decode cX8_item 55 = .ok (.i2s, 1) := by decide +kernel
theorem dX8_item_56 : decode cX8_item 56 = .ok (.goto 5, 3) := by decide +kernel
theorem dX8_item_59 : decode cX8_item 59 = .ok (.iload 4, 2) := by decide +kernel
theorem dX8_item_61 : decode cX8_item 61 = .ok (.iastore, 1) := by decide +kernel
theorem dX8_item_62 : decode cX8_item 62 = .ok (.iconst 1, 1) := by decide +kernel
theorem dX8_item_63 : decode cX8_item 63 = .ok (.ireturn, 1) := by decide +kernel
theorem dX8_copy_0 : decode cX8_copy 0 = .ok (.iload_n 1, 1) := by decide +kernel
theorem dX8_copy_1 : decode cX8_copy 1 = .ok (.i2l, 1) := by decide +kernel
theorem dX8_copy_2 : decode cX8_copy 2 = .ok (.lconst 0, 1) := by decide +kernel
theorem dX8_copy_3 : decode cX8_copy 3 = .ok (.ldc2_w 62, 3) := by decide +kernel
theorem dX8_copy_6 : decode cX8_copy 6 = .ok (.invokestatic 40, 3) := by decide +kernel
theorem dX8_copy_9 : decode cX8_copy 9 = .ok (.ifCond .eq 15, 3) := by decide +kernel
theorem dX8_copy_12 : decode cX8_copy 12 = .ok (.iload_n 3, 1) := by decide +kernel
theorem dX8_copy_13 : decode cX8_copy 13 = .ok (.i2l, 1) := by decide +kernel
theorem dX8_copy_14 : decode cX8_copy 14 = .ok (.lconst 0, 1) := by decide +kernel
theorem dX8_copy_15 : decode cX8_copy 15 = .ok (.ldc2_w 62, 3) := by decide +kernel
theorem dX8_copy_18 : decode cX8_copy 18 = .ok (.invokestatic 40, 3) := by decide +kernel
theorem dX8_copy_21 : decode cX8_copy 21 = .ok (.ifCond .ne 5, 3) := by decide +kernel
theorem dX8_copy_24 : decode cX8_copy 24 = .ok (.iconst (-1), 1) := by decide +kernel
theorem dX8_copy_25 : decode cX8_copy 25 = .ok (.ireturn, 1) := by decide +kernel
theorem dX8_copy_26 : decode cX8_copy 26 = .ok (.aload_n 0, 1) := by decide +kernel
theorem dX8_copy_27 : decode cX8_copy 27 = .ok (.getfield 19, 3) := by decide +kernel
theorem dX8_copy_30 : decode cX8_copy 30 = .ok (.iload_n 1, 1) := by decide +kernel
theorem dX8_copy_31 : decode cX8_copy 31 = .ok (.iaload, 1) := by decide +kernel
theorem dX8_copy_32 : decode cX8_copy 32 = .ok (.ifCond .lt 12, 3) := by decide +kernel
theorem dX8_copy_35 : decode cX8_copy 35 = .ok (.aload_n 0, 1) := by decide +kernel
theorem dX8_copy_36 : decode cX8_copy 36 = .ok (.getfield 19, 3) := by decide +kernel
theorem dX8_copy_39 : decode cX8_copy 39 = .ok (.iload_n 3, 1) := by decide +kernel
theorem dX8_copy_40 : decode cX8_copy 40 = .ok (.iaload, 1) := by decide +kernel
theorem dX8_copy_41 : decode cX8_copy 41 = .ok (.ifCond .ge 6, 3) := by decide +kernel
theorem dX8_copy_44 : decode cX8_copy 44 = .ok (.bipush (-11), 2) := by decide +kernel
theorem dX8_copy_46 : decode cX8_copy 46 = .ok (.ireturn, 1) := by decide +kernel
theorem dX8_copy_47 : decode cX8_copy 47 = .ok (.aload_n 0, 1) := by decide +kernel
theorem dX8_copy_48 : decode cX8_copy 48 = .ok (.getfield 22, 3) := by decide +kernel
theorem dX8_copy_51 : decode cX8_copy 51 = .ok (.iload_n 1, 1) := by decide +kernel
theorem dX8_copy_52 : decode cX8_copy 52 = .ok (.iaload, 1) := by decide +kernel
theorem dX8_copy_53 : decode cX8_copy 53 = .ok (.aload_n 0, 1) := by decide +kernel
theorem dX8_copy_54 : decode cX8_copy 54 = .ok (.getfield 22, 3) := by decide +kernel
theorem dX8_copy_57 : decode cX8_copy 57 = .ok (.iload_n 3, 1) := by decide +kernel
theorem dX8_copy_58 : decode cX8_copy 58 = .ok (.iaload, 1) := by decide +kernel
theorem dX8_copy_59 : decode cX8_copy 59 = .ok (.if_icmp .eq 6, 3) := by decide +kernel
theorem dX8_copy_62 : decode cX8_copy 62 = .ok (.bipush (-12), 2) := by decide +kernel
theorem dX8_copy_64 : decode cX8_copy 64 = .ok (.ireturn, 1) := by decide +kernel
theorem dX8_copy_65 : decode cX8_copy 65 = .ok (.iload 5, 2) := by decide +kernel
theorem dX8_copy_67 : decode cX8_copy 67 = .ok (.ifCond .lt 38, 3) := by decide +kernel
theorem dX8_copy_70 : decode cX8_copy 70 = .ok (.aload_n 0, 1) := by decide +kernel
theorem dX8_copy_71 : decode cX8_copy 71 = .ok (.iload_n 1, 1) := by decide +kernel
theorem dX8_copy_72 : decode cX8_copy 72 = .ok (.aload_n 0, 1) := by decide +kernel
theorem dX8_copy_73 : decode cX8_copy 73 = .ok (.getfield 22, 3) := by decide +kernel
theorem dX8_copy_76 : decode cX8_copy 76 = .ok (.iload_n 1, 1) := by decide +kernel
theorem dX8_copy_77 : decode cX8_copy 77 = .ok (.iaload, 1) := by decide +kernel
theorem dX8_copy_78 : decode cX8_copy 78 = .ok (.iload_n 2, 1) := by decide +kernel
theorem dX8_copy_79 : decode cX8_copy 79 = .ok (.iload 5, 2) := by decide +kernel
theorem dX8_copy_81 : decode cX8_copy 81 = .ok (.invokevirtual 171, 3) := by decide +kernel
theorem dX8_copy_84 : decode cX8_copy 84 = .ok (.ifCond .lt 21, 3) := by decide +kernel
theorem dX8_copy_87 : decode cX8_copy 87 = .ok (.aload_n 0, 1) := by decide +kernel
theorem dX8_copy_88 : decode cX8_copy 88 = .ok (.iload_n 3, 1) := by decide +kernel
theorem dX8_copy_89 : decode cX8_copy 89 = .ok (.aload_n 0, 1) := by decide +kernel
theorem dX8_copy_90 : decode cX8_copy 90 = .ok (.getfield 22, 3) := by decide +kernel
theorem dX8_copy_93 : decode cX8_copy 93 = .ok (.iload_n 3, 1) := by decide +kernel
theorem dX8_copy_94 : decode cX8_copy 94 = .ok (.iaload, 1) := by decide +kernel
theorem dX8_copy_95 : decode cX8_copy 95 = .ok (.iload 4, 2) := by decide +kernel
theorem dX8_copy_97 : decode cX8_copy 97 = .ok (.iload 5, 2) := by decide +kernel
theorem dX8_copy_99 : decode cX8_copy 99 = .ok (.invokevirtual 171, 3) := by decide +kernel
theorem dX8_copy_102 : decode cX8_copy 102 = .ok (.ifCond .ge 6, 3) := by decide +kernel
theorem dX8_copy_105 : decode cX8_copy 105 = .ok (.bipush (-13), 2) := by decide +kernel
theorem dX8_copy_107 : decode cX8_copy 107 = .ok (.ireturn, 1) := by decide +kernel
theorem dX8_copy_108 : decode cX8_copy 108 = .ok (.iconst 0, 1) := by decide +kernel
theorem dX8_copy_109 : decode cX8_copy 109 = .ok (.istore 6, 2) := by decide +kernel
theorem dX8_copy_111 : decode cX8_copy 111 = .ok (.iload 6, 2) := by decide +kernel
theorem dX8_copy_113 : decode cX8_copy 113 = .ok (.iload 5, 2) := by decide +kernel
theorem dX8_copy_115 : decode cX8_copy 115 = .ok (.if_icmp .ge 58, 3) := by decide +kernel
theorem dX8_copy_118 : decode cX8_copy 118 = .ok (.iload 4, 2) := by decide +kernel
theorem dX8_copy_120 : decode cX8_copy 120 = .ok (.iload_n 2, 1) := by decide +kernel
theorem dX8_copy_121 : decode cX8_copy 121 = .ok (.if_icmp .le 13, 3) := by decide +kernel
theorem dX8_copy_124 : decode cX8_copy 124 = .ok (.iload 5, 2) := by decide +kernel
theorem dX8_copy_126 : decode cX8_copy 126 = .ok (.iconst 1, 1) := by decide +kernel
theorem dX8_copy_127 : decode cX8_copy 127 = .ok (.isub, 1) := by decide +kernel
theorem dX8_copy_128 : decode cX8_copy 128 = .ok (.iload 6, 2) := by decide +kernel
theorem dX8_copy_130 : decode cX8_copy 130 = .ok (.isub, 1) := by decide +kernel
theorem dX8_copy_131 : decode cX8_copy 131 = .ok (.goto 5, 3) := by decide +kernel
theorem dX8_copy_134 : decode cX8_copy 134 = .ok (.iload 6, 2) := by decide +kernel
theorem dX8_copy_136 : decode cX8_copy 136 = .ok (.istore 7, 2) := by decide +kernel
theorem dX8_copy_138 : decode cX8_copy 138 = .ok (.aload_n 0, 1) := by decide +kernel
theorem dX8_copy_139 : decode cX8_copy 139 = .ok (.getfield 25, 3) := by decide +kernel
theorem dX8_copy_142 : decode cX8_copy 142 = .ok (.bipush 28, 2) := by decide +kernel
theorem dX8_copy_144 : decode cX8_copy 144 = .ok (.iload_n 3, 1) := by decide +kernel
theorem dX8_copy_145 : decode cX8_copy 145 = .ok (.imul, 1) := by decide +kernel
theorem dX8_copy_146 : decode cX8_copy 146 = .ok (.iload 4, 2) := by decide +kernel
theorem dX8_copy_148 : decode cX8_copy 148 = .ok (.iadd, 1) := by decide +kernel
theorem dX8_copy_149 : decode cX8_copy 149 = .ok (.iload 7, 2) := by decide +kernel
theorem dX8_copy_151 : decode cX8_copy 151 = .ok (.iadd, 1) := by decide +kernel
theorem dX8_copy_152 : decode cX8_copy 152 = .ok (.aload_n 0, 1) := by decide +kernel
theorem dX8_copy_153 : decode cX8_copy 153 = .ok (.getfield 25, 3) := by decide +kernel
theorem dX8_copy_156 : decode cX8_copy 156 = .ok (.bipush 28, 2) := by decide +kernel
theorem dX8_copy_158 : decode cX8_copy 158 = .ok (.iload_n 1, 1) := by decide +kernel
theorem dX8_copy_159 : decode cX8_copy 159 = .ok (.imul, 1) := by decide +kernel
theorem dX8_copy_160 : decode cX8_copy 160 = .ok (.iload_n 2, 1) := by decide +kernel
theorem dX8_copy_161 : decode cX8_copy 161 = .ok (.iadd, 1) := by decide +kernel
theorem dX8_copy_162 : decode cX8_copy 162 = .ok (.iload 7, 2) := by decide +kernel
theorem dX8_copy_164 : decode cX8_copy 164 = .ok (.iadd, 1) := by decide +kernel
theorem dX8_copy_165 : decode cX8_copy 165 = .ok (.iaload, 1) := by decide +kernel
theorem dX8_copy_166 : decode cX8_copy 166 = .ok (.iastore, 1) := by decide +kernel
theorem dX8_copy_167 : decode cX8_copy 167 = .ok (.iinc 6 1, 3) := by decide +kernel
theorem dX8_copy_170 : decode cX8_copy 170 = .ok (.goto (-59), 3) := by decide +kernel
theorem dX8_copy_173 : decode cX8_copy 173 = .ok (.iload 5, 2) := by decide +kernel
theorem dX8_copy_175 : decode cX8_copy 175 = .ok (.ireturn, 1) := by decide +kernel
theorem dJ6_bitCount_0f7a4_0 : decode cJ6_bitCount_0f7a4 0 = .ok (.iload_n 0, 1) := by decide +kernel
theorem dJ6_bitCount_0f7a4_1 : decode cJ6_bitCount_0f7a4 1 = .ok (.iload_n 0, 1) := by decide +kernel
theorem dJ6_bitCount_0f7a4_2 : decode cJ6_bitCount_0f7a4 2 = .ok (.iconst 1, 1) := by decide +kernel
theorem dJ6_bitCount_0f7a4_3 : decode cJ6_bitCount_0f7a4 3 = .ok (.iushr, 1) := by decide +kernel
theorem dJ6_bitCount_0f7a4_4 : decode cJ6_bitCount_0f7a4 4 = .ok (.ldc_w 265, 3) := by decide +kernel
theorem dJ6_bitCount_0f7a4_7 : decode cJ6_bitCount_0f7a4 7 = .ok (.iand, 1) := by decide +kernel
theorem dJ6_bitCount_0f7a4_8 : decode cJ6_bitCount_0f7a4 8 = .ok (.isub, 1) := by decide +kernel
theorem dJ6_bitCount_0f7a4_9 : decode cJ6_bitCount_0f7a4 9 = .ok (.istore_n 0, 1) := by decide +kernel
theorem dJ6_bitCount_0f7a4_10 : decode cJ6_bitCount_0f7a4 10 = .ok (.iload_n 0, 1) := by decide +kernel
theorem dJ6_bitCount_0f7a4_11 : decode cJ6_bitCount_0f7a4 11 = .ok (.ldc_w 266, 3) := by decide +kernel
theorem dJ6_bitCount_0f7a4_14 : decode cJ6_bitCount_0f7a4 14 = .ok (.iand, 1) := by decide +kernel
theorem dJ6_bitCount_0f7a4_15 : decode cJ6_bitCount_0f7a4 15 = .ok (.iload_n 0, 1) := by decide +kernel
theorem dJ6_bitCount_0f7a4_16 : decode cJ6_bitCount_0f7a4 16 = .ok (.iconst 2, 1) := by decide +kernel
theorem dJ6_bitCount_0f7a4_17 : decode cJ6_bitCount_0f7a4 17 = .ok (.iushr, 1) := by decide +kernel
theorem dJ6_bitCount_0f7a4_18 : decode cJ6_bitCount_0f7a4 18 = .ok (.ldc_w 266, 3) := by decide +kernel
theorem dJ6_bitCount_0f7a4_21 : decode cJ6_bitCount_0f7a4 21 = .ok (.iand, 1) := by decide +kernel
theorem dJ6_bitCount_0f7a4_22 : decode cJ6_bitCount_0f7a4 22 = .ok (.iadd, 1) := by decide +kernel
theorem dJ6_bitCount_0f7a4_23 : decode cJ6_bitCount_0f7a4 23 = .ok (.istore_n 0, 1) := by decide +kernel
theorem dJ6_bitCount_0f7a4_24 : decode cJ6_bitCount_0f7a4 24 = .ok (.iload_n 0, 1) := by decide +kernel
theorem dJ6_bitCount_0f7a4_25 : decode cJ6_bitCount_0f7a4 25 = .ok (.iload_n 0, 1) := by decide +kernel
theorem dJ6_bitCount_0f7a4_26 : decode cJ6_bitCount_0f7a4 26 = .ok (.iconst 4, 1) := by decide +kernel
theorem dJ6_bitCount_0f7a4_27 : decode cJ6_bitCount_0f7a4 27 = .ok (.iushr, 1) := by decide +kernel
theorem dJ6_bitCount_0f7a4_28 : decode cJ6_bitCount_0f7a4 28 = .ok (.iadd, 1) := by decide +kernel
theorem dJ6_bitCount_0f7a4_29 : decode cJ6_bitCount_0f7a4 29 = .ok (.ldc_w 267, 3) := by decide +kernel
theorem dJ6_bitCount_0f7a4_32 : decode cJ6_bitCount_0f7a4 32 = .ok (.iand, 1) := by decide +kernel
theorem dJ6_bitCount_0f7a4_33 : decode cJ6_bitCount_0f7a4 33 = .ok (.istore_n 0, 1) := by decide +kernel
theorem dJ6_bitCount_0f7a4_34 : decode cJ6_bitCount_0f7a4 34 = .ok (.iload_n 0, 1) := by decide +kernel
theorem dJ6_bitCount_0f7a4_35 : decode cJ6_bitCount_0f7a4 35 = .ok (.iload_n 0, 1) := by decide +kernel
theorem dJ6_bitCount_0f7a4_36 : decode cJ6_bitCount_0f7a4 36 = .ok (.bipush 8, 2) := by decide +kernel
theorem dJ6_bitCount_0f7a4_38 : decode cJ6_bitCount_0f7a4 38 = .ok (.iushr, 1) := by decide +kernel
theorem dJ6_bitCount_0f7a4_39 : decode cJ6_bitCount_0f7a4 39 = .ok (.iadd, 1) := by decide +kernel
theorem dJ6_bitCount_0f7a4_40 : decode cJ6_bitCount_0f7a4 40 = .ok (.istore_n 0, 1) := by decide +kernel
theorem dJ6_bitCount_0f7a4_41 : decode cJ6_bitCount_0f7a4 41 = .ok (.iload_n 0, 1) := by decide +kernel
theorem dJ6_bitCount_0f7a4_42 : decode cJ6_bitCount_0f7a4 42 = .ok (.iload_n 0, 1) := by decide +kernel
theorem dJ6_bitCount_0f7a4_43 : decode cJ6_bitCount_0f7a4 43 = .ok (.bipush 16, 2) := by decide +kernel
theorem dJ6_bitCount_0f7a4_45 : decode cJ6_bitCount_0f7a4 45 = .ok (.iushr, 1) := by decide +kernel
theorem dJ6_bitCount_0f7a4_46 : decode cJ6_bitCount_0f7a4 46 = .ok (.iadd, 1) := by decide +kernel
theorem dJ6_bitCount_0f7a4_47 : decode cJ6_bitCount_0f7a4 47 = .ok (.istore_n 0, 1) := by decide +kernel
theorem dJ6_bitCount_0f7a4_48 : decode cJ6_bitCount_0f7a4 48 = .ok (.iload_n 0, 1) := by decide +kernel
theorem dJ6_bitCount_0f7a4_49 : decode cJ6_bitCount_0f7a4 49 = .ok (.bipush 63, 2) := by decide +kernel
theorem dJ6_bitCount_0f7a4_51 : decode cJ6_bitCount_0f7a4 51 = .ok (.iand, 1) := by decide +kernel
theorem dJ6_bitCount_0f7a4_52 : decode cJ6_bitCount_0f7a4 52 = .ok (.ireturn, 1) := by decide +kernel
end
section
/-! WHAT A METHOD DOES, SAID WITHOUT THE MACHINE. A heap is a list of cells, a reference is a place in it; a cell is an int array, an array of references, or an object (number of its class in vwCl, fields). -/
abbrev sm_C : Type := ((Nat × (Nat → Int32)) ⊕ (Nat × (Nat → Option Nat))) ⊕ (Nat × List Value)
abbrev hI (n : Nat) (f : Nat → Int32) : sm_C := .inl (.inl (n, f))
abbrev hQ (n : Nat) (f : Nat → Option Nat) : sm_C := .inl (.inr (n, f))
abbrev hO (ci : Nat) (fs : List Value) : sm_C := .inr (ci, fs)
/-- a predicate on a place in the code, locals, stack, heap -/
abbrev sm_K : Type := Nat → List (Option Value) → List Value → List sm_C → Prop
/-- local i may be written: it isn't the second half of a long -/
def sm_ok (L : List (Option Value)) (i : Nat) : Bool := match i with
  | 0 => true
  | j + 1 => match L[j]? with
    | some (some (.long _)) => false
    | some (some (.double _)) => false
    | _ => true

def ru_iconst (own : String) (b : ByteArray) (K : sm_K) : Prop := ∀ {pc : Nat} {L : List (Option Value)} {st : List Value} {h : List sm_C} {n : Int} {v : Int32} (hd : decode b pc = .ok (.iconst n, 1)) (hv : Int32.ofInt n = v) (k : K (pc + 1) L (.int v :: st) h), K pc L st h
def ru_bipush (own : String) (b : ByteArray) (K : sm_K) : Prop := ∀ {pc : Nat} {L : List (Option Value)} {st : List Value} {h : List sm_C} {n : Int} {v : Int32} (hd : decode b pc = .ok (.bipush n, 2)) (hv : (Int8.ofInt n).toInt32 = v) (k : K (pc + 2) L (.int v :: st) h), K pc L st h
def ru_sipush (own : String) (b : ByteArray) (K : sm_K) : Prop := ∀ {pc : Nat} {L : List (Option Value)} {st : List Value} {h : List sm_C} {n : Int} {v : Int32} (hd : decode b pc = .ok (.sipush n, 3)) (hv : (Int16.ofInt n).toInt32 = v) (k : K (pc + 3) L (.int v :: st) h), K pc L st h
def ru_lconst (own : String) (b : ByteArray) (K : sm_K) : Prop := ∀ {pc : Nat} {L : List (Option Value)} {st : List Value} {h : List sm_C} {n : Fin 2} {v : Int64} (hd : decode b pc = .ok (.lconst n, 1)) (hv : Int64.ofNat (n : Nat) = v) (k : K (pc + 1) L (.long v :: st) h), K pc L st h
def ru_null (own : String) (b : ByteArray) (K : sm_K) : Prop := ∀ {pc : Nat} {L : List (Option Value)} {st : List Value} {h : List sm_C}  (hd : decode b pc = .ok (.aconst_null, 1)) (k : K (pc + 1) L (.null :: st) h), K pc L st h
def ru_ldc (own : String) (b : ByteArray) (K : sm_K) : Prop := ∀ {pc : Nat} {L : List (Option Value)} {st : List Value} {h : List sm_C} {i : Nat} {v : Int32} (hd : decode b pc = .ok (.ldc i, 2)) (hc : Cond.constant own i v ∈ lw_tbl) (k : K (pc + 2) L (.int v :: st) h), K pc L st h
def ru_ldcw (own : String) (b : ByteArray) (K : sm_K) : Prop := ∀ {pc : Nat} {L : List (Option Value)} {st : List Value} {h : List sm_C} {i : Nat} {v : Int32} (hd : decode b pc = .ok (.ldc_w i, 3)) (hc : Cond.constant own i v ∈ lw_tbl) (k : K (pc + 3) L (.int v :: st) h), K pc L st h
def ru_ldc2 (own : String) (b : ByteArray) (K : sm_K) : Prop := ∀ {pc : Nat} {L : List (Option Value)} {st : List Value} {h : List sm_C} {i : Nat} {v : Int64} (hd : decode b pc = .ok (.ldc2_w i, 3)) (hc : Cond.constantLong own i v ∈ lw_tbl) (k : K (pc + 3) L (.long v :: st) h), K pc L st h
def ru_iload (own : String) (b : ByteArray) (K : sm_K) : Prop := ∀ {pc : Nat} {L : List (Option Value)} {st : List Value} {h : List sm_C} {i : Nat} {x : Int32} (hd : decode b pc = .ok (.iload i, 2)) (hL : L[i]? = some (some (.int x))) (k : K (pc + 2) L (.int x :: st) h), K pc L st h
def ru_iload_n (own : String) (b : ByteArray) (K : sm_K) : Prop := ∀ {pc : Nat} {L : List (Option Value)} {st : List Value} {h : List sm_C} {i : Fin 4} {x : Int32} (hd : decode b pc = .ok (.iload_n i, 1)) (hL : L[(i : Nat)]? = some (some (.int x))) (k : K (pc + 1) L (.int x :: st) h), K pc L st h
def ru_lload (own : String) (b : ByteArray) (K : sm_K) : Prop := ∀ {pc : Nat} {L : List (Option Value)} {st : List Value} {h : List sm_C} {i : Nat} {x : Int64} (hd : decode b pc = .ok (.lload i, 2)) (hL : L[i]? = some (some (.long x))) (k : K (pc + 2) L (.long x :: st) h), K pc L st h
def ru_lload_n (own : String) (b : ByteArray) (K : sm_K) : Prop := ∀ {pc : Nat} {L : List (Option Value)} {st : List Value} {h : List sm_C} {i : Fin 4} {x : Int64} (hd : decode b pc = .ok (.lload_n i, 1)) (hL : L[(i : Nat)]? = some (some (.long x))) (k : K (pc + 1) L (.long x :: st) h), K pc L st h
def ru_aload (own : String) (b : ByteArray) (K : sm_K) : Prop := ∀ {pc : Nat} {L : List (Option Value)} {st : List Value} {h : List sm_C} {i : Nat} {x : Nat} (hd : decode b pc = .ok (.aload i, 2)) (hL : L[i]? = some (some (.ref x))) (k : K (pc + 2) L (.ref x :: st) h), K pc L st h
def ru_aload_n (own : String) (b : ByteArray) (K : sm_K) : Prop := ∀ {pc : Nat} {L : List (Option Value)} {st : List Value} {h : List sm_C} {i : Fin 4} {x : Nat} (hd : decode b pc = .ok (.aload_n i, 1)) (hL : L[(i : Nat)]? = some (some (.ref x))) (k : K (pc + 1) L (.ref x :: st) h), K pc L st h
def ru_aloadN (own : String) (b : ByteArray) (K : sm_K) : Prop := ∀ {pc : Nat} {L : List (Option Value)} {st : List Value} {h : List sm_C} {i : Nat} (hd : decode b pc = .ok (.aload i, 2)) (hL : L[i]? = some (some .null)) (k : K (pc + 2) L (.null :: st) h), K pc L st h
def ru_aload_nN (own : String) (b : ByteArray) (K : sm_K) : Prop := ∀ {pc : Nat} {L : List (Option Value)} {st : List Value} {h : List sm_C} {i : Fin 4} (hd : decode b pc = .ok (.aload_n i, 1)) (hL : L[(i : Nat)]? = some (some .null)) (k : K (pc + 1) L (.null :: st) h), K pc L st h
def ru_istore (own : String) (b : ByteArray) (K : sm_K) : Prop := ∀ {pc : Nat} {L : List (Option Value)} {st : List Value} {h : List sm_C} {i : Nat} {x : Int32} (hd : decode b pc = .ok (.istore i, 2)) (hi : i < L.length) (ho : sm_ok L i = true) (k : K (pc + 2) (L.set i (some (.int x))) st h), K pc L (.int x :: st) h
def ru_istore_n (own : String) (b : ByteArray) (K : sm_K) : Prop := ∀ {pc : Nat} {L : List (Option Value)} {st : List Value} {h : List sm_C} {i : Fin 4} {x : Int32} (hd : decode b pc = .ok (.istore_n i, 1)) (hi : (i : Nat) < L.length) (ho : sm_ok L i = true) (k : K (pc + 1) (L.set i (some (.int x))) st h), K pc L (.int x :: st) h
def ru_astore (own : String) (b : ByteArray) (K : sm_K) : Prop := ∀ {pc : Nat} {L : List (Option Value)} {st : List Value} {h : List sm_C} {i : Nat} {x : Nat} (hd : decode b pc = .ok (.astore i, 2)) (hi : i < L.length) (ho : sm_ok L i = true) (k : K (pc + 2) (L.set i (some (.ref x))) st h), K pc L (.ref x :: st) h
def ru_astore_n (own : String) (b : ByteArray) (K : sm_K) : Prop := ∀ {pc : Nat} {L : List (Option Value)} {st : List Value} {h : List sm_C} {i : Fin 4} {x : Nat} (hd : decode b pc = .ok (.astore_n i, 1)) (hi : (i : Nat) < L.length) (ho : sm_ok L i = true) (k : K (pc + 1) (L.set i (some (.ref x))) st h), K pc L (.ref x :: st) h
def ru_astoreN (own : String) (b : ByteArray) (K : sm_K) : Prop := ∀ {pc : Nat} {L : List (Option Value)} {st : List Value} {h : List sm_C} {i : Nat} (hd : decode b pc = .ok (.astore i, 2)) (hi : i < L.length) (ho : sm_ok L i = true) (k : K (pc + 2) (L.set i (some .null)) st h), K pc L (.null :: st) h
def ru_astore_nN (own : String) (b : ByteArray) (K : sm_K) : Prop := ∀ {pc : Nat} {L : List (Option Value)} {st : List Value} {h : List sm_C} {i : Fin 4} (hd : decode b pc = .ok (.astore_n i, 1)) (hi : (i : Nat) < L.length) (ho : sm_ok L i = true) (k : K (pc + 1) (L.set i (some .null)) st h), K pc L (.null :: st) h
def ru_iinc (own : String) (b : ByteArray) (K : sm_K) : Prop := ∀ {pc : Nat} {L : List (Option Value)} {st : List Value} {h : List sm_C} {i : Nat} {n : Int} {x v : Int32} (hd : decode b pc = .ok (.iinc i n, 3)) (hL : L[i]? = some (some (.int x))) (hv : x + Int32.ofInt n = v) (ho : sm_ok L i = true) (k : K (pc + 3) (L.set i (some (.int v))) st h), K pc L st h
def ru_iadd (own : String) (b : ByteArray) (K : sm_K) : Prop := ∀ {pc : Nat} {L : List (Option Value)} {st : List Value} {h : List sm_C} {x y : Int32} (hd : decode b pc = .ok (.iadd, 1)) (k : K (pc + 1) L (.int (x + y) :: st) h), K pc L (.int y :: .int x :: st) h
def ru_isub (own : String) (b : ByteArray) (K : sm_K) : Prop := ∀ {pc : Nat} {L : List (Option Value)} {st : List Value} {h : List sm_C} {x y : Int32} (hd : decode b pc = .ok (.isub, 1)) (k : K (pc + 1) L (.int (x - y) :: st) h), K pc L (.int y :: .int x :: st) h
def ru_imul (own : String) (b : ByteArray) (K : sm_K) : Prop := ∀ {pc : Nat} {L : List (Option Value)} {st : List Value} {h : List sm_C} {x y : Int32} (hd : decode b pc = .ok (.imul, 1)) (k : K (pc + 1) L (.int (x * y) :: st) h), K pc L (.int y :: .int x :: st) h
def ru_iand (own : String) (b : ByteArray) (K : sm_K) : Prop := ∀ {pc : Nat} {L : List (Option Value)} {st : List Value} {h : List sm_C} {x y : Int32} (hd : decode b pc = .ok (.iand, 1)) (k : K (pc + 1) L (.int (x &&& y) :: st) h), K pc L (.int y :: .int x :: st) h
def ru_ior (own : String) (b : ByteArray) (K : sm_K) : Prop := ∀ {pc : Nat} {L : List (Option Value)} {st : List Value} {h : List sm_C} {x y : Int32} (hd : decode b pc = .ok (.ior, 1)) (k : K (pc + 1) L (.int (x ||| y) :: st) h), K pc L (.int y :: .int x :: st) h
def ru_ixor (own : String) (b : ByteArray) (K : sm_K) : Prop := ∀ {pc : Nat} {L : List (Option Value)} {st : List Value} {h : List sm_C} {x y : Int32} (hd : decode b pc = .ok (.ixor, 1)) (k : K (pc + 1) L (.int (x ^^^ y) :: st) h), K pc L (.int y :: .int x :: st) h
def ru_ishl (own : String) (b : ByteArray) (K : sm_K) : Prop := ∀ {pc : Nat} {L : List (Option Value)} {st : List Value} {h : List sm_C} {x y : Int32} (hd : decode b pc = .ok (.ishl, 1)) (k : K (pc + 1) L (.int (x <<< (y &&& 31)) :: st) h), K pc L (.int y :: .int x :: st) h
def ru_ishr (own : String) (b : ByteArray) (K : sm_K) : Prop := ∀ {pc : Nat} {L : List (Option Value)} {st : List Value} {h : List sm_C} {x y : Int32} (hd : decode b pc = .ok (.ishr, 1)) (k : K (pc + 1) L (.int (x >>> (y &&& 31)) :: st) h), K pc L (.int y :: .int x :: st) h
def ru_iushr (own : String) (b : ByteArray) (K : sm_K) : Prop := ∀ {pc : Nat} {L : List (Option Value)} {st : List Value} {h : List sm_C} {x y : Int32} (hd : decode b pc = .ok (.iushr, 1)) (k : K (pc + 1) L (.int (x.toUInt32 >>> (y.toUInt32 &&& Int32.toUInt32 31)).toInt32 :: st) h), K pc L (.int y :: .int x :: st) h
def ru_ineg (own : String) (b : ByteArray) (K : sm_K) : Prop := ∀ {pc : Nat} {L : List (Option Value)} {st : List Value} {h : List sm_C} {x : Int32} (hd : decode b pc = .ok (.ineg, 1)) (k : K (pc + 1) L (.int (-x) :: st) h), K pc L (.int x :: st) h
def ru_idiv (own : String) (b : ByteArray) (K : sm_K) : Prop := ∀ {pc : Nat} {L : List (Option Value)} {st : List Value} {h : List sm_C} {x y : Int32} (hd : decode b pc = .ok (.idiv, 1)) (hy : ¬ y = 0) (k : K (pc + 1) L (.int (x / y) :: st) h), K pc L (.int y :: .int x :: st) h
def ru_irem (own : String) (b : ByteArray) (K : sm_K) : Prop := ∀ {pc : Nat} {L : List (Option Value)} {st : List Value} {h : List sm_C} {x y : Int32} (hd : decode b pc = .ok (.irem, 1)) (hy : ¬ y = 0) (k : K (pc + 1) L (.int (x - x / y * y) :: st) h), K pc L (.int y :: .int x :: st) h
def ru_ladd (own : String) (b : ByteArray) (K : sm_K) : Prop := ∀ {pc : Nat} {L : List (Option Value)} {st : List Value} {h : List sm_C} {x y : Int64} (hd : decode b pc = .ok (.ladd, 1)) (k : K (pc + 1) L (.long (x + y) :: st) h), K pc L (.long y :: .long x :: st) h
def ru_lmul (own : String) (b : ByteArray) (K : sm_K) : Prop := ∀ {pc : Nat} {L : List (Option Value)} {st : List Value} {h : List sm_C} {x y : Int64} (hd : decode b pc = .ok (.lmul, 1)) (k : K (pc + 1) L (.long (x * y) :: st) h), K pc L (.long y :: .long x :: st) h
def ru_land (own : String) (b : ByteArray) (K : sm_K) : Prop := ∀ {pc : Nat} {L : List (Option Value)} {st : List Value} {h : List sm_C} {x y : Int64} (hd : decode b pc = .ok (.land, 1)) (k : K (pc + 1) L (.long (x &&& y) :: st) h), K pc L (.long y :: .long x :: st) h
def ru_lor (own : String) (b : ByteArray) (K : sm_K) : Prop := ∀ {pc : Nat} {L : List (Option Value)} {st : List Value} {h : List sm_C} {x y : Int64} (hd : decode b pc = .ok (.lor, 1)) (k : K (pc + 1) L (.long (x ||| y) :: st) h), K pc L (.long y :: .long x :: st) h
def ru_lcmp (own : String) (b : ByteArray) (K : sm_K) : Prop := ∀ {pc : Nat} {L : List (Option Value)} {st : List Value} {h : List sm_C} {x y : Int64} (hd : decode b pc = .ok (.lcmp, 1)) (k : K (pc + 1) L (.int (lg_cmp x y) :: st) h), K pc L (.long y :: .long x :: st) h
def ru_lshl (own : String) (b : ByteArray) (K : sm_K) : Prop := ∀ {pc : Nat} {L : List (Option Value)} {st : List Value} {h : List sm_C} {x : Int64} {y : Int32} (hd : decode b pc = .ok (.lshl, 1)) (k : K (pc + 1) L (.long (x <<< (y.toInt64 &&& 63)) :: st) h), K pc L (.int y :: .long x :: st) h
def ru_lshr (own : String) (b : ByteArray) (K : sm_K) : Prop := ∀ {pc : Nat} {L : List (Option Value)} {st : List Value} {h : List sm_C} {x : Int64} {y : Int32} (hd : decode b pc = .ok (.lshr, 1)) (k : K (pc + 1) L (.long (x >>> (y.toInt64 &&& 63)) :: st) h), K pc L (.int y :: .long x :: st) h
def ru_lushr (own : String) (b : ByteArray) (K : sm_K) : Prop := ∀ {pc : Nat} {L : List (Option Value)} {st : List Value} {h : List sm_C} {x : Int64} {y : Int32} (hd : decode b pc = .ok (.lushr, 1)) (k : K (pc + 1) L (.long ((x.toUInt64 >>> (y.toInt64.toUInt64 &&& Int64.toUInt64 63)).toInt64) :: st) h), K pc L (.int y :: .long x :: st) h
def ru_i2l (own : String) (b : ByteArray) (K : sm_K) : Prop := ∀ {pc : Nat} {L : List (Option Value)} {st : List Value} {h : List sm_C} {x : Int32} (hd : decode b pc = .ok (.i2l, 1)) (k : K (pc + 1) L (.long x.toInt64 :: st) h), K pc L (.int x :: st) h
def ru_l2i (own : String) (b : ByteArray) (K : sm_K) : Prop := ∀ {pc : Nat} {L : List (Option Value)} {st : List Value} {h : List sm_C} {x : Int64} (hd : decode b pc = .ok (.l2i, 1)) (k : K (pc + 1) L (.int x.toInt32 :: st) h), K pc L (.long x :: st) h
def ru_i2b (own : String) (b : ByteArray) (K : sm_K) : Prop := ∀ {pc : Nat} {L : List (Option Value)} {st : List Value} {h : List sm_C} {x : Int32} (hd : decode b pc = .ok (.i2b, 1)) (k : K (pc + 1) L (.int x.toInt8.toInt32 :: st) h), K pc L (.int x :: st) h
def ru_i2s (own : String) (b : ByteArray) (K : sm_K) : Prop := ∀ {pc : Nat} {L : List (Option Value)} {st : List Value} {h : List sm_C} {x : Int32} (hd : decode b pc = .ok (.i2s, 1)) (k : K (pc + 1) L (.int x.toInt16.toInt32 :: st) h), K pc L (.int x :: st) h
def ru_dup (own : String) (b : ByteArray) (K : sm_K) : Prop := ∀ {pc : Nat} {L : List (Option Value)} {st : List Value} {h : List sm_C} {v : Value} (hd : decode b pc = .ok (.dup, 1)) (hc : v.category = 1) (k : K (pc + 1) L (v :: v :: st) h), K pc L (v :: st) h
def ru_pop (own : String) (b : ByteArray) (K : sm_K) : Prop := ∀ {pc : Nat} {L : List (Option Value)} {st : List Value} {h : List sm_C} {v : Value} (hd : decode b pc = .ok (.pop, 1)) (hc : v.category = 1) (k : K (pc + 1) L st h), K pc L (v :: st) h
def ru_dup2 (own : String) (b : ByteArray) (K : sm_K) : Prop := ∀ {pc : Nat} {L : List (Option Value)} {st : List Value} {h : List sm_C} {v w : Value} (hd : decode b pc = .ok (.dup2, 1)) (hc : v.category = 1) (hc2 : w.category = 1) (k : K (pc + 1) L (v :: w :: v :: w :: st) h), K pc L (v :: w :: st) h
def ru_if_eq (own : String) (b : ByteArray) (K : sm_K) : Prop := ∀ {pc : Nat} {L : List (Option Value)} {st : List Value} {h : List sm_C} {x : Int32} {off : Int} {tgt : Nat} (hd : decode b pc = .ok (.ifCond .eq off, 3)) (ht : (pc : Int) + off = (tgt : Int)) (k1 : x = 0 → K tgt L st h) (k2 : ¬ x = 0 → K (pc + 3) L st h), K pc L (.int x :: st) h
def ru_icmp_eq (own : String) (b : ByteArray) (K : sm_K) : Prop := ∀ {pc : Nat} {L : List (Option Value)} {st : List Value} {h : List sm_C} {x y : Int32} {off : Int} {tgt : Nat} (hd : decode b pc = .ok (.if_icmp .eq off, 3)) (ht : (pc : Int) + off = (tgt : Int)) (k1 : x = y → K tgt L st h) (k2 : ¬ x = y → K (pc + 3) L st h), K pc L (.int y :: .int x :: st) h
def ru_if_ne (own : String) (b : ByteArray) (K : sm_K) : Prop := ∀ {pc : Nat} {L : List (Option Value)} {st : List Value} {h : List sm_C} {x : Int32} {off : Int} {tgt : Nat} (hd : decode b pc = .ok (.ifCond .ne off, 3)) (ht : (pc : Int) + off = (tgt : Int)) (k1 : ¬ x = 0 → K tgt L st h) (k2 : x = 0 → K (pc + 3) L st h), K pc L (.int x :: st) h
def ru_icmp_ne (own : String) (b : ByteArray) (K : sm_K) : Prop := ∀ {pc : Nat} {L : List (Option Value)} {st : List Value} {h : List sm_C} {x y : Int32} {off : Int} {tgt : Nat} (hd : decode b pc = .ok (.if_icmp .ne off, 3)) (ht : (pc : Int) + off = (tgt : Int)) (k1 : ¬ x = y → K tgt L st h) (k2 : x = y → K (pc + 3) L st h), K pc L (.int y :: .int x :: st) h
def ru_if_lt (own : String) (b : ByteArray) (K : sm_K) : Prop := ∀ {pc : Nat} {L : List (Option Value)} {st : List Value} {h : List sm_C} {x : Int32} {off : Int} {tgt : Nat} (hd : decode b pc = .ok (.ifCond .lt off, 3)) (ht : (pc : Int) + off = (tgt : Int)) (k1 : x < 0 → K tgt L st h) (k2 : ¬ x < 0 → K (pc + 3) L st h), K pc L (.int x :: st) h
def ru_icmp_lt (own : String) (b : ByteArray) (K : sm_K) : Prop := ∀ {pc : Nat} {L : List (Option Value)} {st : List Value} {h : List sm_C} {x y : Int32} {off : Int} {tgt : Nat} (hd : decode b pc = .ok (.if_icmp .lt off, 3)) (ht : (pc : Int) + off = (tgt : Int)) (k1 : x < y → K tgt L st h) (k2 : ¬ x < y → K (pc + 3) L st h), K pc L (.int y :: .int x :: st) h
def ru_if_ge (own : String) (b : ByteArray) (K : sm_K) : Prop := ∀ {pc : Nat} {L : List (Option Value)} {st : List Value} {h : List sm_C} {x : Int32} {off : Int} {tgt : Nat} (hd : decode b pc = .ok (.ifCond .ge off, 3)) (ht : (pc : Int) + off = (tgt : Int)) (k1 : 0 ≤ x → K tgt L st h) (k2 : ¬ 0 ≤ x → K (pc + 3) L st h), K pc L (.int x :: st) h
def ru_icmp_ge (own : String) (b : ByteArray) (K : sm_K) : Prop := ∀ {pc : Nat} {L : List (Option Value)} {st : List Value} {h : List sm_C} {x y : Int32} {off : Int} {tgt : Nat} (hd : decode b pc = .ok (.if_icmp .ge off, 3)) (ht : (pc : Int) + off = (tgt : Int)) (k1 : y ≤ x → K tgt L st h) (k2 : ¬ y ≤ x → K (pc + 3) L st h), K pc L (.int y :: .int x :: st) h
def ru_if_gt (own : String) (b : ByteArray) (K : sm_K) : Prop := ∀ {pc : Nat} {L : List (Option Value)} {st : List Value} {h : List sm_C} {x : Int32} {off : Int} {tgt : Nat} (hd : decode b pc = .ok (.ifCond .gt off, 3)) (ht : (pc : Int) + off = (tgt : Int)) (k1 : 0 < x → K tgt L st h) (k2 : ¬ 0 < x → K (pc + 3) L st h), K pc L (.int x :: st) h
def ru_icmp_gt (own : String) (b : ByteArray) (K : sm_K) : Prop := ∀ {pc : Nat} {L : List (Option Value)} {st : List Value} {h : List sm_C} {x y : Int32} {off : Int} {tgt : Nat} (hd : decode b pc = .ok (.if_icmp .gt off, 3)) (ht : (pc : Int) + off = (tgt : Int)) (k1 : y < x → K tgt L st h) (k2 : ¬ y < x → K (pc + 3) L st h), K pc L (.int y :: .int x :: st) h
def ru_if_le (own : String) (b : ByteArray) (K : sm_K) : Prop := ∀ {pc : Nat} {L : List (Option Value)} {st : List Value} {h : List sm_C} {x : Int32} {off : Int} {tgt : Nat} (hd : decode b pc = .ok (.ifCond .le off, 3)) (ht : (pc : Int) + off = (tgt : Int)) (k1 : x ≤ 0 → K tgt L st h) (k2 : ¬ x ≤ 0 → K (pc + 3) L st h), K pc L (.int x :: st) h
def ru_icmp_le (own : String) (b : ByteArray) (K : sm_K) : Prop := ∀ {pc : Nat} {L : List (Option Value)} {st : List Value} {h : List sm_C} {x y : Int32} {off : Int} {tgt : Nat} (hd : decode b pc = .ok (.if_icmp .le off, 3)) (ht : (pc : Int) + off = (tgt : Int)) (k1 : x ≤ y → K tgt L st h) (k2 : ¬ x ≤ y → K (pc + 3) L st h), K pc L (.int y :: .int x :: st) h
def ru_goto (own : String) (b : ByteArray) (K : sm_K) : Prop := ∀ {pc : Nat} {L : List (Option Value)} {st : List Value} {h : List sm_C} {off : Int} {tgt : Nat} (hd : decode b pc = .ok (.goto off, 3)) (ht : (pc : Int) + off = (tgt : Int)) (k : K tgt L st h), K pc L st h
def ru_ifnull (own : String) (b : ByteArray) (K : sm_K) : Prop := ∀ {pc : Nat} {L : List (Option Value)} {st : List Value} {h : List sm_C} {x : Nat} {off : Int} (hd : decode b pc = .ok (.ifnull off, 3)) (k : K (pc + 3) L st h), K pc L (.ref x :: st) h
def ru_ifnullN (own : String) (b : ByteArray) (K : sm_K) : Prop := ∀ {pc : Nat} {L : List (Option Value)} {st : List Value} {h : List sm_C} {off : Int} {tgt : Nat} (hd : decode b pc = .ok (.ifnull off, 3)) (ht : (pc : Int) + off = (tgt : Int)) (k : K tgt L st h), K pc L (.null :: st) h
def ru_ifnonnull (own : String) (b : ByteArray) (K : sm_K) : Prop := ∀ {pc : Nat} {L : List (Option Value)} {st : List Value} {h : List sm_C} {x : Nat} {off : Int} {tgt : Nat} (hd : decode b pc = .ok (.ifnonnull off, 3)) (ht : (pc : Int) + off = (tgt : Int)) (k : K tgt L st h), K pc L (.ref x :: st) h
def ru_ifnonnullN (own : String) (b : ByteArray) (K : sm_K) : Prop := ∀ {pc : Nat} {L : List (Option Value)} {st : List Value} {h : List sm_C} {off : Int} (hd : decode b pc = .ok (.ifnonnull off, 3)) (k : K (pc + 3) L st h), K pc L (.null :: st) h
def ru_lookup (own : String) (b : ByteArray) (K : sm_K) : Prop := ∀ {pc : Nat} {L : List (Option Value)} {st : List Value} {h : List sm_C} {dflt : Int} {ps : Array (Int × Int)} {len : Nat} {x : Int32} {off : Int} {tgt : Nat} (hd : decode b pc = .ok (.lookupswitch dflt ps, len)) (hp : (ps.toList.zip (ps.toList.drop 1)).all (fun (a, next) => a.1 < next.1) = true) (ho : Op.lookupswitch.offset ps.toList dflt x.toInt = off) (ht : (pc : Int) + off = (tgt : Int)) (k : K tgt L st h), K pc L (.int x :: st) h
def ru_tableOut (own : String) (b : ByteArray) (K : sm_K) : Prop := ∀ {pc : Nat} {L : List (Option Value)} {st : List Value} {h : List sm_C} {dflt lo hi : Int} {offs : Array Int} {len : Nat} {x : Int32} {tgt : Nat} (hd : decode b pc = .ok (.tableswitch dflt lo hi offs, len)) (ho : x.toInt < lo ∨ hi < x.toInt) (ht : (pc : Int) + dflt = (tgt : Int)) (k : K tgt L st h), K pc L (.int x :: st) h
def ru_tableIn (own : String) (b : ByteArray) (K : sm_K) : Prop := ∀ {pc : Nat} {L : List (Option Value)} {st : List Value} {h : List sm_C} {dflt lo hi : Int} {offs : Array Int} {len : Nat} {x : Int32} {off : Int} {tgt : Nat} (hd : decode b pc = .ok (.tableswitch dflt lo hi offs, len)) (h1 : ¬ x.toInt < lo) (h2 : ¬ hi < x.toInt) (ho : offs[(x.toInt - lo).toNat]? = some off) (ht : (pc : Int) + off = (tgt : Int)) (k : K tgt L st h), K pc L (.int x :: st) h
def ru_getf (own : String) (b : ByteArray) (K : sm_K) : Prop := ∀ {pc : Nat} {L : List (Option Value)} {st : List Value} {h : List sm_C} {i a ci j : Nat} {fs : List Value} {v : Value} (hd : decode b pc = .ok (.getfield i, 3)) (hF : sm_F own i ci j) (hh : h[a]? = some (hO ci fs)) (hv : fs[j]? = some v) (k : K (pc + 3) L (v :: st) h), K pc L (.ref a :: st) h
def ru_putI (own : String) (b : ByteArray) (K : sm_K) : Prop := ∀ {pc : Nat} {L : List (Option Value)} {st : List Value} {h : List sm_C} {i a ci j : Nat} {fs : List Value} {x : Int32} (hd : decode b pc = .ok (.putfield i, 3)) (hF : sm_FP own i ci j "I") (hh : h[a]? = some (hO ci fs)) (hj2 : j < fs.length) (k : K (pc + 3) L st (h.set a (hO ci (fs.set j (.int x))))), K pc L (.int x :: .ref a :: st) h
def ru_putZ (own : String) (b : ByteArray) (K : sm_K) : Prop := ∀ {pc : Nat} {L : List (Option Value)} {st : List Value} {h : List sm_C} {i a ci j : Nat} {fs : List Value} {x : Int32} (hd : decode b pc = .ok (.putfield i, 3)) (hF : sm_FP own i ci j "Z") (hh : h[a]? = some (hO ci fs)) (hj2 : j < fs.length) (hz : x = 0 ∨ x = 1) (k : K (pc + 3) L st (h.set a (hO ci (fs.set j (.int x))))), K pc L (.int x :: .ref a :: st) h
def ru_iald (own : String) (b : ByteArray) (K : sm_K) : Prop := ∀ {pc : Nat} {L : List (Option Value)} {st : List Value} {h : List sm_C} {a n j : Nat} {f : Nat → Int32} {i : Int32} (hd : decode b pc = .ok (.iaload, 1)) (hh : h[a]? = some (hI n f)) (hi : i = nI j) (hj : j < n) (hN : n < 2147483648) (k : K (pc + 1) L (.int (f j) :: st) h), K pc L (.int i :: .ref a :: st) h
def ru_iast (own : String) (b : ByteArray) (K : sm_K) : Prop := ∀ {pc : Nat} {L : List (Option Value)} {st : List Value} {h : List sm_C} {a n j : Nat} {f : Nat → Int32} {i x : Int32} (hd : decode b pc = .ok (.iastore, 1)) (hh : h[a]? = some (hI n f)) (hi : i = nI j) (hj : j < n) (hN : n < 2147483648) (k : K (pc + 1) L st (h.set a (hI n (upd f j x)))), K pc L (.int x :: .int i :: .ref a :: st) h
def ru_alen (own : String) (b : ByteArray) (K : sm_K) : Prop := ∀ {pc : Nat} {L : List (Option Value)} {st : List Value} {h : List sm_C} {a n : Nat} {f : Nat → Int32} (hd : decode b pc = .ok (.arraylength, 1)) (hh : h[a]? = some (hI n f)) (k : K (pc + 1) L (.int (nI n) :: st) h), K pc L (.ref a :: st) h
def ru_alenQ (own : String) (b : ByteArray) (K : sm_K) : Prop := ∀ {pc : Nat} {L : List (Option Value)} {st : List Value} {h : List sm_C} {a n : Nat} {f : Nat → Option Nat} (hd : decode b pc = .ok (.arraylength, 1)) (hh : h[a]? = some (hQ n f)) (k : K (pc + 1) L (.int (nI n) :: st) h), K pc L (.ref a :: st) h
def ru_aald (own : String) (b : ByteArray) (K : sm_K) : Prop := ∀ {pc : Nat} {L : List (Option Value)} {st : List Value} {h : List sm_C} {a n j q : Nat} {f : Nat → Option Nat} {i : Int32} (hd : decode b pc = .ok (.aaload, 1)) (hh : h[a]? = some (hQ n f)) (hi : i = nI j) (hj : j < n) (hN : n < 2147483648) (hf : f j = some q) (k : K (pc + 1) L (.ref q :: st) h), K pc L (.int i :: .ref a :: st) h
def ru_max (own : String) (b : ByteArray) (K : sm_K) : Prop := ∀ {pc : Nat} {L : List (Option Value)} {st : List Value} {h : List sm_C} {i : Nat} {x y : Int32} (hd : decode b pc = .ok (.invokestatic i, 3)) (hk : Cond.methodLink own i yJ9_max_7cf53 ∈ lw_tbl) (hst : (st.map fun v => v.category).sum ≤ 8) (k : K (pc + 3) L (.int (if x < y then y else x) :: st) h), K pc L (.int y :: .int x :: st) h
def ru_min (own : String) (b : ByteArray) (K : sm_K) : Prop := ∀ {pc : Nat} {L : List (Option Value)} {st : List Value} {h : List sm_C} {i : Nat} {x y : Int32} (hd : decode b pc = .ok (.invokestatic i, 3)) (hk : Cond.methodLink own i yJ9_min_7cf53 ∈ lw_tbl) (hst : (st.map fun v => v.category).sum ≤ 8) (k : K (pc + 3) L (.int (if y < x then y else x) :: st) h), K pc L (.int y :: .int x :: st) h
def ru_copy (own : String) (b : ByteArray) (K : sm_K) : Prop := ∀ {pc : Nat} {L : List (Option Value)} {st : List Value} {h : List sm_C} {i a a0 n0 n1 sp dp n : Nat} {f g : Nat → Int32} {x y z : Int32} (hd : decode b pc = .ok (.invokestatic i, 3)) (hk : Cond.methodLink own i arraycopyName ∈ lw_tbl) (hst : (st.map fun v => v.category).sum ≤ 8) (hh0 : h[a0]? = some (hI n0 f)) (hh1 : h[a]? = some (hI n1 g)) (hx0 : x = nI sp) (hy : y = nI dp) (hz : z = nI n) (h4 : sp + n ≤ n0) (h5 : dp + n ≤ n1) (hN : n0 < 2147483648 ∧ n1 < 2147483648) (k : K (pc + 3) L st (h.set a (hI n1 (va_cpy f g sp dp n)))), K pc L (.int z :: .int y :: .ref a :: .int x :: .ref a0 :: st) h
def sm_G0 (own : String) (b : ByteArray) (K : sm_K) : Prop := ru_iconst own b K ∧ ru_bipush own b K ∧ ru_sipush own b K ∧ ru_lconst own b K ∧ ru_null own b K ∧ ru_ldc own b K ∧ ru_ldcw own b K ∧ ru_ldc2 own b K ∧ ru_iload own b K ∧ ru_iload_n own b K
def sm_G1 (own : String) (b : ByteArray) (K : sm_K) : Prop := ru_lload own b K ∧ ru_lload_n own b K ∧ ru_aload own b K ∧ ru_aload_n own b K ∧ ru_aloadN own b K ∧ ru_aload_nN own b K ∧ ru_istore own b K ∧ ru_istore_n own b K ∧ ru_astore own b K ∧ ru_astore_n own b K
def sm_G2 (own : String) (b : ByteArray) (K : sm_K) : Prop := ru_astoreN own b K ∧ ru_astore_nN own b K ∧ ru_iinc own b K ∧ ru_iadd own b K ∧ ru_isub own b K ∧ ru_imul own b K ∧ ru_iand own b K ∧ ru_ior own b K ∧ ru_ixor own b K ∧ ru_ishl own b K
def sm_G3 (own : String) (b : ByteArray) (K : sm_K) : Prop := ru_ishr own b K ∧ ru_iushr own b K ∧ ru_ineg own b K ∧ ru_idiv own b K ∧ ru_irem own b K ∧ ru_ladd own b K ∧ ru_lmul own b K ∧ ru_land own b K ∧ ru_lor own b K ∧ ru_lcmp own b K
def sm_G4 (own : String) (b : ByteArray) (K : sm_K) : Prop := ru_lshl own b K ∧ ru_lshr own b K ∧ ru_lushr own b K ∧ ru_i2l own b K ∧ ru_l2i own b K ∧ ru_i2b own b K ∧ ru_i2s own b K ∧ ru_dup own b K ∧ ru_pop own b K ∧ ru_dup2 own b K
def sm_G5 (own : String) (b : ByteArray) (K : sm_K) : Prop := ru_if_eq own b K ∧ ru_icmp_eq own b K ∧ ru_if_ne own b K ∧ ru_icmp_ne own b K ∧ ru_if_lt own b K ∧ ru_icmp_lt own b K ∧ ru_if_ge own b K ∧ ru_icmp_ge own b K ∧ ru_if_gt own b K ∧ ru_icmp_gt own b K
def sm_G6 (own : String) (b : ByteArray) (K : sm_K) : Prop := ru_if_le own b K ∧ ru_icmp_le own b K ∧ ru_goto own b K ∧ ru_ifnull own b K ∧ ru_ifnullN own b K ∧ ru_ifnonnull own b K ∧ ru_ifnonnullN own b K ∧ ru_lookup own b K ∧ ru_tableOut own b K ∧ ru_tableIn own b K
def sm_G7 (own : String) (b : ByteArray) (K : sm_K) : Prop := ru_getf own b K ∧ ru_putI own b K ∧ ru_putZ own b K ∧ ru_iald own b K ∧ ru_iast own b K ∧ ru_alen own b K ∧ ru_alenQ own b K ∧ ru_aald own b K ∧ ru_max own b K ∧ ru_min own b K
def sm_G8 (own : String) (b : ByteArray) (K : sm_K) : Prop := ru_copy own b K
def sm_R (own : String) (b : ByteArray) (K : sm_K) : Prop := sm_G0 own b K ∧ sm_G1 own b K ∧ sm_G2 own b K ∧ sm_G3 own b K ∧ sm_G4 own b K ∧ sm_G5 own b K ∧ sm_G6 own b K ∧ sm_G7 own b K ∧ sm_G8 own b K
theorem rl_iconst {own : String} {b : ByteArray} {K : sm_K} (R : sm_R own b K) {pc : Nat} {L : List (Option Value)} {st : List Value} {h : List sm_C} {n : Int} {v : Int32} (hd : decode b pc = .ok (.iconst n, 1)) (hv : Int32.ofInt n = v) (k : K (pc + 1) L (.int v :: st) h) : K pc L st h := R.1.1 hd hv k
theorem rl_bipush {own : String} {b : ByteArray} {K : sm_K} (R : sm_R own b K) {pc : Nat} {L : List (Option Value)} {st : List Value} {h : List sm_C} {n : Int} {v : Int32} (hd : decode b pc = .ok (.bipush n, 2)) (hv : (Int8.ofInt n).toInt32 = v) (k : K (pc + 2) L (.int v :: st) h) : K pc L st h := R.1.2.1 hd hv k
theorem rl_sipush {own : String} {b : ByteArray} {K : sm_K} (R : sm_R own b K) {pc : Nat} {L : List (Option Value)} {st : List Value} {h : List sm_C} {n : Int} {v : Int32} (hd : decode b pc = .ok (.sipush n, 3)) (hv : (Int16.ofInt n).toInt32 = v) (k : K (pc + 3) L (.int v :: st) h) : K pc L st h := R.1.2.2.1 hd hv k
theorem rl_lconst {own : String} {b : ByteArray} {K : sm_K} (R : sm_R own b K) {pc : Nat} {L : List (Option Value)} {st : List Value} {h : List sm_C} {n : Fin 2} {v : Int64} (hd : decode b pc = .ok (.lconst n, 1)) (hv : Int64.ofNat (n : Nat) = v) (k : K (pc + 1) L (.long v :: st) h) : K pc L st h := R.1.2.2.2.1 hd hv k
theorem rl_null {own : String} {b : ByteArray} {K : sm_K} (R : sm_R own b K) {pc : Nat} {L : List (Option Value)} {st : List Value} {h : List sm_C}  (hd : decode b pc = .ok (.aconst_null, 1)) (k : K (pc + 1) L (.null :: st) h) : K pc L st h := R.1.2.2.2.2.1 hd k
theorem rl_ldc {own : String} {b : ByteArray} {K : sm_K} (R : sm_R own b K) {pc : Nat} {L : List (Option Value)} {st : List Value} {h : List sm_C} {i : Nat} {v : Int32} (hd : decode b pc = .ok (.ldc i, 2)) (hc : Cond.constant own i v ∈ lw_tbl) (k : K (pc + 2) L (.int v :: st) h) : K pc L st h := R.1.2.2.2.2.2.1 hd hc k
theorem rl_ldcw {own : String} {b : ByteArray} {K : sm_K} (R : sm_R own b K) {pc : Nat} {L : List (Option Value)} {st : List Value} {h : List sm_C} {i : Nat} {v : Int32} (hd : decode b pc = .ok (.ldc_w i, 3)) (hc : Cond.constant own i v ∈ lw_tbl) (k : K (pc + 3) L (.int v :: st) h) : K pc L st h := R.1.2.2.2.2.2.2.1 hd hc k
theorem rl_ldc2 {own : String} {b : ByteArray} {K : sm_K} (R : sm_R own b K) {pc : Nat} {L : List (Option Value)} {st : List Value} {h : List sm_C} {i : Nat} {v : Int64} (hd : decode b pc = .ok (.ldc2_w i, 3)) (hc : Cond.constantLong own i v ∈ lw_tbl) (k : K (pc + 3) L (.long v :: st) h) : K pc L st h := R.1.2.2.2.2.2.2.2.1 hd hc k
theorem rl_iload {own : String} {b : ByteArray} {K : sm_K} (R : sm_R own b K) {pc : Nat} {L : List (Option Value)} {st : List Value} {h : List sm_C} {i : Nat} {x : Int32} (hd : decode b pc = .ok (.iload i, 2)) (hL : L[i]? = some (some (.int x))) (k : K (pc + 2) L (.int x :: st) h) : K pc L st h := R.1.2.2.2.2.2.2.2.2.1 hd hL k
theorem rl_iload_n {own : String} {b : ByteArray} {K : sm_K} (R : sm_R own b K) {pc : Nat} {L : List (Option Value)} {st : List Value} {h : List sm_C} {i : Fin 4} {x : Int32} (hd : decode b pc = .ok (.iload_n i, 1)) (hL : L[(i : Nat)]? = some (some (.int x))) (k : K (pc + 1) L (.int x :: st) h) : K pc L st h := R.1.2.2.2.2.2.2.2.2.2 hd hL k
theorem rl_lload {own : String} {b : ByteArray} {K : sm_K} (R : sm_R own b K) {pc : Nat} {L : List (Option Value)} {st : List Value} {h : List sm_C} {i : Nat} {x : Int64} (hd : decode b pc = .ok (.lload i, 2)) (hL : L[i]? = some (some (.long x))) (k : K (pc + 2) L (.long x :: st) h) : K pc L st h := R.2.1.1 hd hL k
theorem rl_lload_n {own : String} {b : ByteArray} {K : sm_K} (R : sm_R own b K) {pc : Nat} {L : List (Option Value)} {st : List Value} {h : List sm_C} {i : Fin 4} {x : Int64} (hd : decode b pc = .ok (.lload_n i, 1)) (hL : L[(i : Nat)]? = some (some (.long x))) (k : K (pc + 1) L (.long x :: st) h) : K pc L st h := R.2.1.2.1 hd hL k
theorem rl_aload {own : String} {b : ByteArray} {K : sm_K} (R : sm_R own b K) {pc : Nat} {L : List (Option Value)} {st : List Value} {h : List sm_C} {i : Nat} {x : Nat} (hd : decode b pc = .ok (.aload i, 2)) (hL : L[i]? = some (some (.ref x))) (k : K (pc + 2) L (.ref x :: st) h) : K pc L st h := R.2.1.2.2.1 hd hL k
theorem rl_aload_n {own : String} {b : ByteArray} {K : sm_K} (R : sm_R own b K) {pc : Nat} {L : List (Option Value)} {st : List Value} {h : List sm_C} {i : Fin 4} {x : Nat} (hd : decode b pc = .ok (.aload_n i, 1)) (hL : L[(i : Nat)]? = some (some (.ref x))) (k : K (pc + 1) L (.ref x :: st) h) : K pc L st h := R.2.1.2.2.2.1 hd hL k
theorem rl_aloadN {own : String} {b : ByteArray} {K : sm_K} (R : sm_R own b K) {pc : Nat} {L : List (Option Value)} {st : List Value} {h : List sm_C} {i : Nat} (hd : decode b pc = .ok (.aload i, 2)) (hL : L[i]? = some (some .null)) (k : K (pc + 2) L (.null :: st) h) : K pc L st h := R.2.1.2.2.2.2.1 hd hL k
theorem rl_aload_nN {own : String} {b : ByteArray} {K : sm_K} (R : sm_R own b K) {pc : Nat} {L : List (Option Value)} {st : List Value} {h : List sm_C} {i : Fin 4} (hd : decode b pc = .ok (.aload_n i, 1)) (hL : L[(i : Nat)]? = some (some .null)) (k : K (pc + 1) L (.null :: st) h) : K pc L st h := R.2.1.2.2.2.2.2.1 hd hL k
theorem rl_istore {own : String} {b : ByteArray} {K : sm_K} (R : sm_R own b K) {pc : Nat} {L : List (Option Value)} {st : List Value} {h : List sm_C} {i : Nat} {x : Int32} (hd : decode b pc = .ok (.istore i, 2)) (hi : i < L.length) (ho : sm_ok L i = true) (k : K (pc + 2) (L.set i (some (.int x))) st h) : K pc L (.int x :: st) h := R.2.1.2.2.2.2.2.2.1 hd hi ho k
theorem rl_istore_n {own : String} {b : ByteArray} {K : sm_K} (R : sm_R own b K) {pc : Nat} {L : List (Option Value)} {st : List Value} {h : List sm_C} {i : Fin 4} {x : Int32} (hd : decode b pc = .ok (.istore_n i, 1)) (hi : (i : Nat) < L.length) (ho : sm_ok L i = true) (k : K (pc + 1) (L.set i (some (.int x))) st h) : K pc L (.int x :: st) h := R.2.1.2.2.2.2.2.2.2.1 hd hi ho k
theorem rl_astore {own : String} {b : ByteArray} {K : sm_K} (R : sm_R own b K) {pc : Nat} {L : List (Option Value)} {st : List Value} {h : List sm_C} {i : Nat} {x : Nat} (hd : decode b pc = .ok (.astore i, 2)) (hi : i < L.length) (ho : sm_ok L i = true) (k : K (pc + 2) (L.set i (some (.ref x))) st h) : K pc L (.ref x :: st) h := R.2.1.2.2.2.2.2.2.2.2.1 hd hi ho k
theorem rl_astore_n {own : String} {b : ByteArray} {K : sm_K} (R : sm_R own b K) {pc : Nat} {L : List (Option Value)} {st : List Value} {h : List sm_C} {i : Fin 4} {x : Nat} (hd : decode b pc = .ok (.astore_n i, 1)) (hi : (i : Nat) < L.length) (ho : sm_ok L i = true) (k : K (pc + 1) (L.set i (some (.ref x))) st h) : K pc L (.ref x :: st) h := R.2.1.2.2.2.2.2.2.2.2.2 hd hi ho k
theorem rl_astoreN {own : String} {b : ByteArray} {K : sm_K} (R : sm_R own b K) {pc : Nat} {L : List (Option Value)} {st : List Value} {h : List sm_C} {i : Nat} (hd : decode b pc = .ok (.astore i, 2)) (hi : i < L.length) (ho : sm_ok L i = true) (k : K (pc + 2) (L.set i (some .null)) st h) : K pc L (.null :: st) h := R.2.2.1.1 hd hi ho k
theorem rl_astore_nN {own : String} {b : ByteArray} {K : sm_K} (R : sm_R own b K) {pc : Nat} {L : List (Option Value)} {st : List Value} {h : List sm_C} {i : Fin 4} (hd : decode b pc = .ok (.astore_n i, 1)) (hi : (i : Nat) < L.length) (ho : sm_ok L i = true) (k : K (pc + 1) (L.set i (some .null)) st h) : K pc L (.null :: st) h := R.2.2.1.2.1 hd hi ho k
theorem rl_iinc {own : String} {b : ByteArray} {K : sm_K} (R : sm_R own b K) {pc : Nat} {L : List (Option Value)} {st : List Value} {h : List sm_C} {i : Nat} {n : Int} {x v : Int32} (hd : decode b pc = .ok (.iinc i n, 3)) (hL : L[i]? = some (some (.int x))) (hv : x + Int32.ofInt n = v) (ho : sm_ok L i = true) (k : K (pc + 3) (L.set i (some (.int v))) st h) : K pc L st h := R.2.2.1.2.2.1 hd hL hv ho k
theorem rl_iadd {own : String} {b : ByteArray} {K : sm_K} (R : sm_R own b K) {pc : Nat} {L : List (Option Value)} {st : List Value} {h : List sm_C} {x y : Int32} (hd : decode b pc = .ok (.iadd, 1)) (k : K (pc + 1) L (.int (x + y) :: st) h) : K pc L (.int y :: .int x :: st) h := R.2.2.1.2.2.2.1 hd k
theorem rl_isub {own : String} {b : ByteArray} {K : sm_K} (R : sm_R own b K) {pc : Nat} {L : List (Option Value)} {st : List Value} {h : List sm_C} {x y : Int32} (hd : decode b pc = .ok (.isub, 1)) (k : K (pc + 1) L (.int (x - y) :: st) h) : K pc L (.int y :: .int x :: st) h := R.2.2.1.2.2.2.2.1 hd k
theorem rl_imul {own : String} {b : ByteArray} {K : sm_K} (R : sm_R own b K) {pc : Nat} {L : List (Option Value)} {st : List Value} {h : List sm_C} {x y : Int32} (hd : decode b pc = .ok (.imul, 1)) (k : K (pc + 1) L (.int (x * y) :: st) h) : K pc L (.int y :: .int x :: st) h := R.2.2.1.2.2.2.2.2.1 hd k
theorem rl_iand {own : String} {b : ByteArray} {K : sm_K} (R : sm_R own b K) {pc : Nat} {L : List (Option Value)} {st : List Value} {h : List sm_C} {x y : Int32} (hd : decode b pc = .ok (.iand, 1)) (k : K (pc + 1) L (.int (x &&& y) :: st) h) : K pc L (.int y :: .int x :: st) h := R.2.2.1.2.2.2.2.2.2.1 hd k
theorem rl_ior {own : String} {b : ByteArray} {K : sm_K} (R : sm_R own b K) {pc : Nat} {L : List (Option Value)} {st : List Value} {h : List sm_C} {x y : Int32} (hd : decode b pc = .ok (.ior, 1)) (k : K (pc + 1) L (.int (x ||| y) :: st) h) : K pc L (.int y :: .int x :: st) h := R.2.2.1.2.2.2.2.2.2.2.1 hd k
theorem rl_ixor {own : String} {b : ByteArray} {K : sm_K} (R : sm_R own b K) {pc : Nat} {L : List (Option Value)} {st : List Value} {h : List sm_C} {x y : Int32} (hd : decode b pc = .ok (.ixor, 1)) (k : K (pc + 1) L (.int (x ^^^ y) :: st) h) : K pc L (.int y :: .int x :: st) h := R.2.2.1.2.2.2.2.2.2.2.2.1 hd k
theorem rl_ishl {own : String} {b : ByteArray} {K : sm_K} (R : sm_R own b K) {pc : Nat} {L : List (Option Value)} {st : List Value} {h : List sm_C} {x y : Int32} (hd : decode b pc = .ok (.ishl, 1)) (k : K (pc + 1) L (.int (x <<< (y &&& 31)) :: st) h) : K pc L (.int y :: .int x :: st) h := R.2.2.1.2.2.2.2.2.2.2.2.2 hd k
theorem rl_ishr {own : String} {b : ByteArray} {K : sm_K} (R : sm_R own b K) {pc : Nat} {L : List (Option Value)} {st : List Value} {h : List sm_C} {x y : Int32} (hd : decode b pc = .ok (.ishr, 1)) (k : K (pc + 1) L (.int (x >>> (y &&& 31)) :: st) h) : K pc L (.int y :: .int x :: st) h := R.2.2.2.1.1 hd k
theorem rl_iushr {own : String} {b : ByteArray} {K : sm_K} (R : sm_R own b K) {pc : Nat} {L : List (Option Value)} {st : List Value} {h : List sm_C} {x y : Int32} (hd : decode b pc = .ok (.iushr, 1)) (k : K (pc + 1) L (.int (x.toUInt32 >>> (y.toUInt32 &&& Int32.toUInt32 31)).toInt32 :: st) h) : K pc L (.int y :: .int x :: st) h := R.2.2.2.1.2.1 hd k
theorem rl_ineg {own : String} {b : ByteArray} {K : sm_K} (R : sm_R own b K) {pc : Nat} {L : List (Option Value)} {st : List Value} {h : List sm_C} {x : Int32} (hd : decode b pc = .ok (.ineg, 1)) (k : K (pc + 1) L (.int (-x) :: st) h) : K pc L (.int x :: st) h := R.2.2.2.1.2.2.1 hd k
theorem rl_idiv {own : String} {b : ByteArray} {K : sm_K} (R : sm_R own b K) {pc : Nat} {L : List (Option Value)} {st : List Value} {h : List sm_C} {x y : Int32} (hd : decode b pc = .ok (.idiv, 1)) (hy : ¬ y = 0) (k : K (pc + 1) L (.int (x / y) :: st) h) : K pc L (.int y :: .int x :: st) h := R.2.2.2.1.2.2.2.1 hd hy k
theorem rl_irem {own : String} {b : ByteArray} {K : sm_K} (R : sm_R own b K) {pc : Nat} {L : List (Option Value)} {st : List Value} {h : List sm_C} {x y : Int32} (hd : decode b pc = .ok (.irem, 1)) (hy : ¬ y = 0) (k : K (pc + 1) L (.int (x - x / y * y) :: st) h) : K pc L (.int y :: .int x :: st) h := R.2.2.2.1.2.2.2.2.1 hd hy k
theorem rl_ladd {own : String} {b : ByteArray} {K : sm_K} (R : sm_R own b K) {pc : Nat} {L : List (Option Value)} {st : List Value} {h : List sm_C} {x y : Int64} (hd : decode b pc = .ok (.ladd, 1)) (k : K (pc + 1) L (.long (x + y) :: st) h) : K pc L (.long y :: .long x :: st) h := R.2.2.2.1.2.2.2.2.2.1 hd k
theorem rl_lmul {own : String} {b : ByteArray} {K : sm_K} (R : sm_R own b K) {pc : Nat} {L : List (Option Value)} {st : List Value} {h : List sm_C} {x y : Int64} (hd : decode b pc = .ok (.lmul, 1)) (k : K (pc + 1) L (.long (x * y) :: st) h) : K pc L (.long y :: .long x :: st) h := R.2.2.2.1.2.2.2.2.2.2.1 hd k
theorem rl_land {own : String} {b : ByteArray} {K : sm_K} (R : sm_R own b K) {pc : Nat} {L : List (Option Value)} {st : List Value} {h : List sm_C} {x y : Int64} (hd : decode b pc = .ok (.land, 1)) (k : K (pc + 1) L (.long (x &&& y) :: st) h) : K pc L (.long y :: .long x :: st) h := R.2.2.2.1.2.2.2.2.2.2.2.1 hd k
theorem rl_lor {own : String} {b : ByteArray} {K : sm_K} (R : sm_R own b K) {pc : Nat} {L : List (Option Value)} {st : List Value} {h : List sm_C} {x y : Int64} (hd : decode b pc = .ok (.lor, 1)) (k : K (pc + 1) L (.long (x ||| y) :: st) h) : K pc L (.long y :: .long x :: st) h := R.2.2.2.1.2.2.2.2.2.2.2.2.1 hd k
theorem rl_lcmp {own : String} {b : ByteArray} {K : sm_K} (R : sm_R own b K) {pc : Nat} {L : List (Option Value)} {st : List Value} {h : List sm_C} {x y : Int64} (hd : decode b pc = .ok (.lcmp, 1)) (k : K (pc + 1) L (.int (lg_cmp x y) :: st) h) : K pc L (.long y :: .long x :: st) h := R.2.2.2.1.2.2.2.2.2.2.2.2.2 hd k
theorem rl_lshl {own : String} {b : ByteArray} {K : sm_K} (R : sm_R own b K) {pc : Nat} {L : List (Option Value)} {st : List Value} {h : List sm_C} {x : Int64} {y : Int32} (hd : decode b pc = .ok (.lshl, 1)) (k : K (pc + 1) L (.long (x <<< (y.toInt64 &&& 63)) :: st) h) : K pc L (.int y :: .long x :: st) h := R.2.2.2.2.1.1 hd k
theorem rl_lshr {own : String} {b : ByteArray} {K : sm_K} (R : sm_R own b K) {pc : Nat} {L : List (Option Value)} {st : List Value} {h : List sm_C} {x : Int64} {y : Int32} (hd : decode b pc = .ok (.lshr, 1)) (k : K (pc + 1) L (.long (x >>> (y.toInt64 &&& 63)) :: st) h) : K pc L (.int y :: .long x :: st) h := R.2.2.2.2.1.2.1 hd k
theorem rl_lushr {own : String} {b : ByteArray} {K : sm_K} (R : sm_R own b K) {pc : Nat} {L : List (Option Value)} {st : List Value} {h : List sm_C} {x : Int64} {y : Int32} (hd : decode b pc = .ok (.lushr, 1)) (k : K (pc + 1) L (.long ((x.toUInt64 >>> (y.toInt64.toUInt64 &&& Int64.toUInt64 63)).toInt64) :: st) h) : K pc L (.int y :: .long x :: st) h := R.2.2.2.2.1.2.2.1 hd k
theorem rl_i2l {own : String} {b : ByteArray} {K : sm_K} (R : sm_R own b K) {pc : Nat} {L : List (Option Value)} {st : List Value} {h : List sm_C} {x : Int32} (hd : decode b pc = .ok (.i2l, 1)) (k : K (pc + 1) L (.long x.toInt64 :: st) h) : K pc L (.int x :: st) h := R.2.2.2.2.1.2.2.2.1 hd k
theorem rl_l2i {own : String} {b : ByteArray} {K : sm_K} (R : sm_R own b K) {pc : Nat} {L : List (Option Value)} {st : List Value} {h : List sm_C} {x : Int64} (hd : decode b pc = .ok (.l2i, 1)) (k : K (pc + 1) L (.int x.toInt32 :: st) h) : K pc L (.long x :: st) h := R.2.2.2.2.1.2.2.2.2.1 hd k
theorem rl_i2b {own : String} {b : ByteArray} {K : sm_K} (R : sm_R own b K) {pc : Nat} {L : List (Option Value)} {st : List Value} {h : List sm_C} {x : Int32} (hd : decode b pc = .ok (.i2b, 1)) (k : K (pc + 1) L (.int x.toInt8.toInt32 :: st) h) : K pc L (.int x :: st) h := R.2.2.2.2.1.2.2.2.2.2.1 hd k
theorem rl_i2s {own : String} {b : ByteArray} {K : sm_K} (R : sm_R own b K) {pc : Nat} {L : List (Option Value)} {st : List Value} {h : List sm_C} {x : Int32} (hd : decode b pc = .ok (.i2s, 1)) (k : K (pc + 1) L (.int x.toInt16.toInt32 :: st) h) : K pc L (.int x :: st) h := R.2.2.2.2.1.2.2.2.2.2.2.1 hd k
theorem rl_dup {own : String} {b : ByteArray} {K : sm_K} (R : sm_R own b K) {pc : Nat} {L : List (Option Value)} {st : List Value} {h : List sm_C} {v : Value} (hd : decode b pc = .ok (.dup, 1)) (hc : v.category = 1) (k : K (pc + 1) L (v :: v :: st) h) : K pc L (v :: st) h := R.2.2.2.2.1.2.2.2.2.2.2.2.1 hd hc k
theorem rl_pop {own : String} {b : ByteArray} {K : sm_K} (R : sm_R own b K) {pc : Nat} {L : List (Option Value)} {st : List Value} {h : List sm_C} {v : Value} (hd : decode b pc = .ok (.pop, 1)) (hc : v.category = 1) (k : K (pc + 1) L st h) : K pc L (v :: st) h := R.2.2.2.2.1.2.2.2.2.2.2.2.2.1 hd hc k
theorem rl_dup2 {own : String} {b : ByteArray} {K : sm_K} (R : sm_R own b K) {pc : Nat} {L : List (Option Value)} {st : List Value} {h : List sm_C} {v w : Value} (hd : decode b pc = .ok (.dup2, 1)) (hc : v.category = 1) (hc2 : w.category = 1) (k : K (pc + 1) L (v :: w :: v :: w :: st) h) : K pc L (v :: w :: st) h := R.2.2.2.2.1.2.2.2.2.2.2.2.2.2 hd hc hc2 k
theorem rl_if_eq {own : String} {b : ByteArray} {K : sm_K} (R : sm_R own b K) {pc : Nat} {L : List (Option Value)} {st : List Value} {h : List sm_C} {x : Int32} {off : Int} {tgt : Nat} (hd : decode b pc = .ok (.ifCond .eq off, 3)) (ht : (pc : Int) + off = (tgt : Int)) (k1 : x = 0 → K tgt L st h) (k2 : ¬ x = 0 → K (pc + 3) L st h) : K pc L (.int x :: st) h := R.2.2.2.2.2.1.1 hd ht k1 k2
theorem rl_icmp_eq {own : String} {b : ByteArray} {K : sm_K} (R : sm_R own b K) {pc : Nat} {L : List (Option Value)} {st : List Value} {h : List sm_C} {x y : Int32} {off : Int} {tgt : Nat} (hd : decode b pc = .ok (.if_icmp .eq off, 3)) (ht : (pc : Int) + off = (tgt : Int)) (k1 : x = y → K tgt L st h) (k2 : ¬ x = y → K (pc + 3) L st h) : K pc L (.int y :: .int x :: st) h := R.2.2.2.2.2.1.2.1 hd ht k1 k2
theorem rl_if_ne {own : String} {b : ByteArray} {K : sm_K} (R : sm_R own b K) {pc : Nat} {L : List (Option Value)} {st : List Value} {h : List sm_C} {x : Int32} {off : Int} {tgt : Nat} (hd : decode b pc = .ok (.ifCond .ne off, 3)) (ht : (pc : Int) + off = (tgt : Int)) (k1 : ¬ x = 0 → K tgt L st h) (k2 : x = 0 → K (pc + 3) L st h) : K pc L (.int x :: st) h := R.2.2.2.2.2.1.2.2.1 hd ht k1 k2
theorem rl_icmp_ne {own : String} {b : ByteArray} {K : sm_K} (R : sm_R own b K) {pc : Nat} {L : List (Option Value)} {st : List Value} {h : List sm_C} {x y : Int32} {off : Int} {tgt : Nat} (hd : decode b pc = .ok (.if_icmp .ne off, 3)) (ht : (pc : Int) + off = (tgt : Int)) (k1 : ¬ x = y → K tgt L st h) (k2 : x = y → K (pc + 3) L st h) : K pc L (.int y :: .int x :: st) h := R.2.2.2.2.2.1.2.2.2.1 hd ht k1 k2
theorem rl_if_lt {own : String} {b : ByteArray} {K : sm_K} (R : sm_R own b K) {pc : Nat} {L : List (Option Value)} {st : List Value} {h : List sm_C} {x : Int32} {off : Int} {tgt : Nat} (hd : decode b pc = .ok (.ifCond .lt off, 3)) (ht : (pc : Int) + off = (tgt : Int)) (k1 : x < 0 → K tgt L st h) (k2 : ¬ x < 0 → K (pc + 3) L st h) : K pc L (.int x :: st) h := R.2.2.2.2.2.1.2.2.2.2.1 hd ht k1 k2
theorem rl_icmp_lt {own : String} {b : ByteArray} {K : sm_K} (R : sm_R own b K) {pc : Nat} {L : List (Option Value)} {st : List Value} {h : List sm_C} {x y : Int32} {off : Int} {tgt : Nat} (hd : decode b pc = .ok (.if_icmp .lt off, 3)) (ht : (pc : Int) + off = (tgt : Int)) (k1 : x < y → K tgt L st h) (k2 : ¬ x < y → K (pc + 3) L st h) : K pc L (.int y :: .int x :: st) h := R.2.2.2.2.2.1.2.2.2.2.2.1 hd ht k1 k2
theorem rl_if_ge {own : String} {b : ByteArray} {K : sm_K} (R : sm_R own b K) {pc : Nat} {L : List (Option Value)} {st : List Value} {h : List sm_C} {x : Int32} {off : Int} {tgt : Nat} (hd : decode b pc = .ok (.ifCond .ge off, 3)) (ht : (pc : Int) + off = (tgt : Int)) (k1 : 0 ≤ x → K tgt L st h) (k2 : ¬ 0 ≤ x → K (pc + 3) L st h) : K pc L (.int x :: st) h := R.2.2.2.2.2.1.2.2.2.2.2.2.1 hd ht k1 k2
theorem rl_icmp_ge {own : String} {b : ByteArray} {K : sm_K} (R : sm_R own b K) {pc : Nat} {L : List (Option Value)} {st : List Value} {h : List sm_C} {x y : Int32} {off : Int} {tgt : Nat} (hd : decode b pc = .ok (.if_icmp .ge off, 3)) (ht : (pc : Int) + off = (tgt : Int)) (k1 : y ≤ x → K tgt L st h) (k2 : ¬ y ≤ x → K (pc + 3) L st h) : K pc L (.int y :: .int x :: st) h := R.2.2.2.2.2.1.2.2.2.2.2.2.2.1 hd ht k1 k2
theorem rl_if_gt {own : String} {b : ByteArray} {K : sm_K} (R : sm_R own b K) {pc : Nat} {L : List (Option Value)} {st : List Value} {h : List sm_C} {x : Int32} {off : Int} {tgt : Nat} (hd : decode b pc = .ok (.ifCond .gt off, 3)) (ht : (pc : Int) + off = (tgt : Int)) (k1 : 0 < x → K tgt L st h) (k2 : ¬ 0 < x → K (pc + 3) L st h) : K pc L (.int x :: st) h := R.2.2.2.2.2.1.2.2.2.2.2.2.2.2.1 hd ht k1 k2
theorem rl_icmp_gt {own : String} {b : ByteArray} {K : sm_K} (R : sm_R own b K) {pc : Nat} {L : List (Option Value)} {st : List Value} {h : List sm_C} {x y : Int32} {off : Int} {tgt : Nat} (hd : decode b pc = .ok (.if_icmp .gt off, 3)) (ht : (pc : Int) + off = (tgt : Int)) (k1 : y < x → K tgt L st h) (k2 : ¬ y < x → K (pc + 3) L st h) : K pc L (.int y :: .int x :: st) h := R.2.2.2.2.2.1.2.2.2.2.2.2.2.2.2 hd ht k1 k2
theorem rl_if_le {own : String} {b : ByteArray} {K : sm_K} (R : sm_R own b K) {pc : Nat} {L : List (Option Value)} {st : List Value} {h : List sm_C} {x : Int32} {off : Int} {tgt : Nat} (hd : decode b pc = .ok (.ifCond .le off, 3)) (ht : (pc : Int) + off = (tgt : Int)) (k1 : x ≤ 0 → K tgt L st h) (k2 : ¬ x ≤ 0 → K (pc + 3) L st h) : K pc L (.int x :: st) h := R.2.2.2.2.2.2.1.1 hd ht k1 k2
theorem rl_icmp_le {own : String} {b : ByteArray} {K : sm_K} (R : sm_R own b K) {pc : Nat} {L : List (Option Value)} {st : List Value} {h : List sm_C} {x y : Int32} {off : Int} {tgt : Nat} (hd : decode b pc = .ok (.if_icmp .le off, 3)) (ht : (pc : Int) + off = (tgt : Int)) (k1 : x ≤ y → K tgt L st h) (k2 : ¬ x ≤ y → K (pc + 3) L st h) : K pc L (.int y :: .int x :: st) h := R.2.2.2.2.2.2.1.2.1 hd ht k1 k2
theorem rl_goto {own : String} {b : ByteArray} {K : sm_K} (R : sm_R own b K) {pc : Nat} {L : List (Option Value)} {st : List Value} {h : List sm_C} {off : Int} {tgt : Nat} (hd : decode b pc = .ok (.goto off, 3)) (ht : (pc : Int) + off = (tgt : Int)) (k : K tgt L st h) : K pc L st h := R.2.2.2.2.2.2.1.2.2.1 hd ht k
theorem rl_ifnull {own : String} {b : ByteArray} {K : sm_K} (R : sm_R own b K) {pc : Nat} {L : List (Option Value)} {st : List Value} {h : List sm_C} {x : Nat} {off : Int} (hd : decode b pc = .ok (.ifnull off, 3)) (k : K (pc + 3) L st h) : K pc L (.ref x :: st) h := R.2.2.2.2.2.2.1.2.2.2.1 hd k
theorem rl_ifnullN {own : String} {b : ByteArray} {K : sm_K} (R : sm_R own b K) {pc : Nat} {L : List (Option Value)} {st : List Value} {h : List sm_C} {off : Int} {tgt : Nat} (hd : decode b pc = .ok (.ifnull off, 3)) (ht : (pc : Int) + off = (tgt : Int)) (k : K tgt L st h) : K pc L (.null :: st) h := R.2.2.2.2.2.2.1.2.2.2.2.1 hd ht k
theorem rl_ifnonnull {own : String} {b : ByteArray} {K : sm_K} (R : sm_R own b K) {pc : Nat} {L : List (Option Value)} {st : List Value} {h : List sm_C} {x : Nat} {off : Int} {tgt : Nat} (hd : decode b pc = .ok (.ifnonnull off, 3)) (ht : (pc : Int) + off = (tgt : Int)) (k : K tgt L st h) : K pc L (.ref x :: st) h := R.2.2.2.2.2.2.1.2.2.2.2.2.1 hd ht k
theorem rl_ifnonnullN {own : String} {b : ByteArray} {K : sm_K} (R : sm_R own b K) {pc : Nat} {L : List (Option Value)} {st : List Value} {h : List sm_C} {off : Int} (hd : decode b pc = .ok (.ifnonnull off, 3)) (k : K (pc + 3) L st h) : K pc L (.null :: st) h := R.2.2.2.2.2.2.1.2.2.2.2.2.2.1 hd k
theorem rl_lookup {own : String} {b : ByteArray} {K : sm_K} (R : sm_R own b K) {pc : Nat} {L : List (Option Value)} {st : List Value} {h : List sm_C} {dflt : Int} {ps : Array (Int × Int)} {len : Nat} {x : Int32} {off : Int} {tgt : Nat} (hd : decode b pc = .ok (.lookupswitch dflt ps, len)) (hp : (ps.toList.zip (ps.toList.drop 1)).all (fun (a, next) => a.1 < next.1) = true) (ho : Op.lookupswitch.offset ps.toList dflt x.toInt = off) (ht : (pc : Int) + off = (tgt : Int)) (k : K tgt L st h) : K pc L (.int x :: st) h := R.2.2.2.2.2.2.1.2.2.2.2.2.2.2.1 hd hp ho ht k
theorem rl_tableOut {own : String} {b : ByteArray} {K : sm_K} (R : sm_R own b K) {pc : Nat} {L : List (Option Value)} {st : List Value} {h : List sm_C} {dflt lo hi : Int} {offs : Array Int} {len : Nat} {x : Int32} {tgt : Nat} (hd : decode b pc = .ok (.tableswitch dflt lo hi offs, len)) (ho : x.toInt < lo ∨ hi < x.toInt) (ht : (pc : Int) + dflt = (tgt : Int)) (k : K tgt L st h) : K pc L (.int x :: st) h := R.2.2.2.2.2.2.1.2.2.2.2.2.2.2.2.1 hd ho ht k
theorem rl_tableIn {own : String} {b : ByteArray} {K : sm_K} (R : sm_R own b K) {pc : Nat} {L : List (Option Value)} {st : List Value} {h : List sm_C} {dflt lo hi : Int} {offs : Array Int} {len : Nat} {x : Int32} {off : Int} {tgt : Nat} (hd : decode b pc = .ok (.tableswitch dflt lo hi offs, len)) (h1 : ¬ x.toInt < lo) (h2 : ¬ hi < x.toInt) (ho : offs[(x.toInt - lo).toNat]? = some off) (ht : (pc : Int) + off = (tgt : Int)) (k : K tgt L st h) : K pc L (.int x :: st) h := R.2.2.2.2.2.2.1.2.2.2.2.2.2.2.2.2 hd h1 h2 ho ht k
theorem rl_getf {own : String} {b : ByteArray} {K : sm_K} (R : sm_R own b K) {pc : Nat} {L : List (Option Value)} {st : List Value} {h : List sm_C} {i a ci j : Nat} {fs : List Value} {v : Value} (hd : decode b pc = .ok (.getfield i, 3)) (hF : sm_F own i ci j) (hh : h[a]? = some (hO ci fs)) (hv : fs[j]? = some v) (k : K (pc + 3) L (v :: st) h) : K pc L (.ref a :: st) h := R.2.2.2.2.2.2.2.1.1 hd hF hh hv k
theorem rl_putI {own : String} {b : ByteArray} {K : sm_K} (R : sm_R own b K) {pc : Nat} {L : List (Option Value)} {st : List Value} {h : List sm_C} {i a ci j : Nat} {fs : List Value} {x : Int32} (hd : decode b pc = .ok (.putfield i, 3)) (hF : sm_FP own i ci j "I") (hh : h[a]? = some (hO ci fs)) (hj2 : j < fs.length) (k : K (pc + 3) L st (h.set a (hO ci (fs.set j (.int x))))) : K pc L (.int x :: .ref a :: st) h := R.2.2.2.2.2.2.2.1.2.1 hd hF hh hj2 k
theorem rl_putZ {own : String} {b : ByteArray} {K : sm_K} (R : sm_R own b K) {pc : Nat} {L : List (Option Value)} {st : List Value} {h : List sm_C} {i a ci j : Nat} {fs : List Value} {x : Int32} (hd : decode b pc = .ok (.putfield i, 3)) (hF : sm_FP own i ci j "Z") (hh : h[a]? = some (hO ci fs)) (hj2 : j < fs.length) (hz : x = 0 ∨ x = 1) (k : K (pc + 3) L st (h.set a (hO ci (fs.set j (.int x))))) : K pc L (.int x :: .ref a :: st) h := R.2.2.2.2.2.2.2.1.2.2.1 hd hF hh hj2 hz k
theorem rl_iald {own : String} {b : ByteArray} {K : sm_K} (R : sm_R own b K) {pc : Nat} {L : List (Option Value)} {st : List Value} {h : List sm_C} {a n j : Nat} {f : Nat → Int32} {i : Int32} (hd : decode b pc = .ok (.iaload, 1)) (hh : h[a]? = some (hI n f)) (hi : i = nI j) (hj : j < n) (hN : n < 2147483648) (k : K (pc + 1) L (.int (f j) :: st) h) : K pc L (.int i :: .ref a :: st) h := R.2.2.2.2.2.2.2.1.2.2.2.1 hd hh hi hj hN k
theorem rl_iast {own : String} {b : ByteArray} {K : sm_K} (R : sm_R own b K) {pc : Nat} {L : List (Option Value)} {st : List Value} {h : List sm_C} {a n j : Nat} {f : Nat → Int32} {i x : Int32} (hd : decode b pc = .ok (.iastore, 1)) (hh : h[a]? = some (hI n f)) (hi : i = nI j) (hj : j < n) (hN : n < 2147483648) (k : K (pc + 1) L st (h.set a (hI n (upd f j x)))) : K pc L (.int x :: .int i :: .ref a :: st) h := R.2.2.2.2.2.2.2.1.2.2.2.2.1 hd hh hi hj hN k
theorem rl_alen {own : String} {b : ByteArray} {K : sm_K} (R : sm_R own b K) {pc : Nat} {L : List (Option Value)} {st : List Value} {h : List sm_C} {a n : Nat} {f : Nat → Int32} (hd : decode b pc = .ok (.arraylength, 1)) (hh : h[a]? = some (hI n f)) (k : K (pc + 1) L (.int (nI n) :: st) h) : K pc L (.ref a :: st) h := R.2.2.2.2.2.2.2.1.2.2.2.2.2.1 hd hh k
theorem rl_alenQ {own : String} {b : ByteArray} {K : sm_K} (R : sm_R own b K) {pc : Nat} {L : List (Option Value)} {st : List Value} {h : List sm_C} {a n : Nat} {f : Nat → Option Nat} (hd : decode b pc = .ok (.arraylength, 1)) (hh : h[a]? = some (hQ n f)) (k : K (pc + 1) L (.int (nI n) :: st) h) : K pc L (.ref a :: st) h := R.2.2.2.2.2.2.2.1.2.2.2.2.2.2.1 hd hh k
theorem rl_aald {own : String} {b : ByteArray} {K : sm_K} (R : sm_R own b K) {pc : Nat} {L : List (Option Value)} {st : List Value} {h : List sm_C} {a n j q : Nat} {f : Nat → Option Nat} {i : Int32} (hd : decode b pc = .ok (.aaload, 1)) (hh : h[a]? = some (hQ n f)) (hi : i = nI j) (hj : j < n) (hN : n < 2147483648) (hf : f j = some q) (k : K (pc + 1) L (.ref q :: st) h) : K pc L (.int i :: .ref a :: st) h := R.2.2.2.2.2.2.2.1.2.2.2.2.2.2.2.1 hd hh hi hj hN hf k
theorem rl_max {own : String} {b : ByteArray} {K : sm_K} (R : sm_R own b K) {pc : Nat} {L : List (Option Value)} {st : List Value} {h : List sm_C} {i : Nat} {x y : Int32} (hd : decode b pc = .ok (.invokestatic i, 3)) (hk : Cond.methodLink own i yJ9_max_7cf53 ∈ lw_tbl) (hst : (st.map fun v => v.category).sum ≤ 8) (k : K (pc + 3) L (.int (if x < y then y else x) :: st) h) : K pc L (.int y :: .int x :: st) h := R.2.2.2.2.2.2.2.1.2.2.2.2.2.2.2.2.1 hd hk hst k
theorem rl_min {own : String} {b : ByteArray} {K : sm_K} (R : sm_R own b K) {pc : Nat} {L : List (Option Value)} {st : List Value} {h : List sm_C} {i : Nat} {x y : Int32} (hd : decode b pc = .ok (.invokestatic i, 3)) (hk : Cond.methodLink own i yJ9_min_7cf53 ∈ lw_tbl) (hst : (st.map fun v => v.category).sum ≤ 8) (k : K (pc + 3) L (.int (if y < x then y else x) :: st) h) : K pc L (.int y :: .int x :: st) h := R.2.2.2.2.2.2.2.1.2.2.2.2.2.2.2.2.2 hd hk hst k
theorem rl_copy {own : String} {b : ByteArray} {K : sm_K} (R : sm_R own b K) {pc : Nat} {L : List (Option Value)} {st : List Value} {h : List sm_C} {i a a0 n0 n1 sp dp n : Nat} {f g : Nat → Int32} {x y z : Int32} (hd : decode b pc = .ok (.invokestatic i, 3)) (hk : Cond.methodLink own i arraycopyName ∈ lw_tbl) (hst : (st.map fun v => v.category).sum ≤ 8) (hh0 : h[a0]? = some (hI n0 f)) (hh1 : h[a]? = some (hI n1 g)) (hx0 : x = nI sp) (hy : y = nI dp) (hz : z = nI n) (h4 : sp + n ≤ n0) (h5 : dp + n ≤ n1) (hN : n0 < 2147483648 ∧ n1 < 2147483648) (k : K (pc + 3) L st (h.set a (hI n1 (va_cpy f g sp dp n)))) : K pc L (.int z :: .int y :: .ref a :: .int x :: .ref a0 :: st) h := R.2.2.2.2.2.2.2.2 hd hk hst hh0 hh1 hx0 hy hz h4 h5 hN k
/-- what calls do: static or not, name, arguments, heap; answer, heap behind it -/
abbrev sm_S : Type := Bool → MethodName → List Value → List sm_C → Option Value → List sm_C → Prop
/-- the calls of a method of the class own with bytes b -/
def sm_RV (S : sm_S) (own : String) (b : ByteArray) (K : sm_K) : Prop := ∀ {pc : Nat} {L : List (Option Value)} {st : List Value} {h : List sm_C} {i a ci : Nat} {fs : List Value} {y : MethodName} {as : List Value} {v : Option Value} {h1 : List sm_C} (hd : decode b pc = .ok (.invokevirtual i, 3)) (hk : sm_L own i y) (hh : h[a]? = some (hO ci fs)) (hc : (vwCl[ci]?).map (fun q => q.1) = some y.cls) (hst : (st.map fun v => v.category).sum ≤ 8) (hS : S false y (.ref a :: as) h v h1) (k : K (pc + 3) L (v.toList ++ st) h1), K pc L (as.reverse ++ .ref a :: st) h
def sm_RS (S : sm_S) (own : String) (b : ByteArray) (K : sm_K) : Prop := ∀ {pc : Nat} {L : List (Option Value)} {st : List Value} {h : List sm_C} {i : Nat} {y : MethodName} {as : List Value} {v : Option Value} {h1 : List sm_C} (hd : decode b pc = .ok (.invokestatic i, 3)) (hk : sm_L own i y) (hst : (st.map fun v => v.category).sum ≤ 8) (hS : S true y as h v h1) (k : K (pc + 3) L (v.toList ++ st) h1), K pc L (as.reverse ++ st) h
/-- its ends -/
def sm_E (b : ByteArray) (ret : Option FieldType) (v : Option Value) (h1 : List sm_C) (K : sm_K) : Prop :=
  (∀ {pc : Nat} {L : List (Option Value)} {x : Int32} {ty : FieldType} (hd : decode b pc = .ok (.ireturn, 1)) (hr : ret = some ty) (hn : narrow ty (.int x) = .int x) (hv : v = some (.int x)), K pc L [.int x] h1) ∧
  (∀ {pc : Nat} {L : List (Option Value)} (hd : decode b pc = .ok (.return_, 1)) (hr : ret = none) (hv : v = none), K pc L [] h1) ∧
  (∀ {pc : Nat} {L : List (Option Value)} {w : Value} {C : String} (hd : decode b pc = .ok (.areturn, 1)) (hr : ret = some (.object C)) (hw : w = .null ∨ ∃ a, w = .ref a) (hv : v = some w), K pc L [w] h1)
/-- locals at a method's start -/
def sm_en : List Value → List (Option Value)
  | [] => []
  | v :: vs => if v.category = 2 then some v :: none :: sm_en vs else some v :: sm_en vs
def sm_en0 (as : List Value) (n : Nat) : List (Option Value) := sm_en as ++ List.replicate (n - (sm_en as).length) none
/-- a method of own, its bytes b, n locals, what it returns; on arguments and a heap it answers v, and leaves the heap h1 -/
def sm_Sem (S : sm_S) (own : String) (b : ByteArray) (n : Nat) (ret : Option FieldType) (as : List Value) (h : List sm_C) (v : Option Value) (h1 : List sm_C) : Prop :=
  ∀ K : sm_K, sm_R own b K → sm_RV S own b K → sm_RS S own b K → sm_E b ret v h1 K → K 0 (sm_en0 as n) [] h
/-- .. with calls at most d deep -/
def BS : Nat → sm_S
  | 0 => fun _ _ _ _ _ _ => False
  | d + 1 => fun stat y as h v h1 => ∃ q ∈ sm_T, q.1.1 = y ∧ q.1.2.2.2.2 = stat ∧ as.length = (if stat then q.2 else q.2 + 1) ∧ (sm_en as).length ≤ q.1.2.2.1 ∧ sm_Sem (BS d) y.cls q.1.2.1 q.1.2.2.1 q.1.2.2.2.1 as h v h1
/-- a method's contract from its walk -/
theorem bs_of {d : Nat} {stat : Bool} {y : MethodName} {b : ByteArray} {n ar : Nat} {ret : Option FieldType} {as : List Value} {h h1 : List sm_C} {v : Option Value} (hq : ((y, b, n, ret, stat), ar) ∈ sm_T) (ha : as.length = (if stat then ar else ar + 1)) (hn : (sm_en as).length ≤ n)
    (hw : ∀ K : sm_K, sm_R y.cls b K → sm_RV (BS d) y.cls b K → sm_RS (BS d) y.cls b K → sm_E b ret v h1 K → K 0 (sm_en0 as n) [] h) : BS (d + 1) stat y as h v h1 :=
  ⟨_, hq, rfl, rfl, ha, hn, hw⟩
theorem rl_V {S : sm_S} {own : String} {b : ByteArray} {K : sm_K} (R : sm_RV S own b K) {pc : Nat} {L : List (Option Value)} {st : List Value} {h : List sm_C} {i a ci : Nat} {fs : List Value} {y : MethodName} {as : List Value} {v : Option Value} {h1 : List sm_C} (hd : decode b pc = .ok (.invokevirtual i, 3)) (hk : sm_L own i y) (hh : h[a]? = some (hO ci fs)) (hc : (vwCl[ci]?).map (fun q => q.1) = some y.cls) (hst : (st.map fun v => v.category).sum ≤ 8) (hS : S false y (.ref a :: as) h v h1) (k : K (pc + 3) L (v.toList ++ st) h1) : K pc L (as.reverse ++ .ref a :: st) h := R hd hk hh hc hst hS k
theorem rl_S {S : sm_S} {own : String} {b : ByteArray} {K : sm_K} (R : sm_RS S own b K) {pc : Nat} {L : List (Option Value)} {st : List Value} {h : List sm_C} {i : Nat} {y : MethodName} {as : List Value} {v : Option Value} {h1 : List sm_C} (hd : decode b pc = .ok (.invokestatic i, 3)) (hk : sm_L own i y) (hst : (st.map fun v => v.category).sum ≤ 8) (hS : S true y as h v h1) (k : K (pc + 3) L (v.toList ++ st) h1) : K pc L (as.reverse ++ st) h := R hd hk hst hS k
theorem rl_ireturn {b : ByteArray} {ret : Option FieldType} {v : Option Value} {h1 : List sm_C} {K : sm_K} (E : sm_E b ret v h1 K) {pc : Nat} {L : List (Option Value)} {x : Int32} {ty : FieldType} (hd : decode b pc = .ok (.ireturn, 1)) (hr : ret = some ty) (hn : narrow ty (.int x) = .int x) (hv : v = some (.int x)) : K pc L [.int x] h1 := E.1 hd hr hn hv
theorem rl_return {b : ByteArray} {ret : Option FieldType} {v : Option Value} {h1 : List sm_C} {K : sm_K} (E : sm_E b ret v h1 K) {pc : Nat} {L : List (Option Value)} (hd : decode b pc = .ok (.return_, 1)) (hr : ret = none) (hv : v = none) : K pc L [] h1 := E.2.1 hd hr hv
theorem rl_areturn {b : ByteArray} {ret : Option FieldType} {v : Option Value} {h1 : List sm_C} {K : sm_K} (E : sm_E b ret v h1 K) {pc : Nat} {L : List (Option Value)} {w : Value} {C : String} (hd : decode b pc = .ok (.areturn, 1)) (hr : ret = some (.object C)) (hw : w = .null ∨ ∃ a, w = .ref a) (hv : v = some w) : K pc L [w] h1 := E.2.2 hd hr hw hv
theorem rl_V0 {S : sm_S} {own : String} {b : ByteArray} {K : sm_K} (R : sm_RV S own b K) {pc : Nat} {L : List (Option Value)} {st : List Value} {h : List sm_C} {i a ci : Nat} {fs : List Value} {y : MethodName} {v : Value} {h1 : List sm_C} (hd : decode b pc = .ok (.invokevirtual i, 3)) (hk : sm_L own i y) (hh : h[a]? = some (hO ci fs)) (hc : (vwCl[ci]?).map (fun q => q.1) = some y.cls) (hst : (st.map fun v => v.category).sum ≤ 8) (hS : S false y (.ref a :: []) h (some v) h1) (k : K (pc + 3) L (v :: st) h1) : K pc L (.ref a :: st) h := R (as := []) hd hk hh hc hst hS k
theorem rl_S0 {S : sm_S} {own : String} {b : ByteArray} {K : sm_K} (R : sm_RS S own b K) {pc : Nat} {L : List (Option Value)} {st : List Value} {h : List sm_C} {i : Nat} {y : MethodName} {v : Value} {h1 : List sm_C} (hd : decode b pc = .ok (.invokestatic i, 3)) (hk : sm_L own i y) (hst : (st.map fun v => v.category).sum ≤ 8) (hS : S true y [] h (some v) h1) (k : K (pc + 3) L (v :: st) h1) : K pc L (st) h := R (as := []) hd hk hst hS k
theorem rl_V0v {S : sm_S} {own : String} {b : ByteArray} {K : sm_K} (R : sm_RV S own b K) {pc : Nat} {L : List (Option Value)} {st : List Value} {h : List sm_C} {i a ci : Nat} {fs : List Value} {y : MethodName} {h1 : List sm_C} (hd : decode b pc = .ok (.invokevirtual i, 3)) (hk : sm_L own i y) (hh : h[a]? = some (hO ci fs)) (hc : (vwCl[ci]?).map (fun q => q.1) = some y.cls) (hst : (st.map fun v => v.category).sum ≤ 8) (hS : S false y (.ref a :: []) h (none) h1) (k : K (pc + 3) L (st) h1) : K pc L (.ref a :: st) h := R (as := []) hd hk hh hc hst hS k
theorem rl_S0v {S : sm_S} {own : String} {b : ByteArray} {K : sm_K} (R : sm_RS S own b K) {pc : Nat} {L : List (Option Value)} {st : List Value} {h : List sm_C} {i : Nat} {y : MethodName} {h1 : List sm_C} (hd : decode b pc = .ok (.invokestatic i, 3)) (hk : sm_L own i y) (hst : (st.map fun v => v.category).sum ≤ 8) (hS : S true y [] h (none) h1) (k : K (pc + 3) L (st) h1) : K pc L (st) h := R (as := []) hd hk hst hS k
theorem rl_V1 {S : sm_S} {own : String} {b : ByteArray} {K : sm_K} (R : sm_RV S own b K) {pc : Nat} {L : List (Option Value)} {st : List Value} {h : List sm_C} {i a ci : Nat} {fs : List Value} {y : MethodName} {w0 : Value} {v : Value} {h1 : List sm_C} (hd : decode b pc = .ok (.invokevirtual i, 3)) (hk : sm_L own i y) (hh : h[a]? = some (hO ci fs)) (hc : (vwCl[ci]?).map (fun q => q.1) = some y.cls) (hst : (st.map fun v => v.category).sum ≤ 8) (hS : S false y (.ref a :: [w0]) h (some v) h1) (k : K (pc + 3) L (v :: st) h1) : K pc L (w0 :: .ref a :: st) h := R (as := [w0]) hd hk hh hc hst hS k
theorem rl_S1 {S : sm_S} {own : String} {b : ByteArray} {K : sm_K} (R : sm_RS S own b K) {pc : Nat} {L : List (Option Value)} {st : List Value} {h : List sm_C} {i : Nat} {y : MethodName} {w0 : Value} {v : Value} {h1 : List sm_C} (hd : decode b pc = .ok (.invokestatic i, 3)) (hk : sm_L own i y) (hst : (st.map fun v => v.category).sum ≤ 8) (hS : S true y [w0] h (some v) h1) (k : K (pc + 3) L (v :: st) h1) : K pc L (w0 :: st) h := R (as := [w0]) hd hk hst hS k
theorem rl_V1v {S : sm_S} {own : String} {b : ByteArray} {K : sm_K} (R : sm_RV S own b K) {pc : Nat} {L : List (Option Value)} {st : List Value} {h : List sm_C} {i a ci : Nat} {fs : List Value} {y : MethodName} {w0 : Value} {h1 : List sm_C} (hd : decode b pc = .ok (.invokevirtual i, 3)) (hk : sm_L own i y) (hh : h[a]? = some (hO ci fs)) (hc : (vwCl[ci]?).map (fun q => q.1) = some y.cls) (hst : (st.map fun v => v.category).sum ≤ 8) (hS : S false y (.ref a :: [w0]) h (none) h1) (k : K (pc + 3) L (st) h1) : K pc L (w0 :: .ref a :: st) h := R (as := [w0]) hd hk hh hc hst hS k
theorem rl_S1v {S : sm_S} {own : String} {b : ByteArray} {K : sm_K} (R : sm_RS S own b K) {pc : Nat} {L : List (Option Value)} {st : List Value} {h : List sm_C} {i : Nat} {y : MethodName} {w0 : Value} {h1 : List sm_C} (hd : decode b pc = .ok (.invokestatic i, 3)) (hk : sm_L own i y) (hst : (st.map fun v => v.category).sum ≤ 8) (hS : S true y [w0] h (none) h1) (k : K (pc + 3) L (st) h1) : K pc L (w0 :: st) h := R (as := [w0]) hd hk hst hS k
theorem rl_V2 {S : sm_S} {own : String} {b : ByteArray} {K : sm_K} (R : sm_RV S own b K) {pc : Nat} {L : List (Option Value)} {st : List Value} {h : List sm_C} {i a ci : Nat} {fs : List Value} {y : MethodName} {w0 w1 : Value} {v : Value} {h1 : List sm_C} (hd : decode b pc = .ok (.invokevirtual i, 3)) (hk : sm_L own i y) (hh : h[a]? = some (hO ci fs)) (hc : (vwCl[ci]?).map (fun q => q.1) = some y.cls) (hst : (st.map fun v => v.category).sum ≤ 8) (hS : S false y (.ref a :: [w0, w1]) h (some v) h1) (k : K (pc + 3) L (v :: st) h1) : K pc L (w1 :: w0 :: .ref a :: st) h := R (as := [w0, w1]) hd hk hh hc hst hS k
theorem rl_S2 {S : sm_S} {own : String} {b : ByteArray} {K : sm_K} (R : sm_RS S own b K) {pc : Nat} {L : List (Option Value)} {st : List Value} {h : List sm_C} {i : Nat} {y : MethodName} {w0 w1 : Value} {v : Value} {h1 : List sm_C} (hd : decode b pc = .ok (.invokestatic i, 3)) (hk : sm_L own i y) (hst : (st.map fun v => v.category).sum ≤ 8) (hS : S true y [w0, w1] h (some v) h1) (k : K (pc + 3) L (v :: st) h1) : K pc L (w1 :: w0 :: st) h := R (as := [w0, w1]) hd hk hst hS k
theorem rl_V2v {S : sm_S} {own : String} {b : ByteArray} {K : sm_K} (R : sm_RV S own b K) {pc : Nat} {L : List (Option Value)} {st : List Value} {h : List sm_C} {i a ci : Nat} {fs : List Value} {y : MethodName} {w0 w1 : Value} {h1 : List sm_C} (hd : decode b pc = .ok (.invokevirtual i, 3)) (hk : sm_L own i y) (hh : h[a]? = some (hO ci fs)) (hc : (vwCl[ci]?).map (fun q => q.1) = some y.cls) (hst : (st.map fun v => v.category).sum ≤ 8) (hS : S false y (.ref a :: [w0, w1]) h (none) h1) (k : K (pc + 3) L (st) h1) : K pc L (w1 :: w0 :: .ref a :: st) h := R (as := [w0, w1]) hd hk hh hc hst hS k
theorem rl_S2v {S : sm_S} {own : String} {b : ByteArray} {K : sm_K} (R : sm_RS S own b K) {pc : Nat} {L : List (Option Value)} {st : List Value} {h : List sm_C} {i : Nat} {y : MethodName} {w0 w1 : Value} {h1 : List sm_C} (hd : decode b pc = .ok (.invokestatic i, 3)) (hk : sm_L own i y) (hst : (st.map fun v => v.category).sum ≤ 8) (hS : S true y [w0, w1] h (none) h1) (k : K (pc + 3) L (st) h1) : K pc L (w1 :: w0 :: st) h := R (as := [w0, w1]) hd hk hst hS k
theorem rl_V3 {S : sm_S} {own : String} {b : ByteArray} {K : sm_K} (R : sm_RV S own b K) {pc : Nat} {L : List (Option Value)} {st : List Value} {h : List sm_C} {i a ci : Nat} {fs : List Value} {y : MethodName} {w0 w1 w2 : Value} {v : Value} {h1 : List sm_C} (hd : decode b pc = .ok (.invokevirtual i, 3)) (hk : sm_L own i y) (hh : h[a]? = some (hO ci fs)) (hc : (vwCl[ci]?).map (fun q => q.1) = some y.cls) (hst : (st.map fun v => v.category).sum ≤ 8) (hS : S false y (.ref a :: [w0, w1, w2]) h (some v) h1) (k : K (pc + 3) L (v :: st) h1) : K pc L (w2 :: w1 :: w0 :: .ref a :: st) h := R (as := [w0, w1, w2]) hd hk hh hc hst hS k
theorem rl_S3 {S : sm_S} {own : String} {b : ByteArray} {K : sm_K} (R : sm_RS S own b K) {pc : Nat} {L : List (Option Value)} {st : List Value} {h : List sm_C} {i : Nat} {y : MethodName} {w0 w1 w2 : Value} {v : Value} {h1 : List sm_C} (hd : decode b pc = .ok (.invokestatic i, 3)) (hk : sm_L own i y) (hst : (st.map fun v => v.category).sum ≤ 8) (hS : S true y [w0, w1, w2] h (some v) h1) (k : K (pc + 3) L (v :: st) h1) : K pc L (w2 :: w1 :: w0 :: st) h := R (as := [w0, w1, w2]) hd hk hst hS k
theorem rl_V3v {S : sm_S} {own : String} {b : ByteArray} {K : sm_K} (R : sm_RV S own b K) {pc : Nat} {L : List (Option Value)} {st : List Value} {h : List sm_C} {i a ci : Nat} {fs : List Value} {y : MethodName} {w0 w1 w2 : Value} {h1 : List sm_C} (hd : decode b pc = .ok (.invokevirtual i, 3)) (hk : sm_L own i y) (hh : h[a]? = some (hO ci fs)) (hc : (vwCl[ci]?).map (fun q => q.1) = some y.cls) (hst : (st.map fun v => v.category).sum ≤ 8) (hS : S false y (.ref a :: [w0, w1, w2]) h (none) h1) (k : K (pc + 3) L (st) h1) : K pc L (w2 :: w1 :: w0 :: .ref a :: st) h := R (as := [w0, w1, w2]) hd hk hh hc hst hS k
theorem rl_S3v {S : sm_S} {own : String} {b : ByteArray} {K : sm_K} (R : sm_RS S own b K) {pc : Nat} {L : List (Option Value)} {st : List Value} {h : List sm_C} {i : Nat} {y : MethodName} {w0 w1 w2 : Value} {h1 : List sm_C} (hd : decode b pc = .ok (.invokestatic i, 3)) (hk : sm_L own i y) (hst : (st.map fun v => v.category).sum ≤ 8) (hS : S true y [w0, w1, w2] h (none) h1) (k : K (pc + 3) L (st) h1) : K pc L (w2 :: w1 :: w0 :: st) h := R (as := [w0, w1, w2]) hd hk hst hS k
theorem rl_V4 {S : sm_S} {own : String} {b : ByteArray} {K : sm_K} (R : sm_RV S own b K) {pc : Nat} {L : List (Option Value)} {st : List Value} {h : List sm_C} {i a ci : Nat} {fs : List Value} {y : MethodName} {w0 w1 w2 w3 : Value} {v : Value} {h1 : List sm_C} (hd : decode b pc = .ok (.invokevirtual i, 3)) (hk : sm_L own i y) (hh : h[a]? = some (hO ci fs)) (hc : (vwCl[ci]?).map (fun q => q.1) = some y.cls) (hst : (st.map fun v => v.category).sum ≤ 8) (hS : S false y (.ref a :: [w0, w1, w2, w3]) h (some v) h1) (k : K (pc + 3) L (v :: st) h1) : K pc L (w3 :: w2 :: w1 :: w0 :: .ref a :: st) h := R (as := [w0, w1, w2, w3]) hd hk hh hc hst hS k
theorem rl_S4 {S : sm_S} {own : String} {b : ByteArray} {K : sm_K} (R : sm_RS S own b K) {pc : Nat} {L : List (Option Value)} {st : List Value} {h : List sm_C} {i : Nat} {y : MethodName} {w0 w1 w2 w3 : Value} {v : Value} {h1 : List sm_C} (hd : decode b pc = .ok (.invokestatic i, 3)) (hk : sm_L own i y) (hst : (st.map fun v => v.category).sum ≤ 8) (hS : S true y [w0, w1, w2, w3] h (some v) h1) (k : K (pc + 3) L (v :: st) h1) : K pc L (w3 :: w2 :: w1 :: w0 :: st) h := R (as := [w0, w1, w2, w3]) hd hk hst hS k
theorem rl_V4v {S : sm_S} {own : String} {b : ByteArray} {K : sm_K} (R : sm_RV S own b K) {pc : Nat} {L : List (Option Value)} {st : List Value} {h : List sm_C} {i a ci : Nat} {fs : List Value} {y : MethodName} {w0 w1 w2 w3 : Value} {h1 : List sm_C} (hd : decode b pc = .ok (.invokevirtual i, 3)) (hk : sm_L own i y) (hh : h[a]? = some (hO ci fs)) (hc : (vwCl[ci]?).map (fun q => q.1) = some y.cls) (hst : (st.map fun v => v.category).sum ≤ 8) (hS : S false y (.ref a :: [w0, w1, w2, w3]) h (none) h1) (k : K (pc + 3) L (st) h1) : K pc L (w3 :: w2 :: w1 :: w0 :: .ref a :: st) h := R (as := [w0, w1, w2, w3]) hd hk hh hc hst hS k
theorem rl_S4v {S : sm_S} {own : String} {b : ByteArray} {K : sm_K} (R : sm_RS S own b K) {pc : Nat} {L : List (Option Value)} {st : List Value} {h : List sm_C} {i : Nat} {y : MethodName} {w0 w1 w2 w3 : Value} {h1 : List sm_C} (hd : decode b pc = .ok (.invokestatic i, 3)) (hk : sm_L own i y) (hst : (st.map fun v => v.category).sum ≤ 8) (hS : S true y [w0, w1, w2, w3] h (none) h1) (k : K (pc + 3) L (st) h1) : K pc L (w3 :: w2 :: w1 :: w0 :: st) h := R (as := [w0, w1, w2, w3]) hd hk hst hS k
theorem rl_V5 {S : sm_S} {own : String} {b : ByteArray} {K : sm_K} (R : sm_RV S own b K) {pc : Nat} {L : List (Option Value)} {st : List Value} {h : List sm_C} {i a ci : Nat} {fs : List Value} {y : MethodName} {w0 w1 w2 w3 w4 : Value} {v : Value} {h1 : List sm_C} (hd : decode b pc = .ok (.invokevirtual i, 3)) (hk : sm_L own i y) (hh : h[a]? = some (hO ci fs)) (hc : (vwCl[ci]?).map (fun q => q.1) = some y.cls) (hst : (st.map fun v => v.category).sum ≤ 8) (hS : S false y (.ref a :: [w0, w1, w2, w3, w4]) h (some v) h1) (k : K (pc + 3) L (v :: st) h1) : K pc L (w4 :: w3 :: w2 :: w1 :: w0 :: .ref a :: st) h := R (as := [w0, w1, w2, w3, w4]) hd hk hh hc hst hS k
theorem rl_S5 {S : sm_S} {own : String} {b : ByteArray} {K : sm_K} (R : sm_RS S own b K) {pc : Nat} {L : List (Option Value)} {st : List Value} {h : List sm_C} {i : Nat} {y : MethodName} {w0 w1 w2 w3 w4 : Value} {v : Value} {h1 : List sm_C} (hd : decode b pc = .ok (.invokestatic i, 3)) (hk : sm_L own i y) (hst : (st.map fun v => v.category).sum ≤ 8) (hS : S true y [w0, w1, w2, w3, w4] h (some v) h1) (k : K (pc + 3) L (v :: st) h1) : K pc L (w4 :: w3 :: w2 :: w1 :: w0 :: st) h := R (as := [w0, w1, w2, w3, w4]) hd hk hst hS k
theorem rl_V5v {S : sm_S} {own : String} {b : ByteArray} {K : sm_K} (R : sm_RV S own b K) {pc : Nat} {L : List (Option Value)} {st : List Value} {h : List sm_C} {i a ci : Nat} {fs : List Value} {y : MethodName} {w0 w1 w2 w3 w4 : Value} {h1 : List sm_C} (hd : decode b pc = .ok (.invokevirtual i, 3)) (hk : sm_L own i y) (hh : h[a]? = some (hO ci fs)) (hc : (vwCl[ci]?).map (fun q => q.1) = some y.cls) (hst : (st.map fun v => v.category).sum ≤ 8) (hS : S false y (.ref a :: [w0, w1, w2, w3, w4]) h (none) h1) (k : K (pc + 3) L (st) h1) : K pc L (w4 :: w3 :: w2 :: w1 :: w0 :: .ref a :: st) h := R (as := [w0, w1, w2, w3, w4]) hd hk hh hc hst hS k
theorem rl_S5v {S : sm_S} {own : String} {b : ByteArray} {K : sm_K} (R : sm_RS S own b K) {pc : Nat} {L : List (Option Value)} {st : List Value} {h : List sm_C} {i : Nat} {y : MethodName} {w0 w1 w2 w3 w4 : Value} {h1 : List sm_C} (hd : decode b pc = .ok (.invokestatic i, 3)) (hk : sm_L own i y) (hst : (st.map fun v => v.category).sum ≤ 8) (hS : S true y [w0, w1, w2, w3, w4] h (none) h1) (k : K (pc + 3) L (st) h1) : K pc L (w4 :: w3 :: w2 :: w1 :: w0 :: st) h := R (as := [w0, w1, w2, w3, w4]) hd hk hst hS k
theorem rl_V6 {S : sm_S} {own : String} {b : ByteArray} {K : sm_K} (R : sm_RV S own b K) {pc : Nat} {L : List (Option Value)} {st : List Value} {h : List sm_C} {i a ci : Nat} {fs : List Value} {y : MethodName} {w0 w1 w2 w3 w4 w5 : Value} {v : Value} {h1 : List sm_C} (hd : decode b pc = .ok (.invokevirtual i, 3)) (hk : sm_L own i y) (hh : h[a]? = some (hO ci fs)) (hc : (vwCl[ci]?).map (fun q => q.1) = some y.cls) (hst : (st.map fun v => v.category).sum ≤ 8) (hS : S false y (.ref a :: [w0, w1, w2, w3, w4, w5]) h (some v) h1) (k : K (pc + 3) L (v :: st) h1) : K pc L (w5 :: w4 :: w3 :: w2 :: w1 :: w0 :: .ref a :: st) h := R (as := [w0, w1, w2, w3, w4, w5]) hd hk hh hc hst hS k
theorem rl_S6 {S : sm_S} {own : String} {b : ByteArray} {K : sm_K} (R : sm_RS S own b K) {pc : Nat} {L : List (Option Value)} {st : List Value} {h : List sm_C} {i : Nat} {y : MethodName} {w0 w1 w2 w3 w4 w5 : Value} {v : Value} {h1 : List sm_C} (hd : decode b pc = .ok (.invokestatic i, 3)) (hk : sm_L own i y) (hst : (st.map fun v => v.category).sum ≤ 8) (hS : S true y [w0, w1, w2, w3, w4, w5] h (some v) h1) (k : K (pc + 3) L (v :: st) h1) : K pc L (w5 :: w4 :: w3 :: w2 :: w1 :: w0 :: st) h := R (as := [w0, w1, w2, w3, w4, w5]) hd hk hst hS k
theorem rl_V6v {S : sm_S} {own : String} {b : ByteArray} {K : sm_K} (R : sm_RV S own b K) {pc : Nat} {L : List (Option Value)} {st : List Value} {h : List sm_C} {i a ci : Nat} {fs : List Value} {y : MethodName} {w0 w1 w2 w3 w4 w5 : Value} {h1 : List sm_C} (hd : decode b pc = .ok (.invokevirtual i, 3)) (hk : sm_L own i y) (hh : h[a]? = some (hO ci fs)) (hc : (vwCl[ci]?).map (fun q => q.1) = some y.cls) (hst : (st.map fun v => v.category).sum ≤ 8) (hS : S false y (.ref a :: [w0, w1, w2, w3, w4, w5]) h (none) h1) (k : K (pc + 3) L (st) h1) : K pc L (w5 :: w4 :: w3 :: w2 :: w1 :: w0 :: .ref a :: st) h := R (as := [w0, w1, w2, w3, w4, w5]) hd hk hh hc hst hS k
theorem rl_S6v {S : sm_S} {own : String} {b : ByteArray} {K : sm_K} (R : sm_RS S own b K) {pc : Nat} {L : List (Option Value)} {st : List Value} {h : List sm_C} {i : Nat} {y : MethodName} {w0 w1 w2 w3 w4 w5 : Value} {h1 : List sm_C} (hd : decode b pc = .ok (.invokestatic i, 3)) (hk : sm_L own i y) (hst : (st.map fun v => v.category).sum ≤ 8) (hS : S true y [w0, w1, w2, w3, w4, w5] h (none) h1) (k : K (pc + 3) L (st) h1) : K pc L (w5 :: w4 :: w3 :: w2 :: w1 :: w0 :: st) h := R (as := [w0, w1, w2, w3, w4, w5]) hd hk hst hS k
theorem sm_h_ne {h : List sm_C} {a c : Nat} {x y z : sm_C} (ha : h[a]? = some x) (hc : h[c]? = some y) (hne : a ≠ c) : (h.set c z)[a]? = some x := by rw [List.getElem?_set_ne (Ne.symm hne)]; exact ha
theorem sm_h_eq {h : List sm_C} {c : Nat} {y z : sm_C} (hc : h[c]? = some y) : (h.set c z)[c]? = some z := List.getElem?_set_self (List.getElem?_eq_some_iff.mp hc).1
theorem sm_h_oi {h : List sm_C} {a c ci n : Nat} {fs : List Value} {f : Nat → Int32} {z : sm_C} (ha : h[a]? = some (hO ci fs)) (hc : h[c]? = some (hI n f)) : (h.set c z)[a]? = some (hO ci fs) := sm_h_ne ha hc (fun e => by subst e; rw [ha] at hc; cases hc)
theorem sm_h_io {h : List sm_C} {a c ci n : Nat} {fs : List Value} {f : Nat → Int32} {z : sm_C} (ha : h[a]? = some (hI n f)) (hc : h[c]? = some (hO ci fs)) : (h.set c z)[a]? = some (hI n f) := sm_h_ne ha hc (fun e => by subst e; rw [ha] at hc; cases hc)
theorem ic_m1 : Int32.ofInt (-1) = (-1) := by decide
theorem ic_0 : Int32.ofInt (0) = 0 := by decide
theorem ic_1 : Int32.ofInt (1) = 1 := by decide
theorem ic_2 : Int32.ofInt (2) = 2 := by decide
theorem ic_3 : Int32.ofInt (3) = 3 := by decide
theorem ic_4 : Int32.ofInt (4) = 4 := by decide
theorem ic_5 : Int32.ofInt (5) = 5 := by decide
theorem bc_m20 : (Int8.ofInt (-20)).toInt32 = (-20) := by decide
theorem bc_m14 : (Int8.ofInt (-14)).toInt32 = (-14) := by decide
theorem bc_m13 : (Int8.ofInt (-13)).toInt32 = (-13) := by decide
theorem bc_m12 : (Int8.ofInt (-12)).toInt32 = (-12) := by decide
theorem bc_m11 : (Int8.ofInt (-11)).toInt32 = (-11) := by decide
theorem bc_m4 : (Int8.ofInt (-4)).toInt32 = (-4) := by decide
theorem bc_m3 : (Int8.ofInt (-3)).toInt32 = (-3) := by decide
theorem bc_m2 : (Int8.ofInt (-2)).toInt32 = (-2) := by decide
theorem bc_6 : (Int8.ofInt (6)).toInt32 = 6 := by decide
theorem bc_7 : (Int8.ofInt (7)).toInt32 = 7 := by decide
theorem bc_8 : (Int8.ofInt (8)).toInt32 = 8 := by decide
theorem bc_9 : (Int8.ofInt (9)).toInt32 = 9 := by decide
theorem bc_10 : (Int8.ofInt (10)).toInt32 = 10 := by decide
theorem bc_16 : (Int8.ofInt (16)).toInt32 = 16 := by decide
theorem bc_27 : (Int8.ofInt (27)).toInt32 = 27 := by decide
theorem bc_28 : (Int8.ofInt (28)).toInt32 = 28 := by decide
theorem bc_32 : (Int8.ofInt (32)).toInt32 = 32 := by decide
theorem bc_33 : (Int8.ofInt (33)).toInt32 = 33 := by decide
theorem bc_36 : (Int8.ofInt (36)).toInt32 = 36 := by decide
theorem bc_40 : (Int8.ofInt (40)).toInt32 = 40 := by decide
theorem bc_43 : (Int8.ofInt (43)).toInt32 = 43 := by decide
theorem bc_44 : (Int8.ofInt (44)).toInt32 = 44 := by decide
theorem bc_45 : (Int8.ofInt (45)).toInt32 = 45 := by decide
theorem bc_47 : (Int8.ofInt (47)).toInt32 = 47 := by decide
theorem bc_48 : (Int8.ofInt (48)).toInt32 = 48 := by decide
theorem bc_56 : (Int8.ofInt (56)).toInt32 = 56 := by decide
theorem bc_57 : (Int8.ofInt (57)).toInt32 = 57 := by decide
theorem bc_61 : (Int8.ofInt (61)).toInt32 = 61 := by decide
theorem bc_63 : (Int8.ofInt (63)).toInt32 = 63 := by decide
theorem bc_64 : (Int8.ofInt (64)).toInt32 = 64 := by decide
theorem bc_89 : (Int8.ofInt (89)).toInt32 = 89 := by decide
theorem bc_99 : (Int8.ofInt (99)).toInt32 = 99 := by decide
theorem bc_100 : (Int8.ofInt (100)).toInt32 = 100 := by decide
theorem bc_126 : (Int8.ofInt (126)).toInt32 = 126 := by decide
theorem sc_198 : (Int16.ofInt (198)).toInt32 = 198 := by decide
theorem sc_199 : (Int16.ofInt (199)).toInt32 = 199 := by decide
theorem sc_200 : (Int16.ofInt (200)).toInt32 = 200 := by decide
theorem sc_255 : (Int16.ofInt (255)).toInt32 = 255 := by decide
theorem sc_12345 : (Int16.ofInt (12345)).toInt32 = 12345 := by decide
theorem lc_0 : Int64.ofNat ((0 : Fin 2) : Nat) = 0 := by decide
theorem lc_1 : Int64.ofNat ((1 : Fin 2) : Nat) = 1 := by decide
end
section
/-! THE MACHINE DOES WHAT THE RULES SAY -/
def sm_nest : Cond → Bool
  | .fieldLinkNest _ _ _ _ _ _ => true
  | .methodLinkNest _ _ _ _ => true
  | _ => false
/-- the words that last inside calls -/
def sm_f : List Cond := lw_tbl.filter (fun w => goodWord w || sm_nest w)
theorem sm_ff {w : Cond} (h : w ∈ lw_tbl) (hg : (goodWord w || sm_nest w) = true) : w ∈ sm_f := List.mem_filter.mpr ⟨h, hg⟩
/-- a value of the picture in the heap: references by their addresses -/
def sm_c (ad : Nat → Nat) : Value → Value
  | .ref k => .ref (ad k)
  | v => v
def sm_e (cI cQ : ClassId) (ad : Nat → Nat) : sm_C → va_E
  | .inl (.inl (n, f)) => .inl (cI, n, .inl f)
  | .inl (.inr (n, f)) => .inl (cQ, n, .inr (.inr (.inr (.inr (fun j => (f j).map ad)))))
  | .inr (ci, fs) => .inr (ci, fs.map (sm_c ad))
/-- the picture's world -/
def sm_w (cI cQ : ClassId) (ad : Nat → Nat) (h : List sm_C) : va_W := h.mapIdx (fun k x => (ad k, sm_e cI cQ ad x))
def sm_as (L : List (Option Value)) : List (Nat × Value) := L.zipIdx.filterMap (fun q => q.1.map (fun v => (q.2, v)))
theorem sm_as_mem {L : List (Option Value)} {i : Nat} {v : Value} : (i, v) ∈ sm_as L ↔ L[i]? = some (some v) := by
  unfold sm_as
  rw [List.mem_filterMap]
  constructor
  · rintro ⟨⟨o, j⟩, h1, h2⟩
    rw [List.mem_zipIdx_iff_getElem?] at h1
    cases o with
    | none => simp at h2
    | some w =>
      simp only [Option.map_some, Option.some.injEq, Prod.mk.injEq] at h2
      obtain ⟨rfl, rfl⟩ := h2
      exact h1
  · intro h
    exact ⟨(some v, i), List.mem_zipIdx_iff_getElem?.mpr h, rfl⟩
abbrev sm_lm (ad : Nat → Nat) (L : List (Option Value)) : List (Nat × Value) := sm_as (L.map (Option.map (sm_c ad)))
theorem sm_mem {ad : Nat → Nat} {L : List (Option Value)} {i : Nat} {v : Value} (h : L[i]? = some (some v)) : (i, sm_c ad v) ∈ sm_lm ad L := by
  rw [sm_as_mem, List.getElem?_map, h]; rfl
theorem sm_at {ad : Nat → Nat} {ls : Array Slot} {nL : Nat} {L : List (Option Value)} (h : lv_has ls nL (sm_lm ad L)) {i : Nat} {v : Value} (hk : L[i]? = some (some v)) : ls[i]? = some (.val (sm_c ad v)) := h.2.2 (i, sm_c ad v) (sm_mem hk)
theorem sm_in {ad : Nat → Nat} {L : List (Option Value)} {i : Nat} {x : Int32} (hk : L[i]? = some (some (.int x))) : ∃ j : Nat, (sm_lm ad L)[j]? = some (i, .int x) := by
  obtain ⟨j, hj⟩ := List.getElem?_of_mem (sm_mem (ad := ad) hk)
  exact ⟨j, hj⟩
theorem sm_cat {ad : Nat → Nat} {v : Value} {n : Nat} (h : v.category = n) : (sm_c ad v).category = n := by cases v <;> exact h
theorem sm_cat2 {ad : Nat → Nat} {v : Value} : (sm_c ad v).category = v.category := by cases v <;> rfl
theorem sm_sum {ad : Nat → Nat} {st : List Value} {n : Nat} (h : (st.map fun v => v.category).sum ≤ n) : ((st.map (sm_c ad)).map fun v => v.category).sum ≤ n := by
  rw [List.map_map]
  have : ((fun v : Value => v.category) ∘ sm_c ad) = fun v => v.category := funext fun v => sm_cat2
  rw [this]; exact h
/-- a store into the picture's locals -/
theorem sm_put {ad : Nat → Nat} {ls : Array Slot} {nL : Nat} {L : List (Option Value)} {i : Nat} {w : Value} (h : lv_has ls nL ((i, sm_c ad w) :: (sm_lm ad L).filter (fun q => !(q.1 == i) && !(q.1 + 1 == i && q.2.category == 2)))) (ho : sm_ok L i = true) : lv_has ls nL (sm_lm ad (L.set i (some w))) := by
  refine ⟨h.1, h.2.1, ?_⟩
  rintro ⟨j, v⟩ hj
  rw [sm_as_mem, List.getElem?_map] at hj
  by_cases hij : i = j
  · subst hij
    have hlt : i < L.length := by
      rcases Nat.lt_or_ge i L.length with q | q
      · exact q
      · rw [List.getElem?_eq_none (by rw [List.length_set]; exact q)] at hj
        cases hj
    rw [List.getElem?_set_self hlt] at hj
    simp only [Option.map_some, Option.some.injEq] at hj
    exact h.2.2 (i, v) (by rw [← hj]; exact List.mem_cons_self)
  · rw [List.getElem?_set_ne hij] at hj
    refine h.2.2 (j, v) (List.mem_cons_of_mem _ (List.mem_filter.mpr ⟨?_, ?_⟩))
    · rw [sm_as_mem, List.getElem?_map]; exact hj
    · have h1 : (j == i) = false := by simpa using fun e => hij e.symm
      simp only [h1, Bool.not_false, Bool.true_and, Bool.not_eq_true', Bool.and_eq_false_iff, beq_eq_false_iff_ne, ne_eq]
      by_cases hj1 : j + 1 = i
      · right
        subst hj1
        cases hLj : L[j]? with
        | none => rw [hLj] at hj; cases hj
        | some o =>
          cases o with
          | none => rw [hLj] at hj; simp at hj
          | some u =>
            rw [hLj] at hj
            simp only [Option.map_some, Option.some.injEq] at hj
            subst hj
            simp only [sm_ok, hLj] at ho
            rw [sm_cat2]
            cases u <;> simp_all [Value.category]
      · exact Or.inl hj1
theorem sm_wk {cI cQ : ClassId} {ad : Nat → Nat} {h : List sm_C} {k : Nat} : (sm_w cI cQ ad h)[k]? = (h[k]?).map (fun x => (ad k, sm_e cI cQ ad x)) := by
  unfold sm_w
  rw [List.getElem?_mapIdx]
theorem sm_wo {cI cQ : ClassId} {ad : Nat → Nat} {h : List sm_C} {a ci : Nat} {fs : List Value} (hh : h[a]? = some (hO ci fs)) : (sm_w cI cQ ad h)[a]? = some (ad a, .inr (ci, fs.map (sm_c ad))) := by rw [sm_wk, hh]; rfl
theorem sm_wi {cI cQ : ClassId} {ad : Nat → Nat} {h : List sm_C} {a n : Nat} {f : Nat → Int32} (hh : h[a]? = some (hI n f)) : (sm_w cI cQ ad h)[a]? = some (ad a, .inl (cI, n, .inl f)) := by rw [sm_wk, hh]; rfl
theorem sm_wq {cI cQ : ClassId} {ad : Nat → Nat} {h : List sm_C} {a n : Nat} {f : Nat → Option Nat} (hh : h[a]? = some (hQ n f)) : (sm_w cI cQ ad h)[a]? = some (ad a, .inl (cQ, n, .inr (.inr (.inr (.inr (fun j => (f j).map ad)))))) := by rw [sm_wk, hh]; rfl
theorem sm_ws {cI cQ : ClassId} {ad : Nat → Nat} {h : List sm_C} {a : Nat} {x y : sm_C} (hh : h[a]? = some x) : sm_w cI cQ ad (h.set a y) = (sm_w cI cQ ad h).set a (ad a, sm_e cI cQ ad y) := by
  have hl := (List.getElem?_eq_some_iff.mp hh).1
  apply List.ext_getElem?
  intro k
  by_cases hk : a = k
  · subst hk
    rw [sm_wk, List.getElem?_set_self hl, List.getElem?_set_self (by unfold sm_w; rw [List.length_mapIdx]; exact hl)]; rfl
  · rw [sm_wk, List.getElem?_set_ne hk, List.getElem?_set_ne hk, sm_wk]
theorem sm_ws_o {cI cQ : ClassId} {ad : Nat → Nat} {h : List sm_C} {a ci : Nat} {x : sm_C} {fs : List Value} (hh : h[a]? = some x) : sm_w cI cQ ad (h.set a (hO ci fs)) = (sm_w cI cQ ad h).set a (ad a, .inr (ci, fs.map (sm_c ad))) := sm_ws hh
theorem sm_ws_i {cI cQ : ClassId} {ad : Nat → Nat} {h : List sm_C} {a n : Nat} {x : sm_C} {f : Nat → Int32} (hh : h[a]? = some x) : sm_w cI cQ ad (h.set a (hI n f)) = (sm_w cI cQ ad h).set a (ad a, .inl (cI, n, .inl f)) := sm_ws hh
theorem sm_cl_all : ∀ (ci : Nat) (q : vw_C), vwCl[ci]? = some q → (∀ w ∈ u_ws q.1 q.2.1 q.2.2, w ∈ lw_tbl) ∧ ∃ ty : Nat → FieldType, (∀ k, k < q.2.2 → parseFieldDescriptor (q.2.1 k).2.2.1 = some (ty k)) ∧ (∀ a, a < q.2.2 → ∀ b, b < q.2.2 → a ≠ b → (q.2.1 a).2.1 ≠ (q.2.1 b).2.1)
  | 0, _, h => by cases h; exact ⟨inX0, tyX0, tyX0_ok, nmX0⟩
  | 1, _, h => by cases h; exact ⟨inX1, tyX1, tyX1_ok, nmX1⟩
  | 2, _, h => by cases h; exact ⟨inX2, tyX2, tyX2_ok, nmX2⟩
  | 3, _, h => by cases h; exact ⟨inX3, tyX3, tyX3_ok, nmX3⟩
  | 4, _, h => by cases h; exact ⟨inX4, tyX4, tyX4_ok, nmX4⟩
  | 5, _, h => by cases h; exact ⟨inX5, tyX5, tyX5_ok, nmX5⟩
  | 6, _, h => by cases h; exact ⟨inX6, tyX6, tyX6_ok, nmX6⟩
  | 7, _, h => by cases h; exact ⟨inX7, tyX7, tyX7_ok, nmX7⟩
  | 8, _, h => by cases h; exact ⟨inX8, tyX8, tyX8_ok, nmX8⟩
  | n + 9, _, h => by simp [vwCl] at h
theorem sm_in_cl {ci : Nat} {C : String} {T : u_T} {N : Nat} (h : vwCl[ci]? = some (C, T, N)) : ∀ w ∈ u_ws C T N, w ∈ sm_f := fun w hw => sm_ff ((sm_cl_all ci _ h).1 w hw) (by
  obtain ⟨k, -, rfl⟩ := List.mem_map.mp hw
  unfold u_lay
  split <;> rfl)
theorem sm_ty_cl {ci : Nat} {C : String} {T : u_T} {N : Nat} (h : vwCl[ci]? = some (C, T, N)) : ∃ ty : Nat → FieldType, (∀ k, k < N → parseFieldDescriptor (T k).2.2.1 = some (ty k)) ∧ (∀ a, a < N → ∀ b, b < N → a ≠ b → (T a).2.1 ≠ (T b).2.1) := (sm_cl_all ci _ h).2
/-- the rules' predicate: from any heap that holds the picture, the machine comes to Q -/
def sm_AW (p : Program) (l : Launch) (e : Env) (R : Room) (s : State) (m : MethodId) (args : Array Value) (below : List Frame) (meth : Method) (c : Code) (G : va_G) (cI cQ : ClassId) (ad : Nat → Nat) (nL : Nat) (A : Nat → Prop) (H0 : Heap) (cells slots : Nat) (Q : State → Prop) (free : Nat → Prop) : sm_K := fun pc L st h =>
  ∀ (H : Heap) (locs : List Loc) (ls : Array Slot), va_P G vwCl (sm_w cI cQ ad h) H → va_D A (sm_w cI cQ ad h) → va_S A H0 H locs → lv_has ls nL (sm_lm ad L) → L.length = nL → W p l e R s m args below meth c H locs cells slots Q (F0 m pc ls (st.map (sm_c ad)))
section SO
variable {p : Program} {l : Launch} {e : Env} {R : Room} {s : State} {m : MethodId} {args : Array Value} {below : List Frame} {meth : Method} {c : Code} {G : va_G} {cI cQ : ClassId} {ad : Nat → Nat} {nL : Nat} {A : Nat → Prop} {H0 : Heap} {cells slots : Nat} {Q : State → Prop} {free : Nat → Prop} {b : ByteArray} {own : String}
theorem so_iconst (hx : p.tables.exec = Jvm.exec) (hb : c.code = b) (hml : c.maxLocals = nL) (hown : s.vm.findClass own = some m.cls) (hts : ∀ w ∈ sm_f, w.before args s = true) (hK : va_K G vwCl [(cI, .int), (cQ, .object "NineLies$Sheet")] s) (hfr : 1 ≤ R.frames) (hlo : 38 ≤ R.locals) (hcc : cells ≤ R.cells) (hss : slots ≤ R.slots) : ru_iconst own b (sm_AW p l e R s m args below meth c G cI cQ ad nL A H0 cells slots Q free) := by
  intro pc L st h n v hd hv k H locs ls hP hD hS hl hn
  exact lv_iconst hx hb hd hv (k H locs ls hP hD hS hl hn)
theorem so_bipush (hx : p.tables.exec = Jvm.exec) (hb : c.code = b) (hml : c.maxLocals = nL) (hown : s.vm.findClass own = some m.cls) (hts : ∀ w ∈ sm_f, w.before args s = true) (hK : va_K G vwCl [(cI, .int), (cQ, .object "NineLies$Sheet")] s) (hfr : 1 ≤ R.frames) (hlo : 38 ≤ R.locals) (hcc : cells ≤ R.cells) (hss : slots ≤ R.slots) : ru_bipush own b (sm_AW p l e R s m args below meth c G cI cQ ad nL A H0 cells slots Q free) := by
  intro pc L st h n v hd hv k H locs ls hP hD hS hl hn
  exact lv_bipush hx hb hd hv (k H locs ls hP hD hS hl hn)
theorem so_sipush (hx : p.tables.exec = Jvm.exec) (hb : c.code = b) (hml : c.maxLocals = nL) (hown : s.vm.findClass own = some m.cls) (hts : ∀ w ∈ sm_f, w.before args s = true) (hK : va_K G vwCl [(cI, .int), (cQ, .object "NineLies$Sheet")] s) (hfr : 1 ≤ R.frames) (hlo : 38 ≤ R.locals) (hcc : cells ≤ R.cells) (hss : slots ≤ R.slots) : ru_sipush own b (sm_AW p l e R s m args below meth c G cI cQ ad nL A H0 cells slots Q free) := by
  intro pc L st h n v hd hv k H locs ls hP hD hS hl hn
  exact lv_sipush hx hb hd hv (k H locs ls hP hD hS hl hn)
theorem so_lconst (hx : p.tables.exec = Jvm.exec) (hb : c.code = b) (hml : c.maxLocals = nL) (hown : s.vm.findClass own = some m.cls) (hts : ∀ w ∈ sm_f, w.before args s = true) (hK : va_K G vwCl [(cI, .int), (cQ, .object "NineLies$Sheet")] s) (hfr : 1 ≤ R.frames) (hlo : 38 ≤ R.locals) (hcc : cells ≤ R.cells) (hss : slots ≤ R.slots) : ru_lconst own b (sm_AW p l e R s m args below meth c G cI cQ ad nL A H0 cells slots Q free) := by
  intro pc L st h n v hd hv k H locs ls hP hD hS hl hn
  exact lv_lconst hx hb hd hv (k H locs ls hP hD hS hl hn)
theorem so_null (hx : p.tables.exec = Jvm.exec) (hb : c.code = b) (hml : c.maxLocals = nL) (hown : s.vm.findClass own = some m.cls) (hts : ∀ w ∈ sm_f, w.before args s = true) (hK : va_K G vwCl [(cI, .int), (cQ, .object "NineLies$Sheet")] s) (hfr : 1 ≤ R.frames) (hlo : 38 ≤ R.locals) (hcc : cells ≤ R.cells) (hss : slots ≤ R.slots) : ru_null own b (sm_AW p l e R s m args below meth c G cI cQ ad nL A H0 cells slots Q free) := by
  intro pc L st h  hd k H locs ls hP hD hS hl hn
  exact lv_null hx hb hd (k H locs ls hP hD hS hl hn)
theorem so_ldc (hx : p.tables.exec = Jvm.exec) (hb : c.code = b) (hml : c.maxLocals = nL) (hown : s.vm.findClass own = some m.cls) (hts : ∀ w ∈ sm_f, w.before args s = true) (hK : va_K G vwCl [(cI, .int), (cQ, .object "NineLies$Sheet")] s) (hfr : 1 ≤ R.frames) (hlo : 38 ≤ R.locals) (hcc : cells ≤ R.cells) (hss : slots ≤ R.slots) : ru_ldc own b (sm_AW p l e R s m args below meth c G cI cQ ad nL A H0 cells slots Q free) := by
  intro pc L st h i v hd hc k H locs ls hP hD hS hl hn
  exact lv_ldc hx hb hown (hts _ (sm_ff hc rfl)) hd (k H locs ls hP hD hS hl hn)
theorem so_ldcw (hx : p.tables.exec = Jvm.exec) (hb : c.code = b) (hml : c.maxLocals = nL) (hown : s.vm.findClass own = some m.cls) (hts : ∀ w ∈ sm_f, w.before args s = true) (hK : va_K G vwCl [(cI, .int), (cQ, .object "NineLies$Sheet")] s) (hfr : 1 ≤ R.frames) (hlo : 38 ≤ R.locals) (hcc : cells ≤ R.cells) (hss : slots ≤ R.slots) : ru_ldcw own b (sm_AW p l e R s m args below meth c G cI cQ ad nL A H0 cells slots Q free) := by
  intro pc L st h i v hd hc k H locs ls hP hD hS hl hn
  exact lv_ldcw hx hb hown (hts _ (sm_ff hc rfl)) hd (k H locs ls hP hD hS hl hn)
theorem so_ldc2 (hx : p.tables.exec = Jvm.exec) (hb : c.code = b) (hml : c.maxLocals = nL) (hown : s.vm.findClass own = some m.cls) (hts : ∀ w ∈ sm_f, w.before args s = true) (hK : va_K G vwCl [(cI, .int), (cQ, .object "NineLies$Sheet")] s) (hfr : 1 ≤ R.frames) (hlo : 38 ≤ R.locals) (hcc : cells ≤ R.cells) (hss : slots ≤ R.slots) : ru_ldc2 own b (sm_AW p l e R s m args below meth c G cI cQ ad nL A H0 cells slots Q free) := by
  intro pc L st h i v hd hc k H locs ls hP hD hS hl hn
  exact lv_ldc2 hx hb hown (hts _ (sm_ff hc rfl)) hd (k H locs ls hP hD hS hl hn)
theorem so_iload (hx : p.tables.exec = Jvm.exec) (hb : c.code = b) (hml : c.maxLocals = nL) (hown : s.vm.findClass own = some m.cls) (hts : ∀ w ∈ sm_f, w.before args s = true) (hK : va_K G vwCl [(cI, .int), (cQ, .object "NineLies$Sheet")] s) (hfr : 1 ≤ R.frames) (hlo : 38 ≤ R.locals) (hcc : cells ≤ R.cells) (hss : slots ≤ R.slots) : ru_iload own b (sm_AW p l e R s m args below meth c G cI cQ ad nL A H0 cells slots Q free) := by
  intro pc L st h i x hd hL k H locs ls hP hD hS hl hn
  exact lv_iload hx hb hd (sm_at hl hL) (k H locs ls hP hD hS hl hn)
theorem so_iload_n (hx : p.tables.exec = Jvm.exec) (hb : c.code = b) (hml : c.maxLocals = nL) (hown : s.vm.findClass own = some m.cls) (hts : ∀ w ∈ sm_f, w.before args s = true) (hK : va_K G vwCl [(cI, .int), (cQ, .object "NineLies$Sheet")] s) (hfr : 1 ≤ R.frames) (hlo : 38 ≤ R.locals) (hcc : cells ≤ R.cells) (hss : slots ≤ R.slots) : ru_iload_n own b (sm_AW p l e R s m args below meth c G cI cQ ad nL A H0 cells slots Q free) := by
  intro pc L st h i x hd hL k H locs ls hP hD hS hl hn
  exact lv_iload_n hx hb hd rfl (sm_at hl hL) (k H locs ls hP hD hS hl hn)
theorem so_lload (hx : p.tables.exec = Jvm.exec) (hb : c.code = b) (hml : c.maxLocals = nL) (hown : s.vm.findClass own = some m.cls) (hts : ∀ w ∈ sm_f, w.before args s = true) (hK : va_K G vwCl [(cI, .int), (cQ, .object "NineLies$Sheet")] s) (hfr : 1 ≤ R.frames) (hlo : 38 ≤ R.locals) (hcc : cells ≤ R.cells) (hss : slots ≤ R.slots) : ru_lload own b (sm_AW p l e R s m args below meth c G cI cQ ad nL A H0 cells slots Q free) := by
  intro pc L st h i x hd hL k H locs ls hP hD hS hl hn
  exact lv_lload hx hb hd (sm_at hl hL) (k H locs ls hP hD hS hl hn)
theorem so_lload_n (hx : p.tables.exec = Jvm.exec) (hb : c.code = b) (hml : c.maxLocals = nL) (hown : s.vm.findClass own = some m.cls) (hts : ∀ w ∈ sm_f, w.before args s = true) (hK : va_K G vwCl [(cI, .int), (cQ, .object "NineLies$Sheet")] s) (hfr : 1 ≤ R.frames) (hlo : 38 ≤ R.locals) (hcc : cells ≤ R.cells) (hss : slots ≤ R.slots) : ru_lload_n own b (sm_AW p l e R s m args below meth c G cI cQ ad nL A H0 cells slots Q free) := by
  intro pc L st h i x hd hL k H locs ls hP hD hS hl hn
  exact lv_lload_n hx hb hd rfl (sm_at hl hL) (k H locs ls hP hD hS hl hn)
theorem so_aload (hx : p.tables.exec = Jvm.exec) (hb : c.code = b) (hml : c.maxLocals = nL) (hown : s.vm.findClass own = some m.cls) (hts : ∀ w ∈ sm_f, w.before args s = true) (hK : va_K G vwCl [(cI, .int), (cQ, .object "NineLies$Sheet")] s) (hfr : 1 ≤ R.frames) (hlo : 38 ≤ R.locals) (hcc : cells ≤ R.cells) (hss : slots ≤ R.slots) : ru_aload own b (sm_AW p l e R s m args below meth c G cI cQ ad nL A H0 cells slots Q free) := by
  intro pc L st h i x hd hL k H locs ls hP hD hS hl hn
  exact lv_aload hx hb hd (sm_at hl hL) (k H locs ls hP hD hS hl hn)
theorem so_aload_n (hx : p.tables.exec = Jvm.exec) (hb : c.code = b) (hml : c.maxLocals = nL) (hown : s.vm.findClass own = some m.cls) (hts : ∀ w ∈ sm_f, w.before args s = true) (hK : va_K G vwCl [(cI, .int), (cQ, .object "NineLies$Sheet")] s) (hfr : 1 ≤ R.frames) (hlo : 38 ≤ R.locals) (hcc : cells ≤ R.cells) (hss : slots ≤ R.slots) : ru_aload_n own b (sm_AW p l e R s m args below meth c G cI cQ ad nL A H0 cells slots Q free) := by
  intro pc L st h i x hd hL k H locs ls hP hD hS hl hn
  exact lv_aload_n hx hb hd rfl (sm_at hl hL) (k H locs ls hP hD hS hl hn)
theorem so_aloadN (hx : p.tables.exec = Jvm.exec) (hb : c.code = b) (hml : c.maxLocals = nL) (hown : s.vm.findClass own = some m.cls) (hts : ∀ w ∈ sm_f, w.before args s = true) (hK : va_K G vwCl [(cI, .int), (cQ, .object "NineLies$Sheet")] s) (hfr : 1 ≤ R.frames) (hlo : 38 ≤ R.locals) (hcc : cells ≤ R.cells) (hss : slots ≤ R.slots) : ru_aloadN own b (sm_AW p l e R s m args below meth c G cI cQ ad nL A H0 cells slots Q free) := by
  intro pc L st h i hd hL k H locs ls hP hD hS hl hn
  exact lv_aloadN hx hb hd (sm_at hl hL) (k H locs ls hP hD hS hl hn)
theorem so_aload_nN (hx : p.tables.exec = Jvm.exec) (hb : c.code = b) (hml : c.maxLocals = nL) (hown : s.vm.findClass own = some m.cls) (hts : ∀ w ∈ sm_f, w.before args s = true) (hK : va_K G vwCl [(cI, .int), (cQ, .object "NineLies$Sheet")] s) (hfr : 1 ≤ R.frames) (hlo : 38 ≤ R.locals) (hcc : cells ≤ R.cells) (hss : slots ≤ R.slots) : ru_aload_nN own b (sm_AW p l e R s m args below meth c G cI cQ ad nL A H0 cells slots Q free) := by
  intro pc L st h i hd hL k H locs ls hP hD hS hl hn
  exact lv_aload_nN hx hb hd rfl (sm_at hl hL) (k H locs ls hP hD hS hl hn)
theorem so_istore (hx : p.tables.exec = Jvm.exec) (hb : c.code = b) (hml : c.maxLocals = nL) (hown : s.vm.findClass own = some m.cls) (hts : ∀ w ∈ sm_f, w.before args s = true) (hK : va_K G vwCl [(cI, .int), (cQ, .object "NineLies$Sheet")] s) (hfr : 1 ≤ R.frames) (hlo : 38 ≤ R.locals) (hcc : cells ≤ R.cells) (hss : slots ≤ R.slots) : ru_istore own b (sm_AW p l e R s m args below meth c G cI cQ ad nL A H0 cells slots Q free) := by
  intro pc L st h i x hd hi ho k H locs ls hP hD hS hl hn
  exact lv_istore hx hb hd hl (hn ▸ hi) rfl (fun ls hl => k H locs ls hP hD hS (sm_put hl ho) (by rw [List.length_set]; exact hn))
theorem so_istore_n (hx : p.tables.exec = Jvm.exec) (hb : c.code = b) (hml : c.maxLocals = nL) (hown : s.vm.findClass own = some m.cls) (hts : ∀ w ∈ sm_f, w.before args s = true) (hK : va_K G vwCl [(cI, .int), (cQ, .object "NineLies$Sheet")] s) (hfr : 1 ≤ R.frames) (hlo : 38 ≤ R.locals) (hcc : cells ≤ R.cells) (hss : slots ≤ R.slots) : ru_istore_n own b (sm_AW p l e R s m args below meth c G cI cQ ad nL A H0 cells slots Q free) := by
  intro pc L st h i x hd hi ho k H locs ls hP hD hS hl hn
  exact lv_istore_n hx hb hd rfl hl (hn ▸ hi) rfl (fun ls hl => k H locs ls hP hD hS (sm_put hl ho) (by rw [List.length_set]; exact hn))
theorem so_astore (hx : p.tables.exec = Jvm.exec) (hb : c.code = b) (hml : c.maxLocals = nL) (hown : s.vm.findClass own = some m.cls) (hts : ∀ w ∈ sm_f, w.before args s = true) (hK : va_K G vwCl [(cI, .int), (cQ, .object "NineLies$Sheet")] s) (hfr : 1 ≤ R.frames) (hlo : 38 ≤ R.locals) (hcc : cells ≤ R.cells) (hss : slots ≤ R.slots) : ru_astore own b (sm_AW p l e R s m args below meth c G cI cQ ad nL A H0 cells slots Q free) := by
  intro pc L st h i x hd hi ho k H locs ls hP hD hS hl hn
  exact lv_astore hx hb hd hl (hn ▸ hi) rfl (fun ls hl => k H locs ls hP hD hS (sm_put hl ho) (by rw [List.length_set]; exact hn))
theorem so_astore_n (hx : p.tables.exec = Jvm.exec) (hb : c.code = b) (hml : c.maxLocals = nL) (hown : s.vm.findClass own = some m.cls) (hts : ∀ w ∈ sm_f, w.before args s = true) (hK : va_K G vwCl [(cI, .int), (cQ, .object "NineLies$Sheet")] s) (hfr : 1 ≤ R.frames) (hlo : 38 ≤ R.locals) (hcc : cells ≤ R.cells) (hss : slots ≤ R.slots) : ru_astore_n own b (sm_AW p l e R s m args below meth c G cI cQ ad nL A H0 cells slots Q free) := by
  intro pc L st h i x hd hi ho k H locs ls hP hD hS hl hn
  exact lv_astore_n hx hb hd rfl hl (hn ▸ hi) rfl (fun ls hl => k H locs ls hP hD hS (sm_put hl ho) (by rw [List.length_set]; exact hn))
theorem so_astoreN (hx : p.tables.exec = Jvm.exec) (hb : c.code = b) (hml : c.maxLocals = nL) (hown : s.vm.findClass own = some m.cls) (hts : ∀ w ∈ sm_f, w.before args s = true) (hK : va_K G vwCl [(cI, .int), (cQ, .object "NineLies$Sheet")] s) (hfr : 1 ≤ R.frames) (hlo : 38 ≤ R.locals) (hcc : cells ≤ R.cells) (hss : slots ≤ R.slots) : ru_astoreN own b (sm_AW p l e R s m args below meth c G cI cQ ad nL A H0 cells slots Q free) := by
  intro pc L st h i hd hi ho k H locs ls hP hD hS hl hn
  exact lv_astoreN hx hb hd hl (hn ▸ hi) rfl (fun ls hl => k H locs ls hP hD hS (sm_put hl ho) (by rw [List.length_set]; exact hn))
theorem so_astore_nN (hx : p.tables.exec = Jvm.exec) (hb : c.code = b) (hml : c.maxLocals = nL) (hown : s.vm.findClass own = some m.cls) (hts : ∀ w ∈ sm_f, w.before args s = true) (hK : va_K G vwCl [(cI, .int), (cQ, .object "NineLies$Sheet")] s) (hfr : 1 ≤ R.frames) (hlo : 38 ≤ R.locals) (hcc : cells ≤ R.cells) (hss : slots ≤ R.slots) : ru_astore_nN own b (sm_AW p l e R s m args below meth c G cI cQ ad nL A H0 cells slots Q free) := by
  intro pc L st h i hd hi ho k H locs ls hP hD hS hl hn
  exact lv_astore_nN hx hb hd rfl hl (hn ▸ hi) rfl (fun ls hl => k H locs ls hP hD hS (sm_put hl ho) (by rw [List.length_set]; exact hn))
theorem so_iinc (hx : p.tables.exec = Jvm.exec) (hb : c.code = b) (hml : c.maxLocals = nL) (hown : s.vm.findClass own = some m.cls) (hts : ∀ w ∈ sm_f, w.before args s = true) (hK : va_K G vwCl [(cI, .int), (cQ, .object "NineLies$Sheet")] s) (hfr : 1 ≤ R.frames) (hlo : 38 ≤ R.locals) (hcc : cells ≤ R.cells) (hss : slots ≤ R.slots) : ru_iinc own b (sm_AW p l e R s m args below meth c G cI cQ ad nL A H0 cells slots Q free) := by
  intro pc L st h i n x v hd hL hv ho k H locs ls hP hD hS hl hn
  obtain ⟨j, hj⟩ := sm_in hL (ad := ad)
  exact lv_iinc hx hb hd hl hj hv (hn ▸ (List.getElem?_eq_some_iff.mp hL).1) rfl (fun ls hl => k H locs ls hP hD hS (sm_put hl ho) (by rw [List.length_set]; exact hn))
theorem so_iadd (hx : p.tables.exec = Jvm.exec) (hb : c.code = b) (hml : c.maxLocals = nL) (hown : s.vm.findClass own = some m.cls) (hts : ∀ w ∈ sm_f, w.before args s = true) (hK : va_K G vwCl [(cI, .int), (cQ, .object "NineLies$Sheet")] s) (hfr : 1 ≤ R.frames) (hlo : 38 ≤ R.locals) (hcc : cells ≤ R.cells) (hss : slots ≤ R.slots) : ru_iadd own b (sm_AW p l e R s m args below meth c G cI cQ ad nL A H0 cells slots Q free) := by
  intro pc L st h x y hd k H locs ls hP hD hS hl hn
  exact lv_iadd hx hb hd (k H locs ls hP hD hS hl hn)
theorem so_isub (hx : p.tables.exec = Jvm.exec) (hb : c.code = b) (hml : c.maxLocals = nL) (hown : s.vm.findClass own = some m.cls) (hts : ∀ w ∈ sm_f, w.before args s = true) (hK : va_K G vwCl [(cI, .int), (cQ, .object "NineLies$Sheet")] s) (hfr : 1 ≤ R.frames) (hlo : 38 ≤ R.locals) (hcc : cells ≤ R.cells) (hss : slots ≤ R.slots) : ru_isub own b (sm_AW p l e R s m args below meth c G cI cQ ad nL A H0 cells slots Q free) := by
  intro pc L st h x y hd k H locs ls hP hD hS hl hn
  exact lv_isub hx hb hd (k H locs ls hP hD hS hl hn)
theorem so_imul (hx : p.tables.exec = Jvm.exec) (hb : c.code = b) (hml : c.maxLocals = nL) (hown : s.vm.findClass own = some m.cls) (hts : ∀ w ∈ sm_f, w.before args s = true) (hK : va_K G vwCl [(cI, .int), (cQ, .object "NineLies$Sheet")] s) (hfr : 1 ≤ R.frames) (hlo : 38 ≤ R.locals) (hcc : cells ≤ R.cells) (hss : slots ≤ R.slots) : ru_imul own b (sm_AW p l e R s m args below meth c G cI cQ ad nL A H0 cells slots Q free) := by
  intro pc L st h x y hd k H locs ls hP hD hS hl hn
  exact lv_imul hx hb hd (k H locs ls hP hD hS hl hn)
theorem so_iand (hx : p.tables.exec = Jvm.exec) (hb : c.code = b) (hml : c.maxLocals = nL) (hown : s.vm.findClass own = some m.cls) (hts : ∀ w ∈ sm_f, w.before args s = true) (hK : va_K G vwCl [(cI, .int), (cQ, .object "NineLies$Sheet")] s) (hfr : 1 ≤ R.frames) (hlo : 38 ≤ R.locals) (hcc : cells ≤ R.cells) (hss : slots ≤ R.slots) : ru_iand own b (sm_AW p l e R s m args below meth c G cI cQ ad nL A H0 cells slots Q free) := by
  intro pc L st h x y hd k H locs ls hP hD hS hl hn
  exact lv_iand hx hb hd (k H locs ls hP hD hS hl hn)
theorem so_ior (hx : p.tables.exec = Jvm.exec) (hb : c.code = b) (hml : c.maxLocals = nL) (hown : s.vm.findClass own = some m.cls) (hts : ∀ w ∈ sm_f, w.before args s = true) (hK : va_K G vwCl [(cI, .int), (cQ, .object "NineLies$Sheet")] s) (hfr : 1 ≤ R.frames) (hlo : 38 ≤ R.locals) (hcc : cells ≤ R.cells) (hss : slots ≤ R.slots) : ru_ior own b (sm_AW p l e R s m args below meth c G cI cQ ad nL A H0 cells slots Q free) := by
  intro pc L st h x y hd k H locs ls hP hD hS hl hn
  exact lv_ior hx hb hd (k H locs ls hP hD hS hl hn)
theorem so_ixor (hx : p.tables.exec = Jvm.exec) (hb : c.code = b) (hml : c.maxLocals = nL) (hown : s.vm.findClass own = some m.cls) (hts : ∀ w ∈ sm_f, w.before args s = true) (hK : va_K G vwCl [(cI, .int), (cQ, .object "NineLies$Sheet")] s) (hfr : 1 ≤ R.frames) (hlo : 38 ≤ R.locals) (hcc : cells ≤ R.cells) (hss : slots ≤ R.slots) : ru_ixor own b (sm_AW p l e R s m args below meth c G cI cQ ad nL A H0 cells slots Q free) := by
  intro pc L st h x y hd k H locs ls hP hD hS hl hn
  exact lv_ixor hx hb hd (k H locs ls hP hD hS hl hn)
theorem so_ishl (hx : p.tables.exec = Jvm.exec) (hb : c.code = b) (hml : c.maxLocals = nL) (hown : s.vm.findClass own = some m.cls) (hts : ∀ w ∈ sm_f, w.before args s = true) (hK : va_K G vwCl [(cI, .int), (cQ, .object "NineLies$Sheet")] s) (hfr : 1 ≤ R.frames) (hlo : 38 ≤ R.locals) (hcc : cells ≤ R.cells) (hss : slots ≤ R.slots) : ru_ishl own b (sm_AW p l e R s m args below meth c G cI cQ ad nL A H0 cells slots Q free) := by
  intro pc L st h x y hd k H locs ls hP hD hS hl hn
  exact lv_ishl hx hb hd (k H locs ls hP hD hS hl hn)
theorem so_ishr (hx : p.tables.exec = Jvm.exec) (hb : c.code = b) (hml : c.maxLocals = nL) (hown : s.vm.findClass own = some m.cls) (hts : ∀ w ∈ sm_f, w.before args s = true) (hK : va_K G vwCl [(cI, .int), (cQ, .object "NineLies$Sheet")] s) (hfr : 1 ≤ R.frames) (hlo : 38 ≤ R.locals) (hcc : cells ≤ R.cells) (hss : slots ≤ R.slots) : ru_ishr own b (sm_AW p l e R s m args below meth c G cI cQ ad nL A H0 cells slots Q free) := by
  intro pc L st h x y hd k H locs ls hP hD hS hl hn
  exact lv_ishr hx hb hd (k H locs ls hP hD hS hl hn)
theorem so_iushr (hx : p.tables.exec = Jvm.exec) (hb : c.code = b) (hml : c.maxLocals = nL) (hown : s.vm.findClass own = some m.cls) (hts : ∀ w ∈ sm_f, w.before args s = true) (hK : va_K G vwCl [(cI, .int), (cQ, .object "NineLies$Sheet")] s) (hfr : 1 ≤ R.frames) (hlo : 38 ≤ R.locals) (hcc : cells ≤ R.cells) (hss : slots ≤ R.slots) : ru_iushr own b (sm_AW p l e R s m args below meth c G cI cQ ad nL A H0 cells slots Q free) := by
  intro pc L st h x y hd k H locs ls hP hD hS hl hn
  exact lv_iushr hx hb hd rfl (k H locs ls hP hD hS hl hn)
theorem so_ineg (hx : p.tables.exec = Jvm.exec) (hb : c.code = b) (hml : c.maxLocals = nL) (hown : s.vm.findClass own = some m.cls) (hts : ∀ w ∈ sm_f, w.before args s = true) (hK : va_K G vwCl [(cI, .int), (cQ, .object "NineLies$Sheet")] s) (hfr : 1 ≤ R.frames) (hlo : 38 ≤ R.locals) (hcc : cells ≤ R.cells) (hss : slots ≤ R.slots) : ru_ineg own b (sm_AW p l e R s m args below meth c G cI cQ ad nL A H0 cells slots Q free) := by
  intro pc L st h x hd k H locs ls hP hD hS hl hn
  exact lv_ineg hx hb hd (k H locs ls hP hD hS hl hn)
theorem so_idiv (hx : p.tables.exec = Jvm.exec) (hb : c.code = b) (hml : c.maxLocals = nL) (hown : s.vm.findClass own = some m.cls) (hts : ∀ w ∈ sm_f, w.before args s = true) (hK : va_K G vwCl [(cI, .int), (cQ, .object "NineLies$Sheet")] s) (hfr : 1 ≤ R.frames) (hlo : 38 ≤ R.locals) (hcc : cells ≤ R.cells) (hss : slots ≤ R.slots) : ru_idiv own b (sm_AW p l e R s m args below meth c G cI cQ ad nL A H0 cells slots Q free) := by
  intro pc L st h x y hd hy k H locs ls hP hD hS hl hn
  exact lv_idiv hx hb hd hy (k H locs ls hP hD hS hl hn)
theorem so_irem (hx : p.tables.exec = Jvm.exec) (hb : c.code = b) (hml : c.maxLocals = nL) (hown : s.vm.findClass own = some m.cls) (hts : ∀ w ∈ sm_f, w.before args s = true) (hK : va_K G vwCl [(cI, .int), (cQ, .object "NineLies$Sheet")] s) (hfr : 1 ≤ R.frames) (hlo : 38 ≤ R.locals) (hcc : cells ≤ R.cells) (hss : slots ≤ R.slots) : ru_irem own b (sm_AW p l e R s m args below meth c G cI cQ ad nL A H0 cells slots Q free) := by
  intro pc L st h x y hd hy k H locs ls hP hD hS hl hn
  exact lv_irem hx hb hd hy (k H locs ls hP hD hS hl hn)
theorem so_ladd (hx : p.tables.exec = Jvm.exec) (hb : c.code = b) (hml : c.maxLocals = nL) (hown : s.vm.findClass own = some m.cls) (hts : ∀ w ∈ sm_f, w.before args s = true) (hK : va_K G vwCl [(cI, .int), (cQ, .object "NineLies$Sheet")] s) (hfr : 1 ≤ R.frames) (hlo : 38 ≤ R.locals) (hcc : cells ≤ R.cells) (hss : slots ≤ R.slots) : ru_ladd own b (sm_AW p l e R s m args below meth c G cI cQ ad nL A H0 cells slots Q free) := by
  intro pc L st h x y hd k H locs ls hP hD hS hl hn
  exact lv_ladd hx hb hd (k H locs ls hP hD hS hl hn)
theorem so_lmul (hx : p.tables.exec = Jvm.exec) (hb : c.code = b) (hml : c.maxLocals = nL) (hown : s.vm.findClass own = some m.cls) (hts : ∀ w ∈ sm_f, w.before args s = true) (hK : va_K G vwCl [(cI, .int), (cQ, .object "NineLies$Sheet")] s) (hfr : 1 ≤ R.frames) (hlo : 38 ≤ R.locals) (hcc : cells ≤ R.cells) (hss : slots ≤ R.slots) : ru_lmul own b (sm_AW p l e R s m args below meth c G cI cQ ad nL A H0 cells slots Q free) := by
  intro pc L st h x y hd k H locs ls hP hD hS hl hn
  exact lv_lmul hx hb hd (k H locs ls hP hD hS hl hn)
theorem so_land (hx : p.tables.exec = Jvm.exec) (hb : c.code = b) (hml : c.maxLocals = nL) (hown : s.vm.findClass own = some m.cls) (hts : ∀ w ∈ sm_f, w.before args s = true) (hK : va_K G vwCl [(cI, .int), (cQ, .object "NineLies$Sheet")] s) (hfr : 1 ≤ R.frames) (hlo : 38 ≤ R.locals) (hcc : cells ≤ R.cells) (hss : slots ≤ R.slots) : ru_land own b (sm_AW p l e R s m args below meth c G cI cQ ad nL A H0 cells slots Q free) := by
  intro pc L st h x y hd k H locs ls hP hD hS hl hn
  exact lv_land hx hb hd (k H locs ls hP hD hS hl hn)
theorem so_lor (hx : p.tables.exec = Jvm.exec) (hb : c.code = b) (hml : c.maxLocals = nL) (hown : s.vm.findClass own = some m.cls) (hts : ∀ w ∈ sm_f, w.before args s = true) (hK : va_K G vwCl [(cI, .int), (cQ, .object "NineLies$Sheet")] s) (hfr : 1 ≤ R.frames) (hlo : 38 ≤ R.locals) (hcc : cells ≤ R.cells) (hss : slots ≤ R.slots) : ru_lor own b (sm_AW p l e R s m args below meth c G cI cQ ad nL A H0 cells slots Q free) := by
  intro pc L st h x y hd k H locs ls hP hD hS hl hn
  exact lv_lor hx hb hd (k H locs ls hP hD hS hl hn)
theorem so_lcmp (hx : p.tables.exec = Jvm.exec) (hb : c.code = b) (hml : c.maxLocals = nL) (hown : s.vm.findClass own = some m.cls) (hts : ∀ w ∈ sm_f, w.before args s = true) (hK : va_K G vwCl [(cI, .int), (cQ, .object "NineLies$Sheet")] s) (hfr : 1 ≤ R.frames) (hlo : 38 ≤ R.locals) (hcc : cells ≤ R.cells) (hss : slots ≤ R.slots) : ru_lcmp own b (sm_AW p l e R s m args below meth c G cI cQ ad nL A H0 cells slots Q free) := by
  intro pc L st h x y hd k H locs ls hP hD hS hl hn
  exact W.lcmp hx hb hd (k H locs ls hP hD hS hl hn)
theorem so_lshl (hx : p.tables.exec = Jvm.exec) (hb : c.code = b) (hml : c.maxLocals = nL) (hown : s.vm.findClass own = some m.cls) (hts : ∀ w ∈ sm_f, w.before args s = true) (hK : va_K G vwCl [(cI, .int), (cQ, .object "NineLies$Sheet")] s) (hfr : 1 ≤ R.frames) (hlo : 38 ≤ R.locals) (hcc : cells ≤ R.cells) (hss : slots ≤ R.slots) : ru_lshl own b (sm_AW p l e R s m args below meth c G cI cQ ad nL A H0 cells slots Q free) := by
  intro pc L st h x y hd k H locs ls hP hD hS hl hn
  exact lv_lshl hx hb hd rfl (k H locs ls hP hD hS hl hn)
theorem so_lshr (hx : p.tables.exec = Jvm.exec) (hb : c.code = b) (hml : c.maxLocals = nL) (hown : s.vm.findClass own = some m.cls) (hts : ∀ w ∈ sm_f, w.before args s = true) (hK : va_K G vwCl [(cI, .int), (cQ, .object "NineLies$Sheet")] s) (hfr : 1 ≤ R.frames) (hlo : 38 ≤ R.locals) (hcc : cells ≤ R.cells) (hss : slots ≤ R.slots) : ru_lshr own b (sm_AW p l e R s m args below meth c G cI cQ ad nL A H0 cells slots Q free) := by
  intro pc L st h x y hd k H locs ls hP hD hS hl hn
  exact lv_lshr hx hb hd rfl (k H locs ls hP hD hS hl hn)
theorem so_lushr (hx : p.tables.exec = Jvm.exec) (hb : c.code = b) (hml : c.maxLocals = nL) (hown : s.vm.findClass own = some m.cls) (hts : ∀ w ∈ sm_f, w.before args s = true) (hK : va_K G vwCl [(cI, .int), (cQ, .object "NineLies$Sheet")] s) (hfr : 1 ≤ R.frames) (hlo : 38 ≤ R.locals) (hcc : cells ≤ R.cells) (hss : slots ≤ R.slots) : ru_lushr own b (sm_AW p l e R s m args below meth c G cI cQ ad nL A H0 cells slots Q free) := by
  intro pc L st h x y hd k H locs ls hP hD hS hl hn
  exact lv_lushr hx hb hd rfl (k H locs ls hP hD hS hl hn)
theorem so_i2l (hx : p.tables.exec = Jvm.exec) (hb : c.code = b) (hml : c.maxLocals = nL) (hown : s.vm.findClass own = some m.cls) (hts : ∀ w ∈ sm_f, w.before args s = true) (hK : va_K G vwCl [(cI, .int), (cQ, .object "NineLies$Sheet")] s) (hfr : 1 ≤ R.frames) (hlo : 38 ≤ R.locals) (hcc : cells ≤ R.cells) (hss : slots ≤ R.slots) : ru_i2l own b (sm_AW p l e R s m args below meth c G cI cQ ad nL A H0 cells slots Q free) := by
  intro pc L st h x hd k H locs ls hP hD hS hl hn
  exact lv_i2l hx hb hd rfl (k H locs ls hP hD hS hl hn)
theorem so_l2i (hx : p.tables.exec = Jvm.exec) (hb : c.code = b) (hml : c.maxLocals = nL) (hown : s.vm.findClass own = some m.cls) (hts : ∀ w ∈ sm_f, w.before args s = true) (hK : va_K G vwCl [(cI, .int), (cQ, .object "NineLies$Sheet")] s) (hfr : 1 ≤ R.frames) (hlo : 38 ≤ R.locals) (hcc : cells ≤ R.cells) (hss : slots ≤ R.slots) : ru_l2i own b (sm_AW p l e R s m args below meth c G cI cQ ad nL A H0 cells slots Q free) := by
  intro pc L st h x hd k H locs ls hP hD hS hl hn
  exact lv_l2i hx hb hd rfl (k H locs ls hP hD hS hl hn)
theorem so_i2b (hx : p.tables.exec = Jvm.exec) (hb : c.code = b) (hml : c.maxLocals = nL) (hown : s.vm.findClass own = some m.cls) (hts : ∀ w ∈ sm_f, w.before args s = true) (hK : va_K G vwCl [(cI, .int), (cQ, .object "NineLies$Sheet")] s) (hfr : 1 ≤ R.frames) (hlo : 38 ≤ R.locals) (hcc : cells ≤ R.cells) (hss : slots ≤ R.slots) : ru_i2b own b (sm_AW p l e R s m args below meth c G cI cQ ad nL A H0 cells slots Q free) := by
  intro pc L st h x hd k H locs ls hP hD hS hl hn
  exact lv_i2b hx hb hd rfl (k H locs ls hP hD hS hl hn)
theorem so_i2s (hx : p.tables.exec = Jvm.exec) (hb : c.code = b) (hml : c.maxLocals = nL) (hown : s.vm.findClass own = some m.cls) (hts : ∀ w ∈ sm_f, w.before args s = true) (hK : va_K G vwCl [(cI, .int), (cQ, .object "NineLies$Sheet")] s) (hfr : 1 ≤ R.frames) (hlo : 38 ≤ R.locals) (hcc : cells ≤ R.cells) (hss : slots ≤ R.slots) : ru_i2s own b (sm_AW p l e R s m args below meth c G cI cQ ad nL A H0 cells slots Q free) := by
  intro pc L st h x hd k H locs ls hP hD hS hl hn
  exact lv_i2s hx hb hd rfl (k H locs ls hP hD hS hl hn)
theorem so_dup (hx : p.tables.exec = Jvm.exec) (hb : c.code = b) (hml : c.maxLocals = nL) (hown : s.vm.findClass own = some m.cls) (hts : ∀ w ∈ sm_f, w.before args s = true) (hK : va_K G vwCl [(cI, .int), (cQ, .object "NineLies$Sheet")] s) (hfr : 1 ≤ R.frames) (hlo : 38 ≤ R.locals) (hcc : cells ≤ R.cells) (hss : slots ≤ R.slots) : ru_dup own b (sm_AW p l e R s m args below meth c G cI cQ ad nL A H0 cells slots Q free) := by
  intro pc L st h v hd hc k H locs ls hP hD hS hl hn
  exact lv_dup hx hb hd (sm_cat hc) (k H locs ls hP hD hS hl hn)
theorem so_pop (hx : p.tables.exec = Jvm.exec) (hb : c.code = b) (hml : c.maxLocals = nL) (hown : s.vm.findClass own = some m.cls) (hts : ∀ w ∈ sm_f, w.before args s = true) (hK : va_K G vwCl [(cI, .int), (cQ, .object "NineLies$Sheet")] s) (hfr : 1 ≤ R.frames) (hlo : 38 ≤ R.locals) (hcc : cells ≤ R.cells) (hss : slots ≤ R.slots) : ru_pop own b (sm_AW p l e R s m args below meth c G cI cQ ad nL A H0 cells slots Q free) := by
  intro pc L st h v hd hc k H locs ls hP hD hS hl hn
  exact lv_pop hx hb hd (sm_cat hc) (k H locs ls hP hD hS hl hn)
theorem so_dup2 (hx : p.tables.exec = Jvm.exec) (hb : c.code = b) (hml : c.maxLocals = nL) (hown : s.vm.findClass own = some m.cls) (hts : ∀ w ∈ sm_f, w.before args s = true) (hK : va_K G vwCl [(cI, .int), (cQ, .object "NineLies$Sheet")] s) (hfr : 1 ≤ R.frames) (hlo : 38 ≤ R.locals) (hcc : cells ≤ R.cells) (hss : slots ≤ R.slots) : ru_dup2 own b (sm_AW p l e R s m args below meth c G cI cQ ad nL A H0 cells slots Q free) := by
  intro pc L st h v w hd hc hc2 k H locs ls hP hD hS hl hn
  exact lv_dup2_11 hx hb hd (sm_cat hc) (sm_cat hc2) (k H locs ls hP hD hS hl hn)
theorem so_if_eq (hx : p.tables.exec = Jvm.exec) (hb : c.code = b) (hml : c.maxLocals = nL) (hown : s.vm.findClass own = some m.cls) (hts : ∀ w ∈ sm_f, w.before args s = true) (hK : va_K G vwCl [(cI, .int), (cQ, .object "NineLies$Sheet")] s) (hfr : 1 ≤ R.frames) (hlo : 38 ≤ R.locals) (hcc : cells ≤ R.cells) (hss : slots ≤ R.slots) : ru_if_eq own b (sm_AW p l e R s m args below meth c G cI cQ ad nL A H0 cells slots Q free) := by
  intro pc L st h x off tgt hd ht k1 k2 H locs ls hP hD hS hl hn
  exact lv_if_eq hx hb hd ht (fun q => k1 q H locs ls hP hD hS hl hn) (fun q => k2 q H locs ls hP hD hS hl hn)
theorem so_icmp_eq (hx : p.tables.exec = Jvm.exec) (hb : c.code = b) (hml : c.maxLocals = nL) (hown : s.vm.findClass own = some m.cls) (hts : ∀ w ∈ sm_f, w.before args s = true) (hK : va_K G vwCl [(cI, .int), (cQ, .object "NineLies$Sheet")] s) (hfr : 1 ≤ R.frames) (hlo : 38 ≤ R.locals) (hcc : cells ≤ R.cells) (hss : slots ≤ R.slots) : ru_icmp_eq own b (sm_AW p l e R s m args below meth c G cI cQ ad nL A H0 cells slots Q free) := by
  intro pc L st h x y off tgt hd ht k1 k2 H locs ls hP hD hS hl hn
  exact lv_icmp_eq hx hb hd ht (fun q => k1 q H locs ls hP hD hS hl hn) (fun q => k2 q H locs ls hP hD hS hl hn)
theorem so_if_ne (hx : p.tables.exec = Jvm.exec) (hb : c.code = b) (hml : c.maxLocals = nL) (hown : s.vm.findClass own = some m.cls) (hts : ∀ w ∈ sm_f, w.before args s = true) (hK : va_K G vwCl [(cI, .int), (cQ, .object "NineLies$Sheet")] s) (hfr : 1 ≤ R.frames) (hlo : 38 ≤ R.locals) (hcc : cells ≤ R.cells) (hss : slots ≤ R.slots) : ru_if_ne own b (sm_AW p l e R s m args below meth c G cI cQ ad nL A H0 cells slots Q free) := by
  intro pc L st h x off tgt hd ht k1 k2 H locs ls hP hD hS hl hn
  exact lv_if_ne hx hb hd ht (fun q => k1 q H locs ls hP hD hS hl hn) (fun q => k2 q H locs ls hP hD hS hl hn)
theorem so_icmp_ne (hx : p.tables.exec = Jvm.exec) (hb : c.code = b) (hml : c.maxLocals = nL) (hown : s.vm.findClass own = some m.cls) (hts : ∀ w ∈ sm_f, w.before args s = true) (hK : va_K G vwCl [(cI, .int), (cQ, .object "NineLies$Sheet")] s) (hfr : 1 ≤ R.frames) (hlo : 38 ≤ R.locals) (hcc : cells ≤ R.cells) (hss : slots ≤ R.slots) : ru_icmp_ne own b (sm_AW p l e R s m args below meth c G cI cQ ad nL A H0 cells slots Q free) := by
  intro pc L st h x y off tgt hd ht k1 k2 H locs ls hP hD hS hl hn
  exact lv_icmp_ne hx hb hd ht (fun q => k1 q H locs ls hP hD hS hl hn) (fun q => k2 q H locs ls hP hD hS hl hn)
theorem so_if_lt (hx : p.tables.exec = Jvm.exec) (hb : c.code = b) (hml : c.maxLocals = nL) (hown : s.vm.findClass own = some m.cls) (hts : ∀ w ∈ sm_f, w.before args s = true) (hK : va_K G vwCl [(cI, .int), (cQ, .object "NineLies$Sheet")] s) (hfr : 1 ≤ R.frames) (hlo : 38 ≤ R.locals) (hcc : cells ≤ R.cells) (hss : slots ≤ R.slots) : ru_if_lt own b (sm_AW p l e R s m args below meth c G cI cQ ad nL A H0 cells slots Q free) := by
  intro pc L st h x off tgt hd ht k1 k2 H locs ls hP hD hS hl hn
  exact lv_if_lt hx hb hd ht (fun q => k1 q H locs ls hP hD hS hl hn) (fun q => k2 q H locs ls hP hD hS hl hn)
theorem so_icmp_lt (hx : p.tables.exec = Jvm.exec) (hb : c.code = b) (hml : c.maxLocals = nL) (hown : s.vm.findClass own = some m.cls) (hts : ∀ w ∈ sm_f, w.before args s = true) (hK : va_K G vwCl [(cI, .int), (cQ, .object "NineLies$Sheet")] s) (hfr : 1 ≤ R.frames) (hlo : 38 ≤ R.locals) (hcc : cells ≤ R.cells) (hss : slots ≤ R.slots) : ru_icmp_lt own b (sm_AW p l e R s m args below meth c G cI cQ ad nL A H0 cells slots Q free) := by
  intro pc L st h x y off tgt hd ht k1 k2 H locs ls hP hD hS hl hn
  exact lv_icmp_lt hx hb hd ht (fun q => k1 q H locs ls hP hD hS hl hn) (fun q => k2 q H locs ls hP hD hS hl hn)
theorem so_if_ge (hx : p.tables.exec = Jvm.exec) (hb : c.code = b) (hml : c.maxLocals = nL) (hown : s.vm.findClass own = some m.cls) (hts : ∀ w ∈ sm_f, w.before args s = true) (hK : va_K G vwCl [(cI, .int), (cQ, .object "NineLies$Sheet")] s) (hfr : 1 ≤ R.frames) (hlo : 38 ≤ R.locals) (hcc : cells ≤ R.cells) (hss : slots ≤ R.slots) : ru_if_ge own b (sm_AW p l e R s m args below meth c G cI cQ ad nL A H0 cells slots Q free) := by
  intro pc L st h x off tgt hd ht k1 k2 H locs ls hP hD hS hl hn
  exact lv_if_ge hx hb hd ht (fun q => k1 q H locs ls hP hD hS hl hn) (fun q => k2 q H locs ls hP hD hS hl hn)
theorem so_icmp_ge (hx : p.tables.exec = Jvm.exec) (hb : c.code = b) (hml : c.maxLocals = nL) (hown : s.vm.findClass own = some m.cls) (hts : ∀ w ∈ sm_f, w.before args s = true) (hK : va_K G vwCl [(cI, .int), (cQ, .object "NineLies$Sheet")] s) (hfr : 1 ≤ R.frames) (hlo : 38 ≤ R.locals) (hcc : cells ≤ R.cells) (hss : slots ≤ R.slots) : ru_icmp_ge own b (sm_AW p l e R s m args below meth c G cI cQ ad nL A H0 cells slots Q free) := by
  intro pc L st h x y off tgt hd ht k1 k2 H locs ls hP hD hS hl hn
  exact lv_icmp_ge hx hb hd ht (fun q => k1 q H locs ls hP hD hS hl hn) (fun q => k2 q H locs ls hP hD hS hl hn)
theorem so_if_gt (hx : p.tables.exec = Jvm.exec) (hb : c.code = b) (hml : c.maxLocals = nL) (hown : s.vm.findClass own = some m.cls) (hts : ∀ w ∈ sm_f, w.before args s = true) (hK : va_K G vwCl [(cI, .int), (cQ, .object "NineLies$Sheet")] s) (hfr : 1 ≤ R.frames) (hlo : 38 ≤ R.locals) (hcc : cells ≤ R.cells) (hss : slots ≤ R.slots) : ru_if_gt own b (sm_AW p l e R s m args below meth c G cI cQ ad nL A H0 cells slots Q free) := by
  intro pc L st h x off tgt hd ht k1 k2 H locs ls hP hD hS hl hn
  exact lv_if_gt hx hb hd ht (fun q => k1 q H locs ls hP hD hS hl hn) (fun q => k2 q H locs ls hP hD hS hl hn)
theorem so_icmp_gt (hx : p.tables.exec = Jvm.exec) (hb : c.code = b) (hml : c.maxLocals = nL) (hown : s.vm.findClass own = some m.cls) (hts : ∀ w ∈ sm_f, w.before args s = true) (hK : va_K G vwCl [(cI, .int), (cQ, .object "NineLies$Sheet")] s) (hfr : 1 ≤ R.frames) (hlo : 38 ≤ R.locals) (hcc : cells ≤ R.cells) (hss : slots ≤ R.slots) : ru_icmp_gt own b (sm_AW p l e R s m args below meth c G cI cQ ad nL A H0 cells slots Q free) := by
  intro pc L st h x y off tgt hd ht k1 k2 H locs ls hP hD hS hl hn
  exact lv_icmp_gt hx hb hd ht (fun q => k1 q H locs ls hP hD hS hl hn) (fun q => k2 q H locs ls hP hD hS hl hn)
theorem so_if_le (hx : p.tables.exec = Jvm.exec) (hb : c.code = b) (hml : c.maxLocals = nL) (hown : s.vm.findClass own = some m.cls) (hts : ∀ w ∈ sm_f, w.before args s = true) (hK : va_K G vwCl [(cI, .int), (cQ, .object "NineLies$Sheet")] s) (hfr : 1 ≤ R.frames) (hlo : 38 ≤ R.locals) (hcc : cells ≤ R.cells) (hss : slots ≤ R.slots) : ru_if_le own b (sm_AW p l e R s m args below meth c G cI cQ ad nL A H0 cells slots Q free) := by
  intro pc L st h x off tgt hd ht k1 k2 H locs ls hP hD hS hl hn
  exact lv_if_le hx hb hd ht (fun q => k1 q H locs ls hP hD hS hl hn) (fun q => k2 q H locs ls hP hD hS hl hn)
theorem so_icmp_le (hx : p.tables.exec = Jvm.exec) (hb : c.code = b) (hml : c.maxLocals = nL) (hown : s.vm.findClass own = some m.cls) (hts : ∀ w ∈ sm_f, w.before args s = true) (hK : va_K G vwCl [(cI, .int), (cQ, .object "NineLies$Sheet")] s) (hfr : 1 ≤ R.frames) (hlo : 38 ≤ R.locals) (hcc : cells ≤ R.cells) (hss : slots ≤ R.slots) : ru_icmp_le own b (sm_AW p l e R s m args below meth c G cI cQ ad nL A H0 cells slots Q free) := by
  intro pc L st h x y off tgt hd ht k1 k2 H locs ls hP hD hS hl hn
  exact lv_icmp_le hx hb hd ht (fun q => k1 q H locs ls hP hD hS hl hn) (fun q => k2 q H locs ls hP hD hS hl hn)
theorem so_goto (hx : p.tables.exec = Jvm.exec) (hb : c.code = b) (hml : c.maxLocals = nL) (hown : s.vm.findClass own = some m.cls) (hts : ∀ w ∈ sm_f, w.before args s = true) (hK : va_K G vwCl [(cI, .int), (cQ, .object "NineLies$Sheet")] s) (hfr : 1 ≤ R.frames) (hlo : 38 ≤ R.locals) (hcc : cells ≤ R.cells) (hss : slots ≤ R.slots) : ru_goto own b (sm_AW p l e R s m args below meth c G cI cQ ad nL A H0 cells slots Q free) := by
  intro pc L st h off tgt hd ht k H locs ls hP hD hS hl hn
  exact lv_goto hx hb hd ht (k H locs ls hP hD hS hl hn)
theorem so_ifnull (hx : p.tables.exec = Jvm.exec) (hb : c.code = b) (hml : c.maxLocals = nL) (hown : s.vm.findClass own = some m.cls) (hts : ∀ w ∈ sm_f, w.before args s = true) (hK : va_K G vwCl [(cI, .int), (cQ, .object "NineLies$Sheet")] s) (hfr : 1 ≤ R.frames) (hlo : 38 ≤ R.locals) (hcc : cells ≤ R.cells) (hss : slots ≤ R.slots) : ru_ifnull own b (sm_AW p l e R s m args below meth c G cI cQ ad nL A H0 cells slots Q free) := by
  intro pc L st h x off hd k H locs ls hP hD hS hl hn
  exact lv_ifnull hx hb hd (k H locs ls hP hD hS hl hn)
theorem so_ifnullN (hx : p.tables.exec = Jvm.exec) (hb : c.code = b) (hml : c.maxLocals = nL) (hown : s.vm.findClass own = some m.cls) (hts : ∀ w ∈ sm_f, w.before args s = true) (hK : va_K G vwCl [(cI, .int), (cQ, .object "NineLies$Sheet")] s) (hfr : 1 ≤ R.frames) (hlo : 38 ≤ R.locals) (hcc : cells ≤ R.cells) (hss : slots ≤ R.slots) : ru_ifnullN own b (sm_AW p l e R s m args below meth c G cI cQ ad nL A H0 cells slots Q free) := by
  intro pc L st h off tgt hd ht k H locs ls hP hD hS hl hn
  exact lv_ifnullN hx hb hd ht (k H locs ls hP hD hS hl hn)
theorem so_ifnonnull (hx : p.tables.exec = Jvm.exec) (hb : c.code = b) (hml : c.maxLocals = nL) (hown : s.vm.findClass own = some m.cls) (hts : ∀ w ∈ sm_f, w.before args s = true) (hK : va_K G vwCl [(cI, .int), (cQ, .object "NineLies$Sheet")] s) (hfr : 1 ≤ R.frames) (hlo : 38 ≤ R.locals) (hcc : cells ≤ R.cells) (hss : slots ≤ R.slots) : ru_ifnonnull own b (sm_AW p l e R s m args below meth c G cI cQ ad nL A H0 cells slots Q free) := by
  intro pc L st h x off tgt hd ht k H locs ls hP hD hS hl hn
  exact lv_ifnonnull hx hb hd ht (k H locs ls hP hD hS hl hn)
theorem so_ifnonnullN (hx : p.tables.exec = Jvm.exec) (hb : c.code = b) (hml : c.maxLocals = nL) (hown : s.vm.findClass own = some m.cls) (hts : ∀ w ∈ sm_f, w.before args s = true) (hK : va_K G vwCl [(cI, .int), (cQ, .object "NineLies$Sheet")] s) (hfr : 1 ≤ R.frames) (hlo : 38 ≤ R.locals) (hcc : cells ≤ R.cells) (hss : slots ≤ R.slots) : ru_ifnonnullN own b (sm_AW p l e R s m args below meth c G cI cQ ad nL A H0 cells slots Q free) := by
  intro pc L st h off hd k H locs ls hP hD hS hl hn
  exact lv_ifnonnullN hx hb hd (k H locs ls hP hD hS hl hn)
theorem so_lookup (hx : p.tables.exec = Jvm.exec) (hb : c.code = b) (hml : c.maxLocals = nL) (hown : s.vm.findClass own = some m.cls) (hts : ∀ w ∈ sm_f, w.before args s = true) (hK : va_K G vwCl [(cI, .int), (cQ, .object "NineLies$Sheet")] s) (hfr : 1 ≤ R.frames) (hlo : 38 ≤ R.locals) (hcc : cells ≤ R.cells) (hss : slots ≤ R.slots) : ru_lookup own b (sm_AW p l e R s m args below meth c G cI cQ ad nL A H0 cells slots Q free) := by
  intro pc L st h dflt ps len x off tgt hd hp ho ht k H locs ls hP hD hS hl hn
  exact lv_lookup hx hb hd hp ho ht (k H locs ls hP hD hS hl hn)
theorem so_tableOut (hx : p.tables.exec = Jvm.exec) (hb : c.code = b) (hml : c.maxLocals = nL) (hown : s.vm.findClass own = some m.cls) (hts : ∀ w ∈ sm_f, w.before args s = true) (hK : va_K G vwCl [(cI, .int), (cQ, .object "NineLies$Sheet")] s) (hfr : 1 ≤ R.frames) (hlo : 38 ≤ R.locals) (hcc : cells ≤ R.cells) (hss : slots ≤ R.slots) : ru_tableOut own b (sm_AW p l e R s m args below meth c G cI cQ ad nL A H0 cells slots Q free) := by
  intro pc L st h dflt lo hi offs len x tgt hd ho ht k H locs ls hP hD hS hl hn
  exact lv_tableOut hx hb hd ho ht (k H locs ls hP hD hS hl hn)
theorem so_tableIn (hx : p.tables.exec = Jvm.exec) (hb : c.code = b) (hml : c.maxLocals = nL) (hown : s.vm.findClass own = some m.cls) (hts : ∀ w ∈ sm_f, w.before args s = true) (hK : va_K G vwCl [(cI, .int), (cQ, .object "NineLies$Sheet")] s) (hfr : 1 ≤ R.frames) (hlo : 38 ≤ R.locals) (hcc : cells ≤ R.cells) (hss : slots ≤ R.slots) : ru_tableIn own b (sm_AW p l e R s m args below meth c G cI cQ ad nL A H0 cells slots Q free) := by
  intro pc L st h dflt lo hi offs len x off tgt hd h1 h2 ho ht k H locs ls hP hD hS hl hn
  exact lv_tableIn hx hb hd h1 h2 ho ht (k H locs ls hP hD hS hl hn)
theorem so_getf (hx : p.tables.exec = Jvm.exec) (hb : c.code = b) (hml : c.maxLocals = nL) (hown : s.vm.findClass own = some m.cls) (hts : ∀ w ∈ sm_f, w.before args s = true) (hK : va_K G vwCl [(cI, .int), (cQ, .object "NineLies$Sheet")] s) (hfr : 1 ≤ R.frames) (hlo : 38 ≤ R.locals) (hcc : cells ≤ R.cells) (hss : slots ≤ R.slots) : ru_getf own b (sm_AW p l e R s m args below meth c G cI cQ ad nL A H0 cells slots Q free) := by
  intro pc L st h i a ci j fs v hd hF hh hv k H locs ls hP hD hS hl hn
  obtain ⟨C, T, N, hc, hj, hown2, hlk⟩ := hF
  have he := sm_wo (cI := cI) (cQ := cQ) (ad := ad) hh
  have hv2 : (fs.map (sm_c ad))[j]? = some (sm_c ad v) := by rw [List.getElem?_map, hv]; rfl
  have hin := sm_in_cl hc
  rcases hlk with q | q
  · exact va_get hx hb hts hin hown hK hP a he hc j hj (hts _ (sm_ff q rfl)) (fun _ h9 => by rw [hown2] at h9; exact h9) hv2 hd (k H locs ls hP hD hS hl hn)
  · exact va_getN hx hb hts hin hown hK hP a he hc j hj (hts _ (sm_ff q rfl)) (fun _ h9 => by rw [hown2] at h9; exact h9) hv2 hd (k H locs ls hP hD hS hl hn)
theorem so_putI (hx : p.tables.exec = Jvm.exec) (hb : c.code = b) (hml : c.maxLocals = nL) (hown : s.vm.findClass own = some m.cls) (hts : ∀ w ∈ sm_f, w.before args s = true) (hK : va_K G vwCl [(cI, .int), (cQ, .object "NineLies$Sheet")] s) (hfr : 1 ≤ R.frames) (hlo : 38 ≤ R.locals) (hcc : cells ≤ R.cells) (hss : slots ≤ R.slots) : ru_putI own b (sm_AW p l e R s m args below meth c G cI cQ ad nL A H0 cells slots Q free) := by
  intro pc L st h i a ci j fs x hd hF hh hj2 k H locs ls hP hD hS hl hn
  obtain ⟨⟨C, T, N, hc, hj, hown2, hlk⟩, C2, T2, N2, hc2, hfin, hds0⟩ := hF
  have hcc := Option.some.inj (hc.symm.trans hc2)
  have hT : T = T2 := congrArg (fun q : vw_C => q.2.1) hcc
  subst hT
  have he := sm_wo (cI := cI) (cQ := cQ) (ad := ad) hh
  have hds : parseFieldDescriptor (T j).2.2.1 = some .int := by rw [hds0]; decide +kernel
  have hjl : j < (fs.map (sm_c ad)).length := by rw [List.length_map]; exact hj2
  have hin := sm_in_cl hc
  obtain ⟨ty0, hty, hnm⟩ := sm_ty_cl hc
  rcases hlk with q | q
  · exact va_put (v := .int x) (ty := .int) hx hb hts hin ty0 hty hnm hown hK hP hD hS a he hc j hj (hts _ (sm_ff q rfl)) (fun _ h9 => by rw [hown2] at h9; exact h9) hfin hds rfl rfl hjl hd (fun H1 locs1 hP1 hD1 hS1 => k H1 locs1 ls (by rw [sm_ws_o hh (ci := ci) (fs := fs.set j (.int x)), List.map_set]; exact hP1) (by rw [sm_ws_o hh (ci := ci) (fs := fs.set j (.int x)), List.map_set]; exact hD1) hS1 hl hn)
  · exact va_putN (v := .int x) (ty := .int) hx hb hts hin ty0 hty hnm hown hK hP hD hS a he hc j hj (hts _ (sm_ff q rfl)) (fun _ h9 => by rw [hown2] at h9; exact h9) hfin hds rfl rfl hjl hd (fun H1 locs1 hP1 hD1 hS1 => k H1 locs1 ls (by rw [sm_ws_o hh (ci := ci) (fs := fs.set j (.int x)), List.map_set]; exact hP1) (by rw [sm_ws_o hh (ci := ci) (fs := fs.set j (.int x)), List.map_set]; exact hD1) hS1 hl hn)
theorem so_putZ (hx : p.tables.exec = Jvm.exec) (hb : c.code = b) (hml : c.maxLocals = nL) (hown : s.vm.findClass own = some m.cls) (hts : ∀ w ∈ sm_f, w.before args s = true) (hK : va_K G vwCl [(cI, .int), (cQ, .object "NineLies$Sheet")] s) (hfr : 1 ≤ R.frames) (hlo : 38 ≤ R.locals) (hcc : cells ≤ R.cells) (hss : slots ≤ R.slots) : ru_putZ own b (sm_AW p l e R s m args below meth c G cI cQ ad nL A H0 cells slots Q free) := by
  intro pc L st h i a ci j fs x hd hF hh hj2 hz k H locs ls hP hD hS hl hn
  have hnz : narrow .boolean (.int x) = .int x ∧ fits .boolean (.int x) = true := by rcases hz with rfl | rfl <;> exact ⟨rfl, rfl⟩
  obtain ⟨⟨C, T, N, hc, hj, hown2, hlk⟩, C2, T2, N2, hc2, hfin, hds0⟩ := hF
  have hcc := Option.some.inj (hc.symm.trans hc2)
  have hT : T = T2 := congrArg (fun q : vw_C => q.2.1) hcc
  subst hT
  have he := sm_wo (cI := cI) (cQ := cQ) (ad := ad) hh
  have hds : parseFieldDescriptor (T j).2.2.1 = some .boolean := by rw [hds0]; decide +kernel
  have hjl : j < (fs.map (sm_c ad)).length := by rw [List.length_map]; exact hj2
  have hin := sm_in_cl hc
  obtain ⟨ty0, hty, hnm⟩ := sm_ty_cl hc
  rcases hlk with q | q
  · exact va_put (v := .int x) (ty := .boolean) hx hb hts hin ty0 hty hnm hown hK hP hD hS a he hc j hj (hts _ (sm_ff q rfl)) (fun _ h9 => by rw [hown2] at h9; exact h9) hfin hds hnz.1 hnz.2 hjl hd (fun H1 locs1 hP1 hD1 hS1 => k H1 locs1 ls (by rw [sm_ws_o hh (ci := ci) (fs := fs.set j (.int x)), List.map_set]; exact hP1) (by rw [sm_ws_o hh (ci := ci) (fs := fs.set j (.int x)), List.map_set]; exact hD1) hS1 hl hn)
  · exact va_putN (v := .int x) (ty := .boolean) hx hb hts hin ty0 hty hnm hown hK hP hD hS a he hc j hj (hts _ (sm_ff q rfl)) (fun _ h9 => by rw [hown2] at h9; exact h9) hfin hds hnz.1 hnz.2 hjl hd (fun H1 locs1 hP1 hD1 hS1 => k H1 locs1 ls (by rw [sm_ws_o hh (ci := ci) (fs := fs.set j (.int x)), List.map_set]; exact hP1) (by rw [sm_ws_o hh (ci := ci) (fs := fs.set j (.int x)), List.map_set]; exact hD1) hS1 hl hn)
theorem so_iald (hx : p.tables.exec = Jvm.exec) (hb : c.code = b) (hml : c.maxLocals = nL) (hown : s.vm.findClass own = some m.cls) (hts : ∀ w ∈ sm_f, w.before args s = true) (hK : va_K G vwCl [(cI, .int), (cQ, .object "NineLies$Sheet")] s) (hfr : 1 ≤ R.frames) (hlo : 38 ≤ R.locals) (hcc : cells ≤ R.cells) (hss : slots ≤ R.slots) : ru_iald own b (sm_AW p l e R s m args below meth c G cI cQ ad nL A H0 cells slots Q free) := by
  intro pc L st h a n j f i hd hh hi hj hN k H locs ls hP hD hS hl hn
  have he := sm_wi (cI := cI) (cQ := cQ) (ad := ad) hh
  have hc : (nI j).toNatClampNeg = j := nI_clamp (Nat.lt_trans hj hN)
  subst hi
  have k2 := k H locs ls hP hD hS hl hn
  rw [← hc] at k2
  exact va_iald hx hb hK hP a 0 he rfl (vp_in_nI hj hN) hd k2
theorem so_iast (hx : p.tables.exec = Jvm.exec) (hb : c.code = b) (hml : c.maxLocals = nL) (hown : s.vm.findClass own = some m.cls) (hts : ∀ w ∈ sm_f, w.before args s = true) (hK : va_K G vwCl [(cI, .int), (cQ, .object "NineLies$Sheet")] s) (hfr : 1 ≤ R.frames) (hlo : 38 ≤ R.locals) (hcc : cells ≤ R.cells) (hss : slots ≤ R.slots) : ru_iast own b (sm_AW p l e R s m args below meth c G cI cQ ad nL A H0 cells slots Q free) := by
  intro pc L st h a n j f i x hd hh hi hj hN k H locs ls hP hD hS hl hn
  have he := sm_wi (cI := cI) (cQ := cQ) (ad := ad) hh
  have hc : (nI j).toNatClampNeg = j := nI_clamp (Nat.lt_trans hj hN)
  subst hi
  refine va_iast hx hb hK hP hD hS a 0 he rfl (vp_in_nI hj hN) hd (fun H1 locs1 hP1 hD1 hS1 => ?_)
  rw [hc] at hP1 hD1
  exact k H1 locs1 ls (by rw [sm_ws_i hh]; exact hP1) (by rw [sm_ws_i hh]; exact hD1) hS1 hl hn
theorem so_alen (hx : p.tables.exec = Jvm.exec) (hb : c.code = b) (hml : c.maxLocals = nL) (hown : s.vm.findClass own = some m.cls) (hts : ∀ w ∈ sm_f, w.before args s = true) (hK : va_K G vwCl [(cI, .int), (cQ, .object "NineLies$Sheet")] s) (hfr : 1 ≤ R.frames) (hlo : 38 ≤ R.locals) (hcc : cells ≤ R.cells) (hss : slots ≤ R.slots) : ru_alen own b (sm_AW p l e R s m args below meth c G cI cQ ad nL A H0 cells slots Q free) := by
  intro pc L st h a n f hd hh k H locs ls hP hD hS hl hn
  have he := sm_wi (cI := cI) (cQ := cQ) (ad := ad) hh
  exact va_alen hx hb hK hP a 0 he (ty := .int) rfl rfl hd (k H locs ls hP hD hS hl hn)
theorem so_alenQ (hx : p.tables.exec = Jvm.exec) (hb : c.code = b) (hml : c.maxLocals = nL) (hown : s.vm.findClass own = some m.cls) (hts : ∀ w ∈ sm_f, w.before args s = true) (hK : va_K G vwCl [(cI, .int), (cQ, .object "NineLies$Sheet")] s) (hfr : 1 ≤ R.frames) (hlo : 38 ≤ R.locals) (hcc : cells ≤ R.cells) (hss : slots ≤ R.slots) : ru_alenQ own b (sm_AW p l e R s m args below meth c G cI cQ ad nL A H0 cells slots Q free) := by
  intro pc L st h a n f hd hh k H locs ls hP hD hS hl hn
  have he := sm_wq (cI := cI) (cQ := cQ) (ad := ad) hh
  exact va_alen hx hb hK hP a 1 he (ty := .object "NineLies$Sheet") rfl rfl hd (k H locs ls hP hD hS hl hn)
theorem so_aald (hx : p.tables.exec = Jvm.exec) (hb : c.code = b) (hml : c.maxLocals = nL) (hown : s.vm.findClass own = some m.cls) (hts : ∀ w ∈ sm_f, w.before args s = true) (hK : va_K G vwCl [(cI, .int), (cQ, .object "NineLies$Sheet")] s) (hfr : 1 ≤ R.frames) (hlo : 38 ≤ R.locals) (hcc : cells ≤ R.cells) (hss : slots ≤ R.slots) : ru_aald own b (sm_AW p l e R s m args below meth c G cI cQ ad nL A H0 cells slots Q free) := by
  intro pc L st h a n j q f i hd hh hi hj hN hf k H locs ls hP hD hS hl hn
  have he := sm_wq (cI := cI) (cQ := cQ) (ad := ad) hh
  have hc : (nI j).toNatClampNeg = j := nI_clamp (Nat.lt_trans hj hN)
  subst hi
  refine va_aldq hx hb hK hP a 1 he rfl (vp_in_nI hj hN) hd ?_
  rw [hc, hf]
  exact k H locs ls hP hD hS hl hn
theorem so_max (hx : p.tables.exec = Jvm.exec) (hb : c.code = b) (hml : c.maxLocals = nL) (hown : s.vm.findClass own = some m.cls) (hts : ∀ w ∈ sm_f, w.before args s = true) (hK : va_K G vwCl [(cI, .int), (cQ, .object "NineLies$Sheet")] s) (hfr : 1 ≤ R.frames) (hlo : 38 ≤ R.locals) (hcc : cells ≤ R.cells) (hss : slots ≤ R.slots) : ru_max own b (sm_AW p l e R s m args below meth c G cI cQ ad nL A H0 cells slots Q free) := by
  intro pc L st h i x y hd hk hst k H locs ls hP hD hS hl hn
  exact va_mmax hx hb (hml.trans hl.1.symm) hown (hts _ (sm_ff hk rfl)) (hts _ (sm_ff (sq2 (i := 75) rfl) rfl)) (hts _ (sm_ff (sq1 (i := 10) rfl) rfl)) (hts _ (sm_ff (sq2 (i := 76) rfl) rfl)) hfr (by have h8 := sm_sum (ad := ad) hst; have h9 := hlo; omega) hcc hss hd (k H locs ls hP hD hS hl hn)
theorem so_min (hx : p.tables.exec = Jvm.exec) (hb : c.code = b) (hml : c.maxLocals = nL) (hown : s.vm.findClass own = some m.cls) (hts : ∀ w ∈ sm_f, w.before args s = true) (hK : va_K G vwCl [(cI, .int), (cQ, .object "NineLies$Sheet")] s) (hfr : 1 ≤ R.frames) (hlo : 38 ≤ R.locals) (hcc : cells ≤ R.cells) (hss : slots ≤ R.slots) : ru_min own b (sm_AW p l e R s m args below meth c G cI cQ ad nL A H0 cells slots Q free) := by
  intro pc L st h i x y hd hk hst k H locs ls hP hD hS hl hn
  exact va_mmin hx hb (hml.trans hl.1.symm) hown (hts _ (sm_ff hk rfl)) (hts _ (sm_ff (sq2 (i := 22) rfl) rfl)) (hts _ (sm_ff (sq1 (i := 10) rfl) rfl)) (hts _ (sm_ff (sq2 (i := 23) rfl) rfl)) hfr (by have h8 := sm_sum (ad := ad) hst; have h9 := hlo; omega) hcc hss hd (k H locs ls hP hD hS hl hn)
theorem so_copy (hx : p.tables.exec = Jvm.exec) (hb : c.code = b) (hml : c.maxLocals = nL) (hown : s.vm.findClass own = some m.cls) (hts : ∀ w ∈ sm_f, w.before args s = true) (hK : va_K G vwCl [(cI, .int), (cQ, .object "NineLies$Sheet")] s) (hfr : 1 ≤ R.frames) (hlo : 38 ≤ R.locals) (hcc : cells ≤ R.cells) (hss : slots ≤ R.slots) : ru_copy own b (sm_AW p l e R s m args below meth c G cI cQ ad nL A H0 cells slots Q free) := by
  intro pc L st h i a a0 n0 n1 sp dp n f g x y z hd hk hst hh0 hh1 hx0 hy hz h4 h5 hN k H locs ls hP hD hS hl hn
  have he0 := sm_wi (cI := cI) (cQ := cQ) (ad := ad) hh0
  have he1 := sm_wi (cI := cI) (cQ := cQ) (ad := ad) hh1
  subst hx0 hy hz
  have c1 : (nI sp).toNatClampNeg = sp := nI_clamp (by omega)
  have c2 : (nI dp).toNatClampNeg = dp := nI_clamp (by omega)
  have c3 : (nI n).toNatClampNeg = n := nI_clamp (by omega)
  refine va_copyi hx hb (hml.trans hl.1.symm) hown (hts _ (sm_ff hk rfl)) (hts _ (sm_ff (sq2 (i := 32) rfl) rfl)) (hts _ (sm_ff (sq2 (i := 31) rfl) rfl)) (hts _ (sm_ff (sq1 (i := 11) rfl) rfl)) hK hP hD hS a0 a 0 0 (ty := .int) he0 he1 rfl rfl rfl (nI_pos (by omega)) (nI_pos (by omega)) (nI_pos (by omega)) (by rw [c1, c3]; exact h4) (by rw [c2, c3]; exact h5) (fun _ _ => rfl) hfr (Nat.le_trans (Nat.add_le_add (sm_sum (ad := ad) hst) (by decide : nativeFrameWords "java/lang/System" "arraycopy" 5 + 11 ≤ 30)) hlo) hd (fun H1 locs1 hP1 hD1 hS1 => ?_)
  rw [c1, c2, c3] at hP1 hD1
  exact k H1 locs1 ls (by rw [sm_ws_i hh1]; exact hP1) (by rw [sm_ws_i hh1]; exact hD1) hS1 hl hn
theorem so_R (hx : p.tables.exec = Jvm.exec) (hb : c.code = b) (hml : c.maxLocals = nL) (hown : s.vm.findClass own = some m.cls) (hts : ∀ w ∈ sm_f, w.before args s = true) (hK : va_K G vwCl [(cI, .int), (cQ, .object "NineLies$Sheet")] s) (hfr : 1 ≤ R.frames) (hlo : 38 ≤ R.locals) (hcc : cells ≤ R.cells) (hss : slots ≤ R.slots) : sm_R own b (sm_AW p l e R s m args below meth c G cI cQ ad nL A H0 cells slots Q free) := ⟨⟨so_iconst hx hb hml hown hts hK hfr hlo hcc hss, so_bipush hx hb hml hown hts hK hfr hlo hcc hss, so_sipush hx hb hml hown hts hK hfr hlo hcc hss, so_lconst hx hb hml hown hts hK hfr hlo hcc hss, so_null hx hb hml hown hts hK hfr hlo hcc hss, so_ldc hx hb hml hown hts hK hfr hlo hcc hss, so_ldcw hx hb hml hown hts hK hfr hlo hcc hss, so_ldc2 hx hb hml hown hts hK hfr hlo hcc hss, so_iload hx hb hml hown hts hK hfr hlo hcc hss, so_iload_n hx hb hml hown hts hK hfr hlo hcc hss⟩, ⟨so_lload hx hb hml hown hts hK hfr hlo hcc hss, so_lload_n hx hb hml hown hts hK hfr hlo hcc hss, so_aload hx hb hml hown hts hK hfr hlo hcc hss, so_aload_n hx hb hml hown hts hK hfr hlo hcc hss, so_aloadN hx hb hml hown hts hK hfr hlo hcc hss, so_aload_nN hx hb hml hown hts hK hfr hlo hcc hss, so_istore hx hb hml hown hts hK hfr hlo hcc hss, so_istore_n hx hb hml hown hts hK hfr hlo hcc hss, so_astore hx hb hml hown hts hK hfr hlo hcc hss, so_astore_n hx hb hml hown hts hK hfr hlo hcc hss⟩, ⟨so_astoreN hx hb hml hown hts hK hfr hlo hcc hss, so_astore_nN hx hb hml hown hts hK hfr hlo hcc hss, so_iinc hx hb hml hown hts hK hfr hlo hcc hss, so_iadd hx hb hml hown hts hK hfr hlo hcc hss, so_isub hx hb hml hown hts hK hfr hlo hcc hss, so_imul hx hb hml hown hts hK hfr hlo hcc hss, so_iand hx hb hml hown hts hK hfr hlo hcc hss, so_ior hx hb hml hown hts hK hfr hlo hcc hss, so_ixor hx hb hml hown hts hK hfr hlo hcc hss, so_ishl hx hb hml hown hts hK hfr hlo hcc hss⟩, ⟨so_ishr hx hb hml hown hts hK hfr hlo hcc hss, so_iushr hx hb hml hown hts hK hfr hlo hcc hss, so_ineg hx hb hml hown hts hK hfr hlo hcc hss, so_idiv hx hb hml hown hts hK hfr hlo hcc hss, so_irem hx hb hml hown hts hK hfr hlo hcc hss, so_ladd hx hb hml hown hts hK hfr hlo hcc hss, so_lmul hx hb hml hown hts hK hfr hlo hcc hss, so_land hx hb hml hown hts hK hfr hlo hcc hss, so_lor hx hb hml hown hts hK hfr hlo hcc hss, so_lcmp hx hb hml hown hts hK hfr hlo hcc hss⟩, ⟨so_lshl hx hb hml hown hts hK hfr hlo hcc hss, so_lshr hx hb hml hown hts hK hfr hlo hcc hss, so_lushr hx hb hml hown hts hK hfr hlo hcc hss, so_i2l hx hb hml hown hts hK hfr hlo hcc hss, so_l2i hx hb hml hown hts hK hfr hlo hcc hss, so_i2b hx hb hml hown hts hK hfr hlo hcc hss, so_i2s hx hb hml hown hts hK hfr hlo hcc hss, so_dup hx hb hml hown hts hK hfr hlo hcc hss, so_pop hx hb hml hown hts hK hfr hlo hcc hss, so_dup2 hx hb hml hown hts hK hfr hlo hcc hss⟩, ⟨so_if_eq hx hb hml hown hts hK hfr hlo hcc hss, so_icmp_eq hx hb hml hown hts hK hfr hlo hcc hss, so_if_ne hx hb hml hown hts hK hfr hlo hcc hss, so_icmp_ne hx hb hml hown hts hK hfr hlo hcc hss, so_if_lt hx hb hml hown hts hK hfr hlo hcc hss, so_icmp_lt hx hb hml hown hts hK hfr hlo hcc hss, so_if_ge hx hb hml hown hts hK hfr hlo hcc hss, so_icmp_ge hx hb hml hown hts hK hfr hlo hcc hss, so_if_gt hx hb hml hown hts hK hfr hlo hcc hss, so_icmp_gt hx hb hml hown hts hK hfr hlo hcc hss⟩, ⟨so_if_le hx hb hml hown hts hK hfr hlo hcc hss, so_icmp_le hx hb hml hown hts hK hfr hlo hcc hss, so_goto hx hb hml hown hts hK hfr hlo hcc hss, so_ifnull hx hb hml hown hts hK hfr hlo hcc hss, so_ifnullN hx hb hml hown hts hK hfr hlo hcc hss, so_ifnonnull hx hb hml hown hts hK hfr hlo hcc hss, so_ifnonnullN hx hb hml hown hts hK hfr hlo hcc hss, so_lookup hx hb hml hown hts hK hfr hlo hcc hss, so_tableOut hx hb hml hown hts hK hfr hlo hcc hss, so_tableIn hx hb hml hown hts hK hfr hlo hcc hss⟩, ⟨so_getf hx hb hml hown hts hK hfr hlo hcc hss, so_putI hx hb hml hown hts hK hfr hlo hcc hss, so_putZ hx hb hml hown hts hK hfr hlo hcc hss, so_iald hx hb hml hown hts hK hfr hlo hcc hss, so_iast hx hb hml hown hts hK hfr hlo hcc hss, so_alen hx hb hml hown hts hK hfr hlo hcc hss, so_alenQ hx hb hml hown hts hK hfr hlo hcc hss, so_aald hx hb hml hown hts hK hfr hlo hcc hss, so_max hx hb hml hown hts hK hfr hlo hcc hss, so_min hx hb hml hown hts hK hfr hlo hcc hss⟩, so_copy hx hb hml hown hts hK hfr hlo hcc hss⟩
end SO
/-! A CONTRACT OF THE MACHINE FROM A WALK -/
/-- the nest mates' words -/
def sm_N (U : State) : Prop := ∀ w ∈ lw_tbl, sm_nest w = true → va_Nw w U
theorem sm_nt {w : Cond} (h : sm_nest w = true) : w.onTables = true := by
  cases w <;> first | rfl | cases h
theorem sm_N.same {u U : State} (h : u.vm = U.vm) (hN : sm_N u) : sm_N U := fun w hw hn => (hN w hw hn).same (sm_nt hn) h
theorem sm_N.warm {s U : State} (hW : s.WarmedH U.vm) (hN : sm_N s) : sm_N U := by
  intro w hw hn
  have h1 := hN w hw hn
  cases w <;> first | exact va_Nw.warmF hW h1 | exact va_Nw.warmM hW h1 | cases hn
theorem sm_all {args : Array Value} {s : State} (h : ∀ w ∈ lw_tbl, goodWord w = true → w.before args s = true) (hN : sm_N s) : ∀ w ∈ sm_f, w.before args s = true := by
  intro w hw
  obtain ⟨hw, hg⟩ := List.mem_filter.mp hw
  rcases Bool.or_eq_true_iff.mp hg with q | q
  · exact h w hw q
  · exact (hN w hw q).use (sm_nt q)
def sm_gw : List Cond := lw_tbl.filter goodWord
abbrev sm_tys (cI cQ : ClassId) : List (ClassId × FieldType) := [(cI, .int), (cQ, .object "NineLies$Sheet")]
def sm_rm (d : Nat) : Room := { frames := d, cells := 0, slots := 0, locals := 38 * d }
def sm_Pc (G : va_G) (cI cQ : ClassId) (ad : Nat → Nat) (as : List Value) (h : List sm_C) (sz : Nat) : Array Value → State → Prop :=
  va_Pc (as.map (sm_c ad)) (fun U => U.heap.size = sz ∧ va_P G vwCl (sm_w cI cQ ad h) U.heap ∧ va_K G vwCl (sm_tys cI cQ) U ∧ va_D (fun _ => True) (sm_w cI cQ ad h) ∧ sm_N U)
def sm_Qc (G : va_G) (cI cQ : ClassId) (ad : Nat → Nat) (h : List sm_C) (v : Option Value) (h1 : List sm_C) (sz : Nat) : Array Value → State → Outcome → State → Prop := fun _ st oc t =>
  (oc = .returned (v.map (sm_c ad)) ∧ va_P G vwCl (sm_w cI cQ ad h1) t.heap ∧ va_K G vwCl (sm_tys cI cQ) t ∧ va_D (va_A (sm_w cI cQ ad h) sz) (sm_w cI cQ ad h1)) ∧ va_F (va_A (sm_w cI cQ ad h) sz) st t
theorem sm_blind {G : va_G} {cI cQ : ClassId} {ad : Nat → Nat} {as : List Value} {h : List sm_C} {sz : Nat} : FrameBlind (sm_Pc G cI cQ ad as h sz) :=
  fun a U g mk q => ⟨q.1, q.2.1, q.2.2.1, va_K.moved (u := U) (U := U.calling g mk a) (Vm.Alike.refl U.vm) q.2.2.2.1, q.2.2.2.2.1, sm_N.same (u := U) rfl q.2.2.2.2.2⟩
theorem sm_pre {G : va_G} {cI cQ : ClassId} {ad : Nat → Nat} {as : List Value} {h : List sm_C} {s : State} {H : Heap} {A : Nat → Prop} (hP : va_P G vwCl (sm_w cI cQ ad h) H) (hK : va_K G vwCl (sm_tys cI cQ) s) (hD : va_D A (sm_w cI cQ ad h)) (hN : sm_N s) :
    ∀ U : State, U.heap = H → s.WarmedH U.vm → sm_Pc G cI cQ ad as h H.size (as.map (sm_c ad)).toArray U :=
  fun U hU hW => ⟨rfl, by rw [hU], by rw [hU]; exact hP, va_K.moved hW.alike hK, hD.weaken (fun _ _ _ _ => trivial), hN.warm hW⟩
theorem sm_en_args {ad : Nat → Nat} : ∀ (as : List Value) (i j : Nat) (w : Value), (sm_en as)[j]? = some (some w) → (i + j, sm_c ad w) ∈ lv_args i (as.map (sm_c ad))
  | [], i, j, w, h => by simp [sm_en] at h
  | v :: vs, i, j, w, h => by
    simp only [sm_en] at h
    simp only [List.map_cons, lv_args, sm_cat2]
    split at h
    · rename_i hc
      simp only [hc, if_true]
      match j, h with
      | 0, h => simp at h; subst h; exact List.mem_cons_self
      | 1, h => simp at h
      | j + 2, h =>
        simp only [List.getElem?_cons_succ] at h
        have := sm_en_args (ad := ad) vs (i + 2) j w h
        rw [show i + (j + 2) = i + 2 + j by omega]
        exact List.mem_cons_of_mem _ this
    · rename_i hc
      simp only [hc, if_false]
      match j, h with
      | 0, h => simp at h; subst h; exact List.mem_cons_self
      | j + 1, h =>
        simp only [List.getElem?_cons_succ] at h
        have := sm_en_args (ad := ad) vs (i + 1) j w h
        rw [show i + (j + 1) = i + 1 + j by omega]
        exact List.mem_cons_of_mem _ this
theorem sm_en_len {ad : Nat → Nat} : ∀ as : List Value, (lg_sl (as.map (sm_c ad))).length = (sm_en as).length
  | [] => rfl
  | v :: vs => by
    have ih := sm_en_len (ad := ad) vs
    simp only [lg_sl, List.map_cons, List.flatMap_cons, List.length_append, sm_cat2, sm_en] at ih ⊢
    split <;> simp [ih] <;> omega
theorem sm_entry {ad : Nat → Nat} {as : List Value} {n : Nat} (h : (sm_en as).length ≤ n) : lv_has ((lg_sl (as.map (sm_c ad)) ++ List.replicate (n - (lg_sl (as.map (sm_c ad))).length) Slot.unset).toArray) n (sm_lm ad (sm_en0 as n)) ∧ (sm_en0 as n).length = n := by
  have h0 := lv_entry (as.map (sm_c ad)) (n := n) (by rw [sm_en_len]; exact h)
  refine ⟨⟨h0.1, h0.2.1, ?_⟩, by unfold sm_en0; rw [List.length_append, List.length_replicate]; omega⟩
  rintro ⟨j, w⟩ hj
  rw [sm_as_mem, List.getElem?_map] at hj
  cases hk : (sm_en0 as n)[j]? with
  | none => rw [hk] at hj; cases hj
  | some o =>
    cases o with
    | none => rw [hk] at hj; simp at hj
    | some u =>
      rw [hk] at hj
      simp only [Option.map_some, Option.some.injEq] at hj
      subst hj
      have hu : (sm_en as)[j]? = some (some u) := by
        unfold sm_en0 at hk
        rcases Nat.lt_or_ge j (sm_en as).length with q | q
        · rw [List.getElem?_append_left q] at hk; exact hk
        · rw [List.getElem?_append_right q, List.getElem?_replicate] at hk
          split at hk
          · simp at hk
          · cases hk
      have := sm_en_args (ad := ad) as 0 j u hu
      rw [Nat.zero_add] at this
      exact h0.2.2 _ this
section SC
variable {p : Program} {l : Launch} {e : Env} {R : Room} {s : State} {m : MethodId} {args : Array Value} {below : List Frame} {meth : Method} {c : Code} {G : va_G} {cI cQ : ClassId} {ad : Nat → Nat} {A : Nat → Prop} {H0 H : Heap} {locs : List Loc} {cells slots : Nat} {Q : State → Prop}
theorem sm_hA {h : List sm_C} (hD : va_D A (sm_w cI cQ ad h)) (hS : va_S A H0 H locs) (hA : ∀ q, H0.size ≤ q → A q) : ∀ q, va_A (sm_w cI cQ ad h) H.size q → A q := by
  intro q hq
  rcases hq with ⟨k, e, hk⟩ | hq
  · exact hD.2 k (q, e) hk
  · exact hA q (Nat.le_trans hS.1 hq)
/-- behind a call -/
theorem sm_call {h h1 : List sm_C} {v : Option Value} {a : Array Value} {pc : Nat} {ls : Array Slot} {rest st0 : List Value} (hr : va_Run p l e R s m args below meth c H locs cells slots 0 0 (F0 m pc ls st0) rest (sm_Qc G cI cQ ad h v h1 H.size a) (va_A (sm_w cI cQ ad h) H.size)) (hD : va_D A (sm_w cI cQ ad h)) (hS : va_S A H0 H locs) (hA : ∀ q, H0.size ≤ q → A q)
    (kk : ∀ (H1 : Heap) (locs1 : List Loc), va_P G vwCl (sm_w cI cQ ad h1) H1 → va_D A (sm_w cI cQ ad h1) → va_S A H0 H1 locs1 → W p l e R s m args below meth c H1 locs1 cells slots Q (F0 m (pc + 3) ls ((v.map (sm_c ad)).toList ++ rest))) : W p l e R s m args below meth c H locs cells slots Q (F0 m pc ls st0) := by
  have hA1 := sm_hA hD hS hA
  intro T hT X
  obtain ⟨v1, st₀, t, T', L, h0, X', hL, e1, e2, ⟨⟨hv, hP1, hK1, hD1⟩, hz, hk⟩, st⟩ := hr T hT X
  have hv1 : v1 = v.map (sm_c ad) := Outcome.returned.inj hv
  subst hv1
  rw [h0] at hz hk
  obtain ⟨t2, a1, b1⟩ := kk T'.heap (locs ++ L) (by rw [e1]; exact hP1) (hD1.weaken (fun k q _ h => hA1 q.1 h))
    ⟨Nat.le_trans hS.1 (by rw [e1]; exact hz), fun q h1 h2 => by rw [e1, hk q (Nat.lt_of_lt_of_le h1 hS.1) (fun z => h2 (hA1 q z))]; exact hS.2.1 q h1 h2, fun q hq => by
      rcases List.mem_append.mp hq with h | h
      · exact hS.2.2 q h
      · exact hA1 _ (hL q h)⟩ T' rfl X'
  exact ⟨t2, st t2 a1, b1⟩
end SC
theorem sm_good {q : sm_M × Nat} (hq : q ∈ sm_T) : GoodIn sm_f (Cond.code q.1.1 q.1.2.1 q.1.2.2.1 q.1.2.2.2.1 :: sm_gw) := by
  intro w hw
  rcases List.mem_cons.mp hw with rfl | hw
  · exact ⟨sm_ff (sm_T_ok q hq).1 rfl, good_of_word rfl⟩
  · exact ⟨sm_ff (List.mem_filter.mp hw).1 (by rw [(List.mem_filter.mp hw).2]; rfl), good_of_word (List.mem_filter.mp hw).2⟩
/-- what is claimed of a method on arguments and a heap -/
def sm_Met (l : Launch) (d : Nat) (stat : Bool) (y : MethodName) (as : List Value) (h : List sm_C) (v : Option Value) (h1 : List sm_C) : Prop :=
  ∃ q ∈ sm_T, q.1.1 = y ∧ q.1.2.2.2.2 = stat ∧ as.length = (if stat then q.2 else q.2 + 1) ∧ ∀ (G : va_G) (cI cQ : ClassId) (ad : Nat → Nat) (sz : Nat),
    Met l y (Cond.code y q.1.2.1 q.1.2.2.1 q.1.2.2.2.1 :: sm_gw) (sm_rm d) (sm_Pc G cI cQ ad as h sz) (sm_Qc G cI cQ ad h v h1 sz) 0 0 (va_A (sm_w cI cQ ad h) sz)
section SV
variable {p : Program} {l : Launch} {e : Env} {R : Room} {s : State} {m : MethodId} {args : Array Value} {below : List Frame} {meth : Method} {c : Code} {G : va_G} {cI cQ : ClassId} {ad : Nat → Nat} {nL : Nat} {A : Nat → Prop} {H0 : Heap} {cells slots : Nat} {Q : State → Prop} {free : Nat → Prop} {b : ByteArray} {own : String}
theorem sm_callV {d : Nat} (hx : p.tables.exec = Jvm.exec) (hb : c.code = b) (hml : c.maxLocals = nL) (hown : s.vm.findClass own = some m.cls) (hts : ∀ w ∈ sm_f, w.before args s = true) (hK : va_K G vwCl (sm_tys cI cQ) s) (hN : sm_N s) (hA : ∀ q, H0.size ≤ q → A q) (hfr : d + 1 ≤ R.frames) (hlo : 38 * d + 38 ≤ R.locals) (hcc : cells ≤ R.cells) (hss : slots ≤ R.slots) {pc i a ci : Nat} {ls : Array Slot} {st : List Value} {h h1 : List sm_C} {H : Heap} {locs : List Loc} {fs as : List Value} {y : MethodName} {v : Option Value}
    (hd : decode b pc = .ok (.invokevirtual i, 3)) (hk : sm_L own i y) (hh : h[a]? = some (hO ci fs)) (hc : (vwCl[ci]?).map (fun q => q.1) = some y.cls) (hst : (st.map fun v => v.category).sum ≤ 8) (hM : sm_Met l d false y (.ref a :: as) h v h1)
    (hP : va_P G vwCl (sm_w cI cQ ad h) H) (hD : va_D A (sm_w cI cQ ad h)) (hS : va_S A H0 H locs) (hsz : ls.size = nL)
    (k : ∀ (H1 : Heap) (locs1 : List Loc), va_P G vwCl (sm_w cI cQ ad h1) H1 → va_D A (sm_w cI cQ ad h1) → va_S A H0 H1 locs1 → W p l e R s m args below meth c H1 locs1 cells slots Q (F0 m (pc + 3) ls ((v.map (sm_c ad)).toList ++ st.map (sm_c ad)))) : W p l e R s m args below meth c H locs cells slots Q (F0 m pc ls ((as.reverse ++ .ref a :: st).map (sm_c ad))) := by
  obtain ⟨q, hq, rfl, hstat, hlen, hM⟩ := hM
  have hok := sm_T_ok q hq
  obtain ⟨o1, o2, o3, o4, o5, o6, o7⟩ := hok
  have hins : Cond.instanceMethod q.1.1 ∈ lw_tbl ∧ Cond.selects q.1.1.cls q.1.1 q.1.1 ∈ lw_tbl := by
    rcases o3 with ⟨z, -⟩ | ⟨-, z⟩
    · rw [hstat] at z; cases z
    · exact z
  have hM := hM G cI cQ ad H.size
  have hrecv : ∃ cell : Cell, H[ad a]? = some cell ∧ cell.vm.isStatics = false ∧ s.vm.findClass q.1.1.cls = some cell.cls := by
    cases hci : vwCl[ci]? with
    | none => rw [hci] at hc; cases hc
    | some r =>
      rw [hci] at hc
      have hr : r.1 = q.1.1.cls := Option.some.inj hc
      rw [← hr]
      exact va_recv hK hP hci (sm_wo hh)
  have hpv : PreV s H q.1.1.cls (ad a) (sm_Pc G cI cQ ad (.ref a :: as) h H.size) (as.map (sm_c ad)) := ⟨sm_blind, hrecv, sm_pre (as := .ref a :: as) hP hK hD hN⟩
  have hlen2 : (as.map (sm_c ad)).length = q.2 := by
    simp only [List.length_cons, Bool.false_eq_true, if_false] at hlen
    rw [List.length_map]; omega
  have hst2 : (as.reverse ++ .ref a :: st).map (sm_c ad) = (as.map (sm_c ad)).reverse ++ .ref (ad a) :: st.map (sm_c ad) := by
    rw [List.map_append, List.map_reverse]; rfl
  have hroom : (sm_rm d).frames + 1 ≤ R.frames ∧ 8 + (q.1.2.2.1 + 11) + (sm_rm d).locals ≤ R.locals := ⟨hfr, by show 8 + (q.1.2.2.1 + 11) + 38 * d ≤ R.locals; omega⟩
  rw [hst2]
  refine sm_call (st0 := (as.map (sm_c ad)).reverse ++ .ref (ad a) :: st.map (sm_c ad)) (rest := st.map (sm_c ad)) (v := v) (a := (Value.ref (ad a) :: as.map (sm_c ad)).toArray) ?_ hD hS hA k
  rcases hk with hk | hk
  · exact va_runV (Ts := sm_f) ⟨hx, hb, hml, hown, hts⟩ hM ⟨callB_of (n := q.2) hts (sm_good hq) rfl rfl rfl (hts _ (sm_ff o2 rfl)) (hts _ (sm_ff hk rfl)) ⟨o5.1, o5.2, o7⟩ hroom, hts _ (sm_ff hins.1 rfl), hts _ (sm_ff hins.2 rfl)⟩ hpv rfl hlen2 hsz rfl (lv_room (sm_sum hst)) hd ⟨hcc, hss⟩
  · exact va_runVN (Ts := sm_f) ⟨hx, hb, hml, hown, hts⟩ hM ⟨va_cnB (Ts := sm_f) (n := q.2) hts (sm_good hq) rfl rfl rfl (hN _ hk rfl) (hts _ (sm_ff o2 rfl)) ⟨o5.1, o5.2, o7⟩ hroom, hts _ (sm_ff hins.1 rfl), hts _ (sm_ff hins.2 rfl)⟩ hpv rfl hlen2 hsz rfl (lv_room (sm_sum hst)) hd ⟨hcc, hss⟩
theorem sm_callS {d : Nat} (hx : p.tables.exec = Jvm.exec) (hb : c.code = b) (hml : c.maxLocals = nL) (hown : s.vm.findClass own = some m.cls) (hts : ∀ w ∈ sm_f, w.before args s = true) (hK : va_K G vwCl (sm_tys cI cQ) s) (hN : sm_N s) (hA : ∀ q, H0.size ≤ q → A q) (hfr : d + 1 ≤ R.frames) (hlo : 38 * d + 38 ≤ R.locals) (hcc : cells ≤ R.cells) (hss : slots ≤ R.slots) {pc i : Nat} {ls : Array Slot} {st : List Value} {h h1 : List sm_C} {H : Heap} {locs : List Loc} {as : List Value} {y : MethodName} {v : Option Value}
    (hd : decode b pc = .ok (.invokestatic i, 3)) (hk : sm_L own i y) (hst : (st.map fun v => v.category).sum ≤ 8) (hM : sm_Met l d true y as h v h1)
    (hP : va_P G vwCl (sm_w cI cQ ad h) H) (hD : va_D A (sm_w cI cQ ad h)) (hS : va_S A H0 H locs) (hsz : ls.size = nL)
    (k : ∀ (H1 : Heap) (locs1 : List Loc), va_P G vwCl (sm_w cI cQ ad h1) H1 → va_D A (sm_w cI cQ ad h1) → va_S A H0 H1 locs1 → W p l e R s m args below meth c H1 locs1 cells slots Q (F0 m (pc + 3) ls ((v.map (sm_c ad)).toList ++ st.map (sm_c ad)))) : W p l e R s m args below meth c H locs cells slots Q (F0 m pc ls ((as.reverse ++ st).map (sm_c ad))) := by
  obtain ⟨q, hq, rfl, hstat, hlen, hM⟩ := hM
  have hok := sm_T_ok q hq
  obtain ⟨o1, o2, o3, o4, o5, o6, o7⟩ := hok
  have hins : Cond.static q.1.1 ∈ lw_tbl := by
    rcases o3 with ⟨-, z⟩ | ⟨z, -⟩
    · exact z
    · rw [hstat] at z; cases z
  have hM := hM G cI cQ ad H.size
  have hpv : PreS s H (sm_Pc G cI cQ ad as h H.size) (as.map (sm_c ad)) := ⟨sm_blind, sm_pre (as := as) hP hK hD hN⟩
  have hlen2 : (as.map (sm_c ad)).length = q.2 := by
    simp only [if_true] at hlen
    rw [List.length_map]; omega
  have hst2 : (as.reverse ++ st).map (sm_c ad) = (as.map (sm_c ad)).reverse ++ st.map (sm_c ad) := by
    rw [List.map_append, List.map_reverse]
  have hroom : (sm_rm d).frames + 1 ≤ R.frames ∧ 8 + (q.1.2.2.1 + 11) + (sm_rm d).locals ≤ R.locals := ⟨hfr, by show 8 + (q.1.2.2.1 + 11) + 38 * d ≤ R.locals; omega⟩
  rw [hst2]
  refine sm_call (st0 := (as.map (sm_c ad)).reverse ++ st.map (sm_c ad)) (rest := st.map (sm_c ad)) (v := v) (a := (as.map (sm_c ad)).toArray) ?_ hD hS hA k
  rcases hk with hk | hk
  · exact va_runS (Ts := sm_f) ⟨hx, hb, hml, hown, hts⟩ hM ⟨callB_of (n := q.2) hts (sm_good hq) rfl rfl rfl (hts _ (sm_ff o2 rfl)) (hts _ (sm_ff hk rfl)) ⟨o5.1, o5.2, o7⟩ hroom, hts _ (sm_ff hins rfl)⟩ hpv rfl hlen2 hsz rfl (lv_room (sm_sum hst)) hd ⟨hcc, hss⟩
  · exact va_runSN (Ts := sm_f) ⟨hx, hb, hml, hown, hts⟩ hM ⟨va_cnB (Ts := sm_f) (n := q.2) hts (sm_good hq) rfl rfl rfl (hN _ hk rfl) (hts _ (sm_ff o2 rfl)) ⟨o5.1, o5.2, o7⟩ hroom, hts _ (sm_ff hins rfl), trivial⟩ hpv rfl hlen2 hsz rfl (lv_room (sm_sum hst)) hd ⟨hcc, hss⟩
end SV
set_option maxHeartbeats 4000000 in
/-- THE CONTRACT: what a walk says, the machine does -/
theorem bs_met (l : Launch) : ∀ (d : Nat) (stat : Bool) (y : MethodName) (as : List Value) (h : List sm_C) (v : Option Value) (h1 : List sm_C), BS d stat y as h v h1 → sm_Met l d stat y as h v h1
  | 0, _, _, _, _, _, _, hB => hB.elim
  | d + 1, stat, y, as, h, v, h1, hB => by
    obtain ⟨q, hq, rfl, hstat, hlen, hen, hw⟩ := hB
    have hok := sm_T_ok q hq
    obtain ⟨o1, o2, o3, o4, o5, o6, o7⟩ := hok
    refine ⟨q, hq, rfl, hstat, hlen, fun G cI cQ ad sz => ?_⟩
    refine Met.ofW (cc := q.1.2.1) (maxL := q.1.2.2.1) (ret := q.1.2.2.2.1) o4 rfl ?_
    intro p e s m args below meth c s₁ B hml hv
    obtain ⟨rfl, hsz, hP, hK, hD0, hN⟩ := hv
    have hx := B.exec
    have hb := B.bytes
    have hr := B.returns
    have hts0 := atoms_spec (ws := Cond.code q.1.1 q.1.2.1 q.1.2.2.1 q.1.2.2.2.1 :: sm_gw) B.pre
    have hts := sm_all (fun w hw hg => hts0 w (List.mem_cons_of_mem _ (List.mem_filter.mpr ⟨hw, hg⟩))) hN
    have hown : s.vm.findClass q.1.1.cls = some m.cls := findClass_of_methodNamed B.named
    have hlocks := B.notSynchronized
    subst hsz
    have hD := hD0.self (sz := s.heap.size)
    have hA : ∀ q' : Nat, s.heap.size ≤ q' → va_A (sm_w cI cQ ad h) s.heap.size q' := fun q' h => Or.inr h
    have hen2 := sm_entry (ad := ad) hen
    rw [lg_entry_eq]
    generalize hls : (lg_sl (as.map (sm_c ad)) ++ List.replicate (q.1.2.2.1 - (lg_sl (as.map (sm_c ad))).length) Slot.unset).toArray = ls at hen2 ⊢
    have KK := hw (sm_AW p l e (headSpec (Cond.code q.1.1 q.1.2.1 q.1.2.2.1 q.1.2.2.2.1 :: sm_gw) (sm_rm (d + 1))).room s m (as.map (sm_c ad)).toArray below meth c G cI cQ ad q.1.2.2.1 (va_A (sm_w cI cQ ad h) s.heap.size) s.heap 0 0 (MQ below (sm_Qc G cI cQ ad h v h1 s.heap.size) (as.map (sm_c ad)).toArray s 0 0 (va_A (sm_w cI cQ ad h) s.heap.size)) (va_A (sm_w cI cQ ad h) s.heap.size))
      (so_R hx hb hml hown hts hK (Nat.le_add_left 1 d) (by show 38 ≤ 38 * (d + 1); omega) (Nat.zero_le _) (Nat.zero_le _)) ?_ ?_ ?_
    · exact KK s.heap [] ls hP hD va_S.rf hen2.1 hen2.2
    · intro pc L st hh0 i a ci fs y2 as2 v2 h2 hd hk hh hc hst hS k H locs ls hP hD hS0 hl hn
      exact sm_callV hx hb hml hown hts hK hN hA (Nat.le_refl _) (by show 38 * d + 38 ≤ 38 * (d + 1); omega) (Nat.zero_le _) (Nat.zero_le _) hd hk hh hc hst (bs_met l d _ _ _ _ _ _ hS) hP hD hS0 hl.1
        (fun H1 locs1 hP1 hD1 hS1 => by
          have k1 := k H1 locs1 ls hP1 hD1 hS1 hl hn
          rw [List.map_append, show v2.toList.map (sm_c ad) = (v2.map (sm_c ad)).toList by cases v2 <;> rfl] at k1
          exact k1)
    · intro pc L st hh0 i y2 as2 v2 h2 hd hk hst hS k H locs ls hP hD hS0 hl hn
      exact sm_callS hx hb hml hown hts hK hN hA (Nat.le_refl _) (by show 38 * d + 38 ≤ 38 * (d + 1); omega) (Nat.zero_le _) (Nat.zero_le _) hd hk hst (bs_met l d _ _ _ _ _ _ hS) hP hD hS0 hl.1
        (fun H1 locs1 hP1 hD1 hS1 => by
          have k1 := k H1 locs1 ls hP1 hD1 hS1 hl hn
          rw [List.map_append, show v2.toList.map (sm_c ad) = (v2.map (sm_c ad)).toList by cases v2 <;> rfl] at k1
          exact k1)
    · refine ⟨?_, ?_, ?_⟩
      · intro pc L x ty hd hr2 hn hv H locs ls hP hD hS0 hl hn2
        subst hv
        exact W.zret hx hb (hr.trans hr2) hn (fun t ht hW => ⟨⟨rfl, by rw [ht]; exact hP, va_K.moved hW.alike hK, hD⟩, hS0.F ht⟩) hS0.2.2 hd
      · intro pc L hd hr2 hv H locs ls hP hD hS0 hl hn2
        subst hv
        exact W.vret hx hb (hr.trans hr2) (fun t ht hW => ⟨⟨rfl, by rw [ht]; exact hP, va_K.moved hW.alike hK, hD⟩, hS0.F ht⟩) hS0.2.2 hd
      · intro pc L w C hd hr2 hw9 hv H locs ls hP hD hS0 hl hn2
        subst hv
        exact W.aret hx hb (hr.trans hr2) (Or.inl ⟨C, rfl⟩) (by rcases hw9 with rfl | ⟨a, rfl⟩; exact Or.inl rfl; exact Or.inr ⟨ad a, rfl⟩) (fun t ht hW => ⟨⟨rfl, by rw [ht]; exact hP, va_K.moved hW.alike hK, hD⟩, hS0.F ht⟩) hS0.2.2 hd
end
section
/-! MORE ROWS: constants, switches, what the library does, truth values as numbers -/
theorem ii_1 (x : Int32) : x + Int32.ofInt 1 = x + 1 := rfl
theorem ii_m1 (x : Int32) : x + Int32.ofInt (-1) = x + (-1) := rfl
theorem ii_n (i : Nat) : nI i + Int32.ofInt 1 = nI (i + 1) := (nI_1 i).trans rfl
set_option maxRecDepth 20000 in
theorem lmX4_67 : Cond.methodLink RX4 67 yJ9_min_7cf53 ∈ lw_tbl := sq2 (i := 21) rfl
set_option maxRecDepth 20000 in
theorem lmX0_35 : Cond.methodLink RX0 35 arraycopyName ∈ lw_tbl := sq2 (i := 30) rfl
set_option maxRecDepth 20000 in
theorem lmX7_227 : Cond.methodLink RX7 227 yJ9_max_7cf53 ∈ lw_tbl := sq2 (i := 74) rfl
set_option maxRecDepth 20000 in
theorem lmX1_36 : Cond.methodLink RX1 36 yJ9_min_7cf53 ∈ lw_tbl := sq2 (i := 180) rfl
set_option maxRecDepth 20000 in
theorem lmX7_232 : Cond.methodLink RX7 232 yJ9_min_7cf53 ∈ lw_tbl := sq2 (i := 218) rfl
set_option maxRecDepth 20000 in
theorem lmX5_40 : Cond.methodLink RX5 40 yJ9_min_7cf53 ∈ lw_tbl := sq2 (i := 239) rfl
set_option maxRecDepth 20000 in
theorem lmX6_34 : Cond.methodLink RX6 34 arraycopyName ∈ lw_tbl := sq3 (i := 29) rfl
set_option maxRecDepth 20000 in
theorem lmX7_210 : Cond.methodLink RX7 210 arraycopyName ∈ lw_tbl := sq3 (i := 102) rfl
theorem rl_table4 {own : String} {b : ByteArray} {K : sm_K} (R : sm_R own b K) {pc : Nat} {L : List (Option Value)} {st : List Value} {h : List sm_C} {dflt o0 o1 o2 o3 : Int} {len : Nat} {x : Int32} (t0 t1 t2 t3 td : Nat) (hd : decode b pc = .ok (.tableswitch dflt 0 3 #[o0, o1, o2, o3], len)) (hd0 : (pc : Int) + dflt = (td : Int)) (h0 : (pc : Int) + o0 = (t0 : Int)) (h1 : (pc : Int) + o1 = (t1 : Int)) (h2 : (pc : Int) + o2 = (t2 : Int)) (h3 : (pc : Int) + o3 = (t3 : Int)) (k0 : x = 0 → K t0 L st h) (k1 : x = 1 → K t1 L st h) (k2 : x = 2 → K t2 L st h) (k3 : x = 3 → K t3 L st h) (kd : ¬ x = 0 → ¬ x = 1 → ¬ x = 2 → ¬ x = 3 → K td L st h) : K pc L (.int x :: st) h := by
  by_cases c0 : x = 0
  · have k := k0 c0
    subst c0
    exact rl_tableIn R hd (by decide) (by decide) rfl h0 k
  by_cases c1 : x = 1
  · have k := k1 c1
    subst c1
    exact rl_tableIn R hd (by decide) (by decide) rfl h1 k
  by_cases c2 : x = 2
  · have k := k2 c2
    subst c2
    exact rl_tableIn R hd (by decide) (by decide) rfl h2 k
  by_cases c3 : x = 3
  · have k := k3 c3
    subst c3
    exact rl_tableIn R hd (by decide) (by decide) rfl h3 k
  refine rl_tableOut R hd ?_ hd0 (kd c0 c1 c2 c3)
  have e : ∀ k : Int32, ¬ x = k → x.toInt ≠ k.toInt := fun k hk he => hk (Int32.toInt_inj.mp he)
  have e0 : x.toInt ≠ 0 := e 0 c0
  have e1 : x.toInt ≠ 1 := e 1 c1
  have e2 : x.toInt ≠ 2 := e 2 c2
  have e3 : x.toInt ≠ 3 := e 3 c3
  omega
theorem rl_table7 {own : String} {b : ByteArray} {K : sm_K} (R : sm_R own b K) {pc : Nat} {L : List (Option Value)} {st : List Value} {h : List sm_C} {dflt o0 o1 o2 o3 o4 o5 o6 : Int} {len : Nat} {x : Int32} (t0 t1 t2 t3 t4 t5 t6 td : Nat) (hd : decode b pc = .ok (.tableswitch dflt 0 6 #[o0, o1, o2, o3, o4, o5, o6], len)) (hd0 : (pc : Int) + dflt = (td : Int)) (h0 : (pc : Int) + o0 = (t0 : Int)) (h1 : (pc : Int) + o1 = (t1 : Int)) (h2 : (pc : Int) + o2 = (t2 : Int)) (h3 : (pc : Int) + o3 = (t3 : Int)) (h4 : (pc : Int) + o4 = (t4 : Int)) (h5 : (pc : Int) + o5 = (t5 : Int)) (h6 : (pc : Int) + o6 = (t6 : Int)) (k0 : x = 0 → K t0 L st h) (k1 : x = 1 → K t1 L st h) (k2 : x = 2 → K t2 L st h) (k3 : x = 3 → K t3 L st h) (k4 : x = 4 → K t4 L st h) (k5 : x = 5 → K t5 L st h) (k6 : x = 6 → K t6 L st h) (kd : ¬ x = 0 → ¬ x = 1 → ¬ x = 2 → ¬ x = 3 → ¬ x = 4 → ¬ x = 5 → ¬ x = 6 → K td L st h) : K pc L (.int x :: st) h := by
  by_cases c0 : x = 0
  · have k := k0 c0
    subst c0
    exact rl_tableIn R hd (by decide) (by decide) rfl h0 k
  by_cases c1 : x = 1
  · have k := k1 c1
    subst c1
    exact rl_tableIn R hd (by decide) (by decide) rfl h1 k
  by_cases c2 : x = 2
  · have k := k2 c2
    subst c2
    exact rl_tableIn R hd (by decide) (by decide) rfl h2 k
  by_cases c3 : x = 3
  · have k := k3 c3
    subst c3
    exact rl_tableIn R hd (by decide) (by decide) rfl h3 k
  by_cases c4 : x = 4
  · have k := k4 c4
    subst c4
    exact rl_tableIn R hd (by decide) (by decide) rfl h4 k
  by_cases c5 : x = 5
  · have k := k5 c5
    subst c5
    exact rl_tableIn R hd (by decide) (by decide) rfl h5 k
  by_cases c6 : x = 6
  · have k := k6 c6
    subst c6
    exact rl_tableIn R hd (by decide) (by decide) rfl h6 k
  refine rl_tableOut R hd ?_ hd0 (kd c0 c1 c2 c3 c4 c5 c6)
  have e : ∀ k : Int32, ¬ x = k → x.toInt ≠ k.toInt := fun k hk he => hk (Int32.toInt_inj.mp he)
  have e0 : x.toInt ≠ 0 := e 0 c0
  have e1 : x.toInt ≠ 1 := e 1 c1
  have e2 : x.toInt ≠ 2 := e 2 c2
  have e3 : x.toInt ≠ 3 := e 3 c3
  have e4 : x.toInt ≠ 4 := e 4 c4
  have e5 : x.toInt ≠ 5 := e 5 c5
  have e6 : x.toInt ≠ 6 := e 6 c6
  omega
theorem rl_look2 {own : String} {b : ByteArray} {K : sm_K} (R : sm_R own b K) {pc : Nat} {L : List (Option Value)} {st : List Value} {h : List sm_C} {dflt o2 o3 : Int} {len : Nat} {x : Int32} (t2 t3 td : Nat) (hd : decode b pc = .ok (.lookupswitch dflt #[(2, o2), (3, o3)], len)) (hd0 : (pc : Int) + dflt = (td : Int)) (h2 : (pc : Int) + o2 = (t2 : Int)) (h3 : (pc : Int) + o3 = (t3 : Int)) (k2 : x = 2 → K t2 L st h) (k3 : x = 3 → K t3 L st h) (kd : ¬ x = 2 → ¬ x = 3 → K td L st h) : K pc L (.int x :: st) h := by
  by_cases c2 : x = 2
  · have k := k2 c2
    subst c2
    exact rl_lookup R hd rfl (off := o2) rfl h2 k
  by_cases c3 : x = 3
  · have k := k3 c3
    subst c3
    exact rl_lookup R hd rfl (off := o3) rfl h3 k
  refine rl_lookup R hd rfl (off := dflt) ?_ hd0 (kd c2 c3)
  show Op.lookupswitch.offset [(2, o2), (3, o3)] dflt x.toInt = dflt
  rw [lv_osw c2 (by decide), lv_osw c3 (by decide)]
  rfl
/-- a truth value as a number -/
def bI (b : Bool) : Int32 := if b then 1 else 0
theorem bI_t : bI true = 1 := rfl
theorem bI_f : bI false = 0 := rfl
theorem bI_0 {b : Bool} : bI b = 0 ↔ b = false := by cases b <;> decide
theorem bI_n0 {b : Bool} : ¬ bI b = 0 ↔ b = true := by cases b <;> decide
theorem bI_1 {b : Bool} : bI b = 1 ↔ b = true := by cases b <;> decide
theorem bI_nar (b : Bool) : narrow .boolean (.int (bI b)) = .int (bI b) := by cases b <;> rfl
theorem bI_x1 (b : Bool) : bI b ^^^ 1 = bI (!b) := by cases b <;> decide
theorem nI_pred' (n : Nat) : nI (n + 1) - 1 = nI n := nI_pred n
theorem List.set_getElem?_self' {α : Type} {l : List α} {i : Nat} {a : α} (h : l[i]? = some a) : l.set i a = l := by
  obtain ⟨hi, rfl⟩ := List.getElem?_eq_some_iff.mp h
  exact List.set_getElem_self hi
theorem fb_rng' (x : Int32) : -2147483648 ≤ x.toInt ∧ x.toInt < 2147483648 := ⟨Int32.le_toInt x, Int32.toInt_lt x⟩
theorem e_si {x y : Int32} (h : x = y) : some (Value.int x) = some (Value.int y) := by rw [h]
end
section
/-! THE CLASS'S STATIC FUNCTIONS -/
theorem l31 {a b : Nat} (h : a ≤ b) (hb : b < 2147483648 := by decide) : a < 2 ^ 31 := Nat.lt_of_le_of_lt h hb
theorem nI_5 {n : Nat} (h : n < 2147483648) : (nI n = 0 ↔ n = 0) := by
  rw [show (0 : Int32) = nI 0 from rfl, nI_eq h (by decide)]
def isW (v a b : Int32) : Bool := decide (a ≤ v) && decide (v ≤ b)
def isTh (what v : Int32) : Bool := isW what 0 2 && isW v 0 (if what = 0 then 1 else 99)
def isSe (what v : Int32) : Bool := if what = 0 then isW v 0 9 else if what = 1 then isW v 0 3 else if what = 2 then isW v 0 8 else if what = 3 then isW v 0 2147483647 else false
/-- bit d of a set -/
def bt (s : Int32) (d : Nat) : Bool := !decide ((s >>> (nI d &&& 31)) &&& 1 = 0)
def opn (law : Int32) (d : Nat) : Bool := !(decide (law = 1) && decide (d % 7 = 6))
def oAg (law : Int32) (d : Nat) : Nat := if law = 2 then d + 2 else if law = 3 then max (d + 2) ((d / 7 + 1) * 7) else d + 1
def byt (w : Int64) (i : Nat) : Int32 := ((w.toUInt64 >>> ((8 * nI i : Int32).toInt64.toUInt64 &&& Int64.toUInt64 63)).toInt64).toInt32 &&& 255
def tbA (w : Int64) : Nat → Nat → Bool
  | 0, _ => true
  | j + 1, i => isW (byt w i) 32 126 && tbA w j (i + 1)
def arW (words truths lies : Int32) : Bool := decide (words >>> 28 = 0) && (decide (truths &&& (words ^^^ (-1)) = 0) && (decide (lies &&& (words ^^^ (-1)) = 0) && decide (truths &&& lies = 0)))
theorem rem7 {d : Nat} (h : d < 2147483648) : nI d - nI d / 7 * 7 = nI (d % 7) := pk_rem (d := 7) h (by decide) (by decide)
theorem div7 {d : Nat} (h : d < 2147483648) : nI d / 7 = nI (d / 7) := pk_div (d := 7) h (by decide) (by decide)
theorem isW_t {v a b : Int32} (h : a ≤ v) (h2 : v ≤ b) : isW v a b = true := by simp [isW, h, h2]
theorem isW_f1 {v a b : Int32} (h : v < a) : isW v a b = false := by simp [isW, Int32.not_le.mpr h]
theorem isW_f2 {v a b : Int32} (h : b < v) : isW v a b = false := by simp [isW, Int32.not_le.mpr h]
section ST
variable {d : Nat} {h : List sm_C}
theorem bs_X7_at {c n j : Nat} {f : Nat → Int32} {i : Int32} (h1 : h[c]? = some (hI n f)) (hi : i = nI j) (hj : j < n) (hN : n < 2147483648) : BS (d + 1) true yX7_at [.ref c, .int i] h (some (.int (f j))) h := by
  subst hi
  refine bs_of mtX7_at rfl (Nat.le_of_ble_eq_true rfl) (fun K R RV RS E => ?_)
  show K 0 [_, _] [] _
  refine rl_iload_n (pc := 0) R dX7_at_0 rfl ?_
  refine rl_if_lt (pc := 1) (tgt := 16) R dX7_at_1 rfl (fun c1 => absurd c1 (nI_pos (Nat.lt_trans hj hN))) (fun c1 => ?_)
  refine rl_iload_n (pc := 4) R dX7_at_4 rfl ?_
  refine rl_aload_n (pc := 5) R dX7_at_5 rfl ?_
  refine rl_alen (pc := 6) R dX7_at_6 (by first | assumption | rfl) ?_
  refine rl_icmp_ge (pc := 7) (tgt := 16) R dX7_at_7 rfl (fun c7 => absurd c7 (nI_ge hj hN)) (fun c7 => ?_)
  refine rl_aload_n (pc := 10) R dX7_at_10 rfl ?_
  refine rl_iload_n (pc := 11) R dX7_at_11 rfl ?_
  refine rl_iald (pc := 12) R dX7_at_12 h1 rfl hj hN ?_
  refine rl_goto (pc := 13) (tgt := 17) R dX7_at_13 rfl ?_
  exact rl_ireturn (pc := 17) E dX7_at_17 rfl rfl (rfl)
theorem bs_X7_put {c n j : Nat} {f : Nat → Int32} {i v : Int32} (h1 : h[c]? = some (hI n f)) (hi : i = nI j) (hj : j < n) (hN : n < 2147483648) : BS (d + 2) true yX7_put [.ref c, .int i, .int v] h (some (.int (f j))) (h.set c (hI n (upd f j v))) := by
  subst hi
  refine bs_of mtX7_put rfl (Nat.le_of_ble_eq_true rfl) (fun K R RV RS E => ?_)
  show K 0 [_, _, _, _] [] _
  refine rl_aload_n (pc := 0) R dX7_put_0 rfl ?_
  refine rl_iload_n (pc := 1) R dX7_put_1 rfl ?_
  refine rl_S2 (pc := 2) RS dX7_put_2 lkX7_223 (Nat.le_of_ble_eq_true rfl) (bs_X7_at h1 rfl hj hN) ?_
  refine rl_istore_n (pc := 5) R dX7_put_5 (Nat.le_of_ble_eq_true rfl) rfl ?_
  show K _ [_, _, _, _] _ _
  refine rl_iload_n (pc := 6) R dX7_put_6 rfl ?_
  refine rl_if_lt (pc := 7) (tgt := 20) R dX7_put_7 rfl (fun c7 => absurd c7 (nI_pos (Nat.lt_trans hj hN))) (fun c7 => ?_)
  refine rl_iload_n (pc := 10) R dX7_put_10 rfl ?_
  refine rl_aload_n (pc := 11) R dX7_put_11 rfl ?_
  refine rl_alen (pc := 12) R dX7_put_12 (by first | assumption | rfl) ?_
  refine rl_icmp_ge (pc := 13) (tgt := 20) R dX7_put_13 rfl (fun c13 => absurd c13 (nI_ge hj hN)) (fun c13 => ?_)
  refine rl_aload_n (pc := 16) R dX7_put_16 rfl ?_
  refine rl_iload_n (pc := 17) R dX7_put_17 rfl ?_
  refine rl_iload_n (pc := 18) R dX7_put_18 rfl ?_
  refine rl_iast (pc := 19) R dX7_put_19 h1 rfl hj hN ?_
  refine rl_iload_n (pc := 20) R dX7_put_20 rfl ?_
  exact rl_ireturn (pc := 21) E dX7_put_21 rfl rfl (rfl)
theorem bs_X7_isWithin {v a b : Int32} : BS (d + 1) true yX7_isWithin [.int v, .int a, .int b] h (some (.int (bI (isW v a b)))) h := by
  refine bs_of mtX7_isWithin rfl (Nat.le_of_ble_eq_true rfl) (fun K R RV RS E => ?_)
  show K 0 [_, _, _] [] _
  refine rl_iload_n (pc := 0) R dX7_isWithin_0 rfl ?_
  refine rl_iload_n (pc := 1) R dX7_isWithin_1 rfl ?_
  refine rl_icmp_lt (pc := 2) (tgt := 14) R dX7_isWithin_2 rfl (fun c2 => ?_) (fun c2 => ?_)
  · refine rl_iconst (pc := 14) R dX7_isWithin_14 ic_0 ?_
    exact rl_ireturn (pc := 15) E dX7_isWithin_15 rfl rfl (e_si (by first | (rw [isW_f1 c2]; rfl) | (rw [isW_f2 c7]; rfl) | (rw [isW_t (Int32.not_lt.mp c2) (Int32.not_lt.mp c7)]; rfl)))
  · refine rl_iload_n (pc := 5) R dX7_isWithin_5 rfl ?_
    refine rl_iload_n (pc := 6) R dX7_isWithin_6 rfl ?_
    refine rl_icmp_gt (pc := 7) (tgt := 14) R dX7_isWithin_7 rfl (fun c7 => ?_) (fun c7 => ?_)
    · refine rl_iconst (pc := 14) R dX7_isWithin_14 ic_0 ?_
      exact rl_ireturn (pc := 15) E dX7_isWithin_15 rfl rfl (e_si (by first | (rw [isW_f1 c2]; rfl) | (rw [isW_f2 c7]; rfl) | (rw [isW_t (Int32.not_lt.mp c2) (Int32.not_lt.mp c7)]; rfl)))
    · refine rl_iconst (pc := 10) R dX7_isWithin_10 ic_1 ?_
      refine rl_goto (pc := 11) (tgt := 15) R dX7_isWithin_11 rfl ?_
      exact rl_ireturn (pc := 15) E dX7_isWithin_15 rfl rfl (e_si (by first | (rw [isW_f1 c2]; rfl) | (rw [isW_f2 c7]; rfl) | (rw [isW_t (Int32.not_lt.mp c2) (Int32.not_lt.mp c7)]; rfl)))
theorem bs_X7_isLane {v : Int32} : BS (d + 2) true yX7_isLane [.int v] h (some (.int (bI (isW v 0 2)))) h := by
  refine bs_of mtX7_isLane rfl (Nat.le_of_ble_eq_true rfl) (fun K R RV RS E => ?_)
  show K 0 [_] [] _
  refine rl_iload_n (pc := 0) R dX7_isLane_0 rfl ?_
  refine rl_iconst (pc := 1) R dX7_isLane_1 ic_0 ?_
  refine rl_iconst (pc := 2) R dX7_isLane_2 ic_2 ?_
  refine rl_S3 (pc := 3) RS dX7_isLane_3 lkX7_76 (Nat.le_of_ble_eq_true rfl) (bs_X7_isWithin) ?_
  exact rl_ireturn (pc := 6) E dX7_isLane_6 rfl (bI_nar _) (rfl)
theorem bs_X7_isThing {w v : Int32} : BS (d + 2) true yX7_isThing [.int w, .int v] h (some (.int (bI (isTh w v)))) h := by
  refine bs_of mtX7_isThing rfl (Nat.le_of_ble_eq_true rfl) (fun K R RV RS E => ?_)
  show K 0 [_, _] [] _
  refine rl_iload_n (pc := 0) R dX7_isThing_0 rfl ?_
  refine rl_iconst (pc := 1) R dX7_isThing_1 ic_0 ?_
  refine rl_iconst (pc := 2) R dX7_isThing_2 ic_2 ?_
  refine rl_S3 (pc := 3) RS dX7_isThing_3 lkX7_76 (Nat.le_of_ble_eq_true rfl) (bs_X7_isWithin) ?_
  refine rl_if_eq (pc := 6) (tgt := 31) R dX7_isThing_6 rfl (fun c6 => ?_) (fun c6 => ?_)
  · refine rl_iconst (pc := 31) R dX7_isThing_31 ic_0 ?_
    exact rl_ireturn (pc := 32) E dX7_isThing_32 rfl rfl (e_si (by simp only [bI_0, bI_n0] at *; simp_all [isTh, bI]))
  · refine rl_iload_n (pc := 9) R dX7_isThing_9 rfl ?_
    refine rl_iconst (pc := 10) R dX7_isThing_10 ic_0 ?_
    refine rl_iload_n (pc := 11) R dX7_isThing_11 rfl ?_
    refine rl_if_ne (pc := 12) (tgt := 19) R dX7_isThing_12 rfl (fun c12 => ?_) (fun c12 => ?_)
    · refine rl_bipush (pc := 19) R dX7_isThing_19 bc_99 ?_
      refine rl_S3 (pc := 21) RS dX7_isThing_21 lkX7_76 (Nat.le_of_ble_eq_true rfl) (bs_X7_isWithin) ?_
      refine rl_if_eq (pc := 24) (tgt := 31) R dX7_isThing_24 rfl (fun c24 => ?_) (fun c24 => ?_)
      · refine rl_iconst (pc := 31) R dX7_isThing_31 ic_0 ?_
        exact rl_ireturn (pc := 32) E dX7_isThing_32 rfl rfl (e_si (by simp only [bI_0, bI_n0] at *; simp_all [isTh, bI]))
      · refine rl_iconst (pc := 27) R dX7_isThing_27 ic_1 ?_
        refine rl_goto (pc := 28) (tgt := 32) R dX7_isThing_28 rfl ?_
        exact rl_ireturn (pc := 32) E dX7_isThing_32 rfl rfl (e_si (by simp only [bI_0, bI_n0] at *; simp_all [isTh, bI]))
    · refine rl_iconst (pc := 15) R dX7_isThing_15 ic_1 ?_
      refine rl_goto (pc := 16) (tgt := 21) R dX7_isThing_16 rfl ?_
      refine rl_S3 (pc := 21) RS dX7_isThing_21 lkX7_76 (Nat.le_of_ble_eq_true rfl) (bs_X7_isWithin) ?_
      refine rl_if_eq (pc := 24) (tgt := 31) R dX7_isThing_24 rfl (fun c24 => ?_) (fun c24 => ?_)
      · refine rl_iconst (pc := 31) R dX7_isThing_31 ic_0 ?_
        exact rl_ireturn (pc := 32) E dX7_isThing_32 rfl rfl (e_si (by simp only [bI_0, bI_n0] at *; simp_all [isTh, bI]))
      · refine rl_iconst (pc := 27) R dX7_isThing_27 ic_1 ?_
        refine rl_goto (pc := 28) (tgt := 32) R dX7_isThing_28 rfl ?_
        exact rl_ireturn (pc := 32) E dX7_isThing_32 rfl rfl (e_si (by simp only [bI_0, bI_n0] at *; simp_all [isTh, bI]))
theorem bs_X7_isSetting {w v : Int32} : BS (d + 2) true yX7_isSetting [.int w, .int v] h (some (.int (bI (isSe w v)))) h := by
  refine bs_of mtX7_isSetting rfl (Nat.le_of_ble_eq_true rfl) (fun K R RV RS E => ?_)
  show K 0 [_, _] [] _
  refine rl_iload_n (pc := 0) R dX7_isSetting_0 rfl ?_
  refine rl_table4 (pc := 1) R 32 40 47 55 63 dX7_isSetting_1 rfl rfl rfl rfl rfl (fun c0 => ?_) (fun c1 => ?_) (fun c2 => ?_) (fun c3 => ?_) (fun c0 c1 c2 c3 => ?_)
  · subst c0
    refine rl_iload_n (pc := 32) R dX7_isSetting_32 rfl ?_
    refine rl_iconst (pc := 33) R dX7_isSetting_33 ic_0 ?_
    refine rl_bipush (pc := 34) R dX7_isSetting_34 bc_9 ?_
    refine rl_S3 (pc := 36) RS dX7_isSetting_36 lkX7_76 (Nat.le_of_ble_eq_true rfl) (bs_X7_isWithin) ?_
    exact rl_ireturn (pc := 39) E dX7_isSetting_39 rfl (bI_nar _) (rfl)
  · subst c1
    refine rl_iload_n (pc := 40) R dX7_isSetting_40 rfl ?_
    refine rl_iconst (pc := 41) R dX7_isSetting_41 ic_0 ?_
    refine rl_iconst (pc := 42) R dX7_isSetting_42 ic_3 ?_
    refine rl_S3 (pc := 43) RS dX7_isSetting_43 lkX7_76 (Nat.le_of_ble_eq_true rfl) (bs_X7_isWithin) ?_
    exact rl_ireturn (pc := 46) E dX7_isSetting_46 rfl (bI_nar _) (rfl)
  · subst c2
    refine rl_iload_n (pc := 47) R dX7_isSetting_47 rfl ?_
    refine rl_iconst (pc := 48) R dX7_isSetting_48 ic_0 ?_
    refine rl_bipush (pc := 49) R dX7_isSetting_49 bc_8 ?_
    refine rl_S3 (pc := 51) RS dX7_isSetting_51 lkX7_76 (Nat.le_of_ble_eq_true rfl) (bs_X7_isWithin) ?_
    exact rl_ireturn (pc := 54) E dX7_isSetting_54 rfl (bI_nar _) (rfl)
  · subst c3
    refine rl_iload_n (pc := 55) R dX7_isSetting_55 rfl ?_
    refine rl_iconst (pc := 56) R dX7_isSetting_56 ic_0 ?_
    refine rl_ldc (pc := 57) R dX7_isSetting_57 kcX7_219 ?_
    refine rl_S3 (pc := 59) RS dX7_isSetting_59 lkX7_76 (Nat.le_of_ble_eq_true rfl) (bs_X7_isWithin) ?_
    exact rl_ireturn (pc := 62) E dX7_isSetting_62 rfl (bI_nar _) (rfl)
  · refine rl_iconst (pc := 63) R dX7_isSetting_63 ic_0 ?_
    exact rl_ireturn (pc := 64) E dX7_isSetting_64 rfl rfl (e_si (by simp_all [isSe, bI]))
theorem bs_X7_holds {s : Int32} {i : Nat} : BS (d + 1) true yX7_holds [.int s, .int (nI i)] h (some (.int (bI (bt s i)))) h := by
  refine bs_of mtX7_holds rfl (Nat.le_of_ble_eq_true rfl) (fun K R RV RS E => ?_)
  show K 0 [_, _] [] _
  refine rl_iload_n (pc := 0) R dX7_holds_0 rfl ?_
  refine rl_iload_n (pc := 1) R dX7_holds_1 rfl ?_
  refine rl_ishr (pc := 2) R dX7_holds_2 ?_
  refine rl_iconst (pc := 3) R dX7_holds_3 ic_1 ?_
  refine rl_iand (pc := 4) R dX7_holds_4 ?_
  refine rl_if_eq (pc := 5) (tgt := 12) R dX7_holds_5 rfl (fun c5 => ?_) (fun c5 => ?_)
  · refine rl_iconst (pc := 12) R dX7_holds_12 ic_0 ?_
    exact rl_ireturn (pc := 13) E dX7_holds_13 rfl rfl (e_si (by simp_all [bt, bI]))
  · refine rl_iconst (pc := 8) R dX7_holds_8 ic_1 ?_
    refine rl_goto (pc := 9) (tgt := 13) R dX7_holds_9 rfl ?_
    exact rl_ireturn (pc := 13) E dX7_holds_13 rfl rfl (e_si (by simp_all [bt, bI]))
theorem bs_X7_isOpen {law : Int32} {i : Nat} (hi : i < 2147483648) : BS (d + 1) true yX7_isOpen [.int law, .int (nI i)] h (some (.int (bI (opn law i)))) h := by
  refine bs_of mtX7_isOpen rfl (Nat.le_of_ble_eq_true rfl) (fun K R RV RS E => ?_)
  show K 0 [_, _] [] _
  refine rl_iload_n (pc := 0) R dX7_isOpen_0 rfl ?_
  refine rl_iconst (pc := 1) R dX7_isOpen_1 ic_1 ?_
  refine rl_icmp_ne (pc := 2) (tgt := 14) R dX7_isOpen_2 rfl (fun c2 => ?_) (fun c2 => ?_)
  · refine rl_iconst (pc := 14) R dX7_isOpen_14 ic_1 ?_
    refine rl_goto (pc := 15) (tgt := 19) R dX7_isOpen_15 rfl ?_
    exact rl_ireturn (pc := 19) E dX7_isOpen_19 rfl rfl (e_si (by have e := nI_eq (a := i % 7) (b := 6) (by omega) (by decide); have e6 : (6 : Int32) = nI 6 := rfl; simp_all [opn, bI]))
  · refine rl_iload_n (pc := 5) R dX7_isOpen_5 rfl ?_
    refine rl_bipush (pc := 6) R dX7_isOpen_6 bc_7 ?_
    refine rl_irem (pc := 8) R dX7_isOpen_8 (by decide) ?_
    refine rl_bipush (pc := 9) R dX7_isOpen_9 bc_6 ?_
    rw [rem7 hi]
    refine rl_icmp_eq (pc := 11) (tgt := 18) R dX7_isOpen_11 rfl (fun c11 => ?_) (fun c11 => ?_)
    · refine rl_iconst (pc := 18) R dX7_isOpen_18 ic_0 ?_
      exact rl_ireturn (pc := 19) E dX7_isOpen_19 rfl rfl (e_si (by have e := nI_eq (a := i % 7) (b := 6) (by omega) (by decide); have e6 : (6 : Int32) = nI 6 := rfl; simp_all [opn, bI]))
    · refine rl_iconst (pc := 14) R dX7_isOpen_14 ic_1 ?_
      refine rl_goto (pc := 15) (tgt := 19) R dX7_isOpen_15 rfl ?_
      exact rl_ireturn (pc := 19) E dX7_isOpen_19 rfl rfl (e_si (by have e := nI_eq (a := i % 7) (b := 6) (by omega) (by decide); have e6 : (6 : Int32) = nI 6 := rfl; simp_all [opn, bI]))
theorem bs_X7_openAgain {law : Int32} {i : Nat} (hi : i < 1000000) : BS (d + 1) true yX7_openAgain [.int law, .int (nI i)] h (some (.int (nI (oAg law i)))) h := by
  refine bs_of mtX7_openAgain rfl (Nat.le_of_ble_eq_true rfl) (fun K R RV RS E => ?_)
  show K 0 [_, _] [] _
  refine rl_iload_n (pc := 0) R dX7_openAgain_0 rfl ?_
  refine rl_look2 (pc := 1) R 28 32 48 dX7_openAgain_1 rfl rfl rfl (fun c2 => ?_) (fun c3 => ?_) (fun c2 c3 => ?_)
  · subst c2
    refine rl_iload_n (pc := 28) R dX7_openAgain_28 rfl ?_
    refine rl_iconst (pc := 29) R dX7_openAgain_29 ic_2 ?_
    refine rl_iadd (pc := 30) R dX7_openAgain_30 ?_
    exact rl_ireturn (pc := 31) E dX7_openAgain_31 rfl rfl (e_si (nI_add i 2).symm)
  · subst c3
    refine rl_iload_n (pc := 32) R dX7_openAgain_32 rfl ?_
    refine rl_iconst (pc := 33) R dX7_openAgain_33 ic_2 ?_
    refine rl_iadd (pc := 34) R dX7_openAgain_34 ?_
    refine rl_iload_n (pc := 35) R dX7_openAgain_35 rfl ?_
    refine rl_bipush (pc := 36) R dX7_openAgain_36 bc_7 ?_
    refine rl_idiv (pc := 38) R dX7_openAgain_38 (by decide) ?_
    refine rl_iconst (pc := 39) R dX7_openAgain_39 ic_1 ?_
    refine rl_iadd (pc := 40) R dX7_openAgain_40 ?_
    refine rl_bipush (pc := 41) R dX7_openAgain_41 bc_7 ?_
    refine rl_imul (pc := 43) R dX7_openAgain_43 ?_
    refine rl_max (pc := 44) R dX7_openAgain_44 lmX7_227 (Nat.le_of_ble_eq_true rfl) ?_
    exact rl_ireturn (pc := 47) E dX7_openAgain_47 rfl rfl (e_si (by rw [div7 (by omega), show nI i + 2 = nI (i + 2) from nI_add i 2, show nI (i / 7) + 1 = nI (i / 7 + 1) from nI_add _ 1, show nI (i / 7 + 1) * 7 = nI ((i / 7 + 1) * 7) from pk_mul _ 7]; simp only [nI_ltI (a := i + 2) (b := (i / 7 + 1) * 7) (by omega) (by omega)]; show nI (max (i + 2) ((i / 7 + 1) * 7)) = _; split <;> congr 1 <;> omega))
  · refine rl_iload_n (pc := 48) R dX7_openAgain_48 rfl ?_
    refine rl_iconst (pc := 49) R dX7_openAgain_49 ic_1 ?_
    refine rl_iadd (pc := 50) R dX7_openAgain_50 ?_
    exact rl_ireturn (pc := 51) E dX7_openAgain_51 rfl rfl (e_si (by simp only [oAg, if_neg c2, if_neg c3]; exact (nI_add i 1).symm))
theorem bs_X7_byteFromLowest {w : Int64} {i : Nat} : BS (d + 1) true yX7_byteFromLowest [.long w, .int (nI i)] h (some (.int (byt w i))) h := by
  refine bs_of mtX7_byteFromLowest rfl (Nat.le_of_ble_eq_true rfl) (fun K R RV RS E => ?_)
  show K 0 [_, _, _] [] _
  refine rl_lload_n (pc := 0) R dX7_byteFromLowest_0 rfl ?_
  refine rl_bipush (pc := 1) R dX7_byteFromLowest_1 bc_8 ?_
  refine rl_iload_n (pc := 3) R dX7_byteFromLowest_3 rfl ?_
  refine rl_imul (pc := 4) R dX7_byteFromLowest_4 ?_
  refine rl_lushr (pc := 5) R dX7_byteFromLowest_5 ?_
  refine rl_l2i (pc := 6) R dX7_byteFromLowest_6 ?_
  refine rl_sipush (pc := 7) R dX7_byteFromLowest_7 sc_255 ?_
  refine rl_iand (pc := 10) R dX7_byteFromLowest_10 ?_
  exact rl_ireturn (pc := 11) E dX7_byteFromLowest_11 rfl rfl (rfl)
theorem bs_X7_areTextBytes {w : Int64} {m : Nat} (hm : m ≤ 8) : BS (d + 2) true yX7_areTextBytes [.long w, .int (nI m)] h (some (.int (bI (tbA w m 0)))) h := by
  refine bs_of mtX7_areTextBytes rfl (Nat.le_of_ble_eq_true rfl) (fun K R RV RS E => ?_)
  show K 0 [_, _, _, _] [] _
  have loop : ∀ j i : Nat, i + j = m → tbA w j i = tbA w m 0 → K 2 [some (.long w), none, some (.int (nI m)), some (.int (nI i))] [] h := by
    intro j
    induction j with
    | zero =>
      intro i hij hs
      refine rl_iload_n (pc := 2) R dX7_areTextBytes_2 rfl ?_
      refine rl_iload_n (pc := 3) R dX7_areTextBytes_3 rfl ?_
      refine rl_icmp_ge (pc := 4) (tgt := 30) R dX7_areTextBytes_4 rfl (fun c4 => ?_) (fun c4 => absurd (nI_le (by omega) (by omega)) c4)
      refine rl_iconst (pc := 30) R dX7_areTextBytes_30 ic_1 ?_
      exact rl_ireturn (pc := 31) E dX7_areTextBytes_31 rfl rfl (e_si (by rw [← hs]; rfl))
    | succ j ih =>
      intro i hij hs
      refine rl_iload_n (pc := 2) R dX7_areTextBytes_2 rfl ?_
      refine rl_iload_n (pc := 3) R dX7_areTextBytes_3 rfl ?_
      refine rl_icmp_ge (pc := 4) (tgt := 30) R dX7_areTextBytes_4 rfl (fun c4 => absurd c4 (nI_ge (by omega) (by omega))) (fun c4 => ?_)
      refine rl_lload_n (pc := 7) R dX7_areTextBytes_7 rfl ?_
      refine rl_iload_n (pc := 8) R dX7_areTextBytes_8 rfl ?_
      refine rl_S2 (pc := 9) RS dX7_areTextBytes_9 lkX7_220 (Nat.le_of_ble_eq_true rfl) (bs_X7_byteFromLowest) ?_
      refine rl_bipush (pc := 12) R dX7_areTextBytes_12 bc_32 ?_
      refine rl_bipush (pc := 14) R dX7_areTextBytes_14 bc_126 ?_
      refine rl_S3 (pc := 16) RS dX7_areTextBytes_16 lkX7_76 (Nat.le_of_ble_eq_true rfl) (bs_X7_isWithin) ?_
      refine rl_if_ne (pc := 19) (tgt := 24) R dX7_areTextBytes_19 rfl (fun c19 => ?_) (fun c19 => ?_)
      · rw [bI_n0] at c19
        refine rl_iinc (pc := 24) R dX7_areTextBytes_24 rfl (ii_n i) rfl ?_
        show K _ [_, _, _, _] _ _
        refine rl_goto (pc := 27) (tgt := 2) R dX7_areTextBytes_27 rfl (ih (i + 1) (by omega) (by rw [← hs]; simp only [tbA]; rw [c19]; rfl))
      · rw [bI_0] at c19
        refine rl_iconst (pc := 22) R dX7_areTextBytes_22 ic_0 ?_
        exact rl_ireturn (pc := 23) E dX7_areTextBytes_23 rfl rfl (e_si (by rw [← hs]; simp only [tbA]; rw [c19]; rfl))
  refine rl_iconst (pc := 0) R dX7_areTextBytes_0 ic_0 ?_
  refine rl_istore_n (pc := 1) R dX7_areTextBytes_1 (Nat.le_of_ble_eq_true rfl) rfl ?_
  show K _ [_, _, _, _] _ _
  exact loop m 0 (by omega) rfl
theorem bs_X7_areWords {w t l : Int32} : BS (d + 1) true yX7_areWords [.int w, .int t, .int l] h (some (.int (bI (arW w t l)))) h := by
  refine bs_of mtX7_areWords rfl (Nat.le_of_ble_eq_true rfl) (fun K R RV RS E => ?_)
  show K 0 [_, _, _] [] _
  refine rl_iload_n (pc := 0) R dX7_areWords_0 rfl ?_
  refine rl_bipush (pc := 1) R dX7_areWords_1 bc_28 ?_
  rw [show (28 : Int32) = 28 from rfl]
  refine rl_ishr (pc := 3) R dX7_areWords_3 ?_
  rw [show (28 : Int32) &&& 31 = 28 from by decide]
  refine rl_if_ne (pc := 4) (tgt := 33) R dX7_areWords_4 rfl (fun c4 => ?_) (fun c4 => ?_)
  · refine rl_iconst (pc := 33) R dX7_areWords_33 ic_0 ?_
    exact rl_ireturn (pc := 34) E dX7_areWords_34 rfl rfl (e_si (by simp_all [arW, bI]))
  · refine rl_iload_n (pc := 7) R dX7_areWords_7 rfl ?_
    refine rl_iload_n (pc := 8) R dX7_areWords_8 rfl ?_
    refine rl_iconst (pc := 9) R dX7_areWords_9 ic_m1 ?_
    refine rl_ixor (pc := 10) R dX7_areWords_10 ?_
    refine rl_iand (pc := 11) R dX7_areWords_11 ?_
    refine rl_if_ne (pc := 12) (tgt := 33) R dX7_areWords_12 rfl (fun c12 => ?_) (fun c12 => ?_)
    · refine rl_iconst (pc := 33) R dX7_areWords_33 ic_0 ?_
      exact rl_ireturn (pc := 34) E dX7_areWords_34 rfl rfl (e_si (by simp_all [arW, bI]))
    · refine rl_iload_n (pc := 15) R dX7_areWords_15 rfl ?_
      refine rl_iload_n (pc := 16) R dX7_areWords_16 rfl ?_
      refine rl_iconst (pc := 17) R dX7_areWords_17 ic_m1 ?_
      refine rl_ixor (pc := 18) R dX7_areWords_18 ?_
      refine rl_iand (pc := 19) R dX7_areWords_19 ?_
      refine rl_if_ne (pc := 20) (tgt := 33) R dX7_areWords_20 rfl (fun c20 => ?_) (fun c20 => ?_)
      · refine rl_iconst (pc := 33) R dX7_areWords_33 ic_0 ?_
        exact rl_ireturn (pc := 34) E dX7_areWords_34 rfl rfl (e_si (by simp_all [arW, bI]))
      · refine rl_iload_n (pc := 23) R dX7_areWords_23 rfl ?_
        refine rl_iload_n (pc := 24) R dX7_areWords_24 rfl ?_
        refine rl_iand (pc := 25) R dX7_areWords_25 ?_
        refine rl_if_ne (pc := 26) (tgt := 33) R dX7_areWords_26 rfl (fun c26 => ?_) (fun c26 => ?_)
        · refine rl_iconst (pc := 33) R dX7_areWords_33 ic_0 ?_
          exact rl_ireturn (pc := 34) E dX7_areWords_34 rfl rfl (e_si (by simp_all [arW, bI]))
        · refine rl_iconst (pc := 29) R dX7_areWords_29 ic_1 ?_
          refine rl_goto (pc := 30) (tgt := 34) R dX7_areWords_30 rfl ?_
          exact rl_ireturn (pc := 34) E dX7_areWords_34 rfl rfl (e_si (by simp_all [arW, bI]))
end ST
end
section
/-! DAYS -/
/-- what THE COURT has on a day -/
def crt (n : Nat) (nw wo co : Nat → Int32) (i : Nat) (lies : Bool) (left trust : Int32) : Int32 := if 8 * left ≤ trust * (nI n - nI i) then (if nw i = 1 then wo i else if lies then - co i else 0) else 0
def mNS (nw : Nat → Int32) : Nat → Nat → Int32 → Int32
  | 0, _, s => s
  | j + 1, i, s => mNS nw j (i + 1) (s + nw i)
def sOf (nw g : Nat → Int32) (news : Int32) : Nat → Nat → Int32 → Int32
  | 0, _, s => s
  | j + 1, i, s => sOf nw g news j (i + 1) (s + (if nw i = news then g i else 0))
/-- the days of an object of Days -/
def rD (h : List sm_C) (k c n : Nat) (nw wo co : Nat → Int32) : Prop := h[k]? = some (hO 0 [.ref c, .int (nI n)]) ∧ n ≤ 28 ∧ ∃ f : Nat → Int32, h[c]? = some (hI 84 f) ∧ ∀ i, i < n → f (i * 3) = nw i ∧ f (i * 3 + 1) = wo i ∧ f (i * 3 + 2) = co i
theorem ix3 (i w : Nat) : nI i * 3 + nI w = nI (i * 3 + w) := by rw [show (3 : Int32) = nI 3 from rfl, pk_mul, nI_add]
section DY
variable {d : Nat} {h : List sm_C} {k c n : Nat} {f nw wo co : Nat → Int32}
theorem bs_X0_has {i : Int32} (h1 : h[k]? = some (hO 0 [.ref c, .int (nI n)])) : BS (d + 1) false yX0_has [.ref k, .int i] h (some (.int (bI (!decide (i < 0) && !decide (nI n ≤ i))))) h := by
  refine bs_of mtX0_has rfl (Nat.le_of_ble_eq_true rfl) (fun K R RV RS E => ?_)
  show K 0 [_, _] [] _
  refine rl_iload_n (pc := 0) R dX0_has_0 rfl ?_
  refine rl_if_lt (pc := 1) (tgt := 16) R dX0_has_1 rfl (fun c1 => ?_) (fun c1 => ?_)
  · refine rl_iconst (pc := 16) R dX0_has_16 ic_0 ?_
    exact rl_ireturn (pc := 17) E dX0_has_17 rfl rfl (e_si (by simp_all [bI]))
  · refine rl_iload_n (pc := 4) R dX0_has_4 rfl ?_
    refine rl_aload_n (pc := 5) R dX0_has_5 rfl ?_
    refine rl_getf (pc := 6) R dX0_has_6 fkX0_15 (by first | assumption | rfl) rfl ?_
    refine rl_icmp_ge (pc := 9) (tgt := 16) R dX0_has_9 rfl (fun c9 => ?_) (fun c9 => ?_)
    · refine rl_iconst (pc := 16) R dX0_has_16 ic_0 ?_
      exact rl_ireturn (pc := 17) E dX0_has_17 rfl rfl (e_si (by simp_all [bI]))
    · refine rl_iconst (pc := 12) R dX0_has_12 ic_1 ?_
      refine rl_goto (pc := 13) (tgt := 17) R dX0_has_13 rfl ?_
      exact rl_ireturn (pc := 17) E dX0_has_17 rfl rfl (e_si (by simp_all [bI]))
theorem bs_X0_hasAll {s : Int32} (h1 : h[k]? = some (hO 0 [.ref c, .int (nI n)])) : BS (d + 1) false yX0_hasAll [.ref k, .int s] h (some (.int (bI (decide ((s.toUInt32 >>> ((nI n).toUInt32 &&& Int32.toUInt32 31)).toInt32 = 0))))) h := by
  refine bs_of mtX0_hasAll rfl (Nat.le_of_ble_eq_true rfl) (fun K R RV RS E => ?_)
  show K 0 [_, _] [] _
  refine rl_iload_n (pc := 0) R dX0_hasAll_0 rfl ?_
  refine rl_aload_n (pc := 1) R dX0_hasAll_1 rfl ?_
  refine rl_getf (pc := 2) R dX0_hasAll_2 fkX0_15 (by first | assumption | rfl) rfl ?_
  refine rl_iushr (pc := 5) R dX0_hasAll_5 ?_
  refine rl_if_ne (pc := 6) (tgt := 13) R dX0_hasAll_6 rfl (fun c6 => ?_) (fun c6 => ?_)
  · refine rl_iconst (pc := 13) R dX0_hasAll_13 ic_0 ?_
    exact rl_ireturn (pc := 14) E dX0_hasAll_14 rfl rfl (e_si (by simp_all [bI]))
  · refine rl_iconst (pc := 9) R dX0_hasAll_9 ic_1 ?_
    refine rl_goto (pc := 10) (tgt := 14) R dX0_hasAll_10 rfl ?_
    exact rl_ireturn (pc := 14) E dX0_hasAll_14 rfl rfl (e_si (by simp_all [bI]))
theorem bs_X0_isFull (h1 : h[k]? = some (hO 0 [.ref c, .int (nI n)])) : BS (d + 1) false yX0_isFull [.ref k] h (some (.int (bI (!decide (nI n < 28))))) h := by
  refine bs_of mtX0_isFull rfl (Nat.le_of_ble_eq_true rfl) (fun K R RV RS E => ?_)
  show K 0 [_] [] _
  refine rl_aload_n (pc := 0) R dX0_isFull_0 rfl ?_
  refine rl_getf (pc := 1) R dX0_isFull_1 fkX0_15 (by first | assumption | rfl) rfl ?_
  refine rl_bipush (pc := 4) R dX0_isFull_4 bc_28 ?_
  refine rl_icmp_lt (pc := 6) (tgt := 13) R dX0_isFull_6 rfl (fun c6 => ?_) (fun c6 => ?_)
  · refine rl_iconst (pc := 13) R dX0_isFull_13 ic_0 ?_
    exact rl_ireturn (pc := 14) E dX0_isFull_14 rfl rfl (e_si (by simp_all [bI]))
  · refine rl_iconst (pc := 9) R dX0_isFull_9 ic_1 ?_
    refine rl_goto (pc := 10) (tgt := 14) R dX0_isFull_10 rfl ?_
    exact rl_ireturn (pc := 14) E dX0_isFull_14 rfl rfl (e_si (by simp_all [bI]))
theorem bs_X0_tell {i w : Nat} (h1 : h[k]? = some (hO 0 [.ref c, .int (nI n)])) (h2 : h[c]? = some (hI 84 f)) (hi : i < 28) (hw : w < 3) : BS (d + 2) false yX0_tell [.ref k, .int (nI i), .int (nI w)] h (some (.int (f (i * 3 + w)))) h := by
  refine bs_of mtX0_tell rfl (Nat.le_of_ble_eq_true rfl) (fun K R RV RS E => ?_)
  show K 0 [_, _, _] [] _
  refine rl_aload_n (pc := 0) R dX0_tell_0 rfl ?_
  refine rl_getf (pc := 1) R dX0_tell_1 fkX0_9 (by first | assumption | rfl) rfl ?_
  refine rl_iload_n (pc := 4) R dX0_tell_4 rfl ?_
  refine rl_iconst (pc := 5) R dX0_tell_5 ic_3 ?_
  refine rl_imul (pc := 6) R dX0_tell_6 ?_
  refine rl_iload_n (pc := 7) R dX0_tell_7 rfl ?_
  refine rl_iadd (pc := 8) R dX0_tell_8 ?_
  refine rl_S2 (pc := 9) RS dX0_tell_9 lkX0_19 (Nat.le_of_ble_eq_true rfl) (bs_X7_at h2 (ix3 i w) (by omega) (by decide)) ?_
  exact rl_ireturn (pc := 12) E dX0_tell_12 rfl rfl (rfl)
theorem bs_X0_change {i w : Nat} {v : Int32} (h1 : h[k]? = some (hO 0 [.ref c, .int (nI n)])) (h2 : h[c]? = some (hI 84 f)) (hi : i < 28) (hw : w < 3) : BS (d + 3) false yX0_change [.ref k, .int (nI i), .int (nI w), .int v] h (some (.int (f (i * 3 + w)))) (h.set c (hI 84 (upd f (i * 3 + w) v))) := by
  refine bs_of mtX0_change rfl (Nat.le_of_ble_eq_true rfl) (fun K R RV RS E => ?_)
  show K 0 [_, _, _, _] [] _
  refine rl_aload_n (pc := 0) R dX0_change_0 rfl ?_
  refine rl_getf (pc := 1) R dX0_change_1 fkX0_9 (by first | assumption | rfl) rfl ?_
  refine rl_iload_n (pc := 4) R dX0_change_4 rfl ?_
  refine rl_iconst (pc := 5) R dX0_change_5 ic_3 ?_
  refine rl_imul (pc := 6) R dX0_change_6 ?_
  refine rl_iload_n (pc := 7) R dX0_change_7 rfl ?_
  refine rl_iadd (pc := 8) R dX0_change_8 ?_
  refine rl_iload_n (pc := 9) R dX0_change_9 rfl ?_
  refine rl_S3 (pc := 10) RS dX0_change_10 lkX0_23 (Nat.le_of_ble_eq_true rfl) (bs_X7_put h2 (ix3 i w) (by omega) (by decide)) ?_
  exact rl_ireturn (pc := 13) E dX0_change_13 rfl rfl (rfl)
theorem bs_X0_add {a b e : Int32} (h1 : h[k]? = some (hO 0 [.ref c, .int (nI n)])) (h2 : h[c]? = some (hI 84 f)) (hn : n < 28) : BS (d + 4) false yX0_add [.ref k, .int a, .int b, .int e] h (some (.int (nI n))) ((h.set c (hI 84 (upd (upd (upd f (n * 3 + 0) a) (n * 3 + 1) b) (n * 3 + 2) e))).set k (hO 0 [.ref c, .int (nI (n + 1))])) := by
  refine bs_of mtX0_add rfl (Nat.le_of_ble_eq_true rfl) (fun K R RV RS E => ?_)
  show K 0 [_, _, _, _] [] _
  refine rl_aload_n (pc := 0) R dX0_add_0 rfl ?_
  refine rl_V0 (pc := 1) RV dX0_add_1 lkX0_27 (by first | assumption | rfl) rfl (Nat.le_of_ble_eq_true rfl) (bs_X0_isFull h1) ?_
  refine rl_if_eq (pc := 4) (tgt := 10) R dX0_add_4 rfl (fun c4 => ?_) (fun c4 => absurd (by rw [show decide (nI n < 28) = true from decide_eq_true (nI_lt (b := 28) hn (by decide))]; rfl) c4)
  refine rl_aload_n (pc := 10) R dX0_add_10 rfl ?_
  refine rl_aload_n (pc := 11) R dX0_add_11 rfl ?_
  refine rl_getf (pc := 12) R dX0_add_12 fkX0_15 h1 rfl ?_
  refine rl_iconst (pc := 15) R dX0_add_15 ic_0 ?_
  refine rl_iload_n (pc := 16) R dX0_add_16 rfl ?_
  refine rl_V3 (pc := 17) RV dX0_add_17 lkX0_31 h1 rfl (Nat.le_of_ble_eq_true rfl) (bs_X0_change (w := 0) h1 h2 hn (by decide)) ?_
  refine rl_pop (pc := 20) R dX0_add_20 rfl ?_
  refine rl_aload_n (pc := 21) R dX0_add_21 rfl ?_
  refine rl_aload_n (pc := 22) R dX0_add_22 rfl ?_
  refine rl_getf (pc := 23) R dX0_add_23 fkX0_15 (sm_h_oi h1 h2) rfl ?_
  refine rl_iconst (pc := 26) R dX0_add_26 ic_1 ?_
  refine rl_iload_n (pc := 27) R dX0_add_27 rfl ?_
  refine rl_V3 (pc := 28) RV dX0_add_28 lkX0_31 (sm_h_oi h1 h2) rfl (Nat.le_of_ble_eq_true rfl) (bs_X0_change (w := 1) (sm_h_oi h1 h2) (sm_h_eq h2) hn (by decide)) ?_
  rw [List.set_set]
  refine rl_pop (pc := 31) R dX0_add_31 rfl ?_
  refine rl_aload_n (pc := 32) R dX0_add_32 rfl ?_
  refine rl_aload_n (pc := 33) R dX0_add_33 rfl ?_
  refine rl_getf (pc := 34) R dX0_add_34 fkX0_15 (sm_h_oi h1 h2) rfl ?_
  refine rl_iconst (pc := 37) R dX0_add_37 ic_2 ?_
  refine rl_iload_n (pc := 38) R dX0_add_38 rfl ?_
  refine rl_V3 (pc := 39) RV dX0_add_39 lkX0_31 (sm_h_oi h1 h2) rfl (Nat.le_of_ble_eq_true rfl) (bs_X0_change (w := 2) (sm_h_oi h1 h2) (sm_h_eq h2) hn (by decide)) ?_
  rw [List.set_set]
  refine rl_pop (pc := 42) R dX0_add_42 rfl ?_
  refine rl_aload_n (pc := 43) R dX0_add_43 rfl ?_
  refine rl_dup (pc := 44) R dX0_add_44 rfl ?_
  refine rl_getf (pc := 45) R dX0_add_45 fkX0_15 (sm_h_oi h1 h2) rfl ?_
  refine rl_iconst (pc := 48) R dX0_add_48 ic_1 ?_
  refine rl_iadd (pc := 49) R dX0_add_49 ?_
  rw [nI_1]
  refine rl_putI (pc := 50) R dX0_add_50 fpX0_15 (sm_h_oi h1 h2) (Nat.le_of_ble_eq_true rfl) ?_
  refine rl_aload_n (pc := 53) R dX0_add_53 rfl ?_
  refine rl_getf (pc := 54) R dX0_add_54 fkX0_15 (sm_h_eq (sm_h_oi h1 h2)) rfl ?_
  refine rl_iconst (pc := 57) R dX0_add_57 ic_1 ?_
  refine rl_isub (pc := 58) R dX0_add_58 ?_
  rw [nI_pred' n]
  exact rl_ireturn (pc := 59) E dX0_add_59 rfl rfl (rfl)
theorem bs_X0_add_full {a b e : Int32} (h1 : h[k]? = some (hO 0 [.ref c, .int (nI 28)])) : BS (d + 2) false yX0_add [.ref k, .int a, .int b, .int e] h (some (.int (-3))) h := by
  refine bs_of mtX0_add rfl (Nat.le_of_ble_eq_true rfl) (fun K R RV RS E => ?_)
  show K 0 [_, _, _, _] [] _
  refine rl_aload_n (pc := 0) R dX0_add_0 rfl ?_
  refine rl_V0 (pc := 1) RV dX0_add_1 lkX0_27 (by first | assumption | rfl) rfl (Nat.le_of_ble_eq_true rfl) (bs_X0_isFull h1) ?_
  refine rl_if_eq (pc := 4) (tgt := 10) R dX0_add_4 rfl (fun c4 => absurd c4 (by decide)) (fun c4 => ?_)
  refine rl_bipush (pc := 7) R dX0_add_7 bc_m3 ?_
  exact rl_ireturn (pc := 9) E dX0_add_9 rfl rfl (rfl)
theorem bs_X0_removeLast (h1 : h[k]? = some (hO 0 [.ref c, .int (nI n)])) (hn : n ≤ 28) : BS (d + 1) false yX0_removeLast [.ref k] h (some (.int (if n = 0 then -4 else nI (n - 1)))) (if n = 0 then h else h.set k (hO 0 [.ref c, .int (nI (n - 1))])) := by
  rcases Nat.eq_zero_or_pos n with rfl | hp
  · simp only [if_true]
    refine bs_of mtX0_removeLast rfl (Nat.le_of_ble_eq_true rfl) (fun K R RV RS E => ?_)
    show K 0 [_] [] _
    refine rl_aload_n (pc := 0) R dX0_removeLast_0 rfl ?_
    refine rl_getf (pc := 1) R dX0_removeLast_1 fkX0_15 (by first | assumption | rfl) rfl ?_
    refine rl_if_gt (pc := 4) (tgt := 10) R dX0_removeLast_4 rfl (fun c4 => absurd c4 (by decide)) (fun c4 => ?_)
    refine rl_bipush (pc := 7) R dX0_removeLast_7 bc_m4 ?_
    exact rl_ireturn (pc := 9) E dX0_removeLast_9 rfl rfl (rfl)
  · obtain ⟨m, rfl⟩ : ∃ m, n = m + 1 := ⟨n - 1, by omega⟩
    simp only [Nat.succ_ne_zero, if_false, Nat.add_sub_cancel]
    refine bs_of mtX0_removeLast rfl (Nat.le_of_ble_eq_true rfl) (fun K R RV RS E => ?_)
    show K 0 [_] [] _
    refine rl_aload_n (pc := 0) R dX0_removeLast_0 rfl ?_
    refine rl_getf (pc := 1) R dX0_removeLast_1 fkX0_15 (by first | assumption | rfl) rfl ?_
    refine rl_if_gt (pc := 4) (tgt := 10) R dX0_removeLast_4 rfl (fun c4 => ?_) (fun c4 => absurd (nI_lt (a := 0) hp (by omega)) c4)
    refine rl_aload_n (pc := 10) R dX0_removeLast_10 rfl ?_
    refine rl_dup (pc := 11) R dX0_removeLast_11 rfl ?_
    refine rl_getf (pc := 12) R dX0_removeLast_12 fkX0_15 (by first | assumption | rfl) rfl ?_
    refine rl_iconst (pc := 15) R dX0_removeLast_15 ic_1 ?_
    refine rl_isub (pc := 16) R dX0_removeLast_16 ?_
    rw [nI_pred]
    refine rl_putI (pc := 17) R dX0_removeLast_17 fpX0_15 (by first | assumption | rfl) (Nat.le_of_ble_eq_true rfl) ?_
    refine rl_aload_n (pc := 20) R dX0_removeLast_20 rfl ?_
    refine rl_getf (pc := 21) R dX0_removeLast_21 fkX0_15 (sm_h_eq h1) rfl ?_
    exact rl_ireturn (pc := 24) E dX0_removeLast_24 rfl rfl (rfl)
theorem bs_X0_empty (h1 : h[k]? = some (hO 0 [.ref c, .int (nI n)])) : BS (d + 1) false yX0_empty [.ref k] h none (h.set k (hO 0 [.ref c, .int (nI 0)])) := by
  refine bs_of mtX0_empty rfl (Nat.le_of_ble_eq_true rfl) (fun K R RV RS E => ?_)
  show K 0 [_] [] _
  refine rl_aload_n (pc := 0) R dX0_empty_0 rfl ?_
  refine rl_iconst (pc := 1) R dX0_empty_1 ic_0 ?_
  refine rl_putI (pc := 2) R dX0_empty_2 fpX0_15 (by first | assumption | rfl) (Nat.le_of_ble_eq_true rfl) ?_
  exact rl_return (pc := 5) E dX0_empty_5 rfl rfl
theorem bs_X0_become {k2 c2 n2 : Nat} {f2 : Nat → Int32} (h1 : h[k]? = some (hO 0 [.ref c, .int (nI n)])) (h2 : h[c]? = some (hI 84 f)) (h3 : h[k2]? = some (hO 0 [.ref c2, .int (nI n2)])) (h4 : h[c2]? = some (hI 84 f2)) : BS (d + 1) false yX0_become [.ref k, .ref k2] h none ((h.set c (hI 84 (va_cpy f2 f 0 0 84))).set k (hO 0 [.ref c, .int (nI n2)])) := by
  refine bs_of mtX0_become rfl (Nat.le_of_ble_eq_true rfl) (fun K R RV RS E => ?_)
  show K 0 [_, _] [] _
  refine rl_aload_n (pc := 0) R dX0_become_0 rfl ?_
  refine rl_getf (pc := 1) R dX0_become_1 fkX0_9 h3 rfl ?_
  refine rl_iconst (pc := 4) R dX0_become_4 ic_0 ?_
  refine rl_aload_n (pc := 5) R dX0_become_5 rfl ?_
  refine rl_getf (pc := 6) R dX0_become_6 fkX0_9 h1 rfl ?_
  refine rl_iconst (pc := 9) R dX0_become_9 ic_0 ?_
  refine rl_aload_n (pc := 10) R dX0_become_10 rfl ?_
  refine rl_getf (pc := 11) R dX0_become_11 fkX0_9 h1 rfl ?_
  refine rl_alen (pc := 14) R dX0_become_14 h2 ?_
  refine rl_copy (pc := 15) R dX0_become_15 lmX0_35 (Nat.le_of_ble_eq_true rfl) h4 h2 (rfl : (0 : Int32) = nI 0) (rfl : (0 : Int32) = nI 0) rfl (by decide) (by decide) (by decide) ?_
  refine rl_aload_n (pc := 18) R dX0_become_18 rfl ?_
  refine rl_aload_n (pc := 19) R dX0_become_19 rfl ?_
  refine rl_getf (pc := 20) R dX0_become_20 fkX0_15 (sm_h_oi h3 h2) rfl ?_
  refine rl_putI (pc := 23) R dX0_become_23 fpX0_15 (sm_h_oi h1 h2) (Nat.le_of_ble_eq_true rfl) ?_
  exact rl_return (pc := 26) E dX0_become_26 rfl rfl
theorem bs_X0_hasNews {i : Nat} (h1 : rD h k c n nw wo co) (hi : i < n) : BS (d + 2) false yX0_hasNews [.ref k, .int (nI i)] h (some (.int (bI (decide (nw i = 1))))) h := by
  obtain ⟨h1, hn, f, h2, hf⟩ := h1
  refine bs_of mtX0_hasNews rfl (Nat.le_of_ble_eq_true rfl) (fun K R RV RS E => ?_)
  show K 0 [_, _] [] _
  refine rl_aload_n (pc := 0) R dX0_hasNews_0 rfl ?_
  refine rl_getf (pc := 1) R dX0_hasNews_1 fkX0_9 (by first | assumption | rfl) rfl ?_
  refine rl_iload_n (pc := 4) R dX0_hasNews_4 rfl ?_
  refine rl_iconst (pc := 5) R dX0_hasNews_5 ic_3 ?_
  refine rl_imul (pc := 6) R dX0_hasNews_6 ?_
  refine rl_iconst (pc := 7) R dX0_hasNews_7 ic_0 ?_
  refine rl_iadd (pc := 8) R dX0_hasNews_8 ?_
  refine rl_S2 (pc := 9) RS dX0_hasNews_9 lkX0_19 (Nat.le_of_ble_eq_true rfl) (bs_X7_at h2 (ix3 i 0) (by omega) (by decide)) ?_
  rw [show f (i * 3 + 0) = nw i from (hf i hi).1]
  refine rl_iconst (pc := 12) R dX0_hasNews_12 ic_1 ?_
  refine rl_icmp_ne (pc := 13) (tgt := 20) R dX0_hasNews_13 rfl (fun c13 => ?_) (fun c13 => ?_)
  · refine rl_iconst (pc := 20) R dX0_hasNews_20 ic_0 ?_
    exact rl_ireturn (pc := 21) E dX0_hasNews_21 rfl rfl (e_si (by simp_all [bI]))
  · refine rl_iconst (pc := 16) R dX0_hasNews_16 ic_1 ?_
    refine rl_goto (pc := 17) (tgt := 21) R dX0_hasNews_17 rfl ?_
    exact rl_ireturn (pc := 21) E dX0_hasNews_21 rfl rfl (e_si (by simp_all [bI]))
theorem bs_X0_tell0 {i : Nat} (h1 : rD h k c n nw wo co) (hi : i < n) : BS (d + 2) false yX0_tell [.ref k, .int (nI i), .int 0] h (some (.int (nw i))) h := by
  obtain ⟨h1, hn, f, h2, hf⟩ := h1
  rw [← (hf i hi).1]
  exact bs_X0_tell (w := 0) h1 h2 (by omega) (by decide)
theorem bs_X0_tell1 {i : Nat} (h1 : rD h k c n nw wo co) (hi : i < n) : BS (d + 2) false yX0_tell [.ref k, .int (nI i), .int 1] h (some (.int (wo i))) h := by
  obtain ⟨h1, hn, f, h2, hf⟩ := h1
  rw [← (hf i hi).2.1]
  exact bs_X0_tell (w := 1) h1 h2 (by omega) (by decide)
theorem bs_X0_tell2 {i : Nat} (h1 : rD h k c n nw wo co) (hi : i < n) : BS (d + 2) false yX0_tell [.ref k, .int (nI i), .int 2] h (some (.int (co i))) h := by
  obtain ⟨h1, hn, f, h2, hf⟩ := h1
  rw [← (hf i hi).2.2]
  exact bs_X0_tell (w := 2) h1 h2 (by omega) (by decide)
theorem bs_X0_manyWithNews (h1 : rD h k c n nw wo co) : BS (d + 3) false yX0_manyWithNews [.ref k] h (some (.int (mNS nw n 0 0))) h := by
  have hk := h1.1
  have hn := h1.2.1
  refine bs_of mtX0_manyWithNews rfl (Nat.le_of_ble_eq_true rfl) (fun K R RV RS E => ?_)
  show K 0 [_, _, _] [] _
  have loop : ∀ (j i : Nat) (s : Int32), i + j = n → mNS nw j i s = mNS nw n 0 0 → K 4 [some (.ref k), some (.int s), some (.int (nI i))] [] h := by
    intro j
    induction j with
    | zero =>
      intro i s hij hs
      refine rl_iload_n (pc := 4) R dX0_manyWithNews_4 rfl ?_
      refine rl_aload_n (pc := 5) R dX0_manyWithNews_5 rfl ?_
      refine rl_getf (pc := 6) R dX0_manyWithNews_6 fkX0_15 (by first | assumption | rfl) rfl ?_
      refine rl_icmp_ge (pc := 9) (tgt := 27) R dX0_manyWithNews_9 rfl (fun c9 => ?_) (fun c9 => absurd (nI_le (by omega) (by omega)) c9)
      refine rl_iload_n (pc := 27) R dX0_manyWithNews_27 rfl ?_
      exact rl_ireturn (pc := 28) E dX0_manyWithNews_28 rfl rfl (e_si hs.symm)
    | succ j ih =>
      intro i s hij hs
      refine rl_iload_n (pc := 4) R dX0_manyWithNews_4 rfl ?_
      refine rl_aload_n (pc := 5) R dX0_manyWithNews_5 rfl ?_
      refine rl_getf (pc := 6) R dX0_manyWithNews_6 fkX0_15 (by first | assumption | rfl) rfl ?_
      refine rl_icmp_ge (pc := 9) (tgt := 27) R dX0_manyWithNews_9 rfl (fun c9 => absurd c9 (nI_ge (by omega) (by omega))) (fun c9 => ?_)
      refine rl_iload_n (pc := 12) R dX0_manyWithNews_12 rfl ?_
      refine rl_aload_n (pc := 13) R dX0_manyWithNews_13 rfl ?_
      refine rl_iload_n (pc := 14) R dX0_manyWithNews_14 rfl ?_
      refine rl_iconst (pc := 15) R dX0_manyWithNews_15 ic_0 ?_
      refine rl_V2 (pc := 16) RV dX0_manyWithNews_16 lkX0_41 hk rfl (Nat.le_of_ble_eq_true rfl) (bs_X0_tell0 h1 (by omega)) ?_
      refine rl_iadd (pc := 19) R dX0_manyWithNews_19 ?_
      refine rl_istore_n (pc := 20) R dX0_manyWithNews_20 (Nat.le_of_ble_eq_true rfl) rfl ?_
      show K _ [_, _, _] _ _
      refine rl_iinc (pc := 21) R dX0_manyWithNews_21 rfl (ii_n i) rfl ?_
      show K _ [_, _, _] _ _
      refine rl_goto (pc := 24) (tgt := 4) R dX0_manyWithNews_24 rfl (ih (i + 1) _ (by omega) hs)
  refine rl_iconst (pc := 0) R dX0_manyWithNews_0 ic_0 ?_
  refine rl_istore_n (pc := 1) R dX0_manyWithNews_1 (Nat.le_of_ble_eq_true rfl) rfl ?_
  show K _ [_, _, _] _ _
  refine rl_iconst (pc := 2) R dX0_manyWithNews_2 ic_0 ?_
  refine rl_istore_n (pc := 3) R dX0_manyWithNews_3 (Nat.le_of_ble_eq_true rfl) rfl ?_
  show K _ [_, _, _] _ _
  exact loop n 0 0 (by omega) rfl
theorem bs_X0_sumOf {w : Nat} {g : Nat → Int32} {news : Int32} (h1 : rD h k c n nw wo co) (hg : ∀ {e i : Nat}, i < n → BS (e + 2) false yX0_tell [.ref k, .int (nI i), .int (nI w)] h (some (.int (g i))) h) : BS (d + 3) false yX0_sumOf [.ref k, .int (nI w), .int news] h (some (.int (sOf nw g news n 0 0))) h := by
  have hk := h1.1
  have hn := h1.2.1
  refine bs_of mtX0_sumOf rfl (Nat.le_of_ble_eq_true rfl) (fun K R RV RS E => ?_)
  show K 0 [_, _, _, _, _] [] _
  have loop : ∀ (j i : Nat) (s : Int32), i + j = n → sOf nw g news j i s = sOf nw g news n 0 0 → K 5 [some (.ref k), some (.int (nI w)), some (.int news), some (.int s), some (.int (nI i))] [] h := by
    intro j
    induction j with
    | zero =>
      intro i s hij hs
      refine rl_iload (pc := 5) R dX0_sumOf_5 rfl ?_
      refine rl_aload_n (pc := 7) R dX0_sumOf_7 rfl ?_
      refine rl_getf (pc := 8) R dX0_sumOf_8 fkX0_15 (by first | assumption | rfl) rfl ?_
      refine rl_icmp_ge (pc := 11) (tgt := 45) R dX0_sumOf_11 rfl (fun c11 => ?_) (fun c11 => absurd (nI_le (by omega) (by omega)) c11)
      refine rl_iload_n (pc := 45) R dX0_sumOf_45 rfl ?_
      exact rl_ireturn (pc := 46) E dX0_sumOf_46 rfl rfl (e_si hs.symm)
    | succ j ih =>
      intro i s hij hs
      refine rl_iload (pc := 5) R dX0_sumOf_5 rfl ?_
      refine rl_aload_n (pc := 7) R dX0_sumOf_7 rfl ?_
      refine rl_getf (pc := 8) R dX0_sumOf_8 fkX0_15 (by first | assumption | rfl) rfl ?_
      refine rl_icmp_ge (pc := 11) (tgt := 45) R dX0_sumOf_11 rfl (fun c11 => absurd c11 (nI_ge (by omega) (by omega))) (fun c11 => ?_)
      refine rl_iload_n (pc := 14) R dX0_sumOf_14 rfl ?_
      refine rl_aload_n (pc := 15) R dX0_sumOf_15 rfl ?_
      refine rl_iload (pc := 16) R dX0_sumOf_16 rfl ?_
      refine rl_iconst (pc := 18) R dX0_sumOf_18 ic_0 ?_
      refine rl_V2 (pc := 19) RV dX0_sumOf_19 lkX0_41 hk rfl (Nat.le_of_ble_eq_true rfl) (bs_X0_tell0 h1 (by omega)) ?_
      refine rl_iload_n (pc := 22) R dX0_sumOf_22 rfl ?_
      refine rl_icmp_ne (pc := 23) (tgt := 36) R dX0_sumOf_23 rfl (fun c23 => ?_) (fun c23 => ?_)
      · refine rl_iconst (pc := 36) R dX0_sumOf_36 ic_0 ?_
        refine rl_iadd (pc := 37) R dX0_sumOf_37 ?_
        refine rl_istore_n (pc := 38) R dX0_sumOf_38 (Nat.le_of_ble_eq_true rfl) rfl ?_
        show K _ [_, _, _, _, _] _ _
        refine rl_iinc (pc := 39) R dX0_sumOf_39 rfl (ii_n i) rfl ?_
        show K _ [_, _, _, _, _] _ _
        refine rl_goto (pc := 42) (tgt := 5) R dX0_sumOf_42 rfl (ih (i + 1) _ (by omega) (by rw [← hs]; simp [sOf, c23]))
      · refine rl_aload_n (pc := 26) R dX0_sumOf_26 rfl ?_
        refine rl_iload (pc := 27) R dX0_sumOf_27 rfl ?_
        refine rl_iload_n (pc := 29) R dX0_sumOf_29 rfl ?_
        refine rl_V2 (pc := 30) RV dX0_sumOf_30 lkX0_41 hk rfl (Nat.le_of_ble_eq_true rfl) (hg (by omega)) ?_
        refine rl_goto (pc := 33) (tgt := 37) R dX0_sumOf_33 rfl ?_
        refine rl_iadd (pc := 37) R dX0_sumOf_37 ?_
        refine rl_istore_n (pc := 38) R dX0_sumOf_38 (Nat.le_of_ble_eq_true rfl) rfl ?_
        show K _ [_, _, _, _, _] _ _
        refine rl_iinc (pc := 39) R dX0_sumOf_39 rfl (ii_n i) rfl ?_
        show K _ [_, _, _, _, _] _ _
        refine rl_goto (pc := 42) (tgt := 5) R dX0_sumOf_42 rfl (ih (i + 1) _ (by omega) (by rw [← hs]; simp [sOf, c23]))
  refine rl_iconst (pc := 0) R dX0_sumOf_0 ic_0 ?_
  refine rl_istore_n (pc := 1) R dX0_sumOf_1 (Nat.le_of_ble_eq_true rfl) rfl ?_
  show K _ [_, _, _, _, _] _ _
  refine rl_iconst (pc := 2) R dX0_sumOf_2 ic_0 ?_
  refine rl_istore (pc := 3) R dX0_sumOf_3 (Nat.le_of_ble_eq_true rfl) rfl ?_
  show K _ [_, _, _, _, _] _ _
  exact loop n 0 0 (by omega) rfl
theorem bs_X0_isTrusted {i : Nat} {left trust : Int32} (h1 : h[k]? = some (hO 0 [.ref c, .int (nI n)])) : BS (d + 1) false yX0_isTrusted [.ref k, .int (nI i), .int left, .int trust] h (some (.int (bI (decide (8 * left ≤ trust * (nI n - nI i)))))) h := by
  refine bs_of mtX0_isTrusted rfl (Nat.le_of_ble_eq_true rfl) (fun K R RV RS E => ?_)
  show K 0 [_, _, _, _] [] _
  refine rl_bipush (pc := 0) R dX0_isTrusted_0 bc_8 ?_
  refine rl_iload_n (pc := 2) R dX0_isTrusted_2 rfl ?_
  refine rl_imul (pc := 3) R dX0_isTrusted_3 ?_
  refine rl_iload_n (pc := 4) R dX0_isTrusted_4 rfl ?_
  refine rl_aload_n (pc := 5) R dX0_isTrusted_5 rfl ?_
  refine rl_getf (pc := 6) R dX0_isTrusted_6 fkX0_15 (by first | assumption | rfl) rfl ?_
  refine rl_iload_n (pc := 9) R dX0_isTrusted_9 rfl ?_
  refine rl_isub (pc := 10) R dX0_isTrusted_10 ?_
  refine rl_imul (pc := 11) R dX0_isTrusted_11 ?_
  refine rl_icmp_gt (pc := 12) (tgt := 19) R dX0_isTrusted_12 rfl (fun c12 => ?_) (fun c12 => ?_)
  · refine rl_iconst (pc := 19) R dX0_isTrusted_19 ic_0 ?_
    exact rl_ireturn (pc := 20) E dX0_isTrusted_20 rfl rfl (e_si (by simp_all [bI, Int32.not_le, Int32.not_lt]))
  · refine rl_iconst (pc := 15) R dX0_isTrusted_15 ic_1 ?_
    refine rl_goto (pc := 16) (tgt := 20) R dX0_isTrusted_16 rfl ?_
    exact rl_ireturn (pc := 20) E dX0_isTrusted_20 rfl rfl (e_si (by simp_all [bI, Int32.not_le, Int32.not_lt]))
theorem bs_X0_courtHas {i : Nat} {lies : Bool} {left trust : Int32} (h1 : rD h k c n nw wo co) (hi : i < n) : BS (d + 3) false yX0_courtHas [.ref k, .int (nI i), .int (bI lies), .int left, .int trust] h (some (.int (crt n nw wo co i lies left trust))) h := by
  have hk := h1.1
  have hn := h1.2.1
  refine bs_of mtX0_courtHas rfl (Nat.le_of_ble_eq_true rfl) (fun K R RV RS E => ?_)
  show K 0 [_, _, _, _, _] [] _
  refine rl_aload_n (pc := 0) R dX0_courtHas_0 rfl ?_
  refine rl_iload_n (pc := 1) R dX0_courtHas_1 rfl ?_
  refine rl_iload_n (pc := 2) R dX0_courtHas_2 rfl ?_
  refine rl_iload (pc := 3) R dX0_courtHas_3 rfl ?_
  refine rl_V3 (pc := 5) RV dX0_courtHas_5 lkX0_45 (by first | assumption | rfl) rfl (Nat.le_of_ble_eq_true rfl) (bs_X0_isTrusted hk) ?_
  refine rl_if_ne (pc := 8) (tgt := 13) R dX0_courtHas_8 rfl (fun c8 => ?_) (fun c8 => ?_)
  · rw [bI_n0, decide_eq_true_eq] at c8
    refine rl_aload_n (pc := 13) R dX0_courtHas_13 rfl ?_
    refine rl_iload_n (pc := 14) R dX0_courtHas_14 rfl ?_
    refine rl_V1 (pc := 15) RV dX0_courtHas_15 lkX0_49 hk rfl (Nat.le_of_ble_eq_true rfl) (bs_X0_hasNews h1 hi) ?_
    refine rl_if_eq (pc := 18) (tgt := 28) R dX0_courtHas_18 rfl (fun c18 => ?_) (fun c18 => ?_)
    · rw [bI_0, decide_eq_false_iff_not] at c18
      refine rl_iload_n (pc := 28) R dX0_courtHas_28 rfl ?_
      refine rl_if_eq (pc := 29) (tgt := 42) R dX0_courtHas_29 rfl (fun c29 => ?_) (fun c29 => ?_)
      · rw [bI_0] at c29
        refine rl_iconst (pc := 42) R dX0_courtHas_42 ic_0 ?_
        exact rl_ireturn (pc := 43) E dX0_courtHas_43 rfl rfl (e_si (by simp only [crt]; rw [if_pos c8, if_neg c18]; subst c29; rfl))
      · rw [bI_n0] at c29
        refine rl_aload_n (pc := 32) R dX0_courtHas_32 rfl ?_
        refine rl_iload_n (pc := 33) R dX0_courtHas_33 rfl ?_
        refine rl_iconst (pc := 34) R dX0_courtHas_34 ic_2 ?_
        refine rl_V2 (pc := 35) RV dX0_courtHas_35 lkX0_41 hk rfl (Nat.le_of_ble_eq_true rfl) (bs_X0_tell2 h1 hi) ?_
        refine rl_ineg (pc := 38) R dX0_courtHas_38 ?_
        refine rl_goto (pc := 39) (tgt := 43) R dX0_courtHas_39 rfl ?_
        exact rl_ireturn (pc := 43) E dX0_courtHas_43 rfl rfl (e_si (by simp only [crt]; rw [if_pos c8, if_neg c18]; subst c29; rfl))
    · rw [bI_n0, decide_eq_true_eq] at c18
      refine rl_aload_n (pc := 21) R dX0_courtHas_21 rfl ?_
      refine rl_iload_n (pc := 22) R dX0_courtHas_22 rfl ?_
      refine rl_iconst (pc := 23) R dX0_courtHas_23 ic_1 ?_
      refine rl_V2 (pc := 24) RV dX0_courtHas_24 lkX0_41 hk rfl (Nat.le_of_ble_eq_true rfl) (bs_X0_tell1 h1 hi) ?_
      exact rl_ireturn (pc := 27) E dX0_courtHas_27 rfl rfl (e_si (by simp only [crt]; rw [if_pos c8, if_pos c18]))
  · rw [bI_0, decide_eq_false_iff_not] at c8
    refine rl_iconst (pc := 11) R dX0_courtHas_11 ic_0 ?_
    exact rl_ireturn (pc := 12) E dX0_courtHas_12 rfl rfl (e_si (if_neg c8))
end DY
end
section
/-! A YEAR: days and settings (0 lies, 1 law, 2 trust, 3 draw) -/
def ush (x k : Int32) : Int32 := (x.toUInt32 >>> (k.toUInt32 &&& Int32.toUInt32 31)).toInt32
def bj1 (x : Int32) : Int32 := x - (ush x 1 &&& 1431655765)
def bj2 (x : Int32) : Int32 := (x &&& 858993459) + (ush x 2 &&& 858993459)
def bj3 (x : Int32) : Int32 := (x + ush x 4) &&& 252645135
def bj4 (x : Int32) : Int32 := x + ush x 8
def bj5 (x : Int32) : Int32 := (x + ush x 16) &&& 63
def bcJ (x : Int32) : Int32 := bj5 (bj4 (bj3 (bj2 (bj1 x))))
/-- lies left on the morning of day i, by a set -/
def lft (lies s : Int32) (i : Nat) : Int32 := lies - bcJ (s &&& ((1 <<< (nI i &&& 31)) - 1))
def b1 (i : Nat) : Int32 := 1 <<< (nI i &&& 31)
def mly (law : Int32) (nw : Nat → Int32) (i g : Nat) : Bool := decide (g ≤ i) && (!decide (nw i = 1) && opn law i)
def frm (law s : Int32) : Nat → Nat → Nat → Nat
  | 0, _, g => g
  | j + 1, i, g => frm law s j (i + 1) (if bt s i then oAg law i else g)
def opB (law : Int32) (nw : Nat → Int32) (g : Nat) : Nat → Nat → Int32 → Int32
  | 0, _, s => s
  | j + 1, i, s => opB law nw g j (i + 1) (s ||| (if mly law nw i g then b1 i else 0))
def fwr (law lies s : Int32) (nw : Nat → Int32) : Nat → Nat → Nat → Int32
  | 0, _, _ => -4
  | j + 1, i, g => if bt s i then (if lft lies s i ≤ 0 then nI i else if mly law nw i g then fwr law lies s nw j (i + 1) (oAg law i) else nI i) else fwr law lies s nw j (i + 1) g
def gnO (n : Nat) (nw wo co : Nat → Int32) (lies trust s : Int32) : Nat → Nat → Int32 → Int32
  | 0, _, x => x
  | j + 1, i, x => gnO n nw wo co lies trust s j (i + 1) (x + crt n nw wo co i (bt s i) (lft lies s i) trust)
def trB (n : Nat) (nw : Nat → Int32) (lies trust s : Int32) : Nat → Nat → Int32 → Int32
  | 0, _, x => x
  | j + 1, i, x => trB n nw lies trust s j (i + 1) (if (bt s i || decide (nw i = 1)) && decide (8 * lft lies s i ≤ trust * (nI n - nI i)) then x ||| b1 i else x)
def drw (x : Int32) : Int32 := (x * 1103515245 + 12345) &&& 2147483647
def ltY (n : Nat) (nw : Nat → Int32) (law lies s x : Int32) (i g : Nat) : Bool := decide (x / 65536 - x / 65536 / (nI n - nI i) * (nI n - nI i) < lft lies s i) && mly law nw i g
/-- lots: the set, the draw -/
def lot (n : Nat) (nw : Nat → Int32) (law lies : Int32) : Nat → Nat → Int32 → Nat → Int32 → Int32 × Int32
  | 0, _, s, _, x => (s, x)
  | j + 1, i, s, g, x => if ltY n nw law lies s (drw x) i g then lot n nw law lies j (i + 1) (s ||| b1 i) (oAg law i) (drw x) else lot n nw law lies j (i + 1) s g (drw x)
def rY (h : List sm_C) (y kd ks kc n : Nat) (nw wo co se : Nat → Int32) : Prop := h[y]? = some (hO 6 [.ref kd, .ref ks]) ∧ rD h kd kc n nw wo co ∧ h[ks]? = some (hI 4 se) ∧ ks ≠ kc
theorem rD_set {h : List sm_C} {k c n ks m : Nat} {nw wo co se g : Nat → Int32} (hD : rD h k c n nw wo co) (hs : h[ks]? = some (hI m se)) (hne : ks ≠ c) : rD (h.set ks (hI m g)) k c n nw wo co := by
  obtain ⟨h1, hn, f, h2, hf⟩ := hD
  exact ⟨sm_h_oi h1 hs, hn, f, sm_h_ne h2 hs (Ne.symm hne), hf⟩
theorem rY_set {h : List sm_C} {y kd ks kc n : Nat} {nw wo co se g : Nat → Int32} (hY : rY h y kd ks kc n nw wo co se) : rY (h.set ks (hI 4 g)) y kd ks kc n nw wo co g := by
  obtain ⟨h1, hD, hs, hne⟩ := hY
  exact ⟨sm_h_oi h1 hs, rD_set hD hs hne, sm_h_eq hs, hne⟩
theorem oAg_le (law : Int32) (i : Nat) : oAg law i ≤ i + 7 := by
  unfold oAg
  split
  · omega
  · split <;> omega
theorem oAg_gt (law : Int32) (i : Nat) : i < oAg law i := by
  unfold oAg
  split
  · omega
  · split <;> omega
section YR
variable {d : Nat} {h : List sm_C} {y kd ks kc n : Nat} {nw wo co se : Nat → Int32}
theorem bs_bitCount {x : Int32} : BS (d + 1) true yJ6_bitCount_0f7a4 [.int x] h (some (.int (bcJ x))) h := by
  refine bs_of mtJ6_bitCount_0f7a4 rfl (Nat.le_of_ble_eq_true rfl) (fun K R RV RS E => ?_)
  show K 0 [_] [] _
  refine rl_iload_n (pc := 0) R dJ6_bitCount_0f7a4_0 rfl ?_
  refine rl_iload_n (pc := 1) R dJ6_bitCount_0f7a4_1 rfl ?_
  refine rl_iconst (pc := 2) R dJ6_bitCount_0f7a4_2 ic_1 ?_
  refine rl_iushr (pc := 3) R dJ6_bitCount_0f7a4_3 ?_
  refine rl_ldcw (pc := 4) R dJ6_bitCount_0f7a4_4 kcJ6_265 ?_
  refine rl_iand (pc := 7) R dJ6_bitCount_0f7a4_7 ?_
  refine rl_isub (pc := 8) R dJ6_bitCount_0f7a4_8 ?_
  refine rl_istore_n (pc := 9) R dJ6_bitCount_0f7a4_9 (Nat.le_of_ble_eq_true rfl) rfl ?_
  show K _ [_] _ _
  refine rl_iload_n (pc := 10) R dJ6_bitCount_0f7a4_10 rfl ?_
  refine rl_ldcw (pc := 11) R dJ6_bitCount_0f7a4_11 kcJ6_266 ?_
  refine rl_iand (pc := 14) R dJ6_bitCount_0f7a4_14 ?_
  refine rl_iload_n (pc := 15) R dJ6_bitCount_0f7a4_15 rfl ?_
  refine rl_iconst (pc := 16) R dJ6_bitCount_0f7a4_16 ic_2 ?_
  refine rl_iushr (pc := 17) R dJ6_bitCount_0f7a4_17 ?_
  refine rl_ldcw (pc := 18) R dJ6_bitCount_0f7a4_18 kcJ6_266 ?_
  refine rl_iand (pc := 21) R dJ6_bitCount_0f7a4_21 ?_
  refine rl_iadd (pc := 22) R dJ6_bitCount_0f7a4_22 ?_
  refine rl_istore_n (pc := 23) R dJ6_bitCount_0f7a4_23 (Nat.le_of_ble_eq_true rfl) rfl ?_
  show K _ [_] _ _
  refine rl_iload_n (pc := 24) R dJ6_bitCount_0f7a4_24 rfl ?_
  refine rl_iload_n (pc := 25) R dJ6_bitCount_0f7a4_25 rfl ?_
  refine rl_iconst (pc := 26) R dJ6_bitCount_0f7a4_26 ic_4 ?_
  refine rl_iushr (pc := 27) R dJ6_bitCount_0f7a4_27 ?_
  refine rl_iadd (pc := 28) R dJ6_bitCount_0f7a4_28 ?_
  refine rl_ldcw (pc := 29) R dJ6_bitCount_0f7a4_29 kcJ6_267 ?_
  refine rl_iand (pc := 32) R dJ6_bitCount_0f7a4_32 ?_
  refine rl_istore_n (pc := 33) R dJ6_bitCount_0f7a4_33 (Nat.le_of_ble_eq_true rfl) rfl ?_
  show K _ [_] _ _
  refine rl_iload_n (pc := 34) R dJ6_bitCount_0f7a4_34 rfl ?_
  refine rl_iload_n (pc := 35) R dJ6_bitCount_0f7a4_35 rfl ?_
  refine rl_bipush (pc := 36) R dJ6_bitCount_0f7a4_36 bc_8 ?_
  refine rl_iushr (pc := 38) R dJ6_bitCount_0f7a4_38 ?_
  refine rl_iadd (pc := 39) R dJ6_bitCount_0f7a4_39 ?_
  refine rl_istore_n (pc := 40) R dJ6_bitCount_0f7a4_40 (Nat.le_of_ble_eq_true rfl) rfl ?_
  show K _ [_] _ _
  refine rl_iload_n (pc := 41) R dJ6_bitCount_0f7a4_41 rfl ?_
  refine rl_iload_n (pc := 42) R dJ6_bitCount_0f7a4_42 rfl ?_
  refine rl_bipush (pc := 43) R dJ6_bitCount_0f7a4_43 bc_16 ?_
  refine rl_iushr (pc := 45) R dJ6_bitCount_0f7a4_45 ?_
  refine rl_iadd (pc := 46) R dJ6_bitCount_0f7a4_46 ?_
  refine rl_istore_n (pc := 47) R dJ6_bitCount_0f7a4_47 (Nat.le_of_ble_eq_true rfl) rfl ?_
  show K _ [_] _ _
  refine rl_iload_n (pc := 48) R dJ6_bitCount_0f7a4_48 rfl ?_
  refine rl_bipush (pc := 49) R dJ6_bitCount_0f7a4_49 bc_63 ?_
  refine rl_iand (pc := 51) R dJ6_bitCount_0f7a4_51 ?_
  exact rl_ireturn (pc := 52) E dJ6_bitCount_0f7a4_52 rfl rfl (rfl)
theorem bs_X6_tell {i : Nat} (hY : rY h y kd ks kc n nw wo co se) (hi : i < 4) : BS (d + 2) false yX6_tell [.ref y, .int (nI i)] h (some (.int (se i))) h := by
  obtain ⟨h1, hD, hs, hne⟩ := hY
  refine bs_of mtX6_tell rfl (Nat.le_of_ble_eq_true rfl) (fun K R RV RS E => ?_)
  show K 0 [_, _] [] _
  refine rl_aload_n (pc := 0) R dX6_tell_0 rfl ?_
  refine rl_getf (pc := 1) R dX6_tell_1 fkX6_18 (by first | assumption | rfl) rfl ?_
  refine rl_iload_n (pc := 4) R dX6_tell_4 rfl ?_
  refine rl_S2 (pc := 5) RS dX6_tell_5 lkX6_22 (Nat.le_of_ble_eq_true rfl) (bs_X7_at hs rfl hi (by decide)) ?_
  exact rl_ireturn (pc := 8) E dX6_tell_8 rfl rfl (rfl)
theorem bs_X6_change {i : Nat} {v : Int32} (hY : rY h y kd ks kc n nw wo co se) (hi : i < 4) : BS (d + 3) false yX6_change [.ref y, .int (nI i), .int v] h (some (.int (se i))) (h.set ks (hI 4 (upd se i v))) := by
  obtain ⟨h1, hD, hs, hne⟩ := hY
  refine bs_of mtX6_change rfl (Nat.le_of_ble_eq_true rfl) (fun K R RV RS E => ?_)
  show K 0 [_, _, _] [] _
  refine rl_aload_n (pc := 0) R dX6_change_0 rfl ?_
  refine rl_getf (pc := 1) R dX6_change_1 fkX6_18 (by first | assumption | rfl) rfl ?_
  refine rl_iload_n (pc := 4) R dX6_change_4 rfl ?_
  refine rl_iload_n (pc := 5) R dX6_change_5 rfl ?_
  refine rl_S3 (pc := 6) RS dX6_change_6 lkX6_26 (Nat.le_of_ble_eq_true rfl) (bs_X7_put hs rfl hi (by decide)) ?_
  exact rl_ireturn (pc := 9) E dX6_change_9 rfl rfl (rfl)
theorem bs_X6_mayLie {i g : Nat} (hY : rY h y kd ks kc n nw wo co se) (hi : i < n) (hg : g < 2147483648) : BS (d + 3) false yX6_mayLie [.ref y, .int (nI i), .int (nI g)] h (some (.int (bI (mly (se 1) nw i g)))) h := by
  have hY0 := hY
  obtain ⟨h1, hD, hs, hne⟩ := hY
  have hn := hD.2.1
  refine bs_of mtX6_mayLie rfl (Nat.le_of_ble_eq_true rfl) (fun K R RV RS E => ?_)
  show K 0 [_, _, _] [] _
  refine rl_iload_n (pc := 0) R dX6_mayLie_0 rfl ?_
  refine rl_iload_n (pc := 1) R dX6_mayLie_1 rfl ?_
  refine rl_icmp_lt (pc := 2) (tgt := 32) R dX6_mayLie_2 rfl (fun c2 => ?_) (fun c2 => ?_)
  · rw [nI_ltI (by omega) (by omega)] at c2
    refine rl_iconst (pc := 32) R dX6_mayLie_32 ic_0 ?_
    exact rl_ireturn (pc := 33) E dX6_mayLie_33 rfl rfl (e_si (by simp only [bI_0, bI_n0] at *; simp_all [mly, bI]; try omega))
  · rw [nI_ltI (by omega) (by omega)] at c2
    refine rl_aload_n (pc := 5) R dX6_mayLie_5 rfl ?_
    refine rl_getf (pc := 6) R dX6_mayLie_6 fkX6_12 (by first | assumption | rfl) rfl ?_
    refine rl_iload_n (pc := 9) R dX6_mayLie_9 rfl ?_
    refine rl_V1 (pc := 10) RV dX6_mayLie_10 lkX6_40 hD.1 rfl (Nat.le_of_ble_eq_true rfl) (bs_X0_hasNews hD hi) ?_
    refine rl_if_ne (pc := 13) (tgt := 32) R dX6_mayLie_13 rfl (fun c13 => ?_) (fun c13 => ?_)
    · refine rl_iconst (pc := 32) R dX6_mayLie_32 ic_0 ?_
      exact rl_ireturn (pc := 33) E dX6_mayLie_33 rfl rfl (e_si (by simp only [bI_0, bI_n0] at *; simp_all [mly, bI]; try omega))
    · refine rl_aload_n (pc := 16) R dX6_mayLie_16 rfl ?_
      refine rl_iconst (pc := 17) R dX6_mayLie_17 ic_1 ?_
      refine rl_V1 (pc := 18) RV dX6_mayLie_18 lkX6_44 h1 rfl (Nat.le_of_ble_eq_true rfl) (bs_X6_tell (i := 1) hY0 (by decide)) ?_
      refine rl_iload_n (pc := 21) R dX6_mayLie_21 rfl ?_
      refine rl_S2 (pc := 22) RS dX6_mayLie_22 lkX6_48 (Nat.le_of_ble_eq_true rfl) (bs_X7_isOpen (by omega)) ?_
      refine rl_if_eq (pc := 25) (tgt := 32) R dX6_mayLie_25 rfl (fun c25 => ?_) (fun c25 => ?_)
      · refine rl_iconst (pc := 32) R dX6_mayLie_32 ic_0 ?_
        exact rl_ireturn (pc := 33) E dX6_mayLie_33 rfl rfl (e_si (by simp only [bI_0, bI_n0] at *; simp_all [mly, bI]; try omega))
      · refine rl_iconst (pc := 28) R dX6_mayLie_28 ic_1 ?_
        refine rl_goto (pc := 29) (tgt := 33) R dX6_mayLie_29 rfl ?_
        exact rl_ireturn (pc := 33) E dX6_mayLie_33 rfl rfl (e_si (by simp only [bI_0, bI_n0] at *; simp_all [mly, bI]; try omega))
theorem bs_X6_leftOn {i : Nat} {s : Int32} (hY : rY h y kd ks kc n nw wo co se) : BS (d + 3) false yX6_leftOn [.ref y, .int s, .int (nI i)] h (some (.int (lft (se 0) s i))) h := by
  have h1 := hY.1
  refine bs_of mtX6_leftOn rfl (Nat.le_of_ble_eq_true rfl) (fun K R RV RS E => ?_)
  show K 0 [_, _, _] [] _
  refine rl_aload_n (pc := 0) R dX6_leftOn_0 rfl ?_
  refine rl_iconst (pc := 1) R dX6_leftOn_1 ic_0 ?_
  refine rl_V1 (pc := 2) RV dX6_leftOn_2 lkX6_44 h1 rfl (Nat.le_of_ble_eq_true rfl) (bs_X6_tell (i := 0) hY (by decide)) ?_
  refine rl_iload_n (pc := 5) R dX6_leftOn_5 rfl ?_
  refine rl_iconst (pc := 6) R dX6_leftOn_6 ic_1 ?_
  refine rl_iload_n (pc := 7) R dX6_leftOn_7 rfl ?_
  refine rl_ishl (pc := 8) R dX6_leftOn_8 ?_
  refine rl_iconst (pc := 9) R dX6_leftOn_9 ic_1 ?_
  refine rl_isub (pc := 10) R dX6_leftOn_10 ?_
  refine rl_iand (pc := 11) R dX6_leftOn_11 ?_
  refine rl_S1 (pc := 12) RS dX6_leftOn_12 lkX6_69 (Nat.le_of_ble_eq_true rfl) (bs_bitCount) ?_
  refine rl_isub (pc := 15) R dX6_leftOn_15 ?_
  exact rl_ireturn (pc := 16) E dX6_leftOn_16 rfl rfl (rfl)
theorem bs_X6_openBehind {s : Int32} (hY : rY h y kd ks kc n nw wo co se) : BS (d + 4) false yX6_openBehind [.ref y, .int s] h (some (.int (opB (se 1) nw (frm (se 1) s n 0 0) (n - frm (se 1) s n 0 0) (frm (se 1) s n 0 0) 0))) h := by
  have hY0 := hY
  obtain ⟨h1, hD, hs, hne⟩ := hY
  have hn := hD.2.1
  have hk := hD.1
  refine bs_of mtX6_openBehind rfl (Nat.le_of_ble_eq_true rfl) (fun K R RV RS E => ?_)
  show K 0 [_, _, _, _, _] [] _
  have loop2 : ∀ (j i g : Nat) (x : Int32) (o : Int32), g < 1000 → i + j = n → opB (se 1) nw g j i x = o → some (Value.int o) = some (Value.int (opB (se 1) nw (frm (se 1) s n 0 0) (n - frm (se 1) s n 0 0) (frm (se 1) s n 0 0) 0)) → K 44 [some (.ref y), some (.int s), some (.int (nI g)), some (.int x), some (.int (nI i))] [] h := by
    intro j
    induction j with
    | zero =>
      intro i g x o hg hij ho hs2
      refine rl_iload (pc := 44) R dX6_openBehind_44 rfl ?_
      refine rl_aload_n (pc := 46) R dX6_openBehind_46 rfl ?_
      refine rl_getf (pc := 47) R dX6_openBehind_47 fkX6_12 (by first | assumption | rfl) rfl ?_
      refine rl_getf (pc := 50) R dX6_openBehind_50 fkX6_52 (by first | assumption | rfl) rfl ?_
      refine rl_icmp_ge (pc := 53) (tgt := 83) R dX6_openBehind_53 rfl (fun c53 => ?_) (fun c53 => absurd (nI_le (by omega) (by omega)) c53)
      refine rl_iload_n (pc := 83) R dX6_openBehind_83 rfl ?_
      exact rl_ireturn (pc := 84) E dX6_openBehind_84 rfl rfl (by rw [← hs2, ← ho]; rfl)
    | succ j ih =>
      intro i g x o hg hij ho hs2
      refine rl_iload (pc := 44) R dX6_openBehind_44 rfl ?_
      refine rl_aload_n (pc := 46) R dX6_openBehind_46 rfl ?_
      refine rl_getf (pc := 47) R dX6_openBehind_47 fkX6_12 (by first | assumption | rfl) rfl ?_
      refine rl_getf (pc := 50) R dX6_openBehind_50 fkX6_52 (by first | assumption | rfl) rfl ?_
      refine rl_icmp_ge (pc := 53) (tgt := 83) R dX6_openBehind_53 rfl (fun c53 => absurd c53 (nI_ge (by omega) (by omega))) (fun c53 => ?_)
      refine rl_iload_n (pc := 56) R dX6_openBehind_56 rfl ?_
      refine rl_aload_n (pc := 57) R dX6_openBehind_57 rfl ?_
      refine rl_iload (pc := 58) R dX6_openBehind_58 rfl ?_
      refine rl_iload_n (pc := 60) R dX6_openBehind_60 rfl ?_
      refine rl_V2 (pc := 61) RV dX6_openBehind_61 lkX6_63 h1 rfl (Nat.le_of_ble_eq_true rfl) (bs_X6_mayLie hY0 (by omega) (by omega)) ?_
      refine rl_if_eq (pc := 64) (tgt := 74) R dX6_openBehind_64 rfl (fun c64 => ?_) (fun c64 => ?_)
      · rw [bI_0] at c64
        refine rl_iconst (pc := 74) R dX6_openBehind_74 ic_0 ?_
        refine rl_ior (pc := 75) R dX6_openBehind_75 ?_
        refine rl_istore_n (pc := 76) R dX6_openBehind_76 (Nat.le_of_ble_eq_true rfl) rfl ?_
        show K _ [_, _, _, _, _] _ _
        refine rl_iinc (pc := 77) R dX6_openBehind_77 rfl (ii_n i) rfl ?_
        show K _ [_, _, _, _, _] _ _
        refine rl_goto (pc := 80) (tgt := 44) R dX6_openBehind_80 rfl (ih (i + 1) g _ o hg (by omega) (by rw [← ho]; simp only [opB, c64]; rfl) hs2)
      · rw [bI_n0] at c64
        refine rl_iconst (pc := 67) R dX6_openBehind_67 ic_1 ?_
        refine rl_iload (pc := 68) R dX6_openBehind_68 rfl ?_
        refine rl_ishl (pc := 70) R dX6_openBehind_70 ?_
        refine rl_goto (pc := 71) (tgt := 75) R dX6_openBehind_71 rfl ?_
        refine rl_ior (pc := 75) R dX6_openBehind_75 ?_
        refine rl_istore_n (pc := 76) R dX6_openBehind_76 (Nat.le_of_ble_eq_true rfl) rfl ?_
        show K _ [_, _, _, _, _] _ _
        refine rl_iinc (pc := 77) R dX6_openBehind_77 rfl (ii_n i) rfl ?_
        show K _ [_, _, _, _, _] _ _
        refine rl_goto (pc := 80) (tgt := 44) R dX6_openBehind_80 rfl (ih (i + 1) g _ o hg (by omega) (by rw [← ho]; simp only [opB, c64]; rfl) hs2)
  have fin : ∀ g : Nat, g < 1000 → g = frm (se 1) s n 0 0 → K 39 [some (.ref y), some (.int s), some (.int (nI g)), some (.int (nI n)), none] [] h := by
    intro g hg he
    subst he
    rcases Nat.lt_or_ge n (frm (se 1) s n 0 0) with q | q
    · refine rl_iconst (pc := 39) R dX6_openBehind_39 ic_0 ?_
      refine rl_istore_n (pc := 40) R dX6_openBehind_40 (Nat.le_of_ble_eq_true rfl) rfl ?_
      show K _ [_, _, _, _, _] _ _
      refine rl_iload_n (pc := 41) R dX6_openBehind_41 rfl ?_
      refine rl_istore (pc := 42) R dX6_openBehind_42 (Nat.le_of_ble_eq_true rfl) rfl ?_
      show K _ [_, _, _, _, _] _ _
      refine rl_iload (pc := 44) R dX6_openBehind_44 rfl ?_
      refine rl_aload_n (pc := 46) R dX6_openBehind_46 rfl ?_
      refine rl_getf (pc := 47) R dX6_openBehind_47 fkX6_12 (by first | assumption | rfl) rfl ?_
      refine rl_getf (pc := 50) R dX6_openBehind_50 fkX6_52 (by first | assumption | rfl) rfl ?_
      refine rl_icmp_ge (pc := 53) (tgt := 83) R dX6_openBehind_53 rfl (fun c53 => ?_) (fun c53 => absurd (nI_le (by omega) (by omega)) c53)
      refine rl_iload_n (pc := 83) R dX6_openBehind_83 rfl ?_
      exact rl_ireturn (pc := 84) E dX6_openBehind_84 rfl rfl (e_si (by rw [show n - frm (se 1) s n 0 0 = 0 by omega]; rfl))
    · refine rl_iconst (pc := 39) R dX6_openBehind_39 ic_0 ?_
      refine rl_istore_n (pc := 40) R dX6_openBehind_40 (Nat.le_of_ble_eq_true rfl) rfl ?_
      show K _ [_, _, _, _, _] _ _
      refine rl_iload_n (pc := 41) R dX6_openBehind_41 rfl ?_
      refine rl_istore (pc := 42) R dX6_openBehind_42 (Nat.le_of_ble_eq_true rfl) rfl ?_
      show K _ [_, _, _, _, _] _ _
      exact loop2 (n - frm (se 1) s n 0 0) _ _ 0 _ hg (by omega) rfl rfl
  have loop : ∀ (j i g : Nat), i + j = n → g < 1000 → frm (se 1) s j i g = frm (se 1) s n 0 0 → K 4 [some (.ref y), some (.int s), some (.int (nI g)), some (.int (nI i)), none] [] h := by
    intro j
    induction j with
    | zero =>
      intro i g hij hg ho
      refine rl_iload_n (pc := 4) R dX6_openBehind_4 rfl ?_
      refine rl_aload_n (pc := 5) R dX6_openBehind_5 rfl ?_
      refine rl_getf (pc := 6) R dX6_openBehind_6 fkX6_12 (by first | assumption | rfl) rfl ?_
      refine rl_getf (pc := 9) R dX6_openBehind_9 fkX6_52 (by first | assumption | rfl) rfl ?_
      refine rl_icmp_ge (pc := 12) (tgt := 39) R dX6_openBehind_12 rfl (fun c12 => ?_) (fun c12 => absurd (nI_le (by omega) (by omega)) c12)
      exact (show i = n by omega) ▸ fin g hg ho
    | succ j ih =>
      intro i g hij hg ho
      refine rl_iload_n (pc := 4) R dX6_openBehind_4 rfl ?_
      refine rl_aload_n (pc := 5) R dX6_openBehind_5 rfl ?_
      refine rl_getf (pc := 6) R dX6_openBehind_6 fkX6_12 (by first | assumption | rfl) rfl ?_
      refine rl_getf (pc := 9) R dX6_openBehind_9 fkX6_52 (by first | assumption | rfl) rfl ?_
      refine rl_icmp_ge (pc := 12) (tgt := 39) R dX6_openBehind_12 rfl (fun c12 => absurd c12 (nI_ge (by omega) (by omega))) (fun c12 => ?_)
      refine rl_iload_n (pc := 15) R dX6_openBehind_15 rfl ?_
      refine rl_iload_n (pc := 16) R dX6_openBehind_16 rfl ?_
      refine rl_S2 (pc := 17) RS dX6_openBehind_17 lkX6_56 (Nat.le_of_ble_eq_true rfl) (bs_X7_holds) ?_
      refine rl_if_eq (pc := 20) (tgt := 33) R dX6_openBehind_20 rfl (fun c20 => ?_) (fun c20 => ?_)
      · rw [bI_0] at c20
        refine rl_iinc (pc := 33) R dX6_openBehind_33 rfl (ii_n i) rfl ?_
        show K _ [_, _, _, _, _] _ _
        refine rl_goto (pc := 36) (tgt := 4) R dX6_openBehind_36 rfl (ih (i + 1) _ (by omega) (by have := oAg_le (se 1) i; omega) (by rw [← ho]; simp only [frm, c20]; rfl))
      · rw [bI_n0] at c20
        refine rl_aload_n (pc := 23) R dX6_openBehind_23 rfl ?_
        refine rl_iconst (pc := 24) R dX6_openBehind_24 ic_1 ?_
        refine rl_V1 (pc := 25) RV dX6_openBehind_25 lkX6_44 h1 rfl (Nat.le_of_ble_eq_true rfl) (bs_X6_tell (i := 1) hY0 (by decide)) ?_
        refine rl_iload_n (pc := 28) R dX6_openBehind_28 rfl ?_
        refine rl_S2 (pc := 29) RS dX6_openBehind_29 lkX6_59 (Nat.le_of_ble_eq_true rfl) (bs_X7_openAgain (by omega)) ?_
        refine rl_istore_n (pc := 32) R dX6_openBehind_32 (Nat.le_of_ble_eq_true rfl) rfl ?_
        show K _ [_, _, _, _, _] _ _
        refine rl_iinc (pc := 33) R dX6_openBehind_33 rfl (ii_n i) rfl ?_
        show K _ [_, _, _, _, _] _ _
        refine rl_goto (pc := 36) (tgt := 4) R dX6_openBehind_36 rfl (ih (i + 1) _ (by omega) (by have := oAg_le (se 1) i; omega) (by rw [← ho]; simp only [frm, c20]; rfl))
  refine rl_iconst (pc := 0) R dX6_openBehind_0 ic_0 ?_
  refine rl_istore_n (pc := 1) R dX6_openBehind_1 (Nat.le_of_ble_eq_true rfl) rfl ?_
  show K _ [_, _, _, _, _] _ _
  refine rl_iconst (pc := 2) R dX6_openBehind_2 ic_0 ?_
  refine rl_istore_n (pc := 3) R dX6_openBehind_3 (Nat.le_of_ble_eq_true rfl) rfl ?_
  show K _ [_, _, _, _, _] _ _
  exact loop n 0 0 (by omega) (by decide) rfl
theorem bs_X6_firstWrong {s : Int32} (hY : rY h y kd ks kc n nw wo co se) : BS (d + 4) false yX6_firstWrong [.ref y, .int s] h (some (.int (fwr (se 1) (se 0) s nw n 0 0))) h := by
  have hY0 := hY
  obtain ⟨h1, hD, hs, hne⟩ := hY
  have hn := hD.2.1
  have hk := hD.1
  refine bs_of mtX6_firstWrong rfl (Nat.le_of_ble_eq_true rfl) (fun K R RV RS E => ?_)
  show K 0 [_, _, _, _] [] _
  have loop : ∀ (j i g : Nat), i + j = n → g < 1000 → fwr (se 1) (se 0) s nw j i g = fwr (se 1) (se 0) s nw n 0 0 → K 4 [some (.ref y), some (.int s), some (.int (nI g)), some (.int (nI i))] [] h := by
    intro j
    induction j with
    | zero =>
      intro i g hij hg ho
      refine rl_iload_n (pc := 4) R dX6_firstWrong_4 rfl ?_
      refine rl_aload_n (pc := 5) R dX6_firstWrong_5 rfl ?_
      refine rl_getf (pc := 6) R dX6_firstWrong_6 fkX6_12 (by first | assumption | rfl) rfl ?_
      refine rl_getf (pc := 9) R dX6_firstWrong_9 fkX6_52 (by first | assumption | rfl) rfl ?_
      refine rl_icmp_ge (pc := 12) (tgt := 59) R dX6_firstWrong_12 rfl (fun c12 => ?_) (fun c12 => absurd (nI_le (by omega) (by omega)) c12)
      refine rl_bipush (pc := 59) R dX6_firstWrong_59 bc_m4 ?_
      exact rl_ireturn (pc := 61) E dX6_firstWrong_61 rfl rfl (e_si ho.symm)
    | succ j ih =>
      intro i g hij hg ho
      refine rl_iload_n (pc := 4) R dX6_firstWrong_4 rfl ?_
      refine rl_aload_n (pc := 5) R dX6_firstWrong_5 rfl ?_
      refine rl_getf (pc := 6) R dX6_firstWrong_6 fkX6_12 (by first | assumption | rfl) rfl ?_
      refine rl_getf (pc := 9) R dX6_firstWrong_9 fkX6_52 (by first | assumption | rfl) rfl ?_
      refine rl_icmp_ge (pc := 12) (tgt := 59) R dX6_firstWrong_12 rfl (fun c12 => absurd c12 (nI_ge (by omega) (by omega))) (fun c12 => ?_)
      refine rl_iload_n (pc := 15) R dX6_firstWrong_15 rfl ?_
      refine rl_iload_n (pc := 16) R dX6_firstWrong_16 rfl ?_
      refine rl_S2 (pc := 17) RS dX6_firstWrong_17 lkX6_56 (Nat.le_of_ble_eq_true rfl) (bs_X7_holds) ?_
      refine rl_if_eq (pc := 20) (tgt := 53) R dX6_firstWrong_20 rfl (fun c20 => ?_) (fun c20 => ?_)
      · rw [bI_0] at c20
        refine rl_iinc (pc := 53) R dX6_firstWrong_53 rfl (ii_n i) rfl ?_
        show K _ [_, _, _, _] _ _
        refine rl_goto (pc := 56) (tgt := 4) R dX6_firstWrong_56 rfl (ih (i + 1) _ (by omega) (by have := oAg_le (se 1) i; omega) (by rw [← ho]; simp only [fwr]; first | rw [if_neg (by rw [c20]; decide)] | rw [if_pos c20, if_neg c29, if_pos c38]))
      · rw [bI_n0] at c20
        refine rl_aload_n (pc := 23) R dX6_firstWrong_23 rfl ?_
        refine rl_iload_n (pc := 24) R dX6_firstWrong_24 rfl ?_
        refine rl_iload_n (pc := 25) R dX6_firstWrong_25 rfl ?_
        refine rl_V2 (pc := 26) RV dX6_firstWrong_26 lkX6_66 h1 rfl (Nat.le_of_ble_eq_true rfl) (bs_X6_leftOn hY0) ?_
        refine rl_if_le (pc := 29) (tgt := 41) R dX6_firstWrong_29 rfl (fun c29 => ?_) (fun c29 => ?_)
        · refine rl_iload_n (pc := 41) R dX6_firstWrong_41 rfl ?_
          exact rl_ireturn (pc := 42) E dX6_firstWrong_42 rfl rfl (e_si (by rw [← ho]; simp only [fwr]; first | rw [if_pos c20, if_pos c29] | rw [if_pos c20, if_neg c29, if_neg (by rw [c38]; decide)]))
        · refine rl_aload_n (pc := 32) R dX6_firstWrong_32 rfl ?_
          refine rl_iload_n (pc := 33) R dX6_firstWrong_33 rfl ?_
          refine rl_iload_n (pc := 34) R dX6_firstWrong_34 rfl ?_
          refine rl_V2 (pc := 35) RV dX6_firstWrong_35 lkX6_63 h1 rfl (Nat.le_of_ble_eq_true rfl) (bs_X6_mayLie hY0 (by omega) (by omega)) ?_
          refine rl_if_ne (pc := 38) (tgt := 43) R dX6_firstWrong_38 rfl (fun c38 => ?_) (fun c38 => ?_)
          · rw [bI_n0] at c38
            refine rl_aload_n (pc := 43) R dX6_firstWrong_43 rfl ?_
            refine rl_iconst (pc := 44) R dX6_firstWrong_44 ic_1 ?_
            refine rl_V1 (pc := 45) RV dX6_firstWrong_45 lkX6_44 h1 rfl (Nat.le_of_ble_eq_true rfl) (bs_X6_tell (i := 1) hY0 (by decide)) ?_
            refine rl_iload_n (pc := 48) R dX6_firstWrong_48 rfl ?_
            refine rl_S2 (pc := 49) RS dX6_firstWrong_49 lkX6_59 (Nat.le_of_ble_eq_true rfl) (bs_X7_openAgain (by omega)) ?_
            refine rl_istore_n (pc := 52) R dX6_firstWrong_52 (Nat.le_of_ble_eq_true rfl) rfl ?_
            show K _ [_, _, _, _] _ _
            refine rl_iinc (pc := 53) R dX6_firstWrong_53 rfl (ii_n i) rfl ?_
            show K _ [_, _, _, _] _ _
            refine rl_goto (pc := 56) (tgt := 4) R dX6_firstWrong_56 rfl (ih (i + 1) _ (by omega) (by have := oAg_le (se 1) i; omega) (by rw [← ho]; simp only [fwr]; first | rw [if_neg (by rw [c20]; decide)] | rw [if_pos c20, if_neg c29, if_pos c38]))
          · rw [bI_0] at c38
            refine rl_iload_n (pc := 41) R dX6_firstWrong_41 rfl ?_
            exact rl_ireturn (pc := 42) E dX6_firstWrong_42 rfl rfl (e_si (by rw [← ho]; simp only [fwr]; first | rw [if_pos c20, if_pos c29] | rw [if_pos c20, if_neg c29, if_neg (by rw [c38]; decide)]))
  refine rl_iconst (pc := 0) R dX6_firstWrong_0 ic_0 ?_
  refine rl_istore_n (pc := 1) R dX6_firstWrong_1 (Nat.le_of_ble_eq_true rfl) rfl ?_
  show K _ [_, _, _, _] _ _
  refine rl_iconst (pc := 2) R dX6_firstWrong_2 ic_0 ?_
  refine rl_istore_n (pc := 3) R dX6_firstWrong_3 (Nat.le_of_ble_eq_true rfl) rfl ?_
  show K _ [_, _, _, _] _ _
  exact loop n 0 0 (by omega) (by decide) rfl
theorem bs_X6_courtHas {i : Nat} {s : Int32} (hY : rY h y kd ks kc n nw wo co se) (hi : i < n) : BS (d + 4) false yX6_courtHas [.ref y, .int s, .int (nI i)] h (some (.int (crt n nw wo co i (bt s i) (lft (se 0) s i) (se 2)))) h := by
  have hY0 := hY
  obtain ⟨h1, hD, hs, hne⟩ := hY
  refine bs_of mtX6_courtHas rfl (Nat.le_of_ble_eq_true rfl) (fun K R RV RS E => ?_)
  show K 0 [_, _, _] [] _
  refine rl_aload_n (pc := 0) R dX6_courtHas_0 rfl ?_
  refine rl_getf (pc := 1) R dX6_courtHas_1 fkX6_12 (by first | assumption | rfl) rfl ?_
  refine rl_iload_n (pc := 4) R dX6_courtHas_4 rfl ?_
  refine rl_iload_n (pc := 5) R dX6_courtHas_5 rfl ?_
  refine rl_iload_n (pc := 6) R dX6_courtHas_6 rfl ?_
  refine rl_S2 (pc := 7) RS dX6_courtHas_7 lkX6_56 (Nat.le_of_ble_eq_true rfl) (bs_X7_holds) ?_
  refine rl_aload_n (pc := 10) R dX6_courtHas_10 rfl ?_
  refine rl_iload_n (pc := 11) R dX6_courtHas_11 rfl ?_
  refine rl_iload_n (pc := 12) R dX6_courtHas_12 rfl ?_
  refine rl_V2 (pc := 13) RV dX6_courtHas_13 lkX6_66 h1 rfl (Nat.le_of_ble_eq_true rfl) (bs_X6_leftOn hY0) ?_
  refine rl_aload_n (pc := 16) R dX6_courtHas_16 rfl ?_
  refine rl_iconst (pc := 17) R dX6_courtHas_17 ic_2 ?_
  refine rl_V1 (pc := 18) RV dX6_courtHas_18 lkX6_44 h1 rfl (Nat.le_of_ble_eq_true rfl) (bs_X6_tell (i := 2) hY0 (by decide)) ?_
  refine rl_V4 (pc := 21) RV dX6_courtHas_21 lkX6_74 hD.1 rfl (Nat.le_of_ble_eq_true rfl) (bs_X0_courtHas hD hi) ?_
  exact rl_ireturn (pc := 24) E dX6_courtHas_24 rfl rfl (rfl)
theorem bs_X6_gainOf {s : Int32} (hY : rY h y kd ks kc n nw wo co se) : BS (d + 5) false yX6_gainOf [.ref y, .int s] h (some (.int (gnO n nw wo co (se 0) (se 2) s n 0 0))) h := by
  have hY0 := hY
  obtain ⟨h1, hD, hs, hne⟩ := hY
  have hn := hD.2.1
  have hk := hD.1
  refine bs_of mtX6_gainOf rfl (Nat.le_of_ble_eq_true rfl) (fun K R RV RS E => ?_)
  show K 0 [_, _, _, _] [] _
  have loop : ∀ (j i : Nat) (x : Int32), i + j = n → gnO n nw wo co (se 0) (se 2) s j i x = gnO n nw wo co (se 0) (se 2) s n 0 0 → K 4 [some (.ref y), some (.int s), some (.int x), some (.int (nI i))] [] h := by
    intro j
    induction j with
    | zero =>
      intro i x hij ho
      refine rl_iload_n (pc := 4) R dX6_gainOf_4 rfl ?_
      refine rl_aload_n (pc := 5) R dX6_gainOf_5 rfl ?_
      refine rl_getf (pc := 6) R dX6_gainOf_6 fkX6_12 (by first | assumption | rfl) rfl ?_
      refine rl_getf (pc := 9) R dX6_gainOf_9 fkX6_52 (by first | assumption | rfl) rfl ?_
      refine rl_icmp_ge (pc := 12) (tgt := 30) R dX6_gainOf_12 rfl (fun c12 => ?_) (fun c12 => absurd (nI_le (by omega) (by omega)) c12)
      refine rl_iload_n (pc := 30) R dX6_gainOf_30 rfl ?_
      exact rl_ireturn (pc := 31) E dX6_gainOf_31 rfl rfl (e_si ho.symm)
    | succ j ih =>
      intro i x hij ho
      refine rl_iload_n (pc := 4) R dX6_gainOf_4 rfl ?_
      refine rl_aload_n (pc := 5) R dX6_gainOf_5 rfl ?_
      refine rl_getf (pc := 6) R dX6_gainOf_6 fkX6_12 (by first | assumption | rfl) rfl ?_
      refine rl_getf (pc := 9) R dX6_gainOf_9 fkX6_52 (by first | assumption | rfl) rfl ?_
      refine rl_icmp_ge (pc := 12) (tgt := 30) R dX6_gainOf_12 rfl (fun c12 => absurd c12 (nI_ge (by omega) (by omega))) (fun c12 => ?_)
      refine rl_iload_n (pc := 15) R dX6_gainOf_15 rfl ?_
      refine rl_aload_n (pc := 16) R dX6_gainOf_16 rfl ?_
      refine rl_iload_n (pc := 17) R dX6_gainOf_17 rfl ?_
      refine rl_iload_n (pc := 18) R dX6_gainOf_18 rfl ?_
      refine rl_V2 (pc := 19) RV dX6_gainOf_19 lkX6_78 h1 rfl (Nat.le_of_ble_eq_true rfl) (bs_X6_courtHas hY0 (by omega)) ?_
      refine rl_iadd (pc := 22) R dX6_gainOf_22 ?_
      refine rl_istore_n (pc := 23) R dX6_gainOf_23 (Nat.le_of_ble_eq_true rfl) rfl ?_
      show K _ [_, _, _, _] _ _
      refine rl_iinc (pc := 24) R dX6_gainOf_24 rfl (ii_n i) rfl ?_
      show K _ [_, _, _, _] _ _
      refine rl_goto (pc := 27) (tgt := 4) R dX6_gainOf_27 rfl (ih (i + 1) _ (by omega) ho)
  refine rl_iconst (pc := 0) R dX6_gainOf_0 ic_0 ?_
  refine rl_istore_n (pc := 1) R dX6_gainOf_1 (Nat.le_of_ble_eq_true rfl) rfl ?_
  show K _ [_, _, _, _] _ _
  refine rl_iconst (pc := 2) R dX6_gainOf_2 ic_0 ?_
  refine rl_istore_n (pc := 3) R dX6_gainOf_3 (Nat.le_of_ble_eq_true rfl) rfl ?_
  show K _ [_, _, _, _] _ _
  exact loop n 0 0 (by omega) rfl
theorem bs_X6_trustedBy {s : Int32} (hY : rY h y kd ks kc n nw wo co se) : BS (d + 4) false yX6_trustedBy [.ref y, .int s] h (some (.int (trB n nw (se 0) (se 2) s n 0 0))) h := by
  have hY0 := hY
  obtain ⟨h1, hD, hs, hne⟩ := hY
  have hn := hD.2.1
  have hk := hD.1
  refine bs_of mtX6_trustedBy rfl (Nat.le_of_ble_eq_true rfl) (fun K R RV RS E => ?_)
  show K 0 [_, _, _, _, _] [] _
  have loop : ∀ (j i : Nat) (x : Int32) (z : Option Value), i + j = n → trB n nw (se 0) (se 2) s j i x = trB n nw (se 0) (se 2) s n 0 0 → (z = none ∨ ∃ v : Int32, z = some (.int v)) → K 4 [some (.ref y), some (.int s), some (.int x), some (.int (nI i)), z] [] h := by
    intro j
    induction j with
    | zero =>
      intro i x z hij ho hz
      refine rl_iload_n (pc := 4) R dX6_trustedBy_4 rfl ?_
      refine rl_aload_n (pc := 5) R dX6_trustedBy_5 rfl ?_
      refine rl_getf (pc := 6) R dX6_trustedBy_6 fkX6_12 (by first | assumption | rfl) rfl ?_
      refine rl_getf (pc := 9) R dX6_trustedBy_9 fkX6_52 (by first | assumption | rfl) rfl ?_
      refine rl_icmp_ge (pc := 12) (tgt := 80) R dX6_trustedBy_12 rfl (fun c12 => ?_) (fun c12 => absurd (nI_le (by omega) (by omega)) c12)
      refine rl_iload_n (pc := 80) R dX6_trustedBy_80 rfl ?_
      exact rl_ireturn (pc := 81) E dX6_trustedBy_81 rfl rfl (e_si ho.symm)
    | succ j ih =>
      intro i x z hij ho hz
      have word : ∀ b : Bool, b = (bt s i || decide (nw i = 1)) → K 39 [some (.ref y), some (.int s), some (.int x), some (.int (nI i)), z] [.int (bI b)] h := by
        intro b hb
        refine rl_istore (pc := 39) R dX6_trustedBy_39 (Nat.le_of_ble_eq_true rfl) rfl ?_
        show K _ [_, _, _, _, _] _ _
        refine rl_iload (pc := 41) R dX6_trustedBy_41 rfl ?_
        refine rl_if_eq (pc := 43) (tgt := 74) R dX6_trustedBy_43 rfl (fun c43 => ?_) (fun c43 => ?_)
        · rw [bI_0] at c43
          refine rl_iinc (pc := 74) R dX6_trustedBy_74 rfl (ii_n i) rfl ?_
          show K _ [_, _, _, _, _] _ _
          refine rl_goto (pc := 77) (tgt := 4) R dX6_trustedBy_77 rfl (ih (i + 1) _ _ (by omega) (by rw [← ho]; simp only [trB]; rw [← hb]; first | (rw [c43]; rfl) | (rw [c43, c65]; rfl)) (Or.inr ⟨_, rfl⟩))
        · rw [bI_n0] at c43
          refine rl_aload_n (pc := 46) R dX6_trustedBy_46 rfl ?_
          refine rl_getf (pc := 47) R dX6_trustedBy_47 fkX6_12 (by first | assumption | rfl) rfl ?_
          refine rl_iload_n (pc := 50) R dX6_trustedBy_50 rfl ?_
          refine rl_aload_n (pc := 51) R dX6_trustedBy_51 rfl ?_
          refine rl_iload_n (pc := 52) R dX6_trustedBy_52 rfl ?_
          refine rl_iload_n (pc := 53) R dX6_trustedBy_53 rfl ?_
          refine rl_V2 (pc := 54) RV dX6_trustedBy_54 lkX6_66 h1 rfl (Nat.le_of_ble_eq_true rfl) (bs_X6_leftOn hY0) ?_
          refine rl_aload_n (pc := 57) R dX6_trustedBy_57 rfl ?_
          refine rl_iconst (pc := 58) R dX6_trustedBy_58 ic_2 ?_
          refine rl_V1 (pc := 59) RV dX6_trustedBy_59 lkX6_44 h1 rfl (Nat.le_of_ble_eq_true rfl) (bs_X6_tell (i := 2) hY0 (by decide)) ?_
          refine rl_V3 (pc := 62) RV dX6_trustedBy_62 lkX6_80 hk rfl (Nat.le_of_ble_eq_true rfl) (bs_X0_isTrusted hk) ?_
          refine rl_if_eq (pc := 65) (tgt := 74) R dX6_trustedBy_65 rfl (fun c65 => ?_) (fun c65 => ?_)
          · rw [bI_0] at c65
            refine rl_iinc (pc := 74) R dX6_trustedBy_74 rfl (ii_n i) rfl ?_
            show K _ [_, _, _, _, _] _ _
            refine rl_goto (pc := 77) (tgt := 4) R dX6_trustedBy_77 rfl (ih (i + 1) _ _ (by omega) (by rw [← ho]; simp only [trB]; rw [← hb]; first | (rw [c43]; rfl) | (rw [c43, c65]; rfl)) (Or.inr ⟨_, rfl⟩))
          · rw [bI_n0] at c65
            refine rl_iload_n (pc := 68) R dX6_trustedBy_68 rfl ?_
            refine rl_iconst (pc := 69) R dX6_trustedBy_69 ic_1 ?_
            refine rl_iload_n (pc := 70) R dX6_trustedBy_70 rfl ?_
            refine rl_ishl (pc := 71) R dX6_trustedBy_71 ?_
            refine rl_ior (pc := 72) R dX6_trustedBy_72 ?_
            refine rl_istore_n (pc := 73) R dX6_trustedBy_73 (Nat.le_of_ble_eq_true rfl) rfl ?_
            show K _ [_, _, _, _, _] _ _
            refine rl_iinc (pc := 74) R dX6_trustedBy_74 rfl (ii_n i) rfl ?_
            show K _ [_, _, _, _, _] _ _
            refine rl_goto (pc := 77) (tgt := 4) R dX6_trustedBy_77 rfl (ih (i + 1) _ _ (by omega) (by rw [← ho]; simp only [trB]; rw [← hb]; first | (rw [c43]; rfl) | (rw [c43, c65]; rfl)) (Or.inr ⟨_, rfl⟩))
      refine rl_iload_n (pc := 4) R dX6_trustedBy_4 rfl ?_
      refine rl_aload_n (pc := 5) R dX6_trustedBy_5 rfl ?_
      refine rl_getf (pc := 6) R dX6_trustedBy_6 fkX6_12 (by first | assumption | rfl) rfl ?_
      refine rl_getf (pc := 9) R dX6_trustedBy_9 fkX6_52 (by first | assumption | rfl) rfl ?_
      refine rl_icmp_ge (pc := 12) (tgt := 80) R dX6_trustedBy_12 rfl (fun c12 => absurd c12 (nI_ge (by omega) (by omega))) (fun c12 => ?_)
      refine rl_iload_n (pc := 15) R dX6_trustedBy_15 rfl ?_
      refine rl_iload_n (pc := 16) R dX6_trustedBy_16 rfl ?_
      refine rl_S2 (pc := 17) RS dX6_trustedBy_17 lkX6_56 (Nat.le_of_ble_eq_true rfl) (bs_X7_holds) ?_
      refine rl_if_ne (pc := 20) (tgt := 34) R dX6_trustedBy_20 rfl (fun c20 => ?_) (fun c20 => ?_)
      · rw [bI_n0] at c20
        refine rl_iconst (pc := 34) R dX6_trustedBy_34 ic_1 ?_
        refine rl_goto (pc := 35) (tgt := 39) R dX6_trustedBy_35 rfl ?_
        first | exact word true (by simp_all) | exact word false (by simp_all)
      · rw [bI_0] at c20
        refine rl_aload_n (pc := 23) R dX6_trustedBy_23 rfl ?_
        refine rl_getf (pc := 24) R dX6_trustedBy_24 fkX6_12 (by first | assumption | rfl) rfl ?_
        refine rl_iload_n (pc := 27) R dX6_trustedBy_27 rfl ?_
        refine rl_V1 (pc := 28) RV dX6_trustedBy_28 lkX6_40 hk rfl (Nat.le_of_ble_eq_true rfl) (bs_X0_hasNews hD (by omega)) ?_
        refine rl_if_eq (pc := 31) (tgt := 38) R dX6_trustedBy_31 rfl (fun c31 => ?_) (fun c31 => ?_)
        · rw [bI_0] at c31
          refine rl_iconst (pc := 38) R dX6_trustedBy_38 ic_0 ?_
          first | exact word true (by simp_all) | exact word false (by simp_all)
        · rw [bI_n0] at c31
          refine rl_iconst (pc := 34) R dX6_trustedBy_34 ic_1 ?_
          refine rl_goto (pc := 35) (tgt := 39) R dX6_trustedBy_35 rfl ?_
          first | exact word true (by simp_all) | exact word false (by simp_all)
  refine rl_iconst (pc := 0) R dX6_trustedBy_0 ic_0 ?_
  refine rl_istore_n (pc := 1) R dX6_trustedBy_1 (Nat.le_of_ble_eq_true rfl) rfl ?_
  show K _ [_, _, _, _, _] _ _
  refine rl_iconst (pc := 2) R dX6_trustedBy_2 ic_0 ?_
  refine rl_istore_n (pc := 3) R dX6_trustedBy_3 (Nat.le_of_ble_eq_true rfl) rfl ?_
  show K _ [_, _, _, _, _] _ _
  exact loop n 0 0 _ (by omega) rfl (Or.inl rfl)
theorem bs_X6_drawLots (hY : rY h y kd ks kc n nw wo co se) : BS (d + 4) false yX6_drawLots [.ref y] h (some (.int (lot n nw (se 1) (se 0) n 0 0 0 (se 3)).1)) (h.set ks (hI 4 (upd se 3 (lot n nw (se 1) (se 0) n 0 0 0 (se 3)).2))) := by
  have hn := hY.2.1.2.1
  refine bs_of mtX6_drawLots rfl (Nat.le_of_ble_eq_true rfl) (fun K R RV RS E => ?_)
  show K 0 [_, _, _, _, _] [] _
  have loop : ∀ (j i : Nat) (s : Int32) (g : Nat) (h2 : List sm_C) (se2 : Nat → Int32) (z : Option Value), i + j = n → g < 1000 → rY h2 y kd ks kc n nw wo co se2 → se2 0 = se 0 → se2 1 = se 1 → (h2.set ks (hI 4 (upd se2 3 (lot n nw (se 1) (se 0) j i s g (se2 3)).2))) = (h.set ks (hI 4 (upd se 3 (lot n nw (se 1) (se 0) n 0 0 0 (se 3)).2))) → (j = 0 → h2 = (h.set ks (hI 4 (upd se 3 (lot n nw (se 1) (se 0) n 0 0 0 (se 3)).2)))) → (lot n nw (se 1) (se 0) j i s g (se2 3)).1 = (lot n nw (se 1) (se 0) n 0 0 0 (se 3)).1 → K 6 [some (.ref y), some (.int s), some (.int (nI g)), some (.int (nI i)), z] [] h2 := by
    intro j
    induction j with
    | zero =>
      intro i s g h2 se2 z hij hg hY2 e0 e1 hh hz ho
      have hk := hY2.2.1.1
      have h1 := hY2.1
      have h0 := hz rfl
      subst h0
      refine rl_iload_n (pc := 6) R dX6_drawLots_6 rfl ?_
      refine rl_aload_n (pc := 7) R dX6_drawLots_7 rfl ?_
      refine rl_getf (pc := 8) R dX6_drawLots_8 fkX6_12 (by first | assumption | rfl) rfl ?_
      refine rl_getf (pc := 11) R dX6_drawLots_11 fkX6_52 (by first | assumption | rfl) rfl ?_
      refine rl_icmp_ge (pc := 14) (tgt := 105) R dX6_drawLots_14 rfl (fun c14 => ?_) (fun c14 => absurd (nI_le (by omega) (by omega)) c14)
      refine rl_iload_n (pc := 105) R dX6_drawLots_105 rfl ?_
      exact rl_ireturn (pc := 106) E dX6_drawLots_106 rfl rfl (e_si ho.symm)
    | succ j ih =>
      intro i s g h2 se2 z hij hg hY2 e0 e1 hh hz ho
      have hk := hY2.2.1.1
      have h1 := hY2.1
      have hY3 : rY (h2.set ks (hI 4 (upd se2 3 (drw (se2 3))))) y kd ks kc n nw wo co (upd se2 3 (drw (se2 3))) := rY_set hY2
      have h13 := hY3.1
      have hk3 := hY3.2.1.1
      have hm : nI n - nI i = nI (n - i) := pk_sub (by omega)
      have u0 : upd se2 3 (drw (se2 3)) 0 = se 0 := by rw [← e0]; rfl
      have u1 : upd se2 3 (drw (se2 3)) 1 = se 1 := by rw [← e1]; rfl
      have u3 : upd se2 3 (drw (se2 3)) 3 = drw (se2 3) := rfl
      have hset : ∀ x : Int32, (h2.set ks (hI 4 (upd se2 3 (drw (se2 3))))).set ks (hI 4 (upd (upd se2 3 (drw (se2 3))) 3 x)) = h2.set ks (hI 4 (upd se2 3 x)) := by
        intro x
        rw [List.set_set]
        exact congrArg (fun f => h2.set ks (hI 4 f)) (by funext q; by_cases hq : q = 3 <;> simp [upd, hq])
      have upu : ∀ x : Int32, upd (upd se2 3 x) 3 x = upd se2 3 x := by
        intro x; funext q; by_cases hq : q = 3 <;> simp [upd, hq]
      have again : ∀ (b : Bool), ltY n nw (se 1) (se 0) s (drw (se2 3)) i g = b → K 99 [some (.ref y), some (.int (if b then s ||| b1 i else s)), some (.int (nI (if b then oAg (se 1) i else g))), some (.int (nI i)), some (.int (nI (n - i)))] [] (h2.set ks (hI 4 (upd se2 3 (drw (se2 3))))) := by
        intro b hb
        have hl : lot n nw (se 1) (se 0) (j + 1) i s g (se2 3) = lot n nw (se 1) (se 0) j (i + 1) (if b then s ||| b1 i else s) (if b then oAg (se 1) i else g) (drw (se2 3)) := by
          simp only [lot, hb]
          cases b <;> rfl
        rw [hl] at hh ho
        refine rl_iinc (pc := 99) R dX6_drawLots_99 rfl (ii_n i) rfl ?_
        show K _ [_, _, _, _, _] _ _
        refine rl_goto (pc := 102) (tgt := 6) R dX6_drawLots_102 rfl (ih (i + 1) _ _ _ _ _ (by omega) (by have := oAg_le (se 1) i; split <;> omega) hY3 u0 u1 (by rw [u3, hset]; exact hh) (fun hj => by rw [← hh]; subst hj; rfl) (by rw [u3]; exact ho))
      refine rl_iload_n (pc := 6) R dX6_drawLots_6 rfl ?_
      refine rl_aload_n (pc := 7) R dX6_drawLots_7 rfl ?_
      refine rl_getf (pc := 8) R dX6_drawLots_8 fkX6_12 (by first | assumption | rfl) rfl ?_
      refine rl_getf (pc := 11) R dX6_drawLots_11 fkX6_52 (by first | assumption | rfl) rfl ?_
      refine rl_icmp_ge (pc := 14) (tgt := 105) R dX6_drawLots_14 rfl (fun c14 => absurd c14 (nI_ge (by omega) (by omega))) (fun c14 => ?_)
      refine rl_aload_n (pc := 17) R dX6_drawLots_17 rfl ?_
      refine rl_iconst (pc := 18) R dX6_drawLots_18 ic_3 ?_
      refine rl_aload_n (pc := 19) R dX6_drawLots_19 rfl ?_
      refine rl_iconst (pc := 20) R dX6_drawLots_20 ic_3 ?_
      refine rl_V1 (pc := 21) RV dX6_drawLots_21 lkX6_44 h1 rfl (Nat.le_of_ble_eq_true rfl) (bs_X6_tell (i := 3) hY2 (by decide)) ?_
      refine rl_ldc (pc := 24) R dX6_drawLots_24 kcX6_84 ?_
      refine rl_imul (pc := 26) R dX6_drawLots_26 ?_
      refine rl_sipush (pc := 27) R dX6_drawLots_27 sc_12345 ?_
      refine rl_iadd (pc := 30) R dX6_drawLots_30 ?_
      refine rl_ldc (pc := 31) R dX6_drawLots_31 kcX6_85 ?_
      refine rl_iand (pc := 33) R dX6_drawLots_33 ?_
      refine rl_V2 (pc := 34) RV dX6_drawLots_34 lkX6_86 h1 rfl (Nat.le_of_ble_eq_true rfl) (bs_X6_change (i := 3) hY2 (by decide)) ?_
      show K 37 _ [.int _] (h2.set ks (hI 4 (upd se2 3 (drw (se2 3)))))
      refine rl_pop (pc := 37) R dX6_drawLots_37 rfl ?_
      refine rl_aload_n (pc := 38) R dX6_drawLots_38 rfl ?_
      refine rl_getf (pc := 39) R dX6_drawLots_39 fkX6_12 (by first | assumption | rfl) rfl ?_
      refine rl_getf (pc := 42) R dX6_drawLots_42 fkX6_52 (by first | assumption | rfl) rfl ?_
      refine rl_iload_n (pc := 45) R dX6_drawLots_45 rfl ?_
      refine rl_isub (pc := 46) R dX6_drawLots_46 ?_
      rw [hm]
      refine rl_istore (pc := 47) R dX6_drawLots_47 (Nat.le_of_ble_eq_true rfl) rfl ?_
      show K _ [_, _, _, _, _] _ _
      refine rl_iload (pc := 49) R dX6_drawLots_49 rfl ?_
      refine rl_if_le (pc := 51) (tgt := 99) R dX6_drawLots_51 rfl (fun c51 => absurd c51 (nI_nle (by omega) (by omega))) (fun c51 => ?_)
      refine rl_aload_n (pc := 54) R dX6_drawLots_54 rfl ?_
      refine rl_iconst (pc := 55) R dX6_drawLots_55 ic_3 ?_
      refine rl_V1 (pc := 56) RV dX6_drawLots_56 lkX6_44 h13 rfl (Nat.le_of_ble_eq_true rfl) (bs_X6_tell (i := 3) hY3 (by decide)) ?_
      rw [u3]
      refine rl_ldc (pc := 59) R dX6_drawLots_59 kcX6_89 ?_
      refine rl_idiv (pc := 61) R dX6_drawLots_61 (by decide) ?_
      refine rl_iload (pc := 62) R dX6_drawLots_62 rfl ?_
      refine rl_irem (pc := 64) R dX6_drawLots_64 (nI_ne0 (by omega) (by omega)) ?_
      refine rl_aload_n (pc := 65) R dX6_drawLots_65 rfl ?_
      refine rl_iload_n (pc := 66) R dX6_drawLots_66 rfl ?_
      refine rl_iload_n (pc := 67) R dX6_drawLots_67 rfl ?_
      refine rl_V2 (pc := 68) RV dX6_drawLots_68 lkX6_66 h13 rfl (Nat.le_of_ble_eq_true rfl) (bs_X6_leftOn hY3) ?_
      rw [u0]
      refine rl_icmp_ge (pc := 71) (tgt := 99) R dX6_drawLots_71 rfl (fun c71 => ?_) (fun c71 => ?_)
      · exact again false (by simp only [ltY, hm]; rw [decide_eq_false (Int32.not_lt.mpr c71)]; rfl)
      · rw [Int32.not_le] at c71
        refine rl_aload_n (pc := 74) R dX6_drawLots_74 rfl ?_
        refine rl_iload_n (pc := 75) R dX6_drawLots_75 rfl ?_
        refine rl_iload_n (pc := 76) R dX6_drawLots_76 rfl ?_
        refine rl_V2 (pc := 77) RV dX6_drawLots_77 lkX6_63 h13 rfl (Nat.le_of_ble_eq_true rfl) (bs_X6_mayLie hY3 (by omega) (by omega)) ?_
        rw [u1]
        refine rl_if_eq (pc := 80) (tgt := 99) R dX6_drawLots_80 rfl (fun c80 => ?_) (fun c80 => ?_)
        · exact again false (by rw [bI_0] at c80; simp only [ltY, c80, Bool.and_false])
        · rw [bI_n0] at c80
          refine rl_iload_n (pc := 83) R dX6_drawLots_83 rfl ?_
          refine rl_iconst (pc := 84) R dX6_drawLots_84 ic_1 ?_
          refine rl_iload_n (pc := 85) R dX6_drawLots_85 rfl ?_
          refine rl_ishl (pc := 86) R dX6_drawLots_86 ?_
          refine rl_ior (pc := 87) R dX6_drawLots_87 ?_
          refine rl_istore_n (pc := 88) R dX6_drawLots_88 (Nat.le_of_ble_eq_true rfl) rfl ?_
          show K _ [_, _, _, _, _] _ _
          refine rl_aload_n (pc := 89) R dX6_drawLots_89 rfl ?_
          refine rl_iconst (pc := 90) R dX6_drawLots_90 ic_1 ?_
          refine rl_V1 (pc := 91) RV dX6_drawLots_91 lkX6_44 h13 rfl (Nat.le_of_ble_eq_true rfl) (bs_X6_tell (i := 1) hY3 (by decide)) ?_
          rw [u1]
          refine rl_iload_n (pc := 94) R dX6_drawLots_94 rfl ?_
          refine rl_S2 (pc := 95) RS dX6_drawLots_95 lkX6_59 (Nat.le_of_ble_eq_true rfl) (bs_X7_openAgain (by omega)) ?_
          refine rl_istore_n (pc := 98) R dX6_drawLots_98 (Nat.le_of_ble_eq_true rfl) rfl ?_
          show K _ [_, _, _, _, _] _ _
          exact again true (by simp only [ltY, hm]; rw [decide_eq_true c71, c80]; rfl)
  refine rl_iconst (pc := 0) R dX6_drawLots_0 ic_0 ?_
  refine rl_istore_n (pc := 1) R dX6_drawLots_1 (Nat.le_of_ble_eq_true rfl) rfl ?_
  show K _ [_, _, _, _, _] _ _
  refine rl_iconst (pc := 2) R dX6_drawLots_2 ic_0 ?_
  refine rl_istore_n (pc := 3) R dX6_drawLots_3 (Nat.le_of_ble_eq_true rfl) rfl ?_
  show K _ [_, _, _, _, _] _ _
  refine rl_iconst (pc := 4) R dX6_drawLots_4 ic_0 ?_
  refine rl_istore_n (pc := 5) R dX6_drawLots_5 (Nat.le_of_ble_eq_true rfl) rfl ?_
  show K _ [_, _, _, _, _] _ _
  exact loop n 0 0 0 h se _ (by omega) (by decide) hY rfl rfl rfl (fun hn0 => by subst hn0; simp only [lot]; rw [show upd se 3 (se 3) = se from by funext q; by_cases hq : q = 3 <;> simp [upd, hq]]; exact (List.set_getElem?_self' hY.2.2.1).symm) rfl
end YR
end
section
/-! THE TABLE AND HARM -/
def pm : Nat → Int32
  | 0 => -1
  | m + 1 => nI m
theorem pm_dec (m : Nat) : nI m + Int32.ofInt (-1) = pm m := by
  cases m with
  | zero => decide
  | succ m => exact pk_m1 m
theorem pm_sub (m : Nat) : nI m - 1 = pm m := by
  cases m with
  | zero => decide
  | succ m => exact nI_pred m
theorem pm_lt (m : Nat) (h : m < 2147483648) : ¬ pm (m + 1) < 0 := nI_pos h
def mn (a b : Int32) : Int32 := if b < a then b else a
def NEV : Int32 := 2147483647
def lsm (n : Nat) (nw wo co : Nat → Int32) (left trust : Int32) : Nat → Nat → Int32 → Int32
  | 0, _, s => s
  | j + 1, i, s => lsm n nw wo co left trust j (i + 1) (s + crt n nw wo co i false left trust)
def silG (n : Nat) (nw wo co : Nat → Int32) (trust : Int32) (g : Nat → Int32) (i l : Nat) : Int32 := crt n nw wo co i false (nI l) trust + g ((i + 1) * 10 + l)
def lyG (n : Nat) (nw wo co : Nat → Int32) (law trust : Int32) (g : Nat → Int32) (i l : Nat) : Int32 :=
  if l = 0 then NEV else if nw i = 1 then NEV else if opn law i then lsm n nw wo co (nI (l - 1)) trust (min (oAg law i) n - (i + 1)) (i + 1) (crt n nw wo co i true (nI l) trust) + g (min (oAg law i) n * 10 + (l - 1)) else NEV
/-- the last row of the table -/
def rkE (n : Nat) : Nat → Nat → (Nat → Int32) → Nat → Int32
  | 0, _, g => g
  | j + 1, l, g => rkE n j (l + 1) (upd g (n * 10 + l) 0)
/-- row i of the table -/
def rkR (n : Nat) (nw wo co : Nat → Int32) (law trust : Int32) (i : Nat) : Nat → Nat → (Nat → Int32) → Nat → Int32
  | 0, _, g => g
  | j + 1, l, g => rkR n nw wo co law trust i j (l + 1) (upd g (i * 10 + l) (mn (silG n nw wo co trust g i l) (lyG n nw wo co law trust g i l)))
/-- rows below m -/
def rkO (n : Nat) (nw wo co : Nat → Int32) (law trust : Int32) (lies : Nat) : Nat → (Nat → Int32) → Nat → Int32
  | 0, g => g
  | m + 1, g => rkO n nw wo co law trust lies m (rkR n nw wo co law trust m (lies + 1) 0 g)
def rk (n : Nat) (nw wo co : Nat → Int32) (law trust : Int32) (lies : Nat) (g : Nat → Int32) : Nat → Int32 := rkO n nw wo co law trust lies n (rkE n (lies + 1) 0 g)
/-- what the table has to be -/
def rkF (n : Nat) (nw wo co : Nat → Int32) (law trust : Int32) (lies : Nat) (g : Nat → Int32) : Prop :=
  (∀ l, l ≤ lies → g (n * 10 + l) = 0) ∧ ∀ i, i < n → ∀ l, l ≤ lies → g (i * 10 + l) = mn (silG n nw wo co trust g i l) (lyG n nw wo co law trust g i l)
theorem rkE_out {n : Nat} : ∀ (j l : Nat) (g : Nat → Int32) (q : Nat), (∀ l2, l ≤ l2 → l2 < l + j → q ≠ n * 10 + l2) → rkE n j l g q = g q
  | 0, _, _, _, _ => rfl
  | j + 1, l, g, q, h => by
    rw [rkE, rkE_out j (l + 1) _ q (fun l2 h1 h2 => h l2 (by omega) (by omega))]
    simp only [upd]; rw [if_neg (h l (by omega) (by omega))]
theorem rkE_in {n : Nat} : ∀ (j l : Nat) (g : Nat → Int32) (l2 : Nat), l ≤ l2 → l2 < l + j → rkE n j l g (n * 10 + l2) = 0
  | 0, _, _, _, h1, h2 => by omega
  | j + 1, l, g, l2, h1, h2 => by
    rw [rkE]
    rcases Nat.lt_or_ge l l2 with q | q
    · exact rkE_in j (l + 1) _ l2 (by omega) (by omega)
    · have : l2 = l := by omega
      subst this
      rw [rkE_out j (l2 + 1) _ _ (fun l3 h3 h4 => by omega)]
      simp [upd]
section HF
variable {n : Nat} {nw wo co : Nat → Int32} {law trust : Int32}
theorem silG_congr {g g2 : Nat → Int32} {i l : Nat} (h : g ((i + 1) * 10 + l) = g2 ((i + 1) * 10 + l)) : silG n nw wo co trust g i l = silG n nw wo co trust g2 i l := by simp only [silG, h]
theorem lyG_congr {g g2 : Nat → Int32} {i l : Nat} (h : l ≠ 0 → g (min (oAg law i) n * 10 + (l - 1)) = g2 (min (oAg law i) n * 10 + (l - 1))) : lyG n nw wo co law trust g i l = lyG n nw wo co law trust g2 i l := by
  simp only [lyG]
  split
  · rfl
  · rename_i hl; rw [h hl]
theorem rkR_out {i : Nat} : ∀ (j l : Nat) (g : Nat → Int32) (q : Nat), (∀ l2, l ≤ l2 → l2 < l + j → q ≠ i * 10 + l2) → rkR n nw wo co law trust i j l g q = g q
  | 0, _, _, _, _ => rfl
  | j + 1, l, g, q, h => by
    rw [rkR, rkR_out j (l + 1) _ q (fun l2 h1 h2 => h l2 (by omega) (by omega))]
    simp only [upd]; rw [if_neg (h l (by omega) (by omega))]
theorem rkR_in {i : Nat} (hi : i < n) : ∀ (j l : Nat) (g : Nat → Int32) (l2 : Nat), l + j ≤ 10 → l ≤ l2 → l2 < l + j → rkR n nw wo co law trust i j l g (i * 10 + l2) = mn (silG n nw wo co trust g i l2) (lyG n nw wo co law trust g i l2)
  | 0, _, _, _, _, h1, h2 => by omega
  | j + 1, l, g, l2, hj, h1, h2 => by
    rw [rkR]
    rcases Nat.lt_or_ge l l2 with q | q
    · rw [rkR_in hi j (l + 1) _ l2 (by omega) (by omega) (by omega)]
      have hag : i + 1 ≤ min (oAg law i) n := by have := oAg_gt law i; omega
      rw [silG_congr (g2 := g) (by simp only [upd]; rw [if_neg (by omega)]), lyG_congr (g2 := g) (fun _ => by simp only [upd]; rw [if_neg (by omega)])]
    · have : l2 = l := by omega
      subst this
      rw [rkR_out j (l2 + 1) _ _ (fun l3 h3 h4 => by omega)]
      simp [upd]
theorem rkO_out {lies : Nat} (hl : lies ≤ 9) : ∀ (m : Nat) (g : Nat → Int32) (q : Nat), m * 10 ≤ q → rkO n nw wo co law trust lies m g q = g q
  | 0, _, _, _ => rfl
  | m + 1, g, q, h => by
    rw [rkO, rkO_out hl m _ q (by omega), rkR_out _ _ _ _ (fun l2 h1 h2 => by omega)]
theorem rkO_in {lies : Nat} (hl : lies ≤ 9) : ∀ (m : Nat) (g : Nat → Int32), m ≤ n → ∀ i, i < m → ∀ l, l ≤ lies → rkO n nw wo co law trust lies m g (i * 10 + l) = mn (silG n nw wo co trust (rkO n nw wo co law trust lies m g) i l) (lyG n nw wo co law trust (rkO n nw wo co law trust lies m g) i l)
  | 0, _, _, i, hi, _, _ => by omega
  | m + 1, g, hm, i, hi, l, hll => by
    rw [rkO]
    rcases Nat.lt_or_ge i m with q | q
    · exact rkO_in hl m _ (by omega) i q l hll
    · have : i = m := by omega
      subst this
      have hag : i + 1 ≤ min (oAg law i) n := by have := oAg_gt law i; omega
      rw [rkO_out hl i _ _ (by omega), rkR_in (by omega) _ _ _ _ (by omega) (by omega) (by omega)]
      rw [silG_congr (g := rkO n nw wo co law trust lies i _) (g2 := g) (by rw [rkO_out hl _ _ _ (by omega), rkR_out _ _ _ _ (fun l2 h1 h2 => by omega)]), lyG_congr (g := rkO n nw wo co law trust lies i _) (g2 := g) (fun _ => by rw [rkO_out hl _ _ _ (by omega), rkR_out _ _ _ _ (fun l2 h1 h2 => by omega)])]
theorem rk_F {lies : Nat} (hl : lies ≤ 9) (g : Nat → Int32) : rkF n nw wo co law trust lies (rk n nw wo co law trust lies g) := by
  refine ⟨fun l hll => ?_, fun i hi l hll => rkO_in hl n _ (Nat.le_refl _) i hi l hll⟩
  rw [rk, rkO_out hl n _ _ (by omega), rkE_in _ _ _ _ (by omega) (by omega)]
end HF
def wrs (n : Nat) (nw wo co : Nat → Int32) (law trust : Int32) (g : Nat → Int32) : Nat → Nat → Nat → Nat → Int32 → Int32
  | 0, _, _, _, s => s
  | j + 1, i, l, q, s => if q ≤ i ∧ g (i * 10 + l) < silG n nw wo co trust g i l then wrs n nw wo co law trust g j (i + 1) (l - 1) (oAg law i) (s ||| b1 i) else wrs n nw wo co law trust g j (i + 1) l q s
def rH (h : List sm_C) (a t tc : Nat) (g : Nat → Int32) : Prop := h[a]? = some (hO 1 [.ref t]) ∧ h[t]? = some (hO 3 [.ref tc]) ∧ h[tc]? = some (hI 290 g)
theorem rH_set {h : List sm_C} {a t tc : Nat} {g g2 : Nat → Int32} (hH : rH h a t tc g) : rH (h.set tc (hI 290 g2)) a t tc g2 := ⟨sm_h_oi hH.1 hH.2.2, sm_h_oi hH.2.1 hH.2.2, sm_h_eq hH.2.2⟩
theorem ix10 (i l : Nat) : nI i * 10 + nI l = nI (i * 10 + l) := by rw [show (10 : Int32) = nI 10 from rfl, pk_mul, nI_add]
section HM
variable {d : Nat} {h : List sm_C} {k c n a t tc : Nat} {nw wo co g : Nat → Int32}
theorem bs_X3_tell {i l : Nat} (h1 : h[t]? = some (hO 3 [.ref tc])) (h2 : h[tc]? = some (hI 290 g)) (hi : i < 29) (hl : l < 10) : BS (d + 2) false yX3_tell [.ref t, .int (nI i), .int (nI l)] h (some (.int (g (i * 10 + l)))) h := by
  refine bs_of mtX3_tell rfl (Nat.le_of_ble_eq_true rfl) (fun K R RV RS E => ?_)
  show K 0 [_, _, _] [] _
  refine rl_aload_n (pc := 0) R dX3_tell_0 rfl ?_
  refine rl_getf (pc := 1) R dX3_tell_1 fkX3_9 (by first | assumption | rfl) rfl ?_
  refine rl_iload_n (pc := 4) R dX3_tell_4 rfl ?_
  refine rl_bipush (pc := 5) R dX3_tell_5 bc_10 ?_
  refine rl_imul (pc := 7) R dX3_tell_7 ?_
  refine rl_iload_n (pc := 8) R dX3_tell_8 rfl ?_
  refine rl_iadd (pc := 9) R dX3_tell_9 ?_
  refine rl_S2 (pc := 10) RS dX3_tell_10 lkX3_15 (Nat.le_of_ble_eq_true rfl) (bs_X7_at h2 (ix10 i l) (by omega) (by decide)) ?_
  exact rl_ireturn (pc := 13) E dX3_tell_13 rfl rfl (rfl)
theorem bs_X3_change {i l : Nat} {v : Int32} (h1 : h[t]? = some (hO 3 [.ref tc])) (h2 : h[tc]? = some (hI 290 g)) (hi : i < 29) (hl : l < 10) : BS (d + 3) false yX3_change [.ref t, .int (nI i), .int (nI l), .int v] h none (h.set tc (hI 290 (upd g (i * 10 + l) v))) := by
  refine bs_of mtX3_change rfl (Nat.le_of_ble_eq_true rfl) (fun K R RV RS E => ?_)
  show K 0 [_, _, _, _] [] _
  refine rl_aload_n (pc := 0) R dX3_change_0 rfl ?_
  refine rl_getf (pc := 1) R dX3_change_1 fkX3_9 (by first | assumption | rfl) rfl ?_
  refine rl_iload_n (pc := 4) R dX3_change_4 rfl ?_
  refine rl_bipush (pc := 5) R dX3_change_5 bc_10 ?_
  refine rl_imul (pc := 7) R dX3_change_7 ?_
  refine rl_iload_n (pc := 8) R dX3_change_8 rfl ?_
  refine rl_iadd (pc := 9) R dX3_change_9 ?_
  refine rl_iload_n (pc := 10) R dX3_change_10 rfl ?_
  refine rl_S3 (pc := 11) RS dX3_change_11 lkX3_19 (Nat.le_of_ble_eq_true rfl) (bs_X7_put h2 (ix10 i l) (by omega) (by decide)) ?_
  refine rl_pop (pc := 14) R dX3_change_14 rfl ?_
  exact rl_return (pc := 15) E dX3_change_15 rfl rfl
theorem bs_X1_silent {i l : Nat} {trust : Int32} (hD : rD h k c n nw wo co) (hH : rH h a t tc g) (hi : i < n) (hl : l < 10) : BS (d + 4) false yX1_silent [.ref a, .ref k, .int (nI i), .int (nI l), .int trust] h (some (.int (silG n nw wo co trust g i l))) h := by
  obtain ⟨h1, h2, h3⟩ := hH
  have hn := hD.2.1
  refine bs_of mtX1_silent rfl (Nat.le_of_ble_eq_true rfl) (fun K R RV RS E => ?_)
  show K 0 [_, _, _, _, _] [] _
  refine rl_aload_n (pc := 0) R dX1_silent_0 rfl ?_
  refine rl_iload_n (pc := 1) R dX1_silent_1 rfl ?_
  refine rl_iconst (pc := 2) R dX1_silent_2 ic_0 ?_
  refine rl_iload_n (pc := 3) R dX1_silent_3 rfl ?_
  refine rl_iload (pc := 4) R dX1_silent_4 rfl ?_
  refine rl_V4 (pc := 6) RV dX1_silent_6 lkX1_51 hD.1 rfl (Nat.le_of_ble_eq_true rfl) (bs_X0_courtHas (lies := false) hD hi) ?_
  refine rl_aload_n (pc := 9) R dX1_silent_9 rfl ?_
  refine rl_getf (pc := 10) R dX1_silent_10 fkX1_12 (by first | assumption | rfl) rfl ?_
  refine rl_iload_n (pc := 13) R dX1_silent_13 rfl ?_
  refine rl_iconst (pc := 14) R dX1_silent_14 ic_1 ?_
  refine rl_iadd (pc := 15) R dX1_silent_15 ?_
  refine rl_iload_n (pc := 16) R dX1_silent_16 rfl ?_
  rw [nI_1]
  refine rl_V2 (pc := 17) RV dX1_silent_17 lkX1_42 h2 rfl (Nat.le_of_ble_eq_true rfl) (bs_X3_tell h2 h3 (by omega) hl) ?_
  refine rl_iadd (pc := 20) R dX1_silent_20 ?_
  exact rl_ireturn (pc := 21) E dX1_silent_21 rfl rfl (rfl)
theorem nI_min {x y : Nat} (hx : x < 2147483648) (hy : y < 2147483648) : (if nI y < nI x then nI y else nI x) = nI (min x y) := by
  simp only [nI_ltI hy hx]
  split <;> congr 1 <;> omega
theorem bs_X1_lying {i l : Nat} {law trust : Int32} (hD : rD h k c n nw wo co) (hH : rH h a t tc g) (hi : i < n) (hl : l < 10) : BS (d + 4) false yX1_lying [.ref a, .ref k, .int law, .int (nI i), .int (nI l), .int trust] h (some (.int (lyG n nw wo co law trust g i l))) h := by
  obtain ⟨h1, h2, h3⟩ := hH
  have hn := hD.2.1
  have hk := hD.1
  refine bs_of mtX1_lying rfl (Nat.le_of_ble_eq_true rfl) (fun K R RV RS E => ?_)
  show K 0 [_, _, _, _, _, _, _, _, _] [] _
  have hag : i + 1 ≤ min (oAg law i) n := by have := oAg_gt law i; omega
  have loop : ∀ (l1 : Nat), l = l1 + 1 → ¬ nw i = 1 → opn law i = true → ∀ (j q : Nat) (s : Int32), q + j = min (oAg law i) n → lsm n nw wo co (nI l1) trust j q s = lsm n nw wo co (nI l1) trust (min (oAg law i) n - (i + 1)) (i + 1) (crt n nw wo co i true (nI l) trust) → K 55 [some (.ref a), some (.ref k), some (.int law), some (.int (nI i)), some (.int (nI (l1 + 1))), some (.int trust), some (.int s), some (.int (nI (min (oAg law i) n))), some (.int (nI q))] [] h := by
    intro l1 e1 hnw hop j
    induction j with
    | zero =>
      intro q s hq hs
      refine rl_iload (pc := 55) R dX1_lying_55 rfl ?_
      refine rl_iload (pc := 57) R dX1_lying_57 rfl ?_
      refine rl_icmp_ge (pc := 59) (tgt := 86) R dX1_lying_59 rfl (fun c59 => ?_) (fun c59 => absurd (nI_le (by omega) (by omega)) c59)
      refine rl_iload (pc := 86) R dX1_lying_86 rfl ?_
      refine rl_aload_n (pc := 88) R dX1_lying_88 rfl ?_
      refine rl_getf (pc := 89) R dX1_lying_89 fkX1_12 (by first | assumption | rfl) rfl ?_
      refine rl_iload (pc := 92) R dX1_lying_92 rfl ?_
      refine rl_iload (pc := 94) R dX1_lying_94 rfl ?_
      refine rl_iconst (pc := 96) R dX1_lying_96 ic_1 ?_
      refine rl_isub (pc := 97) R dX1_lying_97 ?_
      rw [nI_pred]
      refine rl_V2 (pc := 98) RV dX1_lying_98 lkX1_42 h2 rfl (Nat.le_of_ble_eq_true rfl) (bs_X3_tell h2 h3 (by omega) (by omega)) ?_
      refine rl_iadd (pc := 101) R dX1_lying_101 ?_
      exact rl_ireturn (pc := 102) E dX1_lying_102 rfl rfl (e_si (by simp only [lyG]; rw [if_neg (by omega), if_neg hnw, if_pos hop, show l - 1 = l1 by omega, ← hs]; rfl))
    | succ j ih =>
      intro q s hq hs
      refine rl_iload (pc := 55) R dX1_lying_55 rfl ?_
      refine rl_iload (pc := 57) R dX1_lying_57 rfl ?_
      refine rl_icmp_ge (pc := 59) (tgt := 86) R dX1_lying_59 rfl (fun c59 => absurd c59 (nI_ge (by omega) (by omega))) (fun c59 => ?_)
      refine rl_iload (pc := 62) R dX1_lying_62 rfl ?_
      refine rl_aload_n (pc := 64) R dX1_lying_64 rfl ?_
      refine rl_iload (pc := 65) R dX1_lying_65 rfl ?_
      refine rl_iconst (pc := 67) R dX1_lying_67 ic_0 ?_
      refine rl_iload (pc := 68) R dX1_lying_68 rfl ?_
      refine rl_iconst (pc := 70) R dX1_lying_70 ic_1 ?_
      refine rl_isub (pc := 71) R dX1_lying_71 ?_
      rw [nI_pred]
      refine rl_iload (pc := 72) R dX1_lying_72 rfl ?_
      refine rl_V4 (pc := 74) RV dX1_lying_74 lkX1_51 hk rfl (Nat.le_of_ble_eq_true rfl) (bs_X0_courtHas (lies := false) hD (by omega)) ?_
      refine rl_iadd (pc := 77) R dX1_lying_77 ?_
      refine rl_istore (pc := 78) R dX1_lying_78 (Nat.le_of_ble_eq_true rfl) rfl ?_
      show K _ [_, _, _, _, _, _, _, _, _] _ _
      refine rl_iinc (pc := 80) R dX1_lying_80 rfl (ii_n q) rfl ?_
      show K _ [_, _, _, _, _, _, _, _, _] _ _
      refine rl_goto (pc := 83) (tgt := 55) R dX1_lying_83 rfl (ih (q + 1) _ (by omega) (by rw [← hs]; rfl))
  rcases Nat.eq_zero_or_pos l with rfl | hp
  · refine rl_iload (pc := 0) R dX1_lying_0 rfl ?_
    refine rl_if_le (pc := 2) (tgt := 21) R dX1_lying_2 rfl (fun c2 => ?_) (fun c2 => absurd (by decide) c2)
    refine rl_ldc (pc := 21) R dX1_lying_21 kcX1_63 ?_
    exact rl_ireturn (pc := 23) E dX1_lying_23 rfl rfl (rfl)
  · obtain ⟨l1, rfl⟩ : ∃ l1, l = l1 + 1 := ⟨l - 1, by omega⟩
    refine rl_iload (pc := 0) R dX1_lying_0 rfl ?_
    refine rl_if_le (pc := 2) (tgt := 21) R dX1_lying_2 rfl (fun c2 => absurd c2 (nI_nle (by omega) (by omega))) (fun c2 => ?_)
    refine rl_aload_n (pc := 5) R dX1_lying_5 rfl ?_
    refine rl_iload_n (pc := 6) R dX1_lying_6 rfl ?_
    refine rl_V1 (pc := 7) RV dX1_lying_7 lkX1_55 hk rfl (Nat.le_of_ble_eq_true rfl) (bs_X0_hasNews hD hi) ?_
    refine rl_if_ne (pc := 10) (tgt := 21) R dX1_lying_10 rfl (fun c10 => ?_) (fun c10 => ?_)
    · rw [bI_n0, decide_eq_true_eq] at c10
      refine rl_ldc (pc := 21) R dX1_lying_21 kcX1_63 ?_
      exact rl_ireturn (pc := 23) E dX1_lying_23 rfl rfl (e_si (by simp only [lyG]; rw [if_neg (by omega)]; first | rw [if_pos c10]; rfl | rw [if_neg c10, if_neg (by rw [c18]; decide)]; rfl))
    · rw [bI_0, decide_eq_false_iff_not] at c10
      refine rl_iload_n (pc := 13) R dX1_lying_13 rfl ?_
      refine rl_iload_n (pc := 14) R dX1_lying_14 rfl ?_
      refine rl_S2 (pc := 15) RS dX1_lying_15 lkX1_59 (Nat.le_of_ble_eq_true rfl) (bs_X7_isOpen (by omega)) ?_
      refine rl_if_ne (pc := 18) (tgt := 24) R dX1_lying_18 rfl (fun c18 => ?_) (fun c18 => ?_)
      · rw [bI_n0] at c18
        refine rl_aload_n (pc := 24) R dX1_lying_24 rfl ?_
        refine rl_iload_n (pc := 25) R dX1_lying_25 rfl ?_
        refine rl_iconst (pc := 26) R dX1_lying_26 ic_1 ?_
        refine rl_iload (pc := 27) R dX1_lying_27 rfl ?_
        refine rl_iload (pc := 29) R dX1_lying_29 rfl ?_
        refine rl_V4 (pc := 31) RV dX1_lying_31 lkX1_51 hk rfl (Nat.le_of_ble_eq_true rfl) (bs_X0_courtHas (lies := true) hD hi) ?_
        refine rl_istore (pc := 34) R dX1_lying_34 (Nat.le_of_ble_eq_true rfl) rfl ?_
        show K _ [_, _, _, _, _, _, _, _, _] _ _
        refine rl_iload_n (pc := 36) R dX1_lying_36 rfl ?_
        refine rl_iload_n (pc := 37) R dX1_lying_37 rfl ?_
        refine rl_S2 (pc := 38) RS dX1_lying_38 lkX1_48 (Nat.le_of_ble_eq_true rfl) (bs_X7_openAgain (by omega)) ?_
        refine rl_aload_n (pc := 41) R dX1_lying_41 rfl ?_
        refine rl_getf (pc := 42) R dX1_lying_42 fkX1_18 (by first | assumption | rfl) rfl ?_
        refine rl_min (pc := 45) R dX1_lying_45 lmX1_36 (Nat.le_of_ble_eq_true rfl) ?_
        rw [nI_min (by have := oAg_le law i; omega) (by omega)]
        refine rl_istore (pc := 48) R dX1_lying_48 (Nat.le_of_ble_eq_true rfl) rfl ?_
        show K _ [_, _, _, _, _, _, _, _, _] _ _
        refine rl_iload_n (pc := 50) R dX1_lying_50 rfl ?_
        refine rl_iconst (pc := 51) R dX1_lying_51 ic_1 ?_
        refine rl_iadd (pc := 52) R dX1_lying_52 ?_
        rw [nI_1]
        refine rl_istore (pc := 53) R dX1_lying_53 (Nat.le_of_ble_eq_true rfl) rfl ?_
        show K _ [_, _, _, _, _, _, _, _, _] _ _
        exact loop l1 rfl c10 c18 _ _ _ (by omega) rfl
      · rw [bI_0] at c18
        refine rl_ldc (pc := 21) R dX1_lying_21 kcX1_63 ?_
        exact rl_ireturn (pc := 23) E dX1_lying_23 rfl rfl (e_si (by simp only [lyG]; rw [if_neg (by omega)]; first | rw [if_pos c10]; rfl | rw [if_neg c10, if_neg (by rw [c18]; decide)]; rfl))
theorem bs_X1_reckon {lies : Nat} {law trust : Int32} (hD : rD h k c n nw wo co) (hH : rH h a t tc g) (hne : tc ≠ c) (hl : lies ≤ 9) : BS (d + 5) false yX1_reckon [.ref a, .ref k, .int law, .int (nI lies), .int trust] h (some (.int (rk n nw wo co law trust lies g lies))) (h.set tc (hI 290 (rk n nw wo co law trust lies g))) := by
  have hn := hD.2.1
  refine bs_of mtX1_reckon rfl (Nat.le_of_ble_eq_true rfl) (fun K R RV RS E => ?_)
  show K 0 [_, _, _, _, _, _, _] [] _
  have outer : ∀ (m : Nat) (g2 : Nat → Int32) (z : Option Value), m ≤ n → rkO n nw wo co law trust lies m g2 = rk n nw wo co law trust lies g → K 44 [some (.ref a), some (.ref k), some (.int law), some (.int (nI lies)), some (.int trust), some (.int (pm m)), z] [] (h.set tc (hI 290 g2)) := by
    intro m
    induction m with
    | zero =>
      intro g2 z hm hg
      have hH2 : rH (h.set tc (hI 290 g2)) a t tc g2 := rH_set hH
      have e2 : g2 = rk n nw wo co law trust lies g := hg
      subst e2
      refine rl_iload (pc := 44) R dX1_reckon_44 rfl ?_
      refine rl_if_lt (pc := 46) (tgt := 114) R dX1_reckon_46 rfl (fun c46 => ?_) (fun c46 => absurd (by decide) c46)
      refine rl_aload_n (pc := 114) R dX1_reckon_114 rfl ?_
      refine rl_getf (pc := 115) R dX1_reckon_115 fkX1_12 hH2.1 rfl ?_
      refine rl_iconst (pc := 118) R dX1_reckon_118 ic_0 ?_
      refine rl_iload_n (pc := 119) R dX1_reckon_119 rfl ?_
      refine rl_V2 (pc := 120) RV dX1_reckon_120 lkX1_42 hH2.2.1 rfl (Nat.le_of_ble_eq_true rfl) (bs_X3_tell (i := 0) hH2.2.1 hH2.2.2 (by decide) (by omega)) ?_
      exact rl_ireturn (pc := 123) E dX1_reckon_123 rfl rfl (by rw [Nat.zero_mul, Nat.zero_add])
    | succ m ih =>
      intro g2 z hm hg
      have inner : ∀ (j l : Nat) (g3 : Nat → Int32), l + j = lies + 1 → rkR n nw wo co law trust m j l g3 = rkR n nw wo co law trust m (lies + 1) 0 g2 → K 52 [some (.ref a), some (.ref k), some (.int law), some (.int (nI lies)), some (.int trust), some (.int (nI m)), some (.int (nI l))] [] (h.set tc (hI 290 g3)) := by
        intro j
        induction j with
        | zero =>
          intro l g3 hj hg3
          refine rl_iload (pc := 52) R dX1_reckon_52 rfl ?_
          refine rl_iload_n (pc := 54) R dX1_reckon_54 rfl ?_
          refine rl_icmp_gt (pc := 55) (tgt := 108) R dX1_reckon_55 rfl (fun c55 => ?_) (fun c55 => absurd (nI_lt (by omega) (by omega)) c55)
          refine rl_iinc (pc := 108) R dX1_reckon_108 rfl (pm_dec m) rfl ?_
          show K _ [_, _, _, _, _, _, _] _ _
          refine rl_goto (pc := 111) (tgt := 44) R dX1_reckon_111 rfl (ih g3 _ (by omega) (by rw [← hg]; show rkO n nw wo co law trust lies m g3 = rkO n nw wo co law trust lies m _; rw [← hg3]; rfl))
        | succ j ih2 =>
          intro l g3 hj hg3
          have hH3 : rH (h.set tc (hI 290 g3)) a t tc g3 := rH_set hH
          have hD3 : rD (h.set tc (hI 290 g3)) k c n nw wo co := rD_set hD hH.2.2 hne
          refine rl_iload (pc := 52) R dX1_reckon_52 rfl ?_
          refine rl_iload_n (pc := 54) R dX1_reckon_54 rfl ?_
          refine rl_icmp_gt (pc := 55) (tgt := 108) R dX1_reckon_55 rfl (fun c55 => absurd c55 (nI_nlt (by omega) (by omega))) (fun c55 => ?_)
          refine rl_iload (pc := 58) R dX1_reckon_58 rfl ?_
          refine rl_bipush (pc := 60) R dX1_reckon_60 bc_9 ?_
          refine rl_icmp_gt (pc := 62) (tgt := 108) R dX1_reckon_62 rfl (fun c62 => absurd c62 (nI_nlt (a := 9) (by omega) (by omega))) (fun c62 => ?_)
          refine rl_aload_n (pc := 65) R dX1_reckon_65 rfl ?_
          refine rl_getf (pc := 66) R dX1_reckon_66 fkX1_12 hH3.1 rfl ?_
          refine rl_iload (pc := 69) R dX1_reckon_69 rfl ?_
          refine rl_iload (pc := 71) R dX1_reckon_71 rfl ?_
          refine rl_aload_n (pc := 73) R dX1_reckon_73 rfl ?_
          refine rl_aload_n (pc := 74) R dX1_reckon_74 rfl ?_
          refine rl_iload (pc := 75) R dX1_reckon_75 rfl ?_
          refine rl_iload (pc := 77) R dX1_reckon_77 rfl ?_
          refine rl_iload (pc := 79) R dX1_reckon_79 rfl ?_
          refine rl_V4 (pc := 81) RV dX1_reckon_81 lkX1_28 hH3.1 rfl (Nat.le_of_ble_eq_true rfl) (bs_X1_silent hD3 hH3 (by omega) (by omega)) ?_
          refine rl_aload_n (pc := 84) R dX1_reckon_84 rfl ?_
          refine rl_aload_n (pc := 85) R dX1_reckon_85 rfl ?_
          refine rl_iload_n (pc := 86) R dX1_reckon_86 rfl ?_
          refine rl_iload (pc := 87) R dX1_reckon_87 rfl ?_
          refine rl_iload (pc := 89) R dX1_reckon_89 rfl ?_
          refine rl_iload (pc := 91) R dX1_reckon_91 rfl ?_
          refine rl_V5 (pc := 93) RV dX1_reckon_93 lkX1_32 hH3.1 rfl (Nat.le_of_ble_eq_true rfl) (bs_X1_lying hD3 hH3 (by omega) (by omega)) ?_
          refine rl_min (pc := 96) R dX1_reckon_96 lmX1_36 (Nat.le_of_ble_eq_true rfl) ?_
          refine rl_V3v (pc := 99) RV dX1_reckon_99 lkX1_24 hH3.2.1 rfl (Nat.le_of_ble_eq_true rfl) (bs_X3_change hH3.2.1 hH3.2.2 (by omega) (by omega)) ?_
          rw [List.set_set]
          refine rl_iinc (pc := 102) R dX1_reckon_102 rfl (ii_n l) rfl ?_
          show K _ [_, _, _, _, _, _, _] _ _
          refine rl_goto (pc := 105) (tgt := 52) R dX1_reckon_105 rfl (ih2 (l + 1) _ (by omega) (by rw [← hg3]; rfl))
      refine rl_iload (pc := 44) R dX1_reckon_44 rfl ?_
      refine rl_if_lt (pc := 46) (tgt := 114) R dX1_reckon_46 rfl (fun c46 => absurd c46 (nI_pos (by omega))) (fun c46 => ?_)
      refine rl_iconst (pc := 49) R dX1_reckon_49 ic_0 ?_
      refine rl_istore (pc := 50) R dX1_reckon_50 (Nat.le_of_ble_eq_true rfl) rfl ?_
      show K _ [_, _, _, _, _, _, _] _ _
      exact inner (lies + 1) 0 g2 (by omega) rfl
  have first : ∀ (j l : Nat) (g2 : Nat → Int32), l + j = lies + 1 → rkE n j l g2 = rkE n (lies + 1) 0 g → K 3 [some (.ref a), some (.ref k), some (.int law), some (.int (nI lies)), some (.int trust), some (.int (nI l)), none] [] (h.set tc (hI 290 g2)) := by
    intro j
    induction j with
    | zero =>
      intro l g2 hj hg2
      have hD2 : rD (h.set tc (hI 290 g2)) k c n nw wo co := rD_set hD hH.2.2 hne
      refine rl_iload (pc := 3) R dX1_reckon_3 rfl ?_
      refine rl_iload_n (pc := 5) R dX1_reckon_5 rfl ?_
      refine rl_icmp_gt (pc := 6) (tgt := 36) R dX1_reckon_6 rfl (fun c6 => ?_) (fun c6 => absurd (nI_lt (by omega) (by omega)) c6)
      refine rl_aload_n (pc := 36) R dX1_reckon_36 rfl ?_
      refine rl_getf (pc := 37) R dX1_reckon_37 fkX1_18 hD2.1 rfl ?_
      refine rl_iconst (pc := 40) R dX1_reckon_40 ic_1 ?_
      refine rl_isub (pc := 41) R dX1_reckon_41 ?_
      rw [pm_sub]
      refine rl_istore (pc := 42) R dX1_reckon_42 (Nat.le_of_ble_eq_true rfl) rfl ?_
      show K _ [_, _, _, _, _, _, _] _ _
      exact outer n g2 _ (Nat.le_refl _) (by rw [rk, ← hg2]; rfl)
    | succ j ih =>
      intro l g2 hj hg2
      have hH2 : rH (h.set tc (hI 290 g2)) a t tc g2 := rH_set hH
      have hD2 : rD (h.set tc (hI 290 g2)) k c n nw wo co := rD_set hD hH.2.2 hne
      refine rl_iload (pc := 3) R dX1_reckon_3 rfl ?_
      refine rl_iload_n (pc := 5) R dX1_reckon_5 rfl ?_
      refine rl_icmp_gt (pc := 6) (tgt := 36) R dX1_reckon_6 rfl (fun c6 => absurd c6 (nI_nlt (by omega) (by omega))) (fun c6 => ?_)
      refine rl_iload (pc := 9) R dX1_reckon_9 rfl ?_
      refine rl_bipush (pc := 11) R dX1_reckon_11 bc_9 ?_
      refine rl_icmp_gt (pc := 13) (tgt := 36) R dX1_reckon_13 rfl (fun c13 => absurd c13 (nI_nlt (a := 9) (by omega) (by omega))) (fun c13 => ?_)
      refine rl_aload_n (pc := 16) R dX1_reckon_16 rfl ?_
      refine rl_getf (pc := 17) R dX1_reckon_17 fkX1_12 hH2.1 rfl ?_
      refine rl_aload_n (pc := 20) R dX1_reckon_20 rfl ?_
      refine rl_getf (pc := 21) R dX1_reckon_21 fkX1_18 hD2.1 rfl ?_
      refine rl_iload (pc := 24) R dX1_reckon_24 rfl ?_
      refine rl_iconst (pc := 26) R dX1_reckon_26 ic_0 ?_
      refine rl_V3v (pc := 27) RV dX1_reckon_27 lkX1_24 hH2.2.1 rfl (Nat.le_of_ble_eq_true rfl) (bs_X3_change hH2.2.1 hH2.2.2 (by omega) (by omega)) ?_
      rw [List.set_set]
      refine rl_iinc (pc := 30) R dX1_reckon_30 rfl (ii_n l) rfl ?_
      show K _ [_, _, _, _, _, _, _] _ _
      refine rl_goto (pc := 33) (tgt := 3) R dX1_reckon_33 rfl (ih (l + 1) _ (by omega) (by rw [← hg2]; rfl))
  refine rl_iconst (pc := 0) R dX1_reckon_0 ic_0 ?_
  refine rl_istore (pc := 1) R dX1_reckon_1 (Nat.le_of_ble_eq_true rfl) rfl ?_
  show K _ [_, _, _, _, _, _, _] _ _
  have e0 := first (lies + 1) 0 g (by omega) rfl
  rw [List.set_getElem?_self' hH.2.2] at e0
  exact e0
theorem bs_X1_worstSet {lies : Nat} {law trust : Int32} (hD : rD h k c n nw wo co) (hH : rH h a t tc g) (hne : tc ≠ c) (hl : lies ≤ 9) : BS (d + 6) false yX1_worstSet [.ref a, .ref k, .int law, .int (nI lies), .int trust] h (some (.int (wrs n nw wo co law trust (rk n nw wo co law trust lies g) n 0 lies 0 0))) (h.set tc (hI 290 (rk n nw wo co law trust lies g))) := by
  have hn := hD.2.1
  refine bs_of mtX1_worstSet rfl (Nat.le_of_ble_eq_true rfl) (fun K R RV RS E => ?_)
  show K 0 [_, _, _, _, _, _, _, _, _] [] _
  have hF := rk_F (n := n) (nw := nw) (wo := wo) (co := co) (law := law) (trust := trust) hl g
  have loop : ∀ (g2 : Nat → Int32), rkF n nw wo co law trust lies g2 → rH (h.set tc (hI 290 (rk n nw wo co law trust lies g))) a t tc g2 → rD (h.set tc (hI 290 (rk n nw wo co law trust lies g))) k c n nw wo co → ∀ (j i l q : Nat) (s : Int32), i + j = n → l ≤ lies → q < 1000 → wrs n nw wo co law trust g2 j i l q s = wrs n nw wo co law trust (rk n nw wo co law trust lies g) n 0 lies 0 0 → K 22 [some (.ref a), some (.ref k), some (.int law), some (.int (nI lies)), some (.int trust), some (.int s), some (.int (nI q)), some (.int (nI l)), some (.int (nI i))] [] (h.set tc (hI 290 (rk n nw wo co law trust lies g))) := by
    intro g2 hF2 hH2 hD2 j
    induction j with
    | zero =>
      intro i l q s hij hll hq hs
      refine rl_iload (pc := 22) R dX1_worstSet_22 rfl ?_
      refine rl_aload_n (pc := 24) R dX1_worstSet_24 rfl ?_
      refine rl_getf (pc := 25) R dX1_worstSet_25 fkX1_18 hD2.1 rfl ?_
      refine rl_icmp_ge (pc := 28) (tgt := 89) R dX1_worstSet_28 rfl (fun c28 => ?_) (fun c28 => absurd (nI_le (by omega) (by omega)) c28)
      refine rl_iload (pc := 89) R dX1_worstSet_89 rfl ?_
      exact rl_ireturn (pc := 91) E dX1_worstSet_91 rfl rfl (e_si hs.symm)
    | succ j ih =>
      intro i l q s hij hll hq hs
      have no : ¬ (q ≤ i ∧ g2 (i * 10 + l) < silG n nw wo co trust g2 i l) → K 83 [some (.ref a), some (.ref k), some (.int law), some (.int (nI lies)), some (.int trust), some (.int s), some (.int (nI q)), some (.int (nI l)), some (.int (nI i))] [] (h.set tc (hI 290 (rk n nw wo co law trust lies g))) := by
        intro hno
        refine rl_iinc (pc := 83) R dX1_worstSet_83 rfl (ii_n i) rfl ?_
        show K _ [_, _, _, _, _, _, _, _, _] _ _
        refine rl_goto (pc := 86) (tgt := 22) R dX1_worstSet_86 rfl (ih (i + 1) l q s (by omega) hll hq (by rw [← hs]; simp only [wrs]; rw [if_neg hno]))
      refine rl_iload (pc := 22) R dX1_worstSet_22 rfl ?_
      refine rl_aload_n (pc := 24) R dX1_worstSet_24 rfl ?_
      refine rl_getf (pc := 25) R dX1_worstSet_25 fkX1_18 hD2.1 rfl ?_
      refine rl_icmp_ge (pc := 28) (tgt := 89) R dX1_worstSet_28 rfl (fun c28 => absurd c28 (nI_ge (by omega) (by omega))) (fun c28 => ?_)
      refine rl_iload (pc := 31) R dX1_worstSet_31 rfl ?_
      refine rl_iload (pc := 33) R dX1_worstSet_33 rfl ?_
      refine rl_icmp_lt (pc := 35) (tgt := 83) R dX1_worstSet_35 rfl (fun c35 => ?_) (fun c35 => ?_)
      · exact no (fun z => by rw [nI_ltI (by omega) (by omega)] at c35; omega)
      · rw [nI_ltI (by omega) (by omega)] at c35
        refine rl_aload_n (pc := 38) R dX1_worstSet_38 rfl ?_
        refine rl_aload_n (pc := 39) R dX1_worstSet_39 rfl ?_
        refine rl_iload (pc := 40) R dX1_worstSet_40 rfl ?_
        refine rl_iload (pc := 42) R dX1_worstSet_42 rfl ?_
        refine rl_iload (pc := 44) R dX1_worstSet_44 rfl ?_
        refine rl_V4 (pc := 46) RV dX1_worstSet_46 lkX1_28 hH2.1 rfl (Nat.le_of_ble_eq_true rfl) (bs_X1_silent hD2 hH2 (by omega) (by omega)) ?_
        refine rl_aload_n (pc := 49) R dX1_worstSet_49 rfl ?_
        refine rl_getf (pc := 50) R dX1_worstSet_50 fkX1_12 hH2.1 rfl ?_
        refine rl_iload (pc := 53) R dX1_worstSet_53 rfl ?_
        refine rl_iload (pc := 55) R dX1_worstSet_55 rfl ?_
        refine rl_V2 (pc := 57) RV dX1_worstSet_57 lkX1_42 hH2.2.1 rfl (Nat.le_of_ble_eq_true rfl) (bs_X3_tell hH2.2.1 hH2.2.2 (by omega) (by omega)) ?_
        refine rl_icmp_le (pc := 60) (tgt := 83) R dX1_worstSet_60 rfl (fun c60 => ?_) (fun c60 => ?_)
        · exact no (fun z => absurd z.2 (Int32.not_lt.mpr c60))
        · rw [Int32.not_le] at c60
          have hl0 : l ≠ 0 := by
            intro e0
            subst e0
            rw [hF2.2 i (by omega) 0 hll] at c60
            simp only [mn, lyG, if_true] at c60
            split at c60
            · rename_i hx; exact absurd (Int32.le_iff_toInt_le.mpr (by have := fb_rng' (silG n nw wo co trust g2 i 0); show _ ≤ (2147483647 : Int); omega)) (Int32.not_le.mpr hx)
            · exact Int32.lt_irrefl c60
          obtain ⟨l1, rfl⟩ : ∃ l1, l = l1 + 1 := ⟨l - 1, by omega⟩
          refine rl_iload (pc := 63) R dX1_worstSet_63 rfl ?_
          refine rl_iconst (pc := 65) R dX1_worstSet_65 ic_1 ?_
          refine rl_iload (pc := 66) R dX1_worstSet_66 rfl ?_
          refine rl_ishl (pc := 68) R dX1_worstSet_68 ?_
          refine rl_ior (pc := 69) R dX1_worstSet_69 ?_
          refine rl_istore (pc := 70) R dX1_worstSet_70 (Nat.le_of_ble_eq_true rfl) rfl ?_
          show K _ [_, _, _, _, _, _, _, _, _] _ _
          refine rl_iinc (pc := 72) R dX1_worstSet_72 rfl (pk_m1 l1) rfl ?_
          show K _ [_, _, _, _, _, _, _, _, _] _ _
          refine rl_iload_n (pc := 75) R dX1_worstSet_75 rfl ?_
          refine rl_iload (pc := 76) R dX1_worstSet_76 rfl ?_
          refine rl_S2 (pc := 78) RS dX1_worstSet_78 lkX1_48 (Nat.le_of_ble_eq_true rfl) (bs_X7_openAgain (by omega)) ?_
          refine rl_istore (pc := 81) R dX1_worstSet_81 (Nat.le_of_ble_eq_true rfl) rfl ?_
          show K _ [_, _, _, _, _, _, _, _, _] _ _
          refine rl_iinc (pc := 83) R dX1_worstSet_83 rfl (ii_n i) rfl ?_
          show K _ [_, _, _, _, _, _, _, _, _] _ _
          refine rl_goto (pc := 86) (tgt := 22) R dX1_worstSet_86 rfl (ih (i + 1) l1 (oAg law i) _ (by omega) (by omega) (by have := oAg_le law i; omega) (by rw [← hs]; simp only [wrs]; rw [if_pos ⟨by omega, c60⟩]; rfl))
  refine rl_aload_n (pc := 0) R dX1_worstSet_0 rfl ?_
  refine rl_aload_n (pc := 1) R dX1_worstSet_1 rfl ?_
  refine rl_iload_n (pc := 2) R dX1_worstSet_2 rfl ?_
  refine rl_iload_n (pc := 3) R dX1_worstSet_3 rfl ?_
  refine rl_iload (pc := 4) R dX1_worstSet_4 rfl ?_
  refine rl_V4 (pc := 6) RV dX1_worstSet_6 lkX1_45 hH.1 rfl (Nat.le_of_ble_eq_true rfl) (bs_X1_reckon hD hH hne hl) ?_
  refine rl_pop (pc := 9) R dX1_worstSet_9 rfl ?_
  refine rl_iconst (pc := 10) R dX1_worstSet_10 ic_0 ?_
  refine rl_istore (pc := 11) R dX1_worstSet_11 (Nat.le_of_ble_eq_true rfl) rfl ?_
  show K _ [_, _, _, _, _, _, _, _, _] _ _
  refine rl_iconst (pc := 13) R dX1_worstSet_13 ic_0 ?_
  refine rl_istore (pc := 14) R dX1_worstSet_14 (Nat.le_of_ble_eq_true rfl) rfl ?_
  show K _ [_, _, _, _, _, _, _, _, _] _ _
  refine rl_iload_n (pc := 16) R dX1_worstSet_16 rfl ?_
  refine rl_istore (pc := 17) R dX1_worstSet_17 (Nat.le_of_ble_eq_true rfl) rfl ?_
  show K _ [_, _, _, _, _, _, _, _, _] _ _
  refine rl_iconst (pc := 19) R dX1_worstSet_19 ic_0 ?_
  refine rl_istore (pc := 20) R dX1_worstSet_20 (Nat.le_of_ble_eq_true rfl) rfl ?_
  show K _ [_, _, _, _, _, _, _, _, _] _ _
  exact loop _ hF (rH_set hH) (rD_set hD hH.2.2 hne) n 0 lies 0 0 (by omega) (Nat.le_refl _) (by decide) rfl
end HM
end
section
/-! WORDS: how many sets fit -/
def nob (lies : Int32) : Nat → Nat → Bool
  | 0, _ => true
  | j + 1, i => !bt lies i && nob lies j (i + 1)
def fbG (law lies : Int32) (g : Nat → Int32) (i l : Nat) : Int32 := if l = 0 then 0 else if opn law i then (if nob lies (min (oAg law i) 28 - (i + 1)) (i + 1) then g (min (oAg law i) 28 * 10 + (l - 1)) else 0) else 0
def ftG (law op lies : Int32) (g : Nat → Int32) (i l : Nat) : Int32 := (if bt lies i then 0 else g ((i + 1) * 10 + l)) + (if bt op i then fbG law lies g i l else 0)
def fkE : Nat → Nat → (Nat → Int32) → Nat → Int32
  | 0, _, g => g
  | j + 1, l, g => fkE j (l + 1) (upd g (28 * 10 + l) (if l = 0 then 1 else 0))
def fkR (law op lies : Int32) (i : Nat) : Nat → Nat → (Nat → Int32) → Nat → Int32
  | 0, _, g => g
  | j + 1, l, g => fkR law op lies i j (l + 1) (upd g (i * 10 + l) (ftG law op lies g i l))
def fkO (law op lies : Int32) (k : Nat) : Nat → (Nat → Int32) → Nat → Int32
  | 0, g => g
  | m + 1, g => fkO law op lies k m (fkR law op lies m (k + 1) 0 g)
def fk (law op lies : Int32) (k : Nat) (g : Nat → Int32) : Nat → Int32 := fkO law op lies k 28 (fkE (k + 1) 0 g)
def fkF (law op lies : Int32) (k : Nat) (g : Nat → Int32) : Prop :=
  (∀ l, l ≤ k → g (28 * 10 + l) = if l = 0 then 1 else 0) ∧ ∀ i, i < 28 → ∀ l, l ≤ k → g (i * 10 + l) = ftG law op lies g i l
theorem fkE_out : ∀ (j l : Nat) (g : Nat → Int32) (q : Nat), (∀ l2, l ≤ l2 → l2 < l + j → q ≠ 28 * 10 + l2) → fkE j l g q = g q
  | 0, _, _, _, _ => rfl
  | j + 1, l, g, q, h => by
    rw [fkE, fkE_out j (l + 1) _ q (fun l2 h1 h2 => h l2 (by omega) (by omega))]
    simp only [upd]; rw [if_neg (h l (by omega) (by omega))]
theorem fkE_in : ∀ (j l : Nat) (g : Nat → Int32) (l2 : Nat), l ≤ l2 → l2 < l + j → fkE j l g (28 * 10 + l2) = if l2 = 0 then 1 else 0
  | 0, _, _, _, h1, h2 => by omega
  | j + 1, l, g, l2, h1, h2 => by
    rw [fkE]
    rcases Nat.lt_or_ge l l2 with q | q
    · exact fkE_in j (l + 1) _ l2 (by omega) (by omega)
    · have : l2 = l := by omega
      subst this
      rw [fkE_out j (l2 + 1) _ _ (fun l3 h3 h4 => by omega)]
      simp [upd]
section FF
variable {law op lies : Int32}
theorem ftG_congr {g g2 : Nat → Int32} {i l : Nat} (h : g ((i + 1) * 10 + l) = g2 ((i + 1) * 10 + l)) (h2 : g (min (oAg law i) 28 * 10 + (l - 1)) = g2 (min (oAg law i) 28 * 10 + (l - 1))) : ftG law op lies g i l = ftG law op lies g2 i l := by simp only [ftG, fbG, h, h2]
theorem fkR_out {i : Nat} : ∀ (j l : Nat) (g : Nat → Int32) (q : Nat), (∀ l2, l ≤ l2 → l2 < l + j → q ≠ i * 10 + l2) → fkR law op lies i j l g q = g q
  | 0, _, _, _, _ => rfl
  | j + 1, l, g, q, h => by
    rw [fkR, fkR_out j (l + 1) _ q (fun l2 h1 h2 => h l2 (by omega) (by omega))]
    simp only [upd]; rw [if_neg (h l (by omega) (by omega))]
theorem fkR_in {i : Nat} (hi : i < 28) : ∀ (j l : Nat) (g : Nat → Int32) (l2 : Nat), l + j ≤ 10 → l ≤ l2 → l2 < l + j → fkR law op lies i j l g (i * 10 + l2) = ftG law op lies g i l2
  | 0, _, _, _, _, h1, h2 => by omega
  | j + 1, l, g, l2, hj, h1, h2 => by
    rw [fkR]
    rcases Nat.lt_or_ge l l2 with q | q
    · rw [fkR_in hi j (l + 1) _ l2 (by omega) (by omega) (by omega)]
      have hag : i + 1 ≤ min (oAg law i) 28 := by have := oAg_gt law i; omega
      exact ftG_congr (by simp only [upd]; rw [if_neg (by omega)]) (by simp only [upd]; rw [if_neg (by omega)])
    · have : l2 = l := by omega
      subst this
      rw [fkR_out j (l2 + 1) _ _ (fun l3 h3 h4 => by omega)]
      simp [upd]
theorem fkO_out {k : Nat} (hl : k ≤ 9) : ∀ (m : Nat) (g : Nat → Int32) (q : Nat), m * 10 ≤ q → fkO law op lies k m g q = g q
  | 0, _, _, _ => rfl
  | m + 1, g, q, h => by
    rw [fkO, fkO_out hl m _ q (by omega), fkR_out _ _ _ _ (fun l2 h1 h2 => by omega)]
theorem fkO_in {k : Nat} (hl : k ≤ 9) : ∀ (m : Nat) (g : Nat → Int32), m ≤ 28 → ∀ i, i < m → ∀ l, l ≤ k → fkO law op lies k m g (i * 10 + l) = ftG law op lies (fkO law op lies k m g) i l
  | 0, _, _, i, hi, _, _ => by omega
  | m + 1, g, hm, i, hi, l, hll => by
    rw [fkO]
    rcases Nat.lt_or_ge i m with q | q
    · exact fkO_in hl m _ (by omega) i q l hll
    · have : i = m := by omega
      subst this
      have hag : i + 1 ≤ min (oAg law i) 28 := by have := oAg_gt law i; omega
      rw [fkO_out hl i _ _ (by omega), fkR_in (by omega) _ _ _ _ (by omega) (by omega) (by omega)]
      exact ftG_congr (by rw [fkO_out hl _ _ _ (by omega), fkR_out _ _ _ _ (fun l2 h1 h2 => by omega)]) (by rw [fkO_out hl _ _ _ (by omega), fkR_out _ _ _ _ (fun l2 h1 h2 => by omega)])
theorem fk_F {k : Nat} (hl : k ≤ 9) (g : Nat → Int32) : fkF law op lies k (fk law op lies k g) := by
  refine ⟨fun l hll => ?_, fun i hi l hll => fkO_in hl 28 _ (Nat.le_refl _) i hi l hll⟩
  rw [fk, fkO_out hl 28 _ _ (by omega), fkE_in _ _ _ _ (by omega) (by omega)]
end FF
def rW (h : List sm_C) (a t tc : Nat) (g : Nat → Int32) : Prop := h[a]? = some (hO 5 [.ref t]) ∧ h[t]? = some (hO 3 [.ref tc]) ∧ h[tc]? = some (hI 290 g)
theorem rW_set {h : List sm_C} {a t tc : Nat} {g g2 : Nat → Int32} (hH : rW h a t tc g) : rW (h.set tc (hI 290 g2)) a t tc g2 := ⟨sm_h_oi hH.1 hH.2.2, sm_h_oi hH.2.1 hH.2.2, sm_h_eq hH.2.2⟩
section WM
variable {d : Nat} {h : List sm_C} {a t tc : Nat} {g : Nat → Int32}
theorem bs_X5_fitBehind {i l : Nat} {law lies : Int32} (hH : rW h a t tc g) (hi : i < 28) (hl : l < 10) : BS (d + 3) false yX5_fitBehind [.ref a, .int law, .int lies, .int (nI i), .int (nI l)] h (some (.int (fbG law lies g i l))) h := by
  obtain ⟨h1, h2, h3⟩ := hH
  refine bs_of mtX5_fitBehind rfl (Nat.le_of_ble_eq_true rfl) (fun K R RV RS E => ?_)
  show K 0 [_, _, _, _, _, _, _] [] _
  have hag : i + 1 ≤ min (oAg law i) 28 := by have := oAg_gt law i; omega
  have loop : ∀ (l1 : Nat), l = l1 + 1 → opn law i = true → ∀ (j q : Nat), q + j = min (oAg law i) 28 → nob lies j q = nob lies (min (oAg law i) 28 - (i + 1)) (i + 1) → K 32 [some (.ref a), some (.int law), some (.int lies), some (.int (nI i)), some (.int (nI (l1 + 1))), some (.int (nI (min (oAg law i) 28))), some (.int (nI q))] [] h := by
    intro l1 e1 hop j
    induction j with
    | zero =>
      intro q hq hs
      refine rl_iload (pc := 32) R dX5_fitBehind_32 rfl ?_
      refine rl_iload (pc := 34) R dX5_fitBehind_34 rfl ?_
      refine rl_icmp_ge (pc := 36) (tgt := 56) R dX5_fitBehind_36 rfl (fun c36 => ?_) (fun c36 => absurd (nI_le (by omega) (by omega)) c36)
      refine rl_aload_n (pc := 56) R dX5_fitBehind_56 rfl ?_
      refine rl_getf (pc := 57) R dX5_fitBehind_57 fkX5_12 (by first | assumption | rfl) rfl ?_
      refine rl_iload (pc := 60) R dX5_fitBehind_60 rfl ?_
      refine rl_iload (pc := 62) R dX5_fitBehind_62 rfl ?_
      refine rl_iconst (pc := 64) R dX5_fitBehind_64 ic_1 ?_
      refine rl_isub (pc := 65) R dX5_fitBehind_65 ?_
      rw [nI_pred]
      refine rl_V2 (pc := 66) RV dX5_fitBehind_66 lkX5_26 h2 rfl (Nat.le_of_ble_eq_true rfl) (bs_X3_tell h2 h3 (by omega) (by omega)) ?_
      exact rl_ireturn (pc := 69) E dX5_fitBehind_69 rfl rfl (e_si (by simp only [fbG]; rw [if_neg (by omega), if_pos hop, ← hs, show l - 1 = l1 by omega]; rfl))
    | succ j ih =>
      intro q hq hs
      refine rl_iload (pc := 32) R dX5_fitBehind_32 rfl ?_
      refine rl_iload (pc := 34) R dX5_fitBehind_34 rfl ?_
      refine rl_icmp_ge (pc := 36) (tgt := 56) R dX5_fitBehind_36 rfl (fun c36 => absurd c36 (nI_ge (by omega) (by omega))) (fun c36 => ?_)
      refine rl_iload_n (pc := 39) R dX5_fitBehind_39 rfl ?_
      refine rl_iload (pc := 40) R dX5_fitBehind_40 rfl ?_
      refine rl_S2 (pc := 42) RS dX5_fitBehind_42 lkX5_22 (Nat.le_of_ble_eq_true rfl) (bs_X7_holds) ?_
      refine rl_if_eq (pc := 45) (tgt := 50) R dX5_fitBehind_45 rfl (fun c45 => ?_) (fun c45 => ?_)
      · rw [bI_0] at c45
        refine rl_iinc (pc := 50) R dX5_fitBehind_50 rfl (ii_n q) rfl ?_
        show K _ [_, _, _, _, _, _, _] _ _
        refine rl_goto (pc := 53) (tgt := 32) R dX5_fitBehind_53 rfl (ih (q + 1) (by omega) (by rw [← hs]; simp only [nob]; rw [c45]; rfl))
      · rw [bI_n0] at c45
        refine rl_iconst (pc := 48) R dX5_fitBehind_48 ic_0 ?_
        exact rl_ireturn (pc := 49) E dX5_fitBehind_49 rfl rfl (e_si (by simp only [fbG]; rw [if_neg (by omega), if_pos hop, ← hs, if_neg (by simp [nob, c45])]))
  rcases Nat.eq_zero_or_pos l with rfl | hp
  · refine rl_iload (pc := 0) R dX5_fitBehind_0 rfl ?_
    refine rl_if_le (pc := 2) (tgt := 13) R dX5_fitBehind_2 rfl (fun c2 => ?_) (fun c2 => absurd (by decide) c2)
    refine rl_iconst (pc := 13) R dX5_fitBehind_13 ic_0 ?_
    exact rl_ireturn (pc := 14) E dX5_fitBehind_14 rfl rfl (rfl)
  · obtain ⟨l1, rfl⟩ : ∃ l1, l = l1 + 1 := ⟨l - 1, by omega⟩
    refine rl_iload (pc := 0) R dX5_fitBehind_0 rfl ?_
    refine rl_if_le (pc := 2) (tgt := 13) R dX5_fitBehind_2 rfl (fun c2 => absurd c2 (nI_nle (by omega) (by omega))) (fun c2 => ?_)
    refine rl_iload_n (pc := 5) R dX5_fitBehind_5 rfl ?_
    refine rl_iload_n (pc := 6) R dX5_fitBehind_6 rfl ?_
    refine rl_S2 (pc := 7) RS dX5_fitBehind_7 lkX5_34 (Nat.le_of_ble_eq_true rfl) (bs_X7_isOpen (by omega)) ?_
    refine rl_if_ne (pc := 10) (tgt := 15) R dX5_fitBehind_10 rfl (fun c10 => ?_) (fun c10 => ?_)
    · rw [bI_n0] at c10
      refine rl_iload_n (pc := 15) R dX5_fitBehind_15 rfl ?_
      refine rl_iload_n (pc := 16) R dX5_fitBehind_16 rfl ?_
      refine rl_S2 (pc := 17) RS dX5_fitBehind_17 lkX5_37 (Nat.le_of_ble_eq_true rfl) (bs_X7_openAgain (by omega)) ?_
      refine rl_bipush (pc := 20) R dX5_fitBehind_20 bc_28 ?_
      refine rl_min (pc := 22) R dX5_fitBehind_22 lmX5_40 (Nat.le_of_ble_eq_true rfl) ?_
      rw [show (28 : Int32) = nI 28 from rfl, nI_min (by have := oAg_le law i; omega) (by omega)]
      refine rl_istore (pc := 25) R dX5_fitBehind_25 (Nat.le_of_ble_eq_true rfl) rfl ?_
      show K _ [_, _, _, _, _, _, _] _ _
      refine rl_iload_n (pc := 27) R dX5_fitBehind_27 rfl ?_
      refine rl_iconst (pc := 28) R dX5_fitBehind_28 ic_1 ?_
      refine rl_iadd (pc := 29) R dX5_fitBehind_29 ?_
      rw [nI_1]
      refine rl_istore (pc := 30) R dX5_fitBehind_30 (Nat.le_of_ble_eq_true rfl) rfl ?_
      show K _ [_, _, _, _, _, _, _] _ _
      exact loop l1 rfl c10 _ _ (by omega) rfl
    · rw [bI_0] at c10
      refine rl_iconst (pc := 13) R dX5_fitBehind_13 ic_0 ?_
      exact rl_ireturn (pc := 14) E dX5_fitBehind_14 rfl rfl (e_si (by simp only [fbG]; rw [if_neg (by omega), if_neg (by rw [c10]; decide)]))
theorem bs_X5_manyFit {k : Nat} {law words truths lies : Int32} (hH : rW h a t tc g) (hk : k ≤ 9) : BS (d + 4) false yX5_manyFit [.ref a, .int law, .int words, .int truths, .int lies, .int (nI k)] h (some (.int (fk law (words &&& (truths ^^^ (-1))) lies k g k))) (h.set tc (hI 290 (fk law (words &&& (truths ^^^ (-1))) lies k g))) := by
  refine bs_of mtX5_manyFit rfl (Nat.le_of_ble_eq_true rfl) (fun K R RV RS E => ?_)
  show K 0 [_, _, _, _, _, _, _, _, _, _, _] [] _
  generalize hop : words &&& (truths ^^^ (-1)) = op at E
  have outer : ∀ (m : Nat) (g2 : Nat → Int32) (z8 z9 z10 : Option Value), m ≤ 28 → fkO law op lies k m g2 = fk law op lies k g → (∀ v, z8 ≠ some (.long v)) → (∀ v, z9 ≠ some (.long v)) → K 55 [some (.ref a), some (.int law), some (.int words), some (.int truths), some (.int lies), some (.int (nI k)), some (.int op), some (.int (pm m)), z8, z9, z10] [] (h.set tc (hI 290 g2)) := by
    intro m
    induction m with
    | zero =>
      intro g2 z8 z9 z10 hm hg hz8 hz9
      have hH2 : rW (h.set tc (hI 290 g2)) a t tc g2 := rW_set hH
      have e2 : g2 = fk law op lies k g := hg
      subst e2
      refine rl_iload (pc := 55) R dX5_manyFit_55 rfl ?_
      refine rl_if_lt (pc := 57) (tgt := 161) R dX5_manyFit_57 rfl (fun c57 => ?_) (fun c57 => absurd (by decide) c57)
      refine rl_aload_n (pc := 161) R dX5_manyFit_161 rfl ?_
      refine rl_getf (pc := 162) R dX5_manyFit_162 fkX5_12 hH2.1 rfl ?_
      refine rl_iconst (pc := 165) R dX5_manyFit_165 ic_0 ?_
      refine rl_iload (pc := 166) R dX5_manyFit_166 rfl ?_
      refine rl_V2 (pc := 168) RV dX5_manyFit_168 lkX5_26 hH2.2.1 rfl (Nat.le_of_ble_eq_true rfl) (bs_X3_tell (i := 0) hH2.2.1 hH2.2.2 (by decide) (by omega)) ?_
      exact rl_ireturn (pc := 171) E dX5_manyFit_171 rfl rfl (by rw [Nat.zero_mul, Nat.zero_add])
    | succ m ih =>
      intro g2 z8 z9 z10 hm hg hz8 hz9
      have inner : ∀ (j l : Nat) (g3 : Nat → Int32) (z9 z10 : Option Value), l + j = k + 1 → fkR law op lies m j l g3 = fkR law op lies m (k + 1) 0 g2 → (∀ v, z9 ≠ some (.long v)) → K 63 [some (.ref a), some (.int law), some (.int words), some (.int truths), some (.int lies), some (.int (nI k)), some (.int op), some (.int (nI m)), some (.int (nI l)), z9, z10] [] (h.set tc (hI 290 g3)) := by
        intro j
        induction j with
        | zero =>
          intro l g3 z9 z10 hj hg3 hz9
          refine rl_iload (pc := 63) R dX5_manyFit_63 rfl ?_
          refine rl_iload (pc := 65) R dX5_manyFit_65 rfl ?_
          refine rl_icmp_gt (pc := 67) (tgt := 155) R dX5_manyFit_67 rfl (fun c67 => ?_) (fun c67 => absurd (nI_lt (by omega) (by omega)) c67)
          refine rl_iinc (pc := 155) R dX5_manyFit_155 rfl (pm_dec m) rfl ?_
          show K _ [_, _, _, _, _, _, _, _, _, _, _] _ _
          refine rl_goto (pc := 158) (tgt := 55) R dX5_manyFit_158 rfl (ih g3 _ _ _ (by omega) (by rw [← hg]; show fkO law op lies k m g3 = fkO law op lies k m _; rw [← hg3]; rfl) (fun v => by simp) hz9)
        | succ j ih2 =>
          intro l g3 z9 z10 hj hg3 hz9
          have hH3 : rW (h.set tc (hI 290 g3)) a t tc g3 := rW_set hH
          have fin : ∀ x y : Int32, x + y = ftG law op lies g3 m l → K 133 [some (.ref a), some (.int law), some (.int words), some (.int truths), some (.int lies), some (.int (nI k)), some (.int op), some (.int (nI m)), some (.int (nI l)), some (.int x), some (.int y)] [] (h.set tc (hI 290 g3)) := by
            intro x y hxy
            refine rl_aload_n (pc := 133) R dX5_manyFit_133 rfl ?_
            refine rl_getf (pc := 134) R dX5_manyFit_134 fkX5_12 hH3.1 rfl ?_
            refine rl_iload (pc := 137) R dX5_manyFit_137 rfl ?_
            refine rl_iload (pc := 139) R dX5_manyFit_139 rfl ?_
            refine rl_iload (pc := 141) R dX5_manyFit_141 rfl ?_
            refine rl_iload (pc := 143) R dX5_manyFit_143 rfl ?_
            refine rl_iadd (pc := 145) R dX5_manyFit_145 ?_
            rw [hxy]
            refine rl_V3v (pc := 146) RV dX5_manyFit_146 lkX5_18 hH3.2.1 rfl (Nat.le_of_ble_eq_true rfl) (bs_X3_change hH3.2.1 hH3.2.2 (by omega) (by omega)) ?_
            rw [List.set_set]
            refine rl_iinc (pc := 149) R dX5_manyFit_149 rfl (ii_n l) rfl ?_
            show K _ [_, _, _, _, _, _, _, _, _, _, _] _ _
            refine rl_goto (pc := 152) (tgt := 63) R dX5_manyFit_152 rfl (ih2 (l + 1) _ _ _ (by omega) (by rw [← hg3]; rfl) (fun v => by simp))
          have mid : ∀ x : Int32, x = (if bt lies m then 0 else g3 ((m + 1) * 10 + l)) → K 104 [some (.ref a), some (.int law), some (.int words), some (.int truths), some (.int lies), some (.int (nI k)), some (.int op), some (.int (nI m)), some (.int (nI l)), z9, z10] [.int x] (h.set tc (hI 290 g3)) := by
            intro x hxx
            refine rl_istore (pc := 104) R dX5_manyFit_104 (Nat.le_of_ble_eq_true rfl) rfl ?_
            show K _ [_, _, _, _, _, _, _, _, _, _, _] _ _
            refine rl_iload (pc := 106) R dX5_manyFit_106 rfl ?_
            refine rl_iload (pc := 108) R dX5_manyFit_108 rfl ?_
            refine rl_S2 (pc := 110) RS dX5_manyFit_110 lkX5_22 (Nat.le_of_ble_eq_true rfl) (bs_X7_holds) ?_
            refine rl_if_eq (pc := 113) (tgt := 130) R dX5_manyFit_113 rfl (fun c113 => ?_) (fun c113 => ?_)
            · rw [bI_0] at c113
              refine rl_iconst (pc := 130) R dX5_manyFit_130 ic_0 ?_
              refine rl_istore (pc := 131) R dX5_manyFit_131 (Nat.le_of_ble_eq_true rfl) rfl ?_
              show K _ [_, _, _, _, _, _, _, _, _, _, _] _ _
              first | exact fin x 0 (by simp only [ftG]; rw [← hxx, c113]; rfl) | exact fin x _ (by simp only [ftG]; rw [← hxx, c113]; rfl)
            · rw [bI_n0] at c113
              refine rl_aload_n (pc := 116) R dX5_manyFit_116 rfl ?_
              refine rl_iload_n (pc := 117) R dX5_manyFit_117 rfl ?_
              refine rl_iload (pc := 118) R dX5_manyFit_118 rfl ?_
              refine rl_iload (pc := 120) R dX5_manyFit_120 rfl ?_
              refine rl_iload (pc := 122) R dX5_manyFit_122 rfl ?_
              refine rl_V4 (pc := 124) RV dX5_manyFit_124 lkX5_30 hH3.1 rfl (Nat.le_of_ble_eq_true rfl) (bs_X5_fitBehind hH3 (by omega) (by omega)) ?_
              refine rl_goto (pc := 127) (tgt := 131) R dX5_manyFit_127 rfl ?_
              refine rl_istore (pc := 131) R dX5_manyFit_131 (Nat.le_of_ble_eq_true rfl) rfl ?_
              show K _ [_, _, _, _, _, _, _, _, _, _, _] _ _
              first | exact fin x 0 (by simp only [ftG]; rw [← hxx, c113]; rfl) | exact fin x _ (by simp only [ftG]; rw [← hxx, c113]; rfl)
          refine rl_iload (pc := 63) R dX5_manyFit_63 rfl ?_
          refine rl_iload (pc := 65) R dX5_manyFit_65 rfl ?_
          refine rl_icmp_gt (pc := 67) (tgt := 155) R dX5_manyFit_67 rfl (fun c67 => absurd c67 (nI_nlt (by omega) (by omega))) (fun c67 => ?_)
          refine rl_iload (pc := 70) R dX5_manyFit_70 rfl ?_
          refine rl_bipush (pc := 72) R dX5_manyFit_72 bc_9 ?_
          refine rl_icmp_gt (pc := 74) (tgt := 155) R dX5_manyFit_74 rfl (fun c74 => absurd c74 (nI_nlt (a := 9) (by omega) (by omega))) (fun c74 => ?_)
          refine rl_iload (pc := 77) R dX5_manyFit_77 rfl ?_
          refine rl_iload (pc := 79) R dX5_manyFit_79 rfl ?_
          refine rl_S2 (pc := 81) RS dX5_manyFit_81 lkX5_22 (Nat.le_of_ble_eq_true rfl) (bs_X7_holds) ?_
          refine rl_if_eq (pc := 84) (tgt := 91) R dX5_manyFit_84 rfl (fun c84 => ?_) (fun c84 => ?_)
          · rw [bI_0] at c84
            refine rl_aload_n (pc := 91) R dX5_manyFit_91 rfl ?_
            refine rl_getf (pc := 92) R dX5_manyFit_92 fkX5_12 hH3.1 rfl ?_
            refine rl_iload (pc := 95) R dX5_manyFit_95 rfl ?_
            refine rl_iconst (pc := 97) R dX5_manyFit_97 ic_1 ?_
            refine rl_iadd (pc := 98) R dX5_manyFit_98 ?_
            rw [nI_1]
            refine rl_iload (pc := 99) R dX5_manyFit_99 rfl ?_
            refine rl_V2 (pc := 101) RV dX5_manyFit_101 lkX5_26 hH3.2.1 rfl (Nat.le_of_ble_eq_true rfl) (bs_X3_tell hH3.2.1 hH3.2.2 (by omega) (by omega)) ?_
            exact mid _ (by rw [c84]; rfl)
          · rw [bI_n0] at c84
            refine rl_iconst (pc := 87) R dX5_manyFit_87 ic_0 ?_
            refine rl_goto (pc := 88) (tgt := 104) R dX5_manyFit_88 rfl ?_
            exact mid _ (by rw [c84]; rfl)
      refine rl_iload (pc := 55) R dX5_manyFit_55 rfl ?_
      refine rl_if_lt (pc := 57) (tgt := 161) R dX5_manyFit_57 rfl (fun c57 => absurd c57 (nI_pos (by omega))) (fun c57 => ?_)
      refine rl_iconst (pc := 60) R dX5_manyFit_60 ic_0 ?_
      refine rl_istore (pc := 61) R dX5_manyFit_61 (Nat.le_of_ble_eq_true rfl) rfl ?_
      show K _ [_, _, _, _, _, _, _, _, _, _, _] _ _
      exact inner (k + 1) 0 g2 _ _ (by omega) rfl hz9
  have first : ∀ (j l : Nat) (g2 : Nat → Int32), l + j = k + 1 → fkE j l g2 = fkE (k + 1) 0 g → K 10 [some (.ref a), some (.int law), some (.int words), some (.int truths), some (.int lies), some (.int (nI k)), some (.int op), some (.int (nI l)), none, none, none] [] (h.set tc (hI 290 g2)) := by
    intro j
    induction j with
    | zero =>
      intro l g2 hj hg2
      refine rl_iload (pc := 10) R dX5_manyFit_10 rfl ?_
      refine rl_iload (pc := 12) R dX5_manyFit_12 rfl ?_
      refine rl_icmp_gt (pc := 14) (tgt := 51) R dX5_manyFit_14 rfl (fun c14 => ?_) (fun c14 => absurd (nI_lt (by omega) (by omega)) c14)
      refine rl_bipush (pc := 51) R dX5_manyFit_51 bc_27 ?_
      refine rl_istore (pc := 53) R dX5_manyFit_53 (Nat.le_of_ble_eq_true rfl) rfl ?_
      show K _ [_, _, _, _, _, _, _, _, _, _, _] _ _
      exact outer 28 g2 none none none (Nat.le_refl _) (by rw [fk, ← hg2]; rfl) (fun v => by simp) (fun v => by simp)
    | succ j ih =>
      intro l g2 hj hg2
      have hH2 : rW (h.set tc (hI 290 g2)) a t tc g2 := rW_set hH
      have fin : ∀ x : Int32, x = (if l = 0 then 1 else 0) → K 42 [some (.ref a), some (.int law), some (.int words), some (.int truths), some (.int lies), some (.int (nI k)), some (.int op), some (.int (nI l)), none, none, none] [.int x, .int (nI l), .int 28, .ref t] (h.set tc (hI 290 g2)) := by
        intro x hxx
        refine rl_V3v (pc := 42) RV dX5_manyFit_42 lkX5_18 hH2.2.1 rfl (Nat.le_of_ble_eq_true rfl) (bs_X3_change (i := 28) hH2.2.1 hH2.2.2 (by omega) (by omega)) ?_
        rw [List.set_set]
        refine rl_iinc (pc := 45) R dX5_manyFit_45 rfl (ii_n l) rfl ?_
        show K _ [_, _, _, _, _, _, _, _, _, _, _] _ _
        refine rl_goto (pc := 48) (tgt := 10) R dX5_manyFit_48 rfl (ih (l + 1) _ (by omega) (by rw [← hg2, hxx]; rfl))
      refine rl_iload (pc := 10) R dX5_manyFit_10 rfl ?_
      refine rl_iload (pc := 12) R dX5_manyFit_12 rfl ?_
      refine rl_icmp_gt (pc := 14) (tgt := 51) R dX5_manyFit_14 rfl (fun c14 => absurd c14 (nI_nlt (by omega) (by omega))) (fun c14 => ?_)
      refine rl_iload (pc := 17) R dX5_manyFit_17 rfl ?_
      refine rl_bipush (pc := 19) R dX5_manyFit_19 bc_9 ?_
      refine rl_icmp_gt (pc := 21) (tgt := 51) R dX5_manyFit_21 rfl (fun c21 => absurd c21 (nI_nlt (a := 9) (by omega) (by omega))) (fun c21 => ?_)
      refine rl_aload_n (pc := 24) R dX5_manyFit_24 rfl ?_
      refine rl_getf (pc := 25) R dX5_manyFit_25 fkX5_12 hH2.1 rfl ?_
      refine rl_bipush (pc := 28) R dX5_manyFit_28 bc_28 ?_
      refine rl_iload (pc := 30) R dX5_manyFit_30 rfl ?_
      refine rl_iload (pc := 32) R dX5_manyFit_32 rfl ?_
      refine rl_if_ne (pc := 34) (tgt := 41) R dX5_manyFit_34 rfl (fun c34 => ?_) (fun c34 => ?_)
      · refine rl_iconst (pc := 41) R dX5_manyFit_41 ic_0 ?_
        first | exact fin 0 (by rw [if_neg (fun z => c34 (by rw [z]; rfl))]) | exact fin 1 (by rw [if_pos ((nI_5 (by omega)).mp c34)])
      · refine rl_iconst (pc := 37) R dX5_manyFit_37 ic_1 ?_
        refine rl_goto (pc := 38) (tgt := 42) R dX5_manyFit_38 rfl ?_
        first | exact fin 0 (by rw [if_neg (fun z => c34 (by rw [z]; rfl))]) | exact fin 1 (by rw [if_pos ((nI_5 (by omega)).mp c34)])
  refine rl_iload_n (pc := 0) R dX5_manyFit_0 rfl ?_
  refine rl_iload_n (pc := 1) R dX5_manyFit_1 rfl ?_
  refine rl_iconst (pc := 2) R dX5_manyFit_2 ic_m1 ?_
  refine rl_ixor (pc := 3) R dX5_manyFit_3 ?_
  refine rl_iand (pc := 4) R dX5_manyFit_4 ?_
  rw [hop]
  refine rl_istore (pc := 5) R dX5_manyFit_5 (Nat.le_of_ble_eq_true rfl) rfl ?_
  show K _ [_, _, _, _, _, _, _, _, _, _, _] _ _
  refine rl_iconst (pc := 7) R dX5_manyFit_7 ic_0 ?_
  refine rl_istore (pc := 8) R dX5_manyFit_8 (Nat.le_of_ble_eq_true rfl) rfl ?_
  show K _ [_, _, _, _, _, _, _, _, _, _, _] _ _
  have e0 := first (k + 1) 0 g (by omega) rfl
  rw [List.set_getElem?_self' hH.2.2] at e0
  exact e0
end WM
end
section
/-! SHEETS -/
def zr : Nat → Nat → (Nat → Int32) → Nat → Int32
  | 0, _, f => f
  | j + 1, i, f => zr j (i + 1) (upd f i 0)
def cov (m x y : Int32) : Bool := !decide (y < 0) && (!decide (x < 0) && (!decide (m < x) && !decide (m - x < y)))
def shR (lane m asL x y : Int32) : Int32 := if lane = -1 then -11 else if lane = asL then (if cov m x y then 0 else -13) else -12
def nrw (lane v : Int32) : Int32 := if lane = 0 then v.toInt8.toInt32 else if lane = 1 then v.toInt16.toInt32 else v
def rdD (f : Nat → Int32) (days : Int32) : Nat → Nat → Int32 → Int32 → Int32
  | 0, _, _, s => s
  | j + 1, i, last, s => if f i ≤ last then -2 else if f i < days then rdD f days j (i + 1) (f i) (s ||| 1 <<< (f i &&& 31)) else -2
theorem zr_out : ∀ (j i : Nat) (f : Nat → Int32) (q : Nat), (q < i ∨ i + j ≤ q) → zr j i f q = f q
  | 0, _, _, _, _ => rfl
  | j + 1, i, f, q, h => by
    rw [zr, zr_out j (i + 1) _ q (by omega)]
    simp only [upd]; rw [if_neg (by omega)]
theorem zr_in : ∀ (j i : Nat) (f : Nat → Int32) (q : Nat), i ≤ q → q < i + j → zr j i f q = 0
  | 0, _, _, _, h1, h2 => by omega
  | j + 1, i, f, q, h1, h2 => by
    rw [zr]
    rcases Nat.lt_or_ge i q with c | c
    · exact zr_in j (i + 1) _ q (by omega) (by omega)
    · have : q = i := by omega
      subst this
      rw [zr_out j (q + 1) _ _ (by omega)]
      simp [upd]
section SH
variable {d : Nat} {h : List sm_C} {k c : Nat} {f : Nat → Int32} {lane m : Int32}
theorem bs_X2_isNothing (h1 : h[k]? = some (hO 2 [.ref c, .int lane, .int m])) : BS (d + 1) false yX2_isNothing [.ref k] h (some (.int (bI (decide (lane = -1))))) h := by
  refine bs_of mtX2_isNothing rfl (Nat.le_of_ble_eq_true rfl) (fun K R RV RS E => ?_)
  show K 0 [_] [] _
  refine rl_aload_n (pc := 0) R dX2_isNothing_0 rfl ?_
  refine rl_getf (pc := 1) R dX2_isNothing_1 fkX2_15 (by first | assumption | rfl) rfl ?_
  refine rl_iconst (pc := 4) R dX2_isNothing_4 ic_m1 ?_
  refine rl_icmp_ne (pc := 5) (tgt := 12) R dX2_isNothing_5 rfl (fun c5 => ?_) (fun c5 => ?_)
  · refine rl_iconst (pc := 12) R dX2_isNothing_12 ic_0 ?_
    exact rl_ireturn (pc := 13) E dX2_isNothing_13 rfl rfl (e_si (by simp_all [bI]))
  · refine rl_iconst (pc := 8) R dX2_isNothing_8 ic_1 ?_
    refine rl_goto (pc := 9) (tgt := 13) R dX2_isNothing_9 rfl ?_
    exact rl_ireturn (pc := 13) E dX2_isNothing_13 rfl rfl (e_si (by simp_all [bI]))
theorem bs_X2_hold {l2 n2 : Int32} (h1 : h[k]? = some (hO 2 [.ref c, .int lane, .int m])) (h2 : h[c]? = some (hI 28 f)) : BS (d + 1) false yX2_hold [.ref k, .int l2, .int n2] h (some (.int n2)) ((h.set c (hI 28 (zr 28 0 f))).set k (hO 2 [.ref c, .int l2, .int n2])) := by
  refine bs_of mtX2_hold rfl (Nat.le_of_ble_eq_true rfl) (fun K R RV RS E => ?_)
  show K 0 [_, _, _, _] [] _
  have loop : ∀ (j i : Nat) (g : Nat → Int32), i + j = 28 → zr j i g = zr 28 0 f → K 2 [some (.ref k), some (.int l2), some (.int n2), some (.int (nI i))] [] (h.set c (hI 28 g)) := by
    intro j
    induction j with
    | zero =>
      intro i g hij hg
      have e : g = zr 28 0 f := hg
      subst e
      refine rl_iload_n (pc := 2) R dX2_hold_2 rfl ?_
      refine rl_aload_n (pc := 3) R dX2_hold_3 rfl ?_
      refine rl_getf (pc := 4) R dX2_hold_4 fkX2_9 (sm_h_oi h1 h2) rfl ?_
      refine rl_alen (pc := 7) R dX2_hold_7 (sm_h_eq h2) ?_
      refine rl_icmp_ge (pc := 8) (tgt := 24) R dX2_hold_8 rfl (fun c8 => ?_) (fun c8 => absurd (nI_le (by omega) (by omega)) c8)
      refine rl_aload_n (pc := 24) R dX2_hold_24 rfl ?_
      refine rl_iload_n (pc := 25) R dX2_hold_25 rfl ?_
      refine rl_putI (pc := 26) R dX2_hold_26 fpX2_15 (sm_h_oi h1 h2) (Nat.le_of_ble_eq_true rfl) ?_
      refine rl_aload_n (pc := 29) R dX2_hold_29 rfl ?_
      refine rl_iload_n (pc := 30) R dX2_hold_30 rfl ?_
      refine rl_putI (pc := 31) R dX2_hold_31 fpX2_19 (sm_h_eq (sm_h_oi h1 h2)) (Nat.le_of_ble_eq_true rfl) ?_
      rw [List.set_set]
      refine rl_iload_n (pc := 34) R dX2_hold_34 rfl ?_
      exact rl_ireturn (pc := 35) E dX2_hold_35 rfl rfl (rfl)
    | succ j ih =>
      intro i g hij hg
      refine rl_iload_n (pc := 2) R dX2_hold_2 rfl ?_
      refine rl_aload_n (pc := 3) R dX2_hold_3 rfl ?_
      refine rl_getf (pc := 4) R dX2_hold_4 fkX2_9 (sm_h_oi h1 h2) rfl ?_
      refine rl_alen (pc := 7) R dX2_hold_7 (sm_h_eq h2) ?_
      refine rl_icmp_ge (pc := 8) (tgt := 24) R dX2_hold_8 rfl (fun c8 => absurd c8 (nI_ge (by omega) (by omega))) (fun c8 => ?_)
      refine rl_aload_n (pc := 11) R dX2_hold_11 rfl ?_
      refine rl_getf (pc := 12) R dX2_hold_12 fkX2_9 (sm_h_oi h1 h2) rfl ?_
      refine rl_iload_n (pc := 15) R dX2_hold_15 rfl ?_
      refine rl_iconst (pc := 16) R dX2_hold_16 ic_0 ?_
      refine rl_iast (pc := 17) R dX2_hold_17 (sm_h_eq h2) rfl (by omega) (by decide) ?_
      rw [List.set_set]
      refine rl_iinc (pc := 18) R dX2_hold_18 rfl (ii_n i) rfl ?_
      show K _ [_, _, _, _] _ _
      refine rl_goto (pc := 21) (tgt := 2) R dX2_hold_21 rfl (ih (i + 1) _ (by omega) (by rw [← hg]; rfl))
  refine rl_iconst (pc := 0) R dX2_hold_0 ic_0 ?_
  refine rl_istore_n (pc := 1) R dX2_hold_1 (Nat.le_of_ble_eq_true rfl) rfl ?_
  show K _ [_, _, _, _] _ _
  have e0 := loop 28 0 f rfl rfl
  rw [List.set_getElem?_self' h2] at e0
  exact e0
theorem bs_X2_holdNothing (h1 : h[k]? = some (hO 2 [.ref c, .int lane, .int m])) : BS (d + 1) false yX2_holdNothing [.ref k] h (some (.int m)) (h.set k (hO 2 [.ref c, .int (-1), .int 0])) := by
  refine bs_of mtX2_holdNothing rfl (Nat.le_of_ble_eq_true rfl) (fun K R RV RS E => ?_)
  show K 0 [_, _] [] _
  refine rl_aload_n (pc := 0) R dX2_holdNothing_0 rfl ?_
  refine rl_getf (pc := 1) R dX2_holdNothing_1 fkX2_19 (by first | assumption | rfl) rfl ?_
  refine rl_istore_n (pc := 4) R dX2_holdNothing_4 (Nat.le_of_ble_eq_true rfl) rfl ?_
  show K _ [_, _] _ _
  refine rl_aload_n (pc := 5) R dX2_holdNothing_5 rfl ?_
  refine rl_iconst (pc := 6) R dX2_holdNothing_6 ic_m1 ?_
  refine rl_putI (pc := 7) R dX2_holdNothing_7 fpX2_15 (by first | assumption | rfl) (Nat.le_of_ble_eq_true rfl) ?_
  refine rl_aload_n (pc := 10) R dX2_holdNothing_10 rfl ?_
  refine rl_iconst (pc := 11) R dX2_holdNothing_11 ic_0 ?_
  refine rl_putI (pc := 12) R dX2_holdNothing_12 fpX2_19 (sm_h_eq h1) (Nat.le_of_ble_eq_true rfl) ?_
  rw [List.set_set]
  refine rl_iload_n (pc := 15) R dX2_holdNothing_15 rfl ?_
  exact rl_ireturn (pc := 16) E dX2_holdNothing_16 rfl rfl (rfl)
theorem bs_X2_covers {x y : Int32} (h1 : h[k]? = some (hO 2 [.ref c, .int lane, .int m])) : BS (d + 1) false yX2_covers [.ref k, .int x, .int y] h (some (.int (bI (cov m x y)))) h := by
  refine bs_of mtX2_covers rfl (Nat.le_of_ble_eq_true rfl) (fun K R RV RS E => ?_)
  show K 0 [_, _, _] [] _
  refine rl_iload_n (pc := 0) R dX2_covers_0 rfl ?_
  refine rl_if_lt (pc := 1) (tgt := 30) R dX2_covers_1 rfl (fun c1 => ?_) (fun c1 => ?_)
  · refine rl_iconst (pc := 30) R dX2_covers_30 ic_0 ?_
    exact rl_ireturn (pc := 31) E dX2_covers_31 rfl rfl (e_si (by simp only [cov]; first | (rw [decide_eq_true c1]; rfl) | (rw [decide_eq_true c5, decide_eq_false c1]; rfl) | (rw [decide_eq_true c13, decide_eq_false c1, decide_eq_false c5]; rfl) | (rw [decide_eq_true c23, decide_eq_false c1, decide_eq_false c5, decide_eq_false c13]; rfl) | (rw [decide_eq_false c23, decide_eq_false c1, decide_eq_false c5, decide_eq_false c13]; rfl)))
  · refine rl_iload_n (pc := 4) R dX2_covers_4 rfl ?_
    refine rl_if_lt (pc := 5) (tgt := 30) R dX2_covers_5 rfl (fun c5 => ?_) (fun c5 => ?_)
    · refine rl_iconst (pc := 30) R dX2_covers_30 ic_0 ?_
      exact rl_ireturn (pc := 31) E dX2_covers_31 rfl rfl (e_si (by simp only [cov]; first | (rw [decide_eq_true c1]; rfl) | (rw [decide_eq_true c5, decide_eq_false c1]; rfl) | (rw [decide_eq_true c13, decide_eq_false c1, decide_eq_false c5]; rfl) | (rw [decide_eq_true c23, decide_eq_false c1, decide_eq_false c5, decide_eq_false c13]; rfl) | (rw [decide_eq_false c23, decide_eq_false c1, decide_eq_false c5, decide_eq_false c13]; rfl)))
    · refine rl_iload_n (pc := 8) R dX2_covers_8 rfl ?_
      refine rl_aload_n (pc := 9) R dX2_covers_9 rfl ?_
      refine rl_getf (pc := 10) R dX2_covers_10 fkX2_19 (by first | assumption | rfl) rfl ?_
      refine rl_icmp_gt (pc := 13) (tgt := 30) R dX2_covers_13 rfl (fun c13 => ?_) (fun c13 => ?_)
      · refine rl_iconst (pc := 30) R dX2_covers_30 ic_0 ?_
        exact rl_ireturn (pc := 31) E dX2_covers_31 rfl rfl (e_si (by simp only [cov]; first | (rw [decide_eq_true c1]; rfl) | (rw [decide_eq_true c5, decide_eq_false c1]; rfl) | (rw [decide_eq_true c13, decide_eq_false c1, decide_eq_false c5]; rfl) | (rw [decide_eq_true c23, decide_eq_false c1, decide_eq_false c5, decide_eq_false c13]; rfl) | (rw [decide_eq_false c23, decide_eq_false c1, decide_eq_false c5, decide_eq_false c13]; rfl)))
      · refine rl_iload_n (pc := 16) R dX2_covers_16 rfl ?_
        refine rl_aload_n (pc := 17) R dX2_covers_17 rfl ?_
        refine rl_getf (pc := 18) R dX2_covers_18 fkX2_19 (by first | assumption | rfl) rfl ?_
        refine rl_iload_n (pc := 21) R dX2_covers_21 rfl ?_
        refine rl_isub (pc := 22) R dX2_covers_22 ?_
        refine rl_icmp_gt (pc := 23) (tgt := 30) R dX2_covers_23 rfl (fun c23 => ?_) (fun c23 => ?_)
        · refine rl_iconst (pc := 30) R dX2_covers_30 ic_0 ?_
          exact rl_ireturn (pc := 31) E dX2_covers_31 rfl rfl (e_si (by simp only [cov]; first | (rw [decide_eq_true c1]; rfl) | (rw [decide_eq_true c5, decide_eq_false c1]; rfl) | (rw [decide_eq_true c13, decide_eq_false c1, decide_eq_false c5]; rfl) | (rw [decide_eq_true c23, decide_eq_false c1, decide_eq_false c5, decide_eq_false c13]; rfl) | (rw [decide_eq_false c23, decide_eq_false c1, decide_eq_false c5, decide_eq_false c13]; rfl)))
        · refine rl_iconst (pc := 26) R dX2_covers_26 ic_1 ?_
          refine rl_goto (pc := 27) (tgt := 31) R dX2_covers_27 rfl ?_
          exact rl_ireturn (pc := 31) E dX2_covers_31 rfl rfl (e_si (by simp only [cov]; first | (rw [decide_eq_true c1]; rfl) | (rw [decide_eq_true c5, decide_eq_false c1]; rfl) | (rw [decide_eq_true c13, decide_eq_false c1, decide_eq_false c5]; rfl) | (rw [decide_eq_true c23, decide_eq_false c1, decide_eq_false c5, decide_eq_false c13]; rfl) | (rw [decide_eq_false c23, decide_eq_false c1, decide_eq_false c5, decide_eq_false c13]; rfl)))
theorem bs_X2_refusalOf {asL x y : Int32} (h1 : h[k]? = some (hO 2 [.ref c, .int lane, .int m])) : BS (d + 2) false yX2_refusalOf [.ref k, .int asL, .int x, .int y] h (some (.int (shR lane m asL x y))) h := by
  refine bs_of mtX2_refusalOf rfl (Nat.le_of_ble_eq_true rfl) (fun K R RV RS E => ?_)
  show K 0 [_, _, _, _] [] _
  refine rl_aload_n (pc := 0) R dX2_refusalOf_0 rfl ?_
  refine rl_V0 (pc := 1) RV dX2_refusalOf_1 lkX2_22 (by first | assumption | rfl) rfl (Nat.le_of_ble_eq_true rfl) (bs_X2_isNothing h1) ?_
  refine rl_if_eq (pc := 4) (tgt := 10) R dX2_refusalOf_4 rfl (fun c4 => ?_) (fun c4 => ?_)
  · rw [bI_0, decide_eq_false_iff_not] at c4
    refine rl_aload_n (pc := 10) R dX2_refusalOf_10 rfl ?_
    refine rl_getf (pc := 11) R dX2_refusalOf_11 fkX2_15 (by first | assumption | rfl) rfl ?_
    refine rl_iload_n (pc := 14) R dX2_refusalOf_14 rfl ?_
    refine rl_icmp_eq (pc := 15) (tgt := 21) R dX2_refusalOf_15 rfl (fun c15 => ?_) (fun c15 => ?_)
    · refine rl_aload_n (pc := 21) R dX2_refusalOf_21 rfl ?_
      refine rl_iload_n (pc := 22) R dX2_refusalOf_22 rfl ?_
      refine rl_iload_n (pc := 23) R dX2_refusalOf_23 rfl ?_
      refine rl_V2 (pc := 24) RV dX2_refusalOf_24 lkX2_26 (by first | assumption | rfl) rfl (Nat.le_of_ble_eq_true rfl) (bs_X2_covers h1) ?_
      refine rl_if_eq (pc := 27) (tgt := 34) R dX2_refusalOf_27 rfl (fun c27 => ?_) (fun c27 => ?_)
      · rw [bI_0] at c27
        refine rl_bipush (pc := 34) R dX2_refusalOf_34 bc_m13 ?_
        exact rl_ireturn (pc := 36) E dX2_refusalOf_36 rfl rfl (e_si (by simp only [shR]; first | (rw [if_pos c4]; done) | (rw [if_neg c4, if_neg c15]; done) | (rw [if_neg c4, if_pos c15, c27]; rfl)))
      · rw [bI_n0] at c27
        refine rl_iconst (pc := 30) R dX2_refusalOf_30 ic_0 ?_
        refine rl_goto (pc := 31) (tgt := 36) R dX2_refusalOf_31 rfl ?_
        exact rl_ireturn (pc := 36) E dX2_refusalOf_36 rfl rfl (e_si (by simp only [shR]; first | (rw [if_pos c4]; done) | (rw [if_neg c4, if_neg c15]; done) | (rw [if_neg c4, if_pos c15, c27]; rfl)))
    · refine rl_bipush (pc := 18) R dX2_refusalOf_18 bc_m12 ?_
      exact rl_ireturn (pc := 20) E dX2_refusalOf_20 rfl rfl (e_si (by simp only [shR]; first | (rw [if_pos c4]; done) | (rw [if_neg c4, if_neg c15]; done) | (rw [if_neg c4, if_pos c15, c27]; rfl)))
  · rw [bI_n0, decide_eq_true_eq] at c4
    refine rl_bipush (pc := 7) R dX2_refusalOf_7 bc_m11 ?_
    exact rl_ireturn (pc := 9) E dX2_refusalOf_9 rfl rfl (e_si (by simp only [shR]; first | (rw [if_pos c4]; done) | (rw [if_neg c4, if_neg c15]; done) | (rw [if_neg c4, if_pos c15, c27]; rfl)))
theorem bs_X2_narrow {v : Int32} (h1 : h[k]? = some (hO 2 [.ref c, .int lane, .int m])) : BS (d + 1) false yX2_narrow [.ref k, .int v] h (some (.int (nrw lane v))) h := by
  refine bs_of mtX2_narrow rfl (Nat.le_of_ble_eq_true rfl) (fun K R RV RS E => ?_)
  show K 0 [_, _] [] _
  refine rl_aload_n (pc := 0) R dX2_narrow_0 rfl ?_
  refine rl_getf (pc := 1) R dX2_narrow_1 fkX2_15 (by first | assumption | rfl) rfl ?_
  refine rl_if_ne (pc := 4) (tgt := 10) R dX2_narrow_4 rfl (fun c4 => ?_) (fun c4 => ?_)
  · refine rl_aload_n (pc := 10) R dX2_narrow_10 rfl ?_
    refine rl_getf (pc := 11) R dX2_narrow_11 fkX2_15 (by first | assumption | rfl) rfl ?_
    refine rl_iconst (pc := 14) R dX2_narrow_14 ic_1 ?_
    refine rl_icmp_ne (pc := 15) (tgt := 23) R dX2_narrow_15 rfl (fun c15 => ?_) (fun c15 => ?_)
    · refine rl_iload_n (pc := 23) R dX2_narrow_23 rfl ?_
      exact rl_ireturn (pc := 24) E dX2_narrow_24 rfl rfl (e_si (by simp only [nrw]; first | (rw [if_pos c4]; done) | (rw [if_neg c4, if_neg c15]; done) | (rw [if_neg c4, if_pos c15]; done)))
    · refine rl_iload_n (pc := 18) R dX2_narrow_18 rfl ?_
      refine rl_i2s (pc := 19) R dX2_narrow_19 ?_
      refine rl_goto (pc := 20) (tgt := 24) R dX2_narrow_20 rfl ?_
      exact rl_ireturn (pc := 24) E dX2_narrow_24 rfl rfl (e_si (by simp only [nrw]; first | (rw [if_pos c4]; done) | (rw [if_neg c4, if_neg c15]; done) | (rw [if_neg c4, if_pos c15]; done)))
  · refine rl_iload_n (pc := 7) R dX2_narrow_7 rfl ?_
    refine rl_i2b (pc := 8) R dX2_narrow_8 ?_
    exact rl_ireturn (pc := 9) E dX2_narrow_9 rfl rfl (e_si (by simp only [nrw]; first | (rw [if_pos c4]; done) | (rw [if_neg c4, if_neg c15]; done) | (rw [if_neg c4, if_pos c15]; done)))
theorem bs_X2_change {i : Nat} {v : Int32} (h1 : h[k]? = some (hO 2 [.ref c, .int lane, .int m])) (h2 : h[c]? = some (hI 28 f)) (hi : i < 28) : BS (d + 3) false yX2_change [.ref k, .int (nI i), .int v] h none (h.set c (hI 28 (upd f i (nrw lane v)))) := by
  refine bs_of mtX2_change rfl (Nat.le_of_ble_eq_true rfl) (fun K R RV RS E => ?_)
  show K 0 [_, _, _] [] _
  refine rl_aload_n (pc := 0) R dX2_change_0 rfl ?_
  refine rl_getf (pc := 1) R dX2_change_1 fkX2_9 (by first | assumption | rfl) rfl ?_
  refine rl_iload_n (pc := 4) R dX2_change_4 rfl ?_
  refine rl_aload_n (pc := 5) R dX2_change_5 rfl ?_
  refine rl_iload_n (pc := 6) R dX2_change_6 rfl ?_
  refine rl_V1 (pc := 7) RV dX2_change_7 lkX2_30 (by first | assumption | rfl) rfl (Nat.le_of_ble_eq_true rfl) (bs_X2_narrow h1) ?_
  refine rl_S3 (pc := 10) RS dX2_change_10 lkX2_34 (Nat.le_of_ble_eq_true rfl) (bs_X7_put h2 rfl hi (by decide)) ?_
  refine rl_pop (pc := 13) R dX2_change_13 rfl ?_
  exact rl_return (pc := 14) E dX2_change_14 rfl rfl
theorem bs_X2_readDays {p n : Nat} {days : Int32} (h1 : h[k]? = some (hO 2 [.ref c, .int lane, .int m])) (h2 : h[c]? = some (hI 28 f)) (hp : p + n ≤ 28) : BS (d + 2) false yX2_readDays [.ref k, .int (nI p), .int (nI n), .int days] h (some (.int (rdD f days n p (-1) 0))) h := by
  refine bs_of mtX2_readDays rfl (Nat.le_of_ble_eq_true rfl) (fun K R RV RS E => ?_)
  show K 0 [_, _, _, _, _, _, _, _] [] _
  have loop : ∀ (j i : Nat) (last s : Int32) (z : Option Value), i + j = p + n → rdD f days j i last s = rdD f days n p (-1) 0 → K 9 [some (.ref k), some (.int (nI p)), some (.int (nI n)), some (.int days), some (.int s), some (.int last), some (.int (nI i)), z] [] h := by
    intro j
    induction j with
    | zero =>
      intro i last s z hij hs
      refine rl_iload (pc := 9) R dX2_readDays_9 rfl ?_
      refine rl_iload_n (pc := 11) R dX2_readDays_11 rfl ?_
      refine rl_iload_n (pc := 12) R dX2_readDays_12 rfl ?_
      refine rl_iadd (pc := 13) R dX2_readDays_13 ?_
      rw [nI_add]
      refine rl_icmp_ge (pc := 14) (tgt := 63) R dX2_readDays_14 rfl (fun c14 => ?_) (fun c14 => absurd (nI_le (by omega) (by omega)) c14)
      refine rl_iload (pc := 63) R dX2_readDays_63 rfl ?_
      exact rl_ireturn (pc := 65) E dX2_readDays_65 rfl rfl (e_si hs.symm)
    | succ j ih =>
      intro i last s z hij hs
      refine rl_iload (pc := 9) R dX2_readDays_9 rfl ?_
      refine rl_iload_n (pc := 11) R dX2_readDays_11 rfl ?_
      refine rl_iload_n (pc := 12) R dX2_readDays_12 rfl ?_
      refine rl_iadd (pc := 13) R dX2_readDays_13 ?_
      rw [nI_add]
      refine rl_icmp_ge (pc := 14) (tgt := 63) R dX2_readDays_14 rfl (fun c14 => absurd c14 (nI_ge (by omega) (by omega))) (fun c14 => ?_)
      refine rl_aload_n (pc := 17) R dX2_readDays_17 rfl ?_
      refine rl_getf (pc := 18) R dX2_readDays_18 fkX2_9 (by first | assumption | rfl) rfl ?_
      refine rl_iload (pc := 21) R dX2_readDays_21 rfl ?_
      refine rl_S2 (pc := 23) RS dX2_readDays_23 lkX2_38 (Nat.le_of_ble_eq_true rfl) (bs_X7_at h2 rfl (by omega) (by decide)) ?_
      refine rl_istore (pc := 26) R dX2_readDays_26 (Nat.le_of_ble_eq_true rfl) rfl ?_
      show K _ [_, _, _, _, _, _, _, _] _ _
      refine rl_iload (pc := 28) R dX2_readDays_28 rfl ?_
      refine rl_iload (pc := 30) R dX2_readDays_30 rfl ?_
      refine rl_icmp_le (pc := 32) (tgt := 41) R dX2_readDays_32 rfl (fun c32 => ?_) (fun c32 => ?_)
      · refine rl_bipush (pc := 41) R dX2_readDays_41 bc_m2 ?_
        exact rl_ireturn (pc := 43) E dX2_readDays_43 rfl rfl (e_si (by rw [← hs]; simp only [rdD]; first | (rw [if_pos c32]; done) | (rw [if_neg c32, if_neg c38]; done)))
      · refine rl_iload (pc := 35) R dX2_readDays_35 rfl ?_
        refine rl_iload_n (pc := 37) R dX2_readDays_37 rfl ?_
        refine rl_icmp_lt (pc := 38) (tgt := 44) R dX2_readDays_38 rfl (fun c38 => ?_) (fun c38 => ?_)
        · refine rl_iload (pc := 44) R dX2_readDays_44 rfl ?_
          refine rl_iconst (pc := 46) R dX2_readDays_46 ic_1 ?_
          refine rl_iload (pc := 47) R dX2_readDays_47 rfl ?_
          refine rl_ishl (pc := 49) R dX2_readDays_49 ?_
          refine rl_ior (pc := 50) R dX2_readDays_50 ?_
          refine rl_istore (pc := 51) R dX2_readDays_51 (Nat.le_of_ble_eq_true rfl) rfl ?_
          show K _ [_, _, _, _, _, _, _, _] _ _
          refine rl_iload (pc := 53) R dX2_readDays_53 rfl ?_
          refine rl_istore (pc := 55) R dX2_readDays_55 (Nat.le_of_ble_eq_true rfl) rfl ?_
          show K _ [_, _, _, _, _, _, _, _] _ _
          refine rl_iinc (pc := 57) R dX2_readDays_57 rfl (ii_n i) rfl ?_
          show K _ [_, _, _, _, _, _, _, _] _ _
          refine rl_goto (pc := 60) (tgt := 9) R dX2_readDays_60 rfl (ih (i + 1) _ _ _ (by omega) (by rw [← hs]; simp only [rdD]; rw [if_neg c32, if_pos c38]))
        · refine rl_bipush (pc := 41) R dX2_readDays_41 bc_m2 ?_
          exact rl_ireturn (pc := 43) E dX2_readDays_43 rfl rfl (e_si (by rw [← hs]; simp only [rdD]; first | (rw [if_pos c32]; done) | (rw [if_neg c32, if_neg c38]; done)))
  refine rl_iconst (pc := 0) R dX2_readDays_0 ic_0 ?_
  refine rl_istore (pc := 1) R dX2_readDays_1 (Nat.le_of_ble_eq_true rfl) rfl ?_
  show K _ [_, _, _, _, _, _, _, _] _ _
  refine rl_iconst (pc := 3) R dX2_readDays_3 ic_m1 ?_
  refine rl_istore (pc := 4) R dX2_readDays_4 (Nat.le_of_ble_eq_true rfl) rfl ?_
  show K _ [_, _, _, _, _, _, _, _] _ _
  refine rl_iload_n (pc := 6) R dX2_readDays_6 rfl ?_
  refine rl_istore (pc := 7) R dX2_readDays_7 (Nat.le_of_ble_eq_true rfl) rfl ?_
  show K _ [_, _, _, _, _, _, _, _] _ _
  exact loop n p (-1) 0 none (by omega) rfl
end SH
end
section
/-! THE TAPE -/
def apn (w : Int64) : Nat → (Nat → Int32) → Nat → (Nat → Int32)
  | 0, f, _ => f
  | r + 1, f, m => apn w r (upd f m (byt w r)) (m + 1)
def nbP (f : Nat → Int32) : Nat → Nat → Nat
  | 0, p => p
  | j + 1, p => if f p = 32 then nbP f j (p + 1) else p
def nbV (f : Nat → Int32) (m p : Nat) : Int32 := if p < m then f p else -1
def rnL (f : Nat → Int32) : Nat → Nat → Int32 → Nat × Int32
  | 0, p, x => (p, x)
  | j + 1, p, x => if isW (f p) 48 57 then rnL f j (p + 1) (if x * 10 + f p - 48 < 100 then x * 10 + f p - 48 else 100) else (p, x)
def flt (p : Nat) : Int32 := -20 - nI p
/-- a number from p on: what it is, or a fault; the place behind -/
def rnS (f : Nat → Int32) (m p : Nat) : Int32 × Nat := if isW (nbV f m (nbP f (m - p) p)) 48 57 then (if (rnL f (m - nbP f (m - p) p) (nbP f (m - p) p) 0).2 ≤ 99 then (rnL f (m - nbP f (m - p) p) (nbP f (m - p) p) 0).2 else flt (nbP f (m - p) p), (rnL f (m - nbP f (m - p) p) (nbP f (m - p) p) 0).1) else (flt (nbP f (m - p) p), nbP f (m - p) p)
def rdC (f : Nat → Int32) (m p : Nat) : Int32 × Nat := if nbV f m p = 47 then rnS f m (p + 1) else (0, p)
def rdS (f : Nat → Int32) (m p : Nat) : Int32 × Nat × Int32 × Int32 × Int32 :=
  if nbV f m (nbP f (m - p) p) = 43 ∨ nbV f m (nbP f (m - p) p) = 45 then
    (if (rnS f m (nbP f (m - p) p + 1)).1 < 0 then ((rnS f m (nbP f (m - p) p + 1)).1, (rnS f m (nbP f (m - p) p + 1)).2, 0, 0, 0)
     else if (rdC f m (nbP f (m - (rnS f m (nbP f (m - p) p + 1)).2) (rnS f m (nbP f (m - p) p + 1)).2)).1 < 0 then ((rdC f m (nbP f (m - (rnS f m (nbP f (m - p) p + 1)).2) (rnS f m (nbP f (m - p) p + 1)).2)).1, (rdC f m (nbP f (m - (rnS f m (nbP f (m - p) p + 1)).2) (rnS f m (nbP f (m - p) p + 1)).2)).2, 0, 0, 0)
     else (0, (rdC f m (nbP f (m - (rnS f m (nbP f (m - p) p + 1)).2) (rnS f m (nbP f (m - p) p + 1)).2)).2, if nbV f m (nbP f (m - p) p) = 43 then 1 else 0, (rnS f m (nbP f (m - p) p + 1)).1, (rdC f m (nbP f (m - (rnS f m (nbP f (m - p) p + 1)).2) (rnS f m (nbP f (m - p) p + 1)).2)).1))
  else (flt (nbP f (m - p) p), nbP f (m - p) p, 0, 0, 0)
def up3 (F : Nat → Int32) (n : Nat) (a b e : Int32) : Nat → Int32 := upd (upd (upd F (n * 3 + 0) a) (n * 3 + 1) b) (n * 3 + 2) e
def riS (f : Nat → Int32) (m : Nat) : Nat → Nat → Nat → (Nat → Int32) → Int32 × Nat × Nat × (Nat → Int32)
  | 0, p, n, F => (flt p, p, n, F)
  | j + 1, p, n, F =>
    if (rdS f m p).1 = 0 then
      (if nbV f m (nbP f (m - (rdS f m p).2.1) (rdS f m p).2.1) = -1 then (nI (n + 1), nbP f (m - (rdS f m p).2.1) (rdS f m p).2.1, n + 1, up3 F n (rdS f m p).2.2.1 (rdS f m p).2.2.2.1 (rdS f m p).2.2.2.2)
       else if nbV f m (nbP f (m - (rdS f m p).2.1) (rdS f m p).2.1) = 44 ∧ n + 1 < 28 then riS f m j (nbP f (m - (rdS f m p).2.1) (rdS f m p).2.1 + 1) (n + 1) (up3 F n (rdS f m p).2.2.1 (rdS f m p).2.2.2.1 (rdS f m p).2.2.2.2)
       else (flt (nbP f (m - (rdS f m p).2.1) (rdS f m p).2.1), nbP f (m - (rdS f m p).2.1) (rdS f m p).2.1, n + 1, up3 F n (rdS f m p).2.2.1 (rdS f m p).2.2.2.1 (rdS f m p).2.2.2.2))
    else ((rdS f m p).1, (rdS f m p).2.1, n, F)
theorem nbP_le (f : Nat → Int32) : ∀ (j p : Nat), p ≤ nbP f j p ∧ nbP f j p ≤ p + j
  | 0, p => ⟨Nat.le_refl _, Nat.le_refl _⟩
  | j + 1, p => by
    rw [nbP]
    split
    · have := nbP_le f j (p + 1); omega
    · omega
theorem rnL_le (f : Nat → Int32) : ∀ (j p : Nat) (x : Int32), p ≤ (rnL f j p x).1 ∧ (rnL f j p x).1 ≤ p + j
  | 0, p, _ => ⟨Nat.le_refl _, Nat.le_refl _⟩
  | j + 1, p, x => by
    rw [rnL]
    split
    · have := rnL_le f j (p + 1) (if x * 10 + f p - 48 < 100 then x * 10 + f p - 48 else 100); omega
    · simp only; omega
theorem rnS_le (f : Nat → Int32) (m p : Nat) (h : p ≤ m) : p ≤ (rnS f m p).2 ∧ (rnS f m p).2 ≤ m := by
  have h1 := nbP_le f (m - p) p
  unfold rnS
  split
  · have h2 := rnL_le f (m - nbP f (m - p) p) (nbP f (m - p) p) 0
    simp only; omega
  · simp only; omega
theorem nbV_lt {f : Nat → Int32} {m p : Nat} {v : Int32} (h : nbV f m p = v) (hv : v ≠ -1) : p < m := by
  unfold nbV at h
  split at h
  · assumption
  · exact absurd h.symm hv
theorem rdC_le (f : Nat → Int32) (m p : Nat) (h : p ≤ m) : p ≤ (rdC f m p).2 ∧ (rdC f m p).2 ≤ m := by
  unfold rdC
  split
  · rename_i hv
    have := nbV_lt hv (by decide)
    have := rnS_le f m (p + 1) (by omega)
    omega
  · simp only; omega
theorem rdS_le (f : Nat → Int32) (m p : Nat) (h : p ≤ m) : (rdS f m p).2.1 ≤ m := by
  have h1 := nbP_le f (m - p) p
  unfold rdS
  split
  · rename_i hv
    have h2 : nbP f (m - p) p < m := by rcases hv with hv | hv <;> exact nbV_lt hv (by decide)
    have h3 := rnS_le f m (nbP f (m - p) p + 1) (by omega)
    have h4 := nbP_le f (m - (rnS f m (nbP f (m - p) p + 1)).2) (rnS f m (nbP f (m - p) p + 1)).2
    have h5 := rdC_le f m (nbP f (m - (rnS f m (nbP f (m - p) p + 1)).2) (rnS f m (nbP f (m - p) p + 1)).2) (by omega)
    split
    · simp only; omega
    · split <;> simp only <;> omega
  · simp only; omega
abbrev hT (c m p : Nat) : sm_C := hO 4 [.ref c, .int (nI m), .int (nI p)]
section TP
variable {d : Nat} {h : List sm_C} {k c m p : Nat} {f : Nat → Int32}
theorem bs_X4_append {w : Int64} {n : Nat} {x : Int32} (h1 : h[k]? = some (hO 4 [.ref c, .int (nI m), .int x])) (h2 : h[c]? = some (hI 200 f)) (hm : m ≤ 200) (hn : n ≤ 8) : BS (d + 3) false yX4_append [.ref k, .long w, .int (nI n)] h (some (.int (if 200 < m + n then -3 else nI (m + n)))) (if 200 < m + n then h else (h.set c (hI 200 (apn w n f m))).set k (hO 4 [.ref c, .int (nI (m + n)), .int x])) := by
  have hs : (200 : Int32) - nI m = nI (200 - m) := pk_sub (a := 200) hm
  by_cases hf : 200 < m + n
  · simp only [if_pos hf]
    refine bs_of mtX4_append rfl (Nat.le_of_ble_eq_true rfl) (fun K R RV RS E => ?_)
    show K 0 [_, _, _, _, _] [] _
    refine rl_iload_n (pc := 0) R dX4_append_0 rfl ?_
    refine rl_sipush (pc := 1) R dX4_append_1 sc_200 ?_
    refine rl_aload_n (pc := 4) R dX4_append_4 rfl ?_
    refine rl_getf (pc := 5) R dX4_append_5 fkX4_15 (by first | assumption | rfl) rfl ?_
    refine rl_isub (pc := 8) R dX4_append_8 ?_
    rw [hs]
    refine rl_icmp_le (pc := 9) (tgt := 15) R dX4_append_9 rfl (fun c9 => absurd c9 (Int32.not_le.mpr (nI_lt (by omega) (by omega)))) (fun c9 => ?_)
    refine rl_bipush (pc := 12) R dX4_append_12 bc_m3 ?_
    exact rl_ireturn (pc := 14) E dX4_append_14 rfl rfl (rfl)
  · simp only [if_neg hf]
    refine bs_of mtX4_append rfl (Nat.le_of_ble_eq_true rfl) (fun K R RV RS E => ?_)
    show K 0 [_, _, _, _, _] [] _
    have loop : ∀ (r m2 : Nat) (g : Nat → Int32), m2 + r = m + n → apn w r g m2 = apn w n f m → K 20 [some (.ref k), some (.long w), none, some (.int (nI n)), some (.int (pm r))] [] ((h.set c (hI 200 g)).set k (hO 4 [.ref c, .int (nI m2), .int x])) := by
      intro r
      induction r with
      | zero =>
        intro m2 g hr hg
        have e : g = apn w n f m := hg
        have e2 : m2 = m + n := by omega
        subst e e2
        refine rl_iload (pc := 20) R dX4_append_20 rfl ?_
        refine rl_if_lt (pc := 22) (tgt := 59) R dX4_append_22 rfl (fun c22 => ?_) (fun c22 => absurd (by decide) c22)
        refine rl_aload_n (pc := 59) R dX4_append_59 rfl ?_
        refine rl_getf (pc := 60) R dX4_append_60 fkX4_15 (sm_h_eq (sm_h_oi h1 h2)) rfl ?_
        exact rl_ireturn (pc := 63) E dX4_append_63 rfl rfl (rfl)
      | succ r ih =>
        intro m2 g hr hg
        have a1 : ((h.set c (hI 200 g)).set k (hO 4 [.ref c, .int (nI m2), .int x]))[k]? = some (hO 4 [.ref c, .int (nI m2), .int x]) := sm_h_eq (sm_h_oi h1 h2)
        have a2 : ((h.set c (hI 200 g)).set k (hO 4 [.ref c, .int (nI m2), .int x]))[c]? = some (hI 200 g) := sm_h_io (sm_h_eq h2) (sm_h_oi h1 h2)
        refine rl_iload (pc := 20) R dX4_append_20 rfl ?_
        refine rl_if_lt (pc := 22) (tgt := 59) R dX4_append_22 rfl (fun c22 => absurd c22 (nI_pos (by omega))) (fun c22 => ?_)
        refine rl_aload_n (pc := 25) R dX4_append_25 rfl ?_
        refine rl_getf (pc := 26) R dX4_append_26 fkX4_9 a1 rfl ?_
        refine rl_aload_n (pc := 29) R dX4_append_29 rfl ?_
        refine rl_getf (pc := 30) R dX4_append_30 fkX4_15 a1 rfl ?_
        refine rl_lload_n (pc := 33) R dX4_append_33 rfl ?_
        refine rl_iload (pc := 34) R dX4_append_34 rfl ?_
        refine rl_S2 (pc := 36) RS dX4_append_36 lkX4_22 (Nat.le_of_ble_eq_true rfl) (bs_X7_byteFromLowest) ?_
        refine rl_S3 (pc := 39) RS dX4_append_39 lkX4_26 (Nat.le_of_ble_eq_true rfl) (bs_X7_put a2 rfl (by omega) (by decide)) ?_
        refine rl_pop (pc := 42) R dX4_append_42 rfl ?_
        refine rl_aload_n (pc := 43) R dX4_append_43 rfl ?_
        refine rl_dup (pc := 44) R dX4_append_44 rfl ?_
        refine rl_getf (pc := 45) R dX4_append_45 fkX4_15 (sm_h_oi a1 a2) rfl ?_
        refine rl_iconst (pc := 48) R dX4_append_48 ic_1 ?_
        refine rl_iadd (pc := 49) R dX4_append_49 ?_
        rw [nI_1]
        refine rl_putI (pc := 50) R dX4_append_50 fpX4_15 (sm_h_oi a1 a2) (Nat.le_of_ble_eq_true rfl) ?_
        rw [List.set_comm _ _ (fun e : c = k => by subst e; rw [h1] at h2; cases h2), List.set_set]
        rw [List.set_comm _ _ (fun e : k = c => by subst e; rw [h1] at h2; cases h2), List.set_set]
        refine rl_iinc (pc := 53) R dX4_append_53 rfl (pm_dec r) rfl ?_
        show K _ [_, _, _, _, _] _ _
        refine rl_goto (pc := 56) (tgt := 20) R dX4_append_56 rfl (ih (m2 + 1) _ (by omega) (by rw [← hg]; rfl))
    refine rl_iload_n (pc := 0) R dX4_append_0 rfl ?_
    refine rl_sipush (pc := 1) R dX4_append_1 sc_200 ?_
    refine rl_aload_n (pc := 4) R dX4_append_4 rfl ?_
    refine rl_getf (pc := 5) R dX4_append_5 fkX4_15 (by first | assumption | rfl) rfl ?_
    refine rl_isub (pc := 8) R dX4_append_8 ?_
    rw [hs]
    refine rl_icmp_le (pc := 9) (tgt := 15) R dX4_append_9 rfl (fun c9 => ?_) (fun c9 => absurd (nI_le (by omega) (by omega)) c9)
    refine rl_iload_n (pc := 15) R dX4_append_15 rfl ?_
    refine rl_iconst (pc := 16) R dX4_append_16 ic_1 ?_
    refine rl_isub (pc := 17) R dX4_append_17 ?_
    rw [pm_sub]
    refine rl_istore (pc := 18) R dX4_append_18 (Nat.le_of_ble_eq_true rfl) rfl ?_
    show K _ [_, _, _, _, _] _ _
    have e0 := loop n m f rfl rfl
    rw [List.set_getElem?_self' h2, List.set_getElem?_self' h1] at e0
    exact e0
theorem bs_X4_empty {y x : Int32} (h1 : h[k]? = some (hO 4 [.ref c, .int y, .int x])) : BS (d + 1) false yX4_empty [.ref k] h none (h.set k (hO 4 [.ref c, .int 0, .int x])) := by
  refine bs_of mtX4_empty rfl (Nat.le_of_ble_eq_true rfl) (fun K R RV RS E => ?_)
  show K 0 [_] [] _
  refine rl_aload_n (pc := 0) R dX4_empty_0 rfl ?_
  refine rl_iconst (pc := 1) R dX4_empty_1 ic_0 ?_
  refine rl_putI (pc := 2) R dX4_empty_2 fpX4_15 (by first | assumption | rfl) (Nat.le_of_ble_eq_true rfl) ?_
  exact rl_return (pc := 5) E dX4_empty_5 rfl rfl
theorem bs_X4_isDigit {v : Int32} : BS (d + 1) true yX4_isDigit [.int v] h (some (.int (bI (isW v 48 57)))) h := by
  refine bs_of mtX4_isDigit rfl (Nat.le_of_ble_eq_true rfl) (fun K R RV RS E => ?_)
  show K 0 [_] [] _
  refine rl_iload_n (pc := 0) R dX4_isDigit_0 rfl ?_
  refine rl_bipush (pc := 1) R dX4_isDigit_1 bc_48 ?_
  refine rl_icmp_lt (pc := 3) (tgt := 16) R dX4_isDigit_3 rfl (fun c3 => ?_) (fun c3 => ?_)
  · refine rl_iconst (pc := 16) R dX4_isDigit_16 ic_0 ?_
    exact rl_ireturn (pc := 17) E dX4_isDigit_17 rfl rfl (e_si (by first | (rw [isW_f1 c3]; rfl) | (rw [isW_f2 c9]; rfl) | (rw [isW_t (Int32.not_lt.mp c3) (Int32.not_lt.mp c9)]; rfl)))
  · refine rl_iload_n (pc := 6) R dX4_isDigit_6 rfl ?_
    refine rl_bipush (pc := 7) R dX4_isDigit_7 bc_57 ?_
    refine rl_icmp_gt (pc := 9) (tgt := 16) R dX4_isDigit_9 rfl (fun c9 => ?_) (fun c9 => ?_)
    · refine rl_iconst (pc := 16) R dX4_isDigit_16 ic_0 ?_
      exact rl_ireturn (pc := 17) E dX4_isDigit_17 rfl rfl (e_si (by first | (rw [isW_f1 c3]; rfl) | (rw [isW_f2 c9]; rfl) | (rw [isW_t (Int32.not_lt.mp c3) (Int32.not_lt.mp c9)]; rfl)))
    · refine rl_iconst (pc := 12) R dX4_isDigit_12 ic_1 ?_
      refine rl_goto (pc := 13) (tgt := 17) R dX4_isDigit_13 rfl ?_
      exact rl_ireturn (pc := 17) E dX4_isDigit_17 rfl rfl (e_si (by first | (rw [isW_f1 c3]; rfl) | (rw [isW_f2 c9]; rfl) | (rw [isW_t (Int32.not_lt.mp c3) (Int32.not_lt.mp c9)]; rfl)))
theorem bs_X4_faultAt : BS (d + 1) true yX4_faultAt [.int (nI p)] h (some (.int (flt p))) h := by
  refine bs_of mtX4_faultAt rfl (Nat.le_of_ble_eq_true rfl) (fun K R RV RS E => ?_)
  show K 0 [_] [] _
  refine rl_bipush (pc := 0) R dX4_faultAt_0 bc_m20 ?_
  refine rl_iload_n (pc := 2) R dX4_faultAt_2 rfl ?_
  refine rl_isub (pc := 3) R dX4_faultAt_3 ?_
  exact rl_ireturn (pc := 4) E dX4_faultAt_4 rfl rfl (rfl)
theorem bs_X4_nextByte (h1 : h[k]? = some (hT c m p)) (h2 : h[c]? = some (hI 200 f)) (hm : m ≤ 200) (hp : p ≤ m) : BS (d + 2) false yX4_nextByte [.ref k] h (some (.int (nbV f m (nbP f (m - p) p)))) (h.set k (hT c m (nbP f (m - p) p))) := by
  refine bs_of mtX4_nextByte rfl (Nat.le_of_ble_eq_true rfl) (fun K R RV RS E => ?_)
  show K 0 [_] [] _
  have loop : ∀ (j q : Nat), q + j = m → nbP f j q = nbP f (m - p) p → K 0 [some (.ref k)] [] (h.set k (hT c m q)) := by
    intro j
    induction j with
    | zero =>
      intro q hq he
      have e : q = nbP f (m - p) p := he
      subst e
      have a1 : (h.set k (hT c m (nbP f (m - p) p)))[k]? = some (hT c m (nbP f (m - p) p)) := sm_h_eq h1
      refine rl_aload_n (pc := 0) R dX4_nextByte_0 rfl ?_
      refine rl_getf (pc := 1) R dX4_nextByte_1 fkX4_19 a1 rfl ?_
      refine rl_aload_n (pc := 4) R dX4_nextByte_4 rfl ?_
      refine rl_getf (pc := 5) R dX4_nextByte_5 fkX4_15 a1 rfl ?_
      refine rl_icmp_ge (pc := 8) (tgt := 52) R dX4_nextByte_8 rfl (fun c8 => ?_) (fun c8 => absurd (nI_le (by omega) (by omega)) c8)
      refine rl_iconst (pc := 52) R dX4_nextByte_52 ic_m1 ?_
      exact rl_ireturn (pc := 53) E dX4_nextByte_53 rfl rfl (e_si (by simp only [nbV]; rw [if_neg (by omega)]))
    | succ j ih =>
      intro q hq he
      have a1 : (h.set k (hT c m q))[k]? = some (hT c m q) := sm_h_eq h1
      have a2 : (h.set k (hT c m q))[c]? = some (hI 200 f) := sm_h_io h2 h1
      refine rl_aload_n (pc := 0) R dX4_nextByte_0 rfl ?_
      refine rl_getf (pc := 1) R dX4_nextByte_1 fkX4_19 a1 rfl ?_
      refine rl_aload_n (pc := 4) R dX4_nextByte_4 rfl ?_
      refine rl_getf (pc := 5) R dX4_nextByte_5 fkX4_15 a1 rfl ?_
      refine rl_icmp_ge (pc := 8) (tgt := 52) R dX4_nextByte_8 rfl (fun c8 => absurd c8 (nI_ge (by omega) (by omega))) (fun c8 => ?_)
      refine rl_aload_n (pc := 11) R dX4_nextByte_11 rfl ?_
      refine rl_getf (pc := 12) R dX4_nextByte_12 fkX4_9 a1 rfl ?_
      refine rl_aload_n (pc := 15) R dX4_nextByte_15 rfl ?_
      refine rl_getf (pc := 16) R dX4_nextByte_16 fkX4_19 a1 rfl ?_
      refine rl_S2 (pc := 19) RS dX4_nextByte_19 lkX4_63 (Nat.le_of_ble_eq_true rfl) (bs_X7_at a2 rfl (by omega) (by decide)) ?_
      refine rl_bipush (pc := 22) R dX4_nextByte_22 bc_32 ?_
      refine rl_icmp_eq (pc := 24) (tgt := 39) R dX4_nextByte_24 rfl (fun c24 => ?_) (fun c24 => ?_)
      · refine rl_aload_n (pc := 39) R dX4_nextByte_39 rfl ?_
        refine rl_dup (pc := 40) R dX4_nextByte_40 rfl ?_
        refine rl_getf (pc := 41) R dX4_nextByte_41 fkX4_19 a1 rfl ?_
        refine rl_iconst (pc := 44) R dX4_nextByte_44 ic_1 ?_
        refine rl_iadd (pc := 45) R dX4_nextByte_45 ?_
        rw [nI_1]
        refine rl_putI (pc := 46) R dX4_nextByte_46 fpX4_19 a1 (Nat.le_of_ble_eq_true rfl) ?_
        rw [List.set_set]
        refine rl_goto (pc := 49) (tgt := 0) R dX4_nextByte_49 rfl (ih (q + 1) (by omega) (by rw [← he, nbP, if_pos c24]))
      · have e : q = nbP f (m - p) p := by rw [← he, nbP, if_neg c24]
        subst e
        refine rl_aload_n (pc := 27) R dX4_nextByte_27 rfl ?_
        refine rl_getf (pc := 28) R dX4_nextByte_28 fkX4_9 a1 rfl ?_
        refine rl_aload_n (pc := 31) R dX4_nextByte_31 rfl ?_
        refine rl_getf (pc := 32) R dX4_nextByte_32 fkX4_19 a1 rfl ?_
        refine rl_S2 (pc := 35) RS dX4_nextByte_35 lkX4_63 (Nat.le_of_ble_eq_true rfl) (bs_X7_at a2 rfl (by omega) (by decide)) ?_
        exact rl_ireturn (pc := 38) E dX4_nextByte_38 rfl rfl (e_si (by simp only [nbV]; rw [if_pos (by omega)]))
  have e0 := loop (m - p) p (by omega) rfl
  rw [List.set_getElem?_self' h1] at e0
  exact e0
theorem bs_X4_readNumber (h1 : h[k]? = some (hT c m p)) (h2 : h[c]? = some (hI 200 f)) (hm : m ≤ 200) (hp : p ≤ m) : BS (d + 3) false yX4_readNumber [.ref k] h (some (.int (rnS f m p).1)) (h.set k (hT c m (rnS f m p).2)) := by
  have hle := nbP_le f (m - p) p
  by_cases hdg : isW (nbV f m (nbP f (m - p) p)) 48 57 = true
  · have e1 : (rnS f m p).2 = (rnL f (m - nbP f (m - p) p) (nbP f (m - p) p) 0).1 := by simp only [rnS]; rw [if_pos hdg]
    have e2 : (rnS f m p).1 = if (rnL f (m - nbP f (m - p) p) (nbP f (m - p) p) 0).2 ≤ 99 then (rnL f (m - nbP f (m - p) p) (nbP f (m - p) p) 0).2 else flt (nbP f (m - p) p) := by simp only [rnS]; rw [if_pos hdg]
    rw [e1, e2]
    generalize hP : nbP f (m - p) p = P at hle hdg
    refine bs_of mtX4_readNumber rfl (Nat.le_of_ble_eq_true rfl) (fun K R RV RS E => ?_)
    show K 0 [_, _, _, _] [] _
    have hfin : ∀ (q : Nat) (x : Int32), q = (rnL f (m - P) P 0).1 → x = (rnL f (m - P) P 0).2 → K 93 [some (.ref k), some (.int (nbV f m P)), some (.int (nI P)), some (.int x)] [] (h.set k (hT c m q)) := by
      intro q x hq hx
      subst hq hx
      refine rl_iload_n (pc := 93) R dX4_readNumber_93 rfl ?_
      refine rl_bipush (pc := 94) R dX4_readNumber_94 bc_99 ?_
      refine rl_icmp_le (pc := 96) (tgt := 106) R dX4_readNumber_96 rfl (fun c96 => ?_) (fun c96 => ?_)
      · refine rl_iload_n (pc := 106) R dX4_readNumber_106 rfl ?_
        exact rl_ireturn (pc := 107) E dX4_readNumber_107 rfl rfl (e_si (by first | (rw [if_pos c96]; done) | (rw [if_neg c96]; done)))
      · refine rl_iload_n (pc := 99) R dX4_readNumber_99 rfl ?_
        refine rl_S1 (pc := 100) RS dX4_readNumber_100 lkX4_48 (Nat.le_of_ble_eq_true rfl) (bs_X4_faultAt) ?_
        refine rl_goto (pc := 103) (tgt := 107) R dX4_readNumber_103 rfl ?_
        exact rl_ireturn (pc := 107) E dX4_readNumber_107 rfl rfl (e_si (by first | (rw [if_pos c96]; done) | (rw [if_neg c96]; done)))
    have loop : ∀ (j q : Nat) (x : Int32), q + j = m → rnL f j q x = rnL f (m - P) P 0 → K 27 [some (.ref k), some (.int (nbV f m P)), some (.int (nI P)), some (.int x)] [] (h.set k (hT c m q)) := by
      intro j
      induction j with
      | zero =>
        intro q x hq he
        have a1 : (h.set k (hT c m q))[k]? = some (hT c m q) := sm_h_eq h1
        refine rl_aload_n (pc := 27) R dX4_readNumber_27 rfl ?_
        refine rl_getf (pc := 28) R dX4_readNumber_28 fkX4_19 a1 rfl ?_
        refine rl_aload_n (pc := 31) R dX4_readNumber_31 rfl ?_
        refine rl_getf (pc := 32) R dX4_readNumber_32 fkX4_15 a1 rfl ?_
        refine rl_icmp_ge (pc := 35) (tgt := 93) R dX4_readNumber_35 rfl (fun c35 => ?_) (fun c35 => absurd (nI_le (by omega) (by omega)) c35)
        exact hfin q x (by rw [← he]; rfl) (by rw [← he]; rfl)
      | succ j ih =>
        intro q x hq he
        have a1 : (h.set k (hT c m q))[k]? = some (hT c m q) := sm_h_eq h1
        have a2 : (h.set k (hT c m q))[c]? = some (hI 200 f) := sm_h_io h2 h1
        refine rl_aload_n (pc := 27) R dX4_readNumber_27 rfl ?_
        refine rl_getf (pc := 28) R dX4_readNumber_28 fkX4_19 a1 rfl ?_
        refine rl_aload_n (pc := 31) R dX4_readNumber_31 rfl ?_
        refine rl_getf (pc := 32) R dX4_readNumber_32 fkX4_15 a1 rfl ?_
        refine rl_icmp_ge (pc := 35) (tgt := 93) R dX4_readNumber_35 rfl (fun c35 => absurd c35 (nI_ge (by omega) (by omega))) (fun c35 => ?_)
        refine rl_aload_n (pc := 38) R dX4_readNumber_38 rfl ?_
        refine rl_getf (pc := 39) R dX4_readNumber_39 fkX4_9 a1 rfl ?_
        refine rl_aload_n (pc := 42) R dX4_readNumber_42 rfl ?_
        refine rl_getf (pc := 43) R dX4_readNumber_43 fkX4_19 a1 rfl ?_
        refine rl_S2 (pc := 46) RS dX4_readNumber_46 lkX4_63 (Nat.le_of_ble_eq_true rfl) (bs_X7_at a2 rfl (by omega) (by decide)) ?_
        refine rl_S1 (pc := 49) RS dX4_readNumber_49 lkX4_59 (Nat.le_of_ble_eq_true rfl) (bs_X4_isDigit) ?_
        refine rl_if_eq (pc := 52) (tgt := 93) R dX4_readNumber_52 rfl (fun c52 => ?_) (fun c52 => ?_)
        · rw [bI_0] at c52
          exact hfin q x (by rw [← he, rnL, c52]; rfl) (by rw [← he, rnL, c52]; rfl)
        · rw [bI_n0] at c52
          refine rl_bipush (pc := 55) R dX4_readNumber_55 bc_100 ?_
          refine rl_iload_n (pc := 57) R dX4_readNumber_57 rfl ?_
          refine rl_bipush (pc := 58) R dX4_readNumber_58 bc_10 ?_
          refine rl_imul (pc := 60) R dX4_readNumber_60 ?_
          refine rl_aload_n (pc := 61) R dX4_readNumber_61 rfl ?_
          refine rl_getf (pc := 62) R dX4_readNumber_62 fkX4_9 a1 rfl ?_
          refine rl_aload_n (pc := 65) R dX4_readNumber_65 rfl ?_
          refine rl_getf (pc := 66) R dX4_readNumber_66 fkX4_19 a1 rfl ?_
          refine rl_S2 (pc := 69) RS dX4_readNumber_69 lkX4_63 (Nat.le_of_ble_eq_true rfl) (bs_X7_at a2 rfl (by omega) (by decide)) ?_
          refine rl_iadd (pc := 72) R dX4_readNumber_72 ?_
          refine rl_bipush (pc := 73) R dX4_readNumber_73 bc_48 ?_
          refine rl_isub (pc := 75) R dX4_readNumber_75 ?_
          refine rl_min (pc := 76) R dX4_readNumber_76 lmX4_67 (Nat.le_of_ble_eq_true rfl) ?_
          refine rl_istore_n (pc := 79) R dX4_readNumber_79 (Nat.le_of_ble_eq_true rfl) rfl ?_
          show K _ [_, _, _, _] _ _
          refine rl_aload_n (pc := 80) R dX4_readNumber_80 rfl ?_
          refine rl_dup (pc := 81) R dX4_readNumber_81 rfl ?_
          refine rl_getf (pc := 82) R dX4_readNumber_82 fkX4_19 a1 rfl ?_
          refine rl_iconst (pc := 85) R dX4_readNumber_85 ic_1 ?_
          refine rl_iadd (pc := 86) R dX4_readNumber_86 ?_
          rw [nI_1]
          refine rl_putI (pc := 87) R dX4_readNumber_87 fpX4_19 a1 (Nat.le_of_ble_eq_true rfl) ?_
          rw [List.set_set]
          refine rl_goto (pc := 90) (tgt := 27) R dX4_readNumber_90 rfl (ih (q + 1) _ (by omega) (by rw [← he, rnL, c52]; rfl))
    have b1 : (h.set k (hT c m P))[k]? = some (hT c m P) := sm_h_eq h1
    refine rl_aload_n (pc := 0) R dX4_readNumber_0 rfl ?_
    refine rl_V0 (pc := 1) RV dX4_readNumber_1 lkX4_39 h1 rfl (Nat.le_of_ble_eq_true rfl) (bs_X4_nextByte h1 h2 hm hp) ?_
    rw [hP]
    refine rl_istore_n (pc := 4) R dX4_readNumber_4 (Nat.le_of_ble_eq_true rfl) rfl ?_
    show K _ [_, _, _, _] _ _
    refine rl_iload_n (pc := 5) R dX4_readNumber_5 rfl ?_
    refine rl_S1 (pc := 6) RS dX4_readNumber_6 lkX4_59 (Nat.le_of_ble_eq_true rfl) (bs_X4_isDigit) ?_
    refine rl_if_ne (pc := 9) (tgt := 20) R dX4_readNumber_9 rfl (fun c9 => ?_) (fun c9 => absurd c9 (by rw [hdg]; decide))
    refine rl_aload_n (pc := 20) R dX4_readNumber_20 rfl ?_
    refine rl_getf (pc := 21) R dX4_readNumber_21 fkX4_19 b1 rfl ?_
    refine rl_istore_n (pc := 24) R dX4_readNumber_24 (Nat.le_of_ble_eq_true rfl) rfl ?_
    show K _ [_, _, _, _] _ _
    refine rl_iconst (pc := 25) R dX4_readNumber_25 ic_0 ?_
    refine rl_istore_n (pc := 26) R dX4_readNumber_26 (Nat.le_of_ble_eq_true rfl) rfl ?_
    show K _ [_, _, _, _] _ _
    exact loop (m - P) P 0 (by omega) rfl
  · have e1 : (rnS f m p).2 = nbP f (m - p) p := by simp only [rnS]; rw [if_neg hdg]
    have e2 : (rnS f m p).1 = flt (nbP f (m - p) p) := by simp only [rnS]; rw [if_neg hdg]
    rw [e1, e2]
    refine bs_of mtX4_readNumber rfl (Nat.le_of_ble_eq_true rfl) (fun K R RV RS E => ?_)
    show K 0 [_, _, _, _] [] _
    refine rl_aload_n (pc := 0) R dX4_readNumber_0 rfl ?_
    refine rl_V0 (pc := 1) RV dX4_readNumber_1 lkX4_39 h1 rfl (Nat.le_of_ble_eq_true rfl) (bs_X4_nextByte h1 h2 hm hp) ?_
    refine rl_istore_n (pc := 4) R dX4_readNumber_4 (Nat.le_of_ble_eq_true rfl) rfl ?_
    show K _ [_, _, _, _] _ _
    refine rl_iload_n (pc := 5) R dX4_readNumber_5 rfl ?_
    refine rl_S1 (pc := 6) RS dX4_readNumber_6 lkX4_59 (Nat.le_of_ble_eq_true rfl) (bs_X4_isDigit) ?_
    refine rl_if_ne (pc := 9) (tgt := 20) R dX4_readNumber_9 rfl (fun c9 => absurd (by rw [Bool.not_eq_true] at hdg; rw [hdg]; decide) c9) (fun c9 => ?_)
    refine rl_aload_n (pc := 12) R dX4_readNumber_12 rfl ?_
    refine rl_getf (pc := 13) R dX4_readNumber_13 fkX4_19 (sm_h_eq h1) rfl ?_
    refine rl_S1 (pc := 16) RS dX4_readNumber_16 lkX4_48 (Nat.le_of_ble_eq_true rfl) (bs_X4_faultAt) ?_
    exact rl_ireturn (pc := 19) E dX4_readNumber_19 rfl rfl (rfl)
theorem bs_X4_readDay {k2 c2 n : Nat} {F : Nat → Int32} (h1 : h[k]? = some (hT c m p)) (h2 : h[c]? = some (hI 200 f)) (h3 : h[k2]? = some (hO 0 [.ref c2, .int (nI n)])) (h4 : h[c2]? = some (hI 84 F)) (hm : m ≤ 200) (hp : p ≤ m) (hn : n < 28) : BS (d + 5) false yX4_readDay [.ref k, .ref k2] h (some (.int (rdS f m p).1)) (if (rdS f m p).1 = 0 then ((h.set k (hT c m (rdS f m p).2.1)).set c2 (hI 84 (up3 F n (rdS f m p).2.2.1 (rdS f m p).2.2.2.1 (rdS f m p).2.2.2.2))).set k2 (hO 0 [.ref c2, .int (nI (n + 1))]) else h.set k (hT c m (rdS f m p).2.1)) := by
  have hle := nbP_le f (m - p) p
  have hk2 : k ≠ k2 := fun e => by subst e; rw [h1] at h3; cases h3
  generalize hr : rdS f m p = r
  rw [rdS] at hr
  generalize hP : nbP f (m - p) p = P at hle hr
  by_cases hsg : nbV f m P = 43 ∨ nbV f m P = 45
  · rw [if_pos hsg] at hr
    have hPm : P < m := by rcases hsg with hv | hv <;> exact nbV_lt hv (by decide)
    have hq := rnS_le f m (P + 1) (by omega)
    have b1 : (h.set k (hT c m (P + 1)))[k]? = some (hT c m (P + 1)) := sm_h_eq h1
    have b2 : (h.set k (hT c m (P + 1)))[c]? = some (hI 200 f) := sm_h_io h2 h1
    generalize hQ : rnS f m (P + 1) = Q at hq hr
    have d1 : (h.set k (hT c m Q.2))[k]? = some (hT c m Q.2) := sm_h_eq h1
    have d2 : (h.set k (hT c m Q.2))[c]? = some (hI 200 f) := sm_h_io h2 h1
    have hle3 := nbP_le f (m - Q.2) Q.2
    generalize hT3 : nbP f (m - Q.2) Q.2 = T at hr hle3
    have t1 : (h.set k (hT c m T))[k]? = some (hT c m T) := sm_h_eq h1
    have hC := rdC_le f m T (by omega)
    have g3 : ∀ x : Nat, (h.set k (hT c m x))[k2]? = some (hO 0 [.ref c2, .int (nI n)]) := fun x => sm_h_ne h3 h1 (Ne.symm hk2)
    have g4 : ∀ x : Nat, (h.set k (hT c m x))[c2]? = some (hI 84 F) := fun x => sm_h_io h4 h1
    refine bs_of mtX4_readDay rfl (Nat.le_of_ble_eq_true rfl) (fun K R RV RS E => ?_)
    show K 0 [_, _, _, _, _] [] _
    have last : ∀ (cost : Int32) (q : Nat), (cost, q) = rdC f m T → ¬ Q.1 < 0 → K 74 [some (.ref k), some (.ref k2), some (.int (nbV f m P)), some (.int Q.1), some (.int cost)] [] (h.set k (hT c m q)) := by
      intro cost q he hq0
      have e1 : (rdC f m T).1 = cost := by rw [← he]
      have e2 : (rdC f m T).2 = q := by rw [← he]
      by_cases hc : cost < 0
      · rw [if_neg hq0, if_pos (by rw [e1]; exact hc), e1, e2] at hr
        subst hr
        have hz : ¬ cost = 0 := fun z => by subst z; exact absurd hc (by decide)
        simp only [if_neg hz] at E
        refine rl_iload (pc := 74) R dX4_readDay_74 rfl ?_
        refine rl_if_ge (pc := 76) (tgt := 82) R dX4_readDay_76 rfl (fun c76 => absurd c76 (Int32.not_le.mpr hc)) (fun c76 => ?_)
        refine rl_iload (pc := 79) R dX4_readDay_79 rfl ?_
        exact rl_ireturn (pc := 81) E dX4_readDay_81 rfl rfl (rfl)
      · rw [if_neg hq0, if_neg (by rw [e1]; exact hc), e1, e2] at hr
        subst hr
        simp only [if_true] at E
        have fin : ∀ s : Int32, s = (if nbV f m P = 43 then 1 else 0) → K 94 [some (.ref k), some (.ref k2), some (.int (nbV f m P)), some (.int Q.1), some (.int cost)] [.int s, .ref k2] (h.set k (hT c m q)) := by
          intro s hs
          subst hs
          refine rl_iload_n (pc := 94) R dX4_readDay_94 rfl ?_
          refine rl_iload (pc := 95) R dX4_readDay_95 rfl ?_
          refine rl_V3 (pc := 97) RV dX4_readDay_97 lkX4_55 (g3 q) rfl (Nat.le_of_ble_eq_true rfl) (bs_X0_add (g3 q) (g4 q) hn) ?_
          refine rl_pop (pc := 100) R dX4_readDay_100 rfl ?_
          refine rl_iconst (pc := 101) R dX4_readDay_101 ic_0 ?_
          exact rl_ireturn (pc := 102) E dX4_readDay_102 rfl rfl (rfl)
        refine rl_iload (pc := 74) R dX4_readDay_74 rfl ?_
        refine rl_if_ge (pc := 76) (tgt := 82) R dX4_readDay_76 rfl (fun c76 => ?_) (fun c76 => absurd (Int32.not_lt.mp hc) c76)
        refine rl_aload_n (pc := 82) R dX4_readDay_82 rfl ?_
        refine rl_iload_n (pc := 83) R dX4_readDay_83 rfl ?_
        refine rl_bipush (pc := 84) R dX4_readDay_84 bc_43 ?_
        refine rl_icmp_ne (pc := 86) (tgt := 93) R dX4_readDay_86 rfl (fun c86 => ?_) (fun c86 => ?_)
        · refine rl_iconst (pc := 93) R dX4_readDay_93 ic_0 ?_
          first | exact fin 0 (by rw [if_neg c86]) | exact fin 1 (by rw [if_pos c86])
        · refine rl_iconst (pc := 89) R dX4_readDay_89 ic_1 ?_
          refine rl_goto (pc := 90) (tgt := 94) R dX4_readDay_90 rfl ?_
          first | exact fin 0 (by rw [if_neg c86]) | exact fin 1 (by rw [if_pos c86])
    have mid : K 35 [some (.ref k), some (.ref k2), some (.int (nbV f m P)), none, none] [] (h.set k (hT c m (P + 1))) := by
      by_cases hq0 : Q.1 < 0
      · rw [if_pos hq0] at hr
        subst hr
        have hz : ¬ Q.1 = 0 := fun z => by rw [z] at hq0; exact absurd hq0 (by decide)
        simp only [if_neg hz] at E
        refine rl_aload_n (pc := 35) R dX4_readDay_35 rfl ?_
        refine rl_V0 (pc := 36) RV dX4_readDay_36 lkX4_52 b1 rfl (Nat.le_of_ble_eq_true rfl) (bs_X4_readNumber b1 b2 hm (by omega)) ?_
        rw [hQ, List.set_set]
        refine rl_istore_n (pc := 39) R dX4_readDay_39 (Nat.le_of_ble_eq_true rfl) rfl ?_
        show K _ [_, _, _, _, _] _ _
        refine rl_iload_n (pc := 40) R dX4_readDay_40 rfl ?_
        refine rl_if_ge (pc := 41) (tgt := 46) R dX4_readDay_41 rfl (fun c41 => absurd c41 (Int32.not_le.mpr hq0)) (fun c41 => ?_)
        refine rl_iload_n (pc := 44) R dX4_readDay_44 rfl ?_
        exact rl_ireturn (pc := 45) E dX4_readDay_45 rfl rfl (rfl)
      · refine rl_aload_n (pc := 35) R dX4_readDay_35 rfl ?_
        refine rl_V0 (pc := 36) RV dX4_readDay_36 lkX4_52 b1 rfl (Nat.le_of_ble_eq_true rfl) (bs_X4_readNumber b1 b2 hm (by omega)) ?_
        rw [hQ, List.set_set]
        refine rl_istore_n (pc := 39) R dX4_readDay_39 (Nat.le_of_ble_eq_true rfl) rfl ?_
        show K _ [_, _, _, _, _] _ _
        refine rl_iload_n (pc := 40) R dX4_readDay_40 rfl ?_
        refine rl_if_ge (pc := 41) (tgt := 46) R dX4_readDay_41 rfl (fun c41 => ?_) (fun c41 => absurd (Int32.not_lt.mp hq0) c41)
        refine rl_iconst (pc := 46) R dX4_readDay_46 ic_0 ?_
        refine rl_istore (pc := 47) R dX4_readDay_47 (Nat.le_of_ble_eq_true rfl) rfl ?_
        show K _ [_, _, _, _, _] _ _
        refine rl_aload_n (pc := 49) R dX4_readDay_49 rfl ?_
        refine rl_V0 (pc := 50) RV dX4_readDay_50 lkX4_39 d1 rfl (Nat.le_of_ble_eq_true rfl) (bs_X4_nextByte d1 d2 hm (by omega)) ?_
        rw [hT3, List.set_set]
        refine rl_bipush (pc := 53) R dX4_readDay_53 bc_47 ?_
        refine rl_icmp_ne (pc := 55) (tgt := 74) R dX4_readDay_55 rfl (fun c55 => ?_) (fun c55 => ?_)
        · exact last 0 T (by rw [rdC, if_neg c55]) hq0
        · refine rl_aload_n (pc := 58) R dX4_readDay_58 rfl ?_
          refine rl_dup (pc := 59) R dX4_readDay_59 rfl ?_
          refine rl_getf (pc := 60) R dX4_readDay_60 fkX4_19 t1 rfl ?_
          refine rl_iconst (pc := 63) R dX4_readDay_63 ic_1 ?_
          refine rl_iadd (pc := 64) R dX4_readDay_64 ?_
          rw [nI_1]
          refine rl_putI (pc := 65) R dX4_readDay_65 fpX4_19 t1 (Nat.le_of_ble_eq_true rfl) ?_
          rw [List.set_set]
          refine rl_aload_n (pc := 68) R dX4_readDay_68 rfl ?_
          refine rl_V0 (pc := 69) RV dX4_readDay_69 lkX4_52 (sm_h_eq h1) rfl (Nat.le_of_ble_eq_true rfl) (bs_X4_readNumber (sm_h_eq h1) (sm_h_io h2 h1) hm (by have := nbV_lt c55 (by decide); omega)) ?_
          rw [List.set_set]
          refine rl_istore (pc := 72) R dX4_readDay_72 (Nat.le_of_ble_eq_true rfl) rfl ?_
          exact last (rnS f m (T + 1)).1 (rnS f m (T + 1)).2 (by rw [rdC, if_pos c55]) hq0
    have plus : K 25 [some (.ref k), some (.ref k2), some (.int (nbV f m P)), none, none] [] (h.set k (hT c m P)) := by
      refine rl_aload_n (pc := 25) R dX4_readDay_25 rfl ?_
      refine rl_dup (pc := 26) R dX4_readDay_26 rfl ?_
      refine rl_getf (pc := 27) R dX4_readDay_27 fkX4_19 (sm_h_eq h1) rfl ?_
      refine rl_iconst (pc := 30) R dX4_readDay_30 ic_1 ?_
      refine rl_iadd (pc := 31) R dX4_readDay_31 ?_
      rw [nI_1]
      refine rl_putI (pc := 32) R dX4_readDay_32 fpX4_19 (sm_h_eq h1) (Nat.le_of_ble_eq_true rfl) ?_
      rw [List.set_set]
      exact mid
    refine rl_aload_n (pc := 0) R dX4_readDay_0 rfl ?_
    refine rl_V0 (pc := 1) RV dX4_readDay_1 lkX4_39 h1 rfl (Nat.le_of_ble_eq_true rfl) (bs_X4_nextByte h1 h2 hm hp) ?_
    rw [hP]
    refine rl_istore_n (pc := 4) R dX4_readDay_4 (Nat.le_of_ble_eq_true rfl) rfl ?_
    show K _ [_, _, _, _, _] _ _
    refine rl_iload_n (pc := 5) R dX4_readDay_5 rfl ?_
    refine rl_bipush (pc := 6) R dX4_readDay_6 bc_43 ?_
    refine rl_icmp_eq (pc := 8) (tgt := 25) R dX4_readDay_8 rfl (fun c8 => ?_) (fun c8 => ?_)
    · exact plus
    · refine rl_iload_n (pc := 11) R dX4_readDay_11 rfl ?_
      refine rl_bipush (pc := 12) R dX4_readDay_12 bc_45 ?_
      refine rl_icmp_eq (pc := 14) (tgt := 25) R dX4_readDay_14 rfl (fun c14 => ?_) (fun c14 => absurd (hsg.resolve_left c8) c14)
      exact plus
  · rw [if_neg hsg] at hr
    subst hr
    have hz : ¬ flt P = 0 := by
      intro z
      have z2 : (-20 : Int32) = nI P := by
        have : (-20 : Int32) - nI P + nI P = 0 + nI P := by rw [show (-20 : Int32) - nI P = 0 from z]
        rw [Int32.sub_add_cancel, Int32.zero_add] at this
        exact this
      have z3 := congrArg Int32.toInt z2
      rw [nI_toInt (by omega)] at z3
      have : (-20 : Int32).toInt = -20 := by decide
      omega
    simp only [if_neg hz]
    refine bs_of mtX4_readDay rfl (Nat.le_of_ble_eq_true rfl) (fun K R RV RS E => ?_)
    show K 0 [_, _, _, _, _] [] _
    refine rl_aload_n (pc := 0) R dX4_readDay_0 rfl ?_
    refine rl_V0 (pc := 1) RV dX4_readDay_1 lkX4_39 h1 rfl (Nat.le_of_ble_eq_true rfl) (bs_X4_nextByte h1 h2 hm hp) ?_
    rw [hP]
    refine rl_istore_n (pc := 4) R dX4_readDay_4 (Nat.le_of_ble_eq_true rfl) rfl ?_
    show K _ [_, _, _, _, _] _ _
    refine rl_iload_n (pc := 5) R dX4_readDay_5 rfl ?_
    refine rl_bipush (pc := 6) R dX4_readDay_6 bc_43 ?_
    refine rl_icmp_eq (pc := 8) (tgt := 25) R dX4_readDay_8 rfl (fun c8 => absurd c8 (fun z => hsg (Or.inl z))) (fun c8 => ?_)
    refine rl_iload_n (pc := 11) R dX4_readDay_11 rfl ?_
    refine rl_bipush (pc := 12) R dX4_readDay_12 bc_45 ?_
    refine rl_icmp_eq (pc := 14) (tgt := 25) R dX4_readDay_14 rfl (fun c14 => absurd c14 (fun z => hsg (Or.inr z))) (fun c14 => ?_)
    refine rl_aload_n (pc := 17) R dX4_readDay_17 rfl ?_
    refine rl_getf (pc := 18) R dX4_readDay_18 fkX4_19 (sm_h_eq h1) rfl ?_
    refine rl_S1 (pc := 21) RS dX4_readDay_21 lkX4_48 (Nat.le_of_ble_eq_true rfl) (bs_X4_faultAt) ?_
    exact rl_ireturn (pc := 24) E dX4_readDay_24 rfl rfl (rfl)
end TP
end
section
/-! A YEAR FROM THE TAPE -/
def hth (h : List sm_C) (k c k2 c2 m p n : Nat) (F : Nat → Int32) : List sm_C := ((h.set k (hT c m p)).set c2 (hI 84 F)).set k2 (hO 0 [.ref c2, .int (nI n)])
section IN
variable {d : Nat} {h : List sm_C} {k c k2 c2 m p n q n' : Nat} {f F F' : Nat → Int32}
theorem hth_k (e1 : k ≠ c2) (e2 : k ≠ k2) : (hth h k c k2 c2 m p n F).set k (hT c m q) = hth h k c k2 c2 m q n F := by
  unfold hth
  rw [List.set_comm _ _ (Ne.symm e2), List.set_comm _ _ (Ne.symm e1), List.set_set]
theorem hth_all (e1 : k ≠ c2) (e2 : k ≠ k2) (e3 : c2 ≠ k2) : (((hth h k c k2 c2 m p n F).set k (hT c m q)).set c2 (hI 84 F')).set k2 (hO 0 [.ref c2, .int (nI n')]) = hth h k c k2 c2 m q n' F' := by
  rw [hth_k e1 e2]
  unfold hth
  rw [List.set_comm _ _ (Ne.symm e3), List.set_set, List.set_set]
theorem bs_X4_readInto {x : Int32} {n0 : Nat} {F0 : Nat → Int32} (h1 : h[k]? = some (hO 4 [.ref c, .int (nI m), .int x])) (h2 : h[c]? = some (hI 200 f)) (h3 : h[k2]? = some (hO 0 [.ref c2, .int (nI n0)])) (h4 : h[c2]? = some (hI 84 F0)) (hc : c ≠ c2) (hm : m ≤ 200) : BS (d + 6) false yX4_readInto [.ref k, .ref k2] h (some (.int (riS f m 28 0 0 F0).1)) (hth h k c k2 c2 m (riS f m 28 0 0 F0).2.1 (riS f m 28 0 0 F0).2.2.1 (riS f m 28 0 0 F0).2.2.2) := by
  have e1 : k ≠ c2 := fun e => by subst e; rw [h1] at h4; cases h4
  have e2 : k ≠ k2 := fun e => by subst e; rw [h1] at h3; cases h3
  have e3 : c2 ≠ k2 := fun e => by subst e; rw [h3] at h4; cases h4
  have e4 : c ≠ k2 := fun e => by subst e; rw [h2] at h3; cases h3
  have f1 : ∀ (p n : Nat) (F : Nat → Int32), (hth h k c k2 c2 m p n F)[k]? = some (hT c m p) := fun p n F => sm_h_ne (sm_h_ne (sm_h_eq h1) (sm_h_ne h4 h1 (Ne.symm e1)) e1) (sm_h_ne (sm_h_ne h3 h1 (Ne.symm e2)) (sm_h_ne h4 h1 (Ne.symm e1)) (Ne.symm e3)) e2
  have f2 : ∀ (p n : Nat) (F : Nat → Int32), (hth h k c k2 c2 m p n F)[c]? = some (hI 200 f) := fun p n F => sm_h_ne (sm_h_ne (sm_h_io h2 h1) (sm_h_ne h4 h1 (Ne.symm e1)) hc) (sm_h_ne (sm_h_ne h3 h1 (Ne.symm e2)) (sm_h_ne h4 h1 (Ne.symm e1)) (Ne.symm e3)) e4
  have f3 : ∀ (p n : Nat) (F : Nat → Int32), (hth h k c k2 c2 m p n F)[k2]? = some (hO 0 [.ref c2, .int (nI n)]) := fun p n F => sm_h_eq (sm_h_ne (sm_h_ne h3 h1 (Ne.symm e2)) (sm_h_ne h4 h1 (Ne.symm e1)) (Ne.symm e3))
  have f4 : ∀ (p n : Nat) (F : Nat → Int32), (hth h k c k2 c2 m p n F)[c2]? = some (hI 84 F) := fun p n F => sm_h_ne (sm_h_eq (sm_h_ne h4 h1 (Ne.symm e1))) (sm_h_ne (sm_h_ne h3 h1 (Ne.symm e2)) (sm_h_ne h4 h1 (Ne.symm e1)) (Ne.symm e3)) e3
  refine bs_of mtX4_readInto rfl (Nat.le_of_ble_eq_true rfl) (fun K R RV RS E => ?_)
  show K 0 [_, _, _, _, _] [] _
  have loop : ∀ (j p n : Nat) (F : Nat → Int32) (z3 z4 : Option Value), n + j = 28 → p ≤ m → riS f m j p n F = riS f m 28 0 0 F0 → (∀ v, z3 ≠ some (.long v)) → (∀ v, z3 ≠ some (.double v)) → K 11 [some (.ref k), some (.ref k2), some (.int (nI n)), z3, z4] [] (hth h k c k2 c2 m p n F) := by
    intro j
    induction j with
    | zero =>
      intro p n F z3 z4 hj hp hs z3l z3d
      rw [← hs] at E
      simp only [riS] at E
      have g1 := f1 p n F
      refine rl_iload_n (pc := 11) R dX4_readInto_11 rfl ?_
      refine rl_bipush (pc := 12) R dX4_readInto_12 bc_28 ?_
      refine rl_icmp_ge (pc := 14) (tgt := 84) R dX4_readInto_14 rfl (fun c14 => ?_) (fun c14 => absurd (nI_le (a := 28) (by omega) (by omega)) c14)
      refine rl_aload_n (pc := 84) R dX4_readInto_84 rfl ?_
      refine rl_getf (pc := 85) R dX4_readInto_85 fkX4_19 g1 rfl ?_
      refine rl_S1 (pc := 88) RS dX4_readInto_88 lkX4_48 (Nat.le_of_ble_eq_true rfl) (bs_X4_faultAt) ?_
      exact rl_ireturn (pc := 91) E dX4_readInto_91 rfl rfl (rfl)
    | succ j ih =>
      intro p n F z3 z4 hj hp hs z3l z3d
      have g1 := f1 p n F
      have g2 := f2 p n F
      have g3 := f3 p n F
      have g4 := f4 p n F
      have hB := @bs_X4_readDay d (hth h k c k2 c2 m p n F) k c m p f k2 c2 n F g1 g2 g3 g4 hm hp (by omega)
      have hle := rdS_le f m p hp
      generalize hr : rdS f m p = r at hB hle
      by_cases hz : r.1 = 0
      · rw [if_pos hz, hth_all e1 e2 e3] at hB
        generalize hF : up3 F n r.2.2.1 r.2.2.2.1 r.2.2.2.2 = F' at hB
        have k1 := f1 r.2.1 (n + 1) F'
        have k2' := f2 r.2.1 (n + 1) F'
        have hle3 := nbP_le f (m - r.2.1) r.2.1
        generalize hTT : nbP f (m - r.2.1) r.2.1 = T at hle3
        have t1 := f1 T (n + 1) F'
        have t3 := f3 T (n + 1) F'
        have hs2 := hs
        rw [riS, hr, if_pos hz, hTT, hF] at hs2
        have bad : ¬ nbV f m T = -1 → ¬ (nbV f m T = 44 ∧ n + 1 < 28) → K 60 [some (.ref k), some (.ref k2), some (.int (nI n)), some (.int r.1), some (.int (nbV f m T))] [] (hth h k c k2 c2 m T (n + 1) F') := by
          intro q1 q2
          rw [if_neg q1, if_neg q2] at hs2
          rw [← hs2] at E
          refine rl_aload_n (pc := 60) R dX4_readInto_60 rfl ?_
          refine rl_getf (pc := 61) R dX4_readInto_61 fkX4_19 t1 rfl ?_
          refine rl_S1 (pc := 64) RS dX4_readInto_64 lkX4_48 (Nat.le_of_ble_eq_true rfl) (bs_X4_faultAt) ?_
          exact rl_ireturn (pc := 67) E dX4_readInto_67 rfl rfl (rfl)
        refine rl_iload_n (pc := 11) R dX4_readInto_11 rfl ?_
        refine rl_bipush (pc := 12) R dX4_readInto_12 bc_28 ?_
        refine rl_icmp_ge (pc := 14) (tgt := 84) R dX4_readInto_14 rfl (fun c14 => absurd c14 (nI_ge (b := 28) (by omega) (by omega))) (fun c14 => ?_)
        refine rl_aload_n (pc := 17) R dX4_readInto_17 rfl ?_
        refine rl_aload_n (pc := 18) R dX4_readInto_18 rfl ?_
        refine rl_V1 (pc := 19) RV dX4_readInto_19 lkX4_35 g1 rfl (Nat.le_of_ble_eq_true rfl) (hB) ?_
        refine rl_istore_n (pc := 22) R dX4_readInto_22 (Nat.le_of_ble_eq_true rfl) rfl ?_
        show K _ [_, _, _, _, _] _ _
        refine rl_iload_n (pc := 23) R dX4_readInto_23 rfl ?_
        refine rl_if_eq (pc := 24) (tgt := 29) R dX4_readInto_24 rfl (fun c24 => ?_) (fun c24 => absurd (hz) c24)
        refine rl_aload_n (pc := 29) R dX4_readInto_29 rfl ?_
        refine rl_V0 (pc := 30) RV dX4_readInto_30 lkX4_39 k1 rfl (Nat.le_of_ble_eq_true rfl) (bs_X4_nextByte k1 k2' hm (by omega)) ?_
        rw [hTT, hth_k e1 e2]
        refine rl_istore (pc := 33) R dX4_readInto_33 (Nat.le_of_ble_eq_true rfl) rfl ?_
        show K _ [_, _, _, _, _] _ _
        refine rl_iload (pc := 35) R dX4_readInto_35 rfl ?_
        refine rl_iconst (pc := 37) R dX4_readInto_37 ic_m1 ?_
        refine rl_icmp_ne (pc := 38) (tgt := 46) R dX4_readInto_38 rfl (fun c38 => ?_) (fun c38 => ?_)
        · refine rl_iload (pc := 46) R dX4_readInto_46 rfl ?_
          refine rl_bipush (pc := 48) R dX4_readInto_48 bc_44 ?_
          refine rl_icmp_ne (pc := 50) (tgt := 60) R dX4_readInto_50 rfl (fun c50 => ?_) (fun c50 => ?_)
          · exact bad c38 (fun z => c50 z.1)
          · refine rl_aload_n (pc := 53) R dX4_readInto_53 rfl ?_
            refine rl_V0 (pc := 54) RV dX4_readInto_54 lkX4_44 t3 rfl (Nat.le_of_ble_eq_true rfl) (bs_X0_isFull t3) ?_
            refine rl_if_eq (pc := 57) (tgt := 68) R dX4_readInto_57 rfl (fun c57 => ?_) (fun c57 => ?_)
            · rw [bI_0] at c57
              refine rl_aload_n (pc := 68) R dX4_readInto_68 rfl ?_
              refine rl_dup (pc := 69) R dX4_readInto_69 rfl ?_
              refine rl_getf (pc := 70) R dX4_readInto_70 fkX4_19 t1 rfl ?_
              refine rl_iconst (pc := 73) R dX4_readInto_73 ic_1 ?_
              refine rl_iadd (pc := 74) R dX4_readInto_74 ?_
              rw [nI_1]
              refine rl_putI (pc := 75) R dX4_readInto_75 fpX4_19 t1 (Nat.le_of_ble_eq_true rfl) ?_
              show K 78 _ _ ((hth h k c k2 c2 m T (n + 1) F').set k (hT c m (T + 1)))
              rw [hth_k e1 e2]
              refine rl_iinc (pc := 78) R dX4_readInto_78 rfl (ii_n n) rfl ?_
              show K _ [_, _, _, _, _] _ _
              have hn28 : n + 1 < 28 := by
                simp only [Bool.not_eq_false', decide_eq_true_eq] at c57
                exact (nI_ltI (b := 28) (by omega) (by decide)).mp c57
              refine rl_goto (pc := 81) (tgt := 11) R dX4_readInto_81 rfl (ih (T + 1) (n + 1) F' _ _ (by omega) (by have := nbV_lt c50 (by decide); omega) (by rw [if_neg c38, if_pos ⟨c50, hn28⟩] at hs2; exact hs2) (fun v => by simp) (fun v => by simp))
            · rw [bI_n0] at c57
              exact bad c38 (fun z => by rw [show decide (nI (n + 1) < 28) = true from decide_eq_true (nI_lt (b := 28) z.2 (by decide))] at c57; cases c57)
        · rw [if_pos c38] at hs2
          rw [← hs2] at E
          refine rl_aload_n (pc := 41) R dX4_readInto_41 rfl ?_
          refine rl_getf (pc := 42) R dX4_readInto_42 fkX4_43 t3 rfl ?_
          exact rl_ireturn (pc := 45) E dX4_readInto_45 rfl rfl (rfl)
      · rw [if_neg hz, hth_k e1 e2] at hB
        rw [riS, hr, if_neg hz] at hs
        rw [← hs] at E
        refine rl_iload_n (pc := 11) R dX4_readInto_11 rfl ?_
        refine rl_bipush (pc := 12) R dX4_readInto_12 bc_28 ?_
        refine rl_icmp_ge (pc := 14) (tgt := 84) R dX4_readInto_14 rfl (fun c14 => absurd c14 (nI_ge (b := 28) (by omega) (by omega))) (fun c14 => ?_)
        refine rl_aload_n (pc := 17) R dX4_readInto_17 rfl ?_
        refine rl_aload_n (pc := 18) R dX4_readInto_18 rfl ?_
        refine rl_V1 (pc := 19) RV dX4_readInto_19 lkX4_35 g1 rfl (Nat.le_of_ble_eq_true rfl) (hB) ?_
        refine rl_istore_n (pc := 22) R dX4_readInto_22 (Nat.le_of_ble_eq_true rfl) rfl ?_
        show K _ [_, _, _, _, _] _ _
        refine rl_iload_n (pc := 23) R dX4_readInto_23 rfl ?_
        refine rl_if_eq (pc := 24) (tgt := 29) R dX4_readInto_24 rfl (fun c24 => absurd c24 (hz)) (fun c24 => ?_)
        refine rl_iload_n (pc := 27) R dX4_readInto_27 rfl ?_
        exact rl_ireturn (pc := 28) E dX4_readInto_28 rfl rfl (rfl)
  refine rl_aload_n (pc := 0) R dX4_readInto_0 rfl ?_
  refine rl_iconst (pc := 1) R dX4_readInto_1 ic_0 ?_
  refine rl_putI (pc := 2) R dX4_readInto_2 fpX4_19 (by first | assumption | rfl) (Nat.le_of_ble_eq_true rfl) ?_
  have e5 : (h.set k (hO 4 [.ref c, .int (nI m), .int 0]))[k2]? = some (hO 0 [.ref c2, .int (nI n0)]) := sm_h_ne h3 h1 (Ne.symm e2)
  refine rl_aload_n (pc := 5) R dX4_readInto_5 rfl ?_
  refine rl_V0v (pc := 6) RV dX4_readInto_6 lkX4_30 e5 rfl (Nat.le_of_ble_eq_true rfl) (bs_X0_empty e5) ?_
  have e6 : (h.set k (hO 4 [.ref c, .int (nI m), .int 0])).set k2 (hO 0 [.ref c2, .int (nI 0)]) = hth h k c k2 c2 m 0 0 F0 := by
    unfold hth
    rw [List.set_getElem?_self' (sm_h_ne h4 h1 (Ne.symm e1) : (h.set k (hT c m 0))[c2]? = some (hI 84 F0))]; rfl
  show K 9 _ _ ((h.set k (hO 4 [.ref c, .int (nI m), .int 0])).set k2 (hO 0 [.ref c2, .int (nI 0)]))
  rw [e6]
  refine rl_iconst (pc := 9) R dX4_readInto_9 ic_0 ?_
  refine rl_istore_n (pc := 10) R dX4_readInto_10 (Nat.le_of_ble_eq_true rfl) rfl ?_
  show K _ [_, _, _, _, _] _ _
  exact loop 28 0 0 F0 none none rfl (Nat.zero_le _) rfl (fun v => by simp) (fun v => by simp)
end IN
end
