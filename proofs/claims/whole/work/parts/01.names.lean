-- ===== PART A: goes FIRST, ahead of the names: the tables' words, and 'selects' of the private methods out of them =====
/-- a private method of a class that the tables say can be made, by its rows of tables_1 -/
def lw_okq (q : MethodName × Nat) : Prop := (q.1.cls ≠ "java/lang/invoke/MethodHandle" ∧ q.1.cls ≠ "java/lang/invoke/VarHandle") ∧ Cond.instantiable q.1.cls q.2 ∈ tables_1 ∧ Cond.privateMethod q.1 ∈ tables_1 ∧ Cond.instanceMethod q.1 ∈ tables_1
theorem lw_p0 : lw_okq (⟨"NineLies$Tape", "readDay", "(LNineLies$Days;)I"⟩, 3) := ⟨⟨by decide +kernel, by decide +kernel⟩, List.mem_of_getElem? (i := 54) (by decide +kernel), List.mem_of_getElem? (i := 243) (by decide +kernel), List.mem_of_getElem? (i := 244) (by decide +kernel)⟩
theorem lw_p1 : lw_okq (⟨"NineLies$Tape", "nextByte", "()I"⟩, 3) := ⟨⟨by decide +kernel, by decide +kernel⟩, List.mem_of_getElem? (i := 54) (by decide +kernel), List.mem_of_getElem? (i := 247) (by decide +kernel), List.mem_of_getElem? (i := 248) (by decide +kernel)⟩
theorem lw_p2 : lw_okq (⟨"NineLies$Tape", "readNumber", "()I"⟩, 3) := ⟨⟨by decide +kernel, by decide +kernel⟩, List.mem_of_getElem? (i := 54) (by decide +kernel), List.mem_of_getElem? (i := 255) (by decide +kernel), List.mem_of_getElem? (i := 256) (by decide +kernel)⟩
theorem lw_p3 : lw_okq (⟨"NineLies", "refusalOf", "(I)I"⟩, 8) := ⟨⟨by decide +kernel, by decide +kernel⟩, List.mem_of_getElem? (i := 14) (by decide +kernel), List.mem_of_getElem? (i := 333) (by decide +kernel), List.mem_of_getElem? (i := 334) (by decide +kernel)⟩
theorem lw_p4 : lw_okq (⟨"NineLies", "harmBy", "(III)I"⟩, 8) := ⟨⟨by decide +kernel, by decide +kernel⟩, List.mem_of_getElem? (i := 14) (by decide +kernel), List.mem_of_getElem? (i := 390) (by decide +kernel), List.mem_of_getElem? (i := 391) (by decide +kernel)⟩
theorem lw_p5 : lw_okq (⟨"NineLies$Harm", "silent", "(LNineLies$Days;III)I"⟩, 1) := ⟨⟨by decide +kernel, by decide +kernel⟩, List.mem_of_getElem? (i := 72) (by decide +kernel), List.mem_of_getElem? (i := 403) (by decide +kernel), List.mem_of_getElem? (i := 404) (by decide +kernel)⟩
theorem lw_p6 : lw_okq (⟨"NineLies$Harm", "lying", "(LNineLies$Days;IIII)I"⟩, 1) := ⟨⟨by decide +kernel, by decide +kernel⟩, List.mem_of_getElem? (i := 72) (by decide +kernel), List.mem_of_getElem? (i := 413) (by decide +kernel), List.mem_of_getElem? (i := 414) (by decide +kernel)⟩
theorem lw_p7 : lw_okq (⟨"NineLies$Words", "fitBehind", "(IIII)I"⟩, 1) := ⟨⟨by decide +kernel, by decide +kernel⟩, List.mem_of_getElem? (i := 92) (by decide +kernel), List.mem_of_getElem? (i := 474) (by decide +kernel), List.mem_of_getElem? (i := 475) (by decide +kernel)⟩
theorem lw_p8 : lw_okq (⟨"NineLies", "findSheet", "(I)LNineLies$Sheet;"⟩, 8) := ⟨⟨by decide +kernel, by decide +kernel⟩, List.mem_of_getElem? (i := 14) (by decide +kernel), List.mem_of_getElem? (i := 519) (by decide +kernel), List.mem_of_getElem? (i := 520) (by decide +kernel)⟩
theorem lw_p9 : lw_okq (⟨"NineLies$Sheet", "narrow", "(I)I"⟩, 3) := ⟨⟨by decide +kernel, by decide +kernel⟩, List.mem_of_getElem? (i := 105) (by decide +kernel), List.mem_of_getElem? (i := 552) (by decide +kernel), List.mem_of_getElem? (i := 553) (by decide +kernel)⟩
theorem lw_p10 : lw_okq (⟨"NineLiesModel", "isDay", "(I)Z"⟩, 15) := ⟨⟨by decide +kernel, by decide +kernel⟩, List.mem_of_getElem? (i := 584) (by decide +kernel), List.mem_of_getElem? (i := 648) (by decide +kernel), List.mem_of_getElem? (i := 649) (by decide +kernel)⟩
theorem lw_p11 : lw_okq (⟨"NineLiesModel", "changed", "(II)I"⟩, 15) := ⟨⟨by decide +kernel, by decide +kernel⟩, List.mem_of_getElem? (i := 584) (by decide +kernel), List.mem_of_getElem? (i := 656) (by decide +kernel), List.mem_of_getElem? (i := 657) (by decide +kernel)⟩
theorem lw_p12 : lw_okq (⟨"NineLiesModel", "takesDay", "()I"⟩, 15) := ⟨⟨by decide +kernel, by decide +kernel⟩, List.mem_of_getElem? (i := 584) (by decide +kernel), List.mem_of_getElem? (i := 686) (by decide +kernel), List.mem_of_getElem? (i := 687) (by decide +kernel)⟩
theorem lw_p13 : lw_okq (⟨"NineLiesModel", "look", "()I"⟩, 15) := ⟨⟨by decide +kernel, by decide +kernel⟩, List.mem_of_getElem? (i := 584) (by decide +kernel), List.mem_of_getElem? (i := 690) (by decide +kernel), List.mem_of_getElem? (i := 691) (by decide +kernel)⟩
theorem lw_p14 : lw_okq (⟨"NineLiesModel", "takes", "(I)I"⟩, 15) := ⟨⟨by decide +kernel, by decide +kernel⟩, List.mem_of_getElem? (i := 584) (by decide +kernel), List.mem_of_getElem? (i := 694) (by decide +kernel), List.mem_of_getElem? (i := 695) (by decide +kernel)⟩
theorem lw_p15 : lw_okq (⟨"NineLiesModel", "isSet", "(I)Z"⟩, 15) := ⟨⟨by decide +kernel, by decide +kernel⟩, List.mem_of_getElem? (i := 584) (by decide +kernel), List.mem_of_getElem? (i := 709) (by decide +kernel), List.mem_of_getElem? (i := 710) (by decide +kernel)⟩
def lw_privs_1 : List (MethodName × Nat) := [(⟨"NineLies$Tape", "readDay", "(LNineLies$Days;)I"⟩, 3), (⟨"NineLies$Tape", "nextByte", "()I"⟩, 3), (⟨"NineLies$Tape", "readNumber", "()I"⟩, 3), (⟨"NineLies", "refusalOf", "(I)I"⟩, 8), (⟨"NineLies", "harmBy", "(III)I"⟩, 8), (⟨"NineLies$Harm", "silent", "(LNineLies$Days;III)I"⟩, 1), (⟨"NineLies$Harm", "lying", "(LNineLies$Days;IIII)I"⟩, 1), (⟨"NineLies$Words", "fitBehind", "(IIII)I"⟩, 1), (⟨"NineLies", "findSheet", "(I)LNineLies$Sheet;"⟩, 8), (⟨"NineLies$Sheet", "narrow", "(I)I"⟩, 3), (⟨"NineLiesModel", "isDay", "(I)Z"⟩, 15), (⟨"NineLiesModel", "changed", "(II)I"⟩, 15), (⟨"NineLiesModel", "takesDay", "()I"⟩, 15), (⟨"NineLiesModel", "look", "()I"⟩, 15), (⟨"NineLiesModel", "takes", "(I)I"⟩, 15), (⟨"NineLiesModel", "isSet", "(I)Z"⟩, 15)]
theorem lw_r1 : ∀ q ∈ lw_privs_1, lw_okq q := List.forall_mem_cons.mpr ⟨lw_p0, List.forall_mem_cons.mpr ⟨lw_p1, List.forall_mem_cons.mpr ⟨lw_p2, List.forall_mem_cons.mpr ⟨lw_p3, List.forall_mem_cons.mpr ⟨lw_p4, List.forall_mem_cons.mpr ⟨lw_p5, List.forall_mem_cons.mpr ⟨lw_p6, List.forall_mem_cons.mpr ⟨lw_p7, List.forall_mem_cons.mpr ⟨lw_p8, List.forall_mem_cons.mpr ⟨lw_p9, List.forall_mem_cons.mpr ⟨lw_p10, List.forall_mem_cons.mpr ⟨lw_p11, List.forall_mem_cons.mpr ⟨lw_p12, List.forall_mem_cons.mpr ⟨lw_p13, List.forall_mem_cons.mpr ⟨lw_p14, List.forall_mem_cons.mpr ⟨lw_p15, fun _ h => absurd h List.not_mem_nil⟩⟩⟩⟩⟩⟩⟩⟩⟩⟩⟩⟩⟩⟩⟩⟩
theorem lw_p16 : lw_okq (⟨"NineLiesModel", "wrongIn", "(I)I"⟩, 15) := ⟨⟨by decide +kernel, by decide +kernel⟩, List.mem_of_getElem? (i := 584) (by decide +kernel), List.mem_of_getElem? (i := 729) (by decide +kernel), List.mem_of_getElem? (i := 730) (by decide +kernel)⟩
theorem lw_p17 : lw_okq (⟨"NineLiesModel", "gainOf", "(I)I"⟩, 15) := ⟨⟨by decide +kernel, by decide +kernel⟩, List.mem_of_getElem? (i := 584) (by decide +kernel), List.mem_of_getElem? (i := 743) (by decide +kernel), List.mem_of_getElem? (i := 744) (by decide +kernel)⟩
theorem lw_p18 : lw_okq (⟨"NineLiesModel", "brings", "(IIZ)I"⟩, 15) := ⟨⟨by decide +kernel, by decide +kernel⟩, List.mem_of_getElem? (i := 584) (by decide +kernel), List.mem_of_getElem? (i := 747) (by decide +kernel), List.mem_of_getElem? (i := 748) (by decide +kernel)⟩
theorem lw_p19 : lw_okq (⟨"NineLiesModel", "trusts", "(II)Z"⟩, 15) := ⟨⟨by decide +kernel, by decide +kernel⟩, List.mem_of_getElem? (i := 584) (by decide +kernel), List.mem_of_getElem? (i := 751) (by decide +kernel), List.mem_of_getElem? (i := 752) (by decide +kernel)⟩
theorem lw_p20 : lw_okq (⟨"NineLiesModel", "harmNow", "()I"⟩, 15) := ⟨⟨by decide +kernel, by decide +kernel⟩, List.mem_of_getElem? (i := 584) (by decide +kernel), List.mem_of_getElem? (i := 763) (by decide +kernel), List.mem_of_getElem? (i := 764) (by decide +kernel)⟩
theorem lw_p21 : lw_okq (⟨"NineLiesModel", "from", "(IIIZ)I"⟩, 15) := ⟨⟨by decide +kernel, by decide +kernel⟩, List.mem_of_getElem? (i := 584) (by decide +kernel), List.mem_of_getElem? (i := 767) (by decide +kernel), List.mem_of_getElem? (i := 768) (by decide +kernel)⟩
theorem lw_p22 : lw_okq (⟨"NineLiesModel", "place", "(III)I"⟩, 15) := ⟨⟨by decide +kernel, by decide +kernel⟩, List.mem_of_getElem? (i := 584) (by decide +kernel), List.mem_of_getElem? (i := 771) (by decide +kernel), List.mem_of_getElem? (i := 772) (by decide +kernel)⟩
theorem lw_p23 : lw_okq (⟨"NineLiesModel", "mayLie", "(III)Z"⟩, 15) := ⟨⟨by decide +kernel, by decide +kernel⟩, List.mem_of_getElem? (i := 584) (by decide +kernel), List.mem_of_getElem? (i := 775) (by decide +kernel), List.mem_of_getElem? (i := 776) (by decide +kernel)⟩
theorem lw_p24 : lw_okq (⟨"NineLiesModel", "setsOf", "(IIII)I"⟩, 15) := ⟨⟨by decide +kernel, by decide +kernel⟩, List.mem_of_getElem? (i := 584) (by decide +kernel), List.mem_of_getElem? (i := 811) (by decide +kernel), List.mem_of_getElem? (i := 812) (by decide +kernel)⟩
theorem lw_p25 : lw_okq (⟨"NineLiesModel", "found", "(IIII)I"⟩, 15) := ⟨⟨by decide +kernel, by decide +kernel⟩, List.mem_of_getElem? (i := 584) (by decide +kernel), List.mem_of_getElem? (i := 846) (by decide +kernel), List.mem_of_getElem? (i := 847) (by decide +kernel)⟩
def lw_privs_2 : List (MethodName × Nat) := [(⟨"NineLiesModel", "wrongIn", "(I)I"⟩, 15), (⟨"NineLiesModel", "gainOf", "(I)I"⟩, 15), (⟨"NineLiesModel", "brings", "(IIZ)I"⟩, 15), (⟨"NineLiesModel", "trusts", "(II)Z"⟩, 15), (⟨"NineLiesModel", "harmNow", "()I"⟩, 15), (⟨"NineLiesModel", "from", "(IIIZ)I"⟩, 15), (⟨"NineLiesModel", "place", "(III)I"⟩, 15), (⟨"NineLiesModel", "mayLie", "(III)Z"⟩, 15), (⟨"NineLiesModel", "setsOf", "(IIII)I"⟩, 15), (⟨"NineLiesModel", "found", "(IIII)I"⟩, 15)]
theorem lw_r2 : ∀ q ∈ lw_privs_2, lw_okq q := List.forall_mem_cons.mpr ⟨lw_p16, List.forall_mem_cons.mpr ⟨lw_p17, List.forall_mem_cons.mpr ⟨lw_p18, List.forall_mem_cons.mpr ⟨lw_p19, List.forall_mem_cons.mpr ⟨lw_p20, List.forall_mem_cons.mpr ⟨lw_p21, List.forall_mem_cons.mpr ⟨lw_p22, List.forall_mem_cons.mpr ⟨lw_p23, List.forall_mem_cons.mpr ⟨lw_p24, List.forall_mem_cons.mpr ⟨lw_p25, fun _ h => absurd h List.not_mem_nil⟩⟩⟩⟩⟩⟩⟩⟩⟩⟩
def lw_privs : List (MethodName × Nat) := lw_privs_1 ++ (lw_privs_2)
def lw_tbl : List Cond := k2_sels lw_privs ++ tables_1
theorem lw_privs_ok : ∀ q ∈ lw_privs, lw_okq q := by
  show ∀ q ∈ lw_privs_1 ++ (lw_privs_2), lw_okq q
  exact List.forall_mem_append.mpr ⟨lw_r1, lw_r2⟩

-- ===== names, of the printed ones those that the rows use =====
def RX0 : String := "NineLies$Days"
def TX0 : u_T := fun k => match k with
  | 0 => ("NineLies$Days", "cells", "[I", true)
  | _ => ("NineLies$Days", "many", "I", false)
def tyX0 : Nat → FieldType := fun k => match k with
  | 0 => .array .int
  | _ => .int
abbrev wsX00 : List Cond := u_ws RX0 TX0 2
theorem nmX0 : ∀ a, a < 2 → ∀ b, b < 2 → a ≠ b → (TX0 a).2.1 ≠ (TX0 b).2.1 := by decide +kernel
theorem tyX0_ok : ∀ k, k < 2 → parseFieldDescriptor (TX0 k).2.2.1 = some (tyX0 k) := by decide +kernel
abbrev cX0_init : ByteArray := prog_2_method_1_code
def yX0_init : MethodName := ⟨RX0, "<init>", "()V"⟩
abbrev cX0_has : ByteArray := prog_2_method_2_code
def yX0_has : MethodName := ⟨RX0, "has", "(I)Z"⟩
abbrev cX0_hasAll : ByteArray := prog_2_method_3_code
def yX0_hasAll : MethodName := ⟨RX0, "hasAll", "(I)Z"⟩
abbrev cX0_isFull : ByteArray := prog_2_method_4_code
def yX0_isFull : MethodName := ⟨RX0, "isFull", "()Z"⟩
abbrev cX0_tell : ByteArray := prog_2_method_5_code
def yX0_tell : MethodName := ⟨RX0, "tell", "(II)I"⟩
abbrev cX0_change : ByteArray := prog_2_method_6_code
def yX0_change : MethodName := ⟨RX0, "change", "(III)I"⟩
abbrev cX0_add : ByteArray := prog_2_method_7_code
def yX0_add : MethodName := ⟨RX0, "add", "(III)I"⟩
abbrev cX0_removeLast : ByteArray := prog_2_method_8_code
def yX0_removeLast : MethodName := ⟨RX0, "removeLast", "()I"⟩
abbrev cX0_empty : ByteArray := prog_2_method_9_code
def yX0_empty : MethodName := ⟨RX0, "empty", "()V"⟩
abbrev cX0_become : ByteArray := prog_2_method_10_code
def yX0_become : MethodName := ⟨RX0, "become", "(LNineLies$Days;)V"⟩
abbrev cX0_hasNews : ByteArray := prog_2_method_11_code
def yX0_hasNews : MethodName := ⟨RX0, "hasNews", "(I)Z"⟩
abbrev cX0_manyWithNews : ByteArray := prog_2_method_12_code
def yX0_manyWithNews : MethodName := ⟨RX0, "manyWithNews", "()I"⟩
abbrev cX0_sumOf : ByteArray := prog_2_method_13_code
def yX0_sumOf : MethodName := ⟨RX0, "sumOf", "(II)I"⟩
abbrev cX0_isTrusted : ByteArray := prog_2_method_14_code
def yX0_isTrusted : MethodName := ⟨RX0, "isTrusted", "(III)Z"⟩
abbrev cX0_courtHas : ByteArray := prog_2_method_15_code
def yX0_courtHas : MethodName := ⟨RX0, "courtHas", "(IZII)I"⟩
def RX1 : String := "NineLies$Harm"
def TX1 : u_T := fun k => match k with
  | _ => ("NineLies$Harm", "least", "LNineLies$Table;", true)
def tyX1 : Nat → FieldType := fun k => match k with
  | _ => .object "NineLies$Table"
abbrev wsX10 : List Cond := u_ws RX1 TX1 1
theorem nmX1 : ∀ a, a < 1 → ∀ b, b < 1 → a ≠ b → (TX1 a).2.1 ≠ (TX1 b).2.1 := by decide +kernel
theorem tyX1_ok : ∀ k, k < 1 → parseFieldDescriptor (TX1 k).2.2.1 = some (tyX1 k) := by decide +kernel
abbrev cX1_init : ByteArray := prog_3_method_1_code
def yX1_init : MethodName := ⟨RX1, "<init>", "()V"⟩
abbrev cX1_reckon : ByteArray := prog_3_method_2_code
def yX1_reckon : MethodName := ⟨RX1, "reckon", "(LNineLies$Days;III)I"⟩
abbrev cX1_worstSet : ByteArray := prog_3_method_3_code
def yX1_worstSet : MethodName := ⟨RX1, "worstSet", "(LNineLies$Days;III)I"⟩
abbrev cX1_silent : ByteArray := prog_3_method_4_code
def yX1_silent : MethodName := ⟨RX1, "silent", "(LNineLies$Days;III)I"⟩
abbrev cX1_lying : ByteArray := prog_3_method_5_code
def yX1_lying : MethodName := ⟨RX1, "lying", "(LNineLies$Days;IIII)I"⟩
def RX2 : String := "NineLies$Sheet"
def TX2 : u_T := fun k => match k with
  | 0 => ("NineLies$Sheet", "items", "[I", true)
  | 1 => ("NineLies$Sheet", "lane", "I", false)
  | _ => ("NineLies$Sheet", "many", "I", false)
def tyX2 : Nat → FieldType := fun k => match k with
  | 0 => .array .int
  | 1 => .int
  | _ => .int
abbrev wsX20 : List Cond := u_ws RX2 TX2 3
theorem nmX2 : ∀ a, a < 3 → ∀ b, b < 3 → a ≠ b → (TX2 a).2.1 ≠ (TX2 b).2.1 := by decide +kernel
theorem tyX2_ok : ∀ k, k < 3 → parseFieldDescriptor (TX2 k).2.2.1 = some (tyX2 k) := by decide +kernel
abbrev cX2_init : ByteArray := prog_4_method_1_code
def yX2_init : MethodName := ⟨RX2, "<init>", "()V"⟩
abbrev cX2_isNothing : ByteArray := prog_4_method_2_code
def yX2_isNothing : MethodName := ⟨RX2, "isNothing", "()Z"⟩
abbrev cX2_hold : ByteArray := prog_4_method_3_code
def yX2_hold : MethodName := ⟨RX2, "hold", "(II)I"⟩
abbrev cX2_holdNothing : ByteArray := prog_4_method_4_code
def yX2_holdNothing : MethodName := ⟨RX2, "holdNothing", "()I"⟩
abbrev cX2_covers : ByteArray := prog_4_method_5_code
def yX2_covers : MethodName := ⟨RX2, "covers", "(II)Z"⟩
abbrev cX2_refusalOf : ByteArray := prog_4_method_6_code
def yX2_refusalOf : MethodName := ⟨RX2, "refusalOf", "(III)I"⟩
abbrev cX2_change : ByteArray := prog_4_method_7_code
def yX2_change : MethodName := ⟨RX2, "change", "(II)V"⟩
abbrev cX2_narrow : ByteArray := prog_4_method_8_code
def yX2_narrow : MethodName := ⟨RX2, "narrow", "(I)I"⟩
abbrev cX2_readDays : ByteArray := prog_4_method_9_code
def yX2_readDays : MethodName := ⟨RX2, "readDays", "(III)I"⟩
def RX3 : String := "NineLies$Table"
def TX3 : u_T := fun k => match k with
  | _ => ("NineLies$Table", "cells", "[I", true)
def tyX3 : Nat → FieldType := fun k => match k with
  | _ => .array .int
abbrev wsX30 : List Cond := u_ws RX3 TX3 1
theorem nmX3 : ∀ a, a < 1 → ∀ b, b < 1 → a ≠ b → (TX3 a).2.1 ≠ (TX3 b).2.1 := by decide +kernel
theorem tyX3_ok : ∀ k, k < 1 → parseFieldDescriptor (TX3 k).2.2.1 = some (tyX3 k) := by decide +kernel
abbrev cX3_init : ByteArray := prog_5_method_1_code
def yX3_init : MethodName := ⟨RX3, "<init>", "()V"⟩
abbrev cX3_tell : ByteArray := prog_5_method_2_code
def yX3_tell : MethodName := ⟨RX3, "tell", "(II)I"⟩
abbrev cX3_change : ByteArray := prog_5_method_3_code
def yX3_change : MethodName := ⟨RX3, "change", "(III)V"⟩
def RX4 : String := "NineLies$Tape"
def TX4 : u_T := fun k => match k with
  | 0 => ("NineLies$Tape", "bytes", "[I", true)
  | 1 => ("NineLies$Tape", "many", "I", false)
  | _ => ("NineLies$Tape", "place", "I", false)
def tyX4 : Nat → FieldType := fun k => match k with
  | 0 => .array .int
  | 1 => .int
  | _ => .int
abbrev wsX40 : List Cond := u_ws RX4 TX4 3
theorem nmX4 : ∀ a, a < 3 → ∀ b, b < 3 → a ≠ b → (TX4 a).2.1 ≠ (TX4 b).2.1 := by decide +kernel
theorem tyX4_ok : ∀ k, k < 3 → parseFieldDescriptor (TX4 k).2.2.1 = some (tyX4 k) := by decide +kernel
abbrev cX4_init : ByteArray := prog_6_method_1_code
def yX4_init : MethodName := ⟨RX4, "<init>", "()V"⟩
abbrev cX4_append : ByteArray := prog_6_method_2_code
def yX4_append : MethodName := ⟨RX4, "append", "(JI)I"⟩
abbrev cX4_empty : ByteArray := prog_6_method_3_code
def yX4_empty : MethodName := ⟨RX4, "empty", "()V"⟩
abbrev cX4_readInto : ByteArray := prog_6_method_4_code
def yX4_readInto : MethodName := ⟨RX4, "readInto", "(LNineLies$Days;)I"⟩
abbrev cX4_readDay : ByteArray := prog_6_method_5_code
def yX4_readDay : MethodName := ⟨RX4, "readDay", "(LNineLies$Days;)I"⟩
abbrev cX4_readNumber : ByteArray := prog_6_method_6_code
def yX4_readNumber : MethodName := ⟨RX4, "readNumber", "()I"⟩
abbrev cX4_nextByte : ByteArray := prog_6_method_7_code
def yX4_nextByte : MethodName := ⟨RX4, "nextByte", "()I"⟩
abbrev cX4_isDigit : ByteArray := prog_6_method_8_code
def yX4_isDigit : MethodName := ⟨RX4, "isDigit", "(I)Z"⟩
abbrev cX4_faultAt : ByteArray := prog_6_method_9_code
def yX4_faultAt : MethodName := ⟨RX4, "faultAt", "(I)I"⟩
def RX5 : String := "NineLies$Words"
def TX5 : u_T := fun k => match k with
  | _ => ("NineLies$Words", "fits", "LNineLies$Table;", true)
def tyX5 : Nat → FieldType := fun k => match k with
  | _ => .object "NineLies$Table"
abbrev wsX50 : List Cond := u_ws RX5 TX5 1
theorem nmX5 : ∀ a, a < 1 → ∀ b, b < 1 → a ≠ b → (TX5 a).2.1 ≠ (TX5 b).2.1 := by decide +kernel
theorem tyX5_ok : ∀ k, k < 1 → parseFieldDescriptor (TX5 k).2.2.1 = some (tyX5 k) := by decide +kernel
abbrev cX5_init : ByteArray := prog_7_method_1_code
def yX5_init : MethodName := ⟨RX5, "<init>", "()V"⟩
abbrev cX5_manyFit : ByteArray := prog_7_method_2_code
def yX5_manyFit : MethodName := ⟨RX5, "manyFit", "(IIIII)I"⟩
abbrev cX5_fitBehind : ByteArray := prog_7_method_3_code
def yX5_fitBehind : MethodName := ⟨RX5, "fitBehind", "(IIII)I"⟩
def RX6 : String := "NineLies$Year"
def TX6 : u_T := fun k => match k with
  | 0 => ("NineLies$Year", "days", "LNineLies$Days;", true)
  | _ => ("NineLies$Year", "settings", "[I", true)
def tyX6 : Nat → FieldType := fun k => match k with
  | 0 => .object "NineLies$Days"
  | _ => .array .int
abbrev wsX60 : List Cond := u_ws RX6 TX6 2
theorem nmX6 : ∀ a, a < 2 → ∀ b, b < 2 → a ≠ b → (TX6 a).2.1 ≠ (TX6 b).2.1 := by decide +kernel
theorem tyX6_ok : ∀ k, k < 2 → parseFieldDescriptor (TX6 k).2.2.1 = some (tyX6 k) := by decide +kernel
abbrev cX6_init : ByteArray := prog_8_method_1_code
def yX6_init : MethodName := ⟨RX6, "<init>", "()V"⟩
abbrev cX6_tell : ByteArray := prog_8_method_2_code
def yX6_tell : MethodName := ⟨RX6, "tell", "(I)I"⟩
abbrev cX6_change : ByteArray := prog_8_method_3_code
def yX6_change : MethodName := ⟨RX6, "change", "(II)I"⟩
abbrev cX6_become : ByteArray := prog_8_method_4_code
def yX6_become : MethodName := ⟨RX6, "become", "(LNineLies$Year;)V"⟩
abbrev cX6_mayLie : ByteArray := prog_8_method_5_code
def yX6_mayLie : MethodName := ⟨RX6, "mayLie", "(II)Z"⟩
abbrev cX6_openBehind : ByteArray := prog_8_method_6_code
def yX6_openBehind : MethodName := ⟨RX6, "openBehind", "(I)I"⟩
abbrev cX6_firstWrong : ByteArray := prog_8_method_7_code
def yX6_firstWrong : MethodName := ⟨RX6, "firstWrong", "(I)I"⟩
abbrev cX6_leftOn : ByteArray := prog_8_method_8_code
def yX6_leftOn : MethodName := ⟨RX6, "leftOn", "(II)I"⟩
abbrev cX6_courtHas : ByteArray := prog_8_method_9_code
def yX6_courtHas : MethodName := ⟨RX6, "courtHas", "(II)I"⟩
abbrev cX6_gainOf : ByteArray := prog_8_method_10_code
def yX6_gainOf : MethodName := ⟨RX6, "gainOf", "(I)I"⟩
abbrev cX6_trustedBy : ByteArray := prog_8_method_11_code
def yX6_trustedBy : MethodName := ⟨RX6, "trustedBy", "(I)I"⟩
abbrev cX6_drawLots : ByteArray := prog_8_method_12_code
def yX6_drawLots : MethodName := ⟨RX6, "drawLots", "()I"⟩
def RX7 : String := "NineLies"
def TX7 : u_T := fun k => match k with
  | 0 => ("NineLies", "now", "LNineLies$Year;", true)
  | 1 => ("NineLies", "kept", "LNineLies$Year;", true)
  | 2 => ("NineLies", "hasImage", "Z", false)
  | 3 => ("NineLies", "tape", "LNineLies$Tape;", true)
  | 4 => ("NineLies", "read", "LNineLies$Days;", true)
  | 5 => ("NineLies", "harms", "LNineLies$Harm;", true)
  | 6 => ("NineLies", "guesses", "LNineLies$Words;", true)
  | _ => ("NineLies", "sheets", "[LNineLies$Sheet;", true)
def tyX7 : Nat → FieldType := fun k => match k with
  | 0 => .object "NineLies$Year"
  | 1 => .object "NineLies$Year"
  | 2 => .boolean
  | 3 => .object "NineLies$Tape"
  | 4 => .object "NineLies$Days"
  | 5 => .object "NineLies$Harm"
  | 6 => .object "NineLies$Words"
  | _ => .array (.object "NineLies$Sheet")
abbrev wsX70 : List Cond := u_ws RX7 TX7 8
theorem nmX7 : ∀ a, a < 8 → ∀ b, b < 8 → a ≠ b → (TX7 a).2.1 ≠ (TX7 b).2.1 := by decide +kernel
theorem tyX7_ok : ∀ k, k < 8 → parseFieldDescriptor (TX7 k).2.2.1 = some (tyX7 k) := by decide +kernel
abbrev cX7_init : ByteArray := prog_1_method_1_code
def yX7_init : MethodName := ⟨RX7, "<init>", "()V"⟩
abbrev cX7_day : ByteArray := prog_1_method_2_code
def yX7_day : MethodName := ⟨RX7, "day", "(III)I"⟩
abbrev cX7_alter : ByteArray := prog_1_method_3_code
def yX7_alter : MethodName := ⟨RX7, "alter", "(III)I"⟩
abbrev cX7_told : ByteArray := prog_1_method_4_code
def yX7_told : MethodName := ⟨RX7, "told", "(II)I"⟩
abbrev cX7_strike : ByteArray := prog_1_method_5_code
def yX7_strike : MethodName := ⟨RX7, "strike", "()I"⟩
abbrev cX7_set : ByteArray := prog_1_method_6_code
def yX7_set : MethodName := ⟨RX7, "set", "(II)I"⟩
abbrev cX7_type : ByteArray := prog_1_method_7_code
def yX7_type : MethodName := ⟨RX7, "type", "(JI)I"⟩
abbrev cX7_year : ByteArray := prog_1_method_8_code
def yX7_year : MethodName := ⟨RX7, "year", "()I"⟩
abbrev cX7_count : ByteArray := prog_1_method_9_code
def yX7_count : MethodName := ⟨RX7, "count", "(I)I"⟩
abbrev cX7_may : ByteArray := prog_1_method_10_code
def yX7_may : MethodName := ⟨RX7, "may", "(I)I"⟩
abbrev cX7_lawful : ByteArray := prog_1_method_11_code
def yX7_lawful : MethodName := ⟨RX7, "lawful", "(I)I"⟩
abbrev cX7_wrong : ByteArray := prog_1_method_12_code
def yX7_wrong : MethodName := ⟨RX7, "wrong", "(I)I"⟩
abbrev cX7_gain : ByteArray := prog_1_method_13_code
def yX7_gain : MethodName := ⟨RX7, "gain", "(I)I"⟩
abbrev cX7_trusted : ByteArray := prog_1_method_14_code
def yX7_trusted : MethodName := ⟨RX7, "trusted", "(I)I"⟩
abbrev cX7_harm : ByteArray := prog_1_method_15_code
def yX7_harm : MethodName := ⟨RX7, "harm", "()I"⟩
abbrev cX7_worst : ByteArray := prog_1_method_16_code
def yX7_worst : MethodName := ⟨RX7, "worst", "()I"⟩
abbrev cX7_best : ByteArray := prog_1_method_17_code
def yX7_best : MethodName := ⟨RX7, "best", "()I"⟩
abbrev cX7_price : ByteArray := prog_1_method_18_code
def yX7_price : MethodName := ⟨RX7, "price", "()I"⟩
abbrev cX7_under : ByteArray := prog_1_method_19_code
def yX7_under : MethodName := ⟨RX7, "under", "(I)I"⟩
abbrev cX7_sure : ByteArray := prog_1_method_20_code
def yX7_sure : MethodName := ⟨RX7, "sure", "(IIIII)I"⟩
abbrev cX7_bet : ByteArray := prog_1_method_21_code
def yX7_bet : MethodName := ⟨RX7, "bet", "(III)I"⟩
abbrev cX7_sets : ByteArray := prog_1_method_22_code
def yX7_sets : MethodName := ⟨RX7, "sets", "(IIII)I"⟩
abbrev cX7_surely : ByteArray := prog_1_method_23_code
def yX7_surely : MethodName := ⟨RX7, "surely", "(IIIII)I"⟩
abbrev cX7_lots : ByteArray := prog_1_method_24_code
def yX7_lots : MethodName := ⟨RX7, "lots", "()I"⟩
abbrev cX7_seed : ByteArray := prog_1_method_25_code
def yX7_seed : MethodName := ⟨RX7, "seed", "(I)I"⟩
abbrev cX7_image : ByteArray := prog_1_method_26_code
def yX7_image : MethodName := ⟨RX7, "image", "()I"⟩
abbrev cX7_restore : ByteArray := prog_1_method_27_code
def yX7_restore : MethodName := ⟨RX7, "restore", "()I"⟩
abbrev cX7_judged : ByteArray := prog_1_method_28_code
def yX7_judged : MethodName := ⟨RX7, "judged", "(IIII)I"⟩
abbrev cX7_film : ByteArray := prog_1_method_29_code
def yX7_film : MethodName := ⟨RX7, "film", "(IIII)I"⟩
abbrev cX7_sheet : ByteArray := prog_1_method_30_code
def yX7_sheet : MethodName := ⟨RX7, "sheet", "(III)I"⟩
abbrev cX7_drop : ByteArray := prog_1_method_31_code
def yX7_drop : MethodName := ⟨RX7, "drop", "(I)I"⟩
abbrev cX7_item : ByteArray := prog_1_method_32_code
def yX7_item : MethodName := ⟨RX7, "item", "(IIII)I"⟩
abbrev cX7_copy : ByteArray := prog_1_method_33_code
def yX7_copy : MethodName := ⟨RX7, "copy", "(IIIII)I"⟩
abbrev cX7_findSheet : ByteArray := prog_1_method_34_code
def yX7_findSheet : MethodName := ⟨RX7, "findSheet", "(I)LNineLies$Sheet;"⟩
abbrev cX7_refusalOf : ByteArray := prog_1_method_35_code
def yX7_refusalOf : MethodName := ⟨RX7, "refusalOf", "(I)I"⟩
abbrev cX7_harmBy : ByteArray := prog_1_method_36_code
def yX7_harmBy : MethodName := ⟨RX7, "harmBy", "(III)I"⟩
abbrev cX7_isWithin : ByteArray := prog_1_method_37_code
def yX7_isWithin : MethodName := ⟨RX7, "isWithin", "(III)Z"⟩
abbrev cX7_isLane : ByteArray := prog_1_method_38_code
def yX7_isLane : MethodName := ⟨RX7, "isLane", "(I)Z"⟩
abbrev cX7_isThing : ByteArray := prog_1_method_39_code
def yX7_isThing : MethodName := ⟨RX7, "isThing", "(II)Z"⟩
abbrev cX7_isSetting : ByteArray := prog_1_method_40_code
def yX7_isSetting : MethodName := ⟨RX7, "isSetting", "(II)Z"⟩
abbrev cX7_areWords : ByteArray := prog_1_method_41_code
def yX7_areWords : MethodName := ⟨RX7, "areWords", "(III)Z"⟩
abbrev cX7_areTextBytes : ByteArray := prog_1_method_42_code
def yX7_areTextBytes : MethodName := ⟨RX7, "areTextBytes", "(JI)Z"⟩
abbrev cX7_byteFromLowest : ByteArray := prog_1_method_43_code
def yX7_byteFromLowest : MethodName := ⟨RX7, "byteFromLowest", "(JI)I"⟩
abbrev cX7_holds : ByteArray := prog_1_method_44_code
def yX7_holds : MethodName := ⟨RX7, "holds", "(II)Z"⟩
abbrev cX7_at : ByteArray := prog_1_method_45_code
def yX7_at : MethodName := ⟨RX7, "at", "([II)I"⟩
abbrev cX7_put : ByteArray := prog_1_method_46_code
def yX7_put : MethodName := ⟨RX7, "put", "([III)I"⟩
abbrev cX7_greatestDivisor : ByteArray := prog_1_method_47_code
def yX7_greatestDivisor : MethodName := ⟨RX7, "greatestDivisor", "(II)I"⟩
abbrev cX7_leastSureStake : ByteArray := prog_1_method_48_code
def yX7_leastSureStake : MethodName := ⟨RX7, "leastSureStake", "(III)I"⟩
abbrev cX7_isOpen : ByteArray := prog_1_method_49_code
def yX7_isOpen : MethodName := ⟨RX7, "isOpen", "(II)Z"⟩
abbrev cX7_openAgain : ByteArray := prog_1_method_50_code
def yX7_openAgain : MethodName := ⟨RX7, "openAgain", "(II)I"⟩
def RX8 : String := "NineLiesModel"
def TX8 : u_T := fun k => match k with
  | 0 => ("NineLiesModel", "now", "[I", true)
  | 1 => ("NineLiesModel", "then", "[I", true)
  | 2 => ("NineLiesModel", "isKept", "Z", false)
  | 3 => ("NineLiesModel", "tape", "[I", true)
  | 4 => ("NineLiesModel", "taped", "I", false)
  | 5 => ("NineLiesModel", "sizes", "[I", true)
  | 6 => ("NineLiesModel", "lanes", "[I", true)
  | 7 => ("NineLiesModel", "items", "[I", true)
  | 8 => ("NineLiesModel", "at", "I", false)
  | 9 => ("NineLiesModel", "size", "I", false)
  | 10 => ("NineLiesModel", "read", "I", false)
  | 11 => ("NineLiesModel", "days", "[I", true)
  | 12 => ("NineLiesModel", "least", "[I", true)
  | 13 => ("NineLiesModel", "ways", "[I", true)
  | _ => ("NineLiesModel", "next", "[I", true)
def tyX8 : Nat → FieldType := fun k => match k with
  | 0 => .array .int
  | 1 => .array .int
  | 2 => .boolean
  | 3 => .array .int
  | 4 => .int
  | 5 => .array .int
  | 6 => .array .int
  | 7 => .array .int
  | 8 => .int
  | 9 => .int
  | 10 => .int
  | 11 => .array .int
  | 12 => .array .int
  | 13 => .array .int
  | _ => .array .int
abbrev wsX80 : List Cond := u_ws RX8 TX8 15
theorem nmX8 : ∀ a, a < 15 → ∀ b, b < 15 → a ≠ b → (TX8 a).2.1 ≠ (TX8 b).2.1 := by decide +kernel
theorem tyX8_ok : ∀ k, k < 15 → parseFieldDescriptor (TX8 k).2.2.1 = some (tyX8 k) := by decide +kernel
abbrev cX8_init : ByteArray := prog_10_method_1_code
def yX8_init : MethodName := ⟨RX8, "<init>", "()V"⟩
abbrev cX8_in : ByteArray := prog_10_method_3_code
def yX8_in : MethodName := ⟨RX8, "in", "(JJJ)Z"⟩
abbrev cX8_has : ByteArray := prog_10_method_4_code
def yX8_has : MethodName := ⟨RX8, "has", "(II)Z"⟩
abbrev cX8_changed : ByteArray := prog_10_method_6_code
def yX8_changed : MethodName := ⟨RX8, "changed", "(II)I"⟩
abbrev cX8_isDay : ByteArray := prog_10_method_7_code
def yX8_isDay : MethodName := ⟨RX8, "isDay", "(I)Z"⟩
abbrev cX8_isSet : ByteArray := prog_10_method_8_code
def yX8_isSet : MethodName := ⟨RX8, "isSet", "(I)Z"⟩
abbrev cX8_day : ByteArray := prog_10_method_9_code
def yX8_day : MethodName := ⟨RX8, "day", "(III)I"⟩
abbrev cX8_isOf : ByteArray := prog_10_method_10_code
def yX8_isOf : MethodName := ⟨RX8, "isOf", "(II)Z"⟩
abbrev cX8_alter : ByteArray := prog_10_method_11_code
def yX8_alter : MethodName := ⟨RX8, "alter", "(III)I"⟩
abbrev cX8_told : ByteArray := prog_10_method_12_code
def yX8_told : MethodName := ⟨RX8, "told", "(II)I"⟩
abbrev cX8_strike : ByteArray := prog_10_method_13_code
def yX8_strike : MethodName := ⟨RX8, "strike", "()I"⟩
abbrev cX8_set : ByteArray := prog_10_method_14_code
def yX8_set : MethodName := ⟨RX8, "set", "(II)I"⟩
abbrev cX8_type : ByteArray := prog_10_method_15_code
def yX8_type : MethodName := ⟨RX8, "type", "(JI)I"⟩
abbrev cX8_look : ByteArray := prog_10_method_16_code
def yX8_look : MethodName := ⟨RX8, "look", "()I"⟩
abbrev cX8_takes : ByteArray := prog_10_method_17_code
def yX8_takes : MethodName := ⟨RX8, "takes", "(I)I"⟩
abbrev cX8_takesDay : ByteArray := prog_10_method_18_code
def yX8_takesDay : MethodName := ⟨RX8, "takesDay", "()I"⟩
abbrev cX8_year : ByteArray := prog_10_method_19_code
def yX8_year : MethodName := ⟨RX8, "year", "()I"⟩
abbrev cX8_count : ByteArray := prog_10_method_20_code
def yX8_count : MethodName := ⟨RX8, "count", "(I)I"⟩
abbrev cX8_lets : ByteArray := prog_10_method_21_code
def yX8_lets : MethodName := ⟨RX8, "lets", "(III)Z"⟩
abbrev cX8_minds : ByteArray := prog_10_method_22_code
def yX8_minds : MethodName := ⟨RX8, "minds", "(IIZ)I"⟩
abbrev cX8_mindedOn : ByteArray := prog_10_method_23_code
def yX8_mindedOn : MethodName := ⟨RX8, "mindedOn", "(II)I"⟩
abbrev cX8_may : ByteArray := prog_10_method_24_code
def yX8_may : MethodName := ⟨RX8, "may", "(I)I"⟩
abbrev cX8_wrongIn : ByteArray := prog_10_method_25_code
def yX8_wrongIn : MethodName := ⟨RX8, "wrongIn", "(I)I"⟩
abbrev cX8_lawful : ByteArray := prog_10_method_26_code
def yX8_lawful : MethodName := ⟨RX8, "lawful", "(I)I"⟩
abbrev cX8_wrong : ByteArray := prog_10_method_27_code
def yX8_wrong : MethodName := ⟨RX8, "wrong", "(I)I"⟩
abbrev cX8_trusts : ByteArray := prog_10_method_28_code
def yX8_trusts : MethodName := ⟨RX8, "trusts", "(II)Z"⟩
abbrev cX8_brings : ByteArray := prog_10_method_29_code
def yX8_brings : MethodName := ⟨RX8, "brings", "(IIZ)I"⟩
abbrev cX8_gainOf : ByteArray := prog_10_method_30_code
def yX8_gainOf : MethodName := ⟨RX8, "gainOf", "(I)I"⟩
abbrev cX8_gain : ByteArray := prog_10_method_31_code
def yX8_gain : MethodName := ⟨RX8, "gain", "(I)I"⟩
abbrev cX8_trusted : ByteArray := prog_10_method_32_code
def yX8_trusted : MethodName := ⟨RX8, "trusted", "(I)I"⟩
abbrev cX8_place : ByteArray := prog_10_method_33_code
def yX8_place : MethodName := ⟨RX8, "place", "(III)I"⟩
abbrev cX8_from : ByteArray := prog_10_method_34_code
def yX8_from : MethodName := ⟨RX8, "from", "(IIIZ)I"⟩
abbrev cX8_mayLie : ByteArray := prog_10_method_35_code
def yX8_mayLie : MethodName := ⟨RX8, "mayLie", "(III)Z"⟩
abbrev cX8_harmNow : ByteArray := prog_10_method_36_code
def yX8_harmNow : MethodName := ⟨RX8, "harmNow", "()I"⟩
abbrev cX8_harm : ByteArray := prog_10_method_37_code
def yX8_harm : MethodName := ⟨RX8, "harm", "()I"⟩
abbrev cX8_worst : ByteArray := prog_10_method_38_code
def yX8_worst : MethodName := ⟨RX8, "worst", "()I"⟩
abbrev cX8_best : ByteArray := prog_10_method_39_code
def yX8_best : MethodName := ⟨RX8, "best", "()I"⟩
abbrev cX8_price : ByteArray := prog_10_method_40_code
def yX8_price : MethodName := ⟨RX8, "price", "()I"⟩
abbrev cX8_under : ByteArray := prog_10_method_41_code
def yX8_under : MethodName := ⟨RX8, "under", "(I)I"⟩
abbrev cX8_sure : ByteArray := prog_10_method_42_code
def yX8_sure : MethodName := ⟨RX8, "sure", "(IIIII)I"⟩
abbrev cX8_bet : ByteArray := prog_10_method_43_code
def yX8_bet : MethodName := ⟨RX8, "bet", "(III)I"⟩
abbrev cX8_setsOf : ByteArray := prog_10_method_44_code
def yX8_setsOf : MethodName := ⟨RX8, "setsOf", "(IIII)I"⟩
abbrev cX8_areWords : ByteArray := prog_10_method_45_code
def yX8_areWords : MethodName := ⟨RX8, "areWords", "(IIII)Z"⟩
abbrev cX8_sets : ByteArray := prog_10_method_46_code
def yX8_sets : MethodName := ⟨RX8, "sets", "(IIII)I"⟩
abbrev cX8_surely : ByteArray := prog_10_method_47_code
def yX8_surely : MethodName := ⟨RX8, "surely", "(IIIII)I"⟩
abbrev cX8_lots : ByteArray := prog_10_method_48_code
def yX8_lots : MethodName := ⟨RX8, "lots", "()I"⟩
abbrev cX8_seed : ByteArray := prog_10_method_49_code
def yX8_seed : MethodName := ⟨RX8, "seed", "(I)I"⟩
abbrev cX8_image : ByteArray := prog_10_method_50_code
def yX8_image : MethodName := ⟨RX8, "image", "()I"⟩
abbrev cX8_restore : ByteArray := prog_10_method_51_code
def yX8_restore : MethodName := ⟨RX8, "restore", "()I"⟩
abbrev cX8_isSheet : ByteArray := prog_10_method_52_code
def yX8_isSheet : MethodName := ⟨RX8, "isSheet", "(II)Z"⟩
abbrev cX8_found : ByteArray := prog_10_method_53_code
def yX8_found : MethodName := ⟨RX8, "found", "(IIII)I"⟩
abbrev cX8_judged : ByteArray := prog_10_method_54_code
def yX8_judged : MethodName := ⟨RX8, "judged", "(IIII)I"⟩
abbrev cX8_film : ByteArray := prog_10_method_55_code
def yX8_film : MethodName := ⟨RX8, "film", "(IIII)I"⟩
abbrev cX8_sheet : ByteArray := prog_10_method_56_code
def yX8_sheet : MethodName := ⟨RX8, "sheet", "(III)I"⟩
abbrev cX8_drop : ByteArray := prog_10_method_57_code
def yX8_drop : MethodName := ⟨RX8, "drop", "(I)I"⟩
abbrev cX8_item : ByteArray := prog_10_method_58_code
def yX8_item : MethodName := ⟨RX8, "item", "(IIII)I"⟩
abbrev cX8_copy : ByteArray := prog_10_method_59_code
def yX8_copy : MethodName := ⟨RX8, "copy", "(IIIII)I"⟩
def RJ6 : String := "java/lang/Integer"
def TJ6 : u_T := fun k => match k with
  | _ => ("", "", "", false)
def tyJ6 : Nat → FieldType := fun k => match k with
  | _ => .int
theorem nmJ6 : ∀ a, a < 0 → ∀ b, b < 0 → a ≠ b → (TJ6 a).2.1 ≠ (TJ6 b).2.1 := by decide +kernel
theorem tyJ6_ok : ∀ k, k < 0 → parseFieldDescriptor (TJ6 k).2.2.1 = some (tyJ6 k) := by decide +kernel
abbrev cJ6_bitCount_0f7a4 : ByteArray := prog_11_method_49_code
def yJ6_bitCount_0f7a4 : MethodName := ⟨RJ6, "bitCount", "(I)I"⟩
def RJ9 : String := "java/lang/Math"
def TJ9 : u_T := fun k => match k with
  | _ => ("", "", "", false)
def tyJ9 : Nat → FieldType := fun k => match k with
  | _ => .int
theorem nmJ9 : ∀ a, a < 0 → ∀ b, b < 0 → a ≠ b → (TJ9 a).2.1 ≠ (TJ9 b).2.1 := by decide +kernel
theorem tyJ9_ok : ∀ k, k < 0 → parseFieldDescriptor (TJ9 k).2.2.1 = some (tyJ9 k) := by decide +kernel
abbrev cJ9_max_7cf53 : ByteArray := prog_12_method_65_code
def yJ9_max_7cf53 : MethodName := ⟨RJ9, "max", "(II)I"⟩
abbrev cJ9_min_7cf53 : ByteArray := prog_12_method_69_code
def yJ9_min_7cf53 : MethodName := ⟨RJ9, "min", "(II)I"⟩
def RJ10 : String := "java/lang/System"
def TJ10 : u_T := fun k => match k with
  | _ => ("", "", "", false)
def tyJ10 : Nat → FieldType := fun k => match k with
  | _ => .int
theorem nmJ10 : ∀ a, a < 0 → ∀ b, b < 0 → a ≠ b → (TJ10 a).2.1 ≠ (TJ10 b).2.1 := by decide +kernel
theorem tyJ10_ok : ∀ k, k < 0 → parseFieldDescriptor (TJ10 k).2.2.1 = some (tyJ10 k) := by decide +kernel
def RL : String := "NineLiesLaw"
abbrev cL_law : ByteArray := code
def yL_law : MethodName := ⟨RL, "law", "([I)Z"⟩
abbrev vwCl : List vw_C := [(RX0, TX0, 2), (RX1, TX1, 1), (RX2, TX2, 3), (RX3, TX3, 1), (RX4, TX4, 3), (RX5, TX5, 1), (RX6, TX6, 2), (RX7, TX7, 8), (RX8, TX8, 15)]
-- ===== where the words stand in lw_tbl =====
theorem sp_m {w : Cond} {i : Nat} (h : lw_tbl[i]? = some w) : w ∈ lw_tbl := List.mem_of_getElem? h
theorem sq0 {w : Cond} {i : Nat} (h : (k2_sels lw_privs)[i]? = some w) : w ∈ lw_tbl := List.mem_append_left _ (List.mem_of_getElem? h)
theorem sq1 {w : Cond} {i : Nat} (h : tables_1_1[i]? = some w) : w ∈ lw_tbl := List.mem_append_right _ (List.mem_append_left _ (List.mem_of_getElem? h))
theorem sq2 {w : Cond} {i : Nat} (h : tables_1_2[i]? = some w) : w ∈ lw_tbl := List.mem_append_right _ (List.mem_append_right _ (List.mem_append_left _ (List.mem_of_getElem? h)))
theorem sq3 {w : Cond} {i : Nat} (h : tables_1_3[i]? = some w) : w ∈ lw_tbl := List.mem_append_right _ (List.mem_append_right _ (List.mem_append_right _ (List.mem_append_left _ (List.mem_of_getElem? h))))
theorem sq4 {w : Cond} {i : Nat} (h : tables_1_4[i]? = some w) : w ∈ lw_tbl := List.mem_append_right _ (List.mem_append_right _ (List.mem_append_right _ (List.mem_append_right _ (List.mem_of_getElem? h))))
set_option maxRecDepth 20000 in
theorem inX0 : ∀ w ∈ u_ws RX0 TX0 2, w ∈ lw_tbl := by
  show ∀ w ∈ [u_lay RX0 TX0 0, u_lay RX0 TX0 1], w ∈ lw_tbl
  exact List.forall_mem_cons.mpr ⟨sq1 (i := 39) rfl, List.forall_mem_cons.mpr ⟨sq1 (i := 41) rfl, fun _ h => absurd h List.not_mem_nil⟩⟩
set_option maxRecDepth 20000 in
theorem inX1 : ∀ w ∈ u_ws RX1 TX1 1, w ∈ lw_tbl := by
  show ∀ w ∈ [u_lay RX1 TX1 0], w ∈ lw_tbl
  exact List.forall_mem_cons.mpr ⟨sq1 (i := 88) rfl, fun _ h => absurd h List.not_mem_nil⟩
set_option maxRecDepth 20000 in
theorem inX2 : ∀ w ∈ u_ws RX2 TX2 3, w ∈ lw_tbl := by
  show ∀ w ∈ [u_lay RX2 TX2 0, u_lay RX2 TX2 1, u_lay RX2 TX2 2], w ∈ lw_tbl
  exact List.forall_mem_cons.mpr ⟨sq1 (i := 115) rfl, List.forall_mem_cons.mpr ⟨sq1 (i := 117) rfl, List.forall_mem_cons.mpr ⟨sq1 (i := 119) rfl, fun _ h => absurd h List.not_mem_nil⟩⟩⟩
set_option maxRecDepth 20000 in
theorem inX3 : ∀ w ∈ u_ws RX3 TX3 1, w ∈ lw_tbl := by
  show ∀ w ∈ [u_lay RX3 TX3 0], w ∈ lw_tbl
  exact List.forall_mem_cons.mpr ⟨sq1 (i := 84) rfl, fun _ h => absurd h List.not_mem_nil⟩
set_option maxRecDepth 20000 in
theorem inX4 : ∀ w ∈ u_ws RX4 TX4 3, w ∈ lw_tbl := by
  show ∀ w ∈ [u_lay RX4 TX4 0, u_lay RX4 TX4 1, u_lay RX4 TX4 2], w ∈ lw_tbl
  exact List.forall_mem_cons.mpr ⟨sq1 (i := 62) rfl, List.forall_mem_cons.mpr ⟨sq1 (i := 64) rfl, List.forall_mem_cons.mpr ⟨sq1 (i := 66) rfl, fun _ h => absurd h List.not_mem_nil⟩⟩⟩
set_option maxRecDepth 20000 in
theorem inX5 : ∀ w ∈ u_ws RX5 TX5 1, w ∈ lw_tbl := by
  show ∀ w ∈ [u_lay RX5 TX5 0], w ∈ lw_tbl
  exact List.forall_mem_cons.mpr ⟨sq1 (i := 100) rfl, fun _ h => absurd h List.not_mem_nil⟩
set_option maxRecDepth 20000 in
theorem inX6 : ∀ w ∈ u_ws RX6 TX6 2, w ∈ lw_tbl := by
  show ∀ w ∈ [u_lay RX6 TX6 0, u_lay RX6 TX6 1], w ∈ lw_tbl
  exact List.forall_mem_cons.mpr ⟨sq1 (i := 48) rfl, List.forall_mem_cons.mpr ⟨sq1 (i := 50) rfl, fun _ h => absurd h List.not_mem_nil⟩⟩
set_option maxRecDepth 20000 in
theorem inX7 : ∀ w ∈ u_ws RX7 TX7 8, w ∈ lw_tbl := by
  show ∀ w ∈ [u_lay RX7 TX7 0, u_lay RX7 TX7 1, u_lay RX7 TX7 2, u_lay RX7 TX7 3, u_lay RX7 TX7 4, u_lay RX7 TX7 5, u_lay RX7 TX7 6, u_lay RX7 TX7 7], w ∈ lw_tbl
  exact List.forall_mem_cons.mpr ⟨sq1 (i := 130) rfl, List.forall_mem_cons.mpr ⟨sq1 (i := 132) rfl, List.forall_mem_cons.mpr ⟨sq1 (i := 134) rfl, List.forall_mem_cons.mpr ⟨sq1 (i := 136) rfl, List.forall_mem_cons.mpr ⟨sq1 (i := 138) rfl, List.forall_mem_cons.mpr ⟨sq1 (i := 140) rfl, List.forall_mem_cons.mpr ⟨sq1 (i := 142) rfl, List.forall_mem_cons.mpr ⟨sq1 (i := 144) rfl, fun _ h => absurd h List.not_mem_nil⟩⟩⟩⟩⟩⟩⟩⟩
set_option maxRecDepth 20000 in
theorem inX8 : ∀ w ∈ u_ws RX8 TX8 15, w ∈ lw_tbl := by
  show ∀ w ∈ [u_lay RX8 TX8 0, u_lay RX8 TX8 1, u_lay RX8 TX8 2, u_lay RX8 TX8 3, u_lay RX8 TX8 4, u_lay RX8 TX8 5, u_lay RX8 TX8 6, u_lay RX8 TX8 7, u_lay RX8 TX8 8, u_lay RX8 TX8 9, u_lay RX8 TX8 10, u_lay RX8 TX8 11, u_lay RX8 TX8 12, u_lay RX8 TX8 13, u_lay RX8 TX8 14], w ∈ lw_tbl
  exact List.forall_mem_cons.mpr ⟨sq3 (i := 124) rfl, List.forall_mem_cons.mpr ⟨sq3 (i := 126) rfl, List.forall_mem_cons.mpr ⟨sq3 (i := 128) rfl, List.forall_mem_cons.mpr ⟨sq3 (i := 130) rfl, List.forall_mem_cons.mpr ⟨sq3 (i := 132) rfl, List.forall_mem_cons.mpr ⟨sq3 (i := 134) rfl, List.forall_mem_cons.mpr ⟨sq3 (i := 136) rfl, List.forall_mem_cons.mpr ⟨sq3 (i := 138) rfl, List.forall_mem_cons.mpr ⟨sq3 (i := 140) rfl, List.forall_mem_cons.mpr ⟨sq3 (i := 142) rfl, List.forall_mem_cons.mpr ⟨sq3 (i := 144) rfl, List.forall_mem_cons.mpr ⟨sq3 (i := 146) rfl, List.forall_mem_cons.mpr ⟨sq3 (i := 148) rfl, List.forall_mem_cons.mpr ⟨sq3 (i := 150) rfl, List.forall_mem_cons.mpr ⟨sq3 (i := 152) rfl, fun _ h => absurd h List.not_mem_nil⟩⟩⟩⟩⟩⟩⟩⟩⟩⟩⟩⟩⟩⟩⟩
/-- own's entry idx names field k of class ci -/
def sm_F (own : String) (idx ci k : Nat) : Prop := ∃ (C : String) (T : u_T) (N : Nat), vwCl[ci]? = some (C, T, N) ∧ k < N ∧ (T k).1 = C ∧ (Cond.fieldLink own idx C (T k).2.1 (T k).2.2.1 ∈ lw_tbl ∨ Cond.fieldLinkNest own idx C (T k).2.1 (T k).2.2.1 "NineLies" ∈ lw_tbl)
/-- .. and it isn't final, of a type of that descriptor -/
def sm_FP (own : String) (idx ci k : Nat) (d : String) : Prop := sm_F own idx ci k ∧ ∃ (C : String) (T : u_T) (N : Nat), vwCl[ci]? = some (C, T, N) ∧ (T k).2.2.2 = false ∧ (T k).2.2.1 = d
set_option maxRecDepth 20000 in
theorem fkX0_9 : sm_F RX0 9 0 0 := ⟨RX0, TX0, 2, rfl, by decide, rfl, Or.inl (sq1 (i := 33) rfl)⟩
set_option maxRecDepth 20000 in
theorem fkX0_15 : sm_F RX0 15 0 1 := ⟨RX0, TX0, 2, rfl, by decide, rfl, Or.inl (sq1 (i := 34) rfl)⟩
theorem fpX0_15 : sm_FP RX0 15 0 1 "I" := ⟨fkX0_15, RX0, TX0, 2, rfl, rfl, rfl⟩
set_option maxRecDepth 20000 in
theorem fkX1_18 : sm_F RX1 18 0 1 := ⟨RX0, TX0, 2, rfl, by decide, rfl, Or.inr (sq1 (i := 35) rfl)⟩
theorem fpX1_18 : sm_FP RX1 18 0 1 "I" := ⟨fkX1_18, RX0, TX0, 2, rfl, rfl, rfl⟩
set_option maxRecDepth 20000 in
theorem fkX4_43 : sm_F RX4 43 0 1 := ⟨RX0, TX0, 2, rfl, by decide, rfl, Or.inr (sq1 (i := 36) rfl)⟩
theorem fpX4_43 : sm_FP RX4 43 0 1 "I" := ⟨fkX4_43, RX0, TX0, 2, rfl, rfl, rfl⟩
set_option maxRecDepth 20000 in
theorem fkX6_52 : sm_F RX6 52 0 1 := ⟨RX0, TX0, 2, rfl, by decide, rfl, Or.inr (sq1 (i := 37) rfl)⟩
theorem fpX6_52 : sm_FP RX6 52 0 1 "I" := ⟨fkX6_52, RX0, TX0, 2, rfl, rfl, rfl⟩
set_option maxRecDepth 20000 in
theorem fkX7_112 : sm_F RX7 112 0 1 := ⟨RX0, TX0, 2, rfl, by decide, rfl, Or.inr (sq1 (i := 38) rfl)⟩
theorem fpX7_112 : sm_FP RX7 112 0 1 "I" := ⟨fkX7_112, RX0, TX0, 2, rfl, rfl, rfl⟩
set_option maxRecDepth 20000 in
theorem fkX6_12 : sm_F RX6 12 6 0 := ⟨RX6, TX6, 2, rfl, by decide, rfl, Or.inl (sq1 (i := 45) rfl)⟩
set_option maxRecDepth 20000 in
theorem fkX7_62 : sm_F RX7 62 6 0 := ⟨RX6, TX6, 2, rfl, by decide, rfl, Or.inr (sq1 (i := 46) rfl)⟩
set_option maxRecDepth 20000 in
theorem fkX6_18 : sm_F RX6 18 6 1 := ⟨RX6, TX6, 2, rfl, by decide, rfl, Or.inl (sq1 (i := 47) rfl)⟩
set_option maxRecDepth 20000 in
theorem fkX4_9 : sm_F RX4 9 4 0 := ⟨RX4, TX4, 3, rfl, by decide, rfl, Or.inl (sq1 (i := 59) rfl)⟩
set_option maxRecDepth 20000 in
theorem fkX4_15 : sm_F RX4 15 4 1 := ⟨RX4, TX4, 3, rfl, by decide, rfl, Or.inl (sq1 (i := 60) rfl)⟩
theorem fpX4_15 : sm_FP RX4 15 4 1 "I" := ⟨fkX4_15, RX4, TX4, 3, rfl, rfl, rfl⟩
set_option maxRecDepth 20000 in
theorem fkX4_19 : sm_F RX4 19 4 2 := ⟨RX4, TX4, 3, rfl, by decide, rfl, Or.inl (sq1 (i := 61) rfl)⟩
theorem fpX4_19 : sm_FP RX4 19 4 2 "I" := ⟨fkX4_19, RX4, TX4, 3, rfl, rfl, rfl⟩
set_option maxRecDepth 20000 in
theorem fkX3_9 : sm_F RX3 9 3 0 := ⟨RX3, TX3, 1, rfl, by decide, rfl, Or.inl (sq1 (i := 83) rfl)⟩
set_option maxRecDepth 20000 in
theorem fkX1_12 : sm_F RX1 12 1 0 := ⟨RX1, TX1, 1, rfl, by decide, rfl, Or.inl (sq1 (i := 87) rfl)⟩
set_option maxRecDepth 20000 in
theorem fkX5_12 : sm_F RX5 12 5 0 := ⟨RX5, TX5, 1, rfl, by decide, rfl, Or.inl (sq1 (i := 99) rfl)⟩
set_option maxRecDepth 20000 in
theorem fkX2_9 : sm_F RX2 9 2 0 := ⟨RX2, TX2, 3, rfl, by decide, rfl, Or.inl (sq1 (i := 110) rfl)⟩
set_option maxRecDepth 20000 in
theorem fkX7_206 : sm_F RX7 206 2 0 := ⟨RX2, TX2, 3, rfl, by decide, rfl, Or.inr (sq1 (i := 111) rfl)⟩
set_option maxRecDepth 20000 in
theorem fkX2_15 : sm_F RX2 15 2 1 := ⟨RX2, TX2, 3, rfl, by decide, rfl, Or.inl (sq1 (i := 112) rfl)⟩
theorem fpX2_15 : sm_FP RX2 15 2 1 "I" := ⟨fkX2_15, RX2, TX2, 3, rfl, rfl, rfl⟩
set_option maxRecDepth 20000 in
theorem fkX7_200 : sm_F RX7 200 2 1 := ⟨RX2, TX2, 3, rfl, by decide, rfl, Or.inr (sq1 (i := 113) rfl)⟩
theorem fpX7_200 : sm_FP RX7 200 2 1 "I" := ⟨fkX7_200, RX2, TX2, 3, rfl, rfl, rfl⟩
set_option maxRecDepth 20000 in
theorem fkX2_19 : sm_F RX2 19 2 2 := ⟨RX2, TX2, 3, rfl, by decide, rfl, Or.inl (sq1 (i := 114) rfl)⟩
theorem fpX2_19 : sm_FP RX2 19 2 2 "I" := ⟨fkX2_19, RX2, TX2, 3, rfl, rfl, rfl⟩
set_option maxRecDepth 20000 in
theorem fkX7_10 : sm_F RX7 10 7 0 := ⟨RX7, TX7, 8, rfl, by decide, rfl, Or.inl (sq1 (i := 122) rfl)⟩
set_option maxRecDepth 20000 in
theorem fkX7_16 : sm_F RX7 16 7 1 := ⟨RX7, TX7, 8, rfl, by decide, rfl, Or.inl (sq1 (i := 123) rfl)⟩
set_option maxRecDepth 20000 in
theorem fkX7_19 : sm_F RX7 19 7 2 := ⟨RX7, TX7, 8, rfl, by decide, rfl, Or.inl (sq1 (i := 124) rfl)⟩
theorem fpX7_19 : sm_FP RX7 19 7 2 "Z" := ⟨fkX7_19, RX7, TX7, 8, rfl, rfl, rfl⟩
set_option maxRecDepth 20000 in
theorem fkX7_26 : sm_F RX7 26 7 3 := ⟨RX7, TX7, 8, rfl, by decide, rfl, Or.inl (sq1 (i := 125) rfl)⟩
set_option maxRecDepth 20000 in
theorem fkX7_33 : sm_F RX7 33 7 4 := ⟨RX7, TX7, 8, rfl, by decide, rfl, Or.inl (sq1 (i := 126) rfl)⟩
set_option maxRecDepth 20000 in
theorem fkX7_40 : sm_F RX7 40 7 5 := ⟨RX7, TX7, 8, rfl, by decide, rfl, Or.inl (sq1 (i := 127) rfl)⟩
set_option maxRecDepth 20000 in
theorem fkX7_47 : sm_F RX7 47 7 6 := ⟨RX7, TX7, 8, rfl, by decide, rfl, Or.inl (sq1 (i := 128) rfl)⟩
set_option maxRecDepth 20000 in
theorem fkX7_53 : sm_F RX7 53 7 7 := ⟨RX7, TX7, 8, rfl, by decide, rfl, Or.inl (sq1 (i := 129) rfl)⟩
set_option maxRecDepth 20000 in
theorem fkX8_7 : sm_F RX8 7 8 0 := ⟨RX8, TX8, 15, rfl, by decide, rfl, Or.inl (sq3 (i := 109) rfl)⟩
set_option maxRecDepth 20000 in
theorem fkX8_13 : sm_F RX8 13 8 1 := ⟨RX8, TX8, 15, rfl, by decide, rfl, Or.inl (sq3 (i := 110) rfl)⟩
set_option maxRecDepth 20000 in
theorem fkX8_164 : sm_F RX8 164 8 2 := ⟨RX8, TX8, 15, rfl, by decide, rfl, Or.inl (sq3 (i := 111) rfl)⟩
theorem fpX8_164 : sm_FP RX8 164 8 2 "Z" := ⟨fkX8_164, RX8, TX8, 15, rfl, rfl, rfl⟩
set_option maxRecDepth 20000 in
theorem fkX8_16 : sm_F RX8 16 8 3 := ⟨RX8, TX8, 15, rfl, by decide, rfl, Or.inl (sq3 (i := 112) rfl)⟩
set_option maxRecDepth 20000 in
theorem fkX8_72 : sm_F RX8 72 8 4 := ⟨RX8, TX8, 15, rfl, by decide, rfl, Or.inl (sq3 (i := 113) rfl)⟩
theorem fpX8_72 : sm_FP RX8 72 8 4 "I" := ⟨fkX8_72, RX8, TX8, 15, rfl, rfl, rfl⟩
set_option maxRecDepth 20000 in
theorem fkX8_19 : sm_F RX8 19 8 5 := ⟨RX8, TX8, 15, rfl, by decide, rfl, Or.inl (sq3 (i := 114) rfl)⟩
set_option maxRecDepth 20000 in
theorem fkX8_22 : sm_F RX8 22 8 6 := ⟨RX8, TX8, 15, rfl, by decide, rfl, Or.inl (sq3 (i := 115) rfl)⟩
set_option maxRecDepth 20000 in
theorem fkX8_25 : sm_F RX8 25 8 7 := ⟨RX8, TX8, 15, rfl, by decide, rfl, Or.inl (sq3 (i := 116) rfl)⟩
set_option maxRecDepth 20000 in
theorem fkX8_76 : sm_F RX8 76 8 8 := ⟨RX8, TX8, 15, rfl, by decide, rfl, Or.inl (sq3 (i := 117) rfl)⟩
theorem fpX8_76 : sm_FP RX8 76 8 8 "I" := ⟨fkX8_76, RX8, TX8, 15, rfl, rfl, rfl⟩
set_option maxRecDepth 20000 in
theorem fkX8_79 : sm_F RX8 79 8 9 := ⟨RX8, TX8, 15, rfl, by decide, rfl, Or.inl (sq3 (i := 118) rfl)⟩
theorem fpX8_79 : sm_FP RX8 79 8 9 "I" := ⟨fkX8_79, RX8, TX8, 15, rfl, rfl, rfl⟩
set_option maxRecDepth 20000 in
theorem fkX8_90 : sm_F RX8 90 8 10 := ⟨RX8, TX8, 15, rfl, by decide, rfl, Or.inl (sq3 (i := 119) rfl)⟩
theorem fpX8_90 : sm_FP RX8 90 8 10 "I" := ⟨fkX8_90, RX8, TX8, 15, rfl, rfl, rfl⟩
set_option maxRecDepth 20000 in
theorem fkX8_28 : sm_F RX8 28 8 11 := ⟨RX8, TX8, 15, rfl, by decide, rfl, Or.inl (sq3 (i := 120) rfl)⟩
set_option maxRecDepth 20000 in
theorem fkX8_31 : sm_F RX8 31 8 12 := ⟨RX8, TX8, 15, rfl, by decide, rfl, Or.inl (sq3 (i := 121) rfl)⟩
set_option maxRecDepth 20000 in
theorem fkX8_34 : sm_F RX8 34 8 13 := ⟨RX8, TX8, 15, rfl, by decide, rfl, Or.inl (sq3 (i := 122) rfl)⟩
set_option maxRecDepth 20000 in
theorem fkX8_37 : sm_F RX8 37 8 14 := ⟨RX8, TX8, 15, rfl, by decide, rfl, Or.inl (sq3 (i := 123) rfl)⟩
/-- own's entry idx names method y -/
def sm_L (own : String) (idx : Nat) (y : MethodName) : Prop := Cond.methodLink own idx y ∈ lw_tbl ∨ Cond.methodLinkNest own idx y "NineLies" ∈ lw_tbl
set_option maxRecDepth 20000 in
theorem lkL_9 : sm_L RL 9 yX7_init := Or.inl (sq1 (i := 15) rfl)
set_option maxRecDepth 20000 in
theorem lkX7_9 : sm_L RX7 9 yX6_init := Or.inr (sq1 (i := 23) rfl)
set_option maxRecDepth 20000 in
theorem lkX6_11 : sm_L RX6 11 yX0_init := Or.inr (sq1 (i := 29) rfl)
set_option maxRecDepth 20000 in
theorem lkX7_25 : sm_L RX7 25 yX4_init := Or.inr (sq1 (i := 55) rfl)
set_option maxRecDepth 20000 in
theorem lkX7_32 : sm_L RX7 32 yX0_init := Or.inr (sq1 (i := 70) rfl)
set_option maxRecDepth 20000 in
theorem lkX7_39 : sm_L RX7 39 yX1_init := Or.inr (sq1 (i := 73) rfl)
set_option maxRecDepth 20000 in
theorem lkX1_11 : sm_L RX1 11 yX3_init := Or.inr (sq1 (i := 79) rfl)
set_option maxRecDepth 20000 in
theorem lkX7_46 : sm_L RX7 46 yX5_init := Or.inr (sq1 (i := 93) rfl)
set_option maxRecDepth 20000 in
theorem lkX5_11 : sm_L RX5 11 yX3_init := Or.inr (sq1 (i := 98) rfl)
set_option maxRecDepth 20000 in
theorem lkX7_57 : sm_L RX7 57 yX2_init := Or.inr (sq1 (i := 106) rfl)
set_option maxRecDepth 20000 in
theorem lkL_13 : sm_L RL 13 yX7_day := Or.inl (sq1 (i := 147) rfl)
set_option maxRecDepth 20000 in
theorem lkX7_58 : sm_L RX7 58 yX7_isThing := Or.inl (sq1 (i := 151) rfl)
set_option maxRecDepth 20000 in
theorem lkX7_76 : sm_L RX7 76 yX7_isWithin := Or.inl (sq1 (i := 154) rfl)
set_option maxRecDepth 20000 in
theorem lkX7_65 : sm_L RX7 65 yX0_add := Or.inl (sq1 (i := 157) rfl)
set_option maxRecDepth 20000 in
theorem lkX0_27 : sm_L RX0 27 yX0_isFull := Or.inl (sq1 (i := 161) rfl)
set_option maxRecDepth 20000 in
theorem lkX0_31 : sm_L RX0 31 yX0_change := Or.inl (sq1 (i := 165) rfl)
set_option maxRecDepth 20000 in
theorem lkX0_23 : sm_L RX0 23 yX7_put := Or.inr (sq1 (i := 169) rfl)
set_option maxRecDepth 20000 in
theorem lkX7_223 : sm_L RX7 223 yX7_at := Or.inl (sq1 (i := 172) rfl)
set_option maxRecDepth 20000 in
theorem lkL_18 : sm_L RL 18 yX7_alter := Or.inl (sq1 (i := 175) rfl)
set_option maxRecDepth 20000 in
theorem lkX7_69 : sm_L RX7 69 yX0_has := Or.inl (sq1 (i := 179) rfl)
set_option maxRecDepth 20000 in
theorem lkX7_73 : sm_L RX7 73 yX0_change := Or.inl (sq1 (i := 183) rfl)
set_option maxRecDepth 20000 in
theorem lkL_22 : sm_L RL 22 yX7_told := Or.inl (sq1 (i := 184) rfl)
set_option maxRecDepth 20000 in
theorem lkX7_80 : sm_L RX7 80 yX0_tell := Or.inl (sq1 (i := 188) rfl)
set_option maxRecDepth 20000 in
theorem lkX0_19 : sm_L RX0 19 yX7_at := Or.inr (sq1 (i := 192) rfl)
set_option maxRecDepth 20000 in
theorem lkL_27 : sm_L RL 27 yX7_strike := Or.inl (sq1 (i := 193) rfl)
set_option maxRecDepth 20000 in
theorem lkX7_84 : sm_L RX7 84 yX0_removeLast := Or.inl (sq1 (i := 197) rfl)
set_option maxRecDepth 20000 in
theorem lkL_32 : sm_L RL 32 yX7_set := Or.inl (sq1 (i := 201) rfl)
set_option maxRecDepth 20000 in
theorem lkX7_88 : sm_L RX7 88 yX7_isSetting := Or.inl (sq1 (i := 205) rfl)
set_option maxRecDepth 20000 in
theorem lkX7_91 : sm_L RX7 91 yX6_change := Or.inl (sq1 (i := 209) rfl)
set_option maxRecDepth 20000 in
theorem lkX6_26 : sm_L RX6 26 yX7_put := Or.inr (sq1 (i := 213) rfl)
set_option maxRecDepth 20000 in
theorem lkL_38 : sm_L RL 38 yX7_type := Or.inl (sq1 (i := 214) rfl)
set_option maxRecDepth 20000 in
theorem lkX7_93 : sm_L RX7 93 yX7_areTextBytes := Or.inl (sq1 (i := 218) rfl)
set_option maxRecDepth 20000 in
theorem lkX7_220 : sm_L RX7 220 yX7_byteFromLowest := Or.inl (sq1 (i := 221) rfl)
set_option maxRecDepth 20000 in
theorem lkX7_97 : sm_L RX7 97 yX4_append := Or.inl (sq1 (i := 224) rfl)
set_option maxRecDepth 20000 in
theorem lkX4_22 : sm_L RX4 22 yX7_byteFromLowest := Or.inr (sq1 (i := 228) rfl)
set_option maxRecDepth 20000 in
theorem lkX4_26 : sm_L RX4 26 yX7_put := Or.inr (sq1 (i := 229) rfl)
set_option maxRecDepth 20000 in
theorem lkL_43 : sm_L RL 43 yX7_year := Or.inl (sq1 (i := 230) rfl)
set_option maxRecDepth 20000 in
theorem lkX7_101 : sm_L RX7 101 yX4_readInto := Or.inl (sq1 (i := 234) rfl)
set_option maxRecDepth 20000 in
theorem lkX4_30 : sm_L RX4 30 yX0_empty := Or.inl (sq1 (i := 238) rfl)
set_option maxRecDepth 20000 in
theorem lkX4_35 : sm_L RX4 35 yX4_readDay := Or.inl (sq2 (i := 2) rfl)
set_option maxRecDepth 20000 in
theorem lkX4_39 : sm_L RX4 39 yX4_nextByte := Or.inl (sq2 (i := 6) rfl)
set_option maxRecDepth 20000 in
theorem lkX4_63 : sm_L RX4 63 yX7_at := Or.inr (sq2 (i := 10) rfl)
set_option maxRecDepth 20000 in
theorem lkX4_48 : sm_L RX4 48 yX4_faultAt := Or.inl (sq2 (i := 11) rfl)
set_option maxRecDepth 20000 in
theorem lkX4_52 : sm_L RX4 52 yX4_readNumber := Or.inl (sq2 (i := 14) rfl)
set_option maxRecDepth 20000 in
theorem lkX4_59 : sm_L RX4 59 yX4_isDigit := Or.inl (sq2 (i := 18) rfl)
set_option maxRecDepth 20000 in
theorem lkX4_67 : sm_L RX4 67 yJ9_min_7cf53 := Or.inl (sq2 (i := 21) rfl)
set_option maxRecDepth 20000 in
theorem lkX4_55 : sm_L RX4 55 yX0_add := Or.inl (sq2 (i := 24) rfl)
set_option maxRecDepth 20000 in
theorem lkX4_44 : sm_L RX4 44 yX0_isFull := Or.inl (sq2 (i := 25) rfl)
set_option maxRecDepth 20000 in
theorem lkX7_105 : sm_L RX7 105 yX0_become := Or.inl (sq2 (i := 26) rfl)
set_option maxRecDepth 20000 in
theorem lkX7_109 : sm_L RX7 109 yX4_empty := Or.inl (sq2 (i := 33) rfl)
set_option maxRecDepth 20000 in
theorem lkL_47 : sm_L RL 47 yX7_count := Or.inl (sq2 (i := 37) rfl)
set_option maxRecDepth 20000 in
theorem lkX7_116 : sm_L RX7 116 yX0_manyWithNews := Or.inl (sq2 (i := 41) rfl)
set_option maxRecDepth 20000 in
theorem lkX0_41 : sm_L RX0 41 yX0_tell := Or.inl (sq2 (i := 45) rfl)
set_option maxRecDepth 20000 in
theorem lkX7_119 : sm_L RX7 119 yX6_tell := Or.inl (sq2 (i := 46) rfl)
set_option maxRecDepth 20000 in
theorem lkX6_22 : sm_L RX6 22 yX7_at := Or.inr (sq2 (i := 50) rfl)
set_option maxRecDepth 20000 in
theorem lkX7_122 : sm_L RX7 122 yX0_sumOf := Or.inl (sq2 (i := 51) rfl)
set_option maxRecDepth 20000 in
theorem lkL_52 : sm_L RL 52 yX7_may := Or.inl (sq2 (i := 55) rfl)
set_option maxRecDepth 20000 in
theorem lkX7_125 : sm_L RX7 125 yX0_hasAll := Or.inl (sq2 (i := 59) rfl)
set_option maxRecDepth 20000 in
theorem lkX7_128 : sm_L RX7 128 yX6_openBehind := Or.inl (sq2 (i := 63) rfl)
set_option maxRecDepth 20000 in
theorem lkX6_56 : sm_L RX6 56 yX7_holds := Or.inr (sq2 (i := 67) rfl)
set_option maxRecDepth 20000 in
theorem lkX6_44 : sm_L RX6 44 yX6_tell := Or.inl (sq2 (i := 70) rfl)
set_option maxRecDepth 20000 in
theorem lkX6_59 : sm_L RX6 59 yX7_openAgain := Or.inr (sq2 (i := 71) rfl)
set_option maxRecDepth 20000 in
theorem lkX7_227 : sm_L RX7 227 yJ9_max_7cf53 := Or.inl (sq2 (i := 74) rfl)
set_option maxRecDepth 20000 in
theorem lkX6_63 : sm_L RX6 63 yX6_mayLie := Or.inl (sq2 (i := 77) rfl)
set_option maxRecDepth 20000 in
theorem lkX6_40 : sm_L RX6 40 yX0_hasNews := Or.inl (sq2 (i := 81) rfl)
set_option maxRecDepth 20000 in
theorem lkX6_48 : sm_L RX6 48 yX7_isOpen := Or.inr (sq2 (i := 85) rfl)
set_option maxRecDepth 20000 in
theorem lkL_56 : sm_L RL 56 yX7_lawful := Or.inl (sq2 (i := 88) rfl)
set_option maxRecDepth 20000 in
theorem lkX7_131 : sm_L RX7 131 yX7_refusalOf := Or.inl (sq2 (i := 92) rfl)
set_option maxRecDepth 20000 in
theorem lkX7_134 : sm_L RX7 134 yX6_firstWrong := Or.inl (sq2 (i := 96) rfl)
set_option maxRecDepth 20000 in
theorem lkX6_66 : sm_L RX6 66 yX6_leftOn := Or.inl (sq2 (i := 100) rfl)
set_option maxRecDepth 20000 in
theorem lkX6_69 : sm_L RX6 69 yJ6_bitCount_0f7a4 := Or.inl (sq2 (i := 104) rfl)
set_option maxRecDepth 20000 in
theorem lkL_60 : sm_L RL 60 yX7_wrong := Or.inl (sq2 (i := 110) rfl)
set_option maxRecDepth 20000 in
theorem lkL_64 : sm_L RL 64 yX7_gain := Or.inl (sq2 (i := 114) rfl)
set_option maxRecDepth 20000 in
theorem lkX7_137 : sm_L RX7 137 yX6_gainOf := Or.inl (sq2 (i := 118) rfl)
set_option maxRecDepth 20000 in
theorem lkX6_78 : sm_L RX6 78 yX6_courtHas := Or.inl (sq2 (i := 122) rfl)
set_option maxRecDepth 20000 in
theorem lkX6_74 : sm_L RX6 74 yX0_courtHas := Or.inl (sq2 (i := 126) rfl)
set_option maxRecDepth 20000 in
theorem lkX0_45 : sm_L RX0 45 yX0_isTrusted := Or.inl (sq2 (i := 130) rfl)
set_option maxRecDepth 20000 in
theorem lkX0_49 : sm_L RX0 49 yX0_hasNews := Or.inl (sq2 (i := 134) rfl)
set_option maxRecDepth 20000 in
theorem lkL_68 : sm_L RL 68 yX7_trusted := Or.inl (sq2 (i := 136) rfl)
set_option maxRecDepth 20000 in
theorem lkX7_141 : sm_L RX7 141 yX6_trustedBy := Or.inl (sq2 (i := 140) rfl)
set_option maxRecDepth 20000 in
theorem lkX6_80 : sm_L RX6 80 yX0_isTrusted := Or.inl (sq2 (i := 144) rfl)
set_option maxRecDepth 20000 in
theorem lkL_72 : sm_L RL 72 yX7_harm := Or.inl (sq2 (i := 145) rfl)
set_option maxRecDepth 20000 in
theorem lkX7_144 : sm_L RX7 144 yX7_harmBy := Or.inl (sq2 (i := 149) rfl)
set_option maxRecDepth 20000 in
theorem lkX7_216 : sm_L RX7 216 yX1_reckon := Or.inl (sq2 (i := 153) rfl)
set_option maxRecDepth 20000 in
theorem lkX1_24 : sm_L RX1 24 yX3_change := Or.inl (sq2 (i := 157) rfl)
set_option maxRecDepth 20000 in
theorem lkX3_19 : sm_L RX3 19 yX7_put := Or.inr (sq2 (i := 161) rfl)
set_option maxRecDepth 20000 in
theorem lkX1_28 : sm_L RX1 28 yX1_silent := Or.inl (sq2 (i := 162) rfl)
set_option maxRecDepth 20000 in
theorem lkX1_51 : sm_L RX1 51 yX0_courtHas := Or.inl (sq2 (i := 166) rfl)
set_option maxRecDepth 20000 in
theorem lkX1_42 : sm_L RX1 42 yX3_tell := Or.inl (sq2 (i := 167) rfl)
set_option maxRecDepth 20000 in
theorem lkX3_15 : sm_L RX3 15 yX7_at := Or.inr (sq2 (i := 171) rfl)
set_option maxRecDepth 20000 in
theorem lkX1_32 : sm_L RX1 32 yX1_lying := Or.inl (sq2 (i := 172) rfl)
set_option maxRecDepth 20000 in
theorem lkX1_55 : sm_L RX1 55 yX0_hasNews := Or.inl (sq2 (i := 176) rfl)
set_option maxRecDepth 20000 in
theorem lkX1_59 : sm_L RX1 59 yX7_isOpen := Or.inr (sq2 (i := 177) rfl)
set_option maxRecDepth 20000 in
theorem lkX1_48 : sm_L RX1 48 yX7_openAgain := Or.inr (sq2 (i := 179) rfl)
set_option maxRecDepth 20000 in
theorem lkX1_36 : sm_L RX1 36 yJ9_min_7cf53 := Or.inl (sq2 (i := 180) rfl)
set_option maxRecDepth 20000 in
theorem lkL_76 : sm_L RL 76 yX7_worst := Or.inl (sq2 (i := 181) rfl)
set_option maxRecDepth 20000 in
theorem lkX7_147 : sm_L RX7 147 yX1_worstSet := Or.inl (sq2 (i := 185) rfl)
set_option maxRecDepth 20000 in
theorem lkX1_45 : sm_L RX1 45 yX1_reckon := Or.inl (sq2 (i := 189) rfl)
set_option maxRecDepth 20000 in
theorem lkL_80 : sm_L RL 80 yX7_best := Or.inl (sq2 (i := 190) rfl)
set_option maxRecDepth 20000 in
theorem lkL_84 : sm_L RL 84 yX7_price := Or.inl (sq2 (i := 194) rfl)
set_option maxRecDepth 20000 in
theorem lkL_88 : sm_L RL 88 yX7_under := Or.inl (sq2 (i := 199) rfl)
set_option maxRecDepth 20000 in
theorem lkL_92 : sm_L RL 92 yX7_sure := Or.inl (sq2 (i := 204) rfl)
set_option maxRecDepth 20000 in
theorem lkX7_153 : sm_L RX7 153 yX7_greatestDivisor := Or.inl (sq2 (i := 208) rfl)
set_option maxRecDepth 20000 in
theorem lkL_97 : sm_L RL 97 yX7_bet := Or.inl (sq2 (i := 211) rfl)
set_option maxRecDepth 20000 in
theorem lkX7_156 : sm_L RX7 156 yX7_leastSureStake := Or.inl (sq2 (i := 215) rfl)
set_option maxRecDepth 20000 in
theorem lkX7_232 : sm_L RX7 232 yJ9_min_7cf53 := Or.inl (sq2 (i := 218) rfl)
set_option maxRecDepth 20000 in
theorem lkL_101 : sm_L RL 101 yX7_sets := Or.inl (sq2 (i := 219) rfl)
set_option maxRecDepth 20000 in
theorem lkX7_159 : sm_L RX7 159 yX7_areWords := Or.inl (sq2 (i := 223) rfl)
set_option maxRecDepth 20000 in
theorem lkX7_162 : sm_L RX7 162 yX5_manyFit := Or.inl (sq2 (i := 226) rfl)
set_option maxRecDepth 20000 in
theorem lkX5_18 : sm_L RX5 18 yX3_change := Or.inl (sq2 (i := 230) rfl)
set_option maxRecDepth 20000 in
theorem lkX5_22 : sm_L RX5 22 yX7_holds := Or.inr (sq2 (i := 231) rfl)
set_option maxRecDepth 20000 in
theorem lkX5_26 : sm_L RX5 26 yX3_tell := Or.inl (sq2 (i := 232) rfl)
set_option maxRecDepth 20000 in
theorem lkX5_30 : sm_L RX5 30 yX5_fitBehind := Or.inl (sq2 (i := 233) rfl)
set_option maxRecDepth 20000 in
theorem lkX5_34 : sm_L RX5 34 yX7_isOpen := Or.inr (sq2 (i := 237) rfl)
set_option maxRecDepth 20000 in
theorem lkX5_37 : sm_L RX5 37 yX7_openAgain := Or.inr (sq2 (i := 238) rfl)
set_option maxRecDepth 20000 in
theorem lkX5_40 : sm_L RX5 40 yJ9_min_7cf53 := Or.inl (sq2 (i := 239) rfl)
set_option maxRecDepth 20000 in
theorem lkL_106 : sm_L RL 106 yX7_surely := Or.inl (sq3 (i := 0) rfl)
set_option maxRecDepth 20000 in
theorem lkL_110 : sm_L RL 110 yX7_lots := Or.inl (sq3 (i := 4) rfl)
set_option maxRecDepth 20000 in
theorem lkX7_166 : sm_L RX7 166 yX6_drawLots := Or.inl (sq3 (i := 8) rfl)
set_option maxRecDepth 20000 in
theorem lkX6_86 : sm_L RX6 86 yX6_change := Or.inl (sq3 (i := 14) rfl)
set_option maxRecDepth 20000 in
theorem lkL_114 : sm_L RL 114 yX7_seed := Or.inl (sq3 (i := 16) rfl)
set_option maxRecDepth 20000 in
theorem lkL_118 : sm_L RL 118 yX7_image := Or.inl (sq3 (i := 20) rfl)
set_option maxRecDepth 20000 in
theorem lkX7_169 : sm_L RX7 169 yX6_become := Or.inl (sq3 (i := 24) rfl)
set_option maxRecDepth 20000 in
theorem lkX6_30 : sm_L RX6 30 yX0_become := Or.inl (sq3 (i := 28) rfl)
set_option maxRecDepth 20000 in
theorem lkL_122 : sm_L RL 122 yX7_restore := Or.inl (sq3 (i := 30) rfl)
set_option maxRecDepth 20000 in
theorem lkL_126 : sm_L RL 126 yX7_judged := Or.inl (sq3 (i := 34) rfl)
set_option maxRecDepth 20000 in
theorem lkX7_172 : sm_L RX7 172 yX7_findSheet := Or.inl (sq3 (i := 38) rfl)
set_option maxRecDepth 20000 in
theorem lkX7_176 : sm_L RX7 176 yX7_isLane := Or.inl (sq3 (i := 42) rfl)
set_option maxRecDepth 20000 in
theorem lkX7_179 : sm_L RX7 179 yX2_refusalOf := Or.inl (sq3 (i := 45) rfl)
set_option maxRecDepth 20000 in
theorem lkX2_22 : sm_L RX2 22 yX2_isNothing := Or.inl (sq3 (i := 49) rfl)
set_option maxRecDepth 20000 in
theorem lkX2_26 : sm_L RX2 26 yX2_covers := Or.inl (sq3 (i := 53) rfl)
set_option maxRecDepth 20000 in
theorem lkX7_181 : sm_L RX7 181 yX2_readDays := Or.inl (sq3 (i := 57) rfl)
set_option maxRecDepth 20000 in
theorem lkX2_38 : sm_L RX2 38 yX7_at := Or.inr (sq3 (i := 61) rfl)
set_option maxRecDepth 20000 in
theorem lkL_130 : sm_L RL 130 yX7_film := Or.inl (sq3 (i := 62) rfl)
set_option maxRecDepth 20000 in
theorem lkX7_184 : sm_L RX7 184 yX6_courtHas := Or.inl (sq3 (i := 66) rfl)
set_option maxRecDepth 20000 in
theorem lkX7_187 : sm_L RX7 187 yX2_change := Or.inl (sq3 (i := 67) rfl)
set_option maxRecDepth 20000 in
theorem lkX2_30 : sm_L RX2 30 yX2_narrow := Or.inl (sq3 (i := 71) rfl)
set_option maxRecDepth 20000 in
theorem lkX2_34 : sm_L RX2 34 yX7_put := Or.inr (sq3 (i := 75) rfl)
set_option maxRecDepth 20000 in
theorem lkL_134 : sm_L RL 134 yX7_sheet := Or.inl (sq3 (i := 76) rfl)
set_option maxRecDepth 20000 in
theorem lkX7_190 : sm_L RX7 190 yX2_hold := Or.inl (sq3 (i := 80) rfl)
set_option maxRecDepth 20000 in
theorem lkL_138 : sm_L RL 138 yX7_drop := Or.inl (sq3 (i := 84) rfl)
set_option maxRecDepth 20000 in
theorem lkX7_193 : sm_L RX7 193 yX2_isNothing := Or.inl (sq3 (i := 88) rfl)
set_option maxRecDepth 20000 in
theorem lkX7_197 : sm_L RX7 197 yX2_holdNothing := Or.inl (sq3 (i := 89) rfl)
set_option maxRecDepth 20000 in
theorem lkL_142 : sm_L RL 142 yX7_item := Or.inl (sq3 (i := 93) rfl)
set_option maxRecDepth 20000 in
theorem lkL_146 : sm_L RL 146 yX7_copy := Or.inl (sq3 (i := 97) rfl)
set_option maxRecDepth 20000 in
theorem lkX7_203 : sm_L RX7 203 yX2_covers := Or.inl (sq3 (i := 101) rfl)
set_option maxRecDepth 20000 in
theorem lkL_12 : sm_L RL 12 yX8_init := Or.inl (sq3 (i := 105) rfl)
set_option maxRecDepth 20000 in
theorem lkL_17 : sm_L RL 17 yX8_day := Or.inl (sq3 (i := 155) rfl)
set_option maxRecDepth 20000 in
theorem lkX8_40 : sm_L RX8 40 yX8_in := Or.inl (sq3 (i := 159) rfl)
set_option maxRecDepth 20000 in
theorem lkL_21 : sm_L RL 21 yX8_alter := Or.inl (sq3 (i := 163) rfl)
set_option maxRecDepth 20000 in
theorem lkX8_48 : sm_L RX8 48 yX8_isDay := Or.inl (sq3 (i := 167) rfl)
set_option maxRecDepth 20000 in
theorem lkX8_52 : sm_L RX8 52 yX8_isOf := Or.inl (sq3 (i := 171) rfl)
set_option maxRecDepth 20000 in
theorem lkX8_56 : sm_L RX8 56 yX8_changed := Or.inl (sq3 (i := 175) rfl)
set_option maxRecDepth 20000 in
theorem lkL_26 : sm_L RL 26 yX8_told := Or.inl (sq3 (i := 179) rfl)
set_option maxRecDepth 20000 in
theorem lkL_31 : sm_L RL 31 yX8_strike := Or.inl (sq3 (i := 183) rfl)
set_option maxRecDepth 20000 in
theorem lkL_35 : sm_L RL 35 yX8_set := Or.inl (sq3 (i := 187) rfl)
set_option maxRecDepth 20000 in
theorem lkL_42 : sm_L RL 42 yX8_type := Or.inl (sq3 (i := 194) rfl)
set_option maxRecDepth 20000 in
theorem lkL_46 : sm_L RL 46 yX8_year := Or.inl (sq3 (i := 201) rfl)
set_option maxRecDepth 20000 in
theorem lkX8_97 : sm_L RX8 97 yX8_takesDay := Or.inl (sq3 (i := 205) rfl)
set_option maxRecDepth 20000 in
theorem lkX8_82 : sm_L RX8 82 yX8_look := Or.inl (sq3 (i := 209) rfl)
set_option maxRecDepth 20000 in
theorem lkX8_93 : sm_L RX8 93 yX8_takes := Or.inl (sq3 (i := 213) rfl)
set_option maxRecDepth 20000 in
theorem lkL_51 : sm_L RL 51 yX8_count := Or.inl (sq3 (i := 219) rfl)
set_option maxRecDepth 20000 in
theorem lkL_55 : sm_L RL 55 yX8_may := Or.inl (sq3 (i := 224) rfl)
set_option maxRecDepth 20000 in
theorem lkX8_109 : sm_L RX8 109 yX8_isSet := Or.inl (sq3 (i := 228) rfl)
set_option maxRecDepth 20000 in
theorem lkX8_112 : sm_L RX8 112 yX8_mindedOn := Or.inl (sq3 (i := 232) rfl)
set_option maxRecDepth 20000 in
theorem lkX8_102 : sm_L RX8 102 yX8_has := Or.inl (sq3 (i := 235) rfl)
set_option maxRecDepth 20000 in
theorem lkX8_105 : sm_L RX8 105 yX8_minds := Or.inl (sq3 (i := 238) rfl)
set_option maxRecDepth 20000 in
theorem lkX8_115 : sm_L RX8 115 yX8_lets := Or.inl (sq4 (i := 1) rfl)
set_option maxRecDepth 20000 in
theorem lkL_59 : sm_L RL 59 yX8_lawful := Or.inl (sq4 (i := 4) rfl)
set_option maxRecDepth 20000 in
theorem lkX8_119 : sm_L RX8 119 yX8_wrongIn := Or.inl (sq4 (i := 8) rfl)
set_option maxRecDepth 20000 in
theorem lkL_63 : sm_L RL 63 yX8_wrong := Or.inl (sq4 (i := 12) rfl)
set_option maxRecDepth 20000 in
theorem lkL_67 : sm_L RL 67 yX8_gain := Or.inl (sq4 (i := 16) rfl)
set_option maxRecDepth 20000 in
theorem lkX8_130 : sm_L RX8 130 yX8_gainOf := Or.inl (sq4 (i := 22) rfl)
set_option maxRecDepth 20000 in
theorem lkX8_125 : sm_L RX8 125 yX8_brings := Or.inl (sq4 (i := 26) rfl)
set_option maxRecDepth 20000 in
theorem lkX8_122 : sm_L RX8 122 yX8_trusts := Or.inl (sq4 (i := 30) rfl)
set_option maxRecDepth 20000 in
theorem lkL_71 : sm_L RL 71 yX8_trusted := Or.inl (sq4 (i := 34) rfl)
set_option maxRecDepth 20000 in
theorem lkL_75 : sm_L RL 75 yX8_harm := Or.inl (sq4 (i := 38) rfl)
set_option maxRecDepth 20000 in
theorem lkX8_144 : sm_L RX8 144 yX8_harmNow := Or.inl (sq4 (i := 42) rfl)
set_option maxRecDepth 20000 in
theorem lkX8_137 : sm_L RX8 137 yX8_from := Or.inl (sq4 (i := 46) rfl)
set_option maxRecDepth 20000 in
theorem lkX8_133 : sm_L RX8 133 yX8_place := Or.inl (sq4 (i := 50) rfl)
set_option maxRecDepth 20000 in
theorem lkX8_141 : sm_L RX8 141 yX8_mayLie := Or.inl (sq4 (i := 54) rfl)
set_option maxRecDepth 20000 in
theorem lkL_79 : sm_L RL 79 yX8_worst := Or.inl (sq4 (i := 58) rfl)
set_option maxRecDepth 20000 in
theorem lkL_83 : sm_L RL 83 yX8_best := Or.inl (sq4 (i := 62) rfl)
set_option maxRecDepth 20000 in
theorem lkL_87 : sm_L RL 87 yX8_price := Or.inl (sq4 (i := 66) rfl)
set_option maxRecDepth 20000 in
theorem lkL_91 : sm_L RL 91 yX8_under := Or.inl (sq4 (i := 70) rfl)
set_option maxRecDepth 20000 in
theorem lkL_96 : sm_L RL 96 yX8_sure := Or.inl (sq4 (i := 74) rfl)
set_option maxRecDepth 20000 in
theorem lkL_100 : sm_L RL 100 yX8_bet := Or.inl (sq4 (i := 78) rfl)
set_option maxRecDepth 20000 in
theorem lkL_105 : sm_L RL 105 yX8_sets := Or.inl (sq4 (i := 82) rfl)
set_option maxRecDepth 20000 in
theorem lkX8_149 : sm_L RX8 149 yX8_areWords := Or.inl (sq4 (i := 86) rfl)
set_option maxRecDepth 20000 in
theorem lkX8_153 : sm_L RX8 153 yX8_setsOf := Or.inl (sq4 (i := 90) rfl)
set_option maxRecDepth 20000 in
theorem lkL_109 : sm_L RL 109 yX8_surely := Or.inl (sq4 (i := 94) rfl)
set_option maxRecDepth 20000 in
theorem lkL_113 : sm_L RL 113 yX8_lots := Or.inl (sq4 (i := 98) rfl)
set_option maxRecDepth 20000 in
theorem lkL_117 : sm_L RL 117 yX8_seed := Or.inl (sq4 (i := 106) rfl)
set_option maxRecDepth 20000 in
theorem lkL_121 : sm_L RL 121 yX8_image := Or.inl (sq4 (i := 110) rfl)
set_option maxRecDepth 20000 in
theorem lkL_125 : sm_L RL 125 yX8_restore := Or.inl (sq4 (i := 114) rfl)
set_option maxRecDepth 20000 in
theorem lkL_129 : sm_L RL 129 yX8_judged := Or.inl (sq4 (i := 118) rfl)
set_option maxRecDepth 20000 in
theorem lkX8_168 : sm_L RX8 168 yX8_isSheet := Or.inl (sq4 (i := 122) rfl)
set_option maxRecDepth 20000 in
theorem lkX8_171 : sm_L RX8 171 yX8_found := Or.inl (sq4 (i := 125) rfl)
set_option maxRecDepth 20000 in
theorem lkL_133 : sm_L RL 133 yX8_film := Or.inl (sq4 (i := 130) rfl)
set_option maxRecDepth 20000 in
theorem lkL_137 : sm_L RL 137 yX8_sheet := Or.inl (sq4 (i := 134) rfl)
set_option maxRecDepth 20000 in
theorem lkL_141 : sm_L RL 141 yX8_drop := Or.inl (sq4 (i := 138) rfl)
set_option maxRecDepth 20000 in
theorem lkL_145 : sm_L RL 145 yX8_item := Or.inl (sq4 (i := 142) rfl)
set_option maxRecDepth 20000 in
theorem lkL_149 : sm_L RL 149 yX8_copy := Or.inl (sq4 (i := 146) rfl)
set_option maxRecDepth 20000 in
theorem kcX7_219 : Cond.constant RX7 219 2147483647 ∈ lw_tbl := sq1 (i := 208) rfl
set_option maxRecDepth 20000 in
theorem kcJ6_265 : Cond.constant RJ6 265 1431655765 ∈ lw_tbl := sq2 (i := 107) rfl
set_option maxRecDepth 20000 in
theorem kcJ6_266 : Cond.constant RJ6 266 858993459 ∈ lw_tbl := sq2 (i := 108) rfl
set_option maxRecDepth 20000 in
theorem kcJ6_267 : Cond.constant RJ6 267 252645135 ∈ lw_tbl := sq2 (i := 109) rfl
set_option maxRecDepth 20000 in
theorem kcX7_140 : Cond.constant RX7 140 100000000 ∈ lw_tbl := sq2 (i := 135) rfl
set_option maxRecDepth 20000 in
theorem kcX1_63 : Cond.constant RX1 63 2147483647 ∈ lw_tbl := sq2 (i := 178) rfl
set_option maxRecDepth 20000 in
theorem kcX7_151 : Cond.constant RX7 151 (-100000002) ∈ lw_tbl := sq2 (i := 198) rfl
set_option maxRecDepth 20000 in
theorem kcX7_152 : Cond.constant RX7 152 (-100000001) ∈ lw_tbl := sq2 (i := 203) rfl
set_option maxRecDepth 20000 in
theorem kcX6_84 : Cond.constant RX6 84 1103515245 ∈ lw_tbl := sq3 (i := 12) rfl
set_option maxRecDepth 20000 in
theorem kcX6_85 : Cond.constant RX6 85 2147483647 ∈ lw_tbl := sq3 (i := 13) rfl
set_option maxRecDepth 20000 in
theorem kcX6_89 : Cond.constant RX6 89 65536 ∈ lw_tbl := sq3 (i := 15) rfl
set_option maxRecDepth 20000 in
theorem kdX8_44 : Cond.constantLong RX8 44 99 ∈ lw_tbl := sq3 (i := 162) rfl
set_option maxRecDepth 20000 in
theorem kdX8_46 : Cond.constantLong RX8 46 2 ∈ lw_tbl := sq3 (i := 174) rfl
set_option maxRecDepth 20000 in
theorem kdX8_60 : Cond.constantLong RX8 60 9 ∈ lw_tbl := sq3 (i := 191) rfl
set_option maxRecDepth 20000 in
theorem kdX8_62 : Cond.constantLong RX8 62 3 ∈ lw_tbl := sq3 (i := 192) rfl
set_option maxRecDepth 20000 in
theorem kdX8_64 : Cond.constantLong RX8 64 8 ∈ lw_tbl := sq3 (i := 193) rfl
set_option maxRecDepth 20000 in
theorem kdX8_66 : Cond.constantLong RX8 66 255 ∈ lw_tbl := sq3 (i := 198) rfl
set_option maxRecDepth 20000 in
theorem kdX8_68 : Cond.constantLong RX8 68 32 ∈ lw_tbl := sq3 (i := 199) rfl
set_option maxRecDepth 20000 in
theorem kdX8_70 : Cond.constantLong RX8 70 126 ∈ lw_tbl := sq3 (i := 200) rfl
set_option maxRecDepth 20000 in
theorem kdX8_86 : Cond.constantLong RX8 86 48 ∈ lw_tbl := sq3 (i := 217) rfl
set_option maxRecDepth 20000 in
theorem kdX8_88 : Cond.constantLong RX8 88 57 ∈ lw_tbl := sq3 (i := 218) rfl
set_option maxRecDepth 20000 in
theorem kdX8_100 : Cond.constantLong RX8 100 6 ∈ lw_tbl := sq3 (i := 223) rfl
set_option maxRecDepth 20000 in
theorem kcX8_128 : Cond.constant RX8 128 (-100000001) ∈ lw_tbl := sq4 (i := 20) rfl
set_option maxRecDepth 20000 in
theorem kcX8_129 : Cond.constant RX8 129 (-100000002) ∈ lw_tbl := sq4 (i := 21) rfl
set_option maxRecDepth 20000 in
theorem kdX8_147 : Cond.constantLong RX8 147 268435455 ∈ lw_tbl := sq4 (i := 89) rfl
set_option maxRecDepth 20000 in
theorem kdX8_157 : Cond.constantLong RX8 157 1103515245 ∈ lw_tbl := sq4 (i := 102) rfl
set_option maxRecDepth 20000 in
theorem kdX8_159 : Cond.constantLong RX8 159 12345 ∈ lw_tbl := sq4 (i := 103) rfl
set_option maxRecDepth 20000 in
theorem kdX8_161 : Cond.constantLong RX8 161 2147483647 ∈ lw_tbl := sq4 (i := 104) rfl
set_option maxRecDepth 20000 in
theorem kcX8_163 : Cond.constant RX8 163 65536 ∈ lw_tbl := sq4 (i := 105) rfl
set_option maxRecDepth 20000 in
theorem kcX8_174 : Cond.constant RX8 174 100000000 ∈ lw_tbl := sq4 (i := 129) rfl
set_option maxRecDepth 20000 in
theorem kdL_36 : Cond.constantLong RL 36 4294967295 ∈ lw_tbl := sq4 (i := 150) rfl
/-- a method: its name, its bytes, its locals, what it returns, whether it is static; where its words stand -/
abbrev sm_M : Type := MethodName × ByteArray × Nat × Option FieldType × Bool
def sm_okM (q : sm_M × Nat) : Prop := Cond.code q.1.1 q.1.2.1 q.1.2.2.1 q.1.2.2.2.1 ∈ lw_tbl ∧ Cond.initialized q.1.1.cls ∈ lw_tbl ∧ ((q.1.2.2.2.2 = true ∧ Cond.static q.1.1 ∈ lw_tbl) ∨ (q.1.2.2.2.2 = false ∧ Cond.instanceMethod q.1.1 ∈ lw_tbl ∧ Cond.selects q.1.1.cls q.1.1 q.1.1 ∈ lw_tbl)) ∧ plainName q.1.1.cls = true ∧ (q.1.1.cls ≠ "java/lang/invoke/MethodHandle" ∧ q.1.1.cls ≠ "java/lang/invoke/VarHandle") ∧ q.1.2.2.1 ≤ 19 ∧ (parseMethodDescriptor q.1.1.desc).map (fun d => d.parameters.length) = some q.2
theorem pnJ6 : plainName RJ6 = true := by decide +kernel
theorem phJ6 : RJ6 ≠ "java/lang/invoke/MethodHandle" ∧ RJ6 ≠ "java/lang/invoke/VarHandle" := by decide +kernel
theorem pnX0 : plainName RX0 = true := by decide +kernel
theorem phX0 : RX0 ≠ "java/lang/invoke/MethodHandle" ∧ RX0 ≠ "java/lang/invoke/VarHandle" := by decide +kernel
theorem pnX1 : plainName RX1 = true := by decide +kernel
theorem phX1 : RX1 ≠ "java/lang/invoke/MethodHandle" ∧ RX1 ≠ "java/lang/invoke/VarHandle" := by decide +kernel
theorem pnX2 : plainName RX2 = true := by decide +kernel
theorem phX2 : RX2 ≠ "java/lang/invoke/MethodHandle" ∧ RX2 ≠ "java/lang/invoke/VarHandle" := by decide +kernel
theorem pnX3 : plainName RX3 = true := by decide +kernel
theorem phX3 : RX3 ≠ "java/lang/invoke/MethodHandle" ∧ RX3 ≠ "java/lang/invoke/VarHandle" := by decide +kernel
theorem pnX4 : plainName RX4 = true := by decide +kernel
theorem phX4 : RX4 ≠ "java/lang/invoke/MethodHandle" ∧ RX4 ≠ "java/lang/invoke/VarHandle" := by decide +kernel
theorem pnX5 : plainName RX5 = true := by decide +kernel
theorem phX5 : RX5 ≠ "java/lang/invoke/MethodHandle" ∧ RX5 ≠ "java/lang/invoke/VarHandle" := by decide +kernel
theorem pnX6 : plainName RX6 = true := by decide +kernel
theorem phX6 : RX6 ≠ "java/lang/invoke/MethodHandle" ∧ RX6 ≠ "java/lang/invoke/VarHandle" := by decide +kernel
theorem pnX7 : plainName RX7 = true := by decide +kernel
theorem phX7 : RX7 ≠ "java/lang/invoke/MethodHandle" ∧ RX7 ≠ "java/lang/invoke/VarHandle" := by decide +kernel
theorem pnX8 : plainName RX8 = true := by decide +kernel
theorem phX8 : RX8 ≠ "java/lang/invoke/MethodHandle" ∧ RX8 ≠ "java/lang/invoke/VarHandle" := by decide +kernel
def meX0_has : sm_M × Nat := ((yX0_has, cX0_has, 2, (some (.boolean)), false), 1)
set_option maxRecDepth 20000 in
theorem omX0_has : sm_okM meX0_has := ⟨sq1 (i := 182) rfl, sq1 (i := 3) rfl, Or.inr ⟨rfl, sq1 (i := 180) rfl, sq1 (i := 181) rfl⟩, pnX0, phX0, by decide, by decide +kernel⟩
def meX0_hasAll : sm_M × Nat := ((yX0_hasAll, cX0_hasAll, 2, (some (.boolean)), false), 1)
set_option maxRecDepth 20000 in
theorem omX0_hasAll : sm_okM meX0_hasAll := ⟨sq2 (i := 62) rfl, sq1 (i := 3) rfl, Or.inr ⟨rfl, sq2 (i := 60) rfl, sq2 (i := 61) rfl⟩, pnX0, phX0, by decide, by decide +kernel⟩
def meX0_isFull : sm_M × Nat := ((yX0_isFull, cX0_isFull, 1, (some (.boolean)), false), 0)
set_option maxRecDepth 20000 in
theorem omX0_isFull : sm_okM meX0_isFull := ⟨sq1 (i := 164) rfl, sq1 (i := 3) rfl, Or.inr ⟨rfl, sq1 (i := 162) rfl, sq1 (i := 163) rfl⟩, pnX0, phX0, by decide, by decide +kernel⟩
def meX0_tell : sm_M × Nat := ((yX0_tell, cX0_tell, 3, (some (.int)), false), 2)
set_option maxRecDepth 20000 in
theorem omX0_tell : sm_okM meX0_tell := ⟨sq1 (i := 191) rfl, sq1 (i := 3) rfl, Or.inr ⟨rfl, sq1 (i := 189) rfl, sq1 (i := 190) rfl⟩, pnX0, phX0, by decide, by decide +kernel⟩
def meX0_change : sm_M × Nat := ((yX0_change, cX0_change, 4, (some (.int)), false), 3)
set_option maxRecDepth 20000 in
theorem omX0_change : sm_okM meX0_change := ⟨sq1 (i := 168) rfl, sq1 (i := 3) rfl, Or.inr ⟨rfl, sq1 (i := 166) rfl, sq1 (i := 167) rfl⟩, pnX0, phX0, by decide, by decide +kernel⟩
def meX0_add : sm_M × Nat := ((yX0_add, cX0_add, 4, (some (.int)), false), 3)
set_option maxRecDepth 20000 in
theorem omX0_add : sm_okM meX0_add := ⟨sq1 (i := 160) rfl, sq1 (i := 3) rfl, Or.inr ⟨rfl, sq1 (i := 158) rfl, sq1 (i := 159) rfl⟩, pnX0, phX0, by decide, by decide +kernel⟩
def meX0_removeLast : sm_M × Nat := ((yX0_removeLast, cX0_removeLast, 1, (some (.int)), false), 0)
set_option maxRecDepth 20000 in
theorem omX0_removeLast : sm_okM meX0_removeLast := ⟨sq1 (i := 200) rfl, sq1 (i := 3) rfl, Or.inr ⟨rfl, sq1 (i := 198) rfl, sq1 (i := 199) rfl⟩, pnX0, phX0, by decide, by decide +kernel⟩
def meX0_empty : sm_M × Nat := ((yX0_empty, cX0_empty, 1, none, false), 0)
set_option maxRecDepth 20000 in
theorem omX0_empty : sm_okM meX0_empty := ⟨sq2 (i := 1) rfl, sq1 (i := 3) rfl, Or.inr ⟨rfl, sq1 (i := 239) rfl, sq2 (i := 0) rfl⟩, pnX0, phX0, by decide, by decide +kernel⟩
def meX0_become : sm_M × Nat := ((yX0_become, cX0_become, 2, none, false), 1)
set_option maxRecDepth 20000 in
theorem omX0_become : sm_okM meX0_become := ⟨sq2 (i := 29) rfl, sq1 (i := 3) rfl, Or.inr ⟨rfl, sq2 (i := 27) rfl, sq2 (i := 28) rfl⟩, pnX0, phX0, by decide, by decide +kernel⟩
def meX0_hasNews : sm_M × Nat := ((yX0_hasNews, cX0_hasNews, 2, (some (.boolean)), false), 1)
set_option maxRecDepth 20000 in
theorem omX0_hasNews : sm_okM meX0_hasNews := ⟨sq2 (i := 84) rfl, sq1 (i := 3) rfl, Or.inr ⟨rfl, sq2 (i := 82) rfl, sq2 (i := 83) rfl⟩, pnX0, phX0, by decide, by decide +kernel⟩
def meX0_manyWithNews : sm_M × Nat := ((yX0_manyWithNews, cX0_manyWithNews, 3, (some (.int)), false), 0)
set_option maxRecDepth 20000 in
theorem omX0_manyWithNews : sm_okM meX0_manyWithNews := ⟨sq2 (i := 44) rfl, sq1 (i := 3) rfl, Or.inr ⟨rfl, sq2 (i := 42) rfl, sq2 (i := 43) rfl⟩, pnX0, phX0, by decide, by decide +kernel⟩
def meX0_sumOf : sm_M × Nat := ((yX0_sumOf, cX0_sumOf, 5, (some (.int)), false), 2)
set_option maxRecDepth 20000 in
theorem omX0_sumOf : sm_okM meX0_sumOf := ⟨sq2 (i := 54) rfl, sq1 (i := 3) rfl, Or.inr ⟨rfl, sq2 (i := 52) rfl, sq2 (i := 53) rfl⟩, pnX0, phX0, by decide, by decide +kernel⟩
def meX0_isTrusted : sm_M × Nat := ((yX0_isTrusted, cX0_isTrusted, 4, (some (.boolean)), false), 3)
set_option maxRecDepth 20000 in
theorem omX0_isTrusted : sm_okM meX0_isTrusted := ⟨sq2 (i := 133) rfl, sq1 (i := 3) rfl, Or.inr ⟨rfl, sq2 (i := 131) rfl, sq2 (i := 132) rfl⟩, pnX0, phX0, by decide, by decide +kernel⟩
def meX0_courtHas : sm_M × Nat := ((yX0_courtHas, cX0_courtHas, 5, (some (.int)), false), 4)
set_option maxRecDepth 20000 in
theorem omX0_courtHas : sm_okM meX0_courtHas := ⟨sq2 (i := 129) rfl, sq1 (i := 3) rfl, Or.inr ⟨rfl, sq2 (i := 127) rfl, sq2 (i := 128) rfl⟩, pnX0, phX0, by decide, by decide +kernel⟩
def meX1_reckon : sm_M × Nat := ((yX1_reckon, cX1_reckon, 7, (some (.int)), false), 4)
set_option maxRecDepth 20000 in
theorem omX1_reckon : sm_okM meX1_reckon := ⟨sq2 (i := 156) rfl, sq1 (i := 5) rfl, Or.inr ⟨rfl, sq2 (i := 154) rfl, sq2 (i := 155) rfl⟩, pnX1, phX1, by decide, by decide +kernel⟩
def meX1_worstSet : sm_M × Nat := ((yX1_worstSet, cX1_worstSet, 9, (some (.int)), false), 4)
set_option maxRecDepth 20000 in
theorem omX1_worstSet : sm_okM meX1_worstSet := ⟨sq2 (i := 188) rfl, sq1 (i := 5) rfl, Or.inr ⟨rfl, sq2 (i := 186) rfl, sq2 (i := 187) rfl⟩, pnX1, phX1, by decide, by decide +kernel⟩
def meX1_silent : sm_M × Nat := ((yX1_silent, cX1_silent, 5, (some (.int)), false), 4)
set_option maxRecDepth 20000 in
theorem omX1_silent : sm_okM meX1_silent := ⟨sq2 (i := 165) rfl, sq1 (i := 5) rfl, Or.inr ⟨rfl, sq2 (i := 164) rfl, sq0 (i := 5) rfl⟩, pnX1, phX1, by decide, by decide +kernel⟩
def meX1_lying : sm_M × Nat := ((yX1_lying, cX1_lying, 9, (some (.int)), false), 5)
set_option maxRecDepth 20000 in
theorem omX1_lying : sm_okM meX1_lying := ⟨sq2 (i := 175) rfl, sq1 (i := 5) rfl, Or.inr ⟨rfl, sq2 (i := 174) rfl, sq0 (i := 6) rfl⟩, pnX1, phX1, by decide, by decide +kernel⟩
def meX2_isNothing : sm_M × Nat := ((yX2_isNothing, cX2_isNothing, 1, (some (.boolean)), false), 0)
set_option maxRecDepth 20000 in
theorem omX2_isNothing : sm_okM meX2_isNothing := ⟨sq3 (i := 52) rfl, sq1 (i := 8) rfl, Or.inr ⟨rfl, sq3 (i := 50) rfl, sq3 (i := 51) rfl⟩, pnX2, phX2, by decide, by decide +kernel⟩
def meX2_hold : sm_M × Nat := ((yX2_hold, cX2_hold, 4, (some (.int)), false), 2)
set_option maxRecDepth 20000 in
theorem omX2_hold : sm_okM meX2_hold := ⟨sq3 (i := 83) rfl, sq1 (i := 8) rfl, Or.inr ⟨rfl, sq3 (i := 81) rfl, sq3 (i := 82) rfl⟩, pnX2, phX2, by decide, by decide +kernel⟩
def meX2_holdNothing : sm_M × Nat := ((yX2_holdNothing, cX2_holdNothing, 2, (some (.int)), false), 0)
set_option maxRecDepth 20000 in
theorem omX2_holdNothing : sm_okM meX2_holdNothing := ⟨sq3 (i := 92) rfl, sq1 (i := 8) rfl, Or.inr ⟨rfl, sq3 (i := 90) rfl, sq3 (i := 91) rfl⟩, pnX2, phX2, by decide, by decide +kernel⟩
def meX2_covers : sm_M × Nat := ((yX2_covers, cX2_covers, 3, (some (.boolean)), false), 2)
set_option maxRecDepth 20000 in
theorem omX2_covers : sm_okM meX2_covers := ⟨sq3 (i := 56) rfl, sq1 (i := 8) rfl, Or.inr ⟨rfl, sq3 (i := 54) rfl, sq3 (i := 55) rfl⟩, pnX2, phX2, by decide, by decide +kernel⟩
def meX2_refusalOf : sm_M × Nat := ((yX2_refusalOf, cX2_refusalOf, 4, (some (.int)), false), 3)
set_option maxRecDepth 20000 in
theorem omX2_refusalOf : sm_okM meX2_refusalOf := ⟨sq3 (i := 48) rfl, sq1 (i := 8) rfl, Or.inr ⟨rfl, sq3 (i := 46) rfl, sq3 (i := 47) rfl⟩, pnX2, phX2, by decide, by decide +kernel⟩
def meX2_change : sm_M × Nat := ((yX2_change, cX2_change, 3, none, false), 2)
set_option maxRecDepth 20000 in
theorem omX2_change : sm_okM meX2_change := ⟨sq3 (i := 70) rfl, sq1 (i := 8) rfl, Or.inr ⟨rfl, sq3 (i := 68) rfl, sq3 (i := 69) rfl⟩, pnX2, phX2, by decide, by decide +kernel⟩
def meX2_narrow : sm_M × Nat := ((yX2_narrow, cX2_narrow, 2, (some (.int)), false), 1)
set_option maxRecDepth 20000 in
theorem omX2_narrow : sm_okM meX2_narrow := ⟨sq3 (i := 74) rfl, sq1 (i := 8) rfl, Or.inr ⟨rfl, sq3 (i := 73) rfl, sq0 (i := 9) rfl⟩, pnX2, phX2, by decide, by decide +kernel⟩
def meX2_readDays : sm_M × Nat := ((yX2_readDays, cX2_readDays, 8, (some (.int)), false), 3)
set_option maxRecDepth 20000 in
theorem omX2_readDays : sm_okM meX2_readDays := ⟨sq3 (i := 60) rfl, sq1 (i := 8) rfl, Or.inr ⟨rfl, sq3 (i := 58) rfl, sq3 (i := 59) rfl⟩, pnX2, phX2, by decide, by decide +kernel⟩
def meX3_tell : sm_M × Nat := ((yX3_tell, cX3_tell, 3, (some (.int)), false), 2)
set_option maxRecDepth 20000 in
theorem omX3_tell : sm_okM meX3_tell := ⟨sq2 (i := 170) rfl, sq1 (i := 6) rfl, Or.inr ⟨rfl, sq2 (i := 168) rfl, sq2 (i := 169) rfl⟩, pnX3, phX3, by decide, by decide +kernel⟩
def meX3_change : sm_M × Nat := ((yX3_change, cX3_change, 4, none, false), 3)
set_option maxRecDepth 20000 in
theorem omX3_change : sm_okM meX3_change := ⟨sq2 (i := 160) rfl, sq1 (i := 6) rfl, Or.inr ⟨rfl, sq2 (i := 158) rfl, sq2 (i := 159) rfl⟩, pnX3, phX3, by decide, by decide +kernel⟩
def meX4_append : sm_M × Nat := ((yX4_append, cX4_append, 5, (some (.int)), false), 2)
set_option maxRecDepth 20000 in
theorem omX4_append : sm_okM meX4_append := ⟨sq1 (i := 227) rfl, sq1 (i := 4) rfl, Or.inr ⟨rfl, sq1 (i := 225) rfl, sq1 (i := 226) rfl⟩, pnX4, phX4, by decide, by decide +kernel⟩
def meX4_empty : sm_M × Nat := ((yX4_empty, cX4_empty, 1, none, false), 0)
set_option maxRecDepth 20000 in
theorem omX4_empty : sm_okM meX4_empty := ⟨sq2 (i := 36) rfl, sq1 (i := 4) rfl, Or.inr ⟨rfl, sq2 (i := 34) rfl, sq2 (i := 35) rfl⟩, pnX4, phX4, by decide, by decide +kernel⟩
def meX4_readInto : sm_M × Nat := ((yX4_readInto, cX4_readInto, 5, (some (.int)), false), 1)
set_option maxRecDepth 20000 in
theorem omX4_readInto : sm_okM meX4_readInto := ⟨sq1 (i := 237) rfl, sq1 (i := 4) rfl, Or.inr ⟨rfl, sq1 (i := 235) rfl, sq1 (i := 236) rfl⟩, pnX4, phX4, by decide, by decide +kernel⟩
def meX4_readDay : sm_M × Nat := ((yX4_readDay, cX4_readDay, 5, (some (.int)), false), 1)
set_option maxRecDepth 20000 in
theorem omX4_readDay : sm_okM meX4_readDay := ⟨sq2 (i := 5) rfl, sq1 (i := 4) rfl, Or.inr ⟨rfl, sq2 (i := 4) rfl, sq0 (i := 0) rfl⟩, pnX4, phX4, by decide, by decide +kernel⟩
def meX4_readNumber : sm_M × Nat := ((yX4_readNumber, cX4_readNumber, 4, (some (.int)), false), 0)
set_option maxRecDepth 20000 in
theorem omX4_readNumber : sm_okM meX4_readNumber := ⟨sq2 (i := 17) rfl, sq1 (i := 4) rfl, Or.inr ⟨rfl, sq2 (i := 16) rfl, sq0 (i := 2) rfl⟩, pnX4, phX4, by decide, by decide +kernel⟩
def meX4_nextByte : sm_M × Nat := ((yX4_nextByte, cX4_nextByte, 1, (some (.int)), false), 0)
set_option maxRecDepth 20000 in
theorem omX4_nextByte : sm_okM meX4_nextByte := ⟨sq2 (i := 9) rfl, sq1 (i := 4) rfl, Or.inr ⟨rfl, sq2 (i := 8) rfl, sq0 (i := 1) rfl⟩, pnX4, phX4, by decide, by decide +kernel⟩
def meX4_isDigit : sm_M × Nat := ((yX4_isDigit, cX4_isDigit, 1, (some (.boolean)), true), 1)
set_option maxRecDepth 20000 in
theorem omX4_isDigit : sm_okM meX4_isDigit := ⟨sq2 (i := 20) rfl, sq1 (i := 4) rfl, Or.inl ⟨rfl, sq2 (i := 19) rfl⟩, pnX4, phX4, by decide, by decide +kernel⟩
def meX4_faultAt : sm_M × Nat := ((yX4_faultAt, cX4_faultAt, 1, (some (.int)), true), 1)
set_option maxRecDepth 20000 in
theorem omX4_faultAt : sm_okM meX4_faultAt := ⟨sq2 (i := 13) rfl, sq1 (i := 4) rfl, Or.inl ⟨rfl, sq2 (i := 12) rfl⟩, pnX4, phX4, by decide, by decide +kernel⟩
def meX5_manyFit : sm_M × Nat := ((yX5_manyFit, cX5_manyFit, 11, (some (.int)), false), 5)
set_option maxRecDepth 20000 in
theorem omX5_manyFit : sm_okM meX5_manyFit := ⟨sq2 (i := 229) rfl, sq1 (i := 7) rfl, Or.inr ⟨rfl, sq2 (i := 227) rfl, sq2 (i := 228) rfl⟩, pnX5, phX5, by decide, by decide +kernel⟩
def meX5_fitBehind : sm_M × Nat := ((yX5_fitBehind, cX5_fitBehind, 7, (some (.int)), false), 4)
set_option maxRecDepth 20000 in
theorem omX5_fitBehind : sm_okM meX5_fitBehind := ⟨sq2 (i := 236) rfl, sq1 (i := 7) rfl, Or.inr ⟨rfl, sq2 (i := 235) rfl, sq0 (i := 7) rfl⟩, pnX5, phX5, by decide, by decide +kernel⟩
def meX6_tell : sm_M × Nat := ((yX6_tell, cX6_tell, 2, (some (.int)), false), 1)
set_option maxRecDepth 20000 in
theorem omX6_tell : sm_okM meX6_tell := ⟨sq2 (i := 49) rfl, sq1 (i := 2) rfl, Or.inr ⟨rfl, sq2 (i := 47) rfl, sq2 (i := 48) rfl⟩, pnX6, phX6, by decide, by decide +kernel⟩
def meX6_change : sm_M × Nat := ((yX6_change, cX6_change, 3, (some (.int)), false), 2)
set_option maxRecDepth 20000 in
theorem omX6_change : sm_okM meX6_change := ⟨sq1 (i := 212) rfl, sq1 (i := 2) rfl, Or.inr ⟨rfl, sq1 (i := 210) rfl, sq1 (i := 211) rfl⟩, pnX6, phX6, by decide, by decide +kernel⟩
def meX6_become : sm_M × Nat := ((yX6_become, cX6_become, 2, none, false), 1)
set_option maxRecDepth 20000 in
theorem omX6_become : sm_okM meX6_become := ⟨sq3 (i := 27) rfl, sq1 (i := 2) rfl, Or.inr ⟨rfl, sq3 (i := 25) rfl, sq3 (i := 26) rfl⟩, pnX6, phX6, by decide, by decide +kernel⟩
def meX6_mayLie : sm_M × Nat := ((yX6_mayLie, cX6_mayLie, 3, (some (.boolean)), false), 2)
set_option maxRecDepth 20000 in
theorem omX6_mayLie : sm_okM meX6_mayLie := ⟨sq2 (i := 80) rfl, sq1 (i := 2) rfl, Or.inr ⟨rfl, sq2 (i := 78) rfl, sq2 (i := 79) rfl⟩, pnX6, phX6, by decide, by decide +kernel⟩
def meX6_openBehind : sm_M × Nat := ((yX6_openBehind, cX6_openBehind, 5, (some (.int)), false), 1)
set_option maxRecDepth 20000 in
theorem omX6_openBehind : sm_okM meX6_openBehind := ⟨sq2 (i := 66) rfl, sq1 (i := 2) rfl, Or.inr ⟨rfl, sq2 (i := 64) rfl, sq2 (i := 65) rfl⟩, pnX6, phX6, by decide, by decide +kernel⟩
def meX6_firstWrong : sm_M × Nat := ((yX6_firstWrong, cX6_firstWrong, 4, (some (.int)), false), 1)
set_option maxRecDepth 20000 in
theorem omX6_firstWrong : sm_okM meX6_firstWrong := ⟨sq2 (i := 99) rfl, sq1 (i := 2) rfl, Or.inr ⟨rfl, sq2 (i := 97) rfl, sq2 (i := 98) rfl⟩, pnX6, phX6, by decide, by decide +kernel⟩
def meX6_leftOn : sm_M × Nat := ((yX6_leftOn, cX6_leftOn, 3, (some (.int)), false), 2)
set_option maxRecDepth 20000 in
theorem omX6_leftOn : sm_okM meX6_leftOn := ⟨sq2 (i := 103) rfl, sq1 (i := 2) rfl, Or.inr ⟨rfl, sq2 (i := 101) rfl, sq2 (i := 102) rfl⟩, pnX6, phX6, by decide, by decide +kernel⟩
def meX6_courtHas : sm_M × Nat := ((yX6_courtHas, cX6_courtHas, 3, (some (.int)), false), 2)
set_option maxRecDepth 20000 in
theorem omX6_courtHas : sm_okM meX6_courtHas := ⟨sq2 (i := 125) rfl, sq1 (i := 2) rfl, Or.inr ⟨rfl, sq2 (i := 123) rfl, sq2 (i := 124) rfl⟩, pnX6, phX6, by decide, by decide +kernel⟩
def meX6_gainOf : sm_M × Nat := ((yX6_gainOf, cX6_gainOf, 4, (some (.int)), false), 1)
set_option maxRecDepth 20000 in
theorem omX6_gainOf : sm_okM meX6_gainOf := ⟨sq2 (i := 121) rfl, sq1 (i := 2) rfl, Or.inr ⟨rfl, sq2 (i := 119) rfl, sq2 (i := 120) rfl⟩, pnX6, phX6, by decide, by decide +kernel⟩
def meX6_trustedBy : sm_M × Nat := ((yX6_trustedBy, cX6_trustedBy, 5, (some (.int)), false), 1)
set_option maxRecDepth 20000 in
theorem omX6_trustedBy : sm_okM meX6_trustedBy := ⟨sq2 (i := 143) rfl, sq1 (i := 2) rfl, Or.inr ⟨rfl, sq2 (i := 141) rfl, sq2 (i := 142) rfl⟩, pnX6, phX6, by decide, by decide +kernel⟩
def meX6_drawLots : sm_M × Nat := ((yX6_drawLots, cX6_drawLots, 5, (some (.int)), false), 0)
set_option maxRecDepth 20000 in
theorem omX6_drawLots : sm_okM meX6_drawLots := ⟨sq3 (i := 11) rfl, sq1 (i := 2) rfl, Or.inr ⟨rfl, sq3 (i := 9) rfl, sq3 (i := 10) rfl⟩, pnX6, phX6, by decide, by decide +kernel⟩
def meX7_day : sm_M × Nat := ((yX7_day, cX7_day, 4, (some (.int)), false), 3)
set_option maxRecDepth 20000 in
theorem omX7_day : sm_okM meX7_day := ⟨sq1 (i := 150) rfl, sq1 (i := 1) rfl, Or.inr ⟨rfl, sq1 (i := 148) rfl, sq1 (i := 149) rfl⟩, pnX7, phX7, by decide, by decide +kernel⟩
def meX7_alter : sm_M × Nat := ((yX7_alter, cX7_alter, 4, (some (.int)), false), 3)
set_option maxRecDepth 20000 in
theorem omX7_alter : sm_okM meX7_alter := ⟨sq1 (i := 178) rfl, sq1 (i := 1) rfl, Or.inr ⟨rfl, sq1 (i := 176) rfl, sq1 (i := 177) rfl⟩, pnX7, phX7, by decide, by decide +kernel⟩
def meX7_told : sm_M × Nat := ((yX7_told, cX7_told, 3, (some (.int)), false), 2)
set_option maxRecDepth 20000 in
theorem omX7_told : sm_okM meX7_told := ⟨sq1 (i := 187) rfl, sq1 (i := 1) rfl, Or.inr ⟨rfl, sq1 (i := 185) rfl, sq1 (i := 186) rfl⟩, pnX7, phX7, by decide, by decide +kernel⟩
def meX7_strike : sm_M × Nat := ((yX7_strike, cX7_strike, 1, (some (.int)), false), 0)
set_option maxRecDepth 20000 in
theorem omX7_strike : sm_okM meX7_strike := ⟨sq1 (i := 196) rfl, sq1 (i := 1) rfl, Or.inr ⟨rfl, sq1 (i := 194) rfl, sq1 (i := 195) rfl⟩, pnX7, phX7, by decide, by decide +kernel⟩
def meX7_set : sm_M × Nat := ((yX7_set, cX7_set, 3, (some (.int)), false), 2)
set_option maxRecDepth 20000 in
theorem omX7_set : sm_okM meX7_set := ⟨sq1 (i := 204) rfl, sq1 (i := 1) rfl, Or.inr ⟨rfl, sq1 (i := 202) rfl, sq1 (i := 203) rfl⟩, pnX7, phX7, by decide, by decide +kernel⟩
def meX7_type : sm_M × Nat := ((yX7_type, cX7_type, 4, (some (.int)), false), 2)
set_option maxRecDepth 20000 in
theorem omX7_type : sm_okM meX7_type := ⟨sq1 (i := 217) rfl, sq1 (i := 1) rfl, Or.inr ⟨rfl, sq1 (i := 215) rfl, sq1 (i := 216) rfl⟩, pnX7, phX7, by decide, by decide +kernel⟩
def meX7_year : sm_M × Nat := ((yX7_year, cX7_year, 2, (some (.int)), false), 0)
set_option maxRecDepth 20000 in
theorem omX7_year : sm_okM meX7_year := ⟨sq1 (i := 233) rfl, sq1 (i := 1) rfl, Or.inr ⟨rfl, sq1 (i := 231) rfl, sq1 (i := 232) rfl⟩, pnX7, phX7, by decide, by decide +kernel⟩
def meX7_count : sm_M × Nat := ((yX7_count, cX7_count, 2, (some (.int)), false), 1)
set_option maxRecDepth 20000 in
theorem omX7_count : sm_okM meX7_count := ⟨sq2 (i := 40) rfl, sq1 (i := 1) rfl, Or.inr ⟨rfl, sq2 (i := 38) rfl, sq2 (i := 39) rfl⟩, pnX7, phX7, by decide, by decide +kernel⟩
def meX7_may : sm_M × Nat := ((yX7_may, cX7_may, 2, (some (.int)), false), 1)
set_option maxRecDepth 20000 in
theorem omX7_may : sm_okM meX7_may := ⟨sq2 (i := 58) rfl, sq1 (i := 1) rfl, Or.inr ⟨rfl, sq2 (i := 56) rfl, sq2 (i := 57) rfl⟩, pnX7, phX7, by decide, by decide +kernel⟩
def meX7_lawful : sm_M × Nat := ((yX7_lawful, cX7_lawful, 3, (some (.int)), false), 1)
set_option maxRecDepth 20000 in
theorem omX7_lawful : sm_okM meX7_lawful := ⟨sq2 (i := 91) rfl, sq1 (i := 1) rfl, Or.inr ⟨rfl, sq2 (i := 89) rfl, sq2 (i := 90) rfl⟩, pnX7, phX7, by decide, by decide +kernel⟩
def meX7_wrong : sm_M × Nat := ((yX7_wrong, cX7_wrong, 2, (some (.int)), false), 1)
set_option maxRecDepth 20000 in
theorem omX7_wrong : sm_okM meX7_wrong := ⟨sq2 (i := 113) rfl, sq1 (i := 1) rfl, Or.inr ⟨rfl, sq2 (i := 111) rfl, sq2 (i := 112) rfl⟩, pnX7, phX7, by decide, by decide +kernel⟩
def meX7_gain : sm_M × Nat := ((yX7_gain, cX7_gain, 3, (some (.int)), false), 1)
set_option maxRecDepth 20000 in
theorem omX7_gain : sm_okM meX7_gain := ⟨sq2 (i := 117) rfl, sq1 (i := 1) rfl, Or.inr ⟨rfl, sq2 (i := 115) rfl, sq2 (i := 116) rfl⟩, pnX7, phX7, by decide, by decide +kernel⟩
def meX7_trusted : sm_M × Nat := ((yX7_trusted, cX7_trusted, 3, (some (.int)), false), 1)
set_option maxRecDepth 20000 in
theorem omX7_trusted : sm_okM meX7_trusted := ⟨sq2 (i := 139) rfl, sq1 (i := 1) rfl, Or.inr ⟨rfl, sq2 (i := 137) rfl, sq2 (i := 138) rfl⟩, pnX7, phX7, by decide, by decide +kernel⟩
def meX7_harm : sm_M × Nat := ((yX7_harm, cX7_harm, 1, (some (.int)), false), 0)
set_option maxRecDepth 20000 in
theorem omX7_harm : sm_okM meX7_harm := ⟨sq2 (i := 148) rfl, sq1 (i := 1) rfl, Or.inr ⟨rfl, sq2 (i := 146) rfl, sq2 (i := 147) rfl⟩, pnX7, phX7, by decide, by decide +kernel⟩
def meX7_worst : sm_M × Nat := ((yX7_worst, cX7_worst, 1, (some (.int)), false), 0)
set_option maxRecDepth 20000 in
theorem omX7_worst : sm_okM meX7_worst := ⟨sq2 (i := 184) rfl, sq1 (i := 1) rfl, Or.inr ⟨rfl, sq2 (i := 182) rfl, sq2 (i := 183) rfl⟩, pnX7, phX7, by decide, by decide +kernel⟩
def meX7_best : sm_M × Nat := ((yX7_best, cX7_best, 5, (some (.int)), false), 0)
set_option maxRecDepth 20000 in
theorem omX7_best : sm_okM meX7_best := ⟨sq2 (i := 193) rfl, sq1 (i := 1) rfl, Or.inr ⟨rfl, sq2 (i := 191) rfl, sq2 (i := 192) rfl⟩, pnX7, phX7, by decide, by decide +kernel⟩
def meX7_price : sm_M × Nat := ((yX7_price, cX7_price, 2, (some (.int)), false), 0)
set_option maxRecDepth 20000 in
theorem omX7_price : sm_okM meX7_price := ⟨sq2 (i := 197) rfl, sq1 (i := 1) rfl, Or.inr ⟨rfl, sq2 (i := 195) rfl, sq2 (i := 196) rfl⟩, pnX7, phX7, by decide, by decide +kernel⟩
def meX7_under : sm_M × Nat := ((yX7_under, cX7_under, 2, (some (.int)), false), 1)
set_option maxRecDepth 20000 in
theorem omX7_under : sm_okM meX7_under := ⟨sq2 (i := 202) rfl, sq1 (i := 1) rfl, Or.inr ⟨rfl, sq2 (i := 200) rfl, sq2 (i := 201) rfl⟩, pnX7, phX7, by decide, by decide +kernel⟩
def meX7_sure : sm_M × Nat := ((yX7_sure, cX7_sure, 9, (some (.int)), false), 5)
set_option maxRecDepth 20000 in
theorem omX7_sure : sm_okM meX7_sure := ⟨sq2 (i := 207) rfl, sq1 (i := 1) rfl, Or.inr ⟨rfl, sq2 (i := 205) rfl, sq2 (i := 206) rfl⟩, pnX7, phX7, by decide, by decide +kernel⟩
def meX7_bet : sm_M × Nat := ((yX7_bet, cX7_bet, 6, (some (.int)), false), 3)
set_option maxRecDepth 20000 in
theorem omX7_bet : sm_okM meX7_bet := ⟨sq2 (i := 214) rfl, sq1 (i := 1) rfl, Or.inr ⟨rfl, sq2 (i := 212) rfl, sq2 (i := 213) rfl⟩, pnX7, phX7, by decide, by decide +kernel⟩
def meX7_sets : sm_M × Nat := ((yX7_sets, cX7_sets, 5, (some (.int)), false), 4)
set_option maxRecDepth 20000 in
theorem omX7_sets : sm_okM meX7_sets := ⟨sq2 (i := 222) rfl, sq1 (i := 1) rfl, Or.inr ⟨rfl, sq2 (i := 220) rfl, sq2 (i := 221) rfl⟩, pnX7, phX7, by decide, by decide +kernel⟩
def meX7_surely : sm_M × Nat := ((yX7_surely, cX7_surely, 11, (some (.int)), false), 5)
set_option maxRecDepth 20000 in
theorem omX7_surely : sm_okM meX7_surely := ⟨sq3 (i := 3) rfl, sq1 (i := 1) rfl, Or.inr ⟨rfl, sq3 (i := 1) rfl, sq3 (i := 2) rfl⟩, pnX7, phX7, by decide, by decide +kernel⟩
def meX7_lots : sm_M × Nat := ((yX7_lots, cX7_lots, 1, (some (.int)), false), 0)
set_option maxRecDepth 20000 in
theorem omX7_lots : sm_okM meX7_lots := ⟨sq3 (i := 7) rfl, sq1 (i := 1) rfl, Or.inr ⟨rfl, sq3 (i := 5) rfl, sq3 (i := 6) rfl⟩, pnX7, phX7, by decide, by decide +kernel⟩
def meX7_seed : sm_M × Nat := ((yX7_seed, cX7_seed, 2, (some (.int)), false), 1)
set_option maxRecDepth 20000 in
theorem omX7_seed : sm_okM meX7_seed := ⟨sq3 (i := 19) rfl, sq1 (i := 1) rfl, Or.inr ⟨rfl, sq3 (i := 17) rfl, sq3 (i := 18) rfl⟩, pnX7, phX7, by decide, by decide +kernel⟩
def meX7_image : sm_M × Nat := ((yX7_image, cX7_image, 1, (some (.int)), false), 0)
set_option maxRecDepth 20000 in
theorem omX7_image : sm_okM meX7_image := ⟨sq3 (i := 23) rfl, sq1 (i := 1) rfl, Or.inr ⟨rfl, sq3 (i := 21) rfl, sq3 (i := 22) rfl⟩, pnX7, phX7, by decide, by decide +kernel⟩
def meX7_restore : sm_M × Nat := ((yX7_restore, cX7_restore, 1, (some (.int)), false), 0)
set_option maxRecDepth 20000 in
theorem omX7_restore : sm_okM meX7_restore := ⟨sq3 (i := 33) rfl, sq1 (i := 1) rfl, Or.inr ⟨rfl, sq3 (i := 31) rfl, sq3 (i := 32) rfl⟩, pnX7, phX7, by decide, by decide +kernel⟩
def meX7_judged : sm_M × Nat := ((yX7_judged, cX7_judged, 8, (some (.int)), false), 4)
set_option maxRecDepth 20000 in
theorem omX7_judged : sm_okM meX7_judged := ⟨sq3 (i := 37) rfl, sq1 (i := 1) rfl, Or.inr ⟨rfl, sq3 (i := 35) rfl, sq3 (i := 36) rfl⟩, pnX7, phX7, by decide, by decide +kernel⟩
def meX7_film : sm_M × Nat := ((yX7_film, cX7_film, 8, (some (.int)), false), 4)
set_option maxRecDepth 20000 in
theorem omX7_film : sm_okM meX7_film := ⟨sq3 (i := 65) rfl, sq1 (i := 1) rfl, Or.inr ⟨rfl, sq3 (i := 63) rfl, sq3 (i := 64) rfl⟩, pnX7, phX7, by decide, by decide +kernel⟩
def meX7_sheet : sm_M × Nat := ((yX7_sheet, cX7_sheet, 5, (some (.int)), false), 3)
set_option maxRecDepth 20000 in
theorem omX7_sheet : sm_okM meX7_sheet := ⟨sq3 (i := 79) rfl, sq1 (i := 1) rfl, Or.inr ⟨rfl, sq3 (i := 77) rfl, sq3 (i := 78) rfl⟩, pnX7, phX7, by decide, by decide +kernel⟩
def meX7_drop : sm_M × Nat := ((yX7_drop, cX7_drop, 3, (some (.int)), false), 1)
set_option maxRecDepth 20000 in
theorem omX7_drop : sm_okM meX7_drop := ⟨sq3 (i := 87) rfl, sq1 (i := 1) rfl, Or.inr ⟨rfl, sq3 (i := 85) rfl, sq3 (i := 86) rfl⟩, pnX7, phX7, by decide, by decide +kernel⟩
def meX7_item : sm_M × Nat := ((yX7_item, cX7_item, 7, (some (.int)), false), 4)
set_option maxRecDepth 20000 in
theorem omX7_item : sm_okM meX7_item := ⟨sq3 (i := 96) rfl, sq1 (i := 1) rfl, Or.inr ⟨rfl, sq3 (i := 94) rfl, sq3 (i := 95) rfl⟩, pnX7, phX7, by decide, by decide +kernel⟩
def meX7_copy : sm_M × Nat := ((yX7_copy, cX7_copy, 8, (some (.int)), false), 5)
set_option maxRecDepth 20000 in
theorem omX7_copy : sm_okM meX7_copy := ⟨sq3 (i := 100) rfl, sq1 (i := 1) rfl, Or.inr ⟨rfl, sq3 (i := 98) rfl, sq3 (i := 99) rfl⟩, pnX7, phX7, by decide, by decide +kernel⟩
def meX7_findSheet : sm_M × Nat := ((yX7_findSheet, cX7_findSheet, 2, (some (.object "NineLies$Sheet")), false), 1)
set_option maxRecDepth 20000 in
theorem omX7_findSheet : sm_okM meX7_findSheet := ⟨sq3 (i := 41) rfl, sq1 (i := 1) rfl, Or.inr ⟨rfl, sq3 (i := 40) rfl, sq0 (i := 8) rfl⟩, pnX7, phX7, by decide, by decide +kernel⟩
def meX7_refusalOf : sm_M × Nat := ((yX7_refusalOf, cX7_refusalOf, 2, (some (.int)), false), 1)
set_option maxRecDepth 20000 in
theorem omX7_refusalOf : sm_okM meX7_refusalOf := ⟨sq2 (i := 95) rfl, sq1 (i := 1) rfl, Or.inr ⟨rfl, sq2 (i := 94) rfl, sq0 (i := 3) rfl⟩, pnX7, phX7, by decide, by decide +kernel⟩
def meX7_harmBy : sm_M × Nat := ((yX7_harmBy, cX7_harmBy, 4, (some (.int)), false), 3)
set_option maxRecDepth 20000 in
theorem omX7_harmBy : sm_okM meX7_harmBy := ⟨sq2 (i := 152) rfl, sq1 (i := 1) rfl, Or.inr ⟨rfl, sq2 (i := 151) rfl, sq0 (i := 4) rfl⟩, pnX7, phX7, by decide, by decide +kernel⟩
def meX7_isWithin : sm_M × Nat := ((yX7_isWithin, cX7_isWithin, 3, (some (.boolean)), true), 3)
set_option maxRecDepth 20000 in
theorem omX7_isWithin : sm_okM meX7_isWithin := ⟨sq1 (i := 156) rfl, sq1 (i := 1) rfl, Or.inl ⟨rfl, sq1 (i := 155) rfl⟩, pnX7, phX7, by decide, by decide +kernel⟩
def meX7_isLane : sm_M × Nat := ((yX7_isLane, cX7_isLane, 1, (some (.boolean)), true), 1)
set_option maxRecDepth 20000 in
theorem omX7_isLane : sm_okM meX7_isLane := ⟨sq3 (i := 44) rfl, sq1 (i := 1) rfl, Or.inl ⟨rfl, sq3 (i := 43) rfl⟩, pnX7, phX7, by decide, by decide +kernel⟩
def meX7_isThing : sm_M × Nat := ((yX7_isThing, cX7_isThing, 2, (some (.boolean)), true), 2)
set_option maxRecDepth 20000 in
theorem omX7_isThing : sm_okM meX7_isThing := ⟨sq1 (i := 153) rfl, sq1 (i := 1) rfl, Or.inl ⟨rfl, sq1 (i := 152) rfl⟩, pnX7, phX7, by decide, by decide +kernel⟩
def meX7_isSetting : sm_M × Nat := ((yX7_isSetting, cX7_isSetting, 2, (some (.boolean)), true), 2)
set_option maxRecDepth 20000 in
theorem omX7_isSetting : sm_okM meX7_isSetting := ⟨sq1 (i := 207) rfl, sq1 (i := 1) rfl, Or.inl ⟨rfl, sq1 (i := 206) rfl⟩, pnX7, phX7, by decide, by decide +kernel⟩
def meX7_areWords : sm_M × Nat := ((yX7_areWords, cX7_areWords, 3, (some (.boolean)), true), 3)
set_option maxRecDepth 20000 in
theorem omX7_areWords : sm_okM meX7_areWords := ⟨sq2 (i := 225) rfl, sq1 (i := 1) rfl, Or.inl ⟨rfl, sq2 (i := 224) rfl⟩, pnX7, phX7, by decide, by decide +kernel⟩
def meX7_areTextBytes : sm_M × Nat := ((yX7_areTextBytes, cX7_areTextBytes, 4, (some (.boolean)), true), 2)
set_option maxRecDepth 20000 in
theorem omX7_areTextBytes : sm_okM meX7_areTextBytes := ⟨sq1 (i := 220) rfl, sq1 (i := 1) rfl, Or.inl ⟨rfl, sq1 (i := 219) rfl⟩, pnX7, phX7, by decide, by decide +kernel⟩
def meX7_byteFromLowest : sm_M × Nat := ((yX7_byteFromLowest, cX7_byteFromLowest, 3, (some (.int)), true), 2)
set_option maxRecDepth 20000 in
theorem omX7_byteFromLowest : sm_okM meX7_byteFromLowest := ⟨sq1 (i := 223) rfl, sq1 (i := 1) rfl, Or.inl ⟨rfl, sq1 (i := 222) rfl⟩, pnX7, phX7, by decide, by decide +kernel⟩
def meX7_holds : sm_M × Nat := ((yX7_holds, cX7_holds, 2, (some (.boolean)), true), 2)
set_option maxRecDepth 20000 in
theorem omX7_holds : sm_okM meX7_holds := ⟨sq2 (i := 69) rfl, sq1 (i := 1) rfl, Or.inl ⟨rfl, sq2 (i := 68) rfl⟩, pnX7, phX7, by decide, by decide +kernel⟩
def meX7_at : sm_M × Nat := ((yX7_at, cX7_at, 2, (some (.int)), true), 2)
set_option maxRecDepth 20000 in
theorem omX7_at : sm_okM meX7_at := ⟨sq1 (i := 174) rfl, sq1 (i := 1) rfl, Or.inl ⟨rfl, sq1 (i := 173) rfl⟩, pnX7, phX7, by decide, by decide +kernel⟩
def meX7_put : sm_M × Nat := ((yX7_put, cX7_put, 4, (some (.int)), true), 3)
set_option maxRecDepth 20000 in
theorem omX7_put : sm_okM meX7_put := ⟨sq1 (i := 171) rfl, sq1 (i := 1) rfl, Or.inl ⟨rfl, sq1 (i := 170) rfl⟩, pnX7, phX7, by decide, by decide +kernel⟩
def meX7_greatestDivisor : sm_M × Nat := ((yX7_greatestDivisor, cX7_greatestDivisor, 6, (some (.int)), true), 2)
set_option maxRecDepth 20000 in
theorem omX7_greatestDivisor : sm_okM meX7_greatestDivisor := ⟨sq2 (i := 210) rfl, sq1 (i := 1) rfl, Or.inl ⟨rfl, sq2 (i := 209) rfl⟩, pnX7, phX7, by decide, by decide +kernel⟩
def meX7_leastSureStake : sm_M × Nat := ((yX7_leastSureStake, cX7_leastSureStake, 5, (some (.int)), true), 3)
set_option maxRecDepth 20000 in
theorem omX7_leastSureStake : sm_okM meX7_leastSureStake := ⟨sq2 (i := 217) rfl, sq1 (i := 1) rfl, Or.inl ⟨rfl, sq2 (i := 216) rfl⟩, pnX7, phX7, by decide, by decide +kernel⟩
def meX7_isOpen : sm_M × Nat := ((yX7_isOpen, cX7_isOpen, 2, (some (.boolean)), true), 2)
set_option maxRecDepth 20000 in
theorem omX7_isOpen : sm_okM meX7_isOpen := ⟨sq2 (i := 87) rfl, sq1 (i := 1) rfl, Or.inl ⟨rfl, sq2 (i := 86) rfl⟩, pnX7, phX7, by decide, by decide +kernel⟩
def meX7_openAgain : sm_M × Nat := ((yX7_openAgain, cX7_openAgain, 2, (some (.int)), true), 2)
set_option maxRecDepth 20000 in
theorem omX7_openAgain : sm_okM meX7_openAgain := ⟨sq2 (i := 73) rfl, sq1 (i := 1) rfl, Or.inl ⟨rfl, sq2 (i := 72) rfl⟩, pnX7, phX7, by decide, by decide +kernel⟩
def meX8_in : sm_M × Nat := ((yX8_in, cX8_in, 6, (some (.boolean)), true), 3)
set_option maxRecDepth 20000 in
theorem omX8_in : sm_okM meX8_in := ⟨sq3 (i := 161) rfl, sq1 (i := 9) rfl, Or.inl ⟨rfl, sq3 (i := 160) rfl⟩, pnX8, phX8, by decide, by decide +kernel⟩
def meX8_has : sm_M × Nat := ((yX8_has, cX8_has, 2, (some (.boolean)), true), 2)
set_option maxRecDepth 20000 in
theorem omX8_has : sm_okM meX8_has := ⟨sq3 (i := 237) rfl, sq1 (i := 9) rfl, Or.inl ⟨rfl, sq3 (i := 236) rfl⟩, pnX8, phX8, by decide, by decide +kernel⟩
def meX8_changed : sm_M × Nat := ((yX8_changed, cX8_changed, 4, (some (.int)), false), 2)
set_option maxRecDepth 20000 in
theorem omX8_changed : sm_okM meX8_changed := ⟨sq3 (i := 178) rfl, sq1 (i := 9) rfl, Or.inr ⟨rfl, sq3 (i := 177) rfl, sq0 (i := 11) rfl⟩, pnX8, phX8, by decide, by decide +kernel⟩
def meX8_isDay : sm_M × Nat := ((yX8_isDay, cX8_isDay, 2, (some (.boolean)), false), 1)
set_option maxRecDepth 20000 in
theorem omX8_isDay : sm_okM meX8_isDay := ⟨sq3 (i := 170) rfl, sq1 (i := 9) rfl, Or.inr ⟨rfl, sq3 (i := 169) rfl, sq0 (i := 10) rfl⟩, pnX8, phX8, by decide, by decide +kernel⟩
def meX8_isSet : sm_M × Nat := ((yX8_isSet, cX8_isSet, 2, (some (.boolean)), false), 1)
set_option maxRecDepth 20000 in
theorem omX8_isSet : sm_okM meX8_isSet := ⟨sq3 (i := 231) rfl, sq1 (i := 9) rfl, Or.inr ⟨rfl, sq3 (i := 230) rfl, sq0 (i := 15) rfl⟩, pnX8, phX8, by decide, by decide +kernel⟩
def meX8_day : sm_M × Nat := ((yX8_day, cX8_day, 5, (some (.int)), false), 3)
set_option maxRecDepth 20000 in
theorem omX8_day : sm_okM meX8_day := ⟨sq3 (i := 158) rfl, sq1 (i := 9) rfl, Or.inr ⟨rfl, sq3 (i := 156) rfl, sq3 (i := 157) rfl⟩, pnX8, phX8, by decide, by decide +kernel⟩
def meX8_isOf : sm_M × Nat := ((yX8_isOf, cX8_isOf, 2, (some (.boolean)), true), 2)
set_option maxRecDepth 20000 in
theorem omX8_isOf : sm_okM meX8_isOf := ⟨sq3 (i := 173) rfl, sq1 (i := 9) rfl, Or.inl ⟨rfl, sq3 (i := 172) rfl⟩, pnX8, phX8, by decide, by decide +kernel⟩
def meX8_alter : sm_M × Nat := ((yX8_alter, cX8_alter, 4, (some (.int)), false), 3)
set_option maxRecDepth 20000 in
theorem omX8_alter : sm_okM meX8_alter := ⟨sq3 (i := 166) rfl, sq1 (i := 9) rfl, Or.inr ⟨rfl, sq3 (i := 164) rfl, sq3 (i := 165) rfl⟩, pnX8, phX8, by decide, by decide +kernel⟩
def meX8_told : sm_M × Nat := ((yX8_told, cX8_told, 3, (some (.int)), false), 2)
set_option maxRecDepth 20000 in
theorem omX8_told : sm_okM meX8_told := ⟨sq3 (i := 182) rfl, sq1 (i := 9) rfl, Or.inr ⟨rfl, sq3 (i := 180) rfl, sq3 (i := 181) rfl⟩, pnX8, phX8, by decide, by decide +kernel⟩
def meX8_strike : sm_M × Nat := ((yX8_strike, cX8_strike, 1, (some (.int)), false), 0)
set_option maxRecDepth 20000 in
theorem omX8_strike : sm_okM meX8_strike := ⟨sq3 (i := 186) rfl, sq1 (i := 9) rfl, Or.inr ⟨rfl, sq3 (i := 184) rfl, sq3 (i := 185) rfl⟩, pnX8, phX8, by decide, by decide +kernel⟩
def meX8_set : sm_M × Nat := ((yX8_set, cX8_set, 3, (some (.int)), false), 2)
set_option maxRecDepth 20000 in
theorem omX8_set : sm_okM meX8_set := ⟨sq3 (i := 190) rfl, sq1 (i := 9) rfl, Or.inr ⟨rfl, sq3 (i := 188) rfl, sq3 (i := 189) rfl⟩, pnX8, phX8, by decide, by decide +kernel⟩
def meX8_type : sm_M × Nat := ((yX8_type, cX8_type, 6, (some (.int)), false), 2)
set_option maxRecDepth 20000 in
theorem omX8_type : sm_okM meX8_type := ⟨sq3 (i := 197) rfl, sq1 (i := 9) rfl, Or.inr ⟨rfl, sq3 (i := 195) rfl, sq3 (i := 196) rfl⟩, pnX8, phX8, by decide, by decide +kernel⟩
def meX8_look : sm_M × Nat := ((yX8_look, cX8_look, 1, (some (.int)), false), 0)
set_option maxRecDepth 20000 in
theorem omX8_look : sm_okM meX8_look := ⟨sq3 (i := 212) rfl, sq1 (i := 9) rfl, Or.inr ⟨rfl, sq3 (i := 211) rfl, sq0 (i := 13) rfl⟩, pnX8, phX8, by decide, by decide +kernel⟩
def meX8_takes : sm_M × Nat := ((yX8_takes, cX8_takes, 5, (some (.int)), false), 1)
set_option maxRecDepth 20000 in
theorem omX8_takes : sm_okM meX8_takes := ⟨sq3 (i := 216) rfl, sq1 (i := 9) rfl, Or.inr ⟨rfl, sq3 (i := 215) rfl, sq0 (i := 14) rfl⟩, pnX8, phX8, by decide, by decide +kernel⟩
def meX8_takesDay : sm_M × Nat := ((yX8_takesDay, cX8_takesDay, 3, (some (.int)), false), 0)
set_option maxRecDepth 20000 in
theorem omX8_takesDay : sm_okM meX8_takesDay := ⟨sq3 (i := 208) rfl, sq1 (i := 9) rfl, Or.inr ⟨rfl, sq3 (i := 207) rfl, sq0 (i := 12) rfl⟩, pnX8, phX8, by decide, by decide +kernel⟩
def meX8_year : sm_M × Nat := ((yX8_year, cX8_year, 3, (some (.int)), false), 0)
set_option maxRecDepth 20000 in
theorem omX8_year : sm_okM meX8_year := ⟨sq3 (i := 204) rfl, sq1 (i := 9) rfl, Or.inr ⟨rfl, sq3 (i := 202) rfl, sq3 (i := 203) rfl⟩, pnX8, phX8, by decide, by decide +kernel⟩
def meX8_count : sm_M × Nat := ((yX8_count, cX8_count, 6, (some (.int)), false), 1)
set_option maxRecDepth 20000 in
theorem omX8_count : sm_okM meX8_count := ⟨sq3 (i := 222) rfl, sq1 (i := 9) rfl, Or.inr ⟨rfl, sq3 (i := 220) rfl, sq3 (i := 221) rfl⟩, pnX8, phX8, by decide, by decide +kernel⟩
def meX8_lets : sm_M × Nat := ((yX8_lets, cX8_lets, 3, (some (.boolean)), true), 3)
set_option maxRecDepth 20000 in
theorem omX8_lets : sm_okM meX8_lets := ⟨sq4 (i := 3) rfl, sq1 (i := 9) rfl, Or.inl ⟨rfl, sq4 (i := 2) rfl⟩, pnX8, phX8, by decide, by decide +kernel⟩
def meX8_minds : sm_M × Nat := ((yX8_minds, cX8_minds, 4, (some (.int)), true), 3)
set_option maxRecDepth 20000 in
theorem omX8_minds : sm_okM meX8_minds := ⟨sq4 (i := 0) rfl, sq1 (i := 9) rfl, Or.inl ⟨rfl, sq3 (i := 239) rfl⟩, pnX8, phX8, by decide, by decide +kernel⟩
def meX8_mindedOn : sm_M × Nat := ((yX8_mindedOn, cX8_mindedOn, 4, (some (.int)), true), 2)
set_option maxRecDepth 20000 in
theorem omX8_mindedOn : sm_okM meX8_mindedOn := ⟨sq3 (i := 234) rfl, sq1 (i := 9) rfl, Or.inl ⟨rfl, sq3 (i := 233) rfl⟩, pnX8, phX8, by decide, by decide +kernel⟩
def meX8_may : sm_M × Nat := ((yX8_may, cX8_may, 5, (some (.int)), false), 1)
set_option maxRecDepth 20000 in
theorem omX8_may : sm_okM meX8_may := ⟨sq3 (i := 227) rfl, sq1 (i := 9) rfl, Or.inr ⟨rfl, sq3 (i := 225) rfl, sq3 (i := 226) rfl⟩, pnX8, phX8, by decide, by decide +kernel⟩
def meX8_wrongIn : sm_M × Nat := ((yX8_wrongIn, cX8_wrongIn, 4, (some (.int)), false), 1)
set_option maxRecDepth 20000 in
theorem omX8_wrongIn : sm_okM meX8_wrongIn := ⟨sq4 (i := 11) rfl, sq1 (i := 9) rfl, Or.inr ⟨rfl, sq4 (i := 10) rfl, sq0 (i := 16) rfl⟩, pnX8, phX8, by decide, by decide +kernel⟩
def meX8_lawful : sm_M × Nat := ((yX8_lawful, cX8_lawful, 2, (some (.int)), false), 1)
set_option maxRecDepth 20000 in
theorem omX8_lawful : sm_okM meX8_lawful := ⟨sq4 (i := 7) rfl, sq1 (i := 9) rfl, Or.inr ⟨rfl, sq4 (i := 5) rfl, sq4 (i := 6) rfl⟩, pnX8, phX8, by decide, by decide +kernel⟩
def meX8_wrong : sm_M × Nat := ((yX8_wrong, cX8_wrong, 2, (some (.int)), false), 1)
set_option maxRecDepth 20000 in
theorem omX8_wrong : sm_okM meX8_wrong := ⟨sq4 (i := 15) rfl, sq1 (i := 9) rfl, Or.inr ⟨rfl, sq4 (i := 13) rfl, sq4 (i := 14) rfl⟩, pnX8, phX8, by decide, by decide +kernel⟩
def meX8_trusts : sm_M × Nat := ((yX8_trusts, cX8_trusts, 3, (some (.boolean)), false), 2)
set_option maxRecDepth 20000 in
theorem omX8_trusts : sm_okM meX8_trusts := ⟨sq4 (i := 33) rfl, sq1 (i := 9) rfl, Or.inr ⟨rfl, sq4 (i := 32) rfl, sq0 (i := 19) rfl⟩, pnX8, phX8, by decide, by decide +kernel⟩
def meX8_brings : sm_M × Nat := ((yX8_brings, cX8_brings, 5, (some (.int)), false), 3)
set_option maxRecDepth 20000 in
theorem omX8_brings : sm_okM meX8_brings := ⟨sq4 (i := 29) rfl, sq1 (i := 9) rfl, Or.inr ⟨rfl, sq4 (i := 28) rfl, sq0 (i := 18) rfl⟩, pnX8, phX8, by decide, by decide +kernel⟩
def meX8_gainOf : sm_M × Nat := ((yX8_gainOf, cX8_gainOf, 5, (some (.int)), false), 1)
set_option maxRecDepth 20000 in
theorem omX8_gainOf : sm_okM meX8_gainOf := ⟨sq4 (i := 25) rfl, sq1 (i := 9) rfl, Or.inr ⟨rfl, sq4 (i := 24) rfl, sq0 (i := 17) rfl⟩, pnX8, phX8, by decide, by decide +kernel⟩
def meX8_gain : sm_M × Nat := ((yX8_gain, cX8_gain, 2, (some (.int)), false), 1)
set_option maxRecDepth 20000 in
theorem omX8_gain : sm_okM meX8_gain := ⟨sq4 (i := 19) rfl, sq1 (i := 9) rfl, Or.inr ⟨rfl, sq4 (i := 17) rfl, sq4 (i := 18) rfl⟩, pnX8, phX8, by decide, by decide +kernel⟩
def meX8_trusted : sm_M × Nat := ((yX8_trusted, cX8_trusted, 6, (some (.int)), false), 1)
set_option maxRecDepth 20000 in
theorem omX8_trusted : sm_okM meX8_trusted := ⟨sq4 (i := 37) rfl, sq1 (i := 9) rfl, Or.inr ⟨rfl, sq4 (i := 35) rfl, sq4 (i := 36) rfl⟩, pnX8, phX8, by decide, by decide +kernel⟩
def meX8_place : sm_M × Nat := ((yX8_place, cX8_place, 4, (some (.int)), false), 3)
set_option maxRecDepth 20000 in
theorem omX8_place : sm_okM meX8_place := ⟨sq4 (i := 53) rfl, sq1 (i := 9) rfl, Or.inr ⟨rfl, sq4 (i := 52) rfl, sq0 (i := 22) rfl⟩, pnX8, phX8, by decide, by decide +kernel⟩
def meX8_from : sm_M × Nat := ((yX8_from, cX8_from, 5, (some (.int)), false), 4)
set_option maxRecDepth 20000 in
theorem omX8_from : sm_okM meX8_from := ⟨sq4 (i := 49) rfl, sq1 (i := 9) rfl, Or.inr ⟨rfl, sq4 (i := 48) rfl, sq0 (i := 21) rfl⟩, pnX8, phX8, by decide, by decide +kernel⟩
def meX8_mayLie : sm_M × Nat := ((yX8_mayLie, cX8_mayLie, 4, (some (.boolean)), false), 3)
set_option maxRecDepth 20000 in
theorem omX8_mayLie : sm_okM meX8_mayLie := ⟨sq4 (i := 57) rfl, sq1 (i := 9) rfl, Or.inr ⟨rfl, sq4 (i := 56) rfl, sq0 (i := 23) rfl⟩, pnX8, phX8, by decide, by decide +kernel⟩
def meX8_harmNow : sm_M × Nat := ((yX8_harmNow, cX8_harmNow, 5, (some (.int)), false), 0)
set_option maxRecDepth 20000 in
theorem omX8_harmNow : sm_okM meX8_harmNow := ⟨sq4 (i := 45) rfl, sq1 (i := 9) rfl, Or.inr ⟨rfl, sq4 (i := 44) rfl, sq0 (i := 20) rfl⟩, pnX8, phX8, by decide, by decide +kernel⟩
def meX8_harm : sm_M × Nat := ((yX8_harm, cX8_harm, 1, (some (.int)), false), 0)
set_option maxRecDepth 20000 in
theorem omX8_harm : sm_okM meX8_harm := ⟨sq4 (i := 41) rfl, sq1 (i := 9) rfl, Or.inr ⟨rfl, sq4 (i := 39) rfl, sq4 (i := 40) rfl⟩, pnX8, phX8, by decide, by decide +kernel⟩
def meX8_worst : sm_M × Nat := ((yX8_worst, cX8_worst, 7, (some (.int)), false), 0)
set_option maxRecDepth 20000 in
theorem omX8_worst : sm_okM meX8_worst := ⟨sq4 (i := 61) rfl, sq1 (i := 9) rfl, Or.inr ⟨rfl, sq4 (i := 59) rfl, sq4 (i := 60) rfl⟩, pnX8, phX8, by decide, by decide +kernel⟩
def meX8_best : sm_M × Nat := ((yX8_best, cX8_best, 6, (some (.int)), false), 0)
set_option maxRecDepth 20000 in
theorem omX8_best : sm_okM meX8_best := ⟨sq4 (i := 65) rfl, sq1 (i := 9) rfl, Or.inr ⟨rfl, sq4 (i := 63) rfl, sq4 (i := 64) rfl⟩, pnX8, phX8, by decide, by decide +kernel⟩
def meX8_price : sm_M × Nat := ((yX8_price, cX8_price, 3, (some (.int)), false), 0)
set_option maxRecDepth 20000 in
theorem omX8_price : sm_okM meX8_price := ⟨sq4 (i := 69) rfl, sq1 (i := 9) rfl, Or.inr ⟨rfl, sq4 (i := 67) rfl, sq4 (i := 68) rfl⟩, pnX8, phX8, by decide, by decide +kernel⟩
def meX8_under : sm_M × Nat := ((yX8_under, cX8_under, 4, (some (.int)), false), 1)
set_option maxRecDepth 20000 in
theorem omX8_under : sm_okM meX8_under := ⟨sq4 (i := 73) rfl, sq1 (i := 9) rfl, Or.inr ⟨rfl, sq4 (i := 71) rfl, sq4 (i := 72) rfl⟩, pnX8, phX8, by decide, by decide +kernel⟩
def meX8_sure : sm_M × Nat := ((yX8_sure, cX8_sure, 11, (some (.int)), false), 5)
set_option maxRecDepth 20000 in
theorem omX8_sure : sm_okM meX8_sure := ⟨sq4 (i := 77) rfl, sq1 (i := 9) rfl, Or.inr ⟨rfl, sq4 (i := 75) rfl, sq4 (i := 76) rfl⟩, pnX8, phX8, by decide, by decide +kernel⟩
def meX8_bet : sm_M × Nat := ((yX8_bet, cX8_bet, 7, (some (.int)), false), 3)
set_option maxRecDepth 20000 in
theorem omX8_bet : sm_okM meX8_bet := ⟨sq4 (i := 81) rfl, sq1 (i := 9) rfl, Or.inr ⟨rfl, sq4 (i := 79) rfl, sq4 (i := 80) rfl⟩, pnX8, phX8, by decide, by decide +kernel⟩
def meX8_setsOf : sm_M × Nat := ((yX8_setsOf, cX8_setsOf, 7, (some (.int)), false), 4)
set_option maxRecDepth 20000 in
theorem omX8_setsOf : sm_okM meX8_setsOf := ⟨sq4 (i := 93) rfl, sq1 (i := 9) rfl, Or.inr ⟨rfl, sq4 (i := 92) rfl, sq0 (i := 24) rfl⟩, pnX8, phX8, by decide, by decide +kernel⟩
def meX8_areWords : sm_M × Nat := ((yX8_areWords, cX8_areWords, 4, (some (.boolean)), true), 4)
set_option maxRecDepth 20000 in
theorem omX8_areWords : sm_okM meX8_areWords := ⟨sq4 (i := 88) rfl, sq1 (i := 9) rfl, Or.inl ⟨rfl, sq4 (i := 87) rfl⟩, pnX8, phX8, by decide, by decide +kernel⟩
def meX8_sets : sm_M × Nat := ((yX8_sets, cX8_sets, 5, (some (.int)), false), 4)
set_option maxRecDepth 20000 in
theorem omX8_sets : sm_okM meX8_sets := ⟨sq4 (i := 85) rfl, sq1 (i := 9) rfl, Or.inr ⟨rfl, sq4 (i := 83) rfl, sq4 (i := 84) rfl⟩, pnX8, phX8, by decide, by decide +kernel⟩
def meX8_surely : sm_M × Nat := ((yX8_surely, cX8_surely, 10, (some (.int)), false), 5)
set_option maxRecDepth 20000 in
theorem omX8_surely : sm_okM meX8_surely := ⟨sq4 (i := 97) rfl, sq1 (i := 9) rfl, Or.inr ⟨rfl, sq4 (i := 95) rfl, sq4 (i := 96) rfl⟩, pnX8, phX8, by decide, by decide +kernel⟩
def meX8_lots : sm_M × Nat := ((yX8_lots, cX8_lots, 6, (some (.int)), false), 0)
set_option maxRecDepth 20000 in
theorem omX8_lots : sm_okM meX8_lots := ⟨sq4 (i := 101) rfl, sq1 (i := 9) rfl, Or.inr ⟨rfl, sq4 (i := 99) rfl, sq4 (i := 100) rfl⟩, pnX8, phX8, by decide, by decide +kernel⟩
def meX8_seed : sm_M × Nat := ((yX8_seed, cX8_seed, 2, (some (.int)), false), 1)
set_option maxRecDepth 20000 in
theorem omX8_seed : sm_okM meX8_seed := ⟨sq4 (i := 109) rfl, sq1 (i := 9) rfl, Or.inr ⟨rfl, sq4 (i := 107) rfl, sq4 (i := 108) rfl⟩, pnX8, phX8, by decide, by decide +kernel⟩
def meX8_image : sm_M × Nat := ((yX8_image, cX8_image, 2, (some (.int)), false), 0)
set_option maxRecDepth 20000 in
theorem omX8_image : sm_okM meX8_image := ⟨sq4 (i := 113) rfl, sq1 (i := 9) rfl, Or.inr ⟨rfl, sq4 (i := 111) rfl, sq4 (i := 112) rfl⟩, pnX8, phX8, by decide, by decide +kernel⟩
def meX8_restore : sm_M × Nat := ((yX8_restore, cX8_restore, 2, (some (.int)), false), 0)
set_option maxRecDepth 20000 in
theorem omX8_restore : sm_okM meX8_restore := ⟨sq4 (i := 117) rfl, sq1 (i := 9) rfl, Or.inr ⟨rfl, sq4 (i := 115) rfl, sq4 (i := 116) rfl⟩, pnX8, phX8, by decide, by decide +kernel⟩
def meX8_isSheet : sm_M × Nat := ((yX8_isSheet, cX8_isSheet, 2, (some (.boolean)), true), 2)
set_option maxRecDepth 20000 in
theorem omX8_isSheet : sm_okM meX8_isSheet := ⟨sq4 (i := 124) rfl, sq1 (i := 9) rfl, Or.inl ⟨rfl, sq4 (i := 123) rfl⟩, pnX8, phX8, by decide, by decide +kernel⟩
def meX8_found : sm_M × Nat := ((yX8_found, cX8_found, 5, (some (.int)), false), 4)
set_option maxRecDepth 20000 in
theorem omX8_found : sm_okM meX8_found := ⟨sq4 (i := 128) rfl, sq1 (i := 9) rfl, Or.inr ⟨rfl, sq4 (i := 127) rfl, sq0 (i := 25) rfl⟩, pnX8, phX8, by decide, by decide +kernel⟩
def meX8_judged : sm_M × Nat := ((yX8_judged, cX8_judged, 10, (some (.int)), false), 4)
set_option maxRecDepth 20000 in
theorem omX8_judged : sm_okM meX8_judged := ⟨sq4 (i := 121) rfl, sq1 (i := 9) rfl, Or.inr ⟨rfl, sq4 (i := 119) rfl, sq4 (i := 120) rfl⟩, pnX8, phX8, by decide, by decide +kernel⟩
def meX8_film : sm_M × Nat := ((yX8_film, cX8_film, 8, (some (.int)), false), 4)
set_option maxRecDepth 20000 in
theorem omX8_film : sm_okM meX8_film := ⟨sq4 (i := 133) rfl, sq1 (i := 9) rfl, Or.inr ⟨rfl, sq4 (i := 131) rfl, sq4 (i := 132) rfl⟩, pnX8, phX8, by decide, by decide +kernel⟩
def meX8_sheet : sm_M × Nat := ((yX8_sheet, cX8_sheet, 5, (some (.int)), false), 3)
set_option maxRecDepth 20000 in
theorem omX8_sheet : sm_okM meX8_sheet := ⟨sq4 (i := 137) rfl, sq1 (i := 9) rfl, Or.inr ⟨rfl, sq4 (i := 135) rfl, sq4 (i := 136) rfl⟩, pnX8, phX8, by decide, by decide +kernel⟩
def meX8_drop : sm_M × Nat := ((yX8_drop, cX8_drop, 3, (some (.int)), false), 1)
set_option maxRecDepth 20000 in
theorem omX8_drop : sm_okM meX8_drop := ⟨sq4 (i := 141) rfl, sq1 (i := 9) rfl, Or.inr ⟨rfl, sq4 (i := 139) rfl, sq4 (i := 140) rfl⟩, pnX8, phX8, by decide, by decide +kernel⟩
def meX8_item : sm_M × Nat := ((yX8_item, cX8_item, 6, (some (.int)), false), 4)
set_option maxRecDepth 20000 in
theorem omX8_item : sm_okM meX8_item := ⟨sq4 (i := 145) rfl, sq1 (i := 9) rfl, Or.inr ⟨rfl, sq4 (i := 143) rfl, sq4 (i := 144) rfl⟩, pnX8, phX8, by decide, by decide +kernel⟩
def meX8_copy : sm_M × Nat := ((yX8_copy, cX8_copy, 8, (some (.int)), false), 5)
set_option maxRecDepth 20000 in
theorem omX8_copy : sm_okM meX8_copy := ⟨sq4 (i := 149) rfl, sq1 (i := 9) rfl, Or.inr ⟨rfl, sq4 (i := 147) rfl, sq4 (i := 148) rfl⟩, pnX8, phX8, by decide, by decide +kernel⟩
def meJ6_bitCount_0f7a4 : sm_M × Nat := ((yJ6_bitCount_0f7a4, cJ6_bitCount_0f7a4, 1, (some (.int)), true), 1)
set_option maxRecDepth 20000 in
theorem omJ6_bitCount_0f7a4 : sm_okM meJ6_bitCount_0f7a4 := ⟨sq2 (i := 106) rfl, sq1 (i := 12) rfl, Or.inl ⟨rfl, sq2 (i := 105) rfl⟩, pnJ6, phJ6, by decide, by decide +kernel⟩
def sm_T0 : List (sm_M × Nat) := [meX0_has, meX0_hasAll, meX0_isFull, meX0_tell, meX0_change, meX0_add, meX0_removeLast, meX0_empty, meX0_become, meX0_hasNews, meX0_manyWithNews, meX0_sumOf, meX0_isTrusted, meX0_courtHas, meX1_reckon, meX1_worstSet, meX1_silent, meX1_lying, meX2_isNothing, meX2_hold]
theorem sm_T0_ok : ∀ q ∈ sm_T0, sm_okM q := List.forall_mem_cons.mpr ⟨omX0_has, List.forall_mem_cons.mpr ⟨omX0_hasAll, List.forall_mem_cons.mpr ⟨omX0_isFull, List.forall_mem_cons.mpr ⟨omX0_tell, List.forall_mem_cons.mpr ⟨omX0_change, List.forall_mem_cons.mpr ⟨omX0_add, List.forall_mem_cons.mpr ⟨omX0_removeLast, List.forall_mem_cons.mpr ⟨omX0_empty, List.forall_mem_cons.mpr ⟨omX0_become, List.forall_mem_cons.mpr ⟨omX0_hasNews, List.forall_mem_cons.mpr ⟨omX0_manyWithNews, List.forall_mem_cons.mpr ⟨omX0_sumOf, List.forall_mem_cons.mpr ⟨omX0_isTrusted, List.forall_mem_cons.mpr ⟨omX0_courtHas, List.forall_mem_cons.mpr ⟨omX1_reckon, List.forall_mem_cons.mpr ⟨omX1_worstSet, List.forall_mem_cons.mpr ⟨omX1_silent, List.forall_mem_cons.mpr ⟨omX1_lying, List.forall_mem_cons.mpr ⟨omX2_isNothing, List.forall_mem_cons.mpr ⟨omX2_hold, fun _ h => absurd h List.not_mem_nil⟩⟩⟩⟩⟩⟩⟩⟩⟩⟩⟩⟩⟩⟩⟩⟩⟩⟩⟩⟩
def sm_T1 : List (sm_M × Nat) := [meX2_holdNothing, meX2_covers, meX2_refusalOf, meX2_change, meX2_narrow, meX2_readDays, meX3_tell, meX3_change, meX4_append, meX4_empty, meX4_readInto, meX4_readDay, meX4_readNumber, meX4_nextByte, meX4_isDigit, meX4_faultAt, meX5_manyFit, meX5_fitBehind, meX6_tell, meX6_change]
theorem sm_T1_ok : ∀ q ∈ sm_T1, sm_okM q := List.forall_mem_cons.mpr ⟨omX2_holdNothing, List.forall_mem_cons.mpr ⟨omX2_covers, List.forall_mem_cons.mpr ⟨omX2_refusalOf, List.forall_mem_cons.mpr ⟨omX2_change, List.forall_mem_cons.mpr ⟨omX2_narrow, List.forall_mem_cons.mpr ⟨omX2_readDays, List.forall_mem_cons.mpr ⟨omX3_tell, List.forall_mem_cons.mpr ⟨omX3_change, List.forall_mem_cons.mpr ⟨omX4_append, List.forall_mem_cons.mpr ⟨omX4_empty, List.forall_mem_cons.mpr ⟨omX4_readInto, List.forall_mem_cons.mpr ⟨omX4_readDay, List.forall_mem_cons.mpr ⟨omX4_readNumber, List.forall_mem_cons.mpr ⟨omX4_nextByte, List.forall_mem_cons.mpr ⟨omX4_isDigit, List.forall_mem_cons.mpr ⟨omX4_faultAt, List.forall_mem_cons.mpr ⟨omX5_manyFit, List.forall_mem_cons.mpr ⟨omX5_fitBehind, List.forall_mem_cons.mpr ⟨omX6_tell, List.forall_mem_cons.mpr ⟨omX6_change, fun _ h => absurd h List.not_mem_nil⟩⟩⟩⟩⟩⟩⟩⟩⟩⟩⟩⟩⟩⟩⟩⟩⟩⟩⟩⟩
def sm_T2 : List (sm_M × Nat) := [meX6_become, meX6_mayLie, meX6_openBehind, meX6_firstWrong, meX6_leftOn, meX6_courtHas, meX6_gainOf, meX6_trustedBy, meX6_drawLots, meX7_day, meX7_alter, meX7_told, meX7_strike, meX7_set, meX7_type, meX7_year, meX7_count, meX7_may, meX7_lawful, meX7_wrong]
theorem sm_T2_ok : ∀ q ∈ sm_T2, sm_okM q := List.forall_mem_cons.mpr ⟨omX6_become, List.forall_mem_cons.mpr ⟨omX6_mayLie, List.forall_mem_cons.mpr ⟨omX6_openBehind, List.forall_mem_cons.mpr ⟨omX6_firstWrong, List.forall_mem_cons.mpr ⟨omX6_leftOn, List.forall_mem_cons.mpr ⟨omX6_courtHas, List.forall_mem_cons.mpr ⟨omX6_gainOf, List.forall_mem_cons.mpr ⟨omX6_trustedBy, List.forall_mem_cons.mpr ⟨omX6_drawLots, List.forall_mem_cons.mpr ⟨omX7_day, List.forall_mem_cons.mpr ⟨omX7_alter, List.forall_mem_cons.mpr ⟨omX7_told, List.forall_mem_cons.mpr ⟨omX7_strike, List.forall_mem_cons.mpr ⟨omX7_set, List.forall_mem_cons.mpr ⟨omX7_type, List.forall_mem_cons.mpr ⟨omX7_year, List.forall_mem_cons.mpr ⟨omX7_count, List.forall_mem_cons.mpr ⟨omX7_may, List.forall_mem_cons.mpr ⟨omX7_lawful, List.forall_mem_cons.mpr ⟨omX7_wrong, fun _ h => absurd h List.not_mem_nil⟩⟩⟩⟩⟩⟩⟩⟩⟩⟩⟩⟩⟩⟩⟩⟩⟩⟩⟩⟩
def sm_T3 : List (sm_M × Nat) := [meX7_gain, meX7_trusted, meX7_harm, meX7_worst, meX7_best, meX7_price, meX7_under, meX7_sure, meX7_bet, meX7_sets, meX7_surely, meX7_lots, meX7_seed, meX7_image, meX7_restore, meX7_judged, meX7_film, meX7_sheet, meX7_drop, meX7_item]
theorem sm_T3_ok : ∀ q ∈ sm_T3, sm_okM q := List.forall_mem_cons.mpr ⟨omX7_gain, List.forall_mem_cons.mpr ⟨omX7_trusted, List.forall_mem_cons.mpr ⟨omX7_harm, List.forall_mem_cons.mpr ⟨omX7_worst, List.forall_mem_cons.mpr ⟨omX7_best, List.forall_mem_cons.mpr ⟨omX7_price, List.forall_mem_cons.mpr ⟨omX7_under, List.forall_mem_cons.mpr ⟨omX7_sure, List.forall_mem_cons.mpr ⟨omX7_bet, List.forall_mem_cons.mpr ⟨omX7_sets, List.forall_mem_cons.mpr ⟨omX7_surely, List.forall_mem_cons.mpr ⟨omX7_lots, List.forall_mem_cons.mpr ⟨omX7_seed, List.forall_mem_cons.mpr ⟨omX7_image, List.forall_mem_cons.mpr ⟨omX7_restore, List.forall_mem_cons.mpr ⟨omX7_judged, List.forall_mem_cons.mpr ⟨omX7_film, List.forall_mem_cons.mpr ⟨omX7_sheet, List.forall_mem_cons.mpr ⟨omX7_drop, List.forall_mem_cons.mpr ⟨omX7_item, fun _ h => absurd h List.not_mem_nil⟩⟩⟩⟩⟩⟩⟩⟩⟩⟩⟩⟩⟩⟩⟩⟩⟩⟩⟩⟩
def sm_T4 : List (sm_M × Nat) := [meX7_copy, meX7_findSheet, meX7_refusalOf, meX7_harmBy, meX7_isWithin, meX7_isLane, meX7_isThing, meX7_isSetting, meX7_areWords, meX7_areTextBytes, meX7_byteFromLowest, meX7_holds, meX7_at, meX7_put, meX7_greatestDivisor, meX7_leastSureStake, meX7_isOpen, meX7_openAgain, meX8_in, meX8_has]
theorem sm_T4_ok : ∀ q ∈ sm_T4, sm_okM q := List.forall_mem_cons.mpr ⟨omX7_copy, List.forall_mem_cons.mpr ⟨omX7_findSheet, List.forall_mem_cons.mpr ⟨omX7_refusalOf, List.forall_mem_cons.mpr ⟨omX7_harmBy, List.forall_mem_cons.mpr ⟨omX7_isWithin, List.forall_mem_cons.mpr ⟨omX7_isLane, List.forall_mem_cons.mpr ⟨omX7_isThing, List.forall_mem_cons.mpr ⟨omX7_isSetting, List.forall_mem_cons.mpr ⟨omX7_areWords, List.forall_mem_cons.mpr ⟨omX7_areTextBytes, List.forall_mem_cons.mpr ⟨omX7_byteFromLowest, List.forall_mem_cons.mpr ⟨omX7_holds, List.forall_mem_cons.mpr ⟨omX7_at, List.forall_mem_cons.mpr ⟨omX7_put, List.forall_mem_cons.mpr ⟨omX7_greatestDivisor, List.forall_mem_cons.mpr ⟨omX7_leastSureStake, List.forall_mem_cons.mpr ⟨omX7_isOpen, List.forall_mem_cons.mpr ⟨omX7_openAgain, List.forall_mem_cons.mpr ⟨omX8_in, List.forall_mem_cons.mpr ⟨omX8_has, fun _ h => absurd h List.not_mem_nil⟩⟩⟩⟩⟩⟩⟩⟩⟩⟩⟩⟩⟩⟩⟩⟩⟩⟩⟩⟩
def sm_T5 : List (sm_M × Nat) := [meX8_changed, meX8_isDay, meX8_isSet, meX8_day, meX8_isOf, meX8_alter, meX8_told, meX8_strike, meX8_set, meX8_type, meX8_look, meX8_takes, meX8_takesDay, meX8_year, meX8_count, meX8_lets, meX8_minds, meX8_mindedOn, meX8_may, meX8_wrongIn]
theorem sm_T5_ok : ∀ q ∈ sm_T5, sm_okM q := List.forall_mem_cons.mpr ⟨omX8_changed, List.forall_mem_cons.mpr ⟨omX8_isDay, List.forall_mem_cons.mpr ⟨omX8_isSet, List.forall_mem_cons.mpr ⟨omX8_day, List.forall_mem_cons.mpr ⟨omX8_isOf, List.forall_mem_cons.mpr ⟨omX8_alter, List.forall_mem_cons.mpr ⟨omX8_told, List.forall_mem_cons.mpr ⟨omX8_strike, List.forall_mem_cons.mpr ⟨omX8_set, List.forall_mem_cons.mpr ⟨omX8_type, List.forall_mem_cons.mpr ⟨omX8_look, List.forall_mem_cons.mpr ⟨omX8_takes, List.forall_mem_cons.mpr ⟨omX8_takesDay, List.forall_mem_cons.mpr ⟨omX8_year, List.forall_mem_cons.mpr ⟨omX8_count, List.forall_mem_cons.mpr ⟨omX8_lets, List.forall_mem_cons.mpr ⟨omX8_minds, List.forall_mem_cons.mpr ⟨omX8_mindedOn, List.forall_mem_cons.mpr ⟨omX8_may, List.forall_mem_cons.mpr ⟨omX8_wrongIn, fun _ h => absurd h List.not_mem_nil⟩⟩⟩⟩⟩⟩⟩⟩⟩⟩⟩⟩⟩⟩⟩⟩⟩⟩⟩⟩
def sm_T6 : List (sm_M × Nat) := [meX8_lawful, meX8_wrong, meX8_trusts, meX8_brings, meX8_gainOf, meX8_gain, meX8_trusted, meX8_place, meX8_from, meX8_mayLie, meX8_harmNow, meX8_harm, meX8_worst, meX8_best, meX8_price, meX8_under, meX8_sure, meX8_bet, meX8_setsOf, meX8_areWords]
theorem sm_T6_ok : ∀ q ∈ sm_T6, sm_okM q := List.forall_mem_cons.mpr ⟨omX8_lawful, List.forall_mem_cons.mpr ⟨omX8_wrong, List.forall_mem_cons.mpr ⟨omX8_trusts, List.forall_mem_cons.mpr ⟨omX8_brings, List.forall_mem_cons.mpr ⟨omX8_gainOf, List.forall_mem_cons.mpr ⟨omX8_gain, List.forall_mem_cons.mpr ⟨omX8_trusted, List.forall_mem_cons.mpr ⟨omX8_place, List.forall_mem_cons.mpr ⟨omX8_from, List.forall_mem_cons.mpr ⟨omX8_mayLie, List.forall_mem_cons.mpr ⟨omX8_harmNow, List.forall_mem_cons.mpr ⟨omX8_harm, List.forall_mem_cons.mpr ⟨omX8_worst, List.forall_mem_cons.mpr ⟨omX8_best, List.forall_mem_cons.mpr ⟨omX8_price, List.forall_mem_cons.mpr ⟨omX8_under, List.forall_mem_cons.mpr ⟨omX8_sure, List.forall_mem_cons.mpr ⟨omX8_bet, List.forall_mem_cons.mpr ⟨omX8_setsOf, List.forall_mem_cons.mpr ⟨omX8_areWords, fun _ h => absurd h List.not_mem_nil⟩⟩⟩⟩⟩⟩⟩⟩⟩⟩⟩⟩⟩⟩⟩⟩⟩⟩⟩⟩
def sm_T7 : List (sm_M × Nat) := [meX8_sets, meX8_surely, meX8_lots, meX8_seed, meX8_image, meX8_restore, meX8_isSheet, meX8_found, meX8_judged, meX8_film, meX8_sheet, meX8_drop, meX8_item, meX8_copy, meJ6_bitCount_0f7a4]
theorem sm_T7_ok : ∀ q ∈ sm_T7, sm_okM q := List.forall_mem_cons.mpr ⟨omX8_sets, List.forall_mem_cons.mpr ⟨omX8_surely, List.forall_mem_cons.mpr ⟨omX8_lots, List.forall_mem_cons.mpr ⟨omX8_seed, List.forall_mem_cons.mpr ⟨omX8_image, List.forall_mem_cons.mpr ⟨omX8_restore, List.forall_mem_cons.mpr ⟨omX8_isSheet, List.forall_mem_cons.mpr ⟨omX8_found, List.forall_mem_cons.mpr ⟨omX8_judged, List.forall_mem_cons.mpr ⟨omX8_film, List.forall_mem_cons.mpr ⟨omX8_sheet, List.forall_mem_cons.mpr ⟨omX8_drop, List.forall_mem_cons.mpr ⟨omX8_item, List.forall_mem_cons.mpr ⟨omX8_copy, List.forall_mem_cons.mpr ⟨omJ6_bitCount_0f7a4, fun _ h => absurd h List.not_mem_nil⟩⟩⟩⟩⟩⟩⟩⟩⟩⟩⟩⟩⟩⟩⟩
def sm_T : List (sm_M × Nat) := sm_T0 ++ (sm_T1 ++ (sm_T2 ++ (sm_T3 ++ (sm_T4 ++ (sm_T5 ++ (sm_T6 ++ (sm_T7)))))))
theorem sm_T_ok : ∀ q ∈ sm_T, sm_okM q := List.forall_mem_append.mpr ⟨sm_T0_ok, List.forall_mem_append.mpr ⟨sm_T1_ok, List.forall_mem_append.mpr ⟨sm_T2_ok, List.forall_mem_append.mpr ⟨sm_T3_ok, List.forall_mem_append.mpr ⟨sm_T4_ok, List.forall_mem_append.mpr ⟨sm_T5_ok, List.forall_mem_append.mpr ⟨sm_T6_ok, sm_T7_ok⟩⟩⟩⟩⟩⟩⟩
theorem mtX0_has : meX0_has ∈ sm_T := List.mem_append_left _ (List.mem_of_getElem? (i := 0) rfl)
theorem mtX0_hasAll : meX0_hasAll ∈ sm_T := List.mem_append_left _ (List.mem_of_getElem? (i := 1) rfl)
theorem mtX0_isFull : meX0_isFull ∈ sm_T := List.mem_append_left _ (List.mem_of_getElem? (i := 2) rfl)
theorem mtX0_tell : meX0_tell ∈ sm_T := List.mem_append_left _ (List.mem_of_getElem? (i := 3) rfl)
theorem mtX0_change : meX0_change ∈ sm_T := List.mem_append_left _ (List.mem_of_getElem? (i := 4) rfl)
theorem mtX0_add : meX0_add ∈ sm_T := List.mem_append_left _ (List.mem_of_getElem? (i := 5) rfl)
theorem mtX0_removeLast : meX0_removeLast ∈ sm_T := List.mem_append_left _ (List.mem_of_getElem? (i := 6) rfl)
theorem mtX0_empty : meX0_empty ∈ sm_T := List.mem_append_left _ (List.mem_of_getElem? (i := 7) rfl)
theorem mtX0_become : meX0_become ∈ sm_T := List.mem_append_left _ (List.mem_of_getElem? (i := 8) rfl)
theorem mtX0_hasNews : meX0_hasNews ∈ sm_T := List.mem_append_left _ (List.mem_of_getElem? (i := 9) rfl)
theorem mtX0_manyWithNews : meX0_manyWithNews ∈ sm_T := List.mem_append_left _ (List.mem_of_getElem? (i := 10) rfl)
theorem mtX0_sumOf : meX0_sumOf ∈ sm_T := List.mem_append_left _ (List.mem_of_getElem? (i := 11) rfl)
theorem mtX0_isTrusted : meX0_isTrusted ∈ sm_T := List.mem_append_left _ (List.mem_of_getElem? (i := 12) rfl)
theorem mtX0_courtHas : meX0_courtHas ∈ sm_T := List.mem_append_left _ (List.mem_of_getElem? (i := 13) rfl)
theorem mtX1_reckon : meX1_reckon ∈ sm_T := List.mem_append_left _ (List.mem_of_getElem? (i := 14) rfl)
theorem mtX1_worstSet : meX1_worstSet ∈ sm_T := List.mem_append_left _ (List.mem_of_getElem? (i := 15) rfl)
theorem mtX1_silent : meX1_silent ∈ sm_T := List.mem_append_left _ (List.mem_of_getElem? (i := 16) rfl)
theorem mtX1_lying : meX1_lying ∈ sm_T := List.mem_append_left _ (List.mem_of_getElem? (i := 17) rfl)
theorem mtX2_isNothing : meX2_isNothing ∈ sm_T := List.mem_append_left _ (List.mem_of_getElem? (i := 18) rfl)
theorem mtX2_hold : meX2_hold ∈ sm_T := List.mem_append_left _ (List.mem_of_getElem? (i := 19) rfl)
theorem mtX2_holdNothing : meX2_holdNothing ∈ sm_T := List.mem_append_right _ (List.mem_append_left _ (List.mem_of_getElem? (i := 0) rfl))
theorem mtX2_covers : meX2_covers ∈ sm_T := List.mem_append_right _ (List.mem_append_left _ (List.mem_of_getElem? (i := 1) rfl))
theorem mtX2_refusalOf : meX2_refusalOf ∈ sm_T := List.mem_append_right _ (List.mem_append_left _ (List.mem_of_getElem? (i := 2) rfl))
theorem mtX2_change : meX2_change ∈ sm_T := List.mem_append_right _ (List.mem_append_left _ (List.mem_of_getElem? (i := 3) rfl))
theorem mtX2_narrow : meX2_narrow ∈ sm_T := List.mem_append_right _ (List.mem_append_left _ (List.mem_of_getElem? (i := 4) rfl))
theorem mtX2_readDays : meX2_readDays ∈ sm_T := List.mem_append_right _ (List.mem_append_left _ (List.mem_of_getElem? (i := 5) rfl))
theorem mtX3_tell : meX3_tell ∈ sm_T := List.mem_append_right _ (List.mem_append_left _ (List.mem_of_getElem? (i := 6) rfl))
theorem mtX3_change : meX3_change ∈ sm_T := List.mem_append_right _ (List.mem_append_left _ (List.mem_of_getElem? (i := 7) rfl))
theorem mtX4_append : meX4_append ∈ sm_T := List.mem_append_right _ (List.mem_append_left _ (List.mem_of_getElem? (i := 8) rfl))
theorem mtX4_empty : meX4_empty ∈ sm_T := List.mem_append_right _ (List.mem_append_left _ (List.mem_of_getElem? (i := 9) rfl))
theorem mtX4_readInto : meX4_readInto ∈ sm_T := List.mem_append_right _ (List.mem_append_left _ (List.mem_of_getElem? (i := 10) rfl))
theorem mtX4_readDay : meX4_readDay ∈ sm_T := List.mem_append_right _ (List.mem_append_left _ (List.mem_of_getElem? (i := 11) rfl))
theorem mtX4_readNumber : meX4_readNumber ∈ sm_T := List.mem_append_right _ (List.mem_append_left _ (List.mem_of_getElem? (i := 12) rfl))
theorem mtX4_nextByte : meX4_nextByte ∈ sm_T := List.mem_append_right _ (List.mem_append_left _ (List.mem_of_getElem? (i := 13) rfl))
theorem mtX4_isDigit : meX4_isDigit ∈ sm_T := List.mem_append_right _ (List.mem_append_left _ (List.mem_of_getElem? (i := 14) rfl))
theorem mtX4_faultAt : meX4_faultAt ∈ sm_T := List.mem_append_right _ (List.mem_append_left _ (List.mem_of_getElem? (i := 15) rfl))
theorem mtX5_manyFit : meX5_manyFit ∈ sm_T := List.mem_append_right _ (List.mem_append_left _ (List.mem_of_getElem? (i := 16) rfl))
theorem mtX5_fitBehind : meX5_fitBehind ∈ sm_T := List.mem_append_right _ (List.mem_append_left _ (List.mem_of_getElem? (i := 17) rfl))
theorem mtX6_tell : meX6_tell ∈ sm_T := List.mem_append_right _ (List.mem_append_left _ (List.mem_of_getElem? (i := 18) rfl))
theorem mtX6_change : meX6_change ∈ sm_T := List.mem_append_right _ (List.mem_append_left _ (List.mem_of_getElem? (i := 19) rfl))
theorem mtX6_become : meX6_become ∈ sm_T := List.mem_append_right _ (List.mem_append_right _ (List.mem_append_left _ (List.mem_of_getElem? (i := 0) rfl)))
theorem mtX6_mayLie : meX6_mayLie ∈ sm_T := List.mem_append_right _ (List.mem_append_right _ (List.mem_append_left _ (List.mem_of_getElem? (i := 1) rfl)))
theorem mtX6_openBehind : meX6_openBehind ∈ sm_T := List.mem_append_right _ (List.mem_append_right _ (List.mem_append_left _ (List.mem_of_getElem? (i := 2) rfl)))
theorem mtX6_firstWrong : meX6_firstWrong ∈ sm_T := List.mem_append_right _ (List.mem_append_right _ (List.mem_append_left _ (List.mem_of_getElem? (i := 3) rfl)))
theorem mtX6_leftOn : meX6_leftOn ∈ sm_T := List.mem_append_right _ (List.mem_append_right _ (List.mem_append_left _ (List.mem_of_getElem? (i := 4) rfl)))
theorem mtX6_courtHas : meX6_courtHas ∈ sm_T := List.mem_append_right _ (List.mem_append_right _ (List.mem_append_left _ (List.mem_of_getElem? (i := 5) rfl)))
theorem mtX6_gainOf : meX6_gainOf ∈ sm_T := List.mem_append_right _ (List.mem_append_right _ (List.mem_append_left _ (List.mem_of_getElem? (i := 6) rfl)))
theorem mtX6_trustedBy : meX6_trustedBy ∈ sm_T := List.mem_append_right _ (List.mem_append_right _ (List.mem_append_left _ (List.mem_of_getElem? (i := 7) rfl)))
theorem mtX6_drawLots : meX6_drawLots ∈ sm_T := List.mem_append_right _ (List.mem_append_right _ (List.mem_append_left _ (List.mem_of_getElem? (i := 8) rfl)))
theorem mtX7_day : meX7_day ∈ sm_T := List.mem_append_right _ (List.mem_append_right _ (List.mem_append_left _ (List.mem_of_getElem? (i := 9) rfl)))
theorem mtX7_alter : meX7_alter ∈ sm_T := List.mem_append_right _ (List.mem_append_right _ (List.mem_append_left _ (List.mem_of_getElem? (i := 10) rfl)))
theorem mtX7_told : meX7_told ∈ sm_T := List.mem_append_right _ (List.mem_append_right _ (List.mem_append_left _ (List.mem_of_getElem? (i := 11) rfl)))
theorem mtX7_strike : meX7_strike ∈ sm_T := List.mem_append_right _ (List.mem_append_right _ (List.mem_append_left _ (List.mem_of_getElem? (i := 12) rfl)))
theorem mtX7_set : meX7_set ∈ sm_T := List.mem_append_right _ (List.mem_append_right _ (List.mem_append_left _ (List.mem_of_getElem? (i := 13) rfl)))
theorem mtX7_type : meX7_type ∈ sm_T := List.mem_append_right _ (List.mem_append_right _ (List.mem_append_left _ (List.mem_of_getElem? (i := 14) rfl)))
theorem mtX7_year : meX7_year ∈ sm_T := List.mem_append_right _ (List.mem_append_right _ (List.mem_append_left _ (List.mem_of_getElem? (i := 15) rfl)))
theorem mtX7_count : meX7_count ∈ sm_T := List.mem_append_right _ (List.mem_append_right _ (List.mem_append_left _ (List.mem_of_getElem? (i := 16) rfl)))
theorem mtX7_may : meX7_may ∈ sm_T := List.mem_append_right _ (List.mem_append_right _ (List.mem_append_left _ (List.mem_of_getElem? (i := 17) rfl)))
theorem mtX7_lawful : meX7_lawful ∈ sm_T := List.mem_append_right _ (List.mem_append_right _ (List.mem_append_left _ (List.mem_of_getElem? (i := 18) rfl)))
theorem mtX7_wrong : meX7_wrong ∈ sm_T := List.mem_append_right _ (List.mem_append_right _ (List.mem_append_left _ (List.mem_of_getElem? (i := 19) rfl)))
theorem mtX7_gain : meX7_gain ∈ sm_T := List.mem_append_right _ (List.mem_append_right _ (List.mem_append_right _ (List.mem_append_left _ (List.mem_of_getElem? (i := 0) rfl))))
theorem mtX7_trusted : meX7_trusted ∈ sm_T := List.mem_append_right _ (List.mem_append_right _ (List.mem_append_right _ (List.mem_append_left _ (List.mem_of_getElem? (i := 1) rfl))))
theorem mtX7_harm : meX7_harm ∈ sm_T := List.mem_append_right _ (List.mem_append_right _ (List.mem_append_right _ (List.mem_append_left _ (List.mem_of_getElem? (i := 2) rfl))))
theorem mtX7_worst : meX7_worst ∈ sm_T := List.mem_append_right _ (List.mem_append_right _ (List.mem_append_right _ (List.mem_append_left _ (List.mem_of_getElem? (i := 3) rfl))))
theorem mtX7_best : meX7_best ∈ sm_T := List.mem_append_right _ (List.mem_append_right _ (List.mem_append_right _ (List.mem_append_left _ (List.mem_of_getElem? (i := 4) rfl))))
theorem mtX7_price : meX7_price ∈ sm_T := List.mem_append_right _ (List.mem_append_right _ (List.mem_append_right _ (List.mem_append_left _ (List.mem_of_getElem? (i := 5) rfl))))
theorem mtX7_under : meX7_under ∈ sm_T := List.mem_append_right _ (List.mem_append_right _ (List.mem_append_right _ (List.mem_append_left _ (List.mem_of_getElem? (i := 6) rfl))))
theorem mtX7_sure : meX7_sure ∈ sm_T := List.mem_append_right _ (List.mem_append_right _ (List.mem_append_right _ (List.mem_append_left _ (List.mem_of_getElem? (i := 7) rfl))))
theorem mtX7_bet : meX7_bet ∈ sm_T := List.mem_append_right _ (List.mem_append_right _ (List.mem_append_right _ (List.mem_append_left _ (List.mem_of_getElem? (i := 8) rfl))))
theorem mtX7_sets : meX7_sets ∈ sm_T := List.mem_append_right _ (List.mem_append_right _ (List.mem_append_right _ (List.mem_append_left _ (List.mem_of_getElem? (i := 9) rfl))))
theorem mtX7_surely : meX7_surely ∈ sm_T := List.mem_append_right _ (List.mem_append_right _ (List.mem_append_right _ (List.mem_append_left _ (List.mem_of_getElem? (i := 10) rfl))))
theorem mtX7_lots : meX7_lots ∈ sm_T := List.mem_append_right _ (List.mem_append_right _ (List.mem_append_right _ (List.mem_append_left _ (List.mem_of_getElem? (i := 11) rfl))))
theorem mtX7_seed : meX7_seed ∈ sm_T := List.mem_append_right _ (List.mem_append_right _ (List.mem_append_right _ (List.mem_append_left _ (List.mem_of_getElem? (i := 12) rfl))))
theorem mtX7_image : meX7_image ∈ sm_T := List.mem_append_right _ (List.mem_append_right _ (List.mem_append_right _ (List.mem_append_left _ (List.mem_of_getElem? (i := 13) rfl))))
theorem mtX7_restore : meX7_restore ∈ sm_T := List.mem_append_right _ (List.mem_append_right _ (List.mem_append_right _ (List.mem_append_left _ (List.mem_of_getElem? (i := 14) rfl))))
theorem mtX7_judged : meX7_judged ∈ sm_T := List.mem_append_right _ (List.mem_append_right _ (List.mem_append_right _ (List.mem_append_left _ (List.mem_of_getElem? (i := 15) rfl))))
theorem mtX7_film : meX7_film ∈ sm_T := List.mem_append_right _ (List.mem_append_right _ (List.mem_append_right _ (List.mem_append_left _ (List.mem_of_getElem? (i := 16) rfl))))
theorem mtX7_sheet : meX7_sheet ∈ sm_T := List.mem_append_right _ (List.mem_append_right _ (List.mem_append_right _ (List.mem_append_left _ (List.mem_of_getElem? (i := 17) rfl))))
theorem mtX7_drop : meX7_drop ∈ sm_T := List.mem_append_right _ (List.mem_append_right _ (List.mem_append_right _ (List.mem_append_left _ (List.mem_of_getElem? (i := 18) rfl))))
theorem mtX7_item : meX7_item ∈ sm_T := List.mem_append_right _ (List.mem_append_right _ (List.mem_append_right _ (List.mem_append_left _ (List.mem_of_getElem? (i := 19) rfl))))
theorem mtX7_copy : meX7_copy ∈ sm_T := List.mem_append_right _ (List.mem_append_right _ (List.mem_append_right _ (List.mem_append_right _ (List.mem_append_left _ (List.mem_of_getElem? (i := 0) rfl)))))
theorem mtX7_findSheet : meX7_findSheet ∈ sm_T := List.mem_append_right _ (List.mem_append_right _ (List.mem_append_right _ (List.mem_append_right _ (List.mem_append_left _ (List.mem_of_getElem? (i := 1) rfl)))))
theorem mtX7_refusalOf : meX7_refusalOf ∈ sm_T := List.mem_append_right _ (List.mem_append_right _ (List.mem_append_right _ (List.mem_append_right _ (List.mem_append_left _ (List.mem_of_getElem? (i := 2) rfl)))))
theorem mtX7_harmBy : meX7_harmBy ∈ sm_T := List.mem_append_right _ (List.mem_append_right _ (List.mem_append_right _ (List.mem_append_right _ (List.mem_append_left _ (List.mem_of_getElem? (i := 3) rfl)))))
theorem mtX7_isWithin : meX7_isWithin ∈ sm_T := List.mem_append_right _ (List.mem_append_right _ (List.mem_append_right _ (List.mem_append_right _ (List.mem_append_left _ (List.mem_of_getElem? (i := 4) rfl)))))
theorem mtX7_isLane : meX7_isLane ∈ sm_T := List.mem_append_right _ (List.mem_append_right _ (List.mem_append_right _ (List.mem_append_right _ (List.mem_append_left _ (List.mem_of_getElem? (i := 5) rfl)))))
theorem mtX7_isThing : meX7_isThing ∈ sm_T := List.mem_append_right _ (List.mem_append_right _ (List.mem_append_right _ (List.mem_append_right _ (List.mem_append_left _ (List.mem_of_getElem? (i := 6) rfl)))))
theorem mtX7_isSetting : meX7_isSetting ∈ sm_T := List.mem_append_right _ (List.mem_append_right _ (List.mem_append_right _ (List.mem_append_right _ (List.mem_append_left _ (List.mem_of_getElem? (i := 7) rfl)))))
theorem mtX7_areWords : meX7_areWords ∈ sm_T := List.mem_append_right _ (List.mem_append_right _ (List.mem_append_right _ (List.mem_append_right _ (List.mem_append_left _ (List.mem_of_getElem? (i := 8) rfl)))))
theorem mtX7_areTextBytes : meX7_areTextBytes ∈ sm_T := List.mem_append_right _ (List.mem_append_right _ (List.mem_append_right _ (List.mem_append_right _ (List.mem_append_left _ (List.mem_of_getElem? (i := 9) rfl)))))
theorem mtX7_byteFromLowest : meX7_byteFromLowest ∈ sm_T := List.mem_append_right _ (List.mem_append_right _ (List.mem_append_right _ (List.mem_append_right _ (List.mem_append_left _ (List.mem_of_getElem? (i := 10) rfl)))))
theorem mtX7_holds : meX7_holds ∈ sm_T := List.mem_append_right _ (List.mem_append_right _ (List.mem_append_right _ (List.mem_append_right _ (List.mem_append_left _ (List.mem_of_getElem? (i := 11) rfl)))))
theorem mtX7_at : meX7_at ∈ sm_T := List.mem_append_right _ (List.mem_append_right _ (List.mem_append_right _ (List.mem_append_right _ (List.mem_append_left _ (List.mem_of_getElem? (i := 12) rfl)))))
theorem mtX7_put : meX7_put ∈ sm_T := List.mem_append_right _ (List.mem_append_right _ (List.mem_append_right _ (List.mem_append_right _ (List.mem_append_left _ (List.mem_of_getElem? (i := 13) rfl)))))
theorem mtX7_greatestDivisor : meX7_greatestDivisor ∈ sm_T := List.mem_append_right _ (List.mem_append_right _ (List.mem_append_right _ (List.mem_append_right _ (List.mem_append_left _ (List.mem_of_getElem? (i := 14) rfl)))))
theorem mtX7_leastSureStake : meX7_leastSureStake ∈ sm_T := List.mem_append_right _ (List.mem_append_right _ (List.mem_append_right _ (List.mem_append_right _ (List.mem_append_left _ (List.mem_of_getElem? (i := 15) rfl)))))
theorem mtX7_isOpen : meX7_isOpen ∈ sm_T := List.mem_append_right _ (List.mem_append_right _ (List.mem_append_right _ (List.mem_append_right _ (List.mem_append_left _ (List.mem_of_getElem? (i := 16) rfl)))))
theorem mtX7_openAgain : meX7_openAgain ∈ sm_T := List.mem_append_right _ (List.mem_append_right _ (List.mem_append_right _ (List.mem_append_right _ (List.mem_append_left _ (List.mem_of_getElem? (i := 17) rfl)))))
theorem mtX8_in : meX8_in ∈ sm_T := List.mem_append_right _ (List.mem_append_right _ (List.mem_append_right _ (List.mem_append_right _ (List.mem_append_left _ (List.mem_of_getElem? (i := 18) rfl)))))
theorem mtX8_has : meX8_has ∈ sm_T := List.mem_append_right _ (List.mem_append_right _ (List.mem_append_right _ (List.mem_append_right _ (List.mem_append_left _ (List.mem_of_getElem? (i := 19) rfl)))))
theorem mtX8_changed : meX8_changed ∈ sm_T := List.mem_append_right _ (List.mem_append_right _ (List.mem_append_right _ (List.mem_append_right _ (List.mem_append_right _ (List.mem_append_left _ (List.mem_of_getElem? (i := 0) rfl))))))
theorem mtX8_isDay : meX8_isDay ∈ sm_T := List.mem_append_right _ (List.mem_append_right _ (List.mem_append_right _ (List.mem_append_right _ (List.mem_append_right _ (List.mem_append_left _ (List.mem_of_getElem? (i := 1) rfl))))))
theorem mtX8_isSet : meX8_isSet ∈ sm_T := List.mem_append_right _ (List.mem_append_right _ (List.mem_append_right _ (List.mem_append_right _ (List.mem_append_right _ (List.mem_append_left _ (List.mem_of_getElem? (i := 2) rfl))))))
theorem mtX8_day : meX8_day ∈ sm_T := List.mem_append_right _ (List.mem_append_right _ (List.mem_append_right _ (List.mem_append_right _ (List.mem_append_right _ (List.mem_append_left _ (List.mem_of_getElem? (i := 3) rfl))))))
theorem mtX8_isOf : meX8_isOf ∈ sm_T := List.mem_append_right _ (List.mem_append_right _ (List.mem_append_right _ (List.mem_append_right _ (List.mem_append_right _ (List.mem_append_left _ (List.mem_of_getElem? (i := 4) rfl))))))
theorem mtX8_alter : meX8_alter ∈ sm_T := List.mem_append_right _ (List.mem_append_right _ (List.mem_append_right _ (List.mem_append_right _ (List.mem_append_right _ (List.mem_append_left _ (List.mem_of_getElem? (i := 5) rfl))))))
theorem mtX8_told : meX8_told ∈ sm_T := List.mem_append_right _ (List.mem_append_right _ (List.mem_append_right _ (List.mem_append_right _ (List.mem_append_right _ (List.mem_append_left _ (List.mem_of_getElem? (i := 6) rfl))))))
theorem mtX8_strike : meX8_strike ∈ sm_T := List.mem_append_right _ (List.mem_append_right _ (List.mem_append_right _ (List.mem_append_right _ (List.mem_append_right _ (List.mem_append_left _ (List.mem_of_getElem? (i := 7) rfl))))))
theorem mtX8_set : meX8_set ∈ sm_T := List.mem_append_right _ (List.mem_append_right _ (List.mem_append_right _ (List.mem_append_right _ (List.mem_append_right _ (List.mem_append_left _ (List.mem_of_getElem? (i := 8) rfl))))))
theorem mtX8_type : meX8_type ∈ sm_T := List.mem_append_right _ (List.mem_append_right _ (List.mem_append_right _ (List.mem_append_right _ (List.mem_append_right _ (List.mem_append_left _ (List.mem_of_getElem? (i := 9) rfl))))))
theorem mtX8_look : meX8_look ∈ sm_T := List.mem_append_right _ (List.mem_append_right _ (List.mem_append_right _ (List.mem_append_right _ (List.mem_append_right _ (List.mem_append_left _ (List.mem_of_getElem? (i := 10) rfl))))))
theorem mtX8_takes : meX8_takes ∈ sm_T := List.mem_append_right _ (List.mem_append_right _ (List.mem_append_right _ (List.mem_append_right _ (List.mem_append_right _ (List.mem_append_left _ (List.mem_of_getElem? (i := 11) rfl))))))
theorem mtX8_takesDay : meX8_takesDay ∈ sm_T := List.mem_append_right _ (List.mem_append_right _ (List.mem_append_right _ (List.mem_append_right _ (List.mem_append_right _ (List.mem_append_left _ (List.mem_of_getElem? (i := 12) rfl))))))
theorem mtX8_year : meX8_year ∈ sm_T := List.mem_append_right _ (List.mem_append_right _ (List.mem_append_right _ (List.mem_append_right _ (List.mem_append_right _ (List.mem_append_left _ (List.mem_of_getElem? (i := 13) rfl))))))
theorem mtX8_count : meX8_count ∈ sm_T := List.mem_append_right _ (List.mem_append_right _ (List.mem_append_right _ (List.mem_append_right _ (List.mem_append_right _ (List.mem_append_left _ (List.mem_of_getElem? (i := 14) rfl))))))
theorem mtX8_lets : meX8_lets ∈ sm_T := List.mem_append_right _ (List.mem_append_right _ (List.mem_append_right _ (List.mem_append_right _ (List.mem_append_right _ (List.mem_append_left _ (List.mem_of_getElem? (i := 15) rfl))))))
theorem mtX8_minds : meX8_minds ∈ sm_T := List.mem_append_right _ (List.mem_append_right _ (List.mem_append_right _ (List.mem_append_right _ (List.mem_append_right _ (List.mem_append_left _ (List.mem_of_getElem? (i := 16) rfl))))))
theorem mtX8_mindedOn : meX8_mindedOn ∈ sm_T := List.mem_append_right _ (List.mem_append_right _ (List.mem_append_right _ (List.mem_append_right _ (List.mem_append_right _ (List.mem_append_left _ (List.mem_of_getElem? (i := 17) rfl))))))
theorem mtX8_may : meX8_may ∈ sm_T := List.mem_append_right _ (List.mem_append_right _ (List.mem_append_right _ (List.mem_append_right _ (List.mem_append_right _ (List.mem_append_left _ (List.mem_of_getElem? (i := 18) rfl))))))
theorem mtX8_wrongIn : meX8_wrongIn ∈ sm_T := List.mem_append_right _ (List.mem_append_right _ (List.mem_append_right _ (List.mem_append_right _ (List.mem_append_right _ (List.mem_append_left _ (List.mem_of_getElem? (i := 19) rfl))))))
theorem mtX8_lawful : meX8_lawful ∈ sm_T := List.mem_append_right _ (List.mem_append_right _ (List.mem_append_right _ (List.mem_append_right _ (List.mem_append_right _ (List.mem_append_right _ (List.mem_append_left _ (List.mem_of_getElem? (i := 0) rfl)))))))
theorem mtX8_wrong : meX8_wrong ∈ sm_T := List.mem_append_right _ (List.mem_append_right _ (List.mem_append_right _ (List.mem_append_right _ (List.mem_append_right _ (List.mem_append_right _ (List.mem_append_left _ (List.mem_of_getElem? (i := 1) rfl)))))))
theorem mtX8_trusts : meX8_trusts ∈ sm_T := List.mem_append_right _ (List.mem_append_right _ (List.mem_append_right _ (List.mem_append_right _ (List.mem_append_right _ (List.mem_append_right _ (List.mem_append_left _ (List.mem_of_getElem? (i := 2) rfl)))))))
theorem mtX8_brings : meX8_brings ∈ sm_T := List.mem_append_right _ (List.mem_append_right _ (List.mem_append_right _ (List.mem_append_right _ (List.mem_append_right _ (List.mem_append_right _ (List.mem_append_left _ (List.mem_of_getElem? (i := 3) rfl)))))))
theorem mtX8_gainOf : meX8_gainOf ∈ sm_T := List.mem_append_right _ (List.mem_append_right _ (List.mem_append_right _ (List.mem_append_right _ (List.mem_append_right _ (List.mem_append_right _ (List.mem_append_left _ (List.mem_of_getElem? (i := 4) rfl)))))))
theorem mtX8_gain : meX8_gain ∈ sm_T := List.mem_append_right _ (List.mem_append_right _ (List.mem_append_right _ (List.mem_append_right _ (List.mem_append_right _ (List.mem_append_right _ (List.mem_append_left _ (List.mem_of_getElem? (i := 5) rfl)))))))
theorem mtX8_trusted : meX8_trusted ∈ sm_T := List.mem_append_right _ (List.mem_append_right _ (List.mem_append_right _ (List.mem_append_right _ (List.mem_append_right _ (List.mem_append_right _ (List.mem_append_left _ (List.mem_of_getElem? (i := 6) rfl)))))))
theorem mtX8_place : meX8_place ∈ sm_T := List.mem_append_right _ (List.mem_append_right _ (List.mem_append_right _ (List.mem_append_right _ (List.mem_append_right _ (List.mem_append_right _ (List.mem_append_left _ (List.mem_of_getElem? (i := 7) rfl)))))))
theorem mtX8_from : meX8_from ∈ sm_T := List.mem_append_right _ (List.mem_append_right _ (List.mem_append_right _ (List.mem_append_right _ (List.mem_append_right _ (List.mem_append_right _ (List.mem_append_left _ (List.mem_of_getElem? (i := 8) rfl)))))))
theorem mtX8_mayLie : meX8_mayLie ∈ sm_T := List.mem_append_right _ (List.mem_append_right _ (List.mem_append_right _ (List.mem_append_right _ (List.mem_append_right _ (List.mem_append_right _ (List.mem_append_left _ (List.mem_of_getElem? (i := 9) rfl)))))))
theorem mtX8_harmNow : meX8_harmNow ∈ sm_T := List.mem_append_right _ (List.mem_append_right _ (List.mem_append_right _ (List.mem_append_right _ (List.mem_append_right _ (List.mem_append_right _ (List.mem_append_left _ (List.mem_of_getElem? (i := 10) rfl)))))))
theorem mtX8_harm : meX8_harm ∈ sm_T := List.mem_append_right _ (List.mem_append_right _ (List.mem_append_right _ (List.mem_append_right _ (List.mem_append_right _ (List.mem_append_right _ (List.mem_append_left _ (List.mem_of_getElem? (i := 11) rfl)))))))
theorem mtX8_worst : meX8_worst ∈ sm_T := List.mem_append_right _ (List.mem_append_right _ (List.mem_append_right _ (List.mem_append_right _ (List.mem_append_right _ (List.mem_append_right _ (List.mem_append_left _ (List.mem_of_getElem? (i := 12) rfl)))))))
theorem mtX8_best : meX8_best ∈ sm_T := List.mem_append_right _ (List.mem_append_right _ (List.mem_append_right _ (List.mem_append_right _ (List.mem_append_right _ (List.mem_append_right _ (List.mem_append_left _ (List.mem_of_getElem? (i := 13) rfl)))))))
theorem mtX8_price : meX8_price ∈ sm_T := List.mem_append_right _ (List.mem_append_right _ (List.mem_append_right _ (List.mem_append_right _ (List.mem_append_right _ (List.mem_append_right _ (List.mem_append_left _ (List.mem_of_getElem? (i := 14) rfl)))))))
theorem mtX8_under : meX8_under ∈ sm_T := List.mem_append_right _ (List.mem_append_right _ (List.mem_append_right _ (List.mem_append_right _ (List.mem_append_right _ (List.mem_append_right _ (List.mem_append_left _ (List.mem_of_getElem? (i := 15) rfl)))))))
theorem mtX8_sure : meX8_sure ∈ sm_T := List.mem_append_right _ (List.mem_append_right _ (List.mem_append_right _ (List.mem_append_right _ (List.mem_append_right _ (List.mem_append_right _ (List.mem_append_left _ (List.mem_of_getElem? (i := 16) rfl)))))))
theorem mtX8_bet : meX8_bet ∈ sm_T := List.mem_append_right _ (List.mem_append_right _ (List.mem_append_right _ (List.mem_append_right _ (List.mem_append_right _ (List.mem_append_right _ (List.mem_append_left _ (List.mem_of_getElem? (i := 17) rfl)))))))
theorem mtX8_setsOf : meX8_setsOf ∈ sm_T := List.mem_append_right _ (List.mem_append_right _ (List.mem_append_right _ (List.mem_append_right _ (List.mem_append_right _ (List.mem_append_right _ (List.mem_append_left _ (List.mem_of_getElem? (i := 18) rfl)))))))
theorem mtX8_areWords : meX8_areWords ∈ sm_T := List.mem_append_right _ (List.mem_append_right _ (List.mem_append_right _ (List.mem_append_right _ (List.mem_append_right _ (List.mem_append_right _ (List.mem_append_left _ (List.mem_of_getElem? (i := 19) rfl)))))))
theorem mtX8_sets : meX8_sets ∈ sm_T := List.mem_append_right _ (List.mem_append_right _ (List.mem_append_right _ (List.mem_append_right _ (List.mem_append_right _ (List.mem_append_right _ (List.mem_append_right _ ((List.mem_of_getElem? (i := 0) rfl))))))))
theorem mtX8_surely : meX8_surely ∈ sm_T := List.mem_append_right _ (List.mem_append_right _ (List.mem_append_right _ (List.mem_append_right _ (List.mem_append_right _ (List.mem_append_right _ (List.mem_append_right _ ((List.mem_of_getElem? (i := 1) rfl))))))))
theorem mtX8_lots : meX8_lots ∈ sm_T := List.mem_append_right _ (List.mem_append_right _ (List.mem_append_right _ (List.mem_append_right _ (List.mem_append_right _ (List.mem_append_right _ (List.mem_append_right _ ((List.mem_of_getElem? (i := 2) rfl))))))))
theorem mtX8_seed : meX8_seed ∈ sm_T := List.mem_append_right _ (List.mem_append_right _ (List.mem_append_right _ (List.mem_append_right _ (List.mem_append_right _ (List.mem_append_right _ (List.mem_append_right _ ((List.mem_of_getElem? (i := 3) rfl))))))))
theorem mtX8_image : meX8_image ∈ sm_T := List.mem_append_right _ (List.mem_append_right _ (List.mem_append_right _ (List.mem_append_right _ (List.mem_append_right _ (List.mem_append_right _ (List.mem_append_right _ ((List.mem_of_getElem? (i := 4) rfl))))))))
theorem mtX8_restore : meX8_restore ∈ sm_T := List.mem_append_right _ (List.mem_append_right _ (List.mem_append_right _ (List.mem_append_right _ (List.mem_append_right _ (List.mem_append_right _ (List.mem_append_right _ ((List.mem_of_getElem? (i := 5) rfl))))))))
theorem mtX8_isSheet : meX8_isSheet ∈ sm_T := List.mem_append_right _ (List.mem_append_right _ (List.mem_append_right _ (List.mem_append_right _ (List.mem_append_right _ (List.mem_append_right _ (List.mem_append_right _ ((List.mem_of_getElem? (i := 6) rfl))))))))
theorem mtX8_found : meX8_found ∈ sm_T := List.mem_append_right _ (List.mem_append_right _ (List.mem_append_right _ (List.mem_append_right _ (List.mem_append_right _ (List.mem_append_right _ (List.mem_append_right _ ((List.mem_of_getElem? (i := 7) rfl))))))))
theorem mtX8_judged : meX8_judged ∈ sm_T := List.mem_append_right _ (List.mem_append_right _ (List.mem_append_right _ (List.mem_append_right _ (List.mem_append_right _ (List.mem_append_right _ (List.mem_append_right _ ((List.mem_of_getElem? (i := 8) rfl))))))))
theorem mtX8_film : meX8_film ∈ sm_T := List.mem_append_right _ (List.mem_append_right _ (List.mem_append_right _ (List.mem_append_right _ (List.mem_append_right _ (List.mem_append_right _ (List.mem_append_right _ ((List.mem_of_getElem? (i := 9) rfl))))))))
theorem mtX8_sheet : meX8_sheet ∈ sm_T := List.mem_append_right _ (List.mem_append_right _ (List.mem_append_right _ (List.mem_append_right _ (List.mem_append_right _ (List.mem_append_right _ (List.mem_append_right _ ((List.mem_of_getElem? (i := 10) rfl))))))))
theorem mtX8_drop : meX8_drop ∈ sm_T := List.mem_append_right _ (List.mem_append_right _ (List.mem_append_right _ (List.mem_append_right _ (List.mem_append_right _ (List.mem_append_right _ (List.mem_append_right _ ((List.mem_of_getElem? (i := 11) rfl))))))))
theorem mtX8_item : meX8_item ∈ sm_T := List.mem_append_right _ (List.mem_append_right _ (List.mem_append_right _ (List.mem_append_right _ (List.mem_append_right _ (List.mem_append_right _ (List.mem_append_right _ ((List.mem_of_getElem? (i := 12) rfl))))))))
theorem mtX8_copy : meX8_copy ∈ sm_T := List.mem_append_right _ (List.mem_append_right _ (List.mem_append_right _ (List.mem_append_right _ (List.mem_append_right _ (List.mem_append_right _ (List.mem_append_right _ ((List.mem_of_getElem? (i := 13) rfl))))))))
theorem mtJ6_bitCount_0f7a4 : meJ6_bitCount_0f7a4 ∈ sm_T := List.mem_append_right _ (List.mem_append_right _ (List.mem_append_right _ (List.mem_append_right _ (List.mem_append_right _ (List.mem_append_right _ (List.mem_append_right _ ((List.mem_of_getElem? (i := 14) rfl))))))))
