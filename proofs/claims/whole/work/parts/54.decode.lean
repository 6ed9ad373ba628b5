/-! THE CONSTRUCTORS, row by row -/
theorem dX0_init_0 : decode cX0_init 0 = .ok (.aload_n 0, 1) := by decide +kernel
theorem dX0_init_1 : decode cX0_init 1 = .ok (.invokespecial 3, 3) := by decide +kernel
theorem dX0_init_4 : decode cX0_init 4 = .ok (.aload_n 0, 1) := by decide +kernel
theorem dX0_init_5 : decode cX0_init 5 = .ok (.bipush 84, 2) := by decide +kernel
theorem dX0_init_7 : decode cX0_init 7 = .ok (.newarray .int, 2) := by decide +kernel
theorem dX0_init_9 : decode cX0_init 9 = .ok (.putfield 9, 3) := by decide +kernel
theorem dX0_init_12 : decode cX0_init 12 = .ok (.aload_n 0, 1) := by decide +kernel
theorem dX0_init_13 : decode cX0_init 13 = .ok (.iconst 0, 1) := by decide +kernel
theorem dX0_init_14 : decode cX0_init 14 = .ok (.putfield 15, 3) := by decide +kernel
theorem dX0_init_17 : decode cX0_init 17 = .ok (.return_, 1) := by decide +kernel
theorem dX1_init_0 : decode cX1_init 0 = .ok (.aload_n 0, 1) := by decide +kernel
theorem dX1_init_1 : decode cX1_init 1 = .ok (.invokespecial 3, 3) := by decide +kernel
theorem dX1_init_4 : decode cX1_init 4 = .ok (.aload_n 0, 1) := by decide +kernel
theorem dX1_init_5 : decode cX1_init 5 = .ok (.new 9, 3) := by decide +kernel
theorem dX1_init_8 : decode cX1_init 8 = .ok (.dup, 1) := by decide +kernel
theorem dX1_init_9 : decode cX1_init 9 = .ok (.invokespecial 11, 3) := by decide +kernel
theorem dX1_init_12 : decode cX1_init 12 = .ok (.putfield 12, 3) := by decide +kernel
theorem dX1_init_15 : decode cX1_init 15 = .ok (.return_, 1) := by decide +kernel
theorem dX2_init_0 : decode cX2_init 0 = .ok (.aload_n 0, 1) := by decide +kernel
theorem dX2_init_1 : decode cX2_init 1 = .ok (.invokespecial 3, 3) := by decide +kernel
theorem dX2_init_4 : decode cX2_init 4 = .ok (.aload_n 0, 1) := by decide +kernel
theorem dX2_init_5 : decode cX2_init 5 = .ok (.bipush 28, 2) := by decide +kernel
theorem dX2_init_7 : decode cX2_init 7 = .ok (.newarray .int, 2) := by decide +kernel
theorem dX2_init_9 : decode cX2_init 9 = .ok (.putfield 9, 3) := by decide +kernel
theorem dX2_init_12 : decode cX2_init 12 = .ok (.aload_n 0, 1) := by decide +kernel
theorem dX2_init_13 : decode cX2_init 13 = .ok (.iconst (-1), 1) := by decide +kernel
theorem dX2_init_14 : decode cX2_init 14 = .ok (.putfield 15, 3) := by decide +kernel
theorem dX2_init_17 : decode cX2_init 17 = .ok (.aload_n 0, 1) := by decide +kernel
theorem dX2_init_18 : decode cX2_init 18 = .ok (.iconst 0, 1) := by decide +kernel
theorem dX2_init_19 : decode cX2_init 19 = .ok (.putfield 19, 3) := by decide +kernel
theorem dX2_init_22 : decode cX2_init 22 = .ok (.return_, 1) := by decide +kernel
theorem dX3_init_0 : decode cX3_init 0 = .ok (.aload_n 0, 1) := by decide +kernel
theorem dX3_init_1 : decode cX3_init 1 = .ok (.invokespecial 3, 3) := by decide +kernel
theorem dX3_init_4 : decode cX3_init 4 = .ok (.aload_n 0, 1) := by decide +kernel
theorem dX3_init_5 : decode cX3_init 5 = .ok (.sipush 290, 3) := by decide +kernel
theorem dX3_init_8 : decode cX3_init 8 = .ok (.newarray .int, 2) := by decide +kernel
theorem dX3_init_10 : decode cX3_init 10 = .ok (.putfield 9, 3) := by decide +kernel
theorem dX3_init_13 : decode cX3_init 13 = .ok (.return_, 1) := by decide +kernel
theorem dX4_init_0 : decode cX4_init 0 = .ok (.aload_n 0, 1) := by decide +kernel
theorem dX4_init_1 : decode cX4_init 1 = .ok (.invokespecial 3, 3) := by decide +kernel
theorem dX4_init_4 : decode cX4_init 4 = .ok (.aload_n 0, 1) := by decide +kernel
theorem dX4_init_5 : decode cX4_init 5 = .ok (.sipush 200, 3) := by decide +kernel
theorem dX4_init_8 : decode cX4_init 8 = .ok (.newarray .int, 2) := by decide +kernel
theorem dX4_init_10 : decode cX4_init 10 = .ok (.putfield 9, 3) := by decide +kernel
theorem dX4_init_13 : decode cX4_init 13 = .ok (.aload_n 0, 1) := by decide +kernel
theorem dX4_init_14 : decode cX4_init 14 = .ok (.iconst 0, 1) := by decide +kernel
theorem dX4_init_15 : decode cX4_init 15 = .ok (.putfield 15, 3) := by decide +kernel
theorem dX4_init_18 : decode cX4_init 18 = .ok (.aload_n 0, 1) := by decide +kernel
theorem dX4_init_19 : decode cX4_init 19 = .ok (.iconst 0, 1) := by decide +kernel
theorem dX4_init_20 : decode cX4_init 20 = .ok (.putfield 19, 3) := by decide +kernel
theorem dX4_init_23 : decode cX4_init 23 = .ok (.return_, 1) := by decide +kernel
theorem dX5_init_0 : decode cX5_init 0 = .ok (.aload_n 0, 1) := by decide +kernel
theorem dX5_init_1 : decode cX5_init 1 = .ok (.invokespecial 3, 3) := by decide +kernel
theorem dX5_init_4 : decode cX5_init 4 = .ok (.aload_n 0, 1) := by decide +kernel
theorem dX5_init_5 : decode cX5_init 5 = .ok (.new 9, 3) := by decide +kernel
theorem dX5_init_8 : decode cX5_init 8 = .ok (.dup, 1) := by decide +kernel
theorem dX5_init_9 : decode cX5_init 9 = .ok (.invokespecial 11, 3) := by decide +kernel
theorem dX5_init_12 : decode cX5_init 12 = .ok (.putfield 12, 3) := by decide +kernel
theorem dX5_init_15 : decode cX5_init 15 = .ok (.return_, 1) := by decide +kernel
theorem dX6_init_0 : decode cX6_init 0 = .ok (.aload_n 0, 1) := by decide +kernel
theorem dX6_init_1 : decode cX6_init 1 = .ok (.invokespecial 3, 3) := by decide +kernel
theorem dX6_init_4 : decode cX6_init 4 = .ok (.aload_n 0, 1) := by decide +kernel
theorem dX6_init_5 : decode cX6_init 5 = .ok (.new 9, 3) := by decide +kernel
theorem dX6_init_8 : decode cX6_init 8 = .ok (.dup, 1) := by decide +kernel
theorem dX6_init_9 : decode cX6_init 9 = .ok (.invokespecial 11, 3) := by decide +kernel
theorem dX6_init_12 : decode cX6_init 12 = .ok (.putfield 12, 3) := by decide +kernel
theorem dX6_init_15 : decode cX6_init 15 = .ok (.aload_n 0, 1) := by decide +kernel
theorem dX6_init_16 : decode cX6_init 16 = .ok (.iconst 4, 1) := by decide +kernel
theorem dX6_init_17 : decode cX6_init 17 = .ok (.newarray .int, 2) := by decide +kernel
theorem dX6_init_19 : decode cX6_init 19 = .ok (.dup, 1) := by decide +kernel
theorem dX6_init_20 : decode cX6_init 20 = .ok (.iconst 0, 1) := by decide +kernel
theorem dX6_init_21 : decode cX6_init 21 = .ok (.bipush 9, 2) := by decide +kernel
theorem dX6_init_23 : decode cX6_init 23 = .ok (.iastore, 1) := by decide +kernel
theorem dX6_init_24 : decode cX6_init 24 = .ok (.dup, 1) := by decide +kernel
theorem dX6_init_25 : decode cX6_init 25 = .ok (.iconst 1, 1) := by decide +kernel
theorem dX6_init_26 : decode cX6_init 26 = .ok (.iconst 0, 1) := by decide +kernel
theorem dX6_init_27 : decode cX6_init 27 = .ok (.iastore, 1) := by decide +kernel
theorem dX6_init_28 : decode cX6_init 28 = .ok (.dup, 1) := by decide +kernel
theorem dX6_init_29 : decode cX6_init 29 = .ok (.iconst 2, 1) := by decide +kernel
theorem dX6_init_30 : decode cX6_init 30 = .ok (.iconst 4, 1) := by decide +kernel
theorem dX6_init_31 : decode cX6_init 31 = .ok (.iastore, 1) := by decide +kernel
theorem dX6_init_32 : decode cX6_init 32 = .ok (.dup, 1) := by decide +kernel
theorem dX6_init_33 : decode cX6_init 33 = .ok (.iconst 3, 1) := by decide +kernel
theorem dX6_init_34 : decode cX6_init 34 = .ok (.iconst 1, 1) := by decide +kernel
theorem dX6_init_35 : decode cX6_init 35 = .ok (.iastore, 1) := by decide +kernel
theorem dX6_init_36 : decode cX6_init 36 = .ok (.putfield 18, 3) := by decide +kernel
theorem dX6_init_39 : decode cX6_init 39 = .ok (.return_, 1) := by decide +kernel
theorem dX7_init_0 : decode cX7_init 0 = .ok (.aload_n 0, 1) := by decide +kernel
theorem dX7_init_1 : decode cX7_init 1 = .ok (.invokespecial 1, 3) := by decide +kernel
theorem dX7_init_4 : decode cX7_init 4 = .ok (.aload_n 0, 1) := by decide +kernel
theorem dX7_init_5 : decode cX7_init 5 = .ok (.new 7, 3) := by decide +kernel
theorem dX7_init_8 : decode cX7_init 8 = .ok (.dup, 1) := by decide +kernel
theorem dX7_init_9 : decode cX7_init 9 = .ok (.invokespecial 9, 3) := by decide +kernel
theorem dX7_init_12 : decode cX7_init 12 = .ok (.putfield 10, 3) := by decide +kernel
theorem dX7_init_15 : decode cX7_init 15 = .ok (.aload_n 0, 1) := by decide +kernel
theorem dX7_init_16 : decode cX7_init 16 = .ok (.new 7, 3) := by decide +kernel
theorem dX7_init_19 : decode cX7_init 19 = .ok (.dup, 1) := by decide +kernel
theorem dX7_init_20 : decode cX7_init 20 = .ok (.invokespecial 9, 3) := by decide +kernel
theorem dX7_init_23 : decode cX7_init 23 = .ok (.putfield 16, 3) := by decide +kernel
theorem dX7_init_26 : decode cX7_init 26 = .ok (.aload_n 0, 1) := by decide +kernel
theorem dX7_init_27 : decode cX7_init 27 = .ok (.iconst 0, 1) := by decide +kernel
theorem dX7_init_28 : decode cX7_init 28 = .ok (.putfield 19, 3) := by decide +kernel
theorem dX7_init_31 : decode cX7_init 31 = .ok (.aload_n 0, 1) := by decide +kernel
theorem dX7_init_32 : decode cX7_init 32 = .ok (.new 23, 3) := by decide +kernel
theorem dX7_init_35 : decode cX7_init 35 = .ok (.dup, 1) := by decide +kernel
theorem dX7_init_36 : decode cX7_init 36 = .ok (.invokespecial 25, 3) := by decide +kernel
theorem dX7_init_39 : decode cX7_init 39 = .ok (.putfield 26, 3) := by decide +kernel
theorem dX7_init_42 : decode cX7_init 42 = .ok (.aload_n 0, 1) := by decide +kernel
theorem dX7_init_43 : decode cX7_init 43 = .ok (.new 30, 3) := by decide +kernel
theorem dX7_init_46 : decode cX7_init 46 = .ok (.dup, 1) := by decide +kernel
theorem dX7_init_47 : decode cX7_init 47 = .ok (.invokespecial 32, 3) := by decide +kernel
theorem dX7_init_50 : decode cX7_init 50 = .ok (.putfield 33, 3) := by decide +kernel
theorem dX7_init_53 : decode cX7_init 53 = .ok (.aload_n 0, 1) := by decide +kernel
theorem dX7_init_54 : decode cX7_init 54 = .ok (.new 37, 3) := by decide +kernel
theorem dX7_init_57 : decode cX7_init 57 = .ok (.dup, 1) := by decide +kernel
theorem dX7_init_58 : decode cX7_init 58 = .ok (.invokespecial 39, 3) := by decide +kernel
theorem dX7_init_61 : decode cX7_init 61 = .ok (.putfield 40, 3) := by decide +kernel
theorem dX7_init_64 : decode cX7_init 64 = .ok (.aload_n 0, 1) := by decide +kernel
theorem dX7_init_65 : decode cX7_init 65 = .ok (.new 44, 3) := by decide +kernel
theorem dX7_init_68 : decode cX7_init 68 = .ok (.dup, 1) := by decide +kernel
theorem dX7_init_69 : decode cX7_init 69 = .ok (.invokespecial 46, 3) := by decide +kernel
theorem dX7_init_72 : decode cX7_init 72 = .ok (.putfield 47, 3) := by decide +kernel
theorem dX7_init_75 : decode cX7_init 75 = .ok (.aload_n 0, 1) := by decide +kernel
theorem dX7_init_76 : decode cX7_init 76 = .ok (.iconst 4, 1) := by decide +kernel
theorem dX7_init_77 : decode cX7_init 77 = .ok (.anewarray 51, 3) := by decide +kernel
theorem dX7_init_80 : decode cX7_init 80 = .ok (.putfield 53, 3) := by decide +kernel
theorem dX7_init_83 : decode cX7_init 83 = .ok (.iconst 0, 1) := by decide +kernel
theorem dX7_init_84 : decode cX7_init 84 = .ok (.istore_n 1, 1) := by decide +kernel
theorem dX7_init_85 : decode cX7_init 85 = .ok (.iload_n 1, 1) := by decide +kernel
theorem dX7_init_86 : decode cX7_init 86 = .ok (.aload_n 0, 1) := by decide +kernel
theorem dX7_init_87 : decode cX7_init 87 = .ok (.getfield 53, 3) := by decide +kernel
theorem dX7_init_90 : decode cX7_init 90 = .ok (.arraylength, 1) := by decide +kernel
theorem dX7_init_91 : decode cX7_init 91 = .ok (.if_icmp .ge 22, 3) := by decide +kernel
theorem dX7_init_94 : decode cX7_init 94 = .ok (.aload_n 0, 1) := by decide +kernel
theorem dX7_init_95 : decode cX7_init 95 = .ok (.getfield 53, 3) := by decide +kernel
theorem dX7_init_98 : decode cX7_init 98 = .ok (.iload_n 1, 1) := by decide +kernel
theorem dX7_init_99 : decode cX7_init 99 = .ok (.new 51, 3) := by decide +kernel
theorem dX7_init_102 : decode cX7_init 102 = .ok (.dup, 1) := by decide +kernel
theorem dX7_init_103 : decode cX7_init 103 = .ok (.invokespecial 57, 3) := by decide +kernel
theorem dX7_init_106 : decode cX7_init 106 = .ok (.aastore, 1) := by decide +kernel
theorem dX7_init_107 : decode cX7_init 107 = .ok (.iinc 1 1, 3) := by decide +kernel
theorem dX7_init_110 : decode cX7_init 110 = .ok (.goto (-25), 3) := by decide +kernel
theorem dX7_init_113 : decode cX7_init 113 = .ok (.return_, 1) := by decide +kernel
theorem dX8_init_0 : decode cX8_init 0 = .ok (.aload_n 0, 1) := by decide +kernel
theorem dX8_init_1 : decode cX8_init 1 = .ok (.invokespecial 1, 3) := by decide +kernel
theorem dX8_init_4 : decode cX8_init 4 = .ok (.aload_n 0, 1) := by decide +kernel
theorem dX8_init_5 : decode cX8_init 5 = .ok (.bipush 89, 2) := by decide +kernel
theorem dX8_init_7 : decode cX8_init 7 = .ok (.newarray .int, 2) := by decide +kernel
theorem dX8_init_9 : decode cX8_init 9 = .ok (.putfield 7, 3) := by decide +kernel
theorem dX8_init_12 : decode cX8_init 12 = .ok (.aload_n 0, 1) := by decide +kernel
theorem dX8_init_13 : decode cX8_init 13 = .ok (.bipush 89, 2) := by decide +kernel
theorem dX8_init_15 : decode cX8_init 15 = .ok (.newarray .int, 2) := by decide +kernel
theorem dX8_init_17 : decode cX8_init 17 = .ok (.putfield 13, 3) := by decide +kernel
theorem dX8_init_20 : decode cX8_init 20 = .ok (.aload_n 0, 1) := by decide +kernel
theorem dX8_init_21 : decode cX8_init 21 = .ok (.sipush 200, 3) := by decide +kernel
theorem dX8_init_24 : decode cX8_init 24 = .ok (.newarray .int, 2) := by decide +kernel
theorem dX8_init_26 : decode cX8_init 26 = .ok (.putfield 16, 3) := by decide +kernel
theorem dX8_init_29 : decode cX8_init 29 = .ok (.aload_n 0, 1) := by decide +kernel
theorem dX8_init_30 : decode cX8_init 30 = .ok (.iconst 4, 1) := by decide +kernel
theorem dX8_init_31 : decode cX8_init 31 = .ok (.newarray .int, 2) := by decide +kernel
theorem dX8_init_33 : decode cX8_init 33 = .ok (.putfield 19, 3) := by decide +kernel
theorem dX8_init_36 : decode cX8_init 36 = .ok (.aload_n 0, 1) := by decide +kernel
theorem dX8_init_37 : decode cX8_init 37 = .ok (.iconst 4, 1) := by decide +kernel
theorem dX8_init_38 : decode cX8_init 38 = .ok (.newarray .int, 2) := by decide +kernel
theorem dX8_init_40 : decode cX8_init 40 = .ok (.putfield 22, 3) := by decide +kernel
theorem dX8_init_43 : decode cX8_init 43 = .ok (.aload_n 0, 1) := by decide +kernel
theorem dX8_init_44 : decode cX8_init 44 = .ok (.bipush 112, 2) := by decide +kernel
theorem dX8_init_46 : decode cX8_init 46 = .ok (.newarray .int, 2) := by decide +kernel
theorem dX8_init_48 : decode cX8_init 48 = .ok (.putfield 25, 3) := by decide +kernel
theorem dX8_init_51 : decode cX8_init 51 = .ok (.aload_n 0, 1) := by decide +kernel
theorem dX8_init_52 : decode cX8_init 52 = .ok (.bipush 84, 2) := by decide +kernel
theorem dX8_init_54 : decode cX8_init 54 = .ok (.newarray .int, 2) := by decide +kernel
theorem dX8_init_56 : decode cX8_init 56 = .ok (.putfield 28, 3) := by decide +kernel
theorem dX8_init_59 : decode cX8_init 59 = .ok (.aload_n 0, 1) := by decide +kernel
theorem dX8_init_60 : decode cX8_init 60 = .ok (.sipush 1160, 3) := by decide +kernel
theorem dX8_init_63 : decode cX8_init 63 = .ok (.newarray .int, 2) := by decide +kernel
theorem dX8_init_65 : decode cX8_init 65 = .ok (.putfield 31, 3) := by decide +kernel
theorem dX8_init_68 : decode cX8_init 68 = .ok (.aload_n 0, 1) := by decide +kernel
theorem dX8_init_69 : decode cX8_init 69 = .ok (.bipush 40, 2) := by decide +kernel
theorem dX8_init_71 : decode cX8_init 71 = .ok (.newarray .int, 2) := by decide +kernel
theorem dX8_init_73 : decode cX8_init 73 = .ok (.putfield 34, 3) := by decide +kernel
theorem dX8_init_76 : decode cX8_init 76 = .ok (.aload_n 0, 1) := by decide +kernel
theorem dX8_init_77 : decode cX8_init 77 = .ok (.bipush 40, 2) := by decide +kernel
theorem dX8_init_79 : decode cX8_init 79 = .ok (.newarray .int, 2) := by decide +kernel
theorem dX8_init_81 : decode cX8_init 81 = .ok (.putfield 37, 3) := by decide +kernel
theorem dX8_init_84 : decode cX8_init 84 = .ok (.aload_n 0, 1) := by decide +kernel
theorem dX8_init_85 : decode cX8_init 85 = .ok (.getfield 7, 3) := by decide +kernel
theorem dX8_init_88 : decode cX8_init 88 = .ok (.iconst 0, 1) := by decide +kernel
theorem dX8_init_89 : decode cX8_init 89 = .ok (.bipush 9, 2) := by decide +kernel
theorem dX8_init_91 : decode cX8_init 91 = .ok (.iastore, 1) := by decide +kernel
theorem dX8_init_92 : decode cX8_init 92 = .ok (.aload_n 0, 1) := by decide +kernel
theorem dX8_init_93 : decode cX8_init 93 = .ok (.getfield 7, 3) := by decide +kernel
theorem dX8_init_96 : decode cX8_init 96 = .ok (.iconst 2, 1) := by decide +kernel
theorem dX8_init_97 : decode cX8_init 97 = .ok (.iconst 4, 1) := by decide +kernel
theorem dX8_init_98 : decode cX8_init 98 = .ok (.iastore, 1) := by decide +kernel
theorem dX8_init_99 : decode cX8_init 99 = .ok (.aload_n 0, 1) := by decide +kernel
theorem dX8_init_100 : decode cX8_init 100 = .ok (.getfield 7, 3) := by decide +kernel
theorem dX8_init_103 : decode cX8_init 103 = .ok (.iconst 3, 1) := by decide +kernel
theorem dX8_init_104 : decode cX8_init 104 = .ok (.iconst 1, 1) := by decide +kernel
theorem dX8_init_105 : decode cX8_init 105 = .ok (.iastore, 1) := by decide +kernel
theorem dX8_init_106 : decode cX8_init 106 = .ok (.iconst 0, 1) := by decide +kernel
theorem dX8_init_107 : decode cX8_init 107 = .ok (.istore_n 1, 1) := by decide +kernel
theorem dX8_init_108 : decode cX8_init 108 = .ok (.iload_n 1, 1) := by decide +kernel
theorem dX8_init_109 : decode cX8_init 109 = .ok (.iconst 4, 1) := by decide +kernel
theorem dX8_init_110 : decode cX8_init 110 = .ok (.if_icmp .ge 16, 3) := by decide +kernel
theorem dX8_init_113 : decode cX8_init 113 = .ok (.aload_n 0, 1) := by decide +kernel
theorem dX8_init_114 : decode cX8_init 114 = .ok (.getfield 19, 3) := by decide +kernel
theorem dX8_init_117 : decode cX8_init 117 = .ok (.iload_n 1, 1) := by decide +kernel
theorem dX8_init_118 : decode cX8_init 118 = .ok (.iconst (-1), 1) := by decide +kernel
theorem dX8_init_119 : decode cX8_init 119 = .ok (.iastore, 1) := by decide +kernel
theorem dX8_init_120 : decode cX8_init 120 = .ok (.iinc 1 1, 3) := by decide +kernel
theorem dX8_init_123 : decode cX8_init 123 = .ok (.goto (-15), 3) := by decide +kernel
theorem dX8_init_126 : decode cX8_init 126 = .ok (.return_, 1) := by decide +kernel
theorem bc_84 : (Int8.ofInt (84)).toInt32 = 84 := by decide
theorem bc_112 : (Int8.ofInt (112)).toInt32 = 112 := by decide
theorem sc_290 : (Int16.ofInt (290)).toInt32 = 290 := by decide
theorem sc_1160 : (Int16.ofInt (1160)).toInt32 = 1160 := by decide
/-! the rules, for a heap that grows behind h0 -/
abbrev z0 : Nat → Int32 := fun _ => 0
theorem gE {h0 l : List sm_C} {j a : Nat} (e : h0.length + j = a) : (h0 ++ l)[a]? = l[j]? := by
  subst e; rw [List.getElem?_append_right (Nat.le_add_right _ _), Nat.add_sub_cancel_left]
theorem sE {h0 l : List sm_C} {j a : Nat} {x : sm_C} (e : h0.length + j = a) : (h0 ++ l).set a x = h0 ++ l.set j x := by
  subst e; rw [List.set_append_right _ _ (Nat.le_add_right _ _), Nat.add_sub_cancel_left]
theorem rbC_le {n n' : Nat} (hn : n ≤ n') {x : sm_C} (h : rbC n x) : rbC n' x := by
  match x, h with
  | .inl (.inl _), _ => trivial
  | .inl (.inr q), h => exact fun j k hk => Nat.lt_of_lt_of_le (h j k hk) hn
  | .inr q, h =>
    intro v hv
    have := h v hv
    cases v <;> first | trivial | exact Nat.lt_of_lt_of_le this hn
theorem rbA_of {h0 l : List sm_C} {L : List (Option Value)} {st : List Value} {n : Nat} (r0 : ∀ x ∈ h0, rbC h0.length x) (hn : h0.length + l.length = n) (hl : ∀ x ∈ l, rbC n x) (hL : ∀ v, some v ∈ L → rb n v) (hs : ∀ v ∈ st, rb n v) : rbA (h0 ++ l) L st := by
  unfold rbA
  rw [List.length_append, hn]
  refine ⟨fun x hx => ?_, hL, hs⟩
  rcases List.mem_append.mp hx with h | h
  · exact rbC_le (by omega) (r0 x h)
  · exact hl x h
def rbV (n : Nat) : Value → Bool
  | .ref k => Nat.blt k n
  | _ => true
def rbX (n : Nat) : sm_C → Bool
  | .inl (.inl _) => true
  | .inl (.inr _) => false
  | .inr q => q.2.all (rbV n)
theorem rbV_ok {n : Nat} {v : Value} (h : rbV n v = true) : rb n v := by
  cases v <;> first | trivial | exact Nat.le_of_ble_eq_true h
theorem rbX_ok {n : Nat} {l : List sm_C} (h : l.all (rbX n) = true) : ∀ x ∈ l, rbC n x := by
  intro x hx
  have := List.all_eq_true.mp h x hx
  match x, this with
  | .inl (.inl _), _ => trivial
  | .inr q, h1 => exact fun v hv => rbV_ok (List.all_eq_true.mp h1 v hv)
theorem rbV_all {n : Nat} {l : List Value} (h : l.all (rbV n) = true) : ∀ v ∈ l, rb n v := fun v hv => rbV_ok (List.all_eq_true.mp h v hv)
def rbO (n : Nat) : Option Value → Bool
  | some v => rbV n v
  | none => true
theorem rbO_all {n : Nat} {L : List (Option Value)} (h : L.all (rbO n) = true) : ∀ v, some v ∈ L → rb n v := fun v hv => rbV_ok (List.all_eq_true.mp h _ hv)
/-- an array of references in the middle -/
def qf (i : Nat) : Nat → Option Nat := fun j => if j < i then some (20 + 2 * j) else none
theorem rbQ {n i : Nat} {l1 l2 : List sm_C} (h1 : l1.all (rbX n) = true) (hi : 20 + 2 * i ≤ n) (h2 : l2.all (rbX n) = true) : ∀ x ∈ l1 ++ hQ 4 (qf i) :: l2, rbC n x := by
  intro x hx
  rcases List.mem_append.mp hx with h | h
  · exact rbX_ok h1 x h
  · rcases List.mem_cons.mp h with rfl | h
    · intro j k hk
      have hk : qf i j = some k := hk
      unfold qf at hk
      split at hk
      · cases hk; omega
      · cases hk
    · exact rbX_ok h2 x h
theorem qf_up {i : Nat} : ∀ z, z < 4 → qf (i + 1) z = va_up (qf i) i (some (20 + 2 * i)) z := by
  intro z _
  unfold qf va_up
  by_cases h : z = i
  · subst h; simp
  · simp only [h, if_false]
    by_cases h2 : z < i
    · rw [if_pos (by omega), if_pos h2]
    · rw [if_neg (by omega), if_neg h2]
section RN9
variable {S : sm_SN} {own : String} {b : ByteArray} {KN : sm_KN} {h0 l0 : List sm_C} {mc ms c s pc : Nat} {L : List (Option Value)} {st : List Value} {l : List sm_C}
theorem rn_obj (RN : sm_RN S own b KN (h0 ++ l0).length mc ms) {h : List sm_C} {i a : Nat} (hd : decode b pc = .ok (.invokespecial i, 3)) (hk : Cond.methodLink own i objectInit ∈ lw_tbl) (hst : (st.map fun v => v.category).sum ≤ 8) (k : KN c s (pc + 3) L st h) : KN c s pc L (.ref a :: st) h := RN.1 hd hk hst k
theorem rn_new (RN : sm_RN S own b KN (h0 ++ l0).length mc ms) {i ci N a : Nat} {C : String} {T : u_T} {fs : List Value} {ty : Nat → FieldType} (hd : decode b pc = .ok (.new i, 3)) (hl : Cond.classLink own i C ∈ lw_tbl) (hi : Cond.instantiable C N ∈ lw_tbl) (hz : Cond.initialized C ∈ lw_tbl) (hc : vwCl[ci]? = some (C, T, N)) (hty : ∀ k, k < N → parseFieldDescriptor (T k).2.2.1 = some (ty k)) (hfs : ∀ j, j < N → defaultValue (ty j) = vp_V fs j) (hnr : ∀ ad : Nat → Nat, fs.map (sm_c ad) = fs) (ha : h0.length + l.length = a) (hr : rbA (h0 ++ l) L st) (hq : l0.length ≤ l.length) (h1 : c + 1 ≤ mc) (h2 : s + N ≤ ms)
    (k : KN (c + 1) (s + N) (pc + 3) L (.ref a :: st) (h0 ++ (l ++ [hO ci fs]))) : KN c s pc L st (h0 ++ l) := by
  subst ha
  refine RN.2.1 ty hd hl hi hz hc hty hfs hnr hr (by rw [List.length_append, List.length_append]; omega) h1 h2 ?_
  rw [List.length_append, List.append_assoc]; exact k
theorem rn_arr (RN : sm_RN S own b KN (h0 ++ l0).length mc ms) {N a : Nat} {x : Int32} (hd : decode b pc = .ok (.newarray .int, 2)) (hx : x = nI N) (hN : N ≤ 100000) (ha : h0.length + l.length = a) (hr : rbA (h0 ++ l) L st) (hq : l0.length ≤ l.length) (h1 : c + 1 ≤ mc) (h2 : s + N ≤ ms)
    (k : KN (c + 1) (s + N) (pc + 2) L (.ref a :: st) (h0 ++ (l ++ [hI N z0]))) : KN c s pc L (.int x :: st) (h0 ++ l) := by
  subst ha
  refine RN.2.2.1 hd hx hN hr (by rw [List.length_append, List.length_append]; omega) h1 h2 ?_
  rw [List.length_append, List.append_assoc]; exact k
theorem rn_arq (RN : sm_RN S own b KN (h0 ++ l0).length mc ms) {i N a : Nat} {x : Int32} (hd : decode b pc = .ok (.anewarray i, 3)) (hl : Cond.classLink own i "NineLies$Sheet" ∈ lw_tbl) (hx : x = nI N) (hN : N ≤ 100000) (ha : h0.length + l.length = a) (hr : rbA (h0 ++ l) L st) (hq : l0.length ≤ l.length) (h1 : c + 1 ≤ mc) (h2 : s + N ≤ ms)
    (k : KN (c + 1) (s + N) (pc + 3) L (.ref a :: st) (h0 ++ (l ++ [hQ N (fun _ => none)]))) : KN c s pc L (.int x :: st) (h0 ++ l) := by
  subst ha
  refine RN.2.2.2.1 hd hl hx hN hr (by rw [List.length_append, List.length_append]; omega) h1 h2 ?_
  rw [List.length_append, List.append_assoc]; exact k
theorem rn_putF (RN : sm_RN S own b KN (h0 ++ l0).length mc ms) {i a ci j v z : Nat} {fs : List Value} {ty : FieldType} (hd : decode b pc = .ok (.putfield i, 3)) (hF : sm_FF own i ci j ty) (hn : ∀ q, narrow ty (.ref q) = .ref q ∧ fits ty (.ref q) = true) (ha : h0.length + z = a) (hh : l[z]? = some (hO ci fs)) (hj : j < fs.length) (k : KN c s (pc + 3) L st (h0 ++ l.set z (hO ci (fs.set j (.ref v))))) : KN c s pc L (.ref v :: .ref a :: st) (h0 ++ l) := by
  refine RN.2.2.2.2.1 hd hF hn ((gE ha).trans hh) hj ?_
  rw [sE ha]; exact k
theorem rn_putI (R : sm_R own b (KN c s)) {i a ci j z : Nat} {fs : List Value} {x : Int32} (hd : decode b pc = .ok (.putfield i, 3)) (hF : sm_FP own i ci j "I") (ha : h0.length + z = a) (hh : l[z]? = some (hO ci fs)) (hj : j < fs.length) (k : KN c s (pc + 3) L st (h0 ++ l.set z (hO ci (fs.set j (.int x))))) : KN c s pc L (.int x :: .ref a :: st) (h0 ++ l) := by
  refine rl_putI R hd hF ((gE ha).trans hh) hj ?_
  rw [sE ha]; exact k
theorem rn_putZ (R : sm_R own b (KN c s)) {i a ci j z : Nat} {fs : List Value} (hd : decode b pc = .ok (.putfield i, 3)) (hF : sm_FP own i ci j "Z") (ha : h0.length + z = a) (hh : l[z]? = some (hO ci fs)) (hj : j < fs.length) (k : KN c s (pc + 3) L st (h0 ++ l.set z (hO ci (fs.set j (.int 0))))) : KN c s pc L (.int 0 :: .ref a :: st) (h0 ++ l) := by
  refine rl_putZ R hd hF ((gE ha).trans hh) hj (by decide) ?_
  rw [sE ha]; exact k
theorem rn_iast (R : sm_R own b (KN c s)) {a n j z : Nat} {f : Nat → Int32} {i x : Int32} (hd : decode b pc = .ok (.iastore, 1)) (ha : h0.length + z = a) (hh : l[z]? = some (hI n f)) (hi : i = nI j) (hj : j < n) (hN : n < 2147483648) (k : KN c s (pc + 1) L st (h0 ++ l.set z (hI n (upd f j x)))) : KN c s pc L (.int x :: .int i :: .ref a :: st) (h0 ++ l) := by
  refine rl_iast R hd ((gE ha).trans hh) hi hj hN ?_
  rw [sE ha]; exact k
theorem rn_ast (RN : sm_RN S own b KN (h0 ++ l0).length mc ms) {a j n v z zv : Nat} {f g : Nat → Option Nat} {vs : List Value} {i : Int32} (hd : decode b pc = .ok (.aastore, 1)) (ha : h0.length + z = a) (hh : l[z]? = some (hQ n f)) (hi : i = nI j) (hj : j < n) (hN : n < 2147483648) (hv : h0.length + zv = v) (hw : l[zv]? = some (hO 2 vs)) (hg : ∀ z, z < n → g z = va_up f j (some v) z) (k : KN c s (pc + 1) L st (h0 ++ l.set z (hQ n g))) : KN c s pc L (.ref v :: .int i :: .ref a :: st) (h0 ++ l) := by
  refine RN.2.2.2.2.2.1 hd ((gE ha).trans hh) hi hj hN ((gE hv).trans hw) hg ?_
  rw [sE ha]; exact k
theorem rn_ini (RN : sm_RN S own b KN (h0 ++ l0).length mc ms) {i a m2 s2 : Nat} {y : MethodName} {o o2 : List sm_C} (hd : decode b pc = .ok (.invokespecial i, 3)) (hk : sm_L own i y) (hst : (st.map fun v => v.category).sum ≤ 8) (hS : S y a ((h0 ++ l) ++ o) ((h0 ++ l) ++ o2) m2 s2) (hr : rbA (h0 ++ (l ++ o)) L st) (hq : l0.length ≤ l.length + o.length) (hc : c + m2 ≤ mc) (h2 : s + s2 ≤ ms) (k : KN (c + m2) (s + s2) (pc + 3) L st (h0 ++ (l ++ o2))) : KN c s pc L (.ref a :: st) (h0 ++ (l ++ o)) := by
  rw [List.append_assoc, List.append_assoc] at hS
  exact RN.2.2.2.2.2.2 hd hk hst hS hr (by rw [List.length_append, List.length_append, List.length_append]; omega) hc h2 k
end RN9
theorem nr_o (ad : Nat → Nat) : ([.null, .int 0] : List Value).map (sm_c ad) = [.null, .int 0] := rfl
