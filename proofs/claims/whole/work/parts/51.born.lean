/-! CONSTRUCTORS: what the tables say of them; new cells -/
set_option maxRecDepth 20000 in
theorem ciX0 : Cond.code yX0_init cX0_init 1 none ∈ lw_tbl := sq1 (i := 31) rfl
set_option maxRecDepth 20000 in
theorem iiX0 : Cond.initialized RX0 ∈ lw_tbl := sq1 (i := 3) rfl
set_option maxRecDepth 20000 in
theorem niX0 : Cond.instanceMethod yX0_init ∈ lw_tbl := sq1 (i := 30) rfl
set_option maxRecDepth 20000 in
theorem oiX0 : Cond.methodLink RX0 3 objectInit ∈ lw_tbl := sq1 (i := 32) rfl
set_option maxRecDepth 20000 in
theorem bnX0 : Cond.instantiable RX0 2 ∈ lw_tbl := sq1 (i := 28) rfl
set_option maxRecDepth 20000 in
theorem ciX1 : Cond.code yX1_init cX1_init 1 none ∈ lw_tbl := sq1 (i := 75) rfl
set_option maxRecDepth 20000 in
theorem iiX1 : Cond.initialized RX1 ∈ lw_tbl := sq1 (i := 5) rfl
set_option maxRecDepth 20000 in
theorem niX1 : Cond.instanceMethod yX1_init ∈ lw_tbl := sq1 (i := 74) rfl
set_option maxRecDepth 20000 in
theorem oiX1 : Cond.methodLink RX1 3 objectInit ∈ lw_tbl := sq1 (i := 76) rfl
set_option maxRecDepth 20000 in
theorem bnX1 : Cond.instantiable RX1 1 ∈ lw_tbl := sq1 (i := 72) rfl
set_option maxRecDepth 20000 in
theorem ciX2 : Cond.code yX2_init cX2_init 1 none ∈ lw_tbl := sq1 (i := 108) rfl
set_option maxRecDepth 20000 in
theorem iiX2 : Cond.initialized RX2 ∈ lw_tbl := sq1 (i := 8) rfl
set_option maxRecDepth 20000 in
theorem niX2 : Cond.instanceMethod yX2_init ∈ lw_tbl := sq1 (i := 107) rfl
set_option maxRecDepth 20000 in
theorem oiX2 : Cond.methodLink RX2 3 objectInit ∈ lw_tbl := sq1 (i := 109) rfl
set_option maxRecDepth 20000 in
theorem bnX2 : Cond.instantiable RX2 3 ∈ lw_tbl := sq1 (i := 105) rfl
set_option maxRecDepth 20000 in
theorem ciX3 : Cond.code yX3_init cX3_init 1 none ∈ lw_tbl := sq1 (i := 81) rfl
set_option maxRecDepth 20000 in
theorem iiX3 : Cond.initialized RX3 ∈ lw_tbl := sq1 (i := 6) rfl
set_option maxRecDepth 20000 in
theorem niX3 : Cond.instanceMethod yX3_init ∈ lw_tbl := sq1 (i := 80) rfl
set_option maxRecDepth 20000 in
theorem oiX3 : Cond.methodLink RX3 3 objectInit ∈ lw_tbl := sq1 (i := 82) rfl
set_option maxRecDepth 20000 in
theorem bnX3 : Cond.instantiable RX3 1 ∈ lw_tbl := sq1 (i := 78) rfl
set_option maxRecDepth 20000 in
theorem ciX4 : Cond.code yX4_init cX4_init 1 none ∈ lw_tbl := sq1 (i := 57) rfl
set_option maxRecDepth 20000 in
theorem iiX4 : Cond.initialized RX4 ∈ lw_tbl := sq1 (i := 4) rfl
set_option maxRecDepth 20000 in
theorem niX4 : Cond.instanceMethod yX4_init ∈ lw_tbl := sq1 (i := 56) rfl
set_option maxRecDepth 20000 in
theorem oiX4 : Cond.methodLink RX4 3 objectInit ∈ lw_tbl := sq1 (i := 58) rfl
set_option maxRecDepth 20000 in
theorem bnX4 : Cond.instantiable RX4 3 ∈ lw_tbl := sq1 (i := 54) rfl
set_option maxRecDepth 20000 in
theorem ciX5 : Cond.code yX5_init cX5_init 1 none ∈ lw_tbl := sq1 (i := 95) rfl
set_option maxRecDepth 20000 in
theorem iiX5 : Cond.initialized RX5 ∈ lw_tbl := sq1 (i := 7) rfl
set_option maxRecDepth 20000 in
theorem niX5 : Cond.instanceMethod yX5_init ∈ lw_tbl := sq1 (i := 94) rfl
set_option maxRecDepth 20000 in
theorem oiX5 : Cond.methodLink RX5 3 objectInit ∈ lw_tbl := sq1 (i := 96) rfl
set_option maxRecDepth 20000 in
theorem bnX5 : Cond.instantiable RX5 1 ∈ lw_tbl := sq1 (i := 92) rfl
set_option maxRecDepth 20000 in
theorem ciX6 : Cond.code yX6_init cX6_init 1 none ∈ lw_tbl := sq1 (i := 25) rfl
set_option maxRecDepth 20000 in
theorem iiX6 : Cond.initialized RX6 ∈ lw_tbl := sq1 (i := 2) rfl
set_option maxRecDepth 20000 in
theorem niX6 : Cond.instanceMethod yX6_init ∈ lw_tbl := sq1 (i := 24) rfl
set_option maxRecDepth 20000 in
theorem oiX6 : Cond.methodLink RX6 3 objectInit ∈ lw_tbl := sq1 (i := 26) rfl
set_option maxRecDepth 20000 in
theorem bnX6 : Cond.instantiable RX6 2 ∈ lw_tbl := sq1 (i := 22) rfl
set_option maxRecDepth 20000 in
theorem ciX7 : Cond.code yX7_init cX7_init 2 none ∈ lw_tbl := sq1 (i := 17) rfl
set_option maxRecDepth 20000 in
theorem iiX7 : Cond.initialized RX7 ∈ lw_tbl := sq1 (i := 1) rfl
set_option maxRecDepth 20000 in
theorem niX7 : Cond.instanceMethod yX7_init ∈ lw_tbl := sq1 (i := 16) rfl
set_option maxRecDepth 20000 in
theorem oiX7 : Cond.methodLink RX7 1 objectInit ∈ lw_tbl := sq1 (i := 18) rfl
set_option maxRecDepth 20000 in
theorem bnX7 : Cond.instantiable RX7 8 ∈ lw_tbl := sq1 (i := 14) rfl
set_option maxRecDepth 20000 in
theorem ciX8 : Cond.code yX8_init cX8_init 2 none ∈ lw_tbl := sq3 (i := 107) rfl
set_option maxRecDepth 20000 in
theorem iiX8 : Cond.initialized RX8 ∈ lw_tbl := sq1 (i := 9) rfl
set_option maxRecDepth 20000 in
theorem niX8 : Cond.instanceMethod yX8_init ∈ lw_tbl := sq3 (i := 106) rfl
set_option maxRecDepth 20000 in
theorem oiX8 : Cond.methodLink RX8 1 objectInit ∈ lw_tbl := sq3 (i := 108) rfl
set_option maxRecDepth 20000 in
theorem bnX8 : Cond.instantiable RX8 15 ∈ lw_tbl := sq3 (i := 104) rfl
set_option maxRecDepth 20000 in
theorem clL_7 : Cond.classLink RL 7 RX7 ∈ lw_tbl := sq1 (i := 13) rfl
set_option maxRecDepth 20000 in
theorem clX7_7 : Cond.classLink RX7 7 RX6 ∈ lw_tbl := sq1 (i := 21) rfl
set_option maxRecDepth 20000 in
theorem clX6_9 : Cond.classLink RX6 9 RX0 ∈ lw_tbl := sq1 (i := 27) rfl
set_option maxRecDepth 20000 in
theorem clX7_23 : Cond.classLink RX7 23 RX4 ∈ lw_tbl := sq1 (i := 53) rfl
set_option maxRecDepth 20000 in
theorem clX7_30 : Cond.classLink RX7 30 RX0 ∈ lw_tbl := sq1 (i := 69) rfl
set_option maxRecDepth 20000 in
theorem clX7_37 : Cond.classLink RX7 37 RX1 ∈ lw_tbl := sq1 (i := 71) rfl
set_option maxRecDepth 20000 in
theorem clX1_9 : Cond.classLink RX1 9 RX3 ∈ lw_tbl := sq1 (i := 77) rfl
set_option maxRecDepth 20000 in
theorem clX7_44 : Cond.classLink RX7 44 RX5 ∈ lw_tbl := sq1 (i := 91) rfl
set_option maxRecDepth 20000 in
theorem clX5_9 : Cond.classLink RX5 9 RX3 ∈ lw_tbl := sq1 (i := 97) rfl
set_option maxRecDepth 20000 in
theorem clX7_51 : Cond.classLink RX7 51 RX2 ∈ lw_tbl := sq1 (i := 103) rfl
set_option maxRecDepth 20000 in
theorem clL_10 : Cond.classLink RL 10 RX8 ∈ lw_tbl := sq3 (i := 103) rfl
set_option maxRecDepth 20000 in
theorem oi_n : Cond.instanceMethod objectInit ∈ lw_tbl := sq1 (i := 19) rfl
set_option maxRecDepth 20000 in
theorem oi_c0 : Cond.code objectInit object_method_1_code 1 none ∈ lw_tbl := sq1 (i := 20) rfl
theorem oi_c : Cond.code objectInit ⟨#[0xb1]⟩ 1 none ∈ lw_tbl := oi_c0
set_option maxRecDepth 20000 in
theorem ac_44 : Cond.arrayClass .int ∈ lw_tbl := sq1 (i := 44) rfl
set_option maxRecDepth 20000 in
theorem ao_104 : Cond.arrayOver (.object "NineLies$Sheet") ∈ lw_tbl := sq1 (i := 104) rfl
