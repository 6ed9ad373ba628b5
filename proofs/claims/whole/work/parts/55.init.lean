/-! THE CONSTRUCTORS -/
set_option maxRecDepth 20000 in
theorem ffX0_9 : sm_FF RX0 9 0 0 (.array .int) := ⟨RX0, TX0, 2, rfl, by decide, rfl, rfl, tyX0_ok 0 (by decide), sq1 (i := 33) rfl⟩
set_option maxRecDepth 20000 in
theorem ffX6_12 : sm_FF RX6 12 6 0 (.object "NineLies$Days") := ⟨RX6, TX6, 2, rfl, by decide, rfl, rfl, tyX6_ok 0 (by decide), sq1 (i := 45) rfl⟩
set_option maxRecDepth 20000 in
theorem ffX6_18 : sm_FF RX6 18 6 1 (.array .int) := ⟨RX6, TX6, 2, rfl, by decide, rfl, rfl, tyX6_ok 1 (by decide), sq1 (i := 47) rfl⟩
set_option maxRecDepth 20000 in
theorem ffX4_9 : sm_FF RX4 9 4 0 (.array .int) := ⟨RX4, TX4, 3, rfl, by decide, rfl, rfl, tyX4_ok 0 (by decide), sq1 (i := 59) rfl⟩
set_option maxRecDepth 20000 in
theorem ffX3_9 : sm_FF RX3 9 3 0 (.array .int) := ⟨RX3, TX3, 1, rfl, by decide, rfl, rfl, tyX3_ok 0 (by decide), sq1 (i := 83) rfl⟩
set_option maxRecDepth 20000 in
theorem ffX1_12 : sm_FF RX1 12 1 0 (.object "NineLies$Table") := ⟨RX1, TX1, 1, rfl, by decide, rfl, rfl, tyX1_ok 0 (by decide), sq1 (i := 87) rfl⟩
set_option maxRecDepth 20000 in
theorem ffX5_12 : sm_FF RX5 12 5 0 (.object "NineLies$Table") := ⟨RX5, TX5, 1, rfl, by decide, rfl, rfl, tyX5_ok 0 (by decide), sq1 (i := 99) rfl⟩
set_option maxRecDepth 20000 in
theorem ffX2_9 : sm_FF RX2 9 2 0 (.array .int) := ⟨RX2, TX2, 3, rfl, by decide, rfl, rfl, tyX2_ok 0 (by decide), sq1 (i := 110) rfl⟩
set_option maxRecDepth 20000 in
theorem ffX7_10 : sm_FF RX7 10 7 0 (.object "NineLies$Year") := ⟨RX7, TX7, 8, rfl, by decide, rfl, rfl, tyX7_ok 0 (by decide), sq1 (i := 122) rfl⟩
set_option maxRecDepth 20000 in
theorem ffX7_16 : sm_FF RX7 16 7 1 (.object "NineLies$Year") := ⟨RX7, TX7, 8, rfl, by decide, rfl, rfl, tyX7_ok 1 (by decide), sq1 (i := 123) rfl⟩
set_option maxRecDepth 20000 in
theorem ffX7_26 : sm_FF RX7 26 7 3 (.object "NineLies$Tape") := ⟨RX7, TX7, 8, rfl, by decide, rfl, rfl, tyX7_ok 3 (by decide), sq1 (i := 125) rfl⟩
set_option maxRecDepth 20000 in
theorem ffX7_33 : sm_FF RX7 33 7 4 (.object "NineLies$Days") := ⟨RX7, TX7, 8, rfl, by decide, rfl, rfl, tyX7_ok 4 (by decide), sq1 (i := 126) rfl⟩
set_option maxRecDepth 20000 in
theorem ffX7_40 : sm_FF RX7 40 7 5 (.object "NineLies$Harm") := ⟨RX7, TX7, 8, rfl, by decide, rfl, rfl, tyX7_ok 5 (by decide), sq1 (i := 127) rfl⟩
set_option maxRecDepth 20000 in
theorem ffX7_47 : sm_FF RX7 47 7 6 (.object "NineLies$Words") := ⟨RX7, TX7, 8, rfl, by decide, rfl, rfl, tyX7_ok 6 (by decide), sq1 (i := 128) rfl⟩
set_option maxRecDepth 20000 in
theorem ffX7_53 : sm_FF RX7 53 7 7 (.array (.object "NineLies$Sheet")) := ⟨RX7, TX7, 8, rfl, by decide, rfl, rfl, tyX7_ok 7 (by decide), sq1 (i := 129) rfl⟩
set_option maxRecDepth 20000 in
theorem ffX8_7 : sm_FF RX8 7 8 0 (.array .int) := ⟨RX8, TX8, 15, rfl, by decide, rfl, rfl, tyX8_ok 0 (by decide), sq3 (i := 109) rfl⟩
set_option maxRecDepth 20000 in
theorem ffX8_13 : sm_FF RX8 13 8 1 (.array .int) := ⟨RX8, TX8, 15, rfl, by decide, rfl, rfl, tyX8_ok 1 (by decide), sq3 (i := 110) rfl⟩
set_option maxRecDepth 20000 in
theorem ffX8_16 : sm_FF RX8 16 8 3 (.array .int) := ⟨RX8, TX8, 15, rfl, by decide, rfl, rfl, tyX8_ok 3 (by decide), sq3 (i := 112) rfl⟩
set_option maxRecDepth 20000 in
theorem ffX8_19 : sm_FF RX8 19 8 5 (.array .int) := ⟨RX8, TX8, 15, rfl, by decide, rfl, rfl, tyX8_ok 5 (by decide), sq3 (i := 114) rfl⟩
set_option maxRecDepth 20000 in
theorem ffX8_22 : sm_FF RX8 22 8 6 (.array .int) := ⟨RX8, TX8, 15, rfl, by decide, rfl, rfl, tyX8_ok 6 (by decide), sq3 (i := 115) rfl⟩
set_option maxRecDepth 20000 in
theorem ffX8_25 : sm_FF RX8 25 8 7 (.array .int) := ⟨RX8, TX8, 15, rfl, by decide, rfl, rfl, tyX8_ok 7 (by decide), sq3 (i := 116) rfl⟩
set_option maxRecDepth 20000 in
theorem ffX8_28 : sm_FF RX8 28 8 11 (.array .int) := ⟨RX8, TX8, 15, rfl, by decide, rfl, rfl, tyX8_ok 11 (by decide), sq3 (i := 120) rfl⟩
set_option maxRecDepth 20000 in
theorem ffX8_31 : sm_FF RX8 31 8 12 (.array .int) := ⟨RX8, TX8, 15, rfl, by decide, rfl, rfl, tyX8_ok 12 (by decide), sq3 (i := 121) rfl⟩
set_option maxRecDepth 20000 in
theorem ffX8_34 : sm_FF RX8 34 8 13 (.array .int) := ⟨RX8, TX8, 15, rfl, by decide, rfl, rfl, tyX8_ok 13 (by decide), sq3 (i := 122) rfl⟩
set_option maxRecDepth 20000 in
theorem ffX8_37 : sm_FF RX8 37 8 14 (.array .int) := ⟨RX8, TX8, 15, rfl, by decide, rfl, rfl, tyX8_ok 14 (by decide), sq3 (i := 123) rfl⟩
theorem nb_X0 {d k : Nat} {h0 : List sm_C} (hk : h0.length = k) (r0 : ∀ x ∈ h0, rbC h0.length x) : NB (d + 1) yX0_init k (h0 ++ [hO 0 [.null, .int 0]]) (h0 ++ [hO 0 [.ref (k + 1), .int 0], hI 84 z0]) 1 84 := by
  refine ⟨(yX0_init, cX0_init, 1), List.mem_of_getElem? (i := 0) rfl, rfl, fun KN R RN E => ?_⟩
  show KN 0 0 0 [some (.ref k)] [] (h0 ++ [hO 0 [.null, .int 0]])
  refine rl_aload_n (pc := 0) (R _ _) dX0_init_0 rfl ?_
  refine rn_obj RN dX0_init_1 oiX0 (Nat.le_of_ble_eq_true rfl) ?_
  refine rl_aload_n (pc := 4) (R _ _) dX0_init_4 rfl ?_
  refine rl_bipush (pc := 5) (R _ _) dX0_init_5 bc_84 ?_
  refine rn_arr (N := 84) RN dX0_init_7 (by decide) (Nat.le_of_ble_eq_true rfl) (a := k + 1) (hk ▸ rfl) (rbA_of (n := k + 1) r0 (hk ▸ rfl) (by simp [rbC, rb]) (by simp [rb]) (by simp [rb])) (Nat.le_of_ble_eq_true rfl) (Nat.le_of_ble_eq_true rfl) (Nat.le_of_ble_eq_true rfl) ?_
  show KN 1 84 9 [some (.ref k)] [.ref (k + 1), .ref k] (h0 ++ [hO 0 [.null, .int 0], hI 84 z0])
  refine rn_putF (z := 0) RN dX0_init_9 ffX0_9 (fun _ => ⟨rfl, rfl⟩) hk rfl (Nat.le_of_ble_eq_true rfl) ?_
  show KN 1 84 12 [some (.ref k)] [] (h0 ++ [hO 0 [.ref (k + 1), .int 0], hI 84 z0])
  refine rl_aload_n (pc := 12) (R _ _) dX0_init_12 rfl ?_
  refine rl_iconst (pc := 13) (R _ _) dX0_init_13 ic_0 ?_
  refine rn_putI (z := 0) (R _ _) dX0_init_14 fpX0_15 hk rfl (Nat.le_of_ble_eq_true rfl) ?_
  show KN 1 84 17 [some (.ref k)] [] (h0 ++ [hO 0 [.ref (k + 1), .int 0], hI 84 z0])
  exact E dX0_init_17
theorem nb_X2 {d k : Nat} {h0 : List sm_C} (hk : h0.length = k) (r0 : ∀ x ∈ h0, rbC h0.length x) : NB (d + 1) yX2_init k (h0 ++ [hO 2 [.null, .int 0, .int 0]]) (h0 ++ [hO 2 [.ref (k + 1), .int (-1), .int 0], hI 28 z0]) 1 28 := by
  refine ⟨(yX2_init, cX2_init, 1), List.mem_of_getElem? (i := 2) rfl, rfl, fun KN R RN E => ?_⟩
  show KN 0 0 0 [some (.ref k)] [] (h0 ++ [hO 2 [.null, .int 0, .int 0]])
  refine rl_aload_n (pc := 0) (R _ _) dX2_init_0 rfl ?_
  refine rn_obj RN dX2_init_1 oiX2 (Nat.le_of_ble_eq_true rfl) ?_
  refine rl_aload_n (pc := 4) (R _ _) dX2_init_4 rfl ?_
  refine rl_bipush (pc := 5) (R _ _) dX2_init_5 bc_28 ?_
  refine rn_arr (N := 28) RN dX2_init_7 (by decide) (Nat.le_of_ble_eq_true rfl) (a := k + 1) (hk ▸ rfl) (rbA_of (n := k + 1) r0 (hk ▸ rfl) (by simp [rbC, rb]) (by simp [rb]) (by simp [rb])) (Nat.le_of_ble_eq_true rfl) (Nat.le_of_ble_eq_true rfl) (Nat.le_of_ble_eq_true rfl) ?_
  show KN 1 28 9 [some (.ref k)] [.ref (k + 1), .ref k] (h0 ++ [hO 2 [.null, .int 0, .int 0], hI 28 z0])
  refine rn_putF (z := 0) RN dX2_init_9 ffX2_9 (fun _ => ⟨rfl, rfl⟩) hk rfl (Nat.le_of_ble_eq_true rfl) ?_
  show KN 1 28 12 [some (.ref k)] [] (h0 ++ [hO 2 [.ref (k + 1), .int 0, .int 0], hI 28 z0])
  refine rl_aload_n (pc := 12) (R _ _) dX2_init_12 rfl ?_
  refine rl_iconst (pc := 13) (R _ _) dX2_init_13 ic_m1 ?_
  refine rn_putI (z := 0) (R _ _) dX2_init_14 fpX2_15 hk rfl (Nat.le_of_ble_eq_true rfl) ?_
  show KN 1 28 17 [some (.ref k)] [] (h0 ++ [hO 2 [.ref (k + 1), .int (-1), .int 0], hI 28 z0])
  refine rl_aload_n (pc := 17) (R _ _) dX2_init_17 rfl ?_
  refine rl_iconst (pc := 18) (R _ _) dX2_init_18 ic_0 ?_
  refine rn_putI (z := 0) (R _ _) dX2_init_19 fpX2_19 hk rfl (Nat.le_of_ble_eq_true rfl) ?_
  show KN 1 28 22 [some (.ref k)] [] (h0 ++ [hO 2 [.ref (k + 1), .int (-1), .int 0], hI 28 z0])
  exact E dX2_init_22
theorem nb_X3 {d k : Nat} {h0 : List sm_C} (hk : h0.length = k) (r0 : ∀ x ∈ h0, rbC h0.length x) : NB (d + 1) yX3_init k (h0 ++ [hO 3 [.null]]) (h0 ++ [hO 3 [.ref (k + 1)], hI 290 z0]) 1 290 := by
  refine ⟨(yX3_init, cX3_init, 1), List.mem_of_getElem? (i := 3) rfl, rfl, fun KN R RN E => ?_⟩
  show KN 0 0 0 [some (.ref k)] [] (h0 ++ [hO 3 [.null]])
  refine rl_aload_n (pc := 0) (R _ _) dX3_init_0 rfl ?_
  refine rn_obj RN dX3_init_1 oiX3 (Nat.le_of_ble_eq_true rfl) ?_
  refine rl_aload_n (pc := 4) (R _ _) dX3_init_4 rfl ?_
  refine rl_sipush (pc := 5) (R _ _) dX3_init_5 sc_290 ?_
  refine rn_arr (N := 290) RN dX3_init_8 (by decide) (Nat.le_of_ble_eq_true rfl) (a := k + 1) (hk ▸ rfl) (rbA_of (n := k + 1) r0 (hk ▸ rfl) (by simp [rbC, rb]) (by simp [rb]) (by simp [rb])) (Nat.le_of_ble_eq_true rfl) (Nat.le_of_ble_eq_true rfl) (Nat.le_of_ble_eq_true rfl) ?_
  show KN 1 290 10 [some (.ref k)] [.ref (k + 1), .ref k] (h0 ++ [hO 3 [.null], hI 290 z0])
  refine rn_putF (z := 0) RN dX3_init_10 ffX3_9 (fun _ => ⟨rfl, rfl⟩) hk rfl (Nat.le_of_ble_eq_true rfl) ?_
  show KN 1 290 13 [some (.ref k)] [] (h0 ++ [hO 3 [.ref (k + 1)], hI 290 z0])
  exact E dX3_init_13
theorem nb_X4 {d k : Nat} {h0 : List sm_C} (hk : h0.length = k) (r0 : ∀ x ∈ h0, rbC h0.length x) : NB (d + 1) yX4_init k (h0 ++ [hO 4 [.null, .int 0, .int 0]]) (h0 ++ [hO 4 [.ref (k + 1), .int 0, .int 0], hI 200 z0]) 1 200 := by
  refine ⟨(yX4_init, cX4_init, 1), List.mem_of_getElem? (i := 4) rfl, rfl, fun KN R RN E => ?_⟩
  show KN 0 0 0 [some (.ref k)] [] (h0 ++ [hO 4 [.null, .int 0, .int 0]])
  refine rl_aload_n (pc := 0) (R _ _) dX4_init_0 rfl ?_
  refine rn_obj RN dX4_init_1 oiX4 (Nat.le_of_ble_eq_true rfl) ?_
  refine rl_aload_n (pc := 4) (R _ _) dX4_init_4 rfl ?_
  refine rl_sipush (pc := 5) (R _ _) dX4_init_5 sc_200 ?_
  refine rn_arr (N := 200) RN dX4_init_8 (by decide) (Nat.le_of_ble_eq_true rfl) (a := k + 1) (hk ▸ rfl) (rbA_of (n := k + 1) r0 (hk ▸ rfl) (by simp [rbC, rb]) (by simp [rb]) (by simp [rb])) (Nat.le_of_ble_eq_true rfl) (Nat.le_of_ble_eq_true rfl) (Nat.le_of_ble_eq_true rfl) ?_
  show KN 1 200 10 [some (.ref k)] [.ref (k + 1), .ref k] (h0 ++ [hO 4 [.null, .int 0, .int 0], hI 200 z0])
  refine rn_putF (z := 0) RN dX4_init_10 ffX4_9 (fun _ => ⟨rfl, rfl⟩) hk rfl (Nat.le_of_ble_eq_true rfl) ?_
  show KN 1 200 13 [some (.ref k)] [] (h0 ++ [hO 4 [.ref (k + 1), .int 0, .int 0], hI 200 z0])
  refine rl_aload_n (pc := 13) (R _ _) dX4_init_13 rfl ?_
  refine rl_iconst (pc := 14) (R _ _) dX4_init_14 ic_0 ?_
  refine rn_putI (z := 0) (R _ _) dX4_init_15 fpX4_15 hk rfl (Nat.le_of_ble_eq_true rfl) ?_
  show KN 1 200 18 [some (.ref k)] [] (h0 ++ [hO 4 [.ref (k + 1), .int 0, .int 0], hI 200 z0])
  refine rl_aload_n (pc := 18) (R _ _) dX4_init_18 rfl ?_
  refine rl_iconst (pc := 19) (R _ _) dX4_init_19 ic_0 ?_
  refine rn_putI (z := 0) (R _ _) dX4_init_20 fpX4_19 hk rfl (Nat.le_of_ble_eq_true rfl) ?_
  show KN 1 200 23 [some (.ref k)] [] (h0 ++ [hO 4 [.ref (k + 1), .int 0, .int 0], hI 200 z0])
  exact E dX4_init_23
theorem nb_X1 {d k : Nat} {h0 : List sm_C} (hk : h0.length = k) (r0 : ∀ x ∈ h0, rbC h0.length x) : NB (d + 2) yX1_init k (h0 ++ [hO 1 [.null]]) (h0 ++ [hO 1 [.ref (k + 1)], hO 3 [.ref (k + 2)], hI 290 z0]) 2 291 := by
  refine ⟨(yX1_init, cX1_init, 1), List.mem_of_getElem? (i := 1) rfl, rfl, fun KN R RN E => ?_⟩
  show KN 0 0 0 [some (.ref k)] [] (h0 ++ [hO 1 [.null]])
  refine rl_aload_n (pc := 0) (R _ _) dX1_init_0 rfl ?_
  refine rn_obj RN dX1_init_1 oiX1 (Nat.le_of_ble_eq_true rfl) ?_
  refine rl_aload_n (pc := 4) (R _ _) dX1_init_4 rfl ?_
  refine rn_new (ci := 3) (N := 1) (C := RX3) (T := TX3) (fs := [.null]) (ty := tyX3) RN dX1_init_5 clX1_9 bnX3 iiX3 rfl tyX3_ok (by decide) (fun _ => rfl) (a := k + 1) (hk ▸ rfl) (rbA_of (n := k + 1) r0 (hk ▸ rfl) (by simp [rbC, rb]) (by simp [rb]) (by simp [rb])) (Nat.le_of_ble_eq_true rfl) (Nat.le_of_ble_eq_true rfl) (Nat.le_of_ble_eq_true rfl) ?_
  show KN 1 1 8 [some (.ref k)] [.ref (k + 1), .ref k] (h0 ++ [hO 1 [.null], hO 3 [.null]])
  refine rl_dup (pc := 8) (R _ _) dX1_init_8 rfl ?_
  refine rn_ini (l := [hO 1 [.null]]) (o := [hO 3 [.null]]) (o2 := [hO 3 [.ref (k + 2)], hI 290 z0]) RN dX1_init_9 lkX1_11 (Nat.le_of_ble_eq_true rfl) (nb_X3 (h0 := h0 ++ [hO 1 [.null]]) (k := k + 1) (by rw [List.length_append, hk]; rfl) (rbA_of (L := []) (st := []) (n := k + 1) r0 (hk ▸ rfl) (by simp [rbC, rb]) (by simp) (by simp)).1) (rbA_of (n := k + 2) r0 (hk ▸ rfl) (by simp [rbC, rb]) (by simp [rb]) (by simp [rb])) (Nat.le_of_ble_eq_true rfl) (Nat.le_of_ble_eq_true rfl) (Nat.le_of_ble_eq_true rfl) ?_
  show KN 2 291 12 [some (.ref k)] [.ref (k + 1), .ref k] (h0 ++ [hO 1 [.null], hO 3 [.ref (k + 2)], hI 290 z0])
  refine rn_putF (z := 0) RN dX1_init_12 ffX1_12 (fun _ => ⟨rfl, rfl⟩) hk rfl (Nat.le_of_ble_eq_true rfl) ?_
  show KN 2 291 15 [some (.ref k)] [] (h0 ++ [hO 1 [.ref (k + 1)], hO 3 [.ref (k + 2)], hI 290 z0])
  exact E dX1_init_15
theorem nb_X5 {d k : Nat} {h0 : List sm_C} (hk : h0.length = k) (r0 : ∀ x ∈ h0, rbC h0.length x) : NB (d + 2) yX5_init k (h0 ++ [hO 5 [.null]]) (h0 ++ [hO 5 [.ref (k + 1)], hO 3 [.ref (k + 2)], hI 290 z0]) 2 291 := by
  refine ⟨(yX5_init, cX5_init, 1), List.mem_of_getElem? (i := 5) rfl, rfl, fun KN R RN E => ?_⟩
  show KN 0 0 0 [some (.ref k)] [] (h0 ++ [hO 5 [.null]])
  refine rl_aload_n (pc := 0) (R _ _) dX5_init_0 rfl ?_
  refine rn_obj RN dX5_init_1 oiX5 (Nat.le_of_ble_eq_true rfl) ?_
  refine rl_aload_n (pc := 4) (R _ _) dX5_init_4 rfl ?_
  refine rn_new (ci := 3) (N := 1) (C := RX3) (T := TX3) (fs := [.null]) (ty := tyX3) RN dX5_init_5 clX5_9 bnX3 iiX3 rfl tyX3_ok (by decide) (fun _ => rfl) (a := k + 1) (hk ▸ rfl) (rbA_of (n := k + 1) r0 (hk ▸ rfl) (by simp [rbC, rb]) (by simp [rb]) (by simp [rb])) (Nat.le_of_ble_eq_true rfl) (Nat.le_of_ble_eq_true rfl) (Nat.le_of_ble_eq_true rfl) ?_
  show KN 1 1 8 [some (.ref k)] [.ref (k + 1), .ref k] (h0 ++ [hO 5 [.null], hO 3 [.null]])
  refine rl_dup (pc := 8) (R _ _) dX5_init_8 rfl ?_
  refine rn_ini (l := [hO 5 [.null]]) (o := [hO 3 [.null]]) (o2 := [hO 3 [.ref (k + 2)], hI 290 z0]) RN dX5_init_9 lkX5_11 (Nat.le_of_ble_eq_true rfl) (nb_X3 (h0 := h0 ++ [hO 5 [.null]]) (k := k + 1) (by rw [List.length_append, hk]; rfl) (rbA_of (L := []) (st := []) (n := k + 1) r0 (hk ▸ rfl) (by simp [rbC, rb]) (by simp) (by simp)).1) (rbA_of (n := k + 2) r0 (hk ▸ rfl) (by simp [rbC, rb]) (by simp [rb]) (by simp [rb])) (Nat.le_of_ble_eq_true rfl) (Nat.le_of_ble_eq_true rfl) (Nat.le_of_ble_eq_true rfl) ?_
  show KN 2 291 12 [some (.ref k)] [.ref (k + 1), .ref k] (h0 ++ [hO 5 [.null], hO 3 [.ref (k + 2)], hI 290 z0])
  refine rn_putF (z := 0) RN dX5_init_12 ffX5_12 (fun _ => ⟨rfl, rfl⟩) hk rfl (Nat.le_of_ble_eq_true rfl) ?_
  show KN 2 291 15 [some (.ref k)] [] (h0 ++ [hO 5 [.ref (k + 1)], hO 3 [.ref (k + 2)], hI 290 z0])
  exact E dX5_init_15
theorem nb_X6 {d k : Nat} {h0 : List sm_C} (hk : h0.length = k) (r0 : ∀ x ∈ h0, rbC h0.length x) : NB (d + 2) yX6_init k (h0 ++ [hO 6 [.null, .null]]) (h0 ++ [hO 6 [.ref (k + 1), .ref (k + 3)], hO 0 [.ref (k + 2), .int 0], hI 84 z0, hI 4 (upd (upd (upd (upd z0 0 9) 1 0) 2 4) 3 1)]) 3 90 := by
  refine ⟨(yX6_init, cX6_init, 1), List.mem_of_getElem? (i := 6) rfl, rfl, fun KN R RN E => ?_⟩
  show KN 0 0 0 [some (.ref k)] [] (h0 ++ [hO 6 [.null, .null]])
  refine rl_aload_n (pc := 0) (R _ _) dX6_init_0 rfl ?_
  refine rn_obj RN dX6_init_1 oiX6 (Nat.le_of_ble_eq_true rfl) ?_
  refine rl_aload_n (pc := 4) (R _ _) dX6_init_4 rfl ?_
  refine rn_new (ci := 0) (N := 2) (C := RX0) (T := TX0) (fs := [.null, .int 0]) (ty := tyX0) RN dX6_init_5 clX6_9 bnX0 iiX0 rfl tyX0_ok (by decide) (fun _ => rfl) (a := k + 1) (hk ▸ rfl) (rbA_of (n := k + 1) r0 (hk ▸ rfl) (by simp [rbC, rb]) (by simp [rb]) (by simp [rb])) (Nat.le_of_ble_eq_true rfl) (Nat.le_of_ble_eq_true rfl) (Nat.le_of_ble_eq_true rfl) ?_
  show KN 1 2 8 [some (.ref k)] [.ref (k + 1), .ref k] (h0 ++ [hO 6 [.null, .null], hO 0 [.null, .int 0]])
  refine rl_dup (pc := 8) (R _ _) dX6_init_8 rfl ?_
  refine rn_ini (l := [hO 6 [.null, .null]]) (o := [hO 0 [.null, .int 0]]) (o2 := [hO 0 [.ref (k + 2), .int 0], hI 84 z0]) RN dX6_init_9 lkX6_11 (Nat.le_of_ble_eq_true rfl) (nb_X0 (h0 := h0 ++ [hO 6 [.null, .null]]) (k := k + 1) (by rw [List.length_append, hk]; rfl) (rbA_of (L := []) (st := []) (n := k + 1) r0 (hk ▸ rfl) (by simp [rbC, rb]) (by simp) (by simp)).1) (rbA_of (n := k + 2) r0 (hk ▸ rfl) (by simp [rbC, rb]) (by simp [rb]) (by simp [rb])) (Nat.le_of_ble_eq_true rfl) (Nat.le_of_ble_eq_true rfl) (Nat.le_of_ble_eq_true rfl) ?_
  show KN 2 86 12 [some (.ref k)] [.ref (k + 1), .ref k] (h0 ++ [hO 6 [.null, .null], hO 0 [.ref (k + 2), .int 0], hI 84 z0])
  refine rn_putF (z := 0) RN dX6_init_12 ffX6_12 (fun _ => ⟨rfl, rfl⟩) hk rfl (Nat.le_of_ble_eq_true rfl) ?_
  show KN 2 86 15 [some (.ref k)] [] (h0 ++ [hO 6 [.ref (k + 1), .null], hO 0 [.ref (k + 2), .int 0], hI 84 z0])
  refine rl_aload_n (pc := 15) (R _ _) dX6_init_15 rfl ?_
  refine rl_iconst (pc := 16) (R _ _) dX6_init_16 ic_4 ?_
  refine rn_arr (N := 4) RN dX6_init_17 (by decide) (Nat.le_of_ble_eq_true rfl) (a := k + 3) (hk ▸ rfl) (rbA_of (n := k + 3) r0 (hk ▸ rfl) (by simp [rbC, rb]) (by simp [rb]) (by simp [rb])) (Nat.le_of_ble_eq_true rfl) (Nat.le_of_ble_eq_true rfl) (Nat.le_of_ble_eq_true rfl) ?_
  show KN 3 90 19 [some (.ref k)] [.ref (k + 3), .ref k] (h0 ++ [hO 6 [.ref (k + 1), .null], hO 0 [.ref (k + 2), .int 0], hI 84 z0, hI 4 z0])
  refine rl_dup (pc := 19) (R _ _) dX6_init_19 rfl ?_
  refine rl_iconst (pc := 20) (R _ _) dX6_init_20 ic_0 ?_
  refine rl_bipush (pc := 21) (R _ _) dX6_init_21 bc_9 ?_
  refine rn_iast (z := 3) (j := 0) (R _ _) dX6_init_23 (hk ▸ rfl) rfl (by decide) (Nat.le_of_ble_eq_true rfl) (by decide) ?_
  show KN 3 90 24 [some (.ref k)] [.ref (k + 3), .ref k] (h0 ++ [hO 6 [.ref (k + 1), .null], hO 0 [.ref (k + 2), .int 0], hI 84 z0, hI 4 (upd z0 0 9)])
  refine rl_dup (pc := 24) (R _ _) dX6_init_24 rfl ?_
  refine rl_iconst (pc := 25) (R _ _) dX6_init_25 ic_1 ?_
  refine rl_iconst (pc := 26) (R _ _) dX6_init_26 ic_0 ?_
  refine rn_iast (z := 3) (j := 1) (R _ _) dX6_init_27 (hk ▸ rfl) rfl (by decide) (Nat.le_of_ble_eq_true rfl) (by decide) ?_
  show KN 3 90 28 [some (.ref k)] [.ref (k + 3), .ref k] (h0 ++ [hO 6 [.ref (k + 1), .null], hO 0 [.ref (k + 2), .int 0], hI 84 z0, hI 4 (upd (upd z0 0 9) 1 0)])
  refine rl_dup (pc := 28) (R _ _) dX6_init_28 rfl ?_
  refine rl_iconst (pc := 29) (R _ _) dX6_init_29 ic_2 ?_
  refine rl_iconst (pc := 30) (R _ _) dX6_init_30 ic_4 ?_
  refine rn_iast (z := 3) (j := 2) (R _ _) dX6_init_31 (hk ▸ rfl) rfl (by decide) (Nat.le_of_ble_eq_true rfl) (by decide) ?_
  show KN 3 90 32 [some (.ref k)] [.ref (k + 3), .ref k] (h0 ++ [hO 6 [.ref (k + 1), .null], hO 0 [.ref (k + 2), .int 0], hI 84 z0, hI 4 (upd (upd (upd z0 0 9) 1 0) 2 4)])
  refine rl_dup (pc := 32) (R _ _) dX6_init_32 rfl ?_
  refine rl_iconst (pc := 33) (R _ _) dX6_init_33 ic_3 ?_
  refine rl_iconst (pc := 34) (R _ _) dX6_init_34 ic_1 ?_
  refine rn_iast (z := 3) (j := 3) (R _ _) dX6_init_35 (hk ▸ rfl) rfl (by decide) (Nat.le_of_ble_eq_true rfl) (by decide) ?_
  show KN 3 90 36 [some (.ref k)] [.ref (k + 3), .ref k] (h0 ++ [hO 6 [.ref (k + 1), .null], hO 0 [.ref (k + 2), .int 0], hI 84 z0, hI 4 (upd (upd (upd (upd z0 0 9) 1 0) 2 4) 3 1)])
  refine rn_putF (z := 0) RN dX6_init_36 ffX6_18 (fun _ => ⟨rfl, rfl⟩) hk rfl (Nat.le_of_ble_eq_true rfl) ?_
  show KN 3 90 39 [some (.ref k)] [] (h0 ++ [hO 6 [.ref (k + 1), .ref (k + 3)], hO 0 [.ref (k + 2), .int 0], hI 84 z0, hI 4 (upd (upd (upd (upd z0 0 9) 1 0) 2 4) 3 1)])
  exact E dX6_init_39
set_option maxHeartbeats 4000000 in
theorem nb_X7 {d : Nat} : NB (d + 3) yX7_init 0 (([] : List sm_C) ++ [hO 7 [.null, .null, .int 0, .null, .null, .null, .null, .null]]) (([] : List sm_C) ++ [hO 7 [.ref 1, .ref 5, .int 0, .ref 9, .ref 11, .ref 13, .ref 16, .ref 19], hO 6 [.ref 2, .ref 4], hO 0 [.ref 3, .int 0], hI 84 z0, hI 4 (upd (upd (upd (upd z0 0 9) 1 0) 2 4) 3 1), hO 6 [.ref 6, .ref 8], hO 0 [.ref 7, .int 0], hI 84 z0, hI 4 (upd (upd (upd (upd z0 0 9) 1 0) 2 4) 3 1), hO 4 [.ref 10, .int 0, .int 0], hI 200 z0, hO 0 [.ref 12, .int 0], hI 84 z0, hO 1 [.ref 14], hO 3 [.ref 15], hI 290 z0, hO 5 [.ref 17], hO 3 [.ref 18], hI 290 z0, hQ 4 (fun j => some (20 + 2 * j)), hO 2 [.ref 21, .int (-1), .int 0], hI 28 z0, hO 2 [.ref 23, .int (-1), .int 0], hI 28 z0, hO 2 [.ref 25, .int (-1), .int 0], hI 28 z0, hO 2 [.ref 27, .int (-1), .int 0], hI 28 z0]) 27 1185 := by
  refine ⟨(yX7_init, cX7_init, 2), List.mem_of_getElem? (i := 7) rfl, rfl, fun KN R RN E => ?_⟩
  show KN 0 0 0 [some (.ref 0), none] [] (([] : List sm_C) ++ [hO 7 [.null, .null, .int 0, .null, .null, .null, .null, .null]])
  refine rl_aload_n (pc := 0) (R _ _) dX7_init_0 rfl ?_
  refine rn_obj RN dX7_init_1 oiX7 (Nat.le_of_ble_eq_true rfl) ?_
  refine rl_aload_n (pc := 4) (R _ _) dX7_init_4 rfl ?_
  refine rn_new (ci := 6) (N := 2) (C := RX6) (T := TX6) (fs := [.null, .null]) (ty := tyX6) RN dX7_init_5 clX7_7 bnX6 iiX6 rfl tyX6_ok (by decide) (fun _ => rfl) (a := 1) rfl (rbA_of (n := 1) (fun _ h => absurd h List.not_mem_nil) rfl (rbX_ok rfl) (rbO_all rfl) (rbV_all rfl)) (Nat.le_of_ble_eq_true rfl) (Nat.le_of_ble_eq_true rfl) (Nat.le_of_ble_eq_true rfl) ?_
  show KN 1 2 8 [some (.ref 0), none] [.ref 1, .ref 0] (([] : List sm_C) ++ [hO 7 [.null, .null, .int 0, .null, .null, .null, .null, .null], hO 6 [.null, .null]])
  refine rl_dup (pc := 8) (R _ _) dX7_init_8 rfl ?_
  refine rn_ini (l := [hO 7 [.null, .null, .int 0, .null, .null, .null, .null, .null]]) (o := [hO 6 [.null, .null]]) (o2 := [hO 6 [.ref 2, .ref 4], hO 0 [.ref 3, .int 0], hI 84 z0, hI 4 (upd (upd (upd (upd z0 0 9) 1 0) 2 4) 3 1)]) RN dX7_init_9 lkX7_9 (Nat.le_of_ble_eq_true rfl) (nb_X6 (h0 := ([] : List sm_C) ++ [hO 7 [.null, .null, .int 0, .null, .null, .null, .null, .null]]) (k := 1) rfl (rbX_ok rfl)) (rbA_of (n := 2) (fun _ h => absurd h List.not_mem_nil) rfl (rbX_ok rfl) (rbO_all rfl) (rbV_all rfl)) (Nat.le_of_ble_eq_true rfl) (Nat.le_of_ble_eq_true rfl) (Nat.le_of_ble_eq_true rfl) ?_
  show KN 4 92 12 [some (.ref 0), none] [.ref 1, .ref 0] (([] : List sm_C) ++ [hO 7 [.null, .null, .int 0, .null, .null, .null, .null, .null], hO 6 [.ref 2, .ref 4], hO 0 [.ref 3, .int 0], hI 84 z0, hI 4 (upd (upd (upd (upd z0 0 9) 1 0) 2 4) 3 1)])
  refine rn_putF (z := 0) RN dX7_init_12 ffX7_10 (fun _ => ⟨rfl, rfl⟩) rfl rfl (Nat.le_of_ble_eq_true rfl) ?_
  show KN 4 92 15 [some (.ref 0), none] [] (([] : List sm_C) ++ [hO 7 [.ref 1, .null, .int 0, .null, .null, .null, .null, .null], hO 6 [.ref 2, .ref 4], hO 0 [.ref 3, .int 0], hI 84 z0, hI 4 (upd (upd (upd (upd z0 0 9) 1 0) 2 4) 3 1)])
  refine rl_aload_n (pc := 15) (R _ _) dX7_init_15 rfl ?_
  refine rn_new (ci := 6) (N := 2) (C := RX6) (T := TX6) (fs := [.null, .null]) (ty := tyX6) RN dX7_init_16 clX7_7 bnX6 iiX6 rfl tyX6_ok (by decide) (fun _ => rfl) (a := 5) rfl (rbA_of (n := 5) (fun _ h => absurd h List.not_mem_nil) rfl (rbX_ok rfl) (rbO_all rfl) (rbV_all rfl)) (Nat.le_of_ble_eq_true rfl) (Nat.le_of_ble_eq_true rfl) (Nat.le_of_ble_eq_true rfl) ?_
  show KN 5 94 19 [some (.ref 0), none] [.ref 5, .ref 0] (([] : List sm_C) ++ [hO 7 [.ref 1, .null, .int 0, .null, .null, .null, .null, .null], hO 6 [.ref 2, .ref 4], hO 0 [.ref 3, .int 0], hI 84 z0, hI 4 (upd (upd (upd (upd z0 0 9) 1 0) 2 4) 3 1), hO 6 [.null, .null]])
  refine rl_dup (pc := 19) (R _ _) dX7_init_19 rfl ?_
  refine rn_ini (l := [hO 7 [.ref 1, .null, .int 0, .null, .null, .null, .null, .null], hO 6 [.ref 2, .ref 4], hO 0 [.ref 3, .int 0], hI 84 z0, hI 4 (upd (upd (upd (upd z0 0 9) 1 0) 2 4) 3 1)]) (o := [hO 6 [.null, .null]]) (o2 := [hO 6 [.ref 6, .ref 8], hO 0 [.ref 7, .int 0], hI 84 z0, hI 4 (upd (upd (upd (upd z0 0 9) 1 0) 2 4) 3 1)]) RN dX7_init_20 lkX7_9 (Nat.le_of_ble_eq_true rfl) (nb_X6 (h0 := ([] : List sm_C) ++ [hO 7 [.ref 1, .null, .int 0, .null, .null, .null, .null, .null], hO 6 [.ref 2, .ref 4], hO 0 [.ref 3, .int 0], hI 84 z0, hI 4 (upd (upd (upd (upd z0 0 9) 1 0) 2 4) 3 1)]) (k := 5) rfl (rbX_ok rfl)) (rbA_of (n := 6) (fun _ h => absurd h List.not_mem_nil) rfl (rbX_ok rfl) (rbO_all rfl) (rbV_all rfl)) (Nat.le_of_ble_eq_true rfl) (Nat.le_of_ble_eq_true rfl) (Nat.le_of_ble_eq_true rfl) ?_
  show KN 8 184 23 [some (.ref 0), none] [.ref 5, .ref 0] (([] : List sm_C) ++ [hO 7 [.ref 1, .null, .int 0, .null, .null, .null, .null, .null], hO 6 [.ref 2, .ref 4], hO 0 [.ref 3, .int 0], hI 84 z0, hI 4 (upd (upd (upd (upd z0 0 9) 1 0) 2 4) 3 1), hO 6 [.ref 6, .ref 8], hO 0 [.ref 7, .int 0], hI 84 z0, hI 4 (upd (upd (upd (upd z0 0 9) 1 0) 2 4) 3 1)])
  refine rn_putF (z := 0) RN dX7_init_23 ffX7_16 (fun _ => ⟨rfl, rfl⟩) rfl rfl (Nat.le_of_ble_eq_true rfl) ?_
  show KN 8 184 26 [some (.ref 0), none] [] (([] : List sm_C) ++ [hO 7 [.ref 1, .ref 5, .int 0, .null, .null, .null, .null, .null], hO 6 [.ref 2, .ref 4], hO 0 [.ref 3, .int 0], hI 84 z0, hI 4 (upd (upd (upd (upd z0 0 9) 1 0) 2 4) 3 1), hO 6 [.ref 6, .ref 8], hO 0 [.ref 7, .int 0], hI 84 z0, hI 4 (upd (upd (upd (upd z0 0 9) 1 0) 2 4) 3 1)])
  refine rl_aload_n (pc := 26) (R _ _) dX7_init_26 rfl ?_
  refine rl_iconst (pc := 27) (R _ _) dX7_init_27 ic_0 ?_
  refine rn_putZ (z := 0) (R _ _) dX7_init_28 fpX7_19 rfl rfl (Nat.le_of_ble_eq_true rfl) ?_
  show KN 8 184 31 [some (.ref 0), none] [] (([] : List sm_C) ++ [hO 7 [.ref 1, .ref 5, .int 0, .null, .null, .null, .null, .null], hO 6 [.ref 2, .ref 4], hO 0 [.ref 3, .int 0], hI 84 z0, hI 4 (upd (upd (upd (upd z0 0 9) 1 0) 2 4) 3 1), hO 6 [.ref 6, .ref 8], hO 0 [.ref 7, .int 0], hI 84 z0, hI 4 (upd (upd (upd (upd z0 0 9) 1 0) 2 4) 3 1)])
  refine rl_aload_n (pc := 31) (R _ _) dX7_init_31 rfl ?_
  refine rn_new (ci := 4) (N := 3) (C := RX4) (T := TX4) (fs := [.null, .int 0, .int 0]) (ty := tyX4) RN dX7_init_32 clX7_23 bnX4 iiX4 rfl tyX4_ok (by decide) (fun _ => rfl) (a := 9) rfl (rbA_of (n := 9) (fun _ h => absurd h List.not_mem_nil) rfl (rbX_ok rfl) (rbO_all rfl) (rbV_all rfl)) (Nat.le_of_ble_eq_true rfl) (Nat.le_of_ble_eq_true rfl) (Nat.le_of_ble_eq_true rfl) ?_
  show KN 9 187 35 [some (.ref 0), none] [.ref 9, .ref 0] (([] : List sm_C) ++ [hO 7 [.ref 1, .ref 5, .int 0, .null, .null, .null, .null, .null], hO 6 [.ref 2, .ref 4], hO 0 [.ref 3, .int 0], hI 84 z0, hI 4 (upd (upd (upd (upd z0 0 9) 1 0) 2 4) 3 1), hO 6 [.ref 6, .ref 8], hO 0 [.ref 7, .int 0], hI 84 z0, hI 4 (upd (upd (upd (upd z0 0 9) 1 0) 2 4) 3 1), hO 4 [.null, .int 0, .int 0]])
  refine rl_dup (pc := 35) (R _ _) dX7_init_35 rfl ?_
  refine rn_ini (l := [hO 7 [.ref 1, .ref 5, .int 0, .null, .null, .null, .null, .null], hO 6 [.ref 2, .ref 4], hO 0 [.ref 3, .int 0], hI 84 z0, hI 4 (upd (upd (upd (upd z0 0 9) 1 0) 2 4) 3 1), hO 6 [.ref 6, .ref 8], hO 0 [.ref 7, .int 0], hI 84 z0, hI 4 (upd (upd (upd (upd z0 0 9) 1 0) 2 4) 3 1)]) (o := [hO 4 [.null, .int 0, .int 0]]) (o2 := [hO 4 [.ref 10, .int 0, .int 0], hI 200 z0]) RN dX7_init_36 lkX7_25 (Nat.le_of_ble_eq_true rfl) (nb_X4 (h0 := ([] : List sm_C) ++ [hO 7 [.ref 1, .ref 5, .int 0, .null, .null, .null, .null, .null], hO 6 [.ref 2, .ref 4], hO 0 [.ref 3, .int 0], hI 84 z0, hI 4 (upd (upd (upd (upd z0 0 9) 1 0) 2 4) 3 1), hO 6 [.ref 6, .ref 8], hO 0 [.ref 7, .int 0], hI 84 z0, hI 4 (upd (upd (upd (upd z0 0 9) 1 0) 2 4) 3 1)]) (k := 9) rfl (rbX_ok rfl)) (rbA_of (n := 10) (fun _ h => absurd h List.not_mem_nil) rfl (rbX_ok rfl) (rbO_all rfl) (rbV_all rfl)) (Nat.le_of_ble_eq_true rfl) (Nat.le_of_ble_eq_true rfl) (Nat.le_of_ble_eq_true rfl) ?_
  show KN 10 387 39 [some (.ref 0), none] [.ref 9, .ref 0] (([] : List sm_C) ++ [hO 7 [.ref 1, .ref 5, .int 0, .null, .null, .null, .null, .null], hO 6 [.ref 2, .ref 4], hO 0 [.ref 3, .int 0], hI 84 z0, hI 4 (upd (upd (upd (upd z0 0 9) 1 0) 2 4) 3 1), hO 6 [.ref 6, .ref 8], hO 0 [.ref 7, .int 0], hI 84 z0, hI 4 (upd (upd (upd (upd z0 0 9) 1 0) 2 4) 3 1), hO 4 [.ref 10, .int 0, .int 0], hI 200 z0])
  refine rn_putF (z := 0) RN dX7_init_39 ffX7_26 (fun _ => ⟨rfl, rfl⟩) rfl rfl (Nat.le_of_ble_eq_true rfl) ?_
  show KN 10 387 42 [some (.ref 0), none] [] (([] : List sm_C) ++ [hO 7 [.ref 1, .ref 5, .int 0, .ref 9, .null, .null, .null, .null], hO 6 [.ref 2, .ref 4], hO 0 [.ref 3, .int 0], hI 84 z0, hI 4 (upd (upd (upd (upd z0 0 9) 1 0) 2 4) 3 1), hO 6 [.ref 6, .ref 8], hO 0 [.ref 7, .int 0], hI 84 z0, hI 4 (upd (upd (upd (upd z0 0 9) 1 0) 2 4) 3 1), hO 4 [.ref 10, .int 0, .int 0], hI 200 z0])
  refine rl_aload_n (pc := 42) (R _ _) dX7_init_42 rfl ?_
  refine rn_new (ci := 0) (N := 2) (C := RX0) (T := TX0) (fs := [.null, .int 0]) (ty := tyX0) RN dX7_init_43 clX7_30 bnX0 iiX0 rfl tyX0_ok (by decide) (fun _ => rfl) (a := 11) rfl (rbA_of (n := 11) (fun _ h => absurd h List.not_mem_nil) rfl (rbX_ok rfl) (rbO_all rfl) (rbV_all rfl)) (Nat.le_of_ble_eq_true rfl) (Nat.le_of_ble_eq_true rfl) (Nat.le_of_ble_eq_true rfl) ?_
  show KN 11 389 46 [some (.ref 0), none] [.ref 11, .ref 0] (([] : List sm_C) ++ [hO 7 [.ref 1, .ref 5, .int 0, .ref 9, .null, .null, .null, .null], hO 6 [.ref 2, .ref 4], hO 0 [.ref 3, .int 0], hI 84 z0, hI 4 (upd (upd (upd (upd z0 0 9) 1 0) 2 4) 3 1), hO 6 [.ref 6, .ref 8], hO 0 [.ref 7, .int 0], hI 84 z0, hI 4 (upd (upd (upd (upd z0 0 9) 1 0) 2 4) 3 1), hO 4 [.ref 10, .int 0, .int 0], hI 200 z0, hO 0 [.null, .int 0]])
  refine rl_dup (pc := 46) (R _ _) dX7_init_46 rfl ?_
  refine rn_ini (l := [hO 7 [.ref 1, .ref 5, .int 0, .ref 9, .null, .null, .null, .null], hO 6 [.ref 2, .ref 4], hO 0 [.ref 3, .int 0], hI 84 z0, hI 4 (upd (upd (upd (upd z0 0 9) 1 0) 2 4) 3 1), hO 6 [.ref 6, .ref 8], hO 0 [.ref 7, .int 0], hI 84 z0, hI 4 (upd (upd (upd (upd z0 0 9) 1 0) 2 4) 3 1), hO 4 [.ref 10, .int 0, .int 0], hI 200 z0]) (o := [hO 0 [.null, .int 0]]) (o2 := [hO 0 [.ref 12, .int 0], hI 84 z0]) RN dX7_init_47 lkX7_32 (Nat.le_of_ble_eq_true rfl) (nb_X0 (h0 := ([] : List sm_C) ++ [hO 7 [.ref 1, .ref 5, .int 0, .ref 9, .null, .null, .null, .null], hO 6 [.ref 2, .ref 4], hO 0 [.ref 3, .int 0], hI 84 z0, hI 4 (upd (upd (upd (upd z0 0 9) 1 0) 2 4) 3 1), hO 6 [.ref 6, .ref 8], hO 0 [.ref 7, .int 0], hI 84 z0, hI 4 (upd (upd (upd (upd z0 0 9) 1 0) 2 4) 3 1), hO 4 [.ref 10, .int 0, .int 0], hI 200 z0]) (k := 11) rfl (rbX_ok rfl)) (rbA_of (n := 12) (fun _ h => absurd h List.not_mem_nil) rfl (rbX_ok rfl) (rbO_all rfl) (rbV_all rfl)) (Nat.le_of_ble_eq_true rfl) (Nat.le_of_ble_eq_true rfl) (Nat.le_of_ble_eq_true rfl) ?_
  show KN 12 473 50 [some (.ref 0), none] [.ref 11, .ref 0] (([] : List sm_C) ++ [hO 7 [.ref 1, .ref 5, .int 0, .ref 9, .null, .null, .null, .null], hO 6 [.ref 2, .ref 4], hO 0 [.ref 3, .int 0], hI 84 z0, hI 4 (upd (upd (upd (upd z0 0 9) 1 0) 2 4) 3 1), hO 6 [.ref 6, .ref 8], hO 0 [.ref 7, .int 0], hI 84 z0, hI 4 (upd (upd (upd (upd z0 0 9) 1 0) 2 4) 3 1), hO 4 [.ref 10, .int 0, .int 0], hI 200 z0, hO 0 [.ref 12, .int 0], hI 84 z0])
  refine rn_putF (z := 0) RN dX7_init_50 ffX7_33 (fun _ => ⟨rfl, rfl⟩) rfl rfl (Nat.le_of_ble_eq_true rfl) ?_
  show KN 12 473 53 [some (.ref 0), none] [] (([] : List sm_C) ++ [hO 7 [.ref 1, .ref 5, .int 0, .ref 9, .ref 11, .null, .null, .null], hO 6 [.ref 2, .ref 4], hO 0 [.ref 3, .int 0], hI 84 z0, hI 4 (upd (upd (upd (upd z0 0 9) 1 0) 2 4) 3 1), hO 6 [.ref 6, .ref 8], hO 0 [.ref 7, .int 0], hI 84 z0, hI 4 (upd (upd (upd (upd z0 0 9) 1 0) 2 4) 3 1), hO 4 [.ref 10, .int 0, .int 0], hI 200 z0, hO 0 [.ref 12, .int 0], hI 84 z0])
  refine rl_aload_n (pc := 53) (R _ _) dX7_init_53 rfl ?_
  refine rn_new (ci := 1) (N := 1) (C := RX1) (T := TX1) (fs := [.null]) (ty := tyX1) RN dX7_init_54 clX7_37 bnX1 iiX1 rfl tyX1_ok (by decide) (fun _ => rfl) (a := 13) rfl (rbA_of (n := 13) (fun _ h => absurd h List.not_mem_nil) rfl (rbX_ok rfl) (rbO_all rfl) (rbV_all rfl)) (Nat.le_of_ble_eq_true rfl) (Nat.le_of_ble_eq_true rfl) (Nat.le_of_ble_eq_true rfl) ?_
  show KN 13 474 57 [some (.ref 0), none] [.ref 13, .ref 0] (([] : List sm_C) ++ [hO 7 [.ref 1, .ref 5, .int 0, .ref 9, .ref 11, .null, .null, .null], hO 6 [.ref 2, .ref 4], hO 0 [.ref 3, .int 0], hI 84 z0, hI 4 (upd (upd (upd (upd z0 0 9) 1 0) 2 4) 3 1), hO 6 [.ref 6, .ref 8], hO 0 [.ref 7, .int 0], hI 84 z0, hI 4 (upd (upd (upd (upd z0 0 9) 1 0) 2 4) 3 1), hO 4 [.ref 10, .int 0, .int 0], hI 200 z0, hO 0 [.ref 12, .int 0], hI 84 z0, hO 1 [.null]])
  refine rl_dup (pc := 57) (R _ _) dX7_init_57 rfl ?_
  refine rn_ini (l := [hO 7 [.ref 1, .ref 5, .int 0, .ref 9, .ref 11, .null, .null, .null], hO 6 [.ref 2, .ref 4], hO 0 [.ref 3, .int 0], hI 84 z0, hI 4 (upd (upd (upd (upd z0 0 9) 1 0) 2 4) 3 1), hO 6 [.ref 6, .ref 8], hO 0 [.ref 7, .int 0], hI 84 z0, hI 4 (upd (upd (upd (upd z0 0 9) 1 0) 2 4) 3 1), hO 4 [.ref 10, .int 0, .int 0], hI 200 z0, hO 0 [.ref 12, .int 0], hI 84 z0]) (o := [hO 1 [.null]]) (o2 := [hO 1 [.ref 14], hO 3 [.ref 15], hI 290 z0]) RN dX7_init_58 lkX7_39 (Nat.le_of_ble_eq_true rfl) (nb_X1 (h0 := ([] : List sm_C) ++ [hO 7 [.ref 1, .ref 5, .int 0, .ref 9, .ref 11, .null, .null, .null], hO 6 [.ref 2, .ref 4], hO 0 [.ref 3, .int 0], hI 84 z0, hI 4 (upd (upd (upd (upd z0 0 9) 1 0) 2 4) 3 1), hO 6 [.ref 6, .ref 8], hO 0 [.ref 7, .int 0], hI 84 z0, hI 4 (upd (upd (upd (upd z0 0 9) 1 0) 2 4) 3 1), hO 4 [.ref 10, .int 0, .int 0], hI 200 z0, hO 0 [.ref 12, .int 0], hI 84 z0]) (k := 13) rfl (rbX_ok rfl)) (rbA_of (n := 14) (fun _ h => absurd h List.not_mem_nil) rfl (rbX_ok rfl) (rbO_all rfl) (rbV_all rfl)) (Nat.le_of_ble_eq_true rfl) (Nat.le_of_ble_eq_true rfl) (Nat.le_of_ble_eq_true rfl) ?_
  show KN 15 765 61 [some (.ref 0), none] [.ref 13, .ref 0] (([] : List sm_C) ++ [hO 7 [.ref 1, .ref 5, .int 0, .ref 9, .ref 11, .null, .null, .null], hO 6 [.ref 2, .ref 4], hO 0 [.ref 3, .int 0], hI 84 z0, hI 4 (upd (upd (upd (upd z0 0 9) 1 0) 2 4) 3 1), hO 6 [.ref 6, .ref 8], hO 0 [.ref 7, .int 0], hI 84 z0, hI 4 (upd (upd (upd (upd z0 0 9) 1 0) 2 4) 3 1), hO 4 [.ref 10, .int 0, .int 0], hI 200 z0, hO 0 [.ref 12, .int 0], hI 84 z0, hO 1 [.ref 14], hO 3 [.ref 15], hI 290 z0])
  refine rn_putF (z := 0) RN dX7_init_61 ffX7_40 (fun _ => ⟨rfl, rfl⟩) rfl rfl (Nat.le_of_ble_eq_true rfl) ?_
  show KN 15 765 64 [some (.ref 0), none] [] (([] : List sm_C) ++ [hO 7 [.ref 1, .ref 5, .int 0, .ref 9, .ref 11, .ref 13, .null, .null], hO 6 [.ref 2, .ref 4], hO 0 [.ref 3, .int 0], hI 84 z0, hI 4 (upd (upd (upd (upd z0 0 9) 1 0) 2 4) 3 1), hO 6 [.ref 6, .ref 8], hO 0 [.ref 7, .int 0], hI 84 z0, hI 4 (upd (upd (upd (upd z0 0 9) 1 0) 2 4) 3 1), hO 4 [.ref 10, .int 0, .int 0], hI 200 z0, hO 0 [.ref 12, .int 0], hI 84 z0, hO 1 [.ref 14], hO 3 [.ref 15], hI 290 z0])
  refine rl_aload_n (pc := 64) (R _ _) dX7_init_64 rfl ?_
  refine rn_new (ci := 5) (N := 1) (C := RX5) (T := TX5) (fs := [.null]) (ty := tyX5) RN dX7_init_65 clX7_44 bnX5 iiX5 rfl tyX5_ok (by decide) (fun _ => rfl) (a := 16) rfl (rbA_of (n := 16) (fun _ h => absurd h List.not_mem_nil) rfl (rbX_ok rfl) (rbO_all rfl) (rbV_all rfl)) (Nat.le_of_ble_eq_true rfl) (Nat.le_of_ble_eq_true rfl) (Nat.le_of_ble_eq_true rfl) ?_
  show KN 16 766 68 [some (.ref 0), none] [.ref 16, .ref 0] (([] : List sm_C) ++ [hO 7 [.ref 1, .ref 5, .int 0, .ref 9, .ref 11, .ref 13, .null, .null], hO 6 [.ref 2, .ref 4], hO 0 [.ref 3, .int 0], hI 84 z0, hI 4 (upd (upd (upd (upd z0 0 9) 1 0) 2 4) 3 1), hO 6 [.ref 6, .ref 8], hO 0 [.ref 7, .int 0], hI 84 z0, hI 4 (upd (upd (upd (upd z0 0 9) 1 0) 2 4) 3 1), hO 4 [.ref 10, .int 0, .int 0], hI 200 z0, hO 0 [.ref 12, .int 0], hI 84 z0, hO 1 [.ref 14], hO 3 [.ref 15], hI 290 z0, hO 5 [.null]])
  refine rl_dup (pc := 68) (R _ _) dX7_init_68 rfl ?_
  refine rn_ini (l := [hO 7 [.ref 1, .ref 5, .int 0, .ref 9, .ref 11, .ref 13, .null, .null], hO 6 [.ref 2, .ref 4], hO 0 [.ref 3, .int 0], hI 84 z0, hI 4 (upd (upd (upd (upd z0 0 9) 1 0) 2 4) 3 1), hO 6 [.ref 6, .ref 8], hO 0 [.ref 7, .int 0], hI 84 z0, hI 4 (upd (upd (upd (upd z0 0 9) 1 0) 2 4) 3 1), hO 4 [.ref 10, .int 0, .int 0], hI 200 z0, hO 0 [.ref 12, .int 0], hI 84 z0, hO 1 [.ref 14], hO 3 [.ref 15], hI 290 z0]) (o := [hO 5 [.null]]) (o2 := [hO 5 [.ref 17], hO 3 [.ref 18], hI 290 z0]) RN dX7_init_69 lkX7_46 (Nat.le_of_ble_eq_true rfl) (nb_X5 (h0 := ([] : List sm_C) ++ [hO 7 [.ref 1, .ref 5, .int 0, .ref 9, .ref 11, .ref 13, .null, .null], hO 6 [.ref 2, .ref 4], hO 0 [.ref 3, .int 0], hI 84 z0, hI 4 (upd (upd (upd (upd z0 0 9) 1 0) 2 4) 3 1), hO 6 [.ref 6, .ref 8], hO 0 [.ref 7, .int 0], hI 84 z0, hI 4 (upd (upd (upd (upd z0 0 9) 1 0) 2 4) 3 1), hO 4 [.ref 10, .int 0, .int 0], hI 200 z0, hO 0 [.ref 12, .int 0], hI 84 z0, hO 1 [.ref 14], hO 3 [.ref 15], hI 290 z0]) (k := 16) rfl (rbX_ok rfl)) (rbA_of (n := 17) (fun _ h => absurd h List.not_mem_nil) rfl (rbX_ok rfl) (rbO_all rfl) (rbV_all rfl)) (Nat.le_of_ble_eq_true rfl) (Nat.le_of_ble_eq_true rfl) (Nat.le_of_ble_eq_true rfl) ?_
  show KN 18 1057 72 [some (.ref 0), none] [.ref 16, .ref 0] (([] : List sm_C) ++ [hO 7 [.ref 1, .ref 5, .int 0, .ref 9, .ref 11, .ref 13, .null, .null], hO 6 [.ref 2, .ref 4], hO 0 [.ref 3, .int 0], hI 84 z0, hI 4 (upd (upd (upd (upd z0 0 9) 1 0) 2 4) 3 1), hO 6 [.ref 6, .ref 8], hO 0 [.ref 7, .int 0], hI 84 z0, hI 4 (upd (upd (upd (upd z0 0 9) 1 0) 2 4) 3 1), hO 4 [.ref 10, .int 0, .int 0], hI 200 z0, hO 0 [.ref 12, .int 0], hI 84 z0, hO 1 [.ref 14], hO 3 [.ref 15], hI 290 z0, hO 5 [.ref 17], hO 3 [.ref 18], hI 290 z0])
  refine rn_putF (z := 0) RN dX7_init_72 ffX7_47 (fun _ => ⟨rfl, rfl⟩) rfl rfl (Nat.le_of_ble_eq_true rfl) ?_
  show KN 18 1057 75 [some (.ref 0), none] [] (([] : List sm_C) ++ [hO 7 [.ref 1, .ref 5, .int 0, .ref 9, .ref 11, .ref 13, .ref 16, .null], hO 6 [.ref 2, .ref 4], hO 0 [.ref 3, .int 0], hI 84 z0, hI 4 (upd (upd (upd (upd z0 0 9) 1 0) 2 4) 3 1), hO 6 [.ref 6, .ref 8], hO 0 [.ref 7, .int 0], hI 84 z0, hI 4 (upd (upd (upd (upd z0 0 9) 1 0) 2 4) 3 1), hO 4 [.ref 10, .int 0, .int 0], hI 200 z0, hO 0 [.ref 12, .int 0], hI 84 z0, hO 1 [.ref 14], hO 3 [.ref 15], hI 290 z0, hO 5 [.ref 17], hO 3 [.ref 18], hI 290 z0])
  refine rl_aload_n (pc := 75) (R _ _) dX7_init_75 rfl ?_
  refine rl_iconst (pc := 76) (R _ _) dX7_init_76 ic_4 ?_
  refine rn_arq (N := 4) RN dX7_init_77 clX7_51 (by decide) (Nat.le_of_ble_eq_true rfl) (a := 19) rfl (rbA_of (n := 19) (fun _ h => absurd h List.not_mem_nil) rfl (rbX_ok rfl) (rbO_all rfl) (rbV_all rfl)) (Nat.le_of_ble_eq_true rfl) (Nat.le_of_ble_eq_true rfl) (Nat.le_of_ble_eq_true rfl) ?_
  rw [show (fun _ : Nat => (none : Option Nat)) = qf 0 from rfl]
  show KN 19 1061 80 [some (.ref 0), none] [.ref 19, .ref 0] (([] : List sm_C) ++ [hO 7 [.ref 1, .ref 5, .int 0, .ref 9, .ref 11, .ref 13, .ref 16, .null], hO 6 [.ref 2, .ref 4], hO 0 [.ref 3, .int 0], hI 84 z0, hI 4 (upd (upd (upd (upd z0 0 9) 1 0) 2 4) 3 1), hO 6 [.ref 6, .ref 8], hO 0 [.ref 7, .int 0], hI 84 z0, hI 4 (upd (upd (upd (upd z0 0 9) 1 0) 2 4) 3 1), hO 4 [.ref 10, .int 0, .int 0], hI 200 z0, hO 0 [.ref 12, .int 0], hI 84 z0, hO 1 [.ref 14], hO 3 [.ref 15], hI 290 z0, hO 5 [.ref 17], hO 3 [.ref 18], hI 290 z0, hQ 4 (qf 0)])
  refine rn_putF (z := 0) RN dX7_init_80 ffX7_53 (fun _ => ⟨rfl, rfl⟩) rfl rfl (Nat.le_of_ble_eq_true rfl) ?_
  show KN 19 1061 83 [some (.ref 0), none] [] (([] : List sm_C) ++ [hO 7 [.ref 1, .ref 5, .int 0, .ref 9, .ref 11, .ref 13, .ref 16, .ref 19], hO 6 [.ref 2, .ref 4], hO 0 [.ref 3, .int 0], hI 84 z0, hI 4 (upd (upd (upd (upd z0 0 9) 1 0) 2 4) 3 1), hO 6 [.ref 6, .ref 8], hO 0 [.ref 7, .int 0], hI 84 z0, hI 4 (upd (upd (upd (upd z0 0 9) 1 0) 2 4) 3 1), hO 4 [.ref 10, .int 0, .int 0], hI 200 z0, hO 0 [.ref 12, .int 0], hI 84 z0, hO 1 [.ref 14], hO 3 [.ref 15], hI 290 z0, hO 5 [.ref 17], hO 3 [.ref 18], hI 290 z0, hQ 4 (qf 0)])
  refine rl_iconst (pc := 83) (R _ _) dX7_init_83 ic_0 ?_
  refine rl_istore_n (pc := 84) (R _ _) dX7_init_84 (Nat.le_of_ble_eq_true rfl) rfl ?_
  show KN 19 1061 85 [some (.ref 0), some (.int 0)] [] (([] : List sm_C) ++ [hO 7 [.ref 1, .ref 5, .int 0, .ref 9, .ref 11, .ref 13, .ref 16, .ref 19], hO 6 [.ref 2, .ref 4], hO 0 [.ref 3, .int 0], hI 84 z0, hI 4 (upd (upd (upd (upd z0 0 9) 1 0) 2 4) 3 1), hO 6 [.ref 6, .ref 8], hO 0 [.ref 7, .int 0], hI 84 z0, hI 4 (upd (upd (upd (upd z0 0 9) 1 0) 2 4) 3 1), hO 4 [.ref 10, .int 0, .int 0], hI 200 z0, hO 0 [.ref 12, .int 0], hI 84 z0, hO 1 [.ref 14], hO 3 [.ref 15], hI 290 z0, hO 5 [.ref 17], hO 3 [.ref 18], hI 290 z0, hQ 4 (qf 0)])
  refine rl_iload_n (pc := 85) (R _ _) dX7_init_85 rfl ?_
  refine rl_aload_n (pc := 86) (R _ _) dX7_init_86 rfl ?_
  refine rl_getf (pc := 87) (R _ _) dX7_init_87 fkX7_53 ((gE (j := 0) rfl).trans rfl) rfl ?_
  refine rl_alenQ (pc := 90) (R _ _) dX7_init_90 ((gE (j := 19) rfl).trans rfl) ?_
  refine rl_icmp_ge (pc := 91) (tgt := 113) (R _ _) dX7_init_91 rfl (fun c => absurd c (by decide)) (fun _ => ?_)
  refine rl_aload_n (pc := 94) (R _ _) dX7_init_94 rfl ?_
  refine rl_getf (pc := 95) (R _ _) dX7_init_95 fkX7_53 ((gE (j := 0) rfl).trans rfl) rfl ?_
  refine rl_iload_n (pc := 98) (R _ _) dX7_init_98 rfl ?_
  refine rn_new (ci := 2) (N := 3) (C := RX2) (T := TX2) (fs := [.null, .int 0, .int 0]) (ty := tyX2) RN dX7_init_99 clX7_51 bnX2 iiX2 rfl tyX2_ok (by decide) (fun _ => rfl) (a := 20) rfl (rbA_of (n := 20) (fun _ h => absurd h List.not_mem_nil) rfl (rbQ (i := 0) (l1 := [hO 7 [.ref 1, .ref 5, .int 0, .ref 9, .ref 11, .ref 13, .ref 16, .ref 19], hO 6 [.ref 2, .ref 4], hO 0 [.ref 3, .int 0], hI 84 z0, hI 4 (upd (upd (upd (upd z0 0 9) 1 0) 2 4) 3 1), hO 6 [.ref 6, .ref 8], hO 0 [.ref 7, .int 0], hI 84 z0, hI 4 (upd (upd (upd (upd z0 0 9) 1 0) 2 4) 3 1), hO 4 [.ref 10, .int 0, .int 0], hI 200 z0, hO 0 [.ref 12, .int 0], hI 84 z0, hO 1 [.ref 14], hO 3 [.ref 15], hI 290 z0, hO 5 [.ref 17], hO 3 [.ref 18], hI 290 z0]) (l2 := []) rfl (Nat.le_of_ble_eq_true rfl) rfl) (rbO_all rfl) (rbV_all rfl)) (Nat.le_of_ble_eq_true rfl) (Nat.le_of_ble_eq_true rfl) (Nat.le_of_ble_eq_true rfl) ?_
  show KN 20 1064 102 [some (.ref 0), some (.int 0)] [.ref 20, .int 0, .ref 19] (([] : List sm_C) ++ [hO 7 [.ref 1, .ref 5, .int 0, .ref 9, .ref 11, .ref 13, .ref 16, .ref 19], hO 6 [.ref 2, .ref 4], hO 0 [.ref 3, .int 0], hI 84 z0, hI 4 (upd (upd (upd (upd z0 0 9) 1 0) 2 4) 3 1), hO 6 [.ref 6, .ref 8], hO 0 [.ref 7, .int 0], hI 84 z0, hI 4 (upd (upd (upd (upd z0 0 9) 1 0) 2 4) 3 1), hO 4 [.ref 10, .int 0, .int 0], hI 200 z0, hO 0 [.ref 12, .int 0], hI 84 z0, hO 1 [.ref 14], hO 3 [.ref 15], hI 290 z0, hO 5 [.ref 17], hO 3 [.ref 18], hI 290 z0, hQ 4 (qf 0), hO 2 [.null, .int 0, .int 0]])
  refine rl_dup (pc := 102) (R _ _) dX7_init_102 rfl ?_
  refine rn_ini (l := [hO 7 [.ref 1, .ref 5, .int 0, .ref 9, .ref 11, .ref 13, .ref 16, .ref 19], hO 6 [.ref 2, .ref 4], hO 0 [.ref 3, .int 0], hI 84 z0, hI 4 (upd (upd (upd (upd z0 0 9) 1 0) 2 4) 3 1), hO 6 [.ref 6, .ref 8], hO 0 [.ref 7, .int 0], hI 84 z0, hI 4 (upd (upd (upd (upd z0 0 9) 1 0) 2 4) 3 1), hO 4 [.ref 10, .int 0, .int 0], hI 200 z0, hO 0 [.ref 12, .int 0], hI 84 z0, hO 1 [.ref 14], hO 3 [.ref 15], hI 290 z0, hO 5 [.ref 17], hO 3 [.ref 18], hI 290 z0, hQ 4 (qf 0)]) (o := [hO 2 [.null, .int 0, .int 0]]) (o2 := [hO 2 [.ref 21, .int (-1), .int 0], hI 28 z0]) RN dX7_init_103 lkX7_57 (Nat.le_of_ble_eq_true rfl) (nb_X2 (h0 := ([] : List sm_C) ++ [hO 7 [.ref 1, .ref 5, .int 0, .ref 9, .ref 11, .ref 13, .ref 16, .ref 19], hO 6 [.ref 2, .ref 4], hO 0 [.ref 3, .int 0], hI 84 z0, hI 4 (upd (upd (upd (upd z0 0 9) 1 0) 2 4) 3 1), hO 6 [.ref 6, .ref 8], hO 0 [.ref 7, .int 0], hI 84 z0, hI 4 (upd (upd (upd (upd z0 0 9) 1 0) 2 4) 3 1), hO 4 [.ref 10, .int 0, .int 0], hI 200 z0, hO 0 [.ref 12, .int 0], hI 84 z0, hO 1 [.ref 14], hO 3 [.ref 15], hI 290 z0, hO 5 [.ref 17], hO 3 [.ref 18], hI 290 z0, hQ 4 (qf 0)]) (k := 20) rfl (rbQ (i := 0) (l1 := [hO 7 [.ref 1, .ref 5, .int 0, .ref 9, .ref 11, .ref 13, .ref 16, .ref 19], hO 6 [.ref 2, .ref 4], hO 0 [.ref 3, .int 0], hI 84 z0, hI 4 (upd (upd (upd (upd z0 0 9) 1 0) 2 4) 3 1), hO 6 [.ref 6, .ref 8], hO 0 [.ref 7, .int 0], hI 84 z0, hI 4 (upd (upd (upd (upd z0 0 9) 1 0) 2 4) 3 1), hO 4 [.ref 10, .int 0, .int 0], hI 200 z0, hO 0 [.ref 12, .int 0], hI 84 z0, hO 1 [.ref 14], hO 3 [.ref 15], hI 290 z0, hO 5 [.ref 17], hO 3 [.ref 18], hI 290 z0]) (l2 := []) rfl (Nat.le_of_ble_eq_true rfl) rfl)) (rbA_of (n := 21) (fun _ h => absurd h List.not_mem_nil) rfl (rbQ (i := 0) (l1 := [hO 7 [.ref 1, .ref 5, .int 0, .ref 9, .ref 11, .ref 13, .ref 16, .ref 19], hO 6 [.ref 2, .ref 4], hO 0 [.ref 3, .int 0], hI 84 z0, hI 4 (upd (upd (upd (upd z0 0 9) 1 0) 2 4) 3 1), hO 6 [.ref 6, .ref 8], hO 0 [.ref 7, .int 0], hI 84 z0, hI 4 (upd (upd (upd (upd z0 0 9) 1 0) 2 4) 3 1), hO 4 [.ref 10, .int 0, .int 0], hI 200 z0, hO 0 [.ref 12, .int 0], hI 84 z0, hO 1 [.ref 14], hO 3 [.ref 15], hI 290 z0, hO 5 [.ref 17], hO 3 [.ref 18], hI 290 z0]) (l2 := [hO 2 [.null, .int 0, .int 0]]) rfl (Nat.le_of_ble_eq_true rfl) rfl) (rbO_all rfl) (rbV_all rfl)) (Nat.le_of_ble_eq_true rfl) (Nat.le_of_ble_eq_true rfl) (Nat.le_of_ble_eq_true rfl) ?_
  show KN 21 1092 106 [some (.ref 0), some (.int 0)] [.ref 20, .int 0, .ref 19] (([] : List sm_C) ++ [hO 7 [.ref 1, .ref 5, .int 0, .ref 9, .ref 11, .ref 13, .ref 16, .ref 19], hO 6 [.ref 2, .ref 4], hO 0 [.ref 3, .int 0], hI 84 z0, hI 4 (upd (upd (upd (upd z0 0 9) 1 0) 2 4) 3 1), hO 6 [.ref 6, .ref 8], hO 0 [.ref 7, .int 0], hI 84 z0, hI 4 (upd (upd (upd (upd z0 0 9) 1 0) 2 4) 3 1), hO 4 [.ref 10, .int 0, .int 0], hI 200 z0, hO 0 [.ref 12, .int 0], hI 84 z0, hO 1 [.ref 14], hO 3 [.ref 15], hI 290 z0, hO 5 [.ref 17], hO 3 [.ref 18], hI 290 z0, hQ 4 (qf 0), hO 2 [.ref 21, .int (-1), .int 0], hI 28 z0])
  refine rn_ast (z := 19) (j := 0) (zv := 20) (g := qf 1) (f := qf 0) RN dX7_init_106 rfl rfl rfl (Nat.le_of_ble_eq_true rfl) (by decide) rfl rfl (qf_up (i := 0)) ?_
  show KN 21 1092 107 [some (.ref 0), some (.int 0)] [] (([] : List sm_C) ++ [hO 7 [.ref 1, .ref 5, .int 0, .ref 9, .ref 11, .ref 13, .ref 16, .ref 19], hO 6 [.ref 2, .ref 4], hO 0 [.ref 3, .int 0], hI 84 z0, hI 4 (upd (upd (upd (upd z0 0 9) 1 0) 2 4) 3 1), hO 6 [.ref 6, .ref 8], hO 0 [.ref 7, .int 0], hI 84 z0, hI 4 (upd (upd (upd (upd z0 0 9) 1 0) 2 4) 3 1), hO 4 [.ref 10, .int 0, .int 0], hI 200 z0, hO 0 [.ref 12, .int 0], hI 84 z0, hO 1 [.ref 14], hO 3 [.ref 15], hI 290 z0, hO 5 [.ref 17], hO 3 [.ref 18], hI 290 z0, hQ 4 (qf 1), hO 2 [.ref 21, .int (-1), .int 0], hI 28 z0])
  refine rl_iinc (pc := 107) (R _ _) dX7_init_107 rfl (v := nI 1) (by decide) rfl ?_
  show KN 21 1092 110 [some (.ref 0), some (.int (nI 1))] [] (([] : List sm_C) ++ [hO 7 [.ref 1, .ref 5, .int 0, .ref 9, .ref 11, .ref 13, .ref 16, .ref 19], hO 6 [.ref 2, .ref 4], hO 0 [.ref 3, .int 0], hI 84 z0, hI 4 (upd (upd (upd (upd z0 0 9) 1 0) 2 4) 3 1), hO 6 [.ref 6, .ref 8], hO 0 [.ref 7, .int 0], hI 84 z0, hI 4 (upd (upd (upd (upd z0 0 9) 1 0) 2 4) 3 1), hO 4 [.ref 10, .int 0, .int 0], hI 200 z0, hO 0 [.ref 12, .int 0], hI 84 z0, hO 1 [.ref 14], hO 3 [.ref 15], hI 290 z0, hO 5 [.ref 17], hO 3 [.ref 18], hI 290 z0, hQ 4 (qf 1), hO 2 [.ref 21, .int (-1), .int 0], hI 28 z0])
  refine rl_goto (pc := 110) (tgt := 85) (R _ _) dX7_init_110 rfl ?_
  refine rl_iload_n (pc := 85) (R _ _) dX7_init_85 rfl ?_
  refine rl_aload_n (pc := 86) (R _ _) dX7_init_86 rfl ?_
  refine rl_getf (pc := 87) (R _ _) dX7_init_87 fkX7_53 ((gE (j := 0) rfl).trans rfl) rfl ?_
  refine rl_alenQ (pc := 90) (R _ _) dX7_init_90 ((gE (j := 19) rfl).trans rfl) ?_
  refine rl_icmp_ge (pc := 91) (tgt := 113) (R _ _) dX7_init_91 rfl (fun c => absurd c (by decide)) (fun _ => ?_)
  refine rl_aload_n (pc := 94) (R _ _) dX7_init_94 rfl ?_
  refine rl_getf (pc := 95) (R _ _) dX7_init_95 fkX7_53 ((gE (j := 0) rfl).trans rfl) rfl ?_
  refine rl_iload_n (pc := 98) (R _ _) dX7_init_98 rfl ?_
  refine rn_new (ci := 2) (N := 3) (C := RX2) (T := TX2) (fs := [.null, .int 0, .int 0]) (ty := tyX2) RN dX7_init_99 clX7_51 bnX2 iiX2 rfl tyX2_ok (by decide) (fun _ => rfl) (a := 22) rfl (rbA_of (n := 22) (fun _ h => absurd h List.not_mem_nil) rfl (rbQ (i := 1) (l1 := [hO 7 [.ref 1, .ref 5, .int 0, .ref 9, .ref 11, .ref 13, .ref 16, .ref 19], hO 6 [.ref 2, .ref 4], hO 0 [.ref 3, .int 0], hI 84 z0, hI 4 (upd (upd (upd (upd z0 0 9) 1 0) 2 4) 3 1), hO 6 [.ref 6, .ref 8], hO 0 [.ref 7, .int 0], hI 84 z0, hI 4 (upd (upd (upd (upd z0 0 9) 1 0) 2 4) 3 1), hO 4 [.ref 10, .int 0, .int 0], hI 200 z0, hO 0 [.ref 12, .int 0], hI 84 z0, hO 1 [.ref 14], hO 3 [.ref 15], hI 290 z0, hO 5 [.ref 17], hO 3 [.ref 18], hI 290 z0]) (l2 := [hO 2 [.ref 21, .int (-1), .int 0], hI 28 z0]) rfl (Nat.le_of_ble_eq_true rfl) rfl) (rbO_all rfl) (rbV_all rfl)) (Nat.le_of_ble_eq_true rfl) (Nat.le_of_ble_eq_true rfl) (Nat.le_of_ble_eq_true rfl) ?_
  show KN 22 1095 102 [some (.ref 0), some (.int (nI 1))] [.ref 22, .int (nI 1), .ref 19] (([] : List sm_C) ++ [hO 7 [.ref 1, .ref 5, .int 0, .ref 9, .ref 11, .ref 13, .ref 16, .ref 19], hO 6 [.ref 2, .ref 4], hO 0 [.ref 3, .int 0], hI 84 z0, hI 4 (upd (upd (upd (upd z0 0 9) 1 0) 2 4) 3 1), hO 6 [.ref 6, .ref 8], hO 0 [.ref 7, .int 0], hI 84 z0, hI 4 (upd (upd (upd (upd z0 0 9) 1 0) 2 4) 3 1), hO 4 [.ref 10, .int 0, .int 0], hI 200 z0, hO 0 [.ref 12, .int 0], hI 84 z0, hO 1 [.ref 14], hO 3 [.ref 15], hI 290 z0, hO 5 [.ref 17], hO 3 [.ref 18], hI 290 z0, hQ 4 (qf 1), hO 2 [.ref 21, .int (-1), .int 0], hI 28 z0, hO 2 [.null, .int 0, .int 0]])
  refine rl_dup (pc := 102) (R _ _) dX7_init_102 rfl ?_
  refine rn_ini (l := [hO 7 [.ref 1, .ref 5, .int 0, .ref 9, .ref 11, .ref 13, .ref 16, .ref 19], hO 6 [.ref 2, .ref 4], hO 0 [.ref 3, .int 0], hI 84 z0, hI 4 (upd (upd (upd (upd z0 0 9) 1 0) 2 4) 3 1), hO 6 [.ref 6, .ref 8], hO 0 [.ref 7, .int 0], hI 84 z0, hI 4 (upd (upd (upd (upd z0 0 9) 1 0) 2 4) 3 1), hO 4 [.ref 10, .int 0, .int 0], hI 200 z0, hO 0 [.ref 12, .int 0], hI 84 z0, hO 1 [.ref 14], hO 3 [.ref 15], hI 290 z0, hO 5 [.ref 17], hO 3 [.ref 18], hI 290 z0, hQ 4 (qf 1), hO 2 [.ref 21, .int (-1), .int 0], hI 28 z0]) (o := [hO 2 [.null, .int 0, .int 0]]) (o2 := [hO 2 [.ref 23, .int (-1), .int 0], hI 28 z0]) RN dX7_init_103 lkX7_57 (Nat.le_of_ble_eq_true rfl) (nb_X2 (h0 := ([] : List sm_C) ++ [hO 7 [.ref 1, .ref 5, .int 0, .ref 9, .ref 11, .ref 13, .ref 16, .ref 19], hO 6 [.ref 2, .ref 4], hO 0 [.ref 3, .int 0], hI 84 z0, hI 4 (upd (upd (upd (upd z0 0 9) 1 0) 2 4) 3 1), hO 6 [.ref 6, .ref 8], hO 0 [.ref 7, .int 0], hI 84 z0, hI 4 (upd (upd (upd (upd z0 0 9) 1 0) 2 4) 3 1), hO 4 [.ref 10, .int 0, .int 0], hI 200 z0, hO 0 [.ref 12, .int 0], hI 84 z0, hO 1 [.ref 14], hO 3 [.ref 15], hI 290 z0, hO 5 [.ref 17], hO 3 [.ref 18], hI 290 z0, hQ 4 (qf 1), hO 2 [.ref 21, .int (-1), .int 0], hI 28 z0]) (k := 22) rfl (rbQ (i := 1) (l1 := [hO 7 [.ref 1, .ref 5, .int 0, .ref 9, .ref 11, .ref 13, .ref 16, .ref 19], hO 6 [.ref 2, .ref 4], hO 0 [.ref 3, .int 0], hI 84 z0, hI 4 (upd (upd (upd (upd z0 0 9) 1 0) 2 4) 3 1), hO 6 [.ref 6, .ref 8], hO 0 [.ref 7, .int 0], hI 84 z0, hI 4 (upd (upd (upd (upd z0 0 9) 1 0) 2 4) 3 1), hO 4 [.ref 10, .int 0, .int 0], hI 200 z0, hO 0 [.ref 12, .int 0], hI 84 z0, hO 1 [.ref 14], hO 3 [.ref 15], hI 290 z0, hO 5 [.ref 17], hO 3 [.ref 18], hI 290 z0]) (l2 := [hO 2 [.ref 21, .int (-1), .int 0], hI 28 z0]) rfl (Nat.le_of_ble_eq_true rfl) rfl)) (rbA_of (n := 23) (fun _ h => absurd h List.not_mem_nil) rfl (rbQ (i := 1) (l1 := [hO 7 [.ref 1, .ref 5, .int 0, .ref 9, .ref 11, .ref 13, .ref 16, .ref 19], hO 6 [.ref 2, .ref 4], hO 0 [.ref 3, .int 0], hI 84 z0, hI 4 (upd (upd (upd (upd z0 0 9) 1 0) 2 4) 3 1), hO 6 [.ref 6, .ref 8], hO 0 [.ref 7, .int 0], hI 84 z0, hI 4 (upd (upd (upd (upd z0 0 9) 1 0) 2 4) 3 1), hO 4 [.ref 10, .int 0, .int 0], hI 200 z0, hO 0 [.ref 12, .int 0], hI 84 z0, hO 1 [.ref 14], hO 3 [.ref 15], hI 290 z0, hO 5 [.ref 17], hO 3 [.ref 18], hI 290 z0]) (l2 := [hO 2 [.ref 21, .int (-1), .int 0], hI 28 z0, hO 2 [.null, .int 0, .int 0]]) rfl (Nat.le_of_ble_eq_true rfl) rfl) (rbO_all rfl) (rbV_all rfl)) (Nat.le_of_ble_eq_true rfl) (Nat.le_of_ble_eq_true rfl) (Nat.le_of_ble_eq_true rfl) ?_
  show KN 23 1123 106 [some (.ref 0), some (.int (nI 1))] [.ref 22, .int (nI 1), .ref 19] (([] : List sm_C) ++ [hO 7 [.ref 1, .ref 5, .int 0, .ref 9, .ref 11, .ref 13, .ref 16, .ref 19], hO 6 [.ref 2, .ref 4], hO 0 [.ref 3, .int 0], hI 84 z0, hI 4 (upd (upd (upd (upd z0 0 9) 1 0) 2 4) 3 1), hO 6 [.ref 6, .ref 8], hO 0 [.ref 7, .int 0], hI 84 z0, hI 4 (upd (upd (upd (upd z0 0 9) 1 0) 2 4) 3 1), hO 4 [.ref 10, .int 0, .int 0], hI 200 z0, hO 0 [.ref 12, .int 0], hI 84 z0, hO 1 [.ref 14], hO 3 [.ref 15], hI 290 z0, hO 5 [.ref 17], hO 3 [.ref 18], hI 290 z0, hQ 4 (qf 1), hO 2 [.ref 21, .int (-1), .int 0], hI 28 z0, hO 2 [.ref 23, .int (-1), .int 0], hI 28 z0])
  refine rn_ast (z := 19) (j := 1) (zv := 22) (g := qf 2) (f := qf 1) RN dX7_init_106 rfl rfl rfl (Nat.le_of_ble_eq_true rfl) (by decide) rfl rfl (qf_up (i := 1)) ?_
  show KN 23 1123 107 [some (.ref 0), some (.int (nI 1))] [] (([] : List sm_C) ++ [hO 7 [.ref 1, .ref 5, .int 0, .ref 9, .ref 11, .ref 13, .ref 16, .ref 19], hO 6 [.ref 2, .ref 4], hO 0 [.ref 3, .int 0], hI 84 z0, hI 4 (upd (upd (upd (upd z0 0 9) 1 0) 2 4) 3 1), hO 6 [.ref 6, .ref 8], hO 0 [.ref 7, .int 0], hI 84 z0, hI 4 (upd (upd (upd (upd z0 0 9) 1 0) 2 4) 3 1), hO 4 [.ref 10, .int 0, .int 0], hI 200 z0, hO 0 [.ref 12, .int 0], hI 84 z0, hO 1 [.ref 14], hO 3 [.ref 15], hI 290 z0, hO 5 [.ref 17], hO 3 [.ref 18], hI 290 z0, hQ 4 (qf 2), hO 2 [.ref 21, .int (-1), .int 0], hI 28 z0, hO 2 [.ref 23, .int (-1), .int 0], hI 28 z0])
  refine rl_iinc (pc := 107) (R _ _) dX7_init_107 rfl (v := nI 2) (by decide) rfl ?_
  show KN 23 1123 110 [some (.ref 0), some (.int (nI 2))] [] (([] : List sm_C) ++ [hO 7 [.ref 1, .ref 5, .int 0, .ref 9, .ref 11, .ref 13, .ref 16, .ref 19], hO 6 [.ref 2, .ref 4], hO 0 [.ref 3, .int 0], hI 84 z0, hI 4 (upd (upd (upd (upd z0 0 9) 1 0) 2 4) 3 1), hO 6 [.ref 6, .ref 8], hO 0 [.ref 7, .int 0], hI 84 z0, hI 4 (upd (upd (upd (upd z0 0 9) 1 0) 2 4) 3 1), hO 4 [.ref 10, .int 0, .int 0], hI 200 z0, hO 0 [.ref 12, .int 0], hI 84 z0, hO 1 [.ref 14], hO 3 [.ref 15], hI 290 z0, hO 5 [.ref 17], hO 3 [.ref 18], hI 290 z0, hQ 4 (qf 2), hO 2 [.ref 21, .int (-1), .int 0], hI 28 z0, hO 2 [.ref 23, .int (-1), .int 0], hI 28 z0])
  refine rl_goto (pc := 110) (tgt := 85) (R _ _) dX7_init_110 rfl ?_
  refine rl_iload_n (pc := 85) (R _ _) dX7_init_85 rfl ?_
  refine rl_aload_n (pc := 86) (R _ _) dX7_init_86 rfl ?_
  refine rl_getf (pc := 87) (R _ _) dX7_init_87 fkX7_53 ((gE (j := 0) rfl).trans rfl) rfl ?_
  refine rl_alenQ (pc := 90) (R _ _) dX7_init_90 ((gE (j := 19) rfl).trans rfl) ?_
  refine rl_icmp_ge (pc := 91) (tgt := 113) (R _ _) dX7_init_91 rfl (fun c => absurd c (by decide)) (fun _ => ?_)
  refine rl_aload_n (pc := 94) (R _ _) dX7_init_94 rfl ?_
  refine rl_getf (pc := 95) (R _ _) dX7_init_95 fkX7_53 ((gE (j := 0) rfl).trans rfl) rfl ?_
  refine rl_iload_n (pc := 98) (R _ _) dX7_init_98 rfl ?_
  refine rn_new (ci := 2) (N := 3) (C := RX2) (T := TX2) (fs := [.null, .int 0, .int 0]) (ty := tyX2) RN dX7_init_99 clX7_51 bnX2 iiX2 rfl tyX2_ok (by decide) (fun _ => rfl) (a := 24) rfl (rbA_of (n := 24) (fun _ h => absurd h List.not_mem_nil) rfl (rbQ (i := 2) (l1 := [hO 7 [.ref 1, .ref 5, .int 0, .ref 9, .ref 11, .ref 13, .ref 16, .ref 19], hO 6 [.ref 2, .ref 4], hO 0 [.ref 3, .int 0], hI 84 z0, hI 4 (upd (upd (upd (upd z0 0 9) 1 0) 2 4) 3 1), hO 6 [.ref 6, .ref 8], hO 0 [.ref 7, .int 0], hI 84 z0, hI 4 (upd (upd (upd (upd z0 0 9) 1 0) 2 4) 3 1), hO 4 [.ref 10, .int 0, .int 0], hI 200 z0, hO 0 [.ref 12, .int 0], hI 84 z0, hO 1 [.ref 14], hO 3 [.ref 15], hI 290 z0, hO 5 [.ref 17], hO 3 [.ref 18], hI 290 z0]) (l2 := [hO 2 [.ref 21, .int (-1), .int 0], hI 28 z0, hO 2 [.ref 23, .int (-1), .int 0], hI 28 z0]) rfl (Nat.le_of_ble_eq_true rfl) rfl) (rbO_all rfl) (rbV_all rfl)) (Nat.le_of_ble_eq_true rfl) (Nat.le_of_ble_eq_true rfl) (Nat.le_of_ble_eq_true rfl) ?_
  show KN 24 1126 102 [some (.ref 0), some (.int (nI 2))] [.ref 24, .int (nI 2), .ref 19] (([] : List sm_C) ++ [hO 7 [.ref 1, .ref 5, .int 0, .ref 9, .ref 11, .ref 13, .ref 16, .ref 19], hO 6 [.ref 2, .ref 4], hO 0 [.ref 3, .int 0], hI 84 z0, hI 4 (upd (upd (upd (upd z0 0 9) 1 0) 2 4) 3 1), hO 6 [.ref 6, .ref 8], hO 0 [.ref 7, .int 0], hI 84 z0, hI 4 (upd (upd (upd (upd z0 0 9) 1 0) 2 4) 3 1), hO 4 [.ref 10, .int 0, .int 0], hI 200 z0, hO 0 [.ref 12, .int 0], hI 84 z0, hO 1 [.ref 14], hO 3 [.ref 15], hI 290 z0, hO 5 [.ref 17], hO 3 [.ref 18], hI 290 z0, hQ 4 (qf 2), hO 2 [.ref 21, .int (-1), .int 0], hI 28 z0, hO 2 [.ref 23, .int (-1), .int 0], hI 28 z0, hO 2 [.null, .int 0, .int 0]])
  refine rl_dup (pc := 102) (R _ _) dX7_init_102 rfl ?_
  refine rn_ini (l := [hO 7 [.ref 1, .ref 5, .int 0, .ref 9, .ref 11, .ref 13, .ref 16, .ref 19], hO 6 [.ref 2, .ref 4], hO 0 [.ref 3, .int 0], hI 84 z0, hI 4 (upd (upd (upd (upd z0 0 9) 1 0) 2 4) 3 1), hO 6 [.ref 6, .ref 8], hO 0 [.ref 7, .int 0], hI 84 z0, hI 4 (upd (upd (upd (upd z0 0 9) 1 0) 2 4) 3 1), hO 4 [.ref 10, .int 0, .int 0], hI 200 z0, hO 0 [.ref 12, .int 0], hI 84 z0, hO 1 [.ref 14], hO 3 [.ref 15], hI 290 z0, hO 5 [.ref 17], hO 3 [.ref 18], hI 290 z0, hQ 4 (qf 2), hO 2 [.ref 21, .int (-1), .int 0], hI 28 z0, hO 2 [.ref 23, .int (-1), .int 0], hI 28 z0]) (o := [hO 2 [.null, .int 0, .int 0]]) (o2 := [hO 2 [.ref 25, .int (-1), .int 0], hI 28 z0]) RN dX7_init_103 lkX7_57 (Nat.le_of_ble_eq_true rfl) (nb_X2 (h0 := ([] : List sm_C) ++ [hO 7 [.ref 1, .ref 5, .int 0, .ref 9, .ref 11, .ref 13, .ref 16, .ref 19], hO 6 [.ref 2, .ref 4], hO 0 [.ref 3, .int 0], hI 84 z0, hI 4 (upd (upd (upd (upd z0 0 9) 1 0) 2 4) 3 1), hO 6 [.ref 6, .ref 8], hO 0 [.ref 7, .int 0], hI 84 z0, hI 4 (upd (upd (upd (upd z0 0 9) 1 0) 2 4) 3 1), hO 4 [.ref 10, .int 0, .int 0], hI 200 z0, hO 0 [.ref 12, .int 0], hI 84 z0, hO 1 [.ref 14], hO 3 [.ref 15], hI 290 z0, hO 5 [.ref 17], hO 3 [.ref 18], hI 290 z0, hQ 4 (qf 2), hO 2 [.ref 21, .int (-1), .int 0], hI 28 z0, hO 2 [.ref 23, .int (-1), .int 0], hI 28 z0]) (k := 24) rfl (rbQ (i := 2) (l1 := [hO 7 [.ref 1, .ref 5, .int 0, .ref 9, .ref 11, .ref 13, .ref 16, .ref 19], hO 6 [.ref 2, .ref 4], hO 0 [.ref 3, .int 0], hI 84 z0, hI 4 (upd (upd (upd (upd z0 0 9) 1 0) 2 4) 3 1), hO 6 [.ref 6, .ref 8], hO 0 [.ref 7, .int 0], hI 84 z0, hI 4 (upd (upd (upd (upd z0 0 9) 1 0) 2 4) 3 1), hO 4 [.ref 10, .int 0, .int 0], hI 200 z0, hO 0 [.ref 12, .int 0], hI 84 z0, hO 1 [.ref 14], hO 3 [.ref 15], hI 290 z0, hO 5 [.ref 17], hO 3 [.ref 18], hI 290 z0]) (l2 := [hO 2 [.ref 21, .int (-1), .int 0], hI 28 z0, hO 2 [.ref 23, .int (-1), .int 0], hI 28 z0]) rfl (Nat.le_of_ble_eq_true rfl) rfl)) (rbA_of (n := 25) (fun _ h => absurd h List.not_mem_nil) rfl (rbQ (i := 2) (l1 := [hO 7 [.ref 1, .ref 5, .int 0, .ref 9, .ref 11, .ref 13, .ref 16, .ref 19], hO 6 [.ref 2, .ref 4], hO 0 [.ref 3, .int 0], hI 84 z0, hI 4 (upd (upd (upd (upd z0 0 9) 1 0) 2 4) 3 1), hO 6 [.ref 6, .ref 8], hO 0 [.ref 7, .int 0], hI 84 z0, hI 4 (upd (upd (upd (upd z0 0 9) 1 0) 2 4) 3 1), hO 4 [.ref 10, .int 0, .int 0], hI 200 z0, hO 0 [.ref 12, .int 0], hI 84 z0, hO 1 [.ref 14], hO 3 [.ref 15], hI 290 z0, hO 5 [.ref 17], hO 3 [.ref 18], hI 290 z0]) (l2 := [hO 2 [.ref 21, .int (-1), .int 0], hI 28 z0, hO 2 [.ref 23, .int (-1), .int 0], hI 28 z0, hO 2 [.null, .int 0, .int 0]]) rfl (Nat.le_of_ble_eq_true rfl) rfl) (rbO_all rfl) (rbV_all rfl)) (Nat.le_of_ble_eq_true rfl) (Nat.le_of_ble_eq_true rfl) (Nat.le_of_ble_eq_true rfl) ?_
  show KN 25 1154 106 [some (.ref 0), some (.int (nI 2))] [.ref 24, .int (nI 2), .ref 19] (([] : List sm_C) ++ [hO 7 [.ref 1, .ref 5, .int 0, .ref 9, .ref 11, .ref 13, .ref 16, .ref 19], hO 6 [.ref 2, .ref 4], hO 0 [.ref 3, .int 0], hI 84 z0, hI 4 (upd (upd (upd (upd z0 0 9) 1 0) 2 4) 3 1), hO 6 [.ref 6, .ref 8], hO 0 [.ref 7, .int 0], hI 84 z0, hI 4 (upd (upd (upd (upd z0 0 9) 1 0) 2 4) 3 1), hO 4 [.ref 10, .int 0, .int 0], hI 200 z0, hO 0 [.ref 12, .int 0], hI 84 z0, hO 1 [.ref 14], hO 3 [.ref 15], hI 290 z0, hO 5 [.ref 17], hO 3 [.ref 18], hI 290 z0, hQ 4 (qf 2), hO 2 [.ref 21, .int (-1), .int 0], hI 28 z0, hO 2 [.ref 23, .int (-1), .int 0], hI 28 z0, hO 2 [.ref 25, .int (-1), .int 0], hI 28 z0])
  refine rn_ast (z := 19) (j := 2) (zv := 24) (g := qf 3) (f := qf 2) RN dX7_init_106 rfl rfl rfl (Nat.le_of_ble_eq_true rfl) (by decide) rfl rfl (qf_up (i := 2)) ?_
  show KN 25 1154 107 [some (.ref 0), some (.int (nI 2))] [] (([] : List sm_C) ++ [hO 7 [.ref 1, .ref 5, .int 0, .ref 9, .ref 11, .ref 13, .ref 16, .ref 19], hO 6 [.ref 2, .ref 4], hO 0 [.ref 3, .int 0], hI 84 z0, hI 4 (upd (upd (upd (upd z0 0 9) 1 0) 2 4) 3 1), hO 6 [.ref 6, .ref 8], hO 0 [.ref 7, .int 0], hI 84 z0, hI 4 (upd (upd (upd (upd z0 0 9) 1 0) 2 4) 3 1), hO 4 [.ref 10, .int 0, .int 0], hI 200 z0, hO 0 [.ref 12, .int 0], hI 84 z0, hO 1 [.ref 14], hO 3 [.ref 15], hI 290 z0, hO 5 [.ref 17], hO 3 [.ref 18], hI 290 z0, hQ 4 (qf 3), hO 2 [.ref 21, .int (-1), .int 0], hI 28 z0, hO 2 [.ref 23, .int (-1), .int 0], hI 28 z0, hO 2 [.ref 25, .int (-1), .int 0], hI 28 z0])
  refine rl_iinc (pc := 107) (R _ _) dX7_init_107 rfl (v := nI 3) (by decide) rfl ?_
  show KN 25 1154 110 [some (.ref 0), some (.int (nI 3))] [] (([] : List sm_C) ++ [hO 7 [.ref 1, .ref 5, .int 0, .ref 9, .ref 11, .ref 13, .ref 16, .ref 19], hO 6 [.ref 2, .ref 4], hO 0 [.ref 3, .int 0], hI 84 z0, hI 4 (upd (upd (upd (upd z0 0 9) 1 0) 2 4) 3 1), hO 6 [.ref 6, .ref 8], hO 0 [.ref 7, .int 0], hI 84 z0, hI 4 (upd (upd (upd (upd z0 0 9) 1 0) 2 4) 3 1), hO 4 [.ref 10, .int 0, .int 0], hI 200 z0, hO 0 [.ref 12, .int 0], hI 84 z0, hO 1 [.ref 14], hO 3 [.ref 15], hI 290 z0, hO 5 [.ref 17], hO 3 [.ref 18], hI 290 z0, hQ 4 (qf 3), hO 2 [.ref 21, .int (-1), .int 0], hI 28 z0, hO 2 [.ref 23, .int (-1), .int 0], hI 28 z0, hO 2 [.ref 25, .int (-1), .int 0], hI 28 z0])
  refine rl_goto (pc := 110) (tgt := 85) (R _ _) dX7_init_110 rfl ?_
  refine rl_iload_n (pc := 85) (R _ _) dX7_init_85 rfl ?_
  refine rl_aload_n (pc := 86) (R _ _) dX7_init_86 rfl ?_
  refine rl_getf (pc := 87) (R _ _) dX7_init_87 fkX7_53 ((gE (j := 0) rfl).trans rfl) rfl ?_
  refine rl_alenQ (pc := 90) (R _ _) dX7_init_90 ((gE (j := 19) rfl).trans rfl) ?_
  refine rl_icmp_ge (pc := 91) (tgt := 113) (R _ _) dX7_init_91 rfl (fun c => absurd c (by decide)) (fun _ => ?_)
  refine rl_aload_n (pc := 94) (R _ _) dX7_init_94 rfl ?_
  refine rl_getf (pc := 95) (R _ _) dX7_init_95 fkX7_53 ((gE (j := 0) rfl).trans rfl) rfl ?_
  refine rl_iload_n (pc := 98) (R _ _) dX7_init_98 rfl ?_
  refine rn_new (ci := 2) (N := 3) (C := RX2) (T := TX2) (fs := [.null, .int 0, .int 0]) (ty := tyX2) RN dX7_init_99 clX7_51 bnX2 iiX2 rfl tyX2_ok (by decide) (fun _ => rfl) (a := 26) rfl (rbA_of (n := 26) (fun _ h => absurd h List.not_mem_nil) rfl (rbQ (i := 3) (l1 := [hO 7 [.ref 1, .ref 5, .int 0, .ref 9, .ref 11, .ref 13, .ref 16, .ref 19], hO 6 [.ref 2, .ref 4], hO 0 [.ref 3, .int 0], hI 84 z0, hI 4 (upd (upd (upd (upd z0 0 9) 1 0) 2 4) 3 1), hO 6 [.ref 6, .ref 8], hO 0 [.ref 7, .int 0], hI 84 z0, hI 4 (upd (upd (upd (upd z0 0 9) 1 0) 2 4) 3 1), hO 4 [.ref 10, .int 0, .int 0], hI 200 z0, hO 0 [.ref 12, .int 0], hI 84 z0, hO 1 [.ref 14], hO 3 [.ref 15], hI 290 z0, hO 5 [.ref 17], hO 3 [.ref 18], hI 290 z0]) (l2 := [hO 2 [.ref 21, .int (-1), .int 0], hI 28 z0, hO 2 [.ref 23, .int (-1), .int 0], hI 28 z0, hO 2 [.ref 25, .int (-1), .int 0], hI 28 z0]) rfl (Nat.le_of_ble_eq_true rfl) rfl) (rbO_all rfl) (rbV_all rfl)) (Nat.le_of_ble_eq_true rfl) (Nat.le_of_ble_eq_true rfl) (Nat.le_of_ble_eq_true rfl) ?_
  show KN 26 1157 102 [some (.ref 0), some (.int (nI 3))] [.ref 26, .int (nI 3), .ref 19] (([] : List sm_C) ++ [hO 7 [.ref 1, .ref 5, .int 0, .ref 9, .ref 11, .ref 13, .ref 16, .ref 19], hO 6 [.ref 2, .ref 4], hO 0 [.ref 3, .int 0], hI 84 z0, hI 4 (upd (upd (upd (upd z0 0 9) 1 0) 2 4) 3 1), hO 6 [.ref 6, .ref 8], hO 0 [.ref 7, .int 0], hI 84 z0, hI 4 (upd (upd (upd (upd z0 0 9) 1 0) 2 4) 3 1), hO 4 [.ref 10, .int 0, .int 0], hI 200 z0, hO 0 [.ref 12, .int 0], hI 84 z0, hO 1 [.ref 14], hO 3 [.ref 15], hI 290 z0, hO 5 [.ref 17], hO 3 [.ref 18], hI 290 z0, hQ 4 (qf 3), hO 2 [.ref 21, .int (-1), .int 0], hI 28 z0, hO 2 [.ref 23, .int (-1), .int 0], hI 28 z0, hO 2 [.ref 25, .int (-1), .int 0], hI 28 z0, hO 2 [.null, .int 0, .int 0]])
  refine rl_dup (pc := 102) (R _ _) dX7_init_102 rfl ?_
  refine rn_ini (l := [hO 7 [.ref 1, .ref 5, .int 0, .ref 9, .ref 11, .ref 13, .ref 16, .ref 19], hO 6 [.ref 2, .ref 4], hO 0 [.ref 3, .int 0], hI 84 z0, hI 4 (upd (upd (upd (upd z0 0 9) 1 0) 2 4) 3 1), hO 6 [.ref 6, .ref 8], hO 0 [.ref 7, .int 0], hI 84 z0, hI 4 (upd (upd (upd (upd z0 0 9) 1 0) 2 4) 3 1), hO 4 [.ref 10, .int 0, .int 0], hI 200 z0, hO 0 [.ref 12, .int 0], hI 84 z0, hO 1 [.ref 14], hO 3 [.ref 15], hI 290 z0, hO 5 [.ref 17], hO 3 [.ref 18], hI 290 z0, hQ 4 (qf 3), hO 2 [.ref 21, .int (-1), .int 0], hI 28 z0, hO 2 [.ref 23, .int (-1), .int 0], hI 28 z0, hO 2 [.ref 25, .int (-1), .int 0], hI 28 z0]) (o := [hO 2 [.null, .int 0, .int 0]]) (o2 := [hO 2 [.ref 27, .int (-1), .int 0], hI 28 z0]) RN dX7_init_103 lkX7_57 (Nat.le_of_ble_eq_true rfl) (nb_X2 (h0 := ([] : List sm_C) ++ [hO 7 [.ref 1, .ref 5, .int 0, .ref 9, .ref 11, .ref 13, .ref 16, .ref 19], hO 6 [.ref 2, .ref 4], hO 0 [.ref 3, .int 0], hI 84 z0, hI 4 (upd (upd (upd (upd z0 0 9) 1 0) 2 4) 3 1), hO 6 [.ref 6, .ref 8], hO 0 [.ref 7, .int 0], hI 84 z0, hI 4 (upd (upd (upd (upd z0 0 9) 1 0) 2 4) 3 1), hO 4 [.ref 10, .int 0, .int 0], hI 200 z0, hO 0 [.ref 12, .int 0], hI 84 z0, hO 1 [.ref 14], hO 3 [.ref 15], hI 290 z0, hO 5 [.ref 17], hO 3 [.ref 18], hI 290 z0, hQ 4 (qf 3), hO 2 [.ref 21, .int (-1), .int 0], hI 28 z0, hO 2 [.ref 23, .int (-1), .int 0], hI 28 z0, hO 2 [.ref 25, .int (-1), .int 0], hI 28 z0]) (k := 26) rfl (rbQ (i := 3) (l1 := [hO 7 [.ref 1, .ref 5, .int 0, .ref 9, .ref 11, .ref 13, .ref 16, .ref 19], hO 6 [.ref 2, .ref 4], hO 0 [.ref 3, .int 0], hI 84 z0, hI 4 (upd (upd (upd (upd z0 0 9) 1 0) 2 4) 3 1), hO 6 [.ref 6, .ref 8], hO 0 [.ref 7, .int 0], hI 84 z0, hI 4 (upd (upd (upd (upd z0 0 9) 1 0) 2 4) 3 1), hO 4 [.ref 10, .int 0, .int 0], hI 200 z0, hO 0 [.ref 12, .int 0], hI 84 z0, hO 1 [.ref 14], hO 3 [.ref 15], hI 290 z0, hO 5 [.ref 17], hO 3 [.ref 18], hI 290 z0]) (l2 := [hO 2 [.ref 21, .int (-1), .int 0], hI 28 z0, hO 2 [.ref 23, .int (-1), .int 0], hI 28 z0, hO 2 [.ref 25, .int (-1), .int 0], hI 28 z0]) rfl (Nat.le_of_ble_eq_true rfl) rfl)) (rbA_of (n := 27) (fun _ h => absurd h List.not_mem_nil) rfl (rbQ (i := 3) (l1 := [hO 7 [.ref 1, .ref 5, .int 0, .ref 9, .ref 11, .ref 13, .ref 16, .ref 19], hO 6 [.ref 2, .ref 4], hO 0 [.ref 3, .int 0], hI 84 z0, hI 4 (upd (upd (upd (upd z0 0 9) 1 0) 2 4) 3 1), hO 6 [.ref 6, .ref 8], hO 0 [.ref 7, .int 0], hI 84 z0, hI 4 (upd (upd (upd (upd z0 0 9) 1 0) 2 4) 3 1), hO 4 [.ref 10, .int 0, .int 0], hI 200 z0, hO 0 [.ref 12, .int 0], hI 84 z0, hO 1 [.ref 14], hO 3 [.ref 15], hI 290 z0, hO 5 [.ref 17], hO 3 [.ref 18], hI 290 z0]) (l2 := [hO 2 [.ref 21, .int (-1), .int 0], hI 28 z0, hO 2 [.ref 23, .int (-1), .int 0], hI 28 z0, hO 2 [.ref 25, .int (-1), .int 0], hI 28 z0, hO 2 [.null, .int 0, .int 0]]) rfl (Nat.le_of_ble_eq_true rfl) rfl) (rbO_all rfl) (rbV_all rfl)) (Nat.le_of_ble_eq_true rfl) (Nat.le_of_ble_eq_true rfl) (Nat.le_of_ble_eq_true rfl) ?_
  show KN 27 1185 106 [some (.ref 0), some (.int (nI 3))] [.ref 26, .int (nI 3), .ref 19] (([] : List sm_C) ++ [hO 7 [.ref 1, .ref 5, .int 0, .ref 9, .ref 11, .ref 13, .ref 16, .ref 19], hO 6 [.ref 2, .ref 4], hO 0 [.ref 3, .int 0], hI 84 z0, hI 4 (upd (upd (upd (upd z0 0 9) 1 0) 2 4) 3 1), hO 6 [.ref 6, .ref 8], hO 0 [.ref 7, .int 0], hI 84 z0, hI 4 (upd (upd (upd (upd z0 0 9) 1 0) 2 4) 3 1), hO 4 [.ref 10, .int 0, .int 0], hI 200 z0, hO 0 [.ref 12, .int 0], hI 84 z0, hO 1 [.ref 14], hO 3 [.ref 15], hI 290 z0, hO 5 [.ref 17], hO 3 [.ref 18], hI 290 z0, hQ 4 (qf 3), hO 2 [.ref 21, .int (-1), .int 0], hI 28 z0, hO 2 [.ref 23, .int (-1), .int 0], hI 28 z0, hO 2 [.ref 25, .int (-1), .int 0], hI 28 z0, hO 2 [.ref 27, .int (-1), .int 0], hI 28 z0])
  refine rn_ast (z := 19) (j := 3) (zv := 26) (g := fun j => some (20 + 2 * j)) (f := qf 3) RN dX7_init_106 rfl rfl rfl (Nat.le_of_ble_eq_true rfl) (by decide) rfl rfl (fun z hz => (show some (20 + 2 * z) = qf 4 z from (if_pos hz).symm).trans (qf_up (i := 3) z hz)) ?_
  show KN 27 1185 107 [some (.ref 0), some (.int (nI 3))] [] (([] : List sm_C) ++ [hO 7 [.ref 1, .ref 5, .int 0, .ref 9, .ref 11, .ref 13, .ref 16, .ref 19], hO 6 [.ref 2, .ref 4], hO 0 [.ref 3, .int 0], hI 84 z0, hI 4 (upd (upd (upd (upd z0 0 9) 1 0) 2 4) 3 1), hO 6 [.ref 6, .ref 8], hO 0 [.ref 7, .int 0], hI 84 z0, hI 4 (upd (upd (upd (upd z0 0 9) 1 0) 2 4) 3 1), hO 4 [.ref 10, .int 0, .int 0], hI 200 z0, hO 0 [.ref 12, .int 0], hI 84 z0, hO 1 [.ref 14], hO 3 [.ref 15], hI 290 z0, hO 5 [.ref 17], hO 3 [.ref 18], hI 290 z0, hQ 4 (fun j => some (20 + 2 * j)), hO 2 [.ref 21, .int (-1), .int 0], hI 28 z0, hO 2 [.ref 23, .int (-1), .int 0], hI 28 z0, hO 2 [.ref 25, .int (-1), .int 0], hI 28 z0, hO 2 [.ref 27, .int (-1), .int 0], hI 28 z0])
  refine rl_iinc (pc := 107) (R _ _) dX7_init_107 rfl (v := nI 4) (by decide) rfl ?_
  show KN 27 1185 110 [some (.ref 0), some (.int (nI 4))] [] (([] : List sm_C) ++ [hO 7 [.ref 1, .ref 5, .int 0, .ref 9, .ref 11, .ref 13, .ref 16, .ref 19], hO 6 [.ref 2, .ref 4], hO 0 [.ref 3, .int 0], hI 84 z0, hI 4 (upd (upd (upd (upd z0 0 9) 1 0) 2 4) 3 1), hO 6 [.ref 6, .ref 8], hO 0 [.ref 7, .int 0], hI 84 z0, hI 4 (upd (upd (upd (upd z0 0 9) 1 0) 2 4) 3 1), hO 4 [.ref 10, .int 0, .int 0], hI 200 z0, hO 0 [.ref 12, .int 0], hI 84 z0, hO 1 [.ref 14], hO 3 [.ref 15], hI 290 z0, hO 5 [.ref 17], hO 3 [.ref 18], hI 290 z0, hQ 4 (fun j => some (20 + 2 * j)), hO 2 [.ref 21, .int (-1), .int 0], hI 28 z0, hO 2 [.ref 23, .int (-1), .int 0], hI 28 z0, hO 2 [.ref 25, .int (-1), .int 0], hI 28 z0, hO 2 [.ref 27, .int (-1), .int 0], hI 28 z0])
  refine rl_goto (pc := 110) (tgt := 85) (R _ _) dX7_init_110 rfl ?_
  refine rl_iload_n (pc := 85) (R _ _) dX7_init_85 rfl ?_
  refine rl_aload_n (pc := 86) (R _ _) dX7_init_86 rfl ?_
  refine rl_getf (pc := 87) (R _ _) dX7_init_87 fkX7_53 ((gE (j := 0) rfl).trans rfl) rfl ?_
  refine rl_alenQ (pc := 90) (R _ _) dX7_init_90 ((gE (j := 19) rfl).trans rfl) ?_
  refine rl_icmp_ge (pc := 91) (tgt := 113) (R _ _) dX7_init_91 rfl (fun _ => ?_) (fun c => absurd (by decide) c)
  exact E dX7_init_113
set_option maxHeartbeats 4000000 in
theorem nb_X8 {d : Nat} : NB (d + 1) yX8_init 0 (([] : List sm_C) ++ [hO 8 [.null, .null, .int 0, .null, .int 0, .null, .null, .null, .int 0, .int 0, .int 0, .null, .null, .null, .null]]) (([] : List sm_C) ++ [hO 8 [.ref 1, .ref 2, .int 0, .ref 3, .int 0, .ref 4, .ref 5, .ref 6, .int 0, .int 0, .int 0, .ref 7, .ref 8, .ref 9, .ref 10], hI 89 (upd (upd (upd z0 0 9) 2 4) 3 1), hI 89 z0, hI 200 z0, hI 4 (upd (upd (upd (upd z0 0 (-1)) 1 (-1)) 2 (-1)) 3 (-1)), hI 4 z0, hI 112 z0, hI 84 z0, hI 1160 z0, hI 40 z0, hI 40 z0]) 10 1822 := by
  refine ⟨(yX8_init, cX8_init, 2), List.mem_of_getElem? (i := 8) rfl, rfl, fun KN R RN E => ?_⟩
  show KN 0 0 0 [some (.ref 0), none] [] (([] : List sm_C) ++ [hO 8 [.null, .null, .int 0, .null, .int 0, .null, .null, .null, .int 0, .int 0, .int 0, .null, .null, .null, .null]])
  refine rl_aload_n (pc := 0) (R _ _) dX8_init_0 rfl ?_
  refine rn_obj RN dX8_init_1 oiX8 (Nat.le_of_ble_eq_true rfl) ?_
  refine rl_aload_n (pc := 4) (R _ _) dX8_init_4 rfl ?_
  refine rl_bipush (pc := 5) (R _ _) dX8_init_5 bc_89 ?_
  refine rn_arr (N := 89) RN dX8_init_7 (by decide) (Nat.le_of_ble_eq_true rfl) (a := 1) rfl (rbA_of (n := 1) (fun _ h => absurd h List.not_mem_nil) rfl (rbX_ok rfl) (rbO_all rfl) (rbV_all rfl)) (Nat.le_of_ble_eq_true rfl) (Nat.le_of_ble_eq_true rfl) (Nat.le_of_ble_eq_true rfl) ?_
  show KN 1 89 9 [some (.ref 0), none] [.ref 1, .ref 0] (([] : List sm_C) ++ [hO 8 [.null, .null, .int 0, .null, .int 0, .null, .null, .null, .int 0, .int 0, .int 0, .null, .null, .null, .null], hI 89 z0])
  refine rn_putF (z := 0) RN dX8_init_9 ffX8_7 (fun _ => ⟨rfl, rfl⟩) rfl rfl (Nat.le_of_ble_eq_true rfl) ?_
  show KN 1 89 12 [some (.ref 0), none] [] (([] : List sm_C) ++ [hO 8 [.ref 1, .null, .int 0, .null, .int 0, .null, .null, .null, .int 0, .int 0, .int 0, .null, .null, .null, .null], hI 89 z0])
  refine rl_aload_n (pc := 12) (R _ _) dX8_init_12 rfl ?_
  refine rl_bipush (pc := 13) (R _ _) dX8_init_13 bc_89 ?_
  refine rn_arr (N := 89) RN dX8_init_15 (by decide) (Nat.le_of_ble_eq_true rfl) (a := 2) rfl (rbA_of (n := 2) (fun _ h => absurd h List.not_mem_nil) rfl (rbX_ok rfl) (rbO_all rfl) (rbV_all rfl)) (Nat.le_of_ble_eq_true rfl) (Nat.le_of_ble_eq_true rfl) (Nat.le_of_ble_eq_true rfl) ?_
  show KN 2 178 17 [some (.ref 0), none] [.ref 2, .ref 0] (([] : List sm_C) ++ [hO 8 [.ref 1, .null, .int 0, .null, .int 0, .null, .null, .null, .int 0, .int 0, .int 0, .null, .null, .null, .null], hI 89 z0, hI 89 z0])
  refine rn_putF (z := 0) RN dX8_init_17 ffX8_13 (fun _ => ⟨rfl, rfl⟩) rfl rfl (Nat.le_of_ble_eq_true rfl) ?_
  show KN 2 178 20 [some (.ref 0), none] [] (([] : List sm_C) ++ [hO 8 [.ref 1, .ref 2, .int 0, .null, .int 0, .null, .null, .null, .int 0, .int 0, .int 0, .null, .null, .null, .null], hI 89 z0, hI 89 z0])
  refine rl_aload_n (pc := 20) (R _ _) dX8_init_20 rfl ?_
  refine rl_sipush (pc := 21) (R _ _) dX8_init_21 sc_200 ?_
  refine rn_arr (N := 200) RN dX8_init_24 (by decide) (Nat.le_of_ble_eq_true rfl) (a := 3) rfl (rbA_of (n := 3) (fun _ h => absurd h List.not_mem_nil) rfl (rbX_ok rfl) (rbO_all rfl) (rbV_all rfl)) (Nat.le_of_ble_eq_true rfl) (Nat.le_of_ble_eq_true rfl) (Nat.le_of_ble_eq_true rfl) ?_
  show KN 3 378 26 [some (.ref 0), none] [.ref 3, .ref 0] (([] : List sm_C) ++ [hO 8 [.ref 1, .ref 2, .int 0, .null, .int 0, .null, .null, .null, .int 0, .int 0, .int 0, .null, .null, .null, .null], hI 89 z0, hI 89 z0, hI 200 z0])
  refine rn_putF (z := 0) RN dX8_init_26 ffX8_16 (fun _ => ⟨rfl, rfl⟩) rfl rfl (Nat.le_of_ble_eq_true rfl) ?_
  show KN 3 378 29 [some (.ref 0), none] [] (([] : List sm_C) ++ [hO 8 [.ref 1, .ref 2, .int 0, .ref 3, .int 0, .null, .null, .null, .int 0, .int 0, .int 0, .null, .null, .null, .null], hI 89 z0, hI 89 z0, hI 200 z0])
  refine rl_aload_n (pc := 29) (R _ _) dX8_init_29 rfl ?_
  refine rl_iconst (pc := 30) (R _ _) dX8_init_30 ic_4 ?_
  refine rn_arr (N := 4) RN dX8_init_31 (by decide) (Nat.le_of_ble_eq_true rfl) (a := 4) rfl (rbA_of (n := 4) (fun _ h => absurd h List.not_mem_nil) rfl (rbX_ok rfl) (rbO_all rfl) (rbV_all rfl)) (Nat.le_of_ble_eq_true rfl) (Nat.le_of_ble_eq_true rfl) (Nat.le_of_ble_eq_true rfl) ?_
  show KN 4 382 33 [some (.ref 0), none] [.ref 4, .ref 0] (([] : List sm_C) ++ [hO 8 [.ref 1, .ref 2, .int 0, .ref 3, .int 0, .null, .null, .null, .int 0, .int 0, .int 0, .null, .null, .null, .null], hI 89 z0, hI 89 z0, hI 200 z0, hI 4 z0])
  refine rn_putF (z := 0) RN dX8_init_33 ffX8_19 (fun _ => ⟨rfl, rfl⟩) rfl rfl (Nat.le_of_ble_eq_true rfl) ?_
  show KN 4 382 36 [some (.ref 0), none] [] (([] : List sm_C) ++ [hO 8 [.ref 1, .ref 2, .int 0, .ref 3, .int 0, .ref 4, .null, .null, .int 0, .int 0, .int 0, .null, .null, .null, .null], hI 89 z0, hI 89 z0, hI 200 z0, hI 4 z0])
  refine rl_aload_n (pc := 36) (R _ _) dX8_init_36 rfl ?_
  refine rl_iconst (pc := 37) (R _ _) dX8_init_37 ic_4 ?_
  refine rn_arr (N := 4) RN dX8_init_38 (by decide) (Nat.le_of_ble_eq_true rfl) (a := 5) rfl (rbA_of (n := 5) (fun _ h => absurd h List.not_mem_nil) rfl (rbX_ok rfl) (rbO_all rfl) (rbV_all rfl)) (Nat.le_of_ble_eq_true rfl) (Nat.le_of_ble_eq_true rfl) (Nat.le_of_ble_eq_true rfl) ?_
  show KN 5 386 40 [some (.ref 0), none] [.ref 5, .ref 0] (([] : List sm_C) ++ [hO 8 [.ref 1, .ref 2, .int 0, .ref 3, .int 0, .ref 4, .null, .null, .int 0, .int 0, .int 0, .null, .null, .null, .null], hI 89 z0, hI 89 z0, hI 200 z0, hI 4 z0, hI 4 z0])
  refine rn_putF (z := 0) RN dX8_init_40 ffX8_22 (fun _ => ⟨rfl, rfl⟩) rfl rfl (Nat.le_of_ble_eq_true rfl) ?_
  show KN 5 386 43 [some (.ref 0), none] [] (([] : List sm_C) ++ [hO 8 [.ref 1, .ref 2, .int 0, .ref 3, .int 0, .ref 4, .ref 5, .null, .int 0, .int 0, .int 0, .null, .null, .null, .null], hI 89 z0, hI 89 z0, hI 200 z0, hI 4 z0, hI 4 z0])
  refine rl_aload_n (pc := 43) (R _ _) dX8_init_43 rfl ?_
  refine rl_bipush (pc := 44) (R _ _) dX8_init_44 bc_112 ?_
  refine rn_arr (N := 112) RN dX8_init_46 (by decide) (Nat.le_of_ble_eq_true rfl) (a := 6) rfl (rbA_of (n := 6) (fun _ h => absurd h List.not_mem_nil) rfl (rbX_ok rfl) (rbO_all rfl) (rbV_all rfl)) (Nat.le_of_ble_eq_true rfl) (Nat.le_of_ble_eq_true rfl) (Nat.le_of_ble_eq_true rfl) ?_
  show KN 6 498 48 [some (.ref 0), none] [.ref 6, .ref 0] (([] : List sm_C) ++ [hO 8 [.ref 1, .ref 2, .int 0, .ref 3, .int 0, .ref 4, .ref 5, .null, .int 0, .int 0, .int 0, .null, .null, .null, .null], hI 89 z0, hI 89 z0, hI 200 z0, hI 4 z0, hI 4 z0, hI 112 z0])
  refine rn_putF (z := 0) RN dX8_init_48 ffX8_25 (fun _ => ⟨rfl, rfl⟩) rfl rfl (Nat.le_of_ble_eq_true rfl) ?_
  show KN 6 498 51 [some (.ref 0), none] [] (([] : List sm_C) ++ [hO 8 [.ref 1, .ref 2, .int 0, .ref 3, .int 0, .ref 4, .ref 5, .ref 6, .int 0, .int 0, .int 0, .null, .null, .null, .null], hI 89 z0, hI 89 z0, hI 200 z0, hI 4 z0, hI 4 z0, hI 112 z0])
  refine rl_aload_n (pc := 51) (R _ _) dX8_init_51 rfl ?_
  refine rl_bipush (pc := 52) (R _ _) dX8_init_52 bc_84 ?_
  refine rn_arr (N := 84) RN dX8_init_54 (by decide) (Nat.le_of_ble_eq_true rfl) (a := 7) rfl (rbA_of (n := 7) (fun _ h => absurd h List.not_mem_nil) rfl (rbX_ok rfl) (rbO_all rfl) (rbV_all rfl)) (Nat.le_of_ble_eq_true rfl) (Nat.le_of_ble_eq_true rfl) (Nat.le_of_ble_eq_true rfl) ?_
  show KN 7 582 56 [some (.ref 0), none] [.ref 7, .ref 0] (([] : List sm_C) ++ [hO 8 [.ref 1, .ref 2, .int 0, .ref 3, .int 0, .ref 4, .ref 5, .ref 6, .int 0, .int 0, .int 0, .null, .null, .null, .null], hI 89 z0, hI 89 z0, hI 200 z0, hI 4 z0, hI 4 z0, hI 112 z0, hI 84 z0])
  refine rn_putF (z := 0) RN dX8_init_56 ffX8_28 (fun _ => ⟨rfl, rfl⟩) rfl rfl (Nat.le_of_ble_eq_true rfl) ?_
  show KN 7 582 59 [some (.ref 0), none] [] (([] : List sm_C) ++ [hO 8 [.ref 1, .ref 2, .int 0, .ref 3, .int 0, .ref 4, .ref 5, .ref 6, .int 0, .int 0, .int 0, .ref 7, .null, .null, .null], hI 89 z0, hI 89 z0, hI 200 z0, hI 4 z0, hI 4 z0, hI 112 z0, hI 84 z0])
  refine rl_aload_n (pc := 59) (R _ _) dX8_init_59 rfl ?_
  refine rl_sipush (pc := 60) (R _ _) dX8_init_60 sc_1160 ?_
  refine rn_arr (N := 1160) RN dX8_init_63 (by decide) (Nat.le_of_ble_eq_true rfl) (a := 8) rfl (rbA_of (n := 8) (fun _ h => absurd h List.not_mem_nil) rfl (rbX_ok rfl) (rbO_all rfl) (rbV_all rfl)) (Nat.le_of_ble_eq_true rfl) (Nat.le_of_ble_eq_true rfl) (Nat.le_of_ble_eq_true rfl) ?_
  show KN 8 1742 65 [some (.ref 0), none] [.ref 8, .ref 0] (([] : List sm_C) ++ [hO 8 [.ref 1, .ref 2, .int 0, .ref 3, .int 0, .ref 4, .ref 5, .ref 6, .int 0, .int 0, .int 0, .ref 7, .null, .null, .null], hI 89 z0, hI 89 z0, hI 200 z0, hI 4 z0, hI 4 z0, hI 112 z0, hI 84 z0, hI 1160 z0])
  refine rn_putF (z := 0) RN dX8_init_65 ffX8_31 (fun _ => ⟨rfl, rfl⟩) rfl rfl (Nat.le_of_ble_eq_true rfl) ?_
  show KN 8 1742 68 [some (.ref 0), none] [] (([] : List sm_C) ++ [hO 8 [.ref 1, .ref 2, .int 0, .ref 3, .int 0, .ref 4, .ref 5, .ref 6, .int 0, .int 0, .int 0, .ref 7, .ref 8, .null, .null], hI 89 z0, hI 89 z0, hI 200 z0, hI 4 z0, hI 4 z0, hI 112 z0, hI 84 z0, hI 1160 z0])
  refine rl_aload_n (pc := 68) (R _ _) dX8_init_68 rfl ?_
  refine rl_bipush (pc := 69) (R _ _) dX8_init_69 bc_40 ?_
  refine rn_arr (N := 40) RN dX8_init_71 (by decide) (Nat.le_of_ble_eq_true rfl) (a := 9) rfl (rbA_of (n := 9) (fun _ h => absurd h List.not_mem_nil) rfl (rbX_ok rfl) (rbO_all rfl) (rbV_all rfl)) (Nat.le_of_ble_eq_true rfl) (Nat.le_of_ble_eq_true rfl) (Nat.le_of_ble_eq_true rfl) ?_
  show KN 9 1782 73 [some (.ref 0), none] [.ref 9, .ref 0] (([] : List sm_C) ++ [hO 8 [.ref 1, .ref 2, .int 0, .ref 3, .int 0, .ref 4, .ref 5, .ref 6, .int 0, .int 0, .int 0, .ref 7, .ref 8, .null, .null], hI 89 z0, hI 89 z0, hI 200 z0, hI 4 z0, hI 4 z0, hI 112 z0, hI 84 z0, hI 1160 z0, hI 40 z0])
  refine rn_putF (z := 0) RN dX8_init_73 ffX8_34 (fun _ => ⟨rfl, rfl⟩) rfl rfl (Nat.le_of_ble_eq_true rfl) ?_
  show KN 9 1782 76 [some (.ref 0), none] [] (([] : List sm_C) ++ [hO 8 [.ref 1, .ref 2, .int 0, .ref 3, .int 0, .ref 4, .ref 5, .ref 6, .int 0, .int 0, .int 0, .ref 7, .ref 8, .ref 9, .null], hI 89 z0, hI 89 z0, hI 200 z0, hI 4 z0, hI 4 z0, hI 112 z0, hI 84 z0, hI 1160 z0, hI 40 z0])
  refine rl_aload_n (pc := 76) (R _ _) dX8_init_76 rfl ?_
  refine rl_bipush (pc := 77) (R _ _) dX8_init_77 bc_40 ?_
  refine rn_arr (N := 40) RN dX8_init_79 (by decide) (Nat.le_of_ble_eq_true rfl) (a := 10) rfl (rbA_of (n := 10) (fun _ h => absurd h List.not_mem_nil) rfl (rbX_ok rfl) (rbO_all rfl) (rbV_all rfl)) (Nat.le_of_ble_eq_true rfl) (Nat.le_of_ble_eq_true rfl) (Nat.le_of_ble_eq_true rfl) ?_
  show KN 10 1822 81 [some (.ref 0), none] [.ref 10, .ref 0] (([] : List sm_C) ++ [hO 8 [.ref 1, .ref 2, .int 0, .ref 3, .int 0, .ref 4, .ref 5, .ref 6, .int 0, .int 0, .int 0, .ref 7, .ref 8, .ref 9, .null], hI 89 z0, hI 89 z0, hI 200 z0, hI 4 z0, hI 4 z0, hI 112 z0, hI 84 z0, hI 1160 z0, hI 40 z0, hI 40 z0])
  refine rn_putF (z := 0) RN dX8_init_81 ffX8_37 (fun _ => ⟨rfl, rfl⟩) rfl rfl (Nat.le_of_ble_eq_true rfl) ?_
  show KN 10 1822 84 [some (.ref 0), none] [] (([] : List sm_C) ++ [hO 8 [.ref 1, .ref 2, .int 0, .ref 3, .int 0, .ref 4, .ref 5, .ref 6, .int 0, .int 0, .int 0, .ref 7, .ref 8, .ref 9, .ref 10], hI 89 z0, hI 89 z0, hI 200 z0, hI 4 z0, hI 4 z0, hI 112 z0, hI 84 z0, hI 1160 z0, hI 40 z0, hI 40 z0])
  refine rl_aload_n (pc := 84) (R _ _) dX8_init_84 rfl ?_
  refine rl_getf (pc := 85) (R _ _) dX8_init_85 fkX8_7 ((gE (j := 0) rfl).trans rfl) rfl ?_
  refine rl_iconst (pc := 88) (R _ _) dX8_init_88 ic_0 ?_
  refine rl_bipush (pc := 89) (R _ _) dX8_init_89 bc_9 ?_
  refine rn_iast (z := 1) (j := 0) (R _ _) dX8_init_91 rfl rfl (by decide) (Nat.le_of_ble_eq_true rfl) (by decide) ?_
  show KN 10 1822 92 [some (.ref 0), none] [] (([] : List sm_C) ++ [hO 8 [.ref 1, .ref 2, .int 0, .ref 3, .int 0, .ref 4, .ref 5, .ref 6, .int 0, .int 0, .int 0, .ref 7, .ref 8, .ref 9, .ref 10], hI 89 (upd z0 0 9), hI 89 z0, hI 200 z0, hI 4 z0, hI 4 z0, hI 112 z0, hI 84 z0, hI 1160 z0, hI 40 z0, hI 40 z0])
  refine rl_aload_n (pc := 92) (R _ _) dX8_init_92 rfl ?_
  refine rl_getf (pc := 93) (R _ _) dX8_init_93 fkX8_7 ((gE (j := 0) rfl).trans rfl) rfl ?_
  refine rl_iconst (pc := 96) (R _ _) dX8_init_96 ic_2 ?_
  refine rl_iconst (pc := 97) (R _ _) dX8_init_97 ic_4 ?_
  refine rn_iast (z := 1) (j := 2) (R _ _) dX8_init_98 rfl rfl (by decide) (Nat.le_of_ble_eq_true rfl) (by decide) ?_
  show KN 10 1822 99 [some (.ref 0), none] [] (([] : List sm_C) ++ [hO 8 [.ref 1, .ref 2, .int 0, .ref 3, .int 0, .ref 4, .ref 5, .ref 6, .int 0, .int 0, .int 0, .ref 7, .ref 8, .ref 9, .ref 10], hI 89 (upd (upd z0 0 9) 2 4), hI 89 z0, hI 200 z0, hI 4 z0, hI 4 z0, hI 112 z0, hI 84 z0, hI 1160 z0, hI 40 z0, hI 40 z0])
  refine rl_aload_n (pc := 99) (R _ _) dX8_init_99 rfl ?_
  refine rl_getf (pc := 100) (R _ _) dX8_init_100 fkX8_7 ((gE (j := 0) rfl).trans rfl) rfl ?_
  refine rl_iconst (pc := 103) (R _ _) dX8_init_103 ic_3 ?_
  refine rl_iconst (pc := 104) (R _ _) dX8_init_104 ic_1 ?_
  refine rn_iast (z := 1) (j := 3) (R _ _) dX8_init_105 rfl rfl (by decide) (Nat.le_of_ble_eq_true rfl) (by decide) ?_
  show KN 10 1822 106 [some (.ref 0), none] [] (([] : List sm_C) ++ [hO 8 [.ref 1, .ref 2, .int 0, .ref 3, .int 0, .ref 4, .ref 5, .ref 6, .int 0, .int 0, .int 0, .ref 7, .ref 8, .ref 9, .ref 10], hI 89 (upd (upd (upd z0 0 9) 2 4) 3 1), hI 89 z0, hI 200 z0, hI 4 z0, hI 4 z0, hI 112 z0, hI 84 z0, hI 1160 z0, hI 40 z0, hI 40 z0])
  refine rl_iconst (pc := 106) (R _ _) dX8_init_106 ic_0 ?_
  refine rl_istore_n (pc := 107) (R _ _) dX8_init_107 (Nat.le_of_ble_eq_true rfl) rfl ?_
  show KN 10 1822 108 [some (.ref 0), some (.int 0)] [] (([] : List sm_C) ++ [hO 8 [.ref 1, .ref 2, .int 0, .ref 3, .int 0, .ref 4, .ref 5, .ref 6, .int 0, .int 0, .int 0, .ref 7, .ref 8, .ref 9, .ref 10], hI 89 (upd (upd (upd z0 0 9) 2 4) 3 1), hI 89 z0, hI 200 z0, hI 4 z0, hI 4 z0, hI 112 z0, hI 84 z0, hI 1160 z0, hI 40 z0, hI 40 z0])
  refine rl_iload_n (pc := 108) (R _ _) dX8_init_108 rfl ?_
  refine rl_iconst (pc := 109) (R _ _) dX8_init_109 ic_4 ?_
  refine rl_icmp_ge (pc := 110) (tgt := 126) (R _ _) dX8_init_110 rfl (fun c => absurd c (by decide)) (fun _ => ?_)
  refine rl_aload_n (pc := 113) (R _ _) dX8_init_113 rfl ?_
  refine rl_getf (pc := 114) (R _ _) dX8_init_114 fkX8_19 ((gE (j := 0) rfl).trans rfl) rfl ?_
  refine rl_iload_n (pc := 117) (R _ _) dX8_init_117 rfl ?_
  refine rl_iconst (pc := 118) (R _ _) dX8_init_118 ic_m1 ?_
  refine rn_iast (z := 4) (j := 0) (R _ _) dX8_init_119 rfl rfl (by decide) (Nat.le_of_ble_eq_true rfl) (by decide) ?_
  show KN 10 1822 120 [some (.ref 0), some (.int 0)] [] (([] : List sm_C) ++ [hO 8 [.ref 1, .ref 2, .int 0, .ref 3, .int 0, .ref 4, .ref 5, .ref 6, .int 0, .int 0, .int 0, .ref 7, .ref 8, .ref 9, .ref 10], hI 89 (upd (upd (upd z0 0 9) 2 4) 3 1), hI 89 z0, hI 200 z0, hI 4 (upd z0 0 (-1)), hI 4 z0, hI 112 z0, hI 84 z0, hI 1160 z0, hI 40 z0, hI 40 z0])
  refine rl_iinc (pc := 120) (R _ _) dX8_init_120 rfl (v := nI 1) (by decide) rfl ?_
  show KN 10 1822 123 [some (.ref 0), some (.int (nI 1))] [] (([] : List sm_C) ++ [hO 8 [.ref 1, .ref 2, .int 0, .ref 3, .int 0, .ref 4, .ref 5, .ref 6, .int 0, .int 0, .int 0, .ref 7, .ref 8, .ref 9, .ref 10], hI 89 (upd (upd (upd z0 0 9) 2 4) 3 1), hI 89 z0, hI 200 z0, hI 4 (upd z0 0 (-1)), hI 4 z0, hI 112 z0, hI 84 z0, hI 1160 z0, hI 40 z0, hI 40 z0])
  refine rl_goto (pc := 123) (tgt := 108) (R _ _) dX8_init_123 rfl ?_
  refine rl_iload_n (pc := 108) (R _ _) dX8_init_108 rfl ?_
  refine rl_iconst (pc := 109) (R _ _) dX8_init_109 ic_4 ?_
  refine rl_icmp_ge (pc := 110) (tgt := 126) (R _ _) dX8_init_110 rfl (fun c => absurd c (by decide)) (fun _ => ?_)
  refine rl_aload_n (pc := 113) (R _ _) dX8_init_113 rfl ?_
  refine rl_getf (pc := 114) (R _ _) dX8_init_114 fkX8_19 ((gE (j := 0) rfl).trans rfl) rfl ?_
  refine rl_iload_n (pc := 117) (R _ _) dX8_init_117 rfl ?_
  refine rl_iconst (pc := 118) (R _ _) dX8_init_118 ic_m1 ?_
  refine rn_iast (z := 4) (j := 1) (R _ _) dX8_init_119 rfl rfl rfl (Nat.le_of_ble_eq_true rfl) (by decide) ?_
  show KN 10 1822 120 [some (.ref 0), some (.int (nI 1))] [] (([] : List sm_C) ++ [hO 8 [.ref 1, .ref 2, .int 0, .ref 3, .int 0, .ref 4, .ref 5, .ref 6, .int 0, .int 0, .int 0, .ref 7, .ref 8, .ref 9, .ref 10], hI 89 (upd (upd (upd z0 0 9) 2 4) 3 1), hI 89 z0, hI 200 z0, hI 4 (upd (upd z0 0 (-1)) 1 (-1)), hI 4 z0, hI 112 z0, hI 84 z0, hI 1160 z0, hI 40 z0, hI 40 z0])
  refine rl_iinc (pc := 120) (R _ _) dX8_init_120 rfl (v := nI 2) (by decide) rfl ?_
  show KN 10 1822 123 [some (.ref 0), some (.int (nI 2))] [] (([] : List sm_C) ++ [hO 8 [.ref 1, .ref 2, .int 0, .ref 3, .int 0, .ref 4, .ref 5, .ref 6, .int 0, .int 0, .int 0, .ref 7, .ref 8, .ref 9, .ref 10], hI 89 (upd (upd (upd z0 0 9) 2 4) 3 1), hI 89 z0, hI 200 z0, hI 4 (upd (upd z0 0 (-1)) 1 (-1)), hI 4 z0, hI 112 z0, hI 84 z0, hI 1160 z0, hI 40 z0, hI 40 z0])
  refine rl_goto (pc := 123) (tgt := 108) (R _ _) dX8_init_123 rfl ?_
  refine rl_iload_n (pc := 108) (R _ _) dX8_init_108 rfl ?_
  refine rl_iconst (pc := 109) (R _ _) dX8_init_109 ic_4 ?_
  refine rl_icmp_ge (pc := 110) (tgt := 126) (R _ _) dX8_init_110 rfl (fun c => absurd c (by decide)) (fun _ => ?_)
  refine rl_aload_n (pc := 113) (R _ _) dX8_init_113 rfl ?_
  refine rl_getf (pc := 114) (R _ _) dX8_init_114 fkX8_19 ((gE (j := 0) rfl).trans rfl) rfl ?_
  refine rl_iload_n (pc := 117) (R _ _) dX8_init_117 rfl ?_
  refine rl_iconst (pc := 118) (R _ _) dX8_init_118 ic_m1 ?_
  refine rn_iast (z := 4) (j := 2) (R _ _) dX8_init_119 rfl rfl rfl (Nat.le_of_ble_eq_true rfl) (by decide) ?_
  show KN 10 1822 120 [some (.ref 0), some (.int (nI 2))] [] (([] : List sm_C) ++ [hO 8 [.ref 1, .ref 2, .int 0, .ref 3, .int 0, .ref 4, .ref 5, .ref 6, .int 0, .int 0, .int 0, .ref 7, .ref 8, .ref 9, .ref 10], hI 89 (upd (upd (upd z0 0 9) 2 4) 3 1), hI 89 z0, hI 200 z0, hI 4 (upd (upd (upd z0 0 (-1)) 1 (-1)) 2 (-1)), hI 4 z0, hI 112 z0, hI 84 z0, hI 1160 z0, hI 40 z0, hI 40 z0])
  refine rl_iinc (pc := 120) (R _ _) dX8_init_120 rfl (v := nI 3) (by decide) rfl ?_
  show KN 10 1822 123 [some (.ref 0), some (.int (nI 3))] [] (([] : List sm_C) ++ [hO 8 [.ref 1, .ref 2, .int 0, .ref 3, .int 0, .ref 4, .ref 5, .ref 6, .int 0, .int 0, .int 0, .ref 7, .ref 8, .ref 9, .ref 10], hI 89 (upd (upd (upd z0 0 9) 2 4) 3 1), hI 89 z0, hI 200 z0, hI 4 (upd (upd (upd z0 0 (-1)) 1 (-1)) 2 (-1)), hI 4 z0, hI 112 z0, hI 84 z0, hI 1160 z0, hI 40 z0, hI 40 z0])
  refine rl_goto (pc := 123) (tgt := 108) (R _ _) dX8_init_123 rfl ?_
  refine rl_iload_n (pc := 108) (R _ _) dX8_init_108 rfl ?_
  refine rl_iconst (pc := 109) (R _ _) dX8_init_109 ic_4 ?_
  refine rl_icmp_ge (pc := 110) (tgt := 126) (R _ _) dX8_init_110 rfl (fun c => absurd c (by decide)) (fun _ => ?_)
  refine rl_aload_n (pc := 113) (R _ _) dX8_init_113 rfl ?_
  refine rl_getf (pc := 114) (R _ _) dX8_init_114 fkX8_19 ((gE (j := 0) rfl).trans rfl) rfl ?_
  refine rl_iload_n (pc := 117) (R _ _) dX8_init_117 rfl ?_
  refine rl_iconst (pc := 118) (R _ _) dX8_init_118 ic_m1 ?_
  refine rn_iast (z := 4) (j := 3) (R _ _) dX8_init_119 rfl rfl rfl (Nat.le_of_ble_eq_true rfl) (by decide) ?_
  show KN 10 1822 120 [some (.ref 0), some (.int (nI 3))] [] (([] : List sm_C) ++ [hO 8 [.ref 1, .ref 2, .int 0, .ref 3, .int 0, .ref 4, .ref 5, .ref 6, .int 0, .int 0, .int 0, .ref 7, .ref 8, .ref 9, .ref 10], hI 89 (upd (upd (upd z0 0 9) 2 4) 3 1), hI 89 z0, hI 200 z0, hI 4 (upd (upd (upd (upd z0 0 (-1)) 1 (-1)) 2 (-1)) 3 (-1)), hI 4 z0, hI 112 z0, hI 84 z0, hI 1160 z0, hI 40 z0, hI 40 z0])
  refine rl_iinc (pc := 120) (R _ _) dX8_init_120 rfl (v := nI 4) (by decide) rfl ?_
  show KN 10 1822 123 [some (.ref 0), some (.int (nI 4))] [] (([] : List sm_C) ++ [hO 8 [.ref 1, .ref 2, .int 0, .ref 3, .int 0, .ref 4, .ref 5, .ref 6, .int 0, .int 0, .int 0, .ref 7, .ref 8, .ref 9, .ref 10], hI 89 (upd (upd (upd z0 0 9) 2 4) 3 1), hI 89 z0, hI 200 z0, hI 4 (upd (upd (upd (upd z0 0 (-1)) 1 (-1)) 2 (-1)) 3 (-1)), hI 4 z0, hI 112 z0, hI 84 z0, hI 1160 z0, hI 40 z0, hI 40 z0])
  refine rl_goto (pc := 123) (tgt := 108) (R _ _) dX8_init_123 rfl ?_
  refine rl_iload_n (pc := 108) (R _ _) dX8_init_108 rfl ?_
  refine rl_iconst (pc := 109) (R _ _) dX8_init_109 ic_4 ?_
  refine rl_icmp_ge (pc := 110) (tgt := 126) (R _ _) dX8_init_110 rfl (fun _ => ?_) (fun c => absurd (by decide) c)
  exact E dX8_init_126
