/-! THE CLASS: images, sheets, the year -/
section X9
variable {d : Nat} {h : List sm_C} {im : Int32} {n : Nat} {nw wo co se : Nat → Int32}
/-- an image of now: the settings, days of now come to kept -/
theorem bs_X6_become {y kd ks kc n2 y2 kd2 ks2 kc2 : Nat} {f f2 se2 : Nat → Int32} (a1 : h[y]? = some (hO 6 [.ref kd, .ref ks])) (a2 : h[kd]? = some (hO 0 [.ref kc, .int (nI n)])) (a3 : h[kc]? = some (hI 84 f)) (a4 : h[ks]? = some (hI 4 se)) (b1 : h[y2]? = some (hO 6 [.ref kd2, .ref ks2])) (b2 : h[kd2]? = some (hO 0 [.ref kc2, .int (nI n2)])) (b3 : h[kc2]? = some (hI 84 f2)) (b4 : h[ks2]? = some (hI 4 se2)) (e1 : ks2 ≠ kc) (e2 : ks ≠ kc) (e3 : y ≠ kd) (e4 : y2 ≠ kd) : BS (d + 2) false yX6_become [.ref y, .ref y2] h none (((h.set kc (hI 84 (va_cpy f2 f 0 0 84))).set kd (hO 0 [.ref kc, .int (nI n2)])).set ks (hI 4 (va_cpy se2 se 0 0 4))) := by
  have c2 : (h.set kc (hI 84 (va_cpy f2 f 0 0 84)))[kd]? = some (hO 0 [.ref kc, .int (nI n)]) := sm_h_oi a2 a3
  have g1 : ((h.set kc (hI 84 (va_cpy f2 f 0 0 84))).set kd (hO 0 [.ref kc, .int (nI n2)]))[y2]? = some (hO 6 [.ref kd2, .ref ks2]) := sm_h_ne (sm_h_oi b1 a3) c2 e4
  have g2 : ((h.set kc (hI 84 (va_cpy f2 f 0 0 84))).set kd (hO 0 [.ref kc, .int (nI n2)]))[y]? = some (hO 6 [.ref kd, .ref ks]) := sm_h_ne (sm_h_oi a1 a3) c2 e3
  have g3 : ((h.set kc (hI 84 (va_cpy f2 f 0 0 84))).set kd (hO 0 [.ref kc, .int (nI n2)]))[ks2]? = some (hI 4 se2) := sm_h_io (sm_h_ne b4 a3 e1) c2
  have g4 : ((h.set kc (hI 84 (va_cpy f2 f 0 0 84))).set kd (hO 0 [.ref kc, .int (nI n2)]))[ks]? = some (hI 4 se) := sm_h_io (sm_h_ne a4 a3 e2) c2
  refine bs_of mtX6_become rfl (Nat.le_of_ble_eq_true rfl) (fun K R RV RS E => ?_)
  show K 0 [_, _] [] _
  refine rl_aload_n (pc := 0) R dX6_become_0 rfl ?_
  refine rl_getf (pc := 1) R dX6_become_1 fkX6_12 (by first | assumption | rfl) rfl ?_
  refine rl_aload_n (pc := 4) R dX6_become_4 rfl ?_
  refine rl_getf (pc := 5) R dX6_become_5 fkX6_12 (by first | assumption | rfl) rfl ?_
  refine rl_V1v (pc := 8) RV dX6_become_8 lkX6_30 a2 rfl (Nat.le_of_ble_eq_true rfl) (bs_X0_become a2 a3 b2 b3) ?_
  refine rl_aload_n (pc := 11) R dX6_become_11 rfl ?_
  refine rl_getf (pc := 12) R dX6_become_12 fkX6_18 g1 rfl ?_
  refine rl_iconst (pc := 15) R dX6_become_15 ic_0 ?_
  refine rl_aload_n (pc := 16) R dX6_become_16 rfl ?_
  refine rl_getf (pc := 17) R dX6_become_17 fkX6_18 g2 rfl ?_
  refine rl_iconst (pc := 20) R dX6_become_20 ic_0 ?_
  refine rl_aload_n (pc := 21) R dX6_become_21 rfl ?_
  refine rl_getf (pc := 22) R dX6_become_22 fkX6_18 g2 rfl ?_
  refine rl_alen (pc := 25) R dX6_become_25 g4 ?_
  refine rl_copy (pc := 26) R dX6_become_26 lmX6_34 (Nat.le_of_ble_eq_true rfl) g3 g4 (rfl : (0 : Int32) = nI 0) (rfl : (0 : Int32) = nI 0) rfl (by decide) (by decide) (by decide) ?_
  exact rl_return (pc := 29) E dX6_become_29 rfl rfl
theorem bs_X7_image {h1 : List sm_C} (x0 : h[0]? = some (x0O im)) (hB : BS (d + 2) false yX6_become [.ref 5, .ref 1] h none h1) (k1 : h[5]? = some (hO 6 [.ref 6, .ref 8])) (x1 : h1[0]? = some (x0O im)) : BS (d + 3) false yX7_image [.ref 0] h (some (.int 1)) (h1.set 0 (x0O 1)) := by
  refine bs_of mtX7_image rfl (Nat.le_of_ble_eq_true rfl) (fun K R RV RS E => ?_)
  show K 0 [_] [] _
  refine rl_aload_n (pc := 0) R dX7_image_0 rfl ?_
  refine rl_getf (pc := 1) R dX7_image_1 fkX7_16 (by first | assumption | rfl) rfl ?_
  refine rl_aload_n (pc := 4) R dX7_image_4 rfl ?_
  refine rl_getf (pc := 5) R dX7_image_5 fkX7_10 (by first | assumption | rfl) rfl ?_
  refine rl_V1v (pc := 8) RV dX7_image_8 lkX7_169 k1 rfl (Nat.le_of_ble_eq_true rfl) (hB) ?_
  refine rl_aload_n (pc := 11) R dX7_image_11 rfl ?_
  refine rl_iconst (pc := 12) R dX7_image_12 ic_1 ?_
  refine rl_putZ (pc := 13) R dX7_image_13 fpX7_19 (by first | assumption | rfl) (Nat.le_of_ble_eq_true rfl) (by decide) ?_
  refine rl_iconst (pc := 16) R dX7_image_16 ic_1 ?_
  exact rl_ireturn (pc := 17) E dX7_image_17 rfl rfl (rfl)
theorem bs_X7_restore0 (x0 : h[0]? = some (x0O 0)) : BS (d + 3) false yX7_restore [.ref 0] h (some (.int (-4))) h := by
  refine bs_of mtX7_restore rfl (Nat.le_of_ble_eq_true rfl) (fun K R RV RS E => ?_)
  show K 0 [_] [] _
  refine rl_aload_n (pc := 0) R dX7_restore_0 rfl ?_
  refine rl_getf (pc := 1) R dX7_restore_1 fkX7_19 (by first | assumption | rfl) rfl ?_
  refine rl_if_ne (pc := 4) (tgt := 10) R dX7_restore_4 rfl (fun c4 => absurd (rfl) c4) (fun c4 => ?_)
  refine rl_bipush (pc := 7) R dX7_restore_7 bc_m4 ?_
  exact rl_ireturn (pc := 9) E dX7_restore_9 rfl rfl (rfl)
theorem bs_X7_restore {h1 : List sm_C} (x0 : h[0]? = some (x0O 1)) (hB : BS (d + 2) false yX6_become [.ref 1, .ref 5] h none h1) (k1 : h[1]? = some (hO 6 [.ref 2, .ref 4])) : BS (d + 3) false yX7_restore [.ref 0] h (some (.int 1)) h1 := by
  refine bs_of mtX7_restore rfl (Nat.le_of_ble_eq_true rfl) (fun K R RV RS E => ?_)
  show K 0 [_] [] _
  refine rl_aload_n (pc := 0) R dX7_restore_0 rfl ?_
  refine rl_getf (pc := 1) R dX7_restore_1 fkX7_19 (by first | assumption | rfl) rfl ?_
  refine rl_if_ne (pc := 4) (tgt := 10) R dX7_restore_4 rfl (fun c4 => ?_) (fun c4 => absurd c4 (by decide))
  refine rl_aload_n (pc := 10) R dX7_restore_10 rfl ?_
  refine rl_getf (pc := 11) R dX7_restore_11 fkX7_10 (by first | assumption | rfl) rfl ?_
  refine rl_aload_n (pc := 14) R dX7_restore_14 rfl ?_
  refine rl_getf (pc := 15) R dX7_restore_15 fkX7_16 (by first | assumption | rfl) rfl ?_
  refine rl_V1v (pc := 18) RV dX7_restore_18 lkX7_169 k1 rfl (Nat.le_of_ble_eq_true rfl) (hB) ?_
  refine rl_iconst (pc := 21) R dX7_restore_21 ic_1 ?_
  exact rl_ireturn (pc := 22) E dX7_restore_22 rfl rfl (rfl)
theorem bs_X7_year {h1 : List sm_C} {r : Int32} {m2 x2 : Nat} {h2 : List sm_C} (x0 : h[0]? = some (x0O im)) (a9 : h[9]? = some (hO 4 [.ref 10, .int (nI m2), .int (nI x2)])) (hB : BS (d + 6) false yX4_readInto [.ref 9, .ref 11] h (some (.int r)) h1) (x1 : h1[0]? = some (x0O im)) (y1 : h1[1]? = some (hO 6 [.ref 2, .ref 4])) (d1 : h1[2]? = some (hO 0 [.ref 3, .int (nI n)])) {m3 x3 : Nat} (t1 : h1[9]? = some (hO 4 [.ref 10, .int (nI m3), .int (nI x3)])) (hC : BS (d + 6) false yX0_become [.ref 2, .ref 11] h1 none h2) (x2' : h2[0]? = some (x0O im)) (t2 : h2[9]? = some (hO 4 [.ref 10, .int (nI m3), .int (nI x3)])) : BS (d + 7) false yX7_year [.ref 0] h (some (.int r)) (if r < 0 then h1.set 9 (hO 4 [.ref 10, .int 0, .int (nI x3)]) else h2.set 9 (hO 4 [.ref 10, .int 0, .int (nI x3)])) := by
  refine bs_of mtX7_year rfl (Nat.le_of_ble_eq_true rfl) (fun K R RV RS E => ?_)
  show K 0 [_, _] [] _
  by_cases hr : r < 0
  · simp only [if_pos hr] at E
    refine rl_aload_n (pc := 0) R dX7_year_0 rfl ?_
    refine rl_getf (pc := 1) R dX7_year_1 fkX7_26 (by first | assumption | rfl) rfl ?_
    refine rl_aload_n (pc := 4) R dX7_year_4 rfl ?_
    refine rl_getf (pc := 5) R dX7_year_5 fkX7_33 (by first | assumption | rfl) rfl ?_
    refine rl_V1 (pc := 8) RV dX7_year_8 lkX7_101 a9 rfl (Nat.le_of_ble_eq_true rfl) (hB) ?_
    refine rl_istore_n (pc := 11) R dX7_year_11 (Nat.le_of_ble_eq_true rfl) rfl ?_
    show K _ [_, _] _ _
    refine rl_iload_n (pc := 12) R dX7_year_12 rfl ?_
    refine rl_if_lt (pc := 13) (tgt := 30) R dX7_year_13 rfl (fun c13 => ?_) (fun c13 => absurd (hr) c13)
    refine rl_aload_n (pc := 30) R dX7_year_30 rfl ?_
    refine rl_getf (pc := 31) R dX7_year_31 fkX7_26 (by first | assumption | rfl) rfl ?_
    refine rl_V0v (pc := 34) RV dX7_year_34 lkX7_109 t1 rfl (Nat.le_of_ble_eq_true rfl) (bs_X4_empty t1) ?_
    refine rl_iload_n (pc := 37) R dX7_year_37 rfl ?_
    exact rl_ireturn (pc := 38) E dX7_year_38 rfl rfl (rfl)
  · simp only [if_neg hr] at E
    refine rl_aload_n (pc := 0) R dX7_year_0 rfl ?_
    refine rl_getf (pc := 1) R dX7_year_1 fkX7_26 (by first | assumption | rfl) rfl ?_
    refine rl_aload_n (pc := 4) R dX7_year_4 rfl ?_
    refine rl_getf (pc := 5) R dX7_year_5 fkX7_33 (by first | assumption | rfl) rfl ?_
    refine rl_V1 (pc := 8) RV dX7_year_8 lkX7_101 a9 rfl (Nat.le_of_ble_eq_true rfl) (hB) ?_
    refine rl_istore_n (pc := 11) R dX7_year_11 (Nat.le_of_ble_eq_true rfl) rfl ?_
    show K _ [_, _] _ _
    refine rl_iload_n (pc := 12) R dX7_year_12 rfl ?_
    refine rl_if_lt (pc := 13) (tgt := 30) R dX7_year_13 rfl (fun c13 => absurd c13 (hr)) (fun c13 => ?_)
    refine rl_aload_n (pc := 16) R dX7_year_16 rfl ?_
    refine rl_getf (pc := 17) R dX7_year_17 fkX7_10 (by first | assumption | rfl) rfl ?_
    refine rl_getf (pc := 20) R dX7_year_20 fkX7_62 (by first | assumption | rfl) rfl ?_
    refine rl_aload_n (pc := 23) R dX7_year_23 rfl ?_
    refine rl_getf (pc := 24) R dX7_year_24 fkX7_33 (by first | assumption | rfl) rfl ?_
    refine rl_V1v (pc := 27) RV dX7_year_27 lkX7_105 d1 rfl (Nat.le_of_ble_eq_true rfl) (hC) ?_
    refine rl_aload_n (pc := 30) R dX7_year_30 rfl ?_
    refine rl_getf (pc := 31) R dX7_year_31 fkX7_26 (by first | assumption | rfl) rfl ?_
    refine rl_V0v (pc := 34) RV dX7_year_34 lkX7_109 t2 rfl (Nat.le_of_ble_eq_true rfl) (bs_X4_empty t2) ?_
    refine rl_iload_n (pc := 37) R dX7_year_37 rfl ?_
    exact rl_ireturn (pc := 38) E dX7_year_38 rfl rfl (rfl)
theorem bs_X7_sheet_bad {i l k : Int32} {j : Nat} (x0 : h[0]? = some (x0O im)) (h19 : h[19]? = some (hQ 4 (fun j => some (20 + 2 * j)))) (hok : (i < 0 ∨ 4 ≤ i) ∨ (i = nI j ∧ j < 4 ∧ (isW l 0 2 = false ∨ 28 < k))) : BS (d + 3) false yX7_sheet [.ref 0, .int i, .int l, .int k] h (some (.int (-1))) h := by
  refine bs_of mtX7_sheet rfl (Nat.le_of_ble_eq_true rfl) (fun K R RV RS E => ?_)
  show K 0 [_, _, _, _, _] [] _
  rcases hok with hok | ⟨rfl, hj, hok⟩
  · refine rl_aload_n (pc := 0) R dX7_sheet_0 rfl ?_
    refine rl_iload_n (pc := 1) R dX7_sheet_1 rfl ?_
    refine rl_V1 (pc := 2) RV dX7_sheet_2 lkX7_172 x0 rfl (Nat.le_of_ble_eq_true rfl) (bs_findSheet_out x0 h19 hok) ?_
    refine rl_astoreN (pc := 5) R dX7_sheet_5 (Nat.le_of_ble_eq_true rfl) rfl ?_
    refine rl_aloadN (pc := 7) R dX7_sheet_7 rfl ?_
    refine rl_ifnullN (pc := 9) (tgt := 25) R dX7_sheet_9 rfl ?_
    refine rl_iconst (pc := 25) R dX7_sheet_25 ic_m1 ?_
    exact rl_ireturn (pc := 26) E dX7_sheet_26 rfl rfl (rfl)
  · refine rl_aload_n (pc := 0) R dX7_sheet_0 rfl ?_
    refine rl_iload_n (pc := 1) R dX7_sheet_1 rfl ?_
    refine rl_V1 (pc := 2) RV dX7_sheet_2 lkX7_172 x0 rfl (Nat.le_of_ble_eq_true rfl) (bs_findSheet_in x0 h19 hj) ?_
    refine rl_astore (pc := 5) R dX7_sheet_5 (Nat.le_of_ble_eq_true rfl) rfl ?_
    show K _ [_, _, _, _, _] _ _
    refine rl_aload (pc := 7) R dX7_sheet_7 rfl ?_
    refine rl_ifnull (pc := 9) R dX7_sheet_9 ?_
    refine rl_iload_n (pc := 12) R dX7_sheet_12 rfl ?_
    refine rl_S1 (pc := 13) RS dX7_sheet_13 lkX7_176 (Nat.le_of_ble_eq_true rfl) (bs_X7_isLane) ?_
    refine rl_if_eq (pc := 16) (tgt := 25) R dX7_sheet_16 rfl (fun c16 => ?_) (fun c16 => ?_)
    · rw [bI_0] at c16
      refine rl_iconst (pc := 25) R dX7_sheet_25 ic_m1 ?_
      exact rl_ireturn (pc := 26) E dX7_sheet_26 rfl rfl (rfl)
    · rw [bI_n0] at c16
      refine rl_iload_n (pc := 19) R dX7_sheet_19 rfl ?_
      refine rl_bipush (pc := 20) R dX7_sheet_20 bc_28 ?_
      refine rl_icmp_le (pc := 22) (tgt := 27) R dX7_sheet_22 rfl (fun c22 => absurd c22 (fun z => hok.elim (fun q => by rw [q] at c16; cases c16) (fun q => absurd z (Int32.not_le.mpr q)))) (fun c22 => ?_)
      refine rl_iconst (pc := 25) R dX7_sheet_25 ic_m1 ?_
      exact rl_ireturn (pc := 26) E dX7_sheet_26 rfl rfl (rfl)
theorem bs_X7_sheet_neg {l k : Int32} {j : Nat} (x0 : h[0]? = some (x0O im)) (h19 : h[19]? = some (hQ 4 (fun j => some (20 + 2 * j)))) (hj : j < 4) (hl : isW l 0 2 = true) (hk : k < 0) : BS (d + 3) false yX7_sheet [.ref 0, .int (nI j), .int l, .int k] h (some (.int (-14))) h := by
  refine bs_of mtX7_sheet rfl (Nat.le_of_ble_eq_true rfl) (fun K R RV RS E => ?_)
  show K 0 [_, _, _, _, _] [] _
  refine rl_aload_n (pc := 0) R dX7_sheet_0 rfl ?_
  refine rl_iload_n (pc := 1) R dX7_sheet_1 rfl ?_
  refine rl_V1 (pc := 2) RV dX7_sheet_2 lkX7_172 x0 rfl (Nat.le_of_ble_eq_true rfl) (bs_findSheet_in x0 h19 hj) ?_
  refine rl_astore (pc := 5) R dX7_sheet_5 (Nat.le_of_ble_eq_true rfl) rfl ?_
  show K _ [_, _, _, _, _] _ _
  refine rl_aload (pc := 7) R dX7_sheet_7 rfl ?_
  refine rl_ifnull (pc := 9) R dX7_sheet_9 ?_
  refine rl_iload_n (pc := 12) R dX7_sheet_12 rfl ?_
  refine rl_S1 (pc := 13) RS dX7_sheet_13 lkX7_176 (Nat.le_of_ble_eq_true rfl) (bs_X7_isLane) ?_
  refine rl_if_eq (pc := 16) (tgt := 25) R dX7_sheet_16 rfl (fun c16 => absurd c16 (by rw [hl]; decide)) (fun c16 => ?_)
  refine rl_iload_n (pc := 19) R dX7_sheet_19 rfl ?_
  refine rl_bipush (pc := 20) R dX7_sheet_20 bc_28 ?_
  refine rl_icmp_le (pc := 22) (tgt := 27) R dX7_sheet_22 rfl (fun c22 => ?_) (fun c22 => absurd (Int32.le_of_lt (Int32.lt_of_lt_of_le hk (by decide))) c22)
  refine rl_iload_n (pc := 27) R dX7_sheet_27 rfl ?_
  refine rl_if_ge (pc := 28) (tgt := 36) R dX7_sheet_28 rfl (fun c28 => absurd c28 (Int32.not_le.mpr hk)) (fun c28 => ?_)
  refine rl_bipush (pc := 31) R dX7_sheet_31 bc_m14 ?_
  refine rl_goto (pc := 33) (tgt := 43) R dX7_sheet_33 rfl ?_
  exact rl_ireturn (pc := 43) E dX7_sheet_43 rfl rfl (rfl)
theorem bs_X7_sheet {l k lane mm : Int32} {j : Nat} {f : Nat → Int32} (x0 : h[0]? = some (x0O im)) (h19 : h[19]? = some (hQ 4 (fun j => some (20 + 2 * j)))) (hj : j < 4) (s1 : h[20 + 2 * j]? = some (hO 2 [.ref (21 + 2 * j), .int lane, .int mm])) (s2 : h[21 + 2 * j]? = some (hI 28 f)) (hl : isW l 0 2 = true) (hk : 0 ≤ k) (hk2 : k ≤ 28) : BS (d + 3) false yX7_sheet [.ref 0, .int (nI j), .int l, .int k] h (some (.int k)) ((h.set (21 + 2 * j) (hI 28 (zr 28 0 f))).set (20 + 2 * j) (hO 2 [.ref (21 + 2 * j), .int l, .int k])) := by
  refine bs_of mtX7_sheet rfl (Nat.le_of_ble_eq_true rfl) (fun K R RV RS E => ?_)
  show K 0 [_, _, _, _, _] [] _
  refine rl_aload_n (pc := 0) R dX7_sheet_0 rfl ?_
  refine rl_iload_n (pc := 1) R dX7_sheet_1 rfl ?_
  refine rl_V1 (pc := 2) RV dX7_sheet_2 lkX7_172 x0 rfl (Nat.le_of_ble_eq_true rfl) (bs_findSheet_in x0 h19 hj) ?_
  refine rl_astore (pc := 5) R dX7_sheet_5 (Nat.le_of_ble_eq_true rfl) rfl ?_
  show K _ [_, _, _, _, _] _ _
  refine rl_aload (pc := 7) R dX7_sheet_7 rfl ?_
  refine rl_ifnull (pc := 9) R dX7_sheet_9 ?_
  refine rl_iload_n (pc := 12) R dX7_sheet_12 rfl ?_
  refine rl_S1 (pc := 13) RS dX7_sheet_13 lkX7_176 (Nat.le_of_ble_eq_true rfl) (bs_X7_isLane) ?_
  refine rl_if_eq (pc := 16) (tgt := 25) R dX7_sheet_16 rfl (fun c16 => absurd c16 (by rw [hl]; decide)) (fun c16 => ?_)
  refine rl_iload_n (pc := 19) R dX7_sheet_19 rfl ?_
  refine rl_bipush (pc := 20) R dX7_sheet_20 bc_28 ?_
  refine rl_icmp_le (pc := 22) (tgt := 27) R dX7_sheet_22 rfl (fun c22 => ?_) (fun c22 => absurd (hk2) c22)
  refine rl_iload_n (pc := 27) R dX7_sheet_27 rfl ?_
  refine rl_if_ge (pc := 28) (tgt := 36) R dX7_sheet_28 rfl (fun c28 => ?_) (fun c28 => absurd (hk) c28)
  refine rl_aload (pc := 36) R dX7_sheet_36 rfl ?_
  refine rl_iload_n (pc := 38) R dX7_sheet_38 rfl ?_
  refine rl_iload_n (pc := 39) R dX7_sheet_39 rfl ?_
  refine rl_V2 (pc := 40) RV dX7_sheet_40 lkX7_190 s1 rfl (Nat.le_of_ble_eq_true rfl) (bs_X2_hold s1 s2) ?_
  exact rl_ireturn (pc := 43) E dX7_sheet_43 rfl rfl (rfl)
theorem bs_X7_drop_bad {i : Int32} (x0 : h[0]? = some (x0O im)) (h19 : h[19]? = some (hQ 4 (fun j => some (20 + 2 * j)))) (hok : i < 0 ∨ 4 ≤ i) : BS (d + 3) false yX7_drop [.ref 0, .int i] h (some (.int (-1))) h := by
  refine bs_of mtX7_drop rfl (Nat.le_of_ble_eq_true rfl) (fun K R RV RS E => ?_)
  show K 0 [_, _, _] [] _
  refine rl_aload_n (pc := 0) R dX7_drop_0 rfl ?_
  refine rl_iload_n (pc := 1) R dX7_drop_1 rfl ?_
  refine rl_V1 (pc := 2) RV dX7_drop_2 lkX7_172 x0 rfl (Nat.le_of_ble_eq_true rfl) (bs_findSheet_out x0 h19 hok) ?_
  refine rl_astore_nN (pc := 5) R dX7_drop_5 (Nat.le_of_ble_eq_true rfl) rfl ?_
  refine rl_aload_nN (pc := 6) R dX7_drop_6 rfl ?_
  refine rl_ifnonnullN (pc := 7) R dX7_drop_7 ?_
  refine rl_iconst (pc := 10) R dX7_drop_10 ic_m1 ?_
  exact rl_ireturn (pc := 11) E dX7_drop_11 rfl rfl (rfl)
theorem bs_X7_drop {j : Nat} {lane mm : Int32} (x0 : h[0]? = some (x0O im)) (h19 : h[19]? = some (hQ 4 (fun j => some (20 + 2 * j)))) (hj : j < 4) (s1 : h[20 + 2 * j]? = some (hO 2 [.ref (21 + 2 * j), .int lane, .int mm])) : BS (d + 3) false yX7_drop [.ref 0, .int (nI j)] h (some (.int (if lane = -1 then -11 else mm))) (if lane = -1 then h else h.set (20 + 2 * j) (hO 2 [.ref (21 + 2 * j), .int (-1), .int 0])) := by
  refine bs_of mtX7_drop rfl (Nat.le_of_ble_eq_true rfl) (fun K R RV RS E => ?_)
  show K 0 [_, _, _] [] _
  by_cases hz : lane = -1
  · simp only [if_pos hz] at E
    refine rl_aload_n (pc := 0) R dX7_drop_0 rfl ?_
    refine rl_iload_n (pc := 1) R dX7_drop_1 rfl ?_
    refine rl_V1 (pc := 2) RV dX7_drop_2 lkX7_172 x0 rfl (Nat.le_of_ble_eq_true rfl) (bs_findSheet_in x0 h19 hj) ?_
    refine rl_astore_n (pc := 5) R dX7_drop_5 (Nat.le_of_ble_eq_true rfl) rfl ?_
    show K _ [_, _, _] _ _
    refine rl_aload_n (pc := 6) R dX7_drop_6 rfl ?_
    refine rl_ifnonnull (pc := 7) (tgt := 12) R dX7_drop_7 rfl ?_
    refine rl_aload_n (pc := 12) R dX7_drop_12 rfl ?_
    refine rl_V0 (pc := 13) RV dX7_drop_13 lkX7_193 s1 rfl (Nat.le_of_ble_eq_true rfl) (bs_X2_isNothing s1) ?_
    refine rl_if_eq (pc := 16) (tgt := 24) R dX7_drop_16 rfl (fun c16 => absurd c16 (by rw [decide_eq_true hz]; decide)) (fun c16 => ?_)
    refine rl_bipush (pc := 19) R dX7_drop_19 bc_m11 ?_
    refine rl_goto (pc := 21) (tgt := 28) R dX7_drop_21 rfl ?_
    exact rl_ireturn (pc := 28) E dX7_drop_28 rfl rfl (rfl)
  · simp only [if_neg hz] at E
    refine rl_aload_n (pc := 0) R dX7_drop_0 rfl ?_
    refine rl_iload_n (pc := 1) R dX7_drop_1 rfl ?_
    refine rl_V1 (pc := 2) RV dX7_drop_2 lkX7_172 x0 rfl (Nat.le_of_ble_eq_true rfl) (bs_findSheet_in x0 h19 hj) ?_
    refine rl_astore_n (pc := 5) R dX7_drop_5 (Nat.le_of_ble_eq_true rfl) rfl ?_
    show K _ [_, _, _] _ _
    refine rl_aload_n (pc := 6) R dX7_drop_6 rfl ?_
    refine rl_ifnonnull (pc := 7) (tgt := 12) R dX7_drop_7 rfl ?_
    refine rl_aload_n (pc := 12) R dX7_drop_12 rfl ?_
    refine rl_V0 (pc := 13) RV dX7_drop_13 lkX7_193 s1 rfl (Nat.le_of_ble_eq_true rfl) (bs_X2_isNothing s1) ?_
    refine rl_if_eq (pc := 16) (tgt := 24) R dX7_drop_16 rfl (fun c16 => ?_) (fun c16 => absurd (by rw [decide_eq_false hz]; decide) c16)
    refine rl_aload_n (pc := 24) R dX7_drop_24 rfl ?_
    refine rl_V0 (pc := 25) RV dX7_drop_25 lkX7_197 s1 rfl (Nat.le_of_ble_eq_true rfl) (bs_X2_holdNothing s1) ?_
    exact rl_ireturn (pc := 28) E dX7_drop_28 rfl rfl (rfl)
theorem bs_X7_item_bad {i l k v : Int32} {j : Nat} (x0 : h[0]? = some (x0O im)) (h19 : h[19]? = some (hQ 4 (fun j => some (20 + 2 * j)))) (hok : (i < 0 ∨ 4 ≤ i) ∨ (i = nI j ∧ j < 4 ∧ isW l 0 2 = false)) : BS (d + 3) false yX7_item [.ref 0, .int i, .int l, .int k, .int v] h (some (.int (-1))) h := by
  refine bs_of mtX7_item rfl (Nat.le_of_ble_eq_true rfl) (fun K R RV RS E => ?_)
  show K 0 [_, _, _, _, _, _, _] [] _
  rcases hok with hok | ⟨rfl, hj, hok⟩
  · refine rl_aload_n (pc := 0) R dX7_item_0 rfl ?_
    refine rl_iload_n (pc := 1) R dX7_item_1 rfl ?_
    refine rl_V1 (pc := 2) RV dX7_item_2 lkX7_172 x0 rfl (Nat.le_of_ble_eq_true rfl) (bs_findSheet_out x0 h19 hok) ?_
    refine rl_astoreN (pc := 5) R dX7_item_5 (Nat.le_of_ble_eq_true rfl) rfl ?_
    refine rl_aloadN (pc := 7) R dX7_item_7 rfl ?_
    refine rl_ifnullN (pc := 9) (tgt := 19) R dX7_item_9 rfl ?_
    refine rl_iconst (pc := 19) R dX7_item_19 ic_m1 ?_
    exact rl_ireturn (pc := 20) E dX7_item_20 rfl rfl (rfl)
  · refine rl_aload_n (pc := 0) R dX7_item_0 rfl ?_
    refine rl_iload_n (pc := 1) R dX7_item_1 rfl ?_
    refine rl_V1 (pc := 2) RV dX7_item_2 lkX7_172 x0 rfl (Nat.le_of_ble_eq_true rfl) (bs_findSheet_in x0 h19 hj) ?_
    refine rl_astore (pc := 5) R dX7_item_5 (Nat.le_of_ble_eq_true rfl) rfl ?_
    show K _ [_, _, _, _, _, _, _] _ _
    refine rl_aload (pc := 7) R dX7_item_7 rfl ?_
    refine rl_ifnull (pc := 9) R dX7_item_9 ?_
    refine rl_iload_n (pc := 12) R dX7_item_12 rfl ?_
    refine rl_S1 (pc := 13) RS dX7_item_13 lkX7_176 (Nat.le_of_ble_eq_true rfl) (bs_X7_isLane) ?_
    refine rl_if_ne (pc := 16) (tgt := 21) R dX7_item_16 rfl (fun c16 => absurd (by rw [hok]; decide) c16) (fun c16 => ?_)
    refine rl_iconst (pc := 19) R dX7_item_19 ic_m1 ?_
    exact rl_ireturn (pc := 20) E dX7_item_20 rfl rfl (rfl)
theorem bs_X7_item_ref {l k v lane mm : Int32} {j : Nat} (x0 : h[0]? = some (x0O im)) (h19 : h[19]? = some (hQ 4 (fun j => some (20 + 2 * j)))) (hj : j < 4) (s1 : h[20 + 2 * j]? = some (hO 2 [.ref (21 + 2 * j), .int lane, .int mm])) (hl : isW l 0 2 = true) (hr : ¬ shR lane mm l k 1 = 0) : BS (d + 3) false yX7_item [.ref 0, .int (nI j), .int l, .int k, .int v] h (some (.int (shR lane mm l k 1))) h := by
  refine bs_of mtX7_item rfl (Nat.le_of_ble_eq_true rfl) (fun K R RV RS E => ?_)
  show K 0 [_, _, _, _, _, _, _] [] _
  refine rl_aload_n (pc := 0) R dX7_item_0 rfl ?_
  refine rl_iload_n (pc := 1) R dX7_item_1 rfl ?_
  refine rl_V1 (pc := 2) RV dX7_item_2 lkX7_172 x0 rfl (Nat.le_of_ble_eq_true rfl) (bs_findSheet_in x0 h19 hj) ?_
  refine rl_astore (pc := 5) R dX7_item_5 (Nat.le_of_ble_eq_true rfl) rfl ?_
  show K _ [_, _, _, _, _, _, _] _ _
  refine rl_aload (pc := 7) R dX7_item_7 rfl ?_
  refine rl_ifnull (pc := 9) R dX7_item_9 ?_
  refine rl_iload_n (pc := 12) R dX7_item_12 rfl ?_
  refine rl_S1 (pc := 13) RS dX7_item_13 lkX7_176 (Nat.le_of_ble_eq_true rfl) (bs_X7_isLane) ?_
  refine rl_if_ne (pc := 16) (tgt := 21) R dX7_item_16 rfl (fun c16 => ?_) (fun c16 => absurd c16 (by rw [hl]; decide))
  refine rl_aload (pc := 21) R dX7_item_21 rfl ?_
  refine rl_iload_n (pc := 23) R dX7_item_23 rfl ?_
  refine rl_iload_n (pc := 24) R dX7_item_24 rfl ?_
  refine rl_iconst (pc := 25) R dX7_item_25 ic_1 ?_
  refine rl_V3 (pc := 26) RV dX7_item_26 lkX7_179 s1 rfl (Nat.le_of_ble_eq_true rfl) (bs_X2_refusalOf s1) ?_
  refine rl_istore (pc := 29) R dX7_item_29 (Nat.le_of_ble_eq_true rfl) rfl ?_
  show K _ [_, _, _, _, _, _, _] _ _
  refine rl_iload (pc := 31) R dX7_item_31 rfl ?_
  refine rl_if_eq (pc := 33) (tgt := 39) R dX7_item_33 rfl (fun c33 => absurd c33 (hr)) (fun c33 => ?_)
  refine rl_iload (pc := 36) R dX7_item_36 rfl ?_
  exact rl_ireturn (pc := 38) E dX7_item_38 rfl rfl (rfl)
theorem bs_X7_item {l v lane mm : Int32} {j k : Nat} {f : Nat → Int32} (x0 : h[0]? = some (x0O im)) (h19 : h[19]? = some (hQ 4 (fun j => some (20 + 2 * j)))) (hj : j < 4) (s1 : h[20 + 2 * j]? = some (hO 2 [.ref (21 + 2 * j), .int lane, .int mm])) (s2 : h[21 + 2 * j]? = some (hI 28 f)) (hl : isW l 0 2 = true) (hr : shR lane mm l (nI k) 1 = 0) (hk : k < 28) : BS (d + 4) false yX7_item [.ref 0, .int (nI j), .int l, .int (nI k), .int v] h (some (.int 1)) (h.set (21 + 2 * j) (hI 28 (upd f k (nrw lane v)))) := by
  refine bs_of mtX7_item rfl (Nat.le_of_ble_eq_true rfl) (fun K R RV RS E => ?_)
  show K 0 [_, _, _, _, _, _, _] [] _
  refine rl_aload_n (pc := 0) R dX7_item_0 rfl ?_
  refine rl_iload_n (pc := 1) R dX7_item_1 rfl ?_
  refine rl_V1 (pc := 2) RV dX7_item_2 lkX7_172 x0 rfl (Nat.le_of_ble_eq_true rfl) (bs_findSheet_in x0 h19 hj) ?_
  refine rl_astore (pc := 5) R dX7_item_5 (Nat.le_of_ble_eq_true rfl) rfl ?_
  show K _ [_, _, _, _, _, _, _] _ _
  refine rl_aload (pc := 7) R dX7_item_7 rfl ?_
  refine rl_ifnull (pc := 9) R dX7_item_9 ?_
  refine rl_iload_n (pc := 12) R dX7_item_12 rfl ?_
  refine rl_S1 (pc := 13) RS dX7_item_13 lkX7_176 (Nat.le_of_ble_eq_true rfl) (bs_X7_isLane) ?_
  refine rl_if_ne (pc := 16) (tgt := 21) R dX7_item_16 rfl (fun c16 => ?_) (fun c16 => absurd c16 (by rw [hl]; decide))
  refine rl_aload (pc := 21) R dX7_item_21 rfl ?_
  refine rl_iload_n (pc := 23) R dX7_item_23 rfl ?_
  refine rl_iload_n (pc := 24) R dX7_item_24 rfl ?_
  refine rl_iconst (pc := 25) R dX7_item_25 ic_1 ?_
  refine rl_V3 (pc := 26) RV dX7_item_26 lkX7_179 s1 rfl (Nat.le_of_ble_eq_true rfl) (bs_X2_refusalOf s1) ?_
  refine rl_istore (pc := 29) R dX7_item_29 (Nat.le_of_ble_eq_true rfl) rfl ?_
  show K _ [_, _, _, _, _, _, _] _ _
  refine rl_iload (pc := 31) R dX7_item_31 rfl ?_
  refine rl_if_eq (pc := 33) (tgt := 39) R dX7_item_33 rfl (fun c33 => ?_) (fun c33 => absurd (hr) c33)
  refine rl_aload (pc := 39) R dX7_item_39 rfl ?_
  refine rl_iload_n (pc := 41) R dX7_item_41 rfl ?_
  refine rl_iload (pc := 42) R dX7_item_42 rfl ?_
  refine rl_V2v (pc := 44) RV dX7_item_44 lkX7_187 s1 rfl (Nat.le_of_ble_eq_true rfl) (bs_X2_change s1 s2 hk) ?_
  refine rl_iconst (pc := 47) R dX7_item_47 ic_1 ?_
  exact rl_ireturn (pc := 48) E dX7_item_48 rfl rfl (rfl)
def cpR (lane1 m1 lane2 m2 i j n : Int32) : Int32 := if lane1 = -1 ∨ lane2 = -1 then -11 else if lane1 = lane2 then (if cov m1 i n && cov m2 j n then 0 else -13) else -12
theorem bs_X7_copy_bad {a i b j n : Int32} {q : Nat} (x0 : h[0]? = some (x0O im)) (h19 : h[19]? = some (hQ 4 (fun j => some (20 + 2 * j)))) (hok : (a < 0 ∨ 4 ≤ a) ∨ (a = nI q ∧ q < 4 ∧ (b < 0 ∨ 4 ≤ b))) (hb2 : (b < 0 ∨ 4 ≤ b) ∨ ∃ r, r < 4 ∧ b = nI r) : BS (d + 3) false yX7_copy [.ref 0, .int a, .int i, .int b, .int j, .int n] h (some (.int (-1))) h := by
  refine bs_of mtX7_copy rfl (Nat.le_of_ble_eq_true rfl) (fun K R RV RS E => ?_)
  show K 0 [_, _, _, _, _, _, _, _] [] _
  rcases hok with hok | ⟨rfl, hj, hok⟩
  · rcases hb2 with hb2 | ⟨r, hr, rfl⟩
    · refine rl_aload_n (pc := 0) R dX7_copy_0 rfl ?_
      refine rl_iload_n (pc := 1) R dX7_copy_1 rfl ?_
      refine rl_V1 (pc := 2) RV dX7_copy_2 lkX7_172 x0 rfl (Nat.le_of_ble_eq_true rfl) (bs_findSheet_out x0 h19 hok) ?_
      refine rl_astoreN (pc := 5) R dX7_copy_5 (Nat.le_of_ble_eq_true rfl) rfl ?_
      refine rl_aload_n (pc := 7) R dX7_copy_7 rfl ?_
      refine rl_iload_n (pc := 8) R dX7_copy_8 rfl ?_
      refine rl_V1 (pc := 9) RV dX7_copy_9 lkX7_172 x0 rfl (Nat.le_of_ble_eq_true rfl) (bs_findSheet_out x0 h19 hb2) ?_
      refine rl_astoreN (pc := 12) R dX7_copy_12 (Nat.le_of_ble_eq_true rfl) rfl ?_
      refine rl_aloadN (pc := 14) R dX7_copy_14 rfl ?_
      refine rl_ifnullN (pc := 16) (tgt := 24) R dX7_copy_16 rfl ?_
      refine rl_iconst (pc := 24) R dX7_copy_24 ic_m1 ?_
      exact rl_ireturn (pc := 25) E dX7_copy_25 rfl rfl (rfl)
    · refine rl_aload_n (pc := 0) R dX7_copy_0 rfl ?_
      refine rl_iload_n (pc := 1) R dX7_copy_1 rfl ?_
      refine rl_V1 (pc := 2) RV dX7_copy_2 lkX7_172 x0 rfl (Nat.le_of_ble_eq_true rfl) (bs_findSheet_out x0 h19 hok) ?_
      refine rl_astoreN (pc := 5) R dX7_copy_5 (Nat.le_of_ble_eq_true rfl) rfl ?_
      refine rl_aload_n (pc := 7) R dX7_copy_7 rfl ?_
      refine rl_iload_n (pc := 8) R dX7_copy_8 rfl ?_
      refine rl_V1 (pc := 9) RV dX7_copy_9 lkX7_172 x0 rfl (Nat.le_of_ble_eq_true rfl) (bs_findSheet_in x0 h19 hr) ?_
      refine rl_astore (pc := 12) R dX7_copy_12 (Nat.le_of_ble_eq_true rfl) rfl ?_
      show K _ [_, _, _, _, _, _, _, _] _ _
      refine rl_aloadN (pc := 14) R dX7_copy_14 rfl ?_
      refine rl_ifnullN (pc := 16) (tgt := 24) R dX7_copy_16 rfl ?_
      refine rl_iconst (pc := 24) R dX7_copy_24 ic_m1 ?_
      exact rl_ireturn (pc := 25) E dX7_copy_25 rfl rfl (rfl)
  · refine rl_aload_n (pc := 0) R dX7_copy_0 rfl ?_
    refine rl_iload_n (pc := 1) R dX7_copy_1 rfl ?_
    refine rl_V1 (pc := 2) RV dX7_copy_2 lkX7_172 x0 rfl (Nat.le_of_ble_eq_true rfl) (bs_findSheet_in x0 h19 hj) ?_
    refine rl_astore (pc := 5) R dX7_copy_5 (Nat.le_of_ble_eq_true rfl) rfl ?_
    show K _ [_, _, _, _, _, _, _, _] _ _
    refine rl_aload_n (pc := 7) R dX7_copy_7 rfl ?_
    refine rl_iload_n (pc := 8) R dX7_copy_8 rfl ?_
    refine rl_V1 (pc := 9) RV dX7_copy_9 lkX7_172 x0 rfl (Nat.le_of_ble_eq_true rfl) (bs_findSheet_out x0 h19 hok) ?_
    refine rl_astoreN (pc := 12) R dX7_copy_12 (Nat.le_of_ble_eq_true rfl) rfl ?_
    refine rl_aload (pc := 14) R dX7_copy_14 rfl ?_
    refine rl_ifnull (pc := 16) R dX7_copy_16 ?_
    refine rl_aloadN (pc := 19) R dX7_copy_19 rfl ?_
    refine rl_ifnonnullN (pc := 21) R dX7_copy_21 ?_
    refine rl_iconst (pc := 24) R dX7_copy_24 ic_m1 ?_
    exact rl_ireturn (pc := 25) E dX7_copy_25 rfl rfl (rfl)
theorem bs_X7_copy_ref {i j n lane1 m1 lane2 m2 : Int32} {q r : Nat} (x0 : h[0]? = some (x0O im)) (h19 : h[19]? = some (hQ 4 (fun j => some (20 + 2 * j)))) (hq : q < 4) (hr : r < 4) (s1 : h[20 + 2 * q]? = some (hO 2 [.ref (21 + 2 * q), .int lane1, .int m1])) (t1 : h[20 + 2 * r]? = some (hO 2 [.ref (21 + 2 * r), .int lane2, .int m2])) (hz : ¬ cpR lane1 m1 lane2 m2 i j n = 0) : BS (d + 3) false yX7_copy [.ref 0, .int (nI q), .int i, .int (nI r), .int j, .int n] h (some (.int (cpR lane1 m1 lane2 m2 i j n))) h := by
  refine bs_of mtX7_copy rfl (Nat.le_of_ble_eq_true rfl) (fun K R RV RS E => ?_)
  show K 0 [_, _, _, _, _, _, _, _] [] _
  refine rl_aload_n (pc := 0) R dX7_copy_0 rfl ?_
  refine rl_iload_n (pc := 1) R dX7_copy_1 rfl ?_
  refine rl_V1 (pc := 2) RV dX7_copy_2 lkX7_172 x0 rfl (Nat.le_of_ble_eq_true rfl) (bs_findSheet_in x0 h19 hq) ?_
  refine rl_astore (pc := 5) R dX7_copy_5 (Nat.le_of_ble_eq_true rfl) rfl ?_
  show K _ [_, _, _, _, _, _, _, _] _ _
  refine rl_aload_n (pc := 7) R dX7_copy_7 rfl ?_
  refine rl_iload_n (pc := 8) R dX7_copy_8 rfl ?_
  refine rl_V1 (pc := 9) RV dX7_copy_9 lkX7_172 x0 rfl (Nat.le_of_ble_eq_true rfl) (bs_findSheet_in x0 h19 hr) ?_
  refine rl_astore (pc := 12) R dX7_copy_12 (Nat.le_of_ble_eq_true rfl) rfl ?_
  show K _ [_, _, _, _, _, _, _, _] _ _
  refine rl_aload (pc := 14) R dX7_copy_14 rfl ?_
  refine rl_ifnull (pc := 16) R dX7_copy_16 ?_
  refine rl_aload (pc := 19) R dX7_copy_19 rfl ?_
  refine rl_ifnonnull (pc := 21) (tgt := 26) R dX7_copy_21 rfl ?_
  refine rl_aload (pc := 26) R dX7_copy_26 rfl ?_
  refine rl_V0 (pc := 28) RV dX7_copy_28 lkX7_193 s1 rfl (Nat.le_of_ble_eq_true rfl) (bs_X2_isNothing s1) ?_
  refine rl_if_ne (pc := 31) (tgt := 42) R dX7_copy_31 rfl (fun c31 => ?_) (fun c31 => ?_)
  · rw [bI_n0, decide_eq_true_eq] at c31
    refine rl_bipush (pc := 42) R dX7_copy_42 bc_m11 ?_
    exact rl_ireturn (pc := 44) E dX7_copy_44 rfl rfl (e_si (by rw [cpR]; first | rw [if_pos (Or.inl c31)] | rw [if_pos (Or.inr c39)]))
  · rw [bI_0, decide_eq_false_iff_not] at c31
    refine rl_aload (pc := 34) R dX7_copy_34 rfl ?_
    refine rl_V0 (pc := 36) RV dX7_copy_36 lkX7_193 t1 rfl (Nat.le_of_ble_eq_true rfl) (bs_X2_isNothing t1) ?_
    refine rl_if_eq (pc := 39) (tgt := 45) R dX7_copy_39 rfl (fun c39 => ?_) (fun c39 => ?_)
    · rw [bI_0, decide_eq_false_iff_not] at c39
      refine rl_aload (pc := 45) R dX7_copy_45 rfl ?_
      refine rl_getf (pc := 47) R dX7_copy_47 fkX7_200 s1 rfl ?_
      refine rl_aload (pc := 50) R dX7_copy_50 rfl ?_
      refine rl_getf (pc := 52) R dX7_copy_52 fkX7_200 t1 rfl ?_
      refine rl_icmp_eq (pc := 55) (tgt := 61) R dX7_copy_55 rfl (fun c55 => ?_) (fun c55 => ?_)
      · refine rl_aload (pc := 61) R dX7_copy_61 rfl ?_
        refine rl_iload_n (pc := 63) R dX7_copy_63 rfl ?_
        refine rl_iload (pc := 64) R dX7_copy_64 rfl ?_
        refine rl_V2 (pc := 66) RV dX7_copy_66 lkX7_203 s1 rfl (Nat.le_of_ble_eq_true rfl) (bs_X2_covers s1) ?_
        refine rl_if_eq (pc := 69) (tgt := 84) R dX7_copy_69 rfl (fun c69 => ?_) (fun c69 => ?_)
        · rw [bI_0] at c69
          refine rl_bipush (pc := 84) R dX7_copy_84 bc_m13 ?_
          exact rl_ireturn (pc := 86) E dX7_copy_86 rfl rfl (e_si (by rw [cpR, if_neg (fun z => z.elim c31 c39), if_pos c55]; first | (rw [c69]; rfl) | (rw [c69, c81]; rfl)))
        · rw [bI_n0] at c69
          refine rl_aload (pc := 72) R dX7_copy_72 rfl ?_
          refine rl_iload (pc := 74) R dX7_copy_74 rfl ?_
          refine rl_iload (pc := 76) R dX7_copy_76 rfl ?_
          refine rl_V2 (pc := 78) RV dX7_copy_78 lkX7_203 t1 rfl (Nat.le_of_ble_eq_true rfl) (bs_X2_covers t1) ?_
          refine rl_if_ne (pc := 81) (tgt := 87) R dX7_copy_81 rfl (fun c81 => ?_) (fun c81 => ?_)
          · rw [bI_n0] at c81; exact absurd (by rw [cpR, if_neg (fun z => z.elim c31 c39), if_pos c55, c69, c81]; rfl) hz
          · rw [bI_0] at c81
            refine rl_bipush (pc := 84) R dX7_copy_84 bc_m13 ?_
            exact rl_ireturn (pc := 86) E dX7_copy_86 rfl rfl (e_si (by rw [cpR, if_neg (fun z => z.elim c31 c39), if_pos c55]; first | (rw [c69]; rfl) | (rw [c69, c81]; rfl)))
      · refine rl_bipush (pc := 58) R dX7_copy_58 bc_m12 ?_
        exact rl_ireturn (pc := 60) E dX7_copy_60 rfl rfl (e_si (by rw [cpR, if_neg (fun z => z.elim c31 c39), if_neg c55]))
    · rw [bI_n0, decide_eq_true_eq] at c39
      refine rl_bipush (pc := 42) R dX7_copy_42 bc_m11 ?_
      exact rl_ireturn (pc := 44) E dX7_copy_44 rfl rfl (e_si (by rw [cpR]; first | rw [if_pos (Or.inl c31)] | rw [if_pos (Or.inr c39)]))
theorem bs_X7_copy {i j n : Nat} {lane1 m1 lane2 m2 : Int32} {q r : Nat} {f g : Nat → Int32} (x0 : h[0]? = some (x0O im)) (h19 : h[19]? = some (hQ 4 (fun j => some (20 + 2 * j)))) (hq : q < 4) (hr : r < 4) (s1 : h[20 + 2 * q]? = some (hO 2 [.ref (21 + 2 * q), .int lane1, .int m1])) (s2 : h[21 + 2 * q]? = some (hI 28 f)) (t1 : h[20 + 2 * r]? = some (hO 2 [.ref (21 + 2 * r), .int lane2, .int m2])) (t2 : h[21 + 2 * r]? = some (hI 28 g)) (c1 : ¬ lane1 = -1) (c2 : ¬ lane2 = -1) (c3 : lane1 = lane2) (c4 : cov m1 (nI i) (nI n) = true) (c5 : cov m2 (nI j) (nI n) = true) (c6 : i + n ≤ 28) (c7 : j + n ≤ 28) : BS (d + 3) false yX7_copy [.ref 0, .int (nI q), .int (nI i), .int (nI r), .int (nI j), .int (nI n)] h (some (.int (nI n))) (h.set (21 + 2 * r) (hI 28 (va_cpy f g i j n))) := by
  refine bs_of mtX7_copy rfl (Nat.le_of_ble_eq_true rfl) (fun K R RV RS E => ?_)
  show K 0 [_, _, _, _, _, _, _, _] [] _
  refine rl_aload_n (pc := 0) R dX7_copy_0 rfl ?_
  refine rl_iload_n (pc := 1) R dX7_copy_1 rfl ?_
  refine rl_V1 (pc := 2) RV dX7_copy_2 lkX7_172 x0 rfl (Nat.le_of_ble_eq_true rfl) (bs_findSheet_in x0 h19 hq) ?_
  refine rl_astore (pc := 5) R dX7_copy_5 (Nat.le_of_ble_eq_true rfl) rfl ?_
  show K _ [_, _, _, _, _, _, _, _] _ _
  refine rl_aload_n (pc := 7) R dX7_copy_7 rfl ?_
  refine rl_iload_n (pc := 8) R dX7_copy_8 rfl ?_
  refine rl_V1 (pc := 9) RV dX7_copy_9 lkX7_172 x0 rfl (Nat.le_of_ble_eq_true rfl) (bs_findSheet_in x0 h19 hr) ?_
  refine rl_astore (pc := 12) R dX7_copy_12 (Nat.le_of_ble_eq_true rfl) rfl ?_
  show K _ [_, _, _, _, _, _, _, _] _ _
  refine rl_aload (pc := 14) R dX7_copy_14 rfl ?_
  refine rl_ifnull (pc := 16) R dX7_copy_16 ?_
  refine rl_aload (pc := 19) R dX7_copy_19 rfl ?_
  refine rl_ifnonnull (pc := 21) (tgt := 26) R dX7_copy_21 rfl ?_
  refine rl_aload (pc := 26) R dX7_copy_26 rfl ?_
  refine rl_V0 (pc := 28) RV dX7_copy_28 lkX7_193 s1 rfl (Nat.le_of_ble_eq_true rfl) (bs_X2_isNothing s1) ?_
  refine rl_if_ne (pc := 31) (tgt := 42) R dX7_copy_31 rfl (fun c31 => absurd (by rw [decide_eq_false c1]; decide) c31) (fun c31 => ?_)
  refine rl_aload (pc := 34) R dX7_copy_34 rfl ?_
  refine rl_V0 (pc := 36) RV dX7_copy_36 lkX7_193 t1 rfl (Nat.le_of_ble_eq_true rfl) (bs_X2_isNothing t1) ?_
  refine rl_if_eq (pc := 39) (tgt := 45) R dX7_copy_39 rfl (fun c39 => ?_) (fun c39 => absurd (by rw [decide_eq_false c2]; decide) c39)
  refine rl_aload (pc := 45) R dX7_copy_45 rfl ?_
  refine rl_getf (pc := 47) R dX7_copy_47 fkX7_200 s1 rfl ?_
  refine rl_aload (pc := 50) R dX7_copy_50 rfl ?_
  refine rl_getf (pc := 52) R dX7_copy_52 fkX7_200 t1 rfl ?_
  refine rl_icmp_eq (pc := 55) (tgt := 61) R dX7_copy_55 rfl (fun c55 => ?_) (fun c55 => absurd (c3) c55)
  refine rl_aload (pc := 61) R dX7_copy_61 rfl ?_
  refine rl_iload_n (pc := 63) R dX7_copy_63 rfl ?_
  refine rl_iload (pc := 64) R dX7_copy_64 rfl ?_
  refine rl_V2 (pc := 66) RV dX7_copy_66 lkX7_203 s1 rfl (Nat.le_of_ble_eq_true rfl) (bs_X2_covers s1) ?_
  refine rl_if_eq (pc := 69) (tgt := 84) R dX7_copy_69 rfl (fun c69 => absurd c69 (by rw [c4]; decide)) (fun c69 => ?_)
  refine rl_aload (pc := 72) R dX7_copy_72 rfl ?_
  refine rl_iload (pc := 74) R dX7_copy_74 rfl ?_
  refine rl_iload (pc := 76) R dX7_copy_76 rfl ?_
  refine rl_V2 (pc := 78) RV dX7_copy_78 lkX7_203 t1 rfl (Nat.le_of_ble_eq_true rfl) (bs_X2_covers t1) ?_
  refine rl_if_ne (pc := 81) (tgt := 87) R dX7_copy_81 rfl (fun c81 => ?_) (fun c81 => absurd c81 (by rw [c5]; decide))
  refine rl_aload (pc := 87) R dX7_copy_87 rfl ?_
  refine rl_getf (pc := 89) R dX7_copy_89 fkX7_206 s1 rfl ?_
  refine rl_iload_n (pc := 92) R dX7_copy_92 rfl ?_
  refine rl_aload (pc := 93) R dX7_copy_93 rfl ?_
  refine rl_getf (pc := 95) R dX7_copy_95 fkX7_206 t1 rfl ?_
  refine rl_iload (pc := 98) R dX7_copy_98 rfl ?_
  refine rl_iload (pc := 100) R dX7_copy_100 rfl ?_
  refine rl_copy (pc := 102) R dX7_copy_102 lmX7_210 (Nat.le_of_ble_eq_true rfl) s2 t2 rfl rfl rfl c6 c7 (by decide) ?_
  refine rl_iload (pc := 105) R dX7_copy_105 rfl ?_
  exact rl_ireturn (pc := 107) E dX7_copy_107 rfl rfl (rfl)
theorem bs_X7_film_bad {s i l k : Int32} {j : Nat} (x0 : h[0]? = some (x0O im)) (h19 : h[19]? = some (hQ 4 (fun j => some (20 + 2 * j)))) (hok : (i < 0 ∨ 4 ≤ i) ∨ (i = nI j ∧ j < 4 ∧ isW l 0 2 = false)) : BS (d + 3) false yX7_film [.ref 0, .int s, .int i, .int l, .int k] h (some (.int (-1))) h := by
  refine bs_of mtX7_film rfl (Nat.le_of_ble_eq_true rfl) (fun K R RV RS E => ?_)
  show K 0 [_, _, _, _, _, _, _, _] [] _
  rcases hok with hok | ⟨rfl, hj, hok⟩
  · refine rl_aload_n (pc := 0) R dX7_film_0 rfl ?_
    refine rl_iload_n (pc := 1) R dX7_film_1 rfl ?_
    refine rl_V1 (pc := 2) RV dX7_film_2 lkX7_172 x0 rfl (Nat.le_of_ble_eq_true rfl) (bs_findSheet_out x0 h19 hok) ?_
    refine rl_astoreN (pc := 5) R dX7_film_5 (Nat.le_of_ble_eq_true rfl) rfl ?_
    refine rl_aloadN (pc := 7) R dX7_film_7 rfl ?_
    refine rl_ifnullN (pc := 9) (tgt := 19) R dX7_film_9 rfl ?_
    refine rl_iconst (pc := 19) R dX7_film_19 ic_m1 ?_
    exact rl_ireturn (pc := 20) E dX7_film_20 rfl rfl (rfl)
  · refine rl_aload_n (pc := 0) R dX7_film_0 rfl ?_
    refine rl_iload_n (pc := 1) R dX7_film_1 rfl ?_
    refine rl_V1 (pc := 2) RV dX7_film_2 lkX7_172 x0 rfl (Nat.le_of_ble_eq_true rfl) (bs_findSheet_in x0 h19 hj) ?_
    refine rl_astore (pc := 5) R dX7_film_5 (Nat.le_of_ble_eq_true rfl) rfl ?_
    show K _ [_, _, _, _, _, _, _, _] _ _
    refine rl_aload (pc := 7) R dX7_film_7 rfl ?_
    refine rl_ifnull (pc := 9) R dX7_film_9 ?_
    refine rl_iload_n (pc := 12) R dX7_film_12 rfl ?_
    refine rl_S1 (pc := 13) RS dX7_film_13 lkX7_176 (Nat.le_of_ble_eq_true rfl) (bs_X7_isLane) ?_
    refine rl_if_ne (pc := 16) (tgt := 21) R dX7_film_16 rfl (fun c16 => absurd (by rw [hok]; decide) c16) (fun c16 => ?_)
    refine rl_iconst (pc := 19) R dX7_film_19 ic_m1 ?_
    exact rl_ireturn (pc := 20) E dX7_film_20 rfl rfl (rfl)
theorem bs_X7_film_not {s l k : Int32} {j : Nat} (x0 : h[0]? = some (x0O im)) (hY : rY h 1 2 4 3 n nw wo co se) (h19 : h[19]? = some (hQ 4 (fun j => some (20 + 2 * j)))) (hj : j < 4) (hl : isW l 0 2 = true) (hr : ¬ rfO n (se 1) (se 0) s nw = 0) : BS (d + 6) false yX7_film [.ref 0, .int s, .int (nI j), .int l, .int k] h (some (.int (rfO n (se 1) (se 0) s nw))) h := by
  refine bs_of mtX7_film rfl (Nat.le_of_ble_eq_true rfl) (fun K R RV RS E => ?_)
  show K 0 [_, _, _, _, _, _, _, _] [] _
  refine rl_aload_n (pc := 0) R dX7_film_0 rfl ?_
  refine rl_iload_n (pc := 1) R dX7_film_1 rfl ?_
  refine rl_V1 (pc := 2) RV dX7_film_2 lkX7_172 x0 rfl (Nat.le_of_ble_eq_true rfl) (bs_findSheet_in x0 h19 hj) ?_
  refine rl_astore (pc := 5) R dX7_film_5 (Nat.le_of_ble_eq_true rfl) rfl ?_
  show K _ [_, _, _, _, _, _, _, _] _ _
  refine rl_aload (pc := 7) R dX7_film_7 rfl ?_
  refine rl_ifnull (pc := 9) R dX7_film_9 ?_
  refine rl_iload_n (pc := 12) R dX7_film_12 rfl ?_
  refine rl_S1 (pc := 13) RS dX7_film_13 lkX7_176 (Nat.le_of_ble_eq_true rfl) (bs_X7_isLane) ?_
  refine rl_if_ne (pc := 16) (tgt := 21) R dX7_film_16 rfl (fun c16 => ?_) (fun c16 => absurd c16 (by rw [hl]; decide))
  refine rl_aload_n (pc := 21) R dX7_film_21 rfl ?_
  refine rl_iload_n (pc := 22) R dX7_film_22 rfl ?_
  refine rl_V1 (pc := 23) RV dX7_film_23 lkX7_131 x0 rfl (Nat.le_of_ble_eq_true rfl) (bs_X7_refusalOf x0 hY) ?_
  refine rl_istore (pc := 26) R dX7_film_26 (Nat.le_of_ble_eq_true rfl) rfl ?_
  show K _ [_, _, _, _, _, _, _, _] _ _
  refine rl_iload (pc := 28) R dX7_film_28 rfl ?_
  refine rl_if_eq (pc := 30) (tgt := 36) R dX7_film_30 rfl (fun c30 => absurd c30 (hr)) (fun c30 => ?_)
  refine rl_iload (pc := 33) R dX7_film_33 rfl ?_
  exact rl_ireturn (pc := 35) E dX7_film_35 rfl rfl (rfl)
theorem bs_X7_film_ref {s l k lane mm : Int32} {j : Nat} (x0 : h[0]? = some (x0O im)) (hY : rY h 1 2 4 3 n nw wo co se) (h19 : h[19]? = some (hQ 4 (fun j => some (20 + 2 * j)))) (hj : j < 4) (s1 : h[20 + 2 * j]? = some (hO 2 [.ref (21 + 2 * j), .int lane, .int mm])) (hl : isW l 0 2 = true) (hr : rfO n (se 1) (se 0) s nw = 0) (hz : ¬ shR lane mm l k (nI n) = 0) : BS (d + 6) false yX7_film [.ref 0, .int s, .int (nI j), .int l, .int k] h (some (.int (shR lane mm l k (nI n)))) h := by
  have h1 := hY.1
  have h2 := hY.2.1.1
  refine bs_of mtX7_film rfl (Nat.le_of_ble_eq_true rfl) (fun K R RV RS E => ?_)
  show K 0 [_, _, _, _, _, _, _, _] [] _
  refine rl_aload_n (pc := 0) R dX7_film_0 rfl ?_
  refine rl_iload_n (pc := 1) R dX7_film_1 rfl ?_
  refine rl_V1 (pc := 2) RV dX7_film_2 lkX7_172 x0 rfl (Nat.le_of_ble_eq_true rfl) (bs_findSheet_in x0 h19 hj) ?_
  refine rl_astore (pc := 5) R dX7_film_5 (Nat.le_of_ble_eq_true rfl) rfl ?_
  show K _ [_, _, _, _, _, _, _, _] _ _
  refine rl_aload (pc := 7) R dX7_film_7 rfl ?_
  refine rl_ifnull (pc := 9) R dX7_film_9 ?_
  refine rl_iload_n (pc := 12) R dX7_film_12 rfl ?_
  refine rl_S1 (pc := 13) RS dX7_film_13 lkX7_176 (Nat.le_of_ble_eq_true rfl) (bs_X7_isLane) ?_
  refine rl_if_ne (pc := 16) (tgt := 21) R dX7_film_16 rfl (fun c16 => ?_) (fun c16 => absurd c16 (by rw [hl]; decide))
  refine rl_aload_n (pc := 21) R dX7_film_21 rfl ?_
  refine rl_iload_n (pc := 22) R dX7_film_22 rfl ?_
  refine rl_V1 (pc := 23) RV dX7_film_23 lkX7_131 x0 rfl (Nat.le_of_ble_eq_true rfl) (bs_X7_refusalOf x0 hY) ?_
  refine rl_istore (pc := 26) R dX7_film_26 (Nat.le_of_ble_eq_true rfl) rfl ?_
  show K _ [_, _, _, _, _, _, _, _] _ _
  refine rl_iload (pc := 28) R dX7_film_28 rfl ?_
  refine rl_if_eq (pc := 30) (tgt := 36) R dX7_film_30 rfl (fun c30 => ?_) (fun c30 => absurd (hr) c30)
  refine rl_aload (pc := 36) R dX7_film_36 rfl ?_
  refine rl_iload_n (pc := 38) R dX7_film_38 rfl ?_
  refine rl_iload (pc := 39) R dX7_film_39 rfl ?_
  refine rl_aload_n (pc := 41) R dX7_film_41 rfl ?_
  refine rl_getf (pc := 42) R dX7_film_42 fkX7_10 (by first | assumption | rfl) rfl ?_
  refine rl_getf (pc := 45) R dX7_film_45 fkX7_62 (by first | assumption | rfl) rfl ?_
  refine rl_getf (pc := 48) R dX7_film_48 fkX7_112 (by first | assumption | rfl) rfl ?_
  refine rl_V3 (pc := 51) RV dX7_film_51 lkX7_179 s1 rfl (Nat.le_of_ble_eq_true rfl) (bs_X2_refusalOf s1) ?_
  refine rl_istore (pc := 54) R dX7_film_54 (Nat.le_of_ble_eq_true rfl) rfl ?_
  show K _ [_, _, _, _, _, _, _, _] _ _
  refine rl_iload (pc := 56) R dX7_film_56 rfl ?_
  refine rl_if_eq (pc := 58) (tgt := 64) R dX7_film_58 rfl (fun c58 => absurd c58 (hz)) (fun c58 => ?_)
  refine rl_iload (pc := 61) R dX7_film_61 rfl ?_
  exact rl_ireturn (pc := 63) E dX7_film_63 rfl rfl (rfl)
theorem bs_X7_film {s l lane mm : Int32} {j k : Nat} {f : Nat → Int32} (x0 : h[0]? = some (x0O im)) (hY : rY h 1 2 4 3 n nw wo co se) (h19 : h[19]? = some (hQ 4 (fun j => some (20 + 2 * j)))) (hj : j < 4) (s1 : h[20 + 2 * j]? = some (hO 2 [.ref (21 + 2 * j), .int lane, .int mm])) (s2 : h[21 + 2 * j]? = some (hI 28 f)) (hl : isW l 0 2 = true) (hr : rfO n (se 1) (se 0) s nw = 0) (hz : shR lane mm l (nI k) (nI n) = 0) (hk : k + n ≤ 28) : BS (d + 6) false yX7_film [.ref 0, .int s, .int (nI j), .int l, .int (nI k)] h (some (.int (nI n))) (h.set (21 + 2 * j) (hI 28 (fmG n nw wo co (se 0) (se 2) s lane k n 0 f))) := by
  have h1 := hY.1
  have h2 := hY.2.1.1
  have hc := hY.2.2.2
  have Y2 : ∀ g : Nat → Int32, rY (h.set (21 + 2 * j) (hI 28 g)) 1 2 4 3 n nw wo co se := fun g => ⟨sm_h_oi h1 s2, rD_set hY.2.1 s2 (by omega), sm_h_ne hY.2.2.1 s2 (by omega), hc⟩
  have X02 : ∀ g : Nat → Int32, (h.set (21 + 2 * j) (hI 28 g))[0]? = some (x0O im) := fun g => sm_h_oi x0 s2
  refine bs_of mtX7_film rfl (Nat.le_of_ble_eq_true rfl) (fun K R RV RS E => ?_)
  show K 0 [_, _, _, _, _, _, _, _] [] _
  have loop : ∀ (q i : Nat) (g : Nat → Int32), i + q = n → fmG n nw wo co (se 0) (se 2) s lane k q i g = fmG n nw wo co (se 0) (se 2) s lane k n 0 f → K 67 [some (.ref 0), some (.int s), some (.int (nI j)), some (.int l), some (.int (nI k)), some (.ref (20 + 2 * j)), some (.int 0), some (.int (nI i))] [] (h.set (21 + 2 * j) (hI 28 g)) := by
    intro q
    induction q with
    | zero =>
      intro i g hi hs
      have e : g = fmG n nw wo co (se 0) (se 2) s lane k n 0 f := hs
      subst e
      have y2 := Y2 (fmG n nw wo co (se 0) (se 2) s lane k n 0 f)
      have x02 := X02 (fmG n nw wo co (se 0) (se 2) s lane k n 0 f)
      refine rl_iload (pc := 67) R dX7_film_67 rfl ?_
      refine rl_aload_n (pc := 69) R dX7_film_69 rfl ?_
      refine rl_getf (pc := 70) R dX7_film_70 fkX7_10 x02 rfl ?_
      refine rl_getf (pc := 73) R dX7_film_73 fkX7_62 y2.1 rfl ?_
      refine rl_getf (pc := 76) R dX7_film_76 fkX7_112 y2.2.1.1 rfl ?_
      refine rl_icmp_ge (pc := 79) (tgt := 108) R dX7_film_79 rfl (fun c79 => ?_) (fun c79 => absurd (nI_le (by omega) (by have := hY.2.1.2.1; omega)) c79)
      refine rl_aload_n (pc := 108) R dX7_film_108 rfl ?_
      refine rl_getf (pc := 109) R dX7_film_109 fkX7_10 x02 rfl ?_
      refine rl_getf (pc := 112) R dX7_film_112 fkX7_62 y2.1 rfl ?_
      refine rl_getf (pc := 115) R dX7_film_115 fkX7_112 y2.2.1.1 rfl ?_
      exact rl_ireturn (pc := 118) E dX7_film_118 rfl rfl (rfl)
    | succ q ih =>
      intro i g hi hs
      have y2 := Y2 g
      have x02 := X02 g
      refine rl_iload (pc := 67) R dX7_film_67 rfl ?_
      refine rl_aload_n (pc := 69) R dX7_film_69 rfl ?_
      refine rl_getf (pc := 70) R dX7_film_70 fkX7_10 x02 rfl ?_
      refine rl_getf (pc := 73) R dX7_film_73 fkX7_62 y2.1 rfl ?_
      refine rl_getf (pc := 76) R dX7_film_76 fkX7_112 y2.2.1.1 rfl ?_
      refine rl_icmp_ge (pc := 79) (tgt := 108) R dX7_film_79 rfl (fun c79 => absurd c79 (nI_ge (by omega) (by have := hY.2.1.2.1; omega))) (fun c79 => ?_)
      refine rl_aload (pc := 82) R dX7_film_82 rfl ?_
      refine rl_iload (pc := 84) R dX7_film_84 rfl ?_
      refine rl_iload (pc := 86) R dX7_film_86 rfl ?_
      refine rl_iadd (pc := 88) R dX7_film_88 ?_
      refine rl_aload_n (pc := 89) R dX7_film_89 rfl ?_
      refine rl_getf (pc := 90) R dX7_film_90 fkX7_10 x02 rfl ?_
      refine rl_iload_n (pc := 93) R dX7_film_93 rfl ?_
      refine rl_iload (pc := 94) R dX7_film_94 rfl ?_
      refine rl_V2 (pc := 96) RV dX7_film_96 lkX7_184 y2.1 rfl (Nat.le_of_ble_eq_true rfl) (bs_X6_courtHas y2 (by omega)) ?_
      rw [nI_add]
      refine rl_V2v (pc := 99) RV dX7_film_99 lkX7_187 (sm_h_oi s1 s2) rfl (Nat.le_of_ble_eq_true rfl) (bs_X2_change (sm_h_oi s1 s2) (sm_h_eq s2) (by omega)) ?_
      rw [List.set_set]
      refine rl_iinc (pc := 102) R dX7_film_102 rfl (ii_n i) rfl ?_
      show K _ [_, _, _, _, _, _, _, _] _ _
      refine rl_goto (pc := 105) (tgt := 67) R dX7_film_105 rfl (ih (i + 1) _ (by omega) (by rw [← hs]; rfl))
  refine rl_aload_n (pc := 0) R dX7_film_0 rfl ?_
  refine rl_iload_n (pc := 1) R dX7_film_1 rfl ?_
  refine rl_V1 (pc := 2) RV dX7_film_2 lkX7_172 x0 rfl (Nat.le_of_ble_eq_true rfl) (bs_findSheet_in x0 h19 hj) ?_
  refine rl_astore (pc := 5) R dX7_film_5 (Nat.le_of_ble_eq_true rfl) rfl ?_
  show K _ [_, _, _, _, _, _, _, _] _ _
  refine rl_aload (pc := 7) R dX7_film_7 rfl ?_
  refine rl_ifnull (pc := 9) R dX7_film_9 ?_
  refine rl_iload_n (pc := 12) R dX7_film_12 rfl ?_
  refine rl_S1 (pc := 13) RS dX7_film_13 lkX7_176 (Nat.le_of_ble_eq_true rfl) (bs_X7_isLane) ?_
  refine rl_if_ne (pc := 16) (tgt := 21) R dX7_film_16 rfl (fun c16 => ?_) (fun c16 => absurd c16 (by rw [hl]; decide))
  refine rl_aload_n (pc := 21) R dX7_film_21 rfl ?_
  refine rl_iload_n (pc := 22) R dX7_film_22 rfl ?_
  refine rl_V1 (pc := 23) RV dX7_film_23 lkX7_131 x0 rfl (Nat.le_of_ble_eq_true rfl) (bs_X7_refusalOf x0 hY) ?_
  refine rl_istore (pc := 26) R dX7_film_26 (Nat.le_of_ble_eq_true rfl) rfl ?_
  show K _ [_, _, _, _, _, _, _, _] _ _
  refine rl_iload (pc := 28) R dX7_film_28 rfl ?_
  refine rl_if_eq (pc := 30) (tgt := 36) R dX7_film_30 rfl (fun c30 => ?_) (fun c30 => absurd (hr) c30)
  refine rl_aload (pc := 36) R dX7_film_36 rfl ?_
  refine rl_iload_n (pc := 38) R dX7_film_38 rfl ?_
  refine rl_iload (pc := 39) R dX7_film_39 rfl ?_
  refine rl_aload_n (pc := 41) R dX7_film_41 rfl ?_
  refine rl_getf (pc := 42) R dX7_film_42 fkX7_10 (by first | assumption | rfl) rfl ?_
  refine rl_getf (pc := 45) R dX7_film_45 fkX7_62 (by first | assumption | rfl) rfl ?_
  refine rl_getf (pc := 48) R dX7_film_48 fkX7_112 (by first | assumption | rfl) rfl ?_
  refine rl_V3 (pc := 51) RV dX7_film_51 lkX7_179 s1 rfl (Nat.le_of_ble_eq_true rfl) (bs_X2_refusalOf s1) ?_
  refine rl_istore (pc := 54) R dX7_film_54 (Nat.le_of_ble_eq_true rfl) rfl ?_
  show K _ [_, _, _, _, _, _, _, _] _ _
  rw [hz]
  refine rl_iload (pc := 56) R dX7_film_56 rfl ?_
  refine rl_if_eq (pc := 58) (tgt := 64) R dX7_film_58 rfl (fun c58 => ?_) (fun c58 => absurd (rfl) c58)
  refine rl_iconst (pc := 64) R dX7_film_64 ic_0 ?_
  refine rl_istore (pc := 65) R dX7_film_65 (Nat.le_of_ble_eq_true rfl) rfl ?_
  show K _ [_, _, _, _, _, _, _, _] _ _
  have e0 := loop n 0 f (by omega) rfl
  rw [List.set_getElem?_self' s2] at e0
  exact e0
theorem bs_X7_judged_bad {i l p k : Int32} {j : Nat} (x0 : h[0]? = some (x0O im)) (h19 : h[19]? = some (hQ 4 (fun j => some (20 + 2 * j)))) (hok : (i < 0 ∨ 4 ≤ i) ∨ (i = nI j ∧ j < 4 ∧ (isW l 0 2 && isW k 0 9) = false)) : BS (d + 3) false yX7_judged [.ref 0, .int i, .int l, .int p, .int k] h (some (.int (-100000001))) h := by
  refine bs_of mtX7_judged rfl (Nat.le_of_ble_eq_true rfl) (fun K R RV RS E => ?_)
  show K 0 [_, _, _, _, _, _, _, _] [] _
  rcases hok with hok | ⟨rfl, hj, hok⟩
  · refine rl_aload_n (pc := 0) R dX7_judged_0 rfl ?_
    refine rl_iload_n (pc := 1) R dX7_judged_1 rfl ?_
    refine rl_V1 (pc := 2) RV dX7_judged_2 lkX7_172 x0 rfl (Nat.le_of_ble_eq_true rfl) (bs_findSheet_out x0 h19 hok) ?_
    refine rl_astoreN (pc := 5) R dX7_judged_5 (Nat.le_of_ble_eq_true rfl) rfl ?_
    refine rl_aloadN (pc := 7) R dX7_judged_7 rfl ?_
    refine rl_ifnullN (pc := 9) (tgt := 30) R dX7_judged_9 rfl ?_
    refine rl_ldc (pc := 30) R dX7_judged_30 kcX7_152 ?_
    exact rl_ireturn (pc := 32) E dX7_judged_32 rfl rfl (rfl)
  · refine rl_aload_n (pc := 0) R dX7_judged_0 rfl ?_
    refine rl_iload_n (pc := 1) R dX7_judged_1 rfl ?_
    refine rl_V1 (pc := 2) RV dX7_judged_2 lkX7_172 x0 rfl (Nat.le_of_ble_eq_true rfl) (bs_findSheet_in x0 h19 hj) ?_
    refine rl_astore (pc := 5) R dX7_judged_5 (Nat.le_of_ble_eq_true rfl) rfl ?_
    show K _ [_, _, _, _, _, _, _, _] _ _
    refine rl_aload (pc := 7) R dX7_judged_7 rfl ?_
    refine rl_ifnull (pc := 9) R dX7_judged_9 ?_
    refine rl_iload_n (pc := 12) R dX7_judged_12 rfl ?_
    refine rl_S1 (pc := 13) RS dX7_judged_13 lkX7_176 (Nat.le_of_ble_eq_true rfl) (bs_X7_isLane) ?_
    refine rl_if_eq (pc := 16) (tgt := 30) R dX7_judged_16 rfl (fun c16 => ?_) (fun c16 => ?_)
    · rw [bI_0] at c16
      refine rl_ldc (pc := 30) R dX7_judged_30 kcX7_152 ?_
      exact rl_ireturn (pc := 32) E dX7_judged_32 rfl rfl (rfl)
    · rw [bI_n0] at c16
      refine rl_iload (pc := 19) R dX7_judged_19 rfl ?_
      refine rl_iconst (pc := 21) R dX7_judged_21 ic_0 ?_
      refine rl_bipush (pc := 22) R dX7_judged_22 bc_9 ?_
      refine rl_S3 (pc := 24) RS dX7_judged_24 lkX7_76 (Nat.le_of_ble_eq_true rfl) (bs_X7_isWithin) ?_
      refine rl_if_ne (pc := 27) (tgt := 33) R dX7_judged_27 rfl (fun c27 => ?_) (fun c27 => ?_)
      · exact absurd hok (by rw [bI_n0] at c27; rw [c16, c27]; decide)
      · refine rl_ldc (pc := 30) R dX7_judged_30 kcX7_152 ?_
        exact rl_ireturn (pc := 32) E dX7_judged_32 rfl rfl (rfl)
theorem bs_X7_judged_ref {l p k lane mm : Int32} {j : Nat} (x0 : h[0]? = some (x0O im)) (h19 : h[19]? = some (hQ 4 (fun j => some (20 + 2 * j)))) (hj : j < 4) (s1 : h[20 + 2 * j]? = some (hO 2 [.ref (21 + 2 * j), .int lane, .int mm])) (hl : isW l 0 2 = true) (hk : isW k 0 9 = true) (hz : ¬ shR lane mm l p k = 0) : BS (d + 3) false yX7_judged [.ref 0, .int (nI j), .int l, .int p, .int k] h (some (.int (shR lane mm l p k - 100000000))) h := by
  refine bs_of mtX7_judged rfl (Nat.le_of_ble_eq_true rfl) (fun K R RV RS E => ?_)
  show K 0 [_, _, _, _, _, _, _, _] [] _
  refine rl_aload_n (pc := 0) R dX7_judged_0 rfl ?_
  refine rl_iload_n (pc := 1) R dX7_judged_1 rfl ?_
  refine rl_V1 (pc := 2) RV dX7_judged_2 lkX7_172 x0 rfl (Nat.le_of_ble_eq_true rfl) (bs_findSheet_in x0 h19 hj) ?_
  refine rl_astore (pc := 5) R dX7_judged_5 (Nat.le_of_ble_eq_true rfl) rfl ?_
  show K _ [_, _, _, _, _, _, _, _] _ _
  refine rl_aload (pc := 7) R dX7_judged_7 rfl ?_
  refine rl_ifnull (pc := 9) R dX7_judged_9 ?_
  refine rl_iload_n (pc := 12) R dX7_judged_12 rfl ?_
  refine rl_S1 (pc := 13) RS dX7_judged_13 lkX7_176 (Nat.le_of_ble_eq_true rfl) (bs_X7_isLane) ?_
  refine rl_if_eq (pc := 16) (tgt := 30) R dX7_judged_16 rfl (fun c16 => absurd c16 (by rw [hl]; decide)) (fun c16 => ?_)
  refine rl_iload (pc := 19) R dX7_judged_19 rfl ?_
  refine rl_iconst (pc := 21) R dX7_judged_21 ic_0 ?_
  refine rl_bipush (pc := 22) R dX7_judged_22 bc_9 ?_
  refine rl_S3 (pc := 24) RS dX7_judged_24 lkX7_76 (Nat.le_of_ble_eq_true rfl) (bs_X7_isWithin) ?_
  refine rl_if_ne (pc := 27) (tgt := 33) R dX7_judged_27 rfl (fun c27 => ?_) (fun c27 => absurd c27 (by rw [hk]; decide))
  refine rl_aload (pc := 33) R dX7_judged_33 rfl ?_
  refine rl_iload_n (pc := 35) R dX7_judged_35 rfl ?_
  refine rl_iload_n (pc := 36) R dX7_judged_36 rfl ?_
  refine rl_iload (pc := 37) R dX7_judged_37 rfl ?_
  refine rl_V3 (pc := 39) RV dX7_judged_39 lkX7_179 s1 rfl (Nat.le_of_ble_eq_true rfl) (bs_X2_refusalOf s1) ?_
  refine rl_istore (pc := 42) R dX7_judged_42 (Nat.le_of_ble_eq_true rfl) rfl ?_
  show K _ [_, _, _, _, _, _, _, _] _ _
  refine rl_iload (pc := 44) R dX7_judged_44 rfl ?_
  refine rl_if_eq (pc := 46) (tgt := 55) R dX7_judged_46 rfl (fun c46 => absurd c46 (hz)) (fun c46 => ?_)
  refine rl_iload (pc := 49) R dX7_judged_49 rfl ?_
  refine rl_ldc (pc := 51) R dX7_judged_51 kcX7_140 ?_
  refine rl_isub (pc := 53) R dX7_judged_53 ?_
  exact rl_ireturn (pc := 54) E dX7_judged_54 rfl rfl (rfl)
theorem bs_X7_judged {l lane mm : Int32} {j p k : Nat} {f : Nat → Int32} (x0 : h[0]? = some (x0O im)) (hY : rY h 1 2 4 3 n nw wo co se) (h19 : h[19]? = some (hQ 4 (fun j => some (20 + 2 * j)))) (hj : j < 4) (s1 : h[20 + 2 * j]? = some (hO 2 [.ref (21 + 2 * j), .int lane, .int mm])) (s2 : h[21 + 2 * j]? = some (hI 28 f)) (hl : isW l 0 2 = true) (hk : isW (nI k) 0 9 = true) (hz : shR lane mm l (nI p) (nI k) = 0) (hp : p + k ≤ 28) : BS (d + 6) false yX7_judged [.ref 0, .int (nI j), .int l, .int (nI p), .int (nI k)] h (some (.int (if rdD f (nI n) k p (-1) 0 = -2 then -100000002 else if rfO n (se 1) (se 0) (rdD f (nI n) k p (-1) 0) nw = 0 then gnO n nw wo co (se 0) (se 2) (rdD f (nI n) k p (-1) 0) n 0 0 else -100000002))) h := by
  have h1 := hY.1
  have h2 := hY.2.1.1
  refine bs_of mtX7_judged rfl (Nat.le_of_ble_eq_true rfl) (fun K R RV RS E => ?_)
  show K 0 [_, _, _, _, _, _, _, _] [] _
  refine rl_aload_n (pc := 0) R dX7_judged_0 rfl ?_
  refine rl_iload_n (pc := 1) R dX7_judged_1 rfl ?_
  refine rl_V1 (pc := 2) RV dX7_judged_2 lkX7_172 x0 rfl (Nat.le_of_ble_eq_true rfl) (bs_findSheet_in x0 h19 hj) ?_
  refine rl_astore (pc := 5) R dX7_judged_5 (Nat.le_of_ble_eq_true rfl) rfl ?_
  show K _ [_, _, _, _, _, _, _, _] _ _
  refine rl_aload (pc := 7) R dX7_judged_7 rfl ?_
  refine rl_ifnull (pc := 9) R dX7_judged_9 ?_
  refine rl_iload_n (pc := 12) R dX7_judged_12 rfl ?_
  refine rl_S1 (pc := 13) RS dX7_judged_13 lkX7_176 (Nat.le_of_ble_eq_true rfl) (bs_X7_isLane) ?_
  refine rl_if_eq (pc := 16) (tgt := 30) R dX7_judged_16 rfl (fun c16 => absurd c16 (by rw [hl]; decide)) (fun c16 => ?_)
  refine rl_iload (pc := 19) R dX7_judged_19 rfl ?_
  refine rl_iconst (pc := 21) R dX7_judged_21 ic_0 ?_
  refine rl_bipush (pc := 22) R dX7_judged_22 bc_9 ?_
  refine rl_S3 (pc := 24) RS dX7_judged_24 lkX7_76 (Nat.le_of_ble_eq_true rfl) (bs_X7_isWithin) ?_
  refine rl_if_ne (pc := 27) (tgt := 33) R dX7_judged_27 rfl (fun c27 => ?_) (fun c27 => absurd c27 (by rw [hk]; decide))
  refine rl_aload (pc := 33) R dX7_judged_33 rfl ?_
  refine rl_iload_n (pc := 35) R dX7_judged_35 rfl ?_
  refine rl_iload_n (pc := 36) R dX7_judged_36 rfl ?_
  refine rl_iload (pc := 37) R dX7_judged_37 rfl ?_
  refine rl_V3 (pc := 39) RV dX7_judged_39 lkX7_179 s1 rfl (Nat.le_of_ble_eq_true rfl) (bs_X2_refusalOf s1) ?_
  refine rl_istore (pc := 42) R dX7_judged_42 (Nat.le_of_ble_eq_true rfl) rfl ?_
  show K _ [_, _, _, _, _, _, _, _] _ _
  refine rl_iload (pc := 44) R dX7_judged_44 rfl ?_
  refine rl_if_eq (pc := 46) (tgt := 55) R dX7_judged_46 rfl (fun c46 => ?_) (fun c46 => absurd (hz) c46)
  refine rl_aload (pc := 55) R dX7_judged_55 rfl ?_
  refine rl_iload_n (pc := 57) R dX7_judged_57 rfl ?_
  refine rl_iload (pc := 58) R dX7_judged_58 rfl ?_
  refine rl_aload_n (pc := 60) R dX7_judged_60 rfl ?_
  refine rl_getf (pc := 61) R dX7_judged_61 fkX7_10 (by first | assumption | rfl) rfl ?_
  refine rl_getf (pc := 64) R dX7_judged_64 fkX7_62 (by first | assumption | rfl) rfl ?_
  refine rl_getf (pc := 67) R dX7_judged_67 fkX7_112 (by first | assumption | rfl) rfl ?_
  refine rl_V3 (pc := 70) RV dX7_judged_70 lkX7_181 s1 rfl (Nat.le_of_ble_eq_true rfl) (bs_X2_readDays s1 s2 hp) ?_
  refine rl_istore (pc := 73) R dX7_judged_73 (Nat.le_of_ble_eq_true rfl) rfl ?_
  show K _ [_, _, _, _, _, _, _, _] _ _
  refine rl_iload (pc := 75) R dX7_judged_75 rfl ?_
  refine rl_bipush (pc := 77) R dX7_judged_77 bc_m2 ?_
  refine rl_icmp_eq (pc := 79) (tgt := 91) R dX7_judged_79 rfl (fun c79 => ?_) (fun c79 => ?_)
  · refine rl_ldc (pc := 91) R dX7_judged_91 kcX7_151 ?_
    exact rl_ireturn (pc := 93) E dX7_judged_93 rfl rfl (e_si (by first | rw [if_pos c79] | rw [if_neg c79, if_neg c88]))
  · refine rl_aload_n (pc := 82) R dX7_judged_82 rfl ?_
    refine rl_iload (pc := 83) R dX7_judged_83 rfl ?_
    refine rl_V1 (pc := 85) RV dX7_judged_85 lkX7_131 x0 rfl (Nat.le_of_ble_eq_true rfl) (bs_X7_refusalOf x0 hY) ?_
    refine rl_if_eq (pc := 88) (tgt := 94) R dX7_judged_88 rfl (fun c88 => ?_) (fun c88 => ?_)
    · refine rl_aload_n (pc := 94) R dX7_judged_94 rfl ?_
      refine rl_getf (pc := 95) R dX7_judged_95 fkX7_10 (by first | assumption | rfl) rfl ?_
      refine rl_iload (pc := 98) R dX7_judged_98 rfl ?_
      refine rl_V1 (pc := 100) RV dX7_judged_100 lkX7_137 h1 rfl (Nat.le_of_ble_eq_true rfl) (bs_X6_gainOf hY) ?_
      exact rl_ireturn (pc := 103) E dX7_judged_103 rfl rfl (e_si (by rw [if_neg c79, if_pos c88]))
    · refine rl_ldc (pc := 91) R dX7_judged_91 kcX7_151 ?_
      exact rl_ireturn (pc := 93) E dX7_judged_93 rfl rfl (e_si (by first | rw [if_pos c79] | rw [if_neg c79, if_neg c88]))
end X9
