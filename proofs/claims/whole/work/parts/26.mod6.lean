/-! THE REFERENCE: sheets -/
def fdM (sj lj lane i n : Int32) : Int32 := if sj < 0 then -11 else if lj = lane then (if i < 0 then -13 else if sj.toInt64 < i.toInt64 + n.toInt64 then -13 else 0) else -12
def jdM (f : Nat → Int32) (n q : Nat) : Nat → Nat → Int32 → Option Int32
  | 0, _, s => some s
  | j + 1, k, s => if isW (f (q + k)) 0 (nI n - 1) && decide (s >>> (f (q + k) &&& 31) = 0) then jdM f n q j (k + 1) (s ||| 1 <<< (f (q + k) &&& 31)) else none
def fmI (n : Nat) (nw wo co : Nat → Int32) (trust s : Int32) (q : Nat) : Nat → Nat → Int32 → (Nat → Int32) → (Nat → Int32)
  | 0, _, _, g => g
  | j + 1, i, l, g => fmI n nw wo co trust s q j (i + 1) (l - (if bt s i then 1 else 0)) (upd g (q + i) (crt n nw wo co i (bt s i) l trust))
def zrI (q : Nat) : Nat → Nat → (Nat → Int32) → (Nat → Int32)
  | 0, _, g => g
  | j + 1, k, g => zrI q j (k + 1) (upd g (q + k) 0)
def cyM (n : Nat) (back : Bool) (q1 q2 : Nat) : Nat → Nat → (Nat → Int32) → (Nat → Int32)
  | 0, _, g => g
  | j + 1, k, g => cyM n back q1 q2 j (k + 1) (upd g (q2 + (if back then n - 1 - k else k)) (g (q1 + (if back then n - 1 - k else k))))
section M6
variable {d : Nat} {h : List sm_C} {ik td at_ sz rd : Int32} {n : Nat} {nw wo co se a zf lf im : Nat → Int32}
theorem bs_X8_isSheet {s l : Int32} : BS (d + 2) true yX8_isSheet [.int s, .int l] h (some (.int (bI (isW s 0 3 && isW l 0 2)))) h := by
  refine bs_of mtX8_isSheet rfl (Nat.le_of_ble_eq_true rfl) (fun K R RV RS E => ?_)
  show K 0 [_, _] [] _
  refine rl_iload_n (pc := 0) R dX8_isSheet_0 rfl ?_
  refine rl_i2l (pc := 1) R dX8_isSheet_1 ?_
  refine rl_lconst (pc := 2) R dX8_isSheet_2 lc_0 ?_
  refine rl_ldc2 (pc := 3) R dX8_isSheet_3 kdX8_62 ?_
  refine rl_S3 (pc := 6) RS dX8_isSheet_6 lkX8_40 (Nat.le_of_ble_eq_true rfl) (bs_X8_inW (v := s) (x := 0) (y := 3) rfl rfl rfl) ?_
  refine rl_if_eq (pc := 9) (tgt := 28) R dX8_isSheet_9 rfl (fun c9 => ?_) (fun c9 => ?_)
  · rw [bI_0] at c9
    refine rl_iconst (pc := 28) R dX8_isSheet_28 ic_0 ?_
    exact rl_ireturn (pc := 29) E dX8_isSheet_29 rfl rfl (e_si (by first | (rw [c9]; rfl) | (rw [c9, c21]; rfl)))
  · rw [bI_n0] at c9
    refine rl_iload_n (pc := 12) R dX8_isSheet_12 rfl ?_
    refine rl_i2l (pc := 13) R dX8_isSheet_13 ?_
    refine rl_lconst (pc := 14) R dX8_isSheet_14 lc_0 ?_
    refine rl_ldc2 (pc := 15) R dX8_isSheet_15 kdX8_46 ?_
    refine rl_S3 (pc := 18) RS dX8_isSheet_18 lkX8_40 (Nat.le_of_ble_eq_true rfl) (bs_X8_inW (v := l) (x := 0) (y := 2) rfl rfl rfl) ?_
    refine rl_if_eq (pc := 21) (tgt := 28) R dX8_isSheet_21 rfl (fun c21 => ?_) (fun c21 => ?_)
    · rw [bI_0] at c21
      refine rl_iconst (pc := 28) R dX8_isSheet_28 ic_0 ?_
      exact rl_ireturn (pc := 29) E dX8_isSheet_29 rfl rfl (e_si (by first | (rw [c9]; rfl) | (rw [c9, c21]; rfl)))
    · rw [bI_n0] at c21
      refine rl_iconst (pc := 24) R dX8_isSheet_24 ic_1 ?_
      refine rl_goto (pc := 25) (tgt := 29) R dX8_isSheet_25 rfl ?_
      exact rl_ireturn (pc := 29) E dX8_isSheet_29 rfl rfl (e_si (by first | (rw [c9]; rfl) | (rw [c9, c21]; rfl)))
theorem bs_X8_found {q : Nat} {lane i k : Int32} (m0 : h[0]? = some (mO ik td at_ sz rd)) (m4 : h[4]? = some (hI 4 zf)) (m5 : h[5]? = some (hI 4 lf)) (hq : q < 4) : BS (d + 1) false yX8_found [.ref 0, .int (nI q), .int lane, .int i, .int k] h (some (.int (fdM (zf q) (lf q) lane i k))) h := by
  refine bs_of mtX8_found rfl (Nat.le_of_ble_eq_true rfl) (fun K R RV RS E => ?_)
  show K 0 [_, _, _, _, _] [] _
  refine rl_aload_n (pc := 0) R dX8_found_0 rfl ?_
  refine rl_getf (pc := 1) R dX8_found_1 fkX8_19 (by first | assumption | rfl) rfl ?_
  refine rl_iload_n (pc := 4) R dX8_found_4 rfl ?_
  refine rl_iald (pc := 5) R dX8_found_5 m4 rfl hq (by decide) ?_
  refine rl_if_ge (pc := 6) (tgt := 14) R dX8_found_6 rfl (fun c6 => ?_) (fun c6 => ?_)
  · have e6 : ¬ zf q < 0 := Int32.not_lt.mpr c6
    refine rl_aload_n (pc := 14) R dX8_found_14 rfl ?_
    refine rl_getf (pc := 15) R dX8_found_15 fkX8_22 (by first | assumption | rfl) rfl ?_
    refine rl_iload_n (pc := 18) R dX8_found_18 rfl ?_
    refine rl_iald (pc := 19) R dX8_found_19 m5 rfl hq (by decide) ?_
    refine rl_iload_n (pc := 20) R dX8_found_20 rfl ?_
    refine rl_icmp_eq (pc := 21) (tgt := 29) R dX8_found_21 rfl (fun c21 => ?_) (fun c21 => ?_)
    · refine rl_iload_n (pc := 29) R dX8_found_29 rfl ?_
      refine rl_if_lt (pc := 30) (tgt := 50) R dX8_found_30 rfl (fun c30 => ?_) (fun c30 => ?_)
      · refine rl_bipush (pc := 50) R dX8_found_50 bc_m13 ?_
        refine rl_goto (pc := 52) (tgt := 56) R dX8_found_52 rfl ?_
        exact rl_ireturn (pc := 56) E dX8_found_56 rfl rfl (e_si (by rw [fdM]; first | (rw [if_pos e6]; done) | (rw [if_neg e6, if_neg c21]; done) | (rw [if_neg e6, if_pos c21, if_pos c30]; done) | (rw [if_neg e6, if_pos c21, if_neg c30, if_pos e47]; done) | (rw [if_neg e6, if_pos c21, if_neg c30, if_neg e47]; done)))
      · refine rl_iload_n (pc := 33) R dX8_found_33 rfl ?_
        refine rl_i2l (pc := 34) R dX8_found_34 ?_
        refine rl_iload (pc := 35) R dX8_found_35 rfl ?_
        refine rl_i2l (pc := 37) R dX8_found_37 ?_
        refine rl_ladd (pc := 38) R dX8_found_38 ?_
        refine rl_aload_n (pc := 39) R dX8_found_39 rfl ?_
        refine rl_getf (pc := 40) R dX8_found_40 fkX8_19 (by first | assumption | rfl) rfl ?_
        refine rl_iload_n (pc := 43) R dX8_found_43 rfl ?_
        refine rl_iald (pc := 44) R dX8_found_44 m4 rfl hq (by decide) ?_
        refine rl_i2l (pc := 45) R dX8_found_45 ?_
        refine rl_lcmp (pc := 46) R dX8_found_46 ?_
        refine rl_if_le (pc := 47) (tgt := 55) R dX8_found_47 rfl (fun c47 => ?_) (fun c47 => ?_)
        · have e47 : ¬ (zf q).toInt64 < i.toInt64 + k.toInt64 := fun z => absurd ((lg_cmp_gt _ _).mpr z) (Int32.not_lt.mpr c47)
          refine rl_iconst (pc := 55) R dX8_found_55 ic_0 ?_
          exact rl_ireturn (pc := 56) E dX8_found_56 rfl rfl (e_si (by rw [fdM]; first | (rw [if_pos e6]; done) | (rw [if_neg e6, if_neg c21]; done) | (rw [if_neg e6, if_pos c21, if_pos c30]; done) | (rw [if_neg e6, if_pos c21, if_neg c30, if_pos e47]; done) | (rw [if_neg e6, if_pos c21, if_neg c30, if_neg e47]; done)))
        · have e47 : (zf q).toInt64 < i.toInt64 + k.toInt64 := (lg_cmp_gt _ _).mp (Int32.not_le.mp c47)
          refine rl_bipush (pc := 50) R dX8_found_50 bc_m13 ?_
          refine rl_goto (pc := 52) (tgt := 56) R dX8_found_52 rfl ?_
          exact rl_ireturn (pc := 56) E dX8_found_56 rfl rfl (e_si (by rw [fdM]; first | (rw [if_pos e6]; done) | (rw [if_neg e6, if_neg c21]; done) | (rw [if_neg e6, if_pos c21, if_pos c30]; done) | (rw [if_neg e6, if_pos c21, if_neg c30, if_pos e47]; done) | (rw [if_neg e6, if_pos c21, if_neg c30, if_neg e47]; done)))
    · refine rl_bipush (pc := 24) R dX8_found_24 bc_m12 ?_
      refine rl_goto (pc := 26) (tgt := 56) R dX8_found_26 rfl ?_
      exact rl_ireturn (pc := 56) E dX8_found_56 rfl rfl (e_si (by rw [fdM]; first | (rw [if_pos e6]; done) | (rw [if_neg e6, if_neg c21]; done) | (rw [if_neg e6, if_pos c21, if_pos c30]; done) | (rw [if_neg e6, if_pos c21, if_neg c30, if_pos e47]; done) | (rw [if_neg e6, if_pos c21, if_neg c30, if_neg e47]; done)))
  · have e6 : zf q < 0 := Int32.not_le.mp c6
    refine rl_bipush (pc := 9) R dX8_found_9 bc_m11 ?_
    refine rl_goto (pc := 11) (tgt := 56) R dX8_found_11 rfl ?_
    exact rl_ireturn (pc := 56) E dX8_found_56 rfl rfl (e_si (by rw [fdM]; first | (rw [if_pos e6]; done) | (rw [if_neg e6, if_neg c21]; done) | (rw [if_neg e6, if_pos c21, if_pos c30]; done) | (rw [if_neg e6, if_pos c21, if_neg c30, if_pos e47]; done) | (rw [if_neg e6, if_pos c21, if_neg c30, if_neg e47]; done)))
theorem bs_X8_sheet_bad {s l k : Int32} (hok : (isW s 0 3 && isW l 0 2) = false ∨ 28 < k) : BS (d + 3) false yX8_sheet [.ref 0, .int s, .int l, .int k] h (some (.int (-1))) h := by
  refine bs_of mtX8_sheet rfl (Nat.le_of_ble_eq_true rfl) (fun K R RV RS E => ?_)
  show K 0 [_, _, _, _, _] [] _
  refine rl_iload_n (pc := 0) R dX8_sheet_0 rfl ?_
  refine rl_iload_n (pc := 1) R dX8_sheet_1 rfl ?_
  refine rl_S2 (pc := 2) RS dX8_sheet_2 lkX8_168 (Nat.le_of_ble_eq_true rfl) (bs_X8_isSheet) ?_
  refine rl_if_eq (pc := 5) (tgt := 14) R dX8_sheet_5 rfl (fun c5 => ?_) (fun c5 => ?_)
  · rw [bI_0] at c5
    refine rl_iconst (pc := 14) R dX8_sheet_14 ic_m1 ?_
    exact rl_ireturn (pc := 15) E dX8_sheet_15 rfl rfl (rfl)
  · rw [bI_n0] at c5
    refine rl_iload_n (pc := 8) R dX8_sheet_8 rfl ?_
    refine rl_bipush (pc := 9) R dX8_sheet_9 bc_28 ?_
    refine rl_icmp_le (pc := 11) (tgt := 16) R dX8_sheet_11 rfl (fun c11 => absurd c11 (fun z => hok.elim (fun q => by rw [q] at c5; cases c5) (fun q => absurd z (Int32.not_le.mpr q)))) (fun c11 => ?_)
    refine rl_iconst (pc := 14) R dX8_sheet_14 ic_m1 ?_
    exact rl_ireturn (pc := 15) E dX8_sheet_15 rfl rfl (rfl)
theorem bs_X8_sheet_neg {s l k : Int32} (hok : (isW s 0 3 && isW l 0 2) = true) (hk : k < 0) : BS (d + 3) false yX8_sheet [.ref 0, .int s, .int l, .int k] h (some (.int (-14))) h := by
  refine bs_of mtX8_sheet rfl (Nat.le_of_ble_eq_true rfl) (fun K R RV RS E => ?_)
  show K 0 [_, _, _, _, _] [] _
  refine rl_iload_n (pc := 0) R dX8_sheet_0 rfl ?_
  refine rl_iload_n (pc := 1) R dX8_sheet_1 rfl ?_
  refine rl_S2 (pc := 2) RS dX8_sheet_2 lkX8_168 (Nat.le_of_ble_eq_true rfl) (bs_X8_isSheet) ?_
  refine rl_if_eq (pc := 5) (tgt := 14) R dX8_sheet_5 rfl (fun c5 => absurd c5 (by rw [hok]; decide)) (fun c5 => ?_)
  refine rl_iload_n (pc := 8) R dX8_sheet_8 rfl ?_
  refine rl_bipush (pc := 9) R dX8_sheet_9 bc_28 ?_
  refine rl_icmp_le (pc := 11) (tgt := 16) R dX8_sheet_11 rfl (fun c11 => ?_) (fun c11 => absurd (Int32.le_of_lt (Int32.lt_of_lt_of_le hk (by decide))) c11)
  refine rl_iload_n (pc := 16) R dX8_sheet_16 rfl ?_
  refine rl_if_ge (pc := 17) (tgt := 23) R dX8_sheet_17 rfl (fun c17 => absurd c17 (Int32.not_le.mpr hk)) (fun c17 => ?_)
  refine rl_bipush (pc := 20) R dX8_sheet_20 bc_m14 ?_
  exact rl_ireturn (pc := 22) E dX8_sheet_22 rfl rfl (rfl)
theorem bs_X8_sheet {q : Nat} {l k : Int32} (m0 : h[0]? = some (mO ik td at_ sz rd)) (m4 : h[4]? = some (hI 4 zf)) (m5 : h[5]? = some (hI 4 lf)) (m6 : h[6]? = some (hI 112 im)) (hq : q < 4) (hok : (isW (nI q) 0 3 && isW l 0 2) = true) (hk : 0 ≤ k) (hk2 : k ≤ 28) : BS (d + 3) false yX8_sheet [.ref 0, .int (nI q), .int l, .int k] h (some (.int k)) (((h.set 4 (hI 4 (upd zf q k))).set 5 (hI 4 (upd lf q l))).set 6 (hI 112 (zrI (28 * q) 28 0 im))) := by
  have e28 : (28 : Int32) * nI q = nI (28 * q) := pk_mul 28 q
  have A4 : (h.set 4 (hI 4 (upd zf q k)))[5]? = some (hI 4 lf) := sm_h_ne m5 m4 (by decide)
  have A0 : ∀ g : Nat → Int32, (((h.set 4 (hI 4 (upd zf q k))).set 5 (hI 4 (upd lf q l))).set 6 (hI 112 g))[0]? = some (mO ik td at_ sz rd) := fun g => m0_oth (m0_oth (m0_oth m0 (by decide)) (by decide)) (by decide)
  have B6 : ((h.set 4 (hI 4 (upd zf q k))).set 5 (hI 4 (upd lf q l)))[6]? = some (hI 112 im) := sm_h_ne (sm_h_ne m6 m4 (by decide)) A4 (by decide)
  have A6 : ∀ g : Nat → Int32, (((h.set 4 (hI 4 (upd zf q k))).set 5 (hI 4 (upd lf q l))).set 6 (hI 112 g))[6]? = some (hI 112 g) := fun g => sm_h_eq B6
  refine bs_of mtX8_sheet rfl (Nat.le_of_ble_eq_true rfl) (fun K R RV RS E => ?_)
  show K 0 [_, _, _, _, _] [] _
  have loop : ∀ (j i : Nat) (g : Nat → Int32), i + j = 28 → zrI (28 * q) j i g = zrI (28 * q) 28 0 im → K 40 [some (.ref 0), some (.int (nI q)), some (.int l), some (.int k), some (.int (nI i))] [] (((h.set 4 (hI 4 (upd zf q k))).set 5 (hI 4 (upd lf q l))).set 6 (hI 112 g)) := by
    intro j
    induction j with
    | zero =>
      intro i g hi hg
      have e : g = zrI (28 * q) 28 0 im := hg
      subst e
      refine rl_iload (pc := 40) R dX8_sheet_40 rfl ?_
      refine rl_bipush (pc := 42) R dX8_sheet_42 bc_28 ?_
      refine rl_icmp_ge (pc := 44) (tgt := 66) R dX8_sheet_44 rfl (fun c44 => ?_) (fun c44 => absurd (nI_le (a := 28) (by omega) (by omega)) c44)
      refine rl_iload_n (pc := 66) R dX8_sheet_66 rfl ?_
      exact rl_ireturn (pc := 67) E dX8_sheet_67 rfl rfl (rfl)
    | succ j ih =>
      intro i g hi hg
      refine rl_iload (pc := 40) R dX8_sheet_40 rfl ?_
      refine rl_bipush (pc := 42) R dX8_sheet_42 bc_28 ?_
      refine rl_icmp_ge (pc := 44) (tgt := 66) R dX8_sheet_44 rfl (fun c44 => absurd c44 (nI_ge (b := 28) (by omega) (by omega))) (fun c44 => ?_)
      refine rl_aload_n (pc := 47) R dX8_sheet_47 rfl ?_
      refine rl_getf (pc := 48) R dX8_sheet_48 fkX8_25 (A0 g) rfl ?_
      refine rl_bipush (pc := 51) R dX8_sheet_51 bc_28 ?_
      refine rl_iload_n (pc := 53) R dX8_sheet_53 rfl ?_
      refine rl_imul (pc := 54) R dX8_sheet_54 ?_
      rw [e28]
      refine rl_iload (pc := 55) R dX8_sheet_55 rfl ?_
      refine rl_iadd (pc := 57) R dX8_sheet_57 ?_
      rw [nI_add]
      refine rl_iconst (pc := 58) R dX8_sheet_58 ic_0 ?_
      refine rl_iast (pc := 59) R dX8_sheet_59 (A6 g) rfl (by omega) (by decide) ?_
      rw [List.set_set]
      refine rl_iinc (pc := 60) R dX8_sheet_60 rfl (ii_n i) rfl ?_
      show K _ [_, _, _, _, _] _ _
      refine rl_goto (pc := 63) (tgt := 40) R dX8_sheet_63 rfl (ih (i + 1) _ (by omega) (by rw [← hg]; rfl))
  refine rl_iload_n (pc := 0) R dX8_sheet_0 rfl ?_
  refine rl_iload_n (pc := 1) R dX8_sheet_1 rfl ?_
  refine rl_S2 (pc := 2) RS dX8_sheet_2 lkX8_168 (Nat.le_of_ble_eq_true rfl) (bs_X8_isSheet) ?_
  refine rl_if_eq (pc := 5) (tgt := 14) R dX8_sheet_5 rfl (fun c5 => absurd c5 (by rw [hok]; decide)) (fun c5 => ?_)
  refine rl_iload_n (pc := 8) R dX8_sheet_8 rfl ?_
  refine rl_bipush (pc := 9) R dX8_sheet_9 bc_28 ?_
  refine rl_icmp_le (pc := 11) (tgt := 16) R dX8_sheet_11 rfl (fun c11 => ?_) (fun c11 => absurd (hk2) c11)
  refine rl_iload_n (pc := 16) R dX8_sheet_16 rfl ?_
  refine rl_if_ge (pc := 17) (tgt := 23) R dX8_sheet_17 rfl (fun c17 => ?_) (fun c17 => absurd (hk) c17)
  refine rl_aload_n (pc := 23) R dX8_sheet_23 rfl ?_
  refine rl_getf (pc := 24) R dX8_sheet_24 fkX8_19 (by first | assumption | rfl) rfl ?_
  refine rl_iload_n (pc := 27) R dX8_sheet_27 rfl ?_
  refine rl_iload_n (pc := 28) R dX8_sheet_28 rfl ?_
  refine rl_iast (pc := 29) R dX8_sheet_29 m4 rfl hq (by decide) ?_
  refine rl_aload_n (pc := 30) R dX8_sheet_30 rfl ?_
  refine rl_getf (pc := 31) R dX8_sheet_31 fkX8_22 (m0_oth m0 (by decide)) rfl ?_
  refine rl_iload_n (pc := 34) R dX8_sheet_34 rfl ?_
  refine rl_iload_n (pc := 35) R dX8_sheet_35 rfl ?_
  refine rl_iast (pc := 36) R dX8_sheet_36 A4 rfl hq (by decide) ?_
  refine rl_iconst (pc := 37) R dX8_sheet_37 ic_0 ?_
  refine rl_istore (pc := 38) R dX8_sheet_38 (Nat.le_of_ble_eq_true rfl) rfl ?_
  show K _ [_, _, _, _, _] _ _
  have e0 := loop 28 0 im rfl rfl
  rw [List.set_getElem?_self' B6] at e0
  exact e0
theorem bs_X8_drop_bad {s : Int32} (hok : isW s 0 3 = false) : BS (d + 3) false yX8_drop [.ref 0, .int s] h (some (.int (-1))) h := by
  refine bs_of mtX8_drop rfl (Nat.le_of_ble_eq_true rfl) (fun K R RV RS E => ?_)
  show K 0 [_, _, _] [] _
  refine rl_iload_n (pc := 0) R dX8_drop_0 rfl ?_
  refine rl_i2l (pc := 1) R dX8_drop_1 ?_
  refine rl_lconst (pc := 2) R dX8_drop_2 lc_0 ?_
  refine rl_ldc2 (pc := 3) R dX8_drop_3 kdX8_62 ?_
  refine rl_S3 (pc := 6) RS dX8_drop_6 lkX8_40 (Nat.le_of_ble_eq_true rfl) (bs_X8_inW (v := s) (x := 0) (y := 3) rfl rfl rfl) ?_
  refine rl_if_ne (pc := 9) (tgt := 14) R dX8_drop_9 rfl (fun c9 => absurd (by rw [hok]; rfl) c9) (fun c9 => ?_)
  refine rl_iconst (pc := 12) R dX8_drop_12 ic_m1 ?_
  exact rl_ireturn (pc := 13) E dX8_drop_13 rfl rfl (rfl)
theorem bs_X8_drop {q : Nat} (m0 : h[0]? = some (mO ik td at_ sz rd)) (m4 : h[4]? = some (hI 4 zf)) (hq : q < 4) (hok : isW (nI q) 0 3 = true) : BS (d + 3) false yX8_drop [.ref 0, .int (nI q)] h (some (.int (if zf q < 0 then -11 else zf q))) (if zf q < 0 then h else h.set 4 (hI 4 (upd zf q (-1)))) := by
  by_cases hz : zf q < 0
  · simp only [if_pos hz]
    refine bs_of mtX8_drop rfl (Nat.le_of_ble_eq_true rfl) (fun K R RV RS E => ?_)
    show K 0 [_, _, _] [] _
    refine rl_iload_n (pc := 0) R dX8_drop_0 rfl ?_
    refine rl_i2l (pc := 1) R dX8_drop_1 ?_
    refine rl_lconst (pc := 2) R dX8_drop_2 lc_0 ?_
    refine rl_ldc2 (pc := 3) R dX8_drop_3 kdX8_62 ?_
    refine rl_S3 (pc := 6) RS dX8_drop_6 lkX8_40 (Nat.le_of_ble_eq_true rfl) (bs_X8_inW (v := nI q) (x := 0) (y := 3) rfl rfl rfl) ?_
    refine rl_if_ne (pc := 9) (tgt := 14) R dX8_drop_9 rfl (fun c9 => ?_) (fun c9 => absurd c9 (by rw [hok]; decide))
    refine rl_aload_n (pc := 14) R dX8_drop_14 rfl ?_
    refine rl_getf (pc := 15) R dX8_drop_15 fkX8_19 (by first | assumption | rfl) rfl ?_
    refine rl_iload_n (pc := 18) R dX8_drop_18 rfl ?_
    refine rl_iald (pc := 19) R dX8_drop_19 m4 rfl hq (by decide) ?_
    refine rl_if_ge (pc := 20) (tgt := 26) R dX8_drop_20 rfl (fun c20 => absurd c20 (Int32.not_le.mpr hz)) (fun c20 => ?_)
    refine rl_bipush (pc := 23) R dX8_drop_23 bc_m11 ?_
    exact rl_ireturn (pc := 25) E dX8_drop_25 rfl rfl (rfl)
  · simp only [if_neg hz]
    refine bs_of mtX8_drop rfl (Nat.le_of_ble_eq_true rfl) (fun K R RV RS E => ?_)
    show K 0 [_, _, _] [] _
    refine rl_iload_n (pc := 0) R dX8_drop_0 rfl ?_
    refine rl_i2l (pc := 1) R dX8_drop_1 ?_
    refine rl_lconst (pc := 2) R dX8_drop_2 lc_0 ?_
    refine rl_ldc2 (pc := 3) R dX8_drop_3 kdX8_62 ?_
    refine rl_S3 (pc := 6) RS dX8_drop_6 lkX8_40 (Nat.le_of_ble_eq_true rfl) (bs_X8_inW (v := nI q) (x := 0) (y := 3) rfl rfl rfl) ?_
    refine rl_if_ne (pc := 9) (tgt := 14) R dX8_drop_9 rfl (fun c9 => ?_) (fun c9 => absurd c9 (by rw [hok]; decide))
    refine rl_aload_n (pc := 14) R dX8_drop_14 rfl ?_
    refine rl_getf (pc := 15) R dX8_drop_15 fkX8_19 (by first | assumption | rfl) rfl ?_
    refine rl_iload_n (pc := 18) R dX8_drop_18 rfl ?_
    refine rl_iald (pc := 19) R dX8_drop_19 m4 rfl hq (by decide) ?_
    refine rl_if_ge (pc := 20) (tgt := 26) R dX8_drop_20 rfl (fun c20 => ?_) (fun c20 => absurd (Int32.not_lt.mp hz) c20)
    refine rl_aload_n (pc := 26) R dX8_drop_26 rfl ?_
    refine rl_getf (pc := 27) R dX8_drop_27 fkX8_19 (by first | assumption | rfl) rfl ?_
    refine rl_iload_n (pc := 30) R dX8_drop_30 rfl ?_
    refine rl_iald (pc := 31) R dX8_drop_31 m4 rfl hq (by decide) ?_
    refine rl_istore_n (pc := 32) R dX8_drop_32 (Nat.le_of_ble_eq_true rfl) rfl ?_
    show K _ [_, _, _] _ _
    refine rl_aload_n (pc := 33) R dX8_drop_33 rfl ?_
    refine rl_getf (pc := 34) R dX8_drop_34 fkX8_19 (by first | assumption | rfl) rfl ?_
    refine rl_iload_n (pc := 37) R dX8_drop_37 rfl ?_
    refine rl_iconst (pc := 38) R dX8_drop_38 ic_m1 ?_
    refine rl_iast (pc := 39) R dX8_drop_39 m4 rfl hq (by decide) ?_
    refine rl_iload_n (pc := 40) R dX8_drop_40 rfl ?_
    exact rl_ireturn (pc := 41) E dX8_drop_41 rfl rfl (rfl)
theorem bs_X8_item_bad {s l k v : Int32} (hok : (isW s 0 3 && isW l 0 2) = false) : BS (d + 3) false yX8_item [.ref 0, .int s, .int l, .int k, .int v] h (some (.int (-1))) h := by
  refine bs_of mtX8_item rfl (Nat.le_of_ble_eq_true rfl) (fun K R RV RS E => ?_)
  show K 0 [_, _, _, _, _, _] [] _
  refine rl_iload_n (pc := 0) R dX8_item_0 rfl ?_
  refine rl_iload_n (pc := 1) R dX8_item_1 rfl ?_
  refine rl_S2 (pc := 2) RS dX8_item_2 lkX8_168 (Nat.le_of_ble_eq_true rfl) (bs_X8_isSheet) ?_
  refine rl_if_ne (pc := 5) (tgt := 10) R dX8_item_5 rfl (fun c5 => absurd (by rw [hok]; rfl) c5) (fun c5 => ?_)
  refine rl_iconst (pc := 8) R dX8_item_8 ic_m1 ?_
  exact rl_ireturn (pc := 9) E dX8_item_9 rfl rfl (rfl)
theorem bs_X8_item_ref {q : Nat} {l k v : Int32} (m0 : h[0]? = some (mO ik td at_ sz rd)) (m4 : h[4]? = some (hI 4 zf)) (m5 : h[5]? = some (hI 4 lf)) (hq : q < 4) (hok : (isW (nI q) 0 3 && isW l 0 2) = true) (hz : fdM (zf q) (lf q) l k 1 < 0) : BS (d + 3) false yX8_item [.ref 0, .int (nI q), .int l, .int k, .int v] h (some (.int (fdM (zf q) (lf q) l k 1))) h := by
  refine bs_of mtX8_item rfl (Nat.le_of_ble_eq_true rfl) (fun K R RV RS E => ?_)
  show K 0 [_, _, _, _, _, _] [] _
  refine rl_iload_n (pc := 0) R dX8_item_0 rfl ?_
  refine rl_iload_n (pc := 1) R dX8_item_1 rfl ?_
  refine rl_S2 (pc := 2) RS dX8_item_2 lkX8_168 (Nat.le_of_ble_eq_true rfl) (bs_X8_isSheet) ?_
  refine rl_if_ne (pc := 5) (tgt := 10) R dX8_item_5 rfl (fun c5 => ?_) (fun c5 => absurd c5 (by rw [hok]; decide))
  refine rl_aload_n (pc := 10) R dX8_item_10 rfl ?_
  refine rl_iload_n (pc := 11) R dX8_item_11 rfl ?_
  refine rl_iload_n (pc := 12) R dX8_item_12 rfl ?_
  refine rl_iload_n (pc := 13) R dX8_item_13 rfl ?_
  refine rl_iconst (pc := 14) R dX8_item_14 ic_1 ?_
  refine rl_V4 (pc := 15) RV dX8_item_15 lkX8_171 m0 rfl (Nat.le_of_ble_eq_true rfl) (bs_X8_found m0 m4 m5 hq) ?_
  refine rl_istore (pc := 18) R dX8_item_18 (Nat.le_of_ble_eq_true rfl) rfl ?_
  show K _ [_, _, _, _, _, _] _ _
  refine rl_iload (pc := 20) R dX8_item_20 rfl ?_
  refine rl_if_ge (pc := 22) (tgt := 28) R dX8_item_22 rfl (fun c22 => absurd c22 (Int32.not_le.mpr hz)) (fun c22 => ?_)
  refine rl_iload (pc := 25) R dX8_item_25 rfl ?_
  exact rl_ireturn (pc := 27) E dX8_item_27 rfl rfl (rfl)
theorem bs_X8_item {q k : Nat} {l v : Int32} (m0 : h[0]? = some (mO ik td at_ sz rd)) (m4 : h[4]? = some (hI 4 zf)) (m5 : h[5]? = some (hI 4 lf)) (m6 : h[6]? = some (hI 112 im)) (hq : q < 4) (hok : (isW (nI q) 0 3 && isW l 0 2) = true) (hz : ¬ fdM (zf q) (lf q) l (nI k) 1 < 0) (hk : k < 28) : BS (d + 3) false yX8_item [.ref 0, .int (nI q), .int l, .int (nI k), .int v] h (some (.int 1)) (h.set 6 (hI 112 (upd im (28 * q + k) (nrw l v)))) := by
  have e28 : (28 : Int32) * nI q = nI (28 * q) := pk_mul 28 q
  refine bs_of mtX8_item rfl (Nat.le_of_ble_eq_true rfl) (fun K R RV RS E => ?_)
  show K 0 [_, _, _, _, _, _] [] _
  have fin : ∀ y : Int32, y = nrw l v → K 61 [some (.ref 0), some (.int (nI q)), some (.int l), some (.int (nI k)), some (.int v), some (.int (fdM (zf q) (lf q) l (nI k) 1))] [.int y, .int (nI (28 * q + k)), .ref 6] h := by
    intro y hy
    subst hy
    refine rl_iast (pc := 61) R dX8_item_61 m6 rfl (by omega) (by decide) ?_
    refine rl_iconst (pc := 62) R dX8_item_62 ic_1 ?_
    exact rl_ireturn (pc := 63) E dX8_item_63 rfl rfl (rfl)
  refine rl_iload_n (pc := 0) R dX8_item_0 rfl ?_
  refine rl_iload_n (pc := 1) R dX8_item_1 rfl ?_
  refine rl_S2 (pc := 2) RS dX8_item_2 lkX8_168 (Nat.le_of_ble_eq_true rfl) (bs_X8_isSheet) ?_
  refine rl_if_ne (pc := 5) (tgt := 10) R dX8_item_5 rfl (fun c5 => ?_) (fun c5 => absurd c5 (by rw [hok]; decide))
  refine rl_aload_n (pc := 10) R dX8_item_10 rfl ?_
  refine rl_iload_n (pc := 11) R dX8_item_11 rfl ?_
  refine rl_iload_n (pc := 12) R dX8_item_12 rfl ?_
  refine rl_iload_n (pc := 13) R dX8_item_13 rfl ?_
  refine rl_iconst (pc := 14) R dX8_item_14 ic_1 ?_
  refine rl_V4 (pc := 15) RV dX8_item_15 lkX8_171 m0 rfl (Nat.le_of_ble_eq_true rfl) (bs_X8_found m0 m4 m5 hq) ?_
  refine rl_istore (pc := 18) R dX8_item_18 (Nat.le_of_ble_eq_true rfl) rfl ?_
  show K _ [_, _, _, _, _, _] _ _
  refine rl_iload (pc := 20) R dX8_item_20 rfl ?_
  refine rl_if_ge (pc := 22) (tgt := 28) R dX8_item_22 rfl (fun c22 => ?_) (fun c22 => absurd (Int32.not_lt.mp hz) c22)
  refine rl_aload_n (pc := 28) R dX8_item_28 rfl ?_
  refine rl_getf (pc := 29) R dX8_item_29 fkX8_25 (by first | assumption | rfl) rfl ?_
  refine rl_bipush (pc := 32) R dX8_item_32 bc_28 ?_
  refine rl_iload_n (pc := 34) R dX8_item_34 rfl ?_
  refine rl_imul (pc := 35) R dX8_item_35 ?_
  rw [e28]
  refine rl_iload_n (pc := 36) R dX8_item_36 rfl ?_
  refine rl_iadd (pc := 37) R dX8_item_37 ?_
  rw [nI_add]
  refine rl_iload_n (pc := 38) R dX8_item_38 rfl ?_
  refine rl_if_ne (pc := 39) (tgt := 48) R dX8_item_39 rfl (fun c39 => ?_) (fun c39 => ?_)
  · refine rl_iload_n (pc := 48) R dX8_item_48 rfl ?_
    refine rl_iconst (pc := 49) R dX8_item_49 ic_1 ?_
    refine rl_icmp_ne (pc := 50) (tgt := 59) R dX8_item_50 rfl (fun c50 => ?_) (fun c50 => ?_)
    · refine rl_iload (pc := 59) R dX8_item_59 rfl ?_
      first | exact fin _ (by rw [nrw, if_pos c39]) | exact fin _ (by rw [nrw, if_neg c39, if_pos c50]) | exact fin _ (by rw [nrw, if_neg c39, if_neg c50])
    · refine rl_iload (pc := 53) R dX8_item_53 rfl ?_
      refine rl_i2s (pc := 55) R dX8_item_55 ?_
      refine rl_goto (pc := 56) (tgt := 61) R dX8_item_56 rfl ?_
      first | exact fin _ (by rw [nrw, if_pos c39]) | exact fin _ (by rw [nrw, if_neg c39, if_pos c50]) | exact fin _ (by rw [nrw, if_neg c39, if_neg c50])
  · refine rl_iload (pc := 42) R dX8_item_42 rfl ?_
    refine rl_i2b (pc := 44) R dX8_item_44 ?_
    refine rl_goto (pc := 45) (tgt := 61) R dX8_item_45 rfl ?_
    first | exact fin _ (by rw [nrw, if_pos c39]) | exact fin _ (by rw [nrw, if_neg c39, if_pos c50]) | exact fin _ (by rw [nrw, if_neg c39, if_neg c50])
theorem bs_X8_judged_bad {s l p k : Int32} (hok : ((isW s 0 3 && isW l 0 2) && isW k 0 9) = false) : BS (d + 4) false yX8_judged [.ref 0, .int s, .int l, .int p, .int k] h (some (.int (-100000001))) h := by
  refine bs_of mtX8_judged rfl (Nat.le_of_ble_eq_true rfl) (fun K R RV RS E => ?_)
  show K 0 [_, _, _, _, _, _, _, _, _, _] [] _
  refine rl_iload_n (pc := 0) R dX8_judged_0 rfl ?_
  refine rl_iload_n (pc := 1) R dX8_judged_1 rfl ?_
  refine rl_S2 (pc := 2) RS dX8_judged_2 lkX8_168 (Nat.le_of_ble_eq_true rfl) (bs_X8_isSheet) ?_
  refine rl_if_eq (pc := 5) (tgt := 21) R dX8_judged_5 rfl (fun c5 => ?_) (fun c5 => ?_)
  · rw [bI_0] at c5
    refine rl_ldc (pc := 21) R dX8_judged_21 kcX8_128 ?_
    exact rl_ireturn (pc := 23) E dX8_judged_23 rfl rfl (rfl)
  · rw [bI_n0] at c5
    refine rl_iload (pc := 8) R dX8_judged_8 rfl ?_
    refine rl_i2l (pc := 10) R dX8_judged_10 ?_
    refine rl_lconst (pc := 11) R dX8_judged_11 lc_0 ?_
    refine rl_ldc2 (pc := 12) R dX8_judged_12 kdX8_60 ?_
    refine rl_S3 (pc := 15) RS dX8_judged_15 lkX8_40 (Nat.le_of_ble_eq_true rfl) (bs_X8_inW (v := k) (x := 0) (y := 9) rfl rfl rfl) ?_
    refine rl_if_ne (pc := 18) (tgt := 24) R dX8_judged_18 rfl (fun c18 => ?_) (fun c18 => ?_)
    · exact absurd hok (by rw [bI_n0] at c18; rw [c5, c18]; decide)
    · refine rl_ldc (pc := 21) R dX8_judged_21 kcX8_128 ?_
      exact rl_ireturn (pc := 23) E dX8_judged_23 rfl rfl (rfl)
theorem bs_X8_judged_ref {q : Nat} {l p k : Int32} (m0 : h[0]? = some (mO ik td at_ sz rd)) (m4 : h[4]? = some (hI 4 zf)) (m5 : h[5]? = some (hI 4 lf)) (hq : q < 4) (hok : ((isW (nI q) 0 3 && isW l 0 2) && isW k 0 9) = true) (hz : fdM (zf q) (lf q) l p k < 0) : BS (d + 4) false yX8_judged [.ref 0, .int (nI q), .int l, .int p, .int k] h (some (.int (fdM (zf q) (lf q) l p k - 100000000))) h := by
  rw [Bool.and_eq_true] at hok
  refine bs_of mtX8_judged rfl (Nat.le_of_ble_eq_true rfl) (fun K R RV RS E => ?_)
  show K 0 [_, _, _, _, _, _, _, _, _, _] [] _
  refine rl_iload_n (pc := 0) R dX8_judged_0 rfl ?_
  refine rl_iload_n (pc := 1) R dX8_judged_1 rfl ?_
  refine rl_S2 (pc := 2) RS dX8_judged_2 lkX8_168 (Nat.le_of_ble_eq_true rfl) (bs_X8_isSheet) ?_
  refine rl_if_eq (pc := 5) (tgt := 21) R dX8_judged_5 rfl (fun c5 => absurd c5 (by rw [hok.1]; decide)) (fun c5 => ?_)
  refine rl_iload (pc := 8) R dX8_judged_8 rfl ?_
  refine rl_i2l (pc := 10) R dX8_judged_10 ?_
  refine rl_lconst (pc := 11) R dX8_judged_11 lc_0 ?_
  refine rl_ldc2 (pc := 12) R dX8_judged_12 kdX8_60 ?_
  refine rl_S3 (pc := 15) RS dX8_judged_15 lkX8_40 (Nat.le_of_ble_eq_true rfl) (bs_X8_inW (v := k) (x := 0) (y := 9) rfl rfl rfl) ?_
  refine rl_if_ne (pc := 18) (tgt := 24) R dX8_judged_18 rfl (fun c18 => ?_) (fun c18 => absurd c18 (by rw [hok.2]; decide))
  refine rl_aload_n (pc := 24) R dX8_judged_24 rfl ?_
  refine rl_iload_n (pc := 25) R dX8_judged_25 rfl ?_
  refine rl_iload_n (pc := 26) R dX8_judged_26 rfl ?_
  refine rl_iload_n (pc := 27) R dX8_judged_27 rfl ?_
  refine rl_iload (pc := 28) R dX8_judged_28 rfl ?_
  refine rl_V4 (pc := 30) RV dX8_judged_30 lkX8_171 m0 rfl (Nat.le_of_ble_eq_true rfl) (bs_X8_found m0 m4 m5 hq) ?_
  refine rl_istore (pc := 33) R dX8_judged_33 (Nat.le_of_ble_eq_true rfl) rfl ?_
  show K _ [_, _, _, _, _, _, _, _, _, _] _ _
  refine rl_iload (pc := 35) R dX8_judged_35 rfl ?_
  refine rl_if_ge (pc := 37) (tgt := 46) R dX8_judged_37 rfl (fun c37 => absurd c37 (Int32.not_le.mpr hz)) (fun c37 => ?_)
  refine rl_iload (pc := 40) R dX8_judged_40 rfl ?_
  refine rl_ldc (pc := 42) R dX8_judged_42 kcX8_174 ?_
  refine rl_isub (pc := 44) R dX8_judged_44 ?_
  exact rl_ireturn (pc := 45) E dX8_judged_45 rfl rfl (rfl)
theorem bs_X8_judged {q p k : Nat} {l : Int32} (m0 : h[0]? = some (mO ik td at_ sz rd)) (hN : rN h n nw wo co se a) (m4 : h[4]? = some (hI 4 zf)) (m5 : h[5]? = some (hI 4 lf)) (m6 : h[6]? = some (hI 112 im)) (hq : q < 4) (hok : ((isW (nI q) 0 3 && isW l 0 2) && isW (nI k) 0 9) = true) (hz : ¬ fdM (zf q) (lf q) l (nI p) (nI k) < 0) (hp : p + k ≤ 28) : BS (d + 4) false yX8_judged [.ref 0, .int (nI q), .int l, .int (nI p), .int (nI k)] h
    (some (.int (match jdM im n (28 * q + p) k 0 0 with | some s => if wrM (se 1) s nw n 0 (se 0) = -4 then gnM n nw wo co (se 2) s n 0 (se 0) 0 else -100000002 | none => -100000002))) h := by
  have e28 : (28 : Int32) * nI q = nI (28 * q) := pk_mul 28 q
  rw [Bool.and_eq_true] at hok
  refine bs_of mtX8_judged rfl (Nat.le_of_ble_eq_true rfl) (fun K R RV RS E => ?_)
  show K 0 [_, _, _, _, _, _, _, _, _, _] [] _
  have loop : ∀ (j i : Nat) (s : Int32) (z9 : Option Value), i + j = k → jdM im n (28 * q + p) j i s = jdM im n (28 * q + p) k 0 0 → K 55 [some (.ref 0), some (.int (nI q)), some (.int l), some (.int (nI p)), some (.int (nI k)), some (.int (fdM (zf q) (lf q) l (nI p) (nI k))), some (.int s), some (.int 1), some (.int (nI i)), z9] [] h := by
    intro j
    induction j with
    | zero =>
      intro i s z9 hi hs
      have hs2 : jdM im n (28 * q + p) k 0 0 = some s := hs.symm
      simp only [hs2] at E
      refine rl_iload (pc := 55) R dX8_judged_55 rfl ?_
      refine rl_iload (pc := 57) R dX8_judged_57 rfl ?_
      refine rl_icmp_ge (pc := 59) (tgt := 131) R dX8_judged_59 rfl (fun c59 => ?_) (fun c59 => absurd (nI_le (by omega) (by omega)) c59)
      refine rl_iload (pc := 131) R dX8_judged_131 rfl ?_
      refine rl_if_eq (pc := 133) (tgt := 156) R dX8_judged_133 rfl (fun c133 => absurd c133 (by decide)) (fun c133 => ?_)
      refine rl_aload_n (pc := 136) R dX8_judged_136 rfl ?_
      refine rl_iload (pc := 137) R dX8_judged_137 rfl ?_
      refine rl_V1 (pc := 139) RV dX8_judged_139 lkX8_119 m0 rfl (Nat.le_of_ble_eq_true rfl) (bs_X8_wrongIn m0 hN) ?_
      refine rl_bipush (pc := 142) R dX8_judged_142 bc_m4 ?_
      refine rl_icmp_ne (pc := 144) (tgt := 156) R dX8_judged_144 rfl (fun c144 => ?_) (fun c144 => ?_)
      · refine rl_ldc (pc := 156) R dX8_judged_156 kcX8_129 ?_
        exact rl_ireturn (pc := 158) E dX8_judged_158 rfl rfl (e_si (by first | exact if_neg c144 | exact if_pos c144))
      · refine rl_aload_n (pc := 147) R dX8_judged_147 rfl ?_
        refine rl_iload (pc := 148) R dX8_judged_148 rfl ?_
        refine rl_V1 (pc := 150) RV dX8_judged_150 lkX8_130 m0 rfl (Nat.le_of_ble_eq_true rfl) (bs_X8_gainOf m0 hN) ?_
        refine rl_goto (pc := 153) (tgt := 158) R dX8_judged_153 rfl ?_
        exact rl_ireturn (pc := 158) E dX8_judged_158 rfl rfl (e_si (by first | exact if_neg c144 | exact if_pos c144))
    | succ j ih =>
      intro i s z9 hi hs
      have bad : (isW (im (28 * q + p + i)) 0 (nI n - 1) && decide (s >>> (im (28 * q + p + i) &&& 31) = 0)) = false → K 104 [some (.ref 0), some (.int (nI q)), some (.int l), some (.int (nI p)), some (.int (nI k)), some (.int (fdM (zf q) (lf q) l (nI p) (nI k))), some (.int s), some (.int 1), some (.int (nI i)), some (.int (im (28 * q + p + i)))] [] h := by
        intro hb
        have hs2 : jdM im n (28 * q + p) k 0 0 = none := by rw [← hs, jdM, hb]; rfl
        simp only [hs2] at E
        by_cases hlast : nI k ≤ nI (i + 1)
        · refine rl_iconst (pc := 104) R dX8_judged_104 ic_0 ?_
          refine rl_istore (pc := 105) R dX8_judged_105 (Nat.le_of_ble_eq_true rfl) rfl ?_
          show K _ [_, _, _, _, _, _, _, _, _, _] _ _
          refine rl_iload (pc := 107) R dX8_judged_107 rfl ?_
          refine rl_iload (pc := 109) R dX8_judged_109 rfl ?_
          refine rl_if_eq (pc := 111) (tgt := 121) R dX8_judged_111 rfl (fun c111 => ?_) (fun c111 => absurd (rfl) c111)
          refine rl_iconst (pc := 121) R dX8_judged_121 ic_0 ?_
          refine rl_ior (pc := 122) R dX8_judged_122 ?_
          refine rl_istore (pc := 123) R dX8_judged_123 (Nat.le_of_ble_eq_true rfl) rfl ?_
          show K _ [_, _, _, _, _, _, _, _, _, _] _ _
          refine rl_iinc (pc := 125) R dX8_judged_125 rfl (ii_n i) rfl ?_
          show K _ [_, _, _, _, _, _, _, _, _, _] _ _
          refine rl_goto (pc := 128) (tgt := 55) R dX8_judged_128 rfl ?_
          refine rl_iload (pc := 55) R dX8_judged_55 rfl ?_
          refine rl_iload (pc := 57) R dX8_judged_57 rfl ?_
          refine rl_icmp_ge (pc := 59) (tgt := 131) R dX8_judged_59 rfl (fun c59 => ?_) (fun c59 => absurd (hlast) c59)
          refine rl_iload (pc := 131) R dX8_judged_131 rfl ?_
          refine rl_if_eq (pc := 133) (tgt := 156) R dX8_judged_133 rfl (fun c133 => ?_) (fun c133 => absurd (rfl) c133)
          refine rl_ldc (pc := 156) R dX8_judged_156 kcX8_129 ?_
          exact rl_ireturn (pc := 158) E dX8_judged_158 rfl rfl (rfl)
        · refine rl_iconst (pc := 104) R dX8_judged_104 ic_0 ?_
          refine rl_istore (pc := 105) R dX8_judged_105 (Nat.le_of_ble_eq_true rfl) rfl ?_
          show K _ [_, _, _, _, _, _, _, _, _, _] _ _
          refine rl_iload (pc := 107) R dX8_judged_107 rfl ?_
          refine rl_iload (pc := 109) R dX8_judged_109 rfl ?_
          refine rl_if_eq (pc := 111) (tgt := 121) R dX8_judged_111 rfl (fun c111 => ?_) (fun c111 => absurd (rfl) c111)
          refine rl_iconst (pc := 121) R dX8_judged_121 ic_0 ?_
          refine rl_ior (pc := 122) R dX8_judged_122 ?_
          refine rl_istore (pc := 123) R dX8_judged_123 (Nat.le_of_ble_eq_true rfl) rfl ?_
          show K _ [_, _, _, _, _, _, _, _, _, _] _ _
          refine rl_iinc (pc := 125) R dX8_judged_125 rfl (ii_n i) rfl ?_
          show K _ [_, _, _, _, _, _, _, _, _, _] _ _
          refine rl_goto (pc := 128) (tgt := 55) R dX8_judged_128 rfl ?_
          refine rl_iload (pc := 55) R dX8_judged_55 rfl ?_
          refine rl_iload (pc := 57) R dX8_judged_57 rfl ?_
          refine rl_icmp_ge (pc := 59) (tgt := 131) R dX8_judged_59 rfl (fun c59 => absurd c59 (hlast)) (fun c59 => ?_)
          refine rl_iload (pc := 62) R dX8_judged_62 rfl ?_
          refine rl_if_eq (pc := 64) (tgt := 131) R dX8_judged_64 rfl (fun c64 => ?_) (fun c64 => absurd (rfl) c64)
          refine rl_iload (pc := 131) R dX8_judged_131 rfl ?_
          refine rl_if_eq (pc := 133) (tgt := 156) R dX8_judged_133 rfl (fun c133 => ?_) (fun c133 => absurd (rfl) c133)
          refine rl_ldc (pc := 156) R dX8_judged_156 kcX8_129 ?_
          exact rl_ireturn (pc := 158) E dX8_judged_158 rfl rfl (rfl)
      refine rl_iload (pc := 55) R dX8_judged_55 rfl ?_
      refine rl_iload (pc := 57) R dX8_judged_57 rfl ?_
      refine rl_icmp_ge (pc := 59) (tgt := 131) R dX8_judged_59 rfl (fun c59 => absurd c59 (nI_ge (by omega) (by omega))) (fun c59 => ?_)
      refine rl_iload (pc := 62) R dX8_judged_62 rfl ?_
      refine rl_if_eq (pc := 64) (tgt := 131) R dX8_judged_64 rfl (fun c64 => absurd c64 (by decide)) (fun c64 => ?_)
      refine rl_aload_n (pc := 67) R dX8_judged_67 rfl ?_
      refine rl_getf (pc := 68) R dX8_judged_68 fkX8_25 (by first | assumption | rfl) rfl ?_
      refine rl_bipush (pc := 71) R dX8_judged_71 bc_28 ?_
      refine rl_iload_n (pc := 73) R dX8_judged_73 rfl ?_
      refine rl_imul (pc := 74) R dX8_judged_74 ?_
      rw [e28]
      refine rl_iload_n (pc := 75) R dX8_judged_75 rfl ?_
      refine rl_iadd (pc := 76) R dX8_judged_76 ?_
      rw [nI_add]
      refine rl_iload (pc := 77) R dX8_judged_77 rfl ?_
      refine rl_iadd (pc := 79) R dX8_judged_79 ?_
      rw [nI_add]
      refine rl_iald (pc := 80) R dX8_judged_80 m6 rfl (by omega) (by decide) ?_
      refine rl_istore (pc := 81) R dX8_judged_81 (Nat.le_of_ble_eq_true rfl) rfl ?_
      show K _ [_, _, _, _, _, _, _, _, _, _] _ _
      refine rl_aload_n (pc := 83) R dX8_judged_83 rfl ?_
      refine rl_iload (pc := 84) R dX8_judged_84 rfl ?_
      refine rl_V1 (pc := 86) RV dX8_judged_86 lkX8_48 m0 rfl (Nat.le_of_ble_eq_true rfl) (bs_X8_isDay m0 hN) ?_
      refine rl_if_eq (pc := 89) (tgt := 104) R dX8_judged_89 rfl (fun c89 => ?_) (fun c89 => ?_)
      · rw [bI_0] at c89
        first | exact bad (by rw [c89]; rfl) | exact bad (by rw [c89, decide_eq_false c97]; rfl)
      · rw [bI_n0] at c89
        refine rl_iload (pc := 92) R dX8_judged_92 rfl ?_
        refine rl_iload (pc := 94) R dX8_judged_94 rfl ?_
        refine rl_ishr (pc := 96) R dX8_judged_96 ?_
        refine rl_if_ne (pc := 97) (tgt := 104) R dX8_judged_97 rfl (fun c97 => ?_) (fun c97 => ?_)
        · first | exact bad (by rw [c89]; rfl) | exact bad (by rw [c89, decide_eq_false c97]; rfl)
        · refine rl_iconst (pc := 100) R dX8_judged_100 ic_1 ?_
          refine rl_goto (pc := 101) (tgt := 105) R dX8_judged_101 rfl ?_
          refine rl_istore (pc := 105) R dX8_judged_105 (Nat.le_of_ble_eq_true rfl) rfl ?_
          show K _ [_, _, _, _, _, _, _, _, _, _] _ _
          refine rl_iload (pc := 107) R dX8_judged_107 rfl ?_
          refine rl_iload (pc := 109) R dX8_judged_109 rfl ?_
          refine rl_if_eq (pc := 111) (tgt := 121) R dX8_judged_111 rfl (fun c111 => absurd c111 (by decide)) (fun c111 => ?_)
          refine rl_iconst (pc := 114) R dX8_judged_114 ic_1 ?_
          refine rl_iload (pc := 115) R dX8_judged_115 rfl ?_
          refine rl_ishl (pc := 117) R dX8_judged_117 ?_
          refine rl_goto (pc := 118) (tgt := 122) R dX8_judged_118 rfl ?_
          refine rl_ior (pc := 122) R dX8_judged_122 ?_
          refine rl_istore (pc := 123) R dX8_judged_123 (Nat.le_of_ble_eq_true rfl) rfl ?_
          show K _ [_, _, _, _, _, _, _, _, _, _] _ _
          refine rl_iinc (pc := 125) R dX8_judged_125 rfl (ii_n i) rfl ?_
          show K _ [_, _, _, _, _, _, _, _, _, _] _ _
          refine rl_goto (pc := 128) (tgt := 55) R dX8_judged_128 rfl (ih (i + 1) _ _ (by omega) (by rw [← hs, jdM, c89, decide_eq_true c97]; rfl))
  refine rl_iload_n (pc := 0) R dX8_judged_0 rfl ?_
  refine rl_iload_n (pc := 1) R dX8_judged_1 rfl ?_
  refine rl_S2 (pc := 2) RS dX8_judged_2 lkX8_168 (Nat.le_of_ble_eq_true rfl) (bs_X8_isSheet) ?_
  refine rl_if_eq (pc := 5) (tgt := 21) R dX8_judged_5 rfl (fun c5 => absurd c5 (by rw [hok.1]; decide)) (fun c5 => ?_)
  refine rl_iload (pc := 8) R dX8_judged_8 rfl ?_
  refine rl_i2l (pc := 10) R dX8_judged_10 ?_
  refine rl_lconst (pc := 11) R dX8_judged_11 lc_0 ?_
  refine rl_ldc2 (pc := 12) R dX8_judged_12 kdX8_60 ?_
  refine rl_S3 (pc := 15) RS dX8_judged_15 lkX8_40 (Nat.le_of_ble_eq_true rfl) (bs_X8_inW (v := nI k) (x := 0) (y := 9) rfl rfl rfl) ?_
  refine rl_if_ne (pc := 18) (tgt := 24) R dX8_judged_18 rfl (fun c18 => ?_) (fun c18 => absurd c18 (by rw [hok.2]; decide))
  refine rl_aload_n (pc := 24) R dX8_judged_24 rfl ?_
  refine rl_iload_n (pc := 25) R dX8_judged_25 rfl ?_
  refine rl_iload_n (pc := 26) R dX8_judged_26 rfl ?_
  refine rl_iload_n (pc := 27) R dX8_judged_27 rfl ?_
  refine rl_iload (pc := 28) R dX8_judged_28 rfl ?_
  refine rl_V4 (pc := 30) RV dX8_judged_30 lkX8_171 m0 rfl (Nat.le_of_ble_eq_true rfl) (bs_X8_found m0 m4 m5 hq) ?_
  refine rl_istore (pc := 33) R dX8_judged_33 (Nat.le_of_ble_eq_true rfl) rfl ?_
  show K _ [_, _, _, _, _, _, _, _, _, _] _ _
  refine rl_iload (pc := 35) R dX8_judged_35 rfl ?_
  refine rl_if_ge (pc := 37) (tgt := 46) R dX8_judged_37 rfl (fun c37 => ?_) (fun c37 => absurd (Int32.not_lt.mp hz) c37)
  refine rl_iconst (pc := 46) R dX8_judged_46 ic_0 ?_
  refine rl_istore (pc := 47) R dX8_judged_47 (Nat.le_of_ble_eq_true rfl) rfl ?_
  show K _ [_, _, _, _, _, _, _, _, _, _] _ _
  refine rl_iconst (pc := 49) R dX8_judged_49 ic_1 ?_
  refine rl_istore (pc := 50) R dX8_judged_50 (Nat.le_of_ble_eq_true rfl) rfl ?_
  show K _ [_, _, _, _, _, _, _, _, _, _] _ _
  refine rl_iconst (pc := 52) R dX8_judged_52 ic_0 ?_
  refine rl_istore (pc := 53) R dX8_judged_53 (Nat.le_of_ble_eq_true rfl) rfl ?_
  show K _ [_, _, _, _, _, _, _, _, _, _] _ _
  exact loop k 0 0 none (by omega) rfl
theorem bs_X8_film_bad {s i l k : Int32} (m0 : h[0]? = some (mO ik td at_ sz rd)) (hN : rN h n nw wo co se a) (hok : (iSe n s && (isW i 0 3 && isW l 0 2)) = false) : BS (d + 4) false yX8_film [.ref 0, .int s, .int i, .int l, .int k] h (some (.int (-1))) h := by
  refine bs_of mtX8_film rfl (Nat.le_of_ble_eq_true rfl) (fun K R RV RS E => ?_)
  show K 0 [_, _, _, _, _, _, _, _] [] _
  refine rl_aload_n (pc := 0) R dX8_film_0 rfl ?_
  refine rl_iload_n (pc := 1) R dX8_film_1 rfl ?_
  refine rl_V1 (pc := 2) RV dX8_film_2 lkX8_109 m0 rfl (Nat.le_of_ble_eq_true rfl) (bs_X8_isSet m0 hN) ?_
  refine rl_if_eq (pc := 5) (tgt := 16) R dX8_film_5 rfl (fun c5 => ?_) (fun c5 => ?_)
  · rw [bI_0] at c5
    refine rl_iconst (pc := 16) R dX8_film_16 ic_m1 ?_
    exact rl_ireturn (pc := 17) E dX8_film_17 rfl rfl (rfl)
  · rw [bI_n0] at c5
    refine rl_iload_n (pc := 8) R dX8_film_8 rfl ?_
    refine rl_iload_n (pc := 9) R dX8_film_9 rfl ?_
    refine rl_S2 (pc := 10) RS dX8_film_10 lkX8_168 (Nat.le_of_ble_eq_true rfl) (bs_X8_isSheet) ?_
    refine rl_if_ne (pc := 13) (tgt := 18) R dX8_film_13 rfl (fun c13 => ?_) (fun c13 => ?_)
    · exact absurd hok (by rw [bI_n0] at c13; rw [c5, c13]; decide)
    · refine rl_iconst (pc := 16) R dX8_film_16 ic_m1 ?_
      exact rl_ireturn (pc := 17) E dX8_film_17 rfl rfl (rfl)
theorem bs_X8_film_not {s i l k : Int32} (m0 : h[0]? = some (mO ik td at_ sz rd)) (hN : rN h n nw wo co se a) (hok : (iSe n s && (isW i 0 3 && isW l 0 2)) = true) (hw : ¬ wrM (se 1) s nw n 0 (se 0) = -4) : BS (d + 4) false yX8_film [.ref 0, .int s, .int i, .int l, .int k] h (some (.int (-2))) h := by
  rw [Bool.and_eq_true] at hok
  refine bs_of mtX8_film rfl (Nat.le_of_ble_eq_true rfl) (fun K R RV RS E => ?_)
  show K 0 [_, _, _, _, _, _, _, _] [] _
  refine rl_aload_n (pc := 0) R dX8_film_0 rfl ?_
  refine rl_iload_n (pc := 1) R dX8_film_1 rfl ?_
  refine rl_V1 (pc := 2) RV dX8_film_2 lkX8_109 m0 rfl (Nat.le_of_ble_eq_true rfl) (bs_X8_isSet m0 hN) ?_
  refine rl_if_eq (pc := 5) (tgt := 16) R dX8_film_5 rfl (fun c5 => absurd c5 (by rw [hok.1]; decide)) (fun c5 => ?_)
  refine rl_iload_n (pc := 8) R dX8_film_8 rfl ?_
  refine rl_iload_n (pc := 9) R dX8_film_9 rfl ?_
  refine rl_S2 (pc := 10) RS dX8_film_10 lkX8_168 (Nat.le_of_ble_eq_true rfl) (bs_X8_isSheet) ?_
  refine rl_if_ne (pc := 13) (tgt := 18) R dX8_film_13 rfl (fun c13 => ?_) (fun c13 => absurd c13 (by rw [hok.2]; decide))
  refine rl_aload_n (pc := 18) R dX8_film_18 rfl ?_
  refine rl_iload_n (pc := 19) R dX8_film_19 rfl ?_
  refine rl_V1 (pc := 20) RV dX8_film_20 lkX8_119 m0 rfl (Nat.le_of_ble_eq_true rfl) (bs_X8_wrongIn m0 hN) ?_
  refine rl_bipush (pc := 23) R dX8_film_23 bc_m4 ?_
  refine rl_icmp_eq (pc := 25) (tgt := 31) R dX8_film_25 rfl (fun c25 => absurd c25 (hw)) (fun c25 => ?_)
  refine rl_bipush (pc := 28) R dX8_film_28 bc_m2 ?_
  exact rl_ireturn (pc := 30) E dX8_film_30 rfl rfl (rfl)
theorem bs_X8_film_ref {q : Nat} {s l k : Int32} (m0 : h[0]? = some (mO ik td at_ sz rd)) (hN : rN h n nw wo co se a) (m4 : h[4]? = some (hI 4 zf)) (m5 : h[5]? = some (hI 4 lf)) (hq : q < 4) (hok : (iSe n s && (isW (nI q) 0 3 && isW l 0 2)) = true) (hw : wrM (se 1) s nw n 0 (se 0) = -4) (hz : fdM (zf q) (lf q) l k (nI n) < 0) : BS (d + 4) false yX8_film [.ref 0, .int s, .int (nI q), .int l, .int k] h (some (.int (fdM (zf q) (lf q) l k (nI n)))) h := by
  have h4 := hN.2.2.1
  rw [Bool.and_eq_true] at hok
  refine bs_of mtX8_film rfl (Nat.le_of_ble_eq_true rfl) (fun K R RV RS E => ?_)
  show K 0 [_, _, _, _, _, _, _, _] [] _
  refine rl_aload_n (pc := 0) R dX8_film_0 rfl ?_
  refine rl_iload_n (pc := 1) R dX8_film_1 rfl ?_
  refine rl_V1 (pc := 2) RV dX8_film_2 lkX8_109 m0 rfl (Nat.le_of_ble_eq_true rfl) (bs_X8_isSet m0 hN) ?_
  refine rl_if_eq (pc := 5) (tgt := 16) R dX8_film_5 rfl (fun c5 => absurd c5 (by rw [hok.1]; decide)) (fun c5 => ?_)
  refine rl_iload_n (pc := 8) R dX8_film_8 rfl ?_
  refine rl_iload_n (pc := 9) R dX8_film_9 rfl ?_
  refine rl_S2 (pc := 10) RS dX8_film_10 lkX8_168 (Nat.le_of_ble_eq_true rfl) (bs_X8_isSheet) ?_
  refine rl_if_ne (pc := 13) (tgt := 18) R dX8_film_13 rfl (fun c13 => ?_) (fun c13 => absurd c13 (by rw [hok.2]; decide))
  refine rl_aload_n (pc := 18) R dX8_film_18 rfl ?_
  refine rl_iload_n (pc := 19) R dX8_film_19 rfl ?_
  refine rl_V1 (pc := 20) RV dX8_film_20 lkX8_119 m0 rfl (Nat.le_of_ble_eq_true rfl) (bs_X8_wrongIn m0 hN) ?_
  refine rl_bipush (pc := 23) R dX8_film_23 bc_m4 ?_
  refine rl_icmp_eq (pc := 25) (tgt := 31) R dX8_film_25 rfl (fun c25 => ?_) (fun c25 => absurd (hw) c25)
  refine rl_aload_n (pc := 31) R dX8_film_31 rfl ?_
  refine rl_iload_n (pc := 32) R dX8_film_32 rfl ?_
  refine rl_iload_n (pc := 33) R dX8_film_33 rfl ?_
  refine rl_iload (pc := 34) R dX8_film_34 rfl ?_
  refine rl_aload_n (pc := 36) R dX8_film_36 rfl ?_
  refine rl_getf (pc := 37) R dX8_film_37 fkX8_7 (by first | assumption | rfl) rfl ?_
  refine rl_iconst (pc := 40) R dX8_film_40 ic_4 ?_
  refine rl_iald (pc := 41) R dX8_film_41 hN.1 (rfl : (4 : Int32) = nI 4) (by decide) (by decide) ?_
  rw [h4]
  refine rl_V4 (pc := 42) RV dX8_film_42 lkX8_171 m0 rfl (Nat.le_of_ble_eq_true rfl) (bs_X8_found m0 m4 m5 hq) ?_
  refine rl_istore (pc := 45) R dX8_film_45 (Nat.le_of_ble_eq_true rfl) rfl ?_
  show K _ [_, _, _, _, _, _, _, _] _ _
  refine rl_iload (pc := 47) R dX8_film_47 rfl ?_
  refine rl_if_ge (pc := 49) (tgt := 55) R dX8_film_49 rfl (fun c49 => absurd c49 (Int32.not_le.mpr hz)) (fun c49 => ?_)
  refine rl_iload (pc := 52) R dX8_film_52 rfl ?_
  exact rl_ireturn (pc := 54) E dX8_film_54 rfl rfl (rfl)
theorem bs_X8_film {q k : Nat} {s l : Int32} (m0 : h[0]? = some (mO ik td at_ sz rd)) (hN : rN h n nw wo co se a) (m4 : h[4]? = some (hI 4 zf)) (m5 : h[5]? = some (hI 4 lf)) (m6 : h[6]? = some (hI 112 im)) (hq : q < 4) (hok : (iSe n s && (isW (nI q) 0 3 && isW l 0 2)) = true) (hw : wrM (se 1) s nw n 0 (se 0) = -4) (hz : ¬ fdM (zf q) (lf q) l (nI k) (nI n) < 0) (hk : k + n ≤ 28) : BS (d + 4) false yX8_film [.ref 0, .int s, .int (nI q), .int l, .int (nI k)] h (some (.int (nI n))) (h.set 6 (hI 112 (fmI n nw wo co (se 2) s (28 * q + k) n 0 (se 0) im))) := by
  have e28 : (28 : Int32) * nI q = nI (28 * q) := pk_mul 28 q
  have h4 := hN.2.2.1
  have s0 := hN.2.2.2.1.1
  rw [Bool.and_eq_true] at hok
  have A0 : ∀ g : Nat → Int32, (h.set 6 (hI 112 g))[0]? = some (mO ik td at_ sz rd) := fun g => m0_oth m0 (by decide)
  have AN : ∀ g : Nat → Int32, rN (h.set 6 (hI 112 g)) n nw wo co se a := fun g => rN_oth hN (by decide)
  refine bs_of mtX8_film rfl (Nat.le_of_ble_eq_true rfl) (fun K R RV RS E => ?_)
  show K 0 [_, _, _, _, _, _, _, _] [] _
  have loop : ∀ (j i : Nat) (lf2 : Int32) (g : Nat → Int32), i + j = n → fmI n nw wo co (se 2) s (28 * q + k) j i lf2 g = fmI n nw wo co (se 2) s (28 * q + k) n 0 (se 0) im → K 66 [some (.ref 0), some (.int s), some (.int (nI q)), some (.int l), some (.int (nI k)), some (.int (fdM (zf q) (lf q) l (nI k) (nI n))), some (.int lf2), some (.int (nI i))] [] (h.set 6 (hI 112 g)) := by
    intro j
    induction j with
    | zero =>
      intro i lf2 g hi hg
      have e : g = fmI n nw wo co (se 2) s (28 * q + k) n 0 (se 0) im := hg
      subst e
      refine rl_iload (pc := 66) R dX8_film_66 rfl ?_
      refine rl_aload_n (pc := 68) R dX8_film_68 rfl ?_
      refine rl_getf (pc := 69) R dX8_film_69 fkX8_7 (A0 _) rfl ?_
      refine rl_iconst (pc := 72) R dX8_film_72 ic_4 ?_
      refine rl_iald (pc := 73) R dX8_film_73 (AN _).1 (rfl : (4 : Int32) = nI 4) (by decide) (by decide) ?_
      rw [h4]
      refine rl_icmp_ge (pc := 74) (tgt := 131) R dX8_film_74 rfl (fun c74 => ?_) (fun c74 => absurd (nI_le (by omega) (by omega)) c74)
      refine rl_aload_n (pc := 131) R dX8_film_131 rfl ?_
      refine rl_getf (pc := 132) R dX8_film_132 fkX8_7 (A0 _) rfl ?_
      refine rl_iconst (pc := 135) R dX8_film_135 ic_4 ?_
      refine rl_iald (pc := 136) R dX8_film_136 (AN _).1 (rfl : (4 : Int32) = nI 4) (by decide) (by decide) ?_
      rw [h4]
      exact rl_ireturn (pc := 137) E dX8_film_137 rfl rfl (rfl)
    | succ j ih =>
      intro i lf2 g hi hg
      refine rl_iload (pc := 66) R dX8_film_66 rfl ?_
      refine rl_aload_n (pc := 68) R dX8_film_68 rfl ?_
      refine rl_getf (pc := 69) R dX8_film_69 fkX8_7 (A0 _) rfl ?_
      refine rl_iconst (pc := 72) R dX8_film_72 ic_4 ?_
      refine rl_iald (pc := 73) R dX8_film_73 (AN _).1 (rfl : (4 : Int32) = nI 4) (by decide) (by decide) ?_
      rw [h4]
      refine rl_icmp_ge (pc := 74) (tgt := 131) R dX8_film_74 rfl (fun c74 => absurd c74 (nI_ge (by omega) (by omega))) (fun c74 => ?_)
      refine rl_aload_n (pc := 77) R dX8_film_77 rfl ?_
      refine rl_getf (pc := 78) R dX8_film_78 fkX8_25 (A0 _) rfl ?_
      refine rl_bipush (pc := 81) R dX8_film_81 bc_28 ?_
      refine rl_iload_n (pc := 83) R dX8_film_83 rfl ?_
      refine rl_imul (pc := 84) R dX8_film_84 ?_
      rw [e28]
      refine rl_iload (pc := 85) R dX8_film_85 rfl ?_
      refine rl_iadd (pc := 87) R dX8_film_87 ?_
      rw [nI_add]
      refine rl_iload (pc := 88) R dX8_film_88 rfl ?_
      refine rl_iadd (pc := 90) R dX8_film_90 ?_
      rw [nI_add]
      refine rl_aload_n (pc := 91) R dX8_film_91 rfl ?_
      refine rl_iload (pc := 92) R dX8_film_92 rfl ?_
      refine rl_iload (pc := 94) R dX8_film_94 rfl ?_
      refine rl_iload_n (pc := 96) R dX8_film_96 rfl ?_
      refine rl_iload (pc := 97) R dX8_film_97 rfl ?_
      refine rl_S2 (pc := 99) RS dX8_film_99 lkX8_102 (Nat.le_of_ble_eq_true rfl) (bs_X8_has) ?_
      refine rl_V3 (pc := 102) RV dX8_film_102 lkX8_125 (A0 g) rfl (Nat.le_of_ble_eq_true rfl) (bs_X8_brings (A0 g) (AN g) (by omega)) ?_
      refine rl_iast (pc := 105) R dX8_film_105 (sm_h_eq m6) rfl (by omega) (by decide) ?_
      rw [List.set_set]
      refine rl_iload (pc := 106) R dX8_film_106 rfl ?_
      refine rl_iload_n (pc := 108) R dX8_film_108 rfl ?_
      refine rl_iload (pc := 109) R dX8_film_109 rfl ?_
      refine rl_S2 (pc := 111) RS dX8_film_111 lkX8_102 (Nat.le_of_ble_eq_true rfl) (bs_X8_has) ?_
      refine rl_if_eq (pc := 114) (tgt := 121) R dX8_film_114 rfl (fun c114 => ?_) (fun c114 => ?_)
      · rw [bI_0] at c114
        refine rl_iconst (pc := 121) R dX8_film_121 ic_0 ?_
        refine rl_isub (pc := 122) R dX8_film_122 ?_
        refine rl_istore (pc := 123) R dX8_film_123 (Nat.le_of_ble_eq_true rfl) rfl ?_
        show K _ [_, _, _, _, _, _, _, _] _ _
        refine rl_iinc (pc := 125) R dX8_film_125 rfl (ii_n i) rfl ?_
        show K _ [_, _, _, _, _, _, _, _] _ _
        refine rl_goto (pc := 128) (tgt := 66) R dX8_film_128 rfl (ih (i + 1) _ _ (by omega) (by rw [← hg, fmI, c114]; rfl))
      · rw [bI_n0] at c114
        refine rl_iconst (pc := 117) R dX8_film_117 ic_1 ?_
        refine rl_goto (pc := 118) (tgt := 122) R dX8_film_118 rfl ?_
        refine rl_isub (pc := 122) R dX8_film_122 ?_
        refine rl_istore (pc := 123) R dX8_film_123 (Nat.le_of_ble_eq_true rfl) rfl ?_
        show K _ [_, _, _, _, _, _, _, _] _ _
        refine rl_iinc (pc := 125) R dX8_film_125 rfl (ii_n i) rfl ?_
        show K _ [_, _, _, _, _, _, _, _] _ _
        refine rl_goto (pc := 128) (tgt := 66) R dX8_film_128 rfl (ih (i + 1) _ _ (by omega) (by rw [← hg, fmI, c114]; rfl))
  refine rl_aload_n (pc := 0) R dX8_film_0 rfl ?_
  refine rl_iload_n (pc := 1) R dX8_film_1 rfl ?_
  refine rl_V1 (pc := 2) RV dX8_film_2 lkX8_109 m0 rfl (Nat.le_of_ble_eq_true rfl) (bs_X8_isSet m0 hN) ?_
  refine rl_if_eq (pc := 5) (tgt := 16) R dX8_film_5 rfl (fun c5 => absurd c5 (by rw [hok.1]; decide)) (fun c5 => ?_)
  refine rl_iload_n (pc := 8) R dX8_film_8 rfl ?_
  refine rl_iload_n (pc := 9) R dX8_film_9 rfl ?_
  refine rl_S2 (pc := 10) RS dX8_film_10 lkX8_168 (Nat.le_of_ble_eq_true rfl) (bs_X8_isSheet) ?_
  refine rl_if_ne (pc := 13) (tgt := 18) R dX8_film_13 rfl (fun c13 => ?_) (fun c13 => absurd c13 (by rw [hok.2]; decide))
  refine rl_aload_n (pc := 18) R dX8_film_18 rfl ?_
  refine rl_iload_n (pc := 19) R dX8_film_19 rfl ?_
  refine rl_V1 (pc := 20) RV dX8_film_20 lkX8_119 m0 rfl (Nat.le_of_ble_eq_true rfl) (bs_X8_wrongIn m0 hN) ?_
  refine rl_bipush (pc := 23) R dX8_film_23 bc_m4 ?_
  refine rl_icmp_eq (pc := 25) (tgt := 31) R dX8_film_25 rfl (fun c25 => ?_) (fun c25 => absurd (hw) c25)
  refine rl_aload_n (pc := 31) R dX8_film_31 rfl ?_
  refine rl_iload_n (pc := 32) R dX8_film_32 rfl ?_
  refine rl_iload_n (pc := 33) R dX8_film_33 rfl ?_
  refine rl_iload (pc := 34) R dX8_film_34 rfl ?_
  refine rl_aload_n (pc := 36) R dX8_film_36 rfl ?_
  refine rl_getf (pc := 37) R dX8_film_37 fkX8_7 (by first | assumption | rfl) rfl ?_
  refine rl_iconst (pc := 40) R dX8_film_40 ic_4 ?_
  refine rl_iald (pc := 41) R dX8_film_41 hN.1 (rfl : (4 : Int32) = nI 4) (by decide) (by decide) ?_
  rw [h4]
  refine rl_V4 (pc := 42) RV dX8_film_42 lkX8_171 m0 rfl (Nat.le_of_ble_eq_true rfl) (bs_X8_found m0 m4 m5 hq) ?_
  refine rl_istore (pc := 45) R dX8_film_45 (Nat.le_of_ble_eq_true rfl) rfl ?_
  show K _ [_, _, _, _, _, _, _, _] _ _
  refine rl_iload (pc := 47) R dX8_film_47 rfl ?_
  refine rl_if_ge (pc := 49) (tgt := 55) R dX8_film_49 rfl (fun c49 => ?_) (fun c49 => absurd (Int32.not_lt.mp hz) c49)
  refine rl_aload_n (pc := 55) R dX8_film_55 rfl ?_
  refine rl_getf (pc := 56) R dX8_film_56 fkX8_7 (by first | assumption | rfl) rfl ?_
  refine rl_iconst (pc := 59) R dX8_film_59 ic_0 ?_
  refine rl_iald (pc := 60) R dX8_film_60 hN.1 (rfl : (0 : Int32) = nI 0) (by decide) (by decide) ?_
  rw [s0]
  refine rl_istore (pc := 61) R dX8_film_61 (Nat.le_of_ble_eq_true rfl) rfl ?_
  show K _ [_, _, _, _, _, _, _, _] _ _
  refine rl_iconst (pc := 63) R dX8_film_63 ic_0 ?_
  refine rl_istore (pc := 64) R dX8_film_64 (Nat.le_of_ble_eq_true rfl) rfl ?_
  show K _ [_, _, _, _, _, _, _, _] _ _
  have e0 := loop n 0 (se 0) im (by omega) rfl
  rw [List.set_getElem?_self' m6] at e0
  exact e0
theorem bs_X8_copy_bad {s i t j k : Int32} (hok : (isW s 0 3 && isW t 0 3) = false) : BS (d + 4) false yX8_copy [.ref 0, .int s, .int i, .int t, .int j, .int k] h (some (.int (-1))) h := by
  refine bs_of mtX8_copy rfl (Nat.le_of_ble_eq_true rfl) (fun K R RV RS E => ?_)
  show K 0 [_, _, _, _, _, _, _, _] [] _
  refine rl_iload_n (pc := 0) R dX8_copy_0 rfl ?_
  refine rl_i2l (pc := 1) R dX8_copy_1 ?_
  refine rl_lconst (pc := 2) R dX8_copy_2 lc_0 ?_
  refine rl_ldc2 (pc := 3) R dX8_copy_3 kdX8_62 ?_
  refine rl_S3 (pc := 6) RS dX8_copy_6 lkX8_40 (Nat.le_of_ble_eq_true rfl) (bs_X8_inW (v := s) (x := 0) (y := 3) rfl rfl rfl) ?_
  refine rl_if_eq (pc := 9) (tgt := 24) R dX8_copy_9 rfl (fun c9 => ?_) (fun c9 => ?_)
  · rw [bI_0] at c9
    refine rl_iconst (pc := 24) R dX8_copy_24 ic_m1 ?_
    exact rl_ireturn (pc := 25) E dX8_copy_25 rfl rfl (rfl)
  · rw [bI_n0] at c9
    refine rl_iload_n (pc := 12) R dX8_copy_12 rfl ?_
    refine rl_i2l (pc := 13) R dX8_copy_13 ?_
    refine rl_lconst (pc := 14) R dX8_copy_14 lc_0 ?_
    refine rl_ldc2 (pc := 15) R dX8_copy_15 kdX8_62 ?_
    refine rl_S3 (pc := 18) RS dX8_copy_18 lkX8_40 (Nat.le_of_ble_eq_true rfl) (bs_X8_inW (v := t) (x := 0) (y := 3) rfl rfl rfl) ?_
    refine rl_if_ne (pc := 21) (tgt := 26) R dX8_copy_21 rfl (fun c21 => ?_) (fun c21 => ?_)
    · exact absurd hok (by rw [bI_n0] at c21; rw [c9, c21]; decide)
    · refine rl_iconst (pc := 24) R dX8_copy_24 ic_m1 ?_
      exact rl_ireturn (pc := 25) E dX8_copy_25 rfl rfl (rfl)
def cyR (s1 s2 l1 l2 i j k : Int32) : Int32 := if s1 < 0 ∨ s2 < 0 then -11 else if l1 = l2 then (if k < 0 ∨ fdM s1 l1 l1 i k < 0 ∨ fdM s2 l2 l2 j k < 0 then -13 else 0) else -12
theorem bs_X8_copy_ref {q r : Nat} {i j k : Int32} (m0 : h[0]? = some (mO ik td at_ sz rd)) (m4 : h[4]? = some (hI 4 zf)) (m5 : h[5]? = some (hI 4 lf)) (hq : q < 4) (hr : r < 4) (hok : (isW (nI q) 0 3 && isW (nI r) 0 3) = true) (hz : ¬ cyR (zf q) (zf r) (lf q) (lf r) i j k = 0) : BS (d + 4) false yX8_copy [.ref 0, .int (nI q), .int i, .int (nI r), .int j, .int k] h (some (.int (cyR (zf q) (zf r) (lf q) (lf r) i j k))) h := by
  rw [Bool.and_eq_true] at hok
  refine bs_of mtX8_copy rfl (Nat.le_of_ble_eq_true rfl) (fun K R RV RS E => ?_)
  show K 0 [_, _, _, _, _, _, _, _] [] _
  refine rl_iload_n (pc := 0) R dX8_copy_0 rfl ?_
  refine rl_i2l (pc := 1) R dX8_copy_1 ?_
  refine rl_lconst (pc := 2) R dX8_copy_2 lc_0 ?_
  refine rl_ldc2 (pc := 3) R dX8_copy_3 kdX8_62 ?_
  refine rl_S3 (pc := 6) RS dX8_copy_6 lkX8_40 (Nat.le_of_ble_eq_true rfl) (bs_X8_inW (v := nI q) (x := 0) (y := 3) rfl rfl rfl) ?_
  refine rl_if_eq (pc := 9) (tgt := 24) R dX8_copy_9 rfl (fun c9 => absurd c9 (by rw [hok.1]; decide)) (fun c9 => ?_)
  refine rl_iload_n (pc := 12) R dX8_copy_12 rfl ?_
  refine rl_i2l (pc := 13) R dX8_copy_13 ?_
  refine rl_lconst (pc := 14) R dX8_copy_14 lc_0 ?_
  refine rl_ldc2 (pc := 15) R dX8_copy_15 kdX8_62 ?_
  refine rl_S3 (pc := 18) RS dX8_copy_18 lkX8_40 (Nat.le_of_ble_eq_true rfl) (bs_X8_inW (v := nI r) (x := 0) (y := 3) rfl rfl rfl) ?_
  refine rl_if_ne (pc := 21) (tgt := 26) R dX8_copy_21 rfl (fun c21 => ?_) (fun c21 => absurd c21 (by rw [hok.2]; decide))
  refine rl_aload_n (pc := 26) R dX8_copy_26 rfl ?_
  refine rl_getf (pc := 27) R dX8_copy_27 fkX8_19 (by first | assumption | rfl) rfl ?_
  refine rl_iload_n (pc := 30) R dX8_copy_30 rfl ?_
  refine rl_iald (pc := 31) R dX8_copy_31 m4 rfl hq (by decide) ?_
  refine rl_if_lt (pc := 32) (tgt := 44) R dX8_copy_32 rfl (fun c32 => ?_) (fun c32 => ?_)
  · refine rl_bipush (pc := 44) R dX8_copy_44 bc_m11 ?_
    exact rl_ireturn (pc := 46) E dX8_copy_46 rfl rfl (e_si (by rw [cyR]; first | rw [if_pos (Or.inl c32)] | rw [if_pos (Or.inr e41)]))
  · refine rl_aload_n (pc := 35) R dX8_copy_35 rfl ?_
    refine rl_getf (pc := 36) R dX8_copy_36 fkX8_19 (by first | assumption | rfl) rfl ?_
    refine rl_iload_n (pc := 39) R dX8_copy_39 rfl ?_
    refine rl_iald (pc := 40) R dX8_copy_40 m4 rfl hr (by decide) ?_
    refine rl_if_ge (pc := 41) (tgt := 47) R dX8_copy_41 rfl (fun c41 => ?_) (fun c41 => ?_)
    · have e41 : ¬ zf r < 0 := Int32.not_lt.mpr c41
      refine rl_aload_n (pc := 47) R dX8_copy_47 rfl ?_
      refine rl_getf (pc := 48) R dX8_copy_48 fkX8_22 (by first | assumption | rfl) rfl ?_
      refine rl_iload_n (pc := 51) R dX8_copy_51 rfl ?_
      refine rl_iald (pc := 52) R dX8_copy_52 m5 rfl hq (by decide) ?_
      refine rl_aload_n (pc := 53) R dX8_copy_53 rfl ?_
      refine rl_getf (pc := 54) R dX8_copy_54 fkX8_22 (by first | assumption | rfl) rfl ?_
      refine rl_iload_n (pc := 57) R dX8_copy_57 rfl ?_
      refine rl_iald (pc := 58) R dX8_copy_58 m5 rfl hr (by decide) ?_
      refine rl_icmp_eq (pc := 59) (tgt := 65) R dX8_copy_59 rfl (fun c59 => ?_) (fun c59 => ?_)
      · refine rl_iload (pc := 65) R dX8_copy_65 rfl ?_
        refine rl_if_lt (pc := 67) (tgt := 105) R dX8_copy_67 rfl (fun c67 => ?_) (fun c67 => ?_)
        · refine rl_bipush (pc := 105) R dX8_copy_105 bc_m13 ?_
          exact rl_ireturn (pc := 107) E dX8_copy_107 rfl rfl (e_si (by rw [cyR, if_neg (fun z => z.elim c32 e41), if_pos c59]; first | rw [if_pos (Or.inl c67)] | rw [if_pos (Or.inr (Or.inl c84))] | rw [if_pos (Or.inr (Or.inr e102))]))
        · refine rl_aload_n (pc := 70) R dX8_copy_70 rfl ?_
          refine rl_iload_n (pc := 71) R dX8_copy_71 rfl ?_
          refine rl_aload_n (pc := 72) R dX8_copy_72 rfl ?_
          refine rl_getf (pc := 73) R dX8_copy_73 fkX8_22 (by first | assumption | rfl) rfl ?_
          refine rl_iload_n (pc := 76) R dX8_copy_76 rfl ?_
          refine rl_iald (pc := 77) R dX8_copy_77 m5 rfl hq (by decide) ?_
          refine rl_iload_n (pc := 78) R dX8_copy_78 rfl ?_
          refine rl_iload (pc := 79) R dX8_copy_79 rfl ?_
          refine rl_V4 (pc := 81) RV dX8_copy_81 lkX8_171 m0 rfl (Nat.le_of_ble_eq_true rfl) (bs_X8_found m0 m4 m5 hq) ?_
          refine rl_if_lt (pc := 84) (tgt := 105) R dX8_copy_84 rfl (fun c84 => ?_) (fun c84 => ?_)
          · refine rl_bipush (pc := 105) R dX8_copy_105 bc_m13 ?_
            exact rl_ireturn (pc := 107) E dX8_copy_107 rfl rfl (e_si (by rw [cyR, if_neg (fun z => z.elim c32 e41), if_pos c59]; first | rw [if_pos (Or.inl c67)] | rw [if_pos (Or.inr (Or.inl c84))] | rw [if_pos (Or.inr (Or.inr e102))]))
          · refine rl_aload_n (pc := 87) R dX8_copy_87 rfl ?_
            refine rl_iload_n (pc := 88) R dX8_copy_88 rfl ?_
            refine rl_aload_n (pc := 89) R dX8_copy_89 rfl ?_
            refine rl_getf (pc := 90) R dX8_copy_90 fkX8_22 (by first | assumption | rfl) rfl ?_
            refine rl_iload_n (pc := 93) R dX8_copy_93 rfl ?_
            refine rl_iald (pc := 94) R dX8_copy_94 m5 rfl hr (by decide) ?_
            refine rl_iload (pc := 95) R dX8_copy_95 rfl ?_
            refine rl_iload (pc := 97) R dX8_copy_97 rfl ?_
            refine rl_V4 (pc := 99) RV dX8_copy_99 lkX8_171 m0 rfl (Nat.le_of_ble_eq_true rfl) (bs_X8_found m0 m4 m5 hr) ?_
            refine rl_if_ge (pc := 102) (tgt := 108) R dX8_copy_102 rfl (fun c102 => ?_) (fun c102 => ?_)
            · exact absurd (by rw [cyR, if_neg (fun z => z.elim c32 e41), if_pos c59, if_neg (fun z => z.elim c67 (fun z => z.elim c84 (Int32.not_lt.mpr c102)))]) hz
            · have e102 := Int32.not_le.mp c102
              refine rl_bipush (pc := 105) R dX8_copy_105 bc_m13 ?_
              exact rl_ireturn (pc := 107) E dX8_copy_107 rfl rfl (e_si (by rw [cyR, if_neg (fun z => z.elim c32 e41), if_pos c59]; first | rw [if_pos (Or.inl c67)] | rw [if_pos (Or.inr (Or.inl c84))] | rw [if_pos (Or.inr (Or.inr e102))]))
      · refine rl_bipush (pc := 62) R dX8_copy_62 bc_m12 ?_
        exact rl_ireturn (pc := 64) E dX8_copy_64 rfl rfl (e_si (by rw [cyR, if_neg (fun z => z.elim c32 e41), if_neg c59]))
    · have e41 : zf r < 0 := Int32.not_le.mp c41
      refine rl_bipush (pc := 44) R dX8_copy_44 bc_m11 ?_
      exact rl_ireturn (pc := 46) E dX8_copy_46 rfl rfl (e_si (by rw [cyR]; first | rw [if_pos (Or.inl c32)] | rw [if_pos (Or.inr e41)]))
theorem bs_X8_copy {q r i j k : Nat} (m0 : h[0]? = some (mO ik td at_ sz rd)) (m4 : h[4]? = some (hI 4 zf)) (m5 : h[5]? = some (hI 4 lf)) (m6 : h[6]? = some (hI 112 im)) (hq : q < 4) (hr : r < 4) (hok : (isW (nI q) 0 3 && isW (nI r) 0 3) = true) (hz : cyR (zf q) (zf r) (lf q) (lf r) (nI i) (nI j) (nI k) = 0) (hi : i + k ≤ 28) (hj : j + k ≤ 28) : BS (d + 4) false yX8_copy [.ref 0, .int (nI q), .int (nI i), .int (nI r), .int (nI j), .int (nI k)] h (some (.int (nI k))) (h.set 6 (hI 112 (cyM k (decide (i < j)) (28 * q + i) (28 * r + j) k 0 im))) := by
  have e28 : (28 : Int32) * nI q = nI (28 * q) := pk_mul 28 q
  have e29 : (28 : Int32) * nI r = nI (28 * r) := pk_mul 28 r
  rw [Bool.and_eq_true] at hok
  have hz2 := hz
  simp only [cyR] at hz2
  split at hz2
  · exact absurd hz2 (by decide)
  rename_i z1
  have z2 : lf q = lf r := Classical.byContradiction (fun z => by rw [if_neg z] at hz2; exact absurd hz2 (by decide))
  rw [if_pos z2] at hz2
  split at hz2
  · exact absurd hz2 (by decide)
  rename_i z3
  have A0 : ∀ g : Nat → Int32, (h.set 6 (hI 112 g))[0]? = some (mO ik td at_ sz rd) := fun g => m0_oth m0 (by decide)
  refine bs_of mtX8_copy rfl (Nat.le_of_ble_eq_true rfl) (fun K R RV RS E => ?_)
  show K 0 [_, _, _, _, _, _, _, _] [] _
  have loop : ∀ (jj kk : Nat) (g : Nat → Int32) (z7 : Option Value), kk + jj = k → cyM k (decide (i < j)) (28 * q + i) (28 * r + j) jj kk g = cyM k (decide (i < j)) (28 * q + i) (28 * r + j) k 0 im → K 111 [some (.ref 0), some (.int (nI q)), some (.int (nI i)), some (.int (nI r)), some (.int (nI j)), some (.int (nI k)), some (.int (nI kk)), z7] [] (h.set 6 (hI 112 g)) := by
    intro jj
    induction jj with
    | zero =>
      intro kk g z7 hk hg
      have e : g = cyM k (decide (i < j)) (28 * q + i) (28 * r + j) k 0 im := hg
      subst e
      refine rl_iload (pc := 111) R dX8_copy_111 rfl ?_
      refine rl_iload (pc := 113) R dX8_copy_113 rfl ?_
      refine rl_icmp_ge (pc := 115) (tgt := 173) R dX8_copy_115 rfl (fun c115 => ?_) (fun c115 => absurd (nI_le (by omega) (by omega)) c115)
      refine rl_iload (pc := 173) R dX8_copy_173 rfl ?_
      exact rl_ireturn (pc := 175) E dX8_copy_175 rfl rfl (rfl)
    | succ jj ih =>
      intro kk g z7 hk hg
      have fin : ∀ p : Nat, p = (if decide (i < j) = true then k - 1 - kk else kk) → p < k → K 136 [some (.ref 0), some (.int (nI q)), some (.int (nI i)), some (.int (nI r)), some (.int (nI j)), some (.int (nI k)), some (.int (nI kk)), z7] [.int (nI p)] (h.set 6 (hI 112 g)) := by
        intro p hp hpk
        refine rl_istore (pc := 136) R dX8_copy_136 (Nat.le_of_ble_eq_true rfl) rfl ?_
        show K _ [_, _, _, _, _, _, _, _] _ _
        refine rl_aload_n (pc := 138) R dX8_copy_138 rfl ?_
        refine rl_getf (pc := 139) R dX8_copy_139 fkX8_25 (A0 _) rfl ?_
        refine rl_bipush (pc := 142) R dX8_copy_142 bc_28 ?_
        refine rl_iload_n (pc := 144) R dX8_copy_144 rfl ?_
        refine rl_imul (pc := 145) R dX8_copy_145 ?_
        rw [e29]
        refine rl_iload (pc := 146) R dX8_copy_146 rfl ?_
        refine rl_iadd (pc := 148) R dX8_copy_148 ?_
        rw [nI_add]
        refine rl_iload (pc := 149) R dX8_copy_149 rfl ?_
        refine rl_iadd (pc := 151) R dX8_copy_151 ?_
        rw [nI_add]
        refine rl_aload_n (pc := 152) R dX8_copy_152 rfl ?_
        refine rl_getf (pc := 153) R dX8_copy_153 fkX8_25 (A0 _) rfl ?_
        refine rl_bipush (pc := 156) R dX8_copy_156 bc_28 ?_
        refine rl_iload_n (pc := 158) R dX8_copy_158 rfl ?_
        refine rl_imul (pc := 159) R dX8_copy_159 ?_
        rw [e28]
        refine rl_iload_n (pc := 160) R dX8_copy_160 rfl ?_
        refine rl_iadd (pc := 161) R dX8_copy_161 ?_
        rw [nI_add]
        refine rl_iload (pc := 162) R dX8_copy_162 rfl ?_
        refine rl_iadd (pc := 164) R dX8_copy_164 ?_
        rw [nI_add]
        refine rl_iald (pc := 165) R dX8_copy_165 (sm_h_eq m6) rfl (by omega) (by decide) ?_
        refine rl_iast (pc := 166) R dX8_copy_166 (sm_h_eq m6) rfl (by omega) (by decide) ?_
        rw [List.set_set]
        refine rl_iinc (pc := 167) R dX8_copy_167 rfl (ii_n kk) rfl ?_
        show K _ [_, _, _, _, _, _, _, _] _ _
        refine rl_goto (pc := 170) (tgt := 111) R dX8_copy_170 rfl (ih (kk + 1) _ _ (by omega) (by rw [← hg, cyM, ← hp]))
      have hsub : nI k - 1 - nI kk = nI (k - 1 - kk) := by
        obtain ⟨k1, rfl⟩ : ∃ k1, k = k1 + 1 := ⟨k - 1, by omega⟩
        rw [nI_pred, Nat.add_sub_cancel, pk_sub (by omega)]
      refine rl_iload (pc := 111) R dX8_copy_111 rfl ?_
      refine rl_iload (pc := 113) R dX8_copy_113 rfl ?_
      refine rl_icmp_ge (pc := 115) (tgt := 173) R dX8_copy_115 rfl (fun c115 => absurd c115 (nI_ge (by omega) (by omega))) (fun c115 => ?_)
      refine rl_iload (pc := 118) R dX8_copy_118 rfl ?_
      refine rl_iload_n (pc := 120) R dX8_copy_120 rfl ?_
      refine rl_icmp_le (pc := 121) (tgt := 134) R dX8_copy_121 rfl (fun c121 => ?_) (fun c121 => ?_)
      · refine rl_iload (pc := 134) R dX8_copy_134 rfl ?_
        first | exact fin kk (by rw [decide_eq_false (fun z => absurd c121 (Int32.not_le.mpr (nI_lt z (by omega))))]; rfl) (by omega) | exact fin _ (by rw [decide_eq_true ((nI_ltI (by omega) (by omega)).mp (Int32.not_le.mp c121))]; rfl) (by omega)
      · refine rl_iload (pc := 124) R dX8_copy_124 rfl ?_
        refine rl_iconst (pc := 126) R dX8_copy_126 ic_1 ?_
        refine rl_isub (pc := 127) R dX8_copy_127 ?_
        refine rl_iload (pc := 128) R dX8_copy_128 rfl ?_
        refine rl_isub (pc := 130) R dX8_copy_130 ?_
        rw [hsub]
        refine rl_goto (pc := 131) (tgt := 136) R dX8_copy_131 rfl ?_
        first | exact fin kk (by rw [decide_eq_false (fun z => absurd c121 (Int32.not_le.mpr (nI_lt z (by omega))))]; rfl) (by omega) | exact fin _ (by rw [decide_eq_true ((nI_ltI (by omega) (by omega)).mp (Int32.not_le.mp c121))]; rfl) (by omega)
  refine rl_iload_n (pc := 0) R dX8_copy_0 rfl ?_
  refine rl_i2l (pc := 1) R dX8_copy_1 ?_
  refine rl_lconst (pc := 2) R dX8_copy_2 lc_0 ?_
  refine rl_ldc2 (pc := 3) R dX8_copy_3 kdX8_62 ?_
  refine rl_S3 (pc := 6) RS dX8_copy_6 lkX8_40 (Nat.le_of_ble_eq_true rfl) (bs_X8_inW (v := nI q) (x := 0) (y := 3) rfl rfl rfl) ?_
  refine rl_if_eq (pc := 9) (tgt := 24) R dX8_copy_9 rfl (fun c9 => absurd c9 (by rw [hok.1]; decide)) (fun c9 => ?_)
  refine rl_iload_n (pc := 12) R dX8_copy_12 rfl ?_
  refine rl_i2l (pc := 13) R dX8_copy_13 ?_
  refine rl_lconst (pc := 14) R dX8_copy_14 lc_0 ?_
  refine rl_ldc2 (pc := 15) R dX8_copy_15 kdX8_62 ?_
  refine rl_S3 (pc := 18) RS dX8_copy_18 lkX8_40 (Nat.le_of_ble_eq_true rfl) (bs_X8_inW (v := nI r) (x := 0) (y := 3) rfl rfl rfl) ?_
  refine rl_if_ne (pc := 21) (tgt := 26) R dX8_copy_21 rfl (fun c21 => ?_) (fun c21 => absurd c21 (by rw [hok.2]; decide))
  refine rl_aload_n (pc := 26) R dX8_copy_26 rfl ?_
  refine rl_getf (pc := 27) R dX8_copy_27 fkX8_19 (by first | assumption | rfl) rfl ?_
  refine rl_iload_n (pc := 30) R dX8_copy_30 rfl ?_
  refine rl_iald (pc := 31) R dX8_copy_31 m4 rfl hq (by decide) ?_
  refine rl_if_lt (pc := 32) (tgt := 44) R dX8_copy_32 rfl (fun c32 => absurd c32 (fun z => z1 (Or.inl z))) (fun c32 => ?_)
  refine rl_aload_n (pc := 35) R dX8_copy_35 rfl ?_
  refine rl_getf (pc := 36) R dX8_copy_36 fkX8_19 (by first | assumption | rfl) rfl ?_
  refine rl_iload_n (pc := 39) R dX8_copy_39 rfl ?_
  refine rl_iald (pc := 40) R dX8_copy_40 m4 rfl hr (by decide) ?_
  refine rl_if_ge (pc := 41) (tgt := 47) R dX8_copy_41 rfl (fun c41 => ?_) (fun c41 => absurd (Int32.not_lt.mp (fun z => z1 (Or.inr z))) c41)
  refine rl_aload_n (pc := 47) R dX8_copy_47 rfl ?_
  refine rl_getf (pc := 48) R dX8_copy_48 fkX8_22 (by first | assumption | rfl) rfl ?_
  refine rl_iload_n (pc := 51) R dX8_copy_51 rfl ?_
  refine rl_iald (pc := 52) R dX8_copy_52 m5 rfl hq (by decide) ?_
  refine rl_aload_n (pc := 53) R dX8_copy_53 rfl ?_
  refine rl_getf (pc := 54) R dX8_copy_54 fkX8_22 (by first | assumption | rfl) rfl ?_
  refine rl_iload_n (pc := 57) R dX8_copy_57 rfl ?_
  refine rl_iald (pc := 58) R dX8_copy_58 m5 rfl hr (by decide) ?_
  refine rl_icmp_eq (pc := 59) (tgt := 65) R dX8_copy_59 rfl (fun c59 => ?_) (fun c59 => absurd (z2) c59)
  refine rl_iload (pc := 65) R dX8_copy_65 rfl ?_
  refine rl_if_lt (pc := 67) (tgt := 105) R dX8_copy_67 rfl (fun c67 => absurd c67 (fun z => z3 (Or.inl z))) (fun c67 => ?_)
  refine rl_aload_n (pc := 70) R dX8_copy_70 rfl ?_
  refine rl_iload_n (pc := 71) R dX8_copy_71 rfl ?_
  refine rl_aload_n (pc := 72) R dX8_copy_72 rfl ?_
  refine rl_getf (pc := 73) R dX8_copy_73 fkX8_22 (by first | assumption | rfl) rfl ?_
  refine rl_iload_n (pc := 76) R dX8_copy_76 rfl ?_
  refine rl_iald (pc := 77) R dX8_copy_77 m5 rfl hq (by decide) ?_
  refine rl_iload_n (pc := 78) R dX8_copy_78 rfl ?_
  refine rl_iload (pc := 79) R dX8_copy_79 rfl ?_
  refine rl_V4 (pc := 81) RV dX8_copy_81 lkX8_171 m0 rfl (Nat.le_of_ble_eq_true rfl) (bs_X8_found m0 m4 m5 hq) ?_
  refine rl_if_lt (pc := 84) (tgt := 105) R dX8_copy_84 rfl (fun c84 => absurd c84 (fun z => z3 (Or.inr (Or.inl z)))) (fun c84 => ?_)
  refine rl_aload_n (pc := 87) R dX8_copy_87 rfl ?_
  refine rl_iload_n (pc := 88) R dX8_copy_88 rfl ?_
  refine rl_aload_n (pc := 89) R dX8_copy_89 rfl ?_
  refine rl_getf (pc := 90) R dX8_copy_90 fkX8_22 (by first | assumption | rfl) rfl ?_
  refine rl_iload_n (pc := 93) R dX8_copy_93 rfl ?_
  refine rl_iald (pc := 94) R dX8_copy_94 m5 rfl hr (by decide) ?_
  refine rl_iload (pc := 95) R dX8_copy_95 rfl ?_
  refine rl_iload (pc := 97) R dX8_copy_97 rfl ?_
  refine rl_V4 (pc := 99) RV dX8_copy_99 lkX8_171 m0 rfl (Nat.le_of_ble_eq_true rfl) (bs_X8_found m0 m4 m5 hr) ?_
  refine rl_if_ge (pc := 102) (tgt := 108) R dX8_copy_102 rfl (fun c102 => ?_) (fun c102 => absurd (Int32.not_lt.mp (fun z => z3 (Or.inr (Or.inr z)))) c102)
  refine rl_iconst (pc := 108) R dX8_copy_108 ic_0 ?_
  refine rl_istore (pc := 109) R dX8_copy_109 (Nat.le_of_ble_eq_true rfl) rfl ?_
  show K _ [_, _, _, _, _, _, _, _] _ _
  have e0 := loop k 0 im none (by omega) rfl
  rw [List.set_getElem?_self' m6] at e0
  exact e0
end M6
