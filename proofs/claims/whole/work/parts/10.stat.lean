/-! THE CLASS'S STATIC FUNCTIONS -/
theorem l31 {a b : Nat} (h : a ≤ b) (hb : b < 2147483648 := by decide) : a < 2 ^ 31 := Nat.lt_of_le_of_lt h hb
theorem nI_5 {n : Nat} (h : n < 2147483648) : (nI n = 0 ↔ n = 0) := by
  rw [show (0 : Int32) = nI 0 from rfl, nI_eq h (by decide)]
def isW (v a b : Int32) : Bool := decide (a ≤ v) && decide (v ≤ b)
def isTh (what v : Int32) : Bool := isW what 0 2 && isW v 0 (if what = 0 then 1 else 99)
def isSe (what v : Int32) : Bool := if what = 0 then isW v 0 9 else if what = 1 then isW v 0 3 else if what = 2 then isW v 0 8 else if what = 3 then isW v 0 2147483647 else false
/-- bit d of a set -/
def bt (s : Int32) (d : Nat) : Bool := !decide ((s >>> (nI d &&& 31)) &&& 1 = 0)
def opn (law : Int32) (d : Nat) : Bool := !(decide (law = 1) && decide (d % 7 = 6))
def oAg (law : Int32) (d : Nat) : Nat := if law = 2 then d + 2 else if law = 3 then max (d + 2) ((d / 7 + 1) * 7) else d + 1
def byt (w : Int64) (i : Nat) : Int32 := ((w.toUInt64 >>> ((8 * nI i : Int32).toInt64.toUInt64 &&& Int64.toUInt64 63)).toInt64).toInt32 &&& 255
def tbA (w : Int64) : Nat → Nat → Bool
  | 0, _ => true
  | j + 1, i => isW (byt w i) 32 126 && tbA w j (i + 1)
def arW (words truths lies : Int32) : Bool := decide (words >>> 28 = 0) && (decide (truths &&& (words ^^^ (-1)) = 0) && (decide (lies &&& (words ^^^ (-1)) = 0) && decide (truths &&& lies = 0)))
theorem rem7 {d : Nat} (h : d < 2147483648) : nI d - nI d / 7 * 7 = nI (d % 7) := pk_rem (d := 7) h (by decide) (by decide)
theorem div7 {d : Nat} (h : d < 2147483648) : nI d / 7 = nI (d / 7) := pk_div (d := 7) h (by decide) (by decide)
theorem isW_t {v a b : Int32} (h : a ≤ v) (h2 : v ≤ b) : isW v a b = true := by simp [isW, h, h2]
theorem isW_f1 {v a b : Int32} (h : v < a) : isW v a b = false := by simp [isW, Int32.not_le.mpr h]
theorem isW_f2 {v a b : Int32} (h : b < v) : isW v a b = false := by simp [isW, Int32.not_le.mpr h]
section ST
variable {d : Nat} {h : List sm_C}
theorem bs_X7_at {c n j : Nat} {f : Nat → Int32} {i : Int32} (h1 : h[c]? = some (hI n f)) (hi : i = nI j) (hj : j < n) (hN : n < 2147483648) : BS (d + 1) true yX7_at [.ref c, .int i] h (some (.int (f j))) h := by
  subst hi
  refine bs_of mtX7_at rfl (Nat.le_of_ble_eq_true rfl) (fun K R RV RS E => ?_)
  show K 0 [_, _] [] _
  refine rl_iload_n (pc := 0) R dX7_at_0 rfl ?_
  refine rl_if_lt (pc := 1) (tgt := 16) R dX7_at_1 rfl (fun c1 => absurd c1 (nI_pos (Nat.lt_trans hj hN))) (fun c1 => ?_)
  refine rl_iload_n (pc := 4) R dX7_at_4 rfl ?_
  refine rl_aload_n (pc := 5) R dX7_at_5 rfl ?_
  refine rl_alen (pc := 6) R dX7_at_6 (by first | assumption | rfl) ?_
  refine rl_icmp_ge (pc := 7) (tgt := 16) R dX7_at_7 rfl (fun c7 => absurd c7 (nI_ge hj hN)) (fun c7 => ?_)
  refine rl_aload_n (pc := 10) R dX7_at_10 rfl ?_
  refine rl_iload_n (pc := 11) R dX7_at_11 rfl ?_
  refine rl_iald (pc := 12) R dX7_at_12 h1 rfl hj hN ?_
  refine rl_goto (pc := 13) (tgt := 17) R dX7_at_13 rfl ?_
  exact rl_ireturn (pc := 17) E dX7_at_17 rfl rfl (rfl)
theorem bs_X7_put {c n j : Nat} {f : Nat → Int32} {i v : Int32} (h1 : h[c]? = some (hI n f)) (hi : i = nI j) (hj : j < n) (hN : n < 2147483648) : BS (d + 2) true yX7_put [.ref c, .int i, .int v] h (some (.int (f j))) (h.set c (hI n (upd f j v))) := by
  subst hi
  refine bs_of mtX7_put rfl (Nat.le_of_ble_eq_true rfl) (fun K R RV RS E => ?_)
  show K 0 [_, _, _, _] [] _
  refine rl_aload_n (pc := 0) R dX7_put_0 rfl ?_
  refine rl_iload_n (pc := 1) R dX7_put_1 rfl ?_
  refine rl_S2 (pc := 2) RS dX7_put_2 lkX7_223 (Nat.le_of_ble_eq_true rfl) (bs_X7_at h1 rfl hj hN) ?_
  refine rl_istore_n (pc := 5) R dX7_put_5 (Nat.le_of_ble_eq_true rfl) rfl ?_
  show K _ [_, _, _, _] _ _
  refine rl_iload_n (pc := 6) R dX7_put_6 rfl ?_
  refine rl_if_lt (pc := 7) (tgt := 20) R dX7_put_7 rfl (fun c7 => absurd c7 (nI_pos (Nat.lt_trans hj hN))) (fun c7 => ?_)
  refine rl_iload_n (pc := 10) R dX7_put_10 rfl ?_
  refine rl_aload_n (pc := 11) R dX7_put_11 rfl ?_
  refine rl_alen (pc := 12) R dX7_put_12 (by first | assumption | rfl) ?_
  refine rl_icmp_ge (pc := 13) (tgt := 20) R dX7_put_13 rfl (fun c13 => absurd c13 (nI_ge hj hN)) (fun c13 => ?_)
  refine rl_aload_n (pc := 16) R dX7_put_16 rfl ?_
  refine rl_iload_n (pc := 17) R dX7_put_17 rfl ?_
  refine rl_iload_n (pc := 18) R dX7_put_18 rfl ?_
  refine rl_iast (pc := 19) R dX7_put_19 h1 rfl hj hN ?_
  refine rl_iload_n (pc := 20) R dX7_put_20 rfl ?_
  exact rl_ireturn (pc := 21) E dX7_put_21 rfl rfl (rfl)
theorem bs_X7_isWithin {v a b : Int32} : BS (d + 1) true yX7_isWithin [.int v, .int a, .int b] h (some (.int (bI (isW v a b)))) h := by
  refine bs_of mtX7_isWithin rfl (Nat.le_of_ble_eq_true rfl) (fun K R RV RS E => ?_)
  show K 0 [_, _, _] [] _
  refine rl_iload_n (pc := 0) R dX7_isWithin_0 rfl ?_
  refine rl_iload_n (pc := 1) R dX7_isWithin_1 rfl ?_
  refine rl_icmp_lt (pc := 2) (tgt := 14) R dX7_isWithin_2 rfl (fun c2 => ?_) (fun c2 => ?_)
  · refine rl_iconst (pc := 14) R dX7_isWithin_14 ic_0 ?_
    exact rl_ireturn (pc := 15) E dX7_isWithin_15 rfl rfl (e_si (by first | (rw [isW_f1 c2]; rfl) | (rw [isW_f2 c7]; rfl) | (rw [isW_t (Int32.not_lt.mp c2) (Int32.not_lt.mp c7)]; rfl)))
  · refine rl_iload_n (pc := 5) R dX7_isWithin_5 rfl ?_
    refine rl_iload_n (pc := 6) R dX7_isWithin_6 rfl ?_
    refine rl_icmp_gt (pc := 7) (tgt := 14) R dX7_isWithin_7 rfl (fun c7 => ?_) (fun c7 => ?_)
    · refine rl_iconst (pc := 14) R dX7_isWithin_14 ic_0 ?_
      exact rl_ireturn (pc := 15) E dX7_isWithin_15 rfl rfl (e_si (by first | (rw [isW_f1 c2]; rfl) | (rw [isW_f2 c7]; rfl) | (rw [isW_t (Int32.not_lt.mp c2) (Int32.not_lt.mp c7)]; rfl)))
    · refine rl_iconst (pc := 10) R dX7_isWithin_10 ic_1 ?_
      refine rl_goto (pc := 11) (tgt := 15) R dX7_isWithin_11 rfl ?_
      exact rl_ireturn (pc := 15) E dX7_isWithin_15 rfl rfl (e_si (by first | (rw [isW_f1 c2]; rfl) | (rw [isW_f2 c7]; rfl) | (rw [isW_t (Int32.not_lt.mp c2) (Int32.not_lt.mp c7)]; rfl)))
theorem bs_X7_isLane {v : Int32} : BS (d + 2) true yX7_isLane [.int v] h (some (.int (bI (isW v 0 2)))) h := by
  refine bs_of mtX7_isLane rfl (Nat.le_of_ble_eq_true rfl) (fun K R RV RS E => ?_)
  show K 0 [_] [] _
  refine rl_iload_n (pc := 0) R dX7_isLane_0 rfl ?_
  refine rl_iconst (pc := 1) R dX7_isLane_1 ic_0 ?_
  refine rl_iconst (pc := 2) R dX7_isLane_2 ic_2 ?_
  refine rl_S3 (pc := 3) RS dX7_isLane_3 lkX7_76 (Nat.le_of_ble_eq_true rfl) (bs_X7_isWithin) ?_
  exact rl_ireturn (pc := 6) E dX7_isLane_6 rfl (bI_nar _) (rfl)
theorem bs_X7_isThing {w v : Int32} : BS (d + 2) true yX7_isThing [.int w, .int v] h (some (.int (bI (isTh w v)))) h := by
  refine bs_of mtX7_isThing rfl (Nat.le_of_ble_eq_true rfl) (fun K R RV RS E => ?_)
  show K 0 [_, _] [] _
  refine rl_iload_n (pc := 0) R dX7_isThing_0 rfl ?_
  refine rl_iconst (pc := 1) R dX7_isThing_1 ic_0 ?_
  refine rl_iconst (pc := 2) R dX7_isThing_2 ic_2 ?_
  refine rl_S3 (pc := 3) RS dX7_isThing_3 lkX7_76 (Nat.le_of_ble_eq_true rfl) (bs_X7_isWithin) ?_
  refine rl_if_eq (pc := 6) (tgt := 31) R dX7_isThing_6 rfl (fun c6 => ?_) (fun c6 => ?_)
  · refine rl_iconst (pc := 31) R dX7_isThing_31 ic_0 ?_
    exact rl_ireturn (pc := 32) E dX7_isThing_32 rfl rfl (e_si (by simp only [bI_0, bI_n0] at *; simp_all [isTh, bI]))
  · refine rl_iload_n (pc := 9) R dX7_isThing_9 rfl ?_
    refine rl_iconst (pc := 10) R dX7_isThing_10 ic_0 ?_
    refine rl_iload_n (pc := 11) R dX7_isThing_11 rfl ?_
    refine rl_if_ne (pc := 12) (tgt := 19) R dX7_isThing_12 rfl (fun c12 => ?_) (fun c12 => ?_)
    · refine rl_bipush (pc := 19) R dX7_isThing_19 bc_99 ?_
      refine rl_S3 (pc := 21) RS dX7_isThing_21 lkX7_76 (Nat.le_of_ble_eq_true rfl) (bs_X7_isWithin) ?_
      refine rl_if_eq (pc := 24) (tgt := 31) R dX7_isThing_24 rfl (fun c24 => ?_) (fun c24 => ?_)
      · refine rl_iconst (pc := 31) R dX7_isThing_31 ic_0 ?_
        exact rl_ireturn (pc := 32) E dX7_isThing_32 rfl rfl (e_si (by simp only [bI_0, bI_n0] at *; simp_all [isTh, bI]))
      · refine rl_iconst (pc := 27) R dX7_isThing_27 ic_1 ?_
        refine rl_goto (pc := 28) (tgt := 32) R dX7_isThing_28 rfl ?_
        exact rl_ireturn (pc := 32) E dX7_isThing_32 rfl rfl (e_si (by simp only [bI_0, bI_n0] at *; simp_all [isTh, bI]))
    · refine rl_iconst (pc := 15) R dX7_isThing_15 ic_1 ?_
      refine rl_goto (pc := 16) (tgt := 21) R dX7_isThing_16 rfl ?_
      refine rl_S3 (pc := 21) RS dX7_isThing_21 lkX7_76 (Nat.le_of_ble_eq_true rfl) (bs_X7_isWithin) ?_
      refine rl_if_eq (pc := 24) (tgt := 31) R dX7_isThing_24 rfl (fun c24 => ?_) (fun c24 => ?_)
      · refine rl_iconst (pc := 31) R dX7_isThing_31 ic_0 ?_
        exact rl_ireturn (pc := 32) E dX7_isThing_32 rfl rfl (e_si (by simp only [bI_0, bI_n0] at *; simp_all [isTh, bI]))
      · refine rl_iconst (pc := 27) R dX7_isThing_27 ic_1 ?_
        refine rl_goto (pc := 28) (tgt := 32) R dX7_isThing_28 rfl ?_
        exact rl_ireturn (pc := 32) E dX7_isThing_32 rfl rfl (e_si (by simp only [bI_0, bI_n0] at *; simp_all [isTh, bI]))
theorem bs_X7_isSetting {w v : Int32} : BS (d + 2) true yX7_isSetting [.int w, .int v] h (some (.int (bI (isSe w v)))) h := by
  refine bs_of mtX7_isSetting rfl (Nat.le_of_ble_eq_true rfl) (fun K R RV RS E => ?_)
  show K 0 [_, _] [] _
  refine rl_iload_n (pc := 0) R dX7_isSetting_0 rfl ?_
  refine rl_table4 (pc := 1) R 32 40 47 55 63 dX7_isSetting_1 rfl rfl rfl rfl rfl (fun c0 => ?_) (fun c1 => ?_) (fun c2 => ?_) (fun c3 => ?_) (fun c0 c1 c2 c3 => ?_)
  · subst c0
    refine rl_iload_n (pc := 32) R dX7_isSetting_32 rfl ?_
    refine rl_iconst (pc := 33) R dX7_isSetting_33 ic_0 ?_
    refine rl_bipush (pc := 34) R dX7_isSetting_34 bc_9 ?_
    refine rl_S3 (pc := 36) RS dX7_isSetting_36 lkX7_76 (Nat.le_of_ble_eq_true rfl) (bs_X7_isWithin) ?_
    exact rl_ireturn (pc := 39) E dX7_isSetting_39 rfl (bI_nar _) (rfl)
  · subst c1
    refine rl_iload_n (pc := 40) R dX7_isSetting_40 rfl ?_
    refine rl_iconst (pc := 41) R dX7_isSetting_41 ic_0 ?_
    refine rl_iconst (pc := 42) R dX7_isSetting_42 ic_3 ?_
    refine rl_S3 (pc := 43) RS dX7_isSetting_43 lkX7_76 (Nat.le_of_ble_eq_true rfl) (bs_X7_isWithin) ?_
    exact rl_ireturn (pc := 46) E dX7_isSetting_46 rfl (bI_nar _) (rfl)
  · subst c2
    refine rl_iload_n (pc := 47) R dX7_isSetting_47 rfl ?_
    refine rl_iconst (pc := 48) R dX7_isSetting_48 ic_0 ?_
    refine rl_bipush (pc := 49) R dX7_isSetting_49 bc_8 ?_
    refine rl_S3 (pc := 51) RS dX7_isSetting_51 lkX7_76 (Nat.le_of_ble_eq_true rfl) (bs_X7_isWithin) ?_
    exact rl_ireturn (pc := 54) E dX7_isSetting_54 rfl (bI_nar _) (rfl)
  · subst c3
    refine rl_iload_n (pc := 55) R dX7_isSetting_55 rfl ?_
    refine rl_iconst (pc := 56) R dX7_isSetting_56 ic_0 ?_
    refine rl_ldc (pc := 57) R dX7_isSetting_57 kcX7_219 ?_
    refine rl_S3 (pc := 59) RS dX7_isSetting_59 lkX7_76 (Nat.le_of_ble_eq_true rfl) (bs_X7_isWithin) ?_
    exact rl_ireturn (pc := 62) E dX7_isSetting_62 rfl (bI_nar _) (rfl)
  · refine rl_iconst (pc := 63) R dX7_isSetting_63 ic_0 ?_
    exact rl_ireturn (pc := 64) E dX7_isSetting_64 rfl rfl (e_si (by simp_all [isSe, bI]))
theorem bs_X7_holds {s : Int32} {i : Nat} : BS (d + 1) true yX7_holds [.int s, .int (nI i)] h (some (.int (bI (bt s i)))) h := by
  refine bs_of mtX7_holds rfl (Nat.le_of_ble_eq_true rfl) (fun K R RV RS E => ?_)
  show K 0 [_, _] [] _
  refine rl_iload_n (pc := 0) R dX7_holds_0 rfl ?_
  refine rl_iload_n (pc := 1) R dX7_holds_1 rfl ?_
  refine rl_ishr (pc := 2) R dX7_holds_2 ?_
  refine rl_iconst (pc := 3) R dX7_holds_3 ic_1 ?_
  refine rl_iand (pc := 4) R dX7_holds_4 ?_
  refine rl_if_eq (pc := 5) (tgt := 12) R dX7_holds_5 rfl (fun c5 => ?_) (fun c5 => ?_)
  · refine rl_iconst (pc := 12) R dX7_holds_12 ic_0 ?_
    exact rl_ireturn (pc := 13) E dX7_holds_13 rfl rfl (e_si (by simp_all [bt, bI]))
  · refine rl_iconst (pc := 8) R dX7_holds_8 ic_1 ?_
    refine rl_goto (pc := 9) (tgt := 13) R dX7_holds_9 rfl ?_
    exact rl_ireturn (pc := 13) E dX7_holds_13 rfl rfl (e_si (by simp_all [bt, bI]))
theorem bs_X7_isOpen {law : Int32} {i : Nat} (hi : i < 2147483648) : BS (d + 1) true yX7_isOpen [.int law, .int (nI i)] h (some (.int (bI (opn law i)))) h := by
  refine bs_of mtX7_isOpen rfl (Nat.le_of_ble_eq_true rfl) (fun K R RV RS E => ?_)
  show K 0 [_, _] [] _
  refine rl_iload_n (pc := 0) R dX7_isOpen_0 rfl ?_
  refine rl_iconst (pc := 1) R dX7_isOpen_1 ic_1 ?_
  refine rl_icmp_ne (pc := 2) (tgt := 14) R dX7_isOpen_2 rfl (fun c2 => ?_) (fun c2 => ?_)
  · refine rl_iconst (pc := 14) R dX7_isOpen_14 ic_1 ?_
    refine rl_goto (pc := 15) (tgt := 19) R dX7_isOpen_15 rfl ?_
    exact rl_ireturn (pc := 19) E dX7_isOpen_19 rfl rfl (e_si (by have e := nI_eq (a := i % 7) (b := 6) (by omega) (by decide); have e6 : (6 : Int32) = nI 6 := rfl; simp_all [opn, bI]))
  · refine rl_iload_n (pc := 5) R dX7_isOpen_5 rfl ?_
    refine rl_bipush (pc := 6) R dX7_isOpen_6 bc_7 ?_
    refine rl_irem (pc := 8) R dX7_isOpen_8 (by decide) ?_
    refine rl_bipush (pc := 9) R dX7_isOpen_9 bc_6 ?_
    rw [rem7 hi]
    refine rl_icmp_eq (pc := 11) (tgt := 18) R dX7_isOpen_11 rfl (fun c11 => ?_) (fun c11 => ?_)
    · refine rl_iconst (pc := 18) R dX7_isOpen_18 ic_0 ?_
      exact rl_ireturn (pc := 19) E dX7_isOpen_19 rfl rfl (e_si (by have e := nI_eq (a := i % 7) (b := 6) (by omega) (by decide); have e6 : (6 : Int32) = nI 6 := rfl; simp_all [opn, bI]))
    · refine rl_iconst (pc := 14) R dX7_isOpen_14 ic_1 ?_
      refine rl_goto (pc := 15) (tgt := 19) R dX7_isOpen_15 rfl ?_
      exact rl_ireturn (pc := 19) E dX7_isOpen_19 rfl rfl (e_si (by have e := nI_eq (a := i % 7) (b := 6) (by omega) (by decide); have e6 : (6 : Int32) = nI 6 := rfl; simp_all [opn, bI]))
theorem bs_X7_openAgain {law : Int32} {i : Nat} (hi : i < 1000000) : BS (d + 1) true yX7_openAgain [.int law, .int (nI i)] h (some (.int (nI (oAg law i)))) h := by
  refine bs_of mtX7_openAgain rfl (Nat.le_of_ble_eq_true rfl) (fun K R RV RS E => ?_)
  show K 0 [_, _] [] _
  refine rl_iload_n (pc := 0) R dX7_openAgain_0 rfl ?_
  refine rl_look2 (pc := 1) R 28 32 48 dX7_openAgain_1 rfl rfl rfl (fun c2 => ?_) (fun c3 => ?_) (fun c2 c3 => ?_)
  · subst c2
    refine rl_iload_n (pc := 28) R dX7_openAgain_28 rfl ?_
    refine rl_iconst (pc := 29) R dX7_openAgain_29 ic_2 ?_
    refine rl_iadd (pc := 30) R dX7_openAgain_30 ?_
    exact rl_ireturn (pc := 31) E dX7_openAgain_31 rfl rfl (e_si (nI_add i 2).symm)
  · subst c3
    refine rl_iload_n (pc := 32) R dX7_openAgain_32 rfl ?_
    refine rl_iconst (pc := 33) R dX7_openAgain_33 ic_2 ?_
    refine rl_iadd (pc := 34) R dX7_openAgain_34 ?_
    refine rl_iload_n (pc := 35) R dX7_openAgain_35 rfl ?_
    refine rl_bipush (pc := 36) R dX7_openAgain_36 bc_7 ?_
    refine rl_idiv (pc := 38) R dX7_openAgain_38 (by decide) ?_
    refine rl_iconst (pc := 39) R dX7_openAgain_39 ic_1 ?_
    refine rl_iadd (pc := 40) R dX7_openAgain_40 ?_
    refine rl_bipush (pc := 41) R dX7_openAgain_41 bc_7 ?_
    refine rl_imul (pc := 43) R dX7_openAgain_43 ?_
    refine rl_max (pc := 44) R dX7_openAgain_44 lmX7_227 (Nat.le_of_ble_eq_true rfl) ?_
    exact rl_ireturn (pc := 47) E dX7_openAgain_47 rfl rfl (e_si (by rw [div7 (by omega), show nI i + 2 = nI (i + 2) from nI_add i 2, show nI (i / 7) + 1 = nI (i / 7 + 1) from nI_add _ 1, show nI (i / 7 + 1) * 7 = nI ((i / 7 + 1) * 7) from pk_mul _ 7]; simp only [nI_ltI (a := i + 2) (b := (i / 7 + 1) * 7) (by omega) (by omega)]; show nI (max (i + 2) ((i / 7 + 1) * 7)) = _; split <;> congr 1 <;> omega))
  · refine rl_iload_n (pc := 48) R dX7_openAgain_48 rfl ?_
    refine rl_iconst (pc := 49) R dX7_openAgain_49 ic_1 ?_
    refine rl_iadd (pc := 50) R dX7_openAgain_50 ?_
    exact rl_ireturn (pc := 51) E dX7_openAgain_51 rfl rfl (e_si (by simp only [oAg, if_neg c2, if_neg c3]; exact (nI_add i 1).symm))
theorem bs_X7_byteFromLowest {w : Int64} {i : Nat} : BS (d + 1) true yX7_byteFromLowest [.long w, .int (nI i)] h (some (.int (byt w i))) h := by
  refine bs_of mtX7_byteFromLowest rfl (Nat.le_of_ble_eq_true rfl) (fun K R RV RS E => ?_)
  show K 0 [_, _, _] [] _
  refine rl_lload_n (pc := 0) R dX7_byteFromLowest_0 rfl ?_
  refine rl_bipush (pc := 1) R dX7_byteFromLowest_1 bc_8 ?_
  refine rl_iload_n (pc := 3) R dX7_byteFromLowest_3 rfl ?_
  refine rl_imul (pc := 4) R dX7_byteFromLowest_4 ?_
  refine rl_lushr (pc := 5) R dX7_byteFromLowest_5 ?_
  refine rl_l2i (pc := 6) R dX7_byteFromLowest_6 ?_
  refine rl_sipush (pc := 7) R dX7_byteFromLowest_7 sc_255 ?_
  refine rl_iand (pc := 10) R dX7_byteFromLowest_10 ?_
  exact rl_ireturn (pc := 11) E dX7_byteFromLowest_11 rfl rfl (rfl)
theorem bs_X7_areTextBytes {w : Int64} {m : Nat} (hm : m ≤ 8) : BS (d + 2) true yX7_areTextBytes [.long w, .int (nI m)] h (some (.int (bI (tbA w m 0)))) h := by
  refine bs_of mtX7_areTextBytes rfl (Nat.le_of_ble_eq_true rfl) (fun K R RV RS E => ?_)
  show K 0 [_, _, _, _] [] _
  have loop : ∀ j i : Nat, i + j = m → tbA w j i = tbA w m 0 → K 2 [some (.long w), none, some (.int (nI m)), some (.int (nI i))] [] h := by
    intro j
    induction j with
    | zero =>
      intro i hij hs
      refine rl_iload_n (pc := 2) R dX7_areTextBytes_2 rfl ?_
      refine rl_iload_n (pc := 3) R dX7_areTextBytes_3 rfl ?_
      refine rl_icmp_ge (pc := 4) (tgt := 30) R dX7_areTextBytes_4 rfl (fun c4 => ?_) (fun c4 => absurd (nI_le (by omega) (by omega)) c4)
      refine rl_iconst (pc := 30) R dX7_areTextBytes_30 ic_1 ?_
      exact rl_ireturn (pc := 31) E dX7_areTextBytes_31 rfl rfl (e_si (by rw [← hs]; rfl))
    | succ j ih =>
      intro i hij hs
      refine rl_iload_n (pc := 2) R dX7_areTextBytes_2 rfl ?_
      refine rl_iload_n (pc := 3) R dX7_areTextBytes_3 rfl ?_
      refine rl_icmp_ge (pc := 4) (tgt := 30) R dX7_areTextBytes_4 rfl (fun c4 => absurd c4 (nI_ge (by omega) (by omega))) (fun c4 => ?_)
      refine rl_lload_n (pc := 7) R dX7_areTextBytes_7 rfl ?_
      refine rl_iload_n (pc := 8) R dX7_areTextBytes_8 rfl ?_
      refine rl_S2 (pc := 9) RS dX7_areTextBytes_9 lkX7_220 (Nat.le_of_ble_eq_true rfl) (bs_X7_byteFromLowest) ?_
      refine rl_bipush (pc := 12) R dX7_areTextBytes_12 bc_32 ?_
      refine rl_bipush (pc := 14) R dX7_areTextBytes_14 bc_126 ?_
      refine rl_S3 (pc := 16) RS dX7_areTextBytes_16 lkX7_76 (Nat.le_of_ble_eq_true rfl) (bs_X7_isWithin) ?_
      refine rl_if_ne (pc := 19) (tgt := 24) R dX7_areTextBytes_19 rfl (fun c19 => ?_) (fun c19 => ?_)
      · rw [bI_n0] at c19
        refine rl_iinc (pc := 24) R dX7_areTextBytes_24 rfl (ii_n i) rfl ?_
        show K _ [_, _, _, _] _ _
        refine rl_goto (pc := 27) (tgt := 2) R dX7_areTextBytes_27 rfl (ih (i + 1) (by omega) (by rw [← hs]; simp only [tbA]; rw [c19]; rfl))
      · rw [bI_0] at c19
        refine rl_iconst (pc := 22) R dX7_areTextBytes_22 ic_0 ?_
        exact rl_ireturn (pc := 23) E dX7_areTextBytes_23 rfl rfl (e_si (by rw [← hs]; simp only [tbA]; rw [c19]; rfl))
  refine rl_iconst (pc := 0) R dX7_areTextBytes_0 ic_0 ?_
  refine rl_istore_n (pc := 1) R dX7_areTextBytes_1 (Nat.le_of_ble_eq_true rfl) rfl ?_
  show K _ [_, _, _, _] _ _
  exact loop m 0 (by omega) rfl
theorem bs_X7_areWords {w t l : Int32} : BS (d + 1) true yX7_areWords [.int w, .int t, .int l] h (some (.int (bI (arW w t l)))) h := by
  refine bs_of mtX7_areWords rfl (Nat.le_of_ble_eq_true rfl) (fun K R RV RS E => ?_)
  show K 0 [_, _, _] [] _
  refine rl_iload_n (pc := 0) R dX7_areWords_0 rfl ?_
  refine rl_bipush (pc := 1) R dX7_areWords_1 bc_28 ?_
  rw [show (28 : Int32) = 28 from rfl]
  refine rl_ishr (pc := 3) R dX7_areWords_3 ?_
  rw [show (28 : Int32) &&& 31 = 28 from by decide]
  refine rl_if_ne (pc := 4) (tgt := 33) R dX7_areWords_4 rfl (fun c4 => ?_) (fun c4 => ?_)
  · refine rl_iconst (pc := 33) R dX7_areWords_33 ic_0 ?_
    exact rl_ireturn (pc := 34) E dX7_areWords_34 rfl rfl (e_si (by simp_all [arW, bI]))
  · refine rl_iload_n (pc := 7) R dX7_areWords_7 rfl ?_
    refine rl_iload_n (pc := 8) R dX7_areWords_8 rfl ?_
    refine rl_iconst (pc := 9) R dX7_areWords_9 ic_m1 ?_
    refine rl_ixor (pc := 10) R dX7_areWords_10 ?_
    refine rl_iand (pc := 11) R dX7_areWords_11 ?_
    refine rl_if_ne (pc := 12) (tgt := 33) R dX7_areWords_12 rfl (fun c12 => ?_) (fun c12 => ?_)
    · refine rl_iconst (pc := 33) R dX7_areWords_33 ic_0 ?_
      exact rl_ireturn (pc := 34) E dX7_areWords_34 rfl rfl (e_si (by simp_all [arW, bI]))
    · refine rl_iload_n (pc := 15) R dX7_areWords_15 rfl ?_
      refine rl_iload_n (pc := 16) R dX7_areWords_16 rfl ?_
      refine rl_iconst (pc := 17) R dX7_areWords_17 ic_m1 ?_
      refine rl_ixor (pc := 18) R dX7_areWords_18 ?_
      refine rl_iand (pc := 19) R dX7_areWords_19 ?_
      refine rl_if_ne (pc := 20) (tgt := 33) R dX7_areWords_20 rfl (fun c20 => ?_) (fun c20 => ?_)
      · refine rl_iconst (pc := 33) R dX7_areWords_33 ic_0 ?_
        exact rl_ireturn (pc := 34) E dX7_areWords_34 rfl rfl (e_si (by simp_all [arW, bI]))
      · refine rl_iload_n (pc := 23) R dX7_areWords_23 rfl ?_
        refine rl_iload_n (pc := 24) R dX7_areWords_24 rfl ?_
        refine rl_iand (pc := 25) R dX7_areWords_25 ?_
        refine rl_if_ne (pc := 26) (tgt := 33) R dX7_areWords_26 rfl (fun c26 => ?_) (fun c26 => ?_)
        · refine rl_iconst (pc := 33) R dX7_areWords_33 ic_0 ?_
          exact rl_ireturn (pc := 34) E dX7_areWords_34 rfl rfl (e_si (by simp_all [arW, bI]))
        · refine rl_iconst (pc := 29) R dX7_areWords_29 ic_1 ?_
          refine rl_goto (pc := 30) (tgt := 34) R dX7_areWords_30 rfl ?_
          exact rl_ireturn (pc := 34) E dX7_areWords_34 rfl rfl (e_si (by simp_all [arW, bI]))
end ST
