/-! THE CLASS -/
abbrev x0O (im : Int32) : sm_C := hO 7 [.ref 1, .ref 5, .int im, .ref 9, .ref 11, .ref 13, .ref 16, .ref 19]
def hAl (n : Nat) (s : Int32) : Bool := decide (ush s (nI n) = 0)
def rfO (n : Nat) (law lies s : Int32) (nw : Nat → Int32) : Int32 := if hAl n s then (if fwr law lies s nw n 0 0 = -4 then 0 else -2) else -1
def gdN : Nat → Nat → Nat → Nat
  | 0, a, _ => a
  | j + 1, a, b => if b = 0 then a else gdN j b (a % b)
def lsOk (x y both a : Int32) : Bool := decide (0 < x * a - (both - a)) && decide (0 < y * (both - a) - a)
def lsL (x y : Int32) (both : Nat) : Nat → Nat → Int32
  | 0, _ => -4
  | j + 1, a => if lsOk x y (nI both) (nI a) then nI a else lsL x y both j (a + 1)
def lsS (x y : Int32) (both : Nat) : Int32 := lsL x y both (min 99 (both - 1) + 1 - max 1 (both - 99)) (max 1 (both - 99))
def btX (x y what : Int32) : Nat → Nat → Int32
  | 0, _ => -4
  | j + 1, both => if lsS x y both = -4 then btX x y what j (both + 1) else if what = 0 then lsS x y both else nI both - lsS x y both
section S2
variable {d : Nat} {h : List sm_C}
theorem bs_X7_greatestDivisor {a b : Nat} (ha : a < 2147483648) (hb : b < 2147483648) : BS (d + 1) true yX7_greatestDivisor [.int (nI a), .int (nI b)] h (some (.int (nI (gdN 64 b a)))) h := by
  refine bs_of mtX7_greatestDivisor rfl (Nat.le_of_ble_eq_true rfl) (fun K R RV RS E => ?_)
  show K 0 [_, _, _, _, _, _] [] _
  have loop : ∀ (j i x y : Nat) (z : Option Value), i + j = 64 → x < 2147483648 → y < 2147483648 → gdN j x y = gdN 64 b a → K 7 [some (.int (nI a)), some (.int (nI b)), some (.int (nI x)), some (.int (nI y)), some (.int (nI i)), z] [] h := by
    intro j
    induction j with
    | zero =>
      intro i x y z hij hx hy hs
      refine rl_iload (pc := 7) R dX7_greatestDivisor_7 rfl ?_
      refine rl_bipush (pc := 9) R dX7_greatestDivisor_9 bc_64 ?_
      refine rl_icmp_ge (pc := 11) (tgt := 34) R dX7_greatestDivisor_11 rfl (fun c11 => ?_) (fun c11 => absurd (nI_le (a := 64) (by omega) (by omega)) c11)
      refine rl_iload_n (pc := 34) R dX7_greatestDivisor_34 rfl ?_
      exact rl_ireturn (pc := 35) E dX7_greatestDivisor_35 rfl rfl (e_si (by rw [← hs]; rfl))
    | succ j ih =>
      intro i x y z hij hx hy hs
      rcases Nat.eq_zero_or_pos y with rfl | hp
      · refine rl_iload (pc := 7) R dX7_greatestDivisor_7 rfl ?_
        refine rl_bipush (pc := 9) R dX7_greatestDivisor_9 bc_64 ?_
        refine rl_icmp_ge (pc := 11) (tgt := 34) R dX7_greatestDivisor_11 rfl (fun c11 => absurd c11 (nI_ge (b := 64) (by omega) (by omega))) (fun c11 => ?_)
        refine rl_iload_n (pc := 14) R dX7_greatestDivisor_14 rfl ?_
        refine rl_if_le (pc := 15) (tgt := 34) R dX7_greatestDivisor_15 rfl (fun c15 => ?_) (fun c15 => absurd (by decide) c15)
        refine rl_iload_n (pc := 34) R dX7_greatestDivisor_34 rfl ?_
        exact rl_ireturn (pc := 35) E dX7_greatestDivisor_35 rfl rfl (e_si (by rw [← hs]; rfl))
      · refine rl_iload (pc := 7) R dX7_greatestDivisor_7 rfl ?_
        refine rl_bipush (pc := 9) R dX7_greatestDivisor_9 bc_64 ?_
        refine rl_icmp_ge (pc := 11) (tgt := 34) R dX7_greatestDivisor_11 rfl (fun c11 => absurd c11 (nI_ge (b := 64) (by omega) (by omega))) (fun c11 => ?_)
        refine rl_iload_n (pc := 14) R dX7_greatestDivisor_14 rfl ?_
        refine rl_if_le (pc := 15) (tgt := 34) R dX7_greatestDivisor_15 rfl (fun c15 => absurd c15 (nI_nle hp hy)) (fun c15 => ?_)
        refine rl_iload_n (pc := 18) R dX7_greatestDivisor_18 rfl ?_
        refine rl_iload_n (pc := 19) R dX7_greatestDivisor_19 rfl ?_
        refine rl_irem (pc := 20) R dX7_greatestDivisor_20 (nI_ne0 hp hy) ?_
        rw [pk_rem hx hp hy]
        refine rl_istore (pc := 21) R dX7_greatestDivisor_21 (Nat.le_of_ble_eq_true rfl) rfl ?_
        show K _ [_, _, _, _, _, _] _ _
        refine rl_iload_n (pc := 23) R dX7_greatestDivisor_23 rfl ?_
        refine rl_istore_n (pc := 24) R dX7_greatestDivisor_24 (Nat.le_of_ble_eq_true rfl) rfl ?_
        show K _ [_, _, _, _, _, _] _ _
        refine rl_iload (pc := 25) R dX7_greatestDivisor_25 rfl ?_
        refine rl_istore_n (pc := 27) R dX7_greatestDivisor_27 (Nat.le_of_ble_eq_true rfl) rfl ?_
        show K _ [_, _, _, _, _, _] _ _
        refine rl_iinc (pc := 28) R dX7_greatestDivisor_28 rfl (ii_n i) rfl ?_
        show K _ [_, _, _, _, _, _] _ _
        refine rl_goto (pc := 31) (tgt := 7) R dX7_greatestDivisor_31 rfl (ih (i + 1) y (x % y) _ (by omega) hy (Nat.lt_trans (Nat.mod_lt _ hp) hy) (by rw [← hs, gdN, if_neg (by omega)]))
  refine rl_iload_n (pc := 0) R dX7_greatestDivisor_0 rfl ?_
  refine rl_istore_n (pc := 1) R dX7_greatestDivisor_1 (Nat.le_of_ble_eq_true rfl) rfl ?_
  show K _ [_, _, _, _, _, _] _ _
  refine rl_iload_n (pc := 2) R dX7_greatestDivisor_2 rfl ?_
  refine rl_istore_n (pc := 3) R dX7_greatestDivisor_3 (Nat.le_of_ble_eq_true rfl) rfl ?_
  show K _ [_, _, _, _, _, _] _ _
  refine rl_iconst (pc := 4) R dX7_greatestDivisor_4 ic_0 ?_
  refine rl_istore (pc := 5) R dX7_greatestDivisor_5 (Nat.le_of_ble_eq_true rfl) rfl ?_
  show K _ [_, _, _, _, _, _] _ _
  exact loop 64 0 b a none rfl hb ha rfl
theorem bs_X7_leastSureStake {x y : Int32} {both : Nat} (hb : 2 ≤ both) (hb2 : both ≤ 198) : BS (d + 1) true yX7_leastSureStake [.int x, .int y, .int (nI both)] h (some (.int (lsS x y both))) h := by
  refine bs_of mtX7_leastSureStake rfl (Nat.le_of_ble_eq_true rfl) (fun K R RV RS E => ?_)
  show K 0 [_, _, _, _, _] [] _
  have hmin : (if nI both - 1 < 99 then nI both - 1 else 99) = nI (min 99 (both - 1)) := by
    obtain ⟨q, rfl⟩ : ∃ q, both = q + 1 := ⟨both - 1, by omega⟩
    rw [nI_pred, Nat.add_sub_cancel]
    exact nI_min (x := 99) (by decide) (by omega)
  have hmax : (if 1 < nI both - 99 then nI both - 99 else 1) = nI (max 1 (both - 99)) := by
    rcases Nat.lt_or_ge both 99 with q | q
    · have e : ¬ (1 : Int32) < nI both - 99 := by
        have h1 : nI both - 99 < 0 := pk_sneg (b := 99) (by decide) q
        intro h2
        have h3 := Int32.lt_iff_toInt_lt.mp h1
        have h4 := Int32.lt_iff_toInt_lt.mp h2
        have h5 : (1 : Int32).toInt = 1 := by decide
        have h6 : (0 : Int32).toInt = 0 := by decide
        omega
      rw [if_neg e, show max 1 (both - 99) = 1 by omega]; rfl
    · rw [show nI both - 99 = nI (both - 99) from pk_sub (b := 99) q]
      simp only [show (1 : Int32) = nI 1 from rfl, nI_ltI (a := 1) (b := both - 99) (by decide) (by omega)]
      split <;> congr 1 <;> omega
  have loop : ∀ (j a : Nat) (z : Option Value), a + j = min 99 (both - 1) + 1 → 1 ≤ a → lsL x y both j a = lsS x y both → K 9 [some (.int x), some (.int y), some (.int (nI both)), some (.int (nI a)), z] [] h := by
    intro j
    induction j with
    | zero =>
      intro a z hj ha hs
      refine rl_iload_n (pc := 9) R dX7_leastSureStake_9 rfl ?_
      refine rl_bipush (pc := 10) R dX7_leastSureStake_10 bc_99 ?_
      refine rl_iload_n (pc := 12) R dX7_leastSureStake_12 rfl ?_
      refine rl_iconst (pc := 13) R dX7_leastSureStake_13 ic_1 ?_
      refine rl_isub (pc := 14) R dX7_leastSureStake_14 ?_
      refine rl_min (pc := 15) R dX7_leastSureStake_15 lmX7_232 (Nat.le_of_ble_eq_true rfl) ?_
      rw [hmin]
      refine rl_icmp_gt (pc := 18) (tgt := 52) R dX7_leastSureStake_18 rfl (fun c18 => ?_) (fun c18 => absurd (nI_lt (by omega) (by omega)) c18)
      refine rl_bipush (pc := 52) R dX7_leastSureStake_52 bc_m4 ?_
      exact rl_ireturn (pc := 54) E dX7_leastSureStake_54 rfl rfl (e_si (by rw [← hs]; rfl))
    | succ j ih =>
      intro a z hj ha hs
      have nx : lsOk x y (nI both) (nI a) = false → K 46 [some (.int x), some (.int y), some (.int (nI both)), some (.int (nI a)), some (.int (nI both - nI a))] [] h := by
        intro hno
        refine rl_iinc (pc := 46) R dX7_leastSureStake_46 rfl (ii_n a) rfl ?_
        show K _ [_, _, _, _, _] _ _
        refine rl_goto (pc := 49) (tgt := 9) R dX7_leastSureStake_49 rfl (ih (a + 1) _ (by omega) (by omega) (by rw [← hs, lsL, hno]; rfl))
      refine rl_iload_n (pc := 9) R dX7_leastSureStake_9 rfl ?_
      refine rl_bipush (pc := 10) R dX7_leastSureStake_10 bc_99 ?_
      refine rl_iload_n (pc := 12) R dX7_leastSureStake_12 rfl ?_
      refine rl_iconst (pc := 13) R dX7_leastSureStake_13 ic_1 ?_
      refine rl_isub (pc := 14) R dX7_leastSureStake_14 ?_
      refine rl_min (pc := 15) R dX7_leastSureStake_15 lmX7_232 (Nat.le_of_ble_eq_true rfl) ?_
      rw [hmin]
      refine rl_icmp_gt (pc := 18) (tgt := 52) R dX7_leastSureStake_18 rfl (fun c18 => absurd c18 (nI_nlt (by omega) (by omega))) (fun c18 => ?_)
      refine rl_iload_n (pc := 21) R dX7_leastSureStake_21 rfl ?_
      refine rl_iload_n (pc := 22) R dX7_leastSureStake_22 rfl ?_
      refine rl_isub (pc := 23) R dX7_leastSureStake_23 ?_
      refine rl_istore (pc := 24) R dX7_leastSureStake_24 (Nat.le_of_ble_eq_true rfl) rfl ?_
      show K _ [_, _, _, _, _] _ _
      refine rl_iload_n (pc := 26) R dX7_leastSureStake_26 rfl ?_
      refine rl_iload_n (pc := 27) R dX7_leastSureStake_27 rfl ?_
      refine rl_imul (pc := 28) R dX7_leastSureStake_28 ?_
      refine rl_iload (pc := 29) R dX7_leastSureStake_29 rfl ?_
      refine rl_isub (pc := 31) R dX7_leastSureStake_31 ?_
      refine rl_if_le (pc := 32) (tgt := 46) R dX7_leastSureStake_32 rfl (fun c32 => ?_) (fun c32 => ?_)
      · exact nx (by rw [lsOk, decide_eq_false (Int32.not_lt.mpr c32)]; rfl)
      · rw [Int32.not_le] at c32
        refine rl_iload_n (pc := 35) R dX7_leastSureStake_35 rfl ?_
        refine rl_iload (pc := 36) R dX7_leastSureStake_36 rfl ?_
        refine rl_imul (pc := 38) R dX7_leastSureStake_38 ?_
        refine rl_iload_n (pc := 39) R dX7_leastSureStake_39 rfl ?_
        refine rl_isub (pc := 40) R dX7_leastSureStake_40 ?_
        refine rl_if_le (pc := 41) (tgt := 46) R dX7_leastSureStake_41 rfl (fun c41 => ?_) (fun c41 => ?_)
        · exact nx (by rw [lsOk, decide_eq_false (Int32.not_lt.mpr c41), Bool.and_false])
        · rw [Int32.not_le] at c41
          refine rl_iload_n (pc := 44) R dX7_leastSureStake_44 rfl ?_
          exact rl_ireturn (pc := 45) E dX7_leastSureStake_45 rfl rfl (e_si (by rw [← hs, lsL, lsOk, decide_eq_true c32, decide_eq_true c41]; rfl))
  refine rl_iconst (pc := 0) R dX7_leastSureStake_0 ic_1 ?_
  refine rl_iload_n (pc := 1) R dX7_leastSureStake_1 rfl ?_
  refine rl_bipush (pc := 2) R dX7_leastSureStake_2 bc_99 ?_
  refine rl_isub (pc := 4) R dX7_leastSureStake_4 ?_
  refine rl_max (pc := 5) R dX7_leastSureStake_5 lmX7_227 (Nat.le_of_ble_eq_true rfl) ?_
  rw [hmax]
  refine rl_istore_n (pc := 8) R dX7_leastSureStake_8 (Nat.le_of_ble_eq_true rfl) rfl ?_
  show K _ [_, _, _, _, _] _ _
  exact loop _ _ none (by omega) (by omega) rfl
end S2
section X7
variable {d : Nat} {h : List sm_C} {im : Int32} {n : Nat} {nw wo co se : Nat → Int32}
theorem bs_findSheet_in {j : Nat} (x0 : h[0]? = some (x0O im)) (h19 : h[19]? = some (hQ 4 (fun j => some (20 + 2 * j)))) (hj : j < 4) : BS (d + 1) false yX7_findSheet [.ref 0, .int (nI j)] h (some (.ref (20 + 2 * j))) h := by
  refine bs_of mtX7_findSheet rfl (Nat.le_of_ble_eq_true rfl) (fun K R RV RS E => ?_)
  show K 0 [_, _] [] _
  refine rl_iload_n (pc := 0) R dX7_findSheet_0 rfl ?_
  refine rl_if_lt (pc := 1) (tgt := 22) R dX7_findSheet_1 rfl (fun c1 => absurd c1 (nI_pos (by omega))) (fun c1 => ?_)
  refine rl_iload_n (pc := 4) R dX7_findSheet_4 rfl ?_
  refine rl_aload_n (pc := 5) R dX7_findSheet_5 rfl ?_
  refine rl_getf (pc := 6) R dX7_findSheet_6 fkX7_53 (by first | assumption | rfl) rfl ?_
  refine rl_alenQ (pc := 9) R dX7_findSheet_9 h19 ?_
  refine rl_icmp_ge (pc := 10) (tgt := 22) R dX7_findSheet_10 rfl (fun c10 => absurd c10 (nI_ge (b := 4) hj (by decide))) (fun c10 => ?_)
  refine rl_aload_n (pc := 13) R dX7_findSheet_13 rfl ?_
  refine rl_getf (pc := 14) R dX7_findSheet_14 fkX7_53 (by first | assumption | rfl) rfl ?_
  refine rl_iload_n (pc := 17) R dX7_findSheet_17 rfl ?_
  refine rl_aald (pc := 18) R dX7_findSheet_18 h19 rfl hj (by decide) rfl ?_
  refine rl_goto (pc := 19) (tgt := 23) R dX7_findSheet_19 rfl ?_
  exact rl_areturn (pc := 23) E dX7_findSheet_23 rfl (Or.inr ⟨_, rfl⟩) rfl
theorem bs_findSheet_out {i : Int32} (x0 : h[0]? = some (x0O im)) (h19 : h[19]? = some (hQ 4 (fun j => some (20 + 2 * j)))) (hi : i < 0 ∨ 4 ≤ i) : BS (d + 1) false yX7_findSheet [.ref 0, .int i] h (some .null) h := by
  refine bs_of mtX7_findSheet rfl (Nat.le_of_ble_eq_true rfl) (fun K R RV RS E => ?_)
  show K 0 [_, _] [] _
  rcases hi with hi | hi
  · refine rl_iload_n (pc := 0) R dX7_findSheet_0 rfl ?_
    refine rl_if_lt (pc := 1) (tgt := 22) R dX7_findSheet_1 rfl (fun c1 => ?_) (fun c1 => absurd (hi) c1)
    refine rl_null (pc := 22) R dX7_findSheet_22 ?_
    exact rl_areturn (pc := 23) E dX7_findSheet_23 rfl (Or.inl rfl) rfl
  · refine rl_iload_n (pc := 0) R dX7_findSheet_0 rfl ?_
    refine rl_if_lt (pc := 1) (tgt := 22) R dX7_findSheet_1 rfl (fun c1 => ?_) (fun c1 => ?_)
    · exact absurd (Int32.lt_of_lt_of_le c1 (by decide)) (Int32.not_lt.mpr hi)
    · refine rl_iload_n (pc := 4) R dX7_findSheet_4 rfl ?_
      refine rl_aload_n (pc := 5) R dX7_findSheet_5 rfl ?_
      refine rl_getf (pc := 6) R dX7_findSheet_6 fkX7_53 (by first | assumption | rfl) rfl ?_
      refine rl_alenQ (pc := 9) R dX7_findSheet_9 h19 ?_
      refine rl_icmp_ge (pc := 10) (tgt := 22) R dX7_findSheet_10 rfl (fun c10 => ?_) (fun c10 => absurd (hi) c10)
      refine rl_null (pc := 22) R dX7_findSheet_22 ?_
      exact rl_areturn (pc := 23) E dX7_findSheet_23 rfl (Or.inl rfl) rfl
theorem bs_X7_refusalOf {s : Int32} (x0 : h[0]? = some (x0O im)) (hY : rY h 1 2 4 3 n nw wo co se) : BS (d + 5) false yX7_refusalOf [.ref 0, .int s] h (some (.int (rfO n (se 1) (se 0) s nw))) h := by
  have h1 := hY.1
  have h2 := hY.2.1.1
  refine bs_of mtX7_refusalOf rfl (Nat.le_of_ble_eq_true rfl) (fun K R RV RS E => ?_)
  show K 0 [_, _] [] _
  refine rl_aload_n (pc := 0) R dX7_refusalOf_0 rfl ?_
  refine rl_getf (pc := 1) R dX7_refusalOf_1 fkX7_10 (by first | assumption | rfl) rfl ?_
  refine rl_getf (pc := 4) R dX7_refusalOf_4 fkX7_62 (by first | assumption | rfl) rfl ?_
  refine rl_iload_n (pc := 7) R dX7_refusalOf_7 rfl ?_
  refine rl_V1 (pc := 8) RV dX7_refusalOf_8 lkX7_125 h2 rfl (Nat.le_of_ble_eq_true rfl) (bs_X0_hasAll h2) ?_
  change K 11 _ [.int (bI (hAl n s))] _
  refine rl_if_ne (pc := 11) (tgt := 16) R dX7_refusalOf_11 rfl (fun c11 => ?_) (fun c11 => ?_)
  · rw [bI_n0] at c11
    refine rl_aload_n (pc := 16) R dX7_refusalOf_16 rfl ?_
    refine rl_getf (pc := 17) R dX7_refusalOf_17 fkX7_10 (by first | assumption | rfl) rfl ?_
    refine rl_iload_n (pc := 20) R dX7_refusalOf_20 rfl ?_
    refine rl_V1 (pc := 21) RV dX7_refusalOf_21 lkX7_134 h1 rfl (Nat.le_of_ble_eq_true rfl) (bs_X6_firstWrong hY) ?_
    refine rl_bipush (pc := 24) R dX7_refusalOf_24 bc_m4 ?_
    refine rl_icmp_ne (pc := 26) (tgt := 33) R dX7_refusalOf_26 rfl (fun c26 => ?_) (fun c26 => ?_)
    · refine rl_bipush (pc := 33) R dX7_refusalOf_33 bc_m2 ?_
      exact rl_ireturn (pc := 35) E dX7_refusalOf_35 rfl rfl (e_si (by rw [rfO, if_pos c11]; first | rw [if_pos c26] | rw [if_neg c26]))
    · refine rl_iconst (pc := 29) R dX7_refusalOf_29 ic_0 ?_
      refine rl_goto (pc := 30) (tgt := 35) R dX7_refusalOf_30 rfl ?_
      exact rl_ireturn (pc := 35) E dX7_refusalOf_35 rfl rfl (e_si (by rw [rfO, if_pos c11]; first | rw [if_pos c26] | rw [if_neg c26]))
  · rw [bI_0] at c11
    refine rl_iconst (pc := 14) R dX7_refusalOf_14 ic_m1 ?_
    exact rl_ireturn (pc := 15) E dX7_refusalOf_15 rfl rfl (e_si (by rw [rfO, c11]; rfl))
theorem bs_X7_harmBy {g : Nat → Int32} {law trust : Int32} {lies : Nat} (x0 : h[0]? = some (x0O im)) (hY : rY h 1 2 4 3 n nw wo co se) (hH : rH h 13 14 15 g) (hl : lies ≤ 9) : BS (d + 6) false yX7_harmBy [.ref 0, .int law, .int (nI lies), .int trust] h (some (.int (rk n nw wo co law trust lies g lies))) (h.set 15 (hI 290 (rk n nw wo co law trust lies g))) := by
  have h1 := hY.1
  refine bs_of mtX7_harmBy rfl (Nat.le_of_ble_eq_true rfl) (fun K R RV RS E => ?_)
  show K 0 [_, _, _, _] [] _
  refine rl_aload_n (pc := 0) R dX7_harmBy_0 rfl ?_
  refine rl_getf (pc := 1) R dX7_harmBy_1 fkX7_40 (by first | assumption | rfl) rfl ?_
  refine rl_aload_n (pc := 4) R dX7_harmBy_4 rfl ?_
  refine rl_getf (pc := 5) R dX7_harmBy_5 fkX7_10 (by first | assumption | rfl) rfl ?_
  refine rl_getf (pc := 8) R dX7_harmBy_8 fkX7_62 (by first | assumption | rfl) rfl ?_
  refine rl_iload_n (pc := 11) R dX7_harmBy_11 rfl ?_
  refine rl_iload_n (pc := 12) R dX7_harmBy_12 rfl ?_
  refine rl_iload_n (pc := 13) R dX7_harmBy_13 rfl ?_
  refine rl_V4 (pc := 14) RV dX7_harmBy_14 lkX7_216 hH.1 rfl (Nat.le_of_ble_eq_true rfl) (bs_X1_reckon hY.2.1 hH (by decide) hl) ?_
  exact rl_ireturn (pc := 17) E dX7_harmBy_17 rfl rfl (rfl)
theorem bs_X7_day_bad {a b c : Int32} (hok : (isTh 0 a && (isTh 1 b && isTh 2 c)) = false) : BS (d + 3) false yX7_day [.ref 0, .int a, .int b, .int c] h (some (.int (-1))) h := by
  refine bs_of mtX7_day rfl (Nat.le_of_ble_eq_true rfl) (fun K R RV RS E => ?_)
  show K 0 [_, _, _, _] [] _
  refine rl_iconst (pc := 0) R dX7_day_0 ic_0 ?_
  refine rl_iload_n (pc := 1) R dX7_day_1 rfl ?_
  refine rl_S2 (pc := 2) RS dX7_day_2 lkX7_58 (Nat.le_of_ble_eq_true rfl) (bs_X7_isThing) ?_
  refine rl_if_eq (pc := 5) (tgt := 24) R dX7_day_5 rfl (fun c5 => ?_) (fun c5 => ?_)
  · rw [bI_0] at c5
    refine rl_iconst (pc := 24) R dX7_day_24 ic_m1 ?_
    exact rl_ireturn (pc := 25) E dX7_day_25 rfl rfl (rfl)
  · rw [bI_n0] at c5
    refine rl_iconst (pc := 8) R dX7_day_8 ic_1 ?_
    refine rl_iload_n (pc := 9) R dX7_day_9 rfl ?_
    refine rl_S2 (pc := 10) RS dX7_day_10 lkX7_58 (Nat.le_of_ble_eq_true rfl) (bs_X7_isThing) ?_
    refine rl_if_eq (pc := 13) (tgt := 24) R dX7_day_13 rfl (fun c13 => ?_) (fun c13 => ?_)
    · rw [bI_0] at c13
      refine rl_iconst (pc := 24) R dX7_day_24 ic_m1 ?_
      exact rl_ireturn (pc := 25) E dX7_day_25 rfl rfl (rfl)
    · rw [bI_n0] at c13
      refine rl_iconst (pc := 16) R dX7_day_16 ic_2 ?_
      refine rl_iload_n (pc := 17) R dX7_day_17 rfl ?_
      refine rl_S2 (pc := 18) RS dX7_day_18 lkX7_58 (Nat.le_of_ble_eq_true rfl) (bs_X7_isThing) ?_
      refine rl_if_ne (pc := 21) (tgt := 26) R dX7_day_21 rfl (fun c21 => ?_) (fun c21 => ?_)
      · exact absurd hok (by rw [bI_n0] at c21; rw [c5, c13, c21]; decide)
      · refine rl_iconst (pc := 24) R dX7_day_24 ic_m1 ?_
        exact rl_ireturn (pc := 25) E dX7_day_25 rfl rfl (rfl)
theorem bs_X7_day {a b c v : Int32} {h1 : List sm_C} (x0 : h[0]? = some (x0O im)) (hY : rY h 1 2 4 3 n nw wo co se) (hok : (isTh 0 a && (isTh 1 b && isTh 2 c)) = true) (hB : BS (d + 2) false yX0_add [.ref 2, .int a, .int b, .int c] h (some (.int v)) h1) : BS (d + 3) false yX7_day [.ref 0, .int a, .int b, .int c] h (some (.int v)) h1 := by
  have h1 := hY.1
  have h2 := hY.2.1.1
  simp only [Bool.and_eq_true] at hok
  refine bs_of mtX7_day rfl (Nat.le_of_ble_eq_true rfl) (fun K R RV RS E => ?_)
  show K 0 [_, _, _, _] [] _
  refine rl_iconst (pc := 0) R dX7_day_0 ic_0 ?_
  refine rl_iload_n (pc := 1) R dX7_day_1 rfl ?_
  refine rl_S2 (pc := 2) RS dX7_day_2 lkX7_58 (Nat.le_of_ble_eq_true rfl) (bs_X7_isThing) ?_
  refine rl_if_eq (pc := 5) (tgt := 24) R dX7_day_5 rfl (fun c5 => absurd c5 (by rw [hok.1]; decide)) (fun c5 => ?_)
  refine rl_iconst (pc := 8) R dX7_day_8 ic_1 ?_
  refine rl_iload_n (pc := 9) R dX7_day_9 rfl ?_
  refine rl_S2 (pc := 10) RS dX7_day_10 lkX7_58 (Nat.le_of_ble_eq_true rfl) (bs_X7_isThing) ?_
  refine rl_if_eq (pc := 13) (tgt := 24) R dX7_day_13 rfl (fun c13 => absurd c13 (by rw [hok.2.1]; decide)) (fun c13 => ?_)
  refine rl_iconst (pc := 16) R dX7_day_16 ic_2 ?_
  refine rl_iload_n (pc := 17) R dX7_day_17 rfl ?_
  refine rl_S2 (pc := 18) RS dX7_day_18 lkX7_58 (Nat.le_of_ble_eq_true rfl) (bs_X7_isThing) ?_
  refine rl_if_ne (pc := 21) (tgt := 26) R dX7_day_21 rfl (fun c21 => ?_) (fun c21 => absurd c21 (by rw [hok.2.2]; decide))
  refine rl_aload_n (pc := 26) R dX7_day_26 rfl ?_
  refine rl_getf (pc := 27) R dX7_day_27 fkX7_10 (by first | assumption | rfl) rfl ?_
  refine rl_getf (pc := 30) R dX7_day_30 fkX7_62 (by first | assumption | rfl) rfl ?_
  refine rl_iload_n (pc := 33) R dX7_day_33 rfl ?_
  refine rl_iload_n (pc := 34) R dX7_day_34 rfl ?_
  refine rl_iload_n (pc := 35) R dX7_day_35 rfl ?_
  refine rl_V3 (pc := 36) RV dX7_day_36 lkX7_65 h2 rfl (Nat.le_of_ble_eq_true rfl) (hB) ?_
  exact rl_ireturn (pc := 39) E dX7_day_39 rfl rfl (rfl)
theorem bs_X7_alter_bad {i w v : Int32} (x0 : h[0]? = some (x0O im)) (hY : rY h 1 2 4 3 n nw wo co se) (hok : ((!decide (i < 0) && !decide (nI n ≤ i)) && isTh w v) = false) : BS (d + 3) false yX7_alter [.ref 0, .int i, .int w, .int v] h (some (.int (-1))) h := by
  have h1 := hY.1
  have h2 := hY.2.1.1
  refine bs_of mtX7_alter rfl (Nat.le_of_ble_eq_true rfl) (fun K R RV RS E => ?_)
  show K 0 [_, _, _, _] [] _
  refine rl_aload_n (pc := 0) R dX7_alter_0 rfl ?_
  refine rl_getf (pc := 1) R dX7_alter_1 fkX7_10 (by first | assumption | rfl) rfl ?_
  refine rl_getf (pc := 4) R dX7_alter_4 fkX7_62 (by first | assumption | rfl) rfl ?_
  refine rl_iload_n (pc := 7) R dX7_alter_7 rfl ?_
  refine rl_V1 (pc := 8) RV dX7_alter_8 lkX7_69 h2 rfl (Nat.le_of_ble_eq_true rfl) (bs_X0_has h2) ?_
  refine rl_if_eq (pc := 11) (tgt := 22) R dX7_alter_11 rfl (fun c11 => ?_) (fun c11 => ?_)
  · rw [bI_0] at c11
    refine rl_iconst (pc := 22) R dX7_alter_22 ic_m1 ?_
    exact rl_ireturn (pc := 23) E dX7_alter_23 rfl rfl (rfl)
  · rw [bI_n0] at c11
    refine rl_iload_n (pc := 14) R dX7_alter_14 rfl ?_
    refine rl_iload_n (pc := 15) R dX7_alter_15 rfl ?_
    refine rl_S2 (pc := 16) RS dX7_alter_16 lkX7_58 (Nat.le_of_ble_eq_true rfl) (bs_X7_isThing) ?_
    refine rl_if_ne (pc := 19) (tgt := 24) R dX7_alter_19 rfl (fun c19 => ?_) (fun c19 => ?_)
    · exact absurd hok (by rw [bI_n0] at c19; rw [c11, c19]; decide)
    · refine rl_iconst (pc := 22) R dX7_alter_22 ic_m1 ?_
      exact rl_ireturn (pc := 23) E dX7_alter_23 rfl rfl (rfl)
theorem bs_X7_alter {i w : Nat} {v : Int32} {f : Nat → Int32} (x0 : h[0]? = some (x0O im)) (hY : rY h 1 2 4 3 n nw wo co se) (h3 : h[3]? = some (hI 84 f)) (hi : i < n) (hw : w < 3) (hok : isTh (nI w) v = true) : BS (d + 4) false yX7_alter [.ref 0, .int (nI i), .int (nI w), .int v] h (some (.int (f (i * 3 + w)))) (h.set 3 (hI 84 (upd f (i * 3 + w) v))) := by
  have h1 := hY.1
  have h2 := hY.2.1.1
  have hn := hY.2.1.2.1
  refine bs_of mtX7_alter rfl (Nat.le_of_ble_eq_true rfl) (fun K R RV RS E => ?_)
  show K 0 [_, _, _, _] [] _
  refine rl_aload_n (pc := 0) R dX7_alter_0 rfl ?_
  refine rl_getf (pc := 1) R dX7_alter_1 fkX7_10 (by first | assumption | rfl) rfl ?_
  refine rl_getf (pc := 4) R dX7_alter_4 fkX7_62 (by first | assumption | rfl) rfl ?_
  refine rl_iload_n (pc := 7) R dX7_alter_7 rfl ?_
  refine rl_V1 (pc := 8) RV dX7_alter_8 lkX7_69 h2 rfl (Nat.le_of_ble_eq_true rfl) (bs_X0_has h2) ?_
  refine rl_if_eq (pc := 11) (tgt := 22) R dX7_alter_11 rfl (fun c11 => absurd c11 (by rw [decide_eq_false (nI_pos (by omega)), decide_eq_false (nI_ge hi (by omega))]; decide)) (fun c11 => ?_)
  refine rl_iload_n (pc := 14) R dX7_alter_14 rfl ?_
  refine rl_iload_n (pc := 15) R dX7_alter_15 rfl ?_
  refine rl_S2 (pc := 16) RS dX7_alter_16 lkX7_58 (Nat.le_of_ble_eq_true rfl) (bs_X7_isThing) ?_
  refine rl_if_ne (pc := 19) (tgt := 24) R dX7_alter_19 rfl (fun c19 => ?_) (fun c19 => absurd c19 (by rw [hok]; decide))
  refine rl_aload_n (pc := 24) R dX7_alter_24 rfl ?_
  refine rl_getf (pc := 25) R dX7_alter_25 fkX7_10 (by first | assumption | rfl) rfl ?_
  refine rl_getf (pc := 28) R dX7_alter_28 fkX7_62 (by first | assumption | rfl) rfl ?_
  refine rl_iload_n (pc := 31) R dX7_alter_31 rfl ?_
  refine rl_iload_n (pc := 32) R dX7_alter_32 rfl ?_
  refine rl_iload_n (pc := 33) R dX7_alter_33 rfl ?_
  refine rl_V3 (pc := 34) RV dX7_alter_34 lkX7_73 h2 rfl (Nat.le_of_ble_eq_true rfl) (bs_X0_change h2 h3 (by omega) hw) ?_
  exact rl_ireturn (pc := 37) E dX7_alter_37 rfl rfl (rfl)
theorem bs_X7_told_bad {i w : Int32} (x0 : h[0]? = some (x0O im)) (hY : rY h 1 2 4 3 n nw wo co se) (hok : ((!decide (i < 0) && !decide (nI n ≤ i)) && isW w 0 2) = false) : BS (d + 3) false yX7_told [.ref 0, .int i, .int w] h (some (.int (-1))) h := by
  have h1 := hY.1
  have h2 := hY.2.1.1
  refine bs_of mtX7_told rfl (Nat.le_of_ble_eq_true rfl) (fun K R RV RS E => ?_)
  show K 0 [_, _, _] [] _
  refine rl_aload_n (pc := 0) R dX7_told_0 rfl ?_
  refine rl_getf (pc := 1) R dX7_told_1 fkX7_10 (by first | assumption | rfl) rfl ?_
  refine rl_getf (pc := 4) R dX7_told_4 fkX7_62 (by first | assumption | rfl) rfl ?_
  refine rl_iload_n (pc := 7) R dX7_told_7 rfl ?_
  refine rl_V1 (pc := 8) RV dX7_told_8 lkX7_69 h2 rfl (Nat.le_of_ble_eq_true rfl) (bs_X0_has h2) ?_
  refine rl_if_eq (pc := 11) (tgt := 23) R dX7_told_11 rfl (fun c11 => ?_) (fun c11 => ?_)
  · rw [bI_0] at c11
    refine rl_iconst (pc := 23) R dX7_told_23 ic_m1 ?_
    exact rl_ireturn (pc := 24) E dX7_told_24 rfl rfl (rfl)
  · rw [bI_n0] at c11
    refine rl_iload_n (pc := 14) R dX7_told_14 rfl ?_
    refine rl_iconst (pc := 15) R dX7_told_15 ic_0 ?_
    refine rl_iconst (pc := 16) R dX7_told_16 ic_2 ?_
    refine rl_S3 (pc := 17) RS dX7_told_17 lkX7_76 (Nat.le_of_ble_eq_true rfl) (bs_X7_isWithin) ?_
    refine rl_if_ne (pc := 20) (tgt := 25) R dX7_told_20 rfl (fun c20 => ?_) (fun c20 => ?_)
    · exact absurd hok (by rw [bI_n0] at c20; rw [c11, c20]; decide)
    · refine rl_iconst (pc := 23) R dX7_told_23 ic_m1 ?_
      exact rl_ireturn (pc := 24) E dX7_told_24 rfl rfl (rfl)
theorem bs_X7_told {i w : Nat} {f : Nat → Int32} (x0 : h[0]? = some (x0O im)) (hY : rY h 1 2 4 3 n nw wo co se) (h3 : h[3]? = some (hI 84 f)) (hi : i < n) (hw : w < 3) : BS (d + 4) false yX7_told [.ref 0, .int (nI i), .int (nI w)] h (some (.int (f (i * 3 + w)))) h := by
  have h1 := hY.1
  have h2 := hY.2.1.1
  have hn := hY.2.1.2.1
  refine bs_of mtX7_told rfl (Nat.le_of_ble_eq_true rfl) (fun K R RV RS E => ?_)
  show K 0 [_, _, _] [] _
  refine rl_aload_n (pc := 0) R dX7_told_0 rfl ?_
  refine rl_getf (pc := 1) R dX7_told_1 fkX7_10 (by first | assumption | rfl) rfl ?_
  refine rl_getf (pc := 4) R dX7_told_4 fkX7_62 (by first | assumption | rfl) rfl ?_
  refine rl_iload_n (pc := 7) R dX7_told_7 rfl ?_
  refine rl_V1 (pc := 8) RV dX7_told_8 lkX7_69 h2 rfl (Nat.le_of_ble_eq_true rfl) (bs_X0_has h2) ?_
  refine rl_if_eq (pc := 11) (tgt := 23) R dX7_told_11 rfl (fun c11 => absurd c11 (by rw [decide_eq_false (nI_pos (by omega)), decide_eq_false (nI_ge hi (by omega))]; decide)) (fun c11 => ?_)
  refine rl_iload_n (pc := 14) R dX7_told_14 rfl ?_
  refine rl_iconst (pc := 15) R dX7_told_15 ic_0 ?_
  refine rl_iconst (pc := 16) R dX7_told_16 ic_2 ?_
  refine rl_S3 (pc := 17) RS dX7_told_17 lkX7_76 (Nat.le_of_ble_eq_true rfl) (bs_X7_isWithin) ?_
  refine rl_if_ne (pc := 20) (tgt := 25) R dX7_told_20 rfl (fun c20 => ?_) (fun c20 => absurd c20 (by rw [show isW (nI w) 0 2 = true from isW_t (nI_le (a := 0) (by omega) (by omega)) (nI_le (b := 2) (by omega) (by decide))]; decide))
  refine rl_aload_n (pc := 25) R dX7_told_25 rfl ?_
  refine rl_getf (pc := 26) R dX7_told_26 fkX7_10 (by first | assumption | rfl) rfl ?_
  refine rl_getf (pc := 29) R dX7_told_29 fkX7_62 (by first | assumption | rfl) rfl ?_
  refine rl_iload_n (pc := 32) R dX7_told_32 rfl ?_
  refine rl_iload_n (pc := 33) R dX7_told_33 rfl ?_
  refine rl_V2 (pc := 34) RV dX7_told_34 lkX7_80 h2 rfl (Nat.le_of_ble_eq_true rfl) (bs_X0_tell h2 h3 (by omega) hw) ?_
  exact rl_ireturn (pc := 37) E dX7_told_37 rfl rfl (rfl)
theorem bs_X7_strike (x0 : h[0]? = some (x0O im)) (hY : rY h 1 2 4 3 n nw wo co se) : BS (d + 2) false yX7_strike [.ref 0] h (some (.int (if n = 0 then -4 else nI (n - 1)))) (if n = 0 then h else h.set 2 (hO 0 [.ref 3, .int (nI (n - 1))])) := by
  have h1 := hY.1
  have h2 := hY.2.1.1
  refine bs_of mtX7_strike rfl (Nat.le_of_ble_eq_true rfl) (fun K R RV RS E => ?_)
  show K 0 [_] [] _
  refine rl_aload_n (pc := 0) R dX7_strike_0 rfl ?_
  refine rl_getf (pc := 1) R dX7_strike_1 fkX7_10 (by first | assumption | rfl) rfl ?_
  refine rl_getf (pc := 4) R dX7_strike_4 fkX7_62 (by first | assumption | rfl) rfl ?_
  refine rl_V0 (pc := 7) RV dX7_strike_7 lkX7_84 h2 rfl (Nat.le_of_ble_eq_true rfl) (bs_X0_removeLast h2 hY.2.1.2.1) ?_
  exact rl_ireturn (pc := 10) E dX7_strike_10 rfl rfl (rfl)
theorem bs_X7_set_bad {w v : Int32} (hok : (!decide (w = 3) && isSe w v) = false) : BS (d + 3) false yX7_set [.ref 0, .int w, .int v] h (some (.int (-1))) h := by
  refine bs_of mtX7_set rfl (Nat.le_of_ble_eq_true rfl) (fun K R RV RS E => ?_)
  show K 0 [_, _, _] [] _
  refine rl_iload_n (pc := 0) R dX7_set_0 rfl ?_
  refine rl_iconst (pc := 1) R dX7_set_1 ic_3 ?_
  refine rl_icmp_eq (pc := 2) (tgt := 25) R dX7_set_2 rfl (fun c2 => ?_) (fun c2 => ?_)
  · refine rl_iconst (pc := 25) R dX7_set_25 ic_m1 ?_
    exact rl_ireturn (pc := 26) E dX7_set_26 rfl rfl (rfl)
  · refine rl_iload_n (pc := 5) R dX7_set_5 rfl ?_
    refine rl_iload_n (pc := 6) R dX7_set_6 rfl ?_
    refine rl_S2 (pc := 7) RS dX7_set_7 lkX7_88 (Nat.le_of_ble_eq_true rfl) (bs_X7_isSetting) ?_
    refine rl_if_eq (pc := 10) (tgt := 25) R dX7_set_10 rfl (fun c10 => ?_) (fun c10 => ?_)
    · refine rl_iconst (pc := 25) R dX7_set_25 ic_m1 ?_
      exact rl_ireturn (pc := 26) E dX7_set_26 rfl rfl (rfl)
    · exact absurd hok (by rw [bI_n0] at c10; rw [decide_eq_false c2, c10]; decide)
theorem bs_X7_set {w : Nat} {v : Int32} (x0 : h[0]? = some (x0O im)) (hY : rY h 1 2 4 3 n nw wo co se) (hw : w < 3) (hok : isSe (nI w) v = true) : BS (d + 4) false yX7_set [.ref 0, .int (nI w), .int v] h (some (.int (se w))) (h.set 4 (hI 4 (upd se w v))) := by
  have h1 := hY.1
  refine bs_of mtX7_set rfl (Nat.le_of_ble_eq_true rfl) (fun K R RV RS E => ?_)
  show K 0 [_, _, _] [] _
  refine rl_iload_n (pc := 0) R dX7_set_0 rfl ?_
  refine rl_iconst (pc := 1) R dX7_set_1 ic_3 ?_
  refine rl_icmp_eq (pc := 2) (tgt := 25) R dX7_set_2 rfl (fun c2 => absurd c2 (fun z => by have := (nI_eq (a := w) (b := 3) (by omega) (by decide)).mp z; omega)) (fun c2 => ?_)
  refine rl_iload_n (pc := 5) R dX7_set_5 rfl ?_
  refine rl_iload_n (pc := 6) R dX7_set_6 rfl ?_
  refine rl_S2 (pc := 7) RS dX7_set_7 lkX7_88 (Nat.le_of_ble_eq_true rfl) (bs_X7_isSetting) ?_
  refine rl_if_eq (pc := 10) (tgt := 25) R dX7_set_10 rfl (fun c10 => absurd c10 (by rw [hok]; decide)) (fun c10 => ?_)
  refine rl_aload_n (pc := 13) R dX7_set_13 rfl ?_
  refine rl_getf (pc := 14) R dX7_set_14 fkX7_10 (by first | assumption | rfl) rfl ?_
  refine rl_iload_n (pc := 17) R dX7_set_17 rfl ?_
  refine rl_iload_n (pc := 18) R dX7_set_18 rfl ?_
  refine rl_V2 (pc := 19) RV dX7_set_19 lkX7_91 h1 rfl (Nat.le_of_ble_eq_true rfl) (bs_X6_change hY (by omega)) ?_
  refine rl_goto (pc := 22) (tgt := 26) R dX7_set_22 rfl ?_
  exact rl_ireturn (pc := 26) E dX7_set_26 rfl rfl (rfl)
theorem bs_X7_type_bad {w : Int64} {k : Int32} (hk : isW k 1 8 = false) : BS (d + 3) false yX7_type [.ref 0, .long w, .int k] h (some (.int (-1))) h := by
  refine bs_of mtX7_type rfl (Nat.le_of_ble_eq_true rfl) (fun K R RV RS E => ?_)
  show K 0 [_, _, _, _] [] _
  refine rl_iload_n (pc := 0) R dX7_type_0 rfl ?_
  refine rl_iconst (pc := 1) R dX7_type_1 ic_1 ?_
  refine rl_bipush (pc := 2) R dX7_type_2 bc_8 ?_
  refine rl_S3 (pc := 4) RS dX7_type_4 lkX7_76 (Nat.le_of_ble_eq_true rfl) (bs_X7_isWithin) ?_
  refine rl_if_eq (pc := 7) (tgt := 18) R dX7_type_7 rfl (fun c7 => ?_) (fun c7 => absurd (by rw [hk]; rfl) c7)
  refine rl_iconst (pc := 18) R dX7_type_18 ic_m1 ?_
  exact rl_ireturn (pc := 19) E dX7_type_19 rfl rfl (rfl)
theorem bs_X7_type_bad2 {w : Int64} {k : Nat} (hk : isW (nI k) 1 8 = true) (hk8 : k ≤ 8) (hb : tbA w k 0 = false) : BS (d + 3) false yX7_type [.ref 0, .long w, .int (nI k)] h (some (.int (-1))) h := by
  refine bs_of mtX7_type rfl (Nat.le_of_ble_eq_true rfl) (fun K R RV RS E => ?_)
  show K 0 [_, _, _, _] [] _
  refine rl_iload_n (pc := 0) R dX7_type_0 rfl ?_
  refine rl_iconst (pc := 1) R dX7_type_1 ic_1 ?_
  refine rl_bipush (pc := 2) R dX7_type_2 bc_8 ?_
  refine rl_S3 (pc := 4) RS dX7_type_4 lkX7_76 (Nat.le_of_ble_eq_true rfl) (bs_X7_isWithin) ?_
  refine rl_if_eq (pc := 7) (tgt := 18) R dX7_type_7 rfl (fun c7 => absurd c7 (by rw [hk]; decide)) (fun c7 => ?_)
  refine rl_lload_n (pc := 10) R dX7_type_10 rfl ?_
  refine rl_iload_n (pc := 11) R dX7_type_11 rfl ?_
  refine rl_S2 (pc := 12) RS dX7_type_12 lkX7_93 (Nat.le_of_ble_eq_true rfl) (bs_X7_areTextBytes hk8) ?_
  refine rl_if_ne (pc := 15) (tgt := 20) R dX7_type_15 rfl (fun c15 => absurd (by rw [hb]; decide) c15) (fun c15 => ?_)
  refine rl_iconst (pc := 18) R dX7_type_18 ic_m1 ?_
  exact rl_ireturn (pc := 19) E dX7_type_19 rfl rfl (rfl)
theorem bs_X7_type {w : Int64} {k m : Nat} {x : Int32} {tb : Nat → Int32} (x0 : h[0]? = some (x0O im)) (h9 : h[9]? = some (hO 4 [.ref 10, .int (nI m), .int x])) (h10 : h[10]? = some (hI 200 tb)) (hm : m ≤ 200) (hk : isW (nI k) 1 8 = true) (hk8 : k ≤ 8) (hb : tbA w k 0 = true) : BS (d + 4) false yX7_type [.ref 0, .long w, .int (nI k)] h (some (.int (if 200 < m + k then -3 else nI (m + k)))) (if 200 < m + k then h else (h.set 10 (hI 200 (apn w k tb m))).set 9 (hO 4 [.ref 10, .int (nI (m + k)), .int x])) := by
  refine bs_of mtX7_type rfl (Nat.le_of_ble_eq_true rfl) (fun K R RV RS E => ?_)
  show K 0 [_, _, _, _] [] _
  refine rl_iload_n (pc := 0) R dX7_type_0 rfl ?_
  refine rl_iconst (pc := 1) R dX7_type_1 ic_1 ?_
  refine rl_bipush (pc := 2) R dX7_type_2 bc_8 ?_
  refine rl_S3 (pc := 4) RS dX7_type_4 lkX7_76 (Nat.le_of_ble_eq_true rfl) (bs_X7_isWithin) ?_
  refine rl_if_eq (pc := 7) (tgt := 18) R dX7_type_7 rfl (fun c7 => absurd c7 (by rw [hk]; decide)) (fun c7 => ?_)
  refine rl_lload_n (pc := 10) R dX7_type_10 rfl ?_
  refine rl_iload_n (pc := 11) R dX7_type_11 rfl ?_
  refine rl_S2 (pc := 12) RS dX7_type_12 lkX7_93 (Nat.le_of_ble_eq_true rfl) (bs_X7_areTextBytes hk8) ?_
  refine rl_if_ne (pc := 15) (tgt := 20) R dX7_type_15 rfl (fun c15 => ?_) (fun c15 => absurd c15 (by rw [hb]; decide))
  refine rl_aload_n (pc := 20) R dX7_type_20 rfl ?_
  refine rl_getf (pc := 21) R dX7_type_21 fkX7_26 (by first | assumption | rfl) rfl ?_
  refine rl_lload_n (pc := 24) R dX7_type_24 rfl ?_
  refine rl_iload_n (pc := 25) R dX7_type_25 rfl ?_
  refine rl_V2 (pc := 26) RV dX7_type_26 lkX7_97 h9 rfl (Nat.le_of_ble_eq_true rfl) (bs_X4_append h9 h10 hm hk8) ?_
  exact rl_ireturn (pc := 29) E dX7_type_29 rfl rfl (rfl)
theorem bs_X7_count {w : Int32} (x0 : h[0]? = some (x0O im)) (hY : rY h 1 2 4 3 n nw wo co se) : BS (d + 4) false yX7_count [.ref 0, .int w] h (some (.int (if w = 0 then nI n else if w = 1 then mNS nw n 0 0 else if w = 2 then se 0 else if w = 3 then se 1 else if w = 4 then se 2 else if w = 5 then sOf nw wo 1 n 0 0 else if w = 6 then sOf nw co 0 n 0 0 else -1))) h := by
  have h1 := hY.1
  have h2 := hY.2.1.1
  refine bs_of mtX7_count rfl (Nat.le_of_ble_eq_true rfl) (fun K R RV RS E => ?_)
  show K 0 [_, _] [] _
  refine rl_iload_n (pc := 0) R dX7_count_0 rfl ?_
  refine rl_table7 (pc := 1) R 44 55 66 75 84 93 106 119 dX7_count_1 rfl rfl rfl rfl rfl rfl rfl rfl (fun c0 => ?_) (fun c1 => ?_) (fun c2 => ?_) (fun c3 => ?_) (fun c4 => ?_) (fun c5 => ?_) (fun c6 => ?_) (fun c0 c1 c2 c3 c4 c5 c6 => ?_)
  · subst c0
    refine rl_aload_n (pc := 44) R dX7_count_44 rfl ?_
    refine rl_getf (pc := 45) R dX7_count_45 fkX7_10 (by first | assumption | rfl) rfl ?_
    refine rl_getf (pc := 48) R dX7_count_48 fkX7_62 (by first | assumption | rfl) rfl ?_
    refine rl_getf (pc := 51) R dX7_count_51 fkX7_112 (by first | assumption | rfl) rfl ?_
    exact rl_ireturn (pc := 54) E dX7_count_54 rfl rfl (rfl)
  · subst c1
    refine rl_aload_n (pc := 55) R dX7_count_55 rfl ?_
    refine rl_getf (pc := 56) R dX7_count_56 fkX7_10 (by first | assumption | rfl) rfl ?_
    refine rl_getf (pc := 59) R dX7_count_59 fkX7_62 (by first | assumption | rfl) rfl ?_
    refine rl_V0 (pc := 62) RV dX7_count_62 lkX7_116 h2 rfl (Nat.le_of_ble_eq_true rfl) (bs_X0_manyWithNews hY.2.1) ?_
    exact rl_ireturn (pc := 65) E dX7_count_65 rfl rfl (rfl)
  · subst c2
    refine rl_aload_n (pc := 66) R dX7_count_66 rfl ?_
    refine rl_getf (pc := 67) R dX7_count_67 fkX7_10 (by first | assumption | rfl) rfl ?_
    refine rl_iconst (pc := 70) R dX7_count_70 ic_0 ?_
    refine rl_V1 (pc := 71) RV dX7_count_71 lkX7_119 h1 rfl (Nat.le_of_ble_eq_true rfl) (bs_X6_tell (i := 0) hY (by decide)) ?_
    exact rl_ireturn (pc := 74) E dX7_count_74 rfl rfl (rfl)
  · subst c3
    refine rl_aload_n (pc := 75) R dX7_count_75 rfl ?_
    refine rl_getf (pc := 76) R dX7_count_76 fkX7_10 (by first | assumption | rfl) rfl ?_
    refine rl_iconst (pc := 79) R dX7_count_79 ic_1 ?_
    refine rl_V1 (pc := 80) RV dX7_count_80 lkX7_119 h1 rfl (Nat.le_of_ble_eq_true rfl) (bs_X6_tell (i := 1) hY (by decide)) ?_
    exact rl_ireturn (pc := 83) E dX7_count_83 rfl rfl (rfl)
  · subst c4
    refine rl_aload_n (pc := 84) R dX7_count_84 rfl ?_
    refine rl_getf (pc := 85) R dX7_count_85 fkX7_10 (by first | assumption | rfl) rfl ?_
    refine rl_iconst (pc := 88) R dX7_count_88 ic_2 ?_
    refine rl_V1 (pc := 89) RV dX7_count_89 lkX7_119 h1 rfl (Nat.le_of_ble_eq_true rfl) (bs_X6_tell (i := 2) hY (by decide)) ?_
    exact rl_ireturn (pc := 92) E dX7_count_92 rfl rfl (rfl)
  · subst c5
    refine rl_aload_n (pc := 93) R dX7_count_93 rfl ?_
    refine rl_getf (pc := 94) R dX7_count_94 fkX7_10 (by first | assumption | rfl) rfl ?_
    refine rl_getf (pc := 97) R dX7_count_97 fkX7_62 (by first | assumption | rfl) rfl ?_
    refine rl_iconst (pc := 100) R dX7_count_100 ic_1 ?_
    refine rl_iconst (pc := 101) R dX7_count_101 ic_1 ?_
    refine rl_V2 (pc := 102) RV dX7_count_102 lkX7_122 h2 rfl (Nat.le_of_ble_eq_true rfl) (bs_X0_sumOf (w := 1) hY.2.1 (fun hi => bs_X0_tell1 hY.2.1 hi)) ?_
    exact rl_ireturn (pc := 105) E dX7_count_105 rfl rfl (rfl)
  · subst c6
    refine rl_aload_n (pc := 106) R dX7_count_106 rfl ?_
    refine rl_getf (pc := 107) R dX7_count_107 fkX7_10 (by first | assumption | rfl) rfl ?_
    refine rl_getf (pc := 110) R dX7_count_110 fkX7_62 (by first | assumption | rfl) rfl ?_
    refine rl_iconst (pc := 113) R dX7_count_113 ic_2 ?_
    refine rl_iconst (pc := 114) R dX7_count_114 ic_0 ?_
    refine rl_V2 (pc := 115) RV dX7_count_115 lkX7_122 h2 rfl (Nat.le_of_ble_eq_true rfl) (bs_X0_sumOf (w := 2) hY.2.1 (fun hi => bs_X0_tell2 hY.2.1 hi)) ?_
    exact rl_ireturn (pc := 118) E dX7_count_118 rfl rfl (rfl)
  · refine rl_iconst (pc := 119) R dX7_count_119 ic_m1 ?_
    exact rl_ireturn (pc := 120) E dX7_count_120 rfl rfl (e_si (by rw [if_neg c0, if_neg c1, if_neg c2, if_neg c3, if_neg c4, if_neg c5, if_neg c6]))
theorem bs_X7_may {s : Int32} (x0 : h[0]? = some (x0O im)) (hY : rY h 1 2 4 3 n nw wo co se) : BS (d + 5) false yX7_may [.ref 0, .int s] h (some (.int (if hAl n s then opB (se 1) nw (frm (se 1) s n 0 0) (n - frm (se 1) s n 0 0) (frm (se 1) s n 0 0) 0 else -1))) h := by
  have h1 := hY.1
  have h2 := hY.2.1.1
  refine bs_of mtX7_may rfl (Nat.le_of_ble_eq_true rfl) (fun K R RV RS E => ?_)
  show K 0 [_, _] [] _
  refine rl_aload_n (pc := 0) R dX7_may_0 rfl ?_
  refine rl_getf (pc := 1) R dX7_may_1 fkX7_10 (by first | assumption | rfl) rfl ?_
  refine rl_getf (pc := 4) R dX7_may_4 fkX7_62 (by first | assumption | rfl) rfl ?_
  refine rl_iload_n (pc := 7) R dX7_may_7 rfl ?_
  refine rl_V1 (pc := 8) RV dX7_may_8 lkX7_125 h2 rfl (Nat.le_of_ble_eq_true rfl) (bs_X0_hasAll h2) ?_
  change K 11 _ [.int (bI (hAl n s))] _
  refine rl_if_eq (pc := 11) (tgt := 25) R dX7_may_11 rfl (fun c11 => ?_) (fun c11 => ?_)
  · rw [bI_0] at c11
    refine rl_iconst (pc := 25) R dX7_may_25 ic_m1 ?_
    exact rl_ireturn (pc := 26) E dX7_may_26 rfl rfl (e_si (by rw [c11]; rfl))
  · rw [bI_n0] at c11
    refine rl_aload_n (pc := 14) R dX7_may_14 rfl ?_
    refine rl_getf (pc := 15) R dX7_may_15 fkX7_10 (by first | assumption | rfl) rfl ?_
    refine rl_iload_n (pc := 18) R dX7_may_18 rfl ?_
    refine rl_V1 (pc := 19) RV dX7_may_19 lkX7_128 h1 rfl (Nat.le_of_ble_eq_true rfl) (bs_X6_openBehind hY) ?_
    refine rl_goto (pc := 22) (tgt := 26) R dX7_may_22 rfl ?_
    exact rl_ireturn (pc := 26) E dX7_may_26 rfl rfl (e_si (by rw [c11]; rfl))
theorem bs_X7_wrong {s : Int32} (x0 : h[0]? = some (x0O im)) (hY : rY h 1 2 4 3 n nw wo co se) : BS (d + 5) false yX7_wrong [.ref 0, .int s] h (some (.int (if hAl n s then fwr (se 1) (se 0) s nw n 0 0 else -1))) h := by
  have h1 := hY.1
  have h2 := hY.2.1.1
  refine bs_of mtX7_wrong rfl (Nat.le_of_ble_eq_true rfl) (fun K R RV RS E => ?_)
  show K 0 [_, _] [] _
  refine rl_aload_n (pc := 0) R dX7_wrong_0 rfl ?_
  refine rl_getf (pc := 1) R dX7_wrong_1 fkX7_10 (by first | assumption | rfl) rfl ?_
  refine rl_getf (pc := 4) R dX7_wrong_4 fkX7_62 (by first | assumption | rfl) rfl ?_
  refine rl_iload_n (pc := 7) R dX7_wrong_7 rfl ?_
  refine rl_V1 (pc := 8) RV dX7_wrong_8 lkX7_125 h2 rfl (Nat.le_of_ble_eq_true rfl) (bs_X0_hasAll h2) ?_
  change K 11 _ [.int (bI (hAl n s))] _
  refine rl_if_eq (pc := 11) (tgt := 25) R dX7_wrong_11 rfl (fun c11 => ?_) (fun c11 => ?_)
  · rw [bI_0] at c11
    refine rl_iconst (pc := 25) R dX7_wrong_25 ic_m1 ?_
    exact rl_ireturn (pc := 26) E dX7_wrong_26 rfl rfl (e_si (by rw [c11]; rfl))
  · rw [bI_n0] at c11
    refine rl_aload_n (pc := 14) R dX7_wrong_14 rfl ?_
    refine rl_getf (pc := 15) R dX7_wrong_15 fkX7_10 (by first | assumption | rfl) rfl ?_
    refine rl_iload_n (pc := 18) R dX7_wrong_18 rfl ?_
    refine rl_V1 (pc := 19) RV dX7_wrong_19 lkX7_134 h1 rfl (Nat.le_of_ble_eq_true rfl) (bs_X6_firstWrong hY) ?_
    refine rl_goto (pc := 22) (tgt := 26) R dX7_wrong_22 rfl ?_
    exact rl_ireturn (pc := 26) E dX7_wrong_26 rfl rfl (e_si (by rw [c11]; rfl))
theorem rfO_c (n : Nat) (law lies s : Int32) (nw : Nat → Int32) : rfO n law lies s nw = -1 ∨ rfO n law lies s nw = 0 ∨ rfO n law lies s nw = -2 := by
  unfold rfO; split
  · split
    · exact Or.inr (Or.inl rfl)
    · exact Or.inr (Or.inr rfl)
  · exact Or.inl rfl
theorem bs_X7_lawful {s : Int32} (x0 : h[0]? = some (x0O im)) (hY : rY h 1 2 4 3 n nw wo co se) : BS (d + 6) false yX7_lawful [.ref 0, .int s] h (some (.int (if rfO n (se 1) (se 0) s nw = -1 then -1 else if rfO n (se 1) (se 0) s nw = 0 then 1 else 0))) h := by
  refine bs_of mtX7_lawful rfl (Nat.le_of_ble_eq_true rfl) (fun K R RV RS E => ?_)
  show K 0 [_, _, _] [] _
  refine rl_aload_n (pc := 0) R dX7_lawful_0 rfl ?_
  refine rl_iload_n (pc := 1) R dX7_lawful_1 rfl ?_
  refine rl_V1 (pc := 2) RV dX7_lawful_2 lkX7_131 x0 rfl (Nat.le_of_ble_eq_true rfl) (bs_X7_refusalOf x0 hY) ?_
  refine rl_istore_n (pc := 5) R dX7_lawful_5 (Nat.le_of_ble_eq_true rfl) rfl ?_
  show K _ [_, _, _] _ _
  refine rl_iload_n (pc := 6) R dX7_lawful_6 rfl ?_
  refine rl_iconst (pc := 7) R dX7_lawful_7 ic_m1 ?_
  refine rl_icmp_ne (pc := 8) (tgt := 13) R dX7_lawful_8 rfl (fun c8 => ?_) (fun c8 => ?_)
  · refine rl_iload_n (pc := 13) R dX7_lawful_13 rfl ?_
    refine rl_if_ne (pc := 14) (tgt := 21) R dX7_lawful_14 rfl (fun c14 => ?_) (fun c14 => ?_)
    · refine rl_iconst (pc := 21) R dX7_lawful_21 ic_0 ?_
      exact rl_ireturn (pc := 22) E dX7_lawful_22 rfl rfl (e_si (by rw [if_neg c8]; first | rw [if_neg c14] | rw [if_pos c14]))
    · refine rl_iconst (pc := 17) R dX7_lawful_17 ic_1 ?_
      refine rl_goto (pc := 18) (tgt := 22) R dX7_lawful_18 rfl ?_
      exact rl_ireturn (pc := 22) E dX7_lawful_22 rfl rfl (e_si (by rw [if_neg c8]; first | rw [if_neg c14] | rw [if_pos c14]))
  · refine rl_iconst (pc := 11) R dX7_lawful_11 ic_m1 ?_
    exact rl_ireturn (pc := 12) E dX7_lawful_12 rfl rfl (e_si (if_pos c8))
theorem bs_X7_gain {s : Int32} (x0 : h[0]? = some (x0O im)) (hY : rY h 1 2 4 3 n nw wo co se) : BS (d + 6) false yX7_gain [.ref 0, .int s] h (some (.int (if rfO n (se 1) (se 0) s nw = 0 then gnO n nw wo co (se 0) (se 2) s n 0 0 else rfO n (se 1) (se 0) s nw - 100000000))) h := by
  have h1 := hY.1
  refine bs_of mtX7_gain rfl (Nat.le_of_ble_eq_true rfl) (fun K R RV RS E => ?_)
  show K 0 [_, _, _] [] _
  refine rl_aload_n (pc := 0) R dX7_gain_0 rfl ?_
  refine rl_iload_n (pc := 1) R dX7_gain_1 rfl ?_
  refine rl_V1 (pc := 2) RV dX7_gain_2 lkX7_131 x0 rfl (Nat.le_of_ble_eq_true rfl) (bs_X7_refusalOf x0 hY) ?_
  refine rl_istore_n (pc := 5) R dX7_gain_5 (Nat.le_of_ble_eq_true rfl) rfl ?_
  show K _ [_, _, _] _ _
  refine rl_iload_n (pc := 6) R dX7_gain_6 rfl ?_
  refine rl_if_ne (pc := 7) (tgt := 21) R dX7_gain_7 rfl (fun c7 => ?_) (fun c7 => ?_)
  · refine rl_iload_n (pc := 21) R dX7_gain_21 rfl ?_
    refine rl_ldc (pc := 22) R dX7_gain_22 kcX7_140 ?_
    refine rl_isub (pc := 24) R dX7_gain_24 ?_
    exact rl_ireturn (pc := 25) E dX7_gain_25 rfl rfl (e_si (by first | rw [if_pos c7] | rw [if_neg c7]))
  · refine rl_aload_n (pc := 10) R dX7_gain_10 rfl ?_
    refine rl_getf (pc := 11) R dX7_gain_11 fkX7_10 (by first | assumption | rfl) rfl ?_
    refine rl_iload_n (pc := 14) R dX7_gain_14 rfl ?_
    refine rl_V1 (pc := 15) RV dX7_gain_15 lkX7_137 h1 rfl (Nat.le_of_ble_eq_true rfl) (bs_X6_gainOf hY) ?_
    refine rl_goto (pc := 18) (tgt := 25) R dX7_gain_18 rfl ?_
    exact rl_ireturn (pc := 25) E dX7_gain_25 rfl rfl (e_si (by first | rw [if_pos c7] | rw [if_neg c7]))
theorem bs_X7_trusted {s : Int32} (x0 : h[0]? = some (x0O im)) (hY : rY h 1 2 4 3 n nw wo co se) : BS (d + 6) false yX7_trusted [.ref 0, .int s] h (some (.int (if rfO n (se 1) (se 0) s nw = 0 then trB n nw (se 0) (se 2) s n 0 0 else rfO n (se 1) (se 0) s nw))) h := by
  have h1 := hY.1
  refine bs_of mtX7_trusted rfl (Nat.le_of_ble_eq_true rfl) (fun K R RV RS E => ?_)
  show K 0 [_, _, _] [] _
  refine rl_aload_n (pc := 0) R dX7_trusted_0 rfl ?_
  refine rl_iload_n (pc := 1) R dX7_trusted_1 rfl ?_
  refine rl_V1 (pc := 2) RV dX7_trusted_2 lkX7_131 x0 rfl (Nat.le_of_ble_eq_true rfl) (bs_X7_refusalOf x0 hY) ?_
  refine rl_istore_n (pc := 5) R dX7_trusted_5 (Nat.le_of_ble_eq_true rfl) rfl ?_
  show K _ [_, _, _] _ _
  refine rl_iload_n (pc := 6) R dX7_trusted_6 rfl ?_
  refine rl_if_ne (pc := 7) (tgt := 21) R dX7_trusted_7 rfl (fun c7 => ?_) (fun c7 => ?_)
  · refine rl_iload_n (pc := 21) R dX7_trusted_21 rfl ?_
    exact rl_ireturn (pc := 22) E dX7_trusted_22 rfl rfl (e_si (by first | rw [if_pos c7] | rw [if_neg c7]))
  · refine rl_aload_n (pc := 10) R dX7_trusted_10 rfl ?_
    refine rl_getf (pc := 11) R dX7_trusted_11 fkX7_10 (by first | assumption | rfl) rfl ?_
    refine rl_iload_n (pc := 14) R dX7_trusted_14 rfl ?_
    refine rl_V1 (pc := 15) RV dX7_trusted_15 lkX7_141 h1 rfl (Nat.le_of_ble_eq_true rfl) (bs_X6_trustedBy hY) ?_
    refine rl_goto (pc := 18) (tgt := 22) R dX7_trusted_18 rfl ?_
    exact rl_ireturn (pc := 22) E dX7_trusted_22 rfl rfl (e_si (by first | rw [if_pos c7] | rw [if_neg c7]))
theorem bs_X7_harm {g : Nat → Int32} {lies : Nat} (x0 : h[0]? = some (x0O im)) (hY : rY h 1 2 4 3 n nw wo co se) (hH : rH h 13 14 15 g) (hl : lies ≤ 9) (he : se 0 = nI lies) : BS (d + 7) false yX7_harm [.ref 0] h (some (.int (rk n nw wo co (se 1) (se 2) lies g lies))) (h.set 15 (hI 290 (rk n nw wo co (se 1) (se 2) lies g))) := by
  have h1 := hY.1
  refine bs_of mtX7_harm rfl (Nat.le_of_ble_eq_true rfl) (fun K R RV RS E => ?_)
  show K 0 [_] [] _
  refine rl_aload_n (pc := 0) R dX7_harm_0 rfl ?_
  refine rl_aload_n (pc := 1) R dX7_harm_1 rfl ?_
  refine rl_getf (pc := 2) R dX7_harm_2 fkX7_10 (by first | assumption | rfl) rfl ?_
  refine rl_iconst (pc := 5) R dX7_harm_5 ic_1 ?_
  refine rl_V1 (pc := 6) RV dX7_harm_6 lkX7_119 h1 rfl (Nat.le_of_ble_eq_true rfl) (bs_X6_tell (i := 1) hY (by decide)) ?_
  refine rl_aload_n (pc := 9) R dX7_harm_9 rfl ?_
  refine rl_getf (pc := 10) R dX7_harm_10 fkX7_10 (by first | assumption | rfl) rfl ?_
  refine rl_iconst (pc := 13) R dX7_harm_13 ic_0 ?_
  refine rl_V1 (pc := 14) RV dX7_harm_14 lkX7_119 h1 rfl (Nat.le_of_ble_eq_true rfl) (bs_X6_tell (i := 0) hY (by decide)) ?_
  rw [he]
  refine rl_aload_n (pc := 17) R dX7_harm_17 rfl ?_
  refine rl_getf (pc := 18) R dX7_harm_18 fkX7_10 (by first | assumption | rfl) rfl ?_
  refine rl_iconst (pc := 21) R dX7_harm_21 ic_2 ?_
  refine rl_V1 (pc := 22) RV dX7_harm_22 lkX7_119 h1 rfl (Nat.le_of_ble_eq_true rfl) (bs_X6_tell (i := 2) hY (by decide)) ?_
  refine rl_V3 (pc := 25) RV dX7_harm_25 lkX7_144 x0 rfl (Nat.le_of_ble_eq_true rfl) (bs_X7_harmBy x0 hY hH hl) ?_
  exact rl_ireturn (pc := 28) E dX7_harm_28 rfl rfl (rfl)
theorem bs_X7_worst {g : Nat → Int32} {lies : Nat} (x0 : h[0]? = some (x0O im)) (hY : rY h 1 2 4 3 n nw wo co se) (hH : rH h 13 14 15 g) (hl : lies ≤ 9) (he : se 0 = nI lies) : BS (d + 7) false yX7_worst [.ref 0] h (some (.int (wrs n nw wo co (se 1) (se 2) (rk n nw wo co (se 1) (se 2) lies g) n 0 lies 0 0))) (h.set 15 (hI 290 (rk n nw wo co (se 1) (se 2) lies g))) := by
  have h1 := hY.1
  refine bs_of mtX7_worst rfl (Nat.le_of_ble_eq_true rfl) (fun K R RV RS E => ?_)
  show K 0 [_] [] _
  refine rl_aload_n (pc := 0) R dX7_worst_0 rfl ?_
  refine rl_getf (pc := 1) R dX7_worst_1 fkX7_40 (by first | assumption | rfl) rfl ?_
  refine rl_aload_n (pc := 4) R dX7_worst_4 rfl ?_
  refine rl_getf (pc := 5) R dX7_worst_5 fkX7_10 (by first | assumption | rfl) rfl ?_
  refine rl_getf (pc := 8) R dX7_worst_8 fkX7_62 (by first | assumption | rfl) rfl ?_
  refine rl_aload_n (pc := 11) R dX7_worst_11 rfl ?_
  refine rl_getf (pc := 12) R dX7_worst_12 fkX7_10 (by first | assumption | rfl) rfl ?_
  refine rl_iconst (pc := 15) R dX7_worst_15 ic_1 ?_
  refine rl_V1 (pc := 16) RV dX7_worst_16 lkX7_119 h1 rfl (Nat.le_of_ble_eq_true rfl) (bs_X6_tell (i := 1) hY (by decide)) ?_
  refine rl_aload_n (pc := 19) R dX7_worst_19 rfl ?_
  refine rl_getf (pc := 20) R dX7_worst_20 fkX7_10 (by first | assumption | rfl) rfl ?_
  refine rl_iconst (pc := 23) R dX7_worst_23 ic_0 ?_
  refine rl_V1 (pc := 24) RV dX7_worst_24 lkX7_119 h1 rfl (Nat.le_of_ble_eq_true rfl) (bs_X6_tell (i := 0) hY (by decide)) ?_
  rw [he]
  refine rl_aload_n (pc := 27) R dX7_worst_27 rfl ?_
  refine rl_getf (pc := 28) R dX7_worst_28 fkX7_10 (by first | assumption | rfl) rfl ?_
  refine rl_iconst (pc := 31) R dX7_worst_31 ic_2 ?_
  refine rl_V1 (pc := 32) RV dX7_worst_32 lkX7_119 h1 rfl (Nat.le_of_ble_eq_true rfl) (bs_X6_tell (i := 2) hY (by decide)) ?_
  refine rl_V4 (pc := 35) RV dX7_worst_35 lkX7_147 hH.1 rfl (Nat.le_of_ble_eq_true rfl) (bs_X1_worstSet hY.2.1 hH (by decide) hl) ?_
  exact rl_ireturn (pc := 38) E dX7_worst_38 rfl rfl (rfl)
theorem bs_X7_price9 (x0 : h[0]? = some (x0O im)) (hY : rY h 1 2 4 3 n nw wo co se) (he : se 0 = nI 9) : BS (d + 3) false yX7_price [.ref 0] h (some (.int (-100000002))) h := by
  have h1 := hY.1
  refine bs_of mtX7_price rfl (Nat.le_of_ble_eq_true rfl) (fun K R RV RS E => ?_)
  show K 0 [_, _] [] _
  refine rl_aload_n (pc := 0) R dX7_price_0 rfl ?_
  refine rl_getf (pc := 1) R dX7_price_1 fkX7_10 (by first | assumption | rfl) rfl ?_
  refine rl_iconst (pc := 4) R dX7_price_4 ic_0 ?_
  refine rl_V1 (pc := 5) RV dX7_price_5 lkX7_119 h1 rfl (Nat.le_of_ble_eq_true rfl) (bs_X6_tell (i := 0) hY (by decide)) ?_
  refine rl_bipush (pc := 8) R dX7_price_8 bc_9 ?_
  refine rl_icmp_lt (pc := 10) (tgt := 16) R dX7_price_10 rfl (fun c10 => absurd c10 (by rw [he]; decide)) (fun c10 => ?_)
  refine rl_ldc (pc := 13) R dX7_price_13 kcX7_151 ?_
  exact rl_ireturn (pc := 15) E dX7_price_15 rfl rfl (rfl)
theorem bs_X7_price {g : Nat → Int32} {lies : Nat} (x0 : h[0]? = some (x0O im)) (hY : rY h 1 2 4 3 n nw wo co se) (hH : rH h 13 14 15 g) (hl : lies < 9) (he : se 0 = nI lies) : BS (d + 7) false yX7_price [.ref 0] h (some (.int (rk n nw wo co (se 1) (se 2) lies g lies - rk n nw wo co (se 1) (se 2) (lies + 1) (rk n nw wo co (se 1) (se 2) lies g) (lies + 1)))) (h.set 15 (hI 290 (rk n nw wo co (se 1) (se 2) (lies + 1) (rk n nw wo co (se 1) (se 2) lies g)))) := by
  have h1 := hY.1
  have hc := hY.2.2.2
  have hY2 : rY (h.set 15 (hI 290 (rk n nw wo co (se 1) (se 2) lies g))) 1 2 4 3 n nw wo co se := ⟨sm_h_oi h1 hH.2.2, rD_set hY.2.1 hH.2.2 (by decide), sm_h_ne hY.2.2.1 hH.2.2 (by decide), hc⟩
  have hH2 : rH (h.set 15 (hI 290 (rk n nw wo co (se 1) (se 2) lies g))) 13 14 15 (rk n nw wo co (se 1) (se 2) lies g) := rH_set hH
  have x02 : (h.set 15 (hI 290 (rk n nw wo co (se 1) (se 2) lies g)))[0]? = some (x0O im) := sm_h_oi x0 hH.2.2
  have h12 := hY2.1
  refine bs_of mtX7_price rfl (Nat.le_of_ble_eq_true rfl) (fun K R RV RS E => ?_)
  show K 0 [_, _] [] _
  refine rl_aload_n (pc := 0) R dX7_price_0 rfl ?_
  refine rl_getf (pc := 1) R dX7_price_1 fkX7_10 (by first | assumption | rfl) rfl ?_
  refine rl_iconst (pc := 4) R dX7_price_4 ic_0 ?_
  refine rl_V1 (pc := 5) RV dX7_price_5 lkX7_119 h1 rfl (Nat.le_of_ble_eq_true rfl) (bs_X6_tell (i := 0) hY (by decide)) ?_
  refine rl_bipush (pc := 8) R dX7_price_8 bc_9 ?_
  refine rl_icmp_lt (pc := 10) (tgt := 16) R dX7_price_10 rfl (fun c10 => ?_) (fun c10 => absurd (by rw [he]; exact nI_lt (b := 9) hl (by decide)) c10)
  refine rl_aload_n (pc := 16) R dX7_price_16 rfl ?_
  refine rl_aload_n (pc := 17) R dX7_price_17 rfl ?_
  refine rl_getf (pc := 18) R dX7_price_18 fkX7_10 (by first | assumption | rfl) rfl ?_
  refine rl_iconst (pc := 21) R dX7_price_21 ic_1 ?_
  refine rl_V1 (pc := 22) RV dX7_price_22 lkX7_119 h1 rfl (Nat.le_of_ble_eq_true rfl) (bs_X6_tell (i := 1) hY (by decide)) ?_
  refine rl_aload_n (pc := 25) R dX7_price_25 rfl ?_
  refine rl_getf (pc := 26) R dX7_price_26 fkX7_10 (by first | assumption | rfl) rfl ?_
  refine rl_iconst (pc := 29) R dX7_price_29 ic_0 ?_
  refine rl_V1 (pc := 30) RV dX7_price_30 lkX7_119 h1 rfl (Nat.le_of_ble_eq_true rfl) (bs_X6_tell (i := 0) hY (by decide)) ?_
  rw [he]
  refine rl_aload_n (pc := 33) R dX7_price_33 rfl ?_
  refine rl_getf (pc := 34) R dX7_price_34 fkX7_10 (by first | assumption | rfl) rfl ?_
  refine rl_iconst (pc := 37) R dX7_price_37 ic_2 ?_
  refine rl_V1 (pc := 38) RV dX7_price_38 lkX7_119 h1 rfl (Nat.le_of_ble_eq_true rfl) (bs_X6_tell (i := 2) hY (by decide)) ?_
  refine rl_V3 (pc := 41) RV dX7_price_41 lkX7_144 x0 rfl (Nat.le_of_ble_eq_true rfl) (bs_X7_harmBy x0 hY hH (by omega)) ?_
  refine rl_istore_n (pc := 44) R dX7_price_44 (Nat.le_of_ble_eq_true rfl) rfl ?_
  show K _ [_, _] _ _
  refine rl_iload_n (pc := 45) R dX7_price_45 rfl ?_
  refine rl_aload_n (pc := 46) R dX7_price_46 rfl ?_
  refine rl_aload_n (pc := 47) R dX7_price_47 rfl ?_
  refine rl_getf (pc := 48) R dX7_price_48 fkX7_10 (by first | assumption | rfl) rfl ?_
  refine rl_iconst (pc := 51) R dX7_price_51 ic_1 ?_
  refine rl_V1 (pc := 52) RV dX7_price_52 lkX7_119 h12 rfl (Nat.le_of_ble_eq_true rfl) (bs_X6_tell (i := 1) hY2 (by decide)) ?_
  refine rl_aload_n (pc := 55) R dX7_price_55 rfl ?_
  refine rl_getf (pc := 56) R dX7_price_56 fkX7_10 (by first | assumption | rfl) rfl ?_
  refine rl_iconst (pc := 59) R dX7_price_59 ic_0 ?_
  refine rl_V1 (pc := 60) RV dX7_price_60 lkX7_119 h12 rfl (Nat.le_of_ble_eq_true rfl) (bs_X6_tell (i := 0) hY2 (by decide)) ?_
  rw [he]
  refine rl_iconst (pc := 63) R dX7_price_63 ic_1 ?_
  refine rl_iadd (pc := 64) R dX7_price_64 ?_
  rw [nI_1]
  refine rl_aload_n (pc := 65) R dX7_price_65 rfl ?_
  refine rl_getf (pc := 66) R dX7_price_66 fkX7_10 (by first | assumption | rfl) rfl ?_
  refine rl_iconst (pc := 69) R dX7_price_69 ic_2 ?_
  refine rl_V1 (pc := 70) RV dX7_price_70 lkX7_119 h12 rfl (Nat.le_of_ble_eq_true rfl) (bs_X6_tell (i := 2) hY2 (by decide)) ?_
  refine rl_V3 (pc := 73) RV dX7_price_73 lkX7_144 x02 rfl (Nat.le_of_ble_eq_true rfl) (bs_X7_harmBy x02 hY2 hH2 (by omega)) ?_
  rw [List.set_set]
  refine rl_isub (pc := 76) R dX7_price_76 ?_
  exact rl_ireturn (pc := 77) E dX7_price_77 rfl rfl (rfl)
theorem bs_X7_under_bad {law : Int32} (hok : isSe 1 law = false) : BS (d + 3) false yX7_under [.ref 0, .int law] h (some (.int (-100000001))) h := by
  refine bs_of mtX7_under rfl (Nat.le_of_ble_eq_true rfl) (fun K R RV RS E => ?_)
  show K 0 [_, _] [] _
  refine rl_iconst (pc := 0) R dX7_under_0 ic_1 ?_
  refine rl_iload_n (pc := 1) R dX7_under_1 rfl ?_
  refine rl_S2 (pc := 2) RS dX7_under_2 lkX7_88 (Nat.le_of_ble_eq_true rfl) (bs_X7_isSetting) ?_
  refine rl_if_eq (pc := 5) (tgt := 32) R dX7_under_5 rfl (fun c5 => ?_) (fun c5 => absurd (by rw [hok]; rfl) c5)
  refine rl_ldc (pc := 32) R dX7_under_32 kcX7_152 ?_
  exact rl_ireturn (pc := 34) E dX7_under_34 rfl rfl (rfl)
theorem bs_X7_under {g : Nat → Int32} {lies : Nat} {law : Int32} (x0 : h[0]? = some (x0O im)) (hY : rY h 1 2 4 3 n nw wo co se) (hH : rH h 13 14 15 g) (hl : lies ≤ 9) (he : se 0 = nI lies) (hok : isSe 1 law = true) : BS (d + 7) false yX7_under [.ref 0, .int law] h (some (.int (rk n nw wo co law (se 2) lies g lies))) (h.set 15 (hI 290 (rk n nw wo co law (se 2) lies g))) := by
  have h1 := hY.1
  refine bs_of mtX7_under rfl (Nat.le_of_ble_eq_true rfl) (fun K R RV RS E => ?_)
  show K 0 [_, _] [] _
  refine rl_iconst (pc := 0) R dX7_under_0 ic_1 ?_
  refine rl_iload_n (pc := 1) R dX7_under_1 rfl ?_
  refine rl_S2 (pc := 2) RS dX7_under_2 lkX7_88 (Nat.le_of_ble_eq_true rfl) (bs_X7_isSetting) ?_
  refine rl_if_eq (pc := 5) (tgt := 32) R dX7_under_5 rfl (fun c5 => absurd c5 (by rw [hok]; decide)) (fun c5 => ?_)
  refine rl_aload_n (pc := 8) R dX7_under_8 rfl ?_
  refine rl_iload_n (pc := 9) R dX7_under_9 rfl ?_
  refine rl_aload_n (pc := 10) R dX7_under_10 rfl ?_
  refine rl_getf (pc := 11) R dX7_under_11 fkX7_10 (by first | assumption | rfl) rfl ?_
  refine rl_iconst (pc := 14) R dX7_under_14 ic_0 ?_
  refine rl_V1 (pc := 15) RV dX7_under_15 lkX7_119 h1 rfl (Nat.le_of_ble_eq_true rfl) (bs_X6_tell (i := 0) hY (by decide)) ?_
  rw [he]
  refine rl_aload_n (pc := 18) R dX7_under_18 rfl ?_
  refine rl_getf (pc := 19) R dX7_under_19 fkX7_10 (by first | assumption | rfl) rfl ?_
  refine rl_iconst (pc := 22) R dX7_under_22 ic_2 ?_
  refine rl_V1 (pc := 23) RV dX7_under_23 lkX7_119 h1 rfl (Nat.le_of_ble_eq_true rfl) (bs_X6_tell (i := 2) hY (by decide)) ?_
  refine rl_V3 (pc := 26) RV dX7_under_26 lkX7_144 x0 rfl (Nat.le_of_ble_eq_true rfl) (bs_X7_harmBy x0 hY hH hl) ?_
  refine rl_goto (pc := 29) (tgt := 34) R dX7_under_29 rfl ?_
  exact rl_ireturn (pc := 34) E dX7_under_34 rfl rfl (rfl)
end X7
