/-! SHEETS -/
def zr : Nat → Nat → (Nat → Int32) → Nat → Int32
  | 0, _, f => f
  | j + 1, i, f => zr j (i + 1) (upd f i 0)
def cov (m x y : Int32) : Bool := !decide (y < 0) && (!decide (x < 0) && (!decide (m < x) && !decide (m - x < y)))
def shR (lane m asL x y : Int32) : Int32 := if lane = -1 then -11 else if lane = asL then (if cov m x y then 0 else -13) else -12
def nrw (lane v : Int32) : Int32 := if lane = 0 then v.toInt8.toInt32 else if lane = 1 then v.toInt16.toInt32 else v
def rdD (f : Nat → Int32) (days : Int32) : Nat → Nat → Int32 → Int32 → Int32
  | 0, _, _, s => s
  | j + 1, i, last, s => if f i ≤ last then -2 else if f i < days then rdD f days j (i + 1) (f i) (s ||| 1 <<< (f i &&& 31)) else -2
theorem zr_out : ∀ (j i : Nat) (f : Nat → Int32) (q : Nat), (q < i ∨ i + j ≤ q) → zr j i f q = f q
  | 0, _, _, _, _ => rfl
  | j + 1, i, f, q, h => by
    rw [zr, zr_out j (i + 1) _ q (by omega)]
    simp only [upd]; rw [if_neg (by omega)]
theorem zr_in : ∀ (j i : Nat) (f : Nat → Int32) (q : Nat), i ≤ q → q < i + j → zr j i f q = 0
  | 0, _, _, _, h1, h2 => by omega
  | j + 1, i, f, q, h1, h2 => by
    rw [zr]
    rcases Nat.lt_or_ge i q with c | c
    · exact zr_in j (i + 1) _ q (by omega) (by omega)
    · have : q = i := by omega
      subst this
      rw [zr_out j (q + 1) _ _ (by omega)]
      simp [upd]
section SH
variable {d : Nat} {h : List sm_C} {k c : Nat} {f : Nat → Int32} {lane m : Int32}
theorem bs_X2_isNothing (h1 : h[k]? = some (hO 2 [.ref c, .int lane, .int m])) : BS (d + 1) false yX2_isNothing [.ref k] h (some (.int (bI (decide (lane = -1))))) h := by
  refine bs_of mtX2_isNothing rfl (Nat.le_of_ble_eq_true rfl) (fun K R RV RS E => ?_)
  show K 0 [_] [] _
  refine rl_aload_n (pc := 0) R dX2_isNothing_0 rfl ?_
  refine rl_getf (pc := 1) R dX2_isNothing_1 fkX2_15 (by first | assumption | rfl) rfl ?_
  refine rl_iconst (pc := 4) R dX2_isNothing_4 ic_m1 ?_
  refine rl_icmp_ne (pc := 5) (tgt := 12) R dX2_isNothing_5 rfl (fun c5 => ?_) (fun c5 => ?_)
  · refine rl_iconst (pc := 12) R dX2_isNothing_12 ic_0 ?_
    exact rl_ireturn (pc := 13) E dX2_isNothing_13 rfl rfl (e_si (by simp_all [bI]))
  · refine rl_iconst (pc := 8) R dX2_isNothing_8 ic_1 ?_
    refine rl_goto (pc := 9) (tgt := 13) R dX2_isNothing_9 rfl ?_
    exact rl_ireturn (pc := 13) E dX2_isNothing_13 rfl rfl (e_si (by simp_all [bI]))
theorem bs_X2_hold {l2 n2 : Int32} (h1 : h[k]? = some (hO 2 [.ref c, .int lane, .int m])) (h2 : h[c]? = some (hI 28 f)) : BS (d + 1) false yX2_hold [.ref k, .int l2, .int n2] h (some (.int n2)) ((h.set c (hI 28 (zr 28 0 f))).set k (hO 2 [.ref c, .int l2, .int n2])) := by
  refine bs_of mtX2_hold rfl (Nat.le_of_ble_eq_true rfl) (fun K R RV RS E => ?_)
  show K 0 [_, _, _, _] [] _
  have loop : ∀ (j i : Nat) (g : Nat → Int32), i + j = 28 → zr j i g = zr 28 0 f → K 2 [some (.ref k), some (.int l2), some (.int n2), some (.int (nI i))] [] (h.set c (hI 28 g)) := by
    intro j
    induction j with
    | zero =>
      intro i g hij hg
      have e : g = zr 28 0 f := hg
      subst e
      refine rl_iload_n (pc := 2) R dX2_hold_2 rfl ?_
      refine rl_aload_n (pc := 3) R dX2_hold_3 rfl ?_
      refine rl_getf (pc := 4) R dX2_hold_4 fkX2_9 (sm_h_oi h1 h2) rfl ?_
      refine rl_alen (pc := 7) R dX2_hold_7 (sm_h_eq h2) ?_
      refine rl_icmp_ge (pc := 8) (tgt := 24) R dX2_hold_8 rfl (fun c8 => ?_) (fun c8 => absurd (nI_le (by omega) (by omega)) c8)
      refine rl_aload_n (pc := 24) R dX2_hold_24 rfl ?_
      refine rl_iload_n (pc := 25) R dX2_hold_25 rfl ?_
      refine rl_putI (pc := 26) R dX2_hold_26 fpX2_15 (sm_h_oi h1 h2) (Nat.le_of_ble_eq_true rfl) ?_
      refine rl_aload_n (pc := 29) R dX2_hold_29 rfl ?_
      refine rl_iload_n (pc := 30) R dX2_hold_30 rfl ?_
      refine rl_putI (pc := 31) R dX2_hold_31 fpX2_19 (sm_h_eq (sm_h_oi h1 h2)) (Nat.le_of_ble_eq_true rfl) ?_
      rw [List.set_set]
      refine rl_iload_n (pc := 34) R dX2_hold_34 rfl ?_
      exact rl_ireturn (pc := 35) E dX2_hold_35 rfl rfl (rfl)
    | succ j ih =>
      intro i g hij hg
      refine rl_iload_n (pc := 2) R dX2_hold_2 rfl ?_
      refine rl_aload_n (pc := 3) R dX2_hold_3 rfl ?_
      refine rl_getf (pc := 4) R dX2_hold_4 fkX2_9 (sm_h_oi h1 h2) rfl ?_
      refine rl_alen (pc := 7) R dX2_hold_7 (sm_h_eq h2) ?_
      refine rl_icmp_ge (pc := 8) (tgt := 24) R dX2_hold_8 rfl (fun c8 => absurd c8 (nI_ge (by omega) (by omega))) (fun c8 => ?_)
      refine rl_aload_n (pc := 11) R dX2_hold_11 rfl ?_
      refine rl_getf (pc := 12) R dX2_hold_12 fkX2_9 (sm_h_oi h1 h2) rfl ?_
      refine rl_iload_n (pc := 15) R dX2_hold_15 rfl ?_
      refine rl_iconst (pc := 16) R dX2_hold_16 ic_0 ?_
      refine rl_iast (pc := 17) R dX2_hold_17 (sm_h_eq h2) rfl (by omega) (by decide) ?_
      rw [List.set_set]
      refine rl_iinc (pc := 18) R dX2_hold_18 rfl (ii_n i) rfl ?_
      show K _ [_, _, _, _] _ _
      refine rl_goto (pc := 21) (tgt := 2) R dX2_hold_21 rfl (ih (i + 1) _ (by omega) (by rw [← hg]; rfl))
  refine rl_iconst (pc := 0) R dX2_hold_0 ic_0 ?_
  refine rl_istore_n (pc := 1) R dX2_hold_1 (Nat.le_of_ble_eq_true rfl) rfl ?_
  show K _ [_, _, _, _] _ _
  have e0 := loop 28 0 f rfl rfl
  rw [List.set_getElem?_self' h2] at e0
  exact e0
theorem bs_X2_holdNothing (h1 : h[k]? = some (hO 2 [.ref c, .int lane, .int m])) : BS (d + 1) false yX2_holdNothing [.ref k] h (some (.int m)) (h.set k (hO 2 [.ref c, .int (-1), .int 0])) := by
  refine bs_of mtX2_holdNothing rfl (Nat.le_of_ble_eq_true rfl) (fun K R RV RS E => ?_)
  show K 0 [_, _] [] _
  refine rl_aload_n (pc := 0) R dX2_holdNothing_0 rfl ?_
  refine rl_getf (pc := 1) R dX2_holdNothing_1 fkX2_19 (by first | assumption | rfl) rfl ?_
  refine rl_istore_n (pc := 4) R dX2_holdNothing_4 (Nat.le_of_ble_eq_true rfl) rfl ?_
  show K _ [_, _] _ _
  refine rl_aload_n (pc := 5) R dX2_holdNothing_5 rfl ?_
  refine rl_iconst (pc := 6) R dX2_holdNothing_6 ic_m1 ?_
  refine rl_putI (pc := 7) R dX2_holdNothing_7 fpX2_15 (by first | assumption | rfl) (Nat.le_of_ble_eq_true rfl) ?_
  refine rl_aload_n (pc := 10) R dX2_holdNothing_10 rfl ?_
  refine rl_iconst (pc := 11) R dX2_holdNothing_11 ic_0 ?_
  refine rl_putI (pc := 12) R dX2_holdNothing_12 fpX2_19 (sm_h_eq h1) (Nat.le_of_ble_eq_true rfl) ?_
  rw [List.set_set]
  refine rl_iload_n (pc := 15) R dX2_holdNothing_15 rfl ?_
  exact rl_ireturn (pc := 16) E dX2_holdNothing_16 rfl rfl (rfl)
theorem bs_X2_covers {x y : Int32} (h1 : h[k]? = some (hO 2 [.ref c, .int lane, .int m])) : BS (d + 1) false yX2_covers [.ref k, .int x, .int y] h (some (.int (bI (cov m x y)))) h := by
  refine bs_of mtX2_covers rfl (Nat.le_of_ble_eq_true rfl) (fun K R RV RS E => ?_)
  show K 0 [_, _, _] [] _
  refine rl_iload_n (pc := 0) R dX2_covers_0 rfl ?_
  refine rl_if_lt (pc := 1) (tgt := 30) R dX2_covers_1 rfl (fun c1 => ?_) (fun c1 => ?_)
  · refine rl_iconst (pc := 30) R dX2_covers_30 ic_0 ?_
    exact rl_ireturn (pc := 31) E dX2_covers_31 rfl rfl (e_si (by simp only [cov]; first | (rw [decide_eq_true c1]; rfl) | (rw [decide_eq_true c5, decide_eq_false c1]; rfl) | (rw [decide_eq_true c13, decide_eq_false c1, decide_eq_false c5]; rfl) | (rw [decide_eq_true c23, decide_eq_false c1, decide_eq_false c5, decide_eq_false c13]; rfl) | (rw [decide_eq_false c23, decide_eq_false c1, decide_eq_false c5, decide_eq_false c13]; rfl)))
  · refine rl_iload_n (pc := 4) R dX2_covers_4 rfl ?_
    refine rl_if_lt (pc := 5) (tgt := 30) R dX2_covers_5 rfl (fun c5 => ?_) (fun c5 => ?_)
    · refine rl_iconst (pc := 30) R dX2_covers_30 ic_0 ?_
      exact rl_ireturn (pc := 31) E dX2_covers_31 rfl rfl (e_si (by simp only [cov]; first | (rw [decide_eq_true c1]; rfl) | (rw [decide_eq_true c5, decide_eq_false c1]; rfl) | (rw [decide_eq_true c13, decide_eq_false c1, decide_eq_false c5]; rfl) | (rw [decide_eq_true c23, decide_eq_false c1, decide_eq_false c5, decide_eq_false c13]; rfl) | (rw [decide_eq_false c23, decide_eq_false c1, decide_eq_false c5, decide_eq_false c13]; rfl)))
    · refine rl_iload_n (pc := 8) R dX2_covers_8 rfl ?_
      refine rl_aload_n (pc := 9) R dX2_covers_9 rfl ?_
      refine rl_getf (pc := 10) R dX2_covers_10 fkX2_19 (by first | assumption | rfl) rfl ?_
      refine rl_icmp_gt (pc := 13) (tgt := 30) R dX2_covers_13 rfl (fun c13 => ?_) (fun c13 => ?_)
      · refine rl_iconst (pc := 30) R dX2_covers_30 ic_0 ?_
        exact rl_ireturn (pc := 31) E dX2_covers_31 rfl rfl (e_si (by simp only [cov]; first | (rw [decide_eq_true c1]; rfl) | (rw [decide_eq_true c5, decide_eq_false c1]; rfl) | (rw [decide_eq_true c13, decide_eq_false c1, decide_eq_false c5]; rfl) | (rw [decide_eq_true c23, decide_eq_false c1, decide_eq_false c5, decide_eq_false c13]; rfl) | (rw [decide_eq_false c23, decide_eq_false c1, decide_eq_false c5, decide_eq_false c13]; rfl)))
      · refine rl_iload_n (pc := 16) R dX2_covers_16 rfl ?_
        refine rl_aload_n (pc := 17) R dX2_covers_17 rfl ?_
        refine rl_getf (pc := 18) R dX2_covers_18 fkX2_19 (by first | assumption | rfl) rfl ?_
        refine rl_iload_n (pc := 21) R dX2_covers_21 rfl ?_
        refine rl_isub (pc := 22) R dX2_covers_22 ?_
        refine rl_icmp_gt (pc := 23) (tgt := 30) R dX2_covers_23 rfl (fun c23 => ?_) (fun c23 => ?_)
        · refine rl_iconst (pc := 30) R dX2_covers_30 ic_0 ?_
          exact rl_ireturn (pc := 31) E dX2_covers_31 rfl rfl (e_si (by simp only [cov]; first | (rw [decide_eq_true c1]; rfl) | (rw [decide_eq_true c5, decide_eq_false c1]; rfl) | (rw [decide_eq_true c13, decide_eq_false c1, decide_eq_false c5]; rfl) | (rw [decide_eq_true c23, decide_eq_false c1, decide_eq_false c5, decide_eq_false c13]; rfl) | (rw [decide_eq_false c23, decide_eq_false c1, decide_eq_false c5, decide_eq_false c13]; rfl)))
        · refine rl_iconst (pc := 26) R dX2_covers_26 ic_1 ?_
          refine rl_goto (pc := 27) (tgt := 31) R dX2_covers_27 rfl ?_
          exact rl_ireturn (pc := 31) E dX2_covers_31 rfl rfl (e_si (by simp only [cov]; first | (rw [decide_eq_true c1]; rfl) | (rw [decide_eq_true c5, decide_eq_false c1]; rfl) | (rw [decide_eq_true c13, decide_eq_false c1, decide_eq_false c5]; rfl) | (rw [decide_eq_true c23, decide_eq_false c1, decide_eq_false c5, decide_eq_false c13]; rfl) | (rw [decide_eq_false c23, decide_eq_false c1, decide_eq_false c5, decide_eq_false c13]; rfl)))
theorem bs_X2_refusalOf {asL x y : Int32} (h1 : h[k]? = some (hO 2 [.ref c, .int lane, .int m])) : BS (d + 2) false yX2_refusalOf [.ref k, .int asL, .int x, .int y] h (some (.int (shR lane m asL x y))) h := by
  refine bs_of mtX2_refusalOf rfl (Nat.le_of_ble_eq_true rfl) (fun K R RV RS E => ?_)
  show K 0 [_, _, _, _] [] _
  refine rl_aload_n (pc := 0) R dX2_refusalOf_0 rfl ?_
  refine rl_V0 (pc := 1) RV dX2_refusalOf_1 lkX2_22 (by first | assumption | rfl) rfl (Nat.le_of_ble_eq_true rfl) (bs_X2_isNothing h1) ?_
  refine rl_if_eq (pc := 4) (tgt := 10) R dX2_refusalOf_4 rfl (fun c4 => ?_) (fun c4 => ?_)
  · rw [bI_0, decide_eq_false_iff_not] at c4
    refine rl_aload_n (pc := 10) R dX2_refusalOf_10 rfl ?_
    refine rl_getf (pc := 11) R dX2_refusalOf_11 fkX2_15 (by first | assumption | rfl) rfl ?_
    refine rl_iload_n (pc := 14) R dX2_refusalOf_14 rfl ?_
    refine rl_icmp_eq (pc := 15) (tgt := 21) R dX2_refusalOf_15 rfl (fun c15 => ?_) (fun c15 => ?_)
    · refine rl_aload_n (pc := 21) R dX2_refusalOf_21 rfl ?_
      refine rl_iload_n (pc := 22) R dX2_refusalOf_22 rfl ?_
      refine rl_iload_n (pc := 23) R dX2_refusalOf_23 rfl ?_
      refine rl_V2 (pc := 24) RV dX2_refusalOf_24 lkX2_26 (by first | assumption | rfl) rfl (Nat.le_of_ble_eq_true rfl) (bs_X2_covers h1) ?_
      refine rl_if_eq (pc := 27) (tgt := 34) R dX2_refusalOf_27 rfl (fun c27 => ?_) (fun c27 => ?_)
      · rw [bI_0] at c27
        refine rl_bipush (pc := 34) R dX2_refusalOf_34 bc_m13 ?_
        exact rl_ireturn (pc := 36) E dX2_refusalOf_36 rfl rfl (e_si (by simp only [shR]; first | (rw [if_pos c4]; done) | (rw [if_neg c4, if_neg c15]; done) | (rw [if_neg c4, if_pos c15, c27]; rfl)))
      · rw [bI_n0] at c27
        refine rl_iconst (pc := 30) R dX2_refusalOf_30 ic_0 ?_
        refine rl_goto (pc := 31) (tgt := 36) R dX2_refusalOf_31 rfl ?_
        exact rl_ireturn (pc := 36) E dX2_refusalOf_36 rfl rfl (e_si (by simp only [shR]; first | (rw [if_pos c4]; done) | (rw [if_neg c4, if_neg c15]; done) | (rw [if_neg c4, if_pos c15, c27]; rfl)))
    · refine rl_bipush (pc := 18) R dX2_refusalOf_18 bc_m12 ?_
      exact rl_ireturn (pc := 20) E dX2_refusalOf_20 rfl rfl (e_si (by simp only [shR]; first | (rw [if_pos c4]; done) | (rw [if_neg c4, if_neg c15]; done) | (rw [if_neg c4, if_pos c15, c27]; rfl)))
  · rw [bI_n0, decide_eq_true_eq] at c4
    refine rl_bipush (pc := 7) R dX2_refusalOf_7 bc_m11 ?_
    exact rl_ireturn (pc := 9) E dX2_refusalOf_9 rfl rfl (e_si (by simp only [shR]; first | (rw [if_pos c4]; done) | (rw [if_neg c4, if_neg c15]; done) | (rw [if_neg c4, if_pos c15, c27]; rfl)))
theorem bs_X2_narrow {v : Int32} (h1 : h[k]? = some (hO 2 [.ref c, .int lane, .int m])) : BS (d + 1) false yX2_narrow [.ref k, .int v] h (some (.int (nrw lane v))) h := by
  refine bs_of mtX2_narrow rfl (Nat.le_of_ble_eq_true rfl) (fun K R RV RS E => ?_)
  show K 0 [_, _] [] _
  refine rl_aload_n (pc := 0) R dX2_narrow_0 rfl ?_
  refine rl_getf (pc := 1) R dX2_narrow_1 fkX2_15 (by first | assumption | rfl) rfl ?_
  refine rl_if_ne (pc := 4) (tgt := 10) R dX2_narrow_4 rfl (fun c4 => ?_) (fun c4 => ?_)
  · refine rl_aload_n (pc := 10) R dX2_narrow_10 rfl ?_
    refine rl_getf (pc := 11) R dX2_narrow_11 fkX2_15 (by first | assumption | rfl) rfl ?_
    refine rl_iconst (pc := 14) R dX2_narrow_14 ic_1 ?_
    refine rl_icmp_ne (pc := 15) (tgt := 23) R dX2_narrow_15 rfl (fun c15 => ?_) (fun c15 => ?_)
    · refine rl_iload_n (pc := 23) R dX2_narrow_23 rfl ?_
      exact rl_ireturn (pc := 24) E dX2_narrow_24 rfl rfl (e_si (by simp only [nrw]; first | (rw [if_pos c4]; done) | (rw [if_neg c4, if_neg c15]; done) | (rw [if_neg c4, if_pos c15]; done)))
    · refine rl_iload_n (pc := 18) R dX2_narrow_18 rfl ?_
      refine rl_i2s (pc := 19) R dX2_narrow_19 ?_
      refine rl_goto (pc := 20) (tgt := 24) R dX2_narrow_20 rfl ?_
      exact rl_ireturn (pc := 24) E dX2_narrow_24 rfl rfl (e_si (by simp only [nrw]; first | (rw [if_pos c4]; done) | (rw [if_neg c4, if_neg c15]; done) | (rw [if_neg c4, if_pos c15]; done)))
  · refine rl_iload_n (pc := 7) R dX2_narrow_7 rfl ?_
    refine rl_i2b (pc := 8) R dX2_narrow_8 ?_
    exact rl_ireturn (pc := 9) E dX2_narrow_9 rfl rfl (e_si (by simp only [nrw]; first | (rw [if_pos c4]; done) | (rw [if_neg c4, if_neg c15]; done) | (rw [if_neg c4, if_pos c15]; done)))
theorem bs_X2_change {i : Nat} {v : Int32} (h1 : h[k]? = some (hO 2 [.ref c, .int lane, .int m])) (h2 : h[c]? = some (hI 28 f)) (hi : i < 28) : BS (d + 3) false yX2_change [.ref k, .int (nI i), .int v] h none (h.set c (hI 28 (upd f i (nrw lane v)))) := by
  refine bs_of mtX2_change rfl (Nat.le_of_ble_eq_true rfl) (fun K R RV RS E => ?_)
  show K 0 [_, _, _] [] _
  refine rl_aload_n (pc := 0) R dX2_change_0 rfl ?_
  refine rl_getf (pc := 1) R dX2_change_1 fkX2_9 (by first | assumption | rfl) rfl ?_
  refine rl_iload_n (pc := 4) R dX2_change_4 rfl ?_
  refine rl_aload_n (pc := 5) R dX2_change_5 rfl ?_
  refine rl_iload_n (pc := 6) R dX2_change_6 rfl ?_
  refine rl_V1 (pc := 7) RV dX2_change_7 lkX2_30 (by first | assumption | rfl) rfl (Nat.le_of_ble_eq_true rfl) (bs_X2_narrow h1) ?_
  refine rl_S3 (pc := 10) RS dX2_change_10 lkX2_34 (Nat.le_of_ble_eq_true rfl) (bs_X7_put h2 rfl hi (by decide)) ?_
  refine rl_pop (pc := 13) R dX2_change_13 rfl ?_
  exact rl_return (pc := 14) E dX2_change_14 rfl rfl
theorem bs_X2_readDays {p n : Nat} {days : Int32} (h1 : h[k]? = some (hO 2 [.ref c, .int lane, .int m])) (h2 : h[c]? = some (hI 28 f)) (hp : p + n ≤ 28) : BS (d + 2) false yX2_readDays [.ref k, .int (nI p), .int (nI n), .int days] h (some (.int (rdD f days n p (-1) 0))) h := by
  refine bs_of mtX2_readDays rfl (Nat.le_of_ble_eq_true rfl) (fun K R RV RS E => ?_)
  show K 0 [_, _, _, _, _, _, _, _] [] _
  have loop : ∀ (j i : Nat) (last s : Int32) (z : Option Value), i + j = p + n → rdD f days j i last s = rdD f days n p (-1) 0 → K 9 [some (.ref k), some (.int (nI p)), some (.int (nI n)), some (.int days), some (.int s), some (.int last), some (.int (nI i)), z] [] h := by
    intro j
    induction j with
    | zero =>
      intro i last s z hij hs
      refine rl_iload (pc := 9) R dX2_readDays_9 rfl ?_
      refine rl_iload_n (pc := 11) R dX2_readDays_11 rfl ?_
      refine rl_iload_n (pc := 12) R dX2_readDays_12 rfl ?_
      refine rl_iadd (pc := 13) R dX2_readDays_13 ?_
      rw [nI_add]
      refine rl_icmp_ge (pc := 14) (tgt := 63) R dX2_readDays_14 rfl (fun c14 => ?_) (fun c14 => absurd (nI_le (by omega) (by omega)) c14)
      refine rl_iload (pc := 63) R dX2_readDays_63 rfl ?_
      exact rl_ireturn (pc := 65) E dX2_readDays_65 rfl rfl (e_si hs.symm)
    | succ j ih =>
      intro i last s z hij hs
      refine rl_iload (pc := 9) R dX2_readDays_9 rfl ?_
      refine rl_iload_n (pc := 11) R dX2_readDays_11 rfl ?_
      refine rl_iload_n (pc := 12) R dX2_readDays_12 rfl ?_
      refine rl_iadd (pc := 13) R dX2_readDays_13 ?_
      rw [nI_add]
      refine rl_icmp_ge (pc := 14) (tgt := 63) R dX2_readDays_14 rfl (fun c14 => absurd c14 (nI_ge (by omega) (by omega))) (fun c14 => ?_)
      refine rl_aload_n (pc := 17) R dX2_readDays_17 rfl ?_
      refine rl_getf (pc := 18) R dX2_readDays_18 fkX2_9 (by first | assumption | rfl) rfl ?_
      refine rl_iload (pc := 21) R dX2_readDays_21 rfl ?_
      refine rl_S2 (pc := 23) RS dX2_readDays_23 lkX2_38 (Nat.le_of_ble_eq_true rfl) (bs_X7_at h2 rfl (by omega) (by decide)) ?_
      refine rl_istore (pc := 26) R dX2_readDays_26 (Nat.le_of_ble_eq_true rfl) rfl ?_
      show K _ [_, _, _, _, _, _, _, _] _ _
      refine rl_iload (pc := 28) R dX2_readDays_28 rfl ?_
      refine rl_iload (pc := 30) R dX2_readDays_30 rfl ?_
      refine rl_icmp_le (pc := 32) (tgt := 41) R dX2_readDays_32 rfl (fun c32 => ?_) (fun c32 => ?_)
      · refine rl_bipush (pc := 41) R dX2_readDays_41 bc_m2 ?_
        exact rl_ireturn (pc := 43) E dX2_readDays_43 rfl rfl (e_si (by rw [← hs]; simp only [rdD]; first | (rw [if_pos c32]; done) | (rw [if_neg c32, if_neg c38]; done)))
      · refine rl_iload (pc := 35) R dX2_readDays_35 rfl ?_
        refine rl_iload_n (pc := 37) R dX2_readDays_37 rfl ?_
        refine rl_icmp_lt (pc := 38) (tgt := 44) R dX2_readDays_38 rfl (fun c38 => ?_) (fun c38 => ?_)
        · refine rl_iload (pc := 44) R dX2_readDays_44 rfl ?_
          refine rl_iconst (pc := 46) R dX2_readDays_46 ic_1 ?_
          refine rl_iload (pc := 47) R dX2_readDays_47 rfl ?_
          refine rl_ishl (pc := 49) R dX2_readDays_49 ?_
          refine rl_ior (pc := 50) R dX2_readDays_50 ?_
          refine rl_istore (pc := 51) R dX2_readDays_51 (Nat.le_of_ble_eq_true rfl) rfl ?_
          show K _ [_, _, _, _, _, _, _, _] _ _
          refine rl_iload (pc := 53) R dX2_readDays_53 rfl ?_
          refine rl_istore (pc := 55) R dX2_readDays_55 (Nat.le_of_ble_eq_true rfl) rfl ?_
          show K _ [_, _, _, _, _, _, _, _] _ _
          refine rl_iinc (pc := 57) R dX2_readDays_57 rfl (ii_n i) rfl ?_
          show K _ [_, _, _, _, _, _, _, _] _ _
          refine rl_goto (pc := 60) (tgt := 9) R dX2_readDays_60 rfl (ih (i + 1) _ _ _ (by omega) (by rw [← hs]; simp only [rdD]; rw [if_neg c32, if_pos c38]))
        · refine rl_bipush (pc := 41) R dX2_readDays_41 bc_m2 ?_
          exact rl_ireturn (pc := 43) E dX2_readDays_43 rfl rfl (e_si (by rw [← hs]; simp only [rdD]; first | (rw [if_pos c32]; done) | (rw [if_neg c32, if_neg c38]; done)))
  refine rl_iconst (pc := 0) R dX2_readDays_0 ic_0 ?_
  refine rl_istore (pc := 1) R dX2_readDays_1 (Nat.le_of_ble_eq_true rfl) rfl ?_
  show K _ [_, _, _, _, _, _, _, _] _ _
  refine rl_iconst (pc := 3) R dX2_readDays_3 ic_m1 ?_
  refine rl_istore (pc := 4) R dX2_readDays_4 (Nat.le_of_ble_eq_true rfl) rfl ?_
  show K _ [_, _, _, _, _, _, _, _] _ _
  refine rl_iload_n (pc := 6) R dX2_readDays_6 rfl ?_
  refine rl_istore (pc := 7) R dX2_readDays_7 (Nat.le_of_ble_eq_true rfl) rfl ?_
  show K _ [_, _, _, _, _, _, _, _] _ _
  exact loop n p (-1) 0 none (by omega) rfl
end SH
