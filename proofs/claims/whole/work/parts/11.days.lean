/-! DAYS -/
/-- what THE COURT has on a day -/
def crt (n : Nat) (nw wo co : Nat → Int32) (i : Nat) (lies : Bool) (left trust : Int32) : Int32 := if 8 * left ≤ trust * (nI n - nI i) then (if nw i = 1 then wo i else if lies then - co i else 0) else 0
def mNS (nw : Nat → Int32) : Nat → Nat → Int32 → Int32
  | 0, _, s => s
  | j + 1, i, s => mNS nw j (i + 1) (s + nw i)
def sOf (nw g : Nat → Int32) (news : Int32) : Nat → Nat → Int32 → Int32
  | 0, _, s => s
  | j + 1, i, s => sOf nw g news j (i + 1) (s + (if nw i = news then g i else 0))
/-- the days of an object of Days -/
def rD (h : List sm_C) (k c n : Nat) (nw wo co : Nat → Int32) : Prop := h[k]? = some (hO 0 [.ref c, .int (nI n)]) ∧ n ≤ 28 ∧ ∃ f : Nat → Int32, h[c]? = some (hI 84 f) ∧ ∀ i, i < n → f (i * 3) = nw i ∧ f (i * 3 + 1) = wo i ∧ f (i * 3 + 2) = co i
theorem ix3 (i w : Nat) : nI i * 3 + nI w = nI (i * 3 + w) := by rw [show (3 : Int32) = nI 3 from rfl, pk_mul, nI_add]
section DY
variable {d : Nat} {h : List sm_C} {k c n : Nat} {f nw wo co : Nat → Int32}
theorem bs_X0_has {i : Int32} (h1 : h[k]? = some (hO 0 [.ref c, .int (nI n)])) : BS (d + 1) false yX0_has [.ref k, .int i] h (some (.int (bI (!decide (i < 0) && !decide (nI n ≤ i))))) h := by
  refine bs_of mtX0_has rfl (Nat.le_of_ble_eq_true rfl) (fun K R RV RS E => ?_)
  show K 0 [_, _] [] _
  refine rl_iload_n (pc := 0) R dX0_has_0 rfl ?_
  refine rl_if_lt (pc := 1) (tgt := 16) R dX0_has_1 rfl (fun c1 => ?_) (fun c1 => ?_)
  · refine rl_iconst (pc := 16) R dX0_has_16 ic_0 ?_
    exact rl_ireturn (pc := 17) E dX0_has_17 rfl rfl (e_si (by simp_all [bI]))
  · refine rl_iload_n (pc := 4) R dX0_has_4 rfl ?_
    refine rl_aload_n (pc := 5) R dX0_has_5 rfl ?_
    refine rl_getf (pc := 6) R dX0_has_6 fkX0_15 (by first | assumption | rfl) rfl ?_
    refine rl_icmp_ge (pc := 9) (tgt := 16) R dX0_has_9 rfl (fun c9 => ?_) (fun c9 => ?_)
    · refine rl_iconst (pc := 16) R dX0_has_16 ic_0 ?_
      exact rl_ireturn (pc := 17) E dX0_has_17 rfl rfl (e_si (by simp_all [bI]))
    · refine rl_iconst (pc := 12) R dX0_has_12 ic_1 ?_
      refine rl_goto (pc := 13) (tgt := 17) R dX0_has_13 rfl ?_
      exact rl_ireturn (pc := 17) E dX0_has_17 rfl rfl (e_si (by simp_all [bI]))
theorem bs_X0_hasAll {s : Int32} (h1 : h[k]? = some (hO 0 [.ref c, .int (nI n)])) : BS (d + 1) false yX0_hasAll [.ref k, .int s] h (some (.int (bI (decide ((s.toUInt32 >>> ((nI n).toUInt32 &&& Int32.toUInt32 31)).toInt32 = 0))))) h := by
  refine bs_of mtX0_hasAll rfl (Nat.le_of_ble_eq_true rfl) (fun K R RV RS E => ?_)
  show K 0 [_, _] [] _
  refine rl_iload_n (pc := 0) R dX0_hasAll_0 rfl ?_
  refine rl_aload_n (pc := 1) R dX0_hasAll_1 rfl ?_
  refine rl_getf (pc := 2) R dX0_hasAll_2 fkX0_15 (by first | assumption | rfl) rfl ?_
  refine rl_iushr (pc := 5) R dX0_hasAll_5 ?_
  refine rl_if_ne (pc := 6) (tgt := 13) R dX0_hasAll_6 rfl (fun c6 => ?_) (fun c6 => ?_)
  · refine rl_iconst (pc := 13) R dX0_hasAll_13 ic_0 ?_
    exact rl_ireturn (pc := 14) E dX0_hasAll_14 rfl rfl (e_si (by simp_all [bI]))
  · refine rl_iconst (pc := 9) R dX0_hasAll_9 ic_1 ?_
    refine rl_goto (pc := 10) (tgt := 14) R dX0_hasAll_10 rfl ?_
    exact rl_ireturn (pc := 14) E dX0_hasAll_14 rfl rfl (e_si (by simp_all [bI]))
theorem bs_X0_isFull (h1 : h[k]? = some (hO 0 [.ref c, .int (nI n)])) : BS (d + 1) false yX0_isFull [.ref k] h (some (.int (bI (!decide (nI n < 28))))) h := by
  refine bs_of mtX0_isFull rfl (Nat.le_of_ble_eq_true rfl) (fun K R RV RS E => ?_)
  show K 0 [_] [] _
  refine rl_aload_n (pc := 0) R dX0_isFull_0 rfl ?_
  refine rl_getf (pc := 1) R dX0_isFull_1 fkX0_15 (by first | assumption | rfl) rfl ?_
  refine rl_bipush (pc := 4) R dX0_isFull_4 bc_28 ?_
  refine rl_icmp_lt (pc := 6) (tgt := 13) R dX0_isFull_6 rfl (fun c6 => ?_) (fun c6 => ?_)
  · refine rl_iconst (pc := 13) R dX0_isFull_13 ic_0 ?_
    exact rl_ireturn (pc := 14) E dX0_isFull_14 rfl rfl (e_si (by simp_all [bI]))
  · refine rl_iconst (pc := 9) R dX0_isFull_9 ic_1 ?_
    refine rl_goto (pc := 10) (tgt := 14) R dX0_isFull_10 rfl ?_
    exact rl_ireturn (pc := 14) E dX0_isFull_14 rfl rfl (e_si (by simp_all [bI]))
theorem bs_X0_tell {i w : Nat} (h1 : h[k]? = some (hO 0 [.ref c, .int (nI n)])) (h2 : h[c]? = some (hI 84 f)) (hi : i < 28) (hw : w < 3) : BS (d + 2) false yX0_tell [.ref k, .int (nI i), .int (nI w)] h (some (.int (f (i * 3 + w)))) h := by
  refine bs_of mtX0_tell rfl (Nat.le_of_ble_eq_true rfl) (fun K R RV RS E => ?_)
  show K 0 [_, _, _] [] _
  refine rl_aload_n (pc := 0) R dX0_tell_0 rfl ?_
  refine rl_getf (pc := 1) R dX0_tell_1 fkX0_9 (by first | assumption | rfl) rfl ?_
  refine rl_iload_n (pc := 4) R dX0_tell_4 rfl ?_
  refine rl_iconst (pc := 5) R dX0_tell_5 ic_3 ?_
  refine rl_imul (pc := 6) R dX0_tell_6 ?_
  refine rl_iload_n (pc := 7) R dX0_tell_7 rfl ?_
  refine rl_iadd (pc := 8) R dX0_tell_8 ?_
  refine rl_S2 (pc := 9) RS dX0_tell_9 lkX0_19 (Nat.le_of_ble_eq_true rfl) (bs_X7_at h2 (ix3 i w) (by omega) (by decide)) ?_
  exact rl_ireturn (pc := 12) E dX0_tell_12 rfl rfl (rfl)
theorem bs_X0_change {i w : Nat} {v : Int32} (h1 : h[k]? = some (hO 0 [.ref c, .int (nI n)])) (h2 : h[c]? = some (hI 84 f)) (hi : i < 28) (hw : w < 3) : BS (d + 3) false yX0_change [.ref k, .int (nI i), .int (nI w), .int v] h (some (.int (f (i * 3 + w)))) (h.set c (hI 84 (upd f (i * 3 + w) v))) := by
  refine bs_of mtX0_change rfl (Nat.le_of_ble_eq_true rfl) (fun K R RV RS E => ?_)
  show K 0 [_, _, _, _] [] _
  refine rl_aload_n (pc := 0) R dX0_change_0 rfl ?_
  refine rl_getf (pc := 1) R dX0_change_1 fkX0_9 (by first | assumption | rfl) rfl ?_
  refine rl_iload_n (pc := 4) R dX0_change_4 rfl ?_
  refine rl_iconst (pc := 5) R dX0_change_5 ic_3 ?_
  refine rl_imul (pc := 6) R dX0_change_6 ?_
  refine rl_iload_n (pc := 7) R dX0_change_7 rfl ?_
  refine rl_iadd (pc := 8) R dX0_change_8 ?_
  refine rl_iload_n (pc := 9) R dX0_change_9 rfl ?_
  refine rl_S3 (pc := 10) RS dX0_change_10 lkX0_23 (Nat.le_of_ble_eq_true rfl) (bs_X7_put h2 (ix3 i w) (by omega) (by decide)) ?_
  exact rl_ireturn (pc := 13) E dX0_change_13 rfl rfl (rfl)
theorem bs_X0_add {a b e : Int32} (h1 : h[k]? = some (hO 0 [.ref c, .int (nI n)])) (h2 : h[c]? = some (hI 84 f)) (hn : n < 28) : BS (d + 4) false yX0_add [.ref k, .int a, .int b, .int e] h (some (.int (nI n))) ((h.set c (hI 84 (upd (upd (upd f (n * 3 + 0) a) (n * 3 + 1) b) (n * 3 + 2) e))).set k (hO 0 [.ref c, .int (nI (n + 1))])) := by
  refine bs_of mtX0_add rfl (Nat.le_of_ble_eq_true rfl) (fun K R RV RS E => ?_)
  show K 0 [_, _, _, _] [] _
  refine rl_aload_n (pc := 0) R dX0_add_0 rfl ?_
  refine rl_V0 (pc := 1) RV dX0_add_1 lkX0_27 (by first | assumption | rfl) rfl (Nat.le_of_ble_eq_true rfl) (bs_X0_isFull h1) ?_
  refine rl_if_eq (pc := 4) (tgt := 10) R dX0_add_4 rfl (fun c4 => ?_) (fun c4 => absurd (by rw [show decide (nI n < 28) = true from decide_eq_true (nI_lt (b := 28) hn (by decide))]; rfl) c4)
  refine rl_aload_n (pc := 10) R dX0_add_10 rfl ?_
  refine rl_aload_n (pc := 11) R dX0_add_11 rfl ?_
  refine rl_getf (pc := 12) R dX0_add_12 fkX0_15 h1 rfl ?_
  refine rl_iconst (pc := 15) R dX0_add_15 ic_0 ?_
  refine rl_iload_n (pc := 16) R dX0_add_16 rfl ?_
  refine rl_V3 (pc := 17) RV dX0_add_17 lkX0_31 h1 rfl (Nat.le_of_ble_eq_true rfl) (bs_X0_change (w := 0) h1 h2 hn (by decide)) ?_
  refine rl_pop (pc := 20) R dX0_add_20 rfl ?_
  refine rl_aload_n (pc := 21) R dX0_add_21 rfl ?_
  refine rl_aload_n (pc := 22) R dX0_add_22 rfl ?_
  refine rl_getf (pc := 23) R dX0_add_23 fkX0_15 (sm_h_oi h1 h2) rfl ?_
  refine rl_iconst (pc := 26) R dX0_add_26 ic_1 ?_
  refine rl_iload_n (pc := 27) R dX0_add_27 rfl ?_
  refine rl_V3 (pc := 28) RV dX0_add_28 lkX0_31 (sm_h_oi h1 h2) rfl (Nat.le_of_ble_eq_true rfl) (bs_X0_change (w := 1) (sm_h_oi h1 h2) (sm_h_eq h2) hn (by decide)) ?_
  rw [List.set_set]
  refine rl_pop (pc := 31) R dX0_add_31 rfl ?_
  refine rl_aload_n (pc := 32) R dX0_add_32 rfl ?_
  refine rl_aload_n (pc := 33) R dX0_add_33 rfl ?_
  refine rl_getf (pc := 34) R dX0_add_34 fkX0_15 (sm_h_oi h1 h2) rfl ?_
  refine rl_iconst (pc := 37) R dX0_add_37 ic_2 ?_
  refine rl_iload_n (pc := 38) R dX0_add_38 rfl ?_
  refine rl_V3 (pc := 39) RV dX0_add_39 lkX0_31 (sm_h_oi h1 h2) rfl (Nat.le_of_ble_eq_true rfl) (bs_X0_change (w := 2) (sm_h_oi h1 h2) (sm_h_eq h2) hn (by decide)) ?_
  rw [List.set_set]
  refine rl_pop (pc := 42) R dX0_add_42 rfl ?_
  refine rl_aload_n (pc := 43) R dX0_add_43 rfl ?_
  refine rl_dup (pc := 44) R dX0_add_44 rfl ?_
  refine rl_getf (pc := 45) R dX0_add_45 fkX0_15 (sm_h_oi h1 h2) rfl ?_
  refine rl_iconst (pc := 48) R dX0_add_48 ic_1 ?_
  refine rl_iadd (pc := 49) R dX0_add_49 ?_
  rw [nI_1]
  refine rl_putI (pc := 50) R dX0_add_50 fpX0_15 (sm_h_oi h1 h2) (Nat.le_of_ble_eq_true rfl) ?_
  refine rl_aload_n (pc := 53) R dX0_add_53 rfl ?_
  refine rl_getf (pc := 54) R dX0_add_54 fkX0_15 (sm_h_eq (sm_h_oi h1 h2)) rfl ?_
  refine rl_iconst (pc := 57) R dX0_add_57 ic_1 ?_
  refine rl_isub (pc := 58) R dX0_add_58 ?_
  rw [nI_pred' n]
  exact rl_ireturn (pc := 59) E dX0_add_59 rfl rfl (rfl)
theorem bs_X0_add_full {a b e : Int32} (h1 : h[k]? = some (hO 0 [.ref c, .int (nI 28)])) : BS (d + 2) false yX0_add [.ref k, .int a, .int b, .int e] h (some (.int (-3))) h := by
  refine bs_of mtX0_add rfl (Nat.le_of_ble_eq_true rfl) (fun K R RV RS E => ?_)
  show K 0 [_, _, _, _] [] _
  refine rl_aload_n (pc := 0) R dX0_add_0 rfl ?_
  refine rl_V0 (pc := 1) RV dX0_add_1 lkX0_27 (by first | assumption | rfl) rfl (Nat.le_of_ble_eq_true rfl) (bs_X0_isFull h1) ?_
  refine rl_if_eq (pc := 4) (tgt := 10) R dX0_add_4 rfl (fun c4 => absurd c4 (by decide)) (fun c4 => ?_)
  refine rl_bipush (pc := 7) R dX0_add_7 bc_m3 ?_
  exact rl_ireturn (pc := 9) E dX0_add_9 rfl rfl (rfl)
theorem bs_X0_removeLast (h1 : h[k]? = some (hO 0 [.ref c, .int (nI n)])) (hn : n ≤ 28) : BS (d + 1) false yX0_removeLast [.ref k] h (some (.int (if n = 0 then -4 else nI (n - 1)))) (if n = 0 then h else h.set k (hO 0 [.ref c, .int (nI (n - 1))])) := by
  rcases Nat.eq_zero_or_pos n with rfl | hp
  · simp only [if_true]
    refine bs_of mtX0_removeLast rfl (Nat.le_of_ble_eq_true rfl) (fun K R RV RS E => ?_)
    show K 0 [_] [] _
    refine rl_aload_n (pc := 0) R dX0_removeLast_0 rfl ?_
    refine rl_getf (pc := 1) R dX0_removeLast_1 fkX0_15 (by first | assumption | rfl) rfl ?_
    refine rl_if_gt (pc := 4) (tgt := 10) R dX0_removeLast_4 rfl (fun c4 => absurd c4 (by decide)) (fun c4 => ?_)
    refine rl_bipush (pc := 7) R dX0_removeLast_7 bc_m4 ?_
    exact rl_ireturn (pc := 9) E dX0_removeLast_9 rfl rfl (rfl)
  · obtain ⟨m, rfl⟩ : ∃ m, n = m + 1 := ⟨n - 1, by omega⟩
    simp only [Nat.succ_ne_zero, if_false, Nat.add_sub_cancel]
    refine bs_of mtX0_removeLast rfl (Nat.le_of_ble_eq_true rfl) (fun K R RV RS E => ?_)
    show K 0 [_] [] _
    refine rl_aload_n (pc := 0) R dX0_removeLast_0 rfl ?_
    refine rl_getf (pc := 1) R dX0_removeLast_1 fkX0_15 (by first | assumption | rfl) rfl ?_
    refine rl_if_gt (pc := 4) (tgt := 10) R dX0_removeLast_4 rfl (fun c4 => ?_) (fun c4 => absurd (nI_lt (a := 0) hp (by omega)) c4)
    refine rl_aload_n (pc := 10) R dX0_removeLast_10 rfl ?_
    refine rl_dup (pc := 11) R dX0_removeLast_11 rfl ?_
    refine rl_getf (pc := 12) R dX0_removeLast_12 fkX0_15 (by first | assumption | rfl) rfl ?_
    refine rl_iconst (pc := 15) R dX0_removeLast_15 ic_1 ?_
    refine rl_isub (pc := 16) R dX0_removeLast_16 ?_
    rw [nI_pred]
    refine rl_putI (pc := 17) R dX0_removeLast_17 fpX0_15 (by first | assumption | rfl) (Nat.le_of_ble_eq_true rfl) ?_
    refine rl_aload_n (pc := 20) R dX0_removeLast_20 rfl ?_
    refine rl_getf (pc := 21) R dX0_removeLast_21 fkX0_15 (sm_h_eq h1) rfl ?_
    exact rl_ireturn (pc := 24) E dX0_removeLast_24 rfl rfl (rfl)
theorem bs_X0_empty (h1 : h[k]? = some (hO 0 [.ref c, .int (nI n)])) : BS (d + 1) false yX0_empty [.ref k] h none (h.set k (hO 0 [.ref c, .int (nI 0)])) := by
  refine bs_of mtX0_empty rfl (Nat.le_of_ble_eq_true rfl) (fun K R RV RS E => ?_)
  show K 0 [_] [] _
  refine rl_aload_n (pc := 0) R dX0_empty_0 rfl ?_
  refine rl_iconst (pc := 1) R dX0_empty_1 ic_0 ?_
  refine rl_putI (pc := 2) R dX0_empty_2 fpX0_15 (by first | assumption | rfl) (Nat.le_of_ble_eq_true rfl) ?_
  exact rl_return (pc := 5) E dX0_empty_5 rfl rfl
theorem bs_X0_become {k2 c2 n2 : Nat} {f2 : Nat → Int32} (h1 : h[k]? = some (hO 0 [.ref c, .int (nI n)])) (h2 : h[c]? = some (hI 84 f)) (h3 : h[k2]? = some (hO 0 [.ref c2, .int (nI n2)])) (h4 : h[c2]? = some (hI 84 f2)) : BS (d + 1) false yX0_become [.ref k, .ref k2] h none ((h.set c (hI 84 (va_cpy f2 f 0 0 84))).set k (hO 0 [.ref c, .int (nI n2)])) := by
  refine bs_of mtX0_become rfl (Nat.le_of_ble_eq_true rfl) (fun K R RV RS E => ?_)
  show K 0 [_, _] [] _
  refine rl_aload_n (pc := 0) R dX0_become_0 rfl ?_
  refine rl_getf (pc := 1) R dX0_become_1 fkX0_9 h3 rfl ?_
  refine rl_iconst (pc := 4) R dX0_become_4 ic_0 ?_
  refine rl_aload_n (pc := 5) R dX0_become_5 rfl ?_
  refine rl_getf (pc := 6) R dX0_become_6 fkX0_9 h1 rfl ?_
  refine rl_iconst (pc := 9) R dX0_become_9 ic_0 ?_
  refine rl_aload_n (pc := 10) R dX0_become_10 rfl ?_
  refine rl_getf (pc := 11) R dX0_become_11 fkX0_9 h1 rfl ?_
  refine rl_alen (pc := 14) R dX0_become_14 h2 ?_
  refine rl_copy (pc := 15) R dX0_become_15 lmX0_35 (Nat.le_of_ble_eq_true rfl) h4 h2 (rfl : (0 : Int32) = nI 0) (rfl : (0 : Int32) = nI 0) rfl (by decide) (by decide) (by decide) ?_
  refine rl_aload_n (pc := 18) R dX0_become_18 rfl ?_
  refine rl_aload_n (pc := 19) R dX0_become_19 rfl ?_
  refine rl_getf (pc := 20) R dX0_become_20 fkX0_15 (sm_h_oi h3 h2) rfl ?_
  refine rl_putI (pc := 23) R dX0_become_23 fpX0_15 (sm_h_oi h1 h2) (Nat.le_of_ble_eq_true rfl) ?_
  exact rl_return (pc := 26) E dX0_become_26 rfl rfl
theorem bs_X0_hasNews {i : Nat} (h1 : rD h k c n nw wo co) (hi : i < n) : BS (d + 2) false yX0_hasNews [.ref k, .int (nI i)] h (some (.int (bI (decide (nw i = 1))))) h := by
  obtain ⟨h1, hn, f, h2, hf⟩ := h1
  refine bs_of mtX0_hasNews rfl (Nat.le_of_ble_eq_true rfl) (fun K R RV RS E => ?_)
  show K 0 [_, _] [] _
  refine rl_aload_n (pc := 0) R dX0_hasNews_0 rfl ?_
  refine rl_getf (pc := 1) R dX0_hasNews_1 fkX0_9 (by first | assumption | rfl) rfl ?_
  refine rl_iload_n (pc := 4) R dX0_hasNews_4 rfl ?_
  refine rl_iconst (pc := 5) R dX0_hasNews_5 ic_3 ?_
  refine rl_imul (pc := 6) R dX0_hasNews_6 ?_
  refine rl_iconst (pc := 7) R dX0_hasNews_7 ic_0 ?_
  refine rl_iadd (pc := 8) R dX0_hasNews_8 ?_
  refine rl_S2 (pc := 9) RS dX0_hasNews_9 lkX0_19 (Nat.le_of_ble_eq_true rfl) (bs_X7_at h2 (ix3 i 0) (by omega) (by decide)) ?_
  rw [show f (i * 3 + 0) = nw i from (hf i hi).1]
  refine rl_iconst (pc := 12) R dX0_hasNews_12 ic_1 ?_
  refine rl_icmp_ne (pc := 13) (tgt := 20) R dX0_hasNews_13 rfl (fun c13 => ?_) (fun c13 => ?_)
  · refine rl_iconst (pc := 20) R dX0_hasNews_20 ic_0 ?_
    exact rl_ireturn (pc := 21) E dX0_hasNews_21 rfl rfl (e_si (by simp_all [bI]))
  · refine rl_iconst (pc := 16) R dX0_hasNews_16 ic_1 ?_
    refine rl_goto (pc := 17) (tgt := 21) R dX0_hasNews_17 rfl ?_
    exact rl_ireturn (pc := 21) E dX0_hasNews_21 rfl rfl (e_si (by simp_all [bI]))
theorem bs_X0_tell0 {i : Nat} (h1 : rD h k c n nw wo co) (hi : i < n) : BS (d + 2) false yX0_tell [.ref k, .int (nI i), .int 0] h (some (.int (nw i))) h := by
  obtain ⟨h1, hn, f, h2, hf⟩ := h1
  rw [← (hf i hi).1]
  exact bs_X0_tell (w := 0) h1 h2 (by omega) (by decide)
theorem bs_X0_tell1 {i : Nat} (h1 : rD h k c n nw wo co) (hi : i < n) : BS (d + 2) false yX0_tell [.ref k, .int (nI i), .int 1] h (some (.int (wo i))) h := by
  obtain ⟨h1, hn, f, h2, hf⟩ := h1
  rw [← (hf i hi).2.1]
  exact bs_X0_tell (w := 1) h1 h2 (by omega) (by decide)
theorem bs_X0_tell2 {i : Nat} (h1 : rD h k c n nw wo co) (hi : i < n) : BS (d + 2) false yX0_tell [.ref k, .int (nI i), .int 2] h (some (.int (co i))) h := by
  obtain ⟨h1, hn, f, h2, hf⟩ := h1
  rw [← (hf i hi).2.2]
  exact bs_X0_tell (w := 2) h1 h2 (by omega) (by decide)
theorem bs_X0_manyWithNews (h1 : rD h k c n nw wo co) : BS (d + 3) false yX0_manyWithNews [.ref k] h (some (.int (mNS nw n 0 0))) h := by
  have hk := h1.1
  have hn := h1.2.1
  refine bs_of mtX0_manyWithNews rfl (Nat.le_of_ble_eq_true rfl) (fun K R RV RS E => ?_)
  show K 0 [_, _, _] [] _
  have loop : ∀ (j i : Nat) (s : Int32), i + j = n → mNS nw j i s = mNS nw n 0 0 → K 4 [some (.ref k), some (.int s), some (.int (nI i))] [] h := by
    intro j
    induction j with
    | zero =>
      intro i s hij hs
      refine rl_iload_n (pc := 4) R dX0_manyWithNews_4 rfl ?_
      refine rl_aload_n (pc := 5) R dX0_manyWithNews_5 rfl ?_
      refine rl_getf (pc := 6) R dX0_manyWithNews_6 fkX0_15 (by first | assumption | rfl) rfl ?_
      refine rl_icmp_ge (pc := 9) (tgt := 27) R dX0_manyWithNews_9 rfl (fun c9 => ?_) (fun c9 => absurd (nI_le (by omega) (by omega)) c9)
      refine rl_iload_n (pc := 27) R dX0_manyWithNews_27 rfl ?_
      exact rl_ireturn (pc := 28) E dX0_manyWithNews_28 rfl rfl (e_si hs.symm)
    | succ j ih =>
      intro i s hij hs
      refine rl_iload_n (pc := 4) R dX0_manyWithNews_4 rfl ?_
      refine rl_aload_n (pc := 5) R dX0_manyWithNews_5 rfl ?_
      refine rl_getf (pc := 6) R dX0_manyWithNews_6 fkX0_15 (by first | assumption | rfl) rfl ?_
      refine rl_icmp_ge (pc := 9) (tgt := 27) R dX0_manyWithNews_9 rfl (fun c9 => absurd c9 (nI_ge (by omega) (by omega))) (fun c9 => ?_)
      refine rl_iload_n (pc := 12) R dX0_manyWithNews_12 rfl ?_
      refine rl_aload_n (pc := 13) R dX0_manyWithNews_13 rfl ?_
      refine rl_iload_n (pc := 14) R dX0_manyWithNews_14 rfl ?_
      refine rl_iconst (pc := 15) R dX0_manyWithNews_15 ic_0 ?_
      refine rl_V2 (pc := 16) RV dX0_manyWithNews_16 lkX0_41 hk rfl (Nat.le_of_ble_eq_true rfl) (bs_X0_tell0 h1 (by omega)) ?_
      refine rl_iadd (pc := 19) R dX0_manyWithNews_19 ?_
      refine rl_istore_n (pc := 20) R dX0_manyWithNews_20 (Nat.le_of_ble_eq_true rfl) rfl ?_
      show K _ [_, _, _] _ _
      refine rl_iinc (pc := 21) R dX0_manyWithNews_21 rfl (ii_n i) rfl ?_
      show K _ [_, _, _] _ _
      refine rl_goto (pc := 24) (tgt := 4) R dX0_manyWithNews_24 rfl (ih (i + 1) _ (by omega) hs)
  refine rl_iconst (pc := 0) R dX0_manyWithNews_0 ic_0 ?_
  refine rl_istore_n (pc := 1) R dX0_manyWithNews_1 (Nat.le_of_ble_eq_true rfl) rfl ?_
  show K _ [_, _, _] _ _
  refine rl_iconst (pc := 2) R dX0_manyWithNews_2 ic_0 ?_
  refine rl_istore_n (pc := 3) R dX0_manyWithNews_3 (Nat.le_of_ble_eq_true rfl) rfl ?_
  show K _ [_, _, _] _ _
  exact loop n 0 0 (by omega) rfl
theorem bs_X0_sumOf {w : Nat} {g : Nat → Int32} {news : Int32} (h1 : rD h k c n nw wo co) (hg : ∀ {e i : Nat}, i < n → BS (e + 2) false yX0_tell [.ref k, .int (nI i), .int (nI w)] h (some (.int (g i))) h) : BS (d + 3) false yX0_sumOf [.ref k, .int (nI w), .int news] h (some (.int (sOf nw g news n 0 0))) h := by
  have hk := h1.1
  have hn := h1.2.1
  refine bs_of mtX0_sumOf rfl (Nat.le_of_ble_eq_true rfl) (fun K R RV RS E => ?_)
  show K 0 [_, _, _, _, _] [] _
  have loop : ∀ (j i : Nat) (s : Int32), i + j = n → sOf nw g news j i s = sOf nw g news n 0 0 → K 5 [some (.ref k), some (.int (nI w)), some (.int news), some (.int s), some (.int (nI i))] [] h := by
    intro j
    induction j with
    | zero =>
      intro i s hij hs
      refine rl_iload (pc := 5) R dX0_sumOf_5 rfl ?_
      refine rl_aload_n (pc := 7) R dX0_sumOf_7 rfl ?_
      refine rl_getf (pc := 8) R dX0_sumOf_8 fkX0_15 (by first | assumption | rfl) rfl ?_
      refine rl_icmp_ge (pc := 11) (tgt := 45) R dX0_sumOf_11 rfl (fun c11 => ?_) (fun c11 => absurd (nI_le (by omega) (by omega)) c11)
      refine rl_iload_n (pc := 45) R dX0_sumOf_45 rfl ?_
      exact rl_ireturn (pc := 46) E dX0_sumOf_46 rfl rfl (e_si hs.symm)
    | succ j ih =>
      intro i s hij hs
      refine rl_iload (pc := 5) R dX0_sumOf_5 rfl ?_
      refine rl_aload_n (pc := 7) R dX0_sumOf_7 rfl ?_
      refine rl_getf (pc := 8) R dX0_sumOf_8 fkX0_15 (by first | assumption | rfl) rfl ?_
      refine rl_icmp_ge (pc := 11) (tgt := 45) R dX0_sumOf_11 rfl (fun c11 => absurd c11 (nI_ge (by omega) (by omega))) (fun c11 => ?_)
      refine rl_iload_n (pc := 14) R dX0_sumOf_14 rfl ?_
      refine rl_aload_n (pc := 15) R dX0_sumOf_15 rfl ?_
      refine rl_iload (pc := 16) R dX0_sumOf_16 rfl ?_
      refine rl_iconst (pc := 18) R dX0_sumOf_18 ic_0 ?_
      refine rl_V2 (pc := 19) RV dX0_sumOf_19 lkX0_41 hk rfl (Nat.le_of_ble_eq_true rfl) (bs_X0_tell0 h1 (by omega)) ?_
      refine rl_iload_n (pc := 22) R dX0_sumOf_22 rfl ?_
      refine rl_icmp_ne (pc := 23) (tgt := 36) R dX0_sumOf_23 rfl (fun c23 => ?_) (fun c23 => ?_)
      · refine rl_iconst (pc := 36) R dX0_sumOf_36 ic_0 ?_
        refine rl_iadd (pc := 37) R dX0_sumOf_37 ?_
        refine rl_istore_n (pc := 38) R dX0_sumOf_38 (Nat.le_of_ble_eq_true rfl) rfl ?_
        show K _ [_, _, _, _, _] _ _
        refine rl_iinc (pc := 39) R dX0_sumOf_39 rfl (ii_n i) rfl ?_
        show K _ [_, _, _, _, _] _ _
        refine rl_goto (pc := 42) (tgt := 5) R dX0_sumOf_42 rfl (ih (i + 1) _ (by omega) (by rw [← hs]; simp [sOf, c23]))
      · refine rl_aload_n (pc := 26) R dX0_sumOf_26 rfl ?_
        refine rl_iload (pc := 27) R dX0_sumOf_27 rfl ?_
        refine rl_iload_n (pc := 29) R dX0_sumOf_29 rfl ?_
        refine rl_V2 (pc := 30) RV dX0_sumOf_30 lkX0_41 hk rfl (Nat.le_of_ble_eq_true rfl) (hg (by omega)) ?_
        refine rl_goto (pc := 33) (tgt := 37) R dX0_sumOf_33 rfl ?_
        refine rl_iadd (pc := 37) R dX0_sumOf_37 ?_
        refine rl_istore_n (pc := 38) R dX0_sumOf_38 (Nat.le_of_ble_eq_true rfl) rfl ?_
        show K _ [_, _, _, _, _] _ _
        refine rl_iinc (pc := 39) R dX0_sumOf_39 rfl (ii_n i) rfl ?_
        show K _ [_, _, _, _, _] _ _
        refine rl_goto (pc := 42) (tgt := 5) R dX0_sumOf_42 rfl (ih (i + 1) _ (by omega) (by rw [← hs]; simp [sOf, c23]))
  refine rl_iconst (pc := 0) R dX0_sumOf_0 ic_0 ?_
  refine rl_istore_n (pc := 1) R dX0_sumOf_1 (Nat.le_of_ble_eq_true rfl) rfl ?_
  show K _ [_, _, _, _, _] _ _
  refine rl_iconst (pc := 2) R dX0_sumOf_2 ic_0 ?_
  refine rl_istore (pc := 3) R dX0_sumOf_3 (Nat.le_of_ble_eq_true rfl) rfl ?_
  show K _ [_, _, _, _, _] _ _
  exact loop n 0 0 (by omega) rfl
theorem bs_X0_isTrusted {i : Nat} {left trust : Int32} (h1 : h[k]? = some (hO 0 [.ref c, .int (nI n)])) : BS (d + 1) false yX0_isTrusted [.ref k, .int (nI i), .int left, .int trust] h (some (.int (bI (decide (8 * left ≤ trust * (nI n - nI i)))))) h := by
  refine bs_of mtX0_isTrusted rfl (Nat.le_of_ble_eq_true rfl) (fun K R RV RS E => ?_)
  show K 0 [_, _, _, _] [] _
  refine rl_bipush (pc := 0) R dX0_isTrusted_0 bc_8 ?_
  refine rl_iload_n (pc := 2) R dX0_isTrusted_2 rfl ?_
  refine rl_imul (pc := 3) R dX0_isTrusted_3 ?_
  refine rl_iload_n (pc := 4) R dX0_isTrusted_4 rfl ?_
  refine rl_aload_n (pc := 5) R dX0_isTrusted_5 rfl ?_
  refine rl_getf (pc := 6) R dX0_isTrusted_6 fkX0_15 (by first | assumption | rfl) rfl ?_
  refine rl_iload_n (pc := 9) R dX0_isTrusted_9 rfl ?_
  refine rl_isub (pc := 10) R dX0_isTrusted_10 ?_
  refine rl_imul (pc := 11) R dX0_isTrusted_11 ?_
  refine rl_icmp_gt (pc := 12) (tgt := 19) R dX0_isTrusted_12 rfl (fun c12 => ?_) (fun c12 => ?_)
  · refine rl_iconst (pc := 19) R dX0_isTrusted_19 ic_0 ?_
    exact rl_ireturn (pc := 20) E dX0_isTrusted_20 rfl rfl (e_si (by simp_all [bI, Int32.not_le, Int32.not_lt]))
  · refine rl_iconst (pc := 15) R dX0_isTrusted_15 ic_1 ?_
    refine rl_goto (pc := 16) (tgt := 20) R dX0_isTrusted_16 rfl ?_
    exact rl_ireturn (pc := 20) E dX0_isTrusted_20 rfl rfl (e_si (by simp_all [bI, Int32.not_le, Int32.not_lt]))
theorem bs_X0_courtHas {i : Nat} {lies : Bool} {left trust : Int32} (h1 : rD h k c n nw wo co) (hi : i < n) : BS (d + 3) false yX0_courtHas [.ref k, .int (nI i), .int (bI lies), .int left, .int trust] h (some (.int (crt n nw wo co i lies left trust))) h := by
  have hk := h1.1
  have hn := h1.2.1
  refine bs_of mtX0_courtHas rfl (Nat.le_of_ble_eq_true rfl) (fun K R RV RS E => ?_)
  show K 0 [_, _, _, _, _] [] _
  refine rl_aload_n (pc := 0) R dX0_courtHas_0 rfl ?_
  refine rl_iload_n (pc := 1) R dX0_courtHas_1 rfl ?_
  refine rl_iload_n (pc := 2) R dX0_courtHas_2 rfl ?_
  refine rl_iload (pc := 3) R dX0_courtHas_3 rfl ?_
  refine rl_V3 (pc := 5) RV dX0_courtHas_5 lkX0_45 (by first | assumption | rfl) rfl (Nat.le_of_ble_eq_true rfl) (bs_X0_isTrusted hk) ?_
  refine rl_if_ne (pc := 8) (tgt := 13) R dX0_courtHas_8 rfl (fun c8 => ?_) (fun c8 => ?_)
  · rw [bI_n0, decide_eq_true_eq] at c8
    refine rl_aload_n (pc := 13) R dX0_courtHas_13 rfl ?_
    refine rl_iload_n (pc := 14) R dX0_courtHas_14 rfl ?_
    refine rl_V1 (pc := 15) RV dX0_courtHas_15 lkX0_49 hk rfl (Nat.le_of_ble_eq_true rfl) (bs_X0_hasNews h1 hi) ?_
    refine rl_if_eq (pc := 18) (tgt := 28) R dX0_courtHas_18 rfl (fun c18 => ?_) (fun c18 => ?_)
    · rw [bI_0, decide_eq_false_iff_not] at c18
      refine rl_iload_n (pc := 28) R dX0_courtHas_28 rfl ?_
      refine rl_if_eq (pc := 29) (tgt := 42) R dX0_courtHas_29 rfl (fun c29 => ?_) (fun c29 => ?_)
      · rw [bI_0] at c29
        refine rl_iconst (pc := 42) R dX0_courtHas_42 ic_0 ?_
        exact rl_ireturn (pc := 43) E dX0_courtHas_43 rfl rfl (e_si (by simp only [crt]; rw [if_pos c8, if_neg c18]; subst c29; rfl))
      · rw [bI_n0] at c29
        refine rl_aload_n (pc := 32) R dX0_courtHas_32 rfl ?_
        refine rl_iload_n (pc := 33) R dX0_courtHas_33 rfl ?_
        refine rl_iconst (pc := 34) R dX0_courtHas_34 ic_2 ?_
        refine rl_V2 (pc := 35) RV dX0_courtHas_35 lkX0_41 hk rfl (Nat.le_of_ble_eq_true rfl) (bs_X0_tell2 h1 hi) ?_
        refine rl_ineg (pc := 38) R dX0_courtHas_38 ?_
        refine rl_goto (pc := 39) (tgt := 43) R dX0_courtHas_39 rfl ?_
        exact rl_ireturn (pc := 43) E dX0_courtHas_43 rfl rfl (e_si (by simp only [crt]; rw [if_pos c8, if_neg c18]; subst c29; rfl))
    · rw [bI_n0, decide_eq_true_eq] at c18
      refine rl_aload_n (pc := 21) R dX0_courtHas_21 rfl ?_
      refine rl_iload_n (pc := 22) R dX0_courtHas_22 rfl ?_
      refine rl_iconst (pc := 23) R dX0_courtHas_23 ic_1 ?_
      refine rl_V2 (pc := 24) RV dX0_courtHas_24 lkX0_41 hk rfl (Nat.le_of_ble_eq_true rfl) (bs_X0_tell1 h1 hi) ?_
      exact rl_ireturn (pc := 27) E dX0_courtHas_27 rfl rfl (e_si (by simp only [crt]; rw [if_pos c8, if_pos c18]))
  · rw [bI_0, decide_eq_false_iff_not] at c8
    refine rl_iconst (pc := 11) R dX0_courtHas_11 ic_0 ?_
    exact rl_ireturn (pc := 12) E dX0_courtHas_12 rfl rfl (e_si (if_neg c8))
end DY
