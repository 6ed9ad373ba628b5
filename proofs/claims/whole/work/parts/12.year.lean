/-! A YEAR: days and settings (0 lies, 1 law, 2 trust, 3 draw) -/
def ush (x k : Int32) : Int32 := (x.toUInt32 >>> (k.toUInt32 &&& Int32.toUInt32 31)).toInt32
def bj1 (x : Int32) : Int32 := x - (ush x 1 &&& 1431655765)
def bj2 (x : Int32) : Int32 := (x &&& 858993459) + (ush x 2 &&& 858993459)
def bj3 (x : Int32) : Int32 := (x + ush x 4) &&& 252645135
def bj4 (x : Int32) : Int32 := x + ush x 8
def bj5 (x : Int32) : Int32 := (x + ush x 16) &&& 63
def bcJ (x : Int32) : Int32 := bj5 (bj4 (bj3 (bj2 (bj1 x))))
/-- lies left on the morning of day i, by a set -/
def lft (lies s : Int32) (i : Nat) : Int32 := lies - bcJ (s &&& ((1 <<< (nI i &&& 31)) - 1))
def b1 (i : Nat) : Int32 := 1 <<< (nI i &&& 31)
def mly (law : Int32) (nw : Nat → Int32) (i g : Nat) : Bool := decide (g ≤ i) && (!decide (nw i = 1) && opn law i)
def frm (law s : Int32) : Nat → Nat → Nat → Nat
  | 0, _, g => g
  | j + 1, i, g => frm law s j (i + 1) (if bt s i then oAg law i else g)
def opB (law : Int32) (nw : Nat → Int32) (g : Nat) : Nat → Nat → Int32 → Int32
  | 0, _, s => s
  | j + 1, i, s => opB law nw g j (i + 1) (s ||| (if mly law nw i g then b1 i else 0))
def fwr (law lies s : Int32) (nw : Nat → Int32) : Nat → Nat → Nat → Int32
  | 0, _, _ => -4
  | j + 1, i, g => if bt s i then (if lft lies s i ≤ 0 then nI i else if mly law nw i g then fwr law lies s nw j (i + 1) (oAg law i) else nI i) else fwr law lies s nw j (i + 1) g
def gnO (n : Nat) (nw wo co : Nat → Int32) (lies trust s : Int32) : Nat → Nat → Int32 → Int32
  | 0, _, x => x
  | j + 1, i, x => gnO n nw wo co lies trust s j (i + 1) (x + crt n nw wo co i (bt s i) (lft lies s i) trust)
def trB (n : Nat) (nw : Nat → Int32) (lies trust s : Int32) : Nat → Nat → Int32 → Int32
  | 0, _, x => x
  | j + 1, i, x => trB n nw lies trust s j (i + 1) (if (bt s i || decide (nw i = 1)) && decide (8 * lft lies s i ≤ trust * (nI n - nI i)) then x ||| b1 i else x)
def drw (x : Int32) : Int32 := (x * 1103515245 + 12345) &&& 2147483647
def ltY (n : Nat) (nw : Nat → Int32) (law lies s x : Int32) (i g : Nat) : Bool := decide (x / 65536 - x / 65536 / (nI n - nI i) * (nI n - nI i) < lft lies s i) && mly law nw i g
/-- lots: the set, the draw -/
def lot (n : Nat) (nw : Nat → Int32) (law lies : Int32) : Nat → Nat → Int32 → Nat → Int32 → Int32 × Int32
  | 0, _, s, _, x => (s, x)
  | j + 1, i, s, g, x => if ltY n nw law lies s (drw x) i g then lot n nw law lies j (i + 1) (s ||| b1 i) (oAg law i) (drw x) else lot n nw law lies j (i + 1) s g (drw x)
def rY (h : List sm_C) (y kd ks kc n : Nat) (nw wo co se : Nat → Int32) : Prop := h[y]? = some (hO 6 [.ref kd, .ref ks]) ∧ rD h kd kc n nw wo co ∧ h[ks]? = some (hI 4 se) ∧ ks ≠ kc
theorem rD_set {h : List sm_C} {k c n ks m : Nat} {nw wo co se g : Nat → Int32} (hD : rD h k c n nw wo co) (hs : h[ks]? = some (hI m se)) (hne : ks ≠ c) : rD (h.set ks (hI m g)) k c n nw wo co := by
  obtain ⟨h1, hn, f, h2, hf⟩ := hD
  exact ⟨sm_h_oi h1 hs, hn, f, sm_h_ne h2 hs (Ne.symm hne), hf⟩
theorem rY_set {h : List sm_C} {y kd ks kc n : Nat} {nw wo co se g : Nat → Int32} (hY : rY h y kd ks kc n nw wo co se) : rY (h.set ks (hI 4 g)) y kd ks kc n nw wo co g := by
  obtain ⟨h1, hD, hs, hne⟩ := hY
  exact ⟨sm_h_oi h1 hs, rD_set hD hs hne, sm_h_eq hs, hne⟩
theorem oAg_le (law : Int32) (i : Nat) : oAg law i ≤ i + 7 := by
  unfold oAg
  split
  · omega
  · split <;> omega
theorem oAg_gt (law : Int32) (i : Nat) : i < oAg law i := by
  unfold oAg
  split
  · omega
  · split <;> omega
section YR
variable {d : Nat} {h : List sm_C} {y kd ks kc n : Nat} {nw wo co se : Nat → Int32}
theorem bs_bitCount {x : Int32} : BS (d + 1) true yJ6_bitCount_0f7a4 [.int x] h (some (.int (bcJ x))) h := by
  refine bs_of mtJ6_bitCount_0f7a4 rfl (Nat.le_of_ble_eq_true rfl) (fun K R RV RS E => ?_)
  show K 0 [_] [] _
  refine rl_iload_n (pc := 0) R dJ6_bitCount_0f7a4_0 rfl ?_
  refine rl_iload_n (pc := 1) R dJ6_bitCount_0f7a4_1 rfl ?_
  refine rl_iconst (pc := 2) R dJ6_bitCount_0f7a4_2 ic_1 ?_
  refine rl_iushr (pc := 3) R dJ6_bitCount_0f7a4_3 ?_
  refine rl_ldcw (pc := 4) R dJ6_bitCount_0f7a4_4 kcJ6_265 ?_
  refine rl_iand (pc := 7) R dJ6_bitCount_0f7a4_7 ?_
  refine rl_isub (pc := 8) R dJ6_bitCount_0f7a4_8 ?_
  refine rl_istore_n (pc := 9) R dJ6_bitCount_0f7a4_9 (Nat.le_of_ble_eq_true rfl) rfl ?_
  show K _ [_] _ _
  refine rl_iload_n (pc := 10) R dJ6_bitCount_0f7a4_10 rfl ?_
  refine rl_ldcw (pc := 11) R dJ6_bitCount_0f7a4_11 kcJ6_266 ?_
  refine rl_iand (pc := 14) R dJ6_bitCount_0f7a4_14 ?_
  refine rl_iload_n (pc := 15) R dJ6_bitCount_0f7a4_15 rfl ?_
  refine rl_iconst (pc := 16) R dJ6_bitCount_0f7a4_16 ic_2 ?_
  refine rl_iushr (pc := 17) R dJ6_bitCount_0f7a4_17 ?_
  refine rl_ldcw (pc := 18) R dJ6_bitCount_0f7a4_18 kcJ6_266 ?_
  refine rl_iand (pc := 21) R dJ6_bitCount_0f7a4_21 ?_
  refine rl_iadd (pc := 22) R dJ6_bitCount_0f7a4_22 ?_
  refine rl_istore_n (pc := 23) R dJ6_bitCount_0f7a4_23 (Nat.le_of_ble_eq_true rfl) rfl ?_
  show K _ [_] _ _
  refine rl_iload_n (pc := 24) R dJ6_bitCount_0f7a4_24 rfl ?_
  refine rl_iload_n (pc := 25) R dJ6_bitCount_0f7a4_25 rfl ?_
  refine rl_iconst (pc := 26) R dJ6_bitCount_0f7a4_26 ic_4 ?_
  refine rl_iushr (pc := 27) R dJ6_bitCount_0f7a4_27 ?_
  refine rl_iadd (pc := 28) R dJ6_bitCount_0f7a4_28 ?_
  refine rl_ldcw (pc := 29) R dJ6_bitCount_0f7a4_29 kcJ6_267 ?_
  refine rl_iand (pc := 32) R dJ6_bitCount_0f7a4_32 ?_
  refine rl_istore_n (pc := 33) R dJ6_bitCount_0f7a4_33 (Nat.le_of_ble_eq_true rfl) rfl ?_
  show K _ [_] _ _
  refine rl_iload_n (pc := 34) R dJ6_bitCount_0f7a4_34 rfl ?_
  refine rl_iload_n (pc := 35) R dJ6_bitCount_0f7a4_35 rfl ?_
  refine rl_bipush (pc := 36) R dJ6_bitCount_0f7a4_36 bc_8 ?_
  refine rl_iushr (pc := 38) R dJ6_bitCount_0f7a4_38 ?_
  refine rl_iadd (pc := 39) R dJ6_bitCount_0f7a4_39 ?_
  refine rl_istore_n (pc := 40) R dJ6_bitCount_0f7a4_40 (Nat.le_of_ble_eq_true rfl) rfl ?_
  show K _ [_] _ _
  refine rl_iload_n (pc := 41) R dJ6_bitCount_0f7a4_41 rfl ?_
  refine rl_iload_n (pc := 42) R dJ6_bitCount_0f7a4_42 rfl ?_
  refine rl_bipush (pc := 43) R dJ6_bitCount_0f7a4_43 bc_16 ?_
  refine rl_iushr (pc := 45) R dJ6_bitCount_0f7a4_45 ?_
  refine rl_iadd (pc := 46) R dJ6_bitCount_0f7a4_46 ?_
  refine rl_istore_n (pc := 47) R dJ6_bitCount_0f7a4_47 (Nat.le_of_ble_eq_true rfl) rfl ?_
  show K _ [_] _ _
  refine rl_iload_n (pc := 48) R dJ6_bitCount_0f7a4_48 rfl ?_
  refine rl_bipush (pc := 49) R dJ6_bitCount_0f7a4_49 bc_63 ?_
  refine rl_iand (pc := 51) R dJ6_bitCount_0f7a4_51 ?_
  exact rl_ireturn (pc := 52) E dJ6_bitCount_0f7a4_52 rfl rfl (rfl)
theorem bs_X6_tell {i : Nat} (hY : rY h y kd ks kc n nw wo co se) (hi : i < 4) : BS (d + 2) false yX6_tell [.ref y, .int (nI i)] h (some (.int (se i))) h := by
  obtain ⟨h1, hD, hs, hne⟩ := hY
  refine bs_of mtX6_tell rfl (Nat.le_of_ble_eq_true rfl) (fun K R RV RS E => ?_)
  show K 0 [_, _] [] _
  refine rl_aload_n (pc := 0) R dX6_tell_0 rfl ?_
  refine rl_getf (pc := 1) R dX6_tell_1 fkX6_18 (by first | assumption | rfl) rfl ?_
  refine rl_iload_n (pc := 4) R dX6_tell_4 rfl ?_
  refine rl_S2 (pc := 5) RS dX6_tell_5 lkX6_22 (Nat.le_of_ble_eq_true rfl) (bs_X7_at hs rfl hi (by decide)) ?_
  exact rl_ireturn (pc := 8) E dX6_tell_8 rfl rfl (rfl)
theorem bs_X6_change {i : Nat} {v : Int32} (hY : rY h y kd ks kc n nw wo co se) (hi : i < 4) : BS (d + 3) false yX6_change [.ref y, .int (nI i), .int v] h (some (.int (se i))) (h.set ks (hI 4 (upd se i v))) := by
  obtain ⟨h1, hD, hs, hne⟩ := hY
  refine bs_of mtX6_change rfl (Nat.le_of_ble_eq_true rfl) (fun K R RV RS E => ?_)
  show K 0 [_, _, _] [] _
  refine rl_aload_n (pc := 0) R dX6_change_0 rfl ?_
  refine rl_getf (pc := 1) R dX6_change_1 fkX6_18 (by first | assumption | rfl) rfl ?_
  refine rl_iload_n (pc := 4) R dX6_change_4 rfl ?_
  refine rl_iload_n (pc := 5) R dX6_change_5 rfl ?_
  refine rl_S3 (pc := 6) RS dX6_change_6 lkX6_26 (Nat.le_of_ble_eq_true rfl) (bs_X7_put hs rfl hi (by decide)) ?_
  exact rl_ireturn (pc := 9) E dX6_change_9 rfl rfl (rfl)
theorem bs_X6_mayLie {i g : Nat} (hY : rY h y kd ks kc n nw wo co se) (hi : i < n) (hg : g < 2147483648) : BS (d + 3) false yX6_mayLie [.ref y, .int (nI i), .int (nI g)] h (some (.int (bI (mly (se 1) nw i g)))) h := by
  have hY0 := hY
  obtain ⟨h1, hD, hs, hne⟩ := hY
  have hn := hD.2.1
  refine bs_of mtX6_mayLie rfl (Nat.le_of_ble_eq_true rfl) (fun K R RV RS E => ?_)
  show K 0 [_, _, _] [] _
  refine rl_iload_n (pc := 0) R dX6_mayLie_0 rfl ?_
  refine rl_iload_n (pc := 1) R dX6_mayLie_1 rfl ?_
  refine rl_icmp_lt (pc := 2) (tgt := 32) R dX6_mayLie_2 rfl (fun c2 => ?_) (fun c2 => ?_)
  · rw [nI_ltI (by omega) (by omega)] at c2
    refine rl_iconst (pc := 32) R dX6_mayLie_32 ic_0 ?_
    exact rl_ireturn (pc := 33) E dX6_mayLie_33 rfl rfl (e_si (by simp only [bI_0, bI_n0] at *; simp_all [mly, bI]; try omega))
  · rw [nI_ltI (by omega) (by omega)] at c2
    refine rl_aload_n (pc := 5) R dX6_mayLie_5 rfl ?_
    refine rl_getf (pc := 6) R dX6_mayLie_6 fkX6_12 (by first | assumption | rfl) rfl ?_
    refine rl_iload_n (pc := 9) R dX6_mayLie_9 rfl ?_
    refine rl_V1 (pc := 10) RV dX6_mayLie_10 lkX6_40 hD.1 rfl (Nat.le_of_ble_eq_true rfl) (bs_X0_hasNews hD hi) ?_
    refine rl_if_ne (pc := 13) (tgt := 32) R dX6_mayLie_13 rfl (fun c13 => ?_) (fun c13 => ?_)
    · refine rl_iconst (pc := 32) R dX6_mayLie_32 ic_0 ?_
      exact rl_ireturn (pc := 33) E dX6_mayLie_33 rfl rfl (e_si (by simp only [bI_0, bI_n0] at *; simp_all [mly, bI]; try omega))
    · refine rl_aload_n (pc := 16) R dX6_mayLie_16 rfl ?_
      refine rl_iconst (pc := 17) R dX6_mayLie_17 ic_1 ?_
      refine rl_V1 (pc := 18) RV dX6_mayLie_18 lkX6_44 h1 rfl (Nat.le_of_ble_eq_true rfl) (bs_X6_tell (i := 1) hY0 (by decide)) ?_
      refine rl_iload_n (pc := 21) R dX6_mayLie_21 rfl ?_
      refine rl_S2 (pc := 22) RS dX6_mayLie_22 lkX6_48 (Nat.le_of_ble_eq_true rfl) (bs_X7_isOpen (by omega)) ?_
      refine rl_if_eq (pc := 25) (tgt := 32) R dX6_mayLie_25 rfl (fun c25 => ?_) (fun c25 => ?_)
      · refine rl_iconst (pc := 32) R dX6_mayLie_32 ic_0 ?_
        exact rl_ireturn (pc := 33) E dX6_mayLie_33 rfl rfl (e_si (by simp only [bI_0, bI_n0] at *; simp_all [mly, bI]; try omega))
      · refine rl_iconst (pc := 28) R dX6_mayLie_28 ic_1 ?_
        refine rl_goto (pc := 29) (tgt := 33) R dX6_mayLie_29 rfl ?_
        exact rl_ireturn (pc := 33) E dX6_mayLie_33 rfl rfl (e_si (by simp only [bI_0, bI_n0] at *; simp_all [mly, bI]; try omega))
theorem bs_X6_leftOn {i : Nat} {s : Int32} (hY : rY h y kd ks kc n nw wo co se) : BS (d + 3) false yX6_leftOn [.ref y, .int s, .int (nI i)] h (some (.int (lft (se 0) s i))) h := by
  have h1 := hY.1
  refine bs_of mtX6_leftOn rfl (Nat.le_of_ble_eq_true rfl) (fun K R RV RS E => ?_)
  show K 0 [_, _, _] [] _
  refine rl_aload_n (pc := 0) R dX6_leftOn_0 rfl ?_
  refine rl_iconst (pc := 1) R dX6_leftOn_1 ic_0 ?_
  refine rl_V1 (pc := 2) RV dX6_leftOn_2 lkX6_44 h1 rfl (Nat.le_of_ble_eq_true rfl) (bs_X6_tell (i := 0) hY (by decide)) ?_
  refine rl_iload_n (pc := 5) R dX6_leftOn_5 rfl ?_
  refine rl_iconst (pc := 6) R dX6_leftOn_6 ic_1 ?_
  refine rl_iload_n (pc := 7) R dX6_leftOn_7 rfl ?_
  refine rl_ishl (pc := 8) R dX6_leftOn_8 ?_
  refine rl_iconst (pc := 9) R dX6_leftOn_9 ic_1 ?_
  refine rl_isub (pc := 10) R dX6_leftOn_10 ?_
  refine rl_iand (pc := 11) R dX6_leftOn_11 ?_
  refine rl_S1 (pc := 12) RS dX6_leftOn_12 lkX6_69 (Nat.le_of_ble_eq_true rfl) (bs_bitCount) ?_
  refine rl_isub (pc := 15) R dX6_leftOn_15 ?_
  exact rl_ireturn (pc := 16) E dX6_leftOn_16 rfl rfl (rfl)
theorem bs_X6_openBehind {s : Int32} (hY : rY h y kd ks kc n nw wo co se) : BS (d + 4) false yX6_openBehind [.ref y, .int s] h (some (.int (opB (se 1) nw (frm (se 1) s n 0 0) (n - frm (se 1) s n 0 0) (frm (se 1) s n 0 0) 0))) h := by
  have hY0 := hY
  obtain ⟨h1, hD, hs, hne⟩ := hY
  have hn := hD.2.1
  have hk := hD.1
  refine bs_of mtX6_openBehind rfl (Nat.le_of_ble_eq_true rfl) (fun K R RV RS E => ?_)
  show K 0 [_, _, _, _, _] [] _
  have loop2 : ∀ (j i g : Nat) (x : Int32) (o : Int32), g < 1000 → i + j = n → opB (se 1) nw g j i x = o → some (Value.int o) = some (Value.int (opB (se 1) nw (frm (se 1) s n 0 0) (n - frm (se 1) s n 0 0) (frm (se 1) s n 0 0) 0)) → K 44 [some (.ref y), some (.int s), some (.int (nI g)), some (.int x), some (.int (nI i))] [] h := by
    intro j
    induction j with
    | zero =>
      intro i g x o hg hij ho hs2
      refine rl_iload (pc := 44) R dX6_openBehind_44 rfl ?_
      refine rl_aload_n (pc := 46) R dX6_openBehind_46 rfl ?_
      refine rl_getf (pc := 47) R dX6_openBehind_47 fkX6_12 (by first | assumption | rfl) rfl ?_
      refine rl_getf (pc := 50) R dX6_openBehind_50 fkX6_52 (by first | assumption | rfl) rfl ?_
      refine rl_icmp_ge (pc := 53) (tgt := 83) R dX6_openBehind_53 rfl (fun c53 => ?_) (fun c53 => absurd (nI_le (by omega) (by omega)) c53)
      refine rl_iload_n (pc := 83) R dX6_openBehind_83 rfl ?_
      exact rl_ireturn (pc := 84) E dX6_openBehind_84 rfl rfl (by rw [← hs2, ← ho]; rfl)
    | succ j ih =>
      intro i g x o hg hij ho hs2
      refine rl_iload (pc := 44) R dX6_openBehind_44 rfl ?_
      refine rl_aload_n (pc := 46) R dX6_openBehind_46 rfl ?_
      refine rl_getf (pc := 47) R dX6_openBehind_47 fkX6_12 (by first | assumption | rfl) rfl ?_
      refine rl_getf (pc := 50) R dX6_openBehind_50 fkX6_52 (by first | assumption | rfl) rfl ?_
      refine rl_icmp_ge (pc := 53) (tgt := 83) R dX6_openBehind_53 rfl (fun c53 => absurd c53 (nI_ge (by omega) (by omega))) (fun c53 => ?_)
      refine rl_iload_n (pc := 56) R dX6_openBehind_56 rfl ?_
      refine rl_aload_n (pc := 57) R dX6_openBehind_57 rfl ?_
      refine rl_iload (pc := 58) R dX6_openBehind_58 rfl ?_
      refine rl_iload_n (pc := 60) R dX6_openBehind_60 rfl ?_
      refine rl_V2 (pc := 61) RV dX6_openBehind_61 lkX6_63 h1 rfl (Nat.le_of_ble_eq_true rfl) (bs_X6_mayLie hY0 (by omega) (by omega)) ?_
      refine rl_if_eq (pc := 64) (tgt := 74) R dX6_openBehind_64 rfl (fun c64 => ?_) (fun c64 => ?_)
      · rw [bI_0] at c64
        refine rl_iconst (pc := 74) R dX6_openBehind_74 ic_0 ?_
        refine rl_ior (pc := 75) R dX6_openBehind_75 ?_
        refine rl_istore_n (pc := 76) R dX6_openBehind_76 (Nat.le_of_ble_eq_true rfl) rfl ?_
        show K _ [_, _, _, _, _] _ _
        refine rl_iinc (pc := 77) R dX6_openBehind_77 rfl (ii_n i) rfl ?_
        show K _ [_, _, _, _, _] _ _
        refine rl_goto (pc := 80) (tgt := 44) R dX6_openBehind_80 rfl (ih (i + 1) g _ o hg (by omega) (by rw [← ho]; simp only [opB, c64]; rfl) hs2)
      · rw [bI_n0] at c64
        refine rl_iconst (pc := 67) R dX6_openBehind_67 ic_1 ?_
        refine rl_iload (pc := 68) R dX6_openBehind_68 rfl ?_
        refine rl_ishl (pc := 70) R dX6_openBehind_70 ?_
        refine rl_goto (pc := 71) (tgt := 75) R dX6_openBehind_71 rfl ?_
        refine rl_ior (pc := 75) R dX6_openBehind_75 ?_
        refine rl_istore_n (pc := 76) R dX6_openBehind_76 (Nat.le_of_ble_eq_true rfl) rfl ?_
        show K _ [_, _, _, _, _] _ _
        refine rl_iinc (pc := 77) R dX6_openBehind_77 rfl (ii_n i) rfl ?_
        show K _ [_, _, _, _, _] _ _
        refine rl_goto (pc := 80) (tgt := 44) R dX6_openBehind_80 rfl (ih (i + 1) g _ o hg (by omega) (by rw [← ho]; simp only [opB, c64]; rfl) hs2)
  have fin : ∀ g : Nat, g < 1000 → g = frm (se 1) s n 0 0 → K 39 [some (.ref y), some (.int s), some (.int (nI g)), some (.int (nI n)), none] [] h := by
    intro g hg he
    subst he
    rcases Nat.lt_or_ge n (frm (se 1) s n 0 0) with q | q
    · refine rl_iconst (pc := 39) R dX6_openBehind_39 ic_0 ?_
      refine rl_istore_n (pc := 40) R dX6_openBehind_40 (Nat.le_of_ble_eq_true rfl) rfl ?_
      show K _ [_, _, _, _, _] _ _
      refine rl_iload_n (pc := 41) R dX6_openBehind_41 rfl ?_
      refine rl_istore (pc := 42) R dX6_openBehind_42 (Nat.le_of_ble_eq_true rfl) rfl ?_
      show K _ [_, _, _, _, _] _ _
      refine rl_iload (pc := 44) R dX6_openBehind_44 rfl ?_
      refine rl_aload_n (pc := 46) R dX6_openBehind_46 rfl ?_
      refine rl_getf (pc := 47) R dX6_openBehind_47 fkX6_12 (by first | assumption | rfl) rfl ?_
      refine rl_getf (pc := 50) R dX6_openBehind_50 fkX6_52 (by first | assumption | rfl) rfl ?_
      refine rl_icmp_ge (pc := 53) (tgt := 83) R dX6_openBehind_53 rfl (fun c53 => ?_) (fun c53 => absurd (nI_le (by omega) (by omega)) c53)
      refine rl_iload_n (pc := 83) R dX6_openBehind_83 rfl ?_
      exact rl_ireturn (pc := 84) E dX6_openBehind_84 rfl rfl (e_si (by rw [show n - frm (se 1) s n 0 0 = 0 by omega]; rfl))
    · refine rl_iconst (pc := 39) R dX6_openBehind_39 ic_0 ?_
      refine rl_istore_n (pc := 40) R dX6_openBehind_40 (Nat.le_of_ble_eq_true rfl) rfl ?_
      show K _ [_, _, _, _, _] _ _
      refine rl_iload_n (pc := 41) R dX6_openBehind_41 rfl ?_
      refine rl_istore (pc := 42) R dX6_openBehind_42 (Nat.le_of_ble_eq_true rfl) rfl ?_
      show K _ [_, _, _, _, _] _ _
      exact loop2 (n - frm (se 1) s n 0 0) _ _ 0 _ hg (by omega) rfl rfl
  have loop : ∀ (j i g : Nat), i + j = n → g < 1000 → frm (se 1) s j i g = frm (se 1) s n 0 0 → K 4 [some (.ref y), some (.int s), some (.int (nI g)), some (.int (nI i)), none] [] h := by
    intro j
    induction j with
    | zero =>
      intro i g hij hg ho
      refine rl_iload_n (pc := 4) R dX6_openBehind_4 rfl ?_
      refine rl_aload_n (pc := 5) R dX6_openBehind_5 rfl ?_
      refine rl_getf (pc := 6) R dX6_openBehind_6 fkX6_12 (by first | assumption | rfl) rfl ?_
      refine rl_getf (pc := 9) R dX6_openBehind_9 fkX6_52 (by first | assumption | rfl) rfl ?_
      refine rl_icmp_ge (pc := 12) (tgt := 39) R dX6_openBehind_12 rfl (fun c12 => ?_) (fun c12 => absurd (nI_le (by omega) (by omega)) c12)
      exact (show i = n by omega) ▸ fin g hg ho
    | succ j ih =>
      intro i g hij hg ho
      refine rl_iload_n (pc := 4) R dX6_openBehind_4 rfl ?_
      refine rl_aload_n (pc := 5) R dX6_openBehind_5 rfl ?_
      refine rl_getf (pc := 6) R dX6_openBehind_6 fkX6_12 (by first | assumption | rfl) rfl ?_
      refine rl_getf (pc := 9) R dX6_openBehind_9 fkX6_52 (by first | assumption | rfl) rfl ?_
      refine rl_icmp_ge (pc := 12) (tgt := 39) R dX6_openBehind_12 rfl (fun c12 => absurd c12 (nI_ge (by omega) (by omega))) (fun c12 => ?_)
      refine rl_iload_n (pc := 15) R dX6_openBehind_15 rfl ?_
      refine rl_iload_n (pc := 16) R dX6_openBehind_16 rfl ?_
      refine rl_S2 (pc := 17) RS dX6_openBehind_17 lkX6_56 (Nat.le_of_ble_eq_true rfl) (bs_X7_holds) ?_
      refine rl_if_eq (pc := 20) (tgt := 33) R dX6_openBehind_20 rfl (fun c20 => ?_) (fun c20 => ?_)
      · rw [bI_0] at c20
        refine rl_iinc (pc := 33) R dX6_openBehind_33 rfl (ii_n i) rfl ?_
        show K _ [_, _, _, _, _] _ _
        refine rl_goto (pc := 36) (tgt := 4) R dX6_openBehind_36 rfl (ih (i + 1) _ (by omega) (by have := oAg_le (se 1) i; omega) (by rw [← ho]; simp only [frm, c20]; rfl))
      · rw [bI_n0] at c20
        refine rl_aload_n (pc := 23) R dX6_openBehind_23 rfl ?_
        refine rl_iconst (pc := 24) R dX6_openBehind_24 ic_1 ?_
        refine rl_V1 (pc := 25) RV dX6_openBehind_25 lkX6_44 h1 rfl (Nat.le_of_ble_eq_true rfl) (bs_X6_tell (i := 1) hY0 (by decide)) ?_
        refine rl_iload_n (pc := 28) R dX6_openBehind_28 rfl ?_
        refine rl_S2 (pc := 29) RS dX6_openBehind_29 lkX6_59 (Nat.le_of_ble_eq_true rfl) (bs_X7_openAgain (by omega)) ?_
        refine rl_istore_n (pc := 32) R dX6_openBehind_32 (Nat.le_of_ble_eq_true rfl) rfl ?_
        show K _ [_, _, _, _, _] _ _
        refine rl_iinc (pc := 33) R dX6_openBehind_33 rfl (ii_n i) rfl ?_
        show K _ [_, _, _, _, _] _ _
        refine rl_goto (pc := 36) (tgt := 4) R dX6_openBehind_36 rfl (ih (i + 1) _ (by omega) (by have := oAg_le (se 1) i; omega) (by rw [← ho]; simp only [frm, c20]; rfl))
  refine rl_iconst (pc := 0) R dX6_openBehind_0 ic_0 ?_
  refine rl_istore_n (pc := 1) R dX6_openBehind_1 (Nat.le_of_ble_eq_true rfl) rfl ?_
  show K _ [_, _, _, _, _] _ _
  refine rl_iconst (pc := 2) R dX6_openBehind_2 ic_0 ?_
  refine rl_istore_n (pc := 3) R dX6_openBehind_3 (Nat.le_of_ble_eq_true rfl) rfl ?_
  show K _ [_, _, _, _, _] _ _
  exact loop n 0 0 (by omega) (by decide) rfl
theorem bs_X6_firstWrong {s : Int32} (hY : rY h y kd ks kc n nw wo co se) : BS (d + 4) false yX6_firstWrong [.ref y, .int s] h (some (.int (fwr (se 1) (se 0) s nw n 0 0))) h := by
  have hY0 := hY
  obtain ⟨h1, hD, hs, hne⟩ := hY
  have hn := hD.2.1
  have hk := hD.1
  refine bs_of mtX6_firstWrong rfl (Nat.le_of_ble_eq_true rfl) (fun K R RV RS E => ?_)
  show K 0 [_, _, _, _] [] _
  have loop : ∀ (j i g : Nat), i + j = n → g < 1000 → fwr (se 1) (se 0) s nw j i g = fwr (se 1) (se 0) s nw n 0 0 → K 4 [some (.ref y), some (.int s), some (.int (nI g)), some (.int (nI i))] [] h := by
    intro j
    induction j with
    | zero =>
      intro i g hij hg ho
      refine rl_iload_n (pc := 4) R dX6_firstWrong_4 rfl ?_
      refine rl_aload_n (pc := 5) R dX6_firstWrong_5 rfl ?_
      refine rl_getf (pc := 6) R dX6_firstWrong_6 fkX6_12 (by first | assumption | rfl) rfl ?_
      refine rl_getf (pc := 9) R dX6_firstWrong_9 fkX6_52 (by first | assumption | rfl) rfl ?_
      refine rl_icmp_ge (pc := 12) (tgt := 59) R dX6_firstWrong_12 rfl (fun c12 => ?_) (fun c12 => absurd (nI_le (by omega) (by omega)) c12)
      refine rl_bipush (pc := 59) R dX6_firstWrong_59 bc_m4 ?_
      exact rl_ireturn (pc := 61) E dX6_firstWrong_61 rfl rfl (e_si ho.symm)
    | succ j ih =>
      intro i g hij hg ho
      refine rl_iload_n (pc := 4) R dX6_firstWrong_4 rfl ?_
      refine rl_aload_n (pc := 5) R dX6_firstWrong_5 rfl ?_
      refine rl_getf (pc := 6) R dX6_firstWrong_6 fkX6_12 (by first | assumption | rfl) rfl ?_
      refine rl_getf (pc := 9) R dX6_firstWrong_9 fkX6_52 (by first | assumption | rfl) rfl ?_
      refine rl_icmp_ge (pc := 12) (tgt := 59) R dX6_firstWrong_12 rfl (fun c12 => absurd c12 (nI_ge (by omega) (by omega))) (fun c12 => ?_)
      refine rl_iload_n (pc := 15) R dX6_firstWrong_15 rfl ?_
      refine rl_iload_n (pc := 16) R dX6_firstWrong_16 rfl ?_
      refine rl_S2 (pc := 17) RS dX6_firstWrong_17 lkX6_56 (Nat.le_of_ble_eq_true rfl) (bs_X7_holds) ?_
      refine rl_if_eq (pc := 20) (tgt := 53) R dX6_firstWrong_20 rfl (fun c20 => ?_) (fun c20 => ?_)
      · rw [bI_0] at c20
        refine rl_iinc (pc := 53) R dX6_firstWrong_53 rfl (ii_n i) rfl ?_
        show K _ [_, _, _, _] _ _
        refine rl_goto (pc := 56) (tgt := 4) R dX6_firstWrong_56 rfl (ih (i + 1) _ (by omega) (by have := oAg_le (se 1) i; omega) (by rw [← ho]; simp only [fwr]; first | rw [if_neg (by rw [c20]; decide)] | rw [if_pos c20, if_neg c29, if_pos c38]))
      · rw [bI_n0] at c20
        refine rl_aload_n (pc := 23) R dX6_firstWrong_23 rfl ?_
        refine rl_iload_n (pc := 24) R dX6_firstWrong_24 rfl ?_
        refine rl_iload_n (pc := 25) R dX6_firstWrong_25 rfl ?_
        refine rl_V2 (pc := 26) RV dX6_firstWrong_26 lkX6_66 h1 rfl (Nat.le_of_ble_eq_true rfl) (bs_X6_leftOn hY0) ?_
        refine rl_if_le (pc := 29) (tgt := 41) R dX6_firstWrong_29 rfl (fun c29 => ?_) (fun c29 => ?_)
        · refine rl_iload_n (pc := 41) R dX6_firstWrong_41 rfl ?_
          exact rl_ireturn (pc := 42) E dX6_firstWrong_42 rfl rfl (e_si (by rw [← ho]; simp only [fwr]; first | rw [if_pos c20, if_pos c29] | rw [if_pos c20, if_neg c29, if_neg (by rw [c38]; decide)]))
        · refine rl_aload_n (pc := 32) R dX6_firstWrong_32 rfl ?_
          refine rl_iload_n (pc := 33) R dX6_firstWrong_33 rfl ?_
          refine rl_iload_n (pc := 34) R dX6_firstWrong_34 rfl ?_
          refine rl_V2 (pc := 35) RV dX6_firstWrong_35 lkX6_63 h1 rfl (Nat.le_of_ble_eq_true rfl) (bs_X6_mayLie hY0 (by omega) (by omega)) ?_
          refine rl_if_ne (pc := 38) (tgt := 43) R dX6_firstWrong_38 rfl (fun c38 => ?_) (fun c38 => ?_)
          · rw [bI_n0] at c38
            refine rl_aload_n (pc := 43) R dX6_firstWrong_43 rfl ?_
            refine rl_iconst (pc := 44) R dX6_firstWrong_44 ic_1 ?_
            refine rl_V1 (pc := 45) RV dX6_firstWrong_45 lkX6_44 h1 rfl (Nat.le_of_ble_eq_true rfl) (bs_X6_tell (i := 1) hY0 (by decide)) ?_
            refine rl_iload_n (pc := 48) R dX6_firstWrong_48 rfl ?_
            refine rl_S2 (pc := 49) RS dX6_firstWrong_49 lkX6_59 (Nat.le_of_ble_eq_true rfl) (bs_X7_openAgain (by omega)) ?_
            refine rl_istore_n (pc := 52) R dX6_firstWrong_52 (Nat.le_of_ble_eq_true rfl) rfl ?_
            show K _ [_, _, _, _] _ _
            refine rl_iinc (pc := 53) R dX6_firstWrong_53 rfl (ii_n i) rfl ?_
            show K _ [_, _, _, _] _ _
            refine rl_goto (pc := 56) (tgt := 4) R dX6_firstWrong_56 rfl (ih (i + 1) _ (by omega) (by have := oAg_le (se 1) i; omega) (by rw [← ho]; simp only [fwr]; first | rw [if_neg (by rw [c20]; decide)] | rw [if_pos c20, if_neg c29, if_pos c38]))
          · rw [bI_0] at c38
            refine rl_iload_n (pc := 41) R dX6_firstWrong_41 rfl ?_
            exact rl_ireturn (pc := 42) E dX6_firstWrong_42 rfl rfl (e_si (by rw [← ho]; simp only [fwr]; first | rw [if_pos c20, if_pos c29] | rw [if_pos c20, if_neg c29, if_neg (by rw [c38]; decide)]))
  refine rl_iconst (pc := 0) R dX6_firstWrong_0 ic_0 ?_
  refine rl_istore_n (pc := 1) R dX6_firstWrong_1 (Nat.le_of_ble_eq_true rfl) rfl ?_
  show K _ [_, _, _, _] _ _
  refine rl_iconst (pc := 2) R dX6_firstWrong_2 ic_0 ?_
  refine rl_istore_n (pc := 3) R dX6_firstWrong_3 (Nat.le_of_ble_eq_true rfl) rfl ?_
  show K _ [_, _, _, _] _ _
  exact loop n 0 0 (by omega) (by decide) rfl
theorem bs_X6_courtHas {i : Nat} {s : Int32} (hY : rY h y kd ks kc n nw wo co se) (hi : i < n) : BS (d + 4) false yX6_courtHas [.ref y, .int s, .int (nI i)] h (some (.int (crt n nw wo co i (bt s i) (lft (se 0) s i) (se 2)))) h := by
  have hY0 := hY
  obtain ⟨h1, hD, hs, hne⟩ := hY
  refine bs_of mtX6_courtHas rfl (Nat.le_of_ble_eq_true rfl) (fun K R RV RS E => ?_)
  show K 0 [_, _, _] [] _
  refine rl_aload_n (pc := 0) R dX6_courtHas_0 rfl ?_
  refine rl_getf (pc := 1) R dX6_courtHas_1 fkX6_12 (by first | assumption | rfl) rfl ?_
  refine rl_iload_n (pc := 4) R dX6_courtHas_4 rfl ?_
  refine rl_iload_n (pc := 5) R dX6_courtHas_5 rfl ?_
  refine rl_iload_n (pc := 6) R dX6_courtHas_6 rfl ?_
  refine rl_S2 (pc := 7) RS dX6_courtHas_7 lkX6_56 (Nat.le_of_ble_eq_true rfl) (bs_X7_holds) ?_
  refine rl_aload_n (pc := 10) R dX6_courtHas_10 rfl ?_
  refine rl_iload_n (pc := 11) R dX6_courtHas_11 rfl ?_
  refine rl_iload_n (pc := 12) R dX6_courtHas_12 rfl ?_
  refine rl_V2 (pc := 13) RV dX6_courtHas_13 lkX6_66 h1 rfl (Nat.le_of_ble_eq_true rfl) (bs_X6_leftOn hY0) ?_
  refine rl_aload_n (pc := 16) R dX6_courtHas_16 rfl ?_
  refine rl_iconst (pc := 17) R dX6_courtHas_17 ic_2 ?_
  refine rl_V1 (pc := 18) RV dX6_courtHas_18 lkX6_44 h1 rfl (Nat.le_of_ble_eq_true rfl) (bs_X6_tell (i := 2) hY0 (by decide)) ?_
  refine rl_V4 (pc := 21) RV dX6_courtHas_21 lkX6_74 hD.1 rfl (Nat.le_of_ble_eq_true rfl) (bs_X0_courtHas hD hi) ?_
  exact rl_ireturn (pc := 24) E dX6_courtHas_24 rfl rfl (rfl)
theorem bs_X6_gainOf {s : Int32} (hY : rY h y kd ks kc n nw wo co se) : BS (d + 5) false yX6_gainOf [.ref y, .int s] h (some (.int (gnO n nw wo co (se 0) (se 2) s n 0 0))) h := by
  have hY0 := hY
  obtain ⟨h1, hD, hs, hne⟩ := hY
  have hn := hD.2.1
  have hk := hD.1
  refine bs_of mtX6_gainOf rfl (Nat.le_of_ble_eq_true rfl) (fun K R RV RS E => ?_)
  show K 0 [_, _, _, _] [] _
  have loop : ∀ (j i : Nat) (x : Int32), i + j = n → gnO n nw wo co (se 0) (se 2) s j i x = gnO n nw wo co (se 0) (se 2) s n 0 0 → K 4 [some (.ref y), some (.int s), some (.int x), some (.int (nI i))] [] h := by
    intro j
    induction j with
    | zero =>
      intro i x hij ho
      refine rl_iload_n (pc := 4) R dX6_gainOf_4 rfl ?_
      refine rl_aload_n (pc := 5) R dX6_gainOf_5 rfl ?_
      refine rl_getf (pc := 6) R dX6_gainOf_6 fkX6_12 (by first | assumption | rfl) rfl ?_
      refine rl_getf (pc := 9) R dX6_gainOf_9 fkX6_52 (by first | assumption | rfl) rfl ?_
      refine rl_icmp_ge (pc := 12) (tgt := 30) R dX6_gainOf_12 rfl (fun c12 => ?_) (fun c12 => absurd (nI_le (by omega) (by omega)) c12)
      refine rl_iload_n (pc := 30) R dX6_gainOf_30 rfl ?_
      exact rl_ireturn (pc := 31) E dX6_gainOf_31 rfl rfl (e_si ho.symm)
    | succ j ih =>
      intro i x hij ho
      refine rl_iload_n (pc := 4) R dX6_gainOf_4 rfl ?_
      refine rl_aload_n (pc := 5) R dX6_gainOf_5 rfl ?_
      refine rl_getf (pc := 6) R dX6_gainOf_6 fkX6_12 (by first | assumption | rfl) rfl ?_
      refine rl_getf (pc := 9) R dX6_gainOf_9 fkX6_52 (by first | assumption | rfl) rfl ?_
      refine rl_icmp_ge (pc := 12) (tgt := 30) R dX6_gainOf_12 rfl (fun c12 => absurd c12 (nI_ge (by omega) (by omega))) (fun c12 => ?_)
      refine rl_iload_n (pc := 15) R dX6_gainOf_15 rfl ?_
      refine rl_aload_n (pc := 16) R dX6_gainOf_16 rfl ?_
      refine rl_iload_n (pc := 17) R dX6_gainOf_17 rfl ?_
      refine rl_iload_n (pc := 18) R dX6_gainOf_18 rfl ?_
      refine rl_V2 (pc := 19) RV dX6_gainOf_19 lkX6_78 h1 rfl (Nat.le_of_ble_eq_true rfl) (bs_X6_courtHas hY0 (by omega)) ?_
      refine rl_iadd (pc := 22) R dX6_gainOf_22 ?_
      refine rl_istore_n (pc := 23) R dX6_gainOf_23 (Nat.le_of_ble_eq_true rfl) rfl ?_
      show K _ [_, _, _, _] _ _
      refine rl_iinc (pc := 24) R dX6_gainOf_24 rfl (ii_n i) rfl ?_
      show K _ [_, _, _, _] _ _
      refine rl_goto (pc := 27) (tgt := 4) R dX6_gainOf_27 rfl (ih (i + 1) _ (by omega) ho)
  refine rl_iconst (pc := 0) R dX6_gainOf_0 ic_0 ?_
  refine rl_istore_n (pc := 1) R dX6_gainOf_1 (Nat.le_of_ble_eq_true rfl) rfl ?_
  show K _ [_, _, _, _] _ _
  refine rl_iconst (pc := 2) R dX6_gainOf_2 ic_0 ?_
  refine rl_istore_n (pc := 3) R dX6_gainOf_3 (Nat.le_of_ble_eq_true rfl) rfl ?_
  show K _ [_, _, _, _] _ _
  exact loop n 0 0 (by omega) rfl
theorem bs_X6_trustedBy {s : Int32} (hY : rY h y kd ks kc n nw wo co se) : BS (d + 4) false yX6_trustedBy [.ref y, .int s] h (some (.int (trB n nw (se 0) (se 2) s n 0 0))) h := by
  have hY0 := hY
  obtain ⟨h1, hD, hs, hne⟩ := hY
  have hn := hD.2.1
  have hk := hD.1
  refine bs_of mtX6_trustedBy rfl (Nat.le_of_ble_eq_true rfl) (fun K R RV RS E => ?_)
  show K 0 [_, _, _, _, _] [] _
  have loop : ∀ (j i : Nat) (x : Int32) (z : Option Value), i + j = n → trB n nw (se 0) (se 2) s j i x = trB n nw (se 0) (se 2) s n 0 0 → (z = none ∨ ∃ v : Int32, z = some (.int v)) → K 4 [some (.ref y), some (.int s), some (.int x), some (.int (nI i)), z] [] h := by
    intro j
    induction j with
    | zero =>
      intro i x z hij ho hz
      refine rl_iload_n (pc := 4) R dX6_trustedBy_4 rfl ?_
      refine rl_aload_n (pc := 5) R dX6_trustedBy_5 rfl ?_
      refine rl_getf (pc := 6) R dX6_trustedBy_6 fkX6_12 (by first | assumption | rfl) rfl ?_
      refine rl_getf (pc := 9) R dX6_trustedBy_9 fkX6_52 (by first | assumption | rfl) rfl ?_
      refine rl_icmp_ge (pc := 12) (tgt := 80) R dX6_trustedBy_12 rfl (fun c12 => ?_) (fun c12 => absurd (nI_le (by omega) (by omega)) c12)
      refine rl_iload_n (pc := 80) R dX6_trustedBy_80 rfl ?_
      exact rl_ireturn (pc := 81) E dX6_trustedBy_81 rfl rfl (e_si ho.symm)
    | succ j ih =>
      intro i x z hij ho hz
      have word : ∀ b : Bool, b = (bt s i || decide (nw i = 1)) → K 39 [some (.ref y), some (.int s), some (.int x), some (.int (nI i)), z] [.int (bI b)] h := by
        intro b hb
        refine rl_istore (pc := 39) R dX6_trustedBy_39 (Nat.le_of_ble_eq_true rfl) rfl ?_
        show K _ [_, _, _, _, _] _ _
        refine rl_iload (pc := 41) R dX6_trustedBy_41 rfl ?_
        refine rl_if_eq (pc := 43) (tgt := 74) R dX6_trustedBy_43 rfl (fun c43 => ?_) (fun c43 => ?_)
        · rw [bI_0] at c43
          refine rl_iinc (pc := 74) R dX6_trustedBy_74 rfl (ii_n i) rfl ?_
          show K _ [_, _, _, _, _] _ _
          refine rl_goto (pc := 77) (tgt := 4) R dX6_trustedBy_77 rfl (ih (i + 1) _ _ (by omega) (by rw [← ho]; simp only [trB]; rw [← hb]; first | (rw [c43]; rfl) | (rw [c43, c65]; rfl)) (Or.inr ⟨_, rfl⟩))
        · rw [bI_n0] at c43
          refine rl_aload_n (pc := 46) R dX6_trustedBy_46 rfl ?_
          refine rl_getf (pc := 47) R dX6_trustedBy_47 fkX6_12 (by first | assumption | rfl) rfl ?_
          refine rl_iload_n (pc := 50) R dX6_trustedBy_50 rfl ?_
          refine rl_aload_n (pc := 51) R dX6_trustedBy_51 rfl ?_
          refine rl_iload_n (pc := 52) R dX6_trustedBy_52 rfl ?_
          refine rl_iload_n (pc := 53) R dX6_trustedBy_53 rfl ?_
          refine rl_V2 (pc := 54) RV dX6_trustedBy_54 lkX6_66 h1 rfl (Nat.le_of_ble_eq_true rfl) (bs_X6_leftOn hY0) ?_
          refine rl_aload_n (pc := 57) R dX6_trustedBy_57 rfl ?_
          refine rl_iconst (pc := 58) R dX6_trustedBy_58 ic_2 ?_
          refine rl_V1 (pc := 59) RV dX6_trustedBy_59 lkX6_44 h1 rfl (Nat.le_of_ble_eq_true rfl) (bs_X6_tell (i := 2) hY0 (by decide)) ?_
          refine rl_V3 (pc := 62) RV dX6_trustedBy_62 lkX6_80 hk rfl (Nat.le_of_ble_eq_true rfl) (bs_X0_isTrusted hk) ?_
          refine rl_if_eq (pc := 65) (tgt := 74) R dX6_trustedBy_65 rfl (fun c65 => ?_) (fun c65 => ?_)
          · rw [bI_0] at c65
            refine rl_iinc (pc := 74) R dX6_trustedBy_74 rfl (ii_n i) rfl ?_
            show K _ [_, _, _, _, _] _ _
            refine rl_goto (pc := 77) (tgt := 4) R dX6_trustedBy_77 rfl (ih (i + 1) _ _ (by omega) (by rw [← ho]; simp only [trB]; rw [← hb]; first | (rw [c43]; rfl) | (rw [c43, c65]; rfl)) (Or.inr ⟨_, rfl⟩))
          · rw [bI_n0] at c65
            refine rl_iload_n (pc := 68) R dX6_trustedBy_68 rfl ?_
            refine rl_iconst (pc := 69) R dX6_trustedBy_69 ic_1 ?_
            refine rl_iload_n (pc := 70) R dX6_trustedBy_70 rfl ?_
            refine rl_ishl (pc := 71) R dX6_trustedBy_71 ?_
            refine rl_ior (pc := 72) R dX6_trustedBy_72 ?_
            refine rl_istore_n (pc := 73) R dX6_trustedBy_73 (Nat.le_of_ble_eq_true rfl) rfl ?_
            show K _ [_, _, _, _, _] _ _
            refine rl_iinc (pc := 74) R dX6_trustedBy_74 rfl (ii_n i) rfl ?_
            show K _ [_, _, _, _, _] _ _
            refine rl_goto (pc := 77) (tgt := 4) R dX6_trustedBy_77 rfl (ih (i + 1) _ _ (by omega) (by rw [← ho]; simp only [trB]; rw [← hb]; first | (rw [c43]; rfl) | (rw [c43, c65]; rfl)) (Or.inr ⟨_, rfl⟩))
      refine rl_iload_n (pc := 4) R dX6_trustedBy_4 rfl ?_
      refine rl_aload_n (pc := 5) R dX6_trustedBy_5 rfl ?_
      refine rl_getf (pc := 6) R dX6_trustedBy_6 fkX6_12 (by first | assumption | rfl) rfl ?_
      refine rl_getf (pc := 9) R dX6_trustedBy_9 fkX6_52 (by first | assumption | rfl) rfl ?_
      refine rl_icmp_ge (pc := 12) (tgt := 80) R dX6_trustedBy_12 rfl (fun c12 => absurd c12 (nI_ge (by omega) (by omega))) (fun c12 => ?_)
      refine rl_iload_n (pc := 15) R dX6_trustedBy_15 rfl ?_
      refine rl_iload_n (pc := 16) R dX6_trustedBy_16 rfl ?_
      refine rl_S2 (pc := 17) RS dX6_trustedBy_17 lkX6_56 (Nat.le_of_ble_eq_true rfl) (bs_X7_holds) ?_
      refine rl_if_ne (pc := 20) (tgt := 34) R dX6_trustedBy_20 rfl (fun c20 => ?_) (fun c20 => ?_)
      · rw [bI_n0] at c20
        refine rl_iconst (pc := 34) R dX6_trustedBy_34 ic_1 ?_
        refine rl_goto (pc := 35) (tgt := 39) R dX6_trustedBy_35 rfl ?_
        first | exact word true (by simp_all) | exact word false (by simp_all)
      · rw [bI_0] at c20
        refine rl_aload_n (pc := 23) R dX6_trustedBy_23 rfl ?_
        refine rl_getf (pc := 24) R dX6_trustedBy_24 fkX6_12 (by first | assumption | rfl) rfl ?_
        refine rl_iload_n (pc := 27) R dX6_trustedBy_27 rfl ?_
        refine rl_V1 (pc := 28) RV dX6_trustedBy_28 lkX6_40 hk rfl (Nat.le_of_ble_eq_true rfl) (bs_X0_hasNews hD (by omega)) ?_
        refine rl_if_eq (pc := 31) (tgt := 38) R dX6_trustedBy_31 rfl (fun c31 => ?_) (fun c31 => ?_)
        · rw [bI_0] at c31
          refine rl_iconst (pc := 38) R dX6_trustedBy_38 ic_0 ?_
          first | exact word true (by simp_all) | exact word false (by simp_all)
        · rw [bI_n0] at c31
          refine rl_iconst (pc := 34) R dX6_trustedBy_34 ic_1 ?_
          refine rl_goto (pc := 35) (tgt := 39) R dX6_trustedBy_35 rfl ?_
          first | exact word true (by simp_all) | exact word false (by simp_all)
  refine rl_iconst (pc := 0) R dX6_trustedBy_0 ic_0 ?_
  refine rl_istore_n (pc := 1) R dX6_trustedBy_1 (Nat.le_of_ble_eq_true rfl) rfl ?_
  show K _ [_, _, _, _, _] _ _
  refine rl_iconst (pc := 2) R dX6_trustedBy_2 ic_0 ?_
  refine rl_istore_n (pc := 3) R dX6_trustedBy_3 (Nat.le_of_ble_eq_true rfl) rfl ?_
  show K _ [_, _, _, _, _] _ _
  exact loop n 0 0 _ (by omega) rfl (Or.inl rfl)
theorem bs_X6_drawLots (hY : rY h y kd ks kc n nw wo co se) : BS (d + 4) false yX6_drawLots [.ref y] h (some (.int (lot n nw (se 1) (se 0) n 0 0 0 (se 3)).1)) (h.set ks (hI 4 (upd se 3 (lot n nw (se 1) (se 0) n 0 0 0 (se 3)).2))) := by
  have hn := hY.2.1.2.1
  refine bs_of mtX6_drawLots rfl (Nat.le_of_ble_eq_true rfl) (fun K R RV RS E => ?_)
  show K 0 [_, _, _, _, _] [] _
  have loop : ∀ (j i : Nat) (s : Int32) (g : Nat) (h2 : List sm_C) (se2 : Nat → Int32) (z : Option Value), i + j = n → g < 1000 → rY h2 y kd ks kc n nw wo co se2 → se2 0 = se 0 → se2 1 = se 1 → (h2.set ks (hI 4 (upd se2 3 (lot n nw (se 1) (se 0) j i s g (se2 3)).2))) = (h.set ks (hI 4 (upd se 3 (lot n nw (se 1) (se 0) n 0 0 0 (se 3)).2))) → (j = 0 → h2 = (h.set ks (hI 4 (upd se 3 (lot n nw (se 1) (se 0) n 0 0 0 (se 3)).2)))) → (lot n nw (se 1) (se 0) j i s g (se2 3)).1 = (lot n nw (se 1) (se 0) n 0 0 0 (se 3)).1 → K 6 [some (.ref y), some (.int s), some (.int (nI g)), some (.int (nI i)), z] [] h2 := by
    intro j
    induction j with
    | zero =>
      intro i s g h2 se2 z hij hg hY2 e0 e1 hh hz ho
      have hk := hY2.2.1.1
      have h1 := hY2.1
      have h0 := hz rfl
      subst h0
      refine rl_iload_n (pc := 6) R dX6_drawLots_6 rfl ?_
      refine rl_aload_n (pc := 7) R dX6_drawLots_7 rfl ?_
      refine rl_getf (pc := 8) R dX6_drawLots_8 fkX6_12 (by first | assumption | rfl) rfl ?_
      refine rl_getf (pc := 11) R dX6_drawLots_11 fkX6_52 (by first | assumption | rfl) rfl ?_
      refine rl_icmp_ge (pc := 14) (tgt := 105) R dX6_drawLots_14 rfl (fun c14 => ?_) (fun c14 => absurd (nI_le (by omega) (by omega)) c14)
      refine rl_iload_n (pc := 105) R dX6_drawLots_105 rfl ?_
      exact rl_ireturn (pc := 106) E dX6_drawLots_106 rfl rfl (e_si ho.symm)
    | succ j ih =>
      intro i s g h2 se2 z hij hg hY2 e0 e1 hh hz ho
      have hk := hY2.2.1.1
      have h1 := hY2.1
      have hY3 : rY (h2.set ks (hI 4 (upd se2 3 (drw (se2 3))))) y kd ks kc n nw wo co (upd se2 3 (drw (se2 3))) := rY_set hY2
      have h13 := hY3.1
      have hk3 := hY3.2.1.1
      have hm : nI n - nI i = nI (n - i) := pk_sub (by omega)
      have u0 : upd se2 3 (drw (se2 3)) 0 = se 0 := by rw [← e0]; rfl
      have u1 : upd se2 3 (drw (se2 3)) 1 = se 1 := by rw [← e1]; rfl
      have u3 : upd se2 3 (drw (se2 3)) 3 = drw (se2 3) := rfl
      have hset : ∀ x : Int32, (h2.set ks (hI 4 (upd se2 3 (drw (se2 3))))).set ks (hI 4 (upd (upd se2 3 (drw (se2 3))) 3 x)) = h2.set ks (hI 4 (upd se2 3 x)) := by
        intro x
        rw [List.set_set]
        exact congrArg (fun f => h2.set ks (hI 4 f)) (by funext q; by_cases hq : q = 3 <;> simp [upd, hq])
      have upu : ∀ x : Int32, upd (upd se2 3 x) 3 x = upd se2 3 x := by
        intro x; funext q; by_cases hq : q = 3 <;> simp [upd, hq]
      have again : ∀ (b : Bool), ltY n nw (se 1) (se 0) s (drw (se2 3)) i g = b → K 99 [some (.ref y), some (.int (if b then s ||| b1 i else s)), some (.int (nI (if b then oAg (se 1) i else g))), some (.int (nI i)), some (.int (nI (n - i)))] [] (h2.set ks (hI 4 (upd se2 3 (drw (se2 3))))) := by
        intro b hb
        have hl : lot n nw (se 1) (se 0) (j + 1) i s g (se2 3) = lot n nw (se 1) (se 0) j (i + 1) (if b then s ||| b1 i else s) (if b then oAg (se 1) i else g) (drw (se2 3)) := by
          simp only [lot, hb]
          cases b <;> rfl
        rw [hl] at hh ho
        refine rl_iinc (pc := 99) R dX6_drawLots_99 rfl (ii_n i) rfl ?_
        show K _ [_, _, _, _, _] _ _
        refine rl_goto (pc := 102) (tgt := 6) R dX6_drawLots_102 rfl (ih (i + 1) _ _ _ _ _ (by omega) (by have := oAg_le (se 1) i; split <;> omega) hY3 u0 u1 (by rw [u3, hset]; exact hh) (fun hj => by rw [← hh]; subst hj; rfl) (by rw [u3]; exact ho))
      refine rl_iload_n (pc := 6) R dX6_drawLots_6 rfl ?_
      refine rl_aload_n (pc := 7) R dX6_drawLots_7 rfl ?_
      refine rl_getf (pc := 8) R dX6_drawLots_8 fkX6_12 (by first | assumption | rfl) rfl ?_
      refine rl_getf (pc := 11) R dX6_drawLots_11 fkX6_52 (by first | assumption | rfl) rfl ?_
      refine rl_icmp_ge (pc := 14) (tgt := 105) R dX6_drawLots_14 rfl (fun c14 => absurd c14 (nI_ge (by omega) (by omega))) (fun c14 => ?_)
      refine rl_aload_n (pc := 17) R dX6_drawLots_17 rfl ?_
      refine rl_iconst (pc := 18) R dX6_drawLots_18 ic_3 ?_
      refine rl_aload_n (pc := 19) R dX6_drawLots_19 rfl ?_
      refine rl_iconst (pc := 20) R dX6_drawLots_20 ic_3 ?_
      refine rl_V1 (pc := 21) RV dX6_drawLots_21 lkX6_44 h1 rfl (Nat.le_of_ble_eq_true rfl) (bs_X6_tell (i := 3) hY2 (by decide)) ?_
      refine rl_ldc (pc := 24) R dX6_drawLots_24 kcX6_84 ?_
      refine rl_imul (pc := 26) R dX6_drawLots_26 ?_
      refine rl_sipush (pc := 27) R dX6_drawLots_27 sc_12345 ?_
      refine rl_iadd (pc := 30) R dX6_drawLots_30 ?_
      refine rl_ldc (pc := 31) R dX6_drawLots_31 kcX6_85 ?_
      refine rl_iand (pc := 33) R dX6_drawLots_33 ?_
      refine rl_V2 (pc := 34) RV dX6_drawLots_34 lkX6_86 h1 rfl (Nat.le_of_ble_eq_true rfl) (bs_X6_change (i := 3) hY2 (by decide)) ?_
      show K 37 _ [.int _] (h2.set ks (hI 4 (upd se2 3 (drw (se2 3)))))
      refine rl_pop (pc := 37) R dX6_drawLots_37 rfl ?_
      refine rl_aload_n (pc := 38) R dX6_drawLots_38 rfl ?_
      refine rl_getf (pc := 39) R dX6_drawLots_39 fkX6_12 (by first | assumption | rfl) rfl ?_
      refine rl_getf (pc := 42) R dX6_drawLots_42 fkX6_52 (by first | assumption | rfl) rfl ?_
      refine rl_iload_n (pc := 45) R dX6_drawLots_45 rfl ?_
      refine rl_isub (pc := 46) R dX6_drawLots_46 ?_
      rw [hm]
      refine rl_istore (pc := 47) R dX6_drawLots_47 (Nat.le_of_ble_eq_true rfl) rfl ?_
      show K _ [_, _, _, _, _] _ _
      refine rl_iload (pc := 49) R dX6_drawLots_49 rfl ?_
      refine rl_if_le (pc := 51) (tgt := 99) R dX6_drawLots_51 rfl (fun c51 => absurd c51 (nI_nle (by omega) (by omega))) (fun c51 => ?_)
      refine rl_aload_n (pc := 54) R dX6_drawLots_54 rfl ?_
      refine rl_iconst (pc := 55) R dX6_drawLots_55 ic_3 ?_
      refine rl_V1 (pc := 56) RV dX6_drawLots_56 lkX6_44 h13 rfl (Nat.le_of_ble_eq_true rfl) (bs_X6_tell (i := 3) hY3 (by decide)) ?_
      rw [u3]
      refine rl_ldc (pc := 59) R dX6_drawLots_59 kcX6_89 ?_
      refine rl_idiv (pc := 61) R dX6_drawLots_61 (by decide) ?_
      refine rl_iload (pc := 62) R dX6_drawLots_62 rfl ?_
      refine rl_irem (pc := 64) R dX6_drawLots_64 (nI_ne0 (by omega) (by omega)) ?_
      refine rl_aload_n (pc := 65) R dX6_drawLots_65 rfl ?_
      refine rl_iload_n (pc := 66) R dX6_drawLots_66 rfl ?_
      refine rl_iload_n (pc := 67) R dX6_drawLots_67 rfl ?_
      refine rl_V2 (pc := 68) RV dX6_drawLots_68 lkX6_66 h13 rfl (Nat.le_of_ble_eq_true rfl) (bs_X6_leftOn hY3) ?_
      rw [u0]
      refine rl_icmp_ge (pc := 71) (tgt := 99) R dX6_drawLots_71 rfl (fun c71 => ?_) (fun c71 => ?_)
      · exact again false (by simp only [ltY, hm]; rw [decide_eq_false (Int32.not_lt.mpr c71)]; rfl)
      · rw [Int32.not_le] at c71
        refine rl_aload_n (pc := 74) R dX6_drawLots_74 rfl ?_
        refine rl_iload_n (pc := 75) R dX6_drawLots_75 rfl ?_
        refine rl_iload_n (pc := 76) R dX6_drawLots_76 rfl ?_
        refine rl_V2 (pc := 77) RV dX6_drawLots_77 lkX6_63 h13 rfl (Nat.le_of_ble_eq_true rfl) (bs_X6_mayLie hY3 (by omega) (by omega)) ?_
        rw [u1]
        refine rl_if_eq (pc := 80) (tgt := 99) R dX6_drawLots_80 rfl (fun c80 => ?_) (fun c80 => ?_)
        · exact again false (by rw [bI_0] at c80; simp only [ltY, c80, Bool.and_false])
        · rw [bI_n0] at c80
          refine rl_iload_n (pc := 83) R dX6_drawLots_83 rfl ?_
          refine rl_iconst (pc := 84) R dX6_drawLots_84 ic_1 ?_
          refine rl_iload_n (pc := 85) R dX6_drawLots_85 rfl ?_
          refine rl_ishl (pc := 86) R dX6_drawLots_86 ?_
          refine rl_ior (pc := 87) R dX6_drawLots_87 ?_
          refine rl_istore_n (pc := 88) R dX6_drawLots_88 (Nat.le_of_ble_eq_true rfl) rfl ?_
          show K _ [_, _, _, _, _] _ _
          refine rl_aload_n (pc := 89) R dX6_drawLots_89 rfl ?_
          refine rl_iconst (pc := 90) R dX6_drawLots_90 ic_1 ?_
          refine rl_V1 (pc := 91) RV dX6_drawLots_91 lkX6_44 h13 rfl (Nat.le_of_ble_eq_true rfl) (bs_X6_tell (i := 1) hY3 (by decide)) ?_
          rw [u1]
          refine rl_iload_n (pc := 94) R dX6_drawLots_94 rfl ?_
          refine rl_S2 (pc := 95) RS dX6_drawLots_95 lkX6_59 (Nat.le_of_ble_eq_true rfl) (bs_X7_openAgain (by omega)) ?_
          refine rl_istore_n (pc := 98) R dX6_drawLots_98 (Nat.le_of_ble_eq_true rfl) rfl ?_
          show K _ [_, _, _, _, _] _ _
          exact again true (by simp only [ltY, hm]; rw [decide_eq_true c71, c80]; rfl)
  refine rl_iconst (pc := 0) R dX6_drawLots_0 ic_0 ?_
  refine rl_istore_n (pc := 1) R dX6_drawLots_1 (Nat.le_of_ble_eq_true rfl) rfl ?_
  show K _ [_, _, _, _, _] _ _
  refine rl_iconst (pc := 2) R dX6_drawLots_2 ic_0 ?_
  refine rl_istore_n (pc := 3) R dX6_drawLots_3 (Nat.le_of_ble_eq_true rfl) rfl ?_
  show K _ [_, _, _, _, _] _ _
  refine rl_iconst (pc := 4) R dX6_drawLots_4 ic_0 ?_
  refine rl_istore_n (pc := 5) R dX6_drawLots_5 (Nat.le_of_ble_eq_true rfl) rfl ?_
  show K _ [_, _, _, _, _] _ _
  exact loop n 0 0 0 h se _ (by omega) (by decide) hY rfl rfl rfl (fun hn0 => by subst hn0; simp only [lot]; rw [show upd se 3 (se 3) = se from by funext q; by_cases hq : q = 3 <;> simp [upd, hq]]; exact (List.set_getElem?_self' hY.2.2.1).symm) rfl
end YR
