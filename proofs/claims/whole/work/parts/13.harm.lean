/-! THE TABLE AND HARM -/
def pm : Nat → Int32
  | 0 => -1
  | m + 1 => nI m
theorem pm_dec (m : Nat) : nI m + Int32.ofInt (-1) = pm m := by
  cases m with
  | zero => decide
  | succ m => exact pk_m1 m
theorem pm_sub (m : Nat) : nI m - 1 = pm m := by
  cases m with
  | zero => decide
  | succ m => exact nI_pred m
theorem pm_lt (m : Nat) (h : m < 2147483648) : ¬ pm (m + 1) < 0 := nI_pos h
def mn (a b : Int32) : Int32 := if b < a then b else a
def NEV : Int32 := 2147483647
def lsm (n : Nat) (nw wo co : Nat → Int32) (left trust : Int32) : Nat → Nat → Int32 → Int32
  | 0, _, s => s
  | j + 1, i, s => lsm n nw wo co left trust j (i + 1) (s + crt n nw wo co i false left trust)
def silG (n : Nat) (nw wo co : Nat → Int32) (trust : Int32) (g : Nat → Int32) (i l : Nat) : Int32 := crt n nw wo co i false (nI l) trust + g ((i + 1) * 10 + l)
def lyG (n : Nat) (nw wo co : Nat → Int32) (law trust : Int32) (g : Nat → Int32) (i l : Nat) : Int32 :=
  if l = 0 then NEV else if nw i = 1 then NEV else if opn law i then lsm n nw wo co (nI (l - 1)) trust (min (oAg law i) n - (i + 1)) (i + 1) (crt n nw wo co i true (nI l) trust) + g (min (oAg law i) n * 10 + (l - 1)) else NEV
/-- the last row of the table -/
def rkE (n : Nat) : Nat → Nat → (Nat → Int32) → Nat → Int32
  | 0, _, g => g
  | j + 1, l, g => rkE n j (l + 1) (upd g (n * 10 + l) 0)
/-- row i of the table -/
def rkR (n : Nat) (nw wo co : Nat → Int32) (law trust : Int32) (i : Nat) : Nat → Nat → (Nat → Int32) → Nat → Int32
  | 0, _, g => g
  | j + 1, l, g => rkR n nw wo co law trust i j (l + 1) (upd g (i * 10 + l) (mn (silG n nw wo co trust g i l) (lyG n nw wo co law trust g i l)))
/-- rows below m -/
def rkO (n : Nat) (nw wo co : Nat → Int32) (law trust : Int32) (lies : Nat) : Nat → (Nat → Int32) → Nat → Int32
  | 0, g => g
  | m + 1, g => rkO n nw wo co law trust lies m (rkR n nw wo co law trust m (lies + 1) 0 g)
def rk (n : Nat) (nw wo co : Nat → Int32) (law trust : Int32) (lies : Nat) (g : Nat → Int32) : Nat → Int32 := rkO n nw wo co law trust lies n (rkE n (lies + 1) 0 g)
/-- what the table has to be -/
def rkF (n : Nat) (nw wo co : Nat → Int32) (law trust : Int32) (lies : Nat) (g : Nat → Int32) : Prop :=
  (∀ l, l ≤ lies → g (n * 10 + l) = 0) ∧ ∀ i, i < n → ∀ l, l ≤ lies → g (i * 10 + l) = mn (silG n nw wo co trust g i l) (lyG n nw wo co law trust g i l)
theorem rkE_out {n : Nat} : ∀ (j l : Nat) (g : Nat → Int32) (q : Nat), (∀ l2, l ≤ l2 → l2 < l + j → q ≠ n * 10 + l2) → rkE n j l g q = g q
  | 0, _, _, _, _ => rfl
  | j + 1, l, g, q, h => by
    rw [rkE, rkE_out j (l + 1) _ q (fun l2 h1 h2 => h l2 (by omega) (by omega))]
    simp only [upd]; rw [if_neg (h l (by omega) (by omega))]
theorem rkE_in {n : Nat} : ∀ (j l : Nat) (g : Nat → Int32) (l2 : Nat), l ≤ l2 → l2 < l + j → rkE n j l g (n * 10 + l2) = 0
  | 0, _, _, _, h1, h2 => by omega
  | j + 1, l, g, l2, h1, h2 => by
    rw [rkE]
    rcases Nat.lt_or_ge l l2 with q | q
    · exact rkE_in j (l + 1) _ l2 (by omega) (by omega)
    · have : l2 = l := by omega
      subst this
      rw [rkE_out j (l2 + 1) _ _ (fun l3 h3 h4 => by omega)]
      simp [upd]
section HF
variable {n : Nat} {nw wo co : Nat → Int32} {law trust : Int32}
theorem silG_congr {g g2 : Nat → Int32} {i l : Nat} (h : g ((i + 1) * 10 + l) = g2 ((i + 1) * 10 + l)) : silG n nw wo co trust g i l = silG n nw wo co trust g2 i l := by simp only [silG, h]
theorem lyG_congr {g g2 : Nat → Int32} {i l : Nat} (h : l ≠ 0 → g (min (oAg law i) n * 10 + (l - 1)) = g2 (min (oAg law i) n * 10 + (l - 1))) : lyG n nw wo co law trust g i l = lyG n nw wo co law trust g2 i l := by
  simp only [lyG]
  split
  · rfl
  · rename_i hl; rw [h hl]
theorem rkR_out {i : Nat} : ∀ (j l : Nat) (g : Nat → Int32) (q : Nat), (∀ l2, l ≤ l2 → l2 < l + j → q ≠ i * 10 + l2) → rkR n nw wo co law trust i j l g q = g q
  | 0, _, _, _, _ => rfl
  | j + 1, l, g, q, h => by
    rw [rkR, rkR_out j (l + 1) _ q (fun l2 h1 h2 => h l2 (by omega) (by omega))]
    simp only [upd]; rw [if_neg (h l (by omega) (by omega))]
theorem rkR_in {i : Nat} (hi : i < n) : ∀ (j l : Nat) (g : Nat → Int32) (l2 : Nat), l + j ≤ 10 → l ≤ l2 → l2 < l + j → rkR n nw wo co law trust i j l g (i * 10 + l2) = mn (silG n nw wo co trust g i l2) (lyG n nw wo co law trust g i l2)
  | 0, _, _, _, _, h1, h2 => by omega
  | j + 1, l, g, l2, hj, h1, h2 => by
    rw [rkR]
    rcases Nat.lt_or_ge l l2 with q | q
    · rw [rkR_in hi j (l + 1) _ l2 (by omega) (by omega) (by omega)]
      have hag : i + 1 ≤ min (oAg law i) n := by have := oAg_gt law i; omega
      rw [silG_congr (g2 := g) (by simp only [upd]; rw [if_neg (by omega)]), lyG_congr (g2 := g) (fun _ => by simp only [upd]; rw [if_neg (by omega)])]
    · have : l2 = l := by omega
      subst this
      rw [rkR_out j (l2 + 1) _ _ (fun l3 h3 h4 => by omega)]
      simp [upd]
theorem rkO_out {lies : Nat} (hl : lies ≤ 9) : ∀ (m : Nat) (g : Nat → Int32) (q : Nat), m * 10 ≤ q → rkO n nw wo co law trust lies m g q = g q
  | 0, _, _, _ => rfl
  | m + 1, g, q, h => by
    rw [rkO, rkO_out hl m _ q (by omega), rkR_out _ _ _ _ (fun l2 h1 h2 => by omega)]
theorem rkO_in {lies : Nat} (hl : lies ≤ 9) : ∀ (m : Nat) (g : Nat → Int32), m ≤ n → ∀ i, i < m → ∀ l, l ≤ lies → rkO n nw wo co law trust lies m g (i * 10 + l) = mn (silG n nw wo co trust (rkO n nw wo co law trust lies m g) i l) (lyG n nw wo co law trust (rkO n nw wo co law trust lies m g) i l)
  | 0, _, _, i, hi, _, _ => by omega
  | m + 1, g, hm, i, hi, l, hll => by
    rw [rkO]
    rcases Nat.lt_or_ge i m with q | q
    · exact rkO_in hl m _ (by omega) i q l hll
    · have : i = m := by omega
      subst this
      have hag : i + 1 ≤ min (oAg law i) n := by have := oAg_gt law i; omega
      rw [rkO_out hl i _ _ (by omega), rkR_in (by omega) _ _ _ _ (by omega) (by omega) (by omega)]
      rw [silG_congr (g := rkO n nw wo co law trust lies i _) (g2 := g) (by rw [rkO_out hl _ _ _ (by omega), rkR_out _ _ _ _ (fun l2 h1 h2 => by omega)]), lyG_congr (g := rkO n nw wo co law trust lies i _) (g2 := g) (fun _ => by rw [rkO_out hl _ _ _ (by omega), rkR_out _ _ _ _ (fun l2 h1 h2 => by omega)])]
theorem rk_F {lies : Nat} (hl : lies ≤ 9) (g : Nat → Int32) : rkF n nw wo co law trust lies (rk n nw wo co law trust lies g) := by
  refine ⟨fun l hll => ?_, fun i hi l hll => rkO_in hl n _ (Nat.le_refl _) i hi l hll⟩
  rw [rk, rkO_out hl n _ _ (by omega), rkE_in _ _ _ _ (by omega) (by omega)]
end HF
def wrs (n : Nat) (nw wo co : Nat → Int32) (law trust : Int32) (g : Nat → Int32) : Nat → Nat → Nat → Nat → Int32 → Int32
  | 0, _, _, _, s => s
  | j + 1, i, l, q, s => if q ≤ i ∧ g (i * 10 + l) < silG n nw wo co trust g i l then wrs n nw wo co law trust g j (i + 1) (l - 1) (oAg law i) (s ||| b1 i) else wrs n nw wo co law trust g j (i + 1) l q s
def rH (h : List sm_C) (a t tc : Nat) (g : Nat → Int32) : Prop := h[a]? = some (hO 1 [.ref t]) ∧ h[t]? = some (hO 3 [.ref tc]) ∧ h[tc]? = some (hI 290 g)
theorem rH_set {h : List sm_C} {a t tc : Nat} {g g2 : Nat → Int32} (hH : rH h a t tc g) : rH (h.set tc (hI 290 g2)) a t tc g2 := ⟨sm_h_oi hH.1 hH.2.2, sm_h_oi hH.2.1 hH.2.2, sm_h_eq hH.2.2⟩
theorem ix10 (i l : Nat) : nI i * 10 + nI l = nI (i * 10 + l) := by rw [show (10 : Int32) = nI 10 from rfl, pk_mul, nI_add]
section HM
variable {d : Nat} {h : List sm_C} {k c n a t tc : Nat} {nw wo co g : Nat → Int32}
theorem bs_X3_tell {i l : Nat} (h1 : h[t]? = some (hO 3 [.ref tc])) (h2 : h[tc]? = some (hI 290 g)) (hi : i < 29) (hl : l < 10) : BS (d + 2) false yX3_tell [.ref t, .int (nI i), .int (nI l)] h (some (.int (g (i * 10 + l)))) h := by
  refine bs_of mtX3_tell rfl (Nat.le_of_ble_eq_true rfl) (fun K R RV RS E => ?_)
  show K 0 [_, _, _] [] _
  refine rl_aload_n (pc := 0) R dX3_tell_0 rfl ?_
  refine rl_getf (pc := 1) R dX3_tell_1 fkX3_9 (by first | assumption | rfl) rfl ?_
  refine rl_iload_n (pc := 4) R dX3_tell_4 rfl ?_
  refine rl_bipush (pc := 5) R dX3_tell_5 bc_10 ?_
  refine rl_imul (pc := 7) R dX3_tell_7 ?_
  refine rl_iload_n (pc := 8) R dX3_tell_8 rfl ?_
  refine rl_iadd (pc := 9) R dX3_tell_9 ?_
  refine rl_S2 (pc := 10) RS dX3_tell_10 lkX3_15 (Nat.le_of_ble_eq_true rfl) (bs_X7_at h2 (ix10 i l) (by omega) (by decide)) ?_
  exact rl_ireturn (pc := 13) E dX3_tell_13 rfl rfl (rfl)
theorem bs_X3_change {i l : Nat} {v : Int32} (h1 : h[t]? = some (hO 3 [.ref tc])) (h2 : h[tc]? = some (hI 290 g)) (hi : i < 29) (hl : l < 10) : BS (d + 3) false yX3_change [.ref t, .int (nI i), .int (nI l), .int v] h none (h.set tc (hI 290 (upd g (i * 10 + l) v))) := by
  refine bs_of mtX3_change rfl (Nat.le_of_ble_eq_true rfl) (fun K R RV RS E => ?_)
  show K 0 [_, _, _, _] [] _
  refine rl_aload_n (pc := 0) R dX3_change_0 rfl ?_
  refine rl_getf (pc := 1) R dX3_change_1 fkX3_9 (by first | assumption | rfl) rfl ?_
  refine rl_iload_n (pc := 4) R dX3_change_4 rfl ?_
  refine rl_bipush (pc := 5) R dX3_change_5 bc_10 ?_
  refine rl_imul (pc := 7) R dX3_change_7 ?_
  refine rl_iload_n (pc := 8) R dX3_change_8 rfl ?_
  refine rl_iadd (pc := 9) R dX3_change_9 ?_
  refine rl_iload_n (pc := 10) R dX3_change_10 rfl ?_
  refine rl_S3 (pc := 11) RS dX3_change_11 lkX3_19 (Nat.le_of_ble_eq_true rfl) (bs_X7_put h2 (ix10 i l) (by omega) (by decide)) ?_
  refine rl_pop (pc := 14) R dX3_change_14 rfl ?_
  exact rl_return (pc := 15) E dX3_change_15 rfl rfl
theorem bs_X1_silent {i l : Nat} {trust : Int32} (hD : rD h k c n nw wo co) (hH : rH h a t tc g) (hi : i < n) (hl : l < 10) : BS (d + 4) false yX1_silent [.ref a, .ref k, .int (nI i), .int (nI l), .int trust] h (some (.int (silG n nw wo co trust g i l))) h := by
  obtain ⟨h1, h2, h3⟩ := hH
  have hn := hD.2.1
  refine bs_of mtX1_silent rfl (Nat.le_of_ble_eq_true rfl) (fun K R RV RS E => ?_)
  show K 0 [_, _, _, _, _] [] _
  refine rl_aload_n (pc := 0) R dX1_silent_0 rfl ?_
  refine rl_iload_n (pc := 1) R dX1_silent_1 rfl ?_
  refine rl_iconst (pc := 2) R dX1_silent_2 ic_0 ?_
  refine rl_iload_n (pc := 3) R dX1_silent_3 rfl ?_
  refine rl_iload (pc := 4) R dX1_silent_4 rfl ?_
  refine rl_V4 (pc := 6) RV dX1_silent_6 lkX1_51 hD.1 rfl (Nat.le_of_ble_eq_true rfl) (bs_X0_courtHas (lies := false) hD hi) ?_
  refine rl_aload_n (pc := 9) R dX1_silent_9 rfl ?_
  refine rl_getf (pc := 10) R dX1_silent_10 fkX1_12 (by first | assumption | rfl) rfl ?_
  refine rl_iload_n (pc := 13) R dX1_silent_13 rfl ?_
  refine rl_iconst (pc := 14) R dX1_silent_14 ic_1 ?_
  refine rl_iadd (pc := 15) R dX1_silent_15 ?_
  refine rl_iload_n (pc := 16) R dX1_silent_16 rfl ?_
  rw [nI_1]
  refine rl_V2 (pc := 17) RV dX1_silent_17 lkX1_42 h2 rfl (Nat.le_of_ble_eq_true rfl) (bs_X3_tell h2 h3 (by omega) hl) ?_
  refine rl_iadd (pc := 20) R dX1_silent_20 ?_
  exact rl_ireturn (pc := 21) E dX1_silent_21 rfl rfl (rfl)
theorem nI_min {x y : Nat} (hx : x < 2147483648) (hy : y < 2147483648) : (if nI y < nI x then nI y else nI x) = nI (min x y) := by
  simp only [nI_ltI hy hx]
  split <;> congr 1 <;> omega
theorem bs_X1_lying {i l : Nat} {law trust : Int32} (hD : rD h k c n nw wo co) (hH : rH h a t tc g) (hi : i < n) (hl : l < 10) : BS (d + 4) false yX1_lying [.ref a, .ref k, .int law, .int (nI i), .int (nI l), .int trust] h (some (.int (lyG n nw wo co law trust g i l))) h := by
  obtain ⟨h1, h2, h3⟩ := hH
  have hn := hD.2.1
  have hk := hD.1
  refine bs_of mtX1_lying rfl (Nat.le_of_ble_eq_true rfl) (fun K R RV RS E => ?_)
  show K 0 [_, _, _, _, _, _, _, _, _] [] _
  have hag : i + 1 ≤ min (oAg law i) n := by have := oAg_gt law i; omega
  have loop : ∀ (l1 : Nat), l = l1 + 1 → ¬ nw i = 1 → opn law i = true → ∀ (j q : Nat) (s : Int32), q + j = min (oAg law i) n → lsm n nw wo co (nI l1) trust j q s = lsm n nw wo co (nI l1) trust (min (oAg law i) n - (i + 1)) (i + 1) (crt n nw wo co i true (nI l) trust) → K 55 [some (.ref a), some (.ref k), some (.int law), some (.int (nI i)), some (.int (nI (l1 + 1))), some (.int trust), some (.int s), some (.int (nI (min (oAg law i) n))), some (.int (nI q))] [] h := by
    intro l1 e1 hnw hop j
    induction j with
    | zero =>
      intro q s hq hs
      refine rl_iload (pc := 55) R dX1_lying_55 rfl ?_
      refine rl_iload (pc := 57) R dX1_lying_57 rfl ?_
      refine rl_icmp_ge (pc := 59) (tgt := 86) R dX1_lying_59 rfl (fun c59 => ?_) (fun c59 => absurd (nI_le (by omega) (by omega)) c59)
      refine rl_iload (pc := 86) R dX1_lying_86 rfl ?_
      refine rl_aload_n (pc := 88) R dX1_lying_88 rfl ?_
      refine rl_getf (pc := 89) R dX1_lying_89 fkX1_12 (by first | assumption | rfl) rfl ?_
      refine rl_iload (pc := 92) R dX1_lying_92 rfl ?_
      refine rl_iload (pc := 94) R dX1_lying_94 rfl ?_
      refine rl_iconst (pc := 96) R dX1_lying_96 ic_1 ?_
      refine rl_isub (pc := 97) R dX1_lying_97 ?_
      rw [nI_pred]
      refine rl_V2 (pc := 98) RV dX1_lying_98 lkX1_42 h2 rfl (Nat.le_of_ble_eq_true rfl) (bs_X3_tell h2 h3 (by omega) (by omega)) ?_
      refine rl_iadd (pc := 101) R dX1_lying_101 ?_
      exact rl_ireturn (pc := 102) E dX1_lying_102 rfl rfl (e_si (by simp only [lyG]; rw [if_neg (by omega), if_neg hnw, if_pos hop, show l - 1 = l1 by omega, ← hs]; rfl))
    | succ j ih =>
      intro q s hq hs
      refine rl_iload (pc := 55) R dX1_lying_55 rfl ?_
      refine rl_iload (pc := 57) R dX1_lying_57 rfl ?_
      refine rl_icmp_ge (pc := 59) (tgt := 86) R dX1_lying_59 rfl (fun c59 => absurd c59 (nI_ge (by omega) (by omega))) (fun c59 => ?_)
      refine rl_iload (pc := 62) R dX1_lying_62 rfl ?_
      refine rl_aload_n (pc := 64) R dX1_lying_64 rfl ?_
      refine rl_iload (pc := 65) R dX1_lying_65 rfl ?_
      refine rl_iconst (pc := 67) R dX1_lying_67 ic_0 ?_
      refine rl_iload (pc := 68) R dX1_lying_68 rfl ?_
      refine rl_iconst (pc := 70) R dX1_lying_70 ic_1 ?_
      refine rl_isub (pc := 71) R dX1_lying_71 ?_
      rw [nI_pred]
      refine rl_iload (pc := 72) R dX1_lying_72 rfl ?_
      refine rl_V4 (pc := 74) RV dX1_lying_74 lkX1_51 hk rfl (Nat.le_of_ble_eq_true rfl) (bs_X0_courtHas (lies := false) hD (by omega)) ?_
      refine rl_iadd (pc := 77) R dX1_lying_77 ?_
      refine rl_istore (pc := 78) R dX1_lying_78 (Nat.le_of_ble_eq_true rfl) rfl ?_
      show K _ [_, _, _, _, _, _, _, _, _] _ _
      refine rl_iinc (pc := 80) R dX1_lying_80 rfl (ii_n q) rfl ?_
      show K _ [_, _, _, _, _, _, _, _, _] _ _
      refine rl_goto (pc := 83) (tgt := 55) R dX1_lying_83 rfl (ih (q + 1) _ (by omega) (by rw [← hs]; rfl))
  rcases Nat.eq_zero_or_pos l with rfl | hp
  · refine rl_iload (pc := 0) R dX1_lying_0 rfl ?_
    refine rl_if_le (pc := 2) (tgt := 21) R dX1_lying_2 rfl (fun c2 => ?_) (fun c2 => absurd (by decide) c2)
    refine rl_ldc (pc := 21) R dX1_lying_21 kcX1_63 ?_
    exact rl_ireturn (pc := 23) E dX1_lying_23 rfl rfl (rfl)
  · obtain ⟨l1, rfl⟩ : ∃ l1, l = l1 + 1 := ⟨l - 1, by omega⟩
    refine rl_iload (pc := 0) R dX1_lying_0 rfl ?_
    refine rl_if_le (pc := 2) (tgt := 21) R dX1_lying_2 rfl (fun c2 => absurd c2 (nI_nle (by omega) (by omega))) (fun c2 => ?_)
    refine rl_aload_n (pc := 5) R dX1_lying_5 rfl ?_
    refine rl_iload_n (pc := 6) R dX1_lying_6 rfl ?_
    refine rl_V1 (pc := 7) RV dX1_lying_7 lkX1_55 hk rfl (Nat.le_of_ble_eq_true rfl) (bs_X0_hasNews hD hi) ?_
    refine rl_if_ne (pc := 10) (tgt := 21) R dX1_lying_10 rfl (fun c10 => ?_) (fun c10 => ?_)
    · rw [bI_n0, decide_eq_true_eq] at c10
      refine rl_ldc (pc := 21) R dX1_lying_21 kcX1_63 ?_
      exact rl_ireturn (pc := 23) E dX1_lying_23 rfl rfl (e_si (by simp only [lyG]; rw [if_neg (by omega)]; first | rw [if_pos c10]; rfl | rw [if_neg c10, if_neg (by rw [c18]; decide)]; rfl))
    · rw [bI_0, decide_eq_false_iff_not] at c10
      refine rl_iload_n (pc := 13) R dX1_lying_13 rfl ?_
      refine rl_iload_n (pc := 14) R dX1_lying_14 rfl ?_
      refine rl_S2 (pc := 15) RS dX1_lying_15 lkX1_59 (Nat.le_of_ble_eq_true rfl) (bs_X7_isOpen (by omega)) ?_
      refine rl_if_ne (pc := 18) (tgt := 24) R dX1_lying_18 rfl (fun c18 => ?_) (fun c18 => ?_)
      · rw [bI_n0] at c18
        refine rl_aload_n (pc := 24) R dX1_lying_24 rfl ?_
        refine rl_iload_n (pc := 25) R dX1_lying_25 rfl ?_
        refine rl_iconst (pc := 26) R dX1_lying_26 ic_1 ?_
        refine rl_iload (pc := 27) R dX1_lying_27 rfl ?_
        refine rl_iload (pc := 29) R dX1_lying_29 rfl ?_
        refine rl_V4 (pc := 31) RV dX1_lying_31 lkX1_51 hk rfl (Nat.le_of_ble_eq_true rfl) (bs_X0_courtHas (lies := true) hD hi) ?_
        refine rl_istore (pc := 34) R dX1_lying_34 (Nat.le_of_ble_eq_true rfl) rfl ?_
        show K _ [_, _, _, _, _, _, _, _, _] _ _
        refine rl_iload_n (pc := 36) R dX1_lying_36 rfl ?_
        refine rl_iload_n (pc := 37) R dX1_lying_37 rfl ?_
        refine rl_S2 (pc := 38) RS dX1_lying_38 lkX1_48 (Nat.le_of_ble_eq_true rfl) (bs_X7_openAgain (by omega)) ?_
        refine rl_aload_n (pc := 41) R dX1_lying_41 rfl ?_
        refine rl_getf (pc := 42) R dX1_lying_42 fkX1_18 (by first | assumption | rfl) rfl ?_
        refine rl_min (pc := 45) R dX1_lying_45 lmX1_36 (Nat.le_of_ble_eq_true rfl) ?_
        rw [nI_min (by have := oAg_le law i; omega) (by omega)]
        refine rl_istore (pc := 48) R dX1_lying_48 (Nat.le_of_ble_eq_true rfl) rfl ?_
        show K _ [_, _, _, _, _, _, _, _, _] _ _
        refine rl_iload_n (pc := 50) R dX1_lying_50 rfl ?_
        refine rl_iconst (pc := 51) R dX1_lying_51 ic_1 ?_
        refine rl_iadd (pc := 52) R dX1_lying_52 ?_
        rw [nI_1]
        refine rl_istore (pc := 53) R dX1_lying_53 (Nat.le_of_ble_eq_true rfl) rfl ?_
        show K _ [_, _, _, _, _, _, _, _, _] _ _
        exact loop l1 rfl c10 c18 _ _ _ (by omega) rfl
      · rw [bI_0] at c18
        refine rl_ldc (pc := 21) R dX1_lying_21 kcX1_63 ?_
        exact rl_ireturn (pc := 23) E dX1_lying_23 rfl rfl (e_si (by simp only [lyG]; rw [if_neg (by omega)]; first | rw [if_pos c10]; rfl | rw [if_neg c10, if_neg (by rw [c18]; decide)]; rfl))
theorem bs_X1_reckon {lies : Nat} {law trust : Int32} (hD : rD h k c n nw wo co) (hH : rH h a t tc g) (hne : tc ≠ c) (hl : lies ≤ 9) : BS (d + 5) false yX1_reckon [.ref a, .ref k, .int law, .int (nI lies), .int trust] h (some (.int (rk n nw wo co law trust lies g lies))) (h.set tc (hI 290 (rk n nw wo co law trust lies g))) := by
  have hn := hD.2.1
  refine bs_of mtX1_reckon rfl (Nat.le_of_ble_eq_true rfl) (fun K R RV RS E => ?_)
  show K 0 [_, _, _, _, _, _, _] [] _
  have outer : ∀ (m : Nat) (g2 : Nat → Int32) (z : Option Value), m ≤ n → rkO n nw wo co law trust lies m g2 = rk n nw wo co law trust lies g → K 44 [some (.ref a), some (.ref k), some (.int law), some (.int (nI lies)), some (.int trust), some (.int (pm m)), z] [] (h.set tc (hI 290 g2)) := by
    intro m
    induction m with
    | zero =>
      intro g2 z hm hg
      have hH2 : rH (h.set tc (hI 290 g2)) a t tc g2 := rH_set hH
      have e2 : g2 = rk n nw wo co law trust lies g := hg
      subst e2
      refine rl_iload (pc := 44) R dX1_reckon_44 rfl ?_
      refine rl_if_lt (pc := 46) (tgt := 114) R dX1_reckon_46 rfl (fun c46 => ?_) (fun c46 => absurd (by decide) c46)
      refine rl_aload_n (pc := 114) R dX1_reckon_114 rfl ?_
      refine rl_getf (pc := 115) R dX1_reckon_115 fkX1_12 hH2.1 rfl ?_
      refine rl_iconst (pc := 118) R dX1_reckon_118 ic_0 ?_
      refine rl_iload_n (pc := 119) R dX1_reckon_119 rfl ?_
      refine rl_V2 (pc := 120) RV dX1_reckon_120 lkX1_42 hH2.2.1 rfl (Nat.le_of_ble_eq_true rfl) (bs_X3_tell (i := 0) hH2.2.1 hH2.2.2 (by decide) (by omega)) ?_
      exact rl_ireturn (pc := 123) E dX1_reckon_123 rfl rfl (by rw [Nat.zero_mul, Nat.zero_add])
    | succ m ih =>
      intro g2 z hm hg
      have inner : ∀ (j l : Nat) (g3 : Nat → Int32), l + j = lies + 1 → rkR n nw wo co law trust m j l g3 = rkR n nw wo co law trust m (lies + 1) 0 g2 → K 52 [some (.ref a), some (.ref k), some (.int law), some (.int (nI lies)), some (.int trust), some (.int (nI m)), some (.int (nI l))] [] (h.set tc (hI 290 g3)) := by
        intro j
        induction j with
        | zero =>
          intro l g3 hj hg3
          refine rl_iload (pc := 52) R dX1_reckon_52 rfl ?_
          refine rl_iload_n (pc := 54) R dX1_reckon_54 rfl ?_
          refine rl_icmp_gt (pc := 55) (tgt := 108) R dX1_reckon_55 rfl (fun c55 => ?_) (fun c55 => absurd (nI_lt (by omega) (by omega)) c55)
          refine rl_iinc (pc := 108) R dX1_reckon_108 rfl (pm_dec m) rfl ?_
          show K _ [_, _, _, _, _, _, _] _ _
          refine rl_goto (pc := 111) (tgt := 44) R dX1_reckon_111 rfl (ih g3 _ (by omega) (by rw [← hg]; show rkO n nw wo co law trust lies m g3 = rkO n nw wo co law trust lies m _; rw [← hg3]; rfl))
        | succ j ih2 =>
          intro l g3 hj hg3
          have hH3 : rH (h.set tc (hI 290 g3)) a t tc g3 := rH_set hH
          have hD3 : rD (h.set tc (hI 290 g3)) k c n nw wo co := rD_set hD hH.2.2 hne
          refine rl_iload (pc := 52) R dX1_reckon_52 rfl ?_
          refine rl_iload_n (pc := 54) R dX1_reckon_54 rfl ?_
          refine rl_icmp_gt (pc := 55) (tgt := 108) R dX1_reckon_55 rfl (fun c55 => absurd c55 (nI_nlt (by omega) (by omega))) (fun c55 => ?_)
          refine rl_iload (pc := 58) R dX1_reckon_58 rfl ?_
          refine rl_bipush (pc := 60) R dX1_reckon_60 bc_9 ?_
          refine rl_icmp_gt (pc := 62) (tgt := 108) R dX1_reckon_62 rfl (fun c62 => absurd c62 (nI_nlt (a := 9) (by omega) (by omega))) (fun c62 => ?_)
          refine rl_aload_n (pc := 65) R dX1_reckon_65 rfl ?_
          refine rl_getf (pc := 66) R dX1_reckon_66 fkX1_12 hH3.1 rfl ?_
          refine rl_iload (pc := 69) R dX1_reckon_69 rfl ?_
          refine rl_iload (pc := 71) R dX1_reckon_71 rfl ?_
          refine rl_aload_n (pc := 73) R dX1_reckon_73 rfl ?_
          refine rl_aload_n (pc := 74) R dX1_reckon_74 rfl ?_
          refine rl_iload (pc := 75) R dX1_reckon_75 rfl ?_
          refine rl_iload (pc := 77) R dX1_reckon_77 rfl ?_
          refine rl_iload (pc := 79) R dX1_reckon_79 rfl ?_
          refine rl_V4 (pc := 81) RV dX1_reckon_81 lkX1_28 hH3.1 rfl (Nat.le_of_ble_eq_true rfl) (bs_X1_silent hD3 hH3 (by omega) (by omega)) ?_
          refine rl_aload_n (pc := 84) R dX1_reckon_84 rfl ?_
          refine rl_aload_n (pc := 85) R dX1_reckon_85 rfl ?_
          refine rl_iload_n (pc := 86) R dX1_reckon_86 rfl ?_
          refine rl_iload (pc := 87) R dX1_reckon_87 rfl ?_
          refine rl_iload (pc := 89) R dX1_reckon_89 rfl ?_
          refine rl_iload (pc := 91) R dX1_reckon_91 rfl ?_
          refine rl_V5 (pc := 93) RV dX1_reckon_93 lkX1_32 hH3.1 rfl (Nat.le_of_ble_eq_true rfl) (bs_X1_lying hD3 hH3 (by omega) (by omega)) ?_
          refine rl_min (pc := 96) R dX1_reckon_96 lmX1_36 (Nat.le_of_ble_eq_true rfl) ?_
          refine rl_V3v (pc := 99) RV dX1_reckon_99 lkX1_24 hH3.2.1 rfl (Nat.le_of_ble_eq_true rfl) (bs_X3_change hH3.2.1 hH3.2.2 (by omega) (by omega)) ?_
          rw [List.set_set]
          refine rl_iinc (pc := 102) R dX1_reckon_102 rfl (ii_n l) rfl ?_
          show K _ [_, _, _, _, _, _, _] _ _
          refine rl_goto (pc := 105) (tgt := 52) R dX1_reckon_105 rfl (ih2 (l + 1) _ (by omega) (by rw [← hg3]; rfl))
      refine rl_iload (pc := 44) R dX1_reckon_44 rfl ?_
      refine rl_if_lt (pc := 46) (tgt := 114) R dX1_reckon_46 rfl (fun c46 => absurd c46 (nI_pos (by omega))) (fun c46 => ?_)
      refine rl_iconst (pc := 49) R dX1_reckon_49 ic_0 ?_
      refine rl_istore (pc := 50) R dX1_reckon_50 (Nat.le_of_ble_eq_true rfl) rfl ?_
      show K _ [_, _, _, _, _, _, _] _ _
      exact inner (lies + 1) 0 g2 (by omega) rfl
  have first : ∀ (j l : Nat) (g2 : Nat → Int32), l + j = lies + 1 → rkE n j l g2 = rkE n (lies + 1) 0 g → K 3 [some (.ref a), some (.ref k), some (.int law), some (.int (nI lies)), some (.int trust), some (.int (nI l)), none] [] (h.set tc (hI 290 g2)) := by
    intro j
    induction j with
    | zero =>
      intro l g2 hj hg2
      have hD2 : rD (h.set tc (hI 290 g2)) k c n nw wo co := rD_set hD hH.2.2 hne
      refine rl_iload (pc := 3) R dX1_reckon_3 rfl ?_
      refine rl_iload_n (pc := 5) R dX1_reckon_5 rfl ?_
      refine rl_icmp_gt (pc := 6) (tgt := 36) R dX1_reckon_6 rfl (fun c6 => ?_) (fun c6 => absurd (nI_lt (by omega) (by omega)) c6)
      refine rl_aload_n (pc := 36) R dX1_reckon_36 rfl ?_
      refine rl_getf (pc := 37) R dX1_reckon_37 fkX1_18 hD2.1 rfl ?_
      refine rl_iconst (pc := 40) R dX1_reckon_40 ic_1 ?_
      refine rl_isub (pc := 41) R dX1_reckon_41 ?_
      rw [pm_sub]
      refine rl_istore (pc := 42) R dX1_reckon_42 (Nat.le_of_ble_eq_true rfl) rfl ?_
      show K _ [_, _, _, _, _, _, _] _ _
      exact outer n g2 _ (Nat.le_refl _) (by rw [rk, ← hg2]; rfl)
    | succ j ih =>
      intro l g2 hj hg2
      have hH2 : rH (h.set tc (hI 290 g2)) a t tc g2 := rH_set hH
      have hD2 : rD (h.set tc (hI 290 g2)) k c n nw wo co := rD_set hD hH.2.2 hne
      refine rl_iload (pc := 3) R dX1_reckon_3 rfl ?_
      refine rl_iload_n (pc := 5) R dX1_reckon_5 rfl ?_
      refine rl_icmp_gt (pc := 6) (tgt := 36) R dX1_reckon_6 rfl (fun c6 => absurd c6 (nI_nlt (by omega) (by omega))) (fun c6 => ?_)
      refine rl_iload (pc := 9) R dX1_reckon_9 rfl ?_
      refine rl_bipush (pc := 11) R dX1_reckon_11 bc_9 ?_
      refine rl_icmp_gt (pc := 13) (tgt := 36) R dX1_reckon_13 rfl (fun c13 => absurd c13 (nI_nlt (a := 9) (by omega) (by omega))) (fun c13 => ?_)
      refine rl_aload_n (pc := 16) R dX1_reckon_16 rfl ?_
      refine rl_getf (pc := 17) R dX1_reckon_17 fkX1_12 hH2.1 rfl ?_
      refine rl_aload_n (pc := 20) R dX1_reckon_20 rfl ?_
      refine rl_getf (pc := 21) R dX1_reckon_21 fkX1_18 hD2.1 rfl ?_
      refine rl_iload (pc := 24) R dX1_reckon_24 rfl ?_
      refine rl_iconst (pc := 26) R dX1_reckon_26 ic_0 ?_
      refine rl_V3v (pc := 27) RV dX1_reckon_27 lkX1_24 hH2.2.1 rfl (Nat.le_of_ble_eq_true rfl) (bs_X3_change hH2.2.1 hH2.2.2 (by omega) (by omega)) ?_
      rw [List.set_set]
      refine rl_iinc (pc := 30) R dX1_reckon_30 rfl (ii_n l) rfl ?_
      show K _ [_, _, _, _, _, _, _] _ _
      refine rl_goto (pc := 33) (tgt := 3) R dX1_reckon_33 rfl (ih (l + 1) _ (by omega) (by rw [← hg2]; rfl))
  refine rl_iconst (pc := 0) R dX1_reckon_0 ic_0 ?_
  refine rl_istore (pc := 1) R dX1_reckon_1 (Nat.le_of_ble_eq_true rfl) rfl ?_
  show K _ [_, _, _, _, _, _, _] _ _
  have e0 := first (lies + 1) 0 g (by omega) rfl
  rw [List.set_getElem?_self' hH.2.2] at e0
  exact e0
theorem bs_X1_worstSet {lies : Nat} {law trust : Int32} (hD : rD h k c n nw wo co) (hH : rH h a t tc g) (hne : tc ≠ c) (hl : lies ≤ 9) : BS (d + 6) false yX1_worstSet [.ref a, .ref k, .int law, .int (nI lies), .int trust] h (some (.int (wrs n nw wo co law trust (rk n nw wo co law trust lies g) n 0 lies 0 0))) (h.set tc (hI 290 (rk n nw wo co law trust lies g))) := by
  have hn := hD.2.1
  refine bs_of mtX1_worstSet rfl (Nat.le_of_ble_eq_true rfl) (fun K R RV RS E => ?_)
  show K 0 [_, _, _, _, _, _, _, _, _] [] _
  have hF := rk_F (n := n) (nw := nw) (wo := wo) (co := co) (law := law) (trust := trust) hl g
  have loop : ∀ (g2 : Nat → Int32), rkF n nw wo co law trust lies g2 → rH (h.set tc (hI 290 (rk n nw wo co law trust lies g))) a t tc g2 → rD (h.set tc (hI 290 (rk n nw wo co law trust lies g))) k c n nw wo co → ∀ (j i l q : Nat) (s : Int32), i + j = n → l ≤ lies → q < 1000 → wrs n nw wo co law trust g2 j i l q s = wrs n nw wo co law trust (rk n nw wo co law trust lies g) n 0 lies 0 0 → K 22 [some (.ref a), some (.ref k), some (.int law), some (.int (nI lies)), some (.int trust), some (.int s), some (.int (nI q)), some (.int (nI l)), some (.int (nI i))] [] (h.set tc (hI 290 (rk n nw wo co law trust lies g))) := by
    intro g2 hF2 hH2 hD2 j
    induction j with
    | zero =>
      intro i l q s hij hll hq hs
      refine rl_iload (pc := 22) R dX1_worstSet_22 rfl ?_
      refine rl_aload_n (pc := 24) R dX1_worstSet_24 rfl ?_
      refine rl_getf (pc := 25) R dX1_worstSet_25 fkX1_18 hD2.1 rfl ?_
      refine rl_icmp_ge (pc := 28) (tgt := 89) R dX1_worstSet_28 rfl (fun c28 => ?_) (fun c28 => absurd (nI_le (by omega) (by omega)) c28)
      refine rl_iload (pc := 89) R dX1_worstSet_89 rfl ?_
      exact rl_ireturn (pc := 91) E dX1_worstSet_91 rfl rfl (e_si hs.symm)
    | succ j ih =>
      intro i l q s hij hll hq hs
      have no : ¬ (q ≤ i ∧ g2 (i * 10 + l) < silG n nw wo co trust g2 i l) → K 83 [some (.ref a), some (.ref k), some (.int law), some (.int (nI lies)), some (.int trust), some (.int s), some (.int (nI q)), some (.int (nI l)), some (.int (nI i))] [] (h.set tc (hI 290 (rk n nw wo co law trust lies g))) := by
        intro hno
        refine rl_iinc (pc := 83) R dX1_worstSet_83 rfl (ii_n i) rfl ?_
        show K _ [_, _, _, _, _, _, _, _, _] _ _
        refine rl_goto (pc := 86) (tgt := 22) R dX1_worstSet_86 rfl (ih (i + 1) l q s (by omega) hll hq (by rw [← hs]; simp only [wrs]; rw [if_neg hno]))
      refine rl_iload (pc := 22) R dX1_worstSet_22 rfl ?_
      refine rl_aload_n (pc := 24) R dX1_worstSet_24 rfl ?_
      refine rl_getf (pc := 25) R dX1_worstSet_25 fkX1_18 hD2.1 rfl ?_
      refine rl_icmp_ge (pc := 28) (tgt := 89) R dX1_worstSet_28 rfl (fun c28 => absurd c28 (nI_ge (by omega) (by omega))) (fun c28 => ?_)
      refine rl_iload (pc := 31) R dX1_worstSet_31 rfl ?_
      refine rl_iload (pc := 33) R dX1_worstSet_33 rfl ?_
      refine rl_icmp_lt (pc := 35) (tgt := 83) R dX1_worstSet_35 rfl (fun c35 => ?_) (fun c35 => ?_)
      · exact no (fun z => by rw [nI_ltI (by omega) (by omega)] at c35; omega)
      · rw [nI_ltI (by omega) (by omega)] at c35
        refine rl_aload_n (pc := 38) R dX1_worstSet_38 rfl ?_
        refine rl_aload_n (pc := 39) R dX1_worstSet_39 rfl ?_
        refine rl_iload (pc := 40) R dX1_worstSet_40 rfl ?_
        refine rl_iload (pc := 42) R dX1_worstSet_42 rfl ?_
        refine rl_iload (pc := 44) R dX1_worstSet_44 rfl ?_
        refine rl_V4 (pc := 46) RV dX1_worstSet_46 lkX1_28 hH2.1 rfl (Nat.le_of_ble_eq_true rfl) (bs_X1_silent hD2 hH2 (by omega) (by omega)) ?_
        refine rl_aload_n (pc := 49) R dX1_worstSet_49 rfl ?_
        refine rl_getf (pc := 50) R dX1_worstSet_50 fkX1_12 hH2.1 rfl ?_
        refine rl_iload (pc := 53) R dX1_worstSet_53 rfl ?_
        refine rl_iload (pc := 55) R dX1_worstSet_55 rfl ?_
        refine rl_V2 (pc := 57) RV dX1_worstSet_57 lkX1_42 hH2.2.1 rfl (Nat.le_of_ble_eq_true rfl) (bs_X3_tell hH2.2.1 hH2.2.2 (by omega) (by omega)) ?_
        refine rl_icmp_le (pc := 60) (tgt := 83) R dX1_worstSet_60 rfl (fun c60 => ?_) (fun c60 => ?_)
        · exact no (fun z => absurd z.2 (Int32.not_lt.mpr c60))
        · rw [Int32.not_le] at c60
          have hl0 : l ≠ 0 := by
            intro e0
            subst e0
            rw [hF2.2 i (by omega) 0 hll] at c60
            simp only [mn, lyG, if_true] at c60
            split at c60
            · rename_i hx; exact absurd (Int32.le_iff_toInt_le.mpr (by have := fb_rng' (silG n nw wo co trust g2 i 0); show _ ≤ (2147483647 : Int); omega)) (Int32.not_le.mpr hx)
            · exact Int32.lt_irrefl c60
          obtain ⟨l1, rfl⟩ : ∃ l1, l = l1 + 1 := ⟨l - 1, by omega⟩
          refine rl_iload (pc := 63) R dX1_worstSet_63 rfl ?_
          refine rl_iconst (pc := 65) R dX1_worstSet_65 ic_1 ?_
          refine rl_iload (pc := 66) R dX1_worstSet_66 rfl ?_
          refine rl_ishl (pc := 68) R dX1_worstSet_68 ?_
          refine rl_ior (pc := 69) R dX1_worstSet_69 ?_
          refine rl_istore (pc := 70) R dX1_worstSet_70 (Nat.le_of_ble_eq_true rfl) rfl ?_
          show K _ [_, _, _, _, _, _, _, _, _] _ _
          refine rl_iinc (pc := 72) R dX1_worstSet_72 rfl (pk_m1 l1) rfl ?_
          show K _ [_, _, _, _, _, _, _, _, _] _ _
          refine rl_iload_n (pc := 75) R dX1_worstSet_75 rfl ?_
          refine rl_iload (pc := 76) R dX1_worstSet_76 rfl ?_
          refine rl_S2 (pc := 78) RS dX1_worstSet_78 lkX1_48 (Nat.le_of_ble_eq_true rfl) (bs_X7_openAgain (by omega)) ?_
          refine rl_istore (pc := 81) R dX1_worstSet_81 (Nat.le_of_ble_eq_true rfl) rfl ?_
          show K _ [_, _, _, _, _, _, _, _, _] _ _
          refine rl_iinc (pc := 83) R dX1_worstSet_83 rfl (ii_n i) rfl ?_
          show K _ [_, _, _, _, _, _, _, _, _] _ _
          refine rl_goto (pc := 86) (tgt := 22) R dX1_worstSet_86 rfl (ih (i + 1) l1 (oAg law i) _ (by omega) (by omega) (by have := oAg_le law i; omega) (by rw [← hs]; simp only [wrs]; rw [if_pos ⟨by omega, c60⟩]; rfl))
  refine rl_aload_n (pc := 0) R dX1_worstSet_0 rfl ?_
  refine rl_aload_n (pc := 1) R dX1_worstSet_1 rfl ?_
  refine rl_iload_n (pc := 2) R dX1_worstSet_2 rfl ?_
  refine rl_iload_n (pc := 3) R dX1_worstSet_3 rfl ?_
  refine rl_iload (pc := 4) R dX1_worstSet_4 rfl ?_
  refine rl_V4 (pc := 6) RV dX1_worstSet_6 lkX1_45 hH.1 rfl (Nat.le_of_ble_eq_true rfl) (bs_X1_reckon hD hH hne hl) ?_
  refine rl_pop (pc := 9) R dX1_worstSet_9 rfl ?_
  refine rl_iconst (pc := 10) R dX1_worstSet_10 ic_0 ?_
  refine rl_istore (pc := 11) R dX1_worstSet_11 (Nat.le_of_ble_eq_true rfl) rfl ?_
  show K _ [_, _, _, _, _, _, _, _, _] _ _
  refine rl_iconst (pc := 13) R dX1_worstSet_13 ic_0 ?_
  refine rl_istore (pc := 14) R dX1_worstSet_14 (Nat.le_of_ble_eq_true rfl) rfl ?_
  show K _ [_, _, _, _, _, _, _, _, _] _ _
  refine rl_iload_n (pc := 16) R dX1_worstSet_16 rfl ?_
  refine rl_istore (pc := 17) R dX1_worstSet_17 (Nat.le_of_ble_eq_true rfl) rfl ?_
  show K _ [_, _, _, _, _, _, _, _, _] _ _
  refine rl_iconst (pc := 19) R dX1_worstSet_19 ic_0 ?_
  refine rl_istore (pc := 20) R dX1_worstSet_20 (Nat.le_of_ble_eq_true rfl) rfl ?_
  show K _ [_, _, _, _, _, _, _, _, _] _ _
  exact loop _ hF (rH_set hH) (rD_set hD hH.2.2 hne) n 0 lies 0 0 (by omega) (Nat.le_refl _) (by decide) rfl
end HM
