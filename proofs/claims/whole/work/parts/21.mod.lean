/-! THE REFERENCE: its numbers, days, laws -/
abbrev mO (ik td at_ sz rd : Int32) : sm_C := hO 8 [.ref 1, .ref 2, .int ik, .ref 3, .int td, .ref 4, .ref 5, .ref 6, .int at_, .int sz, .int rd, .ref 7, .ref 8, .ref 9, .ref 10]
def rN (h : List sm_C) (n : Nat) (nw wo co se a : Nat → Int32) : Prop := h[1]? = some (hI 89 a) ∧ n ≤ 28 ∧ a 4 = nI n ∧ (a 0 = se 0 ∧ a 1 = se 1 ∧ a 2 = se 2 ∧ a 3 = se 3) ∧ ∀ i, i < n → a (5 + i) = nw i ∧ a (33 + i) = wo i ∧ a (61 + i) = co i
def in64 (v a b : Int64) : Bool := decide (a ≤ v) && decide (v ≤ b)
theorem in64_w (v a b : Int32) : in64 v.toInt64 a.toInt64 b.toInt64 = isW v a b := by
  have e : ∀ x y : Int32, (x.toInt64 ≤ y.toInt64) ↔ x ≤ y := fun x y => by rw [Int64.le_iff_toInt_le, Int32.le_iff_toInt_le, Int32.toInt_toInt64, Int32.toInt_toInt64]
  simp only [in64, isW, e]
def ltM (law : Int32) (i mi : Nat) : Bool := if law = 1 then !decide (i % 7 = 6) else if law = 2 then decide (mi % 2 = 0) else if law = 3 then decide (mi = 0) else true
def mdM (i mi : Nat) (b : Bool) : Nat := (if i % 7 = 6 then 0 else if b || decide (1 < mi) then 2 else 0) + (if b then 1 else 0)
def moL (s : Int32) : Nat → Nat → Nat → Nat
  | 0, _, mi => mi
  | j + 1, i, mi => moL s j (i + 1) (mdM i mi (bt s i))
theorem mdM_le (i mi : Nat) (b : Bool) : mdM i mi b ≤ 3 := by
  unfold mdM
  split <;> split <;> (try split) <;> omega
theorem moL_le (s : Int32) : ∀ (j i mi : Nat), mi ≤ 3 → moL s j i mi ≤ 3
  | 0, _, _, h => h
  | j + 1, i, mi, _ => moL_le s j (i + 1) _ (mdM_le _ _ _)
def wrM (law s : Int32) (nw : Nat → Int32) : Nat → Nat → Int32 → Int32
  | 0, _, _ => -4
  | j + 1, i, l => if bt s i then (if l = 0 then nI i else if nw i = 1 then nI i else if ltM law i (moL s i 0 0) then wrM law s nw j (i + 1) (l + (-1)) else nI i) else wrM law s nw j (i + 1) l
def gnM (n : Nat) (nw wo co : Nat → Int32) (trust s : Int32) : Nat → Nat → Int32 → Int32 → Int32
  | 0, _, _, x => x
  | j + 1, i, l, x => gnM n nw wo co trust s j (i + 1) (l - (if bt s i then 1 else 0)) (x + crt n nw wo co i (bt s i) l trust)
def trM (n : Nat) (nw : Nat → Int32) (trust s : Int32) : Nat → Nat → Int32 → Int32 → Int32
  | 0, _, _, x => x
  | j + 1, i, l, x => trM n nw trust s j (i + 1) (l - (if bt s i then 1 else 0)) (x ||| (if (decide (nw i = 1) || bt s i) && decide (8 * l ≤ trust * (nI n - nI i)) then b1 i else 0))
def fmM (s : Int32) : Nat → Nat → Nat
  | 0, i => i
  | j + 1, i => if s >>> (nI i &&& 31) = 0 then i else fmM s j (i + 1)
def maM (law s : Int32) (nw : Nat → Int32) : Nat → Nat → Int32 → Int32
  | 0, _, x => x
  | j + 1, i, x => maM law s nw j (i + 1) (x ||| (if decide (nw i = 0) && ltM law i (moL s i 0 0) then b1 i else 0))
def iSe (n : Nat) (s : Int32) : Bool := isW s 0 ((1 <<< (nI n &&& 31)) - 1)
theorem fmM_le (s : Int32) : ∀ (j i : Nat), i ≤ fmM s j i ∧ fmM s j i ≤ i + j
  | 0, i => ⟨Nat.le_refl _, Nat.le_refl _⟩
  | j + 1, i => by
    rw [fmM]
    split
    · omega
    · have := fmM_le s j (i + 1); omega
section MO
variable {d : Nat} {h : List sm_C} {ik td at_ sz rd : Int32} {n : Nat} {nw wo co se a : Nat → Int32}
theorem bs_X8_in {v x y : Int64} : BS (d + 1) true yX8_in [.long v, .long x, .long y] h (some (.int (bI (in64 v x y)))) h := by
  refine bs_of mtX8_in rfl (Nat.le_of_ble_eq_true rfl) (fun K R RV RS E => ?_)
  show K 0 [_, _, _, _, _, _] [] _
  refine rl_lload_n (pc := 0) R dX8_in_0 rfl ?_
  refine rl_lload_n (pc := 1) R dX8_in_1 rfl ?_
  refine rl_lcmp (pc := 2) R dX8_in_2 ?_
  refine rl_if_lt (pc := 3) (tgt := 17) R dX8_in_3 rfl (fun c3 => ?_) (fun c3 => ?_)
  · have e3 : ¬ x ≤ v := fun z => absurd c3 (Int32.not_lt.mpr ((lg_cmp_ge v x).mpr z))
    refine rl_iconst (pc := 17) R dX8_in_17 ic_0 ?_
    exact rl_ireturn (pc := 18) E dX8_in_18 rfl rfl (e_si (by simp only [in64]; first | (rw [decide_eq_false e3]; rfl) | (rw [decide_eq_true e3, decide_eq_false e10]; rfl) | (rw [decide_eq_true e3, decide_eq_true e10]; rfl)))
  · have e3 : x ≤ v := (lg_cmp_ge v x).mp (Int32.not_lt.mp c3)
    refine rl_lload_n (pc := 6) R dX8_in_6 rfl ?_
    refine rl_lload (pc := 7) R dX8_in_7 rfl ?_
    refine rl_lcmp (pc := 9) R dX8_in_9 ?_
    refine rl_if_gt (pc := 10) (tgt := 17) R dX8_in_10 rfl (fun c10 => ?_) (fun c10 => ?_)
    · have e10 : ¬ v ≤ y := fun z => absurd ((lg_cmp_gt v y).mp c10) (Int64.not_lt.mpr z)
      refine rl_iconst (pc := 17) R dX8_in_17 ic_0 ?_
      exact rl_ireturn (pc := 18) E dX8_in_18 rfl rfl (e_si (by simp only [in64]; first | (rw [decide_eq_false e3]; rfl) | (rw [decide_eq_true e3, decide_eq_false e10]; rfl) | (rw [decide_eq_true e3, decide_eq_true e10]; rfl)))
    · have e10 : v ≤ y := Int64.not_lt.mp (fun z => c10 ((lg_cmp_gt v y).mpr z))
      refine rl_iconst (pc := 13) R dX8_in_13 ic_1 ?_
      refine rl_goto (pc := 14) (tgt := 18) R dX8_in_14 rfl ?_
      exact rl_ireturn (pc := 18) E dX8_in_18 rfl rfl (e_si (by simp only [in64]; first | (rw [decide_eq_false e3]; rfl) | (rw [decide_eq_true e3, decide_eq_false e10]; rfl) | (rw [decide_eq_true e3, decide_eq_true e10]; rfl)))
theorem bs_X8_inW {v x y : Int32} {x2 y2 v2 : Int64} (h0 : v2 = v.toInt64) (h1 : x2 = x.toInt64) (h2 : y2 = y.toInt64) : BS (d + 1) true yX8_in [.long v2, .long x2, .long y2] h (some (.int (bI (isW v x y)))) h := by
  subst h0 h1 h2
  rw [← in64_w]
  exact bs_X8_in
theorem and1 (x : Int32) : x &&& 1 = 0 ∨ x &&& 1 = 1 := by
  obtain ⟨j, hj, e⟩ := pk_andE x (m := 1) 1 (by decide)
  rw [e]
  have : j = 0 ∨ j = 1 := by omega
  rcases this with rfl | rfl
  · exact Or.inl rfl
  · exact Or.inr rfl
theorem bs_X8_has {s : Int32} {i : Nat} : BS (d + 1) true yX8_has [.int s, .int (nI i)] h (some (.int (bI (bt s i)))) h := by
  refine bs_of mtX8_has rfl (Nat.le_of_ble_eq_true rfl) (fun K R RV RS E => ?_)
  show K 0 [_, _] [] _
  refine rl_iload_n (pc := 0) R dX8_has_0 rfl ?_
  refine rl_iload_n (pc := 1) R dX8_has_1 rfl ?_
  refine rl_ishr (pc := 2) R dX8_has_2 ?_
  refine rl_iconst (pc := 3) R dX8_has_3 ic_1 ?_
  refine rl_iand (pc := 4) R dX8_has_4 ?_
  refine rl_iconst (pc := 5) R dX8_has_5 ic_1 ?_
  refine rl_icmp_ne (pc := 6) (tgt := 13) R dX8_has_6 rfl (fun c6 => ?_) (fun c6 => ?_)
  · have e6 : (s >>> (nI i &&& 31)) &&& 1 = 0 := (and1 _).resolve_right c6
    refine rl_iconst (pc := 13) R dX8_has_13 ic_0 ?_
    exact rl_ireturn (pc := 14) E dX8_has_14 rfl rfl (e_si (by simp only [bt]; first | (rw [decide_eq_true e6]; rfl) | (rw [decide_eq_false e6]; rfl)))
  · have e6 : ¬ (s >>> (nI i &&& 31)) &&& 1 = 0 := fun z => by rw [z] at c6; exact absurd c6 (by decide)
    refine rl_iconst (pc := 9) R dX8_has_9 ic_1 ?_
    refine rl_goto (pc := 10) (tgt := 14) R dX8_has_10 rfl ?_
    exact rl_ireturn (pc := 14) E dX8_has_14 rfl rfl (e_si (by simp only [bt]; first | (rw [decide_eq_true e6]; rfl) | (rw [decide_eq_false e6]; rfl)))
theorem bs_X8_changed {i : Nat} {v : Int32} (m0 : h[0]? = some (mO ik td at_ sz rd)) (m1 : h[1]? = some (hI 89 a)) (hi : i < 89) : BS (d + 1) false yX8_changed [.ref 0, .int (nI i), .int v] h (some (.int (a i))) (h.set 1 (hI 89 (upd a i v))) := by
  refine bs_of mtX8_changed rfl (Nat.le_of_ble_eq_true rfl) (fun K R RV RS E => ?_)
  show K 0 [_, _, _, _] [] _
  refine rl_aload_n (pc := 0) R dX8_changed_0 rfl ?_
  refine rl_getf (pc := 1) R dX8_changed_1 fkX8_7 (by first | assumption | rfl) rfl ?_
  refine rl_iload_n (pc := 4) R dX8_changed_4 rfl ?_
  refine rl_iald (pc := 5) R dX8_changed_5 m1 rfl hi (by decide) ?_
  refine rl_istore_n (pc := 6) R dX8_changed_6 (Nat.le_of_ble_eq_true rfl) rfl ?_
  show K _ [_, _, _, _] _ _
  refine rl_aload_n (pc := 7) R dX8_changed_7 rfl ?_
  refine rl_getf (pc := 8) R dX8_changed_8 fkX8_7 (by first | assumption | rfl) rfl ?_
  refine rl_iload_n (pc := 11) R dX8_changed_11 rfl ?_
  refine rl_iload_n (pc := 12) R dX8_changed_12 rfl ?_
  refine rl_iast (pc := 13) R dX8_changed_13 m1 rfl hi (by decide) ?_
  refine rl_iload_n (pc := 14) R dX8_changed_14 rfl ?_
  exact rl_ireturn (pc := 15) E dX8_changed_15 rfl rfl (rfl)
theorem bs_X8_isDay {i : Int32} (m0 : h[0]? = some (mO ik td at_ sz rd)) (hN : rN h n nw wo co se a) : BS (d + 2) false yX8_isDay [.ref 0, .int i] h (some (.int (bI (isW i 0 (nI n - 1))))) h := by
  obtain ⟨m1, hn, h4, hs, hf⟩ := hN
  refine bs_of mtX8_isDay rfl (Nat.le_of_ble_eq_true rfl) (fun K R RV RS E => ?_)
  show K 0 [_, _] [] _
  refine rl_iload_n (pc := 0) R dX8_isDay_0 rfl ?_
  refine rl_i2l (pc := 1) R dX8_isDay_1 ?_
  refine rl_lconst (pc := 2) R dX8_isDay_2 lc_0 ?_
  refine rl_aload_n (pc := 3) R dX8_isDay_3 rfl ?_
  refine rl_getf (pc := 4) R dX8_isDay_4 fkX8_7 (by first | assumption | rfl) rfl ?_
  refine rl_iconst (pc := 7) R dX8_isDay_7 ic_4 ?_
  refine rl_iald (pc := 8) R dX8_isDay_8 m1 (rfl : (4 : Int32) = nI 4) (by decide) (by decide) ?_
  rw [h4]
  refine rl_iconst (pc := 9) R dX8_isDay_9 ic_1 ?_
  refine rl_isub (pc := 10) R dX8_isDay_10 ?_
  refine rl_i2l (pc := 11) R dX8_isDay_11 ?_
  refine rl_S3 (pc := 12) RS dX8_isDay_12 lkX8_40 (Nat.le_of_ble_eq_true rfl) (bs_X8_inW (v := i) (x := 0) (y := nI n - 1) rfl rfl rfl) ?_
  exact rl_ireturn (pc := 15) E dX8_isDay_15 rfl (bI_nar _) (rfl)
theorem bs_X8_isSet {s : Int32} (m0 : h[0]? = some (mO ik td at_ sz rd)) (hN : rN h n nw wo co se a) : BS (d + 2) false yX8_isSet [.ref 0, .int s] h (some (.int (bI (iSe n s)))) h := by
  obtain ⟨m1, hn, h4, hs, hf⟩ := hN
  refine bs_of mtX8_isSet rfl (Nat.le_of_ble_eq_true rfl) (fun K R RV RS E => ?_)
  show K 0 [_, _] [] _
  refine rl_iload_n (pc := 0) R dX8_isSet_0 rfl ?_
  refine rl_i2l (pc := 1) R dX8_isSet_1 ?_
  refine rl_lconst (pc := 2) R dX8_isSet_2 lc_0 ?_
  refine rl_iconst (pc := 3) R dX8_isSet_3 ic_1 ?_
  refine rl_aload_n (pc := 4) R dX8_isSet_4 rfl ?_
  refine rl_getf (pc := 5) R dX8_isSet_5 fkX8_7 (by first | assumption | rfl) rfl ?_
  refine rl_iconst (pc := 8) R dX8_isSet_8 ic_4 ?_
  refine rl_iald (pc := 9) R dX8_isSet_9 m1 (rfl : (4 : Int32) = nI 4) (by decide) (by decide) ?_
  rw [h4]
  refine rl_ishl (pc := 10) R dX8_isSet_10 ?_
  refine rl_iconst (pc := 11) R dX8_isSet_11 ic_1 ?_
  refine rl_isub (pc := 12) R dX8_isSet_12 ?_
  refine rl_i2l (pc := 13) R dX8_isSet_13 ?_
  refine rl_S3 (pc := 14) RS dX8_isSet_14 lkX8_40 (Nat.le_of_ble_eq_true rfl) (bs_X8_inW (v := s) (x := 0) (y := (1 <<< (nI n &&& 31)) - 1) rfl rfl rfl) ?_
  exact rl_ireturn (pc := 17) E dX8_isSet_17 rfl (bI_nar _) (rfl)
theorem bs_X8_isOf {w v : Int32} : BS (d + 2) true yX8_isOf [.int w, .int v] h (some (.int (bI (if w = 0 then isW v 0 1 else isW w 1 2 && isW v 0 99)))) h := by
  refine bs_of mtX8_isOf rfl (Nat.le_of_ble_eq_true rfl) (fun K R RV RS E => ?_)
  show K 0 [_, _] [] _
  refine rl_iload_n (pc := 0) R dX8_isOf_0 rfl ?_
  refine rl_if_ne (pc := 1) (tgt := 14) R dX8_isOf_1 rfl (fun c1 => ?_) (fun c1 => ?_)
  · refine rl_iload_n (pc := 14) R dX8_isOf_14 rfl ?_
    refine rl_i2l (pc := 15) R dX8_isOf_15 ?_
    refine rl_lconst (pc := 16) R dX8_isOf_16 lc_1 ?_
    refine rl_ldc2 (pc := 17) R dX8_isOf_17 kdX8_46 ?_
    refine rl_S3 (pc := 20) RS dX8_isOf_20 lkX8_40 (Nat.le_of_ble_eq_true rfl) (bs_X8_inW (v := w) (x := 1) (y := 2) rfl rfl rfl) ?_
    refine rl_if_eq (pc := 23) (tgt := 42) R dX8_isOf_23 rfl (fun c23 => ?_) (fun c23 => ?_)
    · rw [bI_0] at c23
      refine rl_iconst (pc := 42) R dX8_isOf_42 ic_0 ?_
      try rw [show (bI (isW v 0 1)) = bI (if w = 0 then isW v 0 1 else isW w 1 2 && isW v 0 99) by rw [if_pos c1]]
      exact rl_ireturn (pc := 43) E dX8_isOf_43 rfl (by first | rfl | exact bI_nar _) (e_si (by first | rfl | (rw [if_neg c1]; first | (rw [c23]; rfl) | (rw [c23, c35]; rfl))))
    · rw [bI_n0] at c23
      refine rl_iload_n (pc := 26) R dX8_isOf_26 rfl ?_
      refine rl_i2l (pc := 27) R dX8_isOf_27 ?_
      refine rl_lconst (pc := 28) R dX8_isOf_28 lc_0 ?_
      refine rl_ldc2 (pc := 29) R dX8_isOf_29 kdX8_44 ?_
      refine rl_S3 (pc := 32) RS dX8_isOf_32 lkX8_40 (Nat.le_of_ble_eq_true rfl) (bs_X8_inW (v := v) (x := 0) (y := 99) rfl rfl rfl) ?_
      refine rl_if_eq (pc := 35) (tgt := 42) R dX8_isOf_35 rfl (fun c35 => ?_) (fun c35 => ?_)
      · rw [bI_0] at c35
        refine rl_iconst (pc := 42) R dX8_isOf_42 ic_0 ?_
        try rw [show (bI (isW v 0 1)) = bI (if w = 0 then isW v 0 1 else isW w 1 2 && isW v 0 99) by rw [if_pos c1]]
        exact rl_ireturn (pc := 43) E dX8_isOf_43 rfl (by first | rfl | exact bI_nar _) (e_si (by first | rfl | (rw [if_neg c1]; first | (rw [c23]; rfl) | (rw [c23, c35]; rfl))))
      · rw [bI_n0] at c35
        refine rl_iconst (pc := 38) R dX8_isOf_38 ic_1 ?_
        refine rl_goto (pc := 39) (tgt := 43) R dX8_isOf_39 rfl ?_
        try rw [show (bI (isW v 0 1)) = bI (if w = 0 then isW v 0 1 else isW w 1 2 && isW v 0 99) by rw [if_pos c1]]
        exact rl_ireturn (pc := 43) E dX8_isOf_43 rfl (by first | rfl | exact bI_nar _) (e_si (by first | rfl | (rw [if_neg c1]; first | (rw [c23]; rfl) | (rw [c23, c35]; rfl))))
  · refine rl_iload_n (pc := 4) R dX8_isOf_4 rfl ?_
    refine rl_i2l (pc := 5) R dX8_isOf_5 ?_
    refine rl_lconst (pc := 6) R dX8_isOf_6 lc_0 ?_
    refine rl_lconst (pc := 7) R dX8_isOf_7 lc_1 ?_
    refine rl_S3 (pc := 8) RS dX8_isOf_8 lkX8_40 (Nat.le_of_ble_eq_true rfl) (bs_X8_inW (v := v) (x := 0) (y := 1) rfl rfl rfl) ?_
    refine rl_goto (pc := 11) (tgt := 43) R dX8_isOf_11 rfl ?_
    try rw [show (bI (isW v 0 1)) = bI (if w = 0 then isW v 0 1 else isW w 1 2 && isW v 0 99) by rw [if_pos c1]]
    exact rl_ireturn (pc := 43) E dX8_isOf_43 rfl (by first | rfl | exact bI_nar _) (e_si (by first | rfl | (rw [if_neg c1]; first | (rw [c23]; rfl) | (rw [c23, c35]; rfl))))
theorem bs_X8_lets {law : Int32} {i mi : Nat} (hi : i < 2147483648) (hm : mi ≤ 3) : BS (d + 1) true yX8_lets [.int law, .int (nI i), .int (nI mi)] h (some (.int (bI (ltM law i mi)))) h := by
  have e1 : nI mi &&& 1 = nI (mi % 2) := pk_andN (n := mi) (by omega) 1 (by decide)
  refine bs_of mtX8_lets rfl (Nat.le_of_ble_eq_true rfl) (fun K R RV RS E => ?_)
  show K 0 [_, _, _] [] _
  refine rl_iload_n (pc := 0) R dX8_lets_0 rfl ?_
  refine rl_iconst (pc := 1) R dX8_lets_1 ic_1 ?_
  refine rl_icmp_ne (pc := 2) (tgt := 22) R dX8_lets_2 rfl (fun c2 => ?_) (fun c2 => ?_)
  · refine rl_iload_n (pc := 22) R dX8_lets_22 rfl ?_
    refine rl_iconst (pc := 23) R dX8_lets_23 ic_2 ?_
    refine rl_icmp_ne (pc := 24) (tgt := 41) R dX8_lets_24 rfl (fun c24 => ?_) (fun c24 => ?_)
    · refine rl_iload_n (pc := 41) R dX8_lets_41 rfl ?_
      refine rl_iconst (pc := 42) R dX8_lets_42 ic_3 ?_
      refine rl_icmp_ne (pc := 43) (tgt := 50) R dX8_lets_43 rfl (fun c43 => ?_) (fun c43 => ?_)
      · refine rl_iconst (pc := 50) R dX8_lets_50 ic_1 ?_
        refine rl_goto (pc := 51) (tgt := 55) R dX8_lets_51 rfl ?_
        exact rl_ireturn (pc := 55) E dX8_lets_55 rfl rfl (e_si (by simp only [ltM]; first | (rw [if_pos c2, decide_eq_true e11]; rfl) | (rw [if_pos c2, decide_eq_false e11]; rfl) | (rw [if_neg c2, if_pos c24, decide_eq_true e30]; rfl) | (rw [if_neg c2, if_pos c24, decide_eq_false e30]; rfl) | (rw [if_neg c2, if_neg c24, if_neg c43]; rfl) | (rw [if_neg c2, if_neg c24, if_pos c43, decide_eq_true e47]; rfl) | (rw [if_neg c2, if_neg c24, if_pos c43, decide_eq_false e47]; rfl)))
      · refine rl_iload_n (pc := 46) R dX8_lets_46 rfl ?_
        refine rl_if_ne (pc := 47) (tgt := 54) R dX8_lets_47 rfl (fun c47 => ?_) (fun c47 => ?_)
        · have e47 : ¬ mi = 0 := fun z => c47 (by rw [z]; rfl)
          refine rl_iconst (pc := 54) R dX8_lets_54 ic_0 ?_
          exact rl_ireturn (pc := 55) E dX8_lets_55 rfl rfl (e_si (by simp only [ltM]; first | (rw [if_pos c2, decide_eq_true e11]; rfl) | (rw [if_pos c2, decide_eq_false e11]; rfl) | (rw [if_neg c2, if_pos c24, decide_eq_true e30]; rfl) | (rw [if_neg c2, if_pos c24, decide_eq_false e30]; rfl) | (rw [if_neg c2, if_neg c24, if_neg c43]; rfl) | (rw [if_neg c2, if_neg c24, if_pos c43, decide_eq_true e47]; rfl) | (rw [if_neg c2, if_neg c24, if_pos c43, decide_eq_false e47]; rfl)))
        · have e47 : mi = 0 := (nI_5 (by omega)).mp c47
          refine rl_iconst (pc := 50) R dX8_lets_50 ic_1 ?_
          refine rl_goto (pc := 51) (tgt := 55) R dX8_lets_51 rfl ?_
          exact rl_ireturn (pc := 55) E dX8_lets_55 rfl rfl (e_si (by simp only [ltM]; first | (rw [if_pos c2, decide_eq_true e11]; rfl) | (rw [if_pos c2, decide_eq_false e11]; rfl) | (rw [if_neg c2, if_pos c24, decide_eq_true e30]; rfl) | (rw [if_neg c2, if_pos c24, decide_eq_false e30]; rfl) | (rw [if_neg c2, if_neg c24, if_neg c43]; rfl) | (rw [if_neg c2, if_neg c24, if_pos c43, decide_eq_true e47]; rfl) | (rw [if_neg c2, if_neg c24, if_pos c43, decide_eq_false e47]; rfl)))
    · refine rl_iload_n (pc := 27) R dX8_lets_27 rfl ?_
      refine rl_iconst (pc := 28) R dX8_lets_28 ic_1 ?_
      refine rl_iand (pc := 29) R dX8_lets_29 ?_
      rw [e1]
      refine rl_if_ne (pc := 30) (tgt := 37) R dX8_lets_30 rfl (fun c30 => ?_) (fun c30 => ?_)
      · have e30 : ¬ mi % 2 = 0 := fun z => c30 (by rw [z]; rfl)
        refine rl_iconst (pc := 37) R dX8_lets_37 ic_0 ?_
        refine rl_goto (pc := 38) (tgt := 55) R dX8_lets_38 rfl ?_
        exact rl_ireturn (pc := 55) E dX8_lets_55 rfl rfl (e_si (by simp only [ltM]; first | (rw [if_pos c2, decide_eq_true e11]; rfl) | (rw [if_pos c2, decide_eq_false e11]; rfl) | (rw [if_neg c2, if_pos c24, decide_eq_true e30]; rfl) | (rw [if_neg c2, if_pos c24, decide_eq_false e30]; rfl) | (rw [if_neg c2, if_neg c24, if_neg c43]; rfl) | (rw [if_neg c2, if_neg c24, if_pos c43, decide_eq_true e47]; rfl) | (rw [if_neg c2, if_neg c24, if_pos c43, decide_eq_false e47]; rfl)))
      · have e30 : mi % 2 = 0 := (nI_5 (by omega)).mp c30
        refine rl_iconst (pc := 33) R dX8_lets_33 ic_1 ?_
        refine rl_goto (pc := 34) (tgt := 55) R dX8_lets_34 rfl ?_
        exact rl_ireturn (pc := 55) E dX8_lets_55 rfl rfl (e_si (by simp only [ltM]; first | (rw [if_pos c2, decide_eq_true e11]; rfl) | (rw [if_pos c2, decide_eq_false e11]; rfl) | (rw [if_neg c2, if_pos c24, decide_eq_true e30]; rfl) | (rw [if_neg c2, if_pos c24, decide_eq_false e30]; rfl) | (rw [if_neg c2, if_neg c24, if_neg c43]; rfl) | (rw [if_neg c2, if_neg c24, if_pos c43, decide_eq_true e47]; rfl) | (rw [if_neg c2, if_neg c24, if_pos c43, decide_eq_false e47]; rfl)))
  · refine rl_iload_n (pc := 5) R dX8_lets_5 rfl ?_
    refine rl_bipush (pc := 6) R dX8_lets_6 bc_7 ?_
    refine rl_irem (pc := 8) R dX8_lets_8 (by decide) ?_
    rw [rem7 hi]
    refine rl_bipush (pc := 9) R dX8_lets_9 bc_6 ?_
    refine rl_icmp_eq (pc := 11) (tgt := 18) R dX8_lets_11 rfl (fun c11 => ?_) (fun c11 => ?_)
    · have e11 : i % 7 = 6 := (nI_eq (b := 6) (by omega) (by decide)).mp c11
      refine rl_iconst (pc := 18) R dX8_lets_18 ic_0 ?_
      refine rl_goto (pc := 19) (tgt := 55) R dX8_lets_19 rfl ?_
      exact rl_ireturn (pc := 55) E dX8_lets_55 rfl rfl (e_si (by simp only [ltM]; first | (rw [if_pos c2, decide_eq_true e11]; rfl) | (rw [if_pos c2, decide_eq_false e11]; rfl) | (rw [if_neg c2, if_pos c24, decide_eq_true e30]; rfl) | (rw [if_neg c2, if_pos c24, decide_eq_false e30]; rfl) | (rw [if_neg c2, if_neg c24, if_neg c43]; rfl) | (rw [if_neg c2, if_neg c24, if_pos c43, decide_eq_true e47]; rfl) | (rw [if_neg c2, if_neg c24, if_pos c43, decide_eq_false e47]; rfl)))
    · have e11 : ¬ i % 7 = 6 := fun z => c11 (by rw [z]; rfl)
      refine rl_iconst (pc := 14) R dX8_lets_14 ic_1 ?_
      refine rl_goto (pc := 15) (tgt := 55) R dX8_lets_15 rfl ?_
      exact rl_ireturn (pc := 55) E dX8_lets_55 rfl rfl (e_si (by simp only [ltM]; first | (rw [if_pos c2, decide_eq_true e11]; rfl) | (rw [if_pos c2, decide_eq_false e11]; rfl) | (rw [if_neg c2, if_pos c24, decide_eq_true e30]; rfl) | (rw [if_neg c2, if_pos c24, decide_eq_false e30]; rfl) | (rw [if_neg c2, if_neg c24, if_neg c43]; rfl) | (rw [if_neg c2, if_neg c24, if_pos c43, decide_eq_true e47]; rfl) | (rw [if_neg c2, if_neg c24, if_pos c43, decide_eq_false e47]; rfl)))
theorem bs_X8_minds {b : Bool} {i mi : Nat} (hi : i < 2147483648) (hm : mi ≤ 3) : BS (d + 1) true yX8_minds [.int (nI i), .int (nI mi), .int (bI b)] h (some (.int (nI (mdM i mi b)))) h := by
  refine bs_of mtX8_minds rfl (Nat.le_of_ble_eq_true rfl) (fun K R RV RS E => ?_)
  show K 0 [_, _, _, _] [] _
  have fin : ∀ w : Nat, w = (if i % 7 = 6 then 0 else if b || decide (1 < mi) then 2 else 0) → K 27 [some (.int (nI i)), some (.int (nI mi)), some (.int (bI b)), none] [.int (nI w)] h := by
    intro w hw
    have hw2 : w = 0 ∨ w = 2 := by
      subst hw
      split
      · exact Or.inl rfl
      · split
        · exact Or.inr rfl
        · exact Or.inl rfl
    refine rl_istore_n (pc := 27) R dX8_minds_27 (Nat.le_of_ble_eq_true rfl) rfl ?_
    show K _ [_, _, _, _] _ _
    refine rl_iload_n (pc := 28) R dX8_minds_28 rfl ?_
    refine rl_if_eq (pc := 29) (tgt := 38) R dX8_minds_29 rfl (fun c29 => ?_) (fun c29 => ?_)
    · rw [bI_0] at c29
      refine rl_iload_n (pc := 38) R dX8_minds_38 rfl ?_
      exact rl_ireturn (pc := 39) E dX8_minds_39 rfl rfl (e_si (by rw [mdM, ← hw, c29]; rcases hw2 with rfl | rfl <;> rfl))
    · rw [bI_n0] at c29
      refine rl_iload_n (pc := 32) R dX8_minds_32 rfl ?_
      refine rl_iconst (pc := 33) R dX8_minds_33 ic_1 ?_
      refine rl_ior (pc := 34) R dX8_minds_34 ?_
      refine rl_goto (pc := 35) (tgt := 39) R dX8_minds_35 rfl ?_
      exact rl_ireturn (pc := 39) E dX8_minds_39 rfl rfl (e_si (by rw [mdM, ← hw, c29]; rcases hw2 with rfl | rfl <;> rfl))
  refine rl_iload_n (pc := 0) R dX8_minds_0 rfl ?_
  refine rl_bipush (pc := 1) R dX8_minds_1 bc_7 ?_
  refine rl_irem (pc := 3) R dX8_minds_3 (by decide) ?_
  rw [rem7 hi]
  refine rl_bipush (pc := 4) R dX8_minds_4 bc_6 ?_
  refine rl_icmp_ne (pc := 6) (tgt := 13) R dX8_minds_6 rfl (fun c6 => ?_) (fun c6 => ?_)
  · have e6 : ¬ i % 7 = 6 := fun z => c6 (by rw [z]; rfl)
    refine rl_iload_n (pc := 13) R dX8_minds_13 rfl ?_
    refine rl_if_ne (pc := 14) (tgt := 22) R dX8_minds_14 rfl (fun c14 => ?_) (fun c14 => ?_)
    · rw [bI_n0] at c14
      refine rl_iconst (pc := 22) R dX8_minds_22 ic_2 ?_
      refine rl_goto (pc := 23) (tgt := 27) R dX8_minds_23 rfl ?_
      first | exact fin 0 (by rw [if_pos e6]) | exact fin 2 (by rw [if_neg e6, c14]; rfl) | exact fin 2 (by rw [if_neg e6, c14, decide_eq_true e19]; rfl) | exact fin 0 (by rw [if_neg e6, c14, decide_eq_false e19]; rfl)
    · rw [bI_0] at c14
      refine rl_iload_n (pc := 17) R dX8_minds_17 rfl ?_
      refine rl_iconst (pc := 18) R dX8_minds_18 ic_1 ?_
      refine rl_icmp_le (pc := 19) (tgt := 26) R dX8_minds_19 rfl (fun c19 => ?_) (fun c19 => ?_)
      · have e19 : ¬ 1 < mi := fun z => absurd c19 (Int32.not_le.mpr (nI_lt (a := 1) z (by omega)))
        refine rl_iconst (pc := 26) R dX8_minds_26 ic_0 ?_
        first | exact fin 0 (by rw [if_pos e6]) | exact fin 2 (by rw [if_neg e6, c14]; rfl) | exact fin 2 (by rw [if_neg e6, c14, decide_eq_true e19]; rfl) | exact fin 0 (by rw [if_neg e6, c14, decide_eq_false e19]; rfl)
      · have e19 : 1 < mi := (nI_ltI (a := 1) (by decide) (by omega)).mp (Int32.not_le.mp c19)
        refine rl_iconst (pc := 22) R dX8_minds_22 ic_2 ?_
        refine rl_goto (pc := 23) (tgt := 27) R dX8_minds_23 rfl ?_
        first | exact fin 0 (by rw [if_pos e6]) | exact fin 2 (by rw [if_neg e6, c14]; rfl) | exact fin 2 (by rw [if_neg e6, c14, decide_eq_true e19]; rfl) | exact fin 0 (by rw [if_neg e6, c14, decide_eq_false e19]; rfl)
  · have e6 : i % 7 = 6 := (nI_eq (b := 6) (by omega) (by decide)).mp c6
    refine rl_iconst (pc := 9) R dX8_minds_9 ic_0 ?_
    refine rl_goto (pc := 10) (tgt := 27) R dX8_minds_10 rfl ?_
    first | exact fin 0 (by rw [if_pos e6]) | exact fin 2 (by rw [if_neg e6, c14]; rfl) | exact fin 2 (by rw [if_neg e6, c14, decide_eq_true e19]; rfl) | exact fin 0 (by rw [if_neg e6, c14, decide_eq_false e19]; rfl)
theorem bs_X8_mindedOn {s : Int32} {q : Nat} (hq : q < 1000) : BS (d + 2) true yX8_mindedOn [.int (nI q), .int s] h (some (.int (nI (moL s q 0 0)))) h := by
  refine bs_of mtX8_mindedOn rfl (Nat.le_of_ble_eq_true rfl) (fun K R RV RS E => ?_)
  show K 0 [_, _, _, _] [] _
  have loop : ∀ (j i mi : Nat), i + j = q → mi ≤ 3 → moL s j i mi = moL s q 0 0 → K 4 [some (.int (nI q)), some (.int s), some (.int (nI mi)), some (.int (nI i))] [] h := by
    intro j
    induction j with
    | zero =>
      intro i mi hi hm hs
      refine rl_iload_n (pc := 4) R dX8_mindedOn_4 rfl ?_
      refine rl_iload_n (pc := 5) R dX8_mindedOn_5 rfl ?_
      refine rl_icmp_ge (pc := 6) (tgt := 26) R dX8_mindedOn_6 rfl (fun c6 => ?_) (fun c6 => absurd (nI_le (by omega) (by omega)) c6)
      refine rl_iload_n (pc := 26) R dX8_mindedOn_26 rfl ?_
      exact rl_ireturn (pc := 27) E dX8_mindedOn_27 rfl rfl (e_si (by rw [← hs]; rfl))
    | succ j ih =>
      intro i mi hi hm hs
      refine rl_iload_n (pc := 4) R dX8_mindedOn_4 rfl ?_
      refine rl_iload_n (pc := 5) R dX8_mindedOn_5 rfl ?_
      refine rl_icmp_ge (pc := 6) (tgt := 26) R dX8_mindedOn_6 rfl (fun c6 => absurd c6 (nI_ge (by omega) (by omega))) (fun c6 => ?_)
      refine rl_iload_n (pc := 9) R dX8_mindedOn_9 rfl ?_
      refine rl_iload_n (pc := 10) R dX8_mindedOn_10 rfl ?_
      refine rl_iload_n (pc := 11) R dX8_mindedOn_11 rfl ?_
      refine rl_iload_n (pc := 12) R dX8_mindedOn_12 rfl ?_
      refine rl_S2 (pc := 13) RS dX8_mindedOn_13 lkX8_102 (Nat.le_of_ble_eq_true rfl) (bs_X8_has) ?_
      refine rl_S3 (pc := 16) RS dX8_mindedOn_16 lkX8_105 (Nat.le_of_ble_eq_true rfl) (bs_X8_minds (by omega) hm) ?_
      refine rl_istore_n (pc := 19) R dX8_mindedOn_19 (Nat.le_of_ble_eq_true rfl) rfl ?_
      show K _ [_, _, _, _] _ _
      refine rl_iinc (pc := 20) R dX8_mindedOn_20 rfl (ii_n i) rfl ?_
      show K _ [_, _, _, _] _ _
      refine rl_goto (pc := 23) (tgt := 4) R dX8_mindedOn_23 rfl (ih (i + 1) _ (by omega) (mdM_le _ _ _) hs)
  refine rl_iconst (pc := 0) R dX8_mindedOn_0 ic_0 ?_
  refine rl_istore_n (pc := 1) R dX8_mindedOn_1 (Nat.le_of_ble_eq_true rfl) rfl ?_
  show K _ [_, _, _, _] _ _
  refine rl_iconst (pc := 2) R dX8_mindedOn_2 ic_0 ?_
  refine rl_istore_n (pc := 3) R dX8_mindedOn_3 (Nat.le_of_ble_eq_true rfl) rfl ?_
  show K _ [_, _, _, _] _ _
  exact loop q 0 0 (by omega) (by decide) rfl
theorem bs_X8_trusts {i : Nat} {l : Int32} (m0 : h[0]? = some (mO ik td at_ sz rd)) (hN : rN h n nw wo co se a) : BS (d + 1) false yX8_trusts [.ref 0, .int (nI i), .int l] h (some (.int (bI (decide (8 * l ≤ se 2 * (nI n - nI i)))))) h := by
  obtain ⟨m1, hn, h4, ⟨s0, s1, s2, s3⟩, hf⟩ := hN
  refine bs_of mtX8_trusts rfl (Nat.le_of_ble_eq_true rfl) (fun K R RV RS E => ?_)
  show K 0 [_, _, _] [] _
  refine rl_bipush (pc := 0) R dX8_trusts_0 bc_8 ?_
  refine rl_iload_n (pc := 2) R dX8_trusts_2 rfl ?_
  refine rl_imul (pc := 3) R dX8_trusts_3 ?_
  refine rl_aload_n (pc := 4) R dX8_trusts_4 rfl ?_
  refine rl_getf (pc := 5) R dX8_trusts_5 fkX8_7 (by first | assumption | rfl) rfl ?_
  refine rl_iconst (pc := 8) R dX8_trusts_8 ic_2 ?_
  refine rl_iald (pc := 9) R dX8_trusts_9 m1 (rfl : (2 : Int32) = nI 2) (by decide) (by decide) ?_
  rw [s2]
  refine rl_aload_n (pc := 10) R dX8_trusts_10 rfl ?_
  refine rl_getf (pc := 11) R dX8_trusts_11 fkX8_7 (by first | assumption | rfl) rfl ?_
  refine rl_iconst (pc := 14) R dX8_trusts_14 ic_4 ?_
  refine rl_iald (pc := 15) R dX8_trusts_15 m1 (rfl : (4 : Int32) = nI 4) (by decide) (by decide) ?_
  rw [h4]
  refine rl_iload_n (pc := 16) R dX8_trusts_16 rfl ?_
  refine rl_isub (pc := 17) R dX8_trusts_17 ?_
  refine rl_imul (pc := 18) R dX8_trusts_18 ?_
  refine rl_icmp_gt (pc := 19) (tgt := 26) R dX8_trusts_19 rfl (fun c19 => ?_) (fun c19 => ?_)
  · refine rl_iconst (pc := 26) R dX8_trusts_26 ic_0 ?_
    exact rl_ireturn (pc := 27) E dX8_trusts_27 rfl rfl (e_si (by first | (rw [decide_eq_false (Int32.not_le.mpr c19)]; rfl) | (rw [decide_eq_true (Int32.not_lt.mp c19)]; rfl)))
  · refine rl_iconst (pc := 22) R dX8_trusts_22 ic_1 ?_
    refine rl_goto (pc := 23) (tgt := 27) R dX8_trusts_23 rfl ?_
    exact rl_ireturn (pc := 27) E dX8_trusts_27 rfl rfl (e_si (by first | (rw [decide_eq_false (Int32.not_le.mpr c19)]; rfl) | (rw [decide_eq_true (Int32.not_lt.mp c19)]; rfl)))
theorem bs_X8_brings {i : Nat} {l : Int32} {b : Bool} (m0 : h[0]? = some (mO ik td at_ sz rd)) (hN : rN h n nw wo co se a) (hi : i < n) : BS (d + 2) false yX8_brings [.ref 0, .int (nI i), .int l, .int (bI b)] h (some (.int (crt n nw wo co i b l (se 2)))) h := by
  have hN0 := hN
  obtain ⟨m1, hn, h4, ⟨s0, s1, s2, s3⟩, hf⟩ := hN
  refine bs_of mtX8_brings rfl (Nat.le_of_ble_eq_true rfl) (fun K R RV RS E => ?_)
  show K 0 [_, _, _, _, _] [] _
  have fin : ∀ x : Int32, x = (if nw i = 1 then wo i else if b then - co i else 0) → K 42 [some (.ref 0), some (.int (nI i)), some (.int l), some (.int (bI b)), none] [.int x] h := by
    intro x hx
    refine rl_istore (pc := 42) R dX8_brings_42 (Nat.le_of_ble_eq_true rfl) rfl ?_
    show K _ [_, _, _, _, _] _ _
    refine rl_aload_n (pc := 44) R dX8_brings_44 rfl ?_
    refine rl_iload_n (pc := 45) R dX8_brings_45 rfl ?_
    refine rl_iload_n (pc := 46) R dX8_brings_46 rfl ?_
    refine rl_V2 (pc := 47) RV dX8_brings_47 lkX8_122 m0 rfl (Nat.le_of_ble_eq_true rfl) (bs_X8_trusts m0 hN0) ?_
    refine rl_if_eq (pc := 50) (tgt := 58) R dX8_brings_50 rfl (fun c50 => ?_) (fun c50 => ?_)
    · rw [bI_0, decide_eq_false_iff_not] at c50
      refine rl_iconst (pc := 58) R dX8_brings_58 ic_0 ?_
      exact rl_ireturn (pc := 59) E dX8_brings_59 rfl rfl (e_si (by rw [crt]; first | rw [if_neg c50] | rw [if_pos c50, hx]))
    · rw [bI_n0, decide_eq_true_eq] at c50
      refine rl_iload (pc := 53) R dX8_brings_53 rfl ?_
      refine rl_goto (pc := 55) (tgt := 59) R dX8_brings_55 rfl ?_
      exact rl_ireturn (pc := 59) E dX8_brings_59 rfl rfl (e_si (by rw [crt]; first | rw [if_neg c50] | rw [if_pos c50, hx]))
  refine rl_aload_n (pc := 0) R dX8_brings_0 rfl ?_
  refine rl_getf (pc := 1) R dX8_brings_1 fkX8_7 (by first | assumption | rfl) rfl ?_
  refine rl_iconst (pc := 4) R dX8_brings_4 ic_5 ?_
  refine rl_iload_n (pc := 5) R dX8_brings_5 rfl ?_
  refine rl_iadd (pc := 6) R dX8_brings_6 ?_
  refine rl_iald (pc := 7) R dX8_brings_7 m1 (nI_add 5 i) (by omega) (by decide) ?_
  rw [(hf i hi).1]
  refine rl_iconst (pc := 8) R dX8_brings_8 ic_1 ?_
  refine rl_icmp_ne (pc := 9) (tgt := 24) R dX8_brings_9 rfl (fun c9 => ?_) (fun c9 => ?_)
  · refine rl_iload_n (pc := 24) R dX8_brings_24 rfl ?_
    refine rl_if_eq (pc := 25) (tgt := 41) R dX8_brings_25 rfl (fun c25 => ?_) (fun c25 => ?_)
    · rw [bI_0] at c25
      refine rl_iconst (pc := 41) R dX8_brings_41 ic_0 ?_
      first | exact fin _ (by rw [if_pos c9]) | exact fin _ (by rw [if_neg c9, c25]; rfl)
    · rw [bI_n0] at c25
      refine rl_aload_n (pc := 28) R dX8_brings_28 rfl ?_
      refine rl_getf (pc := 29) R dX8_brings_29 fkX8_7 (by first | assumption | rfl) rfl ?_
      refine rl_bipush (pc := 32) R dX8_brings_32 bc_61 ?_
      refine rl_iload_n (pc := 34) R dX8_brings_34 rfl ?_
      refine rl_iadd (pc := 35) R dX8_brings_35 ?_
      refine rl_iald (pc := 36) R dX8_brings_36 m1 (nI_add 61 i) (by omega) (by decide) ?_
      rw [(hf i hi).2.2]
      refine rl_ineg (pc := 37) R dX8_brings_37 ?_
      refine rl_goto (pc := 38) (tgt := 42) R dX8_brings_38 rfl ?_
      first | exact fin _ (by rw [if_pos c9]) | exact fin _ (by rw [if_neg c9, c25]; rfl)
  · refine rl_aload_n (pc := 12) R dX8_brings_12 rfl ?_
    refine rl_getf (pc := 13) R dX8_brings_13 fkX8_7 (by first | assumption | rfl) rfl ?_
    refine rl_bipush (pc := 16) R dX8_brings_16 bc_33 ?_
    refine rl_iload_n (pc := 18) R dX8_brings_18 rfl ?_
    refine rl_iadd (pc := 19) R dX8_brings_19 ?_
    refine rl_iald (pc := 20) R dX8_brings_20 m1 (nI_add 33 i) (by omega) (by decide) ?_
    rw [(hf i hi).2.1]
    refine rl_goto (pc := 21) (tgt := 42) R dX8_brings_21 rfl ?_
    first | exact fin _ (by rw [if_pos c9]) | exact fin _ (by rw [if_neg c9, c25]; rfl)
theorem bs_X8_wrongIn {s : Int32} (m0 : h[0]? = some (mO ik td at_ sz rd)) (hN : rN h n nw wo co se a) : BS (d + 3) false yX8_wrongIn [.ref 0, .int s] h (some (.int (wrM (se 1) s nw n 0 (se 0)))) h := by
  have hN0 := hN
  obtain ⟨m1, hn, h4, ⟨s0, s1, s2, s3⟩, hf⟩ := hN
  refine bs_of mtX8_wrongIn rfl (Nat.le_of_ble_eq_true rfl) (fun K R RV RS E => ?_)
  show K 0 [_, _, _, _] [] _
  have loop : ∀ (j i : Nat) (l : Int32), i + j = n → wrM (se 1) s nw j i l = wrM (se 1) s nw n 0 (se 0) → K 9 [some (.ref 0), some (.int s), some (.int l), some (.int (nI i))] [] h := by
    intro j
    induction j with
    | zero =>
      intro i l hi hs
      refine rl_iload_n (pc := 9) R dX8_wrongIn_9 rfl ?_
      refine rl_aload_n (pc := 10) R dX8_wrongIn_10 rfl ?_
      refine rl_getf (pc := 11) R dX8_wrongIn_11 fkX8_7 (by first | assumption | rfl) rfl ?_
      refine rl_iconst (pc := 14) R dX8_wrongIn_14 ic_4 ?_
      refine rl_iald (pc := 15) R dX8_wrongIn_15 m1 (rfl : (4 : Int32) = nI 4) (by decide) (by decide) ?_
      rw [h4]
      refine rl_icmp_ge (pc := 16) (tgt := 75) R dX8_wrongIn_16 rfl (fun c16 => ?_) (fun c16 => absurd (nI_le (by omega) (by omega)) c16)
      refine rl_bipush (pc := 75) R dX8_wrongIn_75 bc_m4 ?_
      exact rl_ireturn (pc := 77) E dX8_wrongIn_77 rfl rfl (e_si (by rw [← hs]; rfl))
    | succ j ih =>
      intro i l hi hs
      refine rl_iload_n (pc := 9) R dX8_wrongIn_9 rfl ?_
      refine rl_aload_n (pc := 10) R dX8_wrongIn_10 rfl ?_
      refine rl_getf (pc := 11) R dX8_wrongIn_11 fkX8_7 (by first | assumption | rfl) rfl ?_
      refine rl_iconst (pc := 14) R dX8_wrongIn_14 ic_4 ?_
      refine rl_iald (pc := 15) R dX8_wrongIn_15 m1 (rfl : (4 : Int32) = nI 4) (by decide) (by decide) ?_
      rw [h4]
      refine rl_icmp_ge (pc := 16) (tgt := 75) R dX8_wrongIn_16 rfl (fun c16 => absurd c16 (nI_ge (by omega) (by omega))) (fun c16 => ?_)
      refine rl_iload_n (pc := 19) R dX8_wrongIn_19 rfl ?_
      refine rl_iload_n (pc := 20) R dX8_wrongIn_20 rfl ?_
      refine rl_S2 (pc := 21) RS dX8_wrongIn_21 lkX8_102 (Nat.le_of_ble_eq_true rfl) (bs_X8_has) ?_
      refine rl_if_ne (pc := 24) (tgt := 30) R dX8_wrongIn_24 rfl (fun c24 => ?_) (fun c24 => ?_)
      · rw [bI_n0] at c24
        refine rl_iload_n (pc := 30) R dX8_wrongIn_30 rfl ?_
        refine rl_if_eq (pc := 31) (tgt := 64) R dX8_wrongIn_31 rfl (fun c31 => ?_) (fun c31 => ?_)
        · refine rl_iload_n (pc := 64) R dX8_wrongIn_64 rfl ?_
          exact rl_ireturn (pc := 65) E dX8_wrongIn_65 rfl rfl (e_si (by rw [← hs, wrM, if_pos c24]; first | (rw [if_pos c31]; done) | (rw [if_neg c31, if_pos c43]; done) | (rw [if_neg c31, if_neg c43, if_neg (by rw [c61]; decide)]; done)))
        · refine rl_aload_n (pc := 34) R dX8_wrongIn_34 rfl ?_
          refine rl_getf (pc := 35) R dX8_wrongIn_35 fkX8_7 (by first | assumption | rfl) rfl ?_
          refine rl_iconst (pc := 38) R dX8_wrongIn_38 ic_5 ?_
          refine rl_iload_n (pc := 39) R dX8_wrongIn_39 rfl ?_
          refine rl_iadd (pc := 40) R dX8_wrongIn_40 ?_
          refine rl_iald (pc := 41) R dX8_wrongIn_41 m1 (nI_add 5 i) (by omega) (by decide) ?_
          rw [(hf i (by omega)).1]
          refine rl_iconst (pc := 42) R dX8_wrongIn_42 ic_1 ?_
          refine rl_icmp_eq (pc := 43) (tgt := 64) R dX8_wrongIn_43 rfl (fun c43 => ?_) (fun c43 => ?_)
          · refine rl_iload_n (pc := 64) R dX8_wrongIn_64 rfl ?_
            exact rl_ireturn (pc := 65) E dX8_wrongIn_65 rfl rfl (e_si (by rw [← hs, wrM, if_pos c24]; first | (rw [if_pos c31]; done) | (rw [if_neg c31, if_pos c43]; done) | (rw [if_neg c31, if_neg c43, if_neg (by rw [c61]; decide)]; done)))
          · refine rl_aload_n (pc := 46) R dX8_wrongIn_46 rfl ?_
            refine rl_getf (pc := 47) R dX8_wrongIn_47 fkX8_7 (by first | assumption | rfl) rfl ?_
            refine rl_iconst (pc := 50) R dX8_wrongIn_50 ic_1 ?_
            refine rl_iald (pc := 51) R dX8_wrongIn_51 m1 (rfl : (1 : Int32) = nI 1) (by decide) (by decide) ?_
            rw [s1]
            refine rl_iload_n (pc := 52) R dX8_wrongIn_52 rfl ?_
            refine rl_iload_n (pc := 53) R dX8_wrongIn_53 rfl ?_
            refine rl_iload_n (pc := 54) R dX8_wrongIn_54 rfl ?_
            refine rl_S2 (pc := 55) RS dX8_wrongIn_55 lkX8_112 (Nat.le_of_ble_eq_true rfl) (bs_X8_mindedOn (by omega)) ?_
            refine rl_S3 (pc := 58) RS dX8_wrongIn_58 lkX8_115 (Nat.le_of_ble_eq_true rfl) (bs_X8_lets (by omega) (moL_le _ _ _ _ (by decide))) ?_
            refine rl_if_ne (pc := 61) (tgt := 66) R dX8_wrongIn_61 rfl (fun c61 => ?_) (fun c61 => ?_)
            · rw [bI_n0] at c61
              refine rl_iinc (pc := 66) R dX8_wrongIn_66 rfl rfl rfl ?_
              show K _ [_, _, _, _] _ _
              refine rl_iinc (pc := 69) R dX8_wrongIn_69 rfl (ii_n i) rfl ?_
              show K _ [_, _, _, _] _ _
              refine rl_goto (pc := 72) (tgt := 9) R dX8_wrongIn_72 rfl (ih (i + 1) _ (by omega) (by rw [← hs, wrM]; first | (rw [if_neg (by rw [c24]; decide)]; done) | (rw [if_pos c24, if_neg c31, if_neg c43, if_pos c61]; rfl)))
            · rw [bI_0] at c61
              refine rl_iload_n (pc := 64) R dX8_wrongIn_64 rfl ?_
              exact rl_ireturn (pc := 65) E dX8_wrongIn_65 rfl rfl (e_si (by rw [← hs, wrM, if_pos c24]; first | (rw [if_pos c31]; done) | (rw [if_neg c31, if_pos c43]; done) | (rw [if_neg c31, if_neg c43, if_neg (by rw [c61]; decide)]; done)))
      · rw [bI_0] at c24
        refine rl_goto (pc := 27) (tgt := 69) R dX8_wrongIn_27 rfl ?_
        refine rl_iinc (pc := 69) R dX8_wrongIn_69 rfl (ii_n i) rfl ?_
        show K _ [_, _, _, _] _ _
        refine rl_goto (pc := 72) (tgt := 9) R dX8_wrongIn_72 rfl (ih (i + 1) _ (by omega) (by rw [← hs, wrM]; first | (rw [if_neg (by rw [c24]; decide)]; done) | (rw [if_pos c24, if_neg c31, if_neg c43, if_pos c61]; rfl)))
  refine rl_aload_n (pc := 0) R dX8_wrongIn_0 rfl ?_
  refine rl_getf (pc := 1) R dX8_wrongIn_1 fkX8_7 (by first | assumption | rfl) rfl ?_
  refine rl_iconst (pc := 4) R dX8_wrongIn_4 ic_0 ?_
  refine rl_iald (pc := 5) R dX8_wrongIn_5 m1 (rfl : (0 : Int32) = nI 0) (by decide) (by decide) ?_
  rw [s0]
  refine rl_istore_n (pc := 6) R dX8_wrongIn_6 (Nat.le_of_ble_eq_true rfl) rfl ?_
  show K _ [_, _, _, _] _ _
  refine rl_iconst (pc := 7) R dX8_wrongIn_7 ic_0 ?_
  refine rl_istore_n (pc := 8) R dX8_wrongIn_8 (Nat.le_of_ble_eq_true rfl) rfl ?_
  show K _ [_, _, _, _] _ _
  exact loop n 0 (se 0) (by omega) rfl
theorem bs_X8_gainOf {s : Int32} (m0 : h[0]? = some (mO ik td at_ sz rd)) (hN : rN h n nw wo co se a) : BS (d + 3) false yX8_gainOf [.ref 0, .int s] h (some (.int (gnM n nw wo co (se 2) s n 0 (se 0) 0))) h := by
  have hN0 := hN
  obtain ⟨m1, hn, h4, ⟨s0, s1, s2, s3⟩, hf⟩ := hN
  refine bs_of mtX8_gainOf rfl (Nat.le_of_ble_eq_true rfl) (fun K R RV RS E => ?_)
  show K 0 [_, _, _, _, _] [] _
  have loop : ∀ (j i : Nat) (l x : Int32), i + j = n → gnM n nw wo co (se 2) s j i l x = gnM n nw wo co (se 2) s n 0 (se 0) 0 → K 12 [some (.ref 0), some (.int s), some (.int l), some (.int x), some (.int (nI i))] [] h := by
    intro j
    induction j with
    | zero =>
      intro i l x hi hs
      refine rl_iload (pc := 12) R dX8_gainOf_12 rfl ?_
      refine rl_aload_n (pc := 14) R dX8_gainOf_14 rfl ?_
      refine rl_getf (pc := 15) R dX8_gainOf_15 fkX8_7 (by first | assumption | rfl) rfl ?_
      refine rl_iconst (pc := 18) R dX8_gainOf_18 ic_4 ?_
      refine rl_iald (pc := 19) R dX8_gainOf_19 m1 (rfl : (4 : Int32) = nI 4) (by decide) (by decide) ?_
      rw [h4]
      refine rl_icmp_ge (pc := 20) (tgt := 62) R dX8_gainOf_20 rfl (fun c20 => ?_) (fun c20 => absurd (nI_le (by omega) (by omega)) c20)
      refine rl_iload_n (pc := 62) R dX8_gainOf_62 rfl ?_
      exact rl_ireturn (pc := 63) E dX8_gainOf_63 rfl rfl (e_si (by rw [← hs]; rfl))
    | succ j ih =>
      intro i l x hi hs
      refine rl_iload (pc := 12) R dX8_gainOf_12 rfl ?_
      refine rl_aload_n (pc := 14) R dX8_gainOf_14 rfl ?_
      refine rl_getf (pc := 15) R dX8_gainOf_15 fkX8_7 (by first | assumption | rfl) rfl ?_
      refine rl_iconst (pc := 18) R dX8_gainOf_18 ic_4 ?_
      refine rl_iald (pc := 19) R dX8_gainOf_19 m1 (rfl : (4 : Int32) = nI 4) (by decide) (by decide) ?_
      rw [h4]
      refine rl_icmp_ge (pc := 20) (tgt := 62) R dX8_gainOf_20 rfl (fun c20 => absurd c20 (nI_ge (by omega) (by omega))) (fun c20 => ?_)
      refine rl_iload_n (pc := 23) R dX8_gainOf_23 rfl ?_
      refine rl_aload_n (pc := 24) R dX8_gainOf_24 rfl ?_
      refine rl_iload (pc := 25) R dX8_gainOf_25 rfl ?_
      refine rl_iload_n (pc := 27) R dX8_gainOf_27 rfl ?_
      refine rl_iload_n (pc := 28) R dX8_gainOf_28 rfl ?_
      refine rl_iload (pc := 29) R dX8_gainOf_29 rfl ?_
      refine rl_S2 (pc := 31) RS dX8_gainOf_31 lkX8_102 (Nat.le_of_ble_eq_true rfl) (bs_X8_has) ?_
      refine rl_V3 (pc := 34) RV dX8_gainOf_34 lkX8_125 m0 rfl (Nat.le_of_ble_eq_true rfl) (bs_X8_brings m0 hN0 (by omega)) ?_
      refine rl_iadd (pc := 37) R dX8_gainOf_37 ?_
      refine rl_istore_n (pc := 38) R dX8_gainOf_38 (Nat.le_of_ble_eq_true rfl) rfl ?_
      show K _ [_, _, _, _, _] _ _
      refine rl_iload_n (pc := 39) R dX8_gainOf_39 rfl ?_
      refine rl_iload_n (pc := 40) R dX8_gainOf_40 rfl ?_
      refine rl_iload (pc := 41) R dX8_gainOf_41 rfl ?_
      refine rl_S2 (pc := 43) RS dX8_gainOf_43 lkX8_102 (Nat.le_of_ble_eq_true rfl) (bs_X8_has) ?_
      refine rl_if_eq (pc := 46) (tgt := 53) R dX8_gainOf_46 rfl (fun c46 => ?_) (fun c46 => ?_)
      · rw [bI_0] at c46
        refine rl_iconst (pc := 53) R dX8_gainOf_53 ic_0 ?_
        refine rl_isub (pc := 54) R dX8_gainOf_54 ?_
        refine rl_istore_n (pc := 55) R dX8_gainOf_55 (Nat.le_of_ble_eq_true rfl) rfl ?_
        show K _ [_, _, _, _, _] _ _
        refine rl_iinc (pc := 56) R dX8_gainOf_56 rfl (ii_n i) rfl ?_
        show K _ [_, _, _, _, _] _ _
        refine rl_goto (pc := 59) (tgt := 12) R dX8_gainOf_59 rfl (ih (i + 1) _ _ (by omega) (by rw [← hs, gnM, c46]; rfl))
      · rw [bI_n0] at c46
        refine rl_iconst (pc := 49) R dX8_gainOf_49 ic_1 ?_
        refine rl_goto (pc := 50) (tgt := 54) R dX8_gainOf_50 rfl ?_
        refine rl_isub (pc := 54) R dX8_gainOf_54 ?_
        refine rl_istore_n (pc := 55) R dX8_gainOf_55 (Nat.le_of_ble_eq_true rfl) rfl ?_
        show K _ [_, _, _, _, _] _ _
        refine rl_iinc (pc := 56) R dX8_gainOf_56 rfl (ii_n i) rfl ?_
        show K _ [_, _, _, _, _] _ _
        refine rl_goto (pc := 59) (tgt := 12) R dX8_gainOf_59 rfl (ih (i + 1) _ _ (by omega) (by rw [← hs, gnM, c46]; rfl))
  refine rl_aload_n (pc := 0) R dX8_gainOf_0 rfl ?_
  refine rl_getf (pc := 1) R dX8_gainOf_1 fkX8_7 (by first | assumption | rfl) rfl ?_
  refine rl_iconst (pc := 4) R dX8_gainOf_4 ic_0 ?_
  refine rl_iald (pc := 5) R dX8_gainOf_5 m1 (rfl : (0 : Int32) = nI 0) (by decide) (by decide) ?_
  rw [s0]
  refine rl_istore_n (pc := 6) R dX8_gainOf_6 (Nat.le_of_ble_eq_true rfl) rfl ?_
  show K _ [_, _, _, _, _] _ _
  refine rl_iconst (pc := 7) R dX8_gainOf_7 ic_0 ?_
  refine rl_istore_n (pc := 8) R dX8_gainOf_8 (Nat.le_of_ble_eq_true rfl) rfl ?_
  show K _ [_, _, _, _, _] _ _
  refine rl_iconst (pc := 9) R dX8_gainOf_9 ic_0 ?_
  refine rl_istore (pc := 10) R dX8_gainOf_10 (Nat.le_of_ble_eq_true rfl) rfl ?_
  show K _ [_, _, _, _, _] _ _
  exact loop n 0 (se 0) 0 (by omega) rfl
theorem bs_X8_day_bad {x y z : Int32} (hok : (isW x 0 1 && (isW y 0 99 && isW z 0 99)) = false) : BS (d + 2) false yX8_day [.ref 0, .int x, .int y, .int z] h (some (.int (-1))) h := by
  refine bs_of mtX8_day rfl (Nat.le_of_ble_eq_true rfl) (fun K R RV RS E => ?_)
  show K 0 [_, _, _, _, _] [] _
  refine rl_iload_n (pc := 0) R dX8_day_0 rfl ?_
  refine rl_i2l (pc := 1) R dX8_day_1 ?_
  refine rl_lconst (pc := 2) R dX8_day_2 lc_0 ?_
  refine rl_lconst (pc := 3) R dX8_day_3 lc_1 ?_
  refine rl_S3 (pc := 4) RS dX8_day_4 lkX8_40 (Nat.le_of_ble_eq_true rfl) (bs_X8_inW (v := x) (x := 0) (y := 1) rfl rfl rfl) ?_
  refine rl_if_eq (pc := 7) (tgt := 34) R dX8_day_7 rfl (fun c7 => ?_) (fun c7 => ?_)
  · rw [bI_0] at c7
    refine rl_iconst (pc := 34) R dX8_day_34 ic_m1 ?_
    exact rl_ireturn (pc := 35) E dX8_day_35 rfl rfl (rfl)
  · rw [bI_n0] at c7
    refine rl_iload_n (pc := 10) R dX8_day_10 rfl ?_
    refine rl_i2l (pc := 11) R dX8_day_11 ?_
    refine rl_lconst (pc := 12) R dX8_day_12 lc_0 ?_
    refine rl_ldc2 (pc := 13) R dX8_day_13 kdX8_44 ?_
    refine rl_S3 (pc := 16) RS dX8_day_16 lkX8_40 (Nat.le_of_ble_eq_true rfl) (bs_X8_inW (v := y) (x := 0) (y := 99) rfl rfl rfl) ?_
    refine rl_if_eq (pc := 19) (tgt := 34) R dX8_day_19 rfl (fun c19 => ?_) (fun c19 => ?_)
    · rw [bI_0] at c19
      refine rl_iconst (pc := 34) R dX8_day_34 ic_m1 ?_
      exact rl_ireturn (pc := 35) E dX8_day_35 rfl rfl (rfl)
    · rw [bI_n0] at c19
      refine rl_iload_n (pc := 22) R dX8_day_22 rfl ?_
      refine rl_i2l (pc := 23) R dX8_day_23 ?_
      refine rl_lconst (pc := 24) R dX8_day_24 lc_0 ?_
      refine rl_ldc2 (pc := 25) R dX8_day_25 kdX8_44 ?_
      refine rl_S3 (pc := 28) RS dX8_day_28 lkX8_40 (Nat.le_of_ble_eq_true rfl) (bs_X8_inW (v := z) (x := 0) (y := 99) rfl rfl rfl) ?_
      refine rl_if_ne (pc := 31) (tgt := 36) R dX8_day_31 rfl (fun c31 => ?_) (fun c31 => ?_)
      · exact absurd hok (by rw [bI_n0] at c31; rw [c7, c19, c31]; decide)
      · refine rl_iconst (pc := 34) R dX8_day_34 ic_m1 ?_
        exact rl_ireturn (pc := 35) E dX8_day_35 rfl rfl (rfl)
theorem bs_X8_day {x y z : Int32} (m0 : h[0]? = some (mO ik td at_ sz rd)) (hN : rN h n nw wo co se a) (hok : (isW x 0 1 && (isW y 0 99 && isW z 0 99)) = true) : BS (d + 2) false yX8_day [.ref 0, .int x, .int y, .int z] h (some (.int (if n = 28 then -3 else nI n))) (if n = 28 then h else h.set 1 (hI 89 (upd (upd (upd (upd a (5 + n) x) (33 + n) y) (61 + n) z) 4 (nI (n + 1))))) := by
  obtain ⟨m1, hn, h4, hs, hf⟩ := hN
  simp only [Bool.and_eq_true] at hok
  by_cases hz : n = 28
  · simp only [if_pos hz]
    refine bs_of mtX8_day rfl (Nat.le_of_ble_eq_true rfl) (fun K R RV RS E => ?_)
    show K 0 [_, _, _, _, _] [] _
    refine rl_iload_n (pc := 0) R dX8_day_0 rfl ?_
    refine rl_i2l (pc := 1) R dX8_day_1 ?_
    refine rl_lconst (pc := 2) R dX8_day_2 lc_0 ?_
    refine rl_lconst (pc := 3) R dX8_day_3 lc_1 ?_
    refine rl_S3 (pc := 4) RS dX8_day_4 lkX8_40 (Nat.le_of_ble_eq_true rfl) (bs_X8_inW (v := x) (x := 0) (y := 1) rfl rfl rfl) ?_
    refine rl_if_eq (pc := 7) (tgt := 34) R dX8_day_7 rfl (fun c7 => absurd c7 (by rw [hok.1]; decide)) (fun c7 => ?_)
    refine rl_iload_n (pc := 10) R dX8_day_10 rfl ?_
    refine rl_i2l (pc := 11) R dX8_day_11 ?_
    refine rl_lconst (pc := 12) R dX8_day_12 lc_0 ?_
    refine rl_ldc2 (pc := 13) R dX8_day_13 kdX8_44 ?_
    refine rl_S3 (pc := 16) RS dX8_day_16 lkX8_40 (Nat.le_of_ble_eq_true rfl) (bs_X8_inW (v := y) (x := 0) (y := 99) rfl rfl rfl) ?_
    refine rl_if_eq (pc := 19) (tgt := 34) R dX8_day_19 rfl (fun c19 => absurd c19 (by rw [hok.2.1]; decide)) (fun c19 => ?_)
    refine rl_iload_n (pc := 22) R dX8_day_22 rfl ?_
    refine rl_i2l (pc := 23) R dX8_day_23 ?_
    refine rl_lconst (pc := 24) R dX8_day_24 lc_0 ?_
    refine rl_ldc2 (pc := 25) R dX8_day_25 kdX8_44 ?_
    refine rl_S3 (pc := 28) RS dX8_day_28 lkX8_40 (Nat.le_of_ble_eq_true rfl) (bs_X8_inW (v := z) (x := 0) (y := 99) rfl rfl rfl) ?_
    refine rl_if_ne (pc := 31) (tgt := 36) R dX8_day_31 rfl (fun c31 => ?_) (fun c31 => absurd c31 (by rw [hok.2.2]; decide))
    refine rl_aload_n (pc := 36) R dX8_day_36 rfl ?_
    refine rl_getf (pc := 37) R dX8_day_37 fkX8_7 (by first | assumption | rfl) rfl ?_
    refine rl_iconst (pc := 40) R dX8_day_40 ic_4 ?_
    refine rl_iald (pc := 41) R dX8_day_41 m1 (rfl : (4 : Int32) = nI 4) (by decide) (by decide) ?_
    rw [h4]
    refine rl_istore (pc := 42) R dX8_day_42 (Nat.le_of_ble_eq_true rfl) rfl ?_
    show K _ [_, _, _, _, _] _ _
    refine rl_iload (pc := 44) R dX8_day_44 rfl ?_
    refine rl_bipush (pc := 46) R dX8_day_46 bc_28 ?_
    refine rl_icmp_ne (pc := 48) (tgt := 54) R dX8_day_48 rfl (fun c48 => absurd (by rw [hz]; rfl) c48) (fun c48 => ?_)
    refine rl_bipush (pc := 51) R dX8_day_51 bc_m3 ?_
    exact rl_ireturn (pc := 53) E dX8_day_53 rfl rfl (rfl)
  · simp only [if_neg hz]
    refine bs_of mtX8_day rfl (Nat.le_of_ble_eq_true rfl) (fun K R RV RS E => ?_)
    show K 0 [_, _, _, _, _] [] _
    refine rl_iload_n (pc := 0) R dX8_day_0 rfl ?_
    refine rl_i2l (pc := 1) R dX8_day_1 ?_
    refine rl_lconst (pc := 2) R dX8_day_2 lc_0 ?_
    refine rl_lconst (pc := 3) R dX8_day_3 lc_1 ?_
    refine rl_S3 (pc := 4) RS dX8_day_4 lkX8_40 (Nat.le_of_ble_eq_true rfl) (bs_X8_inW (v := x) (x := 0) (y := 1) rfl rfl rfl) ?_
    refine rl_if_eq (pc := 7) (tgt := 34) R dX8_day_7 rfl (fun c7 => absurd c7 (by rw [hok.1]; decide)) (fun c7 => ?_)
    refine rl_iload_n (pc := 10) R dX8_day_10 rfl ?_
    refine rl_i2l (pc := 11) R dX8_day_11 ?_
    refine rl_lconst (pc := 12) R dX8_day_12 lc_0 ?_
    refine rl_ldc2 (pc := 13) R dX8_day_13 kdX8_44 ?_
    refine rl_S3 (pc := 16) RS dX8_day_16 lkX8_40 (Nat.le_of_ble_eq_true rfl) (bs_X8_inW (v := y) (x := 0) (y := 99) rfl rfl rfl) ?_
    refine rl_if_eq (pc := 19) (tgt := 34) R dX8_day_19 rfl (fun c19 => absurd c19 (by rw [hok.2.1]; decide)) (fun c19 => ?_)
    refine rl_iload_n (pc := 22) R dX8_day_22 rfl ?_
    refine rl_i2l (pc := 23) R dX8_day_23 ?_
    refine rl_lconst (pc := 24) R dX8_day_24 lc_0 ?_
    refine rl_ldc2 (pc := 25) R dX8_day_25 kdX8_44 ?_
    refine rl_S3 (pc := 28) RS dX8_day_28 lkX8_40 (Nat.le_of_ble_eq_true rfl) (bs_X8_inW (v := z) (x := 0) (y := 99) rfl rfl rfl) ?_
    refine rl_if_ne (pc := 31) (tgt := 36) R dX8_day_31 rfl (fun c31 => ?_) (fun c31 => absurd c31 (by rw [hok.2.2]; decide))
    refine rl_aload_n (pc := 36) R dX8_day_36 rfl ?_
    refine rl_getf (pc := 37) R dX8_day_37 fkX8_7 (by first | assumption | rfl) rfl ?_
    refine rl_iconst (pc := 40) R dX8_day_40 ic_4 ?_
    refine rl_iald (pc := 41) R dX8_day_41 m1 (rfl : (4 : Int32) = nI 4) (by decide) (by decide) ?_
    rw [h4]
    refine rl_istore (pc := 42) R dX8_day_42 (Nat.le_of_ble_eq_true rfl) rfl ?_
    show K _ [_, _, _, _, _] _ _
    refine rl_iload (pc := 44) R dX8_day_44 rfl ?_
    refine rl_bipush (pc := 46) R dX8_day_46 bc_28 ?_
    refine rl_icmp_ne (pc := 48) (tgt := 54) R dX8_day_48 rfl (fun c48 => ?_) (fun c48 => absurd c48 (fun q => hz ((nI_eq (b := 28) (by omega) (by decide)).mp q)))
    refine rl_aload_n (pc := 54) R dX8_day_54 rfl ?_
    refine rl_getf (pc := 55) R dX8_day_55 fkX8_7 (by first | assumption | rfl) rfl ?_
    refine rl_iconst (pc := 58) R dX8_day_58 ic_5 ?_
    refine rl_iload (pc := 59) R dX8_day_59 rfl ?_
    refine rl_iadd (pc := 61) R dX8_day_61 ?_
    refine rl_iload_n (pc := 62) R dX8_day_62 rfl ?_
    refine rl_iast (pc := 63) R dX8_day_63 m1 (nI_add 5 n) (by omega) (by decide) ?_
    refine rl_aload_n (pc := 64) R dX8_day_64 rfl ?_
    refine rl_getf (pc := 65) R dX8_day_65 fkX8_7 (sm_h_oi m0 m1) rfl ?_
    refine rl_bipush (pc := 68) R dX8_day_68 bc_33 ?_
    refine rl_iload (pc := 70) R dX8_day_70 rfl ?_
    refine rl_iadd (pc := 72) R dX8_day_72 ?_
    refine rl_iload_n (pc := 73) R dX8_day_73 rfl ?_
    refine rl_iast (pc := 74) R dX8_day_74 (sm_h_eq m1) (nI_add 33 n) (by omega) (by decide) ?_
    rw [List.set_set]
    refine rl_aload_n (pc := 75) R dX8_day_75 rfl ?_
    refine rl_getf (pc := 76) R dX8_day_76 fkX8_7 (sm_h_oi m0 m1) rfl ?_
    refine rl_bipush (pc := 79) R dX8_day_79 bc_61 ?_
    refine rl_iload (pc := 81) R dX8_day_81 rfl ?_
    refine rl_iadd (pc := 83) R dX8_day_83 ?_
    refine rl_iload_n (pc := 84) R dX8_day_84 rfl ?_
    refine rl_iast (pc := 85) R dX8_day_85 (sm_h_eq m1) (nI_add 61 n) (by omega) (by decide) ?_
    rw [List.set_set]
    refine rl_aload_n (pc := 86) R dX8_day_86 rfl ?_
    refine rl_getf (pc := 87) R dX8_day_87 fkX8_7 (sm_h_oi m0 m1) rfl ?_
    refine rl_iconst (pc := 90) R dX8_day_90 ic_4 ?_
    refine rl_iload (pc := 91) R dX8_day_91 rfl ?_
    refine rl_iconst (pc := 93) R dX8_day_93 ic_1 ?_
    refine rl_iadd (pc := 94) R dX8_day_94 ?_
    rw [nI_1]
    refine rl_iast (pc := 95) R dX8_day_95 (sm_h_eq m1) (rfl : (4 : Int32) = nI 4) (by decide) (by decide) ?_
    rw [List.set_set]
    refine rl_iload (pc := 96) R dX8_day_96 rfl ?_
    exact rl_ireturn (pc := 98) E dX8_day_98 rfl rfl (rfl)
theorem bs_X8_alter_bad {i w v : Int32} (m0 : h[0]? = some (mO ik td at_ sz rd)) (hN : rN h n nw wo co se a) (hok : (isW i 0 (nI n - 1) && (if w = 0 then isW v 0 1 else isW w 1 2 && isW v 0 99)) = false) : BS (d + 3) false yX8_alter [.ref 0, .int i, .int w, .int v] h (some (.int (-1))) h := by
  refine bs_of mtX8_alter rfl (Nat.le_of_ble_eq_true rfl) (fun K R RV RS E => ?_)
  show K 0 [_, _, _, _] [] _
  refine rl_aload_n (pc := 0) R dX8_alter_0 rfl ?_
  refine rl_iload_n (pc := 1) R dX8_alter_1 rfl ?_
  refine rl_V1 (pc := 2) RV dX8_alter_2 lkX8_48 m0 rfl (Nat.le_of_ble_eq_true rfl) (bs_X8_isDay m0 hN) ?_
  refine rl_if_eq (pc := 5) (tgt := 32) R dX8_alter_5 rfl (fun c5 => ?_) (fun c5 => ?_)
  · rw [bI_0] at c5
    refine rl_iconst (pc := 32) R dX8_alter_32 ic_m1 ?_
    exact rl_ireturn (pc := 33) E dX8_alter_33 rfl rfl (rfl)
  · rw [bI_n0] at c5
    refine rl_iload_n (pc := 8) R dX8_alter_8 rfl ?_
    refine rl_iload_n (pc := 9) R dX8_alter_9 rfl ?_
    refine rl_S2 (pc := 10) RS dX8_alter_10 lkX8_52 (Nat.le_of_ble_eq_true rfl) (bs_X8_isOf) ?_
    refine rl_if_eq (pc := 13) (tgt := 32) R dX8_alter_13 rfl (fun c13 => ?_) (fun c13 => ?_)
    · refine rl_iconst (pc := 32) R dX8_alter_32 ic_m1 ?_
      exact rl_ireturn (pc := 33) E dX8_alter_33 rfl rfl (rfl)
    · exact absurd hok (by rw [bI_n0] at c13; rw [c5, c13]; decide)
theorem bs_X8_alter {i w : Nat} {v : Int32} (m0 : h[0]? = some (mO ik td at_ sz rd)) (hN : rN h n nw wo co se a) (hok : (isW (nI i) 0 (nI n - 1) && (if nI w = 0 then isW v 0 1 else isW (nI w) 1 2 && isW v 0 99)) = true) (hi : i < n) (hw : w < 3) : BS (d + 3) false yX8_alter [.ref 0, .int (nI i), .int (nI w), .int v] h (some (.int (a (5 + 28 * w + i)))) (h.set 1 (hI 89 (upd a (5 + 28 * w + i) v))) := by
  have hn := hN.2.1
  have hm : (28 : Int32) * nI w = nI (28 * w) := pk_mul 28 w
  have ha : (5 : Int32) + nI (28 * w) = nI (5 + 28 * w) := nI_add 5 _
  rw [Bool.and_eq_true] at hok
  refine bs_of mtX8_alter rfl (Nat.le_of_ble_eq_true rfl) (fun K R RV RS E => ?_)
  show K 0 [_, _, _, _] [] _
  refine rl_aload_n (pc := 0) R dX8_alter_0 rfl ?_
  refine rl_iload_n (pc := 1) R dX8_alter_1 rfl ?_
  refine rl_V1 (pc := 2) RV dX8_alter_2 lkX8_48 m0 rfl (Nat.le_of_ble_eq_true rfl) (bs_X8_isDay m0 hN) ?_
  refine rl_if_eq (pc := 5) (tgt := 32) R dX8_alter_5 rfl (fun c5 => absurd c5 (by rw [hok.1]; decide)) (fun c5 => ?_)
  refine rl_iload_n (pc := 8) R dX8_alter_8 rfl ?_
  refine rl_iload_n (pc := 9) R dX8_alter_9 rfl ?_
  refine rl_S2 (pc := 10) RS dX8_alter_10 lkX8_52 (Nat.le_of_ble_eq_true rfl) (bs_X8_isOf) ?_
  refine rl_if_eq (pc := 13) (tgt := 32) R dX8_alter_13 rfl (fun c13 => absurd c13 (by rw [hok.2]; decide)) (fun c13 => ?_)
  refine rl_aload_n (pc := 16) R dX8_alter_16 rfl ?_
  refine rl_iconst (pc := 17) R dX8_alter_17 ic_5 ?_
  refine rl_bipush (pc := 18) R dX8_alter_18 bc_28 ?_
  refine rl_iload_n (pc := 20) R dX8_alter_20 rfl ?_
  refine rl_imul (pc := 21) R dX8_alter_21 ?_
  rw [hm]
  refine rl_iadd (pc := 22) R dX8_alter_22 ?_
  rw [ha]
  refine rl_iload_n (pc := 23) R dX8_alter_23 rfl ?_
  refine rl_iadd (pc := 24) R dX8_alter_24 ?_
  rw [nI_add]
  refine rl_iload_n (pc := 25) R dX8_alter_25 rfl ?_
  refine rl_V2 (pc := 26) RV dX8_alter_26 lkX8_56 m0 rfl (Nat.le_of_ble_eq_true rfl) (bs_X8_changed m0 hN.1 (by omega)) ?_
  refine rl_goto (pc := 29) (tgt := 33) R dX8_alter_29 rfl ?_
  exact rl_ireturn (pc := 33) E dX8_alter_33 rfl rfl (rfl)
theorem bs_X8_told_bad {i w : Int32} (m0 : h[0]? = some (mO ik td at_ sz rd)) (hN : rN h n nw wo co se a) (hok : (isW i 0 (nI n - 1) && isW w 0 2) = false) : BS (d + 3) false yX8_told [.ref 0, .int i, .int w] h (some (.int (-1))) h := by
  refine bs_of mtX8_told rfl (Nat.le_of_ble_eq_true rfl) (fun K R RV RS E => ?_)
  show K 0 [_, _, _] [] _
  refine rl_aload_n (pc := 0) R dX8_told_0 rfl ?_
  refine rl_iload_n (pc := 1) R dX8_told_1 rfl ?_
  refine rl_V1 (pc := 2) RV dX8_told_2 lkX8_48 m0 rfl (Nat.le_of_ble_eq_true rfl) (bs_X8_isDay m0 hN) ?_
  refine rl_if_eq (pc := 5) (tgt := 36) R dX8_told_5 rfl (fun c5 => ?_) (fun c5 => ?_)
  · rw [bI_0] at c5
    refine rl_iconst (pc := 36) R dX8_told_36 ic_m1 ?_
    exact rl_ireturn (pc := 37) E dX8_told_37 rfl rfl (rfl)
  · rw [bI_n0] at c5
    refine rl_iload_n (pc := 8) R dX8_told_8 rfl ?_
    refine rl_i2l (pc := 9) R dX8_told_9 ?_
    refine rl_lconst (pc := 10) R dX8_told_10 lc_0 ?_
    refine rl_ldc2 (pc := 11) R dX8_told_11 kdX8_46 ?_
    refine rl_S3 (pc := 14) RS dX8_told_14 lkX8_40 (Nat.le_of_ble_eq_true rfl) (bs_X8_inW (v := w) (x := 0) (y := 2) rfl rfl rfl) ?_
    refine rl_if_eq (pc := 17) (tgt := 36) R dX8_told_17 rfl (fun c17 => ?_) (fun c17 => ?_)
    · refine rl_iconst (pc := 36) R dX8_told_36 ic_m1 ?_
      exact rl_ireturn (pc := 37) E dX8_told_37 rfl rfl (rfl)
    · exact absurd hok (by rw [bI_n0] at c17; rw [c5, c17]; decide)
theorem bs_X8_told {i w : Nat} (m0 : h[0]? = some (mO ik td at_ sz rd)) (hN : rN h n nw wo co se a) (hok : (isW (nI i) 0 (nI n - 1) && isW (nI w) 0 2) = true) (hi : i < n) (hw : w < 3) : BS (d + 3) false yX8_told [.ref 0, .int (nI i), .int (nI w)] h (some (.int (a (5 + 28 * w + i)))) h := by
  have hn := hN.2.1
  have hm : (28 : Int32) * nI w = nI (28 * w) := pk_mul 28 w
  have ha : (5 : Int32) + nI (28 * w) = nI (5 + 28 * w) := nI_add 5 _
  rw [Bool.and_eq_true] at hok
  refine bs_of mtX8_told rfl (Nat.le_of_ble_eq_true rfl) (fun K R RV RS E => ?_)
  show K 0 [_, _, _] [] _
  refine rl_aload_n (pc := 0) R dX8_told_0 rfl ?_
  refine rl_iload_n (pc := 1) R dX8_told_1 rfl ?_
  refine rl_V1 (pc := 2) RV dX8_told_2 lkX8_48 m0 rfl (Nat.le_of_ble_eq_true rfl) (bs_X8_isDay m0 hN) ?_
  refine rl_if_eq (pc := 5) (tgt := 36) R dX8_told_5 rfl (fun c5 => absurd c5 (by rw [hok.1]; decide)) (fun c5 => ?_)
  refine rl_iload_n (pc := 8) R dX8_told_8 rfl ?_
  refine rl_i2l (pc := 9) R dX8_told_9 ?_
  refine rl_lconst (pc := 10) R dX8_told_10 lc_0 ?_
  refine rl_ldc2 (pc := 11) R dX8_told_11 kdX8_46 ?_
  refine rl_S3 (pc := 14) RS dX8_told_14 lkX8_40 (Nat.le_of_ble_eq_true rfl) (bs_X8_inW (v := nI w) (x := 0) (y := 2) rfl rfl rfl) ?_
  refine rl_if_eq (pc := 17) (tgt := 36) R dX8_told_17 rfl (fun c17 => absurd c17 (by rw [hok.2]; decide)) (fun c17 => ?_)
  refine rl_aload_n (pc := 20) R dX8_told_20 rfl ?_
  refine rl_getf (pc := 21) R dX8_told_21 fkX8_7 (by first | assumption | rfl) rfl ?_
  refine rl_iconst (pc := 24) R dX8_told_24 ic_5 ?_
  refine rl_bipush (pc := 25) R dX8_told_25 bc_28 ?_
  refine rl_iload_n (pc := 27) R dX8_told_27 rfl ?_
  refine rl_imul (pc := 28) R dX8_told_28 ?_
  rw [hm]
  refine rl_iadd (pc := 29) R dX8_told_29 ?_
  rw [ha]
  refine rl_iload_n (pc := 30) R dX8_told_30 rfl ?_
  refine rl_iadd (pc := 31) R dX8_told_31 ?_
  rw [nI_add]
  refine rl_iald (pc := 32) R dX8_told_32 hN.1 rfl (by omega) (by decide) ?_
  refine rl_goto (pc := 33) (tgt := 37) R dX8_told_33 rfl ?_
  exact rl_ireturn (pc := 37) E dX8_told_37 rfl rfl (rfl)
theorem bs_X8_strike (m0 : h[0]? = some (mO ik td at_ sz rd)) (hN : rN h n nw wo co se a) : BS (d + 1) false yX8_strike [.ref 0] h (some (.int (if n = 0 then -4 else nI (n - 1)))) (if n = 0 then h else h.set 1 (hI 89 (upd a 4 (nI (n - 1))))) := by
  obtain ⟨m1, hn, h4, hs, hf⟩ := hN
  rcases Nat.eq_zero_or_pos n with rfl | hp
  · simp only [if_true]
    refine bs_of mtX8_strike rfl (Nat.le_of_ble_eq_true rfl) (fun K R RV RS E => ?_)
    show K 0 [_] [] _
    refine rl_aload_n (pc := 0) R dX8_strike_0 rfl ?_
    refine rl_getf (pc := 1) R dX8_strike_1 fkX8_7 (by first | assumption | rfl) rfl ?_
    refine rl_iconst (pc := 4) R dX8_strike_4 ic_4 ?_
    refine rl_iald (pc := 5) R dX8_strike_5 m1 (rfl : (4 : Int32) = nI 4) (by decide) (by decide) ?_
    rw [h4]
    refine rl_if_ne (pc := 6) (tgt := 12) R dX8_strike_6 rfl (fun c6 => absurd (rfl) c6) (fun c6 => ?_)
    refine rl_bipush (pc := 9) R dX8_strike_9 bc_m4 ?_
    exact rl_ireturn (pc := 11) E dX8_strike_11 rfl rfl (rfl)
  · obtain ⟨m, rfl⟩ : ∃ m, n = m + 1 := ⟨n - 1, by omega⟩
    simp only [Nat.succ_ne_zero, if_false, Nat.add_sub_cancel]
    refine bs_of mtX8_strike rfl (Nat.le_of_ble_eq_true rfl) (fun K R RV RS E => ?_)
    show K 0 [_] [] _
    refine rl_aload_n (pc := 0) R dX8_strike_0 rfl ?_
    refine rl_getf (pc := 1) R dX8_strike_1 fkX8_7 (by first | assumption | rfl) rfl ?_
    refine rl_iconst (pc := 4) R dX8_strike_4 ic_4 ?_
    refine rl_iald (pc := 5) R dX8_strike_5 m1 (rfl : (4 : Int32) = nI 4) (by decide) (by decide) ?_
    rw [h4]
    refine rl_if_ne (pc := 6) (tgt := 12) R dX8_strike_6 rfl (fun c6 => ?_) (fun c6 => absurd c6 (nI_ne0 (by omega) (by omega)))
    refine rl_aload_n (pc := 12) R dX8_strike_12 rfl ?_
    refine rl_getf (pc := 13) R dX8_strike_13 fkX8_7 (by first | assumption | rfl) rfl ?_
    refine rl_iconst (pc := 16) R dX8_strike_16 ic_4 ?_
    refine rl_dup2 (pc := 17) R dX8_strike_17 rfl rfl ?_
    refine rl_iald (pc := 18) R dX8_strike_18 m1 (rfl : (4 : Int32) = nI 4) (by decide) (by decide) ?_
    rw [h4]
    refine rl_iconst (pc := 19) R dX8_strike_19 ic_1 ?_
    refine rl_isub (pc := 20) R dX8_strike_20 ?_
    rw [nI_pred]
    refine rl_iast (pc := 21) R dX8_strike_21 m1 (rfl : (4 : Int32) = nI 4) (by decide) (by decide) ?_
    refine rl_aload_n (pc := 22) R dX8_strike_22 rfl ?_
    refine rl_getf (pc := 23) R dX8_strike_23 fkX8_7 (sm_h_oi m0 m1) rfl ?_
    refine rl_iconst (pc := 26) R dX8_strike_26 ic_4 ?_
    refine rl_iald (pc := 27) R dX8_strike_27 (sm_h_eq m1) (rfl : (4 : Int32) = nI 4) (by decide) (by decide) ?_
    exact rl_ireturn (pc := 28) E dX8_strike_28 rfl rfl (e_si (by simp [upd]))
end MO
