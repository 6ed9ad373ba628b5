/-! SMALLER THINGS: divisors, bets, lots, bytes, bounds -/
theorem gdN_eq : ∀ (m x a b : Nat), b < 2 ^ m → gdN (2 * m + 1 + x) a b = Nat.gcd a b
  | 0, x, a, b, h => by
    have : b = 0 := by simpa using h
    subst this
    rw [show 2 * 0 + 1 + x = x + 1 by omega, gdN, if_pos rfl, Nat.gcd_zero_right]
  | m + 1, x, a, b, h => by
    rw [show 2 * (m + 1) + 1 + x = (2 * m + 1 + x + 1) + 1 by omega, gdN]
    by_cases b0 : b = 0
    · rw [if_pos b0, b0, Nat.gcd_zero_right]
    · rw [if_neg b0, gdN]
      have e : Nat.gcd a b = Nat.gcd b (a % b) := by rw [Nat.gcd_comm a b, Nat.gcd_rec b a, Nat.gcd_comm]
      rw [e]
      have hr := Nat.mod_lt a (Nat.pos_of_ne_zero b0)
      generalize a % b = r at hr
      by_cases r0 : r = 0
      · rw [if_pos r0, r0, Nat.gcd_zero_right]
      · rw [if_neg r0]
        have e2 : Nat.gcd b r = Nat.gcd r (b % r) := by rw [Nat.gcd_comm b r, Nat.gcd_rec r b, Nat.gcd_comm]
        rw [e2]
        refine gdN_eq m x r (b % r) ?_
        have h1 := Nat.mod_lt b (Nat.pos_of_ne_zero r0)
        have h2 := Nat.div_add_mod b r
        have h3 : 1 ≤ b / r := Nat.div_pos (Nat.le_of_lt hr) (Nat.pos_of_ne_zero r0)
        have h4 : r * 1 ≤ r * (b / r) := Nat.mul_le_mul_left r h3
        rw [Nat.pow_succ] at h
        omega
theorem gd_eq {a b : Nat} (h : b < 1024) : gdN 64 a b = Nat.gcd b a := by
  have := gdN_eq 10 43 a b h
  rw [Nat.gcd_comm b a, ← this]
theorem i32_lit : (0 : Int32).toInt = 0 ∧ (1 : Int32).toInt = 1 ∧ (2 : Int32).toInt = 2 ∧ (3 : Int32).toInt = 3 ∧ (8 : Int32).toInt = 8 ∧ (9 : Int32).toInt = 9 ∧ (99 : Int32).toInt = 99 := ⟨rfl, rfl, rfl, rfl, rfl, rfl, rfl⟩
theorem isW_i (v a b : Int32) : (isW v a b = true) ↔ (a.toInt ≤ v.toInt ∧ v.toInt ≤ b.toInt) := by
  unfold isW; rw [Bool.and_eq_true, decide_eq_true_eq, decide_eq_true_eq, Int32.le_iff_toInt_le, Int32.le_iff_toInt_le]
theorem su_ok (f g lies words part : Int32) : suOk f g lies words part = suOM f g lies words part := by
  rw [Bool.eq_iff_iff]
  unfold suOk suOM
  simp only [Bool.and_eq_true, isW_i, decide_eq_true_eq, Int32.le_iff_toInt_le, i32_lit.1, i32_lit.2.1, i32_lit.2.2.1, i32_lit.2.2.2.1, i32_lit.2.2.2.2.1, i32_lit.2.2.2.2.2.1, i32_lit.2.2.2.2.2.2]
  constructor
  · rintro ⟨a, b, c, e, f, g⟩; exact ⟨a, b, e, ⟨c.1, f⟩, g⟩
  · rintro ⟨a, b, c, e, f⟩; exact ⟨a, b, ⟨e.1, by omega⟩, c, e.2, f⟩
theorem blM_app {x y what : Int32} {both : Nat} : ∀ (p r a : Nat), blM x y what both (p + r) a = match blM x y what both p a with
    | some v => some v
    | none => blM x y what both r (a + p)
  | 0, r, a => by rw [Nat.zero_add]; rfl
  | p + 1, r, a => by
    rw [show p + 1 + r = (p + r) + 1 by omega, blM, blM]
    by_cases c : bdM x y both a = true
    · rw [if_pos c, if_pos c]
    · rw [if_neg c, if_neg c, blM_app p r (a + 1), show a + 1 + p = a + (p + 1) by omega]
theorem blM_no {x y what : Int32} {both : Nat} : ∀ (p a : Nat), (∀ q, a ≤ q → q < a + p → bdM x y both q = false) → blM x y what both p a = none
  | 0, _, _ => rfl
  | p + 1, a, h => by rw [blM, h a (Nat.le_refl _) (by omega), if_neg (by decide), blM_no p (a + 1) (fun q h1 h2 => h q (by omega) (by omega))]
theorem blM_in {x y what : Int32} {both : Nat} : ∀ (p a : Nat), (∀ q, a ≤ q → q < a + p → q < 100 ∧ both - q < 100 ∧ q ≤ both) → blM x y what both p a = if lsL x y both p a = -4 then none else some (if what = 0 then lsL x y both p a else nI both - lsL x y both p a)
  | 0, _, _ => by rw [blM, lsL, if_pos rfl]
  | p + 1, a, h => by
    have ha := h a (Nat.le_refl _) (by omega)
    rw [blM, lsL]
    have e : bdM x y both a = lsOk x y (nI both) (nI a) := by unfold bdM; rw [decide_eq_true ha.1, decide_eq_true ha.2.1]; rfl
    rw [e]
    by_cases c : lsOk x y (nI both) (nI a) = true
    · rw [if_pos c, if_pos c, if_neg (nI_n4 (by omega)), pk_sub ha.2.2]
    · rw [if_neg c, if_neg c]
      exact blM_in p (a + 1) (fun q h1 h2 => h q (by omega) (by omega))
theorem blM_all {x y what : Int32} {both : Nat} (h1 : 2 ≤ both) (h2 : both ≤ 198) : blM x y what both (both - 1) 1 = if lsS x y both = -4 then none else some (if what = 0 then lsS x y both else nI both - lsS x y both) := by
  have e : both - 1 = (max 1 (both - 99) - 1) + ((min 99 (both - 1) + 1 - max 1 (both - 99)) + (both - 1 - min 99 (both - 1))) := by omega
  rw [e, blM_app, blM_no (max 1 (both - 99) - 1) 1 (fun q q1 q2 => by unfold bdM; rw [decide_eq_false (p := both - q < 100) (by omega)]; simp)]
  show blM x y what both _ (1 + (max 1 (both - 99) - 1)) = _
  rw [show 1 + (max 1 (both - 99) - 1) = max 1 (both - 99) by omega, blM_app, blM_in _ _ (fun q q1 q2 => by omega)]
  unfold lsS
  split
  · rename_i v hv
    exact hv.symm
  · rename_i hv
    rw [hv]
    exact blM_no _ _ (fun q q1 q2 => by unfold bdM; rw [decide_eq_false (p := q < 100) (by omega)]; simp)
theorem bt_eq (x y what : Int32) : ∀ (j both : Nat), 2 ≤ both → both + j ≤ 199 → btX x y what j both = btM x y what j both
  | 0, _, _, _ => rfl
  | j + 1, both, h1, h2 => by
    rw [btX, btM, blM_all h1 (by omega)]
    by_cases c : lsS x y both = -4
    · rw [if_pos c, if_pos c]
      exact bt_eq x y what j (both + 1) (by omega) (by omega)
    · rw [if_neg c, if_neg c]
theorem drw_eq (x : Int32) : drw x = drM x := by
  unfold drw drM
  rw [Int64.toInt32_and, Int64.toInt32_add, Int64.toInt32_mul, Int32.toInt32_toInt64]
  rfl
theorem drM_n (x : Int32) : ∃ k : Nat, k < 2147483648 ∧ drM x = nI k := by
  rw [← drw_eq]
  exact pk_andE _ 31 rfl
theorem or_b1_lt {s : Int32} {i : Nat} (hi : i < 31) (h : un s < 2 ^ i) : un (s ||| b1 i) < 2 ^ (i + 1) := by
  rw [un_or, un_b1 (by omega)]
  exact Nat.or_lt_two_pow (Nat.lt_trans h (Nat.pow_lt_pow_succ (by decide))) (Nat.pow_lt_pow_succ (by decide))
theorem lft_or (lies : Int32) {s : Int32} {i : Nat} (hi : i < 31) (h : un s < 2 ^ i) : lft lies (s ||| b1 i) (i + 1) = lft lies s i - 1 := by
  have e : pcN i (un (s ||| b1 i)) = pcN i (un s) := by
    rw [← pcN_mod i i _ (Nat.le_refl _), ← pcN_mod i i (un s) (Nat.le_refl _), un_or, un_b1 (by omega), Nat.or_mod_two_pow, Nat.mod_self, Nat.or_zero]
  rw [lft_s _ _ (by omega), lft_pc _ _ (by omega), lft_pc _ _ (by omega), e, bt_or _ _ (by omega), bt_b1 (by omega) (by omega)]
  simp
theorem lft_nor (lies : Int32) {s : Int32} {i : Nat} (hi : i < 31) (h : un s < 2 ^ i) : lft lies s (i + 1) = lft lies s i := by
  rw [lft_s _ _ hi, bt_small h (Nat.le_refl _) (by omega)]
  simp
theorem lot_eq {n : Nat} {nw : Nat → Int32} {law lies : Int32} (hnw : ∀ i, nw i = 0 ∨ nw i = 1) (hn : n ≤ 28) : ∀ (j i : Nat) (s : Int32) (g l mi : Nat) (x : Int32), i + j = n → un s < 2 ^ i → lft lies s i = nI l → l ≤ 9 → RLw law i g mi → lot n nw law lies j i s g x = lotM n nw law j i s l mi x
  | 0, _, _, _, _, _, _, _, _, _, _, _ => rfl
  | j + 1, i, s, g, l, mi, x, hi, hs, hl, hl9, hR => by
    rw [lot, lotM, drw_eq]
    have ed : ltY n nw law lies s (drM x) i g = lyL n nw law (drM x) i l mi := by
      unfold ltY lyL myM
      rw [hl, RL_my hR]
      obtain ⟨k, hk, e⟩ := drM_n x
      rw [e, pk_sub (by omega : i ≤ n), show (65536 : Int32) = nI 65536 from rfl, pk_div hk (by decide) (by decide)]
      have hd : k / 65536 < 2147483648 := Nat.lt_of_le_of_lt (Nat.div_le_self _ _) hk
      rw [pk_rem hd (by omega) (by omega)]
      have hm := Nat.mod_lt (k / 65536) (show 0 < n - i by omega)
      generalize k / 65536 % (n - i) = r at hm
      have e2 : (!decide (nw i = 1)) = decide (nw i = 0) := by
        rcases hnw i with q | q <;> rw [q] <;> decide
      rw [e2]
      have e3 : decide (nI r < nI l) = (decide (0 < l) && decide (nI r < nI l)) := by
        by_cases l0 : 0 < l
        · rw [decide_eq_true l0, Bool.true_and]
        · rw [decide_eq_false l0, Bool.false_and, decide_eq_false]
          intro z
          have := (nI_ltI (by omega) (by omega)).mp z
          omega
      rw [e3]
      cases decide (0 < l) <;> cases decide (nI r < nI l) <;> cases decide (nw i = 0) <;> cases ltM law i mi <;> rfl
    rw [ed]
    have hlow : un s < 2 ^ (i + 1) := Nat.lt_trans hs (Nat.pow_lt_pow_succ (by decide))
    by_cases c : lyL n nw law (drM x) i l mi = true
    · rw [if_pos c, if_pos c]
      have l0 : 0 < l := by
        unfold lyL myM at c
        simp only [Bool.and_eq_true, decide_eq_true_eq] at c
        exact c.1.1
      obtain ⟨l', rfl⟩ : ∃ l', l = l' + 1 := ⟨l - 1, by omega⟩
      exact lot_eq hnw hn j (i + 1) _ _ _ _ _ (by omega) (or_b1_lt (by omega) hs) (by rw [lft_or _ (by omega) hs, hl, nI_pred]; rfl) (by omega) RL_t
    · rw [if_neg c, if_neg c]
      exact lot_eq hnw hn j (i + 1) _ _ _ _ _ (by omega) hlow (by rw [lft_nor _ (by omega) hs, hl]) hl9 (RL_f hR)
theorem lots_eq {n lies : Nat} {nw : Nat → Int32} {law : Int32} (x : Int32) (hnw : ∀ i, nw i = 0 ∨ nw i = 1) (hn : n ≤ 28) (hl : lies ≤ 9) : lot n nw law (nI lies) n 0 0 0 x = lotM n nw law n 0 0 lies 0 x :=
  lot_eq hnw hn n 0 0 0 lies 0 x (by omega) (by decide) (lft_0 _ _) hl (RL_0 law)
theorem lots_bound {n : Nat} {nw : Nat → Int32} {law : Int32} : ∀ (j i : Nat) (s : Int32) (l mi : Nat) (x : Int32), 0 ≤ x → 0 ≤ (lotM n nw law j i s l mi x).2
  | 0, _, _, _, _, _, h => h
  | j + 1, i, s, l, mi, x, _ => by
    have h2 : 0 ≤ drM x := by
      obtain ⟨k, hk, e⟩ := drM_n x
      rw [e]; exact nI_pos' hk
    rw [lotM]
    split
    · exact lots_bound j (i + 1) _ _ _ _ h2
    · exact lots_bound j (i + 1) _ _ _ _ h2
theorem sh8_u : ∀ i : Fin 8, ((8 * nI i.val : Int32).toInt64.toUInt64 &&& Int64.toUInt64 63).toBitVec % 64 = BitVec.ofNat 64 (8 * i.val) := by decide +kernel
theorem sh8_s : ∀ i : Fin 8, ((8 * nI i.val : Int32).toInt64 &&& 63).toBitVec.smod 64 = BitVec.ofNat 64 (8 * i.val) := by decide +kernel
theorem b255 : ∀ j : Fin 64, (255#64).getLsbD j.val = decide (j.val < 8) := by decide +kernel
theorem b255' : ∀ j : Fin 32, (255#32).getLsbD j.val = decide (j.val < 8) := by decide +kernel
theorem byt_eq (w : Int64) {i : Nat} (hi : i < 8) : b64 w i = (byt w i).toInt64 := by
  apply Int64.toBitVec_inj.mp
  unfold b64 byt
  rw [Int64.toBitVec_and, Int64.toBitVec_shiftRight, sh8_s ⟨i, hi⟩, Int32.toBitVec_toInt64, Int32.toBitVec_and, Int64.toBitVec_toInt32, UInt64.toBitVec_toInt64, UInt64.toBitVec_shiftRight, sh8_u ⟨i, hi⟩, Int64.toBitVec_toUInt64]
  show (w.toBitVec.sshiftRight' (BitVec.ofNat 64 (8 * i))) &&& 255#64 = BitVec.signExtend 64 ((BitVec.signExtend 32 (w.toBitVec >>> (BitVec.ofNat 64 (8 * i)))) &&& 255#32)
  rw [BitVec.sshiftRight'_ofNat_eq_sshiftRight, BitVec.ushiftRight_eq', BitVec.toNat_ofNat, Nat.mod_eq_of_lt (show 8 * i < 2 ^ 64 by omega)]
  apply BitVec.eq_of_getLsbD_eq
  intro j hj
  rw [BitVec.getLsbD_and, b255 ⟨j, hj⟩, BitVec.getLsbD_signExtend]
  by_cases h8 : j < 8
  · simp only [h8, decide_true, Bool.and_true]
    rw [if_pos (by omega : j < 32), BitVec.getLsbD_and, b255' ⟨j, by omega⟩, BitVec.getLsbD_signExtend, if_pos (by omega : j < 64), BitVec.getLsbD_sshiftRight, if_pos (by omega), BitVec.getLsbD_ushiftRight]
    simp [h8, hj]
    rw [decide_eq_false (by omega : ¬ 64 ≤ j), decide_eq_true (by omega : j < 32)]
    rfl
  · simp only [h8, decide_false, Bool.and_false]
    by_cases h32 : j < 32
    · rw [if_pos h32, BitVec.getLsbD_and, b255' ⟨j, h32⟩]
      simp [h8]
    · rw [if_neg h32]
      have : (BitVec.signExtend 32 (w.toBitVec >>> (8 * i)) &&& 255#32).msb = false := by
        rw [BitVec.msb_eq_getLsbD_last, BitVec.getLsbD_and, b255' ⟨31, by decide⟩]
        simp
      rw [this]; simp
theorem tb_same (w : Int64) : ∀ (j i : Nat) (g : Bool), i + j ≤ 8 → tbM w j i g = (g && tbA w j i)
  | 0, _, g, _ => by rw [tbM, tbA, Bool.and_true]
  | j + 1, i, g, h => by
    rw [tbM, tbA, tb_same w j (i + 1) _ (by omega), byt_eq w (by omega), ← in64_w, Bool.and_assoc]
    rfl
theorem ap_same (w : Int64) : ∀ (r : Nat) (f : Nat → Int32) (m : Nat), r ≤ 8 → apM w r f m = apn w r f m
  | 0, _, _, _ => rfl
  | r + 1, f, m, h => by rw [apM, apn, byt_eq w (by omega), Int32.toInt32_toInt64, ap_same w r _ _ (by omega)]
theorem ar_eq (w t l k : Int32) : (arW w t l && isW k 0 9) = arM w t l k := by
  have e : decide (w >>> 28 = 0) = isW w 0 268435455 := by
    rw [Bool.eq_iff_iff, decide_eq_true_eq, isW_i, show (28 : Int32) = nI 28 &&& 31 from rfl, sshr_0 w (by decide), un_toInt w]
    have := un_lt w
    rw [show (0 : Int32).toInt = 0 from rfl, show (268435455 : Int32).toInt = 268435455 from rfl]
    split <;> omega
  unfold arW arM
  rw [e]
  cases isW w 0 268435455 <;> cases decide (t &&& (w ^^^ (-1)) = 0) <;> cases decide (l &&& (w ^^^ (-1)) = 0) <;> cases decide (t &&& l = 0) <;> rfl
theorem se_eq (w v : Int32) : (!decide (w = 3) && isSe w v) = seOM w v := by
  unfold isSe seOM
  by_cases w0 : w = 0
  · subst w0; rfl
  by_cases w1 : w = 1
  · subst w1; rfl
  by_cases w2 : w = 2
  · subst w2; rfl
  rw [if_neg w0, if_neg w1, if_neg w2]
  have e : isW w 0 2 = false := by
    rw [← Bool.not_eq_true, isW_i, i32_lit.1, i32_lit.2.2.1]
    have h : ∀ k : Int32, ¬ w = k → w.toInt ≠ k.toInt := fun k hk he => hk (Int32.toInt_inj.mp he)
    have h0 := h 0 w0
    have h1 := h 1 w1
    have h2 := h 2 w2
    rw [i32_lit.1] at h0
    rw [i32_lit.2.1] at h1
    rw [i32_lit.2.2.1] at h2
    omega
  rw [e, Bool.false_and]
  by_cases w3 : w = 3
  · rw [decide_eq_true w3]; rfl
  · rw [if_neg w3, Bool.and_false]
theorem se3_eq (v : Int32) : isSe 3 v = decide (0 ≤ v) := by
  show isW v 0 2147483647 = _
  unfold isW
  have : decide (v ≤ 2147483647) = true := by
    rw [decide_eq_true_eq, Int32.le_iff_toInt_le, show (2147483647 : Int32).toInt = 2147483647 from rfl]
    have := (fb_rng' v).2
    omega
  rw [this, Bool.and_true]
theorem dy_eq {n : Nat} (hn : n ≤ 28) (i : Int32) : (!decide (i < 0) && !decide (nI n ≤ i)) = isW i 0 (nI n - 1) := by
  rw [Bool.eq_iff_iff]
  simp only [Bool.and_eq_true, Bool.not_eq_true', decide_eq_false_iff_not, isW_i, Int32.lt_iff_toInt_lt, Int32.le_iff_toInt_le, i32_lit.1, nI_toInt (show n < 2 ^ 31 by omega)]
  have e : (nI n - 1).toInt = (n : Int) - 1 := by
    have : ∀ n : Fin 29, (nI n.val - 1).toInt = (n.val : Int) - 1 := by decide +kernel
    exact this ⟨n, by omega⟩
  rw [e]
  constructor
  · rintro ⟨a, b⟩; omega
  · rintro ⟨a, b⟩; omega
theorem th_day (a b c : Int32) : (isTh 0 a && (isTh 1 b && isTh 2 c)) = (isW a 0 1 && (isW b 0 99 && isW c 0 99)) := rfl
theorem th_of (w v : Int32) : isTh w v = (if w = 0 then isW v 0 1 else isW w 1 2 && isW v 0 99) := by
  unfold isTh
  by_cases w0 : w = 0
  · subst w0; rfl
  · rw [if_neg w0, if_neg w0]
    congr 1
    rw [Bool.eq_iff_iff, isW_i, isW_i, i32_lit.1, i32_lit.2.1, i32_lit.2.2.1]
    have h0 : w.toInt ≠ 0 := fun he => w0 (Int32.toInt_inj.mp he)
    omega
