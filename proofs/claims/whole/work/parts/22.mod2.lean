/-! THE REFERENCE: harm, trust, bets -/
def frM (n : Nat) (nw wo co : Nat → Int32) (trust : Int32) (g : Nat → Int32) (i l mi : Nat) (b : Bool) : Int32 := crt n nw wo co i b (nI l) trust + g (40 * (i + 1) + 4 * (if b then l - 1 else l) + mdM i mi b)
def myM (law : Int32) (nw : Nat → Int32) (i l mi : Nat) : Bool := decide (0 < l) && (decide (nw i = 0) && ltM law i mi)
def vaM (n : Nat) (nw wo co : Nat → Int32) (law trust : Int32) (g : Nat → Int32) (i l mi : Nat) : Int32 := mn (frM n nw wo co trust g i l mi false) (if myM law nw i l mi then frM n nw wo co trust g i l mi true else frM n nw wo co trust g i l mi false)
def mkE (n : Nat) : Nat → Nat → (Nat → Int32) → Nat → Int32
  | 0, _, g => g
  | j + 1, k, g => mkE n j (k + 1) (upd g (40 * n + k) 0)
def mkR (n : Nat) (nw wo co : Nat → Int32) (law trust : Int32) (i : Nat) : Nat → Nat → (Nat → Int32) → Nat → Int32
  | 0, _, g => g
  | j + 1, k, g => mkR n nw wo co law trust i j (k + 1) (upd g (40 * i + k) (vaM n nw wo co law trust g i (k / 4) (k % 4)))
def mkO (n : Nat) (nw wo co : Nat → Int32) (law trust : Int32) : Nat → (Nat → Int32) → Nat → Int32
  | 0, g => g
  | m + 1, g => mkO n nw wo co law trust m (mkR n nw wo co law trust m 40 0 g)
def mk (n : Nat) (nw wo co : Nat → Int32) (law trust : Int32) (g : Nat → Int32) : Nat → Int32 := mkO n nw wo co law trust n (mkE n 40 0 g)
def mkF (n : Nat) (nw wo co : Nat → Int32) (law trust : Int32) (g : Nat → Int32) : Prop :=
  (∀ k, k < 40 → g (40 * n + k) = 0) ∧ ∀ i, i < n → ∀ k, k < 40 → g (40 * i + k) = vaM n nw wo co law trust g i (k / 4) (k % 4)
theorem mkE_out {n : Nat} : ∀ (j l : Nat) (g : Nat → Int32) (q : Nat), (∀ l2, l ≤ l2 → l2 < l + j → q ≠ 40 * n + l2) → mkE n j l g q = g q
  | 0, _, _, _, _ => rfl
  | j + 1, l, g, q, h => by
    rw [mkE, mkE_out j (l + 1) _ q (fun l2 h1 h2 => h l2 (by omega) (by omega))]
    simp only [upd]; rw [if_neg (h l (by omega) (by omega))]
theorem mkE_in {n : Nat} : ∀ (j l : Nat) (g : Nat → Int32) (l2 : Nat), l ≤ l2 → l2 < l + j → mkE n j l g (40 * n + l2) = 0
  | 0, _, _, _, h1, h2 => by omega
  | j + 1, l, g, l2, h1, h2 => by
    rw [mkE]
    rcases Nat.lt_or_ge l l2 with q | q
    · exact mkE_in j (l + 1) _ l2 (by omega) (by omega)
    · have : l2 = l := by omega
      subst this
      rw [mkE_out j (l2 + 1) _ _ (fun l3 h3 h4 => by omega)]
      simp [upd]
section MF
variable {n : Nat} {nw wo co : Nat → Int32} {law trust : Int32}
/-- row i looks at row i + 1 alone -/
theorem vaM_congr {g g2 : Nat → Int32} {i k : Nat} (hk : k < 40) (h : ∀ q, q < 40 → g (40 * (i + 1) + q) = g2 (40 * (i + 1) + q)) : vaM n nw wo co law trust g i (k / 4) (k % 4) = vaM n nw wo co law trust g2 i (k / 4) (k % 4) := by
  have e : ∀ b, frM n nw wo co trust g i (k / 4) (k % 4) b = frM n nw wo co trust g2 i (k / 4) (k % 4) b := by
    intro b
    have hm := mdM_le i (k % 4) b
    simp only [frM]
    rw [show 40 * (i + 1) + 4 * (if b then k / 4 - 1 else k / 4) + mdM i (k % 4) b = 40 * (i + 1) + (4 * (if b then k / 4 - 1 else k / 4) + mdM i (k % 4) b) by omega]
    rw [h _ (by split <;> omega)]
  simp only [vaM, e]
theorem mkR_out {i : Nat} : ∀ (j l : Nat) (g : Nat → Int32) (q : Nat), (∀ l2, l ≤ l2 → l2 < l + j → q ≠ 40 * i + l2) → mkR n nw wo co law trust i j l g q = g q
  | 0, _, _, _, _ => rfl
  | j + 1, l, g, q, h => by
    rw [mkR, mkR_out j (l + 1) _ q (fun l2 h1 h2 => h l2 (by omega) (by omega))]
    simp only [upd]; rw [if_neg (h l (by omega) (by omega))]
theorem mkR_in {i : Nat} : ∀ (j l : Nat) (g : Nat → Int32) (l2 : Nat), l + j ≤ 40 → l ≤ l2 → l2 < l + j → mkR n nw wo co law trust i j l g (40 * i + l2) = vaM n nw wo co law trust g i (l2 / 4) (l2 % 4)
  | 0, _, _, _, _, h1, h2 => by omega
  | j + 1, l, g, l2, hj, h1, h2 => by
    rw [mkR]
    rcases Nat.lt_or_ge l l2 with q | q
    · rw [mkR_in j (l + 1) _ l2 (by omega) (by omega) (by omega)]
      exact vaM_congr (by omega) (fun q hq => by simp only [upd]; rw [if_neg (by omega)])
    · have : l2 = l := by omega
      subst this
      rw [mkR_out j (l2 + 1) _ _ (fun l3 h3 h4 => by omega)]
      simp [upd]
theorem mkO_out : ∀ (m : Nat) (g : Nat → Int32) (q : Nat), 40 * m ≤ q → mkO n nw wo co law trust m g q = g q
  | 0, _, _, _ => rfl
  | m + 1, g, q, h => by
    rw [mkO, mkO_out m _ q (by omega), mkR_out _ _ _ _ (fun l2 h1 h2 => by omega)]
theorem mkO_in : ∀ (m : Nat) (g : Nat → Int32), ∀ i, i < m → ∀ l, l < 40 → mkO n nw wo co law trust m g (40 * i + l) = vaM n nw wo co law trust (mkO n nw wo co law trust m g) i (l / 4) (l % 4)
  | 0, _, i, hi, _, _ => by omega
  | m + 1, g, i, hi, l, hll => by
    rw [mkO]
    rcases Nat.lt_or_ge i m with q | q
    · exact mkO_in m _ i q l hll
    · have : i = m := by omega
      subst this
      rw [mkO_out i _ _ (by omega), mkR_in _ _ _ _ (by omega) (by omega) (by omega)]
      exact vaM_congr hll (fun q hq => by rw [mkO_out _ _ _ (by omega), mkR_out _ _ _ _ (fun l2 h1 h2 => by omega)])
theorem mk_F (g : Nat → Int32) : mkF n nw wo co law trust (mk n nw wo co law trust g) := by
  refine ⟨fun l hll => ?_, fun i hi l hll => mkO_in n _ i hi l hll⟩
  rw [mk, mkO_out n _ _ (by omega), mkE_in _ _ _ _ (by omega) (by omega)]
end MF
def wsM (n : Nat) (nw wo co : Nat → Int32) (trust : Int32) (g : Nat → Int32) : Nat → Nat → Nat → Nat → Int32 → Int32
  | 0, _, _, _, s => s
  | j + 1, i, l, mi, s => if g (40 * i + 4 * l + mi) < frM n nw wo co trust g i l mi false then wsM n nw wo co trust g j (i + 1) (l - 1) (mdM i mi true) (s ||| b1 i) else wsM n nw wo co trust g j (i + 1) l (mdM i mi false) s
def bmV (n : Nat) (nw wo co : Nat → Int32) (law : Int32) (lies : Nat) : Nat → Nat → Int32 → Int32 → (Nat → Int32) → Int32 × (Nat → Int32)
  | 0, _, b, _, g => (b, g)
  | j + 1, t, b, mo, g => if t = 0 ∨ mo < mk n nw wo co law (nI t) g (4 * lies) then bmV n nw wo co law lies j (t + 1) (nI t) (mk n nw wo co law (nI t) g (4 * lies)) (mk n nw wo co law (nI t) g) else bmV n nw wo co law lies j (t + 1) b mo (mk n nw wo co law (nI t) g)
theorem upd_same (f : Nat → Int32) (k : Nat) (x : Int32) : upd f k x k = x := by simp [upd]
theorem upd_ne (f : Nat → Int32) {k j : Nat} (x : Int32) (h : j ≠ k) : upd f k x j = f j := by simp [upd, h]
theorem upd_back (f : Nat → Int32) (k : Nat) (x : Int32) : upd (upd f k x) k (f k) = f := by funext q; by_cases hq : q = k <;> simp [upd, hq]
theorem upd_upd (f : Nat → Int32) (k : Nat) (x y : Int32) : upd (upd f k x) k y = upd f k y := by funext q; by_cases hq : q = k <;> simp [upd, hq]
theorem rN_set {h : List sm_C} {n : Nat} {nw wo co se a : Nat → Int32} (hN : rN h n nw wo co se a) {i : Nat} (hi : i < 4) (v : Int32) : rN (h.set 1 (hI 89 (upd a i v))) n nw wo co (upd se i v) (upd a i v) := by
  obtain ⟨m1, hn, h4, ⟨s0, s1, s2, s3⟩, hf⟩ := hN
  refine ⟨sm_h_eq m1, hn, by rw [upd_ne _ _ (by omega)]; exact h4, ?_, fun j hj => ?_⟩
  · have key : ∀ q, q < 4 → a q = se q := by
      intro q hq
      match q, hq with
      | 0, _ => exact s0
      | 1, _ => exact s1
      | 2, _ => exact s2
      | 3, _ => exact s3
    have k2 : ∀ q, q < 4 → upd a i v q = upd se i v q := by
      intro q hq
      by_cases e : q = i
      · subst e; rw [upd_same, upd_same]
      · rw [upd_ne _ _ e, upd_ne _ _ e]; exact key q hq
    exact ⟨k2 0 (by omega), k2 1 (by omega), k2 2 (by omega), k2 3 (by omega)⟩
  · rw [upd_ne _ _ (by omega), upd_ne _ _ (by omega), upd_ne _ _ (by omega)]
    exact hf j hj
theorem rN_oth {h : List sm_C} {n : Nat} {nw wo co se a : Nat → Int32} (hN : rN h n nw wo co se a) {q : Nat} {x : sm_C} (hq : q ≠ 1) : rN (h.set q x) n nw wo co se a := ⟨by rw [List.getElem?_set_ne hq]; exact hN.1, hN.2⟩
theorem m0_oth {h : List sm_C} {x y : sm_C} {q : Nat} (h0 : h[0]? = some x) (hq : q ≠ 0) : (h.set q y)[0]? = some x := by rw [List.getElem?_set_ne hq]; exact h0
section M2
variable {d : Nat} {h : List sm_C} {ik td at_ sz rd : Int32} {n : Nat} {nw wo co se a t : Nat → Int32}
theorem bs_X8_place {i l mi : Nat} : BS (d + 1) false yX8_place [.ref 0, .int (nI i), .int (nI l), .int (nI mi)] h (some (.int (nI (40 * i + 4 * l + mi)))) h := by
  have e1 : (40 : Int32) * nI i = nI (40 * i) := pk_mul 40 i
  have e2 : (4 : Int32) * nI l = nI (4 * l) := pk_mul 4 l
  refine bs_of mtX8_place rfl (Nat.le_of_ble_eq_true rfl) (fun K R RV RS E => ?_)
  show K 0 [_, _, _, _] [] _
  refine rl_bipush (pc := 0) R dX8_place_0 bc_40 ?_
  refine rl_iload_n (pc := 2) R dX8_place_2 rfl ?_
  refine rl_imul (pc := 3) R dX8_place_3 ?_
  rw [e1]
  refine rl_iconst (pc := 4) R dX8_place_4 ic_4 ?_
  refine rl_iload_n (pc := 5) R dX8_place_5 rfl ?_
  refine rl_imul (pc := 6) R dX8_place_6 ?_
  rw [e2]
  refine rl_iadd (pc := 7) R dX8_place_7 ?_
  rw [nI_add]
  refine rl_iload_n (pc := 8) R dX8_place_8 rfl ?_
  refine rl_iadd (pc := 9) R dX8_place_9 ?_
  rw [nI_add]
  exact rl_ireturn (pc := 10) E dX8_place_10 rfl rfl (rfl)
theorem bs_X8_from {i l mi : Nat} {b : Bool} (m0 : h[0]? = some (mO ik td at_ sz rd)) (hN : rN h n nw wo co se a) (m8 : h[8]? = some (hI 1160 t)) (hi : i < n) (hl : l < 10) (hm : mi ≤ 3) (hb : b = true → 0 < l) : BS (d + 3) false yX8_from [.ref 0, .int (nI i), .int (nI l), .int (nI mi), .int (bI b)] h (some (.int (frM n nw wo co (se 2) t i l mi b))) h := by
  have hn := hN.2.1
  have hmd := mdM_le i mi b
  refine bs_of mtX8_from rfl (Nat.le_of_ble_eq_true rfl) (fun K R RV RS E => ?_)
  show K 0 [_, _, _, _, _] [] _
  have fin : ∀ l2 : Nat, l2 = (if b then l - 1 else l) → K 28 [some (.ref 0), some (.int (nI i)), some (.int (nI l)), some (.int (nI mi)), some (.int (bI b))] [.int (nI l2), .int (nI (i + 1)), .ref 0, .ref 8, .int (crt n nw wo co i b (nI l) (se 2))] h := by
    intro l2 hl2
    have hl3 : l2 < 10 := by rw [hl2]; split <;> omega
    refine rl_iload_n (pc := 28) R dX8_from_28 rfl ?_
    refine rl_iload_n (pc := 29) R dX8_from_29 rfl ?_
    refine rl_iload (pc := 30) R dX8_from_30 rfl ?_
    refine rl_S3 (pc := 32) RS dX8_from_32 lkX8_105 (Nat.le_of_ble_eq_true rfl) (bs_X8_minds (by omega) hm) ?_
    refine rl_V3 (pc := 35) RV dX8_from_35 lkX8_133 m0 rfl (Nat.le_of_ble_eq_true rfl) (bs_X8_place) ?_
    refine rl_iald (pc := 38) R dX8_from_38 m8 rfl (by omega) (by decide) ?_
    refine rl_iadd (pc := 39) R dX8_from_39 ?_
    exact rl_ireturn (pc := 40) E dX8_from_40 rfl rfl (e_si (by rw [frM, hl2]))
  refine rl_aload_n (pc := 0) R dX8_from_0 rfl ?_
  refine rl_iload_n (pc := 1) R dX8_from_1 rfl ?_
  refine rl_iload_n (pc := 2) R dX8_from_2 rfl ?_
  refine rl_iload (pc := 3) R dX8_from_3 rfl ?_
  refine rl_V3 (pc := 5) RV dX8_from_5 lkX8_125 m0 rfl (Nat.le_of_ble_eq_true rfl) (bs_X8_brings m0 hN hi) ?_
  refine rl_aload_n (pc := 8) R dX8_from_8 rfl ?_
  refine rl_getf (pc := 9) R dX8_from_9 fkX8_31 (by first | assumption | rfl) rfl ?_
  refine rl_aload_n (pc := 12) R dX8_from_12 rfl ?_
  refine rl_iload_n (pc := 13) R dX8_from_13 rfl ?_
  refine rl_iconst (pc := 14) R dX8_from_14 ic_1 ?_
  refine rl_iadd (pc := 15) R dX8_from_15 ?_
  rw [nI_1]
  refine rl_iload (pc := 16) R dX8_from_16 rfl ?_
  refine rl_if_eq (pc := 18) (tgt := 27) R dX8_from_18 rfl (fun c18 => ?_) (fun c18 => ?_)
  · rw [bI_0] at c18
    refine rl_iload_n (pc := 27) R dX8_from_27 rfl ?_
    first | exact fin l (by rw [c18]; rfl) | exact fin l1 (by rw [c18]; rfl)
  · rw [bI_n0] at c18
    obtain ⟨l1, rfl⟩ : ∃ l1, l = l1 + 1 := ⟨l - 1, by have := hb c18; omega⟩
    refine rl_iload_n (pc := 21) R dX8_from_21 rfl ?_
    refine rl_iconst (pc := 22) R dX8_from_22 ic_1 ?_
    refine rl_isub (pc := 23) R dX8_from_23 ?_
    rw [nI_pred]
    refine rl_goto (pc := 24) (tgt := 28) R dX8_from_24 rfl ?_
    first | exact fin l (by rw [c18]; rfl) | exact fin l1 (by rw [c18]; rfl)
theorem bs_X8_mayLie {i l mi : Nat} (m0 : h[0]? = some (mO ik td at_ sz rd)) (hN : rN h n nw wo co se a) (hi : i < n) (hl : l < 1000) (hm : mi ≤ 3) : BS (d + 2) false yX8_mayLie [.ref 0, .int (nI i), .int (nI l), .int (nI mi)] h (some (.int (bI (myM (se 1) nw i l mi)))) h := by
  obtain ⟨m1, hn, h4, ⟨s0, s1, s2, s3⟩, hf⟩ := hN
  refine bs_of mtX8_mayLie rfl (Nat.le_of_ble_eq_true rfl) (fun K R RV RS E => ?_)
  show K 0 [_, _, _, _] [] _
  refine rl_iload_n (pc := 0) R dX8_mayLie_0 rfl ?_
  refine rl_if_le (pc := 1) (tgt := 33) R dX8_mayLie_1 rfl (fun c1 => ?_) (fun c1 => ?_)
  · have e1 : ¬ 0 < l := fun z => absurd c1 (nI_nle z (by omega))
    refine rl_iconst (pc := 33) R dX8_mayLie_33 ic_0 ?_
    exact rl_ireturn (pc := 34) E dX8_mayLie_34 rfl rfl (e_si (by rw [myM]; first | (rw [decide_eq_false e1]; rfl) | (rw [decide_eq_true e1, decide_eq_false c12]; rfl) | (rw [decide_eq_true e1, decide_eq_true c12, c26]; rfl)))
  · have e1 : 0 < l := (nI_ltI (a := 0) (by decide) (by omega)).mp (Int32.not_le.mp c1)
    refine rl_aload_n (pc := 4) R dX8_mayLie_4 rfl ?_
    refine rl_getf (pc := 5) R dX8_mayLie_5 fkX8_7 (by first | assumption | rfl) rfl ?_
    refine rl_iconst (pc := 8) R dX8_mayLie_8 ic_5 ?_
    refine rl_iload_n (pc := 9) R dX8_mayLie_9 rfl ?_
    refine rl_iadd (pc := 10) R dX8_mayLie_10 ?_
    refine rl_iald (pc := 11) R dX8_mayLie_11 m1 (nI_add 5 i) (by omega) (by decide) ?_
    rw [(hf i hi).1]
    refine rl_if_ne (pc := 12) (tgt := 33) R dX8_mayLie_12 rfl (fun c12 => ?_) (fun c12 => ?_)
    · refine rl_iconst (pc := 33) R dX8_mayLie_33 ic_0 ?_
      exact rl_ireturn (pc := 34) E dX8_mayLie_34 rfl rfl (e_si (by rw [myM]; first | (rw [decide_eq_false e1]; rfl) | (rw [decide_eq_true e1, decide_eq_false c12]; rfl) | (rw [decide_eq_true e1, decide_eq_true c12, c26]; rfl)))
    · refine rl_aload_n (pc := 15) R dX8_mayLie_15 rfl ?_
      refine rl_getf (pc := 16) R dX8_mayLie_16 fkX8_7 (by first | assumption | rfl) rfl ?_
      refine rl_iconst (pc := 19) R dX8_mayLie_19 ic_1 ?_
      refine rl_iald (pc := 20) R dX8_mayLie_20 m1 (rfl : (1 : Int32) = nI 1) (by decide) (by decide) ?_
      rw [s1]
      refine rl_iload_n (pc := 21) R dX8_mayLie_21 rfl ?_
      refine rl_iload_n (pc := 22) R dX8_mayLie_22 rfl ?_
      refine rl_S3 (pc := 23) RS dX8_mayLie_23 lkX8_115 (Nat.le_of_ble_eq_true rfl) (bs_X8_lets (by omega) hm) ?_
      refine rl_if_eq (pc := 26) (tgt := 33) R dX8_mayLie_26 rfl (fun c26 => ?_) (fun c26 => ?_)
      · rw [bI_0] at c26
        refine rl_iconst (pc := 33) R dX8_mayLie_33 ic_0 ?_
        exact rl_ireturn (pc := 34) E dX8_mayLie_34 rfl rfl (e_si (by rw [myM]; first | (rw [decide_eq_false e1]; rfl) | (rw [decide_eq_true e1, decide_eq_false c12]; rfl) | (rw [decide_eq_true e1, decide_eq_true c12, c26]; rfl)))
      · rw [bI_n0] at c26
        refine rl_iconst (pc := 29) R dX8_mayLie_29 ic_1 ?_
        refine rl_goto (pc := 30) (tgt := 34) R dX8_mayLie_30 rfl ?_
        exact rl_ireturn (pc := 34) E dX8_mayLie_34 rfl rfl (e_si (by rw [myM]; first | (rw [decide_eq_false e1]; rfl) | (rw [decide_eq_true e1, decide_eq_false c12]; rfl) | (rw [decide_eq_true e1, decide_eq_true c12, c26]; rfl)))
theorem bs_X8_harmNow {lies : Nat} (m0 : h[0]? = some (mO ik td at_ sz rd)) (hN : rN h n nw wo co se a) (m8 : h[8]? = some (hI 1160 t)) (hl : lies ≤ 9) (he : se 0 = nI lies) : BS (d + 4) false yX8_harmNow [.ref 0] h (some (.int (mk n nw wo co (se 1) (se 2) t (4 * lies)))) (h.set 8 (hI 1160 (mk n nw wo co (se 1) (se 2) t))) := by
  have hn := hN.2.1
  have h4 := hN.2.2.1
  have s0 := hN.2.2.2.1.1
  have M0 : ∀ g : Nat → Int32, (h.set 8 (hI 1160 g))[0]? = some (mO ik td at_ sz rd) := fun g => m0_oth m0 (by decide)
  have N0 : ∀ g : Nat → Int32, rN (h.set 8 (hI 1160 g)) n nw wo co se a := fun g => rN_oth hN (by decide)
  have M8 : ∀ g : Nat → Int32, (h.set 8 (hI 1160 g))[8]? = some (hI 1160 g) := fun g => sm_h_eq m8
  refine bs_of mtX8_harmNow rfl (Nat.le_of_ble_eq_true rfl) (fun K R RV RS E => ?_)
  show K 0 [_, _, _, _, _] [] _
  have outer : ∀ (m : Nat) (g : Nat → Int32) (z2 z3 z4 : Option Value), m ≤ n → mkO n nw wo co (se 1) (se 2) m g = mk n nw wo co (se 1) (se 2) t → K 40 [some (.ref 0), some (.int (pm m)), z2, z3, z4] [] (h.set 8 (hI 1160 g)) := by
    intro m
    induction m with
    | zero =>
      intro g z2 z3 z4 hm hg
      have e2 : g = mk n nw wo co (se 1) (se 2) t := hg
      subst e2
      have a0 := M0 (mk n nw wo co (se 1) (se 2) t)
      have n0 := N0 (mk n nw wo co (se 1) (se 2) t)
      have a8 := M8 (mk n nw wo co (se 1) (se 2) t)
      refine rl_iload_n (pc := 40) R dX8_harmNow_40 rfl ?_
      refine rl_if_lt (pc := 41) (tgt := 132) R dX8_harmNow_41 rfl (fun c41 => ?_) (fun c41 => absurd (by decide) c41)
      refine rl_aload_n (pc := 132) R dX8_harmNow_132 rfl ?_
      refine rl_getf (pc := 133) R dX8_harmNow_133 fkX8_31 a0 rfl ?_
      refine rl_aload_n (pc := 136) R dX8_harmNow_136 rfl ?_
      refine rl_iconst (pc := 137) R dX8_harmNow_137 ic_0 ?_
      refine rl_aload_n (pc := 138) R dX8_harmNow_138 rfl ?_
      refine rl_getf (pc := 139) R dX8_harmNow_139 fkX8_7 a0 rfl ?_
      refine rl_iconst (pc := 142) R dX8_harmNow_142 ic_0 ?_
      refine rl_iald (pc := 143) R dX8_harmNow_143 n0.1 (rfl : (0 : Int32) = nI 0) (by decide) (by decide) ?_
      rw [s0, he]
      refine rl_iconst (pc := 144) R dX8_harmNow_144 ic_0 ?_
      refine rl_V3 (pc := 145) RV dX8_harmNow_145 lkX8_133 a0 rfl (Nat.le_of_ble_eq_true rfl) (bs_X8_place (i := 0) (mi := 0)) ?_
      refine rl_iald (pc := 148) R dX8_harmNow_148 a8 rfl (by omega) (by decide) ?_
      exact rl_ireturn (pc := 149) E dX8_harmNow_149 rfl rfl (e_si (by rw [show 40 * 0 + 4 * lies + 0 = 4 * lies by omega]))
    | succ m ih =>
      intro g z2 z3 z4 hm hg
      have inner : ∀ (j k : Nat) (g2 : Nat → Int32) (z3 z4 : Option Value), k + j = 40 → mkR n nw wo co (se 1) (se 2) m j k g2 = mkR n nw wo co (se 1) (se 2) m 40 0 g → K 46 [some (.ref 0), some (.int (nI m)), some (.int (nI k)), z3, z4] [] (h.set 8 (hI 1160 g2)) := by
        intro j
        induction j with
        | zero =>
          intro k g2 z3 z4 hk hg2
          refine rl_iload_n (pc := 46) R dX8_harmNow_46 rfl ?_
          refine rl_bipush (pc := 47) R dX8_harmNow_47 bc_40 ?_
          refine rl_icmp_ge (pc := 49) (tgt := 126) R dX8_harmNow_49 rfl (fun c49 => ?_) (fun c49 => absurd (nI_le (a := 40) (by omega) (by omega)) c49)
          refine rl_iinc (pc := 126) R dX8_harmNow_126 rfl (pm_dec m) rfl ?_
          show K _ [_, _, _, _, _] _ _
          refine rl_goto (pc := 129) (tgt := 40) R dX8_harmNow_129 rfl (ih g2 _ _ _ (by omega) (by rw [← hg]; show mkO n nw wo co (se 1) (se 2) m g2 = mkO n nw wo co (se 1) (se 2) m _; rw [← hg2]; rfl))
        | succ j ih2 =>
          intro k g2 z3 z4 hk hg2
          have a0 := M0 g2
          have n0 := N0 g2
          have a8 := M8 g2
          have d4 : nI k / 4 = nI (k / 4) := pk_div (d := 4) (by omega) (by decide) (by decide)
          have r4 : nI k - nI k / 4 * 4 = nI (k % 4) := pk_rem (d := 4) (by omega) (by decide) (by decide)
          have e1 : (40 : Int32) * nI m = nI (40 * m) := pk_mul 40 m
          have last : ∀ x : Int32, x = vaM n nw wo co (se 1) (se 2) g2 m (k / 4) (k % 4) → ∀ z3 z4 : Option Value, K 119 [some (.ref 0), some (.int (nI m)), some (.int (nI k)), z3, z4] [.int x, .int (nI (40 * m + k)), .ref 8] (h.set 8 (hI 1160 g2)) := by
            intro x hxx z3 z4
            refine rl_iast (pc := 119) R dX8_harmNow_119 a8 rfl (by omega) (by decide) ?_
            rw [List.set_set]
            refine rl_iinc (pc := 120) R dX8_harmNow_120 rfl (ii_n k) rfl ?_
            show K _ [_, _, _, _, _] _ _
            refine rl_goto (pc := 123) (tgt := 46) R dX8_harmNow_123 rfl (ih2 (k + 1) _ _ _ (by omega) (by rw [← hg2, hxx]; rfl))
          have mid : ∀ y : Int32, y = (if myM (se 1) nw m (k / 4) (k % 4) then frM n nw wo co (se 2) g2 m (k / 4) (k % 4) true else frM n nw wo co (se 2) g2 m (k / 4) (k % 4) false) → ∀ z4 : Option Value, K 95 [some (.ref 0), some (.int (nI m)), some (.int (nI k)), some (.int (frM n nw wo co (se 2) g2 m (k / 4) (k % 4) false)), z4] [.int y] (h.set 8 (hI 1160 g2)) := by
            intro y hy z4
            refine rl_istore (pc := 95) R dX8_harmNow_95 (Nat.le_of_ble_eq_true rfl) rfl ?_
            show K _ [_, _, _, _, _] _ _
            refine rl_aload_n (pc := 97) R dX8_harmNow_97 rfl ?_
            refine rl_getf (pc := 98) R dX8_harmNow_98 fkX8_31 a0 rfl ?_
            refine rl_bipush (pc := 101) R dX8_harmNow_101 bc_40 ?_
            refine rl_iload_n (pc := 103) R dX8_harmNow_103 rfl ?_
            refine rl_imul (pc := 104) R dX8_harmNow_104 ?_
            rw [e1]
            refine rl_iload_n (pc := 105) R dX8_harmNow_105 rfl ?_
            refine rl_iadd (pc := 106) R dX8_harmNow_106 ?_
            rw [nI_add]
            refine rl_iload (pc := 107) R dX8_harmNow_107 rfl ?_
            refine rl_iload_n (pc := 109) R dX8_harmNow_109 rfl ?_
            refine rl_icmp_ge (pc := 110) (tgt := 118) R dX8_harmNow_110 rfl (fun c110 => ?_) (fun c110 => ?_)
            · refine rl_iload_n (pc := 118) R dX8_harmNow_118 rfl ?_
              first | exact last y (by rw [vaM, ← hy, mn, if_pos (Int32.not_le.mp c110)]) _ _ | exact last _ (by rw [vaM, ← hy, mn, if_neg (Int32.not_lt.mpr c110)]) _ _
            · refine rl_iload (pc := 113) R dX8_harmNow_113 rfl ?_
              refine rl_goto (pc := 115) (tgt := 119) R dX8_harmNow_115 rfl ?_
              first | exact last y (by rw [vaM, ← hy, mn, if_pos (Int32.not_le.mp c110)]) _ _ | exact last _ (by rw [vaM, ← hy, mn, if_neg (Int32.not_lt.mpr c110)]) _ _
          refine rl_iload_n (pc := 46) R dX8_harmNow_46 rfl ?_
          refine rl_bipush (pc := 47) R dX8_harmNow_47 bc_40 ?_
          refine rl_icmp_ge (pc := 49) (tgt := 126) R dX8_harmNow_49 rfl (fun c49 => absurd c49 (nI_ge (b := 40) (by omega) (by omega))) (fun c49 => ?_)
          refine rl_aload_n (pc := 52) R dX8_harmNow_52 rfl ?_
          refine rl_iload_n (pc := 53) R dX8_harmNow_53 rfl ?_
          refine rl_iload_n (pc := 54) R dX8_harmNow_54 rfl ?_
          refine rl_iconst (pc := 55) R dX8_harmNow_55 ic_4 ?_
          refine rl_idiv (pc := 56) R dX8_harmNow_56 (by decide) ?_
          rw [d4]
          refine rl_iload_n (pc := 57) R dX8_harmNow_57 rfl ?_
          refine rl_iconst (pc := 58) R dX8_harmNow_58 ic_4 ?_
          refine rl_irem (pc := 59) R dX8_harmNow_59 (by decide) ?_
          rw [r4]
          refine rl_iconst (pc := 60) R dX8_harmNow_60 ic_0 ?_
          refine rl_V4 (pc := 61) RV dX8_harmNow_61 lkX8_137 a0 rfl (Nat.le_of_ble_eq_true rfl) (bs_X8_from (b := false) a0 n0 a8 (by omega) (by omega) (by omega) (fun z => by cases z)) ?_
          refine rl_istore_n (pc := 64) R dX8_harmNow_64 (Nat.le_of_ble_eq_true rfl) rfl ?_
          show K _ [_, _, _, _, _] _ _
          refine rl_aload_n (pc := 65) R dX8_harmNow_65 rfl ?_
          refine rl_iload_n (pc := 66) R dX8_harmNow_66 rfl ?_
          refine rl_iload_n (pc := 67) R dX8_harmNow_67 rfl ?_
          refine rl_iconst (pc := 68) R dX8_harmNow_68 ic_4 ?_
          refine rl_idiv (pc := 69) R dX8_harmNow_69 (by decide) ?_
          rw [d4]
          refine rl_iload_n (pc := 70) R dX8_harmNow_70 rfl ?_
          refine rl_iconst (pc := 71) R dX8_harmNow_71 ic_4 ?_
          refine rl_irem (pc := 72) R dX8_harmNow_72 (by decide) ?_
          rw [r4]
          refine rl_V3 (pc := 73) RV dX8_harmNow_73 lkX8_141 a0 rfl (Nat.le_of_ble_eq_true rfl) (bs_X8_mayLie a0 n0 (by omega) (by omega) (by omega)) ?_
          refine rl_if_eq (pc := 76) (tgt := 94) R dX8_harmNow_76 rfl (fun c76 => ?_) (fun c76 => ?_)
          · rw [bI_0] at c76
            refine rl_iload_n (pc := 94) R dX8_harmNow_94 rfl ?_
            first | exact mid _ (by rw [c76]; rfl) _ | exact mid _ (by rw [c76]; rfl) _
          · rw [bI_n0] at c76
            have hp : 0 < k / 4 := by simp only [myM, Bool.and_eq_true, decide_eq_true_eq] at c76; exact c76.1
            refine rl_aload_n (pc := 79) R dX8_harmNow_79 rfl ?_
            refine rl_iload_n (pc := 80) R dX8_harmNow_80 rfl ?_
            refine rl_iload_n (pc := 81) R dX8_harmNow_81 rfl ?_
            refine rl_iconst (pc := 82) R dX8_harmNow_82 ic_4 ?_
            refine rl_idiv (pc := 83) R dX8_harmNow_83 (by decide) ?_
            rw [d4]
            refine rl_iload_n (pc := 84) R dX8_harmNow_84 rfl ?_
            refine rl_iconst (pc := 85) R dX8_harmNow_85 ic_4 ?_
            refine rl_irem (pc := 86) R dX8_harmNow_86 (by decide) ?_
            rw [r4]
            refine rl_iconst (pc := 87) R dX8_harmNow_87 ic_1 ?_
            refine rl_V4 (pc := 88) RV dX8_harmNow_88 lkX8_137 a0 rfl (Nat.le_of_ble_eq_true rfl) (bs_X8_from (b := true) a0 n0 a8 (by omega) (by omega) (by omega) (fun _ => hp)) ?_
            refine rl_goto (pc := 91) (tgt := 95) R dX8_harmNow_91 rfl ?_
            first | exact mid _ (by rw [c76]; rfl) _ | exact mid _ (by rw [c76]; rfl) _
      refine rl_iload_n (pc := 40) R dX8_harmNow_40 rfl ?_
      refine rl_if_lt (pc := 41) (tgt := 132) R dX8_harmNow_41 rfl (fun c41 => absurd c41 (nI_pos (by omega))) (fun c41 => ?_)
      refine rl_iconst (pc := 44) R dX8_harmNow_44 ic_0 ?_
      refine rl_istore_n (pc := 45) R dX8_harmNow_45 (Nat.le_of_ble_eq_true rfl) rfl ?_
      show K _ [_, _, _, _, _] _ _
      exact inner 40 0 g _ _ rfl rfl
  have first : ∀ (j k : Nat) (g : Nat → Int32), k + j = 40 → mkE n j k g = mkE n 40 0 t → K 2 [some (.ref 0), some (.int (nI k)), none, none, none] [] (h.set 8 (hI 1160 g)) := by
    have e1 : (40 : Int32) * nI n = nI (40 * n) := pk_mul 40 n
    intro j
    induction j with
    | zero =>
      intro k g hk hg
      have a0 := M0 g
      have n0 := N0 g
      refine rl_iload_n (pc := 2) R dX8_harmNow_2 rfl ?_
      refine rl_bipush (pc := 3) R dX8_harmNow_3 bc_40 ?_
      refine rl_icmp_ge (pc := 5) (tgt := 31) R dX8_harmNow_5 rfl (fun c5 => ?_) (fun c5 => absurd (nI_le (a := 40) (by omega) (by omega)) c5)
      refine rl_aload_n (pc := 31) R dX8_harmNow_31 rfl ?_
      refine rl_getf (pc := 32) R dX8_harmNow_32 fkX8_7 a0 rfl ?_
      refine rl_iconst (pc := 35) R dX8_harmNow_35 ic_4 ?_
      refine rl_iald (pc := 36) R dX8_harmNow_36 n0.1 (rfl : (4 : Int32) = nI 4) (by decide) (by decide) ?_
      rw [h4]
      refine rl_iconst (pc := 37) R dX8_harmNow_37 ic_1 ?_
      refine rl_isub (pc := 38) R dX8_harmNow_38 ?_
      rw [pm_sub]
      refine rl_istore_n (pc := 39) R dX8_harmNow_39 (Nat.le_of_ble_eq_true rfl) rfl ?_
      show K _ [_, _, _, _, _] _ _
      exact outer n g none none none (Nat.le_refl _) (by rw [mk, ← hg]; rfl)
    | succ j ih =>
      intro k g hk hg
      have a0 := M0 g
      have n0 := N0 g
      have a8 := M8 g
      refine rl_iload_n (pc := 2) R dX8_harmNow_2 rfl ?_
      refine rl_bipush (pc := 3) R dX8_harmNow_3 bc_40 ?_
      refine rl_icmp_ge (pc := 5) (tgt := 31) R dX8_harmNow_5 rfl (fun c5 => absurd c5 (nI_ge (b := 40) (by omega) (by omega))) (fun c5 => ?_)
      refine rl_aload_n (pc := 8) R dX8_harmNow_8 rfl ?_
      refine rl_getf (pc := 9) R dX8_harmNow_9 fkX8_31 a0 rfl ?_
      refine rl_bipush (pc := 12) R dX8_harmNow_12 bc_40 ?_
      refine rl_aload_n (pc := 14) R dX8_harmNow_14 rfl ?_
      refine rl_getf (pc := 15) R dX8_harmNow_15 fkX8_7 a0 rfl ?_
      refine rl_iconst (pc := 18) R dX8_harmNow_18 ic_4 ?_
      refine rl_iald (pc := 19) R dX8_harmNow_19 n0.1 (rfl : (4 : Int32) = nI 4) (by decide) (by decide) ?_
      rw [h4]
      refine rl_imul (pc := 20) R dX8_harmNow_20 ?_
      rw [e1]
      refine rl_iload_n (pc := 21) R dX8_harmNow_21 rfl ?_
      refine rl_iadd (pc := 22) R dX8_harmNow_22 ?_
      rw [nI_add]
      refine rl_iconst (pc := 23) R dX8_harmNow_23 ic_0 ?_
      refine rl_iast (pc := 24) R dX8_harmNow_24 a8 rfl (by omega) (by decide) ?_
      rw [List.set_set]
      refine rl_iinc (pc := 25) R dX8_harmNow_25 rfl (ii_n k) rfl ?_
      show K _ [_, _, _, _, _] _ _
      refine rl_goto (pc := 28) (tgt := 2) R dX8_harmNow_28 rfl (ih (k + 1) _ (by omega) (by rw [← hg]; rfl))
  refine rl_iconst (pc := 0) R dX8_harmNow_0 ic_0 ?_
  refine rl_istore_n (pc := 1) R dX8_harmNow_1 (Nat.le_of_ble_eq_true rfl) rfl ?_
  show K _ [_, _, _, _, _] _ _
  have e0 := first 40 0 t rfl rfl
  rw [List.set_getElem?_self' m8] at e0
  exact e0
theorem bs_X8_harm {lies : Nat} (m0 : h[0]? = some (mO ik td at_ sz rd)) (hN : rN h n nw wo co se a) (m8 : h[8]? = some (hI 1160 t)) (hl : lies ≤ 9) (he : se 0 = nI lies) : BS (d + 5) false yX8_harm [.ref 0] h (some (.int (mk n nw wo co (se 1) (se 2) t (4 * lies)))) (h.set 8 (hI 1160 (mk n nw wo co (se 1) (se 2) t))) := by
  refine bs_of mtX8_harm rfl (Nat.le_of_ble_eq_true rfl) (fun K R RV RS E => ?_)
  show K 0 [_] [] _
  refine rl_aload_n (pc := 0) R dX8_harm_0 rfl ?_
  refine rl_V0 (pc := 1) RV dX8_harm_1 lkX8_144 m0 rfl (Nat.le_of_ble_eq_true rfl) (bs_X8_harmNow m0 hN m8 hl he) ?_
  exact rl_ireturn (pc := 4) E dX8_harm_4 rfl rfl (rfl)
end M2
