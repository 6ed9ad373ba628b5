/-! THE REFERENCE: worst, best, price, under, sure, bet -/
def bdM (x y : Int32) (both : Nat) (a : Nat) : Bool := decide (a < 100) && (decide (both - a < 100) && lsOk x y (nI both) (nI a))
def blM (x y what : Int32) (both : Nat) : Nat → Nat → Option Int32
  | 0, _ => none
  | j + 1, a => if bdM x y both a then some (if what = 0 then nI a else nI (both - a)) else blM x y what both j (a + 1)
def btM (x y what : Int32) : Nat → Nat → Int32
  | 0, _ => -4
  | j + 1, both => match blM x y what both (both - 1) 1 with
    | some v => v
    | none => btM x y what j (both + 1)
section M3
variable {d : Nat} {h : List sm_C} {ik td at_ sz rd : Int32} {n : Nat} {nw wo co se a t : Nat → Int32}
theorem bs_X8_worst {lies : Nat} (m0 : h[0]? = some (mO ik td at_ sz rd)) (hN : rN h n nw wo co se a) (m8 : h[8]? = some (hI 1160 t)) (hl : lies ≤ 9) (he : se 0 = nI lies) : BS (d + 5) false yX8_worst [.ref 0] h (some (.int (wsM n nw wo co (se 2) (mk n nw wo co (se 1) (se 2) t) n 0 lies 0 0))) (h.set 8 (hI 1160 (mk n nw wo co (se 1) (se 2) t))) := by
  have hn := hN.2.1
  have h4 := hN.2.2.1
  have s0 := hN.2.2.2.1.1
  have hB : BS (d + 4) false yX8_harmNow [.ref 0] h _ _ := bs_X8_harmNow m0 hN m8 hl he
  have hF := mk_F (n := n) (nw := nw) (wo := wo) (co := co) (law := se 1) (trust := se 2) t
  have a0 : (h.set 8 (hI 1160 (mk n nw wo co (se 1) (se 2) t)))[0]? = some (mO ik td at_ sz rd) := m0_oth m0 (by decide)
  have n0 : rN (h.set 8 (hI 1160 (mk n nw wo co (se 1) (se 2) t))) n nw wo co se a := rN_oth hN (by decide)
  have a8 : (h.set 8 (hI 1160 (mk n nw wo co (se 1) (se 2) t)))[8]? = some (hI 1160 (mk n nw wo co (se 1) (se 2) t)) := sm_h_eq m8
  generalize hg : mk n nw wo co (se 1) (se 2) t = g at hB hF a0 n0 a8 ⊢
  refine bs_of mtX8_worst rfl (Nat.le_of_ble_eq_true rfl) (fun K R RV RS E => ?_)
  show K 0 [_, _, _, _, _, _, _] [] _
  have loop : ∀ (j i l mi : Nat) (s : Int32) (z : Option Value), i + j = n → l ≤ lies → mi ≤ 3 → wsM n nw wo co (se 2) g j i l mi s = wsM n nw wo co (se 2) g n 0 lies 0 0 → K 20 [some (.ref 0), some (.int (g (4 * lies))), some (.int s), some (.int (nI l)), some (.int (nI mi)), some (.int (nI i)), z] [] (h.set 8 (hI 1160 g)) := by
    intro j
    induction j with
    | zero =>
      intro i l mi s z hi hll hm hs
      refine rl_iload (pc := 20) R dX8_worst_20 rfl ?_
      refine rl_aload_n (pc := 22) R dX8_worst_22 rfl ?_
      refine rl_getf (pc := 23) R dX8_worst_23 fkX8_7 (by first | assumption | rfl) rfl ?_
      refine rl_iconst (pc := 26) R dX8_worst_26 ic_4 ?_
      refine rl_iald (pc := 27) R dX8_worst_27 n0.1 (rfl : (4 : Int32) = nI 4) (by decide) (by decide) ?_
      rw [h4]
      refine rl_icmp_ge (pc := 28) (tgt := 111) R dX8_worst_28 rfl (fun c28 => ?_) (fun c28 => absurd (nI_le (by omega) (by omega)) c28)
      refine rl_iload_n (pc := 111) R dX8_worst_111 rfl ?_
      exact rl_ireturn (pc := 112) E dX8_worst_112 rfl rfl (e_si (by rw [← hs]; rfl))
    | succ j ih =>
      intro i l mi s z hi hll hm hs
      have fin : ∀ b : Bool, b = decide (g (40 * i + 4 * l + mi) < frM n nw wo co (se 2) g i l mi false) → K 63 [some (.ref 0), some (.int (g (4 * lies))), some (.int s), some (.int (nI l)), some (.int (nI mi)), some (.int (nI i)), z] [.int (bI b)] (h.set 8 (hI 1160 g)) := by
        intro b hb
        have hlp : b = true → 0 < l := by
          intro hbt
          rw [hbt] at hb
          have hb2 := of_decide_eq_true hb.symm
          rcases Nat.eq_zero_or_pos l with rfl | q
          · exfalso
            have hv := hF.2 i (by omega) mi (by omega)
            rw [show mi / 4 = 0 by omega, show mi % 4 = mi by omega] at hv
            rw [show 40 * i + 4 * 0 + mi = 40 * i + mi by omega, hv] at hb2
            have hmy : myM (se 1) nw i 0 mi = false := by simp [myM]
            simp only [vaM, hmy, mn, Bool.false_eq_true, if_false, ite_self] at hb2
            exact Int32.lt_irrefl hb2
          · exact q
        have nx : ∀ (l2 : Nat) (s2 : Int32) (z2 : Option Value), l2 = (if b then l - 1 else l) → s2 = (if b then s ||| b1 i else s) → K 105 [some (.ref 0), some (.int (g (4 * lies))), some (.int s2), some (.int (nI l2)), some (.int (nI (mdM i mi b))), some (.int (nI i)), z2] [] (h.set 8 (hI 1160 g)) := by
          intro l2 s2 z2 e1 e2
          have e3 : wsM n nw wo co (se 2) g j (i + 1) l2 (mdM i mi b) s2 = wsM n nw wo co (se 2) g n 0 lies 0 0 := by
            rw [← hs, wsM, e1, e2]
            cases b with
            | true => rw [if_pos (of_decide_eq_true hb.symm)]; rfl
            | false => rw [if_neg (of_decide_eq_false hb.symm)]; rfl
          refine rl_iinc (pc := 105) R dX8_worst_105 rfl (ii_n i) rfl ?_
          show K _ [_, _, _, _, _, _, _] _ _
          refine rl_goto (pc := 108) (tgt := 20) R dX8_worst_108 rfl (ih (i + 1) l2 _ _ _ (by omega) (by rw [e1]; split <;> omega) (mdM_le _ _ _) e3)
        refine rl_istore (pc := 63) R dX8_worst_63 (Nat.le_of_ble_eq_true rfl) rfl ?_
        show K _ [_, _, _, _, _, _, _] _ _
        refine rl_iload_n (pc := 65) R dX8_worst_65 rfl ?_
        refine rl_iload (pc := 66) R dX8_worst_66 rfl ?_
        refine rl_if_eq (pc := 68) (tgt := 78) R dX8_worst_68 rfl (fun c68 => ?_) (fun c68 => ?_)
        · rw [bI_0] at c68
          have cc : b = false := c68
          refine rl_iconst (pc := 78) R dX8_worst_78 ic_0 ?_
          refine rl_ior (pc := 79) R dX8_worst_79 ?_
          refine rl_istore_n (pc := 80) R dX8_worst_80 (Nat.le_of_ble_eq_true rfl) rfl ?_
          show K _ [_, _, _, _, _, _, _] _ _
          refine rl_iload (pc := 81) R dX8_worst_81 rfl ?_
          refine rl_iload (pc := 83) R dX8_worst_83 rfl ?_
          refine rl_iload (pc := 85) R dX8_worst_85 rfl ?_
          refine rl_S3 (pc := 87) RS dX8_worst_87 lkX8_105 (Nat.le_of_ble_eq_true rfl) (bs_X8_minds (by omega) hm) ?_
          refine rl_istore (pc := 90) R dX8_worst_90 (Nat.le_of_ble_eq_true rfl) rfl ?_
          show K _ [_, _, _, _, _, _, _] _ _
          refine rl_iload_n (pc := 92) R dX8_worst_92 rfl ?_
          refine rl_iload (pc := 93) R dX8_worst_93 rfl ?_
          refine rl_if_eq (pc := 95) (tgt := 102) R dX8_worst_95 rfl (fun c95 => ?_) (fun c95 => ?_)
          · rw [bI_0] at c95
            first | exact absurd (cc.symm.trans c95) (by decide) | (refine rl_iconst (pc := 102) R dX8_worst_102 ic_0 ?_; refine rl_isub (pc := 103) R dX8_worst_103 ?_; refine rl_istore_n (pc := 104) R dX8_worst_104 (Nat.le_of_ble_eq_true rfl) rfl ?_; rw [Int32.sub_zero]; exact nx l _ _ (by rw [cc]; rfl) (by rw [cc]; exact Int32.or_zero))
          · rw [bI_n0] at c95
            first | exact absurd (cc.symm.trans c95) (by decide) | (obtain ⟨l1, rfl⟩ : ∃ l1, l = l1 + 1 := ⟨l - 1, by have := hlp cc; omega⟩; refine rl_iconst (pc := 98) R dX8_worst_98 ic_1 ?_; refine rl_goto (pc := 99) (tgt := 103) R dX8_worst_99 rfl ?_; refine rl_isub (pc := 103) R dX8_worst_103 ?_; refine rl_istore_n (pc := 104) R dX8_worst_104 (Nat.le_of_ble_eq_true rfl) rfl ?_; rw [nI_pred]; exact nx l1 _ _ (by rw [cc]; rfl) (by rw [cc]; rfl))
        · rw [bI_n0] at c68
          have cc : b = true := c68
          refine rl_iconst (pc := 71) R dX8_worst_71 ic_1 ?_
          refine rl_iload (pc := 72) R dX8_worst_72 rfl ?_
          refine rl_ishl (pc := 74) R dX8_worst_74 ?_
          refine rl_goto (pc := 75) (tgt := 79) R dX8_worst_75 rfl ?_
          refine rl_ior (pc := 79) R dX8_worst_79 ?_
          refine rl_istore_n (pc := 80) R dX8_worst_80 (Nat.le_of_ble_eq_true rfl) rfl ?_
          show K _ [_, _, _, _, _, _, _] _ _
          refine rl_iload (pc := 81) R dX8_worst_81 rfl ?_
          refine rl_iload (pc := 83) R dX8_worst_83 rfl ?_
          refine rl_iload (pc := 85) R dX8_worst_85 rfl ?_
          refine rl_S3 (pc := 87) RS dX8_worst_87 lkX8_105 (Nat.le_of_ble_eq_true rfl) (bs_X8_minds (by omega) hm) ?_
          refine rl_istore (pc := 90) R dX8_worst_90 (Nat.le_of_ble_eq_true rfl) rfl ?_
          show K _ [_, _, _, _, _, _, _] _ _
          refine rl_iload_n (pc := 92) R dX8_worst_92 rfl ?_
          refine rl_iload (pc := 93) R dX8_worst_93 rfl ?_
          refine rl_if_eq (pc := 95) (tgt := 102) R dX8_worst_95 rfl (fun c95 => ?_) (fun c95 => ?_)
          · rw [bI_0] at c95
            first | exact absurd (cc.symm.trans c95) (by decide) | (refine rl_iconst (pc := 102) R dX8_worst_102 ic_0 ?_; refine rl_isub (pc := 103) R dX8_worst_103 ?_; refine rl_istore_n (pc := 104) R dX8_worst_104 (Nat.le_of_ble_eq_true rfl) rfl ?_; rw [Int32.sub_zero]; exact nx l _ _ (by rw [cc]; rfl) (by rw [cc]; exact Int32.or_zero))
          · rw [bI_n0] at c95
            first | exact absurd (cc.symm.trans c95) (by decide) | (obtain ⟨l1, rfl⟩ : ∃ l1, l = l1 + 1 := ⟨l - 1, by have := hlp cc; omega⟩; refine rl_iconst (pc := 98) R dX8_worst_98 ic_1 ?_; refine rl_goto (pc := 99) (tgt := 103) R dX8_worst_99 rfl ?_; refine rl_isub (pc := 103) R dX8_worst_103 ?_; refine rl_istore_n (pc := 104) R dX8_worst_104 (Nat.le_of_ble_eq_true rfl) rfl ?_; rw [nI_pred]; exact nx l1 _ _ (by rw [cc]; rfl) (by rw [cc]; rfl))
      refine rl_iload (pc := 20) R dX8_worst_20 rfl ?_
      refine rl_aload_n (pc := 22) R dX8_worst_22 rfl ?_
      refine rl_getf (pc := 23) R dX8_worst_23 fkX8_7 (by first | assumption | rfl) rfl ?_
      refine rl_iconst (pc := 26) R dX8_worst_26 ic_4 ?_
      refine rl_iald (pc := 27) R dX8_worst_27 n0.1 (rfl : (4 : Int32) = nI 4) (by decide) (by decide) ?_
      rw [h4]
      refine rl_icmp_ge (pc := 28) (tgt := 111) R dX8_worst_28 rfl (fun c28 => absurd c28 (nI_ge (by omega) (by omega))) (fun c28 => ?_)
      refine rl_aload_n (pc := 31) R dX8_worst_31 rfl ?_
      refine rl_iload (pc := 32) R dX8_worst_32 rfl ?_
      refine rl_iload_n (pc := 34) R dX8_worst_34 rfl ?_
      refine rl_iload (pc := 35) R dX8_worst_35 rfl ?_
      refine rl_iconst (pc := 37) R dX8_worst_37 ic_0 ?_
      refine rl_V4 (pc := 38) RV dX8_worst_38 lkX8_137 a0 rfl (Nat.le_of_ble_eq_true rfl) (bs_X8_from (b := false) a0 n0 a8 (by omega) (by omega) hm (fun z => by cases z)) ?_
      refine rl_aload_n (pc := 41) R dX8_worst_41 rfl ?_
      refine rl_getf (pc := 42) R dX8_worst_42 fkX8_31 a0 rfl ?_
      refine rl_aload_n (pc := 45) R dX8_worst_45 rfl ?_
      refine rl_iload (pc := 46) R dX8_worst_46 rfl ?_
      refine rl_iload_n (pc := 48) R dX8_worst_48 rfl ?_
      refine rl_iload (pc := 49) R dX8_worst_49 rfl ?_
      refine rl_V3 (pc := 51) RV dX8_worst_51 lkX8_133 a0 rfl (Nat.le_of_ble_eq_true rfl) (bs_X8_place) ?_
      refine rl_iald (pc := 54) R dX8_worst_54 a8 rfl (by omega) (by decide) ?_
      refine rl_icmp_le (pc := 55) (tgt := 62) R dX8_worst_55 rfl (fun c55 => ?_) (fun c55 => ?_)
      · refine rl_iconst (pc := 62) R dX8_worst_62 ic_0 ?_
        first | exact fin false (by rw [decide_eq_false (Int32.not_lt.mpr c55)]) | exact fin true (by rw [decide_eq_true (Int32.not_le.mp c55)])
      · refine rl_iconst (pc := 58) R dX8_worst_58 ic_1 ?_
        refine rl_goto (pc := 59) (tgt := 63) R dX8_worst_59 rfl ?_
        first | exact fin false (by rw [decide_eq_false (Int32.not_lt.mpr c55)]) | exact fin true (by rw [decide_eq_true (Int32.not_le.mp c55)])
  refine rl_aload_n (pc := 0) R dX8_worst_0 rfl ?_
  refine rl_V0 (pc := 1) RV dX8_worst_1 lkX8_144 m0 rfl (Nat.le_of_ble_eq_true rfl) (hB) ?_
  refine rl_istore_n (pc := 4) R dX8_worst_4 (Nat.le_of_ble_eq_true rfl) rfl ?_
  show K _ [_, _, _, _, _, _, _] _ _
  refine rl_iconst (pc := 5) R dX8_worst_5 ic_0 ?_
  refine rl_istore_n (pc := 6) R dX8_worst_6 (Nat.le_of_ble_eq_true rfl) rfl ?_
  show K _ [_, _, _, _, _, _, _] _ _
  refine rl_aload_n (pc := 7) R dX8_worst_7 rfl ?_
  refine rl_getf (pc := 8) R dX8_worst_8 fkX8_7 a0 rfl ?_
  refine rl_iconst (pc := 11) R dX8_worst_11 ic_0 ?_
  refine rl_iald (pc := 12) R dX8_worst_12 n0.1 (rfl : (0 : Int32) = nI 0) (by decide) (by decide) ?_
  rw [s0, he]
  refine rl_istore_n (pc := 13) R dX8_worst_13 (Nat.le_of_ble_eq_true rfl) rfl ?_
  show K _ [_, _, _, _, _, _, _] _ _
  refine rl_iconst (pc := 14) R dX8_worst_14 ic_0 ?_
  refine rl_istore (pc := 15) R dX8_worst_15 (Nat.le_of_ble_eq_true rfl) rfl ?_
  show K _ [_, _, _, _, _, _, _] _ _
  refine rl_iconst (pc := 17) R dX8_worst_17 ic_0 ?_
  refine rl_istore (pc := 18) R dX8_worst_18 (Nat.le_of_ble_eq_true rfl) rfl ?_
  show K _ [_, _, _, _, _, _, _] _ _
  exact loop n 0 lies 0 0 none (by omega) (Nat.le_refl _) (by decide) rfl
theorem bs_X8_best {lies : Nat} (m0 : h[0]? = some (mO ik td at_ sz rd)) (hN : rN h n nw wo co se a) (m8 : h[8]? = some (hI 1160 t)) (hl : lies ≤ 9) (he : se 0 = nI lies) : BS (d + 5) false yX8_best [.ref 0] h (some (.int (bmV n nw wo co (se 1) lies 9 0 0 0 t).1)) (h.set 8 (hI 1160 (bmV n nw wo co (se 1) lies 9 0 0 0 t).2)) := by
  have m1 := hN.1
  have s2 := hN.2.2.2.1.2.2.1
  have hu : ∀ v : Int32, upd (upd a 2 v) 2 (se 2) = a := fun v => by rw [← s2]; exact upd_back a 2 v
  refine bs_of mtX8_best rfl (Nat.le_of_ble_eq_true rfl) (fun K R RV RS E => ?_)
  show K 0 [_, _, _, _, _, _] [] _
  have loop : ∀ (j q : Nat) (b mo : Int32) (g : Nat → Int32) (v : Int32) (z : Option Value), q + j = 9 → bmV n nw wo co (se 1) lies j q b mo g = bmV n nw wo co (se 1) lies 9 0 0 0 t → K 14 [some (.ref 0), some (.int (se 2)), some (.int b), some (.int mo), some (.int (nI q)), z] [] ((h.set 1 (hI 89 (upd a 2 v))).set 8 (hI 1160 g)) := by
    intro j
    induction j with
    | zero =>
      intro q b mo g v z hq hs
      have a0 : ((h.set 1 (hI 89 (upd a 2 v))).set 8 (hI 1160 g))[0]? = some (mO ik td at_ sz rd) := m0_oth (m0_oth m0 (by decide)) (by decide)
      have a1 : ((h.set 1 (hI 89 (upd a 2 v))).set 8 (hI 1160 g))[1]? = some (hI 89 (upd a 2 v)) := sm_h_ne (sm_h_eq m1) (sm_h_ne m8 m1 (by decide)) (by decide)
      rw [← hs] at E
      refine rl_iload (pc := 14) R dX8_best_14 rfl ?_
      refine rl_bipush (pc := 16) R dX8_best_16 bc_9 ?_
      refine rl_icmp_ge (pc := 18) (tgt := 58) R dX8_best_18 rfl (fun c18 => ?_) (fun c18 => absurd (nI_le (a := 9) (by omega) (by omega)) c18)
      refine rl_aload_n (pc := 58) R dX8_best_58 rfl ?_
      refine rl_getf (pc := 59) R dX8_best_59 fkX8_7 a0 rfl ?_
      refine rl_iconst (pc := 62) R dX8_best_62 ic_2 ?_
      refine rl_iload_n (pc := 63) R dX8_best_63 rfl ?_
      refine rl_iast (pc := 64) R dX8_best_64 a1 (rfl : (2 : Int32) = nI 2) (by decide) (by decide) ?_
      rw [hu, List.set_comm _ _ (by decide : (8 : Nat) ≠ 1), List.set_set, List.set_getElem?_self' m1]
      refine rl_iload_n (pc := 65) R dX8_best_65 rfl ?_
      exact rl_ireturn (pc := 66) E dX8_best_66 rfl rfl (rfl)
    | succ j ih =>
      intro q b mo g v z hq hs
      have a0 : ((h.set 1 (hI 89 (upd a 2 v))).set 8 (hI 1160 g))[0]? = some (mO ik td at_ sz rd) := m0_oth (m0_oth m0 (by decide)) (by decide)
      have a1 : ((h.set 1 (hI 89 (upd a 2 v))).set 8 (hI 1160 g))[1]? = some (hI 89 (upd a 2 v)) := sm_h_ne (sm_h_eq m1) (sm_h_ne m8 m1 (by decide)) (by decide)
      have b0 : ((h.set 1 (hI 89 (upd a 2 (nI q)))).set 8 (hI 1160 g))[0]? = some (mO ik td at_ sz rd) := m0_oth (m0_oth m0 (by decide)) (by decide)
      have bN : rN ((h.set 1 (hI 89 (upd a 2 (nI q)))).set 8 (hI 1160 g)) n nw wo co (upd se 2 (nI q)) (upd a 2 (nI q)) := rN_oth (rN_set hN (by decide) _) (by decide)
      have b8 : ((h.set 1 (hI 89 (upd a 2 (nI q)))).set 8 (hI 1160 g))[8]? = some (hI 1160 g) := sm_h_eq (sm_h_ne m8 m1 (by decide))
      refine rl_iload (pc := 14) R dX8_best_14 rfl ?_
      refine rl_bipush (pc := 16) R dX8_best_16 bc_9 ?_
      refine rl_icmp_ge (pc := 18) (tgt := 58) R dX8_best_18 rfl (fun c18 => absurd c18 (nI_ge (b := 9) (by omega) (by omega))) (fun c18 => ?_)
      refine rl_aload_n (pc := 21) R dX8_best_21 rfl ?_
      refine rl_getf (pc := 22) R dX8_best_22 fkX8_7 a0 rfl ?_
      refine rl_iconst (pc := 25) R dX8_best_25 ic_2 ?_
      refine rl_iload (pc := 26) R dX8_best_26 rfl ?_
      refine rl_iast (pc := 28) R dX8_best_28 a1 (rfl : (2 : Int32) = nI 2) (by decide) (by decide) ?_
      rw [List.set_comm _ _ (by decide : (8 : Nat) ≠ 1), List.set_set, upd_upd]
      refine rl_aload_n (pc := 29) R dX8_best_29 rfl ?_
      refine rl_V0 (pc := 30) RV dX8_best_30 lkX8_144 b0 rfl (Nat.le_of_ble_eq_true rfl) (bs_X8_harmNow b0 bN b8 hl he) ?_
      rw [List.set_set]
      rw [show upd se 2 (nI q) 1 = se 1 from rfl, show upd se 2 (nI q) 2 = nI q from rfl]
      refine rl_istore (pc := 33) R dX8_best_33 (Nat.le_of_ble_eq_true rfl) rfl ?_
      show K _ [_, _, _, _, _, _] _ _
      refine rl_iload (pc := 35) R dX8_best_35 rfl ?_
      refine rl_if_eq (pc := 37) (tgt := 46) R dX8_best_37 rfl (fun c37 => ?_) (fun c37 => ?_)
      · refine rl_iload (pc := 46) R dX8_best_46 rfl ?_
        refine rl_istore_n (pc := 48) R dX8_best_48 (Nat.le_of_ble_eq_true rfl) rfl ?_
        show K _ [_, _, _, _, _, _] _ _
        refine rl_iload (pc := 49) R dX8_best_49 rfl ?_
        refine rl_istore_n (pc := 51) R dX8_best_51 (Nat.le_of_ble_eq_true rfl) rfl ?_
        show K _ [_, _, _, _, _, _] _ _
        refine rl_iinc (pc := 52) R dX8_best_52 rfl (ii_n q) rfl ?_
        show K _ [_, _, _, _, _, _] _ _
        refine rl_goto (pc := 55) (tgt := 14) R dX8_best_55 rfl (ih (q + 1) _ _ _ _ _ (by omega) (by rw [← hs, bmV]; first | (rw [if_pos (Or.inl ((nI_5 (by omega)).mp c37))]; done) | (rw [if_pos (Or.inr (Int32.not_le.mp c43))]; done) | (rw [if_neg (fun z => z.elim (fun z => c37 (by rw [z]; rfl)) (fun z => absurd c43 (Int32.not_le.mpr z)))]; done)))
      · refine rl_iload (pc := 40) R dX8_best_40 rfl ?_
        refine rl_iload_n (pc := 42) R dX8_best_42 rfl ?_
        refine rl_icmp_le (pc := 43) (tgt := 52) R dX8_best_43 rfl (fun c43 => ?_) (fun c43 => ?_)
        · refine rl_iinc (pc := 52) R dX8_best_52 rfl (ii_n q) rfl ?_
          show K _ [_, _, _, _, _, _] _ _
          refine rl_goto (pc := 55) (tgt := 14) R dX8_best_55 rfl (ih (q + 1) _ _ _ _ _ (by omega) (by rw [← hs, bmV]; first | (rw [if_pos (Or.inl ((nI_5 (by omega)).mp c37))]; done) | (rw [if_pos (Or.inr (Int32.not_le.mp c43))]; done) | (rw [if_neg (fun z => z.elim (fun z => c37 (by rw [z]; rfl)) (fun z => absurd c43 (Int32.not_le.mpr z)))]; done)))
        · refine rl_iload (pc := 46) R dX8_best_46 rfl ?_
          refine rl_istore_n (pc := 48) R dX8_best_48 (Nat.le_of_ble_eq_true rfl) rfl ?_
          show K _ [_, _, _, _, _, _] _ _
          refine rl_iload (pc := 49) R dX8_best_49 rfl ?_
          refine rl_istore_n (pc := 51) R dX8_best_51 (Nat.le_of_ble_eq_true rfl) rfl ?_
          show K _ [_, _, _, _, _, _] _ _
          refine rl_iinc (pc := 52) R dX8_best_52 rfl (ii_n q) rfl ?_
          show K _ [_, _, _, _, _, _] _ _
          refine rl_goto (pc := 55) (tgt := 14) R dX8_best_55 rfl (ih (q + 1) _ _ _ _ _ (by omega) (by rw [← hs, bmV]; first | (rw [if_pos (Or.inl ((nI_5 (by omega)).mp c37))]; done) | (rw [if_pos (Or.inr (Int32.not_le.mp c43))]; done) | (rw [if_neg (fun z => z.elim (fun z => c37 (by rw [z]; rfl)) (fun z => absurd c43 (Int32.not_le.mpr z)))]; done)))
  refine rl_aload_n (pc := 0) R dX8_best_0 rfl ?_
  refine rl_getf (pc := 1) R dX8_best_1 fkX8_7 (by first | assumption | rfl) rfl ?_
  refine rl_iconst (pc := 4) R dX8_best_4 ic_2 ?_
  refine rl_iald (pc := 5) R dX8_best_5 m1 (rfl : (2 : Int32) = nI 2) (by decide) (by decide) ?_
  rw [s2]
  refine rl_istore_n (pc := 6) R dX8_best_6 (Nat.le_of_ble_eq_true rfl) rfl ?_
  show K _ [_, _, _, _, _, _] _ _
  refine rl_iconst (pc := 7) R dX8_best_7 ic_0 ?_
  refine rl_istore_n (pc := 8) R dX8_best_8 (Nat.le_of_ble_eq_true rfl) rfl ?_
  show K _ [_, _, _, _, _, _] _ _
  refine rl_iconst (pc := 9) R dX8_best_9 ic_0 ?_
  refine rl_istore_n (pc := 10) R dX8_best_10 (Nat.le_of_ble_eq_true rfl) rfl ?_
  show K _ [_, _, _, _, _, _] _ _
  refine rl_iconst (pc := 11) R dX8_best_11 ic_0 ?_
  refine rl_istore (pc := 12) R dX8_best_12 (Nat.le_of_ble_eq_true rfl) rfl ?_
  show K _ [_, _, _, _, _, _] _ _
  have e0 := loop 9 0 0 0 t (a 2) none rfl rfl
  rw [show upd a 2 (a 2) = a by funext q; by_cases hq : q = 2 <;> simp [upd, hq], List.set_getElem?_self' m1, List.set_getElem?_self' m8] at e0
  exact e0
theorem bs_X8_price9 (m0 : h[0]? = some (mO ik td at_ sz rd)) (hN : rN h n nw wo co se a) (he : se 0 = nI 9) : BS (d + 5) false yX8_price [.ref 0] h (some (.int (-100000002))) h := by
  have m1 := hN.1
  have s0 := hN.2.2.2.1.1
  refine bs_of mtX8_price rfl (Nat.le_of_ble_eq_true rfl) (fun K R RV RS E => ?_)
  show K 0 [_, _, _] [] _
  refine rl_aload_n (pc := 0) R dX8_price_0 rfl ?_
  refine rl_getf (pc := 1) R dX8_price_1 fkX8_7 (by first | assumption | rfl) rfl ?_
  refine rl_iconst (pc := 4) R dX8_price_4 ic_0 ?_
  refine rl_iald (pc := 5) R dX8_price_5 m1 (rfl : (0 : Int32) = nI 0) (by decide) (by decide) ?_
  rw [s0, he]
  refine rl_istore_n (pc := 6) R dX8_price_6 (Nat.le_of_ble_eq_true rfl) rfl ?_
  show K _ [_, _, _] _ _
  refine rl_iload_n (pc := 7) R dX8_price_7 rfl ?_
  refine rl_bipush (pc := 8) R dX8_price_8 bc_9 ?_
  refine rl_icmp_ne (pc := 10) (tgt := 16) R dX8_price_10 rfl (fun c10 => absurd (rfl) c10) (fun c10 => ?_)
  refine rl_ldc (pc := 13) R dX8_price_13 kcX8_129 ?_
  exact rl_ireturn (pc := 15) E dX8_price_15 rfl rfl (rfl)
theorem bs_X8_price {lies : Nat} (m0 : h[0]? = some (mO ik td at_ sz rd)) (hN : rN h n nw wo co se a) (m8 : h[8]? = some (hI 1160 t)) (hl : lies < 9) (he : se 0 = nI lies) : BS (d + 5) false yX8_price [.ref 0] h (some (.int (mk n nw wo co (se 1) (se 2) t (4 * lies) - mk n nw wo co (se 1) (se 2) (mk n nw wo co (se 1) (se 2) t) (4 * (lies + 1))))) (h.set 8 (hI 1160 (mk n nw wo co (se 1) (se 2) (mk n nw wo co (se 1) (se 2) t)))) := by
  have m1 := hN.1
  have s0 := hN.2.2.2.1.1
  have a0 : ∀ g : Nat → Int32, (h.set 8 (hI 1160 g))[0]? = some (mO ik td at_ sz rd) := fun g => m0_oth m0 (by decide)
  have a1 : ∀ g : Nat → Int32, (h.set 8 (hI 1160 g))[1]? = some (hI 89 a) := fun g => sm_h_ne m1 m8 (by decide)
  have aN : ∀ g : Nat → Int32, rN (h.set 8 (hI 1160 g)) n nw wo co se a := fun g => rN_oth hN (by decide)
  have b0 : ∀ (g : Nat → Int32) (v : Int32), ((h.set 8 (hI 1160 g)).set 1 (hI 89 (upd a 0 v)))[0]? = some (mO ik td at_ sz rd) := fun g v => m0_oth (a0 g) (by decide)
  have bN : ∀ (g : Nat → Int32) (v : Int32), rN ((h.set 8 (hI 1160 g)).set 1 (hI 89 (upd a 0 v))) n nw wo co (upd se 0 v) (upd a 0 v) := fun g v => rN_set (aN g) (by decide) v
  have b8 : ∀ (g : Nat → Int32) (v : Int32), ((h.set 8 (hI 1160 g)).set 1 (hI 89 (upd a 0 v)))[8]? = some (hI 1160 g) := fun g v => sm_h_ne (sm_h_eq m8) (a1 g) (by decide)
  have hu : ∀ v : Int32, upd (upd a 0 v) 0 (nI lies) = a := fun v => by rw [← he, ← s0]; exact upd_back a 0 v
  refine bs_of mtX8_price rfl (Nat.le_of_ble_eq_true rfl) (fun K R RV RS E => ?_)
  show K 0 [_, _, _] [] _
  refine rl_aload_n (pc := 0) R dX8_price_0 rfl ?_
  refine rl_getf (pc := 1) R dX8_price_1 fkX8_7 (by first | assumption | rfl) rfl ?_
  refine rl_iconst (pc := 4) R dX8_price_4 ic_0 ?_
  refine rl_iald (pc := 5) R dX8_price_5 m1 (rfl : (0 : Int32) = nI 0) (by decide) (by decide) ?_
  rw [s0, he]
  refine rl_istore_n (pc := 6) R dX8_price_6 (Nat.le_of_ble_eq_true rfl) rfl ?_
  show K _ [_, _, _] _ _
  refine rl_iload_n (pc := 7) R dX8_price_7 rfl ?_
  refine rl_bipush (pc := 8) R dX8_price_8 bc_9 ?_
  refine rl_icmp_ne (pc := 10) (tgt := 16) R dX8_price_10 rfl (fun c10 => ?_) (fun c10 => absurd c10 (fun z => by have := (nI_eq (b := 9) (by omega) (by decide)).mp z; omega))
  refine rl_aload_n (pc := 16) R dX8_price_16 rfl ?_
  refine rl_V0 (pc := 17) RV dX8_price_17 lkX8_144 m0 rfl (Nat.le_of_ble_eq_true rfl) (bs_X8_harmNow m0 hN m8 (by omega) he) ?_
  refine rl_istore_n (pc := 20) R dX8_price_20 (Nat.le_of_ble_eq_true rfl) rfl ?_
  show K _ [_, _, _] _ _
  refine rl_aload_n (pc := 21) R dX8_price_21 rfl ?_
  refine rl_getf (pc := 22) R dX8_price_22 fkX8_7 (a0 _) rfl ?_
  refine rl_iconst (pc := 25) R dX8_price_25 ic_0 ?_
  refine rl_iload_n (pc := 26) R dX8_price_26 rfl ?_
  refine rl_iconst (pc := 27) R dX8_price_27 ic_1 ?_
  refine rl_iadd (pc := 28) R dX8_price_28 ?_
  rw [nI_1]
  refine rl_iast (pc := 29) R dX8_price_29 (a1 _) (rfl : (0 : Int32) = nI 0) (by decide) (by decide) ?_
  refine rl_iload_n (pc := 30) R dX8_price_30 rfl ?_
  refine rl_aload_n (pc := 31) R dX8_price_31 rfl ?_
  refine rl_V0 (pc := 32) RV dX8_price_32 lkX8_144 (b0 _ _) rfl (Nat.le_of_ble_eq_true rfl) (bs_X8_harmNow (b0 _ _) (bN _ _) (b8 _ _) (lies := lies + 1) (by omega) rfl) ?_
  rw [List.set_comm _ _ (by decide : (1 : Nat) ≠ 8), List.set_set]
  rw [show upd se 0 (nI (lies + 1)) 1 = se 1 from rfl, show upd se 0 (nI (lies + 1)) 2 = se 2 from rfl]
  refine rl_isub (pc := 35) R dX8_price_35 ?_
  refine rl_istore_n (pc := 36) R dX8_price_36 (Nat.le_of_ble_eq_true rfl) rfl ?_
  show K _ [_, _, _] _ _
  refine rl_aload_n (pc := 37) R dX8_price_37 rfl ?_
  refine rl_getf (pc := 38) R dX8_price_38 fkX8_7 (m0_oth (m0_oth m0 (by decide)) (by decide)) rfl ?_
  refine rl_iconst (pc := 41) R dX8_price_41 ic_0 ?_
  refine rl_iload_n (pc := 42) R dX8_price_42 rfl ?_
  refine rl_iast (pc := 43) R dX8_price_43 (sm_h_eq (a1 _)) (rfl : (0 : Int32) = nI 0) (by decide) (by decide) ?_
  rw [List.set_set, hu, List.set_getElem?_self' (a1 _)]
  refine rl_iload_n (pc := 44) R dX8_price_44 rfl ?_
  exact rl_ireturn (pc := 45) E dX8_price_45 rfl rfl (rfl)
theorem bs_X8_under_bad {law : Int32} (hok : isW law 0 3 = false) : BS (d + 5) false yX8_under [.ref 0, .int law] h (some (.int (-100000001))) h := by
  refine bs_of mtX8_under rfl (Nat.le_of_ble_eq_true rfl) (fun K R RV RS E => ?_)
  show K 0 [_, _, _, _] [] _
  refine rl_iload_n (pc := 0) R dX8_under_0 rfl ?_
  refine rl_i2l (pc := 1) R dX8_under_1 ?_
  refine rl_lconst (pc := 2) R dX8_under_2 lc_0 ?_
  refine rl_ldc2 (pc := 3) R dX8_under_3 kdX8_62 ?_
  refine rl_S3 (pc := 6) RS dX8_under_6 lkX8_40 (Nat.le_of_ble_eq_true rfl) (bs_X8_inW (v := law) (x := 0) (y := 3) rfl rfl rfl) ?_
  refine rl_if_ne (pc := 9) (tgt := 15) R dX8_under_9 rfl (fun c9 => absurd (by rw [hok]; rfl) c9) (fun c9 => ?_)
  refine rl_ldc (pc := 12) R dX8_under_12 kcX8_128 ?_
  exact rl_ireturn (pc := 14) E dX8_under_14 rfl rfl (rfl)
theorem bs_X8_under {lies : Nat} {law : Int32} (m0 : h[0]? = some (mO ik td at_ sz rd)) (hN : rN h n nw wo co se a) (m8 : h[8]? = some (hI 1160 t)) (hl : lies ≤ 9) (he : se 0 = nI lies) (hok : isW law 0 3 = true) : BS (d + 5) false yX8_under [.ref 0, .int law] h (some (.int (mk n nw wo co law (se 2) t (4 * lies)))) (h.set 8 (hI 1160 (mk n nw wo co law (se 2) t))) := by
  have m1 := hN.1
  have s1 := hN.2.2.2.1.2.1
  have b0 : (h.set 1 (hI 89 (upd a 1 law)))[0]? = some (mO ik td at_ sz rd) := m0_oth m0 (by decide)
  have bN : rN (h.set 1 (hI 89 (upd a 1 law))) n nw wo co (upd se 1 law) (upd a 1 law) := rN_set hN (by decide) law
  have b8 : (h.set 1 (hI 89 (upd a 1 law)))[8]? = some (hI 1160 t) := sm_h_ne m8 m1 (by decide)
  have hu : upd (upd a 1 law) 1 (a 1) = a := upd_back a 1 law
  refine bs_of mtX8_under rfl (Nat.le_of_ble_eq_true rfl) (fun K R RV RS E => ?_)
  show K 0 [_, _, _, _] [] _
  refine rl_iload_n (pc := 0) R dX8_under_0 rfl ?_
  refine rl_i2l (pc := 1) R dX8_under_1 ?_
  refine rl_lconst (pc := 2) R dX8_under_2 lc_0 ?_
  refine rl_ldc2 (pc := 3) R dX8_under_3 kdX8_62 ?_
  refine rl_S3 (pc := 6) RS dX8_under_6 lkX8_40 (Nat.le_of_ble_eq_true rfl) (bs_X8_inW (v := law) (x := 0) (y := 3) rfl rfl rfl) ?_
  refine rl_if_ne (pc := 9) (tgt := 15) R dX8_under_9 rfl (fun c9 => ?_) (fun c9 => absurd c9 (by rw [hok]; decide))
  refine rl_aload_n (pc := 15) R dX8_under_15 rfl ?_
  refine rl_iconst (pc := 16) R dX8_under_16 ic_1 ?_
  refine rl_iload_n (pc := 17) R dX8_under_17 rfl ?_
  refine rl_V2 (pc := 18) RV dX8_under_18 lkX8_56 m0 rfl (Nat.le_of_ble_eq_true rfl) (bs_X8_changed (i := 1) m0 m1 (by decide)) ?_
  refine rl_istore_n (pc := 21) R dX8_under_21 (Nat.le_of_ble_eq_true rfl) rfl ?_
  show K _ [_, _, _, _] _ _
  refine rl_aload_n (pc := 22) R dX8_under_22 rfl ?_
  refine rl_V0 (pc := 23) RV dX8_under_23 lkX8_144 b0 rfl (Nat.le_of_ble_eq_true rfl) (bs_X8_harmNow b0 bN b8 hl he) ?_
  rw [show upd se 1 law 1 = law from rfl, show upd se 1 law 2 = se 2 from rfl]
  refine rl_istore_n (pc := 26) R dX8_under_26 (Nat.le_of_ble_eq_true rfl) rfl ?_
  show K _ [_, _, _, _] _ _
  refine rl_aload_n (pc := 27) R dX8_under_27 rfl ?_
  refine rl_getf (pc := 28) R dX8_under_28 fkX8_7 (m0_oth b0 (by decide)) rfl ?_
  refine rl_iconst (pc := 31) R dX8_under_31 ic_1 ?_
  refine rl_iload_n (pc := 32) R dX8_under_32 rfl ?_
  refine rl_iast (pc := 33) R dX8_under_33 (sm_h_ne (sm_h_eq m1) b8 (by decide)) (rfl : (1 : Int32) = nI 1) (by decide) (by decide) ?_
  rw [hu, List.set_comm _ _ (by decide : (8 : Nat) ≠ 1), List.set_set, List.set_getElem?_self' m1]
  refine rl_iload_n (pc := 34) R dX8_under_34 rfl ?_
  exact rl_ireturn (pc := 35) E dX8_under_35 rfl rfl (rfl)
def suOM (f g lies words part : Int32) : Bool := isW f 0 8 && (isW g 0 8 && (isW words 1 99 && (isW lies 0 words && isW part 0 1)))
theorem bs_X8_sure_bad {f g lies words part : Int32} (hok : suOM f g lies words part = false) : BS (d + 2) false yX8_sure [.ref 0, .int f, .int g, .int lies, .int words, .int part] h (some (.int (-1))) h := by
  refine bs_of mtX8_sure rfl (Nat.le_of_ble_eq_true rfl) (fun K R RV RS E => ?_)
  show K 0 [_, _, _, _, _, _, _, _, _, _, _] [] _
  refine rl_iload_n (pc := 0) R dX8_sure_0 rfl ?_
  refine rl_i2l (pc := 1) R dX8_sure_1 ?_
  refine rl_lconst (pc := 2) R dX8_sure_2 lc_0 ?_
  refine rl_ldc2 (pc := 3) R dX8_sure_3 kdX8_64 ?_
  refine rl_S3 (pc := 6) RS dX8_sure_6 lkX8_40 (Nat.le_of_ble_eq_true rfl) (bs_X8_inW (v := f) (x := 0) (y := 8) rfl rfl rfl) ?_
  refine rl_if_eq (pc := 9) (tgt := 60) R dX8_sure_9 rfl (fun c9 => ?_) (fun c9 => ?_)
  · rw [bI_0] at c9
    refine rl_iconst (pc := 60) R dX8_sure_60 ic_m1 ?_
    exact rl_ireturn (pc := 61) E dX8_sure_61 rfl rfl (rfl)
  · rw [bI_n0] at c9
    refine rl_iload_n (pc := 12) R dX8_sure_12 rfl ?_
    refine rl_i2l (pc := 13) R dX8_sure_13 ?_
    refine rl_lconst (pc := 14) R dX8_sure_14 lc_0 ?_
    refine rl_ldc2 (pc := 15) R dX8_sure_15 kdX8_64 ?_
    refine rl_S3 (pc := 18) RS dX8_sure_18 lkX8_40 (Nat.le_of_ble_eq_true rfl) (bs_X8_inW (v := g) (x := 0) (y := 8) rfl rfl rfl) ?_
    refine rl_if_eq (pc := 21) (tgt := 60) R dX8_sure_21 rfl (fun c21 => ?_) (fun c21 => ?_)
    · rw [bI_0] at c21
      refine rl_iconst (pc := 60) R dX8_sure_60 ic_m1 ?_
      exact rl_ireturn (pc := 61) E dX8_sure_61 rfl rfl (rfl)
    · rw [bI_n0] at c21
      refine rl_iload (pc := 24) R dX8_sure_24 rfl ?_
      refine rl_i2l (pc := 26) R dX8_sure_26 ?_
      refine rl_lconst (pc := 27) R dX8_sure_27 lc_1 ?_
      refine rl_ldc2 (pc := 28) R dX8_sure_28 kdX8_44 ?_
      refine rl_S3 (pc := 31) RS dX8_sure_31 lkX8_40 (Nat.le_of_ble_eq_true rfl) (bs_X8_inW (v := words) (x := 1) (y := 99) rfl rfl rfl) ?_
      refine rl_if_eq (pc := 34) (tgt := 60) R dX8_sure_34 rfl (fun c34 => ?_) (fun c34 => ?_)
      · rw [bI_0] at c34
        refine rl_iconst (pc := 60) R dX8_sure_60 ic_m1 ?_
        exact rl_ireturn (pc := 61) E dX8_sure_61 rfl rfl (rfl)
      · rw [bI_n0] at c34
        refine rl_iload_n (pc := 37) R dX8_sure_37 rfl ?_
        refine rl_i2l (pc := 38) R dX8_sure_38 ?_
        refine rl_lconst (pc := 39) R dX8_sure_39 lc_0 ?_
        refine rl_iload (pc := 40) R dX8_sure_40 rfl ?_
        refine rl_i2l (pc := 42) R dX8_sure_42 ?_
        refine rl_S3 (pc := 43) RS dX8_sure_43 lkX8_40 (Nat.le_of_ble_eq_true rfl) (bs_X8_inW (v := lies) (x := 0) (y := words) rfl rfl rfl) ?_
        refine rl_if_eq (pc := 46) (tgt := 60) R dX8_sure_46 rfl (fun c46 => ?_) (fun c46 => ?_)
        · rw [bI_0] at c46
          refine rl_iconst (pc := 60) R dX8_sure_60 ic_m1 ?_
          exact rl_ireturn (pc := 61) E dX8_sure_61 rfl rfl (rfl)
        · rw [bI_n0] at c46
          refine rl_iload (pc := 49) R dX8_sure_49 rfl ?_
          refine rl_i2l (pc := 51) R dX8_sure_51 ?_
          refine rl_lconst (pc := 52) R dX8_sure_52 lc_0 ?_
          refine rl_lconst (pc := 53) R dX8_sure_53 lc_1 ?_
          refine rl_S3 (pc := 54) RS dX8_sure_54 lkX8_40 (Nat.le_of_ble_eq_true rfl) (bs_X8_inW (v := part) (x := 0) (y := 1) rfl rfl rfl) ?_
          refine rl_if_ne (pc := 57) (tgt := 62) R dX8_sure_57 rfl (fun c57 => ?_) (fun c57 => ?_)
          · exact absurd hok (by rw [bI_n0] at c57; rw [suOM, c9, c21, c34, c46, c57]; decide)
          · refine rl_iconst (pc := 60) R dX8_sure_60 ic_m1 ?_
            exact rl_ireturn (pc := 61) E dX8_sure_61 rfl rfl (rfl)
theorem bs_X8_sure {F G L W : Nat} {part : Int32} (hF : F ≤ 8) (hG : G ≤ 8) (hL : L ≤ W) (hW1 : 1 ≤ W) (hW : W ≤ 99) (hp : isW part 0 1 = true) : BS (d + 2) false yX8_sure [.ref 0, .int (nI F), .int (nI G), .int (nI L), .int (nI W), .int part] h (some (.int (if L * F + (W - L) * G = 0 then -4 else if part = 0 then nI (L * F / Nat.gcd (L * F) (L * F + (W - L) * G)) else nI ((L * F + (W - L) * G) / Nat.gcd (L * F) (L * F + (W - L) * G))))) h := by
  have b1 : L * F ≤ 99 * 8 := Nat.mul_le_mul (by omega) hF
  have b2 : (W - L) * G ≤ 99 * 8 := Nat.mul_le_mul (by omega) hG
  have wi : ∀ (x lo hi : Nat), lo ≤ x → x ≤ hi → hi < 1000 → isW (nI x) (nI lo) (nI hi) = true := fun x lo hi q1 q2 q3 => isW_t (nI_le q1 (by omega)) (nI_le q2 (by omega))
  have eab : nI L * nI F = nI (L * F) := pk_mul L F
  have ebe : nI (L * F) + (nI W - nI L) * nI G = nI (L * F + (W - L) * G) := by rw [pk_sub hL, pk_mul, nI_add]
  generalize hA : L * F = A at eab ebe b1
  generalize hB : A + (W - L) * G = B at ebe
  have hBl : B < 2000 := by omega
  refine bs_of mtX8_sure rfl (Nat.le_of_ble_eq_true rfl) (fun K R RV RS E => ?_)
  show K 0 [_, _, _, _, _, _, _, _, _, _, _] [] _
  have loop : ∀ (k x y : Nat) (z : Option Value), y ≤ k → x < 2000 → y < 2000 → Nat.gcd x y = Nat.gcd A B → ¬ B = 0 → K 94 [some (.ref 0), some (.int (nI F)), some (.int (nI G)), some (.int (nI L)), some (.int (nI W)), some (.int part), some (.int (nI A)), some (.int (nI B)), some (.int (nI x)), some (.int (nI y)), z] [] h := by
    intro k
    induction k with
    | zero =>
      intro x y z hy hx hy2 hg hB0
      have y0 : y = 0 := by omega
      subst y0
      rw [Nat.gcd_zero_right] at hg
      have hx0 : 0 < x := by rw [hg]; exact Nat.gcd_pos_of_pos_right _ (by omega)
      refine rl_iload (pc := 94) R dX8_sure_94 rfl ?_
      refine rl_if_eq (pc := 96) (tgt := 117) R dX8_sure_96 rfl (fun c96 => ?_) (fun c96 => absurd (rfl) c96)
      refine rl_iload (pc := 117) R dX8_sure_117 rfl ?_
      refine rl_if_ne (pc := 119) (tgt := 130) R dX8_sure_119 rfl (fun c119 => ?_) (fun c119 => ?_)
      · refine rl_iload (pc := 130) R dX8_sure_130 rfl ?_
        refine rl_iload (pc := 132) R dX8_sure_132 rfl ?_
        refine rl_idiv (pc := 134) R dX8_sure_134 (nI_ne0 (by omega) (by omega)) ?_
        exact rl_ireturn (pc := 135) E dX8_sure_135 rfl rfl (e_si (by rw [if_neg hB0, ← hg]; first | rw [if_pos c119] | (rw [if_neg c119, pk_div (by omega) (by omega) (by omega)])))
      · refine rl_iload (pc := 122) R dX8_sure_122 rfl ?_
        refine rl_iload (pc := 124) R dX8_sure_124 rfl ?_
        refine rl_idiv (pc := 126) R dX8_sure_126 (nI_ne0 (by omega) (by omega)) ?_
        rw [pk_div (by omega) (by omega) (by omega)]
        refine rl_goto (pc := 127) (tgt := 135) R dX8_sure_127 rfl ?_
        exact rl_ireturn (pc := 135) E dX8_sure_135 rfl rfl (e_si (by rw [if_neg hB0, ← hg]; first | rw [if_pos c119] | (rw [if_neg c119, pk_div (by omega) (by omega) (by omega)])))
    | succ k ih =>
      intro x y z hy hx hy2 hg hB0
      rcases Nat.eq_zero_or_pos y with y0 | hp0
      · subst y0
        rw [Nat.gcd_zero_right] at hg
        have hx0 : 0 < x := by rw [hg]; exact Nat.gcd_pos_of_pos_right _ (by omega)
        refine rl_iload (pc := 94) R dX8_sure_94 rfl ?_
        refine rl_if_eq (pc := 96) (tgt := 117) R dX8_sure_96 rfl (fun c96 => ?_) (fun c96 => absurd (rfl) c96)
        refine rl_iload (pc := 117) R dX8_sure_117 rfl ?_
        refine rl_if_ne (pc := 119) (tgt := 130) R dX8_sure_119 rfl (fun c119 => ?_) (fun c119 => ?_)
        · refine rl_iload (pc := 130) R dX8_sure_130 rfl ?_
          refine rl_iload (pc := 132) R dX8_sure_132 rfl ?_
          refine rl_idiv (pc := 134) R dX8_sure_134 (nI_ne0 (by omega) (by omega)) ?_
          exact rl_ireturn (pc := 135) E dX8_sure_135 rfl rfl (e_si (by rw [if_neg hB0, ← hg]; first | rw [if_pos c119] | (rw [if_neg c119, pk_div (by omega) (by omega) (by omega)])))
        · refine rl_iload (pc := 122) R dX8_sure_122 rfl ?_
          refine rl_iload (pc := 124) R dX8_sure_124 rfl ?_
          refine rl_idiv (pc := 126) R dX8_sure_126 (nI_ne0 (by omega) (by omega)) ?_
          rw [pk_div (by omega) (by omega) (by omega)]
          refine rl_goto (pc := 127) (tgt := 135) R dX8_sure_127 rfl ?_
          exact rl_ireturn (pc := 135) E dX8_sure_135 rfl rfl (e_si (by rw [if_neg hB0, ← hg]; first | rw [if_pos c119] | (rw [if_neg c119, pk_div (by omega) (by omega) (by omega)])))
      · have hmod := Nat.mod_lt x hp0
        refine rl_iload (pc := 94) R dX8_sure_94 rfl ?_
        refine rl_if_eq (pc := 96) (tgt := 117) R dX8_sure_96 rfl (fun c96 => absurd c96 (nI_ne0 hp0 (by omega))) (fun c96 => ?_)
        refine rl_iload (pc := 99) R dX8_sure_99 rfl ?_
        refine rl_iload (pc := 101) R dX8_sure_101 rfl ?_
        refine rl_irem (pc := 103) R dX8_sure_103 (nI_ne0 hp0 (by omega)) ?_
        rw [pk_rem (by omega) hp0 (by omega)]
        refine rl_istore (pc := 104) R dX8_sure_104 (Nat.le_of_ble_eq_true rfl) rfl ?_
        show K _ [_, _, _, _, _, _, _, _, _, _, _] _ _
        refine rl_iload (pc := 106) R dX8_sure_106 rfl ?_
        refine rl_istore (pc := 108) R dX8_sure_108 (Nat.le_of_ble_eq_true rfl) rfl ?_
        show K _ [_, _, _, _, _, _, _, _, _, _, _] _ _
        refine rl_iload (pc := 110) R dX8_sure_110 rfl ?_
        refine rl_istore (pc := 112) R dX8_sure_112 (Nat.le_of_ble_eq_true rfl) rfl ?_
        show K _ [_, _, _, _, _, _, _, _, _, _, _] _ _
        refine rl_goto (pc := 114) (tgt := 94) R dX8_sure_114 rfl (ih y (x % y) _ (by omega) hy2 (by omega) (by rw [← hg, Nat.gcd_comm y, ← Nat.gcd_rec, Nat.gcd_comm]) hB0)
  refine rl_iload_n (pc := 0) R dX8_sure_0 rfl ?_
  refine rl_i2l (pc := 1) R dX8_sure_1 ?_
  refine rl_lconst (pc := 2) R dX8_sure_2 lc_0 ?_
  refine rl_ldc2 (pc := 3) R dX8_sure_3 kdX8_64 ?_
  refine rl_S3 (pc := 6) RS dX8_sure_6 lkX8_40 (Nat.le_of_ble_eq_true rfl) (bs_X8_inW (v := nI F) (x := 0) (y := 8) rfl rfl rfl) ?_
  refine rl_if_eq (pc := 9) (tgt := 60) R dX8_sure_9 rfl (fun c9 => absurd c9 (by rw [show isW (nI F) 0 8 = true from wi F 0 8 (by omega) hF (by omega)]; decide)) (fun c9 => ?_)
  refine rl_iload_n (pc := 12) R dX8_sure_12 rfl ?_
  refine rl_i2l (pc := 13) R dX8_sure_13 ?_
  refine rl_lconst (pc := 14) R dX8_sure_14 lc_0 ?_
  refine rl_ldc2 (pc := 15) R dX8_sure_15 kdX8_64 ?_
  refine rl_S3 (pc := 18) RS dX8_sure_18 lkX8_40 (Nat.le_of_ble_eq_true rfl) (bs_X8_inW (v := nI G) (x := 0) (y := 8) rfl rfl rfl) ?_
  refine rl_if_eq (pc := 21) (tgt := 60) R dX8_sure_21 rfl (fun c21 => absurd c21 (by rw [show isW (nI G) 0 8 = true from wi G 0 8 (by omega) hG (by omega)]; decide)) (fun c21 => ?_)
  refine rl_iload (pc := 24) R dX8_sure_24 rfl ?_
  refine rl_i2l (pc := 26) R dX8_sure_26 ?_
  refine rl_lconst (pc := 27) R dX8_sure_27 lc_1 ?_
  refine rl_ldc2 (pc := 28) R dX8_sure_28 kdX8_44 ?_
  refine rl_S3 (pc := 31) RS dX8_sure_31 lkX8_40 (Nat.le_of_ble_eq_true rfl) (bs_X8_inW (v := nI W) (x := 1) (y := 99) rfl rfl rfl) ?_
  refine rl_if_eq (pc := 34) (tgt := 60) R dX8_sure_34 rfl (fun c34 => absurd c34 (by rw [show isW (nI W) 1 99 = true from wi W 1 99 (by omega) (by omega) (by omega)]; decide)) (fun c34 => ?_)
  refine rl_iload_n (pc := 37) R dX8_sure_37 rfl ?_
  refine rl_i2l (pc := 38) R dX8_sure_38 ?_
  refine rl_lconst (pc := 39) R dX8_sure_39 lc_0 ?_
  refine rl_iload (pc := 40) R dX8_sure_40 rfl ?_
  refine rl_i2l (pc := 42) R dX8_sure_42 ?_
  refine rl_S3 (pc := 43) RS dX8_sure_43 lkX8_40 (Nat.le_of_ble_eq_true rfl) (bs_X8_inW (v := nI L) (x := 0) (y := nI W) rfl rfl rfl) ?_
  refine rl_if_eq (pc := 46) (tgt := 60) R dX8_sure_46 rfl (fun c46 => absurd c46 (by rw [show isW (nI L) 0 (nI W) = true from wi L 0 W (by omega) hL (by omega)]; decide)) (fun c46 => ?_)
  refine rl_iload (pc := 49) R dX8_sure_49 rfl ?_
  refine rl_i2l (pc := 51) R dX8_sure_51 ?_
  refine rl_lconst (pc := 52) R dX8_sure_52 lc_0 ?_
  refine rl_lconst (pc := 53) R dX8_sure_53 lc_1 ?_
  refine rl_S3 (pc := 54) RS dX8_sure_54 lkX8_40 (Nat.le_of_ble_eq_true rfl) (bs_X8_inW (v := part) (x := 0) (y := 1) rfl rfl rfl) ?_
  refine rl_if_ne (pc := 57) (tgt := 62) R dX8_sure_57 rfl (fun c57 => ?_) (fun c57 => absurd c57 (by rw [hp]; decide))
  refine rl_iload_n (pc := 62) R dX8_sure_62 rfl ?_
  refine rl_iload_n (pc := 63) R dX8_sure_63 rfl ?_
  refine rl_imul (pc := 64) R dX8_sure_64 ?_
  rw [eab]
  refine rl_istore (pc := 65) R dX8_sure_65 (Nat.le_of_ble_eq_true rfl) rfl ?_
  show K _ [_, _, _, _, _, _, _, _, _, _, _] _ _
  refine rl_iload (pc := 67) R dX8_sure_67 rfl ?_
  refine rl_iload (pc := 69) R dX8_sure_69 rfl ?_
  refine rl_iload_n (pc := 71) R dX8_sure_71 rfl ?_
  refine rl_isub (pc := 72) R dX8_sure_72 ?_
  refine rl_iload_n (pc := 73) R dX8_sure_73 rfl ?_
  refine rl_imul (pc := 74) R dX8_sure_74 ?_
  refine rl_iadd (pc := 75) R dX8_sure_75 ?_
  rw [ebe]
  refine rl_istore (pc := 76) R dX8_sure_76 (Nat.le_of_ble_eq_true rfl) rfl ?_
  show K _ [_, _, _, _, _, _, _, _, _, _, _] _ _
  refine rl_iload (pc := 78) R dX8_sure_78 rfl ?_
  refine rl_if_ne (pc := 80) (tgt := 86) R dX8_sure_80 rfl (fun c80 => ?_) (fun c80 => ?_)
  · have cB : ¬ B = 0 := fun z => c80 (by rw [z]; rfl)
    refine rl_iload (pc := 86) R dX8_sure_86 rfl ?_
    refine rl_istore (pc := 88) R dX8_sure_88 (Nat.le_of_ble_eq_true rfl) rfl ?_
    show K _ [_, _, _, _, _, _, _, _, _, _, _] _ _
    refine rl_iload (pc := 90) R dX8_sure_90 rfl ?_
    refine rl_istore (pc := 92) R dX8_sure_92 (Nat.le_of_ble_eq_true rfl) rfl ?_
    show K _ [_, _, _, _, _, _, _, _, _, _, _] _ _
    exact loop B A B none (Nat.le_refl _) (by omega) hBl rfl cB
  · have cB : B = 0 := (nI_5 (by omega)).mp c80
    refine rl_bipush (pc := 83) R dX8_sure_83 bc_m4 ?_
    exact rl_ireturn (pc := 85) E dX8_sure_85 rfl rfl (e_si (if_pos cB))
theorem bs_X8_bet_bad {x y w : Int32} (hok : (isW x 0 99 && (isW y 0 99 && isW w 0 1)) = false) : BS (d + 2) false yX8_bet [.ref 0, .int x, .int y, .int w] h (some (.int (-1))) h := by
  refine bs_of mtX8_bet rfl (Nat.le_of_ble_eq_true rfl) (fun K R RV RS E => ?_)
  show K 0 [_, _, _, _, _, _, _] [] _
  refine rl_iload_n (pc := 0) R dX8_bet_0 rfl ?_
  refine rl_i2l (pc := 1) R dX8_bet_1 ?_
  refine rl_lconst (pc := 2) R dX8_bet_2 lc_0 ?_
  refine rl_ldc2 (pc := 3) R dX8_bet_3 kdX8_44 ?_
  refine rl_S3 (pc := 6) RS dX8_bet_6 lkX8_40 (Nat.le_of_ble_eq_true rfl) (bs_X8_inW (v := x) (x := 0) (y := 99) rfl rfl rfl) ?_
  refine rl_if_eq (pc := 9) (tgt := 34) R dX8_bet_9 rfl (fun c9 => ?_) (fun c9 => ?_)
  · rw [bI_0] at c9
    refine rl_iconst (pc := 34) R dX8_bet_34 ic_m1 ?_
    exact rl_ireturn (pc := 35) E dX8_bet_35 rfl rfl (rfl)
  · rw [bI_n0] at c9
    refine rl_iload_n (pc := 12) R dX8_bet_12 rfl ?_
    refine rl_i2l (pc := 13) R dX8_bet_13 ?_
    refine rl_lconst (pc := 14) R dX8_bet_14 lc_0 ?_
    refine rl_ldc2 (pc := 15) R dX8_bet_15 kdX8_44 ?_
    refine rl_S3 (pc := 18) RS dX8_bet_18 lkX8_40 (Nat.le_of_ble_eq_true rfl) (bs_X8_inW (v := y) (x := 0) (y := 99) rfl rfl rfl) ?_
    refine rl_if_eq (pc := 21) (tgt := 34) R dX8_bet_21 rfl (fun c21 => ?_) (fun c21 => ?_)
    · rw [bI_0] at c21
      refine rl_iconst (pc := 34) R dX8_bet_34 ic_m1 ?_
      exact rl_ireturn (pc := 35) E dX8_bet_35 rfl rfl (rfl)
    · rw [bI_n0] at c21
      refine rl_iload_n (pc := 24) R dX8_bet_24 rfl ?_
      refine rl_i2l (pc := 25) R dX8_bet_25 ?_
      refine rl_lconst (pc := 26) R dX8_bet_26 lc_0 ?_
      refine rl_lconst (pc := 27) R dX8_bet_27 lc_1 ?_
      refine rl_S3 (pc := 28) RS dX8_bet_28 lkX8_40 (Nat.le_of_ble_eq_true rfl) (bs_X8_inW (v := w) (x := 0) (y := 1) rfl rfl rfl) ?_
      refine rl_if_ne (pc := 31) (tgt := 36) R dX8_bet_31 rfl (fun c31 => ?_) (fun c31 => ?_)
      · exact absurd hok (by rw [bI_n0] at c31; rw [c9, c21, c31]; decide)
      · refine rl_iconst (pc := 34) R dX8_bet_34 ic_m1 ?_
        exact rl_ireturn (pc := 35) E dX8_bet_35 rfl rfl (rfl)
theorem bs_X8_bet {x y w : Int32} (hok : (isW x 0 99 && (isW y 0 99 && isW w 0 1)) = true) : BS (d + 2) false yX8_bet [.ref 0, .int x, .int y, .int w] h (some (.int (btM x y w 197 2))) h := by
  simp only [Bool.and_eq_true] at hok
  refine bs_of mtX8_bet rfl (Nat.le_of_ble_eq_true rfl) (fun K R RV RS E => ?_)
  show K 0 [_, _, _, _, _, _, _] [] _
  have loop : ∀ (j b : Nat) (z5 z6 : Option Value), b + j = 199 → 2 ≤ b → btM x y w j b = btM x y w 197 2 → K 39 [some (.ref 0), some (.int x), some (.int y), some (.int w), some (.int (nI b)), z5, z6] [] h := by
    intro j
    induction j with
    | zero =>
      intro b z5 z6 hb h2 hs
      refine rl_iload (pc := 39) R dX8_bet_39 rfl ?_
      refine rl_sipush (pc := 41) R dX8_bet_41 sc_199 ?_
      refine rl_icmp_ge (pc := 44) (tgt := 122) R dX8_bet_44 rfl (fun c44 => ?_) (fun c44 => absurd (nI_le (a := 199) (by omega) (by omega)) c44)
      refine rl_bipush (pc := 122) R dX8_bet_122 bc_m4 ?_
      exact rl_ireturn (pc := 124) E dX8_bet_124 rfl rfl (e_si (by rw [← hs]; rfl))
    | succ j ih =>
      intro b z5 z6 hb h2 hs
      have inner : ∀ (q a : Nat) (z6 : Option Value), a + q = b → 1 ≤ a → blM x y w b q a = blM x y w b (b - 1) 1 → K 50 [some (.ref 0), some (.int x), some (.int y), some (.int w), some (.int (nI b)), some (.int (nI a)), z6] [] h := by
        intro q
        induction q with
        | zero =>
          intro a z6 ha h1 hq
          refine rl_iload (pc := 50) R dX8_bet_50 rfl ?_
          refine rl_iload (pc := 52) R dX8_bet_52 rfl ?_
          refine rl_icmp_ge (pc := 54) (tgt := 116) R dX8_bet_54 rfl (fun c54 => ?_) (fun c54 => absurd (nI_le (by omega) (by omega)) c54)
          refine rl_iinc (pc := 116) R dX8_bet_116 rfl (ii_n b) rfl ?_
          show K _ [_, _, _, _, _, _, _] _ _
          refine rl_goto (pc := 119) (tgt := 39) R dX8_bet_119 rfl (ih (b + 1) _ _ (by omega) (by omega) (by rw [← hs, btM, ← hq]; rfl))
        | succ q ih2 =>
          intro a z6 ha h1 hq
          have hsub : nI b - nI a = nI (b - a) := pk_sub (by omega)
          have no : bdM x y b a = false → K 110 [some (.ref 0), some (.int x), some (.int y), some (.int w), some (.int (nI b)), some (.int (nI a)), some (.int (nI (b - a)))] [] h := by
            intro hno
            refine rl_iinc (pc := 110) R dX8_bet_110 rfl (ii_n a) rfl ?_
            show K _ [_, _, _, _, _, _, _] _ _
            refine rl_goto (pc := 113) (tgt := 50) R dX8_bet_113 rfl (ih2 (a + 1) _ (by omega) (by omega) (by rw [← hq, blM, hno]; rfl))
          refine rl_iload (pc := 50) R dX8_bet_50 rfl ?_
          refine rl_iload (pc := 52) R dX8_bet_52 rfl ?_
          refine rl_icmp_ge (pc := 54) (tgt := 116) R dX8_bet_54 rfl (fun c54 => absurd c54 (nI_ge (by omega) (by omega))) (fun c54 => ?_)
          refine rl_iload (pc := 57) R dX8_bet_57 rfl ?_
          refine rl_iload (pc := 59) R dX8_bet_59 rfl ?_
          refine rl_isub (pc := 61) R dX8_bet_61 ?_
          rw [hsub]
          refine rl_istore (pc := 62) R dX8_bet_62 (Nat.le_of_ble_eq_true rfl) rfl ?_
          show K _ [_, _, _, _, _, _, _] _ _
          refine rl_iload (pc := 64) R dX8_bet_64 rfl ?_
          refine rl_bipush (pc := 66) R dX8_bet_66 bc_100 ?_
          refine rl_icmp_ge (pc := 68) (tgt := 110) R dX8_bet_68 rfl (fun c68 => ?_) (fun c68 => ?_)
          · exact no (by rw [bdM, decide_eq_false (fun z => nI_ge (b := 100) z (by omega) c68)]; rfl)
          · have e68 : a < 100 := (nI_ltI (b := 100) (by omega) (by decide)).mp (Int32.not_le.mp c68)
            refine rl_iload (pc := 71) R dX8_bet_71 rfl ?_
            refine rl_bipush (pc := 73) R dX8_bet_73 bc_100 ?_
            refine rl_icmp_ge (pc := 75) (tgt := 110) R dX8_bet_75 rfl (fun c75 => ?_) (fun c75 => ?_)
            · exact no (by rw [bdM, decide_eq_true e68, decide_eq_false (fun z => nI_ge (b := 100) z (by omega) c75)]; rfl)
            · have e75 : b - a < 100 := (nI_ltI (b := 100) (by omega) (by decide)).mp (Int32.not_le.mp c75)
              refine rl_iload_n (pc := 78) R dX8_bet_78 rfl ?_
              refine rl_iload (pc := 79) R dX8_bet_79 rfl ?_
              refine rl_imul (pc := 81) R dX8_bet_81 ?_
              refine rl_iload (pc := 82) R dX8_bet_82 rfl ?_
              refine rl_isub (pc := 84) R dX8_bet_84 ?_
              refine rl_if_le (pc := 85) (tgt := 110) R dX8_bet_85 rfl (fun c85 => ?_) (fun c85 => ?_)
              · exact no (by rw [bdM, decide_eq_true e68, decide_eq_true e75, lsOk, hsub, decide_eq_false (Int32.not_lt.mpr c85)]; rfl)
              · rw [Int32.not_le] at c85
                refine rl_iload_n (pc := 88) R dX8_bet_88 rfl ?_
                refine rl_iload (pc := 89) R dX8_bet_89 rfl ?_
                refine rl_imul (pc := 91) R dX8_bet_91 ?_
                refine rl_iload (pc := 92) R dX8_bet_92 rfl ?_
                refine rl_isub (pc := 94) R dX8_bet_94 ?_
                refine rl_if_le (pc := 95) (tgt := 110) R dX8_bet_95 rfl (fun c95 => ?_) (fun c95 => ?_)
                · exact no (by rw [bdM, decide_eq_true e68, decide_eq_true e75, lsOk, hsub, decide_eq_true c85, decide_eq_false (Int32.not_lt.mpr c95)]; rfl)
                · rw [Int32.not_le] at c95
                  refine rl_iload_n (pc := 98) R dX8_bet_98 rfl ?_
                  refine rl_if_ne (pc := 99) (tgt := 107) R dX8_bet_99 rfl (fun c99 => ?_) (fun c99 => ?_)
                  · refine rl_iload (pc := 107) R dX8_bet_107 rfl ?_
                    exact rl_ireturn (pc := 109) E dX8_bet_109 rfl rfl (e_si (by rw [← hs, btM, ← hq, blM, bdM, decide_eq_true e68, decide_eq_true e75, lsOk, hsub, decide_eq_true c85, decide_eq_true c95]; first | exact (if_pos c99) | exact (if_neg c99)))
                  · refine rl_iload (pc := 102) R dX8_bet_102 rfl ?_
                    refine rl_goto (pc := 104) (tgt := 109) R dX8_bet_104 rfl ?_
                    exact rl_ireturn (pc := 109) E dX8_bet_109 rfl rfl (e_si (by rw [← hs, btM, ← hq, blM, bdM, decide_eq_true e68, decide_eq_true e75, lsOk, hsub, decide_eq_true c85, decide_eq_true c95]; first | exact (if_pos c99) | exact (if_neg c99)))
      refine rl_iload (pc := 39) R dX8_bet_39 rfl ?_
      refine rl_sipush (pc := 41) R dX8_bet_41 sc_199 ?_
      refine rl_icmp_ge (pc := 44) (tgt := 122) R dX8_bet_44 rfl (fun c44 => absurd c44 (nI_ge (b := 199) (by omega) (by omega))) (fun c44 => ?_)
      refine rl_iconst (pc := 47) R dX8_bet_47 ic_1 ?_
      refine rl_istore (pc := 48) R dX8_bet_48 (Nat.le_of_ble_eq_true rfl) rfl ?_
      show K _ [_, _, _, _, _, _, _] _ _
      exact inner (b - 1) 1 _ (by omega) (by decide) rfl
  refine rl_iload_n (pc := 0) R dX8_bet_0 rfl ?_
  refine rl_i2l (pc := 1) R dX8_bet_1 ?_
  refine rl_lconst (pc := 2) R dX8_bet_2 lc_0 ?_
  refine rl_ldc2 (pc := 3) R dX8_bet_3 kdX8_44 ?_
  refine rl_S3 (pc := 6) RS dX8_bet_6 lkX8_40 (Nat.le_of_ble_eq_true rfl) (bs_X8_inW (v := x) (x := 0) (y := 99) rfl rfl rfl) ?_
  refine rl_if_eq (pc := 9) (tgt := 34) R dX8_bet_9 rfl (fun c9 => absurd c9 (by rw [hok.1]; decide)) (fun c9 => ?_)
  refine rl_iload_n (pc := 12) R dX8_bet_12 rfl ?_
  refine rl_i2l (pc := 13) R dX8_bet_13 ?_
  refine rl_lconst (pc := 14) R dX8_bet_14 lc_0 ?_
  refine rl_ldc2 (pc := 15) R dX8_bet_15 kdX8_44 ?_
  refine rl_S3 (pc := 18) RS dX8_bet_18 lkX8_40 (Nat.le_of_ble_eq_true rfl) (bs_X8_inW (v := y) (x := 0) (y := 99) rfl rfl rfl) ?_
  refine rl_if_eq (pc := 21) (tgt := 34) R dX8_bet_21 rfl (fun c21 => absurd c21 (by rw [hok.2.1]; decide)) (fun c21 => ?_)
  refine rl_iload_n (pc := 24) R dX8_bet_24 rfl ?_
  refine rl_i2l (pc := 25) R dX8_bet_25 ?_
  refine rl_lconst (pc := 26) R dX8_bet_26 lc_0 ?_
  refine rl_lconst (pc := 27) R dX8_bet_27 lc_1 ?_
  refine rl_S3 (pc := 28) RS dX8_bet_28 lkX8_40 (Nat.le_of_ble_eq_true rfl) (bs_X8_inW (v := w) (x := 0) (y := 1) rfl rfl rfl) ?_
  refine rl_if_ne (pc := 31) (tgt := 36) R dX8_bet_31 rfl (fun c31 => ?_) (fun c31 => absurd c31 (by rw [hok.2.2]; decide))
  refine rl_iconst (pc := 36) R dX8_bet_36 ic_2 ?_
  refine rl_istore (pc := 37) R dX8_bet_37 (Nat.le_of_ble_eq_true rfl) rfl ?_
  show K _ [_, _, _, _, _, _, _] _ _
  exact loop 197 2 none none rfl (by decide) rfl
end M3
