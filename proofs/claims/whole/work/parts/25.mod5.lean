/-! THE REFERENCE: lots, settings, counts, the tape, images -/
section M5
variable {d : Nat} {h : List sm_C} {ik td at_ sz rd : Int32} {n : Nat} {nw wo co se a w x : Nat → Int32}
theorem bs_X8_lots {lies : Nat} (m0 : h[0]? = some (mO ik td at_ sz rd)) (hN : rN h n nw wo co se a) (hl : lies ≤ 9) (he : se 0 = nI lies) : BS (d + 3) false yX8_lots [.ref 0] h (some (.int (lotM n nw (se 1) n 0 0 lies 0 (se 3)).1)) (h.set 1 (hI 89 (upd a 3 (lotM n nw (se 1) n 0 0 lies 0 (se 3)).2))) := by
  have hn := hN.2.1
  have h4 := hN.2.2.1
  have m1 := hN.1
  obtain ⟨s0, s1, s2, s3⟩ := hN.2.2.2.1
  refine bs_of mtX8_lots rfl (Nat.le_of_ble_eq_true rfl) (fun K R RV RS E => ?_)
  show K 0 [_, _, _, _, _, _] [] _
  have loop : ∀ (j i : Nat) (s : Int32) (l mi : Nat) (v : Int32) (z : Option Value), i + j = n → l ≤ 9 → mi ≤ 3 → lotM n nw (se 1) j i s l mi v = lotM n nw (se 1) n 0 0 lies 0 (se 3) → K 14 [some (.ref 0), some (.int s), some (.int (nI l)), some (.int (nI mi)), some (.int (nI i)), z] [] (h.set 1 (hI 89 (upd a 3 v))) := by
    intro j
    induction j with
    | zero =>
      intro i s l mi v z hi hll hm hs
      rw [← hs] at E
      have a0 : (h.set 1 (hI 89 (upd a 3 v)))[0]? = some (mO ik td at_ sz rd) := m0_oth m0 (by decide)
      have aN : rN (h.set 1 (hI 89 (upd a 3 v))) n nw wo co (upd se 3 v) (upd a 3 v) := rN_set hN (by decide) v
      refine rl_iload (pc := 14) R dX8_lots_14 rfl ?_
      refine rl_aload_n (pc := 16) R dX8_lots_16 rfl ?_
      refine rl_getf (pc := 17) R dX8_lots_17 fkX8_7 (by first | assumption | rfl) rfl ?_
      refine rl_iconst (pc := 20) R dX8_lots_20 ic_4 ?_
      refine rl_iald (pc := 21) R dX8_lots_21 aN.1 (rfl : (4 : Int32) = nI 4) (by decide) (by decide) ?_
      rw [aN.2.2.1]
      refine rl_icmp_ge (pc := 22) (tgt := 136) R dX8_lots_22 rfl (fun c22 => ?_) (fun c22 => absurd (nI_le (by omega) (by omega)) c22)
      refine rl_iload_n (pc := 136) R dX8_lots_136 rfl ?_
      exact rl_ireturn (pc := 137) E dX8_lots_137 rfl rfl (rfl)
    | succ j ih =>
      intro i s l mi v z hi hll hm hs
      have a0 : ∀ v, (h.set 1 (hI 89 (upd a 3 v)))[0]? = some (mO ik td at_ sz rd) := fun v => m0_oth m0 (by decide)
      have aN : ∀ v, rN (h.set 1 (hI 89 (upd a 3 v))) n nw wo co (upd se 3 v) (upd a 3 v) := fun v => rN_set hN (by decide) v
      have hsub : nI n - nI i = nI (n - i) := pk_sub (by omega)
      have fin : ∀ b : Bool, b = lyL n nw (se 1) (drM v) i l mi → K 90 [some (.ref 0), some (.int s), some (.int (nI l)), some (.int (nI mi)), some (.int (nI i)), z] [.int (bI b)] (h.set 1 (hI 89 (upd a 3 (drM v)))) := by
        intro b hb
        have hlp : b = true → 0 < l := by
          intro hbt
          rw [hbt] at hb
          have := hb.symm
          simp only [lyL, myM, Bool.and_eq_true, decide_eq_true_eq] at this
          exact this.1.1
        have nx : ∀ (l2 : Nat) (s2 : Int32) (z2 : Option Value), l2 = (if b then l - 1 else l) → s2 = (if b then s ||| b1 i else s) → K 130 [some (.ref 0), some (.int s2), some (.int (nI l2)), some (.int (nI (mdM i mi b))), some (.int (nI i)), z2] [] (h.set 1 (hI 89 (upd a 3 (drM v)))) := by
          intro l2 s2 z2 e1 e2
          have e3 : lotM n nw (se 1) j (i + 1) s2 l2 (mdM i mi b) (drM v) = lotM n nw (se 1) n 0 0 lies 0 (se 3) := by
            rw [← hs, lotM, e1, e2]
            have hb2 := hb.symm
            cases b with
            | true => rw [hb2]; rfl
            | false => rw [hb2]; rfl
          refine rl_iinc (pc := 130) R dX8_lots_130 rfl (ii_n i) rfl ?_
          show K _ [_, _, _, _, _, _] _ _
          refine rl_goto (pc := 133) (tgt := 14) R dX8_lots_133 rfl (ih (i + 1) s2 l2 _ _ _ (by omega) (by rw [e1]; split <;> omega) (mdM_le _ _ _) e3)
        cases b with
        | false =>
          refine rl_istore (pc := 90) R dX8_lots_90 (Nat.le_of_ble_eq_true rfl) rfl ?_
          show K _ [_, _, _, _, _, _] _ _
          refine rl_iload_n (pc := 92) R dX8_lots_92 rfl ?_
          refine rl_iload (pc := 93) R dX8_lots_93 rfl ?_
          refine rl_if_eq (pc := 95) (tgt := 105) R dX8_lots_95 rfl (fun c95 => ?_) (fun c95 => absurd (rfl) c95)
          refine rl_iconst (pc := 105) R dX8_lots_105 ic_0 ?_
          refine rl_ior (pc := 106) R dX8_lots_106 ?_
          rw [Int32.or_zero]
          refine rl_istore_n (pc := 107) R dX8_lots_107 (Nat.le_of_ble_eq_true rfl) rfl ?_
          show K _ [_, _, _, _, _, _] _ _
          refine rl_iload (pc := 108) R dX8_lots_108 rfl ?_
          refine rl_iload_n (pc := 110) R dX8_lots_110 rfl ?_
          refine rl_iload (pc := 111) R dX8_lots_111 rfl ?_
          refine rl_S3 (pc := 113) RS dX8_lots_113 lkX8_105 (Nat.le_of_ble_eq_true rfl) (bs_X8_minds (b := false) (by omega) hm) ?_
          refine rl_istore_n (pc := 116) R dX8_lots_116 (Nat.le_of_ble_eq_true rfl) rfl ?_
          show K _ [_, _, _, _, _, _] _ _
          refine rl_iload_n (pc := 117) R dX8_lots_117 rfl ?_
          refine rl_iload (pc := 118) R dX8_lots_118 rfl ?_
          refine rl_if_eq (pc := 120) (tgt := 127) R dX8_lots_120 rfl (fun c120 => ?_) (fun c120 => absurd (rfl) c120)
          refine rl_iconst (pc := 127) R dX8_lots_127 ic_0 ?_
          refine rl_isub (pc := 128) R dX8_lots_128 ?_
          rw [Int32.sub_zero]
          refine rl_istore_n (pc := 129) R dX8_lots_129 (Nat.le_of_ble_eq_true rfl) rfl ?_
          show K _ [_, _, _, _, _, _] _ _
          exact nx l _ _ rfl rfl
        | true =>
          obtain ⟨l1, rfl⟩ : ∃ l1, l = l1 + 1 := ⟨l - 1, by have := hlp rfl; omega⟩
          refine rl_istore (pc := 90) R dX8_lots_90 (Nat.le_of_ble_eq_true rfl) rfl ?_
          show K _ [_, _, _, _, _, _] _ _
          refine rl_iload_n (pc := 92) R dX8_lots_92 rfl ?_
          refine rl_iload (pc := 93) R dX8_lots_93 rfl ?_
          refine rl_if_eq (pc := 95) (tgt := 105) R dX8_lots_95 rfl (fun c95 => absurd c95 (by decide)) (fun c95 => ?_)
          refine rl_iconst (pc := 98) R dX8_lots_98 ic_1 ?_
          refine rl_iload (pc := 99) R dX8_lots_99 rfl ?_
          refine rl_ishl (pc := 101) R dX8_lots_101 ?_
          refine rl_goto (pc := 102) (tgt := 106) R dX8_lots_102 rfl ?_
          refine rl_ior (pc := 106) R dX8_lots_106 ?_
          refine rl_istore_n (pc := 107) R dX8_lots_107 (Nat.le_of_ble_eq_true rfl) rfl ?_
          show K _ [_, _, _, _, _, _] _ _
          refine rl_iload (pc := 108) R dX8_lots_108 rfl ?_
          refine rl_iload_n (pc := 110) R dX8_lots_110 rfl ?_
          refine rl_iload (pc := 111) R dX8_lots_111 rfl ?_
          refine rl_S3 (pc := 113) RS dX8_lots_113 lkX8_105 (Nat.le_of_ble_eq_true rfl) (bs_X8_minds (b := true) (by omega) hm) ?_
          refine rl_istore_n (pc := 116) R dX8_lots_116 (Nat.le_of_ble_eq_true rfl) rfl ?_
          show K _ [_, _, _, _, _, _] _ _
          refine rl_iload_n (pc := 117) R dX8_lots_117 rfl ?_
          refine rl_iload (pc := 118) R dX8_lots_118 rfl ?_
          refine rl_if_eq (pc := 120) (tgt := 127) R dX8_lots_120 rfl (fun c120 => absurd c120 (by decide)) (fun c120 => ?_)
          refine rl_iconst (pc := 123) R dX8_lots_123 ic_1 ?_
          refine rl_goto (pc := 124) (tgt := 128) R dX8_lots_124 rfl ?_
          refine rl_isub (pc := 128) R dX8_lots_128 ?_
          rw [nI_pred]
          refine rl_istore_n (pc := 129) R dX8_lots_129 (Nat.le_of_ble_eq_true rfl) rfl ?_
          show K _ [_, _, _, _, _, _] _ _
          exact nx l1 _ _ rfl rfl
      refine rl_iload (pc := 14) R dX8_lots_14 rfl ?_
      refine rl_aload_n (pc := 16) R dX8_lots_16 rfl ?_
      refine rl_getf (pc := 17) R dX8_lots_17 fkX8_7 (a0 v) rfl ?_
      refine rl_iconst (pc := 20) R dX8_lots_20 ic_4 ?_
      refine rl_iald (pc := 21) R dX8_lots_21 (aN v).1 (rfl : (4 : Int32) = nI 4) (by decide) (by decide) ?_
      rw [(aN v).2.2.1]
      refine rl_icmp_ge (pc := 22) (tgt := 136) R dX8_lots_22 rfl (fun c22 => absurd c22 (nI_ge (by omega) (by omega))) (fun c22 => ?_)
      refine rl_aload_n (pc := 25) R dX8_lots_25 rfl ?_
      refine rl_getf (pc := 26) R dX8_lots_26 fkX8_7 (a0 v) rfl ?_
      refine rl_iconst (pc := 29) R dX8_lots_29 ic_3 ?_
      refine rl_aload_n (pc := 30) R dX8_lots_30 rfl ?_
      refine rl_getf (pc := 31) R dX8_lots_31 fkX8_7 (a0 v) rfl ?_
      refine rl_iconst (pc := 34) R dX8_lots_34 ic_3 ?_
      refine rl_iald (pc := 35) R dX8_lots_35 (aN v).1 (rfl : (3 : Int32) = nI 3) (by decide) (by decide) ?_
      rw [upd_same]
      refine rl_i2l (pc := 36) R dX8_lots_36 ?_
      refine rl_ldc2 (pc := 37) R dX8_lots_37 kdX8_157 ?_
      refine rl_lmul (pc := 40) R dX8_lots_40 ?_
      refine rl_ldc2 (pc := 41) R dX8_lots_41 kdX8_159 ?_
      refine rl_ladd (pc := 44) R dX8_lots_44 ?_
      refine rl_ldc2 (pc := 45) R dX8_lots_45 kdX8_161 ?_
      refine rl_land (pc := 48) R dX8_lots_48 ?_
      refine rl_l2i (pc := 49) R dX8_lots_49 ?_
      refine rl_iast (pc := 50) R dX8_lots_50 (aN v).1 (rfl : (3 : Int32) = nI 3) (by decide) (by decide) ?_
      rw [upd_upd, List.set_set]
      show K 51 _ [] (h.set 1 (hI 89 (upd a 3 (drM v))))
      refine rl_aload_n (pc := 51) R dX8_lots_51 rfl ?_
      refine rl_iload (pc := 52) R dX8_lots_52 rfl ?_
      refine rl_iload_n (pc := 54) R dX8_lots_54 rfl ?_
      refine rl_iload_n (pc := 55) R dX8_lots_55 rfl ?_
      refine rl_V3 (pc := 56) RV dX8_lots_56 lkX8_141 (a0 _) rfl (Nat.le_of_ble_eq_true rfl) (bs_X8_mayLie (a0 _) (aN (drM v)) (by omega) (by omega) hm) ?_
      rw [show upd se 3 (drM v) 1 = se 1 from rfl]
      refine rl_if_eq (pc := 59) (tgt := 89) R dX8_lots_59 rfl (fun c59 => ?_) (fun c59 => ?_)
      · rw [bI_0] at c59
        refine rl_iconst (pc := 89) R dX8_lots_89 ic_0 ?_
        first | exact fin false (by rw [lyL, c59]; rfl) | exact fin false (by rw [lyL, c59, decide_eq_false (Int32.not_lt.mpr c82)]; rfl) | exact fin true (by rw [lyL, c59, decide_eq_true (Int32.not_le.mp c82)]; rfl)
      · rw [bI_n0] at c59
        refine rl_aload_n (pc := 62) R dX8_lots_62 rfl ?_
        refine rl_getf (pc := 63) R dX8_lots_63 fkX8_7 (a0 _) rfl ?_
        refine rl_iconst (pc := 66) R dX8_lots_66 ic_3 ?_
        refine rl_iald (pc := 67) R dX8_lots_67 (aN (drM v)).1 (rfl : (3 : Int32) = nI 3) (by decide) (by decide) ?_
        rw [upd_same]
        refine rl_ldc (pc := 68) R dX8_lots_68 kcX8_163 ?_
        refine rl_idiv (pc := 70) R dX8_lots_70 (by decide) ?_
        refine rl_aload_n (pc := 71) R dX8_lots_71 rfl ?_
        refine rl_getf (pc := 72) R dX8_lots_72 fkX8_7 (a0 _) rfl ?_
        refine rl_iconst (pc := 75) R dX8_lots_75 ic_4 ?_
        refine rl_iald (pc := 76) R dX8_lots_76 (aN (drM v)).1 (rfl : (4 : Int32) = nI 4) (by decide) (by decide) ?_
        rw [(aN (drM v)).2.2.1]
        refine rl_iload (pc := 77) R dX8_lots_77 rfl ?_
        refine rl_isub (pc := 79) R dX8_lots_79 ?_
        refine rl_irem (pc := 80) R dX8_lots_80 (by rw [hsub]; exact nI_ne0 (by omega) (by omega)) ?_
        refine rl_iload_n (pc := 81) R dX8_lots_81 rfl ?_
        refine rl_icmp_ge (pc := 82) (tgt := 89) R dX8_lots_82 rfl (fun c82 => ?_) (fun c82 => ?_)
        · refine rl_iconst (pc := 89) R dX8_lots_89 ic_0 ?_
          first | exact fin false (by rw [lyL, c59]; rfl) | exact fin false (by rw [lyL, c59, decide_eq_false (Int32.not_lt.mpr c82)]; rfl) | exact fin true (by rw [lyL, c59, decide_eq_true (Int32.not_le.mp c82)]; rfl)
        · refine rl_iconst (pc := 85) R dX8_lots_85 ic_1 ?_
          refine rl_goto (pc := 86) (tgt := 90) R dX8_lots_86 rfl ?_
          first | exact fin false (by rw [lyL, c59]; rfl) | exact fin false (by rw [lyL, c59, decide_eq_false (Int32.not_lt.mpr c82)]; rfl) | exact fin true (by rw [lyL, c59, decide_eq_true (Int32.not_le.mp c82)]; rfl)
  refine rl_iconst (pc := 0) R dX8_lots_0 ic_0 ?_
  refine rl_istore_n (pc := 1) R dX8_lots_1 (Nat.le_of_ble_eq_true rfl) rfl ?_
  show K _ [_, _, _, _, _, _] _ _
  refine rl_aload_n (pc := 2) R dX8_lots_2 rfl ?_
  refine rl_getf (pc := 3) R dX8_lots_3 fkX8_7 (by first | assumption | rfl) rfl ?_
  refine rl_iconst (pc := 6) R dX8_lots_6 ic_0 ?_
  refine rl_iald (pc := 7) R dX8_lots_7 m1 (rfl : (0 : Int32) = nI 0) (by decide) (by decide) ?_
  rw [s0, he]
  refine rl_istore_n (pc := 8) R dX8_lots_8 (Nat.le_of_ble_eq_true rfl) rfl ?_
  show K _ [_, _, _, _, _, _] _ _
  refine rl_iconst (pc := 9) R dX8_lots_9 ic_0 ?_
  refine rl_istore_n (pc := 10) R dX8_lots_10 (Nat.le_of_ble_eq_true rfl) rfl ?_
  show K _ [_, _, _, _, _, _] _ _
  refine rl_iconst (pc := 11) R dX8_lots_11 ic_0 ?_
  refine rl_istore (pc := 12) R dX8_lots_12 (Nat.le_of_ble_eq_true rfl) rfl ?_
  show K _ [_, _, _, _, _, _] _ _
  have e0 := loop n 0 0 lies 0 (se 3) none (by omega) hl (by decide) rfl
  rw [← s3, show upd a 3 (a 3) = a by funext q; by_cases hq : q = 3 <;> simp [upd, hq], List.set_getElem?_self' m1] at e0
  exact e0
theorem bs_X8_seed_bad {v : Int32} (hok : v < 0) : BS (d + 2) false yX8_seed [.ref 0, .int v] h (some (.int (-1))) h := by
  refine bs_of mtX8_seed rfl (Nat.le_of_ble_eq_true rfl) (fun K R RV RS E => ?_)
  show K 0 [_, _] [] _
  refine rl_iload_n (pc := 0) R dX8_seed_0 rfl ?_
  refine rl_if_ge (pc := 1) (tgt := 8) R dX8_seed_1 rfl (fun c1 => absurd c1 (Int32.not_le.mpr hok)) (fun c1 => ?_)
  refine rl_iconst (pc := 4) R dX8_seed_4 ic_m1 ?_
  refine rl_goto (pc := 5) (tgt := 14) R dX8_seed_5 rfl ?_
  exact rl_ireturn (pc := 14) E dX8_seed_14 rfl rfl (rfl)
theorem bs_X8_seed {v : Int32} (m0 : h[0]? = some (mO ik td at_ sz rd)) (hN : rN h n nw wo co se a) (hok : 0 ≤ v) : BS (d + 2) false yX8_seed [.ref 0, .int v] h (some (.int (se 3))) (h.set 1 (hI 89 (upd a 3 v))) := by
  have s3 := hN.2.2.2.1.2.2.2
  refine bs_of mtX8_seed rfl (Nat.le_of_ble_eq_true rfl) (fun K R RV RS E => ?_)
  show K 0 [_, _] [] _
  refine rl_iload_n (pc := 0) R dX8_seed_0 rfl ?_
  refine rl_if_ge (pc := 1) (tgt := 8) R dX8_seed_1 rfl (fun c1 => ?_) (fun c1 => absurd (hok) c1)
  refine rl_aload_n (pc := 8) R dX8_seed_8 rfl ?_
  refine rl_iconst (pc := 9) R dX8_seed_9 ic_3 ?_
  refine rl_iload_n (pc := 10) R dX8_seed_10 rfl ?_
  refine rl_V2 (pc := 11) RV dX8_seed_11 lkX8_56 m0 rfl (Nat.le_of_ble_eq_true rfl) (bs_X8_changed (i := 3) m0 hN.1 (by decide)) ?_
  exact rl_ireturn (pc := 14) E dX8_seed_14 rfl rfl (e_si s3.symm)
def seOM (w v : Int32) : Bool := isW w 0 2 && isW v 0 (if w = 0 then 9 else if w = 1 then 3 else 8)
theorem bs_X8_set_bad {w v : Int32} (hok : seOM w v = false) : BS (d + 3) false yX8_set [.ref 0, .int w, .int v] h (some (.int (-1))) h := by
  refine bs_of mtX8_set rfl (Nat.le_of_ble_eq_true rfl) (fun K R RV RS E => ?_)
  show K 0 [_, _, _] [] _
  refine rl_iload_n (pc := 0) R dX8_set_0 rfl ?_
  refine rl_i2l (pc := 1) R dX8_set_1 ?_
  refine rl_lconst (pc := 2) R dX8_set_2 lc_0 ?_
  refine rl_ldc2 (pc := 3) R dX8_set_3 kdX8_46 ?_
  refine rl_S3 (pc := 6) RS dX8_set_6 lkX8_40 (Nat.le_of_ble_eq_true rfl) (bs_X8_inW (v := w) (x := 0) (y := 2) rfl rfl rfl) ?_
  refine rl_if_eq (pc := 9) (tgt := 54) R dX8_set_9 rfl (fun c9 => ?_) (fun c9 => ?_)
  · rw [bI_0] at c9
    refine rl_iconst (pc := 54) R dX8_set_54 ic_m1 ?_
    exact rl_ireturn (pc := 55) E dX8_set_55 rfl rfl (rfl)
  · rw [bI_n0] at c9
    refine rl_iload_n (pc := 12) R dX8_set_12 rfl ?_
    refine rl_i2l (pc := 13) R dX8_set_13 ?_
    refine rl_lconst (pc := 14) R dX8_set_14 lc_0 ?_
    refine rl_iload_n (pc := 15) R dX8_set_15 rfl ?_
    refine rl_if_ne (pc := 16) (tgt := 25) R dX8_set_16 rfl (fun c16 => ?_) (fun c16 => ?_)
    · refine rl_iload_n (pc := 25) R dX8_set_25 rfl ?_
      refine rl_iconst (pc := 26) R dX8_set_26 ic_1 ?_
      refine rl_icmp_ne (pc := 27) (tgt := 36) R dX8_set_27 rfl (fun c27 => ?_) (fun c27 => ?_)
      · refine rl_ldc2 (pc := 36) R dX8_set_36 kdX8_64 ?_
        refine rl_S3 (pc := 39) RS dX8_set_39 lkX8_40 (Nat.le_of_ble_eq_true rfl) (bs_X8_inW (v := v) (x := 0) (y := if w = 0 then 9 else if w = 1 then 3 else 8) rfl rfl (by first | (rw [if_pos c16]; rfl) | (rw [if_neg c16, if_pos c27]; rfl) | (rw [if_neg c16, if_neg c27]; rfl))) ?_
        refine rl_if_eq (pc := 42) (tgt := 54) R dX8_set_42 rfl (fun c42 => ?_) (fun c42 => ?_)
        · refine rl_iconst (pc := 54) R dX8_set_54 ic_m1 ?_
          exact rl_ireturn (pc := 55) E dX8_set_55 rfl rfl (rfl)
        · exact absurd hok (by rw [bI_n0] at c42; rw [seOM, c9, c42]; decide)
      · refine rl_ldc2 (pc := 30) R dX8_set_30 kdX8_62 ?_
        refine rl_goto (pc := 33) (tgt := 39) R dX8_set_33 rfl ?_
        refine rl_S3 (pc := 39) RS dX8_set_39 lkX8_40 (Nat.le_of_ble_eq_true rfl) (bs_X8_inW (v := v) (x := 0) (y := if w = 0 then 9 else if w = 1 then 3 else 8) rfl rfl (by first | (rw [if_pos c16]; rfl) | (rw [if_neg c16, if_pos c27]; rfl) | (rw [if_neg c16, if_neg c27]; rfl))) ?_
        refine rl_if_eq (pc := 42) (tgt := 54) R dX8_set_42 rfl (fun c42 => ?_) (fun c42 => ?_)
        · refine rl_iconst (pc := 54) R dX8_set_54 ic_m1 ?_
          exact rl_ireturn (pc := 55) E dX8_set_55 rfl rfl (rfl)
        · exact absurd hok (by rw [bI_n0] at c42; rw [seOM, c9, c42]; decide)
    · refine rl_ldc2 (pc := 19) R dX8_set_19 kdX8_60 ?_
      refine rl_goto (pc := 22) (tgt := 39) R dX8_set_22 rfl ?_
      refine rl_S3 (pc := 39) RS dX8_set_39 lkX8_40 (Nat.le_of_ble_eq_true rfl) (bs_X8_inW (v := v) (x := 0) (y := if w = 0 then 9 else if w = 1 then 3 else 8) rfl rfl (by first | (rw [if_pos c16]; rfl) | (rw [if_neg c16, if_pos c27]; rfl) | (rw [if_neg c16, if_neg c27]; rfl))) ?_
      refine rl_if_eq (pc := 42) (tgt := 54) R dX8_set_42 rfl (fun c42 => ?_) (fun c42 => ?_)
      · refine rl_iconst (pc := 54) R dX8_set_54 ic_m1 ?_
        exact rl_ireturn (pc := 55) E dX8_set_55 rfl rfl (rfl)
      · exact absurd hok (by rw [bI_n0] at c42; rw [seOM, c9, c42]; decide)
theorem bs_X8_set {w : Nat} {v : Int32} (m0 : h[0]? = some (mO ik td at_ sz rd)) (hN : rN h n nw wo co se a) (hw : w < 3) (hok : seOM (nI w) v = true) : BS (d + 3) false yX8_set [.ref 0, .int (nI w), .int v] h (some (.int (a w))) (h.set 1 (hI 89 (upd a w v))) := by
  rw [seOM, Bool.and_eq_true] at hok
  refine bs_of mtX8_set rfl (Nat.le_of_ble_eq_true rfl) (fun K R RV RS E => ?_)
  show K 0 [_, _, _] [] _
  refine rl_iload_n (pc := 0) R dX8_set_0 rfl ?_
  refine rl_i2l (pc := 1) R dX8_set_1 ?_
  refine rl_lconst (pc := 2) R dX8_set_2 lc_0 ?_
  refine rl_ldc2 (pc := 3) R dX8_set_3 kdX8_46 ?_
  refine rl_S3 (pc := 6) RS dX8_set_6 lkX8_40 (Nat.le_of_ble_eq_true rfl) (bs_X8_inW (v := nI w) (x := 0) (y := 2) rfl rfl rfl) ?_
  refine rl_if_eq (pc := 9) (tgt := 54) R dX8_set_9 rfl (fun c9 => absurd c9 (by rw [hok.1]; decide)) (fun c9 => ?_)
  refine rl_iload_n (pc := 12) R dX8_set_12 rfl ?_
  refine rl_i2l (pc := 13) R dX8_set_13 ?_
  refine rl_lconst (pc := 14) R dX8_set_14 lc_0 ?_
  refine rl_iload_n (pc := 15) R dX8_set_15 rfl ?_
  refine rl_if_ne (pc := 16) (tgt := 25) R dX8_set_16 rfl (fun c16 => ?_) (fun c16 => ?_)
  · refine rl_iload_n (pc := 25) R dX8_set_25 rfl ?_
    refine rl_iconst (pc := 26) R dX8_set_26 ic_1 ?_
    refine rl_icmp_ne (pc := 27) (tgt := 36) R dX8_set_27 rfl (fun c27 => ?_) (fun c27 => ?_)
    · refine rl_ldc2 (pc := 36) R dX8_set_36 kdX8_64 ?_
      refine rl_S3 (pc := 39) RS dX8_set_39 lkX8_40 (Nat.le_of_ble_eq_true rfl) (bs_X8_inW (v := v) (x := 0) (y := if nI w = 0 then 9 else if nI w = 1 then 3 else 8) rfl rfl (by first | (rw [if_pos c16]; rfl) | (rw [if_neg c16, if_pos c27]; rfl) | (rw [if_neg c16, if_neg c27]; rfl))) ?_
      refine rl_if_eq (pc := 42) (tgt := 54) R dX8_set_42 rfl (fun c42 => absurd c42 (by rw [hok.2]; decide)) (fun c42 => ?_)
      refine rl_aload_n (pc := 45) R dX8_set_45 rfl ?_
      refine rl_iload_n (pc := 46) R dX8_set_46 rfl ?_
      refine rl_iload_n (pc := 47) R dX8_set_47 rfl ?_
      refine rl_V2 (pc := 48) RV dX8_set_48 lkX8_56 m0 rfl (Nat.le_of_ble_eq_true rfl) (bs_X8_changed m0 hN.1 (by omega)) ?_
      refine rl_goto (pc := 51) (tgt := 55) R dX8_set_51 rfl ?_
      exact rl_ireturn (pc := 55) E dX8_set_55 rfl rfl (rfl)
    · refine rl_ldc2 (pc := 30) R dX8_set_30 kdX8_62 ?_
      refine rl_goto (pc := 33) (tgt := 39) R dX8_set_33 rfl ?_
      refine rl_S3 (pc := 39) RS dX8_set_39 lkX8_40 (Nat.le_of_ble_eq_true rfl) (bs_X8_inW (v := v) (x := 0) (y := if nI w = 0 then 9 else if nI w = 1 then 3 else 8) rfl rfl (by first | (rw [if_pos c16]; rfl) | (rw [if_neg c16, if_pos c27]; rfl) | (rw [if_neg c16, if_neg c27]; rfl))) ?_
      refine rl_if_eq (pc := 42) (tgt := 54) R dX8_set_42 rfl (fun c42 => absurd c42 (by rw [hok.2]; decide)) (fun c42 => ?_)
      refine rl_aload_n (pc := 45) R dX8_set_45 rfl ?_
      refine rl_iload_n (pc := 46) R dX8_set_46 rfl ?_
      refine rl_iload_n (pc := 47) R dX8_set_47 rfl ?_
      refine rl_V2 (pc := 48) RV dX8_set_48 lkX8_56 m0 rfl (Nat.le_of_ble_eq_true rfl) (bs_X8_changed m0 hN.1 (by omega)) ?_
      refine rl_goto (pc := 51) (tgt := 55) R dX8_set_51 rfl ?_
      exact rl_ireturn (pc := 55) E dX8_set_55 rfl rfl (rfl)
  · refine rl_ldc2 (pc := 19) R dX8_set_19 kdX8_60 ?_
    refine rl_goto (pc := 22) (tgt := 39) R dX8_set_22 rfl ?_
    refine rl_S3 (pc := 39) RS dX8_set_39 lkX8_40 (Nat.le_of_ble_eq_true rfl) (bs_X8_inW (v := v) (x := 0) (y := if nI w = 0 then 9 else if nI w = 1 then 3 else 8) rfl rfl (by first | (rw [if_pos c16]; rfl) | (rw [if_neg c16, if_pos c27]; rfl) | (rw [if_neg c16, if_neg c27]; rfl))) ?_
    refine rl_if_eq (pc := 42) (tgt := 54) R dX8_set_42 rfl (fun c42 => absurd c42 (by rw [hok.2]; decide)) (fun c42 => ?_)
    refine rl_aload_n (pc := 45) R dX8_set_45 rfl ?_
    refine rl_iload_n (pc := 46) R dX8_set_46 rfl ?_
    refine rl_iload_n (pc := 47) R dX8_set_47 rfl ?_
    refine rl_V2 (pc := 48) RV dX8_set_48 lkX8_56 m0 rfl (Nat.le_of_ble_eq_true rfl) (bs_X8_changed m0 hN.1 (by omega)) ?_
    refine rl_goto (pc := 51) (tgt := 55) R dX8_set_51 rfl ?_
    exact rl_ireturn (pc := 55) E dX8_set_55 rfl rfl (rfl)
theorem bs_X8_may {s : Int32} (m0 : h[0]? = some (mO ik td at_ sz rd)) (hN : rN h n nw wo co se a) (hs0 : iSe n s = true → s >>> (nI n &&& 31) = 0) : BS (d + 4) false yX8_may [.ref 0, .int s] h (some (.int (if iSe n s then maM (se 1) s nw (n - fmM s n 0) (fmM s n 0) 0 else -1))) h := by
  have hN0 := hN
  obtain ⟨m1, hn, h4, ⟨s0, s1, s2, s3⟩, hf⟩ := hN
  by_cases hok : iSe n s = true
  · rw [if_pos hok]
    have hfl := fmM_le s n 0
    refine bs_of mtX8_may rfl (Nat.le_of_ble_eq_true rfl) (fun K R RV RS E => ?_)
    show K 0 [_, _, _, _, _] [] _
    have loop2 : ∀ (j i : Nat) (x : Int32), i + j = n → maM (se 1) s nw j i x = maM (se 1) s nw (n - fmM s n 0) (fmM s n 0) 0 → K 29 [some (.ref 0), some (.int s), some (.int (nI (fmM s n 0))), some (.int x), some (.int (nI i))] [] h := by
      intro j
      induction j with
      | zero =>
        intro i x hi hs
        refine rl_iload (pc := 29) R dX8_may_29 rfl ?_
        refine rl_aload_n (pc := 31) R dX8_may_31 rfl ?_
        refine rl_getf (pc := 32) R dX8_may_32 fkX8_7 (by first | assumption | rfl) rfl ?_
        refine rl_iconst (pc := 35) R dX8_may_35 ic_4 ?_
        refine rl_iald (pc := 36) R dX8_may_36 m1 (rfl : (4 : Int32) = nI 4) (by decide) (by decide) ?_
        rw [h4]
        refine rl_icmp_ge (pc := 37) (tgt := 89) R dX8_may_37 rfl (fun c37 => ?_) (fun c37 => absurd (nI_le (by omega) (by omega)) c37)
        refine rl_iload_n (pc := 89) R dX8_may_89 rfl ?_
        exact rl_ireturn (pc := 90) E dX8_may_90 rfl rfl (e_si (by rw [← hs]; rfl))
      | succ j ih =>
        intro i x hi hs
        refine rl_iload (pc := 29) R dX8_may_29 rfl ?_
        refine rl_aload_n (pc := 31) R dX8_may_31 rfl ?_
        refine rl_getf (pc := 32) R dX8_may_32 fkX8_7 (by first | assumption | rfl) rfl ?_
        refine rl_iconst (pc := 35) R dX8_may_35 ic_4 ?_
        refine rl_iald (pc := 36) R dX8_may_36 m1 (rfl : (4 : Int32) = nI 4) (by decide) (by decide) ?_
        rw [h4]
        refine rl_icmp_ge (pc := 37) (tgt := 89) R dX8_may_37 rfl (fun c37 => absurd c37 (nI_ge (by omega) (by omega))) (fun c37 => ?_)
        refine rl_iload_n (pc := 40) R dX8_may_40 rfl ?_
        refine rl_aload_n (pc := 41) R dX8_may_41 rfl ?_
        refine rl_getf (pc := 42) R dX8_may_42 fkX8_7 (by first | assumption | rfl) rfl ?_
        refine rl_iconst (pc := 45) R dX8_may_45 ic_5 ?_
        refine rl_iload (pc := 46) R dX8_may_46 rfl ?_
        refine rl_iadd (pc := 48) R dX8_may_48 ?_
        refine rl_iald (pc := 49) R dX8_may_49 m1 (nI_add 5 i) (by omega) (by decide) ?_
        rw [(hf i (by omega)).1]
        refine rl_if_ne (pc := 50) (tgt := 80) R dX8_may_50 rfl (fun c50 => ?_) (fun c50 => ?_)
        · refine rl_iconst (pc := 80) R dX8_may_80 ic_0 ?_
          refine rl_ior (pc := 81) R dX8_may_81 ?_
          refine rl_istore_n (pc := 82) R dX8_may_82 (Nat.le_of_ble_eq_true rfl) rfl ?_
          show K _ [_, _, _, _, _] _ _
          refine rl_iinc (pc := 83) R dX8_may_83 rfl (ii_n i) rfl ?_
          show K _ [_, _, _, _, _] _ _
          refine rl_goto (pc := 86) (tgt := 29) R dX8_may_86 rfl (ih (i + 1) _ (by omega) (by rw [← hs, maM]; first | (rw [decide_eq_false c50]; rfl) | (rw [decide_eq_true c50, c70]; rfl)))
        · refine rl_aload_n (pc := 53) R dX8_may_53 rfl ?_
          refine rl_getf (pc := 54) R dX8_may_54 fkX8_7 (by first | assumption | rfl) rfl ?_
          refine rl_iconst (pc := 57) R dX8_may_57 ic_1 ?_
          refine rl_iald (pc := 58) R dX8_may_58 m1 (rfl : (1 : Int32) = nI 1) (by decide) (by decide) ?_
          rw [s1]
          refine rl_iload (pc := 59) R dX8_may_59 rfl ?_
          refine rl_iload (pc := 61) R dX8_may_61 rfl ?_
          refine rl_iload_n (pc := 63) R dX8_may_63 rfl ?_
          refine rl_S2 (pc := 64) RS dX8_may_64 lkX8_112 (Nat.le_of_ble_eq_true rfl) (bs_X8_mindedOn (by omega)) ?_
          refine rl_S3 (pc := 67) RS dX8_may_67 lkX8_115 (Nat.le_of_ble_eq_true rfl) (bs_X8_lets (by omega) (moL_le _ _ _ _ (by decide))) ?_
          refine rl_if_eq (pc := 70) (tgt := 80) R dX8_may_70 rfl (fun c70 => ?_) (fun c70 => ?_)
          · rw [bI_0] at c70
            refine rl_iconst (pc := 80) R dX8_may_80 ic_0 ?_
            refine rl_ior (pc := 81) R dX8_may_81 ?_
            refine rl_istore_n (pc := 82) R dX8_may_82 (Nat.le_of_ble_eq_true rfl) rfl ?_
            show K _ [_, _, _, _, _] _ _
            refine rl_iinc (pc := 83) R dX8_may_83 rfl (ii_n i) rfl ?_
            show K _ [_, _, _, _, _] _ _
            refine rl_goto (pc := 86) (tgt := 29) R dX8_may_86 rfl (ih (i + 1) _ (by omega) (by rw [← hs, maM]; first | (rw [decide_eq_false c50]; rfl) | (rw [decide_eq_true c50, c70]; rfl)))
          · rw [bI_n0] at c70
            refine rl_iconst (pc := 73) R dX8_may_73 ic_1 ?_
            refine rl_iload (pc := 74) R dX8_may_74 rfl ?_
            refine rl_ishl (pc := 76) R dX8_may_76 ?_
            refine rl_goto (pc := 77) (tgt := 81) R dX8_may_77 rfl ?_
            refine rl_ior (pc := 81) R dX8_may_81 ?_
            refine rl_istore_n (pc := 82) R dX8_may_82 (Nat.le_of_ble_eq_true rfl) rfl ?_
            show K _ [_, _, _, _, _] _ _
            refine rl_iinc (pc := 83) R dX8_may_83 rfl (ii_n i) rfl ?_
            show K _ [_, _, _, _, _] _ _
            refine rl_goto (pc := 86) (tgt := 29) R dX8_may_86 rfl (ih (i + 1) _ (by omega) (by rw [← hs, maM]; first | (rw [decide_eq_false c50]; rfl) | (rw [decide_eq_true c50, c70]; rfl)))
    have loop : ∀ (j i : Nat), i + j = n → fmM s j i = fmM s n 0 → K 12 [some (.ref 0), some (.int s), some (.int (nI i)), none, none] [] h := by
      intro j
      induction j with
      | zero =>
        intro i hi hs
        have e : i = n := by omega
        have e2 : i = fmM s n 0 := hs
        rw [e2]
        refine rl_iload_n (pc := 12) R dX8_may_12 rfl ?_
        refine rl_iload_n (pc := 13) R dX8_may_13 rfl ?_
        refine rl_ishr (pc := 14) R dX8_may_14 ?_
        refine rl_if_eq (pc := 15) (tgt := 24) R dX8_may_15 rfl (fun c15 => ?_) (fun c15 => absurd (by rw [← e2, e]; exact hs0 hok) c15)
        refine rl_iconst (pc := 24) R dX8_may_24 ic_0 ?_
        refine rl_istore_n (pc := 25) R dX8_may_25 (Nat.le_of_ble_eq_true rfl) rfl ?_
        show K _ [_, _, _, _, _] _ _
        refine rl_iload_n (pc := 26) R dX8_may_26 rfl ?_
        refine rl_istore (pc := 27) R dX8_may_27 (Nat.le_of_ble_eq_true rfl) rfl ?_
        show K _ [_, _, _, _, _] _ _
        exact loop2 _ _ 0 (by omega) rfl
      | succ j ih =>
        intro i hi hs
        by_cases hz : s >>> (nI i &&& 31) = 0
        · have e2 : i = fmM s n 0 := by rw [← hs, fmM, if_pos hz]
          rw [e2] at hz ⊢
          refine rl_iload_n (pc := 12) R dX8_may_12 rfl ?_
          refine rl_iload_n (pc := 13) R dX8_may_13 rfl ?_
          refine rl_ishr (pc := 14) R dX8_may_14 ?_
          refine rl_if_eq (pc := 15) (tgt := 24) R dX8_may_15 rfl (fun c15 => ?_) (fun c15 => absurd (hz) c15)
          refine rl_iconst (pc := 24) R dX8_may_24 ic_0 ?_
          refine rl_istore_n (pc := 25) R dX8_may_25 (Nat.le_of_ble_eq_true rfl) rfl ?_
          show K _ [_, _, _, _, _] _ _
          refine rl_iload_n (pc := 26) R dX8_may_26 rfl ?_
          refine rl_istore (pc := 27) R dX8_may_27 (Nat.le_of_ble_eq_true rfl) rfl ?_
          show K _ [_, _, _, _, _] _ _
          exact loop2 _ _ 0 (by omega) rfl
        · refine rl_iload_n (pc := 12) R dX8_may_12 rfl ?_
          refine rl_iload_n (pc := 13) R dX8_may_13 rfl ?_
          refine rl_ishr (pc := 14) R dX8_may_14 ?_
          refine rl_if_eq (pc := 15) (tgt := 24) R dX8_may_15 rfl (fun c15 => absurd c15 (hz)) (fun c15 => ?_)
          refine rl_iinc (pc := 18) R dX8_may_18 rfl (ii_n i) rfl ?_
          show K _ [_, _, _, _, _] _ _
          refine rl_goto (pc := 21) (tgt := 12) R dX8_may_21 rfl (ih (i + 1) (by omega) (by rw [← hs, fmM, if_neg hz]))
    refine rl_aload_n (pc := 0) R dX8_may_0 rfl ?_
    refine rl_iload_n (pc := 1) R dX8_may_1 rfl ?_
    refine rl_V1 (pc := 2) RV dX8_may_2 lkX8_109 m0 rfl (Nat.le_of_ble_eq_true rfl) (bs_X8_isSet m0 hN0) ?_
    refine rl_if_ne (pc := 5) (tgt := 10) R dX8_may_5 rfl (fun c5 => ?_) (fun c5 => absurd c5 (by rw [hok]; decide))
    refine rl_iconst (pc := 10) R dX8_may_10 ic_0 ?_
    refine rl_istore_n (pc := 11) R dX8_may_11 (Nat.le_of_ble_eq_true rfl) rfl ?_
    show K _ [_, _, _, _, _] _ _
    exact loop n 0 (by omega) rfl
  · rw [if_neg hok]
    refine bs_of mtX8_may rfl (Nat.le_of_ble_eq_true rfl) (fun K R RV RS E => ?_)
    show K 0 [_, _, _, _, _] [] _
    refine rl_aload_n (pc := 0) R dX8_may_0 rfl ?_
    refine rl_iload_n (pc := 1) R dX8_may_1 rfl ?_
    refine rl_V1 (pc := 2) RV dX8_may_2 lkX8_109 m0 rfl (Nat.le_of_ble_eq_true rfl) (bs_X8_isSet m0 hN0) ?_
    refine rl_if_ne (pc := 5) (tgt := 10) R dX8_may_5 rfl (fun c5 => absurd (by rw [Bool.not_eq_true] at hok; rw [hok]; rfl) c5) (fun c5 => ?_)
    refine rl_iconst (pc := 8) R dX8_may_8 ic_m1 ?_
    exact rl_ireturn (pc := 9) E dX8_may_9 rfl rfl (rfl)
theorem bs_X8_lawful {s : Int32} (m0 : h[0]? = some (mO ik td at_ sz rd)) (hN : rN h n nw wo co se a) : BS (d + 4) false yX8_lawful [.ref 0, .int s] h (some (.int (if iSe n s then (if wrM (se 1) s nw n 0 (se 0) = -4 then 1 else 0) else -1))) h := by
  refine bs_of mtX8_lawful rfl (Nat.le_of_ble_eq_true rfl) (fun K R RV RS E => ?_)
  show K 0 [_, _] [] _
  refine rl_aload_n (pc := 0) R dX8_lawful_0 rfl ?_
  refine rl_iload_n (pc := 1) R dX8_lawful_1 rfl ?_
  refine rl_V1 (pc := 2) RV dX8_lawful_2 lkX8_109 m0 rfl (Nat.le_of_ble_eq_true rfl) (bs_X8_isSet m0 hN) ?_
  refine rl_if_ne (pc := 5) (tgt := 12) R dX8_lawful_5 rfl (fun c5 => ?_) (fun c5 => ?_)
  · rw [bI_n0] at c5
    refine rl_aload_n (pc := 12) R dX8_lawful_12 rfl ?_
    refine rl_iload_n (pc := 13) R dX8_lawful_13 rfl ?_
    refine rl_V1 (pc := 14) RV dX8_lawful_14 lkX8_119 m0 rfl (Nat.le_of_ble_eq_true rfl) (bs_X8_wrongIn m0 hN) ?_
    refine rl_bipush (pc := 17) R dX8_lawful_17 bc_m4 ?_
    refine rl_icmp_ne (pc := 19) (tgt := 26) R dX8_lawful_19 rfl (fun c19 => ?_) (fun c19 => ?_)
    · refine rl_iconst (pc := 26) R dX8_lawful_26 ic_0 ?_
      exact rl_ireturn (pc := 27) E dX8_lawful_27 rfl rfl (e_si (by rw [c5]; first | rfl | exact if_neg c19 | exact if_pos c19))
    · refine rl_iconst (pc := 22) R dX8_lawful_22 ic_1 ?_
      refine rl_goto (pc := 23) (tgt := 27) R dX8_lawful_23 rfl ?_
      exact rl_ireturn (pc := 27) E dX8_lawful_27 rfl rfl (e_si (by rw [c5]; first | rfl | exact if_neg c19 | exact if_pos c19))
  · rw [bI_0] at c5
    refine rl_iconst (pc := 8) R dX8_lawful_8 ic_m1 ?_
    refine rl_goto (pc := 9) (tgt := 27) R dX8_lawful_9 rfl ?_
    exact rl_ireturn (pc := 27) E dX8_lawful_27 rfl rfl (e_si (by rw [c5]; first | rfl | exact if_neg c19 | exact if_pos c19))
theorem bs_X8_wrong {s : Int32} (m0 : h[0]? = some (mO ik td at_ sz rd)) (hN : rN h n nw wo co se a) : BS (d + 4) false yX8_wrong [.ref 0, .int s] h (some (.int (if iSe n s then wrM (se 1) s nw n 0 (se 0) else -1))) h := by
  refine bs_of mtX8_wrong rfl (Nat.le_of_ble_eq_true rfl) (fun K R RV RS E => ?_)
  show K 0 [_, _] [] _
  refine rl_aload_n (pc := 0) R dX8_wrong_0 rfl ?_
  refine rl_iload_n (pc := 1) R dX8_wrong_1 rfl ?_
  refine rl_V1 (pc := 2) RV dX8_wrong_2 lkX8_109 m0 rfl (Nat.le_of_ble_eq_true rfl) (bs_X8_isSet m0 hN) ?_
  refine rl_if_eq (pc := 5) (tgt := 16) R dX8_wrong_5 rfl (fun c5 => ?_) (fun c5 => ?_)
  · rw [bI_0] at c5
    refine rl_iconst (pc := 16) R dX8_wrong_16 ic_m1 ?_
    exact rl_ireturn (pc := 17) E dX8_wrong_17 rfl rfl (e_si (by rw [c5]; rfl))
  · rw [bI_n0] at c5
    refine rl_aload_n (pc := 8) R dX8_wrong_8 rfl ?_
    refine rl_iload_n (pc := 9) R dX8_wrong_9 rfl ?_
    refine rl_V1 (pc := 10) RV dX8_wrong_10 lkX8_119 m0 rfl (Nat.le_of_ble_eq_true rfl) (bs_X8_wrongIn m0 hN) ?_
    refine rl_goto (pc := 13) (tgt := 17) R dX8_wrong_13 rfl ?_
    exact rl_ireturn (pc := 17) E dX8_wrong_17 rfl rfl (e_si (by rw [c5]; rfl))
theorem bs_X8_gain {s : Int32} (m0 : h[0]? = some (mO ik td at_ sz rd)) (hN : rN h n nw wo co se a) : BS (d + 4) false yX8_gain [.ref 0, .int s] h (some (.int (if iSe n s then (if wrM (se 1) s nw n 0 (se 0) = -4 then gnM n nw wo co (se 2) s n 0 (se 0) 0 else -100000002) else -100000001))) h := by
  refine bs_of mtX8_gain rfl (Nat.le_of_ble_eq_true rfl) (fun K R RV RS E => ?_)
  show K 0 [_, _] [] _
  refine rl_aload_n (pc := 0) R dX8_gain_0 rfl ?_
  refine rl_iload_n (pc := 1) R dX8_gain_1 rfl ?_
  refine rl_V1 (pc := 2) RV dX8_gain_2 lkX8_109 m0 rfl (Nat.le_of_ble_eq_true rfl) (bs_X8_isSet m0 hN) ?_
  refine rl_if_ne (pc := 5) (tgt := 13) R dX8_gain_5 rfl (fun c5 => ?_) (fun c5 => ?_)
  · rw [bI_n0] at c5
    refine rl_aload_n (pc := 13) R dX8_gain_13 rfl ?_
    refine rl_iload_n (pc := 14) R dX8_gain_14 rfl ?_
    refine rl_V1 (pc := 15) RV dX8_gain_15 lkX8_119 m0 rfl (Nat.le_of_ble_eq_true rfl) (bs_X8_wrongIn m0 hN) ?_
    refine rl_bipush (pc := 18) R dX8_gain_18 bc_m4 ?_
    refine rl_icmp_eq (pc := 20) (tgt := 28) R dX8_gain_20 rfl (fun c20 => ?_) (fun c20 => ?_)
    · refine rl_aload_n (pc := 28) R dX8_gain_28 rfl ?_
      refine rl_iload_n (pc := 29) R dX8_gain_29 rfl ?_
      refine rl_V1 (pc := 30) RV dX8_gain_30 lkX8_130 m0 rfl (Nat.le_of_ble_eq_true rfl) (bs_X8_gainOf m0 hN) ?_
      exact rl_ireturn (pc := 33) E dX8_gain_33 rfl rfl (e_si (by rw [c5]; first | rfl | exact if_neg c20 | exact if_pos c20))
    · refine rl_ldc (pc := 23) R dX8_gain_23 kcX8_129 ?_
      refine rl_goto (pc := 25) (tgt := 33) R dX8_gain_25 rfl ?_
      exact rl_ireturn (pc := 33) E dX8_gain_33 rfl rfl (e_si (by rw [c5]; first | rfl | exact if_neg c20 | exact if_pos c20))
  · rw [bI_0] at c5
    refine rl_ldc (pc := 8) R dX8_gain_8 kcX8_128 ?_
    refine rl_goto (pc := 10) (tgt := 33) R dX8_gain_10 rfl ?_
    exact rl_ireturn (pc := 33) E dX8_gain_33 rfl rfl (e_si (by rw [c5]; first | rfl | exact if_neg c20 | exact if_pos c20))
theorem bs_X8_trusted {s : Int32} (m0 : h[0]? = some (mO ik td at_ sz rd)) (hN : rN h n nw wo co se a) : BS (d + 4) false yX8_trusted [.ref 0, .int s] h (some (.int (if iSe n s then (if wrM (se 1) s nw n 0 (se 0) = -4 then trM n nw (se 2) s n 0 (se 0) 0 else -2) else -1))) h := by
  have hN0 := hN
  obtain ⟨m1, hn, h4, ⟨s0, s1, s2, s3⟩, hf⟩ := hN
  by_cases hok : iSe n s = true
  · rw [if_pos hok]
    by_cases hz : wrM (se 1) s nw n 0 (se 0) = -4
    · rw [if_pos hz]
      refine bs_of mtX8_trusted rfl (Nat.le_of_ble_eq_true rfl) (fun K R RV RS E => ?_)
      show K 0 [_, _, _, _, _, _] [] _
      have loop : ∀ (j i : Nat) (l x : Int32) (z : Option Value), i + j = n → trM n nw (se 2) s j i l x = trM n nw (se 2) s n 0 (se 0) 0 → K 35 [some (.ref 0), some (.int s), some (.int l), some (.int x), some (.int (nI i)), z] [] h := by
        intro j
        induction j with
        | zero =>
          intro i l x z hi hs
          refine rl_iload (pc := 35) R dX8_trusted_35 rfl ?_
          refine rl_aload_n (pc := 37) R dX8_trusted_37 rfl ?_
          refine rl_getf (pc := 38) R dX8_trusted_38 fkX8_7 (by first | assumption | rfl) rfl ?_
          refine rl_iconst (pc := 41) R dX8_trusted_41 ic_4 ?_
          refine rl_iald (pc := 42) R dX8_trusted_42 m1 (rfl : (4 : Int32) = nI 4) (by decide) (by decide) ?_
          rw [h4]
          refine rl_icmp_ge (pc := 43) (tgt := 124) R dX8_trusted_43 rfl (fun c43 => ?_) (fun c43 => absurd (nI_le (by omega) (by omega)) c43)
          refine rl_iload_n (pc := 124) R dX8_trusted_124 rfl ?_
          exact rl_ireturn (pc := 125) E dX8_trusted_125 rfl rfl (e_si (by rw [← hs]; rfl))
        | succ j ih =>
          intro i l x z hi hs
          have last : ∀ (v : Int32) (z : Option Value), v = (if (decide (nw i = 1) || bt s i) && decide (8 * l ≤ se 2 * (nI n - nI i)) then b1 i else 0) → K 99 [some (.ref 0), some (.int s), some (.int l), some (.int x), some (.int (nI i)), z] [.int v, .int x] h := by
            intro v z hv
            refine rl_ior (pc := 99) R dX8_trusted_99 ?_
            refine rl_istore_n (pc := 100) R dX8_trusted_100 (Nat.le_of_ble_eq_true rfl) rfl ?_
            show K _ [_, _, _, _, _, _] _ _
            refine rl_iload_n (pc := 101) R dX8_trusted_101 rfl ?_
            refine rl_iload_n (pc := 102) R dX8_trusted_102 rfl ?_
            refine rl_iload (pc := 103) R dX8_trusted_103 rfl ?_
            refine rl_S2 (pc := 105) RS dX8_trusted_105 lkX8_102 (Nat.le_of_ble_eq_true rfl) (bs_X8_has) ?_
            refine rl_if_eq (pc := 108) (tgt := 115) R dX8_trusted_108 rfl (fun c108 => ?_) (fun c108 => ?_)
            · rw [bI_0] at c108
              refine rl_iconst (pc := 115) R dX8_trusted_115 ic_0 ?_
              refine rl_isub (pc := 116) R dX8_trusted_116 ?_
              refine rl_istore_n (pc := 117) R dX8_trusted_117 (Nat.le_of_ble_eq_true rfl) rfl ?_
              show K _ [_, _, _, _, _, _] _ _
              refine rl_iinc (pc := 118) R dX8_trusted_118 rfl (ii_n i) rfl ?_
              show K _ [_, _, _, _, _, _] _ _
              refine rl_goto (pc := 121) (tgt := 35) R dX8_trusted_121 rfl (ih (i + 1) _ _ _ (by omega) (by rw [← hs, trM, ← hv, c108]; rfl))
            · rw [bI_n0] at c108
              refine rl_iconst (pc := 111) R dX8_trusted_111 ic_1 ?_
              refine rl_goto (pc := 112) (tgt := 116) R dX8_trusted_112 rfl ?_
              refine rl_isub (pc := 116) R dX8_trusted_116 ?_
              refine rl_istore_n (pc := 117) R dX8_trusted_117 (Nat.le_of_ble_eq_true rfl) rfl ?_
              show K _ [_, _, _, _, _, _] _ _
              refine rl_iinc (pc := 118) R dX8_trusted_118 rfl (ii_n i) rfl ?_
              show K _ [_, _, _, _, _, _] _ _
              refine rl_goto (pc := 121) (tgt := 35) R dX8_trusted_121 rfl (ih (i + 1) _ _ _ (by omega) (by rw [← hs, trM, ← hv, c108]; rfl))
          have word : ∀ b : Bool, b = (decide (nw i = 1) || bt s i) → K 73 [some (.ref 0), some (.int s), some (.int l), some (.int x), some (.int (nI i)), z] [.int (bI b)] h := by
            intro b hb
            refine rl_istore (pc := 73) R dX8_trusted_73 (Nat.le_of_ble_eq_true rfl) rfl ?_
            show K _ [_, _, _, _, _, _] _ _
            refine rl_iload_n (pc := 75) R dX8_trusted_75 rfl ?_
            refine rl_iload (pc := 76) R dX8_trusted_76 rfl ?_
            refine rl_if_eq (pc := 78) (tgt := 98) R dX8_trusted_78 rfl (fun c78 => ?_) (fun c78 => ?_)
            · rw [bI_0] at c78
              refine rl_iconst (pc := 98) R dX8_trusted_98 ic_0 ?_
              first | exact last 0 _ (by rw [← hb, c78]; rfl) | exact last 0 _ (by rw [← hb, c78, c88]; rfl) | exact last _ _ (by rw [← hb, c78, c88]; rfl)
            · rw [bI_n0] at c78
              refine rl_aload_n (pc := 81) R dX8_trusted_81 rfl ?_
              refine rl_iload (pc := 82) R dX8_trusted_82 rfl ?_
              refine rl_iload_n (pc := 84) R dX8_trusted_84 rfl ?_
              refine rl_V2 (pc := 85) RV dX8_trusted_85 lkX8_122 m0 rfl (Nat.le_of_ble_eq_true rfl) (bs_X8_trusts m0 hN0) ?_
              refine rl_if_eq (pc := 88) (tgt := 98) R dX8_trusted_88 rfl (fun c88 => ?_) (fun c88 => ?_)
              · rw [bI_0] at c88
                refine rl_iconst (pc := 98) R dX8_trusted_98 ic_0 ?_
                first | exact last 0 _ (by rw [← hb, c78]; rfl) | exact last 0 _ (by rw [← hb, c78, c88]; rfl) | exact last _ _ (by rw [← hb, c78, c88]; rfl)
              · rw [bI_n0] at c88
                refine rl_iconst (pc := 91) R dX8_trusted_91 ic_1 ?_
                refine rl_iload (pc := 92) R dX8_trusted_92 rfl ?_
                refine rl_ishl (pc := 94) R dX8_trusted_94 ?_
                refine rl_goto (pc := 95) (tgt := 99) R dX8_trusted_95 rfl ?_
                first | exact last 0 _ (by rw [← hb, c78]; rfl) | exact last 0 _ (by rw [← hb, c78, c88]; rfl) | exact last _ _ (by rw [← hb, c78, c88]; rfl)
          refine rl_iload (pc := 35) R dX8_trusted_35 rfl ?_
          refine rl_aload_n (pc := 37) R dX8_trusted_37 rfl ?_
          refine rl_getf (pc := 38) R dX8_trusted_38 fkX8_7 (by first | assumption | rfl) rfl ?_
          refine rl_iconst (pc := 41) R dX8_trusted_41 ic_4 ?_
          refine rl_iald (pc := 42) R dX8_trusted_42 m1 (rfl : (4 : Int32) = nI 4) (by decide) (by decide) ?_
          rw [h4]
          refine rl_icmp_ge (pc := 43) (tgt := 124) R dX8_trusted_43 rfl (fun c43 => absurd c43 (nI_ge (by omega) (by omega))) (fun c43 => ?_)
          refine rl_aload_n (pc := 46) R dX8_trusted_46 rfl ?_
          refine rl_getf (pc := 47) R dX8_trusted_47 fkX8_7 (by first | assumption | rfl) rfl ?_
          refine rl_iconst (pc := 50) R dX8_trusted_50 ic_5 ?_
          refine rl_iload (pc := 51) R dX8_trusted_51 rfl ?_
          refine rl_iadd (pc := 53) R dX8_trusted_53 ?_
          refine rl_iald (pc := 54) R dX8_trusted_54 m1 (nI_add 5 i) (by omega) (by decide) ?_
          rw [(hf i (by omega)).1]
          refine rl_iconst (pc := 55) R dX8_trusted_55 ic_1 ?_
          refine rl_icmp_eq (pc := 56) (tgt := 68) R dX8_trusted_56 rfl (fun c56 => ?_) (fun c56 => ?_)
          · refine rl_iconst (pc := 68) R dX8_trusted_68 ic_1 ?_
            refine rl_goto (pc := 69) (tgt := 73) R dX8_trusted_69 rfl ?_
            first | exact word true (by rw [decide_eq_true c56]; rfl) | exact word true (by rw [decide_eq_false c56, c65]; rfl) | exact word false (by rw [decide_eq_false c56, c65]; rfl)
          · refine rl_iload_n (pc := 59) R dX8_trusted_59 rfl ?_
            refine rl_iload (pc := 60) R dX8_trusted_60 rfl ?_
            refine rl_S2 (pc := 62) RS dX8_trusted_62 lkX8_102 (Nat.le_of_ble_eq_true rfl) (bs_X8_has) ?_
            refine rl_if_eq (pc := 65) (tgt := 72) R dX8_trusted_65 rfl (fun c65 => ?_) (fun c65 => ?_)
            · rw [bI_0] at c65
              refine rl_iconst (pc := 72) R dX8_trusted_72 ic_0 ?_
              first | exact word true (by rw [decide_eq_true c56]; rfl) | exact word true (by rw [decide_eq_false c56, c65]; rfl) | exact word false (by rw [decide_eq_false c56, c65]; rfl)
            · rw [bI_n0] at c65
              refine rl_iconst (pc := 68) R dX8_trusted_68 ic_1 ?_
              refine rl_goto (pc := 69) (tgt := 73) R dX8_trusted_69 rfl ?_
              first | exact word true (by rw [decide_eq_true c56]; rfl) | exact word true (by rw [decide_eq_false c56, c65]; rfl) | exact word false (by rw [decide_eq_false c56, c65]; rfl)
      refine rl_aload_n (pc := 0) R dX8_trusted_0 rfl ?_
      refine rl_iload_n (pc := 1) R dX8_trusted_1 rfl ?_
      refine rl_V1 (pc := 2) RV dX8_trusted_2 lkX8_109 m0 rfl (Nat.le_of_ble_eq_true rfl) (bs_X8_isSet m0 hN0) ?_
      refine rl_if_ne (pc := 5) (tgt := 10) R dX8_trusted_5 rfl (fun c5 => ?_) (fun c5 => absurd c5 (by rw [hok]; decide))
      refine rl_aload_n (pc := 10) R dX8_trusted_10 rfl ?_
      refine rl_iload_n (pc := 11) R dX8_trusted_11 rfl ?_
      refine rl_V1 (pc := 12) RV dX8_trusted_12 lkX8_119 m0 rfl (Nat.le_of_ble_eq_true rfl) (bs_X8_wrongIn m0 hN0) ?_
      refine rl_bipush (pc := 15) R dX8_trusted_15 bc_m4 ?_
      refine rl_icmp_eq (pc := 17) (tgt := 23) R dX8_trusted_17 rfl (fun c17 => ?_) (fun c17 => absurd (hz) c17)
      refine rl_aload_n (pc := 23) R dX8_trusted_23 rfl ?_
      refine rl_getf (pc := 24) R dX8_trusted_24 fkX8_7 (by first | assumption | rfl) rfl ?_
      refine rl_iconst (pc := 27) R dX8_trusted_27 ic_0 ?_
      refine rl_iald (pc := 28) R dX8_trusted_28 m1 (rfl : (0 : Int32) = nI 0) (by decide) (by decide) ?_
      rw [s0]
      refine rl_istore_n (pc := 29) R dX8_trusted_29 (Nat.le_of_ble_eq_true rfl) rfl ?_
      show K _ [_, _, _, _, _, _] _ _
      refine rl_iconst (pc := 30) R dX8_trusted_30 ic_0 ?_
      refine rl_istore_n (pc := 31) R dX8_trusted_31 (Nat.le_of_ble_eq_true rfl) rfl ?_
      show K _ [_, _, _, _, _, _] _ _
      refine rl_iconst (pc := 32) R dX8_trusted_32 ic_0 ?_
      refine rl_istore (pc := 33) R dX8_trusted_33 (Nat.le_of_ble_eq_true rfl) rfl ?_
      show K _ [_, _, _, _, _, _] _ _
      exact loop n 0 (se 0) 0 none (by omega) rfl
    · rw [if_neg hz]
      refine bs_of mtX8_trusted rfl (Nat.le_of_ble_eq_true rfl) (fun K R RV RS E => ?_)
      show K 0 [_, _, _, _, _, _] [] _
      refine rl_aload_n (pc := 0) R dX8_trusted_0 rfl ?_
      refine rl_iload_n (pc := 1) R dX8_trusted_1 rfl ?_
      refine rl_V1 (pc := 2) RV dX8_trusted_2 lkX8_109 m0 rfl (Nat.le_of_ble_eq_true rfl) (bs_X8_isSet m0 hN0) ?_
      refine rl_if_ne (pc := 5) (tgt := 10) R dX8_trusted_5 rfl (fun c5 => ?_) (fun c5 => absurd c5 (by rw [hok]; decide))
      refine rl_aload_n (pc := 10) R dX8_trusted_10 rfl ?_
      refine rl_iload_n (pc := 11) R dX8_trusted_11 rfl ?_
      refine rl_V1 (pc := 12) RV dX8_trusted_12 lkX8_119 m0 rfl (Nat.le_of_ble_eq_true rfl) (bs_X8_wrongIn m0 hN0) ?_
      refine rl_bipush (pc := 15) R dX8_trusted_15 bc_m4 ?_
      refine rl_icmp_eq (pc := 17) (tgt := 23) R dX8_trusted_17 rfl (fun c17 => absurd c17 (hz)) (fun c17 => ?_)
      refine rl_bipush (pc := 20) R dX8_trusted_20 bc_m2 ?_
      exact rl_ireturn (pc := 22) E dX8_trusted_22 rfl rfl (rfl)
  · rw [if_neg hok]
    refine bs_of mtX8_trusted rfl (Nat.le_of_ble_eq_true rfl) (fun K R RV RS E => ?_)
    show K 0 [_, _, _, _, _, _] [] _
    refine rl_aload_n (pc := 0) R dX8_trusted_0 rfl ?_
    refine rl_iload_n (pc := 1) R dX8_trusted_1 rfl ?_
    refine rl_V1 (pc := 2) RV dX8_trusted_2 lkX8_109 m0 rfl (Nat.le_of_ble_eq_true rfl) (bs_X8_isSet m0 hN0) ?_
    refine rl_if_ne (pc := 5) (tgt := 10) R dX8_trusted_5 rfl (fun c5 => absurd (by rw [Bool.not_eq_true] at hok; rw [hok]; rfl) c5) (fun c5 => ?_)
    refine rl_iconst (pc := 8) R dX8_trusted_8 ic_m1 ?_
    exact rl_ireturn (pc := 9) E dX8_trusted_9 rfl rfl (rfl)
theorem bs_X8_count_bad {w : Int32} (hok : isW w 0 6 = false) : BS (d + 4) false yX8_count [.ref 0, .int w] h (some (.int (-1))) h := by
  refine bs_of mtX8_count rfl (Nat.le_of_ble_eq_true rfl) (fun K R RV RS E => ?_)
  show K 0 [_, _, _, _, _, _] [] _
  refine rl_iload_n (pc := 0) R dX8_count_0 rfl ?_
  refine rl_i2l (pc := 1) R dX8_count_1 ?_
  refine rl_lconst (pc := 2) R dX8_count_2 lc_0 ?_
  refine rl_ldc2 (pc := 3) R dX8_count_3 kdX8_100 ?_
  refine rl_S3 (pc := 6) RS dX8_count_6 lkX8_40 (Nat.le_of_ble_eq_true rfl) (bs_X8_inW (v := w) (x := 0) (y := 6) rfl rfl rfl) ?_
  refine rl_if_ne (pc := 9) (tgt := 14) R dX8_count_9 rfl (fun c9 => absurd (by rw [hok]; rfl) c9) (fun c9 => ?_)
  refine rl_iconst (pc := 12) R dX8_count_12 ic_m1 ?_
  exact rl_ireturn (pc := 13) E dX8_count_13 rfl rfl (rfl)
theorem bs_X8_count {w : Int32} (m0 : h[0]? = some (mO ik td at_ sz rd)) (hN : rN h n nw wo co se a) (hok : isW w 0 6 = true) : BS (d + 4) false yX8_count [.ref 0, .int w] h (some (.int (if w = 0 then nI n else if w = 1 then mNS nw n 0 0 else if w = 2 then se 0 else if w = 3 then se 1 else if w = 4 then se 2 else if w = 5 then sOf nw wo 1 n 0 0 else if w = 6 then sOf nw co 0 n 0 0 else -1))) h := by
  obtain ⟨m1, hn, h4, ⟨s0, s1, s2, s3⟩, hf⟩ := hN
  refine bs_of mtX8_count rfl (Nat.le_of_ble_eq_true rfl) (fun K R RV RS E => ?_)
  show K 0 [_, _, _, _, _, _] [] _
  have loop : ∀ (j i : Nat) (x y z : Int32), i + j = n → mNS nw j i x = mNS nw n 0 0 → sOf nw wo 1 j i y = sOf nw wo 1 n 0 0 → sOf nw co 0 j i z = sOf nw co 0 n 0 0 → K 24 [some (.ref 0), some (.int w), some (.int x), some (.int y), some (.int z), some (.int (nI i))] [] h := by
    intro j
    induction j with
    | zero =>
      intro i x y z hi hx hy hz
      have ex : x = mNS nw n 0 0 := hx
      have ey : y = sOf nw wo 1 n 0 0 := hy
      have ez : z = sOf nw co 0 n 0 0 := hz
      refine rl_iload (pc := 24) R dX8_count_24 rfl ?_
      refine rl_aload_n (pc := 26) R dX8_count_26 rfl ?_
      refine rl_getf (pc := 27) R dX8_count_27 fkX8_7 (by first | assumption | rfl) rfl ?_
      refine rl_iconst (pc := 30) R dX8_count_30 ic_4 ?_
      refine rl_iald (pc := 31) R dX8_count_31 m1 (rfl : (4 : Int32) = nI 4) (by decide) (by decide) ?_
      rw [h4]
      refine rl_icmp_ge (pc := 32) (tgt := 114) R dX8_count_32 rfl (fun c32 => ?_) (fun c32 => absurd (nI_le (by omega) (by omega)) c32)
      refine rl_iload_n (pc := 114) R dX8_count_114 rfl ?_
      refine rl_table7 (pc := 115) R 156 163 170 170 170 165 167 170 dX8_count_115 rfl rfl rfl rfl rfl rfl rfl rfl (fun c0 => ?_) (fun c1 => ?_) (fun c2 => ?_) (fun c3 => ?_) (fun c4 => ?_) (fun c5 => ?_) (fun c6 => ?_) (fun c0 c1 c2 c3 c4 c5 c6 => ?_)
      skip
      · subst c0
        refine rl_aload_n (pc := 156) R dX8_count_156 rfl ?_
        refine rl_getf (pc := 157) R dX8_count_157 fkX8_7 (by first | assumption | rfl) rfl ?_
        refine rl_iconst (pc := 160) R dX8_count_160 ic_4 ?_
        refine rl_iald (pc := 161) R dX8_count_161 m1 (rfl : (4 : Int32) = nI 4) (by decide) (by decide) ?_
        exact rl_ireturn (pc := 162) E dX8_count_162 rfl rfl (e_si h4.symm)
      · subst c1
        refine rl_iload_n (pc := 163) R dX8_count_163 rfl ?_
        exact rl_ireturn (pc := 164) E dX8_count_164 rfl rfl (e_si ex.symm)
      · subst c2
        refine rl_aload_n (pc := 170) R dX8_count_170 rfl ?_
        refine rl_getf (pc := 171) R dX8_count_171 fkX8_7 (by first | assumption | rfl) rfl ?_
        refine rl_iload_n (pc := 174) R dX8_count_174 rfl ?_
        refine rl_iconst (pc := 175) R dX8_count_175 ic_2 ?_
        refine rl_isub (pc := 176) R dX8_count_176 ?_
        refine rl_iald (pc := 177) R dX8_count_177 (j := 0) m1 rfl (by decide) (by decide) ?_
        exact rl_ireturn (pc := 178) E dX8_count_178 rfl rfl (e_si s0.symm)
      · subst c3
        refine rl_aload_n (pc := 170) R dX8_count_170 rfl ?_
        refine rl_getf (pc := 171) R dX8_count_171 fkX8_7 (by first | assumption | rfl) rfl ?_
        refine rl_iload_n (pc := 174) R dX8_count_174 rfl ?_
        refine rl_iconst (pc := 175) R dX8_count_175 ic_2 ?_
        refine rl_isub (pc := 176) R dX8_count_176 ?_
        refine rl_iald (pc := 177) R dX8_count_177 (j := 1) m1 rfl (by decide) (by decide) ?_
        exact rl_ireturn (pc := 178) E dX8_count_178 rfl rfl (e_si s1.symm)
      · subst c4
        refine rl_aload_n (pc := 170) R dX8_count_170 rfl ?_
        refine rl_getf (pc := 171) R dX8_count_171 fkX8_7 (by first | assumption | rfl) rfl ?_
        refine rl_iload_n (pc := 174) R dX8_count_174 rfl ?_
        refine rl_iconst (pc := 175) R dX8_count_175 ic_2 ?_
        refine rl_isub (pc := 176) R dX8_count_176 ?_
        refine rl_iald (pc := 177) R dX8_count_177 (j := 2) m1 rfl (by decide) (by decide) ?_
        exact rl_ireturn (pc := 178) E dX8_count_178 rfl rfl (e_si s2.symm)
      · subst c5
        refine rl_iload_n (pc := 165) R dX8_count_165 rfl ?_
        exact rl_ireturn (pc := 166) E dX8_count_166 rfl rfl (e_si ey.symm)
      · subst c6
        refine rl_iload (pc := 167) R dX8_count_167 rfl ?_
        exact rl_ireturn (pc := 169) E dX8_count_169 rfl rfl (e_si ez.symm)
      · exfalso
        simp only [isW, Bool.and_eq_true, decide_eq_true_eq, Int32.le_iff_toInt_le] at hok
        have e : ∀ k : Int32, ¬ w = k → w.toInt ≠ k.toInt := fun k hk he => hk (Int32.toInt_inj.mp he)
        have e0 := e 0 c0
        have e1 := e 1 c1
        have e2 := e 2 c2
        have e3 := e 3 c3
        have e4 := e 4 c4
        have e5 := e 5 c5
        have e6 := e 6 c6
        simp at e0 e1 e2 e3 e4 e5 e6 hok
        omega
    | succ j ih =>
      intro i x y z hi hx hy hz
      have c3 : ∀ v : Int32, v = (if nw i = 0 then co i else 0) → K 105 [some (.ref 0), some (.int w), some (.int (x + nw i)), some (.int (y + (if nw i = 1 then wo i else 0))), some (.int z), some (.int (nI i))] [.int v, .int z] h := by
        intro v hv
        refine rl_iadd (pc := 105) R dX8_count_105 ?_
        refine rl_istore (pc := 106) R dX8_count_106 (Nat.le_of_ble_eq_true rfl) rfl ?_
        show K _ [_, _, _, _, _, _] _ _
        refine rl_iinc (pc := 108) R dX8_count_108 rfl (ii_n i) rfl ?_
        show K _ [_, _, _, _, _, _] _ _
        refine rl_goto (pc := 111) (tgt := 24) R dX8_count_111 rfl (ih (i + 1) _ _ _ (by omega) (by rw [← hx]; rfl) (by rw [← hy]; rfl) (by rw [← hz, hv]; rfl))
      have c2 : ∀ v : Int32, v = (if nw i = 1 then wo i else 0) → K 75 [some (.ref 0), some (.int w), some (.int (x + nw i)), some (.int y), some (.int z), some (.int (nI i))] [.int v, .int y] h := by
        intro v hv
        subst hv
        refine rl_iadd (pc := 75) R dX8_count_75 ?_
        refine rl_istore_n (pc := 76) R dX8_count_76 (Nat.le_of_ble_eq_true rfl) rfl ?_
        show K _ [_, _, _, _, _, _] _ _
        refine rl_iload (pc := 77) R dX8_count_77 rfl ?_
        refine rl_aload_n (pc := 79) R dX8_count_79 rfl ?_
        refine rl_getf (pc := 80) R dX8_count_80 fkX8_7 (by first | assumption | rfl) rfl ?_
        refine rl_iconst (pc := 83) R dX8_count_83 ic_5 ?_
        refine rl_iload (pc := 84) R dX8_count_84 rfl ?_
        refine rl_iadd (pc := 86) R dX8_count_86 ?_
        refine rl_iald (pc := 87) R dX8_count_87 m1 (nI_add 5 i) (by omega) (by decide) ?_
        rw [(hf i (by omega)).1]
        refine rl_if_ne (pc := 88) (tgt := 104) R dX8_count_88 rfl (fun c88 => ?_) (fun c88 => ?_)
        · refine rl_iconst (pc := 104) R dX8_count_104 ic_0 ?_
          first | exact c3 0 (by rw [if_neg c88]) | exact c3 _ (by rw [if_pos c88])
        · refine rl_aload_n (pc := 91) R dX8_count_91 rfl ?_
          refine rl_getf (pc := 92) R dX8_count_92 fkX8_7 (by first | assumption | rfl) rfl ?_
          refine rl_bipush (pc := 95) R dX8_count_95 bc_61 ?_
          refine rl_iload (pc := 97) R dX8_count_97 rfl ?_
          refine rl_iadd (pc := 99) R dX8_count_99 ?_
          refine rl_iald (pc := 100) R dX8_count_100 m1 (nI_add 61 i) (by omega) (by decide) ?_
          rw [(hf i (by omega)).2.2]
          refine rl_goto (pc := 101) (tgt := 105) R dX8_count_101 rfl ?_
          first | exact c3 0 (by rw [if_neg c88]) | exact c3 _ (by rw [if_pos c88])
      refine rl_iload (pc := 24) R dX8_count_24 rfl ?_
      refine rl_aload_n (pc := 26) R dX8_count_26 rfl ?_
      refine rl_getf (pc := 27) R dX8_count_27 fkX8_7 (by first | assumption | rfl) rfl ?_
      refine rl_iconst (pc := 30) R dX8_count_30 ic_4 ?_
      refine rl_iald (pc := 31) R dX8_count_31 m1 (rfl : (4 : Int32) = nI 4) (by decide) (by decide) ?_
      rw [h4]
      refine rl_icmp_ge (pc := 32) (tgt := 114) R dX8_count_32 rfl (fun c32 => absurd c32 (nI_ge (by omega) (by omega))) (fun c32 => ?_)
      refine rl_iload_n (pc := 35) R dX8_count_35 rfl ?_
      refine rl_aload_n (pc := 36) R dX8_count_36 rfl ?_
      refine rl_getf (pc := 37) R dX8_count_37 fkX8_7 (by first | assumption | rfl) rfl ?_
      refine rl_iconst (pc := 40) R dX8_count_40 ic_5 ?_
      refine rl_iload (pc := 41) R dX8_count_41 rfl ?_
      refine rl_iadd (pc := 43) R dX8_count_43 ?_
      refine rl_iald (pc := 44) R dX8_count_44 m1 (nI_add 5 i) (by omega) (by decide) ?_
      rw [(hf i (by omega)).1]
      refine rl_iadd (pc := 45) R dX8_count_45 ?_
      refine rl_istore_n (pc := 46) R dX8_count_46 (Nat.le_of_ble_eq_true rfl) rfl ?_
      show K _ [_, _, _, _, _, _] _ _
      refine rl_iload_n (pc := 47) R dX8_count_47 rfl ?_
      refine rl_aload_n (pc := 48) R dX8_count_48 rfl ?_
      refine rl_getf (pc := 49) R dX8_count_49 fkX8_7 (by first | assumption | rfl) rfl ?_
      refine rl_iconst (pc := 52) R dX8_count_52 ic_5 ?_
      refine rl_iload (pc := 53) R dX8_count_53 rfl ?_
      refine rl_iadd (pc := 55) R dX8_count_55 ?_
      refine rl_iald (pc := 56) R dX8_count_56 m1 (nI_add 5 i) (by omega) (by decide) ?_
      rw [(hf i (by omega)).1]
      refine rl_iconst (pc := 57) R dX8_count_57 ic_1 ?_
      refine rl_icmp_ne (pc := 58) (tgt := 74) R dX8_count_58 rfl (fun c58 => ?_) (fun c58 => ?_)
      · refine rl_iconst (pc := 74) R dX8_count_74 ic_0 ?_
        first | exact c2 0 (by rw [if_neg c58]) | exact c2 _ (by rw [if_pos c58])
      · refine rl_aload_n (pc := 61) R dX8_count_61 rfl ?_
        refine rl_getf (pc := 62) R dX8_count_62 fkX8_7 (by first | assumption | rfl) rfl ?_
        refine rl_bipush (pc := 65) R dX8_count_65 bc_33 ?_
        refine rl_iload (pc := 67) R dX8_count_67 rfl ?_
        refine rl_iadd (pc := 69) R dX8_count_69 ?_
        refine rl_iald (pc := 70) R dX8_count_70 m1 (nI_add 33 i) (by omega) (by decide) ?_
        rw [(hf i (by omega)).2.1]
        refine rl_goto (pc := 71) (tgt := 75) R dX8_count_71 rfl ?_
        first | exact c2 0 (by rw [if_neg c58]) | exact c2 _ (by rw [if_pos c58])
  refine rl_iload_n (pc := 0) R dX8_count_0 rfl ?_
  refine rl_i2l (pc := 1) R dX8_count_1 ?_
  refine rl_lconst (pc := 2) R dX8_count_2 lc_0 ?_
  refine rl_ldc2 (pc := 3) R dX8_count_3 kdX8_100 ?_
  refine rl_S3 (pc := 6) RS dX8_count_6 lkX8_40 (Nat.le_of_ble_eq_true rfl) (bs_X8_inW (v := w) (x := 0) (y := 6) rfl rfl rfl) ?_
  refine rl_if_ne (pc := 9) (tgt := 14) R dX8_count_9 rfl (fun c9 => ?_) (fun c9 => absurd c9 (by rw [hok]; decide))
  refine rl_iconst (pc := 14) R dX8_count_14 ic_0 ?_
  refine rl_istore_n (pc := 15) R dX8_count_15 (Nat.le_of_ble_eq_true rfl) rfl ?_
  show K _ [_, _, _, _, _, _] _ _
  refine rl_iconst (pc := 16) R dX8_count_16 ic_0 ?_
  refine rl_istore_n (pc := 17) R dX8_count_17 (Nat.le_of_ble_eq_true rfl) rfl ?_
  show K _ [_, _, _, _, _, _] _ _
  refine rl_iconst (pc := 18) R dX8_count_18 ic_0 ?_
  refine rl_istore (pc := 19) R dX8_count_19 (Nat.le_of_ble_eq_true rfl) rfl ?_
  show K _ [_, _, _, _, _, _] _ _
  refine rl_iconst (pc := 21) R dX8_count_21 ic_0 ?_
  refine rl_istore (pc := 22) R dX8_count_22 (Nat.le_of_ble_eq_true rfl) rfl ?_
  show K _ [_, _, _, _, _, _] _ _
  exact loop n 0 0 0 0 (by omega) rfl rfl rfl
theorem bs_X8_type_bad {w : Int64} {k : Int32} (hk : isW k 1 8 = false) : BS (d + 3) false yX8_type [.ref 0, .long w, .int k] h (some (.int (-1))) h := by
  refine bs_of mtX8_type rfl (Nat.le_of_ble_eq_true rfl) (fun K R RV RS E => ?_)
  show K 0 [_, _, _, _, _, _] [] _
  refine rl_iload_n (pc := 0) R dX8_type_0 rfl ?_
  refine rl_i2l (pc := 1) R dX8_type_1 ?_
  refine rl_lconst (pc := 2) R dX8_type_2 lc_1 ?_
  refine rl_ldc2 (pc := 3) R dX8_type_3 kdX8_64 ?_
  refine rl_S3 (pc := 6) RS dX8_type_6 lkX8_40 (Nat.le_of_ble_eq_true rfl) (bs_X8_inW (v := k) (x := 1) (y := 8) rfl rfl rfl) ?_
  refine rl_if_ne (pc := 9) (tgt := 14) R dX8_type_9 rfl (fun c9 => absurd (by rw [hk]; rfl) c9) (fun c9 => ?_)
  refine rl_iconst (pc := 12) R dX8_type_12 ic_m1 ?_
  exact rl_ireturn (pc := 13) E dX8_type_13 rfl rfl (rfl)
theorem bs_X8_type {w : Int64} {k m : Nat} {tb : Nat → Int32} (m0 : h[0]? = some (mO ik (nI m) at_ sz rd)) (m3 : h[3]? = some (hI 200 tb)) (hm : m ≤ 200) (hk : isW (nI k) 1 8 = true) (hk8 : k ≤ 8) : BS (d + 3) false yX8_type [.ref 0, .long w, .int (nI k)] h (some (.int (if tbM w k 0 true then (if 200 < m + k then -3 else nI (m + k)) else -1))) (if tbM w k 0 true then (if 200 < m + k then h else (h.set 3 (hI 200 (apM w k tb m))).set 0 (mO ik (nI (m + k)) at_ sz rd)) else h) := by
  have A0 : ∀ (g : Nat → Int32) (q : Nat), ((h.set 3 (hI 200 g)).set 0 (mO ik (nI q) at_ sz rd))[0]? = some (mO ik (nI q) at_ sz rd) := fun g q => sm_h_eq (m0_oth m0 (by decide))
  have A3 : ∀ (g : Nat → Int32) (q : Nat), ((h.set 3 (hI 200 g)).set 0 (mO ik (nI q) at_ sz rd))[3]? = some (hI 200 g) := fun g q => sm_h_ne (sm_h_eq m3) (m0_oth m0 (by decide)) (by decide)
  refine bs_of mtX8_type rfl (Nat.le_of_ble_eq_true rfl) (fun K R RV RS E => ?_)
  show K 0 [_, _, _, _, _, _] [] _
  have put : ∀ (r q : Nat) (g : Nat → Int32) (z : Int32), ¬ 200 < m + k → q + r = m + k → apM w r g q = apM w k tb m → tbM w k 0 true = true → K 94 [some (.ref 0), some (.long w), none, some (.int (nI k)), some (.int z), some (.int (pm r))] [] ((h.set 3 (hI 200 g)).set 0 (mO ik (nI q) at_ sz rd)) := by
    intro r
    induction r with
    | zero =>
      intro q g z hf hq hg ht
      simp only [if_pos ht, if_neg hf] at E
      rw [← hg, show m + k = q by omega] at E
      refine rl_iload (pc := 94) R dX8_type_94 rfl ?_
      refine rl_if_lt (pc := 96) (tgt := 136) R dX8_type_96 rfl (fun c96 => ?_) (fun c96 => absurd (by decide) c96)
      refine rl_aload_n (pc := 136) R dX8_type_136 rfl ?_
      refine rl_getf (pc := 137) R dX8_type_137 fkX8_72 (A0 g q) rfl ?_
      exact rl_ireturn (pc := 140) E dX8_type_140 rfl rfl (rfl)
    | succ r ih =>
      intro q g z hf hq hg ht
      refine rl_iload (pc := 94) R dX8_type_94 rfl ?_
      refine rl_if_lt (pc := 96) (tgt := 136) R dX8_type_96 rfl (fun c96 => absurd c96 (nI_pos (by omega))) (fun c96 => ?_)
      refine rl_aload_n (pc := 99) R dX8_type_99 rfl ?_
      refine rl_getf (pc := 100) R dX8_type_100 fkX8_16 (A0 g q) rfl ?_
      refine rl_aload_n (pc := 103) R dX8_type_103 rfl ?_
      refine rl_getf (pc := 104) R dX8_type_104 fkX8_72 (A0 g q) rfl ?_
      refine rl_lload_n (pc := 107) R dX8_type_107 rfl ?_
      refine rl_bipush (pc := 108) R dX8_type_108 bc_8 ?_
      refine rl_iload (pc := 110) R dX8_type_110 rfl ?_
      refine rl_imul (pc := 112) R dX8_type_112 ?_
      refine rl_lshr (pc := 113) R dX8_type_113 ?_
      refine rl_ldc2 (pc := 114) R dX8_type_114 kdX8_66 ?_
      refine rl_land (pc := 117) R dX8_type_117 ?_
      refine rl_l2i (pc := 118) R dX8_type_118 ?_
      refine rl_iast (pc := 119) R dX8_type_119 (A3 g q) rfl (by omega) (by decide) ?_
      rw [List.set_comm _ _ (by decide : (0 : Nat) ≠ 3), List.set_set]
      refine rl_aload_n (pc := 120) R dX8_type_120 rfl ?_
      refine rl_dup (pc := 121) R dX8_type_121 rfl ?_
      refine rl_getf (pc := 122) R dX8_type_122 fkX8_72 (A0 _ q) rfl ?_
      refine rl_iconst (pc := 125) R dX8_type_125 ic_1 ?_
      refine rl_iadd (pc := 126) R dX8_type_126 ?_
      rw [nI_1]
      refine rl_putI (pc := 127) R dX8_type_127 fpX8_72 (A0 _ q) (Nat.le_of_ble_eq_true rfl) ?_
      rw [List.set_set]
      refine rl_iinc (pc := 130) R dX8_type_130 rfl (pm_dec r) rfl ?_
      show K _ [_, _, _, _, _, _] _ _
      refine rl_goto (pc := 133) (tgt := 94) R dX8_type_133 rfl (ih (q + 1) _ z hf (by omega) (by rw [← hg]; rfl) ht)
  have loop : ∀ (j i : Nat) (g : Bool), i + j = k → tbM w j i g = tbM w k 0 true → K 20 [some (.ref 0), some (.long w), none, some (.int (nI k)), some (.int (bI g)), some (.int (nI i))] [] h := by
    intro j
    induction j with
    | zero =>
      intro i g hi hg
      have eg : g = tbM w k 0 true := hg
      by_cases ht : tbM w k 0 true = true
      · by_cases hf : 200 < m + k
        · rw [if_pos ht, if_pos hf] at E
          rw [if_pos ht, if_pos hf] at E
          refine rl_iload (pc := 20) R dX8_type_20 rfl ?_
          refine rl_iload_n (pc := 22) R dX8_type_22 rfl ?_
          refine rl_icmp_ge (pc := 23) (tgt := 67) R dX8_type_23 rfl (fun c23 => ?_) (fun c23 => absurd (nI_le (by omega) (by omega)) c23)
          refine rl_iload (pc := 67) R dX8_type_67 rfl ?_
          refine rl_if_ne (pc := 69) (tgt := 74) R dX8_type_69 rfl (fun c69 => ?_) (fun c69 => absurd c69 (by rw [eg, ht]; decide))
          refine rl_aload_n (pc := 74) R dX8_type_74 rfl ?_
          refine rl_getf (pc := 75) R dX8_type_75 fkX8_72 (by first | assumption | rfl) rfl ?_
          refine rl_iload_n (pc := 78) R dX8_type_78 rfl ?_
          refine rl_iadd (pc := 79) R dX8_type_79 ?_
          rw [nI_add]
          refine rl_sipush (pc := 80) R dX8_type_80 sc_200 ?_
          refine rl_icmp_le (pc := 83) (tgt := 89) R dX8_type_83 rfl (fun c83 => absurd c83 (Int32.not_le.mpr (nI_lt (a := 200) hf (by omega)))) (fun c83 => ?_)
          refine rl_bipush (pc := 86) R dX8_type_86 bc_m3 ?_
          exact rl_ireturn (pc := 88) E dX8_type_88 rfl rfl (rfl)
        · refine rl_iload (pc := 20) R dX8_type_20 rfl ?_
          refine rl_iload_n (pc := 22) R dX8_type_22 rfl ?_
          refine rl_icmp_ge (pc := 23) (tgt := 67) R dX8_type_23 rfl (fun c23 => ?_) (fun c23 => absurd (nI_le (by omega) (by omega)) c23)
          refine rl_iload (pc := 67) R dX8_type_67 rfl ?_
          refine rl_if_ne (pc := 69) (tgt := 74) R dX8_type_69 rfl (fun c69 => ?_) (fun c69 => absurd c69 (by rw [eg, ht]; decide))
          refine rl_aload_n (pc := 74) R dX8_type_74 rfl ?_
          refine rl_getf (pc := 75) R dX8_type_75 fkX8_72 (by first | assumption | rfl) rfl ?_
          refine rl_iload_n (pc := 78) R dX8_type_78 rfl ?_
          refine rl_iadd (pc := 79) R dX8_type_79 ?_
          refine rl_sipush (pc := 80) R dX8_type_80 sc_200 ?_
          rw [nI_add]
          refine rl_icmp_le (pc := 83) (tgt := 89) R dX8_type_83 rfl (fun c83 => ?_) (fun c83 => absurd (nI_le (b := 200) (by omega) (by decide)) c83)
          refine rl_iload_n (pc := 89) R dX8_type_89 rfl ?_
          refine rl_iconst (pc := 90) R dX8_type_90 ic_1 ?_
          refine rl_isub (pc := 91) R dX8_type_91 ?_
          rw [pm_sub]
          refine rl_istore (pc := 92) R dX8_type_92 (Nat.le_of_ble_eq_true rfl) rfl ?_
          show K _ [_, _, _, _, _, _] _ _
          have e0 := put k m tb (bI g) hf rfl rfl ht
          rw [List.set_getElem?_self' m3, List.set_getElem?_self' m0] at e0
          exact e0
      · simp only [if_neg ht] at E
        refine rl_iload (pc := 20) R dX8_type_20 rfl ?_
        refine rl_iload_n (pc := 22) R dX8_type_22 rfl ?_
        refine rl_icmp_ge (pc := 23) (tgt := 67) R dX8_type_23 rfl (fun c23 => ?_) (fun c23 => absurd (nI_le (by omega) (by omega)) c23)
        refine rl_iload (pc := 67) R dX8_type_67 rfl ?_
        refine rl_if_ne (pc := 69) (tgt := 74) R dX8_type_69 rfl (fun c69 => absurd (by rw [eg]; rw [Bool.not_eq_true] at ht; rw [ht]; rfl) c69) (fun c69 => ?_)
        refine rl_iconst (pc := 72) R dX8_type_72 ic_m1 ?_
        exact rl_ireturn (pc := 73) E dX8_type_73 rfl rfl (rfl)
    | succ j ih =>
      intro i g hi hg
      have nx : ∀ b : Bool, b = (g && in64 (b64 w i) 32 126) → K 59 [some (.ref 0), some (.long w), none, some (.int (nI k)), some (.int (bI g)), some (.int (nI i))] [.int (bI b)] h := by
        intro b hb
        refine rl_istore (pc := 59) R dX8_type_59 (Nat.le_of_ble_eq_true rfl) rfl ?_
        show K _ [_, _, _, _, _, _] _ _
        refine rl_iinc (pc := 61) R dX8_type_61 rfl (ii_n i) rfl ?_
        show K _ [_, _, _, _, _, _] _ _
        refine rl_goto (pc := 64) (tgt := 20) R dX8_type_64 rfl (ih (i + 1) b (by omega) (by rw [← hg, tbM, hb]))
      refine rl_iload (pc := 20) R dX8_type_20 rfl ?_
      refine rl_iload_n (pc := 22) R dX8_type_22 rfl ?_
      refine rl_icmp_ge (pc := 23) (tgt := 67) R dX8_type_23 rfl (fun c23 => absurd c23 (nI_ge (by omega) (by omega))) (fun c23 => ?_)
      refine rl_iload (pc := 26) R dX8_type_26 rfl ?_
      refine rl_if_eq (pc := 28) (tgt := 58) R dX8_type_28 rfl (fun c28 => ?_) (fun c28 => ?_)
      · rw [bI_0] at c28
        refine rl_iconst (pc := 58) R dX8_type_58 ic_0 ?_
        first | exact nx false (by rw [c28]; rfl) | exact nx false (by rw [c28, c51]; rfl) | exact nx true (by rw [c28, c51]; rfl)
      · rw [bI_n0] at c28
        refine rl_lload_n (pc := 31) R dX8_type_31 rfl ?_
        refine rl_bipush (pc := 32) R dX8_type_32 bc_8 ?_
        refine rl_iload (pc := 34) R dX8_type_34 rfl ?_
        refine rl_imul (pc := 36) R dX8_type_36 ?_
        refine rl_lshr (pc := 37) R dX8_type_37 ?_
        refine rl_ldc2 (pc := 38) R dX8_type_38 kdX8_66 ?_
        refine rl_land (pc := 41) R dX8_type_41 ?_
        refine rl_ldc2 (pc := 42) R dX8_type_42 kdX8_68 ?_
        refine rl_ldc2 (pc := 45) R dX8_type_45 kdX8_70 ?_
        refine rl_S3 (pc := 48) RS dX8_type_48 lkX8_40 (Nat.le_of_ble_eq_true rfl) (bs_X8_in (v := b64 w i) (x := 32) (y := 126)) ?_
        refine rl_if_eq (pc := 51) (tgt := 58) R dX8_type_51 rfl (fun c51 => ?_) (fun c51 => ?_)
        · rw [bI_0] at c51
          refine rl_iconst (pc := 58) R dX8_type_58 ic_0 ?_
          first | exact nx false (by rw [c28]; rfl) | exact nx false (by rw [c28, c51]; rfl) | exact nx true (by rw [c28, c51]; rfl)
        · rw [bI_n0] at c51
          refine rl_iconst (pc := 54) R dX8_type_54 ic_1 ?_
          refine rl_goto (pc := 55) (tgt := 59) R dX8_type_55 rfl ?_
          first | exact nx false (by rw [c28]; rfl) | exact nx false (by rw [c28, c51]; rfl) | exact nx true (by rw [c28, c51]; rfl)
  refine rl_iload_n (pc := 0) R dX8_type_0 rfl ?_
  refine rl_i2l (pc := 1) R dX8_type_1 ?_
  refine rl_lconst (pc := 2) R dX8_type_2 lc_1 ?_
  refine rl_ldc2 (pc := 3) R dX8_type_3 kdX8_64 ?_
  refine rl_S3 (pc := 6) RS dX8_type_6 lkX8_40 (Nat.le_of_ble_eq_true rfl) (bs_X8_inW (v := nI k) (x := 1) (y := 8) rfl rfl rfl) ?_
  refine rl_if_ne (pc := 9) (tgt := 14) R dX8_type_9 rfl (fun c9 => ?_) (fun c9 => absurd c9 (by rw [hk]; decide))
  refine rl_iconst (pc := 14) R dX8_type_14 ic_1 ?_
  refine rl_istore (pc := 15) R dX8_type_15 (Nat.le_of_ble_eq_true rfl) rfl ?_
  show K _ [_, _, _, _, _, _] _ _
  refine rl_iconst (pc := 17) R dX8_type_17 ic_0 ?_
  refine rl_istore (pc := 18) R dX8_type_18 (Nat.le_of_ble_eq_true rfl) rfl ?_
  show K _ [_, _, _, _, _, _] _ _
  exact loop k 0 true (by omega) rfl
theorem bs_X8_image {then_ : Nat → Int32} (m0 : h[0]? = some (mO ik td at_ sz rd)) (m1 : h[1]? = some (hI 89 a)) (m2 : h[2]? = some (hI 89 then_)) : BS (d + 1) false yX8_image [.ref 0] h (some (.int 1)) ((h.set 2 (hI 89 (cpN 89 0 then_ a))).set 0 (mO 1 td at_ sz rd)) := by
  refine bs_of mtX8_image rfl (Nat.le_of_ble_eq_true rfl) (fun K R RV RS E => ?_)
  show K 0 [_, _] [] _
  have loop : ∀ (j i : Nat) (g : Nat → Int32), i + j = 89 → cpN j i g a = cpN 89 0 then_ a → K 2 [some (.ref 0), some (.int (nI i))] [] (h.set 2 (hI 89 g)) := by
    intro j
    induction j with
    | zero =>
      intro i g hi hg
      have e : g = cpN 89 0 then_ a := hg
      subst e
      refine rl_iload_n (pc := 2) R dX8_image_2 rfl ?_
      refine rl_bipush (pc := 3) R dX8_image_3 bc_89 ?_
      refine rl_icmp_ge (pc := 5) (tgt := 26) R dX8_image_5 rfl (fun c5 => ?_) (fun c5 => absurd (nI_le (a := 89) (by omega) (by omega)) c5)
      refine rl_aload_n (pc := 26) R dX8_image_26 rfl ?_
      refine rl_iconst (pc := 27) R dX8_image_27 ic_1 ?_
      refine rl_putZ (pc := 28) R dX8_image_28 fpX8_164 (m0_oth m0 (by decide)) (Nat.le_of_ble_eq_true rfl) (by decide) ?_
      refine rl_iconst (pc := 31) R dX8_image_31 ic_1 ?_
      exact rl_ireturn (pc := 32) E dX8_image_32 rfl rfl (rfl)
    | succ j ih =>
      intro i g hi hg
      refine rl_iload_n (pc := 2) R dX8_image_2 rfl ?_
      refine rl_bipush (pc := 3) R dX8_image_3 bc_89 ?_
      refine rl_icmp_ge (pc := 5) (tgt := 26) R dX8_image_5 rfl (fun c5 => absurd c5 (nI_ge (b := 89) (by omega) (by omega))) (fun c5 => ?_)
      refine rl_aload_n (pc := 8) R dX8_image_8 rfl ?_
      refine rl_getf (pc := 9) R dX8_image_9 fkX8_13 (m0_oth m0 (by decide)) rfl ?_
      refine rl_iload_n (pc := 12) R dX8_image_12 rfl ?_
      refine rl_aload_n (pc := 13) R dX8_image_13 rfl ?_
      refine rl_getf (pc := 14) R dX8_image_14 fkX8_7 (m0_oth m0 (by decide)) rfl ?_
      refine rl_iload_n (pc := 17) R dX8_image_17 rfl ?_
      refine rl_iald (pc := 18) R dX8_image_18 (sm_h_ne m1 m2 (by decide)) rfl (by omega) (by decide) ?_
      refine rl_iast (pc := 19) R dX8_image_19 (sm_h_eq m2) rfl (by omega) (by decide) ?_
      rw [List.set_set]
      refine rl_iinc (pc := 20) R dX8_image_20 rfl (ii_n i) rfl ?_
      show K _ [_, _] _ _
      refine rl_goto (pc := 23) (tgt := 2) R dX8_image_23 rfl (ih (i + 1) _ (by omega) (by rw [← hg]; rfl))
  refine rl_iconst (pc := 0) R dX8_image_0 ic_0 ?_
  refine rl_istore_n (pc := 1) R dX8_image_1 (Nat.le_of_ble_eq_true rfl) rfl ?_
  show K _ [_, _] _ _
  have e0 := loop 89 0 then_ rfl rfl
  rw [List.set_getElem?_self' m2] at e0
  exact e0
theorem bs_X8_restore0 (m0 : h[0]? = some (mO 0 td at_ sz rd)) : BS (d + 1) false yX8_restore [.ref 0] h (some (.int (-4))) h := by
  refine bs_of mtX8_restore rfl (Nat.le_of_ble_eq_true rfl) (fun K R RV RS E => ?_)
  show K 0 [_, _] [] _
  refine rl_aload_n (pc := 0) R dX8_restore_0 rfl ?_
  refine rl_getf (pc := 1) R dX8_restore_1 fkX8_164 (by first | assumption | rfl) rfl ?_
  refine rl_if_ne (pc := 4) (tgt := 10) R dX8_restore_4 rfl (fun c4 => absurd (rfl) c4) (fun c4 => ?_)
  refine rl_bipush (pc := 7) R dX8_restore_7 bc_m4 ?_
  exact rl_ireturn (pc := 9) E dX8_restore_9 rfl rfl (rfl)
theorem bs_X8_restore {then_ : Nat → Int32} (m0 : h[0]? = some (mO 1 td at_ sz rd)) (m1 : h[1]? = some (hI 89 a)) (m2 : h[2]? = some (hI 89 then_)) : BS (d + 1) false yX8_restore [.ref 0] h (some (.int 1)) (h.set 1 (hI 89 (cpN 89 0 a then_))) := by
  refine bs_of mtX8_restore rfl (Nat.le_of_ble_eq_true rfl) (fun K R RV RS E => ?_)
  show K 0 [_, _] [] _
  have loop : ∀ (j i : Nat) (g : Nat → Int32), i + j = 89 → cpN j i g then_ = cpN 89 0 a then_ → K 12 [some (.ref 0), some (.int (nI i))] [] (h.set 1 (hI 89 g)) := by
    intro j
    induction j with
    | zero =>
      intro i g hi hg
      have e : g = cpN 89 0 a then_ := hg
      subst e
      refine rl_iload_n (pc := 12) R dX8_restore_12 rfl ?_
      refine rl_bipush (pc := 13) R dX8_restore_13 bc_89 ?_
      refine rl_icmp_ge (pc := 15) (tgt := 36) R dX8_restore_15 rfl (fun c15 => ?_) (fun c15 => absurd (nI_le (a := 89) (by omega) (by omega)) c15)
      refine rl_iconst (pc := 36) R dX8_restore_36 ic_1 ?_
      exact rl_ireturn (pc := 37) E dX8_restore_37 rfl rfl (rfl)
    | succ j ih =>
      intro i g hi hg
      refine rl_iload_n (pc := 12) R dX8_restore_12 rfl ?_
      refine rl_bipush (pc := 13) R dX8_restore_13 bc_89 ?_
      refine rl_icmp_ge (pc := 15) (tgt := 36) R dX8_restore_15 rfl (fun c15 => absurd c15 (nI_ge (b := 89) (by omega) (by omega))) (fun c15 => ?_)
      refine rl_aload_n (pc := 18) R dX8_restore_18 rfl ?_
      refine rl_getf (pc := 19) R dX8_restore_19 fkX8_7 (m0_oth m0 (by decide)) rfl ?_
      refine rl_iload_n (pc := 22) R dX8_restore_22 rfl ?_
      refine rl_aload_n (pc := 23) R dX8_restore_23 rfl ?_
      refine rl_getf (pc := 24) R dX8_restore_24 fkX8_13 (m0_oth m0 (by decide)) rfl ?_
      refine rl_iload_n (pc := 27) R dX8_restore_27 rfl ?_
      refine rl_iald (pc := 28) R dX8_restore_28 (sm_h_ne m2 m1 (by decide)) rfl (by omega) (by decide) ?_
      refine rl_iast (pc := 29) R dX8_restore_29 (sm_h_eq m1) rfl (by omega) (by decide) ?_
      rw [List.set_set]
      refine rl_iinc (pc := 30) R dX8_restore_30 rfl (ii_n i) rfl ?_
      show K _ [_, _] _ _
      refine rl_goto (pc := 33) (tgt := 12) R dX8_restore_33 rfl (ih (i + 1) _ (by omega) (by rw [← hg]; rfl))
  refine rl_aload_n (pc := 0) R dX8_restore_0 rfl ?_
  refine rl_getf (pc := 1) R dX8_restore_1 fkX8_164 (by first | assumption | rfl) rfl ?_
  refine rl_if_ne (pc := 4) (tgt := 10) R dX8_restore_4 rfl (fun c4 => ?_) (fun c4 => absurd c4 (by decide))
  refine rl_iconst (pc := 10) R dX8_restore_10 ic_0 ?_
  refine rl_istore_n (pc := 11) R dX8_restore_11 (Nat.le_of_ble_eq_true rfl) rfl ?_
  show K _ [_, _] _ _
  have e0 := loop 89 0 a rfl rfl
  rw [List.set_getElem?_self' m1] at e0
  exact e0
end M5
