/-! A YEAR FROM THE TAPE -/
def hth (h : List sm_C) (k c k2 c2 m p n : Nat) (F : Nat → Int32) : List sm_C := ((h.set k (hT c m p)).set c2 (hI 84 F)).set k2 (hO 0 [.ref c2, .int (nI n)])
section IN
variable {d : Nat} {h : List sm_C} {k c k2 c2 m p n q n' : Nat} {f F F' : Nat → Int32}
theorem hth_k (e1 : k ≠ c2) (e2 : k ≠ k2) : (hth h k c k2 c2 m p n F).set k (hT c m q) = hth h k c k2 c2 m q n F := by
  unfold hth
  rw [List.set_comm _ _ (Ne.symm e2), List.set_comm _ _ (Ne.symm e1), List.set_set]
theorem hth_all (e1 : k ≠ c2) (e2 : k ≠ k2) (e3 : c2 ≠ k2) : (((hth h k c k2 c2 m p n F).set k (hT c m q)).set c2 (hI 84 F')).set k2 (hO 0 [.ref c2, .int (nI n')]) = hth h k c k2 c2 m q n' F' := by
  rw [hth_k e1 e2]
  unfold hth
  rw [List.set_comm _ _ (Ne.symm e3), List.set_set, List.set_set]
theorem bs_X4_readInto {x : Int32} {n0 : Nat} {F0 : Nat → Int32} (h1 : h[k]? = some (hO 4 [.ref c, .int (nI m), .int x])) (h2 : h[c]? = some (hI 200 f)) (h3 : h[k2]? = some (hO 0 [.ref c2, .int (nI n0)])) (h4 : h[c2]? = some (hI 84 F0)) (hc : c ≠ c2) (hm : m ≤ 200) : BS (d + 6) false yX4_readInto [.ref k, .ref k2] h (some (.int (riS f m 28 0 0 F0).1)) (hth h k c k2 c2 m (riS f m 28 0 0 F0).2.1 (riS f m 28 0 0 F0).2.2.1 (riS f m 28 0 0 F0).2.2.2) := by
  have e1 : k ≠ c2 := fun e => by subst e; rw [h1] at h4; cases h4
  have e2 : k ≠ k2 := fun e => by subst e; rw [h1] at h3; cases h3
  have e3 : c2 ≠ k2 := fun e => by subst e; rw [h3] at h4; cases h4
  have e4 : c ≠ k2 := fun e => by subst e; rw [h2] at h3; cases h3
  have f1 : ∀ (p n : Nat) (F : Nat → Int32), (hth h k c k2 c2 m p n F)[k]? = some (hT c m p) := fun p n F => sm_h_ne (sm_h_ne (sm_h_eq h1) (sm_h_ne h4 h1 (Ne.symm e1)) e1) (sm_h_ne (sm_h_ne h3 h1 (Ne.symm e2)) (sm_h_ne h4 h1 (Ne.symm e1)) (Ne.symm e3)) e2
  have f2 : ∀ (p n : Nat) (F : Nat → Int32), (hth h k c k2 c2 m p n F)[c]? = some (hI 200 f) := fun p n F => sm_h_ne (sm_h_ne (sm_h_io h2 h1) (sm_h_ne h4 h1 (Ne.symm e1)) hc) (sm_h_ne (sm_h_ne h3 h1 (Ne.symm e2)) (sm_h_ne h4 h1 (Ne.symm e1)) (Ne.symm e3)) e4
  have f3 : ∀ (p n : Nat) (F : Nat → Int32), (hth h k c k2 c2 m p n F)[k2]? = some (hO 0 [.ref c2, .int (nI n)]) := fun p n F => sm_h_eq (sm_h_ne (sm_h_ne h3 h1 (Ne.symm e2)) (sm_h_ne h4 h1 (Ne.symm e1)) (Ne.symm e3))
  have f4 : ∀ (p n : Nat) (F : Nat → Int32), (hth h k c k2 c2 m p n F)[c2]? = some (hI 84 F) := fun p n F => sm_h_ne (sm_h_eq (sm_h_ne h4 h1 (Ne.symm e1))) (sm_h_ne (sm_h_ne h3 h1 (Ne.symm e2)) (sm_h_ne h4 h1 (Ne.symm e1)) (Ne.symm e3)) e3
  refine bs_of mtX4_readInto rfl (Nat.le_of_ble_eq_true rfl) (fun K R RV RS E => ?_)
  show K 0 [_, _, _, _, _] [] _
  have loop : ∀ (j p n : Nat) (F : Nat → Int32) (z3 z4 : Option Value), n + j = 28 → p ≤ m → riS f m j p n F = riS f m 28 0 0 F0 → (∀ v, z3 ≠ some (.long v)) → (∀ v, z3 ≠ some (.double v)) → K 11 [some (.ref k), some (.ref k2), some (.int (nI n)), z3, z4] [] (hth h k c k2 c2 m p n F) := by
    intro j
    induction j with
    | zero =>
      intro p n F z3 z4 hj hp hs z3l z3d
      rw [← hs] at E
      simp only [riS] at E
      have g1 := f1 p n F
      refine rl_iload_n (pc := 11) R dX4_readInto_11 rfl ?_
      refine rl_bipush (pc := 12) R dX4_readInto_12 bc_28 ?_
      refine rl_icmp_ge (pc := 14) (tgt := 84) R dX4_readInto_14 rfl (fun c14 => ?_) (fun c14 => absurd (nI_le (a := 28) (by omega) (by omega)) c14)
      refine rl_aload_n (pc := 84) R dX4_readInto_84 rfl ?_
      refine rl_getf (pc := 85) R dX4_readInto_85 fkX4_19 g1 rfl ?_
      refine rl_S1 (pc := 88) RS dX4_readInto_88 lkX4_48 (Nat.le_of_ble_eq_true rfl) (bs_X4_faultAt) ?_
      exact rl_ireturn (pc := 91) E dX4_readInto_91 rfl rfl (rfl)
    | succ j ih =>
      intro p n F z3 z4 hj hp hs z3l z3d
      have g1 := f1 p n F
      have g2 := f2 p n F
      have g3 := f3 p n F
      have g4 := f4 p n F
      have hB := @bs_X4_readDay d (hth h k c k2 c2 m p n F) k c m p f k2 c2 n F g1 g2 g3 g4 hm hp (by omega)
      have hle := rdS_le f m p hp
      generalize hr : rdS f m p = r at hB hle
      by_cases hz : r.1 = 0
      · rw [if_pos hz, hth_all e1 e2 e3] at hB
        generalize hF : up3 F n r.2.2.1 r.2.2.2.1 r.2.2.2.2 = F' at hB
        have k1 := f1 r.2.1 (n + 1) F'
        have k2' := f2 r.2.1 (n + 1) F'
        have hle3 := nbP_le f (m - r.2.1) r.2.1
        generalize hTT : nbP f (m - r.2.1) r.2.1 = T at hle3
        have t1 := f1 T (n + 1) F'
        have t3 := f3 T (n + 1) F'
        have hs2 := hs
        rw [riS, hr, if_pos hz, hTT, hF] at hs2
        have bad : ¬ nbV f m T = -1 → ¬ (nbV f m T = 44 ∧ n + 1 < 28) → K 60 [some (.ref k), some (.ref k2), some (.int (nI n)), some (.int r.1), some (.int (nbV f m T))] [] (hth h k c k2 c2 m T (n + 1) F') := by
          intro q1 q2
          rw [if_neg q1, if_neg q2] at hs2
          rw [← hs2] at E
          refine rl_aload_n (pc := 60) R dX4_readInto_60 rfl ?_
          refine rl_getf (pc := 61) R dX4_readInto_61 fkX4_19 t1 rfl ?_
          refine rl_S1 (pc := 64) RS dX4_readInto_64 lkX4_48 (Nat.le_of_ble_eq_true rfl) (bs_X4_faultAt) ?_
          exact rl_ireturn (pc := 67) E dX4_readInto_67 rfl rfl (rfl)
        refine rl_iload_n (pc := 11) R dX4_readInto_11 rfl ?_
        refine rl_bipush (pc := 12) R dX4_readInto_12 bc_28 ?_
        refine rl_icmp_ge (pc := 14) (tgt := 84) R dX4_readInto_14 rfl (fun c14 => absurd c14 (nI_ge (b := 28) (by omega) (by omega))) (fun c14 => ?_)
        refine rl_aload_n (pc := 17) R dX4_readInto_17 rfl ?_
        refine rl_aload_n (pc := 18) R dX4_readInto_18 rfl ?_
        refine rl_V1 (pc := 19) RV dX4_readInto_19 lkX4_35 g1 rfl (Nat.le_of_ble_eq_true rfl) (hB) ?_
        refine rl_istore_n (pc := 22) R dX4_readInto_22 (Nat.le_of_ble_eq_true rfl) rfl ?_
        show K _ [_, _, _, _, _] _ _
        refine rl_iload_n (pc := 23) R dX4_readInto_23 rfl ?_
        refine rl_if_eq (pc := 24) (tgt := 29) R dX4_readInto_24 rfl (fun c24 => ?_) (fun c24 => absurd (hz) c24)
        refine rl_aload_n (pc := 29) R dX4_readInto_29 rfl ?_
        refine rl_V0 (pc := 30) RV dX4_readInto_30 lkX4_39 k1 rfl (Nat.le_of_ble_eq_true rfl) (bs_X4_nextByte k1 k2' hm (by omega)) ?_
        rw [hTT, hth_k e1 e2]
        refine rl_istore (pc := 33) R dX4_readInto_33 (Nat.le_of_ble_eq_true rfl) rfl ?_
        show K _ [_, _, _, _, _] _ _
        refine rl_iload (pc := 35) R dX4_readInto_35 rfl ?_
        refine rl_iconst (pc := 37) R dX4_readInto_37 ic_m1 ?_
        refine rl_icmp_ne (pc := 38) (tgt := 46) R dX4_readInto_38 rfl (fun c38 => ?_) (fun c38 => ?_)
        · refine rl_iload (pc := 46) R dX4_readInto_46 rfl ?_
          refine rl_bipush (pc := 48) R dX4_readInto_48 bc_44 ?_
          refine rl_icmp_ne (pc := 50) (tgt := 60) R dX4_readInto_50 rfl (fun c50 => ?_) (fun c50 => ?_)
          · exact bad c38 (fun z => c50 z.1)
          · refine rl_aload_n (pc := 53) R dX4_readInto_53 rfl ?_
            refine rl_V0 (pc := 54) RV dX4_readInto_54 lkX4_44 t3 rfl (Nat.le_of_ble_eq_true rfl) (bs_X0_isFull t3) ?_
            refine rl_if_eq (pc := 57) (tgt := 68) R dX4_readInto_57 rfl (fun c57 => ?_) (fun c57 => ?_)
            · rw [bI_0] at c57
              refine rl_aload_n (pc := 68) R dX4_readInto_68 rfl ?_
              refine rl_dup (pc := 69) R dX4_readInto_69 rfl ?_
              refine rl_getf (pc := 70) R dX4_readInto_70 fkX4_19 t1 rfl ?_
              refine rl_iconst (pc := 73) R dX4_readInto_73 ic_1 ?_
              refine rl_iadd (pc := 74) R dX4_readInto_74 ?_
              rw [nI_1]
              refine rl_putI (pc := 75) R dX4_readInto_75 fpX4_19 t1 (Nat.le_of_ble_eq_true rfl) ?_
              show K 78 _ _ ((hth h k c k2 c2 m T (n + 1) F').set k (hT c m (T + 1)))
              rw [hth_k e1 e2]
              refine rl_iinc (pc := 78) R dX4_readInto_78 rfl (ii_n n) rfl ?_
              show K _ [_, _, _, _, _] _ _
              have hn28 : n + 1 < 28 := by
                simp only [Bool.not_eq_false', decide_eq_true_eq] at c57
                exact (nI_ltI (b := 28) (by omega) (by decide)).mp c57
              refine rl_goto (pc := 81) (tgt := 11) R dX4_readInto_81 rfl (ih (T + 1) (n + 1) F' _ _ (by omega) (by have := nbV_lt c50 (by decide); omega) (by rw [if_neg c38, if_pos ⟨c50, hn28⟩] at hs2; exact hs2) (fun v => by simp) (fun v => by simp))
            · rw [bI_n0] at c57
              exact bad c38 (fun z => by rw [show decide (nI (n + 1) < 28) = true from decide_eq_true (nI_lt (b := 28) z.2 (by decide))] at c57; cases c57)
        · rw [if_pos c38] at hs2
          rw [← hs2] at E
          refine rl_aload_n (pc := 41) R dX4_readInto_41 rfl ?_
          refine rl_getf (pc := 42) R dX4_readInto_42 fkX4_43 t3 rfl ?_
          exact rl_ireturn (pc := 45) E dX4_readInto_45 rfl rfl (rfl)
      · rw [if_neg hz, hth_k e1 e2] at hB
        rw [riS, hr, if_neg hz] at hs
        rw [← hs] at E
        refine rl_iload_n (pc := 11) R dX4_readInto_11 rfl ?_
        refine rl_bipush (pc := 12) R dX4_readInto_12 bc_28 ?_
        refine rl_icmp_ge (pc := 14) (tgt := 84) R dX4_readInto_14 rfl (fun c14 => absurd c14 (nI_ge (b := 28) (by omega) (by omega))) (fun c14 => ?_)
        refine rl_aload_n (pc := 17) R dX4_readInto_17 rfl ?_
        refine rl_aload_n (pc := 18) R dX4_readInto_18 rfl ?_
        refine rl_V1 (pc := 19) RV dX4_readInto_19 lkX4_35 g1 rfl (Nat.le_of_ble_eq_true rfl) (hB) ?_
        refine rl_istore_n (pc := 22) R dX4_readInto_22 (Nat.le_of_ble_eq_true rfl) rfl ?_
        show K _ [_, _, _, _, _] _ _
        refine rl_iload_n (pc := 23) R dX4_readInto_23 rfl ?_
        refine rl_if_eq (pc := 24) (tgt := 29) R dX4_readInto_24 rfl (fun c24 => absurd c24 (hz)) (fun c24 => ?_)
        refine rl_iload_n (pc := 27) R dX4_readInto_27 rfl ?_
        exact rl_ireturn (pc := 28) E dX4_readInto_28 rfl rfl (rfl)
  refine rl_aload_n (pc := 0) R dX4_readInto_0 rfl ?_
  refine rl_iconst (pc := 1) R dX4_readInto_1 ic_0 ?_
  refine rl_putI (pc := 2) R dX4_readInto_2 fpX4_19 (by first | assumption | rfl) (Nat.le_of_ble_eq_true rfl) ?_
  have e5 : (h.set k (hO 4 [.ref c, .int (nI m), .int 0]))[k2]? = some (hO 0 [.ref c2, .int (nI n0)]) := sm_h_ne h3 h1 (Ne.symm e2)
  refine rl_aload_n (pc := 5) R dX4_readInto_5 rfl ?_
  refine rl_V0v (pc := 6) RV dX4_readInto_6 lkX4_30 e5 rfl (Nat.le_of_ble_eq_true rfl) (bs_X0_empty e5) ?_
  have e6 : (h.set k (hO 4 [.ref c, .int (nI m), .int 0])).set k2 (hO 0 [.ref c2, .int (nI 0)]) = hth h k c k2 c2 m 0 0 F0 := by
    unfold hth
    rw [List.set_getElem?_self' (sm_h_ne h4 h1 (Ne.symm e1) : (h.set k (hT c m 0))[c2]? = some (hI 84 F0))]; rfl
  show K 9 _ _ ((h.set k (hO 4 [.ref c, .int (nI m), .int 0])).set k2 (hO 0 [.ref c2, .int (nI 0)]))
  rw [e6]
  refine rl_iconst (pc := 9) R dX4_readInto_9 ic_0 ?_
  refine rl_istore_n (pc := 10) R dX4_readInto_10 (Nat.le_of_ble_eq_true rfl) rfl ?_
  show K _ [_, _, _, _, _] _ _
  exact loop 28 0 0 F0 none none rfl (Nat.zero_le _) rfl (fun v => by simp) (fun v => by simp)
end IN
