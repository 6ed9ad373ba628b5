/-! WORDS: how many sets fit -/
def nob (lies : Int32) : Nat → Nat → Bool
  | 0, _ => true
  | j + 1, i => !bt lies i && nob lies j (i + 1)
def fbG (law lies : Int32) (g : Nat → Int32) (i l : Nat) : Int32 := if l = 0 then 0 else if opn law i then (if nob lies (min (oAg law i) 28 - (i + 1)) (i + 1) then g (min (oAg law i) 28 * 10 + (l - 1)) else 0) else 0
def ftG (law op lies : Int32) (g : Nat → Int32) (i l : Nat) : Int32 := (if bt lies i then 0 else g ((i + 1) * 10 + l)) + (if bt op i then fbG law lies g i l else 0)
def fkE : Nat → Nat → (Nat → Int32) → Nat → Int32
  | 0, _, g => g
  | j + 1, l, g => fkE j (l + 1) (upd g (28 * 10 + l) (if l = 0 then 1 else 0))
def fkR (law op lies : Int32) (i : Nat) : Nat → Nat → (Nat → Int32) → Nat → Int32
  | 0, _, g => g
  | j + 1, l, g => fkR law op lies i j (l + 1) (upd g (i * 10 + l) (ftG law op lies g i l))
def fkO (law op lies : Int32) (k : Nat) : Nat → (Nat → Int32) → Nat → Int32
  | 0, g => g
  | m + 1, g => fkO law op lies k m (fkR law op lies m (k + 1) 0 g)
def fk (law op lies : Int32) (k : Nat) (g : Nat → Int32) : Nat → Int32 := fkO law op lies k 28 (fkE (k + 1) 0 g)
def fkF (law op lies : Int32) (k : Nat) (g : Nat → Int32) : Prop :=
  (∀ l, l ≤ k → g (28 * 10 + l) = if l = 0 then 1 else 0) ∧ ∀ i, i < 28 → ∀ l, l ≤ k → g (i * 10 + l) = ftG law op lies g i l
theorem fkE_out : ∀ (j l : Nat) (g : Nat → Int32) (q : Nat), (∀ l2, l ≤ l2 → l2 < l + j → q ≠ 28 * 10 + l2) → fkE j l g q = g q
  | 0, _, _, _, _ => rfl
  | j + 1, l, g, q, h => by
    rw [fkE, fkE_out j (l + 1) _ q (fun l2 h1 h2 => h l2 (by omega) (by omega))]
    simp only [upd]; rw [if_neg (h l (by omega) (by omega))]
theorem fkE_in : ∀ (j l : Nat) (g : Nat → Int32) (l2 : Nat), l ≤ l2 → l2 < l + j → fkE j l g (28 * 10 + l2) = if l2 = 0 then 1 else 0
  | 0, _, _, _, h1, h2 => by omega
  | j + 1, l, g, l2, h1, h2 => by
    rw [fkE]
    rcases Nat.lt_or_ge l l2 with q | q
    · exact fkE_in j (l + 1) _ l2 (by omega) (by omega)
    · have : l2 = l := by omega
      subst this
      rw [fkE_out j (l2 + 1) _ _ (fun l3 h3 h4 => by omega)]
      simp [upd]
section FF
variable {law op lies : Int32}
theorem ftG_congr {g g2 : Nat → Int32} {i l : Nat} (h : g ((i + 1) * 10 + l) = g2 ((i + 1) * 10 + l)) (h2 : g (min (oAg law i) 28 * 10 + (l - 1)) = g2 (min (oAg law i) 28 * 10 + (l - 1))) : ftG law op lies g i l = ftG law op lies g2 i l := by simp only [ftG, fbG, h, h2]
theorem fkR_out {i : Nat} : ∀ (j l : Nat) (g : Nat → Int32) (q : Nat), (∀ l2, l ≤ l2 → l2 < l + j → q ≠ i * 10 + l2) → fkR law op lies i j l g q = g q
  | 0, _, _, _, _ => rfl
  | j + 1, l, g, q, h => by
    rw [fkR, fkR_out j (l + 1) _ q (fun l2 h1 h2 => h l2 (by omega) (by omega))]
    simp only [upd]; rw [if_neg (h l (by omega) (by omega))]
theorem fkR_in {i : Nat} (hi : i < 28) : ∀ (j l : Nat) (g : Nat → Int32) (l2 : Nat), l + j ≤ 10 → l ≤ l2 → l2 < l + j → fkR law op lies i j l g (i * 10 + l2) = ftG law op lies g i l2
  | 0, _, _, _, _, h1, h2 => by omega
  | j + 1, l, g, l2, hj, h1, h2 => by
    rw [fkR]
    rcases Nat.lt_or_ge l l2 with q | q
    · rw [fkR_in hi j (l + 1) _ l2 (by omega) (by omega) (by omega)]
      have hag : i + 1 ≤ min (oAg law i) 28 := by have := oAg_gt law i; omega
      exact ftG_congr (by simp only [upd]; rw [if_neg (by omega)]) (by simp only [upd]; rw [if_neg (by omega)])
    · have : l2 = l := by omega
      subst this
      rw [fkR_out j (l2 + 1) _ _ (fun l3 h3 h4 => by omega)]
      simp [upd]
theorem fkO_out {k : Nat} (hl : k ≤ 9) : ∀ (m : Nat) (g : Nat → Int32) (q : Nat), m * 10 ≤ q → fkO law op lies k m g q = g q
  | 0, _, _, _ => rfl
  | m + 1, g, q, h => by
    rw [fkO, fkO_out hl m _ q (by omega), fkR_out _ _ _ _ (fun l2 h1 h2 => by omega)]
theorem fkO_in {k : Nat} (hl : k ≤ 9) : ∀ (m : Nat) (g : Nat → Int32), m ≤ 28 → ∀ i, i < m → ∀ l, l ≤ k → fkO law op lies k m g (i * 10 + l) = ftG law op lies (fkO law op lies k m g) i l
  | 0, _, _, i, hi, _, _ => by omega
  | m + 1, g, hm, i, hi, l, hll => by
    rw [fkO]
    rcases Nat.lt_or_ge i m with q | q
    · exact fkO_in hl m _ (by omega) i q l hll
    · have : i = m := by omega
      subst this
      have hag : i + 1 ≤ min (oAg law i) 28 := by have := oAg_gt law i; omega
      rw [fkO_out hl i _ _ (by omega), fkR_in (by omega) _ _ _ _ (by omega) (by omega) (by omega)]
      exact ftG_congr (by rw [fkO_out hl _ _ _ (by omega), fkR_out _ _ _ _ (fun l2 h1 h2 => by omega)]) (by rw [fkO_out hl _ _ _ (by omega), fkR_out _ _ _ _ (fun l2 h1 h2 => by omega)])
theorem fk_F {k : Nat} (hl : k ≤ 9) (g : Nat → Int32) : fkF law op lies k (fk law op lies k g) := by
  refine ⟨fun l hll => ?_, fun i hi l hll => fkO_in hl 28 _ (Nat.le_refl _) i hi l hll⟩
  rw [fk, fkO_out hl 28 _ _ (by omega), fkE_in _ _ _ _ (by omega) (by omega)]
end FF
def rW (h : List sm_C) (a t tc : Nat) (g : Nat → Int32) : Prop := h[a]? = some (hO 5 [.ref t]) ∧ h[t]? = some (hO 3 [.ref tc]) ∧ h[tc]? = some (hI 290 g)
theorem rW_set {h : List sm_C} {a t tc : Nat} {g g2 : Nat → Int32} (hH : rW h a t tc g) : rW (h.set tc (hI 290 g2)) a t tc g2 := ⟨sm_h_oi hH.1 hH.2.2, sm_h_oi hH.2.1 hH.2.2, sm_h_eq hH.2.2⟩
section WM
variable {d : Nat} {h : List sm_C} {a t tc : Nat} {g : Nat → Int32}
theorem bs_X5_fitBehind {i l : Nat} {law lies : Int32} (hH : rW h a t tc g) (hi : i < 28) (hl : l < 10) : BS (d + 3) false yX5_fitBehind [.ref a, .int law, .int lies, .int (nI i), .int (nI l)] h (some (.int (fbG law lies g i l))) h := by
  obtain ⟨h1, h2, h3⟩ := hH
  refine bs_of mtX5_fitBehind rfl (Nat.le_of_ble_eq_true rfl) (fun K R RV RS E => ?_)
  show K 0 [_, _, _, _, _, _, _] [] _
  have hag : i + 1 ≤ min (oAg law i) 28 := by have := oAg_gt law i; omega
  have loop : ∀ (l1 : Nat), l = l1 + 1 → opn law i = true → ∀ (j q : Nat), q + j = min (oAg law i) 28 → nob lies j q = nob lies (min (oAg law i) 28 - (i + 1)) (i + 1) → K 32 [some (.ref a), some (.int law), some (.int lies), some (.int (nI i)), some (.int (nI (l1 + 1))), some (.int (nI (min (oAg law i) 28))), some (.int (nI q))] [] h := by
    intro l1 e1 hop j
    induction j with
    | zero =>
      intro q hq hs
      refine rl_iload (pc := 32) R dX5_fitBehind_32 rfl ?_
      refine rl_iload (pc := 34) R dX5_fitBehind_34 rfl ?_
      refine rl_icmp_ge (pc := 36) (tgt := 56) R dX5_fitBehind_36 rfl (fun c36 => ?_) (fun c36 => absurd (nI_le (by omega) (by omega)) c36)
      refine rl_aload_n (pc := 56) R dX5_fitBehind_56 rfl ?_
      refine rl_getf (pc := 57) R dX5_fitBehind_57 fkX5_12 (by first | assumption | rfl) rfl ?_
      refine rl_iload (pc := 60) R dX5_fitBehind_60 rfl ?_
      refine rl_iload (pc := 62) R dX5_fitBehind_62 rfl ?_
      refine rl_iconst (pc := 64) R dX5_fitBehind_64 ic_1 ?_
      refine rl_isub (pc := 65) R dX5_fitBehind_65 ?_
      rw [nI_pred]
      refine rl_V2 (pc := 66) RV dX5_fitBehind_66 lkX5_26 h2 rfl (Nat.le_of_ble_eq_true rfl) (bs_X3_tell h2 h3 (by omega) (by omega)) ?_
      exact rl_ireturn (pc := 69) E dX5_fitBehind_69 rfl rfl (e_si (by simp only [fbG]; rw [if_neg (by omega), if_pos hop, ← hs, show l - 1 = l1 by omega]; rfl))
    | succ j ih =>
      intro q hq hs
      refine rl_iload (pc := 32) R dX5_fitBehind_32 rfl ?_
      refine rl_iload (pc := 34) R dX5_fitBehind_34 rfl ?_
      refine rl_icmp_ge (pc := 36) (tgt := 56) R dX5_fitBehind_36 rfl (fun c36 => absurd c36 (nI_ge (by omega) (by omega))) (fun c36 => ?_)
      refine rl_iload_n (pc := 39) R dX5_fitBehind_39 rfl ?_
      refine rl_iload (pc := 40) R dX5_fitBehind_40 rfl ?_
      refine rl_S2 (pc := 42) RS dX5_fitBehind_42 lkX5_22 (Nat.le_of_ble_eq_true rfl) (bs_X7_holds) ?_
      refine rl_if_eq (pc := 45) (tgt := 50) R dX5_fitBehind_45 rfl (fun c45 => ?_) (fun c45 => ?_)
      · rw [bI_0] at c45
        refine rl_iinc (pc := 50) R dX5_fitBehind_50 rfl (ii_n q) rfl ?_
        show K _ [_, _, _, _, _, _, _] _ _
        refine rl_goto (pc := 53) (tgt := 32) R dX5_fitBehind_53 rfl (ih (q + 1) (by omega) (by rw [← hs]; simp only [nob]; rw [c45]; rfl))
      · rw [bI_n0] at c45
        refine rl_iconst (pc := 48) R dX5_fitBehind_48 ic_0 ?_
        exact rl_ireturn (pc := 49) E dX5_fitBehind_49 rfl rfl (e_si (by simp only [fbG]; rw [if_neg (by omega), if_pos hop, ← hs, if_neg (by simp [nob, c45])]))
  rcases Nat.eq_zero_or_pos l with rfl | hp
  · refine rl_iload (pc := 0) R dX5_fitBehind_0 rfl ?_
    refine rl_if_le (pc := 2) (tgt := 13) R dX5_fitBehind_2 rfl (fun c2 => ?_) (fun c2 => absurd (by decide) c2)
    refine rl_iconst (pc := 13) R dX5_fitBehind_13 ic_0 ?_
    exact rl_ireturn (pc := 14) E dX5_fitBehind_14 rfl rfl (rfl)
  · obtain ⟨l1, rfl⟩ : ∃ l1, l = l1 + 1 := ⟨l - 1, by omega⟩
    refine rl_iload (pc := 0) R dX5_fitBehind_0 rfl ?_
    refine rl_if_le (pc := 2) (tgt := 13) R dX5_fitBehind_2 rfl (fun c2 => absurd c2 (nI_nle (by omega) (by omega))) (fun c2 => ?_)
    refine rl_iload_n (pc := 5) R dX5_fitBehind_5 rfl ?_
    refine rl_iload_n (pc := 6) R dX5_fitBehind_6 rfl ?_
    refine rl_S2 (pc := 7) RS dX5_fitBehind_7 lkX5_34 (Nat.le_of_ble_eq_true rfl) (bs_X7_isOpen (by omega)) ?_
    refine rl_if_ne (pc := 10) (tgt := 15) R dX5_fitBehind_10 rfl (fun c10 => ?_) (fun c10 => ?_)
    · rw [bI_n0] at c10
      refine rl_iload_n (pc := 15) R dX5_fitBehind_15 rfl ?_
      refine rl_iload_n (pc := 16) R dX5_fitBehind_16 rfl ?_
      refine rl_S2 (pc := 17) RS dX5_fitBehind_17 lkX5_37 (Nat.le_of_ble_eq_true rfl) (bs_X7_openAgain (by omega)) ?_
      refine rl_bipush (pc := 20) R dX5_fitBehind_20 bc_28 ?_
      refine rl_min (pc := 22) R dX5_fitBehind_22 lmX5_40 (Nat.le_of_ble_eq_true rfl) ?_
      rw [show (28 : Int32) = nI 28 from rfl, nI_min (by have := oAg_le law i; omega) (by omega)]
      refine rl_istore (pc := 25) R dX5_fitBehind_25 (Nat.le_of_ble_eq_true rfl) rfl ?_
      show K _ [_, _, _, _, _, _, _] _ _
      refine rl_iload_n (pc := 27) R dX5_fitBehind_27 rfl ?_
      refine rl_iconst (pc := 28) R dX5_fitBehind_28 ic_1 ?_
      refine rl_iadd (pc := 29) R dX5_fitBehind_29 ?_
      rw [nI_1]
      refine rl_istore (pc := 30) R dX5_fitBehind_30 (Nat.le_of_ble_eq_true rfl) rfl ?_
      show K _ [_, _, _, _, _, _, _] _ _
      exact loop l1 rfl c10 _ _ (by omega) rfl
    · rw [bI_0] at c10
      refine rl_iconst (pc := 13) R dX5_fitBehind_13 ic_0 ?_
      exact rl_ireturn (pc := 14) E dX5_fitBehind_14 rfl rfl (e_si (by simp only [fbG]; rw [if_neg (by omega), if_neg (by rw [c10]; decide)]))
theorem bs_X5_manyFit {k : Nat} {law words truths lies : Int32} (hH : rW h a t tc g) (hk : k ≤ 9) : BS (d + 4) false yX5_manyFit [.ref a, .int law, .int words, .int truths, .int lies, .int (nI k)] h (some (.int (fk law (words &&& (truths ^^^ (-1))) lies k g k))) (h.set tc (hI 290 (fk law (words &&& (truths ^^^ (-1))) lies k g))) := by
  refine bs_of mtX5_manyFit rfl (Nat.le_of_ble_eq_true rfl) (fun K R RV RS E => ?_)
  show K 0 [_, _, _, _, _, _, _, _, _, _, _] [] _
  generalize hop : words &&& (truths ^^^ (-1)) = op at E
  have outer : ∀ (m : Nat) (g2 : Nat → Int32) (z8 z9 z10 : Option Value), m ≤ 28 → fkO law op lies k m g2 = fk law op lies k g → (∀ v, z8 ≠ some (.long v)) → (∀ v, z9 ≠ some (.long v)) → K 55 [some (.ref a), some (.int law), some (.int words), some (.int truths), some (.int lies), some (.int (nI k)), some (.int op), some (.int (pm m)), z8, z9, z10] [] (h.set tc (hI 290 g2)) := by
    intro m
    induction m with
    | zero =>
      intro g2 z8 z9 z10 hm hg hz8 hz9
      have hH2 : rW (h.set tc (hI 290 g2)) a t tc g2 := rW_set hH
      have e2 : g2 = fk law op lies k g := hg
      subst e2
      refine rl_iload (pc := 55) R dX5_manyFit_55 rfl ?_
      refine rl_if_lt (pc := 57) (tgt := 161) R dX5_manyFit_57 rfl (fun c57 => ?_) (fun c57 => absurd (by decide) c57)
      refine rl_aload_n (pc := 161) R dX5_manyFit_161 rfl ?_
      refine rl_getf (pc := 162) R dX5_manyFit_162 fkX5_12 hH2.1 rfl ?_
      refine rl_iconst (pc := 165) R dX5_manyFit_165 ic_0 ?_
      refine rl_iload (pc := 166) R dX5_manyFit_166 rfl ?_
      refine rl_V2 (pc := 168) RV dX5_manyFit_168 lkX5_26 hH2.2.1 rfl (Nat.le_of_ble_eq_true rfl) (bs_X3_tell (i := 0) hH2.2.1 hH2.2.2 (by decide) (by omega)) ?_
      exact rl_ireturn (pc := 171) E dX5_manyFit_171 rfl rfl (by rw [Nat.zero_mul, Nat.zero_add])
    | succ m ih =>
      intro g2 z8 z9 z10 hm hg hz8 hz9
      have inner : ∀ (j l : Nat) (g3 : Nat → Int32) (z9 z10 : Option Value), l + j = k + 1 → fkR law op lies m j l g3 = fkR law op lies m (k + 1) 0 g2 → (∀ v, z9 ≠ some (.long v)) → K 63 [some (.ref a), some (.int law), some (.int words), some (.int truths), some (.int lies), some (.int (nI k)), some (.int op), some (.int (nI m)), some (.int (nI l)), z9, z10] [] (h.set tc (hI 290 g3)) := by
        intro j
        induction j with
        | zero =>
          intro l g3 z9 z10 hj hg3 hz9
          refine rl_iload (pc := 63) R dX5_manyFit_63 rfl ?_
          refine rl_iload (pc := 65) R dX5_manyFit_65 rfl ?_
          refine rl_icmp_gt (pc := 67) (tgt := 155) R dX5_manyFit_67 rfl (fun c67 => ?_) (fun c67 => absurd (nI_lt (by omega) (by omega)) c67)
          refine rl_iinc (pc := 155) R dX5_manyFit_155 rfl (pm_dec m) rfl ?_
          show K _ [_, _, _, _, _, _, _, _, _, _, _] _ _
          refine rl_goto (pc := 158) (tgt := 55) R dX5_manyFit_158 rfl (ih g3 _ _ _ (by omega) (by rw [← hg]; show fkO law op lies k m g3 = fkO law op lies k m _; rw [← hg3]; rfl) (fun v => by simp) hz9)
        | succ j ih2 =>
          intro l g3 z9 z10 hj hg3 hz9
          have hH3 : rW (h.set tc (hI 290 g3)) a t tc g3 := rW_set hH
          have fin : ∀ x y : Int32, x + y = ftG law op lies g3 m l → K 133 [some (.ref a), some (.int law), some (.int words), some (.int truths), some (.int lies), some (.int (nI k)), some (.int op), some (.int (nI m)), some (.int (nI l)), some (.int x), some (.int y)] [] (h.set tc (hI 290 g3)) := by
            intro x y hxy
            refine rl_aload_n (pc := 133) R dX5_manyFit_133 rfl ?_
            refine rl_getf (pc := 134) R dX5_manyFit_134 fkX5_12 hH3.1 rfl ?_
            refine rl_iload (pc := 137) R dX5_manyFit_137 rfl ?_
            refine rl_iload (pc := 139) R dX5_manyFit_139 rfl ?_
            refine rl_iload (pc := 141) R dX5_manyFit_141 rfl ?_
            refine rl_iload (pc := 143) R dX5_manyFit_143 rfl ?_
            refine rl_iadd (pc := 145) R dX5_manyFit_145 ?_
            rw [hxy]
            refine rl_V3v (pc := 146) RV dX5_manyFit_146 lkX5_18 hH3.2.1 rfl (Nat.le_of_ble_eq_true rfl) (bs_X3_change hH3.2.1 hH3.2.2 (by omega) (by omega)) ?_
            rw [List.set_set]
            refine rl_iinc (pc := 149) R dX5_manyFit_149 rfl (ii_n l) rfl ?_
            show K _ [_, _, _, _, _, _, _, _, _, _, _] _ _
            refine rl_goto (pc := 152) (tgt := 63) R dX5_manyFit_152 rfl (ih2 (l + 1) _ _ _ (by omega) (by rw [← hg3]; rfl) (fun v => by simp))
          have mid : ∀ x : Int32, x = (if bt lies m then 0 else g3 ((m + 1) * 10 + l)) → K 104 [some (.ref a), some (.int law), some (.int words), some (.int truths), some (.int lies), some (.int (nI k)), some (.int op), some (.int (nI m)), some (.int (nI l)), z9, z10] [.int x] (h.set tc (hI 290 g3)) := by
            intro x hxx
            refine rl_istore (pc := 104) R dX5_manyFit_104 (Nat.le_of_ble_eq_true rfl) rfl ?_
            show K _ [_, _, _, _, _, _, _, _, _, _, _] _ _
            refine rl_iload (pc := 106) R dX5_manyFit_106 rfl ?_
            refine rl_iload (pc := 108) R dX5_manyFit_108 rfl ?_
            refine rl_S2 (pc := 110) RS dX5_manyFit_110 lkX5_22 (Nat.le_of_ble_eq_true rfl) (bs_X7_holds) ?_
            refine rl_if_eq (pc := 113) (tgt := 130) R dX5_manyFit_113 rfl (fun c113 => ?_) (fun c113 => ?_)
            · rw [bI_0] at c113
              refine rl_iconst (pc := 130) R dX5_manyFit_130 ic_0 ?_
              refine rl_istore (pc := 131) R dX5_manyFit_131 (Nat.le_of_ble_eq_true rfl) rfl ?_
              show K _ [_, _, _, _, _, _, _, _, _, _, _] _ _
              first | exact fin x 0 (by simp only [ftG]; rw [← hxx, c113]; rfl) | exact fin x _ (by simp only [ftG]; rw [← hxx, c113]; rfl)
            · rw [bI_n0] at c113
              refine rl_aload_n (pc := 116) R dX5_manyFit_116 rfl ?_
              refine rl_iload_n (pc := 117) R dX5_manyFit_117 rfl ?_
              refine rl_iload (pc := 118) R dX5_manyFit_118 rfl ?_
              refine rl_iload (pc := 120) R dX5_manyFit_120 rfl ?_
              refine rl_iload (pc := 122) R dX5_manyFit_122 rfl ?_
              refine rl_V4 (pc := 124) RV dX5_manyFit_124 lkX5_30 hH3.1 rfl (Nat.le_of_ble_eq_true rfl) (bs_X5_fitBehind hH3 (by omega) (by omega)) ?_
              refine rl_goto (pc := 127) (tgt := 131) R dX5_manyFit_127 rfl ?_
              refine rl_istore (pc := 131) R dX5_manyFit_131 (Nat.le_of_ble_eq_true rfl) rfl ?_
              show K _ [_, _, _, _, _, _, _, _, _, _, _] _ _
              first | exact fin x 0 (by simp only [ftG]; rw [← hxx, c113]; rfl) | exact fin x _ (by simp only [ftG]; rw [← hxx, c113]; rfl)
          refine rl_iload (pc := 63) R dX5_manyFit_63 rfl ?_
          refine rl_iload (pc := 65) R dX5_manyFit_65 rfl ?_
          refine rl_icmp_gt (pc := 67) (tgt := 155) R dX5_manyFit_67 rfl (fun c67 => absurd c67 (nI_nlt (by omega) (by omega))) (fun c67 => ?_)
          refine rl_iload (pc := 70) R dX5_manyFit_70 rfl ?_
          refine rl_bipush (pc := 72) R dX5_manyFit_72 bc_9 ?_
          refine rl_icmp_gt (pc := 74) (tgt := 155) R dX5_manyFit_74 rfl (fun c74 => absurd c74 (nI_nlt (a := 9) (by omega) (by omega))) (fun c74 => ?_)
          refine rl_iload (pc := 77) R dX5_manyFit_77 rfl ?_
          refine rl_iload (pc := 79) R dX5_manyFit_79 rfl ?_
          refine rl_S2 (pc := 81) RS dX5_manyFit_81 lkX5_22 (Nat.le_of_ble_eq_true rfl) (bs_X7_holds) ?_
          refine rl_if_eq (pc := 84) (tgt := 91) R dX5_manyFit_84 rfl (fun c84 => ?_) (fun c84 => ?_)
          · rw [bI_0] at c84
            refine rl_aload_n (pc := 91) R dX5_manyFit_91 rfl ?_
            refine rl_getf (pc := 92) R dX5_manyFit_92 fkX5_12 hH3.1 rfl ?_
            refine rl_iload (pc := 95) R dX5_manyFit_95 rfl ?_
            refine rl_iconst (pc := 97) R dX5_manyFit_97 ic_1 ?_
            refine rl_iadd (pc := 98) R dX5_manyFit_98 ?_
            rw [nI_1]
            refine rl_iload (pc := 99) R dX5_manyFit_99 rfl ?_
            refine rl_V2 (pc := 101) RV dX5_manyFit_101 lkX5_26 hH3.2.1 rfl (Nat.le_of_ble_eq_true rfl) (bs_X3_tell hH3.2.1 hH3.2.2 (by omega) (by omega)) ?_
            exact mid _ (by rw [c84]; rfl)
          · rw [bI_n0] at c84
            refine rl_iconst (pc := 87) R dX5_manyFit_87 ic_0 ?_
            refine rl_goto (pc := 88) (tgt := 104) R dX5_manyFit_88 rfl ?_
            exact mid _ (by rw [c84]; rfl)
      refine rl_iload (pc := 55) R dX5_manyFit_55 rfl ?_
      refine rl_if_lt (pc := 57) (tgt := 161) R dX5_manyFit_57 rfl (fun c57 => absurd c57 (nI_pos (by omega))) (fun c57 => ?_)
      refine rl_iconst (pc := 60) R dX5_manyFit_60 ic_0 ?_
      refine rl_istore (pc := 61) R dX5_manyFit_61 (Nat.le_of_ble_eq_true rfl) rfl ?_
      show K _ [_, _, _, _, _, _, _, _, _, _, _] _ _
      exact inner (k + 1) 0 g2 _ _ (by omega) rfl hz9
  have first : ∀ (j l : Nat) (g2 : Nat → Int32), l + j = k + 1 → fkE j l g2 = fkE (k + 1) 0 g → K 10 [some (.ref a), some (.int law), some (.int words), some (.int truths), some (.int lies), some (.int (nI k)), some (.int op), some (.int (nI l)), none, none, none] [] (h.set tc (hI 290 g2)) := by
    intro j
    induction j with
    | zero =>
      intro l g2 hj hg2
      refine rl_iload (pc := 10) R dX5_manyFit_10 rfl ?_
      refine rl_iload (pc := 12) R dX5_manyFit_12 rfl ?_
      refine rl_icmp_gt (pc := 14) (tgt := 51) R dX5_manyFit_14 rfl (fun c14 => ?_) (fun c14 => absurd (nI_lt (by omega) (by omega)) c14)
      refine rl_bipush (pc := 51) R dX5_manyFit_51 bc_27 ?_
      refine rl_istore (pc := 53) R dX5_manyFit_53 (Nat.le_of_ble_eq_true rfl) rfl ?_
      show K _ [_, _, _, _, _, _, _, _, _, _, _] _ _
      exact outer 28 g2 none none none (Nat.le_refl _) (by rw [fk, ← hg2]; rfl) (fun v => by simp) (fun v => by simp)
    | succ j ih =>
      intro l g2 hj hg2
      have hH2 : rW (h.set tc (hI 290 g2)) a t tc g2 := rW_set hH
      have fin : ∀ x : Int32, x = (if l = 0 then 1 else 0) → K 42 [some (.ref a), some (.int law), some (.int words), some (.int truths), some (.int lies), some (.int (nI k)), some (.int op), some (.int (nI l)), none, none, none] [.int x, .int (nI l), .int 28, .ref t] (h.set tc (hI 290 g2)) := by
        intro x hxx
        refine rl_V3v (pc := 42) RV dX5_manyFit_42 lkX5_18 hH2.2.1 rfl (Nat.le_of_ble_eq_true rfl) (bs_X3_change (i := 28) hH2.2.1 hH2.2.2 (by omega) (by omega)) ?_
        rw [List.set_set]
        refine rl_iinc (pc := 45) R dX5_manyFit_45 rfl (ii_n l) rfl ?_
        show K _ [_, _, _, _, _, _, _, _, _, _, _] _ _
        refine rl_goto (pc := 48) (tgt := 10) R dX5_manyFit_48 rfl (ih (l + 1) _ (by omega) (by rw [← hg2, hxx]; rfl))
      refine rl_iload (pc := 10) R dX5_manyFit_10 rfl ?_
      refine rl_iload (pc := 12) R dX5_manyFit_12 rfl ?_
      refine rl_icmp_gt (pc := 14) (tgt := 51) R dX5_manyFit_14 rfl (fun c14 => absurd c14 (nI_nlt (by omega) (by omega))) (fun c14 => ?_)
      refine rl_iload (pc := 17) R dX5_manyFit_17 rfl ?_
      refine rl_bipush (pc := 19) R dX5_manyFit_19 bc_9 ?_
      refine rl_icmp_gt (pc := 21) (tgt := 51) R dX5_manyFit_21 rfl (fun c21 => absurd c21 (nI_nlt (a := 9) (by omega) (by omega))) (fun c21 => ?_)
      refine rl_aload_n (pc := 24) R dX5_manyFit_24 rfl ?_
      refine rl_getf (pc := 25) R dX5_manyFit_25 fkX5_12 hH2.1 rfl ?_
      refine rl_bipush (pc := 28) R dX5_manyFit_28 bc_28 ?_
      refine rl_iload (pc := 30) R dX5_manyFit_30 rfl ?_
      refine rl_iload (pc := 32) R dX5_manyFit_32 rfl ?_
      refine rl_if_ne (pc := 34) (tgt := 41) R dX5_manyFit_34 rfl (fun c34 => ?_) (fun c34 => ?_)
      · refine rl_iconst (pc := 41) R dX5_manyFit_41 ic_0 ?_
        first | exact fin 0 (by rw [if_neg (fun z => c34 (by rw [z]; rfl))]) | exact fin 1 (by rw [if_pos ((nI_5 (by omega)).mp c34)])
      · refine rl_iconst (pc := 37) R dX5_manyFit_37 ic_1 ?_
        refine rl_goto (pc := 38) (tgt := 42) R dX5_manyFit_38 rfl ?_
        first | exact fin 0 (by rw [if_neg (fun z => c34 (by rw [z]; rfl))]) | exact fin 1 (by rw [if_pos ((nI_5 (by omega)).mp c34)])
  refine rl_iload_n (pc := 0) R dX5_manyFit_0 rfl ?_
  refine rl_iload_n (pc := 1) R dX5_manyFit_1 rfl ?_
  refine rl_iconst (pc := 2) R dX5_manyFit_2 ic_m1 ?_
  refine rl_ixor (pc := 3) R dX5_manyFit_3 ?_
  refine rl_iand (pc := 4) R dX5_manyFit_4 ?_
  rw [hop]
  refine rl_istore (pc := 5) R dX5_manyFit_5 (Nat.le_of_ble_eq_true rfl) rfl ?_
  show K _ [_, _, _, _, _, _, _, _, _, _, _] _ _
  refine rl_iconst (pc := 7) R dX5_manyFit_7 ic_0 ?_
  refine rl_istore (pc := 8) R dX5_manyFit_8 (Nat.le_of_ble_eq_true rfl) rfl ?_
  show K _ [_, _, _, _, _, _, _, _, _, _, _] _ _
  have e0 := first (k + 1) 0 g (by omega) rfl
  rw [List.set_getElem?_self' hH.2.2] at e0
  exact e0
end WM
