/-! THE CLASS, what is left -/
def btV (n : Nat) (nw wo co : Nat → Int32) (law : Int32) (lies : Nat) : Nat → Nat → Int32 → Int32 → (Nat → Int32) → Int32 × (Nat → Int32)
  | 0, _, b, _, g => (b, g)
  | j + 1, t, b, mo, g => if mo < rk n nw wo co law (nI t) lies g lies then btV n nw wo co law lies j (t + 1) (nI t) (rk n nw wo co law (nI t) lies g lies) (rk n nw wo co law (nI t) lies g) else btV n nw wo co law lies j (t + 1) b mo (rk n nw wo co law (nI t) lies g)
def suL (law words truths lies : Int32) (k : Nat) (due : Int32) : Nat → Nat → Int32 → (Nat → Int32) → Int32 × (Nat → Int32)
  | 0, _, s, g => (s, g)
  | j + 1, i, s, g => if words &&& b1 i = 0 then suL law words truths lies k due j (i + 1) s g
    else if fk law (words &&& (truths ^^^ (-1))) (lies ||| b1 i) k g k = due then suL law words truths lies k due j (i + 1) (s ||| b1 i) (fk law (words &&& (truths ^^^ (-1))) (lies ||| b1 i) k g)
    else suL law words truths lies k due j (i + 1) s (fk law (words &&& (truths ^^^ (-1))) (lies ||| b1 i) k g)
def fmG (n : Nat) (nw wo co : Nat → Int32) (lies trust s lane : Int32) (from_ : Nat) : Nat → Nat → (Nat → Int32) → (Nat → Int32)
  | 0, _, f => f
  | j + 1, i, f => fmG n nw wo co lies trust s lane from_ j (i + 1) (upd f (from_ + i) (nrw lane (crt n nw wo co i (bt s i) (lft lies s i) trust)))
section X8
variable {d : Nat} {h : List sm_C} {im : Int32} {n : Nat} {nw wo co se : Nat → Int32}
theorem bs_X7_best {g : Nat → Int32} {lies : Nat} (x0 : h[0]? = some (x0O im)) (hY : rY h 1 2 4 3 n nw wo co se) (hH : rH h 13 14 15 g) (hl : lies ≤ 9) (he : se 0 = nI lies) : BS (d + 7) false yX7_best [.ref 0] h (some (.int (btV n nw wo co (se 1) lies 8 1 0 (rk n nw wo co (se 1) 0 lies g lies) (rk n nw wo co (se 1) 0 lies g)).1)) (h.set 15 (hI 290 (btV n nw wo co (se 1) lies 8 1 0 (rk n nw wo co (se 1) 0 lies g lies) (rk n nw wo co (se 1) 0 lies g)).2)) := by
  have h1 := hY.1
  have hc := hY.2.2.2
  have Y2 : ∀ g2 : Nat → Int32, rY (h.set 15 (hI 290 g2)) 1 2 4 3 n nw wo co se := fun g2 => ⟨sm_h_oi h1 hH.2.2, rD_set hY.2.1 hH.2.2 (by decide), sm_h_ne hY.2.2.1 hH.2.2 (by decide), hc⟩
  have H2 : ∀ g2 : Nat → Int32, rH (h.set 15 (hI 290 g2)) 13 14 15 g2 := fun g2 => rH_set hH
  have X02 : ∀ g2 : Nat → Int32, (h.set 15 (hI 290 g2))[0]? = some (x0O im) := fun g2 => sm_h_oi x0 hH.2.2
  refine bs_of mtX7_best rfl (Nat.le_of_ble_eq_true rfl) (fun K R RV RS E => ?_)
  show K 0 [_, _, _, _, _] [] _
  have loop : ∀ (j t : Nat) (b mo : Int32) (g2 : Nat → Int32) (z : Option Value), t + j = 9 → btV n nw wo co (se 1) lies j t b mo g2 = btV n nw wo co (se 1) lies 8 1 0 (rk n nw wo co (se 1) 0 lies g lies) (rk n nw wo co (se 1) 0 lies g) → K 26 [some (.ref 0), some (.int b), some (.int mo), some (.int (nI t)), z] [] (h.set 15 (hI 290 g2)) := by
    intro j
    induction j with
    | zero =>
      intro t b mo g2 z ht hs
      rw [← hs] at E
      refine rl_iload_n (pc := 26) R dX7_best_26 rfl ?_
      refine rl_bipush (pc := 27) R dX7_best_27 bc_8 ?_
      refine rl_icmp_gt (pc := 29) (tgt := 72) R dX7_best_29 rfl (fun c29 => ?_) (fun c29 => absurd (nI_lt (a := 8) (by omega) (by omega)) c29)
      refine rl_iload_n (pc := 72) R dX7_best_72 rfl ?_
      exact rl_ireturn (pc := 73) E dX7_best_73 rfl rfl (rfl)
    | succ j ih =>
      intro t b mo g2 z ht hs
      have y2 := Y2 g2
      have x02 := X02 g2
      have h12 := y2.1
      refine rl_iload_n (pc := 26) R dX7_best_26 rfl ?_
      refine rl_bipush (pc := 27) R dX7_best_27 bc_8 ?_
      refine rl_icmp_gt (pc := 29) (tgt := 72) R dX7_best_29 rfl (fun c29 => absurd c29 (nI_nlt (a := 8) (by omega) (by omega))) (fun c29 => ?_)
      refine rl_aload_n (pc := 32) R dX7_best_32 rfl ?_
      refine rl_aload_n (pc := 33) R dX7_best_33 rfl ?_
      refine rl_getf (pc := 34) R dX7_best_34 fkX7_10 (by first | assumption | rfl) rfl ?_
      refine rl_iconst (pc := 37) R dX7_best_37 ic_1 ?_
      refine rl_V1 (pc := 38) RV dX7_best_38 lkX7_119 h12 rfl (Nat.le_of_ble_eq_true rfl) (bs_X6_tell (i := 1) y2 (by decide)) ?_
      refine rl_aload_n (pc := 41) R dX7_best_41 rfl ?_
      refine rl_getf (pc := 42) R dX7_best_42 fkX7_10 (by first | assumption | rfl) rfl ?_
      refine rl_iconst (pc := 45) R dX7_best_45 ic_0 ?_
      refine rl_V1 (pc := 46) RV dX7_best_46 lkX7_119 h12 rfl (Nat.le_of_ble_eq_true rfl) (bs_X6_tell (i := 0) y2 (by decide)) ?_
      rw [he]
      refine rl_iload_n (pc := 49) R dX7_best_49 rfl ?_
      refine rl_V3 (pc := 50) RV dX7_best_50 lkX7_144 x02 rfl (Nat.le_of_ble_eq_true rfl) (bs_X7_harmBy x02 y2 (H2 g2) hl) ?_
      rw [List.set_set]
      refine rl_istore (pc := 53) R dX7_best_53 (Nat.le_of_ble_eq_true rfl) rfl ?_
      show K _ [_, _, _, _, _] _ _
      refine rl_iload (pc := 55) R dX7_best_55 rfl ?_
      refine rl_iload_n (pc := 57) R dX7_best_57 rfl ?_
      refine rl_icmp_le (pc := 58) (tgt := 66) R dX7_best_58 rfl (fun c58 => ?_) (fun c58 => ?_)
      · refine rl_iinc (pc := 66) R dX7_best_66 rfl (ii_n t) rfl ?_
        show K _ [_, _, _, _, _] _ _
        first | exact rl_goto (pc := 69) (tgt := 26) R dX7_best_69 rfl (ih (t + 1) _ _ _ _ (by omega) (by rw [← hs, btV, if_pos (Int32.not_le.mp c58)])) | exact rl_goto (pc := 69) (tgt := 26) R dX7_best_69 rfl (ih (t + 1) _ _ _ _ (by omega) (by rw [← hs, btV, if_neg (Int32.not_lt.mpr c58)]))
      · refine rl_iload (pc := 61) R dX7_best_61 rfl ?_
        refine rl_istore_n (pc := 63) R dX7_best_63 (Nat.le_of_ble_eq_true rfl) rfl ?_
        show K _ [_, _, _, _, _] _ _
        refine rl_iload_n (pc := 64) R dX7_best_64 rfl ?_
        refine rl_istore_n (pc := 65) R dX7_best_65 (Nat.le_of_ble_eq_true rfl) rfl ?_
        show K _ [_, _, _, _, _] _ _
        refine rl_iinc (pc := 66) R dX7_best_66 rfl (ii_n t) rfl ?_
        show K _ [_, _, _, _, _] _ _
        first | exact rl_goto (pc := 69) (tgt := 26) R dX7_best_69 rfl (ih (t + 1) _ _ _ _ (by omega) (by rw [← hs, btV, if_pos (Int32.not_le.mp c58)])) | exact rl_goto (pc := 69) (tgt := 26) R dX7_best_69 rfl (ih (t + 1) _ _ _ _ (by omega) (by rw [← hs, btV, if_neg (Int32.not_lt.mpr c58)]))
  refine rl_iconst (pc := 0) R dX7_best_0 ic_0 ?_
  refine rl_istore_n (pc := 1) R dX7_best_1 (Nat.le_of_ble_eq_true rfl) rfl ?_
  show K _ [_, _, _, _, _] _ _
  refine rl_aload_n (pc := 2) R dX7_best_2 rfl ?_
  refine rl_aload_n (pc := 3) R dX7_best_3 rfl ?_
  refine rl_getf (pc := 4) R dX7_best_4 fkX7_10 (by first | assumption | rfl) rfl ?_
  refine rl_iconst (pc := 7) R dX7_best_7 ic_1 ?_
  refine rl_V1 (pc := 8) RV dX7_best_8 lkX7_119 h1 rfl (Nat.le_of_ble_eq_true rfl) (bs_X6_tell (i := 1) hY (by decide)) ?_
  refine rl_aload_n (pc := 11) R dX7_best_11 rfl ?_
  refine rl_getf (pc := 12) R dX7_best_12 fkX7_10 (by first | assumption | rfl) rfl ?_
  refine rl_iconst (pc := 15) R dX7_best_15 ic_0 ?_
  refine rl_V1 (pc := 16) RV dX7_best_16 lkX7_119 h1 rfl (Nat.le_of_ble_eq_true rfl) (bs_X6_tell (i := 0) hY (by decide)) ?_
  rw [he]
  refine rl_iconst (pc := 19) R dX7_best_19 ic_0 ?_
  refine rl_V3 (pc := 20) RV dX7_best_20 lkX7_144 x0 rfl (Nat.le_of_ble_eq_true rfl) (bs_X7_harmBy x0 hY hH hl) ?_
  refine rl_istore_n (pc := 23) R dX7_best_23 (Nat.le_of_ble_eq_true rfl) rfl ?_
  show K _ [_, _, _, _, _] _ _
  refine rl_iconst (pc := 24) R dX7_best_24 ic_1 ?_
  refine rl_istore_n (pc := 25) R dX7_best_25 (Nat.le_of_ble_eq_true rfl) rfl ?_
  show K _ [_, _, _, _, _] _ _
  exact loop 8 1 0 _ _ none rfl rfl
def suOk (f g lies words part : Int32) : Bool := isW f 0 8 && (isW g 0 8 && (isW lies 0 99 && (isW words 1 99 && (decide (lies ≤ words) && isW part 0 1))))
theorem bs_X7_sure_bad {f g lies words part : Int32} (hok : suOk f g lies words part = false) : BS (d + 2) false yX7_sure [.ref 0, .int f, .int g, .int lies, .int words, .int part] h (some (.int (-1))) h := by
  refine bs_of mtX7_sure rfl (Nat.le_of_ble_eq_true rfl) (fun K R RV RS E => ?_)
  show K 0 [_, _, _, _, _, _, _, _, _] [] _
  refine rl_iload_n (pc := 0) R dX7_sure_0 rfl ?_
  refine rl_iconst (pc := 1) R dX7_sure_1 ic_0 ?_
  refine rl_bipush (pc := 2) R dX7_sure_2 bc_8 ?_
  refine rl_S3 (pc := 4) RS dX7_sure_4 lkX7_76 (Nat.le_of_ble_eq_true rfl) (bs_X7_isWithin) ?_
  refine rl_if_eq (pc := 7) (tgt := 57) R dX7_sure_7 rfl (fun c7 => ?_) (fun c7 => ?_)
  · rw [bI_0] at c7
    refine rl_iconst (pc := 57) R dX7_sure_57 ic_m1 ?_
    exact rl_ireturn (pc := 58) E dX7_sure_58 rfl rfl (rfl)
  · rw [bI_n0] at c7
    refine rl_iload_n (pc := 10) R dX7_sure_10 rfl ?_
    refine rl_iconst (pc := 11) R dX7_sure_11 ic_0 ?_
    refine rl_bipush (pc := 12) R dX7_sure_12 bc_8 ?_
    refine rl_S3 (pc := 14) RS dX7_sure_14 lkX7_76 (Nat.le_of_ble_eq_true rfl) (bs_X7_isWithin) ?_
    refine rl_if_eq (pc := 17) (tgt := 57) R dX7_sure_17 rfl (fun c17 => ?_) (fun c17 => ?_)
    · rw [bI_0] at c17
      refine rl_iconst (pc := 57) R dX7_sure_57 ic_m1 ?_
      exact rl_ireturn (pc := 58) E dX7_sure_58 rfl rfl (rfl)
    · rw [bI_n0] at c17
      refine rl_iload_n (pc := 20) R dX7_sure_20 rfl ?_
      refine rl_iconst (pc := 21) R dX7_sure_21 ic_0 ?_
      refine rl_bipush (pc := 22) R dX7_sure_22 bc_99 ?_
      refine rl_S3 (pc := 24) RS dX7_sure_24 lkX7_76 (Nat.le_of_ble_eq_true rfl) (bs_X7_isWithin) ?_
      refine rl_if_eq (pc := 27) (tgt := 57) R dX7_sure_27 rfl (fun c27 => ?_) (fun c27 => ?_)
      · rw [bI_0] at c27
        refine rl_iconst (pc := 57) R dX7_sure_57 ic_m1 ?_
        exact rl_ireturn (pc := 58) E dX7_sure_58 rfl rfl (rfl)
      · rw [bI_n0] at c27
        refine rl_iload (pc := 30) R dX7_sure_30 rfl ?_
        refine rl_iconst (pc := 32) R dX7_sure_32 ic_1 ?_
        refine rl_bipush (pc := 33) R dX7_sure_33 bc_99 ?_
        refine rl_S3 (pc := 35) RS dX7_sure_35 lkX7_76 (Nat.le_of_ble_eq_true rfl) (bs_X7_isWithin) ?_
        refine rl_if_eq (pc := 38) (tgt := 57) R dX7_sure_38 rfl (fun c38 => ?_) (fun c38 => ?_)
        · rw [bI_0] at c38
          refine rl_iconst (pc := 57) R dX7_sure_57 ic_m1 ?_
          exact rl_ireturn (pc := 58) E dX7_sure_58 rfl rfl (rfl)
        · rw [bI_n0] at c38
          refine rl_iload_n (pc := 41) R dX7_sure_41 rfl ?_
          refine rl_iload (pc := 42) R dX7_sure_42 rfl ?_
          refine rl_icmp_gt (pc := 44) (tgt := 57) R dX7_sure_44 rfl (fun c44 => ?_) (fun c44 => ?_)
          · refine rl_iconst (pc := 57) R dX7_sure_57 ic_m1 ?_
            exact rl_ireturn (pc := 58) E dX7_sure_58 rfl rfl (rfl)
          · refine rl_iload (pc := 47) R dX7_sure_47 rfl ?_
            refine rl_iconst (pc := 49) R dX7_sure_49 ic_0 ?_
            refine rl_iconst (pc := 50) R dX7_sure_50 ic_1 ?_
            refine rl_S3 (pc := 51) RS dX7_sure_51 lkX7_76 (Nat.le_of_ble_eq_true rfl) (bs_X7_isWithin) ?_
            refine rl_if_ne (pc := 54) (tgt := 59) R dX7_sure_54 rfl (fun c54 => ?_) (fun c54 => ?_)
            · exact absurd hok (by rw [bI_n0] at c54; rw [suOk, c7, c17, c27, c38, c54, decide_eq_true (Int32.not_lt.mp c44)]; decide)
            · refine rl_iconst (pc := 57) R dX7_sure_57 ic_m1 ?_
              exact rl_ireturn (pc := 58) E dX7_sure_58 rfl rfl (rfl)
theorem bs_X7_sure {F G L W : Nat} {part : Int32} (hF : F ≤ 8) (hG : G ≤ 8) (hL : L ≤ W) (hW1 : 1 ≤ W) (hW : W ≤ 99) (hp : isW part 0 1 = true) : BS (d + 2) false yX7_sure [.ref 0, .int (nI F), .int (nI G), .int (nI L), .int (nI W), .int part] h (some (.int (if L * F + (W - L) * G = 0 then -4 else if gdN 64 (L * F + (W - L) * G) (L * F) = 0 then -4 else if part = 0 then nI (L * F / gdN 64 (L * F + (W - L) * G) (L * F)) else nI ((L * F + (W - L) * G) / gdN 64 (L * F + (W - L) * G) (L * F))))) h := by
  have b1 : L * F ≤ 99 * 8 := Nat.mul_le_mul (by omega) hF
  have b2 : (W - L) * G ≤ 99 * 8 := Nat.mul_le_mul (by omega) hG
  have wi : ∀ (x lo hi : Nat), lo ≤ x → x ≤ hi → hi < 1000 → isW (nI x) (nI lo) (nI hi) = true := fun x lo hi q1 q2 q3 => isW_t (nI_le q1 (by omega)) (nI_le q2 (by omega))
  have eab : nI L * nI F = nI (L * F) := pk_mul L F
  have ebe : nI (L * F) + (nI W - nI L) * nI G = nI (L * F + (W - L) * G) := by rw [pk_sub hL, pk_mul, nI_add]
  generalize hA : L * F = A at eab ebe b1
  generalize hB : A + (W - L) * G = B at ebe
  have hBl : B < 2000 := by omega
  have gl : gdN 64 B A ≤ B ∨ gdN 64 B A ≤ A := by
    have key : ∀ (j x y : Nat), gdN j x y ≤ x ∨ gdN j x y ≤ y := by
      intro j
      induction j with
      | zero => intro x y; exact Or.inl (Nat.le_refl _)
      | succ j ih =>
        intro x y
        rw [gdN]
        split
        · exact Or.inl (Nat.le_refl _)
        · rename_i hy
          rcases ih y (x % y) with q | q
          · exact Or.inr q
          · exact Or.inr (Nat.le_trans q (Nat.le_of_lt (Nat.mod_lt _ (by omega))))
    exact key 64 B A
  generalize hg : gdN 64 B A = g at gl
  have hgl : g < 2000 := by omega
  refine bs_of mtX7_sure rfl (Nat.le_of_ble_eq_true rfl) (fun K R RV RS E => ?_)
  show K 0 [_, _, _, _, _, _, _, _, _] [] _
  refine rl_iload_n (pc := 0) R dX7_sure_0 rfl ?_
  refine rl_iconst (pc := 1) R dX7_sure_1 ic_0 ?_
  refine rl_bipush (pc := 2) R dX7_sure_2 bc_8 ?_
  refine rl_S3 (pc := 4) RS dX7_sure_4 lkX7_76 (Nat.le_of_ble_eq_true rfl) (bs_X7_isWithin) ?_
  refine rl_if_eq (pc := 7) (tgt := 57) R dX7_sure_7 rfl (fun c7 => absurd c7 (by rw [show isW (nI F) 0 8 = true from wi F 0 8 (by omega) hF (by omega)]; decide)) (fun c7 => ?_)
  refine rl_iload_n (pc := 10) R dX7_sure_10 rfl ?_
  refine rl_iconst (pc := 11) R dX7_sure_11 ic_0 ?_
  refine rl_bipush (pc := 12) R dX7_sure_12 bc_8 ?_
  refine rl_S3 (pc := 14) RS dX7_sure_14 lkX7_76 (Nat.le_of_ble_eq_true rfl) (bs_X7_isWithin) ?_
  refine rl_if_eq (pc := 17) (tgt := 57) R dX7_sure_17 rfl (fun c17 => absurd c17 (by rw [show isW (nI G) 0 8 = true from wi G 0 8 (by omega) hG (by omega)]; decide)) (fun c17 => ?_)
  refine rl_iload_n (pc := 20) R dX7_sure_20 rfl ?_
  refine rl_iconst (pc := 21) R dX7_sure_21 ic_0 ?_
  refine rl_bipush (pc := 22) R dX7_sure_22 bc_99 ?_
  refine rl_S3 (pc := 24) RS dX7_sure_24 lkX7_76 (Nat.le_of_ble_eq_true rfl) (bs_X7_isWithin) ?_
  refine rl_if_eq (pc := 27) (tgt := 57) R dX7_sure_27 rfl (fun c27 => absurd c27 (by rw [show isW (nI L) 0 99 = true from wi L 0 99 (by omega) (by omega) (by omega)]; decide)) (fun c27 => ?_)
  refine rl_iload (pc := 30) R dX7_sure_30 rfl ?_
  refine rl_iconst (pc := 32) R dX7_sure_32 ic_1 ?_
  refine rl_bipush (pc := 33) R dX7_sure_33 bc_99 ?_
  refine rl_S3 (pc := 35) RS dX7_sure_35 lkX7_76 (Nat.le_of_ble_eq_true rfl) (bs_X7_isWithin) ?_
  refine rl_if_eq (pc := 38) (tgt := 57) R dX7_sure_38 rfl (fun c38 => absurd c38 (by rw [show isW (nI W) 1 99 = true from wi W 1 99 (by omega) (by omega) (by omega)]; decide)) (fun c38 => ?_)
  refine rl_iload_n (pc := 41) R dX7_sure_41 rfl ?_
  refine rl_iload (pc := 42) R dX7_sure_42 rfl ?_
  refine rl_icmp_gt (pc := 44) (tgt := 57) R dX7_sure_44 rfl (fun c44 => absurd c44 (nI_nlt hL (by omega))) (fun c44 => ?_)
  refine rl_iload (pc := 47) R dX7_sure_47 rfl ?_
  refine rl_iconst (pc := 49) R dX7_sure_49 ic_0 ?_
  refine rl_iconst (pc := 50) R dX7_sure_50 ic_1 ?_
  refine rl_S3 (pc := 51) RS dX7_sure_51 lkX7_76 (Nat.le_of_ble_eq_true rfl) (bs_X7_isWithin) ?_
  refine rl_if_ne (pc := 54) (tgt := 59) R dX7_sure_54 rfl (fun c54 => ?_) (fun c54 => absurd c54 (by rw [hp]; decide))
  refine rl_iload_n (pc := 59) R dX7_sure_59 rfl ?_
  refine rl_iload_n (pc := 60) R dX7_sure_60 rfl ?_
  refine rl_imul (pc := 61) R dX7_sure_61 ?_
  rw [eab]
  refine rl_istore (pc := 62) R dX7_sure_62 (Nat.le_of_ble_eq_true rfl) rfl ?_
  show K _ [_, _, _, _, _, _, _, _, _] _ _
  refine rl_iload (pc := 64) R dX7_sure_64 rfl ?_
  refine rl_iload (pc := 66) R dX7_sure_66 rfl ?_
  refine rl_iload_n (pc := 68) R dX7_sure_68 rfl ?_
  refine rl_isub (pc := 69) R dX7_sure_69 ?_
  refine rl_iload_n (pc := 70) R dX7_sure_70 rfl ?_
  refine rl_imul (pc := 71) R dX7_sure_71 ?_
  refine rl_iadd (pc := 72) R dX7_sure_72 ?_
  rw [ebe]
  refine rl_istore (pc := 73) R dX7_sure_73 (Nat.le_of_ble_eq_true rfl) rfl ?_
  show K _ [_, _, _, _, _, _, _, _, _] _ _
  refine rl_iload (pc := 75) R dX7_sure_75 rfl ?_
  refine rl_iload (pc := 77) R dX7_sure_77 rfl ?_
  refine rl_S2 (pc := 79) RS dX7_sure_79 lkX7_153 (Nat.le_of_ble_eq_true rfl) (bs_X7_greatestDivisor (by omega) (by omega)) ?_
  rw [hg]
  refine rl_istore (pc := 82) R dX7_sure_82 (Nat.le_of_ble_eq_true rfl) rfl ?_
  show K _ [_, _, _, _, _, _, _, _, _] _ _
  refine rl_iload (pc := 84) R dX7_sure_84 rfl ?_
  refine rl_if_le (pc := 86) (tgt := 94) R dX7_sure_86 rfl (fun c86 => ?_) (fun c86 => ?_)
  · have cB : B = 0 := Nat.eq_zero_of_not_pos fun z => nI_nle z (by omega) c86
    refine rl_bipush (pc := 94) R dX7_sure_94 bc_m4 ?_
    exact rl_ireturn (pc := 96) E dX7_sure_96 rfl rfl (e_si (by first | rw [if_pos cB] | rw [if_neg cB, if_pos cg]))
  · have cB : ¬ B = 0 := fun z => c86 (by rw [z]; decide)
    refine rl_iload (pc := 89) R dX7_sure_89 rfl ?_
    refine rl_if_gt (pc := 91) (tgt := 97) R dX7_sure_91 rfl (fun c91 => ?_) (fun c91 => ?_)
    · have cg : ¬ g = 0 := fun z => by rw [z] at c91; exact absurd c91 (by decide)
      refine rl_iload (pc := 97) R dX7_sure_97 rfl ?_
      refine rl_if_ne (pc := 99) (tgt := 110) R dX7_sure_99 rfl (fun c99 => ?_) (fun c99 => ?_)
      · refine rl_iload (pc := 110) R dX7_sure_110 rfl ?_
        refine rl_iload (pc := 112) R dX7_sure_112 rfl ?_
        refine rl_idiv (pc := 114) R dX7_sure_114 (nI_ne0 (by omega) (by omega)) ?_
        exact rl_ireturn (pc := 115) E dX7_sure_115 rfl rfl (e_si (by rw [if_neg cB, if_neg cg]; first | rw [if_pos c99] | (rw [if_neg c99, pk_div (by omega) (by omega) (by omega)])))
      · refine rl_iload (pc := 102) R dX7_sure_102 rfl ?_
        refine rl_iload (pc := 104) R dX7_sure_104 rfl ?_
        refine rl_idiv (pc := 106) R dX7_sure_106 (nI_ne0 (by omega) (by omega)) ?_
        rw [pk_div (by omega) (by omega) (by omega)]
        refine rl_goto (pc := 107) (tgt := 115) R dX7_sure_107 rfl ?_
        exact rl_ireturn (pc := 115) E dX7_sure_115 rfl rfl (e_si (by rw [if_neg cB, if_neg cg]; first | rw [if_pos c99] | (rw [if_neg c99, pk_div (by omega) (by omega) (by omega)])))
    · have cg : g = 0 := Nat.eq_zero_of_not_pos fun z => c91 (nI_lt (a := 0) z (by omega))
      refine rl_bipush (pc := 94) R dX7_sure_94 bc_m4 ?_
      exact rl_ireturn (pc := 96) E dX7_sure_96 rfl rfl (e_si (by first | rw [if_pos cB] | rw [if_neg cB, if_pos cg]))
theorem bs_X7_bet_bad {x y w : Int32} (hok : (isW x 0 99 && (isW y 0 99 && isW w 0 1)) = false) : BS (d + 2) false yX7_bet [.ref 0, .int x, .int y, .int w] h (some (.int (-1))) h := by
  refine bs_of mtX7_bet rfl (Nat.le_of_ble_eq_true rfl) (fun K R RV RS E => ?_)
  show K 0 [_, _, _, _, _, _] [] _
  refine rl_iload_n (pc := 0) R dX7_bet_0 rfl ?_
  refine rl_iconst (pc := 1) R dX7_bet_1 ic_0 ?_
  refine rl_bipush (pc := 2) R dX7_bet_2 bc_99 ?_
  refine rl_S3 (pc := 4) RS dX7_bet_4 lkX7_76 (Nat.le_of_ble_eq_true rfl) (bs_X7_isWithin) ?_
  refine rl_if_eq (pc := 7) (tgt := 29) R dX7_bet_7 rfl (fun c7 => ?_) (fun c7 => ?_)
  · rw [bI_0] at c7
    refine rl_iconst (pc := 29) R dX7_bet_29 ic_m1 ?_
    exact rl_ireturn (pc := 30) E dX7_bet_30 rfl rfl (rfl)
  · rw [bI_n0] at c7
    refine rl_iload_n (pc := 10) R dX7_bet_10 rfl ?_
    refine rl_iconst (pc := 11) R dX7_bet_11 ic_0 ?_
    refine rl_bipush (pc := 12) R dX7_bet_12 bc_99 ?_
    refine rl_S3 (pc := 14) RS dX7_bet_14 lkX7_76 (Nat.le_of_ble_eq_true rfl) (bs_X7_isWithin) ?_
    refine rl_if_eq (pc := 17) (tgt := 29) R dX7_bet_17 rfl (fun c17 => ?_) (fun c17 => ?_)
    · rw [bI_0] at c17
      refine rl_iconst (pc := 29) R dX7_bet_29 ic_m1 ?_
      exact rl_ireturn (pc := 30) E dX7_bet_30 rfl rfl (rfl)
    · rw [bI_n0] at c17
      refine rl_iload_n (pc := 20) R dX7_bet_20 rfl ?_
      refine rl_iconst (pc := 21) R dX7_bet_21 ic_0 ?_
      refine rl_iconst (pc := 22) R dX7_bet_22 ic_1 ?_
      refine rl_S3 (pc := 23) RS dX7_bet_23 lkX7_76 (Nat.le_of_ble_eq_true rfl) (bs_X7_isWithin) ?_
      refine rl_if_ne (pc := 26) (tgt := 31) R dX7_bet_26 rfl (fun c26 => ?_) (fun c26 => ?_)
      · exact absurd hok (by rw [bI_n0] at c26; rw [c7, c17, c26]; decide)
      · refine rl_iconst (pc := 29) R dX7_bet_29 ic_m1 ?_
        exact rl_ireturn (pc := 30) E dX7_bet_30 rfl rfl (rfl)
theorem bs_X7_bet {x y w : Int32} (hok : (isW x 0 99 && (isW y 0 99 && isW w 0 1)) = true) : BS (d + 2) false yX7_bet [.ref 0, .int x, .int y, .int w] h (some (.int (btX x y w 197 2))) h := by
  simp only [Bool.and_eq_true] at hok
  refine bs_of mtX7_bet rfl (Nat.le_of_ble_eq_true rfl) (fun K R RV RS E => ?_)
  show K 0 [_, _, _, _, _, _] [] _
  have loop : ∀ (j b : Nat) (z : Option Value), b + j = 199 → 2 ≤ b → btX x y w j b = btX x y w 197 2 → K 34 [some (.ref 0), some (.int x), some (.int y), some (.int w), some (.int (nI b)), z] [] h := by
    intro j
    induction j with
    | zero =>
      intro b z hb h2 hs
      refine rl_iload (pc := 34) R dX7_bet_34 rfl ?_
      refine rl_sipush (pc := 36) R dX7_bet_36 sc_198 ?_
      refine rl_icmp_gt (pc := 39) (tgt := 79) R dX7_bet_39 rfl (fun c39 => ?_) (fun c39 => absurd (nI_lt (a := 198) (by omega) (by omega)) c39)
      refine rl_bipush (pc := 79) R dX7_bet_79 bc_m4 ?_
      exact rl_ireturn (pc := 81) E dX7_bet_81 rfl rfl (e_si (by rw [← hs]; rfl))
    | succ j ih =>
      intro b z hb h2 hs
      refine rl_iload (pc := 34) R dX7_bet_34 rfl ?_
      refine rl_sipush (pc := 36) R dX7_bet_36 sc_198 ?_
      refine rl_icmp_gt (pc := 39) (tgt := 79) R dX7_bet_39 rfl (fun c39 => absurd c39 (nI_nlt (a := 198) (by omega) (by omega))) (fun c39 => ?_)
      refine rl_iload_n (pc := 42) R dX7_bet_42 rfl ?_
      refine rl_iload_n (pc := 43) R dX7_bet_43 rfl ?_
      refine rl_iload (pc := 44) R dX7_bet_44 rfl ?_
      refine rl_S3 (pc := 46) RS dX7_bet_46 lkX7_156 (Nat.le_of_ble_eq_true rfl) (bs_X7_leastSureStake h2 (by omega)) ?_
      refine rl_istore (pc := 49) R dX7_bet_49 (Nat.le_of_ble_eq_true rfl) rfl ?_
      show K _ [_, _, _, _, _, _] _ _
      refine rl_iload (pc := 51) R dX7_bet_51 rfl ?_
      refine rl_bipush (pc := 53) R dX7_bet_53 bc_m4 ?_
      refine rl_icmp_eq (pc := 55) (tgt := 73) R dX7_bet_55 rfl (fun c55 => ?_) (fun c55 => ?_)
      · refine rl_iinc (pc := 73) R dX7_bet_73 rfl (ii_n b) rfl ?_
        show K _ [_, _, _, _, _, _] _ _
        refine rl_goto (pc := 76) (tgt := 34) R dX7_bet_76 rfl (ih (b + 1) _ (by omega) (by omega) (by rw [← hs, btX, if_pos c55]))
      · refine rl_iload_n (pc := 58) R dX7_bet_58 rfl ?_
        refine rl_if_ne (pc := 59) (tgt := 67) R dX7_bet_59 rfl (fun c59 => ?_) (fun c59 => ?_)
        · refine rl_iload (pc := 67) R dX7_bet_67 rfl ?_
          refine rl_iload (pc := 69) R dX7_bet_69 rfl ?_
          refine rl_isub (pc := 71) R dX7_bet_71 ?_
          exact rl_ireturn (pc := 72) E dX7_bet_72 rfl rfl (e_si (by rw [← hs, btX, if_neg c55]; first | rw [if_pos c59] | rw [if_neg c59]))
        · refine rl_iload (pc := 62) R dX7_bet_62 rfl ?_
          refine rl_goto (pc := 64) (tgt := 72) R dX7_bet_64 rfl ?_
          exact rl_ireturn (pc := 72) E dX7_bet_72 rfl rfl (e_si (by rw [← hs, btX, if_neg c55]; first | rw [if_pos c59] | rw [if_neg c59]))
  refine rl_iload_n (pc := 0) R dX7_bet_0 rfl ?_
  refine rl_iconst (pc := 1) R dX7_bet_1 ic_0 ?_
  refine rl_bipush (pc := 2) R dX7_bet_2 bc_99 ?_
  refine rl_S3 (pc := 4) RS dX7_bet_4 lkX7_76 (Nat.le_of_ble_eq_true rfl) (bs_X7_isWithin) ?_
  refine rl_if_eq (pc := 7) (tgt := 29) R dX7_bet_7 rfl (fun c7 => absurd c7 (by rw [hok.1]; decide)) (fun c7 => ?_)
  refine rl_iload_n (pc := 10) R dX7_bet_10 rfl ?_
  refine rl_iconst (pc := 11) R dX7_bet_11 ic_0 ?_
  refine rl_bipush (pc := 12) R dX7_bet_12 bc_99 ?_
  refine rl_S3 (pc := 14) RS dX7_bet_14 lkX7_76 (Nat.le_of_ble_eq_true rfl) (bs_X7_isWithin) ?_
  refine rl_if_eq (pc := 17) (tgt := 29) R dX7_bet_17 rfl (fun c17 => absurd c17 (by rw [hok.2.1]; decide)) (fun c17 => ?_)
  refine rl_iload_n (pc := 20) R dX7_bet_20 rfl ?_
  refine rl_iconst (pc := 21) R dX7_bet_21 ic_0 ?_
  refine rl_iconst (pc := 22) R dX7_bet_22 ic_1 ?_
  refine rl_S3 (pc := 23) RS dX7_bet_23 lkX7_76 (Nat.le_of_ble_eq_true rfl) (bs_X7_isWithin) ?_
  refine rl_if_ne (pc := 26) (tgt := 31) R dX7_bet_26 rfl (fun c26 => ?_) (fun c26 => absurd c26 (by rw [hok.2.2]; decide))
  refine rl_iconst (pc := 31) R dX7_bet_31 ic_2 ?_
  refine rl_istore (pc := 32) R dX7_bet_32 (Nat.le_of_ble_eq_true rfl) rfl ?_
  show K _ [_, _, _, _, _, _] _ _
  exact loop 197 2 none rfl (by decide) rfl
theorem bs_X7_sets_bad {w t l k : Int32} (hok : (arW w t l && isW k 0 9) = false) : BS (d + 2) false yX7_sets [.ref 0, .int w, .int t, .int l, .int k] h (some (.int (-1))) h := by
  refine bs_of mtX7_sets rfl (Nat.le_of_ble_eq_true rfl) (fun K R RV RS E => ?_)
  show K 0 [_, _, _, _, _] [] _
  refine rl_iload_n (pc := 0) R dX7_sets_0 rfl ?_
  refine rl_iload_n (pc := 1) R dX7_sets_1 rfl ?_
  refine rl_iload_n (pc := 2) R dX7_sets_2 rfl ?_
  refine rl_S3 (pc := 3) RS dX7_sets_3 lkX7_159 (Nat.le_of_ble_eq_true rfl) (bs_X7_areWords) ?_
  refine rl_if_eq (pc := 6) (tgt := 20) R dX7_sets_6 rfl (fun c6 => ?_) (fun c6 => ?_)
  · rw [bI_0] at c6
    refine rl_iconst (pc := 20) R dX7_sets_20 ic_m1 ?_
    exact rl_ireturn (pc := 21) E dX7_sets_21 rfl rfl (rfl)
  · rw [bI_n0] at c6
    refine rl_iload (pc := 9) R dX7_sets_9 rfl ?_
    refine rl_iconst (pc := 11) R dX7_sets_11 ic_0 ?_
    refine rl_bipush (pc := 12) R dX7_sets_12 bc_9 ?_
    refine rl_S3 (pc := 14) RS dX7_sets_14 lkX7_76 (Nat.le_of_ble_eq_true rfl) (bs_X7_isWithin) ?_
    refine rl_if_ne (pc := 17) (tgt := 22) R dX7_sets_17 rfl (fun c17 => ?_) (fun c17 => ?_)
    · exact absurd hok (by rw [bI_n0] at c17; rw [c6, c17]; decide)
    · refine rl_iconst (pc := 20) R dX7_sets_20 ic_m1 ?_
      exact rl_ireturn (pc := 21) E dX7_sets_21 rfl rfl (rfl)
theorem bs_X7_sets {w t l : Int32} {k : Nat} {g : Nat → Int32} (x0 : h[0]? = some (x0O im)) (hY : rY h 1 2 4 3 n nw wo co se) (hW : rW h 16 17 18 g) (hk : k ≤ 9) (hok : arW w t l = true) : BS (d + 5) false yX7_sets [.ref 0, .int w, .int t, .int l, .int (nI k)] h (some (.int (fk (se 1) (w &&& (t ^^^ (-1))) l k g k))) (h.set 18 (hI 290 (fk (se 1) (w &&& (t ^^^ (-1))) l k g))) := by
  have h1 := hY.1
  refine bs_of mtX7_sets rfl (Nat.le_of_ble_eq_true rfl) (fun K R RV RS E => ?_)
  show K 0 [_, _, _, _, _] [] _
  refine rl_iload_n (pc := 0) R dX7_sets_0 rfl ?_
  refine rl_iload_n (pc := 1) R dX7_sets_1 rfl ?_
  refine rl_iload_n (pc := 2) R dX7_sets_2 rfl ?_
  refine rl_S3 (pc := 3) RS dX7_sets_3 lkX7_159 (Nat.le_of_ble_eq_true rfl) (bs_X7_areWords) ?_
  refine rl_if_eq (pc := 6) (tgt := 20) R dX7_sets_6 rfl (fun c6 => absurd c6 (by rw [hok]; decide)) (fun c6 => ?_)
  refine rl_iload (pc := 9) R dX7_sets_9 rfl ?_
  refine rl_iconst (pc := 11) R dX7_sets_11 ic_0 ?_
  refine rl_bipush (pc := 12) R dX7_sets_12 bc_9 ?_
  refine rl_S3 (pc := 14) RS dX7_sets_14 lkX7_76 (Nat.le_of_ble_eq_true rfl) (bs_X7_isWithin) ?_
  refine rl_if_ne (pc := 17) (tgt := 22) R dX7_sets_17 rfl (fun c17 => ?_) (fun c17 => absurd c17 (by rw [show isW (nI k) 0 9 = true from isW_t (nI_le (a := 0) (by omega) (by omega)) (nI_le (b := 9) hk (by decide))]; decide))
  refine rl_aload_n (pc := 22) R dX7_sets_22 rfl ?_
  refine rl_getf (pc := 23) R dX7_sets_23 fkX7_47 (by first | assumption | rfl) rfl ?_
  refine rl_aload_n (pc := 26) R dX7_sets_26 rfl ?_
  refine rl_getf (pc := 27) R dX7_sets_27 fkX7_10 (by first | assumption | rfl) rfl ?_
  refine rl_iconst (pc := 30) R dX7_sets_30 ic_1 ?_
  refine rl_V1 (pc := 31) RV dX7_sets_31 lkX7_119 h1 rfl (Nat.le_of_ble_eq_true rfl) (bs_X6_tell (i := 1) hY (by decide)) ?_
  refine rl_iload_n (pc := 34) R dX7_sets_34 rfl ?_
  refine rl_iload_n (pc := 35) R dX7_sets_35 rfl ?_
  refine rl_iload_n (pc := 36) R dX7_sets_36 rfl ?_
  refine rl_iload (pc := 37) R dX7_sets_37 rfl ?_
  refine rl_V5 (pc := 39) RV dX7_sets_39 lkX7_162 hW.1 rfl (Nat.le_of_ble_eq_true rfl) (bs_X5_manyFit hW hk) ?_
  exact rl_ireturn (pc := 42) E dX7_sets_42 rfl rfl (rfl)
theorem bs_X7_surely_bad {w t l k what : Int32} (hok : (arW w t l && (isW k 0 9 && isW what 0 1)) = false) : BS (d + 2) false yX7_surely [.ref 0, .int w, .int t, .int l, .int k, .int what] h (some (.int (-1))) h := by
  refine bs_of mtX7_surely rfl (Nat.le_of_ble_eq_true rfl) (fun K R RV RS E => ?_)
  show K 0 [_, _, _, _, _, _, _, _, _, _, _] [] _
  refine rl_iload_n (pc := 0) R dX7_surely_0 rfl ?_
  refine rl_iload_n (pc := 1) R dX7_surely_1 rfl ?_
  refine rl_iload_n (pc := 2) R dX7_surely_2 rfl ?_
  refine rl_S3 (pc := 3) RS dX7_surely_3 lkX7_159 (Nat.le_of_ble_eq_true rfl) (bs_X7_areWords) ?_
  refine rl_if_eq (pc := 6) (tgt := 30) R dX7_surely_6 rfl (fun c6 => ?_) (fun c6 => ?_)
  · rw [bI_0] at c6
    refine rl_iconst (pc := 30) R dX7_surely_30 ic_m1 ?_
    exact rl_ireturn (pc := 31) E dX7_surely_31 rfl rfl (rfl)
  · rw [bI_n0] at c6
    refine rl_iload (pc := 9) R dX7_surely_9 rfl ?_
    refine rl_iconst (pc := 11) R dX7_surely_11 ic_0 ?_
    refine rl_bipush (pc := 12) R dX7_surely_12 bc_9 ?_
    refine rl_S3 (pc := 14) RS dX7_surely_14 lkX7_76 (Nat.le_of_ble_eq_true rfl) (bs_X7_isWithin) ?_
    refine rl_if_eq (pc := 17) (tgt := 30) R dX7_surely_17 rfl (fun c17 => ?_) (fun c17 => ?_)
    · rw [bI_0] at c17
      refine rl_iconst (pc := 30) R dX7_surely_30 ic_m1 ?_
      exact rl_ireturn (pc := 31) E dX7_surely_31 rfl rfl (rfl)
    · rw [bI_n0] at c17
      refine rl_iload (pc := 20) R dX7_surely_20 rfl ?_
      refine rl_iconst (pc := 22) R dX7_surely_22 ic_0 ?_
      refine rl_iconst (pc := 23) R dX7_surely_23 ic_1 ?_
      refine rl_S3 (pc := 24) RS dX7_surely_24 lkX7_76 (Nat.le_of_ble_eq_true rfl) (bs_X7_isWithin) ?_
      refine rl_if_ne (pc := 27) (tgt := 32) R dX7_surely_27 rfl (fun c27 => ?_) (fun c27 => ?_)
      · exact absurd hok (by rw [bI_n0] at c27; rw [c6, c17, c27]; decide)
      · refine rl_iconst (pc := 30) R dX7_surely_30 ic_m1 ?_
        exact rl_ireturn (pc := 31) E dX7_surely_31 rfl rfl (rfl)
theorem bs_X7_surely {w t l what : Int32} {k : Nat} {g : Nat → Int32} (x0 : h[0]? = some (x0O im)) (hY : rY h 1 2 4 3 n nw wo co se) (hW : rW h 16 17 18 g) (hk : k ≤ 9) (hok : arW w t l = true) (hw : isW what 0 1 = true) : BS (d + 5) false yX7_surely [.ref 0, .int w, .int t, .int l, .int (nI k), .int what] h
    (some (.int (if fk (se 1) (w &&& (t ^^^ (-1))) l k g k = 0 then -4 else (suL (se 1) w t l k (if what = 0 then fk (se 1) (w &&& (t ^^^ (-1))) l k g k else 0) 28 0 0 (fk (se 1) (w &&& (t ^^^ (-1))) l k g)).1)))
    (if fk (se 1) (w &&& (t ^^^ (-1))) l k g k = 0 then h.set 18 (hI 290 (fk (se 1) (w &&& (t ^^^ (-1))) l k g)) else h.set 18 (hI 290 (suL (se 1) w t l k (if what = 0 then fk (se 1) (w &&& (t ^^^ (-1))) l k g k else 0) 28 0 0 (fk (se 1) (w &&& (t ^^^ (-1))) l k g)).2)) := by
  have h1 := hY.1
  have hc := hY.2.2.2
  have Y2 : ∀ g2 : Nat → Int32, rY (h.set 18 (hI 290 g2)) 1 2 4 3 n nw wo co se := fun g2 => ⟨sm_h_oi h1 hW.2.2, rD_set hY.2.1 hW.2.2 (by decide), sm_h_ne hY.2.2.1 hW.2.2 (by decide), hc⟩
  have W2 : ∀ g2 : Nat → Int32, rW (h.set 18 (hI 290 g2)) 16 17 18 g2 := fun g2 => rW_set hW
  have X02 : ∀ g2 : Nat → Int32, (h.set 18 (hI 290 g2))[0]? = some (x0O im) := fun g2 => sm_h_oi x0 hW.2.2
  generalize hall : fk (se 1) (w &&& (t ^^^ (-1))) l k g k = all
  generalize hg1 : fk (se 1) (w &&& (t ^^^ (-1))) l k g = g1
  by_cases hz : all = 0
  · rw [if_pos hz, if_pos hz]
    refine bs_of mtX7_surely rfl (Nat.le_of_ble_eq_true rfl) (fun K R RV RS E => ?_)
    show K 0 [_, _, _, _, _, _, _, _, _, _, _] [] _
    refine rl_iload_n (pc := 0) R dX7_surely_0 rfl ?_
    refine rl_iload_n (pc := 1) R dX7_surely_1 rfl ?_
    refine rl_iload_n (pc := 2) R dX7_surely_2 rfl ?_
    refine rl_S3 (pc := 3) RS dX7_surely_3 lkX7_159 (Nat.le_of_ble_eq_true rfl) (bs_X7_areWords) ?_
    refine rl_if_eq (pc := 6) (tgt := 30) R dX7_surely_6 rfl (fun c6 => absurd c6 (by rw [hok]; decide)) (fun c6 => ?_)
    refine rl_iload (pc := 9) R dX7_surely_9 rfl ?_
    refine rl_iconst (pc := 11) R dX7_surely_11 ic_0 ?_
    refine rl_bipush (pc := 12) R dX7_surely_12 bc_9 ?_
    refine rl_S3 (pc := 14) RS dX7_surely_14 lkX7_76 (Nat.le_of_ble_eq_true rfl) (bs_X7_isWithin) ?_
    refine rl_if_eq (pc := 17) (tgt := 30) R dX7_surely_17 rfl (fun c17 => absurd c17 (by rw [show isW (nI k) 0 9 = true from isW_t (nI_le (a := 0) (by omega) (by omega)) (nI_le (b := 9) hk (by decide))]; decide)) (fun c17 => ?_)
    refine rl_iload (pc := 20) R dX7_surely_20 rfl ?_
    refine rl_iconst (pc := 22) R dX7_surely_22 ic_0 ?_
    refine rl_iconst (pc := 23) R dX7_surely_23 ic_1 ?_
    refine rl_S3 (pc := 24) RS dX7_surely_24 lkX7_76 (Nat.le_of_ble_eq_true rfl) (bs_X7_isWithin) ?_
    refine rl_if_ne (pc := 27) (tgt := 32) R dX7_surely_27 rfl (fun c27 => ?_) (fun c27 => absurd c27 (by rw [hw]; decide))
    refine rl_aload_n (pc := 32) R dX7_surely_32 rfl ?_
    refine rl_getf (pc := 33) R dX7_surely_33 fkX7_47 (by first | assumption | rfl) rfl ?_
    refine rl_aload_n (pc := 36) R dX7_surely_36 rfl ?_
    refine rl_getf (pc := 37) R dX7_surely_37 fkX7_10 (by first | assumption | rfl) rfl ?_
    refine rl_iconst (pc := 40) R dX7_surely_40 ic_1 ?_
    refine rl_V1 (pc := 41) RV dX7_surely_41 lkX7_119 h1 rfl (Nat.le_of_ble_eq_true rfl) (bs_X6_tell (i := 1) hY (by decide)) ?_
    refine rl_iload_n (pc := 44) R dX7_surely_44 rfl ?_
    refine rl_iload_n (pc := 45) R dX7_surely_45 rfl ?_
    refine rl_iload_n (pc := 46) R dX7_surely_46 rfl ?_
    refine rl_iload (pc := 47) R dX7_surely_47 rfl ?_
    refine rl_V5 (pc := 49) RV dX7_surely_49 lkX7_162 hW.1 rfl (Nat.le_of_ble_eq_true rfl) (bs_X5_manyFit hW hk) ?_
    rw [hall, hg1]
    refine rl_istore (pc := 52) R dX7_surely_52 (Nat.le_of_ble_eq_true rfl) rfl ?_
    show K _ [_, _, _, _, _, _, _, _, _, _, _] _ _
    refine rl_iload (pc := 54) R dX7_surely_54 rfl ?_
    refine rl_if_ne (pc := 56) (tgt := 62) R dX7_surely_56 rfl (fun c56 => absurd (hz) c56) (fun c56 => ?_)
    refine rl_bipush (pc := 59) R dX7_surely_59 bc_m4 ?_
    exact rl_ireturn (pc := 61) E dX7_surely_61 rfl rfl (rfl)
  · rw [if_neg hz, if_neg hz]
    refine bs_of mtX7_surely rfl (Nat.le_of_ble_eq_true rfl) (fun K R RV RS E => ?_)
    show K 0 [_, _, _, _, _, _, _, _, _, _, _] [] _
    have loop : ∀ (due : Int32) (j i : Nat) (s : Int32) (g2 : Nat → Int32) (z : Option Value), i + j = 28 → suL (se 1) w t l k due j i s g2 = suL (se 1) w t l k (if what = 0 then all else 0) 28 0 0 g1 → K 81 [some (.ref 0), some (.int w), some (.int t), some (.int l), some (.int (nI k)), some (.int what), some (.int all), some (.int due), some (.int s), some (.int (nI i)), z] [] (h.set 18 (hI 290 g2)) := by
      intro due j
      induction j with
      | zero =>
        intro i s g2 z hi hs
        rw [← hs] at E
        refine rl_iload (pc := 81) R dX7_surely_81 rfl ?_
        refine rl_bipush (pc := 83) R dX7_surely_83 bc_28 ?_
        refine rl_icmp_ge (pc := 85) (tgt := 142) R dX7_surely_85 rfl (fun c85 => ?_) (fun c85 => absurd (nI_le (a := 28) (by omega) (by omega)) c85)
        refine rl_iload (pc := 142) R dX7_surely_142 rfl ?_
        exact rl_ireturn (pc := 144) E dX7_surely_144 rfl rfl (rfl)
      | succ j ih =>
        intro i s g2 z hi hs
        have y2 := Y2 g2
        have x02 := X02 g2
        have h12 := y2.1
        have w2 := W2 g2
        refine rl_iload (pc := 81) R dX7_surely_81 rfl ?_
        refine rl_bipush (pc := 83) R dX7_surely_83 bc_28 ?_
        refine rl_icmp_ge (pc := 85) (tgt := 142) R dX7_surely_85 rfl (fun c85 => absurd c85 (nI_ge (b := 28) (by omega) (by omega))) (fun c85 => ?_)
        refine rl_iconst (pc := 88) R dX7_surely_88 ic_1 ?_
        refine rl_iload (pc := 89) R dX7_surely_89 rfl ?_
        refine rl_ishl (pc := 91) R dX7_surely_91 ?_
        refine rl_istore (pc := 92) R dX7_surely_92 (Nat.le_of_ble_eq_true rfl) rfl ?_
        show K _ [_, _, _, _, _, _, _, _, _, _, _] _ _
        refine rl_iload_n (pc := 94) R dX7_surely_94 rfl ?_
        refine rl_iload (pc := 95) R dX7_surely_95 rfl ?_
        refine rl_iand (pc := 97) R dX7_surely_97 ?_
        refine rl_if_eq (pc := 98) (tgt := 136) R dX7_surely_98 rfl (fun c98 => ?_) (fun c98 => ?_)
        · refine rl_iinc (pc := 136) R dX7_surely_136 rfl (ii_n i) rfl ?_
          show K _ [_, _, _, _, _, _, _, _, _, _, _] _ _
          first | exact rl_goto (pc := 139) (tgt := 81) R dX7_surely_139 rfl (ih (i + 1) _ _ _ (by omega) (by rw [← hs, suL, if_pos (show w &&& b1 i = 0 from c98)])) | exact rl_goto (pc := 139) (tgt := 81) R dX7_surely_139 rfl (ih (i + 1) _ _ _ (by omega) (by rw [← hs, suL, if_neg (show ¬ w &&& b1 i = 0 from c98)]; exact (if_neg c126).symm)) | exact rl_goto (pc := 139) (tgt := 81) R dX7_surely_139 rfl (ih (i + 1) _ _ _ (by omega) (by rw [← hs, suL, if_neg (show ¬ w &&& b1 i = 0 from c98)]; exact (if_pos c126).symm))
        · refine rl_aload_n (pc := 101) R dX7_surely_101 rfl ?_
          refine rl_getf (pc := 102) R dX7_surely_102 fkX7_47 x02 rfl ?_
          refine rl_aload_n (pc := 105) R dX7_surely_105 rfl ?_
          refine rl_getf (pc := 106) R dX7_surely_106 fkX7_10 x02 rfl ?_
          refine rl_iconst (pc := 109) R dX7_surely_109 ic_1 ?_
          refine rl_V1 (pc := 110) RV dX7_surely_110 lkX7_119 h12 rfl (Nat.le_of_ble_eq_true rfl) (bs_X6_tell (i := 1) y2 (by decide)) ?_
          refine rl_iload_n (pc := 113) R dX7_surely_113 rfl ?_
          refine rl_iload_n (pc := 114) R dX7_surely_114 rfl ?_
          refine rl_iload_n (pc := 115) R dX7_surely_115 rfl ?_
          refine rl_iload (pc := 116) R dX7_surely_116 rfl ?_
          refine rl_ior (pc := 118) R dX7_surely_118 ?_
          refine rl_iload (pc := 119) R dX7_surely_119 rfl ?_
          refine rl_V5 (pc := 121) RV dX7_surely_121 lkX7_162 w2.1 rfl (Nat.le_of_ble_eq_true rfl) (bs_X5_manyFit w2 hk) ?_
          rw [List.set_set]
          refine rl_iload (pc := 124) R dX7_surely_124 rfl ?_
          refine rl_icmp_ne (pc := 126) (tgt := 136) R dX7_surely_126 rfl (fun c126 => ?_) (fun c126 => ?_)
          · refine rl_iinc (pc := 136) R dX7_surely_136 rfl (ii_n i) rfl ?_
            show K _ [_, _, _, _, _, _, _, _, _, _, _] _ _
            first | exact rl_goto (pc := 139) (tgt := 81) R dX7_surely_139 rfl (ih (i + 1) _ _ _ (by omega) (by rw [← hs, suL, if_pos (show w &&& b1 i = 0 from c98)])) | exact rl_goto (pc := 139) (tgt := 81) R dX7_surely_139 rfl (ih (i + 1) _ _ _ (by omega) (by rw [← hs, suL, if_neg (show ¬ w &&& b1 i = 0 from c98)]; exact (if_neg c126).symm)) | exact rl_goto (pc := 139) (tgt := 81) R dX7_surely_139 rfl (ih (i + 1) _ _ _ (by omega) (by rw [← hs, suL, if_neg (show ¬ w &&& b1 i = 0 from c98)]; exact (if_pos c126).symm))
          · refine rl_iload (pc := 129) R dX7_surely_129 rfl ?_
            refine rl_iload (pc := 131) R dX7_surely_131 rfl ?_
            refine rl_ior (pc := 133) R dX7_surely_133 ?_
            refine rl_istore (pc := 134) R dX7_surely_134 (Nat.le_of_ble_eq_true rfl) rfl ?_
            show K _ [_, _, _, _, _, _, _, _, _, _, _] _ _
            refine rl_iinc (pc := 136) R dX7_surely_136 rfl (ii_n i) rfl ?_
            show K _ [_, _, _, _, _, _, _, _, _, _, _] _ _
            first | exact rl_goto (pc := 139) (tgt := 81) R dX7_surely_139 rfl (ih (i + 1) _ _ _ (by omega) (by rw [← hs, suL, if_pos (show w &&& b1 i = 0 from c98)])) | exact rl_goto (pc := 139) (tgt := 81) R dX7_surely_139 rfl (ih (i + 1) _ _ _ (by omega) (by rw [← hs, suL, if_neg (show ¬ w &&& b1 i = 0 from c98)]; exact (if_neg c126).symm)) | exact rl_goto (pc := 139) (tgt := 81) R dX7_surely_139 rfl (ih (i + 1) _ _ _ (by omega) (by rw [← hs, suL, if_neg (show ¬ w &&& b1 i = 0 from c98)]; exact (if_pos c126).symm))
    refine rl_iload_n (pc := 0) R dX7_surely_0 rfl ?_
    refine rl_iload_n (pc := 1) R dX7_surely_1 rfl ?_
    refine rl_iload_n (pc := 2) R dX7_surely_2 rfl ?_
    refine rl_S3 (pc := 3) RS dX7_surely_3 lkX7_159 (Nat.le_of_ble_eq_true rfl) (bs_X7_areWords) ?_
    refine rl_if_eq (pc := 6) (tgt := 30) R dX7_surely_6 rfl (fun c6 => absurd c6 (by rw [hok]; decide)) (fun c6 => ?_)
    refine rl_iload (pc := 9) R dX7_surely_9 rfl ?_
    refine rl_iconst (pc := 11) R dX7_surely_11 ic_0 ?_
    refine rl_bipush (pc := 12) R dX7_surely_12 bc_9 ?_
    refine rl_S3 (pc := 14) RS dX7_surely_14 lkX7_76 (Nat.le_of_ble_eq_true rfl) (bs_X7_isWithin) ?_
    refine rl_if_eq (pc := 17) (tgt := 30) R dX7_surely_17 rfl (fun c17 => absurd c17 (by rw [show isW (nI k) 0 9 = true from isW_t (nI_le (a := 0) (by omega) (by omega)) (nI_le (b := 9) hk (by decide))]; decide)) (fun c17 => ?_)
    refine rl_iload (pc := 20) R dX7_surely_20 rfl ?_
    refine rl_iconst (pc := 22) R dX7_surely_22 ic_0 ?_
    refine rl_iconst (pc := 23) R dX7_surely_23 ic_1 ?_
    refine rl_S3 (pc := 24) RS dX7_surely_24 lkX7_76 (Nat.le_of_ble_eq_true rfl) (bs_X7_isWithin) ?_
    refine rl_if_ne (pc := 27) (tgt := 32) R dX7_surely_27 rfl (fun c27 => ?_) (fun c27 => absurd c27 (by rw [hw]; decide))
    refine rl_aload_n (pc := 32) R dX7_surely_32 rfl ?_
    refine rl_getf (pc := 33) R dX7_surely_33 fkX7_47 (by first | assumption | rfl) rfl ?_
    refine rl_aload_n (pc := 36) R dX7_surely_36 rfl ?_
    refine rl_getf (pc := 37) R dX7_surely_37 fkX7_10 (by first | assumption | rfl) rfl ?_
    refine rl_iconst (pc := 40) R dX7_surely_40 ic_1 ?_
    refine rl_V1 (pc := 41) RV dX7_surely_41 lkX7_119 h1 rfl (Nat.le_of_ble_eq_true rfl) (bs_X6_tell (i := 1) hY (by decide)) ?_
    refine rl_iload_n (pc := 44) R dX7_surely_44 rfl ?_
    refine rl_iload_n (pc := 45) R dX7_surely_45 rfl ?_
    refine rl_iload_n (pc := 46) R dX7_surely_46 rfl ?_
    refine rl_iload (pc := 47) R dX7_surely_47 rfl ?_
    refine rl_V5 (pc := 49) RV dX7_surely_49 lkX7_162 hW.1 rfl (Nat.le_of_ble_eq_true rfl) (bs_X5_manyFit hW hk) ?_
    rw [hall, hg1]
    refine rl_istore (pc := 52) R dX7_surely_52 (Nat.le_of_ble_eq_true rfl) rfl ?_
    show K _ [_, _, _, _, _, _, _, _, _, _, _] _ _
    refine rl_iload (pc := 54) R dX7_surely_54 rfl ?_
    refine rl_if_ne (pc := 56) (tgt := 62) R dX7_surely_56 rfl (fun c56 => ?_) (fun c56 => absurd c56 (hz))
    refine rl_iload (pc := 62) R dX7_surely_62 rfl ?_
    refine rl_if_ne (pc := 64) (tgt := 72) R dX7_surely_64 rfl (fun c64 => ?_) (fun c64 => ?_)
    · refine rl_iconst (pc := 72) R dX7_surely_72 ic_0 ?_
      refine rl_istore (pc := 73) R dX7_surely_73 (Nat.le_of_ble_eq_true rfl) rfl ?_
      show K _ [_, _, _, _, _, _, _, _, _, _, _] _ _
      refine rl_iconst (pc := 75) R dX7_surely_75 ic_0 ?_
      refine rl_istore (pc := 76) R dX7_surely_76 (Nat.le_of_ble_eq_true rfl) rfl ?_
      show K _ [_, _, _, _, _, _, _, _, _, _, _] _ _
      refine rl_iconst (pc := 78) R dX7_surely_78 ic_0 ?_
      refine rl_istore (pc := 79) R dX7_surely_79 (Nat.le_of_ble_eq_true rfl) rfl ?_
      show K _ [_, _, _, _, _, _, _, _, _, _, _] _ _
      first | exact loop 0 28 0 0 g1 _ rfl (by rw [if_neg c64]) | exact loop all 28 0 0 g1 _ rfl (by rw [if_pos c64])
    · refine rl_iload (pc := 67) R dX7_surely_67 rfl ?_
      refine rl_goto (pc := 69) (tgt := 73) R dX7_surely_69 rfl ?_
      refine rl_istore (pc := 73) R dX7_surely_73 (Nat.le_of_ble_eq_true rfl) rfl ?_
      show K _ [_, _, _, _, _, _, _, _, _, _, _] _ _
      refine rl_iconst (pc := 75) R dX7_surely_75 ic_0 ?_
      refine rl_istore (pc := 76) R dX7_surely_76 (Nat.le_of_ble_eq_true rfl) rfl ?_
      show K _ [_, _, _, _, _, _, _, _, _, _, _] _ _
      refine rl_iconst (pc := 78) R dX7_surely_78 ic_0 ?_
      refine rl_istore (pc := 79) R dX7_surely_79 (Nat.le_of_ble_eq_true rfl) rfl ?_
      show K _ [_, _, _, _, _, _, _, _, _, _, _] _ _
      first | exact loop 0 28 0 0 g1 _ rfl (by rw [if_neg c64]) | exact loop all 28 0 0 g1 _ rfl (by rw [if_pos c64])
theorem bs_X7_lots (x0 : h[0]? = some (x0O im)) (hY : rY h 1 2 4 3 n nw wo co se) : BS (d + 5) false yX7_lots [.ref 0] h (some (.int (lot n nw (se 1) (se 0) n 0 0 0 (se 3)).1)) (h.set 4 (hI 4 (upd se 3 (lot n nw (se 1) (se 0) n 0 0 0 (se 3)).2))) := by
  have h1 := hY.1
  refine bs_of mtX7_lots rfl (Nat.le_of_ble_eq_true rfl) (fun K R RV RS E => ?_)
  show K 0 [_] [] _
  refine rl_aload_n (pc := 0) R dX7_lots_0 rfl ?_
  refine rl_getf (pc := 1) R dX7_lots_1 fkX7_10 (by first | assumption | rfl) rfl ?_
  refine rl_V0 (pc := 4) RV dX7_lots_4 lkX7_166 h1 rfl (Nat.le_of_ble_eq_true rfl) (bs_X6_drawLots hY) ?_
  exact rl_ireturn (pc := 7) E dX7_lots_7 rfl rfl (rfl)
theorem bs_X7_seed_bad {v : Int32} (hok : isSe 3 v = false) : BS (d + 3) false yX7_seed [.ref 0, .int v] h (some (.int (-1))) h := by
  refine bs_of mtX7_seed rfl (Nat.le_of_ble_eq_true rfl) (fun K R RV RS E => ?_)
  show K 0 [_, _] [] _
  refine rl_iconst (pc := 0) R dX7_seed_0 ic_3 ?_
  refine rl_iload_n (pc := 1) R dX7_seed_1 rfl ?_
  refine rl_S2 (pc := 2) RS dX7_seed_2 lkX7_88 (Nat.le_of_ble_eq_true rfl) (bs_X7_isSetting) ?_
  refine rl_if_eq (pc := 5) (tgt := 20) R dX7_seed_5 rfl (fun c5 => ?_) (fun c5 => absurd (by rw [hok]; rfl) c5)
  refine rl_iconst (pc := 20) R dX7_seed_20 ic_m1 ?_
  exact rl_ireturn (pc := 21) E dX7_seed_21 rfl rfl (rfl)
theorem bs_X7_seed {v : Int32} (x0 : h[0]? = some (x0O im)) (hY : rY h 1 2 4 3 n nw wo co se) (hok : isSe 3 v = true) : BS (d + 4) false yX7_seed [.ref 0, .int v] h (some (.int (se 3))) (h.set 4 (hI 4 (upd se 3 v))) := by
  have h1 := hY.1
  refine bs_of mtX7_seed rfl (Nat.le_of_ble_eq_true rfl) (fun K R RV RS E => ?_)
  show K 0 [_, _] [] _
  refine rl_iconst (pc := 0) R dX7_seed_0 ic_3 ?_
  refine rl_iload_n (pc := 1) R dX7_seed_1 rfl ?_
  refine rl_S2 (pc := 2) RS dX7_seed_2 lkX7_88 (Nat.le_of_ble_eq_true rfl) (bs_X7_isSetting) ?_
  refine rl_if_eq (pc := 5) (tgt := 20) R dX7_seed_5 rfl (fun c5 => absurd c5 (by rw [hok]; decide)) (fun c5 => ?_)
  refine rl_aload_n (pc := 8) R dX7_seed_8 rfl ?_
  refine rl_getf (pc := 9) R dX7_seed_9 fkX7_10 (by first | assumption | rfl) rfl ?_
  refine rl_iconst (pc := 12) R dX7_seed_12 ic_3 ?_
  refine rl_iload_n (pc := 13) R dX7_seed_13 rfl ?_
  refine rl_V2 (pc := 14) RV dX7_seed_14 lkX7_91 h1 rfl (Nat.le_of_ble_eq_true rfl) (bs_X6_change (i := 3) hY (by decide)) ?_
  refine rl_goto (pc := 17) (tgt := 21) R dX7_seed_17 rfl ?_
  exact rl_ireturn (pc := 21) E dX7_seed_21 rfl rfl (rfl)
end X8
