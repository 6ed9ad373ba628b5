/-! CALLS that ask, and settings -/
section JB
variable {hx hm : List sm_C} {n : Nat} {f a nw wo co se : Nat → Int32}
theorem isW_0 {v M : Int32} {N : Nat} (hM : M.toInt = N) (h : isW v 0 M = true) : ∃ k, k ≤ N ∧ v = nI k := by
  rw [isW_i, i32_lit.1, hM] at h
  have := fb_rng' v
  refine ⟨v.toInt.toNat, by omega, ?_⟩
  apply Int32.toInt_inj.mp
  rw [nI_toInt (by omega)]; omega
theorem rf_eq (hG : GD n f a nw wo co se) (s : Int32) : rfO n (se 1) (se 0) s nw = if iSe n s = true then (if wrM (se 1) s nw n 0 (se 0) = -4 then 0 else -2) else -1 := by
  obtain ⟨l, hl, e⟩ := hG.2.2.2.2.2.1
  unfold rfO
  rw [hAl_iSe hG.1, e, fwr_eq hG.1 (by omega)]
theorem jo_lawful {s : Int32} (h : INV hx hm) : JO yX7_lawful yX8_lawful [.int s] hx hm := by
  have h0 := h
  obtain ⟨im, n, f, se, n2, f2, se2, m, x, tb, n3, F, g1, g2, ln, mm, ft, at_, sz, rd, a, th, zf, lf, ims, D, t, w, y, nw, wo, co, nw2, wo2, co2, rfl, rfl, hG, hI, hT, hS⟩ := h
  refine JO_mk (bs_X7_lawful (d := 2) rfl (wx_Y hG)) (bs_X8_lawful (d := 4) rfl (wm_N hG)) ?_ h0
  rw [rf_eq hG]
  by_cases c : iSe n s = true
  · rw [if_pos c, if_pos c]
    by_cases c2 : wrM (se 1) s nw n 0 (se 0) = -4
    · rw [if_pos c2, if_pos c2]; decide
    · rw [if_neg c2, if_neg c2]; decide
  · rw [if_neg c, if_neg c]; decide
theorem jo_wrong {s : Int32} (h : INV hx hm) : JO yX7_wrong yX8_wrong [.int s] hx hm := by
  have h0 := h
  obtain ⟨im, n, f, se, n2, f2, se2, m, x, tb, n3, F, g1, g2, ln, mm, ft, at_, sz, rd, a, th, zf, lf, ims, D, t, w, y, nw, wo, co, nw2, wo2, co2, rfl, rfl, hG, hI, hT, hS⟩ := h
  refine JO_mk (bs_X7_wrong (d := 3) rfl (wx_Y hG)) (bs_X8_wrong (d := 4) rfl (wm_N hG)) ?_ h0
  obtain ⟨l, hl, e⟩ := hG.2.2.2.2.2.1
  rw [hAl_iSe hG.1, e, fwr_eq hG.1 (by omega)]
theorem jo_gain {s : Int32} (h : INV hx hm) : JO yX7_gain yX8_gain [.int s] hx hm := by
  have h0 := h
  obtain ⟨im, n, f, se, n2, f2, se2, m, x, tb, n3, F, g1, g2, ln, mm, ft, at_, sz, rd, a, th, zf, lf, ims, D, t, w, y, nw, wo, co, nw2, wo2, co2, rfl, rfl, hG, hI, hT, hS⟩ := h
  refine JO_mk (bs_X7_gain (d := 2) rfl (wx_Y hG)) (bs_X8_gain (d := 4) rfl (wm_N hG)) ?_ h0
  have hn := hG.1
  rw [rf_eq hG]
  by_cases c : iSe n s = true
  · rw [if_pos c, if_pos c]
    by_cases c2 : wrM (se 1) s nw n 0 (se 0) = -4
    · rw [if_pos c2, if_pos c2, if_pos rfl, gn_eq _ _ _ (by omega), lft_0]
    · rw [if_neg c2, if_neg c2]; rfl
  · rw [if_neg c, if_neg c]; rfl
theorem jo_trusted {s : Int32} (h : INV hx hm) : JO yX7_trusted yX8_trusted [.int s] hx hm := by
  have h0 := h
  obtain ⟨im, n, f, se, n2, f2, se2, m, x, tb, n3, F, g1, g2, ln, mm, ft, at_, sz, rd, a, th, zf, lf, ims, D, t, w, y, nw, wo, co, nw2, wo2, co2, rfl, rfl, hG, hI, hT, hS⟩ := h
  refine JO_mk (bs_X7_trusted (d := 2) rfl (wx_Y hG)) (bs_X8_trusted (d := 4) rfl (wm_N hG)) ?_ h0
  have hn := hG.1
  rw [rf_eq hG]
  by_cases c : iSe n s = true
  · rw [if_pos c, if_pos c]
    by_cases c2 : wrM (se 1) s nw n 0 (se 0) = -4
    · rw [if_pos c2, if_pos c2, if_pos rfl, tr_eq _ _ _ (by omega), lft_0]
    · rw [if_neg c2, if_neg c2]; rfl
  · rw [if_neg c, if_neg c]; rfl
theorem jo_harm (h : INV hx hm) : JO yX7_harm yX8_harm [] hx hm := by
  obtain ⟨im, n, f, se, n2, f2, se2, m, x, tb, n3, F, g1, g2, ln, mm, ft, at_, sz, rd, a, th, zf, lf, ims, D, t, w, y, nw, wo, co, nw2, wo2, co2, rfl, rfl, hG, hI, hT, hS⟩ := h
  obtain ⟨l, hl, e⟩ := hG.2.2.2.2.2.1
  refine JO_mk (bs_X7_harm (d := 1) rfl (wx_Y hG) wx_H hl e) (bs_X8_harm (d := 3) rfl (wm_N hG) rfl hl e) (harm_eq (GD_nw hG) hl _ _) ?_
  exact ⟨im, n, f, se, n2, f2, se2, m, x, tb, n3, F, (rk n nw wo co (se 1) (se 2) l g1), g2, ln, mm, ft, at_, sz, rd, a, th, zf, lf, ims, D, (mk n nw wo co (se 1) (se 2) t), w, y, nw, wo, co, nw2, wo2, co2, rfl, rfl, hG, hI, hT, hS⟩
theorem jo_worst (h : INV hx hm) : JO yX7_worst yX8_worst [] hx hm := by
  obtain ⟨im, n, f, se, n2, f2, se2, m, x, tb, n3, F, g1, g2, ln, mm, ft, at_, sz, rd, a, th, zf, lf, ims, D, t, w, y, nw, wo, co, nw2, wo2, co2, rfl, rfl, hG, hI, hT, hS⟩ := h
  obtain ⟨l, hl, e⟩ := hG.2.2.2.2.2.1
  refine JO_mk (bs_X7_worst (d := 1) rfl (wx_Y hG) wx_H hl e) (bs_X8_worst (d := 3) rfl (wm_N hG) rfl hl e) (worst_eq (GD_nw hG) hl _ _) ?_
  exact ⟨im, n, f, se, n2, f2, se2, m, x, tb, n3, F, (rk n nw wo co (se 1) (se 2) l g1), g2, ln, mm, ft, at_, sz, rd, a, th, zf, lf, ims, D, (mk n nw wo co (se 1) (se 2) t), w, y, nw, wo, co, nw2, wo2, co2, rfl, rfl, hG, hI, hT, hS⟩
theorem jo_best (h : INV hx hm) : JO yX7_best yX8_best [] hx hm := by
  obtain ⟨im, n, f, se, n2, f2, se2, m, x, tb, n3, F, g1, g2, ln, mm, ft, at_, sz, rd, a, th, zf, lf, ims, D, t, w, y, nw, wo, co, nw2, wo2, co2, rfl, rfl, hG, hI, hT, hS⟩ := h
  obtain ⟨l, hl, e⟩ := hG.2.2.2.2.2.1
  refine JO_mk (bs_X7_best (d := 1) rfl (wx_Y hG) wx_H hl e) (bs_X8_best (d := 3) rfl (wm_N hG) rfl hl e) (best_eq (GD_nw hG) hl _ _) ?_
  exact ⟨im, n, f, se, n2, f2, se2, m, x, tb, n3, F, ((btV n nw wo co (se 1) l 8 1 0 (rk n nw wo co (se 1) 0 l g1 l) (rk n nw wo co (se 1) 0 l g1)).2), g2, ln, mm, ft, at_, sz, rd, a, th, zf, lf, ims, D, ((bmV n nw wo co (se 1) l 9 0 0 0 t).2), w, y, nw, wo, co, nw2, wo2, co2, rfl, rfl, hG, hI, hT, hS⟩
theorem jo_price (h : INV hx hm) : JO yX7_price yX8_price [] hx hm := by
  have h0 := h
  obtain ⟨im, n, f, se, n2, f2, se2, m, x, tb, n3, F, g1, g2, ln, mm, ft, at_, sz, rd, a, th, zf, lf, ims, D, t, w, y, nw, wo, co, nw2, wo2, co2, rfl, rfl, hG, hI, hT, hS⟩ := h
  obtain ⟨l, hl, e⟩ := hG.2.2.2.2.2.1
  by_cases l9 : l = 9
  · subst l9
    exact JO_mk (bs_X7_price9 (d := 5) rfl (wx_Y hG) e) (bs_X8_price9 (d := 3) rfl (wm_N hG) e) rfl h0
  · refine JO_mk (bs_X7_price (d := 1) rfl (wx_Y hG) wx_H (show l < 9 by omega) e) (bs_X8_price (d := 3) rfl (wm_N hG) rfl (show l < 9 by omega) e) ?_ ?_
    · rw [harm_eq (GD_nw hG) hl g1 t, harm_eq (GD_nw hG) (show l + 1 ≤ 9 by omega) _ (mk n nw wo co (se 1) (se 2) t)]
    · exact ⟨im, n, f, se, n2, f2, se2, m, x, tb, n3, F, (rk n nw wo co (se 1) (se 2) (l + 1) (rk n nw wo co (se 1) (se 2) l g1)), g2, ln, mm, ft, at_, sz, rd, a, th, zf, lf, ims, D, (mk n nw wo co (se 1) (se 2) (mk n nw wo co (se 1) (se 2) t)), w, y, nw, wo, co, nw2, wo2, co2, rfl, rfl, hG, hI, hT, hS⟩
theorem jo_under {law : Int32} (h : INV hx hm) : JO yX7_under yX8_under [.int law] hx hm := by
  have h0 := h
  obtain ⟨im, n, f, se, n2, f2, se2, m, x, tb, n3, F, g1, g2, ln, mm, ft, at_, sz, rd, a, th, zf, lf, ims, D, t, w, y, nw, wo, co, nw2, wo2, co2, rfl, rfl, hG, hI, hT, hS⟩ := h
  obtain ⟨l, hl, e⟩ := hG.2.2.2.2.2.1
  cases c : isW law 0 3
  · exact JO_mk (bs_X7_under_bad (d := 5) c) (bs_X8_under_bad (d := 3) c) rfl h0
  · refine JO_mk (bs_X7_under (d := 1) rfl (wx_Y hG) wx_H hl e c) (bs_X8_under (d := 3) rfl (wm_N hG) rfl hl e c) (harm_eq (GD_nw hG) hl _ _) ?_
    exact ⟨im, n, f, se, n2, f2, se2, m, x, tb, n3, F, (rk n nw wo co law (se 2) l g1), g2, ln, mm, ft, at_, sz, rd, a, th, zf, lf, ims, D, (mk n nw wo co law (se 2) t), w, y, nw, wo, co, nw2, wo2, co2, rfl, rfl, hG, hI, hT, hS⟩
theorem jo_count {v : Int32} (h : INV hx hm) : JO yX7_count yX8_count [.int v] hx hm := by
  have h0 := h
  obtain ⟨im, n, f, se, n2, f2, se2, m, x, tb, n3, F, g1, g2, ln, mm, ft, at_, sz, rd, a, th, zf, lf, ims, D, t, w, y, nw, wo, co, nw2, wo2, co2, rfl, rfl, hG, hI, hT, hS⟩ := h
  cases c : isW v 0 6
  · refine JO_mk (bs_X7_count (d := 4) rfl (wx_Y hG)) (bs_X8_count_bad (d := 4) c) ?_ h0
    have k : ∀ q : Int32, isW q 0 6 = true → ¬ v = q := fun q hq z => by rw [z, hq] at c; cases c
    rw [if_neg (k 0 (by decide)), if_neg (k 1 (by decide)), if_neg (k 2 (by decide)), if_neg (k 3 (by decide)), if_neg (k 4 (by decide)), if_neg (k 5 (by decide)), if_neg (k 6 (by decide))]
  · exact JO_mk (bs_X7_count (d := 4) rfl (wx_Y hG)) (bs_X8_count (d := 4) rfl (wm_N hG) c) rfl h0
theorem jo_lots (h : INV hx hm) : JO yX7_lots yX8_lots [] hx hm := by
  obtain ⟨im, n, f, se, n2, f2, se2, m, x, tb, n3, F, g1, g2, ln, mm, ft, at_, sz, rd, a, th, zf, lf, ims, D, t, w, y, nw, wo, co, nw2, wo2, co2, rfl, rfl, hG, hI, hT, hS⟩ := h
  obtain ⟨l, hl, e⟩ := hG.2.2.2.2.2.1
  have q := lots_eq (law := se 1) (se 3) (GD_nw hG) hG.1 hl
  rw [← e] at q
  refine JO_mk (bs_X7_lots (d := 3) rfl (wx_Y hG)) (bs_X8_lots (d := 5) rfl (wm_N hG) hl e) (by rw [q]) ?_
  rw [q]
  exact ⟨im, n, f, (upd se 3 (lotM n nw (se 1) n 0 0 l 0 (se 3)).2), n2, f2, se2, m, x, tb, n3, F, g1, g2, ln, mm, ft, at_, sz, rd, (upd a 3 (lotM n nw (se 1) n 0 0 l 0 (se 3)).2), th, zf, lf, ims, D, t, w, y, nw, wo, co, nw2, wo2, co2, rfl, rfl, GD_se hG (by decide) (fun z => absurd z (by decide)) (fun z => absurd z (by decide)) (fun z => absurd z (by decide)) (fun _ => lots_bound _ _ _ _ _ _ hG.2.2.2.2.2.2.2.2), hI, hT, hS⟩
theorem jo_seed {v : Int32} (h : INV hx hm) : JO yX7_seed yX8_seed [.int v] hx hm := by
  have h0 := h
  obtain ⟨im, n, f, se, n2, f2, se2, m, x, tb, n3, F, g1, g2, ln, mm, ft, at_, sz, rd, a, th, zf, lf, ims, D, t, w, y, nw, wo, co, nw2, wo2, co2, rfl, rfl, hG, hI, hT, hS⟩ := h
  by_cases c : 0 ≤ v
  · refine JO_mk (bs_X7_seed (d := 4) rfl (wx_Y hG) (by rw [se3_eq]; exact decide_eq_true c)) (bs_X8_seed (d := 6) rfl (wm_N hG) c) rfl ?_
    exact ⟨im, n, f, (upd se 3 v), n2, f2, se2, m, x, tb, n3, F, g1, g2, ln, mm, ft, at_, sz, rd, (upd a 3 v), th, zf, lf, ims, D, t, w, y, nw, wo, co, nw2, wo2, co2, rfl, rfl, GD_se hG (by decide) (fun z => absurd z (by decide)) (fun z => absurd z (by decide)) (fun z => absurd z (by decide)) (fun _ => c), hI, hT, hS⟩
  · exact JO_mk (bs_X7_seed_bad (d := 5) (by rw [se3_eq]; exact decide_eq_false c)) (bs_X8_seed_bad (d := 6) (Int32.not_le.mp c)) rfl h0
theorem jo_set {v1 v : Int32} (h : INV hx hm) : JO yX7_set yX8_set [.int v1, .int v] hx hm := by
  have h0 := h
  obtain ⟨im, n, f, se, n2, f2, se2, m, x, tb, n3, F, g1, g2, ln, mm, ft, at_, sz, rd, a, th, zf, lf, ims, D, t, w, y, nw, wo, co, nw2, wo2, co2, rfl, rfl, hG, hI, hT, hS⟩ := h
  cases c : seOM v1 v
  · exact JO_mk (bs_X7_set_bad (d := 5) (by rw [se_eq]; exact c)) (bs_X8_set_bad (d := 5) c) rfl h0
  · have c1 := c
    unfold seOM at c1
    rw [Bool.and_eq_true] at c1
    obtain ⟨k, hk, rfl⟩ := isW_0 (N := 2) rfl c1.1
    have c2 := c
    rw [← se_eq, Bool.and_eq_true] at c2
    have es : ∀ i, i < 4 → a i = se i := by
      obtain ⟨s0, s1, s2, s3⟩ := hG.2.2.2.2.1
      intro i hi
      rcases (by omega : i = 0 ∨ i = 1 ∨ i = 2 ∨ i = 3) with z | z | z | z <;> subst z <;> assumption
    refine JO_mk (bs_X7_set (d := 4) rfl (wx_Y hG) (show k < 3 by omega) c2.2) (bs_X8_set (d := 5) rfl (wm_N hG) (show k < 3 by omega) c) (es k (by omega)).symm ?_
    refine ⟨im, n, f, (upd se k v), n2, f2, se2, m, x, tb, n3, F, g1, g2, ln, mm, ft, at_, sz, rd, (upd a k v), th, zf, lf, ims, D, t, w, y, nw, wo, co, nw2, wo2, co2, rfl, rfl, GD_se hG (by omega) ?_ ?_ ?_ (fun z => by omega), hI, hT, hS⟩
    · intro z; subst z; exact c1.2
    · intro z; subst z; exact c1.2
    · intro z; subst z; exact c1.2
theorem jo_sure {v1 v2 v3 v4 v5 : Int32} (h : INV hx hm) : JO yX7_sure yX8_sure [.int v1, .int v2, .int v3, .int v4, .int v5] hx hm := by
  cases c : suOM v1 v2 v3 v4 v5
  · exact JO_mk (bs_X7_sure_bad (d := 6) (by rw [su_ok]; exact c)) (bs_X8_sure_bad (d := 6) c) rfl h
  · unfold suOM at c
    simp only [Bool.and_eq_true] at c
    obtain ⟨c1, c2, c3, c4, c5⟩ := c
    obtain ⟨A, hA, rfl⟩ := isW_0 (N := 8) rfl c1
    obtain ⟨B, hB, rfl⟩ := isW_0 (N := 8) rfl c2
    have c30 : isW v4 0 99 = true := by
      rw [isW_i, i32_lit.2.1] at c3
      rw [isW_i, i32_lit.1]
      omega
    obtain ⟨W, hW, rfl⟩ := isW_0 (N := 99) rfl c30
    obtain ⟨L, hL, rfl⟩ := isW_0 (N := W) (nI_toInt (by omega)) c4
    have hW1 : 1 ≤ W := by
      rw [isW_i, i32_lit.2.1, nI_toInt (by omega)] at c3
      omega
    refine JO_mk (bs_X7_sure (d := 6) hA hB hL hW1 hW c5) (bs_X8_sure (d := 6) hA hB hL hW1 hW c5) ?_ h
    have hlt : L * A < 1024 := Nat.lt_of_le_of_lt (Nat.mul_le_mul (show L ≤ 99 by omega) hA) (by decide)
    rw [gd_eq hlt]
    generalize L * A + (W - L) * B = T
    by_cases t0 : T = 0
    · rw [if_pos t0, if_pos t0]
    · rw [if_neg t0, if_neg t0, if_neg]
      intro z
      exact t0 (Nat.eq_zero_of_gcd_eq_zero_right z)
theorem jo_bet {v1 v2 v3 : Int32} (h : INV hx hm) : JO yX7_bet yX8_bet [.int v1, .int v2, .int v3] hx hm := by
  cases c : isW v1 0 99 && (isW v2 0 99 && isW v3 0 1)
  · exact JO_mk (bs_X7_bet_bad (d := 6) c) (bs_X8_bet_bad (d := 6) c) rfl h
  · exact JO_mk (bs_X7_bet (d := 6) c) (bs_X8_bet (d := 6) c) (bt_eq _ _ _ _ _ (by decide) (by decide)) h
theorem jo_sets {v1 v2 v3 v4 : Int32} (h : INV hx hm) : JO yX7_sets yX8_sets [.int v1, .int v2, .int v3, .int v4] hx hm := by
  have h0 := h
  obtain ⟨im, n, f, se, n2, f2, se2, m, x, tb, n3, F, g1, g2, ln, mm, ft, at_, sz, rd, a, th, zf, lf, ims, D, t, w, y, nw, wo, co, nw2, wo2, co2, rfl, rfl, hG, hI, hT, hS⟩ := h
  cases c : arM v1 v2 v3 v4
  · exact JO_mk (bs_X7_sets_bad (d := 6) (by rw [ar_eq]; exact c)) (bs_X8_sets_bad (d := 4) c) rfl h0
  · have c1 := c
    rw [← ar_eq, Bool.and_eq_true] at c1
    obtain ⟨k, hk, rfl⟩ := isW_0 (N := 9) rfl c1.2
    refine JO_mk (bs_X7_sets (d := 3) rfl (wx_Y hG) wx_W hk c1.1) (bs_X8_sets (d := 4) rfl (wm_N hG) rfl rfl hk c) (ways_eq hk _ _ _ _ _) ?_
    exact ⟨im, n, f, se, n2, f2, se2, m, x, tb, n3, F, g1, (fk (se 1) (v1 &&& (v2 ^^^ (-1))) v3 k g2), ln, mm, ft, at_, sz, rd, a, th, zf, lf, ims, D, t, ((stW (se 1) v1 v2 v3 w y).1), ((stW (se 1) v1 v2 v3 w y).2), nw, wo, co, nw2, wo2, co2, rfl, rfl, hG, hI, hT, hS⟩
theorem jo_surely {v1 v2 v3 v4 v5 : Int32} (h : INV hx hm) : JO yX7_surely yX8_surely [.int v1, .int v2, .int v3, .int v4, .int v5] hx hm := by
  have h0 := h
  obtain ⟨im, n, f, se, n2, f2, se2, m, x, tb, n3, F, g1, g2, ln, mm, ft, at_, sz, rd, a, th, zf, lf, ims, D, t, w, y, nw, wo, co, nw2, wo2, co2, rfl, rfl, hG, hI, hT, hS⟩ := h
  cases c : arM v1 v2 v3 v4 && isW v5 0 1
  · refine JO_mk (bs_X7_surely_bad (d := 6) ?_) (bs_X8_surely_bad (d := 4) c) rfl h0
    rw [← c, ← ar_eq, Bool.and_assoc]
  · rw [Bool.and_eq_true] at c
    have c1 := c.1
    rw [← ar_eq, Bool.and_eq_true] at c1
    obtain ⟨k, hk, rfl⟩ := isW_0 (N := 9) rfl c1.2
    have c2 := c1.1
    unfold arW at c2
    simp only [Bool.and_eq_true, decide_eq_true_eq] at c2
    obtain ⟨w1, w2, w3, w4⟩ := c2
    have ew := ways_eq (law := se 1) (lies := v3) hk v1 v2 g2 w y
    refine JO_mk (bs_X7_surely (d := 3) rfl (wx_Y hG) wx_W hk c1.1 c.2) (bs_X8_surely (d := 4) rfl (wm_N hG) rfl rfl hk c.1 c.2) ?_ ?_
    · rw [ew]
      by_cases z : r4 (stW (se 1) v1 v2 v3 w y).1 k = 0
      · rw [if_pos z, if_pos z]
      · rw [if_neg z, if_neg z]
        exact su_eq hk w3 w4 (st_cB hk v1 v2 w y).symm z 28 0 0 _ _ _ rfl
    · rw [ew]
      by_cases z : r4 (stW (se 1) v1 v2 v3 w y).1 k = 0
      · rw [if_pos z, if_pos z]
        exact ⟨im, n, f, se, n2, f2, se2, m, x, tb, n3, F, g1, (fk (se 1) (v1 &&& (v2 ^^^ (-1))) v3 k g2), ln, mm, ft, at_, sz, rd, a, th, zf, lf, ims, D, t, ((stW (se 1) v1 v2 v3 w y).1), ((stW (se 1) v1 v2 v3 w y).2), nw, wo, co, nw2, wo2, co2, rfl, rfl, hG, hI, hT, hS⟩
      · rw [if_neg z, if_neg z]
        generalize (suL (se 1) v1 v2 v3 k (if v5 = 0 then r4 (stW (se 1) v1 v2 v3 w y).1 k else 0) 28 0 0 (fk (se 1) (v1 &&& (v2 ^^^ (-1))) v3 k g2)).2 = A1
        generalize (smL (se 1) v1 v2 v3 v5 k 28 0 0 (stW (se 1) v1 v2 v3 w y).1 (stW (se 1) v1 v2 v3 w y).2) = A2
        exact ⟨im, n, f, se, n2, f2, se2, m, x, tb, n3, F, g1, A1, ln, mm, ft, at_, sz, rd, a, th, zf, lf, ims, D, t, A2.2.1, A2.2.2, nw, wo, co, nw2, wo2, co2, rfl, rfl, hG, hI, hT, hS⟩
end JB
