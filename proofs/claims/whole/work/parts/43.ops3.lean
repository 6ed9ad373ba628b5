/-! CALLS on sheets -/
section JD
variable {hx hm : List sm_C} {im : Int32} {n : Nat} {f se : Nat → Int32} {n2 : Nat} {f2 se2 : Nat → Int32} {m x : Nat} {tb : Nat → Int32} {n3 : Nat} {F g1 g2 ln mm : Nat → Int32} {ft : Nat → Nat → Int32} {zf lf ims : Nat → Int32}
theorem wx_sI {j : Nat} (hj : j < 4) (g : Nat → Int32) : (wx im n f se n2 f2 se2 m x tb n3 F g1 g2 ln mm ft).set (21 + 2 * j) (hI 28 g) = wx im n f se n2 f2 se2 m x tb n3 F g1 g2 ln mm (fun q => if q = j then g else ft q) := by
  rcases (by omega : j = 0 ∨ j = 1 ∨ j = 2 ∨ j = 3) with h | h | h | h <;> subst h <;> rfl
theorem wx_sO {j : Nat} (hj : j < 4) (l k : Int32) : (wx im n f se n2 f2 se2 m x tb n3 F g1 g2 ln mm ft).set (20 + 2 * j) (hO 2 [.ref (21 + 2 * j), .int l, .int k]) = wx im n f se n2 f2 se2 m x tb n3 F g1 g2 (upd ln j l) (upd mm j k) ft := by
  rcases (by omega : j = 0 ∨ j = 1 ∨ j = 2 ∨ j = 3) with h | h | h | h <;> subst h <;> rfl
theorem PG_i (hS : PG ln mm ft zf lf ims) {j : Nat} {g ims' : Nat → Int32} (hg : ∀ t, t < 28 → g t = ims' (28 * j + t)) (ho : ∀ q, q < 4 → q ≠ j → ∀ t, t < 28 → ims' (28 * q + t) = ims (28 * q + t)) : PG ln mm (fun q => if q = j then g else ft q) zf lf ims' := by
  intro q hq
  have h := hS q hq
  refine ⟨h.1, fun hl t ht => ?_⟩
  by_cases c : q = j
  · subst c
    show (if q = q then g else ft q) t = _
    rw [if_pos rfl]; exact hg t ht
  · show (if q = j then g else ft q) t = _
    rw [if_neg c, ho q hq c t ht]; exact h.2 hl t ht
theorem PG_o (hS : PG ln mm ft zf lf ims) {j : Nat} {l k z : Int32} (h1 : SH l k z l) (hg : ∀ t, t < 28 → ft j t = ims (28 * j + t)) : PG (upd ln j l) (upd mm j k) ft (upd zf j z) (upd lf j l) ims := by
  intro q hq
  by_cases c : q = j
  · subst c
    rw [upd_same, upd_same, upd_same, upd_same]
    exact ⟨h1, fun _ => hg⟩
  · rw [upd_ne _ _ c, upd_ne _ _ c, upd_ne _ _ c, upd_ne _ _ c]; exact hS q hq
theorem ix_out {i : Int32} (h : i < 0 ∨ 4 ≤ i) : isW i 0 3 = false := by
  rw [← Bool.not_eq_true, isW_i, i32_lit.1, i32_lit.2.2.2.1]
  rw [Int32.lt_iff_toInt_lt, Int32.le_iff_toInt_le, i32_lit.1, show (4 : Int32).toInt = 4 from rfl] at h
  omega
theorem ix_in {j : Nat} (h : j < 4) : isW (nI j) 0 3 = true := by
  rw [isW_i, i32_lit.1, i32_lit.2.2.2.1, nI_toInt (by omega)]; omega
theorem ix_4 (i : Int32) : (i < 0 ∨ 4 ≤ i) ∨ ∃ j : Nat, j < 4 ∧ i = nI j := by
  rcases pk_ix i (show 4 < 2 ^ 31 by decide) with h | h | h
  · exact Or.inl (Or.inl h)
  · exact Or.inl (Or.inr h)
  · exact Or.inr h
theorem jo_sheet {v1 v2 v3 : Int32} (h : INV hx hm) : JO yX7_sheet yX8_sheet [.int v1, .int v2, .int v3] hx hm := by
  have h0 := h
  obtain ⟨im, n, f, se, n2, f2, se2, m, x, tb, n3, F, g1, g2, ln, mm, ft, at_, sz, rd, a, th, zf, lf, ims, D, t, w, y, nw, wo, co, nw2, wo2, co2, rfl, rfl, hG, hI, hT, hS⟩ := h
  rcases ix_4 v1 with o | ⟨j, hj, rfl⟩
  · exact JO_mk (bs_X7_sheet_bad (d := 5) (j := 0) rfl rfl (Or.inl o)) (bs_X8_sheet_bad (d := 5) (Or.inl (by rw [ix_out o]; rfl))) rfl h0
  · by_cases c : isW v2 0 2 = false ∨ 28 < v3
    · refine JO_mk (bs_X7_sheet_bad (d := 5) (j := j) rfl rfl (Or.inr ⟨rfl, hj, c⟩)) (bs_X8_sheet_bad (d := 5) ?_) rfl h0
      rcases c with c | c
      · left; rw [c, Bool.and_false]
      · exact Or.inr c
    · have c1 : isW v2 0 2 = true := by
        cases q : isW v2 0 2
        · exact absurd (Or.inl q) c
        · rfl
      have c2 : v3 ≤ 28 := Int32.not_lt.mp (fun z => c (Or.inr z))
      have c3 : (isW (nI j) 0 3 && isW v2 0 2) = true := by rw [ix_in hj, c1]; rfl
      by_cases k0 : v3 < 0
      · exact JO_mk (bs_X7_sheet_neg (d := 5) rfl rfl hj c1 k0) (bs_X8_sheet_neg (d := 5) c3 k0) rfl h0
      · have k1 : 0 ≤ v3 := Int32.not_lt.mp k0
        have s := wx_s (im := im) (n := n) (f := f) (se := se) (n2 := n2) (f2 := f2) (se2 := se2) (m := m) (x := x) (tb := tb) (n3 := n3) (F := F) (g1 := g1) (g2 := g2) (ln := ln) (mm := mm) (ft := ft) hj
        refine JO_mk (bs_X7_sheet (d := 5) rfl rfl hj s.1 s.2 c1 k1 c2) (bs_X8_sheet (d := 5) rfl rfl rfl rfl hj c3 k1 c2) rfl ?_
        rw [wx_sI hj, wx_sO hj]
        obtain ⟨M, hM, e⟩ := nI_of2 (M := 28) (n := 28) rfl k0 c2
        have hS1 := PG_i hS (j := j) (g := zr 28 0 (ft j)) (ims' := zrI (28 * j) 28 0 ims) (fun t ht => by rw [zr_v, if_pos (by omega), zrI_v, if_pos (by omega)]) (fun q hq hne t ht => by rw [zrI_v, if_neg (by omega)])
        refine ⟨im, n, f, se, n2, f2, se2, m, x, tb, n3, F, g1, g2, (upd ln j v2), (upd mm j v3), (fun q => if q = j then zr 28 0 (ft j) else ft q), at_, sz, rd, a, th, (upd zf j v3), (upd lf j v2), (zrI (28 * j) 28 0 ims), D, t, w, y, nw, wo, co, nw2, wo2, co2, rfl, rfl, hG, hI, hT, PG_o hS1 (Or.inr ⟨M, hM, c1, rfl, e, e⟩) (fun t ht => ?_)⟩
        show (if j = j then zr 28 0 (ft j) else ft j) t = _
        rw [if_pos rfl, zr_v, if_pos (by omega), zrI_v, if_pos (by omega)]
theorem jo_drop {v1 : Int32} (h : INV hx hm) : JO yX7_drop yX8_drop [.int v1] hx hm := by
  have h0 := h
  obtain ⟨im, n, f, se, n2, f2, se2, m, x, tb, n3, F, g1, g2, ln, mm, ft, at_, sz, rd, a, th, zf, lf, ims, D, t, w, y, nw, wo, co, nw2, wo2, co2, rfl, rfl, hG, hI, hT, hS⟩ := h
  rcases ix_4 v1 with o | ⟨j, hj, rfl⟩
  · exact JO_mk (bs_X7_drop_bad (d := 5) rfl rfl o) (bs_X8_drop_bad (d := 5) (ix_out o)) rfl h0
  · have s := wx_s (im := im) (n := n) (f := f) (se := se) (n2 := n2) (f2 := f2) (se2 := se2) (m := m) (x := x) (tb := tb) (n3 := n3) (F := F) (g1 := g1) (g2 := g2) (ln := ln) (mm := mm) (ft := ft) hj
    have hj2 := hS j hj
    have e : (ln j = -1) ↔ zf j < 0 := by
      rcases hj2.1 with ⟨p, q⟩ | ⟨M, hM, hl, p, q, r⟩
      · rw [p, q]; decide
      · rw [p, r]; exact ⟨fun z => absurd z (ln_ne hl), fun z => absurd z (nI_pos (by omega))⟩
    refine JO_mk (bs_X7_drop (d := 5) rfl rfl hj s.1) (bs_X8_drop (d := 5) rfl rfl hj (ix_in hj)) ?_ ?_
    · by_cases c : zf j < 0
      · rw [if_pos c, if_pos (e.mpr c)]
      · rw [if_neg c, if_neg (fun z => c (e.mp z))]
        rcases hj2.1 with ⟨p, q⟩ | ⟨M, hM, hl, p, q, r⟩
        · exact absurd (e.mp p) c
        · rw [q, r]
    · by_cases c : zf j < 0
      · rw [if_pos c, if_pos (e.mpr c)]; exact h0
      · rw [if_neg c, if_neg (fun z => c (e.mp z)), wx_sO hj]
        refine ⟨im, n, f, se, n2, f2, se2, m, x, tb, n3, F, g1, g2, (upd ln j (-1)), (upd mm j 0), ft, at_, sz, rd, a, th, (upd zf j (-1)), lf, ims, D, t, w, y, nw, wo, co, nw2, wo2, co2, rfl, rfl, hG, hI, hT, fun q hq => ?_⟩
        by_cases z : q = j
        · subst z
          rw [upd_same, upd_same, upd_same]
          exact ⟨Or.inl ⟨rfl, rfl⟩, fun q => absurd rfl q⟩
        · rw [upd_ne _ _ z, upd_ne _ _ z, upd_ne _ _ z]; exact hS q hq
theorem jo_item {v1 v2 v3 v4 : Int32} (h : INV hx hm) : JO yX7_item yX8_item [.int v1, .int v2, .int v3, .int v4] hx hm := by
  have h0 := h
  obtain ⟨im, n, f, se, n2, f2, se2, m, x, tb, n3, F, g1, g2, ln, mm, ft, at_, sz, rd, a, th, zf, lf, ims, D, t, w, y, nw, wo, co, nw2, wo2, co2, rfl, rfl, hG, hI, hT, hS⟩ := h
  rcases ix_4 v1 with o | ⟨j, hj, rfl⟩
  · exact JO_mk (bs_X7_item_bad (d := 5) (j := 0) rfl rfl (Or.inl o)) (bs_X8_item_bad (d := 5) (by rw [ix_out o]; rfl)) rfl h0
  · cases c : isW v2 0 2
    · exact JO_mk (bs_X7_item_bad (d := 5) (j := j) rfl rfl (Or.inr ⟨rfl, hj, c⟩)) (bs_X8_item_bad (d := 5) (by rw [c, Bool.and_false])) rfl h0
    · have c3 : (isW (nI j) 0 3 && isW v2 0 2) = true := by rw [ix_in hj, c]; rfl
      have s := wx_s (im := im) (n := n) (f := f) (se := se) (n2 := n2) (f2 := f2) (se2 := se2) (m := m) (x := x) (tb := tb) (n3 := n3) (F := F) (g1 := g1) (g2 := g2) (ln := ln) (mm := mm) (ft := ft) hj
      have hj2 := hS j hj
      have e := fd_eq (l := v2) (x := v3) (y := 1) hj2.1 (by decide)
      rcases fd_0 (z := zf j) (lf := lf j) (l := v2) (x := v3) (y := 1) with z | z
      · have z2 := z
        rw [← e] at z2
        obtain ⟨q1, q2, q3, M, A, hM, q4, q5, rfl, q6⟩ := fd_in hj2.1 (by decide) z2
        rw [i32_lit.2.1] at q6
        refine JO_mk (bs_X7_item (d := 4) rfl rfl hj s.1 s.2 c z2 (show A < 28 by omega)) (bs_X8_item (d := 5) rfl rfl rfl rfl hj c3 (by rw [z]; decide) (show A < 28 by omega)) rfl ?_
        rw [wx_sI hj]
        refine ⟨im, n, f, se, n2, f2, se2, m, x, tb, n3, F, g1, g2, ln, mm, (fun q => if q = j then upd (ft j) A (nrw (ln j) v4) else ft q), at_, sz, rd, a, th, zf, lf, (upd ims (28 * j + A) (nrw v2 v4)), D, t, w, y, nw, wo, co, nw2, wo2, co2, rfl, rfl, hG, hI, hT, PG_i hS (fun t ht => ?_) (fun q hq hne t ht => ?_)⟩
        · rw [q1]
          by_cases w : t = A
          · subst w; rw [upd_same, upd_same]
          · rw [upd_ne _ _ w, upd_ne _ _ (by omega)]
            exact hj2.2 (by rw [q1]; exact ln_ne c) t ht
        · rw [upd_ne _ _ (by omega)]
      · exact JO_mk (bs_X7_item_ref (d := 5) rfl rfl hj s.1 c (by rw [e]; exact Int32.ne_of_lt z)) (bs_X8_item_ref (d := 5) rfl rfl rfl hj c3 z) e h0
theorem jdM_sh {g : Nat → Int32} {n q p : Nat} : ∀ (j k : Nat) (s : Int32), jdM g n (q + p) j k s = jdM g n q j (p + k) s
  | 0, _, _ => rfl
  | j + 1, k, s => by rw [jdM, jdM, jdM_sh j (k + 1), Nat.add_assoc]; rfl
theorem jo_judged {v1 v2 v3 v4 : Int32} (h : INV hx hm) : JO yX7_judged yX8_judged [.int v1, .int v2, .int v3, .int v4] hx hm := by
  have h0 := h
  obtain ⟨im, n, f, se, n2, f2, se2, m, x, tb, n3, F, g1, g2, ln, mm, ft, at_, sz, rd, a, th, zf, lf, ims, D, t, w, y, nw, wo, co, nw2, wo2, co2, rfl, rfl, hG, hI, hT, hS⟩ := h
  have hn := hG.1
  rcases ix_4 v1 with o | ⟨j, hj, rfl⟩
  · exact JO_mk (bs_X7_judged_bad (d := 5) (j := 0) rfl rfl (Or.inl o)) (bs_X8_judged_bad (d := 4) (by rw [ix_out o]; rfl)) rfl h0
  · cases c : isW v2 0 2 && isW v4 0 9
    · exact JO_mk (bs_X7_judged_bad (d := 5) (j := j) rfl rfl (Or.inr ⟨rfl, hj, c⟩)) (bs_X8_judged_bad (d := 4) (by rw [ix_in hj, Bool.true_and, c])) rfl h0
    · have c0 := c
      rw [Bool.and_eq_true] at c
      have c3 : ((isW (nI j) 0 3 && isW v2 0 2) && isW v4 0 9) = true := by rw [ix_in hj, Bool.true_and, c0]
      obtain ⟨k, hk, rfl⟩ := isW_0 (N := 9) rfl c.2
      have s := wx_s (im := im) (n := n) (f := f) (se := se) (n2 := n2) (f2 := f2) (se2 := se2) (m := m) (x := x) (tb := tb) (n3 := n3) (F := F) (g1 := g1) (g2 := g2) (ln := ln) (mm := mm) (ft := ft) hj
      have hj2 := hS j hj
      have e := fd_eq (l := v2) (x := v3) (y := nI k) hj2.1 (nI_pos (by omega))
      rcases fd_0 (z := zf j) (lf := lf j) (l := v2) (x := v3) (y := nI k) with z | z
      · have z2 := z
        rw [← e] at z2
        obtain ⟨q1, q2, q3, M, A, hM, q4, q5, rfl, q6⟩ := fd_in hj2.1 (nI_pos (by omega)) z2
        rw [nI_toInt (by omega)] at q6
        refine JO_mk (bs_X7_judged (d := 2) rfl (wx_Y hG) rfl hj s.1 s.2 c.1 c.2 z2 (show A + k ≤ 28 by omega)) (bs_X8_judged (d := 4) rfl (wm_N hG) rfl rfl rfl hj c3 (by rw [z]; decide) (show A + k ≤ 28 by omega)) ?_ h0
        rw [jdM_sh, Nat.add_zero]
        have hr := rd_eq (f := ft j) (g := ims) (q := 28 * j) hn k A 0 0 (fun t t1 t2 => hj2.2 (by rw [q1]; exact ln_ne c.1) t (by omega)) (by decide) (fun z => absurd z (by decide)) (Nat.zero_le _)
        rcases hr with ⟨s', r1, r2, r3⟩ | ⟨r1, r2⟩
        · have e1 := rf_eq hG s'
          rw [iSe_n hn, if_pos (decide_eq_true r3)] at e1
          rw [show (-1 : Int32) = pm 0 from rfl, r2, if_neg (un_m2 hn r3), r1, e1]
          simp only
          by_cases c2 : wrM (se 1) s' nw n 0 (se 0) = -4
          · rw [if_pos c2, if_pos c2, if_pos rfl, gn_eq _ _ _ (by omega), lft_0]
          · rw [if_neg c2, if_neg c2]; rfl
        · rw [show (-1 : Int32) = pm 0 from rfl, r2, if_pos rfl, r1]
      · exact JO_mk (bs_X7_judged_ref (d := 5) rfl rfl hj s.1 c.1 c.2 (by rw [e]; exact Int32.ne_of_lt z)) (bs_X8_judged_ref (d := 4) rfl rfl rfl hj c3 z) (by rw [e]) h0
theorem jo_film {v1 v2 v3 v4 : Int32} (h : INV hx hm) : JO yX7_film yX8_film [.int v1, .int v2, .int v3, .int v4] hx hm := by
  have h0 := h
  obtain ⟨im, n, f, se, n2, f2, se2, m, x, tb, n3, F, g1, g2, ln, mm, ft, at_, sz, rd, a, th, zf, lf, ims, D, t, w, y, nw, wo, co, nw2, wo2, co2, rfl, rfl, hG, hI, hT, hS⟩ := h
  have hn := hG.1
  rcases ix_4 v2 with o | ⟨j, hj, rfl⟩
  · exact JO_mk (bs_X7_film_bad (d := 5) (j := 0) rfl rfl (Or.inl o)) (bs_X8_film_bad (d := 4) rfl (wm_N hG) (by rw [ix_out o]; simp)) rfl h0
  · cases c : isW v3 0 2
    · exact JO_mk (bs_X7_film_bad (d := 5) (j := j) rfl rfl (Or.inr ⟨rfl, hj, c⟩)) (bs_X8_film_bad (d := 4) rfl (wm_N hG) (by rw [c]; simp)) rfl h0
    · have e1 := rf_eq hG v1
      cases ci : iSe n v1
      · rw [ci, if_neg (by decide)] at e1
        exact JO_mk (bs_X7_film_not (d := 2) rfl (wx_Y hG) rfl hj c (by rw [e1]; decide)) (bs_X8_film_bad (d := 4) rfl (wm_N hG) (by rw [ci]; rfl)) e1 h0
      · rw [ci, if_pos rfl] at e1
        have c3 : (iSe n v1 && (isW (nI j) 0 3 && isW v3 0 2)) = true := by rw [ci, ix_in hj, c]; rfl
        by_cases cw : wrM (se 1) v1 nw n 0 (se 0) = -4
        · rw [if_pos cw] at e1
          have s := wx_s (im := im) (n := n) (f := f) (se := se) (n2 := n2) (f2 := f2) (se2 := se2) (m := m) (x := x) (tb := tb) (n3 := n3) (F := F) (g1 := g1) (g2 := g2) (ln := ln) (mm := mm) (ft := ft) hj
          have hj2 := hS j hj
          have e := fd_eq (l := v3) (x := v4) (y := nI n) hj2.1 (nI_pos (by omega))
          rcases fd_0 (z := zf j) (lf := lf j) (l := v3) (x := v4) (y := nI n) with z | z
          · have z2 := z
            rw [← e] at z2
            obtain ⟨q1, q2, q3, M, A, hM, q4, q5, rfl, q6⟩ := fd_in hj2.1 (nI_pos (by omega)) z2
            rw [nI_toInt (by omega)] at q6
            refine JO_mk (bs_X7_film (d := 2) rfl (wx_Y hG) rfl hj s.1 s.2 c e1 z2 (show A + n ≤ 28 by omega)) (bs_X8_film (d := 4) rfl (wm_N hG) rfl rfl rfl hj c3 cw (by rw [z]; decide) (show A + n ≤ 28 by omega)) rfl ?_
            rw [wx_sI hj]
            have hf := fm_eq (n := n) (nw := nw) (wo := wo) (co := co) (lies := se 0) (trust := se 2) (s := v1) (lane := ln j) (k := A) (Q := 28 * j) (fun i _ => (hG.2.2.1 i).2) hn (by omega) n 0 (ft j) ims (by omega) (fun t ht => hj2.2 (by rw [q1]; exact ln_ne c) t ht)
            rw [lft_0] at hf
            exact ⟨im, n, f, se, n2, f2, se2, m, x, tb, n3, F, g1, g2, ln, mm, (fun q => if q = j then fmG n nw wo co (se 0) (se 2) v1 (ln j) A n 0 (ft j) else ft q), at_, sz, rd, a, th, zf, lf, (fmI n nw wo co (se 2) v1 (28 * j + A) n 0 (se 0) ims), D, t, w, y, nw, wo, co, nw2, wo2, co2, rfl, rfl, hG, hI, hT, PG_i hS hf.1 (fun q hq hne t ht => hf.2 _ (by omega))⟩
          · exact JO_mk (bs_X7_film_ref (d := 2) rfl (wx_Y hG) rfl hj s.1 c e1 (by rw [e]; exact Int32.ne_of_lt z)) (bs_X8_film_ref (d := 4) rfl (wm_N hG) rfl rfl hj c3 cw z) e h0
        · rw [if_neg cw] at e1
          exact JO_mk (bs_X7_film_not (d := 2) rfl (wx_Y hG) rfl hj c (by rw [e1]; decide)) (bs_X8_film_not (d := 4) rfl (wm_N hG) c3 cw) e1 h0
theorem jo_copy {v1 v2 v3 v4 v5 : Int32} (h : INV hx hm) : JO yX7_copy yX8_copy [.int v1, .int v2, .int v3, .int v4, .int v5] hx hm := by
  have h0 := h
  obtain ⟨im, n, f, se, n2, f2, se2, m, x, tb, n3, F, g1, g2, ln, mm, ft, at_, sz, rd, a, th, zf, lf, ims, D, t, w, y, nw, wo, co, nw2, wo2, co2, rfl, rfl, hG, hI, hT, hS⟩ := h
  rcases ix_4 v1 with o | ⟨q, hq, rfl⟩
  · exact JO_mk (bs_X7_copy_bad (d := 5) (q := 0) rfl rfl (Or.inl o) (ix_4 v3)) (bs_X8_copy_bad (d := 4) (by rw [ix_out o]; rfl)) rfl h0
  · rcases ix_4 v3 with o | ⟨r, hr, rfl⟩
    · exact JO_mk (bs_X7_copy_bad (d := 5) (q := q) rfl rfl (Or.inr ⟨rfl, hq, o⟩) (Or.inl o)) (bs_X8_copy_bad (d := 4) (by rw [ix_out o, Bool.and_false])) rfl h0
    · have c3 : (isW (nI q) 0 3 && isW (nI r) 0 3) = true := by rw [ix_in hq, ix_in hr]; rfl
      have s := wx_s (im := im) (n := n) (f := f) (se := se) (n2 := n2) (f2 := f2) (se2 := se2) (m := m) (x := x) (tb := tb) (n3 := n3) (F := F) (g1 := g1) (g2 := g2) (ln := ln) (mm := mm) (ft := ft) hq
      have s2 := wx_s (im := im) (n := n) (f := f) (se := se) (n2 := n2) (f2 := f2) (se2 := se2) (m := m) (x := x) (tb := tb) (n3 := n3) (F := F) (g1 := g1) (g2 := g2) (ln := ln) (mm := mm) (ft := ft) hr
      have h1 := hS q hq
      have h2 := hS r hr
      have e := cp_eq (i := v2) (j := v4) (k := v5) h1.1 h2.1
      by_cases z : cpR (ln q) (mm q) (ln r) (mm r) v2 v4 v5 = 0
      · have z2 := z
        unfold cpR at z2
        by_cases d1 : ln q = -1 ∨ ln r = -1
        · rw [if_pos d1] at z2; exact absurd z2 (by decide)
        rw [if_neg d1] at z2
        have d2 : ln q = ln r := Classical.byContradiction (fun w => by rw [if_neg w] at z2; exact absurd z2 (by decide))
        rw [if_pos d2] at z2
        have d3 : (cov (mm q) v2 v5 && cov (mm r) v4 v5) = true := by
          cases w : cov (mm q) v2 v5 && cov (mm r) v4 v5
          · rw [w] at z2; exact absurd z2 (by decide)
          · rfl
        rw [Bool.and_eq_true] at d3
        have k0 : ¬ v5 < 0 := by
          intro w
          have := d3.1
          unfold cov at this
          rw [decide_eq_true w] at this
          cases this
        have n1 : ¬ ln q = -1 := fun w => d1 (Or.inl w)
        have n2' : ¬ ln r = -1 := fun w => d1 (Or.inr w)
        obtain ⟨p1, p2, p3, M1, A, hM1, p4, p5, rfl, p6⟩ := fd_in (l := ln q) (x := v2) (y := v5) h1.1 k0 (by unfold shR; rw [if_neg n1, if_pos rfl, d3.1]; rfl)
        obtain ⟨q1, q2, q3, M2, B, hM2, q4, q5, rfl, q6⟩ := fd_in (l := ln r) (x := v4) (y := v5) h2.1 k0 (by unfold shR; rw [if_neg n2', if_pos rfl, d3.2]; rfl)
        obtain ⟨K, hK, rfl⟩ := nI_of k0
        rw [nI_toInt hK] at p6 q6
        refine JO_mk (bs_X7_copy (d := 5) rfl rfl hq hr s.1 s.2 s2.1 s2.2 n1 n2' d2 d3.1 d3.2 (show A + K ≤ 28 by omega) (show B + K ≤ 28 by omega)) (bs_X8_copy (d := 4) rfl rfl rfl rfl hq hr c3 (by rw [← e]; exact z) (show A + K ≤ 28 by omega) (show B + K ≤ 28 by omega)) rfl ?_
        rw [wx_sI hr]
        refine ⟨im, n, f, se, n2, f2, se2, m, x, tb, n3, F, g1, g2, ln, mm, (fun z => if z = r then va_cpy (ft q) (ft r) A B K else ft z), at_, sz, rd, a, th, zf, lf, (cyM K (decide (A < B)) (28 * q + A) (28 * r + B) K 0 ims), D, t, w, y, nw, wo, co, nw2, wo2, co2, rfl, rfl, hG, hI, hT, PG_i hS (fun t ht => ?_) (fun z hz hne t ht => ?_)⟩
        · rw [cy_v ims (by omega) (by omega)]
          by_cases w : B ≤ t ∧ t < B + K
          · rw [pk_cpy_in w.1 w.2, if_pos (by omega), h1.2 n1 _ (by omega)]
            congr 1; omega
          · rw [pk_cpy_out (by omega), if_neg (by omega)]
            exact h2.2 n2' t ht
        · rw [cy_v ims (by omega) (by omega), if_neg (by omega)]
      · exact JO_mk (bs_X7_copy_ref (d := 5) rfl rfl hq hr s.1 s2.1 z) (bs_X8_copy_ref (d := 4) rfl rfl rfl hq hr c3 (by rw [← e]; exact z)) e h0
end JD
