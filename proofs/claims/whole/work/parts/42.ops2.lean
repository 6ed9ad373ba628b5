/-! CALLS that change days and tape; images -/
theorem cpY_v : ∀ (j i : Nat) (a D : Nat → Int32) (q : Nat), i + j ≤ 28 → cpY j i a D q = if 5 + i ≤ q ∧ q < 5 + i + j then D (q - 5) else if 33 + i ≤ q ∧ q < 33 + i + j then D (q - 5) else if 61 + i ≤ q ∧ q < 61 + i + j then D (q - 5) else a q
  | 0, i, a, D, q, _ => by rw [cpY, if_neg (by omega), if_neg (by omega), if_neg (by omega)]
  | j + 1, i, a, D, q, h => by
    rw [cpY, cpY_v j (i + 1) _ _ q (by omega)]
    by_cases h1 : q = 5 + i
    · subst h1
      rw [if_neg (by omega), if_neg (by omega), if_neg (by omega), upd_ne _ _ (by omega), upd_ne _ _ (by omega), upd_same, if_pos (by omega)]
      congr 1; omega
    by_cases h2 : q = 33 + i
    · subst h2
      rw [if_neg (by omega), if_neg (by omega), if_neg (by omega), upd_ne _ _ (by omega), upd_same, if_neg (by omega), if_pos (by omega)]
      congr 1; omega
    by_cases h3 : q = 61 + i
    · subst h3
      rw [if_neg (by omega), if_neg (by omega), if_neg (by omega), upd_same, if_neg (by omega), if_neg (by omega), if_pos (by omega)]
      congr 1; omega
    rw [upd_ne _ _ h3, upd_ne _ _ h2, upd_ne _ _ h1]
    by_cases c1 : 5 + i ≤ q ∧ q < 5 + i + (j + 1)
    · rw [if_pos (by omega), if_pos c1]
    rw [if_neg (by omega), if_neg c1]
    by_cases c2 : 33 + i ≤ q ∧ q < 33 + i + (j + 1)
    · rw [if_pos (by omega), if_pos c2]
    rw [if_neg (by omega), if_neg c2]
    by_cases c3 : 61 + i ≤ q ∧ q < 61 + i + (j + 1)
    · rw [if_pos (by omega), if_pos c3]
    rw [if_neg (by omega), if_neg c3]
theorem apn_v (w : Int64) : ∀ (r : Nat) (f : Nat → Int32) (m q : Nat), apn w r f m q = if m ≤ q ∧ q < m + r then byt w (r - 1 - (q - m)) else f q
  | 0, f, m, q => by rw [apn, if_neg (by omega)]
  | r + 1, f, m, q => by
    rw [apn, apn_v w r]
    by_cases h1 : q = m
    · subst h1
      rw [if_neg (by omega), upd_same, if_pos (by omega)]
      congr 1; omega
    · rw [upd_ne _ _ h1]
      by_cases h2 : m + 1 ≤ q ∧ q < m + 1 + r
      · rw [if_pos h2, if_pos (by omega)]
        congr 1; omega
      · rw [if_neg h2, if_neg (by omega)]
theorem tbA_v (w : Int64) : ∀ (j i : Nat), tbA w j i = true → ∀ b, i ≤ b → b < i + j → isW (byt w b) 32 126 = true
  | 0, i, _, b, h1, h2 => absurd h1 (by omega)
  | j + 1, i, h, b, h1, h2 => by
    rw [tbA, Bool.and_eq_true] at h
    by_cases c : b = i
    · rw [c]; exact h.1
    · exact tbA_v w j (i + 1) h.2 b (by omega) (by omega)
section JC
variable {hx hm : List sm_C} {n : Nat} {f a nw wo co se f2 a2 se2 : Nat → Int32}
theorem GD_copy (hG : GD n f a nw wo co se) (h1 : ∀ q, q < 84 → f2 q = f q) (h2 : ∀ q, q < 89 → a2 q = a q) (h3 : ∀ q, q < 4 → se2 q = se q) : GD n f2 a2 nw wo co se2 := by
  obtain ⟨k1, k2, k3, k4, ⟨s0, s1, s2, s3⟩, k6, k7, k8, k9⟩ := hG
  refine ⟨k1, fun i hi => ?_, k3, by rw [h2 4 (by decide)]; exact k4, ?_, by rw [h3 0 (by decide)]; exact k6, by rw [h3 1 (by decide)]; exact k7, by rw [h3 2 (by decide)]; exact k8, by rw [h3 3 (by decide)]; exact k9⟩
  · rw [h1 _ (by omega), h1 _ (by omega), h1 _ (by omega), h2 _ (by omega), h2 _ (by omega), h2 _ (by omega)]
    exact k2 i hi
  · rw [h2 0 (by decide), h2 1 (by decide), h2 2 (by decide), h2 3 (by decide), h3 0 (by decide), h3 1 (by decide), h3 2 (by decide), h3 3 (by decide)]
    exact ⟨s0, s1, s2, s3⟩
theorem GD_day (hG : GD n f a nw wo co se) (hn : n < 28) {x y z : Int32} (hx : x = 0 ∨ x = 1) (hy : isW y 0 99 = true) (hz : isW z 0 99 = true) : GD (n + 1) (upd (upd (upd f (n * 3 + 0) x) (n * 3 + 1) y) (n * 3 + 2) z) (upd (upd (upd (upd a (5 + n) x) (33 + n) y) (61 + n) z) 4 (nI (n + 1))) (upd nw n x) (upd wo n y) (upd co n z) se := by
  obtain ⟨k1, k2, k3, k4, ⟨s0, s1, s2, s3⟩, k6⟩ := hG
  refine ⟨by omega, fun i hi => ?_, fun i => ?_, upd_same _ _ _, ?_, k6⟩
  · by_cases c : i = n
    · subst c
      rw [Nat.add_zero, upd_same, upd_same, upd_same, upd_same]
      rw [upd_ne _ _ (show i * 3 ≠ i * 3 + 2 by omega), upd_ne _ _ (show i * 3 ≠ i * 3 + 1 by omega), upd_same, upd_ne _ _ (show i * 3 + 1 ≠ i * 3 + 2 by omega), upd_same]
      rw [upd_ne _ _ (show 5 + i ≠ 4 by omega), upd_ne _ _ (show 5 + i ≠ 61 + i by omega), upd_ne _ _ (show 5 + i ≠ 33 + i by omega), upd_same]
      rw [upd_ne _ _ (show 33 + i ≠ 4 by omega), upd_ne _ _ (show 33 + i ≠ 61 + i by omega), upd_same]
      rw [upd_ne _ _ (show 61 + i ≠ 4 by omega), upd_same]
      exact ⟨⟨rfl, rfl, rfl⟩, rfl, rfl, rfl⟩
    · have hi2 : i < n := by omega
      rw [Nat.add_zero, upd_ne nw _ c, upd_ne wo _ c, upd_ne co _ c]
      rw [upd_ne _ _ (show i * 3 ≠ n * 3 + 2 by omega), upd_ne _ _ (show i * 3 ≠ n * 3 + 1 by omega), upd_ne _ _ (show i * 3 ≠ n * 3 by omega), upd_ne _ _ (show i * 3 + 1 ≠ n * 3 + 2 by omega), upd_ne _ _ (show i * 3 + 1 ≠ n * 3 + 1 by omega), upd_ne _ _ (show i * 3 + 1 ≠ n * 3 by omega), upd_ne _ _ (show i * 3 + 2 ≠ n * 3 + 2 by omega), upd_ne _ _ (show i * 3 + 2 ≠ n * 3 + 1 by omega), upd_ne _ _ (show i * 3 + 2 ≠ n * 3 by omega)]
      rw [upd_ne _ _ (show 5 + i ≠ 4 by omega), upd_ne _ _ (show 5 + i ≠ 61 + n by omega), upd_ne _ _ (show 5 + i ≠ 33 + n by omega), upd_ne _ _ (show 5 + i ≠ 5 + n by omega), upd_ne _ _ (show 33 + i ≠ 4 by omega), upd_ne _ _ (show 33 + i ≠ 61 + n by omega), upd_ne _ _ (show 33 + i ≠ 33 + n by omega), upd_ne _ _ (show 33 + i ≠ 5 + n by omega), upd_ne _ _ (show 61 + i ≠ 4 by omega), upd_ne _ _ (show 61 + i ≠ 61 + n by omega), upd_ne _ _ (show 61 + i ≠ 33 + n by omega), upd_ne _ _ (show 61 + i ≠ 5 + n by omega)]
      exact k2 i hi2
  · by_cases c : i = n
    · subst c; rw [upd_same, upd_same, upd_same]; exact ⟨hx, hy, hz⟩
    · rw [upd_ne _ _ c, upd_ne _ _ c, upd_ne _ _ c]; exact k3 i
  · have e : ∀ q, q < 4 → upd (upd (upd (upd a (5 + n) x) (33 + n) y) (61 + n) z) 4 (nI (n + 1)) q = a q := fun q hq => by rw [upd_ne _ _ (by omega), upd_ne _ _ (by omega), upd_ne _ _ (by omega), upd_ne _ _ (by omega)]
    rw [e 0 (by decide), e 1 (by decide), e 2 (by decide), e 3 (by decide)]
    exact ⟨s0, s1, s2, s3⟩
theorem GD_alter (hG : GD n f a nw wo co se) {i w : Nat} {v : Int32} (hi : i < n) (hw : w < 3) (h0 : w = 0 → v = 0 ∨ v = 1) (h1 : 0 < w → isW v 0 99 = true) : GD n (upd f (i * 3 + w) v) (upd a (5 + 28 * w + i) v) (if w = 0 then upd nw i v else nw) (if w = 1 then upd wo i v else wo) (if w = 2 then upd co i v else co) se := by
  obtain ⟨k1, k2, k3, k4, ⟨s0, s1, s2, s3⟩, k6⟩ := hG
  refine ⟨k1, fun k hk => ?_, fun k => ?_, by rw [upd_ne _ _ (by omega)]; exact k4, ?_, k6⟩
  · have hk2 := k2 k hk
    by_cases c : k = i
    · subst c
      rcases (by omega : w = 0 ∨ w = 1 ∨ w = 2) with z | z | z <;> subst z
      · simp only [if_true, if_neg (show ¬ 0 = 1 by decide), if_neg (show ¬ 0 = 2 by decide)]
        rw [Nat.add_zero, upd_same, upd_same, upd_ne _ _ (show k * 3 + 1 ≠ k * 3 by omega), upd_ne _ _ (show k * 3 + 2 ≠ k * 3 by omega), show 5 + 28 * 0 + k = 5 + k by omega, upd_same, upd_ne _ _ (show 33 + k ≠ 5 + k by omega), upd_ne _ _ (show 61 + k ≠ 5 + k by omega)]
        exact ⟨⟨rfl, hk2.1.2⟩, rfl, hk2.2.2⟩
      · simp only [if_true, if_neg (show ¬ 1 = 0 by decide), if_neg (show ¬ 1 = 2 by decide)]
        rw [upd_same, upd_same, upd_ne _ _ (show k * 3 ≠ k * 3 + 1 by omega), upd_ne _ _ (show k * 3 + 2 ≠ k * 3 + 1 by omega), show 5 + 28 * 1 + k = 33 + k by omega, upd_same, upd_ne _ _ (show 5 + k ≠ 33 + k by omega), upd_ne _ _ (show 61 + k ≠ 33 + k by omega)]
        exact ⟨⟨hk2.1.1, rfl, hk2.1.2.2⟩, hk2.2.1, rfl, hk2.2.2.2⟩
      · simp only [if_true, if_neg (show ¬ 2 = 0 by decide), if_neg (show ¬ 2 = 1 by decide)]
        rw [upd_same, upd_same, upd_ne _ _ (show k * 3 ≠ k * 3 + 2 by omega), upd_ne _ _ (show k * 3 + 1 ≠ k * 3 + 2 by omega), show 5 + 28 * 2 + k = 61 + k by omega, upd_same, upd_ne _ _ (show 5 + k ≠ 61 + k by omega), upd_ne _ _ (show 33 + k ≠ 61 + k by omega)]
        exact ⟨⟨hk2.1.1, hk2.1.2.1, rfl⟩, hk2.2.1, hk2.2.2.1, rfl⟩
    · have e1 : (if w = 0 then upd nw i v else nw) k = nw k := by split; exact upd_ne _ _ c; rfl
      have e2 : (if w = 1 then upd wo i v else wo) k = wo k := by split; exact upd_ne _ _ c; rfl
      have e3 : (if w = 2 then upd co i v else co) k = co k := by split; exact upd_ne _ _ c; rfl
      rw [e1, e2, e3, upd_ne _ _ (by omega), upd_ne _ _ (by omega), upd_ne _ _ (by omega), upd_ne _ _ (by omega), upd_ne _ _ (by omega), upd_ne _ _ (by omega)]
      exact hk2
  · have hk3 := k3 k
    refine ⟨?_, ?_, ?_⟩
    · split
      · rename_i z
        by_cases c : k = i
        · subst c; rw [upd_same]; exact h0 z
        · rw [upd_ne _ _ c]; exact hk3.1
      · exact hk3.1
    · split
      · rename_i z
        by_cases c : k = i
        · subst c; rw [upd_same]; exact h1 (by omega)
        · rw [upd_ne _ _ c]; exact hk3.2.1
      · exact hk3.2.1
    · split
      · rename_i z
        by_cases c : k = i
        · subst c; rw [upd_same]; exact h1 (by omega)
        · rw [upd_ne _ _ c]; exact hk3.2.2
      · exact hk3.2.2
  · rw [upd_ne _ _ (by omega), upd_ne _ _ (by omega), upd_ne _ _ (by omega), upd_ne _ _ (by omega)]
    exact ⟨s0, s1, s2, s3⟩
theorem isW_01 {v : Int32} (h : isW v 0 1 = true) : v = 0 ∨ v = 1 := by
  obtain ⟨k, hk, rfl⟩ := isW_0 (N := 1) rfl h
  rcases (by omega : k = 0 ∨ k = 1) with z | z <;> subst z
  · exact Or.inl rfl
  · exact Or.inr rfl
theorem dy_n {i : Int32} (hn : n ≤ 28) (h : isW i 0 (nI n - 1) = true) : ∃ k, k < n ∧ i = nI k := by
  rw [← dy_eq hn] at h
  simp only [Bool.and_eq_true, Bool.not_eq_true', decide_eq_false_iff_not] at h
  rcases pk_ix i (show n < 2 ^ 31 by omega) with q | q | q
  · exact absurd q h.1
  · exact absurd q h.2
  · exact q
theorem GD_tell (hG : GD n f a nw wo co se) {i w : Nat} (hi : i < n) (hw : w < 3) : f (i * 3 + w) = a (5 + 28 * w + i) := by
  have h := hG.2.1 i hi
  rcases (by omega : w = 0 ∨ w = 1 ∨ w = 2) with z | z | z <;> subst z
  · rw [Nat.add_zero, show 5 + 28 * 0 + i = 5 + i by omega, h.1.1, h.2.1]
  · rw [show 5 + 28 * 1 + i = 33 + i by omega, h.1.2.1, h.2.2.1]
  · rw [show 5 + 28 * 2 + i = 61 + i by omega, h.1.2.2, h.2.2.2]
theorem jo_told {v1 v2 : Int32} (h : INV hx hm) : JO yX7_told yX8_told [.int v1, .int v2] hx hm := by
  have h0 := h
  obtain ⟨im, n, f, se, n2, f2, se2, m, x, tb, n3, F, g1, g2, ln, mm, ft, at_, sz, rd, a, th, zf, lf, ims, D, t, w, y, nw, wo, co, nw2, wo2, co2, rfl, rfl, hG, hI, hT, hS⟩ := h
  have hn := hG.1
  cases c : isW v1 0 (nI n - 1) && isW v2 0 2
  · exact JO_mk (bs_X7_told_bad (d := 5) rfl (wx_Y hG) (by rw [dy_eq hn]; exact c)) (bs_X8_told_bad (d := 5) rfl (wm_N hG) c) rfl h0
  · have c1 := c
    rw [Bool.and_eq_true] at c1
    obtain ⟨i, hi, rfl⟩ := dy_n hn c1.1
    obtain ⟨k, hk, rfl⟩ := isW_0 (N := 2) rfl c1.2
    exact JO_mk (bs_X7_told (d := 4) rfl (wx_Y hG) rfl hi (show k < 3 by omega)) (bs_X8_told (d := 5) rfl (wm_N hG) c hi (show k < 3 by omega)) (GD_tell hG hi (by omega)) h0
theorem jo_alter {v1 v2 v3 : Int32} (h : INV hx hm) : JO yX7_alter yX8_alter [.int v1, .int v2, .int v3] hx hm := by
  have h0 := h
  obtain ⟨im, n, f, se, n2, f2, se2, m, x, tb, n3, F, g1, g2, ln, mm, ft, at_, sz, rd, a, th, zf, lf, ims, D, t, w, y, nw, wo, co, nw2, wo2, co2, rfl, rfl, hG, hI, hT, hS⟩ := h
  have hn := hG.1
  cases c : isW v1 0 (nI n - 1) && (if v2 = 0 then isW v3 0 1 else isW v2 1 2 && isW v3 0 99)
  · exact JO_mk (bs_X7_alter_bad (d := 5) rfl (wx_Y hG) (by rw [dy_eq hn, th_of]; exact c)) (bs_X8_alter_bad (d := 5) rfl (wm_N hG) c) rfl h0
  · have c1 := c
    rw [Bool.and_eq_true] at c1
    obtain ⟨i, hi, rfl⟩ := dy_n hn c1.1
    have c2 := c1.2
    rw [← th_of] at c2
    have c3 := c2
    unfold isTh at c3
    rw [Bool.and_eq_true] at c3
    obtain ⟨k, hk, rfl⟩ := isW_0 (N := 2) rfl c3.1
    refine JO_mk (bs_X7_alter (d := 4) rfl (wx_Y hG) rfl hi (show k < 3 by omega) c2) (bs_X8_alter (d := 5) rfl (wm_N hG) c hi (show k < 3 by omega)) (GD_tell hG hi (by omega)) ?_
    refine ⟨im, n, (upd f (i * 3 + k) v3), se, n2, f2, se2, m, x, tb, n3, F, g1, g2, ln, mm, ft, at_, sz, rd, (upd a (5 + 28 * k + i) v3), th, zf, lf, ims, D, t, w, y, (if k = 0 then upd nw i v3 else nw), (if k = 1 then upd wo i v3 else wo), (if k = 2 then upd co i v3 else co), nw2, wo2, co2, rfl, rfl, GD_alter hG hi (by omega) ?_ ?_, hI, hT, hS⟩
    · intro z; subst z; exact isW_01 c3.2
    · intro z
      have e := c3.2
      rw [if_neg (fun q => by have := (nI_eq0 (by omega)).mp q; omega)] at e
      exact e
theorem jo_day {v1 v2 v3 : Int32} (h : INV hx hm) : JO yX7_day yX8_day [.int v1, .int v2, .int v3] hx hm := by
  have h0 := h
  obtain ⟨im, n, f, se, n2, f2, se2, m, x, tb, n3, F, g1, g2, ln, mm, ft, at_, sz, rd, a, th, zf, lf, ims, D, t, w, y, nw, wo, co, nw2, wo2, co2, rfl, rfl, hG, hI, hT, hS⟩ := h
  have hn := hG.1
  cases c : isW v1 0 1 && (isW v2 0 99 && isW v3 0 99)
  · exact JO_mk (bs_X7_day_bad (d := 5) c) (bs_X8_day_bad (d := 6) c) rfl h0
  · have c1 := c
    simp only [Bool.and_eq_true] at c1
    by_cases n28 : n = 28
    · subst n28
      refine JO_mk (bs_X7_day (d := 5) rfl (wx_Y hG) c (bs_X0_add_full (d := 5) (k := 2) (c := 3) rfl)) (bs_X8_day (d := 6) rfl (wm_N hG) c) ?_ ?_
      · rw [if_pos rfl]
      · rw [if_pos rfl]; exact h0
    · refine JO_mk (bs_X7_day (d := 5) rfl (wx_Y hG) c (bs_X0_add (d := 3) (k := 2) (c := 3) rfl rfl (show n < 28 by omega))) (bs_X8_day (d := 6) rfl (wm_N hG) c) ?_ ?_
      · rw [if_neg n28]
      · rw [if_neg n28]
        exact ⟨im, (n + 1), (upd (upd (upd f (n * 3 + 0) v1) (n * 3 + 1) v2) (n * 3 + 2) v3), se, n2, f2, se2, m, x, tb, n3, F, g1, g2, ln, mm, ft, at_, sz, rd, (upd (upd (upd (upd a (5 + n) v1) (33 + n) v2) (61 + n) v3) 4 (nI (n + 1))), th, zf, lf, ims, D, t, w, y, (upd nw n v1), (upd wo n v2), (upd co n v3), nw2, wo2, co2, rfl, rfl, GD_day hG (by omega) (isW_01 c1.1) c1.2.1 c1.2.2, hI, hT, hS⟩
theorem jo_type {v1 : Int64} {v2 : Int32} (h : INV hx hm) : JO yX7_type yX8_type [.long v1, .int v2] hx hm := by
  have h0 := h
  obtain ⟨im, n, f, se, n2, f2, se2, m, x, tb, n3, F, g1, g2, ln, mm, ft, at_, sz, rd, a, th, zf, lf, ims, D, t, w, y, nw, wo, co, nw2, wo2, co2, rfl, rfl, hG, hI, hT, hS⟩ := h
  cases c : isW v2 1 8
  · exact JO_mk (bs_X7_type_bad (d := 5) c) (bs_X8_type_bad (d := 5) c) rfl h0
  · have c0 : isW v2 0 8 = true := by
      rw [isW_i, i32_lit.2.1] at c
      rw [isW_i, i32_lit.1]
      omega
    obtain ⟨k, hk, rfl⟩ := isW_0 (N := 8) rfl c0
    have et := tb_same v1 k 0 true (by omega)
    rw [Bool.true_and] at et
    have hM := bs_X8_type (h := wm im (nI m) at_ sz rd a th tb zf lf ims D t w y) (d := 5) (w := v1) rfl rfl hT.1 c hk
    rw [et] at hM
    cases cb : tbA v1 k 0
    · rw [cb] at hM
      rw [if_neg (by decide), if_neg (by decide)] at hM
      exact JO_mk (bs_X7_type_bad2 (d := 5) c hk cb) hM rfl h0
    · rw [cb] at hM
      rw [if_pos rfl, if_pos rfl] at hM
      have hX := bs_X7_type (h := wx im n f se n2 f2 se2 m x tb n3 F g1 g2 ln mm ft) (d := 4) (w := v1) rfl rfl rfl hT.1 c hk cb
      refine JO_mk hX hM rfl ?_
      by_cases q : 200 < m + k
      · rw [if_pos q, if_pos q]; exact h0
      · rw [if_neg q, if_neg q, ap_same v1 k tb m hk]
        refine ⟨im, n, f, se, n2, f2, se2, (m + k), x, (apn v1 k tb m), n3, F, g1, g2, ln, mm, ft, at_, sz, rd, a, th, zf, lf, ims, D, t, w, y, nw, wo, co, nw2, wo2, co2, rfl, rfl, hG, hI, ⟨by omega, fun q2 hq => ?_⟩, hS⟩
        rw [apn_v]
        by_cases c2 : m ≤ q2 ∧ q2 < m + k
        · rw [if_pos c2]
          exact tbA_v v1 k 0 cb _ (by omega) (by omega)
        · rw [if_neg c2]
          exact hT.2 q2 (by omega)
theorem jo_image (h : INV hx hm) : JO yX7_image yX8_image [] hx hm := by
  obtain ⟨im, n, f, se, n2, f2, se2, m, x, tb, n3, F, g1, g2, ln, mm, ft, at_, sz, rd, a, th, zf, lf, ims, D, t, w, y, nw, wo, co, nw2, wo2, co2, rfl, rfl, hG, hI, hT, hS⟩ := h
  have hB := bs_X6_become (h := wx im n f se n2 f2 se2 m x tb n3 F g1 g2 ln mm ft) (d := 5) (y := 5) (kd := 6) (ks := 8) (kc := 7) (y2 := 1) (kd2 := 2) (ks2 := 4) (kc2 := 3) rfl rfl rfl rfl rfl rfl rfl rfl (by decide) (by decide) (by decide) (by decide)
  refine JO_mk (bs_X7_image (d := 5) rfl hB rfl rfl) (bs_X8_image (d := 7) rfl rfl rfl) rfl ?_
  refine ⟨1, n, f, se, n, (va_cpy f f2 0 0 84), (va_cpy se se2 0 0 4), m, x, tb, n3, F, g1, g2, ln, mm, ft, at_, sz, rd, a, (cpN 89 0 th a), zf, lf, ims, D, t, w, y, nw, wo, co, nw, wo, co, rfl, rfl, hG, Or.inr ⟨rfl, GD_copy hG (fun q hq => ?_) (fun q hq => ?_) (fun q hq => ?_)⟩, hT, hS⟩
  · rw [pk_cpy_in (Nat.zero_le _) (by omega)]; congr 1; omega
  · rw [cpN_v, if_pos (by omega)]
  · rw [pk_cpy_in (Nat.zero_le _) (by omega)]; congr 1; omega
theorem jo_restore (h : INV hx hm) : JO yX7_restore yX8_restore [] hx hm := by
  have h0 := h
  obtain ⟨im, n, f, se, n2, f2, se2, m, x, tb, n3, F, g1, g2, ln, mm, ft, at_, sz, rd, a, th, zf, lf, ims, D, t, w, y, nw, wo, co, nw2, wo2, co2, rfl, rfl, hG, hI, hT, hS⟩ := h
  rcases hI with rfl | ⟨rfl, hG2⟩
  · exact JO_mk (bs_X7_restore0 (d := 5) rfl) (bs_X8_restore0 (d := 7) rfl) rfl h0
  · have hB := bs_X6_become (h := wx 1 n f se n2 f2 se2 m x tb n3 F g1 g2 ln mm ft) (d := 5) (y := 1) (kd := 2) (ks := 4) (kc := 3) (y2 := 5) (kd2 := 6) (ks2 := 8) (kc2 := 7) rfl rfl rfl rfl rfl rfl rfl rfl (by decide) (by decide) (by decide) (by decide)
    refine JO_mk (bs_X7_restore (d := 5) rfl hB rfl) (bs_X8_restore (d := 7) rfl rfl rfl) rfl ?_
    refine ⟨1, n2, (va_cpy f2 f 0 0 84), (va_cpy se2 se 0 0 4), n2, f2, se2, m, x, tb, n3, F, g1, g2, ln, mm, ft, at_, sz, rd, (cpN 89 0 a th), th, zf, lf, ims, D, t, w, y, nw2, wo2, co2, nw2, wo2, co2, rfl, rfl, GD_copy hG2 (fun q hq => ?_) (fun q hq => ?_) (fun q hq => ?_), Or.inr ⟨rfl, hG2⟩, hT, hS⟩
    · rw [pk_cpy_in (Nat.zero_le _) (by omega)]; congr 1; omega
    · rw [cpN_v, if_pos (by omega)]
    · rw [pk_cpy_in (Nat.zero_le _) (by omega)]; congr 1; omega
theorem jo_year (h : INV hx hm) : JO yX7_year yX8_year [] hx hm := by
  obtain ⟨im, n, f, se, n2, f2, se2, m, x, tb, n3, F, g1, g2, ln, mm, ft, at_, sz, rd, a, th, zf, lf, ims, D, t, w, y, nw, wo, co, nw2, wo2, co2, rfl, rfl, hG, hI, hT, hS⟩ := h
  have hY := year_eq (f := tb) hT.1 hT.2 F D
  have hR := bs_X4_readInto (h := wx im n f se n2 f2 se2 m x tb n3 F g1 g2 ln mm ft) (d := 1) (k := 9) (c := 10) (k2 := 11) (c2 := 12) (x := nI x) (n0 := n3) (F0 := F) rfl rfl rfl rfl (by decide) hT.1
  have hM := bs_X8_year (h := wm im (nI m) at_ sz rd a th tb zf lf ims D t w y) (d := 4) rfl rfl rfl rfl hT.1
  generalize riS tb m 28 0 0 F = r at hY hR
  generalize yrM tb m D = q at hY hM
  have hX := bs_X7_year (h := wx im n f se n2 f2 se2 m x tb n3 F g1 g2 ln mm ft) (d := 1) rfl rfl (h1 := wx im n f se n2 f2 se2 m r.2.1 tb r.2.2.1 r.2.2.2 g1 g2 ln mm ft) hR rfl rfl rfl rfl (bs_X0_become (d := 6) (k := 2) (c := 3) (k2 := 11) (c2 := 12) rfl rfl rfl rfl) rfl rfl
  rcases hY with ⟨k4, er, en, hn, hRE⟩ | ⟨e, he, ek, er⟩
  · rw [if_pos k4, if_pos k4] at hM
    have hr : ¬ r.1 < 0 := by rw [er, en]; exact nI_pos (by omega)
    rw [if_neg hr] at hX
    refine JO_mk hX hM (by rw [er, en]) ?_
    have hG' := hG
    obtain ⟨k1, k2, k3, k4', ⟨s0, s1, s2, s3⟩, k6⟩ := hG'
    refine ⟨im, q.2.2.1, (va_cpy r.2.2.2 f 0 0 84), se, n2, f2, se2, 0, r.2.1, tb, r.2.2.1, r.2.2.2, g1, g2, ln, mm, ft, (nI q.2.1), (nI m), (nI q.2.2.1), (upd (cpY q.2.2.1 0 a q.2.2.2) 4 (nI q.2.2.1)), th, zf, lf, ims, q.2.2.2, t, w, y, (fun i => if i < q.2.2.1 then q.2.2.2 i else 0), (fun i => if i < q.2.2.1 then q.2.2.2 (28 + i) else 0), (fun i => if i < q.2.2.1 then q.2.2.2 (56 + i) else 0), nw2, wo2, co2, by rw [en]; rfl, rfl, ⟨hn, fun i hi => ?_, fun i => ?_, upd_same _ _ _, ?_, k6⟩, hI, ⟨by decide, fun z hz => absurd hz (Nat.not_lt_zero _)⟩, hS⟩
    · have hi2 := hRE i hi
      rw [pk_cpy_in (Nat.zero_le _) (by omega), pk_cpy_in (Nat.zero_le _) (by omega), pk_cpy_in (Nat.zero_le _) (by omega)]
      simp only [Nat.zero_add, Nat.sub_zero, if_pos hi]
      refine ⟨hi2.1, ?_, ?_, ?_⟩
      · rw [upd_ne _ _ (by omega), cpY_v _ _ _ _ _ (by omega), if_pos (by omega), show 5 + i - 5 = i by omega]
      · rw [upd_ne _ _ (by omega), cpY_v _ _ _ _ _ (by omega), if_neg (by omega), if_pos (by omega), show 33 + i - 5 = 28 + i by omega]
      · rw [upd_ne _ _ (by omega), cpY_v _ _ _ _ _ (by omega), if_neg (by omega), if_neg (by omega), if_pos (by omega), show 61 + i - 5 = 56 + i by omega]
    · by_cases c : i < q.2.2.1
      · simp only [if_pos c]; exact (hRE i c).2
      · simp only [if_neg c]; exact ⟨Or.inl trivial, by decide, by decide⟩
    · have e : ∀ z, z < 4 → upd (cpY q.2.2.1 0 a q.2.2.2) 4 (nI q.2.2.1) z = a z := fun z hz => by rw [upd_ne _ _ (by omega), cpY_v _ _ _ _ _ (by omega), if_neg (by omega), if_neg (by omega), if_neg (by omega)]
      rw [e 0 (by decide), e 1 (by decide), e 2 (by decide), e 3 (by decide)]
      exact ⟨s0, s1, s2, s3⟩
  · have k4 : ¬ q.1 = -4 := by rw [ek]; exact nI_n4 he
    rw [if_neg k4, if_neg k4] at hM
    have hr : r.1 < 0 := by rw [er]; exact flt_neg he
    rw [if_pos hr] at hX
    refine JO_mk hX hM (by rw [er, ek]; rfl) ?_
    exact ⟨im, n, f, se, n2, f2, se2, 0, r.2.1, tb, r.2.2.1, r.2.2.2, g1, g2, ln, mm, ft, (nI q.2.1), (nI m), (nI q.2.2.1), a, th, zf, lf, ims, q.2.2.2, t, w, y, nw, wo, co, nw2, wo2, co2, rfl, rfl, hG, hI, ⟨by decide, fun z hz => absurd hz (Nat.not_lt_zero _)⟩, hS⟩
end JC
