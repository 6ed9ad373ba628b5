/-! BOTH WORLDS, and what holds between them -/
def wx (im : Int32) (n : Nat) (f se : Nat → Int32) (n2 : Nat) (f2 se2 : Nat → Int32) (m x : Nat) (tb : Nat → Int32) (n3 : Nat) (F g1 g2 ln mm : Nat → Int32) (ft : Nat → Nat → Int32) : List sm_C :=
  [x0O im, hO 6 [.ref 2, .ref 4], hO 0 [.ref 3, .int (nI n)], hI 84 f, hI 4 se, hO 6 [.ref 6, .ref 8], hO 0 [.ref 7, .int (nI n2)], hI 84 f2, hI 4 se2, hO 4 [.ref 10, .int (nI m), .int (nI x)], hI 200 tb, hO 0 [.ref 12, .int (nI n3)], hI 84 F, hO 1 [.ref 14], hO 3 [.ref 15], hI 290 g1, hO 5 [.ref 17], hO 3 [.ref 18], hI 290 g2, hQ 4 (fun j => some (20 + 2 * j)),
   hO 2 [.ref 21, .int (ln 0), .int (mm 0)], hI 28 (ft 0), hO 2 [.ref 23, .int (ln 1), .int (mm 1)], hI 28 (ft 1), hO 2 [.ref 25, .int (ln 2), .int (mm 2)], hI 28 (ft 2), hO 2 [.ref 27, .int (ln 3), .int (mm 3)], hI 28 (ft 3)]
def wm (ik td at_ sz rd : Int32) (a th tb zf lf ims D t w y : Nat → Int32) : List sm_C :=
  [mO ik td at_ sz rd, hI 89 a, hI 89 th, hI 200 tb, hI 4 zf, hI 4 lf, hI 112 ims, hI 84 D, hI 1160 t, hI 40 w, hI 40 y]
def GD (n : Nat) (f a nw wo co se : Nat → Int32) : Prop := n ≤ 28 ∧ (∀ i, i < n → (f (i * 3) = nw i ∧ f (i * 3 + 1) = wo i ∧ f (i * 3 + 2) = co i) ∧ (a (5 + i) = nw i ∧ a (33 + i) = wo i ∧ a (61 + i) = co i)) ∧ (∀ i, (nw i = 0 ∨ nw i = 1) ∧ isW (wo i) 0 99 = true ∧ isW (co i) 0 99 = true) ∧ a 4 = nI n ∧ (a 0 = se 0 ∧ a 1 = se 1 ∧ a 2 = se 2 ∧ a 3 = se 3) ∧ (∃ l, l ≤ 9 ∧ se 0 = nI l) ∧ isW (se 1) 0 3 = true ∧ isW (se 2) 0 8 = true ∧ 0 ≤ se 3
def TG (m : Nat) (tb : Nat → Int32) : Prop := m ≤ 200 ∧ ∀ q, q < m → isW (tb q) 32 126 = true
def PG (ln mm : Nat → Int32) (ft : Nat → Nat → Int32) (zf lf ims : Nat → Int32) : Prop := ∀ j, j < 4 → SH (ln j) (mm j) (zf j) (lf j) ∧ (¬ ln j = -1 → ∀ t, t < 28 → ft j t = ims (28 * j + t))
def INV (hx hm : List sm_C) : Prop := ∃ (im : Int32) (n : Nat) (f se : Nat → Int32) (n2 : Nat) (f2 se2 : Nat → Int32) (m x : Nat) (tb : Nat → Int32) (n3 : Nat) (F g1 g2 ln mm : Nat → Int32) (ft : Nat → Nat → Int32) (at_ sz rd : Int32) (a th zf lf ims D t w y nw wo co nw2 wo2 co2 : Nat → Int32),
  hx = wx im n f se n2 f2 se2 m x tb n3 F g1 g2 ln mm ft ∧ hm = wm im (nI m) at_ sz rd a th tb zf lf ims D t w y ∧ GD n f a nw wo co se ∧ (im = 0 ∨ (im = 1 ∧ GD n2 f2 th nw2 wo2 co2 se2)) ∧ TG m tb ∧ PG ln mm ft zf lf ims
def JO (yx ym : MethodName) (as : List Value) (hx hm : List sm_C) : Prop := ∃ (r : Int32) (hx' hm' : List sm_C), BS 8 false yx (.ref 0 :: as) hx (some (.int r)) hx' ∧ BS 8 false ym (.ref 0 :: as) hm (some (.int r)) hm' ∧ INV hx' hm'
theorem JO_mk {yx ym : MethodName} {as : List Value} {hx hm hx' hm' : List sm_C} {r1 r2 : Int32} (h1 : BS 8 false yx (.ref 0 :: as) hx (some (.int r1)) hx') (h2 : BS 8 false ym (.ref 0 :: as) hm (some (.int r2)) hm') (e : r1 = r2) (h3 : INV hx' hm') : JO yx ym as hx hm := by
  subst e; exact ⟨r1, hx', hm', h1, h2, h3⟩
section IV
variable {im : Int32} {n : Nat} {f se : Nat → Int32} {n2 : Nat} {f2 se2 : Nat → Int32} {m x : Nat} {tb : Nat → Int32} {n3 : Nat} {F g1 g2 ln mm : Nat → Int32} {ft : Nat → Nat → Int32} {td at_ sz rd : Int32} {a th zf lf ims D t w y nw wo co nw2 wo2 co2 : Nat → Int32}
theorem wx_Y (hG : GD n f a nw wo co se) : rY (wx im n f se n2 f2 se2 m x tb n3 F g1 g2 ln mm ft) 1 2 4 3 n nw wo co se := ⟨rfl, ⟨rfl, hG.1, f, rfl, fun i hi => (hG.2.1 i hi).1⟩, rfl, by decide⟩
theorem wx_H : rH (wx im n f se n2 f2 se2 m x tb n3 F g1 g2 ln mm ft) 13 14 15 g1 := ⟨rfl, rfl, rfl⟩
theorem wx_W : rW (wx im n f se n2 f2 se2 m x tb n3 F g1 g2 ln mm ft) 16 17 18 g2 := ⟨rfl, rfl, rfl⟩
theorem wm_N (hG : GD n f a nw wo co se) : rN (wm im td at_ sz rd a th tb zf lf ims D t w y) n nw wo co se a := ⟨rfl, hG.1, hG.2.2.2.1, hG.2.2.2.2.1, fun i hi => (hG.2.1 i hi).2⟩
theorem wx_s {j : Nat} (hj : j < 4) : (wx im n f se n2 f2 se2 m x tb n3 F g1 g2 ln mm ft)[20 + 2 * j]? = some (hO 2 [.ref (21 + 2 * j), .int (ln j), .int (mm j)]) ∧ (wx im n f se n2 f2 se2 m x tb n3 F g1 g2 ln mm ft)[21 + 2 * j]? = some (hI 28 (ft j)) := by
  rcases (by omega : j = 0 ∨ j = 1 ∨ j = 2 ∨ j = 3) with h | h | h | h <;> subst h <;> exact ⟨rfl, rfl⟩
theorem GD_nw (hG : GD n f a nw wo co se) : ∀ i, nw i = 0 ∨ nw i = 1 := fun i => (hG.2.2.1 i).1
theorem GD_se (hG : GD n f a nw wo co se) {v : Int32} {i : Nat} (hi : i < 4) (h0 : i = 0 → isW v 0 9 = true) (h1 : i = 1 → isW v 0 3 = true) (h2 : i = 2 → isW v 0 8 = true) (h3 : i = 3 → 0 ≤ v) : GD n f (upd a i v) nw wo co (upd se i v) := by
  obtain ⟨g1, g2, g3, g4, ⟨s0, s1, s2, s3⟩, g6, g7, g8, g9⟩ := hG
  refine ⟨g1, fun k hk => ?_, g3, ?_, ?_, ?_, ?_, ?_, ?_⟩
  · rw [upd_ne _ _ (by omega), upd_ne _ _ (by omega), upd_ne _ _ (by omega)]; exact g2 k hk
  · rw [upd_ne _ _ (by omega)]; exact g4
  · have e : ∀ q, a q = se q → upd a i v q = upd se i v q := by
      intro q hq
      by_cases c : q = i
      · subst c; rw [upd_same, upd_same]
      · rw [upd_ne _ _ c, upd_ne _ _ c]; exact hq
    exact ⟨e 0 s0, e 1 s1, e 2 s2, e 3 s3⟩
  · by_cases c : i = 0
    · subst c
      rw [upd_same]
      have h := (isW_i _ _ _).mp (h0 rfl)
      rw [i32_lit.1, i32_lit.2.2.2.2.2.1] at h
      refine ⟨v.toInt.toNat, by omega, ?_⟩
      apply Int32.toInt_inj.mp
      rw [nI_toInt (by omega)]; omega
    · rw [upd_ne _ _ (Ne.symm c)]; exact g6
  · by_cases c : i = 1
    · subst c; rw [upd_same]; exact h1 rfl
    · rw [upd_ne _ _ (Ne.symm c)]; exact g7
  · by_cases c : i = 2
    · subst c; rw [upd_same]; exact h2 rfl
    · rw [upd_ne _ _ (Ne.symm c)]; exact g8
  · by_cases c : i = 3
    · subst c; rw [upd_same]; exact h3 rfl
    · rw [upd_ne _ _ (Ne.symm c)]; exact g9
end IV
section JA
variable {hx hm : List sm_C}
theorem jo_strike (h : INV hx hm) : JO yX7_strike yX8_strike [] hx hm := by
  have h0 := h
  obtain ⟨im, n, f, se, n2, f2, se2, m, x, tb, n3, F, g1, g2, ln, mm, ft, at_, sz, rd, a, th, zf, lf, ims, D, t, w, y, nw, wo, co, nw2, wo2, co2, rfl, rfl, hG, hI, hT, hS⟩ := h
  have hY := wx_Y (im := im) (n2 := n2) (f2 := f2) (se2 := se2) (m := m) (x := x) (tb := tb) (n3 := n3) (F := F) (g1 := g1) (g2 := g2) (ln := ln) (mm := mm) (ft := ft) hG
  refine JO_mk (bs_X7_strike (d := 6) rfl hY) (bs_X8_strike (d := 7) rfl (wm_N hG)) rfl ?_
  by_cases c : n = 0
  · rw [if_pos c, if_pos c]; exact h0
  · rw [if_neg c, if_neg c]
    refine ⟨im, (n - 1), f, se, n2, f2, se2, m, x, tb, n3, F, g1, g2, ln, mm, ft, at_, sz, rd, (upd a 4 (nI (n - 1))), th, zf, lf, ims, D, t, w, y, nw, wo, co, nw2, wo2, co2, rfl, rfl, ?_, hI, hT, hS⟩
    obtain ⟨k1, k2, k3, k4, ⟨s0, s1, s2, s3⟩, k6⟩ := hG
    refine ⟨by omega, fun k hk => ?_, k3, upd_same _ _ _, ⟨?_, ?_, ?_, ?_⟩, k6⟩
    · rw [upd_ne _ _ (by omega), upd_ne _ _ (by omega), upd_ne _ _ (by omega)]; exact k2 k (by omega)
    all_goals rw [upd_ne _ _ (by decide)]; assumption
theorem jo_may {s : Int32} (h : INV hx hm) : JO yX7_may yX8_may [.int s] hx hm := by
  have h0 := h
  obtain ⟨im, n, f, se, n2, f2, se2, m, x, tb, n3, F, g1, g2, ln, mm, ft, at_, sz, rd, a, th, zf, lf, ims, D, t, w, y, nw, wo, co, nw2, wo2, co2, rfl, rfl, hG, hI, hT, hS⟩ := h
  have hn := hG.1
  refine JO_mk (bs_X7_may (d := 3) rfl (wx_Y hG)) (bs_X8_may (d := 4) rfl (wm_N hG) (fun q => (sshr_0 s (by omega)).mpr (by rw [iSe_n hn] at q; exact of_decide_eq_true q))) ?_ h0
  rw [hAl_iSe hn]
  cases c : iSe n s
  · rfl
  · rw [if_pos rfl, if_pos rfl]
    exact may_eq (GD_nw hG) hn (by rw [iSe_n hn] at c; exact of_decide_eq_true c)
end JA
