/-! THE REFERENCE: a year from its tape -/
def tkL (f : Nat → Int32) : Nat → Nat → Int32 → Nat × Int32
  | 0, p, v => (p, v)
  | j + 1, p, v => if isW (f p) 48 57 then tkL f j (p + 1) (if 99 < v then v else 10 * v + f p - 48) else (p, v)
def tkM (f : Nat → Int32) (m i p : Nat) (D : Nat → Int32) : Int32 × Nat × (Nat → Int32) :=
  if isW (nbV f m (nbP f (m - p) p)) 48 57 then (if 99 < (tkL f (m - nbP f (m - p) p) (nbP f (m - p) p) 0).2 then nI (nbP f (m - p) p) else -4, (tkL f (m - nbP f (m - p) p) (nbP f (m - p) p) 0).1, upd D i (tkL f (m - nbP f (m - p) p) (nbP f (m - p) p) 0).2)
  else (nI (nbP f (m - p) p), nbP f (m - p) p, D)
def tdE (n : Nat) (u : Int32 × Nat × (Nat → Int32)) : Int32 × Nat × Nat × (Nat → Int32) := (u.1, u.2.1, n + 1, u.2.2)
def tdC (f : Nat → Int32) (m n : Nat) (t : Int32 × Nat × (Nat → Int32)) : Int32 × Nat × Nat × (Nat → Int32) :=
  if t.1 = -4 then (if nbV f m (nbP f (m - t.2.1) t.2.1) = 47 then tdE n (tkM f m (56 + n) (nbP f (m - t.2.1) t.2.1 + 1) (upd t.2.2 (56 + n) 0)) else (t.1, nbP f (m - t.2.1) t.2.1, n + 1, upd t.2.2 (56 + n) 0))
  else (t.1, t.2.1, n + 1, upd t.2.2 (56 + n) 0)
def tdM (f : Nat → Int32) (m n p : Nat) (D : Nat → Int32) : Int32 × Nat × Nat × (Nat → Int32) :=
  if nbV f m (nbP f (m - p) p) = 43 ∨ nbV f m (nbP f (m - p) p) = 45 then tdC f m n (tkM f m (28 + n) (nbP f (m - p) p + 1) (upd D n (if nbV f m (nbP f (m - p) p) = 43 then 1 else 0)))
  else (nI (nbP f (m - p) p), nbP f (m - p) p, n, D)
def yrL (f : Nat → Int32) (m : Nat) : Nat → Int32 → Nat → Nat → (Nat → Int32) → Int32 × Nat × Nat × (Nat → Int32)
  | 0, k, p, n, D => (k, p, n, D)
  | j + 1, k, p, n, D => if k = -4 then
      (if nbV f m (nbP f (m - p) p) < 0 then (k, nbP f (m - p) p, n, D)
       else if f (nbP f (m - p) p) = 44 ∧ n ≠ 28 then yrL f m j (tdM f m n (nbP f (m - p) p + 1) D).1 (tdM f m n (nbP f (m - p) p + 1) D).2.1 (tdM f m n (nbP f (m - p) p + 1) D).2.2.1 (tdM f m n (nbP f (m - p) p + 1) D).2.2.2
       else (nI (nbP f (m - p) p), nbP f (m - p) p, n, D))
    else (k, p, n, D)
def yrM (f : Nat → Int32) (m : Nat) (D : Nat → Int32) : Int32 × Nat × Nat × (Nat → Int32) := yrL f m 29 (tdM f m 0 0 D).1 (tdM f m 0 0 D).2.1 (tdM f m 0 0 D).2.2.1 (tdM f m 0 0 D).2.2.2
def cpY : Nat → Nat → (Nat → Int32) → (Nat → Int32) → (Nat → Int32)
  | 0, _, a, _ => a
  | j + 1, i, a, D => cpY j (i + 1) (upd (upd (upd a (5 + i) (D i)) (33 + i) (D (28 + i))) (61 + i) (D (56 + i))) D
theorem tkL_le (f : Nat → Int32) : ∀ (j p : Nat) (x : Int32), p ≤ (tkL f j p x).1 ∧ (tkL f j p x).1 ≤ p + j
  | 0, p, _ => ⟨Nat.le_refl _, Nat.le_refl _⟩
  | j + 1, p, x => by
    rw [tkL]
    split
    · have := tkL_le f j (p + 1) (if 99 < x then x else 10 * x + f p - 48); omega
    · simp only; omega
theorem tkM_le (f : Nat → Int32) (m i p : Nat) (D : Nat → Int32) (h : p ≤ m) : (tkM f m i p D).2.1 ≤ m := by
  have h1 := nbP_le f (m - p) p
  unfold tkM
  split
  · have h2 := tkL_le f (m - nbP f (m - p) p) (nbP f (m - p) p) 0
    simp only; omega
  · simp only; omega
theorem nI_inj {a b : Nat} (ha : a < 2147483648) (hb : b < 2147483648) (h : nI a = nI b) : a = b := by
  have e := congrArg Int32.toInt h
  rw [nI_toInt ha, nI_toInt hb] at e
  omega
theorem nI_n4 {q : Nat} (h : q ≤ 200) : nI q ≠ -4 := fun e => absurd (show nI q ≥ 0 from nI_le (a := 0) (b := q) (by omega) (by omega)) (by rw [e]; decide)
theorem tdM_le (f : Nat → Int32) (m n p : Nat) (D : Nat → Int32) (h : p ≤ m) : (tdM f m n p D).2.1 ≤ m := by
  have h1 := nbP_le f (m - p) p
  unfold tdM
  split
  · rename_i hv
    have h2 : nbP f (m - p) p < m := by rcases hv with hv | hv <;> exact nbV_lt hv (by decide)
    have h3 := tkM_le f m (28 + n) (nbP f (m - p) p + 1) (upd D n (if nbV f m (nbP f (m - p) p) = 43 then 1 else 0)) (by omega)
    generalize tkM f m (28 + n) (nbP f (m - p) p + 1) (upd D n (if nbV f m (nbP f (m - p) p) = 43 then 1 else 0)) = t at h3
    have h4 := nbP_le f (m - t.2.1) t.2.1
    unfold tdC
    split
    · split
      · rename_i hv2
        exact tkM_le f m _ _ _ (nbV_lt hv2 (by decide))
      · simp only; omega
    · exact h3
  · simp only; omega
theorem tdM_n (f : Nat → Int32) (m n p : Nat) (D : Nat → Int32) (h : p ≤ m) (hm : m ≤ 200) : (tdM f m n p D).2.2.1 ≤ n + 1 ∧ ((tdM f m n p D).1 = -4 → (tdM f m n p D).2.2.1 = n + 1) := by
  have h1 := nbP_le f (m - p) p
  unfold tdM
  split
  · generalize tkM f m (28 + n) (nbP f (m - p) p + 1) (upd D n (if nbV f m (nbP f (m - p) p) = 43 then 1 else 0)) = t
    unfold tdC tdE
    split
    · split <;> simp
    · simp
  · exact ⟨Nat.le_succ _, fun e => absurd e (nI_n4 (by omega))⟩
def hmd (h : List sm_C) (ik td : Int32) (p m n : Nat) (D : Nat → Int32) : List sm_C := (h.set 0 (mO ik td (nI p) (nI m) (nI n))).set 7 (hI 84 D)
section M7
variable {d : Nat} {h : List sm_C} {ik td td' at_ sz rd : Int32} {x0 : sm_C} {p q m n n' : Nat} {f D D' D0 a : Nat → Int32}
theorem hmd_0 (m0 : h[0]? = some x0) : (hmd h ik td p m n D)[0]? = some (mO ik td (nI p) (nI m) (nI n)) := m0_oth (sm_h_eq m0) (by decide)
theorem hmd_3 (m3 : h[3]? = some x0) : (hmd h ik td p m n D)[3]? = some x0 := by
  unfold hmd; rw [List.getElem?_set_ne (by decide), List.getElem?_set_ne (by decide)]; exact m3
theorem hmd_1 (m1 : h[1]? = some x0) : (hmd h ik td p m n D)[1]? = some x0 := by
  unfold hmd; rw [List.getElem?_set_ne (by decide), List.getElem?_set_ne (by decide)]; exact m1
theorem hmd_7 (m7 : h[7]? = some x0) : (hmd h ik td p m n D)[7]? = some (hI 84 D) := sm_h_eq (by rw [List.getElem?_set_ne (by decide)]; exact m7)
theorem hmd_s0 : (hmd h ik td p m n D).set 0 (mO ik td (nI q) (nI m) (nI n')) = hmd h ik td q m n' D := by
  unfold hmd; rw [List.set_comm _ _ (by decide : (7 : Nat) ≠ 0), List.set_set]
theorem hmd_s7 : (hmd h ik td p m n D).set 7 (hI 84 D') = hmd h ik td p m n D' := by
  unfold hmd; rw [List.set_set]
theorem bs_X8_look (m0 : h[0]? = some x0) (m3 : h[3]? = some (hI 200 f)) (hm : m ≤ 200) (hp : p ≤ m) : BS (d + 1) false yX8_look [.ref 0] (hmd h ik td p m n D) (some (.int (nbV f m (nbP f (m - p) p)))) (hmd h ik td (nbP f (m - p) p) m n D) := by
  refine bs_of mtX8_look rfl (Nat.le_of_ble_eq_true rfl) (fun K R RV RS E => ?_)
  show K 0 [_] [] _
  have loop : ∀ (j q : Nat), q + j = m → nbP f j q = nbP f (m - p) p → K 0 [some (.ref 0)] [] (hmd h ik td q m n D) := by
    intro j
    induction j with
    | zero =>
      intro q hq he
      have e : q = nbP f (m - p) p := he
      subst e
      refine rl_aload_n (pc := 0) R dX8_look_0 rfl ?_
      refine rl_getf (pc := 1) R dX8_look_1 fkX8_76 (hmd_0 m0) rfl ?_
      refine rl_aload_n (pc := 4) R dX8_look_4 rfl ?_
      refine rl_getf (pc := 5) R dX8_look_5 fkX8_79 (hmd_0 m0) rfl ?_
      refine rl_icmp_ge (pc := 8) (tgt := 38) R dX8_look_8 rfl (fun c8 => ?_) (fun c8 => absurd (nI_le (by omega) (by omega)) c8)
      refine rl_aload_n (pc := 38) R dX8_look_38 rfl ?_
      refine rl_getf (pc := 39) R dX8_look_39 fkX8_76 (hmd_0 m0) rfl ?_
      refine rl_aload_n (pc := 42) R dX8_look_42 rfl ?_
      refine rl_getf (pc := 43) R dX8_look_43 fkX8_79 (hmd_0 m0) rfl ?_
      refine rl_icmp_ge (pc := 46) (tgt := 61) R dX8_look_46 rfl (fun c46 => ?_) (fun c46 => absurd (nI_le (by omega) (by omega)) c46)
      refine rl_iconst (pc := 61) R dX8_look_61 ic_m1 ?_
      exact rl_ireturn (pc := 62) E dX8_look_62 rfl rfl (e_si (by simp only [nbV]; rw [if_neg (by omega)]))
    | succ j ih =>
      intro q hq he
      refine rl_aload_n (pc := 0) R dX8_look_0 rfl ?_
      refine rl_getf (pc := 1) R dX8_look_1 fkX8_76 (hmd_0 m0) rfl ?_
      refine rl_aload_n (pc := 4) R dX8_look_4 rfl ?_
      refine rl_getf (pc := 5) R dX8_look_5 fkX8_79 (hmd_0 m0) rfl ?_
      refine rl_icmp_ge (pc := 8) (tgt := 38) R dX8_look_8 rfl (fun c8 => absurd c8 (nI_ge (by omega) (by omega))) (fun c8 => ?_)
      refine rl_aload_n (pc := 11) R dX8_look_11 rfl ?_
      refine rl_getf (pc := 12) R dX8_look_12 fkX8_16 (hmd_0 m0) rfl ?_
      refine rl_aload_n (pc := 15) R dX8_look_15 rfl ?_
      refine rl_getf (pc := 16) R dX8_look_16 fkX8_76 (hmd_0 m0) rfl ?_
      refine rl_iald (pc := 19) R dX8_look_19 (hmd_3 m3) rfl (by omega) (by decide) ?_
      refine rl_bipush (pc := 20) R dX8_look_20 bc_32 ?_
      refine rl_icmp_ne (pc := 22) (tgt := 38) R dX8_look_22 rfl (fun c22 => ?_) (fun c22 => ?_)
      · have e : q = nbP f (m - p) p := by rw [← he, nbP, if_neg c22]
        subst e
        refine rl_aload_n (pc := 38) R dX8_look_38 rfl ?_
        refine rl_getf (pc := 39) R dX8_look_39 fkX8_76 (hmd_0 m0) rfl ?_
        refine rl_aload_n (pc := 42) R dX8_look_42 rfl ?_
        refine rl_getf (pc := 43) R dX8_look_43 fkX8_79 (hmd_0 m0) rfl ?_
        refine rl_icmp_ge (pc := 46) (tgt := 61) R dX8_look_46 rfl (fun c46 => absurd c46 (nI_ge (by omega) (by omega))) (fun c46 => ?_)
        refine rl_aload_n (pc := 49) R dX8_look_49 rfl ?_
        refine rl_getf (pc := 50) R dX8_look_50 fkX8_16 (hmd_0 m0) rfl ?_
        refine rl_aload_n (pc := 53) R dX8_look_53 rfl ?_
        refine rl_getf (pc := 54) R dX8_look_54 fkX8_76 (hmd_0 m0) rfl ?_
        refine rl_iald (pc := 57) R dX8_look_57 (hmd_3 m3) rfl (by omega) (by decide) ?_
        refine rl_goto (pc := 58) (tgt := 62) R dX8_look_58 rfl ?_
        exact rl_ireturn (pc := 62) E dX8_look_62 rfl rfl (e_si (by simp only [nbV]; rw [if_pos (by omega)]))
      · refine rl_aload_n (pc := 25) R dX8_look_25 rfl ?_
        refine rl_dup (pc := 26) R dX8_look_26 rfl ?_
        refine rl_getf (pc := 27) R dX8_look_27 fkX8_76 (hmd_0 m0) rfl ?_
        refine rl_iconst (pc := 30) R dX8_look_30 ic_1 ?_
        refine rl_iadd (pc := 31) R dX8_look_31 ?_
        rw [nI_1]
        refine rl_putI (pc := 32) R dX8_look_32 fpX8_76 (hmd_0 m0) (Nat.le_of_ble_eq_true rfl) ?_
        show K 35 _ _ ((hmd h ik td q m n D).set 0 (mO ik td (nI (q + 1)) (nI m) (nI n)))
        rw [hmd_s0]
        refine rl_goto (pc := 35) (tgt := 0) R dX8_look_35 rfl (ih (q + 1) (by omega) (by rw [← he, nbP, if_pos c22]))
  exact loop (m - p) p (by omega) rfl
theorem bs_X8_takes {i : Nat} (m0 : h[0]? = some x0) (m3 : h[3]? = some (hI 200 f)) (m7 : h[7]? = some (hI 84 D0)) (hm : m ≤ 200) (hp : p ≤ m) (hi : i < 84) : BS (d + 2) false yX8_takes [.ref 0, .int (nI i)] (hmd h ik td p m n D) (some (.int (tkM f m i p D).1)) (hmd h ik td (tkM f m i p D).2.1 m n (tkM f m i p D).2.2) := by
  have hle := nbP_le f (m - p) p
  by_cases hdg : isW (nbV f m (nbP f (m - p) p)) 48 57 = true
  · have e1 : (tkM f m i p D).1 = if 99 < (tkL f (m - nbP f (m - p) p) (nbP f (m - p) p) 0).2 then nI (nbP f (m - p) p) else -4 := by rw [tkM, if_pos hdg]
    have e2 : (tkM f m i p D).2.1 = (tkL f (m - nbP f (m - p) p) (nbP f (m - p) p) 0).1 := by rw [tkM, if_pos hdg]
    have e3 : (tkM f m i p D).2.2 = upd D i (tkL f (m - nbP f (m - p) p) (nbP f (m - p) p) 0).2 := by rw [tkM, if_pos hdg]
    rw [e1, e2, e3]
    generalize hP : nbP f (m - p) p = P at hle hdg
    refine bs_of mtX8_takes rfl (Nat.le_of_ble_eq_true rfl) (fun K R RV RS E => ?_)
    show K 0 [_, _, _, _, _] [] _
    have hfin : ∀ (q : Nat) (x : Int32), q = (tkL f (m - P) P 0).1 → x = (tkL f (m - P) P 0).2 → K 107 [some (.ref 0), some (.int (nI i)), some (.int (nbV f m P)), some (.int (nI P)), some (.int x)] [] (hmd h ik td q m n D) := by
      intro q x hq hx
      rw [← hq, ← hx] at E
      refine rl_aload_n (pc := 107) R dX8_takes_107 rfl ?_
      refine rl_getf (pc := 108) R dX8_takes_108 fkX8_28 (hmd_0 m0) rfl ?_
      refine rl_iload_n (pc := 111) R dX8_takes_111 rfl ?_
      refine rl_iload (pc := 112) R dX8_takes_112 rfl ?_
      refine rl_iast (pc := 114) R dX8_takes_114 (hmd_7 m7) rfl hi (by decide) ?_
      rw [hmd_s7]
      refine rl_iload (pc := 115) R dX8_takes_115 rfl ?_
      refine rl_bipush (pc := 117) R dX8_takes_117 bc_99 ?_
      refine rl_icmp_le (pc := 119) (tgt := 126) R dX8_takes_119 rfl (fun c119 => ?_) (fun c119 => ?_)
      · refine rl_bipush (pc := 126) R dX8_takes_126 bc_m4 ?_
        exact rl_ireturn (pc := 128) E dX8_takes_128 rfl rfl (e_si (by first | (rw [if_pos (Int32.not_le.mp c119)]; done) | (rw [if_neg (Int32.not_lt.mpr c119)]; done)))
      · refine rl_iload_n (pc := 122) R dX8_takes_122 rfl ?_
        refine rl_goto (pc := 123) (tgt := 128) R dX8_takes_123 rfl ?_
        exact rl_ireturn (pc := 128) E dX8_takes_128 rfl rfl (e_si (by first | (rw [if_pos (Int32.not_le.mp c119)]; done) | (rw [if_neg (Int32.not_lt.mpr c119)]; done)))
    have loop : ∀ (j q : Nat) (x : Int32), q + j = m → tkL f j q x = tkL f (m - P) P 0 → K 29 [some (.ref 0), some (.int (nI i)), some (.int (nbV f m P)), some (.int (nI P)), some (.int x)] [] (hmd h ik td q m n D) := by
      intro j
      induction j with
      | zero =>
        intro q x hq he
        refine rl_aload_n (pc := 29) R dX8_takes_29 rfl ?_
        refine rl_getf (pc := 30) R dX8_takes_30 fkX8_76 (hmd_0 m0) rfl ?_
        refine rl_aload_n (pc := 33) R dX8_takes_33 rfl ?_
        refine rl_getf (pc := 34) R dX8_takes_34 fkX8_79 (hmd_0 m0) rfl ?_
        refine rl_icmp_ge (pc := 37) (tgt := 107) R dX8_takes_37 rfl (fun c37 => ?_) (fun c37 => absurd (nI_le (by omega) (by omega)) c37)
        exact hfin q x (by rw [← he]; rfl) (by rw [← he]; rfl)
      | succ j ih =>
        intro q x hq he
        have nx : ∀ v : Int32, v = (if 99 < x then x else 10 * x + f q - 48) → isW (f q) 48 57 = true → K 92 [some (.ref 0), some (.int (nI i)), some (.int (nbV f m P)), some (.int (nI P)), some (.int x)] [.int v] (hmd h ik td q m n D) := by
          intro v hv hd2
          refine rl_istore (pc := 92) R dX8_takes_92 (Nat.le_of_ble_eq_true rfl) rfl ?_
          show K _ [_, _, _, _, _] _ _
          refine rl_aload_n (pc := 94) R dX8_takes_94 rfl ?_
          refine rl_dup (pc := 95) R dX8_takes_95 rfl ?_
          refine rl_getf (pc := 96) R dX8_takes_96 fkX8_76 (hmd_0 m0) rfl ?_
          refine rl_iconst (pc := 99) R dX8_takes_99 ic_1 ?_
          refine rl_iadd (pc := 100) R dX8_takes_100 ?_
          rw [nI_1]
          refine rl_putI (pc := 101) R dX8_takes_101 fpX8_76 (hmd_0 m0) (Nat.le_of_ble_eq_true rfl) ?_
          show K 104 _ _ ((hmd h ik td q m n D).set 0 (mO ik td (nI (q + 1)) (nI m) (nI n)))
          rw [hmd_s0]
          refine rl_goto (pc := 104) (tgt := 29) R dX8_takes_104 rfl (ih (q + 1) _ (by omega) (by rw [← he, tkL, if_pos hd2, hv]))
        refine rl_aload_n (pc := 29) R dX8_takes_29 rfl ?_
        refine rl_getf (pc := 30) R dX8_takes_30 fkX8_76 (hmd_0 m0) rfl ?_
        refine rl_aload_n (pc := 33) R dX8_takes_33 rfl ?_
        refine rl_getf (pc := 34) R dX8_takes_34 fkX8_79 (hmd_0 m0) rfl ?_
        refine rl_icmp_ge (pc := 37) (tgt := 107) R dX8_takes_37 rfl (fun c37 => absurd c37 (nI_ge (by omega) (by omega))) (fun c37 => ?_)
        refine rl_aload_n (pc := 40) R dX8_takes_40 rfl ?_
        refine rl_getf (pc := 41) R dX8_takes_41 fkX8_16 (hmd_0 m0) rfl ?_
        refine rl_aload_n (pc := 44) R dX8_takes_44 rfl ?_
        refine rl_getf (pc := 45) R dX8_takes_45 fkX8_76 (hmd_0 m0) rfl ?_
        refine rl_iald (pc := 48) R dX8_takes_48 (hmd_3 m3) rfl (by omega) (by decide) ?_
        refine rl_i2l (pc := 49) R dX8_takes_49 ?_
        refine rl_ldc2 (pc := 50) R dX8_takes_50 kdX8_86 ?_
        refine rl_ldc2 (pc := 53) R dX8_takes_53 kdX8_88 ?_
        refine rl_S3 (pc := 56) RS dX8_takes_56 lkX8_40 (Nat.le_of_ble_eq_true rfl) (bs_X8_inW (v := f q) (x := 48) (y := 57) rfl rfl rfl) ?_
        refine rl_if_eq (pc := 59) (tgt := 107) R dX8_takes_59 rfl (fun c59 => ?_) (fun c59 => ?_)
        · rw [bI_0] at c59
          exact hfin q x (by rw [← he, tkL, c59]; rfl) (by rw [← he, tkL, c59]; rfl)
        · rw [bI_n0] at c59
          refine rl_iload (pc := 62) R dX8_takes_62 rfl ?_
          refine rl_bipush (pc := 64) R dX8_takes_64 bc_99 ?_
          refine rl_icmp_le (pc := 66) (tgt := 74) R dX8_takes_66 rfl (fun c66 => ?_) (fun c66 => ?_)
          · refine rl_bipush (pc := 74) R dX8_takes_74 bc_10 ?_
            refine rl_iload (pc := 76) R dX8_takes_76 rfl ?_
            refine rl_imul (pc := 78) R dX8_takes_78 ?_
            refine rl_aload_n (pc := 79) R dX8_takes_79 rfl ?_
            refine rl_getf (pc := 80) R dX8_takes_80 fkX8_16 (hmd_0 m0) rfl ?_
            refine rl_aload_n (pc := 83) R dX8_takes_83 rfl ?_
            refine rl_getf (pc := 84) R dX8_takes_84 fkX8_76 (hmd_0 m0) rfl ?_
            refine rl_iald (pc := 87) R dX8_takes_87 (hmd_3 m3) rfl (by omega) (by decide) ?_
            refine rl_iadd (pc := 88) R dX8_takes_88 ?_
            refine rl_bipush (pc := 89) R dX8_takes_89 bc_48 ?_
            refine rl_isub (pc := 91) R dX8_takes_91 ?_
            first | exact nx _ (by rw [if_pos (Int32.not_le.mp c66)]) c59 | exact nx _ (by rw [if_neg (Int32.not_lt.mpr c66)]) c59
          · refine rl_iload (pc := 69) R dX8_takes_69 rfl ?_
            refine rl_goto (pc := 71) (tgt := 92) R dX8_takes_71 rfl ?_
            first | exact nx _ (by rw [if_pos (Int32.not_le.mp c66)]) c59 | exact nx _ (by rw [if_neg (Int32.not_lt.mpr c66)]) c59
    refine rl_aload_n (pc := 0) R dX8_takes_0 rfl ?_
    refine rl_V0 (pc := 1) RV dX8_takes_1 lkX8_82 (hmd_0 m0) rfl (Nat.le_of_ble_eq_true rfl) (bs_X8_look m0 m3 hm hp) ?_
    rw [hP]
    refine rl_istore_n (pc := 4) R dX8_takes_4 (Nat.le_of_ble_eq_true rfl) rfl ?_
    show K _ [_, _, _, _, _] _ _
    refine rl_aload_n (pc := 5) R dX8_takes_5 rfl ?_
    refine rl_getf (pc := 6) R dX8_takes_6 fkX8_76 (hmd_0 m0) rfl ?_
    refine rl_istore_n (pc := 9) R dX8_takes_9 (Nat.le_of_ble_eq_true rfl) rfl ?_
    show K _ [_, _, _, _, _] _ _
    refine rl_iload_n (pc := 10) R dX8_takes_10 rfl ?_
    refine rl_i2l (pc := 11) R dX8_takes_11 ?_
    refine rl_ldc2 (pc := 12) R dX8_takes_12 kdX8_86 ?_
    refine rl_ldc2 (pc := 15) R dX8_takes_15 kdX8_88 ?_
    refine rl_S3 (pc := 18) RS dX8_takes_18 lkX8_40 (Nat.le_of_ble_eq_true rfl) (bs_X8_inW (v := nbV f m P) (x := 48) (y := 57) rfl rfl rfl) ?_
    refine rl_if_ne (pc := 21) (tgt := 26) R dX8_takes_21 rfl (fun c21 => ?_) (fun c21 => absurd c21 (by rw [hdg]; decide))
    refine rl_iconst (pc := 26) R dX8_takes_26 ic_0 ?_
    refine rl_istore (pc := 27) R dX8_takes_27 (Nat.le_of_ble_eq_true rfl) rfl ?_
    show K _ [_, _, _, _, _] _ _
    exact loop (m - P) P 0 (by omega) rfl
  · have e1 : (tkM f m i p D).1 = nI (nbP f (m - p) p) := by rw [tkM, if_neg hdg]
    have e2 : (tkM f m i p D).2.1 = nbP f (m - p) p := by rw [tkM, if_neg hdg]
    have e3 : (tkM f m i p D).2.2 = D := by rw [tkM, if_neg hdg]
    rw [e1, e2, e3]
    refine bs_of mtX8_takes rfl (Nat.le_of_ble_eq_true rfl) (fun K R RV RS E => ?_)
    show K 0 [_, _, _, _, _] [] _
    refine rl_aload_n (pc := 0) R dX8_takes_0 rfl ?_
    refine rl_V0 (pc := 1) RV dX8_takes_1 lkX8_82 (hmd_0 m0) rfl (Nat.le_of_ble_eq_true rfl) (bs_X8_look m0 m3 hm hp) ?_
    refine rl_istore_n (pc := 4) R dX8_takes_4 (Nat.le_of_ble_eq_true rfl) rfl ?_
    show K _ [_, _, _, _, _] _ _
    refine rl_aload_n (pc := 5) R dX8_takes_5 rfl ?_
    refine rl_getf (pc := 6) R dX8_takes_6 fkX8_76 (hmd_0 m0) rfl ?_
    refine rl_istore_n (pc := 9) R dX8_takes_9 (Nat.le_of_ble_eq_true rfl) rfl ?_
    show K _ [_, _, _, _, _] _ _
    refine rl_iload_n (pc := 10) R dX8_takes_10 rfl ?_
    refine rl_i2l (pc := 11) R dX8_takes_11 ?_
    refine rl_ldc2 (pc := 12) R dX8_takes_12 kdX8_86 ?_
    refine rl_ldc2 (pc := 15) R dX8_takes_15 kdX8_88 ?_
    refine rl_S3 (pc := 18) RS dX8_takes_18 lkX8_40 (Nat.le_of_ble_eq_true rfl) (bs_X8_inW (v := nbV f m (nbP f (m - p) p)) (x := 48) (y := 57) rfl rfl rfl) ?_
    refine rl_if_ne (pc := 21) (tgt := 26) R dX8_takes_21 rfl (fun c21 => absurd (by rw [Bool.not_eq_true] at hdg; rw [hdg]; decide) c21) (fun c21 => ?_)
    refine rl_iload_n (pc := 24) R dX8_takes_24 rfl ?_
    exact rl_ireturn (pc := 25) E dX8_takes_25 rfl rfl (rfl)
theorem bs_X8_takesDay (m0 : h[0]? = some x0) (m3 : h[3]? = some (hI 200 f)) (m7 : h[7]? = some (hI 84 D0)) (hm : m ≤ 200) (hp : p ≤ m) (hn : n < 28) : BS (d + 3) false yX8_takesDay [.ref 0] (hmd h ik td p m n D) (some (.int (tdM f m n p D).1)) (hmd h ik td (tdM f m n p D).2.1 m (tdM f m n p D).2.2.1 (tdM f m n p D).2.2.2) := by
  have hle := nbP_le f (m - p) p
  have e28 : (28 : Int32) + nI n = nI (28 + n) := nI_add 28 n
  have e56 : (56 : Int32) + nI n = nI (56 + n) := nI_add 56 n
  by_cases hsg : nbV f m (nbP f (m - p) p) = 43 ∨ nbV f m (nbP f (m - p) p) = 45
  · have hlt : nbP f (m - p) p < m := by rcases hsg with hv | hv <;> exact nbV_lt hv (by decide)
    have e0 : tdM f m n p D = tdC f m n (tkM f m (28 + n) (nbP f (m - p) p + 1) (upd D n (if nbV f m (nbP f (m - p) p) = 43 then 1 else 0))) := by rw [tdM, if_pos hsg]
    generalize hY : tdM f m n p D = Y at e0
    generalize hP : nbP f (m - p) p = P at hle hsg hlt e0
    refine bs_of mtX8_takesDay rfl (Nat.le_of_ble_eq_true rfl) (fun K R RV RS E => ?_)
    show K 0 [_, _, _] [] _
    have hfin : ∀ (v2 : Int32) (q : Nat) (D2 : Nat → Int32), Y = (v2, q, n + 1, D2) → K 114 [some (.ref 0), some (.int (nbV f m P)), some (.int v2)] [] (hmd h ik td q m n D2) := by
      intro v2 q D2 e
      rw [e] at E
      simp only at E
      refine rl_aload_n (pc := 114) R dX8_takesDay_114 rfl ?_
      refine rl_dup (pc := 115) R dX8_takesDay_115 rfl ?_
      refine rl_getf (pc := 116) R dX8_takesDay_116 fkX8_90 (hmd_0 m0) rfl ?_
      refine rl_iconst (pc := 119) R dX8_takesDay_119 ic_1 ?_
      refine rl_iadd (pc := 120) R dX8_takesDay_120 ?_
      rw [nI_1]
      refine rl_putI (pc := 121) R dX8_takesDay_121 fpX8_90 (hmd_0 m0) (Nat.le_of_ble_eq_true rfl) ?_
      show K 124 _ _ ((hmd h ik td q m n D2).set 0 (mO ik td (nI q) (nI m) (nI (n + 1))))
      rw [hmd_s0]
      refine rl_iload_n (pc := 124) R dX8_takesDay_124 rfl ?_
      exact rl_ireturn (pc := 125) E dX8_takesDay_125 rfl rfl (rfl)
    have put : ∀ c : Int32, c = (if nbV f m P = 43 then 1 else 0) → K 51 [some (.ref 0), some (.int (nbV f m P)), none] [.int c, .int (nI n), .ref 7] (hmd h ik td (P + 1) m n D) := by
      intro c hc
      rw [← hc] at e0
      have hB := bs_X8_takes (d := d) (ik := ik) (td := td) (n := n) (D := upd D n c) (i := 28 + n) m0 m3 m7 hm (show P + 1 ≤ m by omega) (by omega)
      have hB2 := tkM_le f m (28 + n) (P + 1) (upd D n c) (by omega)
      generalize hT : tkM f m (28 + n) (P + 1) (upd D n c) = t at hB hB2 e0
      have hl2 := nbP_le f (m - t.2.1) t.2.1
      refine rl_iast (pc := 51) R dX8_takesDay_51 (hmd_7 m7) rfl (by omega) (by decide) ?_
      rw [hmd_s7]
      refine rl_aload_n (pc := 52) R dX8_takesDay_52 rfl ?_
      refine rl_bipush (pc := 53) R dX8_takesDay_53 bc_28 ?_
      refine rl_aload_n (pc := 55) R dX8_takesDay_55 rfl ?_
      refine rl_getf (pc := 56) R dX8_takesDay_56 fkX8_90 (hmd_0 m0) rfl ?_
      refine rl_iadd (pc := 59) R dX8_takesDay_59 ?_
      rw [e28]
      refine rl_V1 (pc := 60) RV dX8_takesDay_60 lkX8_93 (hmd_0 m0) rfl (Nat.le_of_ble_eq_true rfl) (hB) ?_
      refine rl_istore_n (pc := 63) R dX8_takesDay_63 (Nat.le_of_ble_eq_true rfl) rfl ?_
      show K _ [_, _, _] _ _
      refine rl_aload_n (pc := 64) R dX8_takesDay_64 rfl ?_
      refine rl_getf (pc := 65) R dX8_takesDay_65 fkX8_28 (hmd_0 m0) rfl ?_
      refine rl_bipush (pc := 68) R dX8_takesDay_68 bc_56 ?_
      refine rl_aload_n (pc := 70) R dX8_takesDay_70 rfl ?_
      refine rl_getf (pc := 71) R dX8_takesDay_71 fkX8_90 (hmd_0 m0) rfl ?_
      refine rl_iadd (pc := 74) R dX8_takesDay_74 ?_
      refine rl_iconst (pc := 75) R dX8_takesDay_75 ic_0 ?_
      refine rl_iast (pc := 76) R dX8_takesDay_76 (hmd_7 m7) e56 (by omega) (by decide) ?_
      rw [hmd_s7]
      refine rl_iload_n (pc := 77) R dX8_takesDay_77 rfl ?_
      refine rl_bipush (pc := 78) R dX8_takesDay_78 bc_m4 ?_
      refine rl_icmp_ne (pc := 80) (tgt := 114) R dX8_takesDay_80 rfl (fun c80 => ?_) (fun c80 => ?_)
      · refine hfin _ _ _ (by rw [e0, tdC, if_neg c80])
        skip
      · refine rl_aload_n (pc := 83) R dX8_takesDay_83 rfl ?_
        refine rl_V0 (pc := 84) RV dX8_takesDay_84 lkX8_82 (hmd_0 m0) rfl (Nat.le_of_ble_eq_true rfl) (bs_X8_look m0 m3 hm hB2) ?_
        refine rl_bipush (pc := 87) R dX8_takesDay_87 bc_47 ?_
        refine rl_icmp_ne (pc := 89) (tgt := 114) R dX8_takesDay_89 rfl (fun c89 => ?_) (fun c89 => ?_)
        · exact hfin _ _ _ (by rw [e0, tdC, if_pos c80, if_neg c89])
        · refine rl_aload_n (pc := 92) R dX8_takesDay_92 rfl ?_
          refine rl_dup (pc := 93) R dX8_takesDay_93 rfl ?_
          refine rl_getf (pc := 94) R dX8_takesDay_94 fkX8_76 (hmd_0 m0) rfl ?_
          refine rl_iconst (pc := 97) R dX8_takesDay_97 ic_1 ?_
          refine rl_iadd (pc := 98) R dX8_takesDay_98 ?_
          rw [nI_1]
          refine rl_putI (pc := 99) R dX8_takesDay_99 fpX8_76 (hmd_0 m0) (Nat.le_of_ble_eq_true rfl) ?_
          show K 102 _ _ ((hmd h ik td (nbP f (m - t.2.1) t.2.1) m n (upd t.2.2 (56 + n) 0)).set 0 (mO ik td (nI (nbP f (m - t.2.1) t.2.1 + 1)) (nI m) (nI n)))
          rw [hmd_s0]
          refine rl_aload_n (pc := 102) R dX8_takesDay_102 rfl ?_
          refine rl_bipush (pc := 103) R dX8_takesDay_103 bc_56 ?_
          refine rl_aload_n (pc := 105) R dX8_takesDay_105 rfl ?_
          refine rl_getf (pc := 106) R dX8_takesDay_106 fkX8_90 (hmd_0 m0) rfl ?_
          refine rl_iadd (pc := 109) R dX8_takesDay_109 ?_
          rw [e56]
          refine rl_V1 (pc := 110) RV dX8_takesDay_110 lkX8_93 (hmd_0 m0) rfl (Nat.le_of_ble_eq_true rfl) (bs_X8_takes m0 m3 m7 hm (nbV_lt c89 (by decide)) (show 56 + n < 84 by omega)) ?_
          refine rl_istore_n (pc := 113) R dX8_takesDay_113 (Nat.le_of_ble_eq_true rfl) rfl ?_
          show K _ [_, _, _] _ _
          exact hfin _ _ _ (by rw [e0, tdC, if_pos c80, if_pos c89]; rfl)
    have sgn : K 22 [some (.ref 0), some (.int (nbV f m P)), none] [] (hmd h ik td P m n D) := by
      refine rl_aload_n (pc := 22) R dX8_takesDay_22 rfl ?_
      refine rl_dup (pc := 23) R dX8_takesDay_23 rfl ?_
      refine rl_getf (pc := 24) R dX8_takesDay_24 fkX8_76 (hmd_0 m0) rfl ?_
      refine rl_iconst (pc := 27) R dX8_takesDay_27 ic_1 ?_
      refine rl_iadd (pc := 28) R dX8_takesDay_28 ?_
      rw [nI_1]
      refine rl_putI (pc := 29) R dX8_takesDay_29 fpX8_76 (hmd_0 m0) (Nat.le_of_ble_eq_true rfl) ?_
      show K 32 _ _ ((hmd h ik td P m n D).set 0 (mO ik td (nI (P + 1)) (nI m) (nI n)))
      rw [hmd_s0]
      refine rl_aload_n (pc := 32) R dX8_takesDay_32 rfl ?_
      refine rl_getf (pc := 33) R dX8_takesDay_33 fkX8_28 (hmd_0 m0) rfl ?_
      refine rl_aload_n (pc := 36) R dX8_takesDay_36 rfl ?_
      refine rl_getf (pc := 37) R dX8_takesDay_37 fkX8_90 (hmd_0 m0) rfl ?_
      refine rl_iload_n (pc := 40) R dX8_takesDay_40 rfl ?_
      refine rl_bipush (pc := 41) R dX8_takesDay_41 bc_43 ?_
      refine rl_icmp_ne (pc := 43) (tgt := 50) R dX8_takesDay_43 rfl (fun c43 => ?_) (fun c43 => ?_)
      · refine rl_iconst (pc := 50) R dX8_takesDay_50 ic_0 ?_
        first | exact put 0 (by rw [if_neg c43]) | exact put 1 (by rw [if_pos c43])
      · refine rl_iconst (pc := 46) R dX8_takesDay_46 ic_1 ?_
        refine rl_goto (pc := 47) (tgt := 51) R dX8_takesDay_47 rfl ?_
        first | exact put 0 (by rw [if_neg c43]) | exact put 1 (by rw [if_pos c43])
    refine rl_aload_n (pc := 0) R dX8_takesDay_0 rfl ?_
    refine rl_V0 (pc := 1) RV dX8_takesDay_1 lkX8_82 (hmd_0 m0) rfl (Nat.le_of_ble_eq_true rfl) (bs_X8_look m0 m3 hm hp) ?_
    rw [hP]
    refine rl_istore_n (pc := 4) R dX8_takesDay_4 (Nat.le_of_ble_eq_true rfl) rfl ?_
    show K _ [_, _, _] _ _
    refine rl_iload_n (pc := 5) R dX8_takesDay_5 rfl ?_
    refine rl_bipush (pc := 6) R dX8_takesDay_6 bc_43 ?_
    refine rl_icmp_eq (pc := 8) (tgt := 22) R dX8_takesDay_8 rfl (fun c8 => ?_) (fun c8 => ?_)
    · exact sgn
    · refine rl_iload_n (pc := 11) R dX8_takesDay_11 rfl ?_
      refine rl_bipush (pc := 12) R dX8_takesDay_12 bc_45 ?_
      refine rl_icmp_eq (pc := 14) (tgt := 22) R dX8_takesDay_14 rfl (fun c14 => ?_) (fun c14 => absurd (hsg.resolve_left c8) c14)
      exact sgn
  · have e0 : tdM f m n p D = (nI (nbP f (m - p) p), nbP f (m - p) p, n, D) := by rw [tdM, if_neg hsg]
    rw [e0]
    refine bs_of mtX8_takesDay rfl (Nat.le_of_ble_eq_true rfl) (fun K R RV RS E => ?_)
    show K 0 [_, _, _] [] _
    refine rl_aload_n (pc := 0) R dX8_takesDay_0 rfl ?_
    refine rl_V0 (pc := 1) RV dX8_takesDay_1 lkX8_82 (hmd_0 m0) rfl (Nat.le_of_ble_eq_true rfl) (bs_X8_look m0 m3 hm hp) ?_
    refine rl_istore_n (pc := 4) R dX8_takesDay_4 (Nat.le_of_ble_eq_true rfl) rfl ?_
    show K _ [_, _, _] _ _
    refine rl_iload_n (pc := 5) R dX8_takesDay_5 rfl ?_
    refine rl_bipush (pc := 6) R dX8_takesDay_6 bc_43 ?_
    refine rl_icmp_eq (pc := 8) (tgt := 22) R dX8_takesDay_8 rfl (fun c8 => absurd c8 (fun z => hsg (Or.inl z))) (fun c8 => ?_)
    refine rl_iload_n (pc := 11) R dX8_takesDay_11 rfl ?_
    refine rl_bipush (pc := 12) R dX8_takesDay_12 bc_45 ?_
    refine rl_icmp_eq (pc := 14) (tgt := 22) R dX8_takesDay_14 rfl (fun c14 => absurd c14 (fun z => hsg (Or.inr z))) (fun c14 => ?_)
    refine rl_aload_n (pc := 17) R dX8_takesDay_17 rfl ?_
    refine rl_getf (pc := 18) R dX8_takesDay_18 fkX8_76 (hmd_0 m0) rfl ?_
    exact rl_ireturn (pc := 21) E dX8_takesDay_21 rfl rfl (rfl)
theorem bs_X8_year (m0 : h[0]? = some (mO ik (nI m) at_ sz rd)) (m1 : h[1]? = some (hI 89 a)) (m3 : h[3]? = some (hI 200 f)) (m7 : h[7]? = some (hI 84 D)) (hm : m ≤ 200) : BS (d + 4) false yX8_year [.ref 0] h (some (.int (if (yrM f m D).1 = -4 then nI (yrM f m D).2.2.1 else -20 - (yrM f m D).1)))
    (if (yrM f m D).1 = -4 then (hmd h ik 0 (yrM f m D).2.1 m (yrM f m D).2.2.1 (yrM f m D).2.2.2).set 1 (hI 89 (upd (cpY (yrM f m D).2.2.1 0 a (yrM f m D).2.2.2) 4 (nI (yrM f m D).2.2.1))) else hmd h ik 0 (yrM f m D).2.1 m (yrM f m D).2.2.1 (yrM f m D).2.2.2) := by
  have e0 : hmd h ik 0 0 m 0 D = h.set 0 (mO ik 0 (nI 0) (nI m) (nI 0)) := by
    unfold hmd
    rw [List.set_getElem?_self' (show (h.set 0 (mO ik 0 (nI 0) (nI m) (nI 0)))[7]? = some (hI 84 D) by rw [List.getElem?_set_ne (by decide)]; exact m7)]
  have l0 := tdM_le f m 0 0 D (Nat.zero_le _)
  have n0 := tdM_n f m 0 0 D (Nat.zero_le _) hm
  have eY : yrL f m 29 (tdM f m 0 0 D).1 (tdM f m 0 0 D).2.1 (tdM f m 0 0 D).2.2.1 (tdM f m 0 0 D).2.2.2 = yrM f m D := rfl
  generalize yrM f m D = Y at eY
  refine bs_of mtX8_year rfl (Nat.le_of_ble_eq_true rfl) (fun K R RV RS E => ?_)
  show K 0 [_, _, _] [] _
  have hfin : ∀ (k : Int32) (p n : Nat) (D2 : Nat → Int32), n ≤ 28 → (k, p, n, D2) = Y → K 90 [some (.ref 0), some (.int k), none] [] (hmd h ik 0 p m n D2) := by
    intro k p n D2 hn e
    subst e
    by_cases hk : k = -4
    · simp only [if_pos hk] at E
      have B0 : ∀ g : Nat → Int32, ((hmd h ik 0 p m n D2).set 1 (hI 89 g))[0]? = some (mO ik 0 (nI p) (nI m) (nI n)) := fun g => m0_oth (hmd_0 m0) (by decide)
      have B7 : ∀ g : Nat → Int32, ((hmd h ik 0 p m n D2).set 1 (hI 89 g))[7]? = some (hI 84 D2) := fun g => sm_h_ne (hmd_7 m7) (hmd_1 m1) (by decide)
      have B1 : ∀ g : Nat → Int32, ((hmd h ik 0 p m n D2).set 1 (hI 89 g))[1]? = some (hI 89 g) := fun g => sm_h_eq (hmd_1 m1)
      have loop : ∀ (j i : Nat) (g : Nat → Int32), i + j = n → cpY j i g D2 = cpY n 0 a D2 → K 103 [some (.ref 0), some (.int k), some (.int (nI i))] [] ((hmd h ik 0 p m n D2).set 1 (hI 89 g)) := by
        intro j
        induction j with
        | zero =>
          intro i g hi hg
          have e : g = cpY n 0 a D2 := hg
          subst e
          refine rl_iload_n (pc := 103) R dX8_year_103 rfl ?_
          refine rl_aload_n (pc := 104) R dX8_year_104 rfl ?_
          refine rl_getf (pc := 105) R dX8_year_105 fkX8_90 (B0 _) rfl ?_
          refine rl_icmp_ge (pc := 108) (tgt := 167) R dX8_year_108 rfl (fun c108 => ?_) (fun c108 => absurd (nI_le (by omega) (by omega)) c108)
          refine rl_aload_n (pc := 167) R dX8_year_167 rfl ?_
          refine rl_getf (pc := 168) R dX8_year_168 fkX8_7 (B0 _) rfl ?_
          refine rl_iconst (pc := 171) R dX8_year_171 ic_4 ?_
          refine rl_aload_n (pc := 172) R dX8_year_172 rfl ?_
          refine rl_getf (pc := 173) R dX8_year_173 fkX8_90 (B0 _) rfl ?_
          refine rl_iast (pc := 176) R dX8_year_176 (B1 _) (rfl : (4 : Int32) = nI 4) (by decide) (by decide) ?_
          rw [List.set_set]
          refine rl_aload_n (pc := 177) R dX8_year_177 rfl ?_
          refine rl_getf (pc := 178) R dX8_year_178 fkX8_90 (B0 _) rfl ?_
          exact rl_ireturn (pc := 181) E dX8_year_181 rfl rfl (rfl)
        | succ j ih =>
          intro i g hi hg
          refine rl_iload_n (pc := 103) R dX8_year_103 rfl ?_
          refine rl_aload_n (pc := 104) R dX8_year_104 rfl ?_
          refine rl_getf (pc := 105) R dX8_year_105 fkX8_90 (B0 _) rfl ?_
          refine rl_icmp_ge (pc := 108) (tgt := 167) R dX8_year_108 rfl (fun c108 => absurd c108 (nI_ge (by omega) (by omega))) (fun c108 => ?_)
          refine rl_aload_n (pc := 111) R dX8_year_111 rfl ?_
          refine rl_getf (pc := 112) R dX8_year_112 fkX8_7 (B0 _) rfl ?_
          refine rl_iconst (pc := 115) R dX8_year_115 ic_5 ?_
          refine rl_iload_n (pc := 116) R dX8_year_116 rfl ?_
          refine rl_iadd (pc := 117) R dX8_year_117 ?_
          refine rl_aload_n (pc := 118) R dX8_year_118 rfl ?_
          refine rl_getf (pc := 119) R dX8_year_119 fkX8_28 (B0 _) rfl ?_
          refine rl_iload_n (pc := 122) R dX8_year_122 rfl ?_
          refine rl_iald (pc := 123) R dX8_year_123 (B7 _) rfl (by omega) (by decide) ?_
          refine rl_iast (pc := 124) R dX8_year_124 (B1 _) (nI_add 5 i) (by omega) (by decide) ?_
          rw [List.set_set]
          refine rl_aload_n (pc := 125) R dX8_year_125 rfl ?_
          refine rl_getf (pc := 126) R dX8_year_126 fkX8_7 (B0 _) rfl ?_
          refine rl_bipush (pc := 129) R dX8_year_129 bc_33 ?_
          refine rl_iload_n (pc := 131) R dX8_year_131 rfl ?_
          refine rl_iadd (pc := 132) R dX8_year_132 ?_
          refine rl_aload_n (pc := 133) R dX8_year_133 rfl ?_
          refine rl_getf (pc := 134) R dX8_year_134 fkX8_28 (B0 _) rfl ?_
          refine rl_bipush (pc := 137) R dX8_year_137 bc_28 ?_
          refine rl_iload_n (pc := 139) R dX8_year_139 rfl ?_
          refine rl_iadd (pc := 140) R dX8_year_140 ?_
          refine rl_iald (pc := 141) R dX8_year_141 (B7 _) (nI_add 28 i) (by omega) (by decide) ?_
          refine rl_iast (pc := 142) R dX8_year_142 (B1 _) (nI_add 33 i) (by omega) (by decide) ?_
          rw [List.set_set]
          refine rl_aload_n (pc := 143) R dX8_year_143 rfl ?_
          refine rl_getf (pc := 144) R dX8_year_144 fkX8_7 (B0 _) rfl ?_
          refine rl_bipush (pc := 147) R dX8_year_147 bc_61 ?_
          refine rl_iload_n (pc := 149) R dX8_year_149 rfl ?_
          refine rl_iadd (pc := 150) R dX8_year_150 ?_
          refine rl_aload_n (pc := 151) R dX8_year_151 rfl ?_
          refine rl_getf (pc := 152) R dX8_year_152 fkX8_28 (B0 _) rfl ?_
          refine rl_bipush (pc := 155) R dX8_year_155 bc_56 ?_
          refine rl_iload_n (pc := 157) R dX8_year_157 rfl ?_
          refine rl_iadd (pc := 158) R dX8_year_158 ?_
          refine rl_iald (pc := 159) R dX8_year_159 (B7 _) (nI_add 56 i) (by omega) (by decide) ?_
          refine rl_iast (pc := 160) R dX8_year_160 (B1 _) (nI_add 61 i) (by omega) (by decide) ?_
          rw [List.set_set]
          refine rl_iinc (pc := 161) R dX8_year_161 rfl (ii_n i) rfl ?_
          show K _ [_, _, _] _ _
          refine rl_goto (pc := 164) (tgt := 103) R dX8_year_164 rfl (ih (i + 1) _ (by omega) (by rw [← hg]; rfl))
      have e1 := loop n 0 a (by omega) rfl
      rw [List.set_getElem?_self' (hmd_1 m1)] at e1
      refine rl_iload_n (pc := 90) R dX8_year_90 rfl ?_
      refine rl_bipush (pc := 91) R dX8_year_91 bc_m4 ?_
      refine rl_icmp_eq (pc := 93) (tgt := 101) R dX8_year_93 rfl (fun c93 => ?_) (fun c93 => absurd (hk) c93)
      refine rl_iconst (pc := 101) R dX8_year_101 ic_0 ?_
      refine rl_istore_n (pc := 102) R dX8_year_102 (Nat.le_of_ble_eq_true rfl) rfl ?_
      show K _ [_, _, _] _ _
      exact e1
    · simp only [if_neg hk] at E
      refine rl_iload_n (pc := 90) R dX8_year_90 rfl ?_
      refine rl_bipush (pc := 91) R dX8_year_91 bc_m4 ?_
      refine rl_icmp_eq (pc := 93) (tgt := 101) R dX8_year_93 rfl (fun c93 => absurd c93 (hk)) (fun c93 => ?_)
      refine rl_bipush (pc := 96) R dX8_year_96 bc_m20 ?_
      refine rl_iload_n (pc := 98) R dX8_year_98 rfl ?_
      refine rl_isub (pc := 99) R dX8_year_99 ?_
      exact rl_ireturn (pc := 100) E dX8_year_100 rfl rfl (rfl)
  have loop : ∀ (j : Nat) (k : Int32) (p n : Nat) (D2 : Nat → Int32), (k = -4 → 29 ≤ n + j) → n ≤ 28 → p ≤ m → yrL f m j k p n D2 = Y → K 28 [some (.ref 0), some (.int k), none] [] (hmd h ik 0 p m n D2) := by
    intro j
    induction j with
    | zero =>
      intro k p n D2 hj hn hp he
      refine rl_iload_n (pc := 28) R dX8_year_28 rfl ?_
      refine rl_bipush (pc := 29) R dX8_year_29 bc_m4 ?_
      refine rl_icmp_ne (pc := 31) (tgt := 90) R dX8_year_31 rfl (fun c31 => ?_) (fun c31 => absurd c31 (fun z => by have := hj z; omega))
      exact hfin k p n D2 hn he
    | succ j ih =>
      intro k p n D2 hj hn hp he
      have hle := nbP_le f (m - p) p
      by_cases hk : k = -4
      · rw [yrL, if_pos hk] at he
        generalize hP : nbP f (m - p) p = P at hle he
        have bad : ¬ nbV f m P < 0 → ¬ (f P = 44 ∧ n ≠ 28) → K 64 [some (.ref 0), some (.int k), none] [] (hmd h ik 0 P m n D2) := by
          intro q1 q2
          rw [if_neg q1, if_neg q2] at he
          refine rl_aload_n (pc := 64) R dX8_year_64 rfl ?_
          refine rl_getf (pc := 65) R dX8_year_65 fkX8_76 (hmd_0 m0) rfl ?_
          refine rl_istore_n (pc := 68) R dX8_year_68 (Nat.le_of_ble_eq_true rfl) rfl ?_
          show K _ [_, _, _] _ _
          refine rl_goto (pc := 69) (tgt := 28) R dX8_year_69 rfl ?_
          refine rl_iload_n (pc := 28) R dX8_year_28 rfl ?_
          refine rl_bipush (pc := 29) R dX8_year_29 bc_m4 ?_
          refine rl_icmp_ne (pc := 31) (tgt := 90) R dX8_year_31 rfl (fun c31 => ?_) (fun c31 => absurd c31 (nI_n4 (by omega)))
          exact hfin _ P n D2 hn he
        refine rl_iload_n (pc := 28) R dX8_year_28 rfl ?_
        refine rl_bipush (pc := 29) R dX8_year_29 bc_m4 ?_
        refine rl_icmp_ne (pc := 31) (tgt := 90) R dX8_year_31 rfl (fun c31 => absurd (hk) c31) (fun c31 => ?_)
        refine rl_aload_n (pc := 34) R dX8_year_34 rfl ?_
        refine rl_V0 (pc := 35) RV dX8_year_35 lkX8_82 (hmd_0 m0) rfl (Nat.le_of_ble_eq_true rfl) (bs_X8_look m0 m3 hm hp) ?_
        rw [hP]
        refine rl_if_lt (pc := 38) (tgt := 90) R dX8_year_38 rfl (fun c38 => ?_) (fun c38 => ?_)
        · rw [if_pos c38] at he
          exact hfin k P n D2 hn he
        · have hPm : P < m := by
            apply Classical.byContradiction
            intro z
            exact c38 (by rw [nbV, if_neg z]; decide)
          refine rl_aload_n (pc := 41) R dX8_year_41 rfl ?_
          refine rl_getf (pc := 42) R dX8_year_42 fkX8_16 (hmd_0 m0) rfl ?_
          refine rl_aload_n (pc := 45) R dX8_year_45 rfl ?_
          refine rl_getf (pc := 46) R dX8_year_46 fkX8_76 (hmd_0 m0) rfl ?_
          refine rl_iald (pc := 49) R dX8_year_49 (hmd_3 m3) rfl (by omega) (by decide) ?_
          refine rl_bipush (pc := 50) R dX8_year_50 bc_44 ?_
          refine rl_icmp_ne (pc := 52) (tgt := 64) R dX8_year_52 rfl (fun c52 => ?_) (fun c52 => ?_)
          · exact bad c38 (fun z => c52 z.1)
          · refine rl_aload_n (pc := 55) R dX8_year_55 rfl ?_
            refine rl_getf (pc := 56) R dX8_year_56 fkX8_90 (hmd_0 m0) rfl ?_
            refine rl_bipush (pc := 59) R dX8_year_59 bc_28 ?_
            refine rl_icmp_ne (pc := 61) (tgt := 72) R dX8_year_61 rfl (fun c61 => ?_) (fun c61 => ?_)
            · refine rl_aload_n (pc := 72) R dX8_year_72 rfl ?_
              refine rl_dup (pc := 73) R dX8_year_73 rfl ?_
              refine rl_getf (pc := 74) R dX8_year_74 fkX8_76 (hmd_0 m0) rfl ?_
              refine rl_iconst (pc := 77) R dX8_year_77 ic_1 ?_
              refine rl_iadd (pc := 78) R dX8_year_78 ?_
              rw [nI_1]
              refine rl_putI (pc := 79) R dX8_year_79 fpX8_76 (hmd_0 m0) (Nat.le_of_ble_eq_true rfl) ?_
              show K 82 _ _ ((hmd h ik 0 P m n D2).set 0 (mO ik 0 (nI (P + 1)) (nI m) (nI n)))
              rw [hmd_s0]
              have hn28 : n < 28 := Nat.lt_of_le_of_ne hn (fun z => c61 (by rw [z]; rfl))
              refine rl_aload_n (pc := 82) R dX8_year_82 rfl ?_
              refine rl_V0 (pc := 83) RV dX8_year_83 lkX8_97 (hmd_0 m0) rfl (Nat.le_of_ble_eq_true rfl) (bs_X8_takesDay m0 m3 m7 hm (show P + 1 ≤ m by omega) hn28) ?_
              refine rl_istore_n (pc := 86) R dX8_year_86 (Nat.le_of_ble_eq_true rfl) rfl ?_
              show K _ [_, _, _] _ _
              have t1 := tdM_le f m n (P + 1) D2 (by omega)
              have t2 := tdM_n f m n (P + 1) D2 (by omega) hm
              refine rl_goto (pc := 87) (tgt := 28) R dX8_year_87 rfl (ih _ _ _ _ (fun z => by have := t2.2 z; have := hj hk; omega) (by omega) t1 (by rw [if_neg c38, if_pos ⟨c52, by omega⟩] at he; exact he))
            · have hn28 : n = 28 := nI_inj (by omega) (by decide) c61
              exact bad c38 (fun z => z.2 hn28)
      · rw [yrL, if_neg hk] at he
        refine rl_iload_n (pc := 28) R dX8_year_28 rfl ?_
        refine rl_bipush (pc := 29) R dX8_year_29 bc_m4 ?_
        refine rl_icmp_ne (pc := 31) (tgt := 90) R dX8_year_31 rfl (fun c31 => ?_) (fun c31 => absurd c31 (hk))
        exact hfin k p n D2 hn he
  refine rl_aload_n (pc := 0) R dX8_year_0 rfl ?_
  refine rl_aload_n (pc := 1) R dX8_year_1 rfl ?_
  refine rl_getf (pc := 2) R dX8_year_2 fkX8_72 m0 rfl ?_
  refine rl_putI (pc := 5) R dX8_year_5 fpX8_79 m0 (Nat.le_of_ble_eq_true rfl) ?_
  refine rl_aload_n (pc := 8) R dX8_year_8 rfl ?_
  refine rl_iconst (pc := 9) R dX8_year_9 ic_0 ?_
  refine rl_putI (pc := 10) R dX8_year_10 fpX8_72 (sm_h_eq m0) (Nat.le_of_ble_eq_true rfl) ?_
  rw [List.set_set]
  refine rl_aload_n (pc := 13) R dX8_year_13 rfl ?_
  refine rl_iconst (pc := 14) R dX8_year_14 ic_0 ?_
  refine rl_putI (pc := 15) R dX8_year_15 fpX8_76 (sm_h_eq m0) (Nat.le_of_ble_eq_true rfl) ?_
  rw [List.set_set]
  refine rl_aload_n (pc := 18) R dX8_year_18 rfl ?_
  refine rl_iconst (pc := 19) R dX8_year_19 ic_0 ?_
  refine rl_putI (pc := 20) R dX8_year_20 fpX8_90 (sm_h_eq m0) (Nat.le_of_ble_eq_true rfl) ?_
  rw [List.set_set]
  show K 23 _ _ (h.set 0 (mO ik 0 (nI 0) (nI m) (nI 0)))
  rw [← e0]
  refine rl_aload_n (pc := 23) R dX8_year_23 rfl ?_
  refine rl_V0 (pc := 24) RV dX8_year_24 lkX8_97 (hmd_0 m0) rfl (Nat.le_of_ble_eq_true rfl) (bs_X8_takesDay m0 m3 m7 hm (Nat.zero_le _) (by decide)) ?_
  refine rl_istore_n (pc := 27) R dX8_year_27 (Nat.le_of_ble_eq_true rfl) rfl ?_
  show K _ [_, _, _] _ _
  exact loop 29 _ _ _ _ (fun _ => by omega) (by omega) l0 eY
end M7
