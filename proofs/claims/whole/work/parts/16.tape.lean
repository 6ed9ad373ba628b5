/-! THE TAPE -/
def apn (w : Int64) : Nat → (Nat → Int32) → Nat → (Nat → Int32)
  | 0, f, _ => f
  | r + 1, f, m => apn w r (upd f m (byt w r)) (m + 1)
def nbP (f : Nat → Int32) : Nat → Nat → Nat
  | 0, p => p
  | j + 1, p => if f p = 32 then nbP f j (p + 1) else p
def nbV (f : Nat → Int32) (m p : Nat) : Int32 := if p < m then f p else -1
def rnL (f : Nat → Int32) : Nat → Nat → Int32 → Nat × Int32
  | 0, p, x => (p, x)
  | j + 1, p, x => if isW (f p) 48 57 then rnL f j (p + 1) (if x * 10 + f p - 48 < 100 then x * 10 + f p - 48 else 100) else (p, x)
def flt (p : Nat) : Int32 := -20 - nI p
/-- a number from p on: what it is, or a fault; the place behind -/
def rnS (f : Nat → Int32) (m p : Nat) : Int32 × Nat := if isW (nbV f m (nbP f (m - p) p)) 48 57 then (if (rnL f (m - nbP f (m - p) p) (nbP f (m - p) p) 0).2 ≤ 99 then (rnL f (m - nbP f (m - p) p) (nbP f (m - p) p) 0).2 else flt (nbP f (m - p) p), (rnL f (m - nbP f (m - p) p) (nbP f (m - p) p) 0).1) else (flt (nbP f (m - p) p), nbP f (m - p) p)
def rdC (f : Nat → Int32) (m p : Nat) : Int32 × Nat := if nbV f m p = 47 then rnS f m (p + 1) else (0, p)
def rdS (f : Nat → Int32) (m p : Nat) : Int32 × Nat × Int32 × Int32 × Int32 :=
  if nbV f m (nbP f (m - p) p) = 43 ∨ nbV f m (nbP f (m - p) p) = 45 then
    (if (rnS f m (nbP f (m - p) p + 1)).1 < 0 then ((rnS f m (nbP f (m - p) p + 1)).1, (rnS f m (nbP f (m - p) p + 1)).2, 0, 0, 0)
     else if (rdC f m (nbP f (m - (rnS f m (nbP f (m - p) p + 1)).2) (rnS f m (nbP f (m - p) p + 1)).2)).1 < 0 then ((rdC f m (nbP f (m - (rnS f m (nbP f (m - p) p + 1)).2) (rnS f m (nbP f (m - p) p + 1)).2)).1, (rdC f m (nbP f (m - (rnS f m (nbP f (m - p) p + 1)).2) (rnS f m (nbP f (m - p) p + 1)).2)).2, 0, 0, 0)
     else (0, (rdC f m (nbP f (m - (rnS f m (nbP f (m - p) p + 1)).2) (rnS f m (nbP f (m - p) p + 1)).2)).2, if nbV f m (nbP f (m - p) p) = 43 then 1 else 0, (rnS f m (nbP f (m - p) p + 1)).1, (rdC f m (nbP f (m - (rnS f m (nbP f (m - p) p + 1)).2) (rnS f m (nbP f (m - p) p + 1)).2)).1))
  else (flt (nbP f (m - p) p), nbP f (m - p) p, 0, 0, 0)
def up3 (F : Nat → Int32) (n : Nat) (a b e : Int32) : Nat → Int32 := upd (upd (upd F (n * 3 + 0) a) (n * 3 + 1) b) (n * 3 + 2) e
def riS (f : Nat → Int32) (m : Nat) : Nat → Nat → Nat → (Nat → Int32) → Int32 × Nat × Nat × (Nat → Int32)
  | 0, p, n, F => (flt p, p, n, F)
  | j + 1, p, n, F =>
    if (rdS f m p).1 = 0 then
      (if nbV f m (nbP f (m - (rdS f m p).2.1) (rdS f m p).2.1) = -1 then (nI (n + 1), nbP f (m - (rdS f m p).2.1) (rdS f m p).2.1, n + 1, up3 F n (rdS f m p).2.2.1 (rdS f m p).2.2.2.1 (rdS f m p).2.2.2.2)
       else if nbV f m (nbP f (m - (rdS f m p).2.1) (rdS f m p).2.1) = 44 ∧ n + 1 < 28 then riS f m j (nbP f (m - (rdS f m p).2.1) (rdS f m p).2.1 + 1) (n + 1) (up3 F n (rdS f m p).2.2.1 (rdS f m p).2.2.2.1 (rdS f m p).2.2.2.2)
       else (flt (nbP f (m - (rdS f m p).2.1) (rdS f m p).2.1), nbP f (m - (rdS f m p).2.1) (rdS f m p).2.1, n + 1, up3 F n (rdS f m p).2.2.1 (rdS f m p).2.2.2.1 (rdS f m p).2.2.2.2))
    else ((rdS f m p).1, (rdS f m p).2.1, n, F)
theorem nbP_le (f : Nat → Int32) : ∀ (j p : Nat), p ≤ nbP f j p ∧ nbP f j p ≤ p + j
  | 0, p => ⟨Nat.le_refl _, Nat.le_refl _⟩
  | j + 1, p => by
    rw [nbP]
    split
    · have := nbP_le f j (p + 1); omega
    · omega
theorem rnL_le (f : Nat → Int32) : ∀ (j p : Nat) (x : Int32), p ≤ (rnL f j p x).1 ∧ (rnL f j p x).1 ≤ p + j
  | 0, p, _ => ⟨Nat.le_refl _, Nat.le_refl _⟩
  | j + 1, p, x => by
    rw [rnL]
    split
    · have := rnL_le f j (p + 1) (if x * 10 + f p - 48 < 100 then x * 10 + f p - 48 else 100); omega
    · simp only; omega
theorem rnS_le (f : Nat → Int32) (m p : Nat) (h : p ≤ m) : p ≤ (rnS f m p).2 ∧ (rnS f m p).2 ≤ m := by
  have h1 := nbP_le f (m - p) p
  unfold rnS
  split
  · have h2 := rnL_le f (m - nbP f (m - p) p) (nbP f (m - p) p) 0
    simp only; omega
  · simp only; omega
theorem nbV_lt {f : Nat → Int32} {m p : Nat} {v : Int32} (h : nbV f m p = v) (hv : v ≠ -1) : p < m := by
  unfold nbV at h
  split at h
  · assumption
  · exact absurd h.symm hv
theorem rdC_le (f : Nat → Int32) (m p : Nat) (h : p ≤ m) : p ≤ (rdC f m p).2 ∧ (rdC f m p).2 ≤ m := by
  unfold rdC
  split
  · rename_i hv
    have := nbV_lt hv (by decide)
    have := rnS_le f m (p + 1) (by omega)
    omega
  · simp only; omega
theorem rdS_le (f : Nat → Int32) (m p : Nat) (h : p ≤ m) : (rdS f m p).2.1 ≤ m := by
  have h1 := nbP_le f (m - p) p
  unfold rdS
  split
  · rename_i hv
    have h2 : nbP f (m - p) p < m := by rcases hv with hv | hv <;> exact nbV_lt hv (by decide)
    have h3 := rnS_le f m (nbP f (m - p) p + 1) (by omega)
    have h4 := nbP_le f (m - (rnS f m (nbP f (m - p) p + 1)).2) (rnS f m (nbP f (m - p) p + 1)).2
    have h5 := rdC_le f m (nbP f (m - (rnS f m (nbP f (m - p) p + 1)).2) (rnS f m (nbP f (m - p) p + 1)).2) (by omega)
    split
    · simp only; omega
    · split <;> simp only <;> omega
  · simp only; omega
abbrev hT (c m p : Nat) : sm_C := hO 4 [.ref c, .int (nI m), .int (nI p)]
section TP
variable {d : Nat} {h : List sm_C} {k c m p : Nat} {f : Nat → Int32}
theorem bs_X4_append {w : Int64} {n : Nat} {x : Int32} (h1 : h[k]? = some (hO 4 [.ref c, .int (nI m), .int x])) (h2 : h[c]? = some (hI 200 f)) (hm : m ≤ 200) (hn : n ≤ 8) : BS (d + 3) false yX4_append [.ref k, .long w, .int (nI n)] h (some (.int (if 200 < m + n then -3 else nI (m + n)))) (if 200 < m + n then h else (h.set c (hI 200 (apn w n f m))).set k (hO 4 [.ref c, .int (nI (m + n)), .int x])) := by
  have hs : (200 : Int32) - nI m = nI (200 - m) := pk_sub (a := 200) hm
  by_cases hf : 200 < m + n
  · simp only [if_pos hf]
    refine bs_of mtX4_append rfl (Nat.le_of_ble_eq_true rfl) (fun K R RV RS E => ?_)
    show K 0 [_, _, _, _, _] [] _
    refine rl_iload_n (pc := 0) R dX4_append_0 rfl ?_
    refine rl_sipush (pc := 1) R dX4_append_1 sc_200 ?_
    refine rl_aload_n (pc := 4) R dX4_append_4 rfl ?_
    refine rl_getf (pc := 5) R dX4_append_5 fkX4_15 (by first | assumption | rfl) rfl ?_
    refine rl_isub (pc := 8) R dX4_append_8 ?_
    rw [hs]
    refine rl_icmp_le (pc := 9) (tgt := 15) R dX4_append_9 rfl (fun c9 => absurd c9 (Int32.not_le.mpr (nI_lt (by omega) (by omega)))) (fun c9 => ?_)
    refine rl_bipush (pc := 12) R dX4_append_12 bc_m3 ?_
    exact rl_ireturn (pc := 14) E dX4_append_14 rfl rfl (rfl)
  · simp only [if_neg hf]
    refine bs_of mtX4_append rfl (Nat.le_of_ble_eq_true rfl) (fun K R RV RS E => ?_)
    show K 0 [_, _, _, _, _] [] _
    have loop : ∀ (r m2 : Nat) (g : Nat → Int32), m2 + r = m + n → apn w r g m2 = apn w n f m → K 20 [some (.ref k), some (.long w), none, some (.int (nI n)), some (.int (pm r))] [] ((h.set c (hI 200 g)).set k (hO 4 [.ref c, .int (nI m2), .int x])) := by
      intro r
      induction r with
      | zero =>
        intro m2 g hr hg
        have e : g = apn w n f m := hg
        have e2 : m2 = m + n := by omega
        subst e e2
        refine rl_iload (pc := 20) R dX4_append_20 rfl ?_
        refine rl_if_lt (pc := 22) (tgt := 59) R dX4_append_22 rfl (fun c22 => ?_) (fun c22 => absurd (by decide) c22)
        refine rl_aload_n (pc := 59) R dX4_append_59 rfl ?_
        refine rl_getf (pc := 60) R dX4_append_60 fkX4_15 (sm_h_eq (sm_h_oi h1 h2)) rfl ?_
        exact rl_ireturn (pc := 63) E dX4_append_63 rfl rfl (rfl)
      | succ r ih =>
        intro m2 g hr hg
        have a1 : ((h.set c (hI 200 g)).set k (hO 4 [.ref c, .int (nI m2), .int x]))[k]? = some (hO 4 [.ref c, .int (nI m2), .int x]) := sm_h_eq (sm_h_oi h1 h2)
        have a2 : ((h.set c (hI 200 g)).set k (hO 4 [.ref c, .int (nI m2), .int x]))[c]? = some (hI 200 g) := sm_h_io (sm_h_eq h2) (sm_h_oi h1 h2)
        refine rl_iload (pc := 20) R dX4_append_20 rfl ?_
        refine rl_if_lt (pc := 22) (tgt := 59) R dX4_append_22 rfl (fun c22 => absurd c22 (nI_pos (by omega))) (fun c22 => ?_)
        refine rl_aload_n (pc := 25) R dX4_append_25 rfl ?_
        refine rl_getf (pc := 26) R dX4_append_26 fkX4_9 a1 rfl ?_
        refine rl_aload_n (pc := 29) R dX4_append_29 rfl ?_
        refine rl_getf (pc := 30) R dX4_append_30 fkX4_15 a1 rfl ?_
        refine rl_lload_n (pc := 33) R dX4_append_33 rfl ?_
        refine rl_iload (pc := 34) R dX4_append_34 rfl ?_
        refine rl_S2 (pc := 36) RS dX4_append_36 lkX4_22 (Nat.le_of_ble_eq_true rfl) (bs_X7_byteFromLowest) ?_
        refine rl_S3 (pc := 39) RS dX4_append_39 lkX4_26 (Nat.le_of_ble_eq_true rfl) (bs_X7_put a2 rfl (by omega) (by decide)) ?_
        refine rl_pop (pc := 42) R dX4_append_42 rfl ?_
        refine rl_aload_n (pc := 43) R dX4_append_43 rfl ?_
        refine rl_dup (pc := 44) R dX4_append_44 rfl ?_
        refine rl_getf (pc := 45) R dX4_append_45 fkX4_15 (sm_h_oi a1 a2) rfl ?_
        refine rl_iconst (pc := 48) R dX4_append_48 ic_1 ?_
        refine rl_iadd (pc := 49) R dX4_append_49 ?_
        rw [nI_1]
        refine rl_putI (pc := 50) R dX4_append_50 fpX4_15 (sm_h_oi a1 a2) (Nat.le_of_ble_eq_true rfl) ?_
        rw [List.set_comm _ _ (fun e : c = k => by subst e; rw [h1] at h2; cases h2), List.set_set]
        rw [List.set_comm _ _ (fun e : k = c => by subst e; rw [h1] at h2; cases h2), List.set_set]
        refine rl_iinc (pc := 53) R dX4_append_53 rfl (pm_dec r) rfl ?_
        show K _ [_, _, _, _, _] _ _
        refine rl_goto (pc := 56) (tgt := 20) R dX4_append_56 rfl (ih (m2 + 1) _ (by omega) (by rw [← hg]; rfl))
    refine rl_iload_n (pc := 0) R dX4_append_0 rfl ?_
    refine rl_sipush (pc := 1) R dX4_append_1 sc_200 ?_
    refine rl_aload_n (pc := 4) R dX4_append_4 rfl ?_
    refine rl_getf (pc := 5) R dX4_append_5 fkX4_15 (by first | assumption | rfl) rfl ?_
    refine rl_isub (pc := 8) R dX4_append_8 ?_
    rw [hs]
    refine rl_icmp_le (pc := 9) (tgt := 15) R dX4_append_9 rfl (fun c9 => ?_) (fun c9 => absurd (nI_le (by omega) (by omega)) c9)
    refine rl_iload_n (pc := 15) R dX4_append_15 rfl ?_
    refine rl_iconst (pc := 16) R dX4_append_16 ic_1 ?_
    refine rl_isub (pc := 17) R dX4_append_17 ?_
    rw [pm_sub]
    refine rl_istore (pc := 18) R dX4_append_18 (Nat.le_of_ble_eq_true rfl) rfl ?_
    show K _ [_, _, _, _, _] _ _
    have e0 := loop n m f rfl rfl
    rw [List.set_getElem?_self' h2, List.set_getElem?_self' h1] at e0
    exact e0
theorem bs_X4_empty {y x : Int32} (h1 : h[k]? = some (hO 4 [.ref c, .int y, .int x])) : BS (d + 1) false yX4_empty [.ref k] h none (h.set k (hO 4 [.ref c, .int 0, .int x])) := by
  refine bs_of mtX4_empty rfl (Nat.le_of_ble_eq_true rfl) (fun K R RV RS E => ?_)
  show K 0 [_] [] _
  refine rl_aload_n (pc := 0) R dX4_empty_0 rfl ?_
  refine rl_iconst (pc := 1) R dX4_empty_1 ic_0 ?_
  refine rl_putI (pc := 2) R dX4_empty_2 fpX4_15 (by first | assumption | rfl) (Nat.le_of_ble_eq_true rfl) ?_
  exact rl_return (pc := 5) E dX4_empty_5 rfl rfl
theorem bs_X4_isDigit {v : Int32} : BS (d + 1) true yX4_isDigit [.int v] h (some (.int (bI (isW v 48 57)))) h := by
  refine bs_of mtX4_isDigit rfl (Nat.le_of_ble_eq_true rfl) (fun K R RV RS E => ?_)
  show K 0 [_] [] _
  refine rl_iload_n (pc := 0) R dX4_isDigit_0 rfl ?_
  refine rl_bipush (pc := 1) R dX4_isDigit_1 bc_48 ?_
  refine rl_icmp_lt (pc := 3) (tgt := 16) R dX4_isDigit_3 rfl (fun c3 => ?_) (fun c3 => ?_)
  · refine rl_iconst (pc := 16) R dX4_isDigit_16 ic_0 ?_
    exact rl_ireturn (pc := 17) E dX4_isDigit_17 rfl rfl (e_si (by first | (rw [isW_f1 c3]; rfl) | (rw [isW_f2 c9]; rfl) | (rw [isW_t (Int32.not_lt.mp c3) (Int32.not_lt.mp c9)]; rfl)))
  · refine rl_iload_n (pc := 6) R dX4_isDigit_6 rfl ?_
    refine rl_bipush (pc := 7) R dX4_isDigit_7 bc_57 ?_
    refine rl_icmp_gt (pc := 9) (tgt := 16) R dX4_isDigit_9 rfl (fun c9 => ?_) (fun c9 => ?_)
    · refine rl_iconst (pc := 16) R dX4_isDigit_16 ic_0 ?_
      exact rl_ireturn (pc := 17) E dX4_isDigit_17 rfl rfl (e_si (by first | (rw [isW_f1 c3]; rfl) | (rw [isW_f2 c9]; rfl) | (rw [isW_t (Int32.not_lt.mp c3) (Int32.not_lt.mp c9)]; rfl)))
    · refine rl_iconst (pc := 12) R dX4_isDigit_12 ic_1 ?_
      refine rl_goto (pc := 13) (tgt := 17) R dX4_isDigit_13 rfl ?_
      exact rl_ireturn (pc := 17) E dX4_isDigit_17 rfl rfl (e_si (by first | (rw [isW_f1 c3]; rfl) | (rw [isW_f2 c9]; rfl) | (rw [isW_t (Int32.not_lt.mp c3) (Int32.not_lt.mp c9)]; rfl)))
theorem bs_X4_faultAt : BS (d + 1) true yX4_faultAt [.int (nI p)] h (some (.int (flt p))) h := by
  refine bs_of mtX4_faultAt rfl (Nat.le_of_ble_eq_true rfl) (fun K R RV RS E => ?_)
  show K 0 [_] [] _
  refine rl_bipush (pc := 0) R dX4_faultAt_0 bc_m20 ?_
  refine rl_iload_n (pc := 2) R dX4_faultAt_2 rfl ?_
  refine rl_isub (pc := 3) R dX4_faultAt_3 ?_
  exact rl_ireturn (pc := 4) E dX4_faultAt_4 rfl rfl (rfl)
theorem bs_X4_nextByte (h1 : h[k]? = some (hT c m p)) (h2 : h[c]? = some (hI 200 f)) (hm : m ≤ 200) (hp : p ≤ m) : BS (d + 2) false yX4_nextByte [.ref k] h (some (.int (nbV f m (nbP f (m - p) p)))) (h.set k (hT c m (nbP f (m - p) p))) := by
  refine bs_of mtX4_nextByte rfl (Nat.le_of_ble_eq_true rfl) (fun K R RV RS E => ?_)
  show K 0 [_] [] _
  have loop : ∀ (j q : Nat), q + j = m → nbP f j q = nbP f (m - p) p → K 0 [some (.ref k)] [] (h.set k (hT c m q)) := by
    intro j
    induction j with
    | zero =>
      intro q hq he
      have e : q = nbP f (m - p) p := he
      subst e
      have a1 : (h.set k (hT c m (nbP f (m - p) p)))[k]? = some (hT c m (nbP f (m - p) p)) := sm_h_eq h1
      refine rl_aload_n (pc := 0) R dX4_nextByte_0 rfl ?_
      refine rl_getf (pc := 1) R dX4_nextByte_1 fkX4_19 a1 rfl ?_
      refine rl_aload_n (pc := 4) R dX4_nextByte_4 rfl ?_
      refine rl_getf (pc := 5) R dX4_nextByte_5 fkX4_15 a1 rfl ?_
      refine rl_icmp_ge (pc := 8) (tgt := 52) R dX4_nextByte_8 rfl (fun c8 => ?_) (fun c8 => absurd (nI_le (by omega) (by omega)) c8)
      refine rl_iconst (pc := 52) R dX4_nextByte_52 ic_m1 ?_
      exact rl_ireturn (pc := 53) E dX4_nextByte_53 rfl rfl (e_si (by simp only [nbV]; rw [if_neg (by omega)]))
    | succ j ih =>
      intro q hq he
      have a1 : (h.set k (hT c m q))[k]? = some (hT c m q) := sm_h_eq h1
      have a2 : (h.set k (hT c m q))[c]? = some (hI 200 f) := sm_h_io h2 h1
      refine rl_aload_n (pc := 0) R dX4_nextByte_0 rfl ?_
      refine rl_getf (pc := 1) R dX4_nextByte_1 fkX4_19 a1 rfl ?_
      refine rl_aload_n (pc := 4) R dX4_nextByte_4 rfl ?_
      refine rl_getf (pc := 5) R dX4_nextByte_5 fkX4_15 a1 rfl ?_
      refine rl_icmp_ge (pc := 8) (tgt := 52) R dX4_nextByte_8 rfl (fun c8 => absurd c8 (nI_ge (by omega) (by omega))) (fun c8 => ?_)
      refine rl_aload_n (pc := 11) R dX4_nextByte_11 rfl ?_
      refine rl_getf (pc := 12) R dX4_nextByte_12 fkX4_9 a1 rfl ?_
      refine rl_aload_n (pc := 15) R dX4_nextByte_15 rfl ?_
      refine rl_getf (pc := 16) R dX4_nextByte_16 fkX4_19 a1 rfl ?_
      refine rl_S2 (pc := 19) RS dX4_nextByte_19 lkX4_63 (Nat.le_of_ble_eq_true rfl) (bs_X7_at a2 rfl (by omega) (by decide)) ?_
      refine rl_bipush (pc := 22) R dX4_nextByte_22 bc_32 ?_
      refine rl_icmp_eq (pc := 24) (tgt := 39) R dX4_nextByte_24 rfl (fun c24 => ?_) (fun c24 => ?_)
      · refine rl_aload_n (pc := 39) R dX4_nextByte_39 rfl ?_
        refine rl_dup (pc := 40) R dX4_nextByte_40 rfl ?_
        refine rl_getf (pc := 41) R dX4_nextByte_41 fkX4_19 a1 rfl ?_
        refine rl_iconst (pc := 44) R dX4_nextByte_44 ic_1 ?_
        refine rl_iadd (pc := 45) R dX4_nextByte_45 ?_
        rw [nI_1]
        refine rl_putI (pc := 46) R dX4_nextByte_46 fpX4_19 a1 (Nat.le_of_ble_eq_true rfl) ?_
        rw [List.set_set]
        refine rl_goto (pc := 49) (tgt := 0) R dX4_nextByte_49 rfl (ih (q + 1) (by omega) (by rw [← he, nbP, if_pos c24]))
      · have e : q = nbP f (m - p) p := by rw [← he, nbP, if_neg c24]
        subst e
        refine rl_aload_n (pc := 27) R dX4_nextByte_27 rfl ?_
        refine rl_getf (pc := 28) R dX4_nextByte_28 fkX4_9 a1 rfl ?_
        refine rl_aload_n (pc := 31) R dX4_nextByte_31 rfl ?_
        refine rl_getf (pc := 32) R dX4_nextByte_32 fkX4_19 a1 rfl ?_
        refine rl_S2 (pc := 35) RS dX4_nextByte_35 lkX4_63 (Nat.le_of_ble_eq_true rfl) (bs_X7_at a2 rfl (by omega) (by decide)) ?_
        exact rl_ireturn (pc := 38) E dX4_nextByte_38 rfl rfl (e_si (by simp only [nbV]; rw [if_pos (by omega)]))
  have e0 := loop (m - p) p (by omega) rfl
  rw [List.set_getElem?_self' h1] at e0
  exact e0
theorem bs_X4_readNumber (h1 : h[k]? = some (hT c m p)) (h2 : h[c]? = some (hI 200 f)) (hm : m ≤ 200) (hp : p ≤ m) : BS (d + 3) false yX4_readNumber [.ref k] h (some (.int (rnS f m p).1)) (h.set k (hT c m (rnS f m p).2)) := by
  have hle := nbP_le f (m - p) p
  by_cases hdg : isW (nbV f m (nbP f (m - p) p)) 48 57 = true
  · have e1 : (rnS f m p).2 = (rnL f (m - nbP f (m - p) p) (nbP f (m - p) p) 0).1 := by simp only [rnS]; rw [if_pos hdg]
    have e2 : (rnS f m p).1 = if (rnL f (m - nbP f (m - p) p) (nbP f (m - p) p) 0).2 ≤ 99 then (rnL f (m - nbP f (m - p) p) (nbP f (m - p) p) 0).2 else flt (nbP f (m - p) p) := by simp only [rnS]; rw [if_pos hdg]
    rw [e1, e2]
    generalize hP : nbP f (m - p) p = P at hle hdg
    refine bs_of mtX4_readNumber rfl (Nat.le_of_ble_eq_true rfl) (fun K R RV RS E => ?_)
    show K 0 [_, _, _, _] [] _
    have hfin : ∀ (q : Nat) (x : Int32), q = (rnL f (m - P) P 0).1 → x = (rnL f (m - P) P 0).2 → K 93 [some (.ref k), some (.int (nbV f m P)), some (.int (nI P)), some (.int x)] [] (h.set k (hT c m q)) := by
      intro q x hq hx
      subst hq hx
      refine rl_iload_n (pc := 93) R dX4_readNumber_93 rfl ?_
      refine rl_bipush (pc := 94) R dX4_readNumber_94 bc_99 ?_
      refine rl_icmp_le (pc := 96) (tgt := 106) R dX4_readNumber_96 rfl (fun c96 => ?_) (fun c96 => ?_)
      · refine rl_iload_n (pc := 106) R dX4_readNumber_106 rfl ?_
        exact rl_ireturn (pc := 107) E dX4_readNumber_107 rfl rfl (e_si (by first | (rw [if_pos c96]; done) | (rw [if_neg c96]; done)))
      · refine rl_iload_n (pc := 99) R dX4_readNumber_99 rfl ?_
        refine rl_S1 (pc := 100) RS dX4_readNumber_100 lkX4_48 (Nat.le_of_ble_eq_true rfl) (bs_X4_faultAt) ?_
        refine rl_goto (pc := 103) (tgt := 107) R dX4_readNumber_103 rfl ?_
        exact rl_ireturn (pc := 107) E dX4_readNumber_107 rfl rfl (e_si (by first | (rw [if_pos c96]; done) | (rw [if_neg c96]; done)))
    have loop : ∀ (j q : Nat) (x : Int32), q + j = m → rnL f j q x = rnL f (m - P) P 0 → K 27 [some (.ref k), some (.int (nbV f m P)), some (.int (nI P)), some (.int x)] [] (h.set k (hT c m q)) := by
      intro j
      induction j with
      | zero =>
        intro q x hq he
        have a1 : (h.set k (hT c m q))[k]? = some (hT c m q) := sm_h_eq h1
        refine rl_aload_n (pc := 27) R dX4_readNumber_27 rfl ?_
        refine rl_getf (pc := 28) R dX4_readNumber_28 fkX4_19 a1 rfl ?_
        refine rl_aload_n (pc := 31) R dX4_readNumber_31 rfl ?_
        refine rl_getf (pc := 32) R dX4_readNumber_32 fkX4_15 a1 rfl ?_
        refine rl_icmp_ge (pc := 35) (tgt := 93) R dX4_readNumber_35 rfl (fun c35 => ?_) (fun c35 => absurd (nI_le (by omega) (by omega)) c35)
        exact hfin q x (by rw [← he]; rfl) (by rw [← he]; rfl)
      | succ j ih =>
        intro q x hq he
        have a1 : (h.set k (hT c m q))[k]? = some (hT c m q) := sm_h_eq h1
        have a2 : (h.set k (hT c m q))[c]? = some (hI 200 f) := sm_h_io h2 h1
        refine rl_aload_n (pc := 27) R dX4_readNumber_27 rfl ?_
        refine rl_getf (pc := 28) R dX4_readNumber_28 fkX4_19 a1 rfl ?_
        refine rl_aload_n (pc := 31) R dX4_readNumber_31 rfl ?_
        refine rl_getf (pc := 32) R dX4_readNumber_32 fkX4_15 a1 rfl ?_
        refine rl_icmp_ge (pc := 35) (tgt := 93) R dX4_readNumber_35 rfl (fun c35 => absurd c35 (nI_ge (by omega) (by omega))) (fun c35 => ?_)
        refine rl_aload_n (pc := 38) R dX4_readNumber_38 rfl ?_
        refine rl_getf (pc := 39) R dX4_readNumber_39 fkX4_9 a1 rfl ?_
        refine rl_aload_n (pc := 42) R dX4_readNumber_42 rfl ?_
        refine rl_getf (pc := 43) R dX4_readNumber_43 fkX4_19 a1 rfl ?_
        refine rl_S2 (pc := 46) RS dX4_readNumber_46 lkX4_63 (Nat.le_of_ble_eq_true rfl) (bs_X7_at a2 rfl (by omega) (by decide)) ?_
        refine rl_S1 (pc := 49) RS dX4_readNumber_49 lkX4_59 (Nat.le_of_ble_eq_true rfl) (bs_X4_isDigit) ?_
        refine rl_if_eq (pc := 52) (tgt := 93) R dX4_readNumber_52 rfl (fun c52 => ?_) (fun c52 => ?_)
        · rw [bI_0] at c52
          exact hfin q x (by rw [← he, rnL, c52]; rfl) (by rw [← he, rnL, c52]; rfl)
        · rw [bI_n0] at c52
          refine rl_bipush (pc := 55) R dX4_readNumber_55 bc_100 ?_
          refine rl_iload_n (pc := 57) R dX4_readNumber_57 rfl ?_
          refine rl_bipush (pc := 58) R dX4_readNumber_58 bc_10 ?_
          refine rl_imul (pc := 60) R dX4_readNumber_60 ?_
          refine rl_aload_n (pc := 61) R dX4_readNumber_61 rfl ?_
          refine rl_getf (pc := 62) R dX4_readNumber_62 fkX4_9 a1 rfl ?_
          refine rl_aload_n (pc := 65) R dX4_readNumber_65 rfl ?_
          refine rl_getf (pc := 66) R dX4_readNumber_66 fkX4_19 a1 rfl ?_
          refine rl_S2 (pc := 69) RS dX4_readNumber_69 lkX4_63 (Nat.le_of_ble_eq_true rfl) (bs_X7_at a2 rfl (by omega) (by decide)) ?_
          refine rl_iadd (pc := 72) R dX4_readNumber_72 ?_
          refine rl_bipush (pc := 73) R dX4_readNumber_73 bc_48 ?_
          refine rl_isub (pc := 75) R dX4_readNumber_75 ?_
          refine rl_min (pc := 76) R dX4_readNumber_76 lmX4_67 (Nat.le_of_ble_eq_true rfl) ?_
          refine rl_istore_n (pc := 79) R dX4_readNumber_79 (Nat.le_of_ble_eq_true rfl) rfl ?_
          show K _ [_, _, _, _] _ _
          refine rl_aload_n (pc := 80) R dX4_readNumber_80 rfl ?_
          refine rl_dup (pc := 81) R dX4_readNumber_81 rfl ?_
          refine rl_getf (pc := 82) R dX4_readNumber_82 fkX4_19 a1 rfl ?_
          refine rl_iconst (pc := 85) R dX4_readNumber_85 ic_1 ?_
          refine rl_iadd (pc := 86) R dX4_readNumber_86 ?_
          rw [nI_1]
          refine rl_putI (pc := 87) R dX4_readNumber_87 fpX4_19 a1 (Nat.le_of_ble_eq_true rfl) ?_
          rw [List.set_set]
          refine rl_goto (pc := 90) (tgt := 27) R dX4_readNumber_90 rfl (ih (q + 1) _ (by omega) (by rw [← he, rnL, c52]; rfl))
    have b1 : (h.set k (hT c m P))[k]? = some (hT c m P) := sm_h_eq h1
    refine rl_aload_n (pc := 0) R dX4_readNumber_0 rfl ?_
    refine rl_V0 (pc := 1) RV dX4_readNumber_1 lkX4_39 h1 rfl (Nat.le_of_ble_eq_true rfl) (bs_X4_nextByte h1 h2 hm hp) ?_
    rw [hP]
    refine rl_istore_n (pc := 4) R dX4_readNumber_4 (Nat.le_of_ble_eq_true rfl) rfl ?_
    show K _ [_, _, _, _] _ _
    refine rl_iload_n (pc := 5) R dX4_readNumber_5 rfl ?_
    refine rl_S1 (pc := 6) RS dX4_readNumber_6 lkX4_59 (Nat.le_of_ble_eq_true rfl) (bs_X4_isDigit) ?_
    refine rl_if_ne (pc := 9) (tgt := 20) R dX4_readNumber_9 rfl (fun c9 => ?_) (fun c9 => absurd c9 (by rw [hdg]; decide))
    refine rl_aload_n (pc := 20) R dX4_readNumber_20 rfl ?_
    refine rl_getf (pc := 21) R dX4_readNumber_21 fkX4_19 b1 rfl ?_
    refine rl_istore_n (pc := 24) R dX4_readNumber_24 (Nat.le_of_ble_eq_true rfl) rfl ?_
    show K _ [_, _, _, _] _ _
    refine rl_iconst (pc := 25) R dX4_readNumber_25 ic_0 ?_
    refine rl_istore_n (pc := 26) R dX4_readNumber_26 (Nat.le_of_ble_eq_true rfl) rfl ?_
    show K _ [_, _, _, _] _ _
    exact loop (m - P) P 0 (by omega) rfl
  · have e1 : (rnS f m p).2 = nbP f (m - p) p := by simp only [rnS]; rw [if_neg hdg]
    have e2 : (rnS f m p).1 = flt (nbP f (m - p) p) := by simp only [rnS]; rw [if_neg hdg]
    rw [e1, e2]
    refine bs_of mtX4_readNumber rfl (Nat.le_of_ble_eq_true rfl) (fun K R RV RS E => ?_)
    show K 0 [_, _, _, _] [] _
    refine rl_aload_n (pc := 0) R dX4_readNumber_0 rfl ?_
    refine rl_V0 (pc := 1) RV dX4_readNumber_1 lkX4_39 h1 rfl (Nat.le_of_ble_eq_true rfl) (bs_X4_nextByte h1 h2 hm hp) ?_
    refine rl_istore_n (pc := 4) R dX4_readNumber_4 (Nat.le_of_ble_eq_true rfl) rfl ?_
    show K _ [_, _, _, _] _ _
    refine rl_iload_n (pc := 5) R dX4_readNumber_5 rfl ?_
    refine rl_S1 (pc := 6) RS dX4_readNumber_6 lkX4_59 (Nat.le_of_ble_eq_true rfl) (bs_X4_isDigit) ?_
    refine rl_if_ne (pc := 9) (tgt := 20) R dX4_readNumber_9 rfl (fun c9 => absurd (by rw [Bool.not_eq_true] at hdg; rw [hdg]; decide) c9) (fun c9 => ?_)
    refine rl_aload_n (pc := 12) R dX4_readNumber_12 rfl ?_
    refine rl_getf (pc := 13) R dX4_readNumber_13 fkX4_19 (sm_h_eq h1) rfl ?_
    refine rl_S1 (pc := 16) RS dX4_readNumber_16 lkX4_48 (Nat.le_of_ble_eq_true rfl) (bs_X4_faultAt) ?_
    exact rl_ireturn (pc := 19) E dX4_readNumber_19 rfl rfl (rfl)
theorem bs_X4_readDay {k2 c2 n : Nat} {F : Nat → Int32} (h1 : h[k]? = some (hT c m p)) (h2 : h[c]? = some (hI 200 f)) (h3 : h[k2]? = some (hO 0 [.ref c2, .int (nI n)])) (h4 : h[c2]? = some (hI 84 F)) (hm : m ≤ 200) (hp : p ≤ m) (hn : n < 28) : BS (d + 5) false yX4_readDay [.ref k, .ref k2] h (some (.int (rdS f m p).1)) (if (rdS f m p).1 = 0 then ((h.set k (hT c m (rdS f m p).2.1)).set c2 (hI 84 (up3 F n (rdS f m p).2.2.1 (rdS f m p).2.2.2.1 (rdS f m p).2.2.2.2))).set k2 (hO 0 [.ref c2, .int (nI (n + 1))]) else h.set k (hT c m (rdS f m p).2.1)) := by
  have hle := nbP_le f (m - p) p
  have hk2 : k ≠ k2 := fun e => by subst e; rw [h1] at h3; cases h3
  generalize hr : rdS f m p = r
  rw [rdS] at hr
  generalize hP : nbP f (m - p) p = P at hle hr
  by_cases hsg : nbV f m P = 43 ∨ nbV f m P = 45
  · rw [if_pos hsg] at hr
    have hPm : P < m := by rcases hsg with hv | hv <;> exact nbV_lt hv (by decide)
    have hq := rnS_le f m (P + 1) (by omega)
    have b1 : (h.set k (hT c m (P + 1)))[k]? = some (hT c m (P + 1)) := sm_h_eq h1
    have b2 : (h.set k (hT c m (P + 1)))[c]? = some (hI 200 f) := sm_h_io h2 h1
    generalize hQ : rnS f m (P + 1) = Q at hq hr
    have d1 : (h.set k (hT c m Q.2))[k]? = some (hT c m Q.2) := sm_h_eq h1
    have d2 : (h.set k (hT c m Q.2))[c]? = some (hI 200 f) := sm_h_io h2 h1
    have hle3 := nbP_le f (m - Q.2) Q.2
    generalize hT3 : nbP f (m - Q.2) Q.2 = T at hr hle3
    have t1 : (h.set k (hT c m T))[k]? = some (hT c m T) := sm_h_eq h1
    have hC := rdC_le f m T (by omega)
    have g3 : ∀ x : Nat, (h.set k (hT c m x))[k2]? = some (hO 0 [.ref c2, .int (nI n)]) := fun x => sm_h_ne h3 h1 (Ne.symm hk2)
    have g4 : ∀ x : Nat, (h.set k (hT c m x))[c2]? = some (hI 84 F) := fun x => sm_h_io h4 h1
    refine bs_of mtX4_readDay rfl (Nat.le_of_ble_eq_true rfl) (fun K R RV RS E => ?_)
    show K 0 [_, _, _, _, _] [] _
    have last : ∀ (cost : Int32) (q : Nat), (cost, q) = rdC f m T → ¬ Q.1 < 0 → K 74 [some (.ref k), some (.ref k2), some (.int (nbV f m P)), some (.int Q.1), some (.int cost)] [] (h.set k (hT c m q)) := by
      intro cost q he hq0
      have e1 : (rdC f m T).1 = cost := by rw [← he]
      have e2 : (rdC f m T).2 = q := by rw [← he]
      by_cases hc : cost < 0
      · rw [if_neg hq0, if_pos (by rw [e1]; exact hc), e1, e2] at hr
        subst hr
        have hz : ¬ cost = 0 := fun z => by subst z; exact absurd hc (by decide)
        simp only [if_neg hz] at E
        refine rl_iload (pc := 74) R dX4_readDay_74 rfl ?_
        refine rl_if_ge (pc := 76) (tgt := 82) R dX4_readDay_76 rfl (fun c76 => absurd c76 (Int32.not_le.mpr hc)) (fun c76 => ?_)
        refine rl_iload (pc := 79) R dX4_readDay_79 rfl ?_
        exact rl_ireturn (pc := 81) E dX4_readDay_81 rfl rfl (rfl)
      · rw [if_neg hq0, if_neg (by rw [e1]; exact hc), e1, e2] at hr
        subst hr
        simp only [if_true] at E
        have fin : ∀ s : Int32, s = (if nbV f m P = 43 then 1 else 0) → K 94 [some (.ref k), some (.ref k2), some (.int (nbV f m P)), some (.int Q.1), some (.int cost)] [.int s, .ref k2] (h.set k (hT c m q)) := by
          intro s hs
          subst hs
          refine rl_iload_n (pc := 94) R dX4_readDay_94 rfl ?_
          refine rl_iload (pc := 95) R dX4_readDay_95 rfl ?_
          refine rl_V3 (pc := 97) RV dX4_readDay_97 lkX4_55 (g3 q) rfl (Nat.le_of_ble_eq_true rfl) (bs_X0_add (g3 q) (g4 q) hn) ?_
          refine rl_pop (pc := 100) R dX4_readDay_100 rfl ?_
          refine rl_iconst (pc := 101) R dX4_readDay_101 ic_0 ?_
          exact rl_ireturn (pc := 102) E dX4_readDay_102 rfl rfl (rfl)
        refine rl_iload (pc := 74) R dX4_readDay_74 rfl ?_
        refine rl_if_ge (pc := 76) (tgt := 82) R dX4_readDay_76 rfl (fun c76 => ?_) (fun c76 => absurd (Int32.not_lt.mp hc) c76)
        refine rl_aload_n (pc := 82) R dX4_readDay_82 rfl ?_
        refine rl_iload_n (pc := 83) R dX4_readDay_83 rfl ?_
        refine rl_bipush (pc := 84) R dX4_readDay_84 bc_43 ?_
        refine rl_icmp_ne (pc := 86) (tgt := 93) R dX4_readDay_86 rfl (fun c86 => ?_) (fun c86 => ?_)
        · refine rl_iconst (pc := 93) R dX4_readDay_93 ic_0 ?_
          first | exact fin 0 (by rw [if_neg c86]) | exact fin 1 (by rw [if_pos c86])
        · refine rl_iconst (pc := 89) R dX4_readDay_89 ic_1 ?_
          refine rl_goto (pc := 90) (tgt := 94) R dX4_readDay_90 rfl ?_
          first | exact fin 0 (by rw [if_neg c86]) | exact fin 1 (by rw [if_pos c86])
    have mid : K 35 [some (.ref k), some (.ref k2), some (.int (nbV f m P)), none, none] [] (h.set k (hT c m (P + 1))) := by
      by_cases hq0 : Q.1 < 0
      · rw [if_pos hq0] at hr
        subst hr
        have hz : ¬ Q.1 = 0 := fun z => by rw [z] at hq0; exact absurd hq0 (by decide)
        simp only [if_neg hz] at E
        refine rl_aload_n (pc := 35) R dX4_readDay_35 rfl ?_
        refine rl_V0 (pc := 36) RV dX4_readDay_36 lkX4_52 b1 rfl (Nat.le_of_ble_eq_true rfl) (bs_X4_readNumber b1 b2 hm (by omega)) ?_
        rw [hQ, List.set_set]
        refine rl_istore_n (pc := 39) R dX4_readDay_39 (Nat.le_of_ble_eq_true rfl) rfl ?_
        show K _ [_, _, _, _, _] _ _
        refine rl_iload_n (pc := 40) R dX4_readDay_40 rfl ?_
        refine rl_if_ge (pc := 41) (tgt := 46) R dX4_readDay_41 rfl (fun c41 => absurd c41 (Int32.not_le.mpr hq0)) (fun c41 => ?_)
        refine rl_iload_n (pc := 44) R dX4_readDay_44 rfl ?_
        exact rl_ireturn (pc := 45) E dX4_readDay_45 rfl rfl (rfl)
      · refine rl_aload_n (pc := 35) R dX4_readDay_35 rfl ?_
        refine rl_V0 (pc := 36) RV dX4_readDay_36 lkX4_52 b1 rfl (Nat.le_of_ble_eq_true rfl) (bs_X4_readNumber b1 b2 hm (by omega)) ?_
        rw [hQ, List.set_set]
        refine rl_istore_n (pc := 39) R dX4_readDay_39 (Nat.le_of_ble_eq_true rfl) rfl ?_
        show K _ [_, _, _, _, _] _ _
        refine rl_iload_n (pc := 40) R dX4_readDay_40 rfl ?_
        refine rl_if_ge (pc := 41) (tgt := 46) R dX4_readDay_41 rfl (fun c41 => ?_) (fun c41 => absurd (Int32.not_lt.mp hq0) c41)
        refine rl_iconst (pc := 46) R dX4_readDay_46 ic_0 ?_
        refine rl_istore (pc := 47) R dX4_readDay_47 (Nat.le_of_ble_eq_true rfl) rfl ?_
        show K _ [_, _, _, _, _] _ _
        refine rl_aload_n (pc := 49) R dX4_readDay_49 rfl ?_
        refine rl_V0 (pc := 50) RV dX4_readDay_50 lkX4_39 d1 rfl (Nat.le_of_ble_eq_true rfl) (bs_X4_nextByte d1 d2 hm (by omega)) ?_
        rw [hT3, List.set_set]
        refine rl_bipush (pc := 53) R dX4_readDay_53 bc_47 ?_
        refine rl_icmp_ne (pc := 55) (tgt := 74) R dX4_readDay_55 rfl (fun c55 => ?_) (fun c55 => ?_)
        · exact last 0 T (by rw [rdC, if_neg c55]) hq0
        · refine rl_aload_n (pc := 58) R dX4_readDay_58 rfl ?_
          refine rl_dup (pc := 59) R dX4_readDay_59 rfl ?_
          refine rl_getf (pc := 60) R dX4_readDay_60 fkX4_19 t1 rfl ?_
          refine rl_iconst (pc := 63) R dX4_readDay_63 ic_1 ?_
          refine rl_iadd (pc := 64) R dX4_readDay_64 ?_
          rw [nI_1]
          refine rl_putI (pc := 65) R dX4_readDay_65 fpX4_19 t1 (Nat.le_of_ble_eq_true rfl) ?_
          rw [List.set_set]
          refine rl_aload_n (pc := 68) R dX4_readDay_68 rfl ?_
          refine rl_V0 (pc := 69) RV dX4_readDay_69 lkX4_52 (sm_h_eq h1) rfl (Nat.le_of_ble_eq_true rfl) (bs_X4_readNumber (sm_h_eq h1) (sm_h_io h2 h1) hm (by have := nbV_lt c55 (by decide); omega)) ?_
          rw [List.set_set]
          refine rl_istore (pc := 72) R dX4_readDay_72 (Nat.le_of_ble_eq_true rfl) rfl ?_
          exact last (rnS f m (T + 1)).1 (rnS f m (T + 1)).2 (by rw [rdC, if_pos c55]) hq0
    have plus : K 25 [some (.ref k), some (.ref k2), some (.int (nbV f m P)), none, none] [] (h.set k (hT c m P)) := by
      refine rl_aload_n (pc := 25) R dX4_readDay_25 rfl ?_
      refine rl_dup (pc := 26) R dX4_readDay_26 rfl ?_
      refine rl_getf (pc := 27) R dX4_readDay_27 fkX4_19 (sm_h_eq h1) rfl ?_
      refine rl_iconst (pc := 30) R dX4_readDay_30 ic_1 ?_
      refine rl_iadd (pc := 31) R dX4_readDay_31 ?_
      rw [nI_1]
      refine rl_putI (pc := 32) R dX4_readDay_32 fpX4_19 (sm_h_eq h1) (Nat.le_of_ble_eq_true rfl) ?_
      rw [List.set_set]
      exact mid
    refine rl_aload_n (pc := 0) R dX4_readDay_0 rfl ?_
    refine rl_V0 (pc := 1) RV dX4_readDay_1 lkX4_39 h1 rfl (Nat.le_of_ble_eq_true rfl) (bs_X4_nextByte h1 h2 hm hp) ?_
    rw [hP]
    refine rl_istore_n (pc := 4) R dX4_readDay_4 (Nat.le_of_ble_eq_true rfl) rfl ?_
    show K _ [_, _, _, _, _] _ _
    refine rl_iload_n (pc := 5) R dX4_readDay_5 rfl ?_
    refine rl_bipush (pc := 6) R dX4_readDay_6 bc_43 ?_
    refine rl_icmp_eq (pc := 8) (tgt := 25) R dX4_readDay_8 rfl (fun c8 => ?_) (fun c8 => ?_)
    · exact plus
    · refine rl_iload_n (pc := 11) R dX4_readDay_11 rfl ?_
      refine rl_bipush (pc := 12) R dX4_readDay_12 bc_45 ?_
      refine rl_icmp_eq (pc := 14) (tgt := 25) R dX4_readDay_14 rfl (fun c14 => ?_) (fun c14 => absurd (hsg.resolve_left c8) c14)
      exact plus
  · rw [if_neg hsg] at hr
    subst hr
    have hz : ¬ flt P = 0 := by
      intro z
      have z2 : (-20 : Int32) = nI P := by
        have : (-20 : Int32) - nI P + nI P = 0 + nI P := by rw [show (-20 : Int32) - nI P = 0 from z]
        rw [Int32.sub_add_cancel, Int32.zero_add] at this
        exact this
      have z3 := congrArg Int32.toInt z2
      rw [nI_toInt (by omega)] at z3
      have : (-20 : Int32).toInt = -20 := by decide
      omega
    simp only [if_neg hz]
    refine bs_of mtX4_readDay rfl (Nat.le_of_ble_eq_true rfl) (fun K R RV RS E => ?_)
    show K 0 [_, _, _, _, _] [] _
    refine rl_aload_n (pc := 0) R dX4_readDay_0 rfl ?_
    refine rl_V0 (pc := 1) RV dX4_readDay_1 lkX4_39 h1 rfl (Nat.le_of_ble_eq_true rfl) (bs_X4_nextByte h1 h2 hm hp) ?_
    rw [hP]
    refine rl_istore_n (pc := 4) R dX4_readDay_4 (Nat.le_of_ble_eq_true rfl) rfl ?_
    show K _ [_, _, _, _, _] _ _
    refine rl_iload_n (pc := 5) R dX4_readDay_5 rfl ?_
    refine rl_bipush (pc := 6) R dX4_readDay_6 bc_43 ?_
    refine rl_icmp_eq (pc := 8) (tgt := 25) R dX4_readDay_8 rfl (fun c8 => absurd c8 (fun z => hsg (Or.inl z))) (fun c8 => ?_)
    refine rl_iload_n (pc := 11) R dX4_readDay_11 rfl ?_
    refine rl_bipush (pc := 12) R dX4_readDay_12 bc_45 ?_
    refine rl_icmp_eq (pc := 14) (tgt := 25) R dX4_readDay_14 rfl (fun c14 => absurd c14 (fun z => hsg (Or.inr z))) (fun c14 => ?_)
    refine rl_aload_n (pc := 17) R dX4_readDay_17 rfl ?_
    refine rl_getf (pc := 18) R dX4_readDay_18 fkX4_19 (sm_h_eq h1) rfl ?_
    refine rl_S1 (pc := 21) RS dX4_readDay_21 lkX4_48 (Nat.le_of_ble_eq_true rfl) (bs_X4_faultAt) ?_
    exact rl_ireturn (pc := 24) E dX4_readDay_24 rfl rfl (rfl)
end TP
