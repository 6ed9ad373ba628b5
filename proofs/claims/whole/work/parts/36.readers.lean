/-! THE TWO READERS of a year -/
def RE (F D : Nat → Int32) (n : Nat) : Prop := ∀ i, i < n → (F (i * 3) = D i ∧ F (i * 3 + 1) = D (28 + i) ∧ F (i * 3 + 2) = D (56 + i)) ∧ (D i = 0 ∨ D i = 1) ∧ isW (D (28 + i)) 0 99 = true ∧ isW (D (56 + i)) 0 99 = true
section RD
variable {f : Nat → Int32} {m : Nat}
theorem dig_n {x : Int32} (h : isW x 48 57 = true) : ∃ b : Nat, b ≤ 9 ∧ x = nI (48 + b) := by
  rw [isW_i, show (48 : Int32).toInt = 48 from rfl, show (57 : Int32).toInt = 57 from rfl] at h
  refine ⟨x.toInt.toNat - 48, by omega, ?_⟩
  apply Int32.toInt_inj.mp
  rw [nI_toInt (by omega)]
  omega
/-- both values of a number so far -/
def RV2 (x v : Int32) : Prop := ∃ a : Nat, a ≤ 999 ∧ v = nI a ∧ x = nI (min a 100)
theorem num_run : ∀ (j p : Nat) (x v : Int32), RV2 x v → (rnL f j p x).1 = (tkL f j p v).1 ∧ RV2 (rnL f j p x).2 (tkL f j p v).2
  | 0, p, x, v, h => ⟨rfl, h⟩
  | j + 1, p, x, v, h => by
    rw [rnL, tkL]
    by_cases c : isW (f p) 48 57 = true
    · rw [if_pos c, if_pos c]
      apply num_run
      obtain ⟨b, hb, e⟩ := dig_n c
      obtain ⟨a, ha, rfl, rfl⟩ := h
      rw [e]
      have e1 : nI (min a 100) * 10 + nI (48 + b) - 48 = nI (min a 100 * 10 + b) := by
        rw [show (10 : Int32) = nI 10 from rfl, pk_mul, nI_add, show (48 : Int32) = nI 48 from rfl, pk_sub (by omega)]
        congr 1
        omega
      have e2 : 10 * nI a + nI (48 + b) - 48 = nI (10 * a + b) := by
        rw [show (10 : Int32) = nI 10 from rfl, pk_mul, nI_add, show (48 : Int32) = nI 48 from rfl, pk_sub (by omega)]
        congr 1
        omega
      rw [e1, e2]
      by_cases a9 : 99 < a
      · rw [if_pos (show (99 : Int32) < nI a from nI_lt (a := 99) a9 (by omega)), if_neg (show ¬ nI (min a 100 * 10 + b) < 100 from nI_nlt (b := 100) (by omega) (by omega))]
        exact ⟨a, ha, rfl, by rw [show min a 100 = 100 by omega]; rfl⟩
      · rw [if_neg (show ¬ (99 : Int32) < nI a from nI_nlt (b := a) (a := 99) (by omega) (by decide))]
        refine ⟨10 * a + b, by omega, rfl, ?_⟩
        rw [show min a 100 = a by omega]
        by_cases q : a * 10 + b < 100
        · rw [if_pos (show nI (a * 10 + b) < 100 from nI_lt (b := 100) q (by decide))]
          congr 1; omega
        · rw [if_neg (show ¬ nI (a * 10 + b) < 100 from nI_nlt (b := 100) (by omega) (by omega)), show min (10 * a + b) 100 = 100 by omega]; rfl
    · rw [if_neg c, if_neg c]; exact ⟨rfl, h⟩
theorem num_eq {p i : Nat} {D : Nat → Int32} (hm : m ≤ 200) (hp : p ≤ m) : (rnS f m p).2 = (tkM f m i p D).2.1 ∧ (((tkM f m i p D).1 = -4 ∧ ∃ v, v ≤ 99 ∧ (rnS f m p).1 = nI v ∧ (tkM f m i p D).2.2 = upd D i (nI v)) ∨ (∃ e, e ≤ 200 ∧ (tkM f m i p D).1 = nI e ∧ (rnS f m p).1 = flt e)) := by
  have hle := nbP_le f (m - p) p
  unfold rnS tkM
  generalize nbP f (m - p) p = P at *
  by_cases c : isW (nbV f m P) 48 57 = true
  · rw [if_pos c, if_pos c]
    have h := num_run (f := f) (m - P) P 0 0 ⟨0, by omega, rfl, rfl⟩
    generalize rnL f (m - P) P 0 = r at h
    generalize tkL f (m - P) P 0 = t at h
    obtain ⟨h1, a, ha, e1, e2⟩ := h
    refine ⟨h1, ?_⟩
    simp only
    by_cases a9 : 99 < a
    · right
      refine ⟨P, by omega, ?_, ?_⟩
      · rw [e1, if_pos (show (99 : Int32) < nI a from nI_lt (a := 99) a9 (by omega))]
      · rw [e2, if_neg (show ¬ nI (min a 100) ≤ 99 from nI_ge (b := min a 100) (a := 99) (by omega) (by omega))]
    · left
      refine ⟨?_, a, by omega, ?_, by rw [e1]⟩
      · rw [e1, if_neg (show ¬ (99 : Int32) < nI a from nI_nlt (b := a) (a := 99) (by omega) (by decide))]
      · rw [e2, show min a 100 = a by omega, if_pos (show nI a ≤ 99 from nI_le (b := 99) (by omega) (by decide))]
  · rw [if_neg c, if_neg c]
    exact ⟨rfl, Or.inr ⟨P, by omega, rfl, rfl⟩⟩
theorem flt_neg {e : Nat} (h : e ≤ 200) : flt e < 0 := by
  unfold flt
  have : ∀ e : Fin 201, -20 - nI e.val < 0 := by decide +kernel
  exact this ⟨e, by omega⟩
theorem nI_99 {v : Nat} (h : v ≤ 99) : isW (nI v) 0 99 = true := by
  rw [isW_i, nI_toInt (by omega), i32_lit.1, i32_lit.2.2.2.2.2.2]; omega
theorem day_eq {p n : Nat} {D : Nat → Int32} (hm : m ≤ 200) (hp : p ≤ m) : ((tdM f m n p D).1 = -4 ∧ (rdS f m p).1 = 0 ∧ (tdM f m n p D).2.2.1 = n + 1 ∧ (rdS f m p).2.1 = (tdM f m n p D).2.1 ∧ ((rdS f m p).2.2.1 = 0 ∨ (rdS f m p).2.2.1 = 1) ∧ isW (rdS f m p).2.2.2.1 0 99 = true ∧ isW (rdS f m p).2.2.2.2 0 99 = true ∧ (tdM f m n p D).2.2.2 = upd (upd (upd D n (rdS f m p).2.2.1) (28 + n) (rdS f m p).2.2.2.1) (56 + n) (rdS f m p).2.2.2.2) ∨ (∃ e, e ≤ 200 ∧ (tdM f m n p D).1 = nI e ∧ (rdS f m p).1 = flt e) := by
  have hle := nbP_le f (m - p) p
  unfold rdS tdM
  generalize nbP f (m - p) p = P at *
  by_cases c : nbV f m P = 43 ∨ nbV f m P = 45
  · have hlt : P < m := by rcases c with hv | hv <;> exact nbV_lt hv (by decide)
    rw [if_pos c, if_pos c]
    have hs : (if nbV f m P = 43 then (1 : Int32) else 0) = 0 ∨ (if nbV f m P = 43 then (1 : Int32) else 0) = 1 := by split <;> simp
    generalize (if nbV f m P = 43 then (1 : Int32) else 0) = sg at *
    have hN := num_eq (f := f) (i := 28 + n) (D := upd D n sg) hm (show P + 1 ≤ m by omega)
    have hl1 := rnS_le f m (P + 1) (by omega)
    generalize rnS f m (P + 1) = r at *
    generalize tkM f m (28 + n) (P + 1) (upd D n sg) = t at *
    obtain ⟨e1, hN⟩ := hN
    rcases hN with ⟨k4, v, hv, er, eD⟩ | ⟨e, he, ek, er⟩
    · rw [if_neg (by rw [er]; exact nI_pos (by omega))]
      unfold tdC
      rw [if_pos k4, ← e1]
      have hl2 := nbP_le f (m - r.2) r.2
      generalize nbP f (m - r.2) r.2 = T at *
      unfold rdC
      by_cases c2 : nbV f m T = 47
      · have hlt2 := nbV_lt c2 (by decide)
        rw [if_pos c2, if_pos c2]
        have hN2 := num_eq (f := f) (i := 56 + n) (D := upd t.2.2 (56 + n) 0) hm (show T + 1 ≤ m by omega)
        generalize rnS f m (T + 1) = r2 at *
        generalize tkM f m (56 + n) (T + 1) (upd t.2.2 (56 + n) 0) = t2 at *
        obtain ⟨e2, hN2⟩ := hN2
        rcases hN2 with ⟨k42, v2, hv2, er2, eD2⟩ | ⟨e, he, ek, er⟩
        · left
          rw [if_neg (by rw [er2]; exact nI_pos (by omega))]
          refine ⟨k42, rfl, rfl, e2, hs, by rw [er]; exact nI_99 hv, by rw [er2]; exact nI_99 hv2, ?_⟩
          show t2.2.2 = _
          simp only
          rw [eD2, upd_upd, eD, er, er2]
        · right
          rw [if_pos (by rw [er]; exact flt_neg he)]
          exact ⟨e, he, ek, er⟩
      · rw [if_neg c2, if_neg c2, if_neg (show ¬ ((0 : Int32), T).1 < 0 by show ¬ (0 : Int32) < 0; decide)]
        left
        refine ⟨k4, rfl, rfl, rfl, hs, by rw [er]; exact nI_99 hv, (by decide : isW 0 0 99 = true), ?_⟩
        simp only
        rw [eD, er]
    · right
      rw [if_pos (by rw [er]; exact flt_neg he)]
      unfold tdC
      rw [if_neg (by rw [ek]; exact nI_n4 he)]
      exact ⟨e, he, ek, er⟩
  · rw [if_neg c, if_neg c]
    exact Or.inr ⟨P, by omega, rfl, rfl⟩
def OT (r : Int32 × Nat × Nat × (Nat → Int32)) (y : Int32 × Nat × Nat × (Nat → Int32)) : Prop := (y.1 = -4 ∧ r.1 = nI r.2.2.1 ∧ r.2.2.1 = y.2.2.1 ∧ y.2.2.1 ≤ 28 ∧ RE r.2.2.2 y.2.2.2 y.2.2.1) ∨ (∃ e, e ≤ 200 ∧ y.1 = nI e ∧ r.1 = flt e)
theorem RE_up {F D : Nat → Int32} {n : Nat} {a b c : Int32} (h : RE F D n) (hn : n < 28) (ha : a = 0 ∨ a = 1) (hb : isW b 0 99 = true) (hc : isW c 0 99 = true) : RE (up3 F n a b c) (upd (upd (upd D n a) (28 + n) b) (56 + n) c) (n + 1) := by
  intro i hi
  unfold up3
  by_cases q : i = n
  · subst q
    rw [upd_ne _ _ (show i * 3 ≠ i * 3 + 2 by omega), upd_ne _ _ (show i * 3 ≠ i * 3 + 1 by omega), Nat.add_zero, upd_same, upd_ne _ _ (show i * 3 + 1 ≠ i * 3 + 2 by omega), upd_same, upd_same]
    rw [upd_ne _ _ (show i ≠ 56 + i by omega), upd_ne _ _ (show i ≠ 28 + i by omega), upd_same, upd_ne _ _ (show 28 + i ≠ 56 + i by omega), upd_same, upd_same]
    exact ⟨⟨rfl, rfl, rfl⟩, ha, hb, hc⟩
  · have := h i (by omega)
    rw [Nat.add_zero]
    rw [upd_ne _ _ (show i * 3 ≠ n * 3 + 2 by omega), upd_ne _ _ (show i * 3 ≠ n * 3 + 1 by omega), upd_ne _ _ (show i * 3 ≠ n * 3 by omega), upd_ne _ _ (show i * 3 + 1 ≠ n * 3 + 2 by omega), upd_ne _ _ (show i * 3 + 1 ≠ n * 3 + 1 by omega), upd_ne _ _ (show i * 3 + 1 ≠ n * 3 by omega), upd_ne _ _ (show i * 3 + 2 ≠ n * 3 + 2 by omega), upd_ne _ _ (show i * 3 + 2 ≠ n * 3 + 1 by omega), upd_ne _ _ (show i * 3 + 2 ≠ n * 3 by omega)]
    rw [upd_ne _ _ (show i ≠ 56 + n by omega), upd_ne _ _ (show i ≠ 28 + n by omega), upd_ne _ _ (show i ≠ n by omega), upd_ne _ _ (show 28 + i ≠ 56 + n by omega), upd_ne _ _ (show 28 + i ≠ 28 + n by omega), upd_ne _ _ (show 28 + i ≠ n by omega), upd_ne _ _ (show 56 + i ≠ 56 + n by omega), upd_ne _ _ (show 56 + i ≠ 28 + n by omega), upd_ne _ _ (show 56 + i ≠ n by omega)]
    exact this
theorem yr_eq (hm : m ≤ 200) (hf : ∀ q, q < m → isW (f q) 32 126 = true) : ∀ (j n p : Nat) (F D : Nat → Int32), n + j = 27 → p ≤ m → RE F D n → OT (riS f m (j + 1) p n F) (yrL f m (29 - n) (tdM f m n p D).1 (tdM f m n p D).2.1 (tdM f m n p D).2.2.1 (tdM f m n p D).2.2.2) := by
  intro j
  induction j with
  | zero =>
    intro n p F D hn hp hRE
    have hD := day_eq (f := f) (n := n) (D := D) hm hp
    have hle := rdS_le f m p hp
    rw [riS]
    generalize rdS f m p = r at *
    generalize tdM f m n p D = t at *
    rw [show 29 - n = (28 - n) + 1 by omega, yrL]
    rcases hD with ⟨k4, r0, tn, ep, ha, hb, hc, eD⟩ | ⟨e, he, ek, er⟩
    · rw [if_pos r0, if_pos k4, ← ep]
      have hl2 := nbP_le f (m - r.2.1) r.2.1
      generalize nbP f (m - r.2.1) r.2.1 = T at *
      by_cases hT : T < m
      · have hb2 := (isW_i _ _ _).mp (hf T hT)
        rw [show (32 : Int32).toInt = 32 from rfl, show (126 : Int32).toInt = 126 from rfl] at hb2
        have v1 : nbV f m T = f T := by unfold nbV; rw [if_pos hT]
        rw [v1, if_neg (fun z => by rw [z, show (-1 : Int32).toInt = -1 from rfl] at hb2; omega), if_neg (fun z => by omega), if_neg (fun z => by rw [Int32.lt_iff_toInt_lt, i32_lit.1] at z; omega), if_neg (fun z => by omega)]
        exact Or.inr ⟨T, by omega, rfl, rfl⟩
      · have v1 : nbV f m T = -1 := by unfold nbV; rw [if_neg hT]
        rw [v1, if_pos rfl, if_pos (by decide)]
        refine Or.inl ⟨k4, rfl, tn.symm, by simp only; omega, ?_⟩
        simp only
        rw [tn, eD]
        exact RE_up hRE (by omega) ha hb hc
    · rw [if_neg (by rw [er]; exact Int32.ne_of_lt (flt_neg he)), if_neg (by rw [ek]; exact nI_n4 he)]
      exact Or.inr ⟨e, he, ek, er⟩
  | succ j ih =>
    intro n p F D hn hp hRE
    have hD := day_eq (f := f) (n := n) (D := D) hm hp
    have hle := rdS_le f m p hp
    rw [riS]
    generalize rdS f m p = r at *
    generalize tdM f m n p D = t at *
    rw [show 29 - n = (28 - n) + 1 by omega, yrL]
    rcases hD with ⟨k4, r0, tn, ep, ha, hb, hc, eD⟩ | ⟨e, he, ek, er⟩
    · rw [if_pos r0, if_pos k4, ← ep]
      have hl2 := nbP_le f (m - r.2.1) r.2.1
      generalize nbP f (m - r.2.1) r.2.1 = T at *
      by_cases hT : T < m
      · have hb2 := (isW_i _ _ _).mp (hf T hT)
        rw [show (32 : Int32).toInt = 32 from rfl, show (126 : Int32).toInt = 126 from rfl] at hb2
        have v1 : nbV f m T = f T := by unfold nbV; rw [if_pos hT]
        rw [v1, if_neg (fun z => by rw [z, show (-1 : Int32).toInt = -1 from rfl] at hb2; omega), if_neg (c := f T < 0) (fun z => by rw [Int32.lt_iff_toInt_lt, i32_lit.1] at z; omega)]
        by_cases c44 : f T = 44
        · rw [if_pos ⟨c44, by omega⟩, if_pos ⟨c44, by omega⟩, tn, eD, show 28 - n = 29 - (n + 1) by omega]
          exact ih (n + 1) (T + 1) _ _ (by omega) (by omega) (RE_up hRE (by omega) ha hb hc)
        · rw [if_neg (fun z => c44 z.1), if_neg (fun z => c44 z.1)]
          exact Or.inr ⟨T, by omega, rfl, rfl⟩
      · have v1 : nbV f m T = -1 := by unfold nbV; rw [if_neg hT]
        rw [v1, if_pos rfl, if_pos (by decide)]
        refine Or.inl ⟨k4, rfl, tn.symm, by simp only; omega, ?_⟩
        simp only
        rw [tn, eD]
        exact RE_up hRE (by omega) ha hb hc
    · rw [if_neg (by rw [er]; exact Int32.ne_of_lt (flt_neg he)), if_neg (by rw [ek]; exact nI_n4 he)]
      exact Or.inr ⟨e, he, ek, er⟩
theorem year_eq (hm : m ≤ 200) (hf : ∀ q, q < m → isW (f q) 32 126 = true) (F D : Nat → Int32) : OT (riS f m 28 0 0 F) (yrM f m D) :=
  yr_eq hm hf 27 0 0 F D rfl (Nat.zero_le _) (fun i hi => absurd hi (Nat.not_lt_zero _))
end RD
