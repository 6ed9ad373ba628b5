/-! SHEETS: what one side keeps, the other keeps -/
theorem i64_add (x y : Int32) : (x.toInt64 + y.toInt64).toInt = x.toInt + y.toInt := by
  have hx := fb_rng' x
  have hy := fb_rng' y
  rw [Int64.toInt_add, Int32.toInt_toInt64, Int32.toInt_toInt64]
  exact Int.bmod_eq_of_le (by omega) (by omega)
def SH (lane mm z l : Int32) : Prop := (lane = -1 ∧ z = -1) ∨ (∃ M : Nat, M ≤ 28 ∧ isW l 0 2 = true ∧ lane = l ∧ mm = nI M ∧ z = nI M)
theorem ln_ne {l : Int32} (h : isW l 0 2 = true) : ¬ l = -1 := by
  intro e; rw [e] at h; revert h; decide
theorem cov_i {M : Nat} (hM : M ≤ 28) {x y : Int32} (hy : ¬ y < 0) : (cov (nI M) x y = true) ↔ (0 ≤ x.toInt ∧ x.toInt + y.toInt ≤ M) := by
  have hx := fb_rng' x
  rw [Int32.lt_iff_toInt_lt, i32_lit.1] at hy
  unfold cov
  simp only [Bool.and_eq_true, Bool.not_eq_true', decide_eq_false_iff_not, Int32.lt_iff_toInt_lt, i32_lit.1, nI_toInt (show M < 2 ^ 31 by omega)]
  by_cases c : 0 ≤ x.toInt ∧ x.toInt ≤ M
  · have e : (nI M - x).toInt = (M : Int) - x.toInt := by
      rw [Int32.toInt_sub, nI_toInt (by omega)]
      exact Int.bmod_eq_of_le (by omega) (by omega)
    rw [e]; omega
  · constructor
    · rintro ⟨_, a, b, _⟩; omega
    · rintro ⟨a, b⟩; omega
theorem fd_eq {lane mm z lf l x y : Int32} (h : SH lane mm z lf) (hy : ¬ y < 0) : shR lane mm l x y = fdM z lf l x y := by
  unfold shR fdM
  rcases h with ⟨h1, h2⟩ | ⟨M, hM, hl, h1, h2, h3⟩
  · rw [if_pos h1, if_pos (by rw [h2]; decide)]
  · rw [h1, h2, h3, if_neg (ln_ne hl), if_neg (nI_pos (by omega))]
    by_cases c : lf = l
    · rw [if_pos c, if_pos c]
      have hc := cov_i hM (x := x) hy
      have e64 : ((nI M).toInt64 < x.toInt64 + y.toInt64) ↔ (M : Int) < x.toInt + y.toInt := by
        rw [Int64.lt_iff_toInt_lt, i64_add, Int32.toInt_toInt64, nI_toInt (by omega)]
      by_cases x0 : x < 0
      · rw [if_pos x0, if_neg]
        intro z
        have := hc.mp z
        rw [Int32.lt_iff_toInt_lt, i32_lit.1] at x0
        omega
      · rw [if_neg x0]
        rw [Int32.lt_iff_toInt_lt, i32_lit.1] at x0
        by_cases c2 : (nI M).toInt64 < x.toInt64 + y.toInt64
        · rw [if_pos c2, if_neg]
          intro z
          have := hc.mp z
          have := e64.mp c2
          omega
        · rw [if_neg c2, if_pos]
          refine hc.mpr ⟨by omega, ?_⟩
          apply Int.not_lt.mp
          exact fun z => c2 (e64.mpr z)
    · rw [if_neg c, if_neg c]
theorem fd_in {lane mm z lf l x y : Int32} (h : SH lane mm z lf) (hy : ¬ y < 0) (h0 : shR lane mm l x y = 0) : lane = l ∧ lane = lf ∧ ¬ z < 0 ∧ ∃ M a : Nat, M ≤ 28 ∧ mm = nI M ∧ z = nI M ∧ x = nI a ∧ (a : Int) + y.toInt ≤ M := by
  unfold shR at h0
  rcases h with ⟨h1, h2⟩ | ⟨M, hM, hl, h1, h2, h3⟩
  · rw [if_pos h1] at h0; exact absurd h0 (by decide)
  · rw [if_neg (by rw [h1]; exact ln_ne hl)] at h0
    by_cases c : lane = l
    · rw [if_pos c] at h0
      by_cases c2 : cov mm x y = true
      · rw [h2] at c2
        have := (cov_i hM hy).mp c2
        have hx := fb_rng' x
        rw [Int32.lt_iff_toInt_lt, i32_lit.1] at hy
        refine ⟨c, h1, by rw [h3]; exact nI_pos (by omega), M, x.toInt.toNat, hM, h2, h3, ?_, by omega⟩
        apply Int32.toInt_inj.mp
        rw [nI_toInt (by omega)]; omega
      · rw [if_neg c2] at h0; exact absurd h0 (by decide)
    · rw [if_neg c] at h0; exact absurd h0 (by decide)
theorem fd_0 {z lf l x y : Int32} : fdM z lf l x y = 0 ∨ fdM z lf l x y < 0 := by
  unfold fdM
  split
  · right; decide
  · split
    · split
      · right; decide
      · split
        · right; decide
        · left; rfl
    · right; decide
theorem cp_eq {lane1 m1 lane2 m2 z1 z2 l1 l2 i j k : Int32} (h1 : SH lane1 m1 z1 l1) (h2 : SH lane2 m2 z2 l2) : cpR lane1 m1 lane2 m2 i j k = cyR z1 z2 l1 l2 i j k := by
  unfold cpR cyR
  have a1 : (lane1 = -1) ↔ z1 < 0 := by
    rcases h1 with ⟨p, q⟩ | ⟨M, hM, hl, p, q, r⟩
    · rw [p, q]; decide
    · rw [p, r]; exact ⟨fun z => absurd z (ln_ne hl), fun z => absurd z (nI_pos (by omega))⟩
  have a2 : (lane2 = -1) ↔ z2 < 0 := by
    rcases h2 with ⟨p, q⟩ | ⟨M, hM, hl, p, q, r⟩
    · rw [p, q]; decide
    · rw [p, r]; exact ⟨fun z => absurd z (ln_ne hl), fun z => absurd z (nI_pos (by omega))⟩
  by_cases c : z1 < 0 ∨ z2 < 0
  · rw [if_pos c, if_pos (by rw [a1, a2]; exact c)]
  · rw [if_neg c, if_neg (by rw [a1, a2]; exact c)]
    have b1 : lane1 = l1 := by
      rcases h1 with ⟨p, q⟩ | ⟨M, hM, hl, p, q, r⟩
      · exact absurd (Or.inl (a1.mp p)) c
      · exact p
    have b2 : lane2 = l2 := by
      rcases h2 with ⟨p, q⟩ | ⟨M, hM, hl, p, q, r⟩
      · exact absurd (Or.inr (a2.mp p)) c
      · exact p
    rw [b1, b2]
    by_cases c3 : l1 = l2
    · rw [if_pos c3, if_pos c3]
      by_cases k0 : k < 0
      · have e : cov m1 i k = false := by unfold cov; rw [decide_eq_true k0]; rfl
        rw [if_pos (Or.inl k0), e]; rfl
      · have f1 := fd_eq (l := l1) (x := i) h1 k0
        have f2 := fd_eq (l := l2) (x := j) h2 k0
        have n1 : ¬ l1 = -1 := by rw [← b1]; exact fun z => c (Or.inl (a1.mp z))
        have n2 : ¬ l2 = -1 := by rw [← b2]; exact fun z => c (Or.inr (a2.mp z))
        unfold shR at f1 f2
        rw [b1, if_neg n1, if_pos rfl] at f1
        rw [b2, if_neg n2, if_pos rfl] at f2
        rw [← f1, ← f2]
        cases cov m1 i k <;> cases cov m2 j k <;> simp [k0] <;> decide
    · rw [if_neg c3, if_neg c3]
/-- what is written to a sheet's days is a set -/
theorem rd_eq {f g : Nat → Int32} {n q : Nat} (hn : n ≤ 28) : ∀ (j k L : Nat) (s : Int32), (∀ t, k ≤ t → t < k + j → f t = g (q + t)) → un s < 2 ^ L → (0 < L → 2 ^ (L - 1) ≤ un s) → L ≤ n → (∃ s', jdM g n q j k s = some s' ∧ rdD f (nI n) j k (pm L) s = s' ∧ un s' < 2 ^ n) ∨ (jdM g n q j k s = none ∧ rdD f (nI n) j k (pm L) s = -2)
  | 0, k, L, s, _, h1, _, h3 => Or.inl ⟨s, rfl, rfl, Nat.lt_of_lt_of_le h1 (Nat.pow_le_pow_right (by decide) h3)⟩
  | j + 1, k, L, s, hf, h1, h2, h3 => by
    rw [jdM, rdD, ← hf k (Nat.le_refl _) (by omega)]
    have hiW : ∀ x : Int32, isW x 0 (nI n - 1) = (!decide (x < 0) && !decide (nI n ≤ x)) := fun x => (dy_eq hn x).symm
    have ti := fb_rng' (f k)
    generalize f k = x at *
    rw [hiW]
    have pmT : (pm L).toInt = (L : Int) - 1 := by
      cases L with
      | zero => rfl
      | succ L => show (nI L).toInt = _; rw [nI_toInt (by omega)]; omega
    have nT : (nI n).toInt = n := nI_toInt (by omega)
    by_cases c1 : x ≤ pm L
    · rw [if_pos c1]
      right
      refine ⟨?_, rfl⟩
      rw [Int32.le_iff_toInt_le, pmT] at c1
      by_cases x0 : x < 0
      · rw [decide_eq_true x0]; rfl
      · obtain ⟨v, hv, rfl⟩ := nI_of x0
        rw [nI_toInt hv] at c1
        have e31 : nI v &&& 31 = nI v &&& 31 := rfl
        have h5 : ¬ (s >>> (nI v &&& 31) = 0) := by
          rw [sshr_0 s (by omega)]
          have := h2 (by omega)
          have p : 2 ^ v ≤ 2 ^ (L - 1) := Nat.pow_le_pow_right (by decide) (by omega)
          omega
        rw [decide_eq_false h5, Bool.and_false]; rfl
    · rw [if_neg c1]
      rw [Int32.le_iff_toInt_le, pmT] at c1
      by_cases c2 : x < nI n
      · rw [if_pos c2]
        rw [Int32.lt_iff_toInt_lt, nT] at c2
        have x0 : ¬ x < 0 := by rw [Int32.lt_iff_toInt_lt, i32_lit.1]; omega
        have x1 : ¬ nI n ≤ x := by rw [Int32.le_iff_toInt_le, nT]; omega
        obtain ⟨v, hv, rfl⟩ := nI_of x0
        rw [nI_toInt hv] at c1 c2
        have hs : un s < 2 ^ v := Nat.lt_of_lt_of_le h1 (Nat.pow_le_pow_right (by decide) (by omega))
        rw [decide_eq_false x0, decide_eq_false x1, decide_eq_true ((sshr_0 s (by omega)).mpr hs)]
        rw [if_pos (by decide)]
        show (∃ s', jdM g n q j (k + 1) (s ||| b1 v) = some s' ∧ rdD f (nI n) j (k + 1) (pm (v + 1)) (s ||| b1 v) = s' ∧ _) ∨ (jdM g n q j (k + 1) (s ||| b1 v) = none ∧ rdD f (nI n) j (k + 1) (pm (v + 1)) (s ||| b1 v) = -2)
        refine rd_eq hn j (k + 1) (v + 1) _ (fun t t1 t2 => hf t (by omega) (by omega)) (or_b1_lt (by omega) hs) (fun _ => ?_) (by omega)
        rw [un_or, un_b1 (by omega), Nat.add_sub_cancel]
        exact Nat.right_le_or
      · rw [if_neg c2]
        right
        refine ⟨?_, rfl⟩
        rw [decide_eq_true (p := nI n ≤ x) (Int32.not_lt.mp c2)]
        simp
theorem un_m2 {s : Int32} {n : Nat} (hn : n ≤ 28) (h : un s < 2 ^ n) : ¬ s = -2 := by
  intro e
  rw [e] at h
  have p : 2 ^ n ≤ 2 ^ 28 := Nat.pow_le_pow_right (by decide) hn
  have e2 : un (-2) = 4294967294 := by decide +kernel
  omega
/-- what a day brings is a small number -/
theorem crt_i {n i : Nat} {nw wo co : Nat → Int32} {b : Bool} {l t : Int32} (hw : isW (wo i) 0 99 = true) (hc : isW (co i) 0 99 = true) : ∃ v : Int, -99 ≤ v ∧ v ≤ 99 ∧ (crt n nw wo co i b l t).toInt = v := by
  refine ⟨_, ?_, ?_, rfl⟩
  all_goals
    rw [isW_i, i32_lit.1, i32_lit.2.2.2.2.2.2] at hw hc
    unfold crt
    split
    · split
      · omega
      · split
        · have e : (-co i).toInt = -(co i).toInt := by
            rw [Int32.toInt_neg]; exact Int.bmod_eq_of_le (by omega) (by omega)
          rw [e]; omega
        · rw [i32_lit.1]; omega
    · rw [i32_lit.1]; omega
theorem nrw_id {lane v : Int32} (h1 : -99 ≤ v.toInt) (h2 : v.toInt ≤ 99) : nrw lane v = v := by
  have e8 : v.toInt8.toInt32 = v := by
    apply Int32.toInt_inj.mp
    rw [Int8.toInt_toInt32, Int32.toInt_toInt8]
    exact Int.bmod_eq_of_le (by omega) (by omega)
  have e16 : v.toInt16.toInt32 = v := by
    apply Int32.toInt_inj.mp
    rw [Int16.toInt_toInt32, Int32.toInt_toInt16]
    exact Int.bmod_eq_of_le (by omega) (by omega)
  unfold nrw
  split
  · exact e8
  · split
    · exact e16
    · rfl
theorem fm_eq {n : Nat} {nw wo co : Nat → Int32} {lies trust s lane : Int32} {k Q : Nat} (hg : ∀ i, i < n → isW (wo i) 0 99 = true ∧ isW (co i) 0 99 = true) (hn : n ≤ 28) (hk : k + n ≤ 28) : ∀ (j i : Nat) (f g : Nat → Int32), i + j = n → (∀ t, t < 28 → f t = g (Q + t)) → (∀ t, t < 28 → fmG n nw wo co lies trust s lane k j i f t = fmI n nw wo co trust s (Q + k) j i (lft lies s i) g (Q + t)) ∧ (∀ x, x < Q ∨ Q + 28 ≤ x → fmI n nw wo co trust s (Q + k) j i (lft lies s i) g x = g x)
  | 0, _, _, _, _, h => ⟨h, fun _ _ => rfl⟩
  | j + 1, i, f, g, hi, h => by
    rw [fmG, fmI, ← lft_s lies s (by omega)]
    have hgi := hg i (by omega)
    obtain ⟨v, v1, v2, ev⟩ := crt_i (n := n) (nw := nw) (b := bt s i) (l := lft lies s i) (t := trust) hgi.1 hgi.2
    have e : nrw lane (crt n nw wo co i (bt s i) (lft lies s i) trust) = crt n nw wo co i (bt s i) (lft lies s i) trust := nrw_id (by omega) (by omega)
    rw [e]
    generalize crt n nw wo co i (bt s i) (lft lies s i) trust = c
    have ih := fm_eq (lies := lies) (trust := trust) (s := s) (lane := lane) (nw := nw) (Q := Q) hg hn hk j (i + 1) (upd f (k + i) c) (upd g (Q + k + i) c) (by omega) (fun t ht => by
      by_cases q : t = k + i
      · subst q; rw [upd_same, show Q + (k + i) = Q + k + i by omega, upd_same]
      · rw [upd_ne _ _ q, upd_ne _ _ (show Q + t ≠ Q + k + i by omega)]; exact h t ht)
    refine ⟨ih.1, fun x hx => ?_⟩
    rw [ih.2 x hx, upd_ne _ _ (by omega)]
theorem cy_f {n q1 q2 : Nat} {g0 : Nat → Int32} (hd : q2 ≤ q1 ∨ q1 + n ≤ q2) : ∀ (j k : Nat) (g : Nat → Int32), k + j = n → (∀ x, g x = if q2 ≤ x ∧ x < q2 + k then g0 (q1 + (x - q2)) else g0 x) → ∀ x, cyM n false q1 q2 j k g x = if q2 ≤ x ∧ x < q2 + n then g0 (q1 + (x - q2)) else g0 x
  | 0, k, g, hk, h => by
    have : k = n := hk
    subst this; exact h
  | j + 1, k, g, hk, h => by
    rw [cyM, if_neg (by decide)]
    refine cy_f hd j (k + 1) _ (by omega) (fun x => ?_)
    by_cases q : x = q2 + k
    · subst q
      rw [upd_same, h, if_neg (by omega), if_pos (by omega)]
      congr 1; omega
    · rw [upd_ne _ _ q, h]
      by_cases c : q2 ≤ x ∧ x < q2 + k
      · rw [if_pos c, if_pos (by omega)]
      · rw [if_neg c, if_neg (by omega)]
theorem cy_b {n q1 q2 : Nat} {g0 : Nat → Int32} (hd : q1 ≤ q2 ∨ q2 + n ≤ q1) : ∀ (j k : Nat) (g : Nat → Int32), k + j = n → (∀ x, g x = if q2 + (n - k) ≤ x ∧ x < q2 + n then g0 (q1 + (x - q2)) else g0 x) → ∀ x, cyM n true q1 q2 j k g x = if q2 ≤ x ∧ x < q2 + n then g0 (q1 + (x - q2)) else g0 x
  | 0, k, g, hk, h => by
    intro x
    rw [cyM, h x, show q2 + (n - k) = q2 by omega]
  | j + 1, k, g, hk, h => by
    rw [cyM, if_pos rfl]
    refine cy_b hd j (k + 1) _ (by omega) (fun x => ?_)
    by_cases q : x = q2 + (n - 1 - k)
    · subst q
      rw [upd_same, h, if_neg (by omega), if_pos (by omega)]
      congr 1; omega
    · rw [upd_ne _ _ q, h]
      by_cases c : q2 + (n - k) ≤ x ∧ x < q2 + n
      · rw [if_pos c, if_pos (by omega)]
      · rw [if_neg c, if_neg (by omega)]
theorem cy_v {n q r i j : Nat} (g0 : Nat → Int32) (hi : i + n ≤ 28) (hj : j + n ≤ 28) (x : Nat) : cyM n (decide (i < j)) (28 * q + i) (28 * r + j) n 0 g0 x = if 28 * r + j ≤ x ∧ x < 28 * r + j + n then g0 (28 * q + i + (x - (28 * r + j))) else g0 x := by
  by_cases c : i < j
  · rw [decide_eq_true c]
    exact cy_b (by omega) n 0 g0 (by omega) (fun x => by rw [if_neg (by omega)]) x
  · rw [decide_eq_false c]
    exact cy_f (by omega) n 0 g0 (by omega) (fun x => by rw [if_neg (by omega)]) x
theorem zrI_v : ∀ (q j k : Nat) (g : Nat → Int32) (x : Nat), zrI q j k g x = if q + k ≤ x ∧ x < q + k + j then 0 else g x
  | q, 0, k, g, x => by rw [zrI, if_neg (by omega)]
  | q, j + 1, k, g, x => by
    rw [zrI, zrI_v q j (k + 1)]
    by_cases h1 : x = q + k
    · subst h1
      rw [if_neg (by omega), upd_same, if_pos (by omega)]
    · rw [upd_ne _ _ h1]
      by_cases h2 : q + (k + 1) ≤ x ∧ x < q + (k + 1) + j
      · rw [if_pos h2, if_pos (by omega)]
      · rw [if_neg h2, if_neg (by omega)]
