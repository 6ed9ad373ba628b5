/-! BOTH LAWS: from what day on, and what state -/
def RLw (law : Int32) (i g mi : Nat) : Prop := mi ≤ 3 ∧ (if law = 2 then (g ≤ i ↔ mi % 2 = 0) ∧ g ≤ i + 1 else if law = 3 then (mi = 0 → g ≤ i) ∧ (mi = 1 → g = i + 1) ∧ (1 < mi → g = (i / 7 + 1) * 7) else g ≤ i)
theorem RL_0 (law : Int32) : RLw law 0 0 0 := by
  unfold RLw
  split
  · simp
  · split <;> simp
theorem RL_f {law : Int32} {i g mi : Nat} (h : RLw law i g mi) : RLw law (i + 1) g (mdM i mi false) := by
  obtain ⟨h3, h⟩ := h
  refine ⟨mdM_le _ _ _, ?_⟩
  by_cases l2 : law = 2
  · rw [if_pos l2] at h ⊢
    have e : mdM i mi false % 2 = 0 := by
      unfold mdM
      by_cases q : i % 7 = 6
      · simp [q]
      · by_cases q2 : 1 < mi <;> simp [q, q2]
    rw [e]
    exact ⟨⟨fun _ => rfl, fun _ => h.2⟩, Nat.le_succ_of_le h.2⟩
  · rw [if_neg l2] at h ⊢
    by_cases l3 : law = 3
    · rw [if_pos l3] at h ⊢
      have e : mdM i mi false = if i % 7 = 6 then 0 else if 1 < mi then 2 else 0 := by
        unfold mdM
        by_cases q : i % 7 = 6
        · simp [q]
        · by_cases q2 : 1 < mi <;> simp [q, q2]
      rw [e]
      obtain ⟨a, b, c⟩ := h
      have m4 : mi = 0 ∨ mi = 1 ∨ 1 < mi := by omega
      by_cases q : i % 7 = 6
      · rw [if_pos q]
        refine ⟨fun _ => ?_, fun z => absurd z (by decide), fun z => absurd z (by decide)⟩
        rcases m4 with m | m | m
        · have := a m; omega
        · have := b m; omega
        · have := c m; omega
      · rw [if_neg q]
        by_cases q2 : 1 < mi
        · rw [if_pos q2]
          refine ⟨fun z => absurd z (by decide), fun z => absurd z (by decide), fun _ => ?_⟩
          have := c q2; omega
        · rw [if_neg q2]
          refine ⟨fun _ => ?_, fun z => absurd z (by decide), fun z => absurd z (by decide)⟩
          rcases m4 with m | m | m
          · have := a m; omega
          · have := b m; omega
          · exact absurd m q2
    · rw [if_neg l3] at h ⊢
      omega
theorem RL_t {law : Int32} {i mi : Nat} : RLw law (i + 1) (oAg law i) (mdM i mi true) := by
  refine ⟨mdM_le _ _ _, ?_⟩
  have e : mdM i mi true = if i % 7 = 6 then 1 else 3 := by
    unfold mdM
    by_cases q : i % 7 = 6 <;> simp [q]
  rw [e]
  unfold oAg
  by_cases l2 : law = 2
  · rw [if_pos l2, if_pos l2]
    split <;> omega
  · rw [if_neg l2, if_neg l2]
    by_cases l3 : law = 3
    · rw [if_pos l3, if_pos l3]
      by_cases q : i % 7 = 6
      · rw [if_pos q]
        refine ⟨fun z => absurd z (by decide), fun _ => ?_, fun z => absurd z (by decide)⟩
        omega
      · rw [if_neg q]
        refine ⟨fun z => absurd z (by decide), fun z => absurd z (by decide), fun _ => ?_⟩
        omega
    · rw [if_neg l3, if_neg l3]
      omega
/-- what the law lets on day i -/
theorem RL_lt {law : Int32} {i g mi : Nat} (h : RLw law i g mi) : ltM law i mi = (decide (g ≤ i) && opn law i) := by
  obtain ⟨h3, h⟩ := h
  unfold ltM opn
  by_cases l2 : law = 2
  · rw [if_pos l2] at h
    subst l2
    simp only [show ¬ (2 : Int32) = 1 by decide, if_false, if_true, decide_false, Bool.false_and, Bool.not_false, Bool.and_true]
    rw [decide_eq_decide]; exact h.1.symm
  · rw [if_neg l2] at h
    by_cases l3 : law = 3
    · rw [if_pos l3] at h
      subst l3
      simp only [show ¬ (3 : Int32) = 1 by decide, show ¬ (3 : Int32) = 2 by decide, if_false, if_true, decide_false, Bool.false_and, Bool.not_false, Bool.and_true]
      rw [decide_eq_decide]
      obtain ⟨a, b, c⟩ := h
      constructor
      · intro z; exact a z
      · intro z
        have m4 : mi = 0 ∨ mi = 1 ∨ 1 < mi := by omega
        rcases m4 with m | m | m
        · exact m
        · have := b m; omega
        · have := c m; omega
    · rw [if_neg l3] at h
      rw [if_neg l2, if_neg l3, decide_eq_true h]
      by_cases l1 : law = 1
      · rw [if_pos l1, decide_eq_true l1]; simp
      · rw [if_neg l1, decide_eq_false l1]; rfl
theorem RL_my {law : Int32} {nw : Nat → Int32} {i g mi : Nat} (h : RLw law i g mi) : mly law nw i g = (!decide (nw i = 1) && ltM law i mi) := by
  rw [RL_lt h]; unfold mly
  cases decide (g ≤ i) <;> cases decide (nw i = 1) <;> rfl
theorem moL_s (s : Int32) : ∀ (j i mi : Nat), moL s (j + 1) i mi = mdM (i + j) (moL s j i mi) (bt s (i + j))
  | 0, i, mi => rfl
  | j + 1, i, mi => by
    rw [moL, moL_s s j (i + 1) (mdM i mi (bt s i)), show i + 1 + j = i + (j + 1) by omega]; rfl
theorem nI_le0 {k : Nat} (h : k < 2147483648) : (nI k ≤ 0) ↔ k = 0 := by
  rw [Int32.le_iff_toInt_le, nI_toInt h, show (0 : Int32).toInt = 0 from rfl]; omega
theorem nI_eq0 {k : Nat} (h : k < 2147483648) : (nI k = 0) ↔ k = 0 := ⟨fun e => nI_inj h (by decide) e, fun e => by rw [e]; rfl⟩
/-- the first wrong day -/
theorem fwr_wrM {law lies s : Int32} {nw : Nat → Int32} : ∀ (j i g k : Nat), i + j ≤ 28 → RLw law i g (moL s i 0 0) → lft lies s i = nI k → k < 100 → fwr law lies s nw j i g = wrM law s nw j i (nI k)
  | 0, _, _, _, _, _, _, _ => rfl
  | j + 1, i, g, k, hi, hR, hl, hk => by
    rw [fwr, wrM, RL_my hR]
    have hS := lft_s lies s (i := i) (by omega)
    cases hb : bt s i
    · rw [if_neg (by decide), if_neg (by decide)]
      rw [hb] at hS
      refine fwr_wrM j (i + 1) g k (by omega) ?_ (by rw [hS, hl]; simp) hk
      rw [moL_s, Nat.zero_add, hb]; exact RL_f hR
    · rw [if_pos rfl, if_pos rfl, hl]
      by_cases k0 : k = 0
      · rw [if_pos ((nI_le0 (by omega)).mpr k0), if_pos ((nI_eq0 (by omega)).mpr k0)]
      · rw [if_neg (fun z => k0 ((nI_le0 (by omega)).mp z)), if_neg (fun z => k0 ((nI_eq0 (by omega)).mp z))]
        by_cases n1 : nw i = 1
        · rw [if_pos n1, decide_eq_true n1]; rfl
        · rw [if_neg n1, decide_eq_false n1]
          simp only [Bool.not_false, Bool.true_and]
          cases hlt : ltM law i (moL s i 0 0)
          · rfl
          · rw [if_pos rfl, if_pos rfl]
            obtain ⟨k', rfl⟩ : ∃ k', k = k' + 1 := ⟨k - 1, by omega⟩
            rw [hb] at hS
            have e : nI (k' + 1) + -1 = nI k' := by rw [nI_succ]; grind
            rw [e]
            refine fwr_wrM j (i + 1) _ k' (by omega) ?_ (by rw [hS, hl, nI_succ]; simp) (by omega)
            rw [moL_s, Nat.zero_add, hb]; exact RL_t
theorem fwr_eq {law s : Int32} {nw : Nat → Int32} {n k : Nat} (hn : n ≤ 28) (hk : k < 100) : fwr law (nI k) s nw n 0 0 = wrM law s nw n 0 (nI k) :=
  fwr_wrM n 0 0 k (by omega) (RL_0 law) (lft_0 _ _) hk
theorem gn_eq {n : Nat} {nw wo co : Nat → Int32} {lies trust s : Int32} : ∀ (j i : Nat) (x : Int32), i + j ≤ 28 → gnO n nw wo co lies trust s j i x = gnM n nw wo co trust s j i (lft lies s i) x
  | 0, _, _, _ => rfl
  | j + 1, i, x, hi => by rw [gnO, gnM, gn_eq j (i + 1) _ (by omega), lft_s lies s (by omega)]
theorem or_0 (x : Int32) : x ||| 0 = x := by apply bt_ext; intro i hi; rw [bt_or _ _ hi]; have : bt 0 i = false := by { rw [bt_n _ hi]; exact Nat.zero_testBit i }; rw [this, Bool.or_false]
theorem tr_eq {n : Nat} {nw : Nat → Int32} {lies trust s : Int32} : ∀ (j i : Nat) (x : Int32), i + j ≤ 28 → trB n nw lies trust s j i x = trM n nw trust s j i (lft lies s i) x
  | 0, _, _, _ => rfl
  | j + 1, i, x, hi => by
    rw [trB, trM, tr_eq j (i + 1) _ (by omega), lft_s lies s (by omega), Bool.or_comm]
    congr 1
    split
    · rfl
    · exact (or_0 x).symm
/-- what may be a lie now -/
theorem fmM_spec (s : Int32) : ∀ (j i : Nat), i + j ≤ 28 → (∀ d, d < fmM s j i → d < i ∨ 2 ^ d ≤ un s) ∧ (fmM s j i < i + j → un s < 2 ^ fmM s j i)
  | 0, i, _ => ⟨fun d h => Or.inl h, fun h => absurd h (by rw [fmM]; omega)⟩
  | j + 1, i, hi => by
    rw [fmM]
    by_cases c : s >>> (nI i &&& 31) = 0
    · rw [if_pos c]
      exact ⟨fun d h => Or.inl h, fun _ => (sshr_0 s (by omega)).mp c⟩
    · rw [if_neg c]
      have h := fmM_spec s j (i + 1) (by omega)
      refine ⟨fun d hd => ?_, fun hd => h.2 (by omega)⟩
      rcases h.1 d hd with q | q
      · rcases Nat.lt_succ_iff_lt_or_eq.mp q with q | q
        · exact Or.inl q
        · right; subst q
          exact Nat.le_of_not_lt (fun z => c ((sshr_0 s (by omega)).mpr z))
      · exact Or.inr q
theorem frm_RL {law s : Int32} : ∀ (j i g : Nat), RLw law i g (moL s i 0 0) → RLw law (i + j) (frm law s j i g) (moL s (i + j) 0 0)
  | 0, _, _, h => h
  | j + 1, i, g, h => by
    rw [frm, show i + (j + 1) = i + 1 + j by omega]
    refine frm_RL j (i + 1) _ ?_
    rw [moL_s, Nat.zero_add]
    cases hb : bt s i
    · exact RL_f h
    · exact RL_t
theorem frm_add {law s : Int32} : ∀ (a b i g : Nat), frm law s (a + b) i g = frm law s b (i + a) (frm law s a i g)
  | 0, b, i, g => by rw [Nat.zero_add]; rfl
  | a + 1, b, i, g => by rw [show a + 1 + b = (a + b) + 1 by omega, frm, frm_add a b (i + 1), frm, show i + 1 + a = i + (a + 1) by omega]
theorem frm_0 {law s : Int32} : ∀ (j i g : Nat), (∀ d, i ≤ d → d < i + j → bt s d = false) → frm law s j i g = g
  | 0, _, _, _ => rfl
  | j + 1, i, g, h => by rw [frm, h i (Nat.le_refl _) (by omega), if_neg (by decide), frm_0 j (i + 1) g (fun d h1 h2 => h d (by omega) (by omega))]
theorem RL_ff {law s : Int32} {g : Nat} : ∀ (j i : Nat), (∀ d, i ≤ d → d < i + j → bt s d = false) → RLw law i g (moL s i 0 0) → RLw law (i + j) g (moL s (i + j) 0 0)
  | 0, _, _, h => h
  | j + 1, i, hb, h => by
    rw [show i + (j + 1) = i + 1 + j by omega]
    refine RL_ff j (i + 1) (fun d h1 h2 => hb d (by omega) (by omega)) ?_
    rw [moL_s, Nat.zero_add, hb i (Nat.le_refl _) (by omega)]; exact RL_f h
theorem op_ma {law s : Int32} {nw : Nat → Int32} {g : Nat} (hnw : ∀ i, nw i = 0 ∨ nw i = 1) : ∀ (j i : Nat) (x : Int32), (∀ d, i ≤ d → d < i + j → bt s d = false) → RLw law i g (moL s i 0 0) → opB law nw g j i x = maM law s nw j i x
  | 0, _, _, _, _ => rfl
  | j + 1, i, x, hb, h => by
    rw [opB, maM, RL_my h]
    have e : (!decide (nw i = 1)) = decide (nw i = 0) := by
      rcases hnw i with q | q <;> rw [q] <;> decide
    rw [e]
    refine op_ma hnw j (i + 1) _ (fun d h1 h2 => hb d (by omega) (by omega)) ?_
    rw [moL_s, Nat.zero_add, hb i (Nat.le_refl _) (by omega)]; exact RL_f h
theorem op_lo {law : Int32} {nw : Nat → Int32} {g : Nat} : ∀ (a b i : Nat) (x : Int32), i + a ≤ g → opB law nw g (a + b) i x = opB law nw g b (i + a) x
  | 0, b, i, x, _ => by rw [Nat.zero_add, Nat.add_zero]
  | a + 1, b, i, x, h => by
    rw [show a + 1 + b = (a + b) + 1 by omega, opB]
    have e : mly law nw i g = false := by unfold mly; rw [decide_eq_false (by omega)]; rfl
    rw [e, if_neg (by decide), or_0, op_lo a b (i + 1) x (by omega), show i + 1 + a = i + (a + 1) by omega]
theorem op_hi {law : Int32} {nw : Nat → Int32} {g : Nat} : ∀ (j i : Nat) (x : Int32), i + j ≤ g → opB law nw g j i x = x := by
  intro j i x h
  have := op_lo (law := law) (nw := nw) j 0 i x h
  rw [Nat.add_zero] at this
  rw [this]; rfl
theorem bt_small {s : Int32} {m d : Nat} (h : un s < 2 ^ m) (hd : m ≤ d) (hd2 : d < 32) : bt s d = false := by
  rw [bt_n s hd2]
  exact Nat.testBit_lt_two_pow (Nat.lt_of_lt_of_le h (Nat.pow_le_pow_right (by decide) hd))
theorem may_eq {law s : Int32} {nw : Nat → Int32} {n : Nat} (hnw : ∀ i, nw i = 0 ∨ nw i = 1) (hn : n ≤ 28) (hs : un s < 2 ^ n) : opB law nw (frm law s n 0 0) (n - frm law s n 0 0) (frm law s n 0 0) 0 = maM law s nw (n - fmM s n 0) (fmM s n 0) 0 := by
  have hle := fmM_le s n 0
  have hsp := fmM_spec s n 0 (by omega)
  rw [Nat.zero_add] at hle hsp
  have hzero : ∀ d, fmM s n 0 ≤ d → d < 32 → bt s d = false := by
    intro d h1 h2
    by_cases q : fmM s n 0 < n
    · exact bt_small (hsp.2 q) h1 h2
    · exact bt_small hs (by omega) h2
  generalize hF : fmM s n 0 = F at *
  have eg : frm law s n 0 0 = frm law s F 0 0 := by
    rw [show n = F + (n - F) by omega, frm_add, Nat.zero_add, frm_0 (n - F) F _ (fun d h1 h2 => hzero d h1 (by omega))]
  have hR := frm_RL (law := law) (s := s) F 0 0 (RL_0 law)
  rw [Nat.zero_add, ← eg] at hR
  have gF : F ≤ frm law s n 0 0 := by
    rcases Nat.eq_zero_or_pos F with q | q
    · omega
    · obtain ⟨f, rfl⟩ : ∃ f, F = f + 1 := ⟨F - 1, by omega⟩
      have b1' : 2 ^ f ≤ un s := (hsp.1 f (by omega)).resolve_left (by omega)
      have b2 : un s < 2 ^ (f + 1) := by
        by_cases q2 : f + 1 < n
        · exact hsp.2 q2
        · have : f + 1 = n := by omega
          rw [this]; exact hs
      have b3 : bt s f = true := by
        rw [bt_n s (by omega)]
        rw [Nat.testBit_eq_decide_div_mod_eq]
        have : un s / 2 ^ f = 1 := by
          rw [Nat.pow_succ] at b2
          have p := Nat.two_pow_pos f
          generalize 2 ^ f = P at *
          exact Nat.div_eq_of_lt_le (by omega) (by omega)
        rw [this]; rfl
      rw [eg, frm_add f 1 0 0, Nat.zero_add, frm, frm, b3, if_pos rfl]
      unfold oAg
      split
      · omega
      · split <;> omega
  generalize frm law s n 0 0 = g at *
  rw [← op_ma hnw (n - F) F 0 (fun d h1 h2 => hzero d h1 (by omega)) hR]
  by_cases q : g ≤ n
  · rw [show n - F = (g - F) + (n - g) by omega, op_lo (g - F) (n - g) F 0 (by omega), show F + (g - F) = g by omega]
  · rw [op_hi (n - F) F 0 (by omega), show n - g = 0 by omega]; rfl
