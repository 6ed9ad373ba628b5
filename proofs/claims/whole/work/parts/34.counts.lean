/-! HOW MANY SETS -/
def cB (law op lies : Int32) : Nat → Nat → Nat → Nat → Int32
  | 0, _, l, _ => if l = 0 then 1 else 0
  | j + 1, i, l, mi => (if bt lies i then 0 else cB law op lies j (i + 1) l (mdM i mi false)) + (if 0 < l ∧ bt op i = true ∧ ltM law i mi = true then cB law op lies j (i + 1) (l - 1) (mdM i mi true) else 0)
section CO
variable {law op lies : Int32} {k : Nat} {g : Nat → Int32}
theorem cB_fk (hk : k ≤ 9) (hg : fkF law op lies k g) : ∀ (j i : Nat), i + j = 28 → ∀ q mi l, l ≤ k → RLw law i q mi → cB law op lies j i l mi = if nob lies (max i (min q 28) - i) i then g (max i (min q 28) * 10 + l) else 0
  | 0, i, hi, q, mi, l, hl, hR => by
    have e : i = 28 := hi
    subst e
    rw [show max 28 (min q 28) = 28 by omega, Nat.sub_self, nob, if_pos rfl, cB, hg.1 l hl]
  | j + 1, i, hi, q, mi, l, hl, hR => by
    have ih := cB_fk hk hg j (i + 1) (by omega)
    have ihF := ih q _ l hl (RL_f hR)
    rw [cB]
    by_cases hq : q ≤ i
    · rw [show max i (min q 28) = i by omega, Nat.sub_self, nob, if_pos rfl, hg.2 i (by omega) l hl]
      rw [show max (i + 1) (min q 28) = i + 1 by omega, Nat.sub_self, nob, if_pos rfl] at ihF
      rw [ihF]
      unfold ftG
      congr 1
      have hlt := RL_lt hR
      rw [decide_eq_true hq, Bool.true_and] at hlt
      rw [hlt]
      cases hop : bt op i
      · rw [if_neg (fun z => by have := z.2.1; cases this), if_neg (by decide)]
      · rw [if_pos rfl]
        unfold fbG
        by_cases l0 : l = 0
        · rw [if_pos l0, if_neg (fun z => by omega)]
        · rw [if_neg l0]
          cases ho : opn law i
          · rw [if_neg (fun z => by have := z.2.2; cases this), if_neg (by decide)]
          · rw [if_pos ⟨by omega, rfl, rfl⟩, if_pos rfl, ih (oAg law i) (mdM i mi true) (l - 1) (by omega) RL_t]
            have := oAg_gt law i
            rw [show max (i + 1) (min (oAg law i) 28) = min (oAg law i) 28 by omega]
    · have hlt : ltM law i mi = false := by rw [RL_lt hR, decide_eq_false hq]; rfl
      rw [hlt, if_neg (c := 0 < l ∧ bt op i = true ∧ false = true) (fun z => by have := z.2.2; cases this), Int32.add_zero, ihF, show max (i + 1) (min q 28) = min q 28 by omega, show max i (min q 28) = min q 28 by omega, show min q 28 - i = (min q 28 - (i + 1)) + 1 by omega, nob]
      cases bt lies i <;> rfl
theorem cB_start (hk : k ≤ 9) (g : Nat → Int32) : fk law op lies k g k = cB law op lies 28 0 k 0 := by
  have h := cB_fk (law := law) (op := op) (lies := lies) hk (fk_F hk g) 28 0 rfl 0 0 k (Nat.le_refl _) (RL_0 law)
  rw [show max 0 (min 0 28) = 0 by omega, Nat.sub_self, nob, if_pos rfl, Nat.zero_mul, Nat.zero_add] at h
  exact h.symm
/-- a sum of products -/
def dot (w b : Nat → Int32) : Nat → Int32
  | 0 => 0
  | m + 1 => dot w b m + w m * b m
theorem dot_same {w w' b : Nat → Int32} : ∀ m : Nat, (∀ e, e < m → w e = w' e) → dot w b m = dot w' b m
  | 0, _ => rfl
  | m + 1, h => by rw [dot, dot, dot_same m (fun e he => h e (by omega)), h m (by omega)]
theorem dot_upd {x b : Nat → Int32} {a : Nat} {y : Int32} : ∀ m : Nat, dot (upd x a (x a + y)) b m = if a < m then dot x b m + y * b a else dot x b m
  | 0 => by rw [if_neg (by omega)]; rfl
  | m + 1 => by
    rw [dot, dot_upd m, dot]
    by_cases h1 : a < m
    · rw [if_pos h1, if_pos (by omega), upd_ne _ _ (by omega)]; grind
    · by_cases h2 : a = m
      · subst h2
        rw [if_neg h1, if_pos (by omega), upd_same]; grind
      · rw [if_neg h1, if_neg (by omega), upd_ne _ _ (by omega)]
theorem dot_0 {w b : Nat → Int32} : ∀ m : Nat, (∀ e, e < m → w e = 0) → dot w b m = 0
  | 0, _ => rfl
  | m + 1, h => by rw [dot, dot_0 m (fun e he => h e (by omega)), h m (by omega)]; grind
theorem dot_b0 {w b : Nat → Int32} : ∀ m : Nat, (∀ e, e < m → b e = 0) → dot w b m = 0
  | 0, _ => rfl
  | m + 1, h => by rw [dot, dot_b0 m (fun e he => h e (by omega)), h m (by omega)]; simp
def BB (law op lies : Int32) (k j i e : Nat) : Int32 := if e / 4 ≤ k then cB law op lies j i (k - e / 4) (e % 4) else 0
theorem nx_dot (hk : k ≤ 9) {i j e : Nat} {w x : Nat → Int32} (he : e < 40) : dot (nx2 law op i e w (nx1 lies i e w x)) (BB law op lies k j (i + 1)) 40 = dot x (BB law op lies k j (i + 1)) 40 + w e * BB law op lies k (j + 1) i e := by
  have m1 := mdM_le i (e % 4) false
  have m2 := mdM_le i (e % 4) true
  have e1 : dot (nx1 lies i e w x) (BB law op lies k j (i + 1)) 40 = dot x (BB law op lies k j (i + 1)) 40 + w e * (if bt lies i then 0 else BB law op lies k j (i + 1) (e / 4 * 4 + mdM i (e % 4) false)) := by
    unfold nx1
    cases bt lies i
    · rw [if_neg (by decide), if_neg (by decide), dot_upd, if_pos (by omega)]
    · rw [if_pos rfl, if_pos rfl]; grind
  have e2 : dot (nx2 law op i e w (nx1 lies i e w x)) (BB law op lies k j (i + 1)) 40 = dot (nx1 lies i e w x) (BB law op lies k j (i + 1)) 40 + w e * (if e < 36 ∧ bt op i = true ∧ ltM law i (e % 4) = true then BB law op lies k j (i + 1) (e / 4 * 4 + 4 + mdM i (e % 4) true) else 0) := by
    unfold nx2
    by_cases c : e < 36 ∧ bt op i = true ∧ ltM law i (e % 4) = true
    · rw [if_pos c, if_pos (by rw [decide_eq_true c.1, c.2.1, c.2.2]; rfl), dot_upd, if_pos (by omega)]
    · rw [if_neg c, if_neg]
      · grind
      · intro z
        simp only [Bool.and_eq_true, decide_eq_true_eq] at z
        exact c z
  rw [e2, e1]
  have e3 : (if bt lies i then 0 else BB law op lies k j (i + 1) (e / 4 * 4 + mdM i (e % 4) false)) + (if e < 36 ∧ bt op i = true ∧ ltM law i (e % 4) = true then BB law op lies k j (i + 1) (e / 4 * 4 + 4 + mdM i (e % 4) true) else 0) = BB law op lies k (j + 1) i e := by
    unfold BB
    rw [show (e / 4 * 4 + mdM i (e % 4) false) / 4 = e / 4 by omega, show (e / 4 * 4 + mdM i (e % 4) false) % 4 = mdM i (e % 4) false by omega, show (e / 4 * 4 + 4 + mdM i (e % 4) true) / 4 = e / 4 + 1 by omega, show (e / 4 * 4 + 4 + mdM i (e % 4) true) % 4 = mdM i (e % 4) true by omega]
    by_cases h1 : e / 4 ≤ k
    · rw [if_pos h1, if_pos h1, cB]
      congr 1
      by_cases h2 : bt op i = true ∧ ltM law i (e % 4) = true
      · by_cases h3 : e / 4 + 1 ≤ k
        · rw [if_pos ⟨by omega, h2⟩, if_pos h3, if_pos ⟨by omega, h2⟩, Nat.sub_add_eq]
        · rw [if_neg h3, if_neg (c := 0 < k - e / 4 ∧ _) (fun z => by omega)]
          split <;> rfl
      · rw [if_neg (fun z => h2 z.2), if_neg (fun z => h2 z.2)]
    · rw [if_neg h1, if_neg h1, if_neg (c := e / 4 + 1 ≤ k) (by omega)]
      split <;> split <;> rfl
  rw [← e3]; grind
theorem nxE_dot (hk : k ≤ 9) {i j : Nat} {w : Nat → Int32} : ∀ (r e : Nat) (x : Nat → Int32), e + r = 40 → dot (nxE law op lies i w r e x) (BB law op lies k j (i + 1)) 40 + dot w (BB law op lies k (j + 1) i) e = dot x (BB law op lies k j (i + 1)) 40 + dot w (BB law op lies k (j + 1) i) 40
  | 0, e, x, he => by
    have : e = 40 := he
    subst this; rfl
  | r + 1, e, x, he => by
    have ih := nxE_dot hk (i := i) (j := j) (w := w) r (e + 1) (nx2 law op i e w (nx1 lies i e w x)) (by omega)
    have hd : dot w (BB law op lies k (j + 1) i) (e + 1) = dot w (BB law op lies k (j + 1) i) e + w e * BB law op lies k (j + 1) i e := rfl
    rw [nx_dot hk (by omega), hd] at ih
    rw [nxE]
    generalize dot (nxE law op lies i w r (e + 1) (nx2 law op i e w (nx1 lies i e w x))) (BB law op lies k j (i + 1)) 40 = A at *
    generalize w e * BB law op lies k (j + 1) i e = B at *
    generalize dot w (BB law op lies k (j + 1) i) e = C at *
    generalize dot x (BB law op lies k j (i + 1)) 40 = D at *
    generalize dot w (BB law op lies k (j + 1) i) 40 = F at *
    grind
theorem cpN_v : ∀ (j e : Nat) (w x : Nat → Int32) (q : Nat), cpN j e w x q = if e ≤ q ∧ q < e + j then x q else w q
  | 0, e, w, x, q => by rw [cpN, if_neg (by omega)]
  | j + 1, e, w, x, q => by
    rw [cpN, cpN_v j (e + 1)]
    by_cases h1 : q = e
    · subst h1
      rw [if_neg (by omega), upd_same, if_pos (by omega)]
    · rw [upd_ne _ _ h1]
      by_cases h2 : e + 1 ≤ q ∧ q < e + 1 + j
      · rw [if_pos h2, if_pos (by omega)]
      · rw [if_neg h2, if_neg (by omega)]
theorem zr_v : ∀ (j i : Nat) (f : Nat → Int32) (q : Nat), zr j i f q = if i ≤ q ∧ q < i + j then 0 else f q
  | 0, i, f, q => by rw [zr, if_neg (by omega)]
  | j + 1, i, f, q => by
    rw [zr, zr_v j (i + 1)]
    by_cases h1 : q = i
    · subst h1
      rw [if_neg (by omega), upd_same, if_pos (by omega)]
    · rw [upd_ne _ _ h1]
      by_cases h2 : i + 1 ≤ q ∧ q < i + 1 + j
      · rw [if_pos h2, if_pos (by omega)]
      · rw [if_neg h2, if_neg (by omega)]
theorem stO_dot (hk : k ≤ 9) : ∀ (j i : Nat) (w x : Nat → Int32), dot (stO law op lies j i w x).1 (BB law op lies k 0 (i + j)) 40 = dot w (BB law op lies k j i) 40
  | 0, i, w, x => by rw [stO, Nat.add_zero]
  | j + 1, i, w, x => by
    rw [stO, show i + (j + 1) = i + 1 + j by omega, stO_dot hk j (i + 1)]
    rw [dot_same (w' := nxE law op lies i w 40 0 (zr 40 0 x)) 40 (fun e he => by rw [cpN_v, if_pos (by omega)])]
    have h := nxE_dot (law := law) (op := op) (lies := lies) hk (i := i) (j := j) (w := w) 40 0 (zr 40 0 x) rfl
    rw [dot, Int32.add_zero, dot_0 (w := zr 40 0 x) 40 (fun e he => by rw [zr_v, if_pos (by omega)]), Int32.zero_add] at h
    exact h
theorem wsE_v : ∀ (j e : Nat) (w : Nat → Int32) (q : Nat), wsE j e w q = if e ≤ q ∧ q < e + j then (if q = 0 then 1 else 0) else w q
  | 0, e, w, q => by rw [wsE, if_neg (by omega)]
  | j + 1, e, w, q => by
    rw [wsE, wsE_v j (e + 1)]
    by_cases h1 : q = e
    · subst h1
      rw [if_neg (by omega), upd_same, if_pos (c := q ≤ q ∧ _) (by omega)]
    · rw [upd_ne _ _ h1]
      by_cases h2 : e + 1 ≤ q ∧ q < e + 1 + j
      · rw [if_pos h2, if_pos (c := e ≤ q ∧ _) (by omega)]
      · rw [if_neg h2, if_neg (c := e ≤ q ∧ _) (by omega)]
theorem dot_1 {b : Nat → Int32} : ∀ m : Nat, dot (fun q => if q = 0 then 1 else 0) b (m + 1) = b 0
  | 0 => by simp [dot]
  | m + 1 => by rw [dot, dot_1 m]; simp
theorem dot_r4 {w : Nat → Int32} (hk : k ≤ 9) (i : Nat) : dot w (BB law op lies k 0 i) 40 = r4 w k := by
  have hB : ∀ e, BB law op lies k 0 i e = if e / 4 = k then 1 else 0 := by
    intro e
    unfold BB cB
    by_cases h : e / 4 = k
    · rw [if_pos h, if_pos (by omega), if_pos (by omega)]
    · rw [if_neg h]
      split
      · rw [if_neg (by omega)]
      · rfl
  have h0 : dot w (BB law op lies k 0 i) (4 * k) = 0 := dot_b0 _ (fun e he => by rw [hB, if_neg (by omega)])
  have h4 : dot w (BB law op lies k 0 i) (4 * k + 4) = r4 w k := by
    rw [dot, dot, dot, dot, h0, hB, hB, hB, hB, if_pos (by omega), if_pos (by omega), if_pos (by omega), if_pos (by omega)]
    unfold r4
    simp
  have h5 : ∀ r, dot w (BB law op lies k 0 i) (4 * k + 4 + r) = r4 w k := by
    intro r
    induction r with
    | zero => exact h4
    | succ r ih =>
      rw [← Nat.add_assoc, dot, ih, hB, if_neg (by omega)]
      simp
  have h6 := h5 (36 - 4 * k)
  rw [show 4 * k + 4 + (36 - 4 * k) = 40 by omega] at h6
  exact h6
theorem st_cB (hk : k ≤ 9) (words truths : Int32) (w x : Nat → Int32) : r4 (stW law words truths lies w x).1 k = cB law (words &&& (truths ^^^ (-1))) lies 28 0 k 0 := by
  unfold stW
  rw [← dot_r4 (law := law) (op := words &&& (truths ^^^ (-1))) (lies := lies) hk 28, show (28 : Nat) = 0 + 28 from rfl, stO_dot hk]
  rw [dot_same (w' := fun q => if q = 0 then 1 else 0) 40 (fun e he => by rw [wsE_v, if_pos (by omega)]), dot_1]
  unfold BB
  rw [if_pos (show 0 / 4 ≤ k from Nat.zero_le _), show (0 : Nat) / 4 = 0 from rfl, show (0 : Nat) % 4 = 0 from rfl, Nat.sub_zero]
theorem ways_eq (hk : k ≤ 9) (words truths : Int32) (g w x : Nat → Int32) : fk law (words &&& (truths ^^^ (-1))) lies k g k = r4 (stW law words truths lies w x).1 k := by
  rw [cB_start hk, st_cB hk]
theorem cB_same {op' lies' : Int32} : ∀ (j i l mi : Nat), (∀ d, i ≤ d → d < i + j → bt op d = bt op' d ∧ bt lies d = bt lies' d) → cB law op lies j i l mi = cB law op' lies' j i l mi
  | 0, _, _, _, _ => rfl
  | j + 1, i, l, mi, h => by
    have hi := h i (Nat.le_refl _) (by omega)
    rw [cB, cB, hi.1, hi.2, cB_same j (i + 1) l _ (fun d h1 h2 => h d (by omega) (by omega)), cB_same j (i + 1) (l - 1) _ (fun d h1 h2 => h d (by omega) (by omega))]
theorem cB_zero {p : Nat} (ho : bt op p = false) (hl : bt lies p = true) : ∀ (j i l mi : Nat), i ≤ p → p < i + j → cB law op lies j i l mi = 0
  | 0, _, _, _, h1, h2 => absurd h1 (by omega)
  | j + 1, i, l, mi, h1, h2 => by
    rw [cB]
    by_cases hp : i = p
    · subst hp
      rw [hl, if_pos rfl, ho, if_neg (fun z => by have := z.2.1; cases this)]; rfl
    · rw [cB_zero ho hl j (i + 1) l _ (by omega) (by omega), cB_zero ho hl j (i + 1) (l - 1) _ (by omega) (by omega)]
      split <;> split <;> rfl
theorem cB_add {op1 lies1 op2 lies2 : Int32} {p : Nat} (hs : ∀ d, d < 28 → d ≠ p → (bt op d = bt op1 d ∧ bt lies d = bt lies1 d) ∧ (bt op d = bt op2 d ∧ bt lies d = bt lies2 d)) (o0 : bt op p = true) (o1 : bt op1 p = true) (o2 : bt op2 p = false) (l0 : bt lies p = false) (l1 : bt lies1 p = true) (l2 : bt lies2 p = false) : ∀ (j i l mi : Nat), i + j = 28 → i ≤ p → p < 28 → cB law op lies j i l mi = cB law op1 lies1 j i l mi + cB law op2 lies2 j i l mi
  | 0, _, _, _, h1, h2, h3 => absurd h2 (by omega)
  | j + 1, i, l, mi, h1, h2, h3 => by
    rw [cB, cB, cB]
    by_cases hp : i = p
    · subst hp
      rw [o0, o1, o2, l0, l1, l2]
      have a1 : cB law op lies j (i + 1) (l - 1) (mdM i mi true) = cB law op1 lies1 j (i + 1) (l - 1) (mdM i mi true) := cB_same _ _ _ _ (fun d q1 q2 => (hs d (by omega) (by omega)).1)
      have a2 : cB law op lies j (i + 1) l (mdM i mi false) = cB law op2 lies2 j (i + 1) l (mdM i mi false) := cB_same _ _ _ _ (fun d q1 q2 => (hs d (by omega) (by omega)).2)
      rw [a1, a2]
      simp only [Bool.false_eq_true, if_false, if_true, false_and, and_false, true_and]
      grind
    · have hd := hs i (by omega) hp
      have ih := cB_add hs o0 o1 o2 l0 l1 l2 j (i + 1)
      rw [← hd.1.1, ← hd.1.2, ← hd.2.1, ← hd.2.2, ih l _ (by omega) (by omega) h3, ih (l - 1) _ (by omega) (by omega) h3]
      split <;> split <;> grind
theorem and_b1 {w : Int32} {i : Nat} (hi : i < 32) : (w &&& b1 i = 0) ↔ bt w i = false := by
  constructor
  · intro h
    have h2 := congrArg (fun v => bt v i) h
    simp only [bt_and _ _ hi, bt_b1 hi hi, decide_true, Bool.and_true] at h2
    rw [h2, bt_n _ hi]; exact Nat.zero_testBit i
  · intro h
    apply bt_ext
    intro d hd
    rw [bt_and _ _ hd, bt_b1 hi hd]
    have : bt 0 d = false := by { rw [bt_n _ hd]; exact Nat.zero_testBit d }
    rw [this]
    by_cases q : i = d
    · subst q; rw [h]; rfl
    · rw [decide_eq_false q, Bool.and_false]
theorem or_same {l : Int32} {i : Nat} (hi : i < 32) (h : bt l i = true) : l ||| b1 i = l := by
  apply bt_ext
  intro d hd
  rw [bt_or _ _ hd, bt_b1 hi hd]
  by_cases q : i = d
  · subst q; rw [h]; rfl
  · rw [decide_eq_false q, Bool.or_false]
theorem su_eq {words truths what all : Int32} (hk : k ≤ 9) (hl : lies &&& (words ^^^ (-1)) = 0) (htl : truths &&& lies = 0) (ha : cB law (words &&& (truths ^^^ (-1))) lies 28 0 k 0 = all) (hz : ¬ all = 0) : ∀ (j i : Nat) (s : Int32) (g w x : Nat → Int32), i + j = 28 → (suL law words truths lies k (if what = 0 then all else 0) j i s g).1 = (smL law words truths lies what k j i s w x).1
  | 0, _, _, _, _, _, _ => rfl
  | j + 1, i, s, g, w, x, hi => by
    have i32 : i < 32 := by omega
    rw [suL, smL]
    cases hw : bt words i
    · rw [if_pos ((and_b1 i32).mpr hw), if_neg (c := false = true) Bool.false_ne_true]
      exact su_eq hk hl htl ha hz j (i + 1) s _ _ _ (by omega)
    · rw [if_neg (c := words &&& b1 i = 0) (fun z => by rw [(and_b1 i32).mp z] at hw; cases hw), if_pos (c := true = true) rfl, cB_start hk]
      have ih := su_eq (what := what) hk hl htl ha hz j (i + 1)
      have hop : bt (words &&& (truths ^^^ (-1))) i = !bt truths i := by rw [bt_and _ _ i32, hw, bt_not _ i32, Bool.true_and]
      have hx : (bt truths i && bt lies i) = false := by
        rw [← bt_and _ _ i32, htl, bt_n _ i32]; exact Nat.zero_testBit i
      cases hL : bt lies i
      · cases hT : bt truths i
        · -- neither is known
          rw [hT] at hop
          have hsum : cB law (words &&& (truths ^^^ (-1))) lies 28 0 k 0 = cB law (words &&& (truths ^^^ (-1))) (lies ||| b1 i) 28 0 k 0 + cB law (words &&& ((truths ||| b1 i) ^^^ (-1))) lies 28 0 k 0 := by
            refine cB_add (p := i) (fun d hd hne => ?_) hop hop ?_ hL ?_ hL 28 0 k 0 rfl (Nat.zero_le _) (by omega)
            · have d32 : d < 32 := by omega
              refine ⟨⟨rfl, ?_⟩, ?_, rfl⟩
              · rw [bt_or _ _ d32, bt_b1 i32 d32, decide_eq_false (Ne.symm hne), Bool.or_false]
              · rw [bt_and _ _ d32, bt_and _ _ d32, bt_not _ d32, bt_not _ d32, bt_or _ _ d32, bt_b1 i32 d32, decide_eq_false (Ne.symm hne), Bool.or_false]
            · rw [bt_and _ _ i32, bt_not _ i32, bt_or _ _ i32, bt_b1 i32 i32]; simp
            · rw [bt_or _ _ i32, bt_b1 i32 i32]; simp
          rw [ha] at hsum
          by_cases w0 : what = 0
          · simp only [if_pos w0, hL, hT, Bool.false_eq_true, if_false] at ih ⊢
            rw [st_cB hk]
            by_cases c : cB law (words &&& (truths ^^^ (-1))) (lies ||| b1 i) 28 0 k 0 = all
            · rw [if_pos c, if_pos (by rw [c] at hsum; grind)]
              exact ih _ _ _ _ (by omega)
            · rw [if_neg c, if_neg (fun z => by rw [z] at hsum; apply c; grind), or_0]
              exact ih _ _ _ _ (by omega)
          · simp only [if_neg w0, hL, hT, Bool.false_eq_true, if_false] at ih ⊢
            rw [st_cB hk]
            by_cases c : cB law (words &&& (truths ^^^ (-1))) (lies ||| b1 i) 28 0 k 0 = 0
            · rw [if_pos c, if_pos c]
              exact ih _ _ _ _ (by omega)
            · rw [if_neg c, if_neg c, or_0]
              exact ih _ _ _ _ (by omega)
        · -- surely true
          rw [hT] at hop
          have z0 : cB law (words &&& (truths ^^^ (-1))) (lies ||| b1 i) 28 0 k 0 = 0 := cB_zero (p := i) hop (by rw [bt_or _ _ i32, bt_b1 i32 i32]; simp) 28 0 k 0 (Nat.zero_le _) (by omega)
          rw [z0]
          by_cases w0 : what = 0
          · simp only [if_pos w0, hL, hT, Bool.false_eq_true, if_false, if_true] at ih ⊢
            rw [if_neg (fun z => hz z.symm)]
            exact ih _ _ _ _ (by omega)
          · simp only [if_neg w0, hT, if_true] at ih ⊢
            exact ih _ _ _ _ (by omega)
      · rw [hL, Bool.and_true] at hx
        rw [or_same i32 hL, ha]
        by_cases w0 : what = 0
        · simp only [if_pos w0, hL, if_true] at ih ⊢
          exact ih _ _ _ _ (by omega)
        · simp only [if_neg w0, hL, hx, Bool.false_eq_true, if_false, if_true, if_neg hz] at ih ⊢
          exact ih _ _ _ _ (by omega)
end CO
