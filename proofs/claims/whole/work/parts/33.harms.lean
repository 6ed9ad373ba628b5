/-! THE TABLES of harm -/
section HA
variable {n : Nat} {nw wo co : Nat → Int32} {law trust : Int32} {g t : Nat → Int32}
theorem lsm_acc (x : Int32) : ∀ (j i : Nat) (s : Int32), lsm n nw wo co x trust j i s = s + lsm n nw wo co x trust j i 0
  | 0, _, s => by rw [lsm, lsm]; simp
  | j + 1, i, s => by rw [lsm, lsm, lsm_acc x j (i + 1) (s + crt n nw wo co i false x trust), lsm_acc x j (i + 1) (0 + crt n nw wo co i false x trust)]; grind
theorem mn_self (x : Int32) : mn x x = x := by unfold mn; split <;> rfl
theorem mn_nev (x : Int32) : mn x NEV = x := by
  unfold mn
  rw [if_neg]
  intro h
  have h2 := Int32.lt_iff_toInt_lt.mp h
  have := (fb_rng' x).2
  have e : NEV.toInt = 2147483647 := rfl
  omega
theorem tb_eq {lies : Nat} (hnw : ∀ i, nw i = 0 ∨ nw i = 1) (hl : lies ≤ 9) (hg : rkF n nw wo co law trust lies g) (ht : mkF n nw wo co law trust t) : ∀ (j i : Nat), i + j = n → ∀ q mi l, l ≤ lies → RLw law i q mi → t (40 * i + (4 * l + mi)) = lsm n nw wo co (nI l) trust (max i (min q n) - i) i 0 + g (max i (min q n) * 10 + l)
  | 0, i, hi, q, mi, l, hll, hR => by
    have e : i = n := hi
    subst e
    have h3 := hR.1
    rw [ht.1 _ (by omega), show max i (min q i) = i by omega, Nat.sub_self, hg.1 l hll]; rfl
  | j + 1, i, hi, q, mi, l, hll, hR => by
    have h3 := hR.1
    rw [ht.2 i (by omega) (4 * l + mi) (by omega), show (4 * l + mi) / 4 = l by omega, show (4 * l + mi) % 4 = mi by omega]
    have ih := tb_eq hnw hl hg ht j (i + 1) (by omega)
    have ihF := ih q _ l hll (RL_f hR)
    have eF : frM n nw wo co trust t i l mi false = crt n nw wo co i false (nI l) trust + (lsm n nw wo co (nI l) trust (max (i + 1) (min q n) - (i + 1)) (i + 1) 0 + g (max (i + 1) (min q n) * 10 + l)) := by
      unfold frM
      rw [if_neg (by decide), Nat.add_assoc, ihF]
    unfold vaM
    by_cases hq : q ≤ i
    · have eS : frM n nw wo co trust t i l mi false = silG n nw wo co trust g i l := by
        rw [eF, show max (i + 1) (min q n) = i + 1 by omega, Nat.sub_self]
        unfold silG lsm
        rw [Int32.zero_add]
      rw [eS, show max i (min q n) = i by omega, Nat.sub_self, lsm, Int32.zero_add, hg.2 i (by omega) l hll]
      have hlt := RL_lt hR
      rw [decide_eq_true hq, Bool.true_and] at hlt
      cases hmy : myM law nw i l mi
      · rw [if_neg (by decide), mn_self]
        have : lyG n nw wo co law trust g i l = NEV := by
          unfold lyG
          by_cases l0 : l = 0
          · rw [if_pos l0]
          · rw [if_neg l0]
            by_cases n1 : nw i = 1
            · rw [if_pos n1]
            · rw [if_neg n1]
              have n0 : nw i = 0 := (hnw i).resolve_right n1
              unfold myM at hmy
              rw [decide_eq_true (by omega), decide_eq_true n0, hlt] at hmy
              simp only [Bool.true_and] at hmy
              rw [hmy]; rfl
        rw [this, mn_nev]
      · rw [if_pos rfl]
        congr 1
        unfold myM at hmy
        simp only [Bool.and_eq_true, decide_eq_true_eq] at hmy
        obtain ⟨l0, n0, hop⟩ := hmy
        rw [hlt] at hop
        have ihT := ih (oAg law i) (mdM i mi true) (l - 1) (by omega) RL_t
        have ho := oAg_gt law i
        unfold frM lyG
        rw [if_pos rfl, Nat.add_assoc, ihT, if_neg (by omega), if_neg (by rw [n0]; decide), if_pos hop, show max (i + 1) (min (oAg law i) n) = min (oAg law i) n by omega, lsm_acc _ _ _ (crt n nw wo co i true (nI l) trust)]
        grind
    · have hmy : myM law nw i l mi = false := by
        unfold myM
        rw [RL_lt hR, decide_eq_false hq]; simp
      rw [hmy, if_neg (by decide), mn_self, eF, show max (i + 1) (min q n) = min q n by omega, show max i (min q n) = min q n by omega, show min q n - i = (min q n - (i + 1)) + 1 by omega, lsm, lsm_acc _ _ _ (0 + crt n nw wo co i false (nI l) trust)]
      grind
theorem harm_eq {lies : Nat} (hnw : ∀ i, nw i = 0 ∨ nw i = 1) (hl : lies ≤ 9) (g t : Nat → Int32) : rk n nw wo co law trust lies g lies = mk n nw wo co law trust t (4 * lies) := by
  have h := tb_eq (n := n) (nw := nw) (wo := wo) (co := co) (law := law) (trust := trust) hnw hl (rk_F hl g) (mk_F t) n 0 (by omega) 0 0 lies (Nat.le_refl _) (RL_0 law)
  rw [show max 0 (min 0 n) = 0 by omega, Nat.sub_self, lsm, Int32.zero_add] at h
  simp only [Nat.mul_zero, Nat.zero_mul, Nat.zero_add, Nat.add_zero] at h
  exact h.symm
theorem ws_eq {lies : Nat} (hnw : ∀ i, nw i = 0 ∨ nw i = 1) (hl : lies ≤ 9) (hg : rkF n nw wo co law trust lies g) (ht : mkF n nw wo co law trust t) : ∀ (j i l q mi : Nat) (s : Int32), i + j = n → l ≤ lies → RLw law i q mi → wrs n nw wo co law trust g j i l q s = wsM n nw wo co trust t j i l mi s
  | 0, _, _, _, _, _, _, _, _ => rfl
  | j + 1, i, l, q, mi, s, hi, hll, hR => by
    have h3 := hR.1
    have e1 := tb_eq hnw hl hg ht (j + 1) i hi q mi l hll hR
    have e2 := tb_eq hnw hl hg ht j (i + 1) (by omega) q _ l hll (RL_f hR)
    rw [wrs, wsM]
    by_cases hq : q ≤ i
    · rw [show max i (min q n) = i by omega, Nat.sub_self, lsm, Int32.zero_add, ← Nat.add_assoc] at e1
      have eS : frM n nw wo co trust t i l mi false = silG n nw wo co trust g i l := by
        unfold frM silG
        rw [if_neg (by decide), Nat.add_assoc, e2, show max (i + 1) (min q n) = i + 1 by omega, Nat.sub_self, lsm, Int32.zero_add]
      rw [e1, eS]
      by_cases hc : g (i * 10 + l) < silG n nw wo co trust g i l
      · rw [if_pos ⟨hq, hc⟩, if_pos hc]
        exact ws_eq hnw hl hg ht j (i + 1) _ _ _ _ (by omega) (by omega) RL_t
      · rw [if_neg (fun z => hc z.2), if_neg hc]
        exact ws_eq hnw hl hg ht j (i + 1) _ _ _ _ (by omega) hll (RL_f hR)
    · have hmy : myM law nw i l mi = false := by
        unfold myM
        rw [RL_lt hR, decide_eq_false hq]; simp
      have e3 : t (40 * i + 4 * l + mi) = frM n nw wo co trust t i l mi false := by
        rw [Nat.add_assoc, ht.2 i (by omega) (4 * l + mi) (by omega), show (4 * l + mi) / 4 = l by omega, show (4 * l + mi) % 4 = mi by omega]
        unfold vaM
        rw [hmy, if_neg (by decide), mn_self]
      rw [e3, if_neg (fun z => hq z.1), if_neg (Int32.lt_irrefl)]
      exact ws_eq hnw hl hg ht j (i + 1) _ _ _ _ (by omega) hll (RL_f hR)
theorem worst_eq {lies : Nat} (hnw : ∀ i, nw i = 0 ∨ nw i = 1) (hl : lies ≤ 9) (g t : Nat → Int32) : wrs n nw wo co law trust (rk n nw wo co law trust lies g) n 0 lies 0 0 = wsM n nw wo co trust (mk n nw wo co law trust t) n 0 lies 0 0 :=
  ws_eq hnw hl (rk_F hl g) (mk_F t) n 0 lies 0 0 0 (by omega) (Nat.le_refl _) (RL_0 law)
theorem bv_eq {lies : Nat} (hnw : ∀ i, nw i = 0 ∨ nw i = 1) (hl : lies ≤ 9) : ∀ (j k : Nat) (b mo : Int32) (g t : Nat → Int32), 1 ≤ k → (btV n nw wo co law lies j k b mo g).1 = (bmV n nw wo co law lies j k b mo t).1
  | 0, _, _, _, _, _, _ => rfl
  | j + 1, k, b, mo, g, t, hk => by
    rw [btV, bmV, harm_eq hnw hl g t]
    by_cases hc : mo < mk n nw wo co law (nI k) t (4 * lies)
    · rw [if_pos hc, if_pos (Or.inr hc)]
      exact bv_eq hnw hl j (k + 1) _ _ _ _ (by omega)
    · rw [if_neg hc, if_neg (fun z => z.elim (by omega) hc)]
      exact bv_eq hnw hl j (k + 1) _ _ _ _ (by omega)
theorem best_eq {lies : Nat} (hnw : ∀ i, nw i = 0 ∨ nw i = 1) (hl : lies ≤ 9) (g t : Nat → Int32) : (btV n nw wo co law lies 8 1 0 (rk n nw wo co law 0 lies g lies) (rk n nw wo co law 0 lies g)).1 = (bmV n nw wo co law lies 9 0 0 0 t).1 := by
  rw [bmV, if_pos (Or.inl rfl), show (nI 0 : Int32) = 0 from rfl, harm_eq hnw hl g t]
  exact bv_eq hnw hl 8 1 _ _ _ _ (Nat.le_refl _)
end HA
