/-! MORE ROWS: constants, switches, what the library does, truth values as numbers -/
theorem ii_1 (x : Int32) : x + Int32.ofInt 1 = x + 1 := rfl
theorem ii_m1 (x : Int32) : x + Int32.ofInt (-1) = x + (-1) := rfl
theorem ii_n (i : Nat) : nI i + Int32.ofInt 1 = nI (i + 1) := (nI_1 i).trans rfl
set_option maxRecDepth 20000 in
theorem lmX4_67 : Cond.methodLink RX4 67 yJ9_min_7cf53 ∈ lw_tbl := sq2 (i := 21) rfl
set_option maxRecDepth 20000 in
theorem lmX0_35 : Cond.methodLink RX0 35 arraycopyName ∈ lw_tbl := sq2 (i := 30) rfl
set_option maxRecDepth 20000 in
theorem lmX7_227 : Cond.methodLink RX7 227 yJ9_max_7cf53 ∈ lw_tbl := sq2 (i := 74) rfl
set_option maxRecDepth 20000 in
theorem lmX1_36 : Cond.methodLink RX1 36 yJ9_min_7cf53 ∈ lw_tbl := sq2 (i := 180) rfl
set_option maxRecDepth 20000 in
theorem lmX7_232 : Cond.methodLink RX7 232 yJ9_min_7cf53 ∈ lw_tbl := sq2 (i := 218) rfl
set_option maxRecDepth 20000 in
theorem lmX5_40 : Cond.methodLink RX5 40 yJ9_min_7cf53 ∈ lw_tbl := sq2 (i := 239) rfl
set_option maxRecDepth 20000 in
theorem lmX6_34 : Cond.methodLink RX6 34 arraycopyName ∈ lw_tbl := sq3 (i := 29) rfl
set_option maxRecDepth 20000 in
theorem lmX7_210 : Cond.methodLink RX7 210 arraycopyName ∈ lw_tbl := sq3 (i := 102) rfl
theorem rl_table4 {own : String} {b : ByteArray} {K : sm_K} (R : sm_R own b K) {pc : Nat} {L : List (Option Value)} {st : List Value} {h : List sm_C} {dflt o0 o1 o2 o3 : Int} {len : Nat} {x : Int32} (t0 t1 t2 t3 td : Nat) (hd : decode b pc = .ok (.tableswitch dflt 0 3 #[o0, o1, o2, o3], len)) (hd0 : (pc : Int) + dflt = (td : Int)) (h0 : (pc : Int) + o0 = (t0 : Int)) (h1 : (pc : Int) + o1 = (t1 : Int)) (h2 : (pc : Int) + o2 = (t2 : Int)) (h3 : (pc : Int) + o3 = (t3 : Int)) (k0 : x = 0 → K t0 L st h) (k1 : x = 1 → K t1 L st h) (k2 : x = 2 → K t2 L st h) (k3 : x = 3 → K t3 L st h) (kd : ¬ x = 0 → ¬ x = 1 → ¬ x = 2 → ¬ x = 3 → K td L st h) : K pc L (.int x :: st) h := by
  by_cases c0 : x = 0
  · have k := k0 c0
    subst c0
    exact rl_tableIn R hd (by decide) (by decide) rfl h0 k
  by_cases c1 : x = 1
  · have k := k1 c1
    subst c1
    exact rl_tableIn R hd (by decide) (by decide) rfl h1 k
  by_cases c2 : x = 2
  · have k := k2 c2
    subst c2
    exact rl_tableIn R hd (by decide) (by decide) rfl h2 k
  by_cases c3 : x = 3
  · have k := k3 c3
    subst c3
    exact rl_tableIn R hd (by decide) (by decide) rfl h3 k
  refine rl_tableOut R hd ?_ hd0 (kd c0 c1 c2 c3)
  have e : ∀ k : Int32, ¬ x = k → x.toInt ≠ k.toInt := fun k hk he => hk (Int32.toInt_inj.mp he)
  have e0 : x.toInt ≠ 0 := e 0 c0
  have e1 : x.toInt ≠ 1 := e 1 c1
  have e2 : x.toInt ≠ 2 := e 2 c2
  have e3 : x.toInt ≠ 3 := e 3 c3
  omega
theorem rl_table7 {own : String} {b : ByteArray} {K : sm_K} (R : sm_R own b K) {pc : Nat} {L : List (Option Value)} {st : List Value} {h : List sm_C} {dflt o0 o1 o2 o3 o4 o5 o6 : Int} {len : Nat} {x : Int32} (t0 t1 t2 t3 t4 t5 t6 td : Nat) (hd : decode b pc = .ok (.tableswitch dflt 0 6 #[o0, o1, o2, o3, o4, o5, o6], len)) (hd0 : (pc : Int) + dflt = (td : Int)) (h0 : (pc : Int) + o0 = (t0 : Int)) (h1 : (pc : Int) + o1 = (t1 : Int)) (h2 : (pc : Int) + o2 = (t2 : Int)) (h3 : (pc : Int) + o3 = (t3 : Int)) (h4 : (pc : Int) + o4 = (t4 : Int)) (h5 : (pc : Int) + o5 = (t5 : Int)) (h6 : (pc : Int) + o6 = (t6 : Int)) (k0 : x = 0 → K t0 L st h) (k1 : x = 1 → K t1 L st h) (k2 : x = 2 → K t2 L st h) (k3 : x = 3 → K t3 L st h) (k4 : x = 4 → K t4 L st h) (k5 : x = 5 → K t5 L st h) (k6 : x = 6 → K t6 L st h) (kd : ¬ x = 0 → ¬ x = 1 → ¬ x = 2 → ¬ x = 3 → ¬ x = 4 → ¬ x = 5 → ¬ x = 6 → K td L st h) : K pc L (.int x :: st) h := by
  by_cases c0 : x = 0
  · have k := k0 c0
    subst c0
    exact rl_tableIn R hd (by decide) (by decide) rfl h0 k
  by_cases c1 : x = 1
  · have k := k1 c1
    subst c1
    exact rl_tableIn R hd (by decide) (by decide) rfl h1 k
  by_cases c2 : x = 2
  · have k := k2 c2
    subst c2
    exact rl_tableIn R hd (by decide) (by decide) rfl h2 k
  by_cases c3 : x = 3
  · have k := k3 c3
    subst c3
    exact rl_tableIn R hd (by decide) (by decide) rfl h3 k
  by_cases c4 : x = 4
  · have k := k4 c4
    subst c4
    exact rl_tableIn R hd (by decide) (by decide) rfl h4 k
  by_cases c5 : x = 5
  · have k := k5 c5
    subst c5
    exact rl_tableIn R hd (by decide) (by decide) rfl h5 k
  by_cases c6 : x = 6
  · have k := k6 c6
    subst c6
    exact rl_tableIn R hd (by decide) (by decide) rfl h6 k
  refine rl_tableOut R hd ?_ hd0 (kd c0 c1 c2 c3 c4 c5 c6)
  have e : ∀ k : Int32, ¬ x = k → x.toInt ≠ k.toInt := fun k hk he => hk (Int32.toInt_inj.mp he)
  have e0 : x.toInt ≠ 0 := e 0 c0
  have e1 : x.toInt ≠ 1 := e 1 c1
  have e2 : x.toInt ≠ 2 := e 2 c2
  have e3 : x.toInt ≠ 3 := e 3 c3
  have e4 : x.toInt ≠ 4 := e 4 c4
  have e5 : x.toInt ≠ 5 := e 5 c5
  have e6 : x.toInt ≠ 6 := e 6 c6
  omega
theorem rl_look2 {own : String} {b : ByteArray} {K : sm_K} (R : sm_R own b K) {pc : Nat} {L : List (Option Value)} {st : List Value} {h : List sm_C} {dflt o2 o3 : Int} {len : Nat} {x : Int32} (t2 t3 td : Nat) (hd : decode b pc = .ok (.lookupswitch dflt #[(2, o2), (3, o3)], len)) (hd0 : (pc : Int) + dflt = (td : Int)) (h2 : (pc : Int) + o2 = (t2 : Int)) (h3 : (pc : Int) + o3 = (t3 : Int)) (k2 : x = 2 → K t2 L st h) (k3 : x = 3 → K t3 L st h) (kd : ¬ x = 2 → ¬ x = 3 → K td L st h) : K pc L (.int x :: st) h := by
  by_cases c2 : x = 2
  · have k := k2 c2
    subst c2
    exact rl_lookup R hd rfl (off := o2) rfl h2 k
  by_cases c3 : x = 3
  · have k := k3 c3
    subst c3
    exact rl_lookup R hd rfl (off := o3) rfl h3 k
  refine rl_lookup R hd rfl (off := dflt) ?_ hd0 (kd c2 c3)
  show Op.lookupswitch.offset [(2, o2), (3, o3)] dflt x.toInt = dflt
  rw [lv_osw c2 (by decide), lv_osw c3 (by decide)]
  rfl
/-- a truth value as a number -/
def bI (b : Bool) : Int32 := if b then 1 else 0
theorem bI_t : bI true = 1 := rfl
theorem bI_f : bI false = 0 := rfl
theorem bI_0 {b : Bool} : bI b = 0 ↔ b = false := by cases b <;> decide
theorem bI_n0 {b : Bool} : ¬ bI b = 0 ↔ b = true := by cases b <;> decide
theorem bI_1 {b : Bool} : bI b = 1 ↔ b = true := by cases b <;> decide
theorem bI_nar (b : Bool) : narrow .boolean (.int (bI b)) = .int (bI b) := by cases b <;> rfl
theorem bI_x1 (b : Bool) : bI b ^^^ 1 = bI (!b) := by cases b <;> decide
theorem nI_pred' (n : Nat) : nI (n + 1) - 1 = nI n := nI_pred n
theorem List.set_getElem?_self' {α : Type} {l : List α} {i : Nat} {a : α} (h : l[i]? = some a) : l.set i a = l := by
  obtain ⟨hi, rfl⟩ := List.getElem?_eq_some_iff.mp h
  exact List.set_getElem_self hi
theorem fb_rng' (x : Int32) : -2147483648 ≤ x.toInt ∧ x.toInt < 2147483648 := ⟨Int32.le_toInt x, Int32.toInt_lt x⟩
theorem e_si {x y : Int32} (h : x = y) : some (Value.int x) = some (Value.int y) := by rw [h]
