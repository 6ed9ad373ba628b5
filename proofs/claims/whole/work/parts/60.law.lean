/-! THE LAW: two worlds apart, calls that keep the other one -/
def ap (w1 w2 : va_W) : Prop := ∀ (i j : Nat) (p q : Nat × va_E), w1[i]? = some p → w2[j]? = some q → p.1 ≠ q.1
theorem ap.symm {w1 w2 : va_W} (h : ap w1 w2) : ap w2 w1 := fun i j p q hp hq e => h j i q p hq hp e.symm
theorem lw_keep {G : va_G} {w w2 w1 : va_W} {H H1 : Heap} (hP2 : va_P G vwCl w2 H) (hap : ap w w2) (hk : ∀ q, q < H.size → ¬ va_A w H.size q → H1[q]? = H[q]?) (hD1 : va_D (va_A w H.size) w1) : va_P G vwCl w2 H1 ∧ ap w1 w2 := by
  have hlt : ∀ (j : Nat) (q : Nat × va_E), w2[j]? = some q → q.1 < H.size := fun j q hq => (hP2 j q hq).lt
  have hnA : ∀ (j : Nat) (q : Nat × va_E), w2[j]? = some q → ¬ va_A w H.size q.1 := by
    rintro j q hq (⟨k, e, hk⟩ | h)
    · exact hap k j _ _ hk hq rfl
    · exact absurd (hlt j q hq) (Nat.not_lt.mpr h)
  refine ⟨hP2.kept (fun j q hq => hk q.1 (hlt j q hq) (hnA j q hq)), fun i j p q hp hq e => ?_⟩
  exact hnA j q hq (e ▸ hD1.2 i p hp)
/-- the tables' words as facts of the classes -/
theorem lw_tys {s : State} {args : Array Value} (hts : ∀ w ∈ lw_tbl, w.before args s = true) : ∃ (G : va_G) (cI cQ : ClassId), va_K G vwCl (sm_tys cI cQ) s := by
  obtain ⟨cI, kI, compI, i1, i2, i3⟩ := Cond.arrayClass_spec (hts _ ac_44)
  obtain ⟨compQ, cQ, kQ, q1, -, q3, q4, q5⟩ := Cond.arrayOver_spec (hts _ ao_104)
  obtain ⟨c0, s0, h0⟩ := u_known (C := RX0) (T := TX0) (N := 2) (n := 2) hts inX0 (hts _ bnX0)
  obtain ⟨c1, s1, h1⟩ := u_known (C := RX1) (T := TX1) (N := 1) (n := 1) hts inX1 (hts _ bnX1)
  obtain ⟨c2, s2, h2⟩ := u_known (C := RX2) (T := TX2) (N := 3) (n := 3) hts inX2 (hts _ bnX2)
  obtain ⟨c3, s3, h3⟩ := u_known (C := RX3) (T := TX3) (N := 1) (n := 1) hts inX3 (hts _ bnX3)
  obtain ⟨c4, s4, h4⟩ := u_known (C := RX4) (T := TX4) (N := 3) (n := 3) hts inX4 (hts _ bnX4)
  obtain ⟨c5, s5, h5⟩ := u_known (C := RX5) (T := TX5) (N := 1) (n := 1) hts inX5 (hts _ bnX5)
  obtain ⟨c6, s6, h6⟩ := u_known (C := RX6) (T := TX6) (N := 2) (n := 2) hts inX6 (hts _ bnX6)
  obtain ⟨c7, s7, h7⟩ := u_known (C := RX7) (T := TX7) (N := 8) (n := 8) hts inX7 (hts _ bnX7)
  obtain ⟨c8, s8, h8⟩ := u_known (C := RX8) (T := TX8) (N := 15) (n := 15) hts inX8 (hts _ bnX8)
  refine ⟨(fun k => match k with | 0 => c0 | 1 => c1 | 2 => c2 | 3 => c3 | 4 => c4 | 5 => c5 | 6 => c6 | 7 => c7 | _ => c8, fun k => match k with | 0 => s0 | 1 => s1 | 2 => s2 | 3 => s3 | 4 => s4 | 5 => s5 | 6 => s6 | 7 => s7 | _ => s8), cI, cQ, ?_, ?_⟩
  · intro k q hq
    match k, hq with
    | 0, hq => cases hq; exact h0
    | 1, hq => cases hq; exact h1
    | 2, hq => cases hq; exact h2
    | 3, hq => cases hq; exact h3
    | 4, hq => cases hq; exact h4
    | 5, hq => cases hq; exact h5
    | 6, hq => cases hq; exact h6
    | 7, hq => cases hq; exact h7
    | 8, hq => cases hq; exact h8
    | k + 9, hq => simp [vwCl] at hq
  · intro k q hq
    match k, hq with
    | 0, hq => cases hq; exact ⟨fun n z => ⟨fun k h => (by cases h), kI, i2, compI, i3⟩, i1⟩
    | 1, hq => cases hq; exact ⟨fun n z => ⟨fun k h => (by cases h), kQ, q3, compQ, q4⟩, kQ, compQ, q3, q4, q1, q5⟩
    | k + 2, hq => simp at hq
theorem lw_N {s : State} {args : Array Value} (hts : ∀ w ∈ lw_tbl, w.before args s = true) : sm_N s := fun w hw hn => va_Nw.of (sm_nt hn) (hts w hw)
theorem lw_AO {s : State} {args : Array Value} (hts : ∀ w ∈ lw_tbl, w.before args s = true) : va_AO "NineLies$Sheet" s := va_AO.of (hts _ ao_104)
theorem lw_f {s : State} {args : Array Value} (hts : ∀ w ∈ lw_tbl, w.before args s = true) : ∀ w ∈ sm_f, w.before args s = true := fun w hw => hts w (List.mem_filter.mp hw).1
section LC
variable {p : Program} {l : Launch} {e : Env} {R : Room} {s : State} {m : MethodId} {args : Array Value} {below : List Frame} {meth : Method} {c : Code} {G : va_G} {cI cQ : ClassId} {ad : Nat → Nat} {A : Nat → Prop} {H0 H : Heap} {locs : List Loc} {cells slots : Nat} {Q : State → Prop} {w2 : va_W} {b : ByteArray} {own : String} {nL : Nat}
/-- behind a call: the callee's world, and the other one as it was -/
theorem lw_back {h h1 : List sm_C} {v : Option Value} {a : Array Value} {pc : Nat} {ls : Array Slot} {rest st0 : List Value} (hr : va_Run p l e R s m args below meth c H locs cells slots 0 0 (F0 m pc ls st0) rest (sm_Qc G cI cQ ad h v h1 H.size a) (va_A (sm_w cI cQ ad h) H.size)) (hD : va_D A (sm_w cI cQ ad h)) (hS : va_S A H0 H locs) (hA : ∀ q, H0.size ≤ q → A q) (hP2 : va_P G vwCl w2 H) (hap : ap (sm_w cI cQ ad h) w2)
    (kk : ∀ (H1 : Heap) (locs1 : List Loc), va_P G vwCl (sm_w cI cQ ad h1) H1 → va_D A (sm_w cI cQ ad h1) → va_P G vwCl w2 H1 → ap (sm_w cI cQ ad h1) w2 → va_S A H0 H1 locs1 → W p l e R s m args below meth c H1 locs1 cells slots Q (F0 m (pc + 3) ls ((v.map (sm_c ad)).toList ++ rest))) : W p l e R s m args below meth c H locs cells slots Q (F0 m pc ls st0) := by
  have hA1 := sm_hA hD hS hA
  intro T hT X
  obtain ⟨v1, st₀, t, T', L, h0, X', hL, e1, e2, ⟨⟨hv, hP1, hK1, hD1⟩, hz, hk⟩, st⟩ := hr T hT X
  have hv1 : v1 = v.map (sm_c ad) := Outcome.returned.inj hv
  subst hv1
  rw [h0] at hz hk
  obtain ⟨k1, k2⟩ := lw_keep hP2 hap hk hD1
  obtain ⟨t2, a1, b1⟩ := kk T'.heap (locs ++ L) (by rw [e1]; exact hP1) (hD1.weaken (fun k q _ h => hA1 q.1 h)) (by rw [e1]; exact k1) k2
    ⟨Nat.le_trans hS.1 (by rw [e1]; exact hz), fun q h1 h2 => by rw [e1, hk q (Nat.lt_of_lt_of_le h1 hS.1) (fun z => h2 (hA1 q z))]; exact hS.2.1 q h1 h2, fun q hq => by
      rcases List.mem_append.mp hq with h | h
      · exact hS.2.2 q h
      · exact hA1 _ (hL q h)⟩ T' rfl X'
  exact ⟨t2, st t2 a1, b1⟩
theorem lw_backN {h h1 : List sm_C} {a : Array Value} {pc m2 s2 : Nat} {ls : Array Slot} {rest st0 : List Value} (hr : va_Run p l e R s m args below meth c H locs cells slots m2 s2 (F0 m pc ls st0) rest (sm_QcN G cI cQ ad h h1 H.size a) (va_A (sm_w cI cQ ad h) H.size)) (hD : va_D A (sm_w cI cQ ad h)) (hS : va_S A H0 H locs) (hA : ∀ q, H0.size ≤ q → A q) (hP2 : va_P G vwCl w2 H) (hap : ap (sm_w cI cQ ad h) w2)
    (kk : ∀ (ad' : Nat → Nat) (H1 : Heap) (locs1 : List Loc), (∀ k, k < h.length → ad' k = ad k) → va_P G vwCl (sm_w cI cQ ad' h1) H1 → va_D A (sm_w cI cQ ad' h1) → va_P G vwCl w2 H1 → ap (sm_w cI cQ ad' h1) w2 → va_S A H0 H1 locs1 → W p l e R s m args below meth c H1 locs1 (cells + m2) (slots + s2) Q (F0 m (pc + 3) ls rest)) : W p l e R s m args below meth c H locs cells slots Q (F0 m pc ls st0) := by
  have hA1 := sm_hA hD hS hA
  intro T hT X
  obtain ⟨v1, st₀, t, T', L, h0, X', hL, e1, e2, ⟨⟨hv, ad', he, hP1, hK1, hD1⟩, hz, hk⟩, st⟩ := hr T hT X
  have hv1 : v1 = none := Outcome.returned.inj hv
  subst hv1
  rw [h0] at hz hk
  obtain ⟨k1, k2⟩ := lw_keep hP2 hap hk hD1
  obtain ⟨t2, a1, b1⟩ := kk ad' T'.heap (locs ++ L) he (by rw [e1]; exact hP1) (hD1.weaken (fun k q _ h => hA1 q.1 h)) (by rw [e1]; exact k1) k2
    ⟨Nat.le_trans hS.1 (by rw [e1]; exact hz), fun q h1 h2 => by rw [e1, hk q (Nat.lt_of_lt_of_le h1 hS.1) (fun z => h2 (hA1 q z))]; exact hS.2.1 q h1 h2, fun q hq => by
      rcases List.mem_append.mp hq with h | h
      · exact hS.2.2 q h
      · exact hA1 _ (hL q h)⟩ T' rfl X'
  exact ⟨t2, st t2 a1, b1⟩
/-- a call of one of the two objects, with numbers alone -/
theorem lw_callV {d : Nat} (hx : p.tables.exec = Jvm.exec) (hb : c.code = b) (hml : c.maxLocals = nL) (hown : s.vm.findClass own = some m.cls) (hts : ∀ w ∈ lw_tbl, w.before args s = true) (hK : va_K G vwCl (sm_tys cI cQ) s) (hA : ∀ q, H0.size ≤ q → A q) (hfr : d + 1 ≤ R.frames) (hlo : 38 * d + 38 ≤ R.locals) (hcc : cells ≤ R.cells) (hss : slots ≤ R.slots) {pc i ci : Nat} {ls : Array Slot} {st stk : List Value} {h h1 : List sm_C} {fs : List Value} {as : List Value} {y : MethodName} {r : Int32}
    (hd : decode b pc = .ok (.invokevirtual i, 3)) (hk : sm_L own i y) (hh : h[0]? = some (hO ci fs)) (hc : (vwCl[ci]?).map (fun q => q.1) = some y.cls) (hst : (st.map fun v => v.category).sum ≤ 8) (hM : BS d false y (.ref 0 :: as) h (some (.int r)) h1) (has : as.map (sm_c ad) = as) (hstk : stk = as.reverse ++ .ref (ad 0) :: st)
    (hP : va_P G vwCl (sm_w cI cQ ad h) H) (hD : va_D A (sm_w cI cQ ad h)) (hP2 : va_P G vwCl w2 H) (hap : ap (sm_w cI cQ ad h) w2) (hS : va_S A H0 H locs) (hsz : ls.size = nL)
    (k : ∀ (H1 : Heap) (locs1 : List Loc), va_P G vwCl (sm_w cI cQ ad h1) H1 → va_D A (sm_w cI cQ ad h1) → va_P G vwCl w2 H1 → ap (sm_w cI cQ ad h1) w2 → va_S A H0 H1 locs1 → W p l e R s m args below meth c H1 locs1 cells slots Q (F0 m (pc + 3) ls (.int r :: st))) : W p l e R s m args below meth c H locs cells slots Q (F0 m pc ls stk) := by
  subst hstk
  have hN := lw_N hts
  have hts := lw_f hts
  obtain ⟨q, hq, rfl, hstat, hlen, hM⟩ := bs_met l d _ _ _ _ _ _ hM
  obtain ⟨o1, o2, o3, o4, o5, o6, o7⟩ := sm_T_ok q hq
  have hins : Cond.instanceMethod q.1.1 ∈ lw_tbl ∧ Cond.selects q.1.1.cls q.1.1 q.1.1 ∈ lw_tbl := by
    rcases o3 with ⟨z, -⟩ | ⟨-, z⟩
    · rw [hstat] at z; cases z
    · exact z
  have hM := hM G cI cQ ad H.size
  have hrecv : ∃ cell : Cell, H[ad 0]? = some cell ∧ cell.vm.isStatics = false ∧ s.vm.findClass q.1.1.cls = some cell.cls := by
    cases hci : vwCl[ci]? with
    | none => rw [hci] at hc; cases hc
    | some r =>
      rw [hci] at hc
      have hr : r.1 = q.1.1.cls := Option.some.inj hc
      rw [← hr]
      exact va_recv hK hP hci (sm_wo hh)
  have hpv : PreV s H q.1.1.cls (ad 0) (sm_Pc G cI cQ ad (.ref 0 :: as) h H.size) as := ⟨sm_blind, hrecv, fun U hU hW => by
    have := sm_pre (as := .ref 0 :: as) hP hK hD hN U hU hW
    rw [List.map_cons, has] at this
    exact this⟩
  have hlen2 : as.length = q.2 := by
    simp only [List.length_cons, Bool.false_eq_true, if_false] at hlen
    omega
  have hroom : (sm_rm d).frames + 1 ≤ R.frames ∧ 8 + (q.1.2.2.1 + 11) + (sm_rm d).locals ≤ R.locals := ⟨hfr, by show 8 + (q.1.2.2.1 + 11) + 38 * d ≤ R.locals; omega⟩
  refine lw_back (v := some (.int r)) (st0 := as.reverse ++ .ref (ad 0) :: st) (rest := st) (a := (Value.ref (ad 0) :: as).toArray) ?_ hD hS hA hP2 hap k
  rcases hk with hk | hk
  · exact va_runV (Ts := sm_f) ⟨hx, hb, hml, hown, hts⟩ hM ⟨callB_of (n := q.2) hts (sm_good hq) rfl rfl rfl (hts _ (sm_ff o2 rfl)) (hts _ (sm_ff hk rfl)) ⟨o5.1, o5.2, o7⟩ hroom, hts _ (sm_ff hins.1 rfl), hts _ (sm_ff hins.2 rfl)⟩ hpv rfl hlen2 hsz rfl (lv_room hst) hd ⟨hcc, hss⟩
  · exact va_runVN (Ts := sm_f) ⟨hx, hb, hml, hown, hts⟩ hM ⟨va_cnB (Ts := sm_f) (n := q.2) hts (sm_good hq) rfl rfl rfl (hN _ hk rfl) (hts _ (sm_ff o2 rfl)) ⟨o5.1, o5.2, o7⟩ hroom, hts _ (sm_ff hins.1 rfl), hts _ (sm_ff hins.2 rfl)⟩ hpv rfl hlen2 hsz rfl (lv_room hst) hd ⟨hcc, hss⟩
/-- a constructor's call from the law -/
theorem lw_callI {d m2 s2 : Nat} (hx : p.tables.exec = Jvm.exec) (hb : c.code = b) (hml : c.maxLocals = nL) (hown : s.vm.findClass own = some m.cls) (hts : ∀ w ∈ lw_tbl, w.before args s = true) (hK : va_K G vwCl (sm_tys cI cQ) s) (hA : ∀ q, H0.size ≤ q → A q) (hfr : d + 1 ≤ R.frames) (hlo : 38 * d + 38 ≤ R.locals) {pc i a : Nat} {ls : Array Slot} {st stk : List Value} {h h1 : List sm_C} {y : MethodName}
    (hcc : cells + m2 ≤ R.cells) (hss : slots + s2 ≤ R.slots) (hd : decode b pc = .ok (.invokespecial i, 3)) (hk : sm_L own i y) (hst : (st.map fun v => v.category).sum ≤ 8) (hM : NB d y a h h1 m2 s2) (hstk : stk = .ref (ad a) :: st)
    (hP : va_P G vwCl (sm_w cI cQ ad h) H) (hD : va_D A (sm_w cI cQ ad h)) (hP2 : va_P G vwCl w2 H) (hap : ap (sm_w cI cQ ad h) w2) (hS : va_S A H0 H locs) (hsz : ls.size = nL)
    (k : ∀ (ad' : Nat → Nat) (H1 : Heap) (locs1 : List Loc), (∀ k, k < h.length → ad' k = ad k) → va_P G vwCl (sm_w cI cQ ad' h1) H1 → va_D A (sm_w cI cQ ad' h1) → va_P G vwCl w2 H1 → ap (sm_w cI cQ ad' h1) w2 → va_S A H0 H1 locs1 → W p l e R s m args below meth c H1 locs1 (cells + m2) (slots + s2) Q (F0 m (pc + 3) ls st)) : W p l e R s m args below meth c H locs cells slots Q (F0 m pc ls stk) := by
  subst hstk
  have hN := lw_N hts
  have hO := lw_AO hts
  have hts := lw_f hts
  obtain ⟨q, hq, rfl, hM⟩ := nb_met l d _ _ _ _ _ _ hM
  obtain ⟨o1, o2, o3, o4, o5, o6, o7, o8⟩ := sm_TN_ok q hq
  have hM := hM G cI cQ ad H.size
  have hpv : PreS s H (sm_PcN G cI cQ ad [.ref a] h H.size) (.ref (ad a) :: []) := ⟨sm_blindN, sm_preN (as := [.ref a]) hP hK hD hN hO⟩
  have hroom : (sm_rmN d m2 s2).frames + 1 ≤ R.frames ∧ 8 + (q.2.2 + 11) + (sm_rmN d m2 s2).locals ≤ R.locals := ⟨hfr, by show 8 + (q.2.2 + 11) + 38 * d ≤ R.locals; omega⟩
  refine lw_backN (st0 := .ref (ad a) :: st) (rest := st) (a := (Value.ref (ad a) :: []).toArray) ?_ hD hS hA hP2 hap k
  rcases hk with hk | hk
  · exact va_runI (Ts := sm_f) ⟨hx, hb, hml, hown, hts⟩ hM ⟨callB_of (n := 0) hts (sm_goodN hq) rfl rfl rfl (hts _ (sm_ff o2 rfl)) (hts _ (sm_ff hk rfl)) ⟨o5.1, o5.2, o7⟩ hroom, o8, hts _ (sm_ff o3 rfl)⟩ hpv rfl rfl hsz rfl (lv_room hst) hd ⟨hcc, hss⟩
  · exact va_runIN (Ts := sm_f) ⟨hx, hb, hml, hown, hts⟩ hM ⟨va_cnB (Ts := sm_f) (n := 0) hts (sm_goodN hq) rfl rfl rfl (hN _ hk rfl) (hts _ (sm_ff o2 rfl)) ⟨o5.1, o5.2, o7⟩ hroom, o8, hts _ (sm_ff o3 rfl)⟩ hpv rfl rfl hsz rfl (lv_room hst) hd ⟨hcc, hss⟩
end LC
