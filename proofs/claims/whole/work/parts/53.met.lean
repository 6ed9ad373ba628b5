/-! THE MACHINE DOES what a constructor says -/
def sm_rmN (d mc ms : Nat) : Room := { frames := d, cells := mc, slots := ms, locals := 38 * d }
def sm_PcN (G : va_G) (cI cQ : ClassId) (ad : Nat → Nat) (as : List Value) (h : List sm_C) (sz : Nat) : Array Value → State → Prop := fun a U => sm_Pc G cI cQ ad as h sz a U ∧ va_AO "NineLies$Sheet" U
def sm_QcN (G : va_G) (cI cQ : ClassId) (ad : Nat → Nat) (h h1 : List sm_C) (sz : Nat) : Array Value → State → Outcome → State → Prop := fun _ st oc t =>
  (oc = .returned none ∧ ∃ ad' : Nat → Nat, (∀ k, k < h.length → ad' k = ad k) ∧ va_P G vwCl (sm_w cI cQ ad' h1) t.heap ∧ va_K G vwCl (sm_tys cI cQ) t ∧ va_D (va_A (sm_w cI cQ ad h) sz) (sm_w cI cQ ad' h1)) ∧ va_F (va_A (sm_w cI cQ ad h) sz) st t
theorem sm_blindN {G : va_G} {cI cQ : ClassId} {ad : Nat → Nat} {as : List Value} {h : List sm_C} {sz : Nat} : FrameBlind (sm_PcN G cI cQ ad as h sz) :=
  fun a U g mk q => ⟨sm_blind a U g mk q.1, va_AO.moved (u := U) (U := U.calling g mk a) (Vm.Alike.refl U.vm) q.2⟩
theorem sm_preN {G : va_G} {cI cQ : ClassId} {ad : Nat → Nat} {as : List Value} {h : List sm_C} {s : State} {H : Heap} {A : Nat → Prop} (hP : va_P G vwCl (sm_w cI cQ ad h) H) (hK : va_K G vwCl (sm_tys cI cQ) s) (hD : va_D A (sm_w cI cQ ad h)) (hN : sm_N s) (hO : va_AO "NineLies$Sheet" s) :
    ∀ U : State, U.heap = H → s.WarmedH U.vm → sm_PcN G cI cQ ad as h H.size (as.map (sm_c ad)).toArray U :=
  fun U hU hW => ⟨sm_pre hP hK hD hN U hU hW, va_AO.moved hW.alike hO⟩
theorem sm_goodN {q : MethodName × ByteArray × Nat} (hq : q ∈ sm_TN) : GoodIn sm_f (Cond.code q.1 q.2.1 q.2.2 none :: sm_gw) := by
  intro w hw
  rcases List.mem_cons.mp hw with rfl | hw
  · exact ⟨sm_ff (sm_TN_ok q hq).1 rfl, good_of_word rfl⟩
  · exact ⟨sm_ff (List.mem_filter.mp hw).1 (by rw [(List.mem_filter.mp hw).2]; rfl), good_of_word (List.mem_filter.mp hw).2⟩
def sm_MetN (l : Launch) (d : Nat) (y : MethodName) (a : Nat) (h h1 : List sm_C) (mc ms : Nat) : Prop :=
  ∃ q ∈ sm_TN, q.1 = y ∧ ∀ (G : va_G) (cI cQ : ClassId) (ad : Nat → Nat) (sz : Nat),
    Met l y (Cond.code y q.2.1 q.2.2 none :: sm_gw) (sm_rmN d mc ms) (sm_PcN G cI cQ ad [.ref a] h sz) (sm_QcN G cI cQ ad h h1 sz) mc ms (va_A (sm_w cI cQ ad h) sz)
/-- address maps that agree below n0, with room -/
abbrev sm_IX (mc ms n0 : Nat) (ad : Nat → Nat) (c s : Nat) : Type := { a : Nat → Nat // c ≤ mc ∧ s ≤ ms ∧ ∀ k, k < n0 → a k = ad k }
def sm_up (ad : Nat → Nat) (n q : Nat) : Nat → Nat := fun z => if z = n then q else ad z
theorem sm_up_lt {ad : Nat → Nat} {n q k : Nat} (h : k < n) : sm_up ad n q k = ad k := if_neg (Nat.ne_of_lt h)
theorem sm_up_eq {ad : Nat → Nat} {n q : Nat} : sm_up ad n q n = q := if_pos rfl
theorem sm_w_up {cI cQ : ClassId} {ad : Nat → Nat} {h : List sm_C} {x : sm_C} {q : Nat} (hr : ∀ x ∈ h, rbC h.length x) : sm_w cI cQ (sm_up ad h.length q) (h ++ [x]) = sm_w cI cQ ad h ++ [(q, sm_e cI cQ (sm_up ad h.length q) x)] := by
  rw [sm_w_app, sm_w_ad (fun k hk => sm_up_lt hk) hr, sm_up_eq]
def sm_AN (p : Program) (l : Launch) (e : Env) (R : Room) (s : State) (m : MethodId) (args : Array Value) (below : List Frame) (meth : Method) (c : Code) (G : va_G) (cI cQ : ClassId) (ad : Nat → Nat) (nL : Nat) (A : Nat → Prop) (H0 : Heap) (n0 mc ms : Nat) (Q : State → Prop) (free : Nat → Prop) : sm_KN := fun cc ss pc L st h =>
  ∀ i : sm_IX mc ms n0 ad cc ss, sm_AW p l e R s m args below meth c G cI cQ i.1 nL A H0 cc ss Q free pc L st h
section SNW
variable {p : Program} {l : Launch} {e : Env} {R : Room} {s : State} {m : MethodId} {args : Array Value} {below : List Frame} {meth : Method} {c : Code} {G : va_G} {cI cQ : ClassId} {ad : Nat → Nat} {nL : Nat} {A : Nat → Prop} {H0 : Heap} {n0 mc ms : Nat} {Q : State → Prop} {free : Nat → Prop} {b : ByteArray} {own : String}
theorem sn_obj (hx : p.tables.exec = Jvm.exec) (hb : c.code = b) (hml : c.maxLocals = nL) (hown : s.vm.findClass own = some m.cls) (hts : ∀ w ∈ sm_f, w.before args s = true) (hfr : 1 ≤ R.frames) (hlo : 38 ≤ R.locals) : nu_obj own b (sm_AN p l e R s m args below meth c G cI cQ ad nL A H0 n0 mc ms Q free) := by
  intro c s pc L st h i a hd hk hst k ix H locs ls hP hD hS hl hn
  have hrm := lv_room (m := m) (pc := pc) (ls := ls) (rest := (Value.ref a :: st).map (sm_c ix.1)) (sm_sum (ad := ix.1) hst)
  exact W.objInit hx hb hown (hts _ (sm_ff hk rfl)) (hts _ (sm_ff oi_n rfl)) (hts _ (sm_ff oi_c rfl)) rfl (hl.1.trans hml.symm) rfl hd hfr (by omega) (k ix H locs ls hP hD hS hl hn)
theorem sn_new (hx : p.tables.exec = Jvm.exec) (hb : c.code = b) (hown : s.vm.findClass own = some m.cls) (hts : ∀ w ∈ sm_f, w.before args s = true) (hK : va_K G vwCl (sm_tys cI cQ) s) (hA : ∀ q, H0.size ≤ q → A q) (hcc : mc ≤ R.cells) (hss : ms ≤ R.slots) : nu_new own b (sm_AN p l e R s m args below meth c G cI cQ ad nL A H0 n0 mc ms Q free) n0 mc ms := by
  intro c s pc L st h i ci N C T fs ty hd hl0 hi hz hc hty hfs hnr hr h0 h1 h2 k ix H locs ls hP hD hS hl hn
  refine va_new hx hb (Ts := sm_f) hts (sm_in_cl hc) ty hty hown (hts _ (sm_ff hl0 rfl)) (hts _ (sm_ff hi rfl)) (hts _ (sm_ff hz rfl)) hK hP hD hS hA hc hfs (Nat.le_trans h1 hcc) (Nat.le_trans h2 hss) hd (fun q H1 hP1 hD1 hS1 => ?_)
  have e0 : ∀ z, z < h.length → sm_up ix.1 h.length q z = ix.1 z := fun z hz => sm_up_lt hz
  have ew : sm_w cI cQ (sm_up ix.1 h.length q) (h ++ [hO ci fs]) = sm_w cI cQ ix.1 h ++ [(q, .inr (ci, fs))] := by
    rw [sm_w_up hr.1]
    show _ ++ [(q, Sum.inr (ci, fs.map (sm_c (sm_up ix.1 h.length q))))] = _
    rw [hnr]
  have k1 := k ⟨sm_up ix.1 h.length q, h1, h2, fun z hz => (e0 z (Nat.lt_of_lt_of_le hz h0)).trans (ix.2.2.2 z hz)⟩ H1 locs ls (by rw [ew]; exact hP1) (by rw [ew]; exact hD1) hS1 (by rw [sm_lm_ad e0 hr.2.1]; exact hl) hn
  rw [List.map_cons, sm_st_ad e0 hr.2.2, show sm_c (sm_up ix.1 h.length q) (.ref h.length) = .ref q from congrArg Value.ref sm_up_eq] at k1
  exact k1
theorem sn_arr (hx : p.tables.exec = Jvm.exec) (hb : c.code = b) (hts : ∀ w ∈ sm_f, w.before args s = true) (hK : va_K G vwCl (sm_tys cI cQ) s) (hA : ∀ q, H0.size ≤ q → A q) (hcc : mc ≤ R.cells) (hss : ms ≤ R.slots) : nu_arr b (sm_AN p l e R s m args below meth c G cI cQ ad nL A H0 n0 mc ms Q free) n0 mc ms := by
  intro c s pc L st h N x hd hx0 hN hr h0 h1 h2 k ix H locs ls hP hD hS hl hn
  subst hx0
  have hN2 : N < 2 ^ 31 := by omega
  refine va_newa hx hb (atype := .int) (hts _ (sm_ff ac_44 rfl)) (ty := .int) rfl hK hP hD hS hA (a0 := (N, .inl (fun _ => 0))) (fun _ => rfl) (nI_pos hN2) (nI_clamp hN2) (by show N * 4 ≤ 536870912; omega) (Nat.le_trans h1 hcc) (Nat.le_trans h2 hss) hd (fun q cA H1 hK1 hP1 hD1 hS1 => ?_)
  have hcA : cA = cI := Option.some.inj ((hK1.2 2 (cA, .int) rfl).2.symm.trans (hK.2 0 (cI, .int) rfl).2)
  subst hcA
  have e0 : ∀ z, z < h.length → sm_up ix.1 h.length q z = ix.1 z := fun z hz => sm_up_lt hz
  have ew : sm_w cA cQ (sm_up ix.1 h.length q) (h ++ [hI N (fun _ => 0)]) = sm_w cA cQ ix.1 h ++ [(q, .inl (cA, N, .inl (fun _ => 0)))] := sm_w_up hr.1
  have k1 := k ⟨sm_up ix.1 h.length q, h1, h2, fun z hz => (e0 z (Nat.lt_of_lt_of_le hz h0)).trans (ix.2.2.2 z hz)⟩ H1 locs ls (by rw [ew]; exact hP1) (by rw [ew]; exact hD1) hS1 (by rw [sm_lm_ad e0 hr.2.1]; exact hl) hn
  rw [List.map_cons, sm_st_ad e0 hr.2.2, show sm_c (sm_up ix.1 h.length q) (.ref h.length) = .ref q from congrArg Value.ref sm_up_eq] at k1
  exact k1
theorem sn_arq (hx : p.tables.exec = Jvm.exec) (hb : c.code = b) (hown : s.vm.findClass own = some m.cls) (hts : ∀ w ∈ sm_f, w.before args s = true) (hO : va_AO "NineLies$Sheet" s) (hK : va_K G vwCl (sm_tys cI cQ) s) (hA : ∀ q, H0.size ≤ q → A q) (hcc : mc ≤ R.cells) (hss : ms ≤ R.slots) : nu_arq own b (sm_AN p l e R s m args below meth c G cI cQ ad nL A H0 n0 mc ms Q free) n0 mc ms := by
  intro c s pc L st h i N x hd hl0 hx0 hN hr h0 h1 h2 k ix H locs ls hP hD hS hl hn
  subst hx0
  have hN2 : N < 2 ^ 31 := by omega
  refine va_newq hx hb hown (hts _ (sm_ff hl0 rfl)) hO hK hP hD hS hA (nI_pos hN2) (nI_clamp hN2) (by omega) (Nat.le_trans h1 hcc) (Nat.le_trans h2 hss) hd (fun q cA H1 hK1 hP1 hD1 hS1 => ?_)
  obtain ⟨_, _, -, -, -, f1⟩ := (hK1.2 2 (cA, .object "NineLies$Sheet") rfl).2
  obtain ⟨_, _, -, -, -, f2⟩ := (hK.2 1 (cQ, .object "NineLies$Sheet") rfl).2
  have hcA : cA = cQ := Option.some.inj (f1.symm.trans f2)
  subst hcA
  have e0 : ∀ z, z < h.length → sm_up ix.1 h.length q z = ix.1 z := fun z hz => sm_up_lt hz
  have ew : sm_w cI cA (sm_up ix.1 h.length q) (h ++ [hQ N (fun _ => none)]) = sm_w cI cA ix.1 h ++ [(q, .inl (cA, N, .inr (.inr (.inr (.inr (fun _ => none))))))] := sm_w_up hr.1
  have k1 := k ⟨sm_up ix.1 h.length q, h1, h2, fun z hz => (e0 z (Nat.lt_of_lt_of_le hz h0)).trans (ix.2.2.2 z hz)⟩ H1 locs ls (by rw [ew]; exact hP1) (by rw [ew]; exact hD1) hS1 (by rw [sm_lm_ad e0 hr.2.1]; exact hl) hn
  rw [List.map_cons, sm_st_ad e0 hr.2.2, show sm_c (sm_up ix.1 h.length q) (.ref h.length) = .ref q from congrArg Value.ref sm_up_eq] at k1
  exact k1
theorem sn_putF (hx : p.tables.exec = Jvm.exec) (hb : c.code = b) (hown : s.vm.findClass own = some m.cls) (hts : ∀ w ∈ sm_f, w.before args s = true) (hin2 : meth.name = "<init>") (hK : va_K G vwCl (sm_tys cI cQ) s) : nu_putF own b (sm_AN p l e R s m args below meth c G cI cQ ad nL A H0 n0 mc ms Q free) := by
  intro c s pc L st h i a ci j v fs ty hd hF hnf hh hj2 k ix H locs ls hP hD hS hl hn
  obtain ⟨C, T, N, hc, hj, hown2, hfin, hds, hlk⟩ := hF
  have he := sm_wo (cI := cI) (cQ := cQ) (ad := ix.1) hh
  have hjl : j < (fs.map (sm_c ix.1)).length := by rw [List.length_map]; exact hj2
  obtain ⟨ty0, hty, hnm⟩ := sm_ty_cl hc
  exact va_putF (v := .ref (ix.1 v)) (ty := ty) hx hb hts (sm_in_cl hc) ty0 hty hnm hown hK hP hD hS a he hc j hj (hts _ (sm_ff hlk rfl)) (fun _ h9 => by rw [hown2] at h9; exact h9) hfin hin2 hown2 hds (hnf _).1 (hnf _).2 hjl hd (fun H1 locs1 hP1 hD1 hS1 => k ix H1 locs1 ls (by rw [sm_ws_o hh (ci := ci) (fs := fs.set j (.ref v)), List.map_set]; exact hP1) (by rw [sm_ws_o hh (ci := ci) (fs := fs.set j (.ref v)), List.map_set]; exact hD1) hS1 hl hn)
theorem sm_cellq {cA : ClassId} {n : Nat} {f g : Nat → Option Nat} (h : ∀ z, z < n → g z = f z) : vp_cell cA (n, .inr (.inr (.inr (.inr g)))) = vp_cell cA (n, .inr (.inr (.inr (.inr f)))) := by
  show arrV cA n (fun j => va_rf (g j)) = arrV cA n (fun j => va_rf (f j))
  unfold arrV
  congr 1
  apply Array.ext
  · simp
  · intro i h1 h2
    simp only [Array.size_ofFn] at h1
    simp [h i h1]
theorem sn_ast (hx : p.tables.exec = Jvm.exec) (hb : c.code = b) (hK : va_K G vwCl (sm_tys cI cQ) s) : nu_ast b (sm_AN p l e R s m args below meth c G cI cQ ad nL A H0 n0 mc ms Q free) := by
  intro c s pc L st h a j n v f g vs i hd hh hi hj hN hv hg k ix H locs ls hP hD hS hl hn
  have he := sm_wq (cI := cI) (cQ := cQ) (ad := ix.1) hh
  have hc : (nI j).toNatClampNeg = j := nI_clamp (Nat.lt_trans hj hN)
  subst hi
  refine va_astq hx hb hK hP hD hS a 1 v 2 he rfl (sm_wo hv) rfl (vp_in_nI hj hN) hd (fun H1 locs1 hP1 hD1 hS1 => ?_)
  rw [hc] at hP1 hD1
  have ew : sm_w cI cQ ix.1 (h.set a (hQ n g)) = (sm_w cI cQ ix.1 h).set a (ix.1 a, .inl (cQ, n, .inr (.inr (.inr (.inr (fun z => (g z).map ix.1)))))) := sm_ws hh
  have hl1 := (List.getElem?_eq_some_iff.mp he).1
  refine k ix H1 locs1 ls ?_ ?_ hS1 hl hn
  · rw [ew]
    intro z q hq
    by_cases hz : a = z
    · subst hz
      rw [List.getElem?_set_self hl1] at hq
      cases hq
      have h9 := hP1 a _ (List.getElem?_set_self hl1)
      refine (h9 : H1[ix.1 a]? = _).trans (congrArg some ?_)
      refine (sm_cellq (fun y hy => ?_)).symm
      show (g y).map ix.1 = va_up (fun z => (f z).map ix.1) j (some (ix.1 v)) y
      rw [hg y hy]
      unfold va_up
      by_cases hz : y = j
      · simp [hz]
      · simp [hz]
    · rw [List.getElem?_set_ne hz] at hq
      exact hP1 z q (by rw [List.getElem?_set_ne hz]; exact hq)
  · rw [ew]; exact hD.set he
/-- behind a constructor's call -/
theorem sm_callN {h h1 : List sm_C} {a : Array Value} {pc cells slots m2 s2 : Nat} {ls : Array Slot} {rest st0 : List Value} {H : Heap} {locs : List Loc} (hr : va_Run p l e R s m args below meth c H locs cells slots m2 s2 (F0 m pc ls st0) rest (sm_QcN G cI cQ ad h h1 H.size a) (va_A (sm_w cI cQ ad h) H.size)) (hD : va_D A (sm_w cI cQ ad h)) (hS : va_S A H0 H locs) (hA : ∀ q, H0.size ≤ q → A q)
    (kk : ∀ (ad' : Nat → Nat) (H1 : Heap) (locs1 : List Loc), (∀ k, k < h.length → ad' k = ad k) → va_P G vwCl (sm_w cI cQ ad' h1) H1 → va_D A (sm_w cI cQ ad' h1) → va_S A H0 H1 locs1 → W p l e R s m args below meth c H1 locs1 (cells + m2) (slots + s2) Q (F0 m (pc + 3) ls rest)) : W p l e R s m args below meth c H locs cells slots Q (F0 m pc ls st0) := by
  have hA1 := sm_hA hD hS hA
  intro T hT X
  obtain ⟨v1, st₀, t, T', L, h0, X', hL, e1, e2, ⟨⟨hv, ad', he, hP1, hK1, hD1⟩, hz, hk⟩, st⟩ := hr T hT X
  have hv1 : v1 = none := Outcome.returned.inj hv
  subst hv1
  rw [h0] at hz hk
  obtain ⟨t2, a1, b1⟩ := kk ad' T'.heap (locs ++ L) he (by rw [e1]; exact hP1) (hD1.weaken (fun k q _ h => hA1 q.1 h))
    ⟨Nat.le_trans hS.1 (by rw [e1]; exact hz), fun q h1 h2 => by rw [e1, hk q (Nat.lt_of_lt_of_le h1 hS.1) (fun z => h2 (hA1 q z))]; exact hS.2.1 q h1 h2, fun q hq => by
      rcases List.mem_append.mp hq with h | h
      · exact hS.2.2 q h
      · exact hA1 _ (hL q h)⟩ T' rfl X'
  exact ⟨t2, st t2 a1, b1⟩
/-- a constructor's call, at one address map -/
theorem sm_callI {d m2 s2 : Nat} (hx : p.tables.exec = Jvm.exec) (hb : c.code = b) (hml : c.maxLocals = nL) (hown : s.vm.findClass own = some m.cls) (hts : ∀ w ∈ sm_f, w.before args s = true) (hK : va_K G vwCl (sm_tys cI cQ) s) (hN : sm_N s) (hO : va_AO "NineLies$Sheet" s) (hA : ∀ q, H0.size ≤ q → A q) (hfr : d + 1 ≤ R.frames) (hlo : 38 * d + 38 ≤ R.locals) {pc i a cells slots : Nat} {ls : Array Slot} {st : List Value} {h h1 : List sm_C} {H : Heap} {locs : List Loc} {y : MethodName}
    (hcc : cells + m2 ≤ R.cells) (hss : slots + s2 ≤ R.slots) (hd : decode b pc = .ok (.invokespecial i, 3)) (hk : sm_L own i y) (hst : (st.map fun v => v.category).sum ≤ 8) (hM : sm_MetN l d y a h h1 m2 s2)
    (hP : va_P G vwCl (sm_w cI cQ ad h) H) (hD : va_D A (sm_w cI cQ ad h)) (hS : va_S A H0 H locs) (hsz : ls.size = nL)
    (k : ∀ (ad' : Nat → Nat) (H1 : Heap) (locs1 : List Loc), (∀ k, k < h.length → ad' k = ad k) → va_P G vwCl (sm_w cI cQ ad' h1) H1 → va_D A (sm_w cI cQ ad' h1) → va_S A H0 H1 locs1 → W p l e R s m args below meth c H1 locs1 (cells + m2) (slots + s2) Q (F0 m (pc + 3) ls (st.map (sm_c ad)))) : W p l e R s m args below meth c H locs cells slots Q (F0 m pc ls ((.ref a :: st).map (sm_c ad))) := by
  obtain ⟨q, hq, rfl, hM⟩ := hM
  obtain ⟨o1, o2, o3, o4, o5, o6, o7, o8⟩ := sm_TN_ok q hq
  have hM := hM G cI cQ ad H.size
  have hpv : PreS s H (sm_PcN G cI cQ ad [.ref a] h H.size) (.ref (ad a) :: []) := ⟨sm_blindN, sm_preN (as := [.ref a]) hP hK hD hN hO⟩
  have hroom : (sm_rmN d m2 s2).frames + 1 ≤ R.frames ∧ 8 + (q.2.2 + 11) + (sm_rmN d m2 s2).locals ≤ R.locals := ⟨hfr, by show 8 + (q.2.2 + 11) + 38 * d ≤ R.locals; omega⟩
  refine sm_callN (st0 := .ref (ad a) :: st.map (sm_c ad)) (rest := st.map (sm_c ad)) (a := (Value.ref (ad a) :: []).toArray) ?_ hD hS hA k
  rcases hk with hk | hk
  · exact va_runI (Ts := sm_f) ⟨hx, hb, hml, hown, hts⟩ hM ⟨callB_of (n := 0) hts (sm_goodN hq) rfl rfl rfl (hts _ (sm_ff o2 rfl)) (hts _ (sm_ff hk rfl)) ⟨o5.1, o5.2, o7⟩ hroom, o8, hts _ (sm_ff o3 rfl)⟩ hpv rfl rfl hsz rfl (lv_room (sm_sum hst)) hd ⟨hcc, hss⟩
  · exact va_runIN (Ts := sm_f) ⟨hx, hb, hml, hown, hts⟩ hM ⟨va_cnB (Ts := sm_f) (n := 0) hts (sm_goodN hq) rfl rfl rfl (hN _ hk rfl) (hts _ (sm_ff o2 rfl)) ⟨o5.1, o5.2, o7⟩ hroom, o8, hts _ (sm_ff o3 rfl)⟩ hpv rfl rfl hsz rfl (lv_room (sm_sum hst)) hd ⟨hcc, hss⟩
theorem sn_ini {d : Nat} {S : sm_SN} (hS0 : ∀ {y a h h1 m2 s2}, S y a h h1 m2 s2 → sm_MetN l d y a h h1 m2 s2) (hx : p.tables.exec = Jvm.exec) (hb : c.code = b) (hml : c.maxLocals = nL) (hown : s.vm.findClass own = some m.cls) (hts : ∀ w ∈ sm_f, w.before args s = true) (hK : va_K G vwCl (sm_tys cI cQ) s) (hN : sm_N s) (hO : va_AO "NineLies$Sheet" s) (hA : ∀ q, H0.size ≤ q → A q) (hfr : d + 1 ≤ R.frames) (hlo : 38 * d + 38 ≤ R.locals) (hcc : mc ≤ R.cells) (hss : ms ≤ R.slots) : nu_ini S own b (sm_AN p l e R s m args below meth c G cI cQ ad nL A H0 n0 mc ms Q free) n0 mc ms := by
  intro c s pc L st h h1 i a m2 s2 y hd hk hst hS1 hr h0 hc h2 k ix H locs ls hP hD hS hl hn
  refine sm_callI hx hb hml hown hts hK hN hO hA hfr hlo (Nat.le_trans hc hcc) (Nat.le_trans h2 hss) hd hk hst (hS0 hS1) hP hD hS hl.1 (fun ad' H1 locs1 he hP1 hD1 hS1 => ?_)
  have k1 := k ⟨ad', hc, h2, fun z hz => (he z (Nat.lt_of_lt_of_le hz h0)).trans (ix.2.2.2 z hz)⟩ H1 locs1 ls hP1 hD1 hS1 (by rw [sm_lm_ad he hr.2.1]; exact hl) hn
  rw [sm_st_ad he hr.2.2] at k1
  exact k1
end SNW
set_option maxHeartbeats 4000000 in
/-- THE CONTRACT of a constructor -/
theorem nb_met (l : Launch) : ∀ (d : Nat) (y : MethodName) (a : Nat) (h h1 : List sm_C) (mc ms : Nat), NB d y a h h1 mc ms → sm_MetN l d y a h h1 mc ms
  | 0, _, _, _, _, _, _, hB => hB.elim
  | d + 1, y, a, h, h1, mc, ms, hB => by
    obtain ⟨q, hq, rfl, hw⟩ := hB
    obtain ⟨o1, o2, o3, o4, o5, o6, o7, o8⟩ := sm_TN_ok q hq
    refine ⟨q, hq, rfl, fun G cI cQ ad sz => ?_⟩
    refine Met.ofW (cc := q.2.1) (maxL := q.2.2) (ret := none) o4 rfl ?_
    intro p e s m args below meth c s₁ B hml hv
    obtain ⟨⟨rfl, hsz, hP, hK, hD0, hN⟩, hO⟩ := hv
    have hx := B.exec
    have hb := B.bytes
    have hr := B.returns
    have hts0 := atoms_spec (ws := Cond.code q.1 q.2.1 q.2.2 none :: sm_gw) B.pre
    have hts := sm_all (fun w hw hg => hts0 w (List.mem_cons_of_mem _ (List.mem_filter.mpr ⟨hw, hg⟩))) hN
    have hown : s.vm.findClass q.1.cls = some m.cls := findClass_of_methodNamed B.named
    have hin2 : meth.name = "<init>" := ((name_of_methodNamed B.named B.method).1).trans o8
    have hlocks := B.notSynchronized
    subst hsz
    have hD := hD0.self (sz := s.heap.size)
    have hA : ∀ q' : Nat, s.heap.size ≤ q' → va_A (sm_w cI cQ ad h) s.heap.size q' := fun q' h => Or.inr h
    have hen2 := sm_entry (ad := ad) (as := [.ref a]) (n := q.2.2) o6.1
    rw [lg_entry_eq]
    generalize hls : (lg_sl (([.ref a] : List Value).map (sm_c ad)) ++ List.replicate (q.2.2 - (lg_sl (([.ref a] : List Value).map (sm_c ad))).length) Slot.unset).toArray = ls at hen2 ⊢
    have hfr1 : 1 ≤ (headSpec (Cond.code q.1 q.2.1 q.2.2 none :: sm_gw) (sm_rmN (d + 1) mc ms)).room.frames := Nat.le_add_left 1 d
    have hlo1 : 38 ≤ (headSpec (Cond.code q.1 q.2.1 q.2.2 none :: sm_gw) (sm_rmN (d + 1) mc ms)).room.locals := by show 38 ≤ 38 * (d + 1); omega
    have hlo2 : 38 * d + 38 ≤ (headSpec (Cond.code q.1 q.2.1 q.2.2 none :: sm_gw) (sm_rmN (d + 1) mc ms)).room.locals := by show 38 * d + 38 ≤ 38 * (d + 1); omega
    have hfr2 : d + 1 ≤ (headSpec (Cond.code q.1 q.2.1 q.2.2 none :: sm_gw) (sm_rmN (d + 1) mc ms)).room.frames := Nat.le_refl _
    have hcc1 : mc ≤ (headSpec (Cond.code q.1 q.2.1 q.2.2 none :: sm_gw) (sm_rmN (d + 1) mc ms)).room.cells := Nat.le_refl _
    have hss1 : ms ≤ (headSpec (Cond.code q.1 q.2.1 q.2.2 none :: sm_gw) (sm_rmN (d + 1) mc ms)).room.slots := Nat.le_refl _
    have KK := hw (sm_AN p l e (headSpec (Cond.code q.1 q.2.1 q.2.2 none :: sm_gw) (sm_rmN (d + 1) mc ms)).room s m (([.ref a] : List Value).map (sm_c ad)).toArray below meth c G cI cQ ad q.2.2 (va_A (sm_w cI cQ ad h) s.heap.size) s.heap h.length mc ms (MQ below (sm_QcN G cI cQ ad h h1 s.heap.size) (([.ref a] : List Value).map (sm_c ad)).toArray s mc ms (va_A (sm_w cI cQ ad h) s.heap.size)) (va_A (sm_w cI cQ ad h) s.heap.size))
      (fun cc ss => sm_R_all (fun i => so_R hx hb hml hown hts hK hfr1 hlo1 i.2.1 i.2.2.1))
      ⟨sn_obj hx hb hml hown hts hfr1 hlo1, sn_new hx hb hown hts hK hA hcc1 hss1, sn_arr hx hb hts hK hA hcc1 hss1, sn_arq hx hb hown hts hO hK hA hcc1 hss1, sn_putF hx hb hown hts hin2 hK, sn_ast hx hb hK, sn_ini (fun hS => nb_met l d _ _ _ _ _ _ hS) hx hb hml hown hts hK hN hO hA hfr2 hlo2 hcc1 hss1⟩ ?_
    · exact KK ⟨ad, Nat.zero_le _, Nat.zero_le _, fun _ _ => rfl⟩ s.heap [] ls hP hD va_S.rf hen2.1 hen2.2
    · intro pc L hd i H locs ls hP hD hS0 hl hn2
      exact W.vret hx hb hr (fun t ht hW => ⟨⟨rfl, i.1, i.2.2.2, by rw [ht]; exact hP, va_K.moved hW.alike hK, hD⟩, hS0.F ht⟩) hS0.2.2 hd
