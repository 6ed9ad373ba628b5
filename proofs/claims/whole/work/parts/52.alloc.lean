/-! NEW CELLS: what a constructor does, said without the machine -/
/-- a reference lies below n -/
def rb (n : Nat) : Value → Prop
  | .ref k => k < n
  | _ => True
def rbC (n : Nat) : sm_C → Prop
  | .inl (.inl _) => True
  | .inl (.inr q) => ∀ j k, q.2 j = some k → k < n
  | .inr q => ∀ v ∈ q.2, rb n v
def rbA (h : List sm_C) (L : List (Option Value)) (st : List Value) : Prop := (∀ x ∈ h, rbC h.length x) ∧ (∀ v, some v ∈ L → rb h.length v) ∧ ∀ v ∈ st, rb h.length v
theorem sm_c_ad {ad ad' : Nat → Nat} {n : Nat} (he : ∀ k, k < n → ad' k = ad k) {v : Value} (h : rb n v) : sm_c ad' v = sm_c ad v := by
  cases v <;> first | rfl | exact congrArg Value.ref (he _ h)
theorem sm_e_ad {cI cQ : ClassId} {ad ad' : Nat → Nat} {n : Nat} (he : ∀ k, k < n → ad' k = ad k) {x : sm_C} (h : rbC n x) : sm_e cI cQ ad' x = sm_e cI cQ ad x := by
  match x, h with
  | .inl (.inl _), _ => rfl
  | .inl (.inr (m, f)), h =>
    have : (fun j => (f j).map ad') = fun j => (f j).map ad := by
      funext j
      cases hj : f j with
      | none => rfl
      | some k => exact congrArg some (he k (h j k hj))
    simp only [sm_e, this]
  | .inr (ci, fs), h =>
    have : fs.map (sm_c ad') = fs.map (sm_c ad) := List.map_congr_left (fun v hv => sm_c_ad he (h v hv))
    simp only [sm_e, this]
theorem sm_w_ad {cI cQ : ClassId} {ad ad' : Nat → Nat} {h : List sm_C} (he : ∀ k, k < h.length → ad' k = ad k) (hr : ∀ x ∈ h, rbC h.length x) : sm_w cI cQ ad' h = sm_w cI cQ ad h := by
  apply List.ext_getElem?
  intro k
  rw [sm_wk, sm_wk]
  cases hk : h[k]? with
  | none => rfl
  | some x =>
    obtain ⟨hl, hx⟩ := List.getElem?_eq_some_iff.mp hk
    show some (ad' k, sm_e cI cQ ad' x) = some (ad k, sm_e cI cQ ad x)
    rw [he k hl, sm_e_ad he (hr x (List.mem_of_getElem? hk))]
theorem sm_w_app {cI cQ : ClassId} {ad : Nat → Nat} {h : List sm_C} {x : sm_C} : sm_w cI cQ ad (h ++ [x]) = sm_w cI cQ ad h ++ [(ad h.length, sm_e cI cQ ad x)] := by
  unfold sm_w
  rw [List.mapIdx_append]
  simp
theorem sm_lm_ad {ad ad' : Nat → Nat} {n : Nat} {L : List (Option Value)} (he : ∀ k, k < n → ad' k = ad k) (hr : ∀ v, some v ∈ L → rb n v) : sm_lm ad' L = sm_lm ad L := by
  have : L.map (Option.map (sm_c ad')) = L.map (Option.map (sm_c ad)) := List.map_congr_left (fun o ho => by
    cases o with
    | none => rfl
    | some v => exact congrArg some (sm_c_ad he (hr v ho)))
  show sm_as _ = sm_as _
  rw [this]
theorem sm_st_ad {ad ad' : Nat → Nat} {n : Nat} {st : List Value} (he : ∀ k, k < n → ad' k = ad k) (hr : ∀ v ∈ st, rb n v) : st.map (sm_c ad') = st.map (sm_c ad) := List.map_congr_left (fun v hv => sm_c_ad he (hr v hv))
abbrev sm_KN : Type := Nat → Nat → sm_K
/-- what a constructor's call does: its name, the place of the object, the heap; the heap behind it, how many cells and slots come -/
abbrev sm_SN : Type := MethodName → Nat → List sm_C → List sm_C → Nat → Nat → Prop
def nu_obj (own : String) (b : ByteArray) (KN : sm_KN) : Prop := ∀ {c s pc : Nat} {L : List (Option Value)} {st : List Value} {h : List sm_C} {i a : Nat} (hd : decode b pc = .ok (.invokespecial i, 3)) (hk : Cond.methodLink own i objectInit ∈ lw_tbl) (hst : (st.map fun v => v.category).sum ≤ 8) (k : KN c s (pc + 3) L st h), KN c s pc L (.ref a :: st) h
def nu_new (own : String) (b : ByteArray) (KN : sm_KN) (n0 mc ms : Nat) : Prop := ∀ {c s pc : Nat} {L : List (Option Value)} {st : List Value} {h : List sm_C} {i ci N : Nat} {C : String} {T : u_T} {fs : List Value} (ty : Nat → FieldType) (hd : decode b pc = .ok (.new i, 3)) (hl : Cond.classLink own i C ∈ lw_tbl) (hi : Cond.instantiable C N ∈ lw_tbl) (hz : Cond.initialized C ∈ lw_tbl) (hc : vwCl[ci]? = some (C, T, N)) (hty : ∀ k, k < N → parseFieldDescriptor (T k).2.2.1 = some (ty k)) (hfs : ∀ j, j < N → defaultValue (ty j) = vp_V fs j) (hnr : ∀ ad : Nat → Nat, fs.map (sm_c ad) = fs) (hr : rbA h L st) (h0 : n0 ≤ h.length) (h1 : c + 1 ≤ mc) (h2 : s + N ≤ ms)
  (k : KN (c + 1) (s + N) (pc + 3) L (.ref h.length :: st) (h ++ [hO ci fs])), KN c s pc L st h
def nu_arr (b : ByteArray) (KN : sm_KN) (n0 mc ms : Nat) : Prop := ∀ {c s pc : Nat} {L : List (Option Value)} {st : List Value} {h : List sm_C} {N : Nat} {x : Int32} (hd : decode b pc = .ok (.newarray .int, 2)) (hx : x = nI N) (hN : N ≤ 100000) (hr : rbA h L st) (h0 : n0 ≤ h.length) (h1 : c + 1 ≤ mc) (h2 : s + N ≤ ms)
  (k : KN (c + 1) (s + N) (pc + 2) L (.ref h.length :: st) (h ++ [hI N (fun _ => 0)])), KN c s pc L (.int x :: st) h
def nu_arq (own : String) (b : ByteArray) (KN : sm_KN) (n0 mc ms : Nat) : Prop := ∀ {c s pc : Nat} {L : List (Option Value)} {st : List Value} {h : List sm_C} {i N : Nat} {x : Int32} (hd : decode b pc = .ok (.anewarray i, 3)) (hl : Cond.classLink own i "NineLies$Sheet" ∈ lw_tbl) (hx : x = nI N) (hN : N ≤ 100000) (hr : rbA h L st) (h0 : n0 ≤ h.length) (h1 : c + 1 ≤ mc) (h2 : s + N ≤ ms)
  (k : KN (c + 1) (s + N) (pc + 3) L (.ref h.length :: st) (h ++ [hQ N (fun _ => none)])), KN c s pc L (.int x :: st) h
/-- own's entry i names its final field j of class ci, of type ty -/
def sm_FF (own : String) (i ci j : Nat) (ty : FieldType) : Prop := ∃ (C : String) (T : u_T) (N : Nat), vwCl[ci]? = some (C, T, N) ∧ j < N ∧ (T j).1 = own ∧ (T j).2.2.2 = true ∧ parseFieldDescriptor (T j).2.2.1 = some ty ∧ Cond.fieldLink own i own (T j).2.1 (T j).2.2.1 ∈ lw_tbl
def nu_putF (own : String) (b : ByteArray) (KN : sm_KN) : Prop := ∀ {c s pc : Nat} {L : List (Option Value)} {st : List Value} {h : List sm_C} {i a ci j v : Nat} {fs : List Value} {ty : FieldType} (hd : decode b pc = .ok (.putfield i, 3)) (hF : sm_FF own i ci j ty) (hn : ∀ q, narrow ty (.ref q) = .ref q ∧ fits ty (.ref q) = true) (hh : h[a]? = some (hO ci fs)) (hj : j < fs.length) (k : KN c s (pc + 3) L st (h.set a (hO ci (fs.set j (.ref v))))), KN c s pc L (.ref v :: .ref a :: st) h
def nu_ast (b : ByteArray) (KN : sm_KN) : Prop := ∀ {c s pc : Nat} {L : List (Option Value)} {st : List Value} {h : List sm_C} {a j n v : Nat} {f g : Nat → Option Nat} {vs : List Value} {i : Int32} (hd : decode b pc = .ok (.aastore, 1)) (hh : h[a]? = some (hQ n f)) (hi : i = nI j) (hj : j < n) (hN : n < 2147483648) (hv : h[v]? = some (hO 2 vs)) (hg : ∀ z, z < n → g z = va_up f j (some v) z) (k : KN c s (pc + 1) L st (h.set a (hQ n g))), KN c s pc L (.ref v :: .int i :: .ref a :: st) h
def nu_ini (S : sm_SN) (own : String) (b : ByteArray) (KN : sm_KN) (n0 mc ms : Nat) : Prop := ∀ {c s pc : Nat} {L : List (Option Value)} {st : List Value} {h h1 : List sm_C} {i a m2 s2 : Nat} {y : MethodName} (hd : decode b pc = .ok (.invokespecial i, 3)) (hk : sm_L own i y) (hst : (st.map fun v => v.category).sum ≤ 8) (hS : S y a h h1 m2 s2) (hr : rbA h L st) (h0 : n0 ≤ h.length) (hc : c + m2 ≤ mc) (h2 : s + s2 ≤ ms) (k : KN (c + m2) (s + s2) (pc + 3) L st h1), KN c s pc L (.ref a :: st) h
def sm_RN (S : sm_SN) (own : String) (b : ByteArray) (KN : sm_KN) (n0 mc ms : Nat) : Prop := nu_obj own b KN ∧ nu_new own b KN n0 mc ms ∧ nu_arr b KN n0 mc ms ∧ nu_arq own b KN n0 mc ms ∧ nu_putF own b KN ∧ nu_ast b KN ∧ nu_ini S own b KN n0 mc ms
/-- the constructors: name, bytes, locals -/
def sm_TN : List (MethodName × ByteArray × Nat) := [(yX0_init, cX0_init, 1), (yX1_init, cX1_init, 1), (yX2_init, cX2_init, 1), (yX3_init, cX3_init, 1), (yX4_init, cX4_init, 1), (yX5_init, cX5_init, 1), (yX6_init, cX6_init, 1), (yX7_init, cX7_init, 2), (yX8_init, cX8_init, 2)]
def sm_okN (q : MethodName × ByteArray × Nat) : Prop := Cond.code q.1 q.2.1 q.2.2 none ∈ lw_tbl ∧ Cond.initialized q.1.cls ∈ lw_tbl ∧ Cond.instanceMethod q.1 ∈ lw_tbl ∧ plainName q.1.cls = true ∧ (q.1.cls ≠ "java/lang/invoke/MethodHandle" ∧ q.1.cls ≠ "java/lang/invoke/VarHandle") ∧ (1 ≤ q.2.2 ∧ q.2.2 ≤ 19) ∧ (parseMethodDescriptor q.1.desc).map (fun d => d.parameters.length) = some 0 ∧ q.1.name = "<init>"
theorem ph_i : (parseMethodDescriptor "()V").map (fun d => d.parameters.length) = some 0 := by decide +kernel
theorem sm_TN_ok : ∀ q ∈ sm_TN, sm_okN q := by
  refine List.forall_mem_cons.mpr ⟨⟨ciX0, iiX0, niX0, pnX0, phX0, ⟨by decide, by decide⟩, ph_i, rfl⟩, ?_⟩
  refine List.forall_mem_cons.mpr ⟨⟨ciX1, iiX1, niX1, pnX1, phX1, ⟨by decide, by decide⟩, ph_i, rfl⟩, ?_⟩
  refine List.forall_mem_cons.mpr ⟨⟨ciX2, iiX2, niX2, pnX2, phX2, ⟨by decide, by decide⟩, ph_i, rfl⟩, ?_⟩
  refine List.forall_mem_cons.mpr ⟨⟨ciX3, iiX3, niX3, pnX3, phX3, ⟨by decide, by decide⟩, ph_i, rfl⟩, ?_⟩
  refine List.forall_mem_cons.mpr ⟨⟨ciX4, iiX4, niX4, pnX4, phX4, ⟨by decide, by decide⟩, ph_i, rfl⟩, ?_⟩
  refine List.forall_mem_cons.mpr ⟨⟨ciX5, iiX5, niX5, pnX5, phX5, ⟨by decide, by decide⟩, ph_i, rfl⟩, ?_⟩
  refine List.forall_mem_cons.mpr ⟨⟨ciX6, iiX6, niX6, pnX6, phX6, ⟨by decide, by decide⟩, ph_i, rfl⟩, ?_⟩
  refine List.forall_mem_cons.mpr ⟨⟨ciX7, iiX7, niX7, pnX7, phX7, ⟨by decide, by decide⟩, ph_i, rfl⟩, ?_⟩
  refine List.forall_mem_cons.mpr ⟨⟨ciX8, iiX8, niX8, pnX8, phX8, ⟨by decide, by decide⟩, ph_i, rfl⟩, ?_⟩
  exact fun _ h => absurd h List.not_mem_nil
def NB : Nat → sm_SN
  | 0 => fun _ _ _ _ _ _ => False
  | d + 1 => fun y a h h1 mc ms => ∃ q ∈ sm_TN, q.1 = y ∧ ∀ KN : sm_KN, (∀ c s, sm_R y.cls q.2.1 (KN c s)) → sm_RN (NB d) y.cls q.2.1 KN h.length mc ms → (∀ {pc : Nat} {L : List (Option Value)}, decode q.2.1 pc = .ok (.return_, 1) → KN mc ms pc L [] h1) → KN 0 0 0 (sm_en0 [.ref a] q.2.2) [] h
