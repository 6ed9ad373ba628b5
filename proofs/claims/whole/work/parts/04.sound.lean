/-! THE MACHINE DOES WHAT THE RULES SAY -/
def sm_nest : Cond → Bool
  | .fieldLinkNest _ _ _ _ _ _ => true
  | .methodLinkNest _ _ _ _ => true
  | _ => false
/-- the words that last inside calls -/
def sm_f : List Cond := lw_tbl.filter (fun w => goodWord w || sm_nest w)
theorem sm_ff {w : Cond} (h : w ∈ lw_tbl) (hg : (goodWord w || sm_nest w) = true) : w ∈ sm_f := List.mem_filter.mpr ⟨h, hg⟩
/-- a value of the picture in the heap: references by their addresses -/
def sm_c (ad : Nat → Nat) : Value → Value
  | .ref k => .ref (ad k)
  | v => v
def sm_e (cI cQ : ClassId) (ad : Nat → Nat) : sm_C → va_E
  | .inl (.inl (n, f)) => .inl (cI, n, .inl f)
  | .inl (.inr (n, f)) => .inl (cQ, n, .inr (.inr (.inr (.inr (fun j => (f j).map ad)))))
  | .inr (ci, fs) => .inr (ci, fs.map (sm_c ad))
/-- the picture's world -/
def sm_w (cI cQ : ClassId) (ad : Nat → Nat) (h : List sm_C) : va_W := h.mapIdx (fun k x => (ad k, sm_e cI cQ ad x))
def sm_as (L : List (Option Value)) : List (Nat × Value) := L.zipIdx.filterMap (fun q => q.1.map (fun v => (q.2, v)))
theorem sm_as_mem {L : List (Option Value)} {i : Nat} {v : Value} : (i, v) ∈ sm_as L ↔ L[i]? = some (some v) := by
  unfold sm_as
  rw [List.mem_filterMap]
  constructor
  · rintro ⟨⟨o, j⟩, h1, h2⟩
    rw [List.mem_zipIdx_iff_getElem?] at h1
    cases o with
    | none => simp at h2
    | some w =>
      simp only [Option.map_some, Option.some.injEq, Prod.mk.injEq] at h2
      obtain ⟨rfl, rfl⟩ := h2
      exact h1
  · intro h
    exact ⟨(some v, i), List.mem_zipIdx_iff_getElem?.mpr h, rfl⟩
abbrev sm_lm (ad : Nat → Nat) (L : List (Option Value)) : List (Nat × Value) := sm_as (L.map (Option.map (sm_c ad)))
theorem sm_mem {ad : Nat → Nat} {L : List (Option Value)} {i : Nat} {v : Value} (h : L[i]? = some (some v)) : (i, sm_c ad v) ∈ sm_lm ad L := by
  rw [sm_as_mem, List.getElem?_map, h]; rfl
theorem sm_at {ad : Nat → Nat} {ls : Array Slot} {nL : Nat} {L : List (Option Value)} (h : lv_has ls nL (sm_lm ad L)) {i : Nat} {v : Value} (hk : L[i]? = some (some v)) : ls[i]? = some (.val (sm_c ad v)) := h.2.2 (i, sm_c ad v) (sm_mem hk)
theorem sm_in {ad : Nat → Nat} {L : List (Option Value)} {i : Nat} {x : Int32} (hk : L[i]? = some (some (.int x))) : ∃ j : Nat, (sm_lm ad L)[j]? = some (i, .int x) := by
  obtain ⟨j, hj⟩ := List.getElem?_of_mem (sm_mem (ad := ad) hk)
  exact ⟨j, hj⟩
theorem sm_cat {ad : Nat → Nat} {v : Value} {n : Nat} (h : v.category = n) : (sm_c ad v).category = n := by cases v <;> exact h
theorem sm_cat2 {ad : Nat → Nat} {v : Value} : (sm_c ad v).category = v.category := by cases v <;> rfl
theorem sm_sum {ad : Nat → Nat} {st : List Value} {n : Nat} (h : (st.map fun v => v.category).sum ≤ n) : ((st.map (sm_c ad)).map fun v => v.category).sum ≤ n := by
  rw [List.map_map]
  have : ((fun v : Value => v.category) ∘ sm_c ad) = fun v => v.category := funext fun v => sm_cat2
  rw [this]; exact h
/-- a store into the picture's locals -/
theorem sm_put {ad : Nat → Nat} {ls : Array Slot} {nL : Nat} {L : List (Option Value)} {i : Nat} {w : Value} (h : lv_has ls nL ((i, sm_c ad w) :: (sm_lm ad L).filter (fun q => !(q.1 == i) && !(q.1 + 1 == i && q.2.category == 2)))) (ho : sm_ok L i = true) : lv_has ls nL (sm_lm ad (L.set i (some w))) := by
  refine ⟨h.1, h.2.1, ?_⟩
  rintro ⟨j, v⟩ hj
  rw [sm_as_mem, List.getElem?_map] at hj
  by_cases hij : i = j
  · subst hij
    have hlt : i < L.length := by
      rcases Nat.lt_or_ge i L.length with q | q
      · exact q
      · rw [List.getElem?_eq_none (by rw [List.length_set]; exact q)] at hj
        cases hj
    rw [List.getElem?_set_self hlt] at hj
    simp only [Option.map_some, Option.some.injEq] at hj
    exact h.2.2 (i, v) (by rw [← hj]; exact List.mem_cons_self)
  · rw [List.getElem?_set_ne hij] at hj
    refine h.2.2 (j, v) (List.mem_cons_of_mem _ (List.mem_filter.mpr ⟨?_, ?_⟩))
    · rw [sm_as_mem, List.getElem?_map]; exact hj
    · have h1 : (j == i) = false := by simpa using fun e => hij e.symm
      simp only [h1, Bool.not_false, Bool.true_and, Bool.not_eq_true', Bool.and_eq_false_iff, beq_eq_false_iff_ne, ne_eq]
      by_cases hj1 : j + 1 = i
      · right
        subst hj1
        cases hLj : L[j]? with
        | none => rw [hLj] at hj; cases hj
        | some o =>
          cases o with
          | none => rw [hLj] at hj; simp at hj
          | some u =>
            rw [hLj] at hj
            simp only [Option.map_some, Option.some.injEq] at hj
            subst hj
            simp only [sm_ok, hLj] at ho
            rw [sm_cat2]
            cases u <;> simp_all [Value.category]
      · exact Or.inl hj1
theorem sm_wk {cI cQ : ClassId} {ad : Nat → Nat} {h : List sm_C} {k : Nat} : (sm_w cI cQ ad h)[k]? = (h[k]?).map (fun x => (ad k, sm_e cI cQ ad x)) := by
  unfold sm_w
  rw [List.getElem?_mapIdx]
theorem sm_wo {cI cQ : ClassId} {ad : Nat → Nat} {h : List sm_C} {a ci : Nat} {fs : List Value} (hh : h[a]? = some (hO ci fs)) : (sm_w cI cQ ad h)[a]? = some (ad a, .inr (ci, fs.map (sm_c ad))) := by rw [sm_wk, hh]; rfl
theorem sm_wi {cI cQ : ClassId} {ad : Nat → Nat} {h : List sm_C} {a n : Nat} {f : Nat → Int32} (hh : h[a]? = some (hI n f)) : (sm_w cI cQ ad h)[a]? = some (ad a, .inl (cI, n, .inl f)) := by rw [sm_wk, hh]; rfl
theorem sm_wq {cI cQ : ClassId} {ad : Nat → Nat} {h : List sm_C} {a n : Nat} {f : Nat → Option Nat} (hh : h[a]? = some (hQ n f)) : (sm_w cI cQ ad h)[a]? = some (ad a, .inl (cQ, n, .inr (.inr (.inr (.inr (fun j => (f j).map ad)))))) := by rw [sm_wk, hh]; rfl
theorem sm_ws {cI cQ : ClassId} {ad : Nat → Nat} {h : List sm_C} {a : Nat} {x y : sm_C} (hh : h[a]? = some x) : sm_w cI cQ ad (h.set a y) = (sm_w cI cQ ad h).set a (ad a, sm_e cI cQ ad y) := by
  have hl := (List.getElem?_eq_some_iff.mp hh).1
  apply List.ext_getElem?
  intro k
  by_cases hk : a = k
  · subst hk
    rw [sm_wk, List.getElem?_set_self hl, List.getElem?_set_self (by unfold sm_w; rw [List.length_mapIdx]; exact hl)]; rfl
  · rw [sm_wk, List.getElem?_set_ne hk, List.getElem?_set_ne hk, sm_wk]
theorem sm_ws_o {cI cQ : ClassId} {ad : Nat → Nat} {h : List sm_C} {a ci : Nat} {x : sm_C} {fs : List Value} (hh : h[a]? = some x) : sm_w cI cQ ad (h.set a (hO ci fs)) = (sm_w cI cQ ad h).set a (ad a, .inr (ci, fs.map (sm_c ad))) := sm_ws hh
theorem sm_ws_i {cI cQ : ClassId} {ad : Nat → Nat} {h : List sm_C} {a n : Nat} {x : sm_C} {f : Nat → Int32} (hh : h[a]? = some x) : sm_w cI cQ ad (h.set a (hI n f)) = (sm_w cI cQ ad h).set a (ad a, .inl (cI, n, .inl f)) := sm_ws hh
theorem sm_cl_all : ∀ (ci : Nat) (q : vw_C), vwCl[ci]? = some q → (∀ w ∈ u_ws q.1 q.2.1 q.2.2, w ∈ lw_tbl) ∧ ∃ ty : Nat → FieldType, (∀ k, k < q.2.2 → parseFieldDescriptor (q.2.1 k).2.2.1 = some (ty k)) ∧ (∀ a, a < q.2.2 → ∀ b, b < q.2.2 → a ≠ b → (q.2.1 a).2.1 ≠ (q.2.1 b).2.1)
  | 0, _, h => by cases h; exact ⟨inX0, tyX0, tyX0_ok, nmX0⟩
  | 1, _, h => by cases h; exact ⟨inX1, tyX1, tyX1_ok, nmX1⟩
  | 2, _, h => by cases h; exact ⟨inX2, tyX2, tyX2_ok, nmX2⟩
  | 3, _, h => by cases h; exact ⟨inX3, tyX3, tyX3_ok, nmX3⟩
  | 4, _, h => by cases h; exact ⟨inX4, tyX4, tyX4_ok, nmX4⟩
  | 5, _, h => by cases h; exact ⟨inX5, tyX5, tyX5_ok, nmX5⟩
  | 6, _, h => by cases h; exact ⟨inX6, tyX6, tyX6_ok, nmX6⟩
  | 7, _, h => by cases h; exact ⟨inX7, tyX7, tyX7_ok, nmX7⟩
  | 8, _, h => by cases h; exact ⟨inX8, tyX8, tyX8_ok, nmX8⟩
  | n + 9, _, h => by simp [vwCl] at h
theorem sm_in_cl {ci : Nat} {C : String} {T : u_T} {N : Nat} (h : vwCl[ci]? = some (C, T, N)) : ∀ w ∈ u_ws C T N, w ∈ sm_f := fun w hw => sm_ff ((sm_cl_all ci _ h).1 w hw) (by
  obtain ⟨k, -, rfl⟩ := List.mem_map.mp hw
  unfold u_lay
  split <;> rfl)
theorem sm_ty_cl {ci : Nat} {C : String} {T : u_T} {N : Nat} (h : vwCl[ci]? = some (C, T, N)) : ∃ ty : Nat → FieldType, (∀ k, k < N → parseFieldDescriptor (T k).2.2.1 = some (ty k)) ∧ (∀ a, a < N → ∀ b, b < N → a ≠ b → (T a).2.1 ≠ (T b).2.1) := (sm_cl_all ci _ h).2
/-- the rules' predicate: from any heap that holds the picture, the machine comes to Q -/
def sm_AW (p : Program) (l : Launch) (e : Env) (R : Room) (s : State) (m : MethodId) (args : Array Value) (below : List Frame) (meth : Method) (c : Code) (G : va_G) (cI cQ : ClassId) (ad : Nat → Nat) (nL : Nat) (A : Nat → Prop) (H0 : Heap) (cells slots : Nat) (Q : State → Prop) (free : Nat → Prop) : sm_K := fun pc L st h =>
  ∀ (H : Heap) (locs : List Loc) (ls : Array Slot), va_P G vwCl (sm_w cI cQ ad h) H → va_D A (sm_w cI cQ ad h) → va_S A H0 H locs → lv_has ls nL (sm_lm ad L) → L.length = nL → W p l e R s m args below meth c H locs cells slots Q (F0 m pc ls (st.map (sm_c ad)))
section SO
variable {p : Program} {l : Launch} {e : Env} {R : Room} {s : State} {m : MethodId} {args : Array Value} {below : List Frame} {meth : Method} {c : Code} {G : va_G} {cI cQ : ClassId} {ad : Nat → Nat} {nL : Nat} {A : Nat → Prop} {H0 : Heap} {cells slots : Nat} {Q : State → Prop} {free : Nat → Prop} {b : ByteArray} {own : String}
theorem so_iconst (hx : p.tables.exec = Jvm.exec) (hb : c.code = b) (hml : c.maxLocals = nL) (hown : s.vm.findClass own = some m.cls) (hts : ∀ w ∈ sm_f, w.before args s = true) (hK : va_K G vwCl [(cI, .int), (cQ, .object "NineLies$Sheet")] s) (hfr : 1 ≤ R.frames) (hlo : 38 ≤ R.locals) (hcc : cells ≤ R.cells) (hss : slots ≤ R.slots) : ru_iconst own b (sm_AW p l e R s m args below meth c G cI cQ ad nL A H0 cells slots Q free) := by
  intro pc L st h n v hd hv k H locs ls hP hD hS hl hn
  exact lv_iconst hx hb hd hv (k H locs ls hP hD hS hl hn)
theorem so_bipush (hx : p.tables.exec = Jvm.exec) (hb : c.code = b) (hml : c.maxLocals = nL) (hown : s.vm.findClass own = some m.cls) (hts : ∀ w ∈ sm_f, w.before args s = true) (hK : va_K G vwCl [(cI, .int), (cQ, .object "NineLies$Sheet")] s) (hfr : 1 ≤ R.frames) (hlo : 38 ≤ R.locals) (hcc : cells ≤ R.cells) (hss : slots ≤ R.slots) : ru_bipush own b (sm_AW p l e R s m args below meth c G cI cQ ad nL A H0 cells slots Q free) := by
  intro pc L st h n v hd hv k H locs ls hP hD hS hl hn
  exact lv_bipush hx hb hd hv (k H locs ls hP hD hS hl hn)
theorem so_sipush (hx : p.tables.exec = Jvm.exec) (hb : c.code = b) (hml : c.maxLocals = nL) (hown : s.vm.findClass own = some m.cls) (hts : ∀ w ∈ sm_f, w.before args s = true) (hK : va_K G vwCl [(cI, .int), (cQ, .object "NineLies$Sheet")] s) (hfr : 1 ≤ R.frames) (hlo : 38 ≤ R.locals) (hcc : cells ≤ R.cells) (hss : slots ≤ R.slots) : ru_sipush own b (sm_AW p l e R s m args below meth c G cI cQ ad nL A H0 cells slots Q free) := by
  intro pc L st h n v hd hv k H locs ls hP hD hS hl hn
  exact lv_sipush hx hb hd hv (k H locs ls hP hD hS hl hn)
theorem so_lconst (hx : p.tables.exec = Jvm.exec) (hb : c.code = b) (hml : c.maxLocals = nL) (hown : s.vm.findClass own = some m.cls) (hts : ∀ w ∈ sm_f, w.before args s = true) (hK : va_K G vwCl [(cI, .int), (cQ, .object "NineLies$Sheet")] s) (hfr : 1 ≤ R.frames) (hlo : 38 ≤ R.locals) (hcc : cells ≤ R.cells) (hss : slots ≤ R.slots) : ru_lconst own b (sm_AW p l e R s m args below meth c G cI cQ ad nL A H0 cells slots Q free) := by
  intro pc L st h n v hd hv k H locs ls hP hD hS hl hn
  exact lv_lconst hx hb hd hv (k H locs ls hP hD hS hl hn)
theorem so_null (hx : p.tables.exec = Jvm.exec) (hb : c.code = b) (hml : c.maxLocals = nL) (hown : s.vm.findClass own = some m.cls) (hts : ∀ w ∈ sm_f, w.before args s = true) (hK : va_K G vwCl [(cI, .int), (cQ, .object "NineLies$Sheet")] s) (hfr : 1 ≤ R.frames) (hlo : 38 ≤ R.locals) (hcc : cells ≤ R.cells) (hss : slots ≤ R.slots) : ru_null own b (sm_AW p l e R s m args below meth c G cI cQ ad nL A H0 cells slots Q free) := by
  intro pc L st h  hd k H locs ls hP hD hS hl hn
  exact lv_null hx hb hd (k H locs ls hP hD hS hl hn)
theorem so_ldc (hx : p.tables.exec = Jvm.exec) (hb : c.code = b) (hml : c.maxLocals = nL) (hown : s.vm.findClass own = some m.cls) (hts : ∀ w ∈ sm_f, w.before args s = true) (hK : va_K G vwCl [(cI, .int), (cQ, .object "NineLies$Sheet")] s) (hfr : 1 ≤ R.frames) (hlo : 38 ≤ R.locals) (hcc : cells ≤ R.cells) (hss : slots ≤ R.slots) : ru_ldc own b (sm_AW p l e R s m args below meth c G cI cQ ad nL A H0 cells slots Q free) := by
  intro pc L st h i v hd hc k H locs ls hP hD hS hl hn
  exact lv_ldc hx hb hown (hts _ (sm_ff hc rfl)) hd (k H locs ls hP hD hS hl hn)
theorem so_ldcw (hx : p.tables.exec = Jvm.exec) (hb : c.code = b) (hml : c.maxLocals = nL) (hown : s.vm.findClass own = some m.cls) (hts : ∀ w ∈ sm_f, w.before args s = true) (hK : va_K G vwCl [(cI, .int), (cQ, .object "NineLies$Sheet")] s) (hfr : 1 ≤ R.frames) (hlo : 38 ≤ R.locals) (hcc : cells ≤ R.cells) (hss : slots ≤ R.slots) : ru_ldcw own b (sm_AW p l e R s m args below meth c G cI cQ ad nL A H0 cells slots Q free) := by
  intro pc L st h i v hd hc k H locs ls hP hD hS hl hn
  exact lv_ldcw hx hb hown (hts _ (sm_ff hc rfl)) hd (k H locs ls hP hD hS hl hn)
theorem so_ldc2 (hx : p.tables.exec = Jvm.exec) (hb : c.code = b) (hml : c.maxLocals = nL) (hown : s.vm.findClass own = some m.cls) (hts : ∀ w ∈ sm_f, w.before args s = true) (hK : va_K G vwCl [(cI, .int), (cQ, .object "NineLies$Sheet")] s) (hfr : 1 ≤ R.frames) (hlo : 38 ≤ R.locals) (hcc : cells ≤ R.cells) (hss : slots ≤ R.slots) : ru_ldc2 own b (sm_AW p l e R s m args below meth c G cI cQ ad nL A H0 cells slots Q free) := by
  intro pc L st h i v hd hc k H locs ls hP hD hS hl hn
  exact lv_ldc2 hx hb hown (hts _ (sm_ff hc rfl)) hd (k H locs ls hP hD hS hl hn)
theorem so_iload (hx : p.tables.exec = Jvm.exec) (hb : c.code = b) (hml : c.maxLocals = nL) (hown : s.vm.findClass own = some m.cls) (hts : ∀ w ∈ sm_f, w.before args s = true) (hK : va_K G vwCl [(cI, .int), (cQ, .object "NineLies$Sheet")] s) (hfr : 1 ≤ R.frames) (hlo : 38 ≤ R.locals) (hcc : cells ≤ R.cells) (hss : slots ≤ R.slots) : ru_iload own b (sm_AW p l e R s m args below meth c G cI cQ ad nL A H0 cells slots Q free) := by
  intro pc L st h i x hd hL k H locs ls hP hD hS hl hn
  exact lv_iload hx hb hd (sm_at hl hL) (k H locs ls hP hD hS hl hn)
theorem so_iload_n (hx : p.tables.exec = Jvm.exec) (hb : c.code = b) (hml : c.maxLocals = nL) (hown : s.vm.findClass own = some m.cls) (hts : ∀ w ∈ sm_f, w.before args s = true) (hK : va_K G vwCl [(cI, .int), (cQ, .object "NineLies$Sheet")] s) (hfr : 1 ≤ R.frames) (hlo : 38 ≤ R.locals) (hcc : cells ≤ R.cells) (hss : slots ≤ R.slots) : ru_iload_n own b (sm_AW p l e R s m args below meth c G cI cQ ad nL A H0 cells slots Q free) := by
  intro pc L st h i x hd hL k H locs ls hP hD hS hl hn
  exact lv_iload_n hx hb hd rfl (sm_at hl hL) (k H locs ls hP hD hS hl hn)
theorem so_lload (hx : p.tables.exec = Jvm.exec) (hb : c.code = b) (hml : c.maxLocals = nL) (hown : s.vm.findClass own = some m.cls) (hts : ∀ w ∈ sm_f, w.before args s = true) (hK : va_K G vwCl [(cI, .int), (cQ, .object "NineLies$Sheet")] s) (hfr : 1 ≤ R.frames) (hlo : 38 ≤ R.locals) (hcc : cells ≤ R.cells) (hss : slots ≤ R.slots) : ru_lload own b (sm_AW p l e R s m args below meth c G cI cQ ad nL A H0 cells slots Q free) := by
  intro pc L st h i x hd hL k H locs ls hP hD hS hl hn
  exact lv_lload hx hb hd (sm_at hl hL) (k H locs ls hP hD hS hl hn)
theorem so_lload_n (hx : p.tables.exec = Jvm.exec) (hb : c.code = b) (hml : c.maxLocals = nL) (hown : s.vm.findClass own = some m.cls) (hts : ∀ w ∈ sm_f, w.before args s = true) (hK : va_K G vwCl [(cI, .int), (cQ, .object "NineLies$Sheet")] s) (hfr : 1 ≤ R.frames) (hlo : 38 ≤ R.locals) (hcc : cells ≤ R.cells) (hss : slots ≤ R.slots) : ru_lload_n own b (sm_AW p l e R s m args below meth c G cI cQ ad nL A H0 cells slots Q free) := by
  intro pc L st h i x hd hL k H locs ls hP hD hS hl hn
  exact lv_lload_n hx hb hd rfl (sm_at hl hL) (k H locs ls hP hD hS hl hn)
theorem so_aload (hx : p.tables.exec = Jvm.exec) (hb : c.code = b) (hml : c.maxLocals = nL) (hown : s.vm.findClass own = some m.cls) (hts : ∀ w ∈ sm_f, w.before args s = true) (hK : va_K G vwCl [(cI, .int), (cQ, .object "NineLies$Sheet")] s) (hfr : 1 ≤ R.frames) (hlo : 38 ≤ R.locals) (hcc : cells ≤ R.cells) (hss : slots ≤ R.slots) : ru_aload own b (sm_AW p l e R s m args below meth c G cI cQ ad nL A H0 cells slots Q free) := by
  intro pc L st h i x hd hL k H locs ls hP hD hS hl hn
  exact lv_aload hx hb hd (sm_at hl hL) (k H locs ls hP hD hS hl hn)
theorem so_aload_n (hx : p.tables.exec = Jvm.exec) (hb : c.code = b) (hml : c.maxLocals = nL) (hown : s.vm.findClass own = some m.cls) (hts : ∀ w ∈ sm_f, w.before args s = true) (hK : va_K G vwCl [(cI, .int), (cQ, .object "NineLies$Sheet")] s) (hfr : 1 ≤ R.frames) (hlo : 38 ≤ R.locals) (hcc : cells ≤ R.cells) (hss : slots ≤ R.slots) : ru_aload_n own b (sm_AW p l e R s m args below meth c G cI cQ ad nL A H0 cells slots Q free) := by
  intro pc L st h i x hd hL k H locs ls hP hD hS hl hn
  exact lv_aload_n hx hb hd rfl (sm_at hl hL) (k H locs ls hP hD hS hl hn)
theorem so_aloadN (hx : p.tables.exec = Jvm.exec) (hb : c.code = b) (hml : c.maxLocals = nL) (hown : s.vm.findClass own = some m.cls) (hts : ∀ w ∈ sm_f, w.before args s = true) (hK : va_K G vwCl [(cI, .int), (cQ, .object "NineLies$Sheet")] s) (hfr : 1 ≤ R.frames) (hlo : 38 ≤ R.locals) (hcc : cells ≤ R.cells) (hss : slots ≤ R.slots) : ru_aloadN own b (sm_AW p l e R s m args below meth c G cI cQ ad nL A H0 cells slots Q free) := by
  intro pc L st h i hd hL k H locs ls hP hD hS hl hn
  exact lv_aloadN hx hb hd (sm_at hl hL) (k H locs ls hP hD hS hl hn)
theorem so_aload_nN (hx : p.tables.exec = Jvm.exec) (hb : c.code = b) (hml : c.maxLocals = nL) (hown : s.vm.findClass own = some m.cls) (hts : ∀ w ∈ sm_f, w.before args s = true) (hK : va_K G vwCl [(cI, .int), (cQ, .object "NineLies$Sheet")] s) (hfr : 1 ≤ R.frames) (hlo : 38 ≤ R.locals) (hcc : cells ≤ R.cells) (hss : slots ≤ R.slots) : ru_aload_nN own b (sm_AW p l e R s m args below meth c G cI cQ ad nL A H0 cells slots Q free) := by
  intro pc L st h i hd hL k H locs ls hP hD hS hl hn
  exact lv_aload_nN hx hb hd rfl (sm_at hl hL) (k H locs ls hP hD hS hl hn)
theorem so_istore (hx : p.tables.exec = Jvm.exec) (hb : c.code = b) (hml : c.maxLocals = nL) (hown : s.vm.findClass own = some m.cls) (hts : ∀ w ∈ sm_f, w.before args s = true) (hK : va_K G vwCl [(cI, .int), (cQ, .object "NineLies$Sheet")] s) (hfr : 1 ≤ R.frames) (hlo : 38 ≤ R.locals) (hcc : cells ≤ R.cells) (hss : slots ≤ R.slots) : ru_istore own b (sm_AW p l e R s m args below meth c G cI cQ ad nL A H0 cells slots Q free) := by
  intro pc L st h i x hd hi ho k H locs ls hP hD hS hl hn
  exact lv_istore hx hb hd hl (hn ▸ hi) rfl (fun ls hl => k H locs ls hP hD hS (sm_put hl ho) (by rw [List.length_set]; exact hn))
theorem so_istore_n (hx : p.tables.exec = Jvm.exec) (hb : c.code = b) (hml : c.maxLocals = nL) (hown : s.vm.findClass own = some m.cls) (hts : ∀ w ∈ sm_f, w.before args s = true) (hK : va_K G vwCl [(cI, .int), (cQ, .object "NineLies$Sheet")] s) (hfr : 1 ≤ R.frames) (hlo : 38 ≤ R.locals) (hcc : cells ≤ R.cells) (hss : slots ≤ R.slots) : ru_istore_n own b (sm_AW p l e R s m args below meth c G cI cQ ad nL A H0 cells slots Q free) := by
  intro pc L st h i x hd hi ho k H locs ls hP hD hS hl hn
  exact lv_istore_n hx hb hd rfl hl (hn ▸ hi) rfl (fun ls hl => k H locs ls hP hD hS (sm_put hl ho) (by rw [List.length_set]; exact hn))
theorem so_astore (hx : p.tables.exec = Jvm.exec) (hb : c.code = b) (hml : c.maxLocals = nL) (hown : s.vm.findClass own = some m.cls) (hts : ∀ w ∈ sm_f, w.before args s = true) (hK : va_K G vwCl [(cI, .int), (cQ, .object "NineLies$Sheet")] s) (hfr : 1 ≤ R.frames) (hlo : 38 ≤ R.locals) (hcc : cells ≤ R.cells) (hss : slots ≤ R.slots) : ru_astore own b (sm_AW p l e R s m args below meth c G cI cQ ad nL A H0 cells slots Q free) := by
  intro pc L st h i x hd hi ho k H locs ls hP hD hS hl hn
  exact lv_astore hx hb hd hl (hn ▸ hi) rfl (fun ls hl => k H locs ls hP hD hS (sm_put hl ho) (by rw [List.length_set]; exact hn))
theorem so_astore_n (hx : p.tables.exec = Jvm.exec) (hb : c.code = b) (hml : c.maxLocals = nL) (hown : s.vm.findClass own = some m.cls) (hts : ∀ w ∈ sm_f, w.before args s = true) (hK : va_K G vwCl [(cI, .int), (cQ, .object "NineLies$Sheet")] s) (hfr : 1 ≤ R.frames) (hlo : 38 ≤ R.locals) (hcc : cells ≤ R.cells) (hss : slots ≤ R.slots) : ru_astore_n own b (sm_AW p l e R s m args below meth c G cI cQ ad nL A H0 cells slots Q free) := by
  intro pc L st h i x hd hi ho k H locs ls hP hD hS hl hn
  exact lv_astore_n hx hb hd rfl hl (hn ▸ hi) rfl (fun ls hl => k H locs ls hP hD hS (sm_put hl ho) (by rw [List.length_set]; exact hn))
theorem so_astoreN (hx : p.tables.exec = Jvm.exec) (hb : c.code = b) (hml : c.maxLocals = nL) (hown : s.vm.findClass own = some m.cls) (hts : ∀ w ∈ sm_f, w.before args s = true) (hK : va_K G vwCl [(cI, .int), (cQ, .object "NineLies$Sheet")] s) (hfr : 1 ≤ R.frames) (hlo : 38 ≤ R.locals) (hcc : cells ≤ R.cells) (hss : slots ≤ R.slots) : ru_astoreN own b (sm_AW p l e R s m args below meth c G cI cQ ad nL A H0 cells slots Q free) := by
  intro pc L st h i hd hi ho k H locs ls hP hD hS hl hn
  exact lv_astoreN hx hb hd hl (hn ▸ hi) rfl (fun ls hl => k H locs ls hP hD hS (sm_put hl ho) (by rw [List.length_set]; exact hn))
theorem so_astore_nN (hx : p.tables.exec = Jvm.exec) (hb : c.code = b) (hml : c.maxLocals = nL) (hown : s.vm.findClass own = some m.cls) (hts : ∀ w ∈ sm_f, w.before args s = true) (hK : va_K G vwCl [(cI, .int), (cQ, .object "NineLies$Sheet")] s) (hfr : 1 ≤ R.frames) (hlo : 38 ≤ R.locals) (hcc : cells ≤ R.cells) (hss : slots ≤ R.slots) : ru_astore_nN own b (sm_AW p l e R s m args below meth c G cI cQ ad nL A H0 cells slots Q free) := by
  intro pc L st h i hd hi ho k H locs ls hP hD hS hl hn
  exact lv_astore_nN hx hb hd rfl hl (hn ▸ hi) rfl (fun ls hl => k H locs ls hP hD hS (sm_put hl ho) (by rw [List.length_set]; exact hn))
theorem so_iinc (hx : p.tables.exec = Jvm.exec) (hb : c.code = b) (hml : c.maxLocals = nL) (hown : s.vm.findClass own = some m.cls) (hts : ∀ w ∈ sm_f, w.before args s = true) (hK : va_K G vwCl [(cI, .int), (cQ, .object "NineLies$Sheet")] s) (hfr : 1 ≤ R.frames) (hlo : 38 ≤ R.locals) (hcc : cells ≤ R.cells) (hss : slots ≤ R.slots) : ru_iinc own b (sm_AW p l e R s m args below meth c G cI cQ ad nL A H0 cells slots Q free) := by
  intro pc L st h i n x v hd hL hv ho k H locs ls hP hD hS hl hn
  obtain ⟨j, hj⟩ := sm_in hL (ad := ad)
  exact lv_iinc hx hb hd hl hj hv (hn ▸ (List.getElem?_eq_some_iff.mp hL).1) rfl (fun ls hl => k H locs ls hP hD hS (sm_put hl ho) (by rw [List.length_set]; exact hn))
theorem so_iadd (hx : p.tables.exec = Jvm.exec) (hb : c.code = b) (hml : c.maxLocals = nL) (hown : s.vm.findClass own = some m.cls) (hts : ∀ w ∈ sm_f, w.before args s = true) (hK : va_K G vwCl [(cI, .int), (cQ, .object "NineLies$Sheet")] s) (hfr : 1 ≤ R.frames) (hlo : 38 ≤ R.locals) (hcc : cells ≤ R.cells) (hss : slots ≤ R.slots) : ru_iadd own b (sm_AW p l e R s m args below meth c G cI cQ ad nL A H0 cells slots Q free) := by
  intro pc L st h x y hd k H locs ls hP hD hS hl hn
  exact lv_iadd hx hb hd (k H locs ls hP hD hS hl hn)
theorem so_isub (hx : p.tables.exec = Jvm.exec) (hb : c.code = b) (hml : c.maxLocals = nL) (hown : s.vm.findClass own = some m.cls) (hts : ∀ w ∈ sm_f, w.before args s = true) (hK : va_K G vwCl [(cI, .int), (cQ, .object "NineLies$Sheet")] s) (hfr : 1 ≤ R.frames) (hlo : 38 ≤ R.locals) (hcc : cells ≤ R.cells) (hss : slots ≤ R.slots) : ru_isub own b (sm_AW p l e R s m args below meth c G cI cQ ad nL A H0 cells slots Q free) := by
  intro pc L st h x y hd k H locs ls hP hD hS hl hn
  exact lv_isub hx hb hd (k H locs ls hP hD hS hl hn)
theorem so_imul (hx : p.tables.exec = Jvm.exec) (hb : c.code = b) (hml : c.maxLocals = nL) (hown : s.vm.findClass own = some m.cls) (hts : ∀ w ∈ sm_f, w.before args s = true) (hK : va_K G vwCl [(cI, .int), (cQ, .object "NineLies$Sheet")] s) (hfr : 1 ≤ R.frames) (hlo : 38 ≤ R.locals) (hcc : cells ≤ R.cells) (hss : slots ≤ R.slots) : ru_imul own b (sm_AW p l e R s m args below meth c G cI cQ ad nL A H0 cells slots Q free) := by
  intro pc L st h x y hd k H locs ls hP hD hS hl hn
  exact lv_imul hx hb hd (k H locs ls hP hD hS hl hn)
theorem so_iand (hx : p.tables.exec = Jvm.exec) (hb : c.code = b) (hml : c.maxLocals = nL) (hown : s.vm.findClass own = some m.cls) (hts : ∀ w ∈ sm_f, w.before args s = true) (hK : va_K G vwCl [(cI, .int), (cQ, .object "NineLies$Sheet")] s) (hfr : 1 ≤ R.frames) (hlo : 38 ≤ R.locals) (hcc : cells ≤ R.cells) (hss : slots ≤ R.slots) : ru_iand own b (sm_AW p l e R s m args below meth c G cI cQ ad nL A H0 cells slots Q free) := by
  intro pc L st h x y hd k H locs ls hP hD hS hl hn
  exact lv_iand hx hb hd (k H locs ls hP hD hS hl hn)
theorem so_ior (hx : p.tables.exec = Jvm.exec) (hb : c.code = b) (hml : c.maxLocals = nL) (hown : s.vm.findClass own = some m.cls) (hts : ∀ w ∈ sm_f, w.before args s = true) (hK : va_K G vwCl [(cI, .int), (cQ, .object "NineLies$Sheet")] s) (hfr : 1 ≤ R.frames) (hlo : 38 ≤ R.locals) (hcc : cells ≤ R.cells) (hss : slots ≤ R.slots) : ru_ior own b (sm_AW p l e R s m args below meth c G cI cQ ad nL A H0 cells slots Q free) := by
  intro pc L st h x y hd k H locs ls hP hD hS hl hn
  exact lv_ior hx hb hd (k H locs ls hP hD hS hl hn)
theorem so_ixor (hx : p.tables.exec = Jvm.exec) (hb : c.code = b) (hml : c.maxLocals = nL) (hown : s.vm.findClass own = some m.cls) (hts : ∀ w ∈ sm_f, w.before args s = true) (hK : va_K G vwCl [(cI, .int), (cQ, .object "NineLies$Sheet")] s) (hfr : 1 ≤ R.frames) (hlo : 38 ≤ R.locals) (hcc : cells ≤ R.cells) (hss : slots ≤ R.slots) : ru_ixor own b (sm_AW p l e R s m args below meth c G cI cQ ad nL A H0 cells slots Q free) := by
  intro pc L st h x y hd k H locs ls hP hD hS hl hn
  exact lv_ixor hx hb hd (k H locs ls hP hD hS hl hn)
theorem so_ishl (hx : p.tables.exec = Jvm.exec) (hb : c.code = b) (hml : c.maxLocals = nL) (hown : s.vm.findClass own = some m.cls) (hts : ∀ w ∈ sm_f, w.before args s = true) (hK : va_K G vwCl [(cI, .int), (cQ, .object "NineLies$Sheet")] s) (hfr : 1 ≤ R.frames) (hlo : 38 ≤ R.locals) (hcc : cells ≤ R.cells) (hss : slots ≤ R.slots) : ru_ishl own b (sm_AW p l e R s m args below meth c G cI cQ ad nL A H0 cells slots Q free) := by
  intro pc L st h x y hd k H locs ls hP hD hS hl hn
  exact lv_ishl hx hb hd (k H locs ls hP hD hS hl hn)
theorem so_ishr (hx : p.tables.exec = Jvm.exec) (hb : c.code = b) (hml : c.maxLocals = nL) (hown : s.vm.findClass own = some m.cls) (hts : ∀ w ∈ sm_f, w.before args s = true) (hK : va_K G vwCl [(cI, .int), (cQ, .object "NineLies$Sheet")] s) (hfr : 1 ≤ R.frames) (hlo : 38 ≤ R.locals) (hcc : cells ≤ R.cells) (hss : slots ≤ R.slots) : ru_ishr own b (sm_AW p l e R s m args below meth c G cI cQ ad nL A H0 cells slots Q free) := by
  intro pc L st h x y hd k H locs ls hP hD hS hl hn
  exact lv_ishr hx hb hd (k H locs ls hP hD hS hl hn)
theorem so_iushr (hx : p.tables.exec = Jvm.exec) (hb : c.code = b) (hml : c.maxLocals = nL) (hown : s.vm.findClass own = some m.cls) (hts : ∀ w ∈ sm_f, w.before args s = true) (hK : va_K G vwCl [(cI, .int), (cQ, .object "NineLies$Sheet")] s) (hfr : 1 ≤ R.frames) (hlo : 38 ≤ R.locals) (hcc : cells ≤ R.cells) (hss : slots ≤ R.slots) : ru_iushr own b (sm_AW p l e R s m args below meth c G cI cQ ad nL A H0 cells slots Q free) := by
  intro pc L st h x y hd k H locs ls hP hD hS hl hn
  exact lv_iushr hx hb hd rfl (k H locs ls hP hD hS hl hn)
theorem so_ineg (hx : p.tables.exec = Jvm.exec) (hb : c.code = b) (hml : c.maxLocals = nL) (hown : s.vm.findClass own = some m.cls) (hts : ∀ w ∈ sm_f, w.before args s = true) (hK : va_K G vwCl [(cI, .int), (cQ, .object "NineLies$Sheet")] s) (hfr : 1 ≤ R.frames) (hlo : 38 ≤ R.locals) (hcc : cells ≤ R.cells) (hss : slots ≤ R.slots) : ru_ineg own b (sm_AW p l e R s m args below meth c G cI cQ ad nL A H0 cells slots Q free) := by
  intro pc L st h x hd k H locs ls hP hD hS hl hn
  exact lv_ineg hx hb hd (k H locs ls hP hD hS hl hn)
theorem so_idiv (hx : p.tables.exec = Jvm.exec) (hb : c.code = b) (hml : c.maxLocals = nL) (hown : s.vm.findClass own = some m.cls) (hts : ∀ w ∈ sm_f, w.before args s = true) (hK : va_K G vwCl [(cI, .int), (cQ, .object "NineLies$Sheet")] s) (hfr : 1 ≤ R.frames) (hlo : 38 ≤ R.locals) (hcc : cells ≤ R.cells) (hss : slots ≤ R.slots) : ru_idiv own b (sm_AW p l e R s m args below meth c G cI cQ ad nL A H0 cells slots Q free) := by
  intro pc L st h x y hd hy k H locs ls hP hD hS hl hn
  exact lv_idiv hx hb hd hy (k H locs ls hP hD hS hl hn)
theorem so_irem (hx : p.tables.exec = Jvm.exec) (hb : c.code = b) (hml : c.maxLocals = nL) (hown : s.vm.findClass own = some m.cls) (hts : ∀ w ∈ sm_f, w.before args s = true) (hK : va_K G vwCl [(cI, .int), (cQ, .object "NineLies$Sheet")] s) (hfr : 1 ≤ R.frames) (hlo : 38 ≤ R.locals) (hcc : cells ≤ R.cells) (hss : slots ≤ R.slots) : ru_irem own b (sm_AW p l e R s m args below meth c G cI cQ ad nL A H0 cells slots Q free) := by
  intro pc L st h x y hd hy k H locs ls hP hD hS hl hn
  exact lv_irem hx hb hd hy (k H locs ls hP hD hS hl hn)
theorem so_ladd (hx : p.tables.exec = Jvm.exec) (hb : c.code = b) (hml : c.maxLocals = nL) (hown : s.vm.findClass own = some m.cls) (hts : ∀ w ∈ sm_f, w.before args s = true) (hK : va_K G vwCl [(cI, .int), (cQ, .object "NineLies$Sheet")] s) (hfr : 1 ≤ R.frames) (hlo : 38 ≤ R.locals) (hcc : cells ≤ R.cells) (hss : slots ≤ R.slots) : ru_ladd own b (sm_AW p l e R s m args below meth c G cI cQ ad nL A H0 cells slots Q free) := by
  intro pc L st h x y hd k H locs ls hP hD hS hl hn
  exact lv_ladd hx hb hd (k H locs ls hP hD hS hl hn)
theorem so_lmul (hx : p.tables.exec = Jvm.exec) (hb : c.code = b) (hml : c.maxLocals = nL) (hown : s.vm.findClass own = some m.cls) (hts : ∀ w ∈ sm_f, w.before args s = true) (hK : va_K G vwCl [(cI, .int), (cQ, .object "NineLies$Sheet")] s) (hfr : 1 ≤ R.frames) (hlo : 38 ≤ R.locals) (hcc : cells ≤ R.cells) (hss : slots ≤ R.slots) : ru_lmul own b (sm_AW p l e R s m args below meth c G cI cQ ad nL A H0 cells slots Q free) := by
  intro pc L st h x y hd k H locs ls hP hD hS hl hn
  exact lv_lmul hx hb hd (k H locs ls hP hD hS hl hn)
theorem so_land (hx : p.tables.exec = Jvm.exec) (hb : c.code = b) (hml : c.maxLocals = nL) (hown : s.vm.findClass own = some m.cls) (hts : ∀ w ∈ sm_f, w.before args s = true) (hK : va_K G vwCl [(cI, .int), (cQ, .object "NineLies$Sheet")] s) (hfr : 1 ≤ R.frames) (hlo : 38 ≤ R.locals) (hcc : cells ≤ R.cells) (hss : slots ≤ R.slots) : ru_land own b (sm_AW p l e R s m args below meth c G cI cQ ad nL A H0 cells slots Q free) := by
  intro pc L st h x y hd k H locs ls hP hD hS hl hn
  exact lv_land hx hb hd (k H locs ls hP hD hS hl hn)
theorem so_lor (hx : p.tables.exec = Jvm.exec) (hb : c.code = b) (hml : c.maxLocals = nL) (hown : s.vm.findClass own = some m.cls) (hts : ∀ w ∈ sm_f, w.before args s = true) (hK : va_K G vwCl [(cI, .int), (cQ, .object "NineLies$Sheet")] s) (hfr : 1 ≤ R.frames) (hlo : 38 ≤ R.locals) (hcc : cells ≤ R.cells) (hss : slots ≤ R.slots) : ru_lor own b (sm_AW p l e R s m args below meth c G cI cQ ad nL A H0 cells slots Q free) := by
  intro pc L st h x y hd k H locs ls hP hD hS hl hn
  exact lv_lor hx hb hd (k H locs ls hP hD hS hl hn)
theorem so_lcmp (hx : p.tables.exec = Jvm.exec) (hb : c.code = b) (hml : c.maxLocals = nL) (hown : s.vm.findClass own = some m.cls) (hts : ∀ w ∈ sm_f, w.before args s = true) (hK : va_K G vwCl [(cI, .int), (cQ, .object "NineLies$Sheet")] s) (hfr : 1 ≤ R.frames) (hlo : 38 ≤ R.locals) (hcc : cells ≤ R.cells) (hss : slots ≤ R.slots) : ru_lcmp own b (sm_AW p l e R s m args below meth c G cI cQ ad nL A H0 cells slots Q free) := by
  intro pc L st h x y hd k H locs ls hP hD hS hl hn
  exact W.lcmp hx hb hd (k H locs ls hP hD hS hl hn)
theorem so_lshl (hx : p.tables.exec = Jvm.exec) (hb : c.code = b) (hml : c.maxLocals = nL) (hown : s.vm.findClass own = some m.cls) (hts : ∀ w ∈ sm_f, w.before args s = true) (hK : va_K G vwCl [(cI, .int), (cQ, .object "NineLies$Sheet")] s) (hfr : 1 ≤ R.frames) (hlo : 38 ≤ R.locals) (hcc : cells ≤ R.cells) (hss : slots ≤ R.slots) : ru_lshl own b (sm_AW p l e R s m args below meth c G cI cQ ad nL A H0 cells slots Q free) := by
  intro pc L st h x y hd k H locs ls hP hD hS hl hn
  exact lv_lshl hx hb hd rfl (k H locs ls hP hD hS hl hn)
theorem so_lshr (hx : p.tables.exec = Jvm.exec) (hb : c.code = b) (hml : c.maxLocals = nL) (hown : s.vm.findClass own = some m.cls) (hts : ∀ w ∈ sm_f, w.before args s = true) (hK : va_K G vwCl [(cI, .int), (cQ, .object "NineLies$Sheet")] s) (hfr : 1 ≤ R.frames) (hlo : 38 ≤ R.locals) (hcc : cells ≤ R.cells) (hss : slots ≤ R.slots) : ru_lshr own b (sm_AW p l e R s m args below meth c G cI cQ ad nL A H0 cells slots Q free) := by
  intro pc L st h x y hd k H locs ls hP hD hS hl hn
  exact lv_lshr hx hb hd rfl (k H locs ls hP hD hS hl hn)
theorem so_lushr (hx : p.tables.exec = Jvm.exec) (hb : c.code = b) (hml : c.maxLocals = nL) (hown : s.vm.findClass own = some m.cls) (hts : ∀ w ∈ sm_f, w.before args s = true) (hK : va_K G vwCl [(cI, .int), (cQ, .object "NineLies$Sheet")] s) (hfr : 1 ≤ R.frames) (hlo : 38 ≤ R.locals) (hcc : cells ≤ R.cells) (hss : slots ≤ R.slots) : ru_lushr own b (sm_AW p l e R s m args below meth c G cI cQ ad nL A H0 cells slots Q free) := by
  intro pc L st h x y hd k H locs ls hP hD hS hl hn
  exact lv_lushr hx hb hd rfl (k H locs ls hP hD hS hl hn)
theorem so_i2l (hx : p.tables.exec = Jvm.exec) (hb : c.code = b) (hml : c.maxLocals = nL) (hown : s.vm.findClass own = some m.cls) (hts : ∀ w ∈ sm_f, w.before args s = true) (hK : va_K G vwCl [(cI, .int), (cQ, .object "NineLies$Sheet")] s) (hfr : 1 ≤ R.frames) (hlo : 38 ≤ R.locals) (hcc : cells ≤ R.cells) (hss : slots ≤ R.slots) : ru_i2l own b (sm_AW p l e R s m args below meth c G cI cQ ad nL A H0 cells slots Q free) := by
  intro pc L st h x hd k H locs ls hP hD hS hl hn
  exact lv_i2l hx hb hd rfl (k H locs ls hP hD hS hl hn)
theorem so_l2i (hx : p.tables.exec = Jvm.exec) (hb : c.code = b) (hml : c.maxLocals = nL) (hown : s.vm.findClass own = some m.cls) (hts : ∀ w ∈ sm_f, w.before args s = true) (hK : va_K G vwCl [(cI, .int), (cQ, .object "NineLies$Sheet")] s) (hfr : 1 ≤ R.frames) (hlo : 38 ≤ R.locals) (hcc : cells ≤ R.cells) (hss : slots ≤ R.slots) : ru_l2i own b (sm_AW p l e R s m args below meth c G cI cQ ad nL A H0 cells slots Q free) := by
  intro pc L st h x hd k H locs ls hP hD hS hl hn
  exact lv_l2i hx hb hd rfl (k H locs ls hP hD hS hl hn)
theorem so_i2b (hx : p.tables.exec = Jvm.exec) (hb : c.code = b) (hml : c.maxLocals = nL) (hown : s.vm.findClass own = some m.cls) (hts : ∀ w ∈ sm_f, w.before args s = true) (hK : va_K G vwCl [(cI, .int), (cQ, .object "NineLies$Sheet")] s) (hfr : 1 ≤ R.frames) (hlo : 38 ≤ R.locals) (hcc : cells ≤ R.cells) (hss : slots ≤ R.slots) : ru_i2b own b (sm_AW p l e R s m args below meth c G cI cQ ad nL A H0 cells slots Q free) := by
  intro pc L st h x hd k H locs ls hP hD hS hl hn
  exact lv_i2b hx hb hd rfl (k H locs ls hP hD hS hl hn)
theorem so_i2s (hx : p.tables.exec = Jvm.exec) (hb : c.code = b) (hml : c.maxLocals = nL) (hown : s.vm.findClass own = some m.cls) (hts : ∀ w ∈ sm_f, w.before args s = true) (hK : va_K G vwCl [(cI, .int), (cQ, .object "NineLies$Sheet")] s) (hfr : 1 ≤ R.frames) (hlo : 38 ≤ R.locals) (hcc : cells ≤ R.cells) (hss : slots ≤ R.slots) : ru_i2s own b (sm_AW p l e R s m args below meth c G cI cQ ad nL A H0 cells slots Q free) := by
  intro pc L st h x hd k H locs ls hP hD hS hl hn
  exact lv_i2s hx hb hd rfl (k H locs ls hP hD hS hl hn)
theorem so_dup (hx : p.tables.exec = Jvm.exec) (hb : c.code = b) (hml : c.maxLocals = nL) (hown : s.vm.findClass own = some m.cls) (hts : ∀ w ∈ sm_f, w.before args s = true) (hK : va_K G vwCl [(cI, .int), (cQ, .object "NineLies$Sheet")] s) (hfr : 1 ≤ R.frames) (hlo : 38 ≤ R.locals) (hcc : cells ≤ R.cells) (hss : slots ≤ R.slots) : ru_dup own b (sm_AW p l e R s m args below meth c G cI cQ ad nL A H0 cells slots Q free) := by
  intro pc L st h v hd hc k H locs ls hP hD hS hl hn
  exact lv_dup hx hb hd (sm_cat hc) (k H locs ls hP hD hS hl hn)
theorem so_pop (hx : p.tables.exec = Jvm.exec) (hb : c.code = b) (hml : c.maxLocals = nL) (hown : s.vm.findClass own = some m.cls) (hts : ∀ w ∈ sm_f, w.before args s = true) (hK : va_K G vwCl [(cI, .int), (cQ, .object "NineLies$Sheet")] s) (hfr : 1 ≤ R.frames) (hlo : 38 ≤ R.locals) (hcc : cells ≤ R.cells) (hss : slots ≤ R.slots) : ru_pop own b (sm_AW p l e R s m args below meth c G cI cQ ad nL A H0 cells slots Q free) := by
  intro pc L st h v hd hc k H locs ls hP hD hS hl hn
  exact lv_pop hx hb hd (sm_cat hc) (k H locs ls hP hD hS hl hn)
theorem so_dup2 (hx : p.tables.exec = Jvm.exec) (hb : c.code = b) (hml : c.maxLocals = nL) (hown : s.vm.findClass own = some m.cls) (hts : ∀ w ∈ sm_f, w.before args s = true) (hK : va_K G vwCl [(cI, .int), (cQ, .object "NineLies$Sheet")] s) (hfr : 1 ≤ R.frames) (hlo : 38 ≤ R.locals) (hcc : cells ≤ R.cells) (hss : slots ≤ R.slots) : ru_dup2 own b (sm_AW p l e R s m args below meth c G cI cQ ad nL A H0 cells slots Q free) := by
  intro pc L st h v w hd hc hc2 k H locs ls hP hD hS hl hn
  exact lv_dup2_11 hx hb hd (sm_cat hc) (sm_cat hc2) (k H locs ls hP hD hS hl hn)
theorem so_if_eq (hx : p.tables.exec = Jvm.exec) (hb : c.code = b) (hml : c.maxLocals = nL) (hown : s.vm.findClass own = some m.cls) (hts : ∀ w ∈ sm_f, w.before args s = true) (hK : va_K G vwCl [(cI, .int), (cQ, .object "NineLies$Sheet")] s) (hfr : 1 ≤ R.frames) (hlo : 38 ≤ R.locals) (hcc : cells ≤ R.cells) (hss : slots ≤ R.slots) : ru_if_eq own b (sm_AW p l e R s m args below meth c G cI cQ ad nL A H0 cells slots Q free) := by
  intro pc L st h x off tgt hd ht k1 k2 H locs ls hP hD hS hl hn
  exact lv_if_eq hx hb hd ht (fun q => k1 q H locs ls hP hD hS hl hn) (fun q => k2 q H locs ls hP hD hS hl hn)
theorem so_icmp_eq (hx : p.tables.exec = Jvm.exec) (hb : c.code = b) (hml : c.maxLocals = nL) (hown : s.vm.findClass own = some m.cls) (hts : ∀ w ∈ sm_f, w.before args s = true) (hK : va_K G vwCl [(cI, .int), (cQ, .object "NineLies$Sheet")] s) (hfr : 1 ≤ R.frames) (hlo : 38 ≤ R.locals) (hcc : cells ≤ R.cells) (hss : slots ≤ R.slots) : ru_icmp_eq own b (sm_AW p l e R s m args below meth c G cI cQ ad nL A H0 cells slots Q free) := by
  intro pc L st h x y off tgt hd ht k1 k2 H locs ls hP hD hS hl hn
  exact lv_icmp_eq hx hb hd ht (fun q => k1 q H locs ls hP hD hS hl hn) (fun q => k2 q H locs ls hP hD hS hl hn)
theorem so_if_ne (hx : p.tables.exec = Jvm.exec) (hb : c.code = b) (hml : c.maxLocals = nL) (hown : s.vm.findClass own = some m.cls) (hts : ∀ w ∈ sm_f, w.before args s = true) (hK : va_K G vwCl [(cI, .int), (cQ, .object "NineLies$Sheet")] s) (hfr : 1 ≤ R.frames) (hlo : 38 ≤ R.locals) (hcc : cells ≤ R.cells) (hss : slots ≤ R.slots) : ru_if_ne own b (sm_AW p l e R s m args below meth c G cI cQ ad nL A H0 cells slots Q free) := by
  intro pc L st h x off tgt hd ht k1 k2 H locs ls hP hD hS hl hn
  exact lv_if_ne hx hb hd ht (fun q => k1 q H locs ls hP hD hS hl hn) (fun q => k2 q H locs ls hP hD hS hl hn)
theorem so_icmp_ne (hx : p.tables.exec = Jvm.exec) (hb : c.code = b) (hml : c.maxLocals = nL) (hown : s.vm.findClass own = some m.cls) (hts : ∀ w ∈ sm_f, w.before args s = true) (hK : va_K G vwCl [(cI, .int), (cQ, .object "NineLies$Sheet")] s) (hfr : 1 ≤ R.frames) (hlo : 38 ≤ R.locals) (hcc : cells ≤ R.cells) (hss : slots ≤ R.slots) : ru_icmp_ne own b (sm_AW p l e R s m args below meth c G cI cQ ad nL A H0 cells slots Q free) := by
  intro pc L st h x y off tgt hd ht k1 k2 H locs ls hP hD hS hl hn
  exact lv_icmp_ne hx hb hd ht (fun q => k1 q H locs ls hP hD hS hl hn) (fun q => k2 q H locs ls hP hD hS hl hn)
theorem so_if_lt (hx : p.tables.exec = Jvm.exec) (hb : c.code = b) (hml : c.maxLocals = nL) (hown : s.vm.findClass own = some m.cls) (hts : ∀ w ∈ sm_f, w.before args s = true) (hK : va_K G vwCl [(cI, .int), (cQ, .object "NineLies$Sheet")] s) (hfr : 1 ≤ R.frames) (hlo : 38 ≤ R.locals) (hcc : cells ≤ R.cells) (hss : slots ≤ R.slots) : ru_if_lt own b (sm_AW p l e R s m args below meth c G cI cQ ad nL A H0 cells slots Q free) := by
  intro pc L st h x off tgt hd ht k1 k2 H locs ls hP hD hS hl hn
  exact lv_if_lt hx hb hd ht (fun q => k1 q H locs ls hP hD hS hl hn) (fun q => k2 q H locs ls hP hD hS hl hn)
theorem so_icmp_lt (hx : p.tables.exec = Jvm.exec) (hb : c.code = b) (hml : c.maxLocals = nL) (hown : s.vm.findClass own = some m.cls) (hts : ∀ w ∈ sm_f, w.before args s = true) (hK : va_K G vwCl [(cI, .int), (cQ, .object "NineLies$Sheet")] s) (hfr : 1 ≤ R.frames) (hlo : 38 ≤ R.locals) (hcc : cells ≤ R.cells) (hss : slots ≤ R.slots) : ru_icmp_lt own b (sm_AW p l e R s m args below meth c G cI cQ ad nL A H0 cells slots Q free) := by
  intro pc L st h x y off tgt hd ht k1 k2 H locs ls hP hD hS hl hn
  exact lv_icmp_lt hx hb hd ht (fun q => k1 q H locs ls hP hD hS hl hn) (fun q => k2 q H locs ls hP hD hS hl hn)
theorem so_if_ge (hx : p.tables.exec = Jvm.exec) (hb : c.code = b) (hml : c.maxLocals = nL) (hown : s.vm.findClass own = some m.cls) (hts : ∀ w ∈ sm_f, w.before args s = true) (hK : va_K G vwCl [(cI, .int), (cQ, .object "NineLies$Sheet")] s) (hfr : 1 ≤ R.frames) (hlo : 38 ≤ R.locals) (hcc : cells ≤ R.cells) (hss : slots ≤ R.slots) : ru_if_ge own b (sm_AW p l e R s m args below meth c G cI cQ ad nL A H0 cells slots Q free) := by
  intro pc L st h x off tgt hd ht k1 k2 H locs ls hP hD hS hl hn
  exact lv_if_ge hx hb hd ht (fun q => k1 q H locs ls hP hD hS hl hn) (fun q => k2 q H locs ls hP hD hS hl hn)
theorem so_icmp_ge (hx : p.tables.exec = Jvm.exec) (hb : c.code = b) (hml : c.maxLocals = nL) (hown : s.vm.findClass own = some m.cls) (hts : ∀ w ∈ sm_f, w.before args s = true) (hK : va_K G vwCl [(cI, .int), (cQ, .object "NineLies$Sheet")] s) (hfr : 1 ≤ R.frames) (hlo : 38 ≤ R.locals) (hcc : cells ≤ R.cells) (hss : slots ≤ R.slots) : ru_icmp_ge own b (sm_AW p l e R s m args below meth c G cI cQ ad nL A H0 cells slots Q free) := by
  intro pc L st h x y off tgt hd ht k1 k2 H locs ls hP hD hS hl hn
  exact lv_icmp_ge hx hb hd ht (fun q => k1 q H locs ls hP hD hS hl hn) (fun q => k2 q H locs ls hP hD hS hl hn)
theorem so_if_gt (hx : p.tables.exec = Jvm.exec) (hb : c.code = b) (hml : c.maxLocals = nL) (hown : s.vm.findClass own = some m.cls) (hts : ∀ w ∈ sm_f, w.before args s = true) (hK : va_K G vwCl [(cI, .int), (cQ, .object "NineLies$Sheet")] s) (hfr : 1 ≤ R.frames) (hlo : 38 ≤ R.locals) (hcc : cells ≤ R.cells) (hss : slots ≤ R.slots) : ru_if_gt own b (sm_AW p l e R s m args below meth c G cI cQ ad nL A H0 cells slots Q free) := by
  intro pc L st h x off tgt hd ht k1 k2 H locs ls hP hD hS hl hn
  exact lv_if_gt hx hb hd ht (fun q => k1 q H locs ls hP hD hS hl hn) (fun q => k2 q H locs ls hP hD hS hl hn)
theorem so_icmp_gt (hx : p.tables.exec = Jvm.exec) (hb : c.code = b) (hml : c.maxLocals = nL) (hown : s.vm.findClass own = some m.cls) (hts : ∀ w ∈ sm_f, w.before args s = true) (hK : va_K G vwCl [(cI, .int), (cQ, .object "NineLies$Sheet")] s) (hfr : 1 ≤ R.frames) (hlo : 38 ≤ R.locals) (hcc : cells ≤ R.cells) (hss : slots ≤ R.slots) : ru_icmp_gt own b (sm_AW p l e R s m args below meth c G cI cQ ad nL A H0 cells slots Q free) := by
  intro pc L st h x y off tgt hd ht k1 k2 H locs ls hP hD hS hl hn
  exact lv_icmp_gt hx hb hd ht (fun q => k1 q H locs ls hP hD hS hl hn) (fun q => k2 q H locs ls hP hD hS hl hn)
theorem so_if_le (hx : p.tables.exec = Jvm.exec) (hb : c.code = b) (hml : c.maxLocals = nL) (hown : s.vm.findClass own = some m.cls) (hts : ∀ w ∈ sm_f, w.before args s = true) (hK : va_K G vwCl [(cI, .int), (cQ, .object "NineLies$Sheet")] s) (hfr : 1 ≤ R.frames) (hlo : 38 ≤ R.locals) (hcc : cells ≤ R.cells) (hss : slots ≤ R.slots) : ru_if_le own b (sm_AW p l e R s m args below meth c G cI cQ ad nL A H0 cells slots Q free) := by
  intro pc L st h x off tgt hd ht k1 k2 H locs ls hP hD hS hl hn
  exact lv_if_le hx hb hd ht (fun q => k1 q H locs ls hP hD hS hl hn) (fun q => k2 q H locs ls hP hD hS hl hn)
theorem so_icmp_le (hx : p.tables.exec = Jvm.exec) (hb : c.code = b) (hml : c.maxLocals = nL) (hown : s.vm.findClass own = some m.cls) (hts : ∀ w ∈ sm_f, w.before args s = true) (hK : va_K G vwCl [(cI, .int), (cQ, .object "NineLies$Sheet")] s) (hfr : 1 ≤ R.frames) (hlo : 38 ≤ R.locals) (hcc : cells ≤ R.cells) (hss : slots ≤ R.slots) : ru_icmp_le own b (sm_AW p l e R s m args below meth c G cI cQ ad nL A H0 cells slots Q free) := by
  intro pc L st h x y off tgt hd ht k1 k2 H locs ls hP hD hS hl hn
  exact lv_icmp_le hx hb hd ht (fun q => k1 q H locs ls hP hD hS hl hn) (fun q => k2 q H locs ls hP hD hS hl hn)
theorem so_goto (hx : p.tables.exec = Jvm.exec) (hb : c.code = b) (hml : c.maxLocals = nL) (hown : s.vm.findClass own = some m.cls) (hts : ∀ w ∈ sm_f, w.before args s = true) (hK : va_K G vwCl [(cI, .int), (cQ, .object "NineLies$Sheet")] s) (hfr : 1 ≤ R.frames) (hlo : 38 ≤ R.locals) (hcc : cells ≤ R.cells) (hss : slots ≤ R.slots) : ru_goto own b (sm_AW p l e R s m args below meth c G cI cQ ad nL A H0 cells slots Q free) := by
  intro pc L st h off tgt hd ht k H locs ls hP hD hS hl hn
  exact lv_goto hx hb hd ht (k H locs ls hP hD hS hl hn)
theorem so_ifnull (hx : p.tables.exec = Jvm.exec) (hb : c.code = b) (hml : c.maxLocals = nL) (hown : s.vm.findClass own = some m.cls) (hts : ∀ w ∈ sm_f, w.before args s = true) (hK : va_K G vwCl [(cI, .int), (cQ, .object "NineLies$Sheet")] s) (hfr : 1 ≤ R.frames) (hlo : 38 ≤ R.locals) (hcc : cells ≤ R.cells) (hss : slots ≤ R.slots) : ru_ifnull own b (sm_AW p l e R s m args below meth c G cI cQ ad nL A H0 cells slots Q free) := by
  intro pc L st h x off hd k H locs ls hP hD hS hl hn
  exact lv_ifnull hx hb hd (k H locs ls hP hD hS hl hn)
theorem so_ifnullN (hx : p.tables.exec = Jvm.exec) (hb : c.code = b) (hml : c.maxLocals = nL) (hown : s.vm.findClass own = some m.cls) (hts : ∀ w ∈ sm_f, w.before args s = true) (hK : va_K G vwCl [(cI, .int), (cQ, .object "NineLies$Sheet")] s) (hfr : 1 ≤ R.frames) (hlo : 38 ≤ R.locals) (hcc : cells ≤ R.cells) (hss : slots ≤ R.slots) : ru_ifnullN own b (sm_AW p l e R s m args below meth c G cI cQ ad nL A H0 cells slots Q free) := by
  intro pc L st h off tgt hd ht k H locs ls hP hD hS hl hn
  exact lv_ifnullN hx hb hd ht (k H locs ls hP hD hS hl hn)
theorem so_ifnonnull (hx : p.tables.exec = Jvm.exec) (hb : c.code = b) (hml : c.maxLocals = nL) (hown : s.vm.findClass own = some m.cls) (hts : ∀ w ∈ sm_f, w.before args s = true) (hK : va_K G vwCl [(cI, .int), (cQ, .object "NineLies$Sheet")] s) (hfr : 1 ≤ R.frames) (hlo : 38 ≤ R.locals) (hcc : cells ≤ R.cells) (hss : slots ≤ R.slots) : ru_ifnonnull own b (sm_AW p l e R s m args below meth c G cI cQ ad nL A H0 cells slots Q free) := by
  intro pc L st h x off tgt hd ht k H locs ls hP hD hS hl hn
  exact lv_ifnonnull hx hb hd ht (k H locs ls hP hD hS hl hn)
theorem so_ifnonnullN (hx : p.tables.exec = Jvm.exec) (hb : c.code = b) (hml : c.maxLocals = nL) (hown : s.vm.findClass own = some m.cls) (hts : ∀ w ∈ sm_f, w.before args s = true) (hK : va_K G vwCl [(cI, .int), (cQ, .object "NineLies$Sheet")] s) (hfr : 1 ≤ R.frames) (hlo : 38 ≤ R.locals) (hcc : cells ≤ R.cells) (hss : slots ≤ R.slots) : ru_ifnonnullN own b (sm_AW p l e R s m args below meth c G cI cQ ad nL A H0 cells slots Q free) := by
  intro pc L st h off hd k H locs ls hP hD hS hl hn
  exact lv_ifnonnullN hx hb hd (k H locs ls hP hD hS hl hn)
theorem so_lookup (hx : p.tables.exec = Jvm.exec) (hb : c.code = b) (hml : c.maxLocals = nL) (hown : s.vm.findClass own = some m.cls) (hts : ∀ w ∈ sm_f, w.before args s = true) (hK : va_K G vwCl [(cI, .int), (cQ, .object "NineLies$Sheet")] s) (hfr : 1 ≤ R.frames) (hlo : 38 ≤ R.locals) (hcc : cells ≤ R.cells) (hss : slots ≤ R.slots) : ru_lookup own b (sm_AW p l e R s m args below meth c G cI cQ ad nL A H0 cells slots Q free) := by
  intro pc L st h dflt ps len x off tgt hd hp ho ht k H locs ls hP hD hS hl hn
  exact lv_lookup hx hb hd hp ho ht (k H locs ls hP hD hS hl hn)
theorem so_tableOut (hx : p.tables.exec = Jvm.exec) (hb : c.code = b) (hml : c.maxLocals = nL) (hown : s.vm.findClass own = some m.cls) (hts : ∀ w ∈ sm_f, w.before args s = true) (hK : va_K G vwCl [(cI, .int), (cQ, .object "NineLies$Sheet")] s) (hfr : 1 ≤ R.frames) (hlo : 38 ≤ R.locals) (hcc : cells ≤ R.cells) (hss : slots ≤ R.slots) : ru_tableOut own b (sm_AW p l e R s m args below meth c G cI cQ ad nL A H0 cells slots Q free) := by
  intro pc L st h dflt lo hi offs len x tgt hd ho ht k H locs ls hP hD hS hl hn
  exact lv_tableOut hx hb hd ho ht (k H locs ls hP hD hS hl hn)
theorem so_tableIn (hx : p.tables.exec = Jvm.exec) (hb : c.code = b) (hml : c.maxLocals = nL) (hown : s.vm.findClass own = some m.cls) (hts : ∀ w ∈ sm_f, w.before args s = true) (hK : va_K G vwCl [(cI, .int), (cQ, .object "NineLies$Sheet")] s) (hfr : 1 ≤ R.frames) (hlo : 38 ≤ R.locals) (hcc : cells ≤ R.cells) (hss : slots ≤ R.slots) : ru_tableIn own b (sm_AW p l e R s m args below meth c G cI cQ ad nL A H0 cells slots Q free) := by
  intro pc L st h dflt lo hi offs len x off tgt hd h1 h2 ho ht k H locs ls hP hD hS hl hn
  exact lv_tableIn hx hb hd h1 h2 ho ht (k H locs ls hP hD hS hl hn)
theorem so_getf (hx : p.tables.exec = Jvm.exec) (hb : c.code = b) (hml : c.maxLocals = nL) (hown : s.vm.findClass own = some m.cls) (hts : ∀ w ∈ sm_f, w.before args s = true) (hK : va_K G vwCl [(cI, .int), (cQ, .object "NineLies$Sheet")] s) (hfr : 1 ≤ R.frames) (hlo : 38 ≤ R.locals) (hcc : cells ≤ R.cells) (hss : slots ≤ R.slots) : ru_getf own b (sm_AW p l e R s m args below meth c G cI cQ ad nL A H0 cells slots Q free) := by
  intro pc L st h i a ci j fs v hd hF hh hv k H locs ls hP hD hS hl hn
  obtain ⟨C, T, N, hc, hj, hown2, hlk⟩ := hF
  have he := sm_wo (cI := cI) (cQ := cQ) (ad := ad) hh
  have hv2 : (fs.map (sm_c ad))[j]? = some (sm_c ad v) := by rw [List.getElem?_map, hv]; rfl
  have hin := sm_in_cl hc
  rcases hlk with q | q
  · exact va_get hx hb hts hin hown hK hP a he hc j hj (hts _ (sm_ff q rfl)) (fun _ h9 => by rw [hown2] at h9; exact h9) hv2 hd (k H locs ls hP hD hS hl hn)
  · exact va_getN hx hb hts hin hown hK hP a he hc j hj (hts _ (sm_ff q rfl)) (fun _ h9 => by rw [hown2] at h9; exact h9) hv2 hd (k H locs ls hP hD hS hl hn)
theorem so_putI (hx : p.tables.exec = Jvm.exec) (hb : c.code = b) (hml : c.maxLocals = nL) (hown : s.vm.findClass own = some m.cls) (hts : ∀ w ∈ sm_f, w.before args s = true) (hK : va_K G vwCl [(cI, .int), (cQ, .object "NineLies$Sheet")] s) (hfr : 1 ≤ R.frames) (hlo : 38 ≤ R.locals) (hcc : cells ≤ R.cells) (hss : slots ≤ R.slots) : ru_putI own b (sm_AW p l e R s m args below meth c G cI cQ ad nL A H0 cells slots Q free) := by
  intro pc L st h i a ci j fs x hd hF hh hj2 k H locs ls hP hD hS hl hn
  obtain ⟨⟨C, T, N, hc, hj, hown2, hlk⟩, C2, T2, N2, hc2, hfin, hds0⟩ := hF
  have hcc := Option.some.inj (hc.symm.trans hc2)
  have hT : T = T2 := congrArg (fun q : vw_C => q.2.1) hcc
  subst hT
  have he := sm_wo (cI := cI) (cQ := cQ) (ad := ad) hh
  have hds : parseFieldDescriptor (T j).2.2.1 = some .int := by rw [hds0]; decide +kernel
  have hjl : j < (fs.map (sm_c ad)).length := by rw [List.length_map]; exact hj2
  have hin := sm_in_cl hc
  obtain ⟨ty0, hty, hnm⟩ := sm_ty_cl hc
  rcases hlk with q | q
  · exact va_put (v := .int x) (ty := .int) hx hb hts hin ty0 hty hnm hown hK hP hD hS a he hc j hj (hts _ (sm_ff q rfl)) (fun _ h9 => by rw [hown2] at h9; exact h9) hfin hds rfl rfl hjl hd (fun H1 locs1 hP1 hD1 hS1 => k H1 locs1 ls (by rw [sm_ws_o hh (ci := ci) (fs := fs.set j (.int x)), List.map_set]; exact hP1) (by rw [sm_ws_o hh (ci := ci) (fs := fs.set j (.int x)), List.map_set]; exact hD1) hS1 hl hn)
  · exact va_putN (v := .int x) (ty := .int) hx hb hts hin ty0 hty hnm hown hK hP hD hS a he hc j hj (hts _ (sm_ff q rfl)) (fun _ h9 => by rw [hown2] at h9; exact h9) hfin hds rfl rfl hjl hd (fun H1 locs1 hP1 hD1 hS1 => k H1 locs1 ls (by rw [sm_ws_o hh (ci := ci) (fs := fs.set j (.int x)), List.map_set]; exact hP1) (by rw [sm_ws_o hh (ci := ci) (fs := fs.set j (.int x)), List.map_set]; exact hD1) hS1 hl hn)
theorem so_putZ (hx : p.tables.exec = Jvm.exec) (hb : c.code = b) (hml : c.maxLocals = nL) (hown : s.vm.findClass own = some m.cls) (hts : ∀ w ∈ sm_f, w.before args s = true) (hK : va_K G vwCl [(cI, .int), (cQ, .object "NineLies$Sheet")] s) (hfr : 1 ≤ R.frames) (hlo : 38 ≤ R.locals) (hcc : cells ≤ R.cells) (hss : slots ≤ R.slots) : ru_putZ own b (sm_AW p l e R s m args below meth c G cI cQ ad nL A H0 cells slots Q free) := by
  intro pc L st h i a ci j fs x hd hF hh hj2 hz k H locs ls hP hD hS hl hn
  have hnz : narrow .boolean (.int x) = .int x ∧ fits .boolean (.int x) = true := by rcases hz with rfl | rfl <;> exact ⟨rfl, rfl⟩
  obtain ⟨⟨C, T, N, hc, hj, hown2, hlk⟩, C2, T2, N2, hc2, hfin, hds0⟩ := hF
  have hcc := Option.some.inj (hc.symm.trans hc2)
  have hT : T = T2 := congrArg (fun q : vw_C => q.2.1) hcc
  subst hT
  have he := sm_wo (cI := cI) (cQ := cQ) (ad := ad) hh
  have hds : parseFieldDescriptor (T j).2.2.1 = some .boolean := by rw [hds0]; decide +kernel
  have hjl : j < (fs.map (sm_c ad)).length := by rw [List.length_map]; exact hj2
  have hin := sm_in_cl hc
  obtain ⟨ty0, hty, hnm⟩ := sm_ty_cl hc
  rcases hlk with q | q
  · exact va_put (v := .int x) (ty := .boolean) hx hb hts hin ty0 hty hnm hown hK hP hD hS a he hc j hj (hts _ (sm_ff q rfl)) (fun _ h9 => by rw [hown2] at h9; exact h9) hfin hds hnz.1 hnz.2 hjl hd (fun H1 locs1 hP1 hD1 hS1 => k H1 locs1 ls (by rw [sm_ws_o hh (ci := ci) (fs := fs.set j (.int x)), List.map_set]; exact hP1) (by rw [sm_ws_o hh (ci := ci) (fs := fs.set j (.int x)), List.map_set]; exact hD1) hS1 hl hn)
  · exact va_putN (v := .int x) (ty := .boolean) hx hb hts hin ty0 hty hnm hown hK hP hD hS a he hc j hj (hts _ (sm_ff q rfl)) (fun _ h9 => by rw [hown2] at h9; exact h9) hfin hds hnz.1 hnz.2 hjl hd (fun H1 locs1 hP1 hD1 hS1 => k H1 locs1 ls (by rw [sm_ws_o hh (ci := ci) (fs := fs.set j (.int x)), List.map_set]; exact hP1) (by rw [sm_ws_o hh (ci := ci) (fs := fs.set j (.int x)), List.map_set]; exact hD1) hS1 hl hn)
theorem so_iald (hx : p.tables.exec = Jvm.exec) (hb : c.code = b) (hml : c.maxLocals = nL) (hown : s.vm.findClass own = some m.cls) (hts : ∀ w ∈ sm_f, w.before args s = true) (hK : va_K G vwCl [(cI, .int), (cQ, .object "NineLies$Sheet")] s) (hfr : 1 ≤ R.frames) (hlo : 38 ≤ R.locals) (hcc : cells ≤ R.cells) (hss : slots ≤ R.slots) : ru_iald own b (sm_AW p l e R s m args below meth c G cI cQ ad nL A H0 cells slots Q free) := by
  intro pc L st h a n j f i hd hh hi hj hN k H locs ls hP hD hS hl hn
  have he := sm_wi (cI := cI) (cQ := cQ) (ad := ad) hh
  have hc : (nI j).toNatClampNeg = j := nI_clamp (Nat.lt_trans hj hN)
  subst hi
  have k2 := k H locs ls hP hD hS hl hn
  rw [← hc] at k2
  exact va_iald hx hb hK hP a 0 he rfl (vp_in_nI hj hN) hd k2
theorem so_iast (hx : p.tables.exec = Jvm.exec) (hb : c.code = b) (hml : c.maxLocals = nL) (hown : s.vm.findClass own = some m.cls) (hts : ∀ w ∈ sm_f, w.before args s = true) (hK : va_K G vwCl [(cI, .int), (cQ, .object "NineLies$Sheet")] s) (hfr : 1 ≤ R.frames) (hlo : 38 ≤ R.locals) (hcc : cells ≤ R.cells) (hss : slots ≤ R.slots) : ru_iast own b (sm_AW p l e R s m args below meth c G cI cQ ad nL A H0 cells slots Q free) := by
  intro pc L st h a n j f i x hd hh hi hj hN k H locs ls hP hD hS hl hn
  have he := sm_wi (cI := cI) (cQ := cQ) (ad := ad) hh
  have hc : (nI j).toNatClampNeg = j := nI_clamp (Nat.lt_trans hj hN)
  subst hi
  refine va_iast hx hb hK hP hD hS a 0 he rfl (vp_in_nI hj hN) hd (fun H1 locs1 hP1 hD1 hS1 => ?_)
  rw [hc] at hP1 hD1
  exact k H1 locs1 ls (by rw [sm_ws_i hh]; exact hP1) (by rw [sm_ws_i hh]; exact hD1) hS1 hl hn
theorem so_alen (hx : p.tables.exec = Jvm.exec) (hb : c.code = b) (hml : c.maxLocals = nL) (hown : s.vm.findClass own = some m.cls) (hts : ∀ w ∈ sm_f, w.before args s = true) (hK : va_K G vwCl [(cI, .int), (cQ, .object "NineLies$Sheet")] s) (hfr : 1 ≤ R.frames) (hlo : 38 ≤ R.locals) (hcc : cells ≤ R.cells) (hss : slots ≤ R.slots) : ru_alen own b (sm_AW p l e R s m args below meth c G cI cQ ad nL A H0 cells slots Q free) := by
  intro pc L st h a n f hd hh k H locs ls hP hD hS hl hn
  have he := sm_wi (cI := cI) (cQ := cQ) (ad := ad) hh
  exact va_alen hx hb hK hP a 0 he (ty := .int) rfl rfl hd (k H locs ls hP hD hS hl hn)
theorem so_alenQ (hx : p.tables.exec = Jvm.exec) (hb : c.code = b) (hml : c.maxLocals = nL) (hown : s.vm.findClass own = some m.cls) (hts : ∀ w ∈ sm_f, w.before args s = true) (hK : va_K G vwCl [(cI, .int), (cQ, .object "NineLies$Sheet")] s) (hfr : 1 ≤ R.frames) (hlo : 38 ≤ R.locals) (hcc : cells ≤ R.cells) (hss : slots ≤ R.slots) : ru_alenQ own b (sm_AW p l e R s m args below meth c G cI cQ ad nL A H0 cells slots Q free) := by
  intro pc L st h a n f hd hh k H locs ls hP hD hS hl hn
  have he := sm_wq (cI := cI) (cQ := cQ) (ad := ad) hh
  exact va_alen hx hb hK hP a 1 he (ty := .object "NineLies$Sheet") rfl rfl hd (k H locs ls hP hD hS hl hn)
theorem so_aald (hx : p.tables.exec = Jvm.exec) (hb : c.code = b) (hml : c.maxLocals = nL) (hown : s.vm.findClass own = some m.cls) (hts : ∀ w ∈ sm_f, w.before args s = true) (hK : va_K G vwCl [(cI, .int), (cQ, .object "NineLies$Sheet")] s) (hfr : 1 ≤ R.frames) (hlo : 38 ≤ R.locals) (hcc : cells ≤ R.cells) (hss : slots ≤ R.slots) : ru_aald own b (sm_AW p l e R s m args below meth c G cI cQ ad nL A H0 cells slots Q free) := by
  intro pc L st h a n j q f i hd hh hi hj hN hf k H locs ls hP hD hS hl hn
  have he := sm_wq (cI := cI) (cQ := cQ) (ad := ad) hh
  have hc : (nI j).toNatClampNeg = j := nI_clamp (Nat.lt_trans hj hN)
  subst hi
  refine va_aldq hx hb hK hP a 1 he rfl (vp_in_nI hj hN) hd ?_
  rw [hc, hf]
  exact k H locs ls hP hD hS hl hn
theorem so_max (hx : p.tables.exec = Jvm.exec) (hb : c.code = b) (hml : c.maxLocals = nL) (hown : s.vm.findClass own = some m.cls) (hts : ∀ w ∈ sm_f, w.before args s = true) (hK : va_K G vwCl [(cI, .int), (cQ, .object "NineLies$Sheet")] s) (hfr : 1 ≤ R.frames) (hlo : 38 ≤ R.locals) (hcc : cells ≤ R.cells) (hss : slots ≤ R.slots) : ru_max own b (sm_AW p l e R s m args below meth c G cI cQ ad nL A H0 cells slots Q free) := by
  intro pc L st h i x y hd hk hst k H locs ls hP hD hS hl hn
  exact va_mmax hx hb (hml.trans hl.1.symm) hown (hts _ (sm_ff hk rfl)) (hts _ (sm_ff (sq2 (i := 75) rfl) rfl)) (hts _ (sm_ff (sq1 (i := 10) rfl) rfl)) (hts _ (sm_ff (sq2 (i := 76) rfl) rfl)) hfr (by have h8 := sm_sum (ad := ad) hst; have h9 := hlo; omega) hcc hss hd (k H locs ls hP hD hS hl hn)
theorem so_min (hx : p.tables.exec = Jvm.exec) (hb : c.code = b) (hml : c.maxLocals = nL) (hown : s.vm.findClass own = some m.cls) (hts : ∀ w ∈ sm_f, w.before args s = true) (hK : va_K G vwCl [(cI, .int), (cQ, .object "NineLies$Sheet")] s) (hfr : 1 ≤ R.frames) (hlo : 38 ≤ R.locals) (hcc : cells ≤ R.cells) (hss : slots ≤ R.slots) : ru_min own b (sm_AW p l e R s m args below meth c G cI cQ ad nL A H0 cells slots Q free) := by
  intro pc L st h i x y hd hk hst k H locs ls hP hD hS hl hn
  exact va_mmin hx hb (hml.trans hl.1.symm) hown (hts _ (sm_ff hk rfl)) (hts _ (sm_ff (sq2 (i := 22) rfl) rfl)) (hts _ (sm_ff (sq1 (i := 10) rfl) rfl)) (hts _ (sm_ff (sq2 (i := 23) rfl) rfl)) hfr (by have h8 := sm_sum (ad := ad) hst; have h9 := hlo; omega) hcc hss hd (k H locs ls hP hD hS hl hn)
theorem so_copy (hx : p.tables.exec = Jvm.exec) (hb : c.code = b) (hml : c.maxLocals = nL) (hown : s.vm.findClass own = some m.cls) (hts : ∀ w ∈ sm_f, w.before args s = true) (hK : va_K G vwCl [(cI, .int), (cQ, .object "NineLies$Sheet")] s) (hfr : 1 ≤ R.frames) (hlo : 38 ≤ R.locals) (hcc : cells ≤ R.cells) (hss : slots ≤ R.slots) : ru_copy own b (sm_AW p l e R s m args below meth c G cI cQ ad nL A H0 cells slots Q free) := by
  intro pc L st h i a a0 n0 n1 sp dp n f g x y z hd hk hst hh0 hh1 hx0 hy hz h4 h5 hN k H locs ls hP hD hS hl hn
  have he0 := sm_wi (cI := cI) (cQ := cQ) (ad := ad) hh0
  have he1 := sm_wi (cI := cI) (cQ := cQ) (ad := ad) hh1
  subst hx0 hy hz
  have c1 : (nI sp).toNatClampNeg = sp := nI_clamp (by omega)
  have c2 : (nI dp).toNatClampNeg = dp := nI_clamp (by omega)
  have c3 : (nI n).toNatClampNeg = n := nI_clamp (by omega)
  refine va_copyi hx hb (hml.trans hl.1.symm) hown (hts _ (sm_ff hk rfl)) (hts _ (sm_ff (sq2 (i := 32) rfl) rfl)) (hts _ (sm_ff (sq2 (i := 31) rfl) rfl)) (hts _ (sm_ff (sq1 (i := 11) rfl) rfl)) hK hP hD hS a0 a 0 0 (ty := .int) he0 he1 rfl rfl rfl (nI_pos (by omega)) (nI_pos (by omega)) (nI_pos (by omega)) (by rw [c1, c3]; exact h4) (by rw [c2, c3]; exact h5) (fun _ _ => rfl) hfr (Nat.le_trans (Nat.add_le_add (sm_sum (ad := ad) hst) (by decide : nativeFrameWords "java/lang/System" "arraycopy" 5 + 11 ≤ 30)) hlo) hd (fun H1 locs1 hP1 hD1 hS1 => ?_)
  rw [c1, c2, c3] at hP1 hD1
  exact k H1 locs1 ls (by rw [sm_ws_i hh1]; exact hP1) (by rw [sm_ws_i hh1]; exact hD1) hS1 hl hn
theorem so_R (hx : p.tables.exec = Jvm.exec) (hb : c.code = b) (hml : c.maxLocals = nL) (hown : s.vm.findClass own = some m.cls) (hts : ∀ w ∈ sm_f, w.before args s = true) (hK : va_K G vwCl [(cI, .int), (cQ, .object "NineLies$Sheet")] s) (hfr : 1 ≤ R.frames) (hlo : 38 ≤ R.locals) (hcc : cells ≤ R.cells) (hss : slots ≤ R.slots) : sm_R own b (sm_AW p l e R s m args below meth c G cI cQ ad nL A H0 cells slots Q free) := ⟨⟨so_iconst hx hb hml hown hts hK hfr hlo hcc hss, so_bipush hx hb hml hown hts hK hfr hlo hcc hss, so_sipush hx hb hml hown hts hK hfr hlo hcc hss, so_lconst hx hb hml hown hts hK hfr hlo hcc hss, so_null hx hb hml hown hts hK hfr hlo hcc hss, so_ldc hx hb hml hown hts hK hfr hlo hcc hss, so_ldcw hx hb hml hown hts hK hfr hlo hcc hss, so_ldc2 hx hb hml hown hts hK hfr hlo hcc hss, so_iload hx hb hml hown hts hK hfr hlo hcc hss, so_iload_n hx hb hml hown hts hK hfr hlo hcc hss⟩, ⟨so_lload hx hb hml hown hts hK hfr hlo hcc hss, so_lload_n hx hb hml hown hts hK hfr hlo hcc hss, so_aload hx hb hml hown hts hK hfr hlo hcc hss, so_aload_n hx hb hml hown hts hK hfr hlo hcc hss, so_aloadN hx hb hml hown hts hK hfr hlo hcc hss, so_aload_nN hx hb hml hown hts hK hfr hlo hcc hss, so_istore hx hb hml hown hts hK hfr hlo hcc hss, so_istore_n hx hb hml hown hts hK hfr hlo hcc hss, so_astore hx hb hml hown hts hK hfr hlo hcc hss, so_astore_n hx hb hml hown hts hK hfr hlo hcc hss⟩, ⟨so_astoreN hx hb hml hown hts hK hfr hlo hcc hss, so_astore_nN hx hb hml hown hts hK hfr hlo hcc hss, so_iinc hx hb hml hown hts hK hfr hlo hcc hss, so_iadd hx hb hml hown hts hK hfr hlo hcc hss, so_isub hx hb hml hown hts hK hfr hlo hcc hss, so_imul hx hb hml hown hts hK hfr hlo hcc hss, so_iand hx hb hml hown hts hK hfr hlo hcc hss, so_ior hx hb hml hown hts hK hfr hlo hcc hss, so_ixor hx hb hml hown hts hK hfr hlo hcc hss, so_ishl hx hb hml hown hts hK hfr hlo hcc hss⟩, ⟨so_ishr hx hb hml hown hts hK hfr hlo hcc hss, so_iushr hx hb hml hown hts hK hfr hlo hcc hss, so_ineg hx hb hml hown hts hK hfr hlo hcc hss, so_idiv hx hb hml hown hts hK hfr hlo hcc hss, so_irem hx hb hml hown hts hK hfr hlo hcc hss, so_ladd hx hb hml hown hts hK hfr hlo hcc hss, so_lmul hx hb hml hown hts hK hfr hlo hcc hss, so_land hx hb hml hown hts hK hfr hlo hcc hss, so_lor hx hb hml hown hts hK hfr hlo hcc hss, so_lcmp hx hb hml hown hts hK hfr hlo hcc hss⟩, ⟨so_lshl hx hb hml hown hts hK hfr hlo hcc hss, so_lshr hx hb hml hown hts hK hfr hlo hcc hss, so_lushr hx hb hml hown hts hK hfr hlo hcc hss, so_i2l hx hb hml hown hts hK hfr hlo hcc hss, so_l2i hx hb hml hown hts hK hfr hlo hcc hss, so_i2b hx hb hml hown hts hK hfr hlo hcc hss, so_i2s hx hb hml hown hts hK hfr hlo hcc hss, so_dup hx hb hml hown hts hK hfr hlo hcc hss, so_pop hx hb hml hown hts hK hfr hlo hcc hss, so_dup2 hx hb hml hown hts hK hfr hlo hcc hss⟩, ⟨so_if_eq hx hb hml hown hts hK hfr hlo hcc hss, so_icmp_eq hx hb hml hown hts hK hfr hlo hcc hss, so_if_ne hx hb hml hown hts hK hfr hlo hcc hss, so_icmp_ne hx hb hml hown hts hK hfr hlo hcc hss, so_if_lt hx hb hml hown hts hK hfr hlo hcc hss, so_icmp_lt hx hb hml hown hts hK hfr hlo hcc hss, so_if_ge hx hb hml hown hts hK hfr hlo hcc hss, so_icmp_ge hx hb hml hown hts hK hfr hlo hcc hss, so_if_gt hx hb hml hown hts hK hfr hlo hcc hss, so_icmp_gt hx hb hml hown hts hK hfr hlo hcc hss⟩, ⟨so_if_le hx hb hml hown hts hK hfr hlo hcc hss, so_icmp_le hx hb hml hown hts hK hfr hlo hcc hss, so_goto hx hb hml hown hts hK hfr hlo hcc hss, so_ifnull hx hb hml hown hts hK hfr hlo hcc hss, so_ifnullN hx hb hml hown hts hK hfr hlo hcc hss, so_ifnonnull hx hb hml hown hts hK hfr hlo hcc hss, so_ifnonnullN hx hb hml hown hts hK hfr hlo hcc hss, so_lookup hx hb hml hown hts hK hfr hlo hcc hss, so_tableOut hx hb hml hown hts hK hfr hlo hcc hss, so_tableIn hx hb hml hown hts hK hfr hlo hcc hss⟩, ⟨so_getf hx hb hml hown hts hK hfr hlo hcc hss, so_putI hx hb hml hown hts hK hfr hlo hcc hss, so_putZ hx hb hml hown hts hK hfr hlo hcc hss, so_iald hx hb hml hown hts hK hfr hlo hcc hss, so_iast hx hb hml hown hts hK hfr hlo hcc hss, so_alen hx hb hml hown hts hK hfr hlo hcc hss, so_alenQ hx hb hml hown hts hK hfr hlo hcc hss, so_aald hx hb hml hown hts hK hfr hlo hcc hss, so_max hx hb hml hown hts hK hfr hlo hcc hss, so_min hx hb hml hown hts hK hfr hlo hcc hss⟩, so_copy hx hb hml hown hts hK hfr hlo hcc hss⟩
end SO
/-! A CONTRACT OF THE MACHINE FROM A WALK -/
/-- the nest mates' words -/
def sm_N (U : State) : Prop := ∀ w ∈ lw_tbl, sm_nest w = true → va_Nw w U
theorem sm_nt {w : Cond} (h : sm_nest w = true) : w.onTables = true := by
  cases w <;> first | rfl | cases h
theorem sm_N.same {u U : State} (h : u.vm = U.vm) (hN : sm_N u) : sm_N U := fun w hw hn => (hN w hw hn).same (sm_nt hn) h
theorem sm_N.warm {s U : State} (hW : s.WarmedH U.vm) (hN : sm_N s) : sm_N U := by
  intro w hw hn
  have h1 := hN w hw hn
  cases w <;> first | exact va_Nw.warmF hW h1 | exact va_Nw.warmM hW h1 | cases hn
theorem sm_all {args : Array Value} {s : State} (h : ∀ w ∈ lw_tbl, goodWord w = true → w.before args s = true) (hN : sm_N s) : ∀ w ∈ sm_f, w.before args s = true := by
  intro w hw
  obtain ⟨hw, hg⟩ := List.mem_filter.mp hw
  rcases Bool.or_eq_true_iff.mp hg with q | q
  · exact h w hw q
  · exact (hN w hw q).use (sm_nt q)
def sm_gw : List Cond := lw_tbl.filter goodWord
abbrev sm_tys (cI cQ : ClassId) : List (ClassId × FieldType) := [(cI, .int), (cQ, .object "NineLies$Sheet")]
def sm_rm (d : Nat) : Room := { frames := d, cells := 0, slots := 0, locals := 38 * d }
def sm_Pc (G : va_G) (cI cQ : ClassId) (ad : Nat → Nat) (as : List Value) (h : List sm_C) (sz : Nat) : Array Value → State → Prop :=
  va_Pc (as.map (sm_c ad)) (fun U => U.heap.size = sz ∧ va_P G vwCl (sm_w cI cQ ad h) U.heap ∧ va_K G vwCl (sm_tys cI cQ) U ∧ va_D (fun _ => True) (sm_w cI cQ ad h) ∧ sm_N U)
def sm_Qc (G : va_G) (cI cQ : ClassId) (ad : Nat → Nat) (h : List sm_C) (v : Option Value) (h1 : List sm_C) (sz : Nat) : Array Value → State → Outcome → State → Prop := fun _ st oc t =>
  (oc = .returned (v.map (sm_c ad)) ∧ va_P G vwCl (sm_w cI cQ ad h1) t.heap ∧ va_K G vwCl (sm_tys cI cQ) t ∧ va_D (va_A (sm_w cI cQ ad h) sz) (sm_w cI cQ ad h1)) ∧ va_F (va_A (sm_w cI cQ ad h) sz) st t
theorem sm_blind {G : va_G} {cI cQ : ClassId} {ad : Nat → Nat} {as : List Value} {h : List sm_C} {sz : Nat} : FrameBlind (sm_Pc G cI cQ ad as h sz) :=
  fun a U g mk q => ⟨q.1, q.2.1, q.2.2.1, va_K.moved (u := U) (U := U.calling g mk a) (Vm.Alike.refl U.vm) q.2.2.2.1, q.2.2.2.2.1, sm_N.same (u := U) rfl q.2.2.2.2.2⟩
theorem sm_pre {G : va_G} {cI cQ : ClassId} {ad : Nat → Nat} {as : List Value} {h : List sm_C} {s : State} {H : Heap} {A : Nat → Prop} (hP : va_P G vwCl (sm_w cI cQ ad h) H) (hK : va_K G vwCl (sm_tys cI cQ) s) (hD : va_D A (sm_w cI cQ ad h)) (hN : sm_N s) :
    ∀ U : State, U.heap = H → s.WarmedH U.vm → sm_Pc G cI cQ ad as h H.size (as.map (sm_c ad)).toArray U :=
  fun U hU hW => ⟨rfl, by rw [hU], by rw [hU]; exact hP, va_K.moved hW.alike hK, hD.weaken (fun _ _ _ _ => trivial), hN.warm hW⟩
theorem sm_en_args {ad : Nat → Nat} : ∀ (as : List Value) (i j : Nat) (w : Value), (sm_en as)[j]? = some (some w) → (i + j, sm_c ad w) ∈ lv_args i (as.map (sm_c ad))
  | [], i, j, w, h => by simp [sm_en] at h
  | v :: vs, i, j, w, h => by
    simp only [sm_en] at h
    simp only [List.map_cons, lv_args, sm_cat2]
    split at h
    · rename_i hc
      simp only [hc, if_true]
      match j, h with
      | 0, h => simp at h; subst h; exact List.mem_cons_self
      | 1, h => simp at h
      | j + 2, h =>
        simp only [List.getElem?_cons_succ] at h
        have := sm_en_args (ad := ad) vs (i + 2) j w h
        rw [show i + (j + 2) = i + 2 + j by omega]
        exact List.mem_cons_of_mem _ this
    · rename_i hc
      simp only [hc, if_false]
      match j, h with
      | 0, h => simp at h; subst h; exact List.mem_cons_self
      | j + 1, h =>
        simp only [List.getElem?_cons_succ] at h
        have := sm_en_args (ad := ad) vs (i + 1) j w h
        rw [show i + (j + 1) = i + 1 + j by omega]
        exact List.mem_cons_of_mem _ this
theorem sm_en_len {ad : Nat → Nat} : ∀ as : List Value, (lg_sl (as.map (sm_c ad))).length = (sm_en as).length
  | [] => rfl
  | v :: vs => by
    have ih := sm_en_len (ad := ad) vs
    simp only [lg_sl, List.map_cons, List.flatMap_cons, List.length_append, sm_cat2, sm_en] at ih ⊢
    split <;> simp [ih] <;> omega
theorem sm_entry {ad : Nat → Nat} {as : List Value} {n : Nat} (h : (sm_en as).length ≤ n) : lv_has ((lg_sl (as.map (sm_c ad)) ++ List.replicate (n - (lg_sl (as.map (sm_c ad))).length) Slot.unset).toArray) n (sm_lm ad (sm_en0 as n)) ∧ (sm_en0 as n).length = n := by
  have h0 := lv_entry (as.map (sm_c ad)) (n := n) (by rw [sm_en_len]; exact h)
  refine ⟨⟨h0.1, h0.2.1, ?_⟩, by unfold sm_en0; rw [List.length_append, List.length_replicate]; omega⟩
  rintro ⟨j, w⟩ hj
  rw [sm_as_mem, List.getElem?_map] at hj
  cases hk : (sm_en0 as n)[j]? with
  | none => rw [hk] at hj; cases hj
  | some o =>
    cases o with
    | none => rw [hk] at hj; simp at hj
    | some u =>
      rw [hk] at hj
      simp only [Option.map_some, Option.some.injEq] at hj
      subst hj
      have hu : (sm_en as)[j]? = some (some u) := by
        unfold sm_en0 at hk
        rcases Nat.lt_or_ge j (sm_en as).length with q | q
        · rw [List.getElem?_append_left q] at hk; exact hk
        · rw [List.getElem?_append_right q, List.getElem?_replicate] at hk
          split at hk
          · simp at hk
          · cases hk
      have := sm_en_args (ad := ad) as 0 j u hu
      rw [Nat.zero_add] at this
      exact h0.2.2 _ this
section SC
variable {p : Program} {l : Launch} {e : Env} {R : Room} {s : State} {m : MethodId} {args : Array Value} {below : List Frame} {meth : Method} {c : Code} {G : va_G} {cI cQ : ClassId} {ad : Nat → Nat} {A : Nat → Prop} {H0 H : Heap} {locs : List Loc} {cells slots : Nat} {Q : State → Prop}
theorem sm_hA {h : List sm_C} (hD : va_D A (sm_w cI cQ ad h)) (hS : va_S A H0 H locs) (hA : ∀ q, H0.size ≤ q → A q) : ∀ q, va_A (sm_w cI cQ ad h) H.size q → A q := by
  intro q hq
  rcases hq with ⟨k, e, hk⟩ | hq
  · exact hD.2 k (q, e) hk
  · exact hA q (Nat.le_trans hS.1 hq)
/-- behind a call -/
theorem sm_call {h h1 : List sm_C} {v : Option Value} {a : Array Value} {pc : Nat} {ls : Array Slot} {rest st0 : List Value} (hr : va_Run p l e R s m args below meth c H locs cells slots 0 0 (F0 m pc ls st0) rest (sm_Qc G cI cQ ad h v h1 H.size a) (va_A (sm_w cI cQ ad h) H.size)) (hD : va_D A (sm_w cI cQ ad h)) (hS : va_S A H0 H locs) (hA : ∀ q, H0.size ≤ q → A q)
    (kk : ∀ (H1 : Heap) (locs1 : List Loc), va_P G vwCl (sm_w cI cQ ad h1) H1 → va_D A (sm_w cI cQ ad h1) → va_S A H0 H1 locs1 → W p l e R s m args below meth c H1 locs1 cells slots Q (F0 m (pc + 3) ls ((v.map (sm_c ad)).toList ++ rest))) : W p l e R s m args below meth c H locs cells slots Q (F0 m pc ls st0) := by
  have hA1 := sm_hA hD hS hA
  intro T hT X
  obtain ⟨v1, st₀, t, T', L, h0, X', hL, e1, e2, ⟨⟨hv, hP1, hK1, hD1⟩, hz, hk⟩, st⟩ := hr T hT X
  have hv1 : v1 = v.map (sm_c ad) := Outcome.returned.inj hv
  subst hv1
  rw [h0] at hz hk
  obtain ⟨t2, a1, b1⟩ := kk T'.heap (locs ++ L) (by rw [e1]; exact hP1) (hD1.weaken (fun k q _ h => hA1 q.1 h))
    ⟨Nat.le_trans hS.1 (by rw [e1]; exact hz), fun q h1 h2 => by rw [e1, hk q (Nat.lt_of_lt_of_le h1 hS.1) (fun z => h2 (hA1 q z))]; exact hS.2.1 q h1 h2, fun q hq => by
      rcases List.mem_append.mp hq with h | h
      · exact hS.2.2 q h
      · exact hA1 _ (hL q h)⟩ T' rfl X'
  exact ⟨t2, st t2 a1, b1⟩
end SC
theorem sm_good {q : sm_M × Nat} (hq : q ∈ sm_T) : GoodIn sm_f (Cond.code q.1.1 q.1.2.1 q.1.2.2.1 q.1.2.2.2.1 :: sm_gw) := by
  intro w hw
  rcases List.mem_cons.mp hw with rfl | hw
  · exact ⟨sm_ff (sm_T_ok q hq).1 rfl, good_of_word rfl⟩
  · exact ⟨sm_ff (List.mem_filter.mp hw).1 (by rw [(List.mem_filter.mp hw).2]; rfl), good_of_word (List.mem_filter.mp hw).2⟩
/-- what is claimed of a method on arguments and a heap -/
def sm_Met (l : Launch) (d : Nat) (stat : Bool) (y : MethodName) (as : List Value) (h : List sm_C) (v : Option Value) (h1 : List sm_C) : Prop :=
  ∃ q ∈ sm_T, q.1.1 = y ∧ q.1.2.2.2.2 = stat ∧ as.length = (if stat then q.2 else q.2 + 1) ∧ ∀ (G : va_G) (cI cQ : ClassId) (ad : Nat → Nat) (sz : Nat),
    Met l y (Cond.code y q.1.2.1 q.1.2.2.1 q.1.2.2.2.1 :: sm_gw) (sm_rm d) (sm_Pc G cI cQ ad as h sz) (sm_Qc G cI cQ ad h v h1 sz) 0 0 (va_A (sm_w cI cQ ad h) sz)
section SV
variable {p : Program} {l : Launch} {e : Env} {R : Room} {s : State} {m : MethodId} {args : Array Value} {below : List Frame} {meth : Method} {c : Code} {G : va_G} {cI cQ : ClassId} {ad : Nat → Nat} {nL : Nat} {A : Nat → Prop} {H0 : Heap} {cells slots : Nat} {Q : State → Prop} {free : Nat → Prop} {b : ByteArray} {own : String}
theorem sm_callV {d : Nat} (hx : p.tables.exec = Jvm.exec) (hb : c.code = b) (hml : c.maxLocals = nL) (hown : s.vm.findClass own = some m.cls) (hts : ∀ w ∈ sm_f, w.before args s = true) (hK : va_K G vwCl (sm_tys cI cQ) s) (hN : sm_N s) (hA : ∀ q, H0.size ≤ q → A q) (hfr : d + 1 ≤ R.frames) (hlo : 38 * d + 38 ≤ R.locals) (hcc : cells ≤ R.cells) (hss : slots ≤ R.slots) {pc i a ci : Nat} {ls : Array Slot} {st : List Value} {h h1 : List sm_C} {H : Heap} {locs : List Loc} {fs as : List Value} {y : MethodName} {v : Option Value}
    (hd : decode b pc = .ok (.invokevirtual i, 3)) (hk : sm_L own i y) (hh : h[a]? = some (hO ci fs)) (hc : (vwCl[ci]?).map (fun q => q.1) = some y.cls) (hst : (st.map fun v => v.category).sum ≤ 8) (hM : sm_Met l d false y (.ref a :: as) h v h1)
    (hP : va_P G vwCl (sm_w cI cQ ad h) H) (hD : va_D A (sm_w cI cQ ad h)) (hS : va_S A H0 H locs) (hsz : ls.size = nL)
    (k : ∀ (H1 : Heap) (locs1 : List Loc), va_P G vwCl (sm_w cI cQ ad h1) H1 → va_D A (sm_w cI cQ ad h1) → va_S A H0 H1 locs1 → W p l e R s m args below meth c H1 locs1 cells slots Q (F0 m (pc + 3) ls ((v.map (sm_c ad)).toList ++ st.map (sm_c ad)))) : W p l e R s m args below meth c H locs cells slots Q (F0 m pc ls ((as.reverse ++ .ref a :: st).map (sm_c ad))) := by
  obtain ⟨q, hq, rfl, hstat, hlen, hM⟩ := hM
  have hok := sm_T_ok q hq
  obtain ⟨o1, o2, o3, o4, o5, o6, o7⟩ := hok
  have hins : Cond.instanceMethod q.1.1 ∈ lw_tbl ∧ Cond.selects q.1.1.cls q.1.1 q.1.1 ∈ lw_tbl := by
    rcases o3 with ⟨z, -⟩ | ⟨-, z⟩
    · rw [hstat] at z; cases z
    · exact z
  have hM := hM G cI cQ ad H.size
  have hrecv : ∃ cell : Cell, H[ad a]? = some cell ∧ cell.vm.isStatics = false ∧ s.vm.findClass q.1.1.cls = some cell.cls := by
    cases hci : vwCl[ci]? with
    | none => rw [hci] at hc; cases hc
    | some r =>
      rw [hci] at hc
      have hr : r.1 = q.1.1.cls := Option.some.inj hc
      rw [← hr]
      exact va_recv hK hP hci (sm_wo hh)
  have hpv : PreV s H q.1.1.cls (ad a) (sm_Pc G cI cQ ad (.ref a :: as) h H.size) (as.map (sm_c ad)) := ⟨sm_blind, hrecv, sm_pre (as := .ref a :: as) hP hK hD hN⟩
  have hlen2 : (as.map (sm_c ad)).length = q.2 := by
    simp only [List.length_cons, Bool.false_eq_true, if_false] at hlen
    rw [List.length_map]; omega
  have hst2 : (as.reverse ++ .ref a :: st).map (sm_c ad) = (as.map (sm_c ad)).reverse ++ .ref (ad a) :: st.map (sm_c ad) := by
    rw [List.map_append, List.map_reverse]; rfl
  have hroom : (sm_rm d).frames + 1 ≤ R.frames ∧ 8 + (q.1.2.2.1 + 11) + (sm_rm d).locals ≤ R.locals := ⟨hfr, by show 8 + (q.1.2.2.1 + 11) + 38 * d ≤ R.locals; omega⟩
  rw [hst2]
  refine sm_call (st0 := (as.map (sm_c ad)).reverse ++ .ref (ad a) :: st.map (sm_c ad)) (rest := st.map (sm_c ad)) (v := v) (a := (Value.ref (ad a) :: as.map (sm_c ad)).toArray) ?_ hD hS hA k
  rcases hk with hk | hk
  · exact va_runV (Ts := sm_f) ⟨hx, hb, hml, hown, hts⟩ hM ⟨callB_of (n := q.2) hts (sm_good hq) rfl rfl rfl (hts _ (sm_ff o2 rfl)) (hts _ (sm_ff hk rfl)) ⟨o5.1, o5.2, o7⟩ hroom, hts _ (sm_ff hins.1 rfl), hts _ (sm_ff hins.2 rfl)⟩ hpv rfl hlen2 hsz rfl (lv_room (sm_sum hst)) hd ⟨hcc, hss⟩
  · exact va_runVN (Ts := sm_f) ⟨hx, hb, hml, hown, hts⟩ hM ⟨va_cnB (Ts := sm_f) (n := q.2) hts (sm_good hq) rfl rfl rfl (hN _ hk rfl) (hts _ (sm_ff o2 rfl)) ⟨o5.1, o5.2, o7⟩ hroom, hts _ (sm_ff hins.1 rfl), hts _ (sm_ff hins.2 rfl)⟩ hpv rfl hlen2 hsz rfl (lv_room (sm_sum hst)) hd ⟨hcc, hss⟩
theorem sm_callS {d : Nat} (hx : p.tables.exec = Jvm.exec) (hb : c.code = b) (hml : c.maxLocals = nL) (hown : s.vm.findClass own = some m.cls) (hts : ∀ w ∈ sm_f, w.before args s = true) (hK : va_K G vwCl (sm_tys cI cQ) s) (hN : sm_N s) (hA : ∀ q, H0.size ≤ q → A q) (hfr : d + 1 ≤ R.frames) (hlo : 38 * d + 38 ≤ R.locals) (hcc : cells ≤ R.cells) (hss : slots ≤ R.slots) {pc i : Nat} {ls : Array Slot} {st : List Value} {h h1 : List sm_C} {H : Heap} {locs : List Loc} {as : List Value} {y : MethodName} {v : Option Value}
    (hd : decode b pc = .ok (.invokestatic i, 3)) (hk : sm_L own i y) (hst : (st.map fun v => v.category).sum ≤ 8) (hM : sm_Met l d true y as h v h1)
    (hP : va_P G vwCl (sm_w cI cQ ad h) H) (hD : va_D A (sm_w cI cQ ad h)) (hS : va_S A H0 H locs) (hsz : ls.size = nL)
    (k : ∀ (H1 : Heap) (locs1 : List Loc), va_P G vwCl (sm_w cI cQ ad h1) H1 → va_D A (sm_w cI cQ ad h1) → va_S A H0 H1 locs1 → W p l e R s m args below meth c H1 locs1 cells slots Q (F0 m (pc + 3) ls ((v.map (sm_c ad)).toList ++ st.map (sm_c ad)))) : W p l e R s m args below meth c H locs cells slots Q (F0 m pc ls ((as.reverse ++ st).map (sm_c ad))) := by
  obtain ⟨q, hq, rfl, hstat, hlen, hM⟩ := hM
  have hok := sm_T_ok q hq
  obtain ⟨o1, o2, o3, o4, o5, o6, o7⟩ := hok
  have hins : Cond.static q.1.1 ∈ lw_tbl := by
    rcases o3 with ⟨-, z⟩ | ⟨z, -⟩
    · exact z
    · rw [hstat] at z; cases z
  have hM := hM G cI cQ ad H.size
  have hpv : PreS s H (sm_Pc G cI cQ ad as h H.size) (as.map (sm_c ad)) := ⟨sm_blind, sm_pre (as := as) hP hK hD hN⟩
  have hlen2 : (as.map (sm_c ad)).length = q.2 := by
    simp only [if_true] at hlen
    rw [List.length_map]; omega
  have hst2 : (as.reverse ++ st).map (sm_c ad) = (as.map (sm_c ad)).reverse ++ st.map (sm_c ad) := by
    rw [List.map_append, List.map_reverse]
  have hroom : (sm_rm d).frames + 1 ≤ R.frames ∧ 8 + (q.1.2.2.1 + 11) + (sm_rm d).locals ≤ R.locals := ⟨hfr, by show 8 + (q.1.2.2.1 + 11) + 38 * d ≤ R.locals; omega⟩
  rw [hst2]
  refine sm_call (st0 := (as.map (sm_c ad)).reverse ++ st.map (sm_c ad)) (rest := st.map (sm_c ad)) (v := v) (a := (as.map (sm_c ad)).toArray) ?_ hD hS hA k
  rcases hk with hk | hk
  · exact va_runS (Ts := sm_f) ⟨hx, hb, hml, hown, hts⟩ hM ⟨callB_of (n := q.2) hts (sm_good hq) rfl rfl rfl (hts _ (sm_ff o2 rfl)) (hts _ (sm_ff hk rfl)) ⟨o5.1, o5.2, o7⟩ hroom, hts _ (sm_ff hins rfl)⟩ hpv rfl hlen2 hsz rfl (lv_room (sm_sum hst)) hd ⟨hcc, hss⟩
  · exact va_runSN (Ts := sm_f) ⟨hx, hb, hml, hown, hts⟩ hM ⟨va_cnB (Ts := sm_f) (n := q.2) hts (sm_good hq) rfl rfl rfl (hN _ hk rfl) (hts _ (sm_ff o2 rfl)) ⟨o5.1, o5.2, o7⟩ hroom, hts _ (sm_ff hins rfl), trivial⟩ hpv rfl hlen2 hsz rfl (lv_room (sm_sum hst)) hd ⟨hcc, hss⟩
end SV
set_option maxHeartbeats 4000000 in
/-- THE CONTRACT: what a walk says, the machine does -/
theorem bs_met (l : Launch) : ∀ (d : Nat) (stat : Bool) (y : MethodName) (as : List Value) (h : List sm_C) (v : Option Value) (h1 : List sm_C), BS d stat y as h v h1 → sm_Met l d stat y as h v h1
  | 0, _, _, _, _, _, _, hB => hB.elim
  | d + 1, stat, y, as, h, v, h1, hB => by
    obtain ⟨q, hq, rfl, hstat, hlen, hen, hw⟩ := hB
    have hok := sm_T_ok q hq
    obtain ⟨o1, o2, o3, o4, o5, o6, o7⟩ := hok
    refine ⟨q, hq, rfl, hstat, hlen, fun G cI cQ ad sz => ?_⟩
    refine Met.ofW (cc := q.1.2.1) (maxL := q.1.2.2.1) (ret := q.1.2.2.2.1) o4 rfl ?_
    intro p e s m args below meth c s₁ B hml hv
    obtain ⟨rfl, hsz, hP, hK, hD0, hN⟩ := hv
    have hx := B.exec
    have hb := B.bytes
    have hr := B.returns
    have hts0 := atoms_spec (ws := Cond.code q.1.1 q.1.2.1 q.1.2.2.1 q.1.2.2.2.1 :: sm_gw) B.pre
    have hts := sm_all (fun w hw hg => hts0 w (List.mem_cons_of_mem _ (List.mem_filter.mpr ⟨hw, hg⟩))) hN
    have hown : s.vm.findClass q.1.1.cls = some m.cls := findClass_of_methodNamed B.named
    have hlocks := B.notSynchronized
    subst hsz
    have hD := hD0.self (sz := s.heap.size)
    have hA : ∀ q' : Nat, s.heap.size ≤ q' → va_A (sm_w cI cQ ad h) s.heap.size q' := fun q' h => Or.inr h
    have hen2 := sm_entry (ad := ad) hen
    rw [lg_entry_eq]
    generalize hls : (lg_sl (as.map (sm_c ad)) ++ List.replicate (q.1.2.2.1 - (lg_sl (as.map (sm_c ad))).length) Slot.unset).toArray = ls at hen2 ⊢
    have KK := hw (sm_AW p l e (headSpec (Cond.code q.1.1 q.1.2.1 q.1.2.2.1 q.1.2.2.2.1 :: sm_gw) (sm_rm (d + 1))).room s m (as.map (sm_c ad)).toArray below meth c G cI cQ ad q.1.2.2.1 (va_A (sm_w cI cQ ad h) s.heap.size) s.heap 0 0 (MQ below (sm_Qc G cI cQ ad h v h1 s.heap.size) (as.map (sm_c ad)).toArray s 0 0 (va_A (sm_w cI cQ ad h) s.heap.size)) (va_A (sm_w cI cQ ad h) s.heap.size))
      (so_R hx hb hml hown hts hK (Nat.le_add_left 1 d) (by show 38 ≤ 38 * (d + 1); omega) (Nat.zero_le _) (Nat.zero_le _)) ?_ ?_ ?_
    · exact KK s.heap [] ls hP hD va_S.rf hen2.1 hen2.2
    · intro pc L st hh0 i a ci fs y2 as2 v2 h2 hd hk hh hc hst hS k H locs ls hP hD hS0 hl hn
      exact sm_callV hx hb hml hown hts hK hN hA (Nat.le_refl _) (by show 38 * d + 38 ≤ 38 * (d + 1); omega) (Nat.zero_le _) (Nat.zero_le _) hd hk hh hc hst (bs_met l d _ _ _ _ _ _ hS) hP hD hS0 hl.1
        (fun H1 locs1 hP1 hD1 hS1 => by
          have k1 := k H1 locs1 ls hP1 hD1 hS1 hl hn
          rw [List.map_append, show v2.toList.map (sm_c ad) = (v2.map (sm_c ad)).toList by cases v2 <;> rfl] at k1
          exact k1)
    · intro pc L st hh0 i y2 as2 v2 h2 hd hk hst hS k H locs ls hP hD hS0 hl hn
      exact sm_callS hx hb hml hown hts hK hN hA (Nat.le_refl _) (by show 38 * d + 38 ≤ 38 * (d + 1); omega) (Nat.zero_le _) (Nat.zero_le _) hd hk hst (bs_met l d _ _ _ _ _ _ hS) hP hD hS0 hl.1
        (fun H1 locs1 hP1 hD1 hS1 => by
          have k1 := k H1 locs1 ls hP1 hD1 hS1 hl hn
          rw [List.map_append, show v2.toList.map (sm_c ad) = (v2.map (sm_c ad)).toList by cases v2 <;> rfl] at k1
          exact k1)
    · refine ⟨?_, ?_, ?_⟩
      · intro pc L x ty hd hr2 hn hv H locs ls hP hD hS0 hl hn2
        subst hv
        exact W.zret hx hb (hr.trans hr2) hn (fun t ht hW => ⟨⟨rfl, by rw [ht]; exact hP, va_K.moved hW.alike hK, hD⟩, hS0.F ht⟩) hS0.2.2 hd
      · intro pc L hd hr2 hv H locs ls hP hD hS0 hl hn2
        subst hv
        exact W.vret hx hb (hr.trans hr2) (fun t ht hW => ⟨⟨rfl, by rw [ht]; exact hP, va_K.moved hW.alike hK, hD⟩, hS0.F ht⟩) hS0.2.2 hd
      · intro pc L w C hd hr2 hw9 hv H locs ls hP hD hS0 hl hn2
        subst hv
        exact W.aret hx hb (hr.trans hr2) (Or.inl ⟨C, rfl⟩) (by rcases hw9 with rfl | ⟨a, rfl⟩; exact Or.inl rfl; exact Or.inr ⟨ad a, rfl⟩) (fun t ht hW => ⟨⟨rfl, by rw [ht]; exact hP, va_K.moved hW.alike hK, hD⟩, hS0.F ht⟩) hS0.2.2 hd
