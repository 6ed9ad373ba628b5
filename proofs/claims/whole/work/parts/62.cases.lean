/-! THE LAW'S CASES: one call of each object, the same answer -/
theorem ln_1 : Int32.ofInt 1 = nI 1 := by decide
theorem ln_2 : Int32.ofInt 2 = nI 2 := by decide
theorem ln_3 : Int32.ofInt 3 = nI 3 := by decide
theorem ln_4 : Int32.ofInt 4 = nI 4 := by decide
theorem ln_5 : Int32.ofInt 5 = nI 5 := by decide
def lw_F (p : Program) (s : State) (m : MethodId) (meth : Method) (c : Code) (G : va_G) (cI cQ : ClassId) (b L : Nat) (xs : Nat → Int32) : Prop := p.tables.exec = Jvm.exec ∧ c.code = code ∧ c.maxLocals = 4 ∧ s.vm.findClass RL = some m.cls ∧ (∀ w ∈ lw_tbl, w.before #[Value.ref b] s = true) ∧ va_K G vwCl (sm_tys cI cQ) s ∧ va_X b L xs s s.heap ∧ b < s.heap.size ∧ L ≤ 3072
def lw_I (G : va_G) (cI cQ : ClassId) (s : State) (H : Heap) (locs : List Loc) (adx adm : Nat → Nat) (hx hm : List sm_C) : Prop := INV hx hm ∧ va_P G vwCl (sm_w cI cQ adx hx) H ∧ va_P G vwCl (sm_w cI cQ adm hm) H ∧ va_D (fun q : Nat => s.heap.size ≤ q) (sm_w cI cQ adx hx) ∧ va_D (fun q : Nat => s.heap.size ≤ q) (sm_w cI cQ adm hm) ∧ ap (sm_w cI cQ adx hx) (sm_w cI cQ adm hm) ∧ va_S (fun q : Nat => s.heap.size ≤ q) s.heap H locs
/-- what is left behind a case -/
def lw_KK (p : Program) (l : Launch) (e : Env) (s : State) (m : MethodId) (below : List Frame) (meth : Method) (c : Code) (G : va_G) (cI cQ : ClassId) (b : Nat) (adx adm : Nat → Nat) (ls : Array Slot) (Q : State → Prop) : Prop := ∀ (H : Heap) (locs : List Loc) (hx hm : List sm_C), lw_I G cI cQ s H locs adx adm hx hm → W p l e room_1 s m #[Value.ref b] below meth c H locs 39 3030 Q (F0 m 1202 ls [])
theorem inv_x {hx hm : List sm_C} (h : INV hx hm) : ∃ fs, hx[0]? = some (hO 7 fs) := by
  obtain ⟨im, n, f, se, n2, f2, se2, m, x, tb, n3, F, g1, g2, ln, mm, ft, at_, sz, rd, a, th, zf, lf, ims, D, t, w, y, nw, wo, co, nw2, wo2, co2, rfl, -⟩ := h
  exact ⟨_, rfl⟩
theorem inv_m {hx hm : List sm_C} (h : INV hx hm) : ∃ fs, hm[0]? = some (hO 8 fs) := by
  obtain ⟨im, n, f, se, n2, f2, se2, m, x, tb, n3, F, g1, g2, ln, mm, ft, at_, sz, rd, a, th, zf, lf, ims, D, t, w, y, nw, wo, co, nw2, wo2, co2, -, rfl, -⟩ := h
  exact ⟨_, rfl⟩
/-- an int of the script, kk behind i -/
theorem lw_arg {p : Program} {l : Launch} {e : Env} {s : State} {m : MethodId} {below : List Frame} {meth : Method} {c : Code} {G : va_G} {cI cQ : ClassId} {b L : Nat} {xs : Nat → Int32} {Q : State → Prop} (F : lw_F p s m meth c G cI cQ b L xs) {H : Heap} {locs : List Loc} (hS : va_S (fun q : Nat => s.heap.size ≤ q) s.heap H locs) {i kk qx qm pc cells slots : Nat} (hi : i + kk < L) {n : Int} {ls : Array Slot} {st : List Value}
    (d0 : decode code pc = .ok (.aload_n 0, 1)) (d1 : decode code (pc + 1) = .ok (.iload_n 3, 1)) (d2 : decode code (pc + 2) = .ok (.iconst n, 1)) (d3 : decode code (pc + 3) = .ok (.iadd, 1)) (d4 : decode code (pc + 4) = .ok (.iaload, 1)) (hn : Int32.ofInt n = nI kk) (hl : lv_has ls 4 [(0, .ref b), (1, .ref qx), (2, .ref qm), (3, .int (nI i))])
    (k : W p l e room_1 s m #[Value.ref b] below meth c H locs cells slots Q (F0 m (pc + 5) ls (.int (xs (i + kk)) :: st))) : W p l e room_1 s m #[Value.ref b] below meth c H locs cells slots Q (F0 m pc ls st) := by
  obtain ⟨hx, hb, hml, hown, hts, hK, hX, hbl, hL⟩ := F
  have hbA : ¬ (fun q : Nat => s.heap.size ≤ q) b := Nat.not_le.mpr hbl
  refine lv_aload_n hx hb d0 rfl (lv_at hl 0 rfl) ?_
  refine lv_iload_n hx hb d1 rfl (lv_at hl 3 rfl) ?_
  refine lv_iconst (v := nI kk) hx hb d2 hn ?_
  refine lv_iadd hx hb d3 ?_
  rw [nI_add]
  refine va_sld hx hb hX hbl hbA hS (vp_in_nI hi (by omega)) d4 ?_
  rw [nI_clamp (by omega)]
  exact k
theorem lwc_0 {p : Program} {l : Launch} {e : Env} {s : State} {m : MethodId} {below : List Frame} {meth : Method} {c : Code} {G : va_G} {cI cQ : ClassId} {b L : Nat} {xs : Nat → Int32} {Q : State → Prop} (F : lw_F p s m meth c G cI cQ b L xs) {H : Heap} {locs : List Loc} {adx adm : Nat → Nat} {hx0 hm0 : List sm_C} (I : lw_I G cI cQ s H locs adx adm hx0 hm0) {i : Nat} (hi : i + 6 ≤ L) {ls : Array Slot} (hl : lv_has ls 4 [(0, .ref b), (1, .ref (adx 0)), (2, .ref (adm 0)), (3, .int (nI i))])
    (k : lw_KK p l e s m below meth c G cI cQ b adx adm ls Q) : W p l e room_1 s m #[Value.ref b] below meth c H locs 39 3030 Q (F0 m 176 ls []) := by
  obtain ⟨hx, hb, hml, hown, hts, hK, hX, hbl, hL⟩ := id F
  obtain ⟨hI, hPx, hPm, hDx, hDm, hap, hS⟩ := I
  have hA : ∀ q : Nat, s.heap.size ≤ q → (fun q : Nat => s.heap.size ≤ q) q := fun _ h => h
  have J : JO yX7_day yX8_day [.int (xs (i + 1)), .int (xs (i + 2)), .int (xs (i + 3))] hx0 hm0 := jo_day hI
  obtain ⟨fx, hhx⟩ := inv_x hI
  obtain ⟨fm, hhm⟩ := inv_m hI
  obtain ⟨r, hx1, hm1, B1, B2, hI1⟩ := J
  refine lv_aload_n hx hb dL_law_176 rfl (lv_at hl 1 rfl) ?_
  refine lw_arg (kk := 1) F hS (hi := (by omega)) dL_law_177 dL_law_178 dL_law_179 dL_law_180 dL_law_181 ln_1 hl ?_
  refine lw_arg (kk := 2) F hS (hi := (by omega)) dL_law_182 dL_law_183 dL_law_184 dL_law_185 dL_law_186 ln_2 hl ?_
  refine lw_arg (kk := 3) F hS (hi := (by omega)) dL_law_187 dL_law_188 dL_law_189 dL_law_190 dL_law_191 ln_3 hl ?_
  refine lw_callV (d := 8) (ci := 7) (as := [.int (xs (i + 1)), .int (xs (i + 2)), .int (xs (i + 3))]) (st := []) hx hb hml hown hts hK hA (Nat.le_of_ble_eq_true rfl) (Nat.le_of_ble_eq_true rfl) (Nat.le_of_ble_eq_true rfl) (Nat.le_of_ble_eq_true rfl) dL_law_192 lkL_13 hhx rfl (Nat.le_of_ble_eq_true rfl) B1 rfl rfl hPx hDx hPm hap hS hl.1 (fun H locs hPx hDx hPm hap hS => ?_)
  refine lv_aload_n hx hb dL_law_195 rfl (lv_at hl 2 rfl) ?_
  refine lw_arg (kk := 1) F hS (hi := (by omega)) dL_law_196 dL_law_197 dL_law_198 dL_law_199 dL_law_200 ln_1 hl ?_
  refine lw_arg (kk := 2) F hS (hi := (by omega)) dL_law_201 dL_law_202 dL_law_203 dL_law_204 dL_law_205 ln_2 hl ?_
  refine lw_arg (kk := 3) F hS (hi := (by omega)) dL_law_206 dL_law_207 dL_law_208 dL_law_209 dL_law_210 ln_3 hl ?_
  refine lw_callV (d := 8) (ci := 8) (as := [.int (xs (i + 1)), .int (xs (i + 2)), .int (xs (i + 3))]) (st := [.int r]) hx hb hml hown hts hK hA (Nat.le_of_ble_eq_true rfl) (Nat.le_of_ble_eq_true rfl) (Nat.le_of_ble_eq_true rfl) (Nat.le_of_ble_eq_true rfl) dL_law_211 lkL_17 hhm rfl (Nat.le_of_ble_eq_true rfl) B2 rfl rfl hPm hDm hPx hap.symm hS hl.1 (fun H locs hPm hDm hPx hap hS => ?_)
  refine lv_icmp_eq (tgt := 1202) hx hb dL_law_214 rfl (fun _ => ?_) (fun c9 => absurd rfl c9)
  exact k _ _ _ _ ⟨hI1, hPx, hPm, hDx, hDm, hap.symm, hS⟩
theorem lwc_1 {p : Program} {l : Launch} {e : Env} {s : State} {m : MethodId} {below : List Frame} {meth : Method} {c : Code} {G : va_G} {cI cQ : ClassId} {b L : Nat} {xs : Nat → Int32} {Q : State → Prop} (F : lw_F p s m meth c G cI cQ b L xs) {H : Heap} {locs : List Loc} {adx adm : Nat → Nat} {hx0 hm0 : List sm_C} (I : lw_I G cI cQ s H locs adx adm hx0 hm0) {i : Nat} (hi : i + 6 ≤ L) {ls : Array Slot} (hl : lv_has ls 4 [(0, .ref b), (1, .ref (adx 0)), (2, .ref (adm 0)), (3, .int (nI i))])
    (k : lw_KK p l e s m below meth c G cI cQ b adx adm ls Q) : W p l e room_1 s m #[Value.ref b] below meth c H locs 39 3030 Q (F0 m 219 ls []) := by
  obtain ⟨hx, hb, hml, hown, hts, hK, hX, hbl, hL⟩ := id F
  obtain ⟨hI, hPx, hPm, hDx, hDm, hap, hS⟩ := I
  have hA : ∀ q : Nat, s.heap.size ≤ q → (fun q : Nat => s.heap.size ≤ q) q := fun _ h => h
  have J : JO yX7_alter yX8_alter [.int (xs (i + 1)), .int (xs (i + 2)), .int (xs (i + 3))] hx0 hm0 := jo_alter hI
  obtain ⟨fx, hhx⟩ := inv_x hI
  obtain ⟨fm, hhm⟩ := inv_m hI
  obtain ⟨r, hx1, hm1, B1, B2, hI1⟩ := J
  refine lv_aload_n hx hb dL_law_219 rfl (lv_at hl 1 rfl) ?_
  refine lw_arg (kk := 1) F hS (hi := (by omega)) dL_law_220 dL_law_221 dL_law_222 dL_law_223 dL_law_224 ln_1 hl ?_
  refine lw_arg (kk := 2) F hS (hi := (by omega)) dL_law_225 dL_law_226 dL_law_227 dL_law_228 dL_law_229 ln_2 hl ?_
  refine lw_arg (kk := 3) F hS (hi := (by omega)) dL_law_230 dL_law_231 dL_law_232 dL_law_233 dL_law_234 ln_3 hl ?_
  refine lw_callV (d := 8) (ci := 7) (as := [.int (xs (i + 1)), .int (xs (i + 2)), .int (xs (i + 3))]) (st := []) hx hb hml hown hts hK hA (Nat.le_of_ble_eq_true rfl) (Nat.le_of_ble_eq_true rfl) (Nat.le_of_ble_eq_true rfl) (Nat.le_of_ble_eq_true rfl) dL_law_235 lkL_18 hhx rfl (Nat.le_of_ble_eq_true rfl) B1 rfl rfl hPx hDx hPm hap hS hl.1 (fun H locs hPx hDx hPm hap hS => ?_)
  refine lv_aload_n hx hb dL_law_238 rfl (lv_at hl 2 rfl) ?_
  refine lw_arg (kk := 1) F hS (hi := (by omega)) dL_law_239 dL_law_240 dL_law_241 dL_law_242 dL_law_243 ln_1 hl ?_
  refine lw_arg (kk := 2) F hS (hi := (by omega)) dL_law_244 dL_law_245 dL_law_246 dL_law_247 dL_law_248 ln_2 hl ?_
  refine lw_arg (kk := 3) F hS (hi := (by omega)) dL_law_249 dL_law_250 dL_law_251 dL_law_252 dL_law_253 ln_3 hl ?_
  refine lw_callV (d := 8) (ci := 8) (as := [.int (xs (i + 1)), .int (xs (i + 2)), .int (xs (i + 3))]) (st := [.int r]) hx hb hml hown hts hK hA (Nat.le_of_ble_eq_true rfl) (Nat.le_of_ble_eq_true rfl) (Nat.le_of_ble_eq_true rfl) (Nat.le_of_ble_eq_true rfl) dL_law_254 lkL_21 hhm rfl (Nat.le_of_ble_eq_true rfl) B2 rfl rfl hPm hDm hPx hap.symm hS hl.1 (fun H locs hPm hDm hPx hap hS => ?_)
  refine lv_icmp_eq (tgt := 1202) hx hb dL_law_257 rfl (fun _ => ?_) (fun c9 => absurd rfl c9)
  exact k _ _ _ _ ⟨hI1, hPx, hPm, hDx, hDm, hap.symm, hS⟩
theorem lwc_2 {p : Program} {l : Launch} {e : Env} {s : State} {m : MethodId} {below : List Frame} {meth : Method} {c : Code} {G : va_G} {cI cQ : ClassId} {b L : Nat} {xs : Nat → Int32} {Q : State → Prop} (F : lw_F p s m meth c G cI cQ b L xs) {H : Heap} {locs : List Loc} {adx adm : Nat → Nat} {hx0 hm0 : List sm_C} (I : lw_I G cI cQ s H locs adx adm hx0 hm0) {i : Nat} (hi : i + 6 ≤ L) {ls : Array Slot} (hl : lv_has ls 4 [(0, .ref b), (1, .ref (adx 0)), (2, .ref (adm 0)), (3, .int (nI i))])
    (k : lw_KK p l e s m below meth c G cI cQ b adx adm ls Q) : W p l e room_1 s m #[Value.ref b] below meth c H locs 39 3030 Q (F0 m 262 ls []) := by
  obtain ⟨hx, hb, hml, hown, hts, hK, hX, hbl, hL⟩ := id F
  obtain ⟨hI, hPx, hPm, hDx, hDm, hap, hS⟩ := I
  have hA : ∀ q : Nat, s.heap.size ≤ q → (fun q : Nat => s.heap.size ≤ q) q := fun _ h => h
  have J : JO yX7_told yX8_told [.int (xs (i + 1)), .int (xs (i + 2))] hx0 hm0 := jo_told hI
  obtain ⟨fx, hhx⟩ := inv_x hI
  obtain ⟨fm, hhm⟩ := inv_m hI
  obtain ⟨r, hx1, hm1, B1, B2, hI1⟩ := J
  refine lv_aload_n hx hb dL_law_262 rfl (lv_at hl 1 rfl) ?_
  refine lw_arg (kk := 1) F hS (hi := (by omega)) dL_law_263 dL_law_264 dL_law_265 dL_law_266 dL_law_267 ln_1 hl ?_
  refine lw_arg (kk := 2) F hS (hi := (by omega)) dL_law_268 dL_law_269 dL_law_270 dL_law_271 dL_law_272 ln_2 hl ?_
  refine lw_callV (d := 8) (ci := 7) (as := [.int (xs (i + 1)), .int (xs (i + 2))]) (st := []) hx hb hml hown hts hK hA (Nat.le_of_ble_eq_true rfl) (Nat.le_of_ble_eq_true rfl) (Nat.le_of_ble_eq_true rfl) (Nat.le_of_ble_eq_true rfl) dL_law_273 lkL_22 hhx rfl (Nat.le_of_ble_eq_true rfl) B1 rfl rfl hPx hDx hPm hap hS hl.1 (fun H locs hPx hDx hPm hap hS => ?_)
  refine lv_aload_n hx hb dL_law_276 rfl (lv_at hl 2 rfl) ?_
  refine lw_arg (kk := 1) F hS (hi := (by omega)) dL_law_277 dL_law_278 dL_law_279 dL_law_280 dL_law_281 ln_1 hl ?_
  refine lw_arg (kk := 2) F hS (hi := (by omega)) dL_law_282 dL_law_283 dL_law_284 dL_law_285 dL_law_286 ln_2 hl ?_
  refine lw_callV (d := 8) (ci := 8) (as := [.int (xs (i + 1)), .int (xs (i + 2))]) (st := [.int r]) hx hb hml hown hts hK hA (Nat.le_of_ble_eq_true rfl) (Nat.le_of_ble_eq_true rfl) (Nat.le_of_ble_eq_true rfl) (Nat.le_of_ble_eq_true rfl) dL_law_287 lkL_26 hhm rfl (Nat.le_of_ble_eq_true rfl) B2 rfl rfl hPm hDm hPx hap.symm hS hl.1 (fun H locs hPm hDm hPx hap hS => ?_)
  refine lv_icmp_eq (tgt := 1202) hx hb dL_law_290 rfl (fun _ => ?_) (fun c9 => absurd rfl c9)
  exact k _ _ _ _ ⟨hI1, hPx, hPm, hDx, hDm, hap.symm, hS⟩
theorem lwc_3 {p : Program} {l : Launch} {e : Env} {s : State} {m : MethodId} {below : List Frame} {meth : Method} {c : Code} {G : va_G} {cI cQ : ClassId} {b L : Nat} {xs : Nat → Int32} {Q : State → Prop} (F : lw_F p s m meth c G cI cQ b L xs) {H : Heap} {locs : List Loc} {adx adm : Nat → Nat} {hx0 hm0 : List sm_C} (I : lw_I G cI cQ s H locs adx adm hx0 hm0) {i : Nat} (hi : i + 6 ≤ L) {ls : Array Slot} (hl : lv_has ls 4 [(0, .ref b), (1, .ref (adx 0)), (2, .ref (adm 0)), (3, .int (nI i))])
    (k : lw_KK p l e s m below meth c G cI cQ b adx adm ls Q) : W p l e room_1 s m #[Value.ref b] below meth c H locs 39 3030 Q (F0 m 295 ls []) := by
  obtain ⟨hx, hb, hml, hown, hts, hK, hX, hbl, hL⟩ := id F
  obtain ⟨hI, hPx, hPm, hDx, hDm, hap, hS⟩ := I
  have hA : ∀ q : Nat, s.heap.size ≤ q → (fun q : Nat => s.heap.size ≤ q) q := fun _ h => h
  have J : JO yX7_strike yX8_strike [] hx0 hm0 := jo_strike hI
  obtain ⟨fx, hhx⟩ := inv_x hI
  obtain ⟨fm, hhm⟩ := inv_m hI
  obtain ⟨r, hx1, hm1, B1, B2, hI1⟩ := J
  refine lv_aload_n hx hb dL_law_295 rfl (lv_at hl 1 rfl) ?_
  refine lw_callV (d := 8) (ci := 7) (as := []) (st := []) hx hb hml hown hts hK hA (Nat.le_of_ble_eq_true rfl) (Nat.le_of_ble_eq_true rfl) (Nat.le_of_ble_eq_true rfl) (Nat.le_of_ble_eq_true rfl) dL_law_296 lkL_27 hhx rfl (Nat.le_of_ble_eq_true rfl) B1 rfl rfl hPx hDx hPm hap hS hl.1 (fun H locs hPx hDx hPm hap hS => ?_)
  refine lv_aload_n hx hb dL_law_299 rfl (lv_at hl 2 rfl) ?_
  refine lw_callV (d := 8) (ci := 8) (as := []) (st := [.int r]) hx hb hml hown hts hK hA (Nat.le_of_ble_eq_true rfl) (Nat.le_of_ble_eq_true rfl) (Nat.le_of_ble_eq_true rfl) (Nat.le_of_ble_eq_true rfl) dL_law_300 lkL_31 hhm rfl (Nat.le_of_ble_eq_true rfl) B2 rfl rfl hPm hDm hPx hap.symm hS hl.1 (fun H locs hPm hDm hPx hap hS => ?_)
  refine lv_icmp_eq (tgt := 1202) hx hb dL_law_303 rfl (fun _ => ?_) (fun c9 => absurd rfl c9)
  exact k _ _ _ _ ⟨hI1, hPx, hPm, hDx, hDm, hap.symm, hS⟩
theorem lwc_4 {p : Program} {l : Launch} {e : Env} {s : State} {m : MethodId} {below : List Frame} {meth : Method} {c : Code} {G : va_G} {cI cQ : ClassId} {b L : Nat} {xs : Nat → Int32} {Q : State → Prop} (F : lw_F p s m meth c G cI cQ b L xs) {H : Heap} {locs : List Loc} {adx adm : Nat → Nat} {hx0 hm0 : List sm_C} (I : lw_I G cI cQ s H locs adx adm hx0 hm0) {i : Nat} (hi : i + 6 ≤ L) {ls : Array Slot} (hl : lv_has ls 4 [(0, .ref b), (1, .ref (adx 0)), (2, .ref (adm 0)), (3, .int (nI i))])
    (k : lw_KK p l e s m below meth c G cI cQ b adx adm ls Q) : W p l e room_1 s m #[Value.ref b] below meth c H locs 39 3030 Q (F0 m 308 ls []) := by
  obtain ⟨hx, hb, hml, hown, hts, hK, hX, hbl, hL⟩ := id F
  obtain ⟨hI, hPx, hPm, hDx, hDm, hap, hS⟩ := I
  have hA : ∀ q : Nat, s.heap.size ≤ q → (fun q : Nat => s.heap.size ≤ q) q := fun _ h => h
  have J : JO yX7_set yX8_set [.int (xs (i + 1)), .int (xs (i + 2))] hx0 hm0 := jo_set hI
  obtain ⟨fx, hhx⟩ := inv_x hI
  obtain ⟨fm, hhm⟩ := inv_m hI
  obtain ⟨r, hx1, hm1, B1, B2, hI1⟩ := J
  refine lv_aload_n hx hb dL_law_308 rfl (lv_at hl 1 rfl) ?_
  refine lw_arg (kk := 1) F hS (hi := (by omega)) dL_law_309 dL_law_310 dL_law_311 dL_law_312 dL_law_313 ln_1 hl ?_
  refine lw_arg (kk := 2) F hS (hi := (by omega)) dL_law_314 dL_law_315 dL_law_316 dL_law_317 dL_law_318 ln_2 hl ?_
  refine lw_callV (d := 8) (ci := 7) (as := [.int (xs (i + 1)), .int (xs (i + 2))]) (st := []) hx hb hml hown hts hK hA (Nat.le_of_ble_eq_true rfl) (Nat.le_of_ble_eq_true rfl) (Nat.le_of_ble_eq_true rfl) (Nat.le_of_ble_eq_true rfl) dL_law_319 lkL_32 hhx rfl (Nat.le_of_ble_eq_true rfl) B1 rfl rfl hPx hDx hPm hap hS hl.1 (fun H locs hPx hDx hPm hap hS => ?_)
  refine lv_aload_n hx hb dL_law_322 rfl (lv_at hl 2 rfl) ?_
  refine lw_arg (kk := 1) F hS (hi := (by omega)) dL_law_323 dL_law_324 dL_law_325 dL_law_326 dL_law_327 ln_1 hl ?_
  refine lw_arg (kk := 2) F hS (hi := (by omega)) dL_law_328 dL_law_329 dL_law_330 dL_law_331 dL_law_332 ln_2 hl ?_
  refine lw_callV (d := 8) (ci := 8) (as := [.int (xs (i + 1)), .int (xs (i + 2))]) (st := [.int r]) hx hb hml hown hts hK hA (Nat.le_of_ble_eq_true rfl) (Nat.le_of_ble_eq_true rfl) (Nat.le_of_ble_eq_true rfl) (Nat.le_of_ble_eq_true rfl) dL_law_333 lkL_35 hhm rfl (Nat.le_of_ble_eq_true rfl) B2 rfl rfl hPm hDm hPx hap.symm hS hl.1 (fun H locs hPm hDm hPx hap hS => ?_)
  refine lv_icmp_eq (tgt := 1202) hx hb dL_law_336 rfl (fun _ => ?_) (fun c9 => absurd rfl c9)
  exact k _ _ _ _ ⟨hI1, hPx, hPm, hDx, hDm, hap.symm, hS⟩
theorem lwc_5 {p : Program} {l : Launch} {e : Env} {s : State} {m : MethodId} {below : List Frame} {meth : Method} {c : Code} {G : va_G} {cI cQ : ClassId} {b L : Nat} {xs : Nat → Int32} {Q : State → Prop} (F : lw_F p s m meth c G cI cQ b L xs) {H : Heap} {locs : List Loc} {adx adm : Nat → Nat} {hx0 hm0 : List sm_C} (I : lw_I G cI cQ s H locs adx adm hx0 hm0) {i : Nat} (hi : i + 6 ≤ L) {ls : Array Slot} (hl : lv_has ls 4 [(0, .ref b), (1, .ref (adx 0)), (2, .ref (adm 0)), (3, .int (nI i))])
    (k : lw_KK p l e s m below meth c G cI cQ b adx adm ls Q) : W p l e room_1 s m #[Value.ref b] below meth c H locs 39 3030 Q (F0 m 341 ls []) := by
  obtain ⟨hx, hb, hml, hown, hts, hK, hX, hbl, hL⟩ := id F
  obtain ⟨hI, hPx, hPm, hDx, hDm, hap, hS⟩ := I
  have hA : ∀ q : Nat, s.heap.size ≤ q → (fun q : Nat => s.heap.size ≤ q) q := fun _ h => h
  have J : JO yX7_type yX8_type [.long ((((xs (i + 1)).toInt64 <<< ((32 : Int32).toInt64 &&& 63)) ||| ((xs (i + 2)).toInt64 &&& 4294967295))), .int (xs (i + 3))] hx0 hm0 := jo_type hI
  obtain ⟨fx, hhx⟩ := inv_x hI
  obtain ⟨fm, hhm⟩ := inv_m hI
  obtain ⟨r, hx1, hm1, B1, B2, hI1⟩ := J
  refine lv_aload_n hx hb dL_law_341 rfl (lv_at hl 1 rfl) ?_
  refine lw_arg (kk := 1) F hS (hi := (by omega)) dL_law_342 dL_law_343 dL_law_344 dL_law_345 dL_law_346 ln_1 hl ?_
  refine lv_i2l hx hb dL_law_347 rfl ?_
  refine lv_bipush hx hb dL_law_348 bc_32 ?_
  refine lv_lshl hx hb dL_law_350 rfl ?_
  refine lw_arg (kk := 2) F hS (hi := (by omega)) dL_law_351 dL_law_352 dL_law_353 dL_law_354 dL_law_355 ln_2 hl ?_
  refine lv_i2l hx hb dL_law_356 rfl ?_
  refine lv_ldc2 hx hb hown (hts _ kdL_36) dL_law_357 ?_
  refine lv_land hx hb dL_law_360 ?_
  refine lv_lor hx hb dL_law_361 ?_
  refine lw_arg (kk := 3) F hS (hi := (by omega)) dL_law_362 dL_law_363 dL_law_364 dL_law_365 dL_law_366 ln_3 hl ?_
  refine lw_callV (d := 8) (ci := 7) (as := [.long ((((xs (i + 1)).toInt64 <<< ((32 : Int32).toInt64 &&& 63)) ||| ((xs (i + 2)).toInt64 &&& 4294967295))), .int (xs (i + 3))]) (st := []) hx hb hml hown hts hK hA (Nat.le_of_ble_eq_true rfl) (Nat.le_of_ble_eq_true rfl) (Nat.le_of_ble_eq_true rfl) (Nat.le_of_ble_eq_true rfl) dL_law_367 lkL_38 hhx rfl (Nat.le_of_ble_eq_true rfl) B1 rfl rfl hPx hDx hPm hap hS hl.1 (fun H locs hPx hDx hPm hap hS => ?_)
  refine lv_aload_n hx hb dL_law_370 rfl (lv_at hl 2 rfl) ?_
  refine lw_arg (kk := 1) F hS (hi := (by omega)) dL_law_371 dL_law_372 dL_law_373 dL_law_374 dL_law_375 ln_1 hl ?_
  refine lv_i2l hx hb dL_law_376 rfl ?_
  refine lv_bipush hx hb dL_law_377 bc_32 ?_
  refine lv_lshl hx hb dL_law_379 rfl ?_
  refine lw_arg (kk := 2) F hS (hi := (by omega)) dL_law_380 dL_law_381 dL_law_382 dL_law_383 dL_law_384 ln_2 hl ?_
  refine lv_i2l hx hb dL_law_385 rfl ?_
  refine lv_ldc2 hx hb hown (hts _ kdL_36) dL_law_386 ?_
  refine lv_land hx hb dL_law_389 ?_
  refine lv_lor hx hb dL_law_390 ?_
  refine lw_arg (kk := 3) F hS (hi := (by omega)) dL_law_391 dL_law_392 dL_law_393 dL_law_394 dL_law_395 ln_3 hl ?_
  refine lw_callV (d := 8) (ci := 8) (as := [.long ((((xs (i + 1)).toInt64 <<< ((32 : Int32).toInt64 &&& 63)) ||| ((xs (i + 2)).toInt64 &&& 4294967295))), .int (xs (i + 3))]) (st := [.int r]) hx hb hml hown hts hK hA (Nat.le_of_ble_eq_true rfl) (Nat.le_of_ble_eq_true rfl) (Nat.le_of_ble_eq_true rfl) (Nat.le_of_ble_eq_true rfl) dL_law_396 lkL_42 hhm rfl (Nat.le_of_ble_eq_true rfl) B2 rfl rfl hPm hDm hPx hap.symm hS hl.1 (fun H locs hPm hDm hPx hap hS => ?_)
  refine lv_icmp_eq (tgt := 1202) hx hb dL_law_399 rfl (fun _ => ?_) (fun c9 => absurd rfl c9)
  exact k _ _ _ _ ⟨hI1, hPx, hPm, hDx, hDm, hap.symm, hS⟩
theorem lwc_6 {p : Program} {l : Launch} {e : Env} {s : State} {m : MethodId} {below : List Frame} {meth : Method} {c : Code} {G : va_G} {cI cQ : ClassId} {b L : Nat} {xs : Nat → Int32} {Q : State → Prop} (F : lw_F p s m meth c G cI cQ b L xs) {H : Heap} {locs : List Loc} {adx adm : Nat → Nat} {hx0 hm0 : List sm_C} (I : lw_I G cI cQ s H locs adx adm hx0 hm0) {i : Nat} (hi : i + 6 ≤ L) {ls : Array Slot} (hl : lv_has ls 4 [(0, .ref b), (1, .ref (adx 0)), (2, .ref (adm 0)), (3, .int (nI i))])
    (k : lw_KK p l e s m below meth c G cI cQ b adx adm ls Q) : W p l e room_1 s m #[Value.ref b] below meth c H locs 39 3030 Q (F0 m 404 ls []) := by
  obtain ⟨hx, hb, hml, hown, hts, hK, hX, hbl, hL⟩ := id F
  obtain ⟨hI, hPx, hPm, hDx, hDm, hap, hS⟩ := I
  have hA : ∀ q : Nat, s.heap.size ≤ q → (fun q : Nat => s.heap.size ≤ q) q := fun _ h => h
  have J : JO yX7_year yX8_year [] hx0 hm0 := jo_year hI
  obtain ⟨fx, hhx⟩ := inv_x hI
  obtain ⟨fm, hhm⟩ := inv_m hI
  obtain ⟨r, hx1, hm1, B1, B2, hI1⟩ := J
  refine lv_aload_n hx hb dL_law_404 rfl (lv_at hl 1 rfl) ?_
  refine lw_callV (d := 8) (ci := 7) (as := []) (st := []) hx hb hml hown hts hK hA (Nat.le_of_ble_eq_true rfl) (Nat.le_of_ble_eq_true rfl) (Nat.le_of_ble_eq_true rfl) (Nat.le_of_ble_eq_true rfl) dL_law_405 lkL_43 hhx rfl (Nat.le_of_ble_eq_true rfl) B1 rfl rfl hPx hDx hPm hap hS hl.1 (fun H locs hPx hDx hPm hap hS => ?_)
  refine lv_aload_n hx hb dL_law_408 rfl (lv_at hl 2 rfl) ?_
  refine lw_callV (d := 8) (ci := 8) (as := []) (st := [.int r]) hx hb hml hown hts hK hA (Nat.le_of_ble_eq_true rfl) (Nat.le_of_ble_eq_true rfl) (Nat.le_of_ble_eq_true rfl) (Nat.le_of_ble_eq_true rfl) dL_law_409 lkL_46 hhm rfl (Nat.le_of_ble_eq_true rfl) B2 rfl rfl hPm hDm hPx hap.symm hS hl.1 (fun H locs hPm hDm hPx hap hS => ?_)
  refine lv_icmp_eq (tgt := 1202) hx hb dL_law_412 rfl (fun _ => ?_) (fun c9 => absurd rfl c9)
  exact k _ _ _ _ ⟨hI1, hPx, hPm, hDx, hDm, hap.symm, hS⟩
theorem lwc_7 {p : Program} {l : Launch} {e : Env} {s : State} {m : MethodId} {below : List Frame} {meth : Method} {c : Code} {G : va_G} {cI cQ : ClassId} {b L : Nat} {xs : Nat → Int32} {Q : State → Prop} (F : lw_F p s m meth c G cI cQ b L xs) {H : Heap} {locs : List Loc} {adx adm : Nat → Nat} {hx0 hm0 : List sm_C} (I : lw_I G cI cQ s H locs adx adm hx0 hm0) {i : Nat} (hi : i + 6 ≤ L) {ls : Array Slot} (hl : lv_has ls 4 [(0, .ref b), (1, .ref (adx 0)), (2, .ref (adm 0)), (3, .int (nI i))])
    (k : lw_KK p l e s m below meth c G cI cQ b adx adm ls Q) : W p l e room_1 s m #[Value.ref b] below meth c H locs 39 3030 Q (F0 m 417 ls []) := by
  obtain ⟨hx, hb, hml, hown, hts, hK, hX, hbl, hL⟩ := id F
  obtain ⟨hI, hPx, hPm, hDx, hDm, hap, hS⟩ := I
  have hA : ∀ q : Nat, s.heap.size ≤ q → (fun q : Nat => s.heap.size ≤ q) q := fun _ h => h
  have J : JO yX7_count yX8_count [.int (xs (i + 1))] hx0 hm0 := jo_count hI
  obtain ⟨fx, hhx⟩ := inv_x hI
  obtain ⟨fm, hhm⟩ := inv_m hI
  obtain ⟨r, hx1, hm1, B1, B2, hI1⟩ := J
  refine lv_aload_n hx hb dL_law_417 rfl (lv_at hl 1 rfl) ?_
  refine lw_arg (kk := 1) F hS (hi := (by omega)) dL_law_418 dL_law_419 dL_law_420 dL_law_421 dL_law_422 ln_1 hl ?_
  refine lw_callV (d := 8) (ci := 7) (as := [.int (xs (i + 1))]) (st := []) hx hb hml hown hts hK hA (Nat.le_of_ble_eq_true rfl) (Nat.le_of_ble_eq_true rfl) (Nat.le_of_ble_eq_true rfl) (Nat.le_of_ble_eq_true rfl) dL_law_423 lkL_47 hhx rfl (Nat.le_of_ble_eq_true rfl) B1 rfl rfl hPx hDx hPm hap hS hl.1 (fun H locs hPx hDx hPm hap hS => ?_)
  refine lv_aload_n hx hb dL_law_426 rfl (lv_at hl 2 rfl) ?_
  refine lw_arg (kk := 1) F hS (hi := (by omega)) dL_law_427 dL_law_428 dL_law_429 dL_law_430 dL_law_431 ln_1 hl ?_
  refine lw_callV (d := 8) (ci := 8) (as := [.int (xs (i + 1))]) (st := [.int r]) hx hb hml hown hts hK hA (Nat.le_of_ble_eq_true rfl) (Nat.le_of_ble_eq_true rfl) (Nat.le_of_ble_eq_true rfl) (Nat.le_of_ble_eq_true rfl) dL_law_432 lkL_51 hhm rfl (Nat.le_of_ble_eq_true rfl) B2 rfl rfl hPm hDm hPx hap.symm hS hl.1 (fun H locs hPm hDm hPx hap hS => ?_)
  refine lv_icmp_eq (tgt := 1202) hx hb dL_law_435 rfl (fun _ => ?_) (fun c9 => absurd rfl c9)
  exact k _ _ _ _ ⟨hI1, hPx, hPm, hDx, hDm, hap.symm, hS⟩
theorem lwc_8 {p : Program} {l : Launch} {e : Env} {s : State} {m : MethodId} {below : List Frame} {meth : Method} {c : Code} {G : va_G} {cI cQ : ClassId} {b L : Nat} {xs : Nat → Int32} {Q : State → Prop} (F : lw_F p s m meth c G cI cQ b L xs) {H : Heap} {locs : List Loc} {adx adm : Nat → Nat} {hx0 hm0 : List sm_C} (I : lw_I G cI cQ s H locs adx adm hx0 hm0) {i : Nat} (hi : i + 6 ≤ L) {ls : Array Slot} (hl : lv_has ls 4 [(0, .ref b), (1, .ref (adx 0)), (2, .ref (adm 0)), (3, .int (nI i))])
    (k : lw_KK p l e s m below meth c G cI cQ b adx adm ls Q) : W p l e room_1 s m #[Value.ref b] below meth c H locs 39 3030 Q (F0 m 440 ls []) := by
  obtain ⟨hx, hb, hml, hown, hts, hK, hX, hbl, hL⟩ := id F
  obtain ⟨hI, hPx, hPm, hDx, hDm, hap, hS⟩ := I
  have hA : ∀ q : Nat, s.heap.size ≤ q → (fun q : Nat => s.heap.size ≤ q) q := fun _ h => h
  have J : JO yX7_may yX8_may [.int (xs (i + 1))] hx0 hm0 := jo_may hI
  obtain ⟨fx, hhx⟩ := inv_x hI
  obtain ⟨fm, hhm⟩ := inv_m hI
  obtain ⟨r, hx1, hm1, B1, B2, hI1⟩ := J
  refine lv_aload_n hx hb dL_law_440 rfl (lv_at hl 1 rfl) ?_
  refine lw_arg (kk := 1) F hS (hi := (by omega)) dL_law_441 dL_law_442 dL_law_443 dL_law_444 dL_law_445 ln_1 hl ?_
  refine lw_callV (d := 8) (ci := 7) (as := [.int (xs (i + 1))]) (st := []) hx hb hml hown hts hK hA (Nat.le_of_ble_eq_true rfl) (Nat.le_of_ble_eq_true rfl) (Nat.le_of_ble_eq_true rfl) (Nat.le_of_ble_eq_true rfl) dL_law_446 lkL_52 hhx rfl (Nat.le_of_ble_eq_true rfl) B1 rfl rfl hPx hDx hPm hap hS hl.1 (fun H locs hPx hDx hPm hap hS => ?_)
  refine lv_aload_n hx hb dL_law_449 rfl (lv_at hl 2 rfl) ?_
  refine lw_arg (kk := 1) F hS (hi := (by omega)) dL_law_450 dL_law_451 dL_law_452 dL_law_453 dL_law_454 ln_1 hl ?_
  refine lw_callV (d := 8) (ci := 8) (as := [.int (xs (i + 1))]) (st := [.int r]) hx hb hml hown hts hK hA (Nat.le_of_ble_eq_true rfl) (Nat.le_of_ble_eq_true rfl) (Nat.le_of_ble_eq_true rfl) (Nat.le_of_ble_eq_true rfl) dL_law_455 lkL_55 hhm rfl (Nat.le_of_ble_eq_true rfl) B2 rfl rfl hPm hDm hPx hap.symm hS hl.1 (fun H locs hPm hDm hPx hap hS => ?_)
  refine lv_icmp_eq (tgt := 1202) hx hb dL_law_458 rfl (fun _ => ?_) (fun c9 => absurd rfl c9)
  exact k _ _ _ _ ⟨hI1, hPx, hPm, hDx, hDm, hap.symm, hS⟩
theorem lwc_9 {p : Program} {l : Launch} {e : Env} {s : State} {m : MethodId} {below : List Frame} {meth : Method} {c : Code} {G : va_G} {cI cQ : ClassId} {b L : Nat} {xs : Nat → Int32} {Q : State → Prop} (F : lw_F p s m meth c G cI cQ b L xs) {H : Heap} {locs : List Loc} {adx adm : Nat → Nat} {hx0 hm0 : List sm_C} (I : lw_I G cI cQ s H locs adx adm hx0 hm0) {i : Nat} (hi : i + 6 ≤ L) {ls : Array Slot} (hl : lv_has ls 4 [(0, .ref b), (1, .ref (adx 0)), (2, .ref (adm 0)), (3, .int (nI i))])
    (k : lw_KK p l e s m below meth c G cI cQ b adx adm ls Q) : W p l e room_1 s m #[Value.ref b] below meth c H locs 39 3030 Q (F0 m 463 ls []) := by
  obtain ⟨hx, hb, hml, hown, hts, hK, hX, hbl, hL⟩ := id F
  obtain ⟨hI, hPx, hPm, hDx, hDm, hap, hS⟩ := I
  have hA : ∀ q : Nat, s.heap.size ≤ q → (fun q : Nat => s.heap.size ≤ q) q := fun _ h => h
  have J : JO yX7_lawful yX8_lawful [.int (xs (i + 1))] hx0 hm0 := jo_lawful hI
  obtain ⟨fx, hhx⟩ := inv_x hI
  obtain ⟨fm, hhm⟩ := inv_m hI
  obtain ⟨r, hx1, hm1, B1, B2, hI1⟩ := J
  refine lv_aload_n hx hb dL_law_463 rfl (lv_at hl 1 rfl) ?_
  refine lw_arg (kk := 1) F hS (hi := (by omega)) dL_law_464 dL_law_465 dL_law_466 dL_law_467 dL_law_468 ln_1 hl ?_
  refine lw_callV (d := 8) (ci := 7) (as := [.int (xs (i + 1))]) (st := []) hx hb hml hown hts hK hA (Nat.le_of_ble_eq_true rfl) (Nat.le_of_ble_eq_true rfl) (Nat.le_of_ble_eq_true rfl) (Nat.le_of_ble_eq_true rfl) dL_law_469 lkL_56 hhx rfl (Nat.le_of_ble_eq_true rfl) B1 rfl rfl hPx hDx hPm hap hS hl.1 (fun H locs hPx hDx hPm hap hS => ?_)
  refine lv_aload_n hx hb dL_law_472 rfl (lv_at hl 2 rfl) ?_
  refine lw_arg (kk := 1) F hS (hi := (by omega)) dL_law_473 dL_law_474 dL_law_475 dL_law_476 dL_law_477 ln_1 hl ?_
  refine lw_callV (d := 8) (ci := 8) (as := [.int (xs (i + 1))]) (st := [.int r]) hx hb hml hown hts hK hA (Nat.le_of_ble_eq_true rfl) (Nat.le_of_ble_eq_true rfl) (Nat.le_of_ble_eq_true rfl) (Nat.le_of_ble_eq_true rfl) dL_law_478 lkL_59 hhm rfl (Nat.le_of_ble_eq_true rfl) B2 rfl rfl hPm hDm hPx hap.symm hS hl.1 (fun H locs hPm hDm hPx hap hS => ?_)
  refine lv_icmp_eq (tgt := 1202) hx hb dL_law_481 rfl (fun _ => ?_) (fun c9 => absurd rfl c9)
  exact k _ _ _ _ ⟨hI1, hPx, hPm, hDx, hDm, hap.symm, hS⟩
theorem lwc_10 {p : Program} {l : Launch} {e : Env} {s : State} {m : MethodId} {below : List Frame} {meth : Method} {c : Code} {G : va_G} {cI cQ : ClassId} {b L : Nat} {xs : Nat → Int32} {Q : State → Prop} (F : lw_F p s m meth c G cI cQ b L xs) {H : Heap} {locs : List Loc} {adx adm : Nat → Nat} {hx0 hm0 : List sm_C} (I : lw_I G cI cQ s H locs adx adm hx0 hm0) {i : Nat} (hi : i + 6 ≤ L) {ls : Array Slot} (hl : lv_has ls 4 [(0, .ref b), (1, .ref (adx 0)), (2, .ref (adm 0)), (3, .int (nI i))])
    (k : lw_KK p l e s m below meth c G cI cQ b adx adm ls Q) : W p l e room_1 s m #[Value.ref b] below meth c H locs 39 3030 Q (F0 m 486 ls []) := by
  obtain ⟨hx, hb, hml, hown, hts, hK, hX, hbl, hL⟩ := id F
  obtain ⟨hI, hPx, hPm, hDx, hDm, hap, hS⟩ := I
  have hA : ∀ q : Nat, s.heap.size ≤ q → (fun q : Nat => s.heap.size ≤ q) q := fun _ h => h
  have J : JO yX7_wrong yX8_wrong [.int (xs (i + 1))] hx0 hm0 := jo_wrong hI
  obtain ⟨fx, hhx⟩ := inv_x hI
  obtain ⟨fm, hhm⟩ := inv_m hI
  obtain ⟨r, hx1, hm1, B1, B2, hI1⟩ := J
  refine lv_aload_n hx hb dL_law_486 rfl (lv_at hl 1 rfl) ?_
  refine lw_arg (kk := 1) F hS (hi := (by omega)) dL_law_487 dL_law_488 dL_law_489 dL_law_490 dL_law_491 ln_1 hl ?_
  refine lw_callV (d := 8) (ci := 7) (as := [.int (xs (i + 1))]) (st := []) hx hb hml hown hts hK hA (Nat.le_of_ble_eq_true rfl) (Nat.le_of_ble_eq_true rfl) (Nat.le_of_ble_eq_true rfl) (Nat.le_of_ble_eq_true rfl) dL_law_492 lkL_60 hhx rfl (Nat.le_of_ble_eq_true rfl) B1 rfl rfl hPx hDx hPm hap hS hl.1 (fun H locs hPx hDx hPm hap hS => ?_)
  refine lv_aload_n hx hb dL_law_495 rfl (lv_at hl 2 rfl) ?_
  refine lw_arg (kk := 1) F hS (hi := (by omega)) dL_law_496 dL_law_497 dL_law_498 dL_law_499 dL_law_500 ln_1 hl ?_
  refine lw_callV (d := 8) (ci := 8) (as := [.int (xs (i + 1))]) (st := [.int r]) hx hb hml hown hts hK hA (Nat.le_of_ble_eq_true rfl) (Nat.le_of_ble_eq_true rfl) (Nat.le_of_ble_eq_true rfl) (Nat.le_of_ble_eq_true rfl) dL_law_501 lkL_63 hhm rfl (Nat.le_of_ble_eq_true rfl) B2 rfl rfl hPm hDm hPx hap.symm hS hl.1 (fun H locs hPm hDm hPx hap hS => ?_)
  refine lv_icmp_eq (tgt := 1202) hx hb dL_law_504 rfl (fun _ => ?_) (fun c9 => absurd rfl c9)
  exact k _ _ _ _ ⟨hI1, hPx, hPm, hDx, hDm, hap.symm, hS⟩
theorem lwc_11 {p : Program} {l : Launch} {e : Env} {s : State} {m : MethodId} {below : List Frame} {meth : Method} {c : Code} {G : va_G} {cI cQ : ClassId} {b L : Nat} {xs : Nat → Int32} {Q : State → Prop} (F : lw_F p s m meth c G cI cQ b L xs) {H : Heap} {locs : List Loc} {adx adm : Nat → Nat} {hx0 hm0 : List sm_C} (I : lw_I G cI cQ s H locs adx adm hx0 hm0) {i : Nat} (hi : i + 6 ≤ L) {ls : Array Slot} (hl : lv_has ls 4 [(0, .ref b), (1, .ref (adx 0)), (2, .ref (adm 0)), (3, .int (nI i))])
    (k : lw_KK p l e s m below meth c G cI cQ b adx adm ls Q) : W p l e room_1 s m #[Value.ref b] below meth c H locs 39 3030 Q (F0 m 509 ls []) := by
  obtain ⟨hx, hb, hml, hown, hts, hK, hX, hbl, hL⟩ := id F
  obtain ⟨hI, hPx, hPm, hDx, hDm, hap, hS⟩ := I
  have hA : ∀ q : Nat, s.heap.size ≤ q → (fun q : Nat => s.heap.size ≤ q) q := fun _ h => h
  have J : JO yX7_gain yX8_gain [.int (xs (i + 1))] hx0 hm0 := jo_gain hI
  obtain ⟨fx, hhx⟩ := inv_x hI
  obtain ⟨fm, hhm⟩ := inv_m hI
  obtain ⟨r, hx1, hm1, B1, B2, hI1⟩ := J
  refine lv_aload_n hx hb dL_law_509 rfl (lv_at hl 1 rfl) ?_
  refine lw_arg (kk := 1) F hS (hi := (by omega)) dL_law_510 dL_law_511 dL_law_512 dL_law_513 dL_law_514 ln_1 hl ?_
  refine lw_callV (d := 8) (ci := 7) (as := [.int (xs (i + 1))]) (st := []) hx hb hml hown hts hK hA (Nat.le_of_ble_eq_true rfl) (Nat.le_of_ble_eq_true rfl) (Nat.le_of_ble_eq_true rfl) (Nat.le_of_ble_eq_true rfl) dL_law_515 lkL_64 hhx rfl (Nat.le_of_ble_eq_true rfl) B1 rfl rfl hPx hDx hPm hap hS hl.1 (fun H locs hPx hDx hPm hap hS => ?_)
  refine lv_aload_n hx hb dL_law_518 rfl (lv_at hl 2 rfl) ?_
  refine lw_arg (kk := 1) F hS (hi := (by omega)) dL_law_519 dL_law_520 dL_law_521 dL_law_522 dL_law_523 ln_1 hl ?_
  refine lw_callV (d := 8) (ci := 8) (as := [.int (xs (i + 1))]) (st := [.int r]) hx hb hml hown hts hK hA (Nat.le_of_ble_eq_true rfl) (Nat.le_of_ble_eq_true rfl) (Nat.le_of_ble_eq_true rfl) (Nat.le_of_ble_eq_true rfl) dL_law_524 lkL_67 hhm rfl (Nat.le_of_ble_eq_true rfl) B2 rfl rfl hPm hDm hPx hap.symm hS hl.1 (fun H locs hPm hDm hPx hap hS => ?_)
  refine lv_icmp_eq (tgt := 1202) hx hb dL_law_527 rfl (fun _ => ?_) (fun c9 => absurd rfl c9)
  exact k _ _ _ _ ⟨hI1, hPx, hPm, hDx, hDm, hap.symm, hS⟩
theorem lwc_12 {p : Program} {l : Launch} {e : Env} {s : State} {m : MethodId} {below : List Frame} {meth : Method} {c : Code} {G : va_G} {cI cQ : ClassId} {b L : Nat} {xs : Nat → Int32} {Q : State → Prop} (F : lw_F p s m meth c G cI cQ b L xs) {H : Heap} {locs : List Loc} {adx adm : Nat → Nat} {hx0 hm0 : List sm_C} (I : lw_I G cI cQ s H locs adx adm hx0 hm0) {i : Nat} (hi : i + 6 ≤ L) {ls : Array Slot} (hl : lv_has ls 4 [(0, .ref b), (1, .ref (adx 0)), (2, .ref (adm 0)), (3, .int (nI i))])
    (k : lw_KK p l e s m below meth c G cI cQ b adx adm ls Q) : W p l e room_1 s m #[Value.ref b] below meth c H locs 39 3030 Q (F0 m 532 ls []) := by
  obtain ⟨hx, hb, hml, hown, hts, hK, hX, hbl, hL⟩ := id F
  obtain ⟨hI, hPx, hPm, hDx, hDm, hap, hS⟩ := I
  have hA : ∀ q : Nat, s.heap.size ≤ q → (fun q : Nat => s.heap.size ≤ q) q := fun _ h => h
  have J : JO yX7_trusted yX8_trusted [.int (xs (i + 1))] hx0 hm0 := jo_trusted hI
  obtain ⟨fx, hhx⟩ := inv_x hI
  obtain ⟨fm, hhm⟩ := inv_m hI
  obtain ⟨r, hx1, hm1, B1, B2, hI1⟩ := J
  refine lv_aload_n hx hb dL_law_532 rfl (lv_at hl 1 rfl) ?_
  refine lw_arg (kk := 1) F hS (hi := (by omega)) dL_law_533 dL_law_534 dL_law_535 dL_law_536 dL_law_537 ln_1 hl ?_
  refine lw_callV (d := 8) (ci := 7) (as := [.int (xs (i + 1))]) (st := []) hx hb hml hown hts hK hA (Nat.le_of_ble_eq_true rfl) (Nat.le_of_ble_eq_true rfl) (Nat.le_of_ble_eq_true rfl) (Nat.le_of_ble_eq_true rfl) dL_law_538 lkL_68 hhx rfl (Nat.le_of_ble_eq_true rfl) B1 rfl rfl hPx hDx hPm hap hS hl.1 (fun H locs hPx hDx hPm hap hS => ?_)
  refine lv_aload_n hx hb dL_law_541 rfl (lv_at hl 2 rfl) ?_
  refine lw_arg (kk := 1) F hS (hi := (by omega)) dL_law_542 dL_law_543 dL_law_544 dL_law_545 dL_law_546 ln_1 hl ?_
  refine lw_callV (d := 8) (ci := 8) (as := [.int (xs (i + 1))]) (st := [.int r]) hx hb hml hown hts hK hA (Nat.le_of_ble_eq_true rfl) (Nat.le_of_ble_eq_true rfl) (Nat.le_of_ble_eq_true rfl) (Nat.le_of_ble_eq_true rfl) dL_law_547 lkL_71 hhm rfl (Nat.le_of_ble_eq_true rfl) B2 rfl rfl hPm hDm hPx hap.symm hS hl.1 (fun H locs hPm hDm hPx hap hS => ?_)
  refine lv_icmp_eq (tgt := 1202) hx hb dL_law_550 rfl (fun _ => ?_) (fun c9 => absurd rfl c9)
  exact k _ _ _ _ ⟨hI1, hPx, hPm, hDx, hDm, hap.symm, hS⟩
theorem lwc_13 {p : Program} {l : Launch} {e : Env} {s : State} {m : MethodId} {below : List Frame} {meth : Method} {c : Code} {G : va_G} {cI cQ : ClassId} {b L : Nat} {xs : Nat → Int32} {Q : State → Prop} (F : lw_F p s m meth c G cI cQ b L xs) {H : Heap} {locs : List Loc} {adx adm : Nat → Nat} {hx0 hm0 : List sm_C} (I : lw_I G cI cQ s H locs adx adm hx0 hm0) {i : Nat} (hi : i + 6 ≤ L) {ls : Array Slot} (hl : lv_has ls 4 [(0, .ref b), (1, .ref (adx 0)), (2, .ref (adm 0)), (3, .int (nI i))])
    (k : lw_KK p l e s m below meth c G cI cQ b adx adm ls Q) : W p l e room_1 s m #[Value.ref b] below meth c H locs 39 3030 Q (F0 m 555 ls []) := by
  obtain ⟨hx, hb, hml, hown, hts, hK, hX, hbl, hL⟩ := id F
  obtain ⟨hI, hPx, hPm, hDx, hDm, hap, hS⟩ := I
  have hA : ∀ q : Nat, s.heap.size ≤ q → (fun q : Nat => s.heap.size ≤ q) q := fun _ h => h
  have J : JO yX7_harm yX8_harm [] hx0 hm0 := jo_harm hI
  obtain ⟨fx, hhx⟩ := inv_x hI
  obtain ⟨fm, hhm⟩ := inv_m hI
  obtain ⟨r, hx1, hm1, B1, B2, hI1⟩ := J
  refine lv_aload_n hx hb dL_law_555 rfl (lv_at hl 1 rfl) ?_
  refine lw_callV (d := 8) (ci := 7) (as := []) (st := []) hx hb hml hown hts hK hA (Nat.le_of_ble_eq_true rfl) (Nat.le_of_ble_eq_true rfl) (Nat.le_of_ble_eq_true rfl) (Nat.le_of_ble_eq_true rfl) dL_law_556 lkL_72 hhx rfl (Nat.le_of_ble_eq_true rfl) B1 rfl rfl hPx hDx hPm hap hS hl.1 (fun H locs hPx hDx hPm hap hS => ?_)
  refine lv_aload_n hx hb dL_law_559 rfl (lv_at hl 2 rfl) ?_
  refine lw_callV (d := 8) (ci := 8) (as := []) (st := [.int r]) hx hb hml hown hts hK hA (Nat.le_of_ble_eq_true rfl) (Nat.le_of_ble_eq_true rfl) (Nat.le_of_ble_eq_true rfl) (Nat.le_of_ble_eq_true rfl) dL_law_560 lkL_75 hhm rfl (Nat.le_of_ble_eq_true rfl) B2 rfl rfl hPm hDm hPx hap.symm hS hl.1 (fun H locs hPm hDm hPx hap hS => ?_)
  refine lv_icmp_eq (tgt := 1202) hx hb dL_law_563 rfl (fun _ => ?_) (fun c9 => absurd rfl c9)
  exact k _ _ _ _ ⟨hI1, hPx, hPm, hDx, hDm, hap.symm, hS⟩
theorem lwc_14 {p : Program} {l : Launch} {e : Env} {s : State} {m : MethodId} {below : List Frame} {meth : Method} {c : Code} {G : va_G} {cI cQ : ClassId} {b L : Nat} {xs : Nat → Int32} {Q : State → Prop} (F : lw_F p s m meth c G cI cQ b L xs) {H : Heap} {locs : List Loc} {adx adm : Nat → Nat} {hx0 hm0 : List sm_C} (I : lw_I G cI cQ s H locs adx adm hx0 hm0) {i : Nat} (hi : i + 6 ≤ L) {ls : Array Slot} (hl : lv_has ls 4 [(0, .ref b), (1, .ref (adx 0)), (2, .ref (adm 0)), (3, .int (nI i))])
    (k : lw_KK p l e s m below meth c G cI cQ b adx adm ls Q) : W p l e room_1 s m #[Value.ref b] below meth c H locs 39 3030 Q (F0 m 568 ls []) := by
  obtain ⟨hx, hb, hml, hown, hts, hK, hX, hbl, hL⟩ := id F
  obtain ⟨hI, hPx, hPm, hDx, hDm, hap, hS⟩ := I
  have hA : ∀ q : Nat, s.heap.size ≤ q → (fun q : Nat => s.heap.size ≤ q) q := fun _ h => h
  have J : JO yX7_worst yX8_worst [] hx0 hm0 := jo_worst hI
  obtain ⟨fx, hhx⟩ := inv_x hI
  obtain ⟨fm, hhm⟩ := inv_m hI
  obtain ⟨r, hx1, hm1, B1, B2, hI1⟩ := J
  refine lv_aload_n hx hb dL_law_568 rfl (lv_at hl 1 rfl) ?_
  refine lw_callV (d := 8) (ci := 7) (as := []) (st := []) hx hb hml hown hts hK hA (Nat.le_of_ble_eq_true rfl) (Nat.le_of_ble_eq_true rfl) (Nat.le_of_ble_eq_true rfl) (Nat.le_of_ble_eq_true rfl) dL_law_569 lkL_76 hhx rfl (Nat.le_of_ble_eq_true rfl) B1 rfl rfl hPx hDx hPm hap hS hl.1 (fun H locs hPx hDx hPm hap hS => ?_)
  refine lv_aload_n hx hb dL_law_572 rfl (lv_at hl 2 rfl) ?_
  refine lw_callV (d := 8) (ci := 8) (as := []) (st := [.int r]) hx hb hml hown hts hK hA (Nat.le_of_ble_eq_true rfl) (Nat.le_of_ble_eq_true rfl) (Nat.le_of_ble_eq_true rfl) (Nat.le_of_ble_eq_true rfl) dL_law_573 lkL_79 hhm rfl (Nat.le_of_ble_eq_true rfl) B2 rfl rfl hPm hDm hPx hap.symm hS hl.1 (fun H locs hPm hDm hPx hap hS => ?_)
  refine lv_icmp_eq (tgt := 1202) hx hb dL_law_576 rfl (fun _ => ?_) (fun c9 => absurd rfl c9)
  exact k _ _ _ _ ⟨hI1, hPx, hPm, hDx, hDm, hap.symm, hS⟩
theorem lwc_15 {p : Program} {l : Launch} {e : Env} {s : State} {m : MethodId} {below : List Frame} {meth : Method} {c : Code} {G : va_G} {cI cQ : ClassId} {b L : Nat} {xs : Nat → Int32} {Q : State → Prop} (F : lw_F p s m meth c G cI cQ b L xs) {H : Heap} {locs : List Loc} {adx adm : Nat → Nat} {hx0 hm0 : List sm_C} (I : lw_I G cI cQ s H locs adx adm hx0 hm0) {i : Nat} (hi : i + 6 ≤ L) {ls : Array Slot} (hl : lv_has ls 4 [(0, .ref b), (1, .ref (adx 0)), (2, .ref (adm 0)), (3, .int (nI i))])
    (k : lw_KK p l e s m below meth c G cI cQ b adx adm ls Q) : W p l e room_1 s m #[Value.ref b] below meth c H locs 39 3030 Q (F0 m 581 ls []) := by
  obtain ⟨hx, hb, hml, hown, hts, hK, hX, hbl, hL⟩ := id F
  obtain ⟨hI, hPx, hPm, hDx, hDm, hap, hS⟩ := I
  have hA : ∀ q : Nat, s.heap.size ≤ q → (fun q : Nat => s.heap.size ≤ q) q := fun _ h => h
  have J : JO yX7_best yX8_best [] hx0 hm0 := jo_best hI
  obtain ⟨fx, hhx⟩ := inv_x hI
  obtain ⟨fm, hhm⟩ := inv_m hI
  obtain ⟨r, hx1, hm1, B1, B2, hI1⟩ := J
  refine lv_aload_n hx hb dL_law_581 rfl (lv_at hl 1 rfl) ?_
  refine lw_callV (d := 8) (ci := 7) (as := []) (st := []) hx hb hml hown hts hK hA (Nat.le_of_ble_eq_true rfl) (Nat.le_of_ble_eq_true rfl) (Nat.le_of_ble_eq_true rfl) (Nat.le_of_ble_eq_true rfl) dL_law_582 lkL_80 hhx rfl (Nat.le_of_ble_eq_true rfl) B1 rfl rfl hPx hDx hPm hap hS hl.1 (fun H locs hPx hDx hPm hap hS => ?_)
  refine lv_aload_n hx hb dL_law_585 rfl (lv_at hl 2 rfl) ?_
  refine lw_callV (d := 8) (ci := 8) (as := []) (st := [.int r]) hx hb hml hown hts hK hA (Nat.le_of_ble_eq_true rfl) (Nat.le_of_ble_eq_true rfl) (Nat.le_of_ble_eq_true rfl) (Nat.le_of_ble_eq_true rfl) dL_law_586 lkL_83 hhm rfl (Nat.le_of_ble_eq_true rfl) B2 rfl rfl hPm hDm hPx hap.symm hS hl.1 (fun H locs hPm hDm hPx hap hS => ?_)
  refine lv_icmp_eq (tgt := 1202) hx hb dL_law_589 rfl (fun _ => ?_) (fun c9 => absurd rfl c9)
  exact k _ _ _ _ ⟨hI1, hPx, hPm, hDx, hDm, hap.symm, hS⟩
theorem lwc_16 {p : Program} {l : Launch} {e : Env} {s : State} {m : MethodId} {below : List Frame} {meth : Method} {c : Code} {G : va_G} {cI cQ : ClassId} {b L : Nat} {xs : Nat → Int32} {Q : State → Prop} (F : lw_F p s m meth c G cI cQ b L xs) {H : Heap} {locs : List Loc} {adx adm : Nat → Nat} {hx0 hm0 : List sm_C} (I : lw_I G cI cQ s H locs adx adm hx0 hm0) {i : Nat} (hi : i + 6 ≤ L) {ls : Array Slot} (hl : lv_has ls 4 [(0, .ref b), (1, .ref (adx 0)), (2, .ref (adm 0)), (3, .int (nI i))])
    (k : lw_KK p l e s m below meth c G cI cQ b adx adm ls Q) : W p l e room_1 s m #[Value.ref b] below meth c H locs 39 3030 Q (F0 m 594 ls []) := by
  obtain ⟨hx, hb, hml, hown, hts, hK, hX, hbl, hL⟩ := id F
  obtain ⟨hI, hPx, hPm, hDx, hDm, hap, hS⟩ := I
  have hA : ∀ q : Nat, s.heap.size ≤ q → (fun q : Nat => s.heap.size ≤ q) q := fun _ h => h
  have J : JO yX7_price yX8_price [] hx0 hm0 := jo_price hI
  obtain ⟨fx, hhx⟩ := inv_x hI
  obtain ⟨fm, hhm⟩ := inv_m hI
  obtain ⟨r, hx1, hm1, B1, B2, hI1⟩ := J
  refine lv_aload_n hx hb dL_law_594 rfl (lv_at hl 1 rfl) ?_
  refine lw_callV (d := 8) (ci := 7) (as := []) (st := []) hx hb hml hown hts hK hA (Nat.le_of_ble_eq_true rfl) (Nat.le_of_ble_eq_true rfl) (Nat.le_of_ble_eq_true rfl) (Nat.le_of_ble_eq_true rfl) dL_law_595 lkL_84 hhx rfl (Nat.le_of_ble_eq_true rfl) B1 rfl rfl hPx hDx hPm hap hS hl.1 (fun H locs hPx hDx hPm hap hS => ?_)
  refine lv_aload_n hx hb dL_law_598 rfl (lv_at hl 2 rfl) ?_
  refine lw_callV (d := 8) (ci := 8) (as := []) (st := [.int r]) hx hb hml hown hts hK hA (Nat.le_of_ble_eq_true rfl) (Nat.le_of_ble_eq_true rfl) (Nat.le_of_ble_eq_true rfl) (Nat.le_of_ble_eq_true rfl) dL_law_599 lkL_87 hhm rfl (Nat.le_of_ble_eq_true rfl) B2 rfl rfl hPm hDm hPx hap.symm hS hl.1 (fun H locs hPm hDm hPx hap hS => ?_)
  refine lv_icmp_eq (tgt := 1202) hx hb dL_law_602 rfl (fun _ => ?_) (fun c9 => absurd rfl c9)
  exact k _ _ _ _ ⟨hI1, hPx, hPm, hDx, hDm, hap.symm, hS⟩
theorem lwc_17 {p : Program} {l : Launch} {e : Env} {s : State} {m : MethodId} {below : List Frame} {meth : Method} {c : Code} {G : va_G} {cI cQ : ClassId} {b L : Nat} {xs : Nat → Int32} {Q : State → Prop} (F : lw_F p s m meth c G cI cQ b L xs) {H : Heap} {locs : List Loc} {adx adm : Nat → Nat} {hx0 hm0 : List sm_C} (I : lw_I G cI cQ s H locs adx adm hx0 hm0) {i : Nat} (hi : i + 6 ≤ L) {ls : Array Slot} (hl : lv_has ls 4 [(0, .ref b), (1, .ref (adx 0)), (2, .ref (adm 0)), (3, .int (nI i))])
    (k : lw_KK p l e s m below meth c G cI cQ b adx adm ls Q) : W p l e room_1 s m #[Value.ref b] below meth c H locs 39 3030 Q (F0 m 607 ls []) := by
  obtain ⟨hx, hb, hml, hown, hts, hK, hX, hbl, hL⟩ := id F
  obtain ⟨hI, hPx, hPm, hDx, hDm, hap, hS⟩ := I
  have hA : ∀ q : Nat, s.heap.size ≤ q → (fun q : Nat => s.heap.size ≤ q) q := fun _ h => h
  have J : JO yX7_under yX8_under [.int (xs (i + 1))] hx0 hm0 := jo_under hI
  obtain ⟨fx, hhx⟩ := inv_x hI
  obtain ⟨fm, hhm⟩ := inv_m hI
  obtain ⟨r, hx1, hm1, B1, B2, hI1⟩ := J
  refine lv_aload_n hx hb dL_law_607 rfl (lv_at hl 1 rfl) ?_
  refine lw_arg (kk := 1) F hS (hi := (by omega)) dL_law_608 dL_law_609 dL_law_610 dL_law_611 dL_law_612 ln_1 hl ?_
  refine lw_callV (d := 8) (ci := 7) (as := [.int (xs (i + 1))]) (st := []) hx hb hml hown hts hK hA (Nat.le_of_ble_eq_true rfl) (Nat.le_of_ble_eq_true rfl) (Nat.le_of_ble_eq_true rfl) (Nat.le_of_ble_eq_true rfl) dL_law_613 lkL_88 hhx rfl (Nat.le_of_ble_eq_true rfl) B1 rfl rfl hPx hDx hPm hap hS hl.1 (fun H locs hPx hDx hPm hap hS => ?_)
  refine lv_aload_n hx hb dL_law_616 rfl (lv_at hl 2 rfl) ?_
  refine lw_arg (kk := 1) F hS (hi := (by omega)) dL_law_617 dL_law_618 dL_law_619 dL_law_620 dL_law_621 ln_1 hl ?_
  refine lw_callV (d := 8) (ci := 8) (as := [.int (xs (i + 1))]) (st := [.int r]) hx hb hml hown hts hK hA (Nat.le_of_ble_eq_true rfl) (Nat.le_of_ble_eq_true rfl) (Nat.le_of_ble_eq_true rfl) (Nat.le_of_ble_eq_true rfl) dL_law_622 lkL_91 hhm rfl (Nat.le_of_ble_eq_true rfl) B2 rfl rfl hPm hDm hPx hap.symm hS hl.1 (fun H locs hPm hDm hPx hap hS => ?_)
  refine lv_icmp_eq (tgt := 1202) hx hb dL_law_625 rfl (fun _ => ?_) (fun c9 => absurd rfl c9)
  exact k _ _ _ _ ⟨hI1, hPx, hPm, hDx, hDm, hap.symm, hS⟩
theorem lwc_18 {p : Program} {l : Launch} {e : Env} {s : State} {m : MethodId} {below : List Frame} {meth : Method} {c : Code} {G : va_G} {cI cQ : ClassId} {b L : Nat} {xs : Nat → Int32} {Q : State → Prop} (F : lw_F p s m meth c G cI cQ b L xs) {H : Heap} {locs : List Loc} {adx adm : Nat → Nat} {hx0 hm0 : List sm_C} (I : lw_I G cI cQ s H locs adx adm hx0 hm0) {i : Nat} (hi : i + 6 ≤ L) {ls : Array Slot} (hl : lv_has ls 4 [(0, .ref b), (1, .ref (adx 0)), (2, .ref (adm 0)), (3, .int (nI i))])
    (k : lw_KK p l e s m below meth c G cI cQ b adx adm ls Q) : W p l e room_1 s m #[Value.ref b] below meth c H locs 39 3030 Q (F0 m 630 ls []) := by
  obtain ⟨hx, hb, hml, hown, hts, hK, hX, hbl, hL⟩ := id F
  obtain ⟨hI, hPx, hPm, hDx, hDm, hap, hS⟩ := I
  have hA : ∀ q : Nat, s.heap.size ≤ q → (fun q : Nat => s.heap.size ≤ q) q := fun _ h => h
  have J : JO yX7_sure yX8_sure [.int (xs (i + 1)), .int (xs (i + 2)), .int (xs (i + 3)), .int (xs (i + 4)), .int (xs (i + 5))] hx0 hm0 := jo_sure hI
  obtain ⟨fx, hhx⟩ := inv_x hI
  obtain ⟨fm, hhm⟩ := inv_m hI
  obtain ⟨r, hx1, hm1, B1, B2, hI1⟩ := J
  refine lv_aload_n hx hb dL_law_630 rfl (lv_at hl 1 rfl) ?_
  refine lw_arg (kk := 1) F hS (hi := (by omega)) dL_law_631 dL_law_632 dL_law_633 dL_law_634 dL_law_635 ln_1 hl ?_
  refine lw_arg (kk := 2) F hS (hi := (by omega)) dL_law_636 dL_law_637 dL_law_638 dL_law_639 dL_law_640 ln_2 hl ?_
  refine lw_arg (kk := 3) F hS (hi := (by omega)) dL_law_641 dL_law_642 dL_law_643 dL_law_644 dL_law_645 ln_3 hl ?_
  refine lw_arg (kk := 4) F hS (hi := (by omega)) dL_law_646 dL_law_647 dL_law_648 dL_law_649 dL_law_650 ln_4 hl ?_
  refine lw_arg (kk := 5) F hS (hi := (by omega)) dL_law_651 dL_law_652 dL_law_653 dL_law_654 dL_law_655 ln_5 hl ?_
  refine lw_callV (d := 8) (ci := 7) (as := [.int (xs (i + 1)), .int (xs (i + 2)), .int (xs (i + 3)), .int (xs (i + 4)), .int (xs (i + 5))]) (st := []) hx hb hml hown hts hK hA (Nat.le_of_ble_eq_true rfl) (Nat.le_of_ble_eq_true rfl) (Nat.le_of_ble_eq_true rfl) (Nat.le_of_ble_eq_true rfl) dL_law_656 lkL_92 hhx rfl (Nat.le_of_ble_eq_true rfl) B1 rfl rfl hPx hDx hPm hap hS hl.1 (fun H locs hPx hDx hPm hap hS => ?_)
  refine lv_aload_n hx hb dL_law_659 rfl (lv_at hl 2 rfl) ?_
  refine lw_arg (kk := 1) F hS (hi := (by omega)) dL_law_660 dL_law_661 dL_law_662 dL_law_663 dL_law_664 ln_1 hl ?_
  refine lw_arg (kk := 2) F hS (hi := (by omega)) dL_law_665 dL_law_666 dL_law_667 dL_law_668 dL_law_669 ln_2 hl ?_
  refine lw_arg (kk := 3) F hS (hi := (by omega)) dL_law_670 dL_law_671 dL_law_672 dL_law_673 dL_law_674 ln_3 hl ?_
  refine lw_arg (kk := 4) F hS (hi := (by omega)) dL_law_675 dL_law_676 dL_law_677 dL_law_678 dL_law_679 ln_4 hl ?_
  refine lw_arg (kk := 5) F hS (hi := (by omega)) dL_law_680 dL_law_681 dL_law_682 dL_law_683 dL_law_684 ln_5 hl ?_
  refine lw_callV (d := 8) (ci := 8) (as := [.int (xs (i + 1)), .int (xs (i + 2)), .int (xs (i + 3)), .int (xs (i + 4)), .int (xs (i + 5))]) (st := [.int r]) hx hb hml hown hts hK hA (Nat.le_of_ble_eq_true rfl) (Nat.le_of_ble_eq_true rfl) (Nat.le_of_ble_eq_true rfl) (Nat.le_of_ble_eq_true rfl) dL_law_685 lkL_96 hhm rfl (Nat.le_of_ble_eq_true rfl) B2 rfl rfl hPm hDm hPx hap.symm hS hl.1 (fun H locs hPm hDm hPx hap hS => ?_)
  refine lv_icmp_eq (tgt := 1202) hx hb dL_law_688 rfl (fun _ => ?_) (fun c9 => absurd rfl c9)
  exact k _ _ _ _ ⟨hI1, hPx, hPm, hDx, hDm, hap.symm, hS⟩
theorem lwc_19 {p : Program} {l : Launch} {e : Env} {s : State} {m : MethodId} {below : List Frame} {meth : Method} {c : Code} {G : va_G} {cI cQ : ClassId} {b L : Nat} {xs : Nat → Int32} {Q : State → Prop} (F : lw_F p s m meth c G cI cQ b L xs) {H : Heap} {locs : List Loc} {adx adm : Nat → Nat} {hx0 hm0 : List sm_C} (I : lw_I G cI cQ s H locs adx adm hx0 hm0) {i : Nat} (hi : i + 6 ≤ L) {ls : Array Slot} (hl : lv_has ls 4 [(0, .ref b), (1, .ref (adx 0)), (2, .ref (adm 0)), (3, .int (nI i))])
    (k : lw_KK p l e s m below meth c G cI cQ b adx adm ls Q) : W p l e room_1 s m #[Value.ref b] below meth c H locs 39 3030 Q (F0 m 693 ls []) := by
  obtain ⟨hx, hb, hml, hown, hts, hK, hX, hbl, hL⟩ := id F
  obtain ⟨hI, hPx, hPm, hDx, hDm, hap, hS⟩ := I
  have hA : ∀ q : Nat, s.heap.size ≤ q → (fun q : Nat => s.heap.size ≤ q) q := fun _ h => h
  have J : JO yX7_bet yX8_bet [.int (xs (i + 1)), .int (xs (i + 2)), .int (xs (i + 3))] hx0 hm0 := jo_bet hI
  obtain ⟨fx, hhx⟩ := inv_x hI
  obtain ⟨fm, hhm⟩ := inv_m hI
  obtain ⟨r, hx1, hm1, B1, B2, hI1⟩ := J
  refine lv_aload_n hx hb dL_law_693 rfl (lv_at hl 1 rfl) ?_
  refine lw_arg (kk := 1) F hS (hi := (by omega)) dL_law_694 dL_law_695 dL_law_696 dL_law_697 dL_law_698 ln_1 hl ?_
  refine lw_arg (kk := 2) F hS (hi := (by omega)) dL_law_699 dL_law_700 dL_law_701 dL_law_702 dL_law_703 ln_2 hl ?_
  refine lw_arg (kk := 3) F hS (hi := (by omega)) dL_law_704 dL_law_705 dL_law_706 dL_law_707 dL_law_708 ln_3 hl ?_
  refine lw_callV (d := 8) (ci := 7) (as := [.int (xs (i + 1)), .int (xs (i + 2)), .int (xs (i + 3))]) (st := []) hx hb hml hown hts hK hA (Nat.le_of_ble_eq_true rfl) (Nat.le_of_ble_eq_true rfl) (Nat.le_of_ble_eq_true rfl) (Nat.le_of_ble_eq_true rfl) dL_law_709 lkL_97 hhx rfl (Nat.le_of_ble_eq_true rfl) B1 rfl rfl hPx hDx hPm hap hS hl.1 (fun H locs hPx hDx hPm hap hS => ?_)
  refine lv_aload_n hx hb dL_law_712 rfl (lv_at hl 2 rfl) ?_
  refine lw_arg (kk := 1) F hS (hi := (by omega)) dL_law_713 dL_law_714 dL_law_715 dL_law_716 dL_law_717 ln_1 hl ?_
  refine lw_arg (kk := 2) F hS (hi := (by omega)) dL_law_718 dL_law_719 dL_law_720 dL_law_721 dL_law_722 ln_2 hl ?_
  refine lw_arg (kk := 3) F hS (hi := (by omega)) dL_law_723 dL_law_724 dL_law_725 dL_law_726 dL_law_727 ln_3 hl ?_
  refine lw_callV (d := 8) (ci := 8) (as := [.int (xs (i + 1)), .int (xs (i + 2)), .int (xs (i + 3))]) (st := [.int r]) hx hb hml hown hts hK hA (Nat.le_of_ble_eq_true rfl) (Nat.le_of_ble_eq_true rfl) (Nat.le_of_ble_eq_true rfl) (Nat.le_of_ble_eq_true rfl) dL_law_728 lkL_100 hhm rfl (Nat.le_of_ble_eq_true rfl) B2 rfl rfl hPm hDm hPx hap.symm hS hl.1 (fun H locs hPm hDm hPx hap hS => ?_)
  refine lv_icmp_eq (tgt := 1202) hx hb dL_law_731 rfl (fun _ => ?_) (fun c9 => absurd rfl c9)
  exact k _ _ _ _ ⟨hI1, hPx, hPm, hDx, hDm, hap.symm, hS⟩
theorem lwc_20 {p : Program} {l : Launch} {e : Env} {s : State} {m : MethodId} {below : List Frame} {meth : Method} {c : Code} {G : va_G} {cI cQ : ClassId} {b L : Nat} {xs : Nat → Int32} {Q : State → Prop} (F : lw_F p s m meth c G cI cQ b L xs) {H : Heap} {locs : List Loc} {adx adm : Nat → Nat} {hx0 hm0 : List sm_C} (I : lw_I G cI cQ s H locs adx adm hx0 hm0) {i : Nat} (hi : i + 6 ≤ L) {ls : Array Slot} (hl : lv_has ls 4 [(0, .ref b), (1, .ref (adx 0)), (2, .ref (adm 0)), (3, .int (nI i))])
    (k : lw_KK p l e s m below meth c G cI cQ b adx adm ls Q) : W p l e room_1 s m #[Value.ref b] below meth c H locs 39 3030 Q (F0 m 736 ls []) := by
  obtain ⟨hx, hb, hml, hown, hts, hK, hX, hbl, hL⟩ := id F
  obtain ⟨hI, hPx, hPm, hDx, hDm, hap, hS⟩ := I
  have hA : ∀ q : Nat, s.heap.size ≤ q → (fun q : Nat => s.heap.size ≤ q) q := fun _ h => h
  have J : JO yX7_sets yX8_sets [.int (xs (i + 1)), .int (xs (i + 2)), .int (xs (i + 3)), .int (xs (i + 4))] hx0 hm0 := jo_sets hI
  obtain ⟨fx, hhx⟩ := inv_x hI
  obtain ⟨fm, hhm⟩ := inv_m hI
  obtain ⟨r, hx1, hm1, B1, B2, hI1⟩ := J
  refine lv_aload_n hx hb dL_law_736 rfl (lv_at hl 1 rfl) ?_
  refine lw_arg (kk := 1) F hS (hi := (by omega)) dL_law_737 dL_law_738 dL_law_739 dL_law_740 dL_law_741 ln_1 hl ?_
  refine lw_arg (kk := 2) F hS (hi := (by omega)) dL_law_742 dL_law_743 dL_law_744 dL_law_745 dL_law_746 ln_2 hl ?_
  refine lw_arg (kk := 3) F hS (hi := (by omega)) dL_law_747 dL_law_748 dL_law_749 dL_law_750 dL_law_751 ln_3 hl ?_
  refine lw_arg (kk := 4) F hS (hi := (by omega)) dL_law_752 dL_law_753 dL_law_754 dL_law_755 dL_law_756 ln_4 hl ?_
  refine lw_callV (d := 8) (ci := 7) (as := [.int (xs (i + 1)), .int (xs (i + 2)), .int (xs (i + 3)), .int (xs (i + 4))]) (st := []) hx hb hml hown hts hK hA (Nat.le_of_ble_eq_true rfl) (Nat.le_of_ble_eq_true rfl) (Nat.le_of_ble_eq_true rfl) (Nat.le_of_ble_eq_true rfl) dL_law_757 lkL_101 hhx rfl (Nat.le_of_ble_eq_true rfl) B1 rfl rfl hPx hDx hPm hap hS hl.1 (fun H locs hPx hDx hPm hap hS => ?_)
  refine lv_aload_n hx hb dL_law_760 rfl (lv_at hl 2 rfl) ?_
  refine lw_arg (kk := 1) F hS (hi := (by omega)) dL_law_761 dL_law_762 dL_law_763 dL_law_764 dL_law_765 ln_1 hl ?_
  refine lw_arg (kk := 2) F hS (hi := (by omega)) dL_law_766 dL_law_767 dL_law_768 dL_law_769 dL_law_770 ln_2 hl ?_
  refine lw_arg (kk := 3) F hS (hi := (by omega)) dL_law_771 dL_law_772 dL_law_773 dL_law_774 dL_law_775 ln_3 hl ?_
  refine lw_arg (kk := 4) F hS (hi := (by omega)) dL_law_776 dL_law_777 dL_law_778 dL_law_779 dL_law_780 ln_4 hl ?_
  refine lw_callV (d := 8) (ci := 8) (as := [.int (xs (i + 1)), .int (xs (i + 2)), .int (xs (i + 3)), .int (xs (i + 4))]) (st := [.int r]) hx hb hml hown hts hK hA (Nat.le_of_ble_eq_true rfl) (Nat.le_of_ble_eq_true rfl) (Nat.le_of_ble_eq_true rfl) (Nat.le_of_ble_eq_true rfl) dL_law_781 lkL_105 hhm rfl (Nat.le_of_ble_eq_true rfl) B2 rfl rfl hPm hDm hPx hap.symm hS hl.1 (fun H locs hPm hDm hPx hap hS => ?_)
  refine lv_icmp_eq (tgt := 1202) hx hb dL_law_784 rfl (fun _ => ?_) (fun c9 => absurd rfl c9)
  exact k _ _ _ _ ⟨hI1, hPx, hPm, hDx, hDm, hap.symm, hS⟩
theorem lwc_21 {p : Program} {l : Launch} {e : Env} {s : State} {m : MethodId} {below : List Frame} {meth : Method} {c : Code} {G : va_G} {cI cQ : ClassId} {b L : Nat} {xs : Nat → Int32} {Q : State → Prop} (F : lw_F p s m meth c G cI cQ b L xs) {H : Heap} {locs : List Loc} {adx adm : Nat → Nat} {hx0 hm0 : List sm_C} (I : lw_I G cI cQ s H locs adx adm hx0 hm0) {i : Nat} (hi : i + 6 ≤ L) {ls : Array Slot} (hl : lv_has ls 4 [(0, .ref b), (1, .ref (adx 0)), (2, .ref (adm 0)), (3, .int (nI i))])
    (k : lw_KK p l e s m below meth c G cI cQ b adx adm ls Q) : W p l e room_1 s m #[Value.ref b] below meth c H locs 39 3030 Q (F0 m 789 ls []) := by
  obtain ⟨hx, hb, hml, hown, hts, hK, hX, hbl, hL⟩ := id F
  obtain ⟨hI, hPx, hPm, hDx, hDm, hap, hS⟩ := I
  have hA : ∀ q : Nat, s.heap.size ≤ q → (fun q : Nat => s.heap.size ≤ q) q := fun _ h => h
  have J : JO yX7_surely yX8_surely [.int (xs (i + 1)), .int (xs (i + 2)), .int (xs (i + 3)), .int (xs (i + 4)), .int (xs (i + 5))] hx0 hm0 := jo_surely hI
  obtain ⟨fx, hhx⟩ := inv_x hI
  obtain ⟨fm, hhm⟩ := inv_m hI
  obtain ⟨r, hx1, hm1, B1, B2, hI1⟩ := J
  refine lv_aload_n hx hb dL_law_789 rfl (lv_at hl 1 rfl) ?_
  refine lw_arg (kk := 1) F hS (hi := (by omega)) dL_law_790 dL_law_791 dL_law_792 dL_law_793 dL_law_794 ln_1 hl ?_
  refine lw_arg (kk := 2) F hS (hi := (by omega)) dL_law_795 dL_law_796 dL_law_797 dL_law_798 dL_law_799 ln_2 hl ?_
  refine lw_arg (kk := 3) F hS (hi := (by omega)) dL_law_800 dL_law_801 dL_law_802 dL_law_803 dL_law_804 ln_3 hl ?_
  refine lw_arg (kk := 4) F hS (hi := (by omega)) dL_law_805 dL_law_806 dL_law_807 dL_law_808 dL_law_809 ln_4 hl ?_
  refine lw_arg (kk := 5) F hS (hi := (by omega)) dL_law_810 dL_law_811 dL_law_812 dL_law_813 dL_law_814 ln_5 hl ?_
  refine lw_callV (d := 8) (ci := 7) (as := [.int (xs (i + 1)), .int (xs (i + 2)), .int (xs (i + 3)), .int (xs (i + 4)), .int (xs (i + 5))]) (st := []) hx hb hml hown hts hK hA (Nat.le_of_ble_eq_true rfl) (Nat.le_of_ble_eq_true rfl) (Nat.le_of_ble_eq_true rfl) (Nat.le_of_ble_eq_true rfl) dL_law_815 lkL_106 hhx rfl (Nat.le_of_ble_eq_true rfl) B1 rfl rfl hPx hDx hPm hap hS hl.1 (fun H locs hPx hDx hPm hap hS => ?_)
  refine lv_aload_n hx hb dL_law_818 rfl (lv_at hl 2 rfl) ?_
  refine lw_arg (kk := 1) F hS (hi := (by omega)) dL_law_819 dL_law_820 dL_law_821 dL_law_822 dL_law_823 ln_1 hl ?_
  refine lw_arg (kk := 2) F hS (hi := (by omega)) dL_law_824 dL_law_825 dL_law_826 dL_law_827 dL_law_828 ln_2 hl ?_
  refine lw_arg (kk := 3) F hS (hi := (by omega)) dL_law_829 dL_law_830 dL_law_831 dL_law_832 dL_law_833 ln_3 hl ?_
  refine lw_arg (kk := 4) F hS (hi := (by omega)) dL_law_834 dL_law_835 dL_law_836 dL_law_837 dL_law_838 ln_4 hl ?_
  refine lw_arg (kk := 5) F hS (hi := (by omega)) dL_law_839 dL_law_840 dL_law_841 dL_law_842 dL_law_843 ln_5 hl ?_
  refine lw_callV (d := 8) (ci := 8) (as := [.int (xs (i + 1)), .int (xs (i + 2)), .int (xs (i + 3)), .int (xs (i + 4)), .int (xs (i + 5))]) (st := [.int r]) hx hb hml hown hts hK hA (Nat.le_of_ble_eq_true rfl) (Nat.le_of_ble_eq_true rfl) (Nat.le_of_ble_eq_true rfl) (Nat.le_of_ble_eq_true rfl) dL_law_844 lkL_109 hhm rfl (Nat.le_of_ble_eq_true rfl) B2 rfl rfl hPm hDm hPx hap.symm hS hl.1 (fun H locs hPm hDm hPx hap hS => ?_)
  refine lv_icmp_eq (tgt := 1202) hx hb dL_law_847 rfl (fun _ => ?_) (fun c9 => absurd rfl c9)
  exact k _ _ _ _ ⟨hI1, hPx, hPm, hDx, hDm, hap.symm, hS⟩
theorem lwc_22 {p : Program} {l : Launch} {e : Env} {s : State} {m : MethodId} {below : List Frame} {meth : Method} {c : Code} {G : va_G} {cI cQ : ClassId} {b L : Nat} {xs : Nat → Int32} {Q : State → Prop} (F : lw_F p s m meth c G cI cQ b L xs) {H : Heap} {locs : List Loc} {adx adm : Nat → Nat} {hx0 hm0 : List sm_C} (I : lw_I G cI cQ s H locs adx adm hx0 hm0) {i : Nat} (hi : i + 6 ≤ L) {ls : Array Slot} (hl : lv_has ls 4 [(0, .ref b), (1, .ref (adx 0)), (2, .ref (adm 0)), (3, .int (nI i))])
    (k : lw_KK p l e s m below meth c G cI cQ b adx adm ls Q) : W p l e room_1 s m #[Value.ref b] below meth c H locs 39 3030 Q (F0 m 852 ls []) := by
  obtain ⟨hx, hb, hml, hown, hts, hK, hX, hbl, hL⟩ := id F
  obtain ⟨hI, hPx, hPm, hDx, hDm, hap, hS⟩ := I
  have hA : ∀ q : Nat, s.heap.size ≤ q → (fun q : Nat => s.heap.size ≤ q) q := fun _ h => h
  have J : JO yX7_lots yX8_lots [] hx0 hm0 := jo_lots hI
  obtain ⟨fx, hhx⟩ := inv_x hI
  obtain ⟨fm, hhm⟩ := inv_m hI
  obtain ⟨r, hx1, hm1, B1, B2, hI1⟩ := J
  refine lv_aload_n hx hb dL_law_852 rfl (lv_at hl 1 rfl) ?_
  refine lw_callV (d := 8) (ci := 7) (as := []) (st := []) hx hb hml hown hts hK hA (Nat.le_of_ble_eq_true rfl) (Nat.le_of_ble_eq_true rfl) (Nat.le_of_ble_eq_true rfl) (Nat.le_of_ble_eq_true rfl) dL_law_853 lkL_110 hhx rfl (Nat.le_of_ble_eq_true rfl) B1 rfl rfl hPx hDx hPm hap hS hl.1 (fun H locs hPx hDx hPm hap hS => ?_)
  refine lv_aload_n hx hb dL_law_856 rfl (lv_at hl 2 rfl) ?_
  refine lw_callV (d := 8) (ci := 8) (as := []) (st := [.int r]) hx hb hml hown hts hK hA (Nat.le_of_ble_eq_true rfl) (Nat.le_of_ble_eq_true rfl) (Nat.le_of_ble_eq_true rfl) (Nat.le_of_ble_eq_true rfl) dL_law_857 lkL_113 hhm rfl (Nat.le_of_ble_eq_true rfl) B2 rfl rfl hPm hDm hPx hap.symm hS hl.1 (fun H locs hPm hDm hPx hap hS => ?_)
  refine lv_icmp_eq (tgt := 1202) hx hb dL_law_860 rfl (fun _ => ?_) (fun c9 => absurd rfl c9)
  exact k _ _ _ _ ⟨hI1, hPx, hPm, hDx, hDm, hap.symm, hS⟩
theorem lwc_23 {p : Program} {l : Launch} {e : Env} {s : State} {m : MethodId} {below : List Frame} {meth : Method} {c : Code} {G : va_G} {cI cQ : ClassId} {b L : Nat} {xs : Nat → Int32} {Q : State → Prop} (F : lw_F p s m meth c G cI cQ b L xs) {H : Heap} {locs : List Loc} {adx adm : Nat → Nat} {hx0 hm0 : List sm_C} (I : lw_I G cI cQ s H locs adx adm hx0 hm0) {i : Nat} (hi : i + 6 ≤ L) {ls : Array Slot} (hl : lv_has ls 4 [(0, .ref b), (1, .ref (adx 0)), (2, .ref (adm 0)), (3, .int (nI i))])
    (k : lw_KK p l e s m below meth c G cI cQ b adx adm ls Q) : W p l e room_1 s m #[Value.ref b] below meth c H locs 39 3030 Q (F0 m 865 ls []) := by
  obtain ⟨hx, hb, hml, hown, hts, hK, hX, hbl, hL⟩ := id F
  obtain ⟨hI, hPx, hPm, hDx, hDm, hap, hS⟩ := I
  have hA : ∀ q : Nat, s.heap.size ≤ q → (fun q : Nat => s.heap.size ≤ q) q := fun _ h => h
  have J : JO yX7_seed yX8_seed [.int (xs (i + 1))] hx0 hm0 := jo_seed hI
  obtain ⟨fx, hhx⟩ := inv_x hI
  obtain ⟨fm, hhm⟩ := inv_m hI
  obtain ⟨r, hx1, hm1, B1, B2, hI1⟩ := J
  refine lv_aload_n hx hb dL_law_865 rfl (lv_at hl 1 rfl) ?_
  refine lw_arg (kk := 1) F hS (hi := (by omega)) dL_law_866 dL_law_867 dL_law_868 dL_law_869 dL_law_870 ln_1 hl ?_
  refine lw_callV (d := 8) (ci := 7) (as := [.int (xs (i + 1))]) (st := []) hx hb hml hown hts hK hA (Nat.le_of_ble_eq_true rfl) (Nat.le_of_ble_eq_true rfl) (Nat.le_of_ble_eq_true rfl) (Nat.le_of_ble_eq_true rfl) dL_law_871 lkL_114 hhx rfl (Nat.le_of_ble_eq_true rfl) B1 rfl rfl hPx hDx hPm hap hS hl.1 (fun H locs hPx hDx hPm hap hS => ?_)
  refine lv_aload_n hx hb dL_law_874 rfl (lv_at hl 2 rfl) ?_
  refine lw_arg (kk := 1) F hS (hi := (by omega)) dL_law_875 dL_law_876 dL_law_877 dL_law_878 dL_law_879 ln_1 hl ?_
  refine lw_callV (d := 8) (ci := 8) (as := [.int (xs (i + 1))]) (st := [.int r]) hx hb hml hown hts hK hA (Nat.le_of_ble_eq_true rfl) (Nat.le_of_ble_eq_true rfl) (Nat.le_of_ble_eq_true rfl) (Nat.le_of_ble_eq_true rfl) dL_law_880 lkL_117 hhm rfl (Nat.le_of_ble_eq_true rfl) B2 rfl rfl hPm hDm hPx hap.symm hS hl.1 (fun H locs hPm hDm hPx hap hS => ?_)
  refine lv_icmp_eq (tgt := 1202) hx hb dL_law_883 rfl (fun _ => ?_) (fun c9 => absurd rfl c9)
  exact k _ _ _ _ ⟨hI1, hPx, hPm, hDx, hDm, hap.symm, hS⟩
theorem lwc_24 {p : Program} {l : Launch} {e : Env} {s : State} {m : MethodId} {below : List Frame} {meth : Method} {c : Code} {G : va_G} {cI cQ : ClassId} {b L : Nat} {xs : Nat → Int32} {Q : State → Prop} (F : lw_F p s m meth c G cI cQ b L xs) {H : Heap} {locs : List Loc} {adx adm : Nat → Nat} {hx0 hm0 : List sm_C} (I : lw_I G cI cQ s H locs adx adm hx0 hm0) {i : Nat} (hi : i + 6 ≤ L) {ls : Array Slot} (hl : lv_has ls 4 [(0, .ref b), (1, .ref (adx 0)), (2, .ref (adm 0)), (3, .int (nI i))])
    (k : lw_KK p l e s m below meth c G cI cQ b adx adm ls Q) : W p l e room_1 s m #[Value.ref b] below meth c H locs 39 3030 Q (F0 m 888 ls []) := by
  obtain ⟨hx, hb, hml, hown, hts, hK, hX, hbl, hL⟩ := id F
  obtain ⟨hI, hPx, hPm, hDx, hDm, hap, hS⟩ := I
  have hA : ∀ q : Nat, s.heap.size ≤ q → (fun q : Nat => s.heap.size ≤ q) q := fun _ h => h
  have J : JO yX7_image yX8_image [] hx0 hm0 := jo_image hI
  obtain ⟨fx, hhx⟩ := inv_x hI
  obtain ⟨fm, hhm⟩ := inv_m hI
  obtain ⟨r, hx1, hm1, B1, B2, hI1⟩ := J
  refine lv_aload_n hx hb dL_law_888 rfl (lv_at hl 1 rfl) ?_
  refine lw_callV (d := 8) (ci := 7) (as := []) (st := []) hx hb hml hown hts hK hA (Nat.le_of_ble_eq_true rfl) (Nat.le_of_ble_eq_true rfl) (Nat.le_of_ble_eq_true rfl) (Nat.le_of_ble_eq_true rfl) dL_law_889 lkL_118 hhx rfl (Nat.le_of_ble_eq_true rfl) B1 rfl rfl hPx hDx hPm hap hS hl.1 (fun H locs hPx hDx hPm hap hS => ?_)
  refine lv_aload_n hx hb dL_law_892 rfl (lv_at hl 2 rfl) ?_
  refine lw_callV (d := 8) (ci := 8) (as := []) (st := [.int r]) hx hb hml hown hts hK hA (Nat.le_of_ble_eq_true rfl) (Nat.le_of_ble_eq_true rfl) (Nat.le_of_ble_eq_true rfl) (Nat.le_of_ble_eq_true rfl) dL_law_893 lkL_121 hhm rfl (Nat.le_of_ble_eq_true rfl) B2 rfl rfl hPm hDm hPx hap.symm hS hl.1 (fun H locs hPm hDm hPx hap hS => ?_)
  refine lv_icmp_eq (tgt := 1202) hx hb dL_law_896 rfl (fun _ => ?_) (fun c9 => absurd rfl c9)
  exact k _ _ _ _ ⟨hI1, hPx, hPm, hDx, hDm, hap.symm, hS⟩
theorem lwc_25 {p : Program} {l : Launch} {e : Env} {s : State} {m : MethodId} {below : List Frame} {meth : Method} {c : Code} {G : va_G} {cI cQ : ClassId} {b L : Nat} {xs : Nat → Int32} {Q : State → Prop} (F : lw_F p s m meth c G cI cQ b L xs) {H : Heap} {locs : List Loc} {adx adm : Nat → Nat} {hx0 hm0 : List sm_C} (I : lw_I G cI cQ s H locs adx adm hx0 hm0) {i : Nat} (hi : i + 6 ≤ L) {ls : Array Slot} (hl : lv_has ls 4 [(0, .ref b), (1, .ref (adx 0)), (2, .ref (adm 0)), (3, .int (nI i))])
    (k : lw_KK p l e s m below meth c G cI cQ b adx adm ls Q) : W p l e room_1 s m #[Value.ref b] below meth c H locs 39 3030 Q (F0 m 901 ls []) := by
  obtain ⟨hx, hb, hml, hown, hts, hK, hX, hbl, hL⟩ := id F
  obtain ⟨hI, hPx, hPm, hDx, hDm, hap, hS⟩ := I
  have hA : ∀ q : Nat, s.heap.size ≤ q → (fun q : Nat => s.heap.size ≤ q) q := fun _ h => h
  have J : JO yX7_restore yX8_restore [] hx0 hm0 := jo_restore hI
  obtain ⟨fx, hhx⟩ := inv_x hI
  obtain ⟨fm, hhm⟩ := inv_m hI
  obtain ⟨r, hx1, hm1, B1, B2, hI1⟩ := J
  refine lv_aload_n hx hb dL_law_901 rfl (lv_at hl 1 rfl) ?_
  refine lw_callV (d := 8) (ci := 7) (as := []) (st := []) hx hb hml hown hts hK hA (Nat.le_of_ble_eq_true rfl) (Nat.le_of_ble_eq_true rfl) (Nat.le_of_ble_eq_true rfl) (Nat.le_of_ble_eq_true rfl) dL_law_902 lkL_122 hhx rfl (Nat.le_of_ble_eq_true rfl) B1 rfl rfl hPx hDx hPm hap hS hl.1 (fun H locs hPx hDx hPm hap hS => ?_)
  refine lv_aload_n hx hb dL_law_905 rfl (lv_at hl 2 rfl) ?_
  refine lw_callV (d := 8) (ci := 8) (as := []) (st := [.int r]) hx hb hml hown hts hK hA (Nat.le_of_ble_eq_true rfl) (Nat.le_of_ble_eq_true rfl) (Nat.le_of_ble_eq_true rfl) (Nat.le_of_ble_eq_true rfl) dL_law_906 lkL_125 hhm rfl (Nat.le_of_ble_eq_true rfl) B2 rfl rfl hPm hDm hPx hap.symm hS hl.1 (fun H locs hPm hDm hPx hap hS => ?_)
  refine lv_icmp_eq (tgt := 1202) hx hb dL_law_909 rfl (fun _ => ?_) (fun c9 => absurd rfl c9)
  exact k _ _ _ _ ⟨hI1, hPx, hPm, hDx, hDm, hap.symm, hS⟩
theorem lwc_26 {p : Program} {l : Launch} {e : Env} {s : State} {m : MethodId} {below : List Frame} {meth : Method} {c : Code} {G : va_G} {cI cQ : ClassId} {b L : Nat} {xs : Nat → Int32} {Q : State → Prop} (F : lw_F p s m meth c G cI cQ b L xs) {H : Heap} {locs : List Loc} {adx adm : Nat → Nat} {hx0 hm0 : List sm_C} (I : lw_I G cI cQ s H locs adx adm hx0 hm0) {i : Nat} (hi : i + 6 ≤ L) {ls : Array Slot} (hl : lv_has ls 4 [(0, .ref b), (1, .ref (adx 0)), (2, .ref (adm 0)), (3, .int (nI i))])
    (k : lw_KK p l e s m below meth c G cI cQ b adx adm ls Q) : W p l e room_1 s m #[Value.ref b] below meth c H locs 39 3030 Q (F0 m 914 ls []) := by
  obtain ⟨hx, hb, hml, hown, hts, hK, hX, hbl, hL⟩ := id F
  obtain ⟨hI, hPx, hPm, hDx, hDm, hap, hS⟩ := I
  have hA : ∀ q : Nat, s.heap.size ≤ q → (fun q : Nat => s.heap.size ≤ q) q := fun _ h => h
  have J : JO yX7_judged yX8_judged [.int (xs (i + 1)), .int (xs (i + 2)), .int (xs (i + 3)), .int (xs (i + 4))] hx0 hm0 := jo_judged hI
  obtain ⟨fx, hhx⟩ := inv_x hI
  obtain ⟨fm, hhm⟩ := inv_m hI
  obtain ⟨r, hx1, hm1, B1, B2, hI1⟩ := J
  refine lv_aload_n hx hb dL_law_914 rfl (lv_at hl 1 rfl) ?_
  refine lw_arg (kk := 1) F hS (hi := (by omega)) dL_law_915 dL_law_916 dL_law_917 dL_law_918 dL_law_919 ln_1 hl ?_
  refine lw_arg (kk := 2) F hS (hi := (by omega)) dL_law_920 dL_law_921 dL_law_922 dL_law_923 dL_law_924 ln_2 hl ?_
  refine lw_arg (kk := 3) F hS (hi := (by omega)) dL_law_925 dL_law_926 dL_law_927 dL_law_928 dL_law_929 ln_3 hl ?_
  refine lw_arg (kk := 4) F hS (hi := (by omega)) dL_law_930 dL_law_931 dL_law_932 dL_law_933 dL_law_934 ln_4 hl ?_
  refine lw_callV (d := 8) (ci := 7) (as := [.int (xs (i + 1)), .int (xs (i + 2)), .int (xs (i + 3)), .int (xs (i + 4))]) (st := []) hx hb hml hown hts hK hA (Nat.le_of_ble_eq_true rfl) (Nat.le_of_ble_eq_true rfl) (Nat.le_of_ble_eq_true rfl) (Nat.le_of_ble_eq_true rfl) dL_law_935 lkL_126 hhx rfl (Nat.le_of_ble_eq_true rfl) B1 rfl rfl hPx hDx hPm hap hS hl.1 (fun H locs hPx hDx hPm hap hS => ?_)
  refine lv_aload_n hx hb dL_law_938 rfl (lv_at hl 2 rfl) ?_
  refine lw_arg (kk := 1) F hS (hi := (by omega)) dL_law_939 dL_law_940 dL_law_941 dL_law_942 dL_law_943 ln_1 hl ?_
  refine lw_arg (kk := 2) F hS (hi := (by omega)) dL_law_944 dL_law_945 dL_law_946 dL_law_947 dL_law_948 ln_2 hl ?_
  refine lw_arg (kk := 3) F hS (hi := (by omega)) dL_law_949 dL_law_950 dL_law_951 dL_law_952 dL_law_953 ln_3 hl ?_
  refine lw_arg (kk := 4) F hS (hi := (by omega)) dL_law_954 dL_law_955 dL_law_956 dL_law_957 dL_law_958 ln_4 hl ?_
  refine lw_callV (d := 8) (ci := 8) (as := [.int (xs (i + 1)), .int (xs (i + 2)), .int (xs (i + 3)), .int (xs (i + 4))]) (st := [.int r]) hx hb hml hown hts hK hA (Nat.le_of_ble_eq_true rfl) (Nat.le_of_ble_eq_true rfl) (Nat.le_of_ble_eq_true rfl) (Nat.le_of_ble_eq_true rfl) dL_law_959 lkL_129 hhm rfl (Nat.le_of_ble_eq_true rfl) B2 rfl rfl hPm hDm hPx hap.symm hS hl.1 (fun H locs hPm hDm hPx hap hS => ?_)
  refine lv_icmp_eq (tgt := 1202) hx hb dL_law_962 rfl (fun _ => ?_) (fun c9 => absurd rfl c9)
  exact k _ _ _ _ ⟨hI1, hPx, hPm, hDx, hDm, hap.symm, hS⟩
theorem lwc_27 {p : Program} {l : Launch} {e : Env} {s : State} {m : MethodId} {below : List Frame} {meth : Method} {c : Code} {G : va_G} {cI cQ : ClassId} {b L : Nat} {xs : Nat → Int32} {Q : State → Prop} (F : lw_F p s m meth c G cI cQ b L xs) {H : Heap} {locs : List Loc} {adx adm : Nat → Nat} {hx0 hm0 : List sm_C} (I : lw_I G cI cQ s H locs adx adm hx0 hm0) {i : Nat} (hi : i + 6 ≤ L) {ls : Array Slot} (hl : lv_has ls 4 [(0, .ref b), (1, .ref (adx 0)), (2, .ref (adm 0)), (3, .int (nI i))])
    (k : lw_KK p l e s m below meth c G cI cQ b adx adm ls Q) : W p l e room_1 s m #[Value.ref b] below meth c H locs 39 3030 Q (F0 m 967 ls []) := by
  obtain ⟨hx, hb, hml, hown, hts, hK, hX, hbl, hL⟩ := id F
  obtain ⟨hI, hPx, hPm, hDx, hDm, hap, hS⟩ := I
  have hA : ∀ q : Nat, s.heap.size ≤ q → (fun q : Nat => s.heap.size ≤ q) q := fun _ h => h
  have J : JO yX7_film yX8_film [.int (xs (i + 1)), .int (xs (i + 2)), .int (xs (i + 3)), .int (xs (i + 4))] hx0 hm0 := jo_film hI
  obtain ⟨fx, hhx⟩ := inv_x hI
  obtain ⟨fm, hhm⟩ := inv_m hI
  obtain ⟨r, hx1, hm1, B1, B2, hI1⟩ := J
  refine lv_aload_n hx hb dL_law_967 rfl (lv_at hl 1 rfl) ?_
  refine lw_arg (kk := 1) F hS (hi := (by omega)) dL_law_968 dL_law_969 dL_law_970 dL_law_971 dL_law_972 ln_1 hl ?_
  refine lw_arg (kk := 2) F hS (hi := (by omega)) dL_law_973 dL_law_974 dL_law_975 dL_law_976 dL_law_977 ln_2 hl ?_
  refine lw_arg (kk := 3) F hS (hi := (by omega)) dL_law_978 dL_law_979 dL_law_980 dL_law_981 dL_law_982 ln_3 hl ?_
  refine lw_arg (kk := 4) F hS (hi := (by omega)) dL_law_983 dL_law_984 dL_law_985 dL_law_986 dL_law_987 ln_4 hl ?_
  refine lw_callV (d := 8) (ci := 7) (as := [.int (xs (i + 1)), .int (xs (i + 2)), .int (xs (i + 3)), .int (xs (i + 4))]) (st := []) hx hb hml hown hts hK hA (Nat.le_of_ble_eq_true rfl) (Nat.le_of_ble_eq_true rfl) (Nat.le_of_ble_eq_true rfl) (Nat.le_of_ble_eq_true rfl) dL_law_988 lkL_130 hhx rfl (Nat.le_of_ble_eq_true rfl) B1 rfl rfl hPx hDx hPm hap hS hl.1 (fun H locs hPx hDx hPm hap hS => ?_)
  refine lv_aload_n hx hb dL_law_991 rfl (lv_at hl 2 rfl) ?_
  refine lw_arg (kk := 1) F hS (hi := (by omega)) dL_law_992 dL_law_993 dL_law_994 dL_law_995 dL_law_996 ln_1 hl ?_
  refine lw_arg (kk := 2) F hS (hi := (by omega)) dL_law_997 dL_law_998 dL_law_999 dL_law_1000 dL_law_1001 ln_2 hl ?_
  refine lw_arg (kk := 3) F hS (hi := (by omega)) dL_law_1002 dL_law_1003 dL_law_1004 dL_law_1005 dL_law_1006 ln_3 hl ?_
  refine lw_arg (kk := 4) F hS (hi := (by omega)) dL_law_1007 dL_law_1008 dL_law_1009 dL_law_1010 dL_law_1011 ln_4 hl ?_
  refine lw_callV (d := 8) (ci := 8) (as := [.int (xs (i + 1)), .int (xs (i + 2)), .int (xs (i + 3)), .int (xs (i + 4))]) (st := [.int r]) hx hb hml hown hts hK hA (Nat.le_of_ble_eq_true rfl) (Nat.le_of_ble_eq_true rfl) (Nat.le_of_ble_eq_true rfl) (Nat.le_of_ble_eq_true rfl) dL_law_1012 lkL_133 hhm rfl (Nat.le_of_ble_eq_true rfl) B2 rfl rfl hPm hDm hPx hap.symm hS hl.1 (fun H locs hPm hDm hPx hap hS => ?_)
  refine lv_icmp_eq (tgt := 1202) hx hb dL_law_1015 rfl (fun _ => ?_) (fun c9 => absurd rfl c9)
  exact k _ _ _ _ ⟨hI1, hPx, hPm, hDx, hDm, hap.symm, hS⟩
theorem lwc_28 {p : Program} {l : Launch} {e : Env} {s : State} {m : MethodId} {below : List Frame} {meth : Method} {c : Code} {G : va_G} {cI cQ : ClassId} {b L : Nat} {xs : Nat → Int32} {Q : State → Prop} (F : lw_F p s m meth c G cI cQ b L xs) {H : Heap} {locs : List Loc} {adx adm : Nat → Nat} {hx0 hm0 : List sm_C} (I : lw_I G cI cQ s H locs adx adm hx0 hm0) {i : Nat} (hi : i + 6 ≤ L) {ls : Array Slot} (hl : lv_has ls 4 [(0, .ref b), (1, .ref (adx 0)), (2, .ref (adm 0)), (3, .int (nI i))])
    (k : lw_KK p l e s m below meth c G cI cQ b adx adm ls Q) : W p l e room_1 s m #[Value.ref b] below meth c H locs 39 3030 Q (F0 m 1020 ls []) := by
  obtain ⟨hx, hb, hml, hown, hts, hK, hX, hbl, hL⟩ := id F
  obtain ⟨hI, hPx, hPm, hDx, hDm, hap, hS⟩ := I
  have hA : ∀ q : Nat, s.heap.size ≤ q → (fun q : Nat => s.heap.size ≤ q) q := fun _ h => h
  have J : JO yX7_sheet yX8_sheet [.int (xs (i + 1)), .int (xs (i + 2)), .int (xs (i + 3))] hx0 hm0 := jo_sheet hI
  obtain ⟨fx, hhx⟩ := inv_x hI
  obtain ⟨fm, hhm⟩ := inv_m hI
  obtain ⟨r, hx1, hm1, B1, B2, hI1⟩ := J
  refine lv_aload_n hx hb dL_law_1020 rfl (lv_at hl 1 rfl) ?_
  refine lw_arg (kk := 1) F hS (hi := (by omega)) dL_law_1021 dL_law_1022 dL_law_1023 dL_law_1024 dL_law_1025 ln_1 hl ?_
  refine lw_arg (kk := 2) F hS (hi := (by omega)) dL_law_1026 dL_law_1027 dL_law_1028 dL_law_1029 dL_law_1030 ln_2 hl ?_
  refine lw_arg (kk := 3) F hS (hi := (by omega)) dL_law_1031 dL_law_1032 dL_law_1033 dL_law_1034 dL_law_1035 ln_3 hl ?_
  refine lw_callV (d := 8) (ci := 7) (as := [.int (xs (i + 1)), .int (xs (i + 2)), .int (xs (i + 3))]) (st := []) hx hb hml hown hts hK hA (Nat.le_of_ble_eq_true rfl) (Nat.le_of_ble_eq_true rfl) (Nat.le_of_ble_eq_true rfl) (Nat.le_of_ble_eq_true rfl) dL_law_1036 lkL_134 hhx rfl (Nat.le_of_ble_eq_true rfl) B1 rfl rfl hPx hDx hPm hap hS hl.1 (fun H locs hPx hDx hPm hap hS => ?_)
  refine lv_aload_n hx hb dL_law_1039 rfl (lv_at hl 2 rfl) ?_
  refine lw_arg (kk := 1) F hS (hi := (by omega)) dL_law_1040 dL_law_1041 dL_law_1042 dL_law_1043 dL_law_1044 ln_1 hl ?_
  refine lw_arg (kk := 2) F hS (hi := (by omega)) dL_law_1045 dL_law_1046 dL_law_1047 dL_law_1048 dL_law_1049 ln_2 hl ?_
  refine lw_arg (kk := 3) F hS (hi := (by omega)) dL_law_1050 dL_law_1051 dL_law_1052 dL_law_1053 dL_law_1054 ln_3 hl ?_
  refine lw_callV (d := 8) (ci := 8) (as := [.int (xs (i + 1)), .int (xs (i + 2)), .int (xs (i + 3))]) (st := [.int r]) hx hb hml hown hts hK hA (Nat.le_of_ble_eq_true rfl) (Nat.le_of_ble_eq_true rfl) (Nat.le_of_ble_eq_true rfl) (Nat.le_of_ble_eq_true rfl) dL_law_1055 lkL_137 hhm rfl (Nat.le_of_ble_eq_true rfl) B2 rfl rfl hPm hDm hPx hap.symm hS hl.1 (fun H locs hPm hDm hPx hap hS => ?_)
  refine lv_icmp_eq (tgt := 1202) hx hb dL_law_1058 rfl (fun _ => ?_) (fun c9 => absurd rfl c9)
  exact k _ _ _ _ ⟨hI1, hPx, hPm, hDx, hDm, hap.symm, hS⟩
theorem lwc_29 {p : Program} {l : Launch} {e : Env} {s : State} {m : MethodId} {below : List Frame} {meth : Method} {c : Code} {G : va_G} {cI cQ : ClassId} {b L : Nat} {xs : Nat → Int32} {Q : State → Prop} (F : lw_F p s m meth c G cI cQ b L xs) {H : Heap} {locs : List Loc} {adx adm : Nat → Nat} {hx0 hm0 : List sm_C} (I : lw_I G cI cQ s H locs adx adm hx0 hm0) {i : Nat} (hi : i + 6 ≤ L) {ls : Array Slot} (hl : lv_has ls 4 [(0, .ref b), (1, .ref (adx 0)), (2, .ref (adm 0)), (3, .int (nI i))])
    (k : lw_KK p l e s m below meth c G cI cQ b adx adm ls Q) : W p l e room_1 s m #[Value.ref b] below meth c H locs 39 3030 Q (F0 m 1063 ls []) := by
  obtain ⟨hx, hb, hml, hown, hts, hK, hX, hbl, hL⟩ := id F
  obtain ⟨hI, hPx, hPm, hDx, hDm, hap, hS⟩ := I
  have hA : ∀ q : Nat, s.heap.size ≤ q → (fun q : Nat => s.heap.size ≤ q) q := fun _ h => h
  have J : JO yX7_drop yX8_drop [.int (xs (i + 1))] hx0 hm0 := jo_drop hI
  obtain ⟨fx, hhx⟩ := inv_x hI
  obtain ⟨fm, hhm⟩ := inv_m hI
  obtain ⟨r, hx1, hm1, B1, B2, hI1⟩ := J
  refine lv_aload_n hx hb dL_law_1063 rfl (lv_at hl 1 rfl) ?_
  refine lw_arg (kk := 1) F hS (hi := (by omega)) dL_law_1064 dL_law_1065 dL_law_1066 dL_law_1067 dL_law_1068 ln_1 hl ?_
  refine lw_callV (d := 8) (ci := 7) (as := [.int (xs (i + 1))]) (st := []) hx hb hml hown hts hK hA (Nat.le_of_ble_eq_true rfl) (Nat.le_of_ble_eq_true rfl) (Nat.le_of_ble_eq_true rfl) (Nat.le_of_ble_eq_true rfl) dL_law_1069 lkL_138 hhx rfl (Nat.le_of_ble_eq_true rfl) B1 rfl rfl hPx hDx hPm hap hS hl.1 (fun H locs hPx hDx hPm hap hS => ?_)
  refine lv_aload_n hx hb dL_law_1072 rfl (lv_at hl 2 rfl) ?_
  refine lw_arg (kk := 1) F hS (hi := (by omega)) dL_law_1073 dL_law_1074 dL_law_1075 dL_law_1076 dL_law_1077 ln_1 hl ?_
  refine lw_callV (d := 8) (ci := 8) (as := [.int (xs (i + 1))]) (st := [.int r]) hx hb hml hown hts hK hA (Nat.le_of_ble_eq_true rfl) (Nat.le_of_ble_eq_true rfl) (Nat.le_of_ble_eq_true rfl) (Nat.le_of_ble_eq_true rfl) dL_law_1078 lkL_141 hhm rfl (Nat.le_of_ble_eq_true rfl) B2 rfl rfl hPm hDm hPx hap.symm hS hl.1 (fun H locs hPm hDm hPx hap hS => ?_)
  refine lv_icmp_eq (tgt := 1202) hx hb dL_law_1081 rfl (fun _ => ?_) (fun c9 => absurd rfl c9)
  exact k _ _ _ _ ⟨hI1, hPx, hPm, hDx, hDm, hap.symm, hS⟩
theorem lwc_30 {p : Program} {l : Launch} {e : Env} {s : State} {m : MethodId} {below : List Frame} {meth : Method} {c : Code} {G : va_G} {cI cQ : ClassId} {b L : Nat} {xs : Nat → Int32} {Q : State → Prop} (F : lw_F p s m meth c G cI cQ b L xs) {H : Heap} {locs : List Loc} {adx adm : Nat → Nat} {hx0 hm0 : List sm_C} (I : lw_I G cI cQ s H locs adx adm hx0 hm0) {i : Nat} (hi : i + 6 ≤ L) {ls : Array Slot} (hl : lv_has ls 4 [(0, .ref b), (1, .ref (adx 0)), (2, .ref (adm 0)), (3, .int (nI i))])
    (k : lw_KK p l e s m below meth c G cI cQ b adx adm ls Q) : W p l e room_1 s m #[Value.ref b] below meth c H locs 39 3030 Q (F0 m 1086 ls []) := by
  obtain ⟨hx, hb, hml, hown, hts, hK, hX, hbl, hL⟩ := id F
  obtain ⟨hI, hPx, hPm, hDx, hDm, hap, hS⟩ := I
  have hA : ∀ q : Nat, s.heap.size ≤ q → (fun q : Nat => s.heap.size ≤ q) q := fun _ h => h
  have J : JO yX7_item yX8_item [.int (xs (i + 1)), .int (xs (i + 2)), .int (xs (i + 3)), .int (xs (i + 4))] hx0 hm0 := jo_item hI
  obtain ⟨fx, hhx⟩ := inv_x hI
  obtain ⟨fm, hhm⟩ := inv_m hI
  obtain ⟨r, hx1, hm1, B1, B2, hI1⟩ := J
  refine lv_aload_n hx hb dL_law_1086 rfl (lv_at hl 1 rfl) ?_
  refine lw_arg (kk := 1) F hS (hi := (by omega)) dL_law_1087 dL_law_1088 dL_law_1089 dL_law_1090 dL_law_1091 ln_1 hl ?_
  refine lw_arg (kk := 2) F hS (hi := (by omega)) dL_law_1092 dL_law_1093 dL_law_1094 dL_law_1095 dL_law_1096 ln_2 hl ?_
  refine lw_arg (kk := 3) F hS (hi := (by omega)) dL_law_1097 dL_law_1098 dL_law_1099 dL_law_1100 dL_law_1101 ln_3 hl ?_
  refine lw_arg (kk := 4) F hS (hi := (by omega)) dL_law_1102 dL_law_1103 dL_law_1104 dL_law_1105 dL_law_1106 ln_4 hl ?_
  refine lw_callV (d := 8) (ci := 7) (as := [.int (xs (i + 1)), .int (xs (i + 2)), .int (xs (i + 3)), .int (xs (i + 4))]) (st := []) hx hb hml hown hts hK hA (Nat.le_of_ble_eq_true rfl) (Nat.le_of_ble_eq_true rfl) (Nat.le_of_ble_eq_true rfl) (Nat.le_of_ble_eq_true rfl) dL_law_1107 lkL_142 hhx rfl (Nat.le_of_ble_eq_true rfl) B1 rfl rfl hPx hDx hPm hap hS hl.1 (fun H locs hPx hDx hPm hap hS => ?_)
  refine lv_aload_n hx hb dL_law_1110 rfl (lv_at hl 2 rfl) ?_
  refine lw_arg (kk := 1) F hS (hi := (by omega)) dL_law_1111 dL_law_1112 dL_law_1113 dL_law_1114 dL_law_1115 ln_1 hl ?_
  refine lw_arg (kk := 2) F hS (hi := (by omega)) dL_law_1116 dL_law_1117 dL_law_1118 dL_law_1119 dL_law_1120 ln_2 hl ?_
  refine lw_arg (kk := 3) F hS (hi := (by omega)) dL_law_1121 dL_law_1122 dL_law_1123 dL_law_1124 dL_law_1125 ln_3 hl ?_
  refine lw_arg (kk := 4) F hS (hi := (by omega)) dL_law_1126 dL_law_1127 dL_law_1128 dL_law_1129 dL_law_1130 ln_4 hl ?_
  refine lw_callV (d := 8) (ci := 8) (as := [.int (xs (i + 1)), .int (xs (i + 2)), .int (xs (i + 3)), .int (xs (i + 4))]) (st := [.int r]) hx hb hml hown hts hK hA (Nat.le_of_ble_eq_true rfl) (Nat.le_of_ble_eq_true rfl) (Nat.le_of_ble_eq_true rfl) (Nat.le_of_ble_eq_true rfl) dL_law_1131 lkL_145 hhm rfl (Nat.le_of_ble_eq_true rfl) B2 rfl rfl hPm hDm hPx hap.symm hS hl.1 (fun H locs hPm hDm hPx hap hS => ?_)
  refine lv_icmp_eq (tgt := 1202) hx hb dL_law_1134 rfl (fun _ => ?_) (fun c9 => absurd rfl c9)
  exact k _ _ _ _ ⟨hI1, hPx, hPm, hDx, hDm, hap.symm, hS⟩
theorem lwc_31 {p : Program} {l : Launch} {e : Env} {s : State} {m : MethodId} {below : List Frame} {meth : Method} {c : Code} {G : va_G} {cI cQ : ClassId} {b L : Nat} {xs : Nat → Int32} {Q : State → Prop} (F : lw_F p s m meth c G cI cQ b L xs) {H : Heap} {locs : List Loc} {adx adm : Nat → Nat} {hx0 hm0 : List sm_C} (I : lw_I G cI cQ s H locs adx adm hx0 hm0) {i : Nat} (hi : i + 6 ≤ L) {ls : Array Slot} (hl : lv_has ls 4 [(0, .ref b), (1, .ref (adx 0)), (2, .ref (adm 0)), (3, .int (nI i))])
    (k : lw_KK p l e s m below meth c G cI cQ b adx adm ls Q) : W p l e room_1 s m #[Value.ref b] below meth c H locs 39 3030 Q (F0 m 1139 ls []) := by
  obtain ⟨hx, hb, hml, hown, hts, hK, hX, hbl, hL⟩ := id F
  obtain ⟨hI, hPx, hPm, hDx, hDm, hap, hS⟩ := I
  have hA : ∀ q : Nat, s.heap.size ≤ q → (fun q : Nat => s.heap.size ≤ q) q := fun _ h => h
  have J : JO yX7_copy yX8_copy [.int (xs (i + 1)), .int (xs (i + 2)), .int (xs (i + 3)), .int (xs (i + 4)), .int (xs (i + 5))] hx0 hm0 := jo_copy hI
  obtain ⟨fx, hhx⟩ := inv_x hI
  obtain ⟨fm, hhm⟩ := inv_m hI
  obtain ⟨r, hx1, hm1, B1, B2, hI1⟩ := J
  refine lv_aload_n hx hb dL_law_1139 rfl (lv_at hl 1 rfl) ?_
  refine lw_arg (kk := 1) F hS (hi := (by omega)) dL_law_1140 dL_law_1141 dL_law_1142 dL_law_1143 dL_law_1144 ln_1 hl ?_
  refine lw_arg (kk := 2) F hS (hi := (by omega)) dL_law_1145 dL_law_1146 dL_law_1147 dL_law_1148 dL_law_1149 ln_2 hl ?_
  refine lw_arg (kk := 3) F hS (hi := (by omega)) dL_law_1150 dL_law_1151 dL_law_1152 dL_law_1153 dL_law_1154 ln_3 hl ?_
  refine lw_arg (kk := 4) F hS (hi := (by omega)) dL_law_1155 dL_law_1156 dL_law_1157 dL_law_1158 dL_law_1159 ln_4 hl ?_
  refine lw_arg (kk := 5) F hS (hi := (by omega)) dL_law_1160 dL_law_1161 dL_law_1162 dL_law_1163 dL_law_1164 ln_5 hl ?_
  refine lw_callV (d := 8) (ci := 7) (as := [.int (xs (i + 1)), .int (xs (i + 2)), .int (xs (i + 3)), .int (xs (i + 4)), .int (xs (i + 5))]) (st := []) hx hb hml hown hts hK hA (Nat.le_of_ble_eq_true rfl) (Nat.le_of_ble_eq_true rfl) (Nat.le_of_ble_eq_true rfl) (Nat.le_of_ble_eq_true rfl) dL_law_1165 lkL_146 hhx rfl (Nat.le_of_ble_eq_true rfl) B1 rfl rfl hPx hDx hPm hap hS hl.1 (fun H locs hPx hDx hPm hap hS => ?_)
  refine lv_aload_n hx hb dL_law_1168 rfl (lv_at hl 2 rfl) ?_
  refine lw_arg (kk := 1) F hS (hi := (by omega)) dL_law_1169 dL_law_1170 dL_law_1171 dL_law_1172 dL_law_1173 ln_1 hl ?_
  refine lw_arg (kk := 2) F hS (hi := (by omega)) dL_law_1174 dL_law_1175 dL_law_1176 dL_law_1177 dL_law_1178 ln_2 hl ?_
  refine lw_arg (kk := 3) F hS (hi := (by omega)) dL_law_1179 dL_law_1180 dL_law_1181 dL_law_1182 dL_law_1183 ln_3 hl ?_
  refine lw_arg (kk := 4) F hS (hi := (by omega)) dL_law_1184 dL_law_1185 dL_law_1186 dL_law_1187 dL_law_1188 ln_4 hl ?_
  refine lw_arg (kk := 5) F hS (hi := (by omega)) dL_law_1189 dL_law_1190 dL_law_1191 dL_law_1192 dL_law_1193 ln_5 hl ?_
  refine lw_callV (d := 8) (ci := 8) (as := [.int (xs (i + 1)), .int (xs (i + 2)), .int (xs (i + 3)), .int (xs (i + 4)), .int (xs (i + 5))]) (st := [.int r]) hx hb hml hown hts hK hA (Nat.le_of_ble_eq_true rfl) (Nat.le_of_ble_eq_true rfl) (Nat.le_of_ble_eq_true rfl) (Nat.le_of_ble_eq_true rfl) dL_law_1194 lkL_149 hhm rfl (Nat.le_of_ble_eq_true rfl) B2 rfl rfl hPm hDm hPx hap.symm hS hl.1 (fun H locs hPm hDm hPx hap hS => ?_)
  refine lv_icmp_eq (tgt := 1202) hx hb dL_law_1197 rfl (fun _ => ?_) (fun c9 => absurd rfl c9)
  exact k _ _ _ _ ⟨hI1, hPx, hPm, hDx, hDm, hap.symm, hS⟩
