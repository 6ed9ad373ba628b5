/-! THE LAW'S LOOP -/
theorem lw_31 (v : Int32) : ∃ k, k < 32 ∧ v &&& 31 = nI k := by
  refine ⟨(v &&& 31).toBitVec.toNat, ?_, ?_⟩
  · have h : (v &&& 31).toBitVec.toNat = v.toBitVec.toNat &&& 31 := rfl
    rw [h]; exact Nat.lt_succ_of_le Nat.and_le_right
  · apply Int32.toBitVec_inj.mp
    show _ = BitVec.ofNat 32 _
    simp
theorem lw_6 {i L : Nat} (hL : L ≤ 3072) (hi : i ≤ L + 6) (h : ¬ Int32.ofNat L - 6 < nI i) : i + 6 ≤ L := by
  have e1 : (nI L - 6).toInt = (L : Int) - 6 := by
    rw [Int32.toInt_sub, nI_toInt (by omega), show (6 : Int32).toInt = 6 from by decide]
    unfold Int.bmod
    simp only []
    split <;> omega
  have h2 : ¬ nI L - 6 < nI i := h
  rw [Int32.lt_iff_toInt_lt, e1, nI_toInt (by omega)] at h2
  omega
set_option maxHeartbeats 4000000 in
theorem law_loop {p : Program} {l : Launch} {e : Env} {s : State} {m : MethodId} {below : List Frame} {meth : Method} {c : Code} {G : va_G} {cI cQ : ClassId} {b L : Nat} {xs : Nat → Int32} (F : lw_F p s m meth c G cI cQ b L xs) (hr : meth.sig.returnType = ret) (hlocks : meth.locks = false) :
    ∀ (n i : Nat), i ≤ L + 6 → L + 7 ≤ i + n → ∀ (H : Heap) (locs : List Loc) (adx adm : Nat → Nat) (hx0 hm0 : List sm_C), lw_I G cI cQ s H locs adx adm hx0 hm0 → ∀ (ls : Array Slot), lv_has ls 4 [(0, .ref b), (1, .ref (adx 0)), (2, .ref (adm 0)), (3, .int (nI i))] → W p l e room_1 s m #[Value.ref b] below meth c H locs 39 3030 (lw_Z below #[Value.ref b] s) (F0 m 18 ls []) := by
  obtain ⟨hx, hb, hml, hown, hts, hK, hX, hbl, hL⟩ := id F
  have hbA : ¬ (fun q : Nat => s.heap.size ≤ q) b := Nat.not_le.mpr hbl
  intro n
  induction n with
  | zero =>
    intro i h1 h2
    exact absurd h2 (by omega)
  | succ n ih =>
    intro i hi hin H locs adx adm hx0 hm0 I ls hl
    have hS := I.2.2.2.2.2.2
    refine lv_iload_n hx hb dL_law_18 rfl (lv_at hl 3 rfl) ?_
    refine lv_aload_n hx hb dL_law_19 rfl (lv_at hl 0 rfl) ?_
    refine va_slen hx hb hX hbl hbA hS dL_law_20 ?_
    refine lv_bipush hx hb dL_law_21 bc_6 ?_
    refine lv_isub hx hb dL_law_23 ?_
    refine lv_icmp_gt (tgt := 1208) hx hb dL_law_24 rfl (fun c24 => ?_) (fun c24 => ?_)
    · refine lv_iconst (v := 1) hx hb dL_law_1208 (by decide) ?_
      refine va_forget (fun q hq => hS.2.2 q hq) ?_
      refine W.widen (k := 600000) (n := 7302249) (Nat.le_of_ble_eq_true rfl) (Nat.le_of_ble_eq_true rfl) ?_
      exact lw_ret hx hb hr hlocks dL_law_1209
    · have h6 := lw_6 hL hi c24
      have KK : lw_KK p l e s m below meth c G cI cQ b adx adm ls (lw_Z below #[Value.ref b] s) := by
        intro H locs hx1 hm1 I
        refine lv_iinc (v := nI (i + 6)) (lv' := [(3, .int (nI (i + 6))), (0, .ref b), (1, .ref (adx 0)), (2, .ref (adm 0))]) hx hb dL_law_1202 hl (k := 3) rfl (by rw [show Int32.ofInt 6 = nI 6 from by decide, nI_add]) (by decide) rfl (fun ls hl => ?_)
        refine lv_goto (tgt := 18) hx hb dL_law_1205 rfl ?_
        exact ih (i + 6) (by omega) (by omega) H locs adx adm hx1 hm1 I ls (lv_sub hl [1, 2, 3, 0] rfl)
      refine lv_aload_n hx hb dL_law_27 rfl (lv_at hl 0 rfl) ?_
      refine lv_iload_n hx hb dL_law_28 rfl (lv_at hl 3 rfl) ?_
      refine va_sld hx hb hX hbl hbA hS (vp_in_nI (n := i) (by omega) (by omega)) dL_law_29 ?_
      refine lv_bipush hx hb dL_law_30 (v := 31) (by decide) ?_
      refine lv_iand hx hb dL_law_32 ?_
      obtain ⟨k, hk, ek⟩ := lw_31 (xs (nI i).toNatClampNeg)
      rw [ek]
      match k, hk with
      | 0, _ => exact lv_tableIn (off := 143) (tgt := 176) hx hb dL_law_33 (by decide) (by decide) (by decide) rfl (lwc_0 F I h6 hl KK)
      | 1, _ => exact lv_tableIn (off := 186) (tgt := 219) hx hb dL_law_33 (by decide) (by decide) (by decide) rfl (lwc_1 F I h6 hl KK)
      | 2, _ => exact lv_tableIn (off := 229) (tgt := 262) hx hb dL_law_33 (by decide) (by decide) (by decide) rfl (lwc_2 F I h6 hl KK)
      | 3, _ => exact lv_tableIn (off := 262) (tgt := 295) hx hb dL_law_33 (by decide) (by decide) (by decide) rfl (lwc_3 F I h6 hl KK)
      | 4, _ => exact lv_tableIn (off := 275) (tgt := 308) hx hb dL_law_33 (by decide) (by decide) (by decide) rfl (lwc_4 F I h6 hl KK)
      | 5, _ => exact lv_tableIn (off := 308) (tgt := 341) hx hb dL_law_33 (by decide) (by decide) (by decide) rfl (lwc_5 F I h6 hl KK)
      | 6, _ => exact lv_tableIn (off := 371) (tgt := 404) hx hb dL_law_33 (by decide) (by decide) (by decide) rfl (lwc_6 F I h6 hl KK)
      | 7, _ => exact lv_tableIn (off := 384) (tgt := 417) hx hb dL_law_33 (by decide) (by decide) (by decide) rfl (lwc_7 F I h6 hl KK)
      | 8, _ => exact lv_tableIn (off := 407) (tgt := 440) hx hb dL_law_33 (by decide) (by decide) (by decide) rfl (lwc_8 F I h6 hl KK)
      | 9, _ => exact lv_tableIn (off := 430) (tgt := 463) hx hb dL_law_33 (by decide) (by decide) (by decide) rfl (lwc_9 F I h6 hl KK)
      | 10, _ => exact lv_tableIn (off := 453) (tgt := 486) hx hb dL_law_33 (by decide) (by decide) (by decide) rfl (lwc_10 F I h6 hl KK)
      | 11, _ => exact lv_tableIn (off := 476) (tgt := 509) hx hb dL_law_33 (by decide) (by decide) (by decide) rfl (lwc_11 F I h6 hl KK)
      | 12, _ => exact lv_tableIn (off := 499) (tgt := 532) hx hb dL_law_33 (by decide) (by decide) (by decide) rfl (lwc_12 F I h6 hl KK)
      | 13, _ => exact lv_tableIn (off := 522) (tgt := 555) hx hb dL_law_33 (by decide) (by decide) (by decide) rfl (lwc_13 F I h6 hl KK)
      | 14, _ => exact lv_tableIn (off := 535) (tgt := 568) hx hb dL_law_33 (by decide) (by decide) (by decide) rfl (lwc_14 F I h6 hl KK)
      | 15, _ => exact lv_tableIn (off := 548) (tgt := 581) hx hb dL_law_33 (by decide) (by decide) (by decide) rfl (lwc_15 F I h6 hl KK)
      | 16, _ => exact lv_tableIn (off := 561) (tgt := 594) hx hb dL_law_33 (by decide) (by decide) (by decide) rfl (lwc_16 F I h6 hl KK)
      | 17, _ => exact lv_tableIn (off := 574) (tgt := 607) hx hb dL_law_33 (by decide) (by decide) (by decide) rfl (lwc_17 F I h6 hl KK)
      | 18, _ => exact lv_tableIn (off := 597) (tgt := 630) hx hb dL_law_33 (by decide) (by decide) (by decide) rfl (lwc_18 F I h6 hl KK)
      | 19, _ => exact lv_tableIn (off := 660) (tgt := 693) hx hb dL_law_33 (by decide) (by decide) (by decide) rfl (lwc_19 F I h6 hl KK)
      | 20, _ => exact lv_tableIn (off := 703) (tgt := 736) hx hb dL_law_33 (by decide) (by decide) (by decide) rfl (lwc_20 F I h6 hl KK)
      | 21, _ => exact lv_tableIn (off := 756) (tgt := 789) hx hb dL_law_33 (by decide) (by decide) (by decide) rfl (lwc_21 F I h6 hl KK)
      | 22, _ => exact lv_tableIn (off := 819) (tgt := 852) hx hb dL_law_33 (by decide) (by decide) (by decide) rfl (lwc_22 F I h6 hl KK)
      | 23, _ => exact lv_tableIn (off := 832) (tgt := 865) hx hb dL_law_33 (by decide) (by decide) (by decide) rfl (lwc_23 F I h6 hl KK)
      | 24, _ => exact lv_tableIn (off := 855) (tgt := 888) hx hb dL_law_33 (by decide) (by decide) (by decide) rfl (lwc_24 F I h6 hl KK)
      | 25, _ => exact lv_tableIn (off := 868) (tgt := 901) hx hb dL_law_33 (by decide) (by decide) (by decide) rfl (lwc_25 F I h6 hl KK)
      | 26, _ => exact lv_tableIn (off := 881) (tgt := 914) hx hb dL_law_33 (by decide) (by decide) (by decide) rfl (lwc_26 F I h6 hl KK)
      | 27, _ => exact lv_tableIn (off := 934) (tgt := 967) hx hb dL_law_33 (by decide) (by decide) (by decide) rfl (lwc_27 F I h6 hl KK)
      | 28, _ => exact lv_tableIn (off := 987) (tgt := 1020) hx hb dL_law_33 (by decide) (by decide) (by decide) rfl (lwc_28 F I h6 hl KK)
      | 29, _ => exact lv_tableIn (off := 1030) (tgt := 1063) hx hb dL_law_33 (by decide) (by decide) (by decide) rfl (lwc_29 F I h6 hl KK)
      | 30, _ => exact lv_tableIn (off := 1053) (tgt := 1086) hx hb dL_law_33 (by decide) (by decide) (by decide) rfl (lwc_30 F I h6 hl KK)
      | 31, _ => exact lv_tableIn (off := 1106) (tgt := 1139) hx hb dL_law_33 (by decide) (by decide) (by decide) rfl (lwc_31 F I h6 hl KK)
      | k + 32, h => exact absurd h (by omega)
/-! FROM THE ENTRY -/
theorem sm_w_1 {cI cQ : ClassId} {ad : Nat → Nat} {ci : Nat} {fs : List Value} (hf : fs.map (sm_c ad) = fs) : sm_w cI cQ ad [hO ci fs] = [(ad 0, .inr (ci, fs))] := by
  show [(ad 0, Sum.inr (ci, fs.map (sm_c ad)))] = _
  rw [hf]
set_option maxHeartbeats 4000000 in
theorem whole_start {p : Program} {e : Env} {s : State} {m : MethodId} {below : List Frame} {meth : Method} {c : Code} (l : Launch) (hflags : l.flags = flags0) {b L : Nat} {xs : Nat → Int32} (hL : L ≤ 3072) (C0 : lw_At p s m meth c b L xs) : W p l e room_1 s m #[Value.ref b] below meth c s.heap [] 0 0 (lw_Z below #[Value.ref b] s) (entryFrame m ([Value.ref b] : List Value).toArray 4) := by
  obtain ⟨hx, hb, hr, hml, hown, hts, hX, hbl, hlocks, hgv⟩ := id C0
  obtain ⟨G, cI, cQ, hK⟩ := lw_tys hts
  have hown : s.vm.findClass RL = some m.cls := hown
  have F : lw_F p s m meth c G cI cQ b L xs := ⟨hx, hb, hml, hown, hts, hK, hX, hbl, hL⟩
  have hA : ∀ q : Nat, s.heap.size ≤ q → (fun q : Nat => s.heap.size ≤ q) q := fun _ h => h
  have hS : va_S (fun q : Nat => s.heap.size ≤ q) s.heap s.heap [] := va_S.rf
  have hP : va_P G vwCl [] s.heap := fun k q h => by simp at h
  have hD : va_D (fun q : Nat => s.heap.size ≤ q) [] := ⟨fun i j p q h => by simp at h, fun k q h => by simp at h⟩
  have hl := lv_entry ([.ref b]) (n := 4) (Nat.le_of_ble_eq_true rfl)
  rw [lg_entry_eq]
  generalize (lg_sl ([.ref b]) ++ List.replicate (4 - (lg_sl ([.ref b])).length) Slot.unset).toArray = ls at hl ⊢
  have hl : lv_has ls 4 [(0, .ref b)] := hl
  refine va_new (ci := 7) (fs := oX7) (C := RX7) (T := TX7) (N := 8) hx hb hts inX7 tyX7 tyX7_ok hown (hts _ clL_7) (hts _ bnX7) (hts _ iiX7) hK hP hD hS hA rfl (by decide) (Nat.le_of_ble_eq_true rfl) (Nat.le_of_ble_eq_true rfl) dL_law_0 (fun qx H hP hD hS => ?_)
  refine lv_dup hx hb dL_law_3 rfl ?_
  have ew : sm_w cI cQ (fun _ => qx) [hO 7 oX7] = [(qx, .inr (7, oX7))] := sm_w_1 rfl
  refine lw_callI (d := 8) (a := 0) (ad := fun _ => qx) (w2 := []) (st := [.ref qx]) hx hb hml hown hts hK hA (Nat.le_of_ble_eq_true rfl) (Nat.le_of_ble_eq_true rfl) (Nat.le_of_ble_eq_true rfl) (Nat.le_of_ble_eq_true rfl) dL_law_4 lkL_9 (Nat.le_of_ble_eq_true rfl) nb_x rfl (by rw [ew]; exact hP) (by rw [ew]; exact hD) (fun k q h => by simp at h) (fun i j p q hp hq => by simp at hq) hS hl.1 (fun adx H locs hex hPx hDx _ _ hS => ?_)
  have hqx : adx 0 = qx := hex 0 (by decide)
  refine lv_astore_n (lv' := [(1, .ref qx), (0, .ref b)]) hx hb dL_law_7 rfl hl (by decide) rfl (fun ls hl => ?_)
  refine va_new (ci := 8) (fs := oX8) (C := RX8) (T := TX8) (N := 15) hx hb hts inX8 tyX8 tyX8_ok hown (hts _ clL_10) (hts _ bnX8) (hts _ iiX8) hK hPx hDx hS hA rfl (by decide) (Nat.le_of_ble_eq_true rfl) (Nat.le_of_ble_eq_true rfl) dL_law_8 (fun qm H hP2 hD2 hS => ?_)
  refine lv_dup hx hb dL_law_11 rfl ?_
  have em : sm_w cI cQ (fun _ => qm) [hO 8 oX8] = [(qm, .inr (8, oX8))] := sm_w_1 rfl
  have hPx : va_P G vwCl (sm_w cI cQ adx wx0) H := fun k q hk => hP2 k q (by rw [List.getElem?_append_left (List.getElem?_eq_some_iff.mp hk).1]; exact hk)
  have hPm : va_P G vwCl [(qm, .inr (8, oX8))] H := fun k q hk => hP2 ((sm_w cI cQ adx wx0).length + k) q (by rw [List.getElem?_append_right (by omega), Nat.add_sub_cancel_left]; exact hk)
  have hDm : va_D (fun q : Nat => s.heap.size ≤ q) [(qm, .inr (8, oX8))] := by
    have hz : ∀ (k : Nat) (q : Nat × va_E), ([(qm, .inr (8, oX8))] : va_W)[k]? = some q → (sm_w cI cQ adx wx0 ++ [(qm, .inr (8, oX8))])[(sm_w cI cQ adx wx0).length + k]? = some q := fun k q hk => by rw [List.getElem?_append_right (by omega), Nat.add_sub_cancel_left]; exact hk
    exact ⟨fun i j p q hp hq h9 => by have := hD2.1 _ _ _ _ (hz i p hp) (hz j q hq) h9; omega, fun k q hk => hD2.2 _ q (hz k q hk)⟩
  have hap : ap ([(qm, .inr (8, oX8))] : va_W) (sm_w cI cQ adx wx0) := by
    intro i j p q hp hq h9
    have hj := (List.getElem?_eq_some_iff.mp hq).1
    have := hD2.1 ((sm_w cI cQ adx wx0).length + i) j p q (by rw [List.getElem?_append_right (by omega), Nat.add_sub_cancel_left]; exact hp) (by rw [List.getElem?_append_left hj]; exact hq) h9
    omega
  refine lw_callI (d := 8) (a := 0) (ad := fun _ => qm) (w2 := sm_w cI cQ adx wx0) (st := [.ref qm]) hx hb hml hown hts hK hA (Nat.le_of_ble_eq_true rfl) (Nat.le_of_ble_eq_true rfl) (Nat.le_of_ble_eq_true rfl) (Nat.le_of_ble_eq_true rfl) dL_law_12 lkL_12 (Nat.le_of_ble_eq_true rfl) nb_m rfl (by rw [em]; exact hPm) (by rw [em]; exact hDm) hPx (by rw [em]; exact hap) hS hl.1 (fun adm H locs hem hPm hDm hPx hap hS => ?_)
  have hqm : adm 0 = qm := hem 0 (by decide)
  refine lv_astore_n (lv' := [(2, .ref qm), (1, .ref qx), (0, .ref b)]) hx hb dL_law_15 rfl hl (by decide) rfl (fun ls hl => ?_)
  refine lv_iconst (v := 0) hx hb dL_law_16 (by decide) ?_
  refine lv_istore_n (lv' := [(3, .int 0), (2, .ref qm), (1, .ref qx), (0, .ref b)]) hx hb dL_law_17 rfl hl (by decide) rfl (fun ls hl => ?_)
  have hl2 : lv_has ls 4 [(0, .ref b), (1, .ref (adx 0)), (2, .ref (adm 0)), (3, .int (nI 0))] := by
    rw [hqx, hqm, nI_0]; exact lv_sub hl [3, 2, 1, 0] rfl
  exact law_loop F hr hlocks (L + 7) 0 (by omega) (by omega) H locs adx adm wx0 wm0 ⟨inv_0, hPx, hPm, hDx, hDm, hap.symm, hS⟩ ls hl2
