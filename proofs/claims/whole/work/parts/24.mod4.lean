/-! THE REFERENCE: words, lots, settings, the tape, images -/
def wsE : Nat → Nat → (Nat → Int32) → Nat → Int32
  | 0, _, w => w
  | j + 1, e, w => wsE j (e + 1) (upd w e (if e = 0 then 1 else 0))
def nx1 (lies : Int32) (i e : Nat) (w x : Nat → Int32) : Nat → Int32 := if bt lies i then x else upd x (e / 4 * 4 + mdM i (e % 4) false) (x (e / 4 * 4 + mdM i (e % 4) false) + w e)
def nx2 (law op : Int32) (i e : Nat) (w x : Nat → Int32) : Nat → Int32 := if decide (e < 36) && (bt op i && ltM law i (e % 4)) then upd x (e / 4 * 4 + 4 + mdM i (e % 4) true) (x (e / 4 * 4 + 4 + mdM i (e % 4) true) + w e) else x
def nxE (law op lies : Int32) (i : Nat) (w : Nat → Int32) : Nat → Nat → (Nat → Int32) → Nat → Int32
  | 0, _, x => x
  | j + 1, e, x => nxE law op lies i w j (e + 1) (nx2 law op i e w (nx1 lies i e w x))
def cpN : Nat → Nat → (Nat → Int32) → (Nat → Int32) → Nat → Int32
  | 0, _, w, _ => w
  | j + 1, e, w, x => cpN j (e + 1) (upd w e (x e)) x
def stO (law op lies : Int32) : Nat → Nat → (Nat → Int32) → (Nat → Int32) → (Nat → Int32) × (Nat → Int32)
  | 0, _, w, x => (w, x)
  | j + 1, i, w, x => stO law op lies j (i + 1) (cpN 40 0 w (nxE law op lies i w 40 0 (zr 40 0 x))) (nxE law op lies i w 40 0 (zr 40 0 x))
def stW (law words truths lies : Int32) (w x : Nat → Int32) : (Nat → Int32) × (Nat → Int32) := stO law (words &&& (truths ^^^ (-1))) lies 28 0 (wsE 40 0 w) x
def r4 (w : Nat → Int32) (k : Nat) : Int32 := w (4 * k) + w (4 * k + 1) + w (4 * k + 2) + w (4 * k + 3)
def smL (law words truths lies what : Int32) (k : Nat) : Nat → Nat → Int32 → (Nat → Int32) → (Nat → Int32) → Int32 × (Nat → Int32) × (Nat → Int32)
  | 0, _, s, w, x => (s, w, x)
  | j + 1, i, s, w, x => if bt words i then
      (if bt (if what = 0 then lies else truths) i then smL law words truths lies what k j (i + 1) (s ||| b1 i) w x
       else if bt (if what = 0 then truths else lies) i then smL law words truths lies what k j (i + 1) s w x
       else smL law words truths lies what k j (i + 1) (s ||| (if r4 (stW law words (if what = 0 then truths ||| b1 i else truths) (if what = 0 then lies else lies ||| b1 i) w x).1 k = 0 then b1 i else 0)) (stW law words (if what = 0 then truths ||| b1 i else truths) (if what = 0 then lies else lies ||| b1 i) w x).1 (stW law words (if what = 0 then truths ||| b1 i else truths) (if what = 0 then lies else lies ||| b1 i) w x).2)
    else smL law words truths lies what k j (i + 1) s w x
def drM (x : Int32) : Int32 := ((x.toInt64 * 1103515245 + 12345) &&& 2147483647).toInt32
def lyL (n : Nat) (nw : Nat → Int32) (law x : Int32) (i l mi : Nat) : Bool := myM law nw i l mi && decide (x / 65536 - x / 65536 / (nI n - nI i) * (nI n - nI i) < nI l)
def lotM (n : Nat) (nw : Nat → Int32) (law : Int32) : Nat → Nat → Int32 → Nat → Nat → Int32 → Int32 × Int32
  | 0, _, s, _, _, x => (s, x)
  | j + 1, i, s, l, mi, x => if lyL n nw law (drM x) i l mi then lotM n nw law j (i + 1) (s ||| b1 i) (l - 1) (mdM i mi true) (drM x) else lotM n nw law j (i + 1) s l (mdM i mi false) (drM x)
def b64 (w : Int64) (i : Nat) : Int64 := (w >>> ((8 * nI i : Int32).toInt64 &&& 63)) &&& 255
def tbM (w : Int64) : Nat → Nat → Bool → Bool
  | 0, _, g => g
  | j + 1, i, g => tbM w j (i + 1) (g && in64 (b64 w i) 32 126)
def apM (w : Int64) : Nat → (Nat → Int32) → Nat → (Nat → Int32)
  | 0, f, _ => f
  | r + 1, f, m => apM w r (upd f m (b64 w r).toInt32) (m + 1)
section M4
variable {d : Nat} {h : List sm_C} {ik td at_ sz rd : Int32} {n : Nat} {nw wo co se a w x : Nat → Int32}
theorem bs_X8_setsOf {k : Nat} {words truths lies : Int32} (m0 : h[0]? = some (mO ik td at_ sz rd)) (hN : rN h n nw wo co se a) (m9 : h[9]? = some (hI 40 w)) (m10 : h[10]? = some (hI 40 x)) (hk : k ≤ 9) : BS (d + 3) false yX8_setsOf [.ref 0, .int words, .int truths, .int lies, .int (nI k)] h (some (.int (r4 (stW (se 1) words truths lies w x).1 k))) ((h.set 9 (hI 40 (stW (se 1) words truths lies w x).1)).set 10 (hI 40 (stW (se 1) words truths lies w x).2)) := by
  have s1 := hN.2.2.2.1.2.1
  have A0 : ∀ w x : Nat → Int32, ((h.set 9 (hI 40 w)).set 10 (hI 40 x))[0]? = some (mO ik td at_ sz rd) := fun w x => m0_oth (m0_oth m0 (by decide)) (by decide)
  have AN : ∀ w x : Nat → Int32, rN ((h.set 9 (hI 40 w)).set 10 (hI 40 x)) n nw wo co se a := fun w x => rN_oth (rN_oth hN (by decide)) (by decide)
  have A9 : ∀ w x : Nat → Int32, ((h.set 9 (hI 40 w)).set 10 (hI 40 x))[9]? = some (hI 40 w) := fun w x => sm_h_ne (sm_h_eq m9) (sm_h_ne m10 m9 (by decide)) (by decide)
  have A10 : ∀ w x : Nat → Int32, ((h.set 9 (hI 40 w)).set 10 (hI 40 x))[10]? = some (hI 40 x) := fun w x => sm_h_eq (sm_h_ne m10 m9 (by decide))
  have S9 : ∀ w x w2 : Nat → Int32, ((h.set 9 (hI 40 w)).set 10 (hI 40 x)).set 9 (hI 40 w2) = (h.set 9 (hI 40 w2)).set 10 (hI 40 x) := fun w x w2 => by rw [List.set_comm _ _ (by decide : (10 : Nat) ≠ 9), List.set_set]
  have S10 : ∀ w x x2 : Nat → Int32, ((h.set 9 (hI 40 w)).set 10 (hI 40 x)).set 10 (hI 40 x2) = (h.set 9 (hI 40 w)).set 10 (hI 40 x2) := fun w x x2 => by rw [List.set_set]
  refine bs_of mtX8_setsOf rfl (Nat.le_of_ble_eq_true rfl) (fun K R RV RS E => ?_)
  show K 0 [_, _, _, _, _, _, _] [] _
  generalize hop : words &&& (truths ^^^ (-1)) = op
  have hst : ∀ w x, stW (se 1) words truths lies w x = stO (se 1) op lies 28 0 (wsE 40 0 w) x := fun w x => by rw [stW, hop]
  rw [hst] at E
  have outer : ∀ (j i : Nat) (w2 x2 : Nat → Int32) (z6 : Option Value), i + j = 28 → stO (se 1) op lies j i w2 x2 = stO (se 1) op lies 28 0 (wsE 40 0 w) x → K 36 [some (.ref 0), some (.int words), some (.int truths), some (.int lies), some (.int (nI k)), some (.int (nI i)), z6] [] ((h.set 9 (hI 40 w2)).set 10 (hI 40 x2)) := by
    intro j
    induction j with
    | zero =>
      intro i w2 x2 z6 hi hs
      rw [← hs] at E
      have a0 := A0 w2 x2
      have a9 := A9 w2 x2
      have e4 : (4 : Int32) * nI k = nI (4 * k) := pk_mul 4 k
      refine rl_iload (pc := 36) R dX8_setsOf_36 rfl ?_
      refine rl_bipush (pc := 38) R dX8_setsOf_38 bc_28 ?_
      refine rl_icmp_ge (pc := 40) (tgt := 232) R dX8_setsOf_40 rfl (fun c40 => ?_) (fun c40 => absurd (nI_le (a := 28) (by omega) (by omega)) c40)
      refine rl_aload_n (pc := 232) R dX8_setsOf_232 rfl ?_
      refine rl_getf (pc := 233) R dX8_setsOf_233 fkX8_34 a0 rfl ?_
      refine rl_iconst (pc := 236) R dX8_setsOf_236 ic_4 ?_
      refine rl_iload (pc := 237) R dX8_setsOf_237 rfl ?_
      refine rl_imul (pc := 239) R dX8_setsOf_239 ?_
      rw [e4]
      refine rl_iald (pc := 240) R dX8_setsOf_240 a9 rfl (by omega) (by decide) ?_
      refine rl_aload_n (pc := 241) R dX8_setsOf_241 rfl ?_
      refine rl_getf (pc := 242) R dX8_setsOf_242 fkX8_34 a0 rfl ?_
      refine rl_iconst (pc := 245) R dX8_setsOf_245 ic_4 ?_
      refine rl_iload (pc := 246) R dX8_setsOf_246 rfl ?_
      refine rl_imul (pc := 248) R dX8_setsOf_248 ?_
      rw [e4]
      refine rl_iconst (pc := 249) R dX8_setsOf_249 ic_1 ?_
      refine rl_iadd (pc := 250) R dX8_setsOf_250 ?_
      refine rl_iald (pc := 251) R dX8_setsOf_251 a9 (nI_add (4 * k) 1) (by omega) (by decide) ?_
      refine rl_iadd (pc := 252) R dX8_setsOf_252 ?_
      refine rl_aload_n (pc := 253) R dX8_setsOf_253 rfl ?_
      refine rl_getf (pc := 254) R dX8_setsOf_254 fkX8_34 a0 rfl ?_
      refine rl_iconst (pc := 257) R dX8_setsOf_257 ic_4 ?_
      refine rl_iload (pc := 258) R dX8_setsOf_258 rfl ?_
      refine rl_imul (pc := 260) R dX8_setsOf_260 ?_
      rw [e4]
      refine rl_iconst (pc := 261) R dX8_setsOf_261 ic_2 ?_
      refine rl_iadd (pc := 262) R dX8_setsOf_262 ?_
      refine rl_iald (pc := 263) R dX8_setsOf_263 a9 (nI_add (4 * k) 2) (by omega) (by decide) ?_
      refine rl_iadd (pc := 264) R dX8_setsOf_264 ?_
      refine rl_aload_n (pc := 265) R dX8_setsOf_265 rfl ?_
      refine rl_getf (pc := 266) R dX8_setsOf_266 fkX8_34 a0 rfl ?_
      refine rl_iconst (pc := 269) R dX8_setsOf_269 ic_4 ?_
      refine rl_iload (pc := 270) R dX8_setsOf_270 rfl ?_
      refine rl_imul (pc := 272) R dX8_setsOf_272 ?_
      rw [e4]
      refine rl_iconst (pc := 273) R dX8_setsOf_273 ic_3 ?_
      refine rl_iadd (pc := 274) R dX8_setsOf_274 ?_
      refine rl_iald (pc := 275) R dX8_setsOf_275 a9 (nI_add (4 * k) 3) (by omega) (by decide) ?_
      refine rl_iadd (pc := 276) R dX8_setsOf_276 ?_
      exact rl_ireturn (pc := 277) E dX8_setsOf_277 rfl rfl (rfl)
    | succ j ih =>
      intro i w2 x2 z6 hi hs
      have copy : ∀ (j2 e : Nat) (w3 x3 : Nat → Int32), e + j2 = 40 → x3 = nxE (se 1) op lies i w2 40 0 (zr 40 0 x2) → cpN j2 e w3 x3 = cpN 40 0 w2 x3 → K 199 [some (.ref 0), some (.int words), some (.int truths), some (.int lies), some (.int (nI k)), some (.int (nI i)), some (.int (nI e))] [] ((h.set 9 (hI 40 w3)).set 10 (hI 40 x3)) := by
        intro j2
        induction j2 with
        | zero =>
          intro e w3 x3 he hx3 hc
          refine rl_iload (pc := 199) R dX8_setsOf_199 rfl ?_
          refine rl_bipush (pc := 201) R dX8_setsOf_201 bc_40 ?_
          refine rl_icmp_ge (pc := 203) (tgt := 226) R dX8_setsOf_203 rfl (fun c203 => ?_) (fun c203 => absurd (nI_le (a := 40) (by omega) (by omega)) c203)
          refine rl_iinc (pc := 226) R dX8_setsOf_226 rfl (ii_n i) rfl ?_
          show K _ [_, _, _, _, _, _, _] _ _
          refine rl_goto (pc := 229) (tgt := 36) R dX8_setsOf_229 rfl (ih (i + 1) _ _ _ (by omega) (by rw [← hs, stO, ← hx3, ← hc]; rfl))
        | succ j2 ih2 =>
          intro e w3 x3 he hx3 hc
          have a0 := A0 w3 x3
          refine rl_iload (pc := 199) R dX8_setsOf_199 rfl ?_
          refine rl_bipush (pc := 201) R dX8_setsOf_201 bc_40 ?_
          refine rl_icmp_ge (pc := 203) (tgt := 226) R dX8_setsOf_203 rfl (fun c203 => absurd c203 (nI_ge (b := 40) (by omega) (by omega))) (fun c203 => ?_)
          refine rl_aload_n (pc := 206) R dX8_setsOf_206 rfl ?_
          refine rl_getf (pc := 207) R dX8_setsOf_207 fkX8_34 a0 rfl ?_
          refine rl_iload (pc := 210) R dX8_setsOf_210 rfl ?_
          refine rl_aload_n (pc := 212) R dX8_setsOf_212 rfl ?_
          refine rl_getf (pc := 213) R dX8_setsOf_213 fkX8_37 a0 rfl ?_
          refine rl_iload (pc := 216) R dX8_setsOf_216 rfl ?_
          refine rl_iald (pc := 218) R dX8_setsOf_218 (A10 w3 x3) rfl (by omega) (by decide) ?_
          refine rl_iast (pc := 219) R dX8_setsOf_219 (A9 w3 x3) rfl (by omega) (by decide) ?_
          rw [S9]
          refine rl_iinc (pc := 220) R dX8_setsOf_220 rfl (ii_n e) rfl ?_
          show K _ [_, _, _, _, _, _, _] _ _
          refine rl_goto (pc := 223) (tgt := 199) R dX8_setsOf_223 rfl (ih2 (e + 1) _ _ (by omega) hx3 (by rw [← hc]; rfl))
      have body : ∀ (j2 e : Nat) (x3 : Nat → Int32), e + j2 = 40 → nxE (se 1) op lies i w2 j2 e x3 = nxE (se 1) op lies i w2 40 0 (zr 40 0 x2) → K 70 [some (.ref 0), some (.int words), some (.int truths), some (.int lies), some (.int (nI k)), some (.int (nI i)), some (.int (nI e))] [] ((h.set 9 (hI 40 w2)).set 10 (hI 40 x3)) := by
        intro j2
        induction j2 with
        | zero =>
          intro e x3 he hx3
          refine rl_iload (pc := 70) R dX8_setsOf_70 rfl ?_
          refine rl_bipush (pc := 72) R dX8_setsOf_72 bc_40 ?_
          refine rl_icmp_ge (pc := 74) (tgt := 196) R dX8_setsOf_74 rfl (fun c74 => ?_) (fun c74 => absurd (nI_le (a := 40) (by omega) (by omega)) c74)
          refine rl_iconst (pc := 196) R dX8_setsOf_196 ic_0 ?_
          refine rl_istore (pc := 197) R dX8_setsOf_197 (Nat.le_of_ble_eq_true rfl) rfl ?_
          show K _ [_, _, _, _, _, _, _] _ _
          exact copy 40 0 w2 x3 rfl hx3 rfl
        | succ j2 ih2 =>
          intro e x3 he hx3
          have d4 : nI e / 4 = nI (e / 4) := pk_div (d := 4) (by omega) (by decide) (by decide)
          have r4' : nI e - nI e / 4 * 4 = nI (e % 4) := pk_rem (d := 4) (by omega) (by decide) (by decide)
          have m4 : nI (e / 4) * 4 = nI (e / 4 * 4) := pk_mul _ 4
          have a4 : nI (e / 4 * 4) + 4 = nI (e / 4 * 4 + 4) := nI_add _ 4
          have hm0 := mdM_le i (e % 4) false
          have hm1 := mdM_le i (e % 4) true
          have fin : ∀ x4 : Nat → Int32, x4 = nx2 (se 1) op i e w2 (nx1 lies i e w2 x3) → K 190 [some (.ref 0), some (.int words), some (.int truths), some (.int lies), some (.int (nI k)), some (.int (nI i)), some (.int (nI e))] [] ((h.set 9 (hI 40 w2)).set 10 (hI 40 x4)) := by
            intro x4 hx4
            refine rl_iinc (pc := 190) R dX8_setsOf_190 rfl (ii_n e) rfl ?_
            show K _ [_, _, _, _, _, _, _] _ _
            refine rl_goto (pc := 193) (tgt := 70) R dX8_setsOf_193 rfl (ih2 (e + 1) _ (by omega) (by rw [← hx3, hx4]; rfl))
          have second : ∀ x4 : Nat → Int32, x4 = nx1 lies i e w2 x3 → K 118 [some (.ref 0), some (.int words), some (.int truths), some (.int lies), some (.int (nI k)), some (.int (nI i)), some (.int (nI e))] [] ((h.set 9 (hI 40 w2)).set 10 (hI 40 x4)) := by
            intro x4 hx4
            have a0 := A0 w2 x4
            have an := AN w2 x4
            refine rl_iload (pc := 118) R dX8_setsOf_118 rfl ?_
            refine rl_bipush (pc := 120) R dX8_setsOf_120 bc_36 ?_
            refine rl_icmp_ge (pc := 122) (tgt := 190) R dX8_setsOf_122 rfl (fun c122 => ?_) (fun c122 => ?_)
            · exact fin x4 (by rw [nx2, ← hx4, decide_eq_false (fun z => nI_ge (b := 36) z (by omega) c122)]; rfl)
            · have e36 : e < 36 := (nI_ltI (b := 36) (by omega) (by decide)).mp (Int32.not_le.mp c122)
              refine rl_iload_n (pc := 125) R dX8_setsOf_125 rfl ?_
              refine rl_iload_n (pc := 126) R dX8_setsOf_126 rfl ?_
              refine rl_iconst (pc := 127) R dX8_setsOf_127 ic_m1 ?_
              refine rl_ixor (pc := 128) R dX8_setsOf_128 ?_
              refine rl_iand (pc := 129) R dX8_setsOf_129 ?_
              rw [hop]
              refine rl_iload (pc := 130) R dX8_setsOf_130 rfl ?_
              refine rl_S2 (pc := 132) RS dX8_setsOf_132 lkX8_102 (Nat.le_of_ble_eq_true rfl) (bs_X8_has) ?_
              refine rl_if_eq (pc := 135) (tgt := 190) R dX8_setsOf_135 rfl (fun c135 => ?_) (fun c135 => ?_)
              · exact fin x4 (by rw [bI_0] at c135; rw [nx2, ← hx4, c135, decide_eq_true e36]; rfl)
              · rw [bI_n0] at c135
                refine rl_aload_n (pc := 138) R dX8_setsOf_138 rfl ?_
                refine rl_getf (pc := 139) R dX8_setsOf_139 fkX8_7 a0 rfl ?_
                refine rl_iconst (pc := 142) R dX8_setsOf_142 ic_1 ?_
                refine rl_iald (pc := 143) R dX8_setsOf_143 an.1 (rfl : (1 : Int32) = nI 1) (by decide) (by decide) ?_
                rw [s1]
                refine rl_iload (pc := 144) R dX8_setsOf_144 rfl ?_
                refine rl_iload (pc := 146) R dX8_setsOf_146 rfl ?_
                refine rl_iconst (pc := 148) R dX8_setsOf_148 ic_4 ?_
                refine rl_irem (pc := 149) R dX8_setsOf_149 (by decide) ?_
                rw [r4']
                refine rl_S3 (pc := 150) RS dX8_setsOf_150 lkX8_115 (Nat.le_of_ble_eq_true rfl) (bs_X8_lets (by omega) (by omega)) ?_
                refine rl_if_eq (pc := 153) (tgt := 190) R dX8_setsOf_153 rfl (fun c153 => ?_) (fun c153 => ?_)
                · exact fin x4 (by rw [bI_0] at c153; rw [nx2, ← hx4, c135, c153, decide_eq_true e36]; rfl)
                · rw [bI_n0] at c153
                  refine rl_aload_n (pc := 156) R dX8_setsOf_156 rfl ?_
                  refine rl_getf (pc := 157) R dX8_setsOf_157 fkX8_37 a0 rfl ?_
                  refine rl_iload (pc := 160) R dX8_setsOf_160 rfl ?_
                  refine rl_iconst (pc := 162) R dX8_setsOf_162 ic_4 ?_
                  refine rl_idiv (pc := 163) R dX8_setsOf_163 (by decide) ?_
                  rw [d4]
                  refine rl_iconst (pc := 164) R dX8_setsOf_164 ic_4 ?_
                  refine rl_imul (pc := 165) R dX8_setsOf_165 ?_
                  rw [m4]
                  refine rl_iconst (pc := 166) R dX8_setsOf_166 ic_4 ?_
                  refine rl_iadd (pc := 167) R dX8_setsOf_167 ?_
                  rw [a4]
                  refine rl_iload (pc := 168) R dX8_setsOf_168 rfl ?_
                  refine rl_iload (pc := 170) R dX8_setsOf_170 rfl ?_
                  refine rl_iconst (pc := 172) R dX8_setsOf_172 ic_4 ?_
                  refine rl_irem (pc := 173) R dX8_setsOf_173 (by decide) ?_
                  rw [r4']
                  refine rl_iconst (pc := 174) R dX8_setsOf_174 ic_1 ?_
                  refine rl_S3 (pc := 175) RS dX8_setsOf_175 lkX8_105 (Nat.le_of_ble_eq_true rfl) (bs_X8_minds (b := true) (by omega) (by omega)) ?_
                  refine rl_iadd (pc := 178) R dX8_setsOf_178 ?_
                  refine rl_dup2 (pc := 179) R dX8_setsOf_179 rfl rfl ?_
                  refine rl_iald (pc := 180) R dX8_setsOf_180 (A10 w2 x4) (nI_add (e / 4 * 4 + 4) _) (by omega) (by decide) ?_
                  refine rl_aload_n (pc := 181) R dX8_setsOf_181 rfl ?_
                  refine rl_getf (pc := 182) R dX8_setsOf_182 fkX8_34 a0 rfl ?_
                  refine rl_iload (pc := 185) R dX8_setsOf_185 rfl ?_
                  refine rl_iald (pc := 187) R dX8_setsOf_187 (A9 w2 x4) rfl (by omega) (by decide) ?_
                  refine rl_iadd (pc := 188) R dX8_setsOf_188 ?_
                  refine rl_iast (pc := 189) R dX8_setsOf_189 (A10 w2 x4) (nI_add (e / 4 * 4 + 4) _) (by omega) (by decide) ?_
                  rw [S10]
                  exact fin _ (by rw [nx2, ← hx4, c135, c153, decide_eq_true e36]; rfl)
          have a0 := A0 w2 x3
          refine rl_iload (pc := 70) R dX8_setsOf_70 rfl ?_
          refine rl_bipush (pc := 72) R dX8_setsOf_72 bc_40 ?_
          refine rl_icmp_ge (pc := 74) (tgt := 196) R dX8_setsOf_74 rfl (fun c74 => absurd c74 (nI_ge (b := 40) (by omega) (by omega))) (fun c74 => ?_)
          refine rl_iload_n (pc := 77) R dX8_setsOf_77 rfl ?_
          refine rl_iload (pc := 78) R dX8_setsOf_78 rfl ?_
          refine rl_S2 (pc := 80) RS dX8_setsOf_80 lkX8_102 (Nat.le_of_ble_eq_true rfl) (bs_X8_has) ?_
          refine rl_if_ne (pc := 83) (tgt := 118) R dX8_setsOf_83 rfl (fun c83 => ?_) (fun c83 => ?_)
          · exact second x3 (by rw [bI_n0] at c83; rw [nx1, c83]; rfl)
          · rw [bI_0] at c83
            refine rl_aload_n (pc := 86) R dX8_setsOf_86 rfl ?_
            refine rl_getf (pc := 87) R dX8_setsOf_87 fkX8_37 a0 rfl ?_
            refine rl_iload (pc := 90) R dX8_setsOf_90 rfl ?_
            refine rl_iconst (pc := 92) R dX8_setsOf_92 ic_4 ?_
            refine rl_idiv (pc := 93) R dX8_setsOf_93 (by decide) ?_
            rw [d4]
            refine rl_iconst (pc := 94) R dX8_setsOf_94 ic_4 ?_
            refine rl_imul (pc := 95) R dX8_setsOf_95 ?_
            rw [m4]
            refine rl_iload (pc := 96) R dX8_setsOf_96 rfl ?_
            refine rl_iload (pc := 98) R dX8_setsOf_98 rfl ?_
            refine rl_iconst (pc := 100) R dX8_setsOf_100 ic_4 ?_
            refine rl_irem (pc := 101) R dX8_setsOf_101 (by decide) ?_
            rw [r4']
            refine rl_iconst (pc := 102) R dX8_setsOf_102 ic_0 ?_
            refine rl_S3 (pc := 103) RS dX8_setsOf_103 lkX8_105 (Nat.le_of_ble_eq_true rfl) (bs_X8_minds (b := false) (by omega) (by omega)) ?_
            refine rl_iadd (pc := 106) R dX8_setsOf_106 ?_
            refine rl_dup2 (pc := 107) R dX8_setsOf_107 rfl rfl ?_
            refine rl_iald (pc := 108) R dX8_setsOf_108 (A10 w2 x3) (nI_add (e / 4 * 4) _) (by omega) (by decide) ?_
            refine rl_aload_n (pc := 109) R dX8_setsOf_109 rfl ?_
            refine rl_getf (pc := 110) R dX8_setsOf_110 fkX8_34 a0 rfl ?_
            refine rl_iload (pc := 113) R dX8_setsOf_113 rfl ?_
            refine rl_iald (pc := 115) R dX8_setsOf_115 (A9 w2 x3) rfl (by omega) (by decide) ?_
            refine rl_iadd (pc := 116) R dX8_setsOf_116 ?_
            refine rl_iast (pc := 117) R dX8_setsOf_117 (A10 w2 x3) (nI_add (e / 4 * 4) _) (by omega) (by decide) ?_
            rw [S10]
            exact second _ (by rw [nx1, c83]; rfl)
      have zero : ∀ (j2 e : Nat) (x3 : Nat → Int32), e + j2 = 40 → zr j2 e x3 = zr 40 0 x2 → K 46 [some (.ref 0), some (.int words), some (.int truths), some (.int lies), some (.int (nI k)), some (.int (nI i)), some (.int (nI e))] [] ((h.set 9 (hI 40 w2)).set 10 (hI 40 x3)) := by
        intro j2
        induction j2 with
        | zero =>
          intro e x3 he hx3
          refine rl_iload (pc := 46) R dX8_setsOf_46 rfl ?_
          refine rl_bipush (pc := 48) R dX8_setsOf_48 bc_40 ?_
          refine rl_icmp_ge (pc := 50) (tgt := 67) R dX8_setsOf_50 rfl (fun c50 => ?_) (fun c50 => absurd (nI_le (a := 40) (by omega) (by omega)) c50)
          refine rl_iconst (pc := 67) R dX8_setsOf_67 ic_0 ?_
          refine rl_istore (pc := 68) R dX8_setsOf_68 (Nat.le_of_ble_eq_true rfl) rfl ?_
          show K _ [_, _, _, _, _, _, _] _ _
          exact body 40 0 x3 rfl (by rw [← hx3]; rfl)
        | succ j2 ih2 =>
          intro e x3 he hx3
          have a0 := A0 w2 x3
          refine rl_iload (pc := 46) R dX8_setsOf_46 rfl ?_
          refine rl_bipush (pc := 48) R dX8_setsOf_48 bc_40 ?_
          refine rl_icmp_ge (pc := 50) (tgt := 67) R dX8_setsOf_50 rfl (fun c50 => absurd c50 (nI_ge (b := 40) (by omega) (by omega))) (fun c50 => ?_)
          refine rl_aload_n (pc := 53) R dX8_setsOf_53 rfl ?_
          refine rl_getf (pc := 54) R dX8_setsOf_54 fkX8_37 a0 rfl ?_
          refine rl_iload (pc := 57) R dX8_setsOf_57 rfl ?_
          refine rl_iconst (pc := 59) R dX8_setsOf_59 ic_0 ?_
          refine rl_iast (pc := 60) R dX8_setsOf_60 (A10 w2 x3) rfl (by omega) (by decide) ?_
          rw [S10]
          refine rl_iinc (pc := 61) R dX8_setsOf_61 rfl (ii_n e) rfl ?_
          show K _ [_, _, _, _, _, _, _] _ _
          refine rl_goto (pc := 64) (tgt := 46) R dX8_setsOf_64 rfl (ih2 (e + 1) _ (by omega) (by rw [← hx3]; rfl))
      refine rl_iload (pc := 36) R dX8_setsOf_36 rfl ?_
      refine rl_bipush (pc := 38) R dX8_setsOf_38 bc_28 ?_
      refine rl_icmp_ge (pc := 40) (tgt := 232) R dX8_setsOf_40 rfl (fun c40 => absurd c40 (nI_ge (b := 28) (by omega) (by omega))) (fun c40 => ?_)
      refine rl_iconst (pc := 43) R dX8_setsOf_43 ic_0 ?_
      refine rl_istore (pc := 44) R dX8_setsOf_44 (Nat.le_of_ble_eq_true rfl) rfl ?_
      show K _ [_, _, _, _, _, _, _] _ _
      exact zero 40 0 x2 rfl rfl
  have first : ∀ (j e : Nat) (w2 : Nat → Int32), e + j = 40 → wsE j e w2 = wsE 40 0 w → K 3 [some (.ref 0), some (.int words), some (.int truths), some (.int lies), some (.int (nI k)), some (.int (nI e)), none] [] ((h.set 9 (hI 40 w2)).set 10 (hI 40 x)) := by
    intro j
    induction j with
    | zero =>
      intro e w2 he hw
      refine rl_iload (pc := 3) R dX8_setsOf_3 rfl ?_
      refine rl_bipush (pc := 5) R dX8_setsOf_5 bc_40 ?_
      refine rl_icmp_ge (pc := 7) (tgt := 33) R dX8_setsOf_7 rfl (fun c7 => ?_) (fun c7 => absurd (nI_le (a := 40) (by omega) (by omega)) c7)
      refine rl_iconst (pc := 33) R dX8_setsOf_33 ic_0 ?_
      refine rl_istore (pc := 34) R dX8_setsOf_34 (Nat.le_of_ble_eq_true rfl) rfl ?_
      show K _ [_, _, _, _, _, _, _] _ _
      exact outer 28 0 w2 x none rfl (by rw [← hw]; rfl)
    | succ j ih =>
      intro e w2 he hw
      have fin : ∀ v : Int32, v = (if e = 0 then 1 else 0) → K 26 [some (.ref 0), some (.int words), some (.int truths), some (.int lies), some (.int (nI k)), some (.int (nI e)), none] [.int v, .int (nI e), .ref 9] ((h.set 9 (hI 40 w2)).set 10 (hI 40 x)) := by
        intro v hv
        refine rl_iast (pc := 26) R dX8_setsOf_26 (A9 w2 x) rfl (by omega) (by decide) ?_
        rw [S9]
        refine rl_iinc (pc := 27) R dX8_setsOf_27 rfl (ii_n e) rfl ?_
        show K _ [_, _, _, _, _, _, _] _ _
        refine rl_goto (pc := 30) (tgt := 3) R dX8_setsOf_30 rfl (ih (e + 1) _ (by omega) (by rw [← hw, hv]; rfl))
      refine rl_iload (pc := 3) R dX8_setsOf_3 rfl ?_
      refine rl_bipush (pc := 5) R dX8_setsOf_5 bc_40 ?_
      refine rl_icmp_ge (pc := 7) (tgt := 33) R dX8_setsOf_7 rfl (fun c7 => absurd c7 (nI_ge (b := 40) (by omega) (by omega))) (fun c7 => ?_)
      refine rl_aload_n (pc := 10) R dX8_setsOf_10 rfl ?_
      refine rl_getf (pc := 11) R dX8_setsOf_11 fkX8_34 (A0 w2 x) rfl ?_
      refine rl_iload (pc := 14) R dX8_setsOf_14 rfl ?_
      refine rl_iload (pc := 16) R dX8_setsOf_16 rfl ?_
      refine rl_if_ne (pc := 18) (tgt := 25) R dX8_setsOf_18 rfl (fun c18 => ?_) (fun c18 => ?_)
      · refine rl_iconst (pc := 25) R dX8_setsOf_25 ic_0 ?_
        first | exact fin 0 (by rw [if_neg (fun z => c18 (by rw [z]; rfl))]) | exact fin 1 (by rw [if_pos ((nI_5 (by omega)).mp c18)])
      · refine rl_iconst (pc := 21) R dX8_setsOf_21 ic_1 ?_
        refine rl_goto (pc := 22) (tgt := 26) R dX8_setsOf_22 rfl ?_
        first | exact fin 0 (by rw [if_neg (fun z => c18 (by rw [z]; rfl))]) | exact fin 1 (by rw [if_pos ((nI_5 (by omega)).mp c18)])
  refine rl_iconst (pc := 0) R dX8_setsOf_0 ic_0 ?_
  refine rl_istore (pc := 1) R dX8_setsOf_1 (Nat.le_of_ble_eq_true rfl) rfl ?_
  show K _ [_, _, _, _, _, _, _] _ _
  have e0 := first 40 0 w rfl rfl
  rw [List.set_getElem?_self' m9, List.set_getElem?_self' m10] at e0
  exact e0
def arM (w t l k : Int32) : Bool := isW w 0 268435455 && (decide (t &&& (w ^^^ (-1)) = 0) && (decide (l &&& (w ^^^ (-1)) = 0) && (decide (t &&& l = 0) && isW k 0 9)))
theorem bs_X8_areWords {w t l k : Int32} : BS (d + 2) true yX8_areWords [.int w, .int t, .int l, .int k] h (some (.int (bI (arM w t l k)))) h := by
  refine bs_of mtX8_areWords rfl (Nat.le_of_ble_eq_true rfl) (fun K R RV RS E => ?_)
  show K 0 [_, _, _, _] [] _
  refine rl_iload_n (pc := 0) R dX8_areWords_0 rfl ?_
  refine rl_i2l (pc := 1) R dX8_areWords_1 ?_
  refine rl_lconst (pc := 2) R dX8_areWords_2 lc_0 ?_
  refine rl_ldc2 (pc := 3) R dX8_areWords_3 kdX8_147 ?_
  refine rl_S3 (pc := 6) RS dX8_areWords_6 lkX8_40 (Nat.le_of_ble_eq_true rfl) (bs_X8_inW (v := w) (x := 0) (y := 268435455) rfl rfl rfl) ?_
  refine rl_if_eq (pc := 9) (tgt := 50) R dX8_areWords_9 rfl (fun c9 => ?_) (fun c9 => ?_)
  · rw [bI_0] at c9
    refine rl_iconst (pc := 50) R dX8_areWords_50 ic_0 ?_
    exact rl_ireturn (pc := 51) E dX8_areWords_51 rfl rfl (e_si (by rw [arM, c9]; first | rfl | (rw [decide_eq_false c17]; rfl) | (rw [decide_eq_true c17, decide_eq_false c25]; rfl) | (rw [decide_eq_true c17, decide_eq_true c25, decide_eq_false c31]; rfl) | (rw [decide_eq_true c17, decide_eq_true c25, decide_eq_true c31, c43]; rfl)))
  · rw [bI_n0] at c9
    refine rl_iload_n (pc := 12) R dX8_areWords_12 rfl ?_
    refine rl_iload_n (pc := 13) R dX8_areWords_13 rfl ?_
    refine rl_iconst (pc := 14) R dX8_areWords_14 ic_m1 ?_
    refine rl_ixor (pc := 15) R dX8_areWords_15 ?_
    refine rl_iand (pc := 16) R dX8_areWords_16 ?_
    refine rl_if_ne (pc := 17) (tgt := 50) R dX8_areWords_17 rfl (fun c17 => ?_) (fun c17 => ?_)
    · refine rl_iconst (pc := 50) R dX8_areWords_50 ic_0 ?_
      exact rl_ireturn (pc := 51) E dX8_areWords_51 rfl rfl (e_si (by rw [arM, c9]; first | rfl | (rw [decide_eq_false c17]; rfl) | (rw [decide_eq_true c17, decide_eq_false c25]; rfl) | (rw [decide_eq_true c17, decide_eq_true c25, decide_eq_false c31]; rfl) | (rw [decide_eq_true c17, decide_eq_true c25, decide_eq_true c31, c43]; rfl)))
    · refine rl_iload_n (pc := 20) R dX8_areWords_20 rfl ?_
      refine rl_iload_n (pc := 21) R dX8_areWords_21 rfl ?_
      refine rl_iconst (pc := 22) R dX8_areWords_22 ic_m1 ?_
      refine rl_ixor (pc := 23) R dX8_areWords_23 ?_
      refine rl_iand (pc := 24) R dX8_areWords_24 ?_
      refine rl_if_ne (pc := 25) (tgt := 50) R dX8_areWords_25 rfl (fun c25 => ?_) (fun c25 => ?_)
      · refine rl_iconst (pc := 50) R dX8_areWords_50 ic_0 ?_
        exact rl_ireturn (pc := 51) E dX8_areWords_51 rfl rfl (e_si (by rw [arM, c9]; first | rfl | (rw [decide_eq_false c17]; rfl) | (rw [decide_eq_true c17, decide_eq_false c25]; rfl) | (rw [decide_eq_true c17, decide_eq_true c25, decide_eq_false c31]; rfl) | (rw [decide_eq_true c17, decide_eq_true c25, decide_eq_true c31, c43]; rfl)))
      · refine rl_iload_n (pc := 28) R dX8_areWords_28 rfl ?_
        refine rl_iload_n (pc := 29) R dX8_areWords_29 rfl ?_
        refine rl_iand (pc := 30) R dX8_areWords_30 ?_
        refine rl_if_ne (pc := 31) (tgt := 50) R dX8_areWords_31 rfl (fun c31 => ?_) (fun c31 => ?_)
        · refine rl_iconst (pc := 50) R dX8_areWords_50 ic_0 ?_
          exact rl_ireturn (pc := 51) E dX8_areWords_51 rfl rfl (e_si (by rw [arM, c9]; first | rfl | (rw [decide_eq_false c17]; rfl) | (rw [decide_eq_true c17, decide_eq_false c25]; rfl) | (rw [decide_eq_true c17, decide_eq_true c25, decide_eq_false c31]; rfl) | (rw [decide_eq_true c17, decide_eq_true c25, decide_eq_true c31, c43]; rfl)))
        · refine rl_iload_n (pc := 34) R dX8_areWords_34 rfl ?_
          refine rl_i2l (pc := 35) R dX8_areWords_35 ?_
          refine rl_lconst (pc := 36) R dX8_areWords_36 lc_0 ?_
          refine rl_ldc2 (pc := 37) R dX8_areWords_37 kdX8_60 ?_
          refine rl_S3 (pc := 40) RS dX8_areWords_40 lkX8_40 (Nat.le_of_ble_eq_true rfl) (bs_X8_inW (v := k) (x := 0) (y := 9) rfl rfl rfl) ?_
          refine rl_if_eq (pc := 43) (tgt := 50) R dX8_areWords_43 rfl (fun c43 => ?_) (fun c43 => ?_)
          · rw [bI_0] at c43
            refine rl_iconst (pc := 50) R dX8_areWords_50 ic_0 ?_
            exact rl_ireturn (pc := 51) E dX8_areWords_51 rfl rfl (e_si (by rw [arM, c9]; first | rfl | (rw [decide_eq_false c17]; rfl) | (rw [decide_eq_true c17, decide_eq_false c25]; rfl) | (rw [decide_eq_true c17, decide_eq_true c25, decide_eq_false c31]; rfl) | (rw [decide_eq_true c17, decide_eq_true c25, decide_eq_true c31, c43]; rfl)))
          · rw [bI_n0] at c43
            refine rl_iconst (pc := 46) R dX8_areWords_46 ic_1 ?_
            refine rl_goto (pc := 47) (tgt := 51) R dX8_areWords_47 rfl ?_
            exact rl_ireturn (pc := 51) E dX8_areWords_51 rfl rfl (e_si (by rw [arM, c9]; first | rfl | (rw [decide_eq_false c17]; rfl) | (rw [decide_eq_true c17, decide_eq_false c25]; rfl) | (rw [decide_eq_true c17, decide_eq_true c25, decide_eq_false c31]; rfl) | (rw [decide_eq_true c17, decide_eq_true c25, decide_eq_true c31, c43]; rfl)))
theorem bs_X8_sets_bad {w t l k : Int32} (hok : arM w t l k = false) : BS (d + 4) false yX8_sets [.ref 0, .int w, .int t, .int l, .int k] h (some (.int (-1))) h := by
  refine bs_of mtX8_sets rfl (Nat.le_of_ble_eq_true rfl) (fun K R RV RS E => ?_)
  show K 0 [_, _, _, _, _] [] _
  refine rl_iload_n (pc := 0) R dX8_sets_0 rfl ?_
  refine rl_iload_n (pc := 1) R dX8_sets_1 rfl ?_
  refine rl_iload_n (pc := 2) R dX8_sets_2 rfl ?_
  refine rl_iload (pc := 3) R dX8_sets_3 rfl ?_
  refine rl_S4 (pc := 5) RS dX8_sets_5 lkX8_149 (Nat.le_of_ble_eq_true rfl) (bs_X8_areWords) ?_
  refine rl_if_eq (pc := 8) (tgt := 23) R dX8_sets_8 rfl (fun c8 => ?_) (fun c8 => absurd (by rw [hok]; rfl) c8)
  refine rl_iconst (pc := 23) R dX8_sets_23 ic_m1 ?_
  exact rl_ireturn (pc := 24) E dX8_sets_24 rfl rfl (rfl)
theorem bs_X8_sets {k : Nat} {w2 t l : Int32} (m0 : h[0]? = some (mO ik td at_ sz rd)) (hN : rN h n nw wo co se a) (m9 : h[9]? = some (hI 40 w)) (m10 : h[10]? = some (hI 40 x)) (hk : k ≤ 9) (hok : arM w2 t l (nI k) = true) : BS (d + 4) false yX8_sets [.ref 0, .int w2, .int t, .int l, .int (nI k)] h (some (.int (r4 (stW (se 1) w2 t l w x).1 k))) ((h.set 9 (hI 40 (stW (se 1) w2 t l w x).1)).set 10 (hI 40 (stW (se 1) w2 t l w x).2)) := by
  refine bs_of mtX8_sets rfl (Nat.le_of_ble_eq_true rfl) (fun K R RV RS E => ?_)
  show K 0 [_, _, _, _, _] [] _
  refine rl_iload_n (pc := 0) R dX8_sets_0 rfl ?_
  refine rl_iload_n (pc := 1) R dX8_sets_1 rfl ?_
  refine rl_iload_n (pc := 2) R dX8_sets_2 rfl ?_
  refine rl_iload (pc := 3) R dX8_sets_3 rfl ?_
  refine rl_S4 (pc := 5) RS dX8_sets_5 lkX8_149 (Nat.le_of_ble_eq_true rfl) (bs_X8_areWords) ?_
  refine rl_if_eq (pc := 8) (tgt := 23) R dX8_sets_8 rfl (fun c8 => absurd c8 (by rw [hok]; decide)) (fun c8 => ?_)
  refine rl_aload_n (pc := 11) R dX8_sets_11 rfl ?_
  refine rl_iload_n (pc := 12) R dX8_sets_12 rfl ?_
  refine rl_iload_n (pc := 13) R dX8_sets_13 rfl ?_
  refine rl_iload_n (pc := 14) R dX8_sets_14 rfl ?_
  refine rl_iload (pc := 15) R dX8_sets_15 rfl ?_
  refine rl_V4 (pc := 17) RV dX8_sets_17 lkX8_153 m0 rfl (Nat.le_of_ble_eq_true rfl) (bs_X8_setsOf m0 hN m9 m10 hk) ?_
  refine rl_goto (pc := 20) (tgt := 24) R dX8_sets_20 rfl ?_
  exact rl_ireturn (pc := 24) E dX8_sets_24 rfl rfl (rfl)
theorem bs_X8_surely_bad {w t l k what : Int32} (hok : (arM w t l k && isW what 0 1) = false) : BS (d + 4) false yX8_surely [.ref 0, .int w, .int t, .int l, .int k, .int what] h (some (.int (-1))) h := by
  refine bs_of mtX8_surely rfl (Nat.le_of_ble_eq_true rfl) (fun K R RV RS E => ?_)
  show K 0 [_, _, _, _, _, _, _, _, _, _] [] _
  refine rl_iload_n (pc := 0) R dX8_surely_0 rfl ?_
  refine rl_iload_n (pc := 1) R dX8_surely_1 rfl ?_
  refine rl_iload_n (pc := 2) R dX8_surely_2 rfl ?_
  refine rl_iload (pc := 3) R dX8_surely_3 rfl ?_
  refine rl_S4 (pc := 5) RS dX8_surely_5 lkX8_149 (Nat.le_of_ble_eq_true rfl) (bs_X8_areWords) ?_
  refine rl_if_eq (pc := 8) (tgt := 22) R dX8_surely_8 rfl (fun c8 => ?_) (fun c8 => ?_)
  · rw [bI_0] at c8
    refine rl_iconst (pc := 22) R dX8_surely_22 ic_m1 ?_
    exact rl_ireturn (pc := 23) E dX8_surely_23 rfl rfl (rfl)
  · rw [bI_n0] at c8
    refine rl_iload (pc := 11) R dX8_surely_11 rfl ?_
    refine rl_i2l (pc := 13) R dX8_surely_13 ?_
    refine rl_lconst (pc := 14) R dX8_surely_14 lc_0 ?_
    refine rl_lconst (pc := 15) R dX8_surely_15 lc_1 ?_
    refine rl_S3 (pc := 16) RS dX8_surely_16 lkX8_40 (Nat.le_of_ble_eq_true rfl) (bs_X8_inW (v := what) (x := 0) (y := 1) rfl rfl rfl) ?_
    refine rl_if_ne (pc := 19) (tgt := 24) R dX8_surely_19 rfl (fun c19 => ?_) (fun c19 => ?_)
    · exact absurd hok (by rw [bI_n0] at c19; rw [c8, c19]; decide)
    · refine rl_iconst (pc := 22) R dX8_surely_22 ic_m1 ?_
      exact rl_ireturn (pc := 23) E dX8_surely_23 rfl rfl (rfl)
theorem bs_X8_surely {k : Nat} {w2 t l what : Int32} (m0 : h[0]? = some (mO ik td at_ sz rd)) (hN : rN h n nw wo co se a) (m9 : h[9]? = some (hI 40 w)) (m10 : h[10]? = some (hI 40 x)) (hk : k ≤ 9) (hok : arM w2 t l (nI k) = true) (hw : isW what 0 1 = true) : BS (d + 4) false yX8_surely [.ref 0, .int w2, .int t, .int l, .int (nI k), .int what] h
    (some (.int (if r4 (stW (se 1) w2 t l w x).1 k = 0 then -4 else (smL (se 1) w2 t l what k 28 0 0 (stW (se 1) w2 t l w x).1 (stW (se 1) w2 t l w x).2).1)))
    (if r4 (stW (se 1) w2 t l w x).1 k = 0 then (h.set 9 (hI 40 (stW (se 1) w2 t l w x).1)).set 10 (hI 40 (stW (se 1) w2 t l w x).2) else (h.set 9 (hI 40 (smL (se 1) w2 t l what k 28 0 0 (stW (se 1) w2 t l w x).1 (stW (se 1) w2 t l w x).2).2.1)).set 10 (hI 40 (smL (se 1) w2 t l what k 28 0 0 (stW (se 1) w2 t l w x).1 (stW (se 1) w2 t l w x).2).2.2)) := by
  have A0 : ∀ w x : Nat → Int32, ((h.set 9 (hI 40 w)).set 10 (hI 40 x))[0]? = some (mO ik td at_ sz rd) := fun w x => m0_oth (m0_oth m0 (by decide)) (by decide)
  have AN : ∀ w x : Nat → Int32, rN ((h.set 9 (hI 40 w)).set 10 (hI 40 x)) n nw wo co se a := fun w x => rN_oth (rN_oth hN (by decide)) (by decide)
  have A9 : ∀ w x : Nat → Int32, ((h.set 9 (hI 40 w)).set 10 (hI 40 x))[9]? = some (hI 40 w) := fun w x => sm_h_ne (sm_h_eq m9) (sm_h_ne m10 m9 (by decide)) (by decide)
  have A10 : ∀ w x : Nat → Int32, ((h.set 9 (hI 40 w)).set 10 (hI 40 x))[10]? = some (hI 40 x) := fun w x => sm_h_eq (sm_h_ne m10 m9 (by decide))
  have SS : ∀ w x w2 x2 : Nat → Int32, (((h.set 9 (hI 40 w)).set 10 (hI 40 x)).set 9 (hI 40 w2)).set 10 (hI 40 x2) = (h.set 9 (hI 40 w2)).set 10 (hI 40 x2) := fun w x w2 x2 => by rw [List.set_comm _ _ (by decide : (10 : Nat) ≠ 9), List.set_set, List.set_set]
  have hB : BS (d + 3) false yX8_setsOf [.ref 0, .int w2, .int t, .int l, .int (nI k)] h _ _ := bs_X8_setsOf m0 hN m9 m10 hk
  generalize hst : stW (se 1) w2 t l w x = st at hB
  by_cases hz : r4 st.1 k = 0
  · rw [if_pos hz, if_pos hz]
    refine bs_of mtX8_surely rfl (Nat.le_of_ble_eq_true rfl) (fun K R RV RS E => ?_)
    show K 0 [_, _, _, _, _, _, _, _, _, _] [] _
    refine rl_iload_n (pc := 0) R dX8_surely_0 rfl ?_
    refine rl_iload_n (pc := 1) R dX8_surely_1 rfl ?_
    refine rl_iload_n (pc := 2) R dX8_surely_2 rfl ?_
    refine rl_iload (pc := 3) R dX8_surely_3 rfl ?_
    refine rl_S4 (pc := 5) RS dX8_surely_5 lkX8_149 (Nat.le_of_ble_eq_true rfl) (bs_X8_areWords) ?_
    refine rl_if_eq (pc := 8) (tgt := 22) R dX8_surely_8 rfl (fun c8 => absurd c8 (by rw [hok]; decide)) (fun c8 => ?_)
    refine rl_iload (pc := 11) R dX8_surely_11 rfl ?_
    refine rl_i2l (pc := 13) R dX8_surely_13 ?_
    refine rl_lconst (pc := 14) R dX8_surely_14 lc_0 ?_
    refine rl_lconst (pc := 15) R dX8_surely_15 lc_1 ?_
    refine rl_S3 (pc := 16) RS dX8_surely_16 lkX8_40 (Nat.le_of_ble_eq_true rfl) (bs_X8_inW (v := what) (x := 0) (y := 1) rfl rfl rfl) ?_
    refine rl_if_ne (pc := 19) (tgt := 24) R dX8_surely_19 rfl (fun c19 => ?_) (fun c19 => absurd c19 (by rw [hw]; decide))
    refine rl_aload_n (pc := 24) R dX8_surely_24 rfl ?_
    refine rl_iload_n (pc := 25) R dX8_surely_25 rfl ?_
    refine rl_iload_n (pc := 26) R dX8_surely_26 rfl ?_
    refine rl_iload_n (pc := 27) R dX8_surely_27 rfl ?_
    refine rl_iload (pc := 28) R dX8_surely_28 rfl ?_
    refine rl_V4 (pc := 30) RV dX8_surely_30 lkX8_153 m0 rfl (Nat.le_of_ble_eq_true rfl) (hB) ?_
    refine rl_if_ne (pc := 33) (tgt := 39) R dX8_surely_33 rfl (fun c33 => absurd (hz) c33) (fun c33 => ?_)
    refine rl_bipush (pc := 36) R dX8_surely_36 bc_m4 ?_
    exact rl_ireturn (pc := 38) E dX8_surely_38 rfl rfl (rfl)
  · rw [if_neg hz, if_neg hz]
    refine bs_of mtX8_surely rfl (Nat.le_of_ble_eq_true rfl) (fun K R RV RS E => ?_)
    show K 0 [_, _, _, _, _, _, _, _, _, _] [] _
    have loop : ∀ (j i : Nat) (s : Int32) (w3 x3 : Nat → Int32) (z8 z9 : Option Value), i + j = 28 → smL (se 1) w2 t l what k j i s w3 x3 = smL (se 1) w2 t l what k 28 0 0 st.1 st.2 → (∀ v, z8 ≠ some (.long v)) → (∀ v, z8 ≠ some (.double v)) → K 45 [some (.ref 0), some (.int w2), some (.int t), some (.int l), some (.int (nI k)), some (.int what), some (.int s), some (.int (nI i)), z8, z9] [] ((h.set 9 (hI 40 w3)).set 10 (hI 40 x3)) := by
      intro j
      induction j with
      | zero =>
        intro i s w3 x3 z8 z9 hi hs hz8 hz8d
        rw [← hs] at E
        refine rl_iload (pc := 45) R dX8_surely_45 rfl ?_
        refine rl_bipush (pc := 47) R dX8_surely_47 bc_28 ?_
        refine rl_icmp_ge (pc := 49) (tgt := 187) R dX8_surely_49 rfl (fun c49 => ?_) (fun c49 => absurd (nI_le (a := 28) (by omega) (by omega)) c49)
        refine rl_iload (pc := 187) R dX8_surely_187 rfl ?_
        exact rl_ireturn (pc := 189) E dX8_surely_189 rfl rfl (rfl)
      | succ j ih =>
        intro i s w3 x3 z8 z9 hi hs hz8 hz8d
        have nx : ∀ (s2 : Int32) (w4 x4 : Nat → Int32) (z8 z9 : Option Value), smL (se 1) w2 t l what k j (i + 1) s2 w4 x4 = smL (se 1) w2 t l what k (j + 1) i s w3 x3 → (∀ v, z8 ≠ some (.long v)) → (∀ v, z8 ≠ some (.double v)) → K 181 [some (.ref 0), some (.int w2), some (.int t), some (.int l), some (.int (nI k)), some (.int what), some (.int s2), some (.int (nI i)), z8, z9] [] ((h.set 9 (hI 40 w4)).set 10 (hI 40 x4)) := by
          intro s2 w4 x4 z8 z9 he q1 q2
          refine rl_iinc (pc := 181) R dX8_surely_181 rfl (ii_n i) rfl ?_
          show K _ [_, _, _, _, _, _, _, _, _, _] _ _
          refine rl_goto (pc := 184) (tgt := 45) R dX8_surely_184 rfl (ih (i + 1) _ _ _ _ _ (by omega) (by rw [he, hs]) q1 q2)
        have yes : ∀ (w4 x4 : Nat → Int32) (o : Bool), smL (se 1) w2 t l what k j (i + 1) (s ||| b1 i) w4 x4 = smL (se 1) w2 t l what k (j + 1) i s w3 x3 → K 161 [some (.ref 0), some (.int w2), some (.int t), some (.int l), some (.int (nI k)), some (.int what), some (.int s), some (.int (nI i)), some (.int (bI o)), z9] [.int 1] ((h.set 9 (hI 40 w4)).set 10 (hI 40 x4)) := by
          intro w4 x4 o he
          refine rl_istore (pc := 161) R dX8_surely_161 (Nat.le_of_ble_eq_true rfl) rfl ?_
          show K _ [_, _, _, _, _, _, _, _, _, _] _ _
          refine rl_iload (pc := 163) R dX8_surely_163 rfl ?_
          refine rl_iload (pc := 165) R dX8_surely_165 rfl ?_
          refine rl_if_eq (pc := 167) (tgt := 177) R dX8_surely_167 rfl (fun c167 => absurd c167 (by decide)) (fun c167 => ?_)
          refine rl_iconst (pc := 170) R dX8_surely_170 ic_1 ?_
          refine rl_iload (pc := 171) R dX8_surely_171 rfl ?_
          refine rl_ishl (pc := 173) R dX8_surely_173 ?_
          refine rl_goto (pc := 174) (tgt := 178) R dX8_surely_174 rfl ?_
          refine rl_ior (pc := 178) R dX8_surely_178 ?_
          refine rl_istore (pc := 179) R dX8_surely_179 (Nat.le_of_ble_eq_true rfl) rfl ?_
          show K _ [_, _, _, _, _, _, _, _, _, _] _ _
          exact nx _ w4 x4 _ _ he (fun v => by simp) (fun v => by simp)
        have no : ∀ (w4 x4 : Nat → Int32) (o : Bool), smL (se 1) w2 t l what k j (i + 1) s w4 x4 = smL (se 1) w2 t l what k (j + 1) i s w3 x3 → K 161 [some (.ref 0), some (.int w2), some (.int t), some (.int l), some (.int (nI k)), some (.int what), some (.int s), some (.int (nI i)), some (.int (bI o)), z9] [.int 0] ((h.set 9 (hI 40 w4)).set 10 (hI 40 x4)) := by
          intro w4 x4 o he
          refine rl_istore (pc := 161) R dX8_surely_161 (Nat.le_of_ble_eq_true rfl) rfl ?_
          show K _ [_, _, _, _, _, _, _, _, _, _] _ _
          refine rl_iload (pc := 163) R dX8_surely_163 rfl ?_
          refine rl_iload (pc := 165) R dX8_surely_165 rfl ?_
          refine rl_if_eq (pc := 167) (tgt := 177) R dX8_surely_167 rfl (fun c167 => ?_) (fun c167 => absurd (rfl) c167)
          refine rl_iconst (pc := 177) R dX8_surely_177 ic_0 ?_
          refine rl_ior (pc := 178) R dX8_surely_178 ?_
          rw [Int32.or_zero]
          refine rl_istore (pc := 179) R dX8_surely_179 (Nat.le_of_ble_eq_true rfl) rfl ?_
          show K _ [_, _, _, _, _, _, _, _, _, _] _ _
          exact nx _ w4 x4 _ _ he (fun v => by simp) (fun v => by simp)
        have a0 := A0 w3 x3
        have hC := fun (t2 l2 : Int32) => bs_X8_setsOf (d := d) (words := w2) (truths := t2) (lies := l2) a0 (AN w3 x3) (A9 w3 x3) (A10 w3 x3) hk
        by_cases hwi : bt w2 i = true
        · have hs2 : ∀ (s2 : Int32) (w4 x4 : Nat → Int32), smL (se 1) w2 t l what k (j + 1) i s w3 x3 = (if bt (if what = 0 then l else t) i then smL (se 1) w2 t l what k j (i + 1) (s ||| b1 i) w3 x3
       else if bt (if what = 0 then t else l) i then smL (se 1) w2 t l what k j (i + 1) s w3 x3
       else smL (se 1) w2 t l what k j (i + 1) (s ||| (if r4 (stW (se 1) w2 (if what = 0 then t ||| b1 i else t) (if what = 0 then l else l ||| b1 i) w3 x3).1 k = 0 then b1 i else 0)) (stW (se 1) w2 (if what = 0 then t ||| b1 i else t) (if what = 0 then l else l ||| b1 i) w3 x3).1 (stW (se 1) w2 (if what = 0 then t ||| b1 i else t) (if what = 0 then l else l ||| b1 i) w3 x3).2) := fun _ _ _ => by rw [smL, if_pos hwi]
          have hs3 := hs2 0 w3 x3
          by_cases hwh : what = 0
          · simp only [if_pos hwh] at hs3
            refine rl_iload (pc := 45) R dX8_surely_45 rfl ?_
            refine rl_bipush (pc := 47) R dX8_surely_47 bc_28 ?_
            refine rl_icmp_ge (pc := 49) (tgt := 187) R dX8_surely_49 rfl (fun c49 => absurd c49 (nI_ge (b := 28) (by omega) (by omega))) (fun c49 => ?_)
            refine rl_iload_n (pc := 52) R dX8_surely_52 rfl ?_
            refine rl_iload (pc := 53) R dX8_surely_53 rfl ?_
            refine rl_S2 (pc := 55) RS dX8_surely_55 lkX8_102 (Nat.le_of_ble_eq_true rfl) (bs_X8_has) ?_
            refine rl_if_ne (pc := 58) (tgt := 64) R dX8_surely_58 rfl (fun c58 => ?_) (fun c58 => absurd c58 (by rw [hwi]; decide))
            refine rl_iload (pc := 64) R dX8_surely_64 rfl ?_
            refine rl_if_ne (pc := 66) (tgt := 73) R dX8_surely_66 rfl (fun c66 => absurd (hwh) c66) (fun c66 => ?_)
            refine rl_iload_n (pc := 69) R dX8_surely_69 rfl ?_
            refine rl_goto (pc := 70) (tgt := 74) R dX8_surely_70 rfl ?_
            refine rl_iload (pc := 74) R dX8_surely_74 rfl ?_
            refine rl_S2 (pc := 76) RS dX8_surely_76 lkX8_102 (Nat.le_of_ble_eq_true rfl) (bs_X8_has) ?_
            refine rl_istore (pc := 79) R dX8_surely_79 (Nat.le_of_ble_eq_true rfl) rfl ?_
            show K _ [_, _, _, _, _, _, _, _, _, _] _ _
            refine rl_iload (pc := 81) R dX8_surely_81 rfl ?_
            refine rl_if_ne (pc := 83) (tgt := 125) R dX8_surely_83 rfl (fun c83 => absurd (hwh) c83) (fun c83 => ?_)
            refine rl_iload_n (pc := 86) R dX8_surely_86 rfl ?_
            refine rl_iload (pc := 87) R dX8_surely_87 rfl ?_
            refine rl_S2 (pc := 89) RS dX8_surely_89 lkX8_102 (Nat.le_of_ble_eq_true rfl) (bs_X8_has) ?_
            refine rl_if_ne (pc := 92) (tgt := 117) R dX8_surely_92 rfl (fun c92 => ?_) (fun c92 => ?_)
            · rw [bI_n0] at c92
              refine rl_iconst (pc := 117) R dX8_surely_117 ic_1 ?_
              refine rl_goto (pc := 118) (tgt := 161) R dX8_surely_118 rfl ?_
              first | exact yes w3 x3 _ (by rw [hs3, if_pos c92]) | exact no w3 x3 _ (by rw [hs3, if_neg (by rw [c92]; decide), if_pos c97]) | exact no _ _ _ (by rw [hs3, if_neg (by rw [c92]; decide), if_neg (by rw [c97]; decide), if_neg c114, Int32.or_zero]) | exact yes _ _ _ (by rw [hs3, if_neg (by rw [c92]; decide), if_neg (by rw [c97]; decide), if_pos c114])
            · rw [bI_0] at c92
              refine rl_iload (pc := 95) R dX8_surely_95 rfl ?_
              refine rl_if_ne (pc := 97) (tgt := 121) R dX8_surely_97 rfl (fun c97 => ?_) (fun c97 => ?_)
              · rw [bI_n0] at c97
                refine rl_iconst (pc := 121) R dX8_surely_121 ic_0 ?_
                refine rl_goto (pc := 122) (tgt := 161) R dX8_surely_122 rfl ?_
                first | exact yes w3 x3 _ (by rw [hs3, if_pos c92]) | exact no w3 x3 _ (by rw [hs3, if_neg (by rw [c92]; decide), if_pos c97]) | exact no _ _ _ (by rw [hs3, if_neg (by rw [c92]; decide), if_neg (by rw [c97]; decide), if_neg c114, Int32.or_zero]) | exact yes _ _ _ (by rw [hs3, if_neg (by rw [c92]; decide), if_neg (by rw [c97]; decide), if_pos c114])
              · rw [bI_0] at c97
                refine rl_aload_n (pc := 100) R dX8_surely_100 rfl ?_
                refine rl_iload_n (pc := 101) R dX8_surely_101 rfl ?_
                refine rl_iload_n (pc := 102) R dX8_surely_102 rfl ?_
                refine rl_iconst (pc := 103) R dX8_surely_103 ic_1 ?_
                refine rl_iload (pc := 104) R dX8_surely_104 rfl ?_
                refine rl_ishl (pc := 106) R dX8_surely_106 ?_
                refine rl_ior (pc := 107) R dX8_surely_107 ?_
                refine rl_iload_n (pc := 108) R dX8_surely_108 rfl ?_
                refine rl_iload (pc := 109) R dX8_surely_109 rfl ?_
                refine rl_V4 (pc := 111) RV dX8_surely_111 lkX8_153 a0 rfl (Nat.le_of_ble_eq_true rfl) (hC (t ||| b1 i) l) ?_
                rw [SS]
                refine rl_if_ne (pc := 114) (tgt := 121) R dX8_surely_114 rfl (fun c114 => ?_) (fun c114 => ?_)
                · refine rl_iconst (pc := 121) R dX8_surely_121 ic_0 ?_
                  refine rl_goto (pc := 122) (tgt := 161) R dX8_surely_122 rfl ?_
                  first | exact yes w3 x3 _ (by rw [hs3, if_pos c92]) | exact no w3 x3 _ (by rw [hs3, if_neg (by rw [c92]; decide), if_pos c97]) | exact no _ _ _ (by rw [hs3, if_neg (by rw [c92]; decide), if_neg (by rw [c97]; decide), if_neg c114, Int32.or_zero]) | exact yes _ _ _ (by rw [hs3, if_neg (by rw [c92]; decide), if_neg (by rw [c97]; decide), if_pos c114])
                · refine rl_iconst (pc := 117) R dX8_surely_117 ic_1 ?_
                  refine rl_goto (pc := 118) (tgt := 161) R dX8_surely_118 rfl ?_
                  first | exact yes w3 x3 _ (by rw [hs3, if_pos c92]) | exact no w3 x3 _ (by rw [hs3, if_neg (by rw [c92]; decide), if_pos c97]) | exact no _ _ _ (by rw [hs3, if_neg (by rw [c92]; decide), if_neg (by rw [c97]; decide), if_neg c114, Int32.or_zero]) | exact yes _ _ _ (by rw [hs3, if_neg (by rw [c92]; decide), if_neg (by rw [c97]; decide), if_pos c114])
          · simp only [if_neg hwh] at hs3
            refine rl_iload (pc := 45) R dX8_surely_45 rfl ?_
            refine rl_bipush (pc := 47) R dX8_surely_47 bc_28 ?_
            refine rl_icmp_ge (pc := 49) (tgt := 187) R dX8_surely_49 rfl (fun c49 => absurd c49 (nI_ge (b := 28) (by omega) (by omega))) (fun c49 => ?_)
            refine rl_iload_n (pc := 52) R dX8_surely_52 rfl ?_
            refine rl_iload (pc := 53) R dX8_surely_53 rfl ?_
            refine rl_S2 (pc := 55) RS dX8_surely_55 lkX8_102 (Nat.le_of_ble_eq_true rfl) (bs_X8_has) ?_
            refine rl_if_ne (pc := 58) (tgt := 64) R dX8_surely_58 rfl (fun c58 => ?_) (fun c58 => absurd c58 (by rw [hwi]; decide))
            refine rl_iload (pc := 64) R dX8_surely_64 rfl ?_
            refine rl_if_ne (pc := 66) (tgt := 73) R dX8_surely_66 rfl (fun c66 => ?_) (fun c66 => absurd c66 (hwh))
            refine rl_iload_n (pc := 73) R dX8_surely_73 rfl ?_
            refine rl_iload (pc := 74) R dX8_surely_74 rfl ?_
            refine rl_S2 (pc := 76) RS dX8_surely_76 lkX8_102 (Nat.le_of_ble_eq_true rfl) (bs_X8_has) ?_
            refine rl_istore (pc := 79) R dX8_surely_79 (Nat.le_of_ble_eq_true rfl) rfl ?_
            show K _ [_, _, _, _, _, _, _, _, _, _] _ _
            refine rl_iload (pc := 81) R dX8_surely_81 rfl ?_
            refine rl_if_ne (pc := 83) (tgt := 125) R dX8_surely_83 rfl (fun c83 => ?_) (fun c83 => absurd c83 (hwh))
            refine rl_iload_n (pc := 125) R dX8_surely_125 rfl ?_
            refine rl_iload (pc := 126) R dX8_surely_126 rfl ?_
            refine rl_S2 (pc := 128) RS dX8_surely_128 lkX8_102 (Nat.le_of_ble_eq_true rfl) (bs_X8_has) ?_
            refine rl_if_ne (pc := 131) (tgt := 156) R dX8_surely_131 rfl (fun c131 => ?_) (fun c131 => ?_)
            · rw [bI_n0] at c131
              refine rl_iconst (pc := 156) R dX8_surely_156 ic_1 ?_
              refine rl_goto (pc := 157) (tgt := 161) R dX8_surely_157 rfl ?_
              first | exact yes w3 x3 _ (by rw [hs3, if_pos c131]) | exact no w3 x3 _ (by rw [hs3, if_neg (by rw [c131]; decide), if_pos c136]) | exact no _ _ _ (by rw [hs3, if_neg (by rw [c131]; decide), if_neg (by rw [c136]; decide), if_neg c153, Int32.or_zero]) | exact yes _ _ _ (by rw [hs3, if_neg (by rw [c131]; decide), if_neg (by rw [c136]; decide), if_pos c153])
            · rw [bI_0] at c131
              refine rl_iload (pc := 134) R dX8_surely_134 rfl ?_
              refine rl_if_ne (pc := 136) (tgt := 160) R dX8_surely_136 rfl (fun c136 => ?_) (fun c136 => ?_)
              · rw [bI_n0] at c136
                refine rl_iconst (pc := 160) R dX8_surely_160 ic_0 ?_
                first | exact yes w3 x3 _ (by rw [hs3, if_pos c131]) | exact no w3 x3 _ (by rw [hs3, if_neg (by rw [c131]; decide), if_pos c136]) | exact no _ _ _ (by rw [hs3, if_neg (by rw [c131]; decide), if_neg (by rw [c136]; decide), if_neg c153, Int32.or_zero]) | exact yes _ _ _ (by rw [hs3, if_neg (by rw [c131]; decide), if_neg (by rw [c136]; decide), if_pos c153])
              · rw [bI_0] at c136
                refine rl_aload_n (pc := 139) R dX8_surely_139 rfl ?_
                refine rl_iload_n (pc := 140) R dX8_surely_140 rfl ?_
                refine rl_iload_n (pc := 141) R dX8_surely_141 rfl ?_
                refine rl_iload_n (pc := 142) R dX8_surely_142 rfl ?_
                refine rl_iconst (pc := 143) R dX8_surely_143 ic_1 ?_
                refine rl_iload (pc := 144) R dX8_surely_144 rfl ?_
                refine rl_ishl (pc := 146) R dX8_surely_146 ?_
                refine rl_ior (pc := 147) R dX8_surely_147 ?_
                refine rl_iload (pc := 148) R dX8_surely_148 rfl ?_
                refine rl_V4 (pc := 150) RV dX8_surely_150 lkX8_153 a0 rfl (Nat.le_of_ble_eq_true rfl) (hC t (l ||| b1 i)) ?_
                rw [SS]
                refine rl_if_ne (pc := 153) (tgt := 160) R dX8_surely_153 rfl (fun c153 => ?_) (fun c153 => ?_)
                · refine rl_iconst (pc := 160) R dX8_surely_160 ic_0 ?_
                  first | exact yes w3 x3 _ (by rw [hs3, if_pos c131]) | exact no w3 x3 _ (by rw [hs3, if_neg (by rw [c131]; decide), if_pos c136]) | exact no _ _ _ (by rw [hs3, if_neg (by rw [c131]; decide), if_neg (by rw [c136]; decide), if_neg c153, Int32.or_zero]) | exact yes _ _ _ (by rw [hs3, if_neg (by rw [c131]; decide), if_neg (by rw [c136]; decide), if_pos c153])
                · refine rl_iconst (pc := 156) R dX8_surely_156 ic_1 ?_
                  refine rl_goto (pc := 157) (tgt := 161) R dX8_surely_157 rfl ?_
                  first | exact yes w3 x3 _ (by rw [hs3, if_pos c131]) | exact no w3 x3 _ (by rw [hs3, if_neg (by rw [c131]; decide), if_pos c136]) | exact no _ _ _ (by rw [hs3, if_neg (by rw [c131]; decide), if_neg (by rw [c136]; decide), if_neg c153, Int32.or_zero]) | exact yes _ _ _ (by rw [hs3, if_neg (by rw [c131]; decide), if_neg (by rw [c136]; decide), if_pos c153])
        · refine rl_iload (pc := 45) R dX8_surely_45 rfl ?_
          refine rl_bipush (pc := 47) R dX8_surely_47 bc_28 ?_
          refine rl_icmp_ge (pc := 49) (tgt := 187) R dX8_surely_49 rfl (fun c49 => absurd c49 (nI_ge (b := 28) (by omega) (by omega))) (fun c49 => ?_)
          refine rl_iload_n (pc := 52) R dX8_surely_52 rfl ?_
          refine rl_iload (pc := 53) R dX8_surely_53 rfl ?_
          refine rl_S2 (pc := 55) RS dX8_surely_55 lkX8_102 (Nat.le_of_ble_eq_true rfl) (bs_X8_has) ?_
          refine rl_if_ne (pc := 58) (tgt := 64) R dX8_surely_58 rfl (fun c58 => absurd (by rw [Bool.not_eq_true] at hwi; rw [hwi]; rfl) c58) (fun c58 => ?_)
          refine rl_goto (pc := 61) (tgt := 181) R dX8_surely_61 rfl ?_
          exact nx s w3 x3 _ _ (by rw [smL, if_neg hwi]) hz8 hz8d
    refine rl_iload_n (pc := 0) R dX8_surely_0 rfl ?_
    refine rl_iload_n (pc := 1) R dX8_surely_1 rfl ?_
    refine rl_iload_n (pc := 2) R dX8_surely_2 rfl ?_
    refine rl_iload (pc := 3) R dX8_surely_3 rfl ?_
    refine rl_S4 (pc := 5) RS dX8_surely_5 lkX8_149 (Nat.le_of_ble_eq_true rfl) (bs_X8_areWords) ?_
    refine rl_if_eq (pc := 8) (tgt := 22) R dX8_surely_8 rfl (fun c8 => absurd c8 (by rw [hok]; decide)) (fun c8 => ?_)
    refine rl_iload (pc := 11) R dX8_surely_11 rfl ?_
    refine rl_i2l (pc := 13) R dX8_surely_13 ?_
    refine rl_lconst (pc := 14) R dX8_surely_14 lc_0 ?_
    refine rl_lconst (pc := 15) R dX8_surely_15 lc_1 ?_
    refine rl_S3 (pc := 16) RS dX8_surely_16 lkX8_40 (Nat.le_of_ble_eq_true rfl) (bs_X8_inW (v := what) (x := 0) (y := 1) rfl rfl rfl) ?_
    refine rl_if_ne (pc := 19) (tgt := 24) R dX8_surely_19 rfl (fun c19 => ?_) (fun c19 => absurd c19 (by rw [hw]; decide))
    refine rl_aload_n (pc := 24) R dX8_surely_24 rfl ?_
    refine rl_iload_n (pc := 25) R dX8_surely_25 rfl ?_
    refine rl_iload_n (pc := 26) R dX8_surely_26 rfl ?_
    refine rl_iload_n (pc := 27) R dX8_surely_27 rfl ?_
    refine rl_iload (pc := 28) R dX8_surely_28 rfl ?_
    refine rl_V4 (pc := 30) RV dX8_surely_30 lkX8_153 m0 rfl (Nat.le_of_ble_eq_true rfl) (hB) ?_
    refine rl_if_ne (pc := 33) (tgt := 39) R dX8_surely_33 rfl (fun c33 => ?_) (fun c33 => absurd c33 (hz))
    refine rl_iconst (pc := 39) R dX8_surely_39 ic_0 ?_
    refine rl_istore (pc := 40) R dX8_surely_40 (Nat.le_of_ble_eq_true rfl) rfl ?_
    show K _ [_, _, _, _, _, _, _, _, _, _] _ _
    refine rl_iconst (pc := 42) R dX8_surely_42 ic_0 ?_
    refine rl_istore (pc := 43) R dX8_surely_43 (Nat.le_of_ble_eq_true rfl) rfl ?_
    show K _ [_, _, _, _, _, _, _, _, _, _] _ _
    exact loop 28 0 0 st.1 st.2 none none rfl rfl (fun v => by simp) (fun v => by simp)
end M4
