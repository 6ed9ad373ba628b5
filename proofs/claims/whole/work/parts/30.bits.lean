/-! SETS: numbers as bits -/
/-- a set as a natural number -/
def un (s : Int32) : Nat := s.toBitVec.toNat
theorem un_lt (s : Int32) : un s < 4294967296 := s.toBitVec.isLt
theorem un_inj {s t : Int32} (h : un s = un t) : s = t := Int32.toBitVec_inj.mp (BitVec.eq_of_toNat_eq h)
theorem un_and (s t : Int32) : un (s &&& t) = un s &&& un t := by unfold un; rw [Int32.toBitVec_and, BitVec.toNat_and]
theorem un_or (s t : Int32) : un (s ||| t) = un s ||| un t := by unfold un; rw [Int32.toBitVec_or, BitVec.toNat_or]
theorem un_xor (s t : Int32) : un (s ^^^ t) = un s ^^^ un t := by unfold un; rw [Int32.toBitVec_xor, BitVec.toNat_xor]
theorem un_add (s t : Int32) : un (s + t) = (un s + un t) % 4294967296 := by unfold un; rw [Int32.toBitVec_add, BitVec.toNat_add]
theorem un_sub (s t : Int32) : un (s - t) = (4294967296 - un t + un s) % 4294967296 := by unfold un; rw [Int32.toBitVec_sub, BitVec.toNat_sub]
theorem sh_k : ∀ i : Fin 32, (nI i &&& 31).toBitVec.smod 32 = BitVec.ofNat 32 i := by decide +kernel
theorem sh_u : ∀ i : Fin 32, (nI i).toUInt32 &&& Int32.toUInt32 31 = UInt32.ofNat i ∧ (UInt32.ofNat i).toBitVec % 32 = BitVec.ofNat 32 i := by decide +kernel
theorem sh_r (s : Int32) {i : Nat} (h : i < 32) : (s >>> (nI i &&& 31)).toBitVec = s.toBitVec.sshiftRight i := by
  rw [Int32.toBitVec_shiftRight, sh_k ⟨i, h⟩, BitVec.sshiftRight'_ofNat_eq_sshiftRight, Nat.mod_eq_of_lt (Nat.lt_trans h (by decide))]
theorem sh_l (s : Int32) {i : Nat} (h : i < 32) : (s <<< (nI i &&& 31)).toBitVec = s.toBitVec <<< i := by
  rw [Int32.toBitVec_shiftLeft, sh_k ⟨i, h⟩]
  show s.toBitVec <<< (BitVec.ofNat 32 i) = _
  rw [BitVec.shiftLeft_eq', BitVec.toNat_ofNat, Nat.mod_eq_of_lt (Nat.lt_trans h (by decide))]
theorem un_ush (s : Int32) {i : Nat} (h : i < 32) : un (ush s (nI i)) = un s / 2 ^ i := by
  unfold un ush
  rw [(sh_u ⟨i, h⟩).1, UInt32.toBitVec_toInt32, UInt32.toBitVec_shiftRight, (sh_u ⟨i, h⟩).2, Int32.toBitVec_toUInt32]
  show (s.toBitVec >>> (BitVec.ofNat 32 i)).toNat = _
  rw [BitVec.ushiftRight_eq', BitVec.toNat_ofNat, Nat.mod_eq_of_lt (Nat.lt_trans h (by decide)), BitVec.toNat_ushiftRight, Nat.shiftRight_eq_div_pow]
theorem un_b1 {i : Nat} (h : i < 32) : un (b1 i) = 2 ^ i := by
  have : ∀ i : Fin 32, un (b1 i) = 2 ^ i.val := by decide +kernel
  exact this ⟨i, h⟩
theorem un_m1 {i : Nat} (h : i < 32) : un (b1 i - 1) = 2 ^ i - 1 := by
  have : ∀ i : Fin 32, un (b1 i - 1) = 2 ^ i.val - 1 := by decide +kernel
  exact this ⟨i, h⟩
/-- bit i -/
theorem bt_n (s : Int32) {i : Nat} (h : i < 32) : bt s i = (un s).testBit i := by
  unfold bt
  have e : ((s >>> (nI i &&& 31)) &&& 1 = 0) ↔ (un s).testBit i = false := by
    rw [← Int32.toBitVec_inj, Int32.toBitVec_and, sh_r s h]
    show (s.toBitVec.sshiftRight i) &&& 1#32 = 0#32 ↔ _
    constructor
    · intro q
      have q0 := congrArg (fun v => BitVec.getLsbD v 0) q
      simp only [BitVec.getLsbD_and, BitVec.getLsbD_sshiftRight, BitVec.getLsbD_one, BitVec.getLsbD_zero] at q0
      rw [if_pos (by omega)] at q0
      simpa [BitVec.getLsbD, un] using q0
    · intro q
      apply BitVec.eq_of_getLsbD_eq
      intro j hj
      simp only [BitVec.getLsbD_and, BitVec.getLsbD_sshiftRight, BitVec.getLsbD_one, BitVec.getLsbD_zero]
      by_cases hj0 : j = 0
      · subst hj0
        rw [if_pos (by omega)]
        have : BitVec.getLsbD s.toBitVec (i + 0) = false := q
        rw [this]; simp
      · simp [hj0]
  cases hb : (un s).testBit i
  · rw [decide_eq_true (e.mpr hb)]; rfl
  · rw [decide_eq_false (fun z => by rw [e.mp z] at hb; cases hb)]; rfl
theorem bt_or (s t : Int32) {i : Nat} (h : i < 32) : bt (s ||| t) i = (bt s i || bt t i) := by rw [bt_n _ h, bt_n _ h, bt_n _ h, un_or, Nat.testBit_or]
theorem bt_and (s t : Int32) {i : Nat} (h : i < 32) : bt (s &&& t) i = (bt s i && bt t i) := by rw [bt_n _ h, bt_n _ h, bt_n _ h, un_and, Nat.testBit_and]
theorem bt_b1 {i j : Nat} (hi : i < 32) (hj : j < 32) : bt (b1 i) j = decide (i = j) := by rw [bt_n _ hj, un_b1 hi, Nat.testBit_two_pow]
theorem bt_not (s : Int32) {i : Nat} (h : i < 32) : bt (s ^^^ (-1)) i = !bt s i := by
  rw [bt_n _ h, bt_n _ h, un_xor, Nat.testBit_xor]
  have : (un (-1)).testBit i = true := by
    have : ∀ i : Fin 32, (un (-1)).testBit i.val = true := by decide +kernel
    exact this ⟨i, h⟩
  rw [this]; cases (un s).testBit i <;> rfl
theorem bt_ext {s t : Int32} (h : ∀ i, i < 32 → bt s i = bt t i) : s = t := by
  apply un_inj
  apply Nat.eq_of_testBit_eq
  intro i
  by_cases hi : i < 32
  · rw [← bt_n s hi, ← bt_n t hi]; exact h i hi
  · rw [Nat.testBit_lt_two_pow (Nat.lt_of_lt_of_le (un_lt s) (Nat.pow_le_pow_right (by decide) (Nat.le_of_not_lt hi) : 2 ^ 32 ≤ 2 ^ i)), Nat.testBit_lt_two_pow (Nat.lt_of_lt_of_le (un_lt t) (Nat.pow_le_pow_right (by decide) (Nat.le_of_not_lt hi) : 2 ^ 32 ≤ 2 ^ i))]
/-- a set within n days -/
theorem un_toInt (s : Int32) : s.toInt = if un s < 2147483648 then (un s : Int) else (un s : Int) - 4294967296 := by
  unfold un
  rw [← Int32.toInt_toBitVec, BitVec.toInt_eq_toNat_cond]
  have := s.toBitVec.isLt
  split <;> split <;> omega
theorem iSe_n {n : Nat} (hn : n ≤ 28) (s : Int32) : iSe n s = decide (un s < 2 ^ n) := by
  have e : ∀ n : Fin 29, ((1 : Int32) <<< (nI n &&& 31) - 1).toInt = (2 : Int) ^ n.val - 1 := by decide +kernel
  have e1 := e ⟨n, by omega⟩
  have p : (2 : Int) ^ n = ((2 ^ n : Nat) : Int) := by simp
  have p2 : 2 ^ n ≤ 2 ^ 28 := Nat.pow_le_pow_right (by decide) hn
  unfold iSe isW
  have lt := un_lt s
  have ti := un_toInt s
  simp only [p] at e1
  generalize 2 ^ n = N at e1 p2
  have z : (0 : Int32).toInt = 0 := rfl
  have h : (0 ≤ s ∧ s ≤ (1 : Int32) <<< (nI n &&& 31) - 1) ↔ un s < N := by
    rw [Int32.le_iff_toInt_le, Int32.le_iff_toInt_le, z, e1, ti]
    split <;> omega
  cases hb : decide (un s < N)
  · have hb2 : ¬ un s < N := of_decide_eq_false hb
    cases h1 : decide (0 ≤ s) <;> cases h2 : decide (s ≤ (1 : Int32) <<< (nI n &&& 31) - 1) <;> first | rfl | exact absurd (h.mp ⟨of_decide_eq_true h1, of_decide_eq_true h2⟩) hb2
  · have hb2 := h.mpr (of_decide_eq_true hb)
    rw [decide_eq_true hb2.1, decide_eq_true hb2.2]; rfl
theorem hAl_iSe {n : Nat} (hn : n ≤ 28) (s : Int32) : hAl n s = iSe n s := by
  rw [iSe_n hn]
  unfold hAl
  have e : (ush s (nI n) = 0) ↔ un s < 2 ^ n := by
    rw [show (ush s (nI n) = 0) ↔ un (ush s (nI n)) = 0 from ⟨fun q => by rw [q]; rfl, fun q => un_inj q⟩, un_ush s (by omega), Nat.div_eq_zero_iff]
    constructor
    · intro q
      rcases q with q | q
      · exact absurd q (Nat.ne_of_gt (Nat.two_pow_pos n))
      · exact q
    · exact Or.inr
  rw [decide_eq_decide]; exact e
theorem sshr_0 (s : Int32) {i : Nat} (h : i < 31) : (s >>> (nI i &&& 31) = 0) ↔ un s < 2 ^ i := by
  rw [← Int32.toBitVec_inj, sh_r s (by omega)]
  have l := un_lt s
  have p1 : 2 ^ i ≤ 2 ^ 30 := Nat.pow_le_pow_right (by decide) (by omega)
  have p0 := Nat.two_pow_pos i
  rw [show ((s.toBitVec.sshiftRight i) = (0 : Int32).toBitVec ↔ (s.toBitVec.sshiftRight i).toNat = 0) from ⟨fun q => by rw [q]; rfl, fun q => BitVec.eq_of_toNat_eq q⟩]
  rw [BitVec.toNat_sshiftRight]
  have em : s.toBitVec.msb = decide (2147483648 ≤ un s) := by
    unfold un; rw [BitVec.msb_eq_decide]
  rw [em]
  change _ < 4294967296 at l
  by_cases hm : 2147483648 ≤ un s
  · rw [if_pos (decide_eq_true hm), Nat.shiftRight_eq_div_pow]
    have : (2 ^ 32 - 1 - s.toBitVec.toNat) / 2 ^ i ≤ 2 ^ 32 - 1 - un s := Nat.div_le_self _ _
    have e : s.toBitVec.toNat = un s := rfl
    omega
  · rw [if_neg (by simpa using hm), Nat.shiftRight_eq_div_pow, show s.toBitVec.toNat = un s from rfl, Nat.div_eq_zero_iff]
    omega
