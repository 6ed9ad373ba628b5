/-! HOW MANY BITS -/
def pcN : Nat → Nat → Nat
  | 0, _ => 0
  | j + 1, x => x % 2 + pcN j (x / 2)
theorem pcN_le : ∀ (j x : Nat), pcN j x ≤ j
  | 0, _ => Nat.le_refl _
  | j + 1, x => by rw [pcN]; have := pcN_le j (x / 2); omega
theorem pcN_0 : ∀ j : Nat, pcN j 0 = 0
  | 0 => rfl
  | j + 1 => by rw [pcN]; have := pcN_0 j; simp only [Nat.zero_div, this]
theorem pcN_mod : ∀ (i k x : Nat), i ≤ k → pcN k (x % 2 ^ i) = pcN i x
  | 0, k, x, _ => by rw [Nat.pow_zero, Nat.mod_one, pcN_0]; rfl
  | i + 1, 0, x, h => absurd h (by omega)
  | i + 1, k + 1, x, h => by
    rw [pcN, pcN, ← pcN_mod i k (x / 2) (by omega), Nat.pow_succ, Nat.mul_comm (2 ^ i) 2, Nat.mod_mul, Nat.add_mul_mod_self_left, Nat.mod_mod, Nat.add_mul_div_left _ _ (by decide), Nat.div_eq_of_lt (Nat.mod_lt _ (by decide)), Nat.zero_add]
theorem pcN_succ : ∀ (i x : Nat), pcN (i + 1) x = pcN i x + (if x.testBit i then 1 else 0)
  | 0, x => by
    rw [pcN, pcN, pcN, Nat.testBit_zero]
    have : x % 2 = 0 ∨ x % 2 = 1 := by omega
    rcases this with h | h <;> rw [h] <;> decide
  | i + 1, x => by rw [pcN, pcN_succ i (x / 2), pcN, Nat.testBit_succ]; omega
theorem and_sp {a d m e : Nat} (hd : d < 256) (he : e < 256) : (256 * a + d) &&& (256 * m + e) = 256 * (a &&& m) + (d &&& e) := by
  have hx : d &&& e < 2 ^ 8 := Nat.lt_of_le_of_lt Nat.and_le_left hd
  apply Nat.eq_of_testBit_eq
  intro i
  rw [Nat.testBit_and, show 256 = 2 ^ 8 from rfl, Nat.testBit_two_pow_mul_add _ hd, Nat.testBit_two_pow_mul_add _ he, Nat.testBit_two_pow_mul_add _ hx]
  split
  · rw [Nat.testBit_and]
  · rw [Nat.testBit_and]
theorem pb_all : ∀ d : Fin 256, d.val / 2 &&& 85 ≤ d.val ∧ ∀ t : Fin 2, (128 * t.val + d.val / 2) &&& 85 = d.val / 2 &&& 85 := by decide +kernel
theorem pb_al2 : ∀ d : Fin 256, ∀ t : Fin 4, (64 * t.val + d.val / 4) &&& 51 = d.val / 4 &&& 51 := by decide +kernel
def pb1 (d : Nat) : Nat := d - (d / 2 &&& 85)
def pb2 (d : Nat) : Nat := (d &&& 51) + (d / 4 &&& 51)
theorem pb_end : ∀ d : Fin 256, pb1 d.val < 256 ∧ pb2 (pb1 d.val) % 16 ≤ 4 ∧ pb2 (pb1 d.val) / 16 ≤ 4 ∧ (pb2 (pb1 d.val) + pb2 (pb1 d.val) / 16) % 16 = pcN 8 d.val := by decide +kernel
theorem ps1 {a d m : Nat} (hd : d < 256) : (256 * a + d) / 2 &&& (256 * m + 85) = 256 * (a / 2 &&& m) + (d / 2 &&& 85) := by
  have e : (256 * a + d) / 2 = 256 * (a / 2) + (128 * (a % 2) + d / 2) := by omega
  rw [e, and_sp (by omega) (by decide), (pb_all ⟨d, hd⟩).2 ⟨a % 2, by omega⟩]
theorem ps2 {a d m : Nat} (hd : d < 256) : (256 * a + d) / 4 &&& (256 * m + 51) = 256 * (a / 4 &&& m) + (d / 4 &&& 51) := by
  have e : (256 * a + d) / 4 = 256 * (a / 4) + (64 * (a % 4) + d / 4) := by omega
  rw [e, and_sp (by omega) (by decide), pb_al2 ⟨d, hd⟩ ⟨a % 4, by omega⟩]
theorem pcN_b : ∀ (k j a d : Nat), d < 2 ^ k → pcN (k + j) (2 ^ k * a + d) = pcN k d + pcN j a
  | 0, j, a, d, h => by
    have : d = 0 := by simpa using h
    subst this
    rw [Nat.zero_add, Nat.pow_zero, Nat.one_mul, Nat.add_zero, pcN, Nat.zero_add]
  | k + 1, j, a, d, h => by
    rw [show k + 1 + j = (k + j) + 1 by omega, pcN, pcN, Nat.pow_succ, Nat.mul_comm (2 ^ k) 2, Nat.mul_assoc]
    rw [Nat.pow_succ] at h
    rw [show (2 * (2 ^ k * a) + d) % 2 = d % 2 by omega, show (2 * (2 ^ k * a) + d) / 2 = 2 ^ k * a + d / 2 by omega, pcN_b k j a (d / 2) (by omega), Nat.add_assoc]
theorem ps3 (a d : Nat) : 256 * a + d + (256 * a + d) / 16 = 256 * (a + a / 16) + (16 * (a % 16) + d + d / 16) := by omega
theorem ps4 (a d : Nat) : (256 * a + d) % 16 = d % 16 := by omega
theorem ps5 {f0 f1 f2 f3 : Nat} (h0 : f0 ≤ 68) (h1 : f1 ≤ 68) (h2 : f2 ≤ 68) (h3 : f3 ≤ 68) : (256 * (256 * (256 * f3 + f2) + f1) + f0 + (256 * (256 * (256 * f3 + f2) + f1) + f0) / 16) % 4294967296 = 256 * (256 * (256 * (f3 + f3 / 16) + (16 * (f3 % 16) + f2 + f2 / 16)) + (16 * (f2 % 16) + f1 + f1 / 16)) + (16 * (f1 % 16) + f0 + f0 / 16) := by
  rw [ps3, ps3, ps3, ps4, ps4]
  apply Nat.mod_eq_of_lt
  have a3 : f3 + f3 / 16 ≤ 72 := by omega
  have a2 : 16 * (f3 % 16) + f2 + f2 / 16 ≤ 400 := by omega
  have a1 : 16 * (f2 % 16) + f1 + f1 / 16 ≤ 400 := by omega
  have a0 : 16 * (f1 % 16) + f0 + f0 / 16 ≤ 400 := by omega
  generalize f3 + f3 / 16 = b3 at *
  generalize 16 * (f3 % 16) + f2 + f2 / 16 = b2 at *
  generalize 16 * (f2 % 16) + f1 + f1 / 16 = b1 at *
  generalize 16 * (f1 % 16) + f0 + f0 / 16 = b0 at *
  clear h0 h1 h2 h3
  omega
theorem ps6 {g0 g1 g2 g3 : Nat} (h0 : g0 ≤ 8) (h1 : g1 ≤ 8) (h2 : g2 ≤ 8) (h3 : g3 ≤ 8) : (256 * (256 * (256 * g3 + g2) + g1) + g0 + (256 * (256 * (256 * g3 + g2) + g1) + g0) / 256) % 4294967296 = 65536 * (g2 + g3 + 256 * g3) + (g0 + g1 + 256 * (g1 + g2)) := by
  have e : (256 * (256 * (256 * g3 + g2) + g1) + g0) / 256 = 256 * (256 * g3 + g2) + g1 := by
    generalize 256 * (256 * g3 + g2) + g1 = A
    omega
  rw [e, Nat.mod_eq_of_lt (by omega)]
  omega
theorem ps7 {g0 g1 g2 g3 : Nat} (h0 : g0 ≤ 8) (h1 : g1 ≤ 8) (h2 : g2 ≤ 8) (h3 : g3 ≤ 8) : (65536 * (g2 + g3 + 256 * g3) + (g0 + g1 + 256 * (g1 + g2)) + (65536 * (g2 + g3 + 256 * g3) + (g0 + g1 + 256 * (g1 + g2))) / 65536) % 4294967296 % 64 = g0 + (g1 + (g2 + g3)) := by
  have e : (65536 * (g2 + g3 + 256 * g3) + (g0 + g1 + 256 * (g1 + g2))) / 65536 = g2 + g3 + 256 * g3 := by
    have : g0 + g1 + 256 * (g1 + g2) < 65536 := by omega
    generalize g0 + g1 + 256 * (g1 + g2) = B at *
    generalize g2 + g3 + 256 * g3 = A
    omega
  rw [e, Nat.mod_eq_of_lt (show 65536 * (g2 + g3 + 256 * g3) + (g0 + g1 + 256 * (g1 + g2)) + (g2 + g3 + 256 * g3) < 4294967296 by omega)]
  have e2 : 65536 * (g2 + g3 + 256 * g3) + (g0 + g1 + 256 * (g1 + g2)) + (g2 + g3 + 256 * g3) = 64 * (1024 * (g2 + g3 + 256 * g3) + 4 * (g1 + g2) + 4 * g3) + (g0 + (g1 + (g2 + g3))) := by omega
  rw [e2, Nat.mul_add_mod]
  exact Nat.mod_eq_of_lt (by omega)
theorem ps8 {f t : Nat} (h1 : f % 16 ≤ 4) (h2 : f / 16 ≤ 4) (ht : t % 16 ≤ 4) : 16 * (t % 16) + f + f / 16 < 256 := by omega
theorem ps9 (f t : Nat) : (16 * t + f + f / 16) % 16 = (f + f / 16) % 16 := by omega
theorem ps10 {f : Nat} (h1 : f % 16 ≤ 4) (h2 : f / 16 ≤ 4) : f ≤ 68 := by omega
theorem ps11 (x : Nat) (h : x < 4294967296) : x = 256 * (256 * (256 * (x / 256 / 256 / 256) + x / 256 / 256 % 256) + x / 256 % 256) + x % 256 := by
  have a := Nat.div_add_mod x 256
  have b := Nat.div_add_mod (x / 256) 256
  have c := Nat.div_add_mod (x / 256 / 256) 256
  rw [c, b, a]
theorem ps12 {d0 d1 d2 d3 a0 a1 a2 a3 : Nat} (q0 : a0 ≤ d0) (q1 : a1 ≤ d1) (q2 : a2 ≤ d2) (q3 : a3 ≤ d3) (h0 : d0 < 256) (h1 : d1 < 256) (h2 : d2 < 256) (h3 : d3 < 256) : (4294967296 - (256 * (256 * (256 * a3 + a2) + a1) + a0) + (256 * (256 * (256 * d3 + d2) + d1) + d0)) % 4294967296 = 256 * (256 * (256 * (d3 - a3) + (d2 - a2)) + (d1 - a1)) + (d0 - a0) := by
  obtain ⟨x0, rfl⟩ := Nat.le.dest q0
  obtain ⟨x1, rfl⟩ := Nat.le.dest q1
  obtain ⟨x2, rfl⟩ := Nat.le.dest q2
  obtain ⟨x3, rfl⟩ := Nat.le.dest q3
  rw [Nat.add_sub_cancel_left, Nat.add_sub_cancel_left, Nat.add_sub_cancel_left, Nat.add_sub_cancel_left]
  rw [show 4294967296 - (256 * (256 * (256 * a3 + a2) + a1) + a0) + (256 * (256 * (256 * (a3 + x3) + (a2 + x2)) + (a1 + x1)) + (a0 + x0)) = 4294967296 + (256 * (256 * (256 * x3 + x2) + x1) + x0) by omega, Nat.add_mod_left]
  exact Nat.mod_eq_of_lt (by omega)
theorem ps13 {a0 a1 a2 a3 b0 b1 b2 b3 : Nat} (h0 : a0 + b0 ≤ 68) (h1 : a1 + b1 ≤ 68) (h2 : a2 + b2 ≤ 68) (h3 : a3 + b3 ≤ 68) : (256 * (256 * (256 * a3 + a2) + a1) + a0 + (256 * (256 * (256 * b3 + b2) + b1) + b0)) % 4294967296 = 256 * (256 * (256 * (a3 + b3) + (a2 + b2)) + (a1 + b1)) + (a0 + b0) := by
  rw [show 256 * (256 * (256 * a3 + a2) + a1) + a0 + (256 * (256 * (256 * b3 + b2) + b1) + b0) = 256 * (256 * (256 * (a3 + b3) + (a2 + b2)) + (a1 + b1)) + (a0 + b0) by omega]
  exact Nat.mod_eq_of_lt (by omega)
theorem bc_n (s : Int32) : bcJ s = nI (pcN 32 (un s)) := by
  have hs := un_lt s
  obtain ⟨d0, d1, d2, d3, h0, h1, h2, h3, hx⟩ : ∃ d0 d1 d2 d3 : Nat, d0 < 256 ∧ d1 < 256 ∧ d2 < 256 ∧ d3 < 256 ∧ un s = 256 * (256 * (256 * d3 + d2) + d1) + d0 :=
    ⟨un s % 256, un s / 256 % 256, un s / 256 / 256 % 256, un s / 256 / 256 / 256, Nat.mod_lt _ (by decide), Nat.mod_lt _ (by decide), Nat.mod_lt _ (by decide), by omega, ps11 _ hs⟩
  have p0 := pb_end ⟨d0, h0⟩
  have p1 := pb_end ⟨d1, h1⟩
  have p2 := pb_end ⟨d2, h2⟩
  have p3 := pb_end ⟨d3, h3⟩
  have q0 := (pb_all ⟨d0, h0⟩).1
  have q1 := (pb_all ⟨d1, h1⟩).1
  have q2 := (pb_all ⟨d2, h2⟩).1
  have q3 := (pb_all ⟨d3, h3⟩).1
  simp only at p0 p1 p2 p3 q0 q1 q2 q3
  have e1 : un (bj1 s) = 256 * (256 * (256 * pb1 d3 + pb1 d2) + pb1 d1) + pb1 d0 := by
    unfold bj1
    rw [un_sub, un_and, show un 1431655765 = 256 * (256 * (256 * 85 + 85) + 85) + 85 by decide +kernel, show (1 : Int32) = nI 1 from rfl, un_ush s (by decide), hx, Nat.pow_one, ps1 h0, ps1 h1, ps1 h2]
    unfold pb1
    exact ps12 q0 q1 q2 q3 h0 h1 h2 h3
  generalize pb1 d0 = c0 at *
  generalize pb1 d1 = c1 at *
  generalize pb1 d2 = c2 at *
  generalize pb1 d3 = c3 at *
  have e2 : un (bj2 (bj1 s)) = 256 * (256 * (256 * pb2 c3 + pb2 c2) + pb2 c1) + pb2 c0 := by
    unfold bj2
    rw [un_add, un_and, un_and, show un 858993459 = 256 * (256 * (256 * 51 + 51) + 51) + 51 by decide +kernel, show (2 : Int32) = nI 2 from rfl, un_ush _ (by decide), e1, show 2 ^ 2 = 4 from rfl, ps2 p0.1, ps2 p1.1, ps2 p2.1, and_sp p0.1 (by decide), and_sp p1.1 (by decide), and_sp p2.1 (by decide)]
    have r0 := ps10 p0.2.1 p0.2.2.1
    have r1 := ps10 p1.2.1 p1.2.2.1
    have r2 := ps10 p2.2.1 p2.2.2.1
    have r3 := ps10 p3.2.1 p3.2.2.1
    unfold pb2 at r0 r1 r2 r3 ⊢
    exact ps13 r0 r1 r2 r3
  generalize pb2 c0 = f0 at *
  generalize pb2 c1 = f1 at *
  generalize pb2 c2 = f2 at *
  generalize pb2 c3 = f3 at *
  have e3 : un (bj3 (bj2 (bj1 s))) = 256 * (256 * (256 * pcN 8 d3 + pcN 8 d2) + pcN 8 d1) + pcN 8 d0 := by
    unfold bj3
    rw [un_and, un_add, show un 252645135 = 256 * (256 * (256 * 15 + 15) + 15) + 15 by decide +kernel, show (4 : Int32) = nI 4 from rfl, un_ush _ (by decide), e2, show 2 ^ 4 = 16 from rfl]
    have m16 : ∀ x : Nat, x &&& 15 = x % 16 := fun x => Nat.and_two_pow_sub_one_eq_mod x 4
    rw [ps5 (ps10 p0.2.1 p0.2.2.1) (ps10 p1.2.1 p1.2.2.1) (ps10 p2.2.1 p2.2.2.1) (ps10 p3.2.1 p3.2.2.1), and_sp (ps8 p0.2.1 p0.2.2.1 p1.2.1) (by decide), and_sp (ps8 p1.2.1 p1.2.2.1 p2.2.1) (by decide), and_sp (ps8 p2.2.1 p2.2.2.1 p3.2.1) (by decide), m16, m16, m16, m16, ps9, ps9, ps9, p0.2.2.2, p1.2.2.2, p2.2.2.2, p3.2.2.2]
  have l0 := pcN_le 8 d0
  have l1 := pcN_le 8 d1
  have l2 := pcN_le 8 d2
  have l3 := pcN_le 8 d3
  have et : pcN 32 (un s) = pcN 8 d0 + (pcN 8 d1 + (pcN 8 d2 + pcN 8 d3)) := by
    rw [hx, show 32 = 8 + (8 + (8 + 8)) from rfl, show 256 = 2 ^ 8 from rfl, pcN_b 8 _ _ _ h0, pcN_b 8 _ _ _ h1, pcN_b 8 _ _ _ h2]
  rw [et]
  generalize pcN 8 d0 = g0 at *
  generalize pcN 8 d1 = g1 at *
  generalize pcN 8 d2 = g2 at *
  generalize pcN 8 d3 = g3 at *
  apply un_inj
  have e5 : un (nI (g0 + (g1 + (g2 + g3)))) = g0 + (g1 + (g2 + g3)) := by
    show (BitVec.ofNat 32 _).toNat = _
    rw [BitVec.toNat_ofNat]
    exact Nat.mod_eq_of_lt (by omega)
  rw [e5]
  unfold bcJ
  generalize bj3 (bj2 (bj1 s)) = x at e3
  have m64 : ∀ x : Nat, x &&& 63 = x % 64 := fun x => Nat.and_two_pow_sub_one_eq_mod x 6
  unfold bj5 bj4
  rw [un_and, un_add, show un 63 = 63 from rfl, m64, show (16 : Int32) = nI 16 from rfl, un_ush _ (by decide), un_add, show (8 : Int32) = nI 8 from rfl, un_ush _ (by decide), e3, show 2 ^ 8 = 256 from rfl, show 2 ^ 16 = 65536 from rfl, ps6 l0 l1 l2 l3, ps7 l0 l1 l2 l3]
/-- lies left: from morning to morning -/
theorem lft_0 (lies s : Int32) : lft lies s 0 = lies := by
  unfold lft
  rw [bc_n, un_and]
  rw [show un ((1 : Int32) <<< (nI 0 &&& 31) - 1) = 0 from un_m1 (i := 0) (by decide), Nat.and_zero, pcN_0]
  exact Int32.sub_zero _
theorem lft_pc (lies s : Int32) {i : Nat} (h : i < 32) : lft lies s i = lies - nI (pcN i (un s)) := by
  unfold lft
  rw [bc_n, un_and, show un ((1 : Int32) <<< (nI i &&& 31) - 1) = 2 ^ i - 1 from un_m1 h, Nat.and_two_pow_sub_one_eq_mod, pcN_mod i 32 _ (by omega)]
theorem lft_s (lies s : Int32) {i : Nat} (h : i < 31) : lft lies s (i + 1) = lft lies s i - (if bt s i then 1 else 0) := by
  rw [lft_pc lies s (by omega), lft_pc lies s (by omega), pcN_succ, bt_n s (by omega)]
  cases (un s).testBit i
  · simp
  · simp only [if_true]; rw [nI_succ]; grind
