theorem zand2 (i a b c e : Nat) (hb : b < 2 ^ i) (he : e < 2 ^ i) : (2 ^ i * a + b) &&& (2 ^ i * c + e) = 2 ^ i * (a &&& c) + (b &&& e) := by
  refine Nat.eq_of_testBit_eq fun j => ?_
  rw [Nat.testBit_and, Nat.testBit_two_pow_mul_add _ hb, Nat.testBit_two_pow_mul_add _ he, Nat.testBit_two_pow_mul_add _ (Nat.lt_of_le_of_lt Nat.and_le_left hb)]
  split <;> rw [Nat.testBit_and]
/-- how many ones among so many bits -/
def zpf : Nat → Nat → Nat
  | 0, _ => 0
  | c + 1, m => m % 2 + zpf c (m / 2)
theorem zpf_k : ∀ c m, 0 < m → m < 2 ^ c → zpf c (m &&& (m - 1)) + 1 = zpf c m
  | 0, m, h1, h2 => by omega
  | c + 1, m, h1, h2 => by
    have hp : 2 ^ (c + 1) = 2 * 2 ^ c := by rw [Nat.pow_succ]; omega
    rcases (by omega : m % 2 = 0 ∨ m % 2 = 1) with h | h
    · obtain ⟨q, rfl⟩ : ∃ q, m = 2 * q := ⟨m / 2, by omega⟩
      have e := zand2 1 q 0 (q - 1) 1 (by decide) (by decide)
      rw [show 2 ^ 1 * q + 0 = 2 * q by omega, show 2 ^ 1 * (q - 1) + 1 = 2 * q - 1 by omega, show 0 &&& 1 = 0 by decide] at e
      rw [e, zpf, zpf, show (2 ^ 1 * (q &&& (q - 1)) + 0) / 2 = q &&& (q - 1) by omega, show 2 * q / 2 = q by omega, ← zpf_k c q (by omega) (by omega)]
      omega
    · obtain ⟨q, rfl⟩ : ∃ q, m = 2 * q + 1 := ⟨m / 2, by omega⟩
      have e := zand2 1 q 1 q 0 (by decide) (by decide)
      rw [show 2 ^ 1 * q + 1 = 2 * q + 1 by omega, show 2 ^ 1 * q + 0 = 2 * q + 1 - 1 by omega, show 1 &&& 0 = 0 by decide, Nat.and_self] at e
      rw [e, zpf, zpf, show (2 ^ 1 * q + 0) / 2 = q by omega, show (2 * q + 1) / 2 = q by omega]
      omega
theorem zpf_le : ∀ c m, zpf c m ≤ c
  | 0, _ => Nat.le_refl _
  | c + 1, m => by
    have := zpf_le c (m / 2)
    rw [zpf]
    omega
theorem zpf_0 : ∀ c, zpf c 0 = 0
  | 0 => rfl
  | c + 1 => by rw [zpf, show 0 / 2 = 0 by decide, zpf_0 c]
theorem zpf_8 (c m : Nat) : zpf (c + 8) m = zpf 8 (m % 256) + zpf c (m / 256) := by
  simp only [zpf, Nat.div_div_eq_div_mul, Nat.reduceMul]
  omega
/-! the class's count, by bytes -/
def zF1 (m M : Nat) : Nat := m - ((m / 2) &&& M)
def zF2 (m M : Nat) : Nat := (m &&& M) + ((m / 4) &&& M)
def zF3 (m M : Nat) : Nat := (m + m / 16) &&& M
theorem zF1_b {q b M : Nat} (hb : b < 256) : zF1 (256 * q + b) (256 * M + 85) = 256 * zF1 q M + zF1 b 85 ∧ zF1 b 85 < 256 := by
  have hd : ∀ r : Fin 2, ∀ b : Fin 256, (128 * r.1 + b.1 / 2) &&& 85 = (b.1 / 2) &&& 85 := by decide +kernel
  have e := zand2 8 (q / 2) (128 * (q % 2) + b / 2) M 85 (by omega) (by decide)
  have h1 : (128 * (q % 2) + b / 2) &&& 85 = (b / 2) &&& 85 := hd ⟨q % 2, by omega⟩ ⟨b, hb⟩
  have h2 : (q / 2) &&& M ≤ q / 2 := Nat.and_le_left
  have h3 : (b / 2) &&& 85 ≤ b / 2 := Nat.and_le_left
  unfold zF1
  rw [show (256 * q + b) / 2 = 2 ^ 8 * (q / 2) + (128 * (q % 2) + b / 2) by omega, show 256 * M + 85 = 2 ^ 8 * M + 85 by omega, e, h1]
  omega
theorem zF2_b {q b M : Nat} (hb : b < 256) : zF2 (256 * q + b) (256 * M + 51) = 256 * zF2 q M + zF2 b 51 := by
  have hd : ∀ r : Fin 4, ∀ b : Fin 256, (64 * r.1 + b.1 / 4) &&& 51 = (b.1 / 4) &&& 51 := by decide +kernel
  have e := zand2 8 (q / 4) (64 * (q % 4) + b / 4) M 51 (by omega) (by decide)
  have e2 := zand2 8 q b M 51 (by omega) (by decide)
  have h1 : (64 * (q % 4) + b / 4) &&& 51 = (b / 4) &&& 51 := hd ⟨q % 4, by omega⟩ ⟨b, hb⟩
  unfold zF2
  rw [show (256 * q + b) / 4 = 2 ^ 8 * (q / 4) + (64 * (q % 4) + b / 4) by omega, show 256 * M + 51 = 2 ^ 8 * M + 51 by omega, e, h1, show 256 * q + b = 2 ^ 8 * q + b by omega, e2]
  omega
theorem zF3_b {q b M : Nat} (hb : b < 128) (hq : q % 16 ≤ 4) : zF3 (256 * q + b) (256 * M + 15) = 256 * zF3 q M + zF3 b 15 := by
  have hd : ∀ r : Fin 5, ∀ b : Fin 128, (16 * r.1 + b.1 + b.1 / 16) &&& 15 = (b.1 + b.1 / 16) &&& 15 := by decide +kernel
  have e := zand2 8 (q + q / 16) (16 * (q % 16) + b + b / 16) M 15 (by omega) (by decide)
  have h1 : (16 * (q % 16) + b + b / 16) &&& 15 = (b + b / 16) &&& 15 := hd ⟨q % 16, by omega⟩ ⟨b, hb⟩
  unfold zF3
  rw [show 256 * q + b + (256 * q + b) / 16 = 2 ^ 8 * (q + q / 16) + (16 * (q % 16) + b + b / 16) by omega, show 256 * M + 15 = 2 ^ 8 * M + 15 by omega, e, h1]
theorem zbyte : ∀ b : Fin 256, zF2 (zF1 b.1 85) 51 < 128 ∧ zF2 (zF1 b.1 85) 51 % 16 ≤ 4 ∧ zF3 (zF2 (zF1 b.1 85) 51) 15 = zpf 8 b.1 ∧ zpf 8 b.1 ≤ 8 := by decide +kernel
theorem zbyte' {b : Nat} (hb : b < 256) : zF2 (zF1 b 85) 51 < 128 ∧ zF2 (zF1 b 85) 51 % 16 ≤ 4 ∧ zF3 (zF2 (zF1 b 85) 51) 15 = zpf 8 b ∧ zpf 8 b ≤ 8 := zbyte ⟨b, hb⟩
theorem zswar {m : Nat} (hm : m < 4294967296) : ∃ w0 w1 w2 w3, w0 ≤ 8 ∧ w1 ≤ 8 ∧ w2 ≤ 8 ∧ w3 ≤ 8 ∧ zpf 32 m = w0 + w1 + w2 + w3 ∧ zF3 (zF2 (zF1 m 1431655765) 858993459) 252645135 = 16777216 * w3 + 65536 * w2 + 256 * w1 + w0 ∧ zF2 (zF1 m 1431655765) 858993459 < 2147483648 := by
  obtain ⟨b0, q1, h0, rfl⟩ : ∃ b0 q1, b0 < 256 ∧ m = 256 * q1 + b0 := ⟨m % 256, m / 256, by omega, by omega⟩
  obtain ⟨b1, q2, h1, rfl⟩ : ∃ b0 q, b0 < 256 ∧ q1 = 256 * q + b0 := ⟨q1 % 256, q1 / 256, by omega, by omega⟩
  obtain ⟨b2, b3, h2, rfl⟩ : ∃ b0 q, b0 < 256 ∧ q2 = 256 * q + b0 := ⟨q2 % 256, q2 / 256, by omega, by omega⟩
  have h3 : b3 < 256 := by omega
  obtain ⟨x0, y0, z0, l0⟩ := zbyte' h0
  obtain ⟨x1, y1, z1, l1⟩ := zbyte' h1
  obtain ⟨x2, y2, z2, l2⟩ := zbyte' h2
  obtain ⟨x3, y3, z3, l3⟩ := zbyte' h3
  have e1 : zF1 (256 * (256 * (256 * b3 + b2) + b1) + b0) 1431655765 = 256 * (256 * (256 * zF1 b3 85 + zF1 b2 85) + zF1 b1 85) + zF1 b0 85 := by
    rw [show 1431655765 = 256 * (256 * (256 * 85 + 85) + 85) + 85 by decide, (zF1_b h0).1, (zF1_b h1).1, (zF1_b h2).1]
  have u0 := (zF1_b (q := 0) (M := 0) h0).2
  have u1 := (zF1_b (q := 0) (M := 0) h1).2
  have u2 := (zF1_b (q := 0) (M := 0) h2).2
  have e2 : zF2 (256 * (256 * (256 * zF1 b3 85 + zF1 b2 85) + zF1 b1 85) + zF1 b0 85) 858993459 = 256 * (256 * (256 * zF2 (zF1 b3 85) 51 + zF2 (zF1 b2 85) 51) + zF2 (zF1 b1 85) 51) + zF2 (zF1 b0 85) 51 := by
    rw [show 858993459 = 256 * (256 * (256 * 51 + 51) + 51) + 51 by decide, zF2_b u0, zF2_b u1, zF2_b u2]
  have e3 : zF3 (256 * (256 * (256 * zF2 (zF1 b3 85) 51 + zF2 (zF1 b2 85) 51) + zF2 (zF1 b1 85) 51) + zF2 (zF1 b0 85) 51) 252645135 = 256 * (256 * (256 * zF3 (zF2 (zF1 b3 85) 51) 15 + zF3 (zF2 (zF1 b2 85) 51) 15) + zF3 (zF2 (zF1 b1 85) 51) 15) + zF3 (zF2 (zF1 b0 85) 51) 15 := by
    rw [show 252645135 = 256 * (256 * (256 * 15 + 15) + 15) + 15 by decide, zF3_b x0 (by omega), zF3_b x1 (by omega), zF3_b x2 (by omega)]
  refine ⟨zpf 8 b0, zpf 8 b1, zpf 8 b2, zpf 8 b3, l0, l1, l2, l3, ?_, ?_, ?_⟩
  · rw [zpf_8 24, zpf_8 16, zpf_8 8]
    rw [show (256 * (256 * (256 * b3 + b2) + b1) + b0) % 256 = b0 by omega, show (256 * (256 * (256 * b3 + b2) + b1) + b0) / 256 = 256 * (256 * b3 + b2) + b1 by omega, show (256 * (256 * b3 + b2) + b1) % 256 = b1 by omega, show (256 * (256 * b3 + b2) + b1) / 256 = 256 * b3 + b2 by omega, show (256 * b3 + b2) % 256 = b2 by omega, show (256 * b3 + b2) / 256 = b3 by omega]
    omega
  · rw [e1, e2, e3, z0, z1, z2, z3]
    omega
  · rw [e1, e2]
    omega
theorem zshl0 (x : Int32) : (0 : Int32) <<< x = 0 := by
  refine Int32.toBitVec_inj.mp ?_
  rw [Int32.toBitVec_shiftLeft]
  exact BitVec.zero_shiftLeft _
theorem zorn (a b : Int32) : (a &&& (b ^^^ -1)) ||| b = a ||| b := by
  refine Int32.toBitVec_inj.mp ?_
  rw [Int32.toBitVec_or, Int32.toBitVec_and, Int32.toBitVec_xor, Int32.toBitVec_or, show (-1 : Int32).toBitVec = BitVec.allOnes 32 by decide]
  refine BitVec.eq_of_getLsbD_eq fun i hi => ?_
  simp only [BitVec.getLsbD_or, BitVec.getLsbD_and, BitVec.getLsbD_xor, BitVec.getLsbD_allOnes, hi, decide_true]
  cases a.toBitVec.getLsbD i <;> cases b.toBitVec.getLsbD i <;> rfl
section BITS
variable {d f g : Nat} {t : Option Nat} {I J K : Nat → Nat → Int32} {L : Nat → Nat → Int64} {Q : Option Value → zMm → Prop}
def zNb (x : Int32) : Nat := x.toBitVec.toNat
theorem zNb_lt (x : Int32) : zNb x < 4294967296 := x.toBitVec.isLt
theorem zNb_and (x y : Int32) : zNb (x &&& y) = zNb x &&& zNb y := by
  unfold zNb
  rw [Int32.toBitVec_and, BitVec.toNat_and]
theorem zNb_add {x y : Int32} (h : zNb x + zNb y < 4294967296) : zNb (x + y) = zNb x + zNb y := by
  unfold zNb at *
  rw [Int32.toBitVec_add, BitVec.toNat_add]
  exact Nat.mod_eq_of_lt h
theorem zNb_sub {x y : Int32} (h : zNb y ≤ zNb x) : zNb (x - y) = zNb x - zNb y := by
  have := zNb_lt x
  have := zNb_lt y
  unfold zNb at *
  rw [Int32.toBitVec_sub, BitVec.toNat_sub]
  omega
theorem zNb_inj {x y : Int32} (h : zNb x = zNb y) : x = y := Int32.toBitVec_inj.mp (BitVec.eq_of_toNat_eq h)
theorem zNb_nI {a : Nat} (h : a < 4294967296) : zNb (nI a) = a := by
  unfold zNb nI
  rw [Int32.toBitVec_ofNat', BitVec.toNat_ofNat]
  exact Nat.mod_eq_of_lt h
def zsr (x k : Int32) : Int32 := (x.toUInt32 >>> (k.toUInt32 &&& Int32.toUInt32 31)).toInt32
theorem zsr_n {x k : Int32} {n : Nat} (hk : k.toUInt32 &&& Int32.toUInt32 31 = UInt32.ofNat n) (hn : n < 32) : zNb (zsr x k) = zNb x / 2 ^ n := by
  unfold zNb zsr
  rw [hk]
  show (x.toUInt32 >>> UInt32.ofNat n).toNat = _
  rw [UInt32.toNat_shiftRight, UInt32.toNat_ofNat', Nat.shiftRight_eq_div_pow, show n % 2 ^ 32 % 32 = n by omega]
  rfl
def zbq1 (x : Int32) : Int32 := x - (zsr x 1 &&& 1431655765)
def zbq2 (x : Int32) : Int32 := (x &&& 858993459) + (zsr x 2 &&& 858993459)
def zbq3 (x : Int32) : Int32 := (x + zsr x 4) &&& 252645135
def zbq4 (x : Int32) : Int32 := x + zsr x 8
def zbq5 (x : Int32) : Int32 := x + zsr x 16
theorem zbq (x : Int32) : (zbq5 (zbq4 (zbq3 (zbq2 (zbq1 x)))) &&& 63) = nI (zpf 32 (zNb x)) := by
  obtain ⟨w0, w1, w2, w3, l0, l1, l2, l3, e, e3, lt⟩ := zswar (zNb_lt x)
  have a1 : zNb 1431655765 = 1431655765 := by decide
  have a2 : zNb 858993459 = 858993459 := by decide
  have a3 : zNb 252645135 = 252645135 := by decide
  have a4 : zNb 63 = 63 := by decide
  have s1 : ∀ y, zNb (zsr y 1) = zNb y / 2 := fun y => zsr_n (n := 1) (by decide) (by decide)
  have s2 : ∀ y, zNb (zsr y 2) = zNb y / 4 := fun y => zsr_n (n := 2) (by decide) (by decide)
  have s4 : ∀ y, zNb (zsr y 4) = zNb y / 16 := fun y => zsr_n (n := 4) (by decide) (by decide)
  have s8 : ∀ y, zNb (zsr y 8) = zNb y / 256 := fun y => zsr_n (n := 8) (by decide) (by decide)
  have s16 : ∀ y, zNb (zsr y 16) = zNb y / 65536 := fun y => zsr_n (n := 16) (by decide) (by decide)
  have q1 : zNb (zbq1 x) = zF1 (zNb x) 1431655765 := by
    have h : (zNb x / 2) &&& 1431655765 ≤ zNb x / 2 := Nat.and_le_left
    unfold zbq1 zF1
    rw [zNb_sub (by rw [zNb_and, s1, a1]; omega), zNb_and, s1, a1]
  have q2 : zNb (zbq2 (zbq1 x)) = zF2 (zF1 (zNb x) 1431655765) 858993459 := by
    unfold zF2 at lt
    unfold zbq2 zF2
    rw [zNb_add (by rw [zNb_and, zNb_and, s2, a2, q1]; omega), zNb_and, zNb_and, s2, a2, q1]
  have q3 : zNb (zbq3 (zbq2 (zbq1 x))) = 16777216 * w3 + 65536 * w2 + 256 * w1 + w0 := by
    rw [← e3]
    unfold zbq3 zF3
    rw [zNb_and, zNb_add (by rw [s4, q2]; omega), s4, a3, q2]
  have q4 : zNb (zbq4 (zbq3 (zbq2 (zbq1 x)))) = 16777216 * w3 + 65536 * (w2 + w3) + 256 * (w1 + w2) + (w0 + w1) := by
    unfold zbq4
    rw [zNb_add (by rw [s8, q3]; omega), s8, q3]
    omega
  refine zNb_inj ?_
  have le := zpf_le 32 (zNb x)
  rw [zNb_nI (by omega), zNb_and, a4]
  unfold zbq5
  rw [zNb_add (by rw [s16, q4]; omega), s16, q4, e, show 63 = 2 ^ 6 - 1 by decide, Nat.and_two_pow_sub_one_eq_mod]
  have hd : (16777216 * w3 + 65536 * (w2 + w3) + 256 * (w1 + w2) + (w0 + w1)) / 65536 = 256 * w3 + (w2 + w3) := by omega
  rw [hd, show 16777216 * w3 + 65536 * (w2 + w3) + 256 * (w1 + w2) + (w0 + w1) + (256 * w3 + (w2 + w3)) = 2 ^ 6 * (262144 * w3 + 1024 * (w2 + w3) + 4 * (w1 + w2) + 4 * w3) + (w0 + w1 + w2 + w3) by omega, Nat.mul_add_mod]
  exact Nat.mod_eq_of_lt (by omega)
theorem c_bits (x : Int32) (h : zMm) : zWM (d + 1) 216 [.int x] h Q = Q (some (.int (nI (zpf 32 (zNb x))))) h := by
  rw [← zbq]
  simp (disch := first | assumption | rfl | omega | decide | exact zb_01 _) only [zabs_e, zmax_e, zmin_e, zrf_s, zpush_s, zpush_n, zw_app, upd_app, updL_app, Nat.reduceEqDiff, Nat.add_left_cancel_iff, Nat.add_eq_left, Nat.left_eq_add, ↓reduceIte, true_and, and_true, Int32.reduceToNatClampNeg, zin_O, zi_ltO, zi_leO, zi_Olt, zi_Ole, zi_eqO, Nat.not_lt_zero, Nat.zero_le, List.append_nil, zrn_n, zrn_s, List.cons_append, List.nil_append, zlg_lt, zlg_gt, zlg_le, zlg_ge, zlg_eq, Int32.toInt_toInt64, Int64.reduceToInt, zw_zw, zw_sw1, zw_sw2, zw_sw3, zw_sw4, zw_sw5, zw_sw6, zw_sw7, ne_eq, zi_in, zi_cl, zi_le, zi_lt, zi_eq, zi_neg, zi_0le, zb_0, if_true, if_false, eq_self, zb_T, zb_F, Bool.false_eq_true, zO_eq, zO_ne1, zO_ne2, zO_nn, zi_ne1, zi_ne2, zi_lt1, zi_le1, zi_lt2, zi_le2, Int32.reduceLT, Int32.reduceLE, Nat.reduceLT, Nat.reduceLeDiff, Int32.reduceMul, Int32.reduceAdd, Int32.reduceSub, not_false_eq_true, not_true_eq_false, Int32.reduceToInt, Int.reduceLE, Int.reduceLT, Int.reduceNeg, ite_self, E_J6_bitCount_0f7a4, R_J6_bitCount_0f7a4]
  rfl
theorem m_bits_l (x0 : Int32) (h : zMm) : ∀ c x i, zpf 32 (zNb x) = c → zWp d zi_182 none 4 [.int x0, .int (nI i), .int x] [] h Q = Q (some (.int (nI (i + c)))) h := by
  intro c
  induction c with
  | zero =>
    intro x i hc
    have h0 : x = 0 := by
      refine zNb_inj ?_
      show zNb x = 0
      by_cases e : zNb x = 0
      · exact e
      · have := zpf_k 32 (zNb x) (by omega) (zNb_lt x)
        omega
    subst h0
    rw [H_X10_bitsOf_4]
    simp (disch := first | assumption | rfl | omega | decide | exact zb_01 _) only [zabs_e, zmax_e, zmin_e, zrf_s, zpush_s, zpush_n, zw_app, upd_app, updL_app, Nat.reduceEqDiff, Nat.add_left_cancel_iff, Nat.add_eq_left, Nat.left_eq_add, ↓reduceIte, true_and, and_true, Int32.reduceToNatClampNeg, zin_O, zi_ltO, zi_leO, zi_Olt, zi_Ole, zi_eqO, Nat.not_lt_zero, Nat.zero_le, List.append_nil, zrn_n, zrn_s, List.cons_append, List.nil_append, zlg_lt, zlg_gt, zlg_le, zlg_ge, zlg_eq, Int32.toInt_toInt64, Int64.reduceToInt, zw_zw, zw_sw1, zw_sw2, zw_sw3, zw_sw4, zw_sw5, zw_sw6, zw_sw7, ne_eq, zi_in, zi_cl, zi_le, zi_lt, zi_eq, zi_neg, zi_0le, zb_0, if_true, if_false, eq_self, zb_T, zb_F, Bool.false_eq_true, zO_eq, zO_ne1, zO_ne2, zO_nn, zi_ne1, zi_ne2, zi_lt1, zi_le1, zi_lt2, zi_le2, Int32.reduceLT, Int32.reduceLE, Nat.reduceLT, Nat.reduceLeDiff, Int32.reduceMul, Int32.reduceAdd, Int32.reduceSub, not_false_eq_true, not_true_eq_false, Int32.reduceToInt, Int.reduceLE, Int.reduceLT, Int.reduceNeg, ite_self, R_X10_bitsOf]
    rfl
  | succ c ih =>
    intro x i hc
    have h0 : ¬ x = 0 := fun e => by
      subst e
      rw [show zNb 0 = 0 by decide, zpf_0] at hc
      omega
    have hz : 0 < zNb x := by
      rcases Nat.eq_zero_or_pos (zNb x) with e | e
      · rw [e, zpf_0] at hc
        omega
      · exact e
    have e1 : zNb (x &&& (x - 1)) = zNb x &&& (zNb x - 1) := by
      rw [zNb_and, zNb_sub (by rw [show zNb 1 = 1 by decide]; omega), show zNb 1 = 1 by decide]
    have e2 := zpf_k 32 (zNb x) hz (zNb_lt x)
    have e := ih (x &&& (x - 1)) (i + 1) (by rw [e1]; omega)
    rw [show i + (c + 1) = i + 1 + c by omega, ← e, H_X10_bitsOf_4]
    simp (disch := first | assumption | rfl | omega | decide | exact zb_01 _) only [zabs_e, zmax_e, zmin_e, zrf_s, zpush_s, zpush_n, zw_app, upd_app, updL_app, Nat.reduceEqDiff, Nat.add_left_cancel_iff, Nat.add_eq_left, Nat.left_eq_add, ↓reduceIte, true_and, and_true, Int32.reduceToNatClampNeg, zin_O, zi_ltO, zi_leO, zi_Olt, zi_Ole, zi_eqO, Nat.not_lt_zero, Nat.zero_le, List.append_nil, zrn_n, zrn_s, List.cons_append, List.nil_append, zlg_lt, zlg_gt, zlg_le, zlg_ge, zlg_eq, Int32.toInt_toInt64, Int64.reduceToInt, zw_zw, zw_sw1, zw_sw2, zw_sw3, zw_sw4, zw_sw5, zw_sw6, zw_sw7, ne_eq, zi_in, zi_cl, zi_le, zi_lt, zi_eq, zi_neg, zi_0le, zb_0, if_true, if_false, eq_self, zb_T, zb_F, Bool.false_eq_true, zO_eq, zO_ne1, zO_ne2, zO_nn, zi_ne1, zi_ne2, zi_lt1, zi_le1, zi_lt2, zi_le2, Int32.reduceLT, Int32.reduceLE, Nat.reduceLT, Nat.reduceLeDiff, Int32.reduceMul, Int32.reduceAdd, Int32.reduceSub, not_false_eq_true, not_true_eq_false, Int32.reduceToInt, Int.reduceLE, Int.reduceLT, Int.reduceNeg, ite_self, R_X10_bitsOf, h0, zi_s]
theorem m_bits (x : Int32) (h : zMm) : zWM (d + 1) 182 [.int x] h Q = Q (some (.int (nI (zpf 32 (zNb x))))) h := by
  have e := m_bits_l (d := d) (Q := Q) x h (zpf 32 (zNb x)) x 0 rfl
  rw [Nat.zero_add] at e
  rw [← e]
  simp (disch := first | assumption | rfl | omega | decide | exact zb_01 _) only [zabs_e, zmax_e, zmin_e, zrf_s, zpush_s, zpush_n, zw_app, upd_app, updL_app, Nat.reduceEqDiff, Nat.add_left_cancel_iff, Nat.add_eq_left, Nat.left_eq_add, ↓reduceIte, true_and, and_true, Int32.reduceToNatClampNeg, zin_O, zi_ltO, zi_leO, zi_Olt, zi_Ole, zi_eqO, Nat.not_lt_zero, Nat.zero_le, List.append_nil, zrn_n, zrn_s, List.cons_append, List.nil_append, zlg_lt, zlg_gt, zlg_le, zlg_ge, zlg_eq, Int32.toInt_toInt64, Int64.reduceToInt, zw_zw, zw_sw1, zw_sw2, zw_sw3, zw_sw4, zw_sw5, zw_sw6, zw_sw7, ne_eq, zi_in, zi_cl, zi_le, zi_lt, zi_eq, zi_neg, zi_0le, zb_0, if_true, if_false, eq_self, zb_T, zb_F, Bool.false_eq_true, zO_eq, zO_ne1, zO_ne2, zO_nn, zi_ne1, zi_ne2, zi_lt1, zi_le1, zi_lt2, zi_le2, Int32.reduceLT, Int32.reduceLE, Nat.reduceLT, Nat.reduceLeDiff, Int32.reduceMul, Int32.reduceAdd, Int32.reduceSub, not_false_eq_true, not_true_eq_false, Int32.reduceToInt, Int.reduceLE, Int.reduceLT, Int.reduceNeg, ite_self, E_X10_bitsOf, R_X10_bitsOf]
  rfl
theorem op_watch (hR : zRel I L f g) (x y : Int32) : zOp 100 184 [.int x, .int y] I L f g t := by
  obtain ⟨law, n, k, a, b, z, bb, hfg, ht, hw, hp, hs, hi, hc, hy, hl, hb, hr, hh, hf⟩ := id hR
  obtain ⟨s1, s2, s3, s4, s5, s6, s7⟩ := id hs
  rcases zrg x (0) (29) (0) (29) (by decide) (by decide) with ⟨h1, h2, h3, h4, h5⟩ | ⟨h1, h2⟩
  · have h6 : x < 30 := Int32.lt_iff_toInt_lt.mpr (by rw [show (30 : Int32).toInt = 30 by decide]; omega)
    have h7 : ¬ 30 ≤ x := Int32.not_le.mpr h6
    rcases zrg y (0) (1) (0) (1) (by decide) (by decide) with ⟨k1, k2, k3, k4, k5⟩ | ⟨k1, k2⟩
    · obtain ⟨W, hW1, hW2⟩ : ∃ W : Int32, (if y = 1 then I 51 3 ||| (1 <<< (x &&& 31)) else I 51 3 &&& ((1 <<< (x &&& 31)) ^^^ -1)) = W ∧ (I 51 3 &&& ((1 <<< (x &&& 31)) ^^^ -1)) ||| (y <<< (x &&& 31)) = W := by
        refine ⟨_, rfl, ?_⟩
        rcases zen1 k1 with rfl | rfl
        · rw [if_neg (by decide), zshl0, Int32.or_zero]
        · rw [if_pos rfl, zorn]
      refine zOp_m (.int (nI (zpf 32 (zNb W)))) (zw I 51 (upd (I 51) 3 W)) (zw (zw I 51 (upd (I 51) 3 W)) 80 (upd (I 80) 34 W)) (fun d Q => ?_) (fun d Q => ?_) ⟨law, n, k, a, b, z, bb, hfg, (zRt_f (I := I)  rfl rfl rfl rfl rfl rfl rfl rfl rfl rfl rfl (fun _ _ => rfl) rfl ht), (zRw_f (I := I)  rfl rfl rfl rfl rfl rfl rfl rfl hw), (zRp_f (I := I)  rfl rfl rfl rfl rfl rfl rfl (fun _ _ _ => rfl) hp), ?_, (zRi_f (I := I)  rfl rfl rfl rfl hi), (zRc_f (I := I)  rfl rfl rfl rfl rfl rfl rfl rfl hc), (zRy_f (I := I)  rfl rfl rfl rfl hy), (zRl_f (I := I) hfg rfl rfl rfl rfl rfl rfl rfl rfl hl), (zRb_f (I := I)  rfl rfl rfl rfl hb), (zRr_f (I := I)  rfl rfl rfl rfl hr), (zRh_f (I := I)  rfl rfl rfl rfl rfl rfl rfl rfl hh), (zRf_f (I := I)  rfl rfl rfl rfl rfl rfl rfl rfl rfl hf)⟩
      · rcases zen1 k1 with rfl | rfl
        · rw [if_neg (by decide)] at hW1
          simp (disch := first | assumption | rfl | omega | decide | exact zb_01 _) only [zabs_e, zmax_e, zmin_e, zrf_s, zpush_s, zpush_n, zw_app, upd_app, updL_app, Nat.reduceEqDiff, Nat.add_left_cancel_iff, Nat.add_eq_left, Nat.left_eq_add, ↓reduceIte, true_and, and_true, Int32.reduceToNatClampNeg, zin_O, zi_ltO, zi_leO, zi_Olt, zi_Ole, zi_eqO, Nat.not_lt_zero, Nat.zero_le, List.append_nil, zrn_n, zrn_s, List.cons_append, List.nil_append, zlg_lt, zlg_gt, zlg_le, zlg_ge, zlg_eq, Int32.toInt_toInt64, Int64.reduceToInt, zw_zw, zw_sw1, zw_sw2, zw_sw3, zw_sw4, zw_sw5, zw_sw6, zw_sw7, ne_eq, zi_in, zi_cl, zi_le, zi_lt, zi_eq, zi_neg, zi_0le, zb_0, if_true, if_false, eq_self, zb_T, zb_F, Bool.false_eq_true, zO_eq, zO_ne1, zO_ne2, zO_nn, zi_ne1, zi_ne2, zi_lt1, zi_le1, zi_lt2, zi_le2, Int32.reduceLT, Int32.reduceLE, Nat.reduceLT, Nat.reduceLeDiff, Int32.reduceMul, Int32.reduceAdd, Int32.reduceSub, not_false_eq_true, not_true_eq_false, Int32.reduceToInt, Int.reduceLE, Int.reduceLT, Int.reduceNeg, ite_self, E_X9_watch, R_X9_watch, SHF, PF, h2, h3, h4, h5, h6, h7, hW1, c_bits]
        · rw [if_pos rfl] at hW1
          simp (disch := first | assumption | rfl | omega | decide | exact zb_01 _) only [zabs_e, zmax_e, zmin_e, zrf_s, zpush_s, zpush_n, zw_app, upd_app, updL_app, Nat.reduceEqDiff, Nat.add_left_cancel_iff, Nat.add_eq_left, Nat.left_eq_add, ↓reduceIte, true_and, and_true, Int32.reduceToNatClampNeg, zin_O, zi_ltO, zi_leO, zi_Olt, zi_Ole, zi_eqO, Nat.not_lt_zero, Nat.zero_le, List.append_nil, zrn_n, zrn_s, List.cons_append, List.nil_append, zlg_lt, zlg_gt, zlg_le, zlg_ge, zlg_eq, Int32.toInt_toInt64, Int64.reduceToInt, zw_zw, zw_sw1, zw_sw2, zw_sw3, zw_sw4, zw_sw5, zw_sw6, zw_sw7, ne_eq, zi_in, zi_cl, zi_le, zi_lt, zi_eq, zi_neg, zi_0le, zb_0, if_true, if_false, eq_self, zb_T, zb_F, Bool.false_eq_true, zO_eq, zO_ne1, zO_ne2, zO_nn, zi_ne1, zi_ne2, zi_lt1, zi_le1, zi_lt2, zi_le2, Int32.reduceLT, Int32.reduceLE, Nat.reduceLT, Nat.reduceLeDiff, Int32.reduceMul, Int32.reduceAdd, Int32.reduceSub, not_false_eq_true, not_true_eq_false, Int32.reduceToInt, Int.reduceLE, Int.reduceLT, Int.reduceNeg, ite_self, E_X9_watch, R_X9_watch, SHF, PF, h2, h3, h4, h5, h6, h7, hW1, c_bits]
      · simp (disch := first | assumption | rfl | omega | decide | exact zb_01 _) only [zabs_e, zmax_e, zmin_e, zrf_s, zpush_s, zpush_n, zw_app, upd_app, updL_app, Nat.reduceEqDiff, Nat.add_left_cancel_iff, Nat.add_eq_left, Nat.left_eq_add, ↓reduceIte, true_and, and_true, Int32.reduceToNatClampNeg, zin_O, zi_ltO, zi_leO, zi_Olt, zi_Ole, zi_eqO, Nat.not_lt_zero, Nat.zero_le, List.append_nil, zrn_n, zrn_s, List.cons_append, List.nil_append, zlg_lt, zlg_gt, zlg_le, zlg_ge, zlg_eq, Int32.toInt_toInt64, Int64.reduceToInt, zw_zw, zw_sw1, zw_sw2, zw_sw3, zw_sw4, zw_sw5, zw_sw6, zw_sw7, ne_eq, zi_in, zi_cl, zi_le, zi_lt, zi_eq, zi_neg, zi_0le, zb_0, if_true, if_false, eq_self, zb_T, zb_F, Bool.false_eq_true, zO_eq, zO_ne1, zO_ne2, zO_nn, zi_ne1, zi_ne2, zi_lt1, zi_le1, zi_lt2, zi_le2, Int32.reduceLT, Int32.reduceLE, Nat.reduceLT, Nat.reduceLeDiff, Int32.reduceMul, Int32.reduceAdd, Int32.reduceSub, not_false_eq_true, not_true_eq_false, Int32.reduceToInt, Int.reduceLE, Int.reduceLT, Int.reduceNeg, ite_self, E_X10_watch, R_X10_watch, SHF, PF, m_within, h1, k1, s4, hW2, m_bits]
      · exact ⟨s1, s2, s3, rfl, s5, s6, s7⟩
    · refine zOp_s hR (.int (-1)) (fun d Q => ?_) (fun d Q => ?_)
      · rcases k2 with ⟨k2, k3⟩ | ⟨k2, k3, k4, k5⟩
        · simp (disch := first | assumption | rfl | omega | decide | exact zb_01 _) only [zabs_e, zmax_e, zmin_e, zrf_s, zpush_s, zpush_n, zw_app, upd_app, updL_app, Nat.reduceEqDiff, Nat.add_left_cancel_iff, Nat.add_eq_left, Nat.left_eq_add, ↓reduceIte, true_and, and_true, Int32.reduceToNatClampNeg, zin_O, zi_ltO, zi_leO, zi_Olt, zi_Ole, zi_eqO, Nat.not_lt_zero, Nat.zero_le, List.append_nil, zrn_n, zrn_s, List.cons_append, List.nil_append, zlg_lt, zlg_gt, zlg_le, zlg_ge, zlg_eq, Int32.toInt_toInt64, Int64.reduceToInt, zw_zw, zw_sw1, zw_sw2, zw_sw3, zw_sw4, zw_sw5, zw_sw6, zw_sw7, ne_eq, zi_in, zi_cl, zi_le, zi_lt, zi_eq, zi_neg, zi_0le, zb_0, if_true, if_false, eq_self, zb_T, zb_F, Bool.false_eq_true, zO_eq, zO_ne1, zO_ne2, zO_nn, zi_ne1, zi_ne2, zi_lt1, zi_le1, zi_lt2, zi_le2, Int32.reduceLT, Int32.reduceLE, Nat.reduceLT, Nat.reduceLeDiff, Int32.reduceMul, Int32.reduceAdd, Int32.reduceSub, not_false_eq_true, not_true_eq_false, Int32.reduceToInt, Int.reduceLE, Int.reduceLT, Int.reduceNeg, ite_self, E_X9_watch, R_X9_watch, SHF, PF, h2, h3, h4, h5, h6, h7, k2, k3]
        · simp (disch := first | assumption | rfl | omega | decide | exact zb_01 _) only [zabs_e, zmax_e, zmin_e, zrf_s, zpush_s, zpush_n, zw_app, upd_app, updL_app, Nat.reduceEqDiff, Nat.add_left_cancel_iff, Nat.add_eq_left, Nat.left_eq_add, ↓reduceIte, true_and, and_true, Int32.reduceToNatClampNeg, zin_O, zi_ltO, zi_leO, zi_Olt, zi_Ole, zi_eqO, Nat.not_lt_zero, Nat.zero_le, List.append_nil, zrn_n, zrn_s, List.cons_append, List.nil_append, zlg_lt, zlg_gt, zlg_le, zlg_ge, zlg_eq, Int32.toInt_toInt64, Int64.reduceToInt, zw_zw, zw_sw1, zw_sw2, zw_sw3, zw_sw4, zw_sw5, zw_sw6, zw_sw7, ne_eq, zi_in, zi_cl, zi_le, zi_lt, zi_eq, zi_neg, zi_0le, zb_0, if_true, if_false, eq_self, zb_T, zb_F, Bool.false_eq_true, zO_eq, zO_ne1, zO_ne2, zO_nn, zi_ne1, zi_ne2, zi_lt1, zi_le1, zi_lt2, zi_le2, Int32.reduceLT, Int32.reduceLE, Nat.reduceLT, Nat.reduceLeDiff, Int32.reduceMul, Int32.reduceAdd, Int32.reduceSub, not_false_eq_true, not_true_eq_false, Int32.reduceToInt, Int.reduceLE, Int.reduceLT, Int.reduceNeg, ite_self, E_X9_watch, R_X9_watch, SHF, PF, h2, h3, h4, h5, h6, h7, k2, k3, k4, k5]
      · simp (disch := first | assumption | rfl | omega | decide | exact zb_01 _) only [zabs_e, zmax_e, zmin_e, zrf_s, zpush_s, zpush_n, zw_app, upd_app, updL_app, Nat.reduceEqDiff, Nat.add_left_cancel_iff, Nat.add_eq_left, Nat.left_eq_add, ↓reduceIte, true_and, and_true, Int32.reduceToNatClampNeg, zin_O, zi_ltO, zi_leO, zi_Olt, zi_Ole, zi_eqO, Nat.not_lt_zero, Nat.zero_le, List.append_nil, zrn_n, zrn_s, List.cons_append, List.nil_append, zlg_lt, zlg_gt, zlg_le, zlg_ge, zlg_eq, Int32.toInt_toInt64, Int64.reduceToInt, zw_zw, zw_sw1, zw_sw2, zw_sw3, zw_sw4, zw_sw5, zw_sw6, zw_sw7, ne_eq, zi_in, zi_cl, zi_le, zi_lt, zi_eq, zi_neg, zi_0le, zb_0, if_true, if_false, eq_self, zb_T, zb_F, Bool.false_eq_true, zO_eq, zO_ne1, zO_ne2, zO_nn, zi_ne1, zi_ne2, zi_lt1, zi_le1, zi_lt2, zi_le2, Int32.reduceLT, Int32.reduceLE, Nat.reduceLT, Nat.reduceLeDiff, Int32.reduceMul, Int32.reduceAdd, Int32.reduceSub, not_false_eq_true, not_true_eq_false, Int32.reduceToInt, Int.reduceLE, Int.reduceLT, Int.reduceNeg, ite_self, E_X10_watch, R_X10_watch, SHF, PF, m_within, h1, k1]
  · refine zOp_s hR (.int (-1)) (fun d Q => ?_) (fun d Q => ?_)
    · rcases h2 with ⟨h2, h3⟩ | ⟨h2, h3, h4, h5⟩
      · simp (disch := first | assumption | rfl | omega | decide | exact zb_01 _) only [zabs_e, zmax_e, zmin_e, zrf_s, zpush_s, zpush_n, zw_app, upd_app, updL_app, Nat.reduceEqDiff, Nat.add_left_cancel_iff, Nat.add_eq_left, Nat.left_eq_add, ↓reduceIte, true_and, and_true, Int32.reduceToNatClampNeg, zin_O, zi_ltO, zi_leO, zi_Olt, zi_Ole, zi_eqO, Nat.not_lt_zero, Nat.zero_le, List.append_nil, zrn_n, zrn_s, List.cons_append, List.nil_append, zlg_lt, zlg_gt, zlg_le, zlg_ge, zlg_eq, Int32.toInt_toInt64, Int64.reduceToInt, zw_zw, zw_sw1, zw_sw2, zw_sw3, zw_sw4, zw_sw5, zw_sw6, zw_sw7, ne_eq, zi_in, zi_cl, zi_le, zi_lt, zi_eq, zi_neg, zi_0le, zb_0, if_true, if_false, eq_self, zb_T, zb_F, Bool.false_eq_true, zO_eq, zO_ne1, zO_ne2, zO_nn, zi_ne1, zi_ne2, zi_lt1, zi_le1, zi_lt2, zi_le2, Int32.reduceLT, Int32.reduceLE, Nat.reduceLT, Nat.reduceLeDiff, Int32.reduceMul, Int32.reduceAdd, Int32.reduceSub, not_false_eq_true, not_true_eq_false, Int32.reduceToInt, Int.reduceLE, Int.reduceLT, Int.reduceNeg, ite_self, E_X9_watch, R_X9_watch, SHF, PF, h2, h3]
      · have h6 : 30 ≤ x := Int32.le_iff_toInt_le.mpr (by have := Int32.lt_iff_toInt_lt.mp h4; rw [show (29 : Int32).toInt = 29 by decide] at this; rw [show (30 : Int32).toInt = 30 by decide]; omega)
        have h7 : ¬ x < 30 := Int32.not_lt.mpr h6
        simp (disch := first | assumption | rfl | omega | decide | exact zb_01 _) only [zabs_e, zmax_e, zmin_e, zrf_s, zpush_s, zpush_n, zw_app, upd_app, updL_app, Nat.reduceEqDiff, Nat.add_left_cancel_iff, Nat.add_eq_left, Nat.left_eq_add, ↓reduceIte, true_and, and_true, Int32.reduceToNatClampNeg, zin_O, zi_ltO, zi_leO, zi_Olt, zi_Ole, zi_eqO, Nat.not_lt_zero, Nat.zero_le, List.append_nil, zrn_n, zrn_s, List.cons_append, List.nil_append, zlg_lt, zlg_gt, zlg_le, zlg_ge, zlg_eq, Int32.toInt_toInt64, Int64.reduceToInt, zw_zw, zw_sw1, zw_sw2, zw_sw3, zw_sw4, zw_sw5, zw_sw6, zw_sw7, ne_eq, zi_in, zi_cl, zi_le, zi_lt, zi_eq, zi_neg, zi_0le, zb_0, if_true, if_false, eq_self, zb_T, zb_F, Bool.false_eq_true, zO_eq, zO_ne1, zO_ne2, zO_nn, zi_ne1, zi_ne2, zi_lt1, zi_le1, zi_lt2, zi_le2, Int32.reduceLT, Int32.reduceLE, Nat.reduceLT, Nat.reduceLeDiff, Int32.reduceMul, Int32.reduceAdd, Int32.reduceSub, not_false_eq_true, not_true_eq_false, Int32.reduceToInt, Int.reduceLE, Int.reduceLT, Int.reduceNeg, ite_self, E_X9_watch, R_X9_watch, SHF, PF, h2, h3, h6, h7]
    · simp (disch := first | assumption | rfl | omega | decide | exact zb_01 _) only [zabs_e, zmax_e, zmin_e, zrf_s, zpush_s, zpush_n, zw_app, upd_app, updL_app, Nat.reduceEqDiff, Nat.add_left_cancel_iff, Nat.add_eq_left, Nat.left_eq_add, ↓reduceIte, true_and, and_true, Int32.reduceToNatClampNeg, zin_O, zi_ltO, zi_leO, zi_Olt, zi_Ole, zi_eqO, Nat.not_lt_zero, Nat.zero_le, List.append_nil, zrn_n, zrn_s, List.cons_append, List.nil_append, zlg_lt, zlg_gt, zlg_le, zlg_ge, zlg_eq, Int32.toInt_toInt64, Int64.reduceToInt, zw_zw, zw_sw1, zw_sw2, zw_sw3, zw_sw4, zw_sw5, zw_sw6, zw_sw7, ne_eq, zi_in, zi_cl, zi_le, zi_lt, zi_eq, zi_neg, zi_0le, zb_0, if_true, if_false, eq_self, zb_T, zb_F, Bool.false_eq_true, zO_eq, zO_ne1, zO_ne2, zO_nn, zi_ne1, zi_ne2, zi_lt1, zi_le1, zi_lt2, zi_le2, Int32.reduceLT, Int32.reduceLE, Nat.reduceLT, Nat.reduceLeDiff, Int32.reduceMul, Int32.reduceAdd, Int32.reduceSub, not_false_eq_true, not_true_eq_false, Int32.reduceToInt, Int.reduceLE, Int.reduceLT, Int.reduceNeg, ite_self, E_X10_watch, R_X10_watch, SHF, PF, m_within, h1]
end BITS
