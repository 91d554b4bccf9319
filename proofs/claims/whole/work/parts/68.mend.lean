/-- moved down by one, so many of them -/
def zshd (i : Nat) (F : Nat → Int32) : Nat → Int32 := fun j => if j < i then F (j + 1) else F j
theorem zshd_0 (F : Nat → Int32) : zshd 0 F = F := by funext j; unfold zshd; exact if_neg (by omega)
theorem zshd_s (i : Nat) (F : Nat → Int32) : upd (zshd i F) i (zshd i F (i + 1)) = zshd (i + 1) F := by
  funext j
  simp only [upd, zshd]
  by_cases h : j = i
  · subst h
    rw [if_pos rfl, if_neg (by omega), if_pos (by omega)]
  · rw [if_neg h]
    by_cases h2 : j < i
    · rw [if_pos h2, if_pos (by omega)]
    · rw [if_neg h2, if_neg (by omega)]
def zca (a : Nat) : Nat := if a = 40 then 39 else a
def zchb (F : Nat → Int32) (a : Nat) : Nat → Int32 := if a = 40 then va_cpy F F 4 0 156 else F
def zchs (F : Nat → Int32) (a : Nat) : Nat → Int32 := if a = 40 then zshd 39 F else F
def zche (F : Nat → Int32) (a : Nat) (N W B A : Int32) : Nat → Int32 := upd (upd (upd (upd (zchb F a) (4 * zca a) N) (4 * zca a + 1) W) (4 * zca a + 2) B) (4 * zca a + 3) A
theorem zi_m4 (j : Nat) : nI j * 4 = nI (4 * j) := by
  rw [Nat.mul_comm]
  unfold nI
  rw [Int32.ofNat_mul]
  rfl
theorem zi_p2 (j : Nat) : nI j + 2 = nI (j + 2) := nI_add j 2
theorem zi_p3 (j : Nat) : nI j + 3 = nI (j + 3) := nI_add j 3
section MEND
variable {d f g n k a b z bb w m : Nat} {t : Option Nat} {I J : Nat → Nat → Int32} {L : Nat → Nat → Int64} {Q : Option Value → zMm → Prop} {law : zLawT}
theorem c_chg (ha : I 54 1 = nI a) (ha40 : a ≤ 40) (N W B A : Int32) : zWM (d + 1) 7 [.ref 54, .int N, .int W, .int B, .int A] (zSH, I, L, zP f g t) Q = Q none (zSH, zw (zw I 55 (zche (I 55) a N W B A)) 54 (upd (upd (I 54) 1 (nI (zca a + 1))) 2 (nI (zca a + 1))), L, zP f g t) := by
  unfold zche zchb zca
  by_cases h : a = 40
  · subst h
    have p5 : (4 : Int32).toNatClampNeg + (156 : Int32).toNatClampNeg ≤ zAn zSH 55 := by decide +kernel
    have p6 : (0 : Int32).toNatClampNeg + (156 : Int32).toNatClampNeg ≤ zAn zSH 55 := by decide +kernel
    rw [if_pos rfl, if_pos rfl]
    simp (disch := first | assumption | rfl | omega | decide | exact zb_01 _) only [zabs_e, zmax_e, zmin_e, zrf_s, zpush_s, zpush_n, zw_app, upd_app, updL_app, Nat.reduceEqDiff, Nat.add_left_cancel_iff, Nat.add_eq_left, Nat.left_eq_add, ↓reduceIte, true_and, and_true, Int32.reduceToNatClampNeg, zin_O, zi_ltO, zi_leO, zi_Olt, zi_Ole, zi_eqO, Nat.not_lt_zero, Nat.zero_le, List.append_nil, zrn_n, zrn_s, List.cons_append, List.nil_append, zlg_lt, zlg_gt, zlg_le, zlg_ge, zlg_eq, Int32.toInt_toInt64, Int64.reduceToInt, zw_zw, zw_sw1, zw_sw2, zw_sw3, zw_sw4, zw_sw5, zw_sw6, zw_sw7, ne_eq, zi_in, zi_cl, zi_le, zi_lt, zi_eq, zi_neg, zi_0le, zb_0, if_true, if_false, eq_self, zb_T, zb_F, Bool.false_eq_true, zO_eq, zO_ne1, zO_ne2, zO_nn, zi_ne1, zi_ne2, zi_lt1, zi_le1, zi_lt2, zi_le2, Int32.reduceLT, Int32.reduceLE, Nat.reduceLT, Nat.reduceLeDiff, Int32.reduceMul, Int32.reduceAdd, Int32.reduceSub, not_false_eq_true, not_true_eq_false, Int32.reduceToInt, Int.reduceLE, Int.reduceLT, Int.reduceNeg, ite_self, E_X1_add, R_X1_add, SHF, PF, ha, upd_upd]
    rfl
  · have h1 : ¬ 40 ≤ a := by omega
    have h2 : a < 40 := by omega
    rw [if_neg h, if_neg h]
    have i1 : 4 * a < 160 := by omega
    have i2 : 4 * a + 1 < 160 := by omega
    have i3 : 4 * a + 2 < 160 := by omega
    have i4 : 4 * a + 3 < 160 := by omega
    simp (disch := first | assumption | rfl | omega | decide | exact zb_01 _) only [zabs_e, zmax_e, zmin_e, zrf_s, zpush_s, zpush_n, zw_app, upd_app, updL_app, Nat.reduceEqDiff, Nat.add_left_cancel_iff, Nat.add_eq_left, Nat.left_eq_add, ↓reduceIte, true_and, and_true, Int32.reduceToNatClampNeg, zin_O, zi_ltO, zi_leO, zi_Olt, zi_Ole, zi_eqO, Nat.not_lt_zero, Nat.zero_le, List.append_nil, zrn_n, zrn_s, List.cons_append, List.nil_append, zlg_lt, zlg_gt, zlg_le, zlg_ge, zlg_eq, Int32.toInt_toInt64, Int64.reduceToInt, zw_zw, zw_sw1, zw_sw2, zw_sw3, zw_sw4, zw_sw5, zw_sw6, zw_sw7, ne_eq, zi_in, zi_cl, zi_le, zi_lt, zi_eq, zi_neg, zi_0le, zb_0, if_true, if_false, eq_self, zb_T, zb_F, Bool.false_eq_true, zO_eq, zO_ne1, zO_ne2, zO_nn, zi_ne1, zi_ne2, zi_lt1, zi_le1, zi_lt2, zi_le2, Int32.reduceLT, Int32.reduceLE, Nat.reduceLT, Nat.reduceLeDiff, Int32.reduceMul, Int32.reduceAdd, Int32.reduceSub, not_false_eq_true, not_true_eq_false, Int32.reduceToInt, Int.reduceLE, Int.reduceLT, Int.reduceNeg, ite_self, E_X1_add, R_X1_add, SHF, PF, ha, h1, h2, i1, i2, i3, i4, zi_m4, zi_s, zi_p2, zi_p3]
theorem m_bec_l (l1 l2 l3 : Int32) : ∀ c i, c + i = 39 → zWp d zi_125 none 26 [.ref 80, .int l1, .int l2, .int l3, .int (nI (i + 1))] [] (zSH, zw (zw (zw I 82 (zshd i (I 82))) 83 (zshd i (I 83))) 84 (zshd i (I 84)), L, zP f g t) Q = zWp d zi_125 none 87 [.ref 80, .int l1, .int l2, .int l3, .int (nI 40)] [] (zSH, zw (zw (zw I 82 (zshd 39 (I 82))) 83 (zshd 39 (I 83))) 84 (zshd 39 (I 84)), L, zP f g t) Q := by
  intro c
  induction c with
  | zero =>
    intro i hi
    have hi : i = 39 := by omega
    subst hi
    rw [H_X10_becomes_26]
    simp (disch := first | assumption | rfl | omega | decide | exact zb_01 _) only [zabs_e, zmax_e, zmin_e, zrf_s, zpush_s, zpush_n, zw_app, upd_app, updL_app, Nat.reduceEqDiff, Nat.add_left_cancel_iff, Nat.add_eq_left, Nat.left_eq_add, ↓reduceIte, true_and, and_true, Int32.reduceToNatClampNeg, zin_O, zi_ltO, zi_leO, zi_Olt, zi_Ole, zi_eqO, Nat.not_lt_zero, Nat.zero_le, List.append_nil, zrn_n, zrn_s, List.cons_append, List.nil_append, zlg_lt, zlg_gt, zlg_le, zlg_ge, zlg_eq, Int32.toInt_toInt64, Int64.reduceToInt, zw_zw, zw_sw1, zw_sw2, zw_sw3, zw_sw4, zw_sw5, zw_sw6, zw_sw7, ne_eq, zi_in, zi_cl, zi_le, zi_lt, zi_eq, zi_neg, zi_0le, zb_0, if_true, if_false, eq_self, zb_T, zb_F, Bool.false_eq_true, zO_eq, zO_ne1, zO_ne2, zO_nn, zi_ne1, zi_ne2, zi_lt1, zi_le1, zi_lt2, zi_le2, Int32.reduceLT, Int32.reduceLE, Nat.reduceLT, Nat.reduceLeDiff, Int32.reduceMul, Int32.reduceAdd, Int32.reduceSub, not_false_eq_true, not_true_eq_false, Int32.reduceToInt, Int.reduceLE, Int.reduceLT, Int.reduceNeg, ite_self, R_X10_becomes, SHF, PF]
  | succ c ih =>
    intro i hi
    have h1 : ¬ 40 ≤ i + 1 := by omega
    have h1' : ¬ 39 ≤ i := by omega
    have h2 : i < 40 := by omega
    have h3 : i + 1 < 40 := by omega
    have e1 := zshd_s i (I 82)
    have e2 := zshd_s i (I 83)
    have e3 := zshd_s i (I 84)
    rw [H_X10_becomes_26, ← ih (i + 1) (by omega)]
    simp (disch := first | assumption | rfl | omega | decide | exact zb_01 _) only [zabs_e, zmax_e, zmin_e, zrf_s, zpush_s, zpush_n, zw_app, upd_app, updL_app, Nat.reduceEqDiff, Nat.add_left_cancel_iff, Nat.add_eq_left, Nat.left_eq_add, ↓reduceIte, true_and, and_true, Int32.reduceToNatClampNeg, zin_O, zi_ltO, zi_leO, zi_Olt, zi_Ole, zi_eqO, Nat.not_lt_zero, Nat.zero_le, List.append_nil, zrn_n, zrn_s, List.cons_append, List.nil_append, zlg_lt, zlg_gt, zlg_le, zlg_ge, zlg_eq, Int32.toInt_toInt64, Int64.reduceToInt, zw_zw, zw_sw1, zw_sw2, zw_sw3, zw_sw4, zw_sw5, zw_sw6, zw_sw7, ne_eq, zi_in, zi_cl, zi_le, zi_lt, zi_eq, zi_neg, zi_0le, zb_0, if_true, if_false, eq_self, zb_T, zb_F, Bool.false_eq_true, zO_eq, zO_ne1, zO_ne2, zO_nn, zi_ne1, zi_ne2, zi_lt1, zi_le1, zi_lt2, zi_le2, Int32.reduceLT, Int32.reduceLE, Nat.reduceLT, Nat.reduceLeDiff, Int32.reduceMul, Int32.reduceAdd, Int32.reduceSub, not_false_eq_true, not_true_eq_false, Int32.reduceToInt, Int.reduceLE, Int.reduceLT, Int.reduceNeg, ite_self, R_X10_becomes, SHF, PF, h1, h1', h2, h3, zi_m1, Nat.add_sub_cancel, nI_pred, e1, e2, e3, zi_s]
theorem m_becomes0 {p : Nat} (hp : p < 84) (v : Int32) (h : I 81 p = v) : zWM (d + 1) 125 [.ref 80, .int (nI p), .int v] (zSH, I, L, zP f g t) Q = Q (some (.int v)) (zSH, I, L, zP f g t) := by
  simp (disch := first | assumption | rfl | omega | decide | exact zb_01 _) only [zabs_e, zmax_e, zmin_e, zrf_s, zpush_s, zpush_n, zw_app, upd_app, updL_app, Nat.reduceEqDiff, Nat.add_left_cancel_iff, Nat.add_eq_left, Nat.left_eq_add, ↓reduceIte, true_and, and_true, Int32.reduceToNatClampNeg, zin_O, zi_ltO, zi_leO, zi_Olt, zi_Ole, zi_eqO, Nat.not_lt_zero, Nat.zero_le, List.append_nil, zrn_n, zrn_s, List.cons_append, List.nil_append, zlg_lt, zlg_gt, zlg_le, zlg_ge, zlg_eq, Int32.toInt_toInt64, Int64.reduceToInt, zw_zw, zw_sw1, zw_sw2, zw_sw3, zw_sw4, zw_sw5, zw_sw6, zw_sw7, ne_eq, zi_in, zi_cl, zi_le, zi_lt, zi_eq, zi_neg, zi_0le, zb_0, if_true, if_false, eq_self, zb_T, zb_F, Bool.false_eq_true, zO_eq, zO_ne1, zO_ne2, zO_nn, zi_ne1, zi_ne2, zi_lt1, zi_le1, zi_lt2, zi_le2, Int32.reduceLT, Int32.reduceLE, Nat.reduceLT, Nat.reduceLeDiff, Int32.reduceMul, Int32.reduceAdd, Int32.reduceSub, not_false_eq_true, not_true_eq_false, Int32.reduceToInt, Int.reduceLE, Int.reduceLT, Int.reduceNeg, ite_self, E_X10_becomes, R_X10_becomes, SHF, PF, h]
theorem m_becomes1 {p : Nat} (hp : p < 84) (v : Int32) (h : ¬ I 81 p = v) (ha : I 80 5 = nI a) (ha40 : a ≤ 40) : zWM (d + 1) 125 [.ref 80, .int (nI p), .int v] (zSH, I, L, zP f g t) Q = Q (some (.int (I 81 p))) (zSH, zw (zw (zw (zw (zw I 82 (upd (zchs (I 82) a) (zca a) (nI p))) 83 (upd (zchs (I 83) a) (zca a) (I 81 p))) 84 (upd (zchs (I 84) a) (zca a) v)) 80 (upd (upd (I 80) 5 (nI (zca a + 1))) 4 (nI (zca a + 1)))) 81 (upd (I 81) p v), L, zP f g t) := by
  unfold zchs zca
  by_cases h4 : a = 40
  · subst h4
    simp only [↓reduceIte]
    have l := m_bec_l (d := d) (f := f) (g := g) (t := t) (I := I) (L := L) (Q := Q) (nI p) v (I 81 p) 39 0 (by omega)
    rw [zshd_0, zshd_0, zshd_0, zw_id, zw_id, zw_id] at l
    rw [show nI (0 + 1) = 1 from rfl] at l
    have q40 : nI 40 - 1 = nI 39 := rfl
    simp (disch := first | assumption | rfl | omega | decide | exact zb_01 _) only [zabs_e, zmax_e, zmin_e, zrf_s, zpush_s, zpush_n, zw_app, upd_app, updL_app, Nat.reduceEqDiff, Nat.add_left_cancel_iff, Nat.add_eq_left, Nat.left_eq_add, ↓reduceIte, true_and, and_true, Int32.reduceToNatClampNeg, zin_O, zi_ltO, zi_leO, zi_Olt, zi_Ole, zi_eqO, Nat.not_lt_zero, Nat.zero_le, List.append_nil, zrn_n, zrn_s, List.cons_append, List.nil_append, zlg_lt, zlg_gt, zlg_le, zlg_ge, zlg_eq, Int32.toInt_toInt64, Int64.reduceToInt, zw_zw, zw_sw1, zw_sw2, zw_sw3, zw_sw4, zw_sw5, zw_sw6, zw_sw7, ne_eq, zi_in, zi_cl, zi_le, zi_lt, zi_eq, zi_neg, zi_0le, zb_0, if_true, if_false, eq_self, zb_T, zb_F, Bool.false_eq_true, zO_eq, zO_ne1, zO_ne2, zO_nn, zi_ne1, zi_ne2, zi_lt1, zi_le1, zi_lt2, zi_le2, Int32.reduceLT, Int32.reduceLE, Nat.reduceLT, Nat.reduceLeDiff, Int32.reduceMul, Int32.reduceAdd, Int32.reduceSub, not_false_eq_true, not_true_eq_false, Int32.reduceToInt, Int.reduceLE, Int.reduceLT, Int.reduceNeg, ite_self, E_X10_becomes, R_X10_becomes, SHF, PF, h, ha]
    refine l.trans ?_
    simp (disch := first | assumption | rfl | omega | decide | exact zb_01 _) only [zabs_e, zmax_e, zmin_e, zrf_s, zpush_s, zpush_n, zw_app, upd_app, updL_app, Nat.reduceEqDiff, Nat.add_left_cancel_iff, Nat.add_eq_left, Nat.left_eq_add, ↓reduceIte, true_and, and_true, Int32.reduceToNatClampNeg, zin_O, zi_ltO, zi_leO, zi_Olt, zi_Ole, zi_eqO, Nat.not_lt_zero, Nat.zero_le, List.append_nil, zrn_n, zrn_s, List.cons_append, List.nil_append, zlg_lt, zlg_gt, zlg_le, zlg_ge, zlg_eq, Int32.toInt_toInt64, Int64.reduceToInt, zw_zw, zw_sw1, zw_sw2, zw_sw3, zw_sw4, zw_sw5, zw_sw6, zw_sw7, ne_eq, zi_in, zi_cl, zi_le, zi_lt, zi_eq, zi_neg, zi_0le, zb_0, if_true, if_false, eq_self, zb_T, zb_F, Bool.false_eq_true, zO_eq, zO_ne1, zO_ne2, zO_nn, zi_ne1, zi_ne2, zi_lt1, zi_le1, zi_lt2, zi_le2, Int32.reduceLT, Int32.reduceLE, Nat.reduceLT, Nat.reduceLeDiff, Int32.reduceMul, Int32.reduceAdd, Int32.reduceSub, not_false_eq_true, not_true_eq_false, Int32.reduceToInt, Int.reduceLE, Int.reduceLT, Int.reduceNeg, ite_self, R_X10_becomes, SHF, PF, ha, q40, zi_s, upd_upd]
  · have h5 : a < 40 := by omega
    have h6 : ¬ nI a = 40 := fun z => h4 ((zi_eq (a := a) (b := 40) (by omega) (by omega)).mp z)
    simp only [h4, ↓reduceIte]
    simp (disch := first | assumption | rfl | omega | decide | exact zb_01 _) only [zabs_e, zmax_e, zmin_e, zrf_s, zpush_s, zpush_n, zw_app, upd_app, updL_app, Nat.reduceEqDiff, Nat.add_left_cancel_iff, Nat.add_eq_left, Nat.left_eq_add, ↓reduceIte, true_and, and_true, Int32.reduceToNatClampNeg, zin_O, zi_ltO, zi_leO, zi_Olt, zi_Ole, zi_eqO, Nat.not_lt_zero, Nat.zero_le, List.append_nil, zrn_n, zrn_s, List.cons_append, List.nil_append, zlg_lt, zlg_gt, zlg_le, zlg_ge, zlg_eq, Int32.toInt_toInt64, Int64.reduceToInt, zw_zw, zw_sw1, zw_sw2, zw_sw3, zw_sw4, zw_sw5, zw_sw6, zw_sw7, ne_eq, zi_in, zi_cl, zi_le, zi_lt, zi_eq, zi_neg, zi_0le, zb_0, if_true, if_false, eq_self, zb_T, zb_F, Bool.false_eq_true, zO_eq, zO_ne1, zO_ne2, zO_nn, zi_ne1, zi_ne2, zi_lt1, zi_le1, zi_lt2, zi_le2, Int32.reduceLT, Int32.reduceLE, Nat.reduceLT, Nat.reduceLeDiff, Int32.reduceMul, Int32.reduceAdd, Int32.reduceSub, not_false_eq_true, not_true_eq_false, Int32.reduceToInt, Int.reduceLE, Int.reduceLT, Int.reduceNeg, ite_self, E_X10_becomes, R_X10_becomes, SHF, PF, h, ha, h4, h5, h6, zi_s]
theorem zRc_add (hc : zRc I a b k) (hw8 : w < 8) (hm : m < zcm w k) {B A : Int32} (hB : zcr w B) (hA : zcr w A) {J2 : Nat → Nat → Int32} (h1 : J2 54 1 = nI (zca a + 1)) (h2 : J2 54 2 = nI (zca a + 1)) (h3 : J2 80 5 = nI (zca a + 1)) (h4 : J2 80 4 = nI (zca a + 1)) (h55 : J2 55 = zche (I 55) a (nI m) (nI w) B A) (h82 : J2 82 = upd (zchs (I 82) a) (zca a) (nI (zcb w + m))) (h83 : J2 83 = upd (zchs (I 83) a) (zca a) B) (h84 : J2 84 = upd (zchs (I 84) a) (zca a) A) : zRc J2 (zca a + 1) (zca a + 1) k := by
  obtain ⟨c1, c2, c3, c4, c5, c6, c7⟩ := hc
  have h39 : zca a ≤ 39 ∧ (a = 40 → zca a = 39) ∧ (¬ a = 40 → zca a = a) := by unfold zca; split <;> omega
  refine ⟨h1, h2, h3, h4, Nat.le_refl _, by omega, fun j hj => ?_⟩
  rw [h55, h82, h83, h84]
  unfold zche
  by_cases e : j = zca a
  · subst e
    refine ⟨w, m, hw8, hm, ?_, ?_, ?_, ?_, ?_, ?_, ?_⟩
    · rw [zup_lt (by omega), zup_lt (by omega), zup_lt (by omega), zup_at]
    · rw [zup_lt (by omega), zup_lt (by omega), zup_at]
    · rw [zup_at]
    · rw [zup_lt (by omega), zup_at, zup_at]
    · rw [zup_at, zup_at]
    · rw [zup_at]; exact hB
    · rw [zup_at]; exact hA
  · have hj' : j < zca a := by omega
    rw [zup_lt (show 4 * j ≠ 4 * zca a + 3 by omega), zup_lt (show 4 * j ≠ 4 * zca a + 2 by omega), zup_lt (show 4 * j ≠ 4 * zca a + 1 by omega), zup_lt (show 4 * j ≠ 4 * zca a by omega),
      zup_lt (show 4 * j + 1 ≠ 4 * zca a + 3 by omega), zup_lt (show 4 * j + 1 ≠ 4 * zca a + 2 by omega), zup_lt (show 4 * j + 1 ≠ 4 * zca a + 1 by omega), zup_lt (show 4 * j + 1 ≠ 4 * zca a by omega),
      zup_lt (show 4 * j + 2 ≠ 4 * zca a + 3 by omega), zup_lt (show 4 * j + 2 ≠ 4 * zca a + 2 by omega), zup_lt (show 4 * j + 2 ≠ 4 * zca a + 1 by omega), zup_lt (show 4 * j + 2 ≠ 4 * zca a by omega),
      zup_lt (show 4 * j + 3 ≠ 4 * zca a + 3 by omega), zup_lt (show 4 * j + 3 ≠ 4 * zca a + 2 by omega), zup_lt (show 4 * j + 3 ≠ 4 * zca a + 1 by omega), zup_lt (show 4 * j + 3 ≠ 4 * zca a by omega),
      zup_lt e, zup_lt e, zup_lt e]
    by_cases h40 : a = 40
    · have u : ∀ q, q < 156 → va_cpy (I 55) (I 55) 4 0 156 q = I 55 (q + 4) := fun q hq => by
        unfold va_cpy
        rw [if_pos (by omega)]
        congr 1
        omega
      have v1 : ∀ F : Nat → Int32, zshd 39 F j = F (j + 1) := fun F => if_pos (by omega)
      unfold zchb zchs
      simp only [h40, ↓reduceIte]
      rw [u _ (by omega), u _ (by omega), u _ (by omega), u _ (by omega), v1, v1, v1]
      exact c7 (j + 1) (by omega)
    · unfold zchb zchs
      simp only [h40, ↓reduceIte]
      exact c7 j (by omega)
theorem zcm_l (ht : n ≤ 24) (hm : m < zcl w n k) : m < zcm w k := by
  unfold zcl at hm
  unfold zcm
  split <;> rename_i h1
  · rw [if_pos h1] at hm; omega
  · rw [if_neg h1] at hm; exact hm
theorem zcur (hR : zRel9 I L f g law n k a b z bb) (hw8 : w < 8) (hm : m < zcl w n k) : zcr w (I 81 (zcb w + m)) := by
  obtain ⟨hfg, ht, hw, hp, -⟩ := hR
  match w, hw8 with
  | 0, _ =>
    obtain ⟨r1, r2, r3, r4, r5⟩ := ht.2.2.2.2 m hm
    rw [show zcb 0 + m = m from Nat.zero_add m, r2]
    exact r5.2.2.1
  | 1, _ =>
    obtain ⟨r1, r2, r3, r4, r5⟩ := ht.2.2.2.2 m hm
    rw [show zcb 1 + m = 24 + m from rfl, r3]
    exact r5.2.2.2
  | 2, _ =>
    obtain ⟨r1, r2, r3, r4, r5⟩ := ht.2.2.2.2 m hm
    rw [show zcb 2 + m = 48 + m from rfl, r4]
    exact ⟨r5.2.1.1, by have := r5.1; have := r5.2.1; omega⟩
  | 3, _ =>
    have hm : m = 0 := by have h : m < 1 := hm; omega
    subst hm
    rw [show zcb 3 + 0 = 72 from rfl, hw.1.1]
    exact hw.2.1
  | 4, _ =>
    have hm : m = 0 := by have h : m < 1 := hm; omega
    subst hm
    rw [show zcb 4 + 0 = 73 from rfl, hw.1.2.1]
    exact hw.2.2.1
  | 5, _ =>
    have hm : m < k := hm
    rw [show zcb 5 + m = 74 + m from rfl, (hp.2.2.2.2 m (by have := hp.2.2.1; omega)).1]
    exact (hp.2.2.2.2 m (by have := hp.2.2.1; omega)).2
  | 6, _ =>
    have hm : m = 0 := by have h : m < 1 := hm; omega
    subst hm
    rw [show zcb 6 + 0 = 82 from rfl, hw.1.2.2.1]
    exact hw.2.2.2.1
  | 7, _ =>
    have hm : m = 0 := by have h : m < 1 := hm; omega
    subst hm
    rw [show zcb 7 + 0 = 83 from rfl, hw.1.2.2.2]
    exact hw.2.2.2.2
  | q + 8, h => exact absurd h (by omega)
theorem zcb_lt (hR : zRel9 I L f g law n k a b z bb) (hw8 : w < 8) (hm : m < zcl w n k) : zcb w + m < 84 := by
  have h1 := hR.2.1.2.2.1
  have h2 := hR.2.2.2.1.2.2.1
  match w, hw8 with
  | 0, _ => have h : m < n := hm; show 0 + m < 84; omega
  | 1, _ => have h : m < n := hm; show 24 + m < 84; omega
  | 2, _ => have h : m < n := hm; show 48 + m < 84; omega
  | 3, _ => have h : m < 1 := hm; show 72 + m < 84; omega
  | 4, _ => have h : m < 1 := hm; show 73 + m < 84; omega
  | 5, _ => have h : m < k := hm; show 74 + m < 84; omega
  | 6, _ => have h : m < 1 := hm; show 82 + m < 84; omega
  | 7, _ => have h : m < 1 := hm; show 83 + m < 84; omega
  | q + 8, h => exact absurd h (by omega)
theorem zMend (hR : zRel9 I L f g law n k a b z bb) (hw8 : w < 8) (hm : m < zcl w n k) {v : Int32} (hv : zcr w v) (hlv : zlv I w m v = v) (hne : ¬ I 81 (zcb w + m) = v) : ∃ J I1 I2, (∀ d Q, zWM (d + 5) 87 [.ref 0, .int (nI m), .int (nI w), .int v] (zSH, I, L, zP f g t) Q = Q none (zSH, J, L, zP f g t)) ∧ (∀ d Q, zWM (d + 1) 7 [.ref 54, .int (nI m), .int (nI w), .int (I 81 (zcb w + m)), .int v] (zSH, J, L, zP f g t) Q = Q none (zSH, I1, L, zP f g t)) ∧ (∀ d Q, zWM (d + 1) 125 [.ref 80, .int (nI (zcb w + m)), .int v] (zSH, I1, L, zP f g t) Q = Q (some (.int (I 81 (zcb w + m)))) (zSH, I2, L, zP f g t)) ∧ (∀ a, 80 ≤ a → I1 a = I a) ∧ zRel I2 L f g := by
  obtain ⟨J, run, hJ, rest⟩ := zLay (t := t) hR hw8 hm hv
  have hp84 := zcb_lt hR hw8 hm
  have hcur := zcur hR hw8 hm
  obtain ⟨hfg, ht, hw, hp, hs, hi, hc, hy, hl, hb, hr, hh, hf⟩ := id hR
  obtain ⟨c1, c2, c3, c4, c5, c6, c7⟩ := id hc
  have jo : ∀ a, 33 < a → J a = I a := fun a h => hJ a (by unfold zlS; omega)
  have q1 := fun d Q => c_chg (d := d) (f := f) (g := g) (t := t) (I := J) (L := L) (Q := Q) (a := a) (by rw [jo 54 (by omega)]; exact c1) (by omega) (nI m) (nI w) (I 81 (zcb w + m)) v
  have q2 := fun d Q => m_becomes1 (d := d) (f := f) (g := g) (t := t) (I := zw (zw J 55 (zche (J 55) a (nI m) (nI w) (I 81 (zcb w + m)) v)) 54 (upd (upd (J 54) 1 (nI (zca a + 1))) 2 (nI (zca a + 1)))) (L := L) (Q := Q) (a := a) hp84 v (by rw [zw_n (by decide), zw_n (by decide), jo 81 (by omega)]; exact hne) (by rw [zw_n (by decide), zw_n (by decide), jo 80 (by omega)]; exact c3) (by omega)
  have o1 : ∀ a, 80 ≤ a → zw (zw J 55 (zche (J 55) a (nI m) (nI w) (I 81 (zcb w + m)) v)) 54 (upd (upd (J 54) 1 (nI (zca a + 1))) 2 (nI (zca a + 1))) a = I a := fun a h => by
    rw [zw_n (by omega), zw_n (by omega)]
    exact jo a (by omega)
  have o2 : ∀ q, 80 ≤ q → zw (zw J 55 (zche (J 55) a (nI m) (nI w) (I 81 (zcb w + m)) v)) 54 (upd (upd (J 54) 1 (nI (zca a + 1))) 2 (nI (zca a + 1))) q = I q := fun q h => by
    rw [zw_n (by omega), zw_n (by omega)]
    exact jo q (by omega)
  rw [o2 80 (by omega), o2 81 (by omega), o2 82 (by omega), o2 83 (by omega), o2 84 (by omega)] at q2
  refine ⟨J, _, _, run, q1, q2, o2, ?_⟩
  generalize hG : zw (zw (zw (zw (zw (zw (zw J 55 (zche (J 55) a (nI m) (nI w) (I 81 (zcb w + m)) v)) 54 (upd (upd (J 54) 1 (nI (zca a + 1))) 2 (nI (zca a + 1)))) 82 (upd (zchs (I 82) a) (zca a) (nI (zcb w + m)))) 83 (upd (zchs (I 83) a) (zca a) (I 81 (zcb w + m)))) 84 (upd (zchs (I 84) a) (zca a) v)) 80 (upd (upd (I 80) 5 (nI (zca a + 1))) 4 (nI (zca a + 1)))) 81 (upd (I 81) (zcb w + m) v) = J2
  have g1 : ∀ a, a ≠ 54 → a ≠ 55 → (a < 80 ∨ 84 < a) → J2 a = J a := fun a h1 h2 h3 => by
    rw [← hG, zw_n (by omega), zw_n (by omega), zw_n (by omega), zw_n (by omega), zw_n (by omega), zw_n h1, zw_n h2]
  have g81 : J2 81 = upd (I 81) (zcb w + m) v := by rw [← hG]; rfl
  have g80 : J2 80 = upd (upd (I 80) 5 (nI (zca a + 1))) 4 (nI (zca a + 1)) := by rw [← hG]; rfl
  have g82 : J2 82 = upd (zchs (I 82) a) (zca a) (nI (zcb w + m)) := by rw [← hG]; rfl
  have g83 : J2 83 = upd (zchs (I 83) a) (zca a) (I 81 (zcb w + m)) := by rw [← hG]; rfl
  have g84 : J2 84 = upd (zchs (I 84) a) (zca a) v := by rw [← hG]; rfl
  have g54 : J2 54 = upd (upd (J 54) 1 (nI (zca a + 1))) 2 (nI (zca a + 1)) := by rw [← hG]; rfl
  have g55 : J2 55 = zche (I 55) a (nI m) (nI w) (I 81 (zcb w + m)) v := by rw [← jo 55 (by omega), ← hG]; rfl
  obtain ⟨x1, x2, x3, x4, x5, x6, x7, x8, x9, x10, x11⟩ := rest J2 g1 (by rw [hlv]; exact g81) (fun q h1 h2 => by rw [g80, zup_lt h1, zup_lt h2])
  exact ⟨law, n, k, zca a + 1, zca a + 1, z, bb, hfg, x1, x2, x3, x4, x5, zRc_add hc hw8 (zcm_l ht.2.2.1 hm) hcur hv (by rw [g54]; rfl) (by rw [g54]; rfl) (by rw [g80]; rfl) (by rw [g80]; rfl) g55 g82 g83 g84, x6, x7, x8, x9, x10, x11⟩
end MEND
