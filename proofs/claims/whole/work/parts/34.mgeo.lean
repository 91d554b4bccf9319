/-! the reference's balance -/
/-- products of small numbers from 0 on -/
theorem zt_mulP {a b : Int32} (x y : Int) (h1 : 0 ≤ a.toInt) (h2 : a.toInt ≤ x) (h3 : 0 ≤ b.toInt) (h4 : b.toInt ≤ y) (h5 : x * y ≤ 2147483647) : (a * b).toInt = a.toInt * b.toInt ∧ 0 ≤ (a * b).toInt ∧ (a * b).toInt ≤ x * y := by
  have e1 : 0 ≤ a.toInt * b.toInt := Int.mul_nonneg h1 h3
  have e2 : a.toInt * b.toInt ≤ x * y := Int.mul_le_mul h2 h4 h3 (by omega)
  have e3 := zt_mul (a := a) (b := b) (by omega) (by omega)
  exact ⟨e3, by omega, by omega⟩
theorem sumI_bd {p : Nat → Int32} {n : Nat} (h : ∀ j, j < n → 0 ≤ (p j).toInt ∧ (p j).toInt ≤ 9) (hn : n ≤ 1000) : ∀ m, m ≤ n → 0 ≤ (sumI p m).toInt ∧ (sumI p m).toInt ≤ 9 * m
  | 0, _ => by unfold sumI; decide
  | m + 1, hm => by
    have e := sumI_bd h hn m (by omega)
    have e2 := h m (by omega)
    unfold sumI
    rw [zt_add (by omega) (by omega)]
    omega
theorem sumI_mono {p : Nat → Int32} {n : Nat} (h : ∀ j, j < n → 0 ≤ (p j).toInt ∧ (p j).toInt ≤ 9) (hn : n ≤ 1000) (k : Nat) : ∀ m, k + m ≤ n → (sumI p k).toInt ≤ (sumI p (k + m)).toInt
  | 0, _ => Int.le_refl _
  | m + 1, hm => by
    have e := sumI_mono h hn k m (by omega)
    have e2 := h (k + m) (by omega)
    have e3 := sumI_bd h hn (k + m) (by omega)
    rw [show k + (m + 1) = k + m + 1 by omega, sumI, zt_add (by omega) (by omega)]
    omega
theorem zab_bd {p : Nat → Int32} {n k : Nat} (h : ∀ j, j < n → 0 ≤ (p j).toInt ∧ (p j).toInt ≤ 9) (hn : n ≤ 24) (hk : k < n) : 0 ≤ (3 * p k * zab n p k).toInt := by
  have e1 := sumI_bd h (by omega) n (Nat.le_refl _)
  have e2 := sumI_bd h (by omega) (k + 1) (by omega)
  have e3 := sumI_mono h (by omega) (k + 1) (n - (k + 1)) (by omega)
  rw [show k + 1 + (n - (k + 1)) = n by omega] at e3
  have e4 := h k hk
  have e5 : (zab n p k).toInt = (sumI p n).toInt - (sumI p (k + 1)).toInt := zt_sub (by omega) (by omega)
  have t3 : (3 : Int32).toInt = 3 := rfl
  have e6 := zt_mulP (a := 3) (b := p k) 3 9 (by decide) (by decide) e4.1 e4.2 (by decide)
  exact (zt_mulP (a := 3 * p k) (b := zab n p k) 27 216 e6.2.1 e6.2.2 (by omega) (by omega) (by decide)).2.1
theorem zsg0 {α : Type} {x : Int32} (h : x ≠ 0) (a b : α) : (if x ≤ 0 then a else b) = if 0 ≤ x then b else a := by
  have h2 : x.toInt ≠ 0 := fun z => h (Int32.toInt_inj.mp z)
  by_cases h1 : x ≤ 0
  · have h3 : ¬ 0 ≤ x := by first | omega | (simp only [Int32.lt_iff_toInt_lt, Int32.le_iff_toInt_le, ← Int32.toInt_inj, Int32.reduceToInt] at *; omega)
    rw [if_pos h1, if_neg h3]
  · have h3 : 0 ≤ x := by first | omega | (simp only [Int32.lt_iff_toInt_lt, Int32.le_iff_toInt_le, ← Int32.toInt_inj, Int32.reduceToInt] at *; omega)
    rw [if_neg h1, if_pos h3]
theorem zwh0 {x y s : Int32} (hb : 0 ≤ s.toInt) (hf : ¬ (zabs x ≤ s ∧ zabs y ≤ s)) (F : Int32 → Prop) : (if zabs y ≤ zabs x then if x ≤ 0 then F 2 else F 0 else if y ≤ 0 then F 3 else F 1) = F (if zabs x < zabs y then (if 0 ≤ y then 1 else 3) else (if 0 ≤ x then 0 else 2)) := by
  have hz : zabs (0 : Int32) = 0 := by decide
  by_cases h : zabs y ≤ zabs x
  · have h0 : x ≠ 0 := fun z => by
      rw [z, hz] at h hf
      exact hf (by first | omega | (simp only [Int32.lt_iff_toInt_lt, Int32.le_iff_toInt_le, ← Int32.toInt_inj, Int32.reduceToInt] at *; omega))
    rw [if_pos h, if_neg (Int32.not_lt.mpr h), zsg0 h0]
    split <;> rfl
  · have h0 : y ≠ 0 := fun z => by
      rw [z, hz] at h hf
      exact hf (by first | omega | (simp only [Int32.lt_iff_toInt_lt, Int32.le_iff_toInt_le, ← Int32.toInt_inj, Int32.reduceToInt] at *; omega))
    rw [if_neg h, if_pos (Int32.not_le.mp h), zsg0 h0]
    split <;> rfl
section MGEO
variable {d n k f g : Nat} {t : Option Nat} {I : Nat → Nat → Int32} {L : Nat → Nat → Int64} {Q : Option Value → zMm → Prop}
theorem zi_a24 (j : Nat) : 24 + nI j = nI (24 + j) := nI_add 24 j
theorem zi_a48 (j : Nat) : 48 + nI j = nI (48 + j) := nI_add 48 j
theorem zi_a74 (j : Nat) : 74 + nI j = nI (74 + j) := nI_add 74 j
/-- the reference's SLIPS: y, and DAMP -/
def mSy (I : Nat → Nat → Int32) : Nat → Int32 := fun j => I 81 (24 + j)
def mDm (I : Nat → Nat → Int32) : Nat → Int32 := fun j => I 81 (48 + j)
theorem m_mid0_l (hk : k < 24) : ∀ c j, c + j = k + 1 → zWp d zi_140 none 5 [.ref 80, .int (nI k), .int 0, .int (sumI (I 81) j), .int (nI j)] [] (zSH, I, L, zP f g t) Q = Q (some (.int (sumI (I 81) (k + 1)))) (zSH, I, L, zP f g t) := by
  intro c
  induction c with
  | zero =>
    intro j hj
    have hj : j = k + 1 := by omega
    subst hj
    rw [H_X10_middleOf_5]
    simp (disch := first | assumption | rfl | omega | decide | exact zb_01 _) only [zabs_e, zmax_e, zmin_e, zrf_s, zpush_s, zpush_n, zw_app, upd_app, updL_app, Nat.reduceEqDiff, Nat.add_left_cancel_iff, Nat.add_eq_left, Nat.left_eq_add, ↓reduceIte, true_and, and_true, Int32.reduceToNatClampNeg, zin_O, zi_ltO, zi_leO, zi_Olt, zi_Ole, zi_eqO, Nat.not_lt_zero, Nat.zero_le, List.append_nil, zrn_n, zrn_s, List.cons_append, List.nil_append, zlg_lt, zlg_gt, zlg_le, zlg_ge, zlg_eq, Int32.toInt_toInt64, Int64.reduceToInt, zw_zw, zw_sw1, zw_sw2, zw_sw3, zw_sw4, zw_sw5, zw_sw6, zw_sw7, ne_eq, zi_in, zi_cl, zi_le, zi_lt, zi_eq, zi_neg, zi_0le, zb_0, if_true, if_false, eq_self, zb_T, zb_F, Bool.false_eq_true, zO_eq, zO_ne1, zO_ne2, zO_nn, zi_ne1, zi_ne2, zi_lt1, zi_le1, zi_lt2, zi_le2, Int32.reduceLT, Int32.reduceLE, Nat.reduceLT, Nat.reduceLeDiff, Int32.reduceMul, Int32.reduceAdd, Int32.reduceSub, not_false_eq_true, not_true_eq_false, R_X10_middleOf, PF, SHF, Nat.lt_succ_self]
  | succ c ih =>
    intro j hj
    have h1 : ¬ k < j := by omega
    rw [H_X10_middleOf_5]
    simp (disch := first | assumption | rfl | omega | decide | exact zb_01 _) only [zabs_e, zmax_e, zmin_e, zrf_s, zpush_s, zpush_n, zw_app, upd_app, updL_app, Nat.reduceEqDiff, Nat.add_left_cancel_iff, Nat.add_eq_left, Nat.left_eq_add, ↓reduceIte, true_and, and_true, Int32.reduceToNatClampNeg, zin_O, zi_ltO, zi_leO, zi_Olt, zi_Ole, zi_eqO, Nat.not_lt_zero, Nat.zero_le, List.append_nil, zrn_n, zrn_s, List.cons_append, List.nil_append, zlg_lt, zlg_gt, zlg_le, zlg_ge, zlg_eq, Int32.toInt_toInt64, Int64.reduceToInt, zw_zw, zw_sw1, zw_sw2, zw_sw3, zw_sw4, zw_sw5, zw_sw6, zw_sw7, ne_eq, zi_in, zi_cl, zi_le, zi_lt, zi_eq, zi_neg, zi_0le, zb_0, if_true, if_false, eq_self, zb_T, zb_F, Bool.false_eq_true, zO_eq, zO_ne1, zO_ne2, zO_nn, zi_ne1, zi_ne2, zi_lt1, zi_le1, zi_lt2, zi_le2, Int32.reduceLT, Int32.reduceLE, Nat.reduceLT, Nat.reduceLeDiff, Int32.reduceMul, Int32.reduceAdd, Int32.reduceSub, not_false_eq_true, not_true_eq_false, R_X10_middleOf, PF, SHF, h1, zi_s, Int32.reduceMul, Int32.zero_add]
    exact ih (j + 1) (by omega)
theorem m_mid0 (hk : k < 24) : zWM (d + 1) 140 [.ref 80, .int (nI k), .int 0] (zSH, I, L, zP f g t) Q = Q (some (.int (sumI (I 81) (k + 1)))) (zSH, I, L, zP f g t) := by
  simp (disch := first | assumption | rfl | omega | decide | exact zb_01 _) only [zabs_e, zmax_e, zmin_e, zrf_s, zpush_s, zpush_n, zw_app, upd_app, updL_app, Nat.reduceEqDiff, Nat.add_left_cancel_iff, Nat.add_eq_left, Nat.left_eq_add, ↓reduceIte, true_and, and_true, Int32.reduceToNatClampNeg, zin_O, zi_ltO, zi_leO, zi_Olt, zi_Ole, zi_eqO, Nat.not_lt_zero, Nat.zero_le, List.append_nil, zrn_n, zrn_s, List.cons_append, List.nil_append, zlg_lt, zlg_gt, zlg_le, zlg_ge, zlg_eq, Int32.toInt_toInt64, Int64.reduceToInt, zw_zw, zw_sw1, zw_sw2, zw_sw3, zw_sw4, zw_sw5, zw_sw6, zw_sw7, ne_eq, zi_in, zi_cl, zi_le, zi_lt, zi_eq, zi_neg, zi_0le, zb_0, if_true, if_false, eq_self, zb_T, zb_F, Bool.false_eq_true, zO_eq, zO_ne1, zO_ne2, zO_nn, zi_ne1, zi_ne2, zi_lt1, zi_le1, zi_lt2, zi_le2, Int32.reduceLT, Int32.reduceLE, Nat.reduceLT, Nat.reduceLeDiff, Int32.reduceMul, Int32.reduceAdd, Int32.reduceSub, not_false_eq_true, not_true_eq_false, E_X10_middleOf, R_X10_middleOf]
  exact m_mid0_l hk (k + 1) 0 (by omega)
theorem m_mid1_l (hk : k < 24) : ∀ c j, c + j = k + 1 → zWp d zi_140 none 5 [.ref 80, .int (nI k), .int 1, .int (sumI (mSy I) j), .int (nI j)] [] (zSH, I, L, zP f g t) Q = Q (some (.int (sumI (mSy I) (k + 1)))) (zSH, I, L, zP f g t) := by
  intro c
  induction c with
  | zero =>
    intro j hj
    have hj : j = k + 1 := by omega
    subst hj
    rw [H_X10_middleOf_5]
    simp (disch := first | assumption | rfl | omega | decide | exact zb_01 _) only [zabs_e, zmax_e, zmin_e, zrf_s, zpush_s, zpush_n, zw_app, upd_app, updL_app, Nat.reduceEqDiff, Nat.add_left_cancel_iff, Nat.add_eq_left, Nat.left_eq_add, ↓reduceIte, true_and, and_true, Int32.reduceToNatClampNeg, zin_O, zi_ltO, zi_leO, zi_Olt, zi_Ole, zi_eqO, Nat.not_lt_zero, Nat.zero_le, List.append_nil, zrn_n, zrn_s, List.cons_append, List.nil_append, zlg_lt, zlg_gt, zlg_le, zlg_ge, zlg_eq, Int32.toInt_toInt64, Int64.reduceToInt, zw_zw, zw_sw1, zw_sw2, zw_sw3, zw_sw4, zw_sw5, zw_sw6, zw_sw7, ne_eq, zi_in, zi_cl, zi_le, zi_lt, zi_eq, zi_neg, zi_0le, zb_0, if_true, if_false, eq_self, zb_T, zb_F, Bool.false_eq_true, zO_eq, zO_ne1, zO_ne2, zO_nn, zi_ne1, zi_ne2, zi_lt1, zi_le1, zi_lt2, zi_le2, Int32.reduceLT, Int32.reduceLE, Nat.reduceLT, Nat.reduceLeDiff, Int32.reduceMul, Int32.reduceAdd, Int32.reduceSub, not_false_eq_true, not_true_eq_false, R_X10_middleOf, PF, SHF, Nat.lt_succ_self]
  | succ c ih =>
    intro j hj
    have h1 : ¬ k < j := by omega
    rw [H_X10_middleOf_5]
    simp (disch := first | assumption | rfl | omega | decide | exact zb_01 _) only [zabs_e, zmax_e, zmin_e, zrf_s, zpush_s, zpush_n, zw_app, upd_app, updL_app, Nat.reduceEqDiff, Nat.add_left_cancel_iff, Nat.add_eq_left, Nat.left_eq_add, ↓reduceIte, true_and, and_true, Int32.reduceToNatClampNeg, zin_O, zi_ltO, zi_leO, zi_Olt, zi_Ole, zi_eqO, Nat.not_lt_zero, Nat.zero_le, List.append_nil, zrn_n, zrn_s, List.cons_append, List.nil_append, zlg_lt, zlg_gt, zlg_le, zlg_ge, zlg_eq, Int32.toInt_toInt64, Int64.reduceToInt, zw_zw, zw_sw1, zw_sw2, zw_sw3, zw_sw4, zw_sw5, zw_sw6, zw_sw7, ne_eq, zi_in, zi_cl, zi_le, zi_lt, zi_eq, zi_neg, zi_0le, zb_0, if_true, if_false, eq_self, zb_T, zb_F, Bool.false_eq_true, zO_eq, zO_ne1, zO_ne2, zO_nn, zi_ne1, zi_ne2, zi_lt1, zi_le1, zi_lt2, zi_le2, Int32.reduceLT, Int32.reduceLE, Nat.reduceLT, Nat.reduceLeDiff, Int32.reduceMul, Int32.reduceAdd, Int32.reduceSub, not_false_eq_true, not_true_eq_false, R_X10_middleOf, PF, SHF, h1, zi_s, Int32.reduceMul, zi_a24]
    exact ih (j + 1) (by omega)
theorem m_mid1 (hk : k < 24) : zWM (d + 1) 140 [.ref 80, .int (nI k), .int 1] (zSH, I, L, zP f g t) Q = Q (some (.int (sumI (mSy I) (k + 1)))) (zSH, I, L, zP f g t) := by
  simp (disch := first | assumption | rfl | omega | decide | exact zb_01 _) only [zabs_e, zmax_e, zmin_e, zrf_s, zpush_s, zpush_n, zw_app, upd_app, updL_app, Nat.reduceEqDiff, Nat.add_left_cancel_iff, Nat.add_eq_left, Nat.left_eq_add, ↓reduceIte, true_and, and_true, Int32.reduceToNatClampNeg, zin_O, zi_ltO, zi_leO, zi_Olt, zi_Ole, zi_eqO, Nat.not_lt_zero, Nat.zero_le, List.append_nil, zrn_n, zrn_s, List.cons_append, List.nil_append, zlg_lt, zlg_gt, zlg_le, zlg_ge, zlg_eq, Int32.toInt_toInt64, Int64.reduceToInt, zw_zw, zw_sw1, zw_sw2, zw_sw3, zw_sw4, zw_sw5, zw_sw6, zw_sw7, ne_eq, zi_in, zi_cl, zi_le, zi_lt, zi_eq, zi_neg, zi_0le, zb_0, if_true, if_false, eq_self, zb_T, zb_F, Bool.false_eq_true, zO_eq, zO_ne1, zO_ne2, zO_nn, zi_ne1, zi_ne2, zi_lt1, zi_le1, zi_lt2, zi_le2, Int32.reduceLT, Int32.reduceLE, Nat.reduceLT, Nat.reduceLeDiff, Int32.reduceMul, Int32.reduceAdd, Int32.reduceSub, not_false_eq_true, not_true_eq_false, E_X10_middleOf, R_X10_middleOf]
  exact m_mid1_l hk (k + 1) 0 (by omega)
theorem m_push0_l (hn : I 80 6 = nI n) (h24 : n ≤ 24) (hk : k < n) (w o : Int32) (ho : o = sumI (I 81) (k + 1)) : ∀ c j, c + j = n → zWp (d + 1) zi_159 none 32 [.ref 80, .int (nI k), .int 0, .int (w + (sumI (psF (I 91) (I 81) k) j - sumI (psF (I 91) (I 81) k) (k + 1))), .int o, .int (nI j)] [] (zSH, I, L, zP f g t) Q = Q (some (.int (w + (sumI (psF (I 91) (I 81) k) n - sumI (psF (I 91) (I 81) k) (k + 1))))) (zSH, I, L, zP f g t) := by
  intro c
  induction c with
  | zero =>
    intro j hj
    have hj : j = n := by omega
    subst hj
    rw [H_X10_pushOn_32]
    simp (disch := first | assumption | rfl | omega | decide | exact zb_01 _) only [zabs_e, zmax_e, zmin_e, zrf_s, zpush_s, zpush_n, zw_app, upd_app, updL_app, Nat.reduceEqDiff, Nat.add_left_cancel_iff, Nat.add_eq_left, Nat.left_eq_add, ↓reduceIte, true_and, and_true, Int32.reduceToNatClampNeg, zin_O, zi_ltO, zi_leO, zi_Olt, zi_Ole, zi_eqO, Nat.not_lt_zero, Nat.zero_le, List.append_nil, zrn_n, zrn_s, List.cons_append, List.nil_append, zlg_lt, zlg_gt, zlg_le, zlg_ge, zlg_eq, Int32.toInt_toInt64, Int64.reduceToInt, zw_zw, zw_sw1, zw_sw2, zw_sw3, zw_sw4, zw_sw5, zw_sw6, zw_sw7, ne_eq, zi_in, zi_cl, zi_le, zi_lt, zi_eq, zi_neg, zi_0le, zb_0, if_true, if_false, eq_self, zb_T, zb_F, Bool.false_eq_true, zO_eq, zO_ne1, zO_ne2, zO_nn, zi_ne1, zi_ne2, zi_lt1, zi_le1, zi_lt2, zi_le2, Int32.reduceLT, Int32.reduceLE, Nat.reduceLT, Nat.reduceLeDiff, Int32.reduceMul, Int32.reduceAdd, Int32.reduceSub, not_false_eq_true, not_true_eq_false, R_X10_pushOn, PF, SHF, Nat.le_refl, hn]
  | succ c ih =>
    intro j hj
    have h1 : ¬ n ≤ j := by omega
    rw [H_X10_pushOn_32]
    simp (disch := first | assumption | rfl | omega | decide | exact zb_01 _) only [zabs_e, zmax_e, zmin_e, zrf_s, zpush_s, zpush_n, zw_app, upd_app, updL_app, Nat.reduceEqDiff, Nat.add_left_cancel_iff, Nat.add_eq_left, Nat.left_eq_add, ↓reduceIte, true_and, and_true, Int32.reduceToNatClampNeg, zin_O, zi_ltO, zi_leO, zi_Olt, zi_Ole, zi_eqO, Nat.not_lt_zero, Nat.zero_le, List.append_nil, zrn_n, zrn_s, List.cons_append, List.nil_append, zlg_lt, zlg_gt, zlg_le, zlg_ge, zlg_eq, Int32.toInt_toInt64, Int64.reduceToInt, zw_zw, zw_sw1, zw_sw2, zw_sw3, zw_sw4, zw_sw5, zw_sw6, zw_sw7, ne_eq, zi_in, zi_cl, zi_le, zi_lt, zi_eq, zi_neg, zi_0le, zb_0, if_true, if_false, eq_self, zb_T, zb_F, Bool.false_eq_true, zO_eq, zO_ne1, zO_ne2, zO_nn, zi_ne1, zi_ne2, zi_lt1, zi_le1, zi_lt2, zi_le2, Int32.reduceLT, Int32.reduceLE, Nat.reduceLT, Nat.reduceLeDiff, Int32.reduceMul, Int32.reduceAdd, Int32.reduceSub, not_false_eq_true, not_true_eq_false, R_X10_pushOn, PF, SHF, h1, zi_s, hn, m_mid0]
    rw [← ih (j + 1) (by omega), zring1, ho]
    rfl
theorem m_push0 (hn : I 80 6 = nI n) (h24 : n ≤ 24) (hk : k < n) : zWM (d + 2) 159 [.ref 80, .int (nI k), .int 0] (zSH, I, L, zP f g t) Q = Q (some (.int (psh n (I 91) (I 81) (I 81 72) k))) (zSH, I, L, zP f g t) := by
  simp (disch := first | assumption | rfl | omega | decide | exact zb_01 _) only [zabs_e, zmax_e, zmin_e, zrf_s, zpush_s, zpush_n, zw_app, upd_app, updL_app, Nat.reduceEqDiff, Nat.add_left_cancel_iff, Nat.add_eq_left, Nat.left_eq_add, ↓reduceIte, true_and, and_true, Int32.reduceToNatClampNeg, zin_O, zi_ltO, zi_leO, zi_Olt, zi_Ole, zi_eqO, Nat.not_lt_zero, Nat.zero_le, List.append_nil, zrn_n, zrn_s, List.cons_append, List.nil_append, zlg_lt, zlg_gt, zlg_le, zlg_ge, zlg_eq, Int32.toInt_toInt64, Int64.reduceToInt, zw_zw, zw_sw1, zw_sw2, zw_sw3, zw_sw4, zw_sw5, zw_sw6, zw_sw7, ne_eq, zi_in, zi_cl, zi_le, zi_lt, zi_eq, zi_neg, zi_0le, zb_0, if_true, if_false, eq_self, zb_T, zb_F, Bool.false_eq_true, zO_eq, zO_ne1, zO_ne2, zO_nn, zi_ne1, zi_ne2, zi_lt1, zi_le1, zi_lt2, zi_le2, Int32.reduceLT, Int32.reduceLE, Nat.reduceLT, Nat.reduceLeDiff, Int32.reduceMul, Int32.reduceAdd, Int32.reduceSub, not_false_eq_true, not_true_eq_false, E_X10_pushOn, R_X10_pushOn, PF, SHF, hn, m_mid0, zi_s, Int32.reduceAdd]
  have e := m_push0_l (d := d) (f := f) (g := g) (t := t) (L := L) (Q := Q) hn h24 hk (I 81 72 * (nI n - 1 - nI k)) _ rfl (n - (k + 1)) (k + 1) (by omega)
  rw [show ∀ (a b : Int32), a + (b - b) = a by intro a b; grind] at e
  exact e
theorem m_push1_l (hn : I 80 6 = nI n) (h24 : n ≤ 24) (hk : k < n) (w o : Int32) (ho : o = sumI (mSy I) (k + 1)) : ∀ c j, c + j = n → zWp (d + 1) zi_159 none 32 [.ref 80, .int (nI k), .int 1, .int (w + (sumI (psF (I 91) (mSy I) k) j - sumI (psF (I 91) (mSy I) k) (k + 1))), .int o, .int (nI j)] [] (zSH, I, L, zP f g t) Q = Q (some (.int (w + (sumI (psF (I 91) (mSy I) k) n - sumI (psF (I 91) (mSy I) k) (k + 1))))) (zSH, I, L, zP f g t) := by
  intro c
  induction c with
  | zero =>
    intro j hj
    have hj : j = n := by omega
    subst hj
    rw [H_X10_pushOn_32]
    simp (disch := first | assumption | rfl | omega | decide | exact zb_01 _) only [zabs_e, zmax_e, zmin_e, zrf_s, zpush_s, zpush_n, zw_app, upd_app, updL_app, Nat.reduceEqDiff, Nat.add_left_cancel_iff, Nat.add_eq_left, Nat.left_eq_add, ↓reduceIte, true_and, and_true, Int32.reduceToNatClampNeg, zin_O, zi_ltO, zi_leO, zi_Olt, zi_Ole, zi_eqO, Nat.not_lt_zero, Nat.zero_le, List.append_nil, zrn_n, zrn_s, List.cons_append, List.nil_append, zlg_lt, zlg_gt, zlg_le, zlg_ge, zlg_eq, Int32.toInt_toInt64, Int64.reduceToInt, zw_zw, zw_sw1, zw_sw2, zw_sw3, zw_sw4, zw_sw5, zw_sw6, zw_sw7, ne_eq, zi_in, zi_cl, zi_le, zi_lt, zi_eq, zi_neg, zi_0le, zb_0, if_true, if_false, eq_self, zb_T, zb_F, Bool.false_eq_true, zO_eq, zO_ne1, zO_ne2, zO_nn, zi_ne1, zi_ne2, zi_lt1, zi_le1, zi_lt2, zi_le2, Int32.reduceLT, Int32.reduceLE, Nat.reduceLT, Nat.reduceLeDiff, Int32.reduceMul, Int32.reduceAdd, Int32.reduceSub, not_false_eq_true, not_true_eq_false, R_X10_pushOn, PF, SHF, Nat.le_refl, hn]
  | succ c ih =>
    intro j hj
    have h1 : ¬ n ≤ j := by omega
    rw [H_X10_pushOn_32]
    simp (disch := first | assumption | rfl | omega | decide | exact zb_01 _) only [zabs_e, zmax_e, zmin_e, zrf_s, zpush_s, zpush_n, zw_app, upd_app, updL_app, Nat.reduceEqDiff, Nat.add_left_cancel_iff, Nat.add_eq_left, Nat.left_eq_add, ↓reduceIte, true_and, and_true, Int32.reduceToNatClampNeg, zin_O, zi_ltO, zi_leO, zi_Olt, zi_Ole, zi_eqO, Nat.not_lt_zero, Nat.zero_le, List.append_nil, zrn_n, zrn_s, List.cons_append, List.nil_append, zlg_lt, zlg_gt, zlg_le, zlg_ge, zlg_eq, Int32.toInt_toInt64, Int64.reduceToInt, zw_zw, zw_sw1, zw_sw2, zw_sw3, zw_sw4, zw_sw5, zw_sw6, zw_sw7, ne_eq, zi_in, zi_cl, zi_le, zi_lt, zi_eq, zi_neg, zi_0le, zb_0, if_true, if_false, eq_self, zb_T, zb_F, Bool.false_eq_true, zO_eq, zO_ne1, zO_ne2, zO_nn, zi_ne1, zi_ne2, zi_lt1, zi_le1, zi_lt2, zi_le2, Int32.reduceLT, Int32.reduceLE, Nat.reduceLT, Nat.reduceLeDiff, Int32.reduceMul, Int32.reduceAdd, Int32.reduceSub, not_false_eq_true, not_true_eq_false, R_X10_pushOn, PF, SHF, h1, zi_s, hn, m_mid1]
    rw [← ih (j + 1) (by omega), zring1, ho]
    rfl
theorem m_push1 (hn : I 80 6 = nI n) (h24 : n ≤ 24) (hk : k < n) : zWM (d + 2) 159 [.ref 80, .int (nI k), .int 1] (zSH, I, L, zP f g t) Q = Q (some (.int (psh n (I 91) (mSy I) (I 81 73) k))) (zSH, I, L, zP f g t) := by
  simp (disch := first | assumption | rfl | omega | decide | exact zb_01 _) only [zabs_e, zmax_e, zmin_e, zrf_s, zpush_s, zpush_n, zw_app, upd_app, updL_app, Nat.reduceEqDiff, Nat.add_left_cancel_iff, Nat.add_eq_left, Nat.left_eq_add, ↓reduceIte, true_and, and_true, Int32.reduceToNatClampNeg, zin_O, zi_ltO, zi_leO, zi_Olt, zi_Ole, zi_eqO, Nat.not_lt_zero, Nat.zero_le, List.append_nil, zrn_n, zrn_s, List.cons_append, List.nil_append, zlg_lt, zlg_gt, zlg_le, zlg_ge, zlg_eq, Int32.toInt_toInt64, Int64.reduceToInt, zw_zw, zw_sw1, zw_sw2, zw_sw3, zw_sw4, zw_sw5, zw_sw6, zw_sw7, ne_eq, zi_in, zi_cl, zi_le, zi_lt, zi_eq, zi_neg, zi_0le, zb_0, if_true, if_false, eq_self, zb_T, zb_F, Bool.false_eq_true, zO_eq, zO_ne1, zO_ne2, zO_nn, zi_ne1, zi_ne2, zi_lt1, zi_le1, zi_lt2, zi_le2, Int32.reduceLT, Int32.reduceLE, Nat.reduceLT, Nat.reduceLeDiff, Int32.reduceMul, Int32.reduceAdd, Int32.reduceSub, not_false_eq_true, not_true_eq_false, E_X10_pushOn, R_X10_pushOn, PF, SHF, hn, m_mid1, zi_s, Int32.reduceAdd]
  have e := m_push1_l (d := d) (f := f) (g := g) (t := t) (L := L) (Q := Q) hn h24 hk (I 81 73 * (nI n - 1 - nI k)) _ rfl (n - (k + 1)) (k + 1) (by omega)
  rw [show ∀ (a b : Int32), a + (b - b) = a by intro a b; grind] at e
  exact e
theorem m_sizeOf (x : Int32) (h : zMm) : zWM (d + 1) 123 [.int x] h Q = Q (some (.int (zabs x))) h := by
  simp (disch := first | assumption | rfl | omega | decide | exact zb_01 _) only [zabs_e, zmax_e, zmin_e, zrf_s, zpush_s, zpush_n, zw_app, upd_app, updL_app, Nat.reduceEqDiff, Nat.add_left_cancel_iff, Nat.add_eq_left, Nat.left_eq_add, ↓reduceIte, true_and, and_true, Int32.reduceToNatClampNeg, zin_O, zi_ltO, zi_leO, zi_Olt, zi_Ole, zi_eqO, Nat.not_lt_zero, Nat.zero_le, List.append_nil, zrn_n, zrn_s, List.cons_append, List.nil_append, zlg_lt, zlg_gt, zlg_le, zlg_ge, zlg_eq, Int32.toInt_toInt64, Int64.reduceToInt, zw_zw, zw_sw1, zw_sw2, zw_sw3, zw_sw4, zw_sw5, zw_sw6, zw_sw7, ne_eq, zi_in, zi_cl, zi_le, zi_lt, zi_eq, zi_neg, zi_0le, zb_0, if_true, if_false, eq_self, zb_T, zb_F, Bool.false_eq_true, zO_eq, zO_ne1, zO_ne2, zO_nn, zi_ne1, zi_ne2, zi_lt1, zi_le1, zi_lt2, zi_le2, Int32.reduceLT, Int32.reduceLE, Nat.reduceLT, Nat.reduceLeDiff, Int32.reduceMul, Int32.reduceAdd, Int32.reduceSub, not_false_eq_true, not_true_eq_false, E_X10_sizeOf, R_X10_sizeOf]
  unfold zabs
  by_cases h1 : 0 ≤ x
  · have h2 : ¬ x < 0 := Int32.not_lt.mpr h1
    simp only [if_pos h1, if_neg h2]
  · have h2 : x < 0 := Int32.not_le.mp h1
    simp only [if_neg h1, if_pos h2, Int32.zero_sub]
theorem m_within (v a b : Int64) (h : zMm) : zWM (d + 1) 122 [.long v, .long a, .long b] h Q = Q (some (.int (zb (a.toInt ≤ v.toInt ∧ v.toInt ≤ b.toInt)))) h := by
  simp (disch := first | assumption | rfl | omega | decide | exact zb_01 _) only [zabs_e, zmax_e, zmin_e, zrf_s, zpush_s, zpush_n, zw_app, upd_app, updL_app, Nat.reduceEqDiff, Nat.add_left_cancel_iff, Nat.add_eq_left, Nat.left_eq_add, ↓reduceIte, true_and, and_true, Int32.reduceToNatClampNeg, zin_O, zi_ltO, zi_leO, zi_Olt, zi_Ole, zi_eqO, Nat.not_lt_zero, Nat.zero_le, List.append_nil, zrn_n, zrn_s, List.cons_append, List.nil_append, zlg_lt, zlg_gt, zlg_le, zlg_ge, zlg_eq, Int32.toInt_toInt64, Int64.reduceToInt, zw_zw, zw_sw1, zw_sw2, zw_sw3, zw_sw4, zw_sw5, zw_sw6, zw_sw7, ne_eq, zi_in, zi_cl, zi_le, zi_lt, zi_eq, zi_neg, zi_0le, zb_0, if_true, if_false, eq_self, zb_T, zb_F, Bool.false_eq_true, zO_eq, zO_ne1, zO_ne2, zO_nn, zi_ne1, zi_ne2, zi_lt1, zi_le1, zi_lt2, zi_le2, Int32.reduceLT, Int32.reduceLE, Nat.reduceLT, Nat.reduceLeDiff, Int32.reduceMul, Int32.reduceAdd, Int32.reduceSub, not_false_eq_true, not_true_eq_false, E_X10_within, R_X10_within]
  repeat' split
  all_goals first | rfl | rw [zb_t (by first | omega | (simp only [Int32.lt_iff_toInt_lt, Int32.le_iff_toInt_le, ← Int32.toInt_inj, Int32.reduceToInt] at *; omega))] | rw [zb_f (by first | omega | (simp only [Int32.lt_iff_toInt_lt, Int32.le_iff_toInt_le, ← Int32.toInt_inj, Int32.reduceToInt] at *; omega))]
theorem m_isRound (k : Int32) : zWM (d + 2) 130 [.ref 80, .int k] (zSH, I, L, zP f g t) Q = Q (some (.int (zb (0 ≤ k.toInt ∧ k.toInt ≤ (I 80 6 - 1).toInt)))) (zSH, I, L, zP f g t) := by
  simp (disch := first | assumption | rfl | omega | decide | exact zb_01 _) only [zabs_e, zmax_e, zmin_e, zrf_s, zpush_s, zpush_n, zw_app, upd_app, updL_app, Nat.reduceEqDiff, Nat.add_left_cancel_iff, Nat.add_eq_left, Nat.left_eq_add, ↓reduceIte, true_and, and_true, Int32.reduceToNatClampNeg, zin_O, zi_ltO, zi_leO, zi_Olt, zi_Ole, zi_eqO, Nat.not_lt_zero, Nat.zero_le, List.append_nil, zrn_n, zrn_s, List.cons_append, List.nil_append, zlg_lt, zlg_gt, zlg_le, zlg_ge, zlg_eq, Int32.toInt_toInt64, Int64.reduceToInt, zw_zw, zw_sw1, zw_sw2, zw_sw3, zw_sw4, zw_sw5, zw_sw6, zw_sw7, ne_eq, zi_in, zi_cl, zi_le, zi_lt, zi_eq, zi_neg, zi_0le, zb_0, if_true, if_false, eq_self, zb_T, zb_F, Bool.false_eq_true, zO_eq, zO_ne1, zO_ne2, zO_nn, zi_ne1, zi_ne2, zi_lt1, zi_le1, zi_lt2, zi_le2, Int32.reduceLT, Int32.reduceLE, Nat.reduceLT, Nat.reduceLeDiff, Int32.reduceMul, Int32.reduceAdd, Int32.reduceSub, not_false_eq_true, not_true_eq_false, E_X10_isRound, R_X10_isRound, PF, SHF, m_within]
theorem m_isPane (k : Int32) : zWM (d + 2) 131 [.ref 80, .int k] (zSH, I, L, zP f g t) Q = Q (some (.int (zb (0 ≤ k.toInt ∧ k.toInt ≤ (I 80 10 - 1).toInt)))) (zSH, I, L, zP f g t) := by
  simp (disch := first | assumption | rfl | omega | decide | exact zb_01 _) only [zabs_e, zmax_e, zmin_e, zrf_s, zpush_s, zpush_n, zw_app, upd_app, updL_app, Nat.reduceEqDiff, Nat.add_left_cancel_iff, Nat.add_eq_left, Nat.left_eq_add, ↓reduceIte, true_and, and_true, Int32.reduceToNatClampNeg, zin_O, zi_ltO, zi_leO, zi_Olt, zi_Ole, zi_eqO, Nat.not_lt_zero, Nat.zero_le, List.append_nil, zrn_n, zrn_s, List.cons_append, List.nil_append, zlg_lt, zlg_gt, zlg_le, zlg_ge, zlg_eq, Int32.toInt_toInt64, Int64.reduceToInt, zw_zw, zw_sw1, zw_sw2, zw_sw3, zw_sw4, zw_sw5, zw_sw6, zw_sw7, ne_eq, zi_in, zi_cl, zi_le, zi_lt, zi_eq, zi_neg, zi_0le, zb_0, if_true, if_false, eq_self, zb_T, zb_F, Bool.false_eq_true, zO_eq, zO_ne1, zO_ne2, zO_nn, zi_ne1, zi_ne2, zi_lt1, zi_le1, zi_lt2, zi_le2, Int32.reduceLT, Int32.reduceLE, Nat.reduceLT, Nat.reduceLeDiff, Int32.reduceMul, Int32.reduceAdd, Int32.reduceSub, not_false_eq_true, not_true_eq_false, E_X10_isPane, R_X10_isPane, PF, SHF, m_within]
theorem m_isBody (k : Int32) : zWM (d + 2) 195 [.ref 80, .int k] (zSH, I, L, zP f g t) Q = Q (some (.int (zb (0 ≤ k.toInt ∧ k.toInt ≤ (I 80 40 - 1).toInt)))) (zSH, I, L, zP f g t) := by
  simp (disch := first | assumption | rfl | omega | decide | exact zb_01 _) only [zabs_e, zmax_e, zmin_e, zrf_s, zpush_s, zpush_n, zw_app, upd_app, updL_app, Nat.reduceEqDiff, Nat.add_left_cancel_iff, Nat.add_eq_left, Nat.left_eq_add, ↓reduceIte, true_and, and_true, Int32.reduceToNatClampNeg, zin_O, zi_ltO, zi_leO, zi_Olt, zi_Ole, zi_eqO, Nat.not_lt_zero, Nat.zero_le, List.append_nil, zrn_n, zrn_s, List.cons_append, List.nil_append, zlg_lt, zlg_gt, zlg_le, zlg_ge, zlg_eq, Int32.toInt_toInt64, Int64.reduceToInt, zw_zw, zw_sw1, zw_sw2, zw_sw3, zw_sw4, zw_sw5, zw_sw6, zw_sw7, ne_eq, zi_in, zi_cl, zi_le, zi_lt, zi_eq, zi_neg, zi_0le, zb_0, if_true, if_false, eq_self, zb_T, zb_F, Bool.false_eq_true, zO_eq, zO_ne1, zO_ne2, zO_nn, zi_ne1, zi_ne2, zi_lt1, zi_le1, zi_lt2, zi_le2, Int32.reduceLT, Int32.reduceLE, Nat.reduceLT, Nat.reduceLeDiff, Int32.reduceMul, Int32.reduceAdd, Int32.reduceSub, not_false_eq_true, not_true_eq_false, E_X10_isBody, R_X10_isBody, PF, SHF, m_within]
theorem m_isShelf (k : Int32) (h : zMm) : zWM (d + 2) 206 [.int k] h Q = Q (some (.int (zb (0 ≤ k.toInt ∧ k.toInt ≤ 5)))) h := by
  simp (disch := first | assumption | rfl | omega | decide | exact zb_01 _) only [zabs_e, zmax_e, zmin_e, zrf_s, zpush_s, zpush_n, zw_app, upd_app, updL_app, Nat.reduceEqDiff, Nat.add_left_cancel_iff, Nat.add_eq_left, Nat.left_eq_add, ↓reduceIte, true_and, and_true, Int32.reduceToNatClampNeg, zin_O, zi_ltO, zi_leO, zi_Olt, zi_Ole, zi_eqO, Nat.not_lt_zero, Nat.zero_le, List.append_nil, zrn_n, zrn_s, List.cons_append, List.nil_append, zlg_lt, zlg_gt, zlg_le, zlg_ge, zlg_eq, Int32.toInt_toInt64, Int64.reduceToInt, zw_zw, zw_sw1, zw_sw2, zw_sw3, zw_sw4, zw_sw5, zw_sw6, zw_sw7, ne_eq, zi_in, zi_cl, zi_le, zi_lt, zi_eq, zi_neg, zi_0le, zb_0, if_true, if_false, eq_self, zb_T, zb_F, Bool.false_eq_true, zO_eq, zO_ne1, zO_ne2, zO_nn, zi_ne1, zi_ne2, zi_lt1, zi_le1, zi_lt2, zi_le2, Int32.reduceLT, Int32.reduceLE, Nat.reduceLT, Nat.reduceLeDiff, Int32.reduceMul, Int32.reduceAdd, Int32.reduceSub, not_false_eq_true, not_true_eq_false, E_X10_isShelf, R_X10_isShelf, m_within]
theorem m_isOne (p dm x y : Int64) (h : zMm) : zWM (d + 2) 132 [.long p, .long dm, .long x, .long y] h Q = Q (some (.int (zb (1 ≤ p.toInt ∧ p.toInt ≤ 9 ∧ 0 ≤ dm.toInt ∧ dm.toInt ≤ p.toInt ∧ -4 ≤ x.toInt ∧ x.toInt ≤ 4 ∧ -4 ≤ y.toInt ∧ y.toInt ≤ 4)))) h := by
  simp (disch := first | assumption | rfl | omega | decide | exact zb_01 _) only [zabs_e, zmax_e, zmin_e, zrf_s, zpush_s, zpush_n, zw_app, upd_app, updL_app, Nat.reduceEqDiff, Nat.add_left_cancel_iff, Nat.add_eq_left, Nat.left_eq_add, ↓reduceIte, true_and, and_true, Int32.reduceToNatClampNeg, zin_O, zi_ltO, zi_leO, zi_Olt, zi_Ole, zi_eqO, Nat.not_lt_zero, Nat.zero_le, List.append_nil, zrn_n, zrn_s, List.cons_append, List.nil_append, zlg_lt, zlg_gt, zlg_le, zlg_ge, zlg_eq, Int32.toInt_toInt64, Int64.reduceToInt, zw_zw, zw_sw1, zw_sw2, zw_sw3, zw_sw4, zw_sw5, zw_sw6, zw_sw7, ne_eq, zi_in, zi_cl, zi_le, zi_lt, zi_eq, zi_neg, zi_0le, zb_0, if_true, if_false, eq_self, zb_T, zb_F, Bool.false_eq_true, zO_eq, zO_ne1, zO_ne2, zO_nn, zi_ne1, zi_ne2, zi_lt1, zi_le1, zi_lt2, zi_le2, Int32.reduceLT, Int32.reduceLE, Nat.reduceLT, Nat.reduceLeDiff, Int32.reduceMul, Int32.reduceAdd, Int32.reduceSub, not_false_eq_true, not_true_eq_false, E_X10_isOne, R_X10_isOne, m_within]
  repeat' split
  all_goals first | rfl | rw [zb_t (by first | omega | (simp only [Int32.lt_iff_toInt_lt, Int32.le_iff_toInt_le, ← Int32.toInt_inj, Int32.reduceToInt] at *; omega))] | rw [zb_f (by first | omega | (simp only [Int32.lt_iff_toInt_lt, Int32.le_iff_toInt_le, ← Int32.toInt_inj, Int32.reduceToInt] at *; omega))]
theorem m_countsAll_l (hn : I 80 6 = nI n) (h24 : n ≤ 24) : ∀ c j, c + j = n → zWp d zi_158 none 2 [.ref 80, .int (nI j)] [] (zSH, zw I 91 (zfl j (I 85) (I 91)), L, zP f g t) Q = Q none (zSH, zw I 91 (zfl n (I 85) (I 91)), L, zP f g t) := by
  intro c
  induction c with
  | zero =>
    intro j hj
    have hj : j = n := by omega
    subst hj
    rw [H_X10_countsAll_2]
    simp (disch := first | assumption | rfl | omega | decide | exact zb_01 _) only [zabs_e, zmax_e, zmin_e, zrf_s, zpush_s, zpush_n, zw_app, upd_app, updL_app, Nat.reduceEqDiff, Nat.add_left_cancel_iff, Nat.add_eq_left, Nat.left_eq_add, ↓reduceIte, true_and, and_true, Int32.reduceToNatClampNeg, zin_O, zi_ltO, zi_leO, zi_Olt, zi_Ole, zi_eqO, Nat.not_lt_zero, Nat.zero_le, List.append_nil, zrn_n, zrn_s, List.cons_append, List.nil_append, zlg_lt, zlg_gt, zlg_le, zlg_ge, zlg_eq, Int32.toInt_toInt64, Int64.reduceToInt, zw_zw, zw_sw1, zw_sw2, zw_sw3, zw_sw4, zw_sw5, zw_sw6, zw_sw7, ne_eq, zi_in, zi_cl, zi_le, zi_lt, zi_eq, zi_neg, zi_0le, zb_0, if_true, if_false, eq_self, zb_T, zb_F, Bool.false_eq_true, zO_eq, zO_ne1, zO_ne2, zO_nn, zi_ne1, zi_ne2, zi_lt1, zi_le1, zi_lt2, zi_le2, Int32.reduceLT, Int32.reduceLE, Nat.reduceLT, Nat.reduceLeDiff, Int32.reduceMul, Int32.reduceAdd, Int32.reduceSub, not_false_eq_true, not_true_eq_false, R_X10_countsAll, PF, SHF, hn, Nat.le_refl]
  | succ c ih =>
    intro j hj
    have h1 : ¬ n ≤ j := by omega
    rw [H_X10_countsAll_2]
    simp (disch := first | assumption | rfl | omega | decide | exact zb_01 _) only [zabs_e, zmax_e, zmin_e, zrf_s, zpush_s, zpush_n, zw_app, upd_app, updL_app, Nat.reduceEqDiff, Nat.add_left_cancel_iff, Nat.add_eq_left, Nat.left_eq_add, ↓reduceIte, true_and, and_true, Int32.reduceToNatClampNeg, zin_O, zi_ltO, zi_leO, zi_Olt, zi_Ole, zi_eqO, Nat.not_lt_zero, Nat.zero_le, List.append_nil, zrn_n, zrn_s, List.cons_append, List.nil_append, zlg_lt, zlg_gt, zlg_le, zlg_ge, zlg_eq, Int32.toInt_toInt64, Int64.reduceToInt, zw_zw, zw_sw1, zw_sw2, zw_sw3, zw_sw4, zw_sw5, zw_sw6, zw_sw7, ne_eq, zi_in, zi_cl, zi_le, zi_lt, zi_eq, zi_neg, zi_0le, zb_0, if_true, if_false, eq_self, zb_T, zb_F, Bool.false_eq_true, zO_eq, zO_ne1, zO_ne2, zO_nn, zi_ne1, zi_ne2, zi_lt1, zi_le1, zi_lt2, zi_le2, Int32.reduceLT, Int32.reduceLE, Nat.reduceLT, Nat.reduceLeDiff, Int32.reduceMul, Int32.reduceAdd, Int32.reduceSub, not_false_eq_true, not_true_eq_false, R_X10_countsAll, PF, SHF, hn, h1, zi_s, zfl_s]
    exact ih (j + 1) (by omega)
theorem m_countsAll (hn : I 80 6 = nI n) (h24 : n ≤ 24) : zWM (d + 1) 158 [.ref 80] (zSH, I, L, zP f g t) Q = Q none (zSH, zw I 91 (zfl n (I 85) (I 91)), L, zP f g t) := by
  simp (disch := first | assumption | rfl | omega | decide | exact zb_01 _) only [zabs_e, zmax_e, zmin_e, zrf_s, zpush_s, zpush_n, zw_app, upd_app, updL_app, Nat.reduceEqDiff, Nat.add_left_cancel_iff, Nat.add_eq_left, Nat.left_eq_add, ↓reduceIte, true_and, and_true, Int32.reduceToNatClampNeg, zin_O, zi_ltO, zi_leO, zi_Olt, zi_Ole, zi_eqO, Nat.not_lt_zero, Nat.zero_le, List.append_nil, zrn_n, zrn_s, List.cons_append, List.nil_append, zlg_lt, zlg_gt, zlg_le, zlg_ge, zlg_eq, Int32.toInt_toInt64, Int64.reduceToInt, zw_zw, zw_sw1, zw_sw2, zw_sw3, zw_sw4, zw_sw5, zw_sw6, zw_sw7, ne_eq, zi_in, zi_cl, zi_le, zi_lt, zi_eq, zi_neg, zi_0le, zb_0, if_true, if_false, eq_self, zb_T, zb_F, Bool.false_eq_true, zO_eq, zO_ne1, zO_ne2, zO_nn, zi_ne1, zi_ne2, zi_lt1, zi_le1, zi_lt2, zi_le2, Int32.reduceLT, Int32.reduceLE, Nat.reduceLT, Nat.reduceLeDiff, Int32.reduceMul, Int32.reduceAdd, Int32.reduceSub, not_false_eq_true, not_true_eq_false, E_X10_countsAll, R_X10_countsAll]
  have e := m_countsAll_l (d := d) (f := f) (g := g) (t := t) (L := L) (Q := Q) hn h24 n 0 (by omega)
  rw [zfl_0, zw_id] at e
  exact e
theorem m_holds_l (hn : I 80 6 = nI n) (h24 : n ≤ 24) (hk : k < n) (Q' : Option Value → zMm → Prop) : ∀ c j (l3 : Value), c + j = n → zWp (d + 2) zi_160 none 6 [.ref 80, .int (nI k), .int (sumI (I 91) j - sumI (I 91) (k + 1)), .int (nI j)] [] (zSH, I, L, zP f g t) Q = zWp (d + 2) zi_160 none 6 [.ref 80, .int (nI k), .int (sumI (I 91) n - sumI (I 91) (k + 1)), .int (nI n)] [] (zSH, I, L, zP f g t) Q := by
  intro c
  induction c with
  | zero =>
    intro j l3 hj
    have hj : j = n := by omega
    subst hj
    rfl
  | succ c ih =>
    intro j l3 hj
    have h1 : ¬ n ≤ j := by omega
    rw [H_X10_holds_6]
    simp (disch := first | assumption | rfl | omega | decide | exact zb_01 _) only [zabs_e, zmax_e, zmin_e, zrf_s, zpush_s, zpush_n, zw_app, upd_app, updL_app, Nat.reduceEqDiff, Nat.add_left_cancel_iff, Nat.add_eq_left, Nat.left_eq_add, ↓reduceIte, true_and, and_true, Int32.reduceToNatClampNeg, zin_O, zi_ltO, zi_leO, zi_Olt, zi_Ole, zi_eqO, Nat.not_lt_zero, Nat.zero_le, List.append_nil, zrn_n, zrn_s, List.cons_append, List.nil_append, zlg_lt, zlg_gt, zlg_le, zlg_ge, zlg_eq, Int32.toInt_toInt64, Int64.reduceToInt, zw_zw, zw_sw1, zw_sw2, zw_sw3, zw_sw4, zw_sw5, zw_sw6, zw_sw7, ne_eq, zi_in, zi_cl, zi_le, zi_lt, zi_eq, zi_neg, zi_0le, zb_0, if_true, if_false, eq_self, zb_T, zb_F, Bool.false_eq_true, zO_eq, zO_ne1, zO_ne2, zO_nn, zi_ne1, zi_ne2, zi_lt1, zi_le1, zi_lt2, zi_le2, Int32.reduceLT, Int32.reduceLE, Nat.reduceLT, Nat.reduceLeDiff, Int32.reduceMul, Int32.reduceAdd, Int32.reduceSub, not_false_eq_true, not_true_eq_false, R_X10_holds, PF, SHF, hn, h1, zi_s, zring3]
    exact ih (j + 1) l3 (by omega)
theorem m_holds (hn : I 80 6 = nI n) (h24 : n ≤ 24) (hk : k < n) : zWM (d + 3) 160 [.ref 80, .int (nI k)] (zSH, I, L, zP f g t) Q = Q (some (.int (zb (zHo n (I 91) (I 81) (mSy I) (I 81 72) (I 81 73) k)))) (zSH, I, L, zP f g t) := by
  simp (disch := first | assumption | rfl | omega | decide | exact zb_01 _) only [zabs_e, zmax_e, zmin_e, zrf_s, zpush_s, zpush_n, zw_app, upd_app, updL_app, Nat.reduceEqDiff, Nat.add_left_cancel_iff, Nat.add_eq_left, Nat.left_eq_add, ↓reduceIte, true_and, and_true, Int32.reduceToNatClampNeg, zin_O, zi_ltO, zi_leO, zi_Olt, zi_Ole, zi_eqO, Nat.not_lt_zero, Nat.zero_le, List.append_nil, zrn_n, zrn_s, List.cons_append, List.nil_append, zlg_lt, zlg_gt, zlg_le, zlg_ge, zlg_eq, Int32.toInt_toInt64, Int64.reduceToInt, zw_zw, zw_sw1, zw_sw2, zw_sw3, zw_sw4, zw_sw5, zw_sw6, zw_sw7, ne_eq, zi_in, zi_cl, zi_le, zi_lt, zi_eq, zi_neg, zi_0le, zb_0, if_true, if_false, eq_self, zb_T, zb_F, Bool.false_eq_true, zO_eq, zO_ne1, zO_ne2, zO_nn, zi_ne1, zi_ne2, zi_lt1, zi_le1, zi_lt2, zi_le2, Int32.reduceLT, Int32.reduceLE, Nat.reduceLT, Nat.reduceLeDiff, Int32.reduceMul, Int32.reduceAdd, Int32.reduceSub, not_false_eq_true, not_true_eq_false, E_X10_holds, R_X10_holds, zi_s]
  have e := m_holds_l (d := d) (f := f) (g := g) (t := t) (L := L) (Q := Q) hn h24 hk Q (n - (k + 1)) (k + 1) .null (by omega)
  rw [show sumI (I 91) (k + 1) - sumI (I 91) (k + 1) = 0 by grind] at e
  rw [e, H_X10_holds_6]
  simp (disch := first | assumption | rfl | omega | decide | exact zb_01 _) only [zabs_e, zmax_e, zmin_e, zrf_s, zpush_s, zpush_n, zw_app, upd_app, updL_app, Nat.reduceEqDiff, Nat.add_left_cancel_iff, Nat.add_eq_left, Nat.left_eq_add, ↓reduceIte, true_and, and_true, Int32.reduceToNatClampNeg, zin_O, zi_ltO, zi_leO, zi_Olt, zi_Ole, zi_eqO, Nat.not_lt_zero, Nat.zero_le, List.append_nil, zrn_n, zrn_s, List.cons_append, List.nil_append, zlg_lt, zlg_gt, zlg_le, zlg_ge, zlg_eq, Int32.toInt_toInt64, Int64.reduceToInt, zw_zw, zw_sw1, zw_sw2, zw_sw3, zw_sw4, zw_sw5, zw_sw6, zw_sw7, ne_eq, zi_in, zi_cl, zi_le, zi_lt, zi_eq, zi_neg, zi_0le, zb_0, if_true, if_false, eq_self, zb_T, zb_F, Bool.false_eq_true, zO_eq, zO_ne1, zO_ne2, zO_nn, zi_ne1, zi_ne2, zi_lt1, zi_le1, zi_lt2, zi_le2, Int32.reduceLT, Int32.reduceLE, Nat.reduceLT, Nat.reduceLeDiff, Int32.reduceMul, Int32.reduceAdd, Int32.reduceSub, not_false_eq_true, not_true_eq_false, R_X10_holds, PF, SHF, hn, Nat.le_refl, m_push0, m_push1, m_sizeOf]
  clear e
  unfold zHo zab
  repeat' split
  all_goals first | rfl | rw [zb_t (by first | omega | (simp only [Int32.lt_iff_toInt_lt, Int32.le_iff_toInt_le, ← Int32.toInt_inj, Int32.reduceToInt] at *; omega))] | rw [zb_f (by first | omega | (simp only [Int32.lt_iff_toInt_lt, Int32.le_iff_toInt_le, ← Int32.toInt_inj, Int32.reduceToInt] at *; omega))]
theorem m_fallsAt_l (hn : I 80 6 = nI n) (h24 : n ≤ 24) : ∀ c i, c + i = n → zWp (d + 3) zi_161 none 2 [.ref 80, .int (nI i)] [] (zSH, I, L, zP f g t) Q = Q (some (.int (zFf n (I 91) (I 81) (mSy I) (I 81 72) (I 81 73) c i))) (zSH, I, L, zP f g t) := by
  intro c
  induction c with
  | zero =>
    intro i hi
    have hi : i = n := by omega
    subst hi
    rw [H_X10_fallsAt_2]
    simp (disch := first | assumption | rfl | omega | decide | exact zb_01 _) only [zabs_e, zmax_e, zmin_e, zrf_s, zpush_s, zpush_n, zw_app, upd_app, updL_app, Nat.reduceEqDiff, Nat.add_left_cancel_iff, Nat.add_eq_left, Nat.left_eq_add, ↓reduceIte, true_and, and_true, Int32.reduceToNatClampNeg, zin_O, zi_ltO, zi_leO, zi_Olt, zi_Ole, zi_eqO, Nat.not_lt_zero, Nat.zero_le, List.append_nil, zrn_n, zrn_s, List.cons_append, List.nil_append, zlg_lt, zlg_gt, zlg_le, zlg_ge, zlg_eq, Int32.toInt_toInt64, Int64.reduceToInt, zw_zw, zw_sw1, zw_sw2, zw_sw3, zw_sw4, zw_sw5, zw_sw6, zw_sw7, ne_eq, zi_in, zi_cl, zi_le, zi_lt, zi_eq, zi_neg, zi_0le, zb_0, if_true, if_false, eq_self, zb_T, zb_F, Bool.false_eq_true, zO_eq, zO_ne1, zO_ne2, zO_nn, zi_ne1, zi_ne2, zi_lt1, zi_le1, zi_lt2, zi_le2, Int32.reduceLT, Int32.reduceLE, Nat.reduceLT, Nat.reduceLeDiff, Int32.reduceMul, Int32.reduceAdd, Int32.reduceSub, not_false_eq_true, not_true_eq_false, R_X10_fallsAt, PF, SHF, hn, Nat.le_refl, zFf]
  | succ c ih =>
    intro i hi
    have hlt : ¬ n ≤ i := by omega
    have hi' : i < n := by omega
    rw [H_X10_fallsAt_2]
    simp (disch := first | assumption | rfl | omega | decide | exact zb_01 _) only [zabs_e, zmax_e, zmin_e, zrf_s, zpush_s, zpush_n, zw_app, upd_app, updL_app, Nat.reduceEqDiff, Nat.add_left_cancel_iff, Nat.add_eq_left, Nat.left_eq_add, ↓reduceIte, true_and, and_true, Int32.reduceToNatClampNeg, zin_O, zi_ltO, zi_leO, zi_Olt, zi_Ole, zi_eqO, Nat.not_lt_zero, Nat.zero_le, List.append_nil, zrn_n, zrn_s, List.cons_append, List.nil_append, zlg_lt, zlg_gt, zlg_le, zlg_ge, zlg_eq, Int32.toInt_toInt64, Int64.reduceToInt, zw_zw, zw_sw1, zw_sw2, zw_sw3, zw_sw4, zw_sw5, zw_sw6, zw_sw7, ne_eq, zi_in, zi_cl, zi_le, zi_lt, zi_eq, zi_neg, zi_0le, zb_0, if_true, if_false, eq_self, zb_T, zb_F, Bool.false_eq_true, zO_eq, zO_ne1, zO_ne2, zO_nn, zi_ne1, zi_ne2, zi_lt1, zi_le1, zi_lt2, zi_le2, Int32.reduceLT, Int32.reduceLE, Nat.reduceLT, Nat.reduceLeDiff, Int32.reduceMul, Int32.reduceAdd, Int32.reduceSub, not_false_eq_true, not_true_eq_false, R_X10_fallsAt, PF, SHF, hn, hlt, m_holds hn h24 hi', zi_s]
    unfold zFf
    by_cases h1 : zHo n (I 91) (I 81) (mSy I) (I 81 72) (I 81 73) i
    · rw [if_pos h1, ← ih (i + 1) (by omega)]
      rw [if_neg (fun z => z h1)]
    · rw [if_neg h1]
      simp only [h1, not_false_eq_true, ↓reduceIte]
theorem m_fallsAt (hn : I 80 6 = nI n) (h24 : n ≤ 24) : zWM (d + 4) 161 [.ref 80] (zSH, I, L, zP f g t) Q = Q (some (.int (zFa n (I 91) (I 81) (mSy I) (I 81 72) (I 81 73)))) (zSH, I, L, zP f g t) := by
  simp (disch := first | assumption | rfl | omega | decide | exact zb_01 _) only [zabs_e, zmax_e, zmin_e, zrf_s, zpush_s, zpush_n, zw_app, upd_app, updL_app, Nat.reduceEqDiff, Nat.add_left_cancel_iff, Nat.add_eq_left, Nat.left_eq_add, ↓reduceIte, true_and, and_true, Int32.reduceToNatClampNeg, zin_O, zi_ltO, zi_leO, zi_Olt, zi_Ole, zi_eqO, Nat.not_lt_zero, Nat.zero_le, List.append_nil, zrn_n, zrn_s, List.cons_append, List.nil_append, zlg_lt, zlg_gt, zlg_le, zlg_ge, zlg_eq, Int32.toInt_toInt64, Int64.reduceToInt, zw_zw, zw_sw1, zw_sw2, zw_sw3, zw_sw4, zw_sw5, zw_sw6, zw_sw7, ne_eq, zi_in, zi_cl, zi_le, zi_lt, zi_eq, zi_neg, zi_0le, zb_0, if_true, if_false, eq_self, zb_T, zb_F, Bool.false_eq_true, zO_eq, zO_ne1, zO_ne2, zO_nn, zi_ne1, zi_ne2, zi_lt1, zi_le1, zi_lt2, zi_le2, Int32.reduceLT, Int32.reduceLE, Nat.reduceLT, Nat.reduceLeDiff, Int32.reduceMul, Int32.reduceAdd, Int32.reduceSub, not_false_eq_true, not_true_eq_false, E_X10_fallsAt, R_X10_fallsAt]
  exact m_fallsAt_l hn h24 n 0 (by omega)
theorem m_whither (hn : I 80 6 = nI n) (h24 : n ≤ 24) (hk : k < n) (hp : ∀ j, j < n → 0 ≤ (I 91 j).toInt ∧ (I 91 j).toInt ≤ 9) (hf : ¬ zHo n (I 91) (I 81) (mSy I) (I 81 72) (I 81 73) k) : zWM (d + 3) 162 [.ref 80, .int (nI k)] (zSH, I, L, zP f g t) Q = Q (some (.int (zWh n (I 91) (I 81) (mSy I) (I 81 72) (I 81 73) k))) (zSH, I, L, zP f g t) := by
  simp (disch := first | assumption | rfl | omega | decide | exact zb_01 _) only [zabs_e, zmax_e, zmin_e, zrf_s, zpush_s, zpush_n, zw_app, upd_app, updL_app, Nat.reduceEqDiff, Nat.add_left_cancel_iff, Nat.add_eq_left, Nat.left_eq_add, ↓reduceIte, true_and, and_true, Int32.reduceToNatClampNeg, zin_O, zi_ltO, zi_leO, zi_Olt, zi_Ole, zi_eqO, Nat.not_lt_zero, Nat.zero_le, List.append_nil, zrn_n, zrn_s, List.cons_append, List.nil_append, zlg_lt, zlg_gt, zlg_le, zlg_ge, zlg_eq, Int32.toInt_toInt64, Int64.reduceToInt, zw_zw, zw_sw1, zw_sw2, zw_sw3, zw_sw4, zw_sw5, zw_sw6, zw_sw7, ne_eq, zi_in, zi_cl, zi_le, zi_lt, zi_eq, zi_neg, zi_0le, zb_0, if_true, if_false, eq_self, zb_T, zb_F, Bool.false_eq_true, zO_eq, zO_ne1, zO_ne2, zO_nn, zi_ne1, zi_ne2, zi_lt1, zi_le1, zi_lt2, zi_le2, Int32.reduceLT, Int32.reduceLE, Nat.reduceLT, Nat.reduceLeDiff, Int32.reduceMul, Int32.reduceAdd, Int32.reduceSub, not_false_eq_true, not_true_eq_false, E_X10_whither, R_X10_whither, m_push0, m_push1, m_sizeOf]
  exact zwh0 (zab_bd hp h24 hk) hf (fun r => Q (some (.int r)) (zSH, I, L, zP f g t))
end MGEO
