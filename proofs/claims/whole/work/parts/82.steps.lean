section STEPS
variable {d f g i N : Nat} {t : Option Nat} {I : Nat → Nat → Int32} {L : Nat → Nat → Int64} {X : Nat → Int32} {Q : Option Value → zMm → Prop}
theorem st_0 (hN : i + 6 ≤ N) (hN2 : N < 2147483648) (hR : zRel I L f g) : ∃ I2 L2 f2 g2 t2, zRel I2 L2 f2 g2 ∧ ∀ d Q, zWp (d + 100) zi_217 (some (N, X)) 204 [.ref 1000000, .ref 0, .ref 80, .int (nI i)] [] (zSH, I, L, zP f g t) Q = zWp (d + 100) zi_217 (some (N, X)) 1332 [.ref 1000000, .ref 0, .ref 80, .int (nI i)] [] (zSH, I2, L2, zP f2 g2 t2) Q := by
  obtain ⟨r, I1, L1, f1, g1, t1, I2, L2, h1, h2, hR2, v1, v2⟩ := op_build (t := t) hR (X (i + 1)) (X (i + 2))
  obtain ⟨v, rfl⟩ := v1 (by decide)
  refine ⟨I2, L2, f1, g1, t1, hR2, fun d Q => ?_⟩
  have b1 : i + 1 < N := by omega
  have e1 : nI i + 1 = nI (i + 1) := zi_ak i 1
  have b2 : i + 2 < N := by omega
  have e2 : nI i + 2 = nI (i + 2) := zi_ak i 2
  have b3 : i + 3 < N := by omega
  have e3 : nI i + 3 = nI (i + 3) := zi_ak i 3
  have b4 : i + 4 < N := by omega
  have e4 : nI i + 4 = nI (i + 4) := zi_ak i 4
  have b5 : i + 5 < N := by omega
  have e5 : nI i + 5 = nI (i + 5) := zi_ak i 5
  simp (disch := first | assumption | rfl | omega | decide | exact zb_01 _) only [zabs_e, zmax_e, zmin_e, zrf_s, zpush_s, zpush_n, zw_app, upd_app, updL_app, Nat.reduceEqDiff, Nat.add_left_cancel_iff, Nat.add_eq_left, Nat.left_eq_add, ↓reduceIte, true_and, and_true, Int32.reduceToNatClampNeg, zin_O, zi_ltO, zi_leO, zi_Olt, zi_Ole, zi_eqO, Nat.not_lt_zero, Nat.zero_le, List.append_nil, zrn_n, zrn_s, List.cons_append, List.nil_append, zlg_lt, zlg_gt, zlg_le, zlg_ge, zlg_eq, Int32.toInt_toInt64, Int64.reduceToInt, zw_zw, zw_sw1, zw_sw2, zw_sw3, zw_sw4, zw_sw5, zw_sw6, zw_sw7, ne_eq, zi_in, zi_cl, zi_le, zi_lt, zi_eq, zi_neg, zi_0le, zb_0, if_true, if_false, eq_self, zb_T, zb_F, Bool.false_eq_true, zO_eq, zO_ne1, zO_ne2, zO_nn, zi_ne1, zi_ne2, zi_lt1, zi_le1, zi_lt2, zi_le2, Int32.reduceLT, Int32.reduceLE, Nat.reduceLT, Nat.reduceLeDiff, Int32.reduceMul, Int32.reduceAdd, Int32.reduceSub, not_false_eq_true, not_true_eq_false, Int32.reduceToInt, Int.reduceLE, Int.reduceLT, Int.reduceNeg, ite_self, R_law_204, SHF, PF, e1, e2, e3, e4, e5, b1, b2, b3, b4, b5, h1, h2]
theorem st_1 (hN : i + 6 ≤ N) (hN2 : N < 2147483648) (hR : zRel I L f g) : ∃ I2 L2 f2 g2 t2, zRel I2 L2 f2 g2 ∧ ∀ d Q, zWp (d + 100) zi_217 (some (N, X)) 237 [.ref 1000000, .ref 0, .ref 80, .int (nI i)] [] (zSH, I, L, zP f g t) Q = zWp (d + 100) zi_217 (some (N, X)) 1332 [.ref 1000000, .ref 0, .ref 80, .int (nI i)] [] (zSH, I2, L2, zP f2 g2 t2) Q := by
  obtain ⟨r, I1, L1, f1, g1, t1, I2, L2, h1, h2, hR2, v1, v2⟩ := op_unbuild (t := t) hR 
  obtain ⟨v, rfl⟩ := v1 (by decide)
  refine ⟨I2, L2, f1, g1, t1, hR2, fun d Q => ?_⟩
  have b1 : i + 1 < N := by omega
  have e1 : nI i + 1 = nI (i + 1) := zi_ak i 1
  have b2 : i + 2 < N := by omega
  have e2 : nI i + 2 = nI (i + 2) := zi_ak i 2
  have b3 : i + 3 < N := by omega
  have e3 : nI i + 3 = nI (i + 3) := zi_ak i 3
  have b4 : i + 4 < N := by omega
  have e4 : nI i + 4 = nI (i + 4) := zi_ak i 4
  have b5 : i + 5 < N := by omega
  have e5 : nI i + 5 = nI (i + 5) := zi_ak i 5
  simp (disch := first | assumption | rfl | omega | decide | exact zb_01 _) only [zabs_e, zmax_e, zmin_e, zrf_s, zpush_s, zpush_n, zw_app, upd_app, updL_app, Nat.reduceEqDiff, Nat.add_left_cancel_iff, Nat.add_eq_left, Nat.left_eq_add, ↓reduceIte, true_and, and_true, Int32.reduceToNatClampNeg, zin_O, zi_ltO, zi_leO, zi_Olt, zi_Ole, zi_eqO, Nat.not_lt_zero, Nat.zero_le, List.append_nil, zrn_n, zrn_s, List.cons_append, List.nil_append, zlg_lt, zlg_gt, zlg_le, zlg_ge, zlg_eq, Int32.toInt_toInt64, Int64.reduceToInt, zw_zw, zw_sw1, zw_sw2, zw_sw3, zw_sw4, zw_sw5, zw_sw6, zw_sw7, ne_eq, zi_in, zi_cl, zi_le, zi_lt, zi_eq, zi_neg, zi_0le, zb_0, if_true, if_false, eq_self, zb_T, zb_F, Bool.false_eq_true, zO_eq, zO_ne1, zO_ne2, zO_nn, zi_ne1, zi_ne2, zi_lt1, zi_le1, zi_lt2, zi_le2, Int32.reduceLT, Int32.reduceLE, Nat.reduceLT, Nat.reduceLeDiff, Int32.reduceMul, Int32.reduceAdd, Int32.reduceSub, not_false_eq_true, not_true_eq_false, Int32.reduceToInt, Int.reduceLE, Int.reduceLT, Int.reduceNeg, ite_self, R_law_237, SHF, PF, e1, e2, e3, e4, e5, b1, b2, b3, b4, b5, h1, h2]
theorem st_2 (hN : i + 6 ≤ N) (hN2 : N < 2147483648) (hR : zRel I L f g) : ∃ I2 L2 f2 g2 t2, zRel I2 L2 f2 g2 ∧ ∀ d Q, zWp (d + 100) zi_217 (some (N, X)) 250 [.ref 1000000, .ref 0, .ref 80, .int (nI i)] [] (zSH, I, L, zP f g t) Q = zWp (d + 100) zi_217 (some (N, X)) 1332 [.ref 1000000, .ref 0, .ref 80, .int (nI i)] [] (zSH, I2, L2, zP f2 g2 t2) Q := by
  obtain ⟨r, I1, L1, f1, g1, t1, I2, L2, h1, h2, hR2, v1, v2⟩ := op_rounds (t := t) hR (X (i + 1)) (X (i + 2)) (X (i + 3))
  obtain ⟨v, rfl⟩ := v1 (by decide)
  refine ⟨I2, L2, f1, g1, t1, hR2, fun d Q => ?_⟩
  have b1 : i + 1 < N := by omega
  have e1 : nI i + 1 = nI (i + 1) := zi_ak i 1
  have b2 : i + 2 < N := by omega
  have e2 : nI i + 2 = nI (i + 2) := zi_ak i 2
  have b3 : i + 3 < N := by omega
  have e3 : nI i + 3 = nI (i + 3) := zi_ak i 3
  have b4 : i + 4 < N := by omega
  have e4 : nI i + 4 = nI (i + 4) := zi_ak i 4
  have b5 : i + 5 < N := by omega
  have e5 : nI i + 5 = nI (i + 5) := zi_ak i 5
  simp (disch := first | assumption | rfl | omega | decide | exact zb_01 _) only [zabs_e, zmax_e, zmin_e, zrf_s, zpush_s, zpush_n, zw_app, upd_app, updL_app, Nat.reduceEqDiff, Nat.add_left_cancel_iff, Nat.add_eq_left, Nat.left_eq_add, ↓reduceIte, true_and, and_true, Int32.reduceToNatClampNeg, zin_O, zi_ltO, zi_leO, zi_Olt, zi_Ole, zi_eqO, Nat.not_lt_zero, Nat.zero_le, List.append_nil, zrn_n, zrn_s, List.cons_append, List.nil_append, zlg_lt, zlg_gt, zlg_le, zlg_ge, zlg_eq, Int32.toInt_toInt64, Int64.reduceToInt, zw_zw, zw_sw1, zw_sw2, zw_sw3, zw_sw4, zw_sw5, zw_sw6, zw_sw7, ne_eq, zi_in, zi_cl, zi_le, zi_lt, zi_eq, zi_neg, zi_0le, zb_0, if_true, if_false, eq_self, zb_T, zb_F, Bool.false_eq_true, zO_eq, zO_ne1, zO_ne2, zO_nn, zi_ne1, zi_ne2, zi_lt1, zi_le1, zi_lt2, zi_le2, Int32.reduceLT, Int32.reduceLE, Nat.reduceLT, Nat.reduceLeDiff, Int32.reduceMul, Int32.reduceAdd, Int32.reduceSub, not_false_eq_true, not_true_eq_false, Int32.reduceToInt, Int.reduceLE, Int.reduceLT, Int.reduceNeg, ite_self, R_law_250, SHF, PF, e1, e2, e3, e4, e5, b1, b2, b3, b4, b5, h1, h2]
theorem st_3 (hN : i + 6 ≤ N) (hN2 : N < 2147483648) (hR : zRel I L f g) : ∃ I2 L2 f2 g2 t2, zRel I2 L2 f2 g2 ∧ ∀ d Q, zWp (d + 100) zi_217 (some (N, X)) 293 [.ref 1000000, .ref 0, .ref 80, .int (nI i)] [] (zSH, I, L, zP f g t) Q = zWp (d + 100) zi_217 (some (N, X)) 1332 [.ref 1000000, .ref 0, .ref 80, .int (nI i)] [] (zSH, I2, L2, zP f2 g2 t2) Q := by
  obtain ⟨r, I1, L1, f1, g1, t1, I2, L2, h1, h2, hR2, v1, v2⟩ := op_pane (t := t) hR (X (i + 1))
  obtain ⟨v, rfl⟩ := v1 (by decide)
  refine ⟨I2, L2, f1, g1, t1, hR2, fun d Q => ?_⟩
  have b1 : i + 1 < N := by omega
  have e1 : nI i + 1 = nI (i + 1) := zi_ak i 1
  have b2 : i + 2 < N := by omega
  have e2 : nI i + 2 = nI (i + 2) := zi_ak i 2
  have b3 : i + 3 < N := by omega
  have e3 : nI i + 3 = nI (i + 3) := zi_ak i 3
  have b4 : i + 4 < N := by omega
  have e4 : nI i + 4 = nI (i + 4) := zi_ak i 4
  have b5 : i + 5 < N := by omega
  have e5 : nI i + 5 = nI (i + 5) := zi_ak i 5
  simp (disch := first | assumption | rfl | omega | decide | exact zb_01 _) only [zabs_e, zmax_e, zmin_e, zrf_s, zpush_s, zpush_n, zw_app, upd_app, updL_app, Nat.reduceEqDiff, Nat.add_left_cancel_iff, Nat.add_eq_left, Nat.left_eq_add, ↓reduceIte, true_and, and_true, Int32.reduceToNatClampNeg, zin_O, zi_ltO, zi_leO, zi_Olt, zi_Ole, zi_eqO, Nat.not_lt_zero, Nat.zero_le, List.append_nil, zrn_n, zrn_s, List.cons_append, List.nil_append, zlg_lt, zlg_gt, zlg_le, zlg_ge, zlg_eq, Int32.toInt_toInt64, Int64.reduceToInt, zw_zw, zw_sw1, zw_sw2, zw_sw3, zw_sw4, zw_sw5, zw_sw6, zw_sw7, ne_eq, zi_in, zi_cl, zi_le, zi_lt, zi_eq, zi_neg, zi_0le, zb_0, if_true, if_false, eq_self, zb_T, zb_F, Bool.false_eq_true, zO_eq, zO_ne1, zO_ne2, zO_nn, zi_ne1, zi_ne2, zi_lt1, zi_le1, zi_lt2, zi_le2, Int32.reduceLT, Int32.reduceLE, Nat.reduceLT, Nat.reduceLeDiff, Int32.reduceMul, Int32.reduceAdd, Int32.reduceSub, not_false_eq_true, not_true_eq_false, Int32.reduceToInt, Int.reduceLE, Int.reduceLT, Int.reduceNeg, ite_self, R_law_293, SHF, PF, e1, e2, e3, e4, e5, b1, b2, b3, b4, b5, h1, h2]
theorem st_4 (hN : i + 6 ≤ N) (hN2 : N < 2147483648) (hR : zRel I L f g) : ∃ I2 L2 f2 g2 t2, zRel I2 L2 f2 g2 ∧ ∀ d Q, zWp (d + 100) zi_217 (some (N, X)) 316 [.ref 1000000, .ref 0, .ref 80, .int (nI i)] [] (zSH, I, L, zP f g t) Q = zWp (d + 100) zi_217 (some (N, X)) 1332 [.ref 1000000, .ref 0, .ref 80, .int (nI i)] [] (zSH, I2, L2, zP f2 g2 t2) Q := by
  obtain ⟨r, I1, L1, f1, g1, t1, I2, L2, h1, h2, hR2, v1, v2⟩ := op_mend (t := t) hR (X (i + 1)) (X (i + 2)) (X (i + 3))
  obtain ⟨v, rfl⟩ := v1 (by decide)
  refine ⟨I2, L2, f1, g1, t1, hR2, fun d Q => ?_⟩
  have b1 : i + 1 < N := by omega
  have e1 : nI i + 1 = nI (i + 1) := zi_ak i 1
  have b2 : i + 2 < N := by omega
  have e2 : nI i + 2 = nI (i + 2) := zi_ak i 2
  have b3 : i + 3 < N := by omega
  have e3 : nI i + 3 = nI (i + 3) := zi_ak i 3
  have b4 : i + 4 < N := by omega
  have e4 : nI i + 4 = nI (i + 4) := zi_ak i 4
  have b5 : i + 5 < N := by omega
  have e5 : nI i + 5 = nI (i + 5) := zi_ak i 5
  simp (disch := first | assumption | rfl | omega | decide | exact zb_01 _) only [zabs_e, zmax_e, zmin_e, zrf_s, zpush_s, zpush_n, zw_app, upd_app, updL_app, Nat.reduceEqDiff, Nat.add_left_cancel_iff, Nat.add_eq_left, Nat.left_eq_add, ↓reduceIte, true_and, and_true, Int32.reduceToNatClampNeg, zin_O, zi_ltO, zi_leO, zi_Olt, zi_Ole, zi_eqO, Nat.not_lt_zero, Nat.zero_le, List.append_nil, zrn_n, zrn_s, List.cons_append, List.nil_append, zlg_lt, zlg_gt, zlg_le, zlg_ge, zlg_eq, Int32.toInt_toInt64, Int64.reduceToInt, zw_zw, zw_sw1, zw_sw2, zw_sw3, zw_sw4, zw_sw5, zw_sw6, zw_sw7, ne_eq, zi_in, zi_cl, zi_le, zi_lt, zi_eq, zi_neg, zi_0le, zb_0, if_true, if_false, eq_self, zb_T, zb_F, Bool.false_eq_true, zO_eq, zO_ne1, zO_ne2, zO_nn, zi_ne1, zi_ne2, zi_lt1, zi_le1, zi_lt2, zi_le2, Int32.reduceLT, Int32.reduceLE, Nat.reduceLT, Nat.reduceLeDiff, Int32.reduceMul, Int32.reduceAdd, Int32.reduceSub, not_false_eq_true, not_true_eq_false, Int32.reduceToInt, Int.reduceLE, Int.reduceLT, Int.reduceNeg, ite_self, R_law_316, SHF, PF, e1, e2, e3, e4, e5, b1, b2, b3, b4, b5, h1, h2]
theorem st_5 (hN : i + 6 ≤ N) (hN2 : N < 2147483648) (hR : zRel I L f g) : ∃ I2 L2 f2 g2 t2, zRel I2 L2 f2 g2 ∧ ∀ d Q, zWp (d + 100) zi_217 (some (N, X)) 359 [.ref 1000000, .ref 0, .ref 80, .int (nI i)] [] (zSH, I, L, zP f g t) Q = zWp (d + 100) zi_217 (some (N, X)) 1332 [.ref 1000000, .ref 0, .ref 80, .int (nI i)] [] (zSH, I2, L2, zP f2 g2 t2) Q := by
  obtain ⟨r, I1, L1, f1, g1, t1, I2, L2, h1, h2, hR2, v1, v2⟩ := op_of (t := t) hR (X (i + 1)) (X (i + 2))
  obtain ⟨v, rfl⟩ := v1 (by decide)
  refine ⟨I2, L2, f1, g1, t1, hR2, fun d Q => ?_⟩
  have b1 : i + 1 < N := by omega
  have e1 : nI i + 1 = nI (i + 1) := zi_ak i 1
  have b2 : i + 2 < N := by omega
  have e2 : nI i + 2 = nI (i + 2) := zi_ak i 2
  have b3 : i + 3 < N := by omega
  have e3 : nI i + 3 = nI (i + 3) := zi_ak i 3
  have b4 : i + 4 < N := by omega
  have e4 : nI i + 4 = nI (i + 4) := zi_ak i 4
  have b5 : i + 5 < N := by omega
  have e5 : nI i + 5 = nI (i + 5) := zi_ak i 5
  simp (disch := first | assumption | rfl | omega | decide | exact zb_01 _) only [zabs_e, zmax_e, zmin_e, zrf_s, zpush_s, zpush_n, zw_app, upd_app, updL_app, Nat.reduceEqDiff, Nat.add_left_cancel_iff, Nat.add_eq_left, Nat.left_eq_add, ↓reduceIte, true_and, and_true, Int32.reduceToNatClampNeg, zin_O, zi_ltO, zi_leO, zi_Olt, zi_Ole, zi_eqO, Nat.not_lt_zero, Nat.zero_le, List.append_nil, zrn_n, zrn_s, List.cons_append, List.nil_append, zlg_lt, zlg_gt, zlg_le, zlg_ge, zlg_eq, Int32.toInt_toInt64, Int64.reduceToInt, zw_zw, zw_sw1, zw_sw2, zw_sw3, zw_sw4, zw_sw5, zw_sw6, zw_sw7, ne_eq, zi_in, zi_cl, zi_le, zi_lt, zi_eq, zi_neg, zi_0le, zb_0, if_true, if_false, eq_self, zb_T, zb_F, Bool.false_eq_true, zO_eq, zO_ne1, zO_ne2, zO_nn, zi_ne1, zi_ne2, zi_lt1, zi_le1, zi_lt2, zi_le2, Int32.reduceLT, Int32.reduceLE, Nat.reduceLT, Nat.reduceLeDiff, Int32.reduceMul, Int32.reduceAdd, Int32.reduceSub, not_false_eq_true, not_true_eq_false, Int32.reduceToInt, Int.reduceLE, Int.reduceLT, Int.reduceNeg, ite_self, R_law_359, SHF, PF, e1, e2, e3, e4, e5, b1, b2, b3, b4, b5, h1, h2]
theorem st_6 (hN : i + 6 ≤ N) (hN2 : N < 2147483648) (hR : zRel I L f g) : ∃ I2 L2 f2 g2 t2, zRel I2 L2 f2 g2 ∧ ∀ d Q, zWp (d + 100) zi_217 (some (N, X)) 392 [.ref 1000000, .ref 0, .ref 80, .int (nI i)] [] (zSH, I, L, zP f g t) Q = zWp (d + 100) zi_217 (some (N, X)) 1332 [.ref 1000000, .ref 0, .ref 80, .int (nI i)] [] (zSH, I2, L2, zP f2 g2 t2) Q := by
  obtain ⟨r, I1, L1, f1, g1, t1, I2, L2, h1, h2, hR2, v1, v2⟩ := op_feed (t := t) hR (X (i + 1))
  obtain ⟨v, rfl⟩ := v1 (by decide)
  refine ⟨I2, L2, f1, g1, t1, hR2, fun d Q => ?_⟩
  have b1 : i + 1 < N := by omega
  have e1 : nI i + 1 = nI (i + 1) := zi_ak i 1
  have b2 : i + 2 < N := by omega
  have e2 : nI i + 2 = nI (i + 2) := zi_ak i 2
  have b3 : i + 3 < N := by omega
  have e3 : nI i + 3 = nI (i + 3) := zi_ak i 3
  have b4 : i + 4 < N := by omega
  have e4 : nI i + 4 = nI (i + 4) := zi_ak i 4
  have b5 : i + 5 < N := by omega
  have e5 : nI i + 5 = nI (i + 5) := zi_ak i 5
  simp (disch := first | assumption | rfl | omega | decide | exact zb_01 _) only [zabs_e, zmax_e, zmin_e, zrf_s, zpush_s, zpush_n, zw_app, upd_app, updL_app, Nat.reduceEqDiff, Nat.add_left_cancel_iff, Nat.add_eq_left, Nat.left_eq_add, ↓reduceIte, true_and, and_true, Int32.reduceToNatClampNeg, zin_O, zi_ltO, zi_leO, zi_Olt, zi_Ole, zi_eqO, Nat.not_lt_zero, Nat.zero_le, List.append_nil, zrn_n, zrn_s, List.cons_append, List.nil_append, zlg_lt, zlg_gt, zlg_le, zlg_ge, zlg_eq, Int32.toInt_toInt64, Int64.reduceToInt, zw_zw, zw_sw1, zw_sw2, zw_sw3, zw_sw4, zw_sw5, zw_sw6, zw_sw7, ne_eq, zi_in, zi_cl, zi_le, zi_lt, zi_eq, zi_neg, zi_0le, zb_0, if_true, if_false, eq_self, zb_T, zb_F, Bool.false_eq_true, zO_eq, zO_ne1, zO_ne2, zO_nn, zi_ne1, zi_ne2, zi_lt1, zi_le1, zi_lt2, zi_le2, Int32.reduceLT, Int32.reduceLE, Nat.reduceLT, Nat.reduceLeDiff, Int32.reduceMul, Int32.reduceAdd, Int32.reduceSub, not_false_eq_true, not_true_eq_false, Int32.reduceToInt, Int.reduceLE, Int.reduceLT, Int.reduceNeg, ite_self, R_law_392, SHF, PF, e1, e2, e3, e4, e5, b1, b2, b3, b4, b5, h1, h2]
theorem st_7 (hN : i + 6 ≤ N) (hN2 : N < 2147483648) (hR : zRel I L f g) : ∃ I2 L2 f2 g2 t2, zRel I2 L2 f2 g2 ∧ ∀ d Q, zWp (d + 100) zi_217 (some (N, X)) 415 [.ref 1000000, .ref 0, .ref 80, .int (nI i)] [] (zSH, I, L, zP f g t) Q = zWp (d + 100) zi_217 (some (N, X)) 1332 [.ref 1000000, .ref 0, .ref 80, .int (nI i)] [] (zSH, I2, L2, zP f2 g2 t2) Q := by
  obtain ⟨r, I1, L1, f1, g1, t1, I2, L2, h1, h2, hR2, v1, v2⟩ := op_law (t := t) hR 
  obtain ⟨v, rfl⟩ := v1 (by decide)
  refine ⟨I2, L2, f1, g1, t1, hR2, fun d Q => ?_⟩
  have b1 : i + 1 < N := by omega
  have e1 : nI i + 1 = nI (i + 1) := zi_ak i 1
  have b2 : i + 2 < N := by omega
  have e2 : nI i + 2 = nI (i + 2) := zi_ak i 2
  have b3 : i + 3 < N := by omega
  have e3 : nI i + 3 = nI (i + 3) := zi_ak i 3
  have b4 : i + 4 < N := by omega
  have e4 : nI i + 4 = nI (i + 4) := zi_ak i 4
  have b5 : i + 5 < N := by omega
  have e5 : nI i + 5 = nI (i + 5) := zi_ak i 5
  simp (disch := first | assumption | rfl | omega | decide | exact zb_01 _) only [zabs_e, zmax_e, zmin_e, zrf_s, zpush_s, zpush_n, zw_app, upd_app, updL_app, Nat.reduceEqDiff, Nat.add_left_cancel_iff, Nat.add_eq_left, Nat.left_eq_add, ↓reduceIte, true_and, and_true, Int32.reduceToNatClampNeg, zin_O, zi_ltO, zi_leO, zi_Olt, zi_Ole, zi_eqO, Nat.not_lt_zero, Nat.zero_le, List.append_nil, zrn_n, zrn_s, List.cons_append, List.nil_append, zlg_lt, zlg_gt, zlg_le, zlg_ge, zlg_eq, Int32.toInt_toInt64, Int64.reduceToInt, zw_zw, zw_sw1, zw_sw2, zw_sw3, zw_sw4, zw_sw5, zw_sw6, zw_sw7, ne_eq, zi_in, zi_cl, zi_le, zi_lt, zi_eq, zi_neg, zi_0le, zb_0, if_true, if_false, eq_self, zb_T, zb_F, Bool.false_eq_true, zO_eq, zO_ne1, zO_ne2, zO_nn, zi_ne1, zi_ne2, zi_lt1, zi_le1, zi_lt2, zi_le2, Int32.reduceLT, Int32.reduceLE, Nat.reduceLT, Nat.reduceLeDiff, Int32.reduceMul, Int32.reduceAdd, Int32.reduceSub, not_false_eq_true, not_true_eq_false, Int32.reduceToInt, Int.reduceLE, Int.reduceLT, Int.reduceNeg, ite_self, R_law_415, SHF, PF, e1, e2, e3, e4, e5, b1, b2, b3, b4, b5, h1, h2]
theorem st_8 (hN : i + 6 ≤ N) (hN2 : N < 2147483648) (hR : zRel I L f g) : ∃ I2 L2 f2 g2 t2, zRel I2 L2 f2 g2 ∧ ∀ d Q, zWp (d + 100) zi_217 (some (N, X)) 428 [.ref 1000000, .ref 0, .ref 80, .int (nI i)] [] (zSH, I, L, zP f g t) Q = zWp (d + 100) zi_217 (some (N, X)) 1332 [.ref 1000000, .ref 0, .ref 80, .int (nI i)] [] (zSH, I2, L2, zP f2 g2 t2) Q := by
  obtain ⟨r, I1, L1, f1, g1, t1, I2, L2, h1, h2, hR2, v1, v2⟩ := op_falls (t := t) hR (X (i + 1))
  obtain ⟨v, rfl⟩ := v1 (by decide)
  refine ⟨I2, L2, f1, g1, t1, hR2, fun d Q => ?_⟩
  have b1 : i + 1 < N := by omega
  have e1 : nI i + 1 = nI (i + 1) := zi_ak i 1
  have b2 : i + 2 < N := by omega
  have e2 : nI i + 2 = nI (i + 2) := zi_ak i 2
  have b3 : i + 3 < N := by omega
  have e3 : nI i + 3 = nI (i + 3) := zi_ak i 3
  have b4 : i + 4 < N := by omega
  have e4 : nI i + 4 = nI (i + 4) := zi_ak i 4
  have b5 : i + 5 < N := by omega
  have e5 : nI i + 5 = nI (i + 5) := zi_ak i 5
  simp (disch := first | assumption | rfl | omega | decide | exact zb_01 _) only [zabs_e, zmax_e, zmin_e, zrf_s, zpush_s, zpush_n, zw_app, upd_app, updL_app, Nat.reduceEqDiff, Nat.add_left_cancel_iff, Nat.add_eq_left, Nat.left_eq_add, ↓reduceIte, true_and, and_true, Int32.reduceToNatClampNeg, zin_O, zi_ltO, zi_leO, zi_Olt, zi_Ole, zi_eqO, Nat.not_lt_zero, Nat.zero_le, List.append_nil, zrn_n, zrn_s, List.cons_append, List.nil_append, zlg_lt, zlg_gt, zlg_le, zlg_ge, zlg_eq, Int32.toInt_toInt64, Int64.reduceToInt, zw_zw, zw_sw1, zw_sw2, zw_sw3, zw_sw4, zw_sw5, zw_sw6, zw_sw7, ne_eq, zi_in, zi_cl, zi_le, zi_lt, zi_eq, zi_neg, zi_0le, zb_0, if_true, if_false, eq_self, zb_T, zb_F, Bool.false_eq_true, zO_eq, zO_ne1, zO_ne2, zO_nn, zi_ne1, zi_ne2, zi_lt1, zi_le1, zi_lt2, zi_le2, Int32.reduceLT, Int32.reduceLE, Nat.reduceLT, Nat.reduceLeDiff, Int32.reduceMul, Int32.reduceAdd, Int32.reduceSub, not_false_eq_true, not_true_eq_false, Int32.reduceToInt, Int.reduceLE, Int.reduceLT, Int.reduceNeg, ite_self, R_law_428, SHF, PF, e1, e2, e3, e4, e5, b1, b2, b3, b4, b5, h1, h2]
theorem st_9 (hN : i + 6 ≤ N) (hN2 : N < 2147483648) (hR : zRel I L f g) : ∃ I2 L2 f2 g2 t2, zRel I2 L2 f2 g2 ∧ ∀ d Q, zWp (d + 100) zi_217 (some (N, X)) 451 [.ref 1000000, .ref 0, .ref 80, .int (nI i)] [] (zSH, I, L, zP f g t) Q = zWp (d + 100) zi_217 (some (N, X)) 1332 [.ref 1000000, .ref 0, .ref 80, .int (nI i)] [] (zSH, I2, L2, zP f2 g2 t2) Q := by
  obtain ⟨r, I1, L1, f1, g1, t1, I2, L2, h1, h2, hR2, v1, v2⟩ := op_topples (t := t) hR (X (i + 1))
  obtain ⟨v, rfl⟩ := v1 (by decide)
  refine ⟨I2, L2, f1, g1, t1, hR2, fun d Q => ?_⟩
  have b1 : i + 1 < N := by omega
  have e1 : nI i + 1 = nI (i + 1) := zi_ak i 1
  have b2 : i + 2 < N := by omega
  have e2 : nI i + 2 = nI (i + 2) := zi_ak i 2
  have b3 : i + 3 < N := by omega
  have e3 : nI i + 3 = nI (i + 3) := zi_ak i 3
  have b4 : i + 4 < N := by omega
  have e4 : nI i + 4 = nI (i + 4) := zi_ak i 4
  have b5 : i + 5 < N := by omega
  have e5 : nI i + 5 = nI (i + 5) := zi_ak i 5
  simp (disch := first | assumption | rfl | omega | decide | exact zb_01 _) only [zabs_e, zmax_e, zmin_e, zrf_s, zpush_s, zpush_n, zw_app, upd_app, updL_app, Nat.reduceEqDiff, Nat.add_left_cancel_iff, Nat.add_eq_left, Nat.left_eq_add, ↓reduceIte, true_and, and_true, Int32.reduceToNatClampNeg, zin_O, zi_ltO, zi_leO, zi_Olt, zi_Ole, zi_eqO, Nat.not_lt_zero, Nat.zero_le, List.append_nil, zrn_n, zrn_s, List.cons_append, List.nil_append, zlg_lt, zlg_gt, zlg_le, zlg_ge, zlg_eq, Int32.toInt_toInt64, Int64.reduceToInt, zw_zw, zw_sw1, zw_sw2, zw_sw3, zw_sw4, zw_sw5, zw_sw6, zw_sw7, ne_eq, zi_in, zi_cl, zi_le, zi_lt, zi_eq, zi_neg, zi_0le, zb_0, if_true, if_false, eq_self, zb_T, zb_F, Bool.false_eq_true, zO_eq, zO_ne1, zO_ne2, zO_nn, zi_ne1, zi_ne2, zi_lt1, zi_le1, zi_lt2, zi_le2, Int32.reduceLT, Int32.reduceLE, Nat.reduceLT, Nat.reduceLeDiff, Int32.reduceMul, Int32.reduceAdd, Int32.reduceSub, not_false_eq_true, not_true_eq_false, Int32.reduceToInt, Int.reduceLE, Int.reduceLT, Int.reduceNeg, ite_self, R_law_451, SHF, PF, e1, e2, e3, e4, e5, b1, b2, b3, b4, b5, h1, h2]
theorem st_10 (hN : i + 6 ≤ N) (hN2 : N < 2147483648) (hR : zRel I L f g) : ∃ I2 L2 f2 g2 t2, zRel I2 L2 f2 g2 ∧ ∀ d Q, zWp (d + 100) zi_217 (some (N, X)) 474 [.ref 1000000, .ref 0, .ref 80, .int (nI i)] [] (zSH, I, L, zP f g t) Q = zWp (d + 100) zi_217 (some (N, X)) 1332 [.ref 1000000, .ref 0, .ref 80, .int (nI i)] [] (zSH, I2, L2, zP f2 g2 t2) Q := by
  obtain ⟨r, I1, L1, f1, g1, t1, I2, L2, h1, h2, hR2, v1, v2⟩ := op_broad (t := t) hR (X (i + 1))
  obtain ⟨v, rfl⟩ := v1 (by decide)
  refine ⟨I2, L2, f1, g1, t1, hR2, fun d Q => ?_⟩
  have b1 : i + 1 < N := by omega
  have e1 : nI i + 1 = nI (i + 1) := zi_ak i 1
  have b2 : i + 2 < N := by omega
  have e2 : nI i + 2 = nI (i + 2) := zi_ak i 2
  have b3 : i + 3 < N := by omega
  have e3 : nI i + 3 = nI (i + 3) := zi_ak i 3
  have b4 : i + 4 < N := by omega
  have e4 : nI i + 4 = nI (i + 4) := zi_ak i 4
  have b5 : i + 5 < N := by omega
  have e5 : nI i + 5 = nI (i + 5) := zi_ak i 5
  simp (disch := first | assumption | rfl | omega | decide | exact zb_01 _) only [zabs_e, zmax_e, zmin_e, zrf_s, zpush_s, zpush_n, zw_app, upd_app, updL_app, Nat.reduceEqDiff, Nat.add_left_cancel_iff, Nat.add_eq_left, Nat.left_eq_add, ↓reduceIte, true_and, and_true, Int32.reduceToNatClampNeg, zin_O, zi_ltO, zi_leO, zi_Olt, zi_Ole, zi_eqO, Nat.not_lt_zero, Nat.zero_le, List.append_nil, zrn_n, zrn_s, List.cons_append, List.nil_append, zlg_lt, zlg_gt, zlg_le, zlg_ge, zlg_eq, Int32.toInt_toInt64, Int64.reduceToInt, zw_zw, zw_sw1, zw_sw2, zw_sw3, zw_sw4, zw_sw5, zw_sw6, zw_sw7, ne_eq, zi_in, zi_cl, zi_le, zi_lt, zi_eq, zi_neg, zi_0le, zb_0, if_true, if_false, eq_self, zb_T, zb_F, Bool.false_eq_true, zO_eq, zO_ne1, zO_ne2, zO_nn, zi_ne1, zi_ne2, zi_lt1, zi_le1, zi_lt2, zi_le2, Int32.reduceLT, Int32.reduceLE, Nat.reduceLT, Nat.reduceLeDiff, Int32.reduceMul, Int32.reduceAdd, Int32.reduceSub, not_false_eq_true, not_true_eq_false, Int32.reduceToInt, Int.reduceLE, Int.reduceLT, Int.reduceNeg, ite_self, R_law_474, SHF, PF, e1, e2, e3, e4, e5, b1, b2, b3, b4, b5, h1, h2]
theorem st_11 (hN : i + 6 ≤ N) (hN2 : N < 2147483648) (hR : zRel I L f g) : ∃ I2 L2 f2 g2 t2, zRel I2 L2 f2 g2 ∧ ∀ d Q, zWp (d + 100) zi_217 (some (N, X)) 497 [.ref 1000000, .ref 0, .ref 80, .int (nI i)] [] (zSH, I, L, zP f g t) Q = zWp (d + 100) zi_217 (some (N, X)) 1332 [.ref 1000000, .ref 0, .ref 80, .int (nI i)] [] (zSH, I2, L2, zP f2 g2 t2) Q := by
  obtain ⟨r, I1, L1, f1, g1, t1, I2, L2, h1, h2, hR2, v1, v2⟩ := op_straight (t := t) hR (X (i + 1)) (X (i + 2))
  obtain ⟨v, rfl⟩ := v1 (by decide)
  refine ⟨I2, L2, f1, g1, t1, hR2, fun d Q => ?_⟩
  have b1 : i + 1 < N := by omega
  have e1 : nI i + 1 = nI (i + 1) := zi_ak i 1
  have b2 : i + 2 < N := by omega
  have e2 : nI i + 2 = nI (i + 2) := zi_ak i 2
  have b3 : i + 3 < N := by omega
  have e3 : nI i + 3 = nI (i + 3) := zi_ak i 3
  have b4 : i + 4 < N := by omega
  have e4 : nI i + 4 = nI (i + 4) := zi_ak i 4
  have b5 : i + 5 < N := by omega
  have e5 : nI i + 5 = nI (i + 5) := zi_ak i 5
  simp (disch := first | assumption | rfl | omega | decide | exact zb_01 _) only [zabs_e, zmax_e, zmin_e, zrf_s, zpush_s, zpush_n, zw_app, upd_app, updL_app, Nat.reduceEqDiff, Nat.add_left_cancel_iff, Nat.add_eq_left, Nat.left_eq_add, ↓reduceIte, true_and, and_true, Int32.reduceToNatClampNeg, zin_O, zi_ltO, zi_leO, zi_Olt, zi_Ole, zi_eqO, Nat.not_lt_zero, Nat.zero_le, List.append_nil, zrn_n, zrn_s, List.cons_append, List.nil_append, zlg_lt, zlg_gt, zlg_le, zlg_ge, zlg_eq, Int32.toInt_toInt64, Int64.reduceToInt, zw_zw, zw_sw1, zw_sw2, zw_sw3, zw_sw4, zw_sw5, zw_sw6, zw_sw7, ne_eq, zi_in, zi_cl, zi_le, zi_lt, zi_eq, zi_neg, zi_0le, zb_0, if_true, if_false, eq_self, zb_T, zb_F, Bool.false_eq_true, zO_eq, zO_ne1, zO_ne2, zO_nn, zi_ne1, zi_ne2, zi_lt1, zi_le1, zi_lt2, zi_le2, Int32.reduceLT, Int32.reduceLE, Nat.reduceLT, Nat.reduceLeDiff, Int32.reduceMul, Int32.reduceAdd, Int32.reduceSub, not_false_eq_true, not_true_eq_false, Int32.reduceToInt, Int.reduceLE, Int.reduceLT, Int.reduceNeg, ite_self, R_law_497, SHF, PF, e1, e2, e3, e4, e5, b1, b2, b3, b4, b5, h1, h2]
theorem st_12 (hN : i + 6 ≤ N) (hN2 : N < 2147483648) (hR : zRel I L f g) : ∃ I2 L2 f2 g2 t2, zRel I2 L2 f2 g2 ∧ ∀ d Q, zWp (d + 100) zi_217 (some (N, X)) 530 [.ref 1000000, .ref 0, .ref 80, .int (nI i)] [] (zSH, I, L, zP f g t) Q = zWp (d + 100) zi_217 (some (N, X)) 1332 [.ref 1000000, .ref 0, .ref 80, .int (nI i)] [] (zSH, I2, L2, zP f2 g2 t2) Q := by
  obtain ⟨r, I1, L1, f1, g1, t1, I2, L2, h1, h2, hR2, v1, v2⟩ := op_without (t := t) hR 
  obtain ⟨v, rfl⟩ := v1 (by decide)
  refine ⟨I2, L2, f1, g1, t1, hR2, fun d Q => ?_⟩
  have b1 : i + 1 < N := by omega
  have e1 : nI i + 1 = nI (i + 1) := zi_ak i 1
  have b2 : i + 2 < N := by omega
  have e2 : nI i + 2 = nI (i + 2) := zi_ak i 2
  have b3 : i + 3 < N := by omega
  have e3 : nI i + 3 = nI (i + 3) := zi_ak i 3
  have b4 : i + 4 < N := by omega
  have e4 : nI i + 4 = nI (i + 4) := zi_ak i 4
  have b5 : i + 5 < N := by omega
  have e5 : nI i + 5 = nI (i + 5) := zi_ak i 5
  simp (disch := first | assumption | rfl | omega | decide | exact zb_01 _) only [zabs_e, zmax_e, zmin_e, zrf_s, zpush_s, zpush_n, zw_app, upd_app, updL_app, Nat.reduceEqDiff, Nat.add_left_cancel_iff, Nat.add_eq_left, Nat.left_eq_add, ↓reduceIte, true_and, and_true, Int32.reduceToNatClampNeg, zin_O, zi_ltO, zi_leO, zi_Olt, zi_Ole, zi_eqO, Nat.not_lt_zero, Nat.zero_le, List.append_nil, zrn_n, zrn_s, List.cons_append, List.nil_append, zlg_lt, zlg_gt, zlg_le, zlg_ge, zlg_eq, Int32.toInt_toInt64, Int64.reduceToInt, zw_zw, zw_sw1, zw_sw2, zw_sw3, zw_sw4, zw_sw5, zw_sw6, zw_sw7, ne_eq, zi_in, zi_cl, zi_le, zi_lt, zi_eq, zi_neg, zi_0le, zb_0, if_true, if_false, eq_self, zb_T, zb_F, Bool.false_eq_true, zO_eq, zO_ne1, zO_ne2, zO_nn, zi_ne1, zi_ne2, zi_lt1, zi_le1, zi_lt2, zi_le2, Int32.reduceLT, Int32.reduceLE, Nat.reduceLT, Nat.reduceLeDiff, Int32.reduceMul, Int32.reduceAdd, Int32.reduceSub, not_false_eq_true, not_true_eq_false, Int32.reduceToInt, Int.reduceLE, Int.reduceLT, Int.reduceNeg, ite_self, R_law_530, SHF, PF, e1, e2, e3, e4, e5, b1, b2, b3, b4, b5, h1, h2]
theorem st_13 (hN : i + 6 ≤ N) (hN2 : N < 2147483648) (hR : zRel I L f g) : ∃ I2 L2 f2 g2 t2, zRel I2 L2 f2 g2 ∧ ∀ d Q, zWp (d + 100) zi_217 (some (N, X)) 543 [.ref 1000000, .ref 0, .ref 80, .int (nI i)] [] (zSH, I, L, zP f g t) Q = zWp (d + 100) zi_217 (some (N, X)) 1332 [.ref 1000000, .ref 0, .ref 80, .int (nI i)] [] (zSH, I2, L2, zP f2 g2 t2) Q := by
  obtain ⟨r, I1, L1, f1, g1, t1, I2, L2, h1, h2, hR2, v1, v2⟩ := op_highest (t := t) hR 
  obtain ⟨v, rfl⟩ := v1 (by decide)
  refine ⟨I2, L2, f1, g1, t1, hR2, fun d Q => ?_⟩
  have b1 : i + 1 < N := by omega
  have e1 : nI i + 1 = nI (i + 1) := zi_ak i 1
  have b2 : i + 2 < N := by omega
  have e2 : nI i + 2 = nI (i + 2) := zi_ak i 2
  have b3 : i + 3 < N := by omega
  have e3 : nI i + 3 = nI (i + 3) := zi_ak i 3
  have b4 : i + 4 < N := by omega
  have e4 : nI i + 4 = nI (i + 4) := zi_ak i 4
  have b5 : i + 5 < N := by omega
  have e5 : nI i + 5 = nI (i + 5) := zi_ak i 5
  simp (disch := first | assumption | rfl | omega | decide | exact zb_01 _) only [zabs_e, zmax_e, zmin_e, zrf_s, zpush_s, zpush_n, zw_app, upd_app, updL_app, Nat.reduceEqDiff, Nat.add_left_cancel_iff, Nat.add_eq_left, Nat.left_eq_add, ↓reduceIte, true_and, and_true, Int32.reduceToNatClampNeg, zin_O, zi_ltO, zi_leO, zi_Olt, zi_Ole, zi_eqO, Nat.not_lt_zero, Nat.zero_le, List.append_nil, zrn_n, zrn_s, List.cons_append, List.nil_append, zlg_lt, zlg_gt, zlg_le, zlg_ge, zlg_eq, Int32.toInt_toInt64, Int64.reduceToInt, zw_zw, zw_sw1, zw_sw2, zw_sw3, zw_sw4, zw_sw5, zw_sw6, zw_sw7, ne_eq, zi_in, zi_cl, zi_le, zi_lt, zi_eq, zi_neg, zi_0le, zb_0, if_true, if_false, eq_self, zb_T, zb_F, Bool.false_eq_true, zO_eq, zO_ne1, zO_ne2, zO_nn, zi_ne1, zi_ne2, zi_lt1, zi_le1, zi_lt2, zi_le2, Int32.reduceLT, Int32.reduceLE, Nat.reduceLT, Nat.reduceLeDiff, Int32.reduceMul, Int32.reduceAdd, Int32.reduceSub, not_false_eq_true, not_true_eq_false, Int32.reduceToInt, Int.reduceLE, Int.reduceLT, Int.reduceNeg, ite_self, R_law_543, SHF, PF, e1, e2, e3, e4, e5, b1, b2, b3, b4, b5, h1, h2]
theorem st_14 (hN : i + 6 ≤ N) (hN2 : N < 2147483648) (hR : zRel I L f g) : ∃ I2 L2 f2 g2 t2, zRel I2 L2 f2 g2 ∧ ∀ d Q, zWp (d + 100) zi_217 (some (N, X)) 556 [.ref 1000000, .ref 0, .ref 80, .int (nI i)] [] (zSH, I, L, zP f g t) Q = zWp (d + 100) zi_217 (some (N, X)) 1332 [.ref 1000000, .ref 0, .ref 80, .int (nI i)] [] (zSH, I2, L2, zP f2 g2 t2) Q := by
  obtain ⟨r, I1, L1, f1, g1, t1, I2, L2, h1, h2, hR2, v1, v2⟩ := op_fuel (t := t) hR (X (i + 1)) (X (i + 2))
  obtain ⟨v, rfl⟩ := v1 (by decide)
  refine ⟨I2, L2, f1, g1, t1, hR2, fun d Q => ?_⟩
  have b1 : i + 1 < N := by omega
  have e1 : nI i + 1 = nI (i + 1) := zi_ak i 1
  have b2 : i + 2 < N := by omega
  have e2 : nI i + 2 = nI (i + 2) := zi_ak i 2
  have b3 : i + 3 < N := by omega
  have e3 : nI i + 3 = nI (i + 3) := zi_ak i 3
  have b4 : i + 4 < N := by omega
  have e4 : nI i + 4 = nI (i + 4) := zi_ak i 4
  have b5 : i + 5 < N := by omega
  have e5 : nI i + 5 = nI (i + 5) := zi_ak i 5
  simp (disch := first | assumption | rfl | omega | decide | exact zb_01 _) only [zabs_e, zmax_e, zmin_e, zrf_s, zpush_s, zpush_n, zw_app, upd_app, updL_app, Nat.reduceEqDiff, Nat.add_left_cancel_iff, Nat.add_eq_left, Nat.left_eq_add, ↓reduceIte, true_and, and_true, Int32.reduceToNatClampNeg, zin_O, zi_ltO, zi_leO, zi_Olt, zi_Ole, zi_eqO, Nat.not_lt_zero, Nat.zero_le, List.append_nil, zrn_n, zrn_s, List.cons_append, List.nil_append, zlg_lt, zlg_gt, zlg_le, zlg_ge, zlg_eq, Int32.toInt_toInt64, Int64.reduceToInt, zw_zw, zw_sw1, zw_sw2, zw_sw3, zw_sw4, zw_sw5, zw_sw6, zw_sw7, ne_eq, zi_in, zi_cl, zi_le, zi_lt, zi_eq, zi_neg, zi_0le, zb_0, if_true, if_false, eq_self, zb_T, zb_F, Bool.false_eq_true, zO_eq, zO_ne1, zO_ne2, zO_nn, zi_ne1, zi_ne2, zi_lt1, zi_le1, zi_lt2, zi_le2, Int32.reduceLT, Int32.reduceLE, Nat.reduceLT, Nat.reduceLeDiff, Int32.reduceMul, Int32.reduceAdd, Int32.reduceSub, not_false_eq_true, not_true_eq_false, Int32.reduceToInt, Int.reduceLE, Int.reduceLT, Int.reduceNeg, ite_self, R_law_556, SHF, PF, e1, e2, e3, e4, e5, b1, b2, b3, b4, b5, h1, h2]
theorem st_15 (hN : i + 6 ≤ N) (hN2 : N < 2147483648) (hR : zRel I L f g) : ∃ I2 L2 f2 g2 t2, zRel I2 L2 f2 g2 ∧ ∀ d Q, zWp (d + 100) zi_217 (some (N, X)) 589 [.ref 1000000, .ref 0, .ref 80, .int (nI i)] [] (zSH, I, L, zP f g t) Q = zWp (d + 100) zi_217 (some (N, X)) 1332 [.ref 1000000, .ref 0, .ref 80, .int (nI i)] [] (zSH, I2, L2, zP f2 g2 t2) Q := by
  obtain ⟨r, I1, L1, f1, g1, t1, I2, L2, h1, h2, hR2, v1, v2⟩ := op_burns (t := t) hR (X (i + 1))
  obtain ⟨v, rfl⟩ := v1 (by decide)
  refine ⟨I2, L2, f1, g1, t1, hR2, fun d Q => ?_⟩
  have b1 : i + 1 < N := by omega
  have e1 : nI i + 1 = nI (i + 1) := zi_ak i 1
  have b2 : i + 2 < N := by omega
  have e2 : nI i + 2 = nI (i + 2) := zi_ak i 2
  have b3 : i + 3 < N := by omega
  have e3 : nI i + 3 = nI (i + 3) := zi_ak i 3
  have b4 : i + 4 < N := by omega
  have e4 : nI i + 4 = nI (i + 4) := zi_ak i 4
  have b5 : i + 5 < N := by omega
  have e5 : nI i + 5 = nI (i + 5) := zi_ak i 5
  simp (disch := first | assumption | rfl | omega | decide | exact zb_01 _) only [zabs_e, zmax_e, zmin_e, zrf_s, zpush_s, zpush_n, zw_app, upd_app, updL_app, Nat.reduceEqDiff, Nat.add_left_cancel_iff, Nat.add_eq_left, Nat.left_eq_add, ↓reduceIte, true_and, and_true, Int32.reduceToNatClampNeg, zin_O, zi_ltO, zi_leO, zi_Olt, zi_Ole, zi_eqO, Nat.not_lt_zero, Nat.zero_le, List.append_nil, zrn_n, zrn_s, List.cons_append, List.nil_append, zlg_lt, zlg_gt, zlg_le, zlg_ge, zlg_eq, Int32.toInt_toInt64, Int64.reduceToInt, zw_zw, zw_sw1, zw_sw2, zw_sw3, zw_sw4, zw_sw5, zw_sw6, zw_sw7, ne_eq, zi_in, zi_cl, zi_le, zi_lt, zi_eq, zi_neg, zi_0le, zb_0, if_true, if_false, eq_self, zb_T, zb_F, Bool.false_eq_true, zO_eq, zO_ne1, zO_ne2, zO_nn, zi_ne1, zi_ne2, zi_lt1, zi_le1, zi_lt2, zi_le2, Int32.reduceLT, Int32.reduceLE, Nat.reduceLT, Nat.reduceLeDiff, Int32.reduceMul, Int32.reduceAdd, Int32.reduceSub, not_false_eq_true, not_true_eq_false, Int32.reduceToInt, Int.reduceLE, Int.reduceLT, Int.reduceNeg, ite_self, R_law_589, SHF, PF, e1, e2, e3, e4, e5, b1, b2, b3, b4, b5, h1, h2]
theorem st_16 (hN : i + 6 ≤ N) (hN2 : N < 2147483648) (hR : zRel I L f g) : ∃ I2 L2 f2 g2 t2, zRel I2 L2 f2 g2 ∧ ∀ d Q, zWp (d + 100) zi_217 (some (N, X)) 612 [.ref 1000000, .ref 0, .ref 80, .int (nI i)] [] (zSH, I, L, zP f g t) Q = zWp (d + 100) zi_217 (some (N, X)) 1332 [.ref 1000000, .ref 0, .ref 80, .int (nI i)] [] (zSH, I2, L2, zP f2 g2 t2) Q := by
  obtain ⟨r, I1, L1, f1, g1, t1, I2, L2, h1, h2, hR2, v1, v2⟩ := op_heat (t := t) hR (X (i + 1)) (X (i + 2))
  obtain ⟨v, rfl⟩ := v1 (by decide)
  refine ⟨I2, L2, f1, g1, t1, hR2, fun d Q => ?_⟩
  have b1 : i + 1 < N := by omega
  have e1 : nI i + 1 = nI (i + 1) := zi_ak i 1
  have b2 : i + 2 < N := by omega
  have e2 : nI i + 2 = nI (i + 2) := zi_ak i 2
  have b3 : i + 3 < N := by omega
  have e3 : nI i + 3 = nI (i + 3) := zi_ak i 3
  have b4 : i + 4 < N := by omega
  have e4 : nI i + 4 = nI (i + 4) := zi_ak i 4
  have b5 : i + 5 < N := by omega
  have e5 : nI i + 5 = nI (i + 5) := zi_ak i 5
  simp (disch := first | assumption | rfl | omega | decide | exact zb_01 _) only [zabs_e, zmax_e, zmin_e, zrf_s, zpush_s, zpush_n, zw_app, upd_app, updL_app, Nat.reduceEqDiff, Nat.add_left_cancel_iff, Nat.add_eq_left, Nat.left_eq_add, ↓reduceIte, true_and, and_true, Int32.reduceToNatClampNeg, zin_O, zi_ltO, zi_leO, zi_Olt, zi_Ole, zi_eqO, Nat.not_lt_zero, Nat.zero_le, List.append_nil, zrn_n, zrn_s, List.cons_append, List.nil_append, zlg_lt, zlg_gt, zlg_le, zlg_ge, zlg_eq, Int32.toInt_toInt64, Int64.reduceToInt, zw_zw, zw_sw1, zw_sw2, zw_sw3, zw_sw4, zw_sw5, zw_sw6, zw_sw7, ne_eq, zi_in, zi_cl, zi_le, zi_lt, zi_eq, zi_neg, zi_0le, zb_0, if_true, if_false, eq_self, zb_T, zb_F, Bool.false_eq_true, zO_eq, zO_ne1, zO_ne2, zO_nn, zi_ne1, zi_ne2, zi_lt1, zi_le1, zi_lt2, zi_le2, Int32.reduceLT, Int32.reduceLE, Nat.reduceLT, Nat.reduceLeDiff, Int32.reduceMul, Int32.reduceAdd, Int32.reduceSub, not_false_eq_true, not_true_eq_false, Int32.reduceToInt, Int.reduceLE, Int.reduceLT, Int.reduceNeg, ite_self, R_law_612, SHF, PF, e1, e2, e3, e4, e5, b1, b2, b3, b4, b5, h1, h2]
theorem st_17 (hN : i + 6 ≤ N) (hN2 : N < 2147483648) (hR : zRel I L f g) : ∃ I2 L2 f2 g2 t2, zRel I2 L2 f2 g2 ∧ ∀ d Q, zWp (d + 100) zi_217 (some (N, X)) 645 [.ref 1000000, .ref 0, .ref 80, .int (nI i)] [] (zSH, I, L, zP f g t) Q = zWp (d + 100) zi_217 (some (N, X)) 1332 [.ref 1000000, .ref 0, .ref 80, .int (nI i)] [] (zSH, I2, L2, zP f2 g2 t2) Q := by
  obtain ⟨r, I1, L1, f1, g1, t1, I2, L2, h1, h2, hR2, v1, v2⟩ := op_cracks (t := t) hR (X (i + 1)) (X (i + 2))
  obtain ⟨v, rfl⟩ := v1 (by decide)
  refine ⟨I2, L2, f1, g1, t1, hR2, fun d Q => ?_⟩
  have b1 : i + 1 < N := by omega
  have e1 : nI i + 1 = nI (i + 1) := zi_ak i 1
  have b2 : i + 2 < N := by omega
  have e2 : nI i + 2 = nI (i + 2) := zi_ak i 2
  have b3 : i + 3 < N := by omega
  have e3 : nI i + 3 = nI (i + 3) := zi_ak i 3
  have b4 : i + 4 < N := by omega
  have e4 : nI i + 4 = nI (i + 4) := zi_ak i 4
  have b5 : i + 5 < N := by omega
  have e5 : nI i + 5 = nI (i + 5) := zi_ak i 5
  simp (disch := first | assumption | rfl | omega | decide | exact zb_01 _) only [zabs_e, zmax_e, zmin_e, zrf_s, zpush_s, zpush_n, zw_app, upd_app, updL_app, Nat.reduceEqDiff, Nat.add_left_cancel_iff, Nat.add_eq_left, Nat.left_eq_add, ↓reduceIte, true_and, and_true, Int32.reduceToNatClampNeg, zin_O, zi_ltO, zi_leO, zi_Olt, zi_Ole, zi_eqO, Nat.not_lt_zero, Nat.zero_le, List.append_nil, zrn_n, zrn_s, List.cons_append, List.nil_append, zlg_lt, zlg_gt, zlg_le, zlg_ge, zlg_eq, Int32.toInt_toInt64, Int64.reduceToInt, zw_zw, zw_sw1, zw_sw2, zw_sw3, zw_sw4, zw_sw5, zw_sw6, zw_sw7, ne_eq, zi_in, zi_cl, zi_le, zi_lt, zi_eq, zi_neg, zi_0le, zb_0, if_true, if_false, eq_self, zb_T, zb_F, Bool.false_eq_true, zO_eq, zO_ne1, zO_ne2, zO_nn, zi_ne1, zi_ne2, zi_lt1, zi_le1, zi_lt2, zi_le2, Int32.reduceLT, Int32.reduceLE, Nat.reduceLT, Nat.reduceLeDiff, Int32.reduceMul, Int32.reduceAdd, Int32.reduceSub, not_false_eq_true, not_true_eq_false, Int32.reduceToInt, Int.reduceLE, Int.reduceLT, Int.reduceNeg, ite_self, R_law_645, SHF, PF, e1, e2, e3, e4, e5, b1, b2, b3, b4, b5, h1, h2]
theorem st_18 (hN : i + 6 ≤ N) (hN2 : N < 2147483648) (hR : zRel I L f g) : ∃ I2 L2 f2 g2 t2, zRel I2 L2 f2 g2 ∧ ∀ d Q, zWp (d + 100) zi_217 (some (N, X)) 678 [.ref 1000000, .ref 0, .ref 80, .int (nI i)] [] (zSH, I, L, zP f g t) Q = zWp (d + 100) zi_217 (some (N, X)) 1332 [.ref 1000000, .ref 0, .ref 80, .int (nI i)] [] (zSH, I2, L2, zP f2 g2 t2) Q := by
  obtain ⟨r, I1, L1, f1, g1, t1, I2, L2, h1, h2, hR2, v1, v2⟩ := op_boarded (t := t) hR (X (i + 1))
  obtain ⟨v, rfl⟩ := v1 (by decide)
  refine ⟨I2, L2, f1, g1, t1, hR2, fun d Q => ?_⟩
  have b1 : i + 1 < N := by omega
  have e1 : nI i + 1 = nI (i + 1) := zi_ak i 1
  have b2 : i + 2 < N := by omega
  have e2 : nI i + 2 = nI (i + 2) := zi_ak i 2
  have b3 : i + 3 < N := by omega
  have e3 : nI i + 3 = nI (i + 3) := zi_ak i 3
  have b4 : i + 4 < N := by omega
  have e4 : nI i + 4 = nI (i + 4) := zi_ak i 4
  have b5 : i + 5 < N := by omega
  have e5 : nI i + 5 = nI (i + 5) := zi_ak i 5
  simp (disch := first | assumption | rfl | omega | decide | exact zb_01 _) only [zabs_e, zmax_e, zmin_e, zrf_s, zpush_s, zpush_n, zw_app, upd_app, updL_app, Nat.reduceEqDiff, Nat.add_left_cancel_iff, Nat.add_eq_left, Nat.left_eq_add, ↓reduceIte, true_and, and_true, Int32.reduceToNatClampNeg, zin_O, zi_ltO, zi_leO, zi_Olt, zi_Ole, zi_eqO, Nat.not_lt_zero, Nat.zero_le, List.append_nil, zrn_n, zrn_s, List.cons_append, List.nil_append, zlg_lt, zlg_gt, zlg_le, zlg_ge, zlg_eq, Int32.toInt_toInt64, Int64.reduceToInt, zw_zw, zw_sw1, zw_sw2, zw_sw3, zw_sw4, zw_sw5, zw_sw6, zw_sw7, ne_eq, zi_in, zi_cl, zi_le, zi_lt, zi_eq, zi_neg, zi_0le, zb_0, if_true, if_false, eq_self, zb_T, zb_F, Bool.false_eq_true, zO_eq, zO_ne1, zO_ne2, zO_nn, zi_ne1, zi_ne2, zi_lt1, zi_le1, zi_lt2, zi_le2, Int32.reduceLT, Int32.reduceLE, Nat.reduceLT, Nat.reduceLeDiff, Int32.reduceMul, Int32.reduceAdd, Int32.reduceSub, not_false_eq_true, not_true_eq_false, Int32.reduceToInt, Int.reduceLE, Int.reduceLT, Int.reduceNeg, ite_self, R_law_678, SHF, PF, e1, e2, e3, e4, e5, b1, b2, b3, b4, b5, h1, h2]
theorem st_19 (hN : i + 6 ≤ N) (hN2 : N < 2147483648) (hR : zRel I L f g) : ∃ I2 L2 f2 g2 t2, zRel I2 L2 f2 g2 ∧ ∀ d Q, zWp (d + 100) zi_217 (some (N, X)) 701 [.ref 1000000, .ref 0, .ref 80, .int (nI i)] [] (zSH, I, L, zP f g t) Q = zWp (d + 100) zi_217 (some (N, X)) 1332 [.ref 1000000, .ref 0, .ref 80, .int (nI i)] [] (zSH, I2, L2, zP f2 g2 t2) Q := by
  obtain ⟨r, I1, L1, f1, g1, t1, I2, L2, h1, h2, hR2, v1, v2⟩ := op_watch (t := t) hR (X (i + 1)) (X (i + 2))
  obtain ⟨v, rfl⟩ := v1 (by decide)
  refine ⟨I2, L2, f1, g1, t1, hR2, fun d Q => ?_⟩
  have b1 : i + 1 < N := by omega
  have e1 : nI i + 1 = nI (i + 1) := zi_ak i 1
  have b2 : i + 2 < N := by omega
  have e2 : nI i + 2 = nI (i + 2) := zi_ak i 2
  have b3 : i + 3 < N := by omega
  have e3 : nI i + 3 = nI (i + 3) := zi_ak i 3
  have b4 : i + 4 < N := by omega
  have e4 : nI i + 4 = nI (i + 4) := zi_ak i 4
  have b5 : i + 5 < N := by omega
  have e5 : nI i + 5 = nI (i + 5) := zi_ak i 5
  simp (disch := first | assumption | rfl | omega | decide | exact zb_01 _) only [zabs_e, zmax_e, zmin_e, zrf_s, zpush_s, zpush_n, zw_app, upd_app, updL_app, Nat.reduceEqDiff, Nat.add_left_cancel_iff, Nat.add_eq_left, Nat.left_eq_add, ↓reduceIte, true_and, and_true, Int32.reduceToNatClampNeg, zin_O, zi_ltO, zi_leO, zi_Olt, zi_Ole, zi_eqO, Nat.not_lt_zero, Nat.zero_le, List.append_nil, zrn_n, zrn_s, List.cons_append, List.nil_append, zlg_lt, zlg_gt, zlg_le, zlg_ge, zlg_eq, Int32.toInt_toInt64, Int64.reduceToInt, zw_zw, zw_sw1, zw_sw2, zw_sw3, zw_sw4, zw_sw5, zw_sw6, zw_sw7, ne_eq, zi_in, zi_cl, zi_le, zi_lt, zi_eq, zi_neg, zi_0le, zb_0, if_true, if_false, eq_self, zb_T, zb_F, Bool.false_eq_true, zO_eq, zO_ne1, zO_ne2, zO_nn, zi_ne1, zi_ne2, zi_lt1, zi_le1, zi_lt2, zi_le2, Int32.reduceLT, Int32.reduceLE, Nat.reduceLT, Nat.reduceLeDiff, Int32.reduceMul, Int32.reduceAdd, Int32.reduceSub, not_false_eq_true, not_true_eq_false, Int32.reduceToInt, Int.reduceLE, Int.reduceLT, Int.reduceNeg, ite_self, R_law_701, SHF, PF, e1, e2, e3, e4, e5, b1, b2, b3, b4, b5, h1, h2]
theorem st_20 (hN : i + 6 ≤ N) (hN2 : N < 2147483648) (hR : zRel I L f g) : ∃ I2 L2 f2 g2 t2, zRel I2 L2 f2 g2 ∧ ∀ d Q, zWp (d + 100) zi_217 (some (N, X)) 734 [.ref 1000000, .ref 0, .ref 80, .int (nI i)] [] (zSH, I, L, zP f g t) Q = zWp (d + 100) zi_217 (some (N, X)) 1332 [.ref 1000000, .ref 0, .ref 80, .int (nI i)] [] (zSH, I2, L2, zP f2 g2 t2) Q := by
  obtain ⟨r, I1, L1, f1, g1, t1, I2, L2, h1, h2, hR2, v1, v2⟩ := op_nights (t := t) hR (X (i + 1)) (X (i + 2))
  obtain ⟨v, rfl⟩ := v1 (by decide)
  refine ⟨I2, L2, f1, g1, t1, hR2, fun d Q => ?_⟩
  have b1 : i + 1 < N := by omega
  have e1 : nI i + 1 = nI (i + 1) := zi_ak i 1
  have b2 : i + 2 < N := by omega
  have e2 : nI i + 2 = nI (i + 2) := zi_ak i 2
  have b3 : i + 3 < N := by omega
  have e3 : nI i + 3 = nI (i + 3) := zi_ak i 3
  have b4 : i + 4 < N := by omega
  have e4 : nI i + 4 = nI (i + 4) := zi_ak i 4
  have b5 : i + 5 < N := by omega
  have e5 : nI i + 5 = nI (i + 5) := zi_ak i 5
  simp (disch := first | assumption | rfl | omega | decide | exact zb_01 _) only [zabs_e, zmax_e, zmin_e, zrf_s, zpush_s, zpush_n, zw_app, upd_app, updL_app, Nat.reduceEqDiff, Nat.add_left_cancel_iff, Nat.add_eq_left, Nat.left_eq_add, ↓reduceIte, true_and, and_true, Int32.reduceToNatClampNeg, zin_O, zi_ltO, zi_leO, zi_Olt, zi_Ole, zi_eqO, Nat.not_lt_zero, Nat.zero_le, List.append_nil, zrn_n, zrn_s, List.cons_append, List.nil_append, zlg_lt, zlg_gt, zlg_le, zlg_ge, zlg_eq, Int32.toInt_toInt64, Int64.reduceToInt, zw_zw, zw_sw1, zw_sw2, zw_sw3, zw_sw4, zw_sw5, zw_sw6, zw_sw7, ne_eq, zi_in, zi_cl, zi_le, zi_lt, zi_eq, zi_neg, zi_0le, zb_0, if_true, if_false, eq_self, zb_T, zb_F, Bool.false_eq_true, zO_eq, zO_ne1, zO_ne2, zO_nn, zi_ne1, zi_ne2, zi_lt1, zi_le1, zi_lt2, zi_le2, Int32.reduceLT, Int32.reduceLE, Nat.reduceLT, Nat.reduceLeDiff, Int32.reduceMul, Int32.reduceAdd, Int32.reduceSub, not_false_eq_true, not_true_eq_false, Int32.reduceToInt, Int.reduceLE, Int.reduceLT, Int.reduceNeg, ite_self, R_law_734, SHF, PF, e1, e2, e3, e4, e5, b1, b2, b3, b4, b5, h1, h2]
theorem st_21 (hN : i + 6 ≤ N) (hN2 : N < 2147483648) (hR : zRel I L f g) : ∃ I2 L2 f2 g2 t2, zRel I2 L2 f2 g2 ∧ ∀ d Q, zWp (d + 100) zi_217 (some (N, X)) 767 [.ref 1000000, .ref 0, .ref 80, .int (nI i)] [] (zSH, I, L, zP f g t) Q = zWp (d + 100) zi_217 (some (N, X)) 1332 [.ref 1000000, .ref 0, .ref 80, .int (nI i)] [] (zSH, I2, L2, zP f2 g2 t2) Q := by
  obtain ⟨r, I1, L1, f1, g1, t1, I2, L2, h1, h2, hR2, v1, v2⟩ := op_best (t := t) hR (X (i + 1)) (X (i + 2)) (X (i + 3))
  obtain ⟨v, rfl⟩ := v1 (by decide)
  refine ⟨I2, L2, f1, g1, t1, hR2, fun d Q => ?_⟩
  have b1 : i + 1 < N := by omega
  have e1 : nI i + 1 = nI (i + 1) := zi_ak i 1
  have b2 : i + 2 < N := by omega
  have e2 : nI i + 2 = nI (i + 2) := zi_ak i 2
  have b3 : i + 3 < N := by omega
  have e3 : nI i + 3 = nI (i + 3) := zi_ak i 3
  have b4 : i + 4 < N := by omega
  have e4 : nI i + 4 = nI (i + 4) := zi_ak i 4
  have b5 : i + 5 < N := by omega
  have e5 : nI i + 5 = nI (i + 5) := zi_ak i 5
  simp (disch := first | assumption | rfl | omega | decide | exact zb_01 _) only [zabs_e, zmax_e, zmin_e, zrf_s, zpush_s, zpush_n, zw_app, upd_app, updL_app, Nat.reduceEqDiff, Nat.add_left_cancel_iff, Nat.add_eq_left, Nat.left_eq_add, ↓reduceIte, true_and, and_true, Int32.reduceToNatClampNeg, zin_O, zi_ltO, zi_leO, zi_Olt, zi_Ole, zi_eqO, Nat.not_lt_zero, Nat.zero_le, List.append_nil, zrn_n, zrn_s, List.cons_append, List.nil_append, zlg_lt, zlg_gt, zlg_le, zlg_ge, zlg_eq, Int32.toInt_toInt64, Int64.reduceToInt, zw_zw, zw_sw1, zw_sw2, zw_sw3, zw_sw4, zw_sw5, zw_sw6, zw_sw7, ne_eq, zi_in, zi_cl, zi_le, zi_lt, zi_eq, zi_neg, zi_0le, zb_0, if_true, if_false, eq_self, zb_T, zb_F, Bool.false_eq_true, zO_eq, zO_ne1, zO_ne2, zO_nn, zi_ne1, zi_ne2, zi_lt1, zi_le1, zi_lt2, zi_le2, Int32.reduceLT, Int32.reduceLE, Nat.reduceLT, Nat.reduceLeDiff, Int32.reduceMul, Int32.reduceAdd, Int32.reduceSub, not_false_eq_true, not_true_eq_false, Int32.reduceToInt, Int.reduceLE, Int.reduceLT, Int.reduceNeg, ite_self, R_law_767, SHF, PF, e1, e2, e3, e4, e5, b1, b2, b3, b4, b5, h1, h2]
theorem st_22 (hN : i + 6 ≤ N) (hN2 : N < 2147483648) (hR : zRel I L f g) : ∃ I2 L2 f2 g2 t2, zRel I2 L2 f2 g2 ∧ ∀ d Q, zWp (d + 100) zi_217 (some (N, X)) 810 [.ref 1000000, .ref 0, .ref 80, .int (nI i)] [] (zSH, I, L, zP f g t) Q = zWp (d + 100) zi_217 (some (N, X)) 1332 [.ref 1000000, .ref 0, .ref 80, .int (nI i)] [] (zSH, I2, L2, zP f2 g2 t2) Q := by
  obtain ⟨r, I1, L1, f1, g1, t1, I2, L2, h1, h2, hR2, v1, v2⟩ := op_rival (t := t) hR (X (i + 1))
  obtain ⟨v, rfl⟩ := v1 (by decide)
  refine ⟨I2, L2, f1, g1, t1, hR2, fun d Q => ?_⟩
  have b1 : i + 1 < N := by omega
  have e1 : nI i + 1 = nI (i + 1) := zi_ak i 1
  have b2 : i + 2 < N := by omega
  have e2 : nI i + 2 = nI (i + 2) := zi_ak i 2
  have b3 : i + 3 < N := by omega
  have e3 : nI i + 3 = nI (i + 3) := zi_ak i 3
  have b4 : i + 4 < N := by omega
  have e4 : nI i + 4 = nI (i + 4) := zi_ak i 4
  have b5 : i + 5 < N := by omega
  have e5 : nI i + 5 = nI (i + 5) := zi_ak i 5
  simp (disch := first | assumption | rfl | omega | decide | exact zb_01 _) only [zabs_e, zmax_e, zmin_e, zrf_s, zpush_s, zpush_n, zw_app, upd_app, updL_app, Nat.reduceEqDiff, Nat.add_left_cancel_iff, Nat.add_eq_left, Nat.left_eq_add, ↓reduceIte, true_and, and_true, Int32.reduceToNatClampNeg, zin_O, zi_ltO, zi_leO, zi_Olt, zi_Ole, zi_eqO, Nat.not_lt_zero, Nat.zero_le, List.append_nil, zrn_n, zrn_s, List.cons_append, List.nil_append, zlg_lt, zlg_gt, zlg_le, zlg_ge, zlg_eq, Int32.toInt_toInt64, Int64.reduceToInt, zw_zw, zw_sw1, zw_sw2, zw_sw3, zw_sw4, zw_sw5, zw_sw6, zw_sw7, ne_eq, zi_in, zi_cl, zi_le, zi_lt, zi_eq, zi_neg, zi_0le, zb_0, if_true, if_false, eq_self, zb_T, zb_F, Bool.false_eq_true, zO_eq, zO_ne1, zO_ne2, zO_nn, zi_ne1, zi_ne2, zi_lt1, zi_le1, zi_lt2, zi_le2, Int32.reduceLT, Int32.reduceLE, Nat.reduceLT, Nat.reduceLeDiff, Int32.reduceMul, Int32.reduceAdd, Int32.reduceSub, not_false_eq_true, not_true_eq_false, Int32.reduceToInt, Int.reduceLE, Int.reduceLT, Int.reduceNeg, ite_self, R_law_810, SHF, PF, e1, e2, e3, e4, e5, b1, b2, b3, b4, b5, h1, h2]
theorem st_23 (hN : i + 6 ≤ N) (hN2 : N < 2147483648) (hR : zRel I L f g) : ∃ I2 L2 f2 g2 t2, zRel I2 L2 f2 g2 ∧ ∀ d Q, zWp (d + 100) zi_217 (some (N, X)) 833 [.ref 1000000, .ref 0, .ref 80, .int (nI i)] [] (zSH, I, L, zP f g t) Q = zWp (d + 100) zi_217 (some (N, X)) 1332 [.ref 1000000, .ref 0, .ref 80, .int (nI i)] [] (zSH, I2, L2, zP f2 g2 t2) Q := by
  obtain ⟨r, I1, L1, f1, g1, t1, I2, L2, h1, h2, hR2, v1, v2⟩ := op_judge (t := t) hR (X (i + 1)) (X (i + 2))
  obtain ⟨v, rfl⟩ := v1 (by decide)
  refine ⟨I2, L2, f1, g1, t1, hR2, fun d Q => ?_⟩
  have b1 : i + 1 < N := by omega
  have e1 : nI i + 1 = nI (i + 1) := zi_ak i 1
  have b2 : i + 2 < N := by omega
  have e2 : nI i + 2 = nI (i + 2) := zi_ak i 2
  have b3 : i + 3 < N := by omega
  have e3 : nI i + 3 = nI (i + 3) := zi_ak i 3
  have b4 : i + 4 < N := by omega
  have e4 : nI i + 4 = nI (i + 4) := zi_ak i 4
  have b5 : i + 5 < N := by omega
  have e5 : nI i + 5 = nI (i + 5) := zi_ak i 5
  simp (disch := first | assumption | rfl | omega | decide | exact zb_01 _) only [zabs_e, zmax_e, zmin_e, zrf_s, zpush_s, zpush_n, zw_app, upd_app, updL_app, Nat.reduceEqDiff, Nat.add_left_cancel_iff, Nat.add_eq_left, Nat.left_eq_add, ↓reduceIte, true_and, and_true, Int32.reduceToNatClampNeg, zin_O, zi_ltO, zi_leO, zi_Olt, zi_Ole, zi_eqO, Nat.not_lt_zero, Nat.zero_le, List.append_nil, zrn_n, zrn_s, List.cons_append, List.nil_append, zlg_lt, zlg_gt, zlg_le, zlg_ge, zlg_eq, Int32.toInt_toInt64, Int64.reduceToInt, zw_zw, zw_sw1, zw_sw2, zw_sw3, zw_sw4, zw_sw5, zw_sw6, zw_sw7, ne_eq, zi_in, zi_cl, zi_le, zi_lt, zi_eq, zi_neg, zi_0le, zb_0, if_true, if_false, eq_self, zb_T, zb_F, Bool.false_eq_true, zO_eq, zO_ne1, zO_ne2, zO_nn, zi_ne1, zi_ne2, zi_lt1, zi_le1, zi_lt2, zi_le2, Int32.reduceLT, Int32.reduceLE, Nat.reduceLT, Nat.reduceLeDiff, Int32.reduceMul, Int32.reduceAdd, Int32.reduceSub, not_false_eq_true, not_true_eq_false, Int32.reduceToInt, Int.reduceLE, Int.reduceLT, Int.reduceNeg, ite_self, R_law_833, SHF, PF, e1, e2, e3, e4, e5, b1, b2, b3, b4, b5, h1, h2]
theorem st_24 (hN : i + 6 ≤ N) (hN2 : N < 2147483648) (hR : zRel I L f g) : ∃ I2 L2 f2 g2 t2, zRel I2 L2 f2 g2 ∧ ∀ d Q, zWp (d + 100) zi_217 (some (N, X)) 866 [.ref 1000000, .ref 0, .ref 80, .int (nI i)] [] (zSH, I, L, zP f g t) Q = zWp (d + 100) zi_217 (some (N, X)) 1332 [.ref 1000000, .ref 0, .ref 80, .int (nI i)] [] (zSH, I2, L2, zP f2 g2 t2) Q := by
  obtain ⟨r, I1, L1, f1, g1, t1, I2, L2, h1, h2, hR2, v1, v2⟩ := op_led (t := t) hR (X (i + 1))
  obtain ⟨v, rfl⟩ := v1 (by decide)
  refine ⟨I2, L2, f1, g1, t1, hR2, fun d Q => ?_⟩
  have b1 : i + 1 < N := by omega
  have e1 : nI i + 1 = nI (i + 1) := zi_ak i 1
  have b2 : i + 2 < N := by omega
  have e2 : nI i + 2 = nI (i + 2) := zi_ak i 2
  have b3 : i + 3 < N := by omega
  have e3 : nI i + 3 = nI (i + 3) := zi_ak i 3
  have b4 : i + 4 < N := by omega
  have e4 : nI i + 4 = nI (i + 4) := zi_ak i 4
  have b5 : i + 5 < N := by omega
  have e5 : nI i + 5 = nI (i + 5) := zi_ak i 5
  simp (disch := first | assumption | rfl | omega | decide | exact zb_01 _) only [zabs_e, zmax_e, zmin_e, zrf_s, zpush_s, zpush_n, zw_app, upd_app, updL_app, Nat.reduceEqDiff, Nat.add_left_cancel_iff, Nat.add_eq_left, Nat.left_eq_add, ↓reduceIte, true_and, and_true, Int32.reduceToNatClampNeg, zin_O, zi_ltO, zi_leO, zi_Olt, zi_Ole, zi_eqO, Nat.not_lt_zero, Nat.zero_le, List.append_nil, zrn_n, zrn_s, List.cons_append, List.nil_append, zlg_lt, zlg_gt, zlg_le, zlg_ge, zlg_eq, Int32.toInt_toInt64, Int64.reduceToInt, zw_zw, zw_sw1, zw_sw2, zw_sw3, zw_sw4, zw_sw5, zw_sw6, zw_sw7, ne_eq, zi_in, zi_cl, zi_le, zi_lt, zi_eq, zi_neg, zi_0le, zb_0, if_true, if_false, eq_self, zb_T, zb_F, Bool.false_eq_true, zO_eq, zO_ne1, zO_ne2, zO_nn, zi_ne1, zi_ne2, zi_lt1, zi_le1, zi_lt2, zi_le2, Int32.reduceLT, Int32.reduceLE, Nat.reduceLT, Nat.reduceLeDiff, Int32.reduceMul, Int32.reduceAdd, Int32.reduceSub, not_false_eq_true, not_true_eq_false, Int32.reduceToInt, Int.reduceLE, Int.reduceLT, Int.reduceNeg, ite_self, R_law_866, SHF, PF, e1, e2, e3, e4, e5, b1, b2, b3, b4, b5, h1, h2]
theorem st_25 (hN : i + 6 ≤ N) (hN2 : N < 2147483648) (hR : zRel I L f g) : ∃ I2 L2 f2 g2 t2, zRel I2 L2 f2 g2 ∧ ∀ d Q, zWp (d + 100) zi_217 (some (N, X)) 889 [.ref 1000000, .ref 0, .ref 80, .int (nI i)] [] (zSH, I, L, zP f g t) Q = zWp (d + 100) zi_217 (some (N, X)) 1332 [.ref 1000000, .ref 0, .ref 80, .int (nI i)] [] (zSH, I2, L2, zP f2 g2 t2) Q := by
  obtain ⟨r, I1, L1, f1, g1, t1, I2, L2, h1, h2, hR2, v1, v2⟩ := op_image (t := t) hR 
  obtain ⟨v, rfl⟩ := v1 (by decide)
  refine ⟨I2, L2, f1, g1, t1, hR2, fun d Q => ?_⟩
  have b1 : i + 1 < N := by omega
  have e1 : nI i + 1 = nI (i + 1) := zi_ak i 1
  have b2 : i + 2 < N := by omega
  have e2 : nI i + 2 = nI (i + 2) := zi_ak i 2
  have b3 : i + 3 < N := by omega
  have e3 : nI i + 3 = nI (i + 3) := zi_ak i 3
  have b4 : i + 4 < N := by omega
  have e4 : nI i + 4 = nI (i + 4) := zi_ak i 4
  have b5 : i + 5 < N := by omega
  have e5 : nI i + 5 = nI (i + 5) := zi_ak i 5
  simp (disch := first | assumption | rfl | omega | decide | exact zb_01 _) only [zabs_e, zmax_e, zmin_e, zrf_s, zpush_s, zpush_n, zw_app, upd_app, updL_app, Nat.reduceEqDiff, Nat.add_left_cancel_iff, Nat.add_eq_left, Nat.left_eq_add, ↓reduceIte, true_and, and_true, Int32.reduceToNatClampNeg, zin_O, zi_ltO, zi_leO, zi_Olt, zi_Ole, zi_eqO, Nat.not_lt_zero, Nat.zero_le, List.append_nil, zrn_n, zrn_s, List.cons_append, List.nil_append, zlg_lt, zlg_gt, zlg_le, zlg_ge, zlg_eq, Int32.toInt_toInt64, Int64.reduceToInt, zw_zw, zw_sw1, zw_sw2, zw_sw3, zw_sw4, zw_sw5, zw_sw6, zw_sw7, ne_eq, zi_in, zi_cl, zi_le, zi_lt, zi_eq, zi_neg, zi_0le, zb_0, if_true, if_false, eq_self, zb_T, zb_F, Bool.false_eq_true, zO_eq, zO_ne1, zO_ne2, zO_nn, zi_ne1, zi_ne2, zi_lt1, zi_le1, zi_lt2, zi_le2, Int32.reduceLT, Int32.reduceLE, Nat.reduceLT, Nat.reduceLeDiff, Int32.reduceMul, Int32.reduceAdd, Int32.reduceSub, not_false_eq_true, not_true_eq_false, Int32.reduceToInt, Int.reduceLE, Int.reduceLT, Int.reduceNeg, ite_self, R_law_889, SHF, PF, e1, e2, e3, e4, e5, b1, b2, b3, b4, b5, h1, h2]
theorem st_26 (hN : i + 6 ≤ N) (hN2 : N < 2147483648) (hR : zRel I L f g) : ∃ I2 L2 f2 g2 t2, zRel I2 L2 f2 g2 ∧ ∀ d Q, zWp (d + 100) zi_217 (some (N, X)) 902 [.ref 1000000, .ref 0, .ref 80, .int (nI i)] [] (zSH, I, L, zP f g t) Q = zWp (d + 100) zi_217 (some (N, X)) 1332 [.ref 1000000, .ref 0, .ref 80, .int (nI i)] [] (zSH, I2, L2, zP f2 g2 t2) Q := by
  obtain ⟨r, I1, L1, f1, g1, t1, I2, L2, h1, h2, hR2, v1, v2⟩ := op_back (t := t) hR 
  obtain ⟨v, rfl⟩ := v1 (by decide)
  refine ⟨I2, L2, f1, g1, t1, hR2, fun d Q => ?_⟩
  have b1 : i + 1 < N := by omega
  have e1 : nI i + 1 = nI (i + 1) := zi_ak i 1
  have b2 : i + 2 < N := by omega
  have e2 : nI i + 2 = nI (i + 2) := zi_ak i 2
  have b3 : i + 3 < N := by omega
  have e3 : nI i + 3 = nI (i + 3) := zi_ak i 3
  have b4 : i + 4 < N := by omega
  have e4 : nI i + 4 = nI (i + 4) := zi_ak i 4
  have b5 : i + 5 < N := by omega
  have e5 : nI i + 5 = nI (i + 5) := zi_ak i 5
  simp (disch := first | assumption | rfl | omega | decide | exact zb_01 _) only [zabs_e, zmax_e, zmin_e, zrf_s, zpush_s, zpush_n, zw_app, upd_app, updL_app, Nat.reduceEqDiff, Nat.add_left_cancel_iff, Nat.add_eq_left, Nat.left_eq_add, ↓reduceIte, true_and, and_true, Int32.reduceToNatClampNeg, zin_O, zi_ltO, zi_leO, zi_Olt, zi_Ole, zi_eqO, Nat.not_lt_zero, Nat.zero_le, List.append_nil, zrn_n, zrn_s, List.cons_append, List.nil_append, zlg_lt, zlg_gt, zlg_le, zlg_ge, zlg_eq, Int32.toInt_toInt64, Int64.reduceToInt, zw_zw, zw_sw1, zw_sw2, zw_sw3, zw_sw4, zw_sw5, zw_sw6, zw_sw7, ne_eq, zi_in, zi_cl, zi_le, zi_lt, zi_eq, zi_neg, zi_0le, zb_0, if_true, if_false, eq_self, zb_T, zb_F, Bool.false_eq_true, zO_eq, zO_ne1, zO_ne2, zO_nn, zi_ne1, zi_ne2, zi_lt1, zi_le1, zi_lt2, zi_le2, Int32.reduceLT, Int32.reduceLE, Nat.reduceLT, Nat.reduceLeDiff, Int32.reduceMul, Int32.reduceAdd, Int32.reduceSub, not_false_eq_true, not_true_eq_false, Int32.reduceToInt, Int.reduceLE, Int.reduceLT, Int.reduceNeg, ite_self, R_law_902, SHF, PF, e1, e2, e3, e4, e5, b1, b2, b3, b4, b5, h1, h2]
theorem st_27 (hN : i + 6 ≤ N) (hN2 : N < 2147483648) (hR : zRel I L f g) : ∃ I2 L2 f2 g2 t2, zRel I2 L2 f2 g2 ∧ ∀ d Q, zWp (d + 100) zi_217 (some (N, X)) 915 [.ref 1000000, .ref 0, .ref 80, .int (nI i)] [] (zSH, I, L, zP f g t) Q = zWp (d + 100) zi_217 (some (N, X)) 1332 [.ref 1000000, .ref 0, .ref 80, .int (nI i)] [] (zSH, I2, L2, zP f2 g2 t2) Q := by
  obtain ⟨r, I1, L1, f1, g1, t1, I2, L2, h1, h2, hR2, v1, v2⟩ := op_undo (t := t) hR 
  obtain ⟨v, rfl⟩ := v1 (by decide)
  refine ⟨I2, L2, f1, g1, t1, hR2, fun d Q => ?_⟩
  have b1 : i + 1 < N := by omega
  have e1 : nI i + 1 = nI (i + 1) := zi_ak i 1
  have b2 : i + 2 < N := by omega
  have e2 : nI i + 2 = nI (i + 2) := zi_ak i 2
  have b3 : i + 3 < N := by omega
  have e3 : nI i + 3 = nI (i + 3) := zi_ak i 3
  have b4 : i + 4 < N := by omega
  have e4 : nI i + 4 = nI (i + 4) := zi_ak i 4
  have b5 : i + 5 < N := by omega
  have e5 : nI i + 5 = nI (i + 5) := zi_ak i 5
  simp (disch := first | assumption | rfl | omega | decide | exact zb_01 _) only [zabs_e, zmax_e, zmin_e, zrf_s, zpush_s, zpush_n, zw_app, upd_app, updL_app, Nat.reduceEqDiff, Nat.add_left_cancel_iff, Nat.add_eq_left, Nat.left_eq_add, ↓reduceIte, true_and, and_true, Int32.reduceToNatClampNeg, zin_O, zi_ltO, zi_leO, zi_Olt, zi_Ole, zi_eqO, Nat.not_lt_zero, Nat.zero_le, List.append_nil, zrn_n, zrn_s, List.cons_append, List.nil_append, zlg_lt, zlg_gt, zlg_le, zlg_ge, zlg_eq, Int32.toInt_toInt64, Int64.reduceToInt, zw_zw, zw_sw1, zw_sw2, zw_sw3, zw_sw4, zw_sw5, zw_sw6, zw_sw7, ne_eq, zi_in, zi_cl, zi_le, zi_lt, zi_eq, zi_neg, zi_0le, zb_0, if_true, if_false, eq_self, zb_T, zb_F, Bool.false_eq_true, zO_eq, zO_ne1, zO_ne2, zO_nn, zi_ne1, zi_ne2, zi_lt1, zi_le1, zi_lt2, zi_le2, Int32.reduceLT, Int32.reduceLE, Nat.reduceLT, Nat.reduceLeDiff, Int32.reduceMul, Int32.reduceAdd, Int32.reduceSub, not_false_eq_true, not_true_eq_false, Int32.reduceToInt, Int.reduceLE, Int.reduceLT, Int.reduceNeg, ite_self, R_law_915, SHF, PF, e1, e2, e3, e4, e5, b1, b2, b3, b4, b5, h1, h2]
theorem st_28 (hN : i + 6 ≤ N) (hN2 : N < 2147483648) (hR : zRel I L f g) : ∃ I2 L2 f2 g2 t2, zRel I2 L2 f2 g2 ∧ ∀ d Q, zWp (d + 100) zi_217 (some (N, X)) 928 [.ref 1000000, .ref 0, .ref 80, .int (nI i)] [] (zSH, I, L, zP f g t) Q = zWp (d + 100) zi_217 (some (N, X)) 1332 [.ref 1000000, .ref 0, .ref 80, .int (nI i)] [] (zSH, I2, L2, zP f2 g2 t2) Q := by
  obtain ⟨r, I1, L1, f1, g1, t1, I2, L2, h1, h2, hR2, v1, v2⟩ := op_redo (t := t) hR 
  obtain ⟨v, rfl⟩ := v1 (by decide)
  refine ⟨I2, L2, f1, g1, t1, hR2, fun d Q => ?_⟩
  have b1 : i + 1 < N := by omega
  have e1 : nI i + 1 = nI (i + 1) := zi_ak i 1
  have b2 : i + 2 < N := by omega
  have e2 : nI i + 2 = nI (i + 2) := zi_ak i 2
  have b3 : i + 3 < N := by omega
  have e3 : nI i + 3 = nI (i + 3) := zi_ak i 3
  have b4 : i + 4 < N := by omega
  have e4 : nI i + 4 = nI (i + 4) := zi_ak i 4
  have b5 : i + 5 < N := by omega
  have e5 : nI i + 5 = nI (i + 5) := zi_ak i 5
  simp (disch := first | assumption | rfl | omega | decide | exact zb_01 _) only [zabs_e, zmax_e, zmin_e, zrf_s, zpush_s, zpush_n, zw_app, upd_app, updL_app, Nat.reduceEqDiff, Nat.add_left_cancel_iff, Nat.add_eq_left, Nat.left_eq_add, ↓reduceIte, true_and, and_true, Int32.reduceToNatClampNeg, zin_O, zi_ltO, zi_leO, zi_Olt, zi_Ole, zi_eqO, Nat.not_lt_zero, Nat.zero_le, List.append_nil, zrn_n, zrn_s, List.cons_append, List.nil_append, zlg_lt, zlg_gt, zlg_le, zlg_ge, zlg_eq, Int32.toInt_toInt64, Int64.reduceToInt, zw_zw, zw_sw1, zw_sw2, zw_sw3, zw_sw4, zw_sw5, zw_sw6, zw_sw7, ne_eq, zi_in, zi_cl, zi_le, zi_lt, zi_eq, zi_neg, zi_0le, zb_0, if_true, if_false, eq_self, zb_T, zb_F, Bool.false_eq_true, zO_eq, zO_ne1, zO_ne2, zO_nn, zi_ne1, zi_ne2, zi_lt1, zi_le1, zi_lt2, zi_le2, Int32.reduceLT, Int32.reduceLE, Nat.reduceLT, Nat.reduceLeDiff, Int32.reduceMul, Int32.reduceAdd, Int32.reduceSub, not_false_eq_true, not_true_eq_false, Int32.reduceToInt, Int.reduceLE, Int.reduceLT, Int.reduceNeg, ite_self, R_law_928, SHF, PF, e1, e2, e3, e4, e5, b1, b2, b3, b4, b5, h1, h2]
theorem st_29 (hN : i + 6 ≤ N) (hN2 : N < 2147483648) (hR : zRel I L f g) : ∃ I2 L2 f2 g2 t2, zRel I2 L2 f2 g2 ∧ ∀ d Q, zWp (d + 100) zi_217 (some (N, X)) 941 [.ref 1000000, .ref 0, .ref 80, .int (nI i)] [] (zSH, I, L, zP f g t) Q = zWp (d + 100) zi_217 (some (N, X)) 1332 [.ref 1000000, .ref 0, .ref 80, .int (nI i)] [] (zSH, I2, L2, zP f2 g2 t2) Q := by
  obtain ⟨r, I1, L1, f1, g1, t1, I2, L2, h1, h2, hR2, v1, v2⟩ := op_body (t := t) hR (X (i + 1))
  obtain ⟨v, rfl⟩ := v1 (by decide)
  refine ⟨I2, L2, f1, g1, t1, hR2, fun d Q => ?_⟩
  have b1 : i + 1 < N := by omega
  have e1 : nI i + 1 = nI (i + 1) := zi_ak i 1
  have b2 : i + 2 < N := by omega
  have e2 : nI i + 2 = nI (i + 2) := zi_ak i 2
  have b3 : i + 3 < N := by omega
  have e3 : nI i + 3 = nI (i + 3) := zi_ak i 3
  have b4 : i + 4 < N := by omega
  have e4 : nI i + 4 = nI (i + 4) := zi_ak i 4
  have b5 : i + 5 < N := by omega
  have e5 : nI i + 5 = nI (i + 5) := zi_ak i 5
  simp (disch := first | assumption | rfl | omega | decide | exact zb_01 _) only [zabs_e, zmax_e, zmin_e, zrf_s, zpush_s, zpush_n, zw_app, upd_app, updL_app, Nat.reduceEqDiff, Nat.add_left_cancel_iff, Nat.add_eq_left, Nat.left_eq_add, ↓reduceIte, true_and, and_true, Int32.reduceToNatClampNeg, zin_O, zi_ltO, zi_leO, zi_Olt, zi_Ole, zi_eqO, Nat.not_lt_zero, Nat.zero_le, List.append_nil, zrn_n, zrn_s, List.cons_append, List.nil_append, zlg_lt, zlg_gt, zlg_le, zlg_ge, zlg_eq, Int32.toInt_toInt64, Int64.reduceToInt, zw_zw, zw_sw1, zw_sw2, zw_sw3, zw_sw4, zw_sw5, zw_sw6, zw_sw7, ne_eq, zi_in, zi_cl, zi_le, zi_lt, zi_eq, zi_neg, zi_0le, zb_0, if_true, if_false, eq_self, zb_T, zb_F, Bool.false_eq_true, zO_eq, zO_ne1, zO_ne2, zO_nn, zi_ne1, zi_ne2, zi_lt1, zi_le1, zi_lt2, zi_le2, Int32.reduceLT, Int32.reduceLE, Nat.reduceLT, Nat.reduceLeDiff, Int32.reduceMul, Int32.reduceAdd, Int32.reduceSub, not_false_eq_true, not_true_eq_false, Int32.reduceToInt, Int.reduceLE, Int.reduceLT, Int.reduceNeg, ite_self, R_law_941, SHF, PF, e1, e2, e3, e4, e5, b1, b2, b3, b4, b5, h1, h2]
theorem st_30 (hN : i + 6 ≤ N) (hN2 : N < 2147483648) (hR : zRel I L f g) : ∃ I2 L2 f2 g2 t2, zRel I2 L2 f2 g2 ∧ ∀ d Q, zWp (d + 100) zi_217 (some (N, X)) 964 [.ref 1000000, .ref 0, .ref 80, .int (nI i)] [] (zSH, I, L, zP f g t) Q = zWp (d + 100) zi_217 (some (N, X)) 1332 [.ref 1000000, .ref 0, .ref 80, .int (nI i)] [] (zSH, I2, L2, zP f2 g2 t2) Q := by
  obtain ⟨r, I1, L1, f1, g1, t1, I2, L2, h1, h2, hR2, v1, v2⟩ := op_act (t := t) hR (X (i + 1)) (X (i + 2)) (X (i + 3))
  obtain ⟨v, rfl⟩ := v1 (by decide)
  refine ⟨I2, L2, f1, g1, t1, hR2, fun d Q => ?_⟩
  have b1 : i + 1 < N := by omega
  have e1 : nI i + 1 = nI (i + 1) := zi_ak i 1
  have b2 : i + 2 < N := by omega
  have e2 : nI i + 2 = nI (i + 2) := zi_ak i 2
  have b3 : i + 3 < N := by omega
  have e3 : nI i + 3 = nI (i + 3) := zi_ak i 3
  have b4 : i + 4 < N := by omega
  have e4 : nI i + 4 = nI (i + 4) := zi_ak i 4
  have b5 : i + 5 < N := by omega
  have e5 : nI i + 5 = nI (i + 5) := zi_ak i 5
  simp (disch := first | assumption | rfl | omega | decide | exact zb_01 _) only [zabs_e, zmax_e, zmin_e, zrf_s, zpush_s, zpush_n, zw_app, upd_app, updL_app, Nat.reduceEqDiff, Nat.add_left_cancel_iff, Nat.add_eq_left, Nat.left_eq_add, ↓reduceIte, true_and, and_true, Int32.reduceToNatClampNeg, zin_O, zi_ltO, zi_leO, zi_Olt, zi_Ole, zi_eqO, Nat.not_lt_zero, Nat.zero_le, List.append_nil, zrn_n, zrn_s, List.cons_append, List.nil_append, zlg_lt, zlg_gt, zlg_le, zlg_ge, zlg_eq, Int32.toInt_toInt64, Int64.reduceToInt, zw_zw, zw_sw1, zw_sw2, zw_sw3, zw_sw4, zw_sw5, zw_sw6, zw_sw7, ne_eq, zi_in, zi_cl, zi_le, zi_lt, zi_eq, zi_neg, zi_0le, zb_0, if_true, if_false, eq_self, zb_T, zb_F, Bool.false_eq_true, zO_eq, zO_ne1, zO_ne2, zO_nn, zi_ne1, zi_ne2, zi_lt1, zi_le1, zi_lt2, zi_le2, Int32.reduceLT, Int32.reduceLE, Nat.reduceLT, Nat.reduceLeDiff, Int32.reduceMul, Int32.reduceAdd, Int32.reduceSub, not_false_eq_true, not_true_eq_false, Int32.reduceToInt, Int.reduceLE, Int.reduceLT, Int.reduceNeg, ite_self, R_law_964, SHF, PF, e1, e2, e3, e4, e5, b1, b2, b3, b4, b5, h1, h2]
theorem st_31 (hN : i + 6 ≤ N) (hN2 : N < 2147483648) (hR : zRel I L f g) : ∃ I2 L2 f2 g2 t2, zRel I2 L2 f2 g2 ∧ ∀ d Q, zWp (d + 100) zi_217 (some (N, X)) 1007 [.ref 1000000, .ref 0, .ref 80, .int (nI i)] [] (zSH, I, L, zP f g t) Q = zWp (d + 100) zi_217 (some (N, X)) 1332 [.ref 1000000, .ref 0, .ref 80, .int (nI i)] [] (zSH, I2, L2, zP f2 g2 t2) Q := by
  obtain ⟨r, I1, L1, f1, g1, t1, I2, L2, h1, h2, hR2, v1, v2⟩ := op_trace (t := t) hR (X (i + 1))
  obtain ⟨v, rfl⟩ := v1 (by decide)
  refine ⟨I2, L2, f1, g1, t1, hR2, fun d Q => ?_⟩
  have b1 : i + 1 < N := by omega
  have e1 : nI i + 1 = nI (i + 1) := zi_ak i 1
  have b2 : i + 2 < N := by omega
  have e2 : nI i + 2 = nI (i + 2) := zi_ak i 2
  have b3 : i + 3 < N := by omega
  have e3 : nI i + 3 = nI (i + 3) := zi_ak i 3
  have b4 : i + 4 < N := by omega
  have e4 : nI i + 4 = nI (i + 4) := zi_ak i 4
  have b5 : i + 5 < N := by omega
  have e5 : nI i + 5 = nI (i + 5) := zi_ak i 5
  simp (disch := first | assumption | rfl | omega | decide | exact zb_01 _) only [zabs_e, zmax_e, zmin_e, zrf_s, zpush_s, zpush_n, zw_app, upd_app, updL_app, Nat.reduceEqDiff, Nat.add_left_cancel_iff, Nat.add_eq_left, Nat.left_eq_add, ↓reduceIte, true_and, and_true, Int32.reduceToNatClampNeg, zin_O, zi_ltO, zi_leO, zi_Olt, zi_Ole, zi_eqO, Nat.not_lt_zero, Nat.zero_le, List.append_nil, zrn_n, zrn_s, List.cons_append, List.nil_append, zlg_lt, zlg_gt, zlg_le, zlg_ge, zlg_eq, Int32.toInt_toInt64, Int64.reduceToInt, zw_zw, zw_sw1, zw_sw2, zw_sw3, zw_sw4, zw_sw5, zw_sw6, zw_sw7, ne_eq, zi_in, zi_cl, zi_le, zi_lt, zi_eq, zi_neg, zi_0le, zb_0, if_true, if_false, eq_self, zb_T, zb_F, Bool.false_eq_true, zO_eq, zO_ne1, zO_ne2, zO_nn, zi_ne1, zi_ne2, zi_lt1, zi_le1, zi_lt2, zi_le2, Int32.reduceLT, Int32.reduceLE, Nat.reduceLT, Nat.reduceLeDiff, Int32.reduceMul, Int32.reduceAdd, Int32.reduceSub, not_false_eq_true, not_true_eq_false, Int32.reduceToInt, Int.reduceLE, Int.reduceLT, Int.reduceNeg, ite_self, R_law_1007, SHF, PF, e1, e2, e3, e4, e5, b1, b2, b3, b4, b5, h1, h2]
theorem st_32 (hN : i + 6 ≤ N) (hN2 : N < 2147483648) (hR : zRel I L f g) : ∃ I2 L2 f2 g2 t2, zRel I2 L2 f2 g2 ∧ ∀ d Q, zWp (d + 100) zi_217 (some (N, X)) 1030 [.ref 1000000, .ref 0, .ref 80, .int (nI i)] [] (zSH, I, L, zP f g t) Q = zWp (d + 100) zi_217 (some (N, X)) 1332 [.ref 1000000, .ref 0, .ref 80, .int (nI i)] [] (zSH, I2, L2, zP f2 g2 t2) Q := by
  obtain ⟨r, I1, L1, f1, g1, t1, I2, L2, h1, h2, hR2, v1, v2⟩ := op_keep (t := t) hR (X (i + 1)) (X (i + 2))
  obtain ⟨v, rfl⟩ := v1 (by decide)
  refine ⟨I2, L2, f1, g1, t1, hR2, fun d Q => ?_⟩
  have b1 : i + 1 < N := by omega
  have e1 : nI i + 1 = nI (i + 1) := zi_ak i 1
  have b2 : i + 2 < N := by omega
  have e2 : nI i + 2 = nI (i + 2) := zi_ak i 2
  have b3 : i + 3 < N := by omega
  have e3 : nI i + 3 = nI (i + 3) := zi_ak i 3
  have b4 : i + 4 < N := by omega
  have e4 : nI i + 4 = nI (i + 4) := zi_ak i 4
  have b5 : i + 5 < N := by omega
  have e5 : nI i + 5 = nI (i + 5) := zi_ak i 5
  simp (disch := first | assumption | rfl | omega | decide | exact zb_01 _) only [zabs_e, zmax_e, zmin_e, zrf_s, zpush_s, zpush_n, zw_app, upd_app, updL_app, Nat.reduceEqDiff, Nat.add_left_cancel_iff, Nat.add_eq_left, Nat.left_eq_add, ↓reduceIte, true_and, and_true, Int32.reduceToNatClampNeg, zin_O, zi_ltO, zi_leO, zi_Olt, zi_Ole, zi_eqO, Nat.not_lt_zero, Nat.zero_le, List.append_nil, zrn_n, zrn_s, List.cons_append, List.nil_append, zlg_lt, zlg_gt, zlg_le, zlg_ge, zlg_eq, Int32.toInt_toInt64, Int64.reduceToInt, zw_zw, zw_sw1, zw_sw2, zw_sw3, zw_sw4, zw_sw5, zw_sw6, zw_sw7, ne_eq, zi_in, zi_cl, zi_le, zi_lt, zi_eq, zi_neg, zi_0le, zb_0, if_true, if_false, eq_self, zb_T, zb_F, Bool.false_eq_true, zO_eq, zO_ne1, zO_ne2, zO_nn, zi_ne1, zi_ne2, zi_lt1, zi_le1, zi_lt2, zi_le2, Int32.reduceLT, Int32.reduceLE, Nat.reduceLT, Nat.reduceLeDiff, Int32.reduceMul, Int32.reduceAdd, Int32.reduceSub, not_false_eq_true, not_true_eq_false, Int32.reduceToInt, Int.reduceLE, Int.reduceLT, Int.reduceNeg, ite_self, R_law_1030, SHF, PF, e1, e2, e3, e4, e5, b1, b2, b3, b4, b5, h1, h2]
theorem st_33 (hN : i + 6 ≤ N) (hN2 : N < 2147483648) (hR : zRel I L f g) : ∃ I2 L2 f2 g2 t2, zRel I2 L2 f2 g2 ∧ ∀ d Q, zWp (d + 100) zi_217 (some (N, X)) 1063 [.ref 1000000, .ref 0, .ref 80, .int (nI i)] [] (zSH, I, L, zP f g t) Q = zWp (d + 100) zi_217 (some (N, X)) 1332 [.ref 1000000, .ref 0, .ref 80, .int (nI i)] [] (zSH, I2, L2, zP f2 g2 t2) Q := by
  obtain ⟨r, I1, L1, f1, g1, t1, I2, L2, h1, h2, hR2, v1, v2⟩ := op_row (t := t) hR (X (i + 1)) (X (i + 2)) (X (i + 3))
  obtain ⟨v, rfl⟩ := v1 (by decide)
  refine ⟨I2, L2, f1, g1, t1, hR2, fun d Q => ?_⟩
  have b1 : i + 1 < N := by omega
  have e1 : nI i + 1 = nI (i + 1) := zi_ak i 1
  have b2 : i + 2 < N := by omega
  have e2 : nI i + 2 = nI (i + 2) := zi_ak i 2
  have b3 : i + 3 < N := by omega
  have e3 : nI i + 3 = nI (i + 3) := zi_ak i 3
  have b4 : i + 4 < N := by omega
  have e4 : nI i + 4 = nI (i + 4) := zi_ak i 4
  have b5 : i + 5 < N := by omega
  have e5 : nI i + 5 = nI (i + 5) := zi_ak i 5
  simp (disch := first | assumption | rfl | omega | decide | exact zb_01 _) only [zabs_e, zmax_e, zmin_e, zrf_s, zpush_s, zpush_n, zw_app, upd_app, updL_app, Nat.reduceEqDiff, Nat.add_left_cancel_iff, Nat.add_eq_left, Nat.left_eq_add, ↓reduceIte, true_and, and_true, Int32.reduceToNatClampNeg, zin_O, zi_ltO, zi_leO, zi_Olt, zi_Ole, zi_eqO, Nat.not_lt_zero, Nat.zero_le, List.append_nil, zrn_n, zrn_s, List.cons_append, List.nil_append, zlg_lt, zlg_gt, zlg_le, zlg_ge, zlg_eq, Int32.toInt_toInt64, Int64.reduceToInt, zw_zw, zw_sw1, zw_sw2, zw_sw3, zw_sw4, zw_sw5, zw_sw6, zw_sw7, ne_eq, zi_in, zi_cl, zi_le, zi_lt, zi_eq, zi_neg, zi_0le, zb_0, if_true, if_false, eq_self, zb_T, zb_F, Bool.false_eq_true, zO_eq, zO_ne1, zO_ne2, zO_nn, zi_ne1, zi_ne2, zi_lt1, zi_le1, zi_lt2, zi_le2, Int32.reduceLT, Int32.reduceLE, Nat.reduceLT, Nat.reduceLeDiff, Int32.reduceMul, Int32.reduceAdd, Int32.reduceSub, not_false_eq_true, not_true_eq_false, Int32.reduceToInt, Int.reduceLE, Int.reduceLT, Int.reduceNeg, ite_self, R_law_1063, SHF, PF, e1, e2, e3, e4, e5, b1, b2, b3, b4, b5, h1, h2]
theorem st_34 (hN : i + 6 ≤ N) (hN2 : N < 2147483648) (hR : zRel I L f g) : ∃ I2 L2 f2 g2 t2, zRel I2 L2 f2 g2 ∧ ∀ d Q, zWp (d + 100) zi_217 (some (N, X)) 1106 [.ref 1000000, .ref 0, .ref 80, .int (nI i)] [] (zSH, I, L, zP f g t) Q = zWp (d + 100) zi_217 (some (N, X)) 1332 [.ref 1000000, .ref 0, .ref 80, .int (nI i)] [] (zSH, I2, L2, zP f2 g2 t2) Q := by
  obtain ⟨r, I1, L1, f1, g1, t1, I2, L2, h1, h2, hR2, v1, v2⟩ := op_put (t := t) hR (X (i + 1)) (X (i + 2)) ((X (i + 3)).toInt64 <<< (Int32.toInt64 32 &&& 63) ||| (X (i + 4)).toInt64 &&& 4294967295)
  obtain ⟨v, rfl⟩ := v1 (by decide)
  refine ⟨I2, L2, f1, g1, t1, hR2, fun d Q => ?_⟩
  have b1 : i + 1 < N := by omega
  have e1 : nI i + 1 = nI (i + 1) := zi_ak i 1
  have b2 : i + 2 < N := by omega
  have e2 : nI i + 2 = nI (i + 2) := zi_ak i 2
  have b3 : i + 3 < N := by omega
  have e3 : nI i + 3 = nI (i + 3) := zi_ak i 3
  have b4 : i + 4 < N := by omega
  have e4 : nI i + 4 = nI (i + 4) := zi_ak i 4
  have b5 : i + 5 < N := by omega
  have e5 : nI i + 5 = nI (i + 5) := zi_ak i 5
  simp (disch := first | assumption | rfl | omega | decide | exact zb_01 _) only [zabs_e, zmax_e, zmin_e, zrf_s, zpush_s, zpush_n, zw_app, upd_app, updL_app, Nat.reduceEqDiff, Nat.add_left_cancel_iff, Nat.add_eq_left, Nat.left_eq_add, ↓reduceIte, true_and, and_true, Int32.reduceToNatClampNeg, zin_O, zi_ltO, zi_leO, zi_Olt, zi_Ole, zi_eqO, Nat.not_lt_zero, Nat.zero_le, List.append_nil, zrn_n, zrn_s, List.cons_append, List.nil_append, zlg_lt, zlg_gt, zlg_le, zlg_ge, zlg_eq, Int32.toInt_toInt64, Int64.reduceToInt, zw_zw, zw_sw1, zw_sw2, zw_sw3, zw_sw4, zw_sw5, zw_sw6, zw_sw7, ne_eq, zi_in, zi_cl, zi_le, zi_lt, zi_eq, zi_neg, zi_0le, zb_0, if_true, if_false, eq_self, zb_T, zb_F, Bool.false_eq_true, zO_eq, zO_ne1, zO_ne2, zO_nn, zi_ne1, zi_ne2, zi_lt1, zi_le1, zi_lt2, zi_le2, Int32.reduceLT, Int32.reduceLE, Nat.reduceLT, Nat.reduceLeDiff, Int32.reduceMul, Int32.reduceAdd, Int32.reduceSub, not_false_eq_true, not_true_eq_false, Int32.reduceToInt, Int.reduceLE, Int.reduceLT, Int.reduceNeg, ite_self, R_law_1106, SHF, PF, e1, e2, e3, e4, e5, b1, b2, b3, b4, b5, h1, h2]
theorem st_35 (hN : i + 6 ≤ N) (hN2 : N < 2147483648) (hR : zRel I L f g) : ∃ I2 L2 f2 g2 t2, zRel I2 L2 f2 g2 ∧ ∀ d Q, zWp (d + 100) zi_217 (some (N, X)) 1179 [.ref 1000000, .ref 0, .ref 80, .int (nI i)] [] (zSH, I, L, zP f g t) Q = zWp (d + 100) zi_217 (some (N, X)) 1332 [.ref 1000000, .ref 0, .ref 80, .int (nI i)] [] (zSH, I2, L2, zP f2 g2 t2) Q := by
  obtain ⟨r, I1, L1, f1, g1, t1, I2, L2, h1, h2, hR2, v1, v2⟩ := op_element (t := t) hR (X (i + 1)) (X (i + 2))
  obtain ⟨v, rfl⟩ := v2 rfl
  refine ⟨I2, L2, f1, g1, t1, hR2, fun d Q => ?_⟩
  have b1 : i + 1 < N := by omega
  have e1 : nI i + 1 = nI (i + 1) := zi_ak i 1
  have b2 : i + 2 < N := by omega
  have e2 : nI i + 2 = nI (i + 2) := zi_ak i 2
  have b3 : i + 3 < N := by omega
  have e3 : nI i + 3 = nI (i + 3) := zi_ak i 3
  have b4 : i + 4 < N := by omega
  have e4 : nI i + 4 = nI (i + 4) := zi_ak i 4
  have b5 : i + 5 < N := by omega
  have e5 : nI i + 5 = nI (i + 5) := zi_ak i 5
  simp (disch := first | assumption | rfl | omega | decide | exact zb_01 _) only [zabs_e, zmax_e, zmin_e, zrf_s, zpush_s, zpush_n, zw_app, upd_app, updL_app, Nat.reduceEqDiff, Nat.add_left_cancel_iff, Nat.add_eq_left, Nat.left_eq_add, ↓reduceIte, true_and, and_true, Int32.reduceToNatClampNeg, zin_O, zi_ltO, zi_leO, zi_Olt, zi_Ole, zi_eqO, Nat.not_lt_zero, Nat.zero_le, List.append_nil, zrn_n, zrn_s, List.cons_append, List.nil_append, zlg_lt, zlg_gt, zlg_le, zlg_ge, zlg_eq, Int32.toInt_toInt64, Int64.reduceToInt, zw_zw, zw_sw1, zw_sw2, zw_sw3, zw_sw4, zw_sw5, zw_sw6, zw_sw7, ne_eq, zi_in, zi_cl, zi_le, zi_lt, zi_eq, zi_neg, zi_0le, zb_0, if_true, if_false, eq_self, zb_T, zb_F, Bool.false_eq_true, zO_eq, zO_ne1, zO_ne2, zO_nn, zi_ne1, zi_ne2, zi_lt1, zi_le1, zi_lt2, zi_le2, Int32.reduceLT, Int32.reduceLE, Nat.reduceLT, Nat.reduceLeDiff, Int32.reduceMul, Int32.reduceAdd, Int32.reduceSub, not_false_eq_true, not_true_eq_false, Int32.reduceToInt, Int.reduceLE, Int.reduceLT, Int.reduceNeg, ite_self, R_law_1179, SHF, PF, e1, e2, e3, e4, e5, b1, b2, b3, b4, b5, h1, h2]
theorem st_36 (hN : i + 6 ≤ N) (hN2 : N < 2147483648) (hR : zRel I L f g) : ∃ I2 L2 f2 g2 t2, zRel I2 L2 f2 g2 ∧ ∀ d Q, zWp (d + 100) zi_217 (some (N, X)) 1213 [.ref 1000000, .ref 0, .ref 80, .int (nI i)] [] (zSH, I, L, zP f g t) Q = zWp (d + 100) zi_217 (some (N, X)) 1332 [.ref 1000000, .ref 0, .ref 80, .int (nI i)] [] (zSH, I2, L2, zP f2 g2 t2) Q := by
  obtain ⟨r, I1, L1, f1, g1, t1, I2, L2, h1, h2, hR2, v1, v2⟩ := op_shift (t := t) hR (X (i + 1)) (X (i + 2)) (X (i + 3)) (X (i + 4)) (X (i + 5))
  obtain ⟨v, rfl⟩ := v1 (by decide)
  refine ⟨I2, L2, f1, g1, t1, hR2, fun d Q => ?_⟩
  have b1 : i + 1 < N := by omega
  have e1 : nI i + 1 = nI (i + 1) := zi_ak i 1
  have b2 : i + 2 < N := by omega
  have e2 : nI i + 2 = nI (i + 2) := zi_ak i 2
  have b3 : i + 3 < N := by omega
  have e3 : nI i + 3 = nI (i + 3) := zi_ak i 3
  have b4 : i + 4 < N := by omega
  have e4 : nI i + 4 = nI (i + 4) := zi_ak i 4
  have b5 : i + 5 < N := by omega
  have e5 : nI i + 5 = nI (i + 5) := zi_ak i 5
  simp (disch := first | assumption | rfl | omega | decide | exact zb_01 _) only [zabs_e, zmax_e, zmin_e, zrf_s, zpush_s, zpush_n, zw_app, upd_app, updL_app, Nat.reduceEqDiff, Nat.add_left_cancel_iff, Nat.add_eq_left, Nat.left_eq_add, ↓reduceIte, true_and, and_true, Int32.reduceToNatClampNeg, zin_O, zi_ltO, zi_leO, zi_Olt, zi_Ole, zi_eqO, Nat.not_lt_zero, Nat.zero_le, List.append_nil, zrn_n, zrn_s, List.cons_append, List.nil_append, zlg_lt, zlg_gt, zlg_le, zlg_ge, zlg_eq, Int32.toInt_toInt64, Int64.reduceToInt, zw_zw, zw_sw1, zw_sw2, zw_sw3, zw_sw4, zw_sw5, zw_sw6, zw_sw7, ne_eq, zi_in, zi_cl, zi_le, zi_lt, zi_eq, zi_neg, zi_0le, zb_0, if_true, if_false, eq_self, zb_T, zb_F, Bool.false_eq_true, zO_eq, zO_ne1, zO_ne2, zO_nn, zi_ne1, zi_ne2, zi_lt1, zi_le1, zi_lt2, zi_le2, Int32.reduceLT, Int32.reduceLE, Nat.reduceLT, Nat.reduceLeDiff, Int32.reduceMul, Int32.reduceAdd, Int32.reduceSub, not_false_eq_true, not_true_eq_false, Int32.reduceToInt, Int.reduceLE, Int.reduceLT, Int.reduceNeg, ite_self, R_law_1213, SHF, PF, e1, e2, e3, e4, e5, b1, b2, b3, b4, b5, h1, h2]
theorem st_37 (hN : i + 6 ≤ N) (hN2 : N < 2147483648) (hR : zRel I L f g) : ∃ I2 L2 f2 g2 t2, zRel I2 L2 f2 g2 ∧ ∀ d Q, zWp (d + 100) zi_217 (some (N, X)) 1276 [.ref 1000000, .ref 0, .ref 80, .int (nI i)] [] (zSH, I, L, zP f g t) Q = zWp (d + 100) zi_217 (some (N, X)) 1332 [.ref 1000000, .ref 0, .ref 80, .int (nI i)] [] (zSH, I2, L2, zP f2 g2 t2) Q := by
  obtain ⟨r, I1, L1, f1, g1, t1, I2, L2, h1, h2, hR2, v1, v2⟩ := op_taken (t := t) hR (X (i + 1)) (X (i + 2))
  obtain ⟨v, rfl⟩ := v1 (by decide)
  refine ⟨I2, L2, f1, g1, t1, hR2, fun d Q => ?_⟩
  have b1 : i + 1 < N := by omega
  have e1 : nI i + 1 = nI (i + 1) := zi_ak i 1
  have b2 : i + 2 < N := by omega
  have e2 : nI i + 2 = nI (i + 2) := zi_ak i 2
  have b3 : i + 3 < N := by omega
  have e3 : nI i + 3 = nI (i + 3) := zi_ak i 3
  have b4 : i + 4 < N := by omega
  have e4 : nI i + 4 = nI (i + 4) := zi_ak i 4
  have b5 : i + 5 < N := by omega
  have e5 : nI i + 5 = nI (i + 5) := zi_ak i 5
  simp (disch := first | assumption | rfl | omega | decide | exact zb_01 _) only [zabs_e, zmax_e, zmin_e, zrf_s, zpush_s, zpush_n, zw_app, upd_app, updL_app, Nat.reduceEqDiff, Nat.add_left_cancel_iff, Nat.add_eq_left, Nat.left_eq_add, ↓reduceIte, true_and, and_true, Int32.reduceToNatClampNeg, zin_O, zi_ltO, zi_leO, zi_Olt, zi_Ole, zi_eqO, Nat.not_lt_zero, Nat.zero_le, List.append_nil, zrn_n, zrn_s, List.cons_append, List.nil_append, zlg_lt, zlg_gt, zlg_le, zlg_ge, zlg_eq, Int32.toInt_toInt64, Int64.reduceToInt, zw_zw, zw_sw1, zw_sw2, zw_sw3, zw_sw4, zw_sw5, zw_sw6, zw_sw7, ne_eq, zi_in, zi_cl, zi_le, zi_lt, zi_eq, zi_neg, zi_0le, zb_0, if_true, if_false, eq_self, zb_T, zb_F, Bool.false_eq_true, zO_eq, zO_ne1, zO_ne2, zO_nn, zi_ne1, zi_ne2, zi_lt1, zi_le1, zi_lt2, zi_le2, Int32.reduceLT, Int32.reduceLE, Nat.reduceLT, Nat.reduceLeDiff, Int32.reduceMul, Int32.reduceAdd, Int32.reduceSub, not_false_eq_true, not_true_eq_false, Int32.reduceToInt, Int.reduceLE, Int.reduceLT, Int.reduceNeg, ite_self, R_law_1276, SHF, PF, e1, e2, e3, e4, e5, b1, b2, b3, b4, b5, h1, h2]
theorem st_38 (hN : i + 6 ≤ N) (hN2 : N < 2147483648) (hR : zRel I L f g) : ∃ I2 L2 f2 g2 t2, zRel I2 L2 f2 g2 ∧ ∀ d Q, zWp (d + 100) zi_217 (some (N, X)) 1309 [.ref 1000000, .ref 0, .ref 80, .int (nI i)] [] (zSH, I, L, zP f g t) Q = zWp (d + 100) zi_217 (some (N, X)) 1332 [.ref 1000000, .ref 0, .ref 80, .int (nI i)] [] (zSH, I2, L2, zP f2 g2 t2) Q := by
  obtain ⟨r, I1, L1, f1, g1, t1, I2, L2, h1, h2, hR2, v1, v2⟩ := op_count (t := t) hR (X (i + 1))
  obtain ⟨v, rfl⟩ := v1 (by decide)
  refine ⟨I2, L2, f1, g1, t1, hR2, fun d Q => ?_⟩
  have b1 : i + 1 < N := by omega
  have e1 : nI i + 1 = nI (i + 1) := zi_ak i 1
  have b2 : i + 2 < N := by omega
  have e2 : nI i + 2 = nI (i + 2) := zi_ak i 2
  have b3 : i + 3 < N := by omega
  have e3 : nI i + 3 = nI (i + 3) := zi_ak i 3
  have b4 : i + 4 < N := by omega
  have e4 : nI i + 4 = nI (i + 4) := zi_ak i 4
  have b5 : i + 5 < N := by omega
  have e5 : nI i + 5 = nI (i + 5) := zi_ak i 5
  simp (disch := first | assumption | rfl | omega | decide | exact zb_01 _) only [zabs_e, zmax_e, zmin_e, zrf_s, zpush_s, zpush_n, zw_app, upd_app, updL_app, Nat.reduceEqDiff, Nat.add_left_cancel_iff, Nat.add_eq_left, Nat.left_eq_add, ↓reduceIte, true_and, and_true, Int32.reduceToNatClampNeg, zin_O, zi_ltO, zi_leO, zi_Olt, zi_Ole, zi_eqO, Nat.not_lt_zero, Nat.zero_le, List.append_nil, zrn_n, zrn_s, List.cons_append, List.nil_append, zlg_lt, zlg_gt, zlg_le, zlg_ge, zlg_eq, Int32.toInt_toInt64, Int64.reduceToInt, zw_zw, zw_sw1, zw_sw2, zw_sw3, zw_sw4, zw_sw5, zw_sw6, zw_sw7, ne_eq, zi_in, zi_cl, zi_le, zi_lt, zi_eq, zi_neg, zi_0le, zb_0, if_true, if_false, eq_self, zb_T, zb_F, Bool.false_eq_true, zO_eq, zO_ne1, zO_ne2, zO_nn, zi_ne1, zi_ne2, zi_lt1, zi_le1, zi_lt2, zi_le2, Int32.reduceLT, Int32.reduceLE, Nat.reduceLT, Nat.reduceLeDiff, Int32.reduceMul, Int32.reduceAdd, Int32.reduceSub, not_false_eq_true, not_true_eq_false, Int32.reduceToInt, Int.reduceLE, Int.reduceLT, Int.reduceNeg, ite_self, R_law_1309, SHF, PF, e1, e2, e3, e4, e5, b1, b2, b3, b4, b5, h1, h2]
end STEPS
